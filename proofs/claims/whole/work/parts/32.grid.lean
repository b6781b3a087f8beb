/-- the cells of the class LooseGrid; the worlds W, U, V -/
def LOK (G : XS) (W U V : Int) : Prop := kc G 0 5 ∧ rr G 0 0 = W ∧ rr G 0 1 = U ∧ rr G 0 2 = V ∧ rr G 0 4 = 148 ∧ rr G 0 5 = 159 ∧ WOK G W ∧ WOK G U ∧ WOK G V ∧ RDR G ∧ kc G 159 11 ∧ ll G 159 = 6 ∧ (∀ t, 0 ≤ t ∧ t < 6 → rr G 159 t = 160 + 2 * t) ∧ (∀ t, 0 ≤ t ∧ t < 6 → TOK G (160 + 2 * t)) ∧ (1 ≤ W ∧ W + 49 ≤ U ∧ U + 49 ≤ V ∧ V + 49 ≤ 148)
/-! the class LooseGrid: what it is asked of all as it is; a box, its speed, its place, gone -/
set_option maxRecDepth 8000 in
theorem CV_u {s : ZS} {W b f v : Int} {B : ZS} {N R T : Int} (hv : CV s W B N R T) (hb : 0 ≤ b ∧ b < N) : CV (up s (W + 2 + b) f v) W (up B b f v) N R T := by
  obtain ⟨v1, v2, v3, vB⟩ := hv
  refine ⟨?_, ?_, ?_, ?_⟩
  · rw [up_ne (by omega)]; exact v1
  · rw [up_ne (by omega)]; exact v2
  · rw [up_ne (by omega)]; exact v3
  · intro i g h
    by_cases q : i = b ∧ g = f
    · rw [q.1, q.2, up_eq, up_eq]
    · rw [up_ne (by omega), up_ne (by omega)]
      exact vB i g h
set_option maxRecDepth 8000 in
theorem OKB_g {B : ZS} {N b : Int} (hb : OKB B N) : OKB (up B b 8 0) N := by
  intro i hi
  have q := hb i hi
  have h8 : up B b 8 0 i 8 = B i 8 ∨ up B b 8 0 i 8 = 0 := by
    by_cases e : i = b
    · right; rw [e, up_eq]
    · left; rw [up_ne (Or.inl e)]
  simp (disch := omega) only [okb, up_ne]
  omega
def tnn : Nat → Int → Int
  | 0, c => c
  | n + 1, c => tnn n (10 * c + 9)
set_option maxRecDepth 8000 in
theorem tnn_m : ∀ (n : Nat) (c e : Int), 0 ≤ c → c ≤ e → c ≤ tnn n e ∧ tnn n c ≤ tnn n e := by
  intro n
  induction n with
  | zero => intro c e h0 h; exact ⟨h, h⟩
  | succ n ih =>
    intro c e h0 h
    have h1 := ih (10 * c + 9) (10 * e + 9) (by omega) (by omega)
    exact ⟨by show c ≤ tnn n (10 * e + 9); omega, h1.2⟩
set_option maxRecDepth 8000 in
theorem ptn_b {B : ZS} {N R m : Int} : ∀ (j : Nat) (k p : Int), 0 ≤ p → 0 ≤ ptn B N R m j k p ∧ ptn B N R m j k p ≤ tnn j p := by
  intro j
  induction j with
  | zero => intro k p h; exact ⟨h, Int.le_refl p⟩
  | succ j ih =>
    intro k p h
    by_cases q : gq B N R m k
    · rw [ptn_y q]
      have hd : 1 ≤ dg (B m 2) (B m 3) (k + 1) ∧ dg (B m 2) (B m 3) (k + 1) ≤ 4 := by unfold dg; omega
      have h1 := ih (k + 1) (p * 10 + dg (B m 2) (B m 3) (k + 1)) (by omega)
      have h2 := tnn_m j (p * 10 + dg (B m 2) (B m 3) (k + 1)) (10 * p + 9) (by omega) (by omega)
      exact ⟨h1.1, Int.le_trans h1.2 h2.2⟩
    · rw [ptn_n q]
      exact ⟨h, (tnn_m (j + 1) p p h (Int.le_refl p)).1⟩
set_option maxRecDepth 8000 in
theorem pt_b {B : ZS} {N R m : Int} : 0 ≤ pt B N R m ∧ pt B N R m ≤ 99999 := ptn_b 5 0 0 (Int.le_refl 0)
set_option maxRecDepth 8000 in
theorem s62_k {d : Nat} {Q : Option AV → XH → Prop} {G : XS} {s : ZS} {W U V : Int} {B : ZS} {N R T : Int} {k l x y w hh : Int} (hd : 5 ≤ d) (hg : LOK G W U V) (hv : CV s W B N R T) (hb : OKB B N) (hn : 0 ≤ N ∧ N ≤ 40 ∧ 0 ≤ R ∧ R ≤ 10 ∧ 0 ≤ T ∧ T ≤ 20000) (ik : ir k) (il : ir l) (ix : ir x) (iy : ir y) (iw : ir w) (ih : ir hh) (q : ¬((0 ≤ k ∧ k ≤ 3) ∧ 0 ≤ l ∧ l ≤ 1)) : Call d 62 [zrf 0, zint k, zint l, zint x, zint y, zint w, zint hh] (G, s) Q = Q (some (zint (-1))) (G, s) := by
  have hg' := hg
  obtain ⟨g1, g2, g3, g4, g5, g6, hw, hu, hx, g7, g8, g9, g10, g11, g12⟩ := hg'
  have hw' := hw
  obtain ⟨w1, w2, w3, w4, w5, w6, w7, w8, w9, w10, w11, w12, w13, w14, w15, w16, w17, w18, w19, w20, w21, w22, w23, w24, w25⟩ := hw'
  have hv' := hv
  obtain ⟨v1, v2, v3, vB⟩ := hv'
  rw [e62 (show 1 ≤ d by omega)]
  by_cases q0 : 0 ≤ k ∧ k ≤ 3
  · skip
    first
    | (exfalso; omega; done)
    | simp (disch := first | omega | exact rfl) only [↓u62_0, ↓u62_1, ↓u62_2, ↓u62_3, ↓u62_6, ↓u62_9, ↓u62_10, ↓u62_11, ↓u62_12, ↓u62_15, ↓u62_18, ↓u62_19, ↓u62_20, ↓u62_22, ↓u62_23, ↓u62_25, ↓u62_28, ↓u62_31, ↓u62_33, ↓u62_34, ↓u62_36, ↓u62_39, ↓u62_42, ↓u62_44, ↓u62_45, ↓u62_46, ↓u62_48, ↓u62_50, ↓u62_52, ↓u62_55, ↓u62_58, ↓u62_60, ↓u62_61, ↓u62_62, ↓u62_65, ↓u62_68, ↓u62_70, ↓u62_72, ↓u62_75, ↓u62_77, ↓u62_78, ↓u62_80, ↓u62_81, ↓u62_82, ↓u62_83, ↓u62_85, ↓u62_87, ↓u62_89, ↓u62_92, ↓u62_93, ↓u62_96, ↓u62_99, ↓u62_100, ↓u62_101, ↓lI_0, ↓lI_s, ↓lL_0, ↓lL_s, ↓lR_0, ↓lR_s, ↓sT_0, ↓sT_i, ↓sT_r, ↓sT_u, ↓sT_lu, ↓sU_0, ↓sU_i, ↓sU_r, ↓sU_u, ↓ite_bx, bx_T, bx_F, bx_pos, bx_neg, zws_i, zws_r, zws_l, zws_n, zCb_kc, xl_ll, xr_rr, xs_e, xset_e, Option.toList, List.cons_append, List.nil_append, zIb_e, zrng_e, nz_e, if_pos, if_neg, and_true, true_and, or_true, true_or, ite_self, bi_eq0, bi_eq1, bi_1, bi_0, bi_ir, bi_T, bi_F, up_eq, up_ne, ↓reduceIte, reduceIte, Nat.reduceAdd, Nat.reduceLeDiff, Nat.le_refl, Nat.zero_le, not_true_eq_false, not_false_eq_true, ne_eq, Int.reduceEq, Int.reduceLT, Int.reduceLE, Int.reduceAdd, Int.reduceSub, Int.reduceMul, Int.reduceNeg, pT g1, g2, g3, g4, g5, g6, pT w1, w2, pT w3, w4, w5, w6, v1, v2, v3, vB, s103, s105]
  · skip
    first
    | (exfalso; omega; done)
    | simp (disch := first | omega | exact rfl) only [↓u62_0, ↓u62_1, ↓u62_2, ↓u62_3, ↓u62_6, ↓u62_9, ↓u62_10, ↓u62_11, ↓u62_12, ↓u62_15, ↓u62_18, ↓u62_19, ↓u62_20, ↓u62_22, ↓u62_23, ↓u62_25, ↓u62_28, ↓u62_31, ↓u62_33, ↓u62_34, ↓u62_36, ↓u62_39, ↓u62_42, ↓u62_44, ↓u62_45, ↓u62_46, ↓u62_48, ↓u62_50, ↓u62_52, ↓u62_55, ↓u62_58, ↓u62_60, ↓u62_61, ↓u62_62, ↓u62_65, ↓u62_68, ↓u62_70, ↓u62_72, ↓u62_75, ↓u62_77, ↓u62_78, ↓u62_80, ↓u62_81, ↓u62_82, ↓u62_83, ↓u62_85, ↓u62_87, ↓u62_89, ↓u62_92, ↓u62_93, ↓u62_96, ↓u62_99, ↓u62_100, ↓u62_101, ↓lI_0, ↓lI_s, ↓lL_0, ↓lL_s, ↓lR_0, ↓lR_s, ↓sT_0, ↓sT_i, ↓sT_r, ↓sT_u, ↓sT_lu, ↓sU_0, ↓sU_i, ↓sU_r, ↓sU_u, ↓ite_bx, bx_T, bx_F, bx_pos, bx_neg, zws_i, zws_r, zws_l, zws_n, zCb_kc, xl_ll, xr_rr, xs_e, xset_e, Option.toList, List.cons_append, List.nil_append, zIb_e, zrng_e, nz_e, if_pos, if_neg, and_true, true_and, or_true, true_or, ite_self, bi_eq0, bi_eq1, bi_1, bi_0, bi_ir, bi_T, bi_F, up_eq, up_ne, ↓reduceIte, reduceIte, Nat.reduceAdd, Nat.reduceLeDiff, Nat.le_refl, Nat.zero_le, not_true_eq_false, not_false_eq_true, ne_eq, Int.reduceEq, Int.reduceLT, Int.reduceLE, Int.reduceAdd, Int.reduceSub, Int.reduceMul, Int.reduceNeg, pT g1, g2, g3, g4, g5, g6, pT w1, w2, pT w3, w4, w5, w6, v1, v2, v3, vB, s103, s105]
set_option maxRecDepth 8000 in
theorem s62_w {d : Nat} {Q : Option AV → XH → Prop} {G : XS} {s : ZS} {W U V : Int} {B : ZS} {N R T : Int} {k l x y w hh : Int} (hd : 5 ≤ d) (hg : LOK G W U V) (hv : CV s W B N R T) (hb : OKB B N) (hn : 0 ≤ N ∧ N ≤ 40 ∧ 0 ≤ R ∧ R ≤ 10 ∧ 0 ≤ T ∧ T ≤ 20000) (ik : ir k) (il : ir l) (ix : ir x) (iy : ir y) (iw : ir w) (ih : ir hh) (q : ((0 ≤ k ∧ k ≤ 3) ∧ 0 ≤ l ∧ l ≤ 1)) (q2 : ¬((1 ≤ w ∧ w ≤ 32) ∧ 1 ≤ hh ∧ hh ≤ 32)) : Call d 62 [zrf 0, zint k, zint l, zint x, zint y, zint w, zint hh] (G, s) Q = Q (some (zint (-2))) (G, s) := by
  have hg' := hg
  obtain ⟨g1, g2, g3, g4, g5, g6, hw, hu, hx, g7, g8, g9, g10, g11, g12⟩ := hg'
  have hw' := hw
  obtain ⟨w1, w2, w3, w4, w5, w6, w7, w8, w9, w10, w11, w12, w13, w14, w15, w16, w17, w18, w19, w20, w21, w22, w23, w24, w25⟩ := hw'
  have hv' := hv
  obtain ⟨v1, v2, v3, vB⟩ := hv'
  rw [e62 (show 1 ≤ d by omega)]
  by_cases q0 : 1 ≤ w ∧ w ≤ 32
  · skip
    first
    | (exfalso; omega; done)
    | simp (disch := first | omega | exact rfl) only [↓u62_0, ↓u62_1, ↓u62_2, ↓u62_3, ↓u62_6, ↓u62_9, ↓u62_10, ↓u62_11, ↓u62_12, ↓u62_15, ↓u62_18, ↓u62_19, ↓u62_20, ↓u62_22, ↓u62_23, ↓u62_25, ↓u62_28, ↓u62_31, ↓u62_33, ↓u62_34, ↓u62_36, ↓u62_39, ↓u62_42, ↓u62_44, ↓u62_45, ↓u62_46, ↓u62_48, ↓u62_50, ↓u62_52, ↓u62_55, ↓u62_58, ↓u62_60, ↓u62_61, ↓u62_62, ↓u62_65, ↓u62_68, ↓u62_70, ↓u62_72, ↓u62_75, ↓u62_77, ↓u62_78, ↓u62_80, ↓u62_81, ↓u62_82, ↓u62_83, ↓u62_85, ↓u62_87, ↓u62_89, ↓u62_92, ↓u62_93, ↓u62_96, ↓u62_99, ↓u62_100, ↓u62_101, ↓lI_0, ↓lI_s, ↓lL_0, ↓lL_s, ↓lR_0, ↓lR_s, ↓sT_0, ↓sT_i, ↓sT_r, ↓sT_u, ↓sT_lu, ↓sU_0, ↓sU_i, ↓sU_r, ↓sU_u, ↓ite_bx, bx_T, bx_F, bx_pos, bx_neg, zws_i, zws_r, zws_l, zws_n, zCb_kc, xl_ll, xr_rr, xs_e, xset_e, Option.toList, List.cons_append, List.nil_append, zIb_e, zrng_e, nz_e, if_pos, if_neg, and_true, true_and, or_true, true_or, ite_self, bi_eq0, bi_eq1, bi_1, bi_0, bi_ir, bi_T, bi_F, up_eq, up_ne, ↓reduceIte, reduceIte, Nat.reduceAdd, Nat.reduceLeDiff, Nat.le_refl, Nat.zero_le, not_true_eq_false, not_false_eq_true, ne_eq, Int.reduceEq, Int.reduceLT, Int.reduceLE, Int.reduceAdd, Int.reduceSub, Int.reduceMul, Int.reduceNeg, pT g1, g2, g3, g4, g5, g6, pT w1, w2, pT w3, w4, w5, w6, v1, v2, v3, vB, s103, s105]
  · skip
    first
    | (exfalso; omega; done)
    | simp (disch := first | omega | exact rfl) only [↓u62_0, ↓u62_1, ↓u62_2, ↓u62_3, ↓u62_6, ↓u62_9, ↓u62_10, ↓u62_11, ↓u62_12, ↓u62_15, ↓u62_18, ↓u62_19, ↓u62_20, ↓u62_22, ↓u62_23, ↓u62_25, ↓u62_28, ↓u62_31, ↓u62_33, ↓u62_34, ↓u62_36, ↓u62_39, ↓u62_42, ↓u62_44, ↓u62_45, ↓u62_46, ↓u62_48, ↓u62_50, ↓u62_52, ↓u62_55, ↓u62_58, ↓u62_60, ↓u62_61, ↓u62_62, ↓u62_65, ↓u62_68, ↓u62_70, ↓u62_72, ↓u62_75, ↓u62_77, ↓u62_78, ↓u62_80, ↓u62_81, ↓u62_82, ↓u62_83, ↓u62_85, ↓u62_87, ↓u62_89, ↓u62_92, ↓u62_93, ↓u62_96, ↓u62_99, ↓u62_100, ↓u62_101, ↓lI_0, ↓lI_s, ↓lL_0, ↓lL_s, ↓lR_0, ↓lR_s, ↓sT_0, ↓sT_i, ↓sT_r, ↓sT_u, ↓sT_lu, ↓sU_0, ↓sU_i, ↓sU_r, ↓sU_u, ↓ite_bx, bx_T, bx_F, bx_pos, bx_neg, zws_i, zws_r, zws_l, zws_n, zCb_kc, xl_ll, xr_rr, xs_e, xset_e, Option.toList, List.cons_append, List.nil_append, zIb_e, zrng_e, nz_e, if_pos, if_neg, and_true, true_and, or_true, true_or, ite_self, bi_eq0, bi_eq1, bi_1, bi_0, bi_ir, bi_T, bi_F, up_eq, up_ne, ↓reduceIte, reduceIte, Nat.reduceAdd, Nat.reduceLeDiff, Nat.le_refl, Nat.zero_le, not_true_eq_false, not_false_eq_true, ne_eq, Int.reduceEq, Int.reduceLT, Int.reduceLE, Int.reduceAdd, Int.reduceSub, Int.reduceMul, Int.reduceNeg, pT g1, g2, g3, g4, g5, g6, pT w1, w2, pT w3, w4, w5, w6, v1, v2, v3, vB, s103, s105]
set_option maxRecDepth 8000 in
theorem s62_p {d : Nat} {Q : Option AV → XH → Prop} {G : XS} {s : ZS} {W U V : Int} {B : ZS} {N R T : Int} {k l x y w hh : Int} (hd : 5 ≤ d) (hg : LOK G W U V) (hv : CV s W B N R T) (hb : OKB B N) (hn : 0 ≤ N ∧ N ≤ 40 ∧ 0 ≤ R ∧ R ≤ 10 ∧ 0 ≤ T ∧ T ≤ 20000) (ik : ir k) (il : ir l) (ix : ir x) (iy : ir y) (iw : ir w) (ih : ir hh) (q : ((0 ≤ k ∧ k ≤ 3) ∧ 0 ≤ l ∧ l ≤ 1)) (q2 : ((1 ≤ w ∧ w ≤ 32) ∧ 1 ≤ hh ∧ hh ≤ 32)) (q3 : ¬((0 ≤ x ∧ x ≤ 128 - w) ∧ 0 ≤ y ∧ y ≤ 128 - hh)) : Call d 62 [zrf 0, zint k, zint l, zint x, zint y, zint w, zint hh] (G, s) Q = Q (some (zint (-3))) (G, s) := by
  have hg' := hg
  obtain ⟨g1, g2, g3, g4, g5, g6, hw, hu, hx, g7, g8, g9, g10, g11, g12⟩ := hg'
  have hw' := hw
  obtain ⟨w1, w2, w3, w4, w5, w6, w7, w8, w9, w10, w11, w12, w13, w14, w15, w16, w17, w18, w19, w20, w21, w22, w23, w24, w25⟩ := hw'
  have hv' := hv
  obtain ⟨v1, v2, v3, vB⟩ := hv'
  rw [e62 (show 1 ≤ d by omega)]
  simp (disch := first | omega | exact rfl) only [↓u62_0, ↓u62_1, ↓u62_2, ↓u62_3, ↓u62_6, ↓u62_9, ↓u62_10, ↓u62_11, ↓u62_12, ↓u62_15, ↓u62_18, ↓u62_19, ↓u62_20, ↓u62_22, ↓u62_23, ↓u62_25, ↓u62_28, ↓u62_31, ↓u62_33, ↓u62_34, ↓u62_36, ↓u62_39, ↓u62_42, ↓u62_44, ↓u62_45, ↓u62_46, ↓u62_48, ↓u62_50, ↓u62_52, ↓u62_55, ↓u62_58, ↓u62_60, ↓u62_61, ↓u62_62, ↓u62_65, ↓u62_68, ↓u62_70, ↓u62_72, ↓u62_75, ↓u62_77, ↓u62_78, ↓u62_80, ↓u62_81, ↓u62_82, ↓u62_83, ↓u62_85, ↓u62_87, ↓u62_89, ↓u62_92, ↓u62_93, ↓u62_96, ↓u62_99, ↓u62_100, ↓u62_101, ↓lI_0, ↓lI_s, ↓lL_0, ↓lL_s, ↓lR_0, ↓lR_s, ↓sT_0, ↓sT_i, ↓sT_r, ↓sT_u, ↓sT_lu, ↓sU_0, ↓sU_i, ↓sU_r, ↓sU_u, ↓ite_bx, bx_T, bx_F, bx_pos, bx_neg, zws_i, zws_r, zws_l, zws_n, zCb_kc, xl_ll, xr_rr, xs_e, xset_e, Option.toList, List.cons_append, List.nil_append, zIb_e, zrng_e, nz_e, if_pos, if_neg, and_true, true_and, or_true, true_or, ite_self, bi_eq0, bi_eq1, bi_1, bi_0, bi_ir, bi_T, bi_F, up_eq, up_ne, ↓reduceIte, reduceIte, Nat.reduceAdd, Nat.reduceLeDiff, Nat.le_refl, Nat.zero_le, not_true_eq_false, not_false_eq_true, ne_eq, Int.reduceEq, Int.reduceLT, Int.reduceLE, Int.reduceAdd, Int.reduceSub, Int.reduceMul, Int.reduceNeg, pT g1, g2, g3, g4, g5, g6, pT w1, w2, pT w3, w4, w5, w6, v1, v2, v3, vB, s103, s105, bi_0 q3]
set_option maxRecDepth 8000 in
theorem s62_f {d : Nat} {Q : Option AV → XH → Prop} {G : XS} {s : ZS} {W U V : Int} {B : ZS} {N R T : Int} {k l x y w hh : Int} (hd : 5 ≤ d) (hg : LOK G W U V) (hv : CV s W B N R T) (hb : OKB B N) (hn : 0 ≤ N ∧ N ≤ 40 ∧ 0 ≤ R ∧ R ≤ 10 ∧ 0 ≤ T ∧ T ≤ 20000) (ik : ir k) (il : ir l) (ix : ir x) (iy : ir y) (iw : ir w) (ih : ir hh) (q : ((0 ≤ k ∧ k ≤ 3) ∧ 0 ≤ l ∧ l ≤ 1)) (q2 : ((1 ≤ w ∧ w ≤ 32) ∧ 1 ≤ hh ∧ hh ≤ 32)) (q3 : ((0 ≤ x ∧ x ≤ 128 - w) ∧ 0 ≤ y ∧ y ≤ 128 - hh)) (q4 : N = 40) : Call d 62 [zrf 0, zint k, zint l, zint x, zint y, zint w, zint hh] (G, s) Q = Q (some (zint (-4))) (G, s) := by
  have hg' := hg
  obtain ⟨g1, g2, g3, g4, g5, g6, hw, hu, hx, g7, g8, g9, g10, g11, g12⟩ := hg'
  have hw' := hw
  obtain ⟨w1, w2, w3, w4, w5, w6, w7, w8, w9, w10, w11, w12, w13, w14, w15, w16, w17, w18, w19, w20, w21, w22, w23, w24, w25⟩ := hw'
  have hv' := hv
  obtain ⟨v1, v2, v3, vB⟩ := hv'
  rw [e62 (show 1 ≤ d by omega)]
  simp (disch := first | omega | exact rfl) only [↓u62_0, ↓u62_1, ↓u62_2, ↓u62_3, ↓u62_6, ↓u62_9, ↓u62_10, ↓u62_11, ↓u62_12, ↓u62_15, ↓u62_18, ↓u62_19, ↓u62_20, ↓u62_22, ↓u62_23, ↓u62_25, ↓u62_28, ↓u62_31, ↓u62_33, ↓u62_34, ↓u62_36, ↓u62_39, ↓u62_42, ↓u62_44, ↓u62_45, ↓u62_46, ↓u62_48, ↓u62_50, ↓u62_52, ↓u62_55, ↓u62_58, ↓u62_60, ↓u62_61, ↓u62_62, ↓u62_65, ↓u62_68, ↓u62_70, ↓u62_72, ↓u62_75, ↓u62_77, ↓u62_78, ↓u62_80, ↓u62_81, ↓u62_82, ↓u62_83, ↓u62_85, ↓u62_87, ↓u62_89, ↓u62_92, ↓u62_93, ↓u62_96, ↓u62_99, ↓u62_100, ↓u62_101, ↓lI_0, ↓lI_s, ↓lL_0, ↓lL_s, ↓lR_0, ↓lR_s, ↓sT_0, ↓sT_i, ↓sT_r, ↓sT_u, ↓sT_lu, ↓sU_0, ↓sU_i, ↓sU_r, ↓sU_u, ↓ite_bx, bx_T, bx_F, bx_pos, bx_neg, zws_i, zws_r, zws_l, zws_n, zCb_kc, xl_ll, xr_rr, xs_e, xset_e, Option.toList, List.cons_append, List.nil_append, zIb_e, zrng_e, nz_e, if_pos, if_neg, and_true, true_and, or_true, true_or, ite_self, bi_eq0, bi_eq1, bi_1, bi_0, bi_ir, bi_T, bi_F, up_eq, up_ne, ↓reduceIte, reduceIte, Nat.reduceAdd, Nat.reduceLeDiff, Nat.le_refl, Nat.zero_le, not_true_eq_false, not_false_eq_true, ne_eq, Int.reduceEq, Int.reduceLT, Int.reduceLE, Int.reduceAdd, Int.reduceSub, Int.reduceMul, Int.reduceNeg, pT g1, g2, g3, g4, g5, g6, pT w1, w2, pT w3, w4, w5, w6, v1, v2, v3, vB, s103, s105, bi_1 q3, s38_n (show 1 ≤ d - 1 by omega) hw hv hb hn q4]
set_option maxRecDepth 8000 in
theorem s62_y {d : Nat} {Q : Option AV → XH → Prop} {G : XS} {s : ZS} {W U V : Int} {B : ZS} {N R T : Int} {k l x y w hh : Int} (hd : 5 ≤ d) (hg : LOK G W U V) (hv : CV s W B N R T) (hb : OKB B N) (hn : 0 ≤ N ∧ N ≤ 40 ∧ 0 ≤ R ∧ R ≤ 10 ∧ 0 ≤ T ∧ T ≤ 20000) (ik : ir k) (il : ir l) (ix : ir x) (iy : ir y) (iw : ir w) (ih : ir hh) (q : ((0 ≤ k ∧ k ≤ 3) ∧ 0 ≤ l ∧ l ≤ 1)) (q2 : ((1 ≤ w ∧ w ≤ 32) ∧ 1 ≤ hh ∧ hh ≤ 32)) (q3 : ((0 ≤ x ∧ x ≤ 128 - w) ∧ 0 ≤ y ∧ y ≤ 128 - hh)) (q4 : N < 40) : Call d 62 [zrf 0, zint k, zint l, zint x, zint y, zint w, zint hh] (G, s) Q = Q (some (zint N)) (G, bcm (up s W 5 (N + 1)) (W + 2 + N) k l x y w hh) := by
  have hg' := hg
  obtain ⟨g1, g2, g3, g4, g5, g6, hw, hu, hx, g7, g8, g9, g10, g11, g12⟩ := hg'
  have hw' := hw
  obtain ⟨w1, w2, w3, w4, w5, w6, w7, w8, w9, w10, w11, w12, w13, w14, w15, w16, w17, w18, w19, w20, w21, w22, w23, w24, w25⟩ := hw'
  have hv' := hv
  obtain ⟨v1, v2, v3, vB⟩ := hv'
  rw [e62 (show 1 ≤ d by omega)]
  simp (disch := first | omega | exact rfl) only [↓u62_0, ↓u62_1, ↓u62_2, ↓u62_3, ↓u62_6, ↓u62_9, ↓u62_10, ↓u62_11, ↓u62_12, ↓u62_15, ↓u62_18, ↓u62_19, ↓u62_20, ↓u62_22, ↓u62_23, ↓u62_25, ↓u62_28, ↓u62_31, ↓u62_33, ↓u62_34, ↓u62_36, ↓u62_39, ↓u62_42, ↓u62_44, ↓u62_45, ↓u62_46, ↓u62_48, ↓u62_50, ↓u62_52, ↓u62_55, ↓u62_58, ↓u62_60, ↓u62_61, ↓u62_62, ↓u62_65, ↓u62_68, ↓u62_70, ↓u62_72, ↓u62_75, ↓u62_77, ↓u62_78, ↓u62_80, ↓u62_81, ↓u62_82, ↓u62_83, ↓u62_85, ↓u62_87, ↓u62_89, ↓u62_92, ↓u62_93, ↓u62_96, ↓u62_99, ↓u62_100, ↓u62_101, ↓lI_0, ↓lI_s, ↓lL_0, ↓lL_s, ↓lR_0, ↓lR_s, ↓sT_0, ↓sT_i, ↓sT_r, ↓sT_u, ↓sT_lu, ↓sU_0, ↓sU_i, ↓sU_r, ↓sU_u, ↓ite_bx, bx_T, bx_F, bx_pos, bx_neg, zws_i, zws_r, zws_l, zws_n, zCb_kc, xl_ll, xr_rr, xs_e, xset_e, Option.toList, List.cons_append, List.nil_append, zIb_e, zrng_e, nz_e, if_pos, if_neg, and_true, true_and, or_true, true_or, ite_self, bi_eq0, bi_eq1, bi_1, bi_0, bi_ir, bi_T, bi_F, up_eq, up_ne, ↓reduceIte, reduceIte, Nat.reduceAdd, Nat.reduceLeDiff, Nat.le_refl, Nat.zero_le, not_true_eq_false, not_false_eq_true, ne_eq, Int.reduceEq, Int.reduceLT, Int.reduceLE, Int.reduceAdd, Int.reduceSub, Int.reduceMul, Int.reduceNeg, pT g1, g2, g3, g4, g5, g6, pT w1, w2, pT w3, w4, w5, w6, v1, v2, v3, vB, s103, s105, bi_1 q3, s38_y (show 1 ≤ d - 1 by omega) hw hv hb hn q4, s1 (show 1 ≤ d - 1 by omega) (w6 N (by omega)), bcm_ne, show N + 1 - 1 = N by omega]
set_option maxRecDepth 8000 in
theorem s63_n {d : Nat} {Q : Option AV → XH → Prop} {G : XS} {s : ZS} {W U V : Int} {B : ZS} {N R T : Int} {b : Int} {x y : Int} (hd : 5 ≤ d) (hg : LOK G W U V) (hv : CV s W B N R T) (hb : OKB B N) (hn : 0 ≤ N ∧ N ≤ 40 ∧ 0 ≤ R ∧ R ≤ 10 ∧ 0 ≤ T ∧ T ≤ 20000) (ib : ir b) (hb2 : ¬hr B N b)  : Call d 63 [zrf 0, zint b, zint x, zint y] (G, s) Q = Q (some (zint (-10001))) (G, s) := by
  have hg' := hg
  obtain ⟨g1, g2, g3, g4, g5, g6, hw, hu, hx, g7, g8, g9, g10, g11, g12⟩ := hg'
  have hw' := hw
  obtain ⟨w1, w2, w3, w4, w5, w6, w7, w8, w9, w10, w11, w12, w13, w14, w15, w16, w17, w18, w19, w20, w21, w22, w23, w24, w25⟩ := hw'
  have hv' := hv
  obtain ⟨v1, v2, v3, vB⟩ := hv'
  rw [e63 (show 1 ≤ d by omega)]
  simp (disch := first | omega | exact rfl) only [↓u63_0, ↓u63_1, ↓u63_4, ↓u63_5, ↓u63_8, ↓u63_10, ↓u63_12, ↓u63_15, ↓u63_18, ↓u63_19, ↓u63_20, ↓u63_22, ↓u63_24, ↓u63_27, ↓u63_30, ↓u63_31, ↓u63_33, ↓u63_35, ↓u63_38, ↓u63_41, ↓u63_44, ↓u63_45, ↓u63_47, ↓u63_50, ↓u63_53, ↓u63_56, ↓u63_57, ↓u63_59, ↓u63_61, ↓u63_64, ↓u63_66, ↓u63_67, ↓u63_68, ↓u63_70, ↓u63_73, ↓u63_74, ↓u63_76, ↓u63_77, ↓u63_79, ↓u63_81, ↓u63_82, ↓u63_85, ↓u63_87, ↓u63_88, ↓u63_91, ↓u63_93, ↓lI_0, ↓lI_s, ↓lL_0, ↓lL_s, ↓lR_0, ↓lR_s, ↓sT_0, ↓sT_i, ↓sT_r, ↓sT_u, ↓sT_lu, ↓sU_0, ↓sU_i, ↓sU_r, ↓sU_u, ↓ite_bx, bx_T, bx_F, bx_pos, bx_neg, zws_i, zws_r, zws_l, zws_n, zCb_kc, xl_ll, xr_rr, xs_e, xset_e, Option.toList, List.cons_append, List.nil_append, zIb_e, zrng_e, nz_e, if_pos, if_neg, and_true, true_and, or_true, true_or, ite_self, bi_eq0, bi_eq1, bi_1, bi_0, bi_ir, bi_T, bi_F, up_eq, up_ne, ↓reduceIte, reduceIte, Nat.reduceAdd, Nat.reduceLeDiff, Nat.le_refl, Nat.zero_le, not_true_eq_false, not_false_eq_true, ne_eq, Int.reduceEq, Int.reduceLT, Int.reduceLE, Int.reduceAdd, Int.reduceSub, Int.reduceMul, Int.reduceNeg, pT g1, g2, g3, g4, g5, g6, pT w1, w2, pT w3, w4, w5, w6, v1, v2, v3, vB, s37_n (show 2 ≤ d - 1 by omega) hw hv hb hn ib hb2]
set_option maxRecDepth 8000 in
theorem s63_b {d : Nat} {Q : Option AV → XH → Prop} {G : XS} {s : ZS} {W U V : Int} {B : ZS} {N R T : Int} {b : Int} {x y : Int} (hd : 5 ≤ d) (hg : LOK G W U V) (hv : CV s W B N R T) (hb : OKB B N) (hn : 0 ≤ N ∧ N ≤ 40 ∧ 0 ≤ R ∧ R ≤ 10 ∧ 0 ≤ T ∧ T ≤ 20000) (hb2 : hr B N b) (ix : ir x) (iy : ir y) (q : ¬((-9 ≤ x ∧ x ≤ 9) ∧ -9 ≤ y ∧ y ≤ 9)) : Call d 63 [zrf 0, zint b, zint x, zint y] (G, s) Q = Q (some (zint (-10002))) (G, s) := by
  have hg' := hg
  obtain ⟨g1, g2, g3, g4, g5, g6, hw, hu, hx, g7, g8, g9, g10, g11, g12⟩ := hg'
  have hw' := hw
  obtain ⟨w1, w2, w3, w4, w5, w6, w7, w8, w9, w10, w11, w12, w13, w14, w15, w16, w17, w18, w19, w20, w21, w22, w23, w24, w25⟩ := hw'
  have hv' := hv
  obtain ⟨v1, v2, v3, vB⟩ := hv'
  have bb := hb b hb2.1
  have k2 := okb_o (G := G) hv hb hb2.1
  have k1 := w6 b (by omega)
  rw [e63 (show 1 ≤ d by omega)]
  by_cases q0 : -9 ≤ x ∧ x ≤ 9
  · skip
    first
    | (exfalso; omega; done)
    | simp (disch := first | omega | exact rfl) only [↓u63_0, ↓u63_1, ↓u63_4, ↓u63_5, ↓u63_8, ↓u63_10, ↓u63_12, ↓u63_15, ↓u63_18, ↓u63_19, ↓u63_20, ↓u63_22, ↓u63_24, ↓u63_27, ↓u63_30, ↓u63_31, ↓u63_33, ↓u63_35, ↓u63_38, ↓u63_41, ↓u63_44, ↓u63_45, ↓u63_47, ↓u63_50, ↓u63_53, ↓u63_56, ↓u63_57, ↓u63_59, ↓u63_61, ↓u63_64, ↓u63_66, ↓u63_67, ↓u63_68, ↓u63_70, ↓u63_73, ↓u63_74, ↓u63_76, ↓u63_77, ↓u63_79, ↓u63_81, ↓u63_82, ↓u63_85, ↓u63_87, ↓u63_88, ↓u63_91, ↓u63_93, ↓lI_0, ↓lI_s, ↓lL_0, ↓lL_s, ↓lR_0, ↓lR_s, ↓sT_0, ↓sT_i, ↓sT_r, ↓sT_u, ↓sT_lu, ↓sU_0, ↓sU_i, ↓sU_r, ↓sU_u, ↓ite_bx, bx_T, bx_F, bx_pos, bx_neg, zws_i, zws_r, zws_l, zws_n, zCb_kc, xl_ll, xr_rr, xs_e, xset_e, Option.toList, List.cons_append, List.nil_append, zIb_e, zrng_e, nz_e, if_pos, if_neg, and_true, true_and, or_true, true_or, ite_self, bi_eq0, bi_eq1, bi_1, bi_0, bi_ir, bi_T, bi_F, up_eq, up_ne, ↓reduceIte, reduceIte, Nat.reduceAdd, Nat.reduceLeDiff, Nat.le_refl, Nat.zero_le, not_true_eq_false, not_false_eq_true, ne_eq, Int.reduceEq, Int.reduceLT, Int.reduceLE, Int.reduceAdd, Int.reduceSub, Int.reduceMul, Int.reduceNeg, pT g1, g2, g3, g4, g5, g6, pT w1, w2, pT w3, w4, w5, w6, v1, v2, v3, vB, s37_y (show 2 ≤ d - 1 by omega) hw hv hb hn hb2, pT k1, s103]
  · skip
    first
    | (exfalso; omega; done)
    | simp (disch := first | omega | exact rfl) only [↓u63_0, ↓u63_1, ↓u63_4, ↓u63_5, ↓u63_8, ↓u63_10, ↓u63_12, ↓u63_15, ↓u63_18, ↓u63_19, ↓u63_20, ↓u63_22, ↓u63_24, ↓u63_27, ↓u63_30, ↓u63_31, ↓u63_33, ↓u63_35, ↓u63_38, ↓u63_41, ↓u63_44, ↓u63_45, ↓u63_47, ↓u63_50, ↓u63_53, ↓u63_56, ↓u63_57, ↓u63_59, ↓u63_61, ↓u63_64, ↓u63_66, ↓u63_67, ↓u63_68, ↓u63_70, ↓u63_73, ↓u63_74, ↓u63_76, ↓u63_77, ↓u63_79, ↓u63_81, ↓u63_82, ↓u63_85, ↓u63_87, ↓u63_88, ↓u63_91, ↓u63_93, ↓lI_0, ↓lI_s, ↓lL_0, ↓lL_s, ↓lR_0, ↓lR_s, ↓sT_0, ↓sT_i, ↓sT_r, ↓sT_u, ↓sT_lu, ↓sU_0, ↓sU_i, ↓sU_r, ↓sU_u, ↓ite_bx, bx_T, bx_F, bx_pos, bx_neg, zws_i, zws_r, zws_l, zws_n, zCb_kc, xl_ll, xr_rr, xs_e, xset_e, Option.toList, List.cons_append, List.nil_append, zIb_e, zrng_e, nz_e, if_pos, if_neg, and_true, true_and, or_true, true_or, ite_self, bi_eq0, bi_eq1, bi_1, bi_0, bi_ir, bi_T, bi_F, up_eq, up_ne, ↓reduceIte, reduceIte, Nat.reduceAdd, Nat.reduceLeDiff, Nat.le_refl, Nat.zero_le, not_true_eq_false, not_false_eq_true, ne_eq, Int.reduceEq, Int.reduceLT, Int.reduceLE, Int.reduceAdd, Int.reduceSub, Int.reduceMul, Int.reduceNeg, pT g1, g2, g3, g4, g5, g6, pT w1, w2, pT w3, w4, w5, w6, v1, v2, v3, vB, s37_y (show 2 ≤ d - 1 by omega) hw hv hb hn hb2, pT k1, s103]
set_option maxRecDepth 8000 in
theorem s63_s {d : Nat} {Q : Option AV → XH → Prop} {G : XS} {s : ZS} {W U V : Int} {B : ZS} {N R T : Int} {b : Int} {x y : Int} (hd : 5 ≤ d) (hg : LOK G W U V) (hv : CV s W B N R T) (hb : OKB B N) (hn : 0 ≤ N ∧ N ≤ 40 ∧ 0 ≤ R ∧ R ≤ 10 ∧ 0 ≤ T ∧ T ≤ 20000) (hb2 : hr B N b) (ix : ir x) (iy : ir y) (q : ((-9 ≤ x ∧ x ≤ 9) ∧ -9 ≤ y ∧ y ≤ 9)) (q2 : B b 0 = 0) : Call d 63 [zrf 0, zint b, zint x, zint y] (G, s) Q = Q (some (zint (-10003))) (G, s) := by
  have hg' := hg
  obtain ⟨g1, g2, g3, g4, g5, g6, hw, hu, hx, g7, g8, g9, g10, g11, g12⟩ := hg'
  have hw' := hw
  obtain ⟨w1, w2, w3, w4, w5, w6, w7, w8, w9, w10, w11, w12, w13, w14, w15, w16, w17, w18, w19, w20, w21, w22, w23, w24, w25⟩ := hw'
  have hv' := hv
  obtain ⟨v1, v2, v3, vB⟩ := hv'
  have bb := hb b hb2.1
  have k2 := okb_o (G := G) hv hb hb2.1
  have k1 := w6 b (by omega)
  rw [e63 (show 1 ≤ d by omega)]
  simp (disch := first | omega | exact rfl) only [↓u63_0, ↓u63_1, ↓u63_4, ↓u63_5, ↓u63_8, ↓u63_10, ↓u63_12, ↓u63_15, ↓u63_18, ↓u63_19, ↓u63_20, ↓u63_22, ↓u63_24, ↓u63_27, ↓u63_30, ↓u63_31, ↓u63_33, ↓u63_35, ↓u63_38, ↓u63_41, ↓u63_44, ↓u63_45, ↓u63_47, ↓u63_50, ↓u63_53, ↓u63_56, ↓u63_57, ↓u63_59, ↓u63_61, ↓u63_64, ↓u63_66, ↓u63_67, ↓u63_68, ↓u63_70, ↓u63_73, ↓u63_74, ↓u63_76, ↓u63_77, ↓u63_79, ↓u63_81, ↓u63_82, ↓u63_85, ↓u63_87, ↓u63_88, ↓u63_91, ↓u63_93, ↓lI_0, ↓lI_s, ↓lL_0, ↓lL_s, ↓lR_0, ↓lR_s, ↓sT_0, ↓sT_i, ↓sT_r, ↓sT_u, ↓sT_lu, ↓sU_0, ↓sU_i, ↓sU_r, ↓sU_u, ↓ite_bx, bx_T, bx_F, bx_pos, bx_neg, zws_i, zws_r, zws_l, zws_n, zCb_kc, xl_ll, xr_rr, xs_e, xset_e, Option.toList, List.cons_append, List.nil_append, zIb_e, zrng_e, nz_e, if_pos, if_neg, and_true, true_and, or_true, true_or, ite_self, bi_eq0, bi_eq1, bi_1, bi_0, bi_ir, bi_T, bi_F, up_eq, up_ne, ↓reduceIte, reduceIte, Nat.reduceAdd, Nat.reduceLeDiff, Nat.le_refl, Nat.zero_le, not_true_eq_false, not_false_eq_true, ne_eq, Int.reduceEq, Int.reduceLT, Int.reduceLE, Int.reduceAdd, Int.reduceSub, Int.reduceMul, Int.reduceNeg, pT g1, g2, g3, g4, g5, g6, pT w1, w2, pT w3, w4, w5, w6, v1, v2, v3, vB, s37_y (show 2 ≤ d - 1 by omega) hw hv hb hn hb2, pT k1, s103]
set_option maxRecDepth 8000 in
theorem s63_y {d : Nat} {Q : Option AV → XH → Prop} {G : XS} {s : ZS} {W U V : Int} {B : ZS} {N R T : Int} {b : Int} {x y : Int} (hd : 5 ≤ d) (hg : LOK G W U V) (hv : CV s W B N R T) (hb : OKB B N) (hn : 0 ≤ N ∧ N ≤ 40 ∧ 0 ≤ R ∧ R ≤ 10 ∧ 0 ≤ T ∧ T ≤ 20000) (hb2 : hr B N b) (ix : ir x) (iy : ir y) (q : ((-9 ≤ x ∧ x ≤ 9) ∧ -9 ≤ y ∧ y ≤ 9)) (q2 : B b 0 ≠ 0) : Call d 63 [zrf 0, zint b, zint x, zint y] (G, s) Q = Q (some (zint (100 * (B b 6 + 50) + B b 7 + 50))) (G, up (up s (W + 2 + b) 6 x) (W + 2 + b) 7 y) := by
  have hg' := hg
  obtain ⟨g1, g2, g3, g4, g5, g6, hw, hu, hx, g7, g8, g9, g10, g11, g12⟩ := hg'
  have hw' := hw
  obtain ⟨w1, w2, w3, w4, w5, w6, w7, w8, w9, w10, w11, w12, w13, w14, w15, w16, w17, w18, w19, w20, w21, w22, w23, w24, w25⟩ := hw'
  have hv' := hv
  obtain ⟨v1, v2, v3, vB⟩ := hv'
  have bb := hb b hb2.1
  have k2 := okb_o (G := G) hv hb hb2.1
  have k1 := w6 b (by omega)
  rw [e63 (show 1 ≤ d by omega)]
  simp (disch := first | omega | exact rfl) only [↓u63_0, ↓u63_1, ↓u63_4, ↓u63_5, ↓u63_8, ↓u63_10, ↓u63_12, ↓u63_15, ↓u63_18, ↓u63_19, ↓u63_20, ↓u63_22, ↓u63_24, ↓u63_27, ↓u63_30, ↓u63_31, ↓u63_33, ↓u63_35, ↓u63_38, ↓u63_41, ↓u63_44, ↓u63_45, ↓u63_47, ↓u63_50, ↓u63_53, ↓u63_56, ↓u63_57, ↓u63_59, ↓u63_61, ↓u63_64, ↓u63_66, ↓u63_67, ↓u63_68, ↓u63_70, ↓u63_73, ↓u63_74, ↓u63_76, ↓u63_77, ↓u63_79, ↓u63_81, ↓u63_82, ↓u63_85, ↓u63_87, ↓u63_88, ↓u63_91, ↓u63_93, ↓lI_0, ↓lI_s, ↓lL_0, ↓lL_s, ↓lR_0, ↓lR_s, ↓sT_0, ↓sT_i, ↓sT_r, ↓sT_u, ↓sT_lu, ↓sU_0, ↓sU_i, ↓sU_r, ↓sU_u, ↓ite_bx, bx_T, bx_F, bx_pos, bx_neg, zws_i, zws_r, zws_l, zws_n, zCb_kc, xl_ll, xr_rr, xs_e, xset_e, Option.toList, List.cons_append, List.nil_append, zIb_e, zrng_e, nz_e, if_pos, if_neg, and_true, true_and, or_true, true_or, ite_self, bi_eq0, bi_eq1, bi_1, bi_0, bi_ir, bi_T, bi_F, up_eq, up_ne, ↓reduceIte, reduceIte, Nat.reduceAdd, Nat.reduceLeDiff, Nat.le_refl, Nat.zero_le, not_true_eq_false, not_false_eq_true, ne_eq, Int.reduceEq, Int.reduceLT, Int.reduceLE, Int.reduceAdd, Int.reduceSub, Int.reduceMul, Int.reduceNeg, pT g1, g2, g3, g4, g5, g6, pT w1, w2, pT w3, w4, w5, w6, v1, v2, v3, vB, s37_y (show 2 ≤ d - 1 by omega) hw hv hb hn hb2, pT k1, s103]
set_option maxRecDepth 8000 in
theorem s64_n {d : Nat} {Q : Option AV → XH → Prop} {G : XS} {s : ZS} {W U V : Int} {B : ZS} {N R T : Int} {b : Int} {x y : Int} (hd : 5 ≤ d) (hg : LOK G W U V) (hv : CV s W B N R T) (hb : OKB B N) (hn : 0 ≤ N ∧ N ≤ 40 ∧ 0 ≤ R ∧ R ≤ 10 ∧ 0 ≤ T ∧ T ≤ 20000) (ib : ir b) (hb2 : ¬hr B N b)  : Call d 64 [zrf 0, zint b, zint x, zint y] (G, s) Q = Q (some (zint (-1))) (G, s) := by
  have hg' := hg
  obtain ⟨g1, g2, g3, g4, g5, g6, hw, hu, hx, g7, g8, g9, g10, g11, g12⟩ := hg'
  have hw' := hw
  obtain ⟨w1, w2, w3, w4, w5, w6, w7, w8, w9, w10, w11, w12, w13, w14, w15, w16, w17, w18, w19, w20, w21, w22, w23, w24, w25⟩ := hw'
  have hv' := hv
  obtain ⟨v1, v2, v3, vB⟩ := hv'
  rw [e64 (show 1 ≤ d by omega)]
  simp (disch := first | omega | exact rfl) only [↓u64_0, ↓u64_1, ↓u64_4, ↓u64_5, ↓u64_8, ↓u64_10, ↓u64_12, ↓u64_15, ↓u64_16, ↓u64_17, ↓u64_18, ↓u64_19, ↓u64_21, ↓u64_24, ↓u64_26, ↓u64_29, ↓u64_32, ↓u64_35, ↓u64_37, ↓u64_38, ↓u64_39, ↓u64_41, ↓u64_44, ↓u64_45, ↓u64_47, ↓u64_48, ↓u64_50, ↓u64_53, ↓u64_54, ↓u64_56, ↓u64_58, ↓u64_59, ↓u64_62, ↓u64_64, ↓u64_65, ↓u64_68, ↓u64_70, ↓u64_72, ↓u64_73, ↓u64_75, ↓u64_77, ↓u64_78, ↓u64_79, ↓lI_0, ↓lI_s, ↓lL_0, ↓lL_s, ↓lR_0, ↓lR_s, ↓sT_0, ↓sT_i, ↓sT_r, ↓sT_u, ↓sT_lu, ↓sU_0, ↓sU_i, ↓sU_r, ↓sU_u, ↓ite_bx, bx_T, bx_F, bx_pos, bx_neg, zws_i, zws_r, zws_l, zws_n, zCb_kc, xl_ll, xr_rr, xs_e, xset_e, Option.toList, List.cons_append, List.nil_append, zIb_e, zrng_e, nz_e, if_pos, if_neg, and_true, true_and, or_true, true_or, ite_self, bi_eq0, bi_eq1, bi_1, bi_0, bi_ir, bi_T, bi_F, up_eq, up_ne, ↓reduceIte, reduceIte, Nat.reduceAdd, Nat.reduceLeDiff, Nat.le_refl, Nat.zero_le, not_true_eq_false, not_false_eq_true, ne_eq, Int.reduceEq, Int.reduceLT, Int.reduceLE, Int.reduceAdd, Int.reduceSub, Int.reduceMul, Int.reduceNeg, pT g1, g2, g3, g4, g5, g6, pT w1, w2, pT w3, w4, w5, w6, v1, v2, v3, vB, s37_n (show 2 ≤ d - 1 by omega) hw hv hb hn ib hb2]
set_option maxRecDepth 8000 in
theorem s64_s {d : Nat} {Q : Option AV → XH → Prop} {G : XS} {s : ZS} {W U V : Int} {B : ZS} {N R T : Int} {b : Int} {x y : Int} (hd : 5 ≤ d) (hg : LOK G W U V) (hv : CV s W B N R T) (hb : OKB B N) (hn : 0 ≤ N ∧ N ≤ 40 ∧ 0 ≤ R ∧ R ≤ 10 ∧ 0 ≤ T ∧ T ≤ 20000) (hb2 : hr B N b) (ix : ir x) (iy : ir y) (q : ¬((0 ≤ x ∧ x ≤ 128 - B b 4) ∧ 0 ≤ y ∧ y ≤ 128 - B b 5)) : Call d 64 [zrf 0, zint b, zint x, zint y] (G, s) Q = Q (some (zint (-3))) (G, s) := by
  have hg' := hg
  obtain ⟨g1, g2, g3, g4, g5, g6, hw, hu, hx, g7, g8, g9, g10, g11, g12⟩ := hg'
  have hw' := hw
  obtain ⟨w1, w2, w3, w4, w5, w6, w7, w8, w9, w10, w11, w12, w13, w14, w15, w16, w17, w18, w19, w20, w21, w22, w23, w24, w25⟩ := hw'
  have hv' := hv
  obtain ⟨v1, v2, v3, vB⟩ := hv'
  have bb := hb b hb2.1
  have k2 := okb_o (G := G) hv hb hb2.1
  have k1 := w6 b (by omega)
  rw [e64 (show 1 ≤ d by omega)]
  simp (disch := first | omega | exact rfl) only [↓u64_0, ↓u64_1, ↓u64_4, ↓u64_5, ↓u64_8, ↓u64_10, ↓u64_12, ↓u64_15, ↓u64_16, ↓u64_17, ↓u64_18, ↓u64_19, ↓u64_21, ↓u64_24, ↓u64_26, ↓u64_29, ↓u64_32, ↓u64_35, ↓u64_37, ↓u64_38, ↓u64_39, ↓u64_41, ↓u64_44, ↓u64_45, ↓u64_47, ↓u64_48, ↓u64_50, ↓u64_53, ↓u64_54, ↓u64_56, ↓u64_58, ↓u64_59, ↓u64_62, ↓u64_64, ↓u64_65, ↓u64_68, ↓u64_70, ↓u64_72, ↓u64_73, ↓u64_75, ↓u64_77, ↓u64_78, ↓u64_79, ↓lI_0, ↓lI_s, ↓lL_0, ↓lL_s, ↓lR_0, ↓lR_s, ↓sT_0, ↓sT_i, ↓sT_r, ↓sT_u, ↓sT_lu, ↓sU_0, ↓sU_i, ↓sU_r, ↓sU_u, ↓ite_bx, bx_T, bx_F, bx_pos, bx_neg, zws_i, zws_r, zws_l, zws_n, zCb_kc, xl_ll, xr_rr, xs_e, xset_e, Option.toList, List.cons_append, List.nil_append, zIb_e, zrng_e, nz_e, if_pos, if_neg, and_true, true_and, or_true, true_or, ite_self, bi_eq0, bi_eq1, bi_1, bi_0, bi_ir, bi_T, bi_F, up_eq, up_ne, ↓reduceIte, reduceIte, Nat.reduceAdd, Nat.reduceLeDiff, Nat.le_refl, Nat.zero_le, not_true_eq_false, not_false_eq_true, ne_eq, Int.reduceEq, Int.reduceLT, Int.reduceLE, Int.reduceAdd, Int.reduceSub, Int.reduceMul, Int.reduceNeg, pT g1, g2, g3, g4, g5, g6, pT w1, w2, pT w3, w4, w5, w6, v1, v2, v3, vB, s37_y (show 2 ≤ d - 1 by omega) hw hv hb hn hb2, pT k1, s105, bi_0 q]
set_option maxRecDepth 8000 in
theorem s64_y {d : Nat} {Q : Option AV → XH → Prop} {G : XS} {s : ZS} {W U V : Int} {B : ZS} {N R T : Int} {b : Int} {x y : Int} (hd : 5 ≤ d) (hg : LOK G W U V) (hv : CV s W B N R T) (hb : OKB B N) (hn : 0 ≤ N ∧ N ≤ 40 ∧ 0 ≤ R ∧ R ≤ 10 ∧ 0 ≤ T ∧ T ≤ 20000) (hb2 : hr B N b) (ix : ir x) (iy : ir y) (q : ((0 ≤ x ∧ x ≤ 128 - B b 4) ∧ 0 ≤ y ∧ y ≤ 128 - B b 5)) : Call d 64 [zrf 0, zint b, zint x, zint y] (G, s) Q = Q (some (zint ((x - B b 2) * (x - B b 2) + (y - B b 3) * (y - B b 3)))) (G, up (up s (W + 2 + b) 2 x) (W + 2 + b) 3 y) := by
  have hg' := hg
  obtain ⟨g1, g2, g3, g4, g5, g6, hw, hu, hx, g7, g8, g9, g10, g11, g12⟩ := hg'
  have hw' := hw
  obtain ⟨w1, w2, w3, w4, w5, w6, w7, w8, w9, w10, w11, w12, w13, w14, w15, w16, w17, w18, w19, w20, w21, w22, w23, w24, w25⟩ := hw'
  have hv' := hv
  obtain ⟨v1, v2, v3, vB⟩ := hv'
  have bb := hb b hb2.1
  have k2 := okb_o (G := G) hv hb hb2.1
  have k1 := w6 b (by omega)
  rw [e64 (show 1 ≤ d by omega)]
  simp (disch := first | omega | exact rfl) only [↓u64_0, ↓u64_1, ↓u64_4, ↓u64_5, ↓u64_8, ↓u64_10, ↓u64_12, ↓u64_15, ↓u64_16, ↓u64_17, ↓u64_18, ↓u64_19, ↓u64_21, ↓u64_24, ↓u64_26, ↓u64_29, ↓u64_32, ↓u64_35, ↓u64_37, ↓u64_38, ↓u64_39, ↓u64_41, ↓u64_44, ↓u64_45, ↓u64_47, ↓u64_48, ↓u64_50, ↓u64_53, ↓u64_54, ↓u64_56, ↓u64_58, ↓u64_59, ↓u64_62, ↓u64_64, ↓u64_65, ↓u64_68, ↓u64_70, ↓u64_72, ↓u64_73, ↓u64_75, ↓u64_77, ↓u64_78, ↓u64_79, ↓lI_0, ↓lI_s, ↓lL_0, ↓lL_s, ↓lR_0, ↓lR_s, ↓sT_0, ↓sT_i, ↓sT_r, ↓sT_u, ↓sT_lu, ↓sU_0, ↓sU_i, ↓sU_r, ↓sU_u, ↓ite_bx, bx_T, bx_F, bx_pos, bx_neg, zws_i, zws_r, zws_l, zws_n, zCb_kc, xl_ll, xr_rr, xs_e, xset_e, Option.toList, List.cons_append, List.nil_append, zIb_e, zrng_e, nz_e, if_pos, if_neg, and_true, true_and, or_true, true_or, ite_self, bi_eq0, bi_eq1, bi_1, bi_0, bi_ir, bi_T, bi_F, up_eq, up_ne, ↓reduceIte, reduceIte, Nat.reduceAdd, Nat.reduceLeDiff, Nat.le_refl, Nat.zero_le, not_true_eq_false, not_false_eq_true, ne_eq, Int.reduceEq, Int.reduceLT, Int.reduceLE, Int.reduceAdd, Int.reduceSub, Int.reduceMul, Int.reduceNeg, pT g1, g2, g3, g4, g5, g6, pT w1, w2, pT w3, w4, w5, w6, v1, v2, v3, vB, s37_y (show 2 ≤ d - 1 by omega) hw hv hb hn hb2, pT k1, s105, bi_1 q]
set_option maxRecDepth 8000 in
theorem s65_n {d : Nat} {Q : Option AV → XH → Prop} {G : XS} {s : ZS} {W U V : Int} {B : ZS} {N R T : Int} {b : Int}  (hd : 5 ≤ d) (hg : LOK G W U V) (hv : CV s W B N R T) (hb : OKB B N) (hn : 0 ≤ N ∧ N ≤ 40 ∧ 0 ≤ R ∧ R ≤ 10 ∧ 0 ≤ T ∧ T ≤ 20000) (ib : ir b) (hb2 : ¬hr B N b)  : Call d 65 [zrf 0, zint b] (G, s) Q = Q (some (zint (-1))) (G, s) := by
  have hg' := hg
  obtain ⟨g1, g2, g3, g4, g5, g6, hw, hu, hx, g7, g8, g9, g10, g11, g12⟩ := hg'
  have hw' := hw
  obtain ⟨w1, w2, w3, w4, w5, w6, w7, w8, w9, w10, w11, w12, w13, w14, w15, w16, w17, w18, w19, w20, w21, w22, w23, w24, w25⟩ := hw'
  have hv' := hv
  obtain ⟨v1, v2, v3, vB⟩ := hv'
  rw [e65 (show 1 ≤ d by omega)]
  simp (disch := first | omega | exact rfl) only [↓u65_0, ↓u65_1, ↓u65_4, ↓u65_5, ↓u65_8, ↓u65_9, ↓u65_10, ↓u65_13, ↓u65_14, ↓u65_15, ↓u65_16, ↓u65_17, ↓u65_20, ↓u65_21, ↓u65_24, ↓u65_27, ↓lI_0, ↓lI_s, ↓lL_0, ↓lL_s, ↓lR_0, ↓lR_s, ↓sT_0, ↓sT_i, ↓sT_r, ↓sT_u, ↓sT_lu, ↓sU_0, ↓sU_i, ↓sU_r, ↓sU_u, ↓ite_bx, bx_T, bx_F, bx_pos, bx_neg, zws_i, zws_r, zws_l, zws_n, zCb_kc, xl_ll, xr_rr, xs_e, xset_e, Option.toList, List.cons_append, List.nil_append, zIb_e, zrng_e, nz_e, if_pos, if_neg, and_true, true_and, or_true, true_or, ite_self, bi_eq0, bi_eq1, bi_1, bi_0, bi_ir, bi_T, bi_F, up_eq, up_ne, ↓reduceIte, reduceIte, Nat.reduceAdd, Nat.reduceLeDiff, Nat.le_refl, Nat.zero_le, not_true_eq_false, not_false_eq_true, ne_eq, Int.reduceEq, Int.reduceLT, Int.reduceLE, Int.reduceAdd, Int.reduceSub, Int.reduceMul, Int.reduceNeg, pT g1, g2, g3, g4, g5, g6, pT w1, w2, pT w3, w4, w5, w6, v1, v2, v3, vB, s37_n (show 2 ≤ d - 1 by omega) hw hv hb hn ib hb2]
set_option maxRecDepth 8000 in
theorem s65_y {d : Nat} {Q : Option AV → XH → Prop} {G : XS} {s : ZS} {W U V : Int} {B : ZS} {N R T : Int} {b : Int}  (hd : 5 ≤ d) (hg : LOK G W U V) (hv : CV s W B N R T) (hb : OKB B N) (hn : 0 ≤ N ∧ N ≤ 40 ∧ 0 ≤ R ∧ R ≤ 10 ∧ 0 ≤ T ∧ T ≤ 20000) (hb2 : hr B N b)  : Call d 65 [zrf 0, zint b] (G, s) Q = Q (some (zint (thr (up B b 8 0) N))) (G, up s (W + 2 + b) 8 0) := by
  have hg' := hg
  obtain ⟨g1, g2, g3, g4, g5, g6, hw, hu, hx, g7, g8, g9, g10, g11, g12⟩ := hg'
  have hw' := hw
  obtain ⟨w1, w2, w3, w4, w5, w6, w7, w8, w9, w10, w11, w12, w13, w14, w15, w16, w17, w18, w19, w20, w21, w22, w23, w24, w25⟩ := hw'
  have hv' := hv
  obtain ⟨v1, v2, v3, vB⟩ := hv'
  have bb := hb b hb2.1
  have k2 := okb_o (G := G) hv hb hb2.1
  have k1 := w6 b (by omega)
  rw [e65 (show 1 ≤ d by omega)]
  simp (disch := first | omega | exact rfl) only [↓u65_0, ↓u65_1, ↓u65_4, ↓u65_5, ↓u65_8, ↓u65_9, ↓u65_10, ↓u65_13, ↓u65_14, ↓u65_15, ↓u65_16, ↓u65_17, ↓u65_20, ↓u65_21, ↓u65_24, ↓u65_27, ↓lI_0, ↓lI_s, ↓lL_0, ↓lL_s, ↓lR_0, ↓lR_s, ↓sT_0, ↓sT_i, ↓sT_r, ↓sT_u, ↓sT_lu, ↓sU_0, ↓sU_i, ↓sU_r, ↓sU_u, ↓ite_bx, bx_T, bx_F, bx_pos, bx_neg, zws_i, zws_r, zws_l, zws_n, zCb_kc, xl_ll, xr_rr, xs_e, xset_e, Option.toList, List.cons_append, List.nil_append, zIb_e, zrng_e, nz_e, if_pos, if_neg, and_true, true_and, or_true, true_or, ite_self, bi_eq0, bi_eq1, bi_1, bi_0, bi_ir, bi_T, bi_F, up_eq, up_ne, ↓reduceIte, reduceIte, Nat.reduceAdd, Nat.reduceLeDiff, Nat.le_refl, Nat.zero_le, not_true_eq_false, not_false_eq_true, ne_eq, Int.reduceEq, Int.reduceLT, Int.reduceLE, Int.reduceAdd, Int.reduceSub, Int.reduceMul, Int.reduceNeg, pT g1, g2, g3, g4, g5, g6, pT w1, w2, pT w3, w4, w5, w6, v1, v2, v3, vB, s37_y (show 2 ≤ d - 1 by omega) hw hv hb hn hb2, pT k1, t39 (show 1 ≤ d - 1 by omega) hw (CV_u (f := 8) (v := 0) hv hb2.1) (OKB_g (b := b) hb) hn]
set_option maxRecDepth 8000 in
theorem s66_b {d : Nat} {Q : Option AV → XH → Prop} {G : XS} {s : ZS} {W U V : Int} {B : ZS} {N R T : Int} {x : Int} (hd : 5 ≤ d) (hg : LOK G W U V) (hv : CV s W B N R T) (hb : OKB B N) (hn : 0 ≤ N ∧ N ≤ 40 ∧ 0 ≤ R ∧ R ≤ 10 ∧ 0 ≤ T ∧ T ≤ 20000) (ix : ir x) (q : ¬(1 ≤ x ∧ x ≤ 9)) : Call d 66 [zrf 0, zint x] (G, s) Q = Q (some (zint (-2))) (G, s) := by
  have hg' := hg
  obtain ⟨g1, g2, g3, g4, g5, g6, hw, hu, hx, g7, g8, g9, g10, g11, g12⟩ := hg'
  have hw' := hw
  obtain ⟨w1, w2, w3, w4, w5, w6, w7, w8, w9, w10, w11, w12, w13, w14, w15, w16, w17, w18, w19, w20, w21, w22, w23, w24, w25⟩ := hw'
  have hv' := hv
  obtain ⟨v1, v2, v3, vB⟩ := hv'
  rw [e66 (show 1 ≤ d by omega)]
  simp (disch := first | omega | exact rfl) only [↓u66_0, ↓u66_1, ↓u66_2, ↓u66_4, ↓u66_7, ↓u66_10, ↓u66_12, ↓u66_13, ↓u66_14, ↓u66_17, ↓u66_20, ↓u66_21, ↓u66_22, ↓u66_25, ↓u66_26, ↓u66_29, ↓u66_30, ↓lI_0, ↓lI_s, ↓lL_0, ↓lL_s, ↓lR_0, ↓lR_s, ↓sT_0, ↓sT_i, ↓sT_r, ↓sT_u, ↓sT_lu, ↓sU_0, ↓sU_i, ↓sU_r, ↓sU_u, ↓ite_bx, bx_T, bx_F, bx_pos, bx_neg, zws_i, zws_r, zws_l, zws_n, zCb_kc, xl_ll, xr_rr, xs_e, xset_e, Option.toList, List.cons_append, List.nil_append, zIb_e, zrng_e, nz_e, if_pos, if_neg, and_true, true_and, or_true, true_or, ite_self, bi_eq0, bi_eq1, bi_1, bi_0, bi_ir, bi_T, bi_F, up_eq, up_ne, ↓reduceIte, reduceIte, Nat.reduceAdd, Nat.reduceLeDiff, Nat.le_refl, Nat.zero_le, not_true_eq_false, not_false_eq_true, ne_eq, Int.reduceEq, Int.reduceLT, Int.reduceLE, Int.reduceAdd, Int.reduceSub, Int.reduceMul, Int.reduceNeg, pT g1, g2, g3, g4, g5, g6, pT w1, w2, pT w3, w4, w5, w6, v1, v2, v3, vB, s103]
set_option maxRecDepth 8000 in
theorem s66_y {d : Nat} {Q : Option AV → XH → Prop} {G : XS} {s : ZS} {W U V : Int} {B : ZS} {N R T : Int} {x : Int} (hd : 5 ≤ d) (hg : LOK G W U V) (hv : CV s W B N R T) (hb : OKB B N) (hn : 0 ≤ N ∧ N ≤ 40 ∧ 0 ≤ R ∧ R ≤ 10 ∧ 0 ≤ T ∧ T ≤ 20000) (ix : ir x) (q : 1 ≤ x ∧ x ≤ 9) : Call d 66 [zrf 0, zint x] (G, s) Q = Q (some (zint R)) (G, up s W 7 x) := by
  have hg' := hg
  obtain ⟨g1, g2, g3, g4, g5, g6, hw, hu, hx, g7, g8, g9, g10, g11, g12⟩ := hg'
  have hw' := hw
  obtain ⟨w1, w2, w3, w4, w5, w6, w7, w8, w9, w10, w11, w12, w13, w14, w15, w16, w17, w18, w19, w20, w21, w22, w23, w24, w25⟩ := hw'
  have hv' := hv
  obtain ⟨v1, v2, v3, vB⟩ := hv'
  rw [e66 (show 1 ≤ d by omega)]
  simp (disch := first | omega | exact rfl) only [↓u66_0, ↓u66_1, ↓u66_2, ↓u66_4, ↓u66_7, ↓u66_10, ↓u66_12, ↓u66_13, ↓u66_14, ↓u66_17, ↓u66_20, ↓u66_21, ↓u66_22, ↓u66_25, ↓u66_26, ↓u66_29, ↓u66_30, ↓lI_0, ↓lI_s, ↓lL_0, ↓lL_s, ↓lR_0, ↓lR_s, ↓sT_0, ↓sT_i, ↓sT_r, ↓sT_u, ↓sT_lu, ↓sU_0, ↓sU_i, ↓sU_r, ↓sU_u, ↓ite_bx, bx_T, bx_F, bx_pos, bx_neg, zws_i, zws_r, zws_l, zws_n, zCb_kc, xl_ll, xr_rr, xs_e, xset_e, Option.toList, List.cons_append, List.nil_append, zIb_e, zrng_e, nz_e, if_pos, if_neg, and_true, true_and, or_true, true_or, ite_self, bi_eq0, bi_eq1, bi_1, bi_0, bi_ir, bi_T, bi_F, up_eq, up_ne, ↓reduceIte, reduceIte, Nat.reduceAdd, Nat.reduceLeDiff, Nat.le_refl, Nat.zero_le, not_true_eq_false, not_false_eq_true, ne_eq, Int.reduceEq, Int.reduceLT, Int.reduceLE, Int.reduceAdd, Int.reduceSub, Int.reduceMul, Int.reduceNeg, pT g1, g2, g3, g4, g5, g6, pT w1, w2, pT w3, w4, w5, w6, v1, v2, v3, vB, s103]
set_option maxRecDepth 8000 in
theorem s67_b {d : Nat} {Q : Option AV → XH → Prop} {G : XS} {s : ZS} {W U V : Int} {B : ZS} {N R T : Int} {x ln : Int} (hd : 5 ≤ d) (hg : LOK G W U V) (hv : CV s W B N R T) (hb : OKB B N) (hn : 0 ≤ N ∧ N ≤ 40 ∧ 0 ≤ R ∧ R ≤ 10 ∧ 0 ≤ T ∧ T ≤ 20000) (ix : ir x) (q : ¬(0 ≤ x ∧ x ≤ 127)) : Call d 67 [zrf 0, zint x] (G, s) Q = Q (some (zint (-2))) (G, s) := by
  have hg' := hg
  obtain ⟨g1, g2, g3, g4, g5, g6, hw, hu, hx, g7, g8, g9, g10, g11, g12⟩ := hg'
  have hw' := hw
  obtain ⟨w1, w2, w3, w4, w5, w6, w7, w8, w9, w10, w11, w12, w13, w14, w15, w16, w17, w18, w19, w20, w21, w22, w23, w24, w25⟩ := hw'
  have hv' := hv
  obtain ⟨v1, v2, v3, vB⟩ := hv'
  have r1 := g7.1
  have gg7 := g7
  rw [e67 (show 1 ≤ d by omega)]
  simp (disch := first | omega | exact rfl) only [↓u67_0, ↓u67_1, ↓u67_2, ↓u67_4, ↓u67_7, ↓u67_10, ↓u67_12, ↓u67_13, ↓u67_14, ↓u67_17, ↓u67_18, ↓u67_21, ↓u67_24, ↓u67_25, ↓u67_28, ↓u67_31, ↓u67_34, ↓u67_36, ↓lI_0, ↓lI_s, ↓lL_0, ↓lL_s, ↓lR_0, ↓lR_s, ↓sT_0, ↓sT_i, ↓sT_r, ↓sT_u, ↓sT_lu, ↓sU_0, ↓sU_i, ↓sU_r, ↓sU_u, ↓ite_bx, bx_T, bx_F, bx_pos, bx_neg, zws_i, zws_r, zws_l, zws_n, zCb_kc, xl_ll, xr_rr, xs_e, xset_e, Option.toList, List.cons_append, List.nil_append, zIb_e, zrng_e, nz_e, if_pos, if_neg, and_true, true_and, or_true, true_or, ite_self, bi_eq0, bi_eq1, bi_1, bi_0, bi_ir, bi_T, bi_F, up_eq, up_ne, ↓reduceIte, reduceIte, Nat.reduceAdd, Nat.reduceLeDiff, Nat.le_refl, Nat.zero_le, not_true_eq_false, not_false_eq_true, ne_eq, Int.reduceEq, Int.reduceLT, Int.reduceLE, Int.reduceAdd, Int.reduceSub, Int.reduceMul, Int.reduceNeg, pT g1, g2, g3, g4, g5, g6, pT w1, w2, pT w3, w4, w5, w6, v1, v2, v3, vB, s103, pT r1]
set_option maxRecDepth 8000 in
theorem s67_f {d : Nat} {Q : Option AV → XH → Prop} {G : XS} {s : ZS} {W U V : Int} {B : ZS} {N R T : Int} {x ln : Int} (hd : 5 ≤ d) (hg : LOK G W U V) (hv : CV s W B N R T) (hb : OKB B N) (hn : 0 ≤ N ∧ N ≤ 40 ∧ 0 ≤ R ∧ R ≤ 10 ∧ 0 ≤ T ∧ T ≤ 20000) (ix : ir x) (q : 0 ≤ x ∧ x ≤ 127) (hl : s 148 2 = ln) (q2 : ln = 100) : Call d 67 [zrf 0, zint x] (G, s) Q = Q (some (zint (-4))) (G, s) := by
  have hg' := hg
  obtain ⟨g1, g2, g3, g4, g5, g6, hw, hu, hx, g7, g8, g9, g10, g11, g12⟩ := hg'
  have hw' := hw
  obtain ⟨w1, w2, w3, w4, w5, w6, w7, w8, w9, w10, w11, w12, w13, w14, w15, w16, w17, w18, w19, w20, w21, w22, w23, w24, w25⟩ := hw'
  have hv' := hv
  obtain ⟨v1, v2, v3, vB⟩ := hv'
  have r1 := g7.1
  have gg7 := g7
  rw [e67 (show 1 ≤ d by omega)]
  simp (disch := first | omega | exact rfl) only [↓u67_0, ↓u67_1, ↓u67_2, ↓u67_4, ↓u67_7, ↓u67_10, ↓u67_12, ↓u67_13, ↓u67_14, ↓u67_17, ↓u67_18, ↓u67_21, ↓u67_24, ↓u67_25, ↓u67_28, ↓u67_31, ↓u67_34, ↓u67_36, ↓lI_0, ↓lI_s, ↓lL_0, ↓lL_s, ↓lR_0, ↓lR_s, ↓sT_0, ↓sT_i, ↓sT_r, ↓sT_u, ↓sT_lu, ↓sU_0, ↓sU_i, ↓sU_r, ↓sU_u, ↓ite_bx, bx_T, bx_F, bx_pos, bx_neg, zws_i, zws_r, zws_l, zws_n, zCb_kc, xl_ll, xr_rr, xs_e, xset_e, Option.toList, List.cons_append, List.nil_append, zIb_e, zrng_e, nz_e, if_pos, if_neg, and_true, true_and, or_true, true_or, ite_self, bi_eq0, bi_eq1, bi_1, bi_0, bi_ir, bi_T, bi_F, up_eq, up_ne, ↓reduceIte, reduceIte, Nat.reduceAdd, Nat.reduceLeDiff, Nat.le_refl, Nat.zero_le, not_true_eq_false, not_false_eq_true, ne_eq, Int.reduceEq, Int.reduceLT, Int.reduceLE, Int.reduceAdd, Int.reduceSub, Int.reduceMul, Int.reduceNeg, pT g1, g2, g3, g4, g5, g6, pT w1, w2, pT w3, w4, w5, w6, v1, v2, v3, vB, s103, pT r1, s16_n (show 1 ≤ d - 1 by omega) gg7 hl q2]
set_option maxRecDepth 8000 in
theorem s67_y {d : Nat} {Q : Option AV → XH → Prop} {G : XS} {s : ZS} {W U V : Int} {B : ZS} {N R T : Int} {x ln : Int} (hd : 5 ≤ d) (hg : LOK G W U V) (hv : CV s W B N R T) (hb : OKB B N) (hn : 0 ≤ N ∧ N ≤ 40 ∧ 0 ≤ R ∧ R ≤ 10 ∧ 0 ≤ T ∧ T ≤ 20000) (ix : ir x) (q : 0 ≤ x ∧ x ≤ 127) (hl : s 148 2 = ln) (q2 : 0 ≤ ln ∧ ln < 100) : Call d 67 [zrf 0, zint x] (G, s) Q = Q (some (zint (ln + 1))) (G, up (up s 149 ln x) 148 2 (ln + 1)) := by
  have hg' := hg
  obtain ⟨g1, g2, g3, g4, g5, g6, hw, hu, hx, g7, g8, g9, g10, g11, g12⟩ := hg'
  have hw' := hw
  obtain ⟨w1, w2, w3, w4, w5, w6, w7, w8, w9, w10, w11, w12, w13, w14, w15, w16, w17, w18, w19, w20, w21, w22, w23, w24, w25⟩ := hw'
  have hv' := hv
  obtain ⟨v1, v2, v3, vB⟩ := hv'
  have r1 := g7.1
  have gg7 := g7
  rw [e67 (show 1 ≤ d by omega)]
  simp (disch := first | omega | exact rfl) only [↓u67_0, ↓u67_1, ↓u67_2, ↓u67_4, ↓u67_7, ↓u67_10, ↓u67_12, ↓u67_13, ↓u67_14, ↓u67_17, ↓u67_18, ↓u67_21, ↓u67_24, ↓u67_25, ↓u67_28, ↓u67_31, ↓u67_34, ↓u67_36, ↓lI_0, ↓lI_s, ↓lL_0, ↓lL_s, ↓lR_0, ↓lR_s, ↓sT_0, ↓sT_i, ↓sT_r, ↓sT_u, ↓sT_lu, ↓sU_0, ↓sU_i, ↓sU_r, ↓sU_u, ↓ite_bx, bx_T, bx_F, bx_pos, bx_neg, zws_i, zws_r, zws_l, zws_n, zCb_kc, xl_ll, xr_rr, xs_e, xset_e, Option.toList, List.cons_append, List.nil_append, zIb_e, zrng_e, nz_e, if_pos, if_neg, and_true, true_and, or_true, true_or, ite_self, bi_eq0, bi_eq1, bi_1, bi_0, bi_ir, bi_T, bi_F, up_eq, up_ne, ↓reduceIte, reduceIte, Nat.reduceAdd, Nat.reduceLeDiff, Nat.le_refl, Nat.zero_le, not_true_eq_false, not_false_eq_true, ne_eq, Int.reduceEq, Int.reduceLT, Int.reduceLE, Int.reduceAdd, Int.reduceSub, Int.reduceMul, Int.reduceNeg, pT g1, g2, g3, g4, g5, g6, pT w1, w2, pT w3, w4, w5, w6, v1, v2, v3, vB, s103, pT r1, s16_y (show 1 ≤ d - 1 by omega) gg7 hl q2 q]
set_option maxRecDepth 8000 in
theorem s70_n {d : Nat} {Q : Option AV → XH → Prop} {G : XS} {s : ZS} {W U V : Int} {B : ZS} {N R T : Int} {b : Int} {x : Int} (hd : 5 ≤ d) (hg : LOK G W U V) (hv : CV s W B N R T) (hb : OKB B N) (hn : 0 ≤ N ∧ N ≤ 40 ∧ 0 ≤ R ∧ R ≤ 10 ∧ 0 ≤ T ∧ T ≤ 20000) (ib : ir b) (hb2 : ¬hr B N b)  : Call d 70 [zrf 0, zint b, zint x] (G, s) Q = Q (some (zint (-1))) (G, s) := by
  have hg' := hg
  obtain ⟨g1, g2, g3, g4, g5, g6, hw, hu, hx, g7, g8, g9, g10, g11, g12⟩ := hg'
  have hw' := hw
  obtain ⟨w1, w2, w3, w4, w5, w6, w7, w8, w9, w10, w11, w12, w13, w14, w15, w16, w17, w18, w19, w20, w21, w22, w23, w24, w25⟩ := hw'
  have hv' := hv
  obtain ⟨v1, v2, v3, vB⟩ := hv'
  rw [e70 (show 1 ≤ d by omega)]
  simp (disch := first | omega | exact rfl) only [↓u70_0, ↓u70_1, ↓u70_4, ↓u70_5, ↓u70_8, ↓u70_9, ↓u70_10, ↓u70_13, ↓u70_14, ↓u70_15, ↓u70_16, ↓u70_80, ↓u70_81, ↓u70_84, ↓u70_85, ↓u70_86, ↓u70_89, ↓u70_90, ↓u70_91, ↓u70_94, ↓u70_95, ↓u70_96, ↓u70_99, ↓u70_100, ↓u70_101, ↓u70_104, ↓u70_105, ↓u70_106, ↓u70_109, ↓u70_110, ↓u70_111, ↓u70_114, ↓u70_116, ↓u70_117, ↓u70_118, ↓u70_119, ↓u70_122, ↓u70_124, ↓u70_125, ↓u70_126, ↓u70_127, ↓u70_130, ↓u70_131, ↓u70_134, ↓u70_135, ↓u70_136, ↓u70_139, ↓u70_140, ↓u70_143, ↓u70_146, ↓u70_147, ↓u70_148, ↓u70_151, ↓u70_152, ↓u70_153, ↓u70_156, ↓u70_157, ↓u70_160, ↓u70_161, ↓u70_162, ↓lI_0, ↓lI_s, ↓lL_0, ↓lL_s, ↓lR_0, ↓lR_s, ↓sT_0, ↓sT_i, ↓sT_r, ↓sT_u, ↓sT_lu, ↓sU_0, ↓sU_i, ↓sU_r, ↓sU_u, ↓ite_bx, bx_T, bx_F, bx_pos, bx_neg, zws_i, zws_r, zws_l, zws_n, zCb_kc, xl_ll, xr_rr, xs_e, xset_e, Option.toList, List.cons_append, List.nil_append, zIb_e, zrng_e, nz_e, if_pos, if_neg, and_true, true_and, or_true, true_or, ite_self, bi_eq0, bi_eq1, bi_1, bi_0, bi_ir, bi_T, bi_F, up_eq, up_ne, ↓reduceIte, reduceIte, Nat.reduceAdd, Nat.reduceLeDiff, Nat.le_refl, Nat.zero_le, not_true_eq_false, not_false_eq_true, ne_eq, Int.reduceEq, Int.reduceLT, Int.reduceLE, Int.reduceAdd, Int.reduceSub, Int.reduceMul, Int.reduceNeg, pT g1, g2, g3, g4, g5, g6, pT w1, w2, pT w3, w4, w5, w6, v1, v2, v3, vB, s37_n (show 2 ≤ d - 1 by omega) hw hv hb hn ib hb2]
set_option maxRecDepth 8000 in
theorem s70_0 {d : Nat} {Q : Option AV → XH → Prop} {G : XS} {s : ZS} {W U V : Int} {B : ZS} {N R T : Int} {b : Int}  (hd : 5 ≤ d) (hg : LOK G W U V) (hv : CV s W B N R T) (hb : OKB B N) (hn : 0 ≤ N ∧ N ≤ 40 ∧ 0 ≤ R ∧ R ≤ 10 ∧ 0 ≤ T ∧ T ≤ 20000) (hb2 : hr B N b)  : Call d 70 [zrf 0, zint b, zint 0] (G, s) Q = Q (some (zint (B b 0))) (G, s) := by
  have hg' := hg
  obtain ⟨g1, g2, g3, g4, g5, g6, hw, hu, hx, g7, g8, g9, g10, g11, g12⟩ := hg'
  have hw' := hw
  obtain ⟨w1, w2, w3, w4, w5, w6, w7, w8, w9, w10, w11, w12, w13, w14, w15, w16, w17, w18, w19, w20, w21, w22, w23, w24, w25⟩ := hw'
  have hv' := hv
  obtain ⟨v1, v2, v3, vB⟩ := hv'
  have bb := hb b hb2.1
  have k2 := okb_o (G := G) hv hb hb2.1
  have k1 := w6 b (by omega)
  have ptb := pt_b (B := B) (N := N) (R := R) (m := b)
  rw [e70 (show 1 ≤ d by omega)]
  simp (disch := first | omega | exact rfl) only [↓u70_0, ↓u70_1, ↓u70_4, ↓u70_5, ↓u70_8, ↓u70_9, ↓u70_10, ↓u70_13, ↓u70_14, ↓u70_15, ↓u70_16, ↓u70_80, ↓u70_81, ↓u70_84, ↓u70_85, ↓u70_86, ↓u70_89, ↓u70_90, ↓u70_91, ↓u70_94, ↓u70_95, ↓u70_96, ↓u70_99, ↓u70_100, ↓u70_101, ↓u70_104, ↓u70_105, ↓u70_106, ↓u70_109, ↓u70_110, ↓u70_111, ↓u70_114, ↓u70_116, ↓u70_117, ↓u70_118, ↓u70_119, ↓u70_122, ↓u70_124, ↓u70_125, ↓u70_126, ↓u70_127, ↓u70_130, ↓u70_131, ↓u70_134, ↓u70_135, ↓u70_136, ↓u70_139, ↓u70_140, ↓u70_143, ↓u70_146, ↓u70_147, ↓u70_148, ↓u70_151, ↓u70_152, ↓u70_153, ↓u70_156, ↓u70_157, ↓u70_160, ↓u70_161, ↓u70_162, ↓lI_0, ↓lI_s, ↓lL_0, ↓lL_s, ↓lR_0, ↓lR_s, ↓sT_0, ↓sT_i, ↓sT_r, ↓sT_u, ↓sT_lu, ↓sU_0, ↓sU_i, ↓sU_r, ↓sU_u, ↓ite_bx, bx_T, bx_F, bx_pos, bx_neg, zws_i, zws_r, zws_l, zws_n, zCb_kc, xl_ll, xr_rr, xs_e, xset_e, Option.toList, List.cons_append, List.nil_append, zIb_e, zrng_e, nz_e, if_pos, if_neg, and_true, true_and, or_true, true_or, ite_self, bi_eq0, bi_eq1, bi_1, bi_0, bi_ir, bi_T, bi_F, up_eq, up_ne, ↓reduceIte, reduceIte, Nat.reduceAdd, Nat.reduceLeDiff, Nat.le_refl, Nat.zero_le, not_true_eq_false, not_false_eq_true, ne_eq, Int.reduceEq, Int.reduceLT, Int.reduceLE, Int.reduceAdd, Int.reduceSub, Int.reduceMul, Int.reduceNeg, pT g1, g2, g3, g4, g5, g6, pT w1, w2, pT w3, w4, w5, w6, v1, v2, v3, vB, s37_y (show 2 ≤ d - 1 by omega) hw hv hb hn hb2, pT k1, ztb_0, ztb_s]
set_option maxRecDepth 8000 in
theorem s70_1 {d : Nat} {Q : Option AV → XH → Prop} {G : XS} {s : ZS} {W U V : Int} {B : ZS} {N R T : Int} {b : Int}  (hd : 5 ≤ d) (hg : LOK G W U V) (hv : CV s W B N R T) (hb : OKB B N) (hn : 0 ≤ N ∧ N ≤ 40 ∧ 0 ≤ R ∧ R ≤ 10 ∧ 0 ≤ T ∧ T ≤ 20000) (hb2 : hr B N b)  : Call d 70 [zrf 0, zint b, zint 1] (G, s) Q = Q (some (zint (B b 1))) (G, s) := by
  have hg' := hg
  obtain ⟨g1, g2, g3, g4, g5, g6, hw, hu, hx, g7, g8, g9, g10, g11, g12⟩ := hg'
  have hw' := hw
  obtain ⟨w1, w2, w3, w4, w5, w6, w7, w8, w9, w10, w11, w12, w13, w14, w15, w16, w17, w18, w19, w20, w21, w22, w23, w24, w25⟩ := hw'
  have hv' := hv
  obtain ⟨v1, v2, v3, vB⟩ := hv'
  have bb := hb b hb2.1
  have k2 := okb_o (G := G) hv hb hb2.1
  have k1 := w6 b (by omega)
  have ptb := pt_b (B := B) (N := N) (R := R) (m := b)
  rw [e70 (show 1 ≤ d by omega)]
  simp (disch := first | omega | exact rfl) only [↓u70_0, ↓u70_1, ↓u70_4, ↓u70_5, ↓u70_8, ↓u70_9, ↓u70_10, ↓u70_13, ↓u70_14, ↓u70_15, ↓u70_16, ↓u70_80, ↓u70_81, ↓u70_84, ↓u70_85, ↓u70_86, ↓u70_89, ↓u70_90, ↓u70_91, ↓u70_94, ↓u70_95, ↓u70_96, ↓u70_99, ↓u70_100, ↓u70_101, ↓u70_104, ↓u70_105, ↓u70_106, ↓u70_109, ↓u70_110, ↓u70_111, ↓u70_114, ↓u70_116, ↓u70_117, ↓u70_118, ↓u70_119, ↓u70_122, ↓u70_124, ↓u70_125, ↓u70_126, ↓u70_127, ↓u70_130, ↓u70_131, ↓u70_134, ↓u70_135, ↓u70_136, ↓u70_139, ↓u70_140, ↓u70_143, ↓u70_146, ↓u70_147, ↓u70_148, ↓u70_151, ↓u70_152, ↓u70_153, ↓u70_156, ↓u70_157, ↓u70_160, ↓u70_161, ↓u70_162, ↓lI_0, ↓lI_s, ↓lL_0, ↓lL_s, ↓lR_0, ↓lR_s, ↓sT_0, ↓sT_i, ↓sT_r, ↓sT_u, ↓sT_lu, ↓sU_0, ↓sU_i, ↓sU_r, ↓sU_u, ↓ite_bx, bx_T, bx_F, bx_pos, bx_neg, zws_i, zws_r, zws_l, zws_n, zCb_kc, xl_ll, xr_rr, xs_e, xset_e, Option.toList, List.cons_append, List.nil_append, zIb_e, zrng_e, nz_e, if_pos, if_neg, and_true, true_and, or_true, true_or, ite_self, bi_eq0, bi_eq1, bi_1, bi_0, bi_ir, bi_T, bi_F, up_eq, up_ne, ↓reduceIte, reduceIte, Nat.reduceAdd, Nat.reduceLeDiff, Nat.le_refl, Nat.zero_le, not_true_eq_false, not_false_eq_true, ne_eq, Int.reduceEq, Int.reduceLT, Int.reduceLE, Int.reduceAdd, Int.reduceSub, Int.reduceMul, Int.reduceNeg, pT g1, g2, g3, g4, g5, g6, pT w1, w2, pT w3, w4, w5, w6, v1, v2, v3, vB, s37_y (show 2 ≤ d - 1 by omega) hw hv hb hn hb2, pT k1, ztb_0, ztb_s]
set_option maxRecDepth 8000 in
theorem s70_2 {d : Nat} {Q : Option AV → XH → Prop} {G : XS} {s : ZS} {W U V : Int} {B : ZS} {N R T : Int} {b : Int}  (hd : 5 ≤ d) (hg : LOK G W U V) (hv : CV s W B N R T) (hb : OKB B N) (hn : 0 ≤ N ∧ N ≤ 40 ∧ 0 ≤ R ∧ R ≤ 10 ∧ 0 ≤ T ∧ T ≤ 20000) (hb2 : hr B N b)  : Call d 70 [zrf 0, zint b, zint 2] (G, s) Q = Q (some (zint (B b 2))) (G, s) := by
  have hg' := hg
  obtain ⟨g1, g2, g3, g4, g5, g6, hw, hu, hx, g7, g8, g9, g10, g11, g12⟩ := hg'
  have hw' := hw
  obtain ⟨w1, w2, w3, w4, w5, w6, w7, w8, w9, w10, w11, w12, w13, w14, w15, w16, w17, w18, w19, w20, w21, w22, w23, w24, w25⟩ := hw'
  have hv' := hv
  obtain ⟨v1, v2, v3, vB⟩ := hv'
  have bb := hb b hb2.1
  have k2 := okb_o (G := G) hv hb hb2.1
  have k1 := w6 b (by omega)
  have ptb := pt_b (B := B) (N := N) (R := R) (m := b)
  rw [e70 (show 1 ≤ d by omega)]
  simp (disch := first | omega | exact rfl) only [↓u70_0, ↓u70_1, ↓u70_4, ↓u70_5, ↓u70_8, ↓u70_9, ↓u70_10, ↓u70_13, ↓u70_14, ↓u70_15, ↓u70_16, ↓u70_80, ↓u70_81, ↓u70_84, ↓u70_85, ↓u70_86, ↓u70_89, ↓u70_90, ↓u70_91, ↓u70_94, ↓u70_95, ↓u70_96, ↓u70_99, ↓u70_100, ↓u70_101, ↓u70_104, ↓u70_105, ↓u70_106, ↓u70_109, ↓u70_110, ↓u70_111, ↓u70_114, ↓u70_116, ↓u70_117, ↓u70_118, ↓u70_119, ↓u70_122, ↓u70_124, ↓u70_125, ↓u70_126, ↓u70_127, ↓u70_130, ↓u70_131, ↓u70_134, ↓u70_135, ↓u70_136, ↓u70_139, ↓u70_140, ↓u70_143, ↓u70_146, ↓u70_147, ↓u70_148, ↓u70_151, ↓u70_152, ↓u70_153, ↓u70_156, ↓u70_157, ↓u70_160, ↓u70_161, ↓u70_162, ↓lI_0, ↓lI_s, ↓lL_0, ↓lL_s, ↓lR_0, ↓lR_s, ↓sT_0, ↓sT_i, ↓sT_r, ↓sT_u, ↓sT_lu, ↓sU_0, ↓sU_i, ↓sU_r, ↓sU_u, ↓ite_bx, bx_T, bx_F, bx_pos, bx_neg, zws_i, zws_r, zws_l, zws_n, zCb_kc, xl_ll, xr_rr, xs_e, xset_e, Option.toList, List.cons_append, List.nil_append, zIb_e, zrng_e, nz_e, if_pos, if_neg, and_true, true_and, or_true, true_or, ite_self, bi_eq0, bi_eq1, bi_1, bi_0, bi_ir, bi_T, bi_F, up_eq, up_ne, ↓reduceIte, reduceIte, Nat.reduceAdd, Nat.reduceLeDiff, Nat.le_refl, Nat.zero_le, not_true_eq_false, not_false_eq_true, ne_eq, Int.reduceEq, Int.reduceLT, Int.reduceLE, Int.reduceAdd, Int.reduceSub, Int.reduceMul, Int.reduceNeg, pT g1, g2, g3, g4, g5, g6, pT w1, w2, pT w3, w4, w5, w6, v1, v2, v3, vB, s37_y (show 2 ≤ d - 1 by omega) hw hv hb hn hb2, pT k1, ztb_0, ztb_s]
set_option maxRecDepth 8000 in
theorem s70_3 {d : Nat} {Q : Option AV → XH → Prop} {G : XS} {s : ZS} {W U V : Int} {B : ZS} {N R T : Int} {b : Int}  (hd : 5 ≤ d) (hg : LOK G W U V) (hv : CV s W B N R T) (hb : OKB B N) (hn : 0 ≤ N ∧ N ≤ 40 ∧ 0 ≤ R ∧ R ≤ 10 ∧ 0 ≤ T ∧ T ≤ 20000) (hb2 : hr B N b)  : Call d 70 [zrf 0, zint b, zint 3] (G, s) Q = Q (some (zint (B b 3))) (G, s) := by
  have hg' := hg
  obtain ⟨g1, g2, g3, g4, g5, g6, hw, hu, hx, g7, g8, g9, g10, g11, g12⟩ := hg'
  have hw' := hw
  obtain ⟨w1, w2, w3, w4, w5, w6, w7, w8, w9, w10, w11, w12, w13, w14, w15, w16, w17, w18, w19, w20, w21, w22, w23, w24, w25⟩ := hw'
  have hv' := hv
  obtain ⟨v1, v2, v3, vB⟩ := hv'
  have bb := hb b hb2.1
  have k2 := okb_o (G := G) hv hb hb2.1
  have k1 := w6 b (by omega)
  have ptb := pt_b (B := B) (N := N) (R := R) (m := b)
  rw [e70 (show 1 ≤ d by omega)]
  simp (disch := first | omega | exact rfl) only [↓u70_0, ↓u70_1, ↓u70_4, ↓u70_5, ↓u70_8, ↓u70_9, ↓u70_10, ↓u70_13, ↓u70_14, ↓u70_15, ↓u70_16, ↓u70_80, ↓u70_81, ↓u70_84, ↓u70_85, ↓u70_86, ↓u70_89, ↓u70_90, ↓u70_91, ↓u70_94, ↓u70_95, ↓u70_96, ↓u70_99, ↓u70_100, ↓u70_101, ↓u70_104, ↓u70_105, ↓u70_106, ↓u70_109, ↓u70_110, ↓u70_111, ↓u70_114, ↓u70_116, ↓u70_117, ↓u70_118, ↓u70_119, ↓u70_122, ↓u70_124, ↓u70_125, ↓u70_126, ↓u70_127, ↓u70_130, ↓u70_131, ↓u70_134, ↓u70_135, ↓u70_136, ↓u70_139, ↓u70_140, ↓u70_143, ↓u70_146, ↓u70_147, ↓u70_148, ↓u70_151, ↓u70_152, ↓u70_153, ↓u70_156, ↓u70_157, ↓u70_160, ↓u70_161, ↓u70_162, ↓lI_0, ↓lI_s, ↓lL_0, ↓lL_s, ↓lR_0, ↓lR_s, ↓sT_0, ↓sT_i, ↓sT_r, ↓sT_u, ↓sT_lu, ↓sU_0, ↓sU_i, ↓sU_r, ↓sU_u, ↓ite_bx, bx_T, bx_F, bx_pos, bx_neg, zws_i, zws_r, zws_l, zws_n, zCb_kc, xl_ll, xr_rr, xs_e, xset_e, Option.toList, List.cons_append, List.nil_append, zIb_e, zrng_e, nz_e, if_pos, if_neg, and_true, true_and, or_true, true_or, ite_self, bi_eq0, bi_eq1, bi_1, bi_0, bi_ir, bi_T, bi_F, up_eq, up_ne, ↓reduceIte, reduceIte, Nat.reduceAdd, Nat.reduceLeDiff, Nat.le_refl, Nat.zero_le, not_true_eq_false, not_false_eq_true, ne_eq, Int.reduceEq, Int.reduceLT, Int.reduceLE, Int.reduceAdd, Int.reduceSub, Int.reduceMul, Int.reduceNeg, pT g1, g2, g3, g4, g5, g6, pT w1, w2, pT w3, w4, w5, w6, v1, v2, v3, vB, s37_y (show 2 ≤ d - 1 by omega) hw hv hb hn hb2, pT k1, ztb_0, ztb_s]
set_option maxRecDepth 8000 in
theorem s70_4 {d : Nat} {Q : Option AV → XH → Prop} {G : XS} {s : ZS} {W U V : Int} {B : ZS} {N R T : Int} {b : Int}  (hd : 5 ≤ d) (hg : LOK G W U V) (hv : CV s W B N R T) (hb : OKB B N) (hn : 0 ≤ N ∧ N ≤ 40 ∧ 0 ≤ R ∧ R ≤ 10 ∧ 0 ≤ T ∧ T ≤ 20000) (hb2 : hr B N b)  : Call d 70 [zrf 0, zint b, zint 4] (G, s) Q = Q (some (zint (B b 4))) (G, s) := by
  have hg' := hg
  obtain ⟨g1, g2, g3, g4, g5, g6, hw, hu, hx, g7, g8, g9, g10, g11, g12⟩ := hg'
  have hw' := hw
  obtain ⟨w1, w2, w3, w4, w5, w6, w7, w8, w9, w10, w11, w12, w13, w14, w15, w16, w17, w18, w19, w20, w21, w22, w23, w24, w25⟩ := hw'
  have hv' := hv
  obtain ⟨v1, v2, v3, vB⟩ := hv'
  have bb := hb b hb2.1
  have k2 := okb_o (G := G) hv hb hb2.1
  have k1 := w6 b (by omega)
  have ptb := pt_b (B := B) (N := N) (R := R) (m := b)
  rw [e70 (show 1 ≤ d by omega)]
  simp (disch := first | omega | exact rfl) only [↓u70_0, ↓u70_1, ↓u70_4, ↓u70_5, ↓u70_8, ↓u70_9, ↓u70_10, ↓u70_13, ↓u70_14, ↓u70_15, ↓u70_16, ↓u70_80, ↓u70_81, ↓u70_84, ↓u70_85, ↓u70_86, ↓u70_89, ↓u70_90, ↓u70_91, ↓u70_94, ↓u70_95, ↓u70_96, ↓u70_99, ↓u70_100, ↓u70_101, ↓u70_104, ↓u70_105, ↓u70_106, ↓u70_109, ↓u70_110, ↓u70_111, ↓u70_114, ↓u70_116, ↓u70_117, ↓u70_118, ↓u70_119, ↓u70_122, ↓u70_124, ↓u70_125, ↓u70_126, ↓u70_127, ↓u70_130, ↓u70_131, ↓u70_134, ↓u70_135, ↓u70_136, ↓u70_139, ↓u70_140, ↓u70_143, ↓u70_146, ↓u70_147, ↓u70_148, ↓u70_151, ↓u70_152, ↓u70_153, ↓u70_156, ↓u70_157, ↓u70_160, ↓u70_161, ↓u70_162, ↓lI_0, ↓lI_s, ↓lL_0, ↓lL_s, ↓lR_0, ↓lR_s, ↓sT_0, ↓sT_i, ↓sT_r, ↓sT_u, ↓sT_lu, ↓sU_0, ↓sU_i, ↓sU_r, ↓sU_u, ↓ite_bx, bx_T, bx_F, bx_pos, bx_neg, zws_i, zws_r, zws_l, zws_n, zCb_kc, xl_ll, xr_rr, xs_e, xset_e, Option.toList, List.cons_append, List.nil_append, zIb_e, zrng_e, nz_e, if_pos, if_neg, and_true, true_and, or_true, true_or, ite_self, bi_eq0, bi_eq1, bi_1, bi_0, bi_ir, bi_T, bi_F, up_eq, up_ne, ↓reduceIte, reduceIte, Nat.reduceAdd, Nat.reduceLeDiff, Nat.le_refl, Nat.zero_le, not_true_eq_false, not_false_eq_true, ne_eq, Int.reduceEq, Int.reduceLT, Int.reduceLE, Int.reduceAdd, Int.reduceSub, Int.reduceMul, Int.reduceNeg, pT g1, g2, g3, g4, g5, g6, pT w1, w2, pT w3, w4, w5, w6, v1, v2, v3, vB, s37_y (show 2 ≤ d - 1 by omega) hw hv hb hn hb2, pT k1, ztb_0, ztb_s]
set_option maxRecDepth 8000 in
theorem s70_5 {d : Nat} {Q : Option AV → XH → Prop} {G : XS} {s : ZS} {W U V : Int} {B : ZS} {N R T : Int} {b : Int}  (hd : 5 ≤ d) (hg : LOK G W U V) (hv : CV s W B N R T) (hb : OKB B N) (hn : 0 ≤ N ∧ N ≤ 40 ∧ 0 ≤ R ∧ R ≤ 10 ∧ 0 ≤ T ∧ T ≤ 20000) (hb2 : hr B N b)  : Call d 70 [zrf 0, zint b, zint 5] (G, s) Q = Q (some (zint (B b 5))) (G, s) := by
  have hg' := hg
  obtain ⟨g1, g2, g3, g4, g5, g6, hw, hu, hx, g7, g8, g9, g10, g11, g12⟩ := hg'
  have hw' := hw
  obtain ⟨w1, w2, w3, w4, w5, w6, w7, w8, w9, w10, w11, w12, w13, w14, w15, w16, w17, w18, w19, w20, w21, w22, w23, w24, w25⟩ := hw'
  have hv' := hv
  obtain ⟨v1, v2, v3, vB⟩ := hv'
  have bb := hb b hb2.1
  have k2 := okb_o (G := G) hv hb hb2.1
  have k1 := w6 b (by omega)
  have ptb := pt_b (B := B) (N := N) (R := R) (m := b)
  rw [e70 (show 1 ≤ d by omega)]
  simp (disch := first | omega | exact rfl) only [↓u70_0, ↓u70_1, ↓u70_4, ↓u70_5, ↓u70_8, ↓u70_9, ↓u70_10, ↓u70_13, ↓u70_14, ↓u70_15, ↓u70_16, ↓u70_80, ↓u70_81, ↓u70_84, ↓u70_85, ↓u70_86, ↓u70_89, ↓u70_90, ↓u70_91, ↓u70_94, ↓u70_95, ↓u70_96, ↓u70_99, ↓u70_100, ↓u70_101, ↓u70_104, ↓u70_105, ↓u70_106, ↓u70_109, ↓u70_110, ↓u70_111, ↓u70_114, ↓u70_116, ↓u70_117, ↓u70_118, ↓u70_119, ↓u70_122, ↓u70_124, ↓u70_125, ↓u70_126, ↓u70_127, ↓u70_130, ↓u70_131, ↓u70_134, ↓u70_135, ↓u70_136, ↓u70_139, ↓u70_140, ↓u70_143, ↓u70_146, ↓u70_147, ↓u70_148, ↓u70_151, ↓u70_152, ↓u70_153, ↓u70_156, ↓u70_157, ↓u70_160, ↓u70_161, ↓u70_162, ↓lI_0, ↓lI_s, ↓lL_0, ↓lL_s, ↓lR_0, ↓lR_s, ↓sT_0, ↓sT_i, ↓sT_r, ↓sT_u, ↓sT_lu, ↓sU_0, ↓sU_i, ↓sU_r, ↓sU_u, ↓ite_bx, bx_T, bx_F, bx_pos, bx_neg, zws_i, zws_r, zws_l, zws_n, zCb_kc, xl_ll, xr_rr, xs_e, xset_e, Option.toList, List.cons_append, List.nil_append, zIb_e, zrng_e, nz_e, if_pos, if_neg, and_true, true_and, or_true, true_or, ite_self, bi_eq0, bi_eq1, bi_1, bi_0, bi_ir, bi_T, bi_F, up_eq, up_ne, ↓reduceIte, reduceIte, Nat.reduceAdd, Nat.reduceLeDiff, Nat.le_refl, Nat.zero_le, not_true_eq_false, not_false_eq_true, ne_eq, Int.reduceEq, Int.reduceLT, Int.reduceLE, Int.reduceAdd, Int.reduceSub, Int.reduceMul, Int.reduceNeg, pT g1, g2, g3, g4, g5, g6, pT w1, w2, pT w3, w4, w5, w6, v1, v2, v3, vB, s37_y (show 2 ≤ d - 1 by omega) hw hv hb hn hb2, pT k1, ztb_0, ztb_s]
set_option maxRecDepth 8000 in
theorem s70_6 {d : Nat} {Q : Option AV → XH → Prop} {G : XS} {s : ZS} {W U V : Int} {B : ZS} {N R T : Int} {b : Int}  (hd : 5 ≤ d) (hg : LOK G W U V) (hv : CV s W B N R T) (hb : OKB B N) (hn : 0 ≤ N ∧ N ≤ 40 ∧ 0 ≤ R ∧ R ≤ 10 ∧ 0 ≤ T ∧ T ≤ 20000) (hb2 : hr B N b)  : Call d 70 [zrf 0, zint b, zint 6] (G, s) Q = Q (some (zint (B b 6 + 50))) (G, s) := by
  have hg' := hg
  obtain ⟨g1, g2, g3, g4, g5, g6, hw, hu, hx, g7, g8, g9, g10, g11, g12⟩ := hg'
  have hw' := hw
  obtain ⟨w1, w2, w3, w4, w5, w6, w7, w8, w9, w10, w11, w12, w13, w14, w15, w16, w17, w18, w19, w20, w21, w22, w23, w24, w25⟩ := hw'
  have hv' := hv
  obtain ⟨v1, v2, v3, vB⟩ := hv'
  have bb := hb b hb2.1
  have k2 := okb_o (G := G) hv hb hb2.1
  have k1 := w6 b (by omega)
  have ptb := pt_b (B := B) (N := N) (R := R) (m := b)
  rw [e70 (show 1 ≤ d by omega)]
  simp (disch := first | omega | exact rfl) only [↓u70_0, ↓u70_1, ↓u70_4, ↓u70_5, ↓u70_8, ↓u70_9, ↓u70_10, ↓u70_13, ↓u70_14, ↓u70_15, ↓u70_16, ↓u70_80, ↓u70_81, ↓u70_84, ↓u70_85, ↓u70_86, ↓u70_89, ↓u70_90, ↓u70_91, ↓u70_94, ↓u70_95, ↓u70_96, ↓u70_99, ↓u70_100, ↓u70_101, ↓u70_104, ↓u70_105, ↓u70_106, ↓u70_109, ↓u70_110, ↓u70_111, ↓u70_114, ↓u70_116, ↓u70_117, ↓u70_118, ↓u70_119, ↓u70_122, ↓u70_124, ↓u70_125, ↓u70_126, ↓u70_127, ↓u70_130, ↓u70_131, ↓u70_134, ↓u70_135, ↓u70_136, ↓u70_139, ↓u70_140, ↓u70_143, ↓u70_146, ↓u70_147, ↓u70_148, ↓u70_151, ↓u70_152, ↓u70_153, ↓u70_156, ↓u70_157, ↓u70_160, ↓u70_161, ↓u70_162, ↓lI_0, ↓lI_s, ↓lL_0, ↓lL_s, ↓lR_0, ↓lR_s, ↓sT_0, ↓sT_i, ↓sT_r, ↓sT_u, ↓sT_lu, ↓sU_0, ↓sU_i, ↓sU_r, ↓sU_u, ↓ite_bx, bx_T, bx_F, bx_pos, bx_neg, zws_i, zws_r, zws_l, zws_n, zCb_kc, xl_ll, xr_rr, xs_e, xset_e, Option.toList, List.cons_append, List.nil_append, zIb_e, zrng_e, nz_e, if_pos, if_neg, and_true, true_and, or_true, true_or, ite_self, bi_eq0, bi_eq1, bi_1, bi_0, bi_ir, bi_T, bi_F, up_eq, up_ne, ↓reduceIte, reduceIte, Nat.reduceAdd, Nat.reduceLeDiff, Nat.le_refl, Nat.zero_le, not_true_eq_false, not_false_eq_true, ne_eq, Int.reduceEq, Int.reduceLT, Int.reduceLE, Int.reduceAdd, Int.reduceSub, Int.reduceMul, Int.reduceNeg, pT g1, g2, g3, g4, g5, g6, pT w1, w2, pT w3, w4, w5, w6, v1, v2, v3, vB, s37_y (show 2 ≤ d - 1 by omega) hw hv hb hn hb2, pT k1, ztb_0, ztb_s]
set_option maxRecDepth 8000 in
theorem s70_7 {d : Nat} {Q : Option AV → XH → Prop} {G : XS} {s : ZS} {W U V : Int} {B : ZS} {N R T : Int} {b : Int}  (hd : 5 ≤ d) (hg : LOK G W U V) (hv : CV s W B N R T) (hb : OKB B N) (hn : 0 ≤ N ∧ N ≤ 40 ∧ 0 ≤ R ∧ R ≤ 10 ∧ 0 ≤ T ∧ T ≤ 20000) (hb2 : hr B N b)  : Call d 70 [zrf 0, zint b, zint 7] (G, s) Q = Q (some (zint (B b 7 + 50))) (G, s) := by
  have hg' := hg
  obtain ⟨g1, g2, g3, g4, g5, g6, hw, hu, hx, g7, g8, g9, g10, g11, g12⟩ := hg'
  have hw' := hw
  obtain ⟨w1, w2, w3, w4, w5, w6, w7, w8, w9, w10, w11, w12, w13, w14, w15, w16, w17, w18, w19, w20, w21, w22, w23, w24, w25⟩ := hw'
  have hv' := hv
  obtain ⟨v1, v2, v3, vB⟩ := hv'
  have bb := hb b hb2.1
  have k2 := okb_o (G := G) hv hb hb2.1
  have k1 := w6 b (by omega)
  have ptb := pt_b (B := B) (N := N) (R := R) (m := b)
  rw [e70 (show 1 ≤ d by omega)]
  simp (disch := first | omega | exact rfl) only [↓u70_0, ↓u70_1, ↓u70_4, ↓u70_5, ↓u70_8, ↓u70_9, ↓u70_10, ↓u70_13, ↓u70_14, ↓u70_15, ↓u70_16, ↓u70_80, ↓u70_81, ↓u70_84, ↓u70_85, ↓u70_86, ↓u70_89, ↓u70_90, ↓u70_91, ↓u70_94, ↓u70_95, ↓u70_96, ↓u70_99, ↓u70_100, ↓u70_101, ↓u70_104, ↓u70_105, ↓u70_106, ↓u70_109, ↓u70_110, ↓u70_111, ↓u70_114, ↓u70_116, ↓u70_117, ↓u70_118, ↓u70_119, ↓u70_122, ↓u70_124, ↓u70_125, ↓u70_126, ↓u70_127, ↓u70_130, ↓u70_131, ↓u70_134, ↓u70_135, ↓u70_136, ↓u70_139, ↓u70_140, ↓u70_143, ↓u70_146, ↓u70_147, ↓u70_148, ↓u70_151, ↓u70_152, ↓u70_153, ↓u70_156, ↓u70_157, ↓u70_160, ↓u70_161, ↓u70_162, ↓lI_0, ↓lI_s, ↓lL_0, ↓lL_s, ↓lR_0, ↓lR_s, ↓sT_0, ↓sT_i, ↓sT_r, ↓sT_u, ↓sT_lu, ↓sU_0, ↓sU_i, ↓sU_r, ↓sU_u, ↓ite_bx, bx_T, bx_F, bx_pos, bx_neg, zws_i, zws_r, zws_l, zws_n, zCb_kc, xl_ll, xr_rr, xs_e, xset_e, Option.toList, List.cons_append, List.nil_append, zIb_e, zrng_e, nz_e, if_pos, if_neg, and_true, true_and, or_true, true_or, ite_self, bi_eq0, bi_eq1, bi_1, bi_0, bi_ir, bi_T, bi_F, up_eq, up_ne, ↓reduceIte, reduceIte, Nat.reduceAdd, Nat.reduceLeDiff, Nat.le_refl, Nat.zero_le, not_true_eq_false, not_false_eq_true, ne_eq, Int.reduceEq, Int.reduceLT, Int.reduceLE, Int.reduceAdd, Int.reduceSub, Int.reduceMul, Int.reduceNeg, pT g1, g2, g3, g4, g5, g6, pT w1, w2, pT w3, w4, w5, w6, v1, v2, v3, vB, s37_y (show 2 ≤ d - 1 by omega) hw hv hb hn hb2, pT k1, ztb_0, ztb_s]
set_option maxRecDepth 8000 in
theorem s70_8 {d : Nat} {Q : Option AV → XH → Prop} {G : XS} {s : ZS} {W U V : Int} {B : ZS} {N R T : Int} {b : Int}  (hd : 5 ≤ d) (hg : LOK G W U V) (hv : CV s W B N R T) (hb : OKB B N) (hn : 0 ≤ N ∧ N ≤ 40 ∧ 0 ≤ R ∧ R ≤ 10 ∧ 0 ≤ T ∧ T ≤ 20000) (hb2 : hr B N b)  : Call d 70 [zrf 0, zint b, zint 8] (G, s) Q = Q (some (zint (pt B N R b))) (G, s) := by
  have hg' := hg
  obtain ⟨g1, g2, g3, g4, g5, g6, hw, hu, hx, g7, g8, g9, g10, g11, g12⟩ := hg'
  have hw' := hw
  obtain ⟨w1, w2, w3, w4, w5, w6, w7, w8, w9, w10, w11, w12, w13, w14, w15, w16, w17, w18, w19, w20, w21, w22, w23, w24, w25⟩ := hw'
  have hv' := hv
  obtain ⟨v1, v2, v3, vB⟩ := hv'
  have bb := hb b hb2.1
  have k2 := okb_o (G := G) hv hb hb2.1
  have k1 := w6 b (by omega)
  have ptb := pt_b (B := B) (N := N) (R := R) (m := b)
  rw [e70 (show 1 ≤ d by omega)]
  simp (disch := first | omega | exact rfl) only [↓u70_0, ↓u70_1, ↓u70_4, ↓u70_5, ↓u70_8, ↓u70_9, ↓u70_10, ↓u70_13, ↓u70_14, ↓u70_15, ↓u70_16, ↓u70_80, ↓u70_81, ↓u70_84, ↓u70_85, ↓u70_86, ↓u70_89, ↓u70_90, ↓u70_91, ↓u70_94, ↓u70_95, ↓u70_96, ↓u70_99, ↓u70_100, ↓u70_101, ↓u70_104, ↓u70_105, ↓u70_106, ↓u70_109, ↓u70_110, ↓u70_111, ↓u70_114, ↓u70_116, ↓u70_117, ↓u70_118, ↓u70_119, ↓u70_122, ↓u70_124, ↓u70_125, ↓u70_126, ↓u70_127, ↓u70_130, ↓u70_131, ↓u70_134, ↓u70_135, ↓u70_136, ↓u70_139, ↓u70_140, ↓u70_143, ↓u70_146, ↓u70_147, ↓u70_148, ↓u70_151, ↓u70_152, ↓u70_153, ↓u70_156, ↓u70_157, ↓u70_160, ↓u70_161, ↓u70_162, ↓lI_0, ↓lI_s, ↓lL_0, ↓lL_s, ↓lR_0, ↓lR_s, ↓sT_0, ↓sT_i, ↓sT_r, ↓sT_u, ↓sT_lu, ↓sU_0, ↓sU_i, ↓sU_r, ↓sU_u, ↓ite_bx, bx_T, bx_F, bx_pos, bx_neg, zws_i, zws_r, zws_l, zws_n, zCb_kc, xl_ll, xr_rr, xs_e, xset_e, Option.toList, List.cons_append, List.nil_append, zIb_e, zrng_e, nz_e, if_pos, if_neg, and_true, true_and, or_true, true_or, ite_self, bi_eq0, bi_eq1, bi_1, bi_0, bi_ir, bi_T, bi_F, up_eq, up_ne, ↓reduceIte, reduceIte, Nat.reduceAdd, Nat.reduceLeDiff, Nat.le_refl, Nat.zero_le, not_true_eq_false, not_false_eq_true, ne_eq, Int.reduceEq, Int.reduceLT, Int.reduceLE, Int.reduceAdd, Int.reduceSub, Int.reduceMul, Int.reduceNeg, pT g1, g2, g3, g4, g5, g6, pT w1, w2, pT w3, w4, w5, w6, v1, v2, v3, vB, s37_y (show 2 ≤ d - 1 by omega) hw hv hb hn hb2, pT k1, ztb_0, ztb_s, s44 (show 4 ≤ d - 1 by omega) hw hv hb hn hb2.1]
set_option maxRecDepth 8000 in
theorem s70_9 {d : Nat} {Q : Option AV → XH → Prop} {G : XS} {s : ZS} {W U V : Int} {B : ZS} {N R T : Int} {b : Int}  (hd : 5 ≤ d) (hg : LOK G W U V) (hv : CV s W B N R T) (hb : OKB B N) (hn : 0 ≤ N ∧ N ≤ 40 ∧ 0 ≤ R ∧ R ≤ 10 ∧ 0 ≤ T ∧ T ≤ 20000) (hb2 : hr B N b)  : Call d 70 [zrf 0, zint b, zint 9] (G, s) Q = Q (some (zint (dpn 10 (pt B N R b)))) (G, s) := by
  have hg' := hg
  obtain ⟨g1, g2, g3, g4, g5, g6, hw, hu, hx, g7, g8, g9, g10, g11, g12⟩ := hg'
  have hw' := hw
  obtain ⟨w1, w2, w3, w4, w5, w6, w7, w8, w9, w10, w11, w12, w13, w14, w15, w16, w17, w18, w19, w20, w21, w22, w23, w24, w25⟩ := hw'
  have hv' := hv
  obtain ⟨v1, v2, v3, vB⟩ := hv'
  have bb := hb b hb2.1
  have k2 := okb_o (G := G) hv hb hb2.1
  have k1 := w6 b (by omega)
  have ptb := pt_b (B := B) (N := N) (R := R) (m := b)
  rw [e70 (show 1 ≤ d by omega)]
  simp (disch := first | omega | exact rfl) only [↓u70_0, ↓u70_1, ↓u70_4, ↓u70_5, ↓u70_8, ↓u70_9, ↓u70_10, ↓u70_13, ↓u70_14, ↓u70_15, ↓u70_16, ↓u70_80, ↓u70_81, ↓u70_84, ↓u70_85, ↓u70_86, ↓u70_89, ↓u70_90, ↓u70_91, ↓u70_94, ↓u70_95, ↓u70_96, ↓u70_99, ↓u70_100, ↓u70_101, ↓u70_104, ↓u70_105, ↓u70_106, ↓u70_109, ↓u70_110, ↓u70_111, ↓u70_114, ↓u70_116, ↓u70_117, ↓u70_118, ↓u70_119, ↓u70_122, ↓u70_124, ↓u70_125, ↓u70_126, ↓u70_127, ↓u70_130, ↓u70_131, ↓u70_134, ↓u70_135, ↓u70_136, ↓u70_139, ↓u70_140, ↓u70_143, ↓u70_146, ↓u70_147, ↓u70_148, ↓u70_151, ↓u70_152, ↓u70_153, ↓u70_156, ↓u70_157, ↓u70_160, ↓u70_161, ↓u70_162, ↓lI_0, ↓lI_s, ↓lL_0, ↓lL_s, ↓lR_0, ↓lR_s, ↓sT_0, ↓sT_i, ↓sT_r, ↓sT_u, ↓sT_lu, ↓sU_0, ↓sU_i, ↓sU_r, ↓sU_u, ↓ite_bx, bx_T, bx_F, bx_pos, bx_neg, zws_i, zws_r, zws_l, zws_n, zCb_kc, xl_ll, xr_rr, xs_e, xset_e, Option.toList, List.cons_append, List.nil_append, zIb_e, zrng_e, nz_e, if_pos, if_neg, and_true, true_and, or_true, true_or, ite_self, bi_eq0, bi_eq1, bi_1, bi_0, bi_ir, bi_T, bi_F, up_eq, up_ne, ↓reduceIte, reduceIte, Nat.reduceAdd, Nat.reduceLeDiff, Nat.le_refl, Nat.zero_le, not_true_eq_false, not_false_eq_true, ne_eq, Int.reduceEq, Int.reduceLT, Int.reduceLE, Int.reduceAdd, Int.reduceSub, Int.reduceMul, Int.reduceNeg, pT g1, g2, g3, g4, g5, g6, pT w1, w2, pT w3, w4, w5, w6, v1, v2, v3, vB, s37_y (show 2 ≤ d - 1 by omega) hw hv hb hn hb2, pT k1, ztb_0, ztb_s, s44 (show 4 ≤ d - 1 by omega) hw hv hb hn hb2.1, s106]
set_option maxRecDepth 8000 in
theorem s70_10 {d : Nat} {Q : Option AV → XH → Prop} {G : XS} {s : ZS} {W U V : Int} {B : ZS} {N R T : Int} {b : Int}  (hd : 5 ≤ d) (hg : LOK G W U V) (hv : CV s W B N R T) (hb : OKB B N) (hn : 0 ≤ N ∧ N ≤ 40 ∧ 0 ≤ R ∧ R ≤ 10 ∧ 0 ≤ T ∧ T ≤ 20000) (hb2 : hr B N b)  : Call d 70 [zrf 0, zint b, zint 10] (G, s) Q = Q (some (zint (((B b 2 + B b 4 - 1) / 16 - B b 2 / 16 + 1) * ((B b 3 + B b 5 - 1) / 16 - B b 3 / 16 + 1)))) (G, s) := by
  have hg' := hg
  obtain ⟨g1, g2, g3, g4, g5, g6, hw, hu, hx, g7, g8, g9, g10, g11, g12⟩ := hg'
  have hw' := hw
  obtain ⟨w1, w2, w3, w4, w5, w6, w7, w8, w9, w10, w11, w12, w13, w14, w15, w16, w17, w18, w19, w20, w21, w22, w23, w24, w25⟩ := hw'
  have hv' := hv
  obtain ⟨v1, v2, v3, vB⟩ := hv'
  have bb := hb b hb2.1
  have k2 := okb_o (G := G) hv hb hb2.1
  have k1 := w6 b (by omega)
  have ptb := pt_b (B := B) (N := N) (R := R) (m := b)
  rw [e70 (show 1 ≤ d by omega)]
  simp (disch := first | omega | exact rfl) only [↓u70_0, ↓u70_1, ↓u70_4, ↓u70_5, ↓u70_8, ↓u70_9, ↓u70_10, ↓u70_13, ↓u70_14, ↓u70_15, ↓u70_16, ↓u70_80, ↓u70_81, ↓u70_84, ↓u70_85, ↓u70_86, ↓u70_89, ↓u70_90, ↓u70_91, ↓u70_94, ↓u70_95, ↓u70_96, ↓u70_99, ↓u70_100, ↓u70_101, ↓u70_104, ↓u70_105, ↓u70_106, ↓u70_109, ↓u70_110, ↓u70_111, ↓u70_114, ↓u70_116, ↓u70_117, ↓u70_118, ↓u70_119, ↓u70_122, ↓u70_124, ↓u70_125, ↓u70_126, ↓u70_127, ↓u70_130, ↓u70_131, ↓u70_134, ↓u70_135, ↓u70_136, ↓u70_139, ↓u70_140, ↓u70_143, ↓u70_146, ↓u70_147, ↓u70_148, ↓u70_151, ↓u70_152, ↓u70_153, ↓u70_156, ↓u70_157, ↓u70_160, ↓u70_161, ↓u70_162, ↓lI_0, ↓lI_s, ↓lL_0, ↓lL_s, ↓lR_0, ↓lR_s, ↓sT_0, ↓sT_i, ↓sT_r, ↓sT_u, ↓sT_lu, ↓sU_0, ↓sU_i, ↓sU_r, ↓sU_u, ↓ite_bx, bx_T, bx_F, bx_pos, bx_neg, zws_i, zws_r, zws_l, zws_n, zCb_kc, xl_ll, xr_rr, xs_e, xset_e, Option.toList, List.cons_append, List.nil_append, zIb_e, zrng_e, nz_e, if_pos, if_neg, and_true, true_and, or_true, true_or, ite_self, bi_eq0, bi_eq1, bi_1, bi_0, bi_ir, bi_T, bi_F, up_eq, up_ne, ↓reduceIte, reduceIte, Nat.reduceAdd, Nat.reduceLeDiff, Nat.le_refl, Nat.zero_le, not_true_eq_false, not_false_eq_true, ne_eq, Int.reduceEq, Int.reduceLT, Int.reduceLE, Int.reduceAdd, Int.reduceSub, Int.reduceMul, Int.reduceNeg, pT g1, g2, g3, g4, g5, g6, pT w1, w2, pT w3, w4, w5, w6, v1, v2, v3, vB, s37_y (show 2 ≤ d - 1 by omega) hw hv hb hn hb2, pT k1, ztb_0, ztb_s, s8 (show 1 ≤ d - 1 by omega) k1 k2]
set_option maxRecDepth 8000 in
theorem s70_11 {d : Nat} {Q : Option AV → XH → Prop} {G : XS} {s : ZS} {W U V : Int} {B : ZS} {N R T : Int} {b : Int}  (hd : 5 ≤ d) (hg : LOK G W U V) (hv : CV s W B N R T) (hb : OKB B N) (hn : 0 ≤ N ∧ N ≤ 40 ∧ 0 ≤ R ∧ R ≤ 10 ∧ 0 ≤ T ∧ T ≤ 20000) (hb2 : hr B N b)  : Call d 70 [zrf 0, zint b, zint 11] (G, s) Q = Q (some (zint (mtg B N b))) (G, s) := by
  have hg' := hg
  obtain ⟨g1, g2, g3, g4, g5, g6, hw, hu, hx, g7, g8, g9, g10, g11, g12⟩ := hg'
  have hw' := hw
  obtain ⟨w1, w2, w3, w4, w5, w6, w7, w8, w9, w10, w11, w12, w13, w14, w15, w16, w17, w18, w19, w20, w21, w22, w23, w24, w25⟩ := hw'
  have hv' := hv
  obtain ⟨v1, v2, v3, vB⟩ := hv'
  have bb := hb b hb2.1
  have k2 := okb_o (G := G) hv hb hb2.1
  have k1 := w6 b (by omega)
  have ptb := pt_b (B := B) (N := N) (R := R) (m := b)
  rw [e70 (show 1 ≤ d by omega)]
  simp (disch := first | omega | exact rfl) only [↓u70_0, ↓u70_1, ↓u70_4, ↓u70_5, ↓u70_8, ↓u70_9, ↓u70_10, ↓u70_13, ↓u70_14, ↓u70_15, ↓u70_16, ↓u70_80, ↓u70_81, ↓u70_84, ↓u70_85, ↓u70_86, ↓u70_89, ↓u70_90, ↓u70_91, ↓u70_94, ↓u70_95, ↓u70_96, ↓u70_99, ↓u70_100, ↓u70_101, ↓u70_104, ↓u70_105, ↓u70_106, ↓u70_109, ↓u70_110, ↓u70_111, ↓u70_114, ↓u70_116, ↓u70_117, ↓u70_118, ↓u70_119, ↓u70_122, ↓u70_124, ↓u70_125, ↓u70_126, ↓u70_127, ↓u70_130, ↓u70_131, ↓u70_134, ↓u70_135, ↓u70_136, ↓u70_139, ↓u70_140, ↓u70_143, ↓u70_146, ↓u70_147, ↓u70_148, ↓u70_151, ↓u70_152, ↓u70_153, ↓u70_156, ↓u70_157, ↓u70_160, ↓u70_161, ↓u70_162, ↓lI_0, ↓lI_s, ↓lL_0, ↓lL_s, ↓lR_0, ↓lR_s, ↓sT_0, ↓sT_i, ↓sT_r, ↓sT_u, ↓sT_lu, ↓sU_0, ↓sU_i, ↓sU_r, ↓sU_u, ↓ite_bx, bx_T, bx_F, bx_pos, bx_neg, zws_i, zws_r, zws_l, zws_n, zCb_kc, xl_ll, xr_rr, xs_e, xset_e, Option.toList, List.cons_append, List.nil_append, zIb_e, zrng_e, nz_e, if_pos, if_neg, and_true, true_and, or_true, true_or, ite_self, bi_eq0, bi_eq1, bi_1, bi_0, bi_ir, bi_T, bi_F, up_eq, up_ne, ↓reduceIte, reduceIte, Nat.reduceAdd, Nat.reduceLeDiff, Nat.le_refl, Nat.zero_le, not_true_eq_false, not_false_eq_true, ne_eq, Int.reduceEq, Int.reduceLT, Int.reduceLE, Int.reduceAdd, Int.reduceSub, Int.reduceMul, Int.reduceNeg, pT g1, g2, g3, g4, g5, g6, pT w1, w2, pT w3, w4, w5, w6, v1, v2, v3, vB, s37_y (show 2 ≤ d - 1 by omega) hw hv hb hn hb2, pT k1, ztb_0, ztb_s, t58 (show 3 ≤ d - 1 by omega) hw hv hb hn hb2.1]
set_option maxRecDepth 8000 in
theorem s70_b {d : Nat} {Q : Option AV → XH → Prop} {G : XS} {s : ZS} {W U V : Int} {B : ZS} {N R T : Int} {b : Int} {x : Int} (hd : 5 ≤ d) (hg : LOK G W U V) (hv : CV s W B N R T) (hb : OKB B N) (hn : 0 ≤ N ∧ N ≤ 40 ∧ 0 ≤ R ∧ R ≤ 10 ∧ 0 ≤ T ∧ T ≤ 20000) (hb2 : hr B N b) (ix : ir x) (q : ¬(0 ≤ x ∧ x ≤ 11)) : Call d 70 [zrf 0, zint b, zint x] (G, s) Q = Q (some (zint (-1))) (G, s) := by
  have hg' := hg
  obtain ⟨g1, g2, g3, g4, g5, g6, hw, hu, hx, g7, g8, g9, g10, g11, g12⟩ := hg'
  have hw' := hw
  obtain ⟨w1, w2, w3, w4, w5, w6, w7, w8, w9, w10, w11, w12, w13, w14, w15, w16, w17, w18, w19, w20, w21, w22, w23, w24, w25⟩ := hw'
  have hv' := hv
  obtain ⟨v1, v2, v3, vB⟩ := hv'
  have bb := hb b hb2.1
  have k2 := okb_o (G := G) hv hb hb2.1
  have k1 := w6 b (by omega)
  rw [e70 (show 1 ≤ d by omega)]
  simp (disch := first | omega | exact rfl) only [↓u70_0, ↓u70_1, ↓u70_4, ↓u70_5, ↓u70_8, ↓u70_9, ↓u70_10, ↓u70_13, ↓u70_14, ↓u70_15, ↓u70_16, ↓u70_80, ↓u70_81, ↓u70_84, ↓u70_85, ↓u70_86, ↓u70_89, ↓u70_90, ↓u70_91, ↓u70_94, ↓u70_95, ↓u70_96, ↓u70_99, ↓u70_100, ↓u70_101, ↓u70_104, ↓u70_105, ↓u70_106, ↓u70_109, ↓u70_110, ↓u70_111, ↓u70_114, ↓u70_116, ↓u70_117, ↓u70_118, ↓u70_119, ↓u70_122, ↓u70_124, ↓u70_125, ↓u70_126, ↓u70_127, ↓u70_130, ↓u70_131, ↓u70_134, ↓u70_135, ↓u70_136, ↓u70_139, ↓u70_140, ↓u70_143, ↓u70_146, ↓u70_147, ↓u70_148, ↓u70_151, ↓u70_152, ↓u70_153, ↓u70_156, ↓u70_157, ↓u70_160, ↓u70_161, ↓u70_162, ↓lI_0, ↓lI_s, ↓lL_0, ↓lL_s, ↓lR_0, ↓lR_s, ↓sT_0, ↓sT_i, ↓sT_r, ↓sT_u, ↓sT_lu, ↓sU_0, ↓sU_i, ↓sU_r, ↓sU_u, ↓ite_bx, bx_T, bx_F, bx_pos, bx_neg, zws_i, zws_r, zws_l, zws_n, zCb_kc, xl_ll, xr_rr, xs_e, xset_e, Option.toList, List.cons_append, List.nil_append, zIb_e, zrng_e, nz_e, if_pos, if_neg, and_true, true_and, or_true, true_or, ite_self, bi_eq0, bi_eq1, bi_1, bi_0, bi_ir, bi_T, bi_F, up_eq, up_ne, ↓reduceIte, reduceIte, Nat.reduceAdd, Nat.reduceLeDiff, Nat.le_refl, Nat.zero_le, not_true_eq_false, not_false_eq_true, ne_eq, Int.reduceEq, Int.reduceLT, Int.reduceLE, Int.reduceAdd, Int.reduceSub, Int.reduceMul, Int.reduceNeg, pT g1, g2, g3, g4, g5, g6, pT w1, w2, pT w3, w4, w5, w6, v1, v2, v3, vB, s37_y (show 2 ≤ d - 1 by omega) hw hv hb hn hb2, pT k1, ztb_0, ztb_s]
set_option maxRecDepth 8000 in
theorem s71_w {d : Nat} {Q : Option AV → XH → Prop} {G : XS} {s : ZS} {W U V : Int} {B : ZS} {N R T : Int} {p x : Int} (hd : 6 ≤ d) (hg : LOK G W U V) (hv : CV s W B N R T) (hb : OKB B N) (hn : 0 ≤ N ∧ N ≤ 40 ∧ 0 ≤ R ∧ R ≤ 10 ∧ 0 ≤ T ∧ T ≤ 20000) (ip : ir p) (ix : ir x) (q : ¬(0 ≤ x ∧ x ≤ 3)) : Call d 71 [zrf 0, zint p, zint x] (G, s) Q = Q (some (zint (-1))) (G, s) := by
  have hg' := hg
  obtain ⟨g1, g2, g3, g4, g5, g6, hw, hu, hx, g7, g8, g9, g10, g11, g12⟩ := hg'
  have hw' := hw
  obtain ⟨w1, w2, w3, w4, w5, w6, w7, w8, w9, w10, w11, w12, w13, w14, w15, w16, w17, w18, w19, w20, w21, w22, w23, w24, w25⟩ := hw'
  have hv' := hv
  obtain ⟨v1, v2, v3, vB⟩ := hv'
  rw [e71 (show 1 ≤ d by omega)]
  simp (disch := first | omega | exact rfl) only [↓u71_0, ↓u71_1, ↓u71_2, ↓u71_3, ↓u71_6, ↓u71_9, ↓u71_10, ↓u71_13, ↓u71_14, ↓u71_17, ↓u71_20, ↓u71_21, ↓u71_22, ↓u71_23, ↓u71_26, ↓u71_27, ↓u71_28, ↓u71_31, ↓u71_33, ↓u71_34, ↓u71_60, ↓u71_61, ↓u71_64, ↓u71_65, ↓u71_67, ↓u71_70, ↓u71_71, ↓u71_72, ↓u71_75, ↓u71_76, ↓u71_78, ↓u71_81, ↓u71_82, ↓u71_83, ↓u71_86, ↓u71_87, ↓u71_89, ↓u71_92, ↓u71_95, ↓u71_96, ↓u71_99, ↓u71_100, ↓u71_101, ↓u71_102, ↓u71_105, ↓u71_106, ↓u71_108, ↓u71_111, ↓lI_0, ↓lI_s, ↓lL_0, ↓lL_s, ↓lR_0, ↓lR_s, ↓sT_0, ↓sT_i, ↓sT_r, ↓sT_u, ↓sT_lu, ↓sU_0, ↓sU_i, ↓sU_r, ↓sU_u, ↓ite_bx, bx_T, bx_F, bx_pos, bx_neg, zws_i, zws_r, zws_l, zws_n, zCb_kc, xl_ll, xr_rr, xs_e, xset_e, Option.toList, List.cons_append, List.nil_append, zIb_e, zrng_e, nz_e, if_pos, if_neg, and_true, true_and, or_true, true_or, ite_self, bi_eq0, bi_eq1, bi_1, bi_0, bi_ir, bi_T, bi_F, up_eq, up_ne, ↓reduceIte, reduceIte, Nat.reduceAdd, Nat.reduceLeDiff, Nat.le_refl, Nat.zero_le, not_true_eq_false, not_false_eq_true, ne_eq, Int.reduceEq, Int.reduceLT, Int.reduceLE, Int.reduceAdd, Int.reduceSub, Int.reduceMul, Int.reduceNeg, pT g1, g2, g3, g4, g5, g6, pT w1, w2, pT w3, w4, w5, w6, v1, v2, v3, vB, s103]
set_option maxRecDepth 8000 in
theorem s71_r {d : Nat} {Q : Option AV → XH → Prop} {G : XS} {s : ZS} {W U V : Int} {B : ZS} {N R T : Int} {p x : Int} (hd : 6 ≤ d) (hg : LOK G W U V) (hv : CV s W B N R T) (hb : OKB B N) (hn : 0 ≤ N ∧ N ≤ 40 ∧ 0 ≤ R ∧ R ≤ 10 ∧ 0 ≤ T ∧ T ≤ 20000) (ip : ir p) (ix : ir x) (q : 0 ≤ x ∧ x ≤ 3) (q2 : p < 0 ∨ 99999 < p) : Call d 71 [zrf 0, zint p, zint x] (G, s) Q = Q (some (zint (-1))) (G, s) := by
  have hg' := hg
  obtain ⟨g1, g2, g3, g4, g5, g6, hw, hu, hx, g7, g8, g9, g10, g11, g12⟩ := hg'
  have hw' := hw
  obtain ⟨w1, w2, w3, w4, w5, w6, w7, w8, w9, w10, w11, w12, w13, w14, w15, w16, w17, w18, w19, w20, w21, w22, w23, w24, w25⟩ := hw'
  have hv' := hv
  obtain ⟨v1, v2, v3, vB⟩ := hv'
  rw [e71 (show 1 ≤ d by omega)]
  simp (disch := first | omega | exact rfl) only [↓u71_0, ↓u71_1, ↓u71_2, ↓u71_3, ↓u71_6, ↓u71_9, ↓u71_10, ↓u71_13, ↓u71_14, ↓u71_17, ↓u71_20, ↓u71_21, ↓u71_22, ↓u71_23, ↓u71_26, ↓u71_27, ↓u71_28, ↓u71_31, ↓u71_33, ↓u71_34, ↓u71_60, ↓u71_61, ↓u71_64, ↓u71_65, ↓u71_67, ↓u71_70, ↓u71_71, ↓u71_72, ↓u71_75, ↓u71_76, ↓u71_78, ↓u71_81, ↓u71_82, ↓u71_83, ↓u71_86, ↓u71_87, ↓u71_89, ↓u71_92, ↓u71_95, ↓u71_96, ↓u71_99, ↓u71_100, ↓u71_101, ↓u71_102, ↓u71_105, ↓u71_106, ↓u71_108, ↓u71_111, ↓lI_0, ↓lI_s, ↓lL_0, ↓lL_s, ↓lR_0, ↓lR_s, ↓sT_0, ↓sT_i, ↓sT_r, ↓sT_u, ↓sT_lu, ↓sU_0, ↓sU_i, ↓sU_r, ↓sU_u, ↓ite_bx, bx_T, bx_F, bx_pos, bx_neg, zws_i, zws_r, zws_l, zws_n, zCb_kc, xl_ll, xr_rr, xs_e, xset_e, Option.toList, List.cons_append, List.nil_append, zIb_e, zrng_e, nz_e, if_pos, if_neg, and_true, true_and, or_true, true_or, ite_self, bi_eq0, bi_eq1, bi_1, bi_0, bi_ir, bi_T, bi_F, up_eq, up_ne, ↓reduceIte, reduceIte, Nat.reduceAdd, Nat.reduceLeDiff, Nat.le_refl, Nat.zero_le, not_true_eq_false, not_false_eq_true, ne_eq, Int.reduceEq, Int.reduceLT, Int.reduceLE, Int.reduceAdd, Int.reduceSub, Int.reduceMul, Int.reduceNeg, pT g1, g2, g3, g4, g5, g6, pT w1, w2, pT w3, w4, w5, w6, v1, v2, v3, vB, s103, s45_n (show 4 ≤ d - 1 by omega) hw hv hb hn ip q2]
set_option maxRecDepth 8000 in
theorem s71_n {d : Nat} {Q : Option AV → XH → Prop} {G : XS} {s : ZS} {W U V : Int} {B : ZS} {N R T : Int} {p x : Int} {n : Nat} (hd : 6 ≤ d) (hg : LOK G W U V) (hv : CV s W B N R T) (hb : OKB B N) (hn : 0 ≤ N ∧ N ≤ 40 ∧ 0 ≤ R ∧ R ≤ 10 ∧ 0 ≤ T ∧ T ≤ 20000) (ip : ir p) (ix : ir x) (q : 0 ≤ x ∧ x ≤ 3) (hg2 : dig n p) (h5 : n ≤ 5) (q2 : ¬sqn B N R n p) : Call d 71 [zrf 0, zint p, zint x] (G, s) Q = Q (some (zint (-1))) (G, s) := by
  have hg' := hg
  obtain ⟨g1, g2, g3, g4, g5, g6, hw, hu, hx, g7, g8, g9, g10, g11, g12⟩ := hg'
  have hw' := hw
  obtain ⟨w1, w2, w3, w4, w5, w6, w7, w8, w9, w10, w11, w12, w13, w14, w15, w16, w17, w18, w19, w20, w21, w22, w23, w24, w25⟩ := hw'
  have hv' := hv
  obtain ⟨v1, v2, v3, vB⟩ := hv'
  rw [e71 (show 1 ≤ d by omega)]
  simp (disch := first | omega | exact rfl) only [↓u71_0, ↓u71_1, ↓u71_2, ↓u71_3, ↓u71_6, ↓u71_9, ↓u71_10, ↓u71_13, ↓u71_14, ↓u71_17, ↓u71_20, ↓u71_21, ↓u71_22, ↓u71_23, ↓u71_26, ↓u71_27, ↓u71_28, ↓u71_31, ↓u71_33, ↓u71_34, ↓u71_60, ↓u71_61, ↓u71_64, ↓u71_65, ↓u71_67, ↓u71_70, ↓u71_71, ↓u71_72, ↓u71_75, ↓u71_76, ↓u71_78, ↓u71_81, ↓u71_82, ↓u71_83, ↓u71_86, ↓u71_87, ↓u71_89, ↓u71_92, ↓u71_95, ↓u71_96, ↓u71_99, ↓u71_100, ↓u71_101, ↓u71_102, ↓u71_105, ↓u71_106, ↓u71_108, ↓u71_111, ↓lI_0, ↓lI_s, ↓lL_0, ↓lL_s, ↓lR_0, ↓lR_s, ↓sT_0, ↓sT_i, ↓sT_r, ↓sT_u, ↓sT_lu, ↓sU_0, ↓sU_i, ↓sU_r, ↓sU_u, ↓ite_bx, bx_T, bx_F, bx_pos, bx_neg, zws_i, zws_r, zws_l, zws_n, zCb_kc, xl_ll, xr_rr, xs_e, xset_e, Option.toList, List.cons_append, List.nil_append, zIb_e, zrng_e, nz_e, if_pos, if_neg, and_true, true_and, or_true, true_or, ite_self, bi_eq0, bi_eq1, bi_1, bi_0, bi_ir, bi_T, bi_F, up_eq, up_ne, ↓reduceIte, reduceIte, Nat.reduceAdd, Nat.reduceLeDiff, Nat.le_refl, Nat.zero_le, not_true_eq_false, not_false_eq_true, ne_eq, Int.reduceEq, Int.reduceLT, Int.reduceLE, Int.reduceAdd, Int.reduceSub, Int.reduceMul, Int.reduceNeg, pT g1, g2, g3, g4, g5, g6, pT w1, w2, pT w3, w4, w5, w6, v1, v2, v3, vB, s103, s45_y (show 4 ≤ d - 1 by omega) hw hv hb hn hg2 h5 ip, bi_0 q2]
set_option maxRecDepth 8000 in
theorem s71_0 {d : Nat} {Q : Option AV → XH → Prop} {G : XS} {s : ZS} {W U V : Int} {B : ZS} {N R T : Int} {p : Int} {n : Nat} (hd : 6 ≤ d) (hg : LOK G W U V) (hv : CV s W B N R T) (hb : OKB B N) (hn : 0 ≤ N ∧ N ≤ 40 ∧ 0 ≤ R ∧ R ≤ 10 ∧ 0 ≤ T ∧ T ≤ 20000) (ip : ir p) (hg2 : dig n p) (h5 : n ≤ 5) (q2 : sqn B N R n p) : Call d 71 [zrf 0, zint p, zint 0] (G, s) Q = Q (some (zint (sm (fun j => bi (inp B N R n (ixf n p) j)) 0 N))) (G, s) := by
  have hg' := hg
  obtain ⟨g1, g2, g3, g4, g5, g6, hw, hu, hx, g7, g8, g9, g10, g11, g12⟩ := hg'
  have hw' := hw
  obtain ⟨w1, w2, w3, w4, w5, w6, w7, w8, w9, w10, w11, w12, w13, w14, w15, w16, w17, w18, w19, w20, w21, w22, w23, w24, w25⟩ := hw'
  have hv' := hv
  obtain ⟨v1, v2, v3, vB⟩ := hv'
  have hk5 : 0 ≤ (n : Int) ∧ (n : Int) ≤ 5 := by omega
  have xb := ixf_b (n := n) (p := p) h5
  have xr : ir (ixf n p) := by omega
  have e1 : ∀ Q, Call (d - 1) 106 [zint p] (G, s) Q = Q (some (zint (n : Int))) (G, s) := fun Q => by rw [s106 (show 1 ≤ d - 1 by omega) ip, dig_d n _ 10 hg2 (by omega)]
  have e2 : ∀ Q, Call (d - 1) 107 [zint p] (G, s) Q = Q (some (zint (ixf n p))) (G, s) := fun Q => s107 (show 1 ≤ d - 1 by omega) ip hg2 h5
  rw [e71 (show 1 ≤ d by omega)]
  simp (disch := first | omega | exact rfl) only [↓u71_0, ↓u71_1, ↓u71_2, ↓u71_3, ↓u71_6, ↓u71_9, ↓u71_10, ↓u71_13, ↓u71_14, ↓u71_17, ↓u71_20, ↓u71_21, ↓u71_22, ↓u71_23, ↓u71_26, ↓u71_27, ↓u71_28, ↓u71_31, ↓u71_33, ↓u71_34, ↓u71_60, ↓u71_61, ↓u71_64, ↓u71_65, ↓u71_67, ↓u71_70, ↓u71_71, ↓u71_72, ↓u71_75, ↓u71_76, ↓u71_78, ↓u71_81, ↓u71_82, ↓u71_83, ↓u71_86, ↓u71_87, ↓u71_89, ↓u71_92, ↓u71_95, ↓u71_96, ↓u71_99, ↓u71_100, ↓u71_101, ↓u71_102, ↓u71_105, ↓u71_106, ↓u71_108, ↓u71_111, ↓lI_0, ↓lI_s, ↓lL_0, ↓lL_s, ↓lR_0, ↓lR_s, ↓sT_0, ↓sT_i, ↓sT_r, ↓sT_u, ↓sT_lu, ↓sU_0, ↓sU_i, ↓sU_r, ↓sU_u, ↓ite_bx, bx_T, bx_F, bx_pos, bx_neg, zws_i, zws_r, zws_l, zws_n, zCb_kc, xl_ll, xr_rr, xs_e, xset_e, Option.toList, List.cons_append, List.nil_append, zIb_e, zrng_e, nz_e, if_pos, if_neg, and_true, true_and, or_true, true_or, ite_self, bi_eq0, bi_eq1, bi_1, bi_0, bi_ir, bi_T, bi_F, up_eq, up_ne, ↓reduceIte, reduceIte, Nat.reduceAdd, Nat.reduceLeDiff, Nat.le_refl, Nat.zero_le, not_true_eq_false, not_false_eq_true, ne_eq, Int.reduceEq, Int.reduceLT, Int.reduceLE, Int.reduceAdd, Int.reduceSub, Int.reduceMul, Int.reduceNeg, pT g1, g2, g3, g4, g5, g6, pT w1, w2, pT w3, w4, w5, w6, v1, v2, v3, vB, s103, ztb_0, ztb_s, e1, e2, s45_y (show 4 ≤ d - 1 by omega) hw hv hb hn hg2 h5 ip, bi_1 q2, s47 (show 4 ≤ d - 1 by omega) hw hv hb hn hk5 xr]
set_option maxRecDepth 8000 in
theorem s71_1 {d : Nat} {Q : Option AV → XH → Prop} {G : XS} {s : ZS} {W U V : Int} {B : ZS} {N R T : Int} {p : Int} {n : Nat} (hd : 6 ≤ d) (hg : LOK G W U V) (hv : CV s W B N R T) (hb : OKB B N) (hn : 0 ≤ N ∧ N ≤ 40 ∧ 0 ≤ R ∧ R ≤ 10 ∧ 0 ≤ T ∧ T ≤ 20000) (ip : ir p) (hg2 : dig n p) (h5 : n ≤ 5) (q2 : sqn B N R n p) : Call d 71 [zrf 0, zint p, zint 1] (G, s) Q = Q (some (zint (wn B N n (ixf n p)))) (G, s) := by
  have hg' := hg
  obtain ⟨g1, g2, g3, g4, g5, g6, hw, hu, hx, g7, g8, g9, g10, g11, g12⟩ := hg'
  have hw' := hw
  obtain ⟨w1, w2, w3, w4, w5, w6, w7, w8, w9, w10, w11, w12, w13, w14, w15, w16, w17, w18, w19, w20, w21, w22, w23, w24, w25⟩ := hw'
  have hv' := hv
  obtain ⟨v1, v2, v3, vB⟩ := hv'
  have hk5 : 0 ≤ (n : Int) ∧ (n : Int) ≤ 5 := by omega
  have xb := ixf_b (n := n) (p := p) h5
  have xr : ir (ixf n p) := by omega
  have e1 : ∀ Q, Call (d - 1) 106 [zint p] (G, s) Q = Q (some (zint (n : Int))) (G, s) := fun Q => by rw [s106 (show 1 ≤ d - 1 by omega) ip, dig_d n _ 10 hg2 (by omega)]
  have e2 : ∀ Q, Call (d - 1) 107 [zint p] (G, s) Q = Q (some (zint (ixf n p))) (G, s) := fun Q => s107 (show 1 ≤ d - 1 by omega) ip hg2 h5
  rw [e71 (show 1 ≤ d by omega)]
  simp (disch := first | omega | exact rfl) only [↓u71_0, ↓u71_1, ↓u71_2, ↓u71_3, ↓u71_6, ↓u71_9, ↓u71_10, ↓u71_13, ↓u71_14, ↓u71_17, ↓u71_20, ↓u71_21, ↓u71_22, ↓u71_23, ↓u71_26, ↓u71_27, ↓u71_28, ↓u71_31, ↓u71_33, ↓u71_34, ↓u71_60, ↓u71_61, ↓u71_64, ↓u71_65, ↓u71_67, ↓u71_70, ↓u71_71, ↓u71_72, ↓u71_75, ↓u71_76, ↓u71_78, ↓u71_81, ↓u71_82, ↓u71_83, ↓u71_86, ↓u71_87, ↓u71_89, ↓u71_92, ↓u71_95, ↓u71_96, ↓u71_99, ↓u71_100, ↓u71_101, ↓u71_102, ↓u71_105, ↓u71_106, ↓u71_108, ↓u71_111, ↓lI_0, ↓lI_s, ↓lL_0, ↓lL_s, ↓lR_0, ↓lR_s, ↓sT_0, ↓sT_i, ↓sT_r, ↓sT_u, ↓sT_lu, ↓sU_0, ↓sU_i, ↓sU_r, ↓sU_u, ↓ite_bx, bx_T, bx_F, bx_pos, bx_neg, zws_i, zws_r, zws_l, zws_n, zCb_kc, xl_ll, xr_rr, xs_e, xset_e, Option.toList, List.cons_append, List.nil_append, zIb_e, zrng_e, nz_e, if_pos, if_neg, and_true, true_and, or_true, true_or, ite_self, bi_eq0, bi_eq1, bi_1, bi_0, bi_ir, bi_T, bi_F, up_eq, up_ne, ↓reduceIte, reduceIte, Nat.reduceAdd, Nat.reduceLeDiff, Nat.le_refl, Nat.zero_le, not_true_eq_false, not_false_eq_true, ne_eq, Int.reduceEq, Int.reduceLT, Int.reduceLE, Int.reduceAdd, Int.reduceSub, Int.reduceMul, Int.reduceNeg, pT g1, g2, g3, g4, g5, g6, pT w1, w2, pT w3, w4, w5, w6, v1, v2, v3, vB, s103, ztb_0, ztb_s, e1, e2, s45_y (show 4 ≤ d - 1 by omega) hw hv hb hn hg2 h5 ip, bi_1 q2, t42 (show 2 ≤ d - 1 by omega) hw hv hb hn hk5 xr]
set_option maxRecDepth 8000 in
theorem s71_2 {d : Nat} {Q : Option AV → XH → Prop} {G : XS} {s : ZS} {W U V : Int} {B : ZS} {N R T : Int} {p : Int} {n : Nat} (hd : 6 ≤ d) (hg : LOK G W U V) (hv : CV s W B N R T) (hb : OKB B N) (hn : 0 ≤ N ∧ N ≤ 40 ∧ 0 ≤ R ∧ R ≤ 10 ∧ 0 ≤ T ∧ T ≤ 20000) (ip : ir p) (hg2 : dig n p) (h5 : n ≤ 5) (q2 : sqn B N R n p) : Call d 71 [zrf 0, zint p, zint 2] (G, s) Q = Q (some (zint (bi ((n : Int) < 5 ∧ R < wn B N n (ixf n p))))) (G, s) := by
  have hg' := hg
  obtain ⟨g1, g2, g3, g4, g5, g6, hw, hu, hx, g7, g8, g9, g10, g11, g12⟩ := hg'
  have hw' := hw
  obtain ⟨w1, w2, w3, w4, w5, w6, w7, w8, w9, w10, w11, w12, w13, w14, w15, w16, w17, w18, w19, w20, w21, w22, w23, w24, w25⟩ := hw'
  have hv' := hv
  obtain ⟨v1, v2, v3, vB⟩ := hv'
  have hk5 : 0 ≤ (n : Int) ∧ (n : Int) ≤ 5 := by omega
  have xb := ixf_b (n := n) (p := p) h5
  have xr : ir (ixf n p) := by omega
  have e1 : ∀ Q, Call (d - 1) 106 [zint p] (G, s) Q = Q (some (zint (n : Int))) (G, s) := fun Q => by rw [s106 (show 1 ≤ d - 1 by omega) ip, dig_d n _ 10 hg2 (by omega)]
  have e2 : ∀ Q, Call (d - 1) 107 [zint p] (G, s) Q = Q (some (zint (ixf n p))) (G, s) := fun Q => s107 (show 1 ≤ d - 1 by omega) ip hg2 h5
  rw [e71 (show 1 ≤ d by omega)]
  by_cases q0 : (n : Int) < 5 ∧ R < wn B N n (ixf n p)
  · skip
    first
    | (exfalso; omega; done)
    | simp (disch := first | omega | exact rfl) only [↓u71_0, ↓u71_1, ↓u71_2, ↓u71_3, ↓u71_6, ↓u71_9, ↓u71_10, ↓u71_13, ↓u71_14, ↓u71_17, ↓u71_20, ↓u71_21, ↓u71_22, ↓u71_23, ↓u71_26, ↓u71_27, ↓u71_28, ↓u71_31, ↓u71_33, ↓u71_34, ↓u71_60, ↓u71_61, ↓u71_64, ↓u71_65, ↓u71_67, ↓u71_70, ↓u71_71, ↓u71_72, ↓u71_75, ↓u71_76, ↓u71_78, ↓u71_81, ↓u71_82, ↓u71_83, ↓u71_86, ↓u71_87, ↓u71_89, ↓u71_92, ↓u71_95, ↓u71_96, ↓u71_99, ↓u71_100, ↓u71_101, ↓u71_102, ↓u71_105, ↓u71_106, ↓u71_108, ↓u71_111, ↓lI_0, ↓lI_s, ↓lL_0, ↓lL_s, ↓lR_0, ↓lR_s, ↓sT_0, ↓sT_i, ↓sT_r, ↓sT_u, ↓sT_lu, ↓sU_0, ↓sU_i, ↓sU_r, ↓sU_u, ↓ite_bx, bx_T, bx_F, bx_pos, bx_neg, zws_i, zws_r, zws_l, zws_n, zCb_kc, xl_ll, xr_rr, xs_e, xset_e, Option.toList, List.cons_append, List.nil_append, zIb_e, zrng_e, nz_e, if_pos, if_neg, and_true, true_and, or_true, true_or, ite_self, bi_eq0, bi_eq1, bi_1, bi_0, bi_ir, bi_T, bi_F, up_eq, up_ne, ↓reduceIte, reduceIte, Nat.reduceAdd, Nat.reduceLeDiff, Nat.le_refl, Nat.zero_le, not_true_eq_false, not_false_eq_true, ne_eq, Int.reduceEq, Int.reduceLT, Int.reduceLE, Int.reduceAdd, Int.reduceSub, Int.reduceMul, Int.reduceNeg, pT g1, g2, g3, g4, g5, g6, pT w1, w2, pT w3, w4, w5, w6, v1, v2, v3, vB, s103, ztb_0, ztb_s, e1, e2, s45_y (show 4 ≤ d - 1 by omega) hw hv hb hn hg2 h5 ip, bi_1 q2, s43 (show 3 ≤ d - 1 by omega) hw hv hb hn hk5 xr]
  · skip
    first
    | (exfalso; omega; done)
    | simp (disch := first | omega | exact rfl) only [↓u71_0, ↓u71_1, ↓u71_2, ↓u71_3, ↓u71_6, ↓u71_9, ↓u71_10, ↓u71_13, ↓u71_14, ↓u71_17, ↓u71_20, ↓u71_21, ↓u71_22, ↓u71_23, ↓u71_26, ↓u71_27, ↓u71_28, ↓u71_31, ↓u71_33, ↓u71_34, ↓u71_60, ↓u71_61, ↓u71_64, ↓u71_65, ↓u71_67, ↓u71_70, ↓u71_71, ↓u71_72, ↓u71_75, ↓u71_76, ↓u71_78, ↓u71_81, ↓u71_82, ↓u71_83, ↓u71_86, ↓u71_87, ↓u71_89, ↓u71_92, ↓u71_95, ↓u71_96, ↓u71_99, ↓u71_100, ↓u71_101, ↓u71_102, ↓u71_105, ↓u71_106, ↓u71_108, ↓u71_111, ↓lI_0, ↓lI_s, ↓lL_0, ↓lL_s, ↓lR_0, ↓lR_s, ↓sT_0, ↓sT_i, ↓sT_r, ↓sT_u, ↓sT_lu, ↓sU_0, ↓sU_i, ↓sU_r, ↓sU_u, ↓ite_bx, bx_T, bx_F, bx_pos, bx_neg, zws_i, zws_r, zws_l, zws_n, zCb_kc, xl_ll, xr_rr, xs_e, xset_e, Option.toList, List.cons_append, List.nil_append, zIb_e, zrng_e, nz_e, if_pos, if_neg, and_true, true_and, or_true, true_or, ite_self, bi_eq0, bi_eq1, bi_1, bi_0, bi_ir, bi_T, bi_F, up_eq, up_ne, ↓reduceIte, reduceIte, Nat.reduceAdd, Nat.reduceLeDiff, Nat.le_refl, Nat.zero_le, not_true_eq_false, not_false_eq_true, ne_eq, Int.reduceEq, Int.reduceLT, Int.reduceLE, Int.reduceAdd, Int.reduceSub, Int.reduceMul, Int.reduceNeg, pT g1, g2, g3, g4, g5, g6, pT w1, w2, pT w3, w4, w5, w6, v1, v2, v3, vB, s103, ztb_0, ztb_s, e1, e2, s45_y (show 4 ≤ d - 1 by omega) hw hv hb hn hg2 h5 ip, bi_1 q2, s43 (show 3 ≤ d - 1 by omega) hw hv hb hn hk5 xr]
set_option maxRecDepth 8000 in
theorem s71_3 {d : Nat} {Q : Option AV → XH → Prop} {G : XS} {s : ZS} {W U V : Int} {B : ZS} {N R T : Int} {p : Int} {n : Nat} (hd : 6 ≤ d) (hg : LOK G W U V) (hv : CV s W B N R T) (hb : OKB B N) (hn : 0 ≤ N ∧ N ≤ 40 ∧ 0 ≤ R ∧ R ≤ 10 ∧ 0 ≤ T ∧ T ≤ 20000) (ip : ir p) (hg2 : dig n p) (h5 : n ≤ 5) (q2 : sqn B N R n p) : Call d 71 [zrf 0, zint p, zint 3] (G, s) Q = Q (some (zint (kth (fun j => inp B N R n (ixf n p) j) 0 N 0))) (G, s) := by
  have hg' := hg
  obtain ⟨g1, g2, g3, g4, g5, g6, hw, hu, hx, g7, g8, g9, g10, g11, g12⟩ := hg'
  have hw' := hw
  obtain ⟨w1, w2, w3, w4, w5, w6, w7, w8, w9, w10, w11, w12, w13, w14, w15, w16, w17, w18, w19, w20, w21, w22, w23, w24, w25⟩ := hw'
  have hv' := hv
  obtain ⟨v1, v2, v3, vB⟩ := hv'
  have hk5 : 0 ≤ (n : Int) ∧ (n : Int) ≤ 5 := by omega
  have xb := ixf_b (n := n) (p := p) h5
  have xr : ir (ixf n p) := by omega
  have e1 : ∀ Q, Call (d - 1) 106 [zint p] (G, s) Q = Q (some (zint (n : Int))) (G, s) := fun Q => by rw [s106 (show 1 ≤ d - 1 by omega) ip, dig_d n _ 10 hg2 (by omega)]
  have e2 : ∀ Q, Call (d - 1) 107 [zint p] (G, s) Q = Q (some (zint (ixf n p))) (G, s) := fun Q => s107 (show 1 ≤ d - 1 by omega) ip hg2 h5
  rw [e71 (show 1 ≤ d by omega)]
  simp (disch := first | omega | exact rfl) only [↓u71_0, ↓u71_1, ↓u71_2, ↓u71_3, ↓u71_6, ↓u71_9, ↓u71_10, ↓u71_13, ↓u71_14, ↓u71_17, ↓u71_20, ↓u71_21, ↓u71_22, ↓u71_23, ↓u71_26, ↓u71_27, ↓u71_28, ↓u71_31, ↓u71_33, ↓u71_34, ↓u71_60, ↓u71_61, ↓u71_64, ↓u71_65, ↓u71_67, ↓u71_70, ↓u71_71, ↓u71_72, ↓u71_75, ↓u71_76, ↓u71_78, ↓u71_81, ↓u71_82, ↓u71_83, ↓u71_86, ↓u71_87, ↓u71_89, ↓u71_92, ↓u71_95, ↓u71_96, ↓u71_99, ↓u71_100, ↓u71_101, ↓u71_102, ↓u71_105, ↓u71_106, ↓u71_108, ↓u71_111, ↓lI_0, ↓lI_s, ↓lL_0, ↓lL_s, ↓lR_0, ↓lR_s, ↓sT_0, ↓sT_i, ↓sT_r, ↓sT_u, ↓sT_lu, ↓sU_0, ↓sU_i, ↓sU_r, ↓sU_u, ↓ite_bx, bx_T, bx_F, bx_pos, bx_neg, zws_i, zws_r, zws_l, zws_n, zCb_kc, xl_ll, xr_rr, xs_e, xset_e, Option.toList, List.cons_append, List.nil_append, zIb_e, zrng_e, nz_e, if_pos, if_neg, and_true, true_and, or_true, true_or, ite_self, bi_eq0, bi_eq1, bi_1, bi_0, bi_ir, bi_T, bi_F, up_eq, up_ne, ↓reduceIte, reduceIte, Nat.reduceAdd, Nat.reduceLeDiff, Nat.le_refl, Nat.zero_le, not_true_eq_false, not_false_eq_true, ne_eq, Int.reduceEq, Int.reduceLT, Int.reduceLE, Int.reduceAdd, Int.reduceSub, Int.reduceMul, Int.reduceNeg, pT g1, g2, g3, g4, g5, g6, pT w1, w2, pT w3, w4, w5, w6, v1, v2, v3, vB, s103, ztb_0, ztb_s, e1, e2, s45_y (show 4 ≤ d - 1 by omega) hw hv hb hn hg2 h5 ip, bi_1 q2, s48 (show 4 ≤ d - 1 by omega) hw hv hb hn hk5 xr]
set_option maxRecDepth 8000 in
theorem s72_n {d : Nat} {Q : Option AV → XH → Prop} {G : XS} {s : ZS} {W U V : Int} {B : ZS} {N R T : Int} {x y z : Int} (hd : 5 ≤ d) (hg : LOK G W U V) (hv : CV s W B N R T) (hb : OKB B N) (hn : 0 ≤ N ∧ N ≤ 40 ∧ 0 ≤ R ∧ R ≤ 10 ∧ 0 ≤ T ∧ T ≤ 20000) (ix : ir x) (iy : ir y) (iz : ir z) (q : ¬(((0 ≤ x ∧ x ≤ 7) ∧ 0 ≤ y ∧ y ≤ 7) ∧ 0 ≤ z)) : Call d 72 [zrf 0, zint x, zint y, zint z] (G, s) Q = Q (some (zint (-1))) (G, s) := by
  have hg' := hg
  obtain ⟨g1, g2, g3, g4, g5, g6, hw, hu, hx, g7, g8, g9, g10, g11, g12⟩ := hg'
  have hw' := hw
  obtain ⟨w1, w2, w3, w4, w5, w6, w7, w8, w9, w10, w11, w12, w13, w14, w15, w16, w17, w18, w19, w20, w21, w22, w23, w24, w25⟩ := hw'
  have hv' := hv
  obtain ⟨v1, v2, v3, vB⟩ := hv'
  rw [e72 (show 1 ≤ d by omega)]
  by_cases q0 : 0 ≤ x ∧ x ≤ 7
  · skip
    by_cases q1 : 0 ≤ y ∧ y ≤ 7
    · skip
      first
      | (exfalso; omega; done)
      | simp (disch := first | omega | exact rfl) only [↓u72_0, ↓u72_1, ↓u72_2, ↓u72_4, ↓u72_7, ↓u72_10, ↓u72_11, ↓u72_12, ↓u72_14, ↓u72_17, ↓u72_20, ↓u72_21, ↓u72_24, ↓u72_25, ↓u72_26, ↓u72_27, ↓u72_30, ↓u72_31, ↓u72_34, ↓u72_35, ↓u72_36, ↓u72_39, ↓u72_40, ↓u72_41, ↓u72_44, ↓u72_45, ↓u72_46, ↓u72_47, ↓u72_48, ↓u72_49, ↓u72_52, ↓lI_0, ↓lI_s, ↓lL_0, ↓lL_s, ↓lR_0, ↓lR_s, ↓sT_0, ↓sT_i, ↓sT_r, ↓sT_u, ↓sT_lu, ↓sU_0, ↓sU_i, ↓sU_r, ↓sU_u, ↓ite_bx, bx_T, bx_F, bx_pos, bx_neg, zws_i, zws_r, zws_l, zws_n, zCb_kc, xl_ll, xr_rr, xs_e, xset_e, Option.toList, List.cons_append, List.nil_append, zIb_e, zrng_e, nz_e, if_pos, if_neg, and_true, true_and, or_true, true_or, ite_self, bi_eq0, bi_eq1, bi_1, bi_0, bi_ir, bi_T, bi_F, up_eq, up_ne, ↓reduceIte, reduceIte, Nat.reduceAdd, Nat.reduceLeDiff, Nat.le_refl, Nat.zero_le, not_true_eq_false, not_false_eq_true, ne_eq, Int.reduceEq, Int.reduceLT, Int.reduceLE, Int.reduceAdd, Int.reduceSub, Int.reduceMul, Int.reduceNeg, pT g1, g2, g3, g4, g5, g6, pT w1, w2, pT w3, w4, w5, w6, v1, v2, v3, vB, s103]
    · skip
      first
      | (exfalso; omega; done)
      | simp (disch := first | omega | exact rfl) only [↓u72_0, ↓u72_1, ↓u72_2, ↓u72_4, ↓u72_7, ↓u72_10, ↓u72_11, ↓u72_12, ↓u72_14, ↓u72_17, ↓u72_20, ↓u72_21, ↓u72_24, ↓u72_25, ↓u72_26, ↓u72_27, ↓u72_30, ↓u72_31, ↓u72_34, ↓u72_35, ↓u72_36, ↓u72_39, ↓u72_40, ↓u72_41, ↓u72_44, ↓u72_45, ↓u72_46, ↓u72_47, ↓u72_48, ↓u72_49, ↓u72_52, ↓lI_0, ↓lI_s, ↓lL_0, ↓lL_s, ↓lR_0, ↓lR_s, ↓sT_0, ↓sT_i, ↓sT_r, ↓sT_u, ↓sT_lu, ↓sU_0, ↓sU_i, ↓sU_r, ↓sU_u, ↓ite_bx, bx_T, bx_F, bx_pos, bx_neg, zws_i, zws_r, zws_l, zws_n, zCb_kc, xl_ll, xr_rr, xs_e, xset_e, Option.toList, List.cons_append, List.nil_append, zIb_e, zrng_e, nz_e, if_pos, if_neg, and_true, true_and, or_true, true_or, ite_self, bi_eq0, bi_eq1, bi_1, bi_0, bi_ir, bi_T, bi_F, up_eq, up_ne, ↓reduceIte, reduceIte, Nat.reduceAdd, Nat.reduceLeDiff, Nat.le_refl, Nat.zero_le, not_true_eq_false, not_false_eq_true, ne_eq, Int.reduceEq, Int.reduceLT, Int.reduceLE, Int.reduceAdd, Int.reduceSub, Int.reduceMul, Int.reduceNeg, pT g1, g2, g3, g4, g5, g6, pT w1, w2, pT w3, w4, w5, w6, v1, v2, v3, vB, s103]
  · skip
    by_cases q1 : 0 ≤ y ∧ y ≤ 7
    · skip
      first
      | (exfalso; omega; done)
      | simp (disch := first | omega | exact rfl) only [↓u72_0, ↓u72_1, ↓u72_2, ↓u72_4, ↓u72_7, ↓u72_10, ↓u72_11, ↓u72_12, ↓u72_14, ↓u72_17, ↓u72_20, ↓u72_21, ↓u72_24, ↓u72_25, ↓u72_26, ↓u72_27, ↓u72_30, ↓u72_31, ↓u72_34, ↓u72_35, ↓u72_36, ↓u72_39, ↓u72_40, ↓u72_41, ↓u72_44, ↓u72_45, ↓u72_46, ↓u72_47, ↓u72_48, ↓u72_49, ↓u72_52, ↓lI_0, ↓lI_s, ↓lL_0, ↓lL_s, ↓lR_0, ↓lR_s, ↓sT_0, ↓sT_i, ↓sT_r, ↓sT_u, ↓sT_lu, ↓sU_0, ↓sU_i, ↓sU_r, ↓sU_u, ↓ite_bx, bx_T, bx_F, bx_pos, bx_neg, zws_i, zws_r, zws_l, zws_n, zCb_kc, xl_ll, xr_rr, xs_e, xset_e, Option.toList, List.cons_append, List.nil_append, zIb_e, zrng_e, nz_e, if_pos, if_neg, and_true, true_and, or_true, true_or, ite_self, bi_eq0, bi_eq1, bi_1, bi_0, bi_ir, bi_T, bi_F, up_eq, up_ne, ↓reduceIte, reduceIte, Nat.reduceAdd, Nat.reduceLeDiff, Nat.le_refl, Nat.zero_le, not_true_eq_false, not_false_eq_true, ne_eq, Int.reduceEq, Int.reduceLT, Int.reduceLE, Int.reduceAdd, Int.reduceSub, Int.reduceMul, Int.reduceNeg, pT g1, g2, g3, g4, g5, g6, pT w1, w2, pT w3, w4, w5, w6, v1, v2, v3, vB, s103]
    · skip
      first
      | (exfalso; omega; done)
      | simp (disch := first | omega | exact rfl) only [↓u72_0, ↓u72_1, ↓u72_2, ↓u72_4, ↓u72_7, ↓u72_10, ↓u72_11, ↓u72_12, ↓u72_14, ↓u72_17, ↓u72_20, ↓u72_21, ↓u72_24, ↓u72_25, ↓u72_26, ↓u72_27, ↓u72_30, ↓u72_31, ↓u72_34, ↓u72_35, ↓u72_36, ↓u72_39, ↓u72_40, ↓u72_41, ↓u72_44, ↓u72_45, ↓u72_46, ↓u72_47, ↓u72_48, ↓u72_49, ↓u72_52, ↓lI_0, ↓lI_s, ↓lL_0, ↓lL_s, ↓lR_0, ↓lR_s, ↓sT_0, ↓sT_i, ↓sT_r, ↓sT_u, ↓sT_lu, ↓sU_0, ↓sU_i, ↓sU_r, ↓sU_u, ↓ite_bx, bx_T, bx_F, bx_pos, bx_neg, zws_i, zws_r, zws_l, zws_n, zCb_kc, xl_ll, xr_rr, xs_e, xset_e, Option.toList, List.cons_append, List.nil_append, zIb_e, zrng_e, nz_e, if_pos, if_neg, and_true, true_and, or_true, true_or, ite_self, bi_eq0, bi_eq1, bi_1, bi_0, bi_ir, bi_T, bi_F, up_eq, up_ne, ↓reduceIte, reduceIte, Nat.reduceAdd, Nat.reduceLeDiff, Nat.le_refl, Nat.zero_le, not_true_eq_false, not_false_eq_true, ne_eq, Int.reduceEq, Int.reduceLT, Int.reduceLE, Int.reduceAdd, Int.reduceSub, Int.reduceMul, Int.reduceNeg, pT g1, g2, g3, g4, g5, g6, pT w1, w2, pT w3, w4, w5, w6, v1, v2, v3, vB, s103]
set_option maxRecDepth 8000 in
theorem s72_0 {d : Nat} {Q : Option AV → XH → Prop} {G : XS} {s : ZS} {W U V : Int} {B : ZS} {N R T : Int} {x y z : Int} (hd : 5 ≤ d) (hg : LOK G W U V) (hv : CV s W B N R T) (hb : OKB B N) (hn : 0 ≤ N ∧ N ≤ 40 ∧ 0 ≤ R ∧ R ≤ 10 ∧ 0 ≤ T ∧ T ≤ 20000) (ix : ir x) (iy : ir y) (iz : ir z) (q : ((0 ≤ x ∧ x ≤ 7) ∧ 0 ≤ y ∧ y ≤ 7)) (q2 : z = 0) : Call d 72 [zrf 0, zint x, zint y, zint z] (G, s) Q = Q (some (zint (sm (fun j => bi (B j 8 = 1 ∧ cov (B j 2) (B j 3) (B j 4) (B j 5) (x * 16) (y * 16) 16 16)) 0 N))) (G, s) := by
  have hg' := hg
  obtain ⟨g1, g2, g3, g4, g5, g6, hw, hu, hx, g7, g8, g9, g10, g11, g12⟩ := hg'
  have hw' := hw
  obtain ⟨w1, w2, w3, w4, w5, w6, w7, w8, w9, w10, w11, w12, w13, w14, w15, w16, w17, w18, w19, w20, w21, w22, w23, w24, w25⟩ := hw'
  have hv' := hv
  obtain ⟨v1, v2, v3, vB⟩ := hv'
  rw [e72 (show 1 ≤ d by omega)]
  simp (disch := first | omega | exact rfl) only [↓u72_0, ↓u72_1, ↓u72_2, ↓u72_4, ↓u72_7, ↓u72_10, ↓u72_11, ↓u72_12, ↓u72_14, ↓u72_17, ↓u72_20, ↓u72_21, ↓u72_24, ↓u72_25, ↓u72_26, ↓u72_27, ↓u72_30, ↓u72_31, ↓u72_34, ↓u72_35, ↓u72_36, ↓u72_39, ↓u72_40, ↓u72_41, ↓u72_44, ↓u72_45, ↓u72_46, ↓u72_47, ↓u72_48, ↓u72_49, ↓u72_52, ↓lI_0, ↓lI_s, ↓lL_0, ↓lL_s, ↓lR_0, ↓lR_s, ↓sT_0, ↓sT_i, ↓sT_r, ↓sT_u, ↓sT_lu, ↓sU_0, ↓sU_i, ↓sU_r, ↓sU_u, ↓ite_bx, bx_T, bx_F, bx_pos, bx_neg, zws_i, zws_r, zws_l, zws_n, zCb_kc, xl_ll, xr_rr, xs_e, xset_e, Option.toList, List.cons_append, List.nil_append, zIb_e, zrng_e, nz_e, if_pos, if_neg, and_true, true_and, or_true, true_or, ite_self, bi_eq0, bi_eq1, bi_1, bi_0, bi_ir, bi_T, bi_F, up_eq, up_ne, ↓reduceIte, reduceIte, Nat.reduceAdd, Nat.reduceLeDiff, Nat.le_refl, Nat.zero_le, not_true_eq_false, not_false_eq_true, ne_eq, Int.reduceEq, Int.reduceLT, Int.reduceLE, Int.reduceAdd, Int.reduceSub, Int.reduceMul, Int.reduceNeg, pT g1, g2, g3, g4, g5, g6, pT w1, w2, pT w3, w4, w5, w6, v1, v2, v3, vB, s103, s52 (show 3 ≤ d - 1 by omega) hw hv hb hn q.1 q.2]
set_option maxRecDepth 8000 in
theorem s72_y {d : Nat} {Q : Option AV → XH → Prop} {G : XS} {s : ZS} {W U V : Int} {B : ZS} {N R T : Int} {x y z : Int} (hd : 5 ≤ d) (hg : LOK G W U V) (hv : CV s W B N R T) (hb : OKB B N) (hn : 0 ≤ N ∧ N ≤ 40 ∧ 0 ≤ R ∧ R ≤ 10 ∧ 0 ≤ T ∧ T ≤ 20000) (ix : ir x) (iy : ir y) (iz : ir z) (q : ((0 ≤ x ∧ x ≤ 7) ∧ 0 ≤ y ∧ y ≤ 7)) (q2 : 0 < z) : Call d 72 [zrf 0, zint x, zint y, zint z] (G, s) Q = Q (some (zint (kth (fun j => B j 8 = 1 ∧ cov (B j 2) (B j 3) (B j 4) (B j 5) (x * 16) (y * 16) 16 16) 0 N (z - 1)))) (G, s) := by
  have hg' := hg
  obtain ⟨g1, g2, g3, g4, g5, g6, hw, hu, hx, g7, g8, g9, g10, g11, g12⟩ := hg'
  have hw' := hw
  obtain ⟨w1, w2, w3, w4, w5, w6, w7, w8, w9, w10, w11, w12, w13, w14, w15, w16, w17, w18, w19, w20, w21, w22, w23, w24, w25⟩ := hw'
  have hv' := hv
  obtain ⟨v1, v2, v3, vB⟩ := hv'
  rw [e72 (show 1 ≤ d by omega)]
  simp (disch := first | omega | exact rfl) only [↓u72_0, ↓u72_1, ↓u72_2, ↓u72_4, ↓u72_7, ↓u72_10, ↓u72_11, ↓u72_12, ↓u72_14, ↓u72_17, ↓u72_20, ↓u72_21, ↓u72_24, ↓u72_25, ↓u72_26, ↓u72_27, ↓u72_30, ↓u72_31, ↓u72_34, ↓u72_35, ↓u72_36, ↓u72_39, ↓u72_40, ↓u72_41, ↓u72_44, ↓u72_45, ↓u72_46, ↓u72_47, ↓u72_48, ↓u72_49, ↓u72_52, ↓lI_0, ↓lI_s, ↓lL_0, ↓lL_s, ↓lR_0, ↓lR_s, ↓sT_0, ↓sT_i, ↓sT_r, ↓sT_u, ↓sT_lu, ↓sU_0, ↓sU_i, ↓sU_r, ↓sU_u, ↓ite_bx, bx_T, bx_F, bx_pos, bx_neg, zws_i, zws_r, zws_l, zws_n, zCb_kc, xl_ll, xr_rr, xs_e, xset_e, Option.toList, List.cons_append, List.nil_append, zIb_e, zrng_e, nz_e, if_pos, if_neg, and_true, true_and, or_true, true_or, ite_self, bi_eq0, bi_eq1, bi_1, bi_0, bi_ir, bi_T, bi_F, up_eq, up_ne, ↓reduceIte, reduceIte, Nat.reduceAdd, Nat.reduceLeDiff, Nat.le_refl, Nat.zero_le, not_true_eq_false, not_false_eq_true, ne_eq, Int.reduceEq, Int.reduceLT, Int.reduceLE, Int.reduceAdd, Int.reduceSub, Int.reduceMul, Int.reduceNeg, pT g1, g2, g3, g4, g5, g6, pT w1, w2, pT w3, w4, w5, w6, v1, v2, v3, vB, s103, s53 (show 3 ≤ d - 1 by omega) hw hv hb hn q.1 q.2 (show 0 ≤ z - 1 ∧ ir (z - 1) by omega)]
set_option maxRecDepth 8000 in
theorem s73_0 {d : Nat} {Q : Option AV → XH → Prop} {G : XS} {s : ZS} {W U V : Int} {B : ZS} {N R T : Int}  (hd : 5 ≤ d) (hg : LOK G W U V) (hv : CV s W B N R T) (hb : OKB B N) (hn : 0 ≤ N ∧ N ≤ 40 ∧ 0 ≤ R ∧ R ≤ 10 ∧ 0 ≤ T ∧ T ≤ 20000)  : Call d 73 [zrf 0, zint 0] (G, s) Q = Q (some (zint (T))) (G, s) := by
  have hg' := hg
  obtain ⟨g1, g2, g3, g4, g5, g6, hw, hu, hx, g7, g8, g9, g10, g11, g12⟩ := hg'
  have hw' := hw
  obtain ⟨w1, w2, w3, w4, w5, w6, w7, w8, w9, w10, w11, w12, w13, w14, w15, w16, w17, w18, w19, w20, w21, w22, w23, w24, w25⟩ := hw'
  have hv' := hv
  obtain ⟨v1, v2, v3, vB⟩ := hv'
  rw [e73 (show 1 ≤ d by omega)]
  simp (disch := first | omega | exact rfl) only [↓u73_0, ↓u73_1, ↓u73_40, ↓u73_41, ↓u73_44, ↓u73_47, ↓u73_48, ↓u73_49, ↓u73_52, ↓u73_55, ↓u73_56, ↓u73_57, ↓u73_60, ↓u73_63, ↓u73_64, ↓u73_65, ↓u73_68, ↓u73_71, ↓u73_72, ↓u73_73, ↓u73_76, ↓u73_79, ↓u73_80, ↓u73_81, ↓u73_84, ↓u73_87, ↓u73_88, ↓u73_89, ↓lI_0, ↓lI_s, ↓lL_0, ↓lL_s, ↓lR_0, ↓lR_s, ↓sT_0, ↓sT_i, ↓sT_r, ↓sT_u, ↓sT_lu, ↓sU_0, ↓sU_i, ↓sU_r, ↓sU_u, ↓ite_bx, bx_T, bx_F, bx_pos, bx_neg, zws_i, zws_r, zws_l, zws_n, zCb_kc, xl_ll, xr_rr, xs_e, xset_e, Option.toList, List.cons_append, List.nil_append, zIb_e, zrng_e, nz_e, if_pos, if_neg, and_true, true_and, or_true, true_or, ite_self, bi_eq0, bi_eq1, bi_1, bi_0, bi_ir, bi_T, bi_F, up_eq, up_ne, ↓reduceIte, reduceIte, Nat.reduceAdd, Nat.reduceLeDiff, Nat.le_refl, Nat.zero_le, not_true_eq_false, not_false_eq_true, ne_eq, Int.reduceEq, Int.reduceLT, Int.reduceLE, Int.reduceAdd, Int.reduceSub, Int.reduceMul, Int.reduceNeg, pT g1, g2, g3, g4, g5, g6, pT w1, w2, pT w3, w4, w5, w6, v1, v2, v3, vB, ztb_0, ztb_s]
set_option maxRecDepth 8000 in
theorem s73_3 {d : Nat} {Q : Option AV → XH → Prop} {G : XS} {s : ZS} {W U V : Int} {B : ZS} {N R T : Int}  (hd : 5 ≤ d) (hg : LOK G W U V) (hv : CV s W B N R T) (hb : OKB B N) (hn : 0 ≤ N ∧ N ≤ 40 ∧ 0 ≤ R ∧ R ≤ 10 ∧ 0 ≤ T ∧ T ≤ 20000)  : Call d 73 [zrf 0, zint 3] (G, s) Q = Q (some (zint (prs B N))) (G, s) := by
  have hg' := hg
  obtain ⟨g1, g2, g3, g4, g5, g6, hw, hu, hx, g7, g8, g9, g10, g11, g12⟩ := hg'
  have hw' := hw
  obtain ⟨w1, w2, w3, w4, w5, w6, w7, w8, w9, w10, w11, w12, w13, w14, w15, w16, w17, w18, w19, w20, w21, w22, w23, w24, w25⟩ := hw'
  have hv' := hv
  obtain ⟨v1, v2, v3, vB⟩ := hv'
  rw [e73 (show 1 ≤ d by omega)]
  simp (disch := first | omega | exact rfl) only [↓u73_0, ↓u73_1, ↓u73_40, ↓u73_41, ↓u73_44, ↓u73_47, ↓u73_48, ↓u73_49, ↓u73_52, ↓u73_55, ↓u73_56, ↓u73_57, ↓u73_60, ↓u73_63, ↓u73_64, ↓u73_65, ↓u73_68, ↓u73_71, ↓u73_72, ↓u73_73, ↓u73_76, ↓u73_79, ↓u73_80, ↓u73_81, ↓u73_84, ↓u73_87, ↓u73_88, ↓u73_89, ↓lI_0, ↓lI_s, ↓lL_0, ↓lL_s, ↓lR_0, ↓lR_s, ↓sT_0, ↓sT_i, ↓sT_r, ↓sT_u, ↓sT_lu, ↓sU_0, ↓sU_i, ↓sU_r, ↓sU_u, ↓ite_bx, bx_T, bx_F, bx_pos, bx_neg, zws_i, zws_r, zws_l, zws_n, zCb_kc, xl_ll, xr_rr, xs_e, xset_e, Option.toList, List.cons_append, List.nil_append, zIb_e, zrng_e, nz_e, if_pos, if_neg, and_true, true_and, or_true, true_or, ite_self, bi_eq0, bi_eq1, bi_1, bi_0, bi_ir, bi_T, bi_F, up_eq, up_ne, ↓reduceIte, reduceIte, Nat.reduceAdd, Nat.reduceLeDiff, Nat.le_refl, Nat.zero_le, not_true_eq_false, not_false_eq_true, ne_eq, Int.reduceEq, Int.reduceLT, Int.reduceLE, Int.reduceAdd, Int.reduceSub, Int.reduceMul, Int.reduceNeg, pT g1, g2, g3, g4, g5, g6, pT w1, w2, pT w3, w4, w5, w6, v1, v2, v3, vB, ztb_0, ztb_s, t59 (show 4 ≤ d - 1 by omega) hw hv hb hn]
set_option maxRecDepth 8000 in
theorem s73_4 {d : Nat} {Q : Option AV → XH → Prop} {G : XS} {s : ZS} {W U V : Int} {B : ZS} {N R T : Int}  (hd : 5 ≤ d) (hg : LOK G W U V) (hv : CV s W B N R T) (hb : OKB B N) (hn : 0 ≤ N ∧ N ≤ 40 ∧ 0 ≤ R ∧ R ≤ 10 ∧ 0 ≤ T ∧ T ≤ 20000)  : Call d 73 [zrf 0, zint 4] (G, s) Q = Q (some (zint (sm (fun c => tcl B N c 0) 0 8))) (G, s) := by
  have hg' := hg
  obtain ⟨g1, g2, g3, g4, g5, g6, hw, hu, hx, g7, g8, g9, g10, g11, g12⟩ := hg'
  have hw' := hw
  obtain ⟨w1, w2, w3, w4, w5, w6, w7, w8, w9, w10, w11, w12, w13, w14, w15, w16, w17, w18, w19, w20, w21, w22, w23, w24, w25⟩ := hw'
  have hv' := hv
  obtain ⟨v1, v2, v3, vB⟩ := hv'
  rw [e73 (show 1 ≤ d by omega)]
  simp (disch := first | omega | exact rfl) only [↓u73_0, ↓u73_1, ↓u73_40, ↓u73_41, ↓u73_44, ↓u73_47, ↓u73_48, ↓u73_49, ↓u73_52, ↓u73_55, ↓u73_56, ↓u73_57, ↓u73_60, ↓u73_63, ↓u73_64, ↓u73_65, ↓u73_68, ↓u73_71, ↓u73_72, ↓u73_73, ↓u73_76, ↓u73_79, ↓u73_80, ↓u73_81, ↓u73_84, ↓u73_87, ↓u73_88, ↓u73_89, ↓lI_0, ↓lI_s, ↓lL_0, ↓lL_s, ↓lR_0, ↓lR_s, ↓sT_0, ↓sT_i, ↓sT_r, ↓sT_u, ↓sT_lu, ↓sU_0, ↓sU_i, ↓sU_r, ↓sU_u, ↓ite_bx, bx_T, bx_F, bx_pos, bx_neg, zws_i, zws_r, zws_l, zws_n, zCb_kc, xl_ll, xr_rr, xs_e, xset_e, Option.toList, List.cons_append, List.nil_append, zIb_e, zrng_e, nz_e, if_pos, if_neg, and_true, true_and, or_true, true_or, ite_self, bi_eq0, bi_eq1, bi_1, bi_0, bi_ir, bi_T, bi_F, up_eq, up_ne, ↓reduceIte, reduceIte, Nat.reduceAdd, Nat.reduceLeDiff, Nat.le_refl, Nat.zero_le, not_true_eq_false, not_false_eq_true, ne_eq, Int.reduceEq, Int.reduceLT, Int.reduceLE, Int.reduceAdd, Int.reduceSub, Int.reduceMul, Int.reduceNeg, pT g1, g2, g3, g4, g5, g6, pT w1, w2, pT w3, w4, w5, w6, v1, v2, v3, vB, ztb_0, ztb_s, s54 (show 4 ≤ d - 1 by omega) hw hv hb hn]
set_option maxRecDepth 8000 in
theorem s73_5 {d : Nat} {Q : Option AV → XH → Prop} {G : XS} {s : ZS} {W U V : Int} {B : ZS} {N R T : Int}  (hd : 5 ≤ d) (hg : LOK G W U V) (hv : CV s W B N R T) (hb : OKB B N) (hn : 0 ≤ N ∧ N ≤ 40 ∧ 0 ≤ R ∧ R ≤ 10 ∧ 0 ≤ T ∧ T ≤ 20000)  : Call d 73 [zrf 0, zint 5] (G, s) Q = Q (some (zint (R))) (G, s) := by
  have hg' := hg
  obtain ⟨g1, g2, g3, g4, g5, g6, hw, hu, hx, g7, g8, g9, g10, g11, g12⟩ := hg'
  have hw' := hw
  obtain ⟨w1, w2, w3, w4, w5, w6, w7, w8, w9, w10, w11, w12, w13, w14, w15, w16, w17, w18, w19, w20, w21, w22, w23, w24, w25⟩ := hw'
  have hv' := hv
  obtain ⟨v1, v2, v3, vB⟩ := hv'
  rw [e73 (show 1 ≤ d by omega)]
  simp (disch := first | omega | exact rfl) only [↓u73_0, ↓u73_1, ↓u73_40, ↓u73_41, ↓u73_44, ↓u73_47, ↓u73_48, ↓u73_49, ↓u73_52, ↓u73_55, ↓u73_56, ↓u73_57, ↓u73_60, ↓u73_63, ↓u73_64, ↓u73_65, ↓u73_68, ↓u73_71, ↓u73_72, ↓u73_73, ↓u73_76, ↓u73_79, ↓u73_80, ↓u73_81, ↓u73_84, ↓u73_87, ↓u73_88, ↓u73_89, ↓lI_0, ↓lI_s, ↓lL_0, ↓lL_s, ↓lR_0, ↓lR_s, ↓sT_0, ↓sT_i, ↓sT_r, ↓sT_u, ↓sT_lu, ↓sU_0, ↓sU_i, ↓sU_r, ↓sU_u, ↓ite_bx, bx_T, bx_F, bx_pos, bx_neg, zws_i, zws_r, zws_l, zws_n, zCb_kc, xl_ll, xr_rr, xs_e, xset_e, Option.toList, List.cons_append, List.nil_append, zIb_e, zrng_e, nz_e, if_pos, if_neg, and_true, true_and, or_true, true_or, ite_self, bi_eq0, bi_eq1, bi_1, bi_0, bi_ir, bi_T, bi_F, up_eq, up_ne, ↓reduceIte, reduceIte, Nat.reduceAdd, Nat.reduceLeDiff, Nat.le_refl, Nat.zero_le, not_true_eq_false, not_false_eq_true, ne_eq, Int.reduceEq, Int.reduceLT, Int.reduceLE, Int.reduceAdd, Int.reduceSub, Int.reduceMul, Int.reduceNeg, pT g1, g2, g3, g4, g5, g6, pT w1, w2, pT w3, w4, w5, w6, v1, v2, v3, vB, ztb_0, ztb_s]
set_option maxRecDepth 8000 in
theorem s73_n {d : Nat} {Q : Option AV → XH → Prop} {G : XS} {s : ZS} {W U V : Int} {B : ZS} {N R T : Int} {x : Int} (hd : 5 ≤ d) (hg : LOK G W U V) (hv : CV s W B N R T) (hb : OKB B N) (hn : 0 ≤ N ∧ N ≤ 40 ∧ 0 ≤ R ∧ R ≤ 10 ∧ 0 ≤ T ∧ T ≤ 20000) (ix : ir x) (q : ¬(0 ≤ x ∧ x ≤ 5)) : Call d 73 [zrf 0, zint x] (G, s) Q = Q (some (zint (-1))) (G, s) := by
  have hg' := hg
  obtain ⟨g1, g2, g3, g4, g5, g6, hw, hu, hx, g7, g8, g9, g10, g11, g12⟩ := hg'
  have hw' := hw
  obtain ⟨w1, w2, w3, w4, w5, w6, w7, w8, w9, w10, w11, w12, w13, w14, w15, w16, w17, w18, w19, w20, w21, w22, w23, w24, w25⟩ := hw'
  have hv' := hv
  obtain ⟨v1, v2, v3, vB⟩ := hv'
  rw [e73 (show 1 ≤ d by omega)]
  simp (disch := first | omega | exact rfl) only [↓u73_0, ↓u73_1, ↓u73_40, ↓u73_41, ↓u73_44, ↓u73_47, ↓u73_48, ↓u73_49, ↓u73_52, ↓u73_55, ↓u73_56, ↓u73_57, ↓u73_60, ↓u73_63, ↓u73_64, ↓u73_65, ↓u73_68, ↓u73_71, ↓u73_72, ↓u73_73, ↓u73_76, ↓u73_79, ↓u73_80, ↓u73_81, ↓u73_84, ↓u73_87, ↓u73_88, ↓u73_89, ↓lI_0, ↓lI_s, ↓lL_0, ↓lL_s, ↓lR_0, ↓lR_s, ↓sT_0, ↓sT_i, ↓sT_r, ↓sT_u, ↓sT_lu, ↓sU_0, ↓sU_i, ↓sU_r, ↓sU_u, ↓ite_bx, bx_T, bx_F, bx_pos, bx_neg, zws_i, zws_r, zws_l, zws_n, zCb_kc, xl_ll, xr_rr, xs_e, xset_e, Option.toList, List.cons_append, List.nil_append, zIb_e, zrng_e, nz_e, if_pos, if_neg, and_true, true_and, or_true, true_or, ite_self, bi_eq0, bi_eq1, bi_1, bi_0, bi_ir, bi_T, bi_F, up_eq, up_ne, ↓reduceIte, reduceIte, Nat.reduceAdd, Nat.reduceLeDiff, Nat.le_refl, Nat.zero_le, not_true_eq_false, not_false_eq_true, ne_eq, Int.reduceEq, Int.reduceLT, Int.reduceLE, Int.reduceAdd, Int.reduceSub, Int.reduceMul, Int.reduceNeg, pT g1, g2, g3, g4, g5, g6, pT w1, w2, pT w3, w4, w5, w6, v1, v2, v3, vB, ztb_0, ztb_s]
set_option maxRecDepth 8000 in
theorem s73_1 {d : Nat} {G : XS} {s : ZS} {W U V : Int} {B : ZS} {N R T : Int} (hd : 5 ≤ d) (hg : LOK G W U V) (hv : CV s W B N R T) (hb : OKB B N) (hn : 0 ≤ N ∧ N ≤ 40 ∧ 0 ≤ R ∧ R ≤ 10 ∧ 0 ≤ T ∧ T ≤ 20000) : ∃ s2, (∀ b c, b ≠ W + 42 → s2 b c = s b c) ∧ ∀ Q, Call d 73 [zrf 0, zint 1] (G, s) Q = Q (some (zint (1 + sqa B N R 0))) (G, s2) := by
  have hg' := hg
  obtain ⟨g1, g2, g3, g4, g5, g6, hw, hu, hx, g7, g8, g9, g10, g11, g12⟩ := hg'
  have hw' := hw
  obtain ⟨w1, w2, w3, w4, w5, w6, w7, w8, w9, w10, w11, w12, w13, w14, w15, w16, w17, w18, w19, w20, w21, w22, w23, w24, w25⟩ := hw'
  have hv' := hv
  obtain ⟨v1, v2, v3, vB⟩ := hv'
  obtain ⟨s2, hs, e⟩ := s50 (d := d - 1) (show 3 ≤ d - 1 by omega) hw hv hb hn
  refine ⟨s2, hs, fun Q => ?_⟩
  rw [e73 (show 1 ≤ d by omega)]
  simp (disch := first | omega | exact rfl) only [↓u73_0, ↓u73_1, ↓u73_40, ↓u73_41, ↓u73_44, ↓u73_47, ↓u73_48, ↓u73_49, ↓u73_52, ↓u73_55, ↓u73_56, ↓u73_57, ↓u73_60, ↓u73_63, ↓u73_64, ↓u73_65, ↓u73_68, ↓u73_71, ↓u73_72, ↓u73_73, ↓u73_76, ↓u73_79, ↓u73_80, ↓u73_81, ↓u73_84, ↓u73_87, ↓u73_88, ↓u73_89, ↓lI_0, ↓lI_s, ↓lL_0, ↓lL_s, ↓lR_0, ↓lR_s, ↓sT_0, ↓sT_i, ↓sT_r, ↓sT_u, ↓sT_lu, ↓sU_0, ↓sU_i, ↓sU_r, ↓sU_u, ↓ite_bx, bx_T, bx_F, bx_pos, bx_neg, zws_i, zws_r, zws_l, zws_n, zCb_kc, xl_ll, xr_rr, xs_e, xset_e, Option.toList, List.cons_append, List.nil_append, zIb_e, zrng_e, nz_e, if_pos, if_neg, and_true, true_and, or_true, true_or, ite_self, bi_eq0, bi_eq1, bi_1, bi_0, bi_ir, bi_T, bi_F, up_eq, up_ne, ↓reduceIte, reduceIte, Nat.reduceAdd, Nat.reduceLeDiff, Nat.le_refl, Nat.zero_le, not_true_eq_false, not_false_eq_true, ne_eq, Int.reduceEq, Int.reduceLT, Int.reduceLE, Int.reduceAdd, Int.reduceSub, Int.reduceMul, Int.reduceNeg, pT g1, g2, g3, g4, g5, g6, pT w1, w2, pT w3, w4, w5, w6, v1, v2, v3, vB, ztb_0, ztb_s, e]
set_option maxRecDepth 8000 in
theorem s73_2 {d : Nat} {G : XS} {s : ZS} {W U V : Int} {B : ZS} {N R T : Int} (hd : 5 ≤ d) (hg : LOK G W U V) (hv : CV s W B N R T) (hb : OKB B N) (hn : 0 ≤ N ∧ N ≤ 40 ∧ 0 ≤ R ∧ R ≤ 10 ∧ 0 ≤ T ∧ T ≤ 20000) : ∃ s2, (∀ b c, b ≠ W + 42 → s2 b c = s b c) ∧ ∀ Q, Call d 73 [zrf 0, zint 2] (G, s) Q = Q (some (zint (gdn B N R 5 0))) (G, s2) := by
  have hg' := hg
  obtain ⟨g1, g2, g3, g4, g5, g6, hw, hu, hx, g7, g8, g9, g10, g11, g12⟩ := hg'
  have hw' := hw
  obtain ⟨w1, w2, w3, w4, w5, w6, w7, w8, w9, w10, w11, w12, w13, w14, w15, w16, w17, w18, w19, w20, w21, w22, w23, w24, w25⟩ := hw'
  have hv' := hv
  obtain ⟨v1, v2, v3, vB⟩ := hv'
  obtain ⟨s2, hs, e⟩ := s51 (d := d - 1) (show 3 ≤ d - 1 by omega) hw hv hb hn
  refine ⟨s2, hs, fun Q => ?_⟩
  rw [e73 (show 1 ≤ d by omega)]
  simp (disch := first | omega | exact rfl) only [↓u73_0, ↓u73_1, ↓u73_40, ↓u73_41, ↓u73_44, ↓u73_47, ↓u73_48, ↓u73_49, ↓u73_52, ↓u73_55, ↓u73_56, ↓u73_57, ↓u73_60, ↓u73_63, ↓u73_64, ↓u73_65, ↓u73_68, ↓u73_71, ↓u73_72, ↓u73_73, ↓u73_76, ↓u73_79, ↓u73_80, ↓u73_81, ↓u73_84, ↓u73_87, ↓u73_88, ↓u73_89, ↓lI_0, ↓lI_s, ↓lL_0, ↓lL_s, ↓lR_0, ↓lR_s, ↓sT_0, ↓sT_i, ↓sT_r, ↓sT_u, ↓sT_lu, ↓sU_0, ↓sU_i, ↓sU_r, ↓sU_u, ↓ite_bx, bx_T, bx_F, bx_pos, bx_neg, zws_i, zws_r, zws_l, zws_n, zCb_kc, xl_ll, xr_rr, xs_e, xset_e, Option.toList, List.cons_append, List.nil_append, zIb_e, zrng_e, nz_e, if_pos, if_neg, and_true, true_and, or_true, true_or, ite_self, bi_eq0, bi_eq1, bi_1, bi_0, bi_ir, bi_T, bi_F, up_eq, up_ne, ↓reduceIte, reduceIte, Nat.reduceAdd, Nat.reduceLeDiff, Nat.le_refl, Nat.zero_le, not_true_eq_false, not_false_eq_true, ne_eq, Int.reduceEq, Int.reduceLT, Int.reduceLE, Int.reduceAdd, Int.reduceSub, Int.reduceMul, Int.reduceNeg, pT g1, g2, g3, g4, g5, g6, pT w1, w2, pT w3, w4, w5, w6, v1, v2, v3, vB, ztb_0, ztb_s, e]
set_option maxRecDepth 8000 in
theorem s74_n {d : Nat} {Q : Option AV → XH → Prop} {G : XS} {s : ZS} {W U V : Int} {B : ZS} {N R T : Int} {b : Int} {x y : Int} (hd : 5 ≤ d) (hg : LOK G W U V) (hv : CV s W B N R T) (hb : OKB B N) (hn : 0 ≤ N ∧ N ≤ 40 ∧ 0 ≤ R ∧ R ≤ 10 ∧ 0 ≤ T ∧ T ≤ 20000) (ib : ir b) (hb2 : ¬hr B N b)  : Call d 74 [zrf 0, zint b, zint x, zint y] (G, s) Q = Q (some (zint (-1))) (G, s) := by
  have hg' := hg
  obtain ⟨g1, g2, g3, g4, g5, g6, hw, hu, hx, g7, g8, g9, g10, g11, g12⟩ := hg'
  have hw' := hw
  obtain ⟨w1, w2, w3, w4, w5, w6, w7, w8, w9, w10, w11, w12, w13, w14, w15, w16, w17, w18, w19, w20, w21, w22, w23, w24, w25⟩ := hw'
  have hv' := hv
  obtain ⟨v1, v2, v3, vB⟩ := hv'
  rw [e74 (show 1 ≤ d by omega)]
  simp (disch := first | omega | exact rfl) only [↓u74_0, ↓u74_1, ↓u74_4, ↓u74_5, ↓u74_8, ↓u74_10, ↓u74_12, ↓u74_15, ↓u74_16, ↓u74_17, ↓u74_20, ↓u74_23, ↓u74_24, ↓u74_25, ↓u74_27, ↓u74_28, ↓u74_29, ↓u74_32, ↓lI_0, ↓lI_s, ↓lL_0, ↓lL_s, ↓lR_0, ↓lR_s, ↓sT_0, ↓sT_i, ↓sT_r, ↓sT_u, ↓sT_lu, ↓sU_0, ↓sU_i, ↓sU_r, ↓sU_u, ↓ite_bx, bx_T, bx_F, bx_pos, bx_neg, zws_i, zws_r, zws_l, zws_n, zCb_kc, xl_ll, xr_rr, xs_e, xset_e, Option.toList, List.cons_append, List.nil_append, zIb_e, zrng_e, nz_e, if_pos, if_neg, and_true, true_and, or_true, true_or, ite_self, bi_eq0, bi_eq1, bi_1, bi_0, bi_ir, bi_T, bi_F, up_eq, up_ne, ↓reduceIte, reduceIte, Nat.reduceAdd, Nat.reduceLeDiff, Nat.le_refl, Nat.zero_le, not_true_eq_false, not_false_eq_true, ne_eq, Int.reduceEq, Int.reduceLT, Int.reduceLE, Int.reduceAdd, Int.reduceSub, Int.reduceMul, Int.reduceNeg, pT g1, g2, g3, g4, g5, g6, pT w1, w2, pT w3, w4, w5, w6, v1, v2, v3, vB, s37_n (show 2 ≤ d - 1 by omega) hw hv hb hn ib hb2]
set_option maxRecDepth 8000 in
theorem s74_b {d : Nat} {Q : Option AV → XH → Prop} {G : XS} {s : ZS} {W U V : Int} {B : ZS} {N R T : Int} {b : Int} {x y : Int} (hd : 5 ≤ d) (hg : LOK G W U V) (hv : CV s W B N R T) (hb : OKB B N) (hn : 0 ≤ N ∧ N ≤ 40 ∧ 0 ≤ R ∧ R ≤ 10 ∧ 0 ≤ T ∧ T ≤ 20000) (hb2 : hr B N b) (ix : ir x) (iy : ir y) (q : ¬((0 ≤ x ∧ x ≤ 127) ∧ 0 ≤ y ∧ y ≤ 127)) : Call d 74 [zrf 0, zint b, zint x, zint y] (G, s) Q = Q (some (zint (-1))) (G, s) := by
  have hg' := hg
  obtain ⟨g1, g2, g3, g4, g5, g6, hw, hu, hx, g7, g8, g9, g10, g11, g12⟩ := hg'
  have hw' := hw
  obtain ⟨w1, w2, w3, w4, w5, w6, w7, w8, w9, w10, w11, w12, w13, w14, w15, w16, w17, w18, w19, w20, w21, w22, w23, w24, w25⟩ := hw'
  have hv' := hv
  obtain ⟨v1, v2, v3, vB⟩ := hv'
  have bb := hb b hb2.1
  have k2 := okb_o (G := G) hv hb hb2.1
  have k1 := w6 b (by omega)
  rw [e74 (show 1 ≤ d by omega)]
  simp (disch := first | omega | exact rfl) only [↓u74_0, ↓u74_1, ↓u74_4, ↓u74_5, ↓u74_8, ↓u74_10, ↓u74_12, ↓u74_15, ↓u74_16, ↓u74_17, ↓u74_20, ↓u74_23, ↓u74_24, ↓u74_25, ↓u74_27, ↓u74_28, ↓u74_29, ↓u74_32, ↓lI_0, ↓lI_s, ↓lL_0, ↓lL_s, ↓lR_0, ↓lR_s, ↓sT_0, ↓sT_i, ↓sT_r, ↓sT_u, ↓sT_lu, ↓sU_0, ↓sU_i, ↓sU_r, ↓sU_u, ↓ite_bx, bx_T, bx_F, bx_pos, bx_neg, zws_i, zws_r, zws_l, zws_n, zCb_kc, xl_ll, xr_rr, xs_e, xset_e, Option.toList, List.cons_append, List.nil_append, zIb_e, zrng_e, nz_e, if_pos, if_neg, and_true, true_and, or_true, true_or, ite_self, bi_eq0, bi_eq1, bi_1, bi_0, bi_ir, bi_T, bi_F, up_eq, up_ne, ↓reduceIte, reduceIte, Nat.reduceAdd, Nat.reduceLeDiff, Nat.le_refl, Nat.zero_le, not_true_eq_false, not_false_eq_true, ne_eq, Int.reduceEq, Int.reduceLT, Int.reduceLE, Int.reduceAdd, Int.reduceSub, Int.reduceMul, Int.reduceNeg, pT g1, g2, g3, g4, g5, g6, pT w1, w2, pT w3, w4, w5, w6, v1, v2, v3, vB, s37_y (show 2 ≤ d - 1 by omega) hw hv hb hn hb2, pT k1, s104, bi_0 q]
set_option maxRecDepth 8000 in
theorem s74_y {d : Nat} {Q : Option AV → XH → Prop} {G : XS} {s : ZS} {W U V : Int} {B : ZS} {N R T : Int} {b : Int} {x y : Int} (hd : 5 ≤ d) (hg : LOK G W U V) (hv : CV s W B N R T) (hb : OKB B N) (hn : 0 ≤ N ∧ N ≤ 40 ∧ 0 ≤ R ∧ R ≤ 10 ∧ 0 ≤ T ∧ T ≤ 20000) (hb2 : hr B N b) (ix : ir x) (iy : ir y) (q : ((0 ≤ x ∧ x ≤ 127) ∧ 0 ≤ y ∧ y ≤ 127)) : Call d 74 [zrf 0, zint b, zint x, zint y] (G, s) Q = Q (some (zint (fr x y (B b 2) (B b 3) (B b 4) (B b 5)))) (G, s) := by
  have hg' := hg
  obtain ⟨g1, g2, g3, g4, g5, g6, hw, hu, hx, g7, g8, g9, g10, g11, g12⟩ := hg'
  have hw' := hw
  obtain ⟨w1, w2, w3, w4, w5, w6, w7, w8, w9, w10, w11, w12, w13, w14, w15, w16, w17, w18, w19, w20, w21, w22, w23, w24, w25⟩ := hw'
  have hv' := hv
  obtain ⟨v1, v2, v3, vB⟩ := hv'
  have bb := hb b hb2.1
  have k2 := okb_o (G := G) hv hb hb2.1
  have k1 := w6 b (by omega)
  rw [e74 (show 1 ≤ d by omega)]
  simp (disch := first | omega | exact rfl) only [↓u74_0, ↓u74_1, ↓u74_4, ↓u74_5, ↓u74_8, ↓u74_10, ↓u74_12, ↓u74_15, ↓u74_16, ↓u74_17, ↓u74_20, ↓u74_23, ↓u74_24, ↓u74_25, ↓u74_27, ↓u74_28, ↓u74_29, ↓u74_32, ↓lI_0, ↓lI_s, ↓lL_0, ↓lL_s, ↓lR_0, ↓lR_s, ↓sT_0, ↓sT_i, ↓sT_r, ↓sT_u, ↓sT_lu, ↓sU_0, ↓sU_i, ↓sU_r, ↓sU_u, ↓ite_bx, bx_T, bx_F, bx_pos, bx_neg, zws_i, zws_r, zws_l, zws_n, zCb_kc, xl_ll, xr_rr, xs_e, xset_e, Option.toList, List.cons_append, List.nil_append, zIb_e, zrng_e, nz_e, if_pos, if_neg, and_true, true_and, or_true, true_or, ite_self, bi_eq0, bi_eq1, bi_1, bi_0, bi_ir, bi_T, bi_F, up_eq, up_ne, ↓reduceIte, reduceIte, Nat.reduceAdd, Nat.reduceLeDiff, Nat.le_refl, Nat.zero_le, not_true_eq_false, not_false_eq_true, ne_eq, Int.reduceEq, Int.reduceLT, Int.reduceLE, Int.reduceAdd, Int.reduceSub, Int.reduceMul, Int.reduceNeg, pT g1, g2, g3, g4, g5, g6, pT w1, w2, pT w3, w4, w5, w6, v1, v2, v3, vB, s37_y (show 2 ≤ d - 1 by omega) hw hv hb hn hb2, pT k1, s104, bi_1 q, s10 (show 3 ≤ d - 1 by omega) k1 k2 q.1 q.2]
set_option maxRecDepth 8000 in
theorem s75_n {d : Nat} {Q : Option AV → XH → Prop} {G : XS} {s : ZS} {W U V : Int} {B : ZS} {N R T : Int} {x y t k : Int} (hd : 6 ≤ d) (hg : LOK G W U V) (hv : CV s W B N R T) (hb : OKB B N) (hn : 0 ≤ N ∧ N ≤ 40 ∧ 0 ≤ R ∧ R ≤ 10 ∧ 0 ≤ T ∧ T ≤ 20000) (ix : ir x) (iy : ir y) (it : ir t) (ik : ir k) (q : ¬(((0 ≤ x ∧ x ≤ 127) ∧ 0 ≤ y ∧ y ≤ 127) ∧ (0 ≤ t ∧ t ≤ 4) ∧ 0 ≤ k)) : Call d 75 [zrf 0, zint x, zint y, zint t, zint k] (G, s) Q = Q (some (zint (-1))) (G, s) := by
  have hg' := hg
  obtain ⟨g1, g2, g3, g4, g5, g6, hw, hu, hx, g7, g8, g9, g10, g11, g12⟩ := hg'
  have hw' := hw
  obtain ⟨w1, w2, w3, w4, w5, w6, w7, w8, w9, w10, w11, w12, w13, w14, w15, w16, w17, w18, w19, w20, w21, w22, w23, w24, w25⟩ := hw'
  have hv' := hv
  obtain ⟨v1, v2, v3, vB⟩ := hv'
  rw [e75 (show 1 ≤ d by omega)]
  by_cases q0 : ((0 ≤ x ∧ x ≤ 127) ∧ 0 ≤ y ∧ y ≤ 127)
  · skip
    by_cases q1 : 0 ≤ t ∧ t ≤ 4
    · skip
      first
      | (exfalso; omega; done)
      | simp (disch := first | omega | exact rfl) only [↓u75_0, ↓u75_1, ↓u75_2, ↓u75_5, ↓u75_8, ↓u75_9, ↓u75_10, ↓u75_11, ↓u75_14, ↓u75_17, ↓u75_19, ↓u75_22, ↓u75_23, ↓u75_24, ↓u75_25, ↓u75_28, ↓u75_29, ↓u75_30, ↓u75_31, ↓u75_33, ↓u75_36, ↓lI_0, ↓lI_s, ↓lL_0, ↓lL_s, ↓lR_0, ↓lR_s, ↓sT_0, ↓sT_i, ↓sT_r, ↓sT_u, ↓sT_lu, ↓sU_0, ↓sU_i, ↓sU_r, ↓sU_u, ↓ite_bx, bx_T, bx_F, bx_pos, bx_neg, zws_i, zws_r, zws_l, zws_n, zCb_kc, xl_ll, xr_rr, xs_e, xset_e, Option.toList, List.cons_append, List.nil_append, zIb_e, zrng_e, nz_e, if_pos, if_neg, and_true, true_and, or_true, true_or, ite_self, bi_eq0, bi_eq1, bi_1, bi_0, bi_ir, bi_T, bi_F, up_eq, up_ne, ↓reduceIte, reduceIte, Nat.reduceAdd, Nat.reduceLeDiff, Nat.le_refl, Nat.zero_le, not_true_eq_false, not_false_eq_true, ne_eq, Int.reduceEq, Int.reduceLT, Int.reduceLE, Int.reduceAdd, Int.reduceSub, Int.reduceMul, Int.reduceNeg, pT g1, g2, g3, g4, g5, g6, pT w1, w2, pT w3, w4, w5, w6, v1, v2, v3, vB, s103, s104]
    · skip
      first
      | (exfalso; omega; done)
      | simp (disch := first | omega | exact rfl) only [↓u75_0, ↓u75_1, ↓u75_2, ↓u75_5, ↓u75_8, ↓u75_9, ↓u75_10, ↓u75_11, ↓u75_14, ↓u75_17, ↓u75_19, ↓u75_22, ↓u75_23, ↓u75_24, ↓u75_25, ↓u75_28, ↓u75_29, ↓u75_30, ↓u75_31, ↓u75_33, ↓u75_36, ↓lI_0, ↓lI_s, ↓lL_0, ↓lL_s, ↓lR_0, ↓lR_s, ↓sT_0, ↓sT_i, ↓sT_r, ↓sT_u, ↓sT_lu, ↓sU_0, ↓sU_i, ↓sU_r, ↓sU_u, ↓ite_bx, bx_T, bx_F, bx_pos, bx_neg, zws_i, zws_r, zws_l, zws_n, zCb_kc, xl_ll, xr_rr, xs_e, xset_e, Option.toList, List.cons_append, List.nil_append, zIb_e, zrng_e, nz_e, if_pos, if_neg, and_true, true_and, or_true, true_or, ite_self, bi_eq0, bi_eq1, bi_1, bi_0, bi_ir, bi_T, bi_F, up_eq, up_ne, ↓reduceIte, reduceIte, Nat.reduceAdd, Nat.reduceLeDiff, Nat.le_refl, Nat.zero_le, not_true_eq_false, not_false_eq_true, ne_eq, Int.reduceEq, Int.reduceLT, Int.reduceLE, Int.reduceAdd, Int.reduceSub, Int.reduceMul, Int.reduceNeg, pT g1, g2, g3, g4, g5, g6, pT w1, w2, pT w3, w4, w5, w6, v1, v2, v3, vB, s103, s104]
  · skip
    by_cases q1 : 0 ≤ t ∧ t ≤ 4
    · skip
      first
      | (exfalso; omega; done)
      | simp (disch := first | omega | exact rfl) only [↓u75_0, ↓u75_1, ↓u75_2, ↓u75_5, ↓u75_8, ↓u75_9, ↓u75_10, ↓u75_11, ↓u75_14, ↓u75_17, ↓u75_19, ↓u75_22, ↓u75_23, ↓u75_24, ↓u75_25, ↓u75_28, ↓u75_29, ↓u75_30, ↓u75_31, ↓u75_33, ↓u75_36, ↓lI_0, ↓lI_s, ↓lL_0, ↓lL_s, ↓lR_0, ↓lR_s, ↓sT_0, ↓sT_i, ↓sT_r, ↓sT_u, ↓sT_lu, ↓sU_0, ↓sU_i, ↓sU_r, ↓sU_u, ↓ite_bx, bx_T, bx_F, bx_pos, bx_neg, zws_i, zws_r, zws_l, zws_n, zCb_kc, xl_ll, xr_rr, xs_e, xset_e, Option.toList, List.cons_append, List.nil_append, zIb_e, zrng_e, nz_e, if_pos, if_neg, and_true, true_and, or_true, true_or, ite_self, bi_eq0, bi_eq1, bi_1, bi_0, bi_ir, bi_T, bi_F, up_eq, up_ne, ↓reduceIte, reduceIte, Nat.reduceAdd, Nat.reduceLeDiff, Nat.le_refl, Nat.zero_le, not_true_eq_false, not_false_eq_true, ne_eq, Int.reduceEq, Int.reduceLT, Int.reduceLE, Int.reduceAdd, Int.reduceSub, Int.reduceMul, Int.reduceNeg, pT g1, g2, g3, g4, g5, g6, pT w1, w2, pT w3, w4, w5, w6, v1, v2, v3, vB, s103, s104]
    · skip
      first
      | (exfalso; omega; done)
      | simp (disch := first | omega | exact rfl) only [↓u75_0, ↓u75_1, ↓u75_2, ↓u75_5, ↓u75_8, ↓u75_9, ↓u75_10, ↓u75_11, ↓u75_14, ↓u75_17, ↓u75_19, ↓u75_22, ↓u75_23, ↓u75_24, ↓u75_25, ↓u75_28, ↓u75_29, ↓u75_30, ↓u75_31, ↓u75_33, ↓u75_36, ↓lI_0, ↓lI_s, ↓lL_0, ↓lL_s, ↓lR_0, ↓lR_s, ↓sT_0, ↓sT_i, ↓sT_r, ↓sT_u, ↓sT_lu, ↓sU_0, ↓sU_i, ↓sU_r, ↓sU_u, ↓ite_bx, bx_T, bx_F, bx_pos, bx_neg, zws_i, zws_r, zws_l, zws_n, zCb_kc, xl_ll, xr_rr, xs_e, xset_e, Option.toList, List.cons_append, List.nil_append, zIb_e, zrng_e, nz_e, if_pos, if_neg, and_true, true_and, or_true, true_or, ite_self, bi_eq0, bi_eq1, bi_1, bi_0, bi_ir, bi_T, bi_F, up_eq, up_ne, ↓reduceIte, reduceIte, Nat.reduceAdd, Nat.reduceLeDiff, Nat.le_refl, Nat.zero_le, not_true_eq_false, not_false_eq_true, ne_eq, Int.reduceEq, Int.reduceLT, Int.reduceLE, Int.reduceAdd, Int.reduceSub, Int.reduceMul, Int.reduceNeg, pT g1, g2, g3, g4, g5, g6, pT w1, w2, pT w3, w4, w5, w6, v1, v2, v3, vB, s103, s104]
set_option maxRecDepth 8000 in
theorem s75_y {d : Nat} {Q : Option AV → XH → Prop} {G : XS} {s : ZS} {W U V : Int} {B : ZS} {N R T : Int} {x y t k : Int} (hd : 6 ≤ d) (hg : LOK G W U V) (hv : CV s W B N R T) (hb : OKB B N) (hn : 0 ≤ N ∧ N ≤ 40 ∧ 0 ≤ R ∧ R ≤ 10 ∧ 0 ≤ T ∧ T ≤ 20000) (ix : ir x) (iy : ir y) (it : ir t) (ik : ir k) (q : ((0 ≤ x ∧ x ≤ 127) ∧ 0 ≤ y ∧ y ≤ 127)) (q2 : 0 ≤ t ∧ t ≤ 4) (q3 : 0 ≤ k) : Call d 75 [zrf 0, zint x, zint y, zint t, zint k] (G, s) Q = Q (some (zint (nr B N x y t k))) (G, s) := by
  have hg' := hg
  obtain ⟨g1, g2, g3, g4, g5, g6, hw, hu, hx, g7, g8, g9, g10, g11, g12⟩ := hg'
  have hw' := hw
  obtain ⟨w1, w2, w3, w4, w5, w6, w7, w8, w9, w10, w11, w12, w13, w14, w15, w16, w17, w18, w19, w20, w21, w22, w23, w24, w25⟩ := hw'
  have hv' := hv
  obtain ⟨v1, v2, v3, vB⟩ := hv'
  rw [e75 (show 1 ≤ d by omega)]
  simp (disch := first | omega | exact rfl) only [↓u75_0, ↓u75_1, ↓u75_2, ↓u75_5, ↓u75_8, ↓u75_9, ↓u75_10, ↓u75_11, ↓u75_14, ↓u75_17, ↓u75_19, ↓u75_22, ↓u75_23, ↓u75_24, ↓u75_25, ↓u75_28, ↓u75_29, ↓u75_30, ↓u75_31, ↓u75_33, ↓u75_36, ↓lI_0, ↓lI_s, ↓lL_0, ↓lL_s, ↓lR_0, ↓lR_s, ↓sT_0, ↓sT_i, ↓sT_r, ↓sT_u, ↓sT_lu, ↓sU_0, ↓sU_i, ↓sU_r, ↓sU_u, ↓ite_bx, bx_T, bx_F, bx_pos, bx_neg, zws_i, zws_r, zws_l, zws_n, zCb_kc, xl_ll, xr_rr, xs_e, xset_e, Option.toList, List.cons_append, List.nil_append, zIb_e, zrng_e, nz_e, if_pos, if_neg, and_true, true_and, or_true, true_or, ite_self, bi_eq0, bi_eq1, bi_1, bi_0, bi_ir, bi_T, bi_F, up_eq, up_ne, ↓reduceIte, reduceIte, Nat.reduceAdd, Nat.reduceLeDiff, Nat.le_refl, Nat.zero_le, not_true_eq_false, not_false_eq_true, ne_eq, Int.reduceEq, Int.reduceLT, Int.reduceLE, Int.reduceAdd, Int.reduceSub, Int.reduceMul, Int.reduceNeg, pT g1, g2, g3, g4, g5, g6, pT w1, w2, pT w3, w4, w5, w6, v1, v2, v3, vB, s103, s104, bi_1 q, s55 (show 5 ≤ d - 1 by omega) hw hv hb hn q.1 q.2 q2 (show 0 ≤ k ∧ ir k by omega)]
set_option maxRecDepth 8000 in
theorem s76_n {d : Nat} {Q : Option AV → XH → Prop} {G : XS} {s : ZS} {W U V : Int} {B : ZS} {N R T : Int} {x y w hh : Int} (hd : 5 ≤ d) (hg : LOK G W U V) (hv : CV s W B N R T) (hb : OKB B N) (hn : 0 ≤ N ∧ N ≤ 40 ∧ 0 ≤ R ∧ R ≤ 10 ∧ 0 ≤ T ∧ T ≤ 20000) (ix : ir x) (iy : ir y) (iw : ir w) (ih : ir hh) (q : ¬((1 ≤ w ∧ 1 ≤ hh) ∧ ((0 ≤ x ∧ x ≤ 128 - w) ∧ 0 ≤ y ∧ y ≤ 128 - hh))) : Call d 76 [zrf 0, zint x, zint y, zint w, zint hh] (G, s) Q = Q (some (zlng (-9223372036854775808))) (G, s) := by
  have hg' := hg
  obtain ⟨g1, g2, g3, g4, g5, g6, hw, hu, hx, g7, g8, g9, g10, g11, g12⟩ := hg'
  have hw' := hw
  obtain ⟨w1, w2, w3, w4, w5, w6, w7, w8, w9, w10, w11, w12, w13, w14, w15, w16, w17, w18, w19, w20, w21, w22, w23, w24, w25⟩ := hw'
  have hv' := hv
  obtain ⟨v1, v2, v3, vB⟩ := hv'
  rw [e76 (show 1 ≤ d by omega)]
  by_cases q0 : 1 ≤ w
  · skip
    by_cases q1 : 1 ≤ hh
    · skip
      first
      | (exfalso; omega; done)
      | simp (disch := first | omega | exact rfl) only [↓u76_0, ↓u76_1, ↓u76_2, ↓u76_5, ↓u76_7, ↓u76_8, ↓u76_11, ↓u76_12, ↓u76_13, ↓u76_14, ↓u76_16, ↓u76_19, ↓u76_22, ↓u76_25, ↓u76_26, ↓u76_27, ↓u76_30, ↓u76_31, ↓u76_32, ↓u76_33, ↓u76_35, ↓u76_38, ↓lI_0, ↓lI_s, ↓lL_0, ↓lL_s, ↓lR_0, ↓lR_s, ↓sT_0, ↓sT_i, ↓sT_r, ↓sT_u, ↓sT_lu, ↓sU_0, ↓sU_i, ↓sU_r, ↓sU_u, ↓ite_bx, bx_T, bx_F, bx_pos, bx_neg, zws_i, zws_r, zws_l, zws_n, zCb_kc, xl_ll, xr_rr, xs_e, xset_e, Option.toList, List.cons_append, List.nil_append, zIb_e, zrng_e, nz_e, if_pos, if_neg, and_true, true_and, or_true, true_or, ite_self, bi_eq0, bi_eq1, bi_1, bi_0, bi_ir, bi_T, bi_F, up_eq, up_ne, ↓reduceIte, reduceIte, Nat.reduceAdd, Nat.reduceLeDiff, Nat.le_refl, Nat.zero_le, not_true_eq_false, not_false_eq_true, ne_eq, Int.reduceEq, Int.reduceLT, Int.reduceLE, Int.reduceAdd, Int.reduceSub, Int.reduceMul, Int.reduceNeg, pT g1, g2, g3, g4, g5, g6, pT w1, w2, pT w3, w4, w5, w6, v1, v2, v3, vB, s105]
    · skip
      first
      | (exfalso; omega; done)
      | simp (disch := first | omega | exact rfl) only [↓u76_0, ↓u76_1, ↓u76_2, ↓u76_5, ↓u76_7, ↓u76_8, ↓u76_11, ↓u76_12, ↓u76_13, ↓u76_14, ↓u76_16, ↓u76_19, ↓u76_22, ↓u76_25, ↓u76_26, ↓u76_27, ↓u76_30, ↓u76_31, ↓u76_32, ↓u76_33, ↓u76_35, ↓u76_38, ↓lI_0, ↓lI_s, ↓lL_0, ↓lL_s, ↓lR_0, ↓lR_s, ↓sT_0, ↓sT_i, ↓sT_r, ↓sT_u, ↓sT_lu, ↓sU_0, ↓sU_i, ↓sU_r, ↓sU_u, ↓ite_bx, bx_T, bx_F, bx_pos, bx_neg, zws_i, zws_r, zws_l, zws_n, zCb_kc, xl_ll, xr_rr, xs_e, xset_e, Option.toList, List.cons_append, List.nil_append, zIb_e, zrng_e, nz_e, if_pos, if_neg, and_true, true_and, or_true, true_or, ite_self, bi_eq0, bi_eq1, bi_1, bi_0, bi_ir, bi_T, bi_F, up_eq, up_ne, ↓reduceIte, reduceIte, Nat.reduceAdd, Nat.reduceLeDiff, Nat.le_refl, Nat.zero_le, not_true_eq_false, not_false_eq_true, ne_eq, Int.reduceEq, Int.reduceLT, Int.reduceLE, Int.reduceAdd, Int.reduceSub, Int.reduceMul, Int.reduceNeg, pT g1, g2, g3, g4, g5, g6, pT w1, w2, pT w3, w4, w5, w6, v1, v2, v3, vB, s105]
  · skip
    by_cases q1 : 1 ≤ hh
    · skip
      first
      | (exfalso; omega; done)
      | simp (disch := first | omega | exact rfl) only [↓u76_0, ↓u76_1, ↓u76_2, ↓u76_5, ↓u76_7, ↓u76_8, ↓u76_11, ↓u76_12, ↓u76_13, ↓u76_14, ↓u76_16, ↓u76_19, ↓u76_22, ↓u76_25, ↓u76_26, ↓u76_27, ↓u76_30, ↓u76_31, ↓u76_32, ↓u76_33, ↓u76_35, ↓u76_38, ↓lI_0, ↓lI_s, ↓lL_0, ↓lL_s, ↓lR_0, ↓lR_s, ↓sT_0, ↓sT_i, ↓sT_r, ↓sT_u, ↓sT_lu, ↓sU_0, ↓sU_i, ↓sU_r, ↓sU_u, ↓ite_bx, bx_T, bx_F, bx_pos, bx_neg, zws_i, zws_r, zws_l, zws_n, zCb_kc, xl_ll, xr_rr, xs_e, xset_e, Option.toList, List.cons_append, List.nil_append, zIb_e, zrng_e, nz_e, if_pos, if_neg, and_true, true_and, or_true, true_or, ite_self, bi_eq0, bi_eq1, bi_1, bi_0, bi_ir, bi_T, bi_F, up_eq, up_ne, ↓reduceIte, reduceIte, Nat.reduceAdd, Nat.reduceLeDiff, Nat.le_refl, Nat.zero_le, not_true_eq_false, not_false_eq_true, ne_eq, Int.reduceEq, Int.reduceLT, Int.reduceLE, Int.reduceAdd, Int.reduceSub, Int.reduceMul, Int.reduceNeg, pT g1, g2, g3, g4, g5, g6, pT w1, w2, pT w3, w4, w5, w6, v1, v2, v3, vB, s105]
    · skip
      first
      | (exfalso; omega; done)
      | simp (disch := first | omega | exact rfl) only [↓u76_0, ↓u76_1, ↓u76_2, ↓u76_5, ↓u76_7, ↓u76_8, ↓u76_11, ↓u76_12, ↓u76_13, ↓u76_14, ↓u76_16, ↓u76_19, ↓u76_22, ↓u76_25, ↓u76_26, ↓u76_27, ↓u76_30, ↓u76_31, ↓u76_32, ↓u76_33, ↓u76_35, ↓u76_38, ↓lI_0, ↓lI_s, ↓lL_0, ↓lL_s, ↓lR_0, ↓lR_s, ↓sT_0, ↓sT_i, ↓sT_r, ↓sT_u, ↓sT_lu, ↓sU_0, ↓sU_i, ↓sU_r, ↓sU_u, ↓ite_bx, bx_T, bx_F, bx_pos, bx_neg, zws_i, zws_r, zws_l, zws_n, zCb_kc, xl_ll, xr_rr, xs_e, xset_e, Option.toList, List.cons_append, List.nil_append, zIb_e, zrng_e, nz_e, if_pos, if_neg, and_true, true_and, or_true, true_or, ite_self, bi_eq0, bi_eq1, bi_1, bi_0, bi_ir, bi_T, bi_F, up_eq, up_ne, ↓reduceIte, reduceIte, Nat.reduceAdd, Nat.reduceLeDiff, Nat.le_refl, Nat.zero_le, not_true_eq_false, not_false_eq_true, ne_eq, Int.reduceEq, Int.reduceLT, Int.reduceLE, Int.reduceAdd, Int.reduceSub, Int.reduceMul, Int.reduceNeg, pT g1, g2, g3, g4, g5, g6, pT w1, w2, pT w3, w4, w5, w6, v1, v2, v3, vB, s105]
set_option maxRecDepth 8000 in
theorem s76_y {d : Nat} {Q : Option AV → XH → Prop} {G : XS} {s : ZS} {W U V : Int} {B : ZS} {N R T : Int} {x y w hh : Int} (hd : 5 ≤ d) (hg : LOK G W U V) (hv : CV s W B N R T) (hb : OKB B N) (hn : 0 ≤ N ∧ N ≤ 40 ∧ 0 ≤ R ∧ R ≤ 10 ∧ 0 ≤ T ∧ T ≤ 20000) (ix : ir x) (iy : ir y) (iw : ir w) (ih : ir hh) (q : 1 ≤ w ∧ 1 ≤ hh) (q2 : ((0 ≤ x ∧ x ≤ 128 - w) ∧ 0 ≤ y ∧ y ≤ 128 - hh)) : Call d 76 [zrf 0, zint x, zint y, zint w, zint hh] (G, s) Q = Q (some (zlng (wd (fun j => B j 8 = 1 ∧ cov (B j 2) (B j 3) (B j 4) (B j 5) x y w hh) 0 N 0))) (G, s) := by
  have hg' := hg
  obtain ⟨g1, g2, g3, g4, g5, g6, hw, hu, hx, g7, g8, g9, g10, g11, g12⟩ := hg'
  have hw' := hw
  obtain ⟨w1, w2, w3, w4, w5, w6, w7, w8, w9, w10, w11, w12, w13, w14, w15, w16, w17, w18, w19, w20, w21, w22, w23, w24, w25⟩ := hw'
  have hv' := hv
  obtain ⟨v1, v2, v3, vB⟩ := hv'
  rw [e76 (show 1 ≤ d by omega)]
  simp (disch := first | omega | exact rfl) only [↓u76_0, ↓u76_1, ↓u76_2, ↓u76_5, ↓u76_7, ↓u76_8, ↓u76_11, ↓u76_12, ↓u76_13, ↓u76_14, ↓u76_16, ↓u76_19, ↓u76_22, ↓u76_25, ↓u76_26, ↓u76_27, ↓u76_30, ↓u76_31, ↓u76_32, ↓u76_33, ↓u76_35, ↓u76_38, ↓lI_0, ↓lI_s, ↓lL_0, ↓lL_s, ↓lR_0, ↓lR_s, ↓sT_0, ↓sT_i, ↓sT_r, ↓sT_u, ↓sT_lu, ↓sU_0, ↓sU_i, ↓sU_r, ↓sU_u, ↓ite_bx, bx_T, bx_F, bx_pos, bx_neg, zws_i, zws_r, zws_l, zws_n, zCb_kc, xl_ll, xr_rr, xs_e, xset_e, Option.toList, List.cons_append, List.nil_append, zIb_e, zrng_e, nz_e, if_pos, if_neg, and_true, true_and, or_true, true_or, ite_self, bi_eq0, bi_eq1, bi_1, bi_0, bi_ir, bi_T, bi_F, up_eq, up_ne, ↓reduceIte, reduceIte, Nat.reduceAdd, Nat.reduceLeDiff, Nat.le_refl, Nat.zero_le, not_true_eq_false, not_false_eq_true, ne_eq, Int.reduceEq, Int.reduceLT, Int.reduceLE, Int.reduceAdd, Int.reduceSub, Int.reduceMul, Int.reduceNeg, pT g1, g2, g3, g4, g5, g6, pT w1, w2, pT w3, w4, w5, w6, v1, v2, v3, vB, s105, bi_1 q2, s57 (show 2 ≤ d - 1 by omega) hw hv hb hn (show -1000 ≤ x ∧ x ≤ 1000 by omega) (show -1000 ≤ y ∧ y ≤ 1000 by omega) (show 0 ≤ w ∧ w ≤ 1000 by omega) (show 0 ≤ hh ∧ hh ≤ 1000 by omega)]
set_option maxRecDepth 8000 in
theorem s77_n {d : Nat} {Q : Option AV → XH → Prop} {G : XS} {s : ZS} {W U V : Int} {B : ZS} {N R T : Int} {k : Int} (hd : 5 ≤ d) (hg : LOK G W U V) (hv : CV s W B N R T) (hb : OKB B N) (hn : 0 ≤ N ∧ N ≤ 40 ∧ 0 ≤ R ∧ R ≤ 10 ∧ 0 ≤ T ∧ T ≤ 20000) (ik : ir k) (q : k < 0) : Call d 77 [zrf 0, zint k] (G, s) Q = Q (some (zint (-1))) (G, s) := by
  have hg' := hg
  obtain ⟨g1, g2, g3, g4, g5, g6, hw, hu, hx, g7, g8, g9, g10, g11, g12⟩ := hg'
  have hw' := hw
  obtain ⟨w1, w2, w3, w4, w5, w6, w7, w8, w9, w10, w11, w12, w13, w14, w15, w16, w17, w18, w19, w20, w21, w22, w23, w24, w25⟩ := hw'
  have hv' := hv
  obtain ⟨v1, v2, v3, vB⟩ := hv'
  rw [e77 (show 1 ≤ d by omega)]
  simp (disch := first | omega | exact rfl) only [↓u77_0, ↓u77_1, ↓u77_4, ↓u77_5, ↓u77_6, ↓u77_7, ↓u77_10, ↓u77_11, ↓u77_14, ↓lI_0, ↓lI_s, ↓lL_0, ↓lL_s, ↓lR_0, ↓lR_s, ↓sT_0, ↓sT_i, ↓sT_r, ↓sT_u, ↓sT_lu, ↓sU_0, ↓sU_i, ↓sU_r, ↓sU_u, ↓ite_bx, bx_T, bx_F, bx_pos, bx_neg, zws_i, zws_r, zws_l, zws_n, zCb_kc, xl_ll, xr_rr, xs_e, xset_e, Option.toList, List.cons_append, List.nil_append, zIb_e, zrng_e, nz_e, if_pos, if_neg, and_true, true_and, or_true, true_or, ite_self, bi_eq0, bi_eq1, bi_1, bi_0, bi_ir, bi_T, bi_F, up_eq, up_ne, ↓reduceIte, reduceIte, Nat.reduceAdd, Nat.reduceLeDiff, Nat.le_refl, Nat.zero_le, not_true_eq_false, not_false_eq_true, ne_eq, Int.reduceEq, Int.reduceLT, Int.reduceLE, Int.reduceAdd, Int.reduceSub, Int.reduceMul, Int.reduceNeg, pT g1, g2, g3, g4, g5, g6, pT w1, w2, pT w3, w4, w5, w6, v1, v2, v3, vB, s103]
set_option maxRecDepth 8000 in
theorem s77_y {d : Nat} {Q : Option AV → XH → Prop} {G : XS} {s : ZS} {W U V : Int} {B : ZS} {N R T : Int} {k : Int} (hd : 5 ≤ d) (hg : LOK G W U V) (hv : CV s W B N R T) (hb : OKB B N) (hn : 0 ≤ N ∧ N ≤ 40 ∧ 0 ≤ R ∧ R ≤ 10 ∧ 0 ≤ T ∧ T ≤ 20000) (ik : ir k) (q : 0 ≤ k) : Call d 77 [zrf 0, zint k] (G, s) Q = Q (some (zint (pn B N k 0 0))) (G, s) := by
  have hg' := hg
  obtain ⟨g1, g2, g3, g4, g5, g6, hw, hu, hx, g7, g8, g9, g10, g11, g12⟩ := hg'
  have hw' := hw
  obtain ⟨w1, w2, w3, w4, w5, w6, w7, w8, w9, w10, w11, w12, w13, w14, w15, w16, w17, w18, w19, w20, w21, w22, w23, w24, w25⟩ := hw'
  have hv' := hv
  obtain ⟨v1, v2, v3, vB⟩ := hv'
  rw [e77 (show 1 ≤ d by omega)]
  simp (disch := first | omega | exact rfl) only [↓u77_0, ↓u77_1, ↓u77_4, ↓u77_5, ↓u77_6, ↓u77_7, ↓u77_10, ↓u77_11, ↓u77_14, ↓lI_0, ↓lI_s, ↓lL_0, ↓lL_s, ↓lR_0, ↓lR_s, ↓sT_0, ↓sT_i, ↓sT_r, ↓sT_u, ↓sT_lu, ↓sU_0, ↓sU_i, ↓sU_r, ↓sU_u, ↓ite_bx, bx_T, bx_F, bx_pos, bx_neg, zws_i, zws_r, zws_l, zws_n, zCb_kc, xl_ll, xr_rr, xs_e, xset_e, Option.toList, List.cons_append, List.nil_append, zIb_e, zrng_e, nz_e, if_pos, if_neg, and_true, true_and, or_true, true_or, ite_self, bi_eq0, bi_eq1, bi_1, bi_0, bi_ir, bi_T, bi_F, up_eq, up_ne, ↓reduceIte, reduceIte, Nat.reduceAdd, Nat.reduceLeDiff, Nat.le_refl, Nat.zero_le, not_true_eq_false, not_false_eq_true, ne_eq, Int.reduceEq, Int.reduceLT, Int.reduceLE, Int.reduceAdd, Int.reduceSub, Int.reduceMul, Int.reduceNeg, pT g1, g2, g3, g4, g5, g6, pT w1, w2, pT w3, w4, w5, w6, v1, v2, v3, vB, s60 (show 4 ≤ d - 1 by omega) hw hv hb hn (show 0 ≤ k ∧ ir k by omega)]
