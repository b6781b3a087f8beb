/-! the class World: what it is asked -/
theorem qq {Q : Option AV → XH → Prop} {x y : Int} {h : XH} (e : x = y) : Q (some (zint x)) h = Q (some (zint y)) h := by rw [e]
theorem okb_o {G : XS} {s : ZS} {W : Int} {B : ZS} {N R T i : Int} (hv : CV s W B N R T) (hb : OKB B N) (h : 0 ≤ i ∧ i < N) : okb s (W + 2 + i) := by
  obtain ⟨v1, v2, v3, vB⟩ := hv
  have b := hb i h
  simp (disch := omega) only [okb, vB]
  exact b
abbrev hr (B : ZS) (N n : Int) : Prop := (0 ≤ n ∧ n < N) ∧ B n 8 = 1
theorem s37_y {d : Nat} {Q : Option AV → XH → Prop} {G : XS} {s : ZS} {W : Int} {B : ZS} {N R T : Int} {n : Int} (hd : 2 ≤ d) (hw : WOK G W) (hv : CV s W B N R T) (hb : OKB B N) (hn : 0 ≤ N ∧ N ≤ 40 ∧ 0 ≤ R ∧ R ≤ 10 ∧ 0 ≤ T ∧ T ≤ 20000) (h : hr B N n) : Call d 37 [zrf W, zint n] (G, s) Q = Q (some (zrf (W + 2 + n))) (G, s) := by
  have hw' := hw
  obtain ⟨w1, w2, w3, w4, w5, w6, w7, w8, w9, w10, w11, w12, w13, w14, w15, w16, w17, w18, w19, w20, w21, w22, w23, w24, w25⟩ := hw'
  have hv' := hv
  obtain ⟨v1, v2, v3, vB⟩ := hv'
  rw [e37 (show 1 ≤ d by omega)]
  simp (disch := first | omega | exact rfl) only [↓u37_0, ↓u37_1, ↓u37_2, ↓u37_3, ↓u37_6, ↓u37_7, ↓u37_8, ↓u37_11, ↓u37_14, ↓u37_15, ↓u37_18, ↓u37_19, ↓u37_20, ↓u37_23, ↓u37_26, ↓u37_27, ↓u37_30, ↓u37_31, ↓u37_32, ↓u37_35, ↓u37_36, lI_0, lI_s, lL_0, lL_s, lR_0, lR_s, sT_0, sT_i, sT_r, sT_u, sT_lu, sU_0, sU_i, sU_r, sU_u, zws_i, zws_r, zws_l, zws_n, zCb_kc, xl_ll, xr_rr, xs_e, xset_e, Option.toList, List.cons_append, List.nil_append, zIb_e, zrng_e, nz_e, if_pos, if_neg, and_true, true_and, or_true, true_or, ite_self, bi_eq0, bi_eq1, bi_1, bi_0, bi_ir, bi_T, bi_F, up_eq, up_ne, ↓reduceIte, reduceIte, Nat.reduceAdd, Nat.reduceLeDiff, Nat.le_refl, Nat.zero_le, not_true_eq_false, not_false_eq_true, ne_eq, Int.reduceEq, Int.reduceLT, Int.reduceLE, Int.reduceAdd, Int.reduceSub, Int.reduceMul, Int.reduceNeg, pT w1, w2, pT w3, w4, w5, w6, v1, v2, v3, vB, s103]
theorem s37_n {d : Nat} {Q : Option AV → XH → Prop} {G : XS} {s : ZS} {W : Int} {B : ZS} {N R T : Int} {n : Int} (hd : 2 ≤ d) (hw : WOK G W) (hv : CV s W B N R T) (hb : OKB B N) (hn : 0 ≤ N ∧ N ≤ 40 ∧ 0 ≤ R ∧ R ≤ 10 ∧ 0 ≤ T ∧ T ≤ 20000) (hi : ir n) (h : ¬hr B N n) : Call d 37 [zrf W, zint n] (G, s) Q = Q (some (zrf (-1))) (G, s) := by
  have hw' := hw
  obtain ⟨w1, w2, w3, w4, w5, w6, w7, w8, w9, w10, w11, w12, w13, w14, w15, w16, w17, w18, w19, w20, w21, w22, w23, w24, w25⟩ := hw'
  have hv' := hv
  obtain ⟨v1, v2, v3, vB⟩ := hv'
  rw [e37 (show 1 ≤ d by omega)]
  by_cases q : 0 ≤ n ∧ n < N
  · have b := hb n q
    simp (disch := first | omega | exact rfl) only [↓u37_0, ↓u37_1, ↓u37_2, ↓u37_3, ↓u37_6, ↓u37_7, ↓u37_8, ↓u37_11, ↓u37_14, ↓u37_15, ↓u37_18, ↓u37_19, ↓u37_20, ↓u37_23, ↓u37_26, ↓u37_27, ↓u37_30, ↓u37_31, ↓u37_32, ↓u37_35, ↓u37_36, lI_0, lI_s, lL_0, lL_s, lR_0, lR_s, sT_0, sT_i, sT_r, sT_u, sT_lu, sU_0, sU_i, sU_r, sU_u, zws_i, zws_r, zws_l, zws_n, zCb_kc, xl_ll, xr_rr, xs_e, xset_e, Option.toList, List.cons_append, List.nil_append, zIb_e, zrng_e, nz_e, if_pos, if_neg, and_true, true_and, or_true, true_or, ite_self, bi_eq0, bi_eq1, bi_1, bi_0, bi_ir, bi_T, bi_F, up_eq, up_ne, ↓reduceIte, reduceIte, Nat.reduceAdd, Nat.reduceLeDiff, Nat.le_refl, Nat.zero_le, not_true_eq_false, not_false_eq_true, ne_eq, Int.reduceEq, Int.reduceLT, Int.reduceLE, Int.reduceAdd, Int.reduceSub, Int.reduceMul, Int.reduceNeg, pT w1, w2, pT w3, w4, w5, w6, v1, v2, v3, vB, s103]
  · simp (disch := first | omega | exact rfl) only [↓u37_0, ↓u37_1, ↓u37_2, ↓u37_3, ↓u37_6, ↓u37_7, ↓u37_8, ↓u37_11, ↓u37_14, ↓u37_15, ↓u37_18, ↓u37_19, ↓u37_20, ↓u37_23, ↓u37_26, ↓u37_27, ↓u37_30, ↓u37_31, ↓u37_32, ↓u37_35, ↓u37_36, lI_0, lI_s, lL_0, lL_s, lR_0, lR_s, sT_0, sT_i, sT_r, sT_u, sT_lu, sU_0, sU_i, sU_r, sU_u, zws_i, zws_r, zws_l, zws_n, zCb_kc, xl_ll, xr_rr, xs_e, xset_e, Option.toList, List.cons_append, List.nil_append, zIb_e, zrng_e, nz_e, if_pos, if_neg, and_true, true_and, or_true, true_or, ite_self, bi_eq0, bi_eq1, bi_1, bi_0, bi_ir, bi_T, bi_F, up_eq, up_ne, ↓reduceIte, reduceIte, Nat.reduceAdd, Nat.reduceLeDiff, Nat.le_refl, Nat.zero_le, not_true_eq_false, not_false_eq_true, ne_eq, Int.reduceEq, Int.reduceLT, Int.reduceLE, Int.reduceAdd, Int.reduceSub, Int.reduceMul, Int.reduceNeg, pT w1, w2, pT w3, w4, w5, w6, v1, v2, v3, vB, s103]
theorem s39 {d : Nat} {Q : Option AV → XH → Prop} {G : XS} {s : ZS} {W : Int} {B : ZS} {N R T : Int}  (hd : 1 ≤ d) (hw : WOK G W) (hv : CV s W B N R T) (hb : OKB B N) (hn : 0 ≤ N ∧ N ≤ 40 ∧ 0 ≤ R ∧ R ≤ 10 ∧ 0 ≤ T ∧ T ≤ 20000)  : Call d 39 [zrf W] (G, s) Q = Q (some (zint (sm (fun j => bi (B j 8 = 1)) 0 N))) (G, s) := by
  have hw' := hw
  obtain ⟨w1, w2, w3, w4, w5, w6, w7, w8, w9, w10, w11, w12, w13, w14, w15, w16, w17, w18, w19, w20, w21, w22, w23, w24, w25⟩ := hw'
  have hv' := hv
  obtain ⟨v1, v2, v3, vB⟩ := hv'
  rw [e39 (show 1 ≤ d by omega)]
  have lp : ∀ i, 0 ≤ i → i ≤ N → ∀ a, 0 ≤ a → a ≤ i → Wp (d - 1) 39 (4, [zrf W, zint a, zint i], [], (G, s)) Q = Q (some (zint (a + sm (fun j => bi (B j 8 = 1)) i N))) (G, s) := by
    refine dn (P := fun i => ∀ a, 0 ≤ a → a ≤ i → Wp (d - 1) 39 (4, [zrf W, zint a, zint i], [], (G, s)) Q = Q (some (zint (a + sm (fun j => bi (B j 8 = 1)) i N))) (G, s)) ?_ ?_
    · intro a ha0 ha1
      rw [sm_e (Int.le_refl N), u39_4]
      simp (disch := first | omega | exact rfl) only [↓u39_0, ↓u39_1, ↓u39_2, ↓u39_3, ↓u39_5, ↓u39_6, ↓u39_9, ↓u39_12, ↓u39_13, ↓u39_16, ↓u39_17, ↓u39_18, ↓u39_21, ↓u39_24, ↓u39_27, ↓u39_30, ↓u39_33, ↓u39_34, lI_0, lI_s, lL_0, lL_s, lR_0, lR_s, sT_0, sT_i, sT_r, sT_u, sT_lu, sU_0, sU_i, sU_r, sU_u, zws_i, zws_r, zws_l, zws_n, zCb_kc, xl_ll, xr_rr, xs_e, xset_e, Option.toList, List.cons_append, List.nil_append, zIb_e, zrng_e, nz_e, if_pos, if_neg, and_true, true_and, or_true, true_or, ite_self, bi_eq0, bi_eq1, bi_1, bi_0, bi_ir, bi_T, bi_F, up_eq, up_ne, ↓reduceIte, reduceIte, Nat.reduceAdd, Nat.reduceLeDiff, Nat.le_refl, Nat.zero_le, not_true_eq_false, not_false_eq_true, ne_eq, Int.reduceEq, Int.reduceLT, Int.reduceLE, Int.reduceAdd, Int.reduceSub, Int.reduceMul, Int.reduceNeg, pT w1, w2, pT w3, w4, w5, w6, v1, v2, v3, vB]
      all_goals exact qq (by omega)
    · intro i h0 h1 ih a ha0 ha1
      have b := hb i ⟨h0, h1⟩
      have k1 := w6 i (by omega)
      have k2 := okb_o (G := G) hv hb ⟨h0, h1⟩
      rw [u39_4, sm_s h1]
      by_cases q : B i 8 = 1
      · simp (disch := first | omega | exact rfl) only [↓u39_0, ↓u39_1, ↓u39_2, ↓u39_3, ↓u39_5, ↓u39_6, ↓u39_9, ↓u39_12, ↓u39_13, ↓u39_16, ↓u39_17, ↓u39_18, ↓u39_21, ↓u39_24, ↓u39_27, ↓u39_30, ↓u39_33, ↓u39_34, lI_0, lI_s, lL_0, lL_s, lR_0, lR_s, sT_0, sT_i, sT_r, sT_u, sT_lu, sU_0, sU_i, sU_r, sU_u, zws_i, zws_r, zws_l, zws_n, zCb_kc, xl_ll, xr_rr, xs_e, xset_e, Option.toList, List.cons_append, List.nil_append, zIb_e, zrng_e, nz_e, if_pos, if_neg, and_true, true_and, or_true, true_or, ite_self, bi_eq0, bi_eq1, bi_1, bi_0, bi_ir, bi_T, bi_F, up_eq, up_ne, ↓reduceIte, reduceIte, Nat.reduceAdd, Nat.reduceLeDiff, Nat.le_refl, Nat.zero_le, not_true_eq_false, not_false_eq_true, ne_eq, Int.reduceEq, Int.reduceLT, Int.reduceLE, Int.reduceAdd, Int.reduceSub, Int.reduceMul, Int.reduceNeg, pT w1, w2, pT w3, w4, w5, w6, v1, v2, v3, vB, ih, ]
        all_goals exact qq (by omega)
      · simp (disch := first | omega | exact rfl) only [↓u39_0, ↓u39_1, ↓u39_2, ↓u39_3, ↓u39_5, ↓u39_6, ↓u39_9, ↓u39_12, ↓u39_13, ↓u39_16, ↓u39_17, ↓u39_18, ↓u39_21, ↓u39_24, ↓u39_27, ↓u39_30, ↓u39_33, ↓u39_34, lI_0, lI_s, lL_0, lL_s, lR_0, lR_s, sT_0, sT_i, sT_r, sT_u, sT_lu, sU_0, sU_i, sU_r, sU_u, zws_i, zws_r, zws_l, zws_n, zCb_kc, xl_ll, xr_rr, xs_e, xset_e, Option.toList, List.cons_append, List.nil_append, zIb_e, zrng_e, nz_e, if_pos, if_neg, and_true, true_and, or_true, true_or, ite_self, bi_eq0, bi_eq1, bi_1, bi_0, bi_ir, bi_T, bi_F, up_eq, up_ne, ↓reduceIte, reduceIte, Nat.reduceAdd, Nat.reduceLeDiff, Nat.le_refl, Nat.zero_le, not_true_eq_false, not_false_eq_true, ne_eq, Int.reduceEq, Int.reduceLT, Int.reduceLE, Int.reduceAdd, Int.reduceSub, Int.reduceMul, Int.reduceNeg, pT w1, w2, pT w3, w4, w5, w6, v1, v2, v3, vB, ih, ]
        all_goals exact qq (by omega)
  simp (disch := first | omega | exact rfl) only [↓u39_0, ↓u39_1, ↓u39_2, ↓u39_3, ↓u39_5, ↓u39_6, ↓u39_9, ↓u39_12, ↓u39_13, ↓u39_16, ↓u39_17, ↓u39_18, ↓u39_21, ↓u39_24, ↓u39_27, ↓u39_30, ↓u39_33, ↓u39_34, lI_0, lI_s, lL_0, lL_s, lR_0, lR_s, sT_0, sT_i, sT_r, sT_u, sT_lu, sU_0, sU_i, sU_r, sU_u, zws_i, zws_r, zws_l, zws_n, zCb_kc, xl_ll, xr_rr, xs_e, xset_e, Option.toList, List.cons_append, List.nil_append, zIb_e, zrng_e, nz_e, if_pos, if_neg, and_true, true_and, or_true, true_or, ite_self, bi_eq0, bi_eq1, bi_1, bi_0, bi_ir, bi_T, bi_F, up_eq, up_ne, ↓reduceIte, reduceIte, Nat.reduceAdd, Nat.reduceLeDiff, Nat.le_refl, Nat.zero_le, not_true_eq_false, not_false_eq_true, ne_eq, Int.reduceEq, Int.reduceLT, Int.reduceLE, Int.reduceAdd, Int.reduceSub, Int.reduceMul, Int.reduceNeg, pT w1, w2, pT w3, w4, w5, w6, v1, v2, v3, vB, lp 0 (Int.le_refl 0) (by omega)]
  all_goals exact qq (by omega)
theorem s40 {d : Nat} {Q : Option AV → XH → Prop} {G : XS} {s : ZS} {W : Int} {B : ZS} {N R T : Int}  (hd : 1 ≤ d) (hw : WOK G W) (hv : CV s W B N R T) (hb : OKB B N) (hn : 0 ≤ N ∧ N ≤ 40 ∧ 0 ≤ R ∧ R ≤ 10 ∧ 0 ≤ T ∧ T ≤ 20000)  : Call d 40 [zrf W] (G, s) Q = Q (some (zint (sm (fun j => bi (B j 8 = 1) * (B j 4 * B j 5)) 0 N))) (G, s) := by
  have hw' := hw
  obtain ⟨w1, w2, w3, w4, w5, w6, w7, w8, w9, w10, w11, w12, w13, w14, w15, w16, w17, w18, w19, w20, w21, w22, w23, w24, w25⟩ := hw'
  have hv' := hv
  obtain ⟨v1, v2, v3, vB⟩ := hv'
  rw [e40 (show 1 ≤ d by omega)]
  have lp : ∀ i, 0 ≤ i → i ≤ N → ∀ a, 0 ≤ a → a ≤ 1024 * i → Wp (d - 1) 40 (4, [zrf W, zint a, zint i], [], (G, s)) Q = Q (some (zint (a + sm (fun j => bi (B j 8 = 1) * (B j 4 * B j 5)) i N))) (G, s) := by
    refine dn (P := fun i => ∀ a, 0 ≤ a → a ≤ 1024 * i → Wp (d - 1) 40 (4, [zrf W, zint a, zint i], [], (G, s)) Q = Q (some (zint (a + sm (fun j => bi (B j 8 = 1) * (B j 4 * B j 5)) i N))) (G, s)) ?_ ?_
    · intro a ha0 ha1
      rw [sm_e (Int.le_refl N), u40_4]
      simp (disch := first | omega | exact rfl) only [↓u40_0, ↓u40_1, ↓u40_2, ↓u40_3, ↓u40_5, ↓u40_6, ↓u40_9, ↓u40_12, ↓u40_13, ↓u40_16, ↓u40_17, ↓u40_18, ↓u40_21, ↓u40_24, ↓u40_25, ↓u40_26, ↓u40_29, ↓u40_30, ↓u40_31, ↓u40_34, ↓u40_35, ↓u40_38, ↓u40_39, ↓u40_40, ↓u40_43, ↓u40_44, ↓u40_45, ↓u40_46, ↓u40_49, ↓u40_52, ↓u40_53, lI_0, lI_s, lL_0, lL_s, lR_0, lR_s, sT_0, sT_i, sT_r, sT_u, sT_lu, sU_0, sU_i, sU_r, sU_u, zws_i, zws_r, zws_l, zws_n, zCb_kc, xl_ll, xr_rr, xs_e, xset_e, Option.toList, List.cons_append, List.nil_append, zIb_e, zrng_e, nz_e, if_pos, if_neg, and_true, true_and, or_true, true_or, ite_self, bi_eq0, bi_eq1, bi_1, bi_0, bi_ir, bi_T, bi_F, up_eq, up_ne, ↓reduceIte, reduceIte, Nat.reduceAdd, Nat.reduceLeDiff, Nat.le_refl, Nat.zero_le, not_true_eq_false, not_false_eq_true, ne_eq, Int.reduceEq, Int.reduceLT, Int.reduceLE, Int.reduceAdd, Int.reduceSub, Int.reduceMul, Int.reduceNeg, pT w1, w2, pT w3, w4, w5, w6, v1, v2, v3, vB]
      all_goals exact qq (by omega)
    · intro i h0 h1 ih a ha0 ha1
      have b := hb i ⟨h0, h1⟩
      have k1 := w6 i (by omega)
      have k2 := okb_o (G := G) hv hb ⟨h0, h1⟩
      have pm := mul_b (c := 32) (a := B i 4) (b := B i 5) (by omega) (by omega)
      rw [u40_4, sm_s h1]
      by_cases q : B i 8 = 1
      · simp (disch := first | omega | exact rfl) only [↓u40_0, ↓u40_1, ↓u40_2, ↓u40_3, ↓u40_5, ↓u40_6, ↓u40_9, ↓u40_12, ↓u40_13, ↓u40_16, ↓u40_17, ↓u40_18, ↓u40_21, ↓u40_24, ↓u40_25, ↓u40_26, ↓u40_29, ↓u40_30, ↓u40_31, ↓u40_34, ↓u40_35, ↓u40_38, ↓u40_39, ↓u40_40, ↓u40_43, ↓u40_44, ↓u40_45, ↓u40_46, ↓u40_49, ↓u40_52, ↓u40_53, lI_0, lI_s, lL_0, lL_s, lR_0, lR_s, sT_0, sT_i, sT_r, sT_u, sT_lu, sU_0, sU_i, sU_r, sU_u, zws_i, zws_r, zws_l, zws_n, zCb_kc, xl_ll, xr_rr, xs_e, xset_e, Option.toList, List.cons_append, List.nil_append, zIb_e, zrng_e, nz_e, if_pos, if_neg, and_true, true_and, or_true, true_or, ite_self, bi_eq0, bi_eq1, bi_1, bi_0, bi_ir, bi_T, bi_F, up_eq, up_ne, ↓reduceIte, reduceIte, Nat.reduceAdd, Nat.reduceLeDiff, Nat.le_refl, Nat.zero_le, not_true_eq_false, not_false_eq_true, ne_eq, Int.reduceEq, Int.reduceLT, Int.reduceLE, Int.reduceAdd, Int.reduceSub, Int.reduceMul, Int.reduceNeg, pT w1, w2, pT w3, w4, w5, w6, v1, v2, v3, vB, ih, Int.one_mul, Int.zero_mul]
        all_goals exact qq (by omega)
      · simp (disch := first | omega | exact rfl) only [↓u40_0, ↓u40_1, ↓u40_2, ↓u40_3, ↓u40_5, ↓u40_6, ↓u40_9, ↓u40_12, ↓u40_13, ↓u40_16, ↓u40_17, ↓u40_18, ↓u40_21, ↓u40_24, ↓u40_25, ↓u40_26, ↓u40_29, ↓u40_30, ↓u40_31, ↓u40_34, ↓u40_35, ↓u40_38, ↓u40_39, ↓u40_40, ↓u40_43, ↓u40_44, ↓u40_45, ↓u40_46, ↓u40_49, ↓u40_52, ↓u40_53, lI_0, lI_s, lL_0, lL_s, lR_0, lR_s, sT_0, sT_i, sT_r, sT_u, sT_lu, sU_0, sU_i, sU_r, sU_u, zws_i, zws_r, zws_l, zws_n, zCb_kc, xl_ll, xr_rr, xs_e, xset_e, Option.toList, List.cons_append, List.nil_append, zIb_e, zrng_e, nz_e, if_pos, if_neg, and_true, true_and, or_true, true_or, ite_self, bi_eq0, bi_eq1, bi_1, bi_0, bi_ir, bi_T, bi_F, up_eq, up_ne, ↓reduceIte, reduceIte, Nat.reduceAdd, Nat.reduceLeDiff, Nat.le_refl, Nat.zero_le, not_true_eq_false, not_false_eq_true, ne_eq, Int.reduceEq, Int.reduceLT, Int.reduceLE, Int.reduceAdd, Int.reduceSub, Int.reduceMul, Int.reduceNeg, pT w1, w2, pT w3, w4, w5, w6, v1, v2, v3, vB, ih, Int.one_mul, Int.zero_mul]
        all_goals exact qq (by omega)
  simp (disch := first | omega | exact rfl) only [↓u40_0, ↓u40_1, ↓u40_2, ↓u40_3, ↓u40_5, ↓u40_6, ↓u40_9, ↓u40_12, ↓u40_13, ↓u40_16, ↓u40_17, ↓u40_18, ↓u40_21, ↓u40_24, ↓u40_25, ↓u40_26, ↓u40_29, ↓u40_30, ↓u40_31, ↓u40_34, ↓u40_35, ↓u40_38, ↓u40_39, ↓u40_40, ↓u40_43, ↓u40_44, ↓u40_45, ↓u40_46, ↓u40_49, ↓u40_52, ↓u40_53, lI_0, lI_s, lL_0, lL_s, lR_0, lR_s, sT_0, sT_i, sT_r, sT_u, sT_lu, sU_0, sU_i, sU_r, sU_u, zws_i, zws_r, zws_l, zws_n, zCb_kc, xl_ll, xr_rr, xs_e, xset_e, Option.toList, List.cons_append, List.nil_append, zIb_e, zrng_e, nz_e, if_pos, if_neg, and_true, true_and, or_true, true_or, ite_self, bi_eq0, bi_eq1, bi_1, bi_0, bi_ir, bi_T, bi_F, up_eq, up_ne, ↓reduceIte, reduceIte, Nat.reduceAdd, Nat.reduceLeDiff, Nat.le_refl, Nat.zero_le, not_true_eq_false, not_false_eq_true, ne_eq, Int.reduceEq, Int.reduceLT, Int.reduceLE, Int.reduceAdd, Int.reduceSub, Int.reduceMul, Int.reduceNeg, pT w1, w2, pT w3, w4, w5, w6, v1, v2, v3, vB, lp 0 (Int.le_refl 0) (by omega)]
  all_goals exact qq (by omega)
theorem wi_b {x y w h k : Int} (hk : 0 ≤ k ∧ k ≤ 5) (hx : (0 ≤ x ∧ x ≤ 127) ∧ 0 ≤ y ∧ y ≤ 127) : -1 ≤ wi x y w h k ∧ wi x y w h k ≤ 1023 := by
  have H : ∀ k : Int, 0 ≤ k ∧ k ≤ 5 → -1 ≤ y / p2 (7 - k) * p2 k + x / p2 (7 - k) ∧ y / p2 (7 - k) * p2 k + x / p2 (7 - k) ≤ 1023 := by
    intro k hk
    rcases (show k = 0 ∨ k = 1 ∨ k = 2 ∨ k = 3 ∨ k = 4 ∨ k = 5 by omega) with rfl | rfl | rfl | rfl | rfl | rfl <;> simp only [Int.reduceSub, p2_0, p2_1, p2_2, p2_3, p2_4, p2_5, p2_6, p2_7] <;> omega
  by_cases q : wq x y w h k
  · rw [wi_1 q]
    exact H k hk
  · rw [wi_0 q]
    omega
theorem s42 {d : Nat} {Q : Option AV → XH → Prop} {G : XS} {s : ZS} {W : Int} {B : ZS} {N R T : Int} {k ix : Int} (hd : 2 ≤ d) (hw : WOK G W) (hv : CV s W B N R T) (hb : OKB B N) (hn : 0 ≤ N ∧ N ≤ 40 ∧ 0 ≤ R ∧ R ≤ 10 ∧ 0 ≤ T ∧ T ≤ 20000) (hk : 0 ≤ k ∧ k ≤ 5) (hi : ir ix) : Call d 42 [zrf W, zint k, zint ix] (G, s) Q = Q (some (zint (sm (fun j => bi (B j 8 = 1 ∧ wi (B j 2) (B j 3) (B j 4) (B j 5) k = ix)) 0 N))) (G, s) := by
  have hw' := hw
  obtain ⟨w1, w2, w3, w4, w5, w6, w7, w8, w9, w10, w11, w12, w13, w14, w15, w16, w17, w18, w19, w20, w21, w22, w23, w24, w25⟩ := hw'
  have hv' := hv
  obtain ⟨v1, v2, v3, vB⟩ := hv'
  rw [e42 (show 1 ≤ d by omega)]
  have lp : ∀ i, 0 ≤ i → i ≤ N → ∀ a, 0 ≤ a → a ≤ i → Wp (d - 1) 42 (5, [zrf W, zint k, zint ix, zint a, zint i], [], (G, s)) Q = Q (some (zint (a + sm (fun j => bi (B j 8 = 1 ∧ wi (B j 2) (B j 3) (B j 4) (B j 5) k = ix)) i N))) (G, s) := by
    refine dn (P := fun i => ∀ a, 0 ≤ a → a ≤ i → Wp (d - 1) 42 (5, [zrf W, zint k, zint ix, zint a, zint i], [], (G, s)) Q = Q (some (zint (a + sm (fun j => bi (B j 8 = 1 ∧ wi (B j 2) (B j 3) (B j 4) (B j 5) k = ix)) i N))) (G, s)) ?_ ?_
    · intro a ha0 ha1
      rw [sm_e (Int.le_refl N), u42_5]
      simp (disch := first | omega | exact rfl) only [↓u42_0, ↓u42_1, ↓u42_2, ↓u42_3, ↓u42_7, ↓u42_8, ↓u42_11, ↓u42_14, ↓u42_15, ↓u42_18, ↓u42_20, ↓u42_21, ↓u42_24, ↓u42_27, ↓u42_28, ↓u42_31, ↓u42_33, ↓u42_34, ↓u42_35, ↓u42_38, ↓u42_39, ↓u42_42, ↓u42_45, ↓u42_48, ↓u42_51, ↓u42_52, lI_0, lI_s, lL_0, lL_s, lR_0, lR_s, sT_0, sT_i, sT_r, sT_u, sT_lu, sU_0, sU_i, sU_r, sU_u, zws_i, zws_r, zws_l, zws_n, zCb_kc, xl_ll, xr_rr, xs_e, xset_e, Option.toList, List.cons_append, List.nil_append, zIb_e, zrng_e, nz_e, if_pos, if_neg, and_true, true_and, or_true, true_or, ite_self, bi_eq0, bi_eq1, bi_1, bi_0, bi_ir, bi_T, bi_F, up_eq, up_ne, ↓reduceIte, reduceIte, Nat.reduceAdd, Nat.reduceLeDiff, Nat.le_refl, Nat.zero_le, not_true_eq_false, not_false_eq_true, ne_eq, Int.reduceEq, Int.reduceLT, Int.reduceLE, Int.reduceAdd, Int.reduceSub, Int.reduceMul, Int.reduceNeg, pT w1, w2, pT w3, w4, w5, w6, v1, v2, v3, vB]
      all_goals exact qq (by omega)
    · intro i h0 h1 ih a ha0 ha1
      have b := hb i ⟨h0, h1⟩
      have k1 := w6 i (by omega)
      have k2 := okb_o (G := G) hv hb ⟨h0, h1⟩
      have wb := wi_b (x := B i 2) (y := B i 3) (w := B i 4) (h := B i 5) hk (by omega)
      rw [u42_5, sm_s h1]
      by_cases q : B i 8 = 1 ∧ wi (B i 2) (B i 3) (B i 4) (B i 5) k = ix
      · simp (disch := first | omega | exact rfl) only [↓u42_0, ↓u42_1, ↓u42_2, ↓u42_3, ↓u42_7, ↓u42_8, ↓u42_11, ↓u42_14, ↓u42_15, ↓u42_18, ↓u42_20, ↓u42_21, ↓u42_24, ↓u42_27, ↓u42_28, ↓u42_31, ↓u42_33, ↓u42_34, ↓u42_35, ↓u42_38, ↓u42_39, ↓u42_42, ↓u42_45, ↓u42_48, ↓u42_51, ↓u42_52, lI_0, lI_s, lL_0, lL_s, lR_0, lR_s, sT_0, sT_i, sT_r, sT_u, sT_lu, sU_0, sU_i, sU_r, sU_u, zws_i, zws_r, zws_l, zws_n, zCb_kc, xl_ll, xr_rr, xs_e, xset_e, Option.toList, List.cons_append, List.nil_append, zIb_e, zrng_e, nz_e, if_pos, if_neg, and_true, true_and, or_true, true_or, ite_self, bi_eq0, bi_eq1, bi_1, bi_0, bi_ir, bi_T, bi_F, up_eq, up_ne, ↓reduceIte, reduceIte, Nat.reduceAdd, Nat.reduceLeDiff, Nat.le_refl, Nat.zero_le, not_true_eq_false, not_false_eq_true, ne_eq, Int.reduceEq, Int.reduceLT, Int.reduceLE, Int.reduceAdd, Int.reduceSub, Int.reduceMul, Int.reduceNeg, pT w1, w2, pT w3, w4, w5, w6, v1, v2, v3, vB, ih, s13 (show 1 ≤ d - 1 by omega) k1 k2 hk]
        all_goals exact qq (by omega)
      · simp (disch := first | omega | exact rfl) only [↓u42_0, ↓u42_1, ↓u42_2, ↓u42_3, ↓u42_7, ↓u42_8, ↓u42_11, ↓u42_14, ↓u42_15, ↓u42_18, ↓u42_20, ↓u42_21, ↓u42_24, ↓u42_27, ↓u42_28, ↓u42_31, ↓u42_33, ↓u42_34, ↓u42_35, ↓u42_38, ↓u42_39, ↓u42_42, ↓u42_45, ↓u42_48, ↓u42_51, ↓u42_52, lI_0, lI_s, lL_0, lL_s, lR_0, lR_s, sT_0, sT_i, sT_r, sT_u, sT_lu, sU_0, sU_i, sU_r, sU_u, zws_i, zws_r, zws_l, zws_n, zCb_kc, xl_ll, xr_rr, xs_e, xset_e, Option.toList, List.cons_append, List.nil_append, zIb_e, zrng_e, nz_e, if_pos, if_neg, and_true, true_and, or_true, true_or, ite_self, bi_eq0, bi_eq1, bi_1, bi_0, bi_ir, bi_T, bi_F, up_eq, up_ne, ↓reduceIte, reduceIte, Nat.reduceAdd, Nat.reduceLeDiff, Nat.le_refl, Nat.zero_le, not_true_eq_false, not_false_eq_true, ne_eq, Int.reduceEq, Int.reduceLT, Int.reduceLE, Int.reduceAdd, Int.reduceSub, Int.reduceMul, Int.reduceNeg, pT w1, w2, pT w3, w4, w5, w6, v1, v2, v3, vB, ih, s13 (show 1 ≤ d - 1 by omega) k1 k2 hk]
        all_goals exact qq (by omega)
  simp (disch := first | omega | exact rfl) only [↓u42_0, ↓u42_1, ↓u42_2, ↓u42_3, ↓u42_7, ↓u42_8, ↓u42_11, ↓u42_14, ↓u42_15, ↓u42_18, ↓u42_20, ↓u42_21, ↓u42_24, ↓u42_27, ↓u42_28, ↓u42_31, ↓u42_33, ↓u42_34, ↓u42_35, ↓u42_38, ↓u42_39, ↓u42_42, ↓u42_45, ↓u42_48, ↓u42_51, ↓u42_52, lI_0, lI_s, lL_0, lL_s, lR_0, lR_s, sT_0, sT_i, sT_r, sT_u, sT_lu, sU_0, sU_i, sU_r, sU_u, zws_i, zws_r, zws_l, zws_n, zCb_kc, xl_ll, xr_rr, xs_e, xset_e, Option.toList, List.cons_append, List.nil_append, zIb_e, zrng_e, nz_e, if_pos, if_neg, and_true, true_and, or_true, true_or, ite_self, bi_eq0, bi_eq1, bi_1, bi_0, bi_ir, bi_T, bi_F, up_eq, up_ne, ↓reduceIte, reduceIte, Nat.reduceAdd, Nat.reduceLeDiff, Nat.le_refl, Nat.zero_le, not_true_eq_false, not_false_eq_true, ne_eq, Int.reduceEq, Int.reduceLT, Int.reduceLE, Int.reduceAdd, Int.reduceSub, Int.reduceMul, Int.reduceNeg, pT w1, w2, pT w3, w4, w5, w6, v1, v2, v3, vB, lp 0 (Int.le_refl 0) (by omega)]
  all_goals exact qq (by omega)
noncomputable def wn (B : ZS) (N k ix : Int) : Int := sm (fun j => bi (B j 8 = 1 ∧ wi (B j 2) (B j 3) (B j 4) (B j 5) k = ix)) 0 N
theorem wn_b {B : ZS} {N k ix : Int} (hn : 0 ≤ N) : 0 ≤ wn B N k ix ∧ wn B N k ix ≤ N := by
  have := cn_b (fun j => B j 8 = 1 ∧ wi (B j 2) (B j 3) (B j 4) (B j 5) k = ix) 0 N hn
  unfold wn
  omega
noncomputable def thr (B : ZS) (N : Int) : Int := sm (fun j => bi (B j 8 = 1)) 0 N
noncomputable def ar (B : ZS) (N : Int) : Int := sm (fun j => bi (B j 8 = 1) * (B j 4 * B j 5)) 0 N
theorem t39 {d : Nat} {Q : Option AV → XH → Prop} {G : XS} {s : ZS} {W : Int} {B : ZS} {N R T : Int}  (hd : 1 ≤ d) (hw : WOK G W) (hv : CV s W B N R T) (hb : OKB B N) (hn : 0 ≤ N ∧ N ≤ 40 ∧ 0 ≤ R ∧ R ≤ 10 ∧ 0 ≤ T ∧ T ≤ 20000)  : Call d 39 [zrf W] (G, s) Q = Q (some (zint (thr B N))) (G, s) := s39 hd hw hv hb hn 
theorem t40 {d : Nat} {Q : Option AV → XH → Prop} {G : XS} {s : ZS} {W : Int} {B : ZS} {N R T : Int}  (hd : 1 ≤ d) (hw : WOK G W) (hv : CV s W B N R T) (hb : OKB B N) (hn : 0 ≤ N ∧ N ≤ 40 ∧ 0 ≤ R ∧ R ≤ 10 ∧ 0 ≤ T ∧ T ≤ 20000)  : Call d 40 [zrf W] (G, s) Q = Q (some (zint (ar B N))) (G, s) := s40 hd hw hv hb hn 
theorem t42 {d : Nat} {Q : Option AV → XH → Prop} {G : XS} {s : ZS} {W : Int} {B : ZS} {N R T : Int} {k ix : Int} (hd : 2 ≤ d) (hw : WOK G W) (hv : CV s W B N R T) (hb : OKB B N) (hn : 0 ≤ N ∧ N ≤ 40 ∧ 0 ≤ R ∧ R ≤ 10 ∧ 0 ≤ T ∧ T ≤ 20000) (hk : 0 ≤ k ∧ k ≤ 5) (hi : ir ix) : Call d 42 [zrf W, zint k, zint ix] (G, s) Q = Q (some (zint (wn B N k ix))) (G, s) := s42 hd hw hv hb hn hk hi
theorem s43 {d : Nat} {Q : Option AV → XH → Prop} {G : XS} {s : ZS} {W : Int} {B : ZS} {N R T : Int} {k ix : Int} (hd : 3 ≤ d) (hw : WOK G W) (hv : CV s W B N R T) (hb : OKB B N) (hn : 0 ≤ N ∧ N ≤ 40 ∧ 0 ≤ R ∧ R ≤ 10 ∧ 0 ≤ T ∧ T ≤ 20000) (hk : 0 ≤ k ∧ k ≤ 5) (hi : ir ix) : Call d 43 [zrf W, zint k, zint ix] (G, s) Q = Q (some (zint (bi (k < 5 ∧ R < wn B N k ix)))) (G, s) := by
  have hw' := hw
  obtain ⟨w1, w2, w3, w4, w5, w6, w7, w8, w9, w10, w11, w12, w13, w14, w15, w16, w17, w18, w19, w20, w21, w22, w23, w24, w25⟩ := hw'
  have hv' := hv
  obtain ⟨v1, v2, v3, vB⟩ := hv'
  have wb := wn_b (B := B) (N := N) (k := k) (ix := ix) hn.1
  rw [e43 (show 1 ≤ d by omega)]
  by_cases q : k < 5
  · by_cases q2 : R < wn B N k ix
    · simp (disch := first | omega | exact rfl) only [↓u43_0, ↓u43_1, ↓u43_2, ↓u43_5, ↓u43_6, ↓u43_7, ↓u43_8, ↓u43_11, ↓u43_12, ↓u43_15, ↓u43_18, ↓u43_19, ↓u43_22, ↓u43_23, lI_0, lI_s, lL_0, lL_s, lR_0, lR_s, sT_0, sT_i, sT_r, sT_u, sT_lu, sU_0, sU_i, sU_r, sU_u, zws_i, zws_r, zws_l, zws_n, zCb_kc, xl_ll, xr_rr, xs_e, xset_e, Option.toList, List.cons_append, List.nil_append, zIb_e, zrng_e, nz_e, if_pos, if_neg, and_true, true_and, or_true, true_or, ite_self, bi_eq0, bi_eq1, bi_1, bi_0, bi_ir, bi_T, bi_F, up_eq, up_ne, ↓reduceIte, reduceIte, Nat.reduceAdd, Nat.reduceLeDiff, Nat.le_refl, Nat.zero_le, not_true_eq_false, not_false_eq_true, ne_eq, Int.reduceEq, Int.reduceLT, Int.reduceLE, Int.reduceAdd, Int.reduceSub, Int.reduceMul, Int.reduceNeg, pT w1, w2, pT w3, w4, w5, w6, v1, v2, v3, vB, t42 (show 2 ≤ d - 1 by omega) hw hv hb hn hk hi]
    · simp (disch := first | omega | exact rfl) only [↓u43_0, ↓u43_1, ↓u43_2, ↓u43_5, ↓u43_6, ↓u43_7, ↓u43_8, ↓u43_11, ↓u43_12, ↓u43_15, ↓u43_18, ↓u43_19, ↓u43_22, ↓u43_23, lI_0, lI_s, lL_0, lL_s, lR_0, lR_s, sT_0, sT_i, sT_r, sT_u, sT_lu, sU_0, sU_i, sU_r, sU_u, zws_i, zws_r, zws_l, zws_n, zCb_kc, xl_ll, xr_rr, xs_e, xset_e, Option.toList, List.cons_append, List.nil_append, zIb_e, zrng_e, nz_e, if_pos, if_neg, and_true, true_and, or_true, true_or, ite_self, bi_eq0, bi_eq1, bi_1, bi_0, bi_ir, bi_T, bi_F, up_eq, up_ne, ↓reduceIte, reduceIte, Nat.reduceAdd, Nat.reduceLeDiff, Nat.le_refl, Nat.zero_le, not_true_eq_false, not_false_eq_true, ne_eq, Int.reduceEq, Int.reduceLT, Int.reduceLE, Int.reduceAdd, Int.reduceSub, Int.reduceMul, Int.reduceNeg, pT w1, w2, pT w3, w4, w5, w6, v1, v2, v3, vB, t42 (show 2 ≤ d - 1 by omega) hw hv hb hn hk hi]
  · simp (disch := first | omega | exact rfl) only [↓u43_0, ↓u43_1, ↓u43_2, ↓u43_5, ↓u43_6, ↓u43_7, ↓u43_8, ↓u43_11, ↓u43_12, ↓u43_15, ↓u43_18, ↓u43_19, ↓u43_22, ↓u43_23, lI_0, lI_s, lL_0, lL_s, lR_0, lR_s, sT_0, sT_i, sT_r, sT_u, sT_lu, sU_0, sU_i, sU_r, sU_u, zws_i, zws_r, zws_l, zws_n, zCb_kc, xl_ll, xr_rr, xs_e, xset_e, Option.toList, List.cons_append, List.nil_append, zIb_e, zrng_e, nz_e, if_pos, if_neg, and_true, true_and, or_true, true_or, ite_self, bi_eq0, bi_eq1, bi_1, bi_0, bi_ir, bi_T, bi_F, up_eq, up_ne, ↓reduceIte, reduceIte, Nat.reduceAdd, Nat.reduceLeDiff, Nat.le_refl, Nat.zero_le, not_true_eq_false, not_false_eq_true, ne_eq, Int.reduceEq, Int.reduceLT, Int.reduceLE, Int.reduceAdd, Int.reduceSub, Int.reduceMul, Int.reduceNeg, pT w1, w2, pT w3, w4, w5, w6, v1, v2, v3, vB, t42 (show 2 ≤ d - 1 by omega) hw hv hb hn hk hi]
theorem s46 {d : Nat} {Q : Option AV → XH → Prop} {G : XS} {s : ZS} {o : Int} {k ix z : Int} (hd : 2 ≤ d) (hk : kc G o 0) (hb : okb s o) (h : 0 ≤ k ∧ k ≤ 5) (hi : ir ix) (hz : z = 0 ∨ (z = 1 ∧ k < 5)) : Call d 46 [zrf o, zint k, zint ix, zint z] (G, s) Q = Q (some (zint (bi ((s o 8 = 1 ∧ wi (s o 2) (s o 3) (s o 4) (s o 5) k = ix) ∧ ¬(z = 1 ∧ 0 ≤ wi (s o 2) (s o 3) (s o 4) (s o 5) (k + 1)))))) (G, s) := by
  rw [e46 (show 1 ≤ d by omega)]
  have wb := wi_b (x := s o 2) (y := s o 3) (w := s o 4) (h := s o 5) h (by omega)
  by_cases q : (s o 8 = 1 ∧ wi (s o 2) (s o 3) (s o 4) (s o 5) k = ix)
  · rcases hz with e | e
    · simp (disch := first | omega | exact rfl) only [↓u46_0, ↓u46_1, ↓u46_4, ↓u46_5, ↓u46_6, ↓u46_7, ↓u46_8, ↓u46_11, ↓u46_14, ↓u46_15, ↓u46_18, ↓u46_19, ↓u46_21, ↓u46_22, ↓u46_25, ↓u46_28, ↓u46_29, ↓u46_30, ↓u46_33, ↓u46_34, ↓u46_37, ↓u46_39, ↓u46_42, ↓u46_43, ↓u46_46, ↓u46_47, lI_0, lI_s, lL_0, lL_s, lR_0, lR_s, sT_0, sT_i, sT_r, sT_u, sT_lu, sU_0, sU_i, sU_r, sU_u, zws_i, zws_r, zws_l, zws_n, zCb_kc, xl_ll, xr_rr, xs_e, xset_e, Option.toList, List.cons_append, List.nil_append, zIb_e, zrng_e, nz_e, if_pos, if_neg, and_true, true_and, or_true, true_or, ite_self, bi_eq0, bi_eq1, bi_1, bi_0, bi_ir, bi_T, bi_F, up_eq, up_ne, ↓reduceIte, reduceIte, Nat.reduceAdd, Nat.reduceLeDiff, Nat.le_refl, Nat.zero_le, not_true_eq_false, not_false_eq_true, ne_eq, Int.reduceEq, Int.reduceLT, Int.reduceLE, Int.reduceAdd, Int.reduceSub, Int.reduceMul, Int.reduceNeg, pT hk, s13 (show 1 ≤ d - 1 by omega) hk hb h]
    · have wb2 := wi_b (x := s o 2) (y := s o 3) (w := s o 4) (h := s o 5) (k := k + 1) (by omega) (by omega)
      by_cases q2 : 0 ≤ wi (s o 2) (s o 3) (s o 4) (s o 5) (k + 1)
      · simp (disch := first | omega | exact rfl) only [↓u46_0, ↓u46_1, ↓u46_4, ↓u46_5, ↓u46_6, ↓u46_7, ↓u46_8, ↓u46_11, ↓u46_14, ↓u46_15, ↓u46_18, ↓u46_19, ↓u46_21, ↓u46_22, ↓u46_25, ↓u46_28, ↓u46_29, ↓u46_30, ↓u46_33, ↓u46_34, ↓u46_37, ↓u46_39, ↓u46_42, ↓u46_43, ↓u46_46, ↓u46_47, lI_0, lI_s, lL_0, lL_s, lR_0, lR_s, sT_0, sT_i, sT_r, sT_u, sT_lu, sU_0, sU_i, sU_r, sU_u, zws_i, zws_r, zws_l, zws_n, zCb_kc, xl_ll, xr_rr, xs_e, xset_e, Option.toList, List.cons_append, List.nil_append, zIb_e, zrng_e, nz_e, if_pos, if_neg, and_true, true_and, or_true, true_or, ite_self, bi_eq0, bi_eq1, bi_1, bi_0, bi_ir, bi_T, bi_F, up_eq, up_ne, ↓reduceIte, reduceIte, Nat.reduceAdd, Nat.reduceLeDiff, Nat.le_refl, Nat.zero_le, not_true_eq_false, not_false_eq_true, ne_eq, Int.reduceEq, Int.reduceLT, Int.reduceLE, Int.reduceAdd, Int.reduceSub, Int.reduceMul, Int.reduceNeg, pT hk, s13 (show 1 ≤ d - 1 by omega) hk hb h, s13 (show 1 ≤ d - 1 by omega) hk hb (show 0 ≤ k + 1 ∧ k + 1 ≤ 5 by omega)]
      · simp (disch := first | omega | exact rfl) only [↓u46_0, ↓u46_1, ↓u46_4, ↓u46_5, ↓u46_6, ↓u46_7, ↓u46_8, ↓u46_11, ↓u46_14, ↓u46_15, ↓u46_18, ↓u46_19, ↓u46_21, ↓u46_22, ↓u46_25, ↓u46_28, ↓u46_29, ↓u46_30, ↓u46_33, ↓u46_34, ↓u46_37, ↓u46_39, ↓u46_42, ↓u46_43, ↓u46_46, ↓u46_47, lI_0, lI_s, lL_0, lL_s, lR_0, lR_s, sT_0, sT_i, sT_r, sT_u, sT_lu, sU_0, sU_i, sU_r, sU_u, zws_i, zws_r, zws_l, zws_n, zCb_kc, xl_ll, xr_rr, xs_e, xset_e, Option.toList, List.cons_append, List.nil_append, zIb_e, zrng_e, nz_e, if_pos, if_neg, and_true, true_and, or_true, true_or, ite_self, bi_eq0, bi_eq1, bi_1, bi_0, bi_ir, bi_T, bi_F, up_eq, up_ne, ↓reduceIte, reduceIte, Nat.reduceAdd, Nat.reduceLeDiff, Nat.le_refl, Nat.zero_le, not_true_eq_false, not_false_eq_true, ne_eq, Int.reduceEq, Int.reduceLT, Int.reduceLE, Int.reduceAdd, Int.reduceSub, Int.reduceMul, Int.reduceNeg, pT hk, s13 (show 1 ≤ d - 1 by omega) hk hb h, s13 (show 1 ≤ d - 1 by omega) hk hb (show 0 ≤ k + 1 ∧ k + 1 ≤ 5 by omega)]
  · rcases hz with e | e
    · simp (disch := first | omega | exact rfl) only [↓u46_0, ↓u46_1, ↓u46_4, ↓u46_5, ↓u46_6, ↓u46_7, ↓u46_8, ↓u46_11, ↓u46_14, ↓u46_15, ↓u46_18, ↓u46_19, ↓u46_21, ↓u46_22, ↓u46_25, ↓u46_28, ↓u46_29, ↓u46_30, ↓u46_33, ↓u46_34, ↓u46_37, ↓u46_39, ↓u46_42, ↓u46_43, ↓u46_46, ↓u46_47, lI_0, lI_s, lL_0, lL_s, lR_0, lR_s, sT_0, sT_i, sT_r, sT_u, sT_lu, sU_0, sU_i, sU_r, sU_u, zws_i, zws_r, zws_l, zws_n, zCb_kc, xl_ll, xr_rr, xs_e, xset_e, Option.toList, List.cons_append, List.nil_append, zIb_e, zrng_e, nz_e, if_pos, if_neg, and_true, true_and, or_true, true_or, ite_self, bi_eq0, bi_eq1, bi_1, bi_0, bi_ir, bi_T, bi_F, up_eq, up_ne, ↓reduceIte, reduceIte, Nat.reduceAdd, Nat.reduceLeDiff, Nat.le_refl, Nat.zero_le, not_true_eq_false, not_false_eq_true, ne_eq, Int.reduceEq, Int.reduceLT, Int.reduceLE, Int.reduceAdd, Int.reduceSub, Int.reduceMul, Int.reduceNeg, pT hk, s13 (show 1 ≤ d - 1 by omega) hk hb h]
    · have wb2 := wi_b (x := s o 2) (y := s o 3) (w := s o 4) (h := s o 5) (k := k + 1) (by omega) (by omega)
      simp (disch := first | omega | exact rfl) only [↓u46_0, ↓u46_1, ↓u46_4, ↓u46_5, ↓u46_6, ↓u46_7, ↓u46_8, ↓u46_11, ↓u46_14, ↓u46_15, ↓u46_18, ↓u46_19, ↓u46_21, ↓u46_22, ↓u46_25, ↓u46_28, ↓u46_29, ↓u46_30, ↓u46_33, ↓u46_34, ↓u46_37, ↓u46_39, ↓u46_42, ↓u46_43, ↓u46_46, ↓u46_47, lI_0, lI_s, lL_0, lL_s, lR_0, lR_s, sT_0, sT_i, sT_r, sT_u, sT_lu, sU_0, sU_i, sU_r, sU_u, zws_i, zws_r, zws_l, zws_n, zCb_kc, xl_ll, xr_rr, xs_e, xset_e, Option.toList, List.cons_append, List.nil_append, zIb_e, zrng_e, nz_e, if_pos, if_neg, and_true, true_and, or_true, true_or, ite_self, bi_eq0, bi_eq1, bi_1, bi_0, bi_ir, bi_T, bi_F, up_eq, up_ne, ↓reduceIte, reduceIte, Nat.reduceAdd, Nat.reduceLeDiff, Nat.le_refl, Nat.zero_le, not_true_eq_false, not_false_eq_true, ne_eq, Int.reduceEq, Int.reduceLT, Int.reduceLE, Int.reduceAdd, Int.reduceSub, Int.reduceMul, Int.reduceNeg, pT hk, s13 (show 1 ≤ d - 1 by omega) hk hb h, s13 (show 1 ≤ d - 1 by omega) hk hb (show 0 ≤ k + 1 ∧ k + 1 ≤ 5 by omega)]
noncomputable def kthn (p : Int → Prop) : Nat → Int → Int → Int
  | 0, _, _ => -5
  | n + 1, i, m => @ite Int (p i) (Classical.propDecidable _) (if m = 0 then i else kthn p n (i + 1) (m - 1)) (kthn p n (i + 1) m)
noncomputable def kth (p : Int → Prop) (i N m : Int) : Int := kthn p (N - i).toNat i m
theorem kth_e {p : Int → Prop} {i N m : Int} (h : N ≤ i) : kth p i N m = -5 := by
  unfold kth
  rw [show (N - i).toNat = 0 by omega]
  rfl
theorem kth_n {p : Int → Prop} {i N m : Int} (h : i < N) (q : ¬p i) : kth p i N m = kth p (i + 1) N m := by
  unfold kth
  rw [show (N - i).toNat = (N - (i + 1)).toNat + 1 by omega]
  exact if_neg q
theorem kth_z {p : Int → Prop} {i N m : Int} (h : i < N) (q : p i) (hm : m = 0) : kth p i N m = i := by
  unfold kth
  rw [show (N - i).toNat = (N - (i + 1)).toNat + 1 by omega]
  show @ite Int (p i) (Classical.propDecidable _) _ _ = _
  rw [if_pos q, if_pos hm]
theorem kth_s {p : Int → Prop} {i N m : Int} (h : i < N) (q : p i) (hm : m ≠ 0) : kth p i N m = kth p (i + 1) N (m - 1) := by
  unfold kth
  rw [show (N - i).toNat = (N - (i + 1)).toNat + 1 by omega]
  show @ite Int (p i) (Classical.propDecidable _) _ _ = _
  rw [if_pos q, if_neg hm]
theorem l47 {d : Nat} {Q : Option AV → XH → Prop} {G : XS} {s : ZS} {W : Int} {B : ZS} {N R T : Int} {k ix z : Int} (hd : 3 ≤ d) (hw : WOK G W) (hv : CV s W B N R T) (hb : OKB B N) (hn : 0 ≤ N ∧ N ≤ 40 ∧ 0 ≤ R ∧ R ≤ 10 ∧ 0 ≤ T ∧ T ≤ 20000) (hk : 0 ≤ k ∧ k ≤ 5) (hi : ir ix) (hz : z = 0 ∨ (z = 1 ∧ k < 5)) : ∀ i, 0 ≤ i → i ≤ N → ∀ a, 0 ≤ a → a ≤ i → Wp (d - 1) 47 (13, [zrf W, zint k, zint ix, zint z, zint a, zint i], [], (G, s)) Q = Q (some (zint (a + sm (fun j => bi ((B j 8 = 1 ∧ wi (B j 2) (B j 3) (B j 4) (B j 5) k = ix) ∧ ¬(z = 1 ∧ 0 ≤ wi (B j 2) (B j 3) (B j 4) (B j 5) (k + 1)))) i N))) (G, s) := by
  have hw' := hw
  obtain ⟨w1, w2, w3, w4, w5, w6, w7, w8, w9, w10, w11, w12, w13, w14, w15, w16, w17, w18, w19, w20, w21, w22, w23, w24, w25⟩ := hw'
  have hv' := hv
  obtain ⟨v1, v2, v3, vB⟩ := hv'
  refine dn (P := fun i => ∀ a, 0 ≤ a → a ≤ i → Wp (d - 1) 47 (13, [zrf W, zint k, zint ix, zint z, zint a, zint i], [], (G, s)) Q = Q (some (zint (a + sm (fun j => bi ((B j 8 = 1 ∧ wi (B j 2) (B j 3) (B j 4) (B j 5) k = ix) ∧ ¬(z = 1 ∧ 0 ≤ wi (B j 2) (B j 3) (B j 4) (B j 5) (k + 1)))) i N))) (G, s)) ?_ ?_
  · intro a ha0 ha1
    rw [sm_e (Int.le_refl N), u47_13]
    simp (disch := first | omega | exact rfl) only [↓u47_0, ↓u47_1, ↓u47_2, ↓u47_3, ↓u47_6, ↓u47_7, ↓u47_8, ↓u47_10, ↓u47_11, ↓u47_15, ↓u47_16, ↓u47_19, ↓u47_22, ↓u47_23, ↓u47_26, ↓u47_28, ↓u47_29, ↓u47_30, ↓u47_31, ↓u47_32, ↓u47_35, ↓u47_38, ↓u47_41, ↓u47_44, ↓u47_47, ↓u47_49, lI_0, lI_s, lL_0, lL_s, lR_0, lR_s, sT_0, sT_i, sT_r, sT_u, sT_lu, sU_0, sU_i, sU_r, sU_u, zws_i, zws_r, zws_l, zws_n, zCb_kc, xl_ll, xr_rr, xs_e, xset_e, Option.toList, List.cons_append, List.nil_append, zIb_e, zrng_e, nz_e, if_pos, if_neg, and_true, true_and, or_true, true_or, ite_self, bi_eq0, bi_eq1, bi_1, bi_0, bi_ir, bi_T, bi_F, up_eq, up_ne, ↓reduceIte, reduceIte, Nat.reduceAdd, Nat.reduceLeDiff, Nat.le_refl, Nat.zero_le, not_true_eq_false, not_false_eq_true, ne_eq, Int.reduceEq, Int.reduceLT, Int.reduceLE, Int.reduceAdd, Int.reduceSub, Int.reduceMul, Int.reduceNeg, pT w1, w2, pT w3, w4, w5, w6, v1, v2, v3, vB]
    all_goals exact qq (by omega)
  · intro i h0 h1 ih a ha0 ha1
    have b := hb i ⟨h0, h1⟩
    have k1 := w6 i (by omega)
    have k2 := okb_o (G := G) hv hb ⟨h0, h1⟩
    rw [u47_13, sm_s h1]
    by_cases q : (B i 8 = 1 ∧ wi (B i 2) (B i 3) (B i 4) (B i 5) k = ix) ∧ ¬(z = 1 ∧ 0 ≤ wi (B i 2) (B i 3) (B i 4) (B i 5) (k + 1))
    · simp (disch := first | omega | exact rfl) only [↓u47_0, ↓u47_1, ↓u47_2, ↓u47_3, ↓u47_6, ↓u47_7, ↓u47_8, ↓u47_10, ↓u47_11, ↓u47_15, ↓u47_16, ↓u47_19, ↓u47_22, ↓u47_23, ↓u47_26, ↓u47_28, ↓u47_29, ↓u47_30, ↓u47_31, ↓u47_32, ↓u47_35, ↓u47_38, ↓u47_41, ↓u47_44, ↓u47_47, ↓u47_49, lI_0, lI_s, lL_0, lL_s, lR_0, lR_s, sT_0, sT_i, sT_r, sT_u, sT_lu, sU_0, sU_i, sU_r, sU_u, zws_i, zws_r, zws_l, zws_n, zCb_kc, xl_ll, xr_rr, xs_e, xset_e, Option.toList, List.cons_append, List.nil_append, zIb_e, zrng_e, nz_e, if_pos, if_neg, and_true, true_and, or_true, true_or, ite_self, bi_eq0, bi_eq1, bi_1, bi_0, bi_ir, bi_T, bi_F, up_eq, up_ne, ↓reduceIte, reduceIte, Nat.reduceAdd, Nat.reduceLeDiff, Nat.le_refl, Nat.zero_le, not_true_eq_false, not_false_eq_true, ne_eq, Int.reduceEq, Int.reduceLT, Int.reduceLE, Int.reduceAdd, Int.reduceSub, Int.reduceMul, Int.reduceNeg, pT w1, w2, pT w3, w4, w5, w6, v1, v2, v3, vB, ih, s46 (show 2 ≤ d - 1 by omega) k1 k2 hk hi hz]
      all_goals exact qq (by omega)
    · simp (disch := first | omega | exact rfl) only [↓u47_0, ↓u47_1, ↓u47_2, ↓u47_3, ↓u47_6, ↓u47_7, ↓u47_8, ↓u47_10, ↓u47_11, ↓u47_15, ↓u47_16, ↓u47_19, ↓u47_22, ↓u47_23, ↓u47_26, ↓u47_28, ↓u47_29, ↓u47_30, ↓u47_31, ↓u47_32, ↓u47_35, ↓u47_38, ↓u47_41, ↓u47_44, ↓u47_47, ↓u47_49, lI_0, lI_s, lL_0, lL_s, lR_0, lR_s, sT_0, sT_i, sT_r, sT_u, sT_lu, sU_0, sU_i, sU_r, sU_u, zws_i, zws_r, zws_l, zws_n, zCb_kc, xl_ll, xr_rr, xs_e, xset_e, Option.toList, List.cons_append, List.nil_append, zIb_e, zrng_e, nz_e, if_pos, if_neg, and_true, true_and, or_true, true_or, ite_self, bi_eq0, bi_eq1, bi_1, bi_0, bi_ir, bi_T, bi_F, up_eq, up_ne, ↓reduceIte, reduceIte, Nat.reduceAdd, Nat.reduceLeDiff, Nat.le_refl, Nat.zero_le, not_true_eq_false, not_false_eq_true, ne_eq, Int.reduceEq, Int.reduceLT, Int.reduceLE, Int.reduceAdd, Int.reduceSub, Int.reduceMul, Int.reduceNeg, pT w1, w2, pT w3, w4, w5, w6, v1, v2, v3, vB, ih, s46 (show 2 ≤ d - 1 by omega) k1 k2 hk hi hz]
      all_goals exact qq (by omega)
theorem l48 {d : Nat} {Q : Option AV → XH → Prop} {G : XS} {s : ZS} {W : Int} {B : ZS} {N R T : Int} {k ix z : Int} (hd : 3 ≤ d) (hw : WOK G W) (hv : CV s W B N R T) (hb : OKB B N) (hn : 0 ≤ N ∧ N ≤ 40 ∧ 0 ≤ R ∧ R ≤ 10 ∧ 0 ≤ T ∧ T ≤ 20000) (hk : 0 ≤ k ∧ k ≤ 5) (hi : ir ix) (hz : z = 0 ∨ (z = 1 ∧ k < 5)) : ∀ i, 0 ≤ i → i ≤ N → Wp (d - 1) 48 (10, [zrf W, zint k, zint ix, zint z, zint i], [], (G, s)) Q = Q (some (zint (kth (fun j => (B j 8 = 1 ∧ wi (B j 2) (B j 3) (B j 4) (B j 5) k = ix) ∧ ¬(z = 1 ∧ 0 ≤ wi (B j 2) (B j 3) (B j 4) (B j 5) (k + 1))) i N 0))) (G, s) := by
  have hw' := hw
  obtain ⟨w1, w2, w3, w4, w5, w6, w7, w8, w9, w10, w11, w12, w13, w14, w15, w16, w17, w18, w19, w20, w21, w22, w23, w24, w25⟩ := hw'
  have hv' := hv
  obtain ⟨v1, v2, v3, vB⟩ := hv'
  refine dn (P := fun i => Wp (d - 1) 48 (10, [zrf W, zint k, zint ix, zint z, zint i], [], (G, s)) Q = Q (some (zint (kth (fun j => (B j 8 = 1 ∧ wi (B j 2) (B j 3) (B j 4) (B j 5) k = ix) ∧ ¬(z = 1 ∧ 0 ≤ wi (B j 2) (B j 3) (B j 4) (B j 5) (k + 1))) i N 0))) (G, s)) ?_ ?_
  · rw [kth_e (Int.le_refl N), u48_10]
    simp (disch := first | omega | exact rfl) only [↓u48_0, ↓u48_1, ↓u48_2, ↓u48_3, ↓u48_6, ↓u48_7, ↓u48_8, ↓u48_12, ↓u48_13, ↓u48_16, ↓u48_19, ↓u48_20, ↓u48_23, ↓u48_25, ↓u48_26, ↓u48_27, ↓u48_28, ↓u48_29, ↓u48_32, ↓u48_35, ↓u48_37, ↓u48_38, ↓u48_41, ↓u48_44, ↓u48_46, lI_0, lI_s, lL_0, lL_s, lR_0, lR_s, sT_0, sT_i, sT_r, sT_u, sT_lu, sU_0, sU_i, sU_r, sU_u, zws_i, zws_r, zws_l, zws_n, zCb_kc, xl_ll, xr_rr, xs_e, xset_e, Option.toList, List.cons_append, List.nil_append, zIb_e, zrng_e, nz_e, if_pos, if_neg, and_true, true_and, or_true, true_or, ite_self, bi_eq0, bi_eq1, bi_1, bi_0, bi_ir, bi_T, bi_F, up_eq, up_ne, ↓reduceIte, reduceIte, Nat.reduceAdd, Nat.reduceLeDiff, Nat.le_refl, Nat.zero_le, not_true_eq_false, not_false_eq_true, ne_eq, Int.reduceEq, Int.reduceLT, Int.reduceLE, Int.reduceAdd, Int.reduceSub, Int.reduceMul, Int.reduceNeg, pT w1, w2, pT w3, w4, w5, w6, v1, v2, v3, vB]
  · intro i h0 h1 ih
    have b := hb i ⟨h0, h1⟩
    have k1 := w6 i (by omega)
    have k2 := okb_o (G := G) hv hb ⟨h0, h1⟩
    rw [u48_10]
    by_cases q : (B i 8 = 1 ∧ wi (B i 2) (B i 3) (B i 4) (B i 5) k = ix) ∧ ¬(z = 1 ∧ 0 ≤ wi (B i 2) (B i 3) (B i 4) (B i 5) (k + 1))
    · rw [kth_z h1 q rfl]
      simp (disch := first | omega | exact rfl) only [↓u48_0, ↓u48_1, ↓u48_2, ↓u48_3, ↓u48_6, ↓u48_7, ↓u48_8, ↓u48_12, ↓u48_13, ↓u48_16, ↓u48_19, ↓u48_20, ↓u48_23, ↓u48_25, ↓u48_26, ↓u48_27, ↓u48_28, ↓u48_29, ↓u48_32, ↓u48_35, ↓u48_37, ↓u48_38, ↓u48_41, ↓u48_44, ↓u48_46, lI_0, lI_s, lL_0, lL_s, lR_0, lR_s, sT_0, sT_i, sT_r, sT_u, sT_lu, sU_0, sU_i, sU_r, sU_u, zws_i, zws_r, zws_l, zws_n, zCb_kc, xl_ll, xr_rr, xs_e, xset_e, Option.toList, List.cons_append, List.nil_append, zIb_e, zrng_e, nz_e, if_pos, if_neg, and_true, true_and, or_true, true_or, ite_self, bi_eq0, bi_eq1, bi_1, bi_0, bi_ir, bi_T, bi_F, up_eq, up_ne, ↓reduceIte, reduceIte, Nat.reduceAdd, Nat.reduceLeDiff, Nat.le_refl, Nat.zero_le, not_true_eq_false, not_false_eq_true, ne_eq, Int.reduceEq, Int.reduceLT, Int.reduceLE, Int.reduceAdd, Int.reduceSub, Int.reduceMul, Int.reduceNeg, pT w1, w2, pT w3, w4, w5, w6, v1, v2, v3, vB, ih, s46 (show 2 ≤ d - 1 by omega) k1 k2 hk hi hz]
    · rw [kth_n h1 q]
      simp (disch := first | omega | exact rfl) only [↓u48_0, ↓u48_1, ↓u48_2, ↓u48_3, ↓u48_6, ↓u48_7, ↓u48_8, ↓u48_12, ↓u48_13, ↓u48_16, ↓u48_19, ↓u48_20, ↓u48_23, ↓u48_25, ↓u48_26, ↓u48_27, ↓u48_28, ↓u48_29, ↓u48_32, ↓u48_35, ↓u48_37, ↓u48_38, ↓u48_41, ↓u48_44, ↓u48_46, lI_0, lI_s, lL_0, lL_s, lR_0, lR_s, sT_0, sT_i, sT_r, sT_u, sT_lu, sU_0, sU_i, sU_r, sU_u, zws_i, zws_r, zws_l, zws_n, zCb_kc, xl_ll, xr_rr, xs_e, xset_e, Option.toList, List.cons_append, List.nil_append, zIb_e, zrng_e, nz_e, if_pos, if_neg, and_true, true_and, or_true, true_or, ite_self, bi_eq0, bi_eq1, bi_1, bi_0, bi_ir, bi_T, bi_F, up_eq, up_ne, ↓reduceIte, reduceIte, Nat.reduceAdd, Nat.reduceLeDiff, Nat.le_refl, Nat.zero_le, not_true_eq_false, not_false_eq_true, ne_eq, Int.reduceEq, Int.reduceLT, Int.reduceLE, Int.reduceAdd, Int.reduceSub, Int.reduceMul, Int.reduceNeg, pT w1, w2, pT w3, w4, w5, w6, v1, v2, v3, vB, ih, s46 (show 2 ≤ d - 1 by omega) k1 k2 hk hi hz]
abbrev inp (B : ZS) (N R k ix j : Int) : Prop := (B j 8 = 1 ∧ wi (B j 2) (B j 3) (B j 4) (B j 5) k = ix) ∧ ¬((k < 5 ∧ R < wn B N k ix) ∧ 0 ≤ wi (B j 2) (B j 3) (B j 4) (B j 5) (k + 1))
theorem bi_z {k : Int} (P : Prop) : bi (k < 5 ∧ P) = 0 ∨ (bi (k < 5 ∧ P) = 1 ∧ k < 5) := by
  rcases Classical.em (k < 5 ∧ P) with h | h
  · exact Or.inr ⟨bi_1 h, h.1⟩
  · exact Or.inl (bi_0 h)
theorem s47 {d : Nat} {Q : Option AV → XH → Prop} {G : XS} {s : ZS} {W : Int} {B : ZS} {N R T : Int} {k ix : Int} (hd : 4 ≤ d) (hw : WOK G W) (hv : CV s W B N R T) (hb : OKB B N) (hn : 0 ≤ N ∧ N ≤ 40 ∧ 0 ≤ R ∧ R ≤ 10 ∧ 0 ≤ T ∧ T ≤ 20000) (hk : 0 ≤ k ∧ k ≤ 5) (hi : ir ix) : Call d 47 [zrf W, zint k, zint ix] (G, s) Q = Q (some (zint (sm (fun j => bi (inp B N R k ix j)) 0 N))) (G, s) := by
  have hw' := hw
  obtain ⟨w1, w2, w3, w4, w5, w6, w7, w8, w9, w10, w11, w12, w13, w14, w15, w16, w17, w18, w19, w20, w21, w22, w23, w24, w25⟩ := hw'
  have hv' := hv
  obtain ⟨v1, v2, v3, vB⟩ := hv'
  rw [e47 (show 1 ≤ d by omega)]
  simp (disch := first | omega | exact rfl) only [↓u47_0, ↓u47_1, ↓u47_2, ↓u47_3, ↓u47_6, ↓u47_7, ↓u47_8, ↓u47_10, ↓u47_11, ↓u47_15, ↓u47_16, ↓u47_19, ↓u47_22, ↓u47_23, ↓u47_26, ↓u47_28, ↓u47_29, ↓u47_30, ↓u47_31, ↓u47_32, ↓u47_35, ↓u47_38, ↓u47_41, ↓u47_44, ↓u47_47, ↓u47_49, lI_0, lI_s, lL_0, lL_s, lR_0, lR_s, sT_0, sT_i, sT_r, sT_u, sT_lu, sU_0, sU_i, sU_r, sU_u, zws_i, zws_r, zws_l, zws_n, zCb_kc, xl_ll, xr_rr, xs_e, xset_e, Option.toList, List.cons_append, List.nil_append, zIb_e, zrng_e, nz_e, if_pos, if_neg, and_true, true_and, or_true, true_or, ite_self, bi_eq0, bi_eq1, bi_1, bi_0, bi_ir, bi_T, bi_F, up_eq, up_ne, ↓reduceIte, reduceIte, Nat.reduceAdd, Nat.reduceLeDiff, Nat.le_refl, Nat.zero_le, not_true_eq_false, not_false_eq_true, ne_eq, Int.reduceEq, Int.reduceLT, Int.reduceLE, Int.reduceAdd, Int.reduceSub, Int.reduceMul, Int.reduceNeg, pT w1, w2, pT w3, w4, w5, w6, v1, v2, v3, vB, s43 (show 3 ≤ d - 1 by omega) hw hv hb hn hk hi, l47 (show 3 ≤ d by omega) hw hv hb hn hk hi (bi_z _) 0 (Int.le_refl 0) hn.1, Int.zero_add]
theorem s48 {d : Nat} {Q : Option AV → XH → Prop} {G : XS} {s : ZS} {W : Int} {B : ZS} {N R T : Int} {k ix : Int} (hd : 4 ≤ d) (hw : WOK G W) (hv : CV s W B N R T) (hb : OKB B N) (hn : 0 ≤ N ∧ N ≤ 40 ∧ 0 ≤ R ∧ R ≤ 10 ∧ 0 ≤ T ∧ T ≤ 20000) (hk : 0 ≤ k ∧ k ≤ 5) (hi : ir ix) : Call d 48 [zrf W, zint k, zint ix] (G, s) Q = Q (some (zint (kth (fun j => inp B N R k ix j) 0 N 0))) (G, s) := by
  have hw' := hw
  obtain ⟨w1, w2, w3, w4, w5, w6, w7, w8, w9, w10, w11, w12, w13, w14, w15, w16, w17, w18, w19, w20, w21, w22, w23, w24, w25⟩ := hw'
  have hv' := hv
  obtain ⟨v1, v2, v3, vB⟩ := hv'
  rw [e48 (show 1 ≤ d by omega)]
  simp (disch := first | omega | exact rfl) only [↓u48_0, ↓u48_1, ↓u48_2, ↓u48_3, ↓u48_6, ↓u48_7, ↓u48_8, ↓u48_12, ↓u48_13, ↓u48_16, ↓u48_19, ↓u48_20, ↓u48_23, ↓u48_25, ↓u48_26, ↓u48_27, ↓u48_28, ↓u48_29, ↓u48_32, ↓u48_35, ↓u48_37, ↓u48_38, ↓u48_41, ↓u48_44, ↓u48_46, lI_0, lI_s, lL_0, lL_s, lR_0, lR_s, sT_0, sT_i, sT_r, sT_u, sT_lu, sU_0, sU_i, sU_r, sU_u, zws_i, zws_r, zws_l, zws_n, zCb_kc, xl_ll, xr_rr, xs_e, xset_e, Option.toList, List.cons_append, List.nil_append, zIb_e, zrng_e, nz_e, if_pos, if_neg, and_true, true_and, or_true, true_or, ite_self, bi_eq0, bi_eq1, bi_1, bi_0, bi_ir, bi_T, bi_F, up_eq, up_ne, ↓reduceIte, reduceIte, Nat.reduceAdd, Nat.reduceLeDiff, Nat.le_refl, Nat.zero_le, not_true_eq_false, not_false_eq_true, ne_eq, Int.reduceEq, Int.reduceLT, Int.reduceLE, Int.reduceAdd, Int.reduceSub, Int.reduceMul, Int.reduceNeg, pT w1, w2, pT w3, w4, w5, w6, v1, v2, v3, vB, s43 (show 3 ≤ d - 1 by omega) hw hv hb hn hk hi, l48 (show 3 ≤ d by omega) hw hv hb hn hk hi (bi_z _) 0 (Int.le_refl 0) hn.1]
