/-! the class World: pairs by number, cells, a step, what is taken over -/
set_option maxRecDepth 8000 in
theorem qr {Q : Option AV → XH → Prop} {r : Option AV} {h h' : XH} (e : h = h') : Q r h = Q r h' := by rw [e]
noncomputable def pnn (B : ZS) (N k : Int) : Nat → Int → Int → Int
  | 0, _, _ => -5
  | n + 1, a, p => if B a 8 = 1 ∧ B a 1 = 0 then (if k - p < mtg B N a then 100 * a + kth (fun j => B j 8 = 1 ∧ mt B a j) 0 N (k - p) else pnn B N k n (a + 1) (p + mtg B N a)) else pnn B N k n (a + 1) p
noncomputable def pn (B : ZS) (N k a p : Int) : Int := pnn B N k (N - a).toNat a p
set_option maxRecDepth 8000 in
theorem pn_e {B : ZS} {N k a p : Int} (h : N ≤ a) : pn B N k a p = -5 := by
  unfold pn
  rw [show (N - a).toNat = 0 by omega]
  rfl
set_option maxRecDepth 8000 in
theorem pn_y {B : ZS} {N k a p : Int} (h : a < N) (q : B a 8 = 1 ∧ B a 1 = 0) (e : k - p < mtg B N a) : pn B N k a p = 100 * a + kth (fun j => B j 8 = 1 ∧ mt B a j) 0 N (k - p) := by
  unfold pn
  rw [show (N - a).toNat = (N - (a + 1)).toNat + 1 by omega]
  unfold pnn
  rw [if_pos q, if_pos e]
set_option maxRecDepth 8000 in
theorem pn_s {B : ZS} {N k a p : Int} (h : a < N) (q : B a 8 = 1 ∧ B a 1 = 0) (e : ¬k - p < mtg B N a) : pn B N k a p = pn B N k (a + 1) (p + mtg B N a) := by
  show pnn B N k (N - a).toNat a p = pn B N k (a + 1) (p + mtg B N a)
  rw [show (N - a).toNat = (N - (a + 1)).toNat + 1 by omega, pnn, if_pos q, if_neg e]
  rfl
set_option maxRecDepth 8000 in
theorem pn_n {B : ZS} {N k a p : Int} (h : a < N) (q : ¬(B a 8 = 1 ∧ B a 1 = 0)) : pn B N k a p = pn B N k (a + 1) p := by
  show pnn B N k (N - a).toNat a p = pn B N k (a + 1) p
  rw [show (N - a).toNat = (N - (a + 1)).toNat + 1 by omega, pnn, if_neg q]
  rfl
set_option maxRecDepth 8000 in
theorem l60 {d : Nat} {Q : Option AV → XH → Prop} {G : XS} {s : ZS} {W : Int} {B : ZS} {N R T : Int} {k m : Int} (hd : 3 ≤ d) (hw : WOK G W) (hv : CV s W B N R T) (hb : OKB B N) (hn : 0 ≤ N ∧ N ≤ 40 ∧ 0 ≤ R ∧ R ≤ 10 ∧ 0 ≤ T ∧ T ≤ 20000) (hk : 0 ≤ k ∧ ir k) (hm : 0 ≤ m ∧ m < N) : ∀ i, 0 ≤ i → i ≤ N → ∀ p, 0 ≤ p → p ≤ 2000 + i → p ≤ k → Wp (d - 1) 60 (42, [zrf W, zint k, zint p, zint m, zint i], [], (G, s)) Q = if k - p < sm (fun j => bi (B j 8 = 1 ∧ mt B m j)) i N then Q (some (zint (100 * m + kth (fun j => B j 8 = 1 ∧ mt B m j) i N (k - p)))) (G, s) else Wp (d - 1) 60 (105, [zrf W, zint k, zint (p + sm (fun j => bi (B j 8 = 1 ∧ mt B m j)) i N), zint m, zint N], [], (G, s)) Q := by
  have hw' := hw
  obtain ⟨w1, w2, w3, w4, w5, w6, w7, w8, w9, w10, w11, w12, w13, w14, w15, w16, w17, w18, w19, w20, w21, w22, w23, w24, w25⟩ := hw'
  have hv' := hv
  obtain ⟨v1, v2, v3, vB⟩ := hv'
  have k3 := w6 m (by omega)
  have k4 := okb_o (G := G) hv hb hm
  refine dn (P := fun i => ∀ p, 0 ≤ p → p ≤ 2000 + i → p ≤ k → Wp (d - 1) 60 (42, [zrf W, zint k, zint p, zint m, zint i], [], (G, s)) Q = if k - p < sm (fun j => bi (B j 8 = 1 ∧ mt B m j)) i N then Q (some (zint (100 * m + kth (fun j => B j 8 = 1 ∧ mt B m j) i N (k - p)))) (G, s) else Wp (d - 1) 60 (105, [zrf W, zint k, zint (p + sm (fun j => bi (B j 8 = 1 ∧ mt B m j)) i N), zint m, zint N], [], (G, s)) Q) ?_ ?_
  · intro p hp0 hp1 hp2
    rw [kth_e (Int.le_refl N), sm_e (Int.le_refl N), u60_42, if_neg (by omega), Int.add_zero]
    simp (disch := first | omega | exact rfl) only [↓u60_0, ↓u60_1, ↓u60_2, ↓u60_3, ↓u60_4, ↓u60_5, ↓u60_6, ↓u60_9, ↓u60_12, ↓u60_13, ↓u60_16, ↓u60_17, ↓u60_18, ↓u60_21, ↓u60_24, ↓u60_25, ↓u60_28, ↓u60_29, ↓u60_30, ↓u60_33, ↓u60_36, ↓u60_39, ↓u60_40, ↓u60_44, ↓u60_45, ↓u60_48, ↓u60_51, ↓u60_52, ↓u60_55, ↓u60_57, ↓u60_58, ↓u60_61, ↓u60_64, ↓u60_65, ↓u60_68, ↓u60_69, ↓u60_70, ↓u60_71, ↓u60_74, ↓u60_76, ↓u60_77, ↓u60_80, ↓u60_83, ↓u60_84, ↓u60_85, ↓u60_88, ↓u60_90, ↓u60_91, ↓u60_92, ↓u60_94, ↓u60_95, ↓u60_96, ↓u60_99, ↓u60_102, ↓u60_108, ↓u60_111, ↓u60_113, lI_0, lI_s, lL_0, lL_s, lR_0, lR_s, sT_0, sT_i, sT_r, sT_u, sT_lu, sU_0, sU_i, sU_r, sU_u, zws_i, zws_r, zws_l, zws_n, zCb_kc, xl_ll, xr_rr, xs_e, xset_e, Option.toList, List.cons_append, List.nil_append, zIb_e, zrng_e, nz_e, if_pos, if_neg, and_true, true_and, or_true, true_or, ite_self, bi_eq0, bi_eq1, bi_1, bi_0, bi_ir, bi_T, bi_F, up_eq, up_ne, ↓reduceIte, reduceIte, Nat.reduceAdd, Nat.reduceLeDiff, Nat.le_refl, Nat.zero_le, not_true_eq_false, not_false_eq_true, ne_eq, Int.reduceEq, Int.reduceLT, Int.reduceLE, Int.reduceAdd, Int.reduceSub, Int.reduceMul, Int.reduceNeg, pT w1, w2, pT w3, w4, w5, w6, v1, v2, v3, vB]
  · intro i h0 h1 ih p hp0 hp1 hp2
    have b := hb i ⟨h0, h1⟩
    have k1 := w6 i (by omega)
    have k2 := okb_o (G := G) hv hb ⟨h0, h1⟩
    have c := cn_b (fun j => B j 8 = 1 ∧ mt B m j) (i + 1) N (by omega)
    rw [u60_42, sm_s h1]
    by_cases q : B i 8 = 1 ∧ mt B m i
    · rw [bi_1 q]
      by_cases e : p = k
      · rw [kth_z h1 q (by omega), if_pos (by omega)]
        simp (disch := first | omega | exact rfl) only [↓u60_0, ↓u60_1, ↓u60_2, ↓u60_3, ↓u60_4, ↓u60_5, ↓u60_6, ↓u60_9, ↓u60_12, ↓u60_13, ↓u60_16, ↓u60_17, ↓u60_18, ↓u60_21, ↓u60_24, ↓u60_25, ↓u60_28, ↓u60_29, ↓u60_30, ↓u60_33, ↓u60_36, ↓u60_39, ↓u60_40, ↓u60_44, ↓u60_45, ↓u60_48, ↓u60_51, ↓u60_52, ↓u60_55, ↓u60_57, ↓u60_58, ↓u60_61, ↓u60_64, ↓u60_65, ↓u60_68, ↓u60_69, ↓u60_70, ↓u60_71, ↓u60_74, ↓u60_76, ↓u60_77, ↓u60_80, ↓u60_83, ↓u60_84, ↓u60_85, ↓u60_88, ↓u60_90, ↓u60_91, ↓u60_92, ↓u60_94, ↓u60_95, ↓u60_96, ↓u60_99, ↓u60_102, ↓u60_108, ↓u60_111, ↓u60_113, lI_0, lI_s, lL_0, lL_s, lR_0, lR_s, sT_0, sT_i, sT_r, sT_u, sT_lu, sU_0, sU_i, sU_r, sU_u, zws_i, zws_r, zws_l, zws_n, zCb_kc, xl_ll, xr_rr, xs_e, xset_e, Option.toList, List.cons_append, List.nil_append, zIb_e, zrng_e, nz_e, if_pos, if_neg, and_true, true_and, or_true, true_or, ite_self, bi_eq0, bi_eq1, bi_1, bi_0, bi_ir, bi_T, bi_F, up_eq, up_ne, ↓reduceIte, reduceIte, Nat.reduceAdd, Nat.reduceLeDiff, Nat.le_refl, Nat.zero_le, not_true_eq_false, not_false_eq_true, ne_eq, Int.reduceEq, Int.reduceLT, Int.reduceLE, Int.reduceAdd, Int.reduceSub, Int.reduceMul, Int.reduceNeg, pT w1, w2, pT w3, w4, w5, w6, v1, v2, v3, vB, ih, s9 (show 2 ≤ d - 1 by omega) k3 k4 k1 k2]
      · rw [kth_s h1 q (by omega), show k - p - 1 = k - (p + 1) by omega, show p + (1 + sm (fun j => bi (B j 8 = 1 ∧ mt B m j)) (i + 1) N) = p + 1 + sm (fun j => bi (B j 8 = 1 ∧ mt B m j)) (i + 1) N by omega]
        by_cases e2 : k - (p + 1) < sm (fun j => bi (B j 8 = 1 ∧ mt B m j)) (i + 1) N
        · rw [if_pos (by omega)]
          simp (disch := first | omega | exact rfl) only [↓u60_0, ↓u60_1, ↓u60_2, ↓u60_3, ↓u60_4, ↓u60_5, ↓u60_6, ↓u60_9, ↓u60_12, ↓u60_13, ↓u60_16, ↓u60_17, ↓u60_18, ↓u60_21, ↓u60_24, ↓u60_25, ↓u60_28, ↓u60_29, ↓u60_30, ↓u60_33, ↓u60_36, ↓u60_39, ↓u60_40, ↓u60_44, ↓u60_45, ↓u60_48, ↓u60_51, ↓u60_52, ↓u60_55, ↓u60_57, ↓u60_58, ↓u60_61, ↓u60_64, ↓u60_65, ↓u60_68, ↓u60_69, ↓u60_70, ↓u60_71, ↓u60_74, ↓u60_76, ↓u60_77, ↓u60_80, ↓u60_83, ↓u60_84, ↓u60_85, ↓u60_88, ↓u60_90, ↓u60_91, ↓u60_92, ↓u60_94, ↓u60_95, ↓u60_96, ↓u60_99, ↓u60_102, ↓u60_108, ↓u60_111, ↓u60_113, lI_0, lI_s, lL_0, lL_s, lR_0, lR_s, sT_0, sT_i, sT_r, sT_u, sT_lu, sU_0, sU_i, sU_r, sU_u, zws_i, zws_r, zws_l, zws_n, zCb_kc, xl_ll, xr_rr, xs_e, xset_e, Option.toList, List.cons_append, List.nil_append, zIb_e, zrng_e, nz_e, if_pos, if_neg, and_true, true_and, or_true, true_or, ite_self, bi_eq0, bi_eq1, bi_1, bi_0, bi_ir, bi_T, bi_F, up_eq, up_ne, ↓reduceIte, reduceIte, Nat.reduceAdd, Nat.reduceLeDiff, Nat.le_refl, Nat.zero_le, not_true_eq_false, not_false_eq_true, ne_eq, Int.reduceEq, Int.reduceLT, Int.reduceLE, Int.reduceAdd, Int.reduceSub, Int.reduceMul, Int.reduceNeg, pT w1, w2, pT w3, w4, w5, w6, v1, v2, v3, vB, ih, s9 (show 2 ≤ d - 1 by omega) k3 k4 k1 k2]
        · rw [if_neg (by omega)]
          simp (disch := first | omega | exact rfl) only [↓u60_0, ↓u60_1, ↓u60_2, ↓u60_3, ↓u60_4, ↓u60_5, ↓u60_6, ↓u60_9, ↓u60_12, ↓u60_13, ↓u60_16, ↓u60_17, ↓u60_18, ↓u60_21, ↓u60_24, ↓u60_25, ↓u60_28, ↓u60_29, ↓u60_30, ↓u60_33, ↓u60_36, ↓u60_39, ↓u60_40, ↓u60_44, ↓u60_45, ↓u60_48, ↓u60_51, ↓u60_52, ↓u60_55, ↓u60_57, ↓u60_58, ↓u60_61, ↓u60_64, ↓u60_65, ↓u60_68, ↓u60_69, ↓u60_70, ↓u60_71, ↓u60_74, ↓u60_76, ↓u60_77, ↓u60_80, ↓u60_83, ↓u60_84, ↓u60_85, ↓u60_88, ↓u60_90, ↓u60_91, ↓u60_92, ↓u60_94, ↓u60_95, ↓u60_96, ↓u60_99, ↓u60_102, ↓u60_108, ↓u60_111, ↓u60_113, lI_0, lI_s, lL_0, lL_s, lR_0, lR_s, sT_0, sT_i, sT_r, sT_u, sT_lu, sU_0, sU_i, sU_r, sU_u, zws_i, zws_r, zws_l, zws_n, zCb_kc, xl_ll, xr_rr, xs_e, xset_e, Option.toList, List.cons_append, List.nil_append, zIb_e, zrng_e, nz_e, if_pos, if_neg, and_true, true_and, or_true, true_or, ite_self, bi_eq0, bi_eq1, bi_1, bi_0, bi_ir, bi_T, bi_F, up_eq, up_ne, ↓reduceIte, reduceIte, Nat.reduceAdd, Nat.reduceLeDiff, Nat.le_refl, Nat.zero_le, not_true_eq_false, not_false_eq_true, ne_eq, Int.reduceEq, Int.reduceLT, Int.reduceLE, Int.reduceAdd, Int.reduceSub, Int.reduceMul, Int.reduceNeg, pT w1, w2, pT w3, w4, w5, w6, v1, v2, v3, vB, ih, s9 (show 2 ≤ d - 1 by omega) k3 k4 k1 k2]
    · rw [bi_0 q, kth_n h1 q, Int.zero_add]
      simp (disch := first | omega | exact rfl) only [↓u60_0, ↓u60_1, ↓u60_2, ↓u60_3, ↓u60_4, ↓u60_5, ↓u60_6, ↓u60_9, ↓u60_12, ↓u60_13, ↓u60_16, ↓u60_17, ↓u60_18, ↓u60_21, ↓u60_24, ↓u60_25, ↓u60_28, ↓u60_29, ↓u60_30, ↓u60_33, ↓u60_36, ↓u60_39, ↓u60_40, ↓u60_44, ↓u60_45, ↓u60_48, ↓u60_51, ↓u60_52, ↓u60_55, ↓u60_57, ↓u60_58, ↓u60_61, ↓u60_64, ↓u60_65, ↓u60_68, ↓u60_69, ↓u60_70, ↓u60_71, ↓u60_74, ↓u60_76, ↓u60_77, ↓u60_80, ↓u60_83, ↓u60_84, ↓u60_85, ↓u60_88, ↓u60_90, ↓u60_91, ↓u60_92, ↓u60_94, ↓u60_95, ↓u60_96, ↓u60_99, ↓u60_102, ↓u60_108, ↓u60_111, ↓u60_113, lI_0, lI_s, lL_0, lL_s, lR_0, lR_s, sT_0, sT_i, sT_r, sT_u, sT_lu, sU_0, sU_i, sU_r, sU_u, zws_i, zws_r, zws_l, zws_n, zCb_kc, xl_ll, xr_rr, xs_e, xset_e, Option.toList, List.cons_append, List.nil_append, zIb_e, zrng_e, nz_e, if_pos, if_neg, and_true, true_and, or_true, true_or, ite_self, bi_eq0, bi_eq1, bi_1, bi_0, bi_ir, bi_T, bi_F, up_eq, up_ne, ↓reduceIte, reduceIte, Nat.reduceAdd, Nat.reduceLeDiff, Nat.le_refl, Nat.zero_le, not_true_eq_false, not_false_eq_true, ne_eq, Int.reduceEq, Int.reduceLT, Int.reduceLE, Int.reduceAdd, Int.reduceSub, Int.reduceMul, Int.reduceNeg, pT w1, w2, pT w3, w4, w5, w6, v1, v2, v3, vB, ih, s9 (show 2 ≤ d - 1 by omega) k3 k4 k1 k2]
set_option maxRecDepth 8000 in
theorem s60 {d : Nat} {Q : Option AV → XH → Prop} {G : XS} {s : ZS} {W : Int} {B : ZS} {N R T : Int} {k : Int} (hd : 4 ≤ d) (hw : WOK G W) (hv : CV s W B N R T) (hb : OKB B N) (hn : 0 ≤ N ∧ N ≤ 40 ∧ 0 ≤ R ∧ R ≤ 10 ∧ 0 ≤ T ∧ T ≤ 20000) (hk : 0 ≤ k ∧ ir k) : Call d 60 [zrf W, zint k] (G, s) Q = Q (some (zint (pn B N k 0 0))) (G, s) := by
  have hw' := hw
  obtain ⟨w1, w2, w3, w4, w5, w6, w7, w8, w9, w10, w11, w12, w13, w14, w15, w16, w17, w18, w19, w20, w21, w22, w23, w24, w25⟩ := hw'
  have hv' := hv
  obtain ⟨v1, v2, v3, vB⟩ := hv'
  rw [e60 (show 1 ≤ d by omega)]
  have lp : ∀ i, 0 ≤ i → i ≤ N → ∀ p v, 0 ≤ p → p ≤ 40 * i → p ≤ k → Wp (d - 1) 60 (4, [zrf W, zint k, zint p, zint i, v], [], (G, s)) Q = Q (some (zint (pn B N k i p))) (G, s) := by
    refine dn (P := fun i => ∀ p v, 0 ≤ p → p ≤ 40 * i → p ≤ k → Wp (d - 1) 60 (4, [zrf W, zint k, zint p, zint i, v], [], (G, s)) Q = Q (some (zint (pn B N k i p))) (G, s)) ?_ ?_
    · intro p v hp0 hp1 hp2
      rw [pn_e (Int.le_refl N), u60_4]
      simp (disch := first | omega | exact rfl) only [↓u60_0, ↓u60_1, ↓u60_2, ↓u60_3, ↓u60_5, ↓u60_6, ↓u60_9, ↓u60_12, ↓u60_13, ↓u60_16, ↓u60_17, ↓u60_18, ↓u60_21, ↓u60_24, ↓u60_25, ↓u60_28, ↓u60_29, ↓u60_30, ↓u60_33, ↓u60_36, ↓u60_39, ↓u60_40, ↓u60_44, ↓u60_45, ↓u60_48, ↓u60_51, ↓u60_52, ↓u60_55, ↓u60_57, ↓u60_58, ↓u60_61, ↓u60_64, ↓u60_65, ↓u60_68, ↓u60_69, ↓u60_70, ↓u60_71, ↓u60_74, ↓u60_76, ↓u60_77, ↓u60_80, ↓u60_83, ↓u60_84, ↓u60_85, ↓u60_88, ↓u60_90, ↓u60_91, ↓u60_92, ↓u60_94, ↓u60_95, ↓u60_96, ↓u60_99, ↓u60_102, ↓u60_105, ↓u60_108, ↓u60_111, ↓u60_113, lI_0, lI_s, lL_0, lL_s, lR_0, lR_s, sT_0, sT_i, sT_r, sT_u, sT_lu, sU_0, sU_i, sU_r, sU_u, zws_i, zws_r, zws_l, zws_n, zCb_kc, xl_ll, xr_rr, xs_e, xset_e, Option.toList, List.cons_append, List.nil_append, zIb_e, zrng_e, nz_e, if_pos, if_neg, and_true, true_and, or_true, true_or, ite_self, bi_eq0, bi_eq1, bi_1, bi_0, bi_ir, bi_T, bi_F, up_eq, up_ne, ↓reduceIte, reduceIte, Nat.reduceAdd, Nat.reduceLeDiff, Nat.le_refl, Nat.zero_le, not_true_eq_false, not_false_eq_true, ne_eq, Int.reduceEq, Int.reduceLT, Int.reduceLE, Int.reduceAdd, Int.reduceSub, Int.reduceMul, Int.reduceNeg, pT w1, w2, pT w3, w4, w5, w6, v1, v2, v3, vB]
    · intro i h0 h1 ih p v hp0 hp1 hp2
      have b := hb i ⟨h0, h1⟩
      have k1 := w6 i (by omega)
      have hi : 0 ≤ i ∧ i < N := ⟨h0, h1⟩
      have c := mtg_b (B := B) (N := N) (m := i) hn.1
      have ce : mtg B N i = sm (fun j => bi (B j 8 = 1 ∧ mt B i j)) 0 N := rfl
      rw [u60_4]
      by_cases q : B i 8 = 1 ∧ B i 1 = 0
      · by_cases e : k - p < mtg B N i
        · rw [pn_y h1 q e]
          rw [ce] at e
          simp (disch := first | omega | exact rfl) only [↓u60_0, ↓u60_1, ↓u60_2, ↓u60_3, ↓u60_5, ↓u60_6, ↓u60_9, ↓u60_12, ↓u60_13, ↓u60_16, ↓u60_17, ↓u60_18, ↓u60_21, ↓u60_24, ↓u60_25, ↓u60_28, ↓u60_29, ↓u60_30, ↓u60_33, ↓u60_36, ↓u60_39, ↓u60_40, ↓u60_44, ↓u60_45, ↓u60_48, ↓u60_51, ↓u60_52, ↓u60_55, ↓u60_57, ↓u60_58, ↓u60_61, ↓u60_64, ↓u60_65, ↓u60_68, ↓u60_69, ↓u60_70, ↓u60_71, ↓u60_74, ↓u60_76, ↓u60_77, ↓u60_80, ↓u60_83, ↓u60_84, ↓u60_85, ↓u60_88, ↓u60_90, ↓u60_91, ↓u60_92, ↓u60_94, ↓u60_95, ↓u60_96, ↓u60_99, ↓u60_102, ↓u60_105, ↓u60_108, ↓u60_111, ↓u60_113, lI_0, lI_s, lL_0, lL_s, lR_0, lR_s, sT_0, sT_i, sT_r, sT_u, sT_lu, sU_0, sU_i, sU_r, sU_u, zws_i, zws_r, zws_l, zws_n, zCb_kc, xl_ll, xr_rr, xs_e, xset_e, Option.toList, List.cons_append, List.nil_append, zIb_e, zrng_e, nz_e, if_pos, if_neg, and_true, true_and, or_true, true_or, ite_self, bi_eq0, bi_eq1, bi_1, bi_0, bi_ir, bi_T, bi_F, up_eq, up_ne, ↓reduceIte, reduceIte, Nat.reduceAdd, Nat.reduceLeDiff, Nat.le_refl, Nat.zero_le, not_true_eq_false, not_false_eq_true, ne_eq, Int.reduceEq, Int.reduceLT, Int.reduceLE, Int.reduceAdd, Int.reduceSub, Int.reduceMul, Int.reduceNeg, pT w1, w2, pT w3, w4, w5, w6, v1, v2, v3, vB, ih, l60 (show 3 ≤ d by omega) hw hv hb hn hk hi 0 (Int.le_refl 0) hn.1 p hp0 (by omega) hp2]
        · rw [pn_s h1 q e]
          rw [ce] at e c ⊢
          simp (disch := first | omega | exact rfl) only [↓u60_0, ↓u60_1, ↓u60_2, ↓u60_3, ↓u60_5, ↓u60_6, ↓u60_9, ↓u60_12, ↓u60_13, ↓u60_16, ↓u60_17, ↓u60_18, ↓u60_21, ↓u60_24, ↓u60_25, ↓u60_28, ↓u60_29, ↓u60_30, ↓u60_33, ↓u60_36, ↓u60_39, ↓u60_40, ↓u60_44, ↓u60_45, ↓u60_48, ↓u60_51, ↓u60_52, ↓u60_55, ↓u60_57, ↓u60_58, ↓u60_61, ↓u60_64, ↓u60_65, ↓u60_68, ↓u60_69, ↓u60_70, ↓u60_71, ↓u60_74, ↓u60_76, ↓u60_77, ↓u60_80, ↓u60_83, ↓u60_84, ↓u60_85, ↓u60_88, ↓u60_90, ↓u60_91, ↓u60_92, ↓u60_94, ↓u60_95, ↓u60_96, ↓u60_99, ↓u60_102, ↓u60_105, ↓u60_108, ↓u60_111, ↓u60_113, lI_0, lI_s, lL_0, lL_s, lR_0, lR_s, sT_0, sT_i, sT_r, sT_u, sT_lu, sU_0, sU_i, sU_r, sU_u, zws_i, zws_r, zws_l, zws_n, zCb_kc, xl_ll, xr_rr, xs_e, xset_e, Option.toList, List.cons_append, List.nil_append, zIb_e, zrng_e, nz_e, if_pos, if_neg, and_true, true_and, or_true, true_or, ite_self, bi_eq0, bi_eq1, bi_1, bi_0, bi_ir, bi_T, bi_F, up_eq, up_ne, ↓reduceIte, reduceIte, Nat.reduceAdd, Nat.reduceLeDiff, Nat.le_refl, Nat.zero_le, not_true_eq_false, not_false_eq_true, ne_eq, Int.reduceEq, Int.reduceLT, Int.reduceLE, Int.reduceAdd, Int.reduceSub, Int.reduceMul, Int.reduceNeg, pT w1, w2, pT w3, w4, w5, w6, v1, v2, v3, vB, ih, l60 (show 3 ≤ d by omega) hw hv hb hn hk hi 0 (Int.le_refl 0) hn.1 p hp0 (by omega) hp2]
      · rw [pn_n h1 q]
        simp (disch := first | omega | exact rfl) only [↓u60_0, ↓u60_1, ↓u60_2, ↓u60_3, ↓u60_5, ↓u60_6, ↓u60_9, ↓u60_12, ↓u60_13, ↓u60_16, ↓u60_17, ↓u60_18, ↓u60_21, ↓u60_24, ↓u60_25, ↓u60_28, ↓u60_29, ↓u60_30, ↓u60_33, ↓u60_36, ↓u60_39, ↓u60_40, ↓u60_44, ↓u60_45, ↓u60_48, ↓u60_51, ↓u60_52, ↓u60_55, ↓u60_57, ↓u60_58, ↓u60_61, ↓u60_64, ↓u60_65, ↓u60_68, ↓u60_69, ↓u60_70, ↓u60_71, ↓u60_74, ↓u60_76, ↓u60_77, ↓u60_80, ↓u60_83, ↓u60_84, ↓u60_85, ↓u60_88, ↓u60_90, ↓u60_91, ↓u60_92, ↓u60_94, ↓u60_95, ↓u60_96, ↓u60_99, ↓u60_102, ↓u60_105, ↓u60_108, ↓u60_111, ↓u60_113, lI_0, lI_s, lL_0, lL_s, lR_0, lR_s, sT_0, sT_i, sT_r, sT_u, sT_lu, sU_0, sU_i, sU_r, sU_u, zws_i, zws_r, zws_l, zws_n, zCb_kc, xl_ll, xr_rr, xs_e, xset_e, Option.toList, List.cons_append, List.nil_append, zIb_e, zrng_e, nz_e, if_pos, if_neg, and_true, true_and, or_true, true_or, ite_self, bi_eq0, bi_eq1, bi_1, bi_0, bi_ir, bi_T, bi_F, up_eq, up_ne, ↓reduceIte, reduceIte, Nat.reduceAdd, Nat.reduceLeDiff, Nat.le_refl, Nat.zero_le, not_true_eq_false, not_false_eq_true, ne_eq, Int.reduceEq, Int.reduceLT, Int.reduceLE, Int.reduceAdd, Int.reduceSub, Int.reduceMul, Int.reduceNeg, pT w1, w2, pT w3, w4, w5, w6, v1, v2, v3, vB, ih]
  simp (disch := first | omega | exact rfl) only [↓u60_0, ↓u60_1, ↓u60_2, ↓u60_3, ↓u60_5, ↓u60_6, ↓u60_9, ↓u60_12, ↓u60_13, ↓u60_16, ↓u60_17, ↓u60_18, ↓u60_21, ↓u60_24, ↓u60_25, ↓u60_28, ↓u60_29, ↓u60_30, ↓u60_33, ↓u60_36, ↓u60_39, ↓u60_40, ↓u60_42, ↓u60_44, ↓u60_45, ↓u60_48, ↓u60_51, ↓u60_52, ↓u60_55, ↓u60_57, ↓u60_58, ↓u60_61, ↓u60_64, ↓u60_65, ↓u60_68, ↓u60_69, ↓u60_70, ↓u60_71, ↓u60_74, ↓u60_76, ↓u60_77, ↓u60_80, ↓u60_83, ↓u60_84, ↓u60_85, ↓u60_88, ↓u60_90, ↓u60_91, ↓u60_92, ↓u60_94, ↓u60_95, ↓u60_96, ↓u60_99, ↓u60_102, ↓u60_105, ↓u60_108, ↓u60_111, ↓u60_113, lI_0, lI_s, lL_0, lL_s, lR_0, lR_s, sT_0, sT_i, sT_r, sT_u, sT_lu, sU_0, sU_i, sU_r, sU_u, zws_i, zws_r, zws_l, zws_n, zCb_kc, xl_ll, xr_rr, xs_e, xset_e, Option.toList, List.cons_append, List.nil_append, zIb_e, zrng_e, nz_e, if_pos, if_neg, and_true, true_and, or_true, true_or, ite_self, bi_eq0, bi_eq1, bi_1, bi_0, bi_ir, bi_T, bi_F, up_eq, up_ne, ↓reduceIte, reduceIte, Nat.reduceAdd, Nat.reduceLeDiff, Nat.le_refl, Nat.zero_le, not_true_eq_false, not_false_eq_true, ne_eq, Int.reduceEq, Int.reduceLT, Int.reduceLE, Int.reduceAdd, Int.reduceSub, Int.reduceMul, Int.reduceNeg, pT w1, w2, pT w3, w4, w5, w6, v1, v2, v3, vB, lp 0 (Int.le_refl 0) hn.1]
set_option maxRecDepth 8000 in
theorem kth_b {p : Int → Prop} {i N m : Int} (hi : 0 ≤ i) (hn : i ≤ N) : -5 ≤ kth p i N m ∧ kth p i N m ≤ N := by
  have H : ∀ i, 0 ≤ i → i ≤ N → ∀ m, -5 ≤ kth p i N m ∧ kth p i N m ≤ N := by
    refine dn (P := fun i => ∀ m, -5 ≤ kth p i N m ∧ kth p i N m ≤ N) ?_ ?_
    · intro m
      rw [kth_e (Int.le_refl N)]
      omega
    · intro i h0 h1 ih m
      rcases Classical.em (p i) with q | q
      · by_cases e : m = 0
        · rw [kth_z h1 q e]
          omega
        · rw [kth_s h1 q e]
          exact ih _
      · rw [kth_n h1 q]
        exact ih _
  exact H i hi hn m
noncomputable def tcl (B : ZS) (N c : Int) (i : Int) : Int := sm (fun r => bi (0 ≤ kth (fun j => B j 8 = 1 ∧ cov (B j 2) (B j 3) (B j 4) (B j 5) (c * 16) (r * 16) 16 16) 0 N 0)) i 8
set_option maxRecDepth 8000 in
theorem l54 {d : Nat} {Q : Option AV → XH → Prop} {G : XS} {s : ZS} {W : Int} {B : ZS} {N R T : Int} {c : Int} (hd : 4 ≤ d) (hw : WOK G W) (hv : CV s W B N R T) (hb : OKB B N) (hn : 0 ≤ N ∧ N ≤ 40 ∧ 0 ≤ R ∧ R ≤ 10 ∧ 0 ≤ T ∧ T ≤ 20000) (hc : 0 ≤ c ∧ c ≤ 7) : ∀ i, 0 ≤ i → i ≤ 8 → ∀ a, 0 ≤ a → a ≤ 1000 + i → Wp (d - 1) 54 (12, [zrf W, zint a, zint c, zint i], [], (G, s)) Q = Wp (d - 1) 54 (37, [zrf W, zint (a + tcl B N c i), zint c, zint 8], [], (G, s)) Q := by
  have hw' := hw
  obtain ⟨w1, w2, w3, w4, w5, w6, w7, w8, w9, w10, w11, w12, w13, w14, w15, w16, w17, w18, w19, w20, w21, w22, w23, w24, w25⟩ := hw'
  have hv' := hv
  obtain ⟨v1, v2, v3, vB⟩ := hv'
  have h00 : (0 : Int) ≤ 0 ∧ ir 0 := by omega
  unfold tcl
  refine dn (P := fun i => ∀ a, 0 ≤ a → a ≤ 1000 + i → Wp (d - 1) 54 (12, [zrf W, zint a, zint c, zint i], [], (G, s)) Q = Wp (d - 1) 54 (37, [zrf W, zint (a + sm (fun r => bi (0 ≤ kth (fun j => B j 8 = 1 ∧ cov (B j 2) (B j 3) (B j 4) (B j 5) (c * 16) (r * 16) 16 16) 0 N 0)) i 8), zint c, zint 8], [], (G, s)) Q) ?_ ?_
  · intro a ha0 ha1
    rw [sm_e (Int.le_refl 8), u54_12, Int.add_zero]
    simp (disch := first | omega | exact rfl) only [↓u54_0, ↓u54_1, ↓u54_2, ↓u54_3, ↓u54_4, ↓u54_5, ↓u54_7, ↓u54_10, ↓u54_11, ↓u54_13, ↓u54_15, ↓u54_18, ↓u54_19, ↓u54_20, ↓u54_21, ↓u54_22, ↓u54_25, ↓u54_28, ↓u54_31, ↓u54_34, ↓u54_40, ↓u54_43, ↓u54_44, lI_0, lI_s, lL_0, lL_s, lR_0, lR_s, sT_0, sT_i, sT_r, sT_u, sT_lu, sU_0, sU_i, sU_r, sU_u, zws_i, zws_r, zws_l, zws_n, zCb_kc, xl_ll, xr_rr, xs_e, xset_e, Option.toList, List.cons_append, List.nil_append, zIb_e, zrng_e, nz_e, if_pos, if_neg, and_true, true_and, or_true, true_or, ite_self, bi_eq0, bi_eq1, bi_1, bi_0, bi_ir, bi_T, bi_F, up_eq, up_ne, ↓reduceIte, reduceIte, Nat.reduceAdd, Nat.reduceLeDiff, Nat.le_refl, Nat.zero_le, not_true_eq_false, not_false_eq_true, ne_eq, Int.reduceEq, Int.reduceLT, Int.reduceLE, Int.reduceAdd, Int.reduceSub, Int.reduceMul, Int.reduceNeg, pT w1, w2, pT w3, w4, w5, w6, v1, v2, v3, vB]
  · intro i h0 h1 ih a ha0 ha1
    have h7 : 0 ≤ i ∧ i ≤ 7 := by omega
    have kb := kth_b (p := fun j => B j 8 = 1 ∧ cov (B j 2) (B j 3) (B j 4) (B j 5) (c * 16) (i * 16) 16 16) (i := 0) (N := N) (m := 0) (Int.le_refl 0) hn.1
    rw [u54_12, sm_s h1]
    by_cases q : 0 ≤ kth (fun j => B j 8 = 1 ∧ cov (B j 2) (B j 3) (B j 4) (B j 5) (c * 16) (i * 16) 16 16) 0 N 0
    · rw [bi_1 q, ← Int.add_assoc]
      simp (disch := first | omega | exact rfl) only [↓u54_0, ↓u54_1, ↓u54_2, ↓u54_3, ↓u54_4, ↓u54_5, ↓u54_7, ↓u54_10, ↓u54_11, ↓u54_13, ↓u54_15, ↓u54_18, ↓u54_19, ↓u54_20, ↓u54_21, ↓u54_22, ↓u54_25, ↓u54_28, ↓u54_31, ↓u54_34, ↓u54_40, ↓u54_43, ↓u54_44, lI_0, lI_s, lL_0, lL_s, lR_0, lR_s, sT_0, sT_i, sT_r, sT_u, sT_lu, sU_0, sU_i, sU_r, sU_u, zws_i, zws_r, zws_l, zws_n, zCb_kc, xl_ll, xr_rr, xs_e, xset_e, Option.toList, List.cons_append, List.nil_append, zIb_e, zrng_e, nz_e, if_pos, if_neg, and_true, true_and, or_true, true_or, ite_self, bi_eq0, bi_eq1, bi_1, bi_0, bi_ir, bi_T, bi_F, up_eq, up_ne, ↓reduceIte, reduceIte, Nat.reduceAdd, Nat.reduceLeDiff, Nat.le_refl, Nat.zero_le, not_true_eq_false, not_false_eq_true, ne_eq, Int.reduceEq, Int.reduceLT, Int.reduceLE, Int.reduceAdd, Int.reduceSub, Int.reduceMul, Int.reduceNeg, pT w1, w2, pT w3, w4, w5, w6, v1, v2, v3, vB, ih, s53 (show 3 ≤ d - 1 by omega) hw hv hb hn hc h7 h00]
    · rw [bi_0 q, Int.zero_add]
      simp (disch := first | omega | exact rfl) only [↓u54_0, ↓u54_1, ↓u54_2, ↓u54_3, ↓u54_4, ↓u54_5, ↓u54_7, ↓u54_10, ↓u54_11, ↓u54_13, ↓u54_15, ↓u54_18, ↓u54_19, ↓u54_20, ↓u54_21, ↓u54_22, ↓u54_25, ↓u54_28, ↓u54_31, ↓u54_34, ↓u54_40, ↓u54_43, ↓u54_44, lI_0, lI_s, lL_0, lL_s, lR_0, lR_s, sT_0, sT_i, sT_r, sT_u, sT_lu, sU_0, sU_i, sU_r, sU_u, zws_i, zws_r, zws_l, zws_n, zCb_kc, xl_ll, xr_rr, xs_e, xset_e, Option.toList, List.cons_append, List.nil_append, zIb_e, zrng_e, nz_e, if_pos, if_neg, and_true, true_and, or_true, true_or, ite_self, bi_eq0, bi_eq1, bi_1, bi_0, bi_ir, bi_T, bi_F, up_eq, up_ne, ↓reduceIte, reduceIte, Nat.reduceAdd, Nat.reduceLeDiff, Nat.le_refl, Nat.zero_le, not_true_eq_false, not_false_eq_true, ne_eq, Int.reduceEq, Int.reduceLT, Int.reduceLE, Int.reduceAdd, Int.reduceSub, Int.reduceMul, Int.reduceNeg, pT w1, w2, pT w3, w4, w5, w6, v1, v2, v3, vB, ih, s53 (show 3 ≤ d - 1 by omega) hw hv hb hn hc h7 h00]
set_option maxRecDepth 8000 in
theorem s54 {d : Nat} {Q : Option AV → XH → Prop} {G : XS} {s : ZS} {W : Int} {B : ZS} {N R T : Int}  (hd : 4 ≤ d) (hw : WOK G W) (hv : CV s W B N R T) (hb : OKB B N) (hn : 0 ≤ N ∧ N ≤ 40 ∧ 0 ≤ R ∧ R ≤ 10 ∧ 0 ≤ T ∧ T ≤ 20000)  : Call d 54 [zrf W] (G, s) Q = Q (some (zint (sm (fun c => tcl B N c 0) 0 8))) (G, s) := by
  have hw' := hw
  obtain ⟨w1, w2, w3, w4, w5, w6, w7, w8, w9, w10, w11, w12, w13, w14, w15, w16, w17, w18, w19, w20, w21, w22, w23, w24, w25⟩ := hw'
  have hv' := hv
  obtain ⟨v1, v2, v3, vB⟩ := hv'
  rw [e54 (show 1 ≤ d by omega)]
  have lp : ∀ i, 0 ≤ i → i ≤ 8 → ∀ a v, 0 ≤ a → a ≤ 8 * i → Wp (d - 1) 54 (4, [zrf W, zint a, zint i, v], [], (G, s)) Q = Q (some (zint (a + sm (fun c => tcl B N c 0) i 8))) (G, s) := by
    refine dn (P := fun i => ∀ a v, 0 ≤ a → a ≤ 8 * i → Wp (d - 1) 54 (4, [zrf W, zint a, zint i, v], [], (G, s)) Q = Q (some (zint (a + sm (fun c => tcl B N c 0) i 8))) (G, s)) ?_ ?_
    · intro a v ha0 ha1
      rw [sm_e (Int.le_refl 8), u54_4]
      simp (disch := first | omega | exact rfl) only [↓u54_0, ↓u54_1, ↓u54_2, ↓u54_3, ↓u54_5, ↓u54_7, ↓u54_10, ↓u54_11, ↓u54_12, ↓u54_13, ↓u54_15, ↓u54_18, ↓u54_19, ↓u54_20, ↓u54_21, ↓u54_22, ↓u54_25, ↓u54_28, ↓u54_31, ↓u54_34, ↓u54_37, ↓u54_40, ↓u54_43, ↓u54_44, lI_0, lI_s, lL_0, lL_s, lR_0, lR_s, sT_0, sT_i, sT_r, sT_u, sT_lu, sU_0, sU_i, sU_r, sU_u, zws_i, zws_r, zws_l, zws_n, zCb_kc, xl_ll, xr_rr, xs_e, xset_e, Option.toList, List.cons_append, List.nil_append, zIb_e, zrng_e, nz_e, if_pos, if_neg, and_true, true_and, or_true, true_or, ite_self, bi_eq0, bi_eq1, bi_1, bi_0, bi_ir, bi_T, bi_F, up_eq, up_ne, ↓reduceIte, reduceIte, Nat.reduceAdd, Nat.reduceLeDiff, Nat.le_refl, Nat.zero_le, not_true_eq_false, not_false_eq_true, ne_eq, Int.reduceEq, Int.reduceLT, Int.reduceLE, Int.reduceAdd, Int.reduceSub, Int.reduceMul, Int.reduceNeg, pT w1, w2, pT w3, w4, w5, w6, v1, v2, v3, vB]
      all_goals exact qq (by omega)
    · intro i h0 h1 ih a v ha0 ha1
      have hc : 0 ≤ i ∧ i ≤ 7 := by omega
      have tb : 0 ≤ tcl B N i 0 ∧ tcl B N i 0 ≤ 8 := by
        have := cn_b (fun r => 0 ≤ kth (fun j => B j 8 = 1 ∧ cov (B j 2) (B j 3) (B j 4) (B j 5) (i * 16) (r * 16) 16 16) 0 N 0) 0 8 (by omega)
        unfold tcl
        omega
      rw [u54_4, sm_s h1]
      simp (disch := first | omega | exact rfl) only [↓u54_0, ↓u54_1, ↓u54_2, ↓u54_3, ↓u54_5, ↓u54_7, ↓u54_10, ↓u54_11, ↓u54_13, ↓u54_15, ↓u54_18, ↓u54_19, ↓u54_20, ↓u54_21, ↓u54_22, ↓u54_25, ↓u54_28, ↓u54_31, ↓u54_34, ↓u54_37, ↓u54_40, ↓u54_43, ↓u54_44, lI_0, lI_s, lL_0, lL_s, lR_0, lR_s, sT_0, sT_i, sT_r, sT_u, sT_lu, sU_0, sU_i, sU_r, sU_u, zws_i, zws_r, zws_l, zws_n, zCb_kc, xl_ll, xr_rr, xs_e, xset_e, Option.toList, List.cons_append, List.nil_append, zIb_e, zrng_e, nz_e, if_pos, if_neg, and_true, true_and, or_true, true_or, ite_self, bi_eq0, bi_eq1, bi_1, bi_0, bi_ir, bi_T, bi_F, up_eq, up_ne, ↓reduceIte, reduceIte, Nat.reduceAdd, Nat.reduceLeDiff, Nat.le_refl, Nat.zero_le, not_true_eq_false, not_false_eq_true, ne_eq, Int.reduceEq, Int.reduceLT, Int.reduceLE, Int.reduceAdd, Int.reduceSub, Int.reduceMul, Int.reduceNeg, pT w1, w2, pT w3, w4, w5, w6, v1, v2, v3, vB, ih, l54 (show 4 ≤ d by omega) hw hv hb hn hc 0 (Int.le_refl 0) (by omega)]
      all_goals exact qq (by omega)
  simp (disch := first | omega | exact rfl) only [↓u54_0, ↓u54_1, ↓u54_2, ↓u54_3, ↓u54_5, ↓u54_7, ↓u54_10, ↓u54_11, ↓u54_12, ↓u54_13, ↓u54_15, ↓u54_18, ↓u54_19, ↓u54_20, ↓u54_21, ↓u54_22, ↓u54_25, ↓u54_28, ↓u54_31, ↓u54_34, ↓u54_37, ↓u54_40, ↓u54_43, ↓u54_44, lI_0, lI_s, lL_0, lL_s, lR_0, lR_s, sT_0, sT_i, sT_r, sT_u, sT_lu, sU_0, sU_i, sU_r, sU_u, zws_i, zws_r, zws_l, zws_n, zCb_kc, xl_ll, xr_rr, xs_e, xset_e, Option.toList, List.cons_append, List.nil_append, zIb_e, zrng_e, nz_e, if_pos, if_neg, and_true, true_and, or_true, true_or, ite_self, bi_eq0, bi_eq1, bi_1, bi_0, bi_ir, bi_T, bi_F, up_eq, up_ne, ↓reduceIte, reduceIte, Nat.reduceAdd, Nat.reduceLeDiff, Nat.le_refl, Nat.zero_le, not_true_eq_false, not_false_eq_true, ne_eq, Int.reduceEq, Int.reduceLT, Int.reduceLE, Int.reduceAdd, Int.reduceSub, Int.reduceMul, Int.reduceNeg, pT w1, w2, pT w3, w4, w5, w6, v1, v2, v3, vB, lp 0 (Int.le_refl 0) (by omega)]
  all_goals exact qq (by omega)
