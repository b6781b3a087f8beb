/-! the reference: the text -/
def TXR (s : ZS) (tx : Int → Int) (ln : Int) : Prop := s 172 5 = ln ∧ (0 ≤ ln ∧ ln ≤ 100) ∧ (∀ i, 0 ≤ i ∧ i < ln → s 176 i = tx i) ∧ ∀ i, 0 ≤ i ∧ i < ln → 0 ≤ tx i ∧ tx i ≤ 127
def psr (s : ZS) (p f : Int) : ZS := up (up s 172 10 p) 172 11 f
set_option maxRecDepth 8000 in
theorem psr_10 {s : ZS} {p f : Int} : psr s p f 172 10 = p := by unfold psr; simp (disch := omega) only [up_ne, up_eq]
set_option maxRecDepth 8000 in
theorem psr_11 {s : ZS} {p f : Int} : psr s p f 172 11 = f := by unfold psr; simp (disch := omega) only [up_eq]
set_option maxRecDepth 8000 in
theorem psr_o {s : ZS} {p f a c : Int} (h : a ≠ 172 ∨ (c ≠ 10 ∧ c ≠ 11)) : psr s p f a c = s a c := by unfold psr; rw [up_ne (by omega), up_ne (by omega)]
set_option maxRecDepth 8000 in
theorem up_r10 {s : ZS} {p f v : Int} : up (psr s p f) 172 10 v = psr s v f := by unfold psr; rw [up_cm (by omega), up_2]
set_option maxRecDepth 8000 in
theorem up_r11 {s : ZS} {p f v : Int} : up (psr s p f) 172 11 v = psr s p v := by unfold psr; rw [up_2]
set_option maxRecDepth 8000 in
theorem up_ro {s : ZS} {p f v a c : Int} (h : a ≠ 172 ∨ (c ≠ 10 ∧ c ≠ 11)) : up (psr s p f) a c v = psr (up s a c v) p f := by unfold psr; rw [up_cm (s := up s 172 10 p) (a := 172) (c := 11) (by omega), up_cm (s := s) (a := 172) (c := 10) (by omega)]
set_option maxRecDepth 8000 in
theorem psr_s {s : ZS} : psr s (s 172 10) (s 172 11) = s := by
  unfold psr
  rw [up_id rfl, up_id rfl]
set_option maxRecDepth 8000 in
theorem sgr_b {s : ZS} {tx : Int → Int} {ln p : Int} (ht : TXR s tx ln) : -1 ≤ sg tx ln p ∧ sg tx ln p ≤ 127 := by
  by_cases h : 0 ≤ p ∧ p < ln
  · rw [sg_i h]
    have := ht.2.2.2 p h
    omega
  · rw [sg_o h]
    omega
set_option maxRecDepth 8000 in
theorem TXR_u {s : ZS} {tx : Int → Int} {ln a c v : Int} (h : TXR s tx ln) (ha : a ≠ 172) (ha2 : a ≠ 176) : TXR (up s a c v) tx ln := by
  obtain ⟨t1, t2, t3, t4⟩ := h
  exact ⟨by rw [up_ne (Or.inl (Ne.symm ha))]; exact t1, t2, fun i hi => by rw [up_ne (Or.inl (Ne.symm ha2))]; exact t3 i hi, t4⟩
set_option maxRecDepth 8000 in
theorem s126_y {d : Nat} {Q : Option AV → XH → Prop} {G : XS} {s : ZS} {tx : Int → Int} {ln p : Int} {lo hi : Int} (hd : 2 ≤ d) (hg : MOK G) (ht : TXR s tx ln) (hp : 0 ≤ p ∧ p ≤ ln) (hl : 0 ≤ lo ∧ ir lo) (hh : ir hi) : Call d 126 [zrf 172, zint lo, zint hi] (G, psr s p (-1)) Q = Q (some (zint (bi (lo ≤ sg tx ln p ∧ sg tx ln p ≤ hi)))) (G, psr s p (-1)) := by
  have hg' := hg
  obtain ⟨g1, g2, g3, g4, g5, g6, g7, g8, g9, g10, g11, g12, g13, g14, g15, g16, g17, g18, g19, g20, g21, g22, g23, g24, g25, g26, g27, g28, g29, g30, g31, g32, g33, g34⟩ := hg'
  have ht' := ht
  obtain ⟨t1, t2, t3, t4⟩ := ht'
  rw [e126 (show 1 ≤ d by omega)]
  by_cases q : p < ln
  · have e := sg_i (tx := tx) (ln := ln) (p := p) ⟨hp.1, q⟩
    have e3 := t3 p ⟨hp.1, q⟩
    have e4 := t4 p ⟨hp.1, q⟩
    rw [e]
    by_cases q2 : lo ≤ tx p ∧ tx p ≤ hi
    · simp (disch := first | omega | exact rfl) only [↓u126_0, ↓u126_1, ↓u126_4, ↓u126_7, ↓u126_8, ↓u126_11, ↓u126_12, ↓u126_15, ↓u126_18, ↓u126_19, ↓u126_22, ↓u126_23, ↓u126_26, ↓u126_27, ↓u126_28, ↓u126_29, ↓u126_32, ↓u126_35, ↓u126_36, ↓u126_39, ↓u126_40, ↓lI_0, ↓lI_s, ↓lL_0, ↓lL_s, ↓lR_0, ↓lR_s, ↓sT_0, ↓sT_i, ↓sT_r, ↓sT_u, ↓sT_lu, ↓sU_0, ↓sU_i, ↓sU_r, ↓sU_u, ↓ite_bx, bx_T, bx_F, bx_pos, bx_neg, zws_i, zws_r, zws_l, zws_n, zCb_kc, xl_ll, xr_rr, xs_e, xset_e, Option.toList, List.cons_append, List.nil_append, zIb_e, zrng_e, nz_e, if_pos, if_neg, and_true, true_and, or_true, true_or, ite_self, bi_eq0, bi_eq1, bi_1, bi_0, bi_ir, bi_T, bi_F, up_eq, up_ne, ↓reduceIte, reduceIte, Nat.reduceAdd, Nat.reduceLeDiff, Nat.le_refl, Nat.zero_le, not_true_eq_false, not_false_eq_true, ne_eq, Int.reduceEq, Int.reduceLT, Int.reduceLE, Int.reduceAdd, Int.reduceSub, Int.reduceMul, Int.reduceNeg, pT g1, g2, g3, g4, g5, g6, g7, g8, g9, g10, g11, pT g12, zSb_e' g12, g13, pT g18, zSb_e' g18, g19, pT g31, zSb_e' g31, g32, psr_10, psr_11, psr_o, up_r10, up_r11, up_ro, t1, s111, e3]
    · simp (disch := first | omega | exact rfl) only [↓u126_0, ↓u126_1, ↓u126_4, ↓u126_7, ↓u126_8, ↓u126_11, ↓u126_12, ↓u126_15, ↓u126_18, ↓u126_19, ↓u126_22, ↓u126_23, ↓u126_26, ↓u126_27, ↓u126_28, ↓u126_29, ↓u126_32, ↓u126_35, ↓u126_36, ↓u126_39, ↓u126_40, ↓lI_0, ↓lI_s, ↓lL_0, ↓lL_s, ↓lR_0, ↓lR_s, ↓sT_0, ↓sT_i, ↓sT_r, ↓sT_u, ↓sT_lu, ↓sU_0, ↓sU_i, ↓sU_r, ↓sU_u, ↓ite_bx, bx_T, bx_F, bx_pos, bx_neg, zws_i, zws_r, zws_l, zws_n, zCb_kc, xl_ll, xr_rr, xs_e, xset_e, Option.toList, List.cons_append, List.nil_append, zIb_e, zrng_e, nz_e, if_pos, if_neg, and_true, true_and, or_true, true_or, ite_self, bi_eq0, bi_eq1, bi_1, bi_0, bi_ir, bi_T, bi_F, up_eq, up_ne, ↓reduceIte, reduceIte, Nat.reduceAdd, Nat.reduceLeDiff, Nat.le_refl, Nat.zero_le, not_true_eq_false, not_false_eq_true, ne_eq, Int.reduceEq, Int.reduceLT, Int.reduceLE, Int.reduceAdd, Int.reduceSub, Int.reduceMul, Int.reduceNeg, pT g1, g2, g3, g4, g5, g6, g7, g8, g9, g10, g11, pT g12, zSb_e' g12, g13, pT g18, zSb_e' g18, g19, pT g31, zSb_e' g31, g32, psr_10, psr_11, psr_o, up_r10, up_r11, up_ro, t1, s111, e3]
  · have e := sg_o (tx := tx) (ln := ln) (p := p) (by omega)
    rw [e]
    simp (disch := first | omega | exact rfl) only [↓u126_0, ↓u126_1, ↓u126_4, ↓u126_7, ↓u126_8, ↓u126_11, ↓u126_12, ↓u126_15, ↓u126_18, ↓u126_19, ↓u126_22, ↓u126_23, ↓u126_26, ↓u126_27, ↓u126_28, ↓u126_29, ↓u126_32, ↓u126_35, ↓u126_36, ↓u126_39, ↓u126_40, ↓lI_0, ↓lI_s, ↓lL_0, ↓lL_s, ↓lR_0, ↓lR_s, ↓sT_0, ↓sT_i, ↓sT_r, ↓sT_u, ↓sT_lu, ↓sU_0, ↓sU_i, ↓sU_r, ↓sU_u, ↓ite_bx, bx_T, bx_F, bx_pos, bx_neg, zws_i, zws_r, zws_l, zws_n, zCb_kc, xl_ll, xr_rr, xs_e, xset_e, Option.toList, List.cons_append, List.nil_append, zIb_e, zrng_e, nz_e, if_pos, if_neg, and_true, true_and, or_true, true_or, ite_self, bi_eq0, bi_eq1, bi_1, bi_0, bi_ir, bi_T, bi_F, up_eq, up_ne, ↓reduceIte, reduceIte, Nat.reduceAdd, Nat.reduceLeDiff, Nat.le_refl, Nat.zero_le, not_true_eq_false, not_false_eq_true, ne_eq, Int.reduceEq, Int.reduceLT, Int.reduceLE, Int.reduceAdd, Int.reduceSub, Int.reduceMul, Int.reduceNeg, pT g1, g2, g3, g4, g5, g6, g7, g8, g9, g10, g11, pT g12, zSb_e' g12, g13, pT g18, zSb_e' g18, g19, pT g31, zSb_e' g31, g32, psr_10, psr_11, psr_o, up_r10, up_r11, up_ro, t1, s111]
set_option maxRecDepth 8000 in
theorem s126_f {d : Nat} {Q : Option AV → XH → Prop} {G : XS} {s : ZS} {tx : Int → Int} {ln p : Int} {lo hi : Int} {f : Int} (hd : 2 ≤ d) (hg : MOK G) (ht : TXR s tx ln) (hp : 0 ≤ p ∧ p ≤ ln) (hf : 0 ≤ f ∧ f ≤ 1000) : Call d 126 [zrf 172, zint lo, zint hi] (G, psr s p f) Q = Q (some (zint 0)) (G, psr s p f) := by
  have hg' := hg
  obtain ⟨g1, g2, g3, g4, g5, g6, g7, g8, g9, g10, g11, g12, g13, g14, g15, g16, g17, g18, g19, g20, g21, g22, g23, g24, g25, g26, g27, g28, g29, g30, g31, g32, g33, g34⟩ := hg'
  have ht' := ht
  obtain ⟨t1, t2, t3, t4⟩ := ht'
  rw [e126 (show 1 ≤ d by omega)]
  simp (disch := first | omega | exact rfl) only [↓u126_0, ↓u126_1, ↓u126_4, ↓u126_7, ↓u126_8, ↓u126_11, ↓u126_12, ↓u126_15, ↓u126_18, ↓u126_19, ↓u126_22, ↓u126_23, ↓u126_26, ↓u126_27, ↓u126_28, ↓u126_29, ↓u126_32, ↓u126_35, ↓u126_36, ↓u126_39, ↓u126_40, ↓lI_0, ↓lI_s, ↓lL_0, ↓lL_s, ↓lR_0, ↓lR_s, ↓sT_0, ↓sT_i, ↓sT_r, ↓sT_u, ↓sT_lu, ↓sU_0, ↓sU_i, ↓sU_r, ↓sU_u, ↓ite_bx, bx_T, bx_F, bx_pos, bx_neg, zws_i, zws_r, zws_l, zws_n, zCb_kc, xl_ll, xr_rr, xs_e, xset_e, Option.toList, List.cons_append, List.nil_append, zIb_e, zrng_e, nz_e, if_pos, if_neg, and_true, true_and, or_true, true_or, ite_self, bi_eq0, bi_eq1, bi_1, bi_0, bi_ir, bi_T, bi_F, up_eq, up_ne, ↓reduceIte, reduceIte, Nat.reduceAdd, Nat.reduceLeDiff, Nat.le_refl, Nat.zero_le, not_true_eq_false, not_false_eq_true, ne_eq, Int.reduceEq, Int.reduceLT, Int.reduceLE, Int.reduceAdd, Int.reduceSub, Int.reduceMul, Int.reduceNeg, pT g1, g2, g3, g4, g5, g6, g7, g8, g9, g10, g11, pT g12, zSb_e' g12, g13, pT g18, zSb_e' g18, g19, pT g31, zSb_e' g31, g32, psr_10, psr_11, psr_o, up_r10, up_r11, up_ro, t1]
set_option maxRecDepth 8000 in
theorem s127_y {d : Nat} {Q : Option AV → XH → Prop} {G : XS} {s : ZS} {tx : Int → Int} {ln p : Int} {lo hi : Int} (hd : 3 ≤ d) (hg : MOK G) (ht : TXR s tx ln) (hp : 0 ≤ p ∧ p ≤ ln) (hl : 0 ≤ lo ∧ ir lo) (hh : ir hi) (q : lo ≤ sg tx ln p ∧ sg tx ln p ≤ hi) : Call d 127 [zrf 172, zint lo, zint hi] (G, psr s p (-1)) Q = Q (some (zint (sg tx ln p))) (G, psr s (p + 1) (-1)) := by
  have hg' := hg
  obtain ⟨g1, g2, g3, g4, g5, g6, g7, g8, g9, g10, g11, g12, g13, g14, g15, g16, g17, g18, g19, g20, g21, g22, g23, g24, g25, g26, g27, g28, g29, g30, g31, g32, g33, g34⟩ := hg'
  have ht' := ht
  obtain ⟨t1, t2, t3, t4⟩ := ht'
  have hl2 := sg_l (tx := tx) (ln := ln) (p := p) (by omega)
  have e := sg_i (tx := tx) (ln := ln) (p := p) hl2
  have e3 := t3 p hl2
  rw [e127 (show 1 ≤ d by omega)]
  simp (disch := first | omega | exact rfl) only [↓u127_0, ↓u127_1, ↓u127_2, ↓u127_3, ↓u127_6, ↓u127_9, ↓u127_10, ↓u127_11, ↓u127_14, ↓u127_17, ↓u127_18, ↓u127_21, ↓u127_24, ↓u127_25, ↓u127_28, ↓u127_31, ↓u127_32, ↓u127_33, ↓u127_34, ↓u127_37, ↓u127_38, ↓u127_39, ↓u127_42, ↓u127_43, ↓u127_44, ↓u127_45, ↓u127_48, ↓u127_49, ↓lI_0, ↓lI_s, ↓lL_0, ↓lL_s, ↓lR_0, ↓lR_s, ↓sT_0, ↓sT_i, ↓sT_r, ↓sT_u, ↓sT_lu, ↓sU_0, ↓sU_i, ↓sU_r, ↓sU_u, ↓ite_bx, bx_T, bx_F, bx_pos, bx_neg, zws_i, zws_r, zws_l, zws_n, zCb_kc, xl_ll, xr_rr, xs_e, xset_e, Option.toList, List.cons_append, List.nil_append, zIb_e, zrng_e, nz_e, if_pos, if_neg, and_true, true_and, or_true, true_or, ite_self, bi_eq0, bi_eq1, bi_1, bi_0, bi_ir, bi_T, bi_F, up_eq, up_ne, ↓reduceIte, reduceIte, Nat.reduceAdd, Nat.reduceLeDiff, Nat.le_refl, Nat.zero_le, not_true_eq_false, not_false_eq_true, ne_eq, Int.reduceEq, Int.reduceLT, Int.reduceLE, Int.reduceAdd, Int.reduceSub, Int.reduceMul, Int.reduceNeg, pT g1, g2, g3, g4, g5, g6, g7, g8, g9, g10, g11, pT g12, zSb_e' g12, g13, pT g18, zSb_e' g18, g19, pT g31, zSb_e' g31, g32, psr_10, psr_11, psr_o, up_r10, up_r11, up_ro, t1, s126_y (show 2 ≤ d - 1 by omega) hg ht hp, e3, e]
set_option maxRecDepth 8000 in
theorem s127_n {d : Nat} {Q : Option AV → XH → Prop} {G : XS} {s : ZS} {tx : Int → Int} {ln p : Int} {lo hi : Int} (hd : 3 ≤ d) (hg : MOK G) (ht : TXR s tx ln) (hp : 0 ≤ p ∧ p ≤ ln) (hl : 0 ≤ lo ∧ ir lo) (hh : ir hi) (q : ¬(lo ≤ sg tx ln p ∧ sg tx ln p ≤ hi)) : Call d 127 [zrf 172, zint lo, zint hi] (G, psr s p (-1)) Q = Q (some (zint lo)) (G, psr s p p) := by
  have hg' := hg
  obtain ⟨g1, g2, g3, g4, g5, g6, g7, g8, g9, g10, g11, g12, g13, g14, g15, g16, g17, g18, g19, g20, g21, g22, g23, g24, g25, g26, g27, g28, g29, g30, g31, g32, g33, g34⟩ := hg'
  have ht' := ht
  obtain ⟨t1, t2, t3, t4⟩ := ht'
  rw [e127 (show 1 ≤ d by omega)]
  simp (disch := first | omega | exact rfl) only [↓u127_0, ↓u127_1, ↓u127_2, ↓u127_3, ↓u127_6, ↓u127_9, ↓u127_10, ↓u127_11, ↓u127_14, ↓u127_17, ↓u127_18, ↓u127_21, ↓u127_24, ↓u127_25, ↓u127_28, ↓u127_31, ↓u127_32, ↓u127_33, ↓u127_34, ↓u127_37, ↓u127_38, ↓u127_39, ↓u127_42, ↓u127_43, ↓u127_44, ↓u127_45, ↓u127_48, ↓u127_49, ↓lI_0, ↓lI_s, ↓lL_0, ↓lL_s, ↓lR_0, ↓lR_s, ↓sT_0, ↓sT_i, ↓sT_r, ↓sT_u, ↓sT_lu, ↓sU_0, ↓sU_i, ↓sU_r, ↓sU_u, ↓ite_bx, bx_T, bx_F, bx_pos, bx_neg, zws_i, zws_r, zws_l, zws_n, zCb_kc, xl_ll, xr_rr, xs_e, xset_e, Option.toList, List.cons_append, List.nil_append, zIb_e, zrng_e, nz_e, if_pos, if_neg, and_true, true_and, or_true, true_or, ite_self, bi_eq0, bi_eq1, bi_1, bi_0, bi_ir, bi_T, bi_F, up_eq, up_ne, ↓reduceIte, reduceIte, Nat.reduceAdd, Nat.reduceLeDiff, Nat.le_refl, Nat.zero_le, not_true_eq_false, not_false_eq_true, ne_eq, Int.reduceEq, Int.reduceLT, Int.reduceLE, Int.reduceAdd, Int.reduceSub, Int.reduceMul, Int.reduceNeg, pT g1, g2, g3, g4, g5, g6, g7, g8, g9, g10, g11, pT g12, zSb_e' g12, g13, pT g18, zSb_e' g18, g19, pT g31, zSb_e' g31, g32, psr_10, psr_11, psr_o, up_r10, up_r11, up_ro, t1, s126_y (show 2 ≤ d - 1 by omega) hg ht hp]
set_option maxRecDepth 8000 in
theorem s127_f {d : Nat} {Q : Option AV → XH → Prop} {G : XS} {s : ZS} {tx : Int → Int} {ln p : Int} {lo hi : Int} {f : Int} (hd : 3 ≤ d) (hg : MOK G) (ht : TXR s tx ln) (hp : 0 ≤ p ∧ p ≤ ln) (hf : 0 ≤ f ∧ f ≤ 1000) : Call d 127 [zrf 172, zint lo, zint hi] (G, psr s p f) Q = Q (some (zint lo)) (G, psr s p f) := by
  have hg' := hg
  obtain ⟨g1, g2, g3, g4, g5, g6, g7, g8, g9, g10, g11, g12, g13, g14, g15, g16, g17, g18, g19, g20, g21, g22, g23, g24, g25, g26, g27, g28, g29, g30, g31, g32, g33, g34⟩ := hg'
  have ht' := ht
  obtain ⟨t1, t2, t3, t4⟩ := ht'
  rw [e127 (show 1 ≤ d by omega)]
  simp (disch := first | omega | exact rfl) only [↓u127_0, ↓u127_1, ↓u127_2, ↓u127_3, ↓u127_6, ↓u127_9, ↓u127_10, ↓u127_11, ↓u127_14, ↓u127_17, ↓u127_18, ↓u127_21, ↓u127_24, ↓u127_25, ↓u127_28, ↓u127_31, ↓u127_32, ↓u127_33, ↓u127_34, ↓u127_37, ↓u127_38, ↓u127_39, ↓u127_42, ↓u127_43, ↓u127_44, ↓u127_45, ↓u127_48, ↓u127_49, ↓lI_0, ↓lI_s, ↓lL_0, ↓lL_s, ↓lR_0, ↓lR_s, ↓sT_0, ↓sT_i, ↓sT_r, ↓sT_u, ↓sT_lu, ↓sU_0, ↓sU_i, ↓sU_r, ↓sU_u, ↓ite_bx, bx_T, bx_F, bx_pos, bx_neg, zws_i, zws_r, zws_l, zws_n, zCb_kc, xl_ll, xr_rr, xs_e, xset_e, Option.toList, List.cons_append, List.nil_append, zIb_e, zrng_e, nz_e, if_pos, if_neg, and_true, true_and, or_true, true_or, ite_self, bi_eq0, bi_eq1, bi_1, bi_0, bi_ir, bi_T, bi_F, up_eq, up_ne, ↓reduceIte, reduceIte, Nat.reduceAdd, Nat.reduceLeDiff, Nat.le_refl, Nat.zero_le, not_true_eq_false, not_false_eq_true, ne_eq, Int.reduceEq, Int.reduceLT, Int.reduceLE, Int.reduceAdd, Int.reduceSub, Int.reduceMul, Int.reduceNeg, pT g1, g2, g3, g4, g5, g6, g7, g8, g9, g10, g11, pT g12, zSb_e' g12, g13, pT g18, zSb_e' g18, g19, pT g31, zSb_e' g31, g32, psr_10, psr_11, psr_o, up_r10, up_r11, up_ro, t1, s126_f (show 2 ≤ d - 1 by omega) hg ht hp hf]
set_option maxRecDepth 8000 in
theorem x128 {d : Nat} {Q : Option AV → XH → Prop} {G : XS} {s : ZS} {tx : Int → Int} {ln p : Int} {md le mo v k : Int} (hd : 1 ≤ d) (hg : MOK G) (ht : TXR s tx ln) (hp : 0 ≤ p ∧ p ≤ ln) (hv : ir v) (hl : ir le) (hk : k ≠ 0) : Wp d 128 (83, [zrf 172, zint md, zint le, zint mo, zint v, zint k], [], (G, psr s p (-1))) Q = Q (some (zint v)) (G, psr s p (fz le k v p)) := by
  have hg' := hg
  obtain ⟨g1, g2, g3, g4, g5, g6, g7, g8, g9, g10, g11, g12, g13, g14, g15, g16, g17, g18, g19, g20, g21, g22, g23, g24, g25, g26, g27, g28, g29, g30, g31, g32, g33, g34⟩ := hg'
  have ht' := ht
  obtain ⟨t1, t2, t3, t4⟩ := ht'
  unfold fz
  rw [if_neg hk]
  by_cases q : v < le
  · rw [if_pos q]
    simp (disch := first | omega | exact rfl) only [↓u128_0, ↓u128_1, ↓u128_3, ↓u128_5, ↓u128_8, ↓u128_10, ↓u128_11, ↓u128_13, ↓u128_14, ↓u128_18, ↓u128_19, ↓u128_22, ↓u128_23, ↓u128_25, ↓u128_27, ↓u128_30, ↓u128_33, ↓u128_35, ↓u128_37, ↓u128_38, ↓u128_39, ↓u128_42, ↓u128_43, ↓u128_46, ↓u128_47, ↓u128_48, ↓u128_50, ↓u128_51, ↓u128_53, ↓u128_55, ↓u128_56, ↓u128_59, ↓u128_60, ↓u128_61, ↓u128_64, ↓u128_67, ↓u128_68, ↓u128_69, ↓u128_72, ↓u128_73, ↓u128_74, ↓u128_77, ↓u128_80, ↓u128_83, ↓u128_84, ↓u128_87, ↓u128_90, ↓u128_92, ↓u128_93, ↓u128_96, ↓u128_97, ↓u128_98, ↓u128_101, ↓u128_102, ↓u128_103, ↓u128_106, ↓u128_108, ↓lI_0, ↓lI_s, ↓lL_0, ↓lL_s, ↓lR_0, ↓lR_s, ↓sT_0, ↓sT_i, ↓sT_r, ↓sT_u, ↓sT_lu, ↓sU_0, ↓sU_i, ↓sU_r, ↓sU_u, ↓ite_bx, bx_T, bx_F, bx_pos, bx_neg, zws_i, zws_r, zws_l, zws_n, zCb_kc, xl_ll, xr_rr, xs_e, xset_e, Option.toList, List.cons_append, List.nil_append, zIb_e, zrng_e, nz_e, if_pos, if_neg, and_true, true_and, or_true, true_or, ite_self, bi_eq0, bi_eq1, bi_1, bi_0, bi_ir, bi_T, bi_F, up_eq, up_ne, ↓reduceIte, reduceIte, Nat.reduceAdd, Nat.reduceLeDiff, Nat.le_refl, Nat.zero_le, not_true_eq_false, not_false_eq_true, ne_eq, Int.reduceEq, Int.reduceLT, Int.reduceLE, Int.reduceAdd, Int.reduceSub, Int.reduceMul, Int.reduceNeg, pT g1, g2, g3, g4, g5, g6, g7, g8, g9, g10, g11, pT g12, zSb_e' g12, g13, pT g18, zSb_e' g18, g19, pT g31, zSb_e' g31, g32, psr_10, psr_11, psr_o, up_r10, up_r11, up_ro, t1]
  · rw [if_neg q]
    simp (disch := first | omega | exact rfl) only [↓u128_0, ↓u128_1, ↓u128_3, ↓u128_5, ↓u128_8, ↓u128_10, ↓u128_11, ↓u128_13, ↓u128_14, ↓u128_18, ↓u128_19, ↓u128_22, ↓u128_23, ↓u128_25, ↓u128_27, ↓u128_30, ↓u128_33, ↓u128_35, ↓u128_37, ↓u128_38, ↓u128_39, ↓u128_42, ↓u128_43, ↓u128_46, ↓u128_47, ↓u128_48, ↓u128_50, ↓u128_51, ↓u128_53, ↓u128_55, ↓u128_56, ↓u128_59, ↓u128_60, ↓u128_61, ↓u128_64, ↓u128_67, ↓u128_68, ↓u128_69, ↓u128_72, ↓u128_73, ↓u128_74, ↓u128_77, ↓u128_80, ↓u128_83, ↓u128_84, ↓u128_87, ↓u128_90, ↓u128_92, ↓u128_93, ↓u128_96, ↓u128_97, ↓u128_98, ↓u128_101, ↓u128_102, ↓u128_103, ↓u128_106, ↓u128_108, ↓lI_0, ↓lI_s, ↓lL_0, ↓lL_s, ↓lR_0, ↓lR_s, ↓sT_0, ↓sT_i, ↓sT_r, ↓sT_u, ↓sT_lu, ↓sU_0, ↓sU_i, ↓sU_r, ↓sU_u, ↓ite_bx, bx_T, bx_F, bx_pos, bx_neg, zws_i, zws_r, zws_l, zws_n, zCb_kc, xl_ll, xr_rr, xs_e, xset_e, Option.toList, List.cons_append, List.nil_append, zIb_e, zrng_e, nz_e, if_pos, if_neg, and_true, true_and, or_true, true_or, ite_self, bi_eq0, bi_eq1, bi_1, bi_0, bi_ir, bi_T, bi_F, up_eq, up_ne, ↓reduceIte, reduceIte, Nat.reduceAdd, Nat.reduceLeDiff, Nat.le_refl, Nat.zero_le, not_true_eq_false, not_false_eq_true, ne_eq, Int.reduceEq, Int.reduceLT, Int.reduceLE, Int.reduceAdd, Int.reduceSub, Int.reduceMul, Int.reduceNeg, pT g1, g2, g3, g4, g5, g6, g7, g8, g9, g10, g11, pT g12, zSb_e' g12, g13, pT g18, zSb_e' g18, g19, pT g31, zSb_e' g31, g32, psr_10, psr_11, psr_o, up_r10, up_r11, up_ro, t1]
set_option maxRecDepth 8000 in
theorem y128 {d : Nat} {Q : Option AV → XH → Prop} {G : XS} {s : ZS} {tx : Int → Int} {ln p : Int} {md le mo v k f : Int} (hd : 3 ≤ d) (hg : MOK G) (ht : TXR s tx ln) (hp : 0 ≤ p ∧ p ≤ ln) (hk : ir k) (hm : ir md) (hf : 0 ≤ f ∧ f ≤ 1000) : Wp (d - 1) 128 (16, [zrf 172, zint md, zint le, zint mo, zint v, zint k], [], (G, psr s p f)) Q = Q (some (zint v)) (G, psr s p f) := by
  have hg' := hg
  obtain ⟨g1, g2, g3, g4, g5, g6, g7, g8, g9, g10, g11, g12, g13, g14, g15, g16, g17, g18, g19, g20, g21, g22, g23, g24, g25, g26, g27, g28, g29, g30, g31, g32, g33, g34⟩ := hg'
  have ht' := ht
  obtain ⟨t1, t2, t3, t4⟩ := ht'
  rw [u128_16]
  by_cases q : md ≤ k
  · simp (disch := first | omega | exact rfl) only [↓u128_0, ↓u128_1, ↓u128_3, ↓u128_5, ↓u128_8, ↓u128_10, ↓u128_11, ↓u128_13, ↓u128_14, ↓u128_18, ↓u128_19, ↓u128_22, ↓u128_23, ↓u128_25, ↓u128_27, ↓u128_30, ↓u128_33, ↓u128_35, ↓u128_37, ↓u128_38, ↓u128_39, ↓u128_42, ↓u128_43, ↓u128_46, ↓u128_47, ↓u128_48, ↓u128_50, ↓u128_51, ↓u128_53, ↓u128_55, ↓u128_56, ↓u128_59, ↓u128_60, ↓u128_61, ↓u128_64, ↓u128_67, ↓u128_68, ↓u128_69, ↓u128_72, ↓u128_73, ↓u128_74, ↓u128_77, ↓u128_80, ↓u128_83, ↓u128_84, ↓u128_87, ↓u128_90, ↓u128_92, ↓u128_93, ↓u128_96, ↓u128_97, ↓u128_98, ↓u128_101, ↓u128_102, ↓u128_103, ↓u128_106, ↓u128_108, ↓lI_0, ↓lI_s, ↓lL_0, ↓lL_s, ↓lR_0, ↓lR_s, ↓sT_0, ↓sT_i, ↓sT_r, ↓sT_u, ↓sT_lu, ↓sU_0, ↓sU_i, ↓sU_r, ↓sU_u, ↓ite_bx, bx_T, bx_F, bx_pos, bx_neg, zws_i, zws_r, zws_l, zws_n, zCb_kc, xl_ll, xr_rr, xs_e, xset_e, Option.toList, List.cons_append, List.nil_append, zIb_e, zrng_e, nz_e, if_pos, if_neg, and_true, true_and, or_true, true_or, ite_self, bi_eq0, bi_eq1, bi_1, bi_0, bi_ir, bi_T, bi_F, up_eq, up_ne, ↓reduceIte, reduceIte, Nat.reduceAdd, Nat.reduceLeDiff, Nat.le_refl, Nat.zero_le, not_true_eq_false, not_false_eq_true, ne_eq, Int.reduceEq, Int.reduceLT, Int.reduceLE, Int.reduceAdd, Int.reduceSub, Int.reduceMul, Int.reduceNeg, pT g1, g2, g3, g4, g5, g6, g7, g8, g9, g10, g11, pT g12, zSb_e' g12, g13, pT g18, zSb_e' g18, g19, pT g31, zSb_e' g31, g32, psr_10, psr_11, psr_o, up_r10, up_r11, up_ro, t1]
  · simp (disch := first | omega | exact rfl) only [↓u128_0, ↓u128_1, ↓u128_3, ↓u128_5, ↓u128_8, ↓u128_10, ↓u128_11, ↓u128_13, ↓u128_14, ↓u128_18, ↓u128_19, ↓u128_22, ↓u128_23, ↓u128_25, ↓u128_27, ↓u128_30, ↓u128_33, ↓u128_35, ↓u128_37, ↓u128_38, ↓u128_39, ↓u128_42, ↓u128_43, ↓u128_46, ↓u128_47, ↓u128_48, ↓u128_50, ↓u128_51, ↓u128_53, ↓u128_55, ↓u128_56, ↓u128_59, ↓u128_60, ↓u128_61, ↓u128_64, ↓u128_67, ↓u128_68, ↓u128_69, ↓u128_72, ↓u128_73, ↓u128_74, ↓u128_77, ↓u128_80, ↓u128_83, ↓u128_84, ↓u128_87, ↓u128_90, ↓u128_92, ↓u128_93, ↓u128_96, ↓u128_97, ↓u128_98, ↓u128_101, ↓u128_102, ↓u128_103, ↓u128_106, ↓u128_108, ↓lI_0, ↓lI_s, ↓lL_0, ↓lL_s, ↓lR_0, ↓lR_s, ↓sT_0, ↓sT_i, ↓sT_r, ↓sT_u, ↓sT_lu, ↓sU_0, ↓sU_i, ↓sU_r, ↓sU_u, ↓ite_bx, bx_T, bx_F, bx_pos, bx_neg, zws_i, zws_r, zws_l, zws_n, zCb_kc, xl_ll, xr_rr, xs_e, xset_e, Option.toList, List.cons_append, List.nil_append, zIb_e, zrng_e, nz_e, if_pos, if_neg, and_true, true_and, or_true, true_or, ite_self, bi_eq0, bi_eq1, bi_1, bi_0, bi_ir, bi_T, bi_F, up_eq, up_ne, ↓reduceIte, reduceIte, Nat.reduceAdd, Nat.reduceLeDiff, Nat.le_refl, Nat.zero_le, not_true_eq_false, not_false_eq_true, ne_eq, Int.reduceEq, Int.reduceLT, Int.reduceLE, Int.reduceAdd, Int.reduceSub, Int.reduceMul, Int.reduceNeg, pT g1, g2, g3, g4, g5, g6, g7, g8, g9, g10, g11, pT g12, zSb_e' g12, g13, pT g18, zSb_e' g18, g19, pT g31, zSb_e' g31, g32, psr_10, psr_11, psr_o, up_r10, up_r11, up_ro, t1, s126_f (show 2 ≤ d - 1 by omega) hg ht hp hf]
set_option maxRecDepth 8000 in
theorem l128 {d : Nat} {Q : Option AV → XH → Prop} {G : XS} {s : ZS} {tx : Int → Int} {ln md le mo : Int} (hd : 3 ≤ d) (hg : MOK G) (ht : TXR s tx ln) (hl : 0 ≤ le ∧ le ≤ 1) (hm : 1 ≤ mo ∧ mo ≤ 127) (hmd : md ≤ 3) : ∀ (n : Nat) (k v p v' p' f' : Int), k + n = md → 1 ≤ k → (0 ≤ v ∧ v ≤ mo) → (0 ≤ p ∧ p ≤ ln) → nmq tx ln le mo n k v p = (v', p', f') → Wp (d - 1) 128 (16, [zrf 172, zint md, zint le, zint mo, zint v, zint k], [], (G, psr s p (-1))) Q = Q (some (zint v')) (G, psr s p' f') := by
  have hg' := hg
  obtain ⟨g1, g2, g3, g4, g5, g6, g7, g8, g9, g10, g11, g12, g13, g14, g15, g16, g17, g18, g19, g20, g21, g22, g23, g24, g25, g26, g27, g28, g29, g30, g31, g32, g33, g34⟩ := hg'
  have ht' := ht
  obtain ⟨t1, t2, t3, t4⟩ := ht'
  intro n
  induction n with
  | zero =>
    intro k v p v' p' f' h1 h2 h3 hp h
    rw [nmq_0] at h
    cases h
    have x := x128 (d := d - 1) (Q := Q) (md := md) (mo := mo) (v := v) (k := k) (by omega) hg ht hp (by omega) (show ir le by omega) (by omega)
    rw [u128_16]
    simp (disch := first | omega | exact rfl) only [↓u128_0, ↓u128_1, ↓u128_3, ↓u128_5, ↓u128_8, ↓u128_10, ↓u128_11, ↓u128_13, ↓u128_14, ↓u128_18, ↓u128_19, ↓u128_22, ↓u128_23, ↓u128_25, ↓u128_27, ↓u128_30, ↓u128_33, ↓u128_35, ↓u128_37, ↓u128_38, ↓u128_39, ↓u128_42, ↓u128_43, ↓u128_46, ↓u128_47, ↓u128_48, ↓u128_50, ↓u128_51, ↓u128_53, ↓u128_55, ↓u128_56, ↓u128_59, ↓u128_60, ↓u128_61, ↓u128_64, ↓u128_67, ↓u128_68, ↓u128_69, ↓u128_72, ↓u128_73, ↓u128_74, ↓u128_77, ↓u128_80, ↓u128_84, ↓u128_87, ↓u128_90, ↓u128_92, ↓u128_93, ↓u128_96, ↓u128_97, ↓u128_98, ↓u128_101, ↓u128_102, ↓u128_103, ↓u128_106, ↓u128_108, ↓lI_0, ↓lI_s, ↓lL_0, ↓lL_s, ↓lR_0, ↓lR_s, ↓sT_0, ↓sT_i, ↓sT_r, ↓sT_u, ↓sT_lu, ↓sU_0, ↓sU_i, ↓sU_r, ↓sU_u, ↓ite_bx, bx_T, bx_F, bx_pos, bx_neg, zws_i, zws_r, zws_l, zws_n, zCb_kc, xl_ll, xr_rr, xs_e, xset_e, Option.toList, List.cons_append, List.nil_append, zIb_e, zrng_e, nz_e, if_pos, if_neg, and_true, true_and, or_true, true_or, ite_self, bi_eq0, bi_eq1, bi_1, bi_0, bi_ir, bi_T, bi_F, up_eq, up_ne, ↓reduceIte, reduceIte, Nat.reduceAdd, Nat.reduceLeDiff, Nat.le_refl, Nat.zero_le, not_true_eq_false, not_false_eq_true, ne_eq, Int.reduceEq, Int.reduceLT, Int.reduceLE, Int.reduceAdd, Int.reduceSub, Int.reduceMul, Int.reduceNeg, pT g1, g2, g3, g4, g5, g6, g7, g8, g9, g10, g11, pT g12, zSb_e' g12, g13, pT g18, zSb_e' g18, g19, pT g31, zSb_e' g31, g32, psr_10, psr_11, psr_o, up_r10, up_r11, up_ro, t1, x]
  | succ n ih =>
    intro k v p v' p' f' h1 h2 h3 hp h
    have sb := sgr_b (p := p) ht
    rw [u128_16]
    by_cases q : isd (sg tx ln p)
    · have hl2 := sg_l (tx := tx) (ln := ln) (p := p) (by omega)
      have e := sg_i (tx := tx) (ln := ln) (p := p) hl2
      have e3 := t3 p hl2
      rw [← e] at e3
      have ev : 10 * v + sg tx ln p - 48 = v * 10 + sg tx ln p - 48 := by omega
      have b48 : bi (48 ≤ sg tx ln p ∧ sg tx ln p ≤ 57) = 1 := bi_1 q
      by_cases q2 : mo < v * 10 + sg tx ln p - 48
      · rw [nmq_x q q2] at h
        cases h
        have y := y128 (Q := Q) (p := p + 1) (md := md) (le := le) (mo := mo) (v := v * 10 + sg tx ln p - 48) (k := k + 1) (f := p) hd hg ht (by omega) (by omega) (by omega) (by omega)
        simp (disch := first | omega | exact rfl) only [↓u128_0, ↓u128_1, ↓u128_3, ↓u128_5, ↓u128_8, ↓u128_10, ↓u128_11, ↓u128_13, ↓u128_14, ↓u128_18, ↓u128_19, ↓u128_22, ↓u128_23, ↓u128_25, ↓u128_27, ↓u128_30, ↓u128_33, ↓u128_35, ↓u128_37, ↓u128_38, ↓u128_39, ↓u128_42, ↓u128_43, ↓u128_46, ↓u128_47, ↓u128_48, ↓u128_50, ↓u128_51, ↓u128_53, ↓u128_55, ↓u128_56, ↓u128_59, ↓u128_60, ↓u128_61, ↓u128_64, ↓u128_67, ↓u128_68, ↓u128_69, ↓u128_72, ↓u128_73, ↓u128_74, ↓u128_77, ↓u128_80, ↓u128_84, ↓u128_87, ↓u128_90, ↓u128_92, ↓u128_93, ↓u128_96, ↓u128_97, ↓u128_98, ↓u128_101, ↓u128_102, ↓u128_103, ↓u128_106, ↓u128_108, ↓lI_0, ↓lI_s, ↓lL_0, ↓lL_s, ↓lR_0, ↓lR_s, ↓sT_0, ↓sT_i, ↓sT_r, ↓sT_u, ↓sT_lu, ↓sU_0, ↓sU_i, ↓sU_r, ↓sU_u, ↓ite_bx, bx_T, bx_F, bx_pos, bx_neg, zws_i, zws_r, zws_l, zws_n, zCb_kc, xl_ll, xr_rr, xs_e, xset_e, Option.toList, List.cons_append, List.nil_append, zIb_e, zrng_e, nz_e, if_pos, if_neg, and_true, true_and, or_true, true_or, ite_self, bi_eq0, bi_eq1, bi_1, bi_0, bi_ir, bi_T, bi_F, up_eq, up_ne, ↓reduceIte, reduceIte, Nat.reduceAdd, Nat.reduceLeDiff, Nat.le_refl, Nat.zero_le, not_true_eq_false, not_false_eq_true, ne_eq, Int.reduceEq, Int.reduceLT, Int.reduceLE, Int.reduceAdd, Int.reduceSub, Int.reduceMul, Int.reduceNeg, pT g1, g2, g3, g4, g5, g6, g7, g8, g9, g10, g11, pT g12, zSb_e' g12, g13, pT g18, zSb_e' g18, g19, pT g31, zSb_e' g31, g32, psr_10, psr_11, psr_o, up_r10, up_r11, up_ro, t1, s126_y (show 2 ≤ d - 1 by omega) hg ht hp, b48, e3, ev, y]
      · rw [nmq_s q q2] at h
        have ih2 := ih (k + 1) (v * 10 + sg tx ln p - 48) (p + 1) v' p' f' (by omega) (by omega) (by omega) (by omega) h
        simp (disch := first | omega | exact rfl) only [↓u128_0, ↓u128_1, ↓u128_3, ↓u128_5, ↓u128_8, ↓u128_10, ↓u128_11, ↓u128_13, ↓u128_14, ↓u128_18, ↓u128_19, ↓u128_22, ↓u128_23, ↓u128_25, ↓u128_27, ↓u128_30, ↓u128_33, ↓u128_35, ↓u128_37, ↓u128_38, ↓u128_39, ↓u128_42, ↓u128_43, ↓u128_46, ↓u128_47, ↓u128_48, ↓u128_50, ↓u128_51, ↓u128_53, ↓u128_55, ↓u128_56, ↓u128_59, ↓u128_60, ↓u128_61, ↓u128_64, ↓u128_67, ↓u128_68, ↓u128_69, ↓u128_72, ↓u128_73, ↓u128_74, ↓u128_77, ↓u128_80, ↓u128_84, ↓u128_87, ↓u128_90, ↓u128_92, ↓u128_93, ↓u128_96, ↓u128_97, ↓u128_98, ↓u128_101, ↓u128_102, ↓u128_103, ↓u128_106, ↓u128_108, ↓lI_0, ↓lI_s, ↓lL_0, ↓lL_s, ↓lR_0, ↓lR_s, ↓sT_0, ↓sT_i, ↓sT_r, ↓sT_u, ↓sT_lu, ↓sU_0, ↓sU_i, ↓sU_r, ↓sU_u, ↓ite_bx, bx_T, bx_F, bx_pos, bx_neg, zws_i, zws_r, zws_l, zws_n, zCb_kc, xl_ll, xr_rr, xs_e, xset_e, Option.toList, List.cons_append, List.nil_append, zIb_e, zrng_e, nz_e, if_pos, if_neg, and_true, true_and, or_true, true_or, ite_self, bi_eq0, bi_eq1, bi_1, bi_0, bi_ir, bi_T, bi_F, up_eq, up_ne, ↓reduceIte, reduceIte, Nat.reduceAdd, Nat.reduceLeDiff, Nat.le_refl, Nat.zero_le, not_true_eq_false, not_false_eq_true, ne_eq, Int.reduceEq, Int.reduceLT, Int.reduceLE, Int.reduceAdd, Int.reduceSub, Int.reduceMul, Int.reduceNeg, pT g1, g2, g3, g4, g5, g6, g7, g8, g9, g10, g11, pT g12, zSb_e' g12, g13, pT g18, zSb_e' g18, g19, pT g31, zSb_e' g31, g32, psr_10, psr_11, psr_o, up_r10, up_r11, up_ro, t1, s126_y (show 2 ≤ d - 1 by omega) hg ht hp, b48, e3, ev, ih2]
    · rw [nmq_n q] at h
      cases h
      have b48 : bi (48 ≤ sg tx ln p ∧ sg tx ln p ≤ 57) = 0 := bi_0 q
      have x := x128 (d := d - 1) (Q := Q) (md := md) (mo := mo) (v := v) (k := k) (by omega) hg ht hp (by omega) (show ir le by omega) (by omega)
      simp (disch := first | omega | exact rfl) only [↓u128_0, ↓u128_1, ↓u128_3, ↓u128_5, ↓u128_8, ↓u128_10, ↓u128_11, ↓u128_13, ↓u128_14, ↓u128_18, ↓u128_19, ↓u128_22, ↓u128_23, ↓u128_25, ↓u128_27, ↓u128_30, ↓u128_33, ↓u128_35, ↓u128_37, ↓u128_38, ↓u128_39, ↓u128_42, ↓u128_43, ↓u128_46, ↓u128_47, ↓u128_48, ↓u128_50, ↓u128_51, ↓u128_53, ↓u128_55, ↓u128_56, ↓u128_59, ↓u128_60, ↓u128_61, ↓u128_64, ↓u128_67, ↓u128_68, ↓u128_69, ↓u128_72, ↓u128_73, ↓u128_74, ↓u128_77, ↓u128_80, ↓u128_84, ↓u128_87, ↓u128_90, ↓u128_92, ↓u128_93, ↓u128_96, ↓u128_97, ↓u128_98, ↓u128_101, ↓u128_102, ↓u128_103, ↓u128_106, ↓u128_108, ↓lI_0, ↓lI_s, ↓lL_0, ↓lL_s, ↓lR_0, ↓lR_s, ↓sT_0, ↓sT_i, ↓sT_r, ↓sT_u, ↓sT_lu, ↓sU_0, ↓sU_i, ↓sU_r, ↓sU_u, ↓ite_bx, bx_T, bx_F, bx_pos, bx_neg, zws_i, zws_r, zws_l, zws_n, zCb_kc, xl_ll, xr_rr, xs_e, xset_e, Option.toList, List.cons_append, List.nil_append, zIb_e, zrng_e, nz_e, if_pos, if_neg, and_true, true_and, or_true, true_or, ite_self, bi_eq0, bi_eq1, bi_1, bi_0, bi_ir, bi_T, bi_F, up_eq, up_ne, ↓reduceIte, reduceIte, Nat.reduceAdd, Nat.reduceLeDiff, Nat.le_refl, Nat.zero_le, not_true_eq_false, not_false_eq_true, ne_eq, Int.reduceEq, Int.reduceLT, Int.reduceLE, Int.reduceAdd, Int.reduceSub, Int.reduceMul, Int.reduceNeg, pT g1, g2, g3, g4, g5, g6, g7, g8, g9, g10, g11, pT g12, zSb_e' g12, g13, pT g18, zSb_e' g18, g19, pT g31, zSb_e' g31, g32, psr_10, psr_11, psr_o, up_r10, up_r11, up_ro, t1, s126_y (show 2 ≤ d - 1 by omega) hg ht hp, b48, x]
set_option maxRecDepth 8000 in
theorem s128_y {d : Nat} {Q : Option AV → XH → Prop} {G : XS} {s : ZS} {tx : Int → Int} {ln p : Int} {n : Nat} {md le mo v' p' f' : Int} (hd : 4 ≤ d) (hg : MOK G) (ht : TXR s tx ln) (hp : 0 ≤ p ∧ p ≤ ln) (hl : 0 ≤ le ∧ le ≤ 1) (hm : 9 ≤ mo ∧ mo ≤ 127) (hmd : md ≤ 3) (hn : md = n + 1) (h : nmq tx ln le mo (n + 1) 0 0 p = (v', p', f')) : Call d 128 [zrf 172, zint md, zint le, zint mo] (G, psr s p (-1)) Q = Q (some (zint v')) (G, psr s p' f') := by
  have hg' := hg
  obtain ⟨g1, g2, g3, g4, g5, g6, g7, g8, g9, g10, g11, g12, g13, g14, g15, g16, g17, g18, g19, g20, g21, g22, g23, g24, g25, g26, g27, g28, g29, g30, g31, g32, g33, g34⟩ := hg'
  have ht' := ht
  obtain ⟨t1, t2, t3, t4⟩ := ht'
  have sb := sgr_b (p := p) ht
  rw [e128 (show 1 ≤ d by omega)]
  by_cases q : isd (sg tx ln p)
  · have hl2 := sg_l (tx := tx) (ln := ln) (p := p) (by omega)
    rw [nmq_s q (by omega), show (0 : Int) * 10 + sg tx ln p - 48 = sg tx ln p - 48 by omega] at h
    have l0 := l128 (d := d) (Q := Q) (md := md) (by omega) hg ht hl ⟨by omega, hm.2⟩ hmd n (0 + 1) (sg tx ln p - 48) (p + 1) v' p' f' (by omega) (by omega) (by omega) (by omega) h
    rw [Int.zero_add] at l0
    simp (disch := first | omega | exact rfl) only [↓u128_0, ↓u128_1, ↓u128_3, ↓u128_5, ↓u128_8, ↓u128_10, ↓u128_11, ↓u128_13, ↓u128_14, ↓u128_18, ↓u128_19, ↓u128_22, ↓u128_23, ↓u128_25, ↓u128_27, ↓u128_30, ↓u128_33, ↓u128_35, ↓u128_37, ↓u128_38, ↓u128_39, ↓u128_42, ↓u128_43, ↓u128_46, ↓u128_47, ↓u128_48, ↓u128_50, ↓u128_51, ↓u128_53, ↓u128_55, ↓u128_56, ↓u128_59, ↓u128_60, ↓u128_61, ↓u128_64, ↓u128_67, ↓u128_68, ↓u128_69, ↓u128_72, ↓u128_73, ↓u128_74, ↓u128_77, ↓u128_80, ↓u128_83, ↓u128_84, ↓u128_87, ↓u128_90, ↓u128_92, ↓u128_93, ↓u128_96, ↓u128_97, ↓u128_98, ↓u128_101, ↓u128_102, ↓u128_103, ↓u128_106, ↓u128_108, ↓lI_0, ↓lI_s, ↓lL_0, ↓lL_s, ↓lR_0, ↓lR_s, ↓sT_0, ↓sT_i, ↓sT_r, ↓sT_u, ↓sT_lu, ↓sU_0, ↓sU_i, ↓sU_r, ↓sU_u, ↓ite_bx, bx_T, bx_F, bx_pos, bx_neg, zws_i, zws_r, zws_l, zws_n, zCb_kc, xl_ll, xr_rr, xs_e, xset_e, Option.toList, List.cons_append, List.nil_append, zIb_e, zrng_e, nz_e, if_pos, if_neg, and_true, true_and, or_true, true_or, ite_self, bi_eq0, bi_eq1, bi_1, bi_0, bi_ir, bi_T, bi_F, up_eq, up_ne, ↓reduceIte, reduceIte, Nat.reduceAdd, Nat.reduceLeDiff, Nat.le_refl, Nat.zero_le, not_true_eq_false, not_false_eq_true, ne_eq, Int.reduceEq, Int.reduceLT, Int.reduceLE, Int.reduceAdd, Int.reduceSub, Int.reduceMul, Int.reduceNeg, pT g1, g2, g3, g4, g5, g6, g7, g8, g9, g10, g11, pT g12, zSb_e' g12, g13, pT g18, zSb_e' g18, g19, pT g31, zSb_e' g31, g32, psr_10, psr_11, psr_o, up_r10, up_r11, up_ro, t1, s127_y (show 3 ≤ d - 1 by omega) hg ht hp (show (0 : Int) ≤ 48 ∧ ir 48 by omega) (show ir 57 by omega) q, l0]
  · rw [nmq_n q] at h
    cases h
    have y := y128 (d := d) (Q := Q) (md := md) (le := le) (mo := mo) (v := 0) (k := 1) (f := p) (by omega) hg ht hp (by omega) (by omega) (by omega)
    rw [show fz le 0 0 p = p from if_pos rfl]
    simp (disch := first | omega | exact rfl) only [↓u128_0, ↓u128_1, ↓u128_3, ↓u128_5, ↓u128_8, ↓u128_10, ↓u128_11, ↓u128_13, ↓u128_14, ↓u128_18, ↓u128_19, ↓u128_22, ↓u128_23, ↓u128_25, ↓u128_27, ↓u128_30, ↓u128_33, ↓u128_35, ↓u128_37, ↓u128_38, ↓u128_39, ↓u128_42, ↓u128_43, ↓u128_46, ↓u128_47, ↓u128_48, ↓u128_50, ↓u128_51, ↓u128_53, ↓u128_55, ↓u128_56, ↓u128_59, ↓u128_60, ↓u128_61, ↓u128_64, ↓u128_67, ↓u128_68, ↓u128_69, ↓u128_72, ↓u128_73, ↓u128_74, ↓u128_77, ↓u128_80, ↓u128_83, ↓u128_84, ↓u128_87, ↓u128_90, ↓u128_92, ↓u128_93, ↓u128_96, ↓u128_97, ↓u128_98, ↓u128_101, ↓u128_102, ↓u128_103, ↓u128_106, ↓u128_108, ↓lI_0, ↓lI_s, ↓lL_0, ↓lL_s, ↓lR_0, ↓lR_s, ↓sT_0, ↓sT_i, ↓sT_r, ↓sT_u, ↓sT_lu, ↓sU_0, ↓sU_i, ↓sU_r, ↓sU_u, ↓ite_bx, bx_T, bx_F, bx_pos, bx_neg, zws_i, zws_r, zws_l, zws_n, zCb_kc, xl_ll, xr_rr, xs_e, xset_e, Option.toList, List.cons_append, List.nil_append, zIb_e, zrng_e, nz_e, if_pos, if_neg, and_true, true_and, or_true, true_or, ite_self, bi_eq0, bi_eq1, bi_1, bi_0, bi_ir, bi_T, bi_F, up_eq, up_ne, ↓reduceIte, reduceIte, Nat.reduceAdd, Nat.reduceLeDiff, Nat.le_refl, Nat.zero_le, not_true_eq_false, not_false_eq_true, ne_eq, Int.reduceEq, Int.reduceLT, Int.reduceLE, Int.reduceAdd, Int.reduceSub, Int.reduceMul, Int.reduceNeg, pT g1, g2, g3, g4, g5, g6, g7, g8, g9, g10, g11, pT g12, zSb_e' g12, g13, pT g18, zSb_e' g18, g19, pT g31, zSb_e' g31, g32, psr_10, psr_11, psr_o, up_r10, up_r11, up_ro, t1, s127_n (show 3 ≤ d - 1 by omega) hg ht hp (show (0 : Int) ≤ 48 ∧ ir 48 by omega) (show ir 57 by omega) q, y]
set_option maxRecDepth 8000 in
theorem s128_f {d : Nat} {Q : Option AV → XH → Prop} {G : XS} {s : ZS} {tx : Int → Int} {ln p : Int} {md le mo f : Int} (hd : 4 ≤ d) (hg : MOK G) (ht : TXR s tx ln) (hp : 0 ≤ p ∧ p ≤ ln) (hmd : ir md) (hf : 0 ≤ f ∧ f ≤ 1000) : Call d 128 [zrf 172, zint md, zint le, zint mo] (G, psr s p f) Q = Q (some (zint 0)) (G, psr s p f) := by
  have hg' := hg
  obtain ⟨g1, g2, g3, g4, g5, g6, g7, g8, g9, g10, g11, g12, g13, g14, g15, g16, g17, g18, g19, g20, g21, g22, g23, g24, g25, g26, g27, g28, g29, g30, g31, g32, g33, g34⟩ := hg'
  have ht' := ht
  obtain ⟨t1, t2, t3, t4⟩ := ht'
  rw [e128 (show 1 ≤ d by omega)]
  have y := y128 (d := d) (Q := Q) (md := md) (le := le) (mo := mo) (v := 0) (k := 1) (f := f) (by omega) hg ht hp (by omega) hmd hf
  simp (disch := first | omega | exact rfl) only [↓u128_0, ↓u128_1, ↓u128_3, ↓u128_5, ↓u128_8, ↓u128_10, ↓u128_11, ↓u128_13, ↓u128_14, ↓u128_18, ↓u128_19, ↓u128_22, ↓u128_23, ↓u128_25, ↓u128_27, ↓u128_30, ↓u128_33, ↓u128_35, ↓u128_37, ↓u128_38, ↓u128_39, ↓u128_42, ↓u128_43, ↓u128_46, ↓u128_47, ↓u128_48, ↓u128_50, ↓u128_51, ↓u128_53, ↓u128_55, ↓u128_56, ↓u128_59, ↓u128_60, ↓u128_61, ↓u128_64, ↓u128_67, ↓u128_68, ↓u128_69, ↓u128_72, ↓u128_73, ↓u128_74, ↓u128_77, ↓u128_80, ↓u128_83, ↓u128_84, ↓u128_87, ↓u128_90, ↓u128_92, ↓u128_93, ↓u128_96, ↓u128_97, ↓u128_98, ↓u128_101, ↓u128_102, ↓u128_103, ↓u128_106, ↓u128_108, ↓lI_0, ↓lI_s, ↓lL_0, ↓lL_s, ↓lR_0, ↓lR_s, ↓sT_0, ↓sT_i, ↓sT_r, ↓sT_u, ↓sT_lu, ↓sU_0, ↓sU_i, ↓sU_r, ↓sU_u, ↓ite_bx, bx_T, bx_F, bx_pos, bx_neg, zws_i, zws_r, zws_l, zws_n, zCb_kc, xl_ll, xr_rr, xs_e, xset_e, Option.toList, List.cons_append, List.nil_append, zIb_e, zrng_e, nz_e, if_pos, if_neg, and_true, true_and, or_true, true_or, ite_self, bi_eq0, bi_eq1, bi_1, bi_0, bi_ir, bi_T, bi_F, up_eq, up_ne, ↓reduceIte, reduceIte, Nat.reduceAdd, Nat.reduceLeDiff, Nat.le_refl, Nat.zero_le, not_true_eq_false, not_false_eq_true, ne_eq, Int.reduceEq, Int.reduceLT, Int.reduceLE, Int.reduceAdd, Int.reduceSub, Int.reduceMul, Int.reduceNeg, pT g1, g2, g3, g4, g5, g6, g7, g8, g9, g10, g11, pT g12, zSb_e' g12, g13, pT g18, zSb_e' g18, g19, pT g31, zSb_e' g31, g32, psr_10, psr_11, psr_o, up_r10, up_r11, up_ro, t1, s127_f (show 3 ≤ d - 1 by omega) hg ht hp hf, y]
set_option maxRecDepth 8000 in
theorem kv_i {c : Int} : (c = 98 → kv c = 0) ∧ (c = 109 → kv c = 1) ∧ (c = 111 → kv c = 2) ∧ (c = 119 → kv c = 3) ∧ (c ≠ 98 → c ≠ 109 → c ≠ 111 → c ≠ 119 → kv c = -1) := by
  unfold kv
  refine ⟨fun h => by rw [h]; rfl, fun h => by rw [h]; rfl, fun h => by rw [h]; rfl, fun h => by rw [h]; rfl, fun h1 h2 h3 h4 => ?_⟩
  rw [if_neg h1, if_neg h2, if_neg h3, if_neg h4]
set_option maxRecDepth 8000 in
theorem s129_y {d : Nat} {Q : Option AV → XH → Prop} {G : XS} {s : ZS} {tx : Int → Int} {ln p : Int} (hd : 4 ≤ d) (hg : MOK G) (ht : TXR s tx ln) (hp : 0 ≤ p ∧ p ≤ ln) (q : 0 ≤ kv (sg tx ln p)) : Call d 129 [zrf 172] (G, psr s p (-1)) Q = Q (some (zint (kv (sg tx ln p)))) (G, psr s (p + 1) (-1)) := by
  have hg' := hg
  obtain ⟨g1, g2, g3, g4, g5, g6, g7, g8, g9, g10, g11, g12, g13, g14, g15, g16, g17, g18, g19, g20, g21, g22, g23, g24, g25, g26, g27, g28, g29, g30, g31, g32, g33, g34⟩ := hg'
  have ht' := ht
  obtain ⟨t1, t2, t3, t4⟩ := ht'
  have sb := sgr_b (p := p) ht
  have kb := kv_b (sg tx ln p)
  have hl2 := sg_l (tx := tx) (ln := ln) (p := p) (by omega)
  have e := sg_i (tx := tx) (ln := ln) (p := p) hl2
  have e3 := t3 p hl2
  rw [← e] at e3
  have kk := kv_i (c := sg tx ln p)
  have m1 := fun Q (q : (111 : Int) ≤ sg tx ln p ∧ sg tx ln p ≤ 111) => s127_y (d := d - 1) (Q := Q) (lo := 111) (hi := 111) (by omega) hg ht hp (by omega) (by omega) q
  rw [e129 (show 1 ≤ d by omega)]
  by_cases c1 : sg tx ln p = 98
  · rw [kk.1 c1]
    simp (disch := first | omega | exact rfl) only [↓u129_0, ↓u129_1, ↓u129_3, ↓u129_5, ↓u129_8, ↓u129_11, ↓u129_12, ↓u129_14, ↓u129_16, ↓u129_19, ↓u129_22, ↓u129_23, ↓u129_25, ↓u129_27, ↓u129_30, ↓u129_33, ↓u129_34, ↓u129_37, ↓u129_38, ↓u129_39, ↓u129_42, ↓u129_43, ↓u129_44, ↓u129_45, ↓u129_48, ↓u129_49, ↓u129_52, ↓u129_53, ↓u129_55, ↓u129_57, ↓u129_60, ↓u129_61, ↓u129_62, ↓u129_64, ↓u129_67, ↓u129_68, ↓u129_71, ↓u129_72, ↓u129_74, ↓u129_77, ↓u129_78, ↓u129_81, ↓u129_82, ↓u129_84, ↓u129_87, ↓u129_88, ↓u129_91, ↓u129_92, ↓lI_0, ↓lI_s, ↓lL_0, ↓lL_s, ↓lR_0, ↓lR_s, ↓sT_0, ↓sT_i, ↓sT_r, ↓sT_u, ↓sT_lu, ↓sU_0, ↓sU_i, ↓sU_r, ↓sU_u, ↓ite_bx, bx_T, bx_F, bx_pos, bx_neg, zws_i, zws_r, zws_l, zws_n, zCb_kc, xl_ll, xr_rr, xs_e, xset_e, Option.toList, List.cons_append, List.nil_append, zIb_e, zrng_e, nz_e, if_pos, if_neg, and_true, true_and, or_true, true_or, ite_self, bi_eq0, bi_eq1, bi_1, bi_0, bi_ir, bi_T, bi_F, up_eq, up_ne, ↓reduceIte, reduceIte, Nat.reduceAdd, Nat.reduceLeDiff, Nat.le_refl, Nat.zero_le, not_true_eq_false, not_false_eq_true, ne_eq, Int.reduceEq, Int.reduceLT, Int.reduceLE, Int.reduceAdd, Int.reduceSub, Int.reduceMul, Int.reduceNeg, pT g1, g2, g3, g4, g5, g6, g7, g8, g9, g10, g11, pT g12, zSb_e' g12, g13, pT g18, zSb_e' g18, g19, pT g31, zSb_e' g31, g32, psr_10, psr_11, psr_o, up_r10, up_r11, up_ro, t1, s126_y (show 2 ≤ d - 1 by omega) hg ht hp, e3, e, c1]
  · by_cases c2 : sg tx ln p = 109
    · rw [kk.2.1 c2]
      simp (disch := first | omega | exact rfl) only [↓u129_0, ↓u129_1, ↓u129_3, ↓u129_5, ↓u129_8, ↓u129_11, ↓u129_12, ↓u129_14, ↓u129_16, ↓u129_19, ↓u129_22, ↓u129_23, ↓u129_25, ↓u129_27, ↓u129_30, ↓u129_33, ↓u129_34, ↓u129_37, ↓u129_38, ↓u129_39, ↓u129_42, ↓u129_43, ↓u129_44, ↓u129_45, ↓u129_48, ↓u129_49, ↓u129_52, ↓u129_53, ↓u129_55, ↓u129_57, ↓u129_60, ↓u129_61, ↓u129_62, ↓u129_64, ↓u129_67, ↓u129_68, ↓u129_71, ↓u129_72, ↓u129_74, ↓u129_77, ↓u129_78, ↓u129_81, ↓u129_82, ↓u129_84, ↓u129_87, ↓u129_88, ↓u129_91, ↓u129_92, ↓lI_0, ↓lI_s, ↓lL_0, ↓lL_s, ↓lR_0, ↓lR_s, ↓sT_0, ↓sT_i, ↓sT_r, ↓sT_u, ↓sT_lu, ↓sU_0, ↓sU_i, ↓sU_r, ↓sU_u, ↓ite_bx, bx_T, bx_F, bx_pos, bx_neg, zws_i, zws_r, zws_l, zws_n, zCb_kc, xl_ll, xr_rr, xs_e, xset_e, Option.toList, List.cons_append, List.nil_append, zIb_e, zrng_e, nz_e, if_pos, if_neg, and_true, true_and, or_true, true_or, ite_self, bi_eq0, bi_eq1, bi_1, bi_0, bi_ir, bi_T, bi_F, up_eq, up_ne, ↓reduceIte, reduceIte, Nat.reduceAdd, Nat.reduceLeDiff, Nat.le_refl, Nat.zero_le, not_true_eq_false, not_false_eq_true, ne_eq, Int.reduceEq, Int.reduceLT, Int.reduceLE, Int.reduceAdd, Int.reduceSub, Int.reduceMul, Int.reduceNeg, pT g1, g2, g3, g4, g5, g6, g7, g8, g9, g10, g11, pT g12, zSb_e' g12, g13, pT g18, zSb_e' g18, g19, pT g31, zSb_e' g31, g32, psr_10, psr_11, psr_o, up_r10, up_r11, up_ro, t1, s126_y (show 2 ≤ d - 1 by omega) hg ht hp, e3, e, c2]
    · by_cases c4 : sg tx ln p = 119
      · rw [kk.2.2.2.1 c4]
        simp (disch := first | omega | exact rfl) only [↓u129_0, ↓u129_1, ↓u129_3, ↓u129_5, ↓u129_8, ↓u129_11, ↓u129_12, ↓u129_14, ↓u129_16, ↓u129_19, ↓u129_22, ↓u129_23, ↓u129_25, ↓u129_27, ↓u129_30, ↓u129_33, ↓u129_34, ↓u129_37, ↓u129_38, ↓u129_39, ↓u129_42, ↓u129_43, ↓u129_44, ↓u129_45, ↓u129_48, ↓u129_49, ↓u129_52, ↓u129_53, ↓u129_55, ↓u129_57, ↓u129_60, ↓u129_61, ↓u129_62, ↓u129_64, ↓u129_67, ↓u129_68, ↓u129_71, ↓u129_72, ↓u129_74, ↓u129_77, ↓u129_78, ↓u129_81, ↓u129_82, ↓u129_84, ↓u129_87, ↓u129_88, ↓u129_91, ↓u129_92, ↓lI_0, ↓lI_s, ↓lL_0, ↓lL_s, ↓lR_0, ↓lR_s, ↓sT_0, ↓sT_i, ↓sT_r, ↓sT_u, ↓sT_lu, ↓sU_0, ↓sU_i, ↓sU_r, ↓sU_u, ↓ite_bx, bx_T, bx_F, bx_pos, bx_neg, zws_i, zws_r, zws_l, zws_n, zCb_kc, xl_ll, xr_rr, xs_e, xset_e, Option.toList, List.cons_append, List.nil_append, zIb_e, zrng_e, nz_e, if_pos, if_neg, and_true, true_and, or_true, true_or, ite_self, bi_eq0, bi_eq1, bi_1, bi_0, bi_ir, bi_T, bi_F, up_eq, up_ne, ↓reduceIte, reduceIte, Nat.reduceAdd, Nat.reduceLeDiff, Nat.le_refl, Nat.zero_le, not_true_eq_false, not_false_eq_true, ne_eq, Int.reduceEq, Int.reduceLT, Int.reduceLE, Int.reduceAdd, Int.reduceSub, Int.reduceMul, Int.reduceNeg, pT g1, g2, g3, g4, g5, g6, g7, g8, g9, g10, g11, pT g12, zSb_e' g12, g13, pT g18, zSb_e' g18, g19, pT g31, zSb_e' g31, g32, psr_10, psr_11, psr_o, up_r10, up_r11, up_ro, t1, s126_y (show 2 ≤ d - 1 by omega) hg ht hp, e3, e, c4]
      · by_cases c3 : sg tx ln p = 111
        · rw [kk.2.2.1 c3]
          have m2 := fun Q => m1 Q (by omega)
          simp (disch := first | omega | exact rfl) only [↓u129_0, ↓u129_1, ↓u129_3, ↓u129_5, ↓u129_8, ↓u129_11, ↓u129_12, ↓u129_14, ↓u129_16, ↓u129_19, ↓u129_22, ↓u129_23, ↓u129_25, ↓u129_27, ↓u129_30, ↓u129_33, ↓u129_34, ↓u129_37, ↓u129_38, ↓u129_39, ↓u129_42, ↓u129_43, ↓u129_44, ↓u129_45, ↓u129_48, ↓u129_49, ↓u129_52, ↓u129_53, ↓u129_55, ↓u129_57, ↓u129_60, ↓u129_61, ↓u129_62, ↓u129_64, ↓u129_67, ↓u129_68, ↓u129_71, ↓u129_72, ↓u129_74, ↓u129_77, ↓u129_78, ↓u129_81, ↓u129_82, ↓u129_84, ↓u129_87, ↓u129_88, ↓u129_91, ↓u129_92, ↓lI_0, ↓lI_s, ↓lL_0, ↓lL_s, ↓lR_0, ↓lR_s, ↓sT_0, ↓sT_i, ↓sT_r, ↓sT_u, ↓sT_lu, ↓sU_0, ↓sU_i, ↓sU_r, ↓sU_u, ↓ite_bx, bx_T, bx_F, bx_pos, bx_neg, zws_i, zws_r, zws_l, zws_n, zCb_kc, xl_ll, xr_rr, xs_e, xset_e, Option.toList, List.cons_append, List.nil_append, zIb_e, zrng_e, nz_e, if_pos, if_neg, and_true, true_and, or_true, true_or, ite_self, bi_eq0, bi_eq1, bi_1, bi_0, bi_ir, bi_T, bi_F, up_eq, up_ne, ↓reduceIte, reduceIte, Nat.reduceAdd, Nat.reduceLeDiff, Nat.le_refl, Nat.zero_le, not_true_eq_false, not_false_eq_true, ne_eq, Int.reduceEq, Int.reduceLT, Int.reduceLE, Int.reduceAdd, Int.reduceSub, Int.reduceMul, Int.reduceNeg, pT g1, g2, g3, g4, g5, g6, g7, g8, g9, g10, g11, pT g12, zSb_e' g12, g13, pT g18, zSb_e' g18, g19, pT g31, zSb_e' g31, g32, psr_10, psr_11, psr_o, up_r10, up_r11, up_ro, t1, s126_y (show 2 ≤ d - 1 by omega) hg ht hp, m2, c3]
        · have := kk.2.2.2.2 c1 c2 c3 c4
          omega
set_option maxRecDepth 8000 in
theorem s129_n {d : Nat} {Q : Option AV → XH → Prop} {G : XS} {s : ZS} {tx : Int → Int} {ln p : Int} (hd : 4 ≤ d) (hg : MOK G) (ht : TXR s tx ln) (hp : 0 ≤ p ∧ p ≤ ln) (q : kv (sg tx ln p) < 0) : Call d 129 [zrf 172] (G, psr s p (-1)) Q = Q (some (zint 2)) (G, psr s p p) := by
  have hg' := hg
  obtain ⟨g1, g2, g3, g4, g5, g6, g7, g8, g9, g10, g11, g12, g13, g14, g15, g16, g17, g18, g19, g20, g21, g22, g23, g24, g25, g26, g27, g28, g29, g30, g31, g32, g33, g34⟩ := hg'
  have ht' := ht
  obtain ⟨t1, t2, t3, t4⟩ := ht'
  have sb := sgr_b (p := p) ht
  have kk := kv_i (c := sg tx ln p)
  have c1 : sg tx ln p ≠ 98 := fun h => by have := kk.1 h; omega
  have c2 : sg tx ln p ≠ 109 := fun h => by have := kk.2.1 h; omega
  have c3 : sg tx ln p ≠ 111 := fun h => by have := kk.2.2.1 h; omega
  have c4 : sg tx ln p ≠ 119 := fun h => by have := kk.2.2.2.1 h; omega
  have m2 := fun Q => s127_n (d := d - 1) (Q := Q) (lo := 111) (hi := 111) (by omega) hg ht hp (by omega) (by omega) (by omega)
  rw [e129 (show 1 ≤ d by omega)]
  simp (disch := first | omega | exact rfl) only [↓u129_0, ↓u129_1, ↓u129_3, ↓u129_5, ↓u129_8, ↓u129_11, ↓u129_12, ↓u129_14, ↓u129_16, ↓u129_19, ↓u129_22, ↓u129_23, ↓u129_25, ↓u129_27, ↓u129_30, ↓u129_33, ↓u129_34, ↓u129_37, ↓u129_38, ↓u129_39, ↓u129_42, ↓u129_43, ↓u129_44, ↓u129_45, ↓u129_48, ↓u129_49, ↓u129_52, ↓u129_53, ↓u129_55, ↓u129_57, ↓u129_60, ↓u129_61, ↓u129_62, ↓u129_64, ↓u129_67, ↓u129_68, ↓u129_71, ↓u129_72, ↓u129_74, ↓u129_77, ↓u129_78, ↓u129_81, ↓u129_82, ↓u129_84, ↓u129_87, ↓u129_88, ↓u129_91, ↓u129_92, ↓lI_0, ↓lI_s, ↓lL_0, ↓lL_s, ↓lR_0, ↓lR_s, ↓sT_0, ↓sT_i, ↓sT_r, ↓sT_u, ↓sT_lu, ↓sU_0, ↓sU_i, ↓sU_r, ↓sU_u, ↓ite_bx, bx_T, bx_F, bx_pos, bx_neg, zws_i, zws_r, zws_l, zws_n, zCb_kc, xl_ll, xr_rr, xs_e, xset_e, Option.toList, List.cons_append, List.nil_append, zIb_e, zrng_e, nz_e, if_pos, if_neg, and_true, true_and, or_true, true_or, ite_self, bi_eq0, bi_eq1, bi_1, bi_0, bi_ir, bi_T, bi_F, up_eq, up_ne, ↓reduceIte, reduceIte, Nat.reduceAdd, Nat.reduceLeDiff, Nat.le_refl, Nat.zero_le, not_true_eq_false, not_false_eq_true, ne_eq, Int.reduceEq, Int.reduceLT, Int.reduceLE, Int.reduceAdd, Int.reduceSub, Int.reduceMul, Int.reduceNeg, pT g1, g2, g3, g4, g5, g6, g7, g8, g9, g10, g11, pT g12, zSb_e' g12, g13, pT g18, zSb_e' g18, g19, pT g31, zSb_e' g31, g32, psr_10, psr_11, psr_o, up_r10, up_r11, up_ro, t1, s126_y (show 2 ≤ d - 1 by omega) hg ht hp, m2]
set_option maxRecDepth 8000 in
theorem s129_f {d : Nat} {Q : Option AV → XH → Prop} {G : XS} {s : ZS} {tx : Int → Int} {ln p : Int} {f : Int} (hd : 4 ≤ d) (hg : MOK G) (ht : TXR s tx ln) (hp : 0 ≤ p ∧ p ≤ ln) (hf : 0 ≤ f ∧ f ≤ 1000) : Call d 129 [zrf 172] (G, psr s p f) Q = Q (some (zint 2)) (G, psr s p f) := by
  have hg' := hg
  obtain ⟨g1, g2, g3, g4, g5, g6, g7, g8, g9, g10, g11, g12, g13, g14, g15, g16, g17, g18, g19, g20, g21, g22, g23, g24, g25, g26, g27, g28, g29, g30, g31, g32, g33, g34⟩ := hg'
  have ht' := ht
  obtain ⟨t1, t2, t3, t4⟩ := ht'
  rw [e129 (show 1 ≤ d by omega)]
  simp (disch := first | omega | exact rfl) only [↓u129_0, ↓u129_1, ↓u129_3, ↓u129_5, ↓u129_8, ↓u129_11, ↓u129_12, ↓u129_14, ↓u129_16, ↓u129_19, ↓u129_22, ↓u129_23, ↓u129_25, ↓u129_27, ↓u129_30, ↓u129_33, ↓u129_34, ↓u129_37, ↓u129_38, ↓u129_39, ↓u129_42, ↓u129_43, ↓u129_44, ↓u129_45, ↓u129_48, ↓u129_49, ↓u129_52, ↓u129_53, ↓u129_55, ↓u129_57, ↓u129_60, ↓u129_61, ↓u129_62, ↓u129_64, ↓u129_67, ↓u129_68, ↓u129_71, ↓u129_72, ↓u129_74, ↓u129_77, ↓u129_78, ↓u129_81, ↓u129_82, ↓u129_84, ↓u129_87, ↓u129_88, ↓u129_91, ↓u129_92, ↓lI_0, ↓lI_s, ↓lL_0, ↓lL_s, ↓lR_0, ↓lR_s, ↓sT_0, ↓sT_i, ↓sT_r, ↓sT_u, ↓sT_lu, ↓sU_0, ↓sU_i, ↓sU_r, ↓sU_u, ↓ite_bx, bx_T, bx_F, bx_pos, bx_neg, zws_i, zws_r, zws_l, zws_n, zCb_kc, xl_ll, xr_rr, xs_e, xset_e, Option.toList, List.cons_append, List.nil_append, zIb_e, zrng_e, nz_e, if_pos, if_neg, and_true, true_and, or_true, true_or, ite_self, bi_eq0, bi_eq1, bi_1, bi_0, bi_ir, bi_T, bi_F, up_eq, up_ne, ↓reduceIte, reduceIte, Nat.reduceAdd, Nat.reduceLeDiff, Nat.le_refl, Nat.zero_le, not_true_eq_false, not_false_eq_true, ne_eq, Int.reduceEq, Int.reduceLT, Int.reduceLE, Int.reduceAdd, Int.reduceSub, Int.reduceMul, Int.reduceNeg, pT g1, g2, g3, g4, g5, g6, g7, g8, g9, g10, g11, pT g12, zSb_e' g12, g13, pT g18, zSb_e' g18, g19, pT g31, zSb_e' g31, g32, psr_10, psr_11, psr_o, up_r10, up_r11, up_ro, t1, s126_f (show 2 ≤ d - 1 by omega) hg ht hp hf, s127_f (show 3 ≤ d - 1 by omega) hg ht hp hf]
set_option maxRecDepth 8000 in
theorem nm1 {tx : Int → Int} {ln p : Int} : nmq tx ln 0 9 1 0 0 p = if isd (sg tx ln p) then (sg tx ln p - 48, p + 1, -1) else (0, p, p) := by
  by_cases q : isd (sg tx ln p)
  · rw [if_pos q, nmq_s (n := 0) q (by omega), nmq_0, show (0 : Int) * 10 + sg tx ln p - 48 = sg tx ln p - 48 by omega]
    unfold fz
    rw [if_neg (by omega), if_neg (by omega)]
  · rw [if_neg q, nmq_n (n := 0) q]
    rfl
set_option maxRecDepth 8000 in
theorem spdr {tx : Int → Int} {ln p : Int} : spd tx ln p = if sg tx ln p = 45 then (if isd (sg tx ln (p + 1)) then (-(sg tx ln (p + 1) - 48), p + 1 + 1, -1) else (0, p + 1, p + 1)) else if sg tx ln p = 43 then (if isd (sg tx ln (p + 1)) then (sg tx ln (p + 1) - 48, p + 1 + 1, -1) else (0, p + 1, p + 1)) else (0, p, p) := by
  unfold spd
  rw [nm1]
  by_cases q : isd (sg tx ln (p + 1))
  · first | (rw [if_pos q, if_pos q]; done) | (rw [if_pos q, if_pos q]; rfl)
  · first | (rw [if_neg q, if_neg q]; done) | (rw [if_neg q, if_neg q]; rfl)
set_option maxRecDepth 8000 in
theorem s130_y {d : Nat} {Q : Option AV → XH → Prop} {G : XS} {s : ZS} {tx : Int → Int} {ln p : Int} {v' p' f' : Int} (hd : 4 ≤ d) (hg : MOK G) (ht : TXR s tx ln) (hp : 0 ≤ p ∧ p ≤ ln) (h : spd tx ln p = (v', p', f')) : Call d 130 [zrf 172] (G, psr s p (-1)) Q = Q (some (zint v')) (G, psr s p' f') := by
  have hg' := hg
  obtain ⟨g1, g2, g3, g4, g5, g6, g7, g8, g9, g10, g11, g12, g13, g14, g15, g16, g17, g18, g19, g20, g21, g22, g23, g24, g25, g26, g27, g28, g29, g30, g31, g32, g33, g34⟩ := hg'
  have ht' := ht
  obtain ⟨t1, t2, t3, t4⟩ := ht'
  have sb := sgr_b (p := p) ht
  have sb2 := sgr_b (p := p + 1) ht
  rw [spdr] at h
  rw [e130 (show 1 ≤ d by omega)]
  by_cases q : sg tx ln p = 45
  · have hl2 := sg_l (tx := tx) (ln := ln) (p := p) (by omega)
    rw [if_pos q] at h
    by_cases q2 : isd (sg tx ln (p + 1))
    · rw [if_pos q2] at h
      cases h
      have m1 := fun Q => s127_y (d := d - 1) (Q := Q) (p := p + 1) (lo := 48) (hi := 57) (by omega) hg ht (by omega) (by omega) (by omega) q2
      simp (disch := first | omega | exact rfl) only [↓u130_0, ↓u130_1, ↓u130_3, ↓u130_5, ↓u130_8, ↓u130_9, ↓u130_10, ↓u130_13, ↓u130_14, ↓u130_15, ↓u130_18, ↓u130_19, ↓u130_20, ↓u130_23, ↓u130_26, ↓u130_27, ↓u130_29, ↓u130_31, ↓u130_34, ↓u130_35, ↓u130_36, ↓u130_38, ↓u130_40, ↓u130_43, ↓u130_45, ↓u130_46, ↓u130_47, ↓u130_48, ↓u130_51, ↓u130_52, ↓u130_53, ↓u130_56, ↓u130_57, ↓lI_0, ↓lI_s, ↓lL_0, ↓lL_s, ↓lR_0, ↓lR_s, ↓sT_0, ↓sT_i, ↓sT_r, ↓sT_u, ↓sT_lu, ↓sU_0, ↓sU_i, ↓sU_r, ↓sU_u, ↓ite_bx, bx_T, bx_F, bx_pos, bx_neg, zws_i, zws_r, zws_l, zws_n, zCb_kc, xl_ll, xr_rr, xs_e, xset_e, Option.toList, List.cons_append, List.nil_append, zIb_e, zrng_e, nz_e, if_pos, if_neg, and_true, true_and, or_true, true_or, ite_self, bi_eq0, bi_eq1, bi_1, bi_0, bi_ir, bi_T, bi_F, up_eq, up_ne, ↓reduceIte, reduceIte, Nat.reduceAdd, Nat.reduceLeDiff, Nat.le_refl, Nat.zero_le, not_true_eq_false, not_false_eq_true, ne_eq, Int.reduceEq, Int.reduceLT, Int.reduceLE, Int.reduceAdd, Int.reduceSub, Int.reduceMul, Int.reduceNeg, pT g1, g2, g3, g4, g5, g6, g7, g8, g9, g10, g11, pT g12, zSb_e' g12, g13, pT g18, zSb_e' g18, g19, pT g31, zSb_e' g31, g32, psr_10, psr_11, psr_o, up_r10, up_r11, up_ro, t1, s126_y (show 2 ≤ d - 1 by omega) hg ht hp, m1]
    · rw [if_neg q2] at h
      cases h
      have m1 := fun Q => s127_n (d := d - 1) (Q := Q) (p := p + 1) (lo := 48) (hi := 57) (by omega) hg ht (by omega) (by omega) (by omega) q2
      simp (disch := first | omega | exact rfl) only [↓u130_0, ↓u130_1, ↓u130_3, ↓u130_5, ↓u130_8, ↓u130_9, ↓u130_10, ↓u130_13, ↓u130_14, ↓u130_15, ↓u130_18, ↓u130_19, ↓u130_20, ↓u130_23, ↓u130_26, ↓u130_27, ↓u130_29, ↓u130_31, ↓u130_34, ↓u130_35, ↓u130_36, ↓u130_38, ↓u130_40, ↓u130_43, ↓u130_45, ↓u130_46, ↓u130_47, ↓u130_48, ↓u130_51, ↓u130_52, ↓u130_53, ↓u130_56, ↓u130_57, ↓lI_0, ↓lI_s, ↓lL_0, ↓lL_s, ↓lR_0, ↓lR_s, ↓sT_0, ↓sT_i, ↓sT_r, ↓sT_u, ↓sT_lu, ↓sU_0, ↓sU_i, ↓sU_r, ↓sU_u, ↓ite_bx, bx_T, bx_F, bx_pos, bx_neg, zws_i, zws_r, zws_l, zws_n, zCb_kc, xl_ll, xr_rr, xs_e, xset_e, Option.toList, List.cons_append, List.nil_append, zIb_e, zrng_e, nz_e, if_pos, if_neg, and_true, true_and, or_true, true_or, ite_self, bi_eq0, bi_eq1, bi_1, bi_0, bi_ir, bi_T, bi_F, up_eq, up_ne, ↓reduceIte, reduceIte, Nat.reduceAdd, Nat.reduceLeDiff, Nat.le_refl, Nat.zero_le, not_true_eq_false, not_false_eq_true, ne_eq, Int.reduceEq, Int.reduceLT, Int.reduceLE, Int.reduceAdd, Int.reduceSub, Int.reduceMul, Int.reduceNeg, pT g1, g2, g3, g4, g5, g6, g7, g8, g9, g10, g11, pT g12, zSb_e' g12, g13, pT g18, zSb_e' g18, g19, pT g31, zSb_e' g31, g32, psr_10, psr_11, psr_o, up_r10, up_r11, up_ro, t1, s126_y (show 2 ≤ d - 1 by omega) hg ht hp, m1, Int.neg_zero]
  · rw [if_neg q] at h
    by_cases q3 : sg tx ln p = 43
    · have hl2 := sg_l (tx := tx) (ln := ln) (p := p) (by omega)
      rw [if_pos q3] at h
      have m0 := fun Q => s127_y (d := d - 1) (Q := Q) (p := p) (lo := 43) (hi := 43) (by omega) hg ht hp (by omega) (by omega) (by omega)
      by_cases q2 : isd (sg tx ln (p + 1))
      · rw [if_pos q2] at h
        cases h
        have m1 := fun Q => s127_y (d := d - 1) (Q := Q) (p := p + 1) (lo := 48) (hi := 57) (by omega) hg ht (by omega) (by omega) (by omega) q2
        simp (disch := first | omega | exact rfl) only [↓u130_0, ↓u130_1, ↓u130_3, ↓u130_5, ↓u130_8, ↓u130_9, ↓u130_10, ↓u130_13, ↓u130_14, ↓u130_15, ↓u130_18, ↓u130_19, ↓u130_20, ↓u130_23, ↓u130_26, ↓u130_27, ↓u130_29, ↓u130_31, ↓u130_34, ↓u130_35, ↓u130_36, ↓u130_38, ↓u130_40, ↓u130_43, ↓u130_45, ↓u130_46, ↓u130_47, ↓u130_48, ↓u130_51, ↓u130_52, ↓u130_53, ↓u130_56, ↓u130_57, ↓lI_0, ↓lI_s, ↓lL_0, ↓lL_s, ↓lR_0, ↓lR_s, ↓sT_0, ↓sT_i, ↓sT_r, ↓sT_u, ↓sT_lu, ↓sU_0, ↓sU_i, ↓sU_r, ↓sU_u, ↓ite_bx, bx_T, bx_F, bx_pos, bx_neg, zws_i, zws_r, zws_l, zws_n, zCb_kc, xl_ll, xr_rr, xs_e, xset_e, Option.toList, List.cons_append, List.nil_append, zIb_e, zrng_e, nz_e, if_pos, if_neg, and_true, true_and, or_true, true_or, ite_self, bi_eq0, bi_eq1, bi_1, bi_0, bi_ir, bi_T, bi_F, up_eq, up_ne, ↓reduceIte, reduceIte, Nat.reduceAdd, Nat.reduceLeDiff, Nat.le_refl, Nat.zero_le, not_true_eq_false, not_false_eq_true, ne_eq, Int.reduceEq, Int.reduceLT, Int.reduceLE, Int.reduceAdd, Int.reduceSub, Int.reduceMul, Int.reduceNeg, pT g1, g2, g3, g4, g5, g6, g7, g8, g9, g10, g11, pT g12, zSb_e' g12, g13, pT g18, zSb_e' g18, g19, pT g31, zSb_e' g31, g32, psr_10, psr_11, psr_o, up_r10, up_r11, up_ro, t1, s126_y (show 2 ≤ d - 1 by omega) hg ht hp, m0, m1]
      · rw [if_neg q2] at h
        cases h
        have m1 := fun Q => s127_n (d := d - 1) (Q := Q) (p := p + 1) (lo := 48) (hi := 57) (by omega) hg ht (by omega) (by omega) (by omega) q2
        simp (disch := first | omega | exact rfl) only [↓u130_0, ↓u130_1, ↓u130_3, ↓u130_5, ↓u130_8, ↓u130_9, ↓u130_10, ↓u130_13, ↓u130_14, ↓u130_15, ↓u130_18, ↓u130_19, ↓u130_20, ↓u130_23, ↓u130_26, ↓u130_27, ↓u130_29, ↓u130_31, ↓u130_34, ↓u130_35, ↓u130_36, ↓u130_38, ↓u130_40, ↓u130_43, ↓u130_45, ↓u130_46, ↓u130_47, ↓u130_48, ↓u130_51, ↓u130_52, ↓u130_53, ↓u130_56, ↓u130_57, ↓lI_0, ↓lI_s, ↓lL_0, ↓lL_s, ↓lR_0, ↓lR_s, ↓sT_0, ↓sT_i, ↓sT_r, ↓sT_u, ↓sT_lu, ↓sU_0, ↓sU_i, ↓sU_r, ↓sU_u, ↓ite_bx, bx_T, bx_F, bx_pos, bx_neg, zws_i, zws_r, zws_l, zws_n, zCb_kc, xl_ll, xr_rr, xs_e, xset_e, Option.toList, List.cons_append, List.nil_append, zIb_e, zrng_e, nz_e, if_pos, if_neg, and_true, true_and, or_true, true_or, ite_self, bi_eq0, bi_eq1, bi_1, bi_0, bi_ir, bi_T, bi_F, up_eq, up_ne, ↓reduceIte, reduceIte, Nat.reduceAdd, Nat.reduceLeDiff, Nat.le_refl, Nat.zero_le, not_true_eq_false, not_false_eq_true, ne_eq, Int.reduceEq, Int.reduceLT, Int.reduceLE, Int.reduceAdd, Int.reduceSub, Int.reduceMul, Int.reduceNeg, pT g1, g2, g3, g4, g5, g6, g7, g8, g9, g10, g11, pT g12, zSb_e' g12, g13, pT g18, zSb_e' g18, g19, pT g31, zSb_e' g31, g32, psr_10, psr_11, psr_o, up_r10, up_r11, up_ro, t1, s126_y (show 2 ≤ d - 1 by omega) hg ht hp, m0, m1]
    · rw [if_neg q3] at h
      cases h
      have m0 := fun Q => s127_n (d := d - 1) (Q := Q) (p := p) (lo := 43) (hi := 43) (by omega) hg ht hp (by omega) (by omega) (by omega)
      have m1 := fun Q => s127_f (d := d - 1) (Q := Q) (p := p) (lo := 48) (hi := 57) (f := p) (by omega) hg ht hp (by omega)
      simp (disch := first | omega | exact rfl) only [↓u130_0, ↓u130_1, ↓u130_3, ↓u130_5, ↓u130_8, ↓u130_9, ↓u130_10, ↓u130_13, ↓u130_14, ↓u130_15, ↓u130_18, ↓u130_19, ↓u130_20, ↓u130_23, ↓u130_26, ↓u130_27, ↓u130_29, ↓u130_31, ↓u130_34, ↓u130_35, ↓u130_36, ↓u130_38, ↓u130_40, ↓u130_43, ↓u130_45, ↓u130_46, ↓u130_47, ↓u130_48, ↓u130_51, ↓u130_52, ↓u130_53, ↓u130_56, ↓u130_57, ↓lI_0, ↓lI_s, ↓lL_0, ↓lL_s, ↓lR_0, ↓lR_s, ↓sT_0, ↓sT_i, ↓sT_r, ↓sT_u, ↓sT_lu, ↓sU_0, ↓sU_i, ↓sU_r, ↓sU_u, ↓ite_bx, bx_T, bx_F, bx_pos, bx_neg, zws_i, zws_r, zws_l, zws_n, zCb_kc, xl_ll, xr_rr, xs_e, xset_e, Option.toList, List.cons_append, List.nil_append, zIb_e, zrng_e, nz_e, if_pos, if_neg, and_true, true_and, or_true, true_or, ite_self, bi_eq0, bi_eq1, bi_1, bi_0, bi_ir, bi_T, bi_F, up_eq, up_ne, ↓reduceIte, reduceIte, Nat.reduceAdd, Nat.reduceLeDiff, Nat.le_refl, Nat.zero_le, not_true_eq_false, not_false_eq_true, ne_eq, Int.reduceEq, Int.reduceLT, Int.reduceLE, Int.reduceAdd, Int.reduceSub, Int.reduceMul, Int.reduceNeg, pT g1, g2, g3, g4, g5, g6, g7, g8, g9, g10, g11, pT g12, zSb_e' g12, g13, pT g18, zSb_e' g18, g19, pT g31, zSb_e' g31, g32, psr_10, psr_11, psr_o, up_r10, up_r11, up_ro, t1, s126_y (show 2 ≤ d - 1 by omega) hg ht hp, m0, m1]
set_option maxRecDepth 8000 in
theorem s130_f {d : Nat} {Q : Option AV → XH → Prop} {G : XS} {s : ZS} {tx : Int → Int} {ln p : Int} {f : Int} (hd : 4 ≤ d) (hg : MOK G) (ht : TXR s tx ln) (hp : 0 ≤ p ∧ p ≤ ln) (hf : 0 ≤ f ∧ f ≤ 1000) : Call d 130 [zrf 172] (G, psr s p f) Q = Q (some (zint 0)) (G, psr s p f) := by
  have hg' := hg
  obtain ⟨g1, g2, g3, g4, g5, g6, g7, g8, g9, g10, g11, g12, g13, g14, g15, g16, g17, g18, g19, g20, g21, g22, g23, g24, g25, g26, g27, g28, g29, g30, g31, g32, g33, g34⟩ := hg'
  have ht' := ht
  obtain ⟨t1, t2, t3, t4⟩ := ht'
  rw [e130 (show 1 ≤ d by omega)]
  simp (disch := first | omega | exact rfl) only [↓u130_0, ↓u130_1, ↓u130_3, ↓u130_5, ↓u130_8, ↓u130_9, ↓u130_10, ↓u130_13, ↓u130_14, ↓u130_15, ↓u130_18, ↓u130_19, ↓u130_20, ↓u130_23, ↓u130_26, ↓u130_27, ↓u130_29, ↓u130_31, ↓u130_34, ↓u130_35, ↓u130_36, ↓u130_38, ↓u130_40, ↓u130_43, ↓u130_45, ↓u130_46, ↓u130_47, ↓u130_48, ↓u130_51, ↓u130_52, ↓u130_53, ↓u130_56, ↓u130_57, ↓lI_0, ↓lI_s, ↓lL_0, ↓lL_s, ↓lR_0, ↓lR_s, ↓sT_0, ↓sT_i, ↓sT_r, ↓sT_u, ↓sT_lu, ↓sU_0, ↓sU_i, ↓sU_r, ↓sU_u, ↓ite_bx, bx_T, bx_F, bx_pos, bx_neg, zws_i, zws_r, zws_l, zws_n, zCb_kc, xl_ll, xr_rr, xs_e, xset_e, Option.toList, List.cons_append, List.nil_append, zIb_e, zrng_e, nz_e, if_pos, if_neg, and_true, true_and, or_true, true_or, ite_self, bi_eq0, bi_eq1, bi_1, bi_0, bi_ir, bi_T, bi_F, up_eq, up_ne, ↓reduceIte, reduceIte, Nat.reduceAdd, Nat.reduceLeDiff, Nat.le_refl, Nat.zero_le, not_true_eq_false, not_false_eq_true, ne_eq, Int.reduceEq, Int.reduceLT, Int.reduceLE, Int.reduceAdd, Int.reduceSub, Int.reduceMul, Int.reduceNeg, pT g1, g2, g3, g4, g5, g6, g7, g8, g9, g10, g11, pT g12, zSb_e' g12, g13, pT g18, zSb_e' g18, g19, pT g31, zSb_e' g31, g32, psr_10, psr_11, psr_o, up_r10, up_r11, up_ro, t1, s126_f (show 2 ≤ d - 1 by omega) hg ht hp hf, s127_f (show 3 ≤ d - 1 by omega) hg ht hp hf]
