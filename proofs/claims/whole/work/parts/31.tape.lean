/-! the class Tape; fractions; the next box -/
set_option maxRecDepth 8000 in
theorem s192 {d : Nat} {Q : Option AV → XH → Prop} {G : XS} {s : ZS} {a n v : Int} (hd : 1 ≤ d) (hk : kc G a 8) (hl : ll G a = n) (hn : 0 ≤ n ∧ n ≤ 1000) : Call d 192 [zrf a, zlng v] (G, s) Q = Q none (G, flo s a n v) := by
  rw [e192 (show 1 ≤ d by omega)]
  have lp : ∀ i, 0 ≤ i → i ≤ n → Wp (d - 1) 192 (6, [zrf a, zlng v, zun, zint i, zint n], [], (G, flo s a i v)) Q = Q none (G, flo s a n v) := by
    refine dn (P := fun i => Wp (d - 1) 192 (6, [zrf a, zlng v, zun, zint i, zint n], [], (G, flo s a i v)) Q = Q none (G, flo s a n v)) ?_ ?_
    · rw [u192_6]
      simp (disch := first | omega | exact rfl) only [↓u192_0, ↓u192_1, ↓u192_2, ↓u192_3, ↓u192_4, ↓u192_7, ↓u192_9, ↓u192_12, ↓u192_13, ↓u192_14, ↓u192_15, ↓u192_16, ↓u192_19, ↓u192_22, ↓lI_0, ↓lI_s, ↓lL_0, ↓lL_s, ↓lR_0, ↓lR_s, ↓sT_0, ↓sT_i, ↓sT_r, ↓sT_u, ↓sT_lu, ↓sU_0, ↓sU_i, ↓sU_r, ↓sU_u, ↓ite_bx, bx_T, bx_F, bx_pos, bx_neg, zws_i, zws_r, zws_l, zws_n, zCb_kc, xl_ll, xr_rr, xs_e, xset_e, Option.toList, List.cons_append, List.nil_append, zIb_e, zrng_e, nz_e, if_pos, if_neg, and_true, true_and, or_true, true_or, ite_self, bi_eq0, bi_eq1, bi_1, bi_0, bi_ir, bi_T, bi_F, up_eq, up_ne, ↓reduceIte, reduceIte, Nat.reduceAdd, Nat.reduceLeDiff, Nat.le_refl, Nat.zero_le, not_true_eq_false, not_false_eq_true, ne_eq, Int.reduceEq, Int.reduceLT, Int.reduceLE, Int.reduceAdd, Int.reduceSub, Int.reduceMul, Int.reduceNeg, pT hk, hl]
    · intro i h0 h1 ih
      rw [u192_6]
      simp (disch := first | omega | exact rfl) only [↓u192_0, ↓u192_1, ↓u192_2, ↓u192_3, ↓u192_4, ↓u192_7, ↓u192_9, ↓u192_12, ↓u192_13, ↓u192_14, ↓u192_15, ↓u192_16, ↓u192_19, ↓u192_22, ↓lI_0, ↓lI_s, ↓lL_0, ↓lL_s, ↓lR_0, ↓lR_s, ↓sT_0, ↓sT_i, ↓sT_r, ↓sT_u, ↓sT_lu, ↓sU_0, ↓sU_i, ↓sU_r, ↓sU_u, ↓ite_bx, bx_T, bx_F, bx_pos, bx_neg, zws_i, zws_r, zws_l, zws_n, zCb_kc, xl_ll, xr_rr, xs_e, xset_e, Option.toList, List.cons_append, List.nil_append, zIb_e, zrng_e, nz_e, if_pos, if_neg, and_true, true_and, or_true, true_or, ite_self, bi_eq0, bi_eq1, bi_1, bi_0, bi_ir, bi_T, bi_F, up_eq, up_ne, ↓reduceIte, reduceIte, Nat.reduceAdd, Nat.reduceLeDiff, Nat.le_refl, Nat.zero_le, not_true_eq_false, not_false_eq_true, ne_eq, Int.reduceEq, Int.reduceLT, Int.reduceLE, Int.reduceAdd, Int.reduceSub, Int.reduceMul, Int.reduceNeg, pT hk, hl, flo_s h0, ih]
  have l0 := lp 0 (Int.le_refl 0) hn.1
  rw [flo_0] at l0
  simp (disch := first | omega | exact rfl) only [↓u192_0, ↓u192_1, ↓u192_2, ↓u192_3, ↓u192_4, ↓u192_7, ↓u192_9, ↓u192_12, ↓u192_13, ↓u192_14, ↓u192_15, ↓u192_16, ↓u192_19, ↓u192_22, ↓lI_0, ↓lI_s, ↓lL_0, ↓lL_s, ↓lR_0, ↓lR_s, ↓sT_0, ↓sT_i, ↓sT_r, ↓sT_u, ↓sT_lu, ↓sU_0, ↓sU_i, ↓sU_r, ↓sU_u, ↓ite_bx, bx_T, bx_F, bx_pos, bx_neg, zws_i, zws_r, zws_l, zws_n, zCb_kc, xl_ll, xr_rr, xs_e, xset_e, Option.toList, List.cons_append, List.nil_append, zIb_e, zrng_e, nz_e, if_pos, if_neg, and_true, true_and, or_true, true_or, ite_self, bi_eq0, bi_eq1, bi_1, bi_0, bi_ir, bi_T, bi_F, up_eq, up_ne, ↓reduceIte, reduceIte, Nat.reduceAdd, Nat.reduceLeDiff, Nat.le_refl, Nat.zero_le, not_true_eq_false, not_false_eq_true, ne_eq, Int.reduceEq, Int.reduceLT, Int.reduceLE, Int.reduceAdd, Int.reduceSub, Int.reduceMul, Int.reduceNeg, pT hk, hl, pT hn.1, l0]
def TOK (G : XS) (t : Int) : Prop := kc G t 3 ∧ rr G t 0 = t + 1 ∧ kc G (t + 1) 8 ∧ ll G (t + 1) = 60
def hld (s : ZS) (t k n : Int) : ZS := up (up (flo s (t + 1) 60 0) t 1 k) t 2 n
set_option maxRecDepth 8000 in
theorem s32 {d : Nat} {Q : Option AV → XH → Prop} {G : XS} {s : ZS} {t k n : Int} (hd : 2 ≤ d) (ht : TOK G t) : Call d 32 [zrf t, zint k, zint n] (G, s) Q = Q none (G, hld s t k n) := by
  obtain ⟨t1, t2, t3, t4⟩ := ht
  rw [e32 (show 1 ≤ d by omega)]
  unfold hld
  simp (disch := first | omega | exact rfl) only [↓u32_0, ↓u32_1, ↓u32_4, ↓u32_5, ↓u32_8, ↓u32_9, ↓u32_10, ↓u32_13, ↓u32_14, ↓u32_15, ↓u32_18, ↓lI_0, ↓lI_s, ↓lL_0, ↓lL_s, ↓lR_0, ↓lR_s, ↓sT_0, ↓sT_i, ↓sT_r, ↓sT_u, ↓sT_lu, ↓sU_0, ↓sU_i, ↓sU_r, ↓sU_u, ↓ite_bx, bx_T, bx_F, bx_pos, bx_neg, zws_i, zws_r, zws_l, zws_n, zCb_kc, xl_ll, xr_rr, xs_e, xset_e, Option.toList, List.cons_append, List.nil_append, zIb_e, zrng_e, nz_e, if_pos, if_neg, and_true, true_and, or_true, true_or, ite_self, bi_eq0, bi_eq1, bi_1, bi_0, bi_ir, bi_T, bi_F, up_eq, up_ne, ↓reduceIte, reduceIte, Nat.reduceAdd, Nat.reduceLeDiff, Nat.le_refl, Nat.zero_le, not_true_eq_false, not_false_eq_true, ne_eq, Int.reduceEq, Int.reduceLT, Int.reduceLE, Int.reduceAdd, Int.reduceSub, Int.reduceMul, Int.reduceNeg, pT t1, t2, s192 (show 1 ≤ d - 1 by omega) t3 t4 (show (0 : Int) ≤ 60 ∧ (60 : Int) ≤ 1000 by omega)]
abbrev jr (v : Int) : Prop := -9223372036854775808 ≤ v ∧ v < 9223372036854775808
set_option maxRecDepth 8000 in
theorem zJb_e {v : Int} (h : jr v) : (zJb v = true) = True := eq_true (zJb_iff.2 h)
set_option maxRecDepth 8000 in
theorem i32_ir (x : Int32) : ir x.toInt := ⟨Int32.le_toInt _, Int32.toInt_lt _⟩
set_option maxRecDepth 8000 in
theorem i32_b (x : Int32) : (zIb x.toInt = true) = True := zIb_e (i32_ir x)
def lb (k v : Int) : Int := if k = 0 then (Int32.ofInt (Int32.ofInt v).toInt).toInt8.toInt32.toInt else if k = 1 then (Int32.ofInt (Int32.ofInt v).toInt).toInt16.toInt32.toInt else if k = 2 then (Int32.ofInt v).toInt else if k = 4 then (if v = 0 then 0 else 1) else v
set_option maxRecDepth 8000 in
theorem lb_0 {v : Int} : lb 0 v = (Int32.ofInt (Int32.ofInt v).toInt).toInt8.toInt32.toInt := rfl
set_option maxRecDepth 8000 in
theorem lb_1 {v : Int} : lb 1 v = (Int32.ofInt (Int32.ofInt v).toInt).toInt16.toInt32.toInt := rfl
set_option maxRecDepth 8000 in
theorem lb_2 {v : Int} : lb 2 v = (Int32.ofInt v).toInt := rfl
set_option maxRecDepth 8000 in
theorem lb_3 {v : Int} : lb 3 v = v := rfl
set_option maxRecDepth 8000 in
theorem lb_4 {v : Int} : lb 4 v = if v = 0 then 0 else 1 := rfl
set_option maxRecDepth 8000 in
theorem jr_i {x : Int32} : jr x.toInt := by
  have := i32_ir x
  omega
set_option maxRecDepth 8000 in
theorem lb_r {k v : Int} (h : jr v) : jr (lb k v) := by
  unfold lb
  split
  · exact jr_i
  · split
    · exact jr_i
    · split
      · exact jr_i
      · split
        · split <;> omega
        · exact h
set_option maxRecDepth 8000 in
theorem s33 {d : Nat} {Q : Option AV → XH → Prop} {G : XS} {s : ZS} {t v : Int} (hd : 1 ≤ d) (ht : TOK G t) (hs : 0 ≤ s t 1 ∧ s t 1 ≤ 4) (hv : jr v) : Call d 33 [zrf t, zlng v] (G, s) Q = Q (some (zlng (lb (s t 1) v))) (G, s) := by
  obtain ⟨t1, t2, t3, t4⟩ := ht
  rw [e33 (show 1 ≤ d by omega)]
  rcases (show s t 1 = 0 ∨ s t 1 = 1 ∨ s t 1 = 2 ∨ s t 1 = 3 ∨ s t 1 = 4 by omega) with q | q | q | q | q
  · rw [q, lb_0]
    simp (disch := first | omega | exact rfl) only [↓u33_0, ↓u33_1, ↓u33_4, ↓u33_40, ↓u33_41, ↓u33_42, ↓u33_43, ↓u33_44, ↓u33_45, ↓u33_46, ↓u33_47, ↓u33_48, ↓u33_49, ↓u33_50, ↓u33_51, ↓u33_52, ↓u33_53, ↓u33_54, ↓u33_55, ↓u33_56, ↓u33_57, ↓u33_60, ↓u33_61, ↓u33_64, ↓u33_65, ↓u33_66, ↓u33_67, ↓lI_0, ↓lI_s, ↓lL_0, ↓lL_s, ↓lR_0, ↓lR_s, ↓sT_0, ↓sT_i, ↓sT_r, ↓sT_u, ↓sT_lu, ↓sU_0, ↓sU_i, ↓sU_r, ↓sU_u, ↓ite_bx, bx_T, bx_F, bx_pos, bx_neg, zws_i, zws_r, zws_l, zws_n, zCb_kc, xl_ll, xr_rr, xs_e, xset_e, Option.toList, List.cons_append, List.nil_append, zIb_e, zrng_e, nz_e, if_pos, if_neg, and_true, true_and, or_true, true_or, ite_self, bi_eq0, bi_eq1, bi_1, bi_0, bi_ir, bi_T, bi_F, up_eq, up_ne, ↓reduceIte, reduceIte, Nat.reduceAdd, Nat.reduceLeDiff, Nat.le_refl, Nat.zero_le, not_true_eq_false, not_false_eq_true, ne_eq, Int.reduceEq, Int.reduceLT, Int.reduceLE, Int.reduceAdd, Int.reduceSub, Int.reduceMul, Int.reduceNeg, pT t1, q, ztb_0, ztb_s, i32_b, zJb_e]
  · rw [q, lb_1]
    simp (disch := first | omega | exact rfl) only [↓u33_0, ↓u33_1, ↓u33_4, ↓u33_40, ↓u33_41, ↓u33_42, ↓u33_43, ↓u33_44, ↓u33_45, ↓u33_46, ↓u33_47, ↓u33_48, ↓u33_49, ↓u33_50, ↓u33_51, ↓u33_52, ↓u33_53, ↓u33_54, ↓u33_55, ↓u33_56, ↓u33_57, ↓u33_60, ↓u33_61, ↓u33_64, ↓u33_65, ↓u33_66, ↓u33_67, ↓lI_0, ↓lI_s, ↓lL_0, ↓lL_s, ↓lR_0, ↓lR_s, ↓sT_0, ↓sT_i, ↓sT_r, ↓sT_u, ↓sT_lu, ↓sU_0, ↓sU_i, ↓sU_r, ↓sU_u, ↓ite_bx, bx_T, bx_F, bx_pos, bx_neg, zws_i, zws_r, zws_l, zws_n, zCb_kc, xl_ll, xr_rr, xs_e, xset_e, Option.toList, List.cons_append, List.nil_append, zIb_e, zrng_e, nz_e, if_pos, if_neg, and_true, true_and, or_true, true_or, ite_self, bi_eq0, bi_eq1, bi_1, bi_0, bi_ir, bi_T, bi_F, up_eq, up_ne, ↓reduceIte, reduceIte, Nat.reduceAdd, Nat.reduceLeDiff, Nat.le_refl, Nat.zero_le, not_true_eq_false, not_false_eq_true, ne_eq, Int.reduceEq, Int.reduceLT, Int.reduceLE, Int.reduceAdd, Int.reduceSub, Int.reduceMul, Int.reduceNeg, pT t1, q, ztb_0, ztb_s, i32_b, zJb_e]
  · rw [q, lb_2]
    simp (disch := first | omega | exact rfl) only [↓u33_0, ↓u33_1, ↓u33_4, ↓u33_40, ↓u33_41, ↓u33_42, ↓u33_43, ↓u33_44, ↓u33_45, ↓u33_46, ↓u33_47, ↓u33_48, ↓u33_49, ↓u33_50, ↓u33_51, ↓u33_52, ↓u33_53, ↓u33_54, ↓u33_55, ↓u33_56, ↓u33_57, ↓u33_60, ↓u33_61, ↓u33_64, ↓u33_65, ↓u33_66, ↓u33_67, ↓lI_0, ↓lI_s, ↓lL_0, ↓lL_s, ↓lR_0, ↓lR_s, ↓sT_0, ↓sT_i, ↓sT_r, ↓sT_u, ↓sT_lu, ↓sU_0, ↓sU_i, ↓sU_r, ↓sU_u, ↓ite_bx, bx_T, bx_F, bx_pos, bx_neg, zws_i, zws_r, zws_l, zws_n, zCb_kc, xl_ll, xr_rr, xs_e, xset_e, Option.toList, List.cons_append, List.nil_append, zIb_e, zrng_e, nz_e, if_pos, if_neg, and_true, true_and, or_true, true_or, ite_self, bi_eq0, bi_eq1, bi_1, bi_0, bi_ir, bi_T, bi_F, up_eq, up_ne, ↓reduceIte, reduceIte, Nat.reduceAdd, Nat.reduceLeDiff, Nat.le_refl, Nat.zero_le, not_true_eq_false, not_false_eq_true, ne_eq, Int.reduceEq, Int.reduceLT, Int.reduceLE, Int.reduceAdd, Int.reduceSub, Int.reduceMul, Int.reduceNeg, pT t1, q, ztb_0, ztb_s, i32_b, zJb_e]
  · rw [q, lb_3]
    simp (disch := first | omega | exact rfl) only [↓u33_0, ↓u33_1, ↓u33_4, ↓u33_40, ↓u33_41, ↓u33_42, ↓u33_43, ↓u33_44, ↓u33_45, ↓u33_46, ↓u33_47, ↓u33_48, ↓u33_49, ↓u33_50, ↓u33_51, ↓u33_52, ↓u33_53, ↓u33_54, ↓u33_55, ↓u33_56, ↓u33_57, ↓u33_60, ↓u33_61, ↓u33_64, ↓u33_65, ↓u33_66, ↓u33_67, ↓lI_0, ↓lI_s, ↓lL_0, ↓lL_s, ↓lR_0, ↓lR_s, ↓sT_0, ↓sT_i, ↓sT_r, ↓sT_u, ↓sT_lu, ↓sU_0, ↓sU_i, ↓sU_r, ↓sU_u, ↓ite_bx, bx_T, bx_F, bx_pos, bx_neg, zws_i, zws_r, zws_l, zws_n, zCb_kc, xl_ll, xr_rr, xs_e, xset_e, Option.toList, List.cons_append, List.nil_append, zIb_e, zrng_e, nz_e, if_pos, if_neg, and_true, true_and, or_true, true_or, ite_self, bi_eq0, bi_eq1, bi_1, bi_0, bi_ir, bi_T, bi_F, up_eq, up_ne, ↓reduceIte, reduceIte, Nat.reduceAdd, Nat.reduceLeDiff, Nat.le_refl, Nat.zero_le, not_true_eq_false, not_false_eq_true, ne_eq, Int.reduceEq, Int.reduceLT, Int.reduceLE, Int.reduceAdd, Int.reduceSub, Int.reduceMul, Int.reduceNeg, pT t1, q, ztb_0, ztb_s, i32_b, zJb_e]
  · rw [q, lb_4]
    rcases (show v < 0 ∨ v = 0 ∨ 0 < v by omega) with z | z | z
    · rw [if_neg (by omega)]
      simp (disch := first | omega | exact rfl) only [↓u33_0, ↓u33_1, ↓u33_4, ↓u33_40, ↓u33_41, ↓u33_42, ↓u33_43, ↓u33_44, ↓u33_45, ↓u33_46, ↓u33_47, ↓u33_48, ↓u33_49, ↓u33_50, ↓u33_51, ↓u33_52, ↓u33_53, ↓u33_54, ↓u33_55, ↓u33_56, ↓u33_57, ↓u33_60, ↓u33_61, ↓u33_64, ↓u33_65, ↓u33_66, ↓u33_67, ↓lI_0, ↓lI_s, ↓lL_0, ↓lL_s, ↓lR_0, ↓lR_s, ↓sT_0, ↓sT_i, ↓sT_r, ↓sT_u, ↓sT_lu, ↓sU_0, ↓sU_i, ↓sU_r, ↓sU_u, ↓ite_bx, bx_T, bx_F, bx_pos, bx_neg, zws_i, zws_r, zws_l, zws_n, zCb_kc, xl_ll, xr_rr, xs_e, xset_e, Option.toList, List.cons_append, List.nil_append, zIb_e, zrng_e, nz_e, if_pos, if_neg, and_true, true_and, or_true, true_or, ite_self, bi_eq0, bi_eq1, bi_1, bi_0, bi_ir, bi_T, bi_F, up_eq, up_ne, ↓reduceIte, reduceIte, Nat.reduceAdd, Nat.reduceLeDiff, Nat.le_refl, Nat.zero_le, not_true_eq_false, not_false_eq_true, ne_eq, Int.reduceEq, Int.reduceLT, Int.reduceLE, Int.reduceAdd, Int.reduceSub, Int.reduceMul, Int.reduceNeg, pT t1, q, ztb_0, ztb_s, i32_b, zJb_e]
    · rw [if_pos z]
      simp (disch := first | omega | exact rfl) only [↓u33_0, ↓u33_1, ↓u33_4, ↓u33_40, ↓u33_41, ↓u33_42, ↓u33_43, ↓u33_44, ↓u33_45, ↓u33_46, ↓u33_47, ↓u33_48, ↓u33_49, ↓u33_50, ↓u33_51, ↓u33_52, ↓u33_53, ↓u33_54, ↓u33_55, ↓u33_56, ↓u33_57, ↓u33_60, ↓u33_61, ↓u33_64, ↓u33_65, ↓u33_66, ↓u33_67, ↓lI_0, ↓lI_s, ↓lL_0, ↓lL_s, ↓lR_0, ↓lR_s, ↓sT_0, ↓sT_i, ↓sT_r, ↓sT_u, ↓sT_lu, ↓sU_0, ↓sU_i, ↓sU_r, ↓sU_u, ↓ite_bx, bx_T, bx_F, bx_pos, bx_neg, zws_i, zws_r, zws_l, zws_n, zCb_kc, xl_ll, xr_rr, xs_e, xset_e, Option.toList, List.cons_append, List.nil_append, zIb_e, zrng_e, nz_e, if_pos, if_neg, and_true, true_and, or_true, true_or, ite_self, bi_eq0, bi_eq1, bi_1, bi_0, bi_ir, bi_T, bi_F, up_eq, up_ne, ↓reduceIte, reduceIte, Nat.reduceAdd, Nat.reduceLeDiff, Nat.le_refl, Nat.zero_le, not_true_eq_false, not_false_eq_true, ne_eq, Int.reduceEq, Int.reduceLT, Int.reduceLE, Int.reduceAdd, Int.reduceSub, Int.reduceMul, Int.reduceNeg, pT t1, q, ztb_0, ztb_s, i32_b, zJb_e]
    · rw [if_neg (by omega)]
      simp (disch := first | omega | exact rfl) only [↓u33_0, ↓u33_1, ↓u33_4, ↓u33_40, ↓u33_41, ↓u33_42, ↓u33_43, ↓u33_44, ↓u33_45, ↓u33_46, ↓u33_47, ↓u33_48, ↓u33_49, ↓u33_50, ↓u33_51, ↓u33_52, ↓u33_53, ↓u33_54, ↓u33_55, ↓u33_56, ↓u33_57, ↓u33_60, ↓u33_61, ↓u33_64, ↓u33_65, ↓u33_66, ↓u33_67, ↓lI_0, ↓lI_s, ↓lL_0, ↓lL_s, ↓lR_0, ↓lR_s, ↓sT_0, ↓sT_i, ↓sT_r, ↓sT_u, ↓sT_lu, ↓sU_0, ↓sU_i, ↓sU_r, ↓sU_u, ↓ite_bx, bx_T, bx_F, bx_pos, bx_neg, zws_i, zws_r, zws_l, zws_n, zCb_kc, xl_ll, xr_rr, xs_e, xset_e, Option.toList, List.cons_append, List.nil_append, zIb_e, zrng_e, nz_e, if_pos, if_neg, and_true, true_and, or_true, true_or, ite_self, bi_eq0, bi_eq1, bi_1, bi_0, bi_ir, bi_T, bi_F, up_eq, up_ne, ↓reduceIte, reduceIte, Nat.reduceAdd, Nat.reduceLeDiff, Nat.le_refl, Nat.zero_le, not_true_eq_false, not_false_eq_true, ne_eq, Int.reduceEq, Int.reduceLT, Int.reduceLE, Int.reduceAdd, Int.reduceSub, Int.reduceMul, Int.reduceNeg, pT t1, q, ztb_0, ztb_s, i32_b, zJb_e]
/-- Euclid's, for some rounds -/
def gcn : Nat → Int → Int → Int
  | 0, a, _ => a
  | n + 1, a, b => if b = 0 then a else gcn n b (a % b)
set_option maxRecDepth 8000 in
theorem gcn_z {n : Nat} {a b : Int} (h : b = 0) : gcn n a b = a := by
  cases n with
  | zero => rfl
  | succ n => exact if_pos h
set_option maxRecDepth 8000 in
theorem gcn_s {n : Nat} {a b : Int} (h : b ≠ 0) : gcn (n + 1) a b = gcn n b (a % b) := if_neg h
set_option maxRecDepth 8000 in
theorem gcn_b : ∀ (n : Nat) (a b c : Int), (0 ≤ a ∧ a ≤ c) → (0 ≤ b ∧ b ≤ c) → (1 ≤ a ∨ 1 ≤ b) → (b = 0 ∨ 1 ≤ n) → 1 ≤ gcn n a b ∧ gcn n a b ≤ c := by
  intro n
  induction n with
  | zero =>
    intro a b c h1 h2 h3 h4
    rw [gcn_z (by omega)]
    omega
  | succ n ih =>
    intro a b c h1 h2 h3 h4
    by_cases q : b = 0
    · rw [gcn_z q]
      omega
    · have m := mul_p (a := a) (b := b) (by omega)
      rw [gcn_s q]
      cases n with
      | zero => exact ⟨by show 1 ≤ b; omega, by show b ≤ c; omega⟩
      | succ n => exact ih b (a % b) c h2 (by omega) (by omega) (by omega)
set_option maxRecDepth 8000 in
theorem gcn_u : ∀ (n m : Nat) (a b : Int), (0 ≤ b ∧ b < n) → b < m → gcn n a b = gcn m a b := by
  intro n
  induction n with
  | zero => intro m a b h1 h2; omega
  | succ n ih =>
    intro m a b h1 h2
    by_cases q : b = 0
    · rw [gcn_z q, gcn_z q]
    · have e := mul_p (a := a) (b := b) (by omega)
      obtain ⟨m, rfl⟩ : ∃ k, m = k + 1 := ⟨m - 1, by omega⟩
      rw [gcn_s q, gcn_s q]
      exact ih m b (a % b) (by omega) (by omega)
set_option maxRecDepth 8000 in
theorem l109 {d : Nat} {Q : Option AV → XH → Prop} {h : XH} {x y : Int} (hd : 2 ≤ d) : ∀ (n : Nat) (i a b : Int) (v : AV), i + n = 100 → 0 ≤ i → (0 ≤ a ∧ a ≤ 1000000) → (0 ≤ b ∧ b ≤ 1000000) → Wp (d - 1) 109 (7, [zint x, zint y, zint a, zint b, zint i, v], [], h) Q = Q (some (zint (max (gcn n a b) 1))) h := by
  intro n
  induction n with
  | zero =>
    intro i a b v h1 h2 ha hb
    rw [show gcn 0 a b = a from rfl, u109_7]
    simp (disch := first | omega | exact rfl) only [↓u109_0, ↓u109_1, ↓u109_2, ↓u109_3, ↓u109_4, ↓u109_5, ↓u109_9, ↓u109_11, ↓u109_14, ↓u109_15, ↓u109_18, ↓u109_19, ↓u109_20, ↓u109_21, ↓u109_23, ↓u109_24, ↓u109_25, ↓u109_27, ↓u109_28, ↓u109_31, ↓u109_34, ↓u109_35, ↓u109_36, ↓u109_39, ↓lI_0, ↓lI_s, ↓lL_0, ↓lL_s, ↓lR_0, ↓lR_s, ↓sT_0, ↓sT_i, ↓sT_r, ↓sT_u, ↓sT_lu, ↓sU_0, ↓sU_i, ↓sU_r, ↓sU_u, ↓ite_bx, bx_T, bx_F, bx_pos, bx_neg, zws_i, zws_r, zws_l, zws_n, zCb_kc, xl_ll, xr_rr, xs_e, xset_e, Option.toList, List.cons_append, List.nil_append, zIb_e, zrng_e, nz_e, if_pos, if_neg, and_true, true_and, or_true, true_or, ite_self, bi_eq0, bi_eq1, bi_1, bi_0, bi_ir, bi_T, bi_F, up_eq, up_ne, ↓reduceIte, reduceIte, Nat.reduceAdd, Nat.reduceLeDiff, Nat.le_refl, Nat.zero_le, not_true_eq_false, not_false_eq_true, ne_eq, Int.reduceEq, Int.reduceLT, Int.reduceLE, Int.reduceAdd, Int.reduceSub, Int.reduceMul, Int.reduceNeg, s190]
  | succ n ih =>
    intro i a b v h1 h2 ha hb
    rw [u109_7]
    by_cases q : b = 0
    · rw [gcn_z q]
      simp (disch := first | omega | exact rfl) only [↓u109_0, ↓u109_1, ↓u109_2, ↓u109_3, ↓u109_4, ↓u109_5, ↓u109_9, ↓u109_11, ↓u109_14, ↓u109_15, ↓u109_18, ↓u109_19, ↓u109_20, ↓u109_21, ↓u109_23, ↓u109_24, ↓u109_25, ↓u109_27, ↓u109_28, ↓u109_31, ↓u109_34, ↓u109_35, ↓u109_36, ↓u109_39, ↓lI_0, ↓lI_s, ↓lL_0, ↓lL_s, ↓lR_0, ↓lR_s, ↓sT_0, ↓sT_i, ↓sT_r, ↓sT_u, ↓sT_lu, ↓sU_0, ↓sU_i, ↓sU_r, ↓sU_u, ↓ite_bx, bx_T, bx_F, bx_pos, bx_neg, zws_i, zws_r, zws_l, zws_n, zCb_kc, xl_ll, xr_rr, xs_e, xset_e, Option.toList, List.cons_append, List.nil_append, zIb_e, zrng_e, nz_e, if_pos, if_neg, and_true, true_and, or_true, true_or, ite_self, bi_eq0, bi_eq1, bi_1, bi_0, bi_ir, bi_T, bi_F, up_eq, up_ne, ↓reduceIte, reduceIte, Nat.reduceAdd, Nat.reduceLeDiff, Nat.le_refl, Nat.zero_le, not_true_eq_false, not_false_eq_true, ne_eq, Int.reduceEq, Int.reduceLT, Int.reduceLE, Int.reduceAdd, Int.reduceSub, Int.reduceMul, Int.reduceNeg, s190]
    · have m := mul_p (a := a) (b := b) (by omega)
      have ih2 := fun v => ih (i + 1) b (a % b) v (by omega) (by omega) hb (by omega)
      rw [gcn_s q]
      simp (disch := first | omega | exact rfl) only [↓u109_0, ↓u109_1, ↓u109_2, ↓u109_3, ↓u109_4, ↓u109_5, ↓u109_9, ↓u109_11, ↓u109_14, ↓u109_15, ↓u109_18, ↓u109_19, ↓u109_20, ↓u109_21, ↓u109_23, ↓u109_24, ↓u109_25, ↓u109_27, ↓u109_28, ↓u109_31, ↓u109_34, ↓u109_35, ↓u109_36, ↓u109_39, ↓lI_0, ↓lI_s, ↓lL_0, ↓lL_s, ↓lR_0, ↓lR_s, ↓sT_0, ↓sT_i, ↓sT_r, ↓sT_u, ↓sT_lu, ↓sU_0, ↓sU_i, ↓sU_r, ↓sU_u, ↓ite_bx, bx_T, bx_F, bx_pos, bx_neg, zws_i, zws_r, zws_l, zws_n, zCb_kc, xl_ll, xr_rr, xs_e, xset_e, Option.toList, List.cons_append, List.nil_append, zIb_e, zrng_e, nz_e, if_pos, if_neg, and_true, true_and, or_true, true_or, ite_self, bi_eq0, bi_eq1, bi_1, bi_0, bi_ir, bi_T, bi_F, up_eq, up_ne, ↓reduceIte, reduceIte, Nat.reduceAdd, Nat.reduceLeDiff, Nat.le_refl, Nat.zero_le, not_true_eq_false, not_false_eq_true, ne_eq, Int.reduceEq, Int.reduceLT, Int.reduceLE, Int.reduceAdd, Int.reduceSub, Int.reduceMul, Int.reduceNeg, tm_e, ih2]
set_option maxRecDepth 8000 in
theorem s109 {d : Nat} {Q : Option AV → XH → Prop} {h : XH} {a b : Int} (hd : 2 ≤ d) (ha : 0 ≤ a ∧ a ≤ 1000000) (hb : 0 ≤ b ∧ b ≤ 1000000) : Call d 109 [zint a, zint b] h Q = Q (some (zint (max (gcn 100 a b) 1))) h := by
  rw [e109 (show 1 ≤ d by omega)]
  simp (disch := first | omega | exact rfl) only [↓u109_0, ↓u109_1, ↓u109_2, ↓u109_3, ↓u109_4, ↓u109_5, ↓u109_9, ↓u109_11, ↓u109_14, ↓u109_15, ↓u109_18, ↓u109_19, ↓u109_20, ↓u109_21, ↓u109_23, ↓u109_24, ↓u109_25, ↓u109_27, ↓u109_28, ↓u109_31, ↓u109_34, ↓u109_35, ↓u109_36, ↓u109_39, ↓lI_0, ↓lI_s, ↓lL_0, ↓lL_s, ↓lR_0, ↓lR_s, ↓sT_0, ↓sT_i, ↓sT_r, ↓sT_u, ↓sT_lu, ↓sU_0, ↓sU_i, ↓sU_r, ↓sU_u, ↓ite_bx, bx_T, bx_F, bx_pos, bx_neg, zws_i, zws_r, zws_l, zws_n, zCb_kc, xl_ll, xr_rr, xs_e, xset_e, Option.toList, List.cons_append, List.nil_append, zIb_e, zrng_e, nz_e, if_pos, if_neg, and_true, true_and, or_true, true_or, ite_self, bi_eq0, bi_eq1, bi_1, bi_0, bi_ir, bi_T, bi_F, up_eq, up_ne, ↓reduceIte, reduceIte, Nat.reduceAdd, Nat.reduceLeDiff, Nat.le_refl, Nat.zero_le, not_true_eq_false, not_false_eq_true, ne_eq, Int.reduceEq, Int.reduceLT, Int.reduceLE, Int.reduceAdd, Int.reduceSub, Int.reduceMul, Int.reduceNeg, l109 (show 2 ≤ d by omega) 100 0 a b zun (by omega) (by omega) ha hb]
set_option maxRecDepth 8000 in
theorem s108 {d : Nat} {Q : Option AV → XH → Prop} {h : XH} {a b k : Int} (hd : 3 ≤ d) (ha : 0 ≤ a ∧ a ≤ 1000000) (hb : 1 ≤ b ∧ b ≤ 1000000) (hk : k = 0 ∨ k = 1) : Call d 108 [zint a, zint b, zint k] h Q = Q (some (zlng ((if k = 0 then a else b) / gcn 100 a b))) h := by
  have hb2 : 0 ≤ b ∧ b ≤ 1000000 := by omega
  have g := gcn_b 100 a b 1000000 ha hb2 (by omega) (by omega)
  have e := fun Q => s109 (d := d - 1) (Q := Q) (h := h) (show 2 ≤ d - 1 by omega) ha hb2
  rw [show max (gcn 100 a b) 1 = gcn 100 a b by omega] at e
  generalize gcn 100 a b = c at e g
  have d1 : 0 ≤ a / c ∧ a / c ≤ 1000000 := ⟨Int.ediv_nonneg ha.1 (by omega), Int.le_trans (Int.ediv_le_self c ha.1) ha.2⟩
  have d2 : 0 ≤ b / c ∧ b / c ≤ 1000000 := ⟨Int.ediv_nonneg hb2.1 (by omega), Int.le_trans (Int.ediv_le_self c hb2.1) hb.2⟩
  rw [e108 (show 1 ≤ d by omega)]
  rcases hk with q | q
  · rw [if_pos q]
    simp (disch := first | omega | exact rfl) only [↓u108_0, ↓u108_1, ↓u108_2, ↓u108_5, ↓u108_6, ↓u108_7, ↓u108_10, ↓u108_11, ↓u108_14, ↓u108_15, ↓u108_16, ↓u108_17, ↓u108_18, ↓lI_0, ↓lI_s, ↓lL_0, ↓lL_s, ↓lR_0, ↓lR_s, ↓sT_0, ↓sT_i, ↓sT_r, ↓sT_u, ↓sT_lu, ↓sU_0, ↓sU_i, ↓sU_r, ↓sU_u, ↓ite_bx, bx_T, bx_F, bx_pos, bx_neg, zws_i, zws_r, zws_l, zws_n, zCb_kc, xl_ll, xr_rr, xs_e, xset_e, Option.toList, List.cons_append, List.nil_append, zIb_e, zrng_e, nz_e, if_pos, if_neg, and_true, true_and, or_true, true_or, ite_self, bi_eq0, bi_eq1, bi_1, bi_0, bi_ir, bi_T, bi_F, up_eq, up_ne, ↓reduceIte, reduceIte, Nat.reduceAdd, Nat.reduceLeDiff, Nat.le_refl, Nat.zero_le, not_true_eq_false, not_false_eq_true, ne_eq, Int.reduceEq, Int.reduceLT, Int.reduceLE, Int.reduceAdd, Int.reduceSub, Int.reduceMul, Int.reduceNeg, e, td_e]
  · rw [if_neg (by omega)]
    simp (disch := first | omega | exact rfl) only [↓u108_0, ↓u108_1, ↓u108_2, ↓u108_5, ↓u108_6, ↓u108_7, ↓u108_10, ↓u108_11, ↓u108_14, ↓u108_15, ↓u108_16, ↓u108_17, ↓u108_18, ↓lI_0, ↓lI_s, ↓lL_0, ↓lL_s, ↓lR_0, ↓lR_s, ↓sT_0, ↓sT_i, ↓sT_r, ↓sT_u, ↓sT_lu, ↓sU_0, ↓sU_i, ↓sU_r, ↓sU_u, ↓ite_bx, bx_T, bx_F, bx_pos, bx_neg, zws_i, zws_r, zws_l, zws_n, zCb_kc, xl_ll, xr_rr, xs_e, xset_e, Option.toList, List.cons_append, List.nil_append, zIb_e, zrng_e, nz_e, if_pos, if_neg, and_true, true_and, or_true, true_or, ite_self, bi_eq0, bi_eq1, bi_1, bi_0, bi_ir, bi_T, bi_F, up_eq, up_ne, ↓reduceIte, reduceIte, Nat.reduceAdd, Nat.reduceLeDiff, Nat.le_refl, Nat.zero_le, not_true_eq_false, not_false_eq_true, ne_eq, Int.reduceEq, Int.reduceLT, Int.reduceLE, Int.reduceAdd, Int.reduceSub, Int.reduceMul, Int.reduceNeg, e, td_e]
set_option maxRecDepth 8000 in
theorem s38_y {d : Nat} {Q : Option AV → XH → Prop} {G : XS} {s : ZS} {W : Int} {B : ZS} {N R T : Int}  (hd : 1 ≤ d) (hw : WOK G W) (hv : CV s W B N R T) (hb : OKB B N) (hn : 0 ≤ N ∧ N ≤ 40 ∧ 0 ≤ R ∧ R ≤ 10 ∧ 0 ≤ T ∧ T ≤ 20000) (h : N < 40) : Call d 38 [zrf W] (G, s) Q = Q (some (zrf (W + 2 + N))) (G, up s W 5 (N + 1)) := by
  have hw' := hw
  obtain ⟨w1, w2, w3, w4, w5, w6, w7, w8, w9, w10, w11, w12, w13, w14, w15, w16, w17, w18, w19, w20, w21, w22, w23, w24, w25⟩ := hw'
  have hv' := hv
  obtain ⟨v1, v2, v3, vB⟩ := hv'
  rw [e38 (show 1 ≤ d by omega)]
  simp (disch := first | omega | exact rfl) only [↓u38_0, ↓u38_1, ↓u38_4, ↓u38_6, ↓u38_9, ↓u38_10, ↓u38_11, ↓u38_12, ↓u38_13, ↓u38_16, ↓u38_17, ↓u38_18, ↓u38_21, ↓u38_22, ↓u38_25, ↓u38_26, ↓u38_29, ↓u38_30, ↓u38_31, ↓u38_32, ↓lI_0, ↓lI_s, ↓lL_0, ↓lL_s, ↓lR_0, ↓lR_s, ↓sT_0, ↓sT_i, ↓sT_r, ↓sT_u, ↓sT_lu, ↓sU_0, ↓sU_i, ↓sU_r, ↓sU_u, ↓ite_bx, bx_T, bx_F, bx_pos, bx_neg, zws_i, zws_r, zws_l, zws_n, zCb_kc, xl_ll, xr_rr, xs_e, xset_e, Option.toList, List.cons_append, List.nil_append, zIb_e, zrng_e, nz_e, if_pos, if_neg, and_true, true_and, or_true, true_or, ite_self, bi_eq0, bi_eq1, bi_1, bi_0, bi_ir, bi_T, bi_F, up_eq, up_ne, ↓reduceIte, reduceIte, Nat.reduceAdd, Nat.reduceLeDiff, Nat.le_refl, Nat.zero_le, not_true_eq_false, not_false_eq_true, ne_eq, Int.reduceEq, Int.reduceLT, Int.reduceLE, Int.reduceAdd, Int.reduceSub, Int.reduceMul, Int.reduceNeg, pT w1, w2, pT w3, w4, w5, w6, v1, v2, v3, vB, show N + 1 - 1 = N by omega]
set_option maxRecDepth 8000 in
theorem s38_n {d : Nat} {Q : Option AV → XH → Prop} {G : XS} {s : ZS} {W : Int} {B : ZS} {N R T : Int}  (hd : 1 ≤ d) (hw : WOK G W) (hv : CV s W B N R T) (hb : OKB B N) (hn : 0 ≤ N ∧ N ≤ 40 ∧ 0 ≤ R ∧ R ≤ 10 ∧ 0 ≤ T ∧ T ≤ 20000) (h : N = 40) : Call d 38 [zrf W] (G, s) Q = Q (some (zrf (-1))) (G, s) := by
  have hw' := hw
  obtain ⟨w1, w2, w3, w4, w5, w6, w7, w8, w9, w10, w11, w12, w13, w14, w15, w16, w17, w18, w19, w20, w21, w22, w23, w24, w25⟩ := hw'
  have hv' := hv
  obtain ⟨v1, v2, v3, vB⟩ := hv'
  rw [e38 (show 1 ≤ d by omega)]
  simp (disch := first | omega | exact rfl) only [↓u38_0, ↓u38_1, ↓u38_4, ↓u38_6, ↓u38_9, ↓u38_10, ↓u38_11, ↓u38_12, ↓u38_13, ↓u38_16, ↓u38_17, ↓u38_18, ↓u38_21, ↓u38_22, ↓u38_25, ↓u38_26, ↓u38_29, ↓u38_30, ↓u38_31, ↓u38_32, ↓lI_0, ↓lI_s, ↓lL_0, ↓lL_s, ↓lR_0, ↓lR_s, ↓sT_0, ↓sT_i, ↓sT_r, ↓sT_u, ↓sT_lu, ↓sU_0, ↓sU_i, ↓sU_r, ↓sU_u, ↓ite_bx, bx_T, bx_F, bx_pos, bx_neg, zws_i, zws_r, zws_l, zws_n, zCb_kc, xl_ll, xr_rr, xs_e, xset_e, Option.toList, List.cons_append, List.nil_append, zIb_e, zrng_e, nz_e, if_pos, if_neg, and_true, true_and, or_true, true_or, ite_self, bi_eq0, bi_eq1, bi_1, bi_0, bi_ir, bi_T, bi_F, up_eq, up_ne, ↓reduceIte, reduceIte, Nat.reduceAdd, Nat.reduceLeDiff, Nat.le_refl, Nat.zero_le, not_true_eq_false, not_false_eq_true, ne_eq, Int.reduceEq, Int.reduceLT, Int.reduceLE, Int.reduceAdd, Int.reduceSub, Int.reduceMul, Int.reduceNeg, pT w1, w2, pT w3, w4, w5, w6, v1, v2, v3, vB]
