/-! the class Rows; what an image takes over -/
def ROK (G : XS) (o n : Int) : Prop := kc G o 2 ∧ rr G o 0 = o + 1 ∧ kc G (o + 1) 7 ∧ ll G (o + 1) = n ∧ 0 ≤ n ∧ n ≤ 30
set_option maxRecDepth 8000 in
theorem zSb_e {G : XS} {s : ZS} {o : Int} {k : Nat} (h : kc G o k) : (zSb (G, s) o k = true) = True := eq_true (zSb_iff.2 ⟨h.1, Or.inl h.2.1, h.2.2⟩)
def apd (s : ZS) (o a b c : Int) : ZS := up (up (up (up s (o + 1) (s o 2 * 3) a) (o + 1) (s o 2 * 3 + 1) b) (o + 1) (s o 2 * 3 + 2) c) o 2 (s o 2 + 1)
def cpr (s : ZS) (a b n : Int) : ZS := fun x c => if x = a ∧ 0 ≤ c ∧ c < n then s b c else s x c
def rtk (s : ZS) (o p : Int) : ZS := cpr (up s o 2 (s p 2)) (o + 1) (p + 1) (s p 2 * 3)
set_option maxRecDepth 8000 in
theorem cpr_0 {s : ZS} {a b : Int} : cpr s a b 0 = s := by
  funext x c
  unfold cpr
  rw [if_neg (by omega)]
set_option maxRecDepth 8000 in
theorem cpr_o {s : ZS} {a b n x c : Int} (h : x ≠ a ∨ c < 0 ∨ n ≤ c) : cpr s a b n x c = s x c := by
  unfold cpr
  rw [if_neg (by omega)]
set_option maxRecDepth 8000 in
theorem cpr_i {s : ZS} {a b n c : Int} (h : 0 ≤ c ∧ c < n) : cpr s a b n a c = s b c := by
  unfold cpr
  rw [if_pos ⟨rfl, h⟩]
set_option maxRecDepth 8000 in
theorem cpr_s {s : ZS} {a b n : Int} (h : a ≠ b) (hn : 0 ≤ n) : up (cpr s a b n) a n (s b n) = cpr s a b (n + 1) := by
  funext x c
  by_cases q : x = a
  · subst q
    by_cases e : c = n
    · subst e
      rw [up_eq, cpr_i (by omega)]
    · rw [up_ne (by omega)]
      by_cases e2 : 0 ≤ c ∧ c < n
      · rw [cpr_i e2, cpr_i (by omega)]
      · rw [cpr_o (by omega), cpr_o (by omega)]
  · rw [up_ne (by omega), cpr_o (by omega), cpr_o (by omega)]
set_option maxRecDepth 8000 in
theorem s27 {d : Nat} {Q : Option AV → XH → Prop} {G : XS} {s : ZS} {o n : Int} (hd : 1 ≤ d) (hr : ROK G o n) : Call d 27 [zrf o] (G, s) Q = Q (some (zint 0)) (G, up s o 2 0) := by
  rw [e27 (show 1 ≤ d by omega)]
  obtain ⟨r1, r2, r3, r4, r5, r6⟩ := hr
  simp (disch := first | omega | exact rfl) only [↓u27_0, ↓u27_1, ↓u27_2, ↓u27_5, ↓u27_6, lI_0, lI_s, lL_0, lL_s, lR_0, lR_s, sT_0, sT_i, sT_r, sT_u, sT_lu, sU_0, sU_i, sU_r, sU_u, zws_i, zws_r, zws_l, zws_n, zCb_kc, xl_ll, xr_rr, xs_e, xset_e, Option.toList, List.cons_append, List.nil_append, zIb_e, zrng_e, nz_e, if_pos, if_neg, and_true, true_and, or_true, true_or, ite_self, bi_eq0, bi_eq1, bi_1, bi_0, bi_ir, bi_T, bi_F, up_eq, up_ne, ↓reduceIte, reduceIte, Nat.reduceAdd, Nat.reduceLeDiff, Nat.le_refl, Nat.zero_le, not_true_eq_false, not_false_eq_true, ne_eq, Int.reduceEq, Int.reduceLT, Int.reduceLE, Int.reduceAdd, Int.reduceSub, Int.reduceMul, Int.reduceNeg, pT r1, r2, pT r3, r4, zSb_e r3, pT r5]
set_option maxRecDepth 8000 in
theorem s28_y {d : Nat} {Q : Option AV → XH → Prop} {G : XS} {s : ZS} {o n : Int} {a b c : Int} (hd : 1 ≤ d) (hr : ROK G o n) (hz : 0 ≤ s o 2 ∧ s o 2 < s o 1) (hm : s o 1 * 3 = n) : Call d 28 [zrf o, zint a, zint b, zint c] (G, s) Q = Q (some (zint (s o 2 + 1))) (G, apd s o a b c) := by
  rw [e28 (show 1 ≤ d by omega)]
  obtain ⟨r1, r2, r3, r4, r5, r6⟩ := hr
  unfold apd
  simp (disch := first | omega | exact rfl) only [↓u28_0, ↓u28_1, ↓u28_4, ↓u28_5, ↓u28_8, ↓u28_11, ↓u28_13, ↓u28_14, ↓u28_15, ↓u28_18, ↓u28_19, ↓u28_22, ↓u28_23, ↓u28_24, ↓u28_25, ↓u28_26, ↓u28_27, ↓u28_30, ↓u28_31, ↓u28_34, ↓u28_35, ↓u28_36, ↓u28_37, ↓u28_38, ↓u28_39, ↓u28_40, ↓u28_41, ↓u28_44, ↓u28_45, ↓u28_48, ↓u28_49, ↓u28_50, ↓u28_51, ↓u28_52, ↓u28_53, ↓u28_54, ↓u28_55, ↓u28_56, ↓u28_59, ↓u28_60, ↓u28_61, ↓u28_64, ↓u28_65, ↓u28_68, lI_0, lI_s, lL_0, lL_s, lR_0, lR_s, sT_0, sT_i, sT_r, sT_u, sT_lu, sU_0, sU_i, sU_r, sU_u, zws_i, zws_r, zws_l, zws_n, zCb_kc, xl_ll, xr_rr, xs_e, xset_e, Option.toList, List.cons_append, List.nil_append, zIb_e, zrng_e, nz_e, if_pos, if_neg, and_true, true_and, or_true, true_or, ite_self, bi_eq0, bi_eq1, bi_1, bi_0, bi_ir, bi_T, bi_F, up_eq, up_ne, ↓reduceIte, reduceIte, Nat.reduceAdd, Nat.reduceLeDiff, Nat.le_refl, Nat.zero_le, not_true_eq_false, not_false_eq_true, ne_eq, Int.reduceEq, Int.reduceLT, Int.reduceLE, Int.reduceAdd, Int.reduceSub, Int.reduceMul, Int.reduceNeg, pT r1, r2, pT r3, r4, zSb_e r3, pT r5]
set_option maxRecDepth 8000 in
theorem s28_n {d : Nat} {Q : Option AV → XH → Prop} {G : XS} {s : ZS} {o n : Int} {a b c : Int} (hd : 1 ≤ d) (hr : ROK G o n) (hz : s o 2 = s o 1) (hm : 0 ≤ s o 1 ∧ s o 1 * 3 = n) : Call d 28 [zrf o, zint a, zint b, zint c] (G, s) Q = Q (some (zint (-4))) (G, s) := by
  rw [e28 (show 1 ≤ d by omega)]
  obtain ⟨r1, r2, r3, r4, r5, r6⟩ := hr
  simp (disch := first | omega | exact rfl) only [↓u28_0, ↓u28_1, ↓u28_4, ↓u28_5, ↓u28_8, ↓u28_11, ↓u28_13, ↓u28_14, ↓u28_15, ↓u28_18, ↓u28_19, ↓u28_22, ↓u28_23, ↓u28_24, ↓u28_25, ↓u28_26, ↓u28_27, ↓u28_30, ↓u28_31, ↓u28_34, ↓u28_35, ↓u28_36, ↓u28_37, ↓u28_38, ↓u28_39, ↓u28_40, ↓u28_41, ↓u28_44, ↓u28_45, ↓u28_48, ↓u28_49, ↓u28_50, ↓u28_51, ↓u28_52, ↓u28_53, ↓u28_54, ↓u28_55, ↓u28_56, ↓u28_59, ↓u28_60, ↓u28_61, ↓u28_64, ↓u28_65, ↓u28_68, lI_0, lI_s, lL_0, lL_s, lR_0, lR_s, sT_0, sT_i, sT_r, sT_u, sT_lu, sU_0, sU_i, sU_r, sU_u, zws_i, zws_r, zws_l, zws_n, zCb_kc, xl_ll, xr_rr, xs_e, xset_e, Option.toList, List.cons_append, List.nil_append, zIb_e, zrng_e, nz_e, if_pos, if_neg, and_true, true_and, or_true, true_or, ite_self, bi_eq0, bi_eq1, bi_1, bi_0, bi_ir, bi_T, bi_F, up_eq, up_ne, ↓reduceIte, reduceIte, Nat.reduceAdd, Nat.reduceLeDiff, Nat.le_refl, Nat.zero_le, not_true_eq_false, not_false_eq_true, ne_eq, Int.reduceEq, Int.reduceLT, Int.reduceLE, Int.reduceAdd, Int.reduceSub, Int.reduceMul, Int.reduceNeg, pT r1, r2, pT r3, r4, zSb_e r3, pT r5]
set_option maxRecDepth 8000 in
theorem s29 {d : Nat} {Q : Option AV → XH → Prop} {G : XS} {s : ZS} {o n : Int} {r c : Int} (hd : 2 ≤ d) (hr : ROK G o n) (hz : 0 ≤ r * 3 + c ∧ r * 3 + c < n) (h1 : 0 ≤ r ∧ 0 ≤ c) : Call d 29 [zrf o, zint r, zint c] (G, s) Q = Q (some (zint (s (o + 1) (r * 3 + c)))) (G, s) := by
  rw [e29 (show 1 ≤ d by omega)]
  obtain ⟨r1, r2, r3, r4, r5, r6⟩ := hr
  simp (disch := first | omega | exact rfl) only [↓u29_0, ↓u29_1, ↓u29_2, ↓u29_3, ↓u29_4, ↓u29_5, ↓u29_6, ↓u29_7, ↓u29_8, ↓u29_9, ↓u29_12, ↓u29_13, ↓u29_14, ↓u29_15, ↓u29_18, ↓u29_21, ↓u29_22, ↓u29_25, ↓u29_26, ↓u29_27, ↓u29_30, ↓u29_31, lI_0, lI_s, lL_0, lL_s, lR_0, lR_s, sT_0, sT_i, sT_r, sT_u, sT_lu, sU_0, sU_i, sU_r, sU_u, zws_i, zws_r, zws_l, zws_n, zCb_kc, xl_ll, xr_rr, xs_e, xset_e, Option.toList, List.cons_append, List.nil_append, zIb_e, zrng_e, nz_e, if_pos, if_neg, and_true, true_and, or_true, true_or, ite_self, bi_eq0, bi_eq1, bi_1, bi_0, bi_ir, bi_T, bi_F, up_eq, up_ne, ↓reduceIte, reduceIte, Nat.reduceAdd, Nat.reduceLeDiff, Nat.le_refl, Nat.zero_le, not_true_eq_false, not_false_eq_true, ne_eq, Int.reduceEq, Int.reduceLT, Int.reduceLE, Int.reduceAdd, Int.reduceSub, Int.reduceMul, Int.reduceNeg, pT r1, r2, pT r3, r4, zSb_e r3, pT r5, s103]
set_option maxRecDepth 8000 in
theorem s30 {d : Nat} {Q : Option AV → XH → Prop} {G : XS} {s : ZS} {o p n : Int} (hd : 2 ≤ d) (hr : ROK G o n) (hx : ROK G p n) (hop : o + 2 ≤ p ∨ p + 2 ≤ o) (hz : 0 ≤ s p 2 ∧ s p 2 ≤ s o 1) (hm : s o 1 * 3 = n) : Call d 30 [zrf o, zrf p] (G, s) Q = Q none (G, rtk s o p) := by
  obtain ⟨r1, r2, r3, r4, r5, r6⟩ := hr
  obtain ⟨x1, x2, x3, x4, x5, x6⟩ := hx
  rw [e30 (show 1 ≤ d by omega)]
  have lp : ∀ i, 0 ≤ i → i ≤ s p 2 * 3 → Wp (d - 1) 30 (17, [zrf o, zrf p, zint i], [], (G, cpr (up s o 2 (s p 2)) (o + 1) (p + 1) i)) Q = Q none (G, rtk s o p) := by
    refine dn (P := fun i => Wp (d - 1) 30 (17, [zrf o, zrf p, zint i], [], (G, cpr (up s o 2 (s p 2)) (o + 1) (p + 1) i)) Q = Q none (G, rtk s o p)) ?_ ?_
    · rw [u30_17]
      simp (disch := first | omega | exact rfl) only [↓u30_0, ↓u30_1, ↓u30_2, ↓u30_5, ↓u30_6, ↓u30_9, ↓u30_12, ↓u30_15, ↓u30_16, ↓u30_18, ↓u30_19, ↓u30_22, ↓u30_23, ↓u30_24, ↓u30_27, ↓u30_28, ↓u30_29, ↓u30_32, ↓u30_33, ↓u30_36, ↓u30_37, ↓u30_40, ↓u30_41, ↓u30_42, ↓u30_45, ↓u30_46, ↓u30_47, ↓u30_48, ↓u30_51, ↓u30_54, lI_0, lI_s, lL_0, lL_s, lR_0, lR_s, sT_0, sT_i, sT_r, sT_u, sT_lu, sU_0, sU_i, sU_r, sU_u, zws_i, zws_r, zws_l, zws_n, zCb_kc, xl_ll, xr_rr, xs_e, xset_e, Option.toList, List.cons_append, List.nil_append, zIb_e, zrng_e, nz_e, if_pos, if_neg, and_true, true_and, or_true, true_or, ite_self, bi_eq0, bi_eq1, bi_1, bi_0, bi_ir, bi_T, bi_F, up_eq, up_ne, ↓reduceIte, reduceIte, Nat.reduceAdd, Nat.reduceLeDiff, Nat.le_refl, Nat.zero_le, not_true_eq_false, not_false_eq_true, ne_eq, Int.reduceEq, Int.reduceLT, Int.reduceLE, Int.reduceAdd, Int.reduceSub, Int.reduceMul, Int.reduceNeg, pT r1, r2, pT r3, r4, zSb_e r3, pT r5, pT x1, x2, pT x3, x4, zSb_e x3, cpr_o]
      all_goals rfl
    · intro i h0 h1 ih
      have e2 : up (cpr (up s o 2 (s p 2)) (o + 1) (p + 1) i) (o + 1) i (s (p + 1) i) = cpr (up s o 2 (s p 2)) (o + 1) (p + 1) (i + 1) := by
        rw [← cpr_s (show o + 1 ≠ p + 1 by omega) h0, show up s o 2 (s p 2) (p + 1) i = s (p + 1) i from up_ne (by omega)]
      rw [u30_17]
      simp (disch := first | omega | exact rfl) only [↓u30_0, ↓u30_1, ↓u30_2, ↓u30_5, ↓u30_6, ↓u30_9, ↓u30_12, ↓u30_15, ↓u30_16, ↓u30_18, ↓u30_19, ↓u30_22, ↓u30_23, ↓u30_24, ↓u30_27, ↓u30_28, ↓u30_29, ↓u30_32, ↓u30_33, ↓u30_36, ↓u30_37, ↓u30_40, ↓u30_41, ↓u30_42, ↓u30_45, ↓u30_46, ↓u30_47, ↓u30_48, ↓u30_51, ↓u30_54, lI_0, lI_s, lL_0, lL_s, lR_0, lR_s, sT_0, sT_i, sT_r, sT_u, sT_lu, sU_0, sU_i, sU_r, sU_u, zws_i, zws_r, zws_l, zws_n, zCb_kc, xl_ll, xr_rr, xs_e, xset_e, Option.toList, List.cons_append, List.nil_append, zIb_e, zrng_e, nz_e, if_pos, if_neg, and_true, true_and, or_true, true_or, ite_self, bi_eq0, bi_eq1, bi_1, bi_0, bi_ir, bi_T, bi_F, up_eq, up_ne, ↓reduceIte, reduceIte, Nat.reduceAdd, Nat.reduceLeDiff, Nat.le_refl, Nat.zero_le, not_true_eq_false, not_false_eq_true, ne_eq, Int.reduceEq, Int.reduceLT, Int.reduceLE, Int.reduceAdd, Int.reduceSub, Int.reduceMul, Int.reduceNeg, pT r1, r2, pT r3, r4, zSb_e r3, pT r5, pT x1, x2, pT x3, x4, zSb_e x3, ih, cpr_o, e2]
  have l0 := lp 0 (Int.le_refl 0) (by omega)
  rw [cpr_0] at l0
  simp (disch := first | omega | exact rfl) only [↓u30_0, ↓u30_1, ↓u30_2, ↓u30_5, ↓u30_6, ↓u30_9, ↓u30_12, ↓u30_15, ↓u30_16, ↓u30_18, ↓u30_19, ↓u30_22, ↓u30_23, ↓u30_24, ↓u30_27, ↓u30_28, ↓u30_29, ↓u30_32, ↓u30_33, ↓u30_36, ↓u30_37, ↓u30_40, ↓u30_41, ↓u30_42, ↓u30_45, ↓u30_46, ↓u30_47, ↓u30_48, ↓u30_51, ↓u30_54, lI_0, lI_s, lL_0, lL_s, lR_0, lR_s, sT_0, sT_i, sT_r, sT_u, sT_lu, sU_0, sU_i, sU_r, sU_u, zws_i, zws_r, zws_l, zws_n, zCb_kc, xl_ll, xr_rr, xs_e, xset_e, Option.toList, List.cons_append, List.nil_append, zIb_e, zrng_e, nz_e, if_pos, if_neg, and_true, true_and, or_true, true_or, ite_self, bi_eq0, bi_eq1, bi_1, bi_0, bi_ir, bi_T, bi_F, up_eq, up_ne, ↓reduceIte, reduceIte, Nat.reduceAdd, Nat.reduceLeDiff, Nat.le_refl, Nat.zero_le, not_true_eq_false, not_false_eq_true, ne_eq, Int.reduceEq, Int.reduceLT, Int.reduceLE, Int.reduceAdd, Int.reduceSub, Int.reduceMul, Int.reduceNeg, pT r1, r2, pT r3, r4, zSb_e r3, pT r5, pT x1, x2, pT x3, x4, zSb_e x3, l0, s191, show min (s p 2) (s o 1) = s p 2 by omega]
