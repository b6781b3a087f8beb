/-! the class Reader: signs, numbers, a clause -/
def RDR (G : XS) : Prop := kc G 148 1 ∧ rr G 148 0 = 149 ∧ kc G 149 9 ∧ ll G 149 = 100 ∧ rr G 148 1 = 150 ∧ kc G 150 12 ∧ ll G 150 = 8 ∧ (∀ i, 0 ≤ i ∧ i < 8 → rr G 150 i = 151 + i) ∧ (∀ i, 0 ≤ i ∧ i < 8 → kc G (151 + i) 7) ∧ ∀ i, 0 ≤ i ∧ i < 8 → ll G (151 + i) = 8
def TXT (s : ZS) (tx : Int → Int) (ln : Int) : Prop := s 148 2 = ln ∧ (0 ≤ ln ∧ ln ≤ 100) ∧ (∀ i, 0 ≤ i ∧ i < ln → s 149 i = tx i) ∧ ∀ i, 0 ≤ i ∧ i < ln → 0 ≤ tx i ∧ tx i ≤ 127
def sg (tx : Int → Int) (ln p : Int) : Int := if 0 ≤ p ∧ p < ln then tx p else -1
set_option maxRecDepth 8000 in
theorem sg_i {tx : Int → Int} {ln p : Int} (h : 0 ≤ p ∧ p < ln) : sg tx ln p = tx p := if_pos h
set_option maxRecDepth 8000 in
theorem sg_o {tx : Int → Int} {ln p : Int} (h : ¬(0 ≤ p ∧ p < ln)) : sg tx ln p = -1 := if_neg h
set_option maxRecDepth 8000 in
theorem sg_b {s : ZS} {tx : Int → Int} {ln p : Int} (ht : TXT s tx ln) : -1 ≤ sg tx ln p ∧ sg tx ln p ≤ 127 := by
  by_cases h : 0 ≤ p ∧ p < ln
  · rw [sg_i h]
    have := ht.2.2.2 p h
    omega
  · rw [sg_o h]
    omega
set_option maxRecDepth 8000 in
theorem sg_l {tx : Int → Int} {ln p : Int} (h : 0 ≤ sg tx ln p) : 0 ≤ p ∧ p < ln := by
  by_cases q : 0 ≤ p ∧ p < ln
  · exact q
  · rw [sg_o q] at h
    omega
def pst (s : ZS) (p f : Int) : ZS := up (up s 148 4 p) 148 5 f
set_option maxRecDepth 8000 in
theorem pst_4 {s : ZS} {p f : Int} : pst s p f 148 4 = p := by unfold pst; simp (disch := omega) only [up_ne, up_eq]
set_option maxRecDepth 8000 in
theorem pst_5 {s : ZS} {p f : Int} : pst s p f 148 5 = f := by unfold pst; simp (disch := omega) only [up_eq]
set_option maxRecDepth 8000 in
theorem pst_o {s : ZS} {p f a c : Int} (h : a ≠ 148 ∨ (c ≠ 4 ∧ c ≠ 5)) : pst s p f a c = s a c := by unfold pst; rw [up_ne (by omega), up_ne (by omega)]
set_option maxRecDepth 8000 in
theorem up_2 {s : ZS} {a c v w : Int} : up (up s a c v) a c w = up s a c w := by
  funext x y
  unfold up
  split <;> rfl
set_option maxRecDepth 8000 in
theorem up_cm {s : ZS} {a c v a' c' v' : Int} (h : a ≠ a' ∨ c ≠ c') : up (up s a c v) a' c' v' = up (up s a' c' v') a c v := by
  funext x y
  by_cases q : x = a ∧ y = c
  · rw [q.1, q.2, up_eq, up_ne h, up_eq]
  · by_cases q2 : x = a' ∧ y = c'
    · rw [q2.1, q2.2, up_eq, up_ne (by omega), up_eq]
    · rw [up_ne (by omega), up_ne (by omega), up_ne (by omega), up_ne (by omega)]
set_option maxRecDepth 8000 in
theorem up_id {s : ZS} {a c v : Int} (h : s a c = v) : up s a c v = s := by
  funext x y
  by_cases q : x = a ∧ y = c
  · rw [q.1, q.2, up_eq, h]
  · rw [up_ne (by omega)]
set_option maxRecDepth 8000 in
theorem up_p4 {s : ZS} {p f v : Int} : up (pst s p f) 148 4 v = pst s v f := by
  unfold pst
  rw [up_cm (s := up s 148 4 p) (a := 148) (c := 5) (by omega), up_2]
set_option maxRecDepth 8000 in
theorem up_p5 {s : ZS} {p f v : Int} : up (pst s p f) 148 5 v = pst s p v := by
  unfold pst
  rw [up_2]
set_option maxRecDepth 8000 in
theorem up_po {s : ZS} {p f v a c : Int} (h : a ≠ 148 ∨ (c ≠ 4 ∧ c ≠ 5)) : up (pst s p f) a c v = pst (up s a c v) p f := by
  unfold pst
  rw [up_cm (s := up s 148 4 p) (a := 148) (c := 5) (by omega), up_cm (s := s) (a := 148) (c := 4) (by omega)]
set_option maxRecDepth 8000 in
theorem pst_s {s : ZS} : pst s (s 148 4) (s 148 5) = s := by
  unfold pst
  rw [up_id (s := up s 148 4 (s 148 4)) (by rw [up_ne (by omega)]), up_id rfl]
set_option maxRecDepth 8000 in
theorem s19 {d : Nat} {Q : Option AV → XH → Prop} {G : XS} {s : ZS} {tx : Int → Int} {ln p : Int} {f : Int} (hd : 1 ≤ d) (hr : RDR G) (ht : TXT s tx ln) (hp : 0 ≤ p ∧ p ≤ ln) : Call d 19 [zrf 148] (G, pst s p f) Q = Q (some (zint (sg tx ln p))) (G, pst s p f) := by
  have hr' := hr
  obtain ⟨r1, r2, r3, r4, r5, r6, r7, r8, r9, r10⟩ := hr'
  have ht' := ht
  obtain ⟨t1, t2, t3, t4⟩ := ht'
  have sb := fun p => sg_b (p := p) ht
  rw [e19 (show 1 ≤ d by omega)]
  by_cases q : 0 ≤ p ∧ p < ln
  · rw [sg_i q]
    simp (disch := first | omega | exact rfl) only [↓u19_0, ↓u19_1, ↓u19_4, ↓u19_7, ↓u19_8, ↓u19_11, ↓u19_12, ↓u19_15, ↓u19_18, ↓u19_19, ↓u19_22, ↓u19_23, ↓u19_26, ↓u19_27, ↓u19_30, ↓u19_31, ↓lI_0, ↓lI_s, ↓lL_0, ↓lL_s, ↓lR_0, ↓lR_s, ↓sT_0, ↓sT_i, ↓sT_r, ↓sT_u, ↓sT_lu, ↓sU_0, ↓sU_i, ↓sU_r, ↓sU_u, ↓ite_bx, bx_T, bx_F, bx_pos, bx_neg, zws_i, zws_r, zws_l, zws_n, zCb_kc, xl_ll, xr_rr, xs_e, xset_e, Option.toList, List.cons_append, List.nil_append, zIb_e, zrng_e, nz_e, if_pos, if_neg, and_true, true_and, or_true, true_or, ite_self, bi_eq0, bi_eq1, bi_1, bi_0, bi_ir, bi_T, bi_F, up_eq, up_ne, ↓reduceIte, reduceIte, Nat.reduceAdd, Nat.reduceLeDiff, Nat.le_refl, Nat.zero_le, not_true_eq_false, not_false_eq_true, ne_eq, Int.reduceEq, Int.reduceLT, Int.reduceLE, Int.reduceAdd, Int.reduceSub, Int.reduceMul, Int.reduceNeg, pT r1, r2, pT r3, r4, r5, pT r6, r7, t1, pst_4, pst_5, pst_o, up_p4, up_p5, t3]
  · rw [sg_o q]
    simp (disch := first | omega | exact rfl) only [↓u19_0, ↓u19_1, ↓u19_4, ↓u19_7, ↓u19_8, ↓u19_11, ↓u19_12, ↓u19_15, ↓u19_18, ↓u19_19, ↓u19_22, ↓u19_23, ↓u19_26, ↓u19_27, ↓u19_30, ↓u19_31, ↓lI_0, ↓lI_s, ↓lL_0, ↓lL_s, ↓lR_0, ↓lR_s, ↓sT_0, ↓sT_i, ↓sT_r, ↓sT_u, ↓sT_lu, ↓sU_0, ↓sU_i, ↓sU_r, ↓sU_u, ↓ite_bx, bx_T, bx_F, bx_pos, bx_neg, zws_i, zws_r, zws_l, zws_n, zCb_kc, xl_ll, xr_rr, xs_e, xset_e, Option.toList, List.cons_append, List.nil_append, zIb_e, zrng_e, nz_e, if_pos, if_neg, and_true, true_and, or_true, true_or, ite_self, bi_eq0, bi_eq1, bi_1, bi_0, bi_ir, bi_T, bi_F, up_eq, up_ne, ↓reduceIte, reduceIte, Nat.reduceAdd, Nat.reduceLeDiff, Nat.le_refl, Nat.zero_le, not_true_eq_false, not_false_eq_true, ne_eq, Int.reduceEq, Int.reduceLT, Int.reduceLE, Int.reduceAdd, Int.reduceSub, Int.reduceMul, Int.reduceNeg, pT r1, r2, pT r3, r4, r5, pT r6, r7, t1, pst_4, pst_5, pst_o, up_p4, up_p5]
set_option maxRecDepth 8000 in
theorem s20_y {d : Nat} {Q : Option AV → XH → Prop} {G : XS} {s : ZS} {p v : Int} (hd : 1 ≤ d) (hr : RDR G) : Call d 20 [zrf 148, zint v] (G, pst s p (-1)) Q = Q none (G, pst s p v) := by
  obtain ⟨r1, r2⟩ := hr
  rw [e20 (show 1 ≤ d by omega)]
  simp (disch := first | omega | exact rfl) only [↓u20_0, ↓u20_1, ↓u20_4, ↓u20_7, ↓u20_8, ↓u20_9, ↓u20_12, ↓lI_0, ↓lI_s, ↓lL_0, ↓lL_s, ↓lR_0, ↓lR_s, ↓sT_0, ↓sT_i, ↓sT_r, ↓sT_u, ↓sT_lu, ↓sU_0, ↓sU_i, ↓sU_r, ↓sU_u, ↓ite_bx, bx_T, bx_F, bx_pos, bx_neg, zws_i, zws_r, zws_l, zws_n, zCb_kc, xl_ll, xr_rr, xs_e, xset_e, Option.toList, List.cons_append, List.nil_append, zIb_e, zrng_e, nz_e, if_pos, if_neg, and_true, true_and, or_true, true_or, ite_self, bi_eq0, bi_eq1, bi_1, bi_0, bi_ir, bi_T, bi_F, up_eq, up_ne, ↓reduceIte, reduceIte, Nat.reduceAdd, Nat.reduceLeDiff, Nat.le_refl, Nat.zero_le, not_true_eq_false, not_false_eq_true, ne_eq, Int.reduceEq, Int.reduceLT, Int.reduceLE, Int.reduceAdd, Int.reduceSub, Int.reduceMul, Int.reduceNeg, pT r1, pst_4, pst_5, up_p5]
set_option maxRecDepth 8000 in
theorem s20_n {d : Nat} {Q : Option AV → XH → Prop} {G : XS} {s : ZS} {p v f : Int} (hd : 1 ≤ d) (hr : RDR G) (hf : 0 ≤ f ∧ f ≤ 1000) : Call d 20 [zrf 148, zint v] (G, pst s p f) Q = Q none (G, pst s p f) := by
  obtain ⟨r1, r2⟩ := hr
  rw [e20 (show 1 ≤ d by omega)]
  simp (disch := first | omega | exact rfl) only [↓u20_0, ↓u20_1, ↓u20_4, ↓u20_7, ↓u20_8, ↓u20_9, ↓u20_12, ↓lI_0, ↓lI_s, ↓lL_0, ↓lL_s, ↓lR_0, ↓lR_s, ↓sT_0, ↓sT_i, ↓sT_r, ↓sT_u, ↓sT_lu, ↓sU_0, ↓sU_i, ↓sU_r, ↓sU_u, ↓ite_bx, bx_T, bx_F, bx_pos, bx_neg, zws_i, zws_r, zws_l, zws_n, zCb_kc, xl_ll, xr_rr, xs_e, xset_e, Option.toList, List.cons_append, List.nil_append, zIb_e, zrng_e, nz_e, if_pos, if_neg, and_true, true_and, or_true, true_or, ite_self, bi_eq0, bi_eq1, bi_1, bi_0, bi_ir, bi_T, bi_F, up_eq, up_ne, ↓reduceIte, reduceIte, Nat.reduceAdd, Nat.reduceLeDiff, Nat.le_refl, Nat.zero_le, not_true_eq_false, not_false_eq_true, ne_eq, Int.reduceEq, Int.reduceLT, Int.reduceLE, Int.reduceAdd, Int.reduceSub, Int.reduceMul, Int.reduceNeg, pT r1, pst_4, pst_5, up_p5]
set_option maxRecDepth 8000 in
theorem s21_y {d : Nat} {Q : Option AV → XH → Prop} {G : XS} {s : ZS} {tx : Int → Int} {ln p : Int} {c : Int} (hd : 2 ≤ d) (hr : RDR G) (ht : TXT s tx ln) (hp : 0 ≤ p ∧ p ≤ ln) (hc : 0 ≤ c ∧ c ≤ 127) (q : sg tx ln p = c) : Call d 21 [zrf 148, zint c] (G, pst s p (-1)) Q = Q none (G, pst s (p + 1) (-1)) := by
  have hr' := hr
  obtain ⟨r1, r2, r3, r4, r5, r6, r7, r8, r9, r10⟩ := hr'
  have ht' := ht
  obtain ⟨t1, t2, t3, t4⟩ := ht'
  have sb := fun p => sg_b (p := p) ht
  rw [e21 (show 1 ≤ d by omega)]
  simp (disch := first | omega | exact rfl) only [↓u21_0, ↓u21_1, ↓u21_4, ↓u21_7, ↓u21_8, ↓u21_11, ↓u21_12, ↓u21_15, ↓u21_16, ↓u21_17, ↓u21_20, ↓u21_21, ↓u21_22, ↓u21_25, ↓u21_28, ↓u21_29, ↓u21_30, ↓u21_33, ↓u21_36, ↓lI_0, ↓lI_s, ↓lL_0, ↓lL_s, ↓lR_0, ↓lR_s, ↓sT_0, ↓sT_i, ↓sT_r, ↓sT_u, ↓sT_lu, ↓sU_0, ↓sU_i, ↓sU_r, ↓sU_u, ↓ite_bx, bx_T, bx_F, bx_pos, bx_neg, zws_i, zws_r, zws_l, zws_n, zCb_kc, xl_ll, xr_rr, xs_e, xset_e, Option.toList, List.cons_append, List.nil_append, zIb_e, zrng_e, nz_e, if_pos, if_neg, and_true, true_and, or_true, true_or, ite_self, bi_eq0, bi_eq1, bi_1, bi_0, bi_ir, bi_T, bi_F, up_eq, up_ne, ↓reduceIte, reduceIte, Nat.reduceAdd, Nat.reduceLeDiff, Nat.le_refl, Nat.zero_le, not_true_eq_false, not_false_eq_true, ne_eq, Int.reduceEq, Int.reduceLT, Int.reduceLE, Int.reduceAdd, Int.reduceSub, Int.reduceMul, Int.reduceNeg, pT r1, r2, pT r3, r4, r5, pT r6, r7, t1, pst_4, pst_5, pst_o, up_p4, up_p5, q, s19 (show 1 ≤ d - 1 by omega) hr ht hp]
set_option maxRecDepth 8000 in
theorem s21_n {d : Nat} {Q : Option AV → XH → Prop} {G : XS} {s : ZS} {tx : Int → Int} {ln p : Int} {c : Int} (hd : 2 ≤ d) (hr : RDR G) (ht : TXT s tx ln) (hp : 0 ≤ p ∧ p ≤ ln) (hc : 0 ≤ c ∧ c ≤ 127) (q : sg tx ln p ≠ c) : Call d 21 [zrf 148, zint c] (G, pst s p (-1)) Q = Q none (G, pst s p p) := by
  have hr' := hr
  obtain ⟨r1, r2, r3, r4, r5, r6, r7, r8, r9, r10⟩ := hr'
  have ht' := ht
  obtain ⟨t1, t2, t3, t4⟩ := ht'
  have sb := fun p => sg_b (p := p) ht
  rw [e21 (show 1 ≤ d by omega)]
  have sp := sb p
  simp (disch := first | omega | exact rfl) only [↓u21_0, ↓u21_1, ↓u21_4, ↓u21_7, ↓u21_8, ↓u21_11, ↓u21_12, ↓u21_15, ↓u21_16, ↓u21_17, ↓u21_20, ↓u21_21, ↓u21_22, ↓u21_25, ↓u21_28, ↓u21_29, ↓u21_30, ↓u21_33, ↓u21_36, ↓lI_0, ↓lI_s, ↓lL_0, ↓lL_s, ↓lR_0, ↓lR_s, ↓sT_0, ↓sT_i, ↓sT_r, ↓sT_u, ↓sT_lu, ↓sU_0, ↓sU_i, ↓sU_r, ↓sU_u, ↓ite_bx, bx_T, bx_F, bx_pos, bx_neg, zws_i, zws_r, zws_l, zws_n, zCb_kc, xl_ll, xr_rr, xs_e, xset_e, Option.toList, List.cons_append, List.nil_append, zIb_e, zrng_e, nz_e, if_pos, if_neg, and_true, true_and, or_true, true_or, ite_self, bi_eq0, bi_eq1, bi_1, bi_0, bi_ir, bi_T, bi_F, up_eq, up_ne, ↓reduceIte, reduceIte, Nat.reduceAdd, Nat.reduceLeDiff, Nat.le_refl, Nat.zero_le, not_true_eq_false, not_false_eq_true, ne_eq, Int.reduceEq, Int.reduceLT, Int.reduceLE, Int.reduceAdd, Int.reduceSub, Int.reduceMul, Int.reduceNeg, pT r1, r2, pT r3, r4, r5, pT r6, r7, t1, pst_4, pst_5, pst_o, up_p4, up_p5, s20_y (show 1 ≤ d - 1 by omega) hr, s19 (show 1 ≤ d - 1 by omega) hr ht hp]
set_option maxRecDepth 8000 in
theorem s21_f {d : Nat} {Q : Option AV → XH → Prop} {G : XS} {s : ZS} {tx : Int → Int} {ln p : Int} {c f : Int} (hd : 2 ≤ d) (hr : RDR G) (ht : TXT s tx ln) (hp : 0 ≤ p ∧ p ≤ ln) (hf : 0 ≤ f ∧ f ≤ 1000) : Call d 21 [zrf 148, zint c] (G, pst s p f) Q = Q none (G, pst s p f) := by
  have hr' := hr
  obtain ⟨r1, r2, r3, r4, r5, r6, r7, r8, r9, r10⟩ := hr'
  have ht' := ht
  obtain ⟨t1, t2, t3, t4⟩ := ht'
  have sb := fun p => sg_b (p := p) ht
  rw [e21 (show 1 ≤ d by omega)]
  simp (disch := first | omega | exact rfl) only [↓u21_0, ↓u21_1, ↓u21_4, ↓u21_7, ↓u21_8, ↓u21_11, ↓u21_12, ↓u21_15, ↓u21_16, ↓u21_17, ↓u21_20, ↓u21_21, ↓u21_22, ↓u21_25, ↓u21_28, ↓u21_29, ↓u21_30, ↓u21_33, ↓u21_36, ↓lI_0, ↓lI_s, ↓lL_0, ↓lL_s, ↓lR_0, ↓lR_s, ↓sT_0, ↓sT_i, ↓sT_r, ↓sT_u, ↓sT_lu, ↓sU_0, ↓sU_i, ↓sU_r, ↓sU_u, ↓ite_bx, bx_T, bx_F, bx_pos, bx_neg, zws_i, zws_r, zws_l, zws_n, zCb_kc, xl_ll, xr_rr, xs_e, xset_e, Option.toList, List.cons_append, List.nil_append, zIb_e, zrng_e, nz_e, if_pos, if_neg, and_true, true_and, or_true, true_or, ite_self, bi_eq0, bi_eq1, bi_1, bi_0, bi_ir, bi_T, bi_F, up_eq, up_ne, ↓reduceIte, reduceIte, Nat.reduceAdd, Nat.reduceLeDiff, Nat.le_refl, Nat.zero_le, not_true_eq_false, not_false_eq_true, ne_eq, Int.reduceEq, Int.reduceLT, Int.reduceLE, Int.reduceAdd, Int.reduceSub, Int.reduceMul, Int.reduceNeg, pT r1, r2, pT r3, r4, r5, pT r6, r7, t1, pst_4, pst_5, pst_o, up_p4, up_p5, s20_n (show 1 ≤ d - 1 by omega) hr hf]
def kv (c : Int) : Int := if c = 98 then 0 else if c = 109 then 1 else if c = 111 then 2 else if c = 119 then 3 else -1
set_option maxRecDepth 8000 in
theorem kv_b (c : Int) : (kv c = -1 ∨ 0 ≤ c) ∧ -1 ≤ kv c ∧ kv c ≤ 3 := by
  unfold kv
  split
  · omega
  · split
    · omega
    · split
      · omega
      · split <;> omega
set_option maxRecDepth 8000 in
theorem s23 {d : Nat} {Q : Option AV → XH → Prop} {h : XH} {c : Int} (hd : 1 ≤ d) (hc : ir c) : Call d 23 [zint c] h Q = Q (some (zint (kv c))) h := by
  rw [e23 (show 1 ≤ d by omega)]
  unfold kv
  by_cases q0 : c = 98
  · simp (disch := first | omega | exact rfl) only [↓u23_0, ↓u23_1, ↓u23_44, ↓u23_45, ↓u23_46, ↓u23_47, ↓u23_48, ↓u23_49, ↓u23_50, ↓u23_51, ↓u23_52, ↓u23_53, ↓lI_0, ↓lI_s, ↓lL_0, ↓lL_s, ↓lR_0, ↓lR_s, ↓sT_0, ↓sT_i, ↓sT_r, ↓sT_u, ↓sT_lu, ↓sU_0, ↓sU_i, ↓sU_r, ↓sU_u, ↓ite_bx, bx_T, bx_F, bx_pos, bx_neg, zws_i, zws_r, zws_l, zws_n, zCb_kc, xl_ll, xr_rr, xs_e, xset_e, Option.toList, List.cons_append, List.nil_append, zIb_e, zrng_e, nz_e, if_pos, if_neg, and_true, true_and, or_true, true_or, ite_self, bi_eq0, bi_eq1, bi_1, bi_0, bi_ir, bi_T, bi_F, up_eq, up_ne, ↓reduceIte, reduceIte, Nat.reduceAdd, Nat.reduceLeDiff, Nat.le_refl, Nat.zero_le, not_true_eq_false, not_false_eq_true, ne_eq, Int.reduceEq, Int.reduceLT, Int.reduceLE, Int.reduceAdd, Int.reduceSub, Int.reduceMul, Int.reduceNeg, ztc_0, ztc_s]
  by_cases q1 : c = 109
  · simp (disch := first | omega | exact rfl) only [↓u23_0, ↓u23_1, ↓u23_44, ↓u23_45, ↓u23_46, ↓u23_47, ↓u23_48, ↓u23_49, ↓u23_50, ↓u23_51, ↓u23_52, ↓u23_53, ↓lI_0, ↓lI_s, ↓lL_0, ↓lL_s, ↓lR_0, ↓lR_s, ↓sT_0, ↓sT_i, ↓sT_r, ↓sT_u, ↓sT_lu, ↓sU_0, ↓sU_i, ↓sU_r, ↓sU_u, ↓ite_bx, bx_T, bx_F, bx_pos, bx_neg, zws_i, zws_r, zws_l, zws_n, zCb_kc, xl_ll, xr_rr, xs_e, xset_e, Option.toList, List.cons_append, List.nil_append, zIb_e, zrng_e, nz_e, if_pos, if_neg, and_true, true_and, or_true, true_or, ite_self, bi_eq0, bi_eq1, bi_1, bi_0, bi_ir, bi_T, bi_F, up_eq, up_ne, ↓reduceIte, reduceIte, Nat.reduceAdd, Nat.reduceLeDiff, Nat.le_refl, Nat.zero_le, not_true_eq_false, not_false_eq_true, ne_eq, Int.reduceEq, Int.reduceLT, Int.reduceLE, Int.reduceAdd, Int.reduceSub, Int.reduceMul, Int.reduceNeg, ztc_0, ztc_s]
  by_cases q2 : c = 111
  · simp (disch := first | omega | exact rfl) only [↓u23_0, ↓u23_1, ↓u23_44, ↓u23_45, ↓u23_46, ↓u23_47, ↓u23_48, ↓u23_49, ↓u23_50, ↓u23_51, ↓u23_52, ↓u23_53, ↓lI_0, ↓lI_s, ↓lL_0, ↓lL_s, ↓lR_0, ↓lR_s, ↓sT_0, ↓sT_i, ↓sT_r, ↓sT_u, ↓sT_lu, ↓sU_0, ↓sU_i, ↓sU_r, ↓sU_u, ↓ite_bx, bx_T, bx_F, bx_pos, bx_neg, zws_i, zws_r, zws_l, zws_n, zCb_kc, xl_ll, xr_rr, xs_e, xset_e, Option.toList, List.cons_append, List.nil_append, zIb_e, zrng_e, nz_e, if_pos, if_neg, and_true, true_and, or_true, true_or, ite_self, bi_eq0, bi_eq1, bi_1, bi_0, bi_ir, bi_T, bi_F, up_eq, up_ne, ↓reduceIte, reduceIte, Nat.reduceAdd, Nat.reduceLeDiff, Nat.le_refl, Nat.zero_le, not_true_eq_false, not_false_eq_true, ne_eq, Int.reduceEq, Int.reduceLT, Int.reduceLE, Int.reduceAdd, Int.reduceSub, Int.reduceMul, Int.reduceNeg, ztc_0, ztc_s]
  by_cases q3 : c = 119
  · simp (disch := first | omega | exact rfl) only [↓u23_0, ↓u23_1, ↓u23_44, ↓u23_45, ↓u23_46, ↓u23_47, ↓u23_48, ↓u23_49, ↓u23_50, ↓u23_51, ↓u23_52, ↓u23_53, ↓lI_0, ↓lI_s, ↓lL_0, ↓lL_s, ↓lR_0, ↓lR_s, ↓sT_0, ↓sT_i, ↓sT_r, ↓sT_u, ↓sT_lu, ↓sU_0, ↓sU_i, ↓sU_r, ↓sU_u, ↓ite_bx, bx_T, bx_F, bx_pos, bx_neg, zws_i, zws_r, zws_l, zws_n, zCb_kc, xl_ll, xr_rr, xs_e, xset_e, Option.toList, List.cons_append, List.nil_append, zIb_e, zrng_e, nz_e, if_pos, if_neg, and_true, true_and, or_true, true_or, ite_self, bi_eq0, bi_eq1, bi_1, bi_0, bi_ir, bi_T, bi_F, up_eq, up_ne, ↓reduceIte, reduceIte, Nat.reduceAdd, Nat.reduceLeDiff, Nat.le_refl, Nat.zero_le, not_true_eq_false, not_false_eq_true, ne_eq, Int.reduceEq, Int.reduceLT, Int.reduceLE, Int.reduceAdd, Int.reduceSub, Int.reduceMul, Int.reduceNeg, ztc_0, ztc_s]
  simp (disch := first | omega | exact rfl) only [↓u23_0, ↓u23_1, ↓u23_44, ↓u23_45, ↓u23_46, ↓u23_47, ↓u23_48, ↓u23_49, ↓u23_50, ↓u23_51, ↓u23_52, ↓u23_53, ↓lI_0, ↓lI_s, ↓lL_0, ↓lL_s, ↓lR_0, ↓lR_s, ↓sT_0, ↓sT_i, ↓sT_r, ↓sT_u, ↓sT_lu, ↓sU_0, ↓sU_i, ↓sU_r, ↓sU_u, ↓ite_bx, bx_T, bx_F, bx_pos, bx_neg, zws_i, zws_r, zws_l, zws_n, zCb_kc, xl_ll, xr_rr, xs_e, xset_e, Option.toList, List.cons_append, List.nil_append, zIb_e, zrng_e, nz_e, if_pos, if_neg, and_true, true_and, or_true, true_or, ite_self, bi_eq0, bi_eq1, bi_1, bi_0, bi_ir, bi_T, bi_F, up_eq, up_ne, ↓reduceIte, reduceIte, Nat.reduceAdd, Nat.reduceLeDiff, Nat.le_refl, Nat.zero_le, not_true_eq_false, not_false_eq_true, ne_eq, Int.reduceEq, Int.reduceLT, Int.reduceLE, Int.reduceAdd, Int.reduceSub, Int.reduceMul, Int.reduceNeg, ztc_0, ztc_s]
set_option maxRecDepth 8000 in
theorem s22_y {d : Nat} {Q : Option AV → XH → Prop} {G : XS} {s : ZS} {tx : Int → Int} {ln p : Int}  (hd : 2 ≤ d) (hr : RDR G) (ht : TXT s tx ln) (hp : 0 ≤ p ∧ p ≤ ln) (q : 0 ≤ kv (sg tx ln p)) : Call d 22 [zrf 148] (G, pst s p (-1)) Q = Q (some (zint (kv (sg tx ln p)))) (G, pst s (p + 1) (-1)) := by
  have hr' := hr
  obtain ⟨r1, r2, r3, r4, r5, r6, r7, r8, r9, r10⟩ := hr'
  have ht' := ht
  obtain ⟨t1, t2, t3, t4⟩ := ht'
  have sb := fun p => sg_b (p := p) ht
  rw [e22 (show 1 ≤ d by omega)]
  have sp := sb p
  have kb := kv_b (sg tx ln p)
  simp (disch := first | omega | exact rfl) only [↓u22_0, ↓u22_1, ↓u22_4, ↓u22_7, ↓u22_8, ↓u22_9, ↓u22_12, ↓u22_13, ↓u22_14, ↓u22_17, ↓u22_20, ↓u22_21, ↓u22_22, ↓u22_23, ↓u22_24, ↓u22_27, ↓u22_28, ↓u22_29, ↓u22_32, ↓u22_33, ↓lI_0, ↓lI_s, ↓lL_0, ↓lL_s, ↓lR_0, ↓lR_s, ↓sT_0, ↓sT_i, ↓sT_r, ↓sT_u, ↓sT_lu, ↓sU_0, ↓sU_i, ↓sU_r, ↓sU_u, ↓ite_bx, bx_T, bx_F, bx_pos, bx_neg, zws_i, zws_r, zws_l, zws_n, zCb_kc, xl_ll, xr_rr, xs_e, xset_e, Option.toList, List.cons_append, List.nil_append, zIb_e, zrng_e, nz_e, if_pos, if_neg, and_true, true_and, or_true, true_or, ite_self, bi_eq0, bi_eq1, bi_1, bi_0, bi_ir, bi_T, bi_F, up_eq, up_ne, ↓reduceIte, reduceIte, Nat.reduceAdd, Nat.reduceLeDiff, Nat.le_refl, Nat.zero_le, not_true_eq_false, not_false_eq_true, ne_eq, Int.reduceEq, Int.reduceLT, Int.reduceLE, Int.reduceAdd, Int.reduceSub, Int.reduceMul, Int.reduceNeg, pT r1, r2, pT r3, r4, r5, pT r6, r7, t1, pst_4, pst_5, pst_o, up_p4, up_p5, s23 (show 1 ≤ d - 1 by omega), s19 (show 1 ≤ d - 1 by omega) hr ht hp]
set_option maxRecDepth 8000 in
theorem s22_n {d : Nat} {Q : Option AV → XH → Prop} {G : XS} {s : ZS} {tx : Int → Int} {ln p : Int}  (hd : 2 ≤ d) (hr : RDR G) (ht : TXT s tx ln) (hp : 0 ≤ p ∧ p ≤ ln) (q : kv (sg tx ln p) < 0) : Call d 22 [zrf 148] (G, pst s p (-1)) Q = Q (some (zint 0)) (G, pst s p p) := by
  have hr' := hr
  obtain ⟨r1, r2, r3, r4, r5, r6, r7, r8, r9, r10⟩ := hr'
  have ht' := ht
  obtain ⟨t1, t2, t3, t4⟩ := ht'
  have sb := fun p => sg_b (p := p) ht
  rw [e22 (show 1 ≤ d by omega)]
  have sp := sb p
  have kb := kv_b (sg tx ln p)
  simp (disch := first | omega | exact rfl) only [↓u22_0, ↓u22_1, ↓u22_4, ↓u22_7, ↓u22_8, ↓u22_9, ↓u22_12, ↓u22_13, ↓u22_14, ↓u22_17, ↓u22_20, ↓u22_21, ↓u22_22, ↓u22_23, ↓u22_24, ↓u22_27, ↓u22_28, ↓u22_29, ↓u22_32, ↓u22_33, ↓lI_0, ↓lI_s, ↓lL_0, ↓lL_s, ↓lR_0, ↓lR_s, ↓sT_0, ↓sT_i, ↓sT_r, ↓sT_u, ↓sT_lu, ↓sU_0, ↓sU_i, ↓sU_r, ↓sU_u, ↓ite_bx, bx_T, bx_F, bx_pos, bx_neg, zws_i, zws_r, zws_l, zws_n, zCb_kc, xl_ll, xr_rr, xs_e, xset_e, Option.toList, List.cons_append, List.nil_append, zIb_e, zrng_e, nz_e, if_pos, if_neg, and_true, true_and, or_true, true_or, ite_self, bi_eq0, bi_eq1, bi_1, bi_0, bi_ir, bi_T, bi_F, up_eq, up_ne, ↓reduceIte, reduceIte, Nat.reduceAdd, Nat.reduceLeDiff, Nat.le_refl, Nat.zero_le, not_true_eq_false, not_false_eq_true, ne_eq, Int.reduceEq, Int.reduceLT, Int.reduceLE, Int.reduceAdd, Int.reduceSub, Int.reduceMul, Int.reduceNeg, pT r1, r2, pT r3, r4, r5, pT r6, r7, t1, pst_4, pst_5, pst_o, up_p4, up_p5, s20_y (show 1 ≤ d - 1 by omega) hr, s23 (show 1 ≤ d - 1 by omega), s19 (show 1 ≤ d - 1 by omega) hr ht hp]
def fz (le k v p : Int) : Int := if k = 0 then p else if v < le then p - 1 else -1
abbrev isd (c : Int) : Prop := 48 ≤ c ∧ c ≤ 57
/-- what a number comes to: its value, the place behind, the fault -/
def nmq (tx : Int → Int) (ln le mo : Int) : Nat → Int → Int → Int → Int × Int × Int
  | 0, k, v, p => (v, p, fz le k v p)
  | n + 1, k, v, p => if isd (sg tx ln p) then (if mo < v * 10 + sg tx ln p - 48 then (v * 10 + sg tx ln p - 48, p + 1, p) else nmq tx ln le mo n (k + 1) (v * 10 + sg tx ln p - 48) (p + 1)) else (v, p, fz le k v p)
set_option maxRecDepth 8000 in
theorem nmq_0 {tx : Int → Int} {ln le mo k v p : Int} : nmq tx ln le mo 0 k v p = (v, p, fz le k v p) := rfl
set_option maxRecDepth 8000 in
theorem nmq_n {tx : Int → Int} {ln le mo k v p : Int} {n : Nat} (h : ¬isd (sg tx ln p)) : nmq tx ln le mo (n + 1) k v p = (v, p, fz le k v p) := if_neg h
set_option maxRecDepth 8000 in
theorem nmq_x {tx : Int → Int} {ln le mo k v p : Int} {n : Nat} (h : isd (sg tx ln p)) (h2 : mo < v * 10 + sg tx ln p - 48) : nmq tx ln le mo (n + 1) k v p = (v * 10 + sg tx ln p - 48, p + 1, p) := by
  show (if isd (sg tx ln p) then (if mo < v * 10 + sg tx ln p - 48 then (v * 10 + sg tx ln p - 48, p + 1, p) else nmq tx ln le mo n (k + 1) (v * 10 + sg tx ln p - 48) (p + 1)) else (v, p, fz le k v p)) = _
  rw [if_pos h, if_pos h2]
set_option maxRecDepth 8000 in
theorem nmq_s {tx : Int → Int} {ln le mo k v p : Int} {n : Nat} (h : isd (sg tx ln p)) (h2 : ¬mo < v * 10 + sg tx ln p - 48) : nmq tx ln le mo (n + 1) k v p = nmq tx ln le mo n (k + 1) (v * 10 + sg tx ln p - 48) (p + 1) := by
  show (if isd (sg tx ln p) then (if mo < v * 10 + sg tx ln p - 48 then (v * 10 + sg tx ln p - 48, p + 1, p) else nmq tx ln le mo n (k + 1) (v * 10 + sg tx ln p - 48) (p + 1)) else (v, p, fz le k v p)) = _
  rw [if_pos h, if_neg h2]
-- its bounds: the place goes on, within the text; without a fault the value is as told
set_option maxRecDepth 8000 in
theorem nmq_b {tx : Int → Int} {ln le mo : Int} (hm : 1 ≤ mo ∧ mo ≤ 127) (hle : 0 ≤ le ∧ le ≤ 1) : ∀ (n : Nat) (k v p : Int) (r : Int × Int × Int), 0 ≤ k → (0 ≤ v ∧ v ≤ mo) → (0 ≤ p ∧ p ≤ ln) → (k ≠ 0 → 1 ≤ p) → nmq tx ln le mo n k v p = r → (p ≤ r.2.1 ∧ r.2.1 ≤ ln) ∧ (-1 ≤ r.2.2 ∧ r.2.2 ≤ ln) ∧ (0 ≤ r.1 ∧ r.1 ≤ 1300) ∧ (r.2.2 = -1 → le ≤ r.1 ∧ r.1 ≤ mo) := by
  have fzb : ∀ k v p : Int, 0 ≤ k → (0 ≤ v ∧ v ≤ mo) → (0 ≤ p ∧ p ≤ ln) → (k ≠ 0 → 1 ≤ p) → (-1 ≤ fz le k v p ∧ fz le k v p ≤ ln) ∧ (fz le k v p = -1 → le ≤ v ∧ v ≤ mo) := by
    intro k v p hk hv hp hkp
    unfold fz
    by_cases q : k = 0
    · rw [if_pos q]
      omega
    · rw [if_neg q]
      have := hkp q
      by_cases q2 : v < le
      · rw [if_pos q2]
        omega
      · rw [if_neg q2]
        omega
  intro n
  induction n with
  | zero =>
    intro k v p r hk hv hp hkp h
    rw [nmq_0] at h
    subst h
    have := fzb k v p hk hv hp hkp
    dsimp only
    omega
  | succ n ih =>
    intro k v p r hk hv hp hkp h
    by_cases q : isd (sg tx ln p)
    · have hl := sg_l (tx := tx) (ln := ln) (p := p) (by omega)
      by_cases q2 : mo < v * 10 + sg tx ln p - 48
      · rw [nmq_x q q2] at h
        subst h
        dsimp only
        omega
      · rw [nmq_s q q2] at h
        have := ih (k + 1) _ (p + 1) r (by omega) (by omega) (by omega) (by omega) h
        omega
    · rw [nmq_n q] at h
      subst h
      have := fzb k v p hk hv hp hkp
      dsimp only
      omega
set_option maxRecDepth 8000 in
theorem f24 {d : Nat} {Q : Option AV → XH → Prop} {G : XS} {s : ZS} {tx : Int → Int} {ln p : Int} {md le mo v k : Int} (hd : 2 ≤ d) (hr : RDR G) (ht : TXT s tx ln) (hp : 0 ≤ p ∧ p ≤ ln) (hv : ir v) (hk : ir k) (hl : ir le) : Wp (d - 1) 24 (78, [zrf 148, zint md, zint le, zint mo, zint v, zint k], [], (G, pst s p (-1))) Q = Q (some (zint v)) (G, pst s p (fz le k v p)) := by
  have hr' := hr
  obtain ⟨r1, r2, r3, r4, r5, r6, r7, r8, r9, r10⟩ := hr'
  have ht' := ht
  obtain ⟨t1, t2, t3, t4⟩ := ht'
  have sb := fun p => sg_b (p := p) ht
  unfold fz
  by_cases q : k = 0
  · by_cases q2 : v < le
    · simp (disch := first | omega | exact rfl) only [↓u24_0, ↓u24_1, ↓u24_3, ↓u24_4, ↓u24_7, ↓u24_10, ↓u24_13, ↓u24_15, ↓u24_16, ↓u24_19, ↓u24_20, ↓u24_23, ↓u24_25, ↓u24_27, ↓u24_30, ↓u24_33, ↓u24_35, ↓u24_37, ↓u24_38, ↓u24_39, ↓u24_42, ↓u24_43, ↓u24_45, ↓u24_46, ↓u24_48, ↓u24_50, ↓u24_51, ↓u24_54, ↓u24_55, ↓u24_56, ↓u24_59, ↓u24_62, ↓u24_65, ↓u24_66, ↓u24_67, ↓u24_70, ↓u24_71, ↓u24_72, ↓u24_75, ↓u24_78, ↓u24_80, ↓u24_83, ↓u24_84, ↓u24_85, ↓u24_88, ↓u24_91, ↓u24_93, ↓u24_94, ↓u24_97, ↓u24_98, ↓u24_99, ↓u24_102, ↓u24_103, ↓u24_104, ↓u24_107, ↓u24_109, ↓lI_0, ↓lI_s, ↓lL_0, ↓lL_s, ↓lR_0, ↓lR_s, ↓sT_0, ↓sT_i, ↓sT_r, ↓sT_u, ↓sT_lu, ↓sU_0, ↓sU_i, ↓sU_r, ↓sU_u, ↓ite_bx, bx_T, bx_F, bx_pos, bx_neg, zws_i, zws_r, zws_l, zws_n, zCb_kc, xl_ll, xr_rr, xs_e, xset_e, Option.toList, List.cons_append, List.nil_append, zIb_e, zrng_e, nz_e, if_pos, if_neg, and_true, true_and, or_true, true_or, ite_self, bi_eq0, bi_eq1, bi_1, bi_0, bi_ir, bi_T, bi_F, up_eq, up_ne, ↓reduceIte, reduceIte, Nat.reduceAdd, Nat.reduceLeDiff, Nat.le_refl, Nat.zero_le, not_true_eq_false, not_false_eq_true, ne_eq, Int.reduceEq, Int.reduceLT, Int.reduceLE, Int.reduceAdd, Int.reduceSub, Int.reduceMul, Int.reduceNeg, pT r1, r2, pT r3, r4, r5, pT r6, r7, t1, pst_4, pst_5, pst_o, up_p4, up_p5, s20_y (show 1 ≤ d - 1 by omega) hr, s20_n (show 1 ≤ d - 1 by omega) hr (show 0 ≤ p ∧ p ≤ 1000 by omega)]
    · simp (disch := first | omega | exact rfl) only [↓u24_0, ↓u24_1, ↓u24_3, ↓u24_4, ↓u24_7, ↓u24_10, ↓u24_13, ↓u24_15, ↓u24_16, ↓u24_19, ↓u24_20, ↓u24_23, ↓u24_25, ↓u24_27, ↓u24_30, ↓u24_33, ↓u24_35, ↓u24_37, ↓u24_38, ↓u24_39, ↓u24_42, ↓u24_43, ↓u24_45, ↓u24_46, ↓u24_48, ↓u24_50, ↓u24_51, ↓u24_54, ↓u24_55, ↓u24_56, ↓u24_59, ↓u24_62, ↓u24_65, ↓u24_66, ↓u24_67, ↓u24_70, ↓u24_71, ↓u24_72, ↓u24_75, ↓u24_78, ↓u24_80, ↓u24_83, ↓u24_84, ↓u24_85, ↓u24_88, ↓u24_91, ↓u24_93, ↓u24_94, ↓u24_97, ↓u24_98, ↓u24_99, ↓u24_102, ↓u24_103, ↓u24_104, ↓u24_107, ↓u24_109, ↓lI_0, ↓lI_s, ↓lL_0, ↓lL_s, ↓lR_0, ↓lR_s, ↓sT_0, ↓sT_i, ↓sT_r, ↓sT_u, ↓sT_lu, ↓sU_0, ↓sU_i, ↓sU_r, ↓sU_u, ↓ite_bx, bx_T, bx_F, bx_pos, bx_neg, zws_i, zws_r, zws_l, zws_n, zCb_kc, xl_ll, xr_rr, xs_e, xset_e, Option.toList, List.cons_append, List.nil_append, zIb_e, zrng_e, nz_e, if_pos, if_neg, and_true, true_and, or_true, true_or, ite_self, bi_eq0, bi_eq1, bi_1, bi_0, bi_ir, bi_T, bi_F, up_eq, up_ne, ↓reduceIte, reduceIte, Nat.reduceAdd, Nat.reduceLeDiff, Nat.le_refl, Nat.zero_le, not_true_eq_false, not_false_eq_true, ne_eq, Int.reduceEq, Int.reduceLT, Int.reduceLE, Int.reduceAdd, Int.reduceSub, Int.reduceMul, Int.reduceNeg, pT r1, r2, pT r3, r4, r5, pT r6, r7, t1, pst_4, pst_5, pst_o, up_p4, up_p5, s20_y (show 1 ≤ d - 1 by omega) hr, s20_n (show 1 ≤ d - 1 by omega) hr (show 0 ≤ p ∧ p ≤ 1000 by omega)]
  · by_cases q2 : v < le
    · simp (disch := first | omega | exact rfl) only [↓u24_0, ↓u24_1, ↓u24_3, ↓u24_4, ↓u24_7, ↓u24_10, ↓u24_13, ↓u24_15, ↓u24_16, ↓u24_19, ↓u24_20, ↓u24_23, ↓u24_25, ↓u24_27, ↓u24_30, ↓u24_33, ↓u24_35, ↓u24_37, ↓u24_38, ↓u24_39, ↓u24_42, ↓u24_43, ↓u24_45, ↓u24_46, ↓u24_48, ↓u24_50, ↓u24_51, ↓u24_54, ↓u24_55, ↓u24_56, ↓u24_59, ↓u24_62, ↓u24_65, ↓u24_66, ↓u24_67, ↓u24_70, ↓u24_71, ↓u24_72, ↓u24_75, ↓u24_78, ↓u24_80, ↓u24_83, ↓u24_84, ↓u24_85, ↓u24_88, ↓u24_91, ↓u24_93, ↓u24_94, ↓u24_97, ↓u24_98, ↓u24_99, ↓u24_102, ↓u24_103, ↓u24_104, ↓u24_107, ↓u24_109, ↓lI_0, ↓lI_s, ↓lL_0, ↓lL_s, ↓lR_0, ↓lR_s, ↓sT_0, ↓sT_i, ↓sT_r, ↓sT_u, ↓sT_lu, ↓sU_0, ↓sU_i, ↓sU_r, ↓sU_u, ↓ite_bx, bx_T, bx_F, bx_pos, bx_neg, zws_i, zws_r, zws_l, zws_n, zCb_kc, xl_ll, xr_rr, xs_e, xset_e, Option.toList, List.cons_append, List.nil_append, zIb_e, zrng_e, nz_e, if_pos, if_neg, and_true, true_and, or_true, true_or, ite_self, bi_eq0, bi_eq1, bi_1, bi_0, bi_ir, bi_T, bi_F, up_eq, up_ne, ↓reduceIte, reduceIte, Nat.reduceAdd, Nat.reduceLeDiff, Nat.le_refl, Nat.zero_le, not_true_eq_false, not_false_eq_true, ne_eq, Int.reduceEq, Int.reduceLT, Int.reduceLE, Int.reduceAdd, Int.reduceSub, Int.reduceMul, Int.reduceNeg, pT r1, r2, pT r3, r4, r5, pT r6, r7, t1, pst_4, pst_5, pst_o, up_p4, up_p5, s20_y (show 1 ≤ d - 1 by omega) hr, s20_n (show 1 ≤ d - 1 by omega) hr (show 0 ≤ p ∧ p ≤ 1000 by omega)]
    · simp (disch := first | omega | exact rfl) only [↓u24_0, ↓u24_1, ↓u24_3, ↓u24_4, ↓u24_7, ↓u24_10, ↓u24_13, ↓u24_15, ↓u24_16, ↓u24_19, ↓u24_20, ↓u24_23, ↓u24_25, ↓u24_27, ↓u24_30, ↓u24_33, ↓u24_35, ↓u24_37, ↓u24_38, ↓u24_39, ↓u24_42, ↓u24_43, ↓u24_45, ↓u24_46, ↓u24_48, ↓u24_50, ↓u24_51, ↓u24_54, ↓u24_55, ↓u24_56, ↓u24_59, ↓u24_62, ↓u24_65, ↓u24_66, ↓u24_67, ↓u24_70, ↓u24_71, ↓u24_72, ↓u24_75, ↓u24_78, ↓u24_80, ↓u24_83, ↓u24_84, ↓u24_85, ↓u24_88, ↓u24_91, ↓u24_93, ↓u24_94, ↓u24_97, ↓u24_98, ↓u24_99, ↓u24_102, ↓u24_103, ↓u24_104, ↓u24_107, ↓u24_109, ↓lI_0, ↓lI_s, ↓lL_0, ↓lL_s, ↓lR_0, ↓lR_s, ↓sT_0, ↓sT_i, ↓sT_r, ↓sT_u, ↓sT_lu, ↓sU_0, ↓sU_i, ↓sU_r, ↓sU_u, ↓ite_bx, bx_T, bx_F, bx_pos, bx_neg, zws_i, zws_r, zws_l, zws_n, zCb_kc, xl_ll, xr_rr, xs_e, xset_e, Option.toList, List.cons_append, List.nil_append, zIb_e, zrng_e, nz_e, if_pos, if_neg, and_true, true_and, or_true, true_or, ite_self, bi_eq0, bi_eq1, bi_1, bi_0, bi_ir, bi_T, bi_F, up_eq, up_ne, ↓reduceIte, reduceIte, Nat.reduceAdd, Nat.reduceLeDiff, Nat.le_refl, Nat.zero_le, not_true_eq_false, not_false_eq_true, ne_eq, Int.reduceEq, Int.reduceLT, Int.reduceLE, Int.reduceAdd, Int.reduceSub, Int.reduceMul, Int.reduceNeg, pT r1, r2, pT r3, r4, r5, pT r6, r7, t1, pst_4, pst_5, pst_o, up_p4, up_p5, s20_y (show 1 ≤ d - 1 by omega) hr, s20_n (show 1 ≤ d - 1 by omega) hr (show 0 ≤ p ∧ p ≤ 1000 by omega)]
set_option maxRecDepth 8000 in
theorem g24 {d : Nat} {Q : Option AV → XH → Prop} {G : XS} {s : ZS} {tx : Int → Int} {ln p : Int} {md le mo v k f : Int} (hd : 2 ≤ d) (hr : RDR G) (ht : TXT s tx ln) (hp : 0 ≤ p ∧ p ≤ ln) (hv : ir v) (hk : ir k) (hl : ir le) (hf : 0 ≤ f ∧ f ≤ 1000) : Wp (d - 1) 24 (78, [zrf 148, zint md, zint le, zint mo, zint v, zint k], [], (G, pst s p f)) Q = Q (some (zint v)) (G, pst s p f) := by
  have hr' := hr
  obtain ⟨r1, r2, r3, r4, r5, r6, r7, r8, r9, r10⟩ := hr'
  have ht' := ht
  obtain ⟨t1, t2, t3, t4⟩ := ht'
  have sb := fun p => sg_b (p := p) ht
  by_cases q : k = 0
  · by_cases q2 : v < le
    · simp (disch := first | omega | exact rfl) only [↓u24_0, ↓u24_1, ↓u24_3, ↓u24_4, ↓u24_7, ↓u24_10, ↓u24_13, ↓u24_15, ↓u24_16, ↓u24_19, ↓u24_20, ↓u24_23, ↓u24_25, ↓u24_27, ↓u24_30, ↓u24_33, ↓u24_35, ↓u24_37, ↓u24_38, ↓u24_39, ↓u24_42, ↓u24_43, ↓u24_45, ↓u24_46, ↓u24_48, ↓u24_50, ↓u24_51, ↓u24_54, ↓u24_55, ↓u24_56, ↓u24_59, ↓u24_62, ↓u24_65, ↓u24_66, ↓u24_67, ↓u24_70, ↓u24_71, ↓u24_72, ↓u24_75, ↓u24_78, ↓u24_80, ↓u24_83, ↓u24_84, ↓u24_85, ↓u24_88, ↓u24_91, ↓u24_93, ↓u24_94, ↓u24_97, ↓u24_98, ↓u24_99, ↓u24_102, ↓u24_103, ↓u24_104, ↓u24_107, ↓u24_109, ↓lI_0, ↓lI_s, ↓lL_0, ↓lL_s, ↓lR_0, ↓lR_s, ↓sT_0, ↓sT_i, ↓sT_r, ↓sT_u, ↓sT_lu, ↓sU_0, ↓sU_i, ↓sU_r, ↓sU_u, ↓ite_bx, bx_T, bx_F, bx_pos, bx_neg, zws_i, zws_r, zws_l, zws_n, zCb_kc, xl_ll, xr_rr, xs_e, xset_e, Option.toList, List.cons_append, List.nil_append, zIb_e, zrng_e, nz_e, if_pos, if_neg, and_true, true_and, or_true, true_or, ite_self, bi_eq0, bi_eq1, bi_1, bi_0, bi_ir, bi_T, bi_F, up_eq, up_ne, ↓reduceIte, reduceIte, Nat.reduceAdd, Nat.reduceLeDiff, Nat.le_refl, Nat.zero_le, not_true_eq_false, not_false_eq_true, ne_eq, Int.reduceEq, Int.reduceLT, Int.reduceLE, Int.reduceAdd, Int.reduceSub, Int.reduceMul, Int.reduceNeg, pT r1, r2, pT r3, r4, r5, pT r6, r7, t1, pst_4, pst_5, pst_o, up_p4, up_p5, s20_n (show 1 ≤ d - 1 by omega) hr hf]
    · simp (disch := first | omega | exact rfl) only [↓u24_0, ↓u24_1, ↓u24_3, ↓u24_4, ↓u24_7, ↓u24_10, ↓u24_13, ↓u24_15, ↓u24_16, ↓u24_19, ↓u24_20, ↓u24_23, ↓u24_25, ↓u24_27, ↓u24_30, ↓u24_33, ↓u24_35, ↓u24_37, ↓u24_38, ↓u24_39, ↓u24_42, ↓u24_43, ↓u24_45, ↓u24_46, ↓u24_48, ↓u24_50, ↓u24_51, ↓u24_54, ↓u24_55, ↓u24_56, ↓u24_59, ↓u24_62, ↓u24_65, ↓u24_66, ↓u24_67, ↓u24_70, ↓u24_71, ↓u24_72, ↓u24_75, ↓u24_78, ↓u24_80, ↓u24_83, ↓u24_84, ↓u24_85, ↓u24_88, ↓u24_91, ↓u24_93, ↓u24_94, ↓u24_97, ↓u24_98, ↓u24_99, ↓u24_102, ↓u24_103, ↓u24_104, ↓u24_107, ↓u24_109, ↓lI_0, ↓lI_s, ↓lL_0, ↓lL_s, ↓lR_0, ↓lR_s, ↓sT_0, ↓sT_i, ↓sT_r, ↓sT_u, ↓sT_lu, ↓sU_0, ↓sU_i, ↓sU_r, ↓sU_u, ↓ite_bx, bx_T, bx_F, bx_pos, bx_neg, zws_i, zws_r, zws_l, zws_n, zCb_kc, xl_ll, xr_rr, xs_e, xset_e, Option.toList, List.cons_append, List.nil_append, zIb_e, zrng_e, nz_e, if_pos, if_neg, and_true, true_and, or_true, true_or, ite_self, bi_eq0, bi_eq1, bi_1, bi_0, bi_ir, bi_T, bi_F, up_eq, up_ne, ↓reduceIte, reduceIte, Nat.reduceAdd, Nat.reduceLeDiff, Nat.le_refl, Nat.zero_le, not_true_eq_false, not_false_eq_true, ne_eq, Int.reduceEq, Int.reduceLT, Int.reduceLE, Int.reduceAdd, Int.reduceSub, Int.reduceMul, Int.reduceNeg, pT r1, r2, pT r3, r4, r5, pT r6, r7, t1, pst_4, pst_5, pst_o, up_p4, up_p5, s20_n (show 1 ≤ d - 1 by omega) hr hf]
  · by_cases q2 : v < le
    · simp (disch := first | omega | exact rfl) only [↓u24_0, ↓u24_1, ↓u24_3, ↓u24_4, ↓u24_7, ↓u24_10, ↓u24_13, ↓u24_15, ↓u24_16, ↓u24_19, ↓u24_20, ↓u24_23, ↓u24_25, ↓u24_27, ↓u24_30, ↓u24_33, ↓u24_35, ↓u24_37, ↓u24_38, ↓u24_39, ↓u24_42, ↓u24_43, ↓u24_45, ↓u24_46, ↓u24_48, ↓u24_50, ↓u24_51, ↓u24_54, ↓u24_55, ↓u24_56, ↓u24_59, ↓u24_62, ↓u24_65, ↓u24_66, ↓u24_67, ↓u24_70, ↓u24_71, ↓u24_72, ↓u24_75, ↓u24_78, ↓u24_80, ↓u24_83, ↓u24_84, ↓u24_85, ↓u24_88, ↓u24_91, ↓u24_93, ↓u24_94, ↓u24_97, ↓u24_98, ↓u24_99, ↓u24_102, ↓u24_103, ↓u24_104, ↓u24_107, ↓u24_109, ↓lI_0, ↓lI_s, ↓lL_0, ↓lL_s, ↓lR_0, ↓lR_s, ↓sT_0, ↓sT_i, ↓sT_r, ↓sT_u, ↓sT_lu, ↓sU_0, ↓sU_i, ↓sU_r, ↓sU_u, ↓ite_bx, bx_T, bx_F, bx_pos, bx_neg, zws_i, zws_r, zws_l, zws_n, zCb_kc, xl_ll, xr_rr, xs_e, xset_e, Option.toList, List.cons_append, List.nil_append, zIb_e, zrng_e, nz_e, if_pos, if_neg, and_true, true_and, or_true, true_or, ite_self, bi_eq0, bi_eq1, bi_1, bi_0, bi_ir, bi_T, bi_F, up_eq, up_ne, ↓reduceIte, reduceIte, Nat.reduceAdd, Nat.reduceLeDiff, Nat.le_refl, Nat.zero_le, not_true_eq_false, not_false_eq_true, ne_eq, Int.reduceEq, Int.reduceLT, Int.reduceLE, Int.reduceAdd, Int.reduceSub, Int.reduceMul, Int.reduceNeg, pT r1, r2, pT r3, r4, r5, pT r6, r7, t1, pst_4, pst_5, pst_o, up_p4, up_p5, s20_n (show 1 ≤ d - 1 by omega) hr hf]
    · simp (disch := first | omega | exact rfl) only [↓u24_0, ↓u24_1, ↓u24_3, ↓u24_4, ↓u24_7, ↓u24_10, ↓u24_13, ↓u24_15, ↓u24_16, ↓u24_19, ↓u24_20, ↓u24_23, ↓u24_25, ↓u24_27, ↓u24_30, ↓u24_33, ↓u24_35, ↓u24_37, ↓u24_38, ↓u24_39, ↓u24_42, ↓u24_43, ↓u24_45, ↓u24_46, ↓u24_48, ↓u24_50, ↓u24_51, ↓u24_54, ↓u24_55, ↓u24_56, ↓u24_59, ↓u24_62, ↓u24_65, ↓u24_66, ↓u24_67, ↓u24_70, ↓u24_71, ↓u24_72, ↓u24_75, ↓u24_78, ↓u24_80, ↓u24_83, ↓u24_84, ↓u24_85, ↓u24_88, ↓u24_91, ↓u24_93, ↓u24_94, ↓u24_97, ↓u24_98, ↓u24_99, ↓u24_102, ↓u24_103, ↓u24_104, ↓u24_107, ↓u24_109, ↓lI_0, ↓lI_s, ↓lL_0, ↓lL_s, ↓lR_0, ↓lR_s, ↓sT_0, ↓sT_i, ↓sT_r, ↓sT_u, ↓sT_lu, ↓sU_0, ↓sU_i, ↓sU_r, ↓sU_u, ↓ite_bx, bx_T, bx_F, bx_pos, bx_neg, zws_i, zws_r, zws_l, zws_n, zCb_kc, xl_ll, xr_rr, xs_e, xset_e, Option.toList, List.cons_append, List.nil_append, zIb_e, zrng_e, nz_e, if_pos, if_neg, and_true, true_and, or_true, true_or, ite_self, bi_eq0, bi_eq1, bi_1, bi_0, bi_ir, bi_T, bi_F, up_eq, up_ne, ↓reduceIte, reduceIte, Nat.reduceAdd, Nat.reduceLeDiff, Nat.le_refl, Nat.zero_le, not_true_eq_false, not_false_eq_true, ne_eq, Int.reduceEq, Int.reduceLT, Int.reduceLE, Int.reduceAdd, Int.reduceSub, Int.reduceMul, Int.reduceNeg, pT r1, r2, pT r3, r4, r5, pT r6, r7, t1, pst_4, pst_5, pst_o, up_p4, up_p5, s20_n (show 1 ≤ d - 1 by omega) hr hf]
set_option maxRecDepth 8000 in
theorem l24 {d : Nat} {Q : Option AV → XH → Prop} {G : XS} {s : ZS} {tx : Int → Int} {ln md le mo : Int} (hd : 2 ≤ d) (hr : RDR G) (ht : TXT s tx ln) (hl : 0 ≤ le ∧ le ≤ 1) (hm : 1 ≤ mo ∧ mo ≤ 127) (hmd : md ≤ 3) : ∀ (n : Nat) (k v p v' p' f' : Int), k + n = md → 0 ≤ k → (0 ≤ v ∧ v ≤ mo) → (0 ≤ p ∧ p ≤ ln) → nmq tx ln le mo n k v p = (v', p', f') → Wp (d - 1) 24 (6, [zrf 148, zint md, zint le, zint mo, zint v, zint k], [], (G, pst s p (-1))) Q = Q (some (zint v')) (G, pst s p' f') := by
  have hr' := hr
  obtain ⟨r1, r2, r3, r4, r5, r6, r7, r8, r9, r10⟩ := hr'
  have ht' := ht
  obtain ⟨t1, t2, t3, t4⟩ := ht'
  have sb := fun p => sg_b (p := p) ht
  intro n
  induction n with
  | zero =>
    intro k v p v' p' f' h1 h2 h3 hp h4
    rw [nmq_0] at h4
    cases h4
    rw [u24_6]
    simp (disch := first | omega | exact rfl) only [↓u24_0, ↓u24_1, ↓u24_3, ↓u24_4, ↓u24_7, ↓u24_10, ↓u24_13, ↓u24_15, ↓u24_16, ↓u24_19, ↓u24_20, ↓u24_23, ↓u24_25, ↓u24_27, ↓u24_30, ↓u24_33, ↓u24_35, ↓u24_37, ↓u24_38, ↓u24_39, ↓u24_42, ↓u24_43, ↓u24_45, ↓u24_46, ↓u24_48, ↓u24_50, ↓u24_51, ↓u24_54, ↓u24_55, ↓u24_56, ↓u24_59, ↓u24_62, ↓u24_65, ↓u24_66, ↓u24_67, ↓u24_70, ↓u24_71, ↓u24_72, ↓u24_75, ↓u24_80, ↓u24_83, ↓u24_84, ↓u24_85, ↓u24_88, ↓u24_91, ↓u24_93, ↓u24_94, ↓u24_97, ↓u24_98, ↓u24_99, ↓u24_102, ↓u24_103, ↓u24_104, ↓u24_107, ↓u24_109, ↓lI_0, ↓lI_s, ↓lL_0, ↓lL_s, ↓lR_0, ↓lR_s, ↓sT_0, ↓sT_i, ↓sT_r, ↓sT_u, ↓sT_lu, ↓sU_0, ↓sU_i, ↓sU_r, ↓sU_u, ↓ite_bx, bx_T, bx_F, bx_pos, bx_neg, zws_i, zws_r, zws_l, zws_n, zCb_kc, xl_ll, xr_rr, xs_e, xset_e, Option.toList, List.cons_append, List.nil_append, zIb_e, zrng_e, nz_e, if_pos, if_neg, and_true, true_and, or_true, true_or, ite_self, bi_eq0, bi_eq1, bi_1, bi_0, bi_ir, bi_T, bi_F, up_eq, up_ne, ↓reduceIte, reduceIte, Nat.reduceAdd, Nat.reduceLeDiff, Nat.le_refl, Nat.zero_le, not_true_eq_false, not_false_eq_true, ne_eq, Int.reduceEq, Int.reduceLT, Int.reduceLE, Int.reduceAdd, Int.reduceSub, Int.reduceMul, Int.reduceNeg, pT r1, r2, pT r3, r4, r5, pT r6, r7, t1, pst_4, pst_5, pst_o, up_p4, up_p5, f24 (show 2 ≤ d by omega) hr ht hp (show ir v by omega) (show ir k by omega) (show ir le by omega)]
  | succ n ih =>
    intro k v p v' p' f' h1 h2 h3 hp h4
    have sp := sb p
    rw [u24_6]
    by_cases q : isd (sg tx ln p)
    · have hlp := sg_l (tx := tx) (ln := ln) (p := p) (by omega)
      by_cases q2 : mo < v * 10 + sg tx ln p - 48
      · rw [nmq_x q q2] at h4
        cases h4
        simp (disch := first | omega | exact rfl) only [↓u24_0, ↓u24_1, ↓u24_3, ↓u24_4, ↓u24_6, ↓u24_7, ↓u24_10, ↓u24_13, ↓u24_15, ↓u24_16, ↓u24_19, ↓u24_20, ↓u24_23, ↓u24_25, ↓u24_27, ↓u24_30, ↓u24_33, ↓u24_35, ↓u24_37, ↓u24_38, ↓u24_39, ↓u24_42, ↓u24_43, ↓u24_45, ↓u24_46, ↓u24_48, ↓u24_50, ↓u24_51, ↓u24_54, ↓u24_55, ↓u24_56, ↓u24_59, ↓u24_62, ↓u24_65, ↓u24_66, ↓u24_67, ↓u24_70, ↓u24_71, ↓u24_72, ↓u24_75, ↓u24_80, ↓u24_83, ↓u24_84, ↓u24_85, ↓u24_88, ↓u24_91, ↓u24_93, ↓u24_94, ↓u24_97, ↓u24_98, ↓u24_99, ↓u24_102, ↓u24_103, ↓u24_104, ↓u24_107, ↓u24_109, ↓lI_0, ↓lI_s, ↓lL_0, ↓lL_s, ↓lR_0, ↓lR_s, ↓sT_0, ↓sT_i, ↓sT_r, ↓sT_u, ↓sT_lu, ↓sU_0, ↓sU_i, ↓sU_r, ↓sU_u, ↓ite_bx, bx_T, bx_F, bx_pos, bx_neg, zws_i, zws_r, zws_l, zws_n, zCb_kc, xl_ll, xr_rr, xs_e, xset_e, Option.toList, List.cons_append, List.nil_append, zIb_e, zrng_e, nz_e, if_pos, if_neg, and_true, true_and, or_true, true_or, ite_self, bi_eq0, bi_eq1, bi_1, bi_0, bi_ir, bi_T, bi_F, up_eq, up_ne, ↓reduceIte, reduceIte, Nat.reduceAdd, Nat.reduceLeDiff, Nat.le_refl, Nat.zero_le, not_true_eq_false, not_false_eq_true, ne_eq, Int.reduceEq, Int.reduceLT, Int.reduceLE, Int.reduceAdd, Int.reduceSub, Int.reduceMul, Int.reduceNeg, pT r1, r2, pT r3, r4, r5, pT r6, r7, t1, pst_4, pst_5, pst_o, up_p4, up_p5, s19 (show 1 ≤ d - 1 by omega) hr ht hp, s103 (show 1 ≤ d - 1 by omega), s20_y (show 1 ≤ d - 1 by omega) hr, g24 (p := p + 1) (f := p) (show 2 ≤ d by omega) hr ht (show 0 ≤ p + 1 ∧ p + 1 ≤ ln by omega) (show ir (v * 10 + sg tx ln p - 48) by omega) (show ir (k + 1) by omega) (show ir le by omega) (show 0 ≤ p ∧ p ≤ 1000 by omega)]
      · rw [nmq_s q q2] at h4
        have e := ih (k + 1) _ (p + 1) v' p' f' (by omega) (by omega) (by omega) (by omega) h4
        simp (disch := first | omega | exact rfl) only [↓u24_0, ↓u24_1, ↓u24_3, ↓u24_4, ↓u24_7, ↓u24_10, ↓u24_13, ↓u24_15, ↓u24_16, ↓u24_19, ↓u24_20, ↓u24_23, ↓u24_25, ↓u24_27, ↓u24_30, ↓u24_33, ↓u24_35, ↓u24_37, ↓u24_38, ↓u24_39, ↓u24_42, ↓u24_43, ↓u24_45, ↓u24_46, ↓u24_48, ↓u24_50, ↓u24_51, ↓u24_54, ↓u24_55, ↓u24_56, ↓u24_59, ↓u24_62, ↓u24_65, ↓u24_66, ↓u24_67, ↓u24_70, ↓u24_71, ↓u24_72, ↓u24_75, ↓u24_80, ↓u24_83, ↓u24_84, ↓u24_85, ↓u24_88, ↓u24_91, ↓u24_93, ↓u24_94, ↓u24_97, ↓u24_98, ↓u24_99, ↓u24_102, ↓u24_103, ↓u24_104, ↓u24_107, ↓u24_109, ↓lI_0, ↓lI_s, ↓lL_0, ↓lL_s, ↓lR_0, ↓lR_s, ↓sT_0, ↓sT_i, ↓sT_r, ↓sT_u, ↓sT_lu, ↓sU_0, ↓sU_i, ↓sU_r, ↓sU_u, ↓ite_bx, bx_T, bx_F, bx_pos, bx_neg, zws_i, zws_r, zws_l, zws_n, zCb_kc, xl_ll, xr_rr, xs_e, xset_e, Option.toList, List.cons_append, List.nil_append, zIb_e, zrng_e, nz_e, if_pos, if_neg, and_true, true_and, or_true, true_or, ite_self, bi_eq0, bi_eq1, bi_1, bi_0, bi_ir, bi_T, bi_F, up_eq, up_ne, ↓reduceIte, reduceIte, Nat.reduceAdd, Nat.reduceLeDiff, Nat.le_refl, Nat.zero_le, not_true_eq_false, not_false_eq_true, ne_eq, Int.reduceEq, Int.reduceLT, Int.reduceLE, Int.reduceAdd, Int.reduceSub, Int.reduceMul, Int.reduceNeg, pT r1, r2, pT r3, r4, r5, pT r6, r7, t1, pst_4, pst_5, pst_o, up_p4, up_p5, s19 (show 1 ≤ d - 1 by omega) hr ht hp, s103 (show 1 ≤ d - 1 by omega), e]
    · rw [nmq_n q] at h4
      cases h4
      simp (disch := first | omega | exact rfl) only [↓u24_0, ↓u24_1, ↓u24_3, ↓u24_4, ↓u24_7, ↓u24_10, ↓u24_13, ↓u24_15, ↓u24_16, ↓u24_19, ↓u24_20, ↓u24_23, ↓u24_25, ↓u24_27, ↓u24_30, ↓u24_33, ↓u24_35, ↓u24_37, ↓u24_38, ↓u24_39, ↓u24_42, ↓u24_43, ↓u24_45, ↓u24_46, ↓u24_48, ↓u24_50, ↓u24_51, ↓u24_54, ↓u24_55, ↓u24_56, ↓u24_59, ↓u24_62, ↓u24_65, ↓u24_66, ↓u24_67, ↓u24_70, ↓u24_71, ↓u24_72, ↓u24_75, ↓u24_80, ↓u24_83, ↓u24_84, ↓u24_85, ↓u24_88, ↓u24_91, ↓u24_93, ↓u24_94, ↓u24_97, ↓u24_98, ↓u24_99, ↓u24_102, ↓u24_103, ↓u24_104, ↓u24_107, ↓u24_109, ↓lI_0, ↓lI_s, ↓lL_0, ↓lL_s, ↓lR_0, ↓lR_s, ↓sT_0, ↓sT_i, ↓sT_r, ↓sT_u, ↓sT_lu, ↓sU_0, ↓sU_i, ↓sU_r, ↓sU_u, ↓ite_bx, bx_T, bx_F, bx_pos, bx_neg, zws_i, zws_r, zws_l, zws_n, zCb_kc, xl_ll, xr_rr, xs_e, xset_e, Option.toList, List.cons_append, List.nil_append, zIb_e, zrng_e, nz_e, if_pos, if_neg, and_true, true_and, or_true, true_or, ite_self, bi_eq0, bi_eq1, bi_1, bi_0, bi_ir, bi_T, bi_F, up_eq, up_ne, ↓reduceIte, reduceIte, Nat.reduceAdd, Nat.reduceLeDiff, Nat.le_refl, Nat.zero_le, not_true_eq_false, not_false_eq_true, ne_eq, Int.reduceEq, Int.reduceLT, Int.reduceLE, Int.reduceAdd, Int.reduceSub, Int.reduceMul, Int.reduceNeg, pT r1, r2, pT r3, r4, r5, pT r6, r7, t1, pst_4, pst_5, pst_o, up_p4, up_p5, s19 (show 1 ≤ d - 1 by omega) hr ht hp, s103 (show 1 ≤ d - 1 by omega), f24 (show 2 ≤ d by omega) hr ht hp (show ir v by omega) (show ir k by omega) (show ir le by omega)]
set_option maxRecDepth 8000 in
theorem s24_y {d : Nat} {Q : Option AV → XH → Prop} {G : XS} {s : ZS} {tx : Int → Int} {ln p : Int} {n : Nat} {md le mo v' p' f' : Int} (hd : 2 ≤ d) (hr : RDR G) (ht : TXT s tx ln) (hp : 0 ≤ p ∧ p ≤ ln) (hl : 0 ≤ le ∧ le ≤ 1) (hm : 1 ≤ mo ∧ mo ≤ 127) (hmd : md ≤ 3) (hn : md = n) (h : nmq tx ln le mo n 0 0 p = (v', p', f')) : Call d 24 [zrf 148, zint md, zint le, zint mo] (G, pst s p (-1)) Q = Q (some (zint v')) (G, pst s p' f') := by
  rw [e24 (show 1 ≤ d by omega)]
  have e := l24 (Q := Q) (md := md) (show 2 ≤ d by omega) hr ht hl hm hmd n 0 0 p v' p' f' (by omega) (Int.le_refl 0) (by omega) hp h
  simp (disch := first | omega | exact rfl) only [↓u24_0, ↓u24_1, ↓u24_3, ↓u24_4, ↓u24_7, ↓u24_10, ↓u24_13, ↓u24_15, ↓u24_16, ↓u24_19, ↓u24_20, ↓u24_23, ↓u24_25, ↓u24_27, ↓u24_30, ↓u24_33, ↓u24_35, ↓u24_37, ↓u24_38, ↓u24_39, ↓u24_42, ↓u24_43, ↓u24_45, ↓u24_46, ↓u24_48, ↓u24_50, ↓u24_51, ↓u24_54, ↓u24_55, ↓u24_56, ↓u24_59, ↓u24_62, ↓u24_65, ↓u24_66, ↓u24_67, ↓u24_70, ↓u24_71, ↓u24_72, ↓u24_75, ↓u24_80, ↓u24_83, ↓u24_84, ↓u24_85, ↓u24_88, ↓u24_91, ↓u24_93, ↓u24_94, ↓u24_97, ↓u24_98, ↓u24_99, ↓u24_102, ↓u24_103, ↓u24_104, ↓u24_107, ↓u24_109, ↓lI_0, ↓lI_s, ↓lL_0, ↓lL_s, ↓lR_0, ↓lR_s, ↓sT_0, ↓sT_i, ↓sT_r, ↓sT_u, ↓sT_lu, ↓sU_0, ↓sU_i, ↓sU_r, ↓sU_u, ↓ite_bx, bx_T, bx_F, bx_pos, bx_neg, zws_i, zws_r, zws_l, zws_n, zCb_kc, xl_ll, xr_rr, xs_e, xset_e, Option.toList, List.cons_append, List.nil_append, zIb_e, zrng_e, nz_e, if_pos, if_neg, and_true, true_and, or_true, true_or, ite_self, bi_eq0, bi_eq1, bi_1, bi_0, bi_ir, bi_T, bi_F, up_eq, up_ne, ↓reduceIte, reduceIte, Nat.reduceAdd, Nat.reduceLeDiff, Nat.le_refl, Nat.zero_le, not_true_eq_false, not_false_eq_true, ne_eq, Int.reduceEq, Int.reduceLT, Int.reduceLE, Int.reduceAdd, Int.reduceSub, Int.reduceMul, Int.reduceNeg, e]
set_option maxRecDepth 8000 in
theorem s24_f {d : Nat} {Q : Option AV → XH → Prop} {G : XS} {s : ZS} {tx : Int → Int} {ln p : Int} {md le mo f : Int} (hd : 2 ≤ d) (hr : RDR G) (ht : TXT s tx ln) (hp : 0 ≤ p ∧ p ≤ ln) (hl : 0 ≤ le ∧ le ≤ 1) (hf : 0 ≤ f ∧ f ≤ 1000) : Call d 24 [zrf 148, zint md, zint le, zint mo] (G, pst s p f) Q = Q (some (zint 0)) (G, pst s p f) := by
  have hr' := hr
  obtain ⟨r1, r2, r3, r4, r5, r6, r7, r8, r9, r10⟩ := hr'
  have ht' := ht
  obtain ⟨t1, t2, t3, t4⟩ := ht'
  have sb := fun p => sg_b (p := p) ht
  rw [e24 (show 1 ≤ d by omega)]
  simp (disch := first | omega | exact rfl) only [↓u24_0, ↓u24_1, ↓u24_3, ↓u24_4, ↓u24_6, ↓u24_7, ↓u24_10, ↓u24_13, ↓u24_15, ↓u24_16, ↓u24_19, ↓u24_20, ↓u24_23, ↓u24_25, ↓u24_27, ↓u24_30, ↓u24_33, ↓u24_35, ↓u24_37, ↓u24_38, ↓u24_39, ↓u24_42, ↓u24_43, ↓u24_45, ↓u24_46, ↓u24_48, ↓u24_50, ↓u24_51, ↓u24_54, ↓u24_55, ↓u24_56, ↓u24_59, ↓u24_62, ↓u24_65, ↓u24_66, ↓u24_67, ↓u24_70, ↓u24_71, ↓u24_72, ↓u24_75, ↓u24_80, ↓u24_83, ↓u24_84, ↓u24_85, ↓u24_88, ↓u24_91, ↓u24_93, ↓u24_94, ↓u24_97, ↓u24_98, ↓u24_99, ↓u24_102, ↓u24_103, ↓u24_104, ↓u24_107, ↓u24_109, ↓lI_0, ↓lI_s, ↓lL_0, ↓lL_s, ↓lR_0, ↓lR_s, ↓sT_0, ↓sT_i, ↓sT_r, ↓sT_u, ↓sT_lu, ↓sU_0, ↓sU_i, ↓sU_r, ↓sU_u, ↓ite_bx, bx_T, bx_F, bx_pos, bx_neg, zws_i, zws_r, zws_l, zws_n, zCb_kc, xl_ll, xr_rr, xs_e, xset_e, Option.toList, List.cons_append, List.nil_append, zIb_e, zrng_e, nz_e, if_pos, if_neg, and_true, true_and, or_true, true_or, ite_self, bi_eq0, bi_eq1, bi_1, bi_0, bi_ir, bi_T, bi_F, up_eq, up_ne, ↓reduceIte, reduceIte, Nat.reduceAdd, Nat.reduceLeDiff, Nat.le_refl, Nat.zero_le, not_true_eq_false, not_false_eq_true, ne_eq, Int.reduceEq, Int.reduceLT, Int.reduceLE, Int.reduceAdd, Int.reduceSub, Int.reduceMul, Int.reduceNeg, pT r1, r2, pT r3, r4, r5, pT r6, r7, t1, pst_4, pst_5, pst_o, up_p4, up_p5, g24 (show 2 ≤ d by omega) hr ht hp (show ir 0 by omega) (show ir 0 by omega) (show ir le by omega) hf]
def spd (tx : Int → Int) (ln p : Int) : Int × Int × Int := if sg tx ln p = 45 then (-(nmq tx ln 0 9 1 0 0 (p + 1)).1, (nmq tx ln 0 9 1 0 0 (p + 1)).2.1, (nmq tx ln 0 9 1 0 0 (p + 1)).2.2) else if sg tx ln p = 43 then nmq tx ln 0 9 1 0 0 (p + 1) else (0, p, p)
set_option maxRecDepth 8000 in
theorem s25_y {d : Nat} {Q : Option AV → XH → Prop} {G : XS} {s : ZS} {tx : Int → Int} {ln p : Int} {v' p' f' : Int} (hd : 3 ≤ d) (hr : RDR G) (ht : TXT s tx ln) (hp : 0 ≤ p ∧ p ≤ ln) (h : spd tx ln p = (v', p', f')) : Call d 25 [zrf 148] (G, pst s p (-1)) Q = Q (some (zint v')) (G, pst s p' f') := by
  have hr' := hr
  obtain ⟨r1, r2, r3, r4, r5, r6, r7, r8, r9, r10⟩ := hr'
  have ht' := ht
  obtain ⟨t1, t2, t3, t4⟩ := ht'
  have sb := fun p => sg_b (p := p) ht
  have sp := sb p
  rw [e25 (show 1 ≤ d by omega)]
  unfold spd at h
  by_cases q : sg tx ln p = 45
  · have hl := sg_l (tx := tx) (ln := ln) (p := p) (by omega)
    rw [if_pos q] at h
    obtain ⟨v, p1, f1, hq⟩ : ∃ v p1 f1, nmq tx ln 0 9 1 0 0 (p + 1) = (v, p1, f1) := ⟨_, _, _, rfl⟩
    have e := fun Q => s24_y (d := d - 1) (Q := Q) (p := p + 1) (n := 1) (md := 1) (le := 0) (mo := 9) (show 2 ≤ d - 1 by omega) hr ht (by omega) (by omega) (by omega) (by omega) rfl hq
    rw [hq] at h
    cases h
    simp (disch := first | omega | exact rfl) only [↓u25_0, ↓u25_1, ↓u25_4, ↓u25_6, ↓u25_9, ↓u25_10, ↓u25_13, ↓u25_14, ↓u25_15, ↓u25_16, ↓u25_17, ↓u25_20, ↓u25_22, ↓u25_25, ↓u25_27, ↓u25_30, ↓u25_31, ↓u25_32, ↓u25_33, ↓u25_35, ↓u25_38, ↓u25_39, ↓u25_40, ↓u25_43, ↓u25_44, ↓u25_45, ↓u25_48, ↓u25_49, ↓lI_0, ↓lI_s, ↓lL_0, ↓lL_s, ↓lR_0, ↓lR_s, ↓sT_0, ↓sT_i, ↓sT_r, ↓sT_u, ↓sT_lu, ↓sU_0, ↓sU_i, ↓sU_r, ↓sU_u, ↓ite_bx, bx_T, bx_F, bx_pos, bx_neg, zws_i, zws_r, zws_l, zws_n, zCb_kc, xl_ll, xr_rr, xs_e, xset_e, Option.toList, List.cons_append, List.nil_append, zIb_e, zrng_e, nz_e, if_pos, if_neg, and_true, true_and, or_true, true_or, ite_self, bi_eq0, bi_eq1, bi_1, bi_0, bi_ir, bi_T, bi_F, up_eq, up_ne, ↓reduceIte, reduceIte, Nat.reduceAdd, Nat.reduceLeDiff, Nat.le_refl, Nat.zero_le, not_true_eq_false, not_false_eq_true, ne_eq, Int.reduceEq, Int.reduceLT, Int.reduceLE, Int.reduceAdd, Int.reduceSub, Int.reduceMul, Int.reduceNeg, pT r1, r2, pT r3, r4, r5, pT r6, r7, t1, pst_4, pst_5, pst_o, up_p4, up_p5, s19 (show 1 ≤ d - 1 by omega) hr ht hp, e, s21_y (show 2 ≤ d - 1 by omega) hr ht hp (show (0 : Int) ≤ 45 ∧ (45 : Int) ≤ 127 by omega) q]
  · rw [if_neg q] at h
    by_cases q2 : sg tx ln p = 43
    · have hl := sg_l (tx := tx) (ln := ln) (p := p) (by omega)
      rw [if_pos q2] at h
      have e := fun Q => s24_y (d := d - 1) (Q := Q) (p := p + 1) (n := 1) (md := 1) (le := 0) (mo := 9) (show 2 ≤ d - 1 by omega) hr ht (by omega) (by omega) (by omega) (by omega) rfl h
      simp (disch := first | omega | exact rfl) only [↓u25_0, ↓u25_1, ↓u25_4, ↓u25_6, ↓u25_9, ↓u25_10, ↓u25_13, ↓u25_14, ↓u25_15, ↓u25_16, ↓u25_17, ↓u25_20, ↓u25_22, ↓u25_25, ↓u25_27, ↓u25_30, ↓u25_31, ↓u25_32, ↓u25_33, ↓u25_35, ↓u25_38, ↓u25_39, ↓u25_40, ↓u25_43, ↓u25_44, ↓u25_45, ↓u25_48, ↓u25_49, ↓lI_0, ↓lI_s, ↓lL_0, ↓lL_s, ↓lR_0, ↓lR_s, ↓sT_0, ↓sT_i, ↓sT_r, ↓sT_u, ↓sT_lu, ↓sU_0, ↓sU_i, ↓sU_r, ↓sU_u, ↓ite_bx, bx_T, bx_F, bx_pos, bx_neg, zws_i, zws_r, zws_l, zws_n, zCb_kc, xl_ll, xr_rr, xs_e, xset_e, Option.toList, List.cons_append, List.nil_append, zIb_e, zrng_e, nz_e, if_pos, if_neg, and_true, true_and, or_true, true_or, ite_self, bi_eq0, bi_eq1, bi_1, bi_0, bi_ir, bi_T, bi_F, up_eq, up_ne, ↓reduceIte, reduceIte, Nat.reduceAdd, Nat.reduceLeDiff, Nat.le_refl, Nat.zero_le, not_true_eq_false, not_false_eq_true, ne_eq, Int.reduceEq, Int.reduceLT, Int.reduceLE, Int.reduceAdd, Int.reduceSub, Int.reduceMul, Int.reduceNeg, pT r1, r2, pT r3, r4, r5, pT r6, r7, t1, pst_4, pst_5, pst_o, up_p4, up_p5, s19 (show 1 ≤ d - 1 by omega) hr ht hp, e, s21_y (show 2 ≤ d - 1 by omega) hr ht hp (show (0 : Int) ≤ 43 ∧ (43 : Int) ≤ 127 by omega) q2]
    · rw [if_neg q2] at h
      cases h
      simp (disch := first | omega | exact rfl) only [↓u25_0, ↓u25_1, ↓u25_4, ↓u25_6, ↓u25_9, ↓u25_10, ↓u25_13, ↓u25_14, ↓u25_15, ↓u25_16, ↓u25_17, ↓u25_20, ↓u25_22, ↓u25_25, ↓u25_27, ↓u25_30, ↓u25_31, ↓u25_32, ↓u25_33, ↓u25_35, ↓u25_38, ↓u25_39, ↓u25_40, ↓u25_43, ↓u25_44, ↓u25_45, ↓u25_48, ↓u25_49, ↓lI_0, ↓lI_s, ↓lL_0, ↓lL_s, ↓lR_0, ↓lR_s, ↓sT_0, ↓sT_i, ↓sT_r, ↓sT_u, ↓sT_lu, ↓sU_0, ↓sU_i, ↓sU_r, ↓sU_u, ↓ite_bx, bx_T, bx_F, bx_pos, bx_neg, zws_i, zws_r, zws_l, zws_n, zCb_kc, xl_ll, xr_rr, xs_e, xset_e, Option.toList, List.cons_append, List.nil_append, zIb_e, zrng_e, nz_e, if_pos, if_neg, and_true, true_and, or_true, true_or, ite_self, bi_eq0, bi_eq1, bi_1, bi_0, bi_ir, bi_T, bi_F, up_eq, up_ne, ↓reduceIte, reduceIte, Nat.reduceAdd, Nat.reduceLeDiff, Nat.le_refl, Nat.zero_le, not_true_eq_false, not_false_eq_true, ne_eq, Int.reduceEq, Int.reduceLT, Int.reduceLE, Int.reduceAdd, Int.reduceSub, Int.reduceMul, Int.reduceNeg, pT r1, r2, pT r3, r4, r5, pT r6, r7, t1, pst_4, pst_5, pst_o, up_p4, up_p5, s19 (show 1 ≤ d - 1 by omega) hr ht hp, s21_n (show 2 ≤ d - 1 by omega) hr ht hp (show (0 : Int) ≤ 43 ∧ (43 : Int) ≤ 127 by omega) q2, s24_f (show 2 ≤ d - 1 by omega) hr ht hp (show (0 : Int) ≤ 0 ∧ (0 : Int) ≤ 1 by omega) (show 0 ≤ p ∧ p ≤ 1000 by omega)]
set_option maxRecDepth 8000 in
theorem s25_f {d : Nat} {Q : Option AV → XH → Prop} {G : XS} {s : ZS} {tx : Int → Int} {ln p : Int} {f : Int} (hd : 3 ≤ d) (hr : RDR G) (ht : TXT s tx ln) (hp : 0 ≤ p ∧ p ≤ ln) (hf : 0 ≤ f ∧ f ≤ 1000) : Call d 25 [zrf 148] (G, pst s p f) Q = Q (some (zint 0)) (G, pst s p f) := by
  have hr' := hr
  obtain ⟨r1, r2, r3, r4, r5, r6, r7, r8, r9, r10⟩ := hr'
  have ht' := ht
  obtain ⟨t1, t2, t3, t4⟩ := ht'
  have sb := fun p => sg_b (p := p) ht
  have sp := sb p
  rw [e25 (show 1 ≤ d by omega)]
  by_cases q : sg tx ln p = 45
  · simp (disch := first | omega | exact rfl) only [↓u25_0, ↓u25_1, ↓u25_4, ↓u25_6, ↓u25_9, ↓u25_10, ↓u25_13, ↓u25_14, ↓u25_15, ↓u25_16, ↓u25_17, ↓u25_20, ↓u25_22, ↓u25_25, ↓u25_27, ↓u25_30, ↓u25_31, ↓u25_32, ↓u25_33, ↓u25_35, ↓u25_38, ↓u25_39, ↓u25_40, ↓u25_43, ↓u25_44, ↓u25_45, ↓u25_48, ↓u25_49, ↓lI_0, ↓lI_s, ↓lL_0, ↓lL_s, ↓lR_0, ↓lR_s, ↓sT_0, ↓sT_i, ↓sT_r, ↓sT_u, ↓sT_lu, ↓sU_0, ↓sU_i, ↓sU_r, ↓sU_u, ↓ite_bx, bx_T, bx_F, bx_pos, bx_neg, zws_i, zws_r, zws_l, zws_n, zCb_kc, xl_ll, xr_rr, xs_e, xset_e, Option.toList, List.cons_append, List.nil_append, zIb_e, zrng_e, nz_e, if_pos, if_neg, and_true, true_and, or_true, true_or, ite_self, bi_eq0, bi_eq1, bi_1, bi_0, bi_ir, bi_T, bi_F, up_eq, up_ne, ↓reduceIte, reduceIte, Nat.reduceAdd, Nat.reduceLeDiff, Nat.le_refl, Nat.zero_le, not_true_eq_false, not_false_eq_true, ne_eq, Int.reduceEq, Int.reduceLT, Int.reduceLE, Int.reduceAdd, Int.reduceSub, Int.reduceMul, Int.reduceNeg, pT r1, r2, pT r3, r4, r5, pT r6, r7, t1, pst_4, pst_5, pst_o, up_p4, up_p5, s19 (show 1 ≤ d - 1 by omega) hr ht hp, s21_f (show 2 ≤ d - 1 by omega) hr ht hp hf, s24_f (show 2 ≤ d - 1 by omega) hr ht hp (show (0 : Int) ≤ 0 ∧ (0 : Int) ≤ 1 by omega) hf, Int.neg_zero]
  · simp (disch := first | omega | exact rfl) only [↓u25_0, ↓u25_1, ↓u25_4, ↓u25_6, ↓u25_9, ↓u25_10, ↓u25_13, ↓u25_14, ↓u25_15, ↓u25_16, ↓u25_17, ↓u25_20, ↓u25_22, ↓u25_25, ↓u25_27, ↓u25_30, ↓u25_31, ↓u25_32, ↓u25_33, ↓u25_35, ↓u25_38, ↓u25_39, ↓u25_40, ↓u25_43, ↓u25_44, ↓u25_45, ↓u25_48, ↓u25_49, ↓lI_0, ↓lI_s, ↓lL_0, ↓lL_s, ↓lR_0, ↓lR_s, ↓sT_0, ↓sT_i, ↓sT_r, ↓sT_u, ↓sT_lu, ↓sU_0, ↓sU_i, ↓sU_r, ↓sU_u, ↓ite_bx, bx_T, bx_F, bx_pos, bx_neg, zws_i, zws_r, zws_l, zws_n, zCb_kc, xl_ll, xr_rr, xs_e, xset_e, Option.toList, List.cons_append, List.nil_append, zIb_e, zrng_e, nz_e, if_pos, if_neg, and_true, true_and, or_true, true_or, ite_self, bi_eq0, bi_eq1, bi_1, bi_0, bi_ir, bi_T, bi_F, up_eq, up_ne, ↓reduceIte, reduceIte, Nat.reduceAdd, Nat.reduceLeDiff, Nat.le_refl, Nat.zero_le, not_true_eq_false, not_false_eq_true, ne_eq, Int.reduceEq, Int.reduceLT, Int.reduceLE, Int.reduceAdd, Int.reduceSub, Int.reduceMul, Int.reduceNeg, pT r1, r2, pT r3, r4, r5, pT r6, r7, t1, pst_4, pst_5, pst_o, up_p4, up_p5, s19 (show 1 ≤ d - 1 by omega) hr ht hp, s21_f (show 2 ≤ d - 1 by omega) hr ht hp hf, s24_f (show 2 ≤ d - 1 by omega) hr ht hp (show (0 : Int) ≤ 0 ∧ (0 : Int) ≤ 1 by omega) hf, Int.neg_zero]
