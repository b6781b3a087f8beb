/-! the class Reader: a clause, all of the text -/
abbrev PR : Type := Int ⊕ (Int × (Int → Int))
def wup (w : Int → Int) (c v : Int) : Int → Int := fun j => if j = c then v else w j
set_option maxRecDepth 8000 in
theorem wup_e {w : Int → Int} {c v : Int} : wup w c v c = v := if_pos rfl
set_option maxRecDepth 8000 in
theorem wup_o {w : Int → Int} {c v j : Int} (h : j ≠ c) : wup w c v j = w j := if_neg h
def bd (r : Int × Int × Int) (k : Int → Int → PR) : PR := if r.2.2 < 0 then k r.1 r.2.1 else .inl r.2.2
set_option maxRecDepth 8000 in
theorem bd_y {v p f : Int} {k : Int → Int → PR} (h : f < 0) : bd (v, p, f) k = k v p := if_pos h
set_option maxRecDepth 8000 in
theorem bd_n {v p f : Int} {k : Int → Int → PR} (h : ¬f < 0) : bd (v, p, f) k = .inl f := if_neg h
def sgn (tx : Int → Int) (ln c p : Int) : Int × Int × Int := if sg tx ln p = c then (0, p + 1, -1) else (0, p, p)
def kdz (tx : Int → Int) (ln p : Int) : Int × Int × Int := if 0 ≤ kv (sg tx ln p) then (kv (sg tx ln p), p + 1, -1) else (0, p, p)
def c85 (tx : Int → Int) (ln : Int) (w : Int → Int) (p : Int) : PR := if sg tx ln p = 62 then bd (spd tx ln (p + 1)) (fun v p => bd (spd tx ln p) (fun v2 p => .inr (p, wup (wup w 6 v) 7 v2))) else .inr (p, wup (wup w 6 0) 7 0)
def c74 (tx : Int → Int) (ln : Int) (w : Int → Int) (p : Int) : PR := bd (nmq tx ln 1 32 2 0 0 p) (fun v p => c85 tx ln (wup w 5 v) p)
def c68 (tx : Int → Int) (ln : Int) (w : Int → Int) (p : Int) : PR := bd (sgn tx ln 120 p) (fun v p => c74 tx ln w p)
def c57 (tx : Int → Int) (ln : Int) (w : Int → Int) (p : Int) : PR := bd (nmq tx ln 1 32 2 0 0 p) (fun v p => c68 tx ln (wup w 4 v) p)
def c51 (tx : Int → Int) (ln : Int) (w : Int → Int) (p : Int) : PR := bd (sgn tx ln 58 p) (fun v p => c57 tx ln w p)
def c40 (tx : Int → Int) (ln : Int) (w : Int → Int) (p : Int) : PR := bd (nmq tx ln 0 127 3 0 0 p) (fun v p => c51 tx ln (wup w 3 v) p)
def c34 (tx : Int → Int) (ln : Int) (w : Int → Int) (p : Int) : PR := bd (sgn tx ln 44 p) (fun v p => c40 tx ln w p)
def c23 (tx : Int → Int) (ln : Int) (w : Int → Int) (p : Int) : PR := bd (nmq tx ln 0 127 3 0 0 p) (fun v p => c34 tx ln (wup w 2 v) p)
def c17 (tx : Int → Int) (ln : Int) (w : Int → Int) (p : Int) : PR := bd (sgn tx ln 44 p) (fun v p => c23 tx ln w p)
def c7 (tx : Int → Int) (ln : Int) (w : Int → Int) (p : Int) : PR := bd (nmq tx ln 0 1 1 0 0 p) (fun v p => c17 tx ln (wup w 1 v) p)
def c0 (tx : Int → Int) (ln : Int) (w : Int → Int) (p : Int) : PR := bd (kdz tx ln p) (fun v p => c7 tx ln (wup w 0 v) p)
def frs (s s2 : ZS) (o : Int) : Prop := ∀ a c, (a ≠ 148 ∨ (c ≠ 4 ∧ c ≠ 5)) → a ≠ o → s2 a c = s a c
def flt (s2 : ZS) (f ln : Int) : Prop := s2 148 5 = f ∧ (0 ≤ f ∧ f ≤ ln) ∧ 0 ≤ s2 148 4 ∧ s2 148 4 ≤ ln
set_option maxRecDepth 8000 in
theorem flt_p {s : ZS} {p f ln : Int} (hp : 0 ≤ p ∧ p ≤ ln) (hf : 0 ≤ f ∧ f ≤ ln) : flt (pst s p f) f ln := ⟨pst_5, hf, by rw [pst_4]; exact hp⟩
def res (r : PR) (ln : Int) (s2 : ZS) (o : Int) : Prop := match r with
  | .inl f => flt s2 f ln
  | .inr (p, w) => s2 148 4 = p ∧ s2 148 5 = -1 ∧ (0 ≤ p ∧ p ≤ ln) ∧ ∀ c, 0 ≤ c ∧ c < 8 → s2 o c = w c
set_option maxRecDepth 8000 in
theorem frs_r (s : ZS) (o p f : Int) : frs s (pst s p f) o := fun a c h _ => pst_o h
set_option maxRecDepth 8000 in
theorem frs_u {s s2 : ZS} {o c v : Int} (h : frs (up s o c v) s2 o) : frs s s2 o := fun a b h1 h2 => by rw [h a b h1 h2, up_ne (Or.inl h2)]
set_option maxRecDepth 8000 in
theorem TXT_u {s : ZS} {tx : Int → Int} {ln a c v : Int} (h : TXT s tx ln) (ha : a ≠ 148) (ha2 : a ≠ 149) : TXT (up s a c v) tx ln := by
  obtain ⟨t1, t2, t3, t4⟩ := h
  exact ⟨by rw [up_ne (Or.inl (Ne.symm ha))]; exact t1, t2, fun i hi => by rw [up_ne (Or.inl (Ne.symm ha2))]; exact t3 i hi, t4⟩
set_option maxRecDepth 8000 in
theorem row_u {s : ZS} {w : Int → Int} {o k v : Int} (h : ∀ c, 0 ≤ c ∧ c < k → s o c = w c) : ∀ c, 0 ≤ c ∧ c < k + 1 → up s o k v o c = wup w k v c := by
  intro c hc
  by_cases e : c = k
  · rw [e, up_eq, wup_e]
  · rw [up_ne (Or.inr e), wup_o e, h c (by omega)]
set_option maxRecDepth 8000 in
theorem f18_85 {d : Nat} {G : XS} {tx : Int → Int} {ln o : Int} (hd : 4 ≤ d) (hr : RDR G) (ho : kc G o 7) (hl : ll G o = 8) (hob : 151 ≤ o ∧ o ≤ 158) : ∀ (s : ZS) (p f : Int), TXT s tx ln → (0 ≤ p ∧ p ≤ ln) → (0 ≤ f ∧ f ≤ ln) → ∃ s2, frs s s2 o ∧ flt s2 f ln ∧ ∀ Q, Wp d 18 (85, [zrf 148, zrf o, zun], [], (G, pst s p f)) Q = Q none (G, s2) := by
  have hr' := hr
  obtain ⟨r1, r2, r3, r4, r5, r6, r7, r8, r9, r10⟩ := hr'
  intro s p f ht hp hf
  have hf2 : 0 ≤ f ∧ f ≤ 1000 := by have := ht.2.1; omega
  refine ⟨pst (up (up s o 6 0) o 7 0) p f, fun a c h1 h2 => by rw [pst_o h1, up_ne (Or.inl h2), up_ne (Or.inl h2)], flt_p hp hf, fun Q => ?_⟩
  simp (disch := first | omega | exact rfl) only [↓u18_0, ↓u18_1, ↓u18_2, ↓u18_3, ↓u18_6, ↓u18_7, ↓u18_8, ↓u18_9, ↓u18_10, ↓u18_11, ↓u18_12, ↓u18_13, ↓u18_16, ↓u18_17, ↓u18_18, ↓u18_20, ↓u18_23, ↓u18_24, ↓u18_25, ↓u18_26, ↓u18_27, ↓u18_28, ↓u18_30, ↓u18_33, ↓u18_34, ↓u18_35, ↓u18_37, ↓u18_40, ↓u18_41, ↓u18_42, ↓u18_43, ↓u18_44, ↓u18_45, ↓u18_47, ↓u18_50, ↓u18_51, ↓u18_52, ↓u18_54, ↓u18_57, ↓u18_58, ↓u18_59, ↓u18_60, ↓u18_61, ↓u18_62, ↓u18_64, ↓u18_67, ↓u18_68, ↓u18_69, ↓u18_71, ↓u18_74, ↓u18_75, ↓u18_76, ↓u18_77, ↓u18_78, ↓u18_79, ↓u18_81, ↓u18_84, ↓u18_85, ↓u18_86, ↓u18_89, ↓u18_92, ↓u18_93, ↓u18_96, ↓u18_98, ↓u18_101, ↓u18_102, ↓u18_105, ↓u18_106, ↓u18_107, ↓u18_108, ↓u18_109, ↓u18_112, ↓u18_113, ↓u18_116, ↓u18_117, ↓u18_120, ↓u18_121, ↓u18_122, ↓u18_125, ↓u18_126, ↓u18_128, ↓u18_129, ↓u18_132, ↓u18_133, ↓u18_136, ↓u18_139, ↓u18_140, ↓u18_141, ↓u18_142, ↓u18_144, ↓u18_145, ↓u18_148, ↓u18_149, ↓u18_152, ↓u18_155, ↓u18_156, ↓u18_157, ↓lI_0, ↓lI_s, ↓lL_0, ↓lL_s, ↓lR_0, ↓lR_s, ↓sT_0, ↓sT_i, ↓sT_r, ↓sT_u, ↓sT_lu, ↓sU_0, ↓sU_i, ↓sU_r, ↓sU_u, ↓ite_bx, bx_T, bx_F, bx_pos, bx_neg, zws_i, zws_r, zws_l, zws_n, zCb_kc, xl_ll, xr_rr, xs_e, xset_e, Option.toList, List.cons_append, List.nil_append, zIb_e, zrng_e, nz_e, if_pos, if_neg, and_true, true_and, or_true, true_or, ite_self, bi_eq0, bi_eq1, bi_1, bi_0, bi_ir, bi_T, bi_F, up_eq, up_ne, ↓reduceIte, reduceIte, Nat.reduceAdd, Nat.reduceLeDiff, Nat.le_refl, Nat.zero_le, not_true_eq_false, not_false_eq_true, ne_eq, Int.reduceEq, Int.reduceLT, Int.reduceLE, Int.reduceAdd, Int.reduceSub, Int.reduceMul, Int.reduceNeg, pT r1, r2, pT r3, r4, r5, pT r6, r7, pst_4, pst_5, pst_o, up_p4, up_p5, up_po, pT ho, hl, Int.add_zero]
set_option maxRecDepth 8000 in
theorem f18_74 {d : Nat} {G : XS} {tx : Int → Int} {ln o : Int} (hd : 4 ≤ d) (hr : RDR G) (ho : kc G o 7) (hl : ll G o = 8) (hob : 151 ≤ o ∧ o ≤ 158) : ∀ (s : ZS) (p f : Int), TXT s tx ln → (0 ≤ p ∧ p ≤ ln) → (0 ≤ f ∧ f ≤ ln) → ∃ s2, frs s s2 o ∧ flt s2 f ln ∧ ∀ Q, Wp d 18 (74, [zrf 148, zrf o, zun], [], (G, pst s p f)) Q = Q none (G, s2) := by
  have hr' := hr
  obtain ⟨r1, r2, r3, r4, r5, r6, r7, r8, r9, r10⟩ := hr'
  intro s p f ht hp hf
  have hf2 : 0 ≤ f ∧ f ≤ 1000 := by have := ht.2.1; omega
  obtain ⟨s2, h1, h2, e⟩ := f18_85 hd hr ho hl hob (up s o 5 0) p f (TXT_u ht (by omega) (by omega)) hp hf
  refine ⟨s2, frs_u h1, h2, fun Q => ?_⟩
  simp (disch := first | omega | exact rfl) only [↓u18_0, ↓u18_1, ↓u18_2, ↓u18_3, ↓u18_6, ↓u18_7, ↓u18_8, ↓u18_9, ↓u18_10, ↓u18_11, ↓u18_12, ↓u18_13, ↓u18_16, ↓u18_17, ↓u18_18, ↓u18_20, ↓u18_23, ↓u18_24, ↓u18_25, ↓u18_26, ↓u18_27, ↓u18_28, ↓u18_30, ↓u18_33, ↓u18_34, ↓u18_35, ↓u18_37, ↓u18_40, ↓u18_41, ↓u18_42, ↓u18_43, ↓u18_44, ↓u18_45, ↓u18_47, ↓u18_50, ↓u18_51, ↓u18_52, ↓u18_54, ↓u18_57, ↓u18_58, ↓u18_59, ↓u18_60, ↓u18_61, ↓u18_62, ↓u18_64, ↓u18_67, ↓u18_68, ↓u18_69, ↓u18_71, ↓u18_74, ↓u18_75, ↓u18_76, ↓u18_77, ↓u18_78, ↓u18_79, ↓u18_81, ↓u18_84, ↓u18_86, ↓u18_89, ↓u18_92, ↓u18_93, ↓u18_96, ↓u18_98, ↓u18_101, ↓u18_102, ↓u18_105, ↓u18_106, ↓u18_107, ↓u18_108, ↓u18_109, ↓u18_112, ↓u18_113, ↓u18_116, ↓u18_117, ↓u18_120, ↓u18_121, ↓u18_122, ↓u18_125, ↓u18_126, ↓u18_128, ↓u18_129, ↓u18_132, ↓u18_133, ↓u18_136, ↓u18_139, ↓u18_140, ↓u18_141, ↓u18_142, ↓u18_144, ↓u18_145, ↓u18_148, ↓u18_149, ↓u18_152, ↓u18_155, ↓u18_156, ↓u18_157, ↓lI_0, ↓lI_s, ↓lL_0, ↓lL_s, ↓lR_0, ↓lR_s, ↓sT_0, ↓sT_i, ↓sT_r, ↓sT_u, ↓sT_lu, ↓sU_0, ↓sU_i, ↓sU_r, ↓sU_u, ↓ite_bx, bx_T, bx_F, bx_pos, bx_neg, zws_i, zws_r, zws_l, zws_n, zCb_kc, xl_ll, xr_rr, xs_e, xset_e, Option.toList, List.cons_append, List.nil_append, zIb_e, zrng_e, nz_e, if_pos, if_neg, and_true, true_and, or_true, true_or, ite_self, bi_eq0, bi_eq1, bi_1, bi_0, bi_ir, bi_T, bi_F, up_eq, up_ne, ↓reduceIte, reduceIte, Nat.reduceAdd, Nat.reduceLeDiff, Nat.le_refl, Nat.zero_le, not_true_eq_false, not_false_eq_true, ne_eq, Int.reduceEq, Int.reduceLT, Int.reduceLE, Int.reduceAdd, Int.reduceSub, Int.reduceMul, Int.reduceNeg, pT r1, r2, pT r3, r4, r5, pT r6, r7, pst_4, pst_5, pst_o, up_p4, up_p5, up_po, pT ho, hl, e, s24_f (show 2 ≤ d by omega) hr ht hp (show (0 : Int) ≤ 1 ∧ (1 : Int) ≤ 1 by omega) hf2]
set_option maxRecDepth 8000 in
theorem f18_68 {d : Nat} {G : XS} {tx : Int → Int} {ln o : Int} (hd : 4 ≤ d) (hr : RDR G) (ho : kc G o 7) (hl : ll G o = 8) (hob : 151 ≤ o ∧ o ≤ 158) : ∀ (s : ZS) (p f : Int), TXT s tx ln → (0 ≤ p ∧ p ≤ ln) → (0 ≤ f ∧ f ≤ ln) → ∃ s2, frs s s2 o ∧ flt s2 f ln ∧ ∀ Q, Wp d 18 (68, [zrf 148, zrf o, zun], [], (G, pst s p f)) Q = Q none (G, s2) := by
  have hr' := hr
  obtain ⟨r1, r2, r3, r4, r5, r6, r7, r8, r9, r10⟩ := hr'
  intro s p f ht hp hf
  have hf2 : 0 ≤ f ∧ f ≤ 1000 := by have := ht.2.1; omega
  obtain ⟨s2, h1, h2, e⟩ := f18_74 hd hr ho hl hob s p f ht hp hf
  refine ⟨s2, h1, h2, fun Q => ?_⟩
  simp (disch := first | omega | exact rfl) only [↓u18_0, ↓u18_1, ↓u18_2, ↓u18_3, ↓u18_6, ↓u18_7, ↓u18_8, ↓u18_9, ↓u18_10, ↓u18_11, ↓u18_12, ↓u18_13, ↓u18_16, ↓u18_17, ↓u18_18, ↓u18_20, ↓u18_23, ↓u18_24, ↓u18_25, ↓u18_26, ↓u18_27, ↓u18_28, ↓u18_30, ↓u18_33, ↓u18_34, ↓u18_35, ↓u18_37, ↓u18_40, ↓u18_41, ↓u18_42, ↓u18_43, ↓u18_44, ↓u18_45, ↓u18_47, ↓u18_50, ↓u18_51, ↓u18_52, ↓u18_54, ↓u18_57, ↓u18_58, ↓u18_59, ↓u18_60, ↓u18_61, ↓u18_62, ↓u18_64, ↓u18_67, ↓u18_68, ↓u18_69, ↓u18_71, ↓u18_75, ↓u18_76, ↓u18_77, ↓u18_78, ↓u18_79, ↓u18_81, ↓u18_84, ↓u18_85, ↓u18_86, ↓u18_89, ↓u18_92, ↓u18_93, ↓u18_96, ↓u18_98, ↓u18_101, ↓u18_102, ↓u18_105, ↓u18_106, ↓u18_107, ↓u18_108, ↓u18_109, ↓u18_112, ↓u18_113, ↓u18_116, ↓u18_117, ↓u18_120, ↓u18_121, ↓u18_122, ↓u18_125, ↓u18_126, ↓u18_128, ↓u18_129, ↓u18_132, ↓u18_133, ↓u18_136, ↓u18_139, ↓u18_140, ↓u18_141, ↓u18_142, ↓u18_144, ↓u18_145, ↓u18_148, ↓u18_149, ↓u18_152, ↓u18_155, ↓u18_156, ↓u18_157, ↓lI_0, ↓lI_s, ↓lL_0, ↓lL_s, ↓lR_0, ↓lR_s, ↓sT_0, ↓sT_i, ↓sT_r, ↓sT_u, ↓sT_lu, ↓sU_0, ↓sU_i, ↓sU_r, ↓sU_u, ↓ite_bx, bx_T, bx_F, bx_pos, bx_neg, zws_i, zws_r, zws_l, zws_n, zCb_kc, xl_ll, xr_rr, xs_e, xset_e, Option.toList, List.cons_append, List.nil_append, zIb_e, zrng_e, nz_e, if_pos, if_neg, and_true, true_and, or_true, true_or, ite_self, bi_eq0, bi_eq1, bi_1, bi_0, bi_ir, bi_T, bi_F, up_eq, up_ne, ↓reduceIte, reduceIte, Nat.reduceAdd, Nat.reduceLeDiff, Nat.le_refl, Nat.zero_le, not_true_eq_false, not_false_eq_true, ne_eq, Int.reduceEq, Int.reduceLT, Int.reduceLE, Int.reduceAdd, Int.reduceSub, Int.reduceMul, Int.reduceNeg, pT r1, r2, pT r3, r4, r5, pT r6, r7, pst_4, pst_5, pst_o, up_p4, up_p5, up_po, pT ho, hl, e, s21_f (c := 120) (show 2 ≤ d by omega) hr ht hp hf2]
set_option maxRecDepth 8000 in
theorem f18_57 {d : Nat} {G : XS} {tx : Int → Int} {ln o : Int} (hd : 4 ≤ d) (hr : RDR G) (ho : kc G o 7) (hl : ll G o = 8) (hob : 151 ≤ o ∧ o ≤ 158) : ∀ (s : ZS) (p f : Int), TXT s tx ln → (0 ≤ p ∧ p ≤ ln) → (0 ≤ f ∧ f ≤ ln) → ∃ s2, frs s s2 o ∧ flt s2 f ln ∧ ∀ Q, Wp d 18 (57, [zrf 148, zrf o, zun], [], (G, pst s p f)) Q = Q none (G, s2) := by
  have hr' := hr
  obtain ⟨r1, r2, r3, r4, r5, r6, r7, r8, r9, r10⟩ := hr'
  intro s p f ht hp hf
  have hf2 : 0 ≤ f ∧ f ≤ 1000 := by have := ht.2.1; omega
  obtain ⟨s2, h1, h2, e⟩ := f18_68 hd hr ho hl hob (up s o 4 0) p f (TXT_u ht (by omega) (by omega)) hp hf
  refine ⟨s2, frs_u h1, h2, fun Q => ?_⟩
  simp (disch := first | omega | exact rfl) only [↓u18_0, ↓u18_1, ↓u18_2, ↓u18_3, ↓u18_6, ↓u18_7, ↓u18_8, ↓u18_9, ↓u18_10, ↓u18_11, ↓u18_12, ↓u18_13, ↓u18_16, ↓u18_17, ↓u18_18, ↓u18_20, ↓u18_23, ↓u18_24, ↓u18_25, ↓u18_26, ↓u18_27, ↓u18_28, ↓u18_30, ↓u18_33, ↓u18_34, ↓u18_35, ↓u18_37, ↓u18_40, ↓u18_41, ↓u18_42, ↓u18_43, ↓u18_44, ↓u18_45, ↓u18_47, ↓u18_50, ↓u18_51, ↓u18_52, ↓u18_54, ↓u18_57, ↓u18_58, ↓u18_59, ↓u18_60, ↓u18_61, ↓u18_62, ↓u18_64, ↓u18_67, ↓u18_69, ↓u18_71, ↓u18_74, ↓u18_75, ↓u18_76, ↓u18_77, ↓u18_78, ↓u18_79, ↓u18_81, ↓u18_84, ↓u18_85, ↓u18_86, ↓u18_89, ↓u18_92, ↓u18_93, ↓u18_96, ↓u18_98, ↓u18_101, ↓u18_102, ↓u18_105, ↓u18_106, ↓u18_107, ↓u18_108, ↓u18_109, ↓u18_112, ↓u18_113, ↓u18_116, ↓u18_117, ↓u18_120, ↓u18_121, ↓u18_122, ↓u18_125, ↓u18_126, ↓u18_128, ↓u18_129, ↓u18_132, ↓u18_133, ↓u18_136, ↓u18_139, ↓u18_140, ↓u18_141, ↓u18_142, ↓u18_144, ↓u18_145, ↓u18_148, ↓u18_149, ↓u18_152, ↓u18_155, ↓u18_156, ↓u18_157, ↓lI_0, ↓lI_s, ↓lL_0, ↓lL_s, ↓lR_0, ↓lR_s, ↓sT_0, ↓sT_i, ↓sT_r, ↓sT_u, ↓sT_lu, ↓sU_0, ↓sU_i, ↓sU_r, ↓sU_u, ↓ite_bx, bx_T, bx_F, bx_pos, bx_neg, zws_i, zws_r, zws_l, zws_n, zCb_kc, xl_ll, xr_rr, xs_e, xset_e, Option.toList, List.cons_append, List.nil_append, zIb_e, zrng_e, nz_e, if_pos, if_neg, and_true, true_and, or_true, true_or, ite_self, bi_eq0, bi_eq1, bi_1, bi_0, bi_ir, bi_T, bi_F, up_eq, up_ne, ↓reduceIte, reduceIte, Nat.reduceAdd, Nat.reduceLeDiff, Nat.le_refl, Nat.zero_le, not_true_eq_false, not_false_eq_true, ne_eq, Int.reduceEq, Int.reduceLT, Int.reduceLE, Int.reduceAdd, Int.reduceSub, Int.reduceMul, Int.reduceNeg, pT r1, r2, pT r3, r4, r5, pT r6, r7, pst_4, pst_5, pst_o, up_p4, up_p5, up_po, pT ho, hl, e, s24_f (show 2 ≤ d by omega) hr ht hp (show (0 : Int) ≤ 1 ∧ (1 : Int) ≤ 1 by omega) hf2]
set_option maxRecDepth 8000 in
theorem f18_51 {d : Nat} {G : XS} {tx : Int → Int} {ln o : Int} (hd : 4 ≤ d) (hr : RDR G) (ho : kc G o 7) (hl : ll G o = 8) (hob : 151 ≤ o ∧ o ≤ 158) : ∀ (s : ZS) (p f : Int), TXT s tx ln → (0 ≤ p ∧ p ≤ ln) → (0 ≤ f ∧ f ≤ ln) → ∃ s2, frs s s2 o ∧ flt s2 f ln ∧ ∀ Q, Wp d 18 (51, [zrf 148, zrf o, zun], [], (G, pst s p f)) Q = Q none (G, s2) := by
  have hr' := hr
  obtain ⟨r1, r2, r3, r4, r5, r6, r7, r8, r9, r10⟩ := hr'
  intro s p f ht hp hf
  have hf2 : 0 ≤ f ∧ f ≤ 1000 := by have := ht.2.1; omega
  obtain ⟨s2, h1, h2, e⟩ := f18_57 hd hr ho hl hob s p f ht hp hf
  refine ⟨s2, h1, h2, fun Q => ?_⟩
  simp (disch := first | omega | exact rfl) only [↓u18_0, ↓u18_1, ↓u18_2, ↓u18_3, ↓u18_6, ↓u18_7, ↓u18_8, ↓u18_9, ↓u18_10, ↓u18_11, ↓u18_12, ↓u18_13, ↓u18_16, ↓u18_17, ↓u18_18, ↓u18_20, ↓u18_23, ↓u18_24, ↓u18_25, ↓u18_26, ↓u18_27, ↓u18_28, ↓u18_30, ↓u18_33, ↓u18_34, ↓u18_35, ↓u18_37, ↓u18_40, ↓u18_41, ↓u18_42, ↓u18_43, ↓u18_44, ↓u18_45, ↓u18_47, ↓u18_50, ↓u18_51, ↓u18_52, ↓u18_54, ↓u18_58, ↓u18_59, ↓u18_60, ↓u18_61, ↓u18_62, ↓u18_64, ↓u18_67, ↓u18_68, ↓u18_69, ↓u18_71, ↓u18_74, ↓u18_75, ↓u18_76, ↓u18_77, ↓u18_78, ↓u18_79, ↓u18_81, ↓u18_84, ↓u18_85, ↓u18_86, ↓u18_89, ↓u18_92, ↓u18_93, ↓u18_96, ↓u18_98, ↓u18_101, ↓u18_102, ↓u18_105, ↓u18_106, ↓u18_107, ↓u18_108, ↓u18_109, ↓u18_112, ↓u18_113, ↓u18_116, ↓u18_117, ↓u18_120, ↓u18_121, ↓u18_122, ↓u18_125, ↓u18_126, ↓u18_128, ↓u18_129, ↓u18_132, ↓u18_133, ↓u18_136, ↓u18_139, ↓u18_140, ↓u18_141, ↓u18_142, ↓u18_144, ↓u18_145, ↓u18_148, ↓u18_149, ↓u18_152, ↓u18_155, ↓u18_156, ↓u18_157, ↓lI_0, ↓lI_s, ↓lL_0, ↓lL_s, ↓lR_0, ↓lR_s, ↓sT_0, ↓sT_i, ↓sT_r, ↓sT_u, ↓sT_lu, ↓sU_0, ↓sU_i, ↓sU_r, ↓sU_u, ↓ite_bx, bx_T, bx_F, bx_pos, bx_neg, zws_i, zws_r, zws_l, zws_n, zCb_kc, xl_ll, xr_rr, xs_e, xset_e, Option.toList, List.cons_append, List.nil_append, zIb_e, zrng_e, nz_e, if_pos, if_neg, and_true, true_and, or_true, true_or, ite_self, bi_eq0, bi_eq1, bi_1, bi_0, bi_ir, bi_T, bi_F, up_eq, up_ne, ↓reduceIte, reduceIte, Nat.reduceAdd, Nat.reduceLeDiff, Nat.le_refl, Nat.zero_le, not_true_eq_false, not_false_eq_true, ne_eq, Int.reduceEq, Int.reduceLT, Int.reduceLE, Int.reduceAdd, Int.reduceSub, Int.reduceMul, Int.reduceNeg, pT r1, r2, pT r3, r4, r5, pT r6, r7, pst_4, pst_5, pst_o, up_p4, up_p5, up_po, pT ho, hl, e, s21_f (c := 58) (show 2 ≤ d by omega) hr ht hp hf2]
set_option maxRecDepth 8000 in
theorem f18_40 {d : Nat} {G : XS} {tx : Int → Int} {ln o : Int} (hd : 4 ≤ d) (hr : RDR G) (ho : kc G o 7) (hl : ll G o = 8) (hob : 151 ≤ o ∧ o ≤ 158) : ∀ (s : ZS) (p f : Int), TXT s tx ln → (0 ≤ p ∧ p ≤ ln) → (0 ≤ f ∧ f ≤ ln) → ∃ s2, frs s s2 o ∧ flt s2 f ln ∧ ∀ Q, Wp d 18 (40, [zrf 148, zrf o, zun], [], (G, pst s p f)) Q = Q none (G, s2) := by
  have hr' := hr
  obtain ⟨r1, r2, r3, r4, r5, r6, r7, r8, r9, r10⟩ := hr'
  intro s p f ht hp hf
  have hf2 : 0 ≤ f ∧ f ≤ 1000 := by have := ht.2.1; omega
  obtain ⟨s2, h1, h2, e⟩ := f18_51 hd hr ho hl hob (up s o 3 0) p f (TXT_u ht (by omega) (by omega)) hp hf
  refine ⟨s2, frs_u h1, h2, fun Q => ?_⟩
  simp (disch := first | omega | exact rfl) only [↓u18_0, ↓u18_1, ↓u18_2, ↓u18_3, ↓u18_6, ↓u18_7, ↓u18_8, ↓u18_9, ↓u18_10, ↓u18_11, ↓u18_12, ↓u18_13, ↓u18_16, ↓u18_17, ↓u18_18, ↓u18_20, ↓u18_23, ↓u18_24, ↓u18_25, ↓u18_26, ↓u18_27, ↓u18_28, ↓u18_30, ↓u18_33, ↓u18_34, ↓u18_35, ↓u18_37, ↓u18_40, ↓u18_41, ↓u18_42, ↓u18_43, ↓u18_44, ↓u18_45, ↓u18_47, ↓u18_50, ↓u18_52, ↓u18_54, ↓u18_57, ↓u18_58, ↓u18_59, ↓u18_60, ↓u18_61, ↓u18_62, ↓u18_64, ↓u18_67, ↓u18_68, ↓u18_69, ↓u18_71, ↓u18_74, ↓u18_75, ↓u18_76, ↓u18_77, ↓u18_78, ↓u18_79, ↓u18_81, ↓u18_84, ↓u18_85, ↓u18_86, ↓u18_89, ↓u18_92, ↓u18_93, ↓u18_96, ↓u18_98, ↓u18_101, ↓u18_102, ↓u18_105, ↓u18_106, ↓u18_107, ↓u18_108, ↓u18_109, ↓u18_112, ↓u18_113, ↓u18_116, ↓u18_117, ↓u18_120, ↓u18_121, ↓u18_122, ↓u18_125, ↓u18_126, ↓u18_128, ↓u18_129, ↓u18_132, ↓u18_133, ↓u18_136, ↓u18_139, ↓u18_140, ↓u18_141, ↓u18_142, ↓u18_144, ↓u18_145, ↓u18_148, ↓u18_149, ↓u18_152, ↓u18_155, ↓u18_156, ↓u18_157, ↓lI_0, ↓lI_s, ↓lL_0, ↓lL_s, ↓lR_0, ↓lR_s, ↓sT_0, ↓sT_i, ↓sT_r, ↓sT_u, ↓sT_lu, ↓sU_0, ↓sU_i, ↓sU_r, ↓sU_u, ↓ite_bx, bx_T, bx_F, bx_pos, bx_neg, zws_i, zws_r, zws_l, zws_n, zCb_kc, xl_ll, xr_rr, xs_e, xset_e, Option.toList, List.cons_append, List.nil_append, zIb_e, zrng_e, nz_e, if_pos, if_neg, and_true, true_and, or_true, true_or, ite_self, bi_eq0, bi_eq1, bi_1, bi_0, bi_ir, bi_T, bi_F, up_eq, up_ne, ↓reduceIte, reduceIte, Nat.reduceAdd, Nat.reduceLeDiff, Nat.le_refl, Nat.zero_le, not_true_eq_false, not_false_eq_true, ne_eq, Int.reduceEq, Int.reduceLT, Int.reduceLE, Int.reduceAdd, Int.reduceSub, Int.reduceMul, Int.reduceNeg, pT r1, r2, pT r3, r4, r5, pT r6, r7, pst_4, pst_5, pst_o, up_p4, up_p5, up_po, pT ho, hl, e, s24_f (show 2 ≤ d by omega) hr ht hp (show (0 : Int) ≤ 0 ∧ (0 : Int) ≤ 1 by omega) hf2]
set_option maxRecDepth 8000 in
theorem f18_34 {d : Nat} {G : XS} {tx : Int → Int} {ln o : Int} (hd : 4 ≤ d) (hr : RDR G) (ho : kc G o 7) (hl : ll G o = 8) (hob : 151 ≤ o ∧ o ≤ 158) : ∀ (s : ZS) (p f : Int), TXT s tx ln → (0 ≤ p ∧ p ≤ ln) → (0 ≤ f ∧ f ≤ ln) → ∃ s2, frs s s2 o ∧ flt s2 f ln ∧ ∀ Q, Wp d 18 (34, [zrf 148, zrf o, zun], [], (G, pst s p f)) Q = Q none (G, s2) := by
  have hr' := hr
  obtain ⟨r1, r2, r3, r4, r5, r6, r7, r8, r9, r10⟩ := hr'
  intro s p f ht hp hf
  have hf2 : 0 ≤ f ∧ f ≤ 1000 := by have := ht.2.1; omega
  obtain ⟨s2, h1, h2, e⟩ := f18_40 hd hr ho hl hob s p f ht hp hf
  refine ⟨s2, h1, h2, fun Q => ?_⟩
  simp (disch := first | omega | exact rfl) only [↓u18_0, ↓u18_1, ↓u18_2, ↓u18_3, ↓u18_6, ↓u18_7, ↓u18_8, ↓u18_9, ↓u18_10, ↓u18_11, ↓u18_12, ↓u18_13, ↓u18_16, ↓u18_17, ↓u18_18, ↓u18_20, ↓u18_23, ↓u18_24, ↓u18_25, ↓u18_26, ↓u18_27, ↓u18_28, ↓u18_30, ↓u18_33, ↓u18_34, ↓u18_35, ↓u18_37, ↓u18_41, ↓u18_42, ↓u18_43, ↓u18_44, ↓u18_45, ↓u18_47, ↓u18_50, ↓u18_51, ↓u18_52, ↓u18_54, ↓u18_57, ↓u18_58, ↓u18_59, ↓u18_60, ↓u18_61, ↓u18_62, ↓u18_64, ↓u18_67, ↓u18_68, ↓u18_69, ↓u18_71, ↓u18_74, ↓u18_75, ↓u18_76, ↓u18_77, ↓u18_78, ↓u18_79, ↓u18_81, ↓u18_84, ↓u18_85, ↓u18_86, ↓u18_89, ↓u18_92, ↓u18_93, ↓u18_96, ↓u18_98, ↓u18_101, ↓u18_102, ↓u18_105, ↓u18_106, ↓u18_107, ↓u18_108, ↓u18_109, ↓u18_112, ↓u18_113, ↓u18_116, ↓u18_117, ↓u18_120, ↓u18_121, ↓u18_122, ↓u18_125, ↓u18_126, ↓u18_128, ↓u18_129, ↓u18_132, ↓u18_133, ↓u18_136, ↓u18_139, ↓u18_140, ↓u18_141, ↓u18_142, ↓u18_144, ↓u18_145, ↓u18_148, ↓u18_149, ↓u18_152, ↓u18_155, ↓u18_156, ↓u18_157, ↓lI_0, ↓lI_s, ↓lL_0, ↓lL_s, ↓lR_0, ↓lR_s, ↓sT_0, ↓sT_i, ↓sT_r, ↓sT_u, ↓sT_lu, ↓sU_0, ↓sU_i, ↓sU_r, ↓sU_u, ↓ite_bx, bx_T, bx_F, bx_pos, bx_neg, zws_i, zws_r, zws_l, zws_n, zCb_kc, xl_ll, xr_rr, xs_e, xset_e, Option.toList, List.cons_append, List.nil_append, zIb_e, zrng_e, nz_e, if_pos, if_neg, and_true, true_and, or_true, true_or, ite_self, bi_eq0, bi_eq1, bi_1, bi_0, bi_ir, bi_T, bi_F, up_eq, up_ne, ↓reduceIte, reduceIte, Nat.reduceAdd, Nat.reduceLeDiff, Nat.le_refl, Nat.zero_le, not_true_eq_false, not_false_eq_true, ne_eq, Int.reduceEq, Int.reduceLT, Int.reduceLE, Int.reduceAdd, Int.reduceSub, Int.reduceMul, Int.reduceNeg, pT r1, r2, pT r3, r4, r5, pT r6, r7, pst_4, pst_5, pst_o, up_p4, up_p5, up_po, pT ho, hl, e, s21_f (c := 44) (show 2 ≤ d by omega) hr ht hp hf2]
set_option maxRecDepth 8000 in
theorem f18_23 {d : Nat} {G : XS} {tx : Int → Int} {ln o : Int} (hd : 4 ≤ d) (hr : RDR G) (ho : kc G o 7) (hl : ll G o = 8) (hob : 151 ≤ o ∧ o ≤ 158) : ∀ (s : ZS) (p f : Int), TXT s tx ln → (0 ≤ p ∧ p ≤ ln) → (0 ≤ f ∧ f ≤ ln) → ∃ s2, frs s s2 o ∧ flt s2 f ln ∧ ∀ Q, Wp d 18 (23, [zrf 148, zrf o, zun], [], (G, pst s p f)) Q = Q none (G, s2) := by
  have hr' := hr
  obtain ⟨r1, r2, r3, r4, r5, r6, r7, r8, r9, r10⟩ := hr'
  intro s p f ht hp hf
  have hf2 : 0 ≤ f ∧ f ≤ 1000 := by have := ht.2.1; omega
  obtain ⟨s2, h1, h2, e⟩ := f18_34 hd hr ho hl hob (up s o 2 0) p f (TXT_u ht (by omega) (by omega)) hp hf
  refine ⟨s2, frs_u h1, h2, fun Q => ?_⟩
  simp (disch := first | omega | exact rfl) only [↓u18_0, ↓u18_1, ↓u18_2, ↓u18_3, ↓u18_6, ↓u18_7, ↓u18_8, ↓u18_9, ↓u18_10, ↓u18_11, ↓u18_12, ↓u18_13, ↓u18_16, ↓u18_17, ↓u18_18, ↓u18_20, ↓u18_23, ↓u18_24, ↓u18_25, ↓u18_26, ↓u18_27, ↓u18_28, ↓u18_30, ↓u18_33, ↓u18_35, ↓u18_37, ↓u18_40, ↓u18_41, ↓u18_42, ↓u18_43, ↓u18_44, ↓u18_45, ↓u18_47, ↓u18_50, ↓u18_51, ↓u18_52, ↓u18_54, ↓u18_57, ↓u18_58, ↓u18_59, ↓u18_60, ↓u18_61, ↓u18_62, ↓u18_64, ↓u18_67, ↓u18_68, ↓u18_69, ↓u18_71, ↓u18_74, ↓u18_75, ↓u18_76, ↓u18_77, ↓u18_78, ↓u18_79, ↓u18_81, ↓u18_84, ↓u18_85, ↓u18_86, ↓u18_89, ↓u18_92, ↓u18_93, ↓u18_96, ↓u18_98, ↓u18_101, ↓u18_102, ↓u18_105, ↓u18_106, ↓u18_107, ↓u18_108, ↓u18_109, ↓u18_112, ↓u18_113, ↓u18_116, ↓u18_117, ↓u18_120, ↓u18_121, ↓u18_122, ↓u18_125, ↓u18_126, ↓u18_128, ↓u18_129, ↓u18_132, ↓u18_133, ↓u18_136, ↓u18_139, ↓u18_140, ↓u18_141, ↓u18_142, ↓u18_144, ↓u18_145, ↓u18_148, ↓u18_149, ↓u18_152, ↓u18_155, ↓u18_156, ↓u18_157, ↓lI_0, ↓lI_s, ↓lL_0, ↓lL_s, ↓lR_0, ↓lR_s, ↓sT_0, ↓sT_i, ↓sT_r, ↓sT_u, ↓sT_lu, ↓sU_0, ↓sU_i, ↓sU_r, ↓sU_u, ↓ite_bx, bx_T, bx_F, bx_pos, bx_neg, zws_i, zws_r, zws_l, zws_n, zCb_kc, xl_ll, xr_rr, xs_e, xset_e, Option.toList, List.cons_append, List.nil_append, zIb_e, zrng_e, nz_e, if_pos, if_neg, and_true, true_and, or_true, true_or, ite_self, bi_eq0, bi_eq1, bi_1, bi_0, bi_ir, bi_T, bi_F, up_eq, up_ne, ↓reduceIte, reduceIte, Nat.reduceAdd, Nat.reduceLeDiff, Nat.le_refl, Nat.zero_le, not_true_eq_false, not_false_eq_true, ne_eq, Int.reduceEq, Int.reduceLT, Int.reduceLE, Int.reduceAdd, Int.reduceSub, Int.reduceMul, Int.reduceNeg, pT r1, r2, pT r3, r4, r5, pT r6, r7, pst_4, pst_5, pst_o, up_p4, up_p5, up_po, pT ho, hl, e, s24_f (show 2 ≤ d by omega) hr ht hp (show (0 : Int) ≤ 0 ∧ (0 : Int) ≤ 1 by omega) hf2]
set_option maxRecDepth 8000 in
theorem f18_17 {d : Nat} {G : XS} {tx : Int → Int} {ln o : Int} (hd : 4 ≤ d) (hr : RDR G) (ho : kc G o 7) (hl : ll G o = 8) (hob : 151 ≤ o ∧ o ≤ 158) : ∀ (s : ZS) (p f : Int), TXT s tx ln → (0 ≤ p ∧ p ≤ ln) → (0 ≤ f ∧ f ≤ ln) → ∃ s2, frs s s2 o ∧ flt s2 f ln ∧ ∀ Q, Wp d 18 (17, [zrf 148, zrf o, zun], [], (G, pst s p f)) Q = Q none (G, s2) := by
  have hr' := hr
  obtain ⟨r1, r2, r3, r4, r5, r6, r7, r8, r9, r10⟩ := hr'
  intro s p f ht hp hf
  have hf2 : 0 ≤ f ∧ f ≤ 1000 := by have := ht.2.1; omega
  obtain ⟨s2, h1, h2, e⟩ := f18_23 hd hr ho hl hob s p f ht hp hf
  refine ⟨s2, h1, h2, fun Q => ?_⟩
  simp (disch := first | omega | exact rfl) only [↓u18_0, ↓u18_1, ↓u18_2, ↓u18_3, ↓u18_6, ↓u18_7, ↓u18_8, ↓u18_9, ↓u18_10, ↓u18_11, ↓u18_12, ↓u18_13, ↓u18_16, ↓u18_17, ↓u18_18, ↓u18_20, ↓u18_24, ↓u18_25, ↓u18_26, ↓u18_27, ↓u18_28, ↓u18_30, ↓u18_33, ↓u18_34, ↓u18_35, ↓u18_37, ↓u18_40, ↓u18_41, ↓u18_42, ↓u18_43, ↓u18_44, ↓u18_45, ↓u18_47, ↓u18_50, ↓u18_51, ↓u18_52, ↓u18_54, ↓u18_57, ↓u18_58, ↓u18_59, ↓u18_60, ↓u18_61, ↓u18_62, ↓u18_64, ↓u18_67, ↓u18_68, ↓u18_69, ↓u18_71, ↓u18_74, ↓u18_75, ↓u18_76, ↓u18_77, ↓u18_78, ↓u18_79, ↓u18_81, ↓u18_84, ↓u18_85, ↓u18_86, ↓u18_89, ↓u18_92, ↓u18_93, ↓u18_96, ↓u18_98, ↓u18_101, ↓u18_102, ↓u18_105, ↓u18_106, ↓u18_107, ↓u18_108, ↓u18_109, ↓u18_112, ↓u18_113, ↓u18_116, ↓u18_117, ↓u18_120, ↓u18_121, ↓u18_122, ↓u18_125, ↓u18_126, ↓u18_128, ↓u18_129, ↓u18_132, ↓u18_133, ↓u18_136, ↓u18_139, ↓u18_140, ↓u18_141, ↓u18_142, ↓u18_144, ↓u18_145, ↓u18_148, ↓u18_149, ↓u18_152, ↓u18_155, ↓u18_156, ↓u18_157, ↓lI_0, ↓lI_s, ↓lL_0, ↓lL_s, ↓lR_0, ↓lR_s, ↓sT_0, ↓sT_i, ↓sT_r, ↓sT_u, ↓sT_lu, ↓sU_0, ↓sU_i, ↓sU_r, ↓sU_u, ↓ite_bx, bx_T, bx_F, bx_pos, bx_neg, zws_i, zws_r, zws_l, zws_n, zCb_kc, xl_ll, xr_rr, xs_e, xset_e, Option.toList, List.cons_append, List.nil_append, zIb_e, zrng_e, nz_e, if_pos, if_neg, and_true, true_and, or_true, true_or, ite_self, bi_eq0, bi_eq1, bi_1, bi_0, bi_ir, bi_T, bi_F, up_eq, up_ne, ↓reduceIte, reduceIte, Nat.reduceAdd, Nat.reduceLeDiff, Nat.le_refl, Nat.zero_le, not_true_eq_false, not_false_eq_true, ne_eq, Int.reduceEq, Int.reduceLT, Int.reduceLE, Int.reduceAdd, Int.reduceSub, Int.reduceMul, Int.reduceNeg, pT r1, r2, pT r3, r4, r5, pT r6, r7, pst_4, pst_5, pst_o, up_p4, up_p5, up_po, pT ho, hl, e, s21_f (c := 44) (show 2 ≤ d by omega) hr ht hp hf2]
set_option maxRecDepth 8000 in
theorem f18_7 {d : Nat} {G : XS} {tx : Int → Int} {ln o : Int} (hd : 4 ≤ d) (hr : RDR G) (ho : kc G o 7) (hl : ll G o = 8) (hob : 151 ≤ o ∧ o ≤ 158) : ∀ (s : ZS) (p f : Int), TXT s tx ln → (0 ≤ p ∧ p ≤ ln) → (0 ≤ f ∧ f ≤ ln) → ∃ s2, frs s s2 o ∧ flt s2 f ln ∧ ∀ Q, Wp d 18 (7, [zrf 148, zrf o, zun], [], (G, pst s p f)) Q = Q none (G, s2) := by
  have hr' := hr
  obtain ⟨r1, r2, r3, r4, r5, r6, r7, r8, r9, r10⟩ := hr'
  intro s p f ht hp hf
  have hf2 : 0 ≤ f ∧ f ≤ 1000 := by have := ht.2.1; omega
  obtain ⟨s2, h1, h2, e⟩ := f18_17 hd hr ho hl hob (up s o 1 0) p f (TXT_u ht (by omega) (by omega)) hp hf
  refine ⟨s2, frs_u h1, h2, fun Q => ?_⟩
  simp (disch := first | omega | exact rfl) only [↓u18_0, ↓u18_1, ↓u18_2, ↓u18_3, ↓u18_6, ↓u18_7, ↓u18_8, ↓u18_9, ↓u18_10, ↓u18_11, ↓u18_12, ↓u18_13, ↓u18_16, ↓u18_18, ↓u18_20, ↓u18_23, ↓u18_24, ↓u18_25, ↓u18_26, ↓u18_27, ↓u18_28, ↓u18_30, ↓u18_33, ↓u18_34, ↓u18_35, ↓u18_37, ↓u18_40, ↓u18_41, ↓u18_42, ↓u18_43, ↓u18_44, ↓u18_45, ↓u18_47, ↓u18_50, ↓u18_51, ↓u18_52, ↓u18_54, ↓u18_57, ↓u18_58, ↓u18_59, ↓u18_60, ↓u18_61, ↓u18_62, ↓u18_64, ↓u18_67, ↓u18_68, ↓u18_69, ↓u18_71, ↓u18_74, ↓u18_75, ↓u18_76, ↓u18_77, ↓u18_78, ↓u18_79, ↓u18_81, ↓u18_84, ↓u18_85, ↓u18_86, ↓u18_89, ↓u18_92, ↓u18_93, ↓u18_96, ↓u18_98, ↓u18_101, ↓u18_102, ↓u18_105, ↓u18_106, ↓u18_107, ↓u18_108, ↓u18_109, ↓u18_112, ↓u18_113, ↓u18_116, ↓u18_117, ↓u18_120, ↓u18_121, ↓u18_122, ↓u18_125, ↓u18_126, ↓u18_128, ↓u18_129, ↓u18_132, ↓u18_133, ↓u18_136, ↓u18_139, ↓u18_140, ↓u18_141, ↓u18_142, ↓u18_144, ↓u18_145, ↓u18_148, ↓u18_149, ↓u18_152, ↓u18_155, ↓u18_156, ↓u18_157, ↓lI_0, ↓lI_s, ↓lL_0, ↓lL_s, ↓lR_0, ↓lR_s, ↓sT_0, ↓sT_i, ↓sT_r, ↓sT_u, ↓sT_lu, ↓sU_0, ↓sU_i, ↓sU_r, ↓sU_u, ↓ite_bx, bx_T, bx_F, bx_pos, bx_neg, zws_i, zws_r, zws_l, zws_n, zCb_kc, xl_ll, xr_rr, xs_e, xset_e, Option.toList, List.cons_append, List.nil_append, zIb_e, zrng_e, nz_e, if_pos, if_neg, and_true, true_and, or_true, true_or, ite_self, bi_eq0, bi_eq1, bi_1, bi_0, bi_ir, bi_T, bi_F, up_eq, up_ne, ↓reduceIte, reduceIte, Nat.reduceAdd, Nat.reduceLeDiff, Nat.le_refl, Nat.zero_le, not_true_eq_false, not_false_eq_true, ne_eq, Int.reduceEq, Int.reduceLT, Int.reduceLE, Int.reduceAdd, Int.reduceSub, Int.reduceMul, Int.reduceNeg, pT r1, r2, pT r3, r4, r5, pT r6, r7, pst_4, pst_5, pst_o, up_p4, up_p5, up_po, pT ho, hl, e, s24_f (show 2 ≤ d by omega) hr ht hp (show (0 : Int) ≤ 0 ∧ (0 : Int) ≤ 1 by omega) hf2]
set_option maxRecDepth 8000 in
theorem spd_b {tx : Int → Int} {ln p v p1 f : Int} (hp : 0 ≤ p ∧ p ≤ ln) (h : spd tx ln p = (v, p1, f)) : (p ≤ p1 ∧ p1 ≤ ln) ∧ (-1 ≤ f ∧ f ≤ ln) ∧ (f = -1 → -9 ≤ v ∧ v ≤ 9) := by
  unfold spd at h
  by_cases q : sg tx ln p = 45
  · have hl := sg_l (tx := tx) (ln := ln) (p := p) (by omega)
    rw [if_pos q] at h
    obtain ⟨v1, p2, f1, hq⟩ : ∃ v p1 f1, nmq tx ln 0 9 1 0 0 (p + 1) = (v, p1, f1) := ⟨_, _, _, rfl⟩
    have := nmq_b (tx := tx) (ln := ln) (le := 0) (mo := 9) (by omega) (by omega) 1 0 0 (p + 1) _ (Int.le_refl 0) (by omega) (by omega) (by omega) hq
    dsimp only at this
    rw [hq] at h
    cases h
    dsimp only
    omega
  · rw [if_neg q] at h
    by_cases q2 : sg tx ln p = 43
    · have hl := sg_l (tx := tx) (ln := ln) (p := p) (by omega)
      rw [if_pos q2] at h
      have := nmq_b (tx := tx) (ln := ln) (le := 0) (mo := 9) (by omega) (by omega) 1 0 0 (p + 1) _ (Int.le_refl 0) (by omega) (by omega) (by omega) h
      dsimp only at this
      omega
    · rw [if_neg q2] at h
      cases h
      omega
set_option maxRecDepth 8000 in
theorem s18_85 {d : Nat} {G : XS} {tx : Int → Int} {ln o : Int} (hd : 4 ≤ d) (hr : RDR G) (ho : kc G o 7) (hl : ll G o = 8) (hob : 151 ≤ o ∧ o ≤ 158) : ∀ (s : ZS) (p : Int) (w : Int → Int), TXT s tx ln → (0 ≤ p ∧ p ≤ ln) → (∀ c, 0 ≤ c ∧ c < 6 → s o c = w c) → ∃ s2, frs s s2 o ∧ res (c85 tx ln w p) ln s2 o ∧ ∀ Q, Wp d 18 (85, [zrf 148, zrf o, zun], [], (G, pst s p (-1))) Q = Q none (G, s2) := by
  have hr' := hr
  obtain ⟨r1, r2, r3, r4, r5, r6, r7, r8, r9, r10⟩ := hr'
  intro s p w ht hp hw
  have sp := sg_b (p := p) ht
  have l100 := ht.2.1
  by_cases q : sg tx ln p = 62
  · have hl2 := sg_l (tx := tx) (ln := ln) (p := p) (by omega)
    rw [show c85 tx ln w p = bd (spd tx ln (p + 1)) (fun v p => bd (spd tx ln p) (fun v2 p => .inr (p, wup (wup w 6 v) 7 v2))) from if_pos q]
    obtain ⟨v, p1, f1, hv⟩ : ∃ v p1 f1, spd tx ln (p + 1) = (v, p1, f1) := ⟨_, _, _, rfl⟩
    have hb := spd_b (p := p + 1) (by omega) hv
    have e1 := fun Q => s25_y (d := d) (Q := Q) (p := p + 1) (by omega) hr ht (by omega) hv
    have ht2 := TXT_u (a := o) (c := 6) (v := v) ht (by omega) (by omega)
    rw [hv]
    by_cases q1 : f1 < 0
    · have q1' : f1 = -1 := by omega
      subst q1'
      rw [bd_y q1]
      obtain ⟨v2, p2, f2, hv2⟩ : ∃ v p2 f2, spd tx ln p1 = (v, p2, f2) := ⟨_, _, _, rfl⟩
      have hb2 := spd_b (p := p1) (by omega) hv2
      have e2 := fun Q => s25_y (d := d) (Q := Q) (s := up s o 6 v) (p := p1) (by omega) hr ht2 (by omega) hv2
      rw [hv2]
      refine ⟨pst (up (up s o 6 v) o 7 v2) p2 f2, fun a c h1 h2 => by rw [pst_o h1, up_ne (Or.inl h2), up_ne (Or.inl h2)], ?_, fun Q => ?_⟩
      · by_cases q2 : f2 < 0
        · have q2' : f2 = -1 := by omega
          subst q2'
          rw [bd_y q2]
          refine ⟨pst_4, pst_5, by omega, fun c hc => ?_⟩
          rw [pst_o (by omega)]
          exact row_u (k := 7) (row_u (k := 6) hw) c hc
        · rw [bd_n q2]
          exact flt_p (by omega) (by omega)
      · simp (disch := first | omega | exact rfl) only [↓u18_0, ↓u18_1, ↓u18_2, ↓u18_3, ↓u18_6, ↓u18_7, ↓u18_8, ↓u18_9, ↓u18_10, ↓u18_11, ↓u18_12, ↓u18_13, ↓u18_16, ↓u18_17, ↓u18_18, ↓u18_20, ↓u18_23, ↓u18_24, ↓u18_25, ↓u18_26, ↓u18_27, ↓u18_28, ↓u18_30, ↓u18_33, ↓u18_34, ↓u18_35, ↓u18_37, ↓u18_40, ↓u18_41, ↓u18_42, ↓u18_43, ↓u18_44, ↓u18_45, ↓u18_47, ↓u18_50, ↓u18_51, ↓u18_52, ↓u18_54, ↓u18_57, ↓u18_58, ↓u18_59, ↓u18_60, ↓u18_61, ↓u18_62, ↓u18_64, ↓u18_67, ↓u18_68, ↓u18_69, ↓u18_71, ↓u18_74, ↓u18_75, ↓u18_76, ↓u18_77, ↓u18_78, ↓u18_79, ↓u18_81, ↓u18_84, ↓u18_85, ↓u18_86, ↓u18_89, ↓u18_92, ↓u18_93, ↓u18_96, ↓u18_98, ↓u18_101, ↓u18_102, ↓u18_105, ↓u18_106, ↓u18_107, ↓u18_108, ↓u18_109, ↓u18_112, ↓u18_113, ↓u18_116, ↓u18_117, ↓u18_120, ↓u18_121, ↓u18_122, ↓u18_125, ↓u18_126, ↓u18_128, ↓u18_129, ↓u18_132, ↓u18_133, ↓u18_136, ↓u18_139, ↓u18_140, ↓u18_141, ↓u18_142, ↓u18_144, ↓u18_145, ↓u18_148, ↓u18_149, ↓u18_152, ↓u18_155, ↓u18_156, ↓u18_157, ↓lI_0, ↓lI_s, ↓lL_0, ↓lL_s, ↓lR_0, ↓lR_s, ↓sT_0, ↓sT_i, ↓sT_r, ↓sT_u, ↓sT_lu, ↓sU_0, ↓sU_i, ↓sU_r, ↓sU_u, ↓ite_bx, bx_T, bx_F, bx_pos, bx_neg, zws_i, zws_r, zws_l, zws_n, zCb_kc, xl_ll, xr_rr, xs_e, xset_e, Option.toList, List.cons_append, List.nil_append, zIb_e, zrng_e, nz_e, if_pos, if_neg, and_true, true_and, or_true, true_or, ite_self, bi_eq0, bi_eq1, bi_1, bi_0, bi_ir, bi_T, bi_F, up_eq, up_ne, ↓reduceIte, reduceIte, Nat.reduceAdd, Nat.reduceLeDiff, Nat.le_refl, Nat.zero_le, not_true_eq_false, not_false_eq_true, ne_eq, Int.reduceEq, Int.reduceLT, Int.reduceLE, Int.reduceAdd, Int.reduceSub, Int.reduceMul, Int.reduceNeg, pT r1, r2, pT r3, r4, r5, pT r6, r7, pst_4, pst_5, pst_o, up_p4, up_p5, up_po, pT ho, hl, q, e1, e2, s19 (show 1 ≤ d by omega) hr ht hp]
    · rw [bd_n q1]
      have e2 := fun Q => s25_f (d := d) (Q := Q) (s := up s o 6 v) (p := p1) (f := f1) (by omega) hr ht2 (by omega) (by omega)
      refine ⟨pst (up (up s o 6 v) o 7 0) p1 f1, fun a c h1 h2 => by rw [pst_o h1, up_ne (Or.inl h2), up_ne (Or.inl h2)], flt_p (by omega) (by omega), fun Q => ?_⟩
      simp (disch := first | omega | exact rfl) only [↓u18_0, ↓u18_1, ↓u18_2, ↓u18_3, ↓u18_6, ↓u18_7, ↓u18_8, ↓u18_9, ↓u18_10, ↓u18_11, ↓u18_12, ↓u18_13, ↓u18_16, ↓u18_17, ↓u18_18, ↓u18_20, ↓u18_23, ↓u18_24, ↓u18_25, ↓u18_26, ↓u18_27, ↓u18_28, ↓u18_30, ↓u18_33, ↓u18_34, ↓u18_35, ↓u18_37, ↓u18_40, ↓u18_41, ↓u18_42, ↓u18_43, ↓u18_44, ↓u18_45, ↓u18_47, ↓u18_50, ↓u18_51, ↓u18_52, ↓u18_54, ↓u18_57, ↓u18_58, ↓u18_59, ↓u18_60, ↓u18_61, ↓u18_62, ↓u18_64, ↓u18_67, ↓u18_68, ↓u18_69, ↓u18_71, ↓u18_74, ↓u18_75, ↓u18_76, ↓u18_77, ↓u18_78, ↓u18_79, ↓u18_81, ↓u18_84, ↓u18_85, ↓u18_86, ↓u18_89, ↓u18_92, ↓u18_93, ↓u18_96, ↓u18_98, ↓u18_101, ↓u18_102, ↓u18_105, ↓u18_106, ↓u18_107, ↓u18_108, ↓u18_109, ↓u18_112, ↓u18_113, ↓u18_116, ↓u18_117, ↓u18_120, ↓u18_121, ↓u18_122, ↓u18_125, ↓u18_126, ↓u18_128, ↓u18_129, ↓u18_132, ↓u18_133, ↓u18_136, ↓u18_139, ↓u18_140, ↓u18_141, ↓u18_142, ↓u18_144, ↓u18_145, ↓u18_148, ↓u18_149, ↓u18_152, ↓u18_155, ↓u18_156, ↓u18_157, ↓lI_0, ↓lI_s, ↓lL_0, ↓lL_s, ↓lR_0, ↓lR_s, ↓sT_0, ↓sT_i, ↓sT_r, ↓sT_u, ↓sT_lu, ↓sU_0, ↓sU_i, ↓sU_r, ↓sU_u, ↓ite_bx, bx_T, bx_F, bx_pos, bx_neg, zws_i, zws_r, zws_l, zws_n, zCb_kc, xl_ll, xr_rr, xs_e, xset_e, Option.toList, List.cons_append, List.nil_append, zIb_e, zrng_e, nz_e, if_pos, if_neg, and_true, true_and, or_true, true_or, ite_self, bi_eq0, bi_eq1, bi_1, bi_0, bi_ir, bi_T, bi_F, up_eq, up_ne, ↓reduceIte, reduceIte, Nat.reduceAdd, Nat.reduceLeDiff, Nat.le_refl, Nat.zero_le, not_true_eq_false, not_false_eq_true, ne_eq, Int.reduceEq, Int.reduceLT, Int.reduceLE, Int.reduceAdd, Int.reduceSub, Int.reduceMul, Int.reduceNeg, pT r1, r2, pT r3, r4, r5, pT r6, r7, pst_4, pst_5, pst_o, up_p4, up_p5, up_po, pT ho, hl, q, e1, e2, s19 (show 1 ≤ d by omega) hr ht hp]
  · rw [show c85 tx ln w p = .inr (p, wup (wup w 6 0) 7 0) from if_neg q]
    refine ⟨pst (up (up s o 6 0) o 7 0) p (-1), fun a c h1 h2 => by rw [pst_o h1, up_ne (Or.inl h2), up_ne (Or.inl h2)], ⟨pst_4, pst_5, hp, fun c hc => ?_⟩, fun Q => ?_⟩
    · rw [pst_o (by omega)]
      exact row_u (k := 7) (row_u (k := 6) hw) c hc
    · simp (disch := first | omega | exact rfl) only [↓u18_0, ↓u18_1, ↓u18_2, ↓u18_3, ↓u18_6, ↓u18_7, ↓u18_8, ↓u18_9, ↓u18_10, ↓u18_11, ↓u18_12, ↓u18_13, ↓u18_16, ↓u18_17, ↓u18_18, ↓u18_20, ↓u18_23, ↓u18_24, ↓u18_25, ↓u18_26, ↓u18_27, ↓u18_28, ↓u18_30, ↓u18_33, ↓u18_34, ↓u18_35, ↓u18_37, ↓u18_40, ↓u18_41, ↓u18_42, ↓u18_43, ↓u18_44, ↓u18_45, ↓u18_47, ↓u18_50, ↓u18_51, ↓u18_52, ↓u18_54, ↓u18_57, ↓u18_58, ↓u18_59, ↓u18_60, ↓u18_61, ↓u18_62, ↓u18_64, ↓u18_67, ↓u18_68, ↓u18_69, ↓u18_71, ↓u18_74, ↓u18_75, ↓u18_76, ↓u18_77, ↓u18_78, ↓u18_79, ↓u18_81, ↓u18_84, ↓u18_85, ↓u18_86, ↓u18_89, ↓u18_92, ↓u18_93, ↓u18_96, ↓u18_98, ↓u18_101, ↓u18_102, ↓u18_105, ↓u18_106, ↓u18_107, ↓u18_108, ↓u18_109, ↓u18_112, ↓u18_113, ↓u18_116, ↓u18_117, ↓u18_120, ↓u18_121, ↓u18_122, ↓u18_125, ↓u18_126, ↓u18_128, ↓u18_129, ↓u18_132, ↓u18_133, ↓u18_136, ↓u18_139, ↓u18_140, ↓u18_141, ↓u18_142, ↓u18_144, ↓u18_145, ↓u18_148, ↓u18_149, ↓u18_152, ↓u18_155, ↓u18_156, ↓u18_157, ↓lI_0, ↓lI_s, ↓lL_0, ↓lL_s, ↓lR_0, ↓lR_s, ↓sT_0, ↓sT_i, ↓sT_r, ↓sT_u, ↓sT_lu, ↓sU_0, ↓sU_i, ↓sU_r, ↓sU_u, ↓ite_bx, bx_T, bx_F, bx_pos, bx_neg, zws_i, zws_r, zws_l, zws_n, zCb_kc, xl_ll, xr_rr, xs_e, xset_e, Option.toList, List.cons_append, List.nil_append, zIb_e, zrng_e, nz_e, if_pos, if_neg, and_true, true_and, or_true, true_or, ite_self, bi_eq0, bi_eq1, bi_1, bi_0, bi_ir, bi_T, bi_F, up_eq, up_ne, ↓reduceIte, reduceIte, Nat.reduceAdd, Nat.reduceLeDiff, Nat.le_refl, Nat.zero_le, not_true_eq_false, not_false_eq_true, ne_eq, Int.reduceEq, Int.reduceLT, Int.reduceLE, Int.reduceAdd, Int.reduceSub, Int.reduceMul, Int.reduceNeg, pT r1, r2, pT r3, r4, r5, pT r6, r7, pst_4, pst_5, pst_o, up_p4, up_p5, up_po, pT ho, hl, Int.add_zero, s19 (show 1 ≤ d by omega) hr ht hp]
set_option maxRecDepth 8000 in
theorem s18_74 {d : Nat} {G : XS} {tx : Int → Int} {ln o : Int} (hd : 4 ≤ d) (hr : RDR G) (ho : kc G o 7) (hl : ll G o = 8) (hob : 151 ≤ o ∧ o ≤ 158) : ∀ (s : ZS) (p : Int) (w : Int → Int), TXT s tx ln → (0 ≤ p ∧ p ≤ ln) → (∀ c, 0 ≤ c ∧ c < 5 → s o c = w c) → ∃ s2, frs s s2 o ∧ res (c74 tx ln w p) ln s2 o ∧ ∀ Q, Wp d 18 (74, [zrf 148, zrf o, zun], [], (G, pst s p (-1))) Q = Q none (G, s2) := by
  have hr' := hr
  obtain ⟨r1, r2, r3, r4, r5, r6, r7, r8, r9, r10⟩ := hr'
  intro s p w ht hp hw
  have sp := sg_b (p := p) ht
  have l100 := ht.2.1
  unfold c74
  obtain ⟨v, p1, f1, hv⟩ : ∃ v p1 f1, nmq tx ln 1 32 2 0 0 p = (v, p1, f1) := ⟨_, _, _, rfl⟩
  have hb := nmq_b (tx := tx) (ln := ln) (le := 1) (mo := 32) (by omega) (by omega) 2 0 0 p _ (Int.le_refl 0) (by omega) hp (by omega) hv
  dsimp only at hb
  have e1 := fun Q => s24_y (d := d) (Q := Q) (n := 2) (md := 2) (le := 1) (mo := 32) (by omega) hr ht hp (by omega) (by omega) (by omega) rfl hv
  have ht2 := TXT_u (a := o) (c := 5) (v := v) ht (by omega) (by omega)
  rw [hv]
  by_cases q1 : f1 < 0
  · have q1' : f1 = -1 := by omega
    subst q1'
    rw [bd_y q1]
    obtain ⟨s2, h1, h2, e⟩ := s18_85 hd hr ho hl hob (up s o 5 v) p1 (wup w 5 v) ht2 (by omega) (row_u hw)
    refine ⟨s2, frs_u h1, h2, fun Q => ?_⟩
    simp (disch := first | omega | exact rfl) only [↓u18_0, ↓u18_1, ↓u18_2, ↓u18_3, ↓u18_6, ↓u18_7, ↓u18_8, ↓u18_9, ↓u18_10, ↓u18_11, ↓u18_12, ↓u18_13, ↓u18_16, ↓u18_17, ↓u18_18, ↓u18_20, ↓u18_23, ↓u18_24, ↓u18_25, ↓u18_26, ↓u18_27, ↓u18_28, ↓u18_30, ↓u18_33, ↓u18_34, ↓u18_35, ↓u18_37, ↓u18_40, ↓u18_41, ↓u18_42, ↓u18_43, ↓u18_44, ↓u18_45, ↓u18_47, ↓u18_50, ↓u18_51, ↓u18_52, ↓u18_54, ↓u18_57, ↓u18_58, ↓u18_59, ↓u18_60, ↓u18_61, ↓u18_62, ↓u18_64, ↓u18_67, ↓u18_68, ↓u18_69, ↓u18_71, ↓u18_74, ↓u18_75, ↓u18_76, ↓u18_77, ↓u18_78, ↓u18_79, ↓u18_81, ↓u18_84, ↓u18_86, ↓u18_89, ↓u18_92, ↓u18_93, ↓u18_96, ↓u18_98, ↓u18_101, ↓u18_102, ↓u18_105, ↓u18_106, ↓u18_107, ↓u18_108, ↓u18_109, ↓u18_112, ↓u18_113, ↓u18_116, ↓u18_117, ↓u18_120, ↓u18_121, ↓u18_122, ↓u18_125, ↓u18_126, ↓u18_128, ↓u18_129, ↓u18_132, ↓u18_133, ↓u18_136, ↓u18_139, ↓u18_140, ↓u18_141, ↓u18_142, ↓u18_144, ↓u18_145, ↓u18_148, ↓u18_149, ↓u18_152, ↓u18_155, ↓u18_156, ↓u18_157, ↓lI_0, ↓lI_s, ↓lL_0, ↓lL_s, ↓lR_0, ↓lR_s, ↓sT_0, ↓sT_i, ↓sT_r, ↓sT_u, ↓sT_lu, ↓sU_0, ↓sU_i, ↓sU_r, ↓sU_u, ↓ite_bx, bx_T, bx_F, bx_pos, bx_neg, zws_i, zws_r, zws_l, zws_n, zCb_kc, xl_ll, xr_rr, xs_e, xset_e, Option.toList, List.cons_append, List.nil_append, zIb_e, zrng_e, nz_e, if_pos, if_neg, and_true, true_and, or_true, true_or, ite_self, bi_eq0, bi_eq1, bi_1, bi_0, bi_ir, bi_T, bi_F, up_eq, up_ne, ↓reduceIte, reduceIte, Nat.reduceAdd, Nat.reduceLeDiff, Nat.le_refl, Nat.zero_le, not_true_eq_false, not_false_eq_true, ne_eq, Int.reduceEq, Int.reduceLT, Int.reduceLE, Int.reduceAdd, Int.reduceSub, Int.reduceMul, Int.reduceNeg, pT r1, r2, pT r3, r4, r5, pT r6, r7, pst_4, pst_5, pst_o, up_p4, up_p5, up_po, pT ho, hl, e, e1]
  · rw [bd_n q1]
    obtain ⟨s2, h1, h2, e⟩ := f18_85 hd hr ho hl hob (up s o 5 v) p1 f1 ht2 (by omega) (by omega)
    refine ⟨s2, frs_u h1, h2, fun Q => ?_⟩
    simp (disch := first | omega | exact rfl) only [↓u18_0, ↓u18_1, ↓u18_2, ↓u18_3, ↓u18_6, ↓u18_7, ↓u18_8, ↓u18_9, ↓u18_10, ↓u18_11, ↓u18_12, ↓u18_13, ↓u18_16, ↓u18_17, ↓u18_18, ↓u18_20, ↓u18_23, ↓u18_24, ↓u18_25, ↓u18_26, ↓u18_27, ↓u18_28, ↓u18_30, ↓u18_33, ↓u18_34, ↓u18_35, ↓u18_37, ↓u18_40, ↓u18_41, ↓u18_42, ↓u18_43, ↓u18_44, ↓u18_45, ↓u18_47, ↓u18_50, ↓u18_51, ↓u18_52, ↓u18_54, ↓u18_57, ↓u18_58, ↓u18_59, ↓u18_60, ↓u18_61, ↓u18_62, ↓u18_64, ↓u18_67, ↓u18_68, ↓u18_69, ↓u18_71, ↓u18_74, ↓u18_75, ↓u18_76, ↓u18_77, ↓u18_78, ↓u18_79, ↓u18_81, ↓u18_84, ↓u18_86, ↓u18_89, ↓u18_92, ↓u18_93, ↓u18_96, ↓u18_98, ↓u18_101, ↓u18_102, ↓u18_105, ↓u18_106, ↓u18_107, ↓u18_108, ↓u18_109, ↓u18_112, ↓u18_113, ↓u18_116, ↓u18_117, ↓u18_120, ↓u18_121, ↓u18_122, ↓u18_125, ↓u18_126, ↓u18_128, ↓u18_129, ↓u18_132, ↓u18_133, ↓u18_136, ↓u18_139, ↓u18_140, ↓u18_141, ↓u18_142, ↓u18_144, ↓u18_145, ↓u18_148, ↓u18_149, ↓u18_152, ↓u18_155, ↓u18_156, ↓u18_157, ↓lI_0, ↓lI_s, ↓lL_0, ↓lL_s, ↓lR_0, ↓lR_s, ↓sT_0, ↓sT_i, ↓sT_r, ↓sT_u, ↓sT_lu, ↓sU_0, ↓sU_i, ↓sU_r, ↓sU_u, ↓ite_bx, bx_T, bx_F, bx_pos, bx_neg, zws_i, zws_r, zws_l, zws_n, zCb_kc, xl_ll, xr_rr, xs_e, xset_e, Option.toList, List.cons_append, List.nil_append, zIb_e, zrng_e, nz_e, if_pos, if_neg, and_true, true_and, or_true, true_or, ite_self, bi_eq0, bi_eq1, bi_1, bi_0, bi_ir, bi_T, bi_F, up_eq, up_ne, ↓reduceIte, reduceIte, Nat.reduceAdd, Nat.reduceLeDiff, Nat.le_refl, Nat.zero_le, not_true_eq_false, not_false_eq_true, ne_eq, Int.reduceEq, Int.reduceLT, Int.reduceLE, Int.reduceAdd, Int.reduceSub, Int.reduceMul, Int.reduceNeg, pT r1, r2, pT r3, r4, r5, pT r6, r7, pst_4, pst_5, pst_o, up_p4, up_p5, up_po, pT ho, hl, e, e1]
set_option maxRecDepth 8000 in
theorem s18_68 {d : Nat} {G : XS} {tx : Int → Int} {ln o : Int} (hd : 4 ≤ d) (hr : RDR G) (ho : kc G o 7) (hl : ll G o = 8) (hob : 151 ≤ o ∧ o ≤ 158) : ∀ (s : ZS) (p : Int) (w : Int → Int), TXT s tx ln → (0 ≤ p ∧ p ≤ ln) → (∀ c, 0 ≤ c ∧ c < 5 → s o c = w c) → ∃ s2, frs s s2 o ∧ res (c68 tx ln w p) ln s2 o ∧ ∀ Q, Wp d 18 (68, [zrf 148, zrf o, zun], [], (G, pst s p (-1))) Q = Q none (G, s2) := by
  have hr' := hr
  obtain ⟨r1, r2, r3, r4, r5, r6, r7, r8, r9, r10⟩ := hr'
  intro s p w ht hp hw
  have sp := sg_b (p := p) ht
  have l100 := ht.2.1
  unfold c68
  by_cases q : sg tx ln p = 120
  · have hl2 := sg_l (tx := tx) (ln := ln) (p := p) (by omega)
    rw [show sgn tx ln 120 p = (0, p + 1, -1) from if_pos q, bd_y (by omega)]
    obtain ⟨s2, h1, h2, e⟩ := s18_74 hd hr ho hl hob s (p + 1) w ht (by omega) hw
    refine ⟨s2, h1, h2, fun Q => ?_⟩
    simp (disch := first | omega | exact rfl) only [↓u18_0, ↓u18_1, ↓u18_2, ↓u18_3, ↓u18_6, ↓u18_7, ↓u18_8, ↓u18_9, ↓u18_10, ↓u18_11, ↓u18_12, ↓u18_13, ↓u18_16, ↓u18_17, ↓u18_18, ↓u18_20, ↓u18_23, ↓u18_24, ↓u18_25, ↓u18_26, ↓u18_27, ↓u18_28, ↓u18_30, ↓u18_33, ↓u18_34, ↓u18_35, ↓u18_37, ↓u18_40, ↓u18_41, ↓u18_42, ↓u18_43, ↓u18_44, ↓u18_45, ↓u18_47, ↓u18_50, ↓u18_51, ↓u18_52, ↓u18_54, ↓u18_57, ↓u18_58, ↓u18_59, ↓u18_60, ↓u18_61, ↓u18_62, ↓u18_64, ↓u18_67, ↓u18_68, ↓u18_69, ↓u18_71, ↓u18_75, ↓u18_76, ↓u18_77, ↓u18_78, ↓u18_79, ↓u18_81, ↓u18_84, ↓u18_85, ↓u18_86, ↓u18_89, ↓u18_92, ↓u18_93, ↓u18_96, ↓u18_98, ↓u18_101, ↓u18_102, ↓u18_105, ↓u18_106, ↓u18_107, ↓u18_108, ↓u18_109, ↓u18_112, ↓u18_113, ↓u18_116, ↓u18_117, ↓u18_120, ↓u18_121, ↓u18_122, ↓u18_125, ↓u18_126, ↓u18_128, ↓u18_129, ↓u18_132, ↓u18_133, ↓u18_136, ↓u18_139, ↓u18_140, ↓u18_141, ↓u18_142, ↓u18_144, ↓u18_145, ↓u18_148, ↓u18_149, ↓u18_152, ↓u18_155, ↓u18_156, ↓u18_157, ↓lI_0, ↓lI_s, ↓lL_0, ↓lL_s, ↓lR_0, ↓lR_s, ↓sT_0, ↓sT_i, ↓sT_r, ↓sT_u, ↓sT_lu, ↓sU_0, ↓sU_i, ↓sU_r, ↓sU_u, ↓ite_bx, bx_T, bx_F, bx_pos, bx_neg, zws_i, zws_r, zws_l, zws_n, zCb_kc, xl_ll, xr_rr, xs_e, xset_e, Option.toList, List.cons_append, List.nil_append, zIb_e, zrng_e, nz_e, if_pos, if_neg, and_true, true_and, or_true, true_or, ite_self, bi_eq0, bi_eq1, bi_1, bi_0, bi_ir, bi_T, bi_F, up_eq, up_ne, ↓reduceIte, reduceIte, Nat.reduceAdd, Nat.reduceLeDiff, Nat.le_refl, Nat.zero_le, not_true_eq_false, not_false_eq_true, ne_eq, Int.reduceEq, Int.reduceLT, Int.reduceLE, Int.reduceAdd, Int.reduceSub, Int.reduceMul, Int.reduceNeg, pT r1, r2, pT r3, r4, r5, pT r6, r7, pst_4, pst_5, pst_o, up_p4, up_p5, up_po, pT ho, hl, e, s21_y (c := 120) (show 2 ≤ d by omega) hr ht hp (by omega) q]
  · rw [show sgn tx ln 120 p = (0, p, p) from if_neg q, bd_n (by omega)]
    obtain ⟨s2, h1, h2, e⟩ := f18_74 hd hr ho hl hob s p p ht hp hp
    refine ⟨s2, h1, h2, fun Q => ?_⟩
    simp (disch := first | omega | exact rfl) only [↓u18_0, ↓u18_1, ↓u18_2, ↓u18_3, ↓u18_6, ↓u18_7, ↓u18_8, ↓u18_9, ↓u18_10, ↓u18_11, ↓u18_12, ↓u18_13, ↓u18_16, ↓u18_17, ↓u18_18, ↓u18_20, ↓u18_23, ↓u18_24, ↓u18_25, ↓u18_26, ↓u18_27, ↓u18_28, ↓u18_30, ↓u18_33, ↓u18_34, ↓u18_35, ↓u18_37, ↓u18_40, ↓u18_41, ↓u18_42, ↓u18_43, ↓u18_44, ↓u18_45, ↓u18_47, ↓u18_50, ↓u18_51, ↓u18_52, ↓u18_54, ↓u18_57, ↓u18_58, ↓u18_59, ↓u18_60, ↓u18_61, ↓u18_62, ↓u18_64, ↓u18_67, ↓u18_68, ↓u18_69, ↓u18_71, ↓u18_75, ↓u18_76, ↓u18_77, ↓u18_78, ↓u18_79, ↓u18_81, ↓u18_84, ↓u18_85, ↓u18_86, ↓u18_89, ↓u18_92, ↓u18_93, ↓u18_96, ↓u18_98, ↓u18_101, ↓u18_102, ↓u18_105, ↓u18_106, ↓u18_107, ↓u18_108, ↓u18_109, ↓u18_112, ↓u18_113, ↓u18_116, ↓u18_117, ↓u18_120, ↓u18_121, ↓u18_122, ↓u18_125, ↓u18_126, ↓u18_128, ↓u18_129, ↓u18_132, ↓u18_133, ↓u18_136, ↓u18_139, ↓u18_140, ↓u18_141, ↓u18_142, ↓u18_144, ↓u18_145, ↓u18_148, ↓u18_149, ↓u18_152, ↓u18_155, ↓u18_156, ↓u18_157, ↓lI_0, ↓lI_s, ↓lL_0, ↓lL_s, ↓lR_0, ↓lR_s, ↓sT_0, ↓sT_i, ↓sT_r, ↓sT_u, ↓sT_lu, ↓sU_0, ↓sU_i, ↓sU_r, ↓sU_u, ↓ite_bx, bx_T, bx_F, bx_pos, bx_neg, zws_i, zws_r, zws_l, zws_n, zCb_kc, xl_ll, xr_rr, xs_e, xset_e, Option.toList, List.cons_append, List.nil_append, zIb_e, zrng_e, nz_e, if_pos, if_neg, and_true, true_and, or_true, true_or, ite_self, bi_eq0, bi_eq1, bi_1, bi_0, bi_ir, bi_T, bi_F, up_eq, up_ne, ↓reduceIte, reduceIte, Nat.reduceAdd, Nat.reduceLeDiff, Nat.le_refl, Nat.zero_le, not_true_eq_false, not_false_eq_true, ne_eq, Int.reduceEq, Int.reduceLT, Int.reduceLE, Int.reduceAdd, Int.reduceSub, Int.reduceMul, Int.reduceNeg, pT r1, r2, pT r3, r4, r5, pT r6, r7, pst_4, pst_5, pst_o, up_p4, up_p5, up_po, pT ho, hl, e, s21_n (c := 120) (show 2 ≤ d by omega) hr ht hp (by omega) q]
set_option maxRecDepth 8000 in
theorem s18_57 {d : Nat} {G : XS} {tx : Int → Int} {ln o : Int} (hd : 4 ≤ d) (hr : RDR G) (ho : kc G o 7) (hl : ll G o = 8) (hob : 151 ≤ o ∧ o ≤ 158) : ∀ (s : ZS) (p : Int) (w : Int → Int), TXT s tx ln → (0 ≤ p ∧ p ≤ ln) → (∀ c, 0 ≤ c ∧ c < 4 → s o c = w c) → ∃ s2, frs s s2 o ∧ res (c57 tx ln w p) ln s2 o ∧ ∀ Q, Wp d 18 (57, [zrf 148, zrf o, zun], [], (G, pst s p (-1))) Q = Q none (G, s2) := by
  have hr' := hr
  obtain ⟨r1, r2, r3, r4, r5, r6, r7, r8, r9, r10⟩ := hr'
  intro s p w ht hp hw
  have sp := sg_b (p := p) ht
  have l100 := ht.2.1
  unfold c57
  obtain ⟨v, p1, f1, hv⟩ : ∃ v p1 f1, nmq tx ln 1 32 2 0 0 p = (v, p1, f1) := ⟨_, _, _, rfl⟩
  have hb := nmq_b (tx := tx) (ln := ln) (le := 1) (mo := 32) (by omega) (by omega) 2 0 0 p _ (Int.le_refl 0) (by omega) hp (by omega) hv
  dsimp only at hb
  have e1 := fun Q => s24_y (d := d) (Q := Q) (n := 2) (md := 2) (le := 1) (mo := 32) (by omega) hr ht hp (by omega) (by omega) (by omega) rfl hv
  have ht2 := TXT_u (a := o) (c := 4) (v := v) ht (by omega) (by omega)
  rw [hv]
  by_cases q1 : f1 < 0
  · have q1' : f1 = -1 := by omega
    subst q1'
    rw [bd_y q1]
    obtain ⟨s2, h1, h2, e⟩ := s18_68 hd hr ho hl hob (up s o 4 v) p1 (wup w 4 v) ht2 (by omega) (row_u hw)
    refine ⟨s2, frs_u h1, h2, fun Q => ?_⟩
    simp (disch := first | omega | exact rfl) only [↓u18_0, ↓u18_1, ↓u18_2, ↓u18_3, ↓u18_6, ↓u18_7, ↓u18_8, ↓u18_9, ↓u18_10, ↓u18_11, ↓u18_12, ↓u18_13, ↓u18_16, ↓u18_17, ↓u18_18, ↓u18_20, ↓u18_23, ↓u18_24, ↓u18_25, ↓u18_26, ↓u18_27, ↓u18_28, ↓u18_30, ↓u18_33, ↓u18_34, ↓u18_35, ↓u18_37, ↓u18_40, ↓u18_41, ↓u18_42, ↓u18_43, ↓u18_44, ↓u18_45, ↓u18_47, ↓u18_50, ↓u18_51, ↓u18_52, ↓u18_54, ↓u18_57, ↓u18_58, ↓u18_59, ↓u18_60, ↓u18_61, ↓u18_62, ↓u18_64, ↓u18_67, ↓u18_69, ↓u18_71, ↓u18_74, ↓u18_75, ↓u18_76, ↓u18_77, ↓u18_78, ↓u18_79, ↓u18_81, ↓u18_84, ↓u18_85, ↓u18_86, ↓u18_89, ↓u18_92, ↓u18_93, ↓u18_96, ↓u18_98, ↓u18_101, ↓u18_102, ↓u18_105, ↓u18_106, ↓u18_107, ↓u18_108, ↓u18_109, ↓u18_112, ↓u18_113, ↓u18_116, ↓u18_117, ↓u18_120, ↓u18_121, ↓u18_122, ↓u18_125, ↓u18_126, ↓u18_128, ↓u18_129, ↓u18_132, ↓u18_133, ↓u18_136, ↓u18_139, ↓u18_140, ↓u18_141, ↓u18_142, ↓u18_144, ↓u18_145, ↓u18_148, ↓u18_149, ↓u18_152, ↓u18_155, ↓u18_156, ↓u18_157, ↓lI_0, ↓lI_s, ↓lL_0, ↓lL_s, ↓lR_0, ↓lR_s, ↓sT_0, ↓sT_i, ↓sT_r, ↓sT_u, ↓sT_lu, ↓sU_0, ↓sU_i, ↓sU_r, ↓sU_u, ↓ite_bx, bx_T, bx_F, bx_pos, bx_neg, zws_i, zws_r, zws_l, zws_n, zCb_kc, xl_ll, xr_rr, xs_e, xset_e, Option.toList, List.cons_append, List.nil_append, zIb_e, zrng_e, nz_e, if_pos, if_neg, and_true, true_and, or_true, true_or, ite_self, bi_eq0, bi_eq1, bi_1, bi_0, bi_ir, bi_T, bi_F, up_eq, up_ne, ↓reduceIte, reduceIte, Nat.reduceAdd, Nat.reduceLeDiff, Nat.le_refl, Nat.zero_le, not_true_eq_false, not_false_eq_true, ne_eq, Int.reduceEq, Int.reduceLT, Int.reduceLE, Int.reduceAdd, Int.reduceSub, Int.reduceMul, Int.reduceNeg, pT r1, r2, pT r3, r4, r5, pT r6, r7, pst_4, pst_5, pst_o, up_p4, up_p5, up_po, pT ho, hl, e, e1]
  · rw [bd_n q1]
    obtain ⟨s2, h1, h2, e⟩ := f18_68 hd hr ho hl hob (up s o 4 v) p1 f1 ht2 (by omega) (by omega)
    refine ⟨s2, frs_u h1, h2, fun Q => ?_⟩
    simp (disch := first | omega | exact rfl) only [↓u18_0, ↓u18_1, ↓u18_2, ↓u18_3, ↓u18_6, ↓u18_7, ↓u18_8, ↓u18_9, ↓u18_10, ↓u18_11, ↓u18_12, ↓u18_13, ↓u18_16, ↓u18_17, ↓u18_18, ↓u18_20, ↓u18_23, ↓u18_24, ↓u18_25, ↓u18_26, ↓u18_27, ↓u18_28, ↓u18_30, ↓u18_33, ↓u18_34, ↓u18_35, ↓u18_37, ↓u18_40, ↓u18_41, ↓u18_42, ↓u18_43, ↓u18_44, ↓u18_45, ↓u18_47, ↓u18_50, ↓u18_51, ↓u18_52, ↓u18_54, ↓u18_57, ↓u18_58, ↓u18_59, ↓u18_60, ↓u18_61, ↓u18_62, ↓u18_64, ↓u18_67, ↓u18_69, ↓u18_71, ↓u18_74, ↓u18_75, ↓u18_76, ↓u18_77, ↓u18_78, ↓u18_79, ↓u18_81, ↓u18_84, ↓u18_85, ↓u18_86, ↓u18_89, ↓u18_92, ↓u18_93, ↓u18_96, ↓u18_98, ↓u18_101, ↓u18_102, ↓u18_105, ↓u18_106, ↓u18_107, ↓u18_108, ↓u18_109, ↓u18_112, ↓u18_113, ↓u18_116, ↓u18_117, ↓u18_120, ↓u18_121, ↓u18_122, ↓u18_125, ↓u18_126, ↓u18_128, ↓u18_129, ↓u18_132, ↓u18_133, ↓u18_136, ↓u18_139, ↓u18_140, ↓u18_141, ↓u18_142, ↓u18_144, ↓u18_145, ↓u18_148, ↓u18_149, ↓u18_152, ↓u18_155, ↓u18_156, ↓u18_157, ↓lI_0, ↓lI_s, ↓lL_0, ↓lL_s, ↓lR_0, ↓lR_s, ↓sT_0, ↓sT_i, ↓sT_r, ↓sT_u, ↓sT_lu, ↓sU_0, ↓sU_i, ↓sU_r, ↓sU_u, ↓ite_bx, bx_T, bx_F, bx_pos, bx_neg, zws_i, zws_r, zws_l, zws_n, zCb_kc, xl_ll, xr_rr, xs_e, xset_e, Option.toList, List.cons_append, List.nil_append, zIb_e, zrng_e, nz_e, if_pos, if_neg, and_true, true_and, or_true, true_or, ite_self, bi_eq0, bi_eq1, bi_1, bi_0, bi_ir, bi_T, bi_F, up_eq, up_ne, ↓reduceIte, reduceIte, Nat.reduceAdd, Nat.reduceLeDiff, Nat.le_refl, Nat.zero_le, not_true_eq_false, not_false_eq_true, ne_eq, Int.reduceEq, Int.reduceLT, Int.reduceLE, Int.reduceAdd, Int.reduceSub, Int.reduceMul, Int.reduceNeg, pT r1, r2, pT r3, r4, r5, pT r6, r7, pst_4, pst_5, pst_o, up_p4, up_p5, up_po, pT ho, hl, e, e1]
set_option maxRecDepth 8000 in
theorem s18_51 {d : Nat} {G : XS} {tx : Int → Int} {ln o : Int} (hd : 4 ≤ d) (hr : RDR G) (ho : kc G o 7) (hl : ll G o = 8) (hob : 151 ≤ o ∧ o ≤ 158) : ∀ (s : ZS) (p : Int) (w : Int → Int), TXT s tx ln → (0 ≤ p ∧ p ≤ ln) → (∀ c, 0 ≤ c ∧ c < 4 → s o c = w c) → ∃ s2, frs s s2 o ∧ res (c51 tx ln w p) ln s2 o ∧ ∀ Q, Wp d 18 (51, [zrf 148, zrf o, zun], [], (G, pst s p (-1))) Q = Q none (G, s2) := by
  have hr' := hr
  obtain ⟨r1, r2, r3, r4, r5, r6, r7, r8, r9, r10⟩ := hr'
  intro s p w ht hp hw
  have sp := sg_b (p := p) ht
  have l100 := ht.2.1
  unfold c51
  by_cases q : sg tx ln p = 58
  · have hl2 := sg_l (tx := tx) (ln := ln) (p := p) (by omega)
    rw [show sgn tx ln 58 p = (0, p + 1, -1) from if_pos q, bd_y (by omega)]
    obtain ⟨s2, h1, h2, e⟩ := s18_57 hd hr ho hl hob s (p + 1) w ht (by omega) hw
    refine ⟨s2, h1, h2, fun Q => ?_⟩
    simp (disch := first | omega | exact rfl) only [↓u18_0, ↓u18_1, ↓u18_2, ↓u18_3, ↓u18_6, ↓u18_7, ↓u18_8, ↓u18_9, ↓u18_10, ↓u18_11, ↓u18_12, ↓u18_13, ↓u18_16, ↓u18_17, ↓u18_18, ↓u18_20, ↓u18_23, ↓u18_24, ↓u18_25, ↓u18_26, ↓u18_27, ↓u18_28, ↓u18_30, ↓u18_33, ↓u18_34, ↓u18_35, ↓u18_37, ↓u18_40, ↓u18_41, ↓u18_42, ↓u18_43, ↓u18_44, ↓u18_45, ↓u18_47, ↓u18_50, ↓u18_51, ↓u18_52, ↓u18_54, ↓u18_58, ↓u18_59, ↓u18_60, ↓u18_61, ↓u18_62, ↓u18_64, ↓u18_67, ↓u18_68, ↓u18_69, ↓u18_71, ↓u18_74, ↓u18_75, ↓u18_76, ↓u18_77, ↓u18_78, ↓u18_79, ↓u18_81, ↓u18_84, ↓u18_85, ↓u18_86, ↓u18_89, ↓u18_92, ↓u18_93, ↓u18_96, ↓u18_98, ↓u18_101, ↓u18_102, ↓u18_105, ↓u18_106, ↓u18_107, ↓u18_108, ↓u18_109, ↓u18_112, ↓u18_113, ↓u18_116, ↓u18_117, ↓u18_120, ↓u18_121, ↓u18_122, ↓u18_125, ↓u18_126, ↓u18_128, ↓u18_129, ↓u18_132, ↓u18_133, ↓u18_136, ↓u18_139, ↓u18_140, ↓u18_141, ↓u18_142, ↓u18_144, ↓u18_145, ↓u18_148, ↓u18_149, ↓u18_152, ↓u18_155, ↓u18_156, ↓u18_157, ↓lI_0, ↓lI_s, ↓lL_0, ↓lL_s, ↓lR_0, ↓lR_s, ↓sT_0, ↓sT_i, ↓sT_r, ↓sT_u, ↓sT_lu, ↓sU_0, ↓sU_i, ↓sU_r, ↓sU_u, ↓ite_bx, bx_T, bx_F, bx_pos, bx_neg, zws_i, zws_r, zws_l, zws_n, zCb_kc, xl_ll, xr_rr, xs_e, xset_e, Option.toList, List.cons_append, List.nil_append, zIb_e, zrng_e, nz_e, if_pos, if_neg, and_true, true_and, or_true, true_or, ite_self, bi_eq0, bi_eq1, bi_1, bi_0, bi_ir, bi_T, bi_F, up_eq, up_ne, ↓reduceIte, reduceIte, Nat.reduceAdd, Nat.reduceLeDiff, Nat.le_refl, Nat.zero_le, not_true_eq_false, not_false_eq_true, ne_eq, Int.reduceEq, Int.reduceLT, Int.reduceLE, Int.reduceAdd, Int.reduceSub, Int.reduceMul, Int.reduceNeg, pT r1, r2, pT r3, r4, r5, pT r6, r7, pst_4, pst_5, pst_o, up_p4, up_p5, up_po, pT ho, hl, e, s21_y (c := 58) (show 2 ≤ d by omega) hr ht hp (by omega) q]
  · rw [show sgn tx ln 58 p = (0, p, p) from if_neg q, bd_n (by omega)]
    obtain ⟨s2, h1, h2, e⟩ := f18_57 hd hr ho hl hob s p p ht hp hp
    refine ⟨s2, h1, h2, fun Q => ?_⟩
    simp (disch := first | omega | exact rfl) only [↓u18_0, ↓u18_1, ↓u18_2, ↓u18_3, ↓u18_6, ↓u18_7, ↓u18_8, ↓u18_9, ↓u18_10, ↓u18_11, ↓u18_12, ↓u18_13, ↓u18_16, ↓u18_17, ↓u18_18, ↓u18_20, ↓u18_23, ↓u18_24, ↓u18_25, ↓u18_26, ↓u18_27, ↓u18_28, ↓u18_30, ↓u18_33, ↓u18_34, ↓u18_35, ↓u18_37, ↓u18_40, ↓u18_41, ↓u18_42, ↓u18_43, ↓u18_44, ↓u18_45, ↓u18_47, ↓u18_50, ↓u18_51, ↓u18_52, ↓u18_54, ↓u18_58, ↓u18_59, ↓u18_60, ↓u18_61, ↓u18_62, ↓u18_64, ↓u18_67, ↓u18_68, ↓u18_69, ↓u18_71, ↓u18_74, ↓u18_75, ↓u18_76, ↓u18_77, ↓u18_78, ↓u18_79, ↓u18_81, ↓u18_84, ↓u18_85, ↓u18_86, ↓u18_89, ↓u18_92, ↓u18_93, ↓u18_96, ↓u18_98, ↓u18_101, ↓u18_102, ↓u18_105, ↓u18_106, ↓u18_107, ↓u18_108, ↓u18_109, ↓u18_112, ↓u18_113, ↓u18_116, ↓u18_117, ↓u18_120, ↓u18_121, ↓u18_122, ↓u18_125, ↓u18_126, ↓u18_128, ↓u18_129, ↓u18_132, ↓u18_133, ↓u18_136, ↓u18_139, ↓u18_140, ↓u18_141, ↓u18_142, ↓u18_144, ↓u18_145, ↓u18_148, ↓u18_149, ↓u18_152, ↓u18_155, ↓u18_156, ↓u18_157, ↓lI_0, ↓lI_s, ↓lL_0, ↓lL_s, ↓lR_0, ↓lR_s, ↓sT_0, ↓sT_i, ↓sT_r, ↓sT_u, ↓sT_lu, ↓sU_0, ↓sU_i, ↓sU_r, ↓sU_u, ↓ite_bx, bx_T, bx_F, bx_pos, bx_neg, zws_i, zws_r, zws_l, zws_n, zCb_kc, xl_ll, xr_rr, xs_e, xset_e, Option.toList, List.cons_append, List.nil_append, zIb_e, zrng_e, nz_e, if_pos, if_neg, and_true, true_and, or_true, true_or, ite_self, bi_eq0, bi_eq1, bi_1, bi_0, bi_ir, bi_T, bi_F, up_eq, up_ne, ↓reduceIte, reduceIte, Nat.reduceAdd, Nat.reduceLeDiff, Nat.le_refl, Nat.zero_le, not_true_eq_false, not_false_eq_true, ne_eq, Int.reduceEq, Int.reduceLT, Int.reduceLE, Int.reduceAdd, Int.reduceSub, Int.reduceMul, Int.reduceNeg, pT r1, r2, pT r3, r4, r5, pT r6, r7, pst_4, pst_5, pst_o, up_p4, up_p5, up_po, pT ho, hl, e, s21_n (c := 58) (show 2 ≤ d by omega) hr ht hp (by omega) q]
set_option maxRecDepth 8000 in
theorem s18_40 {d : Nat} {G : XS} {tx : Int → Int} {ln o : Int} (hd : 4 ≤ d) (hr : RDR G) (ho : kc G o 7) (hl : ll G o = 8) (hob : 151 ≤ o ∧ o ≤ 158) : ∀ (s : ZS) (p : Int) (w : Int → Int), TXT s tx ln → (0 ≤ p ∧ p ≤ ln) → (∀ c, 0 ≤ c ∧ c < 3 → s o c = w c) → ∃ s2, frs s s2 o ∧ res (c40 tx ln w p) ln s2 o ∧ ∀ Q, Wp d 18 (40, [zrf 148, zrf o, zun], [], (G, pst s p (-1))) Q = Q none (G, s2) := by
  have hr' := hr
  obtain ⟨r1, r2, r3, r4, r5, r6, r7, r8, r9, r10⟩ := hr'
  intro s p w ht hp hw
  have sp := sg_b (p := p) ht
  have l100 := ht.2.1
  unfold c40
  obtain ⟨v, p1, f1, hv⟩ : ∃ v p1 f1, nmq tx ln 0 127 3 0 0 p = (v, p1, f1) := ⟨_, _, _, rfl⟩
  have hb := nmq_b (tx := tx) (ln := ln) (le := 0) (mo := 127) (by omega) (by omega) 3 0 0 p _ (Int.le_refl 0) (by omega) hp (by omega) hv
  dsimp only at hb
  have e1 := fun Q => s24_y (d := d) (Q := Q) (n := 3) (md := 3) (le := 0) (mo := 127) (by omega) hr ht hp (by omega) (by omega) (by omega) rfl hv
  have ht2 := TXT_u (a := o) (c := 3) (v := v) ht (by omega) (by omega)
  rw [hv]
  by_cases q1 : f1 < 0
  · have q1' : f1 = -1 := by omega
    subst q1'
    rw [bd_y q1]
    obtain ⟨s2, h1, h2, e⟩ := s18_51 hd hr ho hl hob (up s o 3 v) p1 (wup w 3 v) ht2 (by omega) (row_u hw)
    refine ⟨s2, frs_u h1, h2, fun Q => ?_⟩
    simp (disch := first | omega | exact rfl) only [↓u18_0, ↓u18_1, ↓u18_2, ↓u18_3, ↓u18_6, ↓u18_7, ↓u18_8, ↓u18_9, ↓u18_10, ↓u18_11, ↓u18_12, ↓u18_13, ↓u18_16, ↓u18_17, ↓u18_18, ↓u18_20, ↓u18_23, ↓u18_24, ↓u18_25, ↓u18_26, ↓u18_27, ↓u18_28, ↓u18_30, ↓u18_33, ↓u18_34, ↓u18_35, ↓u18_37, ↓u18_40, ↓u18_41, ↓u18_42, ↓u18_43, ↓u18_44, ↓u18_45, ↓u18_47, ↓u18_50, ↓u18_52, ↓u18_54, ↓u18_57, ↓u18_58, ↓u18_59, ↓u18_60, ↓u18_61, ↓u18_62, ↓u18_64, ↓u18_67, ↓u18_68, ↓u18_69, ↓u18_71, ↓u18_74, ↓u18_75, ↓u18_76, ↓u18_77, ↓u18_78, ↓u18_79, ↓u18_81, ↓u18_84, ↓u18_85, ↓u18_86, ↓u18_89, ↓u18_92, ↓u18_93, ↓u18_96, ↓u18_98, ↓u18_101, ↓u18_102, ↓u18_105, ↓u18_106, ↓u18_107, ↓u18_108, ↓u18_109, ↓u18_112, ↓u18_113, ↓u18_116, ↓u18_117, ↓u18_120, ↓u18_121, ↓u18_122, ↓u18_125, ↓u18_126, ↓u18_128, ↓u18_129, ↓u18_132, ↓u18_133, ↓u18_136, ↓u18_139, ↓u18_140, ↓u18_141, ↓u18_142, ↓u18_144, ↓u18_145, ↓u18_148, ↓u18_149, ↓u18_152, ↓u18_155, ↓u18_156, ↓u18_157, ↓lI_0, ↓lI_s, ↓lL_0, ↓lL_s, ↓lR_0, ↓lR_s, ↓sT_0, ↓sT_i, ↓sT_r, ↓sT_u, ↓sT_lu, ↓sU_0, ↓sU_i, ↓sU_r, ↓sU_u, ↓ite_bx, bx_T, bx_F, bx_pos, bx_neg, zws_i, zws_r, zws_l, zws_n, zCb_kc, xl_ll, xr_rr, xs_e, xset_e, Option.toList, List.cons_append, List.nil_append, zIb_e, zrng_e, nz_e, if_pos, if_neg, and_true, true_and, or_true, true_or, ite_self, bi_eq0, bi_eq1, bi_1, bi_0, bi_ir, bi_T, bi_F, up_eq, up_ne, ↓reduceIte, reduceIte, Nat.reduceAdd, Nat.reduceLeDiff, Nat.le_refl, Nat.zero_le, not_true_eq_false, not_false_eq_true, ne_eq, Int.reduceEq, Int.reduceLT, Int.reduceLE, Int.reduceAdd, Int.reduceSub, Int.reduceMul, Int.reduceNeg, pT r1, r2, pT r3, r4, r5, pT r6, r7, pst_4, pst_5, pst_o, up_p4, up_p5, up_po, pT ho, hl, e, e1]
  · rw [bd_n q1]
    obtain ⟨s2, h1, h2, e⟩ := f18_51 hd hr ho hl hob (up s o 3 v) p1 f1 ht2 (by omega) (by omega)
    refine ⟨s2, frs_u h1, h2, fun Q => ?_⟩
    simp (disch := first | omega | exact rfl) only [↓u18_0, ↓u18_1, ↓u18_2, ↓u18_3, ↓u18_6, ↓u18_7, ↓u18_8, ↓u18_9, ↓u18_10, ↓u18_11, ↓u18_12, ↓u18_13, ↓u18_16, ↓u18_17, ↓u18_18, ↓u18_20, ↓u18_23, ↓u18_24, ↓u18_25, ↓u18_26, ↓u18_27, ↓u18_28, ↓u18_30, ↓u18_33, ↓u18_34, ↓u18_35, ↓u18_37, ↓u18_40, ↓u18_41, ↓u18_42, ↓u18_43, ↓u18_44, ↓u18_45, ↓u18_47, ↓u18_50, ↓u18_52, ↓u18_54, ↓u18_57, ↓u18_58, ↓u18_59, ↓u18_60, ↓u18_61, ↓u18_62, ↓u18_64, ↓u18_67, ↓u18_68, ↓u18_69, ↓u18_71, ↓u18_74, ↓u18_75, ↓u18_76, ↓u18_77, ↓u18_78, ↓u18_79, ↓u18_81, ↓u18_84, ↓u18_85, ↓u18_86, ↓u18_89, ↓u18_92, ↓u18_93, ↓u18_96, ↓u18_98, ↓u18_101, ↓u18_102, ↓u18_105, ↓u18_106, ↓u18_107, ↓u18_108, ↓u18_109, ↓u18_112, ↓u18_113, ↓u18_116, ↓u18_117, ↓u18_120, ↓u18_121, ↓u18_122, ↓u18_125, ↓u18_126, ↓u18_128, ↓u18_129, ↓u18_132, ↓u18_133, ↓u18_136, ↓u18_139, ↓u18_140, ↓u18_141, ↓u18_142, ↓u18_144, ↓u18_145, ↓u18_148, ↓u18_149, ↓u18_152, ↓u18_155, ↓u18_156, ↓u18_157, ↓lI_0, ↓lI_s, ↓lL_0, ↓lL_s, ↓lR_0, ↓lR_s, ↓sT_0, ↓sT_i, ↓sT_r, ↓sT_u, ↓sT_lu, ↓sU_0, ↓sU_i, ↓sU_r, ↓sU_u, ↓ite_bx, bx_T, bx_F, bx_pos, bx_neg, zws_i, zws_r, zws_l, zws_n, zCb_kc, xl_ll, xr_rr, xs_e, xset_e, Option.toList, List.cons_append, List.nil_append, zIb_e, zrng_e, nz_e, if_pos, if_neg, and_true, true_and, or_true, true_or, ite_self, bi_eq0, bi_eq1, bi_1, bi_0, bi_ir, bi_T, bi_F, up_eq, up_ne, ↓reduceIte, reduceIte, Nat.reduceAdd, Nat.reduceLeDiff, Nat.le_refl, Nat.zero_le, not_true_eq_false, not_false_eq_true, ne_eq, Int.reduceEq, Int.reduceLT, Int.reduceLE, Int.reduceAdd, Int.reduceSub, Int.reduceMul, Int.reduceNeg, pT r1, r2, pT r3, r4, r5, pT r6, r7, pst_4, pst_5, pst_o, up_p4, up_p5, up_po, pT ho, hl, e, e1]
set_option maxRecDepth 8000 in
theorem s18_34 {d : Nat} {G : XS} {tx : Int → Int} {ln o : Int} (hd : 4 ≤ d) (hr : RDR G) (ho : kc G o 7) (hl : ll G o = 8) (hob : 151 ≤ o ∧ o ≤ 158) : ∀ (s : ZS) (p : Int) (w : Int → Int), TXT s tx ln → (0 ≤ p ∧ p ≤ ln) → (∀ c, 0 ≤ c ∧ c < 3 → s o c = w c) → ∃ s2, frs s s2 o ∧ res (c34 tx ln w p) ln s2 o ∧ ∀ Q, Wp d 18 (34, [zrf 148, zrf o, zun], [], (G, pst s p (-1))) Q = Q none (G, s2) := by
  have hr' := hr
  obtain ⟨r1, r2, r3, r4, r5, r6, r7, r8, r9, r10⟩ := hr'
  intro s p w ht hp hw
  have sp := sg_b (p := p) ht
  have l100 := ht.2.1
  unfold c34
  by_cases q : sg tx ln p = 44
  · have hl2 := sg_l (tx := tx) (ln := ln) (p := p) (by omega)
    rw [show sgn tx ln 44 p = (0, p + 1, -1) from if_pos q, bd_y (by omega)]
    obtain ⟨s2, h1, h2, e⟩ := s18_40 hd hr ho hl hob s (p + 1) w ht (by omega) hw
    refine ⟨s2, h1, h2, fun Q => ?_⟩
    simp (disch := first | omega | exact rfl) only [↓u18_0, ↓u18_1, ↓u18_2, ↓u18_3, ↓u18_6, ↓u18_7, ↓u18_8, ↓u18_9, ↓u18_10, ↓u18_11, ↓u18_12, ↓u18_13, ↓u18_16, ↓u18_17, ↓u18_18, ↓u18_20, ↓u18_23, ↓u18_24, ↓u18_25, ↓u18_26, ↓u18_27, ↓u18_28, ↓u18_30, ↓u18_33, ↓u18_34, ↓u18_35, ↓u18_37, ↓u18_41, ↓u18_42, ↓u18_43, ↓u18_44, ↓u18_45, ↓u18_47, ↓u18_50, ↓u18_51, ↓u18_52, ↓u18_54, ↓u18_57, ↓u18_58, ↓u18_59, ↓u18_60, ↓u18_61, ↓u18_62, ↓u18_64, ↓u18_67, ↓u18_68, ↓u18_69, ↓u18_71, ↓u18_74, ↓u18_75, ↓u18_76, ↓u18_77, ↓u18_78, ↓u18_79, ↓u18_81, ↓u18_84, ↓u18_85, ↓u18_86, ↓u18_89, ↓u18_92, ↓u18_93, ↓u18_96, ↓u18_98, ↓u18_101, ↓u18_102, ↓u18_105, ↓u18_106, ↓u18_107, ↓u18_108, ↓u18_109, ↓u18_112, ↓u18_113, ↓u18_116, ↓u18_117, ↓u18_120, ↓u18_121, ↓u18_122, ↓u18_125, ↓u18_126, ↓u18_128, ↓u18_129, ↓u18_132, ↓u18_133, ↓u18_136, ↓u18_139, ↓u18_140, ↓u18_141, ↓u18_142, ↓u18_144, ↓u18_145, ↓u18_148, ↓u18_149, ↓u18_152, ↓u18_155, ↓u18_156, ↓u18_157, ↓lI_0, ↓lI_s, ↓lL_0, ↓lL_s, ↓lR_0, ↓lR_s, ↓sT_0, ↓sT_i, ↓sT_r, ↓sT_u, ↓sT_lu, ↓sU_0, ↓sU_i, ↓sU_r, ↓sU_u, ↓ite_bx, bx_T, bx_F, bx_pos, bx_neg, zws_i, zws_r, zws_l, zws_n, zCb_kc, xl_ll, xr_rr, xs_e, xset_e, Option.toList, List.cons_append, List.nil_append, zIb_e, zrng_e, nz_e, if_pos, if_neg, and_true, true_and, or_true, true_or, ite_self, bi_eq0, bi_eq1, bi_1, bi_0, bi_ir, bi_T, bi_F, up_eq, up_ne, ↓reduceIte, reduceIte, Nat.reduceAdd, Nat.reduceLeDiff, Nat.le_refl, Nat.zero_le, not_true_eq_false, not_false_eq_true, ne_eq, Int.reduceEq, Int.reduceLT, Int.reduceLE, Int.reduceAdd, Int.reduceSub, Int.reduceMul, Int.reduceNeg, pT r1, r2, pT r3, r4, r5, pT r6, r7, pst_4, pst_5, pst_o, up_p4, up_p5, up_po, pT ho, hl, e, s21_y (c := 44) (show 2 ≤ d by omega) hr ht hp (by omega) q]
  · rw [show sgn tx ln 44 p = (0, p, p) from if_neg q, bd_n (by omega)]
    obtain ⟨s2, h1, h2, e⟩ := f18_40 hd hr ho hl hob s p p ht hp hp
    refine ⟨s2, h1, h2, fun Q => ?_⟩
    simp (disch := first | omega | exact rfl) only [↓u18_0, ↓u18_1, ↓u18_2, ↓u18_3, ↓u18_6, ↓u18_7, ↓u18_8, ↓u18_9, ↓u18_10, ↓u18_11, ↓u18_12, ↓u18_13, ↓u18_16, ↓u18_17, ↓u18_18, ↓u18_20, ↓u18_23, ↓u18_24, ↓u18_25, ↓u18_26, ↓u18_27, ↓u18_28, ↓u18_30, ↓u18_33, ↓u18_34, ↓u18_35, ↓u18_37, ↓u18_41, ↓u18_42, ↓u18_43, ↓u18_44, ↓u18_45, ↓u18_47, ↓u18_50, ↓u18_51, ↓u18_52, ↓u18_54, ↓u18_57, ↓u18_58, ↓u18_59, ↓u18_60, ↓u18_61, ↓u18_62, ↓u18_64, ↓u18_67, ↓u18_68, ↓u18_69, ↓u18_71, ↓u18_74, ↓u18_75, ↓u18_76, ↓u18_77, ↓u18_78, ↓u18_79, ↓u18_81, ↓u18_84, ↓u18_85, ↓u18_86, ↓u18_89, ↓u18_92, ↓u18_93, ↓u18_96, ↓u18_98, ↓u18_101, ↓u18_102, ↓u18_105, ↓u18_106, ↓u18_107, ↓u18_108, ↓u18_109, ↓u18_112, ↓u18_113, ↓u18_116, ↓u18_117, ↓u18_120, ↓u18_121, ↓u18_122, ↓u18_125, ↓u18_126, ↓u18_128, ↓u18_129, ↓u18_132, ↓u18_133, ↓u18_136, ↓u18_139, ↓u18_140, ↓u18_141, ↓u18_142, ↓u18_144, ↓u18_145, ↓u18_148, ↓u18_149, ↓u18_152, ↓u18_155, ↓u18_156, ↓u18_157, ↓lI_0, ↓lI_s, ↓lL_0, ↓lL_s, ↓lR_0, ↓lR_s, ↓sT_0, ↓sT_i, ↓sT_r, ↓sT_u, ↓sT_lu, ↓sU_0, ↓sU_i, ↓sU_r, ↓sU_u, ↓ite_bx, bx_T, bx_F, bx_pos, bx_neg, zws_i, zws_r, zws_l, zws_n, zCb_kc, xl_ll, xr_rr, xs_e, xset_e, Option.toList, List.cons_append, List.nil_append, zIb_e, zrng_e, nz_e, if_pos, if_neg, and_true, true_and, or_true, true_or, ite_self, bi_eq0, bi_eq1, bi_1, bi_0, bi_ir, bi_T, bi_F, up_eq, up_ne, ↓reduceIte, reduceIte, Nat.reduceAdd, Nat.reduceLeDiff, Nat.le_refl, Nat.zero_le, not_true_eq_false, not_false_eq_true, ne_eq, Int.reduceEq, Int.reduceLT, Int.reduceLE, Int.reduceAdd, Int.reduceSub, Int.reduceMul, Int.reduceNeg, pT r1, r2, pT r3, r4, r5, pT r6, r7, pst_4, pst_5, pst_o, up_p4, up_p5, up_po, pT ho, hl, e, s21_n (c := 44) (show 2 ≤ d by omega) hr ht hp (by omega) q]
set_option maxRecDepth 8000 in
theorem s18_23 {d : Nat} {G : XS} {tx : Int → Int} {ln o : Int} (hd : 4 ≤ d) (hr : RDR G) (ho : kc G o 7) (hl : ll G o = 8) (hob : 151 ≤ o ∧ o ≤ 158) : ∀ (s : ZS) (p : Int) (w : Int → Int), TXT s tx ln → (0 ≤ p ∧ p ≤ ln) → (∀ c, 0 ≤ c ∧ c < 2 → s o c = w c) → ∃ s2, frs s s2 o ∧ res (c23 tx ln w p) ln s2 o ∧ ∀ Q, Wp d 18 (23, [zrf 148, zrf o, zun], [], (G, pst s p (-1))) Q = Q none (G, s2) := by
  have hr' := hr
  obtain ⟨r1, r2, r3, r4, r5, r6, r7, r8, r9, r10⟩ := hr'
  intro s p w ht hp hw
  have sp := sg_b (p := p) ht
  have l100 := ht.2.1
  unfold c23
  obtain ⟨v, p1, f1, hv⟩ : ∃ v p1 f1, nmq tx ln 0 127 3 0 0 p = (v, p1, f1) := ⟨_, _, _, rfl⟩
  have hb := nmq_b (tx := tx) (ln := ln) (le := 0) (mo := 127) (by omega) (by omega) 3 0 0 p _ (Int.le_refl 0) (by omega) hp (by omega) hv
  dsimp only at hb
  have e1 := fun Q => s24_y (d := d) (Q := Q) (n := 3) (md := 3) (le := 0) (mo := 127) (by omega) hr ht hp (by omega) (by omega) (by omega) rfl hv
  have ht2 := TXT_u (a := o) (c := 2) (v := v) ht (by omega) (by omega)
  rw [hv]
  by_cases q1 : f1 < 0
  · have q1' : f1 = -1 := by omega
    subst q1'
    rw [bd_y q1]
    obtain ⟨s2, h1, h2, e⟩ := s18_34 hd hr ho hl hob (up s o 2 v) p1 (wup w 2 v) ht2 (by omega) (row_u hw)
    refine ⟨s2, frs_u h1, h2, fun Q => ?_⟩
    simp (disch := first | omega | exact rfl) only [↓u18_0, ↓u18_1, ↓u18_2, ↓u18_3, ↓u18_6, ↓u18_7, ↓u18_8, ↓u18_9, ↓u18_10, ↓u18_11, ↓u18_12, ↓u18_13, ↓u18_16, ↓u18_17, ↓u18_18, ↓u18_20, ↓u18_23, ↓u18_24, ↓u18_25, ↓u18_26, ↓u18_27, ↓u18_28, ↓u18_30, ↓u18_33, ↓u18_35, ↓u18_37, ↓u18_40, ↓u18_41, ↓u18_42, ↓u18_43, ↓u18_44, ↓u18_45, ↓u18_47, ↓u18_50, ↓u18_51, ↓u18_52, ↓u18_54, ↓u18_57, ↓u18_58, ↓u18_59, ↓u18_60, ↓u18_61, ↓u18_62, ↓u18_64, ↓u18_67, ↓u18_68, ↓u18_69, ↓u18_71, ↓u18_74, ↓u18_75, ↓u18_76, ↓u18_77, ↓u18_78, ↓u18_79, ↓u18_81, ↓u18_84, ↓u18_85, ↓u18_86, ↓u18_89, ↓u18_92, ↓u18_93, ↓u18_96, ↓u18_98, ↓u18_101, ↓u18_102, ↓u18_105, ↓u18_106, ↓u18_107, ↓u18_108, ↓u18_109, ↓u18_112, ↓u18_113, ↓u18_116, ↓u18_117, ↓u18_120, ↓u18_121, ↓u18_122, ↓u18_125, ↓u18_126, ↓u18_128, ↓u18_129, ↓u18_132, ↓u18_133, ↓u18_136, ↓u18_139, ↓u18_140, ↓u18_141, ↓u18_142, ↓u18_144, ↓u18_145, ↓u18_148, ↓u18_149, ↓u18_152, ↓u18_155, ↓u18_156, ↓u18_157, ↓lI_0, ↓lI_s, ↓lL_0, ↓lL_s, ↓lR_0, ↓lR_s, ↓sT_0, ↓sT_i, ↓sT_r, ↓sT_u, ↓sT_lu, ↓sU_0, ↓sU_i, ↓sU_r, ↓sU_u, ↓ite_bx, bx_T, bx_F, bx_pos, bx_neg, zws_i, zws_r, zws_l, zws_n, zCb_kc, xl_ll, xr_rr, xs_e, xset_e, Option.toList, List.cons_append, List.nil_append, zIb_e, zrng_e, nz_e, if_pos, if_neg, and_true, true_and, or_true, true_or, ite_self, bi_eq0, bi_eq1, bi_1, bi_0, bi_ir, bi_T, bi_F, up_eq, up_ne, ↓reduceIte, reduceIte, Nat.reduceAdd, Nat.reduceLeDiff, Nat.le_refl, Nat.zero_le, not_true_eq_false, not_false_eq_true, ne_eq, Int.reduceEq, Int.reduceLT, Int.reduceLE, Int.reduceAdd, Int.reduceSub, Int.reduceMul, Int.reduceNeg, pT r1, r2, pT r3, r4, r5, pT r6, r7, pst_4, pst_5, pst_o, up_p4, up_p5, up_po, pT ho, hl, e, e1]
  · rw [bd_n q1]
    obtain ⟨s2, h1, h2, e⟩ := f18_34 hd hr ho hl hob (up s o 2 v) p1 f1 ht2 (by omega) (by omega)
    refine ⟨s2, frs_u h1, h2, fun Q => ?_⟩
    simp (disch := first | omega | exact rfl) only [↓u18_0, ↓u18_1, ↓u18_2, ↓u18_3, ↓u18_6, ↓u18_7, ↓u18_8, ↓u18_9, ↓u18_10, ↓u18_11, ↓u18_12, ↓u18_13, ↓u18_16, ↓u18_17, ↓u18_18, ↓u18_20, ↓u18_23, ↓u18_24, ↓u18_25, ↓u18_26, ↓u18_27, ↓u18_28, ↓u18_30, ↓u18_33, ↓u18_35, ↓u18_37, ↓u18_40, ↓u18_41, ↓u18_42, ↓u18_43, ↓u18_44, ↓u18_45, ↓u18_47, ↓u18_50, ↓u18_51, ↓u18_52, ↓u18_54, ↓u18_57, ↓u18_58, ↓u18_59, ↓u18_60, ↓u18_61, ↓u18_62, ↓u18_64, ↓u18_67, ↓u18_68, ↓u18_69, ↓u18_71, ↓u18_74, ↓u18_75, ↓u18_76, ↓u18_77, ↓u18_78, ↓u18_79, ↓u18_81, ↓u18_84, ↓u18_85, ↓u18_86, ↓u18_89, ↓u18_92, ↓u18_93, ↓u18_96, ↓u18_98, ↓u18_101, ↓u18_102, ↓u18_105, ↓u18_106, ↓u18_107, ↓u18_108, ↓u18_109, ↓u18_112, ↓u18_113, ↓u18_116, ↓u18_117, ↓u18_120, ↓u18_121, ↓u18_122, ↓u18_125, ↓u18_126, ↓u18_128, ↓u18_129, ↓u18_132, ↓u18_133, ↓u18_136, ↓u18_139, ↓u18_140, ↓u18_141, ↓u18_142, ↓u18_144, ↓u18_145, ↓u18_148, ↓u18_149, ↓u18_152, ↓u18_155, ↓u18_156, ↓u18_157, ↓lI_0, ↓lI_s, ↓lL_0, ↓lL_s, ↓lR_0, ↓lR_s, ↓sT_0, ↓sT_i, ↓sT_r, ↓sT_u, ↓sT_lu, ↓sU_0, ↓sU_i, ↓sU_r, ↓sU_u, ↓ite_bx, bx_T, bx_F, bx_pos, bx_neg, zws_i, zws_r, zws_l, zws_n, zCb_kc, xl_ll, xr_rr, xs_e, xset_e, Option.toList, List.cons_append, List.nil_append, zIb_e, zrng_e, nz_e, if_pos, if_neg, and_true, true_and, or_true, true_or, ite_self, bi_eq0, bi_eq1, bi_1, bi_0, bi_ir, bi_T, bi_F, up_eq, up_ne, ↓reduceIte, reduceIte, Nat.reduceAdd, Nat.reduceLeDiff, Nat.le_refl, Nat.zero_le, not_true_eq_false, not_false_eq_true, ne_eq, Int.reduceEq, Int.reduceLT, Int.reduceLE, Int.reduceAdd, Int.reduceSub, Int.reduceMul, Int.reduceNeg, pT r1, r2, pT r3, r4, r5, pT r6, r7, pst_4, pst_5, pst_o, up_p4, up_p5, up_po, pT ho, hl, e, e1]
set_option maxRecDepth 8000 in
theorem s18_17 {d : Nat} {G : XS} {tx : Int → Int} {ln o : Int} (hd : 4 ≤ d) (hr : RDR G) (ho : kc G o 7) (hl : ll G o = 8) (hob : 151 ≤ o ∧ o ≤ 158) : ∀ (s : ZS) (p : Int) (w : Int → Int), TXT s tx ln → (0 ≤ p ∧ p ≤ ln) → (∀ c, 0 ≤ c ∧ c < 2 → s o c = w c) → ∃ s2, frs s s2 o ∧ res (c17 tx ln w p) ln s2 o ∧ ∀ Q, Wp d 18 (17, [zrf 148, zrf o, zun], [], (G, pst s p (-1))) Q = Q none (G, s2) := by
  have hr' := hr
  obtain ⟨r1, r2, r3, r4, r5, r6, r7, r8, r9, r10⟩ := hr'
  intro s p w ht hp hw
  have sp := sg_b (p := p) ht
  have l100 := ht.2.1
  unfold c17
  by_cases q : sg tx ln p = 44
  · have hl2 := sg_l (tx := tx) (ln := ln) (p := p) (by omega)
    rw [show sgn tx ln 44 p = (0, p + 1, -1) from if_pos q, bd_y (by omega)]
    obtain ⟨s2, h1, h2, e⟩ := s18_23 hd hr ho hl hob s (p + 1) w ht (by omega) hw
    refine ⟨s2, h1, h2, fun Q => ?_⟩
    simp (disch := first | omega | exact rfl) only [↓u18_0, ↓u18_1, ↓u18_2, ↓u18_3, ↓u18_6, ↓u18_7, ↓u18_8, ↓u18_9, ↓u18_10, ↓u18_11, ↓u18_12, ↓u18_13, ↓u18_16, ↓u18_17, ↓u18_18, ↓u18_20, ↓u18_24, ↓u18_25, ↓u18_26, ↓u18_27, ↓u18_28, ↓u18_30, ↓u18_33, ↓u18_34, ↓u18_35, ↓u18_37, ↓u18_40, ↓u18_41, ↓u18_42, ↓u18_43, ↓u18_44, ↓u18_45, ↓u18_47, ↓u18_50, ↓u18_51, ↓u18_52, ↓u18_54, ↓u18_57, ↓u18_58, ↓u18_59, ↓u18_60, ↓u18_61, ↓u18_62, ↓u18_64, ↓u18_67, ↓u18_68, ↓u18_69, ↓u18_71, ↓u18_74, ↓u18_75, ↓u18_76, ↓u18_77, ↓u18_78, ↓u18_79, ↓u18_81, ↓u18_84, ↓u18_85, ↓u18_86, ↓u18_89, ↓u18_92, ↓u18_93, ↓u18_96, ↓u18_98, ↓u18_101, ↓u18_102, ↓u18_105, ↓u18_106, ↓u18_107, ↓u18_108, ↓u18_109, ↓u18_112, ↓u18_113, ↓u18_116, ↓u18_117, ↓u18_120, ↓u18_121, ↓u18_122, ↓u18_125, ↓u18_126, ↓u18_128, ↓u18_129, ↓u18_132, ↓u18_133, ↓u18_136, ↓u18_139, ↓u18_140, ↓u18_141, ↓u18_142, ↓u18_144, ↓u18_145, ↓u18_148, ↓u18_149, ↓u18_152, ↓u18_155, ↓u18_156, ↓u18_157, ↓lI_0, ↓lI_s, ↓lL_0, ↓lL_s, ↓lR_0, ↓lR_s, ↓sT_0, ↓sT_i, ↓sT_r, ↓sT_u, ↓sT_lu, ↓sU_0, ↓sU_i, ↓sU_r, ↓sU_u, ↓ite_bx, bx_T, bx_F, bx_pos, bx_neg, zws_i, zws_r, zws_l, zws_n, zCb_kc, xl_ll, xr_rr, xs_e, xset_e, Option.toList, List.cons_append, List.nil_append, zIb_e, zrng_e, nz_e, if_pos, if_neg, and_true, true_and, or_true, true_or, ite_self, bi_eq0, bi_eq1, bi_1, bi_0, bi_ir, bi_T, bi_F, up_eq, up_ne, ↓reduceIte, reduceIte, Nat.reduceAdd, Nat.reduceLeDiff, Nat.le_refl, Nat.zero_le, not_true_eq_false, not_false_eq_true, ne_eq, Int.reduceEq, Int.reduceLT, Int.reduceLE, Int.reduceAdd, Int.reduceSub, Int.reduceMul, Int.reduceNeg, pT r1, r2, pT r3, r4, r5, pT r6, r7, pst_4, pst_5, pst_o, up_p4, up_p5, up_po, pT ho, hl, e, s21_y (c := 44) (show 2 ≤ d by omega) hr ht hp (by omega) q]
  · rw [show sgn tx ln 44 p = (0, p, p) from if_neg q, bd_n (by omega)]
    obtain ⟨s2, h1, h2, e⟩ := f18_23 hd hr ho hl hob s p p ht hp hp
    refine ⟨s2, h1, h2, fun Q => ?_⟩
    simp (disch := first | omega | exact rfl) only [↓u18_0, ↓u18_1, ↓u18_2, ↓u18_3, ↓u18_6, ↓u18_7, ↓u18_8, ↓u18_9, ↓u18_10, ↓u18_11, ↓u18_12, ↓u18_13, ↓u18_16, ↓u18_17, ↓u18_18, ↓u18_20, ↓u18_24, ↓u18_25, ↓u18_26, ↓u18_27, ↓u18_28, ↓u18_30, ↓u18_33, ↓u18_34, ↓u18_35, ↓u18_37, ↓u18_40, ↓u18_41, ↓u18_42, ↓u18_43, ↓u18_44, ↓u18_45, ↓u18_47, ↓u18_50, ↓u18_51, ↓u18_52, ↓u18_54, ↓u18_57, ↓u18_58, ↓u18_59, ↓u18_60, ↓u18_61, ↓u18_62, ↓u18_64, ↓u18_67, ↓u18_68, ↓u18_69, ↓u18_71, ↓u18_74, ↓u18_75, ↓u18_76, ↓u18_77, ↓u18_78, ↓u18_79, ↓u18_81, ↓u18_84, ↓u18_85, ↓u18_86, ↓u18_89, ↓u18_92, ↓u18_93, ↓u18_96, ↓u18_98, ↓u18_101, ↓u18_102, ↓u18_105, ↓u18_106, ↓u18_107, ↓u18_108, ↓u18_109, ↓u18_112, ↓u18_113, ↓u18_116, ↓u18_117, ↓u18_120, ↓u18_121, ↓u18_122, ↓u18_125, ↓u18_126, ↓u18_128, ↓u18_129, ↓u18_132, ↓u18_133, ↓u18_136, ↓u18_139, ↓u18_140, ↓u18_141, ↓u18_142, ↓u18_144, ↓u18_145, ↓u18_148, ↓u18_149, ↓u18_152, ↓u18_155, ↓u18_156, ↓u18_157, ↓lI_0, ↓lI_s, ↓lL_0, ↓lL_s, ↓lR_0, ↓lR_s, ↓sT_0, ↓sT_i, ↓sT_r, ↓sT_u, ↓sT_lu, ↓sU_0, ↓sU_i, ↓sU_r, ↓sU_u, ↓ite_bx, bx_T, bx_F, bx_pos, bx_neg, zws_i, zws_r, zws_l, zws_n, zCb_kc, xl_ll, xr_rr, xs_e, xset_e, Option.toList, List.cons_append, List.nil_append, zIb_e, zrng_e, nz_e, if_pos, if_neg, and_true, true_and, or_true, true_or, ite_self, bi_eq0, bi_eq1, bi_1, bi_0, bi_ir, bi_T, bi_F, up_eq, up_ne, ↓reduceIte, reduceIte, Nat.reduceAdd, Nat.reduceLeDiff, Nat.le_refl, Nat.zero_le, not_true_eq_false, not_false_eq_true, ne_eq, Int.reduceEq, Int.reduceLT, Int.reduceLE, Int.reduceAdd, Int.reduceSub, Int.reduceMul, Int.reduceNeg, pT r1, r2, pT r3, r4, r5, pT r6, r7, pst_4, pst_5, pst_o, up_p4, up_p5, up_po, pT ho, hl, e, s21_n (c := 44) (show 2 ≤ d by omega) hr ht hp (by omega) q]
set_option maxRecDepth 8000 in
theorem s18_7 {d : Nat} {G : XS} {tx : Int → Int} {ln o : Int} (hd : 4 ≤ d) (hr : RDR G) (ho : kc G o 7) (hl : ll G o = 8) (hob : 151 ≤ o ∧ o ≤ 158) : ∀ (s : ZS) (p : Int) (w : Int → Int), TXT s tx ln → (0 ≤ p ∧ p ≤ ln) → (∀ c, 0 ≤ c ∧ c < 1 → s o c = w c) → ∃ s2, frs s s2 o ∧ res (c7 tx ln w p) ln s2 o ∧ ∀ Q, Wp d 18 (7, [zrf 148, zrf o, zun], [], (G, pst s p (-1))) Q = Q none (G, s2) := by
  have hr' := hr
  obtain ⟨r1, r2, r3, r4, r5, r6, r7, r8, r9, r10⟩ := hr'
  intro s p w ht hp hw
  have sp := sg_b (p := p) ht
  have l100 := ht.2.1
  unfold c7
  obtain ⟨v, p1, f1, hv⟩ : ∃ v p1 f1, nmq tx ln 0 1 1 0 0 p = (v, p1, f1) := ⟨_, _, _, rfl⟩
  have hb := nmq_b (tx := tx) (ln := ln) (le := 0) (mo := 1) (by omega) (by omega) 1 0 0 p _ (Int.le_refl 0) (by omega) hp (by omega) hv
  dsimp only at hb
  have e1 := fun Q => s24_y (d := d) (Q := Q) (n := 1) (md := 1) (le := 0) (mo := 1) (by omega) hr ht hp (by omega) (by omega) (by omega) rfl hv
  have ht2 := TXT_u (a := o) (c := 1) (v := v) ht (by omega) (by omega)
  rw [hv]
  by_cases q1 : f1 < 0
  · have q1' : f1 = -1 := by omega
    subst q1'
    rw [bd_y q1]
    obtain ⟨s2, h1, h2, e⟩ := s18_17 hd hr ho hl hob (up s o 1 v) p1 (wup w 1 v) ht2 (by omega) (row_u hw)
    refine ⟨s2, frs_u h1, h2, fun Q => ?_⟩
    simp (disch := first | omega | exact rfl) only [↓u18_0, ↓u18_1, ↓u18_2, ↓u18_3, ↓u18_6, ↓u18_7, ↓u18_8, ↓u18_9, ↓u18_10, ↓u18_11, ↓u18_12, ↓u18_13, ↓u18_16, ↓u18_18, ↓u18_20, ↓u18_23, ↓u18_24, ↓u18_25, ↓u18_26, ↓u18_27, ↓u18_28, ↓u18_30, ↓u18_33, ↓u18_34, ↓u18_35, ↓u18_37, ↓u18_40, ↓u18_41, ↓u18_42, ↓u18_43, ↓u18_44, ↓u18_45, ↓u18_47, ↓u18_50, ↓u18_51, ↓u18_52, ↓u18_54, ↓u18_57, ↓u18_58, ↓u18_59, ↓u18_60, ↓u18_61, ↓u18_62, ↓u18_64, ↓u18_67, ↓u18_68, ↓u18_69, ↓u18_71, ↓u18_74, ↓u18_75, ↓u18_76, ↓u18_77, ↓u18_78, ↓u18_79, ↓u18_81, ↓u18_84, ↓u18_85, ↓u18_86, ↓u18_89, ↓u18_92, ↓u18_93, ↓u18_96, ↓u18_98, ↓u18_101, ↓u18_102, ↓u18_105, ↓u18_106, ↓u18_107, ↓u18_108, ↓u18_109, ↓u18_112, ↓u18_113, ↓u18_116, ↓u18_117, ↓u18_120, ↓u18_121, ↓u18_122, ↓u18_125, ↓u18_126, ↓u18_128, ↓u18_129, ↓u18_132, ↓u18_133, ↓u18_136, ↓u18_139, ↓u18_140, ↓u18_141, ↓u18_142, ↓u18_144, ↓u18_145, ↓u18_148, ↓u18_149, ↓u18_152, ↓u18_155, ↓u18_156, ↓u18_157, ↓lI_0, ↓lI_s, ↓lL_0, ↓lL_s, ↓lR_0, ↓lR_s, ↓sT_0, ↓sT_i, ↓sT_r, ↓sT_u, ↓sT_lu, ↓sU_0, ↓sU_i, ↓sU_r, ↓sU_u, ↓ite_bx, bx_T, bx_F, bx_pos, bx_neg, zws_i, zws_r, zws_l, zws_n, zCb_kc, xl_ll, xr_rr, xs_e, xset_e, Option.toList, List.cons_append, List.nil_append, zIb_e, zrng_e, nz_e, if_pos, if_neg, and_true, true_and, or_true, true_or, ite_self, bi_eq0, bi_eq1, bi_1, bi_0, bi_ir, bi_T, bi_F, up_eq, up_ne, ↓reduceIte, reduceIte, Nat.reduceAdd, Nat.reduceLeDiff, Nat.le_refl, Nat.zero_le, not_true_eq_false, not_false_eq_true, ne_eq, Int.reduceEq, Int.reduceLT, Int.reduceLE, Int.reduceAdd, Int.reduceSub, Int.reduceMul, Int.reduceNeg, pT r1, r2, pT r3, r4, r5, pT r6, r7, pst_4, pst_5, pst_o, up_p4, up_p5, up_po, pT ho, hl, e, e1]
  · rw [bd_n q1]
    obtain ⟨s2, h1, h2, e⟩ := f18_17 hd hr ho hl hob (up s o 1 v) p1 f1 ht2 (by omega) (by omega)
    refine ⟨s2, frs_u h1, h2, fun Q => ?_⟩
    simp (disch := first | omega | exact rfl) only [↓u18_0, ↓u18_1, ↓u18_2, ↓u18_3, ↓u18_6, ↓u18_7, ↓u18_8, ↓u18_9, ↓u18_10, ↓u18_11, ↓u18_12, ↓u18_13, ↓u18_16, ↓u18_18, ↓u18_20, ↓u18_23, ↓u18_24, ↓u18_25, ↓u18_26, ↓u18_27, ↓u18_28, ↓u18_30, ↓u18_33, ↓u18_34, ↓u18_35, ↓u18_37, ↓u18_40, ↓u18_41, ↓u18_42, ↓u18_43, ↓u18_44, ↓u18_45, ↓u18_47, ↓u18_50, ↓u18_51, ↓u18_52, ↓u18_54, ↓u18_57, ↓u18_58, ↓u18_59, ↓u18_60, ↓u18_61, ↓u18_62, ↓u18_64, ↓u18_67, ↓u18_68, ↓u18_69, ↓u18_71, ↓u18_74, ↓u18_75, ↓u18_76, ↓u18_77, ↓u18_78, ↓u18_79, ↓u18_81, ↓u18_84, ↓u18_85, ↓u18_86, ↓u18_89, ↓u18_92, ↓u18_93, ↓u18_96, ↓u18_98, ↓u18_101, ↓u18_102, ↓u18_105, ↓u18_106, ↓u18_107, ↓u18_108, ↓u18_109, ↓u18_112, ↓u18_113, ↓u18_116, ↓u18_117, ↓u18_120, ↓u18_121, ↓u18_122, ↓u18_125, ↓u18_126, ↓u18_128, ↓u18_129, ↓u18_132, ↓u18_133, ↓u18_136, ↓u18_139, ↓u18_140, ↓u18_141, ↓u18_142, ↓u18_144, ↓u18_145, ↓u18_148, ↓u18_149, ↓u18_152, ↓u18_155, ↓u18_156, ↓u18_157, ↓lI_0, ↓lI_s, ↓lL_0, ↓lL_s, ↓lR_0, ↓lR_s, ↓sT_0, ↓sT_i, ↓sT_r, ↓sT_u, ↓sT_lu, ↓sU_0, ↓sU_i, ↓sU_r, ↓sU_u, ↓ite_bx, bx_T, bx_F, bx_pos, bx_neg, zws_i, zws_r, zws_l, zws_n, zCb_kc, xl_ll, xr_rr, xs_e, xset_e, Option.toList, List.cons_append, List.nil_append, zIb_e, zrng_e, nz_e, if_pos, if_neg, and_true, true_and, or_true, true_or, ite_self, bi_eq0, bi_eq1, bi_1, bi_0, bi_ir, bi_T, bi_F, up_eq, up_ne, ↓reduceIte, reduceIte, Nat.reduceAdd, Nat.reduceLeDiff, Nat.le_refl, Nat.zero_le, not_true_eq_false, not_false_eq_true, ne_eq, Int.reduceEq, Int.reduceLT, Int.reduceLE, Int.reduceAdd, Int.reduceSub, Int.reduceMul, Int.reduceNeg, pT r1, r2, pT r3, r4, r5, pT r6, r7, pst_4, pst_5, pst_o, up_p4, up_p5, up_po, pT ho, hl, e, e1]
set_option maxRecDepth 8000 in
theorem s18 {d : Nat} {G : XS} {tx : Int → Int} {ln o : Int} (hd : 5 ≤ d) (hr : RDR G) (ho : kc G o 7) (hl : ll G o = 8) (hob : 151 ≤ o ∧ o ≤ 158) : ∀ (s : ZS) (p : Int), TXT s tx ln → (0 ≤ p ∧ p ≤ ln) → ∃ s2, frs s s2 o ∧ res (c0 tx ln (fun _ => 0) p) ln s2 o ∧ ∀ Q, Call d 18 [zrf 148, zrf o] (G, pst s p (-1)) Q = Q none (G, s2) := by
  have hr' := hr
  obtain ⟨r1, r2, r3, r4, r5, r6, r7, r8, r9, r10⟩ := hr'
  intro s p ht hp
  have sp := sg_b (p := p) ht
  have kb := kv_b (sg tx ln p)
  have l100 := ht.2.1
  unfold c0
  by_cases q : 0 ≤ kv (sg tx ln p)
  · have hl2 := sg_l (tx := tx) (ln := ln) (p := p) (by omega)
    rw [show kdz tx ln p = (kv (sg tx ln p), p + 1, -1) from if_pos q, bd_y (by omega)]
    obtain ⟨s2, h1, h2, e⟩ := s18_7 (d := d - 1) (show 4 ≤ d - 1 by omega) hr ho hl hob (up s o 0 (kv (sg tx ln p))) (p + 1) (wup (fun _ => 0) 0 (kv (sg tx ln p))) (TXT_u ht (by omega) (by omega)) (by omega) (row_u (k := 0) (fun c hc => by omega))
    refine ⟨s2, frs_u h1, h2, fun Q => ?_⟩
    rw [e18 (show 1 ≤ d by omega)]
    simp (disch := first | omega | exact rfl) only [↓u18_0, ↓u18_1, ↓u18_2, ↓u18_3, ↓u18_6, ↓u18_8, ↓u18_9, ↓u18_10, ↓u18_11, ↓u18_12, ↓u18_13, ↓u18_16, ↓u18_17, ↓u18_18, ↓u18_20, ↓u18_23, ↓u18_24, ↓u18_25, ↓u18_26, ↓u18_27, ↓u18_28, ↓u18_30, ↓u18_33, ↓u18_34, ↓u18_35, ↓u18_37, ↓u18_40, ↓u18_41, ↓u18_42, ↓u18_43, ↓u18_44, ↓u18_45, ↓u18_47, ↓u18_50, ↓u18_51, ↓u18_52, ↓u18_54, ↓u18_57, ↓u18_58, ↓u18_59, ↓u18_60, ↓u18_61, ↓u18_62, ↓u18_64, ↓u18_67, ↓u18_68, ↓u18_69, ↓u18_71, ↓u18_74, ↓u18_75, ↓u18_76, ↓u18_77, ↓u18_78, ↓u18_79, ↓u18_81, ↓u18_84, ↓u18_85, ↓u18_86, ↓u18_89, ↓u18_92, ↓u18_93, ↓u18_96, ↓u18_98, ↓u18_101, ↓u18_102, ↓u18_105, ↓u18_106, ↓u18_107, ↓u18_108, ↓u18_109, ↓u18_112, ↓u18_113, ↓u18_116, ↓u18_117, ↓u18_120, ↓u18_121, ↓u18_122, ↓u18_125, ↓u18_126, ↓u18_128, ↓u18_129, ↓u18_132, ↓u18_133, ↓u18_136, ↓u18_139, ↓u18_140, ↓u18_141, ↓u18_142, ↓u18_144, ↓u18_145, ↓u18_148, ↓u18_149, ↓u18_152, ↓u18_155, ↓u18_156, ↓u18_157, ↓lI_0, ↓lI_s, ↓lL_0, ↓lL_s, ↓lR_0, ↓lR_s, ↓sT_0, ↓sT_i, ↓sT_r, ↓sT_u, ↓sT_lu, ↓sU_0, ↓sU_i, ↓sU_r, ↓sU_u, ↓ite_bx, bx_T, bx_F, bx_pos, bx_neg, zws_i, zws_r, zws_l, zws_n, zCb_kc, xl_ll, xr_rr, xs_e, xset_e, Option.toList, List.cons_append, List.nil_append, zIb_e, zrng_e, nz_e, if_pos, if_neg, and_true, true_and, or_true, true_or, ite_self, bi_eq0, bi_eq1, bi_1, bi_0, bi_ir, bi_T, bi_F, up_eq, up_ne, ↓reduceIte, reduceIte, Nat.reduceAdd, Nat.reduceLeDiff, Nat.le_refl, Nat.zero_le, not_true_eq_false, not_false_eq_true, ne_eq, Int.reduceEq, Int.reduceLT, Int.reduceLE, Int.reduceAdd, Int.reduceSub, Int.reduceMul, Int.reduceNeg, pT r1, r2, pT r3, r4, r5, pT r6, r7, pst_4, pst_5, pst_o, up_p4, up_p5, up_po, pT ho, hl, e, s22_y (show 2 ≤ d - 1 by omega) hr ht hp q]
  · rw [show kdz tx ln p = (0, p, p) from if_neg q, bd_n (by omega)]
    obtain ⟨s2, h1, h2, e⟩ := f18_7 (d := d - 1) (show 4 ≤ d - 1 by omega) hr ho hl hob (up s o 0 0) p p (TXT_u ht (by omega) (by omega)) hp hp
    refine ⟨s2, frs_u h1, h2, fun Q => ?_⟩
    rw [e18 (show 1 ≤ d by omega)]
    simp (disch := first | omega | exact rfl) only [↓u18_0, ↓u18_1, ↓u18_2, ↓u18_3, ↓u18_6, ↓u18_8, ↓u18_9, ↓u18_10, ↓u18_11, ↓u18_12, ↓u18_13, ↓u18_16, ↓u18_17, ↓u18_18, ↓u18_20, ↓u18_23, ↓u18_24, ↓u18_25, ↓u18_26, ↓u18_27, ↓u18_28, ↓u18_30, ↓u18_33, ↓u18_34, ↓u18_35, ↓u18_37, ↓u18_40, ↓u18_41, ↓u18_42, ↓u18_43, ↓u18_44, ↓u18_45, ↓u18_47, ↓u18_50, ↓u18_51, ↓u18_52, ↓u18_54, ↓u18_57, ↓u18_58, ↓u18_59, ↓u18_60, ↓u18_61, ↓u18_62, ↓u18_64, ↓u18_67, ↓u18_68, ↓u18_69, ↓u18_71, ↓u18_74, ↓u18_75, ↓u18_76, ↓u18_77, ↓u18_78, ↓u18_79, ↓u18_81, ↓u18_84, ↓u18_85, ↓u18_86, ↓u18_89, ↓u18_92, ↓u18_93, ↓u18_96, ↓u18_98, ↓u18_101, ↓u18_102, ↓u18_105, ↓u18_106, ↓u18_107, ↓u18_108, ↓u18_109, ↓u18_112, ↓u18_113, ↓u18_116, ↓u18_117, ↓u18_120, ↓u18_121, ↓u18_122, ↓u18_125, ↓u18_126, ↓u18_128, ↓u18_129, ↓u18_132, ↓u18_133, ↓u18_136, ↓u18_139, ↓u18_140, ↓u18_141, ↓u18_142, ↓u18_144, ↓u18_145, ↓u18_148, ↓u18_149, ↓u18_152, ↓u18_155, ↓u18_156, ↓u18_157, ↓lI_0, ↓lI_s, ↓lL_0, ↓lL_s, ↓lR_0, ↓lR_s, ↓sT_0, ↓sT_i, ↓sT_r, ↓sT_u, ↓sT_lu, ↓sU_0, ↓sU_i, ↓sU_r, ↓sU_u, ↓ite_bx, bx_T, bx_F, bx_pos, bx_neg, zws_i, zws_r, zws_l, zws_n, zCb_kc, xl_ll, xr_rr, xs_e, xset_e, Option.toList, List.cons_append, List.nil_append, zIb_e, zrng_e, nz_e, if_pos, if_neg, and_true, true_and, or_true, true_or, ite_self, bi_eq0, bi_eq1, bi_1, bi_0, bi_ir, bi_T, bi_F, up_eq, up_ne, ↓reduceIte, reduceIte, Nat.reduceAdd, Nat.reduceLeDiff, Nat.le_refl, Nat.zero_le, not_true_eq_false, not_false_eq_true, ne_eq, Int.reduceEq, Int.reduceLT, Int.reduceLE, Int.reduceAdd, Int.reduceSub, Int.reduceMul, Int.reduceNeg, pT r1, r2, pT r3, r4, r5, pT r6, r7, pst_4, pst_5, pst_o, up_p4, up_p5, up_po, pT ho, hl, e, s22_n (show 2 ≤ d - 1 by omega) hr ht hp (show kv (sg tx ln p) < 0 by omega)]
