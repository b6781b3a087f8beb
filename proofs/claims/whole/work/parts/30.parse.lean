/-! the class Reader: all of the text; a sign more -/
abbrev PT : Type := Int ⊕ (Int × (Int → Int → Int))
def wrw (W : Int → Int → Int) (n : Int) (w : Int → Int) : Int → Int → Int := fun i => if i = n then w else W i
set_option maxRecDepth 8000 in
theorem wrw_e {W : Int → Int → Int} {n : Int} {w : Int → Int} : wrw W n w n = w := if_pos rfl
set_option maxRecDepth 8000 in
theorem wrw_o {W : Int → Int → Int} {n i : Int} {w : Int → Int} (h : i ≠ n) : wrw W n w i = W i := if_neg h
def bq (r : PR) (k : Int → (Int → Int) → PT) : PT := match r with
  | .inl f => .inl f
  | .inr (p, w) => k p w
set_option maxRecDepth 8000 in
theorem bq_l {f : Int} {k : Int → (Int → Int) → PT} : bq (.inl f) k = .inl f := rfl
set_option maxRecDepth 8000 in
theorem bq_r {p : Int} {w : Int → Int} {k : Int → (Int → Int) → PT} : bq (.inr (p, w)) k = k p w := rfl
def pgo (tx : Int → Int) (ln : Int) : Nat → Int → Int → (Int → Int → Int) → PT
  | 0, _, _, _ => .inl 0
  | j + 1, n, p, W => bq (c0 tx ln (fun _ => 0) p) (fun p1 w => if n + 1 < 8 ∧ sg tx ln p1 = 59 then pgo tx ln j (n + 1) (p1 + 1) (wrw W n w) else if p1 < ln then .inl p1 else .inr (n + 1, wrw W n w))
set_option maxRecDepth 8000 in
theorem pgo_s {tx : Int → Int} {ln n p : Int} {j : Nat} {W : Int → Int → Int} : pgo tx ln (j + 1) n p W = bq (c0 tx ln (fun _ => 0) p) (fun p1 w => if n + 1 < 8 ∧ sg tx ln p1 = 59 then pgo tx ln j (n + 1) (p1 + 1) (wrw W n w) else if p1 < ln then .inl p1 else .inr (n + 1, wrw W n w)) := rfl
def frt (s s2 : ZS) : Prop := ∀ a c, (a ≠ 148 ∨ (c ≠ 3 ∧ c ≠ 4 ∧ c ≠ 5)) → (a < 151 ∨ 158 < a) → s2 a c = s a c
def pf (r : PT) : Int := match r with
  | .inl f => f
  | .inr _ => -1
def rst (r : PT) (ln : Int) (s2 : ZS) : Prop := match r with
  | .inl f => 0 ≤ f ∧ f ≤ ln
  | .inr (n, W) => s2 148 3 = n ∧ (1 ≤ n ∧ n ≤ 8) ∧ ∀ i c, (0 ≤ i ∧ i < n) ∧ 0 ≤ c ∧ c < 8 → s2 (151 + i) c = W i c
set_option maxRecDepth 8000 in
theorem pf_l {f : Int} : pf (.inl f) = f := rfl
set_option maxRecDepth 8000 in
theorem pf_r {x : Int × (Int → Int → Int)} : pf (.inr x) = -1 := rfl
set_option maxRecDepth 8000 in
theorem frt_r {s : ZS} {p f : Int} : frt s (pst s p f) := fun a c h _ => pst_o (by omega)
set_option maxRecDepth 8000 in
theorem frt_t {s s2 s3 : ZS} (h1 : frt s s2) (h2 : frt s2 s3) : frt s s3 := fun a c h h' => by rw [h2 a c h h', h1 a c h h']
set_option maxRecDepth 8000 in
theorem frt_s {s s2 : ZS} {o : Int} (h : frs s s2 o) (ho : 151 ≤ o ∧ o ≤ 158) : frt s s2 := fun a c h1 h2 => h a c (by omega) (by omega)
set_option maxRecDepth 8000 in
theorem frt_3 {s : ZS} {v : Int} : frt s (up s 148 3 v) := fun a c h1 h2 => up_ne (by omega)
set_option maxRecDepth 8000 in
theorem TXT_t {s s2 : ZS} {tx : Int → Int} {ln : Int} (h : TXT s tx ln) (hf : frt s s2) : TXT s2 tx ln := by
  obtain ⟨t1, t2, t3, t4⟩ := h
  exact ⟨by rw [hf _ _ (by omega) (by omega)]; exact t1, t2, fun i hi => by rw [hf _ _ (by omega) (by omega)]; exact t3 i hi, t4⟩
set_option maxRecDepth 8000 in
theorem pst_d {s : ZS} {p f : Int} : up (up s 148 4 p) 148 5 f = pst s p f := rfl
set_option maxRecDepth 8000 in
theorem x17 {d : Nat} {Q : Option AV → XH → Prop} {G : XS} {s : ZS} {tx : Int → Int} {ln p f : Int} {v : AV} (hd : 2 ≤ d) (hr : RDR G) (ht : TXT s tx ln) (hp : 0 ≤ p ∧ p ≤ ln) (hf : -1 ≤ f ∧ f ≤ 1000) : Wp (d - 1) 17 (105, [zrf 148, v], [], (G, pst s p f)) Q = Q (some (zint (if f < 0 ∧ p < ln then p else f))) (G, pst s p (if f < 0 ∧ p < ln then p else f)) := by
  have hr' := hr
  obtain ⟨r1, r2, r3, r4, r5, r6, r7, r8, r9, r10⟩ := hr'
  obtain ⟨t1, t2, t3, t4⟩ := ht
  by_cases q : f < 0
  · have q1 : f = -1 := by omega
    subst q1
    by_cases q2 : p < ln
    · rw [if_pos ⟨q, q2⟩]
      simp (disch := first | omega | exact rfl) only [↓u17_0, ↓u17_1, ↓u17_2, ↓u17_5, ↓u17_6, ↓u17_7, ↓u17_10, ↓u17_11, ↓u17_12, ↓u17_15, ↓u17_16, ↓u17_18, ↓u17_21, ↓u17_22, ↓u17_25, ↓u17_27, ↓u17_30, ↓u17_31, ↓u17_32, ↓u17_35, ↓u17_36, ↓u17_39, ↓u17_40, ↓u17_43, ↓u17_44, ↓u17_45, ↓u17_48, ↓u17_49, ↓u17_50, ↓u17_53, ↓u17_54, ↓u17_57, ↓u17_60, ↓u17_61, ↓u17_64, ↓u17_66, ↓u17_69, ↓u17_70, ↓u17_73, ↓u17_75, ↓u17_78, ↓u17_79, ↓u17_82, ↓u17_83, ↓u17_84, ↓u17_85, ↓u17_86, ↓u17_89, ↓u17_90, ↓u17_93, ↓u17_94, ↓u17_97, ↓u17_98, ↓u17_99, ↓u17_102, ↓u17_105, ↓u17_106, ↓u17_109, ↓u17_110, ↓u17_113, ↓u17_116, ↓u17_117, ↓u17_118, ↓u17_121, ↓u17_124, ↓u17_125, ↓u17_128, ↓lI_0, ↓lI_s, ↓lL_0, ↓lL_s, ↓lR_0, ↓lR_s, ↓sT_0, ↓sT_i, ↓sT_r, ↓sT_u, ↓sT_lu, ↓sU_0, ↓sU_i, ↓sU_r, ↓sU_u, ↓ite_bx, bx_T, bx_F, bx_pos, bx_neg, zws_i, zws_r, zws_l, zws_n, zCb_kc, xl_ll, xr_rr, xs_e, xset_e, Option.toList, List.cons_append, List.nil_append, zIb_e, zrng_e, nz_e, if_pos, if_neg, and_true, true_and, or_true, true_or, ite_self, bi_eq0, bi_eq1, bi_1, bi_0, bi_ir, bi_T, bi_F, up_eq, up_ne, ↓reduceIte, reduceIte, Nat.reduceAdd, Nat.reduceLeDiff, Nat.le_refl, Nat.zero_le, not_true_eq_false, not_false_eq_true, ne_eq, Int.reduceEq, Int.reduceLT, Int.reduceLE, Int.reduceAdd, Int.reduceSub, Int.reduceMul, Int.reduceNeg, pT r1, r2, pT r3, r4, r5, pT r6, r7, r8, pst_4, pst_5, pst_o, up_p4, up_p5, up_po, t1, s20_y (show 1 ≤ d - 1 by omega) hr]
    · rw [if_neg (fun c => q2 c.2)]
      simp (disch := first | omega | exact rfl) only [↓u17_0, ↓u17_1, ↓u17_2, ↓u17_5, ↓u17_6, ↓u17_7, ↓u17_10, ↓u17_11, ↓u17_12, ↓u17_15, ↓u17_16, ↓u17_18, ↓u17_21, ↓u17_22, ↓u17_25, ↓u17_27, ↓u17_30, ↓u17_31, ↓u17_32, ↓u17_35, ↓u17_36, ↓u17_39, ↓u17_40, ↓u17_43, ↓u17_44, ↓u17_45, ↓u17_48, ↓u17_49, ↓u17_50, ↓u17_53, ↓u17_54, ↓u17_57, ↓u17_60, ↓u17_61, ↓u17_64, ↓u17_66, ↓u17_69, ↓u17_70, ↓u17_73, ↓u17_75, ↓u17_78, ↓u17_79, ↓u17_82, ↓u17_83, ↓u17_84, ↓u17_85, ↓u17_86, ↓u17_89, ↓u17_90, ↓u17_93, ↓u17_94, ↓u17_97, ↓u17_98, ↓u17_99, ↓u17_102, ↓u17_105, ↓u17_106, ↓u17_109, ↓u17_110, ↓u17_113, ↓u17_116, ↓u17_117, ↓u17_118, ↓u17_121, ↓u17_124, ↓u17_125, ↓u17_128, ↓lI_0, ↓lI_s, ↓lL_0, ↓lL_s, ↓lR_0, ↓lR_s, ↓sT_0, ↓sT_i, ↓sT_r, ↓sT_u, ↓sT_lu, ↓sU_0, ↓sU_i, ↓sU_r, ↓sU_u, ↓ite_bx, bx_T, bx_F, bx_pos, bx_neg, zws_i, zws_r, zws_l, zws_n, zCb_kc, xl_ll, xr_rr, xs_e, xset_e, Option.toList, List.cons_append, List.nil_append, zIb_e, zrng_e, nz_e, if_pos, if_neg, and_true, true_and, or_true, true_or, ite_self, bi_eq0, bi_eq1, bi_1, bi_0, bi_ir, bi_T, bi_F, up_eq, up_ne, ↓reduceIte, reduceIte, Nat.reduceAdd, Nat.reduceLeDiff, Nat.le_refl, Nat.zero_le, not_true_eq_false, not_false_eq_true, ne_eq, Int.reduceEq, Int.reduceLT, Int.reduceLE, Int.reduceAdd, Int.reduceSub, Int.reduceMul, Int.reduceNeg, pT r1, r2, pT r3, r4, r5, pT r6, r7, r8, pst_4, pst_5, pst_o, up_p4, up_p5, up_po, t1, s20_y (show 1 ≤ d - 1 by omega) hr]
  · rw [if_neg (fun c => q c.1)]
    by_cases q2 : p < ln
    · simp (disch := first | omega | exact rfl) only [↓u17_0, ↓u17_1, ↓u17_2, ↓u17_5, ↓u17_6, ↓u17_7, ↓u17_10, ↓u17_11, ↓u17_12, ↓u17_15, ↓u17_16, ↓u17_18, ↓u17_21, ↓u17_22, ↓u17_25, ↓u17_27, ↓u17_30, ↓u17_31, ↓u17_32, ↓u17_35, ↓u17_36, ↓u17_39, ↓u17_40, ↓u17_43, ↓u17_44, ↓u17_45, ↓u17_48, ↓u17_49, ↓u17_50, ↓u17_53, ↓u17_54, ↓u17_57, ↓u17_60, ↓u17_61, ↓u17_64, ↓u17_66, ↓u17_69, ↓u17_70, ↓u17_73, ↓u17_75, ↓u17_78, ↓u17_79, ↓u17_82, ↓u17_83, ↓u17_84, ↓u17_85, ↓u17_86, ↓u17_89, ↓u17_90, ↓u17_93, ↓u17_94, ↓u17_97, ↓u17_98, ↓u17_99, ↓u17_102, ↓u17_105, ↓u17_106, ↓u17_109, ↓u17_110, ↓u17_113, ↓u17_116, ↓u17_117, ↓u17_118, ↓u17_121, ↓u17_124, ↓u17_125, ↓u17_128, ↓lI_0, ↓lI_s, ↓lL_0, ↓lL_s, ↓lR_0, ↓lR_s, ↓sT_0, ↓sT_i, ↓sT_r, ↓sT_u, ↓sT_lu, ↓sU_0, ↓sU_i, ↓sU_r, ↓sU_u, ↓ite_bx, bx_T, bx_F, bx_pos, bx_neg, zws_i, zws_r, zws_l, zws_n, zCb_kc, xl_ll, xr_rr, xs_e, xset_e, Option.toList, List.cons_append, List.nil_append, zIb_e, zrng_e, nz_e, if_pos, if_neg, and_true, true_and, or_true, true_or, ite_self, bi_eq0, bi_eq1, bi_1, bi_0, bi_ir, bi_T, bi_F, up_eq, up_ne, ↓reduceIte, reduceIte, Nat.reduceAdd, Nat.reduceLeDiff, Nat.le_refl, Nat.zero_le, not_true_eq_false, not_false_eq_true, ne_eq, Int.reduceEq, Int.reduceLT, Int.reduceLE, Int.reduceAdd, Int.reduceSub, Int.reduceMul, Int.reduceNeg, pT r1, r2, pT r3, r4, r5, pT r6, r7, r8, pst_4, pst_5, pst_o, up_p4, up_p5, up_po, t1, s20_y (show 1 ≤ d - 1 by omega) hr, s20_n (show 1 ≤ d - 1 by omega) hr (show 0 ≤ f ∧ f ≤ 1000 by omega)]
    · simp (disch := first | omega | exact rfl) only [↓u17_0, ↓u17_1, ↓u17_2, ↓u17_5, ↓u17_6, ↓u17_7, ↓u17_10, ↓u17_11, ↓u17_12, ↓u17_15, ↓u17_16, ↓u17_18, ↓u17_21, ↓u17_22, ↓u17_25, ↓u17_27, ↓u17_30, ↓u17_31, ↓u17_32, ↓u17_35, ↓u17_36, ↓u17_39, ↓u17_40, ↓u17_43, ↓u17_44, ↓u17_45, ↓u17_48, ↓u17_49, ↓u17_50, ↓u17_53, ↓u17_54, ↓u17_57, ↓u17_60, ↓u17_61, ↓u17_64, ↓u17_66, ↓u17_69, ↓u17_70, ↓u17_73, ↓u17_75, ↓u17_78, ↓u17_79, ↓u17_82, ↓u17_83, ↓u17_84, ↓u17_85, ↓u17_86, ↓u17_89, ↓u17_90, ↓u17_93, ↓u17_94, ↓u17_97, ↓u17_98, ↓u17_99, ↓u17_102, ↓u17_105, ↓u17_106, ↓u17_109, ↓u17_110, ↓u17_113, ↓u17_116, ↓u17_117, ↓u17_118, ↓u17_121, ↓u17_124, ↓u17_125, ↓u17_128, ↓lI_0, ↓lI_s, ↓lL_0, ↓lL_s, ↓lR_0, ↓lR_s, ↓sT_0, ↓sT_i, ↓sT_r, ↓sT_u, ↓sT_lu, ↓sU_0, ↓sU_i, ↓sU_r, ↓sU_u, ↓ite_bx, bx_T, bx_F, bx_pos, bx_neg, zws_i, zws_r, zws_l, zws_n, zCb_kc, xl_ll, xr_rr, xs_e, xset_e, Option.toList, List.cons_append, List.nil_append, zIb_e, zrng_e, nz_e, if_pos, if_neg, and_true, true_and, or_true, true_or, ite_self, bi_eq0, bi_eq1, bi_1, bi_0, bi_ir, bi_T, bi_F, up_eq, up_ne, ↓reduceIte, reduceIte, Nat.reduceAdd, Nat.reduceLeDiff, Nat.le_refl, Nat.zero_le, not_true_eq_false, not_false_eq_true, ne_eq, Int.reduceEq, Int.reduceLT, Int.reduceLE, Int.reduceAdd, Int.reduceSub, Int.reduceMul, Int.reduceNeg, pT r1, r2, pT r3, r4, r5, pT r6, r7, r8, pst_4, pst_5, pst_o, up_p4, up_p5, up_po, t1, s20_y (show 1 ≤ d - 1 by omega) hr, s20_n (show 1 ≤ d - 1 by omega) hr (show 0 ≤ f ∧ f ≤ 1000 by omega)]
set_option maxRecDepth 8000 in
theorem y17 {d : Nat} {Q : Option AV → XH → Prop} {h : XH} : Wp d 17 (17, [zrf 148, zint 0], [], h) Q = Wp d 17 (105, [zrf 148, zint 0], [], h) Q := by
  rw [u17_17]
  simp (disch := first | omega | exact rfl) only [↓u17_0, ↓u17_1, ↓u17_2, ↓u17_5, ↓u17_6, ↓u17_7, ↓u17_10, ↓u17_11, ↓u17_12, ↓u17_15, ↓u17_16, ↓u17_18, ↓u17_21, ↓u17_22, ↓u17_25, ↓u17_27, ↓u17_30, ↓u17_31, ↓u17_32, ↓u17_35, ↓u17_36, ↓u17_39, ↓u17_40, ↓u17_43, ↓u17_44, ↓u17_45, ↓u17_48, ↓u17_49, ↓u17_50, ↓u17_53, ↓u17_54, ↓u17_57, ↓u17_60, ↓u17_61, ↓u17_64, ↓u17_66, ↓u17_69, ↓u17_70, ↓u17_73, ↓u17_75, ↓u17_78, ↓u17_79, ↓u17_82, ↓u17_83, ↓u17_84, ↓u17_85, ↓u17_86, ↓u17_89, ↓u17_90, ↓u17_93, ↓u17_94, ↓u17_97, ↓u17_98, ↓u17_99, ↓u17_102, ↓u17_106, ↓u17_109, ↓u17_110, ↓u17_113, ↓u17_116, ↓u17_117, ↓u17_118, ↓u17_121, ↓u17_124, ↓u17_125, ↓u17_128, ↓lI_0, ↓lI_s, ↓lL_0, ↓lL_s, ↓lR_0, ↓lR_s, ↓sT_0, ↓sT_i, ↓sT_r, ↓sT_u, ↓sT_lu, ↓sU_0, ↓sU_i, ↓sU_r, ↓sU_u, ↓ite_bx, bx_T, bx_F, bx_pos, bx_neg, zws_i, zws_r, zws_l, zws_n, zCb_kc, xl_ll, xr_rr, xs_e, xset_e, Option.toList, List.cons_append, List.nil_append, zIb_e, zrng_e, nz_e, if_pos, if_neg, and_true, true_and, or_true, true_or, ite_self, bi_eq0, bi_eq1, bi_1, bi_0, bi_ir, bi_T, bi_F, up_eq, up_ne, ↓reduceIte, reduceIte, Nat.reduceAdd, Nat.reduceLeDiff, Nat.le_refl, Nat.zero_le, not_true_eq_false, not_false_eq_true, ne_eq, Int.reduceEq, Int.reduceLT, Int.reduceLE, Int.reduceAdd, Int.reduceSub, Int.reduceMul, Int.reduceNeg]
set_option maxRecDepth 8000 in
theorem l17 {d : Nat} {G : XS} {tx : Int → Int} {ln : Int} (hd : 6 ≤ d) (hr : RDR G) : ∀ (j : Nat) (n p : Int) (W : Int → Int → Int) (s : ZS), n + ((j : Int) + 1) = 8 → 0 ≤ n → TXT s tx ln → (0 ≤ p ∧ p ≤ ln) → s 148 3 = n → (∀ i c, (0 ≤ i ∧ i < n) ∧ 0 ≤ c ∧ c < 8 → s (151 + i) c = W i c) → ∃ s2, frt s s2 ∧ rst (pgo tx ln (j + 1) n p W) ln s2 ∧ ∀ Q, Wp (d - 1) 17 (17, [zrf 148, zint 1], [], (G, pst s p (-1))) Q = Q (some (zint (pf (pgo tx ln (j + 1) n p W)))) (G, s2) := by
  have hr' := hr
  obtain ⟨r1, r2, r3, r4, r5, r6, r7, r8, r9, r10⟩ := hr'
  intro j
  induction j with
  | zero =>
    intro n p W s h1 h2 ht hp hn hW
    have l100 := ht.2.1
    obtain ⟨s2, f1, f2, e⟩ := s18 (d := d - 1) (o := 151 + n) (show 5 ≤ d - 1 by omega) hr (r9 n (by omega)) (r10 n (by omega)) (by omega) s p ht hp
    have f3 : frt s s2 := frt_s f1 (by omega)
    have hn2 : s2 148 3 = n := by rw [f1 _ _ (by omega) (by omega)]; exact hn
    rw [pgo_s]
    cases hc : c0 tx ln (fun _ => 0) p with
    | inl f =>
      rw [hc] at f2
      obtain ⟨g1, g2, g3⟩ := f2
      rw [bq_l, pf_l]
      have ht2 : TXT (up s2 148 3 (n + 1)) tx ln := TXT_t ht (frt_t f3 frt_3)
      have e2 : ∀ Q, Call (d - 1) 18 [zrf 148, zrf (151 + n)] (G, pst s p (-1)) Q = Q none (G, pst s2 (s2 148 4) f) := by
        intro Q
        rw [e, ← g1, pst_s]
      generalize s2 148 4 = p1 at e2 g3
      have ex := fun Q => x17 (d := d) (Q := Q) (p := p1) (f := f) (v := zint 0) (show 2 ≤ d by omega) hr ht2 g3 (by omega)
      rw [if_neg (by omega)] at ex
      refine ⟨pst (up s2 148 3 (n + 1)) p1 f, frt_t (frt_t f3 frt_3) frt_r, g2, fun Q => ?_⟩
      rw [u17_17]
      simp (disch := first | omega | exact rfl) only [↓u17_0, ↓u17_1, ↓u17_2, ↓u17_5, ↓u17_6, ↓u17_7, ↓u17_10, ↓u17_11, ↓u17_12, ↓u17_15, ↓u17_16, ↓u17_18, ↓u17_21, ↓u17_22, ↓u17_25, ↓u17_27, ↓u17_30, ↓u17_31, ↓u17_32, ↓u17_35, ↓u17_36, ↓u17_39, ↓u17_40, ↓u17_43, ↓u17_44, ↓u17_45, ↓u17_48, ↓u17_49, ↓u17_50, ↓u17_53, ↓u17_54, ↓u17_57, ↓u17_60, ↓u17_61, ↓u17_64, ↓u17_66, ↓u17_69, ↓u17_70, ↓u17_73, ↓u17_75, ↓u17_78, ↓u17_79, ↓u17_82, ↓u17_83, ↓u17_84, ↓u17_85, ↓u17_86, ↓u17_89, ↓u17_90, ↓u17_93, ↓u17_94, ↓u17_97, ↓u17_98, ↓u17_99, ↓u17_102, ↓u17_106, ↓u17_109, ↓u17_110, ↓u17_113, ↓u17_116, ↓u17_117, ↓u17_118, ↓u17_121, ↓u17_124, ↓u17_125, ↓u17_128, ↓lI_0, ↓lI_s, ↓lL_0, ↓lL_s, ↓lR_0, ↓lR_s, ↓sT_0, ↓sT_i, ↓sT_r, ↓sT_u, ↓sT_lu, ↓sU_0, ↓sU_i, ↓sU_r, ↓sU_u, ↓ite_bx, bx_T, bx_F, bx_pos, bx_neg, zws_i, zws_r, zws_l, zws_n, zCb_kc, xl_ll, xr_rr, xs_e, xset_e, Option.toList, List.cons_append, List.nil_append, zIb_e, zrng_e, nz_e, if_pos, if_neg, and_true, true_and, or_true, true_or, ite_self, bi_eq0, bi_eq1, bi_1, bi_0, bi_ir, bi_T, bi_F, up_eq, up_ne, ↓reduceIte, reduceIte, Nat.reduceAdd, Nat.reduceLeDiff, Nat.le_refl, Nat.zero_le, not_true_eq_false, not_false_eq_true, ne_eq, Int.reduceEq, Int.reduceLT, Int.reduceLE, Int.reduceAdd, Int.reduceSub, Int.reduceMul, Int.reduceNeg, pT r1, r2, pT r3, r4, r5, pT r6, r7, r8, pst_4, pst_5, pst_o, up_p4, up_p5, up_po, hn, hn2, e2, ex, y17, Int.add_zero]
    | inr pw =>
      obtain ⟨p1, w⟩ := pw
      rw [hc] at f2
      obtain ⟨g1, g2, g3, g4⟩ := f2
      rw [bq_r]
      have ht2 : TXT (up s2 148 3 (n + 1)) tx ln := TXT_t ht (frt_t f3 frt_3)
      have hp2 := g3
      have sp := sg_b (p := p1) ht2
      have e2 : ∀ Q, Call (d - 1) 18 [zrf 148, zrf (151 + n)] (G, pst s p (-1)) Q = Q none (G, pst s2 p1 (-1)) := by
        intro Q
        rw [e, ← g1, ← g2, pst_s]
      have hW2 : ∀ i c, (0 ≤ i ∧ i < n + 1) ∧ 0 ≤ c ∧ c < 8 → up s2 148 3 (n + 1) (151 + i) c = wrw W n w i c := by
        intro i c hic
        rw [up_ne (by omega)]
        by_cases q : i = n
        · rw [q, wrw_e, g4 c hic.2]
        · rw [wrw_o q, f1 _ _ (by omega) (by omega), hW i c (by omega)]
      · rw [if_neg (fun c => by omega)]
        have ex := fun Q => x17 (d := d) (Q := Q) (p := p1) (f := -1) (v := zint 0) (show 2 ≤ d by omega) hr ht2 hp2 (by omega)
        by_cases q2 : p1 < ln
        · rw [if_pos q2, pf_l]
          rw [if_pos ⟨by omega, q2⟩] at ex
          refine ⟨pst (up s2 148 3 (n + 1)) p1 p1, frt_t (frt_t f3 frt_3) frt_r, hp2, fun Q => ?_⟩
          rw [u17_17]
          simp (disch := first | omega | exact rfl) only [↓u17_0, ↓u17_1, ↓u17_2, ↓u17_5, ↓u17_6, ↓u17_7, ↓u17_10, ↓u17_11, ↓u17_12, ↓u17_15, ↓u17_16, ↓u17_18, ↓u17_21, ↓u17_22, ↓u17_25, ↓u17_27, ↓u17_30, ↓u17_31, ↓u17_32, ↓u17_35, ↓u17_36, ↓u17_39, ↓u17_40, ↓u17_43, ↓u17_44, ↓u17_45, ↓u17_48, ↓u17_49, ↓u17_50, ↓u17_53, ↓u17_54, ↓u17_57, ↓u17_60, ↓u17_61, ↓u17_64, ↓u17_66, ↓u17_69, ↓u17_70, ↓u17_73, ↓u17_75, ↓u17_78, ↓u17_79, ↓u17_82, ↓u17_83, ↓u17_84, ↓u17_85, ↓u17_86, ↓u17_89, ↓u17_90, ↓u17_93, ↓u17_94, ↓u17_97, ↓u17_98, ↓u17_99, ↓u17_102, ↓u17_106, ↓u17_109, ↓u17_110, ↓u17_113, ↓u17_116, ↓u17_117, ↓u17_118, ↓u17_121, ↓u17_124, ↓u17_125, ↓u17_128, ↓lI_0, ↓lI_s, ↓lL_0, ↓lL_s, ↓lR_0, ↓lR_s, ↓sT_0, ↓sT_i, ↓sT_r, ↓sT_u, ↓sT_lu, ↓sU_0, ↓sU_i, ↓sU_r, ↓sU_u, ↓ite_bx, bx_T, bx_F, bx_pos, bx_neg, zws_i, zws_r, zws_l, zws_n, zCb_kc, xl_ll, xr_rr, xs_e, xset_e, Option.toList, List.cons_append, List.nil_append, zIb_e, zrng_e, nz_e, if_pos, if_neg, and_true, true_and, or_true, true_or, ite_self, bi_eq0, bi_eq1, bi_1, bi_0, bi_ir, bi_T, bi_F, up_eq, up_ne, ↓reduceIte, reduceIte, Nat.reduceAdd, Nat.reduceLeDiff, Nat.le_refl, Nat.zero_le, not_true_eq_false, not_false_eq_true, ne_eq, Int.reduceEq, Int.reduceLT, Int.reduceLE, Int.reduceAdd, Int.reduceSub, Int.reduceMul, Int.reduceNeg, pT r1, r2, pT r3, r4, r5, pT r6, r7, r8, pst_4, pst_5, pst_o, up_p4, up_p5, up_po, hn, hn2, e2, ex, y17, Int.add_zero, s19 (show 1 ≤ d - 1 by omega) hr ht2 hp2]
        · rw [if_neg q2, pf_r]
          rw [if_neg (fun c => q2 c.2)] at ex
          refine ⟨pst (up s2 148 3 (n + 1)) p1 (-1), frt_t (frt_t f3 frt_3) frt_r, ⟨by rw [pst_o (by omega), up_eq], by omega, fun i c hic => by rw [pst_o (by omega)]; exact hW2 i c hic⟩, fun Q => ?_⟩
          rw [u17_17]
          simp (disch := first | omega | exact rfl) only [↓u17_0, ↓u17_1, ↓u17_2, ↓u17_5, ↓u17_6, ↓u17_7, ↓u17_10, ↓u17_11, ↓u17_12, ↓u17_15, ↓u17_16, ↓u17_18, ↓u17_21, ↓u17_22, ↓u17_25, ↓u17_27, ↓u17_30, ↓u17_31, ↓u17_32, ↓u17_35, ↓u17_36, ↓u17_39, ↓u17_40, ↓u17_43, ↓u17_44, ↓u17_45, ↓u17_48, ↓u17_49, ↓u17_50, ↓u17_53, ↓u17_54, ↓u17_57, ↓u17_60, ↓u17_61, ↓u17_64, ↓u17_66, ↓u17_69, ↓u17_70, ↓u17_73, ↓u17_75, ↓u17_78, ↓u17_79, ↓u17_82, ↓u17_83, ↓u17_84, ↓u17_85, ↓u17_86, ↓u17_89, ↓u17_90, ↓u17_93, ↓u17_94, ↓u17_97, ↓u17_98, ↓u17_99, ↓u17_102, ↓u17_106, ↓u17_109, ↓u17_110, ↓u17_113, ↓u17_116, ↓u17_117, ↓u17_118, ↓u17_121, ↓u17_124, ↓u17_125, ↓u17_128, ↓lI_0, ↓lI_s, ↓lL_0, ↓lL_s, ↓lR_0, ↓lR_s, ↓sT_0, ↓sT_i, ↓sT_r, ↓sT_u, ↓sT_lu, ↓sU_0, ↓sU_i, ↓sU_r, ↓sU_u, ↓ite_bx, bx_T, bx_F, bx_pos, bx_neg, zws_i, zws_r, zws_l, zws_n, zCb_kc, xl_ll, xr_rr, xs_e, xset_e, Option.toList, List.cons_append, List.nil_append, zIb_e, zrng_e, nz_e, if_pos, if_neg, and_true, true_and, or_true, true_or, ite_self, bi_eq0, bi_eq1, bi_1, bi_0, bi_ir, bi_T, bi_F, up_eq, up_ne, ↓reduceIte, reduceIte, Nat.reduceAdd, Nat.reduceLeDiff, Nat.le_refl, Nat.zero_le, not_true_eq_false, not_false_eq_true, ne_eq, Int.reduceEq, Int.reduceLT, Int.reduceLE, Int.reduceAdd, Int.reduceSub, Int.reduceMul, Int.reduceNeg, pT r1, r2, pT r3, r4, r5, pT r6, r7, r8, pst_4, pst_5, pst_o, up_p4, up_p5, up_po, hn, hn2, e2, ex, y17, Int.add_zero, s19 (show 1 ≤ d - 1 by omega) hr ht2 hp2]
  | succ j ih =>
    intro n p W s h1 h2 ht hp hn hW
    have l100 := ht.2.1
    obtain ⟨s2, f1, f2, e⟩ := s18 (d := d - 1) (o := 151 + n) (show 5 ≤ d - 1 by omega) hr (r9 n (by omega)) (r10 n (by omega)) (by omega) s p ht hp
    have f3 : frt s s2 := frt_s f1 (by omega)
    have hn2 : s2 148 3 = n := by rw [f1 _ _ (by omega) (by omega)]; exact hn
    rw [pgo_s]
    cases hc : c0 tx ln (fun _ => 0) p with
    | inl f =>
      rw [hc] at f2
      obtain ⟨g1, g2, g3⟩ := f2
      rw [bq_l, pf_l]
      have ht2 : TXT (up s2 148 3 (n + 1)) tx ln := TXT_t ht (frt_t f3 frt_3)
      have e2 : ∀ Q, Call (d - 1) 18 [zrf 148, zrf (151 + n)] (G, pst s p (-1)) Q = Q none (G, pst s2 (s2 148 4) f) := by
        intro Q
        rw [e, ← g1, pst_s]
      generalize s2 148 4 = p1 at e2 g3
      have ex := fun Q => x17 (d := d) (Q := Q) (p := p1) (f := f) (v := zint 0) (show 2 ≤ d by omega) hr ht2 g3 (by omega)
      rw [if_neg (by omega)] at ex
      refine ⟨pst (up s2 148 3 (n + 1)) p1 f, frt_t (frt_t f3 frt_3) frt_r, g2, fun Q => ?_⟩
      rw [u17_17]
      simp (disch := first | omega | exact rfl) only [↓u17_0, ↓u17_1, ↓u17_2, ↓u17_5, ↓u17_6, ↓u17_7, ↓u17_10, ↓u17_11, ↓u17_12, ↓u17_15, ↓u17_16, ↓u17_18, ↓u17_21, ↓u17_22, ↓u17_25, ↓u17_27, ↓u17_30, ↓u17_31, ↓u17_32, ↓u17_35, ↓u17_36, ↓u17_39, ↓u17_40, ↓u17_43, ↓u17_44, ↓u17_45, ↓u17_48, ↓u17_49, ↓u17_50, ↓u17_53, ↓u17_54, ↓u17_57, ↓u17_60, ↓u17_61, ↓u17_64, ↓u17_66, ↓u17_69, ↓u17_70, ↓u17_73, ↓u17_75, ↓u17_78, ↓u17_79, ↓u17_82, ↓u17_83, ↓u17_84, ↓u17_85, ↓u17_86, ↓u17_89, ↓u17_90, ↓u17_93, ↓u17_94, ↓u17_97, ↓u17_98, ↓u17_99, ↓u17_102, ↓u17_106, ↓u17_109, ↓u17_110, ↓u17_113, ↓u17_116, ↓u17_117, ↓u17_118, ↓u17_121, ↓u17_124, ↓u17_125, ↓u17_128, ↓lI_0, ↓lI_s, ↓lL_0, ↓lL_s, ↓lR_0, ↓lR_s, ↓sT_0, ↓sT_i, ↓sT_r, ↓sT_u, ↓sT_lu, ↓sU_0, ↓sU_i, ↓sU_r, ↓sU_u, ↓ite_bx, bx_T, bx_F, bx_pos, bx_neg, zws_i, zws_r, zws_l, zws_n, zCb_kc, xl_ll, xr_rr, xs_e, xset_e, Option.toList, List.cons_append, List.nil_append, zIb_e, zrng_e, nz_e, if_pos, if_neg, and_true, true_and, or_true, true_or, ite_self, bi_eq0, bi_eq1, bi_1, bi_0, bi_ir, bi_T, bi_F, up_eq, up_ne, ↓reduceIte, reduceIte, Nat.reduceAdd, Nat.reduceLeDiff, Nat.le_refl, Nat.zero_le, not_true_eq_false, not_false_eq_true, ne_eq, Int.reduceEq, Int.reduceLT, Int.reduceLE, Int.reduceAdd, Int.reduceSub, Int.reduceMul, Int.reduceNeg, pT r1, r2, pT r3, r4, r5, pT r6, r7, r8, pst_4, pst_5, pst_o, up_p4, up_p5, up_po, hn, hn2, e2, ex, y17, Int.add_zero]
    | inr pw =>
      obtain ⟨p1, w⟩ := pw
      rw [hc] at f2
      obtain ⟨g1, g2, g3, g4⟩ := f2
      rw [bq_r]
      have ht2 : TXT (up s2 148 3 (n + 1)) tx ln := TXT_t ht (frt_t f3 frt_3)
      have hp2 := g3
      have sp := sg_b (p := p1) ht2
      have e2 : ∀ Q, Call (d - 1) 18 [zrf 148, zrf (151 + n)] (G, pst s p (-1)) Q = Q none (G, pst s2 p1 (-1)) := by
        intro Q
        rw [e, ← g1, ← g2, pst_s]
      have hW2 : ∀ i c, (0 ≤ i ∧ i < n + 1) ∧ 0 ≤ c ∧ c < 8 → up s2 148 3 (n + 1) (151 + i) c = wrw W n w i c := by
        intro i c hic
        rw [up_ne (by omega)]
        by_cases q : i = n
        · rw [q, wrw_e, g4 c hic.2]
        · rw [wrw_o q, f1 _ _ (by omega) (by omega), hW i c (by omega)]
      by_cases q : sg tx ln p1 = 59
      · have hl2 := sg_l (tx := tx) (ln := ln) (p := p1) (by omega)
        rw [if_pos ⟨by omega, q⟩]
        obtain ⟨s3, k1, k2, k3⟩ := ih (n + 1) (p1 + 1) (wrw W n w) (up s2 148 3 (n + 1)) (by omega) (by omega) ht2 (by omega) up_eq hW2
        refine ⟨s3, frt_t (frt_t f3 frt_3) k1, k2, fun Q => ?_⟩
        rw [u17_17]
        simp (disch := first | omega | exact rfl) only [↓u17_0, ↓u17_1, ↓u17_2, ↓u17_5, ↓u17_6, ↓u17_7, ↓u17_10, ↓u17_11, ↓u17_12, ↓u17_15, ↓u17_16, ↓u17_18, ↓u17_21, ↓u17_22, ↓u17_25, ↓u17_27, ↓u17_30, ↓u17_31, ↓u17_32, ↓u17_35, ↓u17_36, ↓u17_39, ↓u17_40, ↓u17_43, ↓u17_44, ↓u17_45, ↓u17_48, ↓u17_49, ↓u17_50, ↓u17_53, ↓u17_54, ↓u17_57, ↓u17_60, ↓u17_61, ↓u17_64, ↓u17_66, ↓u17_69, ↓u17_70, ↓u17_73, ↓u17_75, ↓u17_78, ↓u17_79, ↓u17_82, ↓u17_83, ↓u17_84, ↓u17_85, ↓u17_86, ↓u17_89, ↓u17_90, ↓u17_93, ↓u17_94, ↓u17_97, ↓u17_98, ↓u17_99, ↓u17_102, ↓u17_106, ↓u17_109, ↓u17_110, ↓u17_113, ↓u17_116, ↓u17_117, ↓u17_118, ↓u17_121, ↓u17_124, ↓u17_125, ↓u17_128, ↓lI_0, ↓lI_s, ↓lL_0, ↓lL_s, ↓lR_0, ↓lR_s, ↓sT_0, ↓sT_i, ↓sT_r, ↓sT_u, ↓sT_lu, ↓sU_0, ↓sU_i, ↓sU_r, ↓sU_u, ↓ite_bx, bx_T, bx_F, bx_pos, bx_neg, zws_i, zws_r, zws_l, zws_n, zCb_kc, xl_ll, xr_rr, xs_e, xset_e, Option.toList, List.cons_append, List.nil_append, zIb_e, zrng_e, nz_e, if_pos, if_neg, and_true, true_and, or_true, true_or, ite_self, bi_eq0, bi_eq1, bi_1, bi_0, bi_ir, bi_T, bi_F, up_eq, up_ne, ↓reduceIte, reduceIte, Nat.reduceAdd, Nat.reduceLeDiff, Nat.le_refl, Nat.zero_le, not_true_eq_false, not_false_eq_true, ne_eq, Int.reduceEq, Int.reduceLT, Int.reduceLE, Int.reduceAdd, Int.reduceSub, Int.reduceMul, Int.reduceNeg, pT r1, r2, pT r3, r4, r5, pT r6, r7, r8, pst_4, pst_5, pst_o, up_p4, up_p5, up_po, hn, hn2, e2, k3, s19 (show 1 ≤ d - 1 by omega) hr ht2 hp2]
      · rw [if_neg (fun c => q c.2)]
        have ex := fun Q => x17 (d := d) (Q := Q) (p := p1) (f := -1) (v := zint 0) (show 2 ≤ d by omega) hr ht2 hp2 (by omega)
        by_cases q2 : p1 < ln
        · rw [if_pos q2, pf_l]
          rw [if_pos ⟨by omega, q2⟩] at ex
          refine ⟨pst (up s2 148 3 (n + 1)) p1 p1, frt_t (frt_t f3 frt_3) frt_r, hp2, fun Q => ?_⟩
          rw [u17_17]
          simp (disch := first | omega | exact rfl) only [↓u17_0, ↓u17_1, ↓u17_2, ↓u17_5, ↓u17_6, ↓u17_7, ↓u17_10, ↓u17_11, ↓u17_12, ↓u17_15, ↓u17_16, ↓u17_18, ↓u17_21, ↓u17_22, ↓u17_25, ↓u17_27, ↓u17_30, ↓u17_31, ↓u17_32, ↓u17_35, ↓u17_36, ↓u17_39, ↓u17_40, ↓u17_43, ↓u17_44, ↓u17_45, ↓u17_48, ↓u17_49, ↓u17_50, ↓u17_53, ↓u17_54, ↓u17_57, ↓u17_60, ↓u17_61, ↓u17_64, ↓u17_66, ↓u17_69, ↓u17_70, ↓u17_73, ↓u17_75, ↓u17_78, ↓u17_79, ↓u17_82, ↓u17_83, ↓u17_84, ↓u17_85, ↓u17_86, ↓u17_89, ↓u17_90, ↓u17_93, ↓u17_94, ↓u17_97, ↓u17_98, ↓u17_99, ↓u17_102, ↓u17_106, ↓u17_109, ↓u17_110, ↓u17_113, ↓u17_116, ↓u17_117, ↓u17_118, ↓u17_121, ↓u17_124, ↓u17_125, ↓u17_128, ↓lI_0, ↓lI_s, ↓lL_0, ↓lL_s, ↓lR_0, ↓lR_s, ↓sT_0, ↓sT_i, ↓sT_r, ↓sT_u, ↓sT_lu, ↓sU_0, ↓sU_i, ↓sU_r, ↓sU_u, ↓ite_bx, bx_T, bx_F, bx_pos, bx_neg, zws_i, zws_r, zws_l, zws_n, zCb_kc, xl_ll, xr_rr, xs_e, xset_e, Option.toList, List.cons_append, List.nil_append, zIb_e, zrng_e, nz_e, if_pos, if_neg, and_true, true_and, or_true, true_or, ite_self, bi_eq0, bi_eq1, bi_1, bi_0, bi_ir, bi_T, bi_F, up_eq, up_ne, ↓reduceIte, reduceIte, Nat.reduceAdd, Nat.reduceLeDiff, Nat.le_refl, Nat.zero_le, not_true_eq_false, not_false_eq_true, ne_eq, Int.reduceEq, Int.reduceLT, Int.reduceLE, Int.reduceAdd, Int.reduceSub, Int.reduceMul, Int.reduceNeg, pT r1, r2, pT r3, r4, r5, pT r6, r7, r8, pst_4, pst_5, pst_o, up_p4, up_p5, up_po, hn, hn2, e2, ex, y17, Int.add_zero, s19 (show 1 ≤ d - 1 by omega) hr ht2 hp2]
        · rw [if_neg q2, pf_r]
          rw [if_neg (fun c => q2 c.2)] at ex
          refine ⟨pst (up s2 148 3 (n + 1)) p1 (-1), frt_t (frt_t f3 frt_3) frt_r, ⟨by rw [pst_o (by omega), up_eq], by omega, fun i c hic => by rw [pst_o (by omega)]; exact hW2 i c hic⟩, fun Q => ?_⟩
          rw [u17_17]
          simp (disch := first | omega | exact rfl) only [↓u17_0, ↓u17_1, ↓u17_2, ↓u17_5, ↓u17_6, ↓u17_7, ↓u17_10, ↓u17_11, ↓u17_12, ↓u17_15, ↓u17_16, ↓u17_18, ↓u17_21, ↓u17_22, ↓u17_25, ↓u17_27, ↓u17_30, ↓u17_31, ↓u17_32, ↓u17_35, ↓u17_36, ↓u17_39, ↓u17_40, ↓u17_43, ↓u17_44, ↓u17_45, ↓u17_48, ↓u17_49, ↓u17_50, ↓u17_53, ↓u17_54, ↓u17_57, ↓u17_60, ↓u17_61, ↓u17_64, ↓u17_66, ↓u17_69, ↓u17_70, ↓u17_73, ↓u17_75, ↓u17_78, ↓u17_79, ↓u17_82, ↓u17_83, ↓u17_84, ↓u17_85, ↓u17_86, ↓u17_89, ↓u17_90, ↓u17_93, ↓u17_94, ↓u17_97, ↓u17_98, ↓u17_99, ↓u17_102, ↓u17_106, ↓u17_109, ↓u17_110, ↓u17_113, ↓u17_116, ↓u17_117, ↓u17_118, ↓u17_121, ↓u17_124, ↓u17_125, ↓u17_128, ↓lI_0, ↓lI_s, ↓lL_0, ↓lL_s, ↓lR_0, ↓lR_s, ↓sT_0, ↓sT_i, ↓sT_r, ↓sT_u, ↓sT_lu, ↓sU_0, ↓sU_i, ↓sU_r, ↓sU_u, ↓ite_bx, bx_T, bx_F, bx_pos, bx_neg, zws_i, zws_r, zws_l, zws_n, zCb_kc, xl_ll, xr_rr, xs_e, xset_e, Option.toList, List.cons_append, List.nil_append, zIb_e, zrng_e, nz_e, if_pos, if_neg, and_true, true_and, or_true, true_or, ite_self, bi_eq0, bi_eq1, bi_1, bi_0, bi_ir, bi_T, bi_F, up_eq, up_ne, ↓reduceIte, reduceIte, Nat.reduceAdd, Nat.reduceLeDiff, Nat.le_refl, Nat.zero_le, not_true_eq_false, not_false_eq_true, ne_eq, Int.reduceEq, Int.reduceLT, Int.reduceLE, Int.reduceAdd, Int.reduceSub, Int.reduceMul, Int.reduceNeg, pT r1, r2, pT r3, r4, r5, pT r6, r7, r8, pst_4, pst_5, pst_o, up_p4, up_p5, up_po, hn, hn2, e2, ex, y17, Int.add_zero, s19 (show 1 ≤ d - 1 by omega) hr ht2 hp2]
set_option maxRecDepth 8000 in
theorem s17 {d : Nat} {G : XS} {s : ZS} {tx : Int → Int} {ln : Int} (hd : 6 ≤ d) (hr : RDR G) (ht : TXT s tx ln) : ∃ s2, frt s s2 ∧ rst (pgo tx ln 8 0 0 (fun _ _ => 0)) ln s2 ∧ ∀ Q, Call d 17 [zrf 148] (G, s) Q = Q (some (zint (pf (pgo tx ln 8 0 0 (fun _ _ => 0))))) (G, s2) := by
  have hr' := hr
  obtain ⟨r1, r2, r3, r4, r5, r6, r7, r8, r9, r10⟩ := hr'
  obtain ⟨s2, h1, h2, e⟩ := l17 hd hr 7 0 0 (fun _ _ => 0) (up s 148 3 0) (by omega) (by omega) (TXT_t ht frt_3) (by have := ht.2.1; omega) up_eq (fun i c h => by omega)
  refine ⟨s2, frt_t frt_3 h1, h2, fun Q => ?_⟩
  rw [e17 (show 1 ≤ d by omega)]
  have e2 := e Q
  simp (disch := first | omega | exact rfl) only [↓u17_0, ↓u17_1, ↓u17_2, ↓u17_5, ↓u17_6, ↓u17_7, ↓u17_10, ↓u17_11, ↓u17_12, ↓u17_15, ↓u17_16, ↓u17_18, ↓u17_21, ↓u17_22, ↓u17_25, ↓u17_27, ↓u17_30, ↓u17_31, ↓u17_32, ↓u17_35, ↓u17_36, ↓u17_39, ↓u17_40, ↓u17_43, ↓u17_44, ↓u17_45, ↓u17_48, ↓u17_49, ↓u17_50, ↓u17_53, ↓u17_54, ↓u17_57, ↓u17_60, ↓u17_61, ↓u17_64, ↓u17_66, ↓u17_69, ↓u17_70, ↓u17_73, ↓u17_75, ↓u17_78, ↓u17_79, ↓u17_82, ↓u17_83, ↓u17_84, ↓u17_85, ↓u17_86, ↓u17_89, ↓u17_90, ↓u17_93, ↓u17_94, ↓u17_97, ↓u17_98, ↓u17_99, ↓u17_102, ↓u17_105, ↓u17_106, ↓u17_109, ↓u17_110, ↓u17_113, ↓u17_116, ↓u17_117, ↓u17_118, ↓u17_121, ↓u17_124, ↓u17_125, ↓u17_128, ↓lI_0, ↓lI_s, ↓lL_0, ↓lL_s, ↓lR_0, ↓lR_s, ↓sT_0, ↓sT_i, ↓sT_r, ↓sT_u, ↓sT_lu, ↓sU_0, ↓sU_i, ↓sU_r, ↓sU_u, ↓ite_bx, bx_T, bx_F, bx_pos, bx_neg, zws_i, zws_r, zws_l, zws_n, zCb_kc, xl_ll, xr_rr, xs_e, xset_e, Option.toList, List.cons_append, List.nil_append, zIb_e, zrng_e, nz_e, if_pos, if_neg, and_true, true_and, or_true, true_or, ite_self, bi_eq0, bi_eq1, bi_1, bi_0, bi_ir, bi_T, bi_F, up_eq, up_ne, ↓reduceIte, reduceIte, Nat.reduceAdd, Nat.reduceLeDiff, Nat.le_refl, Nat.zero_le, not_true_eq_false, not_false_eq_true, ne_eq, Int.reduceEq, Int.reduceLT, Int.reduceLE, Int.reduceAdd, Int.reduceSub, Int.reduceMul, Int.reduceNeg, pT r1, r2, pT r3, r4, r5, pT r6, r7, r8, pst_4, pst_5, pst_o, up_p4, up_p5, up_po, pst_d, e2]
set_option maxRecDepth 8000 in
theorem b8n : ∀ n : Nat, n < 128 → (Int32.ofInt (n : Int)).toInt8.toInt32.toInt = n := by decide +kernel
set_option maxRecDepth 8000 in
theorem b8 {x : Int} (h : 0 ≤ x ∧ x ≤ 127) : (Int32.ofInt x).toInt8.toInt32.toInt = x := by
  have := b8n x.toNat (by omega)
  rw [show ((x.toNat : Nat) : Int) = x by omega] at this
  exact this
set_option maxRecDepth 8000 in
theorem s16_y {d : Nat} {Q : Option AV → XH → Prop} {G : XS} {s : ZS} {x ln : Int} (hd : 1 ≤ d) (hr : RDR G) (hl : s 148 2 = ln) (h : 0 ≤ ln ∧ ln < 100) (hx : 0 ≤ x ∧ x ≤ 127) : Call d 16 [zrf 148, zint x] (G, s) Q = Q (some (zint 1)) (G, up (up s 149 ln x) 148 2 (ln + 1)) := by
  have hr' := hr
  obtain ⟨r1, r2, r3, r4, r5, r6, r7, r8, r9, r10⟩ := hr'
  rw [e16 (show 1 ≤ d by omega)]
  simp (disch := first | omega | exact rfl) only [↓u16_0, ↓u16_1, ↓u16_4, ↓u16_6, ↓u16_9, ↓u16_10, ↓u16_11, ↓u16_12, ↓u16_15, ↓u16_16, ↓u16_19, ↓u16_20, ↓u16_21, ↓u16_22, ↓u16_23, ↓u16_24, ↓u16_27, ↓u16_28, ↓u16_29, ↓u16_32, ↓u16_33, ↓lI_0, ↓lI_s, ↓lL_0, ↓lL_s, ↓lR_0, ↓lR_s, ↓sT_0, ↓sT_i, ↓sT_r, ↓sT_u, ↓sT_lu, ↓sU_0, ↓sU_i, ↓sU_r, ↓sU_u, ↓ite_bx, bx_T, bx_F, bx_pos, bx_neg, zws_i, zws_r, zws_l, zws_n, zCb_kc, xl_ll, xr_rr, xs_e, xset_e, Option.toList, List.cons_append, List.nil_append, zIb_e, zrng_e, nz_e, if_pos, if_neg, and_true, true_and, or_true, true_or, ite_self, bi_eq0, bi_eq1, bi_1, bi_0, bi_ir, bi_T, bi_F, up_eq, up_ne, ↓reduceIte, reduceIte, Nat.reduceAdd, Nat.reduceLeDiff, Nat.le_refl, Nat.zero_le, not_true_eq_false, not_false_eq_true, ne_eq, Int.reduceEq, Int.reduceLT, Int.reduceLE, Int.reduceAdd, Int.reduceSub, Int.reduceMul, Int.reduceNeg, pT r1, r2, pT r3, r4, r5, pT r6, r7, r8, pst_4, pst_5, pst_o, up_p4, up_p5, up_po, hl, b8]
set_option maxRecDepth 8000 in
theorem s16_n {d : Nat} {Q : Option AV → XH → Prop} {G : XS} {s : ZS} {x ln : Int} (hd : 1 ≤ d) (hr : RDR G) (hl : s 148 2 = ln) (h : ln = 100) : Call d 16 [zrf 148, zint x] (G, s) Q = Q (some (zint 0)) (G, s) := by
  have hr' := hr
  obtain ⟨r1, r2, r3, r4, r5, r6, r7, r8, r9, r10⟩ := hr'
  rw [e16 (show 1 ≤ d by omega)]
  simp (disch := first | omega | exact rfl) only [↓u16_0, ↓u16_1, ↓u16_4, ↓u16_6, ↓u16_9, ↓u16_10, ↓u16_11, ↓u16_12, ↓u16_15, ↓u16_16, ↓u16_19, ↓u16_20, ↓u16_21, ↓u16_22, ↓u16_23, ↓u16_24, ↓u16_27, ↓u16_28, ↓u16_29, ↓u16_32, ↓u16_33, ↓lI_0, ↓lI_s, ↓lL_0, ↓lL_s, ↓lR_0, ↓lR_s, ↓sT_0, ↓sT_i, ↓sT_r, ↓sT_u, ↓sT_lu, ↓sU_0, ↓sU_i, ↓sU_r, ↓sU_u, ↓ite_bx, bx_T, bx_F, bx_pos, bx_neg, zws_i, zws_r, zws_l, zws_n, zCb_kc, xl_ll, xr_rr, xs_e, xset_e, Option.toList, List.cons_append, List.nil_append, zIb_e, zrng_e, nz_e, if_pos, if_neg, and_true, true_and, or_true, true_or, ite_self, bi_eq0, bi_eq1, bi_1, bi_0, bi_ir, bi_T, bi_F, up_eq, up_ne, ↓reduceIte, reduceIte, Nat.reduceAdd, Nat.reduceLeDiff, Nat.le_refl, Nat.zero_le, not_true_eq_false, not_false_eq_true, ne_eq, Int.reduceEq, Int.reduceLT, Int.reduceLE, Int.reduceAdd, Int.reduceSub, Int.reduceMul, Int.reduceNeg, pT r1, r2, pT r3, r4, r5, pT r6, r7, r8, pst_4, pst_5, pst_o, up_p4, up_p5, up_po, hl]
