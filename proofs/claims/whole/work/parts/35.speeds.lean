/-! the class LooseGrid: speeds, ends -/
abbrev snp (B : ZS) (N b vx : Int) (s : ZS) (a r : Int) : Prop := hr B N (rv s a r 0) ∧ itb (rv s a r 1).toNat (up B b 6 vx) (rv s a r 0) 2 = rv s a r 2
def sna (B : ZS) (N b vx : Int) (s : ZS) (a n i : Int) : Prop := ∀ r, i ≤ r ∧ r < n → snp B N b vx s a r
set_option maxRecDepth 8000 in
theorem sna_e {B : ZS} {N b vx a n i : Int} {s : ZS} (h : n ≤ i) : sna B N b vx s a n i := fun r hr => by omega
set_option maxRecDepth 8000 in
theorem sna_s {B : ZS} {N b vx a n i : Int} {s : ZS} (h : i < n) (h2 : snp B N b vx s a i) : sna B N b vx s a n i = sna B N b vx s a n (i + 1) := by
  apply propext
  constructor
  · intro h3 r hr
    exact h3 r (by omega)
  · intro h3 r hr
    by_cases e : r = i
    · rw [e]; exact h2
    · exact h3 r (by omega)
set_option maxRecDepth 8000 in
theorem sna_n {B : ZS} {N b vx a n i : Int} {s : ZS} (h : i < n) (h2 : ¬snp B N b vx s a i) : ¬sna B N b vx s a n i := fun h3 => h2 (h3 i ⟨Int.le_refl i, h⟩)
set_option maxRecDepth 8000 in
theorem okb_6 {B : ZS} {b v i : Int} (h : okb B i) (hv : -9 ≤ v ∧ v ≤ 9) : okb (up B b 6 v) i := by
  have h6 : up B b 6 v i 6 = B i 6 ∨ up B b 6 v i 6 = v := by
    by_cases e : i = b
    · right; rw [e, up_eq]
    · left; rw [up_ne (Or.inl e)]
  simp (disch := omega) only [okb, up_ne]
  omega
set_option maxRecDepth 8000 in
theorem s02 {d : Nat} {Q : Option AV → XH → Prop} {G : XS} {s : ZS} {o p : Int} (hd : 2 ≤ d) (hk : kc G o 0) (hk2 : kc G p 0) (hn : p ≠ o) (h8 : 0 ≤ s p 8 ∧ s p 8 ≤ 1) : Call d 2 [zrf o, zrf p] (G, s) Q = Q none (G, cpb s o p) := s2 hd hk hk2 hn h8
set_option maxRecDepth 8000 in
theorem itb_o : ∀ (n : Nat) {B : ZS} {i : Int}, okb B i → okb (itb n B) i := by
  intro n
  induction n with
  | zero => intro B i h; exact h
  | succ n ih => intro B i h; exact ih (okb_s h)
set_option maxRecDepth 8000 in
theorem i85 {d : Nat} {G : XS} {W U V b vx i nb o5 k m : Int} {s : ZS} (hd : 6 ≤ d) (hg : LOK G W U V) (hi : 0 ≤ i ∧ i < 5) (hk : 0 ≤ k ∧ k ≤ 12) (e1 : rv s (W + 44) i 1 = k) : ∀ (j : Nat) (q : Int) (t C : ZS), q + j = k → 0 ≤ q → fvw s t V → (∀ f, 0 ≤ f ∧ f < 9 → t (V + 2 + 0) f = C m f) → okb C m → ∃ s2, fvw t s2 V ∧ s2 (V + 2 + 0) 2 = itb j C m 2 ∧ ∀ Q, Wp (d - 1) 85 (81, [zrf 0, zint b, zint vx, zint i, zint nb, zrf o5, zrf (V + 2 + 0), zint q], [], (G, t)) Q = Wp (d - 1) 85 (109, [zrf 0, zint b, zint vx, zint i, zint nb, zrf o5, zrf (V + 2 + 0), zint k], [], (G, s2)) Q := by
  obtain ⟨g1, g2, g3, g4, g5, g6, hw, hu, hx, g7, g8, g9, g10, g11, g12⟩ := id hg
  obtain ⟨rs, rp, rb⟩ := rok1 hw
  have x6 := hx.2.2.2.2.2.1
  have kv0 := x6 0 (by omega)
  have hw' := hw
  obtain ⟨w1, w2, w3, w4, w5, w6, w7, w8, w9, w10, w11, w12, w13, w14, w15, w16, w17, w18, w19, w20, w21, w22, w23, w24, w25⟩ := hw'
  intro j
  induction j with
  | zero =>
    intro q t C h1 h2 ht hc ho
    have y1 := fun Q => s29 (d := d - 1) (Q := Q) (s := t) (r := i) (c := 1) (show 2 ≤ d - 1 by omega) rs (by omega) (by omega)
    rw [show W + 43 + 1 = W + 44 by omega, ht (W + 44) _ (by omega), show s (W + 44) (i * 3 + 1) = k from e1] at y1
    refine ⟨t, fun a c h => rfl, hc 2 (by omega), fun Q => ?_⟩
    rw [show q = k by omega, u85_81]
    simp (disch := first | omega | exact rfl) only [↓u85_0, ↓u85_1, ↓u85_2, ↓u85_3, ↓u85_4, ↓u85_7, ↓u85_10, ↓u85_13, ↓u85_16, ↓u85_17, ↓u85_20, ↓u85_23, ↓u85_24, ↓u85_25, ↓u85_28, ↓u85_30, ↓u85_31, ↓u85_34, ↓u85_36, ↓u85_39, ↓u85_41, ↓u85_43, ↓u85_46, ↓u85_47, ↓u85_48, ↓u85_49, ↓u85_52, ↓u85_55, ↓u85_56, ↓u85_57, ↓u85_59, ↓u85_61, ↓u85_63, ↓u85_66, ↓u85_68, ↓u85_69, ↓u85_72, ↓u85_74, ↓u85_75, ↓u85_78, ↓u85_79, ↓u85_83, ↓u85_84, ↓u85_87, ↓u85_90, ↓u85_91, ↓u85_92, ↓u85_95, ↓u85_98, ↓u85_100, ↓u85_103, ↓u85_106, ↓u85_111, ↓u85_114, ↓u85_115, ↓u85_118, ↓u85_121, ↓u85_122, ↓u85_123, ↓u85_126, ↓u85_129, ↓u85_130, ↓u85_131, ↓u85_134, ↓u85_137, ↓u85_138, ↓lI_0, ↓lI_s, ↓lL_0, ↓lL_s, ↓lR_0, ↓lR_s, ↓sT_0, ↓sT_i, ↓sT_r, ↓sT_u, ↓sT_lu, ↓sU_0, ↓sU_i, ↓sU_r, ↓sU_u, ↓ite_bx, bx_T, bx_F, bx_pos, bx_neg, zws_i, zws_r, zws_l, zws_n, zCb_kc, xl_ll, xr_rr, xs_e, xset_e, Option.toList, List.cons_append, List.nil_append, zIb_e, zrng_e, nz_e, if_pos, if_neg, and_true, true_and, or_true, true_or, ite_self, bi_eq0, bi_eq1, bi_1, bi_0, bi_ir, bi_T, bi_F, up_eq, up_ne, ↓reduceIte, reduceIte, Nat.reduceAdd, Nat.reduceLeDiff, Nat.le_refl, Nat.zero_le, not_true_eq_false, not_false_eq_true, ne_eq, Int.reduceEq, Int.reduceLT, Int.reduceLE, Int.reduceAdd, Int.reduceSub, Int.reduceMul, Int.reduceNeg, pT g1, g2, g4, pT w1, pT w13, w10, y1, pT kv0]
  | succ j ih =>
    intro q t C h1 h2 ht hc ho
    have y1 := fun Q => s29 (d := d - 1) (Q := Q) (s := t) (r := i) (c := 1) (show 2 ≤ d - 1 by omega) rs (by omega) (by omega)
    rw [show W + 43 + 1 = W + 44 by omega, ht (W + 44) _ (by omega), show s (W + 44) (i * 3 + 1) = k from e1] at y1
    have okt := okb_v hc ho
    obtain ⟨s2, f1, f2, e⟩ := ih (q + 1) (stc t (V + 2 + 0)) (stp C) (by omega) (by omega) (fun a c h => by rw [stc_o (by omega), ht a c h]) (fun f hf => by rw [stc_y]; exact stp_c hc (hc f hf)) (okb_s ho)
    refine ⟨s2, fun a c h => by rw [f1 a c h, stc_o (by omega)], f2, fun Q => ?_⟩
    rw [u85_81]
    simp (disch := first | omega | exact rfl) only [↓u85_0, ↓u85_1, ↓u85_2, ↓u85_3, ↓u85_4, ↓u85_7, ↓u85_10, ↓u85_13, ↓u85_16, ↓u85_17, ↓u85_20, ↓u85_23, ↓u85_24, ↓u85_25, ↓u85_28, ↓u85_30, ↓u85_31, ↓u85_34, ↓u85_36, ↓u85_39, ↓u85_41, ↓u85_43, ↓u85_46, ↓u85_47, ↓u85_48, ↓u85_49, ↓u85_52, ↓u85_55, ↓u85_56, ↓u85_57, ↓u85_59, ↓u85_61, ↓u85_63, ↓u85_66, ↓u85_68, ↓u85_69, ↓u85_72, ↓u85_74, ↓u85_75, ↓u85_78, ↓u85_79, ↓u85_83, ↓u85_84, ↓u85_87, ↓u85_90, ↓u85_91, ↓u85_92, ↓u85_95, ↓u85_98, ↓u85_100, ↓u85_103, ↓u85_106, ↓u85_111, ↓u85_114, ↓u85_115, ↓u85_118, ↓u85_121, ↓u85_122, ↓u85_123, ↓u85_126, ↓u85_129, ↓u85_130, ↓u85_131, ↓u85_134, ↓u85_137, ↓u85_138, ↓lI_0, ↓lI_s, ↓lL_0, ↓lL_s, ↓lR_0, ↓lR_s, ↓sT_0, ↓sT_i, ↓sT_r, ↓sT_u, ↓sT_lu, ↓sU_0, ↓sU_i, ↓sU_r, ↓sU_u, ↓ite_bx, bx_T, bx_F, bx_pos, bx_neg, zws_i, zws_r, zws_l, zws_n, zCb_kc, xl_ll, xr_rr, xs_e, xset_e, Option.toList, List.cons_append, List.nil_append, zIb_e, zrng_e, nz_e, if_pos, if_neg, and_true, true_and, or_true, true_or, ite_self, bi_eq0, bi_eq1, bi_1, bi_0, bi_ir, bi_T, bi_F, up_eq, up_ne, ↓reduceIte, reduceIte, Nat.reduceAdd, Nat.reduceLeDiff, Nat.le_refl, Nat.zero_le, not_true_eq_false, not_false_eq_true, ne_eq, Int.reduceEq, Int.reduceLT, Int.reduceLE, Int.reduceAdd, Int.reduceSub, Int.reduceMul, Int.reduceNeg, pT g1, g2, g4, pT w1, pT w13, w10, y1, pT kv0, s4 (show 3 ≤ d - 1 by omega) kv0 okt, e]
set_option maxRecDepth 8000 in
theorem l85 {d : Nat} {G : XS} {s : ZS} {W U V : Int} {B : ZS} {N R T : Int} {b vx n : Int} (hd : 7 ≤ d) (hg : LOK G W U V) (hv : CV s W B N R T) (hb : OKB B N) (hn : 0 ≤ N ∧ N ≤ 40 ∧ 0 ≤ R ∧ R ≤ 10 ∧ 0 ≤ T ∧ T ≤ 20000) (hs : s (W + 43) 2 = n) (hnn : 0 ≤ n ∧ n ≤ 5) (hi : ∀ r, 0 ≤ r ∧ r < n → ir (rv s (W + 44) r 0) ∧ (0 ≤ rv s (W + 44) r 1 ∧ rv s (W + 44) r 1 ≤ 12) ∧ ir (rv s (W + 44) r 2)) (ib : ir b) (iv : -9 ≤ vx ∧ vx ≤ 9) : ∀ i, 0 ≤ i → i ≤ n → ∀ (t : ZS) (v4 v5 v6 v7 : AV), fvw s t V → ∃ s2, fvw s s2 V ∧ ∀ Q, Wp (d - 1) 85 (2, [zrf 0, zint b, zint vx, zint i, v4, v5, v6, v7], [], (G, t)) Q = Q (some (zint (bi (sna B N b vx s (W + 44) n i)))) (G, s2) := by
  have hg' := hg
  obtain ⟨g1, g2, g3, g4, g5, g6, hw, hu, hx, g7, g8, g9, g10, g11, g12⟩ := hg'
  have hw' := hw
  obtain ⟨w1, w2, w3, w4, w5, w6, w7, w8, w9, w10, w11, w12, w13, w14, w15, w16, w17, w18, w19, w20, w21, w22, w23, w24, w25⟩ := hw'
  have hv' := hv
  obtain ⟨v1, v2, v3, vB⟩ := hv'
  obtain ⟨rs, rp, rb⟩ := rok1 hw
  have e43 : W + 43 + 1 = W + 44 := by omega
  obtain ⟨x1, x2, x3, x4, x5, x6, -⟩ := id hx
  have kv0 := x6 0 (by omega)
  refine dn (P := fun i => ∀ (t : ZS) (v4 v5 v6 v7 : AV), fvw s t V → ∃ s2, fvw s s2 V ∧ ∀ Q, Wp (d - 1) 85 (2, [zrf 0, zint b, zint vx, zint i, v4, v5, v6, v7], [], (G, t)) Q = Q (some (zint (bi (sna B N b vx s (W + 44) n i)))) (G, s2)) ?_ ?_
  · intro t v4 v5 v6 v7 ht
    have n5 : t (W + 43) 2 = n := by rw [ht _ _ (by omega)]; exact hs
    refine ⟨t, ht, fun Q => ?_⟩
    rw [bi_1 (sna_e (Int.le_refl n)), u85_2]
    simp (disch := first | omega | exact rfl) only [↓u85_0, ↓u85_1, ↓u85_3, ↓u85_4, ↓u85_7, ↓u85_10, ↓u85_13, ↓u85_16, ↓u85_17, ↓u85_20, ↓u85_23, ↓u85_24, ↓u85_25, ↓u85_28, ↓u85_30, ↓u85_31, ↓u85_34, ↓u85_36, ↓u85_39, ↓u85_41, ↓u85_43, ↓u85_46, ↓u85_47, ↓u85_48, ↓u85_49, ↓u85_52, ↓u85_55, ↓u85_56, ↓u85_57, ↓u85_59, ↓u85_61, ↓u85_63, ↓u85_66, ↓u85_68, ↓u85_69, ↓u85_72, ↓u85_74, ↓u85_75, ↓u85_78, ↓u85_79, ↓u85_81, ↓u85_83, ↓u85_84, ↓u85_87, ↓u85_90, ↓u85_91, ↓u85_92, ↓u85_95, ↓u85_98, ↓u85_100, ↓u85_103, ↓u85_106, ↓u85_109, ↓u85_111, ↓u85_114, ↓u85_115, ↓u85_118, ↓u85_121, ↓u85_122, ↓u85_123, ↓u85_126, ↓u85_129, ↓u85_130, ↓u85_131, ↓u85_134, ↓u85_137, ↓u85_138, ↓lI_0, ↓lI_s, ↓lL_0, ↓lL_s, ↓lR_0, ↓lR_s, ↓sT_0, ↓sT_i, ↓sT_r, ↓sT_u, ↓sT_lu, ↓sU_0, ↓sU_i, ↓sU_r, ↓sU_u, ↓ite_bx, bx_T, bx_F, bx_pos, bx_neg, zws_i, zws_r, zws_l, zws_n, zCb_kc, xl_ll, xr_rr, xs_e, xset_e, Option.toList, List.cons_append, List.nil_append, zIb_e, zrng_e, nz_e, if_pos, if_neg, and_true, true_and, or_true, true_or, ite_self, bi_eq0, bi_eq1, bi_1, bi_0, bi_ir, bi_T, bi_F, up_eq, up_ne, ↓reduceIte, reduceIte, Nat.reduceAdd, Nat.reduceLeDiff, Nat.le_refl, Nat.zero_le, not_true_eq_false, not_false_eq_true, ne_eq, Int.reduceEq, Int.reduceLT, Int.reduceLE, Int.reduceAdd, Int.reduceSub, Int.reduceMul, Int.reduceNeg, pT g1, g2, g4, pT w1, pT w13, w10, pT hx.1, x2, pT x3, x4, x5, n5]
  · intro i h0 h1 ih t v4 v5 v6 v7 ht
    have n5 : t (W + 43) 2 = n := by rw [ht _ _ (by omega)]; exact hs
    have hvt := CV_f hv hn.2.1 ht (by omega)
    have a0 := hi i ⟨h0, h1⟩
    have y0 := fun Q => s29 (d := d - 1) (Q := Q) (s := t) (r := i) (c := 0) (show 2 ≤ d - 1 by omega) rs (by omega) (by omega)
    rw [e43, ht (W + 44) _ (by omega)] at y0
    generalize hb0 : rv s (W + 44) i 0 = nb at a0
    generalize hb1 : rv s (W + 44) i 1 = k at a0
    generalize hb2 : rv s (W + 44) i 2 = xx at a0
    have hb0' : s (W + 44) (i * 3 + 0) = nb := hb0
    have hb2' : s (W + 44) (i * 3 + 2) = xx := hb2
    rw [hb0'] at y0
    by_cases q : hr B N nb
    · have qn := q.1
      have bb := hb nb qn
      have k1 := w6 nb (by omega)
      have v8 : t (W + 2 + nb) 8 = 1 := by rw [hvt.2.2.2 nb 8 (by omega)]; exact q.2
      have c8 : 0 ≤ t (W + 2 + nb) 8 ∧ t (W + 2 + nb) 8 ≤ 1 := by omega
      have ok6 := okb_6 (b := b) (v := vx) bb iv
      have cN : ∀ f, 0 ≤ f ∧ f < 9 → cpb t (V + 2 + 0) (W + 2 + nb) (V + 2 + 0) f = B nb f := by
        intro f hf
        have e : cpb t (V + 2 + 0) (W + 2 + nb) (V + 2 + 0) f = t (W + 2 + nb) f := if_pos ⟨rfl, hf⟩
        rw [e]
        exact hvt.2.2.2 nb f ⟨qn, hf⟩
      have cO : fvw t (cpb t (V + 2 + 0) (W + 2 + nb)) V := fun a c h => if_neg (by omega)
      by_cases qb : nb = b
      · have cU : ∀ f, 0 ≤ f ∧ f < 9 → up (cpb t (V + 2 + 0) (W + 2 + nb)) (V + 2 + 0) 6 vx (V + 2 + 0) f = up B b 6 vx nb f := by
          intro f hf
          by_cases e6 : f = 6
          · rw [e6, up_eq, qb, up_eq]
          · rw [up_ne (Or.inr e6), up_ne (Or.inr e6), cN f hf]
        have tU : fvw s (up (cpb t (V + 2 + 0) (W + 2 + nb)) (V + 2 + 0) 6 vx) V := fun a c h => by rw [up_ne (by omega), cO a c h, ht a c h]
        obtain ⟨s3, f1, f2, e⟩ := i85 (d := d) (b := b) (vx := vx) (nb := nb) (o5 := W + 2 + nb) (show 6 ≤ d by omega) hg (show 0 ≤ i ∧ i < 5 by omega) a0.2.1 hb1 k.toNat 0 (up (cpb t (V + 2 + 0) (W + 2 + nb)) (V + 2 + 0) 6 vx) (up B b 6 vx) (by omega) (Int.le_refl 0) tU cU ok6
        have t3 : fvw s s3 V := fvw_t tU f1
        have kb := itb_o k.toNat ok6
        have y2 := fun Q => s29 (d := d - 1) (Q := Q) (s := s3) (r := i) (c := 2) (show 2 ≤ d - 1 by omega) rs (by omega) (by omega)
        rw [e43, t3 (W + 44) _ (by omega), hb2'] at y2
        generalize hz : itb k.toNat (up B b 6 vx) nb 2 = z at f2
        have zb : 0 ≤ z ∧ z ≤ 128 := by rw [← hz]; omega
        by_cases qz : z = xx
        · obtain ⟨s2, f4, e2⟩ := ih s3 (zint nb) (zrf (W + 2 + nb)) (zrf (V + 2 + 0)) (zint k) t3
          refine ⟨s2, f4, fun Q => ?_⟩
          rw [sna_s h1 (show snp B N b vx s (W + 44) i from ⟨by rw [hb0]; exact q, by rw [hb0, hb1, hb2, hz]; exact qz⟩), u85_2]
          simp (disch := first | omega | exact rfl) only [↓u85_0, ↓u85_1, ↓u85_3, ↓u85_4, ↓u85_7, ↓u85_10, ↓u85_13, ↓u85_16, ↓u85_17, ↓u85_20, ↓u85_23, ↓u85_24, ↓u85_25, ↓u85_28, ↓u85_30, ↓u85_31, ↓u85_34, ↓u85_36, ↓u85_39, ↓u85_41, ↓u85_43, ↓u85_46, ↓u85_47, ↓u85_48, ↓u85_49, ↓u85_52, ↓u85_55, ↓u85_56, ↓u85_57, ↓u85_59, ↓u85_61, ↓u85_63, ↓u85_66, ↓u85_68, ↓u85_69, ↓u85_72, ↓u85_74, ↓u85_75, ↓u85_78, ↓u85_79, ↓u85_83, ↓u85_84, ↓u85_87, ↓u85_90, ↓u85_91, ↓u85_92, ↓u85_95, ↓u85_98, ↓u85_100, ↓u85_103, ↓u85_106, ↓u85_109, ↓u85_111, ↓u85_114, ↓u85_115, ↓u85_118, ↓u85_121, ↓u85_122, ↓u85_123, ↓u85_126, ↓u85_129, ↓u85_130, ↓u85_131, ↓u85_134, ↓u85_137, ↓u85_138, ↓lI_0, ↓lI_s, ↓lL_0, ↓lL_s, ↓lR_0, ↓lR_s, ↓sT_0, ↓sT_i, ↓sT_r, ↓sT_u, ↓sT_lu, ↓sU_0, ↓sU_i, ↓sU_r, ↓sU_u, ↓ite_bx, bx_T, bx_F, bx_pos, bx_neg, zws_i, zws_r, zws_l, zws_n, zCb_kc, xl_ll, xr_rr, xs_e, xset_e, Option.toList, List.cons_append, List.nil_append, zIb_e, zrng_e, nz_e, if_pos, if_neg, and_true, true_and, or_true, true_or, ite_self, bi_eq0, bi_eq1, bi_1, bi_0, bi_ir, bi_T, bi_F, up_eq, up_ne, ↓reduceIte, reduceIte, Nat.reduceAdd, Nat.reduceLeDiff, Nat.le_refl, Nat.zero_le, not_true_eq_false, not_false_eq_true, ne_eq, Int.reduceEq, Int.reduceLT, Int.reduceLE, Int.reduceAdd, Int.reduceSub, Int.reduceMul, Int.reduceNeg, pT g1, g2, g4, pT w1, pT w13, w10, pT hx.1, x2, pT x3, x4, x5, n5, y0, y2, f2, pT kv0, s37_y (show 2 ≤ d - 1 by omega) hw hvt hb hn q, s02 (show 2 ≤ d - 1 by omega) kv0 k1 (show W + 2 + nb ≠ V + 2 + 0 by omega) c8, e, e2]
        · refine ⟨s3, t3, fun Q => ?_⟩
          rw [bi_0 (sna_n h1 (show ¬snp B N b vx s (W + 44) i from fun c => qz (by have c2 := c.2; rw [hb0, hb1, hb2, hz] at c2; exact c2))), u85_2]
          simp (disch := first | omega | exact rfl) only [↓u85_0, ↓u85_1, ↓u85_3, ↓u85_4, ↓u85_7, ↓u85_10, ↓u85_13, ↓u85_16, ↓u85_17, ↓u85_20, ↓u85_23, ↓u85_24, ↓u85_25, ↓u85_28, ↓u85_30, ↓u85_31, ↓u85_34, ↓u85_36, ↓u85_39, ↓u85_41, ↓u85_43, ↓u85_46, ↓u85_47, ↓u85_48, ↓u85_49, ↓u85_52, ↓u85_55, ↓u85_56, ↓u85_57, ↓u85_59, ↓u85_61, ↓u85_63, ↓u85_66, ↓u85_68, ↓u85_69, ↓u85_72, ↓u85_74, ↓u85_75, ↓u85_78, ↓u85_79, ↓u85_83, ↓u85_84, ↓u85_87, ↓u85_90, ↓u85_91, ↓u85_92, ↓u85_95, ↓u85_98, ↓u85_100, ↓u85_103, ↓u85_106, ↓u85_109, ↓u85_111, ↓u85_114, ↓u85_115, ↓u85_118, ↓u85_121, ↓u85_122, ↓u85_123, ↓u85_126, ↓u85_129, ↓u85_130, ↓u85_131, ↓u85_134, ↓u85_137, ↓u85_138, ↓lI_0, ↓lI_s, ↓lL_0, ↓lL_s, ↓lR_0, ↓lR_s, ↓sT_0, ↓sT_i, ↓sT_r, ↓sT_u, ↓sT_lu, ↓sU_0, ↓sU_i, ↓sU_r, ↓sU_u, ↓ite_bx, bx_T, bx_F, bx_pos, bx_neg, zws_i, zws_r, zws_l, zws_n, zCb_kc, xl_ll, xr_rr, xs_e, xset_e, Option.toList, List.cons_append, List.nil_append, zIb_e, zrng_e, nz_e, if_pos, if_neg, and_true, true_and, or_true, true_or, ite_self, bi_eq0, bi_eq1, bi_1, bi_0, bi_ir, bi_T, bi_F, up_eq, up_ne, ↓reduceIte, reduceIte, Nat.reduceAdd, Nat.reduceLeDiff, Nat.le_refl, Nat.zero_le, not_true_eq_false, not_false_eq_true, ne_eq, Int.reduceEq, Int.reduceLT, Int.reduceLE, Int.reduceAdd, Int.reduceSub, Int.reduceMul, Int.reduceNeg, pT g1, g2, g4, pT w1, pT w13, w10, pT hx.1, x2, pT x3, x4, x5, n5, y0, y2, f2, pT kv0, s37_y (show 2 ≤ d - 1 by omega) hw hvt hb hn q, s02 (show 2 ≤ d - 1 by omega) kv0 k1 (show W + 2 + nb ≠ V + 2 + 0 by omega) c8, e]
      · have cU : ∀ f, 0 ≤ f ∧ f < 9 → cpb t (V + 2 + 0) (W + 2 + nb) (V + 2 + 0) f = up B b 6 vx nb f := by
          intro f hf
          rw [up_ne (Or.inl qb), cN f hf]
        have tU : fvw s (cpb t (V + 2 + 0) (W + 2 + nb)) V := fun a c h => by rw [cO a c h, ht a c h]
        obtain ⟨s3, f1, f2, e⟩ := i85 (d := d) (b := b) (vx := vx) (nb := nb) (o5 := W + 2 + nb) (show 6 ≤ d by omega) hg (show 0 ≤ i ∧ i < 5 by omega) a0.2.1 hb1 k.toNat 0 (cpb t (V + 2 + 0) (W + 2 + nb)) (up B b 6 vx) (by omega) (Int.le_refl 0) tU cU ok6
        have t3 : fvw s s3 V := fvw_t tU f1
        have kb := itb_o k.toNat ok6
        have y2 := fun Q => s29 (d := d - 1) (Q := Q) (s := s3) (r := i) (c := 2) (show 2 ≤ d - 1 by omega) rs (by omega) (by omega)
        rw [e43, t3 (W + 44) _ (by omega), hb2'] at y2
        generalize hz : itb k.toNat (up B b 6 vx) nb 2 = z at f2
        have zb : 0 ≤ z ∧ z ≤ 128 := by rw [← hz]; omega
        by_cases qz : z = xx
        · obtain ⟨s2, f4, e2⟩ := ih s3 (zint nb) (zrf (W + 2 + nb)) (zrf (V + 2 + 0)) (zint k) t3
          refine ⟨s2, f4, fun Q => ?_⟩
          rw [sna_s h1 (show snp B N b vx s (W + 44) i from ⟨by rw [hb0]; exact q, by rw [hb0, hb1, hb2, hz]; exact qz⟩), u85_2]
          simp (disch := first | omega | exact rfl) only [↓u85_0, ↓u85_1, ↓u85_3, ↓u85_4, ↓u85_7, ↓u85_10, ↓u85_13, ↓u85_16, ↓u85_17, ↓u85_20, ↓u85_23, ↓u85_24, ↓u85_25, ↓u85_28, ↓u85_30, ↓u85_31, ↓u85_34, ↓u85_36, ↓u85_39, ↓u85_41, ↓u85_43, ↓u85_46, ↓u85_47, ↓u85_48, ↓u85_49, ↓u85_52, ↓u85_55, ↓u85_56, ↓u85_57, ↓u85_59, ↓u85_61, ↓u85_63, ↓u85_66, ↓u85_68, ↓u85_69, ↓u85_72, ↓u85_74, ↓u85_75, ↓u85_78, ↓u85_79, ↓u85_83, ↓u85_84, ↓u85_87, ↓u85_90, ↓u85_91, ↓u85_92, ↓u85_95, ↓u85_98, ↓u85_100, ↓u85_103, ↓u85_106, ↓u85_109, ↓u85_111, ↓u85_114, ↓u85_115, ↓u85_118, ↓u85_121, ↓u85_122, ↓u85_123, ↓u85_126, ↓u85_129, ↓u85_130, ↓u85_131, ↓u85_134, ↓u85_137, ↓u85_138, ↓lI_0, ↓lI_s, ↓lL_0, ↓lL_s, ↓lR_0, ↓lR_s, ↓sT_0, ↓sT_i, ↓sT_r, ↓sT_u, ↓sT_lu, ↓sU_0, ↓sU_i, ↓sU_r, ↓sU_u, ↓ite_bx, bx_T, bx_F, bx_pos, bx_neg, zws_i, zws_r, zws_l, zws_n, zCb_kc, xl_ll, xr_rr, xs_e, xset_e, Option.toList, List.cons_append, List.nil_append, zIb_e, zrng_e, nz_e, if_pos, if_neg, and_true, true_and, or_true, true_or, ite_self, bi_eq0, bi_eq1, bi_1, bi_0, bi_ir, bi_T, bi_F, up_eq, up_ne, ↓reduceIte, reduceIte, Nat.reduceAdd, Nat.reduceLeDiff, Nat.le_refl, Nat.zero_le, not_true_eq_false, not_false_eq_true, ne_eq, Int.reduceEq, Int.reduceLT, Int.reduceLE, Int.reduceAdd, Int.reduceSub, Int.reduceMul, Int.reduceNeg, pT g1, g2, g4, pT w1, pT w13, w10, pT hx.1, x2, pT x3, x4, x5, n5, y0, y2, f2, pT kv0, s37_y (show 2 ≤ d - 1 by omega) hw hvt hb hn q, s02 (show 2 ≤ d - 1 by omega) kv0 k1 (show W + 2 + nb ≠ V + 2 + 0 by omega) c8, e, e2]
        · refine ⟨s3, t3, fun Q => ?_⟩
          rw [bi_0 (sna_n h1 (show ¬snp B N b vx s (W + 44) i from fun c => qz (by have c2 := c.2; rw [hb0, hb1, hb2, hz] at c2; exact c2))), u85_2]
          simp (disch := first | omega | exact rfl) only [↓u85_0, ↓u85_1, ↓u85_3, ↓u85_4, ↓u85_7, ↓u85_10, ↓u85_13, ↓u85_16, ↓u85_17, ↓u85_20, ↓u85_23, ↓u85_24, ↓u85_25, ↓u85_28, ↓u85_30, ↓u85_31, ↓u85_34, ↓u85_36, ↓u85_39, ↓u85_41, ↓u85_43, ↓u85_46, ↓u85_47, ↓u85_48, ↓u85_49, ↓u85_52, ↓u85_55, ↓u85_56, ↓u85_57, ↓u85_59, ↓u85_61, ↓u85_63, ↓u85_66, ↓u85_68, ↓u85_69, ↓u85_72, ↓u85_74, ↓u85_75, ↓u85_78, ↓u85_79, ↓u85_83, ↓u85_84, ↓u85_87, ↓u85_90, ↓u85_91, ↓u85_92, ↓u85_95, ↓u85_98, ↓u85_100, ↓u85_103, ↓u85_106, ↓u85_109, ↓u85_111, ↓u85_114, ↓u85_115, ↓u85_118, ↓u85_121, ↓u85_122, ↓u85_123, ↓u85_126, ↓u85_129, ↓u85_130, ↓u85_131, ↓u85_134, ↓u85_137, ↓u85_138, ↓lI_0, ↓lI_s, ↓lL_0, ↓lL_s, ↓lR_0, ↓lR_s, ↓sT_0, ↓sT_i, ↓sT_r, ↓sT_u, ↓sT_lu, ↓sU_0, ↓sU_i, ↓sU_r, ↓sU_u, ↓ite_bx, bx_T, bx_F, bx_pos, bx_neg, zws_i, zws_r, zws_l, zws_n, zCb_kc, xl_ll, xr_rr, xs_e, xset_e, Option.toList, List.cons_append, List.nil_append, zIb_e, zrng_e, nz_e, if_pos, if_neg, and_true, true_and, or_true, true_or, ite_self, bi_eq0, bi_eq1, bi_1, bi_0, bi_ir, bi_T, bi_F, up_eq, up_ne, ↓reduceIte, reduceIte, Nat.reduceAdd, Nat.reduceLeDiff, Nat.le_refl, Nat.zero_le, not_true_eq_false, not_false_eq_true, ne_eq, Int.reduceEq, Int.reduceLT, Int.reduceLE, Int.reduceAdd, Int.reduceSub, Int.reduceMul, Int.reduceNeg, pT g1, g2, g4, pT w1, pT w13, w10, pT hx.1, x2, pT x3, x4, x5, n5, y0, y2, f2, pT kv0, s37_y (show 2 ≤ d - 1 by omega) hw hvt hb hn q, s02 (show 2 ≤ d - 1 by omega) kv0 k1 (show W + 2 + nb ≠ V + 2 + 0 by omega) c8, e]
    · refine ⟨t, ht, fun Q => ?_⟩
      rw [bi_0 (sna_n h1 (show ¬snp B N b vx s (W + 44) i from fun c => q (by rw [← hb0]; exact c.1))), u85_2]
      simp (disch := first | omega | exact rfl) only [↓u85_0, ↓u85_1, ↓u85_3, ↓u85_4, ↓u85_7, ↓u85_10, ↓u85_13, ↓u85_16, ↓u85_17, ↓u85_20, ↓u85_23, ↓u85_24, ↓u85_25, ↓u85_28, ↓u85_30, ↓u85_31, ↓u85_34, ↓u85_36, ↓u85_39, ↓u85_41, ↓u85_43, ↓u85_46, ↓u85_47, ↓u85_48, ↓u85_49, ↓u85_52, ↓u85_55, ↓u85_56, ↓u85_57, ↓u85_59, ↓u85_61, ↓u85_63, ↓u85_66, ↓u85_68, ↓u85_69, ↓u85_72, ↓u85_74, ↓u85_75, ↓u85_78, ↓u85_79, ↓u85_83, ↓u85_84, ↓u85_87, ↓u85_90, ↓u85_91, ↓u85_92, ↓u85_95, ↓u85_98, ↓u85_100, ↓u85_103, ↓u85_106, ↓u85_109, ↓u85_111, ↓u85_114, ↓u85_115, ↓u85_118, ↓u85_121, ↓u85_122, ↓u85_123, ↓u85_126, ↓u85_129, ↓u85_130, ↓u85_131, ↓u85_134, ↓u85_137, ↓u85_138, ↓lI_0, ↓lI_s, ↓lL_0, ↓lL_s, ↓lR_0, ↓lR_s, ↓sT_0, ↓sT_i, ↓sT_r, ↓sT_u, ↓sT_lu, ↓sU_0, ↓sU_i, ↓sU_r, ↓sU_u, ↓ite_bx, bx_T, bx_F, bx_pos, bx_neg, zws_i, zws_r, zws_l, zws_n, zCb_kc, xl_ll, xr_rr, xs_e, xset_e, Option.toList, List.cons_append, List.nil_append, zIb_e, zrng_e, nz_e, if_pos, if_neg, and_true, true_and, or_true, true_or, ite_self, bi_eq0, bi_eq1, bi_1, bi_0, bi_ir, bi_T, bi_F, up_eq, up_ne, ↓reduceIte, reduceIte, Nat.reduceAdd, Nat.reduceLeDiff, Nat.le_refl, Nat.zero_le, not_true_eq_false, not_false_eq_true, ne_eq, Int.reduceEq, Int.reduceLT, Int.reduceLE, Int.reduceAdd, Int.reduceSub, Int.reduceMul, Int.reduceNeg, pT g1, g2, g4, pT w1, pT w13, w10, pT hx.1, x2, pT x3, x4, x5, n5, y0, s37_n (show 2 ≤ d - 1 by omega) hw hvt hb hn a0.1 q]
set_option maxRecDepth 8000 in
theorem s85 {d : Nat} {G : XS} {s : ZS} {W U V : Int} {B : ZS} {N R T : Int} {b vx n : Int} (hd : 7 ≤ d) (hg : LOK G W U V) (hv : CV s W B N R T) (hb : OKB B N) (hn : 0 ≤ N ∧ N ≤ 40 ∧ 0 ≤ R ∧ R ≤ 10 ∧ 0 ≤ T ∧ T ≤ 20000) (hs : s (W + 43) 2 = n) (hnn : 0 ≤ n ∧ n ≤ 5) (hi : ∀ r, 0 ≤ r ∧ r < n → ir (rv s (W + 44) r 0) ∧ (0 ≤ rv s (W + 44) r 1 ∧ rv s (W + 44) r 1 ≤ 12) ∧ ir (rv s (W + 44) r 2)) (ib : ir b) (iv : -9 ≤ vx ∧ vx ≤ 9) (t : ZS) (ht : fvw s t V) : ∃ s2, fvw s s2 V ∧ ∀ Q, Call d 85 [zrf 0, zint b, zint vx] (G, t) Q = Q (some (zint (bi (sna B N b vx s (W + 44) n 0)))) (G, s2) := by
  obtain ⟨s2, f, e⟩ := l85 hd hg hv hb hn hs hnn hi ib iv 0 (Int.le_refl 0) hnn.1 t zun zun zun zun ht
  refine ⟨s2, f, fun Q => ?_⟩
  have e2 := e Q
  rw [e85 (show 1 ≤ d by omega)]
  simp (disch := first | omega | exact rfl) only [↓u85_0, ↓u85_1, ↓u85_3, ↓u85_4, ↓u85_7, ↓u85_10, ↓u85_13, ↓u85_16, ↓u85_17, ↓u85_20, ↓u85_23, ↓u85_24, ↓u85_25, ↓u85_28, ↓u85_30, ↓u85_31, ↓u85_34, ↓u85_36, ↓u85_39, ↓u85_41, ↓u85_43, ↓u85_46, ↓u85_47, ↓u85_48, ↓u85_49, ↓u85_52, ↓u85_55, ↓u85_56, ↓u85_57, ↓u85_59, ↓u85_61, ↓u85_63, ↓u85_66, ↓u85_68, ↓u85_69, ↓u85_72, ↓u85_74, ↓u85_75, ↓u85_78, ↓u85_79, ↓u85_81, ↓u85_83, ↓u85_84, ↓u85_87, ↓u85_90, ↓u85_91, ↓u85_92, ↓u85_95, ↓u85_98, ↓u85_100, ↓u85_103, ↓u85_106, ↓u85_109, ↓u85_111, ↓u85_114, ↓u85_115, ↓u85_118, ↓u85_121, ↓u85_122, ↓u85_123, ↓u85_126, ↓u85_129, ↓u85_130, ↓u85_131, ↓u85_134, ↓u85_137, ↓u85_138, ↓lI_0, ↓lI_s, ↓lL_0, ↓lL_s, ↓lR_0, ↓lR_s, ↓sT_0, ↓sT_i, ↓sT_r, ↓sT_u, ↓sT_lu, ↓sU_0, ↓sU_i, ↓sU_r, ↓sU_u, ↓ite_bx, bx_T, bx_F, bx_pos, bx_neg, zws_i, zws_r, zws_l, zws_n, zCb_kc, xl_ll, xr_rr, xs_e, xset_e, Option.toList, List.cons_append, List.nil_append, zIb_e, zrng_e, nz_e, if_pos, if_neg, and_true, true_and, or_true, true_or, ite_self, bi_eq0, bi_eq1, bi_1, bi_0, bi_ir, bi_T, bi_F, up_eq, up_ne, ↓reduceIte, reduceIte, Nat.reduceAdd, Nat.reduceLeDiff, Nat.le_refl, Nat.zero_le, not_true_eq_false, not_false_eq_true, ne_eq, Int.reduceEq, Int.reduceLT, Int.reduceLE, Int.reduceAdd, Int.reduceSub, Int.reduceMul, Int.reduceNeg, e2]
noncomputable def spl (P : Int → Prop) : Nat → Int → Int → Int → Int × Int
  | 0, _, m, l => (m, l)
  | j + 1, v, m, l => @ite (Int × Int) (P v) (Classical.propDecidable _) (spl P j (v - 1) (m + 1) v) (spl P j (v - 1) m l)
set_option maxRecDepth 8000 in
theorem spl_y {P : Int → Prop} {j : Nat} {v m l : Int} (h : P v) : spl P (j + 1) v m l = spl P j (v - 1) (m + 1) v := if_pos h
set_option maxRecDepth 8000 in
theorem spl_n {P : Int → Prop} {j : Nat} {v m l : Int} (h : ¬P v) : spl P (j + 1) v m l = spl P j (v - 1) m l := if_neg h
set_option maxRecDepth 8000 in
theorem l84 {d : Nat} {G : XS} {s : ZS} {W U V : Int} {B : ZS} {N R T : Int} {b n w o3 : Int} (hd : 8 ≤ d) (hg : LOK G W U V) (hv : CV s W B N R T) (hb : OKB B N) (hn : 0 ≤ N ∧ N ≤ 40 ∧ 0 ≤ R ∧ R ≤ 10 ∧ 0 ≤ T ∧ T ≤ 20000) (hs : s (W + 43) 2 = n) (hnn : 0 ≤ n ∧ n ≤ 5) (hi : ∀ r, 0 ≤ r ∧ r < n → ir (rv s (W + 44) r 0) ∧ (0 ≤ rv s (W + 44) r 1 ∧ rv s (W + 44) r 1 ≤ 12) ∧ ir (rv s (W + 44) r 2)) (ib : ir b) (hww : w = 0 ∨ w = 1) : ∀ (j : Nat) (v m l : Int) (t : ZS), v + 10 = j → j ≤ 19 → fvw s t V → ∃ s2, fvw s s2 V ∧ ∀ Q, Wp (d - 1) 84 (45, [zrf 0, zint b, zint w, zrf o3, zint l, zint m, zint v], [], (G, t)) Q = Q (some (zint (if w = 0 then (spl (fun v => sna B N b v s (W + 44) n 0) j v m l).1 else (spl (fun v => sna B N b v s (W + 44) n 0) j v m l).2))) (G, s2) := by
  have hg' := hg
  obtain ⟨g1, g2, g3, g4, g5, g6, hw, hu, hx, g7, g8, g9, g10, g11, g12⟩ := hg'
  have hw' := hw
  obtain ⟨w1, w2, w3, w4, w5, w6, w7, w8, w9, w10, w11, w12, w13, w14, w15, w16, w17, w18, w19, w20, w21, w22, w23, w24, w25⟩ := hw'
  have hv' := hv
  obtain ⟨v1, v2, v3, vB⟩ := hv'
  intro j
  induction j with
  | zero =>
    intro v m l t h1 h2 ht
    refine ⟨t, ht, fun Q => ?_⟩
    rw [show spl (fun v => sna B N b v s (W + 44) n 0) 0 v m l = (m, l) from rfl, u84_45]
    rcases hww with z | z
    · rw [if_pos z]
      simp (disch := first | omega | exact rfl) only [↓u84_0, ↓u84_1, ↓u84_4, ↓u84_5, ↓u84_8, ↓u84_9, ↓u84_10, ↓u84_13, ↓u84_14, ↓u84_15, ↓u84_16, ↓u84_19, ↓u84_22, ↓u84_23, ↓u84_24, ↓u84_25, ↓u84_28, ↓u84_31, ↓u84_33, ↓u84_34, ↓u84_36, ↓u84_38, ↓u84_39, ↓u84_41, ↓u84_43, ↓u84_47, ↓u84_49, ↓u84_52, ↓u84_53, ↓u84_54, ↓u84_56, ↓u84_59, ↓u84_62, ↓u84_64, ↓u84_66, ↓u84_69, ↓u84_72, ↓u84_75, ↓u84_76, ↓u84_79, ↓u84_81, ↓u84_84, ↓u84_86, ↓lI_0, ↓lI_s, ↓lL_0, ↓lL_s, ↓lR_0, ↓lR_s, ↓sT_0, ↓sT_i, ↓sT_r, ↓sT_u, ↓sT_lu, ↓sU_0, ↓sU_i, ↓sU_r, ↓sU_u, ↓ite_bx, bx_T, bx_F, bx_pos, bx_neg, zws_i, zws_r, zws_l, zws_n, zCb_kc, xl_ll, xr_rr, xs_e, xset_e, Option.toList, List.cons_append, List.nil_append, zIb_e, zrng_e, nz_e, if_pos, if_neg, and_true, true_and, or_true, true_or, ite_self, bi_eq0, bi_eq1, bi_1, bi_0, bi_ir, bi_T, bi_F, up_eq, up_ne, ↓reduceIte, reduceIte, Nat.reduceAdd, Nat.reduceLeDiff, Nat.le_refl, Nat.zero_le, not_true_eq_false, not_false_eq_true, ne_eq, Int.reduceEq, Int.reduceLT, Int.reduceLE, Int.reduceAdd, Int.reduceSub, Int.reduceMul, Int.reduceNeg]
    · rw [if_neg (by omega)]
      simp (disch := first | omega | exact rfl) only [↓u84_0, ↓u84_1, ↓u84_4, ↓u84_5, ↓u84_8, ↓u84_9, ↓u84_10, ↓u84_13, ↓u84_14, ↓u84_15, ↓u84_16, ↓u84_19, ↓u84_22, ↓u84_23, ↓u84_24, ↓u84_25, ↓u84_28, ↓u84_31, ↓u84_33, ↓u84_34, ↓u84_36, ↓u84_38, ↓u84_39, ↓u84_41, ↓u84_43, ↓u84_47, ↓u84_49, ↓u84_52, ↓u84_53, ↓u84_54, ↓u84_56, ↓u84_59, ↓u84_62, ↓u84_64, ↓u84_66, ↓u84_69, ↓u84_72, ↓u84_75, ↓u84_76, ↓u84_79, ↓u84_81, ↓u84_84, ↓u84_86, ↓lI_0, ↓lI_s, ↓lL_0, ↓lL_s, ↓lR_0, ↓lR_s, ↓sT_0, ↓sT_i, ↓sT_r, ↓sT_u, ↓sT_lu, ↓sU_0, ↓sU_i, ↓sU_r, ↓sU_u, ↓ite_bx, bx_T, bx_F, bx_pos, bx_neg, zws_i, zws_r, zws_l, zws_n, zCb_kc, xl_ll, xr_rr, xs_e, xset_e, Option.toList, List.cons_append, List.nil_append, zIb_e, zrng_e, nz_e, if_pos, if_neg, and_true, true_and, or_true, true_or, ite_self, bi_eq0, bi_eq1, bi_1, bi_0, bi_ir, bi_T, bi_F, up_eq, up_ne, ↓reduceIte, reduceIte, Nat.reduceAdd, Nat.reduceLeDiff, Nat.le_refl, Nat.zero_le, not_true_eq_false, not_false_eq_true, ne_eq, Int.reduceEq, Int.reduceLT, Int.reduceLE, Int.reduceAdd, Int.reduceSub, Int.reduceMul, Int.reduceNeg]
  | succ j ih =>
    intro v m l t h1 h2 ht
    obtain ⟨s3, f3, e⟩ := s85 (d := d - 1) (vx := v) (show 7 ≤ d - 1 by omega) hg hv hb hn hs hnn hi ib (by omega) t ht
    rcases Classical.em (sna B N b v s (W + 44) n 0) with q | q
    · rw [bi_1 q] at e
      obtain ⟨s2, f2, e2⟩ := ih (v - 1) (m + 1) v s3 (by omega) (by omega) f3
      refine ⟨s2, f2, fun Q => ?_⟩
      rw [spl_y (P := (fun v => sna B N b v s (W + 44) n 0)) q, u84_45]
      rw [Int.sub_eq_add_neg] at e2
      simp (disch := first | omega | exact rfl) only [↓u84_0, ↓u84_1, ↓u84_4, ↓u84_5, ↓u84_8, ↓u84_9, ↓u84_10, ↓u84_13, ↓u84_14, ↓u84_15, ↓u84_16, ↓u84_19, ↓u84_22, ↓u84_23, ↓u84_24, ↓u84_25, ↓u84_28, ↓u84_31, ↓u84_33, ↓u84_34, ↓u84_36, ↓u84_38, ↓u84_39, ↓u84_41, ↓u84_43, ↓u84_47, ↓u84_49, ↓u84_52, ↓u84_53, ↓u84_54, ↓u84_56, ↓u84_59, ↓u84_62, ↓u84_64, ↓u84_66, ↓u84_69, ↓u84_72, ↓u84_75, ↓u84_76, ↓u84_79, ↓u84_81, ↓u84_84, ↓u84_86, ↓lI_0, ↓lI_s, ↓lL_0, ↓lL_s, ↓lR_0, ↓lR_s, ↓sT_0, ↓sT_i, ↓sT_r, ↓sT_u, ↓sT_lu, ↓sU_0, ↓sU_i, ↓sU_r, ↓sU_u, ↓ite_bx, bx_T, bx_F, bx_pos, bx_neg, zws_i, zws_r, zws_l, zws_n, zCb_kc, xl_ll, xr_rr, xs_e, xset_e, Option.toList, List.cons_append, List.nil_append, zIb_e, zrng_e, nz_e, if_pos, if_neg, and_true, true_and, or_true, true_or, ite_self, bi_eq0, bi_eq1, bi_1, bi_0, bi_ir, bi_T, bi_F, up_eq, up_ne, ↓reduceIte, reduceIte, Nat.reduceAdd, Nat.reduceLeDiff, Nat.le_refl, Nat.zero_le, not_true_eq_false, not_false_eq_true, ne_eq, Int.reduceEq, Int.reduceLT, Int.reduceLE, Int.reduceAdd, Int.reduceSub, Int.reduceMul, Int.reduceNeg, pT g1, e, e2, Int.sub_eq_add_neg]
    · rw [bi_0 q] at e
      obtain ⟨s2, f2, e2⟩ := ih (v - 1) m l s3 (by omega) (by omega) f3
      refine ⟨s2, f2, fun Q => ?_⟩
      rw [spl_n (P := (fun v => sna B N b v s (W + 44) n 0)) q, u84_45]
      rw [Int.sub_eq_add_neg] at e2
      simp (disch := first | omega | exact rfl) only [↓u84_0, ↓u84_1, ↓u84_4, ↓u84_5, ↓u84_8, ↓u84_9, ↓u84_10, ↓u84_13, ↓u84_14, ↓u84_15, ↓u84_16, ↓u84_19, ↓u84_22, ↓u84_23, ↓u84_24, ↓u84_25, ↓u84_28, ↓u84_31, ↓u84_33, ↓u84_34, ↓u84_36, ↓u84_38, ↓u84_39, ↓u84_41, ↓u84_43, ↓u84_47, ↓u84_49, ↓u84_52, ↓u84_53, ↓u84_54, ↓u84_56, ↓u84_59, ↓u84_62, ↓u84_64, ↓u84_66, ↓u84_69, ↓u84_72, ↓u84_75, ↓u84_76, ↓u84_79, ↓u84_81, ↓u84_84, ↓u84_86, ↓lI_0, ↓lI_s, ↓lL_0, ↓lL_s, ↓lR_0, ↓lR_s, ↓sT_0, ↓sT_i, ↓sT_r, ↓sT_u, ↓sT_lu, ↓sU_0, ↓sU_i, ↓sU_r, ↓sU_u, ↓ite_bx, bx_T, bx_F, bx_pos, bx_neg, zws_i, zws_r, zws_l, zws_n, zCb_kc, xl_ll, xr_rr, xs_e, xset_e, Option.toList, List.cons_append, List.nil_append, zIb_e, zrng_e, nz_e, if_pos, if_neg, and_true, true_and, or_true, true_or, ite_self, bi_eq0, bi_eq1, bi_1, bi_0, bi_ir, bi_T, bi_F, up_eq, up_ne, ↓reduceIte, reduceIte, Nat.reduceAdd, Nat.reduceLeDiff, Nat.le_refl, Nat.zero_le, not_true_eq_false, not_false_eq_true, ne_eq, Int.reduceEq, Int.reduceLT, Int.reduceLE, Int.reduceAdd, Int.reduceSub, Int.reduceMul, Int.reduceNeg, pT g1, e, e2, Int.sub_eq_add_neg]
set_option maxRecDepth 8000 in
theorem s84_n {d : Nat} {Q : Option AV → XH → Prop} {G : XS} {s : ZS} {W U V : Int} {B : ZS} {N R T : Int} {b w : Int} (hd : 8 ≤ d) (hg : LOK G W U V) (hv : CV s W B N R T) (hb : OKB B N) (hn : 0 ≤ N ∧ N ≤ 40 ∧ 0 ≤ R ∧ R ≤ 10 ∧ 0 ≤ T ∧ T ≤ 20000) (ib : ir b) (iw : ir w) (q : ¬(hr B N b ∧ 0 ≤ w ∧ w ≤ 1)) : Call d 84 [zrf 0, zint b, zint w] (G, s) Q = Q (some (zint (-1))) (G, s) := by
  have hg' := hg
  obtain ⟨g1, g2, g3, g4, g5, g6, hw, hu, hx, g7, g8, g9, g10, g11, g12⟩ := hg'
  have hw' := hw
  obtain ⟨w1, w2, w3, w4, w5, w6, w7, w8, w9, w10, w11, w12, w13, w14, w15, w16, w17, w18, w19, w20, w21, w22, w23, w24, w25⟩ := hw'
  have hv' := hv
  obtain ⟨v1, v2, v3, vB⟩ := hv'
  rw [e84 (show 1 ≤ d by omega)]
  by_cases q2 : hr B N b
  · simp (disch := first | omega | exact rfl) only [↓u84_0, ↓u84_1, ↓u84_4, ↓u84_5, ↓u84_8, ↓u84_9, ↓u84_10, ↓u84_13, ↓u84_14, ↓u84_15, ↓u84_16, ↓u84_19, ↓u84_22, ↓u84_23, ↓u84_24, ↓u84_25, ↓u84_28, ↓u84_31, ↓u84_33, ↓u84_34, ↓u84_36, ↓u84_38, ↓u84_39, ↓u84_41, ↓u84_43, ↓u84_45, ↓u84_47, ↓u84_49, ↓u84_52, ↓u84_53, ↓u84_54, ↓u84_56, ↓u84_59, ↓u84_62, ↓u84_64, ↓u84_66, ↓u84_69, ↓u84_72, ↓u84_75, ↓u84_76, ↓u84_79, ↓u84_81, ↓u84_84, ↓u84_86, ↓lI_0, ↓lI_s, ↓lL_0, ↓lL_s, ↓lR_0, ↓lR_s, ↓sT_0, ↓sT_i, ↓sT_r, ↓sT_u, ↓sT_lu, ↓sU_0, ↓sU_i, ↓sU_r, ↓sU_u, ↓ite_bx, bx_T, bx_F, bx_pos, bx_neg, zws_i, zws_r, zws_l, zws_n, zCb_kc, xl_ll, xr_rr, xs_e, xset_e, Option.toList, List.cons_append, List.nil_append, zIb_e, zrng_e, nz_e, if_pos, if_neg, and_true, true_and, or_true, true_or, ite_self, bi_eq0, bi_eq1, bi_1, bi_0, bi_ir, bi_T, bi_F, up_eq, up_ne, ↓reduceIte, reduceIte, Nat.reduceAdd, Nat.reduceLeDiff, Nat.le_refl, Nat.zero_le, not_true_eq_false, not_false_eq_true, ne_eq, Int.reduceEq, Int.reduceLT, Int.reduceLE, Int.reduceAdd, Int.reduceSub, Int.reduceMul, Int.reduceNeg, pT g1, g2, g3, g4, g5, g6, pT w1, w2, pT w3, w4, w5, w6, v1, v2, v3, vB, s103, s37_y (show 2 ≤ d - 1 by omega) hw hv hb hn q2]
  · simp (disch := first | omega | exact rfl) only [↓u84_0, ↓u84_1, ↓u84_4, ↓u84_5, ↓u84_8, ↓u84_9, ↓u84_10, ↓u84_13, ↓u84_14, ↓u84_15, ↓u84_16, ↓u84_19, ↓u84_22, ↓u84_23, ↓u84_24, ↓u84_25, ↓u84_28, ↓u84_31, ↓u84_33, ↓u84_34, ↓u84_36, ↓u84_38, ↓u84_39, ↓u84_41, ↓u84_43, ↓u84_45, ↓u84_47, ↓u84_49, ↓u84_52, ↓u84_53, ↓u84_54, ↓u84_56, ↓u84_59, ↓u84_62, ↓u84_64, ↓u84_66, ↓u84_69, ↓u84_72, ↓u84_75, ↓u84_76, ↓u84_79, ↓u84_81, ↓u84_84, ↓u84_86, ↓lI_0, ↓lI_s, ↓lL_0, ↓lL_s, ↓lR_0, ↓lR_s, ↓sT_0, ↓sT_i, ↓sT_r, ↓sT_u, ↓sT_lu, ↓sU_0, ↓sU_i, ↓sU_r, ↓sU_u, ↓ite_bx, bx_T, bx_F, bx_pos, bx_neg, zws_i, zws_r, zws_l, zws_n, zCb_kc, xl_ll, xr_rr, xs_e, xset_e, Option.toList, List.cons_append, List.nil_append, zIb_e, zrng_e, nz_e, if_pos, if_neg, and_true, true_and, or_true, true_or, ite_self, bi_eq0, bi_eq1, bi_1, bi_0, bi_ir, bi_T, bi_F, up_eq, up_ne, ↓reduceIte, reduceIte, Nat.reduceAdd, Nat.reduceLeDiff, Nat.le_refl, Nat.zero_le, not_true_eq_false, not_false_eq_true, ne_eq, Int.reduceEq, Int.reduceLT, Int.reduceLE, Int.reduceAdd, Int.reduceSub, Int.reduceMul, Int.reduceNeg, pT g1, g2, g3, g4, g5, g6, pT w1, w2, pT w3, w4, w5, w6, v1, v2, v3, vB, s103, s37_n (show 2 ≤ d - 1 by omega) hw hv hb hn ib q2]
set_option maxRecDepth 8000 in
theorem s84_s {d : Nat} {Q : Option AV → XH → Prop} {G : XS} {s : ZS} {W U V : Int} {B : ZS} {N R T : Int} {b w : Int} (hd : 8 ≤ d) (hg : LOK G W U V) (hv : CV s W B N R T) (hb : OKB B N) (hn : 0 ≤ N ∧ N ≤ 40 ∧ 0 ≤ R ∧ R ≤ 10 ∧ 0 ≤ T ∧ T ≤ 20000) (q : hr B N b) (q2 : w = 0 ∨ w = 1) (q3 : B b 0 = 0) : Call d 84 [zrf 0, zint b, zint w] (G, s) Q = Q (some (zint (-3))) (G, s) := by
  have hg' := hg
  obtain ⟨g1, g2, g3, g4, g5, g6, hw, hu, hx, g7, g8, g9, g10, g11, g12⟩ := hg'
  have hw' := hw
  obtain ⟨w1, w2, w3, w4, w5, w6, w7, w8, w9, w10, w11, w12, w13, w14, w15, w16, w17, w18, w19, w20, w21, w22, w23, w24, w25⟩ := hw'
  have hv' := hv
  obtain ⟨v1, v2, v3, vB⟩ := hv'
  have oka := hb b q.1
  have ka := w6 b (by omega)
  rw [e84 (show 1 ≤ d by omega)]
  simp (disch := first | omega | exact rfl) only [↓u84_0, ↓u84_1, ↓u84_4, ↓u84_5, ↓u84_8, ↓u84_9, ↓u84_10, ↓u84_13, ↓u84_14, ↓u84_15, ↓u84_16, ↓u84_19, ↓u84_22, ↓u84_23, ↓u84_24, ↓u84_25, ↓u84_28, ↓u84_31, ↓u84_33, ↓u84_34, ↓u84_36, ↓u84_38, ↓u84_39, ↓u84_41, ↓u84_43, ↓u84_45, ↓u84_47, ↓u84_49, ↓u84_52, ↓u84_53, ↓u84_54, ↓u84_56, ↓u84_59, ↓u84_62, ↓u84_64, ↓u84_66, ↓u84_69, ↓u84_72, ↓u84_75, ↓u84_76, ↓u84_79, ↓u84_81, ↓u84_84, ↓u84_86, ↓lI_0, ↓lI_s, ↓lL_0, ↓lL_s, ↓lR_0, ↓lR_s, ↓sT_0, ↓sT_i, ↓sT_r, ↓sT_u, ↓sT_lu, ↓sU_0, ↓sU_i, ↓sU_r, ↓sU_u, ↓ite_bx, bx_T, bx_F, bx_pos, bx_neg, zws_i, zws_r, zws_l, zws_n, zCb_kc, xl_ll, xr_rr, xs_e, xset_e, Option.toList, List.cons_append, List.nil_append, zIb_e, zrng_e, nz_e, if_pos, if_neg, and_true, true_and, or_true, true_or, ite_self, bi_eq0, bi_eq1, bi_1, bi_0, bi_ir, bi_T, bi_F, up_eq, up_ne, ↓reduceIte, reduceIte, Nat.reduceAdd, Nat.reduceLeDiff, Nat.le_refl, Nat.zero_le, not_true_eq_false, not_false_eq_true, ne_eq, Int.reduceEq, Int.reduceLT, Int.reduceLE, Int.reduceAdd, Int.reduceSub, Int.reduceMul, Int.reduceNeg, pT g1, g2, g3, g4, g5, g6, pT w1, w2, pT w3, w4, w5, w6, v1, v2, v3, vB, s103, pT ka, s37_y (show 2 ≤ d - 1 by omega) hw hv hb hn q]
set_option maxRecDepth 8000 in
theorem s84_y {d : Nat} {G : XS} {s : ZS} {W U V : Int} {B : ZS} {N R T : Int} {b n w : Int} (hd : 8 ≤ d) (hg : LOK G W U V) (hv : CV s W B N R T) (hb : OKB B N) (hn : 0 ≤ N ∧ N ≤ 40 ∧ 0 ≤ R ∧ R ≤ 10 ∧ 0 ≤ T ∧ T ≤ 20000) (hs : s (W + 43) 2 = n) (hnn : 0 ≤ n ∧ n ≤ 5) (hi : ∀ r, 0 ≤ r ∧ r < n → ir (rv s (W + 44) r 0) ∧ (0 ≤ rv s (W + 44) r 1 ∧ rv s (W + 44) r 1 ≤ 12) ∧ ir (rv s (W + 44) r 2)) (q : hr B N b) (q2 : w = 0 ∨ w = 1) (q3 : B b 0 ≠ 0) : ∃ s2, fvw s s2 V ∧ ∀ Q, Call d 84 [zrf 0, zint b, zint w] (G, s) Q = Q (some (zint (if w = 0 then (spl (fun v => sna B N b v s (W + 44) n 0) 19 9 0 (-99)).1 else (spl (fun v => sna B N b v s (W + 44) n 0) 19 9 0 (-99)).2))) (G, s2) := by
  have hg' := hg
  obtain ⟨g1, g2, g3, g4, g5, g6, hw, hu, hx, g7, g8, g9, g10, g11, g12⟩ := hg'
  have hw' := hw
  obtain ⟨w1, w2, w3, w4, w5, w6, w7, w8, w9, w10, w11, w12, w13, w14, w15, w16, w17, w18, w19, w20, w21, w22, w23, w24, w25⟩ := hw'
  have hv' := hv
  obtain ⟨v1, v2, v3, vB⟩ := hv'
  have oka := hb b q.1
  have ka := w6 b (by omega)
  obtain ⟨s2, f, e⟩ := l84 (o3 := W + 2 + b) hd hg hv hb hn hs hnn hi (show ir b by omega) q2 19 9 0 (-99) s (by omega) (by omega) (fun a c h => rfl)
  refine ⟨s2, f, fun Q => ?_⟩
  have e2 := e Q
  rw [e84 (show 1 ≤ d by omega)]
  simp (disch := first | omega | exact rfl) only [↓u84_0, ↓u84_1, ↓u84_4, ↓u84_5, ↓u84_8, ↓u84_9, ↓u84_10, ↓u84_13, ↓u84_14, ↓u84_15, ↓u84_16, ↓u84_19, ↓u84_22, ↓u84_23, ↓u84_24, ↓u84_25, ↓u84_28, ↓u84_31, ↓u84_33, ↓u84_34, ↓u84_36, ↓u84_38, ↓u84_39, ↓u84_41, ↓u84_43, ↓u84_47, ↓u84_49, ↓u84_52, ↓u84_53, ↓u84_54, ↓u84_56, ↓u84_59, ↓u84_62, ↓u84_64, ↓u84_66, ↓u84_69, ↓u84_72, ↓u84_75, ↓u84_76, ↓u84_79, ↓u84_81, ↓u84_84, ↓u84_86, ↓lI_0, ↓lI_s, ↓lL_0, ↓lL_s, ↓lR_0, ↓lR_s, ↓sT_0, ↓sT_i, ↓sT_r, ↓sT_u, ↓sT_lu, ↓sU_0, ↓sU_i, ↓sU_r, ↓sU_u, ↓ite_bx, bx_T, bx_F, bx_pos, bx_neg, zws_i, zws_r, zws_l, zws_n, zCb_kc, xl_ll, xr_rr, xs_e, xset_e, Option.toList, List.cons_append, List.nil_append, zIb_e, zrng_e, nz_e, if_pos, if_neg, and_true, true_and, or_true, true_or, ite_self, bi_eq0, bi_eq1, bi_1, bi_0, bi_ir, bi_T, bi_F, up_eq, up_ne, ↓reduceIte, reduceIte, Nat.reduceAdd, Nat.reduceLeDiff, Nat.le_refl, Nat.zero_le, not_true_eq_false, not_false_eq_true, ne_eq, Int.reduceEq, Int.reduceLT, Int.reduceLE, Int.reduceAdd, Int.reduceSub, Int.reduceMul, Int.reduceNeg, pT g1, g2, g3, g4, g5, g6, pT w1, w2, pT w3, w4, w5, w6, v1, v2, v3, vB, s103, pT ka, s37_y (show 2 ≤ d - 1 by omega) hw hv hb hn q, e2]
