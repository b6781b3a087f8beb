/-! squares that are split, by a tally -/
def flo (s : ZS) (a n v : Int) : ZS := fun x c => if x = a ∧ 0 ≤ c ∧ c < n then v else s x c
set_option maxRecDepth 8000 in
theorem flo_0 {s : ZS} {a v : Int} : flo s a 0 v = s := by
  funext x c
  unfold flo
  rw [if_neg (by omega)]
set_option maxRecDepth 8000 in
theorem flo_o {s : ZS} {a n v x c : Int} (h : x ≠ a ∨ c < 0 ∨ n ≤ c) : flo s a n v x c = s x c := by
  unfold flo
  rw [if_neg (by omega)]
set_option maxRecDepth 8000 in
theorem flo_i {s : ZS} {a n v c : Int} (h : 0 ≤ c ∧ c < n) : flo s a n v a c = v := by
  unfold flo
  rw [if_pos ⟨rfl, h⟩]
set_option maxRecDepth 8000 in
theorem flo_s {s : ZS} {a n v : Int} (hn : 0 ≤ n) : up (flo s a n v) a n v = flo s a (n + 1) v := by
  funext x c
  by_cases q : x = a
  · subst q
    by_cases e : c = n
    · subst e
      rw [up_eq, flo_i (by omega)]
    · rw [up_ne (by omega)]
      by_cases e2 : 0 ≤ c ∧ c < n
      · rw [flo_i e2, flo_i (by omega)]
      · rw [flo_o (by omega), flo_o (by omega)]
  · rw [up_ne (by omega), flo_o (by omega), flo_o (by omega)]
set_option maxRecDepth 8000 in
theorem zSb_e' {G : XS} {s : ZS} {o : Int} {k : Nat} (h : kc G o k) : (zSb (G, s) o k = true) = True := zSb_e h
set_option maxRecDepth 8000 in
theorem s193 {d : Nat} {Q : Option AV → XH → Prop} {G : XS} {s : ZS} {a n v : Int} (hd : 1 ≤ d) (hk : kc G a 7) (hl : ll G a = n) (hn : 0 ≤ n ∧ n ≤ 1000) : Call d 193 [zrf a, zint v] (G, s) Q = Q none (G, flo s a n v) := by
  rw [e193 (show 1 ≤ d by omega)]
  have lp : ∀ i, 0 ≤ i → i ≤ n → Wp (d - 1) 193 (5, [zrf a, zint v, zint i, zint n], [], (G, flo s a i v)) Q = Q none (G, flo s a n v) := by
    refine dn (P := fun i => Wp (d - 1) 193 (5, [zrf a, zint v, zint i, zint n], [], (G, flo s a i v)) Q = Q none (G, flo s a n v)) ?_ ?_
    · rw [u193_5]
      simp (disch := first | omega | exact rfl) only [↓u193_0, ↓u193_1, ↓u193_2, ↓u193_3, ↓u193_4, ↓u193_6, ↓u193_7, ↓u193_10, ↓u193_11, ↓u193_12, ↓u193_13, ↓u193_14, ↓u193_17, ↓u193_20, ↓lI_0, ↓lI_s, ↓lL_0, ↓lL_s, ↓lR_0, ↓lR_s, ↓sT_0, ↓sT_i, ↓sT_r, ↓sT_u, ↓sT_lu, ↓sU_0, ↓sU_i, ↓sU_r, ↓sU_u, ↓ite_bx, bx_T, bx_F, bx_pos, bx_neg, zws_i, zws_r, zws_l, zws_n, zCb_kc, xl_ll, xr_rr, xs_e, xset_e, Option.toList, List.cons_append, List.nil_append, zIb_e, zrng_e, nz_e, if_pos, if_neg, and_true, true_and, or_true, true_or, ite_self, bi_eq0, bi_eq1, bi_1, bi_0, bi_ir, bi_T, bi_F, up_eq, up_ne, ↓reduceIte, reduceIte, Nat.reduceAdd, Nat.reduceLeDiff, Nat.le_refl, Nat.zero_le, not_true_eq_false, not_false_eq_true, ne_eq, Int.reduceEq, Int.reduceLT, Int.reduceLE, Int.reduceAdd, Int.reduceSub, Int.reduceMul, Int.reduceNeg, pT hk, hl]
    · intro i h0 h1 ih
      rw [u193_5]
      simp (disch := first | omega | exact rfl) only [↓u193_0, ↓u193_1, ↓u193_2, ↓u193_3, ↓u193_4, ↓u193_6, ↓u193_7, ↓u193_10, ↓u193_11, ↓u193_12, ↓u193_13, ↓u193_14, ↓u193_17, ↓u193_20, ↓lI_0, ↓lI_s, ↓lL_0, ↓lL_s, ↓lR_0, ↓lR_s, ↓sT_0, ↓sT_i, ↓sT_r, ↓sT_u, ↓sT_lu, ↓sU_0, ↓sU_i, ↓sU_r, ↓sU_u, ↓ite_bx, bx_T, bx_F, bx_pos, bx_neg, zws_i, zws_r, zws_l, zws_n, zCb_kc, xl_ll, xr_rr, xs_e, xset_e, Option.toList, List.cons_append, List.nil_append, zIb_e, zrng_e, nz_e, if_pos, if_neg, and_true, true_and, or_true, true_or, ite_self, bi_eq0, bi_eq1, bi_1, bi_0, bi_ir, bi_T, bi_F, up_eq, up_ne, ↓reduceIte, reduceIte, Nat.reduceAdd, Nat.reduceLeDiff, Nat.le_refl, Nat.zero_le, not_true_eq_false, not_false_eq_true, ne_eq, Int.reduceEq, Int.reduceLT, Int.reduceLE, Int.reduceAdd, Int.reduceSub, Int.reduceMul, Int.reduceNeg, pT hk, hl, flo_s h0, ih]
  have l0 := lp 0 (Int.le_refl 0) hn.1
  rw [flo_0] at l0
  simp (disch := first | omega | exact rfl) only [↓u193_0, ↓u193_1, ↓u193_2, ↓u193_3, ↓u193_4, ↓u193_6, ↓u193_7, ↓u193_10, ↓u193_11, ↓u193_12, ↓u193_13, ↓u193_14, ↓u193_17, ↓u193_20, ↓lI_0, ↓lI_s, ↓lL_0, ↓lL_s, ↓lR_0, ↓lR_s, ↓sT_0, ↓sT_i, ↓sT_r, ↓sT_u, ↓sT_lu, ↓sU_0, ↓sU_i, ↓sU_r, ↓sU_u, ↓ite_bx, bx_T, bx_F, bx_pos, bx_neg, zws_i, zws_r, zws_l, zws_n, zCb_kc, xl_ll, xr_rr, xs_e, xset_e, Option.toList, List.cons_append, List.nil_append, zIb_e, zrng_e, nz_e, if_pos, if_neg, and_true, true_and, or_true, true_or, ite_self, bi_eq0, bi_eq1, bi_1, bi_0, bi_ir, bi_T, bi_F, up_eq, up_ne, ↓reduceIte, reduceIte, Nat.reduceAdd, Nat.reduceLeDiff, Nat.le_refl, Nat.zero_le, not_true_eq_false, not_false_eq_true, ne_eq, Int.reduceEq, Int.reduceLT, Int.reduceLE, Int.reduceAdd, Int.reduceSub, Int.reduceMul, Int.reduceNeg, pT hk, hl, zSb_e hk, pT hn.1, l0]
set_option maxRecDepth 8000 in
theorem wi_4 {x y w h k : Int} (hk : 0 ≤ k ∧ k ≤ 4) (hx : (0 ≤ x ∧ x ≤ 127) ∧ 0 ≤ y ∧ y ≤ 127) : -1 ≤ wi x y w h k ∧ wi x y w h k ≤ 255 := by
  have H : ∀ k : Int, 0 ≤ k ∧ k ≤ 4 → -1 ≤ y / p2 (7 - k) * p2 k + x / p2 (7 - k) ∧ y / p2 (7 - k) * p2 k + x / p2 (7 - k) ≤ 255 := by
    intro k hk
    rcases (show k = 0 ∨ k = 1 ∨ k = 2 ∨ k = 3 ∨ k = 4 by omega) with rfl | rfl | rfl | rfl | rfl <;> simp only [Int.reduceSub, p2_0, p2_1, p2_2, p2_3, p2_4, p2_5, p2_6, p2_7] <;> omega
  by_cases q : wq x y w h k
  · rw [wi_1 q]
    exact H k hk
  · rw [wi_0 q]
    omega
/-- how many up to i lie whole in that square -/
noncomputable def ct (B : ZS) (k ix i : Int) : Int := sm (fun j => bi (B j 8 = 1 ∧ wi (B j 2) (B j 3) (B j 4) (B j 5) k = ix)) 0 i
set_option maxRecDepth 8000 in
theorem ct_b {B : ZS} {k ix i : Int} (hi : 0 ≤ i) : 0 ≤ ct B k ix i ∧ ct B k ix i ≤ i := by
  have := cn_b (fun j => B j 8 = 1 ∧ wi (B j 2) (B j 3) (B j 4) (B j 5) k = ix) 0 i hi
  unfold ct
  omega
set_option maxRecDepth 8000 in
theorem ct_s {B : ZS} {k ix i : Int} (hi : 0 ≤ i) : ct B k ix (i + 1) = ct B k ix i + bi (B i 8 = 1 ∧ wi (B i 2) (B i 3) (B i 4) (B i 5) k = ix) := by
  unfold ct
  rw [sm_ap hi]
set_option maxRecDepth 8000 in
theorem ct_N {B : ZS} {k ix N : Int} : ct B k ix N = wn B N k ix := rfl
abbrev fr1 (B : ZS) (R k j : Int) : Prop := (B j 8 = 1 ∧ 0 ≤ wi (B j 2) (B j 3) (B j 4) (B j 5) k) ∧ ct B k (wi (B j 2) (B j 3) (B j 4) (B j 5) k) (j + 1) = R + 1
noncomputable def spa (B : ZS) (N R k : Int) : Int := sm (fun j => bi (fr1 B R k j)) 0 N
set_option maxRecDepth 8000 in
theorem spa_b {B : ZS} {N R k : Int} (hn : 0 ≤ N) : 0 ≤ spa B N R k ∧ spa B N R k ≤ N := by
  have := cn_b (fun j => fr1 B R k j) 0 N hn
  unfold spa
  omega
/-- the tally, when those up to i are counted -/
def tly (B : ZS) (t : ZS) (o k i : Int) : Prop := ∀ ix, 0 ≤ ix ∧ ix ≤ 255 → t o ix = ct B k ix i
set_option maxRecDepth 8000 in
theorem tly_k {B : ZS} {t : ZS} {o k i : Int} (h : tly B t o k i) (hi : 0 ≤ i) (q : ¬(B i 8 = 1 ∧ 0 ≤ wi (B i 2) (B i 3) (B i 4) (B i 5) k)) : tly B t o k (i + 1) := by
  intro ix hx
  rw [ct_s hi, h ix hx, bi_0 (fun c => q ⟨c.1, by omega⟩), Int.add_zero]
set_option maxRecDepth 8000 in
theorem tly_s {B : ZS} {t : ZS} {o k i w : Int} (h : tly B t o k i) (hi : 0 ≤ i) (q : B i 8 = 1) (hw : wi (B i 2) (B i 3) (B i 4) (B i 5) k = w) : tly B (up t o w (t o w + 1)) o k (i + 1) := by
  intro ix hx
  rw [ct_s hi]
  by_cases e : ix = w
  · rw [e, up_eq, h w (by omega), bi_1 ⟨q, hw⟩]
  · rw [up_ne (Or.inr e), h ix hx, bi_0 (fun c => e (by omega)), Int.add_zero]
set_option maxRecDepth 8000 in
theorem s49 {d : Nat} {G : XS} {s : ZS} {W : Int} {B : ZS} {N R T : Int} {k : Int} (hd : 2 ≤ d) (hw : WOK G W) (hv : CV s W B N R T) (hb : OKB B N) (hn : 0 ≤ N ∧ N ≤ 40 ∧ 0 ≤ R ∧ R ≤ 10 ∧ 0 ≤ T ∧ T ≤ 20000) (hk : 0 ≤ k ∧ k ≤ 4) : ∃ s2, (∀ b c, b ≠ W + 42 → s2 b c = s b c) ∧ ∀ Q, Call d 49 [zrf W, zint k] (G, s) Q = Q (some (zint (spa B N R k))) (G, s2) := by
  have hw' := hw
  obtain ⟨w1, w2, w3, w4, w5, w6, w7, w8, w9, w10, w11, w12, w13, w14, w15, w16, w17, w18, w19, w20, w21, w22, w23, w24, w25⟩ := hw'
  have hv' := hv
  obtain ⟨v1, v2, v3, vB⟩ := hv'
  have hk5 : 0 ≤ k ∧ k ≤ 5 := by omega
  have w0 : 0 ≤ W := w25
  have lp : ∀ i, 0 ≤ i → i ≤ N → ∀ (t : ZS) (a : Int) (v : AV), (∀ b c, b ≠ W + 42 → t b c = s b c) → tly B t (W + 42) k i → ∃ s2, (∀ b c, b ≠ W + 42 → s2 b c = s b c) ∧ ∀ Q, Wp (d - 1) 49 (12, [zrf W, zint k, zint a, zint i, v], [], (G, t)) Q = Q (some (zint (a + sm (fun j => bi (fr1 B R k j)) i N))) (G, s2) := by
    refine dn (P := fun i => ∀ (t : ZS) (a : Int) (v : AV), (∀ b c, b ≠ W + 42 → t b c = s b c) → tly B t (W + 42) k i → ∃ s2, (∀ b c, b ≠ W + 42 → s2 b c = s b c) ∧ ∀ Q, Wp (d - 1) 49 (12, [zrf W, zint k, zint a, zint i, v], [], (G, t)) Q = Q (some (zint (a + sm (fun j => bi (fr1 B R k j)) i N))) (G, s2)) ?_ ?_
    · intro t a v ht hy
      refine ⟨t, ht, fun Q => ?_⟩
      have td : ∀ b c, b ≠ W + 42 → t b c = s b c := ht
      rw [sm_e (Int.le_refl N), u49_12, Int.add_zero]
      simp (disch := first | omega | exact rfl) only [↓u49_0, ↓u49_1, ↓u49_4, ↓u49_5, ↓u49_8, ↓u49_9, ↓u49_10, ↓u49_11, ↓u49_13, ↓u49_14, ↓u49_17, ↓u49_20, ↓u49_21, ↓u49_24, ↓u49_25, ↓u49_26, ↓u49_29, ↓u49_32, ↓u49_33, ↓u49_36, ↓u49_37, ↓u49_38, ↓u49_39, ↓u49_42, ↓u49_45, ↓u49_46, ↓u49_48, ↓u49_50, ↓u49_51, ↓u49_52, ↓u49_55, ↓u49_56, ↓u49_57, ↓u49_58, ↓u49_61, ↓u49_64, ↓u49_65, ↓u49_68, ↓u49_70, ↓u49_71, ↓u49_72, ↓u49_73, ↓u49_74, ↓u49_75, ↓u49_76, ↓u49_77, ↓u49_80, ↓u49_82, ↓u49_83, ↓u49_84, ↓u49_87, ↓u49_88, ↓u49_89, ↓u49_92, ↓u49_93, ↓u49_96, ↓u49_97, ↓u49_98, ↓u49_99, ↓u49_102, ↓u49_105, ↓u49_106, ↓lI_0, ↓lI_s, ↓lL_0, ↓lL_s, ↓lR_0, ↓lR_s, ↓sT_0, ↓sT_i, ↓sT_r, ↓sT_u, ↓sT_lu, ↓sU_0, ↓sU_i, ↓sU_r, ↓sU_u, ↓ite_bx, bx_T, bx_F, bx_pos, bx_neg, zws_i, zws_r, zws_l, zws_n, zCb_kc, xl_ll, xr_rr, xs_e, xset_e, Option.toList, List.cons_append, List.nil_append, zIb_e, zrng_e, nz_e, if_pos, if_neg, and_true, true_and, or_true, true_or, ite_self, bi_eq0, bi_eq1, bi_1, bi_0, bi_ir, bi_T, bi_F, up_eq, up_ne, ↓reduceIte, reduceIte, Nat.reduceAdd, Nat.reduceLeDiff, Nat.le_refl, Nat.zero_le, not_true_eq_false, not_false_eq_true, ne_eq, Int.reduceEq, Int.reduceLT, Int.reduceLE, Int.reduceAdd, Int.reduceSub, Int.reduceMul, Int.reduceNeg, pT w1, w2, pT w3, w4, w5, w6, v1, v2, v3, vB, td]
    · intro i h0 h1 ih t a v ht hy
      have b := hb i ⟨h0, h1⟩
      have k1 := w6 i (by omega)
      have k2 : okb t (W + 2 + i) := by
        have k2 := okb_o (G := G) hv hb ⟨h0, h1⟩
        simp (disch := omega) only [okb, ht]
        exact k2
      have td : ∀ b c, b ≠ W + 42 → t b c = s b c := ht
      have wb := wi_4 (x := B i 2) (y := B i 3) (w := B i 4) (h := B i 5) hk (by omega)
      by_cases q : B i 8 = 1 ∧ 0 ≤ wi (B i 2) (B i 3) (B i 4) (B i 5) k
      · generalize hw2 : wi (B i 2) (B i 3) (B i 4) (B i 5) k = w at wb q
        have ce := ct_s (B := B) (k := k) (ix := w) h0
        rw [bi_1 ⟨q.1, hw2⟩] at ce
        have cb := ct_b (B := B) (k := k) (ix := w) h0
        have hyw := hy w (by omega)
        have hf : (fr1 B R k i) = (ct B k w i + 1 = R + 1) := by
          unfold fr1
          rw [hw2, ce]
          exact propext ⟨fun c => c.2, fun c => ⟨q, c⟩⟩
        by_cases q2 : ct B k w i = R
        · obtain ⟨s2, hs, e⟩ := ih (up t (W + 42) w (t (W + 42) w + 1)) (a + 1) (zint w) (fun b c h => by rw [up_ne (Or.inl h), ht b c h]) (tly_s hy h0 q.1 hw2)
          refine ⟨s2, hs, fun Q => ?_⟩
          rw [sm_s h1, hf, bi_1 (by omega), u49_12, ← Int.add_assoc]
          rw [hyw] at e
          simp (disch := first | omega | exact rfl) only [↓u49_0, ↓u49_1, ↓u49_4, ↓u49_5, ↓u49_8, ↓u49_9, ↓u49_10, ↓u49_11, ↓u49_13, ↓u49_14, ↓u49_17, ↓u49_20, ↓u49_21, ↓u49_24, ↓u49_25, ↓u49_26, ↓u49_29, ↓u49_32, ↓u49_33, ↓u49_36, ↓u49_37, ↓u49_38, ↓u49_39, ↓u49_42, ↓u49_45, ↓u49_46, ↓u49_48, ↓u49_50, ↓u49_51, ↓u49_52, ↓u49_55, ↓u49_56, ↓u49_57, ↓u49_58, ↓u49_61, ↓u49_64, ↓u49_65, ↓u49_68, ↓u49_70, ↓u49_71, ↓u49_72, ↓u49_73, ↓u49_74, ↓u49_75, ↓u49_76, ↓u49_77, ↓u49_80, ↓u49_82, ↓u49_83, ↓u49_84, ↓u49_87, ↓u49_88, ↓u49_89, ↓u49_92, ↓u49_93, ↓u49_96, ↓u49_97, ↓u49_98, ↓u49_99, ↓u49_102, ↓u49_105, ↓u49_106, ↓lI_0, ↓lI_s, ↓lL_0, ↓lL_s, ↓lR_0, ↓lR_s, ↓sT_0, ↓sT_i, ↓sT_r, ↓sT_u, ↓sT_lu, ↓sU_0, ↓sU_i, ↓sU_r, ↓sU_u, ↓ite_bx, bx_T, bx_F, bx_pos, bx_neg, zws_i, zws_r, zws_l, zws_n, zCb_kc, xl_ll, xr_rr, xs_e, xset_e, Option.toList, List.cons_append, List.nil_append, zIb_e, zrng_e, nz_e, if_pos, if_neg, and_true, true_and, or_true, true_or, ite_self, bi_eq0, bi_eq1, bi_1, bi_0, bi_ir, bi_T, bi_F, up_eq, up_ne, ↓reduceIte, reduceIte, Nat.reduceAdd, Nat.reduceLeDiff, Nat.le_refl, Nat.zero_le, not_true_eq_false, not_false_eq_true, ne_eq, Int.reduceEq, Int.reduceLT, Int.reduceLE, Int.reduceAdd, Int.reduceSub, Int.reduceMul, Int.reduceNeg, pT w1, w2, pT w3, w4, w5, w6, v1, v2, v3, vB, e, td, s103 (show 1 ≤ d - 1 by omega), s13 (show 1 ≤ d - 1 by omega) k1 k2 hk5, zSb_e w8, hw2, hyw, pT w8, w7, w9]
        · obtain ⟨s2, hs, e⟩ := ih (up t (W + 42) w (t (W + 42) w + 1)) a (zint w) (fun b c h => by rw [up_ne (Or.inl h), ht b c h]) (tly_s hy h0 q.1 hw2)
          refine ⟨s2, hs, fun Q => ?_⟩
          rw [sm_s h1, hf, bi_0 (by omega), u49_12, Int.zero_add]
          rw [hyw] at e
          simp (disch := first | omega | exact rfl) only [↓u49_0, ↓u49_1, ↓u49_4, ↓u49_5, ↓u49_8, ↓u49_9, ↓u49_10, ↓u49_11, ↓u49_13, ↓u49_14, ↓u49_17, ↓u49_20, ↓u49_21, ↓u49_24, ↓u49_25, ↓u49_26, ↓u49_29, ↓u49_32, ↓u49_33, ↓u49_36, ↓u49_37, ↓u49_38, ↓u49_39, ↓u49_42, ↓u49_45, ↓u49_46, ↓u49_48, ↓u49_50, ↓u49_51, ↓u49_52, ↓u49_55, ↓u49_56, ↓u49_57, ↓u49_58, ↓u49_61, ↓u49_64, ↓u49_65, ↓u49_68, ↓u49_70, ↓u49_71, ↓u49_72, ↓u49_73, ↓u49_74, ↓u49_75, ↓u49_76, ↓u49_77, ↓u49_80, ↓u49_82, ↓u49_83, ↓u49_84, ↓u49_87, ↓u49_88, ↓u49_89, ↓u49_92, ↓u49_93, ↓u49_96, ↓u49_97, ↓u49_98, ↓u49_99, ↓u49_102, ↓u49_105, ↓u49_106, ↓lI_0, ↓lI_s, ↓lL_0, ↓lL_s, ↓lR_0, ↓lR_s, ↓sT_0, ↓sT_i, ↓sT_r, ↓sT_u, ↓sT_lu, ↓sU_0, ↓sU_i, ↓sU_r, ↓sU_u, ↓ite_bx, bx_T, bx_F, bx_pos, bx_neg, zws_i, zws_r, zws_l, zws_n, zCb_kc, xl_ll, xr_rr, xs_e, xset_e, Option.toList, List.cons_append, List.nil_append, zIb_e, zrng_e, nz_e, if_pos, if_neg, and_true, true_and, or_true, true_or, ite_self, bi_eq0, bi_eq1, bi_1, bi_0, bi_ir, bi_T, bi_F, up_eq, up_ne, ↓reduceIte, reduceIte, Nat.reduceAdd, Nat.reduceLeDiff, Nat.le_refl, Nat.zero_le, not_true_eq_false, not_false_eq_true, ne_eq, Int.reduceEq, Int.reduceLT, Int.reduceLE, Int.reduceAdd, Int.reduceSub, Int.reduceMul, Int.reduceNeg, pT w1, w2, pT w3, w4, w5, w6, v1, v2, v3, vB, e, td, s103 (show 1 ≤ d - 1 by omega), s13 (show 1 ≤ d - 1 by omega) k1 k2 hk5, zSb_e w8, hw2, hyw, pT w8, w7, w9, Int.add_zero]
      · have hf : bi (fr1 B R k i) = 0 := bi_0 (fun c => q c.1)
        by_cases q3 : B i 8 = 1
        · have qw : wi (B i 2) (B i 3) (B i 4) (B i 5) k = -1 := by
            have : ¬0 ≤ wi (B i 2) (B i 3) (B i 4) (B i 5) k := fun c => q ⟨q3, c⟩
            omega
          obtain ⟨s2, hs, e⟩ := ih t a (zint (-1)) ht (tly_k hy h0 q)
          refine ⟨s2, hs, fun Q => ?_⟩
          rw [sm_s h1, hf, u49_12, Int.zero_add]
          simp (disch := first | omega | exact rfl) only [↓u49_0, ↓u49_1, ↓u49_4, ↓u49_5, ↓u49_8, ↓u49_9, ↓u49_10, ↓u49_11, ↓u49_13, ↓u49_14, ↓u49_17, ↓u49_20, ↓u49_21, ↓u49_24, ↓u49_25, ↓u49_26, ↓u49_29, ↓u49_32, ↓u49_33, ↓u49_36, ↓u49_37, ↓u49_38, ↓u49_39, ↓u49_42, ↓u49_45, ↓u49_46, ↓u49_48, ↓u49_50, ↓u49_51, ↓u49_52, ↓u49_55, ↓u49_56, ↓u49_57, ↓u49_58, ↓u49_61, ↓u49_64, ↓u49_65, ↓u49_68, ↓u49_70, ↓u49_71, ↓u49_72, ↓u49_73, ↓u49_74, ↓u49_75, ↓u49_76, ↓u49_77, ↓u49_80, ↓u49_82, ↓u49_83, ↓u49_84, ↓u49_87, ↓u49_88, ↓u49_89, ↓u49_92, ↓u49_93, ↓u49_96, ↓u49_97, ↓u49_98, ↓u49_99, ↓u49_102, ↓u49_105, ↓u49_106, ↓lI_0, ↓lI_s, ↓lL_0, ↓lL_s, ↓lR_0, ↓lR_s, ↓sT_0, ↓sT_i, ↓sT_r, ↓sT_u, ↓sT_lu, ↓sU_0, ↓sU_i, ↓sU_r, ↓sU_u, ↓ite_bx, bx_T, bx_F, bx_pos, bx_neg, zws_i, zws_r, zws_l, zws_n, zCb_kc, xl_ll, xr_rr, xs_e, xset_e, Option.toList, List.cons_append, List.nil_append, zIb_e, zrng_e, nz_e, if_pos, if_neg, and_true, true_and, or_true, true_or, ite_self, bi_eq0, bi_eq1, bi_1, bi_0, bi_ir, bi_T, bi_F, up_eq, up_ne, ↓reduceIte, reduceIte, Nat.reduceAdd, Nat.reduceLeDiff, Nat.le_refl, Nat.zero_le, not_true_eq_false, not_false_eq_true, ne_eq, Int.reduceEq, Int.reduceLT, Int.reduceLE, Int.reduceAdd, Int.reduceSub, Int.reduceMul, Int.reduceNeg, pT w1, w2, pT w3, w4, w5, w6, v1, v2, v3, vB, e, td, s103 (show 1 ≤ d - 1 by omega), s13 (show 1 ≤ d - 1 by omega) k1 k2 hk5, zSb_e w8, qw, pT w8, w7, w9]
        · obtain ⟨s2, hs, e⟩ := ih t a (zint (-1)) ht (tly_k hy h0 q)
          refine ⟨s2, hs, fun Q => ?_⟩
          rw [sm_s h1, hf, u49_12, Int.zero_add]
          simp (disch := first | omega | exact rfl) only [↓u49_0, ↓u49_1, ↓u49_4, ↓u49_5, ↓u49_8, ↓u49_9, ↓u49_10, ↓u49_11, ↓u49_13, ↓u49_14, ↓u49_17, ↓u49_20, ↓u49_21, ↓u49_24, ↓u49_25, ↓u49_26, ↓u49_29, ↓u49_32, ↓u49_33, ↓u49_36, ↓u49_37, ↓u49_38, ↓u49_39, ↓u49_42, ↓u49_45, ↓u49_46, ↓u49_48, ↓u49_50, ↓u49_51, ↓u49_52, ↓u49_55, ↓u49_56, ↓u49_57, ↓u49_58, ↓u49_61, ↓u49_64, ↓u49_65, ↓u49_68, ↓u49_70, ↓u49_71, ↓u49_72, ↓u49_73, ↓u49_74, ↓u49_75, ↓u49_76, ↓u49_77, ↓u49_80, ↓u49_82, ↓u49_83, ↓u49_84, ↓u49_87, ↓u49_88, ↓u49_89, ↓u49_92, ↓u49_93, ↓u49_96, ↓u49_97, ↓u49_98, ↓u49_99, ↓u49_102, ↓u49_105, ↓u49_106, ↓lI_0, ↓lI_s, ↓lL_0, ↓lL_s, ↓lR_0, ↓lR_s, ↓sT_0, ↓sT_i, ↓sT_r, ↓sT_u, ↓sT_lu, ↓sU_0, ↓sU_i, ↓sU_r, ↓sU_u, ↓ite_bx, bx_T, bx_F, bx_pos, bx_neg, zws_i, zws_r, zws_l, zws_n, zCb_kc, xl_ll, xr_rr, xs_e, xset_e, Option.toList, List.cons_append, List.nil_append, zIb_e, zrng_e, nz_e, if_pos, if_neg, and_true, true_and, or_true, true_or, ite_self, bi_eq0, bi_eq1, bi_1, bi_0, bi_ir, bi_T, bi_F, up_eq, up_ne, ↓reduceIte, reduceIte, Nat.reduceAdd, Nat.reduceLeDiff, Nat.le_refl, Nat.zero_le, not_true_eq_false, not_false_eq_true, ne_eq, Int.reduceEq, Int.reduceLT, Int.reduceLE, Int.reduceAdd, Int.reduceSub, Int.reduceMul, Int.reduceNeg, pT w1, w2, pT w3, w4, w5, w6, v1, v2, v3, vB, e, td, s103 (show 1 ≤ d - 1 by omega), s13 (show 1 ≤ d - 1 by omega) k1 k2 hk5, zSb_e w8, pT w8, w7, w9]
  obtain ⟨s2, hs, e⟩ := lp 0 (Int.le_refl 0) hn.1 (flo s (W + 42) 256 0) 0 zun (fun b c h => flo_o (Or.inl h)) (fun ix hx => by
    rw [flo_i (by omega)]
    unfold ct
    rw [sm_e (Int.le_refl 0)])
  refine ⟨s2, hs, fun Q => ?_⟩
  rw [e49 (show 1 ≤ d by omega)]
  rw [Int.zero_add] at e
  unfold spa
  simp (disch := first | omega | exact rfl) only [↓u49_0, ↓u49_1, ↓u49_4, ↓u49_5, ↓u49_8, ↓u49_9, ↓u49_10, ↓u49_11, ↓u49_13, ↓u49_14, ↓u49_17, ↓u49_20, ↓u49_21, ↓u49_24, ↓u49_25, ↓u49_26, ↓u49_29, ↓u49_32, ↓u49_33, ↓u49_36, ↓u49_37, ↓u49_38, ↓u49_39, ↓u49_42, ↓u49_45, ↓u49_46, ↓u49_48, ↓u49_50, ↓u49_51, ↓u49_52, ↓u49_55, ↓u49_56, ↓u49_57, ↓u49_58, ↓u49_61, ↓u49_64, ↓u49_65, ↓u49_68, ↓u49_70, ↓u49_71, ↓u49_72, ↓u49_73, ↓u49_74, ↓u49_75, ↓u49_76, ↓u49_77, ↓u49_80, ↓u49_82, ↓u49_83, ↓u49_84, ↓u49_87, ↓u49_88, ↓u49_89, ↓u49_92, ↓u49_93, ↓u49_96, ↓u49_97, ↓u49_98, ↓u49_99, ↓u49_102, ↓u49_105, ↓u49_106, ↓lI_0, ↓lI_s, ↓lL_0, ↓lL_s, ↓lR_0, ↓lR_s, ↓sT_0, ↓sT_i, ↓sT_r, ↓sT_u, ↓sT_lu, ↓sU_0, ↓sU_i, ↓sU_r, ↓sU_u, ↓ite_bx, bx_T, bx_F, bx_pos, bx_neg, zws_i, zws_r, zws_l, zws_n, zCb_kc, xl_ll, xr_rr, xs_e, xset_e, Option.toList, List.cons_append, List.nil_append, zIb_e, zrng_e, nz_e, if_pos, if_neg, and_true, true_and, or_true, true_or, ite_self, bi_eq0, bi_eq1, bi_1, bi_0, bi_ir, bi_T, bi_F, up_eq, up_ne, ↓reduceIte, reduceIte, Nat.reduceAdd, Nat.reduceLeDiff, Nat.le_refl, Nat.zero_le, not_true_eq_false, not_false_eq_true, ne_eq, Int.reduceEq, Int.reduceLT, Int.reduceLE, Int.reduceAdd, Int.reduceSub, Int.reduceMul, Int.reduceNeg, pT w1, w2, pT w3, w4, w5, w6, v1, v2, v3, vB, w7, pT w8, w9, e, s193 (show 1 ≤ d - 1 by omega) w8 w9 (show (0 : Int) ≤ 256 ∧ (256 : Int) ≤ 1000 by omega)]
set_option maxRecDepth 8000 in
theorem CV_o {s s2 : ZS} {W : Int} {B : ZS} {N R T : Int} (hv : CV s W B N R T) (hn : N ≤ 40) (hs : ∀ b c, b ≠ W + 42 → s2 b c = s b c) : CV s2 W B N R T := by
  obtain ⟨v1, v2, v3, vB⟩ := hv
  refine ⟨?_, ?_, ?_, ?_⟩
  · rw [hs _ _ (by omega)]; exact v1
  · rw [hs _ _ (by omega)]; exact v2
  · rw [hs _ _ (by omega)]; exact v3
  · intro i f h
    rw [hs _ _ (by omega)]
    exact vB i f h
noncomputable def sqa (B : ZS) (N R i : Int) : Int := sm (fun k => 4 * spa B N R k) i 5
set_option maxRecDepth 8000 in
theorem s50 {d : Nat} {G : XS} {s : ZS} {W : Int} {B : ZS} {N R T : Int} (hd : 3 ≤ d) (hw : WOK G W) (hv : CV s W B N R T) (hb : OKB B N) (hn : 0 ≤ N ∧ N ≤ 40 ∧ 0 ≤ R ∧ R ≤ 10 ∧ 0 ≤ T ∧ T ≤ 20000) : ∃ s2, (∀ b c, b ≠ W + 42 → s2 b c = s b c) ∧ ∀ Q, Call d 50 [zrf W] (G, s) Q = Q (some (zint (1 + sqa B N R 0))) (G, s2) := by
  have hw' := hw
  obtain ⟨w1, w2, w3, w4, w5, w6, w7, w8, w9, w10, w11, w12, w13, w14, w15, w16, w17, w18, w19, w20, w21, w22, w23, w24, w25⟩ := hw'
  have hv' := hv
  obtain ⟨v1, v2, v3, vB⟩ := hv'
  have lp : ∀ i, 0 ≤ i → i ≤ 5 → ∀ (t : ZS) (a : Int), (∀ b c, b ≠ W + 42 → t b c = s b c) → ∃ s2, (∀ b c, b ≠ W + 42 → s2 b c = s b c) ∧ ∀ Q, Wp (d - 1) 50 (4, [zrf W, zint a, zint i], [], (G, t)) Q = Q (some (zint (a + sqa B N R i))) (G, s2) := by
    unfold sqa
    refine dn (P := fun i => ∀ (t : ZS) (a : Int), (∀ b c, b ≠ W + 42 → t b c = s b c) → ∃ s2, (∀ b c, b ≠ W + 42 → s2 b c = s b c) ∧ ∀ Q, Wp (d - 1) 50 (4, [zrf W, zint a, zint i], [], (G, t)) Q = Q (some (zint (a + sm (fun k => 4 * spa B N R k) i 5))) (G, s2)) ?_ ?_
    · intro t a ht
      refine ⟨t, ht, fun Q => ?_⟩
      rw [sm_e (Int.le_refl 5), u50_4, Int.add_zero]
      simp (disch := first | omega | exact rfl) only [↓u50_0, ↓u50_1, ↓u50_2, ↓u50_3, ↓u50_5, ↓u50_6, ↓u50_9, ↓u50_10, ↓u50_11, ↓u50_12, ↓u50_13, ↓u50_16, ↓u50_17, ↓u50_18, ↓u50_19, ↓u50_22, ↓u50_25, ↓u50_26, ↓lI_0, ↓lI_s, ↓lL_0, ↓lL_s, ↓lR_0, ↓lR_s, ↓sT_0, ↓sT_i, ↓sT_r, ↓sT_u, ↓sT_lu, ↓sU_0, ↓sU_i, ↓sU_r, ↓sU_u, ↓ite_bx, bx_T, bx_F, bx_pos, bx_neg, zws_i, zws_r, zws_l, zws_n, zCb_kc, xl_ll, xr_rr, xs_e, xset_e, Option.toList, List.cons_append, List.nil_append, zIb_e, zrng_e, nz_e, if_pos, if_neg, and_true, true_and, or_true, true_or, ite_self, bi_eq0, bi_eq1, bi_1, bi_0, bi_ir, bi_T, bi_F, up_eq, up_ne, ↓reduceIte, reduceIte, Nat.reduceAdd, Nat.reduceLeDiff, Nat.le_refl, Nat.zero_le, not_true_eq_false, not_false_eq_true, ne_eq, Int.reduceEq, Int.reduceLT, Int.reduceLE, Int.reduceAdd, Int.reduceSub, Int.reduceMul, Int.reduceNeg, pT w1, w2, pT w3, w4, w5, w6, v1, v2, v3, vB]
    · intro i h0 h1 ih t a ht
      obtain ⟨s3, hs3, e3⟩ := s49 (d := d - 1) (k := i) (show 2 ≤ d - 1 by omega) hw (CV_o hv hn.2.1 ht) hb hn (show 0 ≤ i ∧ i ≤ 4 by omega)
      obtain ⟨s2, hs, e⟩ := ih s3 (a + 4 * spa B N R i) (fun b c h => by rw [hs3 b c h, ht b c h])
      refine ⟨s2, hs, fun Q => ?_⟩
      rw [sm_s h1, u50_4, ← Int.add_assoc]
      simp (disch := first | omega | exact rfl) only [↓u50_0, ↓u50_1, ↓u50_2, ↓u50_3, ↓u50_5, ↓u50_6, ↓u50_9, ↓u50_10, ↓u50_11, ↓u50_12, ↓u50_13, ↓u50_16, ↓u50_17, ↓u50_18, ↓u50_19, ↓u50_22, ↓u50_25, ↓u50_26, ↓lI_0, ↓lI_s, ↓lL_0, ↓lL_s, ↓lR_0, ↓lR_s, ↓sT_0, ↓sT_i, ↓sT_r, ↓sT_u, ↓sT_lu, ↓sU_0, ↓sU_i, ↓sU_r, ↓sU_u, ↓ite_bx, bx_T, bx_F, bx_pos, bx_neg, zws_i, zws_r, zws_l, zws_n, zCb_kc, xl_ll, xr_rr, xs_e, xset_e, Option.toList, List.cons_append, List.nil_append, zIb_e, zrng_e, nz_e, if_pos, if_neg, and_true, true_and, or_true, true_or, ite_self, bi_eq0, bi_eq1, bi_1, bi_0, bi_ir, bi_T, bi_F, up_eq, up_ne, ↓reduceIte, reduceIte, Nat.reduceAdd, Nat.reduceLeDiff, Nat.le_refl, Nat.zero_le, not_true_eq_false, not_false_eq_true, ne_eq, Int.reduceEq, Int.reduceLT, Int.reduceLE, Int.reduceAdd, Int.reduceSub, Int.reduceMul, Int.reduceNeg, pT w1, w2, pT w3, w4, w5, w6, v1, v2, v3, vB, e3, e]
  obtain ⟨s2, hs, e⟩ := lp 0 (Int.le_refl 0) (by omega) s 1 (fun b c h => rfl)
  refine ⟨s2, hs, fun Q => ?_⟩
  rw [e50 (show 1 ≤ d by omega)]
  simp (disch := first | omega | exact rfl) only [↓u50_0, ↓u50_1, ↓u50_2, ↓u50_3, ↓u50_5, ↓u50_6, ↓u50_9, ↓u50_10, ↓u50_11, ↓u50_12, ↓u50_13, ↓u50_16, ↓u50_17, ↓u50_18, ↓u50_19, ↓u50_22, ↓u50_25, ↓u50_26, ↓lI_0, ↓lI_s, ↓lL_0, ↓lL_s, ↓lR_0, ↓lR_s, ↓sT_0, ↓sT_i, ↓sT_r, ↓sT_u, ↓sT_lu, ↓sU_0, ↓sU_i, ↓sU_r, ↓sU_u, ↓ite_bx, bx_T, bx_F, bx_pos, bx_neg, zws_i, zws_r, zws_l, zws_n, zCb_kc, xl_ll, xr_rr, xs_e, xset_e, Option.toList, List.cons_append, List.nil_append, zIb_e, zrng_e, nz_e, if_pos, if_neg, and_true, true_and, or_true, true_or, ite_self, bi_eq0, bi_eq1, bi_1, bi_0, bi_ir, bi_T, bi_F, up_eq, up_ne, ↓reduceIte, reduceIte, Nat.reduceAdd, Nat.reduceLeDiff, Nat.le_refl, Nat.zero_le, not_true_eq_false, not_false_eq_true, ne_eq, Int.reduceEq, Int.reduceLT, Int.reduceLE, Int.reduceAdd, Int.reduceSub, Int.reduceMul, Int.reduceNeg, pT w1, w2, pT w3, w4, w5, w6, v1, v2, v3, vB, e]
/-- the first depth at which none is split -/
noncomputable def gdn (B : ZS) (N R : Int) : Nat → Int → Int
  | 0, k => k
  | n + 1, k => if 0 < spa B N R k then gdn B N R n (k + 1) else k
set_option maxRecDepth 8000 in
theorem s51 {d : Nat} {G : XS} {s : ZS} {W : Int} {B : ZS} {N R T : Int} (hd : 3 ≤ d) (hw : WOK G W) (hv : CV s W B N R T) (hb : OKB B N) (hn : 0 ≤ N ∧ N ≤ 40 ∧ 0 ≤ R ∧ R ≤ 10 ∧ 0 ≤ T ∧ T ≤ 20000) : ∃ s2, (∀ b c, b ≠ W + 42 → s2 b c = s b c) ∧ ∀ Q, Call d 51 [zrf W] (G, s) Q = Q (some (zint (gdn B N R 5 0))) (G, s2) := by
  have hw' := hw
  obtain ⟨w1, w2, w3, w4, w5, w6, w7, w8, w9, w10, w11, w12, w13, w14, w15, w16, w17, w18, w19, w20, w21, w22, w23, w24, w25⟩ := hw'
  have hv' := hv
  obtain ⟨v1, v2, v3, vB⟩ := hv'
  have lp : ∀ (n : Nat) (k : Int) (t : ZS), k + n = 5 → 0 ≤ k → (∀ b c, b ≠ W + 42 → t b c = s b c) → ∃ s2, (∀ b c, b ≠ W + 42 → s2 b c = s b c) ∧ ∀ Q, Wp (d - 1) 51 (2, [zrf W, zint k], [], (G, t)) Q = Q (some (zint (gdn B N R n k))) (G, s2) := by
    intro n
    induction n with
    | zero =>
      intro k t h1 h2 ht
      refine ⟨t, ht, fun Q => ?_⟩
      rw [show gdn B N R 0 k = k from rfl, u51_2]
      simp (disch := first | omega | exact rfl) only [↓u51_0, ↓u51_1, ↓u51_3, ↓u51_4, ↓u51_7, ↓u51_8, ↓u51_9, ↓u51_12, ↓u51_15, ↓u51_18, ↓u51_21, ↓u51_22, ↓lI_0, ↓lI_s, ↓lL_0, ↓lL_s, ↓lR_0, ↓lR_s, ↓sT_0, ↓sT_i, ↓sT_r, ↓sT_u, ↓sT_lu, ↓sU_0, ↓sU_i, ↓sU_r, ↓sU_u, ↓ite_bx, bx_T, bx_F, bx_pos, bx_neg, zws_i, zws_r, zws_l, zws_n, zCb_kc, xl_ll, xr_rr, xs_e, xset_e, Option.toList, List.cons_append, List.nil_append, zIb_e, zrng_e, nz_e, if_pos, if_neg, and_true, true_and, or_true, true_or, ite_self, bi_eq0, bi_eq1, bi_1, bi_0, bi_ir, bi_T, bi_F, up_eq, up_ne, ↓reduceIte, reduceIte, Nat.reduceAdd, Nat.reduceLeDiff, Nat.le_refl, Nat.zero_le, not_true_eq_false, not_false_eq_true, ne_eq, Int.reduceEq, Int.reduceLT, Int.reduceLE, Int.reduceAdd, Int.reduceSub, Int.reduceMul, Int.reduceNeg, pT w1, w2, pT w3, w4, w5, w6, v1, v2, v3, vB]
    | succ n ih =>
      intro k t h1 h2 ht
      obtain ⟨s3, hs3, e3⟩ := s49 (d := d - 1) (k := k) (show 2 ≤ d - 1 by omega) hw (CV_o hv hn.2.1 ht) hb hn (show 0 ≤ k ∧ k ≤ 4 by omega)
      have sb := spa_b (B := B) (N := N) (R := R) (k := k) hn.1
      have hs4 : ∀ b c, b ≠ W + 42 → s3 b c = s b c := fun b c h => by rw [hs3 b c h, ht b c h]
      by_cases q : 0 < spa B N R k
      · obtain ⟨s2, hs, e⟩ := ih (k + 1) s3 (by omega) (by omega) hs4
        refine ⟨s2, hs, fun Q => ?_⟩
        rw [show gdn B N R (n + 1) k = gdn B N R n (k + 1) from if_pos q, u51_2]
        simp (disch := first | omega | exact rfl) only [↓u51_0, ↓u51_1, ↓u51_3, ↓u51_4, ↓u51_7, ↓u51_8, ↓u51_9, ↓u51_12, ↓u51_15, ↓u51_18, ↓u51_21, ↓u51_22, ↓lI_0, ↓lI_s, ↓lL_0, ↓lL_s, ↓lR_0, ↓lR_s, ↓sT_0, ↓sT_i, ↓sT_r, ↓sT_u, ↓sT_lu, ↓sU_0, ↓sU_i, ↓sU_r, ↓sU_u, ↓ite_bx, bx_T, bx_F, bx_pos, bx_neg, zws_i, zws_r, zws_l, zws_n, zCb_kc, xl_ll, xr_rr, xs_e, xset_e, Option.toList, List.cons_append, List.nil_append, zIb_e, zrng_e, nz_e, if_pos, if_neg, and_true, true_and, or_true, true_or, ite_self, bi_eq0, bi_eq1, bi_1, bi_0, bi_ir, bi_T, bi_F, up_eq, up_ne, ↓reduceIte, reduceIte, Nat.reduceAdd, Nat.reduceLeDiff, Nat.le_refl, Nat.zero_le, not_true_eq_false, not_false_eq_true, ne_eq, Int.reduceEq, Int.reduceLT, Int.reduceLE, Int.reduceAdd, Int.reduceSub, Int.reduceMul, Int.reduceNeg, pT w1, w2, pT w3, w4, w5, w6, v1, v2, v3, vB, e3, e]
      · refine ⟨s3, hs4, fun Q => ?_⟩
        rw [show gdn B N R (n + 1) k = k from if_neg q, u51_2]
        simp (disch := first | omega | exact rfl) only [↓u51_0, ↓u51_1, ↓u51_3, ↓u51_4, ↓u51_7, ↓u51_8, ↓u51_9, ↓u51_12, ↓u51_15, ↓u51_18, ↓u51_21, ↓u51_22, ↓lI_0, ↓lI_s, ↓lL_0, ↓lL_s, ↓lR_0, ↓lR_s, ↓sT_0, ↓sT_i, ↓sT_r, ↓sT_u, ↓sT_lu, ↓sU_0, ↓sU_i, ↓sU_r, ↓sU_u, ↓ite_bx, bx_T, bx_F, bx_pos, bx_neg, zws_i, zws_r, zws_l, zws_n, zCb_kc, xl_ll, xr_rr, xs_e, xset_e, Option.toList, List.cons_append, List.nil_append, zIb_e, zrng_e, nz_e, if_pos, if_neg, and_true, true_and, or_true, true_or, ite_self, bi_eq0, bi_eq1, bi_1, bi_0, bi_ir, bi_T, bi_F, up_eq, up_ne, ↓reduceIte, reduceIte, Nat.reduceAdd, Nat.reduceLeDiff, Nat.le_refl, Nat.zero_le, not_true_eq_false, not_false_eq_true, ne_eq, Int.reduceEq, Int.reduceLT, Int.reduceLE, Int.reduceAdd, Int.reduceSub, Int.reduceMul, Int.reduceNeg, pT w1, w2, pT w3, w4, w5, w6, v1, v2, v3, vB, e3]
  obtain ⟨s2, hs, e⟩ := lp 5 0 s (by omega) (Int.le_refl 0) (fun b c h => rfl)
  refine ⟨s2, hs, fun Q => ?_⟩
  rw [e51 (show 1 ≤ d by omega)]
  simp (disch := first | omega | exact rfl) only [↓u51_0, ↓u51_1, ↓u51_3, ↓u51_4, ↓u51_7, ↓u51_8, ↓u51_9, ↓u51_12, ↓u51_15, ↓u51_18, ↓u51_21, ↓u51_22, ↓lI_0, ↓lI_s, ↓lL_0, ↓lL_s, ↓lR_0, ↓lR_s, ↓sT_0, ↓sT_i, ↓sT_r, ↓sT_u, ↓sT_lu, ↓sU_0, ↓sU_i, ↓sU_r, ↓sU_u, ↓ite_bx, bx_T, bx_F, bx_pos, bx_neg, zws_i, zws_r, zws_l, zws_n, zCb_kc, xl_ll, xr_rr, xs_e, xset_e, Option.toList, List.cons_append, List.nil_append, zIb_e, zrng_e, nz_e, if_pos, if_neg, and_true, true_and, or_true, true_or, ite_self, bi_eq0, bi_eq1, bi_1, bi_0, bi_ir, bi_T, bi_F, up_eq, up_ne, ↓reduceIte, reduceIte, Nat.reduceAdd, Nat.reduceLeDiff, Nat.le_refl, Nat.zero_le, not_true_eq_false, not_false_eq_true, ne_eq, Int.reduceEq, Int.reduceLT, Int.reduceLE, Int.reduceAdd, Int.reduceSub, Int.reduceMul, Int.reduceNeg, pT w1, w2, pT w3, w4, w5, w6, v1, v2, v3, vB, e]
