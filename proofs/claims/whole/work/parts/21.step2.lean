/-! the class World: a step of all, boxes taken over -/
def ws (s : ZS) (W i : Int) : ZS := fun a c => if W + 2 ≤ a ∧ a < W + 2 + i then stp s a c else s a c
set_option maxRecDepth 8000 in
theorem ws_o {s : ZS} {W i a c : Int} (h : a < W + 2 ∨ W + 2 + i ≤ a) : ws s W i a c = s a c := by
  unfold ws
  rw [if_neg (by omega)]
set_option maxRecDepth 8000 in
theorem ws_i {s : ZS} {W i a c : Int} (h : W + 2 ≤ a ∧ a < W + 2 + i) : ws s W i a c = stp s a c := by
  unfold ws
  rw [if_pos h]
set_option maxRecDepth 8000 in
theorem ws_0 {s : ZS} {W : Int} : ws s W 0 = s := by
  funext a c
  exact ws_o (by omega)
set_option maxRecDepth 8000 in
theorem stp_c {s s' : ZS} {i j : Int} (h : ∀ f, 0 ≤ f ∧ f < 9 → s i f = s' j f) {c : Int} (e : s i c = s' j c) : stp s i c = stp s' j c := by
  by_cases e2 : c = 2
  · rw [e2, stp_2, stp_2, h 0 (by omega), h 2 (by omega), h 4 (by omega), h 6 (by omega)]
  by_cases e3 : c = 3
  · rw [e3, stp_3, stp_3, h 0 (by omega), h 3 (by omega), h 5 (by omega), h 7 (by omega)]
  by_cases e6 : c = 6
  · rw [e6, stp_6, stp_6, h 0 (by omega), h 2 (by omega), h 4 (by omega), h 6 (by omega)]
  by_cases e7 : c = 7
  · rw [e7, stp_7, stp_7, h 0 (by omega), h 3 (by omega), h 5 (by omega), h 7 (by omega)]
  rw [stp_o ⟨e2, e3, e6, e7⟩, stp_o ⟨e2, e3, e6, e7⟩, e]
set_option maxRecDepth 8000 in
theorem ws_s {s : ZS} {W i : Int} (hi : 0 ≤ i) : stc (ws s W i) (W + 2 + i) = ws s W (i + 1) := by
  funext a c
  unfold stc
  by_cases q : a = W + 2 + i
  · rw [if_pos q, ws_i (by omega), q]
    exact stp_c (fun f _ => ws_o (by omega)) (ws_o (by omega))
  · rw [if_neg q]
    by_cases e : W + 2 ≤ a ∧ a < W + 2 + i
    · rw [ws_i e, ws_i (by omega)]
    · rw [ws_o (by omega), ws_o (by omega)]
set_option maxRecDepth 8000 in
theorem mul_p {a b : Int} (h : 0 < b) : 0 ≤ a % b ∧ a % b ≤ b - 1 := by
  have h1 := Int.emod_nonneg a (show b ≠ 0 by omega)
  have h2 := Int.emod_lt_of_pos a h
  omega
set_option maxRecDepth 8000 in
theorem stv_b {k p z v : Int} (hp : 0 ≤ p ∧ p ≤ 128 - z) (hz : 1 ≤ z ∧ z ≤ 32) : 0 ≤ stv k p z v ∧ stv k p z v ≤ 128 - z := by
  unfold stv
  have := mul_p (a := p + v) (b := 129 - z) (by omega)
  split
  · omega
  · split
    · omega
    · omega
set_option maxRecDepth 8000 in
theorem stw_b {k p z v : Int} (hv : -9 ≤ v ∧ v ≤ 9) : -9 ≤ stw k p z v ∧ stw k p z v ≤ 9 := by
  unfold stw
  split <;> omega
set_option maxRecDepth 8000 in
theorem okb_s {B : ZS} {i : Int} (b : okb B i) : okb (stp B) i := by
  have h2 := stv_b (k := B i 0) (p := B i 2) (z := B i 4) (v := B i 6) (by omega) (by omega)
  have h3 := stv_b (k := B i 0) (p := B i 3) (z := B i 5) (v := B i 7) (by omega) (by omega)
  have h6 := stw_b (k := B i 0) (p := B i 2) (z := B i 4) (v := B i 6) (by omega)
  have h7 := stw_b (k := B i 0) (p := B i 3) (z := B i 5) (v := B i 7) (by omega)
  simp (disch := omega) only [okb, stp_2, stp_3, stp_6, stp_7, stp_o]
  omega
set_option maxRecDepth 8000 in
theorem OKB_s {B : ZS} {N : Int} (hb : OKB B N) : OKB (stp B) N := fun i h => okb_s (hb i h)
set_option maxRecDepth 8000 in
theorem s41 {d : Nat} {Q : Option AV → XH → Prop} {G : XS} {s : ZS} {W : Int} {B : ZS} {N R T : Int}  (hd : 4 ≤ d) (hw : WOK G W) (hv : CV s W B N R T) (hb : OKB B N) (hn : 0 ≤ N ∧ N ≤ 40 ∧ 0 ≤ R ∧ R ≤ 10 ∧ 0 ≤ T ∧ T ≤ 20000)  : Call d 41 [zrf W] (G, s) Q = Q (none) (G, up (ws s W N) W 6 (T + 1)) := by
  have hw' := hw
  obtain ⟨w1, w2, w3, w4, w5, w6, w7, w8, w9, w10, w11, w12, w13, w14, w15, w16, w17, w18, w19, w20, w21, w22, w23, w24, w25⟩ := hw'
  have hv' := hv
  obtain ⟨v1, v2, v3, vB⟩ := hv'
  rw [e41 (show 1 ≤ d by omega)]
  have lp : ∀ i, 0 ≤ i → i ≤ N → Wp (d - 1) 41 (2, [zrf W, zint i], [], (G, ws s W i)) Q = Q none (G, up (ws s W N) W 6 (T + 1)) := by
    refine dn (P := fun i => Wp (d - 1) 41 (2, [zrf W, zint i], [], (G, ws s W i)) Q = Q none (G, up (ws s W N) W 6 (T + 1))) ?_ ?_
    · rw [u41_2]
      simp (disch := first | omega | exact rfl) only [↓u41_0, ↓u41_1, ↓u41_3, ↓u41_4, ↓u41_7, ↓u41_10, ↓u41_11, ↓u41_14, ↓u41_15, ↓u41_16, ↓u41_19, ↓u41_22, ↓u41_25, ↓u41_26, ↓u41_27, ↓u41_30, ↓u41_31, ↓u41_32, ↓u41_35, lI_0, lI_s, lL_0, lL_s, lR_0, lR_s, sT_0, sT_i, sT_r, sT_u, sT_lu, sU_0, sU_i, sU_r, sU_u, zws_i, zws_r, zws_l, zws_n, zCb_kc, xl_ll, xr_rr, xs_e, xset_e, Option.toList, List.cons_append, List.nil_append, zIb_e, zrng_e, nz_e, if_pos, if_neg, and_true, true_and, or_true, true_or, ite_self, bi_eq0, bi_eq1, bi_1, bi_0, bi_ir, bi_T, bi_F, up_eq, up_ne, ↓reduceIte, reduceIte, Nat.reduceAdd, Nat.reduceLeDiff, Nat.le_refl, Nat.zero_le, not_true_eq_false, not_false_eq_true, ne_eq, Int.reduceEq, Int.reduceLT, Int.reduceLE, Int.reduceAdd, Int.reduceSub, Int.reduceMul, Int.reduceNeg, pT w1, w2, pT w3, w4, w5, w6, v1, v2, v3, vB, ws_o]
    · intro i h0 h1 ih
      have k1 := w6 i (by omega)
      have k2 := okb_o (G := G) hv hb ⟨h0, h1⟩
      have k3 : okb (ws s W i) (W + 2 + i) := by
        simp (disch := omega) only [okb, ws_o]
        exact k2
      rw [u41_2]
      simp (disch := first | omega | exact rfl) only [↓u41_0, ↓u41_1, ↓u41_3, ↓u41_4, ↓u41_7, ↓u41_10, ↓u41_11, ↓u41_14, ↓u41_15, ↓u41_16, ↓u41_19, ↓u41_22, ↓u41_25, ↓u41_26, ↓u41_27, ↓u41_30, ↓u41_31, ↓u41_32, ↓u41_35, lI_0, lI_s, lL_0, lL_s, lR_0, lR_s, sT_0, sT_i, sT_r, sT_u, sT_lu, sU_0, sU_i, sU_r, sU_u, zws_i, zws_r, zws_l, zws_n, zCb_kc, xl_ll, xr_rr, xs_e, xset_e, Option.toList, List.cons_append, List.nil_append, zIb_e, zrng_e, nz_e, if_pos, if_neg, and_true, true_and, or_true, true_or, ite_self, bi_eq0, bi_eq1, bi_1, bi_0, bi_ir, bi_T, bi_F, up_eq, up_ne, ↓reduceIte, reduceIte, Nat.reduceAdd, Nat.reduceLeDiff, Nat.le_refl, Nat.zero_le, not_true_eq_false, not_false_eq_true, ne_eq, Int.reduceEq, Int.reduceLT, Int.reduceLE, Int.reduceAdd, Int.reduceSub, Int.reduceMul, Int.reduceNeg, pT w1, w2, pT w3, w4, w5, w6, v1, v2, v3, vB, ih, ws_o, s4 (show 3 ≤ d - 1 by omega) k1 k3, ws_s h0]
  have l0 := lp 0 (Int.le_refl 0) hn.1
  rw [ws_0] at l0
  simp (disch := first | omega | exact rfl) only [↓u41_0, ↓u41_1, ↓u41_3, ↓u41_4, ↓u41_7, ↓u41_10, ↓u41_11, ↓u41_14, ↓u41_15, ↓u41_16, ↓u41_19, ↓u41_22, ↓u41_25, ↓u41_26, ↓u41_27, ↓u41_30, ↓u41_31, ↓u41_32, ↓u41_35, lI_0, lI_s, lL_0, lL_s, lR_0, lR_s, sT_0, sT_i, sT_r, sT_u, sT_lu, sU_0, sU_i, sU_r, sU_u, zws_i, zws_r, zws_l, zws_n, zCb_kc, xl_ll, xr_rr, xs_e, xset_e, Option.toList, List.cons_append, List.nil_append, zIb_e, zrng_e, nz_e, if_pos, if_neg, and_true, true_and, or_true, true_or, ite_self, bi_eq0, bi_eq1, bi_1, bi_0, bi_ir, bi_T, bi_F, up_eq, up_ne, ↓reduceIte, reduceIte, Nat.reduceAdd, Nat.reduceLeDiff, Nat.le_refl, Nat.zero_le, not_true_eq_false, not_false_eq_true, ne_eq, Int.reduceEq, Int.reduceLT, Int.reduceLE, Int.reduceAdd, Int.reduceSub, Int.reduceMul, Int.reduceNeg, pT w1, w2, pT w3, w4, w5, w6, v1, v2, v3, vB, l0]
set_option maxRecDepth 8000 in
theorem CV_s {s : ZS} {W : Int} {B : ZS} {N R T : Int} (hv : CV s W B N R T) : CV (up (ws s W N) W 6 (T + 1)) W (stp B) N R (T + 1) := by
  obtain ⟨v1, v2, v3, vB⟩ := hv
  refine ⟨?_, up_eq, ?_, ?_⟩
  · rw [up_ne (by omega), ws_o (by omega)]; exact v1
  · rw [up_ne (by omega), ws_o (by omega)]; exact v3
  · intro i f h
    rw [up_ne (by omega), ws_i (by omega)]
    exact stp_c (fun f hf => vB i f ⟨h.1, hf⟩) (vB i f h)
/-- the boxes of V into W -/
def tb (s : ZS) (W V i : Int) : ZS := fun a c => if (W + 2 ≤ a ∧ a < W + 2 + i) ∧ 0 ≤ c ∧ c < 9 then s (V + (a - W)) c else s a c
set_option maxRecDepth 8000 in
theorem tb_o {s : ZS} {W V i a c : Int} (h : a < W + 2 ∨ W + 2 + i ≤ a ∨ c < 0 ∨ 9 ≤ c) : tb s W V i a c = s a c := by
  unfold tb
  rw [if_neg (by omega)]
set_option maxRecDepth 8000 in
theorem tb_i {s : ZS} {W V i j c : Int} (h : (0 ≤ j ∧ j < i) ∧ 0 ≤ c ∧ c < 9) : tb s W V i (W + 2 + j) c = s (V + 2 + j) c := by
  unfold tb
  rw [if_pos (by omega), show V + (W + 2 + j - W) = V + 2 + j by omega]
set_option maxRecDepth 8000 in
theorem tb_0 {s : ZS} {W V : Int} : tb s W V 0 = s := by
  funext a c
  exact tb_o (by omega)
set_option maxRecDepth 8000 in
theorem tb_s {s : ZS} {W V i : Int} (hi : 0 ≤ i ∧ i < 40) (hVW : V + 49 ≤ W ∨ W + 49 ≤ V) : cpb (tb s W V i) (W + 2 + i) (V + 2 + i) = tb s W V (i + 1) := by
  funext a c
  unfold cpb
  by_cases q : a = W + 2 + i ∧ 0 ≤ c ∧ c < 9
  · rw [if_pos q, q.1, tb_i (by omega), tb_o (by omega)]
  · rw [if_neg q]
    by_cases e : (W + 2 ≤ a ∧ a < W + 2 + i) ∧ 0 ≤ c ∧ c < 9
    · rw [show a = W + 2 + (a - W - 2) by omega, tb_i (by omega), tb_i (by omega)]
    · rw [tb_o (by omega), tb_o (by omega)]
def tb3 (s : ZS) (W N R T : Int) : ZS := up (up (up s W 5 N) W 6 T) W 7 R
set_option maxRecDepth 8000 in
theorem s35 {d : Nat} {Q : Option AV → XH → Prop} {G : XS} {s : ZS} {W V : Int} {B : ZS} {N R T : Int} (hd : 3 ≤ d) (hw : WOK G W) (hx : WOK G V) (hv : CV s V B N R T) (hb : OKB B N) (hn : 0 ≤ N ∧ N ≤ 40) (hVW : V + 49 ≤ W ∨ W + 49 ≤ V) : Call d 35 [zrf W, zrf V] (G, s) Q = Q none (G, tb (tb3 s W N R T) W V N) := by
  have hw' := hw
  obtain ⟨w1, w2, w3, w4, w5, w6, w7, w8, w9, w10, w11, w12, w13, w14, w15, w16, w17, w18, w19, w20, w21, w22, w23, w24, w25⟩ := hw'
  have hv' := hv
  obtain ⟨v1, v2, v3, vB⟩ := hv'
  have hx' := hx
  obtain ⟨x1, x2, x3, x4, x5, x6, x7, x8, x9, x10, x11, x12, x13, x14, x15, x16, x17, x18, x19, x20, x21, x22, x23, x24, x25⟩ := hx'
  rw [e35 (show 1 ≤ d by omega)]
  have t5 : tb3 s W N R T W 5 = N := by unfold tb3; simp (disch := omega) only [up_ne, up_eq]
  have to : ∀ a c, a ≠ W → tb3 s W N R T a c = s a c := by intro a c h; unfold tb3; simp (disch := omega) only [up_ne]
  have lp : ∀ i, 0 ≤ i → i ≤ N → Wp (d - 1) 35 (26, [zrf W, zrf V, zint i], [], (G, tb (tb3 s W N R T) W V i)) Q = Q none (G, tb (tb3 s W N R T) W V N) := by
    refine dn (P := fun i => Wp (d - 1) 35 (26, [zrf W, zrf V, zint i], [], (G, tb (tb3 s W N R T) W V i)) Q = Q none (G, tb (tb3 s W N R T) W V N)) ?_ ?_
    · rw [u35_26]
      simp (disch := first | omega | exact rfl) only [↓u35_0, ↓u35_1, ↓u35_2, ↓u35_5, ↓u35_8, ↓u35_9, ↓u35_10, ↓u35_13, ↓u35_16, ↓u35_17, ↓u35_18, ↓u35_21, ↓u35_24, ↓u35_25, ↓u35_27, ↓u35_28, ↓u35_31, ↓u35_34, ↓u35_35, ↓u35_38, ↓u35_39, ↓u35_40, ↓u35_41, ↓u35_44, ↓u35_45, ↓u35_46, ↓u35_49, ↓u35_52, ↓u35_55, lI_0, lI_s, lL_0, lL_s, lR_0, lR_s, sT_0, sT_i, sT_r, sT_u, sT_lu, sU_0, sU_i, sU_r, sU_u, zws_i, zws_r, zws_l, zws_n, zCb_kc, xl_ll, xr_rr, xs_e, xset_e, Option.toList, List.cons_append, List.nil_append, zIb_e, zrng_e, nz_e, if_pos, if_neg, and_true, true_and, or_true, true_or, ite_self, bi_eq0, bi_eq1, bi_1, bi_0, bi_ir, bi_T, bi_F, up_eq, up_ne, ↓reduceIte, reduceIte, Nat.reduceAdd, Nat.reduceLeDiff, Nat.le_refl, Nat.zero_le, not_true_eq_false, not_false_eq_true, ne_eq, Int.reduceEq, Int.reduceLT, Int.reduceLE, Int.reduceAdd, Int.reduceSub, Int.reduceMul, Int.reduceNeg, pT w1, w2, pT w3, w4, w5, w6, pT x1, x2, pT x3, x4, x5, x6, v1, v2, v3, vB, tb_o, t5]
    · intro i h0 h1 ih
      have k1 := w6 i (by omega)
      have k2 := x6 i (by omega)
      have b := hb i ⟨h0, h1⟩
      have k3 : 0 ≤ tb (tb3 s W N R T) W V i (V + 2 + i) 8 ∧ tb (tb3 s W N R T) W V i (V + 2 + i) 8 ≤ 1 := by
        rw [tb_o (by omega), to _ _ (by omega), vB i 8 (by omega)]
        omega
      rw [u35_26]
      simp (disch := first | omega | exact rfl) only [↓u35_0, ↓u35_1, ↓u35_2, ↓u35_5, ↓u35_8, ↓u35_9, ↓u35_10, ↓u35_13, ↓u35_16, ↓u35_17, ↓u35_18, ↓u35_21, ↓u35_24, ↓u35_25, ↓u35_27, ↓u35_28, ↓u35_31, ↓u35_34, ↓u35_35, ↓u35_38, ↓u35_39, ↓u35_40, ↓u35_41, ↓u35_44, ↓u35_45, ↓u35_46, ↓u35_49, ↓u35_52, ↓u35_55, lI_0, lI_s, lL_0, lL_s, lR_0, lR_s, sT_0, sT_i, sT_r, sT_u, sT_lu, sU_0, sU_i, sU_r, sU_u, zws_i, zws_r, zws_l, zws_n, zCb_kc, xl_ll, xr_rr, xs_e, xset_e, Option.toList, List.cons_append, List.nil_append, zIb_e, zrng_e, nz_e, if_pos, if_neg, and_true, true_and, or_true, true_or, ite_self, bi_eq0, bi_eq1, bi_1, bi_0, bi_ir, bi_T, bi_F, up_eq, up_ne, ↓reduceIte, reduceIte, Nat.reduceAdd, Nat.reduceLeDiff, Nat.le_refl, Nat.zero_le, not_true_eq_false, not_false_eq_true, ne_eq, Int.reduceEq, Int.reduceLT, Int.reduceLE, Int.reduceAdd, Int.reduceSub, Int.reduceMul, Int.reduceNeg, pT w1, w2, pT w3, w4, w5, w6, pT x1, x2, pT x3, x4, x5, x6, v1, v2, v3, vB, ih, tb_o, t5, s2 (show 2 ≤ d - 1 by omega) k1 k2 (show V + 2 + i ≠ W + 2 + i by omega) k3, tb_s (show 0 ≤ i ∧ i < 40 by omega) hVW]
  have l0 := lp 0 (Int.le_refl 0) hn.1
  rw [tb_0] at l0
  have e0 : up (up (up s W 5 N) W 6 T) W 7 R = tb3 s W N R T := rfl
  simp (disch := first | omega | exact rfl) only [↓u35_0, ↓u35_1, ↓u35_2, ↓u35_5, ↓u35_8, ↓u35_9, ↓u35_10, ↓u35_13, ↓u35_16, ↓u35_17, ↓u35_18, ↓u35_21, ↓u35_24, ↓u35_25, ↓u35_27, ↓u35_28, ↓u35_31, ↓u35_34, ↓u35_35, ↓u35_38, ↓u35_39, ↓u35_40, ↓u35_41, ↓u35_44, ↓u35_45, ↓u35_46, ↓u35_49, ↓u35_52, ↓u35_55, lI_0, lI_s, lL_0, lL_s, lR_0, lR_s, sT_0, sT_i, sT_r, sT_u, sT_lu, sU_0, sU_i, sU_r, sU_u, zws_i, zws_r, zws_l, zws_n, zCb_kc, xl_ll, xr_rr, xs_e, xset_e, Option.toList, List.cons_append, List.nil_append, zIb_e, zrng_e, nz_e, if_pos, if_neg, and_true, true_and, or_true, true_or, ite_self, bi_eq0, bi_eq1, bi_1, bi_0, bi_ir, bi_T, bi_F, up_eq, up_ne, ↓reduceIte, reduceIte, Nat.reduceAdd, Nat.reduceLeDiff, Nat.le_refl, Nat.zero_le, not_true_eq_false, not_false_eq_true, ne_eq, Int.reduceEq, Int.reduceLT, Int.reduceLE, Int.reduceAdd, Int.reduceSub, Int.reduceMul, Int.reduceNeg, pT w1, w2, pT w3, w4, w5, w6, pT x1, x2, pT x3, x4, x5, x6, v1, v2, v3, vB, e0, l0]
set_option maxRecDepth 8000 in
theorem CV_t {s : ZS} {W V : Int} {B : ZS} {N R T : Int} (hv : CV s V B N R T) (hn : 0 ≤ N ∧ N ≤ 40) (hVW : V + 49 ≤ W ∨ W + 49 ≤ V) : CV (tb (tb3 s W N R T) W V N) W B N R T := by
  obtain ⟨v1, v2, v3, vB⟩ := hv
  have to : ∀ a c, a ≠ W → tb3 s W N R T a c = s a c := by intro a c h; unfold tb3; simp (disch := omega) only [up_ne]
  refine ⟨?_, ?_, ?_, ?_⟩
  · rw [tb_o (by omega)]; unfold tb3; simp (disch := omega) only [up_ne, up_eq]
  · rw [tb_o (by omega)]; unfold tb3; simp (disch := omega) only [up_ne, up_eq]
  · rw [tb_o (by omega)]; unfold tb3; simp (disch := omega) only [up_eq]
  · intro i f h
    rw [tb_i h, to _ _ (by omega)]
    exact vB i f h
