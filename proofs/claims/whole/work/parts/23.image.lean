/-! what an image takes over; nearest -/
def tka (s : ZS) (W V N R T : Int) : ZS := rtk (rtk (rtk (tb (tb3 s W N R T) W V N) (W + 43) (V + 43)) (W + 45) (V + 45)) (W + 47) (V + 47)
set_option maxRecDepth 8000 in
theorem rtk_o {s : ZS} {o p a c : Int} (h : a ≠ o ∧ a ≠ o + 1) : rtk s o p a c = s a c := by
  unfold rtk
  rw [cpr_o (Or.inl h.2), up_ne (Or.inl h.1)]
set_option maxRecDepth 8000 in
theorem rtk_f {s : ZS} {o p c : Int} (h : c ≠ 2) : rtk s o p o c = s o c := by
  unfold rtk
  rw [cpr_o (by omega), up_ne (by omega)]
set_option maxRecDepth 8000 in
theorem rtk_2 {s : ZS} {o p : Int} : rtk s o p o 2 = s p 2 := by
  unfold rtk
  rw [cpr_o (by omega), up_eq]
set_option maxRecDepth 8000 in
theorem rtk_v {s : ZS} {o p c : Int} (hp : p + 1 ≠ o) (h : 0 ≤ c ∧ c < s p 2 * 3) : rtk s o p (o + 1) c = s (p + 1) c := by
  unfold rtk
  rw [cpr_i h, up_ne (by omega)]
set_option maxRecDepth 8000 in
theorem tb3_o {s : ZS} {W N R T a c : Int} (h : a ≠ W) : tb3 s W N R T a c = s a c := by unfold tb3; simp (disch := omega) only [up_ne]
set_option maxRecDepth 8000 in
theorem s36 {d : Nat} {G : XS} {s : ZS} {W V : Int} {B : ZS} {N R T : Int} (hd : 4 ≤ d) (hw : WOK G W) (hx : WOK G V) (hv : CV s V B N R T) (hb : OKB B N) (hn : 0 ≤ N ∧ N ≤ 40) (hVW : V + 49 ≤ W ∨ W + 49 ≤ V) (hs : s (W + 43) 1 = 5 ∧ s (W + 45) 1 = 10 ∧ s (W + 47) 1 = 8) (hz : (0 ≤ s (V + 43) 2 ∧ s (V + 43) 2 ≤ 5) ∧ (0 ≤ s (V + 45) 2 ∧ s (V + 45) 2 ≤ 10) ∧ 0 ≤ s (V + 47) 2 ∧ s (V + 47) 2 ≤ 8) (Q : Option AV → XH → Prop) : Call d 36 [zrf W, zrf V] (G, s) Q = Q none (G, tka s W V N R T) := by
  have hw' := hw
  obtain ⟨w1, w2, w3, w4, w5, w6, w7, w8, w9, w10, w11, w12, w13, w14, w15, w16, w17, w18, w19, w20, w21, w22, w23, w24, w25⟩ := hw'
  have hx' := hx
  obtain ⟨x1, x2, x3, x4, x5, x6, x7, x8, x9, x10, x11, x12, x13, x14, x15, x16, x17, x18, x19, x20, x21, x22, x23, x24, x25⟩ := hx'
  rw [e36 (show 1 ≤ d by omega)]
  unfold tka
  have a1 : ROK G (W + 43) 15 := ⟨w13, by rw [w16]; omega, by rw [show W + 43 + 1 = W + 44 by omega]; exact w19, by rw [show W + 43 + 1 = W + 44 by omega]; exact w22, by omega, by omega⟩
  have a2 : ROK G (W + 45) 30 := ⟨w14, by rw [w17]; omega, by rw [show W + 45 + 1 = W + 46 by omega]; exact w20, by rw [show W + 45 + 1 = W + 46 by omega]; exact w23, by omega, by omega⟩
  have a3 : ROK G (W + 47) 24 := ⟨w15, by rw [w18]; omega, by rw [show W + 47 + 1 = W + 48 by omega]; exact w21, by rw [show W + 47 + 1 = W + 48 by omega]; exact w24, by omega, by omega⟩
  have b1 : ROK G (V + 43) 15 := ⟨x13, by rw [x16]; omega, by rw [show V + 43 + 1 = V + 44 by omega]; exact x19, by rw [show V + 43 + 1 = V + 44 by omega]; exact x22, by omega, by omega⟩
  have b2 : ROK G (V + 45) 30 := ⟨x14, by rw [x17]; omega, by rw [show V + 45 + 1 = V + 46 by omega]; exact x20, by rw [show V + 45 + 1 = V + 46 by omega]; exact x23, by omega, by omega⟩
  have b3 : ROK G (V + 47) 24 := ⟨x15, by rw [x18]; omega, by rw [show V + 47 + 1 = V + 48 by omega]; exact x21, by rw [show V + 47 + 1 = V + 48 by omega]; exact x24, by omega, by omega⟩
  have f0 : ∀ a c, (W + 42 ≤ a ∧ a < W + 49) ∨ (V + 42 ≤ a ∧ a < V + 49) → tb (tb3 s W N R T) W V N a c = s a c := by
    intro a c h
    rw [tb_o (by omega), tb3_o (by omega)]
  have c1 : ∀ Q, Call (d - 1) 30 [zrf (W + 43), zrf (V + 43)] (G, tb (tb3 s W N R T) W V N) Q = Q none (G, rtk (tb (tb3 s W N R T) W V N) (W + 43) (V + 43)) := fun Q => s30 (s := tb (tb3 s W N R T) W V N) (show 2 ≤ d - 1 by omega) a1 b1 (by omega) (by rw [f0 _ _ (by omega), f0 _ _ (by omega)]; omega) (by rw [f0 _ _ (by omega)]; omega)
  have c2 : ∀ Q, Call (d - 1) 30 [zrf (W + 45), zrf (V + 45)] (G, rtk (tb (tb3 s W N R T) W V N) (W + 43) (V + 43)) Q = Q none (G, rtk (rtk (tb (tb3 s W N R T) W V N) (W + 43) (V + 43)) (W + 45) (V + 45)) := fun Q => s30 (show 2 ≤ d - 1 by omega) a2 b2 (by omega) (by rw [rtk_o (by omega), rtk_o (by omega), f0 _ _ (by omega), f0 _ _ (by omega)]; omega) (by rw [rtk_o (by omega), f0 _ _ (by omega)]; omega)
  have c3 : ∀ Q, Call (d - 1) 30 [zrf (W + 47), zrf (V + 47)] (G, rtk (rtk (tb (tb3 s W N R T) W V N) (W + 43) (V + 43)) (W + 45) (V + 45)) Q = Q none (G, rtk (rtk (rtk (tb (tb3 s W N R T) W V N) (W + 43) (V + 43)) (W + 45) (V + 45)) (W + 47) (V + 47)) := fun Q => s30 (show 2 ≤ d - 1 by omega) a3 b3 (by omega) (by rw [rtk_o (by omega), rtk_o (by omega), rtk_o (by omega), rtk_o (by omega), f0 _ _ (by omega), f0 _ _ (by omega)]; omega) (by rw [rtk_o (by omega), rtk_o (by omega), f0 _ _ (by omega)]; omega)
  have c0 := fun Q => s35 (d := d - 1) (Q := Q) (show 3 ≤ d - 1 by omega) hw hx hv hb hn hVW
  simp (disch := first | omega | exact rfl) only [↓u36_0, ↓u36_1, ↓u36_2, ↓u36_5, ↓u36_6, ↓u36_9, ↓u36_10, ↓u36_13, ↓u36_16, ↓u36_17, ↓u36_20, ↓u36_21, ↓u36_24, ↓u36_27, ↓u36_28, ↓u36_31, ↓u36_32, ↓u36_35, ↓u36_38, lI_0, lI_s, lL_0, lL_s, lR_0, lR_s, sT_0, sT_i, sT_r, sT_u, sT_lu, sU_0, sU_i, sU_r, sU_u, zws_i, zws_r, zws_l, zws_n, zCb_kc, xl_ll, xr_rr, xs_e, xset_e, Option.toList, List.cons_append, List.nil_append, zIb_e, zrng_e, nz_e, if_pos, if_neg, and_true, true_and, or_true, true_or, ite_self, bi_eq0, bi_eq1, bi_1, bi_0, bi_ir, bi_T, bi_F, up_eq, up_ne, ↓reduceIte, reduceIte, Nat.reduceAdd, Nat.reduceLeDiff, Nat.le_refl, Nat.zero_le, not_true_eq_false, not_false_eq_true, ne_eq, Int.reduceEq, Int.reduceLT, Int.reduceLE, Int.reduceAdd, Int.reduceSub, Int.reduceMul, Int.reduceNeg, pT w1, pT w13, pT w14, pT w15, pT x1, w10, w11, w12, x10, x11, x12, c0, c1, c2, c3]
