/-! the constructors of the reader and of the class -/
set_option maxRecDepth 8000 in
theorem SM_i {G : XS} {s : ZS} {a : Int} : SM G s G s a := ⟨rfl, rfl, fun _ => rfl, fun _ => rfl⟩
set_option maxRecDepth 8000 in
theorem WOK_k {G G2 : XS} {s s2 : ZS} {W : Int} (h : WOK G W) (hs : ∀ a, W ≤ a ∧ a ≤ W + 48 → SM G s G2 s2 a) (hn : G.1.1 ≤ G2.1.1) : WOK G2 W := by
  obtain ⟨w1, w2, w3, w4, w5, w6, w7, w8, w9, w10, w11, w12, w13, w14, w15, w16, w17, w18, w19, w20, w21, w22, w23, w24, w25⟩ := h
  have b : ∀ k : Int, 0 ≤ k ∧ k ≤ 48 → SM G s G2 s2 (W + k) := fun k hk => hs (W + k) (by clear w2 w4 w7 w9 w10 w11 w12 w16 w17 w18 w22 w23 w24; omega)
  have b0 : SM G s G2 s2 W := hs W (by clear w2 w4 w7 w9 w10 w11 w12 w16 w17 w18 w22 w23 w24; omega)
  have b1 := b 1 (by decide)
  have b42 := b 42 (by decide)
  have b43 := b 43 (by decide)
  have b44 := b 44 (by decide)
  have b45 := b 45 (by decide)
  have b46 := b 46 (by decide)
  have b47 := b 47 (by decide)
  have b48 := b 48 (by decide)
  have bi : ∀ i, 0 ≤ i ∧ i < 40 → SM G s G2 s2 (W + 2 + i) := fun i hi => hs (W + 2 + i) (by clear w2 w4 w7 w9 w10 w11 w12 w16 w17 w18 w22 w23 w24; omega)
  exact ⟨SM_k b0 w1 hn, (b0.2.2.1 0).trans w2, SM_k b1 w3 hn, b1.2.1.trans w4, fun i hi => (b1.2.2.1 i).trans (w5 i hi), fun i hi => SM_k (bi i hi) (w6 i hi) hn, (b0.2.2.1 1).trans w7, SM_k b42 w8 hn, b42.2.1.trans w9, (b0.2.2.1 2).trans w10, (b0.2.2.1 3).trans w11, (b0.2.2.1 4).trans w12, SM_k b43 w13 hn, SM_k b45 w14 hn, SM_k b47 w15 hn, (b43.2.2.1 0).trans w16, (b45.2.2.1 0).trans w17, (b47.2.2.1 0).trans w18, SM_k b44 w19 hn, SM_k b46 w20 hn, SM_k b48 w21 hn, b44.2.1.trans w22, b46.2.1.trans w23, b48.2.1.trans w24, w25⟩
set_option maxRecDepth 8000 in
theorem NEW_k {G G2 : XS} {s s2 : ZS} {W : Int} (h : NEW s W) (hs : ∀ a, W ≤ a ∧ a ≤ W + 48 → SM G s G2 s2 a) : NEW s2 W := by
  obtain ⟨⟨a1, a2, a3⟩, ⟨b1, b2, b3⟩, c1, c2, c3⟩ := h
  have e0 := (hs W (by clear a1 a2 a3 b1 b2 b3 c1 c2 c3; omega)).2.2.2
  have e3 := (hs (W + 43) (by clear a1 a2 a3 b1 b2 b3 c1 c2 c3; omega)).2.2.2
  have e5 := (hs (W + 45) (by clear a1 a2 a3 b1 b2 b3 c1 c2 c3; omega)).2.2.2
  have e7 := (hs (W + 47) (by clear a1 a2 a3 b1 b2 b3 c1 c2 c3; omega)).2.2.2
  exact ⟨⟨(e0 5).trans a1, (e0 6).trans a2, (e0 7).trans a3⟩, ⟨(e3 1).trans b1, (e5 1).trans b2, (e7 1).trans b3⟩, (e3 2).trans c1, (e5 2).trans c2, (e7 2).trans c3⟩
set_option maxRecDepth 8000 in
theorem RDR_k {G G2 : XS} {s s2 : ZS} (h : RDR G) (hs : ∀ a, 148 ≤ a ∧ a ≤ 158 → SM G s G2 s2 a) (hn : G.1.1 ≤ G2.1.1) : RDR G2 := by
  obtain ⟨r1, r2, r3, r4, r5, r6, r7, r8, r9, r10⟩ := h
  have b8 := hs 148 (by decide)
  have b9 := hs 149 (by decide)
  have b0 := hs 150 (by decide)
  have bi : ∀ i, 0 ≤ i ∧ i < 8 → SM G s G2 s2 (151 + i) := fun i hi => hs (151 + i) (by clear r2 r4 r5 r7; omega)
  exact ⟨SM_k b8 r1 hn, (b8.2.2.1 0).trans r2, SM_k b9 r3 hn, b9.2.1.trans r4, (b8.2.2.1 1).trans r5, SM_k b0 r6 hn, b0.2.1.trans r7, fun i hi => (b0.2.2.1 i).trans (r8 i hi), fun i hi => SM_k (bi i hi) (r9 i hi) hn, fun i hi => (bi i hi).2.1.trans (r10 i hi)⟩
def NT (s : ZS) (t : Int) : Prop := s t 1 = -1 ∧ s t 2 = 0 ∧ ∀ j, s (t + 1) j = 0
set_option maxRecDepth 8000 in
theorem TOK_k {G G2 : XS} {s s2 : ZS} {t : Int} (h : TOK G t) (h1 : SM G s G2 s2 t) (h2 : SM G s G2 s2 (t + 1)) (hn : G.1.1 ≤ G2.1.1) : TOK G2 t :=
  ⟨SM_k h1 h.1 hn, (h1.2.2.1 0).trans h.2.1, SM_k h2 h.2.2.1 hn, h2.2.1.trans h.2.2.2⟩
set_option maxRecDepth 8000 in
theorem NT_k {G G2 : XS} {s s2 : ZS} {t : Int} (h : NT s t) (h1 : SM G s G2 s2 t) (h2 : SM G s G2 s2 (t + 1)) : NT s2 t :=
  ⟨(h1.2.2.2 1).trans h.1, (h1.2.2.2 2).trans h.2.1, fun j => (h2.2.2.2 j).trans (h.2.2 j)⟩
set_option maxRecDepth 8000 in
theorem c15_r {d : Nat} {G : XS} {s : ZS} (hd : 2 ≤ d) (hk : kc G 148 1) (hn : (G.1.1 : Int) = 149) : ∃ G2 s2, ((G2.1.1 : Int) = 159 ∧ G2.1.2 ≤ G.1.2 + 200) ∧ (∀ a, (a < 148 ∨ 159 ≤ a) → SM G s G2 s2 a) ∧ RDR G2 ∧ s2 148 2 = 0 ∧ ∀ Q, Call d 15 [zrf 148] (G, s) Q = Q none (G2, s2) := by
  obtain ⟨G1, hG1⟩ : ∃ G1, G1 = rG (nG G 9 100 (100 : Int).toNat) 148 0 149 := ⟨_, rfl⟩
  have a1 : (G1.1.1 : Int) = 150 := by rw [hG1, rG_n, nG_n]; omega
  have a2 : G1.1.2 = G.1.2 + 100 := by rw [hG1, rG_z, nG_z]; rfl
  have a3 : kc G1 148 1 := by rw [hG1, kc_rG, kc_nG (by omega)]; exact hk
  have a4 : rr G1 148 0 = 149 := by rw [hG1]; exact rr_rGy ⟨rfl, rfl⟩
  have a5 : kc G1 149 9 := by rw [hG1, kc_rG]; exact kc_nGy (by omega)
  have a6 : ll G1 149 = 100 := by rw [hG1, ll_rG]; exact ll_nGy (by omega)
  have sm1 : ∀ a, a ≠ 148 → a ≠ 149 → SM G s G1 (nS s 149) a := fun a ha hb => by
    have e2 := SM_n (G := G) (s := s) (kd := 9) (sl := (100 : Int).toNat) (sz := 100) (a := a) (by omega)
    rw [hn] at e2
    rw [hG1]
    exact SM_t e2 (SM_r ha)
  refine ⟨rG (mG G1 7 8 8) 148 1 150, up (up (up (up (mS (nS s 149) 150 8) 148 2 0) 148 3 0) 148 4 0) 148 5 (-1), ⟨?_, ?_⟩, fun a ha => ?_, ⟨?_, ?_, ?_, ?_, ?_, ?_, ?_, fun i hi => ?_, fun i hi => ?_, fun i hi => ?_⟩, ?_, fun Q => ?_⟩
  · rw [rG_n, mG_n, show (8 : Int).toNat = 8 from rfl]; omega
  · rw [rG_z, mG_z, show (8 : Int).toNat = 8 from rfl]; omega
  · have e2 := SM_m (G := G1) (s := nS s 149) (kd := 7) (j := 8) (k := 8) (a := a) (by omega) (by decide)
    rw [a1] at e2
    have n8 : a ≠ 148 := by omega
    exact SM_t (SM_t (SM_t (SM_t (SM_t (SM_t (sm1 a n8 (by omega)) e2) (SM_r n8)) (SM_u n8)) (SM_u n8)) (SM_u n8)) (SM_u n8)
  · rw [kc_rG, kc_mG (by omega) (by decide)]; exact a3
  · rw [rr_rG (by omega), rr_mG (by omega) (by decide)]; exact a4
  · rw [kc_rG, kc_mG (by omega) (by decide)]; exact a5
  · rw [ll_rG, ll_mG (by omega) (by decide)]; exact a6
  · exact rr_rGy ⟨rfl, rfl⟩
  · rw [kc_rG]; exact kc_mGy (by omega)
  · rw [ll_rG]; exact ll_mGy (by omega)
  · rw [rr_rG (by omega), rr_mGy (by omega) hi]; omega
  · rw [kc_rG]; exact kc_mGi (by omega)
  · rw [ll_rG]; exact ll_mGi (by omega)
  · rw [up_ne (by omega), up_ne (by omega), up_ne (by omega), up_eq]
  · have h0 : (0 ≤ (148 : Int)) = True := pT (by decide)
    have k1 := pT hk
    have k3 := pT a3
    rw [e15 (show 1 ≤ d by omega)]
    simp (disch := first | omega | exact rfl | (simp only [nG_n, rG_n, mG_n]; omega)) only [↓u15_0, ↓u15_1, ↓u15_4, ↓u15_5, ↓u15_9, ↓u15_13, ↓u15_15, ↓u15_21, ↓u15_24, ↓u15_25, ↓u15_26, ↓u15_29, ↓u15_30, ↓u15_31, ↓u15_34, ↓u15_35, ↓u15_36, ↓u15_39, ↓u15_40, ↓u15_41, ↓u15_44, ↓v15_7, ↓v15_17, ↓lI_0, ↓lI_s, ↓lL_0, ↓lL_s, ↓lR_0, ↓lR_s, ↓sT_0, ↓sT_i, ↓sT_r, ↓sT_u, ↓sT_lu, ↓sU_0, ↓sU_i, ↓sU_r, ↓sU_u, ↓ite_bx, bx_T, bx_F, bx_pos, bx_neg, zws_i, zws_r, zws_l, zws_n, zCb_kc, xl_ll, xr_rr, xs_e, xset_e, Option.toList, List.cons_append, List.nil_append, zIb_e, zrng_e, nz_e, if_pos, if_neg, and_true, true_and, or_true, true_or, ite_self, bi_eq0, bi_eq1, bi_1, bi_0, bi_ir, bi_T, bi_F, up_eq, up_ne, ↓reduceIte, reduceIte, Nat.reduceAdd, Nat.reduceLeDiff, Nat.le_refl, Nat.zero_le, not_true_eq_false, not_false_eq_true, ne_eq, Int.reduceEq, Int.reduceLT, Int.reduceLE, Int.reduceAdd, Int.reduceSub, Int.reduceMul, Int.reduceNeg, xnew_e, xref_e, xmul_e, xn_e, nG_n, rG_n, mG_n, kc_rG, kc_nG, kc_nGT, kc_mG, kc_mGT, ll_rG, ll_nG, ll_nGy, rr_rGy, rr_rG, rr_nG, lt_x, nS_n, nS_y, hn, k1, h0, Nat.lt_irrefl]
    rw [← hG1]
    simp (disch := first | omega | exact rfl | (simp only [nG_n, rG_n, mG_n]; omega)) only [↓u15_0, ↓u15_1, ↓u15_4, ↓u15_5, ↓u15_9, ↓u15_12, ↓u15_13, ↓u15_15, ↓u15_21, ↓u15_24, ↓u15_25, ↓u15_26, ↓u15_29, ↓u15_30, ↓u15_31, ↓u15_34, ↓u15_35, ↓u15_36, ↓u15_39, ↓u15_40, ↓u15_41, ↓u15_44, ↓v15_7, ↓v15_17, ↓lI_0, ↓lI_s, ↓lL_0, ↓lL_s, ↓lR_0, ↓lR_s, ↓sT_0, ↓sT_i, ↓sT_r, ↓sT_u, ↓sT_lu, ↓sU_0, ↓sU_i, ↓sU_r, ↓sU_u, ↓ite_bx, bx_T, bx_F, bx_pos, bx_neg, zws_i, zws_r, zws_l, zws_n, zCb_kc, xl_ll, xr_rr, xs_e, xset_e, Option.toList, List.cons_append, List.nil_append, zIb_e, zrng_e, nz_e, if_pos, if_neg, and_true, true_and, or_true, true_or, ite_self, bi_eq0, bi_eq1, bi_1, bi_0, bi_ir, bi_T, bi_F, up_eq, up_ne, ↓reduceIte, reduceIte, Nat.reduceAdd, Nat.reduceLeDiff, Nat.le_refl, Nat.zero_le, not_true_eq_false, not_false_eq_true, ne_eq, Int.reduceEq, Int.reduceLT, Int.reduceLE, Int.reduceAdd, Int.reduceSub, Int.reduceMul, Int.reduceNeg, xnew_e, xref_e, xmul_e, xn_e, nG_n, rG_n, mG_n, kc_rG, kc_nG, kc_nGT, kc_mG, kc_mGT, ll_rG, ll_nG, ll_nGy, rr_rGy, rr_rG, rr_nG, lt_x, nS_n, nS_y, a1, k3, h0]
set_option maxRecDepth 8000 in
theorem b61_4 {d : Nat} {G : XS} {s : ZS} {n : Int} (hd : 5 ≤ d) (hn : (G.1.1 : Int) = n) (hk : kc G 0 5) (h1 : 1 ≤ n ∧ n ≤ 500) : ∃ G2 s2, ((G2.1.1 : Int) = n + 49 ∧ G2.1.2 ≤ G.1.2 + 910) ∧ (∀ a, a ≠ 0 → (a < n ∨ n + 49 ≤ a) → SM G s G2 s2 a) ∧ (WOK G2 n ∧ NEW s2 n) ∧ (kc G2 0 5 ∧ rr G2 0 0 = n ∧ (∀ j, j ≠ 0 → rr G2 0 j = rr G 0 j) ∧ ∀ j, s2 0 j = s 0 j) ∧ ∀ Q, Wp (d - 1) 61 (4, [zrf 0, zun], [], (G, s)) Q = Wp (d - 1) 61 (15, [zrf 0, zun], [], (G2, s2)) Q := by
  have hn1 : ((nG G 4 0 8).1.1 : Int) = n + 1 := by rw [nG_n]; omega
  have k0 : kc (nG G 4 0 8) 0 5 := by rw [kc_nG (by omega)]; exact hk
  have s0 : ∀ a, a ≠ n → SM G s (nG G 4 0 8) (nS s n) a := fun a ha => by
    have e2 := SM_n (G := G) (s := s) (kd := 4) (sl := 8) (sz := 0) (a := a) (by omega)
    rw [hn] at e2
    exact e2
  obtain ⟨G3, s3, ⟨f1, f2⟩, f3, f4, f5, e⟩ := c34_w (d := d - 1) (G := nG G 4 0 8) (s := nS s n) (W := n) (by omega) (kc_nGy (by omega)) hn1 ⟨by omega, by omega⟩
  rw [nG_z] at f2
  have sW := SM_t (s0 0 (by omega)) (f3 0 (by omega))
  have kW : kc G3 0 5 := SM_k (f3 0 (by omega)) k0 (by omega)
  refine ⟨rG G3 0 0 n, s3, ⟨by rw [rG_n]; omega, by rw [rG_z]; omega⟩, fun a ha hb => SM_t (SM_t (s0 a (by omega)) (f3 a hb)) (SM_r ha), ⟨WOK_k (s := s3) (s2 := s3) f4 (fun a ha => SM_r (by omega)) (Nat.le_refl _), f5⟩, ⟨kW, rr_rGy ⟨rfl, rfl⟩, fun j hj => ?_, fun j => sW.2.2.2 j⟩, fun Q => ?_⟩
  · rw [rr_rG (Or.inr hj)]; exact sW.2.2.1 j
  · have h0 : (0 ≤ n) = True := pT (by omega)
    have kk := pT kW
    clear f4 f5 f3 kW sW s0 hn1 f1 f2
    simp (disch := first | omega | exact rfl | (simp only [nG_n, rG_n, mG_n]; omega)) only [↓u61_0, ↓u61_1, ↓u61_4, ↓u61_5, ↓u61_8, ↓u61_9, ↓u61_12, ↓u61_16, ↓u61_19, ↓u61_20, ↓u61_23, ↓u61_26, ↓u61_27, ↓u61_30, ↓u61_31, ↓u61_34, ↓u61_37, ↓u61_38, ↓u61_39, ↓u61_42, ↓u61_43, ↓u61_46, ↓u61_47, ↓u61_50, ↓u61_53, ↓u61_54, ↓u61_59, ↓u61_62, ↓u61_63, ↓u61_65, ↓u61_67, ↓u61_70, ↓u61_71, ↓u61_74, ↓u61_75, ↓u61_78, ↓u61_79, ↓u61_83, ↓u61_86, ↓u61_89, ↓v61_56, ↓v61_82, ↓lI_0, ↓lI_s, ↓lL_0, ↓lL_s, ↓lR_0, ↓lR_s, ↓sT_0, ↓sT_i, ↓sT_r, ↓sT_u, ↓sT_lu, ↓sU_0, ↓sU_i, ↓sU_r, ↓sU_u, ↓ite_bx, bx_T, bx_F, bx_pos, bx_neg, zws_i, zws_r, zws_l, zws_n, zCb_kc, xl_ll, xr_rr, xs_e, xset_e, Option.toList, List.cons_append, List.nil_append, zIb_e, zrng_e, nz_e, if_pos, if_neg, and_true, true_and, or_true, true_or, ite_self, bi_eq0, bi_eq1, bi_1, bi_0, bi_ir, bi_T, bi_F, up_eq, up_ne, ↓reduceIte, reduceIte, Nat.reduceAdd, Nat.reduceLeDiff, Nat.le_refl, Nat.zero_le, not_true_eq_false, not_false_eq_true, ne_eq, Int.reduceEq, Int.reduceLT, Int.reduceLE, Int.reduceAdd, Int.reduceSub, Int.reduceMul, Int.reduceNeg, xnew_e, xref_e, xmul_e, xn_e, nG_n, rG_n, mG_n, kc_rG, kc_nG, kc_nGT, kc_mG, kc_mGT, ll_rG, ll_nG, ll_nGy, rr_rGy, rr_rG, rr_nG, lt_x, nS_n, nS_y, hn, kk, h0, e]
set_option maxRecDepth 8000 in
theorem b61_15 {d : Nat} {G : XS} {s : ZS} {n : Int} (hd : 5 ≤ d) (hn : (G.1.1 : Int) = n) (hk : kc G 0 5) (h1 : 1 ≤ n ∧ n ≤ 500) : ∃ G2 s2, ((G2.1.1 : Int) = n + 49 ∧ G2.1.2 ≤ G.1.2 + 910) ∧ (∀ a, a ≠ 0 → (a < n ∨ n + 49 ≤ a) → SM G s G2 s2 a) ∧ (WOK G2 n ∧ NEW s2 n) ∧ (kc G2 0 5 ∧ rr G2 0 1 = n ∧ (∀ j, j ≠ 1 → rr G2 0 j = rr G 0 j) ∧ ∀ j, s2 0 j = s 0 j) ∧ ∀ Q, Wp (d - 1) 61 (15, [zrf 0, zun], [], (G, s)) Q = Wp (d - 1) 61 (26, [zrf 0, zun], [], (G2, s2)) Q := by
  have hn1 : ((nG G 4 0 8).1.1 : Int) = n + 1 := by rw [nG_n]; omega
  have k0 : kc (nG G 4 0 8) 0 5 := by rw [kc_nG (by omega)]; exact hk
  have s0 : ∀ a, a ≠ n → SM G s (nG G 4 0 8) (nS s n) a := fun a ha => by
    have e2 := SM_n (G := G) (s := s) (kd := 4) (sl := 8) (sz := 0) (a := a) (by omega)
    rw [hn] at e2
    exact e2
  obtain ⟨G3, s3, ⟨f1, f2⟩, f3, f4, f5, e⟩ := c34_w (d := d - 1) (G := nG G 4 0 8) (s := nS s n) (W := n) (by omega) (kc_nGy (by omega)) hn1 ⟨by omega, by omega⟩
  rw [nG_z] at f2
  have sW := SM_t (s0 0 (by omega)) (f3 0 (by omega))
  have kW : kc G3 0 5 := SM_k (f3 0 (by omega)) k0 (by omega)
  refine ⟨rG G3 0 1 n, s3, ⟨by rw [rG_n]; omega, by rw [rG_z]; omega⟩, fun a ha hb => SM_t (SM_t (s0 a (by omega)) (f3 a hb)) (SM_r ha), ⟨WOK_k (s := s3) (s2 := s3) f4 (fun a ha => SM_r (by omega)) (Nat.le_refl _), f5⟩, ⟨kW, rr_rGy ⟨rfl, rfl⟩, fun j hj => ?_, fun j => sW.2.2.2 j⟩, fun Q => ?_⟩
  · rw [rr_rG (Or.inr hj)]; exact sW.2.2.1 j
  · have h0 : (0 ≤ n) = True := pT (by omega)
    have kk := pT kW
    clear f4 f5 f3 kW sW s0 hn1 f1 f2
    simp (disch := first | omega | exact rfl | (simp only [nG_n, rG_n, mG_n]; omega)) only [↓u61_0, ↓u61_1, ↓u61_4, ↓u61_5, ↓u61_8, ↓u61_9, ↓u61_12, ↓u61_15, ↓u61_16, ↓u61_19, ↓u61_20, ↓u61_23, ↓u61_27, ↓u61_30, ↓u61_31, ↓u61_34, ↓u61_37, ↓u61_38, ↓u61_39, ↓u61_42, ↓u61_43, ↓u61_46, ↓u61_47, ↓u61_50, ↓u61_53, ↓u61_54, ↓u61_59, ↓u61_62, ↓u61_63, ↓u61_65, ↓u61_67, ↓u61_70, ↓u61_71, ↓u61_74, ↓u61_75, ↓u61_78, ↓u61_79, ↓u61_83, ↓u61_86, ↓u61_89, ↓v61_56, ↓v61_82, ↓lI_0, ↓lI_s, ↓lL_0, ↓lL_s, ↓lR_0, ↓lR_s, ↓sT_0, ↓sT_i, ↓sT_r, ↓sT_u, ↓sT_lu, ↓sU_0, ↓sU_i, ↓sU_r, ↓sU_u, ↓ite_bx, bx_T, bx_F, bx_pos, bx_neg, zws_i, zws_r, zws_l, zws_n, zCb_kc, xl_ll, xr_rr, xs_e, xset_e, Option.toList, List.cons_append, List.nil_append, zIb_e, zrng_e, nz_e, if_pos, if_neg, and_true, true_and, or_true, true_or, ite_self, bi_eq0, bi_eq1, bi_1, bi_0, bi_ir, bi_T, bi_F, up_eq, up_ne, ↓reduceIte, reduceIte, Nat.reduceAdd, Nat.reduceLeDiff, Nat.le_refl, Nat.zero_le, not_true_eq_false, not_false_eq_true, ne_eq, Int.reduceEq, Int.reduceLT, Int.reduceLE, Int.reduceAdd, Int.reduceSub, Int.reduceMul, Int.reduceNeg, xnew_e, xref_e, xmul_e, xn_e, nG_n, rG_n, mG_n, kc_rG, kc_nG, kc_nGT, kc_mG, kc_mGT, ll_rG, ll_nG, ll_nGy, rr_rGy, rr_rG, rr_nG, lt_x, nS_n, nS_y, hn, kk, h0, e]
set_option maxRecDepth 8000 in
theorem b61_26 {d : Nat} {G : XS} {s : ZS} {n : Int} (hd : 5 ≤ d) (hn : (G.1.1 : Int) = n) (hk : kc G 0 5) (h1 : 1 ≤ n ∧ n ≤ 500) : ∃ G2 s2, ((G2.1.1 : Int) = n + 49 ∧ G2.1.2 ≤ G.1.2 + 910) ∧ (∀ a, a ≠ 0 → (a < n ∨ n + 49 ≤ a) → SM G s G2 s2 a) ∧ (WOK G2 n ∧ NEW s2 n) ∧ (kc G2 0 5 ∧ rr G2 0 2 = n ∧ (∀ j, j ≠ 2 → rr G2 0 j = rr G 0 j) ∧ ∀ j, s2 0 j = s 0 j) ∧ ∀ Q, Wp (d - 1) 61 (26, [zrf 0, zun], [], (G, s)) Q = Wp (d - 1) 61 (37, [zrf 0, zun], [], (G2, s2)) Q := by
  have hn1 : ((nG G 4 0 8).1.1 : Int) = n + 1 := by rw [nG_n]; omega
  have k0 : kc (nG G 4 0 8) 0 5 := by rw [kc_nG (by omega)]; exact hk
  have s0 : ∀ a, a ≠ n → SM G s (nG G 4 0 8) (nS s n) a := fun a ha => by
    have e2 := SM_n (G := G) (s := s) (kd := 4) (sl := 8) (sz := 0) (a := a) (by omega)
    rw [hn] at e2
    exact e2
  obtain ⟨G3, s3, ⟨f1, f2⟩, f3, f4, f5, e⟩ := c34_w (d := d - 1) (G := nG G 4 0 8) (s := nS s n) (W := n) (by omega) (kc_nGy (by omega)) hn1 ⟨by omega, by omega⟩
  rw [nG_z] at f2
  have sW := SM_t (s0 0 (by omega)) (f3 0 (by omega))
  have kW : kc G3 0 5 := SM_k (f3 0 (by omega)) k0 (by omega)
  refine ⟨rG G3 0 2 n, s3, ⟨by rw [rG_n]; omega, by rw [rG_z]; omega⟩, fun a ha hb => SM_t (SM_t (s0 a (by omega)) (f3 a hb)) (SM_r ha), ⟨WOK_k (s := s3) (s2 := s3) f4 (fun a ha => SM_r (by omega)) (Nat.le_refl _), f5⟩, ⟨kW, rr_rGy ⟨rfl, rfl⟩, fun j hj => ?_, fun j => sW.2.2.2 j⟩, fun Q => ?_⟩
  · rw [rr_rG (Or.inr hj)]; exact sW.2.2.1 j
  · have h0 : (0 ≤ n) = True := pT (by omega)
    have kk := pT kW
    clear f4 f5 f3 kW sW s0 hn1 f1 f2
    simp (disch := first | omega | exact rfl | (simp only [nG_n, rG_n, mG_n]; omega)) only [↓u61_0, ↓u61_1, ↓u61_4, ↓u61_5, ↓u61_8, ↓u61_9, ↓u61_12, ↓u61_15, ↓u61_16, ↓u61_19, ↓u61_20, ↓u61_23, ↓u61_26, ↓u61_27, ↓u61_30, ↓u61_31, ↓u61_34, ↓u61_38, ↓u61_39, ↓u61_42, ↓u61_43, ↓u61_46, ↓u61_47, ↓u61_50, ↓u61_53, ↓u61_54, ↓u61_59, ↓u61_62, ↓u61_63, ↓u61_65, ↓u61_67, ↓u61_70, ↓u61_71, ↓u61_74, ↓u61_75, ↓u61_78, ↓u61_79, ↓u61_83, ↓u61_86, ↓u61_89, ↓v61_56, ↓v61_82, ↓lI_0, ↓lI_s, ↓lL_0, ↓lL_s, ↓lR_0, ↓lR_s, ↓sT_0, ↓sT_i, ↓sT_r, ↓sT_u, ↓sT_lu, ↓sU_0, ↓sU_i, ↓sU_r, ↓sU_u, ↓ite_bx, bx_T, bx_F, bx_pos, bx_neg, zws_i, zws_r, zws_l, zws_n, zCb_kc, xl_ll, xr_rr, xs_e, xset_e, Option.toList, List.cons_append, List.nil_append, zIb_e, zrng_e, nz_e, if_pos, if_neg, and_true, true_and, or_true, true_or, ite_self, bi_eq0, bi_eq1, bi_1, bi_0, bi_ir, bi_T, bi_F, up_eq, up_ne, ↓reduceIte, reduceIte, Nat.reduceAdd, Nat.reduceLeDiff, Nat.le_refl, Nat.zero_le, not_true_eq_false, not_false_eq_true, ne_eq, Int.reduceEq, Int.reduceLT, Int.reduceLE, Int.reduceAdd, Int.reduceSub, Int.reduceMul, Int.reduceNeg, xnew_e, xref_e, xmul_e, xn_e, nG_n, rG_n, mG_n, kc_rG, kc_nG, kc_nGT, kc_mG, kc_mGT, ll_rG, ll_nG, ll_nGy, rr_rGy, rr_rG, rr_nG, lt_x, nS_n, nS_y, hn, kk, h0, e]
set_option maxRecDepth 8000 in
theorem c61_1 {d : Nat} {G : XS} {s : ZS} (hd : 5 ≤ d) (hk : kc G 0 5) (hn : (G.1.1 : Int) = 1) : ∃ G2 s2, ((G2.1.1 : Int) = 148 ∧ G2.1.2 ≤ G.1.2 + 2730) ∧ (∀ a, 148 ≤ a → SM G s G2 s2 a) ∧ (WOK G2 1 ∧ WOK G2 50 ∧ WOK G2 99) ∧ (NEW s2 1 ∧ NEW s2 50) ∧ (kc G2 0 5 ∧ rr G2 0 0 = 1 ∧ rr G2 0 1 = 50 ∧ rr G2 0 2 = 99) ∧ ∀ Q, Call d 61 [zrf 0] (G, s) Q = Wp (d - 1) 61 (37, [zrf 0, zun], [], (G2, s2)) Q := by
  obtain ⟨G3, s3, ⟨c1, c2⟩, c3, ⟨c4, c5⟩, ⟨c6, c7⟩, e3⟩ := b61_4 (d := d) (G := G) (s := s) (n := 1) hd hn hk (by decide)
  obtain ⟨G4, s4, ⟨d1, d2⟩, d3, ⟨d4, d5⟩, ⟨d6, d7⟩, e4⟩ := b61_15 (d := d) (G := G3) (s := s3) (n := 50) hd (by omega) c6 (by decide)
  obtain ⟨G5, s5, ⟨f1, f2⟩, f3, ⟨f4, f5⟩, ⟨f6, f7⟩, e5⟩ := b61_26 (d := d) (G := G4) (s := s4) (n := 99) hd (by omega) d6 (by decide)
  refine ⟨G5, s5, ⟨by omega, by omega⟩, fun a ha => SM_t (SM_t (c3 a (by omega) (by omega)) (d3 a (by omega) (by omega))) (f3 a (by omega) (by omega)), ⟨WOK_k (s := s3) (s2 := s5) c4 (fun a ha => SM_t (d3 a (by omega) (by omega)) (f3 a (by omega) (by omega))) (by omega), WOK_k (s := s4) (s2 := s5) d4 (fun a ha => f3 a (by omega) (by omega)) (by omega), f4⟩, ⟨NEW_k (G := G3) (G2 := G5) c5 (fun a ha => SM_t (d3 a (by omega) (by omega)) (f3 a (by omega) (by omega))), NEW_k (G := G4) (G2 := G5) d5 (fun a ha => f3 a (by omega) (by omega))⟩, ⟨f6, ?_, ?_, f7.1⟩, fun Q => ?_⟩
  · rw [f7.2.1 0 (by decide), d7.2.1 0 (by decide)]; exact c7.1
  · rw [f7.2.1 1 (by decide)]; exact d7.1
  · have h0 : (0 ≤ (0 : Int)) = True := pT (by decide)
    rw [e61 (show 1 ≤ d by omega), ← e5, ← e4, ← e3]
    simp (disch := first | omega | exact rfl | (simp only [nG_n, rG_n, mG_n]; omega)) only [↓u61_0, ↓u61_1, ↓u61_5, ↓u61_8, ↓u61_9, ↓u61_12, ↓u61_15, ↓u61_16, ↓u61_19, ↓u61_20, ↓u61_23, ↓u61_26, ↓u61_27, ↓u61_30, ↓u61_31, ↓u61_34, ↓u61_37, ↓u61_38, ↓u61_39, ↓u61_42, ↓u61_43, ↓u61_46, ↓u61_47, ↓u61_50, ↓u61_53, ↓u61_54, ↓u61_59, ↓u61_62, ↓u61_63, ↓u61_64, ↓u61_65, ↓u61_67, ↓u61_70, ↓u61_71, ↓u61_74, ↓u61_75, ↓u61_78, ↓u61_79, ↓u61_83, ↓u61_86, ↓u61_89, ↓v61_56, ↓v61_82, ↓lI_0, ↓lI_s, ↓lL_0, ↓lL_s, ↓lR_0, ↓lR_s, ↓sT_0, ↓sT_i, ↓sT_r, ↓sT_u, ↓sT_lu, ↓sU_0, ↓sU_i, ↓sU_r, ↓sU_u, ↓ite_bx, bx_T, bx_F, bx_pos, bx_neg, zws_i, zws_r, zws_l, zws_n, zCb_kc, xl_ll, xr_rr, xs_e, xset_e, Option.toList, List.cons_append, List.nil_append, zIb_e, zrng_e, nz_e, if_pos, if_neg, and_true, true_and, or_true, true_or, ite_self, bi_eq0, bi_eq1, bi_1, bi_0, bi_ir, bi_T, bi_F, up_eq, up_ne, ↓reduceIte, reduceIte, Nat.reduceAdd, Nat.reduceLeDiff, Nat.le_refl, Nat.zero_le, not_true_eq_false, not_false_eq_true, ne_eq, Int.reduceEq, Int.reduceLT, Int.reduceLE, Int.reduceAdd, Int.reduceSub, Int.reduceMul, Int.reduceNeg, xnew_e, xref_e, xmul_e, xn_e, nG_n, rG_n, mG_n, kc_rG, kc_nG, kc_nGT, kc_mG, kc_mGT, ll_rG, ll_nG, ll_nGy, rr_rGy, rr_rG, rr_nG, lt_x, nS_n, nS_y, h0]
set_option maxRecDepth 8000 in
theorem l61 {d : Nat} (hd : 3 ≤ d) : ∀ (j : Nat) (t : Int) (G : XS) (s : ZS), t + j = 6 → 0 ≤ t → (G.1.1 : Int) = 160 + 2 * t → kc G 0 5 → rr G 0 5 = 159 → kc G 159 11 → ll G 159 = 6 → (∀ c, 0 ≤ c ∧ c < t → rr G 159 c = 160 + 2 * c ∧ TOK G (160 + 2 * c) ∧ NT s (160 + 2 * c)) → ∃ G2 s2, ((G2.1.1 : Int) = 172 ∧ G2.1.2 ≤ G.1.2 + 70 * j) ∧ (∀ a, a ≠ 159 → (a < 160 + 2 * t ∨ 172 ≤ a) → SM G s G2 s2 a) ∧ (kc G2 159 11 ∧ ll G2 159 = 6 ∧ ∀ c, 0 ≤ c ∧ c < 6 → rr G2 159 c = 160 + 2 * c ∧ TOK G2 (160 + 2 * c) ∧ NT s2 (160 + 2 * c)) ∧ ∀ Q, Wp (d - 1) 61 (64, [zrf 0, zint t], [], (G, s)) Q = Q none (G2, s2) := by
  intro j
  induction j with
  | zero =>
    intro t G s h1 h2 hn k1 k2 k3 k4 k5
    have i6 : t = 6 := by omega
    subst i6
    refine ⟨G, s, ⟨by omega, by omega⟩, fun a _ _ => SM_i, ⟨k3, k4, k5⟩, fun Q => ?_⟩
    rw [u61_64]
    simp (disch := first | omega | exact rfl | (simp only [nG_n, rG_n, mG_n]; omega)) only [↓u61_0, ↓u61_1, ↓u61_4, ↓u61_5, ↓u61_8, ↓u61_9, ↓u61_12, ↓u61_15, ↓u61_16, ↓u61_19, ↓u61_20, ↓u61_23, ↓u61_26, ↓u61_27, ↓u61_30, ↓u61_31, ↓u61_34, ↓u61_37, ↓u61_38, ↓u61_39, ↓u61_42, ↓u61_43, ↓u61_46, ↓u61_47, ↓u61_50, ↓u61_53, ↓u61_54, ↓u61_59, ↓u61_62, ↓u61_63, ↓u61_65, ↓u61_67, ↓u61_70, ↓u61_71, ↓u61_74, ↓u61_75, ↓u61_78, ↓u61_79, ↓u61_83, ↓u61_86, ↓u61_89, ↓v61_56, ↓v61_82, ↓lI_0, ↓lI_s, ↓lL_0, ↓lL_s, ↓lR_0, ↓lR_s, ↓sT_0, ↓sT_i, ↓sT_r, ↓sT_u, ↓sT_lu, ↓sU_0, ↓sU_i, ↓sU_r, ↓sU_u, ↓ite_bx, bx_T, bx_F, bx_pos, bx_neg, zws_i, zws_r, zws_l, zws_n, zCb_kc, xl_ll, xr_rr, xs_e, xset_e, Option.toList, List.cons_append, List.nil_append, zIb_e, zrng_e, nz_e, if_pos, if_neg, and_true, true_and, or_true, true_or, ite_self, bi_eq0, bi_eq1, bi_1, bi_0, bi_ir, bi_T, bi_F, up_eq, up_ne, ↓reduceIte, reduceIte, Nat.reduceAdd, Nat.reduceLeDiff, Nat.le_refl, Nat.zero_le, not_true_eq_false, not_false_eq_true, ne_eq, Int.reduceEq, Int.reduceLT, Int.reduceLE, Int.reduceAdd, Int.reduceSub, Int.reduceMul, Int.reduceNeg, xnew_e, xref_e, xmul_e, xn_e, nG_n, rG_n, mG_n, kc_rG, kc_nG, kc_nGT, kc_mG, kc_mGT, ll_rG, ll_nG, ll_nGy, rr_rGy, rr_rG, rr_nG, lt_x, nS_n, nS_y]
  | succ j ih =>
    intro t G s h1 h2 hn k1 k2 k3 k4 k5
    have hn1 : ((nG G 3 0 3).1.1 : Int) = 160 + 2 * t + 1 := by rw [nG_n]; omega
    obtain ⟨G3, s3, f1, f2, f3, f4, f5, f6, f7, f8, f9, f10, e⟩ := c31 (d := d - 1) (G := nG G 3 0 3) (s := nS s (160 + 2 * t)) (o := 160 + 2 * t) (n := 160 + 2 * t + 1) (by omega) (kc_nGy (by omega)) hn1 ⟨by omega, by omega⟩ (by omega)
    rw [nG_z] at f2
    have s0 : ∀ a, a ≠ 160 + 2 * t → a ≠ 160 + 2 * t + 1 → SM G s G3 s3 a := fun a ha hb => by
      have e2 := SM_n (G := G) (s := s) (kd := 3) (sl := 3) (sz := 0) (a := a) (by omega)
      rw [hn] at e2
      exact SM_t e2 (f3 a ha hb)
    have nn : G.1.1 ≤ G3.1.1 := by omega
    have z0 := s0 0 (by omega) (by omega)
    have z9 := s0 159 (by omega) (by omega)
    have q1 : kc G3 0 5 := SM_k z0 k1 nn
    have q2 : rr G3 0 5 = 159 := (z0.2.2.1 5).trans k2
    have q3 : kc G3 159 11 := SM_k z9 k3 nn
    have q4 : ll G3 159 = 6 := z9.2.1.trans k4
    have T3 : TOK (rG G3 159 t (160 + 2 * t)) (160 + 2 * t) := ⟨f4, by rw [rr_rG (by omega)]; exact f5, f6, f7⟩
    have N3 : NT s3 (160 + 2 * t) := ⟨f8, f9, f10⟩
    obtain ⟨G2, s2, ⟨g1, g2⟩, g3, g4, e'⟩ := ih (t + 1) (rG G3 159 t (160 + 2 * t)) s3 (by omega) (by omega) (by rw [rG_n]; omega) q1 (by rw [rr_rG (by omega)]; exact q2) q3 q4 (fun c hc => by
      by_cases q : c = t
      · rw [q]
        exact ⟨rr_rGy ⟨rfl, rfl⟩, T3, N3⟩
      · obtain ⟨x1, x2, x3⟩ := k5 c (by omega)
        have y1 := s0 (160 + 2 * c) (by omega) (by omega)
        have y2 := s0 (160 + 2 * c + 1) (by omega) (by omega)
        have y3 := SM_t y1 (SM_r (j := t) (v := 160 + 2 * t) (show 160 + 2 * c ≠ 159 by omega))
        have y4 := SM_t y2 (SM_r (j := t) (v := 160 + 2 * t) (show 160 + 2 * c + 1 ≠ 159 by omega))
        exact ⟨by rw [rr_rG (Or.inr q), z9.2.2.1 c]; exact x1, TOK_k x2 y3 y4 (by rw [rG_n]; omega), NT_k x3 y1 y2⟩)
    rw [rG_z] at g2
    refine ⟨G2, s2, ⟨g1, by omega⟩, fun a ha hb => SM_t (SM_t (s0 a (by omega) (by omega)) (SM_r ha)) (g3 a ha (by omega)), g4, fun Q => ?_⟩
    have h0 : (0 ≤ 160 + 2 * t) = True := pT (by omega)
    have p1 := pT k1
    have p3 := pT q3
    have p4 := pT f4
    clear s0 z0 z9 T3 N3 g4 g3 f3 k5
    rw [u61_64]
    simp (disch := first | omega | exact rfl | (simp only [nG_n, rG_n, mG_n]; omega)) only [↓u61_0, ↓u61_1, ↓u61_4, ↓u61_5, ↓u61_8, ↓u61_9, ↓u61_12, ↓u61_15, ↓u61_16, ↓u61_19, ↓u61_20, ↓u61_23, ↓u61_26, ↓u61_27, ↓u61_30, ↓u61_31, ↓u61_34, ↓u61_37, ↓u61_38, ↓u61_39, ↓u61_42, ↓u61_43, ↓u61_46, ↓u61_47, ↓u61_50, ↓u61_53, ↓u61_54, ↓u61_59, ↓u61_62, ↓u61_63, ↓u61_65, ↓u61_67, ↓u61_70, ↓u61_71, ↓u61_74, ↓u61_75, ↓u61_78, ↓u61_79, ↓u61_83, ↓u61_86, ↓u61_89, ↓v61_56, ↓v61_82, ↓lI_0, ↓lI_s, ↓lL_0, ↓lL_s, ↓lR_0, ↓lR_s, ↓sT_0, ↓sT_i, ↓sT_r, ↓sT_u, ↓sT_lu, ↓sU_0, ↓sU_i, ↓sU_r, ↓sU_u, ↓ite_bx, bx_T, bx_F, bx_pos, bx_neg, zws_i, zws_r, zws_l, zws_n, zCb_kc, xl_ll, xr_rr, xs_e, xset_e, Option.toList, List.cons_append, List.nil_append, zIb_e, zrng_e, nz_e, if_pos, if_neg, and_true, true_and, or_true, true_or, ite_self, bi_eq0, bi_eq1, bi_1, bi_0, bi_ir, bi_T, bi_F, up_eq, up_ne, ↓reduceIte, reduceIte, Nat.reduceAdd, Nat.reduceLeDiff, Nat.le_refl, Nat.zero_le, not_true_eq_false, not_false_eq_true, ne_eq, Int.reduceEq, Int.reduceLT, Int.reduceLE, Int.reduceAdd, Int.reduceSub, Int.reduceMul, Int.reduceNeg, xnew_e, xref_e, xmul_e, xn_e, nG_n, rG_n, mG_n, kc_rG, kc_nG, kc_nGT, kc_mG, kc_mGT, ll_rG, ll_nG, ll_nGy, rr_rGy, rr_rG, rr_nG, lt_x, nS_n, nS_y, hn, p1, k2, p3, p4, q4, h0, e, e']
set_option maxRecDepth 8000 in
theorem c61 {d : Nat} {G : XS} {s : ZS} (hd : 5 ≤ d) (hk : kc G 0 5) (hn : (G.1.1 : Int) = 1) : ∃ G2 s2, ((G2.1.1 : Int) = 172 ∧ G2.1.2 ≤ G.1.2 + 4000) ∧ (∀ a, 172 ≤ a → SM G s G2 s2 a) ∧ LOK G2 1 50 99 ∧ (NEW s2 1 ∧ NEW s2 50) ∧ (s2 0 3 = 0 ∧ s2 148 2 = 0 ∧ ∀ c, 0 ≤ c ∧ c < 6 → NT s2 (160 + 2 * c)) ∧ ∀ Q, Call d 61 [zrf 0] (G, s) Q = Q none (G2, s2) := by
  obtain ⟨G3, s3, ⟨c1, c2⟩, c3, ⟨c4, c5, c6⟩, ⟨c7, c8⟩, ⟨c9, c10⟩, e3⟩ := c61_1 (d := d) (G := G) (s := s) hd hk hn
  -- the reader
  have hn1 : ((nG G3 1 0 6).1.1 : Int) = 149 := by rw [nG_n]; omega
  obtain ⟨G4, s4, ⟨d1, d2⟩, d3, d4, d5, e4⟩ := c15_r (d := d - 1) (G := nG G3 1 0 6) (s := nS (up s3 0 3 0) 148) (by omega) (kc_nGy (by omega)) hn1
  rw [nG_z] at d2
  have s0 : ∀ a, a ≠ 0 → (a < 148 ∨ 159 ≤ a) → SM G3 s3 G4 s4 a := fun a ha hb => by
    have e2 := SM_n (G := G3) (s := up s3 0 3 0) (kd := 1) (sl := 6) (sz := 0) (a := a) (by omega)
    rw [c1] at e2
    exact SM_t (SM_t (SM_u ha) e2) (d3 a hb)
  have z0 : SM G3 (up s3 0 3 0) G4 s4 0 := by
    have e2 := SM_n (G := G3) (s := up s3 0 3 0) (kd := 1) (sl := 6) (sz := 0) (a := 0) (by omega)
    rw [c1] at e2
    exact SM_t e2 (d3 0 (by decide))
  -- the array of the tapes
  obtain ⟨G5, hG5⟩ : ∃ G5, G5 = rG (nG (rG G4 0 4 148) 11 6 (6 : Int).toNat) 0 5 159 := ⟨_, rfl⟩
  obtain ⟨s5, hs5⟩ : ∃ s5, s5 = nS s4 159 := ⟨_, rfl⟩
  have f1 : (G5.1.1 : Int) = 160 := by rw [hG5, rG_n, nG_n, rG_n]; omega
  have f2 : G5.1.2 ≤ G4.1.2 + 6 := by rw [hG5, rG_z, nG_z, rG_z]; exact Nat.le_refl _
  have s1 : ∀ a, a ≠ 0 → a ≠ 159 → SM G4 s4 G5 s5 a := fun a ha hb => by
    have e2 := SM_n (G := rG G4 0 4 148) (s := s4) (kd := 11) (sl := (6 : Int).toNat) (sz := 6) (a := a) (by rw [rG_n]; omega)
    rw [rG_n, d1] at e2
    rw [hG5, hs5]
    exact SM_t (SM_t (SM_r ha) e2) (SM_r ha)
  have k4 : kc G4 0 5 := SM_k z0 c9 (by omega)
  have k5 : kc G5 0 5 := by rw [hG5, kc_rG, kc_nG (by rw [rG_n]; omega), kc_rG]; exact k4
  have r5 : rr G5 0 5 = 159 := by rw [hG5]; exact rr_rGy ⟨rfl, rfl⟩
  have r4 : rr G5 0 4 = 148 := by rw [hG5, rr_rG (by decide), rr_nG (by rw [rG_n]; omega)]; exact rr_rGy ⟨rfl, rfl⟩
  have rj : ∀ j, j ≠ 4 → j ≠ 5 → rr G5 0 j = rr G3 0 j := fun j h4 h5 => by rw [hG5, rr_rG (Or.inr h5), rr_nG (by rw [rG_n]; omega), rr_rG (Or.inr h4)]; exact z0.2.2.1 j
  have k9 : kc G5 159 11 := by rw [hG5, kc_rG]; exact kc_nGy (by rw [rG_n]; omega)
  have l9 : ll G5 159 = 6 := by rw [hG5, ll_rG]; exact ll_nGy (by rw [rG_n]; omega)
  have u5 : s5 0 3 = 0 := by
    rw [hs5, nS_n (by decide), z0.2.2.2 3]
    exact up_eq
  obtain ⟨G6, s6, ⟨g1, g2⟩, g3, ⟨g4, g5, g6⟩, e6⟩ := l61 (d := d) (by omega) 6 0 G5 s5 (by decide) (by decide) (by omega) k5 r5 k9 l9 (fun c hc => by omega)
  have T : ∀ a, a ≠ 0 → a < 148 → SM G3 s3 G6 s6 a := fun a ha hb => by
    have x1 := s0 a ha (by omega)
    have x2 := s1 a ha (by omega)
    have x3 := g3 a (by omega) (by omega)
    exact SM_t (SM_t x1 x2) x3
  have TR : ∀ a, 148 ≤ a ∧ a ≤ 158 → SM G4 s4 G6 s6 a := fun a ha => by
    have x2 := s1 a (by omega) (by omega)
    have x3 := g3 a (by omega) (by omega)
    exact SM_t x2 x3
  have TO : ∀ a, 172 ≤ a → SM G s G6 s6 a := fun a ha => by
    have x0 := c3 a (by omega)
    have x1 := s0 a (by omega) (by omega)
    have x2 := s1 a (by omega) (by omega)
    have x3 := g3 a (by omega) (by omega)
    exact SM_t (SM_t (SM_t x0 x1) x2) x3
  have t0 := g3 0 (by decide) (by decide)
  have n3 : G3.1.1 ≤ G6.1.1 := by omega
  have n4 : G4.1.1 ≤ G6.1.1 := by omega
  have n5 : G5.1.1 ≤ G6.1.1 := by omega
  have bz : G6.1.2 ≤ G.1.2 + 4000 := by omega
  have m1 : ∀ a, (1 : Int) ≤ a ∧ a ≤ 1 + 48 → SM G3 s3 G6 s6 a := fun a ha => T a (by omega) (by omega)
  have m2 : ∀ a, (50 : Int) ≤ a ∧ a ≤ 50 + 48 → SM G3 s3 G6 s6 a := fun a ha => T a (by omega) (by omega)
  have m3 : ∀ a, (99 : Int) ≤ a ∧ a ≤ 99 + 48 → SM G3 s3 G6 s6 a := fun a ha => T a (by omega) (by omega)
  refine ⟨G6, s6, ⟨g1, bz⟩, TO, ⟨SM_k t0 k5 n5, ?_, ?_, ?_, (t0.2.2.1 4).trans r4, (t0.2.2.1 5).trans r5, WOK_k c4 m1 n3, WOK_k c5 m2 n3, WOK_k c6 m3 n3, RDR_k d4 TR n4, g4, g5, fun t ht => (g6 t ht).1, fun t ht => (g6 t ht).2.1, by decide⟩, ⟨NEW_k c7 m1, NEW_k c8 m2⟩, ⟨(t0.2.2.2 3).trans u5, ((TR 148 (by decide)).2.2.2 2).trans d5, fun c hc => (g6 c hc).2.2⟩, fun Q => ?_⟩
  · rw [t0.2.2.1 0, rj 0 (by decide) (by decide)]; exact c10.1
  · rw [t0.2.2.1 1, rj 1 (by decide) (by decide)]; exact c10.2.1
  · rw [t0.2.2.1 2, rj 2 (by decide) (by decide)]; exact c10.2.2
  · have h0 : (0 ≤ (148 : Int)) = True := pT (by decide)
    have p3 := pT c9
    have p4 := pT k4
    clear T TR TO t0 m1 m2 m3 g3 g4 g5 g6 s0 s1 rj k5 r5 r4 k9 l9 u5 c3 d3 z0 c10
    rw [e3, ← e6 Q]
    simp (disch := first | omega | exact rfl | (simp only [nG_n, rG_n, mG_n]; omega)) only [↓u61_0, ↓u61_1, ↓u61_4, ↓u61_5, ↓u61_8, ↓u61_9, ↓u61_12, ↓u61_15, ↓u61_16, ↓u61_19, ↓u61_20, ↓u61_23, ↓u61_26, ↓u61_27, ↓u61_30, ↓u61_31, ↓u61_34, ↓u61_37, ↓u61_38, ↓u61_39, ↓u61_42, ↓u61_43, ↓u61_46, ↓u61_47, ↓u61_50, ↓u61_53, ↓u61_54, ↓u61_59, ↓u61_62, ↓u61_63, ↓u61_65, ↓u61_67, ↓u61_70, ↓u61_71, ↓u61_74, ↓u61_75, ↓u61_78, ↓u61_79, ↓u61_83, ↓u61_86, ↓u61_89, ↓v61_56, ↓v61_82, ↓lI_0, ↓lI_s, ↓lL_0, ↓lL_s, ↓lR_0, ↓lR_s, ↓sT_0, ↓sT_i, ↓sT_r, ↓sT_u, ↓sT_lu, ↓sU_0, ↓sU_i, ↓sU_r, ↓sU_u, ↓ite_bx, bx_T, bx_F, bx_pos, bx_neg, zws_i, zws_r, zws_l, zws_n, zCb_kc, xl_ll, xr_rr, xs_e, xset_e, Option.toList, List.cons_append, List.nil_append, zIb_e, zrng_e, nz_e, if_pos, if_neg, and_true, true_and, or_true, true_or, ite_self, bi_eq0, bi_eq1, bi_1, bi_0, bi_ir, bi_T, bi_F, up_eq, up_ne, ↓reduceIte, reduceIte, Nat.reduceAdd, Nat.reduceLeDiff, Nat.le_refl, Nat.zero_le, not_true_eq_false, not_false_eq_true, ne_eq, Int.reduceEq, Int.reduceLT, Int.reduceLE, Int.reduceAdd, Int.reduceSub, Int.reduceMul, Int.reduceNeg, xnew_e, xref_e, xmul_e, xn_e, nG_n, rG_n, mG_n, kc_rG, kc_nG, kc_nGT, kc_mG, kc_mGT, ll_rG, ll_nG, ll_nGy, rr_rGy, rr_rG, rr_nG, lt_x, nS_n, nS_y, c1, p3, h0]
    rw [e4]
    simp (disch := first | omega | exact rfl | (simp only [nG_n, rG_n, mG_n]; omega)) only [↓u61_0, ↓u61_1, ↓u61_4, ↓u61_5, ↓u61_8, ↓u61_9, ↓u61_12, ↓u61_15, ↓u61_16, ↓u61_19, ↓u61_20, ↓u61_23, ↓u61_26, ↓u61_27, ↓u61_30, ↓u61_31, ↓u61_34, ↓u61_37, ↓u61_38, ↓u61_39, ↓u61_42, ↓u61_43, ↓u61_46, ↓u61_47, ↓u61_50, ↓u61_53, ↓u61_54, ↓u61_59, ↓u61_62, ↓u61_63, ↓u61_65, ↓u61_67, ↓u61_70, ↓u61_71, ↓u61_74, ↓u61_75, ↓u61_78, ↓u61_79, ↓u61_83, ↓u61_86, ↓u61_89, ↓v61_56, ↓v61_82, ↓lI_0, ↓lI_s, ↓lL_0, ↓lL_s, ↓lR_0, ↓lR_s, ↓sT_0, ↓sT_i, ↓sT_r, ↓sT_u, ↓sT_lu, ↓sU_0, ↓sU_i, ↓sU_r, ↓sU_u, ↓ite_bx, bx_T, bx_F, bx_pos, bx_neg, zws_i, zws_r, zws_l, zws_n, zCb_kc, xl_ll, xr_rr, xs_e, xset_e, Option.toList, List.cons_append, List.nil_append, zIb_e, zrng_e, nz_e, if_pos, if_neg, and_true, true_and, or_true, true_or, ite_self, bi_eq0, bi_eq1, bi_1, bi_0, bi_ir, bi_T, bi_F, up_eq, up_ne, ↓reduceIte, reduceIte, Nat.reduceAdd, Nat.reduceLeDiff, Nat.le_refl, Nat.zero_le, not_true_eq_false, not_false_eq_true, ne_eq, Int.reduceEq, Int.reduceLT, Int.reduceLE, Int.reduceAdd, Int.reduceSub, Int.reduceMul, Int.reduceNeg, xnew_e, xref_e, xmul_e, xn_e, nG_n, rG_n, mG_n, kc_rG, kc_nG, kc_nGT, kc_mG, kc_mGT, ll_rG, ll_nG, ll_nGy, rr_rGy, rr_rG, rr_nG, lt_x, nS_n, nS_y, d1, p4, h0]
    rw [hG5, hs5]
