/-! the constructors of the class -/
set_option maxRecDepth 8000 in
theorem kc_nGT {G : XS} {kd sl : Nat} {sz a : Int} (h : a = (G.1.1 : Int)) : kc (nG G kd sz sl) a kd = True := pT (kc_nGy h)
set_option maxRecDepth 8000 in
theorem kc_mGT {G : XS} {kd : Nat} {j k a : Int} (h : a = (G.1.1 : Int)) : kc (mG G kd j k) a (kd + 5) = True := pT (kc_mGy h)
set_option maxRecDepth 8000 in
theorem c0_box {d : Nat} {Q : Option AV → XH → Prop} {h : XH} {o : Int} (hd : 1 ≤ d) (ho : 0 ≤ o) : Call d 0 [zrf o] h Q = Q none h := by
  rw [e0 (show 1 ≤ d by omega)]
  have h0 : (0 ≤ o) = True := pT ho
  simp (disch := first | omega | exact rfl) only [↓u0_0, ↓u0_1, ↓u0_4, ↓lI_0, ↓lI_s, ↓lL_0, ↓lL_s, ↓lR_0, ↓lR_s, ↓sT_0, ↓sT_i, ↓sT_r, ↓sT_u, ↓sT_lu, ↓sU_0, ↓sU_i, ↓sU_r, ↓sU_u, ↓ite_bx, bx_T, bx_F, bx_pos, bx_neg, zws_i, zws_r, zws_l, zws_n, zCb_kc, xl_ll, xr_rr, xs_e, xset_e, Option.toList, List.cons_append, List.nil_append, zIb_e, zrng_e, nz_e, if_pos, if_neg, and_true, true_and, or_true, true_or, ite_self, bi_eq0, bi_eq1, bi_1, bi_0, bi_ir, bi_T, bi_F, up_eq, up_ne, ↓reduceIte, reduceIte, Nat.reduceAdd, Nat.reduceLeDiff, Nat.le_refl, Nat.zero_le, not_true_eq_false, not_false_eq_true, ne_eq, Int.reduceEq, Int.reduceLT, Int.reduceLE, Int.reduceAdd, Int.reduceSub, Int.reduceMul, Int.reduceNeg, h0]
set_option maxRecDepth 8000 in
theorem c26 {d : Nat} {G : XS} {s : ZS} {o n m : Int} (hd : 1 ≤ d) (hk : kc G o 2) (hn : (G.1.1 : Int) = n) (ho : 0 ≤ o ∧ o < n) (h1 : n ≤ 1000) (hm : 0 ≤ m ∧ m ≤ 10) : ∃ G2 s2, (G2.1.1 : Int) = n + 1 ∧ G2.1.2 ≤ G.1.2 + 30 ∧ (∀ a, a ≠ o → a ≠ n → SM G s G2 s2 a) ∧ kc G2 o 2 ∧ rr G2 o 0 = n ∧ kc G2 n 7 ∧ ll G2 n = m * 3 ∧ s2 o 1 = m ∧ s2 o 2 = 0 ∧ ∀ Q, Call d 26 [zrf o, zint m] (G, s) Q = Q none (G2, s2) := by
  have h0 : (0 ≤ o) = True := pT ho.1
  refine ⟨rG (nG G 7 (m * 3) (m * 3).toNat) o 0 n, up (nS (up s o 1 m) n) o 2 0, ?_, ?_, fun a ha hb => ?_, ?_, ?_, ?_, ?_, ?_, ?_, fun Q => ?_⟩
  · rw [rG_n, nG_n]; omega
  · rw [rG_z, nG_z]; omega
  · have e1 := SM_u (G := G) (s := s) (o := o) (j := 1) (v := m) ha
    have e2 := SM_n (G := G) (s := up s o 1 m) (kd := 7) (sl := (m * 3).toNat) (sz := m * 3) (a := a) (by omega)
    rw [hn] at e2
    exact SM_t (SM_t (SM_t e1 e2) (SM_r ha)) (SM_u ha)
  · simp (disch := first | omega | (simp only [nG_n, rG_n, mG_n]; omega)) only [nG_n, rG_n, mG_n, kc_rG, kc_nG, kc_nGT, kc_mG, kc_mGT, ll_rG, ll_nG, ll_nGy, ll_mG, ll_mGy, rr_rGy, rr_rG, rr_nG, rr_mG, rr_mGy, nS_n, nS_y, mS_n, mS_y, up_eq, up_ne, kd_rG, kd_nG, kd_mG, pT hk]
  · simp (disch := first | omega | (simp only [nG_n, rG_n, mG_n]; omega)) only [nG_n, rG_n, mG_n, kc_rG, kc_nG, kc_nGT, kc_mG, kc_mGT, ll_rG, ll_nG, ll_nGy, ll_mG, ll_mGy, rr_rGy, rr_rG, rr_nG, rr_mG, rr_mGy, nS_n, nS_y, mS_n, mS_y, up_eq, up_ne, kd_rG, kd_nG, kd_mG]
  · simp (disch := first | omega | (simp only [nG_n, rG_n, mG_n]; omega)) only [nG_n, rG_n, mG_n, kc_rG, kc_nG, kc_nGT, kc_mG, kc_mGT, ll_rG, ll_nG, ll_nGy, ll_mG, ll_mGy, rr_rGy, rr_rG, rr_nG, rr_mG, rr_mGy, nS_n, nS_y, mS_n, mS_y, up_eq, up_ne, kd_rG, kd_nG, kd_mG]
  · simp (disch := first | omega | (simp only [nG_n, rG_n, mG_n]; omega)) only [nG_n, rG_n, mG_n, kc_rG, kc_nG, kc_nGT, kc_mG, kc_mGT, ll_rG, ll_nG, ll_nGy, ll_mG, ll_mGy, rr_rGy, rr_rG, rr_nG, rr_mG, rr_mGy, nS_n, nS_y, mS_n, mS_y, up_eq, up_ne, kd_rG, kd_nG, kd_mG]
  · simp (disch := first | omega | (simp only [nG_n, rG_n, mG_n]; omega)) only [nG_n, rG_n, mG_n, kc_rG, kc_nG, kc_nGT, kc_mG, kc_mGT, ll_rG, ll_nG, ll_nGy, ll_mG, ll_mGy, rr_rGy, rr_rG, rr_nG, rr_mG, rr_mGy, nS_n, nS_y, mS_n, mS_y, up_eq, up_ne, kd_rG, kd_nG, kd_mG]
  · simp (disch := first | omega | (simp only [nG_n, rG_n, mG_n]; omega)) only [nG_n, rG_n, mG_n, kc_rG, kc_nG, kc_nGT, kc_mG, kc_mGT, ll_rG, ll_nG, ll_nGy, ll_mG, ll_mGy, rr_rGy, rr_rG, rr_nG, rr_mG, rr_mGy, nS_n, nS_y, mS_n, mS_y, up_eq, up_ne, kd_rG, kd_nG, kd_mG]
  · rw [e26 (show 1 ≤ d by omega)]
    simp (disch := first | omega | exact rfl | (simp only [nG_n, rG_n, mG_n]; omega)) only [↓u26_0, ↓u26_1, ↓u26_4, ↓u26_5, ↓u26_6, ↓u26_9, ↓u26_10, ↓u26_11, ↓u26_12, ↓u26_15, ↓u26_18, ↓u26_19, ↓u26_20, ↓u26_23, ↓v26_13, ↓lI_0, ↓lI_s, ↓lL_0, ↓lL_s, ↓lR_0, ↓lR_s, ↓sT_0, ↓sT_i, ↓sT_r, ↓sT_u, ↓sT_lu, ↓sU_0, ↓sU_i, ↓sU_r, ↓sU_u, ↓ite_bx, bx_T, bx_F, bx_pos, bx_neg, zws_i, zws_r, zws_l, zws_n, zCb_kc, xl_ll, xr_rr, xs_e, xset_e, Option.toList, List.cons_append, List.nil_append, zIb_e, zrng_e, nz_e, if_pos, if_neg, and_true, true_and, or_true, true_or, ite_self, bi_eq0, bi_eq1, bi_1, bi_0, bi_ir, bi_T, bi_F, up_eq, up_ne, ↓reduceIte, reduceIte, Nat.reduceAdd, Nat.reduceLeDiff, Nat.le_refl, Nat.zero_le, not_true_eq_false, not_false_eq_true, ne_eq, Int.reduceEq, Int.reduceLT, Int.reduceLE, Int.reduceAdd, Int.reduceSub, Int.reduceMul, Int.reduceNeg, xnew_e, xref_e, xmul_e, xn_e, nG_n, rG_n, mG_n, kc_rG, kc_nG, kc_nGT, kc_mG, kc_mGT, ll_rG, ll_nG, ll_nGy, rr_rGy, rr_rG, rr_nG, lt_x, nS_n, nS_y, hn, pT hk, h0]
set_option maxRecDepth 8000 in
theorem c31 {d : Nat} {G : XS} {s : ZS} {o n : Int} (hd : 1 ≤ d) (hk : kc G o 3) (hn : (G.1.1 : Int) = n) (ho : 0 ≤ o ∧ o < n) (h1 : n ≤ 1000) : ∃ G2 s2, (G2.1.1 : Int) = n + 1 ∧ G2.1.2 ≤ G.1.2 + 60 ∧ (∀ a, a ≠ o → a ≠ n → SM G s G2 s2 a) ∧ kc G2 o 3 ∧ rr G2 o 0 = n ∧ kc G2 n 8 ∧ ll G2 n = 60 ∧ s2 o 1 = -1 ∧ s2 o 2 = 0 ∧ (∀ j, s2 n j = 0) ∧ ∀ Q, Call d 31 [zrf o] (G, s) Q = Q none (G2, s2) := by
  have h0 : (0 ≤ o) = True := pT ho.1
  refine ⟨rG (nG G 8 60 (60 : Int).toNat) o 0 n, up (up (nS s n) o 1 (-1)) o 2 0, ?_, ?_, fun a ha hb => ?_, ?_, ?_, ?_, ?_, ?_, ?_, fun j => ?_, fun Q => ?_⟩
  · rw [rG_n, nG_n]; omega
  · rw [rG_z, nG_z]; omega
  · have e2 := SM_n (G := G) (s := s) (kd := 8) (sl := (60 : Int).toNat) (sz := 60) (a := a) (by omega)
    rw [hn] at e2
    exact SM_t (SM_t (SM_t e2 (SM_r ha)) (SM_u ha)) (SM_u ha)
  · simp (disch := first | omega | (simp only [nG_n, rG_n, mG_n]; omega)) only [nG_n, rG_n, mG_n, kc_rG, kc_nG, kc_nGT, kc_mG, kc_mGT, ll_rG, ll_nG, ll_nGy, ll_mG, ll_mGy, rr_rGy, rr_rG, rr_nG, rr_mG, rr_mGy, nS_n, nS_y, mS_n, mS_y, up_eq, up_ne, kd_rG, kd_nG, kd_mG, pT hk]
  · simp (disch := first | omega | (simp only [nG_n, rG_n, mG_n]; omega)) only [nG_n, rG_n, mG_n, kc_rG, kc_nG, kc_nGT, kc_mG, kc_mGT, ll_rG, ll_nG, ll_nGy, ll_mG, ll_mGy, rr_rGy, rr_rG, rr_nG, rr_mG, rr_mGy, nS_n, nS_y, mS_n, mS_y, up_eq, up_ne, kd_rG, kd_nG, kd_mG]
  · simp (disch := first | omega | (simp only [nG_n, rG_n, mG_n]; omega)) only [nG_n, rG_n, mG_n, kc_rG, kc_nG, kc_nGT, kc_mG, kc_mGT, ll_rG, ll_nG, ll_nGy, ll_mG, ll_mGy, rr_rGy, rr_rG, rr_nG, rr_mG, rr_mGy, nS_n, nS_y, mS_n, mS_y, up_eq, up_ne, kd_rG, kd_nG, kd_mG]
  · simp (disch := first | omega | (simp only [nG_n, rG_n, mG_n]; omega)) only [nG_n, rG_n, mG_n, kc_rG, kc_nG, kc_nGT, kc_mG, kc_mGT, ll_rG, ll_nG, ll_nGy, ll_mG, ll_mGy, rr_rGy, rr_rG, rr_nG, rr_mG, rr_mGy, nS_n, nS_y, mS_n, mS_y, up_eq, up_ne, kd_rG, kd_nG, kd_mG]
  · simp (disch := first | omega | (simp only [nG_n, rG_n, mG_n]; omega)) only [nG_n, rG_n, mG_n, kc_rG, kc_nG, kc_nGT, kc_mG, kc_mGT, ll_rG, ll_nG, ll_nGy, ll_mG, ll_mGy, rr_rGy, rr_rG, rr_nG, rr_mG, rr_mGy, nS_n, nS_y, mS_n, mS_y, up_eq, up_ne, kd_rG, kd_nG, kd_mG]
  · simp (disch := first | omega | (simp only [nG_n, rG_n, mG_n]; omega)) only [nG_n, rG_n, mG_n, kc_rG, kc_nG, kc_nGT, kc_mG, kc_mGT, ll_rG, ll_nG, ll_nGy, ll_mG, ll_mGy, rr_rGy, rr_rG, rr_nG, rr_mG, rr_mGy, nS_n, nS_y, mS_n, mS_y, up_eq, up_ne, kd_rG, kd_nG, kd_mG]
  · simp (disch := first | omega | (simp only [nG_n, rG_n, mG_n]; omega)) only [nG_n, rG_n, mG_n, kc_rG, kc_nG, kc_nGT, kc_mG, kc_mGT, ll_rG, ll_nG, ll_nGy, ll_mG, ll_mGy, rr_rGy, rr_rG, rr_nG, rr_mG, rr_mGy, nS_n, nS_y, mS_n, mS_y, up_eq, up_ne, kd_rG, kd_nG, kd_mG]
  · rw [e31 (show 1 ≤ d by omega)]
    simp (disch := first | omega | exact rfl | (simp only [nG_n, rG_n, mG_n]; omega)) only [↓u31_0, ↓u31_1, ↓u31_4, ↓u31_5, ↓u31_9, ↓u31_12, ↓u31_13, ↓u31_14, ↓u31_17, ↓u31_18, ↓u31_19, ↓u31_22, ↓v31_7, ↓lI_0, ↓lI_s, ↓lL_0, ↓lL_s, ↓lR_0, ↓lR_s, ↓sT_0, ↓sT_i, ↓sT_r, ↓sT_u, ↓sT_lu, ↓sU_0, ↓sU_i, ↓sU_r, ↓sU_u, ↓ite_bx, bx_T, bx_F, bx_pos, bx_neg, zws_i, zws_r, zws_l, zws_n, zCb_kc, xl_ll, xr_rr, xs_e, xset_e, Option.toList, List.cons_append, List.nil_append, zIb_e, zrng_e, nz_e, if_pos, if_neg, and_true, true_and, or_true, true_or, ite_self, bi_eq0, bi_eq1, bi_1, bi_0, bi_ir, bi_T, bi_F, up_eq, up_ne, ↓reduceIte, reduceIte, Nat.reduceAdd, Nat.reduceLeDiff, Nat.le_refl, Nat.zero_le, not_true_eq_false, not_false_eq_true, ne_eq, Int.reduceEq, Int.reduceLT, Int.reduceLE, Int.reduceAdd, Int.reduceSub, Int.reduceMul, Int.reduceNeg, xnew_e, xref_e, xmul_e, xn_e, nG_n, rG_n, mG_n, kc_rG, kc_nG, kc_nGT, kc_mG, kc_mGT, ll_rG, ll_nG, ll_nGy, rr_rGy, rr_rG, rr_nG, lt_x, nS_n, nS_y, hn, pT hk, h0]
set_option maxRecDepth 8000 in
theorem l34 {d : Nat} {W : Int} (hd : 2 ≤ d) (hW : 0 ≤ W ∧ W ≤ 500) : ∀ (j : Nat) (i : Int) (G : XS) (s : ZS), i + j = 40 → 0 ≤ i → (G.1.1 : Int) = W + 2 + i → kc G W 4 → rr G W 0 = W + 1 → kc G (W + 1) 10 → ll G (W + 1) = 40 → (∀ c, 0 ≤ c ∧ c < i → rr G (W + 1) c = W + 2 + c ∧ kc G (W + 2 + c) 0) → ∃ G2 s2, (G2.1.1 : Int) = W + 42 ∧ G2.1.2 ≤ G.1.2 + 9 * j ∧ (∀ a, a ≠ W + 1 → (a < W + 2 + i ∨ W + 42 ≤ a) → SM G s G2 s2 a) ∧ kc G2 (W + 1) 10 ∧ ll G2 (W + 1) = 40 ∧ (∀ c, 0 ≤ c ∧ c < 40 → rr G2 (W + 1) c = W + 2 + c ∧ kc G2 (W + 2 + c) 0) ∧ ∀ Q, Wp (d - 1) 34 (15, [zrf W, zint i], [], (G, s)) Q = Wp (d - 1) 34 (40, [zrf W, zint 40], [], (G2, s2)) Q := by
  intro j
  induction j with
  | zero =>
    intro i G s h1 h2 hn k1 k2 k3 k4 k5
    have i40 : i = 40 := by omega
    subst i40
    refine ⟨G, s, by omega, by omega, fun a _ _ => ⟨rfl, rfl, fun j => rfl, fun j => rfl⟩, k3, k4, k5, fun Q => ?_⟩
    rw [u34_15]
    simp (disch := first | omega | exact rfl | (simp only [nG_n, rG_n, mG_n]; omega)) only [↓u34_0, ↓u34_1, ↓u34_4, ↓u34_5, ↓u34_10, ↓u34_13, ↓u34_14, ↓u34_16, ↓u34_18, ↓u34_21, ↓u34_22, ↓u34_25, ↓u34_26, ↓u34_29, ↓u34_30, ↓u34_34, ↓u34_37, ↓u34_41, ↓u34_46, ↓u34_49, ↓u34_50, ↓u34_53, ↓u34_54, ↓u34_55, ↓u34_58, ↓u34_61, ↓u34_62, ↓u34_65, ↓u34_66, ↓u34_68, ↓u34_71, ↓u34_74, ↓u34_75, ↓u34_78, ↓u34_79, ↓u34_81, ↓u34_84, ↓u34_87, ↓u34_88, ↓u34_89, ↓u34_92, ↓u34_93, ↓u34_94, ↓u34_97, ↓u34_98, ↓u34_99, ↓u34_102, ↓v34_7, ↓v34_33, ↓v34_44, ↓lI_0, ↓lI_s, ↓lL_0, ↓lL_s, ↓lR_0, ↓lR_s, ↓sT_0, ↓sT_i, ↓sT_r, ↓sT_u, ↓sT_lu, ↓sU_0, ↓sU_i, ↓sU_r, ↓sU_u, ↓ite_bx, bx_T, bx_F, bx_pos, bx_neg, zws_i, zws_r, zws_l, zws_n, zCb_kc, xl_ll, xr_rr, xs_e, xset_e, Option.toList, List.cons_append, List.nil_append, zIb_e, zrng_e, nz_e, if_pos, if_neg, and_true, true_and, or_true, true_or, ite_self, bi_eq0, bi_eq1, bi_1, bi_0, bi_ir, bi_T, bi_F, up_eq, up_ne, ↓reduceIte, reduceIte, Nat.reduceAdd, Nat.reduceLeDiff, Nat.le_refl, Nat.zero_le, not_true_eq_false, not_false_eq_true, ne_eq, Int.reduceEq, Int.reduceLT, Int.reduceLE, Int.reduceAdd, Int.reduceSub, Int.reduceMul, Int.reduceNeg, xnew_e, xref_e, xmul_e, xn_e, nG_n, rG_n, mG_n, kc_rG, kc_nG, kc_nGT, kc_mG, kc_mGT, ll_rG, ll_nG, ll_nGy, rr_rGy, rr_rG, rr_nG, lt_x, nS_n, nS_y]
  | succ j ih =>
    intro i G s h1 h2 hn k1 k2 k3 k4 k5
    have hn1 : ((G.1.1 + 1 : Nat) : Int) = W + 2 + (i + 1) := by omega
    have q1 : kc (rG (nG G 0 0 9) (W + 1) i (W + 2 + i)) W 4 := by simp (disch := first | omega | (simp only [nG_n, rG_n, mG_n]; omega)) only [nG_n, rG_n, mG_n, kc_rG, kc_nG, kc_nGT, kc_mG, kc_mGT, ll_rG, ll_nG, ll_nGy, ll_mG, ll_mGy, rr_rGy, rr_rG, rr_nG, rr_mG, rr_mGy, nS_n, nS_y, mS_n, mS_y, up_eq, up_ne, kd_rG, kd_nG, kd_mG, pT k1]
    have q2 : rr (rG (nG G 0 0 9) (W + 1) i (W + 2 + i)) W 0 = W + 1 := by simp (disch := first | omega | (simp only [nG_n, rG_n, mG_n]; omega)) only [nG_n, rG_n, mG_n, kc_rG, kc_nG, kc_nGT, kc_mG, kc_mGT, ll_rG, ll_nG, ll_nGy, ll_mG, ll_mGy, rr_rGy, rr_rG, rr_nG, rr_mG, rr_mGy, nS_n, nS_y, mS_n, mS_y, up_eq, up_ne, kd_rG, kd_nG, kd_mG, k2]
    have q3 : kc (rG (nG G 0 0 9) (W + 1) i (W + 2 + i)) (W + 1) 10 := by simp (disch := first | omega | (simp only [nG_n, rG_n, mG_n]; omega)) only [nG_n, rG_n, mG_n, kc_rG, kc_nG, kc_nGT, kc_mG, kc_mGT, ll_rG, ll_nG, ll_nGy, ll_mG, ll_mGy, rr_rGy, rr_rG, rr_nG, rr_mG, rr_mGy, nS_n, nS_y, mS_n, mS_y, up_eq, up_ne, kd_rG, kd_nG, kd_mG, pT k3]
    have q4 : ll (rG (nG G 0 0 9) (W + 1) i (W + 2 + i)) (W + 1) = 40 := by simp (disch := first | omega | (simp only [nG_n, rG_n, mG_n]; omega)) only [nG_n, rG_n, mG_n, kc_rG, kc_nG, kc_nGT, kc_mG, kc_mGT, ll_rG, ll_nG, ll_nGy, ll_mG, ll_mGy, rr_rGy, rr_rG, rr_nG, rr_mG, rr_mGy, nS_n, nS_y, mS_n, mS_y, up_eq, up_ne, kd_rG, kd_nG, kd_mG, k4]
    obtain ⟨G2, s2, f1, f2, f3, f4, f5, f6, e⟩ := ih (i + 1) (rG (nG G 0 0 9) (W + 1) i (W + 2 + i)) (nS s (W + 2 + i)) (by omega) (by omega) hn1 q1 q2 q3 q4 (fun c hc => by
      by_cases e : c = i
      · rw [e]
        exact ⟨rr_rGy ⟨rfl, rfl⟩, kc_nGy (G := G) (kd := 0) (sl := 9) (sz := 0) (by omega)⟩
      · have := k5 c (by omega)
        rw [rr_rG (by omega), rr_nG (by omega), kc_rG, kc_nG (by omega)]
        exact this)
    rw [rG_z, nG_z] at f2
    have sm : ∀ a, a ≠ W + 1 → a ≠ W + 2 + i → SM G s (rG (nG G 0 0 9) (W + 1) i (W + 2 + i)) (nS s (W + 2 + i)) a := fun a ha hb => by
      have e2 := SM_n (G := G) (s := s) (kd := 0) (sl := 9) (sz := 0) (a := a) (by omega)
      rw [hn] at e2
      exact SM_t e2 (SM_r ha)
    refine ⟨G2, s2, f1, by omega, fun a ha hb => SM_t (sm a ha (by omega)) (f3 a ha (by omega)), f4, f5, f6, fun Q => ?_⟩
    have h0 : (0 ≤ W + 2 + i) = True := pT (by omega)
    rw [u34_15]
    simp (disch := first | omega | exact rfl | (simp only [nG_n, rG_n, mG_n]; omega)) only [↓u34_0, ↓u34_1, ↓u34_4, ↓u34_5, ↓u34_10, ↓u34_13, ↓u34_14, ↓u34_16, ↓u34_18, ↓u34_21, ↓u34_22, ↓u34_25, ↓u34_26, ↓u34_29, ↓u34_30, ↓u34_34, ↓u34_37, ↓u34_41, ↓u34_46, ↓u34_49, ↓u34_50, ↓u34_53, ↓u34_54, ↓u34_55, ↓u34_58, ↓u34_61, ↓u34_62, ↓u34_65, ↓u34_66, ↓u34_68, ↓u34_71, ↓u34_74, ↓u34_75, ↓u34_78, ↓u34_79, ↓u34_81, ↓u34_84, ↓u34_87, ↓u34_88, ↓u34_89, ↓u34_92, ↓u34_93, ↓u34_94, ↓u34_97, ↓u34_98, ↓u34_99, ↓u34_102, ↓v34_7, ↓v34_33, ↓v34_44, ↓lI_0, ↓lI_s, ↓lL_0, ↓lL_s, ↓lR_0, ↓lR_s, ↓sT_0, ↓sT_i, ↓sT_r, ↓sT_u, ↓sT_lu, ↓sU_0, ↓sU_i, ↓sU_r, ↓sU_u, ↓ite_bx, bx_T, bx_F, bx_pos, bx_neg, zws_i, zws_r, zws_l, zws_n, zCb_kc, xl_ll, xr_rr, xs_e, xset_e, Option.toList, List.cons_append, List.nil_append, zIb_e, zrng_e, nz_e, if_pos, if_neg, and_true, true_and, or_true, true_or, ite_self, bi_eq0, bi_eq1, bi_1, bi_0, bi_ir, bi_T, bi_F, up_eq, up_ne, ↓reduceIte, reduceIte, Nat.reduceAdd, Nat.reduceLeDiff, Nat.le_refl, Nat.zero_le, not_true_eq_false, not_false_eq_true, ne_eq, Int.reduceEq, Int.reduceLT, Int.reduceLE, Int.reduceAdd, Int.reduceSub, Int.reduceMul, Int.reduceNeg, xnew_e, xref_e, xmul_e, xn_e, nG_n, rG_n, mG_n, kc_rG, kc_nG, kc_nGT, kc_mG, kc_mGT, ll_rG, ll_nG, ll_nGy, rr_rGy, rr_rG, rr_nG, lt_x, nS_n, nS_y, hn, pT k1, k2, pT k3, k4, h0, c0_box (show 1 ≤ d - 1 by omega), e]
set_option maxRecDepth 8000 in
theorem b34_49 {d : Nat} {G : XS} {s : ZS} {W n : Int} (hd : 2 ≤ d) (hW : 0 ≤ W ∧ W < n) (h1 : n ≤ 900) (hn : (G.1.1 : Int) = n) (hk : kc G W 4) : ∃ G2 s2, (G2.1.1 : Int) = n + 2 ∧ G2.1.2 ≤ G.1.2 + 33 ∧ (∀ a, a ≠ W → a ≠ n → a ≠ n + 1 → SM G s G2 s2 a) ∧ (kc G2 n 2 ∧ rr G2 n 0 = n + 1 ∧ kc G2 (n + 1) 7 ∧ ll G2 (n + 1) = 15) ∧ (s2 n 1 = 5 ∧ s2 n 2 = 0) ∧ (kc G2 W 4 ∧ rr G2 W 2 = n ∧ (∀ j, j ≠ 2 → rr G2 W j = rr G W j) ∧ ∀ j, s2 W j = s W j) ∧ ∀ Q, Wp (d - 1) 34 (49, [zrf W, zint 40], [], (G, s)) Q = Wp (d - 1) 34 (61, [zrf W, zint 40], [], (G2, s2)) Q := by
  have hn1 : ((G.1.1 + 1 : Nat) : Int) = n + 1 := by omega
  obtain ⟨G3, s3, f1, f2, f3, f4, f5, f6, f7, f8, f9, e⟩ := c26 (d := d - 1) (G := nG G 2 0 3) (s := nS s n) (o := n) (n := n + 1) (m := 5) (by omega) (kc_nGy (by omega)) (by rw [nG_n]; omega) (by omega) (by omega) (by omega)
  rw [nG_z] at f2
  have s0 : ∀ a, a ≠ n → SM G s (nG G 2 0 3) (nS s n) a := fun a ha => by
    have e2 := SM_n (G := G) (s := s) (kd := 2) (sl := 3) (sz := 0) (a := a) (by omega)
    rw [hn] at e2
    exact e2
  have sW := SM_t (s0 W (by omega)) (f3 W (by omega) (by omega))
  have kW : kc G3 W 4 := SM_k sW hk (by omega)
  refine ⟨rG G3 W 2 n, s3, by rw [rG_n]; omega, by rw [rG_z]; omega, fun a ha hb hc => SM_t (SM_t (s0 a hb) (f3 a hb hc)) (SM_r ha), ⟨f4, ?_, f6, ?_⟩, ⟨f8, f9⟩, ⟨kW, rr_rGy ⟨rfl, rfl⟩, fun j hj => ?_, fun j => sW.2.2.2 j⟩, fun Q => ?_⟩
  · rw [rr_rG (by omega)]; exact f5
  · rw [ll_rG, f7]; rfl
  · rw [rr_rG (Or.inr hj)]; exact sW.2.2.1 j
  · have h0 : (0 ≤ n) = True := pT (by omega)
    have kk : kc (nG G 2 0 3) W 4 := by simp (disch := first | omega | (simp only [nG_n, rG_n, mG_n]; omega)) only [nG_n, rG_n, mG_n, kc_rG, kc_nG, kc_nGT, kc_mG, kc_mGT, ll_rG, ll_nG, ll_nGy, ll_mG, ll_mGy, rr_rGy, rr_rG, rr_nG, rr_mG, rr_mGy, nS_n, nS_y, mS_n, mS_y, up_eq, up_ne, kd_rG, kd_nG, kd_mG, pT hk]
    simp (disch := first | omega | exact rfl | (simp only [nG_n, rG_n, mG_n]; omega)) only [↓u34_0, ↓u34_1, ↓u34_4, ↓u34_5, ↓u34_10, ↓u34_13, ↓u34_14, ↓u34_16, ↓u34_18, ↓u34_21, ↓u34_22, ↓u34_25, ↓u34_26, ↓u34_29, ↓u34_30, ↓u34_34, ↓u34_37, ↓u34_41, ↓u34_46, ↓u34_49, ↓u34_50, ↓u34_53, ↓u34_54, ↓u34_55, ↓u34_58, ↓u34_62, ↓u34_65, ↓u34_66, ↓u34_68, ↓u34_71, ↓u34_74, ↓u34_75, ↓u34_78, ↓u34_79, ↓u34_81, ↓u34_84, ↓u34_87, ↓u34_88, ↓u34_89, ↓u34_92, ↓u34_93, ↓u34_94, ↓u34_97, ↓u34_98, ↓u34_99, ↓u34_102, ↓v34_7, ↓v34_33, ↓v34_44, ↓lI_0, ↓lI_s, ↓lL_0, ↓lL_s, ↓lR_0, ↓lR_s, ↓sT_0, ↓sT_i, ↓sT_r, ↓sT_u, ↓sT_lu, ↓sU_0, ↓sU_i, ↓sU_r, ↓sU_u, ↓ite_bx, bx_T, bx_F, bx_pos, bx_neg, zws_i, zws_r, zws_l, zws_n, zCb_kc, xl_ll, xr_rr, xs_e, xset_e, Option.toList, List.cons_append, List.nil_append, zIb_e, zrng_e, nz_e, if_pos, if_neg, and_true, true_and, or_true, true_or, ite_self, bi_eq0, bi_eq1, bi_1, bi_0, bi_ir, bi_T, bi_F, up_eq, up_ne, ↓reduceIte, reduceIte, Nat.reduceAdd, Nat.reduceLeDiff, Nat.le_refl, Nat.zero_le, not_true_eq_false, not_false_eq_true, ne_eq, Int.reduceEq, Int.reduceLT, Int.reduceLE, Int.reduceAdd, Int.reduceSub, Int.reduceMul, Int.reduceNeg, xnew_e, xref_e, xmul_e, xn_e, nG_n, rG_n, mG_n, kc_rG, kc_nG, kc_nGT, kc_mG, kc_mGT, ll_rG, ll_nG, ll_nGy, rr_rGy, rr_rG, rr_nG, lt_x, nS_n, nS_y, hn, pT kW, h0, e]
set_option maxRecDepth 8000 in
theorem b34_61 {d : Nat} {G : XS} {s : ZS} {W n : Int} (hd : 2 ≤ d) (hW : 0 ≤ W ∧ W < n) (h1 : n ≤ 900) (hn : (G.1.1 : Int) = n) (hk : kc G W 4) : ∃ G2 s2, (G2.1.1 : Int) = n + 2 ∧ G2.1.2 ≤ G.1.2 + 33 ∧ (∀ a, a ≠ W → a ≠ n → a ≠ n + 1 → SM G s G2 s2 a) ∧ (kc G2 n 2 ∧ rr G2 n 0 = n + 1 ∧ kc G2 (n + 1) 7 ∧ ll G2 (n + 1) = 30) ∧ (s2 n 1 = 10 ∧ s2 n 2 = 0) ∧ (kc G2 W 4 ∧ rr G2 W 3 = n ∧ (∀ j, j ≠ 3 → rr G2 W j = rr G W j) ∧ ∀ j, s2 W j = s W j) ∧ ∀ Q, Wp (d - 1) 34 (61, [zrf W, zint 40], [], (G, s)) Q = Wp (d - 1) 34 (74, [zrf W, zint 40], [], (G2, s2)) Q := by
  have hn1 : ((G.1.1 + 1 : Nat) : Int) = n + 1 := by omega
  obtain ⟨G3, s3, f1, f2, f3, f4, f5, f6, f7, f8, f9, e⟩ := c26 (d := d - 1) (G := nG G 2 0 3) (s := nS s n) (o := n) (n := n + 1) (m := 10) (by omega) (kc_nGy (by omega)) (by rw [nG_n]; omega) (by omega) (by omega) (by omega)
  rw [nG_z] at f2
  have s0 : ∀ a, a ≠ n → SM G s (nG G 2 0 3) (nS s n) a := fun a ha => by
    have e2 := SM_n (G := G) (s := s) (kd := 2) (sl := 3) (sz := 0) (a := a) (by omega)
    rw [hn] at e2
    exact e2
  have sW := SM_t (s0 W (by omega)) (f3 W (by omega) (by omega))
  have kW : kc G3 W 4 := SM_k sW hk (by omega)
  refine ⟨rG G3 W 3 n, s3, by rw [rG_n]; omega, by rw [rG_z]; omega, fun a ha hb hc => SM_t (SM_t (s0 a hb) (f3 a hb hc)) (SM_r ha), ⟨f4, ?_, f6, ?_⟩, ⟨f8, f9⟩, ⟨kW, rr_rGy ⟨rfl, rfl⟩, fun j hj => ?_, fun j => sW.2.2.2 j⟩, fun Q => ?_⟩
  · rw [rr_rG (by omega)]; exact f5
  · rw [ll_rG, f7]; rfl
  · rw [rr_rG (Or.inr hj)]; exact sW.2.2.1 j
  · have h0 : (0 ≤ n) = True := pT (by omega)
    have kk : kc (nG G 2 0 3) W 4 := by simp (disch := first | omega | (simp only [nG_n, rG_n, mG_n]; omega)) only [nG_n, rG_n, mG_n, kc_rG, kc_nG, kc_nGT, kc_mG, kc_mGT, ll_rG, ll_nG, ll_nGy, ll_mG, ll_mGy, rr_rGy, rr_rG, rr_nG, rr_mG, rr_mGy, nS_n, nS_y, mS_n, mS_y, up_eq, up_ne, kd_rG, kd_nG, kd_mG, pT hk]
    simp (disch := first | omega | exact rfl | (simp only [nG_n, rG_n, mG_n]; omega)) only [↓u34_0, ↓u34_1, ↓u34_4, ↓u34_5, ↓u34_10, ↓u34_13, ↓u34_14, ↓u34_16, ↓u34_18, ↓u34_21, ↓u34_22, ↓u34_25, ↓u34_26, ↓u34_29, ↓u34_30, ↓u34_34, ↓u34_37, ↓u34_41, ↓u34_46, ↓u34_49, ↓u34_50, ↓u34_53, ↓u34_54, ↓u34_55, ↓u34_58, ↓u34_61, ↓u34_62, ↓u34_65, ↓u34_66, ↓u34_68, ↓u34_71, ↓u34_75, ↓u34_78, ↓u34_79, ↓u34_81, ↓u34_84, ↓u34_87, ↓u34_88, ↓u34_89, ↓u34_92, ↓u34_93, ↓u34_94, ↓u34_97, ↓u34_98, ↓u34_99, ↓u34_102, ↓v34_7, ↓v34_33, ↓v34_44, ↓lI_0, ↓lI_s, ↓lL_0, ↓lL_s, ↓lR_0, ↓lR_s, ↓sT_0, ↓sT_i, ↓sT_r, ↓sT_u, ↓sT_lu, ↓sU_0, ↓sU_i, ↓sU_r, ↓sU_u, ↓ite_bx, bx_T, bx_F, bx_pos, bx_neg, zws_i, zws_r, zws_l, zws_n, zCb_kc, xl_ll, xr_rr, xs_e, xset_e, Option.toList, List.cons_append, List.nil_append, zIb_e, zrng_e, nz_e, if_pos, if_neg, and_true, true_and, or_true, true_or, ite_self, bi_eq0, bi_eq1, bi_1, bi_0, bi_ir, bi_T, bi_F, up_eq, up_ne, ↓reduceIte, reduceIte, Nat.reduceAdd, Nat.reduceLeDiff, Nat.le_refl, Nat.zero_le, not_true_eq_false, not_false_eq_true, ne_eq, Int.reduceEq, Int.reduceLT, Int.reduceLE, Int.reduceAdd, Int.reduceSub, Int.reduceMul, Int.reduceNeg, xnew_e, xref_e, xmul_e, xn_e, nG_n, rG_n, mG_n, kc_rG, kc_nG, kc_nGT, kc_mG, kc_mGT, ll_rG, ll_nG, ll_nGy, rr_rGy, rr_rG, rr_nG, lt_x, nS_n, nS_y, hn, pT kW, h0, e]
set_option maxRecDepth 8000 in
theorem b34_74 {d : Nat} {G : XS} {s : ZS} {W n : Int} (hd : 2 ≤ d) (hW : 0 ≤ W ∧ W < n) (h1 : n ≤ 900) (hn : (G.1.1 : Int) = n) (hk : kc G W 4) : ∃ G2 s2, (G2.1.1 : Int) = n + 2 ∧ G2.1.2 ≤ G.1.2 + 33 ∧ (∀ a, a ≠ W → a ≠ n → a ≠ n + 1 → SM G s G2 s2 a) ∧ (kc G2 n 2 ∧ rr G2 n 0 = n + 1 ∧ kc G2 (n + 1) 7 ∧ ll G2 (n + 1) = 24) ∧ (s2 n 1 = 8 ∧ s2 n 2 = 0) ∧ (kc G2 W 4 ∧ rr G2 W 4 = n ∧ (∀ j, j ≠ 4 → rr G2 W j = rr G W j) ∧ ∀ j, s2 W j = s W j) ∧ ∀ Q, Wp (d - 1) 34 (74, [zrf W, zint 40], [], (G, s)) Q = Wp (d - 1) 34 (87, [zrf W, zint 40], [], (G2, s2)) Q := by
  have hn1 : ((G.1.1 + 1 : Nat) : Int) = n + 1 := by omega
  obtain ⟨G3, s3, f1, f2, f3, f4, f5, f6, f7, f8, f9, e⟩ := c26 (d := d - 1) (G := nG G 2 0 3) (s := nS s n) (o := n) (n := n + 1) (m := 8) (by omega) (kc_nGy (by omega)) (by rw [nG_n]; omega) (by omega) (by omega) (by omega)
  rw [nG_z] at f2
  have s0 : ∀ a, a ≠ n → SM G s (nG G 2 0 3) (nS s n) a := fun a ha => by
    have e2 := SM_n (G := G) (s := s) (kd := 2) (sl := 3) (sz := 0) (a := a) (by omega)
    rw [hn] at e2
    exact e2
  have sW := SM_t (s0 W (by omega)) (f3 W (by omega) (by omega))
  have kW : kc G3 W 4 := SM_k sW hk (by omega)
  refine ⟨rG G3 W 4 n, s3, by rw [rG_n]; omega, by rw [rG_z]; omega, fun a ha hb hc => SM_t (SM_t (s0 a hb) (f3 a hb hc)) (SM_r ha), ⟨f4, ?_, f6, ?_⟩, ⟨f8, f9⟩, ⟨kW, rr_rGy ⟨rfl, rfl⟩, fun j hj => ?_, fun j => sW.2.2.2 j⟩, fun Q => ?_⟩
  · rw [rr_rG (by omega)]; exact f5
  · rw [ll_rG, f7]; rfl
  · rw [rr_rG (Or.inr hj)]; exact sW.2.2.1 j
  · have h0 : (0 ≤ n) = True := pT (by omega)
    have kk : kc (nG G 2 0 3) W 4 := by simp (disch := first | omega | (simp only [nG_n, rG_n, mG_n]; omega)) only [nG_n, rG_n, mG_n, kc_rG, kc_nG, kc_nGT, kc_mG, kc_mGT, ll_rG, ll_nG, ll_nGy, ll_mG, ll_mGy, rr_rGy, rr_rG, rr_nG, rr_mG, rr_mGy, nS_n, nS_y, mS_n, mS_y, up_eq, up_ne, kd_rG, kd_nG, kd_mG, pT hk]
    simp (disch := first | omega | exact rfl | (simp only [nG_n, rG_n, mG_n]; omega)) only [↓u34_0, ↓u34_1, ↓u34_4, ↓u34_5, ↓u34_10, ↓u34_13, ↓u34_14, ↓u34_16, ↓u34_18, ↓u34_21, ↓u34_22, ↓u34_25, ↓u34_26, ↓u34_29, ↓u34_30, ↓u34_34, ↓u34_37, ↓u34_41, ↓u34_46, ↓u34_49, ↓u34_50, ↓u34_53, ↓u34_54, ↓u34_55, ↓u34_58, ↓u34_61, ↓u34_62, ↓u34_65, ↓u34_66, ↓u34_68, ↓u34_71, ↓u34_74, ↓u34_75, ↓u34_78, ↓u34_79, ↓u34_81, ↓u34_84, ↓u34_88, ↓u34_89, ↓u34_92, ↓u34_93, ↓u34_94, ↓u34_97, ↓u34_98, ↓u34_99, ↓u34_102, ↓v34_7, ↓v34_33, ↓v34_44, ↓lI_0, ↓lI_s, ↓lL_0, ↓lL_s, ↓lR_0, ↓lR_s, ↓sT_0, ↓sT_i, ↓sT_r, ↓sT_u, ↓sT_lu, ↓sU_0, ↓sU_i, ↓sU_r, ↓sU_u, ↓ite_bx, bx_T, bx_F, bx_pos, bx_neg, zws_i, zws_r, zws_l, zws_n, zCb_kc, xl_ll, xr_rr, xs_e, xset_e, Option.toList, List.cons_append, List.nil_append, zIb_e, zrng_e, nz_e, if_pos, if_neg, and_true, true_and, or_true, true_or, ite_self, bi_eq0, bi_eq1, bi_1, bi_0, bi_ir, bi_T, bi_F, up_eq, up_ne, ↓reduceIte, reduceIte, Nat.reduceAdd, Nat.reduceLeDiff, Nat.le_refl, Nat.zero_le, not_true_eq_false, not_false_eq_true, ne_eq, Int.reduceEq, Int.reduceLT, Int.reduceLE, Int.reduceAdd, Int.reduceSub, Int.reduceMul, Int.reduceNeg, xnew_e, xref_e, xmul_e, xn_e, nG_n, rG_n, mG_n, kc_rG, kc_nG, kc_nGT, kc_mG, kc_mGT, ll_rG, ll_nG, ll_nGy, rr_rGy, rr_rG, rr_nG, lt_x, nS_n, nS_y, hn, pT kW, h0, e]
def NEW (s : ZS) (W : Int) : Prop := (s W 5 = 0 ∧ s W 6 = 0 ∧ s W 7 = 3) ∧ LIM s W ∧ s (W + 43) 2 = 0 ∧ s (W + 45) 2 = 0 ∧ s (W + 47) 2 = 0
def BLK (G : XS) (s : ZS) (n l m : Int) : Prop := (kc G n 2 ∧ rr G n 0 = n + 1 ∧ kc G (n + 1) 7 ∧ ll G (n + 1) = l) ∧ s n 1 = m ∧ s n 2 = 0
set_option maxRecDepth 8000 in
theorem BLK_k {G G2 : XS} {s s2 : ZS} {n l m : Int} (h : BLK G s n l m) (h1 : SM G s G2 s2 n) (h2 : SM G s G2 s2 (n + 1)) (hn : G.1.1 ≤ G2.1.1) : BLK G2 s2 n l m :=
  ⟨⟨SM_k h1 h.1.1 hn, (h1.2.2.1 0).trans h.1.2.1, SM_k h2 h.1.2.2.1 hn, h2.2.1.trans h.1.2.2.2⟩, (h1.2.2.2 1).trans h.2.1, (h1.2.2.2 2).trans h.2.2⟩
def WFR (G : XS) (s : ZS) (G2 : XS) (s2 : ZS) (W f n : Int) : Prop := kc G2 W 4 ∧ rr G2 W f = n ∧ (∀ j, j ≠ f → rr G2 W j = rr G W j) ∧ ∀ j, s2 W j = s W j
def WC (G : XS) (W : Int) : Prop := kc G (W + 1) 10 ∧ ll G (W + 1) = 40 ∧ (∀ i, 0 ≤ i ∧ i < 40 → rr G (W + 1) i = W + 2 + i ∧ kc G (W + 2 + i) 0) ∧ kc G (W + 42) 7 ∧ ll G (W + 42) = 256
set_option maxRecDepth 8000 in
theorem WC_k {G G2 : XS} {s s2 : ZS} {W : Int} (h : WC G W) (hs : ∀ a, W + 1 ≤ a ∧ a ≤ W + 42 → SM G s G2 s2 a) (hn : G.1.1 ≤ G2.1.1) : WC G2 W := by
  obtain ⟨h1, h2, h3, h4, h5⟩ := h
  have e1 := hs (W + 1) ⟨Int.le_refl _, by clear h2 h5; omega⟩
  have e2 := hs (W + 42) ⟨by clear h2 h5; omega, Int.le_refl _⟩
  refine ⟨SM_k e1 h1 hn, e1.2.1.trans h2, fun i hi => ⟨(e1.2.2.1 i).trans (h3 i hi).1, SM_k (hs (W + 2 + i) (by clear h2 h5; omega)) (h3 i hi).2 hn⟩, SM_k e2 h4 hn, e2.2.1.trans h5⟩
set_option maxRecDepth 8000 in
theorem b34_x {d : Nat} {G : XS} {s : ZS} {W n : Int} (hd : 2 ≤ d) (hW : 0 ≤ W ∧ W < n) (h1 : n ≤ 900) (hn : (G.1.1 : Int) = n) (hk : kc G W 4) : ∃ G2 s2, ((G2.1.1 : Int) = n + 2 ∧ G2.1.2 ≤ G.1.2 + 33) ∧ (∀ a, a ≠ W → a ≠ n → a ≠ n + 1 → SM G s G2 s2 a) ∧ BLK G2 s2 n 15 5 ∧ WFR G s G2 s2 W 2 n ∧ ∀ Q, Wp (d - 1) 34 (49, [zrf W, zint 40], [], (G, s)) Q = Wp (d - 1) 34 (61, [zrf W, zint 40], [], (G2, s2)) Q := by
  obtain ⟨G2, s2, a1, a2, a3, a4, a5, a6, a7⟩ := b34_49 (d := d) (G := G) (s := s) hd hW h1 hn hk
  exact ⟨G2, s2, ⟨a1, a2⟩, a3, ⟨a4, a5⟩, a6, a7⟩
set_option maxRecDepth 8000 in
theorem b34_y {d : Nat} {G : XS} {s : ZS} {W n : Int} (hd : 2 ≤ d) (hW : 0 ≤ W ∧ W < n) (h1 : n ≤ 900) (hn : (G.1.1 : Int) = n) (hk : kc G W 4) : ∃ G2 s2, ((G2.1.1 : Int) = n + 2 ∧ G2.1.2 ≤ G.1.2 + 33) ∧ (∀ a, a ≠ W → a ≠ n → a ≠ n + 1 → SM G s G2 s2 a) ∧ BLK G2 s2 n 30 10 ∧ WFR G s G2 s2 W 3 n ∧ ∀ Q, Wp (d - 1) 34 (61, [zrf W, zint 40], [], (G, s)) Q = Wp (d - 1) 34 (74, [zrf W, zint 40], [], (G2, s2)) Q := by
  obtain ⟨G2, s2, a1, a2, a3, a4, a5, a6, a7⟩ := b34_61 (d := d) (G := G) (s := s) hd hW h1 hn hk
  exact ⟨G2, s2, ⟨a1, a2⟩, a3, ⟨a4, a5⟩, a6, a7⟩
set_option maxRecDepth 8000 in
theorem b34_z {d : Nat} {G : XS} {s : ZS} {W n : Int} (hd : 2 ≤ d) (hW : 0 ≤ W ∧ W < n) (h1 : n ≤ 900) (hn : (G.1.1 : Int) = n) (hk : kc G W 4) : ∃ G2 s2, ((G2.1.1 : Int) = n + 2 ∧ G2.1.2 ≤ G.1.2 + 33) ∧ (∀ a, a ≠ W → a ≠ n → a ≠ n + 1 → SM G s G2 s2 a) ∧ BLK G2 s2 n 24 8 ∧ WFR G s G2 s2 W 4 n ∧ ∀ Q, Wp (d - 1) 34 (74, [zrf W, zint 40], [], (G, s)) Q = Wp (d - 1) 34 (87, [zrf W, zint 40], [], (G2, s2)) Q := by
  obtain ⟨G2, s2, a1, a2, a3, a4, a5, a6, a7⟩ := b34_74 (d := d) (G := G) (s := s) hd hW h1 hn hk
  exact ⟨G2, s2, ⟨a1, a2⟩, a3, ⟨a4, a5⟩, a6, a7⟩
set_option maxRecDepth 8000 in
theorem c34_1 {d : Nat} {G : XS} {s : ZS} {W : Int} (hd : 3 ≤ d) (hk : kc G W 4) (hn : (G.1.1 : Int) = W + 1) (hW : 0 ≤ W ∧ W ≤ 500) : ∃ G2 s2, ((G2.1.1 : Int) = W + 43 ∧ G2.1.2 ≤ G.1.2 + 660) ∧ (∀ a, (a < W ∨ W + 43 ≤ a) → SM G s G2 s2 a) ∧ (kc G2 W 4 ∧ rr G2 W 0 = W + 1 ∧ rr G2 W 1 = W + 42) ∧ WC G2 W ∧ ∀ Q, Call d 34 [zrf W] (G, s) Q = Wp (d - 1) 34 (49, [zrf W, zint 40], [], (G2, s2)) Q := by
  have h0 : (0 ≤ W) = True := pT hW.1
  obtain ⟨G1, hG1⟩ : ∃ G1, G1 = rG (nG G 10 40 (40 : Int).toNat) W 0 (W + 1) := ⟨_, rfl⟩
  have a1 : (G1.1.1 : Int) = W + 2 + 0 := by rw [hG1, rG_n, nG_n]; omega
  have a2 : G1.1.2 = G.1.2 + 40 := by rw [hG1, rG_z, nG_z]; rfl
  have a3 : kc G1 W 4 := by
    rw [hG1]
    simp (disch := first | omega | (simp only [nG_n, rG_n, mG_n]; omega)) only [nG_n, rG_n, mG_n, kc_rG, kc_nG, kc_nGT, kc_mG, kc_mGT, ll_rG, ll_nG, ll_nGy, ll_mG, ll_mGy, rr_rGy, rr_rG, rr_nG, rr_mG, rr_mGy, nS_n, nS_y, mS_n, mS_y, up_eq, up_ne, kd_rG, kd_nG, kd_mG, pT hk]
  have a4 : rr G1 W 0 = W + 1 := by rw [hG1]; exact rr_rGy ⟨rfl, rfl⟩
  have a5 : kc G1 (W + 1) 10 := by rw [hG1, kc_rG]; exact kc_nGy (by omega)
  have a6 : ll G1 (W + 1) = 40 := by rw [hG1, ll_rG]; exact ll_nGy (by omega)
  have sm1 : ∀ a, a ≠ W → a ≠ W + 1 → SM G s G1 (nS s (W + 1)) a := fun a ha hb => by
    have e2 := SM_n (G := G) (s := s) (kd := 10) (sl := (40 : Int).toNat) (sz := 40) (a := a) (by omega)
    rw [hn] at e2
    rw [hG1]
    exact SM_t e2 (SM_r ha)
  obtain ⟨G2, s2, b1, b2, b3, b4, b5, b6, e2⟩ := l34 (d := d) (W := W) (by omega) hW 40 0 G1 (nS s (W + 1)) (by omega) (Int.le_refl 0) a1 a3 a4 a5 a6 (fun c hc => by omega)
  have smW := b3 W (by omega) (by omega)
  have k2 : kc G2 W 4 := SM_k smW a3 (by omega)
  refine ⟨rG (nG G2 7 256 (256 : Int).toNat) W 1 (W + 42), nS s2 (W + 42), ⟨by rw [rG_n, nG_n]; omega, ?_⟩, fun a ha => ?_, ⟨?_, ?_, rr_rGy ⟨rfl, rfl⟩⟩, ⟨?_, ?_, fun i hi => ⟨?_, ?_⟩, ?_, ?_⟩, fun Q => ?_⟩
  · rw [rG_z, nG_z, show (256 : Int).toNat = 256 from rfl]; omega
  · have e3 := SM_n (G := G2) (s := s2) (kd := 7) (sl := (256 : Int).toNat) (sz := 256) (a := a) (by omega)
    rw [b1] at e3
    exact SM_t (SM_t (SM_t (sm1 a (by omega) (by omega)) (b3 a (by omega) (by omega))) e3) (SM_r (by omega))
  · rw [kc_rG, kc_nG (by omega)]; exact k2
  · rw [rr_rG (by omega), rr_nG (by omega), smW.2.2.1 0]; exact a4
  · rw [kc_rG, kc_nG (by omega)]; exact b4
  · rw [ll_rG, ll_nG (by omega)]; exact b5
  · rw [rr_rG (by omega), rr_nG (by omega)]; exact (b6 i hi).1
  · rw [kc_rG, kc_nG (by omega)]; exact (b6 i hi).2
  · rw [kc_rG]; exact kc_nGy (by omega)
  · rw [ll_rG]; exact ll_nGy (by omega)
  · rw [e34 (show 1 ≤ d by omega)]
    simp (disch := first | omega | exact rfl | (simp only [nG_n, rG_n, mG_n]; omega)) only [↓u34_0, ↓u34_1, ↓u34_4, ↓u34_5, ↓u34_10, ↓u34_13, ↓u34_14, ↓u34_16, ↓u34_18, ↓u34_21, ↓u34_22, ↓u34_25, ↓u34_26, ↓u34_29, ↓u34_30, ↓u34_34, ↓u34_37, ↓u34_41, ↓u34_46, ↓u34_50, ↓u34_53, ↓u34_54, ↓u34_55, ↓u34_58, ↓u34_62, ↓u34_65, ↓u34_66, ↓u34_68, ↓u34_71, ↓u34_75, ↓u34_78, ↓u34_79, ↓u34_81, ↓u34_84, ↓u34_88, ↓u34_89, ↓u34_92, ↓u34_93, ↓u34_94, ↓u34_97, ↓u34_98, ↓u34_99, ↓u34_102, ↓v34_7, ↓v34_33, ↓v34_44, ↓lI_0, ↓lI_s, ↓lL_0, ↓lL_s, ↓lR_0, ↓lR_s, ↓sT_0, ↓sT_i, ↓sT_r, ↓sT_u, ↓sT_lu, ↓sU_0, ↓sU_i, ↓sU_r, ↓sU_u, ↓ite_bx, bx_T, bx_F, bx_pos, bx_neg, zws_i, zws_r, zws_l, zws_n, zCb_kc, xl_ll, xr_rr, xs_e, xset_e, Option.toList, List.cons_append, List.nil_append, zIb_e, zrng_e, nz_e, if_pos, if_neg, and_true, true_and, or_true, true_or, ite_self, bi_eq0, bi_eq1, bi_1, bi_0, bi_ir, bi_T, bi_F, up_eq, up_ne, ↓reduceIte, reduceIte, Nat.reduceAdd, Nat.reduceLeDiff, Nat.le_refl, Nat.zero_le, not_true_eq_false, not_false_eq_true, ne_eq, Int.reduceEq, Int.reduceLT, Int.reduceLE, Int.reduceAdd, Int.reduceSub, Int.reduceMul, Int.reduceNeg, xnew_e, xref_e, xmul_e, xn_e, nG_n, rG_n, mG_n, kc_rG, kc_nG, kc_nGT, kc_mG, kc_mGT, ll_rG, ll_nG, ll_nGy, rr_rGy, rr_rG, rr_nG, lt_x, nS_n, nS_y, hn, pT hk, h0]
    rw [← hG1, e2, u34_40]
    simp (disch := first | omega | exact rfl | (simp only [nG_n, rG_n, mG_n]; omega)) only [↓u34_0, ↓u34_1, ↓u34_4, ↓u34_5, ↓u34_10, ↓u34_13, ↓u34_14, ↓u34_16, ↓u34_18, ↓u34_21, ↓u34_22, ↓u34_25, ↓u34_26, ↓u34_29, ↓u34_30, ↓u34_34, ↓u34_37, ↓u34_41, ↓u34_46, ↓u34_50, ↓u34_53, ↓u34_54, ↓u34_55, ↓u34_58, ↓u34_62, ↓u34_65, ↓u34_66, ↓u34_68, ↓u34_71, ↓u34_75, ↓u34_78, ↓u34_79, ↓u34_81, ↓u34_84, ↓u34_88, ↓u34_89, ↓u34_92, ↓u34_93, ↓u34_94, ↓u34_97, ↓u34_98, ↓u34_99, ↓u34_102, ↓v34_7, ↓v34_33, ↓v34_44, ↓lI_0, ↓lI_s, ↓lL_0, ↓lL_s, ↓lR_0, ↓lR_s, ↓sT_0, ↓sT_i, ↓sT_r, ↓sT_u, ↓sT_lu, ↓sU_0, ↓sU_i, ↓sU_r, ↓sU_u, ↓ite_bx, bx_T, bx_F, bx_pos, bx_neg, zws_i, zws_r, zws_l, zws_n, zCb_kc, xl_ll, xr_rr, xs_e, xset_e, Option.toList, List.cons_append, List.nil_append, zIb_e, zrng_e, nz_e, if_pos, if_neg, and_true, true_and, or_true, true_or, ite_self, bi_eq0, bi_eq1, bi_1, bi_0, bi_ir, bi_T, bi_F, up_eq, up_ne, ↓reduceIte, reduceIte, Nat.reduceAdd, Nat.reduceLeDiff, Nat.le_refl, Nat.zero_le, not_true_eq_false, not_false_eq_true, ne_eq, Int.reduceEq, Int.reduceLT, Int.reduceLE, Int.reduceAdd, Int.reduceSub, Int.reduceMul, Int.reduceNeg, xnew_e, xref_e, xmul_e, xn_e, nG_n, rG_n, mG_n, kc_rG, kc_nG, kc_nGT, kc_mG, kc_mGT, ll_rG, ll_nG, ll_nGy, rr_rGy, rr_rG, rr_nG, lt_x, nS_n, nS_y, b1, pT k2, h0]
set_option maxRecDepth 8000 in
theorem c34_w {d : Nat} {G : XS} {s : ZS} {W : Int} (hd : 3 ≤ d) (hk : kc G W 4) (hn : (G.1.1 : Int) = W + 1) (hW : 0 ≤ W ∧ W ≤ 500) : ∃ G2 s2, ((G2.1.1 : Int) = W + 49 ∧ G2.1.2 ≤ G.1.2 + 900) ∧ (∀ a, (a < W ∨ W + 49 ≤ a) → SM G s G2 s2 a) ∧ WOK G2 W ∧ NEW s2 W ∧ ∀ Q, Call d 34 [zrf W] (G, s) Q = Q none (G2, s2) := by
  obtain ⟨hW0, hW1⟩ := hW
  obtain ⟨G3, s3, ⟨c1, c2⟩, c3, c4, c5, e3⟩ := c34_1 (d := d) (G := G) (s := s) hd hk hn ⟨hW0, hW1⟩
  obtain ⟨G4, s4, ⟨d1, d2⟩, d3, d4, d5, e4⟩ := b34_x (d := d) (G := G3) (s := s3) (W := W) (n := W + 43) (by omega) (by omega) (by omega) c1 c4.1
  obtain ⟨G5, s5, ⟨f1, f2⟩, f3, f4, f5, e5⟩ := b34_y (d := d) (G := G4) (s := s4) (W := W) (n := W + 45) (by omega) (by omega) (by omega) (by omega) d5.1
  obtain ⟨G6, s6, ⟨g1, g2⟩, g3, g4, g5, e6⟩ := b34_z (d := d) (G := G5) (s := s5) (W := W) (n := W + 47) (by omega) (by omega) (by omega) (by omega) f5.1
  have T3 : ∀ a, W + 1 ≤ a ∧ a ≤ W + 42 → SM G3 s3 G6 s6 a := fun a ha => by
    have q1 := d3 a (by omega) (by omega) (by omega)
    have q2 := f3 a (by omega) (by omega) (by omega)
    have q3 := g3 a (by omega) (by omega) (by omega)
    exact SM_t (SM_t q1 q2) q3
  have B5 : BLK G5 s5 (W + 43) 15 5 := BLK_k d4 (f3 (W + 43) (by omega) (by omega) (by omega)) (f3 (W + 43 + 1) (by omega) (by omega) (by omega)) (by omega)
  have B6 : BLK G6 s6 (W + 43) 15 5 := BLK_k B5 (g3 (W + 43) (by omega) (by omega) (by omega)) (g3 (W + 43 + 1) (by omega) (by omega) (by omega)) (by omega)
  have C6 : BLK G6 s6 (W + 45) 30 10 := BLK_k f4 (g3 (W + 45) (by omega) (by omega) (by omega)) (g3 (W + 45 + 1) (by omega) (by omega) (by omega)) (by omega)
  have W6 : WC G6 W := WC_k c5 T3 (by omega)
  have sz : G6.1.2 ≤ G.1.2 + 900 := by omega
  have sm : ∀ a, (a < W ∨ W + 49 ≤ a) → SM G s G6 s6 a := fun a ha => by
    have q0 := c3 a (by omega)
    have q1 := d3 a (by omega) (by omega) (by omega)
    have q2 := f3 a (by omega) (by omega) (by omega)
    have q3 := g3 a (by omega) (by omega) (by omega)
    exact SM_t (SM_t (SM_t q0 q1) q2) q3
  have g1' : (G6.1.1 : Int) = W + 49 := by omega
  clear c1 c2 d1 d2 f1 f2 g1 g2
  have x44 : W + 43 + 1 = W + 44 := by omega
  have x46 : W + 45 + 1 = W + 46 := by omega
  have x48 : W + 47 + 1 = W + 48 := by omega
  refine ⟨G6, up (up (up s6 W 5 0) W 6 0) W 7 3, ⟨g1', sz⟩, fun a ha => ?_, ?_, ?_, fun Q => ?_⟩
  · have q1 : a ≠ W := by omega
    exact SM_t (SM_t (SM_t (sm a ha) (SM_u q1)) (SM_u q1)) (SM_u q1)
  · obtain ⟨⟨x1, x2, x3, x4⟩, -, -⟩ := B6
    obtain ⟨⟨y1, y2, y3, y4⟩, -, -⟩ := C6
    obtain ⟨⟨z1, z2, z3, z4⟩, -, -⟩ := g4
    obtain ⟨w1, w2, w3, w4, w5⟩ := W6
    rw [x44] at x2 x3 x4
    rw [x46] at y2 y3 y4
    rw [x48] at z2 z3 z4
    have r : ∀ j, j ≠ 2 → j ≠ 3 → j ≠ 4 → rr G6 W j = rr G3 W j := fun j h2 h3 h4 => by rw [g5.2.2.1 j h4, f5.2.2.1 j h3, d5.2.2.1 j h2]
    exact ⟨g5.1, (r 0 (by decide) (by decide) (by decide)).trans c4.2.1, w1, w2, fun i hi => (w3 i hi).1, fun i hi => (w3 i hi).2, (r 1 (by decide) (by decide) (by decide)).trans c4.2.2, w4, w5, by rw [g5.2.2.1 2 (by decide), f5.2.2.1 2 (by decide)]; exact d5.2.1, by rw [g5.2.2.1 3 (by decide)]; exact f5.2.1, g5.2.1, x1, y1, z1, x2, y2, z2, x3, y3, z3, x4, y4, z4, hW0⟩
  · have u : ∀ a c, a ≠ W → up (up (up s6 W 5 0) W 6 0) W 7 3 a c = s6 a c := fun a c h => by rw [up_ne (Or.inl h), up_ne (Or.inl h), up_ne (Or.inl h)]
    have n3 : W + 43 ≠ W := by omega
    have n5 : W + 45 ≠ W := by omega
    have n7 : W + 47 ≠ W := by omega
    exact ⟨⟨by rw [up_ne (Or.inr (by decide)), up_ne (Or.inr (by decide)), up_eq], by rw [up_ne (Or.inr (by decide)), up_eq], up_eq⟩, ⟨(u _ _ n3).trans B6.2.1, (u _ _ n5).trans C6.2.1, (u _ _ n7).trans g4.2.1⟩, (u _ _ n3).trans B6.2.2, (u _ _ n5).trans C6.2.2, (u _ _ n7).trans g4.2.2⟩
  · have kw := pT g5.1
    rw [e3, e4, e5, e6]
    simp (disch := first | omega | exact rfl | (simp only [nG_n, rG_n, mG_n]; omega)) only [↓u34_0, ↓u34_1, ↓u34_4, ↓u34_5, ↓u34_10, ↓u34_13, ↓u34_14, ↓u34_16, ↓u34_18, ↓u34_21, ↓u34_22, ↓u34_25, ↓u34_26, ↓u34_29, ↓u34_30, ↓u34_34, ↓u34_37, ↓u34_41, ↓u34_46, ↓u34_49, ↓u34_50, ↓u34_53, ↓u34_54, ↓u34_55, ↓u34_58, ↓u34_61, ↓u34_62, ↓u34_65, ↓u34_66, ↓u34_68, ↓u34_71, ↓u34_74, ↓u34_75, ↓u34_78, ↓u34_79, ↓u34_81, ↓u34_84, ↓u34_87, ↓u34_88, ↓u34_89, ↓u34_92, ↓u34_93, ↓u34_94, ↓u34_97, ↓u34_98, ↓u34_99, ↓u34_102, ↓v34_7, ↓v34_33, ↓v34_44, ↓lI_0, ↓lI_s, ↓lL_0, ↓lL_s, ↓lR_0, ↓lR_s, ↓sT_0, ↓sT_i, ↓sT_r, ↓sT_u, ↓sT_lu, ↓sU_0, ↓sU_i, ↓sU_r, ↓sU_u, ↓ite_bx, bx_T, bx_F, bx_pos, bx_neg, zws_i, zws_r, zws_l, zws_n, zCb_kc, xl_ll, xr_rr, xs_e, xset_e, Option.toList, List.cons_append, List.nil_append, zIb_e, zrng_e, nz_e, if_pos, if_neg, and_true, true_and, or_true, true_or, ite_self, bi_eq0, bi_eq1, bi_1, bi_0, bi_ir, bi_T, bi_F, up_eq, up_ne, ↓reduceIte, reduceIte, Nat.reduceAdd, Nat.reduceLeDiff, Nat.le_refl, Nat.zero_le, not_true_eq_false, not_false_eq_true, ne_eq, Int.reduceEq, Int.reduceLT, Int.reduceLE, Int.reduceAdd, Int.reduceSub, Int.reduceMul, Int.reduceNeg, xnew_e, xref_e, xmul_e, xn_e, nG_n, rG_n, mG_n, kc_rG, kc_nG, kc_nGT, kc_mG, kc_mGT, ll_rG, ll_nG, ll_nGy, rr_rGy, rr_rG, rr_nG, lt_x, nS_n, nS_y, kw]
