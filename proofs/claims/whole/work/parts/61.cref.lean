/-! the constructor of the reference; the start of all -/
def MA (G : XS) (s : ZS) (n : Int) (kd : Nat) (sz : Int) : Prop := kc G n kd ∧ ll G n = sz ∧ ∀ j, s n j = 0
set_option maxRecDepth 8000 in
theorem MA_k {G G2 : XS} {s s2 : ZS} {n sz : Int} {kd : Nat} (h : MA G s n kd sz) (h1 : SM G s G2 s2 n) (hn : G.1.1 ≤ G2.1.1) : MA G2 s2 n kd sz := ⟨SM_k h1 h.1 hn, h1.2.1.trans h.2.1, fun j => (h1.2.2.2 j).trans (h.2.2 j)⟩
def MFR (G : XS) (s : ZS) (G2 : XS) (s2 : ZS) (f n : Int) : Prop := kc G2 172 6 ∧ rr G2 172 f = n ∧ (∀ j, j ≠ f → rr G2 172 j = rr G 172 j) ∧ ∀ j, s2 172 j = s 172 j
set_option maxRecDepth 8000 in
theorem b110_4 {d : Nat} {G : XS} {s : ZS} (hn : (G.1.1 : Int) = 173) (hk : kc G 172 6) : ∃ G2 s2, ((G2.1.1 : Int) = 174 ∧ G2.1.2 = G.1.2 + 417) ∧ (∀ a, a ≠ 172 → a ≠ 173 → SM G s G2 s2 a) ∧ MA G2 s2 173 7 417 ∧ MFR G s G2 s2 0 173 ∧ ∀ Q, Wp (d - 1) 110 (4, [zrf 172, zun], [], (G, s)) Q = Wp (d - 1) 110 (13, [zrf 172, zun], [], (G2, s2)) Q := by
  have s0 : ∀ a, a ≠ 173 → SM G s (nG G 7 417 (417 : Int).toNat) (nS s 173) a := fun a ha => by
    have e2 := SM_n (G := G) (s := s) (kd := 7) (sl := (417 : Int).toNat) (sz := 417) (a := a) (by omega)
    rw [hn] at e2
    exact e2
  refine ⟨rG (nG G 7 417 (417 : Int).toNat) 172 0 173, nS s 173, ⟨by rw [rG_n, nG_n]; omega, rfl⟩, fun a ha hb => SM_t (s0 a hb) (SM_r ha), ⟨?_, ?_, fun j => nS_y rfl⟩, ⟨?_, rr_rGy ⟨rfl, rfl⟩, fun j hj => ?_, fun j => nS_n (by decide)⟩, fun Q => ?_⟩
  · rw [kc_rG]; exact kc_nGy (by omega)
  · rw [ll_rG]; exact ll_nGy (by omega)
  · rw [kc_rG, kc_nG (by omega)]; exact hk
  · rw [rr_rG (Or.inr hj), rr_nG (by omega)]
  · have kk := pT hk
    clear s0
    simp (disch := first | omega | exact rfl | (simp only [nG_n, rG_n, mG_n]; omega)) only [↓u110_0, ↓u110_1, ↓u110_4, ↓u110_5, ↓u110_10, ↓u110_14, ↓u110_19, ↓u110_22, ↓u110_23, ↓u110_28, ↓u110_31, ↓u110_32, ↓u110_36, ↓u110_39, ↓u110_40, ↓u110_44, ↓u110_47, ↓u110_48, ↓u110_52, ↓u110_55, ↓u110_56, ↓u110_58, ↓u110_64, ↓u110_67, ↓u110_68, ↓u110_72, ↓u110_75, ↓u110_76, ↓u110_80, ↓u110_83, ↓u110_84, ↓u110_89, ↓u110_92, ↓u110_93, ↓u110_96, ↓u110_99, ↓u110_100, ↓u110_101, ↓u110_102, ↓u110_104, ↓u110_106, ↓u110_109, ↓u110_110, ↓u110_113, ↓u110_114, ↓u110_115, ↓u110_116, ↓u110_119, ↓u110_122, ↓v110_8, ↓v110_17, ↓v110_26, ↓v110_34, ↓v110_42, ↓v110_50, ↓v110_60, ↓v110_70, ↓v110_78, ↓v110_87, ↓lI_0, ↓lI_s, ↓lL_0, ↓lL_s, ↓lR_0, ↓lR_s, ↓sT_0, ↓sT_i, ↓sT_r, ↓sT_u, ↓sT_lu, ↓sU_0, ↓sU_i, ↓sU_r, ↓sU_u, ↓ite_bx, bx_T, bx_F, bx_pos, bx_neg, zws_i, zws_r, zws_l, zws_n, zCb_kc, xl_ll, xr_rr, xs_e, xset_e, Option.toList, List.cons_append, List.nil_append, zIb_e, zrng_e, nz_e, if_pos, if_neg, and_true, true_and, or_true, true_or, ite_self, bi_eq0, bi_eq1, bi_1, bi_0, bi_ir, bi_T, bi_F, up_eq, up_ne, ↓reduceIte, reduceIte, Nat.reduceAdd, Nat.reduceLeDiff, Nat.le_refl, Nat.zero_le, not_true_eq_false, not_false_eq_true, ne_eq, Int.reduceEq, Int.reduceLT, Int.reduceLE, Int.reduceAdd, Int.reduceSub, Int.reduceMul, Int.reduceNeg, xnew_e, xref_e, xmul_e, xn_e, nG_n, rG_n, mG_n, kc_rG, kc_nG, kc_nGT, kc_mG, kc_mGT, ll_rG, ll_nG, ll_nGy, rr_rGy, rr_rG, rr_nG, lt_x, nS_n, nS_y, hn, kk]
set_option maxRecDepth 8000 in
theorem b110_13 {d : Nat} {G : XS} {s : ZS} (hn : (G.1.1 : Int) = 174) (hk : kc G 172 6) : ∃ G2 s2, ((G2.1.1 : Int) = 175 ∧ G2.1.2 = G.1.2 + 417) ∧ (∀ a, a ≠ 172 → a ≠ 174 → SM G s G2 s2 a) ∧ MA G2 s2 174 7 417 ∧ MFR G s G2 s2 1 174 ∧ ∀ Q, Wp (d - 1) 110 (13, [zrf 172, zun], [], (G, s)) Q = Wp (d - 1) 110 (22, [zrf 172, zun], [], (G2, s2)) Q := by
  have s0 : ∀ a, a ≠ 174 → SM G s (nG G 7 417 (417 : Int).toNat) (nS s 174) a := fun a ha => by
    have e2 := SM_n (G := G) (s := s) (kd := 7) (sl := (417 : Int).toNat) (sz := 417) (a := a) (by omega)
    rw [hn] at e2
    exact e2
  refine ⟨rG (nG G 7 417 (417 : Int).toNat) 172 1 174, nS s 174, ⟨by rw [rG_n, nG_n]; omega, rfl⟩, fun a ha hb => SM_t (s0 a hb) (SM_r ha), ⟨?_, ?_, fun j => nS_y rfl⟩, ⟨?_, rr_rGy ⟨rfl, rfl⟩, fun j hj => ?_, fun j => nS_n (by decide)⟩, fun Q => ?_⟩
  · rw [kc_rG]; exact kc_nGy (by omega)
  · rw [ll_rG]; exact ll_nGy (by omega)
  · rw [kc_rG, kc_nG (by omega)]; exact hk
  · rw [rr_rG (Or.inr hj), rr_nG (by omega)]
  · have kk := pT hk
    clear s0
    simp (disch := first | omega | exact rfl | (simp only [nG_n, rG_n, mG_n]; omega)) only [↓u110_0, ↓u110_1, ↓u110_4, ↓u110_5, ↓u110_10, ↓u110_13, ↓u110_14, ↓u110_19, ↓u110_23, ↓u110_28, ↓u110_31, ↓u110_32, ↓u110_36, ↓u110_39, ↓u110_40, ↓u110_44, ↓u110_47, ↓u110_48, ↓u110_52, ↓u110_55, ↓u110_56, ↓u110_58, ↓u110_64, ↓u110_67, ↓u110_68, ↓u110_72, ↓u110_75, ↓u110_76, ↓u110_80, ↓u110_83, ↓u110_84, ↓u110_89, ↓u110_92, ↓u110_93, ↓u110_96, ↓u110_99, ↓u110_100, ↓u110_101, ↓u110_102, ↓u110_104, ↓u110_106, ↓u110_109, ↓u110_110, ↓u110_113, ↓u110_114, ↓u110_115, ↓u110_116, ↓u110_119, ↓u110_122, ↓v110_8, ↓v110_17, ↓v110_26, ↓v110_34, ↓v110_42, ↓v110_50, ↓v110_60, ↓v110_70, ↓v110_78, ↓v110_87, ↓lI_0, ↓lI_s, ↓lL_0, ↓lL_s, ↓lR_0, ↓lR_s, ↓sT_0, ↓sT_i, ↓sT_r, ↓sT_u, ↓sT_lu, ↓sU_0, ↓sU_i, ↓sU_r, ↓sU_u, ↓ite_bx, bx_T, bx_F, bx_pos, bx_neg, zws_i, zws_r, zws_l, zws_n, zCb_kc, xl_ll, xr_rr, xs_e, xset_e, Option.toList, List.cons_append, List.nil_append, zIb_e, zrng_e, nz_e, if_pos, if_neg, and_true, true_and, or_true, true_or, ite_self, bi_eq0, bi_eq1, bi_1, bi_0, bi_ir, bi_T, bi_F, up_eq, up_ne, ↓reduceIte, reduceIte, Nat.reduceAdd, Nat.reduceLeDiff, Nat.le_refl, Nat.zero_le, not_true_eq_false, not_false_eq_true, ne_eq, Int.reduceEq, Int.reduceLT, Int.reduceLE, Int.reduceAdd, Int.reduceSub, Int.reduceMul, Int.reduceNeg, xnew_e, xref_e, xmul_e, xn_e, nG_n, rG_n, mG_n, kc_rG, kc_nG, kc_nGT, kc_mG, kc_mGT, ll_rG, ll_nG, ll_nGy, rr_rGy, rr_rG, rr_nG, lt_x, nS_n, nS_y, hn, kk]
set_option maxRecDepth 8000 in
theorem b110_22 {d : Nat} {G : XS} {s : ZS} (hn : (G.1.1 : Int) = 175) (hk : kc G 172 6) : ∃ G2 s2, ((G2.1.1 : Int) = 176 ∧ G2.1.2 = G.1.2 + 417) ∧ (∀ a, a ≠ 172 → a ≠ 175 → SM G s G2 s2 a) ∧ MA G2 s2 175 7 417 ∧ MFR G s G2 s2 2 175 ∧ ∀ Q, Wp (d - 1) 110 (22, [zrf 172, zun], [], (G, s)) Q = Wp (d - 1) 110 (31, [zrf 172, zun], [], (G2, s2)) Q := by
  have s0 : ∀ a, a ≠ 175 → SM G s (nG G 7 417 (417 : Int).toNat) (nS s 175) a := fun a ha => by
    have e2 := SM_n (G := G) (s := s) (kd := 7) (sl := (417 : Int).toNat) (sz := 417) (a := a) (by omega)
    rw [hn] at e2
    exact e2
  refine ⟨rG (nG G 7 417 (417 : Int).toNat) 172 2 175, nS s 175, ⟨by rw [rG_n, nG_n]; omega, rfl⟩, fun a ha hb => SM_t (s0 a hb) (SM_r ha), ⟨?_, ?_, fun j => nS_y rfl⟩, ⟨?_, rr_rGy ⟨rfl, rfl⟩, fun j hj => ?_, fun j => nS_n (by decide)⟩, fun Q => ?_⟩
  · rw [kc_rG]; exact kc_nGy (by omega)
  · rw [ll_rG]; exact ll_nGy (by omega)
  · rw [kc_rG, kc_nG (by omega)]; exact hk
  · rw [rr_rG (Or.inr hj), rr_nG (by omega)]
  · have kk := pT hk
    clear s0
    simp (disch := first | omega | exact rfl | (simp only [nG_n, rG_n, mG_n]; omega)) only [↓u110_0, ↓u110_1, ↓u110_4, ↓u110_5, ↓u110_10, ↓u110_13, ↓u110_14, ↓u110_19, ↓u110_22, ↓u110_23, ↓u110_28, ↓u110_32, ↓u110_36, ↓u110_39, ↓u110_40, ↓u110_44, ↓u110_47, ↓u110_48, ↓u110_52, ↓u110_55, ↓u110_56, ↓u110_58, ↓u110_64, ↓u110_67, ↓u110_68, ↓u110_72, ↓u110_75, ↓u110_76, ↓u110_80, ↓u110_83, ↓u110_84, ↓u110_89, ↓u110_92, ↓u110_93, ↓u110_96, ↓u110_99, ↓u110_100, ↓u110_101, ↓u110_102, ↓u110_104, ↓u110_106, ↓u110_109, ↓u110_110, ↓u110_113, ↓u110_114, ↓u110_115, ↓u110_116, ↓u110_119, ↓u110_122, ↓v110_8, ↓v110_17, ↓v110_26, ↓v110_34, ↓v110_42, ↓v110_50, ↓v110_60, ↓v110_70, ↓v110_78, ↓v110_87, ↓lI_0, ↓lI_s, ↓lL_0, ↓lL_s, ↓lR_0, ↓lR_s, ↓sT_0, ↓sT_i, ↓sT_r, ↓sT_u, ↓sT_lu, ↓sU_0, ↓sU_i, ↓sU_r, ↓sU_u, ↓ite_bx, bx_T, bx_F, bx_pos, bx_neg, zws_i, zws_r, zws_l, zws_n, zCb_kc, xl_ll, xr_rr, xs_e, xset_e, Option.toList, List.cons_append, List.nil_append, zIb_e, zrng_e, nz_e, if_pos, if_neg, and_true, true_and, or_true, true_or, ite_self, bi_eq0, bi_eq1, bi_1, bi_0, bi_ir, bi_T, bi_F, up_eq, up_ne, ↓reduceIte, reduceIte, Nat.reduceAdd, Nat.reduceLeDiff, Nat.le_refl, Nat.zero_le, not_true_eq_false, not_false_eq_true, ne_eq, Int.reduceEq, Int.reduceLT, Int.reduceLE, Int.reduceAdd, Int.reduceSub, Int.reduceMul, Int.reduceNeg, xnew_e, xref_e, xmul_e, xn_e, nG_n, rG_n, mG_n, kc_rG, kc_nG, kc_nGT, kc_mG, kc_mGT, ll_rG, ll_nG, ll_nGy, rr_rGy, rr_rG, rr_nG, lt_x, nS_n, nS_y, hn, kk]
set_option maxRecDepth 8000 in
theorem b110_31 {d : Nat} {G : XS} {s : ZS} (hn : (G.1.1 : Int) = 176) (hk : kc G 172 6) : ∃ G2 s2, ((G2.1.1 : Int) = 177 ∧ G2.1.2 = G.1.2 + 100) ∧ (∀ a, a ≠ 172 → a ≠ 176 → SM G s G2 s2 a) ∧ MA G2 s2 176 7 100 ∧ MFR G s G2 s2 4 176 ∧ ∀ Q, Wp (d - 1) 110 (31, [zrf 172, zun], [], (G, s)) Q = Wp (d - 1) 110 (39, [zrf 172, zun], [], (G2, s2)) Q := by
  have s0 : ∀ a, a ≠ 176 → SM G s (nG G 7 100 (100 : Int).toNat) (nS s 176) a := fun a ha => by
    have e2 := SM_n (G := G) (s := s) (kd := 7) (sl := (100 : Int).toNat) (sz := 100) (a := a) (by omega)
    rw [hn] at e2
    exact e2
  refine ⟨rG (nG G 7 100 (100 : Int).toNat) 172 4 176, nS s 176, ⟨by rw [rG_n, nG_n]; omega, rfl⟩, fun a ha hb => SM_t (s0 a hb) (SM_r ha), ⟨?_, ?_, fun j => nS_y rfl⟩, ⟨?_, rr_rGy ⟨rfl, rfl⟩, fun j hj => ?_, fun j => nS_n (by decide)⟩, fun Q => ?_⟩
  · rw [kc_rG]; exact kc_nGy (by omega)
  · rw [ll_rG]; exact ll_nGy (by omega)
  · rw [kc_rG, kc_nG (by omega)]; exact hk
  · rw [rr_rG (Or.inr hj), rr_nG (by omega)]
  · have kk := pT hk
    clear s0
    simp (disch := first | omega | exact rfl | (simp only [nG_n, rG_n, mG_n]; omega)) only [↓u110_0, ↓u110_1, ↓u110_4, ↓u110_5, ↓u110_10, ↓u110_13, ↓u110_14, ↓u110_19, ↓u110_22, ↓u110_23, ↓u110_28, ↓u110_31, ↓u110_32, ↓u110_36, ↓u110_40, ↓u110_44, ↓u110_47, ↓u110_48, ↓u110_52, ↓u110_55, ↓u110_56, ↓u110_58, ↓u110_64, ↓u110_67, ↓u110_68, ↓u110_72, ↓u110_75, ↓u110_76, ↓u110_80, ↓u110_83, ↓u110_84, ↓u110_89, ↓u110_92, ↓u110_93, ↓u110_96, ↓u110_99, ↓u110_100, ↓u110_101, ↓u110_102, ↓u110_104, ↓u110_106, ↓u110_109, ↓u110_110, ↓u110_113, ↓u110_114, ↓u110_115, ↓u110_116, ↓u110_119, ↓u110_122, ↓v110_8, ↓v110_17, ↓v110_26, ↓v110_34, ↓v110_42, ↓v110_50, ↓v110_60, ↓v110_70, ↓v110_78, ↓v110_87, ↓lI_0, ↓lI_s, ↓lL_0, ↓lL_s, ↓lR_0, ↓lR_s, ↓sT_0, ↓sT_i, ↓sT_r, ↓sT_u, ↓sT_lu, ↓sU_0, ↓sU_i, ↓sU_r, ↓sU_u, ↓ite_bx, bx_T, bx_F, bx_pos, bx_neg, zws_i, zws_r, zws_l, zws_n, zCb_kc, xl_ll, xr_rr, xs_e, xset_e, Option.toList, List.cons_append, List.nil_append, zIb_e, zrng_e, nz_e, if_pos, if_neg, and_true, true_and, or_true, true_or, ite_self, bi_eq0, bi_eq1, bi_1, bi_0, bi_ir, bi_T, bi_F, up_eq, up_ne, ↓reduceIte, reduceIte, Nat.reduceAdd, Nat.reduceLeDiff, Nat.le_refl, Nat.zero_le, not_true_eq_false, not_false_eq_true, ne_eq, Int.reduceEq, Int.reduceLT, Int.reduceLE, Int.reduceAdd, Int.reduceSub, Int.reduceMul, Int.reduceNeg, xnew_e, xref_e, xmul_e, xn_e, nG_n, rG_n, mG_n, kc_rG, kc_nG, kc_nGT, kc_mG, kc_mGT, ll_rG, ll_nG, ll_nGy, rr_rGy, rr_rG, rr_nG, lt_x, nS_n, nS_y, hn, kk]
set_option maxRecDepth 8000 in
theorem b110_39 {d : Nat} {G : XS} {s : ZS} (hn : (G.1.1 : Int) = 177) (hk : kc G 172 6) : ∃ G2 s2, ((G2.1.1 : Int) = 178 ∧ G2.1.2 = G.1.2 + 6) ∧ (∀ a, a ≠ 172 → a ≠ 177 → SM G s G2 s2 a) ∧ MA G2 s2 177 7 6 ∧ MFR G s G2 s2 6 177 ∧ ∀ Q, Wp (d - 1) 110 (39, [zrf 172, zun], [], (G, s)) Q = Wp (d - 1) 110 (47, [zrf 172, zun], [], (G2, s2)) Q := by
  have s0 : ∀ a, a ≠ 177 → SM G s (nG G 7 6 (6 : Int).toNat) (nS s 177) a := fun a ha => by
    have e2 := SM_n (G := G) (s := s) (kd := 7) (sl := (6 : Int).toNat) (sz := 6) (a := a) (by omega)
    rw [hn] at e2
    exact e2
  refine ⟨rG (nG G 7 6 (6 : Int).toNat) 172 6 177, nS s 177, ⟨by rw [rG_n, nG_n]; omega, rfl⟩, fun a ha hb => SM_t (s0 a hb) (SM_r ha), ⟨?_, ?_, fun j => nS_y rfl⟩, ⟨?_, rr_rGy ⟨rfl, rfl⟩, fun j hj => ?_, fun j => nS_n (by decide)⟩, fun Q => ?_⟩
  · rw [kc_rG]; exact kc_nGy (by omega)
  · rw [ll_rG]; exact ll_nGy (by omega)
  · rw [kc_rG, kc_nG (by omega)]; exact hk
  · rw [rr_rG (Or.inr hj), rr_nG (by omega)]
  · have kk := pT hk
    clear s0
    simp (disch := first | omega | exact rfl | (simp only [nG_n, rG_n, mG_n]; omega)) only [↓u110_0, ↓u110_1, ↓u110_4, ↓u110_5, ↓u110_10, ↓u110_13, ↓u110_14, ↓u110_19, ↓u110_22, ↓u110_23, ↓u110_28, ↓u110_31, ↓u110_32, ↓u110_36, ↓u110_39, ↓u110_40, ↓u110_44, ↓u110_48, ↓u110_52, ↓u110_55, ↓u110_56, ↓u110_58, ↓u110_64, ↓u110_67, ↓u110_68, ↓u110_72, ↓u110_75, ↓u110_76, ↓u110_80, ↓u110_83, ↓u110_84, ↓u110_89, ↓u110_92, ↓u110_93, ↓u110_96, ↓u110_99, ↓u110_100, ↓u110_101, ↓u110_102, ↓u110_104, ↓u110_106, ↓u110_109, ↓u110_110, ↓u110_113, ↓u110_114, ↓u110_115, ↓u110_116, ↓u110_119, ↓u110_122, ↓v110_8, ↓v110_17, ↓v110_26, ↓v110_34, ↓v110_42, ↓v110_50, ↓v110_60, ↓v110_70, ↓v110_78, ↓v110_87, ↓lI_0, ↓lI_s, ↓lL_0, ↓lL_s, ↓lR_0, ↓lR_s, ↓sT_0, ↓sT_i, ↓sT_r, ↓sT_u, ↓sT_lu, ↓sU_0, ↓sU_i, ↓sU_r, ↓sU_u, ↓ite_bx, bx_T, bx_F, bx_pos, bx_neg, zws_i, zws_r, zws_l, zws_n, zCb_kc, xl_ll, xr_rr, xs_e, xset_e, Option.toList, List.cons_append, List.nil_append, zIb_e, zrng_e, nz_e, if_pos, if_neg, and_true, true_and, or_true, true_or, ite_self, bi_eq0, bi_eq1, bi_1, bi_0, bi_ir, bi_T, bi_F, up_eq, up_ne, ↓reduceIte, reduceIte, Nat.reduceAdd, Nat.reduceLeDiff, Nat.le_refl, Nat.zero_le, not_true_eq_false, not_false_eq_true, ne_eq, Int.reduceEq, Int.reduceLT, Int.reduceLE, Int.reduceAdd, Int.reduceSub, Int.reduceMul, Int.reduceNeg, xnew_e, xref_e, xmul_e, xn_e, nG_n, rG_n, mG_n, kc_rG, kc_nG, kc_nGT, kc_mG, kc_mGT, ll_rG, ll_nG, ll_nGy, rr_rGy, rr_rG, rr_nG, lt_x, nS_n, nS_y, hn, kk]
set_option maxRecDepth 8000 in
theorem b110_47 {d : Nat} {G : XS} {s : ZS} (hn : (G.1.1 : Int) = 178) (hk : kc G 172 6) : ∃ G2 s2, ((G2.1.1 : Int) = 179 ∧ G2.1.2 = G.1.2 + 6) ∧ (∀ a, a ≠ 172 → a ≠ 178 → SM G s G2 s2 a) ∧ MA G2 s2 178 7 6 ∧ MFR G s G2 s2 7 178 ∧ ∀ Q, Wp (d - 1) 110 (47, [zrf 172, zun], [], (G, s)) Q = Wp (d - 1) 110 (55, [zrf 172, zun], [], (G2, s2)) Q := by
  have s0 : ∀ a, a ≠ 178 → SM G s (nG G 7 6 (6 : Int).toNat) (nS s 178) a := fun a ha => by
    have e2 := SM_n (G := G) (s := s) (kd := 7) (sl := (6 : Int).toNat) (sz := 6) (a := a) (by omega)
    rw [hn] at e2
    exact e2
  refine ⟨rG (nG G 7 6 (6 : Int).toNat) 172 7 178, nS s 178, ⟨by rw [rG_n, nG_n]; omega, rfl⟩, fun a ha hb => SM_t (s0 a hb) (SM_r ha), ⟨?_, ?_, fun j => nS_y rfl⟩, ⟨?_, rr_rGy ⟨rfl, rfl⟩, fun j hj => ?_, fun j => nS_n (by decide)⟩, fun Q => ?_⟩
  · rw [kc_rG]; exact kc_nGy (by omega)
  · rw [ll_rG]; exact ll_nGy (by omega)
  · rw [kc_rG, kc_nG (by omega)]; exact hk
  · rw [rr_rG (Or.inr hj), rr_nG (by omega)]
  · have kk := pT hk
    clear s0
    simp (disch := first | omega | exact rfl | (simp only [nG_n, rG_n, mG_n]; omega)) only [↓u110_0, ↓u110_1, ↓u110_4, ↓u110_5, ↓u110_10, ↓u110_13, ↓u110_14, ↓u110_19, ↓u110_22, ↓u110_23, ↓u110_28, ↓u110_31, ↓u110_32, ↓u110_36, ↓u110_39, ↓u110_40, ↓u110_44, ↓u110_47, ↓u110_48, ↓u110_52, ↓u110_56, ↓u110_58, ↓u110_64, ↓u110_67, ↓u110_68, ↓u110_72, ↓u110_75, ↓u110_76, ↓u110_80, ↓u110_83, ↓u110_84, ↓u110_89, ↓u110_92, ↓u110_93, ↓u110_96, ↓u110_99, ↓u110_100, ↓u110_101, ↓u110_102, ↓u110_104, ↓u110_106, ↓u110_109, ↓u110_110, ↓u110_113, ↓u110_114, ↓u110_115, ↓u110_116, ↓u110_119, ↓u110_122, ↓v110_8, ↓v110_17, ↓v110_26, ↓v110_34, ↓v110_42, ↓v110_50, ↓v110_60, ↓v110_70, ↓v110_78, ↓v110_87, ↓lI_0, ↓lI_s, ↓lL_0, ↓lL_s, ↓lR_0, ↓lR_s, ↓sT_0, ↓sT_i, ↓sT_r, ↓sT_u, ↓sT_lu, ↓sU_0, ↓sU_i, ↓sU_r, ↓sU_u, ↓ite_bx, bx_T, bx_F, bx_pos, bx_neg, zws_i, zws_r, zws_l, zws_n, zCb_kc, xl_ll, xr_rr, xs_e, xset_e, Option.toList, List.cons_append, List.nil_append, zIb_e, zrng_e, nz_e, if_pos, if_neg, and_true, true_and, or_true, true_or, ite_self, bi_eq0, bi_eq1, bi_1, bi_0, bi_ir, bi_T, bi_F, up_eq, up_ne, ↓reduceIte, reduceIte, Nat.reduceAdd, Nat.reduceLeDiff, Nat.le_refl, Nat.zero_le, not_true_eq_false, not_false_eq_true, ne_eq, Int.reduceEq, Int.reduceLT, Int.reduceLE, Int.reduceAdd, Int.reduceSub, Int.reduceMul, Int.reduceNeg, xnew_e, xref_e, xmul_e, xn_e, nG_n, rG_n, mG_n, kc_rG, kc_nG, kc_nGT, kc_mG, kc_mGT, ll_rG, ll_nG, ll_nGy, rr_rGy, rr_rG, rr_nG, lt_x, nS_n, nS_y, hn, kk]
set_option maxRecDepth 8000 in
theorem b110_55 {d : Nat} {G : XS} {s : ZS} (hn : (G.1.1 : Int) = 179) (hk : kc G 172 6) : ∃ G2 s2, ((G2.1.1 : Int) = 186 ∧ G2.1.2 = G.1.2 + 366) ∧ (∀ a, a ≠ 172 → (a < 179 ∨ 185 < a) → SM G s G2 s2 a) ∧ (kc G2 179 13 ∧ ll G2 179 = 6 ∧ (∀ t, 0 ≤ t ∧ t < 6 → rr G2 179 t = 180 + t) ∧ ∀ t, 0 ≤ t ∧ t < 6 → MA G2 s2 (180 + t) 8 60) ∧ MFR G s G2 s2 8 179 ∧ ∀ Q, Wp (d - 1) 110 (55, [zrf 172, zun], [], (G, s)) Q = Wp (d - 1) 110 (67, [zrf 172, zun], [], (G2, s2)) Q := by
  have s0 : ∀ a, (a < 179 ∨ 185 < a) → SM G s (mG G 8 6 60) (mS s 179 6) a := fun a ha => by
    have e2 := SM_m (G := G) (s := s) (kd := 8) (j := 6) (k := 60) (a := a) (by omega) (by decide)
    rw [hn] at e2
    exact e2
  refine ⟨rG (mG G 8 6 60) 172 8 179, mS s 179 6, ⟨?_, rfl⟩, fun a ha hb => SM_t (s0 a hb) (SM_r ha), ⟨?_, ?_, fun t ht => ?_, fun t ht => ⟨?_, ?_, fun j => mS_y (by omega)⟩⟩, ⟨?_, rr_rGy ⟨rfl, rfl⟩, fun j hj => ?_, fun j => mS_n (by decide)⟩, fun Q => ?_⟩
  · rw [rG_n, mG_n, show (6 : Int).toNat = 6 from rfl]; omega
  · rw [kc_rG]; exact kc_mGy (by omega)
  · rw [ll_rG]; exact ll_mGy (by omega)
  · rw [rr_rG (by omega), rr_mGy (by omega) ht]; omega
  · rw [kc_rG]; exact kc_mGi (by omega)
  · rw [ll_rG]; exact ll_mGi (by omega)
  · rw [kc_rG, kc_mG (by omega) (by decide)]; exact hk
  · rw [rr_rG (Or.inr hj), rr_mG (by omega) (by decide)]
  · have kk := pT hk
    clear s0
    simp (disch := first | omega | exact rfl | (simp only [nG_n, rG_n, mG_n]; omega)) only [↓u110_0, ↓u110_1, ↓u110_4, ↓u110_5, ↓u110_10, ↓u110_13, ↓u110_14, ↓u110_19, ↓u110_22, ↓u110_23, ↓u110_28, ↓u110_31, ↓u110_32, ↓u110_36, ↓u110_39, ↓u110_40, ↓u110_44, ↓u110_47, ↓u110_48, ↓u110_52, ↓u110_55, ↓u110_56, ↓u110_58, ↓u110_64, ↓u110_68, ↓u110_72, ↓u110_75, ↓u110_76, ↓u110_80, ↓u110_83, ↓u110_84, ↓u110_89, ↓u110_92, ↓u110_93, ↓u110_96, ↓u110_99, ↓u110_100, ↓u110_101, ↓u110_102, ↓u110_104, ↓u110_106, ↓u110_109, ↓u110_110, ↓u110_113, ↓u110_114, ↓u110_115, ↓u110_116, ↓u110_119, ↓u110_122, ↓v110_8, ↓v110_17, ↓v110_26, ↓v110_34, ↓v110_42, ↓v110_50, ↓v110_60, ↓v110_70, ↓v110_78, ↓v110_87, ↓lI_0, ↓lI_s, ↓lL_0, ↓lL_s, ↓lR_0, ↓lR_s, ↓sT_0, ↓sT_i, ↓sT_r, ↓sT_u, ↓sT_lu, ↓sU_0, ↓sU_i, ↓sU_r, ↓sU_u, ↓ite_bx, bx_T, bx_F, bx_pos, bx_neg, zws_i, zws_r, zws_l, zws_n, zCb_kc, xl_ll, xr_rr, xs_e, xset_e, Option.toList, List.cons_append, List.nil_append, zIb_e, zrng_e, nz_e, if_pos, if_neg, and_true, true_and, or_true, true_or, ite_self, bi_eq0, bi_eq1, bi_1, bi_0, bi_ir, bi_T, bi_F, up_eq, up_ne, ↓reduceIte, reduceIte, Nat.reduceAdd, Nat.reduceLeDiff, Nat.le_refl, Nat.zero_le, not_true_eq_false, not_false_eq_true, ne_eq, Int.reduceEq, Int.reduceLT, Int.reduceLE, Int.reduceAdd, Int.reduceSub, Int.reduceMul, Int.reduceNeg, xnew_e, xref_e, xmul_e, xn_e, nG_n, rG_n, mG_n, kc_rG, kc_nG, kc_nGT, kc_mG, kc_mGT, ll_rG, ll_nG, ll_nGy, rr_rGy, rr_rG, rr_nG, lt_x, nS_n, nS_y, hn, kk]
set_option maxRecDepth 8000 in
theorem b110_67 {d : Nat} {G : XS} {s : ZS} (hn : (G.1.1 : Int) = 186) (hk : kc G 172 6) : ∃ G2 s2, ((G2.1.1 : Int) = 187 ∧ G2.1.2 = G.1.2 + 60) ∧ (∀ a, a ≠ 172 → a ≠ 186 → SM G s G2 s2 a) ∧ MA G2 s2 186 8 60 ∧ MFR G s G2 s2 9 186 ∧ ∀ Q, Wp (d - 1) 110 (67, [zrf 172, zun], [], (G, s)) Q = Wp (d - 1) 110 (75, [zrf 172, zun], [], (G2, s2)) Q := by
  have s0 : ∀ a, a ≠ 186 → SM G s (nG G 8 60 (60 : Int).toNat) (nS s 186) a := fun a ha => by
    have e2 := SM_n (G := G) (s := s) (kd := 8) (sl := (60 : Int).toNat) (sz := 60) (a := a) (by omega)
    rw [hn] at e2
    exact e2
  refine ⟨rG (nG G 8 60 (60 : Int).toNat) 172 9 186, nS s 186, ⟨by rw [rG_n, nG_n]; omega, rfl⟩, fun a ha hb => SM_t (s0 a hb) (SM_r ha), ⟨?_, ?_, fun j => nS_y rfl⟩, ⟨?_, rr_rGy ⟨rfl, rfl⟩, fun j hj => ?_, fun j => nS_n (by decide)⟩, fun Q => ?_⟩
  · rw [kc_rG]; exact kc_nGy (by omega)
  · rw [ll_rG]; exact ll_nGy (by omega)
  · rw [kc_rG, kc_nG (by omega)]; exact hk
  · rw [rr_rG (Or.inr hj), rr_nG (by omega)]
  · have kk := pT hk
    clear s0
    simp (disch := first | omega | exact rfl | (simp only [nG_n, rG_n, mG_n]; omega)) only [↓u110_0, ↓u110_1, ↓u110_4, ↓u110_5, ↓u110_10, ↓u110_13, ↓u110_14, ↓u110_19, ↓u110_22, ↓u110_23, ↓u110_28, ↓u110_31, ↓u110_32, ↓u110_36, ↓u110_39, ↓u110_40, ↓u110_44, ↓u110_47, ↓u110_48, ↓u110_52, ↓u110_55, ↓u110_56, ↓u110_58, ↓u110_64, ↓u110_67, ↓u110_68, ↓u110_72, ↓u110_76, ↓u110_80, ↓u110_83, ↓u110_84, ↓u110_89, ↓u110_92, ↓u110_93, ↓u110_96, ↓u110_99, ↓u110_100, ↓u110_101, ↓u110_102, ↓u110_104, ↓u110_106, ↓u110_109, ↓u110_110, ↓u110_113, ↓u110_114, ↓u110_115, ↓u110_116, ↓u110_119, ↓u110_122, ↓v110_8, ↓v110_17, ↓v110_26, ↓v110_34, ↓v110_42, ↓v110_50, ↓v110_60, ↓v110_70, ↓v110_78, ↓v110_87, ↓lI_0, ↓lI_s, ↓lL_0, ↓lL_s, ↓lR_0, ↓lR_s, ↓sT_0, ↓sT_i, ↓sT_r, ↓sT_u, ↓sT_lu, ↓sU_0, ↓sU_i, ↓sU_r, ↓sU_u, ↓ite_bx, bx_T, bx_F, bx_pos, bx_neg, zws_i, zws_r, zws_l, zws_n, zCb_kc, xl_ll, xr_rr, xs_e, xset_e, Option.toList, List.cons_append, List.nil_append, zIb_e, zrng_e, nz_e, if_pos, if_neg, and_true, true_and, or_true, true_or, ite_self, bi_eq0, bi_eq1, bi_1, bi_0, bi_ir, bi_T, bi_F, up_eq, up_ne, ↓reduceIte, reduceIte, Nat.reduceAdd, Nat.reduceLeDiff, Nat.le_refl, Nat.zero_le, not_true_eq_false, not_false_eq_true, ne_eq, Int.reduceEq, Int.reduceLT, Int.reduceLE, Int.reduceAdd, Int.reduceSub, Int.reduceMul, Int.reduceNeg, xnew_e, xref_e, xmul_e, xn_e, nG_n, rG_n, mG_n, kc_rG, kc_nG, kc_nGT, kc_mG, kc_mGT, ll_rG, ll_nG, ll_nGy, rr_rGy, rr_rG, rr_nG, lt_x, nS_n, nS_y, hn, kk]
set_option maxRecDepth 8000 in
theorem b110_75 {d : Nat} {G : XS} {s : ZS} (hn : (G.1.1 : Int) = 187) (hk : kc G 172 6) : ∃ G2 s2, ((G2.1.1 : Int) = 188 ∧ G2.1.2 = G.1.2 + 64) ∧ (∀ a, a ≠ 172 → a ≠ 187 → SM G s G2 s2 a) ∧ MA G2 s2 187 7 64 ∧ MFR G s G2 s2 12 187 ∧ ∀ Q, Wp (d - 1) 110 (75, [zrf 172, zun], [], (G, s)) Q = Wp (d - 1) 110 (83, [zrf 172, zun], [], (G2, s2)) Q := by
  have s0 : ∀ a, a ≠ 187 → SM G s (nG G 7 64 (64 : Int).toNat) (nS s 187) a := fun a ha => by
    have e2 := SM_n (G := G) (s := s) (kd := 7) (sl := (64 : Int).toNat) (sz := 64) (a := a) (by omega)
    rw [hn] at e2
    exact e2
  refine ⟨rG (nG G 7 64 (64 : Int).toNat) 172 12 187, nS s 187, ⟨by rw [rG_n, nG_n]; omega, rfl⟩, fun a ha hb => SM_t (s0 a hb) (SM_r ha), ⟨?_, ?_, fun j => nS_y rfl⟩, ⟨?_, rr_rGy ⟨rfl, rfl⟩, fun j hj => ?_, fun j => nS_n (by decide)⟩, fun Q => ?_⟩
  · rw [kc_rG]; exact kc_nGy (by omega)
  · rw [ll_rG]; exact ll_nGy (by omega)
  · rw [kc_rG, kc_nG (by omega)]; exact hk
  · rw [rr_rG (Or.inr hj), rr_nG (by omega)]
  · have kk := pT hk
    clear s0
    simp (disch := first | omega | exact rfl | (simp only [nG_n, rG_n, mG_n]; omega)) only [↓u110_0, ↓u110_1, ↓u110_4, ↓u110_5, ↓u110_10, ↓u110_13, ↓u110_14, ↓u110_19, ↓u110_22, ↓u110_23, ↓u110_28, ↓u110_31, ↓u110_32, ↓u110_36, ↓u110_39, ↓u110_40, ↓u110_44, ↓u110_47, ↓u110_48, ↓u110_52, ↓u110_55, ↓u110_56, ↓u110_58, ↓u110_64, ↓u110_67, ↓u110_68, ↓u110_72, ↓u110_75, ↓u110_76, ↓u110_80, ↓u110_84, ↓u110_89, ↓u110_92, ↓u110_93, ↓u110_96, ↓u110_99, ↓u110_100, ↓u110_101, ↓u110_102, ↓u110_104, ↓u110_106, ↓u110_109, ↓u110_110, ↓u110_113, ↓u110_114, ↓u110_115, ↓u110_116, ↓u110_119, ↓u110_122, ↓v110_8, ↓v110_17, ↓v110_26, ↓v110_34, ↓v110_42, ↓v110_50, ↓v110_60, ↓v110_70, ↓v110_78, ↓v110_87, ↓lI_0, ↓lI_s, ↓lL_0, ↓lL_s, ↓lR_0, ↓lR_s, ↓sT_0, ↓sT_i, ↓sT_r, ↓sT_u, ↓sT_lu, ↓sU_0, ↓sU_i, ↓sU_r, ↓sU_u, ↓ite_bx, bx_T, bx_F, bx_pos, bx_neg, zws_i, zws_r, zws_l, zws_n, zCb_kc, xl_ll, xr_rr, xs_e, xset_e, Option.toList, List.cons_append, List.nil_append, zIb_e, zrng_e, nz_e, if_pos, if_neg, and_true, true_and, or_true, true_or, ite_self, bi_eq0, bi_eq1, bi_1, bi_0, bi_ir, bi_T, bi_F, up_eq, up_ne, ↓reduceIte, reduceIte, Nat.reduceAdd, Nat.reduceLeDiff, Nat.le_refl, Nat.zero_le, not_true_eq_false, not_false_eq_true, ne_eq, Int.reduceEq, Int.reduceLT, Int.reduceLE, Int.reduceAdd, Int.reduceSub, Int.reduceMul, Int.reduceNeg, xnew_e, xref_e, xmul_e, xn_e, nG_n, rG_n, mG_n, kc_rG, kc_nG, kc_nGT, kc_mG, kc_mGT, ll_rG, ll_nG, ll_nGy, rr_rGy, rr_rG, rr_nG, lt_x, nS_n, nS_y, hn, kk]
set_option maxRecDepth 8000 in
theorem b110_83 {d : Nat} {G : XS} {s : ZS} (hn : (G.1.1 : Int) = 188) (hk : kc G 172 6) : ∃ G2 s2, ((G2.1.1 : Int) = 189 ∧ G2.1.2 = G.1.2 + 417) ∧ (∀ a, a ≠ 172 → a ≠ 188 → SM G s G2 s2 a) ∧ MA G2 s2 188 7 417 ∧ MFR G s G2 s2 17 188 ∧ ∀ Q, Wp (d - 1) 110 (83, [zrf 172, zun], [], (G, s)) Q = Wp (d - 1) 110 (92, [zrf 172, zun], [], (G2, s2)) Q := by
  have s0 : ∀ a, a ≠ 188 → SM G s (nG G 7 417 (417 : Int).toNat) (nS s 188) a := fun a ha => by
    have e2 := SM_n (G := G) (s := s) (kd := 7) (sl := (417 : Int).toNat) (sz := 417) (a := a) (by omega)
    rw [hn] at e2
    exact e2
  refine ⟨rG (nG G 7 417 (417 : Int).toNat) 172 17 188, nS s 188, ⟨by rw [rG_n, nG_n]; omega, rfl⟩, fun a ha hb => SM_t (s0 a hb) (SM_r ha), ⟨?_, ?_, fun j => nS_y rfl⟩, ⟨?_, rr_rGy ⟨rfl, rfl⟩, fun j hj => ?_, fun j => nS_n (by decide)⟩, fun Q => ?_⟩
  · rw [kc_rG]; exact kc_nGy (by omega)
  · rw [ll_rG]; exact ll_nGy (by omega)
  · rw [kc_rG, kc_nG (by omega)]; exact hk
  · rw [rr_rG (Or.inr hj), rr_nG (by omega)]
  · have kk := pT hk
    clear s0
    simp (disch := first | omega | exact rfl | (simp only [nG_n, rG_n, mG_n]; omega)) only [↓u110_0, ↓u110_1, ↓u110_4, ↓u110_5, ↓u110_10, ↓u110_13, ↓u110_14, ↓u110_19, ↓u110_22, ↓u110_23, ↓u110_28, ↓u110_31, ↓u110_32, ↓u110_36, ↓u110_39, ↓u110_40, ↓u110_44, ↓u110_47, ↓u110_48, ↓u110_52, ↓u110_55, ↓u110_56, ↓u110_58, ↓u110_64, ↓u110_67, ↓u110_68, ↓u110_72, ↓u110_75, ↓u110_76, ↓u110_80, ↓u110_83, ↓u110_84, ↓u110_89, ↓u110_93, ↓u110_96, ↓u110_99, ↓u110_100, ↓u110_101, ↓u110_102, ↓u110_104, ↓u110_106, ↓u110_109, ↓u110_110, ↓u110_113, ↓u110_114, ↓u110_115, ↓u110_116, ↓u110_119, ↓u110_122, ↓v110_8, ↓v110_17, ↓v110_26, ↓v110_34, ↓v110_42, ↓v110_50, ↓v110_60, ↓v110_70, ↓v110_78, ↓v110_87, ↓lI_0, ↓lI_s, ↓lL_0, ↓lL_s, ↓lR_0, ↓lR_s, ↓sT_0, ↓sT_i, ↓sT_r, ↓sT_u, ↓sT_lu, ↓sU_0, ↓sU_i, ↓sU_r, ↓sU_u, ↓ite_bx, bx_T, bx_F, bx_pos, bx_neg, zws_i, zws_r, zws_l, zws_n, zCb_kc, xl_ll, xr_rr, xs_e, xset_e, Option.toList, List.cons_append, List.nil_append, zIb_e, zrng_e, nz_e, if_pos, if_neg, and_true, true_and, or_true, true_or, ite_self, bi_eq0, bi_eq1, bi_1, bi_0, bi_ir, bi_T, bi_F, up_eq, up_ne, ↓reduceIte, reduceIte, Nat.reduceAdd, Nat.reduceLeDiff, Nat.le_refl, Nat.zero_le, not_true_eq_false, not_false_eq_true, ne_eq, Int.reduceEq, Int.reduceLT, Int.reduceLE, Int.reduceAdd, Int.reduceSub, Int.reduceMul, Int.reduceNeg, xnew_e, xref_e, xmul_e, xn_e, nG_n, rG_n, mG_n, kc_rG, kc_nG, kc_nGT, kc_mG, kc_mGT, ll_rG, ll_nG, ll_nGy, rr_rGy, rr_rG, rr_nG, lt_x, nS_n, nS_y, hn, kk]
set_option maxRecDepth 8000 in
theorem l110 {d : Nat} {G : XS} (hk : kc G 172 6) (h6 : rr G 172 6 = 177) (h7 : kc G 177 7) (hl : ll G 177 = 6) : ∀ (j : Nat) (t : Int) (s : ZS), t + j = 6 → 0 ≤ t → (∀ c, 0 ≤ c ∧ c < t → s 177 c = -1) → ∃ s2, (∀ a c, a ≠ 177 → s2 a c = s a c) ∧ (∀ c, 0 ≤ c ∧ c < 6 → s2 177 c = -1) ∧ ∀ Q, Wp (d - 1) 110 (103, [zrf 172, zint t], [], (G, s)) Q = Q none (G, s2) := by
  have k1 := pT hk
  have k7 := pT h7
  intro j
  induction j with
  | zero =>
    intro t s h1 h2 h3
    have i6 : t = 6 := by omega
    subst i6
    refine ⟨s, fun _ _ _ => rfl, h3, fun Q => ?_⟩
    rw [u110_103]
    simp (disch := first | omega | exact rfl | (simp only [nG_n, rG_n, mG_n]; omega)) only [↓u110_0, ↓u110_1, ↓u110_4, ↓u110_5, ↓u110_10, ↓u110_13, ↓u110_14, ↓u110_19, ↓u110_22, ↓u110_23, ↓u110_28, ↓u110_31, ↓u110_32, ↓u110_36, ↓u110_39, ↓u110_40, ↓u110_44, ↓u110_47, ↓u110_48, ↓u110_52, ↓u110_55, ↓u110_56, ↓u110_58, ↓u110_64, ↓u110_67, ↓u110_68, ↓u110_72, ↓u110_75, ↓u110_76, ↓u110_80, ↓u110_83, ↓u110_84, ↓u110_89, ↓u110_92, ↓u110_93, ↓u110_96, ↓u110_99, ↓u110_100, ↓u110_101, ↓u110_102, ↓u110_104, ↓u110_106, ↓u110_109, ↓u110_110, ↓u110_113, ↓u110_114, ↓u110_115, ↓u110_116, ↓u110_119, ↓u110_122, ↓v110_8, ↓v110_17, ↓v110_26, ↓v110_34, ↓v110_42, ↓v110_50, ↓v110_60, ↓v110_70, ↓v110_78, ↓v110_87, ↓lI_0, ↓lI_s, ↓lL_0, ↓lL_s, ↓lR_0, ↓lR_s, ↓sT_0, ↓sT_i, ↓sT_r, ↓sT_u, ↓sT_lu, ↓sU_0, ↓sU_i, ↓sU_r, ↓sU_u, ↓ite_bx, bx_T, bx_F, bx_pos, bx_neg, zws_i, zws_r, zws_l, zws_n, zCb_kc, xl_ll, xr_rr, xs_e, xset_e, Option.toList, List.cons_append, List.nil_append, zIb_e, zrng_e, nz_e, if_pos, if_neg, and_true, true_and, or_true, true_or, ite_self, bi_eq0, bi_eq1, bi_1, bi_0, bi_ir, bi_T, bi_F, up_eq, up_ne, ↓reduceIte, reduceIte, Nat.reduceAdd, Nat.reduceLeDiff, Nat.le_refl, Nat.zero_le, not_true_eq_false, not_false_eq_true, ne_eq, Int.reduceEq, Int.reduceLT, Int.reduceLE, Int.reduceAdd, Int.reduceSub, Int.reduceMul, Int.reduceNeg, xnew_e, xref_e, xmul_e, xn_e, nG_n, rG_n, mG_n, kc_rG, kc_nG, kc_nGT, kc_mG, kc_mGT, ll_rG, ll_nG, ll_nGy, rr_rGy, rr_rG, rr_nG, lt_x, nS_n, nS_y]
  | succ j ih =>
    intro t s h1 h2 h3
    obtain ⟨s2, g1, g2, e⟩ := ih (t + 1) (up s 177 t (-1)) (by omega) (by omega) (fun c hc => by
      by_cases q : c = t
      · rw [q, up_eq]
      · rw [up_ne (Or.inr q)]; exact h3 c (by omega))
    refine ⟨s2, fun a c h => by rw [g1 a c h, up_ne (Or.inl h)], g2, fun Q => ?_⟩
    rw [u110_103]
    simp (disch := first | omega | exact rfl | (simp only [nG_n, rG_n, mG_n]; omega)) only [↓u110_0, ↓u110_1, ↓u110_4, ↓u110_5, ↓u110_10, ↓u110_13, ↓u110_14, ↓u110_19, ↓u110_22, ↓u110_23, ↓u110_28, ↓u110_31, ↓u110_32, ↓u110_36, ↓u110_39, ↓u110_40, ↓u110_44, ↓u110_47, ↓u110_48, ↓u110_52, ↓u110_55, ↓u110_56, ↓u110_58, ↓u110_64, ↓u110_67, ↓u110_68, ↓u110_72, ↓u110_75, ↓u110_76, ↓u110_80, ↓u110_83, ↓u110_84, ↓u110_89, ↓u110_92, ↓u110_93, ↓u110_96, ↓u110_99, ↓u110_100, ↓u110_101, ↓u110_102, ↓u110_104, ↓u110_106, ↓u110_109, ↓u110_110, ↓u110_113, ↓u110_114, ↓u110_115, ↓u110_116, ↓u110_119, ↓u110_122, ↓v110_8, ↓v110_17, ↓v110_26, ↓v110_34, ↓v110_42, ↓v110_50, ↓v110_60, ↓v110_70, ↓v110_78, ↓v110_87, ↓lI_0, ↓lI_s, ↓lL_0, ↓lL_s, ↓lR_0, ↓lR_s, ↓sT_0, ↓sT_i, ↓sT_r, ↓sT_u, ↓sT_lu, ↓sU_0, ↓sU_i, ↓sU_r, ↓sU_u, ↓ite_bx, bx_T, bx_F, bx_pos, bx_neg, zws_i, zws_r, zws_l, zws_n, zCb_kc, xl_ll, xr_rr, xs_e, xset_e, Option.toList, List.cons_append, List.nil_append, zIb_e, zrng_e, nz_e, if_pos, if_neg, and_true, true_and, or_true, true_or, ite_self, bi_eq0, bi_eq1, bi_1, bi_0, bi_ir, bi_T, bi_F, up_eq, up_ne, ↓reduceIte, reduceIte, Nat.reduceAdd, Nat.reduceLeDiff, Nat.le_refl, Nat.zero_le, not_true_eq_false, not_false_eq_true, ne_eq, Int.reduceEq, Int.reduceLT, Int.reduceLE, Int.reduceAdd, Int.reduceSub, Int.reduceMul, Int.reduceNeg, xnew_e, xref_e, xmul_e, xn_e, nG_n, rG_n, mG_n, kc_rG, kc_nG, kc_nGT, kc_mG, kc_mGT, ll_rG, ll_nG, ll_nGy, rr_rGy, rr_rG, rr_nG, lt_x, nS_n, nS_y, k1, h6, k7, hl, e]
set_option maxRecDepth 8000 in
theorem c110 {d : Nat} {G : XS} {s : ZS} (hd : 2 ≤ d) (hk : kc G 172 6) (hn : (G.1.1 : Int) = 173) : ∃ G2 s2, ((G2.1.1 : Int) = 189 ∧ G2.1.2 ≤ G.1.2 + 3000) ∧ (∀ a, (a < 172 ∨ 189 ≤ a) → SM G s G2 s2 a) ∧ MOK G2 ∧ ((∀ j, s2 172 j = s 172 j) ∧ (s2 173 362 = 3 ∧ ∀ j, j ≠ 362 → s2 173 j = 0) ∧ (∀ j, s2 178 j = 0) ∧ (∀ j, 0 ≤ j ∧ j < 6 → s2 177 j = -1) ∧ ∀ t, 0 ≤ t ∧ t < 6 → ∀ j, s2 (180 + t) j = 0) ∧ ∀ Q, Call d 110 [zrf 172] (G, s) Q = Q none (G2, s2) := by
  obtain ⟨G1, s1, ⟨n1, z1⟩, t1, a1, m1, e1⟩ := b110_4 (d := d) (G := G) (s := s) hn hk
  obtain ⟨G2, s2, ⟨n2, z2⟩, t2, a2, m2, e2⟩ := b110_13 (d := d) (G := G1) (s := s1) n1 m1.1
  obtain ⟨G3, s3, ⟨n3, z3⟩, t3, a3, m3, e3⟩ := b110_22 (d := d) (G := G2) (s := s2) n2 m2.1
  obtain ⟨G4, s4, ⟨n4, z4⟩, t4, a4, m4, e4⟩ := b110_31 (d := d) (G := G3) (s := s3) n3 m3.1
  obtain ⟨G5, s5, ⟨n5, z5⟩, t5, a5, m5, e5⟩ := b110_39 (d := d) (G := G4) (s := s4) n4 m4.1
  obtain ⟨G6, s6, ⟨n6, z6⟩, t6, a6, m6, e6⟩ := b110_47 (d := d) (G := G5) (s := s5) n5 m5.1
  obtain ⟨G7, s7, ⟨n7, z7⟩, t7, ⟨b1, b2, b3, b4⟩, m7, e7⟩ := b110_55 (d := d) (G := G6) (s := s6) n6 m6.1
  obtain ⟨G8, s8, ⟨n8, z8⟩, t8, a8, m8, e8⟩ := b110_67 (d := d) (G := G7) (s := s7) n7 m7.1
  obtain ⟨G9, s9, ⟨n9, z9⟩, t9, a9, m9, e9⟩ := b110_75 (d := d) (G := G8) (s := s8) n8 m8.1
  obtain ⟨G10, s10, ⟨n10, z10⟩, t10, a10, m10, e10⟩ := b110_83 (d := d) (G := G9) (s := s9) n9 m9.1
  have A173 : MA G10 s10 173 7 417 := MA_k a1 (SM_t (SM_t (SM_t (SM_t (SM_t (SM_t (SM_t (SM_t (t2 173 (by decide) (by decide)) (t3 173 (by decide) (by decide))) (t4 173 (by decide) (by decide))) (t5 173 (by decide) (by decide))) (t6 173 (by decide) (by decide))) (t7 173 (by decide) (by decide))) (t8 173 (by decide) (by decide))) (t9 173 (by decide) (by decide))) (t10 173 (by decide) (by decide))) (by omega)
  have A174 : MA G10 s10 174 7 417 := MA_k a2 (SM_t (SM_t (SM_t (SM_t (SM_t (SM_t (SM_t (t3 174 (by decide) (by decide)) (t4 174 (by decide) (by decide))) (t5 174 (by decide) (by decide))) (t6 174 (by decide) (by decide))) (t7 174 (by decide) (by decide))) (t8 174 (by decide) (by decide))) (t9 174 (by decide) (by decide))) (t10 174 (by decide) (by decide))) (by omega)
  have A175 : MA G10 s10 175 7 417 := MA_k a3 (SM_t (SM_t (SM_t (SM_t (SM_t (SM_t (t4 175 (by decide) (by decide)) (t5 175 (by decide) (by decide))) (t6 175 (by decide) (by decide))) (t7 175 (by decide) (by decide))) (t8 175 (by decide) (by decide))) (t9 175 (by decide) (by decide))) (t10 175 (by decide) (by decide))) (by omega)
  have A176 : MA G10 s10 176 7 100 := MA_k a4 (SM_t (SM_t (SM_t (SM_t (SM_t (t5 176 (by decide) (by decide)) (t6 176 (by decide) (by decide))) (t7 176 (by decide) (by decide))) (t8 176 (by decide) (by decide))) (t9 176 (by decide) (by decide))) (t10 176 (by decide) (by decide))) (by omega)
  have A177 : MA G10 s10 177 7 6 := MA_k a5 (SM_t (SM_t (SM_t (SM_t (t6 177 (by decide) (by decide)) (t7 177 (by decide) (by decide))) (t8 177 (by decide) (by decide))) (t9 177 (by decide) (by decide))) (t10 177 (by decide) (by decide))) (by omega)
  have A178 : MA G10 s10 178 7 6 := MA_k a6 (SM_t (SM_t (SM_t (t7 178 (by decide) (by decide)) (t8 178 (by decide) (by decide))) (t9 178 (by decide) (by decide))) (t10 178 (by decide) (by decide))) (by omega)
  have B0 : SM G7 s7 G10 s10 179 := SM_t (SM_t (t8 179 (by decide) (by decide)) (t9 179 (by decide) (by decide))) (t10 179 (by decide) (by decide))
  have BI : ∀ t, 0 ≤ t ∧ t < 6 → SM G7 s7 G10 s10 (180 + t) := fun t ht => SM_t (SM_t (t8 (180 + t) (by clear b2; omega) (by clear b2; omega)) (t9 (180 + t) (by clear b2; omega) (by clear b2; omega))) (t10 (180 + t) (by clear b2; omega) (by clear b2; omega))
  have A186 : MA G10 s10 186 8 60 := MA_k a8 (SM_t (t9 186 (by decide) (by decide)) (t10 186 (by decide) (by decide))) (by omega)
  have A187 : MA G10 s10 187 7 64 := MA_k a9 (t10 187 (by decide) (by decide)) (by omega)
  have A188 : MA G10 s10 188 7 417 := MA_k a10 (SM_i) (by omega)
  have R0 : rr G10 172 0 = 173 := by rw [m10.2.2.1 0 (by decide), m9.2.2.1 0 (by decide), m8.2.2.1 0 (by decide), m7.2.2.1 0 (by decide), m6.2.2.1 0 (by decide), m5.2.2.1 0 (by decide), m4.2.2.1 0 (by decide), m3.2.2.1 0 (by decide), m2.2.2.1 0 (by decide)]; exact m1.2.1
  have R1 : rr G10 172 1 = 174 := by rw [m10.2.2.1 1 (by decide), m9.2.2.1 1 (by decide), m8.2.2.1 1 (by decide), m7.2.2.1 1 (by decide), m6.2.2.1 1 (by decide), m5.2.2.1 1 (by decide), m4.2.2.1 1 (by decide), m3.2.2.1 1 (by decide)]; exact m2.2.1
  have R2 : rr G10 172 2 = 175 := by rw [m10.2.2.1 2 (by decide), m9.2.2.1 2 (by decide), m8.2.2.1 2 (by decide), m7.2.2.1 2 (by decide), m6.2.2.1 2 (by decide), m5.2.2.1 2 (by decide), m4.2.2.1 2 (by decide)]; exact m3.2.1
  have R4 : rr G10 172 4 = 176 := by rw [m10.2.2.1 4 (by decide), m9.2.2.1 4 (by decide), m8.2.2.1 4 (by decide), m7.2.2.1 4 (by decide), m6.2.2.1 4 (by decide), m5.2.2.1 4 (by decide)]; exact m4.2.1
  have R6 : rr G10 172 6 = 177 := by rw [m10.2.2.1 6 (by decide), m9.2.2.1 6 (by decide), m8.2.2.1 6 (by decide), m7.2.2.1 6 (by decide), m6.2.2.1 6 (by decide)]; exact m5.2.1
  have R7 : rr G10 172 7 = 178 := by rw [m10.2.2.1 7 (by decide), m9.2.2.1 7 (by decide), m8.2.2.1 7 (by decide), m7.2.2.1 7 (by decide)]; exact m6.2.1
  have R8 : rr G10 172 8 = 179 := by rw [m10.2.2.1 8 (by decide), m9.2.2.1 8 (by decide), m8.2.2.1 8 (by decide)]; exact m7.2.1
  have R9 : rr G10 172 9 = 186 := by rw [m10.2.2.1 9 (by decide), m9.2.2.1 9 (by decide)]; exact m8.2.1
  have R12 : rr G10 172 12 = 187 := by rw [m10.2.2.1 12 (by decide)]; exact m9.2.1
  have R17 : rr G10 172 17 = 188 := by exact m10.2.1
  have TO : ∀ a, (a < 172 ∨ 189 ≤ a) → SM G s G10 s10 a := fun a ha => by
    have y1 : a ≠ 172 := by omega
    have x1 := t1 a y1 (by omega)
    have x2 := t2 a y1 (by omega)
    have x3 := t3 a y1 (by omega)
    have x4 := t4 a y1 (by omega)
    have x5 := t5 a y1 (by omega)
    have x6 := t6 a y1 (by omega)
    have x7 := t7 a y1 (by omega)
    have x8 := t8 a y1 (by omega)
    have x9 := t9 a y1 (by omega)
    have x10 := t10 a y1 (by omega)
    exact SM_t (SM_t (SM_t (SM_t (SM_t (SM_t (SM_t (SM_t (SM_t (x1) (x2)) (x3)) (x4)) (x5)) (x6)) (x7)) (x8)) (x9)) (x10)
  have S0 : ∀ j, s10 172 j = s 172 j := fun j => by rw [m10.2.2.2 j, m9.2.2.2 j, m8.2.2.2 j, m7.2.2.2 j, m6.2.2.2 j, m5.2.2.2 j, m4.2.2.2 j, m3.2.2.2 j, m2.2.2.2 j, m1.2.2.2 j]
  obtain ⟨s11, g1, g2, e11⟩ := l110 (d := d) (G := G10) m10.1 R6 A177.1 A177.2.1 6 0 (up s10 173 362 3) (by decide) (by decide) (fun c hc => by omega)
  have zz : G10.1.2 ≤ G.1.2 + 3000 := by omega
  have n7 : G7.1.1 ≤ G10.1.1 := by omega
  refine ⟨G10, s11, ⟨n10, zz⟩, fun a ha => ?_, ⟨m10.1, R0, R1, R2, R4, R6, R7, R8, R9, R12, R17, A173.1, A173.2.1, A174.1, A174.2.1, A175.1, A175.2.1, A176.1, A176.2.1, A177.1, A177.2.1, A178.1, A178.2.1, SM_k B0 b1 n7, B0.2.1.trans b2, fun t ht => (B0.2.2.1 t).trans (b3 t ht), fun t ht => (MA_k (b4 t ht) (BI t ht) n7).1, fun t ht => (MA_k (b4 t ht) (BI t ht) n7).2.1, A186.1, A186.2.1, A187.1, A187.2.1, A188.1, A188.2.1⟩, ⟨fun j => ?_, ⟨?_, fun j hj => ?_⟩, fun j => ?_, g2, fun t ht j => ?_⟩, fun Q => ?_⟩
  · have x1 : a ≠ 177 := by clear R0 R1 R2 R4 R6 R7 R8 R9 R12 R17 b2; omega
    have x2 : a ≠ 173 := by clear R0 R1 R2 R4 R6 R7 R8 R9 R12 R17 b2; omega
    exact SM_t (TO a ha) ⟨rfl, rfl, fun j => rfl, fun j => by rw [g1 a j x1, up_ne (Or.inl x2)]⟩
  · rw [g1 _ _ (by decide), up_ne (Or.inl (by decide))]; exact S0 j
  · rw [g1 _ _ (by decide), up_eq]
  · rw [g1 _ _ (by decide), up_ne (Or.inr hj)]; exact A173.2.2 j
  · rw [g1 _ _ (by decide), up_ne (Or.inl (by decide))]; exact A178.2.2 j
  · have x1 : 180 + t ≠ 177 := by clear R0 R1 R2 R4 R6 R7 R8 R9 R12 R17 b2; omega
    have x2 : 180 + t ≠ 173 := by clear R0 R1 R2 R4 R6 R7 R8 R9 R12 R17 b2; omega
    rw [g1 _ _ x1, up_ne (Or.inl x2)]
    exact (MA_k (b4 t ht) (BI t ht) n7).2.2 j
  · have h0 : (0 ≤ (172 : Int)) = True := pT (by decide)
    have p1 := pT m10.1
    have p3 := pT A173.1
    have p4 := A173.2.1
    rw [e110 (show 1 ≤ d by omega), ← e11 Q]
    have E : Wp (d - 1) 110 (0, [zrf 172, zun], [], (G, s)) Q = Wp (d - 1) 110 (4, [zrf 172, zun], [], (G, s)) Q := by
      clear TO A173 A174 A175 A176 A177 A178 A186 A187 A188 B0 BI b1 b2 b3 b4
      simp (disch := first | omega | exact rfl | (simp only [nG_n, rG_n, mG_n]; omega)) only [↓u110_0, ↓u110_1, ↓u110_5, ↓u110_10, ↓u110_13, ↓u110_14, ↓u110_19, ↓u110_22, ↓u110_23, ↓u110_28, ↓u110_31, ↓u110_32, ↓u110_36, ↓u110_39, ↓u110_40, ↓u110_44, ↓u110_47, ↓u110_48, ↓u110_52, ↓u110_55, ↓u110_56, ↓u110_58, ↓u110_64, ↓u110_67, ↓u110_68, ↓u110_72, ↓u110_75, ↓u110_76, ↓u110_80, ↓u110_83, ↓u110_84, ↓u110_89, ↓u110_92, ↓u110_93, ↓u110_96, ↓u110_99, ↓u110_100, ↓u110_101, ↓u110_102, ↓u110_103, ↓u110_104, ↓u110_106, ↓u110_109, ↓u110_110, ↓u110_113, ↓u110_114, ↓u110_115, ↓u110_116, ↓u110_119, ↓u110_122, ↓v110_8, ↓v110_17, ↓v110_26, ↓v110_34, ↓v110_42, ↓v110_50, ↓v110_60, ↓v110_70, ↓v110_78, ↓v110_87, ↓lI_0, ↓lI_s, ↓lL_0, ↓lL_s, ↓lR_0, ↓lR_s, ↓sT_0, ↓sT_i, ↓sT_r, ↓sT_u, ↓sT_lu, ↓sU_0, ↓sU_i, ↓sU_r, ↓sU_u, ↓ite_bx, bx_T, bx_F, bx_pos, bx_neg, zws_i, zws_r, zws_l, zws_n, zCb_kc, xl_ll, xr_rr, xs_e, xset_e, Option.toList, List.cons_append, List.nil_append, zIb_e, zrng_e, nz_e, if_pos, if_neg, and_true, true_and, or_true, true_or, ite_self, bi_eq0, bi_eq1, bi_1, bi_0, bi_ir, bi_T, bi_F, up_eq, up_ne, ↓reduceIte, reduceIte, Nat.reduceAdd, Nat.reduceLeDiff, Nat.le_refl, Nat.zero_le, not_true_eq_false, not_false_eq_true, ne_eq, Int.reduceEq, Int.reduceLT, Int.reduceLE, Int.reduceAdd, Int.reduceSub, Int.reduceMul, Int.reduceNeg, xnew_e, xref_e, xmul_e, xn_e, nG_n, rG_n, mG_n, kc_rG, kc_nG, kc_nGT, kc_mG, kc_mGT, ll_rG, ll_nG, ll_nGy, rr_rGy, rr_rG, rr_nG, lt_x, nS_n, nS_y, h0]
    rw [E, e1, e2, e3, e4, e5, e6, e7, e8, e9, e10]
    clear TO A174 A175 A176 A177 A178 A186 A187 A188 B0 BI b1 b2 b3 b4
    simp (disch := first | omega | exact rfl | (simp only [nG_n, rG_n, mG_n]; omega)) only [↓u110_0, ↓u110_1, ↓u110_4, ↓u110_5, ↓u110_10, ↓u110_13, ↓u110_14, ↓u110_19, ↓u110_22, ↓u110_23, ↓u110_28, ↓u110_31, ↓u110_32, ↓u110_36, ↓u110_39, ↓u110_40, ↓u110_44, ↓u110_47, ↓u110_48, ↓u110_52, ↓u110_55, ↓u110_56, ↓u110_58, ↓u110_64, ↓u110_67, ↓u110_68, ↓u110_72, ↓u110_75, ↓u110_76, ↓u110_80, ↓u110_83, ↓u110_84, ↓u110_89, ↓u110_92, ↓u110_93, ↓u110_96, ↓u110_99, ↓u110_100, ↓u110_101, ↓u110_102, ↓u110_104, ↓u110_106, ↓u110_109, ↓u110_110, ↓u110_113, ↓u110_114, ↓u110_115, ↓u110_116, ↓u110_119, ↓u110_122, ↓v110_8, ↓v110_17, ↓v110_26, ↓v110_34, ↓v110_42, ↓v110_50, ↓v110_60, ↓v110_70, ↓v110_78, ↓v110_87, ↓lI_0, ↓lI_s, ↓lL_0, ↓lL_s, ↓lR_0, ↓lR_s, ↓sT_0, ↓sT_i, ↓sT_r, ↓sT_u, ↓sT_lu, ↓sU_0, ↓sU_i, ↓sU_r, ↓sU_u, ↓ite_bx, bx_T, bx_F, bx_pos, bx_neg, zws_i, zws_r, zws_l, zws_n, zCb_kc, xl_ll, xr_rr, xs_e, xset_e, Option.toList, List.cons_append, List.nil_append, zIb_e, zrng_e, nz_e, if_pos, if_neg, and_true, true_and, or_true, true_or, ite_self, bi_eq0, bi_eq1, bi_1, bi_0, bi_ir, bi_T, bi_F, up_eq, up_ne, ↓reduceIte, reduceIte, Nat.reduceAdd, Nat.reduceLeDiff, Nat.le_refl, Nat.zero_le, not_true_eq_false, not_false_eq_true, ne_eq, Int.reduceEq, Int.reduceLT, Int.reduceLE, Int.reduceAdd, Int.reduceSub, Int.reduceMul, Int.reduceNeg, xnew_e, xref_e, xmul_e, xn_e, nG_n, rG_n, mG_n, kc_rG, kc_nG, kc_nGT, kc_mG, kc_mGT, ll_rG, ll_nG, ll_nGy, rr_rGy, rr_rG, rr_nG, lt_x, nS_n, nS_y, p1, R0, p3, p4]
