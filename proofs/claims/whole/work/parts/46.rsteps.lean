/-! the reference: steps, what will be -/
set_option maxRecDepth 8000 in
theorem fmd {n r : Int} (hr : 0 < r) : (n.tmod r + r).tmod r = n % r := by
  have h1 := Int.lt_tmod_of_pos n hr
  rw [tm_e (by omega), show n.tmod r + r = n + r * (1 - n.tdiv r) by rw [Int.tmod_def, Int.mul_sub, Int.mul_one]; omega, Int.add_mul_emod_self_left]
/-- all but the boxes and the time of the reference as it was -/
def fgb (s s2 : ZS) : Prop := ∀ a c, (a ≠ 173 ∨ c < 0 ∨ 361 < c) → s2 a c = s a c
set_option maxRecDepth 8000 in
theorem fgb_r (s : ZS) : fgb s s := fun a c _ => rfl
set_option maxRecDepth 8000 in
theorem fgb_t {s s2 s3 : ZS} (h1 : fgb s s2) (h2 : fgb s2 s3) : fgb s s3 := fun a c h => by rw [h2 a c h, h1 a c h]
set_option maxRecDepth 8000 in
theorem fgb_u {s : ZS} {c v : Int} (hc : 0 ≤ c ∧ c ≤ 361) : fgb s (up s 173 c v) := fun a b h => up_ne (by omega)
set_option maxRecDepth 8000 in
theorem RV_c {s : ZS} {A : Int} {B C : ZS} {N R T : Int} (hv : RV s A B N R T) (h8 : ∀ i, 0 ≤ i ∧ i < N → C i 8 = B i 8) (h : ∀ i f, ((0 ≤ i ∧ i < N) ∧ B i 8 = 1) ∧ 0 ≤ f ∧ f < 8 → C i f = B i f) : RV s A C N R T := by
  obtain ⟨v1, v2, v3, v4, v5, v6⟩ := hv
  refine ⟨v1, v2, v3, fun i hi => by rw [v4 i hi, h8 i hi], fun i f hf => ?_, v6⟩
  have e := h8 i hf.1.1
  rw [h i f ⟨⟨hf.1.1, by rw [← e]; exact hf.1.2⟩, hf.2⟩]
  exact v5 i f ⟨⟨hf.1.1, by rw [← e]; exact hf.1.2⟩, hf.2⟩
set_option maxRecDepth 8000 in
theorem RV_u {s : ZS} {B : ZS} {N R T b f v : Int} (hv : RV s 173 B N R T) (hN : N ≤ 40) (hb : 0 ≤ b ∧ b < N) (hf : 0 ≤ f ∧ f < 8) (h1 : f = 1 → 0 ≤ v ∧ v ≤ 1) : RV (up s 173 (b * 9 + f) v) 173 (up B b f v) N R T := by
  obtain ⟨v1, v2, v3, v4, v5, v6⟩ := hv
  refine ⟨by rw [up_ne (by omega)]; exact v1, by rw [up_ne (by omega)]; exact v2, by rw [up_ne (by omega)]; exact v3, fun i hi => ?_, fun i g hg => ?_, fun i hi => ?_⟩
  · rw [up_ne (by omega), up_ne (by omega)]
    exact v4 i hi
  · have e8 : up B b f v i 8 = B i 8 := up_ne (by omega)
    rw [e8] at hg
    by_cases e : i = b ∧ g = f
    · rw [e.1, e.2, up_eq, up_eq]
    · rw [up_ne (by omega), up_ne (by omega)]
      exact v5 i g hg
  · by_cases e : i = b ∧ f = 1
    · rw [e.1, e.2, up_eq]
      exact h1 e.2
    · rw [up_ne (by omega)]
      exact v6 i hi
set_option maxRecDepth 8000 in
theorem RV_g {s : ZS} {B : ZS} {N R T b : Int} (hv : RV s 173 B N R T) (hN : N ≤ 40) (hb : 0 ≤ b ∧ b < N) : RV (up s 173 (b * 9 + 8) 1) 173 (up B b 8 0) N R T := by
  obtain ⟨v1, v2, v3, v4, v5, v6⟩ := hv
  refine ⟨by rw [up_ne (by omega)]; exact v1, by rw [up_ne (by omega)]; exact v2, by rw [up_ne (by omega)]; exact v3, fun i hi => ?_, fun i g hg => ?_, fun i hi => ?_⟩
  · by_cases e : i = b
    · rw [e, up_eq, up_eq]; rfl
    · rw [up_ne (by omega), up_ne (by omega)]
      exact v4 i hi
  · by_cases e : i = b
    · rw [e, up_eq] at hg
      omega
    · rw [up_ne (Or.inl e)] at hg ⊢
      rw [up_ne (by omega)]
      exact v5 i g hg
  · rw [up_ne (by omega)]
    exact v6 i hi
set_option maxRecDepth 8000 in
theorem RV_t {s : ZS} {B : ZS} {N R T v : Int} (hv : RV s 173 B N R T) (hN : N ≤ 40) : RV (up s 173 361 v) 173 B N R v := by
  obtain ⟨v1, v2, v3, v4, v5, v6⟩ := hv
  exact ⟨by rw [up_ne (by omega)]; exact v1, up_eq, by rw [up_ne (by omega)]; exact v3, fun i hi => by rw [up_ne (by omega)]; exact v4 i hi, fun i g hg => by rw [up_ne (by omega)]; exact v5 i g hg, fun i hi => by rw [up_ne (by omega)]; exact v6 i hi⟩
set_option maxRecDepth 8000 in
theorem RV_r {s : ZS} {B : ZS} {N R T v : Int} (hv : RV s 173 B N R T) (hN : N ≤ 40) : RV (up s 173 362 v) 173 B N v T := by
  obtain ⟨v1, v2, v3, v4, v5, v6⟩ := hv
  exact ⟨by rw [up_ne (by omega)]; exact v1, by rw [up_ne (by omega)]; exact v2, up_eq, fun i hi => by rw [up_ne (by omega)]; exact v4 i hi, fun i g hg => by rw [up_ne (by omega)]; exact v5 i g hg, fun i hi => by rw [up_ne (by omega)]; exact v6 i hi⟩
def axs (s : ZS) (b p q w v : Int) : ZS := up (up s 173 (b * 9 + q) w) 173 (b * 9 + p) v
set_option maxRecDepth 8000 in
theorem s160_2 {d : Nat} {Q : Option AV → XH → Prop} {G : XS} {s : ZS} {B : ZS} {N R T : Int} {b : Int} (hd : 2 ≤ d) (hg : MOK G) (hv : RV s 173 B N R T) (hb : OKB B N) (hn : 0 ≤ N ∧ N ≤ 40 ∧ 0 ≤ R ∧ R ≤ 10 ∧ 0 ≤ T ∧ T ≤ 20000) (h : hr B N b) (hk : 1 ≤ B b 0) : Call d 160 [zrf 172, zint b, zint 2, zint 4, zint 6] (G, s) Q = Q (none) (G, axs s b 2 6 (stw (B b 0) (B b 2) (B b 4) (B b 6)) (stv (B b 0) (B b 2) (B b 4) (B b 6))) := by
  have hg' := hg
  obtain ⟨g1, g2, g3, g4, g5, g6, g7, g8, g9, g10, g11, g12, g13, g14, g15, g16, g17, g18, g19, g20, g21, g22, g23, g24, g25, g26, g27, g28, g29, g30, g31, g32, g33, g34⟩ := hg'
  have hv' := hv
  obtain ⟨v1, v2, v3, v4, v5, v6⟩ := hv'
  rw [e160 (show 1 ≤ d by omega)]
  have b8 := hb b h.1
  have hx : s 173 (b * 9 + 6) = B b 6 := v5 b 6 ⟨h, by omega⟩
  unfold axs
  by_cases k3 : B b 0 = 3
  · rw [stv_3 k3, stw_0 (by omega), up_id hx]
    have fm := fmd (n := B b 2 + B b 6) (r := 129 - B b 4) (by omega)
    have t1 := Int.lt_tmod_of_pos (B b 2 + B b 6) (b := 129 - B b 4) (by omega)
    have t2 := Int.tmod_lt_of_pos (B b 2 + B b 6) (b := 129 - B b 4) (by omega)
    have e9 : 128 - B b 4 + 1 = 129 - B b 4 := by omega
    simp (disch := first | omega | exact rfl) only [↓u160_0, ↓u160_1, ↓u160_2, ↓u160_4, ↓u160_7, ↓u160_9, ↓u160_12, ↓u160_13, ↓u160_14, ↓u160_15, ↓u160_18, ↓u160_19, ↓u160_21, ↓u160_22, ↓u160_23, ↓u160_24, ↓u160_27, ↓u160_29, ↓u160_30, ↓u160_32, ↓u160_33, ↓u160_34, ↓u160_35, ↓u160_38, ↓u160_39, ↓u160_42, ↓u160_44, ↓u160_45, ↓u160_46, ↓u160_48, ↓u160_50, ↓u160_52, ↓u160_53, ↓u160_55, ↓u160_56, ↓u160_58, ↓u160_59, ↓u160_61, ↓u160_64, ↓u160_66, ↓u160_69, ↓u160_71, ↓u160_73, ↓u160_76, ↓u160_78, ↓u160_81, ↓u160_82, ↓u160_85, ↓u160_87, ↓u160_89, ↓u160_90, ↓u160_91, ↓u160_92, ↓u160_95, ↓u160_96, ↓u160_99, ↓u160_100, ↓u160_101, ↓u160_103, ↓u160_105, ↓u160_106, ↓u160_109, ↓u160_110, ↓u160_111, ↓u160_112, ↓u160_114, ↓u160_117, ↓lI_0, ↓lI_s, ↓lL_0, ↓lL_s, ↓lR_0, ↓lR_s, ↓sT_0, ↓sT_i, ↓sT_r, ↓sT_u, ↓sT_lu, ↓sU_0, ↓sU_i, ↓sU_r, ↓sU_u, ↓ite_bx, bx_T, bx_F, bx_pos, bx_neg, zws_i, zws_r, zws_l, zws_n, zCb_kc, xl_ll, xr_rr, xs_e, xset_e, Option.toList, List.cons_append, List.nil_append, zIb_e, zrng_e, nz_e, if_pos, if_neg, and_true, true_and, or_true, true_or, ite_self, bi_eq0, bi_eq1, bi_1, bi_0, bi_ir, bi_T, bi_F, up_eq, up_ne, ↓reduceIte, reduceIte, Nat.reduceAdd, Nat.reduceLeDiff, Nat.le_refl, Nat.zero_le, not_true_eq_false, not_false_eq_true, ne_eq, Int.reduceEq, Int.reduceLT, Int.reduceLE, Int.reduceAdd, Int.reduceSub, Int.reduceMul, Int.reduceNeg, pT g1, g2, g3, g4, g5, g6, g7, g8, g9, g10, g11, pT g12, zSb_e' g12, g13, v1, v2, v3, s113 (show 1 ≤ d - 1 by omega) hg hv hn h, s114 (show 1 ≤ d - 1 by omega) hg, e9, fm]
  · rw [stv_m (by omega)]
    by_cases q1 : B b 2 + B b 6 < 0
    · rw [show max 0 (min (128 - B b 4) (B b 2 + B b 6)) = 0 by omega]
      by_cases k2 : B b 0 = 2
      · rw [stw_1 (by omega)]
        simp (disch := first | omega | exact rfl) only [↓u160_0, ↓u160_1, ↓u160_2, ↓u160_4, ↓u160_7, ↓u160_9, ↓u160_12, ↓u160_13, ↓u160_14, ↓u160_15, ↓u160_18, ↓u160_19, ↓u160_21, ↓u160_22, ↓u160_23, ↓u160_24, ↓u160_27, ↓u160_29, ↓u160_30, ↓u160_32, ↓u160_33, ↓u160_34, ↓u160_35, ↓u160_38, ↓u160_39, ↓u160_42, ↓u160_44, ↓u160_45, ↓u160_46, ↓u160_48, ↓u160_50, ↓u160_52, ↓u160_53, ↓u160_55, ↓u160_56, ↓u160_58, ↓u160_59, ↓u160_61, ↓u160_64, ↓u160_66, ↓u160_69, ↓u160_71, ↓u160_73, ↓u160_76, ↓u160_78, ↓u160_81, ↓u160_82, ↓u160_85, ↓u160_87, ↓u160_89, ↓u160_90, ↓u160_91, ↓u160_92, ↓u160_95, ↓u160_96, ↓u160_99, ↓u160_100, ↓u160_101, ↓u160_103, ↓u160_105, ↓u160_106, ↓u160_109, ↓u160_110, ↓u160_111, ↓u160_112, ↓u160_114, ↓u160_117, ↓lI_0, ↓lI_s, ↓lL_0, ↓lL_s, ↓lR_0, ↓lR_s, ↓sT_0, ↓sT_i, ↓sT_r, ↓sT_u, ↓sT_lu, ↓sU_0, ↓sU_i, ↓sU_r, ↓sU_u, ↓ite_bx, bx_T, bx_F, bx_pos, bx_neg, zws_i, zws_r, zws_l, zws_n, zCb_kc, xl_ll, xr_rr, xs_e, xset_e, Option.toList, List.cons_append, List.nil_append, zIb_e, zrng_e, nz_e, if_pos, if_neg, and_true, true_and, or_true, true_or, ite_self, bi_eq0, bi_eq1, bi_1, bi_0, bi_ir, bi_T, bi_F, up_eq, up_ne, ↓reduceIte, reduceIte, Nat.reduceAdd, Nat.reduceLeDiff, Nat.le_refl, Nat.zero_le, not_true_eq_false, not_false_eq_true, ne_eq, Int.reduceEq, Int.reduceLT, Int.reduceLE, Int.reduceAdd, Int.reduceSub, Int.reduceMul, Int.reduceNeg, pT g1, g2, g3, g4, g5, g6, g7, g8, g9, g10, g11, pT g12, zSb_e' g12, g13, v1, v2, v3, s113 (show 1 ≤ d - 1 by omega) hg hv hn h, s114 (show 1 ≤ d - 1 by omega) hg]
      · rw [stw_0 (by omega), up_id hx]
        simp (disch := first | omega | exact rfl) only [↓u160_0, ↓u160_1, ↓u160_2, ↓u160_4, ↓u160_7, ↓u160_9, ↓u160_12, ↓u160_13, ↓u160_14, ↓u160_15, ↓u160_18, ↓u160_19, ↓u160_21, ↓u160_22, ↓u160_23, ↓u160_24, ↓u160_27, ↓u160_29, ↓u160_30, ↓u160_32, ↓u160_33, ↓u160_34, ↓u160_35, ↓u160_38, ↓u160_39, ↓u160_42, ↓u160_44, ↓u160_45, ↓u160_46, ↓u160_48, ↓u160_50, ↓u160_52, ↓u160_53, ↓u160_55, ↓u160_56, ↓u160_58, ↓u160_59, ↓u160_61, ↓u160_64, ↓u160_66, ↓u160_69, ↓u160_71, ↓u160_73, ↓u160_76, ↓u160_78, ↓u160_81, ↓u160_82, ↓u160_85, ↓u160_87, ↓u160_89, ↓u160_90, ↓u160_91, ↓u160_92, ↓u160_95, ↓u160_96, ↓u160_99, ↓u160_100, ↓u160_101, ↓u160_103, ↓u160_105, ↓u160_106, ↓u160_109, ↓u160_110, ↓u160_111, ↓u160_112, ↓u160_114, ↓u160_117, ↓lI_0, ↓lI_s, ↓lL_0, ↓lL_s, ↓lR_0, ↓lR_s, ↓sT_0, ↓sT_i, ↓sT_r, ↓sT_u, ↓sT_lu, ↓sU_0, ↓sU_i, ↓sU_r, ↓sU_u, ↓ite_bx, bx_T, bx_F, bx_pos, bx_neg, zws_i, zws_r, zws_l, zws_n, zCb_kc, xl_ll, xr_rr, xs_e, xset_e, Option.toList, List.cons_append, List.nil_append, zIb_e, zrng_e, nz_e, if_pos, if_neg, and_true, true_and, or_true, true_or, ite_self, bi_eq0, bi_eq1, bi_1, bi_0, bi_ir, bi_T, bi_F, up_eq, up_ne, ↓reduceIte, reduceIte, Nat.reduceAdd, Nat.reduceLeDiff, Nat.le_refl, Nat.zero_le, not_true_eq_false, not_false_eq_true, ne_eq, Int.reduceEq, Int.reduceLT, Int.reduceLE, Int.reduceAdd, Int.reduceSub, Int.reduceMul, Int.reduceNeg, pT g1, g2, g3, g4, g5, g6, g7, g8, g9, g10, g11, pT g12, zSb_e' g12, g13, v1, v2, v3, s113 (show 1 ≤ d - 1 by omega) hg hv hn h, s114 (show 1 ≤ d - 1 by omega) hg]
    · by_cases q2 : 128 - B b 4 < B b 2 + B b 6
      · rw [show max 0 (min (128 - B b 4) (B b 2 + B b 6)) = 128 - B b 4 by omega]
        by_cases k2 : B b 0 = 2
        · rw [stw_1 (by omega)]
          simp (disch := first | omega | exact rfl) only [↓u160_0, ↓u160_1, ↓u160_2, ↓u160_4, ↓u160_7, ↓u160_9, ↓u160_12, ↓u160_13, ↓u160_14, ↓u160_15, ↓u160_18, ↓u160_19, ↓u160_21, ↓u160_22, ↓u160_23, ↓u160_24, ↓u160_27, ↓u160_29, ↓u160_30, ↓u160_32, ↓u160_33, ↓u160_34, ↓u160_35, ↓u160_38, ↓u160_39, ↓u160_42, ↓u160_44, ↓u160_45, ↓u160_46, ↓u160_48, ↓u160_50, ↓u160_52, ↓u160_53, ↓u160_55, ↓u160_56, ↓u160_58, ↓u160_59, ↓u160_61, ↓u160_64, ↓u160_66, ↓u160_69, ↓u160_71, ↓u160_73, ↓u160_76, ↓u160_78, ↓u160_81, ↓u160_82, ↓u160_85, ↓u160_87, ↓u160_89, ↓u160_90, ↓u160_91, ↓u160_92, ↓u160_95, ↓u160_96, ↓u160_99, ↓u160_100, ↓u160_101, ↓u160_103, ↓u160_105, ↓u160_106, ↓u160_109, ↓u160_110, ↓u160_111, ↓u160_112, ↓u160_114, ↓u160_117, ↓lI_0, ↓lI_s, ↓lL_0, ↓lL_s, ↓lR_0, ↓lR_s, ↓sT_0, ↓sT_i, ↓sT_r, ↓sT_u, ↓sT_lu, ↓sU_0, ↓sU_i, ↓sU_r, ↓sU_u, ↓ite_bx, bx_T, bx_F, bx_pos, bx_neg, zws_i, zws_r, zws_l, zws_n, zCb_kc, xl_ll, xr_rr, xs_e, xset_e, Option.toList, List.cons_append, List.nil_append, zIb_e, zrng_e, nz_e, if_pos, if_neg, and_true, true_and, or_true, true_or, ite_self, bi_eq0, bi_eq1, bi_1, bi_0, bi_ir, bi_T, bi_F, up_eq, up_ne, ↓reduceIte, reduceIte, Nat.reduceAdd, Nat.reduceLeDiff, Nat.le_refl, Nat.zero_le, not_true_eq_false, not_false_eq_true, ne_eq, Int.reduceEq, Int.reduceLT, Int.reduceLE, Int.reduceAdd, Int.reduceSub, Int.reduceMul, Int.reduceNeg, pT g1, g2, g3, g4, g5, g6, g7, g8, g9, g10, g11, pT g12, zSb_e' g12, g13, v1, v2, v3, s113 (show 1 ≤ d - 1 by omega) hg hv hn h, s114 (show 1 ≤ d - 1 by omega) hg]
        · rw [stw_0 (by omega), up_id hx]
          simp (disch := first | omega | exact rfl) only [↓u160_0, ↓u160_1, ↓u160_2, ↓u160_4, ↓u160_7, ↓u160_9, ↓u160_12, ↓u160_13, ↓u160_14, ↓u160_15, ↓u160_18, ↓u160_19, ↓u160_21, ↓u160_22, ↓u160_23, ↓u160_24, ↓u160_27, ↓u160_29, ↓u160_30, ↓u160_32, ↓u160_33, ↓u160_34, ↓u160_35, ↓u160_38, ↓u160_39, ↓u160_42, ↓u160_44, ↓u160_45, ↓u160_46, ↓u160_48, ↓u160_50, ↓u160_52, ↓u160_53, ↓u160_55, ↓u160_56, ↓u160_58, ↓u160_59, ↓u160_61, ↓u160_64, ↓u160_66, ↓u160_69, ↓u160_71, ↓u160_73, ↓u160_76, ↓u160_78, ↓u160_81, ↓u160_82, ↓u160_85, ↓u160_87, ↓u160_89, ↓u160_90, ↓u160_91, ↓u160_92, ↓u160_95, ↓u160_96, ↓u160_99, ↓u160_100, ↓u160_101, ↓u160_103, ↓u160_105, ↓u160_106, ↓u160_109, ↓u160_110, ↓u160_111, ↓u160_112, ↓u160_114, ↓u160_117, ↓lI_0, ↓lI_s, ↓lL_0, ↓lL_s, ↓lR_0, ↓lR_s, ↓sT_0, ↓sT_i, ↓sT_r, ↓sT_u, ↓sT_lu, ↓sU_0, ↓sU_i, ↓sU_r, ↓sU_u, ↓ite_bx, bx_T, bx_F, bx_pos, bx_neg, zws_i, zws_r, zws_l, zws_n, zCb_kc, xl_ll, xr_rr, xs_e, xset_e, Option.toList, List.cons_append, List.nil_append, zIb_e, zrng_e, nz_e, if_pos, if_neg, and_true, true_and, or_true, true_or, ite_self, bi_eq0, bi_eq1, bi_1, bi_0, bi_ir, bi_T, bi_F, up_eq, up_ne, ↓reduceIte, reduceIte, Nat.reduceAdd, Nat.reduceLeDiff, Nat.le_refl, Nat.zero_le, not_true_eq_false, not_false_eq_true, ne_eq, Int.reduceEq, Int.reduceLT, Int.reduceLE, Int.reduceAdd, Int.reduceSub, Int.reduceMul, Int.reduceNeg, pT g1, g2, g3, g4, g5, g6, g7, g8, g9, g10, g11, pT g12, zSb_e' g12, g13, v1, v2, v3, s113 (show 1 ≤ d - 1 by omega) hg hv hn h, s114 (show 1 ≤ d - 1 by omega) hg]
      · rw [show max 0 (min (128 - B b 4) (B b 2 + B b 6)) = B b 2 + B b 6 by omega, stw_0 (by omega), up_id hx]
        simp (disch := first | omega | exact rfl) only [↓u160_0, ↓u160_1, ↓u160_2, ↓u160_4, ↓u160_7, ↓u160_9, ↓u160_12, ↓u160_13, ↓u160_14, ↓u160_15, ↓u160_18, ↓u160_19, ↓u160_21, ↓u160_22, ↓u160_23, ↓u160_24, ↓u160_27, ↓u160_29, ↓u160_30, ↓u160_32, ↓u160_33, ↓u160_34, ↓u160_35, ↓u160_38, ↓u160_39, ↓u160_42, ↓u160_44, ↓u160_45, ↓u160_46, ↓u160_48, ↓u160_50, ↓u160_52, ↓u160_53, ↓u160_55, ↓u160_56, ↓u160_58, ↓u160_59, ↓u160_61, ↓u160_64, ↓u160_66, ↓u160_69, ↓u160_71, ↓u160_73, ↓u160_76, ↓u160_78, ↓u160_81, ↓u160_82, ↓u160_85, ↓u160_87, ↓u160_89, ↓u160_90, ↓u160_91, ↓u160_92, ↓u160_95, ↓u160_96, ↓u160_99, ↓u160_100, ↓u160_101, ↓u160_103, ↓u160_105, ↓u160_106, ↓u160_109, ↓u160_110, ↓u160_111, ↓u160_112, ↓u160_114, ↓u160_117, ↓lI_0, ↓lI_s, ↓lL_0, ↓lL_s, ↓lR_0, ↓lR_s, ↓sT_0, ↓sT_i, ↓sT_r, ↓sT_u, ↓sT_lu, ↓sU_0, ↓sU_i, ↓sU_r, ↓sU_u, ↓ite_bx, bx_T, bx_F, bx_pos, bx_neg, zws_i, zws_r, zws_l, zws_n, zCb_kc, xl_ll, xr_rr, xs_e, xset_e, Option.toList, List.cons_append, List.nil_append, zIb_e, zrng_e, nz_e, if_pos, if_neg, and_true, true_and, or_true, true_or, ite_self, bi_eq0, bi_eq1, bi_1, bi_0, bi_ir, bi_T, bi_F, up_eq, up_ne, ↓reduceIte, reduceIte, Nat.reduceAdd, Nat.reduceLeDiff, Nat.le_refl, Nat.zero_le, not_true_eq_false, not_false_eq_true, ne_eq, Int.reduceEq, Int.reduceLT, Int.reduceLE, Int.reduceAdd, Int.reduceSub, Int.reduceMul, Int.reduceNeg, pT g1, g2, g3, g4, g5, g6, g7, g8, g9, g10, g11, pT g12, zSb_e' g12, g13, v1, v2, v3, s113 (show 1 ≤ d - 1 by omega) hg hv hn h, s114 (show 1 ≤ d - 1 by omega) hg]
set_option maxRecDepth 8000 in
theorem s160_3 {d : Nat} {Q : Option AV → XH → Prop} {G : XS} {s : ZS} {B : ZS} {N R T : Int} {b : Int} (hd : 2 ≤ d) (hg : MOK G) (hv : RV s 173 B N R T) (hb : OKB B N) (hn : 0 ≤ N ∧ N ≤ 40 ∧ 0 ≤ R ∧ R ≤ 10 ∧ 0 ≤ T ∧ T ≤ 20000) (h : hr B N b) (hk : 1 ≤ B b 0) : Call d 160 [zrf 172, zint b, zint 3, zint 5, zint 7] (G, s) Q = Q (none) (G, axs s b 3 7 (stw (B b 0) (B b 3) (B b 5) (B b 7)) (stv (B b 0) (B b 3) (B b 5) (B b 7))) := by
  have hg' := hg
  obtain ⟨g1, g2, g3, g4, g5, g6, g7, g8, g9, g10, g11, g12, g13, g14, g15, g16, g17, g18, g19, g20, g21, g22, g23, g24, g25, g26, g27, g28, g29, g30, g31, g32, g33, g34⟩ := hg'
  have hv' := hv
  obtain ⟨v1, v2, v3, v4, v5, v6⟩ := hv'
  rw [e160 (show 1 ≤ d by omega)]
  have b8 := hb b h.1
  have hx : s 173 (b * 9 + 7) = B b 7 := v5 b 7 ⟨h, by omega⟩
  unfold axs
  by_cases k3 : B b 0 = 3
  · rw [stv_3 k3, stw_0 (by omega), up_id hx]
    have fm := fmd (n := B b 3 + B b 7) (r := 129 - B b 5) (by omega)
    have t1 := Int.lt_tmod_of_pos (B b 3 + B b 7) (b := 129 - B b 5) (by omega)
    have t2 := Int.tmod_lt_of_pos (B b 3 + B b 7) (b := 129 - B b 5) (by omega)
    have e9 : 128 - B b 5 + 1 = 129 - B b 5 := by omega
    simp (disch := first | omega | exact rfl) only [↓u160_0, ↓u160_1, ↓u160_2, ↓u160_4, ↓u160_7, ↓u160_9, ↓u160_12, ↓u160_13, ↓u160_14, ↓u160_15, ↓u160_18, ↓u160_19, ↓u160_21, ↓u160_22, ↓u160_23, ↓u160_24, ↓u160_27, ↓u160_29, ↓u160_30, ↓u160_32, ↓u160_33, ↓u160_34, ↓u160_35, ↓u160_38, ↓u160_39, ↓u160_42, ↓u160_44, ↓u160_45, ↓u160_46, ↓u160_48, ↓u160_50, ↓u160_52, ↓u160_53, ↓u160_55, ↓u160_56, ↓u160_58, ↓u160_59, ↓u160_61, ↓u160_64, ↓u160_66, ↓u160_69, ↓u160_71, ↓u160_73, ↓u160_76, ↓u160_78, ↓u160_81, ↓u160_82, ↓u160_85, ↓u160_87, ↓u160_89, ↓u160_90, ↓u160_91, ↓u160_92, ↓u160_95, ↓u160_96, ↓u160_99, ↓u160_100, ↓u160_101, ↓u160_103, ↓u160_105, ↓u160_106, ↓u160_109, ↓u160_110, ↓u160_111, ↓u160_112, ↓u160_114, ↓u160_117, ↓lI_0, ↓lI_s, ↓lL_0, ↓lL_s, ↓lR_0, ↓lR_s, ↓sT_0, ↓sT_i, ↓sT_r, ↓sT_u, ↓sT_lu, ↓sU_0, ↓sU_i, ↓sU_r, ↓sU_u, ↓ite_bx, bx_T, bx_F, bx_pos, bx_neg, zws_i, zws_r, zws_l, zws_n, zCb_kc, xl_ll, xr_rr, xs_e, xset_e, Option.toList, List.cons_append, List.nil_append, zIb_e, zrng_e, nz_e, if_pos, if_neg, and_true, true_and, or_true, true_or, ite_self, bi_eq0, bi_eq1, bi_1, bi_0, bi_ir, bi_T, bi_F, up_eq, up_ne, ↓reduceIte, reduceIte, Nat.reduceAdd, Nat.reduceLeDiff, Nat.le_refl, Nat.zero_le, not_true_eq_false, not_false_eq_true, ne_eq, Int.reduceEq, Int.reduceLT, Int.reduceLE, Int.reduceAdd, Int.reduceSub, Int.reduceMul, Int.reduceNeg, pT g1, g2, g3, g4, g5, g6, g7, g8, g9, g10, g11, pT g12, zSb_e' g12, g13, v1, v2, v3, s113 (show 1 ≤ d - 1 by omega) hg hv hn h, s114 (show 1 ≤ d - 1 by omega) hg, e9, fm]
  · rw [stv_m (by omega)]
    by_cases q1 : B b 3 + B b 7 < 0
    · rw [show max 0 (min (128 - B b 5) (B b 3 + B b 7)) = 0 by omega]
      by_cases k2 : B b 0 = 2
      · rw [stw_1 (by omega)]
        simp (disch := first | omega | exact rfl) only [↓u160_0, ↓u160_1, ↓u160_2, ↓u160_4, ↓u160_7, ↓u160_9, ↓u160_12, ↓u160_13, ↓u160_14, ↓u160_15, ↓u160_18, ↓u160_19, ↓u160_21, ↓u160_22, ↓u160_23, ↓u160_24, ↓u160_27, ↓u160_29, ↓u160_30, ↓u160_32, ↓u160_33, ↓u160_34, ↓u160_35, ↓u160_38, ↓u160_39, ↓u160_42, ↓u160_44, ↓u160_45, ↓u160_46, ↓u160_48, ↓u160_50, ↓u160_52, ↓u160_53, ↓u160_55, ↓u160_56, ↓u160_58, ↓u160_59, ↓u160_61, ↓u160_64, ↓u160_66, ↓u160_69, ↓u160_71, ↓u160_73, ↓u160_76, ↓u160_78, ↓u160_81, ↓u160_82, ↓u160_85, ↓u160_87, ↓u160_89, ↓u160_90, ↓u160_91, ↓u160_92, ↓u160_95, ↓u160_96, ↓u160_99, ↓u160_100, ↓u160_101, ↓u160_103, ↓u160_105, ↓u160_106, ↓u160_109, ↓u160_110, ↓u160_111, ↓u160_112, ↓u160_114, ↓u160_117, ↓lI_0, ↓lI_s, ↓lL_0, ↓lL_s, ↓lR_0, ↓lR_s, ↓sT_0, ↓sT_i, ↓sT_r, ↓sT_u, ↓sT_lu, ↓sU_0, ↓sU_i, ↓sU_r, ↓sU_u, ↓ite_bx, bx_T, bx_F, bx_pos, bx_neg, zws_i, zws_r, zws_l, zws_n, zCb_kc, xl_ll, xr_rr, xs_e, xset_e, Option.toList, List.cons_append, List.nil_append, zIb_e, zrng_e, nz_e, if_pos, if_neg, and_true, true_and, or_true, true_or, ite_self, bi_eq0, bi_eq1, bi_1, bi_0, bi_ir, bi_T, bi_F, up_eq, up_ne, ↓reduceIte, reduceIte, Nat.reduceAdd, Nat.reduceLeDiff, Nat.le_refl, Nat.zero_le, not_true_eq_false, not_false_eq_true, ne_eq, Int.reduceEq, Int.reduceLT, Int.reduceLE, Int.reduceAdd, Int.reduceSub, Int.reduceMul, Int.reduceNeg, pT g1, g2, g3, g4, g5, g6, g7, g8, g9, g10, g11, pT g12, zSb_e' g12, g13, v1, v2, v3, s113 (show 1 ≤ d - 1 by omega) hg hv hn h, s114 (show 1 ≤ d - 1 by omega) hg]
      · rw [stw_0 (by omega), up_id hx]
        simp (disch := first | omega | exact rfl) only [↓u160_0, ↓u160_1, ↓u160_2, ↓u160_4, ↓u160_7, ↓u160_9, ↓u160_12, ↓u160_13, ↓u160_14, ↓u160_15, ↓u160_18, ↓u160_19, ↓u160_21, ↓u160_22, ↓u160_23, ↓u160_24, ↓u160_27, ↓u160_29, ↓u160_30, ↓u160_32, ↓u160_33, ↓u160_34, ↓u160_35, ↓u160_38, ↓u160_39, ↓u160_42, ↓u160_44, ↓u160_45, ↓u160_46, ↓u160_48, ↓u160_50, ↓u160_52, ↓u160_53, ↓u160_55, ↓u160_56, ↓u160_58, ↓u160_59, ↓u160_61, ↓u160_64, ↓u160_66, ↓u160_69, ↓u160_71, ↓u160_73, ↓u160_76, ↓u160_78, ↓u160_81, ↓u160_82, ↓u160_85, ↓u160_87, ↓u160_89, ↓u160_90, ↓u160_91, ↓u160_92, ↓u160_95, ↓u160_96, ↓u160_99, ↓u160_100, ↓u160_101, ↓u160_103, ↓u160_105, ↓u160_106, ↓u160_109, ↓u160_110, ↓u160_111, ↓u160_112, ↓u160_114, ↓u160_117, ↓lI_0, ↓lI_s, ↓lL_0, ↓lL_s, ↓lR_0, ↓lR_s, ↓sT_0, ↓sT_i, ↓sT_r, ↓sT_u, ↓sT_lu, ↓sU_0, ↓sU_i, ↓sU_r, ↓sU_u, ↓ite_bx, bx_T, bx_F, bx_pos, bx_neg, zws_i, zws_r, zws_l, zws_n, zCb_kc, xl_ll, xr_rr, xs_e, xset_e, Option.toList, List.cons_append, List.nil_append, zIb_e, zrng_e, nz_e, if_pos, if_neg, and_true, true_and, or_true, true_or, ite_self, bi_eq0, bi_eq1, bi_1, bi_0, bi_ir, bi_T, bi_F, up_eq, up_ne, ↓reduceIte, reduceIte, Nat.reduceAdd, Nat.reduceLeDiff, Nat.le_refl, Nat.zero_le, not_true_eq_false, not_false_eq_true, ne_eq, Int.reduceEq, Int.reduceLT, Int.reduceLE, Int.reduceAdd, Int.reduceSub, Int.reduceMul, Int.reduceNeg, pT g1, g2, g3, g4, g5, g6, g7, g8, g9, g10, g11, pT g12, zSb_e' g12, g13, v1, v2, v3, s113 (show 1 ≤ d - 1 by omega) hg hv hn h, s114 (show 1 ≤ d - 1 by omega) hg]
    · by_cases q2 : 128 - B b 5 < B b 3 + B b 7
      · rw [show max 0 (min (128 - B b 5) (B b 3 + B b 7)) = 128 - B b 5 by omega]
        by_cases k2 : B b 0 = 2
        · rw [stw_1 (by omega)]
          simp (disch := first | omega | exact rfl) only [↓u160_0, ↓u160_1, ↓u160_2, ↓u160_4, ↓u160_7, ↓u160_9, ↓u160_12, ↓u160_13, ↓u160_14, ↓u160_15, ↓u160_18, ↓u160_19, ↓u160_21, ↓u160_22, ↓u160_23, ↓u160_24, ↓u160_27, ↓u160_29, ↓u160_30, ↓u160_32, ↓u160_33, ↓u160_34, ↓u160_35, ↓u160_38, ↓u160_39, ↓u160_42, ↓u160_44, ↓u160_45, ↓u160_46, ↓u160_48, ↓u160_50, ↓u160_52, ↓u160_53, ↓u160_55, ↓u160_56, ↓u160_58, ↓u160_59, ↓u160_61, ↓u160_64, ↓u160_66, ↓u160_69, ↓u160_71, ↓u160_73, ↓u160_76, ↓u160_78, ↓u160_81, ↓u160_82, ↓u160_85, ↓u160_87, ↓u160_89, ↓u160_90, ↓u160_91, ↓u160_92, ↓u160_95, ↓u160_96, ↓u160_99, ↓u160_100, ↓u160_101, ↓u160_103, ↓u160_105, ↓u160_106, ↓u160_109, ↓u160_110, ↓u160_111, ↓u160_112, ↓u160_114, ↓u160_117, ↓lI_0, ↓lI_s, ↓lL_0, ↓lL_s, ↓lR_0, ↓lR_s, ↓sT_0, ↓sT_i, ↓sT_r, ↓sT_u, ↓sT_lu, ↓sU_0, ↓sU_i, ↓sU_r, ↓sU_u, ↓ite_bx, bx_T, bx_F, bx_pos, bx_neg, zws_i, zws_r, zws_l, zws_n, zCb_kc, xl_ll, xr_rr, xs_e, xset_e, Option.toList, List.cons_append, List.nil_append, zIb_e, zrng_e, nz_e, if_pos, if_neg, and_true, true_and, or_true, true_or, ite_self, bi_eq0, bi_eq1, bi_1, bi_0, bi_ir, bi_T, bi_F, up_eq, up_ne, ↓reduceIte, reduceIte, Nat.reduceAdd, Nat.reduceLeDiff, Nat.le_refl, Nat.zero_le, not_true_eq_false, not_false_eq_true, ne_eq, Int.reduceEq, Int.reduceLT, Int.reduceLE, Int.reduceAdd, Int.reduceSub, Int.reduceMul, Int.reduceNeg, pT g1, g2, g3, g4, g5, g6, g7, g8, g9, g10, g11, pT g12, zSb_e' g12, g13, v1, v2, v3, s113 (show 1 ≤ d - 1 by omega) hg hv hn h, s114 (show 1 ≤ d - 1 by omega) hg]
        · rw [stw_0 (by omega), up_id hx]
          simp (disch := first | omega | exact rfl) only [↓u160_0, ↓u160_1, ↓u160_2, ↓u160_4, ↓u160_7, ↓u160_9, ↓u160_12, ↓u160_13, ↓u160_14, ↓u160_15, ↓u160_18, ↓u160_19, ↓u160_21, ↓u160_22, ↓u160_23, ↓u160_24, ↓u160_27, ↓u160_29, ↓u160_30, ↓u160_32, ↓u160_33, ↓u160_34, ↓u160_35, ↓u160_38, ↓u160_39, ↓u160_42, ↓u160_44, ↓u160_45, ↓u160_46, ↓u160_48, ↓u160_50, ↓u160_52, ↓u160_53, ↓u160_55, ↓u160_56, ↓u160_58, ↓u160_59, ↓u160_61, ↓u160_64, ↓u160_66, ↓u160_69, ↓u160_71, ↓u160_73, ↓u160_76, ↓u160_78, ↓u160_81, ↓u160_82, ↓u160_85, ↓u160_87, ↓u160_89, ↓u160_90, ↓u160_91, ↓u160_92, ↓u160_95, ↓u160_96, ↓u160_99, ↓u160_100, ↓u160_101, ↓u160_103, ↓u160_105, ↓u160_106, ↓u160_109, ↓u160_110, ↓u160_111, ↓u160_112, ↓u160_114, ↓u160_117, ↓lI_0, ↓lI_s, ↓lL_0, ↓lL_s, ↓lR_0, ↓lR_s, ↓sT_0, ↓sT_i, ↓sT_r, ↓sT_u, ↓sT_lu, ↓sU_0, ↓sU_i, ↓sU_r, ↓sU_u, ↓ite_bx, bx_T, bx_F, bx_pos, bx_neg, zws_i, zws_r, zws_l, zws_n, zCb_kc, xl_ll, xr_rr, xs_e, xset_e, Option.toList, List.cons_append, List.nil_append, zIb_e, zrng_e, nz_e, if_pos, if_neg, and_true, true_and, or_true, true_or, ite_self, bi_eq0, bi_eq1, bi_1, bi_0, bi_ir, bi_T, bi_F, up_eq, up_ne, ↓reduceIte, reduceIte, Nat.reduceAdd, Nat.reduceLeDiff, Nat.le_refl, Nat.zero_le, not_true_eq_false, not_false_eq_true, ne_eq, Int.reduceEq, Int.reduceLT, Int.reduceLE, Int.reduceAdd, Int.reduceSub, Int.reduceMul, Int.reduceNeg, pT g1, g2, g3, g4, g5, g6, g7, g8, g9, g10, g11, pT g12, zSb_e' g12, g13, v1, v2, v3, s113 (show 1 ≤ d - 1 by omega) hg hv hn h, s114 (show 1 ≤ d - 1 by omega) hg]
      · rw [show max 0 (min (128 - B b 5) (B b 3 + B b 7)) = B b 3 + B b 7 by omega, stw_0 (by omega), up_id hx]
        simp (disch := first | omega | exact rfl) only [↓u160_0, ↓u160_1, ↓u160_2, ↓u160_4, ↓u160_7, ↓u160_9, ↓u160_12, ↓u160_13, ↓u160_14, ↓u160_15, ↓u160_18, ↓u160_19, ↓u160_21, ↓u160_22, ↓u160_23, ↓u160_24, ↓u160_27, ↓u160_29, ↓u160_30, ↓u160_32, ↓u160_33, ↓u160_34, ↓u160_35, ↓u160_38, ↓u160_39, ↓u160_42, ↓u160_44, ↓u160_45, ↓u160_46, ↓u160_48, ↓u160_50, ↓u160_52, ↓u160_53, ↓u160_55, ↓u160_56, ↓u160_58, ↓u160_59, ↓u160_61, ↓u160_64, ↓u160_66, ↓u160_69, ↓u160_71, ↓u160_73, ↓u160_76, ↓u160_78, ↓u160_81, ↓u160_82, ↓u160_85, ↓u160_87, ↓u160_89, ↓u160_90, ↓u160_91, ↓u160_92, ↓u160_95, ↓u160_96, ↓u160_99, ↓u160_100, ↓u160_101, ↓u160_103, ↓u160_105, ↓u160_106, ↓u160_109, ↓u160_110, ↓u160_111, ↓u160_112, ↓u160_114, ↓u160_117, ↓lI_0, ↓lI_s, ↓lL_0, ↓lL_s, ↓lR_0, ↓lR_s, ↓sT_0, ↓sT_i, ↓sT_r, ↓sT_u, ↓sT_lu, ↓sU_0, ↓sU_i, ↓sU_r, ↓sU_u, ↓ite_bx, bx_T, bx_F, bx_pos, bx_neg, zws_i, zws_r, zws_l, zws_n, zCb_kc, xl_ll, xr_rr, xs_e, xset_e, Option.toList, List.cons_append, List.nil_append, zIb_e, zrng_e, nz_e, if_pos, if_neg, and_true, true_and, or_true, true_or, ite_self, bi_eq0, bi_eq1, bi_1, bi_0, bi_ir, bi_T, bi_F, up_eq, up_ne, ↓reduceIte, reduceIte, Nat.reduceAdd, Nat.reduceLeDiff, Nat.le_refl, Nat.zero_le, not_true_eq_false, not_false_eq_true, ne_eq, Int.reduceEq, Int.reduceLT, Int.reduceLE, Int.reduceAdd, Int.reduceSub, Int.reduceMul, Int.reduceNeg, pT g1, g2, g3, g4, g5, g6, g7, g8, g9, g10, g11, pT g12, zSb_e' g12, g13, v1, v2, v3, s113 (show 1 ≤ d - 1 by omega) hg hv hn h, s114 (show 1 ≤ d - 1 by omega) hg]
/-- those before i a step on -/
def sb (B : ZS) (i : Int) : ZS := fun j f => if j < i ∧ B j 8 = 1 then stp B j f else B j f
set_option maxRecDepth 8000 in
theorem sb_y {B : ZS} {i j f : Int} (h : j < i ∧ B j 8 = 1) : sb B i j f = stp B j f := if_pos h
set_option maxRecDepth 8000 in
theorem sb_n {B : ZS} {i j f : Int} (h : ¬(j < i ∧ B j 8 = 1)) : sb B i j f = B j f := if_neg h
set_option maxRecDepth 8000 in
theorem sb_8 {B : ZS} {i j : Int} : sb B i j 8 = B j 8 := by
  by_cases h : j < i ∧ B j 8 = 1
  · rw [sb_y h, stp_o (by omega)]
  · rw [sb_n h]
set_option maxRecDepth 8000 in
theorem OKB_sb {B : ZS} {N i : Int} (hb : OKB B N) : OKB (sb B i) N := by
  intro j hj
  by_cases h : j < i ∧ B j 8 = 1
  · have e : ∀ f, sb B i j f = stp B j f := fun f => sb_y h
    have := okb_s (hb j hj)
    simp only [okb, e]
    exact this
  · have e : ∀ f, sb B i j f = B j f := fun f => sb_n h
    have := hb j hj
    simp only [okb, e]
    exact this
set_option maxRecDepth 8000 in
theorem RV_s0 {s : ZS} {B : ZS} {N R T : Int} (hv : RV s 173 B N R T) : RV s 173 (sb B 0) N R T := RV_c hv (fun i hi => sb_8) (fun i f h => sb_n (by omega))
set_option maxRecDepth 8000 in
theorem RV_sN {s : ZS} {B : ZS} {N R T : Int} (hv : RV s 173 (sb B N) N R T) : RV s 173 (stp B) N R T := RV_c hv (fun i hi => by rw [sb_8, stp_o (by omega)]) (fun i f h => by
  rw [sb_8] at h
  rw [sb_y (by omega)])
set_option maxRecDepth 8000 in
theorem RV_sk {s : ZS} {B : ZS} {N R T i : Int} (hv : RV s 173 (sb B i) N R T) (q : ¬(B i 8 = 1 ∧ 0 < B i 0)) (hb : OKB B N) : RV s 173 (sb B (i + 1)) N R T := RV_c hv (fun j hj => by rw [sb_8, sb_8]) (fun j f h => by
  rw [sb_8] at h
  by_cases e : j = i
  · have b := hb j h.1.1
    have k0 : B i 0 = 0 := by rw [e] at h b; omega
    rw [sb_y (by omega), sb_n (by omega), e]
    by_cases f2 : f = 2
    · rw [f2, stp_2, stv_0 k0]
    · by_cases f3 : f = 3
      · rw [f3, stp_3, stv_0 k0]
      · by_cases f6 : f = 6
        · rw [f6, stp_6, stw_0 (by omega)]
        · by_cases f7 : f = 7
          · rw [f7, stp_7, stw_0 (by omega)]
          · rw [stp_o ⟨f2, f3, f6, f7⟩]
  · by_cases e2 : j < i
    · rw [sb_y (by omega), sb_y (by omega)]
    · rw [sb_n (by omega), sb_n (by omega)])
set_option maxRecDepth 8000 in
theorem RV_s2 {s : ZS} {B : ZS} {N R T i : Int} (hv : RV s 173 (sb B i) N R T) (hN : N ≤ 40) (hi : 0 ≤ i ∧ i < N) (q : B i 8 = 1) : RV (axs (axs s i 2 6 (stp B i 6) (stp B i 2)) i 3 7 (stp B i 7) (stp B i 3)) 173 (sb B (i + 1)) N R T := by
  unfold axs
  have h1 := RV_u (b := i) (f := 6) (v := stp B i 6) hv hN hi (by omega) (by omega)
  have h2 := RV_u (b := i) (f := 2) (v := stp B i 2) h1 hN hi (by omega) (by omega)
  have h3 := RV_u (b := i) (f := 7) (v := stp B i 7) h2 hN hi (by omega) (by omega)
  have h4 := RV_u (b := i) (f := 3) (v := stp B i 3) h3 hN hi (by omega) (by omega)
  refine RV_c h4 (fun j hj => ?_) (fun j f h => ?_)
  · rw [up_ne (by omega), up_ne (by omega), up_ne (by omega), up_ne (by omega), sb_8, sb_8]
  · rw [up_ne (by omega), up_ne (by omega), up_ne (by omega), up_ne (by omega), sb_8] at h
    by_cases e : j = i
    · rw [sb_y (by omega), e]
      by_cases f3 : f = 3
      · rw [f3, up_eq]
      · rw [up_ne (by omega)]
        by_cases f7 : f = 7
        · rw [f7, up_eq]
        · rw [up_ne (by omega)]
          by_cases f2 : f = 2
          · rw [f2, up_eq]
          · rw [up_ne (by omega)]
            by_cases f6 : f = 6
            · rw [f6, up_eq]
            · rw [up_ne (by omega), sb_n (by omega), stp_o ⟨f2, f3, f6, f7⟩]
    · rw [up_ne (by omega), up_ne (by omega), up_ne (by omega), up_ne (by omega)]
      by_cases e2 : j < i
      · rw [sb_y (by omega), sb_y (by omega)]
      · rw [sb_n (by omega), sb_n (by omega)]
set_option maxRecDepth 8000 in
theorem fgb_x {s : ZS} {b p q w v : Int} (hb : 0 ≤ b ∧ b < 40) (hp : 0 ≤ p ∧ p < 9) (hq : 0 ≤ q ∧ q < 9) : fgb s (axs s b p q w v) := fun a c h => by unfold axs; rw [up_ne (by omega), up_ne (by omega)]
set_option maxRecDepth 8000 in
theorem i161 {d : Nat} {G : XS} {B : ZS} {N R T n k : Int} (hd : 3 ≤ d) (hg : MOK G) (hb : OKB B N) (hn : 0 ≤ N ∧ N ≤ 40 ∧ 0 ≤ R ∧ R ≤ 10 ∧ 0 ≤ T ∧ T ≤ 20000) : ∀ i, 0 ≤ i → i ≤ N → ∀ s : ZS, RV s 173 (sb B i) N R T → ∃ s2, fgb s s2 ∧ RV s2 173 (sb B N) N R T ∧ ∀ Q, Wp (d - 1) 161 (9, [zrf 172, zint n, zint k, zint i], [], (G, s)) Q = Wp (d - 1) 161 (62, [zrf 172, zint n, zint k, zint N], [], (G, s2)) Q := by
  have hg' := hg
  obtain ⟨g1, g2, g3, g4, g5, g6, g7, g8, g9, g10, g11, g12, g13, g14, g15, g16, g17, g18, g19, g20, g21, g22, g23, g24, g25, g26, g27, g28, g29, g30, g31, g32, g33, g34⟩ := hg'
  refine dn (P := fun i => ∀ s : ZS, RV s 173 (sb B i) N R T → ∃ s2, fgb s s2 ∧ RV s2 173 (sb B N) N R T ∧ ∀ Q, Wp (d - 1) 161 (9, [zrf 172, zint n, zint k, zint i], [], (G, s)) Q = Wp (d - 1) 161 (62, [zrf 172, zint n, zint k, zint N], [], (G, s2)) Q) ?_ ?_
  · intro s hv
    obtain ⟨v1, v2, v3, v4, v5, v6⟩ := id hv
    refine ⟨s, fgb_r s, hv, fun Q => ?_⟩
    rw [u161_9]
    simp (disch := first | omega | exact rfl) only [↓u161_0, ↓u161_1, ↓u161_3, ↓u161_4, ↓u161_7, ↓u161_8, ↓u161_10, ↓u161_11, ↓u161_14, ↓u161_17, ↓u161_18, ↓u161_21, ↓u161_22, ↓u161_23, ↓u161_26, ↓u161_29, ↓u161_30, ↓u161_31, ↓u161_32, ↓u161_35, ↓u161_38, ↓u161_39, ↓u161_40, ↓u161_41, ↓u161_42, ↓u161_44, ↓u161_47, ↓u161_48, ↓u161_49, ↓u161_50, ↓u161_51, ↓u161_53, ↓u161_56, ↓u161_59, ↓u161_63, ↓u161_66, ↓u161_69, ↓u161_70, ↓u161_71, ↓u161_72, ↓u161_73, ↓u161_74, ↓u161_77, ↓u161_80, ↓lI_0, ↓lI_s, ↓lL_0, ↓lL_s, ↓lR_0, ↓lR_s, ↓sT_0, ↓sT_i, ↓sT_r, ↓sT_u, ↓sT_lu, ↓sU_0, ↓sU_i, ↓sU_r, ↓sU_u, ↓ite_bx, bx_T, bx_F, bx_pos, bx_neg, zws_i, zws_r, zws_l, zws_n, zCb_kc, xl_ll, xr_rr, xs_e, xset_e, Option.toList, List.cons_append, List.nil_append, zIb_e, zrng_e, nz_e, if_pos, if_neg, and_true, true_and, or_true, true_or, ite_self, bi_eq0, bi_eq1, bi_1, bi_0, bi_ir, bi_T, bi_F, up_eq, up_ne, ↓reduceIte, reduceIte, Nat.reduceAdd, Nat.reduceLeDiff, Nat.le_refl, Nat.zero_le, not_true_eq_false, not_false_eq_true, ne_eq, Int.reduceEq, Int.reduceLT, Int.reduceLE, Int.reduceAdd, Int.reduceSub, Int.reduceMul, Int.reduceNeg, pT g1, g2, g3, g4, g5, g6, g7, g8, g9, g10, g11, pT g12, zSb_e' g12, g13, v1, v2, v3]
  · intro i h0 h1 ih s hv
    obtain ⟨v1, v2, v3, v4, v5, v6⟩ := id hv
    have hbs := OKB_sb (i := i) hb
    have b := hb i ⟨h0, h1⟩
    have eh : hr (sb B i) N i = hr B N i := by unfold hr; rw [sb_8]
    have ei : ∀ f, sb B i i f = B i f := fun f => sb_n (by omega)
    have iB : ∀ Q, Call (d - 1) 115 [zrf 172, zint i] (G, s) Q = Q (some (zint (bi (hr B N i)))) (G, s) := fun Q => by rw [s115 (show 2 ≤ d - 1 by omega) hg hv hbs hn (by omega), eh]
    by_cases q : B i 8 = 1
    · have hri : hr (sb B i) N i := by rw [eh]; exact ⟨⟨h0, h1⟩, q⟩
      have a0 : ∀ Q, Call (d - 1) 113 [zrf 172, zint i, zint 0] (G, s) Q = Q (some (zint (B i 0))) (G, s) := fun Q => by rw [s113 (show 1 ≤ d - 1 by omega) hg hv hn hri (by omega), ei]
      by_cases q2 : 0 < B i 0
      · have x1 : ∀ Q, Call (d - 1) 160 [zrf 172, zint i, zint 2, zint 4, zint 6] (G, s) Q = Q none (G, axs s i 2 6 (stp B i 6) (stp B i 2)) := fun Q => by
          rw [s160_2 (show 2 ≤ d - 1 by omega) hg hv hbs hn hri (by rw [ei]; omega), ei, ei, ei, ei, stp_6, stp_2]
        have w1 : RV (axs s i 2 6 (stp B i 6) (stp B i 2)) 173 (up (up (sb B i) i 6 (stp B i 6)) i 2 (stp B i 2)) N R T := RV_u (RV_u hv hn.2.1 ⟨h0, h1⟩ (by omega) (by omega)) hn.2.1 ⟨h0, h1⟩ (by omega) (by omega)
        have bs := okb_s b
        have o1 : OKB (up (up (sb B i) i 6 (stp B i 6)) i 2 (stp B i 2)) N := by
          intro j hj
          have bj := hbs j hj
          by_cases e : j = i
          · rw [e]
            simp (disch := omega) only [okb, up_eq, up_ne, ei]
            have e4 : stp B i 4 = B i 4 := stp_o (by omega)
            have e5 : stp B i 5 = B i 5 := stp_o (by omega)
            omega
          · simp (disch := omega) only [okb, up_ne]
            exact bj
        have hr1 : hr (up (up (sb B i) i 6 (stp B i 6)) i 2 (stp B i 2)) N i := by
          refine ⟨⟨h0, h1⟩, ?_⟩
          rw [up_ne (by omega), up_ne (by omega), sb_8]
          exact q
        have x2 : ∀ Q, Call (d - 1) 160 [zrf 172, zint i, zint 3, zint 5, zint 7] (G, axs s i 2 6 (stp B i 6) (stp B i 2)) Q = Q none (G, axs (axs s i 2 6 (stp B i 6) (stp B i 2)) i 3 7 (stp B i 7) (stp B i 3)) := fun Q => by
          rw [s160_3 (show 2 ≤ d - 1 by omega) hg w1 o1 hn hr1 (by rw [up_ne (by omega), up_ne (by omega), ei]; omega)]
          simp (disch := omega) only [up_ne, ei]
          rw [stp_7, stp_3]
        obtain ⟨s2, f1, f2, e⟩ := ih _ (RV_s2 hv hn.2.1 ⟨h0, h1⟩ q)
        refine ⟨s2, fgb_t (fgb_t (fgb_x (by omega) (by omega) (by omega)) (fgb_x (by omega) (by omega) (by omega))) f1, f2, fun Q => ?_⟩
        rw [u161_9]
        simp (disch := first | omega | exact rfl) only [↓u161_0, ↓u161_1, ↓u161_3, ↓u161_4, ↓u161_7, ↓u161_8, ↓u161_10, ↓u161_11, ↓u161_14, ↓u161_17, ↓u161_18, ↓u161_21, ↓u161_22, ↓u161_23, ↓u161_26, ↓u161_29, ↓u161_30, ↓u161_31, ↓u161_32, ↓u161_35, ↓u161_38, ↓u161_39, ↓u161_40, ↓u161_41, ↓u161_42, ↓u161_44, ↓u161_47, ↓u161_48, ↓u161_49, ↓u161_50, ↓u161_51, ↓u161_53, ↓u161_56, ↓u161_59, ↓u161_63, ↓u161_66, ↓u161_69, ↓u161_70, ↓u161_71, ↓u161_72, ↓u161_73, ↓u161_74, ↓u161_77, ↓u161_80, ↓lI_0, ↓lI_s, ↓lL_0, ↓lL_s, ↓lR_0, ↓lR_s, ↓sT_0, ↓sT_i, ↓sT_r, ↓sT_u, ↓sT_lu, ↓sU_0, ↓sU_i, ↓sU_r, ↓sU_u, ↓ite_bx, bx_T, bx_F, bx_pos, bx_neg, zws_i, zws_r, zws_l, zws_n, zCb_kc, xl_ll, xr_rr, xs_e, xset_e, Option.toList, List.cons_append, List.nil_append, zIb_e, zrng_e, nz_e, if_pos, if_neg, and_true, true_and, or_true, true_or, ite_self, bi_eq0, bi_eq1, bi_1, bi_0, bi_ir, bi_T, bi_F, up_eq, up_ne, ↓reduceIte, reduceIte, Nat.reduceAdd, Nat.reduceLeDiff, Nat.le_refl, Nat.zero_le, not_true_eq_false, not_false_eq_true, ne_eq, Int.reduceEq, Int.reduceLT, Int.reduceLE, Int.reduceAdd, Int.reduceSub, Int.reduceMul, Int.reduceNeg, pT g1, g2, g3, g4, g5, g6, g7, g8, g9, g10, g11, pT g12, zSb_e' g12, g13, v1, v2, v3, iB, a0, x1, x2, e]
      · obtain ⟨s2, f1, f2, e⟩ := ih s (RV_sk hv (fun h => q2 h.2) hb)
        refine ⟨s2, f1, f2, fun Q => ?_⟩
        rw [u161_9]
        simp (disch := first | omega | exact rfl) only [↓u161_0, ↓u161_1, ↓u161_3, ↓u161_4, ↓u161_7, ↓u161_8, ↓u161_10, ↓u161_11, ↓u161_14, ↓u161_17, ↓u161_18, ↓u161_21, ↓u161_22, ↓u161_23, ↓u161_26, ↓u161_29, ↓u161_30, ↓u161_31, ↓u161_32, ↓u161_35, ↓u161_38, ↓u161_39, ↓u161_40, ↓u161_41, ↓u161_42, ↓u161_44, ↓u161_47, ↓u161_48, ↓u161_49, ↓u161_50, ↓u161_51, ↓u161_53, ↓u161_56, ↓u161_59, ↓u161_63, ↓u161_66, ↓u161_69, ↓u161_70, ↓u161_71, ↓u161_72, ↓u161_73, ↓u161_74, ↓u161_77, ↓u161_80, ↓lI_0, ↓lI_s, ↓lL_0, ↓lL_s, ↓lR_0, ↓lR_s, ↓sT_0, ↓sT_i, ↓sT_r, ↓sT_u, ↓sT_lu, ↓sU_0, ↓sU_i, ↓sU_r, ↓sU_u, ↓ite_bx, bx_T, bx_F, bx_pos, bx_neg, zws_i, zws_r, zws_l, zws_n, zCb_kc, xl_ll, xr_rr, xs_e, xset_e, Option.toList, List.cons_append, List.nil_append, zIb_e, zrng_e, nz_e, if_pos, if_neg, and_true, true_and, or_true, true_or, ite_self, bi_eq0, bi_eq1, bi_1, bi_0, bi_ir, bi_T, bi_F, up_eq, up_ne, ↓reduceIte, reduceIte, Nat.reduceAdd, Nat.reduceLeDiff, Nat.le_refl, Nat.zero_le, not_true_eq_false, not_false_eq_true, ne_eq, Int.reduceEq, Int.reduceLT, Int.reduceLE, Int.reduceAdd, Int.reduceSub, Int.reduceMul, Int.reduceNeg, pT g1, g2, g3, g4, g5, g6, g7, g8, g9, g10, g11, pT g12, zSb_e' g12, g13, v1, v2, v3, iB, a0, e]
    · obtain ⟨s2, f1, f2, e⟩ := ih s (RV_sk hv (fun h => q h.1) hb)
      refine ⟨s2, f1, f2, fun Q => ?_⟩
      rw [u161_9]
      simp (disch := first | omega | exact rfl) only [↓u161_0, ↓u161_1, ↓u161_3, ↓u161_4, ↓u161_7, ↓u161_8, ↓u161_10, ↓u161_11, ↓u161_14, ↓u161_17, ↓u161_18, ↓u161_21, ↓u161_22, ↓u161_23, ↓u161_26, ↓u161_29, ↓u161_30, ↓u161_31, ↓u161_32, ↓u161_35, ↓u161_38, ↓u161_39, ↓u161_40, ↓u161_41, ↓u161_42, ↓u161_44, ↓u161_47, ↓u161_48, ↓u161_49, ↓u161_50, ↓u161_51, ↓u161_53, ↓u161_56, ↓u161_59, ↓u161_63, ↓u161_66, ↓u161_69, ↓u161_70, ↓u161_71, ↓u161_72, ↓u161_73, ↓u161_74, ↓u161_77, ↓u161_80, ↓lI_0, ↓lI_s, ↓lL_0, ↓lL_s, ↓lR_0, ↓lR_s, ↓sT_0, ↓sT_i, ↓sT_r, ↓sT_u, ↓sT_lu, ↓sU_0, ↓sU_i, ↓sU_r, ↓sU_u, ↓ite_bx, bx_T, bx_F, bx_pos, bx_neg, zws_i, zws_r, zws_l, zws_n, zCb_kc, xl_ll, xr_rr, xs_e, xset_e, Option.toList, List.cons_append, List.nil_append, zIb_e, zrng_e, nz_e, if_pos, if_neg, and_true, true_and, or_true, true_or, ite_self, bi_eq0, bi_eq1, bi_1, bi_0, bi_ir, bi_T, bi_F, up_eq, up_ne, ↓reduceIte, reduceIte, Nat.reduceAdd, Nat.reduceLeDiff, Nat.le_refl, Nat.zero_le, not_true_eq_false, not_false_eq_true, ne_eq, Int.reduceEq, Int.reduceLT, Int.reduceLE, Int.reduceAdd, Int.reduceSub, Int.reduceMul, Int.reduceNeg, pT g1, g2, g3, g4, g5, g6, g7, g8, g9, g10, g11, pT g12, zSb_e' g12, g13, v1, v2, v3, iB, e]
set_option maxRecDepth 8000 in
theorem l161 {d : Nat} {G : XS} {N R n : Int} (hd : 3 ≤ d) (hg : MOK G) (hn : 0 ≤ N ∧ N ≤ 40) (hr : 0 ≤ R ∧ R ≤ 10) (h40 : n ≤ 40) : ∀ (j : Nat) (k : Int) (s B : ZS) (T : Int) (v3 : AV), k + j = n → 0 ≤ k → RV s 173 B N R T → OKB B N → (0 ≤ T ∧ T + j ≤ 20000) → ∃ s2, fgb s s2 ∧ RV s2 173 (itb j B) N R (T + j) ∧ ∀ Q, Wp (d - 1) 161 (2, [zrf 172, zint n, zint k, v3], [], (G, s)) Q = Q none (G, s2) := by
  have hg' := hg
  obtain ⟨g1, g2, g3, g4, g5, g6, g7, g8, g9, g10, g11, g12, g13, g14, g15, g16, g17, g18, g19, g20, g21, g22, g23, g24, g25, g26, g27, g28, g29, g30, g31, g32, g33, g34⟩ := hg'
  intro j
  induction j with
  | zero =>
    intro k s B T v3 h1 h2 hv hb ht
    refine ⟨s, fgb_r s, by rw [show T + ((0 : Nat) : Int) = T by omega]; exact hv, fun Q => ?_⟩
    rw [u161_2]
    simp (disch := first | omega | exact rfl) only [↓u161_0, ↓u161_1, ↓u161_3, ↓u161_4, ↓u161_7, ↓u161_8, ↓u161_10, ↓u161_11, ↓u161_14, ↓u161_17, ↓u161_18, ↓u161_21, ↓u161_22, ↓u161_23, ↓u161_26, ↓u161_29, ↓u161_30, ↓u161_31, ↓u161_32, ↓u161_35, ↓u161_38, ↓u161_39, ↓u161_40, ↓u161_41, ↓u161_42, ↓u161_44, ↓u161_47, ↓u161_48, ↓u161_49, ↓u161_50, ↓u161_51, ↓u161_53, ↓u161_56, ↓u161_59, ↓u161_63, ↓u161_66, ↓u161_69, ↓u161_70, ↓u161_71, ↓u161_72, ↓u161_73, ↓u161_74, ↓u161_77, ↓u161_80, ↓lI_0, ↓lI_s, ↓lL_0, ↓lL_s, ↓lR_0, ↓lR_s, ↓sT_0, ↓sT_i, ↓sT_r, ↓sT_u, ↓sT_lu, ↓sU_0, ↓sU_i, ↓sU_r, ↓sU_u, ↓ite_bx, bx_T, bx_F, bx_pos, bx_neg, zws_i, zws_r, zws_l, zws_n, zCb_kc, xl_ll, xr_rr, xs_e, xset_e, Option.toList, List.cons_append, List.nil_append, zIb_e, zrng_e, nz_e, if_pos, if_neg, and_true, true_and, or_true, true_or, ite_self, bi_eq0, bi_eq1, bi_1, bi_0, bi_ir, bi_T, bi_F, up_eq, up_ne, ↓reduceIte, reduceIte, Nat.reduceAdd, Nat.reduceLeDiff, Nat.le_refl, Nat.zero_le, not_true_eq_false, not_false_eq_true, ne_eq, Int.reduceEq, Int.reduceLT, Int.reduceLE, Int.reduceAdd, Int.reduceSub, Int.reduceMul, Int.reduceNeg, pT g1, g2, g3, g4, g5, g6, g7, g8, g9, g10, g11, pT g12, zSb_e' g12, g13]
  | succ j ih =>
    intro k s B T v3 h1 h2 hv hb ht
    obtain ⟨s1, f1, w1, e1⟩ := i161 (n := n) (k := k) hd hg hb (show 0 ≤ N ∧ N ≤ 40 ∧ 0 ≤ R ∧ R ≤ 10 ∧ 0 ≤ T ∧ T ≤ 20000 by omega) 0 (Int.le_refl 0) hn.1 s (RV_s0 hv)
    have w2 := RV_sN w1
    have t1 : s1 173 361 = T := w2.2.1
    obtain ⟨s2, f2, w3, e⟩ := ih (k + 1) (up s1 173 361 (T + 1)) (stp B) (T + 1) (zint N) (by omega) (by omega) (RV_t w2 hn.2) (OKB_s hb) (by omega)
    refine ⟨s2, fgb_t f1 (fgb_t (fgb_u (by omega)) f2), by rw [show T + ((j + 1 : Nat) : Int) = T + 1 + j by omega]; exact w3, fun Q => ?_⟩
    rw [u161_2]
    simp (disch := first | omega | exact rfl) only [↓u161_0, ↓u161_1, ↓u161_3, ↓u161_4, ↓u161_7, ↓u161_8, ↓u161_10, ↓u161_11, ↓u161_14, ↓u161_17, ↓u161_18, ↓u161_21, ↓u161_22, ↓u161_23, ↓u161_26, ↓u161_29, ↓u161_30, ↓u161_31, ↓u161_32, ↓u161_35, ↓u161_38, ↓u161_39, ↓u161_40, ↓u161_41, ↓u161_42, ↓u161_44, ↓u161_47, ↓u161_48, ↓u161_49, ↓u161_50, ↓u161_51, ↓u161_53, ↓u161_56, ↓u161_59, ↓u161_63, ↓u161_66, ↓u161_69, ↓u161_70, ↓u161_71, ↓u161_72, ↓u161_73, ↓u161_74, ↓u161_77, ↓u161_80, ↓lI_0, ↓lI_s, ↓lL_0, ↓lL_s, ↓lR_0, ↓lR_s, ↓sT_0, ↓sT_i, ↓sT_r, ↓sT_u, ↓sT_lu, ↓sU_0, ↓sU_i, ↓sU_r, ↓sU_u, ↓ite_bx, bx_T, bx_F, bx_pos, bx_neg, zws_i, zws_r, zws_l, zws_n, zCb_kc, xl_ll, xr_rr, xs_e, xset_e, Option.toList, List.cons_append, List.nil_append, zIb_e, zrng_e, nz_e, if_pos, if_neg, and_true, true_and, or_true, true_or, ite_self, bi_eq0, bi_eq1, bi_1, bi_0, bi_ir, bi_T, bi_F, up_eq, up_ne, ↓reduceIte, reduceIte, Nat.reduceAdd, Nat.reduceLeDiff, Nat.le_refl, Nat.zero_le, not_true_eq_false, not_false_eq_true, ne_eq, Int.reduceEq, Int.reduceLT, Int.reduceLE, Int.reduceAdd, Int.reduceSub, Int.reduceMul, Int.reduceNeg, pT g1, g2, g3, g4, g5, g6, g7, g8, g9, g10, g11, pT g12, zSb_e' g12, g13, e1]
    rw [u161_62]
    simp (disch := first | omega | exact rfl) only [↓u161_0, ↓u161_1, ↓u161_3, ↓u161_4, ↓u161_7, ↓u161_8, ↓u161_10, ↓u161_11, ↓u161_14, ↓u161_17, ↓u161_18, ↓u161_21, ↓u161_22, ↓u161_23, ↓u161_26, ↓u161_29, ↓u161_30, ↓u161_31, ↓u161_32, ↓u161_35, ↓u161_38, ↓u161_39, ↓u161_40, ↓u161_41, ↓u161_42, ↓u161_44, ↓u161_47, ↓u161_48, ↓u161_49, ↓u161_50, ↓u161_51, ↓u161_53, ↓u161_56, ↓u161_59, ↓u161_63, ↓u161_66, ↓u161_69, ↓u161_70, ↓u161_71, ↓u161_72, ↓u161_73, ↓u161_74, ↓u161_77, ↓u161_80, ↓lI_0, ↓lI_s, ↓lL_0, ↓lL_s, ↓lR_0, ↓lR_s, ↓sT_0, ↓sT_i, ↓sT_r, ↓sT_u, ↓sT_lu, ↓sU_0, ↓sU_i, ↓sU_r, ↓sU_u, ↓ite_bx, bx_T, bx_F, bx_pos, bx_neg, zws_i, zws_r, zws_l, zws_n, zCb_kc, xl_ll, xr_rr, xs_e, xset_e, Option.toList, List.cons_append, List.nil_append, zIb_e, zrng_e, nz_e, if_pos, if_neg, and_true, true_and, or_true, true_or, ite_self, bi_eq0, bi_eq1, bi_1, bi_0, bi_ir, bi_T, bi_F, up_eq, up_ne, ↓reduceIte, reduceIte, Nat.reduceAdd, Nat.reduceLeDiff, Nat.le_refl, Nat.zero_le, not_true_eq_false, not_false_eq_true, ne_eq, Int.reduceEq, Int.reduceLT, Int.reduceLE, Int.reduceAdd, Int.reduceSub, Int.reduceMul, Int.reduceNeg, pT g1, g2, g3, g4, g5, g6, g7, g8, g9, g10, g11, pT g12, zSb_e' g12, g13, t1, e]
set_option maxRecDepth 8000 in
theorem s161 {d : Nat} {n : Int} {G : XS} {s : ZS} {B : ZS} {N R T : Int} (hd : 3 ≤ d) (hg : MOK G) (hv : RV s 173 B N R T) (hb : OKB B N) (hn : 0 ≤ N ∧ N ≤ 40 ∧ 0 ≤ R ∧ R ≤ 10 ∧ 0 ≤ T ∧ T ≤ 20000) (hT : T ≤ 19000) (h40 : 0 ≤ n ∧ n ≤ 40) : ∃ s2, fgb s s2 ∧ RV s2 173 (itb n.toNat B) N R (T + n) ∧ ∀ Q, Call d 161 [zrf 172, zint n] (G, s) Q = Q none (G, s2) := by
  have hg' := hg
  obtain ⟨g1, g2, g3, g4, g5, g6, g7, g8, g9, g10, g11, g12, g13, g14, g15, g16, g17, g18, g19, g20, g21, g22, g23, g24, g25, g26, g27, g28, g29, g30, g31, g32, g33, g34⟩ := hg'
  obtain ⟨s2, f2, w2, e⟩ := l161 (n := n) hd hg ⟨hn.1, hn.2.1⟩ (by omega) h40.2 n.toNat 0 s B T zun (by omega) (Int.le_refl 0) hv hb (by omega)
  rw [show T + (n.toNat : Int) = T + n by omega] at w2
  refine ⟨s2, f2, w2, fun Q => ?_⟩
  rw [e161 (show 1 ≤ d by omega)]
  simp (disch := first | omega | exact rfl) only [↓u161_0, ↓u161_1, ↓u161_3, ↓u161_4, ↓u161_7, ↓u161_8, ↓u161_10, ↓u161_11, ↓u161_14, ↓u161_17, ↓u161_18, ↓u161_21, ↓u161_22, ↓u161_23, ↓u161_26, ↓u161_29, ↓u161_30, ↓u161_31, ↓u161_32, ↓u161_35, ↓u161_38, ↓u161_39, ↓u161_40, ↓u161_41, ↓u161_42, ↓u161_44, ↓u161_47, ↓u161_48, ↓u161_49, ↓u161_50, ↓u161_51, ↓u161_53, ↓u161_56, ↓u161_59, ↓u161_63, ↓u161_66, ↓u161_69, ↓u161_70, ↓u161_71, ↓u161_72, ↓u161_73, ↓u161_74, ↓u161_77, ↓u161_80, ↓lI_0, ↓lI_s, ↓lL_0, ↓lL_s, ↓lR_0, ↓lR_s, ↓sT_0, ↓sT_i, ↓sT_r, ↓sT_u, ↓sT_lu, ↓sU_0, ↓sU_i, ↓sU_r, ↓sU_u, ↓ite_bx, bx_T, bx_F, bx_pos, bx_neg, zws_i, zws_r, zws_l, zws_n, zCb_kc, xl_ll, xr_rr, xs_e, xset_e, Option.toList, List.cons_append, List.nil_append, zIb_e, zrng_e, nz_e, if_pos, if_neg, and_true, true_and, or_true, true_or, ite_self, bi_eq0, bi_eq1, bi_1, bi_0, bi_ir, bi_T, bi_F, up_eq, up_ne, ↓reduceIte, reduceIte, Nat.reduceAdd, Nat.reduceLeDiff, Nat.le_refl, Nat.zero_le, not_true_eq_false, not_false_eq_true, ne_eq, Int.reduceEq, Int.reduceLT, Int.reduceLE, Int.reduceAdd, Int.reduceSub, Int.reduceMul, Int.reduceNeg, pT g1, g2, g3, g4, g5, g6, g7, g8, g9, g10, g11, pT g12, zSb_e' g12, g13, e]
set_option maxRecDepth 8000 in
theorem s162_b {d : Nat} {Q : Option AV → XH → Prop} {G : XS} {s : ZS} {B : ZS} {N R T : Int} {n : Int} (hd : 4 ≤ d) (hg : MOK G) (hv : RV s 173 B N R T) (hb : OKB B N) (hn : 0 ≤ N ∧ N ≤ 40 ∧ 0 ≤ R ∧ R ≤ 10 ∧ 0 ≤ T ∧ T ≤ 20000) (i1 : ir n) (q : ¬(0 ≤ n ∧ n ≤ 40)) : Call d 162 [zrf 172, zint n] (G, s) Q = Q (some (zint (-2))) (G, s) := by
  have hg' := hg
  obtain ⟨g1, g2, g3, g4, g5, g6, g7, g8, g9, g10, g11, g12, g13, g14, g15, g16, g17, g18, g19, g20, g21, g22, g23, g24, g25, g26, g27, g28, g29, g30, g31, g32, g33, g34⟩ := hg'
  have hv' := hv
  obtain ⟨v1, v2, v3, v4, v5, v6⟩ := hv'
  rw [e162 (show 1 ≤ d by omega)]
  simp (disch := first | omega | exact rfl) only [↓u162_0, ↓u162_1, ↓u162_2, ↓u162_4, ↓u162_7, ↓u162_10, ↓u162_12, ↓u162_13, ↓u162_14, ↓u162_17, ↓u162_20, ↓u162_21, ↓u162_22, ↓u162_23, ↓u162_26, ↓u162_29, ↓u162_31, ↓u162_32, ↓u162_33, ↓u162_34, ↓u162_37, ↓u162_38, ↓u162_41, ↓u162_44, ↓u162_45, ↓lI_0, ↓lI_s, ↓lL_0, ↓lL_s, ↓lR_0, ↓lR_s, ↓sT_0, ↓sT_i, ↓sT_r, ↓sT_u, ↓sT_lu, ↓sU_0, ↓sU_i, ↓sU_r, ↓sU_u, ↓ite_bx, bx_T, bx_F, bx_pos, bx_neg, zws_i, zws_r, zws_l, zws_n, zCb_kc, xl_ll, xr_rr, xs_e, xset_e, Option.toList, List.cons_append, List.nil_append, zIb_e, zrng_e, nz_e, if_pos, if_neg, and_true, true_and, or_true, true_or, ite_self, bi_eq0, bi_eq1, bi_1, bi_0, bi_ir, bi_T, bi_F, up_eq, up_ne, ↓reduceIte, reduceIte, Nat.reduceAdd, Nat.reduceLeDiff, Nat.le_refl, Nat.zero_le, not_true_eq_false, not_false_eq_true, ne_eq, Int.reduceEq, Int.reduceLT, Int.reduceLE, Int.reduceAdd, Int.reduceSub, Int.reduceMul, Int.reduceNeg, pT g1, g2, g3, g4, g5, g6, g7, g8, g9, g10, g11, pT g12, zSb_e' g12, g13, v1, v2, v3, s111]
set_option maxRecDepth 8000 in
theorem s162_s {d : Nat} {Q : Option AV → XH → Prop} {G : XS} {s : ZS} {B : ZS} {N R T : Int} {n : Int} (hd : 4 ≤ d) (hg : MOK G) (hv : RV s 173 B N R T) (hb : OKB B N) (hn : 0 ≤ N ∧ N ≤ 40 ∧ 0 ≤ R ∧ R ≤ 10 ∧ 0 ≤ T ∧ T ≤ 20000) (i1 : ir n) (q : 0 ≤ n ∧ n ≤ 40) (q2 : 9999 < T + n) : Call d 162 [zrf 172, zint n] (G, s) Q = Q (some (zint (-3))) (G, s) := by
  have hg' := hg
  obtain ⟨g1, g2, g3, g4, g5, g6, g7, g8, g9, g10, g11, g12, g13, g14, g15, g16, g17, g18, g19, g20, g21, g22, g23, g24, g25, g26, g27, g28, g29, g30, g31, g32, g33, g34⟩ := hg'
  have hv' := hv
  obtain ⟨v1, v2, v3, v4, v5, v6⟩ := hv'
  rw [e162 (show 1 ≤ d by omega)]
  simp (disch := first | omega | exact rfl) only [↓u162_0, ↓u162_1, ↓u162_2, ↓u162_4, ↓u162_7, ↓u162_10, ↓u162_12, ↓u162_13, ↓u162_14, ↓u162_17, ↓u162_20, ↓u162_21, ↓u162_22, ↓u162_23, ↓u162_26, ↓u162_29, ↓u162_31, ↓u162_32, ↓u162_33, ↓u162_34, ↓u162_37, ↓u162_38, ↓u162_41, ↓u162_44, ↓u162_45, ↓lI_0, ↓lI_s, ↓lL_0, ↓lL_s, ↓lR_0, ↓lR_s, ↓sT_0, ↓sT_i, ↓sT_r, ↓sT_u, ↓sT_lu, ↓sU_0, ↓sU_i, ↓sU_r, ↓sU_u, ↓ite_bx, bx_T, bx_F, bx_pos, bx_neg, zws_i, zws_r, zws_l, zws_n, zCb_kc, xl_ll, xr_rr, xs_e, xset_e, Option.toList, List.cons_append, List.nil_append, zIb_e, zrng_e, nz_e, if_pos, if_neg, and_true, true_and, or_true, true_or, ite_self, bi_eq0, bi_eq1, bi_1, bi_0, bi_ir, bi_T, bi_F, up_eq, up_ne, ↓reduceIte, reduceIte, Nat.reduceAdd, Nat.reduceLeDiff, Nat.le_refl, Nat.zero_le, not_true_eq_false, not_false_eq_true, ne_eq, Int.reduceEq, Int.reduceLT, Int.reduceLE, Int.reduceAdd, Int.reduceSub, Int.reduceMul, Int.reduceNeg, pT g1, g2, g3, g4, g5, g6, g7, g8, g9, g10, g11, pT g12, zSb_e' g12, g13, v1, v2, v3, s111]
set_option maxRecDepth 8000 in
theorem s162_y {d : Nat} {G : XS} {s : ZS} {B : ZS} {N R T : Int} {n : Int} (hd : 4 ≤ d) (hg : MOK G) (hv : RV s 173 B N R T) (hb : OKB B N) (hn : 0 ≤ N ∧ N ≤ 40 ∧ 0 ≤ R ∧ R ≤ 10 ∧ 0 ≤ T ∧ T ≤ 20000) (q : 0 ≤ n ∧ n ≤ 40) (q2 : T + n ≤ 9999) : ∃ s2, fgb s s2 ∧ RV s2 173 (itb n.toNat B) N R (T + n) ∧ ∀ Q, Call d 162 [zrf 172, zint n] (G, s) Q = Q (some (zint (T + n))) (G, s2) := by
  have hg' := hg
  obtain ⟨g1, g2, g3, g4, g5, g6, g7, g8, g9, g10, g11, g12, g13, g14, g15, g16, g17, g18, g19, g20, g21, g22, g23, g24, g25, g26, g27, g28, g29, g30, g31, g32, g33, g34⟩ := hg'
  have hv' := hv
  obtain ⟨v1, v2, v3, v4, v5, v6⟩ := hv'
  obtain ⟨s2, f2, w2, e⟩ := s161 (d := d - 1) (by omega) hg hv hb hn (by omega) q
  have t1 := w2.2.1
  refine ⟨s2, f2, w2, fun Q => ?_⟩
  rw [e162 (show 1 ≤ d by omega)]
  simp (disch := first | omega | exact rfl) only [↓u162_0, ↓u162_1, ↓u162_2, ↓u162_4, ↓u162_7, ↓u162_10, ↓u162_12, ↓u162_13, ↓u162_14, ↓u162_17, ↓u162_20, ↓u162_21, ↓u162_22, ↓u162_23, ↓u162_26, ↓u162_29, ↓u162_31, ↓u162_32, ↓u162_33, ↓u162_34, ↓u162_37, ↓u162_38, ↓u162_41, ↓u162_44, ↓u162_45, ↓lI_0, ↓lI_s, ↓lL_0, ↓lL_s, ↓lR_0, ↓lR_s, ↓sT_0, ↓sT_i, ↓sT_r, ↓sT_u, ↓sT_lu, ↓sU_0, ↓sU_i, ↓sU_r, ↓sU_u, ↓ite_bx, bx_T, bx_F, bx_pos, bx_neg, zws_i, zws_r, zws_l, zws_n, zCb_kc, xl_ll, xr_rr, xs_e, xset_e, Option.toList, List.cons_append, List.nil_append, zIb_e, zrng_e, nz_e, if_pos, if_neg, and_true, true_and, or_true, true_or, ite_self, bi_eq0, bi_eq1, bi_1, bi_0, bi_ir, bi_T, bi_F, up_eq, up_ne, ↓reduceIte, reduceIte, Nat.reduceAdd, Nat.reduceLeDiff, Nat.le_refl, Nat.zero_le, not_true_eq_false, not_false_eq_true, ne_eq, Int.reduceEq, Int.reduceLT, Int.reduceLE, Int.reduceAdd, Int.reduceSub, Int.reduceMul, Int.reduceNeg, pT g1, g2, g3, g4, g5, g6, g7, g8, g9, g10, g11, pT g12, zSb_e' g12, g13, v1, v2, v3, s111, e, t1]
set_option maxRecDepth 8000 in
theorem s112 {d : Nat} {Q : Option AV → XH → Prop} {G : XS} {s : ZS} {a b : Int} (hd : 1 ≤ d) (ka : kc G a 7) (la : ll G a = 417) (kb : kc G b 7) (lb : ll G b = 417) (hab : b ≠ a) : Call d 112 [zrf b, zrf a] (G, s) Q = Q none (G, cpr s a b 417) := by
  rw [e112 (show 1 ≤ d by omega)]
  have lp : ∀ i, 0 ≤ i → i ≤ 417 → Wp (d - 1) 112 (2, [zrf b, zrf a, zint i], [], (G, cpr s a b i)) Q = Q none (G, cpr s a b 417) := by
    refine dn (P := fun i => Wp (d - 1) 112 (2, [zrf b, zrf a, zint i], [], (G, cpr s a b i)) Q = Q none (G, cpr s a b 417)) ?_ ?_
    · rw [u112_2]
      simp (disch := first | omega | exact rfl) only [↓u112_0, ↓u112_1, ↓u112_3, ↓u112_6, ↓u112_9, ↓u112_10, ↓u112_11, ↓u112_12, ↓u112_13, ↓u112_14, ↓u112_15, ↓u112_18, ↓u112_21, ↓lI_0, ↓lI_s, ↓lL_0, ↓lL_s, ↓lR_0, ↓lR_s, ↓sT_0, ↓sT_i, ↓sT_r, ↓sT_u, ↓sT_lu, ↓sU_0, ↓sU_i, ↓sU_r, ↓sU_u, ↓ite_bx, bx_T, bx_F, bx_pos, bx_neg, zws_i, zws_r, zws_l, zws_n, zCb_kc, xl_ll, xr_rr, xs_e, xset_e, Option.toList, List.cons_append, List.nil_append, zIb_e, zrng_e, nz_e, if_pos, if_neg, and_true, true_and, or_true, true_or, ite_self, bi_eq0, bi_eq1, bi_1, bi_0, bi_ir, bi_T, bi_F, up_eq, up_ne, ↓reduceIte, reduceIte, Nat.reduceAdd, Nat.reduceLeDiff, Nat.le_refl, Nat.zero_le, not_true_eq_false, not_false_eq_true, ne_eq, Int.reduceEq, Int.reduceLT, Int.reduceLE, Int.reduceAdd, Int.reduceSub, Int.reduceMul, Int.reduceNeg]
    · intro i h0 h1 ih
      have e := cpr_s (s := s) (a := a) (b := b) (n := i) (by omega) h0
      have eb : cpr s a b i b i = s b i := cpr_o (Or.inl hab)
      rw [u112_2]
      simp (disch := first | omega | exact rfl) only [↓u112_0, ↓u112_1, ↓u112_3, ↓u112_6, ↓u112_9, ↓u112_10, ↓u112_11, ↓u112_12, ↓u112_13, ↓u112_14, ↓u112_15, ↓u112_18, ↓u112_21, ↓lI_0, ↓lI_s, ↓lL_0, ↓lL_s, ↓lR_0, ↓lR_s, ↓sT_0, ↓sT_i, ↓sT_r, ↓sT_u, ↓sT_lu, ↓sU_0, ↓sU_i, ↓sU_r, ↓sU_u, ↓ite_bx, bx_T, bx_F, bx_pos, bx_neg, zws_i, zws_r, zws_l, zws_n, zCb_kc, xl_ll, xr_rr, xs_e, xset_e, Option.toList, List.cons_append, List.nil_append, zIb_e, zrng_e, nz_e, if_pos, if_neg, and_true, true_and, or_true, true_or, ite_self, bi_eq0, bi_eq1, bi_1, bi_0, bi_ir, bi_T, bi_F, up_eq, up_ne, ↓reduceIte, reduceIte, Nat.reduceAdd, Nat.reduceLeDiff, Nat.le_refl, Nat.zero_le, not_true_eq_false, not_false_eq_true, ne_eq, Int.reduceEq, Int.reduceLT, Int.reduceLE, Int.reduceAdd, Int.reduceSub, Int.reduceMul, Int.reduceNeg, pT ka, zSb_e' ka, la, pT kb, zSb_e' kb, lb, eb, e, ih]
  have l0 := lp 0 (Int.le_refl 0) (by omega)
  rw [cpr_0] at l0
  simp (disch := first | omega | exact rfl) only [↓u112_0, ↓u112_1, ↓u112_3, ↓u112_6, ↓u112_9, ↓u112_10, ↓u112_11, ↓u112_12, ↓u112_13, ↓u112_14, ↓u112_15, ↓u112_18, ↓u112_21, ↓lI_0, ↓lI_s, ↓lL_0, ↓lL_s, ↓lR_0, ↓lR_s, ↓sT_0, ↓sT_i, ↓sT_r, ↓sT_u, ↓sT_lu, ↓sU_0, ↓sU_i, ↓sU_r, ↓sU_u, ↓ite_bx, bx_T, bx_F, bx_pos, bx_neg, zws_i, zws_r, zws_l, zws_n, zCb_kc, xl_ll, xr_rr, xs_e, xset_e, Option.toList, List.cons_append, List.nil_append, zIb_e, zrng_e, nz_e, if_pos, if_neg, and_true, true_and, or_true, true_or, ite_self, bi_eq0, bi_eq1, bi_1, bi_0, bi_ir, bi_T, bi_F, up_eq, up_ne, ↓reduceIte, reduceIte, Nat.reduceAdd, Nat.reduceLeDiff, Nat.le_refl, Nat.zero_le, not_true_eq_false, not_false_eq_true, ne_eq, Int.reduceEq, Int.reduceLT, Int.reduceLE, Int.reduceAdd, Int.reduceSub, Int.reduceMul, Int.reduceNeg, l0]
/-- all that counts of the reference as it was -/
def frw (s s2 : ZS) : Prop := ∀ a c, (a ≠ 172 ∨ c < 10) → (a ≠ 174 ∧ a ≠ 186 ∧ a ≠ 187 ∧ a ≠ 188) → s2 a c = s a c
set_option maxRecDepth 8000 in
theorem frw_r {s s2 : ZS} (h : frr s s2) : frw s s2 := fun a c h1 _ => h a c h1
set_option maxRecDepth 8000 in
theorem frw_t {s s2 s3 : ZS} (h1 : frw s s2) (h2 : frw s2 s3) : frw s s3 := fun a c h h' => by rw [h2 a c h h', h1 a c h h']
set_option maxRecDepth 8000 in
theorem frw_c {s s2 : ZS} {K : Int} (hK : K = 174 ∨ K = 188) (h : fgb (cpr s K 173 417) s2) : frw s (cpr s2 173 K 417) := by
  intro a c h1 h2
  by_cases e : a = 173
  · rw [e]
    by_cases e2 : 0 ≤ c ∧ c < 417
    · rw [cpr_i e2, h K c (by omega), cpr_i e2]
    · rw [cpr_o (by omega), h 173 c (by omega), cpr_o (by omega)]
  · rw [cpr_o (Or.inl e), h a c (Or.inl e), cpr_o (by omega)]
set_option maxRecDepth 8000 in
theorem frw_d {s s2 s3 : ZS} (h : fgb (cpr s 174 173 417) s2) (h2 : frr s2 s3) : frw s (cpr s3 173 174 417) := by
  intro a c h1 h3
  by_cases e : a = 173
  · rw [e]
    by_cases e2 : 0 ≤ c ∧ c < 417
    · rw [cpr_i e2, h2 174 c (by omega), h 174 c (by omega), cpr_i e2]
    · rw [cpr_o (by omega), h2 173 c (by omega), h 173 c (by omega), cpr_o (by omega)]
  · rw [cpr_o (Or.inl e), h2 a c h1, h a c (Or.inl e), cpr_o (by omega)]
set_option maxRecDepth 8000 in
theorem RV_e {s s2 : ZS} {A : Int} {B : ZS} {N R T : Int} (hv : RV s A B N R T) (e : ∀ c, s2 A c = s A c) : RV s2 A B N R T := by
  obtain ⟨v1, v2, v3, v4, v5, v6⟩ := hv
  exact ⟨by rw [e]; exact v1, by rw [e]; exact v2, by rw [e]; exact v3, fun i h => by rw [e]; exact v4 i h, fun i f h => by rw [e]; exact v5 i f h, fun i h => by rw [e]; exact v6 i h⟩
set_option maxRecDepth 8000 in
theorem RV_k {s : ZS} {B : ZS} {N R T K : Int} (hv : RV s 173 B N R T) (hK : K ≠ 173) : RV (cpr s K 173 417) 173 B N R T := by
  have e : ∀ c, cpr s K 173 417 173 c = s 173 c := fun c => cpr_o (Or.inl (fun h => hK h.symm))
  obtain ⟨v1, v2, v3, v4, v5, v6⟩ := hv
  exact ⟨by rw [e]; exact v1, by rw [e]; exact v2, by rw [e]; exact v3, fun i h => by rw [e]; exact v4 i h, fun i f h => by rw [e]; exact v5 i f h, fun i h => by rw [e]; exact v6 i h⟩
set_option maxRecDepth 8000 in
theorem s163_0 {d : Nat} {Q : Option AV → XH → Prop} {G : XS} {s : ZS} {B : ZS} {N R T : Int}  (hd : 6 ≤ d) (hg : MOK G) (hv : RV s 173 B N R T) (hb : OKB B N) (hn : 0 ≤ N ∧ N ≤ 40 ∧ 0 ≤ R ∧ R ≤ 10 ∧ 0 ≤ T ∧ T ≤ 20000)  : Call d 163 [zrf 172, zint 0] (G, s) Q = Q (some (zint (prs B N))) (G, s) := by
  have hg' := hg
  obtain ⟨g1, g2, g3, g4, g5, g6, g7, g8, g9, g10, g11, g12, g13, g14, g15, g16, g17, g18, g19, g20, g21, g22, g23, g24, g25, g26, g27, g28, g29, g30, g31, g32, g33, g34⟩ := hg'
  have hv' := hv
  obtain ⟨v1, v2, v3, v4, v5, v6⟩ := hv'
  rw [e163 (show 1 ≤ d by omega)]
  simp (disch := first | omega | exact rfl) only [↓u163_0, ↓u163_1, ↓u163_3, ↓u163_4, ↓u163_5, ↓u163_6, ↓u163_9, ↓u163_10, ↓u163_13, ↓u163_16, ↓u163_17, ↓u163_20, ↓u163_23, ↓u163_24, ↓u163_25, ↓u163_26, ↓u163_29, ↓u163_32, ↓u163_33, ↓u163_36, ↓u163_39, ↓u163_40, ↓u163_41, ↓u163_42, ↓u163_45, ↓u163_48, ↓u163_49, ↓u163_50, ↓u163_53, ↓lI_0, ↓lI_s, ↓lL_0, ↓lL_s, ↓lR_0, ↓lR_s, ↓sT_0, ↓sT_i, ↓sT_r, ↓sT_u, ↓sT_lu, ↓sU_0, ↓sU_i, ↓sU_r, ↓sU_u, ↓ite_bx, bx_T, bx_F, bx_pos, bx_neg, zws_i, zws_r, zws_l, zws_n, zCb_kc, xl_ll, xr_rr, xs_e, xset_e, Option.toList, List.cons_append, List.nil_append, zIb_e, zrng_e, nz_e, if_pos, if_neg, and_true, true_and, or_true, true_or, ite_self, bi_eq0, bi_eq1, bi_1, bi_0, bi_ir, bi_T, bi_F, up_eq, up_ne, ↓reduceIte, reduceIte, Nat.reduceAdd, Nat.reduceLeDiff, Nat.le_refl, Nat.zero_le, not_true_eq_false, not_false_eq_true, ne_eq, Int.reduceEq, Int.reduceLT, Int.reduceLE, Int.reduceAdd, Int.reduceSub, Int.reduceMul, Int.reduceNeg, pT g1, g2, g3, g4, g5, g6, g7, g8, g9, g10, g11, pT g12, zSb_e' g12, g13, v1, v2, v3, t148 (show 5 ≤ d - 1 by omega) hg hv hb hn]
set_option maxRecDepth 8000 in
theorem s163_1 {d : Nat} {Q : Option AV → XH → Prop} {G : XS} {s : ZS} {B : ZS} {N R T : Int} {w : Int} (hd : 6 ≤ d) (hg : MOK G) (hv : RV s 173 B N R T) (hb : OKB B N) (hn : 0 ≤ N ∧ N ≤ 40 ∧ 0 ≤ R ∧ R ≤ 10 ∧ 0 ≤ T ∧ T ≤ 20000) (q : (100 ≤ w ∧ w ≤ 199) ∧ hr B N (w % 100)) : Call d 163 [zrf 172, zint w] (G, s) Q = Q (some (zint (B (w % 100) 2))) (G, s) := by
  have hg' := hg
  obtain ⟨g1, g2, g3, g4, g5, g6, g7, g8, g9, g10, g11, g12, g13, g14, g15, g16, g17, g18, g19, g20, g21, g22, g23, g24, g25, g26, g27, g28, g29, g30, g31, g32, g33, g34⟩ := hg'
  have hv' := hv
  obtain ⟨v1, v2, v3, v4, v5, v6⟩ := hv'
  rw [e163 (show 1 ≤ d by omega)]
  simp (disch := first | omega | exact rfl) only [↓u163_0, ↓u163_1, ↓u163_3, ↓u163_4, ↓u163_5, ↓u163_6, ↓u163_9, ↓u163_10, ↓u163_13, ↓u163_16, ↓u163_17, ↓u163_20, ↓u163_23, ↓u163_24, ↓u163_25, ↓u163_26, ↓u163_29, ↓u163_32, ↓u163_33, ↓u163_36, ↓u163_39, ↓u163_40, ↓u163_41, ↓u163_42, ↓u163_45, ↓u163_48, ↓u163_49, ↓u163_50, ↓u163_53, ↓lI_0, ↓lI_s, ↓lL_0, ↓lL_s, ↓lR_0, ↓lR_s, ↓sT_0, ↓sT_i, ↓sT_r, ↓sT_u, ↓sT_lu, ↓sU_0, ↓sU_i, ↓sU_r, ↓sU_u, ↓ite_bx, bx_T, bx_F, bx_pos, bx_neg, zws_i, zws_r, zws_l, zws_n, zCb_kc, xl_ll, xr_rr, xs_e, xset_e, Option.toList, List.cons_append, List.nil_append, zIb_e, zrng_e, nz_e, if_pos, if_neg, and_true, true_and, or_true, true_or, ite_self, bi_eq0, bi_eq1, bi_1, bi_0, bi_ir, bi_T, bi_F, up_eq, up_ne, ↓reduceIte, reduceIte, Nat.reduceAdd, Nat.reduceLeDiff, Nat.le_refl, Nat.zero_le, not_true_eq_false, not_false_eq_true, ne_eq, Int.reduceEq, Int.reduceLT, Int.reduceLE, Int.reduceAdd, Int.reduceSub, Int.reduceMul, Int.reduceNeg, pT g1, g2, g3, g4, g5, g6, g7, g8, g9, g10, g11, pT g12, zSb_e' g12, g13, v1, v2, v3, tm_e, s113 (show 1 ≤ d - 1 by omega) hg hv hn q.2, s137 (show 5 ≤ d - 1 by omega) hg hv hb hn q.2]
set_option maxRecDepth 8000 in
theorem s163_2 {d : Nat} {Q : Option AV → XH → Prop} {G : XS} {s : ZS} {B : ZS} {N R T : Int} {w : Int} (hd : 6 ≤ d) (hg : MOK G) (hv : RV s 173 B N R T) (hb : OKB B N) (hn : 0 ≤ N ∧ N ≤ 40 ∧ 0 ≤ R ∧ R ≤ 10 ∧ 0 ≤ T ∧ T ≤ 20000) (q : (200 ≤ w ∧ w ≤ 299) ∧ hr B N (w % 100)) : Call d 163 [zrf 172, zint w] (G, s) Q = Q (some (zint (B (w % 100) 3))) (G, s) := by
  have hg' := hg
  obtain ⟨g1, g2, g3, g4, g5, g6, g7, g8, g9, g10, g11, g12, g13, g14, g15, g16, g17, g18, g19, g20, g21, g22, g23, g24, g25, g26, g27, g28, g29, g30, g31, g32, g33, g34⟩ := hg'
  have hv' := hv
  obtain ⟨v1, v2, v3, v4, v5, v6⟩ := hv'
  rw [e163 (show 1 ≤ d by omega)]
  simp (disch := first | omega | exact rfl) only [↓u163_0, ↓u163_1, ↓u163_3, ↓u163_4, ↓u163_5, ↓u163_6, ↓u163_9, ↓u163_10, ↓u163_13, ↓u163_16, ↓u163_17, ↓u163_20, ↓u163_23, ↓u163_24, ↓u163_25, ↓u163_26, ↓u163_29, ↓u163_32, ↓u163_33, ↓u163_36, ↓u163_39, ↓u163_40, ↓u163_41, ↓u163_42, ↓u163_45, ↓u163_48, ↓u163_49, ↓u163_50, ↓u163_53, ↓lI_0, ↓lI_s, ↓lL_0, ↓lL_s, ↓lR_0, ↓lR_s, ↓sT_0, ↓sT_i, ↓sT_r, ↓sT_u, ↓sT_lu, ↓sU_0, ↓sU_i, ↓sU_r, ↓sU_u, ↓ite_bx, bx_T, bx_F, bx_pos, bx_neg, zws_i, zws_r, zws_l, zws_n, zCb_kc, xl_ll, xr_rr, xs_e, xset_e, Option.toList, List.cons_append, List.nil_append, zIb_e, zrng_e, nz_e, if_pos, if_neg, and_true, true_and, or_true, true_or, ite_self, bi_eq0, bi_eq1, bi_1, bi_0, bi_ir, bi_T, bi_F, up_eq, up_ne, ↓reduceIte, reduceIte, Nat.reduceAdd, Nat.reduceLeDiff, Nat.le_refl, Nat.zero_le, not_true_eq_false, not_false_eq_true, ne_eq, Int.reduceEq, Int.reduceLT, Int.reduceLE, Int.reduceAdd, Int.reduceSub, Int.reduceMul, Int.reduceNeg, pT g1, g2, g3, g4, g5, g6, g7, g8, g9, g10, g11, pT g12, zSb_e' g12, g13, v1, v2, v3, tm_e, s113 (show 1 ≤ d - 1 by omega) hg hv hn q.2, s137 (show 5 ≤ d - 1 by omega) hg hv hb hn q.2]
set_option maxRecDepth 8000 in
theorem s163_3 {d : Nat} {Q : Option AV → XH → Prop} {G : XS} {s : ZS} {B : ZS} {N R T : Int} {w : Int} (hd : 6 ≤ d) (hg : MOK G) (hv : RV s 173 B N R T) (hb : OKB B N) (hn : 0 ≤ N ∧ N ≤ 40 ∧ 0 ≤ R ∧ R ≤ 10 ∧ 0 ≤ T ∧ T ≤ 20000) (q : (300 ≤ w ∧ w ≤ 399) ∧ hr B N (w % 100)) : Call d 163 [zrf 172, zint w] (G, s) Q = Q (some (zint (pt B N R (w % 100)))) (G, s) := by
  have hg' := hg
  obtain ⟨g1, g2, g3, g4, g5, g6, g7, g8, g9, g10, g11, g12, g13, g14, g15, g16, g17, g18, g19, g20, g21, g22, g23, g24, g25, g26, g27, g28, g29, g30, g31, g32, g33, g34⟩ := hg'
  have hv' := hv
  obtain ⟨v1, v2, v3, v4, v5, v6⟩ := hv'
  rw [e163 (show 1 ≤ d by omega)]
  simp (disch := first | omega | exact rfl) only [↓u163_0, ↓u163_1, ↓u163_3, ↓u163_4, ↓u163_5, ↓u163_6, ↓u163_9, ↓u163_10, ↓u163_13, ↓u163_16, ↓u163_17, ↓u163_20, ↓u163_23, ↓u163_24, ↓u163_25, ↓u163_26, ↓u163_29, ↓u163_32, ↓u163_33, ↓u163_36, ↓u163_39, ↓u163_40, ↓u163_41, ↓u163_42, ↓u163_45, ↓u163_48, ↓u163_49, ↓u163_50, ↓u163_53, ↓lI_0, ↓lI_s, ↓lL_0, ↓lL_s, ↓lR_0, ↓lR_s, ↓sT_0, ↓sT_i, ↓sT_r, ↓sT_u, ↓sT_lu, ↓sU_0, ↓sU_i, ↓sU_r, ↓sU_u, ↓ite_bx, bx_T, bx_F, bx_pos, bx_neg, zws_i, zws_r, zws_l, zws_n, zCb_kc, xl_ll, xr_rr, xs_e, xset_e, Option.toList, List.cons_append, List.nil_append, zIb_e, zrng_e, nz_e, if_pos, if_neg, and_true, true_and, or_true, true_or, ite_self, bi_eq0, bi_eq1, bi_1, bi_0, bi_ir, bi_T, bi_F, up_eq, up_ne, ↓reduceIte, reduceIte, Nat.reduceAdd, Nat.reduceLeDiff, Nat.le_refl, Nat.zero_le, not_true_eq_false, not_false_eq_true, ne_eq, Int.reduceEq, Int.reduceLT, Int.reduceLE, Int.reduceAdd, Int.reduceSub, Int.reduceMul, Int.reduceNeg, pT g1, g2, g3, g4, g5, g6, g7, g8, g9, g10, g11, pT g12, zSb_e' g12, g13, v1, v2, v3, tm_e, s113 (show 1 ≤ d - 1 by omega) hg hv hn q.2, s137 (show 5 ≤ d - 1 by omega) hg hv hb hn q.2]
set_option maxRecDepth 8000 in
theorem s164_n {d : Nat} {Q : Option AV → XH → Prop} {G : XS} {s : ZS} {B : ZS} {N R T : Int} {n w : Int} (hd : 7 ≤ d) (hg : MOK G) (hv : RV s 173 B N R T) (hb : OKB B N) (hn : 0 ≤ N ∧ N ≤ 40 ∧ 0 ≤ R ∧ R ≤ 10 ∧ 0 ≤ T ∧ T ≤ 20000) (i1 : ir n) (iw : ir w) (q0 : w ≠ 0) (q : ¬((100 ≤ w ∧ w ≤ 399) ∧ hr B N (w % 100))) : Call d 164 [zrf 172, zint n, zint w] (G, s) Q = Q (some (zint (-1))) (G, s) := by
  have hg' := hg
  obtain ⟨g1, g2, g3, g4, g5, g6, g7, g8, g9, g10, g11, g12, g13, g14, g15, g16, g17, g18, g19, g20, g21, g22, g23, g24, g25, g26, g27, g28, g29, g30, g31, g32, g33, g34⟩ := hg'
  have hv' := hv
  obtain ⟨v1, v2, v3, v4, v5, v6⟩ := hv'
  rw [e164 (show 1 ≤ d by omega)]
  by_cases q0 : 100 ≤ w ∧ w ≤ 399
  · skip
    first
    | (exfalso; omega; done)
    | simp (disch := first | omega | exact rfl) only [↓u164_0, ↓u164_1, ↓u164_4, ↓u164_5, ↓u164_7, ↓u164_10, ↓u164_13, ↓u164_16, ↓u164_17, ↓u164_18, ↓u164_20, ↓u164_21, ↓u164_24, ↓u164_27, ↓u164_28, ↓u164_29, ↓u164_30, ↓u164_31, ↓u164_33, ↓u164_36, ↓u164_39, ↓u164_41, ↓u164_42, ↓u164_43, ↓u164_46, ↓u164_47, ↓u164_50, ↓u164_53, ↓u164_54, ↓u164_55, ↓u164_58, ↓u164_59, ↓u164_60, ↓u164_63, ↓u164_64, ↓u164_65, ↓u164_68, ↓u164_69, ↓u164_72, ↓u164_75, ↓u164_76, ↓lI_0, ↓lI_s, ↓lL_0, ↓lL_s, ↓lR_0, ↓lR_s, ↓sT_0, ↓sT_i, ↓sT_r, ↓sT_u, ↓sT_lu, ↓sU_0, ↓sU_i, ↓sU_r, ↓sU_u, ↓ite_bx, bx_T, bx_F, bx_pos, bx_neg, zws_i, zws_r, zws_l, zws_n, zCb_kc, xl_ll, xr_rr, xs_e, xset_e, Option.toList, List.cons_append, List.nil_append, zIb_e, zrng_e, nz_e, if_pos, if_neg, and_true, true_and, or_true, true_or, ite_self, bi_eq0, bi_eq1, bi_1, bi_0, bi_ir, bi_T, bi_F, up_eq, up_ne, ↓reduceIte, reduceIte, Nat.reduceAdd, Nat.reduceLeDiff, Nat.le_refl, Nat.zero_le, not_true_eq_false, not_false_eq_true, ne_eq, Int.reduceEq, Int.reduceLT, Int.reduceLE, Int.reduceAdd, Int.reduceSub, Int.reduceMul, Int.reduceNeg, pT g1, g2, g3, g4, g5, g6, g7, g8, g9, g10, g11, pT g12, zSb_e' g12, g13, v1, v2, v3, s111, tm_e, s115 (show 2 ≤ d - 1 by omega) hg hv hb hn]
  · skip
    first
    | (exfalso; omega; done)
    | simp (disch := first | omega | exact rfl) only [↓u164_0, ↓u164_1, ↓u164_4, ↓u164_5, ↓u164_7, ↓u164_10, ↓u164_13, ↓u164_16, ↓u164_17, ↓u164_18, ↓u164_20, ↓u164_21, ↓u164_24, ↓u164_27, ↓u164_28, ↓u164_29, ↓u164_30, ↓u164_31, ↓u164_33, ↓u164_36, ↓u164_39, ↓u164_41, ↓u164_42, ↓u164_43, ↓u164_46, ↓u164_47, ↓u164_50, ↓u164_53, ↓u164_54, ↓u164_55, ↓u164_58, ↓u164_59, ↓u164_60, ↓u164_63, ↓u164_64, ↓u164_65, ↓u164_68, ↓u164_69, ↓u164_72, ↓u164_75, ↓u164_76, ↓lI_0, ↓lI_s, ↓lL_0, ↓lL_s, ↓lR_0, ↓lR_s, ↓sT_0, ↓sT_i, ↓sT_r, ↓sT_u, ↓sT_lu, ↓sU_0, ↓sU_i, ↓sU_r, ↓sU_u, ↓ite_bx, bx_T, bx_F, bx_pos, bx_neg, zws_i, zws_r, zws_l, zws_n, zCb_kc, xl_ll, xr_rr, xs_e, xset_e, Option.toList, List.cons_append, List.nil_append, zIb_e, zrng_e, nz_e, if_pos, if_neg, and_true, true_and, or_true, true_or, ite_self, bi_eq0, bi_eq1, bi_1, bi_0, bi_ir, bi_T, bi_F, up_eq, up_ne, ↓reduceIte, reduceIte, Nat.reduceAdd, Nat.reduceLeDiff, Nat.le_refl, Nat.zero_le, not_true_eq_false, not_false_eq_true, ne_eq, Int.reduceEq, Int.reduceLT, Int.reduceLE, Int.reduceAdd, Int.reduceSub, Int.reduceMul, Int.reduceNeg, pT g1, g2, g3, g4, g5, g6, g7, g8, g9, g10, g11, pT g12, zSb_e' g12, g13, v1, v2, v3, s111, tm_e, s115 (show 2 ≤ d - 1 by omega) hg hv hb hn]
set_option maxRecDepth 8000 in
theorem s164_b {d : Nat} {Q : Option AV → XH → Prop} {G : XS} {s : ZS} {B : ZS} {N R T : Int} {n w : Int} (hd : 7 ≤ d) (hg : MOK G) (hv : RV s 173 B N R T) (hb : OKB B N) (hn : 0 ≤ N ∧ N ≤ 40 ∧ 0 ≤ R ∧ R ≤ 10 ∧ 0 ≤ T ∧ T ≤ 20000) (i1 : ir n) (iw : ir w) (q : w = 0 ∨ ((100 ≤ w ∧ w ≤ 399) ∧ hr B N (w % 100))) (q2 : ¬(0 ≤ n ∧ n ≤ 40)) : Call d 164 [zrf 172, zint n, zint w] (G, s) Q = Q (some (zint (-2))) (G, s) := by
  have hg' := hg
  obtain ⟨g1, g2, g3, g4, g5, g6, g7, g8, g9, g10, g11, g12, g13, g14, g15, g16, g17, g18, g19, g20, g21, g22, g23, g24, g25, g26, g27, g28, g29, g30, g31, g32, g33, g34⟩ := hg'
  have hv' := hv
  obtain ⟨v1, v2, v3, v4, v5, v6⟩ := hv'
  rw [e164 (show 1 ≤ d by omega)]
  by_cases q0 : w = 0
  · skip
    first
    | (exfalso; omega; done)
    | simp (disch := first | omega | exact rfl) only [↓u164_0, ↓u164_1, ↓u164_4, ↓u164_5, ↓u164_7, ↓u164_10, ↓u164_13, ↓u164_16, ↓u164_17, ↓u164_18, ↓u164_20, ↓u164_21, ↓u164_24, ↓u164_27, ↓u164_28, ↓u164_29, ↓u164_30, ↓u164_31, ↓u164_33, ↓u164_36, ↓u164_39, ↓u164_41, ↓u164_42, ↓u164_43, ↓u164_46, ↓u164_47, ↓u164_50, ↓u164_53, ↓u164_54, ↓u164_55, ↓u164_58, ↓u164_59, ↓u164_60, ↓u164_63, ↓u164_64, ↓u164_65, ↓u164_68, ↓u164_69, ↓u164_72, ↓u164_75, ↓u164_76, ↓lI_0, ↓lI_s, ↓lL_0, ↓lL_s, ↓lR_0, ↓lR_s, ↓sT_0, ↓sT_i, ↓sT_r, ↓sT_u, ↓sT_lu, ↓sU_0, ↓sU_i, ↓sU_r, ↓sU_u, ↓ite_bx, bx_T, bx_F, bx_pos, bx_neg, zws_i, zws_r, zws_l, zws_n, zCb_kc, xl_ll, xr_rr, xs_e, xset_e, Option.toList, List.cons_append, List.nil_append, zIb_e, zrng_e, nz_e, if_pos, if_neg, and_true, true_and, or_true, true_or, ite_self, bi_eq0, bi_eq1, bi_1, bi_0, bi_ir, bi_T, bi_F, up_eq, up_ne, ↓reduceIte, reduceIte, Nat.reduceAdd, Nat.reduceLeDiff, Nat.le_refl, Nat.zero_le, not_true_eq_false, not_false_eq_true, ne_eq, Int.reduceEq, Int.reduceLT, Int.reduceLE, Int.reduceAdd, Int.reduceSub, Int.reduceMul, Int.reduceNeg, pT g1, g2, g3, g4, g5, g6, g7, g8, g9, g10, g11, pT g12, zSb_e' g12, g13, v1, v2, v3, s111, tm_e, s115 (show 2 ≤ d - 1 by omega) hg hv hb hn]
  · skip
    first
    | (exfalso; omega; done)
    | simp (disch := first | omega | exact rfl) only [↓u164_0, ↓u164_1, ↓u164_4, ↓u164_5, ↓u164_7, ↓u164_10, ↓u164_13, ↓u164_16, ↓u164_17, ↓u164_18, ↓u164_20, ↓u164_21, ↓u164_24, ↓u164_27, ↓u164_28, ↓u164_29, ↓u164_30, ↓u164_31, ↓u164_33, ↓u164_36, ↓u164_39, ↓u164_41, ↓u164_42, ↓u164_43, ↓u164_46, ↓u164_47, ↓u164_50, ↓u164_53, ↓u164_54, ↓u164_55, ↓u164_58, ↓u164_59, ↓u164_60, ↓u164_63, ↓u164_64, ↓u164_65, ↓u164_68, ↓u164_69, ↓u164_72, ↓u164_75, ↓u164_76, ↓lI_0, ↓lI_s, ↓lL_0, ↓lL_s, ↓lR_0, ↓lR_s, ↓sT_0, ↓sT_i, ↓sT_r, ↓sT_u, ↓sT_lu, ↓sU_0, ↓sU_i, ↓sU_r, ↓sU_u, ↓ite_bx, bx_T, bx_F, bx_pos, bx_neg, zws_i, zws_r, zws_l, zws_n, zCb_kc, xl_ll, xr_rr, xs_e, xset_e, Option.toList, List.cons_append, List.nil_append, zIb_e, zrng_e, nz_e, if_pos, if_neg, and_true, true_and, or_true, true_or, ite_self, bi_eq0, bi_eq1, bi_1, bi_0, bi_ir, bi_T, bi_F, up_eq, up_ne, ↓reduceIte, reduceIte, Nat.reduceAdd, Nat.reduceLeDiff, Nat.le_refl, Nat.zero_le, not_true_eq_false, not_false_eq_true, ne_eq, Int.reduceEq, Int.reduceLT, Int.reduceLE, Int.reduceAdd, Int.reduceSub, Int.reduceMul, Int.reduceNeg, pT g1, g2, g3, g4, g5, g6, g7, g8, g9, g10, g11, pT g12, zSb_e' g12, g13, v1, v2, v3, s111, tm_e, s115 (show 2 ≤ d - 1 by omega) hg hv hb hn]
set_option maxRecDepth 8000 in
theorem s164_0 {d : Nat} {G : XS} {s : ZS} {B : ZS} {N R T : Int} {n w : Int} (hd : 7 ≤ d) (hg : MOK G) (hv : RV s 173 B N R T) (hb : OKB B N) (hn : 0 ≤ N ∧ N ≤ 40 ∧ 0 ≤ R ∧ R ≤ 10 ∧ 0 ≤ T ∧ T ≤ 20000) (q : w = 0) (q2 : 0 ≤ n ∧ n ≤ 40) (hT : T ≤ 9999) : ∃ s2, frw s s2 ∧ ∀ Q, Call d 164 [zrf 172, zint n, zint w] (G, s) Q = Q (some (zint (prs (itb n.toNat B) N))) (G, s2) := by
  have hg' := hg
  obtain ⟨g1, g2, g3, g4, g5, g6, g7, g8, g9, g10, g11, g12, g13, g14, g15, g16, g17, g18, g19, g20, g21, g22, g23, g24, g25, g26, g27, g28, g29, g30, g31, g32, g33, g34⟩ := hg'
  have hv' := hv
  obtain ⟨v1, v2, v3, v4, v5, v6⟩ := hv'
  obtain ⟨s1, f1, w1, e⟩ := s161 (n := n) (d := d - 1) (by omega) hg (RV_k hv (show (174 : Int) ≠ 173 by omega)) hb hn (by omega) q2
  have hb1 := OKB_i n.toNat hb
  subst q
  refine ⟨cpr s1 173 174 417, frw_c (Or.inl rfl) f1, fun Q => ?_⟩
  rw [e164 (show 1 ≤ d by omega)]
  simp (disch := first | omega | exact rfl) only [↓u164_0, ↓u164_1, ↓u164_4, ↓u164_5, ↓u164_7, ↓u164_10, ↓u164_13, ↓u164_16, ↓u164_17, ↓u164_18, ↓u164_20, ↓u164_21, ↓u164_24, ↓u164_27, ↓u164_28, ↓u164_29, ↓u164_30, ↓u164_31, ↓u164_33, ↓u164_36, ↓u164_39, ↓u164_41, ↓u164_42, ↓u164_43, ↓u164_46, ↓u164_47, ↓u164_50, ↓u164_53, ↓u164_54, ↓u164_55, ↓u164_58, ↓u164_59, ↓u164_60, ↓u164_63, ↓u164_64, ↓u164_65, ↓u164_68, ↓u164_69, ↓u164_72, ↓u164_75, ↓u164_76, ↓lI_0, ↓lI_s, ↓lL_0, ↓lL_s, ↓lR_0, ↓lR_s, ↓sT_0, ↓sT_i, ↓sT_r, ↓sT_u, ↓sT_lu, ↓sU_0, ↓sU_i, ↓sU_r, ↓sU_u, ↓ite_bx, bx_T, bx_F, bx_pos, bx_neg, zws_i, zws_r, zws_l, zws_n, zCb_kc, xl_ll, xr_rr, xs_e, xset_e, Option.toList, List.cons_append, List.nil_append, zIb_e, zrng_e, nz_e, if_pos, if_neg, and_true, true_and, or_true, true_or, ite_self, bi_eq0, bi_eq1, bi_1, bi_0, bi_ir, bi_T, bi_F, up_eq, up_ne, ↓reduceIte, reduceIte, Nat.reduceAdd, Nat.reduceLeDiff, Nat.le_refl, Nat.zero_le, not_true_eq_false, not_false_eq_true, ne_eq, Int.reduceEq, Int.reduceLT, Int.reduceLE, Int.reduceAdd, Int.reduceSub, Int.reduceMul, Int.reduceNeg, pT g1, g2, g3, g4, g5, g6, g7, g8, g9, g10, g11, pT g12, zSb_e' g12, g13, v1, v2, v3, s111, tm_e, s115 (show 2 ≤ d - 1 by omega) hg hv hb hn, s112 (show 1 ≤ d - 1 by omega) g14 g15 g12 g13, s112 (show 1 ≤ d - 1 by omega) g12 g13 g14 g15, e, s163_0 (show 6 ≤ d - 1 by omega) hg w1 hb1 (show 0 ≤ N ∧ N ≤ 40 ∧ 0 ≤ R ∧ R ≤ 10 ∧ 0 ≤ T + n ∧ T + n ≤ 20000 by omega)]
set_option maxRecDepth 8000 in
theorem s164_1 {d : Nat} {G : XS} {s : ZS} {B : ZS} {N R T : Int} {n w : Int} (hd : 7 ≤ d) (hg : MOK G) (hv : RV s 173 B N R T) (hb : OKB B N) (hn : 0 ≤ N ∧ N ≤ 40 ∧ 0 ≤ R ∧ R ≤ 10 ∧ 0 ≤ T ∧ T ≤ 20000) (iw : ir w) (q : (100 ≤ w ∧ w ≤ 199) ∧ hr B N (w % 100)) (q2 : 0 ≤ n ∧ n ≤ 40) (hT : T ≤ 9999) : ∃ s2, frw s s2 ∧ ∀ Q, Call d 164 [zrf 172, zint n, zint w] (G, s) Q = Q (some (zint (itb n.toNat B (w % 100) 2))) (G, s2) := by
  have hg' := hg
  obtain ⟨g1, g2, g3, g4, g5, g6, g7, g8, g9, g10, g11, g12, g13, g14, g15, g16, g17, g18, g19, g20, g21, g22, g23, g24, g25, g26, g27, g28, g29, g30, g31, g32, g33, g34⟩ := hg'
  have hv' := hv
  obtain ⟨v1, v2, v3, v4, v5, v6⟩ := hv'
  obtain ⟨s1, f1, w1, e⟩ := s161 (n := n) (d := d - 1) (by omega) hg (RV_k hv (show (174 : Int) ≠ 173 by omega)) hb hn (by omega) q2
  have hb1 := OKB_i n.toNat hb
  have q3 : (100 ≤ w ∧ w ≤ 199) ∧ hr (itb n.toNat B) N (w % 100) := by rw [hr_i]; exact q
  refine ⟨cpr s1 173 174 417, frw_c (Or.inl rfl) f1, fun Q => ?_⟩
  rw [e164 (show 1 ≤ d by omega)]
  simp (disch := first | omega | exact rfl) only [↓u164_0, ↓u164_1, ↓u164_4, ↓u164_5, ↓u164_7, ↓u164_10, ↓u164_13, ↓u164_16, ↓u164_17, ↓u164_18, ↓u164_20, ↓u164_21, ↓u164_24, ↓u164_27, ↓u164_28, ↓u164_29, ↓u164_30, ↓u164_31, ↓u164_33, ↓u164_36, ↓u164_39, ↓u164_41, ↓u164_42, ↓u164_43, ↓u164_46, ↓u164_47, ↓u164_50, ↓u164_53, ↓u164_54, ↓u164_55, ↓u164_58, ↓u164_59, ↓u164_60, ↓u164_63, ↓u164_64, ↓u164_65, ↓u164_68, ↓u164_69, ↓u164_72, ↓u164_75, ↓u164_76, ↓lI_0, ↓lI_s, ↓lL_0, ↓lL_s, ↓lR_0, ↓lR_s, ↓sT_0, ↓sT_i, ↓sT_r, ↓sT_u, ↓sT_lu, ↓sU_0, ↓sU_i, ↓sU_r, ↓sU_u, ↓ite_bx, bx_T, bx_F, bx_pos, bx_neg, zws_i, zws_r, zws_l, zws_n, zCb_kc, xl_ll, xr_rr, xs_e, xset_e, Option.toList, List.cons_append, List.nil_append, zIb_e, zrng_e, nz_e, if_pos, if_neg, and_true, true_and, or_true, true_or, ite_self, bi_eq0, bi_eq1, bi_1, bi_0, bi_ir, bi_T, bi_F, up_eq, up_ne, ↓reduceIte, reduceIte, Nat.reduceAdd, Nat.reduceLeDiff, Nat.le_refl, Nat.zero_le, not_true_eq_false, not_false_eq_true, ne_eq, Int.reduceEq, Int.reduceLT, Int.reduceLE, Int.reduceAdd, Int.reduceSub, Int.reduceMul, Int.reduceNeg, pT g1, g2, g3, g4, g5, g6, g7, g8, g9, g10, g11, pT g12, zSb_e' g12, g13, v1, v2, v3, s111, tm_e, s115 (show 2 ≤ d - 1 by omega) hg hv hb hn, s112 (show 1 ≤ d - 1 by omega) g14 g15 g12 g13, s112 (show 1 ≤ d - 1 by omega) g12 g13 g14 g15, e, s163_1 (show 6 ≤ d - 1 by omega) hg w1 hb1 (show 0 ≤ N ∧ N ≤ 40 ∧ 0 ≤ R ∧ R ≤ 10 ∧ 0 ≤ T + n ∧ T + n ≤ 20000 by omega) q3]
set_option maxRecDepth 8000 in
theorem s164_2 {d : Nat} {G : XS} {s : ZS} {B : ZS} {N R T : Int} {n w : Int} (hd : 7 ≤ d) (hg : MOK G) (hv : RV s 173 B N R T) (hb : OKB B N) (hn : 0 ≤ N ∧ N ≤ 40 ∧ 0 ≤ R ∧ R ≤ 10 ∧ 0 ≤ T ∧ T ≤ 20000) (iw : ir w) (q : (200 ≤ w ∧ w ≤ 299) ∧ hr B N (w % 100)) (q2 : 0 ≤ n ∧ n ≤ 40) (hT : T ≤ 9999) : ∃ s2, frw s s2 ∧ ∀ Q, Call d 164 [zrf 172, zint n, zint w] (G, s) Q = Q (some (zint (itb n.toNat B (w % 100) 3))) (G, s2) := by
  have hg' := hg
  obtain ⟨g1, g2, g3, g4, g5, g6, g7, g8, g9, g10, g11, g12, g13, g14, g15, g16, g17, g18, g19, g20, g21, g22, g23, g24, g25, g26, g27, g28, g29, g30, g31, g32, g33, g34⟩ := hg'
  have hv' := hv
  obtain ⟨v1, v2, v3, v4, v5, v6⟩ := hv'
  obtain ⟨s1, f1, w1, e⟩ := s161 (n := n) (d := d - 1) (by omega) hg (RV_k hv (show (174 : Int) ≠ 173 by omega)) hb hn (by omega) q2
  have hb1 := OKB_i n.toNat hb
  have q3 : (200 ≤ w ∧ w ≤ 299) ∧ hr (itb n.toNat B) N (w % 100) := by rw [hr_i]; exact q
  refine ⟨cpr s1 173 174 417, frw_c (Or.inl rfl) f1, fun Q => ?_⟩
  rw [e164 (show 1 ≤ d by omega)]
  simp (disch := first | omega | exact rfl) only [↓u164_0, ↓u164_1, ↓u164_4, ↓u164_5, ↓u164_7, ↓u164_10, ↓u164_13, ↓u164_16, ↓u164_17, ↓u164_18, ↓u164_20, ↓u164_21, ↓u164_24, ↓u164_27, ↓u164_28, ↓u164_29, ↓u164_30, ↓u164_31, ↓u164_33, ↓u164_36, ↓u164_39, ↓u164_41, ↓u164_42, ↓u164_43, ↓u164_46, ↓u164_47, ↓u164_50, ↓u164_53, ↓u164_54, ↓u164_55, ↓u164_58, ↓u164_59, ↓u164_60, ↓u164_63, ↓u164_64, ↓u164_65, ↓u164_68, ↓u164_69, ↓u164_72, ↓u164_75, ↓u164_76, ↓lI_0, ↓lI_s, ↓lL_0, ↓lL_s, ↓lR_0, ↓lR_s, ↓sT_0, ↓sT_i, ↓sT_r, ↓sT_u, ↓sT_lu, ↓sU_0, ↓sU_i, ↓sU_r, ↓sU_u, ↓ite_bx, bx_T, bx_F, bx_pos, bx_neg, zws_i, zws_r, zws_l, zws_n, zCb_kc, xl_ll, xr_rr, xs_e, xset_e, Option.toList, List.cons_append, List.nil_append, zIb_e, zrng_e, nz_e, if_pos, if_neg, and_true, true_and, or_true, true_or, ite_self, bi_eq0, bi_eq1, bi_1, bi_0, bi_ir, bi_T, bi_F, up_eq, up_ne, ↓reduceIte, reduceIte, Nat.reduceAdd, Nat.reduceLeDiff, Nat.le_refl, Nat.zero_le, not_true_eq_false, not_false_eq_true, ne_eq, Int.reduceEq, Int.reduceLT, Int.reduceLE, Int.reduceAdd, Int.reduceSub, Int.reduceMul, Int.reduceNeg, pT g1, g2, g3, g4, g5, g6, g7, g8, g9, g10, g11, pT g12, zSb_e' g12, g13, v1, v2, v3, s111, tm_e, s115 (show 2 ≤ d - 1 by omega) hg hv hb hn, s112 (show 1 ≤ d - 1 by omega) g14 g15 g12 g13, s112 (show 1 ≤ d - 1 by omega) g12 g13 g14 g15, e, s163_2 (show 6 ≤ d - 1 by omega) hg w1 hb1 (show 0 ≤ N ∧ N ≤ 40 ∧ 0 ≤ R ∧ R ≤ 10 ∧ 0 ≤ T + n ∧ T + n ≤ 20000 by omega) q3]
set_option maxRecDepth 8000 in
theorem s164_3 {d : Nat} {G : XS} {s : ZS} {B : ZS} {N R T : Int} {n w : Int} (hd : 7 ≤ d) (hg : MOK G) (hv : RV s 173 B N R T) (hb : OKB B N) (hn : 0 ≤ N ∧ N ≤ 40 ∧ 0 ≤ R ∧ R ≤ 10 ∧ 0 ≤ T ∧ T ≤ 20000) (iw : ir w) (q : (300 ≤ w ∧ w ≤ 399) ∧ hr B N (w % 100)) (q2 : 0 ≤ n ∧ n ≤ 40) (hT : T ≤ 9999) : ∃ s2, frw s s2 ∧ ∀ Q, Call d 164 [zrf 172, zint n, zint w] (G, s) Q = Q (some (zint (pt (itb n.toNat B) N R (w % 100)))) (G, s2) := by
  have hg' := hg
  obtain ⟨g1, g2, g3, g4, g5, g6, g7, g8, g9, g10, g11, g12, g13, g14, g15, g16, g17, g18, g19, g20, g21, g22, g23, g24, g25, g26, g27, g28, g29, g30, g31, g32, g33, g34⟩ := hg'
  have hv' := hv
  obtain ⟨v1, v2, v3, v4, v5, v6⟩ := hv'
  obtain ⟨s1, f1, w1, e⟩ := s161 (n := n) (d := d - 1) (by omega) hg (RV_k hv (show (174 : Int) ≠ 173 by omega)) hb hn (by omega) q2
  have hb1 := OKB_i n.toNat hb
  have q3 : (300 ≤ w ∧ w ≤ 399) ∧ hr (itb n.toNat B) N (w % 100) := by rw [hr_i]; exact q
  refine ⟨cpr s1 173 174 417, frw_c (Or.inl rfl) f1, fun Q => ?_⟩
  rw [e164 (show 1 ≤ d by omega)]
  simp (disch := first | omega | exact rfl) only [↓u164_0, ↓u164_1, ↓u164_4, ↓u164_5, ↓u164_7, ↓u164_10, ↓u164_13, ↓u164_16, ↓u164_17, ↓u164_18, ↓u164_20, ↓u164_21, ↓u164_24, ↓u164_27, ↓u164_28, ↓u164_29, ↓u164_30, ↓u164_31, ↓u164_33, ↓u164_36, ↓u164_39, ↓u164_41, ↓u164_42, ↓u164_43, ↓u164_46, ↓u164_47, ↓u164_50, ↓u164_53, ↓u164_54, ↓u164_55, ↓u164_58, ↓u164_59, ↓u164_60, ↓u164_63, ↓u164_64, ↓u164_65, ↓u164_68, ↓u164_69, ↓u164_72, ↓u164_75, ↓u164_76, ↓lI_0, ↓lI_s, ↓lL_0, ↓lL_s, ↓lR_0, ↓lR_s, ↓sT_0, ↓sT_i, ↓sT_r, ↓sT_u, ↓sT_lu, ↓sU_0, ↓sU_i, ↓sU_r, ↓sU_u, ↓ite_bx, bx_T, bx_F, bx_pos, bx_neg, zws_i, zws_r, zws_l, zws_n, zCb_kc, xl_ll, xr_rr, xs_e, xset_e, Option.toList, List.cons_append, List.nil_append, zIb_e, zrng_e, nz_e, if_pos, if_neg, and_true, true_and, or_true, true_or, ite_self, bi_eq0, bi_eq1, bi_1, bi_0, bi_ir, bi_T, bi_F, up_eq, up_ne, ↓reduceIte, reduceIte, Nat.reduceAdd, Nat.reduceLeDiff, Nat.le_refl, Nat.zero_le, not_true_eq_false, not_false_eq_true, ne_eq, Int.reduceEq, Int.reduceLT, Int.reduceLE, Int.reduceAdd, Int.reduceSub, Int.reduceMul, Int.reduceNeg, pT g1, g2, g3, g4, g5, g6, g7, g8, g9, g10, g11, pT g12, zSb_e' g12, g13, v1, v2, v3, s111, tm_e, s115 (show 2 ≤ d - 1 by omega) hg hv hb hn, s112 (show 1 ≤ d - 1 by omega) g14 g15 g12 g13, s112 (show 1 ≤ d - 1 by omega) g12 g13 g14 g15, e, s163_3 (show 6 ≤ d - 1 by omega) hg w1 hb1 (show 0 ≤ N ∧ N ≤ 40 ∧ 0 ≤ R ∧ R ≤ 10 ∧ 0 ≤ T + n ∧ T + n ≤ 20000 by omega) q3]
set_option maxRecDepth 8000 in
theorem s165_n {d : Nat} {Q : Option AV → XH → Prop} {G : XS} {s : ZS} {B : ZS} {N R T : Int} {a b : Int} (hd : 5 ≤ d) (hg : MOK G) (hv : RV s 173 B N R T) (hb : OKB B N) (hn : 0 ≤ N ∧ N ≤ 40 ∧ 0 ≤ R ∧ R ≤ 10 ∧ 0 ≤ T ∧ T ≤ 20000) (ia : ir a) (ib : ir b) (q : ¬(hr B N a ∧ hr B N b)) : Call d 165 [zrf 172, zint a, zint b] (G, s) Q = Q (some (zint (-1))) (G, s) := by
  have hg' := hg
  obtain ⟨g1, g2, g3, g4, g5, g6, g7, g8, g9, g10, g11, g12, g13, g14, g15, g16, g17, g18, g19, g20, g21, g22, g23, g24, g25, g26, g27, g28, g29, g30, g31, g32, g33, g34⟩ := hg'
  have hv' := hv
  obtain ⟨v1, v2, v3, v4, v5, v6⟩ := hv'
  rw [e165 (show 1 ≤ d by omega)]
  by_cases q0 : hr B N a
  · skip
    first
    | (exfalso; omega; done)
    | simp (disch := first | omega | exact rfl) only [↓u165_0, ↓u165_1, ↓u165_2, ↓u165_5, ↓u165_8, ↓u165_9, ↓u165_10, ↓u165_13, ↓u165_16, ↓u165_17, ↓u165_18, ↓u165_19, ↓u165_20, ↓u165_21, ↓u165_24, ↓u165_25, ↓u165_26, ↓u165_27, ↓u165_30, ↓u165_33, ↓u165_35, ↓u165_36, ↓u165_37, ↓u165_40, ↓u165_41, ↓u165_44, ↓u165_47, ↓u165_49, ↓u165_50, ↓u165_51, ↓u165_55, ↓u165_57, ↓u165_60, ↓u165_61, ↓u165_64, ↓u165_65, ↓u165_66, ↓u165_67, ↓u165_70, ↓u165_73, ↓u165_75, ↓u165_78, ↓u165_80, ↓u165_81, ↓u165_82, ↓u165_83, ↓u165_86, ↓u165_89, ↓u165_92, ↓u165_93, ↓u165_96, ↓u165_97, ↓u165_100, ↓u165_103, ↓u165_104, ↓lI_0, ↓lI_s, ↓lL_0, ↓lL_s, ↓lR_0, ↓lR_s, ↓sT_0, ↓sT_i, ↓sT_r, ↓sT_u, ↓sT_lu, ↓sU_0, ↓sU_i, ↓sU_r, ↓sU_u, ↓ite_bx, bx_T, bx_F, bx_pos, bx_neg, zws_i, zws_r, zws_l, zws_n, zCb_kc, xl_ll, xr_rr, xs_e, xset_e, Option.toList, List.cons_append, List.nil_append, zIb_e, zrng_e, nz_e, if_pos, if_neg, and_true, true_and, or_true, true_or, ite_self, bi_eq0, bi_eq1, bi_1, bi_0, bi_ir, bi_T, bi_F, up_eq, up_ne, ↓reduceIte, reduceIte, Nat.reduceAdd, Nat.reduceLeDiff, Nat.le_refl, Nat.zero_le, not_true_eq_false, not_false_eq_true, ne_eq, Int.reduceEq, Int.reduceLT, Int.reduceLE, Int.reduceAdd, Int.reduceSub, Int.reduceMul, Int.reduceNeg, pT g1, g2, g3, g4, g5, g6, g7, g8, g9, g10, g11, pT g12, zSb_e' g12, g13, v1, v2, v3, s115 (show 2 ≤ d - 1 by omega) hg hv hb hn]
  · skip
    first
    | (exfalso; omega; done)
    | simp (disch := first | omega | exact rfl) only [↓u165_0, ↓u165_1, ↓u165_2, ↓u165_5, ↓u165_8, ↓u165_9, ↓u165_10, ↓u165_13, ↓u165_16, ↓u165_17, ↓u165_18, ↓u165_19, ↓u165_20, ↓u165_21, ↓u165_24, ↓u165_25, ↓u165_26, ↓u165_27, ↓u165_30, ↓u165_33, ↓u165_35, ↓u165_36, ↓u165_37, ↓u165_40, ↓u165_41, ↓u165_44, ↓u165_47, ↓u165_49, ↓u165_50, ↓u165_51, ↓u165_55, ↓u165_57, ↓u165_60, ↓u165_61, ↓u165_64, ↓u165_65, ↓u165_66, ↓u165_67, ↓u165_70, ↓u165_73, ↓u165_75, ↓u165_78, ↓u165_80, ↓u165_81, ↓u165_82, ↓u165_83, ↓u165_86, ↓u165_89, ↓u165_92, ↓u165_93, ↓u165_96, ↓u165_97, ↓u165_100, ↓u165_103, ↓u165_104, ↓lI_0, ↓lI_s, ↓lL_0, ↓lL_s, ↓lR_0, ↓lR_s, ↓sT_0, ↓sT_i, ↓sT_r, ↓sT_u, ↓sT_lu, ↓sU_0, ↓sU_i, ↓sU_r, ↓sU_u, ↓ite_bx, bx_T, bx_F, bx_pos, bx_neg, zws_i, zws_r, zws_l, zws_n, zCb_kc, xl_ll, xr_rr, xs_e, xset_e, Option.toList, List.cons_append, List.nil_append, zIb_e, zrng_e, nz_e, if_pos, if_neg, and_true, true_and, or_true, true_or, ite_self, bi_eq0, bi_eq1, bi_1, bi_0, bi_ir, bi_T, bi_F, up_eq, up_ne, ↓reduceIte, reduceIte, Nat.reduceAdd, Nat.reduceLeDiff, Nat.le_refl, Nat.zero_le, not_true_eq_false, not_false_eq_true, ne_eq, Int.reduceEq, Int.reduceLT, Int.reduceLE, Int.reduceAdd, Int.reduceSub, Int.reduceMul, Int.reduceNeg, pT g1, g2, g3, g4, g5, g6, g7, g8, g9, g10, g11, pT g12, zSb_e' g12, g13, v1, v2, v3, s115 (show 2 ≤ d - 1 by omega) hg hv hb hn]
set_option maxRecDepth 8000 in
theorem s165_s {d : Nat} {Q : Option AV → XH → Prop} {G : XS} {s : ZS} {B : ZS} {N R T : Int} {a b : Int} (hd : 5 ≤ d) (hg : MOK G) (hv : RV s 173 B N R T) (hb : OKB B N) (hn : 0 ≤ N ∧ N ≤ 40 ∧ 0 ≤ R ∧ R ≤ 10 ∧ 0 ≤ T ∧ T ≤ 20000) (ia : ir a) (ib : ir b) (q : hr B N a) (q2 : hr B N b) (q3 : B a 1 = B b 1) : Call d 165 [zrf 172, zint a, zint b] (G, s) Q = Q (some (zint (-3))) (G, s) := by
  have hg' := hg
  obtain ⟨g1, g2, g3, g4, g5, g6, g7, g8, g9, g10, g11, g12, g13, g14, g15, g16, g17, g18, g19, g20, g21, g22, g23, g24, g25, g26, g27, g28, g29, g30, g31, g32, g33, g34⟩ := hg'
  have hv' := hv
  obtain ⟨v1, v2, v3, v4, v5, v6⟩ := hv'
  have b8 := hb a q.1
  have b9 := hb b q2.1
  rw [e165 (show 1 ≤ d by omega)]
  simp (disch := first | omega | exact rfl) only [↓u165_0, ↓u165_1, ↓u165_2, ↓u165_5, ↓u165_8, ↓u165_9, ↓u165_10, ↓u165_13, ↓u165_16, ↓u165_17, ↓u165_18, ↓u165_19, ↓u165_20, ↓u165_21, ↓u165_24, ↓u165_25, ↓u165_26, ↓u165_27, ↓u165_30, ↓u165_33, ↓u165_35, ↓u165_36, ↓u165_37, ↓u165_40, ↓u165_41, ↓u165_44, ↓u165_47, ↓u165_49, ↓u165_50, ↓u165_51, ↓u165_55, ↓u165_57, ↓u165_60, ↓u165_61, ↓u165_64, ↓u165_65, ↓u165_66, ↓u165_67, ↓u165_70, ↓u165_73, ↓u165_75, ↓u165_78, ↓u165_80, ↓u165_81, ↓u165_82, ↓u165_83, ↓u165_86, ↓u165_89, ↓u165_92, ↓u165_93, ↓u165_96, ↓u165_97, ↓u165_100, ↓u165_103, ↓u165_104, ↓lI_0, ↓lI_s, ↓lL_0, ↓lL_s, ↓lR_0, ↓lR_s, ↓sT_0, ↓sT_i, ↓sT_r, ↓sT_u, ↓sT_lu, ↓sU_0, ↓sU_i, ↓sU_r, ↓sU_u, ↓ite_bx, bx_T, bx_F, bx_pos, bx_neg, zws_i, zws_r, zws_l, zws_n, zCb_kc, xl_ll, xr_rr, xs_e, xset_e, Option.toList, List.cons_append, List.nil_append, zIb_e, zrng_e, nz_e, if_pos, if_neg, and_true, true_and, or_true, true_or, ite_self, bi_eq0, bi_eq1, bi_1, bi_0, bi_ir, bi_T, bi_F, up_eq, up_ne, ↓reduceIte, reduceIte, Nat.reduceAdd, Nat.reduceLeDiff, Nat.le_refl, Nat.zero_le, not_true_eq_false, not_false_eq_true, ne_eq, Int.reduceEq, Int.reduceLT, Int.reduceLE, Int.reduceAdd, Int.reduceSub, Int.reduceMul, Int.reduceNeg, pT g1, g2, g3, g4, g5, g6, g7, g8, g9, g10, g11, pT g12, zSb_e' g12, g13, v1, v2, v3, s115 (show 2 ≤ d - 1 by omega) hg hv hb hn, s113 (show 1 ≤ d - 1 by omega) hg hv hn q, s113 (show 1 ≤ d - 1 by omega) hg hv hn q2]
set_option maxRecDepth 8000 in
theorem l165 {d : Nat} {G : XS} {N R a b : Int} (hd : 5 ≤ d) (hg : MOK G) (hn : 0 ≤ N ∧ N ≤ 40) (hr2 : 0 ≤ R ∧ R ≤ 10) (ia : ir a) (ib : ir b) : ∀ (j : Nat) (i : Int) (s B : ZS) (T : Int), i + j = 41 → 0 ≤ i → RV s 173 B N R T → OKB B N → hr B N a → hr B N b → (0 ≤ T ∧ T + j ≤ 12000) → ∃ (w : Int), ∃ s2 : ZS, fgb s s2 ∧ ∀ Q, Wp (d - 1) 165 (53, [zrf 172, zint a, zint b, zint (-5), zint i], [], (G, s)) Q = Wp (d - 1) 165 (92, [zrf 172, zint a, zint b, zint (fm a b j B i), zint w], [], (G, s2)) Q := by
  have hg' := hg
  obtain ⟨g1, g2, g3, g4, g5, g6, g7, g8, g9, g10, g11, g12, g13, g14, g15, g16, g17, g18, g19, g20, g21, g22, g23, g24, g25, g26, g27, g28, g29, g30, g31, g32, g33, g34⟩ := hg'
  intro j
  induction j with
  | zero =>
    intro i s B T h1 h2 hv hb qa qb ht
    refine ⟨i, s, fgb_r s, fun Q => ?_⟩
    rw [u165_53, show fm a b 0 B i = -5 from rfl]
    simp (disch := first | omega | exact rfl) only [↓u165_0, ↓u165_1, ↓u165_2, ↓u165_5, ↓u165_8, ↓u165_9, ↓u165_10, ↓u165_13, ↓u165_16, ↓u165_17, ↓u165_18, ↓u165_19, ↓u165_20, ↓u165_21, ↓u165_24, ↓u165_25, ↓u165_26, ↓u165_27, ↓u165_30, ↓u165_33, ↓u165_35, ↓u165_36, ↓u165_37, ↓u165_40, ↓u165_41, ↓u165_44, ↓u165_47, ↓u165_49, ↓u165_50, ↓u165_51, ↓u165_55, ↓u165_57, ↓u165_60, ↓u165_61, ↓u165_64, ↓u165_65, ↓u165_66, ↓u165_67, ↓u165_70, ↓u165_73, ↓u165_75, ↓u165_78, ↓u165_80, ↓u165_81, ↓u165_82, ↓u165_83, ↓u165_86, ↓u165_89, ↓u165_93, ↓u165_96, ↓u165_97, ↓u165_100, ↓u165_103, ↓u165_104, ↓lI_0, ↓lI_s, ↓lL_0, ↓lL_s, ↓lR_0, ↓lR_s, ↓sT_0, ↓sT_i, ↓sT_r, ↓sT_u, ↓sT_lu, ↓sU_0, ↓sU_i, ↓sU_r, ↓sU_u, ↓ite_bx, bx_T, bx_F, bx_pos, bx_neg, zws_i, zws_r, zws_l, zws_n, zCb_kc, xl_ll, xr_rr, xs_e, xset_e, Option.toList, List.cons_append, List.nil_append, zIb_e, zrng_e, nz_e, if_pos, if_neg, and_true, true_and, or_true, true_or, ite_self, bi_eq0, bi_eq1, bi_1, bi_0, bi_ir, bi_T, bi_F, up_eq, up_ne, ↓reduceIte, reduceIte, Nat.reduceAdd, Nat.reduceLeDiff, Nat.le_refl, Nat.zero_le, not_true_eq_false, not_false_eq_true, ne_eq, Int.reduceEq, Int.reduceLT, Int.reduceLE, Int.reduceAdd, Int.reduceSub, Int.reduceMul, Int.reduceNeg, pT g1, g2, g3, g4, g5, g6, g7, g8, g9, g10, g11, pT g12, zSb_e' g12, g13]
  | succ j ih =>
    intro i s B T h1 h2 hv hb qa qb ht
    have hn5 : 0 ≤ N ∧ N ≤ 40 ∧ 0 ≤ R ∧ R ≤ 10 ∧ 0 ≤ T ∧ T ≤ 20000 := by omega
    obtain ⟨s1, f1, w1, e1⟩ := s161 (n := 1) (d := d - 1) (by omega) hg hv hb hn5 (by omega) (by omega)
    have w1 : RV s1 173 (stp B) N R (T + 1) := w1
    by_cases q : mt B a b
    · refine ⟨i + 1, s1, f1, fun Q => ?_⟩
      rw [fm_y q, u165_53]
      simp (disch := first | omega | exact rfl) only [↓u165_0, ↓u165_1, ↓u165_2, ↓u165_5, ↓u165_8, ↓u165_9, ↓u165_10, ↓u165_13, ↓u165_16, ↓u165_17, ↓u165_18, ↓u165_19, ↓u165_20, ↓u165_21, ↓u165_24, ↓u165_25, ↓u165_26, ↓u165_27, ↓u165_30, ↓u165_33, ↓u165_35, ↓u165_36, ↓u165_37, ↓u165_40, ↓u165_41, ↓u165_44, ↓u165_47, ↓u165_49, ↓u165_50, ↓u165_51, ↓u165_55, ↓u165_57, ↓u165_60, ↓u165_61, ↓u165_64, ↓u165_65, ↓u165_66, ↓u165_67, ↓u165_70, ↓u165_73, ↓u165_75, ↓u165_78, ↓u165_80, ↓u165_81, ↓u165_82, ↓u165_83, ↓u165_86, ↓u165_89, ↓u165_93, ↓u165_96, ↓u165_97, ↓u165_100, ↓u165_103, ↓u165_104, ↓lI_0, ↓lI_s, ↓lL_0, ↓lL_s, ↓lR_0, ↓lR_s, ↓sT_0, ↓sT_i, ↓sT_r, ↓sT_u, ↓sT_lu, ↓sU_0, ↓sU_i, ↓sU_r, ↓sU_u, ↓ite_bx, bx_T, bx_F, bx_pos, bx_neg, zws_i, zws_r, zws_l, zws_n, zCb_kc, xl_ll, xr_rr, xs_e, xset_e, Option.toList, List.cons_append, List.nil_append, zIb_e, zrng_e, nz_e, if_pos, if_neg, and_true, true_and, or_true, true_or, ite_self, bi_eq0, bi_eq1, bi_1, bi_0, bi_ir, bi_T, bi_F, up_eq, up_ne, ↓reduceIte, reduceIte, Nat.reduceAdd, Nat.reduceLeDiff, Nat.le_refl, Nat.zero_le, not_true_eq_false, not_false_eq_true, ne_eq, Int.reduceEq, Int.reduceLT, Int.reduceLE, Int.reduceAdd, Int.reduceSub, Int.reduceMul, Int.reduceNeg, pT g1, g2, g3, g4, g5, g6, g7, g8, g9, g10, g11, pT g12, zSb_e' g12, g13, s146 (show 3 ≤ d - 1 by omega) hg hv hb hn5, e1]
      rw [u165_53]
      by_cases q9 : 40 < i + 1
      · simp (disch := first | omega | exact rfl) only [↓u165_0, ↓u165_1, ↓u165_2, ↓u165_5, ↓u165_8, ↓u165_9, ↓u165_10, ↓u165_13, ↓u165_16, ↓u165_17, ↓u165_18, ↓u165_19, ↓u165_20, ↓u165_21, ↓u165_24, ↓u165_25, ↓u165_26, ↓u165_27, ↓u165_30, ↓u165_33, ↓u165_35, ↓u165_36, ↓u165_37, ↓u165_40, ↓u165_41, ↓u165_44, ↓u165_47, ↓u165_49, ↓u165_50, ↓u165_51, ↓u165_55, ↓u165_57, ↓u165_60, ↓u165_61, ↓u165_64, ↓u165_65, ↓u165_66, ↓u165_67, ↓u165_70, ↓u165_73, ↓u165_75, ↓u165_78, ↓u165_80, ↓u165_81, ↓u165_82, ↓u165_83, ↓u165_86, ↓u165_89, ↓u165_93, ↓u165_96, ↓u165_97, ↓u165_100, ↓u165_103, ↓u165_104, ↓lI_0, ↓lI_s, ↓lL_0, ↓lL_s, ↓lR_0, ↓lR_s, ↓sT_0, ↓sT_i, ↓sT_r, ↓sT_u, ↓sT_lu, ↓sU_0, ↓sU_i, ↓sU_r, ↓sU_u, ↓ite_bx, bx_T, bx_F, bx_pos, bx_neg, zws_i, zws_r, zws_l, zws_n, zCb_kc, xl_ll, xr_rr, xs_e, xset_e, Option.toList, List.cons_append, List.nil_append, zIb_e, zrng_e, nz_e, if_pos, if_neg, and_true, true_and, or_true, true_or, ite_self, bi_eq0, bi_eq1, bi_1, bi_0, bi_ir, bi_T, bi_F, up_eq, up_ne, ↓reduceIte, reduceIte, Nat.reduceAdd, Nat.reduceLeDiff, Nat.le_refl, Nat.zero_le, not_true_eq_false, not_false_eq_true, ne_eq, Int.reduceEq, Int.reduceLT, Int.reduceLE, Int.reduceAdd, Int.reduceSub, Int.reduceMul, Int.reduceNeg, pT g1, g2, g3, g4, g5, g6, g7, g8, g9, g10, g11, pT g12, zSb_e' g12, g13]
      · simp (disch := first | omega | exact rfl) only [↓u165_0, ↓u165_1, ↓u165_2, ↓u165_5, ↓u165_8, ↓u165_9, ↓u165_10, ↓u165_13, ↓u165_16, ↓u165_17, ↓u165_18, ↓u165_19, ↓u165_20, ↓u165_21, ↓u165_24, ↓u165_25, ↓u165_26, ↓u165_27, ↓u165_30, ↓u165_33, ↓u165_35, ↓u165_36, ↓u165_37, ↓u165_40, ↓u165_41, ↓u165_44, ↓u165_47, ↓u165_49, ↓u165_50, ↓u165_51, ↓u165_55, ↓u165_57, ↓u165_60, ↓u165_61, ↓u165_64, ↓u165_65, ↓u165_66, ↓u165_67, ↓u165_70, ↓u165_73, ↓u165_75, ↓u165_78, ↓u165_80, ↓u165_81, ↓u165_82, ↓u165_83, ↓u165_86, ↓u165_89, ↓u165_93, ↓u165_96, ↓u165_97, ↓u165_100, ↓u165_103, ↓u165_104, ↓lI_0, ↓lI_s, ↓lL_0, ↓lL_s, ↓lR_0, ↓lR_s, ↓sT_0, ↓sT_i, ↓sT_r, ↓sT_u, ↓sT_lu, ↓sU_0, ↓sU_i, ↓sU_r, ↓sU_u, ↓ite_bx, bx_T, bx_F, bx_pos, bx_neg, zws_i, zws_r, zws_l, zws_n, zCb_kc, xl_ll, xr_rr, xs_e, xset_e, Option.toList, List.cons_append, List.nil_append, zIb_e, zrng_e, nz_e, if_pos, if_neg, and_true, true_and, or_true, true_or, ite_self, bi_eq0, bi_eq1, bi_1, bi_0, bi_ir, bi_T, bi_F, up_eq, up_ne, ↓reduceIte, reduceIte, Nat.reduceAdd, Nat.reduceLeDiff, Nat.le_refl, Nat.zero_le, not_true_eq_false, not_false_eq_true, ne_eq, Int.reduceEq, Int.reduceLT, Int.reduceLE, Int.reduceAdd, Int.reduceSub, Int.reduceMul, Int.reduceNeg, pT g1, g2, g3, g4, g5, g6, g7, g8, g9, g10, g11, pT g12, zSb_e' g12, g13]
    · have qa2 : hr (stp B) N a := ⟨qa.1, by rw [stp_o (by omega)]; exact qa.2⟩
      have qb2 : hr (stp B) N b := ⟨qb.1, by rw [stp_o (by omega)]; exact qb.2⟩
      obtain ⟨w, s2, f2, e⟩ := ih (i + 1) s1 (stp B) (T + 1) (by omega) (by omega) w1 (OKB_s hb) qa2 qb2 (by omega)
      refine ⟨w, s2, fgb_t f1 f2, fun Q => ?_⟩
      rw [fm_n q, u165_53]
      simp (disch := first | omega | exact rfl) only [↓u165_0, ↓u165_1, ↓u165_2, ↓u165_5, ↓u165_8, ↓u165_9, ↓u165_10, ↓u165_13, ↓u165_16, ↓u165_17, ↓u165_18, ↓u165_19, ↓u165_20, ↓u165_21, ↓u165_24, ↓u165_25, ↓u165_26, ↓u165_27, ↓u165_30, ↓u165_33, ↓u165_35, ↓u165_36, ↓u165_37, ↓u165_40, ↓u165_41, ↓u165_44, ↓u165_47, ↓u165_49, ↓u165_50, ↓u165_51, ↓u165_55, ↓u165_57, ↓u165_60, ↓u165_61, ↓u165_64, ↓u165_65, ↓u165_66, ↓u165_67, ↓u165_70, ↓u165_73, ↓u165_75, ↓u165_78, ↓u165_80, ↓u165_81, ↓u165_82, ↓u165_83, ↓u165_86, ↓u165_89, ↓u165_93, ↓u165_96, ↓u165_97, ↓u165_100, ↓u165_103, ↓u165_104, ↓lI_0, ↓lI_s, ↓lL_0, ↓lL_s, ↓lR_0, ↓lR_s, ↓sT_0, ↓sT_i, ↓sT_r, ↓sT_u, ↓sT_lu, ↓sU_0, ↓sU_i, ↓sU_r, ↓sU_u, ↓ite_bx, bx_T, bx_F, bx_pos, bx_neg, zws_i, zws_r, zws_l, zws_n, zCb_kc, xl_ll, xr_rr, xs_e, xset_e, Option.toList, List.cons_append, List.nil_append, zIb_e, zrng_e, nz_e, if_pos, if_neg, and_true, true_and, or_true, true_or, ite_self, bi_eq0, bi_eq1, bi_1, bi_0, bi_ir, bi_T, bi_F, up_eq, up_ne, ↓reduceIte, reduceIte, Nat.reduceAdd, Nat.reduceLeDiff, Nat.le_refl, Nat.zero_le, not_true_eq_false, not_false_eq_true, ne_eq, Int.reduceEq, Int.reduceLT, Int.reduceLE, Int.reduceAdd, Int.reduceSub, Int.reduceMul, Int.reduceNeg, pT g1, g2, g3, g4, g5, g6, g7, g8, g9, g10, g11, pT g12, zSb_e' g12, g13, s146 (show 3 ≤ d - 1 by omega) hg hv hb hn5, e1, e]
set_option maxRecDepth 8000 in
theorem s165_y {d : Nat} {G : XS} {s : ZS} {B : ZS} {N R T : Int} {a b : Int} (hd : 5 ≤ d) (hg : MOK G) (hv : RV s 173 B N R T) (hb : OKB B N) (hn : 0 ≤ N ∧ N ≤ 40 ∧ 0 ≤ R ∧ R ≤ 10 ∧ 0 ≤ T ∧ T ≤ 20000) (q : hr B N a) (q2 : hr B N b) (q3 : B a 1 ≠ B b 1) (hT : T ≤ 9999) : ∃ s2, frw s s2 ∧ ∀ Q, Call d 165 [zrf 172, zint a, zint b] (G, s) Q = Q (some (zint (fm a b 41 B 0))) (G, s2) := by
  have hg' := hg
  obtain ⟨g1, g2, g3, g4, g5, g6, g7, g8, g9, g10, g11, g12, g13, g14, g15, g16, g17, g18, g19, g20, g21, g22, g23, g24, g25, g26, g27, g28, g29, g30, g31, g32, g33, g34⟩ := hg'
  have hv' := hv
  obtain ⟨v1, v2, v3, v4, v5, v6⟩ := hv'
  have b8 := hb a q.1
  have b9 := hb b q2.1
  obtain ⟨w, s1, f1, e⟩ := l165 (d := d) hd hg ⟨hn.1, hn.2.1⟩ (by omega) (show ir a by omega) (show ir b by omega) 41 0 (cpr s 174 173 417) B T (by omega) (Int.le_refl 0) (RV_k hv (by omega)) hb q q2 (by omega)
  refine ⟨cpr s1 173 174 417, frw_c (Or.inl rfl) f1, fun Q => ?_⟩
  rw [e165 (show 1 ≤ d by omega)]
  simp (disch := first | omega | exact rfl) only [↓u165_0, ↓u165_1, ↓u165_2, ↓u165_5, ↓u165_8, ↓u165_9, ↓u165_10, ↓u165_13, ↓u165_16, ↓u165_17, ↓u165_18, ↓u165_19, ↓u165_20, ↓u165_21, ↓u165_24, ↓u165_25, ↓u165_26, ↓u165_27, ↓u165_30, ↓u165_33, ↓u165_35, ↓u165_36, ↓u165_37, ↓u165_40, ↓u165_41, ↓u165_44, ↓u165_47, ↓u165_49, ↓u165_50, ↓u165_51, ↓u165_55, ↓u165_57, ↓u165_60, ↓u165_61, ↓u165_64, ↓u165_65, ↓u165_66, ↓u165_67, ↓u165_70, ↓u165_73, ↓u165_75, ↓u165_78, ↓u165_80, ↓u165_81, ↓u165_82, ↓u165_83, ↓u165_86, ↓u165_89, ↓u165_93, ↓u165_96, ↓u165_97, ↓u165_100, ↓u165_103, ↓u165_104, ↓lI_0, ↓lI_s, ↓lL_0, ↓lL_s, ↓lR_0, ↓lR_s, ↓sT_0, ↓sT_i, ↓sT_r, ↓sT_u, ↓sT_lu, ↓sU_0, ↓sU_i, ↓sU_r, ↓sU_u, ↓ite_bx, bx_T, bx_F, bx_pos, bx_neg, zws_i, zws_r, zws_l, zws_n, zCb_kc, xl_ll, xr_rr, xs_e, xset_e, Option.toList, List.cons_append, List.nil_append, zIb_e, zrng_e, nz_e, if_pos, if_neg, and_true, true_and, or_true, true_or, ite_self, bi_eq0, bi_eq1, bi_1, bi_0, bi_ir, bi_T, bi_F, up_eq, up_ne, ↓reduceIte, reduceIte, Nat.reduceAdd, Nat.reduceLeDiff, Nat.le_refl, Nat.zero_le, not_true_eq_false, not_false_eq_true, ne_eq, Int.reduceEq, Int.reduceLT, Int.reduceLE, Int.reduceAdd, Int.reduceSub, Int.reduceMul, Int.reduceNeg, pT g1, g2, g3, g4, g5, g6, g7, g8, g9, g10, g11, pT g12, zSb_e' g12, g13, v1, v2, v3, s115 (show 2 ≤ d - 1 by omega) hg hv hb hn, s113 (show 1 ≤ d - 1 by omega) hg hv hn q, s113 (show 1 ≤ d - 1 by omega) hg hv hn q2, s112 (show 1 ≤ d - 1 by omega) g14 g15 g12 g13, e]
  rw [u165_92]
  simp (disch := first | omega | exact rfl) only [↓u165_0, ↓u165_1, ↓u165_2, ↓u165_5, ↓u165_8, ↓u165_9, ↓u165_10, ↓u165_13, ↓u165_16, ↓u165_17, ↓u165_18, ↓u165_19, ↓u165_20, ↓u165_21, ↓u165_24, ↓u165_25, ↓u165_26, ↓u165_27, ↓u165_30, ↓u165_33, ↓u165_35, ↓u165_36, ↓u165_37, ↓u165_40, ↓u165_41, ↓u165_44, ↓u165_47, ↓u165_49, ↓u165_50, ↓u165_51, ↓u165_55, ↓u165_57, ↓u165_60, ↓u165_61, ↓u165_64, ↓u165_65, ↓u165_66, ↓u165_67, ↓u165_70, ↓u165_73, ↓u165_75, ↓u165_78, ↓u165_80, ↓u165_81, ↓u165_82, ↓u165_83, ↓u165_86, ↓u165_89, ↓u165_93, ↓u165_96, ↓u165_97, ↓u165_100, ↓u165_103, ↓u165_104, ↓lI_0, ↓lI_s, ↓lL_0, ↓lL_s, ↓lR_0, ↓lR_s, ↓sT_0, ↓sT_i, ↓sT_r, ↓sT_u, ↓sT_lu, ↓sU_0, ↓sU_i, ↓sU_r, ↓sU_u, ↓ite_bx, bx_T, bx_F, bx_pos, bx_neg, zws_i, zws_r, zws_l, zws_n, zCb_kc, xl_ll, xr_rr, xs_e, xset_e, Option.toList, List.cons_append, List.nil_append, zIb_e, zrng_e, nz_e, if_pos, if_neg, and_true, true_and, or_true, true_or, ite_self, bi_eq0, bi_eq1, bi_1, bi_0, bi_ir, bi_T, bi_F, up_eq, up_ne, ↓reduceIte, reduceIte, Nat.reduceAdd, Nat.reduceLeDiff, Nat.le_refl, Nat.zero_le, not_true_eq_false, not_false_eq_true, ne_eq, Int.reduceEq, Int.reduceLT, Int.reduceLE, Int.reduceAdd, Int.reduceSub, Int.reduceMul, Int.reduceNeg, pT g1, g2, g3, g4, g5, g6, g7, g8, g9, g10, g11, pT g12, zSb_e' g12, g13, v1, v2, v3, s112 (show 1 ≤ d - 1 by omega) g12 g13 g14 g15]
