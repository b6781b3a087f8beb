/-! the reference: squares, cells, what is told -/
set_option maxRecDepth 8000 in
theorem s139 {G : XS} {B : ZS} {N R T : Int} (hg : MOK G) (hb : OKB B N) (hn : 0 ≤ N ∧ N ≤ 40 ∧ 0 ≤ R ∧ R ≤ 10 ∧ 0 ≤ T ∧ T ≤ 20000) : ∀ (j : Nat) (d : Nat) (k c r : Int) (s : ZS), 5 + j ≤ d → 0 ≤ k → k + j = 5 → (0 ≤ c ∧ c < p2 k) → (0 ≤ r ∧ r < p2 k) → RV s 173 B N R T → (0 ≤ s 172 16 ∧ s 172 16 ≤ 5) → ∃ s2, frr s s2 ∧ s2 172 16 = max (s 172 16) (dq B N R j k c r) ∧ ∀ Q, Call d 139 [zrf 172, zint (c * p2 (7 - k)), zint (r * p2 (7 - k)), zint (p2 (7 - k)), zint k] (G, s) Q = Q (some (zint (cq B N R j k c r))) (G, s2) := by
  have hg' := hg
  obtain ⟨g1, g2, g3, g4, g5, g6, g7, g8, g9, g10, g11, g12, g13, g14, g15, g16, g17, g18, g19, g20, g21, g22, g23, g24, g25, g26, g27, g28, g29, g30, g31, g32, g33, g34⟩ := hg'
  intro j
  induction j with
  | zero =>
    intro d k c r s hd h0 h5 hc hr hv h16
    have k5 : k = 5 := by omega
    subst k5
    have hb2 := cr_b (c := c) (k := 5) (by omega) hc
    have hb3 := cr_b (c := r) (k := 5) (by omega) hr
    have e4 : p2 (7 - 5) = 4 := rfl
    have ed : dq B N R 0 5 c r = 5 := rfl
    have ec : cq B N R 0 5 c r = 1 := rfl
    rw [e4] at hb2 hb3 ⊢
    refine ⟨up s 172 16 5, frr_u (by omega), by rw [up_eq, ed]; omega, fun Q => ?_⟩
    have hv2 := RV_f hv (frr_u (s := s) (c := 16) (v := 5) (by omega))
    have hv3 := RV_f hv (frr_u (s := s) (c := 16) (v := s 172 16) (by omega))
    rw [ec, e139 (show 1 ≤ d by omega)]
    by_cases q : s 172 16 < 5
    · simp (disch := first | omega | exact rfl) only [↓u139_0, ↓u139_1, ↓u139_3, ↓u139_4, ↓u139_7, ↓u139_10, ↓u139_12, ↓u139_15, ↓u139_16, ↓u139_19, ↓u139_22, ↓u139_23, ↓u139_24, ↓u139_25, ↓u139_26, ↓u139_29, ↓u139_32, ↓u139_33, ↓u139_34, ↓u139_35, ↓u139_36, ↓u139_37, ↓u139_39, ↓u139_40, ↓u139_42, ↓u139_43, ↓u139_47, ↓u139_48, ↓u139_51, ↓u139_53, ↓u139_54, ↓u139_55, ↓u139_57, ↓u139_58, ↓u139_59, ↓u139_61, ↓u139_62, ↓u139_63, ↓u139_64, ↓u139_66, ↓u139_67, ↓u139_68, ↓u139_70, ↓u139_71, ↓u139_72, ↓u139_74, ↓u139_76, ↓u139_77, ↓u139_78, ↓u139_81, ↓u139_82, ↓u139_84, ↓u139_87, ↓u139_90, ↓u139_92, ↓lI_0, ↓lI_s, ↓lL_0, ↓lL_s, ↓lR_0, ↓lR_s, ↓sT_0, ↓sT_i, ↓sT_r, ↓sT_u, ↓sT_lu, ↓sU_0, ↓sU_i, ↓sU_r, ↓sU_u, ↓ite_bx, bx_T, bx_F, bx_pos, bx_neg, zws_i, zws_r, zws_l, zws_n, zCb_kc, xl_ll, xr_rr, xs_e, xset_e, Option.toList, List.cons_append, List.nil_append, zIb_e, zrng_e, nz_e, if_pos, if_neg, and_true, true_and, or_true, true_or, ite_self, bi_eq0, bi_eq1, bi_1, bi_0, bi_ir, bi_T, bi_F, up_eq, up_ne, ↓reduceIte, reduceIte, Nat.reduceAdd, Nat.reduceLeDiff, Nat.le_refl, Nat.zero_le, not_true_eq_false, not_false_eq_true, ne_eq, Int.reduceEq, Int.reduceLT, Int.reduceLE, Int.reduceAdd, Int.reduceSub, Int.reduceMul, Int.reduceNeg, pT g1, g2, g3, g4, g5, g6, g7, g8, g9, g10, g11, pT g12, zSb_e' g12, g13, false_and, s135 (show 4 ≤ d - 1 by omega) hg hv2 hb hn]
    · have e5 : s 172 16 = 5 := by omega
      rw [e5] at hv3
      simp (disch := first | omega | exact rfl) only [↓u139_0, ↓u139_1, ↓u139_3, ↓u139_4, ↓u139_7, ↓u139_10, ↓u139_12, ↓u139_15, ↓u139_16, ↓u139_19, ↓u139_22, ↓u139_23, ↓u139_24, ↓u139_25, ↓u139_26, ↓u139_29, ↓u139_32, ↓u139_33, ↓u139_34, ↓u139_35, ↓u139_36, ↓u139_37, ↓u139_39, ↓u139_40, ↓u139_42, ↓u139_43, ↓u139_47, ↓u139_48, ↓u139_51, ↓u139_53, ↓u139_54, ↓u139_55, ↓u139_57, ↓u139_58, ↓u139_59, ↓u139_61, ↓u139_62, ↓u139_63, ↓u139_64, ↓u139_66, ↓u139_67, ↓u139_68, ↓u139_70, ↓u139_71, ↓u139_72, ↓u139_74, ↓u139_76, ↓u139_77, ↓u139_78, ↓u139_81, ↓u139_82, ↓u139_84, ↓u139_87, ↓u139_90, ↓u139_92, ↓lI_0, ↓lI_s, ↓lL_0, ↓lL_s, ↓lR_0, ↓lR_s, ↓sT_0, ↓sT_i, ↓sT_r, ↓sT_u, ↓sT_lu, ↓sU_0, ↓sU_i, ↓sU_r, ↓sU_u, ↓ite_bx, bx_T, bx_F, bx_pos, bx_neg, zws_i, zws_r, zws_l, zws_n, zCb_kc, xl_ll, xr_rr, xs_e, xset_e, Option.toList, List.cons_append, List.nil_append, zIb_e, zrng_e, nz_e, if_pos, if_neg, and_true, true_and, or_true, true_or, ite_self, bi_eq0, bi_eq1, bi_1, bi_0, bi_ir, bi_T, bi_F, up_eq, up_ne, ↓reduceIte, reduceIte, Nat.reduceAdd, Nat.reduceLeDiff, Nat.le_refl, Nat.zero_le, not_true_eq_false, not_false_eq_true, ne_eq, Int.reduceEq, Int.reduceLT, Int.reduceLE, Int.reduceAdd, Int.reduceSub, Int.reduceMul, Int.reduceNeg, pT g1, g2, g3, g4, g5, g6, g7, g8, g9, g10, g11, pT g12, zSb_e' g12, g13, false_and, e5, s135 (show 4 ≤ d - 1 by omega) hg hv3 hb hn]
  | succ j ih =>
    intro d k c r s hd h0 h5 hc hr hv h16
    have hk5 : 0 ≤ k ∧ k ≤ 5 := by omega
    have hk4 : 0 ≤ k ∧ k < 5 := by omega
    have hb2 := cr_b (c := c) hk5 hc
    have hb3 := cr_b (c := r) hk5 hr
    have c2 := cr_2 hk4 hc
    have r2 := cr_2 hk4 hr
    have hh := p2_h hk4
    have hz := p2_7k hk5
    have hW := wn_wr (c := c) (r := r) hb hn.1 hk5 hc hr
    obtain ⟨g0, hg0⟩ : ∃ g0, g0 = max (s 172 16) k := ⟨_, rfl⟩
    have fu := frr_u (s := s) (c := 16) (v := g0) (by omega)
    have hvu := RV_f hv fu
    by_cases q : R < wn B N k (r * p2 k + c)
    · have qw : R < wnr B N (c * p2 (7 - k)) (r * p2 (7 - k)) (p2 (7 - k)) := by rw [hW]; exact q
      have hz1 : 0 ≤ k + 1 := by omega
      have h6 : k + 1 + (j : Int) = 5 := by omega
      have dd : 5 + j ≤ d - 1 := by omega
      obtain ⟨s3, f3, m3, e3⟩ := ih (d - 1) (k + 1) _ _ (up s 172 16 g0) dd hz1 h6 c2.1 r2.1 hvu (by rw [up_eq]; omega)
      have b3 := dq_b (B := B) (N := N) (R := R) j (k + 1) (2 * c) (2 * r)
      rw [up_eq] at m3
      obtain ⟨s4, f4, m4, e4⟩ := ih (d - 1) (k + 1) _ _ s3 dd hz1 h6 c2.2 r2.1 (RV_f hvu f3) (by omega)
      have b4 := dq_b (B := B) (N := N) (R := R) j (k + 1) (2 * c + 1) (2 * r)
      have F4 := frr_t f3 f4
      obtain ⟨s5, f5, m5, e5⟩ := ih (d - 1) (k + 1) _ _ s4 dd hz1 h6 c2.1 r2.2 (RV_f hvu F4) (by omega)
      have b5 := dq_b (B := B) (N := N) (R := R) j (k + 1) (2 * c) (2 * r + 1)
      have F5 := frr_t F4 f5
      obtain ⟨s6, f6, m6, e6⟩ := ih (d - 1) (k + 1) _ _ s5 dd hz1 h6 c2.2 r2.2 (RV_f hvu F5) (by omega)
      have b6 := dq_b (B := B) (N := N) (R := R) j (k + 1) (2 * c + 1) (2 * r + 1)
      have F6 := frr_t F5 f6
      refine ⟨s6, frr_t fu F6, ?_, fun Q => ?_⟩
      · rw [dq_y q, m6, m5, m4, m3, hg0]
        omega
      · obtain ⟨S, hS⟩ : ∃ S, S = p2 (7 - k) := ⟨_, rfl⟩
        obtain ⟨H, hH⟩ : ∃ H, H = p2 (7 - (k + 1)) := ⟨_, rfl⟩
        rw [← hS] at hb2 hb3 hh hz hW qw ⊢
        rw [← hH] at e3 e4 e5 e6 hh
        obtain ⟨X, hX⟩ : ∃ X, X = c * S := ⟨_, rfl⟩
        obtain ⟨Y, hY⟩ : ∃ Y, Y = r * S := ⟨_, rfl⟩
        have x0 : 2 * c * H = X + 0 * H := by rw [hX, hh.1, nx_c, Int.add_zero]
        have x1 : (2 * c + 1) * H = X + 1 * H := by rw [hX, hh.1, nx_c]
        have y0 : 2 * r * H = Y + 0 * H := by rw [hY, hh.1, nx_c, Int.add_zero]
        have y1 : (2 * r + 1) * H = Y + 1 * H := by rw [hY, hh.1, nx_c]
        rw [x0, y0] at e3
        rw [x1, y0] at e4
        rw [x0, y1] at e5
        rw [x1, y1] at e6
        rw [← hX] at hb2 hW qw ⊢
        rw [← hY] at hb3 hW qw ⊢
        have hS2 : S.tdiv 2 = H := by rw [td_e (by omega)]; exact hh.2.1
        have t0 : (0 : Int).tmod 2 = 0 := rfl
        have t1 : (1 : Int).tmod 2 = 1 := rfl
        have t2 : (2 : Int).tmod 2 = 0 := rfl
        have t3 : (3 : Int).tmod 2 = 1 := rfl
        have u0 : (0 : Int).tdiv 2 = 0 := rfl
        have u1 : (1 : Int).tdiv 2 = 0 := rfl
        have u2 : (2 : Int).tdiv 2 = 1 := rfl
        have u3 : (3 : Int).tdiv 2 = 1 := rfl
        rw [cq_y q, e139 (show 1 ≤ d by omega)]
        generalize cq B N R j (k + 1) (2 * c) (2 * r) = z3 at *
        generalize cq B N R j (k + 1) (2 * c + 1) (2 * r) = z4 at *
        generalize cq B N R j (k + 1) (2 * c) (2 * r + 1) = z5 at *
        generalize cq B N R j (k + 1) (2 * c + 1) (2 * r + 1) = z6 at *
        by_cases q2 : k ≤ s 172 16
        · have eg : s 172 16 = g0 := by omega
          simp (disch := first | omega | exact rfl) only [↓u139_0, ↓u139_1, ↓u139_3, ↓u139_4, ↓u139_7, ↓u139_10, ↓u139_12, ↓u139_15, ↓u139_16, ↓u139_19, ↓u139_22, ↓u139_23, ↓u139_24, ↓u139_25, ↓u139_26, ↓u139_29, ↓u139_32, ↓u139_33, ↓u139_34, ↓u139_35, ↓u139_36, ↓u139_37, ↓u139_39, ↓u139_40, ↓u139_42, ↓u139_43, ↓u139_45, ↓u139_47, ↓u139_48, ↓u139_51, ↓u139_53, ↓u139_54, ↓u139_55, ↓u139_57, ↓u139_58, ↓u139_59, ↓u139_61, ↓u139_62, ↓u139_63, ↓u139_64, ↓u139_66, ↓u139_67, ↓u139_68, ↓u139_70, ↓u139_71, ↓u139_72, ↓u139_74, ↓u139_76, ↓u139_77, ↓u139_78, ↓u139_81, ↓u139_82, ↓u139_84, ↓u139_87, ↓u139_90, ↓u139_92, ↓lI_0, ↓lI_s, ↓lL_0, ↓lL_s, ↓lR_0, ↓lR_s, ↓sT_0, ↓sT_i, ↓sT_r, ↓sT_u, ↓sT_lu, ↓sU_0, ↓sU_i, ↓sU_r, ↓sU_u, ↓ite_bx, bx_T, bx_F, bx_pos, bx_neg, zws_i, zws_r, zws_l, zws_n, zCb_kc, xl_ll, xr_rr, xs_e, xset_e, Option.toList, List.cons_append, List.nil_append, zIb_e, zrng_e, nz_e, if_pos, if_neg, and_true, true_and, or_true, true_or, ite_self, bi_eq0, bi_eq1, bi_1, bi_0, bi_ir, bi_T, bi_F, up_eq, up_ne, ↓reduceIte, reduceIte, Nat.reduceAdd, Nat.reduceLeDiff, Nat.le_refl, Nat.zero_le, not_true_eq_false, not_false_eq_true, ne_eq, Int.reduceEq, Int.reduceLT, Int.reduceLE, Int.reduceAdd, Int.reduceSub, Int.reduceMul, Int.reduceNeg, pT g1, g2, g3, g4, g5, g6, g7, g8, g9, g10, g11, pT g12, zSb_e' g12, g13, hS2, eg, s135 (show 4 ≤ d - 1 by omega) hg hvu hb hn, e3, e4, e5, e6, t0, t1, t2, t3, u0, u1, u2, u3]
        · have eg : g0 = k := by omega
          have hvk : RV (up s 172 16 k) 173 B N R T := by rw [← eg]; exact RV_f hv (frr_u (by omega))
          rw [eg] at e3
          simp (disch := first | omega | exact rfl) only [↓u139_0, ↓u139_1, ↓u139_3, ↓u139_4, ↓u139_7, ↓u139_10, ↓u139_12, ↓u139_15, ↓u139_16, ↓u139_19, ↓u139_22, ↓u139_23, ↓u139_24, ↓u139_25, ↓u139_26, ↓u139_29, ↓u139_32, ↓u139_33, ↓u139_34, ↓u139_35, ↓u139_36, ↓u139_37, ↓u139_39, ↓u139_40, ↓u139_42, ↓u139_43, ↓u139_45, ↓u139_47, ↓u139_48, ↓u139_51, ↓u139_53, ↓u139_54, ↓u139_55, ↓u139_57, ↓u139_58, ↓u139_59, ↓u139_61, ↓u139_62, ↓u139_63, ↓u139_64, ↓u139_66, ↓u139_67, ↓u139_68, ↓u139_70, ↓u139_71, ↓u139_72, ↓u139_74, ↓u139_76, ↓u139_77, ↓u139_78, ↓u139_81, ↓u139_82, ↓u139_84, ↓u139_87, ↓u139_90, ↓u139_92, ↓lI_0, ↓lI_s, ↓lL_0, ↓lL_s, ↓lR_0, ↓lR_s, ↓sT_0, ↓sT_i, ↓sT_r, ↓sT_u, ↓sT_lu, ↓sU_0, ↓sU_i, ↓sU_r, ↓sU_u, ↓ite_bx, bx_T, bx_F, bx_pos, bx_neg, zws_i, zws_r, zws_l, zws_n, zCb_kc, xl_ll, xr_rr, xs_e, xset_e, Option.toList, List.cons_append, List.nil_append, zIb_e, zrng_e, nz_e, if_pos, if_neg, and_true, true_and, or_true, true_or, ite_self, bi_eq0, bi_eq1, bi_1, bi_0, bi_ir, bi_T, bi_F, up_eq, up_ne, ↓reduceIte, reduceIte, Nat.reduceAdd, Nat.reduceLeDiff, Nat.le_refl, Nat.zero_le, not_true_eq_false, not_false_eq_true, ne_eq, Int.reduceEq, Int.reduceLT, Int.reduceLE, Int.reduceAdd, Int.reduceSub, Int.reduceMul, Int.reduceNeg, pT g1, g2, g3, g4, g5, g6, g7, g8, g9, g10, g11, pT g12, zSb_e' g12, g13, hS2, s135 (show 4 ≤ d - 1 by omega) hg hvk hb hn, e3, e4, e5, e6, t0, t1, t2, t3, u0, u1, u2, u3]
    · have qw : ¬R < wnr B N (c * p2 (7 - k)) (r * p2 (7 - k)) (p2 (7 - k)) := by rw [hW]; exact q
      refine ⟨up s 172 16 g0, fu, ?_, fun Q => ?_⟩
      · rw [up_eq, dq_n q]
        exact hg0
      · rw [cq_n q, e139 (show 1 ≤ d by omega)]
        by_cases q2 : k ≤ s 172 16
        · have eg : s 172 16 = g0 := by omega
          simp (disch := first | omega | exact rfl) only [↓u139_0, ↓u139_1, ↓u139_3, ↓u139_4, ↓u139_7, ↓u139_10, ↓u139_12, ↓u139_15, ↓u139_16, ↓u139_19, ↓u139_22, ↓u139_23, ↓u139_24, ↓u139_25, ↓u139_26, ↓u139_29, ↓u139_32, ↓u139_33, ↓u139_34, ↓u139_35, ↓u139_36, ↓u139_37, ↓u139_39, ↓u139_40, ↓u139_42, ↓u139_43, ↓u139_47, ↓u139_48, ↓u139_51, ↓u139_53, ↓u139_54, ↓u139_55, ↓u139_57, ↓u139_58, ↓u139_59, ↓u139_61, ↓u139_62, ↓u139_63, ↓u139_64, ↓u139_66, ↓u139_67, ↓u139_68, ↓u139_70, ↓u139_71, ↓u139_72, ↓u139_74, ↓u139_76, ↓u139_77, ↓u139_78, ↓u139_81, ↓u139_82, ↓u139_84, ↓u139_87, ↓u139_90, ↓u139_92, ↓lI_0, ↓lI_s, ↓lL_0, ↓lL_s, ↓lR_0, ↓lR_s, ↓sT_0, ↓sT_i, ↓sT_r, ↓sT_u, ↓sT_lu, ↓sU_0, ↓sU_i, ↓sU_r, ↓sU_u, ↓ite_bx, bx_T, bx_F, bx_pos, bx_neg, zws_i, zws_r, zws_l, zws_n, zCb_kc, xl_ll, xr_rr, xs_e, xset_e, Option.toList, List.cons_append, List.nil_append, zIb_e, zrng_e, nz_e, if_pos, if_neg, and_true, true_and, or_true, true_or, ite_self, bi_eq0, bi_eq1, bi_1, bi_0, bi_ir, bi_T, bi_F, up_eq, up_ne, ↓reduceIte, reduceIte, Nat.reduceAdd, Nat.reduceLeDiff, Nat.le_refl, Nat.zero_le, not_true_eq_false, not_false_eq_true, ne_eq, Int.reduceEq, Int.reduceLT, Int.reduceLE, Int.reduceAdd, Int.reduceSub, Int.reduceMul, Int.reduceNeg, pT g1, g2, g3, g4, g5, g6, g7, g8, g9, g10, g11, pT g12, zSb_e' g12, g13, eg, s135 (show 4 ≤ d - 1 by omega) hg hvu hb hn]
        · have eg : k = g0 := by omega
          have hvk := hvu
          rw [← eg] at hvk
          simp (disch := first | omega | exact rfl) only [↓u139_0, ↓u139_1, ↓u139_3, ↓u139_4, ↓u139_7, ↓u139_10, ↓u139_12, ↓u139_15, ↓u139_16, ↓u139_19, ↓u139_22, ↓u139_23, ↓u139_24, ↓u139_25, ↓u139_26, ↓u139_29, ↓u139_32, ↓u139_33, ↓u139_34, ↓u139_35, ↓u139_36, ↓u139_37, ↓u139_39, ↓u139_40, ↓u139_42, ↓u139_43, ↓u139_47, ↓u139_48, ↓u139_51, ↓u139_53, ↓u139_54, ↓u139_55, ↓u139_57, ↓u139_58, ↓u139_59, ↓u139_61, ↓u139_62, ↓u139_63, ↓u139_64, ↓u139_66, ↓u139_67, ↓u139_68, ↓u139_70, ↓u139_71, ↓u139_72, ↓u139_74, ↓u139_76, ↓u139_77, ↓u139_78, ↓u139_81, ↓u139_82, ↓u139_84, ↓u139_87, ↓u139_90, ↓u139_92, ↓lI_0, ↓lI_s, ↓lL_0, ↓lL_s, ↓lR_0, ↓lR_s, ↓sT_0, ↓sT_i, ↓sT_r, ↓sT_u, ↓sT_lu, ↓sU_0, ↓sU_i, ↓sU_r, ↓sU_u, ↓ite_bx, bx_T, bx_F, bx_pos, bx_neg, zws_i, zws_r, zws_l, zws_n, zCb_kc, xl_ll, xr_rr, xs_e, xset_e, Option.toList, List.cons_append, List.nil_append, zIb_e, zrng_e, nz_e, if_pos, if_neg, and_true, true_and, or_true, true_or, ite_self, bi_eq0, bi_eq1, bi_1, bi_0, bi_ir, bi_T, bi_F, up_eq, up_ne, ↓reduceIte, reduceIte, Nat.reduceAdd, Nat.reduceLeDiff, Nat.le_refl, Nat.zero_le, not_true_eq_false, not_false_eq_true, ne_eq, Int.reduceEq, Int.reduceLT, Int.reduceLE, Int.reduceAdd, Int.reduceSub, Int.reduceMul, Int.reduceNeg, pT g1, g2, g3, g4, g5, g6, g7, g8, g9, g10, g11, pT g12, zSb_e' g12, g13, s135 (show 4 ≤ d - 1 by omega) hg hvk hb hn]
          rw [eg]
set_option maxRecDepth 8000 in
theorem s140 {d : Nat} {G : XS} {s : ZS} {B : ZS} {N R T : Int} (hd : 11 ≤ d) (hg : MOK G) (hv : RV s 173 B N R T) (hb : OKB B N) (hn : 0 ≤ N ∧ N ≤ 40 ∧ 0 ≤ R ∧ R ≤ 10 ∧ 0 ≤ T ∧ T ≤ 20000) : ∃ s2, frr s s2 ∧ s2 172 16 = gdn B N R 5 0 ∧ ∀ Q, Call d 140 [zrf 172] (G, s) Q = Q (some (zint (1 + sqa B N R 0))) (G, s2) := by
  have hg' := hg
  obtain ⟨g1, g2, g3, g4, g5, g6, g7, g8, g9, g10, g11, g12, g13, g14, g15, g16, g17, g18, g19, g20, g21, g22, g23, g24, g25, g26, g27, g28, g29, g30, g31, g32, g33, g34⟩ := hg'
  have fu := frr_u (s := s) (c := 16) (v := 0) (by omega)
  have z : (0 : Int) ≤ 0 ∧ (0 : Int) < p2 0 := by decide
  obtain ⟨s2, f2, m2, e⟩ := s139 hg hb hn 5 (d - 1) 0 0 0 (up s 172 16 0) (by omega) (Int.le_refl 0) (by omega) z z (RV_f hv fu) (by rw [up_eq]; omega)
  have b := dq_b (B := B) (N := N) (R := R) 5 0 0 0
  rw [up_eq, dq_g hb hn.1 hn.2.2.1] at m2
  rw [dq_g hb hn.1 hn.2.2.1] at b
  rw [cq_a hb hn.1 hn.2.2.1, show (0 : Int) * p2 (7 - 0) = 0 from Int.zero_mul _, show p2 (7 - 0) = 128 from rfl] at e
  refine ⟨s2, frr_t fu f2, by omega, fun Q => ?_⟩
  rw [e140 (show 1 ≤ d by omega)]
  simp (disch := first | omega | exact rfl) only [↓u140_0, ↓u140_1, ↓u140_2, ↓u140_5, ↓u140_6, ↓u140_7, ↓u140_8, ↓u140_11, ↓u140_12, ↓u140_15, ↓lI_0, ↓lI_s, ↓lL_0, ↓lL_s, ↓lR_0, ↓lR_s, ↓sT_0, ↓sT_i, ↓sT_r, ↓sT_u, ↓sT_lu, ↓sU_0, ↓sU_i, ↓sU_r, ↓sU_u, ↓ite_bx, bx_T, bx_F, bx_pos, bx_neg, zws_i, zws_r, zws_l, zws_n, zCb_kc, xl_ll, xr_rr, xs_e, xset_e, Option.toList, List.cons_append, List.nil_append, zIb_e, zrng_e, nz_e, if_pos, if_neg, and_true, true_and, or_true, true_or, ite_self, bi_eq0, bi_eq1, bi_1, bi_0, bi_ir, bi_T, bi_F, up_eq, up_ne, ↓reduceIte, reduceIte, Nat.reduceAdd, Nat.reduceLeDiff, Nat.le_refl, Nat.zero_le, not_true_eq_false, not_false_eq_true, ne_eq, Int.reduceEq, Int.reduceLT, Int.reduceLE, Int.reduceAdd, Int.reduceSub, Int.reduceMul, Int.reduceNeg, pT g1, g2, g3, g4, g5, g6, g7, g8, g9, g10, g11, pT g12, zSb_e' g12, g13, e]
set_option maxRecDepth 8000 in
theorem s141_w {d : Nat} {Q : Option AV → XH → Prop} {G : XS} {s : ZS} {B : ZS} {N R T : Int} {p x : Int} (hd : 6 ≤ d) (hg : MOK G) (hv : RV s 173 B N R T) (hb : OKB B N) (hn : 0 ≤ N ∧ N ≤ 40 ∧ 0 ≤ R ∧ R ≤ 10 ∧ 0 ≤ T ∧ T ≤ 20000) (ip : ir p) (ix : ir x) (q : p < 0 ∨ 99999 < p ∨ ¬(0 ≤ x ∧ x ≤ 3)) : Call d 141 [zrf 172, zint p, zint x] (G, s) Q = Q (some (zint (-1))) (G, s) := by
  have hg' := hg
  obtain ⟨g1, g2, g3, g4, g5, g6, g7, g8, g9, g10, g11, g12, g13, g14, g15, g16, g17, g18, g19, g20, g21, g22, g23, g24, g25, g26, g27, g28, g29, g30, g31, g32, g33, g34⟩ := hg'
  have hv' := hv
  obtain ⟨v1, v2, v3, v4, v5, v6⟩ := hv'
  rw [e141 (show 1 ≤ d by omega)]
  by_cases q0 : p < 0
  · skip
    by_cases q1 : 99999 < p
    · skip
      first
      | (exfalso; omega; done)
      | simp (disch := first | omega | exact rfl) only [↓u141_0, ↓u141_1, ↓u141_4, ↓u141_5, ↓u141_7, ↓u141_10, ↓u141_11, ↓u141_12, ↓u141_13, ↓u141_16, ↓u141_19, ↓u141_20, ↓u141_21, ↓u141_24, ↓u141_27, ↓u141_28, ↓u141_29, ↓u141_30, ↓u141_31, ↓u141_34, ↓u141_35, ↓u141_36, ↓u141_39, ↓u141_40, ↓u141_43, ↓u141_44, ↓u141_47, ↓u141_50, ↓u141_51, ↓u141_52, ↓u141_53, ↓u141_56, ↓u141_57, ↓u141_58, ↓u141_61, ↓u141_62, ↓u141_65, ↓u141_66, ↓u141_69, ↓u141_72, ↓u141_75, ↓u141_76, ↓u141_79, ↓u141_80, ↓u141_81, ↓u141_82, ↓u141_83, ↓u141_85, ↓u141_87, ↓u141_88, ↓u141_91, ↓u141_94, ↓u141_95, ↓u141_96, ↓u141_97, ↓u141_101, ↓u141_104, ↓u141_105, ↓u141_107, ↓u141_110, ↓u141_113, ↓u141_114, ↓u141_116, ↓u141_119, ↓u141_120, ↓u141_123, ↓u141_126, ↓u141_128, ↓u141_130, ↓u141_133, ↓u141_136, ↓u141_137, ↓u141_140, ↓u141_141, ↓u141_144, ↓u141_146, ↓lI_0, ↓lI_s, ↓lL_0, ↓lL_s, ↓lR_0, ↓lR_s, ↓sT_0, ↓sT_i, ↓sT_r, ↓sT_u, ↓sT_lu, ↓sU_0, ↓sU_i, ↓sU_r, ↓sU_u, ↓ite_bx, bx_T, bx_F, bx_pos, bx_neg, zws_i, zws_r, zws_l, zws_n, zCb_kc, xl_ll, xr_rr, xs_e, xset_e, Option.toList, List.cons_append, List.nil_append, zIb_e, zrng_e, nz_e, if_pos, if_neg, and_true, true_and, or_true, true_or, ite_self, bi_eq0, bi_eq1, bi_1, bi_0, bi_ir, bi_T, bi_F, up_eq, up_ne, ↓reduceIte, reduceIte, Nat.reduceAdd, Nat.reduceLeDiff, Nat.le_refl, Nat.zero_le, not_true_eq_false, not_false_eq_true, ne_eq, Int.reduceEq, Int.reduceLT, Int.reduceLE, Int.reduceAdd, Int.reduceSub, Int.reduceMul, Int.reduceNeg, pT g1, g2, g3, g4, g5, g6, g7, g8, g9, g10, g11, pT g12, zSb_e' g12, g13, v1, v2, v3, s111]
    · skip
      first
      | (exfalso; omega; done)
      | simp (disch := first | omega | exact rfl) only [↓u141_0, ↓u141_1, ↓u141_4, ↓u141_5, ↓u141_7, ↓u141_10, ↓u141_11, ↓u141_12, ↓u141_13, ↓u141_16, ↓u141_19, ↓u141_20, ↓u141_21, ↓u141_24, ↓u141_27, ↓u141_28, ↓u141_29, ↓u141_30, ↓u141_31, ↓u141_34, ↓u141_35, ↓u141_36, ↓u141_39, ↓u141_40, ↓u141_43, ↓u141_44, ↓u141_47, ↓u141_50, ↓u141_51, ↓u141_52, ↓u141_53, ↓u141_56, ↓u141_57, ↓u141_58, ↓u141_61, ↓u141_62, ↓u141_65, ↓u141_66, ↓u141_69, ↓u141_72, ↓u141_75, ↓u141_76, ↓u141_79, ↓u141_80, ↓u141_81, ↓u141_82, ↓u141_83, ↓u141_85, ↓u141_87, ↓u141_88, ↓u141_91, ↓u141_94, ↓u141_95, ↓u141_96, ↓u141_97, ↓u141_101, ↓u141_104, ↓u141_105, ↓u141_107, ↓u141_110, ↓u141_113, ↓u141_114, ↓u141_116, ↓u141_119, ↓u141_120, ↓u141_123, ↓u141_126, ↓u141_128, ↓u141_130, ↓u141_133, ↓u141_136, ↓u141_137, ↓u141_140, ↓u141_141, ↓u141_144, ↓u141_146, ↓lI_0, ↓lI_s, ↓lL_0, ↓lL_s, ↓lR_0, ↓lR_s, ↓sT_0, ↓sT_i, ↓sT_r, ↓sT_u, ↓sT_lu, ↓sU_0, ↓sU_i, ↓sU_r, ↓sU_u, ↓ite_bx, bx_T, bx_F, bx_pos, bx_neg, zws_i, zws_r, zws_l, zws_n, zCb_kc, xl_ll, xr_rr, xs_e, xset_e, Option.toList, List.cons_append, List.nil_append, zIb_e, zrng_e, nz_e, if_pos, if_neg, and_true, true_and, or_true, true_or, ite_self, bi_eq0, bi_eq1, bi_1, bi_0, bi_ir, bi_T, bi_F, up_eq, up_ne, ↓reduceIte, reduceIte, Nat.reduceAdd, Nat.reduceLeDiff, Nat.le_refl, Nat.zero_le, not_true_eq_false, not_false_eq_true, ne_eq, Int.reduceEq, Int.reduceLT, Int.reduceLE, Int.reduceAdd, Int.reduceSub, Int.reduceMul, Int.reduceNeg, pT g1, g2, g3, g4, g5, g6, g7, g8, g9, g10, g11, pT g12, zSb_e' g12, g13, v1, v2, v3, s111]
  · skip
    by_cases q1 : 99999 < p
    · skip
      first
      | (exfalso; omega; done)
      | simp (disch := first | omega | exact rfl) only [↓u141_0, ↓u141_1, ↓u141_4, ↓u141_5, ↓u141_7, ↓u141_10, ↓u141_11, ↓u141_12, ↓u141_13, ↓u141_16, ↓u141_19, ↓u141_20, ↓u141_21, ↓u141_24, ↓u141_27, ↓u141_28, ↓u141_29, ↓u141_30, ↓u141_31, ↓u141_34, ↓u141_35, ↓u141_36, ↓u141_39, ↓u141_40, ↓u141_43, ↓u141_44, ↓u141_47, ↓u141_50, ↓u141_51, ↓u141_52, ↓u141_53, ↓u141_56, ↓u141_57, ↓u141_58, ↓u141_61, ↓u141_62, ↓u141_65, ↓u141_66, ↓u141_69, ↓u141_72, ↓u141_75, ↓u141_76, ↓u141_79, ↓u141_80, ↓u141_81, ↓u141_82, ↓u141_83, ↓u141_85, ↓u141_87, ↓u141_88, ↓u141_91, ↓u141_94, ↓u141_95, ↓u141_96, ↓u141_97, ↓u141_101, ↓u141_104, ↓u141_105, ↓u141_107, ↓u141_110, ↓u141_113, ↓u141_114, ↓u141_116, ↓u141_119, ↓u141_120, ↓u141_123, ↓u141_126, ↓u141_128, ↓u141_130, ↓u141_133, ↓u141_136, ↓u141_137, ↓u141_140, ↓u141_141, ↓u141_144, ↓u141_146, ↓lI_0, ↓lI_s, ↓lL_0, ↓lL_s, ↓lR_0, ↓lR_s, ↓sT_0, ↓sT_i, ↓sT_r, ↓sT_u, ↓sT_lu, ↓sU_0, ↓sU_i, ↓sU_r, ↓sU_u, ↓ite_bx, bx_T, bx_F, bx_pos, bx_neg, zws_i, zws_r, zws_l, zws_n, zCb_kc, xl_ll, xr_rr, xs_e, xset_e, Option.toList, List.cons_append, List.nil_append, zIb_e, zrng_e, nz_e, if_pos, if_neg, and_true, true_and, or_true, true_or, ite_self, bi_eq0, bi_eq1, bi_1, bi_0, bi_ir, bi_T, bi_F, up_eq, up_ne, ↓reduceIte, reduceIte, Nat.reduceAdd, Nat.reduceLeDiff, Nat.le_refl, Nat.zero_le, not_true_eq_false, not_false_eq_true, ne_eq, Int.reduceEq, Int.reduceLT, Int.reduceLE, Int.reduceAdd, Int.reduceSub, Int.reduceMul, Int.reduceNeg, pT g1, g2, g3, g4, g5, g6, g7, g8, g9, g10, g11, pT g12, zSb_e' g12, g13, v1, v2, v3, s111]
    · skip
      first
      | (exfalso; omega; done)
      | simp (disch := first | omega | exact rfl) only [↓u141_0, ↓u141_1, ↓u141_4, ↓u141_5, ↓u141_7, ↓u141_10, ↓u141_11, ↓u141_12, ↓u141_13, ↓u141_16, ↓u141_19, ↓u141_20, ↓u141_21, ↓u141_24, ↓u141_27, ↓u141_28, ↓u141_29, ↓u141_30, ↓u141_31, ↓u141_34, ↓u141_35, ↓u141_36, ↓u141_39, ↓u141_40, ↓u141_43, ↓u141_44, ↓u141_47, ↓u141_50, ↓u141_51, ↓u141_52, ↓u141_53, ↓u141_56, ↓u141_57, ↓u141_58, ↓u141_61, ↓u141_62, ↓u141_65, ↓u141_66, ↓u141_69, ↓u141_72, ↓u141_75, ↓u141_76, ↓u141_79, ↓u141_80, ↓u141_81, ↓u141_82, ↓u141_83, ↓u141_85, ↓u141_87, ↓u141_88, ↓u141_91, ↓u141_94, ↓u141_95, ↓u141_96, ↓u141_97, ↓u141_101, ↓u141_104, ↓u141_105, ↓u141_107, ↓u141_110, ↓u141_113, ↓u141_114, ↓u141_116, ↓u141_119, ↓u141_120, ↓u141_123, ↓u141_126, ↓u141_128, ↓u141_130, ↓u141_133, ↓u141_136, ↓u141_137, ↓u141_140, ↓u141_141, ↓u141_144, ↓u141_146, ↓lI_0, ↓lI_s, ↓lL_0, ↓lL_s, ↓lR_0, ↓lR_s, ↓sT_0, ↓sT_i, ↓sT_r, ↓sT_u, ↓sT_lu, ↓sU_0, ↓sU_i, ↓sU_r, ↓sU_u, ↓ite_bx, bx_T, bx_F, bx_pos, bx_neg, zws_i, zws_r, zws_l, zws_n, zCb_kc, xl_ll, xr_rr, xs_e, xset_e, Option.toList, List.cons_append, List.nil_append, zIb_e, zrng_e, nz_e, if_pos, if_neg, and_true, true_and, or_true, true_or, ite_self, bi_eq0, bi_eq1, bi_1, bi_0, bi_ir, bi_T, bi_F, up_eq, up_ne, ↓reduceIte, reduceIte, Nat.reduceAdd, Nat.reduceLeDiff, Nat.le_refl, Nat.zero_le, not_true_eq_false, not_false_eq_true, ne_eq, Int.reduceEq, Int.reduceLT, Int.reduceLE, Int.reduceAdd, Int.reduceSub, Int.reduceMul, Int.reduceNeg, pT g1, g2, g3, g4, g5, g6, g7, g8, g9, g10, g11, pT g12, zSb_e' g12, g13, v1, v2, v3, s111]
set_option maxRecDepth 8000 in
theorem s141_n {d : Nat} {G : XS} {s : ZS} {B : ZS} {N R T : Int} {p x : Int} {n : Nat} (hd : 6 ≤ d) (hg : MOK G) (hv : RV s 173 B N R T) (hb : OKB B N) (hn : 0 ≤ N ∧ N ≤ 40 ∧ 0 ≤ R ∧ R ≤ 10 ∧ 0 ≤ T ∧ T ≤ 20000) (hp : 0 ≤ p ∧ p ≤ 99999) (hx : 0 ≤ x ∧ x ≤ 3) (hg2 : dig n p) (h5 : n ≤ 5) (q : ¬sqn B N R n p) : ∃ s2, frr s s2 ∧ ∀ Q, Call d 141 [zrf 172, zint p, zint x] (G, s) Q = Q (some (zint (-1))) (G, s2) := by
  have hg' := hg
  obtain ⟨g1, g2, g3, g4, g5, g6, g7, g8, g9, g10, g11, g12, g13, g14, g15, g16, g17, g18, g19, g20, g21, g22, g23, g24, g25, g26, g27, g28, g29, g30, g31, g32, g33, g34⟩ := hg'
  have hv' := hv
  obtain ⟨v1, v2, v3, v4, v5, v6⟩ := hv'
  obtain ⟨s2, f2, c2, e⟩ := s136 (d := d - 1) (by omega) hg hv hb hn hp hg2 h5
  refine ⟨s2, f2, fun Q => ?_⟩
  rw [e141 (show 1 ≤ d by omega)]
  rw [bi_0 q] at e
  simp (disch := first | omega | exact rfl) only [↓u141_0, ↓u141_1, ↓u141_4, ↓u141_5, ↓u141_7, ↓u141_10, ↓u141_11, ↓u141_12, ↓u141_13, ↓u141_16, ↓u141_19, ↓u141_20, ↓u141_21, ↓u141_24, ↓u141_27, ↓u141_28, ↓u141_29, ↓u141_30, ↓u141_31, ↓u141_34, ↓u141_35, ↓u141_36, ↓u141_39, ↓u141_40, ↓u141_43, ↓u141_44, ↓u141_47, ↓u141_50, ↓u141_51, ↓u141_52, ↓u141_53, ↓u141_56, ↓u141_57, ↓u141_58, ↓u141_61, ↓u141_62, ↓u141_65, ↓u141_66, ↓u141_69, ↓u141_72, ↓u141_75, ↓u141_76, ↓u141_79, ↓u141_80, ↓u141_81, ↓u141_82, ↓u141_83, ↓u141_85, ↓u141_87, ↓u141_88, ↓u141_91, ↓u141_94, ↓u141_95, ↓u141_96, ↓u141_97, ↓u141_101, ↓u141_104, ↓u141_105, ↓u141_107, ↓u141_110, ↓u141_113, ↓u141_114, ↓u141_116, ↓u141_119, ↓u141_120, ↓u141_123, ↓u141_126, ↓u141_128, ↓u141_130, ↓u141_133, ↓u141_136, ↓u141_137, ↓u141_140, ↓u141_141, ↓u141_144, ↓u141_146, ↓lI_0, ↓lI_s, ↓lL_0, ↓lL_s, ↓lR_0, ↓lR_s, ↓sT_0, ↓sT_i, ↓sT_r, ↓sT_u, ↓sT_lu, ↓sU_0, ↓sU_i, ↓sU_r, ↓sU_u, ↓ite_bx, bx_T, bx_F, bx_pos, bx_neg, zws_i, zws_r, zws_l, zws_n, zCb_kc, xl_ll, xr_rr, xs_e, xset_e, Option.toList, List.cons_append, List.nil_append, zIb_e, zrng_e, nz_e, if_pos, if_neg, and_true, true_and, or_true, true_or, ite_self, bi_eq0, bi_eq1, bi_1, bi_0, bi_ir, bi_T, bi_F, up_eq, up_ne, ↓reduceIte, reduceIte, Nat.reduceAdd, Nat.reduceLeDiff, Nat.le_refl, Nat.zero_le, not_true_eq_false, not_false_eq_true, ne_eq, Int.reduceEq, Int.reduceLT, Int.reduceLE, Int.reduceAdd, Int.reduceSub, Int.reduceMul, Int.reduceNeg, pT g1, g2, g3, g4, g5, g6, g7, g8, g9, g10, g11, pT g12, zSb_e' g12, g13, v1, v2, v3, s111, e]
set_option maxRecDepth 8000 in
theorem s141_1 {d : Nat} {G : XS} {s : ZS} {B : ZS} {N R T : Int} {p : Int} {n : Nat} (hd : 6 ≤ d) (hg : MOK G) (hv : RV s 173 B N R T) (hb : OKB B N) (hn : 0 ≤ N ∧ N ≤ 40 ∧ 0 ≤ R ∧ R ≤ 10 ∧ 0 ≤ T ∧ T ≤ 20000) (hp : 0 ≤ p ∧ p ≤ 99999) (hg2 : dig n p) (h5 : n ≤ 5) (q : sqn B N R n p) : ∃ s2, frr s s2 ∧ ∀ Q, Call d 141 [zrf 172, zint p, zint 1] (G, s) Q = Q (some (zint (wn B N n (ixf n p)))) (G, s2) := by
  have hg' := hg
  obtain ⟨g1, g2, g3, g4, g5, g6, g7, g8, g9, g10, g11, g12, g13, g14, g15, g16, g17, g18, g19, g20, g21, g22, g23, g24, g25, g26, g27, g28, g29, g30, g31, g32, g33, g34⟩ := hg'
  have hv' := hv
  obtain ⟨v1, v2, v3, v4, v5, v6⟩ := hv'
  obtain ⟨s2, f2, c2, e⟩ := s136 (d := d - 1) (by omega) hg hv hb hn hp hg2 h5
  obtain ⟨c3, c4, c5⟩ := c2 q
  have hv2 := RV_f hv f2
  have v1b := hv2.1
  have hcr := cr_p (p := p) h5
  have b2 := cr_b (k := n) (c := clf n p) (by omega) hcr.1
  have b3 := cr_b (k := n) (c := rwf n p) (by omega) hcr.2
  have hz := p2_7k (k := n) (by omega)
  have hW := wn_wp (N := N) (p := p) hb hn.1 h5
  rw [bi_1 q] at e
  refine ⟨s2, f2, fun Q => ?_⟩
  rw [e141 (show 1 ≤ d by omega)]
  simp (disch := first | omega | exact rfl) only [↓u141_0, ↓u141_1, ↓u141_4, ↓u141_5, ↓u141_7, ↓u141_10, ↓u141_11, ↓u141_12, ↓u141_13, ↓u141_16, ↓u141_19, ↓u141_20, ↓u141_21, ↓u141_24, ↓u141_27, ↓u141_28, ↓u141_29, ↓u141_30, ↓u141_31, ↓u141_34, ↓u141_35, ↓u141_36, ↓u141_39, ↓u141_40, ↓u141_43, ↓u141_44, ↓u141_47, ↓u141_50, ↓u141_51, ↓u141_52, ↓u141_53, ↓u141_56, ↓u141_57, ↓u141_58, ↓u141_61, ↓u141_62, ↓u141_65, ↓u141_66, ↓u141_69, ↓u141_72, ↓u141_75, ↓u141_76, ↓u141_79, ↓u141_80, ↓u141_81, ↓u141_82, ↓u141_83, ↓u141_85, ↓u141_87, ↓u141_88, ↓u141_91, ↓u141_94, ↓u141_95, ↓u141_96, ↓u141_97, ↓u141_101, ↓u141_104, ↓u141_105, ↓u141_107, ↓u141_110, ↓u141_113, ↓u141_114, ↓u141_116, ↓u141_119, ↓u141_120, ↓u141_123, ↓u141_126, ↓u141_128, ↓u141_130, ↓u141_133, ↓u141_136, ↓u141_137, ↓u141_140, ↓u141_141, ↓u141_144, ↓u141_146, ↓lI_0, ↓lI_s, ↓lL_0, ↓lL_s, ↓lR_0, ↓lR_s, ↓sT_0, ↓sT_i, ↓sT_r, ↓sT_u, ↓sT_lu, ↓sU_0, ↓sU_i, ↓sU_r, ↓sU_u, ↓ite_bx, bx_T, bx_F, bx_pos, bx_neg, zws_i, zws_r, zws_l, zws_n, zCb_kc, xl_ll, xr_rr, xs_e, xset_e, Option.toList, List.cons_append, List.nil_append, zIb_e, zrng_e, nz_e, if_pos, if_neg, and_true, true_and, or_true, true_or, ite_self, bi_eq0, bi_eq1, bi_1, bi_0, bi_ir, bi_T, bi_F, up_eq, up_ne, ↓reduceIte, reduceIte, Nat.reduceAdd, Nat.reduceLeDiff, Nat.le_refl, Nat.zero_le, not_true_eq_false, not_false_eq_true, ne_eq, Int.reduceEq, Int.reduceLT, Int.reduceLE, Int.reduceAdd, Int.reduceSub, Int.reduceMul, Int.reduceNeg, pT g1, g2, g3, g4, g5, g6, g7, g8, g9, g10, g11, pT g12, zSb_e' g12, g13, s111, e, c3, c4, c5, t134 (show 3 ≤ d - 1 by omega) hg hv2 hb hn, hW]
set_option maxRecDepth 8000 in
theorem s141_2 {d : Nat} {G : XS} {s : ZS} {B : ZS} {N R T : Int} {p : Int} {n : Nat} (hd : 6 ≤ d) (hg : MOK G) (hv : RV s 173 B N R T) (hb : OKB B N) (hn : 0 ≤ N ∧ N ≤ 40 ∧ 0 ≤ R ∧ R ≤ 10 ∧ 0 ≤ T ∧ T ≤ 20000) (hp : 0 ≤ p ∧ p ≤ 99999) (hg2 : dig n p) (h5 : n ≤ 5) (q : sqn B N R n p) : ∃ s2, frr s s2 ∧ ∀ Q, Call d 141 [zrf 172, zint p, zint 2] (G, s) Q = Q (some (zint (bi ((n : Int) < 5 ∧ R < wn B N n (ixf n p))))) (G, s2) := by
  have hg' := hg
  obtain ⟨g1, g2, g3, g4, g5, g6, g7, g8, g9, g10, g11, g12, g13, g14, g15, g16, g17, g18, g19, g20, g21, g22, g23, g24, g25, g26, g27, g28, g29, g30, g31, g32, g33, g34⟩ := hg'
  have hv' := hv
  obtain ⟨v1, v2, v3, v4, v5, v6⟩ := hv'
  obtain ⟨s2, f2, c2, e⟩ := s136 (d := d - 1) (by omega) hg hv hb hn hp hg2 h5
  obtain ⟨c3, c4, c5⟩ := c2 q
  have hv2 := RV_f hv f2
  have v1b := hv2.1
  have hcr := cr_p (p := p) h5
  have b2 := cr_b (k := n) (c := clf n p) (by omega) hcr.1
  have b3 := cr_b (k := n) (c := rwf n p) (by omega) hcr.2
  have hz := p2_7k (k := n) (by omega)
  have hW := wn_wp (N := N) (p := p) hb hn.1 h5
  rw [bi_1 q] at e
  refine ⟨s2, f2, fun Q => ?_⟩
  rw [e141 (show 1 ≤ d by omega)]
  by_cases q5 : (n : Int) < 5 ∧ R < wn B N n (ixf n p)
  · rw [bi_1 q5]
    have q6 : 4 < p2 (7 - (n : Int)) ∧ R < wnr B N (clf n p * p2 (7 - n)) (rwf n p * p2 (7 - n)) (p2 (7 - n)) := by rw [hW]; exact ⟨hz.2.2.1.mpr q5.1, q5.2⟩
    simp (disch := first | omega | exact rfl) only [↓u141_0, ↓u141_1, ↓u141_4, ↓u141_5, ↓u141_7, ↓u141_10, ↓u141_11, ↓u141_12, ↓u141_13, ↓u141_16, ↓u141_19, ↓u141_20, ↓u141_21, ↓u141_24, ↓u141_27, ↓u141_28, ↓u141_29, ↓u141_30, ↓u141_31, ↓u141_34, ↓u141_35, ↓u141_36, ↓u141_39, ↓u141_40, ↓u141_43, ↓u141_44, ↓u141_47, ↓u141_50, ↓u141_51, ↓u141_52, ↓u141_53, ↓u141_56, ↓u141_57, ↓u141_58, ↓u141_61, ↓u141_62, ↓u141_65, ↓u141_66, ↓u141_69, ↓u141_72, ↓u141_75, ↓u141_76, ↓u141_79, ↓u141_80, ↓u141_81, ↓u141_82, ↓u141_83, ↓u141_85, ↓u141_87, ↓u141_88, ↓u141_91, ↓u141_94, ↓u141_95, ↓u141_96, ↓u141_97, ↓u141_101, ↓u141_104, ↓u141_105, ↓u141_107, ↓u141_110, ↓u141_113, ↓u141_114, ↓u141_116, ↓u141_119, ↓u141_120, ↓u141_123, ↓u141_126, ↓u141_128, ↓u141_130, ↓u141_133, ↓u141_136, ↓u141_137, ↓u141_140, ↓u141_141, ↓u141_144, ↓u141_146, ↓lI_0, ↓lI_s, ↓lL_0, ↓lL_s, ↓lR_0, ↓lR_s, ↓sT_0, ↓sT_i, ↓sT_r, ↓sT_u, ↓sT_lu, ↓sU_0, ↓sU_i, ↓sU_r, ↓sU_u, ↓ite_bx, bx_T, bx_F, bx_pos, bx_neg, zws_i, zws_r, zws_l, zws_n, zCb_kc, xl_ll, xr_rr, xs_e, xset_e, Option.toList, List.cons_append, List.nil_append, zIb_e, zrng_e, nz_e, if_pos, if_neg, and_true, true_and, or_true, true_or, ite_self, bi_eq0, bi_eq1, bi_1, bi_0, bi_ir, bi_T, bi_F, up_eq, up_ne, ↓reduceIte, reduceIte, Nat.reduceAdd, Nat.reduceLeDiff, Nat.le_refl, Nat.zero_le, not_true_eq_false, not_false_eq_true, ne_eq, Int.reduceEq, Int.reduceLT, Int.reduceLE, Int.reduceAdd, Int.reduceSub, Int.reduceMul, Int.reduceNeg, pT g1, g2, g3, g4, g5, g6, g7, g8, g9, g10, g11, pT g12, zSb_e' g12, g13, s111, e, c3, c4, c5, s135 (show 4 ≤ d - 1 by omega) hg hv2 hb hn]
  · rw [bi_0 q5]
    have q6 : ¬(4 < p2 (7 - (n : Int)) ∧ R < wnr B N (clf n p * p2 (7 - n)) (rwf n p * p2 (7 - n)) (p2 (7 - n))) := by rw [hW]; exact fun h => q5 ⟨hz.2.2.1.mp h.1, h.2⟩
    simp (disch := first | omega | exact rfl) only [↓u141_0, ↓u141_1, ↓u141_4, ↓u141_5, ↓u141_7, ↓u141_10, ↓u141_11, ↓u141_12, ↓u141_13, ↓u141_16, ↓u141_19, ↓u141_20, ↓u141_21, ↓u141_24, ↓u141_27, ↓u141_28, ↓u141_29, ↓u141_30, ↓u141_31, ↓u141_34, ↓u141_35, ↓u141_36, ↓u141_39, ↓u141_40, ↓u141_43, ↓u141_44, ↓u141_47, ↓u141_50, ↓u141_51, ↓u141_52, ↓u141_53, ↓u141_56, ↓u141_57, ↓u141_58, ↓u141_61, ↓u141_62, ↓u141_65, ↓u141_66, ↓u141_69, ↓u141_72, ↓u141_75, ↓u141_76, ↓u141_79, ↓u141_80, ↓u141_81, ↓u141_82, ↓u141_83, ↓u141_85, ↓u141_87, ↓u141_88, ↓u141_91, ↓u141_94, ↓u141_95, ↓u141_96, ↓u141_97, ↓u141_101, ↓u141_104, ↓u141_105, ↓u141_107, ↓u141_110, ↓u141_113, ↓u141_114, ↓u141_116, ↓u141_119, ↓u141_120, ↓u141_123, ↓u141_126, ↓u141_128, ↓u141_130, ↓u141_133, ↓u141_136, ↓u141_137, ↓u141_140, ↓u141_141, ↓u141_144, ↓u141_146, ↓lI_0, ↓lI_s, ↓lL_0, ↓lL_s, ↓lR_0, ↓lR_s, ↓sT_0, ↓sT_i, ↓sT_r, ↓sT_u, ↓sT_lu, ↓sU_0, ↓sU_i, ↓sU_r, ↓sU_u, ↓ite_bx, bx_T, bx_F, bx_pos, bx_neg, zws_i, zws_r, zws_l, zws_n, zCb_kc, xl_ll, xr_rr, xs_e, xset_e, Option.toList, List.cons_append, List.nil_append, zIb_e, zrng_e, nz_e, if_pos, if_neg, and_true, true_and, or_true, true_or, ite_self, bi_eq0, bi_eq1, bi_1, bi_0, bi_ir, bi_T, bi_F, up_eq, up_ne, ↓reduceIte, reduceIte, Nat.reduceAdd, Nat.reduceLeDiff, Nat.le_refl, Nat.zero_le, not_true_eq_false, not_false_eq_true, ne_eq, Int.reduceEq, Int.reduceLT, Int.reduceLE, Int.reduceAdd, Int.reduceSub, Int.reduceMul, Int.reduceNeg, pT g1, g2, g3, g4, g5, g6, g7, g8, g9, g10, g11, pT g12, zSb_e' g12, g13, s111, e, c3, c4, c5, s135 (show 4 ≤ d - 1 by omega) hg hv2 hb hn]
set_option maxRecDepth 8000 in
theorem l141 {d : Nat} {Q : Option AV → XH → Prop} {G : XS} {s2 : ZS} {B : ZS} {N R T : Int} {p x : Int} (hd : 6 ≤ d) (hg : MOK G) (hv : RV s2 173 B N R T) (hb : OKB B N) (hn : 0 ≤ N ∧ N ≤ 40 ∧ 0 ≤ R ∧ R ≤ 10 ∧ 0 ≤ T ∧ T ≤ 20000) (hp : 0 ≤ p ∧ p ≤ 99999) (hx : x = 0 ∨ x = 3) : ∀ i, 0 ≤ i → i ≤ N → Wp (d - 1) 141 (99, [zrf 172, zint p, zint x, zint (sm (fun j => bi (B j 8 = 1 ∧ pt B N R j = p)) i N), zint (kth (fun j => B j 8 = 1 ∧ pt B N R j = p) i N 0), zint (i + -1)], [], (G, s2)) Q = Q (some (zint (if x = 0 then sm (fun j => bi (B j 8 = 1 ∧ pt B N R j = p)) 0 N else kth (fun j => B j 8 = 1 ∧ pt B N R j = p) 0 N 0))) (G, s2) := by
  have hg' := hg
  obtain ⟨g1, g2, g3, g4, g5, g6, g7, g8, g9, g10, g11, g12, g13, g14, g15, g16, g17, g18, g19, g20, g21, g22, g23, g24, g25, g26, g27, g28, g29, g30, g31, g32, g33, g34⟩ := hg'
  have hv' := hv
  obtain ⟨v1, v2, v3, v4, v5, v6⟩ := hv'
  refine upw (P := fun i => Wp (d - 1) 141 (99, [zrf 172, zint p, zint x, zint (sm (fun j => bi (B j 8 = 1 ∧ pt B N R j = p)) i N), zint (kth (fun j => B j 8 = 1 ∧ pt B N R j = p) i N 0), zint (i + -1)], [], (G, s2)) Q = Q (some (zint (if x = 0 then sm (fun j => bi (B j 8 = 1 ∧ pt B N R j = p)) 0 N else kth (fun j => B j 8 = 1 ∧ pt B N R j = p) 0 N 0))) (G, s2)) ?_ ?_
  · rw [u141_99]
    rcases hx with rfl | rfl
    · rw [if_pos rfl]
      simp (disch := first | omega | exact rfl) only [↓u141_0, ↓u141_1, ↓u141_4, ↓u141_5, ↓u141_7, ↓u141_10, ↓u141_11, ↓u141_12, ↓u141_13, ↓u141_16, ↓u141_19, ↓u141_20, ↓u141_21, ↓u141_24, ↓u141_27, ↓u141_28, ↓u141_29, ↓u141_30, ↓u141_31, ↓u141_34, ↓u141_35, ↓u141_36, ↓u141_39, ↓u141_40, ↓u141_43, ↓u141_44, ↓u141_47, ↓u141_50, ↓u141_51, ↓u141_52, ↓u141_53, ↓u141_56, ↓u141_57, ↓u141_58, ↓u141_61, ↓u141_62, ↓u141_65, ↓u141_66, ↓u141_69, ↓u141_72, ↓u141_75, ↓u141_76, ↓u141_79, ↓u141_80, ↓u141_81, ↓u141_82, ↓u141_83, ↓u141_85, ↓u141_87, ↓u141_88, ↓u141_91, ↓u141_94, ↓u141_95, ↓u141_96, ↓u141_97, ↓u141_101, ↓u141_104, ↓u141_105, ↓u141_107, ↓u141_110, ↓u141_113, ↓u141_114, ↓u141_116, ↓u141_119, ↓u141_120, ↓u141_123, ↓u141_126, ↓u141_128, ↓u141_130, ↓u141_133, ↓u141_136, ↓u141_137, ↓u141_140, ↓u141_141, ↓u141_144, ↓u141_146, ↓lI_0, ↓lI_s, ↓lL_0, ↓lL_s, ↓lR_0, ↓lR_s, ↓sT_0, ↓sT_i, ↓sT_r, ↓sT_u, ↓sT_lu, ↓sU_0, ↓sU_i, ↓sU_r, ↓sU_u, ↓ite_bx, bx_T, bx_F, bx_pos, bx_neg, zws_i, zws_r, zws_l, zws_n, zCb_kc, xl_ll, xr_rr, xs_e, xset_e, Option.toList, List.cons_append, List.nil_append, zIb_e, zrng_e, nz_e, if_pos, if_neg, and_true, true_and, or_true, true_or, ite_self, bi_eq0, bi_eq1, bi_1, bi_0, bi_ir, bi_T, bi_F, up_eq, up_ne, ↓reduceIte, reduceIte, Nat.reduceAdd, Nat.reduceLeDiff, Nat.le_refl, Nat.zero_le, not_true_eq_false, not_false_eq_true, ne_eq, Int.reduceEq, Int.reduceLT, Int.reduceLE, Int.reduceAdd, Int.reduceSub, Int.reduceMul, Int.reduceNeg, pT g1, g2, g3, g4, g5, g6, g7, g8, g9, g10, g11, pT g12, zSb_e' g12, g13, v1, v2, v3]
    · rw [if_neg (by omega)]
      simp (disch := first | omega | exact rfl) only [↓u141_0, ↓u141_1, ↓u141_4, ↓u141_5, ↓u141_7, ↓u141_10, ↓u141_11, ↓u141_12, ↓u141_13, ↓u141_16, ↓u141_19, ↓u141_20, ↓u141_21, ↓u141_24, ↓u141_27, ↓u141_28, ↓u141_29, ↓u141_30, ↓u141_31, ↓u141_34, ↓u141_35, ↓u141_36, ↓u141_39, ↓u141_40, ↓u141_43, ↓u141_44, ↓u141_47, ↓u141_50, ↓u141_51, ↓u141_52, ↓u141_53, ↓u141_56, ↓u141_57, ↓u141_58, ↓u141_61, ↓u141_62, ↓u141_65, ↓u141_66, ↓u141_69, ↓u141_72, ↓u141_75, ↓u141_76, ↓u141_79, ↓u141_80, ↓u141_81, ↓u141_82, ↓u141_83, ↓u141_85, ↓u141_87, ↓u141_88, ↓u141_91, ↓u141_94, ↓u141_95, ↓u141_96, ↓u141_97, ↓u141_101, ↓u141_104, ↓u141_105, ↓u141_107, ↓u141_110, ↓u141_113, ↓u141_114, ↓u141_116, ↓u141_119, ↓u141_120, ↓u141_123, ↓u141_126, ↓u141_128, ↓u141_130, ↓u141_133, ↓u141_136, ↓u141_137, ↓u141_140, ↓u141_141, ↓u141_144, ↓u141_146, ↓lI_0, ↓lI_s, ↓lL_0, ↓lL_s, ↓lR_0, ↓lR_s, ↓sT_0, ↓sT_i, ↓sT_r, ↓sT_u, ↓sT_lu, ↓sU_0, ↓sU_i, ↓sU_r, ↓sU_u, ↓ite_bx, bx_T, bx_F, bx_pos, bx_neg, zws_i, zws_r, zws_l, zws_n, zCb_kc, xl_ll, xr_rr, xs_e, xset_e, Option.toList, List.cons_append, List.nil_append, zIb_e, zrng_e, nz_e, if_pos, if_neg, and_true, true_and, or_true, true_or, ite_self, bi_eq0, bi_eq1, bi_1, bi_0, bi_ir, bi_T, bi_F, up_eq, up_ne, ↓reduceIte, reduceIte, Nat.reduceAdd, Nat.reduceLeDiff, Nat.le_refl, Nat.zero_le, not_true_eq_false, not_false_eq_true, ne_eq, Int.reduceEq, Int.reduceLT, Int.reduceLE, Int.reduceAdd, Int.reduceSub, Int.reduceMul, Int.reduceNeg, pT g1, g2, g3, g4, g5, g6, g7, g8, g9, g10, g11, pT g12, zSb_e' g12, g13, v1, v2, v3]
  · intro i h0 h1 ih
    have b := hb i ⟨h0, h1⟩
    have kb := kth_b (p := fun j => B j 8 = 1 ∧ pt B N R j = p) (i := i + 1) (N := N) (m := 0) (by omega) (by omega)
    have sb := cn_b (fun j => B j 8 = 1 ∧ pt B N R j = p) (i + 1) N (by omega)
    have hpt := pt_b (B := B) (N := N) (R := R) (m := i)
    rw [show i + 1 + -1 = i by omega, u141_99]
    rw [sm_s h1] at ih
    by_cases q : B i 8 = 1
    · by_cases q2 : pt B N R i = p
      · rw [kth_z h1 (show B i 8 = 1 ∧ pt B N R i = p from ⟨q, q2⟩) rfl, bi_1 (show B i 8 = 1 ∧ pt B N R i = p from ⟨q, q2⟩), Int.add_comm 1] at ih
        simp (disch := first | omega | exact rfl) only [↓u141_0, ↓u141_1, ↓u141_4, ↓u141_5, ↓u141_7, ↓u141_10, ↓u141_11, ↓u141_12, ↓u141_13, ↓u141_16, ↓u141_19, ↓u141_20, ↓u141_21, ↓u141_24, ↓u141_27, ↓u141_28, ↓u141_29, ↓u141_30, ↓u141_31, ↓u141_34, ↓u141_35, ↓u141_36, ↓u141_39, ↓u141_40, ↓u141_43, ↓u141_44, ↓u141_47, ↓u141_50, ↓u141_51, ↓u141_52, ↓u141_53, ↓u141_56, ↓u141_57, ↓u141_58, ↓u141_61, ↓u141_62, ↓u141_65, ↓u141_66, ↓u141_69, ↓u141_72, ↓u141_75, ↓u141_76, ↓u141_79, ↓u141_80, ↓u141_81, ↓u141_82, ↓u141_83, ↓u141_85, ↓u141_87, ↓u141_88, ↓u141_91, ↓u141_94, ↓u141_95, ↓u141_96, ↓u141_97, ↓u141_101, ↓u141_104, ↓u141_105, ↓u141_107, ↓u141_110, ↓u141_113, ↓u141_114, ↓u141_116, ↓u141_119, ↓u141_120, ↓u141_123, ↓u141_126, ↓u141_128, ↓u141_130, ↓u141_133, ↓u141_136, ↓u141_137, ↓u141_140, ↓u141_141, ↓u141_144, ↓u141_146, ↓lI_0, ↓lI_s, ↓lL_0, ↓lL_s, ↓lR_0, ↓lR_s, ↓sT_0, ↓sT_i, ↓sT_r, ↓sT_u, ↓sT_lu, ↓sU_0, ↓sU_i, ↓sU_r, ↓sU_u, ↓ite_bx, bx_T, bx_F, bx_pos, bx_neg, zws_i, zws_r, zws_l, zws_n, zCb_kc, xl_ll, xr_rr, xs_e, xset_e, Option.toList, List.cons_append, List.nil_append, zIb_e, zrng_e, nz_e, if_pos, if_neg, and_true, true_and, or_true, true_or, ite_self, bi_eq0, bi_eq1, bi_1, bi_0, bi_ir, bi_T, bi_F, up_eq, up_ne, ↓reduceIte, reduceIte, Nat.reduceAdd, Nat.reduceLeDiff, Nat.le_refl, Nat.zero_le, not_true_eq_false, not_false_eq_true, ne_eq, Int.reduceEq, Int.reduceLT, Int.reduceLE, Int.reduceAdd, Int.reduceSub, Int.reduceMul, Int.reduceNeg, pT g1, g2, g3, g4, g5, g6, g7, g8, g9, g10, g11, pT g12, zSb_e' g12, g13, v1, v2, v3, s115 (show 2 ≤ d - 1 by omega) hg hv hb hn, s137 (show 5 ≤ d - 1 by omega) hg hv hb hn, ih]
      · rw [kth_n h1 (show ¬(B i 8 = 1 ∧ pt B N R i = p) from fun h => q2 h.2), bi_0 (show ¬(B i 8 = 1 ∧ pt B N R i = p) from fun h => q2 h.2), Int.zero_add] at ih
        simp (disch := first | omega | exact rfl) only [↓u141_0, ↓u141_1, ↓u141_4, ↓u141_5, ↓u141_7, ↓u141_10, ↓u141_11, ↓u141_12, ↓u141_13, ↓u141_16, ↓u141_19, ↓u141_20, ↓u141_21, ↓u141_24, ↓u141_27, ↓u141_28, ↓u141_29, ↓u141_30, ↓u141_31, ↓u141_34, ↓u141_35, ↓u141_36, ↓u141_39, ↓u141_40, ↓u141_43, ↓u141_44, ↓u141_47, ↓u141_50, ↓u141_51, ↓u141_52, ↓u141_53, ↓u141_56, ↓u141_57, ↓u141_58, ↓u141_61, ↓u141_62, ↓u141_65, ↓u141_66, ↓u141_69, ↓u141_72, ↓u141_75, ↓u141_76, ↓u141_79, ↓u141_80, ↓u141_81, ↓u141_82, ↓u141_83, ↓u141_85, ↓u141_87, ↓u141_88, ↓u141_91, ↓u141_94, ↓u141_95, ↓u141_96, ↓u141_97, ↓u141_101, ↓u141_104, ↓u141_105, ↓u141_107, ↓u141_110, ↓u141_113, ↓u141_114, ↓u141_116, ↓u141_119, ↓u141_120, ↓u141_123, ↓u141_126, ↓u141_128, ↓u141_130, ↓u141_133, ↓u141_136, ↓u141_137, ↓u141_140, ↓u141_141, ↓u141_144, ↓u141_146, ↓lI_0, ↓lI_s, ↓lL_0, ↓lL_s, ↓lR_0, ↓lR_s, ↓sT_0, ↓sT_i, ↓sT_r, ↓sT_u, ↓sT_lu, ↓sU_0, ↓sU_i, ↓sU_r, ↓sU_u, ↓ite_bx, bx_T, bx_F, bx_pos, bx_neg, zws_i, zws_r, zws_l, zws_n, zCb_kc, xl_ll, xr_rr, xs_e, xset_e, Option.toList, List.cons_append, List.nil_append, zIb_e, zrng_e, nz_e, if_pos, if_neg, and_true, true_and, or_true, true_or, ite_self, bi_eq0, bi_eq1, bi_1, bi_0, bi_ir, bi_T, bi_F, up_eq, up_ne, ↓reduceIte, reduceIte, Nat.reduceAdd, Nat.reduceLeDiff, Nat.le_refl, Nat.zero_le, not_true_eq_false, not_false_eq_true, ne_eq, Int.reduceEq, Int.reduceLT, Int.reduceLE, Int.reduceAdd, Int.reduceSub, Int.reduceMul, Int.reduceNeg, pT g1, g2, g3, g4, g5, g6, g7, g8, g9, g10, g11, pT g12, zSb_e' g12, g13, v1, v2, v3, s115 (show 2 ≤ d - 1 by omega) hg hv hb hn, s137 (show 5 ≤ d - 1 by omega) hg hv hb hn, ih]
    · rw [kth_n h1 (show ¬(B i 8 = 1 ∧ pt B N R i = p) from fun h => q h.1), bi_0 (show ¬(B i 8 = 1 ∧ pt B N R i = p) from fun h => q h.1), Int.zero_add] at ih
      simp (disch := first | omega | exact rfl) only [↓u141_0, ↓u141_1, ↓u141_4, ↓u141_5, ↓u141_7, ↓u141_10, ↓u141_11, ↓u141_12, ↓u141_13, ↓u141_16, ↓u141_19, ↓u141_20, ↓u141_21, ↓u141_24, ↓u141_27, ↓u141_28, ↓u141_29, ↓u141_30, ↓u141_31, ↓u141_34, ↓u141_35, ↓u141_36, ↓u141_39, ↓u141_40, ↓u141_43, ↓u141_44, ↓u141_47, ↓u141_50, ↓u141_51, ↓u141_52, ↓u141_53, ↓u141_56, ↓u141_57, ↓u141_58, ↓u141_61, ↓u141_62, ↓u141_65, ↓u141_66, ↓u141_69, ↓u141_72, ↓u141_75, ↓u141_76, ↓u141_79, ↓u141_80, ↓u141_81, ↓u141_82, ↓u141_83, ↓u141_85, ↓u141_87, ↓u141_88, ↓u141_91, ↓u141_94, ↓u141_95, ↓u141_96, ↓u141_97, ↓u141_101, ↓u141_104, ↓u141_105, ↓u141_107, ↓u141_110, ↓u141_113, ↓u141_114, ↓u141_116, ↓u141_119, ↓u141_120, ↓u141_123, ↓u141_126, ↓u141_128, ↓u141_130, ↓u141_133, ↓u141_136, ↓u141_137, ↓u141_140, ↓u141_141, ↓u141_144, ↓u141_146, ↓lI_0, ↓lI_s, ↓lL_0, ↓lL_s, ↓lR_0, ↓lR_s, ↓sT_0, ↓sT_i, ↓sT_r, ↓sT_u, ↓sT_lu, ↓sU_0, ↓sU_i, ↓sU_r, ↓sU_u, ↓ite_bx, bx_T, bx_F, bx_pos, bx_neg, zws_i, zws_r, zws_l, zws_n, zCb_kc, xl_ll, xr_rr, xs_e, xset_e, Option.toList, List.cons_append, List.nil_append, zIb_e, zrng_e, nz_e, if_pos, if_neg, and_true, true_and, or_true, true_or, ite_self, bi_eq0, bi_eq1, bi_1, bi_0, bi_ir, bi_T, bi_F, up_eq, up_ne, ↓reduceIte, reduceIte, Nat.reduceAdd, Nat.reduceLeDiff, Nat.le_refl, Nat.zero_le, not_true_eq_false, not_false_eq_true, ne_eq, Int.reduceEq, Int.reduceLT, Int.reduceLE, Int.reduceAdd, Int.reduceSub, Int.reduceMul, Int.reduceNeg, pT g1, g2, g3, g4, g5, g6, g7, g8, g9, g10, g11, pT g12, zSb_e' g12, g13, v1, v2, v3, s115 (show 2 ≤ d - 1 by omega) hg hv hb hn, ih]
set_option maxRecDepth 8000 in
theorem s141_k {d : Nat} {G : XS} {s : ZS} {B : ZS} {N R T : Int} {p x : Int} {n : Nat} (hd : 6 ≤ d) (hg : MOK G) (hv : RV s 173 B N R T) (hb : OKB B N) (hn : 0 ≤ N ∧ N ≤ 40 ∧ 0 ≤ R ∧ R ≤ 10 ∧ 0 ≤ T ∧ T ≤ 20000) (hp : 0 ≤ p ∧ p ≤ 99999) (hx : x = 0 ∨ x = 3) (hg2 : dig n p) (h5 : n ≤ 5) (q : sqn B N R n p) : ∃ s2, frr s s2 ∧ ∀ Q, Call d 141 [zrf 172, zint p, zint x] (G, s) Q = Q (some (zint (if x = 0 then sm (fun j => bi (inp B N R n (ixf n p) j)) 0 N else kth (fun j => inp B N R n (ixf n p) j) 0 N 0))) (G, s2) := by
  have hg' := hg
  obtain ⟨g1, g2, g3, g4, g5, g6, g7, g8, g9, g10, g11, g12, g13, g14, g15, g16, g17, g18, g19, g20, g21, g22, g23, g24, g25, g26, g27, g28, g29, g30, g31, g32, g33, g34⟩ := hg'
  have hv' := hv
  obtain ⟨v1, v2, v3, v4, v5, v6⟩ := hv'
  obtain ⟨s2, f2, c2, e⟩ := s136 (d := d - 1) (by omega) hg hv hb hn hp hg2 h5
  obtain ⟨c3, c4, c5⟩ := c2 q
  have hv2 := RV_f hv f2
  have v1b := hv2.1
  have hcr := cr_p (p := p) h5
  have b2 := cr_b (k := n) (c := clf n p) (by omega) hcr.1
  have b3 := cr_b (k := n) (c := rwf n p) (by omega) hcr.2
  have hz := p2_7k (k := n) (by omega)
  have hW := wn_wp (N := N) (p := p) hb hn.1 h5
  rw [bi_1 q] at e
  refine ⟨s2, f2, fun Q => ?_⟩
  rw [e141 (show 1 ≤ d by omega)]
  have lp := l141 (Q := Q) hd hg hv2 hb hn hp hx N hn.1 (Int.le_refl N)
  rw [sm_e (Int.le_refl N), kth_e (Int.le_refl N), show N + -1 = N - 1 from rfl] at lp
  rw [← cn_c (p := fun j => B j 8 = 1 ∧ pt B N R j = p) hn.1 (fun j hj => pt_in hb hj hg2 h5 q), ← kth_c (p := fun j => B j 8 = 1 ∧ pt B N R j = p) (a := 0) (fun j hj => pt_in hb hj hg2 h5 q) 0 (Int.le_refl 0) hn.1 0]
  rcases hx with rfl | rfl
  · simp (disch := first | omega | exact rfl) only [↓u141_0, ↓u141_1, ↓u141_4, ↓u141_5, ↓u141_7, ↓u141_10, ↓u141_11, ↓u141_12, ↓u141_13, ↓u141_16, ↓u141_19, ↓u141_20, ↓u141_21, ↓u141_24, ↓u141_27, ↓u141_28, ↓u141_29, ↓u141_30, ↓u141_31, ↓u141_34, ↓u141_35, ↓u141_36, ↓u141_39, ↓u141_40, ↓u141_43, ↓u141_44, ↓u141_47, ↓u141_50, ↓u141_51, ↓u141_52, ↓u141_53, ↓u141_56, ↓u141_57, ↓u141_58, ↓u141_61, ↓u141_62, ↓u141_65, ↓u141_66, ↓u141_69, ↓u141_72, ↓u141_75, ↓u141_76, ↓u141_79, ↓u141_80, ↓u141_81, ↓u141_82, ↓u141_83, ↓u141_85, ↓u141_87, ↓u141_88, ↓u141_91, ↓u141_94, ↓u141_95, ↓u141_96, ↓u141_97, ↓u141_101, ↓u141_104, ↓u141_105, ↓u141_107, ↓u141_110, ↓u141_113, ↓u141_114, ↓u141_116, ↓u141_119, ↓u141_120, ↓u141_123, ↓u141_126, ↓u141_128, ↓u141_130, ↓u141_133, ↓u141_136, ↓u141_137, ↓u141_140, ↓u141_141, ↓u141_144, ↓u141_146, ↓lI_0, ↓lI_s, ↓lL_0, ↓lL_s, ↓lR_0, ↓lR_s, ↓sT_0, ↓sT_i, ↓sT_r, ↓sT_u, ↓sT_lu, ↓sU_0, ↓sU_i, ↓sU_r, ↓sU_u, ↓ite_bx, bx_T, bx_F, bx_pos, bx_neg, zws_i, zws_r, zws_l, zws_n, zCb_kc, xl_ll, xr_rr, xs_e, xset_e, Option.toList, List.cons_append, List.nil_append, zIb_e, zrng_e, nz_e, if_pos, if_neg, and_true, true_and, or_true, true_or, ite_self, bi_eq0, bi_eq1, bi_1, bi_0, bi_ir, bi_T, bi_F, up_eq, up_ne, ↓reduceIte, reduceIte, Nat.reduceAdd, Nat.reduceLeDiff, Nat.le_refl, Nat.zero_le, not_true_eq_false, not_false_eq_true, ne_eq, Int.reduceEq, Int.reduceLT, Int.reduceLE, Int.reduceAdd, Int.reduceSub, Int.reduceMul, Int.reduceNeg, pT g1, g2, g3, g4, g5, g6, g7, g8, g9, g10, g11, pT g12, zSb_e' g12, g13, s111, e, v1b, lp]
  · simp (disch := first | omega | exact rfl) only [↓u141_0, ↓u141_1, ↓u141_4, ↓u141_5, ↓u141_7, ↓u141_10, ↓u141_11, ↓u141_12, ↓u141_13, ↓u141_16, ↓u141_19, ↓u141_20, ↓u141_21, ↓u141_24, ↓u141_27, ↓u141_28, ↓u141_29, ↓u141_30, ↓u141_31, ↓u141_34, ↓u141_35, ↓u141_36, ↓u141_39, ↓u141_40, ↓u141_43, ↓u141_44, ↓u141_47, ↓u141_50, ↓u141_51, ↓u141_52, ↓u141_53, ↓u141_56, ↓u141_57, ↓u141_58, ↓u141_61, ↓u141_62, ↓u141_65, ↓u141_66, ↓u141_69, ↓u141_72, ↓u141_75, ↓u141_76, ↓u141_79, ↓u141_80, ↓u141_81, ↓u141_82, ↓u141_83, ↓u141_85, ↓u141_87, ↓u141_88, ↓u141_91, ↓u141_94, ↓u141_95, ↓u141_96, ↓u141_97, ↓u141_101, ↓u141_104, ↓u141_105, ↓u141_107, ↓u141_110, ↓u141_113, ↓u141_114, ↓u141_116, ↓u141_119, ↓u141_120, ↓u141_123, ↓u141_126, ↓u141_128, ↓u141_130, ↓u141_133, ↓u141_136, ↓u141_137, ↓u141_140, ↓u141_141, ↓u141_144, ↓u141_146, ↓lI_0, ↓lI_s, ↓lL_0, ↓lL_s, ↓lR_0, ↓lR_s, ↓sT_0, ↓sT_i, ↓sT_r, ↓sT_u, ↓sT_lu, ↓sU_0, ↓sU_i, ↓sU_r, ↓sU_u, ↓ite_bx, bx_T, bx_F, bx_pos, bx_neg, zws_i, zws_r, zws_l, zws_n, zCb_kc, xl_ll, xr_rr, xs_e, xset_e, Option.toList, List.cons_append, List.nil_append, zIb_e, zrng_e, nz_e, if_pos, if_neg, and_true, true_and, or_true, true_or, ite_self, bi_eq0, bi_eq1, bi_1, bi_0, bi_ir, bi_T, bi_F, up_eq, up_ne, ↓reduceIte, reduceIte, Nat.reduceAdd, Nat.reduceLeDiff, Nat.le_refl, Nat.zero_le, not_true_eq_false, not_false_eq_true, ne_eq, Int.reduceEq, Int.reduceLT, Int.reduceLE, Int.reduceAdd, Int.reduceSub, Int.reduceMul, Int.reduceNeg, pT g1, g2, g3, g4, g5, g6, g7, g8, g9, g10, g11, pT g12, zSb_e' g12, g13, s111, e, v1b, lp]
