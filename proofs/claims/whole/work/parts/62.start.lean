/-! the start: both objects are made, and stand to each other -/
set_option maxRecDepth 8000 in
theorem LOK_k {G G2 : XS} {s s2 : ZS} (h : LOK G 1 50 99) (hs : ∀ a, 0 ≤ a ∧ a < 172 → SM G s G2 s2 a) (hn : G.1.1 ≤ G2.1.1) : LOK G2 1 50 99 := by
  have m1 : ∀ a, (1 : Int) ≤ a ∧ a ≤ 1 + 48 → SM G s G2 s2 a := fun a ha => hs a (by omega)
  have m2 : ∀ a, (50 : Int) ≤ a ∧ a ≤ 50 + 48 → SM G s G2 s2 a := fun a ha => hs a (by omega)
  have m3 : ∀ a, (99 : Int) ≤ a ∧ a ≤ 99 + 48 → SM G s G2 s2 a := fun a ha => hs a (by omega)
  have m4 : ∀ a, (148 : Int) ≤ a ∧ a ≤ 158 → SM G s G2 s2 a := fun a ha => hs a (by omega)
  have m5 : ∀ t, (0 : Int) ≤ t ∧ t < 6 → SM G s G2 s2 (160 + 2 * t) := fun a ha => hs _ (by omega)
  have m6 : ∀ t, (0 : Int) ≤ t ∧ t < 6 → SM G s G2 s2 (160 + 2 * t + 1) := fun a ha => hs _ (by omega)
  obtain ⟨l1, l2, l3, l4, l5, l6, l7, l8, l9, l10, l11, l12, l13, l14, l15⟩ := h
  have b0 := hs 0 (by decide)
  have b9 := hs 159 (by decide)
  exact ⟨SM_k b0 l1 hn, (b0.2.2.1 0).trans l2, (b0.2.2.1 1).trans l3, (b0.2.2.1 2).trans l4, (b0.2.2.1 4).trans l5, (b0.2.2.1 5).trans l6, WOK_k l7 m1 hn, WOK_k l8 m2 hn, WOK_k l9 m3 hn, RDR_k l10 m4 hn, SM_k b9 l11 hn, b9.2.1.trans l12, fun t ht => (b9.2.2.1 t).trans (l13 t ht), fun t ht => TOK_k (l14 t ht) (m5 t ht) (m6 t ht) hn, l15⟩
set_option maxRecDepth 8000 in
theorem REL0 {s : ZS} {sx : Int → Int} (h1 : SC s sx) (h2 : NEW s 1) (h3 : NEW s 50) (h4 : s 0 3 = 0) (h5 : s 148 2 = 0) (h6 : ∀ c, 0 ≤ c ∧ c < 6 → NT s (160 + 2 * c)) (h7 : ∀ j, s 172 j = 0) (h8 : s 173 362 = 3) (h9 : ∀ j, j ≠ 362 → s 173 j = 0) (h10 : ∀ j, s 178 j = 0) (h11 : ∀ j, 0 ≤ j ∧ j < 6 → s 177 j = -1) (h12 : ∀ t, 0 ≤ t ∧ t < 6 → ∀ j, s (180 + t) j = 0) : REL s sx := by
  obtain ⟨⟨a1, a2, a3⟩, a4, a5, a6, a7⟩ := h2
  have z1 := h9 363 (by decide)
  have z2 := h9 379 (by decide)
  have z3 := h9 400 (by decide)
  refine ⟨h1, ⟨fun _ _ => 0, 0, 3, 0, ⟨a1, a2, a3, fun i f h => absurd h.1 (by omega)⟩, ⟨h9 360 (by decide), h9 361 (by decide), h8, fun i h => absurd h (by omega), fun i f h => absurd h.1.1 (by omega), fun i h => absurd h (by omega)⟩, fun i h => absurd h (by omega), fun i h => absurd h (by omega), by decide, ⟨a5.trans z1.symm, by rw [z1]; decide, fun r hr => absurd hr (by omega)⟩, ⟨a6.trans z2.symm, by rw [z2]; decide, fun r hr => absurd hr (by omega)⟩, a7.trans z3.symm, by rw [z3]; decide, fun r hr => absurd hr (by omega)⟩, a4, h3.2.1, ⟨h4.trans (h7 3).symm, Or.inl h4⟩, ⟨fun _ => 0, 0, ⟨h5, by decide, fun i h => absurd h (by omega), fun i h => absurd h (by omega)⟩, h7 5, by decide, fun i h => absurd h (by omega), fun i h => absurd h (by omega)⟩, fun k hk => ?_⟩
  obtain ⟨t1, t2, t3⟩ := h6 k hk
  have u1 := h11 k hk
  have u2 := h10 k
  have u3 := h12 k hk
  exact ⟨t1.trans u1.symm, t2.trans u2.symm, by rw [u1]; decide, by rw [u2]; decide, fun _ => u2, fun i hi => ⟨(t3 i).trans (u3 i).symm, by rw [u3 i]; decide⟩⟩
set_option maxRecDepth 8000 in
theorem law_start (L : Nat) (hL : L ≤ 3584) (xf : Nat → Int32) : Wp 1000 zLAW (zent zLAW [zrf zSC] (zh0 L xf)) (fun r h' => r = some (zint 1) ∧ xn h' ≤ 600000 ∧ xz h' ≤ 7302250) := by
  obtain ⟨G0, s0, h0, n0, z0, kd0, l0, v0⟩ : ∃ G0 s0, zh0 L xf = (G0, s0) ∧ G0.1.1 = 0 ∧ G0.1.2 = 0 ∧ G0.2.1 1000000 = 7 ∧ ll G0 1000000 = (L : Int) ∧ ∀ i, s0 1000000 i = (xf i.toNat).toInt := ⟨(zh0 L xf).1, (zh0 L xf).2, rfl, rfl, rfl, by (show (if (1000000 : Int) = zSC then 7 else 0) = 7); exact if_pos rfl, by (show (if (1000000 : Int) = zSC then (L : Int) else 0) = L); exact if_pos rfl, fun i => by (show (if (1000000 : Int) = zSC then (xf i.toNat).toInt else 0) = _); exact if_pos rfl⟩
  have N0 : ((G0.1.1 : Nat) : Int) = 0 := by omega
  have a1 : ((nG G0 5 0 6).1.1 : Int) = 1 := by rw [nG_n]; omega
  have k0 : kc (nG G0 5 0 6) 0 5 := kc_nGy (by omega)
  obtain ⟨G1, s1, ⟨b1, b2⟩, b3, b4, ⟨b5, b6⟩, ⟨b7, b8, b9⟩, e1⟩ := c61 (d := 1000) (G := nG G0 5 0 6) (s := nS s0 0) (by decide) k0 a1
  rw [nG_z] at b2
  have a2 : ((nG G1 6 0 18).1.1 : Int) = 173 := by rw [nG_n]; omega
  obtain ⟨G2, s2, ⟨c1, c2⟩, c3, c4, ⟨d1, ⟨d2, d3⟩, d4, d5, d6⟩, e2⟩ := c110 (d := 1000) (G := nG G1 6 0 18) (s := nS s1 172) (by decide) (kc_nGy (by omega)) a2
  rw [nG_z] at c2
  have T : ∀ a, a ≠ 172 → (a < 172 ∨ 189 ≤ a) → SM G1 s1 G2 s2 a := fun a ha hb => by
    have x1 := SM_n (G := G1) (s := s1) (kd := 6) (sl := 18) (sz := 0) (a := a) (by omega)
    rw [b1] at x1
    exact SM_t x1 (c3 a hb)
  have x0 := SM_n (G := G0) (s := s0) (kd := 5) (sl := 6) (sz := 0) (a := 1000000) (by omega)
  rw [N0] at x0
  have Z : SM G0 s0 G2 s2 1000000 := SM_t (SM_t x0 (b3 1000000 (by decide))) (T 1000000 (by decide) (by decide))
  have nn : G1.1.1 ≤ G2.1.1 := by omega
  have bn : G2.1.1 ≤ 600000 := by omega
  have bz : G2.1.2 ≤ 7302250 := by omega
  have m1 : ∀ a, (1 : Int) ≤ a ∧ a ≤ 1 + 48 → SM G1 s1 G2 s2 a := fun a ha => T a (by omega) (by omega)
  have m2 : ∀ a, (50 : Int) ≤ a ∧ a ≤ 50 + 48 → SM G1 s1 G2 s2 a := fun a ha => T a (by omega) (by omega)
  have L2 : LOK G2 1 50 99 := LOK_k b4 (fun a ha => T a (by omega) (by omega)) nn
  have R : REL s2 (fun i => (xf i.toNat).toInt) := REL0 (fun i => (Z.2.2.2 i).trans (v0 i)) (NEW_k b5 m1) (NEW_k b6 m2) (((T 0 (by decide) (by decide)).2.2.2 3).trans b7) (((T 148 (by decide) (by decide)).2.2.2 2).trans b8) (fun c hc => NT_k (b9 c hc) (T _ (by omega) (by omega)) (T _ (by omega) (by omega))) (fun j => (d1 j).trans (nS_y rfl)) d2 d3 d4 d5 d6
  have hz : G2.2.1 zSC = 7 := Z.1.trans kd0
  have hl : ll G2 zSC = (L : Int) := Z.2.1.trans l0
  obtain ⟨s3, e3⟩ := ll_law (d := 1000) (L := (L : Int)) (by decide) L2 c4 hz hl (by omega) (fun j => i32_ir _) 600 0 s2 (by decide) (by decide) (by omega) R
  have hQ : ∀ Q, Wp 1000 194 (0, [zrf zSC, zun, zun, zun], [], (G0, s0)) Q = Q (some (zint 1)) (G2, s3) := fun Q => by
    have p0 : (0 ≤ (0 : Int)) = True := pT (by decide)
    have p1 : (0 ≤ (172 : Int)) = True := pT (by decide)
    clear Z T m1 m2 x0 R L2 hz hl d1 d2 d3 d4 d5 d6 c3 c4 b3 b4 b5 b6 b7 b8 b9 l0 v0 kd0
    rw [← e3 Q]
    simp (disch := first | omega | exact rfl | (simp only [nG_n, rG_n, mG_n]; omega)) only [↓u194_0, ↓u194_3, ↓u194_4, ↓u194_7, ↓u194_8, ↓u194_11, ↓u194_12, ↓u194_15, ↓u194_16, ↓u194_17, ↓lI_0, ↓lI_s, ↓lL_0, ↓lL_s, ↓lR_0, ↓lR_s, ↓sT_0, ↓sT_i, ↓sT_r, ↓sT_u, ↓sT_lu, ↓sU_0, ↓sU_i, ↓sU_r, ↓sU_u, ↓ite_bx, bx_T, bx_F, bx_pos, bx_neg, zws_i, zws_r, zws_l, zws_n, zCb_kc, xl_ll, xr_rr, xs_e, xset_e, Option.toList, List.cons_append, List.nil_append, zIb_e, zrng_e, nz_e, if_pos, if_neg, and_true, true_and, or_true, true_or, ite_self, bi_eq0, bi_eq1, bi_1, bi_0, bi_ir, bi_T, bi_F, up_eq, up_ne, ↓reduceIte, reduceIte, Nat.reduceAdd, Nat.reduceLeDiff, Nat.le_refl, Nat.zero_le, not_true_eq_false, not_false_eq_true, ne_eq, Int.reduceEq, Int.reduceLT, Int.reduceLE, Int.reduceAdd, Int.reduceSub, Int.reduceMul, Int.reduceNeg, xnew_e, xref_e, xmul_e, xn_e, nG_n, rG_n, mG_n, kc_rG, kc_nG, kc_nGT, kc_mG, kc_mGT, ll_rG, ll_nG, ll_nGy, rr_rGy, rr_rG, rr_nG, lt_x, nS_n, nS_y, N0, b1, p0, p1, e1, e2]
  show Wp 1000 194 (0, [zrf zSC, zun, zun, zun], [], zh0 L xf) _
  rw [h0, hQ]
  exact ⟨rfl, bn, bz⟩
