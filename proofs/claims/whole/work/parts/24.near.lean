/-! nearest: the next by far and number, from the one before -/
def key (B : ZS) (px py i : Int) : Int := fr px py (B i 2) (B i 3) (B i 4) (B i 5) * 64 + i
def ps (B : ZS) (t i : Int) : Prop := B i 8 = 1 ∧ pas (B i 0) (B i 1) (B i 4) (B i 5) t
def nxs (B : ZS) (N px py t kl r : Int) : Prop := (r = -1 ∧ ∀ j, 0 ≤ j ∧ j < N → ps B t j → key B px py j ≤ kl) ∨ ((0 ≤ r ∧ r < N) ∧ ps B t r ∧ kl < key B px py r ∧ ∀ j, 0 ≤ j ∧ j < N → ps B t j → kl < key B px py j → key B px py r ≤ key B px py j)
def nxi (B : ZS) (px py t kl i best bf : Int) : Prop := (best = -1 ∧ ∀ j, 0 ≤ j ∧ j < i → ps B t j → key B px py j ≤ kl) ∨ ((0 ≤ best ∧ best < i) ∧ bf * 64 + best = key B px py best ∧ ps B t best ∧ kl < key B px py best ∧ ∀ j, 0 ≤ j ∧ j < i → ps B t j → kl < key B px py j → key B px py best ≤ key B px py j)
set_option maxRecDepth 8000 in
theorem nxi_k {B : ZS} {px py t kl i best bf : Int} (h : nxi B px py t kl i best bf) (q : ¬ps B t i ∨ key B px py i ≤ kl ∨ (0 ≤ best ∧ bf * 64 + best ≤ key B px py i)) : nxi B px py t kl (i + 1) best bf := by
  rcases h with ⟨h1, h2⟩ | ⟨h1, h2, h3, h4, h5⟩
  · refine Or.inl ⟨h1, fun j hj hp => ?_⟩
    by_cases e : j = i
    · subst e
      rcases q with q | q | q
      · exact absurd hp q
      · exact q
      · omega
    · exact h2 j (by omega) hp
  · refine Or.inr ⟨by omega, h2, h3, h4, fun j hj hp hk => ?_⟩
    by_cases e : j = i
    · subst e
      rcases q with q | q | q
      · exact absurd hp q
      · omega
      · omega
    · exact h5 j (by omega) hp hk
set_option maxRecDepth 8000 in
theorem nxi_n {B : ZS} {px py t kl i best bf f : Int} (h : nxi B px py t kl i best bf) (hi : 0 ≤ i) (hp : ps B t i) (hf : f * 64 + i = key B px py i) (hk : kl < key B px py i) (q : best < 0 ∨ key B px py i ≤ bf * 64 + best) : nxi B px py t kl (i + 1) i f := by
  refine Or.inr ⟨by omega, hf, hp, hk, fun j hj hp2 hk2 => ?_⟩
  by_cases e : j = i
  · rw [e]; omega
  · rcases h with ⟨h1, h2⟩ | ⟨h1, h2, h3, h4, h5⟩
    · have := h2 j (by omega) hp2
      omega
    · have := h5 j (by omega) hp2 hk2
      omega
set_option maxHeartbeats 4000000 in
set_option maxRecDepth 8000 in
theorem l56 {d : Nat} {G : XS} {s : ZS} {W : Int} {B : ZS} {N R T : Int} {px py t last lf kl : Int} (hd : 3 ≤ d) (hw : WOK G W) (hv : CV s W B N R T) (hb : OKB B N) (hn : 0 ≤ N ∧ N ≤ 40 ∧ 0 ≤ R ∧ R ≤ 10 ∧ 0 ≤ T ∧ T ≤ 20000) (hp : 0 ≤ px ∧ px ≤ 127) (hp2 : 0 ≤ py ∧ py ≤ 127) (ht : 0 ≤ t ∧ t ≤ 4) (hl : (last = -1 ∧ lf = -1 ∧ kl = -1) ∨ ((0 ≤ last ∧ last < N) ∧ kl = lf * 64 + last ∧ 0 ≤ lf ∧ lf ≤ 40000)) : ∀ i, 0 ≤ i → i ≤ N → ∀ best bf x9 x10, ir bf → -1 ≤ best ∧ best < 64 → nxi B px py t kl i best bf → ∃ r, nxs B N px py t kl r ∧ ∀ Q, Wp d 56 (42, [zrf W, zint px, zint py, zint t, zint last, zint lf, zint best, zint bf, zint i, x9, x10], [], (G, s)) Q = Q (some (zint r)) (G, s) := by
  have hw' := hw
  obtain ⟨w1, w2, w3, w4, w5, w6, w7, w8, w9, w10, w11, w12, w13, w14, w15, w16, w17, w18, w19, w20, w21, w22, w23, w24, w25⟩ := hw'
  have hv' := hv
  obtain ⟨v1, v2, v3, vB⟩ := hv'
  refine dn (P := fun i => ∀ best bf x9 x10, ir bf → -1 ≤ best ∧ best < 64 → nxi B px py t kl i best bf → ∃ r, nxs B N px py t kl r ∧ ∀ Q, Wp d 56 (42, [zrf W, zint px, zint py, zint t, zint last, zint lf, zint best, zint bf, zint i, x9, x10], [], (G, s)) Q = Q (some (zint r)) (G, s)) ?_ ?_
  · intro best bf x9 x10 hbf hbb hi
    refine ⟨best, ?_, ?_⟩
    · rcases hi with h | ⟨h1, h2, h3⟩
      · exact Or.inl h
      · exact Or.inr ⟨h1, h3⟩
    · intro Q
      rw [u56_42]
      simp (disch := first | omega | exact rfl) only [↓u56_0, ↓u56_2, ↓u56_3, ↓u56_4, ↓u56_7, ↓u56_8, ↓u56_9, ↓u56_12, ↓u56_15, ↓u56_16, ↓u56_19, ↓u56_21, ↓u56_22, ↓u56_23, ↓u56_24, ↓u56_27, ↓u56_30, ↓u56_31, ↓u56_33, ↓u56_34, ↓u56_36, ↓u56_37, ↓u56_39, ↓u56_40, ↓u56_44, ↓u56_45, ↓u56_48, ↓u56_51, ↓u56_52, ↓u56_55, ↓u56_57, ↓u56_58, ↓u56_61, ↓u56_64, ↓u56_65, ↓u56_68, ↓u56_70, ↓u56_71, ↓u56_72, ↓u56_75, ↓u56_78, ↓u56_81, ↓u56_82, ↓u56_85, ↓u56_87, ↓u56_88, ↓u56_89, ↓u56_90, ↓u56_93, ↓u56_95, ↓u56_97, ↓u56_99, ↓u56_102, ↓u56_104, ↓u56_106, ↓u56_109, ↓u56_111, ↓u56_113, ↓u56_116, ↓u56_117, ↓u56_120, ↓u56_121, ↓u56_123, ↓u56_125, ↓u56_128, ↓u56_130, ↓u56_133, ↓u56_135, ↓u56_137, ↓u56_140, ↓u56_142, ↓u56_144, ↓u56_146, ↓u56_148, ↓u56_151, ↓u56_154, ↓u56_156, ↓lI_0, ↓lI_s, ↓lL_0, ↓lL_s, ↓lR_0, ↓lR_s, ↓sT_0, ↓sT_i, ↓sT_r, ↓sT_u, ↓sT_lu, ↓sU_0, ↓sU_i, ↓sU_r, ↓sU_u, ↓ite_bx, bx_T, bx_F, bx_pos, bx_neg, zws_i, zws_r, zws_l, zws_n, zCb_kc, xl_ll, xr_rr, xs_e, xset_e, Option.toList, List.cons_append, List.nil_append, zIb_e, zrng_e, nz_e, if_pos, if_neg, and_true, true_and, or_true, true_or, ite_self, bi_eq0, bi_eq1, bi_1, bi_0, bi_ir, bi_T, bi_F, up_eq, up_ne, ↓reduceIte, reduceIte, Nat.reduceAdd, Nat.reduceLeDiff, Nat.le_refl, Nat.zero_le, not_true_eq_false, not_false_eq_true, ne_eq, Int.reduceEq, Int.reduceLT, Int.reduceLE, Int.reduceAdd, Int.reduceSub, Int.reduceMul, Int.reduceNeg, pT w1, w2, pT w3, w4, w5, w6, v1, v2, v3, vB]
  · intro i h0 h1 ih best bf x9 x10 hbf hbb hi
    have b := hb i ⟨h0, h1⟩
    have k1 := w6 i (by omega)
    have k2 := okb_o (G := G) hv hb ⟨h0, h1⟩
    have fb := fr_b (px := px) (py := py) (x := B i 2) (y := B i 3) (w := B i 4) (h := B i 5) hp hp2 (by omega) (by omega) (by omega) (by omega)
    have ke : fr px py (B i 2) (B i 3) (B i 4) (B i 5) * 64 + i = key B px py i := rfl
    have hi2 : -1 ≤ best ∧ best < i := by rcases hi with hi | hi <;> omega
    have hkk : (kl < key B px py i) ↔ (lf < fr px py (B i 2) (B i 3) (B i 4) (B i 5) ∨ (fr px py (B i 2) (B i 3) (B i 4) (B i 5) = lf ∧ last < i)) := by rcases hl with hl | hl <;> omega
    have hls : (-1 ≤ last ∧ last < 40) ∧ -1 ≤ lf ∧ lf ≤ 40000 := by rcases hl with hl | hl <;> omega
    have e10 : ∀ Q, Call d 10 [zrf (W + 2 + i), zint px, zint py] (G, s) Q = Q (some (zint (fr px py (B i 2) (B i 3) (B i 4) (B i 5)))) (G, s) := fun Q => by
      rw [s10 (show 3 ≤ d by omega) k1 k2 hp hp2, vB i 2 (by omega), vB i 3 (by omega), vB i 4 (by omega), vB i 5 (by omega)]
    have e12 : ∀ Q, Call d 12 [zrf (W + 2 + i), zint t] (G, s) Q = Q (some (zint (bi (pas (B i 0) (B i 1) (B i 4) (B i 5) t)))) (G, s) := fun Q => by
      rw [s12 (show 1 ≤ d by omega) k1 k2 ht, vB i 0 (by omega), vB i 1 (by omega), vB i 4 (by omega), vB i 5 (by omega)]
    have b8 : 0 ≤ B i 8 ∧ B i 8 ≤ 1 := by omega
    clear hl k2 b
    by_cases q : B i 8 = 1
    · rcases Classical.em (pas (B i 0) (B i 1) (B i 4) (B i 5) t) with qp | qp
      · have hpi : ps B t i := ⟨q, qp⟩
        rw [bi_1 qp] at e12
        clear qp
        generalize hf : fr px py (B i 2) (B i 3) (B i 4) (B i 5) = f at fb ke hkk e10
        clear hf
        by_cases qk : kl < key B px py i
        · have qk2 := hkk.1 qk
          by_cases qb : best < 0 ∨ f < bf
          · obtain ⟨r, hr, e⟩ := ih i f (zint f) (zint 1) (by omega) (by omega) (nxi_n hi h0 hpi ke qk (by
              rcases qb with qb | qb
              · exact Or.inl qb
              · right; omega))
            refine ⟨r, hr, fun Q => ?_⟩
            clear hi ke hkk ih qk hr
            rw [u56_42]
            rcases qk2 with qk2 | qk2
            · by_cases qb2 : best < 0
              · simp (disch := first | omega | exact rfl) only [↓u56_0, ↓u56_2, ↓u56_3, ↓u56_4, ↓u56_7, ↓u56_8, ↓u56_9, ↓u56_12, ↓u56_15, ↓u56_16, ↓u56_19, ↓u56_21, ↓u56_22, ↓u56_23, ↓u56_24, ↓u56_27, ↓u56_30, ↓u56_31, ↓u56_33, ↓u56_34, ↓u56_36, ↓u56_37, ↓u56_39, ↓u56_40, ↓u56_44, ↓u56_45, ↓u56_48, ↓u56_51, ↓u56_52, ↓u56_55, ↓u56_57, ↓u56_58, ↓u56_61, ↓u56_64, ↓u56_65, ↓u56_68, ↓u56_70, ↓u56_71, ↓u56_72, ↓u56_75, ↓u56_78, ↓u56_81, ↓u56_82, ↓u56_85, ↓u56_87, ↓u56_88, ↓u56_89, ↓u56_90, ↓u56_93, ↓u56_95, ↓u56_97, ↓u56_99, ↓u56_102, ↓u56_104, ↓u56_106, ↓u56_109, ↓u56_111, ↓u56_113, ↓u56_116, ↓u56_117, ↓u56_120, ↓u56_121, ↓u56_123, ↓u56_125, ↓u56_128, ↓u56_130, ↓u56_133, ↓u56_135, ↓u56_137, ↓u56_140, ↓u56_142, ↓u56_144, ↓u56_146, ↓u56_148, ↓u56_151, ↓u56_154, ↓u56_156, ↓lI_0, ↓lI_s, ↓lL_0, ↓lL_s, ↓lR_0, ↓lR_s, ↓sT_0, ↓sT_i, ↓sT_r, ↓sT_u, ↓sT_lu, ↓sU_0, ↓sU_i, ↓sU_r, ↓sU_u, ↓ite_bx, bx_T, bx_F, bx_pos, bx_neg, zws_i, zws_r, zws_l, zws_n, zCb_kc, xl_ll, xr_rr, xs_e, xset_e, Option.toList, List.cons_append, List.nil_append, zIb_e, zrng_e, nz_e, if_pos, if_neg, and_true, true_and, or_true, true_or, ite_self, bi_eq0, bi_eq1, bi_1, bi_0, bi_ir, bi_T, bi_F, up_eq, up_ne, ↓reduceIte, reduceIte, Nat.reduceAdd, Nat.reduceLeDiff, Nat.le_refl, Nat.zero_le, not_true_eq_false, not_false_eq_true, ne_eq, Int.reduceEq, Int.reduceLT, Int.reduceLE, Int.reduceAdd, Int.reduceSub, Int.reduceMul, Int.reduceNeg, pT k1, pT w1, w2, pT w3, w4, w5, w6, v1, v2, v3, vB, e, e10, e12]
              · have qb3 : f < bf := by omega
                clear qb
                simp (disch := first | omega | exact rfl) only [↓u56_0, ↓u56_2, ↓u56_3, ↓u56_4, ↓u56_7, ↓u56_8, ↓u56_9, ↓u56_12, ↓u56_15, ↓u56_16, ↓u56_19, ↓u56_21, ↓u56_22, ↓u56_23, ↓u56_24, ↓u56_27, ↓u56_30, ↓u56_31, ↓u56_33, ↓u56_34, ↓u56_36, ↓u56_37, ↓u56_39, ↓u56_40, ↓u56_44, ↓u56_45, ↓u56_48, ↓u56_51, ↓u56_52, ↓u56_55, ↓u56_57, ↓u56_58, ↓u56_61, ↓u56_64, ↓u56_65, ↓u56_68, ↓u56_70, ↓u56_71, ↓u56_72, ↓u56_75, ↓u56_78, ↓u56_81, ↓u56_82, ↓u56_85, ↓u56_87, ↓u56_88, ↓u56_89, ↓u56_90, ↓u56_93, ↓u56_95, ↓u56_97, ↓u56_99, ↓u56_102, ↓u56_104, ↓u56_106, ↓u56_109, ↓u56_111, ↓u56_113, ↓u56_116, ↓u56_117, ↓u56_120, ↓u56_121, ↓u56_123, ↓u56_125, ↓u56_128, ↓u56_130, ↓u56_133, ↓u56_135, ↓u56_137, ↓u56_140, ↓u56_142, ↓u56_144, ↓u56_146, ↓u56_148, ↓u56_151, ↓u56_154, ↓u56_156, ↓lI_0, ↓lI_s, ↓lL_0, ↓lL_s, ↓lR_0, ↓lR_s, ↓sT_0, ↓sT_i, ↓sT_r, ↓sT_u, ↓sT_lu, ↓sU_0, ↓sU_i, ↓sU_r, ↓sU_u, ↓ite_bx, bx_T, bx_F, bx_pos, bx_neg, zws_i, zws_r, zws_l, zws_n, zCb_kc, xl_ll, xr_rr, xs_e, xset_e, Option.toList, List.cons_append, List.nil_append, zIb_e, zrng_e, nz_e, if_pos, if_neg, and_true, true_and, or_true, true_or, ite_self, bi_eq0, bi_eq1, bi_1, bi_0, bi_ir, bi_T, bi_F, up_eq, up_ne, ↓reduceIte, reduceIte, Nat.reduceAdd, Nat.reduceLeDiff, Nat.le_refl, Nat.zero_le, not_true_eq_false, not_false_eq_true, ne_eq, Int.reduceEq, Int.reduceLT, Int.reduceLE, Int.reduceAdd, Int.reduceSub, Int.reduceMul, Int.reduceNeg, pT k1, pT w1, w2, pT w3, w4, w5, w6, v1, v2, v3, vB, e, e10, e12]
            · by_cases qb2 : best < 0
              · simp (disch := first | omega | exact rfl) only [↓u56_0, ↓u56_2, ↓u56_3, ↓u56_4, ↓u56_7, ↓u56_8, ↓u56_9, ↓u56_12, ↓u56_15, ↓u56_16, ↓u56_19, ↓u56_21, ↓u56_22, ↓u56_23, ↓u56_24, ↓u56_27, ↓u56_30, ↓u56_31, ↓u56_33, ↓u56_34, ↓u56_36, ↓u56_37, ↓u56_39, ↓u56_40, ↓u56_44, ↓u56_45, ↓u56_48, ↓u56_51, ↓u56_52, ↓u56_55, ↓u56_57, ↓u56_58, ↓u56_61, ↓u56_64, ↓u56_65, ↓u56_68, ↓u56_70, ↓u56_71, ↓u56_72, ↓u56_75, ↓u56_78, ↓u56_81, ↓u56_82, ↓u56_85, ↓u56_87, ↓u56_88, ↓u56_89, ↓u56_90, ↓u56_93, ↓u56_95, ↓u56_97, ↓u56_99, ↓u56_102, ↓u56_104, ↓u56_106, ↓u56_109, ↓u56_111, ↓u56_113, ↓u56_116, ↓u56_117, ↓u56_120, ↓u56_121, ↓u56_123, ↓u56_125, ↓u56_128, ↓u56_130, ↓u56_133, ↓u56_135, ↓u56_137, ↓u56_140, ↓u56_142, ↓u56_144, ↓u56_146, ↓u56_148, ↓u56_151, ↓u56_154, ↓u56_156, ↓lI_0, ↓lI_s, ↓lL_0, ↓lL_s, ↓lR_0, ↓lR_s, ↓sT_0, ↓sT_i, ↓sT_r, ↓sT_u, ↓sT_lu, ↓sU_0, ↓sU_i, ↓sU_r, ↓sU_u, ↓ite_bx, bx_T, bx_F, bx_pos, bx_neg, zws_i, zws_r, zws_l, zws_n, zCb_kc, xl_ll, xr_rr, xs_e, xset_e, Option.toList, List.cons_append, List.nil_append, zIb_e, zrng_e, nz_e, if_pos, if_neg, and_true, true_and, or_true, true_or, ite_self, bi_eq0, bi_eq1, bi_1, bi_0, bi_ir, bi_T, bi_F, up_eq, up_ne, ↓reduceIte, reduceIte, Nat.reduceAdd, Nat.reduceLeDiff, Nat.le_refl, Nat.zero_le, not_true_eq_false, not_false_eq_true, ne_eq, Int.reduceEq, Int.reduceLT, Int.reduceLE, Int.reduceAdd, Int.reduceSub, Int.reduceMul, Int.reduceNeg, pT k1, pT w1, w2, pT w3, w4, w5, w6, v1, v2, v3, vB, e, e10, e12]
              · have qb3 : f < bf := by omega
                clear qb
                simp (disch := first | omega | exact rfl) only [↓u56_0, ↓u56_2, ↓u56_3, ↓u56_4, ↓u56_7, ↓u56_8, ↓u56_9, ↓u56_12, ↓u56_15, ↓u56_16, ↓u56_19, ↓u56_21, ↓u56_22, ↓u56_23, ↓u56_24, ↓u56_27, ↓u56_30, ↓u56_31, ↓u56_33, ↓u56_34, ↓u56_36, ↓u56_37, ↓u56_39, ↓u56_40, ↓u56_44, ↓u56_45, ↓u56_48, ↓u56_51, ↓u56_52, ↓u56_55, ↓u56_57, ↓u56_58, ↓u56_61, ↓u56_64, ↓u56_65, ↓u56_68, ↓u56_70, ↓u56_71, ↓u56_72, ↓u56_75, ↓u56_78, ↓u56_81, ↓u56_82, ↓u56_85, ↓u56_87, ↓u56_88, ↓u56_89, ↓u56_90, ↓u56_93, ↓u56_95, ↓u56_97, ↓u56_99, ↓u56_102, ↓u56_104, ↓u56_106, ↓u56_109, ↓u56_111, ↓u56_113, ↓u56_116, ↓u56_117, ↓u56_120, ↓u56_121, ↓u56_123, ↓u56_125, ↓u56_128, ↓u56_130, ↓u56_133, ↓u56_135, ↓u56_137, ↓u56_140, ↓u56_142, ↓u56_144, ↓u56_146, ↓u56_148, ↓u56_151, ↓u56_154, ↓u56_156, ↓lI_0, ↓lI_s, ↓lL_0, ↓lL_s, ↓lR_0, ↓lR_s, ↓sT_0, ↓sT_i, ↓sT_r, ↓sT_u, ↓sT_lu, ↓sU_0, ↓sU_i, ↓sU_r, ↓sU_u, ↓ite_bx, bx_T, bx_F, bx_pos, bx_neg, zws_i, zws_r, zws_l, zws_n, zCb_kc, xl_ll, xr_rr, xs_e, xset_e, Option.toList, List.cons_append, List.nil_append, zIb_e, zrng_e, nz_e, if_pos, if_neg, and_true, true_and, or_true, true_or, ite_self, bi_eq0, bi_eq1, bi_1, bi_0, bi_ir, bi_T, bi_F, up_eq, up_ne, ↓reduceIte, reduceIte, Nat.reduceAdd, Nat.reduceLeDiff, Nat.le_refl, Nat.zero_le, not_true_eq_false, not_false_eq_true, ne_eq, Int.reduceEq, Int.reduceLT, Int.reduceLE, Int.reduceAdd, Int.reduceSub, Int.reduceMul, Int.reduceNeg, pT k1, pT w1, w2, pT w3, w4, w5, w6, v1, v2, v3, vB, e, e10, e12]
          · obtain ⟨r, hr, e⟩ := ih best bf (zint f) (zint 1) hbf hbb (nxi_k hi (Or.inr (Or.inr (by
              rcases hi with hi | hi
              · omega
              · have := hi.1; omega))))
            refine ⟨r, hr, fun Q => ?_⟩
            have qb3 : 0 ≤ best ∧ bf ≤ f := by omega
            clear hi ke hkk ih qk hr qb
            rw [u56_42]
            rcases qk2 with qk2 | qk2
            · simp (disch := first | omega | exact rfl) only [↓u56_0, ↓u56_2, ↓u56_3, ↓u56_4, ↓u56_7, ↓u56_8, ↓u56_9, ↓u56_12, ↓u56_15, ↓u56_16, ↓u56_19, ↓u56_21, ↓u56_22, ↓u56_23, ↓u56_24, ↓u56_27, ↓u56_30, ↓u56_31, ↓u56_33, ↓u56_34, ↓u56_36, ↓u56_37, ↓u56_39, ↓u56_40, ↓u56_44, ↓u56_45, ↓u56_48, ↓u56_51, ↓u56_52, ↓u56_55, ↓u56_57, ↓u56_58, ↓u56_61, ↓u56_64, ↓u56_65, ↓u56_68, ↓u56_70, ↓u56_71, ↓u56_72, ↓u56_75, ↓u56_78, ↓u56_81, ↓u56_82, ↓u56_85, ↓u56_87, ↓u56_88, ↓u56_89, ↓u56_90, ↓u56_93, ↓u56_95, ↓u56_97, ↓u56_99, ↓u56_102, ↓u56_104, ↓u56_106, ↓u56_109, ↓u56_111, ↓u56_113, ↓u56_116, ↓u56_117, ↓u56_120, ↓u56_121, ↓u56_123, ↓u56_125, ↓u56_128, ↓u56_130, ↓u56_133, ↓u56_135, ↓u56_137, ↓u56_140, ↓u56_142, ↓u56_144, ↓u56_146, ↓u56_148, ↓u56_151, ↓u56_154, ↓u56_156, ↓lI_0, ↓lI_s, ↓lL_0, ↓lL_s, ↓lR_0, ↓lR_s, ↓sT_0, ↓sT_i, ↓sT_r, ↓sT_u, ↓sT_lu, ↓sU_0, ↓sU_i, ↓sU_r, ↓sU_u, ↓ite_bx, bx_T, bx_F, bx_pos, bx_neg, zws_i, zws_r, zws_l, zws_n, zCb_kc, xl_ll, xr_rr, xs_e, xset_e, Option.toList, List.cons_append, List.nil_append, zIb_e, zrng_e, nz_e, if_pos, if_neg, and_true, true_and, or_true, true_or, ite_self, bi_eq0, bi_eq1, bi_1, bi_0, bi_ir, bi_T, bi_F, up_eq, up_ne, ↓reduceIte, reduceIte, Nat.reduceAdd, Nat.reduceLeDiff, Nat.le_refl, Nat.zero_le, not_true_eq_false, not_false_eq_true, ne_eq, Int.reduceEq, Int.reduceLT, Int.reduceLE, Int.reduceAdd, Int.reduceSub, Int.reduceMul, Int.reduceNeg, pT k1, pT w1, w2, pT w3, w4, w5, w6, v1, v2, v3, vB, e, e10, e12]
            · simp (disch := first | omega | exact rfl) only [↓u56_0, ↓u56_2, ↓u56_3, ↓u56_4, ↓u56_7, ↓u56_8, ↓u56_9, ↓u56_12, ↓u56_15, ↓u56_16, ↓u56_19, ↓u56_21, ↓u56_22, ↓u56_23, ↓u56_24, ↓u56_27, ↓u56_30, ↓u56_31, ↓u56_33, ↓u56_34, ↓u56_36, ↓u56_37, ↓u56_39, ↓u56_40, ↓u56_44, ↓u56_45, ↓u56_48, ↓u56_51, ↓u56_52, ↓u56_55, ↓u56_57, ↓u56_58, ↓u56_61, ↓u56_64, ↓u56_65, ↓u56_68, ↓u56_70, ↓u56_71, ↓u56_72, ↓u56_75, ↓u56_78, ↓u56_81, ↓u56_82, ↓u56_85, ↓u56_87, ↓u56_88, ↓u56_89, ↓u56_90, ↓u56_93, ↓u56_95, ↓u56_97, ↓u56_99, ↓u56_102, ↓u56_104, ↓u56_106, ↓u56_109, ↓u56_111, ↓u56_113, ↓u56_116, ↓u56_117, ↓u56_120, ↓u56_121, ↓u56_123, ↓u56_125, ↓u56_128, ↓u56_130, ↓u56_133, ↓u56_135, ↓u56_137, ↓u56_140, ↓u56_142, ↓u56_144, ↓u56_146, ↓u56_148, ↓u56_151, ↓u56_154, ↓u56_156, ↓lI_0, ↓lI_s, ↓lL_0, ↓lL_s, ↓lR_0, ↓lR_s, ↓sT_0, ↓sT_i, ↓sT_r, ↓sT_u, ↓sT_lu, ↓sU_0, ↓sU_i, ↓sU_r, ↓sU_u, ↓ite_bx, bx_T, bx_F, bx_pos, bx_neg, zws_i, zws_r, zws_l, zws_n, zCb_kc, xl_ll, xr_rr, xs_e, xset_e, Option.toList, List.cons_append, List.nil_append, zIb_e, zrng_e, nz_e, if_pos, if_neg, and_true, true_and, or_true, true_or, ite_self, bi_eq0, bi_eq1, bi_1, bi_0, bi_ir, bi_T, bi_F, up_eq, up_ne, ↓reduceIte, reduceIte, Nat.reduceAdd, Nat.reduceLeDiff, Nat.le_refl, Nat.zero_le, not_true_eq_false, not_false_eq_true, ne_eq, Int.reduceEq, Int.reduceLT, Int.reduceLE, Int.reduceAdd, Int.reduceSub, Int.reduceMul, Int.reduceNeg, pT k1, pT w1, w2, pT w3, w4, w5, w6, v1, v2, v3, vB, e, e10, e12]
        · obtain ⟨r, hr, e⟩ := ih best bf (zint f) (zint 0) hbf hbb (nxi_k hi (Or.inr (Or.inl (by omega))))
          refine ⟨r, hr, fun Q => ?_⟩
          have qk2 : f < lf ∨ (f = lf ∧ i ≤ last) := by
            have q3 := fun c => qk (hkk.2 c)
            omega
          clear hi ke hkk ih qk hr
          rw [u56_42]
          rcases qk2 with qk2 | qk2
          · simp (disch := first | omega | exact rfl) only [↓u56_0, ↓u56_2, ↓u56_3, ↓u56_4, ↓u56_7, ↓u56_8, ↓u56_9, ↓u56_12, ↓u56_15, ↓u56_16, ↓u56_19, ↓u56_21, ↓u56_22, ↓u56_23, ↓u56_24, ↓u56_27, ↓u56_30, ↓u56_31, ↓u56_33, ↓u56_34, ↓u56_36, ↓u56_37, ↓u56_39, ↓u56_40, ↓u56_44, ↓u56_45, ↓u56_48, ↓u56_51, ↓u56_52, ↓u56_55, ↓u56_57, ↓u56_58, ↓u56_61, ↓u56_64, ↓u56_65, ↓u56_68, ↓u56_70, ↓u56_71, ↓u56_72, ↓u56_75, ↓u56_78, ↓u56_81, ↓u56_82, ↓u56_85, ↓u56_87, ↓u56_88, ↓u56_89, ↓u56_90, ↓u56_93, ↓u56_95, ↓u56_97, ↓u56_99, ↓u56_102, ↓u56_104, ↓u56_106, ↓u56_109, ↓u56_111, ↓u56_113, ↓u56_116, ↓u56_117, ↓u56_120, ↓u56_121, ↓u56_123, ↓u56_125, ↓u56_128, ↓u56_130, ↓u56_133, ↓u56_135, ↓u56_137, ↓u56_140, ↓u56_142, ↓u56_144, ↓u56_146, ↓u56_148, ↓u56_151, ↓u56_154, ↓u56_156, ↓lI_0, ↓lI_s, ↓lL_0, ↓lL_s, ↓lR_0, ↓lR_s, ↓sT_0, ↓sT_i, ↓sT_r, ↓sT_u, ↓sT_lu, ↓sU_0, ↓sU_i, ↓sU_r, ↓sU_u, ↓ite_bx, bx_T, bx_F, bx_pos, bx_neg, zws_i, zws_r, zws_l, zws_n, zCb_kc, xl_ll, xr_rr, xs_e, xset_e, Option.toList, List.cons_append, List.nil_append, zIb_e, zrng_e, nz_e, if_pos, if_neg, and_true, true_and, or_true, true_or, ite_self, bi_eq0, bi_eq1, bi_1, bi_0, bi_ir, bi_T, bi_F, up_eq, up_ne, ↓reduceIte, reduceIte, Nat.reduceAdd, Nat.reduceLeDiff, Nat.le_refl, Nat.zero_le, not_true_eq_false, not_false_eq_true, ne_eq, Int.reduceEq, Int.reduceLT, Int.reduceLE, Int.reduceAdd, Int.reduceSub, Int.reduceMul, Int.reduceNeg, pT k1, pT w1, w2, pT w3, w4, w5, w6, v1, v2, v3, vB, e, e10, e12]
          · simp (disch := first | omega | exact rfl) only [↓u56_0, ↓u56_2, ↓u56_3, ↓u56_4, ↓u56_7, ↓u56_8, ↓u56_9, ↓u56_12, ↓u56_15, ↓u56_16, ↓u56_19, ↓u56_21, ↓u56_22, ↓u56_23, ↓u56_24, ↓u56_27, ↓u56_30, ↓u56_31, ↓u56_33, ↓u56_34, ↓u56_36, ↓u56_37, ↓u56_39, ↓u56_40, ↓u56_44, ↓u56_45, ↓u56_48, ↓u56_51, ↓u56_52, ↓u56_55, ↓u56_57, ↓u56_58, ↓u56_61, ↓u56_64, ↓u56_65, ↓u56_68, ↓u56_70, ↓u56_71, ↓u56_72, ↓u56_75, ↓u56_78, ↓u56_81, ↓u56_82, ↓u56_85, ↓u56_87, ↓u56_88, ↓u56_89, ↓u56_90, ↓u56_93, ↓u56_95, ↓u56_97, ↓u56_99, ↓u56_102, ↓u56_104, ↓u56_106, ↓u56_109, ↓u56_111, ↓u56_113, ↓u56_116, ↓u56_117, ↓u56_120, ↓u56_121, ↓u56_123, ↓u56_125, ↓u56_128, ↓u56_130, ↓u56_133, ↓u56_135, ↓u56_137, ↓u56_140, ↓u56_142, ↓u56_144, ↓u56_146, ↓u56_148, ↓u56_151, ↓u56_154, ↓u56_156, ↓lI_0, ↓lI_s, ↓lL_0, ↓lL_s, ↓lR_0, ↓lR_s, ↓sT_0, ↓sT_i, ↓sT_r, ↓sT_u, ↓sT_lu, ↓sU_0, ↓sU_i, ↓sU_r, ↓sU_u, ↓ite_bx, bx_T, bx_F, bx_pos, bx_neg, zws_i, zws_r, zws_l, zws_n, zCb_kc, xl_ll, xr_rr, xs_e, xset_e, Option.toList, List.cons_append, List.nil_append, zIb_e, zrng_e, nz_e, if_pos, if_neg, and_true, true_and, or_true, true_or, ite_self, bi_eq0, bi_eq1, bi_1, bi_0, bi_ir, bi_T, bi_F, up_eq, up_ne, ↓reduceIte, reduceIte, Nat.reduceAdd, Nat.reduceLeDiff, Nat.le_refl, Nat.zero_le, not_true_eq_false, not_false_eq_true, ne_eq, Int.reduceEq, Int.reduceLT, Int.reduceLE, Int.reduceAdd, Int.reduceSub, Int.reduceMul, Int.reduceNeg, pT k1, pT w1, w2, pT w3, w4, w5, w6, v1, v2, v3, vB, e, e10, e12]
      · obtain ⟨r, hr, e⟩ := ih best bf x9 x10 hbf hbb (nxi_k hi (Or.inl (fun h => qp h.2)))
        refine ⟨r, hr, fun Q => ?_⟩
        rw [bi_0 qp] at e12
        clear hi ke hkk ih hr qp
        rw [u56_42]
        simp (disch := first | omega | exact rfl) only [↓u56_0, ↓u56_2, ↓u56_3, ↓u56_4, ↓u56_7, ↓u56_8, ↓u56_9, ↓u56_12, ↓u56_15, ↓u56_16, ↓u56_19, ↓u56_21, ↓u56_22, ↓u56_23, ↓u56_24, ↓u56_27, ↓u56_30, ↓u56_31, ↓u56_33, ↓u56_34, ↓u56_36, ↓u56_37, ↓u56_39, ↓u56_40, ↓u56_44, ↓u56_45, ↓u56_48, ↓u56_51, ↓u56_52, ↓u56_55, ↓u56_57, ↓u56_58, ↓u56_61, ↓u56_64, ↓u56_65, ↓u56_68, ↓u56_70, ↓u56_71, ↓u56_72, ↓u56_75, ↓u56_78, ↓u56_81, ↓u56_82, ↓u56_85, ↓u56_87, ↓u56_88, ↓u56_89, ↓u56_90, ↓u56_93, ↓u56_95, ↓u56_97, ↓u56_99, ↓u56_102, ↓u56_104, ↓u56_106, ↓u56_109, ↓u56_111, ↓u56_113, ↓u56_116, ↓u56_117, ↓u56_120, ↓u56_121, ↓u56_123, ↓u56_125, ↓u56_128, ↓u56_130, ↓u56_133, ↓u56_135, ↓u56_137, ↓u56_140, ↓u56_142, ↓u56_144, ↓u56_146, ↓u56_148, ↓u56_151, ↓u56_154, ↓u56_156, ↓lI_0, ↓lI_s, ↓lL_0, ↓lL_s, ↓lR_0, ↓lR_s, ↓sT_0, ↓sT_i, ↓sT_r, ↓sT_u, ↓sT_lu, ↓sU_0, ↓sU_i, ↓sU_r, ↓sU_u, ↓ite_bx, bx_T, bx_F, bx_pos, bx_neg, zws_i, zws_r, zws_l, zws_n, zCb_kc, xl_ll, xr_rr, xs_e, xset_e, Option.toList, List.cons_append, List.nil_append, zIb_e, zrng_e, nz_e, if_pos, if_neg, and_true, true_and, or_true, true_or, ite_self, bi_eq0, bi_eq1, bi_1, bi_0, bi_ir, bi_T, bi_F, up_eq, up_ne, ↓reduceIte, reduceIte, Nat.reduceAdd, Nat.reduceLeDiff, Nat.le_refl, Nat.zero_le, not_true_eq_false, not_false_eq_true, ne_eq, Int.reduceEq, Int.reduceLT, Int.reduceLE, Int.reduceAdd, Int.reduceSub, Int.reduceMul, Int.reduceNeg, pT k1, pT w1, w2, pT w3, w4, w5, w6, v1, v2, v3, vB, e, e10, e12]
    · obtain ⟨r, hr, e⟩ := ih best bf x9 x10 hbf hbb (nxi_k hi (Or.inl (fun h => q h.1)))
      refine ⟨r, hr, fun Q => ?_⟩
      clear hi ke hkk ih hr
      rw [u56_42]
      simp (disch := first | omega | exact rfl) only [↓u56_0, ↓u56_2, ↓u56_3, ↓u56_4, ↓u56_7, ↓u56_8, ↓u56_9, ↓u56_12, ↓u56_15, ↓u56_16, ↓u56_19, ↓u56_21, ↓u56_22, ↓u56_23, ↓u56_24, ↓u56_27, ↓u56_30, ↓u56_31, ↓u56_33, ↓u56_34, ↓u56_36, ↓u56_37, ↓u56_39, ↓u56_40, ↓u56_44, ↓u56_45, ↓u56_48, ↓u56_51, ↓u56_52, ↓u56_55, ↓u56_57, ↓u56_58, ↓u56_61, ↓u56_64, ↓u56_65, ↓u56_68, ↓u56_70, ↓u56_71, ↓u56_72, ↓u56_75, ↓u56_78, ↓u56_81, ↓u56_82, ↓u56_85, ↓u56_87, ↓u56_88, ↓u56_89, ↓u56_90, ↓u56_93, ↓u56_95, ↓u56_97, ↓u56_99, ↓u56_102, ↓u56_104, ↓u56_106, ↓u56_109, ↓u56_111, ↓u56_113, ↓u56_116, ↓u56_117, ↓u56_120, ↓u56_121, ↓u56_123, ↓u56_125, ↓u56_128, ↓u56_130, ↓u56_133, ↓u56_135, ↓u56_137, ↓u56_140, ↓u56_142, ↓u56_144, ↓u56_146, ↓u56_148, ↓u56_151, ↓u56_154, ↓u56_156, ↓lI_0, ↓lI_s, ↓lL_0, ↓lL_s, ↓lR_0, ↓lR_s, ↓sT_0, ↓sT_i, ↓sT_r, ↓sT_u, ↓sT_lu, ↓sU_0, ↓sU_i, ↓sU_r, ↓sU_u, ↓ite_bx, bx_T, bx_F, bx_pos, bx_neg, zws_i, zws_r, zws_l, zws_n, zCb_kc, xl_ll, xr_rr, xs_e, xset_e, Option.toList, List.cons_append, List.nil_append, zIb_e, zrng_e, nz_e, if_pos, if_neg, and_true, true_and, or_true, true_or, ite_self, bi_eq0, bi_eq1, bi_1, bi_0, bi_ir, bi_T, bi_F, up_eq, up_ne, ↓reduceIte, reduceIte, Nat.reduceAdd, Nat.reduceLeDiff, Nat.le_refl, Nat.zero_le, not_true_eq_false, not_false_eq_true, ne_eq, Int.reduceEq, Int.reduceLT, Int.reduceLE, Int.reduceAdd, Int.reduceSub, Int.reduceMul, Int.reduceNeg, pT k1, pT w1, w2, pT w3, w4, w5, w6, v1, v2, v3, vB, e, e10, e12]
set_option maxRecDepth 8000 in
theorem s56 {d : Nat} {G : XS} {s : ZS} {W : Int} {B : ZS} {N R T : Int} {px py t last kl : Int} (hd : 4 ≤ d) (hw : WOK G W) (hv : CV s W B N R T) (hb : OKB B N) (hn : 0 ≤ N ∧ N ≤ 40 ∧ 0 ≤ R ∧ R ≤ 10 ∧ 0 ≤ T ∧ T ≤ 20000) (hp : 0 ≤ px ∧ px ≤ 127) (hp2 : 0 ≤ py ∧ py ≤ 127) (ht : 0 ≤ t ∧ t ≤ 4) (hl : (last = -1 ∧ kl = -1) ∨ ((0 ≤ last ∧ last < N) ∧ kl = key B px py last)) : ∃ r, nxs B N px py t kl r ∧ ∀ Q, Call d 56 [zrf W, zint px, zint py, zint t, zint last] (G, s) Q = Q (some (zint r)) (G, s) := by
  have hw' := hw
  obtain ⟨w1, w2, w3, w4, w5, w6, w7, w8, w9, w10, w11, w12, w13, w14, w15, w16, w17, w18, w19, w20, w21, w22, w23, w24, w25⟩ := hw'
  have hv' := hv
  obtain ⟨v1, v2, v3, vB⟩ := hv'
  have i0 : nxi B px py t kl 0 (-1) 0 := Or.inl ⟨rfl, fun j hj => by omega⟩
  by_cases q : last = -1
  · obtain ⟨r, hr, e⟩ := l56 (d := d - 1) (last := last) (lf := -1) (kl := kl) (show 3 ≤ d - 1 by omega) hw hv hb hn hp hp2 ht (by omega) 0 (Int.le_refl 0) hn.1 (-1) 0 zun zun (by omega) (by omega) i0
    refine ⟨r, hr, fun Q => ?_⟩
    rw [e56 (show 1 ≤ d by omega)]
    simp (disch := first | omega | exact rfl) only [↓u56_0, ↓u56_2, ↓u56_3, ↓u56_4, ↓u56_7, ↓u56_8, ↓u56_9, ↓u56_12, ↓u56_15, ↓u56_16, ↓u56_19, ↓u56_21, ↓u56_22, ↓u56_23, ↓u56_24, ↓u56_27, ↓u56_30, ↓u56_31, ↓u56_33, ↓u56_34, ↓u56_36, ↓u56_37, ↓u56_39, ↓u56_40, ↓u56_44, ↓u56_45, ↓u56_48, ↓u56_51, ↓u56_52, ↓u56_55, ↓u56_57, ↓u56_58, ↓u56_61, ↓u56_64, ↓u56_65, ↓u56_68, ↓u56_70, ↓u56_71, ↓u56_72, ↓u56_75, ↓u56_78, ↓u56_81, ↓u56_82, ↓u56_85, ↓u56_87, ↓u56_88, ↓u56_89, ↓u56_90, ↓u56_93, ↓u56_95, ↓u56_97, ↓u56_99, ↓u56_102, ↓u56_104, ↓u56_106, ↓u56_109, ↓u56_111, ↓u56_113, ↓u56_116, ↓u56_117, ↓u56_120, ↓u56_121, ↓u56_123, ↓u56_125, ↓u56_128, ↓u56_130, ↓u56_133, ↓u56_135, ↓u56_137, ↓u56_140, ↓u56_142, ↓u56_144, ↓u56_146, ↓u56_148, ↓u56_151, ↓u56_154, ↓u56_156, ↓lI_0, ↓lI_s, ↓lL_0, ↓lL_s, ↓lR_0, ↓lR_s, ↓sT_0, ↓sT_i, ↓sT_r, ↓sT_u, ↓sT_lu, ↓sU_0, ↓sU_i, ↓sU_r, ↓sU_u, ↓ite_bx, bx_T, bx_F, bx_pos, bx_neg, zws_i, zws_r, zws_l, zws_n, zCb_kc, xl_ll, xr_rr, xs_e, xset_e, Option.toList, List.cons_append, List.nil_append, zIb_e, zrng_e, nz_e, if_pos, if_neg, and_true, true_and, or_true, true_or, ite_self, bi_eq0, bi_eq1, bi_1, bi_0, bi_ir, bi_T, bi_F, up_eq, up_ne, ↓reduceIte, reduceIte, Nat.reduceAdd, Nat.reduceLeDiff, Nat.le_refl, Nat.zero_le, not_true_eq_false, not_false_eq_true, ne_eq, Int.reduceEq, Int.reduceLT, Int.reduceLE, Int.reduceAdd, Int.reduceSub, Int.reduceMul, Int.reduceNeg, pT w1, w2, pT w3, w4, w5, w6, v1, v2, v3, vB, e, s103]
  · have hl' : 0 ≤ last ∧ last < N := by omega
    have b := hb last hl'
    have k1 := w6 last (by omega)
    have k2 := okb_o (G := G) hv hb hl'
    have fb := fr_b (px := px) (py := py) (x := B last 2) (y := B last 3) (w := B last 4) (h := B last 5) hp hp2 (by omega) (by omega) (by omega) (by omega)
    have ke : fr px py (B last 2) (B last 3) (B last 4) (B last 5) * 64 + last = key B px py last := rfl
    obtain ⟨r, hr, e⟩ := l56 (d := d - 1) (last := last) (lf := fr px py (B last 2) (B last 3) (B last 4) (B last 5)) (kl := kl) (show 3 ≤ d - 1 by omega) hw hv hb hn hp hp2 ht (by omega) 0 (Int.le_refl 0) hn.1 (-1) 0 zun zun (by omega) (by omega) i0
    refine ⟨r, hr, fun Q => ?_⟩
    rw [e56 (show 1 ≤ d by omega)]
    simp (disch := first | omega | exact rfl) only [↓u56_0, ↓u56_2, ↓u56_3, ↓u56_4, ↓u56_7, ↓u56_8, ↓u56_9, ↓u56_12, ↓u56_15, ↓u56_16, ↓u56_19, ↓u56_21, ↓u56_22, ↓u56_23, ↓u56_24, ↓u56_27, ↓u56_30, ↓u56_31, ↓u56_33, ↓u56_34, ↓u56_36, ↓u56_37, ↓u56_39, ↓u56_40, ↓u56_44, ↓u56_45, ↓u56_48, ↓u56_51, ↓u56_52, ↓u56_55, ↓u56_57, ↓u56_58, ↓u56_61, ↓u56_64, ↓u56_65, ↓u56_68, ↓u56_70, ↓u56_71, ↓u56_72, ↓u56_75, ↓u56_78, ↓u56_81, ↓u56_82, ↓u56_85, ↓u56_87, ↓u56_88, ↓u56_89, ↓u56_90, ↓u56_93, ↓u56_95, ↓u56_97, ↓u56_99, ↓u56_102, ↓u56_104, ↓u56_106, ↓u56_109, ↓u56_111, ↓u56_113, ↓u56_116, ↓u56_117, ↓u56_120, ↓u56_121, ↓u56_123, ↓u56_125, ↓u56_128, ↓u56_130, ↓u56_133, ↓u56_135, ↓u56_137, ↓u56_140, ↓u56_142, ↓u56_144, ↓u56_146, ↓u56_148, ↓u56_151, ↓u56_154, ↓u56_156, ↓lI_0, ↓lI_s, ↓lL_0, ↓lL_s, ↓lR_0, ↓lR_s, ↓sT_0, ↓sT_i, ↓sT_r, ↓sT_u, ↓sT_lu, ↓sU_0, ↓sU_i, ↓sU_r, ↓sU_u, ↓ite_bx, bx_T, bx_F, bx_pos, bx_neg, zws_i, zws_r, zws_l, zws_n, zCb_kc, xl_ll, xr_rr, xs_e, xset_e, Option.toList, List.cons_append, List.nil_append, zIb_e, zrng_e, nz_e, if_pos, if_neg, and_true, true_and, or_true, true_or, ite_self, bi_eq0, bi_eq1, bi_1, bi_0, bi_ir, bi_T, bi_F, up_eq, up_ne, ↓reduceIte, reduceIte, Nat.reduceAdd, Nat.reduceLeDiff, Nat.le_refl, Nat.zero_le, not_true_eq_false, not_false_eq_true, ne_eq, Int.reduceEq, Int.reduceLT, Int.reduceLE, Int.reduceAdd, Int.reduceSub, Int.reduceMul, Int.reduceNeg, pT w1, w2, pT w3, w4, w5, w6, v1, v2, v3, vB, e, s103, s10 (show 3 ≤ d - 1 by omega) k1 k2 hp hp2]
