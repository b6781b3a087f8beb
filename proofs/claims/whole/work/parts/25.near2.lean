/-! nearest: number k, by how many are ahead -/
noncomputable def rk (B : ZS) (N px py t b : Int) : Int := sm (fun q => bi (ps B t q ∧ key B px py q < key B px py b)) 0 N
set_option maxRecDepth 8000 in
theorem key_inj {B : ZS} {px py a b : Int} (ha : 0 ≤ a ∧ a < 64) (hb : 0 ≤ b ∧ b < 64) (h : key B px py a = key B px py b) : a = b := by
  unfold key at h
  omega
set_option maxRecDepth 8000 in
theorem key_0 {B : ZS} {N px py i : Int} (hb : OKB B N) (h : 0 ≤ i ∧ i < N) (hp : 0 ≤ px ∧ px ≤ 127) (hp2 : 0 ≤ py ∧ py ≤ 127) : 0 ≤ key B px py i := by
  have b := hb i h
  have fb := fr_b (px := px) (py := py) (x := B i 2) (y := B i 3) (w := B i 4) (h := B i 5) hp hp2 (by omega) (by omega) (by omega) (by omega)
  unfold key
  omega
set_option maxRecDepth 8000 in
theorem rk_m {B : ZS} {N px py t a b : Int} (hn : 0 ≤ N) (h : key B px py a ≤ key B px py b) : rk B N px py t a ≤ rk B N px py t b := by
  unfold rk
  exact cn_i hn (fun j _ e => ⟨e.1, by omega⟩)
set_option maxRecDepth 8000 in
theorem rk_lt {B : ZS} {N px py t a b : Int} (ha : 0 ≤ a ∧ a < N) (hp : ps B t a) (h : key B px py a < key B px py b) : rk B N px py t a + 1 ≤ rk B N px py t b := by
  unfold rk
  exact cn_1 ha (fun j _ => ⟨fun e => ⟨e.1, by omega⟩, fun e => by rw [e]; exact ⟨⟨hp, h⟩, fun c => by omega⟩⟩)
set_option maxRecDepth 8000 in
theorem rk_n {B : ZS} {N px py t a r : Int} (hn : N ≤ 40) (ha : 0 ≤ a ∧ a < N) (hp : ps B t a) (hr : 0 ≤ r ∧ r < N) (h1 : key B px py a < key B px py r) (h2 : ∀ j, 0 ≤ j ∧ j < N → ps B t j → key B px py a < key B px py j → key B px py r ≤ key B px py j) : rk B N px py t r = rk B N px py t a + 1 := by
  unfold rk
  refine cn_1e ha (fun j hj => ⟨⟨fun e => ?_, fun e => ?_⟩, fun e => by rw [e]; exact fun c => by omega⟩)
  · by_cases q : key B px py j < key B px py a
    · exact Or.inl ⟨e.1, q⟩
    · right
      by_cases q2 : key B px py a < key B px py j
      · have := h2 j hj e.1 q2
        omega
      · exact key_inj (by omega) (by omega) (show key B px py j = key B px py a by omega)
  · rcases e with e | e
    · exact ⟨e.1, by omega⟩
    · rw [e]
      exact ⟨hp, h1⟩
set_option maxRecDepth 8000 in
theorem rk_u {B : ZS} {N px py t a b : Int} (hn : N ≤ 40) (ha : 0 ≤ a ∧ a < N) (hb : 0 ≤ b ∧ b < N) (hpa : ps B t a) (hpb : ps B t b) (h : rk B N px py t a = rk B N px py t b) : a = b := by
  by_cases q : key B px py a < key B px py b
  · have := rk_lt (N := N) ha hpa q
    omega
  · by_cases q2 : key B px py b < key B px py a
    · have := rk_lt (N := N) hb hpb q2
      omega
    · exact key_inj (by omega) (by omega) (show key B px py a = key B px py b by omega)
set_option maxRecDepth 8000 in
theorem rk_b {B : ZS} {N px py t b : Int} (hn : 0 ≤ N) : 0 ≤ rk B N px py t b ∧ rk B N px py t b ≤ N := by
  have := cn_b (fun q => ps B t q ∧ key B px py q < key B px py b) 0 N hn
  unfold rk
  omega
noncomputable def nr (B : ZS) (N px py t k : Int) : Int := kth (fun b => ps B t b ∧ rk B N px py t b = k) 0 N 0
def nri (B : ZS) (N px py t n last : Int) : Prop := (last = -1 ∧ n = 0) ∨ ((0 ≤ last ∧ last < N) ∧ ps B t last ∧ rk B N px py t last = n - 1)
set_option maxRecDepth 8000 in
theorem rk_N {B : ZS} {N px py t b : Int} (hb : 0 ≤ b ∧ b < N) : rk B N px py t b < N := by
  have := cn_1 (p := fun q => ps B t q ∧ key B px py q < key B px py b) (q := fun _ => True) (b := b) (N := N) hb (fun j _ => ⟨fun _ => trivial, fun e => by rw [e]; exact ⟨trivial, fun c => by omega⟩⟩)
  have h2 := cn_b (fun _ => True) 0 N (by omega)
  unfold rk
  omega
set_option maxRecDepth 8000 in
theorem nri_x {B : ZS} {N px py t k last : Int} (hn : 0 ≤ N ∧ N ≤ 40) (h : nri B N px py t (k + 1) last) (hk : 0 ≤ k) : nr B N px py t k = last := by
  rcases h with h | ⟨h1, h2, h3⟩
  · omega
  · exact kth_u h1 ⟨h2, by omega⟩ (fun j hj e => rk_u hn.2 hj h1 e.1 h2 (by rw [e.2, h3]; omega))
set_option maxRecDepth 8000 in
theorem nri_0 {B : ZS} {N px py t k n last kl : Int} (hb : OKB B N) (hp : 0 ≤ px ∧ px ≤ 127) (hp2 : 0 ≤ py ∧ py ≤ 127) (hn : 0 ≤ N ∧ N ≤ 40) (h : nri B N px py t n last) (hk : n ≤ k) (hl : (last = -1 ∧ kl = -1) ∨ ((0 ≤ last ∧ last < N) ∧ kl = key B px py last)) (hx : ∀ j, 0 ≤ j ∧ j < N → ps B t j → key B px py j ≤ kl) : nr B N px py t k = -5 := by
  refine kth_no (a := 0) (fun j hj e => ?_) 0 (Int.le_refl 0) hn.1 0
  have h1 := hx j hj e.1
  have h2 := key_0 (px := px) (py := py) hb hj hp hp2
  rcases h with h | ⟨h3, h4, h5⟩
  · rcases hl with hl | hl <;> omega
  · rcases hl with hl | hl
    · omega
    · have := rk_m (B := B) (px := px) (py := py) (t := t) (a := j) (b := last) hn.1 (by omega)
      omega
set_option maxRecDepth 8000 in
theorem nri_s {B : ZS} {N px py t n last kl r : Int} (hb : OKB B N) (hp : 0 ≤ px ∧ px ≤ 127) (hp2 : 0 ≤ py ∧ py ≤ 127) (hn : 0 ≤ N ∧ N ≤ 40) (h : nri B N px py t n last) (hl : (last = -1 ∧ kl = -1) ∨ ((0 ≤ last ∧ last < N) ∧ kl = key B px py last)) (hr : 0 ≤ r ∧ r < N) (hpr : ps B t r) (hk : kl < key B px py r) (hx : ∀ j, 0 ≤ j ∧ j < N → ps B t j → kl < key B px py j → key B px py r ≤ key B px py j) : nri B N px py t (n + 1) r := by
  refine Or.inr ⟨hr, hpr, ?_⟩
  rcases h with h | ⟨h3, h4, h5⟩
  · have e : rk B N px py t r = 0 := by
      unfold rk
      refine sm_0 hn.1 (fun j hj => bi_0 (fun c => ?_))
      have h2 := key_0 (px := px) (py := py) hb hj hp hp2
      have := hx j hj c.1 (by rcases hl with hl | hl <;> omega)
      omega
    omega
  · have hl' : kl = key B px py last := by rcases hl with hl | hl <;> omega
    subst hl'
    rw [rk_n hn.2 h3 h4 hr hk hx]
    omega
set_option maxRecDepth 8000 in
theorem s55 {d : Nat} {Q : Option AV → XH → Prop} {G : XS} {s : ZS} {W : Int} {B : ZS} {N R T : Int} {px py t k : Int} (hd : 5 ≤ d) (hw : WOK G W) (hv : CV s W B N R T) (hb : OKB B N) (hn : 0 ≤ N ∧ N ≤ 40 ∧ 0 ≤ R ∧ R ≤ 10 ∧ 0 ≤ T ∧ T ≤ 20000) (hp : 0 ≤ px ∧ px ≤ 127) (hp2 : 0 ≤ py ∧ py ≤ 127) (ht : 0 ≤ t ∧ t ≤ 4) (hk : 0 ≤ k ∧ ir k) : Call d 55 [zrf W, zint px, zint py, zint t, zint k] (G, s) Q = Q (some (zint (nr B N px py t k))) (G, s) := by
  have hw' := hw
  obtain ⟨w1, w2, w3, w4, w5, w6, w7, w8, w9, w10, w11, w12, w13, w14, w15, w16, w17, w18, w19, w20, w21, w22, w23, w24, w25⟩ := hw'
  have hv' := hv
  obtain ⟨v1, v2, v3, vB⟩ := hv'
  rw [e55 (show 1 ≤ d by omega)]
  by_cases q : N ≤ k
  · rw [show nr B N px py t k = -5 from kth_no (a := 0) (fun j hj e => by have := rk_N (B := B) (px := px) (py := py) (t := t) hj; omega) 0 (Int.le_refl 0) hn.1 0]
    simp (disch := first | omega | exact rfl) only [↓u55_0, ↓u55_2, ↓u55_3, ↓u55_6, ↓u55_9, ↓u55_11, ↓u55_12, ↓u55_13, ↓u55_15, ↓u55_16, ↓u55_20, ↓u55_22, ↓u55_25, ↓u55_26, ↓u55_27, ↓u55_28, ↓u55_29, ↓u55_31, ↓u55_34, ↓u55_36, ↓u55_38, ↓u55_41, ↓u55_43, ↓u55_44, ↓u55_47, ↓u55_50, ↓u55_52, ↓lI_0, ↓lI_s, ↓lL_0, ↓lL_s, ↓lR_0, ↓lR_s, ↓sT_0, ↓sT_i, ↓sT_r, ↓sT_u, ↓sT_lu, ↓sU_0, ↓sU_i, ↓sU_r, ↓sU_u, ↓ite_bx, bx_T, bx_F, bx_pos, bx_neg, zws_i, zws_r, zws_l, zws_n, zCb_kc, xl_ll, xr_rr, xs_e, xset_e, Option.toList, List.cons_append, List.nil_append, zIb_e, zrng_e, nz_e, if_pos, if_neg, and_true, true_and, or_true, true_or, ite_self, bi_eq0, bi_eq1, bi_1, bi_0, bi_ir, bi_T, bi_F, up_eq, up_ne, ↓reduceIte, reduceIte, Nat.reduceAdd, Nat.reduceLeDiff, Nat.le_refl, Nat.zero_le, not_true_eq_false, not_false_eq_true, ne_eq, Int.reduceEq, Int.reduceLT, Int.reduceLE, Int.reduceAdd, Int.reduceSub, Int.reduceMul, Int.reduceNeg, pT w1, w2, pT w3, w4, w5, w6, v1, v2, v3, vB]
  · have lp : ∀ i, 0 ≤ i → i ≤ k + 1 → ∀ last, nri B N px py t i last → Wp (d - 1) 55 (18, [zrf W, zint px, zint py, zint t, zint k, zint last, zint i], [], (G, s)) Q = Q (some (zint (nr B N px py t k))) (G, s) := by
      refine dn (P := fun i => ∀ last, nri B N px py t i last → Wp (d - 1) 55 (18, [zrf W, zint px, zint py, zint t, zint k, zint last, zint i], [], (G, s)) Q = Q (some (zint (nr B N px py t k))) (G, s)) ?_ ?_
      · intro last hi
        have hb2 : -1 ≤ last ∧ last ≤ 40 := by rcases hi with hi | hi <;> omega
        rw [nri_x ⟨hn.1, hn.2.1⟩ hi hk.1, u55_18]
        simp (disch := first | omega | exact rfl) only [↓u55_0, ↓u55_2, ↓u55_3, ↓u55_6, ↓u55_9, ↓u55_11, ↓u55_12, ↓u55_13, ↓u55_15, ↓u55_16, ↓u55_20, ↓u55_22, ↓u55_25, ↓u55_26, ↓u55_27, ↓u55_28, ↓u55_29, ↓u55_31, ↓u55_34, ↓u55_36, ↓u55_38, ↓u55_41, ↓u55_43, ↓u55_44, ↓u55_47, ↓u55_50, ↓u55_52, ↓lI_0, ↓lI_s, ↓lL_0, ↓lL_s, ↓lR_0, ↓lR_s, ↓sT_0, ↓sT_i, ↓sT_r, ↓sT_u, ↓sT_lu, ↓sU_0, ↓sU_i, ↓sU_r, ↓sU_u, ↓ite_bx, bx_T, bx_F, bx_pos, bx_neg, zws_i, zws_r, zws_l, zws_n, zCb_kc, xl_ll, xr_rr, xs_e, xset_e, Option.toList, List.cons_append, List.nil_append, zIb_e, zrng_e, nz_e, if_pos, if_neg, and_true, true_and, or_true, true_or, ite_self, bi_eq0, bi_eq1, bi_1, bi_0, bi_ir, bi_T, bi_F, up_eq, up_ne, ↓reduceIte, reduceIte, Nat.reduceAdd, Nat.reduceLeDiff, Nat.le_refl, Nat.zero_le, not_true_eq_false, not_false_eq_true, ne_eq, Int.reduceEq, Int.reduceLT, Int.reduceLE, Int.reduceAdd, Int.reduceSub, Int.reduceMul, Int.reduceNeg, pT w1, w2, pT w3, w4, w5, w6, v1, v2, v3, vB]
      · intro i h0 h1 ih last hi
        have hl : (last = -1 ∧ ∃ kl, kl = -1) ∨ ((0 ≤ last ∧ last < N) ∧ ∃ kl, kl = key B px py last) := by
          rcases hi with hi | hi
          · exact Or.inl ⟨hi.1, -1, rfl⟩
          · exact Or.inr ⟨hi.1, _, rfl⟩
        have hl2 : ∃ kl, (last = -1 ∧ kl = -1) ∨ ((0 ≤ last ∧ last < N) ∧ kl = key B px py last) := by
          rcases hl with ⟨h2, kl, h3⟩ | ⟨h2, kl, h3⟩
          · exact ⟨kl, Or.inl ⟨h2, h3⟩⟩
          · exact ⟨kl, Or.inr ⟨h2, h3⟩⟩
        obtain ⟨kl, hl3⟩ := hl2
        obtain ⟨r, hr, e⟩ := s56 (d := d - 1) (t := t) (show 4 ≤ d - 1 by omega) hw hv hb hn hp hp2 ht hl3
        rcases hr with ⟨rfl, hx⟩ | ⟨hr1, hr2, hr3, hr4⟩
        · rw [nri_0 hb hp hp2 ⟨hn.1, hn.2.1⟩ hi (show i ≤ k by omega) hl3 hx, u55_18]
          simp (disch := first | omega | exact rfl) only [↓u55_0, ↓u55_2, ↓u55_3, ↓u55_6, ↓u55_9, ↓u55_11, ↓u55_12, ↓u55_13, ↓u55_15, ↓u55_16, ↓u55_20, ↓u55_22, ↓u55_25, ↓u55_26, ↓u55_27, ↓u55_28, ↓u55_29, ↓u55_31, ↓u55_34, ↓u55_36, ↓u55_38, ↓u55_41, ↓u55_43, ↓u55_44, ↓u55_47, ↓u55_50, ↓u55_52, ↓lI_0, ↓lI_s, ↓lL_0, ↓lL_s, ↓lR_0, ↓lR_s, ↓sT_0, ↓sT_i, ↓sT_r, ↓sT_u, ↓sT_lu, ↓sU_0, ↓sU_i, ↓sU_r, ↓sU_u, ↓ite_bx, bx_T, bx_F, bx_pos, bx_neg, zws_i, zws_r, zws_l, zws_n, zCb_kc, xl_ll, xr_rr, xs_e, xset_e, Option.toList, List.cons_append, List.nil_append, zIb_e, zrng_e, nz_e, if_pos, if_neg, and_true, true_and, or_true, true_or, ite_self, bi_eq0, bi_eq1, bi_1, bi_0, bi_ir, bi_T, bi_F, up_eq, up_ne, ↓reduceIte, reduceIte, Nat.reduceAdd, Nat.reduceLeDiff, Nat.le_refl, Nat.zero_le, not_true_eq_false, not_false_eq_true, ne_eq, Int.reduceEq, Int.reduceLT, Int.reduceLE, Int.reduceAdd, Int.reduceSub, Int.reduceMul, Int.reduceNeg, pT w1, w2, pT w3, w4, w5, w6, v1, v2, v3, vB, e]
        · have ih2 := ih r (nri_s hb hp hp2 ⟨hn.1, hn.2.1⟩ hi hl3 hr1 hr2 hr3 hr4)
          rw [u55_18]
          simp (disch := first | omega | exact rfl) only [↓u55_0, ↓u55_2, ↓u55_3, ↓u55_6, ↓u55_9, ↓u55_11, ↓u55_12, ↓u55_13, ↓u55_15, ↓u55_16, ↓u55_20, ↓u55_22, ↓u55_25, ↓u55_26, ↓u55_27, ↓u55_28, ↓u55_29, ↓u55_31, ↓u55_34, ↓u55_36, ↓u55_38, ↓u55_41, ↓u55_43, ↓u55_44, ↓u55_47, ↓u55_50, ↓u55_52, ↓lI_0, ↓lI_s, ↓lL_0, ↓lL_s, ↓lR_0, ↓lR_s, ↓sT_0, ↓sT_i, ↓sT_r, ↓sT_u, ↓sT_lu, ↓sU_0, ↓sU_i, ↓sU_r, ↓sU_u, ↓ite_bx, bx_T, bx_F, bx_pos, bx_neg, zws_i, zws_r, zws_l, zws_n, zCb_kc, xl_ll, xr_rr, xs_e, xset_e, Option.toList, List.cons_append, List.nil_append, zIb_e, zrng_e, nz_e, if_pos, if_neg, and_true, true_and, or_true, true_or, ite_self, bi_eq0, bi_eq1, bi_1, bi_0, bi_ir, bi_T, bi_F, up_eq, up_ne, ↓reduceIte, reduceIte, Nat.reduceAdd, Nat.reduceLeDiff, Nat.le_refl, Nat.zero_le, not_true_eq_false, not_false_eq_true, ne_eq, Int.reduceEq, Int.reduceLT, Int.reduceLE, Int.reduceAdd, Int.reduceSub, Int.reduceMul, Int.reduceNeg, pT w1, w2, pT w3, w4, w5, w6, v1, v2, v3, vB, e, ih2]
    have l0 := lp 0 (Int.le_refl 0) (by omega) (-1) (Or.inl ⟨rfl, rfl⟩)
    simp (disch := first | omega | exact rfl) only [↓u55_0, ↓u55_2, ↓u55_3, ↓u55_6, ↓u55_9, ↓u55_11, ↓u55_12, ↓u55_13, ↓u55_15, ↓u55_16, ↓u55_20, ↓u55_22, ↓u55_25, ↓u55_26, ↓u55_27, ↓u55_28, ↓u55_29, ↓u55_31, ↓u55_34, ↓u55_36, ↓u55_38, ↓u55_41, ↓u55_43, ↓u55_44, ↓u55_47, ↓u55_50, ↓u55_52, ↓lI_0, ↓lI_s, ↓lL_0, ↓lL_s, ↓lR_0, ↓lR_s, ↓sT_0, ↓sT_i, ↓sT_r, ↓sT_u, ↓sT_lu, ↓sU_0, ↓sU_i, ↓sU_r, ↓sU_u, ↓ite_bx, bx_T, bx_F, bx_pos, bx_neg, zws_i, zws_r, zws_l, zws_n, zCb_kc, xl_ll, xr_rr, xs_e, xset_e, Option.toList, List.cons_append, List.nil_append, zIb_e, zrng_e, nz_e, if_pos, if_neg, and_true, true_and, or_true, true_or, ite_self, bi_eq0, bi_eq1, bi_1, bi_0, bi_ir, bi_T, bi_F, up_eq, up_ne, ↓reduceIte, reduceIte, Nat.reduceAdd, Nat.reduceLeDiff, Nat.le_refl, Nat.zero_le, not_true_eq_false, not_false_eq_true, ne_eq, Int.reduceEq, Int.reduceLT, Int.reduceLE, Int.reduceAdd, Int.reduceSub, Int.reduceMul, Int.reduceNeg, pT w1, w2, pT w3, w4, w5, w6, v1, v2, v3, vB, l0]
