set_option maxRecDepth 8000 in
theorem KP_c {s s2 : ZS} (h : KP s) (f : ∀ a c, (a = 0 ∨ (50 ≤ a ∧ a ≤ 98 ∧ a ≠ 92) ∨ (a = 172 ∧ c = 3) ∨ a = 175) → s2 a c = s a c) : KP s2 := by
  obtain ⟨h1, h2⟩ := h
  have e0 := f 0 3 (by omega)
  have e1 := f 172 3 (by omega)
  refine ⟨by rw [e0, e1]; exact h1, ?_⟩
  rw [e0]
  rcases h2 with h2 | ⟨h2, B, N, R, T, h3⟩
  · exact Or.inl h2
  · exact Or.inr ⟨h2, B, N, R, T, WS_c h3 (fun a c ha => f a c (by omega))⟩
set_option maxRecDepth 8000 in
theorem K0_x {B : ZS} {N k l x y w h : Int} (hk : K0 B N) : K0 (nbx B N k l x y w h) (N + 1) := by
  intro i hi h0
  by_cases e : i = N
  · rw [e, nbx_y, nbx_y]
    exact ⟨rfl, rfl⟩
  · rw [nbx_n e] at h0
    rw [nbx_n e, nbx_n e]
    exact hk i (by omega) h0
set_option maxRecDepth 8000 in
theorem K0_v {B : ZS} {N : Int} {w : Int → Int} (hk : K0 B N) : K0 (nbv B N w) (N + 1) := by
  intro i hi h0
  by_cases e : i = N
  · rw [e, nbv_y] at h0
    rw [nbf_o (by omega)] at h0
    rw [e, nbv_y, nbv_y, nbf_6, nbf_7, if_pos h0, if_pos h0]
    exact ⟨rfl, rfl⟩
  · rw [nbv_n e] at h0
    rw [nbv_n e, nbv_n e]
    exact hk i (by omega) h0
set_option maxRecDepth 8000 in
theorem K0_a {W : Int → Int → Int} : ∀ (j : Nat) (i N : Int) (B : ZS), K0 B N → K0 (adl W j i B N).1 (adl W j i B N).2 := by
  intro j
  induction j with
  | zero => intro i N B h; exact h
  | succ j ih =>
    intro i N B h
    by_cases q : okr (W i) N
    · rw [adl_y q]
      exact ih _ _ _ (K0_v h)
    · rw [adl_n q]
      exact ih _ _ _ h
set_option maxRecDepth 8000 in
theorem K0_i : ∀ (n : Nat) {B : ZS} {N : Int}, K0 B N → K0 (itb n B) N := by
  intro n
  induction n with
  | zero => intro B N h; exact h
  | succ n ih => intro B N h; exact ih (K0_s h)
set_option maxRecDepth 8000 in
theorem CV_r {s : ZS} {W v : Int} {B : ZS} {N R T : Int} (hv : CV s W B N R T) (hW : 0 ≤ W) : CV (up s W 7 v) W B N v T := by
  obtain ⟨v1, v2, v3, vB⟩ := hv
  exact ⟨by rw [up_ne (by omega)]; exact v1, by rw [up_ne (by omega)]; exact v2, up_eq, fun i f h => by rw [up_ne (by omega)]; exact vB i f h⟩
set_option maxRecDepth 8000 in
theorem OKB_sp {B : ZS} {N b x y : Int} (hb : OKB B N) (q : (-9 ≤ x ∧ x ≤ 9) ∧ -9 ≤ y ∧ y ≤ 9) : OKB (up (up B b 6 x) b 7 y) N := by
  intro i hi
  have b0 := hb i hi
  by_cases e : i = b
  · rw [e] at b0 ⊢
    simp (disch := omega) only [okb, up_ne, up_eq]
    omega
  · simp (disch := omega) only [okb, up_ne]
    exact b0
set_option maxRecDepth 8000 in
theorem OKB_mv {B : ZS} {N b x y : Int} (hb : OKB B N) (q : (0 ≤ x ∧ x ≤ 128 - B b 4) ∧ 0 ≤ y ∧ y ≤ 128 - B b 5) : OKB (up (up B b 2 x) b 3 y) N := by
  intro i hi
  have b0 := hb i hi
  by_cases e : i = b
  · rw [e] at b0 ⊢
    simp (disch := omega) only [okb, up_ne, up_eq]
    omega
  · simp (disch := omega) only [okb, up_ne]
    exact b0
set_option maxRecDepth 8000 in
theorem K0_sp {B : ZS} {N b x y : Int} (hk : K0 B N) (q : B b 0 ≠ 0) : K0 (up (up B b 6 x) b 7 y) N := by
  intro i hi h0
  by_cases e : i = b
  · rw [e, up_ne (by omega), up_ne (by omega)] at h0
    exact absurd h0 q
  · rw [up_ne (by omega), up_ne (by omega)] at h0
    simp (disch := omega) only [up_ne]
    exact hk i hi h0
set_option maxRecDepth 8000 in
theorem r62 {d : Nat} {G : XS} {s : ZS} {sx : Int → Int} {k l x y w hh : Int} (hd : 30 ≤ d) (hg : LOK G 1 50 99) (hm : MOK G) (hR : REL s sx) (ik : ir k) (il : ir l) (ix : ir x) (iy : ir y) (iw : ir w) (ihh : ir hh) : PRS G d 62 120 [zint k, zint l, zint x, zint y, zint w, zint hh] s sx := by
  obtain ⟨hs, ⟨B, N, R, T, hW⟩, hl1, hl2, hk, hx, ht⟩ := id hR
  obtain ⟨hv, hv2, hb, hk0, hn9, hw⟩ := id hW
  have hn : 0 ≤ N ∧ N ≤ 40 ∧ 0 ≤ R ∧ R ≤ 10 ∧ 0 ≤ T ∧ T ≤ 20000 := by omega
  by_cases q : (0 ≤ k ∧ k ≤ 3) ∧ 0 ≤ l ∧ l ≤ 1
  · by_cases q2 : (1 ≤ w ∧ w ≤ 32) ∧ 1 ≤ hh ∧ hh ≤ 32
    · by_cases q3 : (0 ≤ x ∧ x ≤ 128 - w) ∧ 0 ≤ y ∧ y ≤ 128 - hh
      · by_cases q4 : N < 40
        · have e1 := fun Q => s62_y (Q := Q) (d := d) (by omega) hg hv hb hn ik il ix iy iw ihh q q2 q3 q4
          have f1 : ∀ a c, a ≠ 1 → a ≠ 1 + 2 + N → bcm (up s 1 5 (N + 1)) (1 + 2 + N) k l x y w hh a c = s a c := fun a c h1 h2 => by rw [bcm_ne h2, up_ne (Or.inl h1)]
          have rv1 : RV (bcm (up s 1 5 (N + 1)) (1 + 2 + N) k l x y w hh) 173 B N R T := RV_e hv2 (fun c => f1 173 c (by omega) (by omega))
          have e2 := fun Q => s120_y (Q := Q) (d := d) (by omega) hm rv1 hb hn ik il ix iy iw ihh q q2 q3 q4
          have rv2 := RV_b (k := k) (l := l) (x := x) (y := y) (w := w) (h := hh) rv1 ⟨hn.1, q4⟩ q.2
          have cv1 : CV (bcm (up s 1 5 (N + 1)) (1 + 2 + N) k l x y w hh) 1 (nbx B N k l x y w hh) (N + 1) R T := CV_n (w := fun c => if c = 0 then k else if c = 1 then l else if c = 2 then x else if c = 3 then y else if c = 4 then w else hh) hv ⟨hn.1, q4⟩ (nbx B N k l x y w hh) (fun f hf => nbx_y) (fun i f hi => nbx_n hi)
          refine ⟨N, _, _, by omega, ⟨(fun i => by first | exact hs i | (simp (disch := omega) only [up_ne, bcm_ne, flo_o, apd, hld]; exact hs i) | exact (f1 1000000 i (by omega)).trans (hs i) | exact (f1 1000000 i (by omega) (by omega)).trans (hs i) | exact (f1 1000000 i (by omega) (by omega) (by omega) (by omega)).trans (hs i) | exact (g1 1000000 i (by omega)).trans (hs i)), REL_b hR hW (fun a c h1 h2 h3 => ?_) (CV_c cv1 (by omega) (fun a c ha => bxr_o (by omega))) rv2 (OKB_x hb q.1 q.2 q2.1 q2.2 q3.1 q3.2) (K0_x hk0) (by omega)⟩, e1, e2⟩
          rw [bxr_o (by omega), f1 a c h1 (by omega)]
        · exact ⟨_, s, s, by omega, ⟨hs, hR⟩, fun Q => s62_f (Q := Q) (d := d) (by omega) hg hv hb hn ik il ix iy iw ihh q q2 q3 (by omega), fun Q => s120_f (Q := Q) (d := d) (by omega) hm hv2 hb hn ik il ix iy iw ihh q q2 q3 (by omega)⟩
      · exact ⟨_, s, s, by omega, ⟨hs, hR⟩, fun Q => s62_p (Q := Q) (d := d) (by omega) hg hv hb hn ik il ix iy iw ihh q q2 q3, fun Q => s120_p (Q := Q) (d := d) (by omega) hm hv2 hb hn ik il ix iy iw ihh q q2 q3⟩
    · exact ⟨_, s, s, by omega, ⟨hs, hR⟩, fun Q => s62_w (Q := Q) (d := d) (by omega) hg hv hb hn ik il ix iy iw ihh q q2, fun Q => s120_w (Q := Q) (d := d) (by omega) hm hv2 hb hn ik il ix iy iw ihh q q2⟩
  · exact ⟨_, s, s, by omega, ⟨hs, hR⟩, fun Q => s62_k (Q := Q) (d := d) (by omega) hg hv hb hn ik il ix iy iw ihh q, fun Q => s120_k (Q := Q) (d := d) (by omega) hm hv2 hb hn ik il ix iy iw ihh q⟩
set_option maxRecDepth 8000 in
theorem r63 {d : Nat} {G : XS} {s : ZS} {sx : Int → Int} {b x y : Int} (hd : 30 ≤ d) (hg : LOK G 1 50 99) (hm : MOK G) (hR : REL s sx) (ib : ir b) (ix : ir x) (iy : ir y) : PRS G d 63 121 [zint b, zint x, zint y] s sx := by
  obtain ⟨hs, ⟨B, N, R, T, hW⟩, hl1, hl2, hk, hx, ht⟩ := id hR
  obtain ⟨hv, hv2, hb, hk0, hn9, hw⟩ := id hW
  have hn : 0 ≤ N ∧ N ≤ 40 ∧ 0 ≤ R ∧ R ≤ 10 ∧ 0 ≤ T ∧ T ≤ 20000 := by omega
  by_cases q : hr B N b
  · have b0 := hb b q.1
    by_cases q1 : (-9 ≤ x ∧ x ≤ 9) ∧ -9 ≤ y ∧ y ≤ 9
    · by_cases q2 : B b 0 = 0
      · exact ⟨_, s, s, by omega, ⟨hs, hR⟩, fun Q => s63_s (Q := Q) (d := d) (by omega) hg hv hb hn q ix iy q1 q2, fun Q => s121_s (Q := Q) (d := d) (by omega) hm hv2 hb hn q q1 q2⟩
      · have e1 := fun Q => s63_y (Q := Q) (d := d) (by omega) hg hv hb hn q ix iy q1 q2
        have rv1 : RV (up (up s (1 + 2 + b) 6 x) (1 + 2 + b) 7 y) 173 B N R T := RV_e hv2 (fun c => by rw [up_ne (by omega), up_ne (by omega)])
        have e2 := fun Q => s121_y (Q := Q) (d := d) (by omega) hm rv1 hb hn q q1 q2
        have rv2 := RV_u (b := b) (f := 7) (v := y) (RV_u (b := b) (f := 6) (v := x) rv1 hn.2.1 q.1 (by omega) (by omega)) hn.2.1 q.1 (by omega) (by omega)
        refine ⟨_, _, _, by omega, ⟨(fun i => by first | exact hs i | (simp (disch := omega) only [up_ne, bcm_ne, flo_o, apd, hld]; exact hs i) | exact (f1 1000000 i (by omega)).trans (hs i) | exact (f1 1000000 i (by omega) (by omega)).trans (hs i) | exact (f1 1000000 i (by omega) (by omega) (by omega) (by omega)).trans (hs i) | exact (g1 1000000 i (by omega)).trans (hs i)), REL_b hR hW (fun a c h1 h2 h3 => ?_) (CV_c (CV_u (CV_u hv q.1) q.1) hn.2.1 (fun a c ha => by rw [up_ne (by omega), up_ne (by omega)])) rv2 (OKB_sp hb q1) (K0_sp hk0 q2) hn9⟩, e1, e2⟩
        rw [up_ne (by omega), up_ne (by omega), up_ne (by omega), up_ne (by omega)]
    · exact ⟨_, s, s, by omega, ⟨hs, hR⟩, fun Q => s63_b (Q := Q) (d := d) (by omega) hg hv hb hn q ix iy q1, fun Q => s121_b (Q := Q) (d := d) (by omega) hm hv2 hb hn q ix iy q1⟩
  · exact ⟨_, s, s, by omega, ⟨hs, hR⟩, fun Q => s63_n (Q := Q) (d := d) (by omega) hg hv hb hn ib q, fun Q => s121_n (Q := Q) (d := d) (by omega) hm hv2 hb hn ib q⟩
set_option maxRecDepth 8000 in
theorem r64 {d : Nat} {G : XS} {s : ZS} {sx : Int → Int} {b x y : Int} (hd : 30 ≤ d) (hg : LOK G 1 50 99) (hm : MOK G) (hR : REL s sx) (ib : ir b) (ix : ir x) (iy : ir y) : PRS G d 64 122 [zint b, zint x, zint y] s sx := by
  obtain ⟨hs, ⟨B, N, R, T, hW⟩, hl1, hl2, hk, hx, ht⟩ := id hR
  obtain ⟨hv, hv2, hb, hk0, hn9, hw⟩ := id hW
  have hn : 0 ≤ N ∧ N ≤ 40 ∧ 0 ≤ R ∧ R ≤ 10 ∧ 0 ≤ T ∧ T ≤ 20000 := by omega
  by_cases q : hr B N b
  · have b0 := hb b q.1
    by_cases q1 : (0 ≤ x ∧ x ≤ 128 - B b 4) ∧ 0 ≤ y ∧ y ≤ 128 - B b 5
    · have e1 := fun Q => s64_y (Q := Q) (d := d) (by omega) hg hv hb hn q ix iy q1
      have rv1 : RV (up (up s (1 + 2 + b) 2 x) (1 + 2 + b) 3 y) 173 B N R T := RV_e hv2 (fun c => by rw [up_ne (by omega), up_ne (by omega)])
      have e2 := fun Q => s122_y (Q := Q) (d := d) (by omega) hm rv1 hb hn q ix iy q1
      have rv2 := RV_u (b := b) (f := 3) (v := y) (RV_u (b := b) (f := 2) (v := x) rv1 hn.2.1 q.1 (by omega) (by omega)) hn.2.1 q.1 (by omega) (by omega)
      have m1 := sq_b (a := x - B b 2) (by omega)
      have m2 := sq_b (a := y - B b 3) (by omega)
      refine ⟨_, _, _, by omega, ⟨(fun i => by first | exact hs i | (simp (disch := omega) only [up_ne, bcm_ne, flo_o, apd, hld]; exact hs i) | exact (f1 1000000 i (by omega)).trans (hs i) | exact (f1 1000000 i (by omega) (by omega)).trans (hs i) | exact (f1 1000000 i (by omega) (by omega) (by omega) (by omega)).trans (hs i) | exact (g1 1000000 i (by omega)).trans (hs i)), REL_b hR hW (fun a c h1 h2 h3 => ?_) (CV_c (CV_u (CV_u hv q.1) q.1) hn.2.1 (fun a c ha => by rw [up_ne (by omega), up_ne (by omega)])) rv2 (OKB_mv hb q1) (K0_u (K0_u hk0 (by omega)) (by omega)) hn9⟩, e1, e2⟩
      rw [up_ne (by omega), up_ne (by omega), up_ne (by omega), up_ne (by omega)]
    · exact ⟨_, s, s, by omega, ⟨hs, hR⟩, fun Q => s64_s (Q := Q) (d := d) (by omega) hg hv hb hn q ix iy q1, fun Q => s122_s (Q := Q) (d := d) (by omega) hm hv2 hb hn q ix iy q1⟩
  · exact ⟨_, s, s, by omega, ⟨hs, hR⟩, fun Q => s64_n (Q := Q) (d := d) (by omega) hg hv hb hn ib q, fun Q => s122_n (Q := Q) (d := d) (by omega) hm hv2 hb hn ib q⟩
set_option maxRecDepth 8000 in
theorem r65 {d : Nat} {G : XS} {s : ZS} {sx : Int → Int} {b : Int} (hd : 30 ≤ d) (hg : LOK G 1 50 99) (hm : MOK G) (hR : REL s sx) (ib : ir b) : PRS G d 65 123 [zint b] s sx := by
  obtain ⟨hs, ⟨B, N, R, T, hW⟩, hl1, hl2, hk, hx, ht⟩ := id hR
  obtain ⟨hv, hv2, hb, hk0, hn9, hw⟩ := id hW
  have hn : 0 ≤ N ∧ N ≤ 40 ∧ 0 ≤ R ∧ R ≤ 10 ∧ 0 ≤ T ∧ T ≤ 20000 := by omega
  by_cases q : hr B N b
  · have b0 := hb b q.1
    have tb := thr_b (B := up B b 8 0) hn.1
    have e1 := fun Q => s65_y (Q := Q) (d := d) (by omega) hg hv hb hn q
    have rv1 : RV (up s (1 + 2 + b) 8 0) 173 B N R T := RV_e hv2 (fun c => by rw [up_ne (by omega)])
    have e2 := fun Q => s123_y (Q := Q) (d := d) (by omega) hm rv1 hb hn q
    refine ⟨_, _, _, by omega, ⟨(fun i => by first | exact hs i | (simp (disch := omega) only [up_ne, bcm_ne, flo_o, apd, hld]; exact hs i) | exact (f1 1000000 i (by omega)).trans (hs i) | exact (f1 1000000 i (by omega) (by omega)).trans (hs i) | exact (f1 1000000 i (by omega) (by omega) (by omega) (by omega)).trans (hs i) | exact (g1 1000000 i (by omega)).trans (hs i)), REL_b hR hW (fun a c h1 h2 h3 => ?_) (CV_c (CV_u hv q.1) hn.2.1 (fun a c ha => by rw [up_ne (by omega)])) (RV_g rv1 hn.2.1 q.1) (OKB_g hb) (K0_u hk0 (by omega)) hn9⟩, e1, e2⟩
    rw [up_ne (by omega), up_ne (by omega)]
  · exact ⟨_, s, s, by omega, ⟨hs, hR⟩, fun Q => s65_n (Q := Q) (d := d) (by omega) hg hv hb hn ib q, fun Q => s123_n (Q := Q) (d := d) (by omega) hm hv2 hb hn ib q⟩
set_option maxRecDepth 8000 in
theorem r66 {d : Nat} {G : XS} {s : ZS} {sx : Int → Int} {x : Int} (hd : 30 ≤ d) (hg : LOK G 1 50 99) (hm : MOK G) (hR : REL s sx) (ix : ir x) : PRS G d 66 124 [zint x] s sx := by
  obtain ⟨hs, ⟨B, N, R, T, hW⟩, hl1, hl2, hk, hx, ht⟩ := id hR
  obtain ⟨hv, hv2, hb, hk0, hn9, hw⟩ := id hW
  have hn : 0 ≤ N ∧ N ≤ 40 ∧ 0 ≤ R ∧ R ≤ 10 ∧ 0 ≤ T ∧ T ≤ 20000 := by omega
  by_cases q : 1 ≤ x ∧ x ≤ 9
  · have e1 := fun Q => s66_y (Q := Q) (d := d) (by omega) hg hv hb hn ix q
    have rv1 : RV (up s 1 7 x) 173 B N R T := RV_e hv2 (fun c => by rw [up_ne (by omega)])
    have e2 := fun Q => s124_y (Q := Q) (d := d) (by omega) hm rv1 hb hn q
    refine ⟨_, _, _, by omega, ⟨(fun i => by first | exact hs i | (simp (disch := omega) only [up_ne, bcm_ne, flo_o, apd, hld]; exact hs i) | exact (f1 1000000 i (by omega)).trans (hs i) | exact (f1 1000000 i (by omega) (by omega)).trans (hs i) | exact (f1 1000000 i (by omega) (by omega) (by omega) (by omega)).trans (hs i) | exact (g1 1000000 i (by omega)).trans (hs i)), REL_b hR hW (fun a c h1 h2 h3 => ?_) (CV_c (CV_r hv (by omega)) hn.2.1 (fun a c ha => by rw [up_ne (by omega)])) (RV_r rv1 hn.2.1) hb hk0 (by omega)⟩, e1, e2⟩
    rw [up_ne (by omega), up_ne (by omega)]
  · exact ⟨_, s, s, by omega, ⟨hs, hR⟩, fun Q => s66_b (Q := Q) (d := d) (by omega) hg hv hb hn ix q, fun Q => s124_b (Q := Q) (d := d) (by omega) hm hv2 hb hn ix q⟩
set_option maxRecDepth 8000 in
theorem r67 {d : Nat} {G : XS} {s : ZS} {sx : Int → Int} {x : Int} (hd : 30 ≤ d) (hg : LOK G 1 50 99) (hm : MOK G) (hR : REL s sx) (ix : ir x) : PRS G d 67 125 [zint x] s sx := by
  obtain ⟨hs, ⟨B, N, R, T, hW⟩, hl1, hl2, hk, hx, ht⟩ := id hR
  obtain ⟨hv, hv2, hb, hk0, hn9, hw⟩ := id hW
  have hn : 0 ≤ N ∧ N ≤ 40 ∧ 0 ≤ R ∧ R ≤ 10 ∧ 0 ≤ T ∧ T ≤ 20000 := by omega
  obtain ⟨tx, ln, hx1, hx2⟩ := id hx
  obtain ⟨a1, a2, a3, a4⟩ := id hx1
  obtain ⟨b1, b2, b3, b4⟩ := id hx2
  by_cases q : 0 ≤ x ∧ x ≤ 127
  · by_cases q2 : ln = 100
    · exact ⟨_, s, s, by omega, ⟨hs, hR⟩, fun Q => s67_f (Q := Q) (d := d) (by omega) hg hv hb hn ix q a1 q2, fun Q => s125_f (Q := Q) (d := d) (by omega) hm hv2 hb hn q b1 q2⟩
    · have e1 := fun Q => s67_y (Q := Q) (d := d) (ln := ln) (by omega) hg hv hb hn ix q a1 (by omega)
      have rv1 : RV (up (up s 149 ln x) 148 2 (ln + 1)) 173 B N R T := RV_e hv2 (fun c => by rw [up_ne (by omega), up_ne (by omega)])
      have e2 := fun Q => s125_y (Q := Q) (d := d) (s := up (up s 149 ln x) 148 2 (ln + 1)) (ln := ln) (by omega) hm rv1 hb hn q (by rw [up_ne (by omega), up_ne (by omega)]; exact b1) (by omega)
      have f1 : ∀ a c, a ≠ 149 → (a ≠ 148 ∨ c ≠ 2) → (a ≠ 172 ∨ c ≠ 5) → a ≠ 176 → up (up (up (up s 149 ln x) 148 2 (ln + 1)) 172 5 (ln + 1)) 176 ln x a c = s a c := fun a c h1 h2 h3 h4 => by
        rw [up_ne (by omega), up_ne (by omega), up_ne (by omega), up_ne (by omega)]
      refine ⟨_, _, _, by omega, ⟨(fun i => by first | exact hs i | (simp (disch := omega) only [up_ne, bcm_ne, flo_o, apd, hld]; exact hs i) | exact (f1 1000000 i (by omega)).trans (hs i) | exact (f1 1000000 i (by omega) (by omega)).trans (hs i) | exact (f1 1000000 i (by omega) (by omega) (by omega) (by omega)).trans (hs i) | exact (g1 1000000 i (by omega)).trans (hs i)), ⟨fun i => by rw [f1 1000000 i (by omega) (by omega) (by omega) (by omega)]; exact hs i, ⟨B, N, R, T, WS_c hW (fun a c ha => f1 a c (by omega) (by omega) (by omega) (by omega))⟩, LIM_c hl1 (fun a ha => f1 a 1 (by omega) (by omega) (by omega) (by omega)), LIM_c hl2 (fun a ha => f1 a 1 (by omega) (by omega) (by omega) (by omega)), KP_c hk (fun a c ha => f1 a c (by omega) (by omega) (by omega) (by omega)), ?_, TP_c ht (fun a c ha => f1 a c (by omega) (by omega) (by omega) (by omega))⟩⟩, e1, e2⟩
      refine ⟨wup tx ln x, ln + 1, ⟨?_, by omega, fun i hi => ?_, fun i hi => ?_⟩, ?_, by omega, fun i hi => ?_, fun i hi => ?_⟩
      · rw [up_ne (by omega), up_ne (by omega), up_eq]
      · rw [up_ne (by omega), up_ne (by omega), up_ne (by omega)]
        by_cases e : i = ln
        · rw [e, up_eq, wup_e]
        · rw [up_ne (by omega), wup_o e]
          exact a3 i (by omega)
      · by_cases e : i = ln
        · rw [e, wup_e]; exact q
        · rw [wup_o e]; exact a4 i (by omega)
      · rw [up_ne (by omega), up_eq]
      · by_cases e : i = ln
        · rw [e, up_eq, wup_e]
        · rw [up_ne (by omega), up_ne (by omega), up_ne (by omega), up_ne (by omega), wup_o e]
          exact b3 i (by omega)
      · by_cases e : i = ln
        · rw [e, wup_e]; exact q
        · rw [wup_o e]; exact a4 i (by omega)
  · exact ⟨_, s, s, by omega, ⟨hs, hR⟩, fun Q => s67_b (ln := ln) (Q := Q) (d := d) (by omega) hg hv hb hn ix q, fun Q => s125_b (Q := Q) (d := d) (by omega) hm hv2 hb hn ix q⟩
set_option maxRecDepth 8000 in
theorem r68 {d : Nat} {G : XS} {s : ZS} {sx : Int → Int}  (hd : 30 ≤ d) (hg : LOK G 1 50 99) (hm : MOK G) (hR : REL s sx)  : PRS G d 68 132 [] s sx := by
  obtain ⟨hs, ⟨B, N, R, T, hW⟩, hl1, hl2, hk, hx, ht⟩ := id hR
  obtain ⟨hv, hv2, hb, hk0, hn9, hw⟩ := id hW
  have hn : 0 ≤ N ∧ N ≤ 40 ∧ 0 ≤ R ∧ R ≤ 10 ∧ 0 ≤ T ∧ T ≤ 20000 := by omega
  obtain ⟨tx, ln, hx1, hx2⟩ := id hx
  have l2 := hx1.2.1
  have hc : ∀ w p p1 w1, (0 ≤ p ∧ p ≤ ln) → c0 tx ln w p = .inr (p1, w1) → 0 ≤ p1 ∧ p1 ≤ ln := by
    intro w p p1 w1 hp h
    obtain ⟨s2, -, h2, -⟩ := s131_0 (d := d) (a := 0) (by omega) hm (by omega) s p w hx2 hp (fun c hc => by omega)
    rw [h] at h2
    exact h2.2.2.1
  obtain ⟨s9, n9, -, rb, -⟩ := m132 (d := d) (by omega) hm hx2
  have new : ∀ s2 : ZS, s2 148 2 = 0 → s2 172 5 = 0 → TX s2 := fun s2 h1 h2 => ⟨tx, 0, ⟨h1, by omega, fun i hi => by omega, fun i hi => by omega⟩, h2, by omega, fun i hi => by omega, fun i hi => by omega⟩
  cases hF : pgo tx ln 8 0 0 (fun _ _ => 0) with
  | inl F =>
    rw [hF] at rb
    obtain ⟨-, rb⟩ := rb
    obtain ⟨s1, f1, l1, a1, e1⟩ := s68_f (d := d) (by omega) hg hv hb hn hx1 hF
    have c1 : ∀ c, s1 173 c = s 173 c := fun c => f1 173 c (by omega) (by omega) (by omega) (by omega)
    have t1 : TXR s1 tx ln := by
      obtain ⟨x1, x2, x3, x4⟩ := hx2
      exact ⟨by rw [f1 172 5 (by omega) (by omega) (by omega) (by omega)]; exact x1, x2, fun i hi => by rw [f1 176 i (by omega) (by omega) (by omega) (by omega)]; exact x3 i hi, x4⟩
    obtain ⟨s2, f2, l3, c2, e2⟩ := s132_f (d := d) (by omega) hm t1 hF
    have fa : ∀ a c, (a ≠ 172 ∨ (c < 10 ∧ c ≠ 5)) → (a ≠ 148 ∨ (c ≠ 2 ∧ c ≠ 3 ∧ c ≠ 4 ∧ c ≠ 5)) → (a < 151 ∨ 158 < a) → a ≠ 187 → s2 a c = s a c := fun a c h1 h2 h3 h4 => by
      by_cases e : a = 173
      · rw [e, c2, c1]
      · rw [f2 a c h1 (by omega) h4]
        by_cases e2 : a < 148
        · exact a1 a c e2
        · exact f1 a c (by omega) (by omega) h2 h3
    exact ⟨_, s1, s2, by omega, ⟨(fun i => by first | exact hs i | (simp (disch := omega) only [up_ne, bcm_ne, flo_o, apd, hld]; exact hs i) | exact (f1 1000000 i (by omega)).trans (hs i) | exact (f1 1000000 i (by omega) (by omega)).trans (hs i) | exact (f1 1000000 i (by omega) (by omega) (by omega) (by omega)).trans (hs i) | exact (g1 1000000 i (by omega)).trans (hs i)), ⟨fun i => by rw [fa 1000000 i (by omega) (by omega) (by omega) (by omega)]; exact hs i, ⟨B, N, R, T, WS_c hW (fun a c ha => fa a c (by omega) (by omega) (by omega) (by omega))⟩, LIM_c hl1 (fun a ha => fa a 1 (by omega) (by omega) (by omega) (by omega)), LIM_c hl2 (fun a ha => fa a 1 (by omega) (by omega) (by omega) (by omega)), KP_c hk (fun a c ha => fa a c (by omega) (by omega) (by omega) (by omega)), new s2 (by rw [f2 148 2 (by omega) (by omega) (by omega)]; exact l1) l3, TP_c ht (fun a c ha => fa a c (by omega) (by omega) (by omega) (by omega))⟩⟩, e1, e2⟩
  | inr pw =>
    obtain ⟨n, Wr⟩ := pw
    have hWr := kpg hc 8 0 0 _ n Wr (by omega) (fun i hi => by omega) hF
    obtain ⟨h18, s1, f1, l1, cv1, e1⟩ := s68_y (d := d) (by omega) hg hv hb hn hx1 hF hWr
    have c1 : ∀ c, s1 173 c = s 173 c := fun c => f1 173 c (by omega) (by omega) (by omega) (by omega)
    have t1 : TXR s1 tx ln := by
      obtain ⟨x1, x2, x3, x4⟩ := hx2
      exact ⟨by rw [f1 172 5 (by omega) (by omega) (by omega) (by omega)]; exact x1, x2, fun i hi => by rw [f1 176 i (by omega) (by omega) (by omega) (by omega)]; exact x3 i hi, x4⟩
    obtain ⟨-, s2, f2, l3, rv2, e2⟩ := s132_y (d := d) (by omega) hm (RV_e hv2 c1) hb hn t1 hF hWr
    have ab := adl_b Wr n.toNat 0 N B ⟨hn.1, hn.2.1⟩
    have fa : ∀ a c, (a < 3 ∨ 43 ≤ a) → (a ≠ 1 ∨ c ≠ 5) → (a ≠ 172 ∨ (c < 10 ∧ c ≠ 5)) → (a ≠ 148 ∨ (c ≠ 2 ∧ c ≠ 3 ∧ c ≠ 4 ∧ c ≠ 5)) → (a < 151 ∨ 158 < a) → a ≠ 187 → (a ≠ 173 ∨ 360 < c) → s2 a c = s a c := fun a c h0 h0' h1 h2 h3 h4 h5 => by
      rw [f2 a c h1 (by omega) h4]
      exact f1 a c (by omega) h0' h2 h3
    refine ⟨_, s1, s2, by omega, ⟨(fun i => by first | exact hs i | (simp (disch := omega) only [up_ne, bcm_ne, flo_o, apd, hld]; exact hs i) | exact (f1 1000000 i (by omega)).trans (hs i) | exact (f1 1000000 i (by omega) (by omega)).trans (hs i) | exact (f1 1000000 i (by omega) (by omega) (by omega) (by omega)).trans (hs i) | exact (g1 1000000 i (by omega)).trans (hs i)), ⟨fun i => by rw [fa 1000000 i (by omega) (by omega) (by omega) (by omega) (by omega) (by omega) (by omega)]; exact hs i, ⟨_, _, R, T, CV_c cv1 (by omega) (fun a c ha => f2 a c (by omega) (by omega) (by omega)), rv2, OKB_a Wr n.toNat 0 N B (fun m hm => hWr m (by omega)) hb, K0_a n.toNat 0 N B hk0, by omega, RWS_c hw (fun a c ha => fa a c (by omega) (by omega) (by omega) (by omega) (by omega) (by omega) (by omega)) (fun c hc => fa 173 c (by omega) (by omega) (by omega) (by omega) (by omega) (by omega) (by omega))⟩, LIM_c hl1 (fun a ha => fa a 1 (by omega) (by omega) (by omega) (by omega) (by omega) (by omega) (by omega)), LIM_c hl2 (fun a ha => fa a 1 (by omega) (by omega) (by omega) (by omega) (by omega) (by omega) (by omega)), KP_c hk (fun a c ha => fa a c (by omega) (by omega) (by omega) (by omega) (by omega) (by omega) (by omega)), new s2 (by rw [f2 148 2 (by omega) (by omega) (by omega)]; exact l1) l3, TP_c ht (fun a c ha => fa a c (by omega) (by omega) (by omega) (by omega) (by omega) (by omega) (by omega))⟩⟩, e1, e2⟩
set_option maxRecDepth 8000 in
theorem r70 {d : Nat} {G : XS} {s : ZS} {sx : Int → Int} {b x : Int} (hd : 30 ≤ d) (hg : LOK G 1 50 99) (hm : MOK G) (hR : REL s sx) (ib : ir b) (ix : ir x) : PRS G d 70 151 [zint b, zint x] s sx := by
  obtain ⟨hs, ⟨B, N, R, T, hW⟩, hl1, hl2, hk, hx, ht⟩ := id hR
  obtain ⟨hv, hv2, hb, hk0, hn9, hw⟩ := id hW
  have hn : 0 ≤ N ∧ N ≤ 40 ∧ 0 ≤ R ∧ R ≤ 10 ∧ 0 ≤ T ∧ T ≤ 20000 := by omega
  by_cases q : hr B N b
  · have b0 := hb b q.1
    have pb := pt_b (B := B) (N := N) (R := R) (m := b)
    have db := dpn_b 10 (pt B N R b)
    have mb := mtg_b (B := B) (N := N) (m := b) hn.1
    by_cases q1 : 0 ≤ x ∧ x ≤ 11
    · rcases (show x = 0 ∨ x = 1 ∨ x = 2 ∨ x = 3 ∨ x = 4 ∨ x = 5 ∨ x = 6 ∨ x = 7 ∨ x = 8 ∨ x = 9 ∨ x = 10 ∨ x = 11 by omega) with rfl | rfl | rfl | rfl | rfl | rfl | rfl | rfl | rfl | rfl | rfl | rfl
      · exact ⟨_, s, s, by omega, ⟨hs, hR⟩, fun Q => s70_0 (Q := Q) (d := d) (by omega) hg hv hb hn q, fun Q => s151_0 (Q := Q) (d := d) (by omega) hm hv2 hb hn q⟩
      · exact ⟨_, s, s, by omega, ⟨hs, hR⟩, fun Q => s70_1 (Q := Q) (d := d) (by omega) hg hv hb hn q, fun Q => s151_1 (Q := Q) (d := d) (by omega) hm hv2 hb hn q⟩
      · exact ⟨_, s, s, by omega, ⟨hs, hR⟩, fun Q => s70_2 (Q := Q) (d := d) (by omega) hg hv hb hn q, fun Q => s151_2 (Q := Q) (d := d) (by omega) hm hv2 hb hn q⟩
      · exact ⟨_, s, s, by omega, ⟨hs, hR⟩, fun Q => s70_3 (Q := Q) (d := d) (by omega) hg hv hb hn q, fun Q => s151_3 (Q := Q) (d := d) (by omega) hm hv2 hb hn q⟩
      · exact ⟨_, s, s, by omega, ⟨hs, hR⟩, fun Q => s70_4 (Q := Q) (d := d) (by omega) hg hv hb hn q, fun Q => s151_4 (Q := Q) (d := d) (by omega) hm hv2 hb hn q⟩
      · exact ⟨_, s, s, by omega, ⟨hs, hR⟩, fun Q => s70_5 (Q := Q) (d := d) (by omega) hg hv hb hn q, fun Q => s151_5 (Q := Q) (d := d) (by omega) hm hv2 hb hn q⟩
      · exact ⟨_, s, s, by omega, ⟨hs, hR⟩, fun Q => s70_6 (Q := Q) (d := d) (by omega) hg hv hb hn q, fun Q => s151_6 (Q := Q) (d := d) (by omega) hm hv2 hb hn q⟩
      · exact ⟨_, s, s, by omega, ⟨hs, hR⟩, fun Q => s70_7 (Q := Q) (d := d) (by omega) hg hv hb hn q, fun Q => s151_7 (Q := Q) (d := d) (by omega) hm hv2 hb hn q⟩
      · exact ⟨_, s, s, by omega, ⟨hs, hR⟩, fun Q => s70_8 (Q := Q) (d := d) (by omega) hg hv hb hn q, fun Q => s151_8 (Q := Q) (d := d) (by omega) hm hv2 hb hn q⟩
      · exact ⟨_, s, s, by omega, ⟨hs, hR⟩, fun Q => s70_9 (Q := Q) (d := d) (by omega) hg hv hb hn q, fun Q => s151_9 (Q := Q) (d := d) (by omega) hm hv2 hb hn q⟩
      · have m1 := mul_b (c := 100) (a := (B b 2 + B b 4 - 1) / 16 - B b 2 / 16 + 1) (b := (B b 3 + B b 5 - 1) / 16 - B b 3 / 16 + 1) (by omega) (by omega)
        exact ⟨_, s, s, by omega, ⟨hs, hR⟩, fun Q => s70_10 (Q := Q) (d := d) (by omega) hg hv hb hn q, fun Q => s151_10 (Q := Q) (d := d) (by omega) hm hv2 hb hn q⟩
      · exact ⟨_, s, s, by omega, ⟨hs, hR⟩, fun Q => s70_11 (Q := Q) (d := d) (by omega) hg hv hb hn q, fun Q => s151_11 (Q := Q) (d := d) (by omega) hm hv2 hb hn q⟩
    · exact ⟨_, s, s, by omega, ⟨hs, hR⟩, fun Q => s70_b (Q := Q) (d := d) (by omega) hg hv hb hn q ix q1, fun Q => s151_b (Q := Q) (d := d) (by omega) hm hv2 hb hn q ix q1⟩
  · exact ⟨_, s, s, by omega, ⟨hs, hR⟩, fun Q => s70_n (Q := Q) (d := d) (by omega) hg hv hb hn ib q, fun Q => s151_n (Q := Q) (d := d) (by omega) hm hv2 hb hn ib q⟩
set_option maxRecDepth 8000 in
theorem r71 {d : Nat} {G : XS} {s : ZS} {sx : Int → Int} {p x : Int} (hd : 30 ≤ d) (hg : LOK G 1 50 99) (hm : MOK G) (hR : REL s sx) (ip : ir p) (ix : ir x) : PRS G d 71 141 [zint p, zint x] s sx := by
  obtain ⟨hs, ⟨B, N, R, T, hW⟩, hl1, hl2, hk, hx, ht⟩ := id hR
  obtain ⟨hv, hv2, hb, hk0, hn9, hw⟩ := id hW
  have hn : 0 ≤ N ∧ N ≤ 40 ∧ 0 ≤ R ∧ R ≤ 10 ∧ 0 ≤ T ∧ T ≤ 20000 := by omega
  by_cases q : 0 ≤ x ∧ x ≤ 3
  · by_cases q1 : 0 ≤ p ∧ p ≤ 99999
    · obtain ⟨n, h5, hdg⟩ := dig_x q1
      have wb := wn_b (B := B) (N := N) (k := n) (ix := ixf n p) hn.1
      have c1 := cn_b (fun j => inp B N R n (ixf n p) j) 0 N hn.1
      have c2 := kth_b (p := fun j => inp B N R n (ixf n p) j) (i := 0) (N := N) (m := 0) (Int.le_refl 0) hn.1
      by_cases q2 : sqn B N R n p
      · rcases (show x = 0 ∨ x = 1 ∨ x = 2 ∨ x = 3 by omega) with rfl | rfl | rfl | rfl
        · obtain ⟨s2, f2, e2⟩ := s141_k (d := d) (x := 0) (by omega) hm hv2 hb hn q1 (Or.inl rfl) hdg h5 q2
          exact ⟨_, s, s2, by omega, ⟨hs, REL_n hR (nop_w (frw_r f2))⟩, fun Q => s71_0 (Q := Q) (d := d) (by omega) hg hv hb hn ip hdg h5 q2, fun Q => by rw [e2, if_pos rfl]⟩
        · obtain ⟨s2, f2, e2⟩ := s141_1 (d := d) (by omega) hm hv2 hb hn q1 hdg h5 q2
          exact ⟨_, s, s2, by omega, ⟨hs, REL_n hR (nop_w (frw_r f2))⟩, fun Q => s71_1 (Q := Q) (d := d) (by omega) hg hv hb hn ip hdg h5 q2, e2⟩
        · obtain ⟨s2, f2, e2⟩ := s141_2 (d := d) (by omega) hm hv2 hb hn q1 hdg h5 q2
          have b1 := bi_ge ((n : Int) < 5 ∧ R < wn B N n (ixf n p))
          have b2 := bi_le ((n : Int) < 5 ∧ R < wn B N n (ixf n p))
          exact ⟨_, s, s2, by omega, ⟨hs, REL_n hR (nop_w (frw_r f2))⟩, fun Q => s71_2 (Q := Q) (d := d) (by omega) hg hv hb hn ip hdg h5 q2, e2⟩
        · obtain ⟨s2, f2, e2⟩ := s141_k (d := d) (x := 3) (by omega) hm hv2 hb hn q1 (Or.inr rfl) hdg h5 q2
          exact ⟨_, s, s2, by omega, ⟨hs, REL_n hR (nop_w (frw_r f2))⟩, fun Q => s71_3 (Q := Q) (d := d) (by omega) hg hv hb hn ip hdg h5 q2, fun Q => by rw [e2, if_neg (by omega)]⟩
      · obtain ⟨s2, f2, e2⟩ := s141_n (d := d) (x := x) (by omega) hm hv2 hb hn q1 q hdg h5 q2
        exact ⟨_, s, s2, by omega, ⟨hs, REL_n hR (nop_w (frw_r f2))⟩, fun Q => s71_n (Q := Q) (d := d) (by omega) hg hv hb hn ip ix q hdg h5 q2, e2⟩
    · exact ⟨_, s, s, by omega, ⟨hs, hR⟩, fun Q => s71_r (Q := Q) (d := d) (by omega) hg hv hb hn ip ix q (by omega), fun Q => s141_w (Q := Q) (d := d) (by omega) hm hv2 hb hn ip ix (by omega)⟩
  · exact ⟨_, s, s, by omega, ⟨hs, hR⟩, fun Q => s71_w (Q := Q) (d := d) (by omega) hg hv hb hn ip ix q, fun Q => s141_w (Q := Q) (d := d) (by omega) hm hv2 hb hn ip ix (Or.inr (Or.inr q))⟩
set_option maxRecDepth 8000 in
theorem r72 {d : Nat} {G : XS} {s : ZS} {sx : Int → Int} {x y z : Int} (hd : 30 ≤ d) (hg : LOK G 1 50 99) (hm : MOK G) (hR : REL s sx) (ix : ir x) (iy : ir y) (iz : ir z) : PRS G d 72 145 [zint x, zint y, zint z] s sx := by
  obtain ⟨hs, ⟨B, N, R, T, hW⟩, hl1, hl2, hk, hx, ht⟩ := id hR
  obtain ⟨hv, hv2, hb, hk0, hn9, hw⟩ := id hW
  have hn : 0 ≤ N ∧ N ≤ 40 ∧ 0 ≤ R ∧ R ≤ 10 ∧ 0 ≤ T ∧ T ≤ 20000 := by omega
  have c1 := cn_b (fun j => B j 8 = 1 ∧ cov (B j 2) (B j 3) (B j 4) (B j 5) (x * 16) (y * 16) 16 16) 0 N hn.1
  have c2 := kth_b (p := fun j => B j 8 = 1 ∧ cov (B j 2) (B j 3) (B j 4) (B j 5) (x * 16) (y * 16) 16 16) (i := 0) (N := N) (m := z - 1) (Int.le_refl 0) hn.1
  by_cases q : ((0 ≤ x ∧ x ≤ 7) ∧ 0 ≤ y ∧ y ≤ 7) ∧ 0 ≤ z
  · by_cases q2 : z = 0
    · subst q2
      exact ⟨_, s, s, by omega, ⟨hs, hR⟩, fun Q => s72_0 (Q := Q) (d := d) (by omega) hg hv hb hn ix iy iz q.1 rfl, fun Q => s145_0 (Q := Q) (d := d) (by omega) hm hv2 hb hn q.1.1 q.1.2⟩
    · exact ⟨_, s, s, by omega, ⟨hs, hR⟩, fun Q => s72_y (Q := Q) (d := d) (by omega) hg hv hb hn ix iy iz q.1 (by omega), fun Q => s145_y (Q := Q) (d := d) (by omega) hm hv2 hb hn q.1.1 q.1.2 (by omega)⟩
  · exact ⟨_, s, s, by omega, ⟨hs, hR⟩, fun Q => s72_n (Q := Q) (d := d) (by omega) hg hv hb hn ix iy iz q, fun Q => s145_n (Q := Q) (d := d) (by omega) hm hv2 hb hn ix iy iz q⟩
set_option maxRecDepth 8000 in
theorem r73 {d : Nat} {G : XS} {s : ZS} {sx : Int → Int} {x : Int} (hd : 30 ≤ d) (hg : LOK G 1 50 99) (hm : MOK G) (hR : REL s sx) (ix : ir x) : PRS G d 73 150 [zint x] s sx := by
  obtain ⟨hs, ⟨B, N, R, T, hW⟩, hl1, hl2, hk, hx, ht⟩ := id hR
  obtain ⟨hv, hv2, hb, hk0, hn9, hw⟩ := id hW
  have hn : 0 ≤ N ∧ N ≤ 40 ∧ 0 ≤ R ∧ R ≤ 10 ∧ 0 ≤ T ∧ T ≤ 20000 := by omega
  have b1 := prs_b (B := B) ⟨hn.1, hn.2.1⟩
  have b2 := tcl_b (B := B) (N := N)
  have b3 := sqa_b (B := B) (R := R) ⟨hn.1, hn.2.1⟩
  have b4 := gdn_b (B := B) (N := N) (R := R) 5 0
  by_cases q : 0 ≤ x ∧ x ≤ 5
  · rcases (show x = 0 ∨ x = 1 ∨ x = 2 ∨ x = 3 ∨ x = 4 ∨ x = 5 by omega) with rfl | rfl | rfl | rfl | rfl | rfl
    · exact ⟨_, s, s, by omega, ⟨hs, hR⟩, fun Q => s73_0 (Q := Q) (d := d) (by omega) hg hv hb hn , fun Q => s150_0 (Q := Q) (d := d) (by omega) hm hv2 hb hn ⟩
    · obtain ⟨s1, f1, e1⟩ := s73_1 (d := d) (by omega) hg hv hb hn
      have n1 := nop_y f1
      obtain ⟨s2, f2, e2⟩ := s150_1 (d := d) (by omega) hm (WS_n hW n1).2.1 hb hn
      exact ⟨_, s1, s2, by omega, ⟨SC_n hs n1, REL_n hR (nop_t n1 (nop_w f2))⟩, e1, e2⟩
    · obtain ⟨s1, f1, e1⟩ := s73_2 (d := d) (by omega) hg hv hb hn
      have n1 := nop_y f1
      obtain ⟨s2, f2, e2⟩ := s150_2 (d := d) (by omega) hm (WS_n hW n1).2.1 hb hn
      exact ⟨_, s1, s2, by omega, ⟨SC_n hs n1, REL_n hR (nop_t n1 (nop_w f2))⟩, e1, e2⟩
    · exact ⟨_, s, s, by omega, ⟨hs, hR⟩, fun Q => s73_3 (Q := Q) (d := d) (by omega) hg hv hb hn , fun Q => s150_3 (Q := Q) (d := d) (by omega) hm hv2 hb hn ⟩
    · exact ⟨_, s, s, by omega, ⟨hs, hR⟩, fun Q => s73_4 (Q := Q) (d := d) (by omega) hg hv hb hn , fun Q => s150_4 (Q := Q) (d := d) (by omega) hm hv2 hb hn ⟩
    · exact ⟨_, s, s, by omega, ⟨hs, hR⟩, fun Q => s73_5 (Q := Q) (d := d) (by omega) hg hv hb hn , fun Q => s150_5 (Q := Q) (d := d) (by omega) hm hv2 hb hn ⟩
  · exact ⟨_, s, s, by omega, ⟨hs, hR⟩, fun Q => s73_n (Q := Q) (d := d) (by omega) hg hv hb hn ix q, fun Q => s150_n (Q := Q) (d := d) (by omega) hm hv2 hb hn ix q⟩
set_option maxRecDepth 8000 in
theorem r74 {d : Nat} {G : XS} {s : ZS} {sx : Int → Int} {b x y : Int} (hd : 30 ≤ d) (hg : LOK G 1 50 99) (hm : MOK G) (hR : REL s sx) (ib : ir b) (ix : ir x) (iy : ir y) : PRS G d 74 154 [zint b, zint x, zint y] s sx := by
  obtain ⟨hs, ⟨B, N, R, T, hW⟩, hl1, hl2, hk, hx, ht⟩ := id hR
  obtain ⟨hv, hv2, hb, hk0, hn9, hw⟩ := id hW
  have hn : 0 ≤ N ∧ N ≤ 40 ∧ 0 ≤ R ∧ R ≤ 10 ∧ 0 ≤ T ∧ T ≤ 20000 := by omega
  by_cases q : hr B N b
  · have b0 := hb b q.1
    by_cases q1 : (0 ≤ x ∧ x ≤ 127) ∧ 0 ≤ y ∧ y ≤ 127
    · have f := fr_b (px := x) (py := y) (x := B b 2) (y := B b 3) (w := B b 4) (h := B b 5) q1.1 q1.2 (by omega) (by omega) (by omega) (by omega)
      exact ⟨_, s, s, by omega, ⟨hs, hR⟩, fun Q => s74_y (Q := Q) (d := d) (by omega) hg hv hb hn q ix iy q1, fun Q => s154 (Q := Q) (d := d) (by omega) hm hv2 hb hn q ib q1.1 q1.2⟩
    · exact ⟨_, s, s, by omega, ⟨hs, hR⟩, fun Q => s74_b (Q := Q) (d := d) (by omega) hg hv hb hn q ix iy q1, fun Q => s154_n (Q := Q) (d := d) (by omega) hm hv2 hb hn ib ix iy (fun h => q1 h.2)⟩
  · exact ⟨_, s, s, by omega, ⟨hs, hR⟩, fun Q => s74_n (Q := Q) (d := d) (by omega) hg hv hb hn ib q, fun Q => s154_n (Q := Q) (d := d) (by omega) hm hv2 hb hn ib ix iy (fun h => q h.1)⟩
set_option maxRecDepth 8000 in
theorem r75 {d : Nat} {G : XS} {s : ZS} {sx : Int → Int} {x y t k : Int} (hd : 30 ≤ d) (hg : LOK G 1 50 99) (hm : MOK G) (hR : REL s sx) (ix : ir x) (iy : ir y) (it : ir t) (ik : ir k) : PRS G d 75 157 [zint x, zint y, zint t, zint k] s sx := by
  obtain ⟨hs, ⟨B, N, R, T, hW⟩, hl1, hl2, hk, hx, ht⟩ := id hR
  obtain ⟨hv, hv2, hb, hk0, hn9, hw⟩ := id hW
  have hn : 0 ≤ N ∧ N ≤ 40 ∧ 0 ≤ R ∧ R ≤ 10 ∧ 0 ≤ T ∧ T ≤ 20000 := by omega
  have nb := nr_b (B := B) (N := N) (px := x) (py := y) (t := t) (k := k) hn.1
  by_cases q : ((0 ≤ x ∧ x ≤ 127) ∧ 0 ≤ y ∧ y ≤ 127) ∧ (0 ≤ t ∧ t ≤ 4) ∧ 0 ≤ k
  · exact ⟨_, s, s, by omega, ⟨hs, hR⟩, fun Q => s75_y (Q := Q) (d := d) (by omega) hg hv hb hn ix iy it ik q.1 q.2.1 q.2.2, fun Q => s157_y (Q := Q) (d := d) (by omega) hm hv2 hb hn ix iy it ik q.1 q.2.1 q.2.2⟩
  · exact ⟨_, s, s, by omega, ⟨hs, hR⟩, fun Q => s75_n (Q := Q) (d := d) (by omega) hg hv hb hn ix iy it ik q, fun Q => s157_n (Q := Q) (d := d) (by omega) hm hv2 hb hn ix iy it ik q⟩
set_option maxRecDepth 8000 in
theorem r76 {d : Nat} {G : XS} {s : ZS} {sx : Int → Int} {x y w hh : Int} (hd : 30 ≤ d) (hg : LOK G 1 50 99) (hm : MOK G) (hR : REL s sx) (ix : ir x) (iy : ir y) (iw : ir w) (ihh : ir hh) : PRL G d 76 158 [zint x, zint y, zint w, zint hh] s sx := by
  obtain ⟨hs, ⟨B, N, R, T, hW⟩, hl1, hl2, hk, hx, ht⟩ := id hR
  obtain ⟨hv, hv2, hb, hk0, hn9, hw⟩ := id hW
  have hn : 0 ≤ N ∧ N ≤ 40 ∧ 0 ≤ R ∧ R ≤ 10 ∧ 0 ≤ T ∧ T ≤ 20000 := by omega
  by_cases q : (1 ≤ w ∧ 1 ≤ hh) ∧ ((0 ≤ x ∧ x ≤ 128 - w) ∧ 0 ≤ y ∧ y ≤ 128 - hh)
  · exact ⟨_, s, s, wd_b 0 (Int.le_refl 0) hn.1 0 (by omega), ⟨hs, hR⟩, fun Q => s76_y (Q := Q) (d := d) (by omega) hg hv hb hn ix iy iw ihh q.1 q.2, fun Q => s158_y (Q := Q) (d := d) (by omega) hm hv2 hb hn ix iy iw ihh q.1 q.2⟩
  · exact ⟨_, s, s, by omega, ⟨hs, hR⟩, fun Q => s76_n (Q := Q) (d := d) (by omega) hg hv hb hn ix iy iw ihh q, fun Q => s158_n (Q := Q) (d := d) (by omega) hm hv2 hb hn ix iy iw ihh q⟩
set_option maxRecDepth 8000 in
theorem r77 {d : Nat} {G : XS} {s : ZS} {sx : Int → Int} {k : Int} (hd : 30 ≤ d) (hg : LOK G 1 50 99) (hm : MOK G) (hR : REL s sx) (ik : ir k) : PRS G d 77 159 [zint k] s sx := by
  obtain ⟨hs, ⟨B, N, R, T, hW⟩, hl1, hl2, hk, hx, ht⟩ := id hR
  obtain ⟨hv, hv2, hb, hk0, hn9, hw⟩ := id hW
  have hn : 0 ≤ N ∧ N ≤ 40 ∧ 0 ≤ R ∧ R ≤ 10 ∧ 0 ≤ T ∧ T ≤ 20000 := by omega
  have pb := pn_b (B := B) (N := N) (k := k) ⟨hn.1, hn.2.1⟩
  by_cases q : k < 0
  · exact ⟨_, s, s, by omega, ⟨hs, hR⟩, fun Q => s77_n (Q := Q) (d := d) (by omega) hg hv hb hn ik q, fun Q => s159_n (Q := Q) (d := d) (by omega) hm hv2 hb hn ik q⟩
  · exact ⟨_, s, s, by omega, ⟨hs, hR⟩, fun Q => s77_y (Q := Q) (d := d) (by omega) hg hv hb hn ik (by omega), fun Q => s159_y (Q := Q) (d := d) (by omega) hm hv2 hb hn ik (by omega)⟩
set_option maxRecDepth 8000 in
theorem r78 {d : Nat} {G : XS} {s : ZS} {sx : Int → Int} {n : Int} (hd : 30 ≤ d) (hg : LOK G 1 50 99) (hm : MOK G) (hR : REL s sx) (iN : ir n) : PRS G d 78 162 [zint n] s sx := by
  obtain ⟨hs, ⟨B, N, R, T, hW⟩, hl1, hl2, hk, hx, ht⟩ := id hR
  obtain ⟨hv, hv2, hb, hk0, hn9, hw⟩ := id hW
  have hn : 0 ≤ N ∧ N ≤ 40 ∧ 0 ≤ R ∧ R ≤ 10 ∧ 0 ≤ T ∧ T ≤ 20000 := by omega
  by_cases q : 0 ≤ n ∧ n ≤ 40
  · by_cases q2 : T + n ≤ 9999
    · obtain ⟨s1, f1, cv1, e1⟩ := s78_y (d := d) (by omega) hg hv hb hn q q2
      obtain ⟨s2, f2, rv2, e2⟩ := s162_y (d := d) (s := s1) (by omega) hm (RV_e hv2 (fun c => f1 173 c (by omega) (by omega))) hb hn q q2
      exact ⟨_, s1, s2, by omega, ⟨(fun i => by first | exact hs i | (simp (disch := omega) only [up_ne, bcm_ne, flo_o, apd, hld]; exact hs i) | exact (f1 1000000 i (by omega)).trans (hs i) | exact (f1 1000000 i (by omega) (by omega)).trans (hs i) | exact (f1 1000000 i (by omega) (by omega) (by omega) (by omega)).trans (hs i) | exact (g1 1000000 i (by omega)).trans (hs i)), REL_b hR hW (fun a c h1 h2 h3 => by rw [f2 a c (by omega), f1 a c (by omega) (by omega)]) (CV_c cv1 hn.2.1 (fun a c ha => f2 a c (by omega))) rv2 (OKB_i n.toNat hb) (K0_i n.toNat hk0) (by omega)⟩, e1, e2⟩
    · exact ⟨_, s, s, by omega, ⟨hs, hR⟩, fun Q => s78_s (Q := Q) (d := d) (by omega) hg hv hb hn iN q (by omega), fun Q => s162_s (Q := Q) (d := d) (by omega) hm hv2 hb hn iN q (by omega)⟩
  · exact ⟨_, s, s, by omega, ⟨hs, hR⟩, fun Q => s78_b (Q := Q) (d := d) (by omega) hg hv hb hn iN q, fun Q => s162_b (Q := Q) (d := d) (by omega) hm hv2 hb hn iN q⟩
set_option maxRecDepth 8000 in
theorem r79 {d : Nat} {G : XS} {s : ZS} {sx : Int → Int} {n w : Int} (hd : 30 ≤ d) (hg : LOK G 1 50 99) (hm : MOK G) (hR : REL s sx) (iN : ir n) (iw : ir w) : PRS G d 79 164 [zint n, zint w] s sx := by
  obtain ⟨hs, ⟨B, N, R, T, hW⟩, hl1, hl2, hk, hx, ht⟩ := id hR
  obtain ⟨hv, hv2, hb, hk0, hn9, hw⟩ := id hW
  have hn : 0 ≤ N ∧ N ≤ 40 ∧ 0 ≤ R ∧ R ≤ 10 ∧ 0 ≤ T ∧ T ≤ 20000 := by omega
  by_cases q0 : w = 0
  · by_cases q : 0 ≤ n ∧ n ≤ 40
    · have b1 := prs_b (B := itb n.toNat B) ⟨hn.1, hn.2.1⟩
      obtain ⟨s1, f1, e1⟩ := s79_0 (d := d) (n := n) (w := w) (by omega) hg hv hb hn iN iw q0 q hn9.2.2.2.2.2
      have n1 := nop_v f1
      subst q0
      obtain ⟨s2, f2, e2⟩ := s164_0 (d := d) (n := n) (w := 0) (by omega) hm (WS_n hW n1).2.1 hb hn rfl q hn9.2.2.2.2.2
      exact ⟨_, s1, s2, by omega, ⟨SC_n hs n1, REL_n hR (nop_t n1 (nop_w f2))⟩, e1, e2⟩
    · exact ⟨_, s, s, by omega, ⟨hs, hR⟩, fun Q => s79_b (Q := Q) (d := d) (by omega) hg hv hb hn iN iw (Or.inl q0) q, fun Q => s164_b (Q := Q) (d := d) (by omega) hm hv2 hb hn iN iw (Or.inl q0) q⟩
  · by_cases q1 : (100 ≤ w ∧ w ≤ 399) ∧ hr B N (w % 100)
    · have q2 := q1.2
      by_cases q : 0 ≤ n ∧ n ≤ 40
      · have bt := OKB_i n.toNat hb (w % 100) q2.1
        have pb := pt_b (B := itb n.toNat B) (N := N) (R := R) (m := w % 100)
        rcases (show (100 ≤ w ∧ w ≤ 199) ∨ (200 ≤ w ∧ w ≤ 299) ∨ (300 ≤ w ∧ w ≤ 399) by omega) with h | h | h
        · obtain ⟨s1, f1, e1⟩ := s79_1 (d := d) (n := n) (w := w) (by omega) hg hv hb hn iN iw ⟨by omega, q2⟩ q hn9.2.2.2.2.2
          have n1 := nop_v f1
          obtain ⟨s2, f2, e2⟩ := s164_1 (d := d) (n := n) (w := w) (by omega) hm (WS_n hW n1).2.1 hb hn iw ⟨by omega, q2⟩ q hn9.2.2.2.2.2
          exact ⟨_, s1, s2, by omega, ⟨SC_n hs n1, REL_n hR (nop_t n1 (nop_w f2))⟩, e1, e2⟩
        · obtain ⟨s1, f1, e1⟩ := s79_2 (d := d) (n := n) (w := w) (by omega) hg hv hb hn iN iw ⟨by omega, q2⟩ q hn9.2.2.2.2.2
          have n1 := nop_v f1
          obtain ⟨s2, f2, e2⟩ := s164_2 (d := d) (n := n) (w := w) (by omega) hm (WS_n hW n1).2.1 hb hn iw ⟨by omega, q2⟩ q hn9.2.2.2.2.2
          exact ⟨_, s1, s2, by omega, ⟨SC_n hs n1, REL_n hR (nop_t n1 (nop_w f2))⟩, e1, e2⟩
        · obtain ⟨s1, f1, e1⟩ := s79_3 (d := d) (n := n) (w := w) (by omega) hg hv hb hn iN iw ⟨by omega, q2⟩ q hn9.2.2.2.2.2
          have n1 := nop_v f1
          obtain ⟨s2, f2, e2⟩ := s164_3 (d := d) (n := n) (w := w) (by omega) hm (WS_n hW n1).2.1 hb hn iw ⟨by omega, q2⟩ q hn9.2.2.2.2.2
          exact ⟨_, s1, s2, by omega, ⟨SC_n hs n1, REL_n hR (nop_t n1 (nop_w f2))⟩, e1, e2⟩
      · exact ⟨_, s, s, by omega, ⟨hs, hR⟩, fun Q => s79_b (Q := Q) (d := d) (by omega) hg hv hb hn iN iw (Or.inr q1) q, fun Q => s164_b (Q := Q) (d := d) (by omega) hm hv2 hb hn iN iw (Or.inr q1) q⟩
    · exact ⟨_, s, s, by omega, ⟨hs, hR⟩, fun Q => s79_n (Q := Q) (d := d) (by omega) hg hv hb hn iN iw q0 q1, fun Q => s164_n (Q := Q) (d := d) (by omega) hm hv2 hb hn iN iw q0 q1⟩
set_option maxRecDepth 8000 in
theorem r81 {d : Nat} {G : XS} {s : ZS} {sx : Int → Int} {a b : Int} (hd : 30 ≤ d) (hg : LOK G 1 50 99) (hm : MOK G) (hR : REL s sx) (ia : ir a) (ib : ir b) : PRS G d 81 165 [zint a, zint b] s sx := by
  obtain ⟨hs, ⟨B, N, R, T, hW⟩, hl1, hl2, hk, hx, ht⟩ := id hR
  obtain ⟨hv, hv2, hb, hk0, hn9, hw⟩ := id hW
  have hn : 0 ≤ N ∧ N ≤ 40 ∧ 0 ≤ R ∧ R ≤ 10 ∧ 0 ≤ T ∧ T ≤ 20000 := by omega
  by_cases q : hr B N a
  · by_cases q2 : hr B N b
    · by_cases q3 : B a 1 = B b 1
      · exact ⟨_, s, s, by omega, ⟨hs, hR⟩, fun Q => s81_s (Q := Q) (d := d) (by omega) hg hv hb hn ia ib q q2 q3, fun Q => s165_s (Q := Q) (d := d) (by omega) hm hv2 hb hn ia ib q q2 q3⟩
      · have fb := fm_b (a := a) (b := b) 41 B 0 (Int.le_refl 0)
        obtain ⟨s1, f1, e1⟩ := s81_y (d := d) (by omega) hg hv hb hn q q2 q3
        have n1 := nop_v f1
        obtain ⟨s2, f2, e2⟩ := s165_y (d := d) (by omega) hm (WS_n hW n1).2.1 hb hn q q2 q3 hn9.2.2.2.2.2
        exact ⟨_, s1, s2, by omega, ⟨SC_n hs n1, REL_n hR (nop_t n1 (nop_w f2))⟩, e1, e2⟩
    · exact ⟨_, s, s, by omega, ⟨hs, hR⟩, fun Q => s81_n2 (Q := Q) (d := d) (by omega) hg hv hb hn ia ib q q2, fun Q => s165_n (Q := Q) (d := d) (by omega) hm hv2 hb hn ia ib (fun h => q2 h.2)⟩
  · exact ⟨_, s, s, by omega, ⟨hs, hR⟩, fun Q => s81_n1 (Q := Q) (d := d) (by omega) hg hv hb hn ia ib q, fun Q => s165_n (Q := Q) (d := d) (by omega) hm hv2 hb hn ia ib (fun h => q h.1)⟩
