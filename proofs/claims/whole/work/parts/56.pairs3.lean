set_option maxRecDepth 8000 in
theorem r93 {d : Nat} {G : XS} {s : ZS} {sx : Int → Int} {k x : Int} (hd : 30 ≤ d) (hg : LOK G 1 50 99) (hm : MOK G) (hR : REL s sx) (ik : ir k) (ix : ir x) : PRS G d 93 179 [zint k, zint x] s sx := by
  obtain ⟨hs, ⟨B, N, R, T, hW⟩, hl1, hl2, hk, hx, ht⟩ := id hR
  obtain ⟨hv, hv2, hb, hk0, hn9, hw⟩ := id hW
  have hn : 0 ≤ N ∧ N ≤ 40 ∧ 0 ≤ R ∧ R ≤ 10 ∧ 0 ≤ T ∧ T ≤ 20000 := by omega
  by_cases hq : 0 ≤ k ∧ k < 6
  · obtain ⟨t1, t2, t3, t4, t5, t6⟩ := ht k hq
    have t7 : -1 ≤ s (160 + 2 * k) 1 ∧ s (160 + 2 * k) 1 ≤ 4 := by rw [t1]; exact t3
    have t8 : 0 ≤ s (160 + 2 * k) 2 ∧ s (160 + 2 * k) 2 ≤ 60 := by rw [t2]; exact t4
    have hj : ∀ i, 0 ≤ i ∧ i < 60 → jr (s (160 + 2 * k + 1) i) := fun i hi => by rw [(t6 i hi).1]; exact (t6 i hi).2
    have jb := jdn_b (B := B) (len := s 178 k) (it := s (180 + k)) (x := x) N.toNat 0 (Int.le_refl 0)
    by_cases q : 0 < s 177 k
    · exact ⟨_, s, s, by omega, ⟨hs, hR⟩, fun Q => s93_c (Q := Q) (d := d) (by omega) hg hv hb hn ix hq t7 (by omega), fun Q => s179_c (Q := Q) (d := d) (by omega) hm hv2 hb hn hq (by omega)⟩
    · by_cases q2 : N = 0
      · exact ⟨_, s, s, by omega, ⟨hs, hR⟩, fun Q => s93_z (Q := Q) (d := d) (by omega) hg hv hb hn ix hq t7 (by omega) q2, fun Q => s179_z (Q := Q) (d := d) (by omega) hm hv2 hb hn hq t3 (by omega) q2⟩
      · by_cases q3 : x < 0
        · exact ⟨_, s, s, by omega, ⟨hs, hR⟩, fun Q => s93_i (Q := Q) (d := d) (by omega) hg hv hb hn ix hq t7 (by omega) q2 q3, fun Q => s179_i (Q := Q) (d := d) (by omega) hm hv2 hb hn hq t3 (by omega) q2 ix (Or.inr q3)⟩
        · have e1 := fun Q => s93_y (Q := Q) (d := d) (by omega) hg hv hb hn hq ⟨by omega, ix⟩ t8 hj t7 (by omega) q2
          by_cases q4 : s 177 k = -1
          · have l0 := t5 q4
            obtain ⟨j, hj2⟩ : ∃ j, N.toNat = j + 1 := ⟨N.toNat - 1, by omega⟩
            rw [hj2, jdn_l (by rw [t2, l0]; omega), Int.add_zero] at e1
            exact ⟨100, s, s, by omega, ⟨hs, hR⟩, e1, fun Q => s179_i (Q := Q) (d := d) (by omega) hm hv2 hb hn hq t3 (by omega) q2 ix (Or.inl q4)⟩
          · have ej := jdn_e (B := B) (len := s 178 k) (it := s (160 + 2 * k + 1)) (it2 := s (180 + k)) (x := x) (by omega) t4.2 (fun i hi => (t6 i hi).1) N.toNat 0 (Int.le_refl 0)
            rw [t2, ej] at e1
            exact ⟨_, s, s, by omega, ⟨hs, hR⟩, e1, fun Q => s179_y (Q := Q) (d := d) (by omega) hm hv2 hb hn hq t4 (by omega) ⟨by omega, ix⟩ (fun i hi => (t6 i hi).2)⟩
  · exact ⟨_, s, s, by omega, ⟨hs, hR⟩, fun Q => s93_n (Q := Q) (d := d) (by omega) hg hv hb hn ik ix hq, fun Q => s179_n (Q := Q) (d := d) (by omega) hm hv2 hb hn ik hq⟩
set_option maxRecDepth 8000 in
theorem tk_2 {s : ZS} {W V N R T : Int} (h : W + 49 ≤ V ∨ V + 49 ≤ W) (hn : N ≤ 40) : tka s W V N R T (W + 43) 2 = s (V + 43) 2 ∧ tka s W V N R T (W + 45) 2 = s (V + 45) 2 ∧ tka s W V N R T (W + 47) 2 = s (V + 47) 2 := by
  unfold tka
  refine ⟨?_, ?_, ?_⟩
  · rw [rtk_o (by omega), rtk_o (by omega), rtk_2, tb_o (by omega), tb3_o (by omega)]
  · rw [rtk_o (by omega), rtk_2, rtk_o (by omega), tb_o (by omega), tb3_o (by omega)]
  · rw [rtk_2, rtk_o (by omega), rtk_o (by omega), tb_o (by omega), tb3_o (by omega)]
set_option maxRecDepth 8000 in
theorem tk_1 {s : ZS} {W V N R T : Int} (hn : N ≤ 40) : tka s W V N R T (W + 43) 1 = s (W + 43) 1 ∧ tka s W V N R T (W + 45) 1 = s (W + 45) 1 ∧ tka s W V N R T (W + 47) 1 = s (W + 47) 1 := by
  unfold tka
  refine ⟨?_, ?_, ?_⟩
  · rw [rtk_o (by omega), rtk_o (by omega), rtk_f (by omega), tb_o (by omega), tb3_o (by omega)]
  · rw [rtk_o (by omega), rtk_f (by omega), rtk_o (by omega), tb_o (by omega), tb3_o (by omega)]
  · rw [rtk_f (by omega), rtk_o (by omega), rtk_o (by omega), tb_o (by omega), tb3_o (by omega)]
set_option maxRecDepth 8000 in
theorem tk_v {s : ZS} {W V N R T c : Int} (h : W + 49 ≤ V ∨ V + 49 ≤ W) (hn : N ≤ 40) (hc : 0 ≤ c) : (c < s (V + 43) 2 * 3 → tka s W V N R T (W + 44) c = s (V + 44) c) ∧ (c < s (V + 45) 2 * 3 → tka s W V N R T (W + 46) c = s (V + 46) c) ∧ (c < s (V + 47) 2 * 3 → tka s W V N R T (W + 48) c = s (V + 48) c) := by
  have e1 : tb (tb3 s W N R T) W V N (V + 43) 2 = s (V + 43) 2 := by rw [tb_o (by omega), tb3_o (by omega)]
  have e2 : rtk (tb (tb3 s W N R T) W V N) (W + 43) (V + 43) (V + 45) 2 = s (V + 45) 2 := by rw [rtk_o (by omega), tb_o (by omega), tb3_o (by omega)]
  have e3 : rtk (rtk (tb (tb3 s W N R T) W V N) (W + 43) (V + 43)) (W + 45) (V + 45) (V + 47) 2 = s (V + 47) 2 := by rw [rtk_o (by omega), rtk_o (by omega), tb_o (by omega), tb3_o (by omega)]
  unfold tka
  refine ⟨fun h1 => ?_, fun h1 => ?_, fun h1 => ?_⟩
  · rw [rtk_o (by omega), rtk_o (by omega), show W + 44 = W + 43 + 1 by omega, rtk_v (by omega) ⟨hc, by rw [e1]; exact h1⟩, tb_o (by omega), tb3_o (by omega), show V + 43 + 1 = V + 44 by omega]
  · rw [rtk_o (by omega), show W + 46 = W + 45 + 1 by omega, rtk_v (by omega) ⟨hc, by rw [e2]; exact h1⟩, rtk_o (by omega), tb_o (by omega), tb3_o (by omega), show V + 45 + 1 = V + 46 by omega]
  · rw [show W + 48 = W + 47 + 1 by omega, rtk_v (by omega) ⟨hc, by rw [e3]; exact h1⟩, rtk_o (by omega), rtk_o (by omega), tb_o (by omega), tb3_o (by omega), show V + 47 + 1 = V + 48 by omega]
set_option maxRecDepth 8000 in
theorem RV_p {s s2 : ZS} {A A2 : Int} {B : ZS} {N R T : Int} (hv : RV s A B N R T) (hN : N ≤ 40) (e : ∀ c, 0 ≤ c ∧ c < 417 → s2 A2 c = s A c) : RV s2 A2 B N R T := by
  obtain ⟨v1, v2, v3, v4, v5, v6⟩ := hv
  exact ⟨by rw [e 360 (by omega)]; exact v1, by rw [e 361 (by omega)]; exact v2, by rw [e 362 (by omega)]; exact v3, fun i h => by rw [e (i * 9 + 8) (by omega)]; exact v4 i h, fun i f h => by rw [e (i * 9 + f) (by omega)]; exact v5 i f h, fun i h => by rw [e (i * 9 + 1) (by omega)]; exact v6 i h⟩
set_option maxRecDepth 8000 in
theorem WS_k {s s2 : ZS} {W V A A2 : Int} {B : ZS} {N R T : Int} (hw : WS s V A B N R T) (hVW : V + 49 ≤ W ∨ W + 49 ≤ V) (h1 : ∀ a c, W ≤ a ∧ a ≤ W + 48 → s2 a c = tka s W V N R T a c) (h2 : ∀ c, 0 ≤ c ∧ c < 417 → s2 A2 c = s A c) : WS s2 W A2 B N R T := by
  obtain ⟨c1, c2, c3, c4, c5, ⟨a1, a2, a3⟩, ⟨b1, b2, b3⟩, d1, d2, d3⟩ := hw
  have k2 := tk_2 (s := s) (W := W) (V := V) (N := N) (R := R) (T := T) (by omega) c5.2.1
  have kv := fun c hc => tk_v (s := s) (W := W) (V := V) (N := N) (R := R) (T := T) (c := c) (by omega) c5.2.1 hc
  have e1 := h2 363 (by omega)
  have e2 := h2 379 (by omega)
  have e3 := h2 400 (by omega)
  refine ⟨CV_c (CV_kd c1 ⟨c5.1, c5.2.1⟩ hVW) c5.2.1 (fun a c ha => h1 a c (by omega)), RV_p c2 c5.2.1 h2, c3, c4, c5, ⟨?_, ?_, fun r hr => ?_⟩, ⟨?_, ?_, fun r hr => ?_⟩, ?_, ?_, fun r hr => ?_⟩
  · rw [h1 _ _ (by omega), k2.1, e1]; exact a1
  · rw [e1]; exact a2
  · rw [e1] at hr
    have := a3 r hr
    unfold rv at this ⊢
    rw [h1 (W + 44) (r * 3 + 0) (by omega), h1 (W + 44) (r * 3 + 1) (by omega), h1 (W + 44) (r * 3 + 2) (by omega), (kv (r * 3 + 0) (by omega)).1 (by omega), (kv (r * 3 + 1) (by omega)).1 (by omega), (kv (r * 3 + 2) (by omega)).1 (by omega), h2 (364 + 3 * r) (by omega), h2 (364 + 3 * r + 1) (by omega), h2 (364 + 3 * r + 2) (by omega)]
    exact this
  · rw [h1 _ _ (by omega), k2.2.1, e2]; exact b1
  · rw [e2]; exact b2
  · rw [e2] at hr
    have := b3 r hr
    unfold rv at this ⊢
    rw [h1 (W + 46) (r * 3 + 0) (by omega), h1 (W + 46) (r * 3 + 1) (by omega), (kv (r * 3 + 0) (by omega)).2.1 (by omega), (kv (r * 3 + 1) (by omega)).2.1 (by omega), h2 (380 + 2 * r) (by omega), h2 (380 + 2 * r + 1) (by omega)]
    exact this
  · rw [h1 _ _ (by omega), k2.2.2, e3]; exact d1
  · rw [e3]; exact d2
  · rw [e3] at hr
    have := d3 r hr
    unfold rv at this ⊢
    rw [h1 (W + 48) (r * 3 + 0) (by omega), h1 (W + 48) (r * 3 + 1) (by omega), (kv (r * 3 + 0) (by omega)).2.2 (by omega), (kv (r * 3 + 1) (by omega)).2.2 (by omega), h2 (401 + 2 * r) (by omega), h2 (401 + 2 * r + 1) (by omega)]
    exact this
set_option maxRecDepth 8000 in
theorem TX_x {s s2 : ZS} (h : TX s) (f : ∀ a c, ((a = 148 ∧ c = 2) ∨ a = 149 ∨ (a = 172 ∧ c = 5) ∨ a = 176) → s2 a c = s a c) : TX s2 := by
  obtain ⟨tx, ln, ⟨a1, a2, a3, a4⟩, b1, b2, b3, b4⟩ := h
  exact ⟨tx, ln, ⟨by rw [f 148 2 (by omega)]; exact a1, a2, fun i hi => by rw [f 149 i (by omega)]; exact a3 i hi, a4⟩, by rw [f 172 5 (by omega)]; exact b1, b2, fun i hi => by rw [f 176 i (by omega)]; exact b3 i hi, b4⟩
set_option maxRecDepth 8000 in
theorem r94 {d : Nat} {G : XS} {s : ZS} {sx : Int → Int}  (hd : 30 ≤ d) (hg : LOK G 1 50 99) (hm : MOK G) (hR : REL s sx)  : PRS G d 94 180 [] s sx := by
  obtain ⟨hs, ⟨B, N, R, T, hW⟩, hl1, hl2, hk, hx, ht⟩ := id hR
  obtain ⟨hv, hv2, hb, hk0, hn9, hw⟩ := id hW
  have hn : 0 ≤ N ∧ N ≤ 40 ∧ 0 ≤ R ∧ R ≤ 10 ∧ 0 ≤ T ∧ T ≤ 20000 := by omega
  obtain ⟨⟨a1, a2, a3⟩, ⟨b1, b2, b3⟩, c1, c2, c3⟩ := id hw
  have tb := thr_b (B := B) hn.1
  have k1 := tk_1 (s := s) (W := 50) (V := 1) (N := N) (R := R) (T := T) hn.2.1
  have e1 := fun Q => s94 (Q := Q) (d := d) (by omega) hg hv hb hn hl2 (by rw [a1, b1, c1]; exact ⟨a2, b2, c2⟩)
  have f1 : ∀ a c, (a < 50 ∨ 99 ≤ a) → (a ≠ 0 ∨ c ≠ 3) → up (tka s 50 1 N R T) 0 3 1 a c = s a c := fun a c h1 h2 => by rw [up_ne (by omega), tka_o (by omega) hn.2.1]
  have rv1 : RV (up (tka s 50 1 N R T) 0 3 1) 173 B N R T := RV_e hv2 (fun c => f1 173 c (by omega) (by omega))
  have e2 := fun Q => s180 (Q := Q) (d := d) (by omega) hm rv1 hb hn
  have f2 : ∀ a c, a ≠ 175 → (a ≠ 172 ∨ c ≠ 3) → up (cpr (up (tka s 50 1 N R T) 0 3 1) 175 173 417) 172 3 1 a c = up (tka s 50 1 N R T) 0 3 1 a c := fun a c h1 h2 => by rw [up_ne (by omega), cpr_o (Or.inl h1)]
  have f3 : ∀ a c, (a < 50 ∨ 99 ≤ a) → (a ≠ 0 ∨ c ≠ 3) → a ≠ 175 → (a ≠ 172 ∨ c ≠ 3) → up (cpr (up (tka s 50 1 N R T) 0 3 1) 175 173 417) 172 3 1 a c = s a c := fun a c h1 h2 h3 h4 => by rw [f2 a c h3 h4, f1 a c h1 h2]
  have f4 : ∀ a c, 50 ≤ a ∧ a ≤ 50 + 48 → up (cpr (up (tka s 50 1 N R T) 0 3 1) 175 173 417) 172 3 1 a c = tka s 50 1 N R T a c := fun a c h1 => by rw [f2 a c (by omega) (by omega), up_ne (by omega)]
  have ws := WS_k (s2 := up (cpr (up (tka s 50 1 N R T) 0 3 1) 175 173 417) 172 3 1) (W := 50) (A2 := 175) hW (by omega) f4 (fun c hc => by rw [up_ne (by omega), cpr_i hc, f1 173 c (by omega) (by omega)])
  refine ⟨_, _, _, by omega, ⟨(fun i => by first | exact hs i | (simp (disch := omega) only [up_ne, bcm_ne, flo_o, apd, hld]; exact hs i) | exact (f1 1000000 i (by omega)).trans (hs i) | exact (f1 1000000 i (by omega) (by omega)).trans (hs i) | exact (f1 1000000 i (by omega) (by omega) (by omega) (by omega)).trans (hs i) | exact (g1 1000000 i (by omega)).trans (hs i)), ⟨fun i => by rw [f3 1000000 i (by omega) (by omega) (by omega) (by omega)]; exact hs i, ⟨B, N, R, T, WS_c hW (fun a c ha => f3 a c (by omega) (by omega) (by omega) (by omega))⟩, LIM_c hl1 (fun a ha => f3 a 1 (by omega) (by omega) (by omega) (by omega)), ?_, ⟨?_, Or.inr ⟨?_, B, N, R, T, ws⟩⟩, TX_x hx (fun a c ha => f3 a c (by omega) (by omega) (by omega) (by omega)), TP_c ht (fun a c ha => f3 a c (by omega) (by omega) (by omega) (by omega))⟩⟩, e1, e2⟩
  · obtain ⟨x, y, z⟩ := hl2
    exact ⟨((f4 (50 + 43) 1 (by omega)).trans k1.1).trans x, ((f4 (50 + 45) 1 (by omega)).trans k1.2.1).trans y, ((f4 (50 + 47) 1 (by omega)).trans k1.2.2).trans z⟩
  · rw [up_eq, up_ne (by omega), cpr_o (by omega), up_eq]
  · rw [up_ne (by omega), cpr_o (by omega), up_eq]
set_option maxRecDepth 8000 in
theorem r95 {d : Nat} {G : XS} {s : ZS} {sx : Int → Int}  (hd : 30 ≤ d) (hg : LOK G 1 50 99) (hm : MOK G) (hR : REL s sx)  : PRS G d 95 181 [] s sx := by
  obtain ⟨hs, ⟨B, N, R, T, hW⟩, hl1, hl2, hk, hx, ht⟩ := id hR
  obtain ⟨hv, hv2, hb, hk0, hn9, hw⟩ := id hW
  have hn : 0 ≤ N ∧ N ≤ 40 ∧ 0 ≤ R ∧ R ≤ 10 ∧ 0 ≤ T ∧ T ≤ 20000 := by omega
  obtain ⟨k1, k2⟩ := id hk
  rcases k2 with k2 | ⟨k2, B2, N2, R2, T2, hW2⟩
  · exact ⟨-3, s, s, by omega, ⟨hs, hR⟩, fun Q => s95_n (Q := Q) (d := d) (by omega) hg hv hb hn k2, fun Q => s181_n (Q := Q) (d := d) (by omega) hm (by rw [← k1]; exact k2)⟩
  · obtain ⟨hv3, hv4, hb3, hk3, hn8, hw3⟩ := id hW2
    obtain ⟨⟨a1, a2, a3⟩, ⟨b1, b2, b3⟩, c1, c2, c3⟩ := id hw3
    have hn7 : 0 ≤ N2 ∧ N2 ≤ 40 ∧ 0 ≤ R2 ∧ R2 ≤ 10 ∧ 0 ≤ T2 ∧ T2 ≤ 20000 := by omega
    have tb := thr_b (B := B2) hn7.1
    have kk := tk_1 (s := s) (W := 1) (V := 50) (N := N2) (R := R2) (T := T2) hn7.2.1
    have e1 := fun Q => s95_y (Q := Q) (d := d) (by omega) hg hv3 hb3 hn7 k2 hl1 (by rw [a1, b1, c1]; exact ⟨a2, b2, c2⟩)
    have f1 : ∀ a c, (a < 1 ∨ 50 ≤ a) → tka s 1 50 N2 R2 T2 a c = s a c := fun a c h1 => tka_o (by omega) hn7.2.1
    have rv1 : RV (tka s 1 50 N2 R2 T2) 175 B2 N2 R2 T2 := RV_e hv4 (fun c => f1 175 c (by omega))
    have e2 := fun Q => s181_y (Q := Q) (d := d) (by omega) hm rv1 hb3 hn7 (by rw [f1 172 3 (by omega), ← k1]; exact k2)
    have f2 : ∀ a c, a ≠ 173 → cpr (tka s 1 50 N2 R2 T2) 173 175 417 a c = tka s 1 50 N2 R2 T2 a c := fun a c h => cpr_o (Or.inl h)
    have f3 : ∀ a c, (a < 1 ∨ 50 ≤ a) → a ≠ 173 → cpr (tka s 1 50 N2 R2 T2) 173 175 417 a c = s a c := fun a c h1 h2 => by rw [f2 a c h2, f1 a c h1]
    have ws := WS_k (s2 := cpr (tka s 1 50 N2 R2 T2) 173 175 417) (W := 1) (A2 := 173) hW2 (by omega) (fun a c ha => f2 a c (by omega)) (fun c hc => by rw [cpr_i hc, f1 175 c (by omega)])
    refine ⟨_, _, _, by omega, ⟨(fun i => by first | exact hs i | (simp (disch := omega) only [up_ne, bcm_ne, flo_o, apd, hld]; exact hs i) | exact (f1 1000000 i (by omega)).trans (hs i) | exact (f1 1000000 i (by omega) (by omega)).trans (hs i) | exact (f1 1000000 i (by omega) (by omega) (by omega) (by omega)).trans (hs i) | exact (g1 1000000 i (by omega)).trans (hs i)), REL_w hR (fun a c ha => f3 a c (by omega) (by omega)) ws ?_⟩, e1, e2⟩
    obtain ⟨x, y, z⟩ := hl1
    exact ⟨((f2 (1 + 43) 1 (by omega)).trans kk.1).trans x, ((f2 (1 + 45) 1 (by omega)).trans kk.2.1).trans y, ((f2 (1 + 47) 1 (by omega)).trans kk.2.2).trans z⟩
set_option maxRecDepth 8000 in
theorem REL_t {s s2 : ZS} {sx : Int → Int} (h : REL s sx) (f : ∀ a c, (a < 160 ∨ 171 < a) → (a < 177 ∨ 185 < a) → a ≠ 186 → s2 a c = s a c) (ht : TP s2) : REL s2 sx := by
  obtain ⟨h1, ⟨B, N, R, T, h2⟩, h3, h4, h5, h6, h7⟩ := h
  exact ⟨fun i => by rw [f 1000000 i (by omega) (by omega) (by omega)]; exact h1 i, ⟨B, N, R, T, WS_c h2 (fun a c ha => f a c (by omega) (by omega) (by omega))⟩, LIM_c h3 (fun a ha => f a 1 (by omega) (by omega) (by omega)), LIM_c h4 (fun a ha => f a 1 (by omega) (by omega) (by omega)), KP_c h5 (fun a c ha => f a c (by omega) (by omega) (by omega)), TX_x h6 (fun a c ha => f a c (by omega) (by omega) (by omega)), ht⟩
set_option maxRecDepth 8000 in
theorem REL_h {s : ZS} {sx : Int → Int} {k x n : Int} (h : REL s sx) (hk : 0 ≤ k ∧ k < 6) (hx : -1 ≤ x ∧ x ≤ 4) (hn : 0 ≤ n ∧ n ≤ 60) (hz : x = -1 → n = 0) : REL (flo (up (up (hld s (160 + 2 * k) x n) 177 k x) 178 k n) (180 + k) 60 0) sx := by
  have ht := h.2.2.2.2.2.2
  refine REL_t h (fun a c h1 h2 h3 => ?_) (fun j hj => ?_)
  · unfold hld
    rw [flo_o (by omega), up_ne (by omega), up_ne (by omega), up_ne (by omega), up_ne (by omega), flo_o (by omega)]
  · unfold hld
    by_cases e : j = k
    · rw [e]
      refine ⟨?_, ?_, ?_, ?_, ?_, fun i hi => ?_⟩
      · simp (disch := omega) only [flo_o, up_ne, up_eq]
      · simp (disch := omega) only [flo_o, up_ne, up_eq]
      · simp (disch := omega) only [flo_o, up_ne, up_eq]
        exact hx
      · simp (disch := omega) only [flo_o, up_ne, up_eq]
        exact hn
      · simp (disch := omega) only [flo_o, up_ne, up_eq]
        exact hz
      · rw [flo_i hi, flo_o (by omega), up_ne (by omega), up_ne (by omega), up_ne (by omega), up_ne (by omega), flo_i hi]
        exact ⟨rfl, by omega⟩
    · have := ht j hj
      refine ⟨?_, ?_, ?_, ?_, ?_, fun i hi => ?_⟩
      · simp (disch := omega) only [flo_o, up_ne]
        exact this.1
      · simp (disch := omega) only [flo_o, up_ne]
        exact this.2.1
      · simp (disch := omega) only [flo_o, up_ne]
        exact this.2.2.1
      · simp (disch := omega) only [flo_o, up_ne]
        exact this.2.2.2.1
      · simp (disch := omega) only [flo_o, up_ne]
        exact this.2.2.2.2.1
      · simp (disch := omega) only [flo_o, up_ne]
        exact this.2.2.2.2.2 i hi
set_option maxRecDepth 8000 in
theorem r98 {d : Nat} {G : XS} {s : ZS} {sx : Int → Int} {k x n : Int} (hd : 30 ≤ d) (hg : LOK G 1 50 99) (hm : MOK G) (hR : REL s sx) (ik : ir k) (ix : ir x) (iN : ir n) : PRS G d 98 184 [zint k, zint x, zint n] s sx := by
  obtain ⟨hs, ⟨B, N, R, T, hW⟩, hl1, hl2, hk, hx, ht⟩ := id hR
  obtain ⟨hv, hv2, hb, hk0, hn9, hw⟩ := id hW
  have hn : 0 ≤ N ∧ N ≤ 40 ∧ 0 ≤ R ∧ R ≤ 10 ∧ 0 ≤ T ∧ T ≤ 20000 := by omega
  by_cases hq : 0 ≤ k ∧ k < 6
  · by_cases q : x = -1
    · have e1 := fun Q => s98_h (n := n) (Q := Q) (d := d) (by omega) hg hv hb hn hq q
      have e2 := fun Q => s184_h (Q := Q) (d := d) (s := hld s (160 + 2 * k) (-1) 0) (by omega) hm hq q iN
      rw [q] at e2 ⊢
      rw [q] at e1
      exact ⟨1, _, _, by omega, ⟨(fun i => by first | exact hs i | (simp (disch := omega) only [up_ne, bcm_ne, flo_o, apd, hld]; exact hs i) | exact (f1 1000000 i (by omega)).trans (hs i) | exact (f1 1000000 i (by omega) (by omega)).trans (hs i) | exact (f1 1000000 i (by omega) (by omega) (by omega) (by omega)).trans (hs i) | exact (g1 1000000 i (by omega)).trans (hs i)), REL_h hR hq (by omega) (by omega) (fun _ => rfl)⟩, e1, e2⟩
    · by_cases q2 : (0 ≤ x ∧ x ≤ 4) ∧ n ≤ 60
      · by_cases q3 : n < 0
        · exact ⟨_, s, s, by omega, ⟨hs, hR⟩, fun Q => s98_s (Q := Q) (d := d) (by omega) hg hv hb hn hq iN q2.1 q3, fun Q => s184_s (Q := Q) (d := d) (by omega) hm hq iN q2.1 q3⟩
        · exact ⟨1, _, _, by omega, ⟨(fun i => by first | exact hs i | (simp (disch := omega) only [up_ne, bcm_ne, flo_o, apd, hld]; exact hs i) | exact (f1 1000000 i (by omega)).trans (hs i) | exact (f1 1000000 i (by omega) (by omega)).trans (hs i) | exact (f1 1000000 i (by omega) (by omega) (by omega) (by omega)).trans (hs i) | exact (g1 1000000 i (by omega)).trans (hs i)), REL_h hR hq (by omega) (by omega) (fun h => absurd h q)⟩, fun Q => s98_y (Q := Q) (d := d) (by omega) hg hv hb hn hq q2.1 (by omega), fun Q => s184_y (Q := Q) (d := d) (by omega) hm hq q2.1 (by omega)⟩
      · exact ⟨_, s, s, by omega, ⟨hs, hR⟩, fun Q => s98_b (Q := Q) (d := d) (by omega) hg hv hb hn hq ix iN q q2, fun Q => s184_b (Q := Q) (d := d) (by omega) hm hq ix iN q q2⟩
  · exact ⟨_, s, s, by omega, ⟨hs, hR⟩, fun Q => s98_n (Q := Q) (d := d) (by omega) hg hv hb hn ik hq, fun Q => s184_n (Q := Q) (d := d) (by omega) hm ik hq⟩
set_option maxRecDepth 8000 in
theorem r99 {d : Nat} {G : XS} {s : ZS} {sx : Int → Int} {k i v : Int} (hd : 30 ≤ d) (hg : LOK G 1 50 99) (hm : MOK G) (hR : REL s sx) (ik : ir k) (ii : ir i) (iv : jr v) : PRS G d 99 186 [zint k, zint i, zlng v] s sx := by
  obtain ⟨hs, ⟨B, N, R, T, hW⟩, hl1, hl2, hk, hx, ht⟩ := id hR
  obtain ⟨hv, hv2, hb, hk0, hn9, hw⟩ := id hW
  have hn : 0 ≤ N ∧ N ≤ 40 ∧ 0 ≤ R ∧ R ≤ 10 ∧ 0 ≤ T ∧ T ≤ 20000 := by omega
  by_cases hq : 0 ≤ k ∧ k < 6
  · obtain ⟨t1, t2, t3, t4, t5, t6⟩ := ht k hq
    have t7 : -1 ≤ s (160 + 2 * k) 1 ∧ s (160 + 2 * k) 1 ≤ 4 := by rw [t1]; exact t3
    have t8 : 0 ≤ s (160 + 2 * k) 2 ∧ s (160 + 2 * k) 2 ≤ 60 := by rw [t2]; exact t4
    by_cases q : s 177 k = -1
    · exact ⟨_, s, s, by omega, ⟨hs, hR⟩, fun Q => s99_g (Q := Q) (d := d) (by omega) hg hv hb hn hq t7 t8 (by rw [t1]; exact q), fun Q => s186_g (Q := Q) (d := d) (by omega) hm hq q⟩
    · by_cases q2 : 0 ≤ i ∧ i < s 178 k
      · have e1 := fun Q => s99_y (Q := Q) (d := d) (by omega) hg hv hb hn hq t7 t8 (by rw [t1]; exact q) (by rw [t2]; exact q2) iv
        have c7 : up s (160 + 2 * k + 1) i (lb (s (160 + 2 * k) 1) v) 177 k = s 177 k := up_ne (by omega)
        have c8 : up s (160 + 2 * k + 1) i (lb (s (160 + 2 * k) 1) v) 178 k = s 178 k := up_ne (by omega)
        have e2 := fun Q => s186_y (Q := Q) (d := d) (s := up s (160 + 2 * k + 1) i (lb (s (160 + 2 * k) 1) v)) (i := i) (by omega) hm hq (by rw [c7]; exact t3) (by rw [c8]; exact t4) (by rw [c7]; exact q) (by rw [c8]; exact q2) iv
        have jl := lb_r (k := s 177 k) iv
        rw [c7] at e2
        refine ⟨1, _, _, by omega, ⟨(fun i => by first | exact hs i | (simp (disch := omega) only [up_ne, bcm_ne, flo_o, apd, hld]; exact hs i) | exact (f1 1000000 i (by omega)).trans (hs i) | exact (f1 1000000 i (by omega) (by omega)).trans (hs i) | exact (f1 1000000 i (by omega) (by omega) (by omega) (by omega)).trans (hs i) | exact (g1 1000000 i (by omega)).trans (hs i)), REL_t hR (fun a c h1 h2 h3 => by rw [up_ne (by omega), up_ne (by omega)]) (fun j hj => ?_)⟩, e1, e2⟩
        have := ht j hj
        refine ⟨?_, ?_, ?_, ?_, ?_, fun i2 hi2 => ?_⟩
        · simp (disch := omega) only [up_ne]
          exact this.1
        · simp (disch := omega) only [up_ne]
          exact this.2.1
        · simp (disch := omega) only [up_ne]
          exact this.2.2.1
        · simp (disch := omega) only [up_ne]
          exact this.2.2.2.1
        · simp (disch := omega) only [up_ne]
          exact this.2.2.2.2.1
        · by_cases e : j = k ∧ i2 = i
          · rw [e.1, e.2, up_eq, up_ne (by omega), up_eq, t1]
            exact ⟨rfl, jl⟩
          · have h2 := this.2.2.2.2.2 i2 hi2
            rw [up_ne (a := 160 + 2 * j + 1) (by omega), up_ne (a := 160 + 2 * j + 1) (by omega), up_ne (a := 180 + j) (by omega), up_ne (a := 180 + j) (by omega)]
            exact h2
      · exact ⟨_, s, s, by omega, ⟨hs, hR⟩, fun Q => s99_p (Q := Q) (d := d) (by omega) hg hv hb hn hq t7 t8 ii (by rw [t1]; exact q) (by rw [t2]; exact q2), fun Q => s186_p (Q := Q) (d := d) (by omega) hm hq t3 t4 ii q q2⟩
  · exact ⟨_, s, s, by omega, ⟨hs, hR⟩, fun Q => s99_n (Q := Q) (d := d) (by omega) hg hv hb hn ik hq, fun Q => s186_n (Q := Q) (d := d) (by omega) hm ik hq⟩
set_option maxRecDepth 8000 in
theorem r100 {d : Nat} {G : XS} {s : ZS} {sx : Int → Int} {k i : Int} (hd : 30 ≤ d) (hg : LOK G 1 50 99) (hm : MOK G) (hR : REL s sx) (ik : ir k) (ii : ir i) : PRL G d 100 187 [zint k, zint i] s sx := by
  obtain ⟨hs, ⟨B, N, R, T, hW⟩, hl1, hl2, hk, hx, ht⟩ := id hR
  obtain ⟨hv, hv2, hb, hk0, hn9, hw⟩ := id hW
  have hn : 0 ≤ N ∧ N ≤ 40 ∧ 0 ≤ R ∧ R ≤ 10 ∧ 0 ≤ T ∧ T ≤ 20000 := by omega
  by_cases hq : 0 ≤ k ∧ k < 6
  · obtain ⟨t1, t2, t3, t4, t5, t6⟩ := ht k hq
    have t7 : -1 ≤ s (160 + 2 * k) 1 ∧ s (160 + 2 * k) 1 ≤ 4 := by rw [t1]; exact t3
    have t8 : 0 ≤ s (160 + 2 * k) 2 ∧ s (160 + 2 * k) 2 ≤ 60 := by rw [t2]; exact t4
    by_cases q2 : 0 ≤ i ∧ i < s 178 k
    · have q : s 177 k ≠ -1 := fun h => by have := t5 h; omega
      have h6 := t6 i (by omega)
      exact ⟨s (180 + k) i, s, s, h6.2, ⟨hs, hR⟩, fun Q => by rw [s100_y (Q := Q) (d := d) (by omega) hg hv hb hn hq t7 t8 (by rw [t2]; exact q2), h6.1], fun Q => s187_y (Q := Q) (d := d) (by omega) hm hq t3 t4 q q2⟩
    · exact ⟨_, s, s, by omega, ⟨hs, hR⟩, fun Q => s100_p (Q := Q) (d := d) (by omega) hg hv hb hn hq t7 t8 ii (by rw [t2]; exact q2), fun Q => s187_p (Q := Q) (d := d) (by omega) hm hq t3 t4 ii q2⟩
  · exact ⟨_, s, s, by omega, ⟨hs, hR⟩, fun Q => s100_n (Q := Q) (d := d) (by omega) hg hv hb hn ik hq, fun Q => s187_n (Q := Q) (d := d) (by omega) hm ik hq⟩
set_option maxRecDepth 8000 in
theorem r101 {d : Nat} {G : XS} {s : ZS} {sx : Int → Int} {k i k2 j n : Int} (hd : 30 ≤ d) (hg : LOK G 1 50 99) (hm : MOK G) (hR : REL s sx) (ik : ir k) (ii : ir i) (ik2 : ir k2) (ij : ir j) (iN : ir n) : PRS G d 101 188 [zint k, zint i, zint k2, zint j, zint n] s sx := by
  obtain ⟨hs, ⟨B, N, R, T, hW⟩, hl1, hl2, hk, hx, ht⟩ := id hR
  obtain ⟨hv, hv2, hb, hk0, hn9, hw⟩ := id hW
  have hn : 0 ≤ N ∧ N ≤ 40 ∧ 0 ≤ R ∧ R ≤ 10 ∧ 0 ≤ T ∧ T ≤ 20000 := by omega
  by_cases hq : 0 ≤ k ∧ k < 6
  · obtain ⟨t1, t2, t3, t4, t5, t6⟩ := ht k hq
    have t7 : -1 ≤ s (160 + 2 * k) 1 ∧ s (160 + 2 * k) 1 ≤ 4 := by rw [t1]; exact t3
    have t8 : 0 ≤ s (160 + 2 * k) 2 ∧ s (160 + 2 * k) 2 ≤ 60 := by rw [t2]; exact t4
    by_cases hq2 : 0 ≤ k2 ∧ k2 < 6
    · obtain ⟨u1, u2, u3, u4, u5, u6⟩ := ht k2 hq2
      have u7 : -1 ≤ s (160 + 2 * k2) 1 ∧ s (160 + 2 * k2) 1 ≤ 4 := by rw [u1]; exact u3
      have u8 : 0 ≤ s (160 + 2 * k2) 2 ∧ s (160 + 2 * k2) 2 ≤ 60 := by rw [u2]; exact u4
      by_cases q : s 177 k = -1 ∨ s 177 k2 = -1
      · exact ⟨_, s, s, by omega, ⟨hs, hR⟩, fun Q => s101_g (Q := Q) (d := d) (by omega) hg hv hb hn hq hq2 t7 t8 u7 u8 (by rw [t1, u1]; exact q), fun Q => s188_g (Q := Q) (d := d) (by omega) hm hq hq2 t3 t4 u3 u4 q⟩
      · have qa : s 177 k ≠ -1 ∧ s 177 k2 ≠ -1 := by omega
        by_cases q2 : s 177 k = s 177 k2
        · by_cases q3 : (((0 ≤ n ∧ 0 ≤ i) ∧ 0 ≤ j) ∧ i ≤ s 178 k - n ∧ j ≤ s 178 k2 - n)
          · have q4 : (((0 ≤ n ∧ 0 ≤ i) ∧ 0 ≤ j) ∧ i ≤ s (160 + 2 * k) 2 - n ∧ j ≤ s (160 + 2 * k2) 2 - n) := by rw [t2, u2]; exact q3
            have e1 := fun Q => s101_y (Q := Q) (d := d) (by omega) hg hv hb hn hq hq2 t7 t8 u7 u8 (by rw [t1, u1]; exact qa) (by rw [t1, u1]; exact q2) q4
            obtain ⟨s1, hs1⟩ : ∃ s1, s1 = cpx s (160 + 2 * k2 + 1) j n (160 + 2 * k + 1) i := ⟨_, rfl⟩
            have g1 : ∀ a c, a ≠ 160 + 2 * k2 + 1 → s1 a c = s a c := fun a c h => by rw [hs1]; exact cpx_o (Or.inl h)
            have c1 : s1 177 k = s 177 k := g1 _ _ (by omega)
            have c2 : s1 177 k2 = s 177 k2 := g1 _ _ (by omega)
            have c3 : s1 178 k = s 178 k := g1 _ _ (by omega)
            have c4 : s1 178 k2 = s 178 k2 := g1 _ _ (by omega)
            have e2 := fun Q => s188_y (Q := Q) (d := d) (s := s1) (k := k) (i := i) (k2 := k2) (j := j) (n := n) (by omega) hm hq hq2 (by rw [c1]; exact t3) (by rw [c3]; exact t4) (by rw [c2]; exact u3) (by rw [c4]; exact u4) (by rw [c1, c2]; exact qa) (by rw [c1, c2]; exact q2) (by rw [c3, c4]; exact q3)
            rw [← hs1] at e1
            refine ⟨n, _, _, by omega, ⟨(fun i => by first | exact hs i | (simp (disch := omega) only [up_ne, bcm_ne, flo_o, apd, hld]; exact hs i) | exact (f1 1000000 i (by omega)).trans (hs i) | exact (f1 1000000 i (by omega) (by omega)).trans (hs i) | exact (f1 1000000 i (by omega) (by omega) (by omega) (by omega)).trans (hs i) | exact (g1 1000000 i (by omega)).trans (hs i)), REL_t hR (fun a c h1 h2 h3 => by rw [cpx_o (by omega), cpx_o (by omega), g1 a c (by omega)]) (fun m hm2 => ?_)⟩, e1, e2⟩
            have := ht m hm2
            have g2 : ∀ a c, a ≠ 180 + k2 → a ≠ 186 → a ≠ 160 + 2 * k2 + 1 → cpx (cpx s1 186 0 n (180 + k) i) (180 + k2) j n 186 0 a c = s a c := fun a c h1 h2 h3 => by rw [cpx_o (Or.inl h1), cpx_o (Or.inl h2), g1 a c h3]
            rw [g2 (160 + 2 * m) 1 (by omega) (by omega) (by omega), g2 (160 + 2 * m) 2 (by omega) (by omega) (by omega), g2 177 m (by omega) (by omega) (by omega), g2 178 m (by omega) (by omega) (by omega)]
            refine ⟨this.1, this.2.1, this.2.2.1, this.2.2.2.1, this.2.2.2.2.1, fun i2 hi2 => ?_⟩
            have h6 := this.2.2.2.2.2 i2 hi2
            rw [cpx_o (o := 180 + k2) (x := 160 + 2 * m + 1) (by omega), cpx_o (o := 186) (x := 160 + 2 * m + 1) (by omega)]
            by_cases e : m = k2 ∧ j ≤ i2 ∧ i2 < j + n
            · obtain ⟨em, e⟩ := e
              rw [em, cpx_i e, cpx_i (by omega), hs1, cpx_i e, cpx_o (by omega), show i + (0 + (i2 - j) - 0) = i + (i2 - j) by omega]
              exact t6 (i + (i2 - j)) (by omega)
            · rw [cpx_o (o := 180 + k2) (by omega), cpx_o (o := 186) (by omega), g1 (180 + m) i2 (by omega), hs1, cpx_o (by omega)]
              exact h6
          · exact ⟨_, s, s, by omega, ⟨hs, hR⟩, fun Q => s101_p (Q := Q) (d := d) (by omega) hg hv hb hn hq hq2 t7 t8 u7 u8 (by rw [t1, u1]; exact qa) (by rw [t1, u1]; exact q2) ii ij iN (by rw [t2, u2]; exact q3), fun Q => s188_p (Q := Q) (d := d) (by omega) hm hq hq2 t3 t4 u3 u4 qa q2 ii ij iN q3⟩
        · exact ⟨_, s, s, by omega, ⟨hs, hR⟩, fun Q => s101_c (Q := Q) (d := d) (by omega) hg hv hb hn hq hq2 t7 t8 u7 u8 (by rw [t1, u1]; exact qa) (by rw [t1, u1]; exact q2), fun Q => s188_c (Q := Q) (d := d) (by omega) hm hq hq2 t3 t4 u3 u4 qa q2⟩
    · exact ⟨_, s, s, by omega, ⟨hs, hR⟩, fun Q => s101_n2 (Q := Q) (d := d) (by omega) hg hv hb hn hq ik2 hq2, fun Q => s188_n2 (Q := Q) (d := d) (by omega) hm hq ik2 hq2⟩
  · exact ⟨_, s, s, by omega, ⟨hs, hR⟩, fun Q => s101_n1 (Q := Q) (d := d) (by omega) hg hv hb hn ik hq ik2, fun Q => s188_n1 (Q := Q) (d := d) (by omega) hm ik hq ik2⟩
