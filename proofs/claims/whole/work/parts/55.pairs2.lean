set_option maxRecDepth 8000 in
theorem LIM_d {s s2 : ZS} (h : LIM s 1) (a : s2 44 1 = s 44 1) (b : s2 46 1 = s 46 1) (c : s2 48 1 = s 48 1) : LIM s2 1 := by
  obtain ⟨x, y, z⟩ := h
  exact ⟨a.trans x, b.trans y, c.trans z⟩
set_option maxRecDepth 8000 in
theorem RW1_c {s s2 : ZS} {W A : Int} (h : RW1 s W A) (h1 : ∀ a c, W + 43 ≤ a ∧ a ≤ W + 44 → s2 a c = s a c) (h2 : ∀ c, 363 ≤ c ∧ c < 379 → s2 A c = s A c) : RW1 s2 W A := by
  obtain ⟨a1, a2, a3⟩ := h
  have e1 := h2 363 (by omega)
  refine ⟨by rw [h1 (W + 43) 2 (by omega), e1]; exact a1, by rw [e1]; exact a2, fun r hr => ?_⟩
  rw [e1] at hr
  have := a3 r hr
  unfold rv at this ⊢
  rw [h1 (W + 44) (r * 3 + 0) (by omega), h1 (W + 44) (r * 3 + 1) (by omega), h1 (W + 44) (r * 3 + 2) (by omega), h2 (364 + 3 * r) (by omega), h2 (364 + 3 * r + 1) (by omega), h2 (364 + 3 * r + 2) (by omega)]
  exact this
set_option maxRecDepth 8000 in
theorem RW2_c {s s2 : ZS} {W A : Int} (h : RW2 s W A) (h1 : ∀ a c, W + 45 ≤ a ∧ a ≤ W + 46 → s2 a c = s a c) (h2 : ∀ c, 379 ≤ c ∧ c < 400 → s2 A c = s A c) : RW2 s2 W A := by
  obtain ⟨a1, a2, a3⟩ := h
  have e1 := h2 379 (by omega)
  refine ⟨by rw [h1 (W + 45) 2 (by omega), e1]; exact a1, by rw [e1]; exact a2, fun r hr => ?_⟩
  rw [e1] at hr
  have := a3 r hr
  unfold rv at this ⊢
  rw [h1 (W + 46) (r * 3 + 0) (by omega), h1 (W + 46) (r * 3 + 1) (by omega), h2 (380 + 2 * r) (by omega), h2 (380 + 2 * r + 1) (by omega)]
  exact this
set_option maxRecDepth 8000 in
theorem RW3_c {s s2 : ZS} {W A : Int} (h : RW3 s W A) (h1 : ∀ a c, W + 47 ≤ a ∧ a ≤ W + 48 → s2 a c = s a c) (h2 : ∀ c, 400 ≤ c ∧ c < 417 → s2 A c = s A c) : RW3 s2 W A := by
  obtain ⟨a1, a2, a3⟩ := h
  have e1 := h2 400 (by omega)
  refine ⟨by rw [h1 (W + 47) 2 (by omega), e1]; exact a1, by rw [e1]; exact a2, fun r hr => ?_⟩
  rw [e1] at hr
  have := a3 r hr
  unfold rv at this ⊢
  rw [h1 (W + 48) (r * 3 + 0) (by omega), h1 (W + 48) (r * 3 + 1) (by omega), h2 (401 + 2 * r) (by omega), h2 (401 + 2 * r + 1) (by omega)]
  exact this
set_option maxRecDepth 8000 in
theorem RW1_a {s : ZS} {m b x y : Int} (h : RWS s 1 173) (e : s 173 363 = m) (h5 : m < 5) (ib : ir b) (hx : 0 ≤ x ∧ x ≤ 12) (iy : ir y) : RWS (up (up (up (up (up (up (up (up s 45 (m * 3) b) 45 (m * 3 + 1) x) 45 (m * 3 + 2) y) 44 2 (m + 1)) 173 (364 + 3 * m) b) 173 (364 + 3 * m + 1) x) 173 (364 + 3 * m + 2) y) 173 363 (m + 1)) 1 173 := by
  obtain ⟨⟨a1, a2, a3⟩, h2, h3⟩ := h
  rw [e] at a1 a2 a3
  refine ⟨⟨?_, ?_, fun r hr => ?_⟩, RW2_c h2 (fun a c ha => ?_) (fun c hc => ?_), RW3_c h3 (fun a c ha => ?_) (fun c hc => ?_)⟩
  · simp (disch := omega) only [up_ne, up_eq, Int.reduceAdd]
  · simp (disch := omega) only [up_ne, up_eq, Int.reduceAdd]
    omega
  · rw [show (up (up (up (up (up (up (up (up s 45 (m * 3) b) 45 (m * 3 + 1) x) 45 (m * 3 + 2) y) 44 2 (m + 1)) 173 (364 + 3 * m) b) 173 (364 + 3 * m + 1) x) 173 (364 + 3 * m + 2) y) 173 363 (m + 1)) 173 363 = m + 1 from up_eq] at hr
    unfold rv
    by_cases q : r = m
    · rw [q]
      simp (disch := omega) only [Int.add_zero]
      simp (disch := omega) only [up_ne, up_eq, Int.reduceAdd]
      exact ⟨⟨trivial, trivial, trivial⟩, ib, hx, iy⟩
    · have := a3 r (by omega)
      unfold rv at this
      simp (disch := omega) only [up_ne]
      exact this
  · simp (disch := omega) only [up_ne]
  · simp (disch := omega) only [up_ne]
  · simp (disch := omega) only [up_ne]
  · simp (disch := omega) only [up_ne]
set_option maxRecDepth 8000 in
theorem RW2_a {s : ZS} {m b x : Int} (h : RWS s 1 173) (e : s 173 379 = m) (h5 : m < 10) (hb : 0 ≤ b ∧ b ≤ 3) (ix : ir x) : RWS (up (up (up (up (up (up (up s 47 (m * 3) b) 47 (m * 3 + 1) x) 47 (m * 3 + 2) 0) 46 2 (m + 1)) 173 (380 + 2 * m) b) 173 (380 + 2 * m + 1) x) 173 379 (m + 1)) 1 173 := by
  obtain ⟨h1, ⟨a1, a2, a3⟩, h3⟩ := h
  rw [e] at a1 a2 a3
  refine ⟨RW1_c h1 (fun a c ha => ?_) (fun c hc => ?_), ⟨?_, ?_, fun r hr => ?_⟩, RW3_c h3 (fun a c ha => ?_) (fun c hc => ?_)⟩
  · simp (disch := omega) only [up_ne]
  · simp (disch := omega) only [up_ne]
  · simp (disch := omega) only [up_ne, up_eq, Int.reduceAdd]
  · simp (disch := omega) only [up_ne, up_eq, Int.reduceAdd]
    omega
  · rw [show (up (up (up (up (up (up (up s 47 (m * 3) b) 47 (m * 3 + 1) x) 47 (m * 3 + 2) 0) 46 2 (m + 1)) 173 (380 + 2 * m) b) 173 (380 + 2 * m + 1) x) 173 379 (m + 1)) 173 379 = m + 1 from up_eq] at hr
    unfold rv
    by_cases q : r = m
    · rw [q]
      simp (disch := omega) only [Int.add_zero]
      simp (disch := omega) only [up_ne, up_eq, Int.reduceAdd]
      exact ⟨⟨trivial, trivial⟩, hb, ix⟩
    · have := a3 r (by omega)
      unfold rv at this
      simp (disch := omega) only [up_ne]
      exact this
  · simp (disch := omega) only [up_ne]
  · simp (disch := omega) only [up_ne]
set_option maxRecDepth 8000 in
theorem RW3_a {s : ZS} {m b x : Int} (h : RWS s 1 173) (e : s 173 400 = m) (h5 : m < 8) (ib : ir b) (ix : ir x) : RWS (up (up (up (up (up (up (up s 49 (m * 3) b) 49 (m * 3 + 1) x) 49 (m * 3 + 2) 0) 48 2 (m + 1)) 173 (401 + 2 * m) b) 173 (401 + 2 * m + 1) x) 173 400 (m + 1)) 1 173 := by
  obtain ⟨h1, h2, a1, a2, a3⟩ := h
  rw [e] at a1 a2 a3
  refine ⟨RW1_c h1 (fun a c ha => ?_) (fun c hc => ?_), RW2_c h2 (fun a c ha => ?_) (fun c hc => ?_), ⟨?_, ?_, fun r hr => ?_⟩⟩
  · simp (disch := omega) only [up_ne]
  · simp (disch := omega) only [up_ne]
  · simp (disch := omega) only [up_ne]
  · simp (disch := omega) only [up_ne]
  · simp (disch := omega) only [up_ne, up_eq, Int.reduceAdd]
  · simp (disch := omega) only [up_ne, up_eq, Int.reduceAdd]
    omega
  · rw [show (up (up (up (up (up (up (up s 49 (m * 3) b) 49 (m * 3 + 1) x) 49 (m * 3 + 2) 0) 48 2 (m + 1)) 173 (401 + 2 * m) b) 173 (401 + 2 * m + 1) x) 173 400 (m + 1)) 173 400 = m + 1 from up_eq] at hr
    unfold rv
    by_cases q : r = m
    · rw [q]
      simp (disch := omega) only [Int.add_zero]
      simp (disch := omega) only [up_ne, up_eq, Int.reduceAdd]
      exact ⟨⟨trivial, trivial⟩, ib, ix⟩
    · have := a3 r (by omega)
      unfold rv at this
      simp (disch := omega) only [up_ne]
      exact this
set_option maxRecDepth 8000 in
theorem RW1_e {s : ZS} (h : RWS s 1 173) : RWS (up (up s 44 2 0) 173 363 0) 1 173 := by
  obtain ⟨h1, h2, h3⟩ := h
  refine ⟨⟨?_, ?_, fun r hr => ?_⟩, RW2_c h2 (fun a c ha => ?_) (fun c hc => ?_), RW3_c h3 (fun a c ha => ?_) (fun c hc => ?_)⟩
  · simp (disch := omega) only [up_ne, up_eq, Int.reduceAdd]
  · simp (disch := omega) only [up_ne, up_eq, Int.reduceAdd]
    omega
  · rw [up_eq] at hr
    omega
  all_goals simp (disch := omega) only [up_ne]
set_option maxRecDepth 8000 in
theorem RW2_e {s : ZS} (h : RWS s 1 173) : RWS (up (up s 46 2 0) 173 379 0) 1 173 := by
  obtain ⟨h1, h2, h3⟩ := h
  refine ⟨RW1_c h1 (fun a c ha => ?_) (fun c hc => ?_), ⟨?_, ?_, fun r hr => ?_⟩, RW3_c h3 (fun a c ha => ?_) (fun c hc => ?_)⟩
  · simp (disch := omega) only [up_ne]
  · simp (disch := omega) only [up_ne]
  · simp (disch := omega) only [up_ne, up_eq, Int.reduceAdd]
  · simp (disch := omega) only [up_ne, up_eq, Int.reduceAdd]
    omega
  · rw [up_eq] at hr
    omega
  all_goals simp (disch := omega) only [up_ne]
set_option maxRecDepth 8000 in
theorem RW3_e {s : ZS} (h : RWS s 1 173) : RWS (up (up s 48 2 0) 173 400 0) 1 173 := by
  obtain ⟨h1, h2, h3⟩ := h
  refine ⟨RW1_c h1 (fun a c ha => ?_) (fun c hc => ?_), RW2_c h2 (fun a c ha => ?_) (fun c hc => ?_), ⟨?_, ?_, fun r hr => ?_⟩⟩
  · simp (disch := omega) only [up_ne]
  · simp (disch := omega) only [up_ne]
  · simp (disch := omega) only [up_ne]
  · simp (disch := omega) only [up_ne]
  · simp (disch := omega) only [up_ne, up_eq, Int.reduceAdd]
  · simp (disch := omega) only [up_ne, up_eq, Int.reduceAdd]
    omega
  · rw [up_eq] at hr
    omega
set_option maxRecDepth 8000 in
theorem r83 {d : Nat} {G : XS} {s : ZS} {sx : Int → Int} {b x y : Int} (hd : 30 ≤ d) (hg : LOK G 1 50 99) (hm : MOK G) (hR : REL s sx) (ib : ir b) (ix : ir x) (iy : ir y) : PRS G d 83 166 [zint b, zint x, zint y] s sx := by
  obtain ⟨hs, ⟨B, N, R, T, hW⟩, hl1, hl2, hk, hx, ht⟩ := id hR
  obtain ⟨hv, hv2, hb, hk0, hn9, hw⟩ := id hW
  have hn : 0 ≤ N ∧ N ≤ 40 ∧ 0 ≤ R ∧ R ≤ 10 ∧ 0 ≤ T ∧ T ≤ 20000 := by omega
  obtain ⟨⟨a1, a2, a3⟩, ⟨b1, b2, b3⟩, c1, c2, c3⟩ := id hw
  obtain ⟨l1, l2, l3⟩ := id hl1
  by_cases q0 : b = -1
  · skip
    have e1 := fun Q => s83_e (b := b) (x := x) (y := y) (Q := Q) (d := d) (by omega) hg hv hb hn q0
    have rv1 : RV (up s (1 + 43) 2 0) 173 B N R T := RV_e hv2 (fun c => by rw [up_ne (by omega)])
    have e2 := fun Q => s166_e (b := b) (x := x) (y := y) (Q := Q) (d := d) (by omega) hm rv1 hb hn q0
    exact ⟨0, _, _, by omega, ⟨(fun i => by first | exact hs i | (simp (disch := omega) only [up_ne, bcm_ne, flo_o, apd, hld]; exact hs i) | exact (f1 1000000 i (by omega)).trans (hs i) | exact (f1 1000000 i (by omega) (by omega)).trans (hs i) | exact (f1 1000000 i (by omega) (by omega) (by omega) (by omega)).trans (hs i) | exact (g1 1000000 i (by omega)).trans (hs i)), REL_r hR hW (fun a c h1 h2 => by rw [up_ne (by omega), up_ne (by omega)]) (RV_h rv1 hn.2.1 (by omega)) (RW1_e hw) (LIM_d hl1 (by simp (disch := omega) only [up_ne]) (by simp (disch := omega) only [up_ne]) (by simp (disch := omega) only [up_ne]))⟩, e1, e2⟩
  · by_cases q : hr B N b
    · by_cases q2 : (0 ≤ x ∧ x ≤ 12) ∧ 0 ≤ y ∧ y ≤ 127
      · by_cases q3 : s 173 363 = 5
        · exact ⟨_, s, s, by omega, ⟨hs, hR⟩, fun Q => s83_f (Q := Q) (d := d) (by omega) hg hv hb hn ix iy q q2 l1 (by rw [a1]; exact q3), fun Q => s166_f (Q := Q) (d := d) (by omega) hm hv2 hb hn q q2 q3⟩
        · skip
          have e9 : s 44 2 = s 173 363 := a1
          have e1 := fun Q => s83_y (Q := Q) (d := d) (by omega) hg hv hb hn ix iy q q2 l1 (by rw [a1]; omega)
          have rv1 : RV (apd s (1 + 43) b x y) 173 B N R T := RV_e hv2 (fun c => by unfold apd; rw [up_ne (by omega), up_ne (by omega), up_ne (by omega), up_ne (by omega)])
          have e8 : apd s (1 + 43) b x y 173 363 = s 173 363 := by unfold apd; rw [up_ne (by omega), up_ne (by omega), up_ne (by omega), up_ne (by omega)]
          have e2 := fun Q => s166_y (Q := Q) (d := d) (by omega) hm rv1 hb hn q q2 (by rw [e8]; omega)
          obtain ⟨m, hmm⟩ : ∃ m, s 173 363 = m := ⟨_, rfl⟩
          have E : ap3 (apd s (1 + 43) b x y) b x y = up (up (up (up (up (up (up (up s 45 (m * 3) b) 45 (m * 3 + 1) x) 45 (m * 3 + 2) y) 44 2 (m + 1)) 173 (364 + 3 * m) b) 173 (364 + 3 * m + 1) x) 173 (364 + 3 * m + 2) y) 173 363 (m + 1) := by
            unfold ap3 apd
            simp (disch := omega) only [up_ne, up_eq, Int.reduceAdd, e9, hmm]
          have E1 : s (1 + 43) 2 + 1 = m + 1 := by rw [show s (1 + 43) 2 = s 44 2 from rfl, e9, hmm]
          have E2 : apd s (1 + 43) b x y 173 363 + 1 = m + 1 := by rw [e8, hmm]
          rw [E1] at e1
          rw [E2, E] at e2
          have rvs : RV (up (up (up (up (up (up (up (up s 45 (m * 3) b) 45 (m * 3 + 1) x) 45 (m * 3 + 2) y) 44 2 (m + 1)) 173 (364 + 3 * m) b) 173 (364 + 3 * m + 1) x) 173 (364 + 3 * m + 2) y) 173 363 (m + 1)) 173 B N R T := by
            rw [← E]
            unfold ap3
            refine RV_h (RV_h (RV_h (RV_h rv1 hn.2.1 (by omega)) hn.2.1 (by omega)) hn.2.1 (by omega)) hn.2.1 (by omega)
          exact ⟨m + 1, _, _, by omega, ⟨(fun i => by first | exact hs i | (simp (disch := omega) only [up_ne, bcm_ne, flo_o, apd, hld]; exact hs i) | exact (f1 1000000 i (by omega)).trans (hs i) | exact (f1 1000000 i (by omega) (by omega)).trans (hs i) | exact (f1 1000000 i (by omega) (by omega) (by omega) (by omega)).trans (hs i) | exact (g1 1000000 i (by omega)).trans (hs i)), REL_r hR hW (fun a c h1 h2 => by simp (disch := omega) only [up_ne]) rvs (RW1_a hw hmm (by omega) ib q2.1 iy) (LIM_d hl1 (by simp (disch := omega) only [up_ne]) (by simp (disch := omega) only [up_ne]) (by simp (disch := omega) only [up_ne]))⟩, e1, e2⟩
      · exact ⟨_, s, s, by omega, ⟨hs, hR⟩, fun Q => s83_b (Q := Q) (d := d) (by omega) hg hv hb hn ix iy q q2, fun Q => s166_b (Q := Q) (d := d) (by omega) hm hv2 hb hn ix iy q q2⟩
    · exact ⟨_, s, s, by omega, ⟨hs, hR⟩, fun Q => s83_n (Q := Q) (d := d) (by omega) hg hv hb hn ib q0 q, fun Q => s166_n (Q := Q) (d := d) (by omega) hm hv2 hb hn ib q0 q⟩
set_option maxRecDepth 8000 in
theorem r88 {d : Nat} {G : XS} {s : ZS} {sx : Int → Int} {x b : Int} (hd : 30 ≤ d) (hg : LOK G 1 50 99) (hm : MOK G) (hR : REL s sx) (ix : ir x) (ib : ir b) : PRS G d 88 173 [zint x, zint b] s sx := by
  obtain ⟨hs, ⟨B, N, R, T, hW⟩, hl1, hl2, hk, hx, ht⟩ := id hR
  obtain ⟨hv, hv2, hb, hk0, hn9, hw⟩ := id hW
  have hn : 0 ≤ N ∧ N ≤ 40 ∧ 0 ≤ R ∧ R ≤ 10 ∧ 0 ≤ T ∧ T ≤ 20000 := by omega
  obtain ⟨⟨a1, a2, a3⟩, ⟨b1, b2, b3⟩, c1, c2, c3⟩ := id hw
  obtain ⟨l1, l2, l3⟩ := id hl1
  by_cases q0 : x = -1
  · skip
    have e1 := fun Q => s88_e (x := x) (b := b) (Q := Q) (d := d) (by omega) hg hv hb hn q0
    have rv1 : RV (up s (1 + 45) 2 0) 173 B N R T := RV_e hv2 (fun c => by rw [up_ne (by omega)])
    have e2 := fun Q => s173_e (x := x) (b := b) (Q := Q) (d := d) (by omega) hm rv1 hb hn q0
    exact ⟨0, _, _, by omega, ⟨(fun i => by first | exact hs i | (simp (disch := omega) only [up_ne, bcm_ne, flo_o, apd, hld]; exact hs i) | exact (f1 1000000 i (by omega)).trans (hs i) | exact (f1 1000000 i (by omega) (by omega)).trans (hs i) | exact (f1 1000000 i (by omega) (by omega) (by omega) (by omega)).trans (hs i) | exact (g1 1000000 i (by omega)).trans (hs i)), REL_r hR hW (fun a c h1 h2 => by rw [up_ne (by omega), up_ne (by omega)]) (RV_h rv1 hn.2.1 (by omega)) (RW2_e hw) (LIM_d hl1 (by simp (disch := omega) only [up_ne]) (by simp (disch := omega) only [up_ne]) (by simp (disch := omega) only [up_ne]))⟩, e1, e2⟩
  · by_cases q : 0 ≤ x ∧ x ≤ 3
    · by_cases q1 : x = 0
      · by_cases q3 : s 173 379 = 10
        · exact ⟨_, s, s, by omega, ⟨hs, hR⟩, fun Q => s88_f0 (Q := Q) (d := d) (by omega) hg hv hb hn q1 l2 (by rw [b1]; exact q3), fun Q => s173_f0 (Q := Q) (d := d) (by omega) hm hv2 hb hn q1 q3⟩
        · skip
          have e9 : s 46 2 = s 173 379 := b1
          have e1 := fun Q => s88_y0 (x := x) (b := b) (Q := Q) (d := d) (by omega) hg hv hb hn q1 l2 (by rw [b1]; omega)
          have rv1 : RV (apd s (1 + 45) x b 0) 173 B N R T := RV_e hv2 (fun c => by unfold apd; rw [up_ne (by omega), up_ne (by omega), up_ne (by omega), up_ne (by omega)])
          have e8 : apd s (1 + 45) x b 0 173 379 = s 173 379 := by unfold apd; rw [up_ne (by omega), up_ne (by omega), up_ne (by omega), up_ne (by omega)]
          have e2 := fun Q => s173_y0 (x := x) (b := b) (Q := Q) (d := d) (by omega) hm rv1 hb hn q1 (by rw [e8]; omega)
          obtain ⟨m, hmm⟩ : ∃ m, s 173 379 = m := ⟨_, rfl⟩
          have E : ap2 (apd s (1 + 45) x b 0) 379 380 x b = up (up (up (up (up (up (up s 47 (m * 3) x) 47 (m * 3 + 1) b) 47 (m * 3 + 2) 0) 46 2 (m + 1)) 173 (380 + 2 * m) x) 173 (380 + 2 * m + 1) b) 173 379 (m + 1) := by
            unfold ap2 apd
            simp (disch := omega) only [up_ne, up_eq, Int.reduceAdd, e9, hmm]
          have E1 : s (1 + 45) 2 + 1 = m + 1 := by rw [show s (1 + 45) 2 = s 46 2 from rfl, e9, hmm]
          have E2 : apd s (1 + 45) x b 0 173 379 + 1 = m + 1 := by rw [e8, hmm]
          rw [E1] at e1
          rw [E2, E] at e2
          have rvs : RV (up (up (up (up (up (up (up s 47 (m * 3) x) 47 (m * 3 + 1) b) 47 (m * 3 + 2) 0) 46 2 (m + 1)) 173 (380 + 2 * m) x) 173 (380 + 2 * m + 1) b) 173 379 (m + 1)) 173 B N R T := by
            rw [← E]
            unfold ap2
            refine RV_h (RV_h (RV_h rv1 hn.2.1 (by omega)) hn.2.1 (by omega)) hn.2.1 (by omega)
          exact ⟨m + 1, _, _, by omega, ⟨(fun i => by first | exact hs i | (simp (disch := omega) only [up_ne, bcm_ne, flo_o, apd, hld]; exact hs i) | exact (f1 1000000 i (by omega)).trans (hs i) | exact (f1 1000000 i (by omega) (by omega)).trans (hs i) | exact (f1 1000000 i (by omega) (by omega) (by omega) (by omega)).trans (hs i) | exact (g1 1000000 i (by omega)).trans (hs i)), REL_r hR hW (fun a c h1 h2 => by simp (disch := omega) only [up_ne]) rvs (RW2_a hw hmm (by omega) q ib) (LIM_d hl1 (by simp (disch := omega) only [up_ne]) (by simp (disch := omega) only [up_ne]) (by simp (disch := omega) only [up_ne]))⟩, e1, e2⟩
      · by_cases q2 : hr B N b
        · by_cases q3 : s 173 379 = 10
          · exact ⟨_, s, s, by omega, ⟨hs, hR⟩, fun Q => s88_fk (Q := Q) (d := d) (by omega) hg hv hb hn ⟨by omega, q2⟩ l2 (by rw [b1]; exact q3), fun Q => s173_fk (Q := Q) (d := d) (by omega) hm hv2 hb hn ⟨by omega, q2⟩ q3⟩
          · skip
            have e9 : s 46 2 = s 173 379 := b1
            have e1 := fun Q => s88_yk (x := x) (b := b) (Q := Q) (d := d) (by omega) hg hv hb hn ⟨by omega, q2⟩ l2 (by rw [b1]; omega)
            have rv1 : RV (apd s (1 + 45) x b 0) 173 B N R T := RV_e hv2 (fun c => by unfold apd; rw [up_ne (by omega), up_ne (by omega), up_ne (by omega), up_ne (by omega)])
            have e8 : apd s (1 + 45) x b 0 173 379 = s 173 379 := by unfold apd; rw [up_ne (by omega), up_ne (by omega), up_ne (by omega), up_ne (by omega)]
            have e2 := fun Q => s173_yk (x := x) (b := b) (Q := Q) (d := d) (by omega) hm rv1 hb hn ⟨by omega, q2⟩ (by rw [e8]; omega)
            obtain ⟨m, hmm⟩ : ∃ m, s 173 379 = m := ⟨_, rfl⟩
            have E : ap2 (apd s (1 + 45) x b 0) 379 380 x b = up (up (up (up (up (up (up s 47 (m * 3) x) 47 (m * 3 + 1) b) 47 (m * 3 + 2) 0) 46 2 (m + 1)) 173 (380 + 2 * m) x) 173 (380 + 2 * m + 1) b) 173 379 (m + 1) := by
              unfold ap2 apd
              simp (disch := omega) only [up_ne, up_eq, Int.reduceAdd, e9, hmm]
            have E1 : s (1 + 45) 2 + 1 = m + 1 := by rw [show s (1 + 45) 2 = s 46 2 from rfl, e9, hmm]
            have E2 : apd s (1 + 45) x b 0 173 379 + 1 = m + 1 := by rw [e8, hmm]
            rw [E1] at e1
            rw [E2, E] at e2
            have rvs : RV (up (up (up (up (up (up (up s 47 (m * 3) x) 47 (m * 3 + 1) b) 47 (m * 3 + 2) 0) 46 2 (m + 1)) 173 (380 + 2 * m) x) 173 (380 + 2 * m + 1) b) 173 379 (m + 1)) 173 B N R T := by
              rw [← E]
              unfold ap2
              refine RV_h (RV_h (RV_h rv1 hn.2.1 (by omega)) hn.2.1 (by omega)) hn.2.1 (by omega)
            exact ⟨m + 1, _, _, by omega, ⟨(fun i => by first | exact hs i | (simp (disch := omega) only [up_ne, bcm_ne, flo_o, apd, hld]; exact hs i) | exact (f1 1000000 i (by omega)).trans (hs i) | exact (f1 1000000 i (by omega) (by omega)).trans (hs i) | exact (f1 1000000 i (by omega) (by omega) (by omega) (by omega)).trans (hs i) | exact (g1 1000000 i (by omega)).trans (hs i)), REL_r hR hW (fun a c h1 h2 => by simp (disch := omega) only [up_ne]) rvs (RW2_a hw hmm (by omega) q ib) (LIM_d hl1 (by simp (disch := omega) only [up_ne]) (by simp (disch := omega) only [up_ne]) (by simp (disch := omega) only [up_ne]))⟩, e1, e2⟩
        · exact ⟨_, s, s, by omega, ⟨hs, hR⟩, fun Q => s88_n (Q := Q) (d := d) (by omega) hg hv hb hn ib (by omega) q2, fun Q => s173_n (Q := Q) (d := d) (by omega) hm hv2 hb hn ib (by omega) q2⟩
    · exact ⟨_, s, s, by omega, ⟨hs, hR⟩, fun Q => s88_w (Q := Q) (d := d) (by omega) hg hv hb hn ix q0 q, fun Q => s173_w (Q := Q) (d := d) (by omega) hm hv2 hb hn ix q0 q⟩
set_option maxRecDepth 8000 in
theorem r91 {d : Nat} {G : XS} {s : ZS} {sx : Int → Int} {b x : Int} (hd : 30 ≤ d) (hg : LOK G 1 50 99) (hm : MOK G) (hR : REL s sx) (ib : ir b) (ix : ir x) : PRS G d 91 176 [zint b, zint x] s sx := by
  obtain ⟨hs, ⟨B, N, R, T, hW⟩, hl1, hl2, hk, hx, ht⟩ := id hR
  obtain ⟨hv, hv2, hb, hk0, hn9, hw⟩ := id hW
  have hn : 0 ≤ N ∧ N ≤ 40 ∧ 0 ≤ R ∧ R ≤ 10 ∧ 0 ≤ T ∧ T ≤ 20000 := by omega
  obtain ⟨⟨a1, a2, a3⟩, ⟨b1, b2, b3⟩, c1, c2, c3⟩ := id hw
  obtain ⟨l1, l2, l3⟩ := id hl1
  by_cases q0 : b = -1
  · skip
    have e1 := fun Q => s91_e (b := b) (x := x) (Q := Q) (d := d) (by omega) hg hv hb hn q0
    have rv1 : RV (up s (1 + 47) 2 0) 173 B N R T := RV_e hv2 (fun c => by rw [up_ne (by omega)])
    have e2 := fun Q => s176_e (b := b) (x := x) (Q := Q) (d := d) (by omega) hm rv1 hb hn q0
    exact ⟨0, _, _, by omega, ⟨(fun i => by first | exact hs i | (simp (disch := omega) only [up_ne, bcm_ne, flo_o, apd, hld]; exact hs i) | exact (f1 1000000 i (by omega)).trans (hs i) | exact (f1 1000000 i (by omega) (by omega)).trans (hs i) | exact (f1 1000000 i (by omega) (by omega) (by omega) (by omega)).trans (hs i) | exact (g1 1000000 i (by omega)).trans (hs i)), REL_r hR hW (fun a c h1 h2 => by rw [up_ne (by omega), up_ne (by omega)]) (RV_h rv1 hn.2.1 (by omega)) (RW3_e hw) (LIM_d hl1 (by simp (disch := omega) only [up_ne]) (by simp (disch := omega) only [up_ne]) (by simp (disch := omega) only [up_ne]))⟩, e1, e2⟩
  · by_cases q : hr B N b
    · by_cases q2 : 0 ≤ x ∧ x ≤ 99999
      · by_cases q3 : s 173 400 = 8
        · exact ⟨_, s, s, by omega, ⟨hs, hR⟩, fun Q => s91_f (Q := Q) (d := d) (by omega) hg hv hb hn ix q q2 l3 (by rw [c1]; exact q3), fun Q => s176_f (Q := Q) (d := d) (by omega) hm hv2 hb hn q q2 q3⟩
        · skip
          have e9 : s 48 2 = s 173 400 := c1
          have e1 := fun Q => s91_y (Q := Q) (d := d) (by omega) hg hv hb hn ix q q2 l3 (by rw [c1]; omega)
          have rv1 : RV (apd s (1 + 47) b x 0) 173 B N R T := RV_e hv2 (fun c => by unfold apd; rw [up_ne (by omega), up_ne (by omega), up_ne (by omega), up_ne (by omega)])
          have e8 : apd s (1 + 47) b x 0 173 400 = s 173 400 := by unfold apd; rw [up_ne (by omega), up_ne (by omega), up_ne (by omega), up_ne (by omega)]
          have e2 := fun Q => s176_y (Q := Q) (d := d) (by omega) hm rv1 hb hn q q2 (by rw [e8]; omega)
          obtain ⟨m, hmm⟩ : ∃ m, s 173 400 = m := ⟨_, rfl⟩
          have E : ap2 (apd s (1 + 47) b x 0) 400 401 b x = up (up (up (up (up (up (up s 49 (m * 3) b) 49 (m * 3 + 1) x) 49 (m * 3 + 2) 0) 48 2 (m + 1)) 173 (401 + 2 * m) b) 173 (401 + 2 * m + 1) x) 173 400 (m + 1) := by
            unfold ap2 apd
            simp (disch := omega) only [up_ne, up_eq, Int.reduceAdd, e9, hmm]
          have E1 : s (1 + 47) 2 + 1 = m + 1 := by rw [show s (1 + 47) 2 = s 48 2 from rfl, e9, hmm]
          have E2 : apd s (1 + 47) b x 0 173 400 + 1 = m + 1 := by rw [e8, hmm]
          rw [E1] at e1
          rw [E2, E] at e2
          have rvs : RV (up (up (up (up (up (up (up s 49 (m * 3) b) 49 (m * 3 + 1) x) 49 (m * 3 + 2) 0) 48 2 (m + 1)) 173 (401 + 2 * m) b) 173 (401 + 2 * m + 1) x) 173 400 (m + 1)) 173 B N R T := by
            rw [← E]
            unfold ap2
            refine RV_h (RV_h (RV_h rv1 hn.2.1 (by omega)) hn.2.1 (by omega)) hn.2.1 (by omega)
          exact ⟨m + 1, _, _, by omega, ⟨(fun i => by first | exact hs i | (simp (disch := omega) only [up_ne, bcm_ne, flo_o, apd, hld]; exact hs i) | exact (f1 1000000 i (by omega)).trans (hs i) | exact (f1 1000000 i (by omega) (by omega)).trans (hs i) | exact (f1 1000000 i (by omega) (by omega) (by omega) (by omega)).trans (hs i) | exact (g1 1000000 i (by omega)).trans (hs i)), REL_r hR hW (fun a c h1 h2 => by simp (disch := omega) only [up_ne]) rvs (RW3_a hw hmm (by omega) ib ix) (LIM_d hl1 (by simp (disch := omega) only [up_ne]) (by simp (disch := omega) only [up_ne]) (by simp (disch := omega) only [up_ne]))⟩, e1, e2⟩
      · exact ⟨_, s, s, by omega, ⟨hs, hR⟩, fun Q => s91_b (Q := Q) (d := d) (by omega) hg hv hb hn ix q q2, fun Q => s176_b (Q := Q) (d := d) (by omega) hm hv2 hb hn ix q q2⟩
    · exact ⟨_, s, s, by omega, ⟨hs, hR⟩, fun Q => s91_n (Q := Q) (d := d) (by omega) hg hv hb hn ib q0 q, fun Q => s176_n (Q := Q) (d := d) (by omega) hm hv2 hb hn ib q0 q⟩
set_option maxRecDepth 8000 in
theorem sna_r {B : ZS} {N b v n : Int} {s s1 : ZS} (h : ∀ r, 0 ≤ r ∧ r < n → rv s (1 + 44) r 0 = s1 173 (364 + 3 * r) ∧ rv s (1 + 44) r 1 = s1 173 (364 + 3 * r + 1) ∧ rv s (1 + 44) r 2 = s1 173 (364 + 3 * r + 2)) : sna B N b v s (1 + 44) n 0 = snr (up B b 6 v) N s1 n := by
  have e8 : ∀ x, hr (up B b 6 v) N x = hr B N x := fun x => by unfold hr; rw [up_ne (by omega)]
  apply propext
  constructor
  · intro H r hr
    have h1 := H r hr
    have h2 := h r hr
    unfold snp at h1
    rw [h2.1, h2.2.1, h2.2.2] at h1
    rw [e8]
    exact h1
  · intro H r hr
    have h1 := H r hr
    have h2 := h r hr
    show snp B N b v s (1 + 44) r
    unfold snp
    rw [h2.1, h2.2.1, h2.2.2]
    rw [e8] at h1
    exact h1
set_option maxRecDepth 8000 in
theorem r84 {d : Nat} {G : XS} {s : ZS} {sx : Int → Int} {b w : Int} (hd : 30 ≤ d) (hg : LOK G 1 50 99) (hm : MOK G) (hR : REL s sx) (ib : ir b) (iw : ir w) : PRS G d 84 168 [zint b, zint w] s sx := by
  obtain ⟨hs, ⟨B, N, R, T, hW⟩, hl1, hl2, hk, hx, ht⟩ := id hR
  obtain ⟨hv, hv2, hb, hk0, hn9, hw⟩ := id hW
  have hn : 0 ≤ N ∧ N ≤ 40 ∧ 0 ≤ R ∧ R ≤ 10 ∧ 0 ≤ T ∧ T ≤ 20000 := by omega
  obtain ⟨⟨a1, a2, a3⟩, ⟨b1, b2, b3⟩, c1, c2, c3⟩ := id hw
  obtain ⟨l1, l2, l3⟩ := id hl1
  by_cases q : hr B N b
  · by_cases q1 : w = 0 ∨ w = 1
    · by_cases q2 : B b 0 = 0
      · exact ⟨_, s, s, by omega, ⟨hs, hR⟩, fun Q => s84_s (Q := Q) (d := d) (by omega) hg hv hb hn q q1 q2, fun Q => s168_s (Q := Q) (d := d) (by omega) hm hv2 hb hn q q1 q2⟩
      · have hi : ∀ r, 0 ≤ r ∧ r < s 173 363 → ir (rv s (1 + 44) r 0) ∧ (0 ≤ rv s (1 + 44) r 1 ∧ rv s (1 + 44) r 1 ≤ 12) ∧ ir (rv s (1 + 44) r 2) := fun r hr => by
          have h := a3 r hr
          rw [h.1.1, h.1.2.1, h.1.2.2]
          exact h.2
        obtain ⟨s1, f1, e1⟩ := s84_y (d := d) (n := s 173 363) (by omega) hg hv hb hn a1 a2 hi q q1 q2
        have n1 := nop_v f1
        have c : ∀ c, s1 173 c = s 173 c := fun c => n1.1 173 c (by omega)
        obtain ⟨s2, f2, e2⟩ := s168_y (d := d) (n := s 173 363) (by omega) hm (WS_n hW n1).2.1 hb hn (c 363) a2 (fun r hr => by rw [c, c, c]; exact (a3 r hr).2) hn9.2.2.2.2.2 q q1 q2
        have ee : (fun v => sna B N b v s (1 + 44) (s 173 363) 0) = fun v => snr (up B b 6 v) N s1 (s 173 363) := funext (fun v => sna_r (fun r hr => by rw [c, c, c]; exact (a3 r hr).1))
        rw [ee] at e1
        have sb := spl_b (P := fun v => snr (up B b 6 v) N s1 (s 173 363)) 19 9 0 (-99) (by omega) (by omega) (by omega)
        refine ⟨_, s1, s2, ?_, ⟨SC_n hs n1, REL_n hR (nop_t n1 (nop_w f2))⟩, e1, e2⟩
        rcases q1 with rfl | rfl
        · rw [if_pos rfl]; omega
        · rw [if_neg (by omega)]; omega
    · exact ⟨_, s, s, by omega, ⟨hs, hR⟩, fun Q => s84_n (Q := Q) (d := d) (by omega) hg hv hb hn ib iw (fun h => q1 (by omega)), fun Q => s168_n (Q := Q) (d := d) (by omega) hm hv2 hb hn ib iw (fun h => q1 (by omega))⟩
  · exact ⟨_, s, s, by omega, ⟨hs, hR⟩, fun Q => s84_n (Q := Q) (d := d) (by omega) hg hv hb hn ib iw (fun h => q h.1), fun Q => s168_n (Q := Q) (d := d) (by omega) hm hv2 hb hn ib iw (fun h => q h.1)⟩
set_option maxRecDepth 8000 in
theorem dv_b {a g c : Int} (h : 0 ≤ a ∧ a ≤ c) (hg : 1 ≤ g) : 0 ≤ a / g ∧ a / g ≤ c := by
  have d1 := Int.ediv_le_self (a := a) g h.1
  have d3 := Int.ediv_nonneg (a := a) (b := g) h.1 (by omega)
  omega
set_option maxRecDepth 8000 in
theorem r86 {d : Nat} {G : XS} {s : ZS} {sx : Int → Int} {b k : Int} (hd : 30 ≤ d) (hg : LOK G 1 50 99) (hm : MOK G) (hR : REL s sx) (ib : ir b) (ik : ir k) : PRL G d 86 171 [zint b, zint k] s sx := by
  obtain ⟨hs, ⟨B, N, R, T, hW⟩, hl1, hl2, hk, hx, ht⟩ := id hR
  obtain ⟨hv, hv2, hb, hk0, hn9, hw⟩ := id hW
  have hn : 0 ≤ N ∧ N ≤ 40 ∧ 0 ≤ R ∧ R ≤ 10 ∧ 0 ≤ T ∧ T ≤ 20000 := by omega
  by_cases q : hr B N b
  · by_cases q1 : k = 0 ∨ k = 1
    · have ob := od_b (B := B) (N := N) (b := b)
      have gb := gcn_b 100 (od B N b) 64 64 (by omega) (by omega) (by omega) (by omega)
      have d1 := dv_b (a := od B N b) (c := 64) ob gb.1
      have d2 := dv_b (a := 64) (c := 64) (by omega) gb.1
      refine ⟨_, s, s, ?_, ⟨hs, hR⟩, fun Q => s86_y (Q := Q) (d := d) (by omega) hg hv hb hn ib q q1, fun Q => s171_y (Q := Q) (d := d) (by omega) hm hv2 hb hn q q1⟩
      rcases q1 with rfl | rfl
      · rw [if_pos rfl]; omega
      · rw [if_neg (by omega)]; omega
    · exact ⟨_, s, s, by omega, ⟨hs, hR⟩, fun Q => s86_n (Q := Q) (d := d) (by omega) hg hv hb hn ib ik (fun h => q1 (by omega)), fun Q => s171_n (Q := Q) (d := d) (by omega) hm hv2 hb hn ib ik (fun h => q1 (by omega))⟩
  · exact ⟨_, s, s, by omega, ⟨hs, hR⟩, fun Q => s86_n (Q := Q) (d := d) (by omega) hg hv hb hn ib ik (fun h => q h.1), fun Q => s171_n (Q := Q) (d := d) (by omega) hm hv2 hb hn ib ik (fun h => q h.1)⟩
set_option maxRecDepth 8000 in
theorem r87 {d : Nat} {G : XS} {s : ZS} {sx : Int → Int} {k : Int} (hd : 30 ≤ d) (hg : LOK G 1 50 99) (hm : MOK G) (hR : REL s sx) (ik : ir k) : PRL G d 87 172 [zint k] s sx := by
  obtain ⟨hs, ⟨B, N, R, T, hW⟩, hl1, hl2, hk, hx, ht⟩ := id hR
  obtain ⟨hv, hv2, hb, hk0, hn9, hw⟩ := id hW
  have hn : 0 ≤ N ∧ N ≤ 40 ∧ 0 ≤ R ∧ R ≤ 10 ∧ 0 ≤ T ∧ T ≤ 20000 := by omega
  by_cases q : thr B N = 0
  · exact ⟨_, s, s, by omega, ⟨hs, hR⟩, fun Q => s87_n (Q := Q) (d := d) (by omega) hg hv hb hn ik (Or.inl q), fun Q => s172_n (Q := Q) (d := d) (by omega) hm hv2 hb hn ik (Or.inl q)⟩
  · by_cases q1 : k = 0 ∨ k = 1
    · have tb := thr_b (B := B) hn.1
      have ab := ar_b ⟨hn.1, hn.2.1⟩ hb
      have gb := gcn_b 100 (ar B N) (thr B N) 100000 (by omega) (by omega) (by omega) (by omega)
      have d1 := dv_b (a := ar B N) (c := 100000) (by omega) gb.1
      have d2 := dv_b (a := thr B N) (c := 100000) (by omega) gb.1
      refine ⟨_, s, s, ?_, ⟨hs, hR⟩, fun Q => s87_y (Q := Q) (d := d) (by omega) hg hv hb hn q q1, fun Q => s172_y (Q := Q) (d := d) (by omega) hm hv2 hb hn q q1⟩
      rcases q1 with rfl | rfl
      · rw [if_pos rfl]; omega
      · rw [if_neg (by omega)]; omega
    · exact ⟨_, s, s, by omega, ⟨hs, hR⟩, fun Q => s87_n (Q := Q) (d := d) (by omega) hg hv hb hn ik (Or.inr (fun h => q1 (by omega))), fun Q => s172_n (Q := Q) (d := d) (by omega) hm hv2 hb hn ik (Or.inr (fun h => q1 (by omega)))⟩
set_option maxRecDepth 8000 in
theorem plf_r {N n : Int} {s s1 : ZS} (h : ∀ r, 0 ≤ r ∧ r < n → rv s (1 + 46) r 0 = s1 173 (380 + 2 * r) ∧ rv s (1 + 46) r 1 = s1 173 (380 + 2 * r + 1)) : ∀ (j : Nat) (i : Int) (B : ZS), i + j = n → 0 ≤ i → plf N s (1 + 46) j i B = plr N s1 j i B := by
  intro j
  induction j with
  | zero => intro i B _ _; rfl
  | succ j ih =>
    intro i B h1 h2
    have := h i (by omega)
    show plf N s (1 + 46) j (i + 1) (dpl B N (rv s (1 + 46) i 0) (rv s (1 + 46) i 1)) = plr N s1 j (i + 1) (dpl B N (s1 173 (380 + 2 * i)) (s1 173 (380 + 2 * i + 1)))
    rw [this.1, this.2]
    exact ih _ _ (by omega) (by omega)
set_option maxRecDepth 8000 in
theorem r89 {d : Nat} {G : XS} {s : ZS} {sx : Int → Int} {w : Int} (hd : 30 ≤ d) (hg : LOK G 1 50 99) (hm : MOK G) (hR : REL s sx) (iw : ir w) : PRS G d 89 175 [zint w] s sx := by
  obtain ⟨hs, ⟨B, N, R, T, hW⟩, hl1, hl2, hk, hx, ht⟩ := id hR
  obtain ⟨hv, hv2, hb, hk0, hn9, hw⟩ := id hW
  have hn : 0 ≤ N ∧ N ≤ 40 ∧ 0 ≤ R ∧ R ≤ 10 ∧ 0 ≤ T ∧ T ≤ 20000 := by omega
  obtain ⟨⟨a1, a2, a3⟩, ⟨b1, b2, b3⟩, c1, c2, c3⟩ := id hw
  obtain ⟨l1, l2, l3⟩ := id hl1
  have hi : ∀ r, 0 ≤ r ∧ r < s 173 379 → (0 ≤ rv s (1 + 46) r 0 ∧ rv s (1 + 46) r 0 ≤ 3) ∧ ir (rv s (1 + 46) r 1) := fun r hr => by
    have h := b3 r hr
    rw [h.1.1, h.1.2]
    exact h.2
  by_cases q : 0 ≤ w ∧ w ≤ 1
  · rcases (show w = 0 ∨ w = 1 by omega) with rfl | rfl
    · obtain ⟨s1, f1, e1⟩ := s89_0 (d := d) (n := s 173 379) (by omega) hg hv hb hn b1 b2 hi hn9.2.2.2.2.2
      have n1 := nop_v f1
      have c : ∀ c, s1 173 c = s 173 c := fun c => n1.1 173 c (by omega)
      obtain ⟨s2, f2, e2⟩ := s175_0 (d := d) (n := s 173 379) (by omega) hm (WS_n hW n1).2.1 hb hn (c 379) b2 (fun r hr => by rw [c, c]; exact (b3 r hr).2) hk0 hn9.2.2.2.2.2
      have ee := plf_r (N := N) (s := s) (s1 := s1) (n := s 173 379) (fun r hr => by rw [c, c]; exact (b3 r hr).1) (s 173 379).toNat 0 B (by omega) (Int.le_refl 0)
      rw [ee] at e1
      have pb := prs_b (B := plr N s1 (s 173 379).toNat 0 B) ⟨hn.1, hn.2.1⟩
      exact ⟨_, s1, s2, by omega, ⟨SC_n hs n1, REL_n hR (nop_t n1 (nop_w f2))⟩, e1, e2⟩
    · obtain ⟨s1, f1, e1⟩ := s89_1 (d := d) (n := s 173 379) (by omega) hg hv hb hn b1 b2 hi hn9.2.2.2.2.2
      have n1 := nop_v f1
      have c : ∀ c, s1 173 c = s 173 c := fun c => n1.1 173 c (by omega)
      obtain ⟨s2, f2, e2⟩ := s175_1 (d := d) (n := s 173 379) (by omega) hm (WS_n hW n1).2.1 hb hn (c 379) b2 (fun r hr => by rw [c, c]; exact (b3 r hr).2) hk0 hn9.2.2.2.2.2
      have ee := plf_r (N := N) (s := s) (s1 := s1) (n := s 173 379) (fun r hr => by rw [c, c]; exact (b3 r hr).1) (s 173 379).toNat 0 B (by omega) (Int.le_refl 0)
      rw [ee] at e1
      have pb := sqa_b (B := plr N s1 (s 173 379).toNat 0 B) (R := R) ⟨hn.1, hn.2.1⟩
      exact ⟨_, s1, s2, by omega, ⟨SC_n hs n1, REL_n hR (nop_t n1 (nop_w f2))⟩, e1, e2⟩
  · exact ⟨_, s, s, by omega, ⟨hs, hR⟩, fun Q => s89_n (Q := Q) (d := d) (by omega) hg hv hb hn iw q, fun Q => s175_n (Q := Q) (d := d) (by omega) hm hv2 hb hn iw q⟩
set_option maxRecDepth 8000 in
theorem r92 {d : Nat} {G : XS} {s : ZS} {sx : Int → Int}  (hd : 30 ≤ d) (hg : LOK G 1 50 99) (hm : MOK G) (hR : REL s sx)  : PRS G d 92 177 [] s sx := by
  obtain ⟨hs, ⟨B, N, R, T, hW⟩, hl1, hl2, hk, hx, ht⟩ := id hR
  obtain ⟨hv, hv2, hb, hk0, hn9, hw⟩ := id hW
  have hn : 0 ≤ N ∧ N ≤ 40 ∧ 0 ≤ R ∧ R ≤ 10 ∧ 0 ≤ T ∧ T ≤ 20000 := by omega
  obtain ⟨⟨a1, a2, a3⟩, ⟨b1, b2, b3⟩, c1, c2, c3⟩ := id hw
  obtain ⟨l1, l2, l3⟩ := id hl1
  have hi : ∀ r, 0 ≤ r ∧ r < s 173 400 → ir (rv s (1 + 48) r 0) ∧ ir (rv s (1 + 48) r 1) := fun r hr => by
    have h := c3 r hr
    rw [h.1.1, h.1.2]
    exact h.2
  have kb := kth_b (p := fun r => lkp B N R s (1 + 48) r) (i := 0) (N := s 173 400) (m := 0) (Int.le_refl 0) c2.1
  have e1 := fun Q => s92 (Q := Q) (d := d) (n := s 173 400) (by omega) hg hv hb hn c1 c2 hi
  have e2 := fun Q => s177 (Q := Q) (d := d) (n := s 173 400) (by omega) hm hv2 hb hn rfl c2 (fun r hr => (c3 r hr).2)
  have ee := kth_c (p := fun r => lkp B N R s (1 + 48) r) (q := fun r => ¬(hr B N (s 173 (401 + 2 * r)) ∧ pt B N R (s 173 (401 + 2 * r)) = s 173 (401 + 2 * r + 1))) (a := 0) (N := s 173 400) (fun r hr9 => by
    have h := c3 r hr9
    show (¬(hr B N (rv s (1 + 48) r 0) ∧ pt B N R (rv s (1 + 48) r 0) = rv s (1 + 48) r 1)) ↔ _
    rw [h.1.1, h.1.2]) 0 (Int.le_refl 0) c2.1 0
  rw [← ee] at e2
  exact ⟨_, s, s, by omega, ⟨hs, hR⟩, e1, e2⟩
set_option maxRecDepth 8000 in
theorem r96 {d : Nat} {G : XS} {s : ZS} {sx : Int → Int} {b k : Int} (hd : 30 ≤ d) (hg : LOK G 1 50 99) (hm : MOK G) (hR : REL s sx) (ib : ir b) (ik : ir k) : PRS G d 96 182 [zint b, zint k] s sx := by
  obtain ⟨hs, ⟨B, N, R, T, hW⟩, hl1, hl2, hk, hx, ht⟩ := id hR
  obtain ⟨hv, hv2, hb, hk0, hn9, hw⟩ := id hW
  have hn : 0 ≤ N ∧ N ≤ 40 ∧ 0 ≤ R ∧ R ≤ 10 ∧ 0 ≤ T ∧ T ≤ 20000 := by omega
  by_cases q : 0 ≤ k ∧ k ≤ 3
  · by_cases q2 : hr B N b
    · have b0 := hb b q2.1
      by_cases q3 : k = B b 0 ∨ k = 0 ∨ (k = 1 ∧ B b 0 ≠ 0)
      · exact ⟨_, s, s, by omega, ⟨hs, hR⟩, fun Q => s96_y (Q := Q) (d := d) (by omega) hg hv hb hn q q2 q3, fun Q => s182_y (Q := Q) (d := d) (by omega) hm hv2 hb hn q q2 q3⟩
      · exact ⟨_, s, s, by omega, ⟨hs, hR⟩, fun Q => s96_c (Q := Q) (d := d) (by omega) hg hv hb hn q q2 q3, fun Q => s182_c (Q := Q) (d := d) (by omega) hm hv2 hb hn q q2 q3⟩
    · exact ⟨_, s, s, by omega, ⟨hs, hR⟩, fun Q => s96_n (Q := Q) (d := d) (by omega) hg hv hb hn ib q q2, fun Q => s182_n (Q := Q) (d := d) (by omega) hm hv2 hb hn ib q q2⟩
  · exact ⟨_, s, s, by omega, ⟨hs, hR⟩, fun Q => s96_b (Q := Q) (d := d) (by omega) hg hv hb hn ik q, fun Q => s182_b (Q := Q) (d := d) (by omega) hm hv2 hb hn ik q⟩
set_option maxRecDepth 8000 in
theorem r97 {d : Nat} {G : XS} {s : ZS} {sx : Int → Int} {x : Int} (hd : 30 ≤ d) (hg : LOK G 1 50 99) (hm : MOK G) (hR : REL s sx) (ix : ir x) : PRS G d 97 183 [zint x] s sx := by
  obtain ⟨hs, ⟨B, N, R, T, hW⟩, hl1, hl2, hk, hx, ht⟩ := id hR
  obtain ⟨hv, hv2, hb, hk0, hn9, hw⟩ := id hW
  have hn : 0 ≤ N ∧ N ≤ 40 ∧ 0 ≤ R ∧ R ≤ 10 ∧ 0 ≤ T ∧ T ≤ 20000 := by omega
  obtain ⟨⟨a1, a2, a3⟩, ⟨b1, b2, b3⟩, c1, c2, c3⟩ := id hw
  obtain ⟨l1, l2, l3⟩ := id hl1
  have tb := thr_b (B := B) hn.1
  obtain ⟨tx, ln, hx1, hx2⟩ := id hx
  have x1 := hx1.1
  have x2 := hx2.1
  have x3 := hx1.2.1
  by_cases q : 0 ≤ x ∧ x ≤ 5
  · rcases (show x = 0 ∨ x = 1 ∨ x = 2 ∨ x = 3 ∨ x = 4 ∨ x = 5 by omega) with rfl | rfl | rfl | rfl | rfl | rfl
    · exact ⟨_, s, s, by omega, ⟨hs, hR⟩, fun Q => s97_0 (Q := Q) (d := d) (by omega) hg hv hb hn , fun Q => s183_0 (Q := Q) (d := d) (by omega) hm hv2 hb hn ⟩
    · exact ⟨_, s, s, by omega, ⟨hs, hR⟩, fun Q => s97_1 (Q := Q) (d := d) (by omega) hg hv hb hn , fun Q => s183_1 (Q := Q) (d := d) (by omega) hm hv2 hb hn ⟩
    · exact ⟨s 173 363, s, s, by omega, ⟨hs, hR⟩, fun Q => by rw [s97_2 (Q := Q) (d := d) (by omega) hg hv hb hn, a1], fun Q => s183_2 (Q := Q) (d := d) (by omega) hm hv2 hb hn⟩
    · exact ⟨s 173 379, s, s, by omega, ⟨hs, hR⟩, fun Q => by rw [s97_3 (Q := Q) (d := d) (by omega) hg hv hb hn, b1], fun Q => s183_3 (Q := Q) (d := d) (by omega) hm hv2 hb hn⟩
    · exact ⟨s 173 400, s, s, by omega, ⟨hs, hR⟩, fun Q => by rw [s97_4 (Q := Q) (d := d) (by omega) hg hv hb hn, c1], fun Q => s183_4 (Q := Q) (d := d) (by omega) hm hv2 hb hn⟩
    · exact ⟨ln, s, s, by omega, ⟨hs, hR⟩, fun Q => by rw [s97_5 (Q := Q) (d := d) (by omega) hg hv hb hn, x1], fun Q => by rw [s183_5 (Q := Q) (d := d) (by omega) hm hv2 hb hn, x2]⟩
  · exact ⟨_, s, s, by omega, ⟨hs, hR⟩, fun Q => s97_n (Q := Q) (d := d) (by omega) hg hv hb hn ix q, fun Q => s183_n (Q := Q) (d := d) (by omega) hm hv2 hb hn ix q⟩
