/-! how the two objects stand to each other -/
def RW1 (s : ZS) (W A : Int) : Prop := s (W + 43) 2 = s A 363 ∧ (0 ≤ s A 363 ∧ s A 363 ≤ 5) ∧ ∀ r, 0 ≤ r ∧ r < s A 363 → (rv s (W + 44) r 0 = s A (364 + 3 * r) ∧ rv s (W + 44) r 1 = s A (364 + 3 * r + 1) ∧ rv s (W + 44) r 2 = s A (364 + 3 * r + 2)) ∧ ir (s A (364 + 3 * r)) ∧ (0 ≤ s A (364 + 3 * r + 1) ∧ s A (364 + 3 * r + 1) ≤ 12) ∧ ir (s A (364 + 3 * r + 2))
def RW2 (s : ZS) (W A : Int) : Prop := s (W + 45) 2 = s A 379 ∧ (0 ≤ s A 379 ∧ s A 379 ≤ 10) ∧ ∀ r, 0 ≤ r ∧ r < s A 379 → (rv s (W + 46) r 0 = s A (380 + 2 * r) ∧ rv s (W + 46) r 1 = s A (380 + 2 * r + 1)) ∧ (0 ≤ s A (380 + 2 * r) ∧ s A (380 + 2 * r) ≤ 3) ∧ ir (s A (380 + 2 * r + 1))
def RW3 (s : ZS) (W A : Int) : Prop := s (W + 47) 2 = s A 400 ∧ (0 ≤ s A 400 ∧ s A 400 ≤ 8) ∧ ∀ r, 0 ≤ r ∧ r < s A 400 → (rv s (W + 48) r 0 = s A (401 + 2 * r) ∧ rv s (W + 48) r 1 = s A (401 + 2 * r + 1)) ∧ ir (s A (401 + 2 * r)) ∧ ir (s A (401 + 2 * r + 1))
def RWS (s : ZS) (W A : Int) : Prop := RW1 s W A ∧ RW2 s W A ∧ RW3 s W A
def LIM (s : ZS) (W : Int) : Prop := s (W + 43) 1 = 5 ∧ s (W + 45) 1 = 10 ∧ s (W + 47) 1 = 8
def WS (s : ZS) (W A : Int) (B : ZS) (N R T : Int) : Prop := CV s W B N R T ∧ RV s A B N R T ∧ OKB B N ∧ K0 B N ∧ (0 ≤ N ∧ N ≤ 40 ∧ 0 ≤ R ∧ R ≤ 10 ∧ 0 ≤ T ∧ T ≤ 9999) ∧ RWS s W A
def KP (s : ZS) : Prop := s 0 3 = s 172 3 ∧ (s 0 3 = 0 ∨ (s 0 3 = 1 ∧ ∃ B N R T, WS s 50 175 B N R T))
def TX (s : ZS) : Prop := ∃ tx ln, TXT s tx ln ∧ TXR s tx ln
def TP (s : ZS) : Prop := ∀ k, 0 ≤ k ∧ k < 6 → s (160 + 2 * k) 1 = s 177 k ∧ s (160 + 2 * k) 2 = s 178 k ∧ (-1 ≤ s 177 k ∧ s 177 k ≤ 4) ∧ (0 ≤ s 178 k ∧ s 178 k ≤ 60) ∧ (s 177 k = -1 → s 178 k = 0) ∧ ∀ i, 0 ≤ i ∧ i < 60 → s (160 + 2 * k + 1) i = s (180 + k) i ∧ jr (s (180 + k) i)
def SC (s : ZS) (sx : Int → Int) : Prop := ∀ i, s 1000000 i = sx i
def REL (s : ZS) (sx : Int → Int) : Prop := SC s sx ∧ (∃ B N R T, WS s 1 173 B N R T) ∧ LIM s 1 ∧ LIM s 50 ∧ KP s ∧ TX s ∧ TP s
theorem RWS_c {s s2 : ZS} {W A : Int} (h : RWS s W A) (h1 : ∀ a c, W + 43 ≤ a ∧ a ≤ W + 48 → s2 a c = s a c) (h2 : ∀ c, 363 ≤ c → s2 A c = s A c) : RWS s2 W A := by
  obtain ⟨⟨a1, a2, a3⟩, ⟨b1, b2, b3⟩, c1, c2, c3⟩ := h
  have e1 := h2 363 (by omega)
  have e2 := h2 379 (by omega)
  have e3 := h2 400 (by omega)
  refine ⟨⟨?_, ?_, fun r hr => ?_⟩, ⟨?_, ?_, fun r hr => ?_⟩, ?_, ?_, fun r hr => ?_⟩
  · rw [h1 (W + 43) 2 (by omega), e1]; exact a1
  · rw [e1]; exact a2
  · rw [e1] at hr
    have := a3 r hr
    unfold rv at this ⊢
    rw [h1 (W + 44) (r * 3 + 0) (by omega), h1 (W + 44) (r * 3 + 1) (by omega), h1 (W + 44) (r * 3 + 2) (by omega), h2 (364 + 3 * r) (by omega), h2 (364 + 3 * r + 1) (by omega), h2 (364 + 3 * r + 2) (by omega)]
    exact this
  · rw [h1 (W + 45) 2 (by omega), e2]; exact b1
  · rw [e2]; exact b2
  · rw [e2] at hr
    have := b3 r hr
    unfold rv at this ⊢
    rw [h1 (W + 46) (r * 3 + 0) (by omega), h1 (W + 46) (r * 3 + 1) (by omega), h2 (380 + 2 * r) (by omega), h2 (380 + 2 * r + 1) (by omega)]
    exact this
  · rw [h1 (W + 47) 2 (by omega), e3]; exact c1
  · rw [e3]; exact c2
  · rw [e3] at hr
    have := c3 r hr
    unfold rv at this ⊢
    rw [h1 (W + 48) (r * 3 + 0) (by omega), h1 (W + 48) (r * 3 + 1) (by omega), h2 (401 + 2 * r) (by omega), h2 (401 + 2 * r + 1) (by omega)]
    exact this
theorem LIM_c {s s2 : ZS} {W : Int} (h : LIM s W) (h1 : ∀ a, W + 43 ≤ a ∧ a ≤ W + 48 → s2 a 1 = s a 1) : LIM s2 W := by
  obtain ⟨a, b, c⟩ := h
  exact ⟨by rw [h1 (W + 43) (by omega)]; exact a, by rw [h1 (W + 45) (by omega)]; exact b, by rw [h1 (W + 47) (by omega)]; exact c⟩
theorem CV_c {s s2 : ZS} {W : Int} {B : ZS} {N R T : Int} (hv : CV s W B N R T) (hn : N ≤ 40) (h : ∀ a c, (a = W ∨ (W + 2 ≤ a ∧ a < W + 42)) → s2 a c = s a c) : CV s2 W B N R T := by
  obtain ⟨v1, v2, v3, vB⟩ := hv
  exact ⟨by rw [h W 5 (Or.inl rfl)]; exact v1, by rw [h W 6 (Or.inl rfl)]; exact v2, by rw [h W 7 (Or.inl rfl)]; exact v3, fun i f hi => by rw [h (W + 2 + i) f (by omega)]; exact vB i f hi⟩
theorem WS_c {s s2 : ZS} {W A : Int} {B : ZS} {N R T : Int} (hw : WS s W A B N R T) (h : ∀ a c, (W ≤ a ∧ a ≤ W + 48 ∧ a ≠ W + 42) ∨ a = A → s2 a c = s a c) : WS s2 W A B N R T := by
  obtain ⟨h1, h2, h3, h4, h5, h6⟩ := hw
  exact ⟨CV_c h1 h5.2.1 (fun a c ha => h a c (by omega)), RV_e h2 (fun c => h A c (Or.inr rfl)), h3, h4, h5, RWS_c h6 (fun a c ha => h a c (by omega)) (fun c _ => h A c (Or.inr rfl))⟩
/-! the world now, and what else counts, as it was -/
def fW (s s2 : ZS) : Prop := ∀ a c, (1 ≤ a ∧ a ≤ 49 ∧ a ≠ 43) ∨ a = 173 → s2 a c = s a c
def fO (s s2 : ZS) : Prop := ∀ a c, (a = 0 ∨ (50 ≤ a ∧ a ≤ 98 ∧ a ≠ 92) ∨ (a = 172 ∧ c < 10) ∨ (a = 148 ∧ c ≤ 2) ∨ a = 149 ∨ (159 ≤ a ∧ a ≤ 171) ∨ (175 ≤ a ∧ a ≤ 185) ∨ a = 1000000) → s2 a c = s a c
theorem KP_o {s s2 : ZS} (h : KP s) (f : fO s s2) : KP s2 := by
  obtain ⟨h1, h2⟩ := h
  have e0 := f 0 3 (by omega)
  have e1 := f 172 3 (by omega)
  refine ⟨by rw [e0, e1]; exact h1, ?_⟩
  rw [e0]
  rcases h2 with h2 | ⟨h2, B, N, R, T, h3⟩
  · exact Or.inl h2
  · exact Or.inr ⟨h2, B, N, R, T, WS_c h3 (fun a c ha => f a c (by omega))⟩
theorem TX_o {s s2 : ZS} (h : TX s) (f : fO s s2) : TX s2 := by
  obtain ⟨tx, ln, ⟨a1, a2, a3, a4⟩, b1, b2, b3, b4⟩ := h
  exact ⟨tx, ln, ⟨by rw [f 148 2 (by omega)]; exact a1, a2, fun i hi => by rw [f 149 i (by omega)]; exact a3 i hi, a4⟩, by rw [f 172 5 (by omega)]; exact b1, b2, fun i hi => by rw [f 176 i (by omega)]; exact b3 i hi, b4⟩
theorem TP_c {s s2 : ZS} (h : TP s) (f : ∀ a c, ((159 ≤ a ∧ a ≤ 171) ∨ (177 ≤ a ∧ a ≤ 185)) → s2 a c = s a c) : TP s2 := by
  intro k hk
  have := h k hk
  rw [f (160 + 2 * k) 1 (by omega), f (160 + 2 * k) 2 (by omega), f 177 k (by omega), f 178 k (by omega)]
  refine ⟨this.1, this.2.1, this.2.2.1, this.2.2.2.1, this.2.2.2.2.1, fun i hi => ?_⟩
  rw [f (160 + 2 * k + 1) i (by omega), f (180 + k) i (by omega)]
  exact this.2.2.2.2.2 i hi
theorem TP_o {s s2 : ZS} (h : TP s) (f : fO s s2) : TP s2 := TP_c h (fun a c ha => f a c (by omega))
theorem REL_w {s s2 : ZS} {sx : Int → Int} {B : ZS} {N R T : Int} (h : REL s sx) (f : fO s s2) (hw : WS s2 1 173 B N R T) (hl : LIM s2 1) : REL s2 sx := by
  obtain ⟨h1, h2, h3, h4, h5, h6, h7⟩ := h
  exact ⟨fun i => by rw [f 1000000 i (by omega)]; exact h1 i, ⟨B, N, R, T, hw⟩, hl, LIM_c h4 (fun a ha => f a 1 (by omega)), KP_o h5 f, TX_o h6 f, TP_o h7 f⟩
def nop (s s2 : ZS) : Prop := fW s s2 ∧ fO s s2
theorem nop_r (s : ZS) : nop s s := ⟨fun a c _ => rfl, fun a c _ => rfl⟩
theorem nop_t {s s2 s3 : ZS} (h1 : nop s s2) (h2 : nop s2 s3) : nop s s3 := ⟨fun a c h => by rw [h2.1 a c h, h1.1 a c h], fun a c h => by rw [h2.2 a c h, h1.2 a c h]⟩
theorem nop_v {s s2 : ZS} (h : fvw s s2 99) : nop s s2 := ⟨fun a c ha => h a c (by omega), fun a c ha => h a c (by omega)⟩
theorem nop_y {s s2 : ZS} (h : ∀ b c, b ≠ 1 + 42 → s2 b c = s b c) : nop s s2 := ⟨fun a c ha => h a c (by omega), fun a c ha => h a c (by omega)⟩
theorem nop_w {s s2 : ZS} (h : frw s s2) : nop s s2 := ⟨fun a c ha => h a c (by omega) (by omega), fun a c ha => h a c (by omega) (by omega)⟩
theorem WS_n {s s2 : ZS} {B : ZS} {N R T : Int} (hw : WS s 1 173 B N R T) (h : nop s s2) : WS s2 1 173 B N R T := WS_c hw (fun a c ha => h.1 a c (by omega))
theorem REL_n {s s2 : ZS} {sx : Int → Int} (h : REL s sx) (f : nop s s2) : REL s2 sx := by
  obtain ⟨B, N, R, T, hw⟩ := h.2.1
  exact REL_w h f.2 (WS_n hw f) (LIM_c h.2.2.1 (fun a ha => f.1 a 1 (by omega)))
/-! boxes, time and room alone are others -/
def fB (s s2 : ZS) : Prop := ∀ a c, a ≠ 1 → (a < 3 ∨ 43 ≤ a) → (a ≠ 173 ∨ 363 ≤ c) → s2 a c = s a c
theorem fB_o {s s2 : ZS} (h : fB s s2) : fO s s2 := fun a c ha => h a c (by omega) (by omega) (by omega)
theorem fB_l {s s2 : ZS} (h : fB s s2) (hl : LIM s 1) : LIM s2 1 := LIM_c hl (fun a ha => h a 1 (by omega) (by omega) (by omega))
theorem fB_s {s s2 : ZS} (h : fB s s2) (hr : RWS s 1 173) : RWS s2 1 173 := RWS_c hr (fun a c ha => h a c (by omega) (by omega) (by omega)) (fun c hc => h 173 c (by omega) (by omega) (by omega))
theorem REL_b {s s2 : ZS} {sx : Int → Int} {B B' : ZS} {N R T N' R' T' : Int} (h : REL s sx) (hw : WS s 1 173 B N R T) (f : fB s s2) (h1 : CV s2 1 B' N' R' T') (h2 : RV s2 173 B' N' R' T') (h3 : OKB B' N') (h4 : K0 B' N') (h5 : 0 ≤ N' ∧ N' ≤ 40 ∧ 0 ≤ R' ∧ R' ≤ 10 ∧ 0 ≤ T' ∧ T' ≤ 9999) : REL s2 sx :=
  REL_w h (fB_o f) ⟨h1, h2, h3, h4, h5, fB_s f hw.2.2.2.2.2⟩ (fB_l f h.2.2.1)
/-! rows alone are others -/
def fR (s s2 : ZS) : Prop := ∀ a c, (a < 44 ∨ 49 < a) → (a ≠ 173 ∨ c < 363) → s2 a c = s a c
theorem REL_r {s s2 : ZS} {sx : Int → Int} {B : ZS} {N R T : Int} (h : REL s sx) (hw : WS s 1 173 B N R T) (f : fR s s2) (h1 : RV s2 173 B N R T) (h2 : RWS s2 1 173) (h3 : LIM s2 1) : REL s2 sx := by
  obtain ⟨a1, a2, a3, a4, a5, a6⟩ := hw
  exact REL_w h (fun a c ha => f a c (by omega) (by omega)) ⟨CV_c a1 a5.2.1 (fun a c ha => f a c (by omega) (by omega)), h1, a3, a4, a5, h2⟩ h3
theorem SC_n {s s2 : ZS} {sx : Int → Int} (h : SC s sx) (n : nop s s2) : SC s2 sx := fun i => (n.2 1000000 i (by omega)).trans (h i)
def PRS (G : XS) (d m1 m2 : Nat) (args : List AV) (s : ZS) (sx : Int → Int) : Prop := ∃ (v : Int) (s1 s2 : ZS), ir v ∧ (SC s1 sx ∧ REL s2 sx) ∧ (∀ Q, Call d m1 (zrf 0 :: args) (G, s) Q = Q (some (zint v)) (G, s1)) ∧ ∀ Q, Call d m2 (zrf 172 :: args) (G, s1) Q = Q (some (zint v)) (G, s2)
def PRL (G : XS) (d m1 m2 : Nat) (args : List AV) (s : ZS) (sx : Int → Int) : Prop := ∃ (v : Int) (s1 s2 : ZS), jr v ∧ (SC s1 sx ∧ REL s2 sx) ∧ (∀ Q, Call d m1 (zrf 0 :: args) (G, s) Q = Q (some (zlng v)) (G, s1)) ∧ ∀ Q, Call d m2 (zrf 172 :: args) (G, s1) Q = Q (some (zlng v)) (G, s2)
theorem sq_b {a : Int} (h : -200 ≤ a ∧ a ≤ 200) : 0 ≤ a * a ∧ a * a ≤ 40000 := by
  by_cases q : 0 ≤ a
  · exact mul_b (c := 200) ⟨q, h.2⟩ ⟨q, h.2⟩
  · have e : a * a = (-a) * (-a) := by rw [Int.neg_mul_neg]
    rw [e]
    exact mul_b (c := 200) (by omega) (by omega)
theorem sm_0b {f : Int → Int} {N c : Int} (hN : 0 ≤ N) (h : ∀ j, 0 ≤ f j ∧ f j ≤ c) : 0 ≤ sm f 0 N ∧ sm f 0 N ≤ c * N := by
  have := sm_b h 0 hN
  rw [Int.sub_zero] at this
  exact this
theorem sqa_b {B : ZS} {N R : Int} (hn : 0 ≤ N ∧ N ≤ 40) : 0 ≤ sqa B N R 0 ∧ sqa B N R 0 ≤ 800 := by
  have := sm_0b (f := fun k => 4 * spa B N R k) (N := 5) (c := 160) (by omega) (fun k => by
    have := spa_b (B := B) (R := R) (k := k) hn.1
    omega)
  unfold sqa
  omega
theorem gdn_b {B : ZS} {N R : Int} : ∀ (n : Nat) (k : Int), k ≤ gdn B N R n k ∧ gdn B N R n k ≤ k + n := by
  intro n
  induction n with
  | zero => intro k; show k ≤ k ∧ k ≤ k + ((0 : Nat) : Int); omega
  | succ n ih =>
    intro k
    show k ≤ (if 0 < spa B N R k then gdn B N R n (k + 1) else k) ∧ (if 0 < spa B N R k then gdn B N R n (k + 1) else k) ≤ k + ((n + 1 : Nat) : Int)
    have := ih (k + 1)
    split <;> omega
theorem tcl_b {B : ZS} {N : Int} : 0 ≤ sm (fun c => tcl B N c 0) 0 8 ∧ sm (fun c => tcl B N c 0) 0 8 ≤ 64 := by
  have := sm_0b (f := fun c => tcl B N c 0) (N := 8) (c := 8) (by omega) (fun c => by
    have := cn_b (fun r => 0 ≤ kth (fun j => B j 8 = 1 ∧ cov (B j 2) (B j 3) (B j 4) (B j 5) (c * 16) (r * 16) 16 16) 0 N 0) 0 8 (by omega)
    unfold tcl
    omega)
  omega
theorem fm_b {a b : Int} : ∀ (n : Nat) (B : ZS) (i : Int), 0 ≤ i → -5 ≤ fm a b n B i ∧ fm a b n B i ≤ i + n := by
  intro n
  induction n with
  | zero => intro B i hi; show -5 ≤ (-5 : Int) ∧ (-5 : Int) ≤ i + ((0 : Nat) : Int); omega
  | succ n ih =>
    intro B i hi
    by_cases q : mt B a b
    · rw [fm_y q]; omega
    · rw [fm_n q]
      have := ih (stp B) (i + 1) (by omega)
      omega
theorem spl_b {P : Int → Prop} : ∀ (j : Nat) (v m l : Int), (-200 ≤ v - j ∧ v ≤ 200) → (0 ≤ m ∧ m ≤ 200 - j) → (-200 ≤ l ∧ l ≤ 200) → (0 ≤ (spl P j v m l).1 ∧ (spl P j v m l).1 ≤ 200) ∧ -200 ≤ (spl P j v m l).2 ∧ (spl P j v m l).2 ≤ 200 := by
  intro j
  induction j with
  | zero => intro v m l h1 h2 h3; show (0 ≤ m ∧ m ≤ 200) ∧ -200 ≤ l ∧ l ≤ 200; omega
  | succ j ih =>
    intro v m l h1 h2 h3
    rcases Classical.em (P v) with q | q
    · rw [spl_y q]
      exact ih _ _ _ (by omega) (by omega) (by omega)
    · rw [spl_n q]
      exact ih _ _ _ (by omega) (by omega) (by omega)
theorem jdn_b {B : ZS} {len : Int} {it : Int → Int} {x : Int} : ∀ (j : Nat) (m : Int), 0 ≤ m → -5 ≤ jdn B len it x j m ∧ jdn B len it x j m ≤ 100 + m + j := by
  intro j
  induction j with
  | zero => intro m hm; show -5 ≤ (-5 : Int) ∧ (-5 : Int) ≤ 100 + m + ((0 : Nat) : Int); omega
  | succ j ih =>
    intro m hm
    by_cases q : len - x ≤ m
    · rw [jdn_l q]; omega
    · by_cases q2 : it (x + m) = due B m
      · rw [jdn_y q q2]
        have := ih (m + 1) (by omega)
        omega
      · rw [jdn_n q q2]
        omega
theorem jdn_e {B : ZS} {len : Int} {it it2 : Int → Int} {x : Int} (hx : 0 ≤ x) (hl : len ≤ 60) (h : ∀ i, 0 ≤ i ∧ i < 60 → it i = it2 i) : ∀ (j : Nat) (m : Int), 0 ≤ m → jdn B len it x j m = jdn B len it2 x j m := by
  intro j
  induction j with
  | zero => intro m hm; rfl
  | succ j ih =>
    intro m hm
    by_cases q : len - x ≤ m
    · rw [jdn_l q, jdn_l q]
    · have e := h (x + m) (by omega)
      by_cases q2 : it (x + m) = due B m
      · rw [jdn_y q q2, jdn_y q (by rw [← e]; exact q2)]
        exact ih (m + 1) (by omega)
      · rw [jdn_n q q2, jdn_n q (by rw [← e]; exact q2)]
theorem pnn_b {B : ZS} {N k : Int} (hN : 0 ≤ N ∧ N ≤ 40) : ∀ (n : Nat) (a p : Int), 0 ≤ a → a + n ≤ 40 → -5 ≤ pnn B N k n a p ∧ pnn B N k n a p ≤ 5000 := by
  intro n
  induction n with
  | zero => intro a p ha h; show -5 ≤ (-5 : Int) ∧ (-5 : Int) ≤ 5000; omega
  | succ n ih =>
    intro a p ha h
    have kb := kth_b (p := fun j => B j 8 = 1 ∧ mt B a j) (i := 0) (N := N) (m := k - p) (Int.le_refl 0) hN.1
    have i1 := ih (a + 1) (p + mtg B N a) (by omega) (by omega)
    have i2 := ih (a + 1) p (by omega) (by omega)
    unfold pnn
    by_cases q : B a 8 = 1 ∧ B a 1 = 0
    · rw [if_pos q]
      by_cases q2 : k - p < mtg B N a
      · rw [if_pos q2]; omega
      · rw [if_neg q2]; exact i1
    · rw [if_neg q]
      exact i2
theorem pn_b {B : ZS} {N k : Int} (hN : 0 ≤ N ∧ N ≤ 40) : -5 ≤ pn B N k 0 0 ∧ pn B N k 0 0 ≤ 5000 := pnn_b hN _ 0 0 (Int.le_refl 0) (by omega)
theorem wd_b {p : Int → Prop} {N : Int} : ∀ i, 0 ≤ i → i ≤ N → ∀ a, jr a → jr (wd p i N a) := by
  refine dn (P := fun i => ∀ a, jr a → jr (wd p i N a)) ?_ ?_
  · intro a ha
    rw [wd_e (Int.le_refl N)]
    exact ha
  · intro i h0 h1 ih a ha
    rcases Classical.em (p i) with q | q
    · rw [wd_y h1 q]
      exact ih _ jr_l
    · rw [wd_n h1 q]
      exact ih _ ha
