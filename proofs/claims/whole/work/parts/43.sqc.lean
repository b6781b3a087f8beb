/-! how many squares there are: by a tally of each depth, and from square to square -/
theorem p2_d {k : Int} (hk : 0 ≤ k ∧ k < 5) (x : Int) : x / p2 (7 - k) = x / p2 (7 - (k + 1)) / 2 := by
  have h := p2_h hk
  rw [h.1, Int.mul_comm, Int.ediv_ediv_of_nonneg (by omega)]
theorem wq_s {x y w h k : Int} (hk : 0 ≤ k ∧ k < 5) (q : wq x y w h (k + 1)) : wq x y w h k := by
  have e := p2_d hk
  obtain ⟨q1, q2⟩ := q
  exact ⟨by rw [e, e, q1], by rw [e, e, q2]⟩
theorem wq_le {x y w h : Int} : ∀ (m : Nat) (k : Int), 0 ≤ k → k + m ≤ 5 → wq x y w h (k + m) → wq x y w h k := by
  intro m
  induction m with
  | zero => intro k _ _ h; rw [show k + ((0 : Nat) : Int) = k by omega] at h; exact h
  | succ m ih =>
    intro k h0 h5 h
    refine wq_s (by omega) (ih (k + 1) (by omega) (by omega) ?_)
    rw [show k + 1 + (m : Int) = k + ((m + 1 : Nat) : Int) by omega]
    exact h
theorem bi4 {F : Prop} {X Y c r : Int} : bi (F ∧ X / 2 = c ∧ Y / 2 = r) = bi (F ∧ X = 2 * c ∧ Y = 2 * r) + bi (F ∧ X = 2 * c + 1 ∧ Y = 2 * r) + bi (F ∧ X = 2 * c ∧ Y = 2 * r + 1) + bi (F ∧ X = 2 * c + 1 ∧ Y = 2 * r + 1) := by
  rcases Classical.em F with h | h
  · have e : ∀ P : Prop, bi (F ∧ P) = bi P := fun P => bi_c ⟨fun q => q.2, fun q => ⟨h, q⟩⟩
    rw [e, e, e, e, e]
    by_cases a1 : X = 2 * c
    · by_cases b1 : Y = 2 * r
      · rw [bi_1 (by omega), bi_1 (by omega), bi_0 (by omega), bi_0 (by omega), bi_0 (by omega)]; rfl
      · by_cases b2 : Y = 2 * r + 1
        · rw [bi_1 (by omega), bi_0 (by omega), bi_0 (by omega), bi_1 (by omega), bi_0 (by omega)]; rfl
        · rw [bi_0 (by omega), bi_0 (by omega), bi_0 (by omega), bi_0 (by omega), bi_0 (by omega)]; rfl
    · by_cases a2 : X = 2 * c + 1
      · by_cases b1 : Y = 2 * r
        · rw [bi_1 (by omega), bi_0 (by omega), bi_1 (by omega), bi_0 (by omega), bi_0 (by omega)]; rfl
        · by_cases b2 : Y = 2 * r + 1
          · rw [bi_1 (by omega), bi_0 (by omega), bi_0 (by omega), bi_0 (by omega), bi_1 (by omega)]; rfl
          · rw [bi_0 (by omega), bi_0 (by omega), bi_0 (by omega), bi_0 (by omega), bi_0 (by omega)]; rfl
      · rw [bi_0 (by omega), bi_0 (by omega), bi_0 (by omega), bi_0 (by omega), bi_0 (by omega)]; rfl
  · have e : ∀ P : Prop, bi (F ∧ P) = 0 := fun P => bi_0 (fun q => h q.1)
    rw [e, e, e, e, e]; rfl
noncomputable def sp (B : ZS) (R : Int) : Nat → Int → Int → Int → Int → Int
  | 0, k, c, r, i => bi (R < ct B k (r * p2 k + c) i)
  | d + 1, k, c, r, i => sp B R d (k + 1) (2 * c) (2 * r) i + sp B R d (k + 1) (2 * c + 1) (2 * r) i + sp B R d (k + 1) (2 * c) (2 * r + 1) i + sp B R d (k + 1) (2 * c + 1) (2 * r + 1) i
theorem sp_s {B : ZS} {R k c r i : Int} {d : Nat} : sp B R (d + 1) k c r i = sp B R d (k + 1) (2 * c) (2 * r) i + sp B R d (k + 1) (2 * c + 1) (2 * r) i + sp B R d (k + 1) (2 * c) (2 * r + 1) i + sp B R d (k + 1) (2 * c + 1) (2 * r + 1) i := rfl
theorem sp_b {B : ZS} {R i : Int} : ∀ (d : Nat) (k c r : Int), 0 ≤ sp B R d k c r i := by
  intro d
  induction d with
  | zero => intro k c r; exact bi_ge _
  | succ d ih =>
    intro k c r
    rw [sp_s]
    have a1 := ih (k + 1) (2 * c) (2 * r)
    have a2 := ih (k + 1) (2 * c + 1) (2 * r)
    have a3 := ih (k + 1) (2 * c) (2 * r + 1)
    have a4 := ih (k + 1) (2 * c + 1) (2 * r + 1)
    omega
theorem sp_z {B : ZS} {R : Int} (hR : 0 ≤ R) : ∀ (d : Nat) (k c r : Int), sp B R d k c r 0 = 0 := by
  intro d
  induction d with
  | zero =>
    intro k c r
    refine bi_0 ?_
    unfold ct
    rw [sm_e (Int.le_refl 0)]
    omega
  | succ d ih =>
    intro k c r
    rw [sp_s, ih, ih, ih, ih]; rfl
theorem cr_2 {k c : Int} (hk : 0 ≤ k ∧ k < 5) (hc : 0 ≤ c ∧ c < p2 k) : (0 ≤ 2 * c ∧ 2 * c < p2 (k + 1)) ∧ 0 ≤ 2 * c + 1 ∧ 2 * c + 1 < p2 (k + 1) := by
  have h := p2_h hk
  omega
theorem sp_i {B : ZS} {R i : Int} (hi : 0 ≤ i) (b : okb B i) : ∀ (d : Nat) (k c r : Int), 0 ≤ k → k + d ≤ 4 → (0 ≤ c ∧ c < p2 k) → (0 ≤ r ∧ r < p2 k) → sp B R d k c r (i + 1) = sp B R d k c r i + bi (fr1 B R (k + d) i ∧ B i 2 / p2 (7 - k) = c ∧ B i 3 / p2 (7 - k) = r) := by
  intro d
  induction d with
  | zero =>
    intro k c r h0 h4 hc hr
    rw [show k + ((0 : Nat) : Int) = k by omega]
    show bi (R < ct B k (r * p2 k + c) (i + 1)) = bi (R < ct B k (r * p2 k + c) i) + _
    have hk5 : 0 ≤ k ∧ k ≤ 5 := by omega
    have hw := wi_i (x := B i 2) (y := B i 3) (w := B i 4) (h := B i 5) hk5 (by omega) hc hr
    have hg := wi_ge (x := B i 2) (y := B i 3) (w := B i 4) (h := B i 5) hk5 (by omega) (by omega)
    have hp := p2_7k hk5
    have hm := Int.mul_nonneg hr.1 (show 0 ≤ p2 k by omega)
    by_cases q : B i 8 = 1 ∧ wi (B i 2) (B i 3) (B i 4) (B i 5) k = r * p2 k + c
    · have hq := hw.mp q.2
      rw [ct_s hi, bi_1 q]
      have ef : fr1 B R k i ↔ ct B k (r * p2 k + c) i = R := by
        unfold fr1
        rw [q.2, ct_s hi, bi_1 q]
        constructor
        · intro h; omega
        · intro h; exact ⟨⟨q.1, by omega⟩, by omega⟩
      rw [bi_c (show (fr1 B R k i ∧ B i 2 / p2 (7 - k) = c ∧ B i 3 / p2 (7 - k) = r) ↔ ct B k (r * p2 k + c) i = R from ⟨fun h => ef.mp h.1, fun h => ⟨ef.mpr h, hq.2⟩⟩)]
      generalize ct B k (r * p2 k + c) i = C
      by_cases a : R < C
      · rw [bi_1 (by omega), bi_1 a, bi_0 (by omega)]; rfl
      · by_cases a2 : C = R
        · rw [bi_1 (by omega), bi_0 a, bi_1 a2]; rfl
        · rw [bi_0 (by omega), bi_0 a, bi_0 a2]; rfl
    · rw [ct_s hi, bi_0 q, Int.add_zero, bi_0 (P := fr1 B R k i ∧ _)]
      · exact (Int.add_zero _).symm
      · rintro ⟨⟨⟨h1, h2⟩, -⟩, h3⟩
        exact q ⟨h1, hw.mpr ⟨hg.mp h2, h3⟩⟩
  | succ d ih =>
    intro k c r h0 h4 hc hr
    have hk4 : 0 ≤ k ∧ k < 5 := by omega
    have c2 := cr_2 hk4 hc
    have r2 := cr_2 hk4 hr
    have hz : 0 ≤ k + 1 := by omega
    have h5 : k + 1 + (d : Int) ≤ 4 := by omega
    rw [sp_s, sp_s, ih (k + 1) _ _ hz h5 c2.1 r2.1, ih (k + 1) _ _ hz h5 c2.2 r2.1, ih (k + 1) _ _ hz h5 c2.1 r2.2, ih (k + 1) _ _ hz h5 c2.2 r2.2, p2_d hk4, p2_d hk4, bi4, show k + ((d + 1 : Nat) : Int) = k + 1 + d by omega]
    omega
theorem sp_a {B : ZS} {N R : Int} {d : Nat} (hb : OKB B N) (hR : 0 ≤ R) (hd : d ≤ 4) : ∀ i, 0 ≤ i → i ≤ N → sp B R d 0 0 0 i = sm (fun j => bi (fr1 B R d j)) 0 i := by
  refine upw (P := fun i => sp B R d 0 0 0 i = sm (fun j => bi (fr1 B R d j)) 0 i) ?_ ?_
  · rw [sp_z hR, sm_e (Int.le_refl 0)]
  · intro i h0 h1 ih
    have b := hb i ⟨h0, h1⟩
    rw [sm_ap h0, sp_i h0 b d 0 0 0 (Int.le_refl 0) (by omega) ⟨Int.le_refl 0, by decide⟩ ⟨Int.le_refl 0, by decide⟩, ih, show (0 : Int) + (d : Int) = d by omega]
    have e1 : B i 2 / p2 (7 - 0) = 0 := by show B i 2 / 128 = 0; omega
    have e2 : B i 3 / p2 (7 - 0) = 0 := by show B i 3 / 128 = 0; omega
    rw [bi_c (show (fr1 B R d i ∧ B i 2 / p2 (7 - 0) = 0 ∧ B i 3 / p2 (7 - 0) = 0) ↔ fr1 B R d i from ⟨fun h => h.1, fun h => ⟨h, e1, e2⟩⟩)]
theorem sp_N {B : ZS} {N R : Int} {d : Nat} (hb : OKB B N) (hn : 0 ≤ N) (hR : 0 ≤ R) (hd : d ≤ 4) : sp B R d 0 0 0 N = spa B N R d := sp_a hb hR hd N hn (Int.le_refl N)
/-- what isn't full enough holds none that is -/
theorem wn_m {B : ZS} {N k c r e f : Int} (hb : OKB B N) (hn : 0 ≤ N) (hk : 0 ≤ k ∧ k < 5) (hc : 0 ≤ c ∧ c < p2 k) (hr : 0 ≤ r ∧ r < p2 k) (he : e = 2 * c ∨ e = 2 * c + 1) (hf : f = 2 * r ∨ f = 2 * r + 1) : wn B N (k + 1) (f * p2 (k + 1) + e) ≤ wn B N k (r * p2 k + c) := by
  have c2 := cr_2 hk hc
  have r2 := cr_2 hk hr
  unfold wn
  refine cn_i hn (fun j hj => ?_)
  have b := hb j hj
  rintro ⟨h1, h2⟩
  refine ⟨h1, ?_⟩
  rw [wi_i (by omega) (by omega) (by omega) (by omega)] at h2
  rw [wi_i (by omega) (by omega) hc hr]
  refine ⟨wq_s hk h2.1, ?_, ?_⟩
  · rw [p2_d hk, h2.2.1]; omega
  · rw [p2_d hk, h2.2.2]; omega
theorem sp_0 {B : ZS} {N R : Int} (hb : OKB B N) (hn : 0 ≤ N) : ∀ (d : Nat) (k c r : Int), 0 ≤ k → k + d ≤ 5 → (0 ≤ c ∧ c < p2 k) → (0 ≤ r ∧ r < p2 k) → ¬R < wn B N k (r * p2 k + c) → sp B R d k c r N = 0 := by
  intro d
  induction d with
  | zero => intro k c r h0 h5 hc hr q; exact bi_0 q
  | succ d ih =>
    intro k c r h0 h5 hc hr q
    have hk4 : 0 ≤ k ∧ k < 5 := by omega
    have c2 := cr_2 hk4 hc
    have r2 := cr_2 hk4 hr
    have hz : 0 ≤ k + 1 := by omega
    have h6 : k + 1 + (d : Int) ≤ 5 := by omega
    have m1 := wn_m (e := 2 * c) (f := 2 * r) hb hn hk4 hc hr (Or.inl rfl) (Or.inl rfl)
    have m2 := wn_m (e := 2 * c + 1) (f := 2 * r) hb hn hk4 hc hr (Or.inr rfl) (Or.inl rfl)
    have m3 := wn_m (e := 2 * c) (f := 2 * r + 1) hb hn hk4 hc hr (Or.inl rfl) (Or.inr rfl)
    have m4 := wn_m (e := 2 * c + 1) (f := 2 * r + 1) hb hn hk4 hc hr (Or.inr rfl) (Or.inr rfl)
    rw [sp_s, ih (k + 1) _ _ hz h6 c2.1 r2.1 (by omega), ih (k + 1) _ _ hz h6 c2.2 r2.1 (by omega), ih (k + 1) _ _ hz h6 c2.1 r2.2 (by omega), ih (k + 1) _ _ hz h6 c2.2 r2.2 (by omega)]; rfl
noncomputable def ss (B : ZS) (N R : Int) : Nat → Int → Int → Int → Int
  | 0, _, _, _ => 0
  | j + 1, k, c, r => ss B N R j k c r + sp B R j k c r N
theorem ss_s {B : ZS} {N R k c r : Int} {j : Nat} : ss B N R (j + 1) k c r = ss B N R j k c r + sp B R j k c r N := rfl
theorem ss_d {B : ZS} {N R k c r : Int} : ∀ j : Nat, ss B N R (j + 1) k c r = bi (R < wn B N k (r * p2 k + c)) + (ss B N R j (k + 1) (2 * c) (2 * r) + ss B N R j (k + 1) (2 * c + 1) (2 * r) + ss B N R j (k + 1) (2 * c) (2 * r + 1) + ss B N R j (k + 1) (2 * c + 1) (2 * r + 1)) := by
  intro j
  induction j with
  | zero =>
    show (0 : Int) + bi (R < ct B k (r * p2 k + c) N) = bi (R < ct B k (r * p2 k + c) N) + (0 + 0 + 0 + 0)
    omega
  | succ j ih =>
    rw [ss_s, ih, sp_s, ss_s, ss_s, ss_s, ss_s]
    omega
theorem ss_0 {B : ZS} {N R k c r : Int} (hb : OKB B N) (hn : 0 ≤ N) (h0 : 0 ≤ k) (hc : 0 ≤ c ∧ c < p2 k) (hr : 0 ≤ r ∧ r < p2 k) (q : ¬R < wn B N k (r * p2 k + c)) : ∀ j : Nat, k + j ≤ 5 → ss B N R j k c r = 0 := by
  intro j
  induction j with
  | zero => intro _; rfl
  | succ j ih =>
    intro h5
    rw [ss_s, ih (by omega), sp_0 hb hn j k c r h0 (by omega) hc hr q]; rfl
/-- the reference's way: from a square on -/
noncomputable def cq (B : ZS) (N R : Int) : Nat → Int → Int → Int → Int
  | 0, _, _, _ => 1
  | j + 1, k, c, r => if R < wn B N k (r * p2 k + c) then 1 + cq B N R j (k + 1) (2 * c) (2 * r) + cq B N R j (k + 1) (2 * c + 1) (2 * r) + cq B N R j (k + 1) (2 * c) (2 * r + 1) + cq B N R j (k + 1) (2 * c + 1) (2 * r + 1) else 1
theorem cq_y {B : ZS} {N R k c r : Int} {j : Nat} (q : R < wn B N k (r * p2 k + c)) : cq B N R (j + 1) k c r = 1 + cq B N R j (k + 1) (2 * c) (2 * r) + cq B N R j (k + 1) (2 * c + 1) (2 * r) + cq B N R j (k + 1) (2 * c) (2 * r + 1) + cq B N R j (k + 1) (2 * c + 1) (2 * r + 1) := if_pos q
theorem cq_n {B : ZS} {N R k c r : Int} {j : Nat} (q : ¬R < wn B N k (r * p2 k + c)) : cq B N R (j + 1) k c r = 1 := if_neg q
theorem cq_e {B : ZS} {N R : Int} (hb : OKB B N) (hn : 0 ≤ N) : ∀ (j : Nat) (k c r : Int), 0 ≤ k → k + j = 5 → (0 ≤ c ∧ c < p2 k) → (0 ≤ r ∧ r < p2 k) → cq B N R j k c r = 1 + 4 * ss B N R j k c r := by
  intro j
  induction j with
  | zero => intro k c r _ _ _ _; rfl
  | succ j ih =>
    intro k c r h0 h5 hc hr
    have hk4 : 0 ≤ k ∧ k < 5 := by omega
    have c2 := cr_2 hk4 hc
    have r2 := cr_2 hk4 hr
    have hz : 0 ≤ k + 1 := by omega
    have h6 : k + 1 + (j : Int) = 5 := by omega
    by_cases q : R < wn B N k (r * p2 k + c)
    · rw [cq_y q, ss_d, bi_1 q, ih (k + 1) _ _ hz h6 c2.1 r2.1, ih (k + 1) _ _ hz h6 c2.2 r2.1, ih (k + 1) _ _ hz h6 c2.1 r2.2, ih (k + 1) _ _ hz h6 c2.2 r2.2]
      omega
    · rw [cq_n q, ss_0 hb hn h0 hc hr q (j + 1) (by omega)]; rfl
theorem cq_a {B : ZS} {N R : Int} (hb : OKB B N) (hn : 0 ≤ N) (hR : 0 ≤ R) : cq B N R 5 0 0 0 = 1 + sqa B N R 0 := by
  have z : (0 : Int) ≤ 0 ∧ (0 : Int) < p2 0 := by decide
  rw [cq_e hb hn 5 0 0 0 (Int.le_refl 0) (by omega) z z]
  have e0 := sp_N (d := 0) hb hn hR (by omega)
  have e1 := sp_N (d := 1) hb hn hR (by omega)
  have e2 := sp_N (d := 2) hb hn hR (by omega)
  have e3 := sp_N (d := 3) hb hn hR (by omega)
  have e4 := sp_N (d := 4) hb hn hR (by omega)
  have es : ss B N R 5 0 0 0 = 0 + sp B R 0 0 0 0 N + sp B R 1 0 0 0 N + sp B R 2 0 0 0 N + sp B R 3 0 0 0 N + sp B R 4 0 0 0 N := rfl
  rw [es, e0, e1, e2, e3, e4]
  unfold sqa
  rw [sm_s (by omega), sm_s (by omega), sm_s (by omega), sm_s (by omega), sm_s (by omega), sm_e (by omega)]
  show 1 + 4 * (0 + spa B N R 0 + spa B N R 1 + spa B N R 2 + spa B N R 3 + spa B N R 4) = 1 + (4 * spa B N R 0 + (4 * spa B N R 1 + (4 * spa B N R 2 + (4 * spa B N R 3 + (4 * spa B N R 4 + 0)))))
  omega
noncomputable def dq (B : ZS) (N R : Int) : Nat → Int → Int → Int → Int
  | 0, k, _, _ => k
  | j + 1, k, c, r => if R < wn B N k (r * p2 k + c) then max (max (max (dq B N R j (k + 1) (2 * c) (2 * r)) (dq B N R j (k + 1) (2 * c + 1) (2 * r))) (dq B N R j (k + 1) (2 * c) (2 * r + 1))) (dq B N R j (k + 1) (2 * c + 1) (2 * r + 1)) else k
theorem dq_y {B : ZS} {N R k c r : Int} {j : Nat} (q : R < wn B N k (r * p2 k + c)) : dq B N R (j + 1) k c r = max (max (max (dq B N R j (k + 1) (2 * c) (2 * r)) (dq B N R j (k + 1) (2 * c + 1) (2 * r))) (dq B N R j (k + 1) (2 * c) (2 * r + 1))) (dq B N R j (k + 1) (2 * c + 1) (2 * r + 1)) := if_pos q
theorem dq_n {B : ZS} {N R k c r : Int} {j : Nat} (q : ¬R < wn B N k (r * p2 k + c)) : dq B N R (j + 1) k c r = k := if_neg q
theorem dq_b {B : ZS} {N R : Int} : ∀ (j : Nat) (k c r : Int), k ≤ dq B N R j k c r ∧ dq B N R j k c r ≤ k + j := by
  intro j
  induction j with
  | zero => intro k c r; show k ≤ k ∧ k ≤ k + ((0 : Nat) : Int); omega
  | succ j ih =>
    intro k c r
    by_cases q : R < wn B N k (r * p2 k + c)
    · rw [dq_y q]
      have a1 := ih (k + 1) (2 * c) (2 * r)
      have a2 := ih (k + 1) (2 * c + 1) (2 * r)
      have a3 := ih (k + 1) (2 * c) (2 * r + 1)
      have a4 := ih (k + 1) (2 * c + 1) (2 * r + 1)
      omega
    · rw [dq_n q]
      omega
theorem dq_m {B : ZS} {N R : Int} (hb : OKB B N) (hn : 0 ≤ N) : ∀ (j : Nat) (k c r : Int), 0 ≤ k → k + j = 5 → (0 ≤ c ∧ c < p2 k) → (0 ≤ r ∧ r < p2 k) → ∀ m : Nat, m < j → (k + m + 1 ≤ dq B N R j k c r ↔ 0 < sp B R m k c r N) := by
  intro j
  induction j with
  | zero => intro k c r _ _ _ _ m hm; omega
  | succ j ih =>
    intro k c r h0 h5 hc hr m hm
    have hk4 : 0 ≤ k ∧ k < 5 := by omega
    have c2 := cr_2 hk4 hc
    have r2 := cr_2 hk4 hr
    have hz : 0 ≤ k + 1 := by omega
    have h6 : k + 1 + (j : Int) = 5 := by omega
    by_cases q : R < wn B N k (r * p2 k + c)
    · rw [dq_y q]
      have d1 := dq_b (B := B) (N := N) (R := R) j (k + 1) (2 * c) (2 * r)
      cases m with
      | zero =>
        have e : sp B R 0 k c r N = 1 := bi_1 q
        rw [e]
        omega
      | succ m =>
        have a1 := ih (k + 1) _ _ hz h6 c2.1 r2.1 m (by omega)
        have a2 := ih (k + 1) _ _ hz h6 c2.2 r2.1 m (by omega)
        have a3 := ih (k + 1) _ _ hz h6 c2.1 r2.2 m (by omega)
        have a4 := ih (k + 1) _ _ hz h6 c2.2 r2.2 m (by omega)
        have b1 := sp_b (B := B) (R := R) (i := N) m (k + 1) (2 * c) (2 * r)
        have b2 := sp_b (B := B) (R := R) (i := N) m (k + 1) (2 * c + 1) (2 * r)
        have b3 := sp_b (B := B) (R := R) (i := N) m (k + 1) (2 * c) (2 * r + 1)
        have b4 := sp_b (B := B) (R := R) (i := N) m (k + 1) (2 * c + 1) (2 * r + 1)
        rw [sp_s]
        generalize sp B R m (k + 1) (2 * c) (2 * r) N = x1 at *
        generalize sp B R m (k + 1) (2 * c + 1) (2 * r) N = x2 at *
        generalize sp B R m (k + 1) (2 * c) (2 * r + 1) N = x3 at *
        generalize sp B R m (k + 1) (2 * c + 1) (2 * r + 1) N = x4 at *
        generalize dq B N R j (k + 1) (2 * c) (2 * r) = y1 at *
        generalize dq B N R j (k + 1) (2 * c + 1) (2 * r) = y2 at *
        generalize dq B N R j (k + 1) (2 * c) (2 * r + 1) = y3 at *
        generalize dq B N R j (k + 1) (2 * c + 1) (2 * r + 1) = y4 at *
        rw [show k + ((m + 1 : Nat) : Int) + 1 = k + 1 + m + 1 by omega]
        constructor
        · intro h
          rcases (show k + 1 + (m : Int) + 1 ≤ y1 ∨ k + 1 + (m : Int) + 1 ≤ y2 ∨ k + 1 + (m : Int) + 1 ≤ y3 ∨ k + 1 + (m : Int) + 1 ≤ y4 by omega) with h | h | h | h
          · have := a1.mp h; omega
          · have := a2.mp h; omega
          · have := a3.mp h; omega
          · have := a4.mp h; omega
        · intro h
          rcases (show 0 < x1 ∨ 0 < x2 ∨ 0 < x3 ∨ 0 < x4 by omega) with h | h | h | h
          · have := a1.mpr h; omega
          · have := a2.mpr h; omega
          · have := a3.mpr h; omega
          · have := a4.mpr h; omega
    · rw [dq_n q, sp_0 hb hn m k c r h0 (by omega) hc hr q]
      omega
theorem dq_g {B : ZS} {N R : Int} (hb : OKB B N) (hn : 0 ≤ N) (hR : 0 ≤ R) : dq B N R 5 0 0 0 = gdn B N R 5 0 := by
  have z : (0 : Int) ≤ 0 ∧ (0 : Int) < p2 0 := by decide
  have b := dq_b (B := B) (N := N) (R := R) 5 0 0 0
  have e0 := dq_m (R := R) hb hn 5 0 0 0 (Int.le_refl 0) (by omega) z z 0 (by omega)
  have e1 := dq_m (R := R) hb hn 5 0 0 0 (Int.le_refl 0) (by omega) z z 1 (by omega)
  have e2 := dq_m (R := R) hb hn 5 0 0 0 (Int.le_refl 0) (by omega) z z 2 (by omega)
  have e3 := dq_m (R := R) hb hn 5 0 0 0 (Int.le_refl 0) (by omega) z z 3 (by omega)
  have e4 := dq_m (R := R) hb hn 5 0 0 0 (Int.le_refl 0) (by omega) z z 4 (by omega)
  rw [sp_N hb hn hR (by omega)] at e0 e1 e2 e3 e4
  generalize dq B N R 5 0 0 0 = D at *
  have g0 : gdn B N R 5 0 = if 0 < spa B N R ((0 : Nat) : Int) then (if 0 < spa B N R ((1 : Nat) : Int) then (if 0 < spa B N R ((2 : Nat) : Int) then (if 0 < spa B N R ((3 : Nat) : Int) then (if 0 < spa B N R ((4 : Nat) : Int) then 5 else 4) else 3) else 2) else 1) else 0 := rfl
  rw [g0]
  by_cases q0 : 0 < spa B N R ((0 : Nat) : Int)
  · rw [if_pos q0]
    have f0 := e0.mpr q0
    by_cases q1 : 0 < spa B N R ((1 : Nat) : Int)
    · rw [if_pos q1]
      have f1 := e1.mpr q1
      by_cases q2 : 0 < spa B N R ((2 : Nat) : Int)
      · rw [if_pos q2]
        have f2 := e2.mpr q2
        by_cases q3 : 0 < spa B N R ((3 : Nat) : Int)
        · rw [if_pos q3]
          have f3 := e3.mpr q3
          by_cases q4 : 0 < spa B N R ((4 : Nat) : Int)
          · rw [if_pos q4]
            have f4 := e4.mpr q4
            omega
          · rw [if_neg q4]
            have f4 := fun h => q4 (e4.mp h)
            omega
        · rw [if_neg q3]
          have f3 := fun h => q3 (e3.mp h)
          omega
      · rw [if_neg q2]
        have f2 := fun h => q2 (e2.mp h)
        omega
    · rw [if_neg q1]
      have f1 := fun h => q1 (e1.mp h)
      omega
  · rw [if_neg q0]
    have f0 := fun h => q0 (e0.mp h)
    omega
/-! the path of a box, and the square that it is in -/
def bp (x y : Int) : Nat → Int
  | 0 => 0
  | k + 1 => bp x y k * 10 + dg x y (k + 1)
theorem bp_s {x y : Int} {k : Nat} : bp x y (k + 1) = bp x y k * 10 + dg x y (k + 1) := rfl
theorem dg_b {x y k : Int} : 1 ≤ dg x y k ∧ dg x y k ≤ 4 := by
  unfold dg
  generalize x / p2 (7 - k) = X
  generalize y / p2 (7 - k) = Y
  omega
theorem bp_d {x y : Int} : ∀ k : Nat, dig k (bp x y k) := by
  intro k
  induction k with
  | zero => exact rfl
  | succ k ih =>
    have h := dig_n k _ ih
    have hd := dg_b (x := x) (y := y) (k := (k : Int) + 1)
    refine ⟨by rw [bp_s]; omega, ?_⟩
    rw [bp_s, show (bp x y k * 10 + dg x y (k + 1)) / 10 = bp x y k by omega]
    exact ih
theorem bp_t {x y : Int} : ∀ (m k : Nat), bp x y (k + m) / t10 m = bp x y k := by
  intro m
  induction m with
  | zero => intro k; exact Int.ediv_one _
  | succ m ih =>
    intro k
    have hd := dg_b (x := x) (y := y) (k := (k : Int) + 1)
    rw [t10_d, show k + (m + 1) = k + 1 + m by omega, ih (k + 1), bp_s]
    omega
theorem dgs {x y : Int} {k : Nat} (hk : k < 5) : (dg x y ((k : Int) + 1) - 1) % 2 = x / p2 (7 - ((k + 1 : Nat) : Int)) % 2 ∧ (dg x y ((k : Int) + 1) - 1) / 2 % 2 = y / p2 (7 - ((k + 1 : Nat) : Int)) % 2 := by
  have e : ((k + 1 : Nat) : Int) = (k : Int) + 1 := by omega
  rw [e]
  unfold dg
  generalize x / p2 (7 - ((k : Int) + 1)) = X
  generalize y / p2 (7 - ((k : Int) + 1)) = Y
  omega
theorem bp_c {x y : Int} (hx : 0 ≤ x ∧ x ≤ 127) (hy : 0 ≤ y ∧ y ≤ 127) : ∀ k : Nat, k ≤ 5 → clf k (bp x y k) = x / p2 (7 - k) ∧ rwf k (bp x y k) = y / p2 (7 - k) := by
  intro k
  induction k with
  | zero =>
    intro _
    constructor
    · show 0 = x / 128; omega
    · show 0 = y / 128; omega
  | succ k ih =>
    intro h5
    have ih2 := ih (by omega)
    have hd := dg_b (x := x) (y := y) (k := (k : Int) + 1)
    have h2 := dgs (x := x) (y := y) (k := k) (by omega)
    have e1 : (bp x y k * 10 + dg x y (k + 1)) / 10 = bp x y k := by omega
    have e2 : (bp x y k * 10 + dg x y (k + 1)) % 10 = dg x y (k + 1) := by omega
    have d1 := p2_d (k := k) (by omega) x
    have d2 := p2_d (k := k) (by omega) y
    rw [show (k : Int) + 1 = ((k + 1 : Nat) : Int) by omega] at d1 d2
    rw [clf_s, rwf_s, bp_s, e1, e2, h2.1, h2.2, ih2.1, ih2.2, d1, d2]
    omega
theorem bp_u {B : ZS} {N R x y : Int} : ∀ (n : Nat) (p : Int), n ≤ 5 → dig n p → sqn B N R n p → clf n p = x / p2 (7 - n) → rwf n p = y / p2 (7 - n) → p = bp x y n := by
  intro n
  induction n with
  | zero => intro p _ h _ _ _; exact h
  | succ n ih =>
    intro p h5 hg hs hc hr
    rw [sqn_s] at hs
    have d1 := p2_d (k := n) (by omega) x
    have d2 := p2_d (k := n) (by omega) y
    rw [show (n : Int) + 1 = ((n + 1 : Nat) : Int) by omega] at d1 d2
    rw [clf_s] at hc
    rw [rwf_s] at hr
    have h2 : dg x y ((n : Int) + 1) = x / p2 (7 - ((n + 1 : Nat) : Int)) % 2 + 2 * (y / p2 (7 - ((n + 1 : Nat) : Int)) % 2) + 1 := rfl
    have e := ih (p / 10) (by omega) hg.2 hs.2 (by rw [d1]; omega) (by rw [d2]; omega)
    rw [bp_s, ← e, h2, ← hc, ← hr]
    have := hs.1.1
    omega
theorem ptn_x {B : ZS} {N R m : Int} : ∀ (j k : Nat), k + j = 5 → ∃ n : Nat, (k ≤ n ∧ n ≤ 5) ∧ ptn B N R m j k (bp (B m 2) (B m 3) k) = bp (B m 2) (B m 3) n ∧ (∀ i : Nat, k ≤ i ∧ i < n → gq B N R m i) ∧ (n < 5 → ¬gq B N R m n) := by
  intro j
  induction j with
  | zero => intro k h; exact ⟨k, by omega, rfl, fun i hi => by omega, fun h5 => by omega⟩
  | succ j ih =>
    intro k h
    by_cases q : gq B N R m k
    · obtain ⟨n, h1, h2, h3, h4⟩ := ih (k + 1) (by omega)
      refine ⟨n, by omega, ?_, fun i hi => ?_, h4⟩
      · rw [ptn_y q]
        exact h2
      · by_cases e : i = k
        · rw [e]; exact q
        · exact h3 i (by omega)
    · exact ⟨k, by omega, ptn_n q, fun i hi => by omega, fun _ => q⟩
theorem pt_in {B : ZS} {N R p m : Int} {n : Nat} (hb : OKB B N) (hm : 0 ≤ m ∧ m < N) (hg : dig n p) (h5 : n ≤ 5) (hs : sqn B N R n p) : (B m 8 = 1 ∧ pt B N R m = p) ↔ inp B N R n (ixf n p) m := by
  have b := hb m hm
  obtain ⟨n2, h1, h2, h3, h4⟩ := ptn_x (B := B) (N := N) (R := R) (m := m) 5 0 (by omega)
  have hpt : pt B N R m = bp (B m 2) (B m 3) n2 := h2
  have wqn : ∀ i : Nat, i ≤ n2 → wq (B m 2) (B m 3) (B m 4) (B m 5) i := by
    intro i hi
    cases i with
    | zero => exact wq_0 (by omega) (by omega) (by omega) (by omega)
    | succ i =>
      have := h3 i (by omega)
      rw [show ((i + 1 : Nat) : Int) = (i : Int) + 1 by omega]
      exact (wi_ge (by omega) (by omega) (by omega)).mp this.2
  have wix : ∀ i : Nat, i ≤ 5 → wq (B m 2) (B m 3) (B m 4) (B m 5) i → wi (B m 2) (B m 3) (B m 4) (B m 5) i = ixf i (bp (B m 2) (B m 3) i) := by
    intro i hi hq
    have := bp_c (x := B m 2) (y := B m 3) (by omega) (by omega) i hi
    rw [ixf_p hi, this.1, this.2, wi_1 hq]
  constructor
  · rintro ⟨h8, e⟩
    rw [hpt] at e
    have en : n2 = n := by
      have d1 := dig_d n2 _ 10 (bp_d (x := B m 2) (y := B m 3) n2) (by omega)
      have d2 := dig_d n p 10 hg (by omega)
      rw [e, d2] at d1
      omega
    subst en
    have hq := wqn n2 (Nat.le_refl _)
    refine ⟨⟨h8, ?_⟩, ?_⟩
    · rw [wix n2 h5 hq, e]
    · rintro ⟨⟨a1, a2⟩, a3⟩
      refine h4 (by omega) ⟨?_, a3⟩
      rw [wix n2 h5 hq, e]
      exact a2
  · rintro ⟨⟨h8, hw⟩, hno⟩
    have hcr := cr_p (p := p) h5
    rw [ixf_p h5, wi_i (by omega) (by omega) hcr.1 hcr.2] at hw
    have ep := bp_u (x := B m 2) (y := B m 3) n p h5 hg hs hw.2.1.symm hw.2.2.symm
    refine ⟨h8, ?_⟩
    rw [hpt]
    have en : n2 = n := by
      by_cases l1 : n2 < n
      · exfalso
        refine h4 (by omega) ⟨?_, ?_⟩
        · rw [wix n2 h1.2 (wqn n2 (Nat.le_refl _))]
          have h6 := sqn_p (B := B) (N := N) (R := R) (n - (n2 + 1)) (n2 + 1) p (by rw [show n2 + 1 + (n - (n2 + 1)) = n by omega]; exact hs)
          rw [sqn_s, ep] at h6
          have h7 := bp_t (x := B m 2) (y := B m 3) (n - (n2 + 1)) (n2 + 1)
          rw [show n2 + 1 + (n - (n2 + 1)) = n by omega] at h7
          have hd := dg_b (x := B m 2) (y := B m 3) (k := (n2 : Int) + 1)
          rw [h7, bp_s, show (bp (B m 2) (B m 3) n2 * 10 + dg (B m 2) (B m 3) (n2 + 1)) / 10 = bp (B m 2) (B m 3) n2 by omega] at h6
          exact h6.1.2
        · refine (wi_ge (by omega) (by omega) (by omega)).mpr ?_
          refine wq_le (n - (n2 + 1)) ((n2 : Int) + 1) (by omega) (by omega) ?_
          rw [show (n2 : Int) + 1 + ((n - (n2 + 1) : Nat) : Int) = (n : Int) by omega]
          exact hw.1
      · by_cases l2 : n < n2
        · exfalso
          have h6 := h3 n (by omega)
          refine hno ⟨⟨by omega, ?_⟩, h6.2⟩
          have h7 := h6.1
          rw [wi_1 hw.1, hw.2.1, hw.2.2, ← ixf_p h5] at h7
          exact h7
        · omega
    rw [en]
    exact ep.symm
