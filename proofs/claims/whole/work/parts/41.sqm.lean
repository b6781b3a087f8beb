/-! squares by their corners and by their places -/
theorem p2_h {k : Int} (h : 0 ≤ k ∧ k < 5) : p2 (7 - k) = 2 * p2 (7 - (k + 1)) ∧ p2 (7 - k) / 2 = p2 (7 - (k + 1)) ∧ 4 ≤ p2 (7 - (k + 1)) ∧ p2 (7 - (k + 1)) ≤ 64 ∧ p2 (k + 1) = 2 * p2 k := by
  rcases (show k = 0 ∨ k = 1 ∨ k = 2 ∨ k = 3 ∨ k = 4 by omega) with rfl | rfl | rfl | rfl | rfl <;> decide
theorem p2_7k {k : Int} (h : 0 ≤ k ∧ k ≤ 5) : 4 ≤ p2 (7 - k) ∧ p2 (7 - k) ≤ 128 ∧ (4 < p2 (7 - k) ↔ k < 5) ∧ 1 ≤ p2 k ∧ p2 k ≤ 32 := by
  rcases (show k = 0 ∨ k = 1 ∨ k = 2 ∨ k = 3 ∨ k = 4 ∨ k = 5 by omega) with rfl | rfl | rfl | rfl | rfl | rfl <;> decide
theorem cr_b {k c : Int} (h : 0 ≤ k ∧ k ≤ 5) (hc : 0 ≤ c ∧ c < p2 k) : 0 ≤ c * p2 (7 - k) ∧ c * p2 (7 - k) ≤ 128 - p2 (7 - k) := by
  rcases (show k = 0 ∨ k = 1 ∨ k = 2 ∨ k = 3 ∨ k = 4 ∨ k = 5 by omega) with rfl | rfl | rfl | rfl | rfl | rfl <;> simp only [Int.reduceSub, p2_0, p2_1, p2_2, p2_3, p2_4, p2_5, p2_6, p2_7] at hc ⊢ <;> omega
theorem dm1 {X Y c r : Int} (h : Y * 1 + X = r * 1 + c) (hX : 0 ≤ X ∧ X < 1) (hc : 0 ≤ c ∧ c < 1) : X = c ∧ Y = r := by omega
theorem dm2 {X Y c r : Int} (h : Y * 2 + X = r * 2 + c) (hX : 0 ≤ X ∧ X < 2) (hc : 0 ≤ c ∧ c < 2) : X = c ∧ Y = r := by omega
theorem dm4 {X Y c r : Int} (h : Y * 4 + X = r * 4 + c) (hX : 0 ≤ X ∧ X < 4) (hc : 0 ≤ c ∧ c < 4) : X = c ∧ Y = r := by omega
theorem dm8 {X Y c r : Int} (h : Y * 8 + X = r * 8 + c) (hX : 0 ≤ X ∧ X < 8) (hc : 0 ≤ c ∧ c < 8) : X = c ∧ Y = r := by omega
theorem dm16 {X Y c r : Int} (h : Y * 16 + X = r * 16 + c) (hX : 0 ≤ X ∧ X < 16) (hc : 0 ≤ c ∧ c < 16) : X = c ∧ Y = r := by omega
theorem dm32 {X Y c r : Int} (h : Y * 32 + X = r * 32 + c) (hX : 0 ≤ X ∧ X < 32) (hc : 0 ≤ c ∧ c < 32) : X = c ∧ Y = r := by omega
theorem dm {k X Y c r : Int} (hk : 0 ≤ k ∧ k ≤ 5) (h : Y * p2 k + X = r * p2 k + c) (hX : 0 ≤ X ∧ X < p2 k) (hc : 0 ≤ c ∧ c < p2 k) : X = c ∧ Y = r := by
  rcases (show k = 0 ∨ k = 1 ∨ k = 2 ∨ k = 3 ∨ k = 4 ∨ k = 5 by omega) with rfl | rfl | rfl | rfl | rfl | rfl <;> simp only [p2_0, p2_1, p2_2, p2_3, p2_4, p2_5] at h hX hc
  · exact dm1 h hX hc
  · exact dm2 h hX hc
  · exact dm4 h hX hc
  · exact dm8 h hX hc
  · exact dm16 h hX hc
  · exact dm32 h hX hc
theorem xk_b {k x : Int} (hk : 0 ≤ k ∧ k ≤ 5) (hx : 0 ≤ x ∧ x ≤ 127) : 0 ≤ x / p2 (7 - k) ∧ x / p2 (7 - k) < p2 k := by
  rcases (show k = 0 ∨ k = 1 ∨ k = 2 ∨ k = 3 ∨ k = 4 ∨ k = 5 by omega) with rfl | rfl | rfl | rfl | rfl | rfl <;> simp only [Int.reduceSub, p2_0, p2_1, p2_2, p2_3, p2_4, p2_5, p2_6, p2_7] <;> omega
/-- the place tells column and row -/
theorem wi_i {x y w h k c r : Int} (hk : 0 ≤ k ∧ k ≤ 5) (hx : 0 ≤ x ∧ x ≤ 127) (hc : 0 ≤ c ∧ c < p2 k) (hr : 0 ≤ r ∧ r < p2 k) : (wi x y w h k = r * p2 k + c) ↔ (wq x y w h k ∧ x / p2 (7 - k) = c ∧ y / p2 (7 - k) = r) := by
  have hp := p2_7k hk
  have hm := Int.mul_nonneg hr.1 (show 0 ≤ p2 k by omega)
  by_cases q : wq x y w h k
  · rw [wi_1 q]
    constructor
    · intro e
      exact ⟨q, dm hk e (xk_b hk hx) hc⟩
    · rintro ⟨-, rfl, rfl⟩
      rfl
  · rw [wi_0 q]
    constructor
    · intro e
      omega
    · intro e
      exact absurd e.1 q
theorem ax_q {x w c S : Int} (hS : 0 < S) (hw : 1 ≤ w) : ((x + w - 1) / S = x / S ∧ x / S = c) ↔ (c * S ≤ x ∧ x + w ≤ c * S + S) := by
  constructor
  · rintro ⟨h1, h2⟩
    have e1 := Int.ediv_mul_le x (show S ≠ 0 by omega)
    have e2 := Int.lt_ediv_add_one_mul_self (x + w - 1) hS
    rw [h1] at e2
    rw [h2] at e1 e2
    rw [Int.add_mul] at e2
    omega
  · rintro ⟨h1, h2⟩
    have e1 : x / S = c := by
      refine Int.le_antisymm ?_ ?_
      · exact Int.le_of_lt_add_one (Int.ediv_lt_of_lt_mul hS (by rw [Int.add_mul]; omega))
      · exact Int.le_ediv_of_mul_le hS h1
    have e2 : (x + w - 1) / S = c := by
      refine Int.le_antisymm ?_ ?_
      · exact Int.le_of_lt_add_one (Int.ediv_lt_of_lt_mul hS (by rw [Int.add_mul]; omega))
      · exact Int.le_ediv_of_mul_le hS (by omega)
    exact ⟨by rw [e1, e2], e1⟩
theorem wi_wl {B : ZS} {j k c r : Int} (b : okb B j) (hk : 0 ≤ k ∧ k ≤ 5) (hc : 0 ≤ c ∧ c < p2 k) (hr : 0 ≤ r ∧ r < p2 k) : (wi (B j 2) (B j 3) (B j 4) (B j 5) k = r * p2 k + c) ↔ wl B j (c * p2 (7 - k)) (r * p2 (7 - k)) (p2 (7 - k)) := by
  have hp := p2_7k hk
  rw [wi_i hk (by omega) hc hr]
  have h1 := ax_q (x := B j 2) (w := B j 4) (c := c) (S := p2 (7 - k)) (by omega) (by omega)
  have h2 := ax_q (x := B j 3) (w := B j 5) (c := r) (S := p2 (7 - k)) (by omega) (by omega)
  constructor
  · rintro ⟨⟨a1, a2⟩, a3, a4⟩
    have b1 := h1.mp ⟨a1, a3⟩
    have b2 := h2.mp ⟨a2, a4⟩
    exact ⟨⟨b1.1, b2.1⟩, b1.2, b2.2⟩
  · rintro ⟨⟨a1, a2⟩, a3, a4⟩
    have b1 := h1.mpr ⟨a1, a3⟩
    have b2 := h2.mpr ⟨a2, a4⟩
    exact ⟨⟨b1.1, b2.1⟩, b1.2, b2.2⟩
theorem wn_wr {B : ZS} {N k c r : Int} (hb : OKB B N) (hn : 0 ≤ N) (hk : 0 ≤ k ∧ k ≤ 5) (hc : 0 ≤ c ∧ c < p2 k) (hr : 0 ≤ r ∧ r < p2 k) : wnr B N (c * p2 (7 - k)) (r * p2 (7 - k)) (p2 (7 - k)) = wn B N k (r * p2 k + c) := by
  unfold wnr wn
  refine cn_c hn (fun j hj => ?_)
  rw [wi_wl (hb j hj) hk hc hr]
/-- a box in the square that holds it: column and row -/
theorem wi_cr {x y w h k : Int} (q : wq x y w h k) : wi x y w h k = y / p2 (7 - k) * p2 k + x / p2 (7 - k) := wi_1 q
theorem wi_ge {x y w h k : Int} (hk : 0 ≤ k ∧ k ≤ 5) (hx : 0 ≤ x ∧ x ≤ 127) (hy : 0 ≤ y ∧ y ≤ 127) : (0 ≤ wi x y w h k) ↔ wq x y w h k := by
  have hp := p2_7k hk
  have h1 := xk_b hk hx
  have h2 := xk_b hk hy
  have h3 := Int.mul_nonneg h2.1 (show 0 ≤ p2 k by omega)
  by_cases q : wq x y w h k
  · rw [wi_1 q]
    exact ⟨fun _ => q, fun _ => by omega⟩
  · rw [wi_0 q]
    exact ⟨fun h => by omega, fun h => absurd h q⟩
theorem wn_wb {B : ZS} {N k m : Int} (hb : OKB B N) (hm : 0 ≤ m ∧ m < N) (hk : 0 ≤ k ∧ k ≤ 5) (q : wq (B m 2) (B m 3) (B m 4) (B m 5) k) : wnr B N (B m 2 / p2 (7 - k) * p2 (7 - k)) (B m 3 / p2 (7 - k) * p2 (7 - k)) (p2 (7 - k)) = wn B N k (wi (B m 2) (B m 3) (B m 4) (B m 5) k) := by
  have b := hb m hm
  rw [wn_wr hb (by omega) hk (xk_b hk (by omega)) (xk_b hk (by omega)), wi_1 q]
theorem wq_0 {x y w h : Int} (hx : 0 ≤ x ∧ x ≤ 128 - w) (hy : 0 ≤ y ∧ y ≤ 128 - h) (hw : 1 ≤ w) (hh : 1 ≤ h) : wq x y w h 0 := by
  simp only [wq, Int.reduceSub, p2_7]
  omega
/-- half a square on -/
theorem hf_y {x k : Int} (hk : 0 ≤ k ∧ k < 5) (hx : 0 ≤ x ∧ x ≤ 127) (q : x / p2 (7 - k) * p2 (7 - k) + p2 (7 - (k + 1)) ≤ x) : x / p2 (7 - k) * p2 (7 - k) + 1 * p2 (7 - (k + 1)) = x / p2 (7 - (k + 1)) * p2 (7 - (k + 1)) ∧ x / p2 (7 - (k + 1)) % 2 = 1 := by
  rcases (show k = 0 ∨ k = 1 ∨ k = 2 ∨ k = 3 ∨ k = 4 by omega) with rfl | rfl | rfl | rfl | rfl <;> simp only [Int.reduceSub, Int.reduceAdd, p2_0, p2_1, p2_2, p2_3, p2_4, p2_5, p2_6, p2_7] at q ⊢ <;> omega
theorem hf_n {x k : Int} (hk : 0 ≤ k ∧ k < 5) (hx : 0 ≤ x ∧ x ≤ 127) (q : ¬x / p2 (7 - k) * p2 (7 - k) + p2 (7 - (k + 1)) ≤ x) : x / p2 (7 - k) * p2 (7 - k) + 0 * p2 (7 - (k + 1)) = x / p2 (7 - (k + 1)) * p2 (7 - (k + 1)) ∧ x / p2 (7 - (k + 1)) % 2 = 0 := by
  rcases (show k = 0 ∨ k = 1 ∨ k = 2 ∨ k = 3 ∨ k = 4 by omega) with rfl | rfl | rfl | rfl | rfl <;> simp only [Int.reduceSub, Int.reduceAdd, p2_0, p2_1, p2_2, p2_3, p2_4, p2_5, p2_6, p2_7] at q ⊢ <;> omega
theorem wl_b {B : ZS} {N m k : Int} (hb : OKB B N) (hm : 0 ≤ m ∧ m < N) (hk : 0 ≤ k ∧ k ≤ 5) : wl B m (B m 2 / p2 (7 - k) * p2 (7 - k)) (B m 3 / p2 (7 - k) * p2 (7 - k)) (p2 (7 - k)) ↔ 0 ≤ wi (B m 2) (B m 3) (B m 4) (B m 5) k := by
  have b := hb m hm
  have h2 := xk_b (x := B m 2) hk (by omega)
  have h3 := xk_b (x := B m 3) hk (by omega)
  rw [wi_ge hk (by omega) (by omega), ← wi_wl b hk h2 h3, wi_i hk (by omega) h2 h3]
  exact ⟨fun h => h.1, fun h => ⟨h, rfl, rfl⟩⟩
theorem q2_p : ∀ n : Nat, n ≤ 5 → q2 n = p2 n := by
  intro n h
  rcases (show n = 0 ∨ n = 1 ∨ n = 2 ∨ n = 3 ∨ n = 4 ∨ n = 5 by omega) with rfl | rfl | rfl | rfl | rfl | rfl <;> decide
theorem ixf_p {n : Nat} {p : Int} (h : n ≤ 5) : ixf n p = rwf n p * p2 n + clf n p := by unfold ixf; rw [q2_p n h]
theorem cr_p {n : Nat} {p : Int} (h : n ≤ 5) : (0 ≤ clf n p ∧ clf n p < p2 n) ∧ 0 ≤ rwf n p ∧ rwf n p < p2 n := by
  rw [← q2_p n h]
  exact ⟨clf_b n p, rwf_b n p⟩
theorem wn_wp {B : ZS} {N p : Int} {n : Nat} (hb : OKB B N) (hn : 0 ≤ N) (h : n ≤ 5) : wnr B N (clf n p * p2 (7 - n)) (rwf n p * p2 (7 - n)) (p2 (7 - n)) = wn B N n (ixf n p) := by
  have := cr_p (p := p) h
  rw [wn_wr hb hn (by omega) this.1 this.2, ixf_p h]
/-- powers of ten, the digits of a path from its greatest on -/
def t10 : Nat → Int
  | 0 => 1
  | n + 1 => 10 * t10 n
def tw : Nat → Int
  | 0 => 0
  | n + 1 => t10 n
theorem t10_s {n : Nat} : t10 (n + 1) = 10 * t10 n := rfl
theorem t10_p : ∀ n : Nat, 1 ≤ t10 n := by
  intro n
  induction n with
  | zero => exact Int.le_refl 1
  | succ n ih => rw [t10_s]; omega
theorem t10_b : ∀ n : Nat, n ≤ 5 → t10 n ≤ 100000 := by
  intro n h
  rcases (show n = 0 ∨ n = 1 ∨ n = 2 ∨ n = 3 ∨ n = 4 ∨ n = 5 by omega) with rfl | rfl | rfl | rfl | rfl | rfl <;> decide
theorem t10_d {p : Int} {n : Nat} : p / t10 (n + 1) = p / t10 n / 10 := by
  rw [t10_s, Int.mul_comm, Int.ediv_ediv_of_nonneg (by have := t10_p n; omega)]
theorem tw_d {n : Nat} : tw (n + 1) / 10 = tw n := by
  cases n with
  | zero => decide
  | succ n =>
    show t10 (n + 1) / 10 = t10 n
    rw [t10_s]
    omega
theorem dig_p : ∀ (m k : Nat) (p : Int), dig (k + m) p → dig k (p / t10 m) := by
  intro m
  induction m with
  | zero => intro k p h; rw [show p / t10 0 = p from Int.ediv_one p]; exact h
  | succ m ih =>
    intro k p h
    rw [t10_d]
    have := ih (k + 1) p (by rw [show k + 1 + m = k + (m + 1) by omega]; exact h)
    exact this.2
theorem sqn_p {B : ZS} {N R : Int} : ∀ (m k : Nat) (p : Int), sqn B N R (k + m) p → sqn B N R k (p / t10 m) := by
  intro m
  induction m with
  | zero => intro k p h; rw [show p / t10 0 = p from Int.ediv_one p]; exact h
  | succ m ih =>
    intro k p h
    rw [t10_d]
    have := ih (k + 1) p (by rw [show k + 1 + m = k + (m + 1) by omega]; exact h)
    rw [sqn_s] at this
    exact this.2
theorem dig_w : ∀ (m : Nat) (p : Int), dig (m + 1) p → (10 ≤ p ↔ 1 ≤ m) := by
  intro m p h
  cases m with
  | zero => have h1 := h.1; have h2 : p / 10 = 0 := h.2; omega
  | succ m => have h1 := h.1; have h2 := h.2.1; omega
theorem nx_c {C e H : Int} : C * (2 * H) + e * H = (2 * C + e) * H := by
  rw [Int.add_mul, ← Int.mul_assoc, Int.mul_comm C 2]
