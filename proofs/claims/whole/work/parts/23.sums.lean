/-! sums, the k-th, by pointwise facts; a branch that is looked into only when it is decided -/
def bx (c A B : Prop) (_ : A → B → Unit) : Prop := (c ∧ A) ∨ (¬c ∧ B)
theorem bx_pos {c A B : Prop} {w : A → B → Unit} (h : c) : bx c A B w = A := by unfold bx; simp [h]
theorem bx_neg {c A B : Prop} {w : A → B → Unit} (h : ¬c) : bx c A B w = B := by unfold bx; simp [h]
theorem bx_T {A B : Prop} {w : A → B → Unit} : bx True A B w = A := bx_pos trivial
theorem bx_F {A B : Prop} {w : A → B → Unit} : bx False A B w = B := bx_neg (fun h => h)
theorem ite_bx {c A B : Prop} {i : Decidable c} : @ite Prop c i A B = bx c A B (fun _ _ => ()) := by
  by_cases h : c
  · rw [if_pos h, bx_pos h]
  · rw [if_neg h, bx_neg h]
theorem sm_c {f g : Int → Int} {N : Int} {a : Int} (h : ∀ j, a ≤ j ∧ j < N → f j = g j) : ∀ i, a ≤ i → i ≤ N → sm f i N = sm g i N := by
  refine dn (P := fun i => sm f i N = sm g i N) ?_ ?_
  · rw [sm_e (Int.le_refl N), sm_e (Int.le_refl N)]
  · intro i h0 h1 ih
    rw [sm_s h1, sm_s h1, ih, h i ⟨h0, h1⟩]
theorem sm_cg {f g : Int → Int} {i N : Int} (hi : i ≤ N) (h : ∀ j, i ≤ j ∧ j < N → f j = g j) : sm f i N = sm g i N := sm_c h i (Int.le_refl i) hi
theorem sm_ad {f g : Int → Int} {a N : Int} : ∀ i, a ≤ i → i ≤ N → sm (fun j => f j + g j) i N = sm f i N + sm g i N := by
  refine dn (P := fun i => sm (fun j => f j + g j) i N = sm f i N + sm g i N) ?_ ?_
  · rw [sm_e (Int.le_refl N), sm_e (Int.le_refl N), sm_e (Int.le_refl N)]
    rfl
  · intro i h0 h1 ih
    rw [sm_s h1, sm_s h1, sm_s h1, ih]
    omega
theorem sm_add {f g : Int → Int} {i N : Int} (hi : i ≤ N) : sm (fun j => f j + g j) i N = sm f i N + sm g i N := sm_ad (a := i) i (Int.le_refl i) hi
theorem sm_lf {f g : Int → Int} {a N : Int} (h : ∀ j, a ≤ j ∧ j < N → f j ≤ g j) : ∀ i, a ≤ i → i ≤ N → sm f i N ≤ sm g i N := by
  refine dn (P := fun i => sm f i N ≤ sm g i N) ?_ ?_
  · rw [sm_e (Int.le_refl N), sm_e (Int.le_refl N)]
    exact Int.le_refl 0
  · intro i h0 h1 ih
    rw [sm_s h1, sm_s h1]
    have := h i ⟨h0, h1⟩
    omega
theorem sm_le {f g : Int → Int} {i N : Int} (hi : i ≤ N) (h : ∀ j, i ≤ j ∧ j < N → f j ≤ g j) : sm f i N ≤ sm g i N := sm_lf h i (Int.le_refl i) hi
theorem sm_z {f : Int → Int} {a N : Int} (h : ∀ j, a ≤ j ∧ j < N → f j = 0) : ∀ i, a ≤ i → i ≤ N → sm f i N = 0 := by
  refine dn (P := fun i => sm f i N = 0) ?_ ?_
  · exact sm_e (Int.le_refl N)
  · intro i h0 h1 ih
    rw [sm_s h1, ih, h i ⟨h0, h1⟩]
    rfl
theorem sm_0 {f : Int → Int} {i N : Int} (hi : i ≤ N) (h : ∀ j, i ≤ j ∧ j < N → f j = 0) : sm f i N = 0 := sm_z h i (Int.le_refl i) hi
theorem sm_oo {a b N : Int} : ∀ i, a ≤ i → i ≤ N → sm (fun j => bi (j = b)) i N = bi (i ≤ b ∧ b < N) := by
  refine dn (P := fun i => sm (fun j => bi (j = b)) i N = bi (i ≤ b ∧ b < N)) ?_ ?_
  · rw [sm_e (Int.le_refl N), bi_0 (by omega)]
  · intro i h0 h1 ih
    rw [sm_s h1, ih]
    by_cases e : i = b
    · rw [bi_1 e, bi_0 (by omega), bi_1 (by omega)]
      rfl
    · by_cases e2 : i + 1 ≤ b ∧ b < N
      · rw [bi_0 e, bi_1 e2, bi_1 (by omega)]
        rfl
      · rw [bi_0 e, bi_0 e2, bi_0 (by omega)]
        rfl
theorem sm_1 {b N : Int} (h : 0 ≤ b ∧ b < N) : sm (fun j => bi (j = b)) 0 N = 1 := by
  rw [sm_oo (a := 0) 0 (Int.le_refl 0) (by omega), bi_1 h]
theorem sm_ap {f : Int → Int} {i N : Int} (h : i ≤ N) : sm f i (N + 1) = sm f i N + f N := by
  have := dn (P := fun i => sm f i (N + 1) = sm f i N + f N) (a := i) (N := N) (by
    rw [sm_s (by omega), sm_e (Int.le_refl N), sm_e (by omega)]
    omega) (fun j h1 h2 h3 => by
    rw [sm_s (by omega), sm_s h2, h3]
    omega) i (Int.le_refl i) h
  exact this
theorem bi_c {P P' : Prop} (h : P ↔ P') : bi P = bi P' := by rw [propext h]
theorem bi_i {P P' : Prop} (h : P → P') : bi P ≤ bi P' := by
  rcases Classical.em P with q | q
  · rw [bi_1 q, bi_1 (h q)]
    exact Int.le_refl 1
  · rw [bi_0 q]
    exact bi_ge P'
theorem cn_i {p q : Int → Prop} {i N : Int} (hi : i ≤ N) (h : ∀ j, i ≤ j ∧ j < N → p j → q j) : sm (fun j => bi (p j)) i N ≤ sm (fun j => bi (q j)) i N := sm_le hi (fun j hj => bi_i (h j hj))
theorem cn_c {p q : Int → Prop} {i N : Int} (hi : i ≤ N) (h : ∀ j, i ≤ j ∧ j < N → (p j ↔ q j)) : sm (fun j => bi (p j)) i N = sm (fun j => bi (q j)) i N := sm_cg hi (fun j hj => bi_c (h j hj))
/-- one more, by name -/
theorem cn_1 {p q : Int → Prop} {b N : Int} (hb : 0 ≤ b ∧ b < N) (h : ∀ j, 0 ≤ j ∧ j < N → (p j → q j) ∧ (j = b → q j ∧ ¬p j)) : sm (fun j => bi (p j)) 0 N + 1 ≤ sm (fun j => bi (q j)) 0 N := by
  rw [← sm_1 hb, ← sm_add (by omega)]
  refine sm_le (by omega) (fun j hj => ?_)
  by_cases e : j = b
  · have := (h j hj).2 e
    rw [bi_1 e, bi_1 this.1, bi_0 this.2]
    omega
  · rw [bi_0 e, Int.add_zero]
    exact bi_i (h j hj).1
theorem cn_1e {p q : Int → Prop} {b N : Int} (hb : 0 ≤ b ∧ b < N) (h : ∀ j, 0 ≤ j ∧ j < N → (q j ↔ p j ∨ j = b) ∧ (j = b → ¬p j)) : sm (fun j => bi (q j)) 0 N = sm (fun j => bi (p j)) 0 N + 1 := by
  rw [← sm_1 hb, ← sm_add (by omega)]
  refine sm_cg (by omega) (fun j hj => ?_)
  have hh := h j hj
  by_cases e : j = b
  · rw [bi_1 e, bi_1 (hh.1.2 (Or.inr e)), bi_0 (hh.2 e)]
    rfl
  · rw [bi_0 e, Int.add_zero]
    exact bi_c ⟨fun a => (hh.1.1 a).resolve_right e, fun a => hh.1.2 (Or.inl a)⟩
theorem kth_c {p q : Int → Prop} {a N : Int} (h : ∀ j, a ≤ j ∧ j < N → (p j ↔ q j)) : ∀ i, a ≤ i → i ≤ N → ∀ m, kth p i N m = kth q i N m := by
  refine dn (P := fun i => ∀ m, kth p i N m = kth q i N m) ?_ ?_
  · intro m
    rw [kth_e (Int.le_refl N), kth_e (Int.le_refl N)]
  · intro i h0 h1 ih m
    rcases Classical.em (p i) with e | e
    · have e2 := (h i ⟨h0, h1⟩).1 e
      by_cases z : m = 0
      · rw [kth_z h1 e z, kth_z h1 e2 z]
      · rw [kth_s h1 e z, kth_s h1 e2 z, ih]
    · have e2 := fun x => e ((h i ⟨h0, h1⟩).2 x)
      rw [kth_n h1 e, kth_n h1 e2, ih]
theorem kth_no {p : Int → Prop} {a N : Int} (h : ∀ j, a ≤ j ∧ j < N → ¬p j) : ∀ i, a ≤ i → i ≤ N → ∀ m, kth p i N m = -5 := by
  refine dn (P := fun i => ∀ m, kth p i N m = -5) ?_ ?_
  · intro m
    exact kth_e (Int.le_refl N)
  · intro i h0 h1 ih m
    rw [kth_n h1 (h i ⟨h0, h1⟩), ih]
theorem kth_at {p : Int → Prop} {a r N : Int} (hr : r < N) (hp : p r) (h : ∀ j, a ≤ j ∧ j < r → ¬p j) : ∀ i, a ≤ i → i ≤ r → kth p i N 0 = r := by
  refine dn (P := fun i => kth p i N 0 = r) ?_ ?_
  · exact kth_z hr hp rfl
  · intro i h0 h1 ih
    rw [kth_n (by omega) (h i ⟨h0, h1⟩), ih]
theorem kth_u {p : Int → Prop} {r N : Int} (hr : 0 ≤ r ∧ r < N) (hp : p r) (h : ∀ j, 0 ≤ j ∧ j < N → p j → j = r) : kth p 0 N 0 = r :=
  kth_at (a := 0) hr.2 hp (fun j hj e => by have := h j (by omega) e; omega) 0 (Int.le_refl 0) hr.1
