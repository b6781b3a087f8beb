/-! the static part fixed: cells by their kinds, sizes, references; the moving part sigma -/
abbrev ZS : Type := Int → Int → Int
def kc (G : XS) (o : Int) (k : Nat) : Prop := 0 ≤ o ∧ o < (G.1.1 : Int) ∧ G.2.1 o = k
def ll (G : XS) (o : Int) : Int := G.2.2.1 o
def rr (G : XS) (o j : Int) : Int := G.2.2.2 o j
theorem zCb_kc {G : XS} {s : ZS} {o : Int} {k : Nat} : (zCb (G, s) o k = true) = kc G o k := propext zCb_iff
theorem xl_ll {G : XS} {s : ZS} {o : Int} : xl (G, s) o = ll G o := rfl
theorem xr_rr {G : XS} {s : ZS} {o j : Int} : xr (G, s) o j = rr G o j := rfl
theorem xs_e {G : XS} {s : ZS} {o j : Int} : xs (G, s) o j = s o j := rfl
theorem xset_e {G : XS} {s : ZS} {o j v : Int} : xset (G, s) o j v = (G, up s o j v) := rfl
theorem up_eq {s : ZS} {o j v : Int} : up s o j v o j = v := by simp [up]
theorem up_ne {s : ZS} {o j v a c : Int} (h : a ≠ o ∨ c ≠ j) : up s o j v a c = s a c := by
  unfold up
  rw [if_neg]
  rintro ⟨h1, h2⟩
  rcases h with h | h
  · exact h h1
  · exact h h2
abbrev ir (v : Int) : Prop := -2147483648 ≤ v ∧ v < 2147483648
theorem zIb_e {v : Int} (h : ir v) : (zIb v = true) = True := eq_true (zIb_iff.2 h)
theorem nz_e {y : Int} (h : y ≠ 0) : (¬y = 0) = True := eq_true h
theorem zrng_e {i n : Int} (h : 0 ≤ i ∧ i < n) : (zrng i n = true) = True := eq_true (zrng_iff.2 h)
noncomputable def bi (P : Prop) : Int := @ite Int P (Classical.propDecidable P) 1 0
theorem bi_1 {P : Prop} (h : P) : bi P = 1 := if_pos h
theorem bi_0 {P : Prop} (h : ¬P) : bi P = 0 := if_neg h
theorem bi_T : bi True = 1 := bi_1 trivial
theorem bi_F : bi False = 0 := bi_0 (fun h => h)
theorem bi_cases (P : Prop) : bi P = 0 ∨ bi P = 1 := by
  rcases Classical.em P with h | h
  · exact Or.inr (bi_1 h)
  · exact Or.inl (bi_0 h)
theorem bi_ge (P : Prop) : 0 ≤ bi P := by rcases bi_cases P with h | h <;> omega
theorem bi_le (P : Prop) : bi P ≤ 1 := by rcases bi_cases P with h | h <;> omega
theorem bi_eq0 (P : Prop) : (bi P = 0) = ¬P := by
  rcases Classical.em P with h | h
  · rw [bi_1 h]; simp [h]
  · rw [bi_0 h]; simp [h]
theorem bi_eq1 (P : Prop) : (bi P = 1) = P := by
  rcases Classical.em P with h | h
  · rw [bi_1 h]; simp [h]
  · rw [bi_0 h]; simp [h]
theorem bi_ir (P : Prop) : (zIb (bi P) = true) = True := zIb_e (by have := bi_ge P; have := bi_le P; omega)
theorem ite_bi {P : Prop} {A B : Prop} : (if bi P = 0 then A else B) = ((¬P → A) ∧ (P → B)) := by
  rcases Classical.em P with h | h
  · rw [bi_1 h]; simp [h]
  · rw [bi_0 h]; simp [h]
/-- a sum from i up to N -/
def smn (f : Int → Int) : Nat → Int → Int
  | 0, _ => 0
  | n + 1, i => f i + smn f n (i + 1)
def sm (f : Int → Int) (i N : Int) : Int := smn f (N - i).toNat i
theorem sm_e {f : Int → Int} {i N : Int} (h : N ≤ i) : sm f i N = 0 := by
  unfold sm
  rw [show (N - i).toNat = 0 by omega]
  rfl
theorem sm_s {f : Int → Int} {i N : Int} (h : i < N) : sm f i N = f i + sm f (i + 1) N := by
  unfold sm
  rw [show (N - i).toNat = (N - (i + 1)).toNat + 1 by omega]
  rfl
/-- from N down to where it begins -/
theorem dn {P : Int → Prop} {a N : Int} (h0 : P N) (hs : ∀ i, a ≤ i → i < N → P (i + 1) → P i) : ∀ i, a ≤ i → i ≤ N → P i := by
  intro i h1 h2
  obtain ⟨n, hn⟩ : ∃ n : Nat, N - i = n := ⟨(N - i).toNat, by omega⟩
  induction n generalizing i with
  | zero => rw [show i = N by omega]; exact h0
  | succ n ih => exact hs i h1 (by omega) (ih (i + 1) (by omega) (by omega) (by omega))
/-- from a up -/
theorem upw {P : Int → Prop} {a N : Int} (h0 : P a) (hs : ∀ i, a ≤ i → i < N → P i → P (i + 1)) : ∀ i, a ≤ i → i ≤ N → P i := by
  intro i h1 h2
  obtain ⟨n, hn⟩ : ∃ n : Nat, i - a = n := ⟨(i - a).toNat, by omega⟩
  induction n generalizing i with
  | zero => rw [show i = a by omega]; exact h0
  | succ n ih =>
    have := hs (i - 1) (by omega) (by omega) (ih (i - 1) (by omega) (by omega) (by omega))
    rw [show i - 1 + 1 = i by omega] at this
    exact this
theorem sm_b {f : Int → Int} {N c : Int} (h : ∀ j, 0 ≤ f j ∧ f j ≤ c) (i : Int) (hi : i ≤ N) : 0 ≤ sm f i N ∧ sm f i N ≤ c * (N - i) := by
  have := dn (P := fun i => 0 ≤ sm f i N ∧ sm f i N ≤ c * (N - i)) (a := i) (N := N) (by rw [sm_e (Int.le_refl N)]; simp) (fun j h1 h2 h3 => by
    rw [sm_s h2]
    have := h j
    have e : c * (N - j) = c + c * (N - (j + 1)) := by rw [show N - j = (N - (j + 1)) + 1 by omega, Int.mul_add]; omega
    omega) i (Int.le_refl i) hi
  exact this
theorem cn_b (p : Int → Prop) (i N : Int) (hi : i ≤ N) : 0 ≤ sm (fun j => bi (p j)) i N ∧ sm (fun j => bi (p j)) i N ≤ N - i := by
  have := sm_b (f := fun j => bi (p j)) (c := 1) (fun j => ⟨bi_ge _, bi_le _⟩) i hi
  omega
theorem and_T {P : Prop} : (True ∧ P) = P := by simp
/-- a cell of the class World, with its boxes, tally, rows -/
def WOK (G : XS) (W : Int) : Prop := kc G W 4 ∧ rr G W 0 = W + 1 ∧ kc G (W + 1) 10 ∧ ll G (W + 1) = 40 ∧
  (∀ i, 0 ≤ i ∧ i < 40 → rr G (W + 1) i = W + 2 + i) ∧ (∀ i, 0 ≤ i ∧ i < 40 → kc G (W + 2 + i) 0) ∧
  rr G W 1 = W + 42 ∧ kc G (W + 42) 7 ∧ ll G (W + 42) = 256 ∧ rr G W 2 = W + 43 ∧ rr G W 3 = W + 45 ∧ rr G W 4 = W + 47 ∧
  kc G (W + 43) 2 ∧ kc G (W + 45) 2 ∧ kc G (W + 47) 2 ∧ rr G (W + 43) 0 = W + 44 ∧ rr G (W + 45) 0 = W + 46 ∧ rr G (W + 47) 0 = W + 48 ∧
  kc G (W + 44) 7 ∧ kc G (W + 46) 7 ∧ kc G (W + 48) 7 ∧ ll G (W + 44) = 15 ∧ ll G (W + 46) = 30 ∧ ll G (W + 48) = 24 ∧ 0 ≤ W
def CV (s : ZS) (W : Int) (B : ZS) (N R T : Int) : Prop := s W 5 = N ∧ s W 6 = T ∧ s W 7 = R ∧ ∀ i f, (0 ≤ i ∧ i < N) ∧ 0 ≤ f ∧ f < 9 → s (W + 2 + i) f = B i f
abbrev okb (B : ZS) (i : Int) : Prop := 0 ≤ B i 0 ∧ B i 0 ≤ 3 ∧ 0 ≤ B i 1 ∧ B i 1 ≤ 1 ∧ 0 ≤ B i 8 ∧ B i 8 ≤ 1 ∧ 1 ≤ B i 4 ∧ B i 4 ≤ 32 ∧ 1 ≤ B i 5 ∧ B i 5 ≤ 32 ∧
  0 ≤ B i 2 ∧ B i 2 ≤ 128 - B i 4 ∧ 0 ≤ B i 3 ∧ B i 3 ≤ 128 - B i 5 ∧ -9 ≤ B i 6 ∧ B i 6 ≤ 9 ∧ -9 ≤ B i 7 ∧ B i 7 ≤ 9
def OKB (B : ZS) (N : Int) : Prop := ∀ i, 0 ≤ i ∧ i < N → okb B i
theorem pT {P : Prop} (h : P) : P = True := eq_true h
