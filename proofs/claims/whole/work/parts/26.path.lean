/-! paths: how deep, which place, of a box, whether there is one -/
def dpn : Nat → Int → Int
  | 0, _ => 0
  | n + 1, p => if p ≤ 0 then 0 else 1 + dpn n (p / 10)
set_option maxRecDepth 8000 in
theorem dpn_z {n : Nat} {p : Int} (h : p ≤ 0) : dpn n p = 0 := by
  cases n with
  | zero => rfl
  | succ n => unfold dpn; rw [if_pos h]
set_option maxRecDepth 8000 in
theorem dpn_s {n : Nat} {p : Int} (h : 0 < p) : dpn (n + 1) p = 1 + dpn n (p / 10) := by
  show (if p ≤ 0 then 0 else 1 + dpn n (p / 10)) = _
  rw [if_neg (by omega)]
set_option maxRecDepth 8000 in
theorem dpn_b : ∀ (n : Nat) (p : Int), 0 ≤ dpn n p ∧ dpn n p ≤ n := by
  intro n
  induction n with
  | zero => intro p; exact ⟨Int.le_refl 0, Int.le_refl 0⟩
  | succ n ih =>
    intro p
    by_cases h : p ≤ 0
    · rw [dpn_z h]; omega
    · rw [dpn_s (by omega)]
      have := ih (p / 10)
      omega
/-- a row of n digits -/
def dig : Nat → Int → Prop
  | 0, p => p = 0
  | n + 1, p => 0 < p ∧ dig n (p / 10)
set_option maxRecDepth 8000 in
theorem dig_d : ∀ (n : Nat) (p : Int) (m : Nat), dig n p → n ≤ m → dpn m p = n := by
  intro n
  induction n with
  | zero => intro p m h _; exact dpn_z (by have : p = 0 := h; omega)
  | succ n ih =>
    intro p m h hm
    obtain ⟨m, rfl⟩ : ∃ q, m = q + 1 := ⟨m - 1, by omega⟩
    rw [dpn_s h.1, ih _ m h.2 (by omega)]
    omega
set_option maxRecDepth 8000 in
theorem dig_n : ∀ (n : Nat) (p : Int), dig n p → 0 ≤ p := by
  intro n
  cases n with
  | zero => intro p h; have : p = 0 := h; omega
  | succ n => intro p h; have := h.1; omega
set_option maxRecDepth 8000 in
theorem dig_x {p : Int} (h : 0 ≤ p ∧ p ≤ 99999) : ∃ n : Nat, n ≤ 5 ∧ dig n p := by
  by_cases h0 : p = 0
  · exact ⟨0, by omega, h0⟩
  by_cases h1 : p / 10 = 0
  · exact ⟨1, by omega, by omega, h1⟩
  by_cases h2 : p / 10 / 10 = 0
  · exact ⟨2, by omega, by omega, by omega, h2⟩
  by_cases h3 : p / 10 / 10 / 10 = 0
  · exact ⟨3, by omega, by omega, by omega, by omega, h3⟩
  by_cases h4 : p / 10 / 10 / 10 / 10 = 0
  · exact ⟨4, by omega, by omega, by omega, by omega, by omega, h4⟩
  · exact ⟨5, by omega, by omega, by omega, by omega, by omega, by omega, show p / 10 / 10 / 10 / 10 / 10 = 0 by omega⟩
set_option maxRecDepth 8000 in
theorem dpn_5 {p : Int} (h : 0 ≤ p) : (dpn 10 p ≤ 5) = (p ≤ 99999) := by
  apply propext
  constructor
  · intro h1
    by_cases h2 : p ≤ 99999
    · exact h2
    · exfalso
      rw [dpn_s (by omega), dpn_s (by omega), dpn_s (by omega), dpn_s (by omega), dpn_s (by omega), dpn_s (by omega)] at h1
      have := dpn_b 4 (p / 10 / 10 / 10 / 10 / 10 / 10)
      omega
  · intro h1
    obtain ⟨n, hn, hd⟩ := dig_x ⟨h, h1⟩
    rw [dig_d n p 10 hd (by omega)]
    omega
set_option maxRecDepth 8000 in
theorem l106 {d : Nat} {Q : Option AV → XH → Prop} {h : XH} {p : Int} : ∀ (n : Nat) (r a : Int), a + n = 10 → 0 ≤ a → ir r → Wp d 106 (4, [zint p, zint a, zint r], [], h) Q = Q (some (zint (a + dpn n r))) h := by
  intro n
  induction n with
  | zero =>
    intro r a h1 h2 h3
    rw [show a + dpn 0 r = a from Int.add_zero a, u106_4]
    by_cases q : r ≤ 0
    · simp (disch := first | omega | exact rfl) only [↓u106_0, ↓u106_1, ↓u106_2, ↓u106_3, ↓u106_5, ↓u106_8, ↓u106_9, ↓u106_11, ↓u106_14, ↓u106_17, ↓u106_18, ↓u106_20, ↓u106_21, ↓u106_22, ↓u106_25, ↓u106_26, ↓lI_0, ↓lI_s, ↓lL_0, ↓lL_s, ↓lR_0, ↓lR_s, ↓sT_0, ↓sT_i, ↓sT_r, ↓sT_u, ↓sT_lu, ↓sU_0, ↓sU_i, ↓sU_r, ↓sU_u, ↓ite_bx, bx_T, bx_F, bx_pos, bx_neg, zws_i, zws_r, zws_l, zws_n, zCb_kc, xl_ll, xr_rr, xs_e, xset_e, Option.toList, List.cons_append, List.nil_append, zIb_e, zrng_e, nz_e, if_pos, if_neg, and_true, true_and, or_true, true_or, ite_self, bi_eq0, bi_eq1, bi_1, bi_0, bi_ir, bi_T, bi_F, up_eq, up_ne, ↓reduceIte, reduceIte, Nat.reduceAdd, Nat.reduceLeDiff, Nat.le_refl, Nat.zero_le, not_true_eq_false, not_false_eq_true, ne_eq, Int.reduceEq, Int.reduceLT, Int.reduceLE, Int.reduceAdd, Int.reduceSub, Int.reduceMul, Int.reduceNeg]
    · simp (disch := first | omega | exact rfl) only [↓u106_0, ↓u106_1, ↓u106_2, ↓u106_3, ↓u106_5, ↓u106_8, ↓u106_9, ↓u106_11, ↓u106_14, ↓u106_17, ↓u106_18, ↓u106_20, ↓u106_21, ↓u106_22, ↓u106_25, ↓u106_26, ↓lI_0, ↓lI_s, ↓lL_0, ↓lL_s, ↓lR_0, ↓lR_s, ↓sT_0, ↓sT_i, ↓sT_r, ↓sT_u, ↓sT_lu, ↓sU_0, ↓sU_i, ↓sU_r, ↓sU_u, ↓ite_bx, bx_T, bx_F, bx_pos, bx_neg, zws_i, zws_r, zws_l, zws_n, zCb_kc, xl_ll, xr_rr, xs_e, xset_e, Option.toList, List.cons_append, List.nil_append, zIb_e, zrng_e, nz_e, if_pos, if_neg, and_true, true_and, or_true, true_or, ite_self, bi_eq0, bi_eq1, bi_1, bi_0, bi_ir, bi_T, bi_F, up_eq, up_ne, ↓reduceIte, reduceIte, Nat.reduceAdd, Nat.reduceLeDiff, Nat.le_refl, Nat.zero_le, not_true_eq_false, not_false_eq_true, ne_eq, Int.reduceEq, Int.reduceLT, Int.reduceLE, Int.reduceAdd, Int.reduceSub, Int.reduceMul, Int.reduceNeg]
  | succ n ih =>
    intro r a h1 h2 h3
    rw [u106_4]
    by_cases q : r ≤ 0
    · rw [dpn_z q, Int.add_zero]
      simp (disch := first | omega | exact rfl) only [↓u106_0, ↓u106_1, ↓u106_2, ↓u106_3, ↓u106_5, ↓u106_8, ↓u106_9, ↓u106_11, ↓u106_14, ↓u106_17, ↓u106_18, ↓u106_20, ↓u106_21, ↓u106_22, ↓u106_25, ↓u106_26, ↓lI_0, ↓lI_s, ↓lL_0, ↓lL_s, ↓lR_0, ↓lR_s, ↓sT_0, ↓sT_i, ↓sT_r, ↓sT_u, ↓sT_lu, ↓sU_0, ↓sU_i, ↓sU_r, ↓sU_u, ↓ite_bx, bx_T, bx_F, bx_pos, bx_neg, zws_i, zws_r, zws_l, zws_n, zCb_kc, xl_ll, xr_rr, xs_e, xset_e, Option.toList, List.cons_append, List.nil_append, zIb_e, zrng_e, nz_e, if_pos, if_neg, and_true, true_and, or_true, true_or, ite_self, bi_eq0, bi_eq1, bi_1, bi_0, bi_ir, bi_T, bi_F, up_eq, up_ne, ↓reduceIte, reduceIte, Nat.reduceAdd, Nat.reduceLeDiff, Nat.le_refl, Nat.zero_le, not_true_eq_false, not_false_eq_true, ne_eq, Int.reduceEq, Int.reduceLT, Int.reduceLE, Int.reduceAdd, Int.reduceSub, Int.reduceMul, Int.reduceNeg]
    · have ih2 := ih (r / 10) (a + 1) (by omega) (by omega) (by omega)
      rw [dpn_s (by omega), ← Int.add_assoc]
      simp (disch := first | omega | exact rfl) only [↓u106_0, ↓u106_1, ↓u106_2, ↓u106_3, ↓u106_5, ↓u106_8, ↓u106_9, ↓u106_11, ↓u106_14, ↓u106_17, ↓u106_18, ↓u106_20, ↓u106_21, ↓u106_22, ↓u106_25, ↓u106_26, ↓lI_0, ↓lI_s, ↓lL_0, ↓lL_s, ↓lR_0, ↓lR_s, ↓sT_0, ↓sT_i, ↓sT_r, ↓sT_u, ↓sT_lu, ↓sU_0, ↓sU_i, ↓sU_r, ↓sU_u, ↓ite_bx, bx_T, bx_F, bx_pos, bx_neg, zws_i, zws_r, zws_l, zws_n, zCb_kc, xl_ll, xr_rr, xs_e, xset_e, Option.toList, List.cons_append, List.nil_append, zIb_e, zrng_e, nz_e, if_pos, if_neg, and_true, true_and, or_true, true_or, ite_self, bi_eq0, bi_eq1, bi_1, bi_0, bi_ir, bi_T, bi_F, up_eq, up_ne, ↓reduceIte, reduceIte, Nat.reduceAdd, Nat.reduceLeDiff, Nat.le_refl, Nat.zero_le, not_true_eq_false, not_false_eq_true, ne_eq, Int.reduceEq, Int.reduceLT, Int.reduceLE, Int.reduceAdd, Int.reduceSub, Int.reduceMul, Int.reduceNeg, td_e, ih2]
set_option maxRecDepth 8000 in
theorem s106 {d : Nat} {Q : Option AV → XH → Prop} {h : XH} {p : Int} (hd : 1 ≤ d) (hp : ir p) : Call d 106 [zint p] h Q = Q (some (zint (dpn 10 p))) h := by
  rw [e106 (show 1 ≤ d by omega)]
  have l0 := l106 (d := d - 1) (Q := Q) (h := h) (p := p) 10 p 0 (by omega) (by omega) hp
  rw [Int.zero_add] at l0
  simp (disch := first | omega | exact rfl) only [↓u106_0, ↓u106_1, ↓u106_2, ↓u106_3, ↓u106_5, ↓u106_8, ↓u106_9, ↓u106_11, ↓u106_14, ↓u106_17, ↓u106_18, ↓u106_20, ↓u106_21, ↓u106_22, ↓u106_25, ↓u106_26, ↓lI_0, ↓lI_s, ↓lL_0, ↓lL_s, ↓lR_0, ↓lR_s, ↓sT_0, ↓sT_i, ↓sT_r, ↓sT_u, ↓sT_lu, ↓sU_0, ↓sU_i, ↓sU_r, ↓sU_u, ↓ite_bx, bx_T, bx_F, bx_pos, bx_neg, zws_i, zws_r, zws_l, zws_n, zCb_kc, xl_ll, xr_rr, xs_e, xset_e, Option.toList, List.cons_append, List.nil_append, zIb_e, zrng_e, nz_e, if_pos, if_neg, and_true, true_and, or_true, true_or, ite_self, bi_eq0, bi_eq1, bi_1, bi_0, bi_ir, bi_T, bi_F, up_eq, up_ne, ↓reduceIte, reduceIte, Nat.reduceAdd, Nat.reduceLeDiff, Nat.le_refl, Nat.zero_le, not_true_eq_false, not_false_eq_true, ne_eq, Int.reduceEq, Int.reduceLT, Int.reduceLE, Int.reduceAdd, Int.reduceSub, Int.reduceMul, Int.reduceNeg, l0]
def q2 : Nat → Int
  | 0 => 1
  | n + 1 => 2 * q2 n
def clf : Nat → Int → Int
  | 0, _ => 0
  | n + 1, p => 2 * clf n (p / 10) + (p % 10 - 1) % 2
def rwf : Nat → Int → Int
  | 0, _ => 0
  | n + 1, p => 2 * rwf n (p / 10) + (p % 10 - 1) / 2 % 2
set_option maxRecDepth 8000 in
theorem q2_s {n : Nat} : q2 (n + 1) = 2 * q2 n := rfl
set_option maxRecDepth 8000 in
theorem clf_s {n : Nat} {p : Int} : clf (n + 1) p = 2 * clf n (p / 10) + (p % 10 - 1) % 2 := rfl
set_option maxRecDepth 8000 in
theorem rwf_s {n : Nat} {p : Int} : rwf (n + 1) p = 2 * rwf n (p / 10) + (p % 10 - 1) / 2 % 2 := rfl
set_option maxRecDepth 8000 in
theorem q2_b : ∀ n : Nat, n ≤ 5 → 1 ≤ q2 n ∧ q2 n ≤ 32 := by
  intro n h
  rcases (show n = 0 ∨ n = 1 ∨ n = 2 ∨ n = 3 ∨ n = 4 ∨ n = 5 by omega) with rfl | rfl | rfl | rfl | rfl | rfl <;> decide
set_option maxRecDepth 8000 in
theorem clf_b : ∀ (n : Nat) (p : Int), 0 ≤ clf n p ∧ clf n p < q2 n := by
  intro n
  induction n with
  | zero => intro p; exact ⟨Int.le_refl 0, show (0 : Int) < 1 by omega⟩
  | succ n ih =>
    intro p
    have := ih (p / 10)
    rw [clf_s, q2_s]
    omega
set_option maxRecDepth 8000 in
theorem rwf_b : ∀ (n : Nat) (p : Int), 0 ≤ rwf n p ∧ rwf n p < q2 n := by
  intro n
  induction n with
  | zero => intro p; exact ⟨Int.le_refl 0, show (0 : Int) < 1 by omega⟩
  | succ n ih =>
    intro p
    have := ih (p / 10)
    rw [rwf_s, q2_s]
    omega
def ixf (n : Nat) (p : Int) : Int := rwf n p * q2 n + clf n p
set_option maxRecDepth 8000 in
theorem ixf_b {n : Nat} {p : Int} (h : n ≤ 5) : 0 ≤ ixf n p ∧ ixf n p ≤ 1056 := by
  have h1 := q2_b n h
  have h2 := clf_b n p
  have h3 := rwf_b n p
  have h4 := mul_b (c := 32) (a := rwf n p) (b := q2 n) (by omega) (by omega)
  unfold ixf
  omega
set_option maxRecDepth 8000 in
theorem an1 {q : Int} (h : -1 ≤ q ∧ q ≤ 8) : (Int32.ofInt q &&& Int32.ofInt 1).toInt = q % 2 := by
  rcases (show q = -1 ∨ q = 0 ∨ q = 1 ∨ q = 2 ∨ q = 3 ∨ q = 4 ∨ q = 5 ∨ q = 6 ∨ q = 7 ∨ q = 8 by omega) with rfl | rfl | rfl | rfl | rfl | rfl | rfl | rfl | rfl | rfl <;> decide +kernel
set_option maxRecDepth 8000 in
theorem sr1 {q : Int} (h : -1 ≤ q ∧ q ≤ 8) : (Int32.ofInt q >>> (Int32.ofInt 1 &&& 31)).toInt = q / 2 := by
  rcases (show q = -1 ∨ q = 0 ∨ q = 1 ∨ q = 2 ∨ q = 3 ∨ q = 4 ∨ q = 5 ∨ q = 6 ∨ q = 7 ∨ q = 8 by omega) with rfl | rfl | rfl | rfl | rfl | rfl | rfl | rfl | rfl | rfl <;> decide +kernel
set_option maxRecDepth 8000 in
theorem ix_s {c r b C R q e z : Int} : (r + e * b + b * 2 * R) * (b * 2 * q) + (c + z * b + b * 2 * C) = (r + b * (2 * R + e)) * (b * (2 * q)) + (c + b * (2 * C + z)) := by
  grind
set_option maxRecDepth 8000 in
theorem l107 {d : Nat} {Q : Option AV → XH → Prop} {h : XH} {p : Int} : ∀ (n : Nat) (rest c r b : Int) (v : AV), dig n rest → n ≤ 5 → ir rest → 1 ≤ b ∧ b * q2 n ≤ 32 → Wp d 107 (9, [zint p, zint c, zint r, zint b, zint rest, v], [], h) Q = Q (some (zint ((r + b * rwf n rest) * (b * q2 n) + (c + b * clf n rest)))) h := by
  intro n
  induction n with
  | zero =>
    intro rest c r b v hg h5 hr hb
    have hg0 : rest = 0 := hg
    have e1 : rwf 0 rest = 0 := rfl
    have e2 : clf 0 rest = 0 := rfl
    have e3 : q2 0 = 1 := rfl
    rw [e1, e2, e3, Int.mul_zero, Int.add_zero, Int.add_zero, Int.mul_one, u107_9]
    simp (disch := first | omega | exact rfl) only [↓u107_0, ↓u107_1, ↓u107_2, ↓u107_3, ↓u107_4, ↓u107_5, ↓u107_6, ↓u107_7, ↓u107_11, ↓u107_14, ↓u107_15, ↓u107_18, ↓u107_21, ↓u107_23, ↓u107_25, ↓u107_26, ↓u107_27, ↓u107_28, ↓u107_30, ↓u107_31, ↓u107_33, ↓u107_34, ↓u107_35, ↓u107_36, ↓u107_37, ↓u107_38, ↓u107_39, ↓u107_40, ↓u107_42, ↓u107_43, ↓u107_44, ↓u107_45, ↓u107_46, ↓u107_47, ↓u107_48, ↓u107_49, ↓u107_50, ↓u107_51, ↓u107_52, ↓u107_53, ↓u107_54, ↓u107_56, ↓u107_58, ↓u107_59, ↓u107_61, ↓u107_64, ↓u107_65, ↓u107_66, ↓u107_67, ↓u107_68, ↓u107_69, ↓lI_0, ↓lI_s, ↓lL_0, ↓lL_s, ↓lR_0, ↓lR_s, ↓sT_0, ↓sT_i, ↓sT_r, ↓sT_u, ↓sT_lu, ↓sU_0, ↓sU_i, ↓sU_r, ↓sU_u, ↓ite_bx, bx_T, bx_F, bx_pos, bx_neg, zws_i, zws_r, zws_l, zws_n, zCb_kc, xl_ll, xr_rr, xs_e, xset_e, Option.toList, List.cons_append, List.nil_append, zIb_e, zrng_e, nz_e, if_pos, if_neg, and_true, true_and, or_true, true_or, ite_self, bi_eq0, bi_eq1, bi_1, bi_0, bi_ir, bi_T, bi_F, up_eq, up_ne, ↓reduceIte, reduceIte, Nat.reduceAdd, Nat.reduceLeDiff, Nat.le_refl, Nat.zero_le, not_true_eq_false, not_false_eq_true, ne_eq, Int.reduceEq, Int.reduceLT, Int.reduceLE, Int.reduceAdd, Int.reduceSub, Int.reduceMul, Int.reduceNeg]
  | succ n ih =>
    intro rest c r b v hg h5 hr hb
    have hg1 := hg.1
    have e4 : b * q2 (n + 1) = b * 2 * q2 n := by rw [q2_s, Int.mul_assoc]
    have hq : 1 ≤ q2 n ∧ q2 n ≤ 32 := q2_b n (by omega)
    have hbb : b ≤ 32 := by
      have : b * 1 ≤ b * q2 (n + 1) := Int.mul_le_mul_of_nonneg_left (by rw [q2_s]; omega) (by omega)
      omega
    have ih2 := fun c r v => ih (rest / 10) c r (b * 2) v hg.2 (by omega) (by omega) ⟨by omega, by omega⟩
    have am : (Int32.ofInt (rest % 10 - 1) &&& Int32.ofInt 1).toInt = (rest % 10 - 1) % 2 := an1 (by omega)
    have sm : (Int32.ofInt (rest % 10 - 1) >>> (Int32.ofInt 1 &&& 31)).toInt = (rest % 10 - 1) / 2 := sr1 (by omega)
    have am2 : (Int32.ofInt ((rest % 10 - 1) / 2) &&& Int32.ofInt 1).toInt = (rest % 10 - 1) / 2 % 2 := an1 (by omega)
    rw [rwf_s, clf_s, q2_s, ← ix_s, u107_9]
    simp (disch := first | omega | exact rfl) only [↓u107_0, ↓u107_1, ↓u107_2, ↓u107_3, ↓u107_4, ↓u107_5, ↓u107_6, ↓u107_7, ↓u107_11, ↓u107_14, ↓u107_15, ↓u107_18, ↓u107_21, ↓u107_23, ↓u107_25, ↓u107_26, ↓u107_27, ↓u107_28, ↓u107_30, ↓u107_31, ↓u107_33, ↓u107_34, ↓u107_35, ↓u107_36, ↓u107_37, ↓u107_38, ↓u107_39, ↓u107_40, ↓u107_42, ↓u107_43, ↓u107_44, ↓u107_45, ↓u107_46, ↓u107_47, ↓u107_48, ↓u107_49, ↓u107_50, ↓u107_51, ↓u107_52, ↓u107_53, ↓u107_54, ↓u107_56, ↓u107_58, ↓u107_59, ↓u107_61, ↓u107_64, ↓u107_65, ↓u107_66, ↓u107_67, ↓u107_68, ↓u107_69, ↓lI_0, ↓lI_s, ↓lL_0, ↓lL_s, ↓lR_0, ↓lR_s, ↓sT_0, ↓sT_i, ↓sT_r, ↓sT_u, ↓sT_lu, ↓sU_0, ↓sU_i, ↓sU_r, ↓sU_u, ↓ite_bx, bx_T, bx_F, bx_pos, bx_neg, zws_i, zws_r, zws_l, zws_n, zCb_kc, xl_ll, xr_rr, xs_e, xset_e, Option.toList, List.cons_append, List.nil_append, zIb_e, zrng_e, nz_e, if_pos, if_neg, and_true, true_and, or_true, true_or, ite_self, bi_eq0, bi_eq1, bi_1, bi_0, bi_ir, bi_T, bi_F, up_eq, up_ne, ↓reduceIte, reduceIte, Nat.reduceAdd, Nat.reduceLeDiff, Nat.le_refl, Nat.zero_le, not_true_eq_false, not_false_eq_true, ne_eq, Int.reduceEq, Int.reduceLT, Int.reduceLE, Int.reduceAdd, Int.reduceSub, Int.reduceMul, Int.reduceNeg, td_e, tm_e, am, sm, am2, ih2]
set_option maxRecDepth 8000 in
theorem s107 {d : Nat} {Q : Option AV → XH → Prop} {h : XH} {p : Int} {n : Nat} (hd : 1 ≤ d) (hp : ir p) (hg : dig n p) (hn : n ≤ 5) : Call d 107 [zint p] h Q = Q (some (zint (ixf n p))) h := by
  rw [e107 (show 1 ≤ d by omega)]
  have hq := q2_b n hn
  have l0 := l107 (d := d - 1) (Q := Q) (h := h) (p := p) n p 0 0 1 zun hg hn hp ⟨by omega, by omega⟩
  rw [Int.zero_add, Int.zero_add, Int.one_mul, Int.one_mul, Int.one_mul] at l0
  unfold ixf
  simp (disch := first | omega | exact rfl) only [↓u107_0, ↓u107_1, ↓u107_2, ↓u107_3, ↓u107_4, ↓u107_5, ↓u107_6, ↓u107_7, ↓u107_11, ↓u107_14, ↓u107_15, ↓u107_18, ↓u107_21, ↓u107_23, ↓u107_25, ↓u107_26, ↓u107_27, ↓u107_28, ↓u107_30, ↓u107_31, ↓u107_33, ↓u107_34, ↓u107_35, ↓u107_36, ↓u107_37, ↓u107_38, ↓u107_39, ↓u107_40, ↓u107_42, ↓u107_43, ↓u107_44, ↓u107_45, ↓u107_46, ↓u107_47, ↓u107_48, ↓u107_49, ↓u107_50, ↓u107_51, ↓u107_52, ↓u107_53, ↓u107_54, ↓u107_56, ↓u107_58, ↓u107_59, ↓u107_61, ↓u107_64, ↓u107_65, ↓u107_66, ↓u107_67, ↓u107_68, ↓u107_69, ↓lI_0, ↓lI_s, ↓lL_0, ↓lL_s, ↓lR_0, ↓lR_s, ↓sT_0, ↓sT_i, ↓sT_r, ↓sT_u, ↓sT_lu, ↓sU_0, ↓sU_i, ↓sU_r, ↓sU_u, ↓ite_bx, bx_T, bx_F, bx_pos, bx_neg, zws_i, zws_r, zws_l, zws_n, zCb_kc, xl_ll, xr_rr, xs_e, xset_e, Option.toList, List.cons_append, List.nil_append, zIb_e, zrng_e, nz_e, if_pos, if_neg, and_true, true_and, or_true, true_or, ite_self, bi_eq0, bi_eq1, bi_1, bi_0, bi_ir, bi_T, bi_F, up_eq, up_ne, ↓reduceIte, reduceIte, Nat.reduceAdd, Nat.reduceLeDiff, Nat.le_refl, Nat.zero_le, not_true_eq_false, not_false_eq_true, ne_eq, Int.reduceEq, Int.reduceLT, Int.reduceLE, Int.reduceAdd, Int.reduceSub, Int.reduceMul, Int.reduceNeg, l0]
abbrev gq (B : ZS) (N R m k : Int) : Prop := R < wn B N k (wi (B m 2) (B m 3) (B m 4) (B m 5) k) ∧ 0 ≤ wi (B m 2) (B m 3) (B m 4) (B m 5) (k + 1)
noncomputable def ptn (B : ZS) (N R m : Int) : Nat → Int → Int → Int
  | 0, _, p => p
  | j + 1, k, p => if gq B N R m k then ptn B N R m j (k + 1) (p * 10 + dg (B m 2) (B m 3) (k + 1)) else p
set_option maxRecDepth 8000 in
theorem ptn_0 {B : ZS} {N R m k p : Int} : ptn B N R m 0 k p = p := rfl
set_option maxRecDepth 8000 in
theorem ptn_y {B : ZS} {N R m k p : Int} {j : Nat} (h : gq B N R m k) : ptn B N R m (j + 1) k p = ptn B N R m j (k + 1) (p * 10 + dg (B m 2) (B m 3) (k + 1)) := if_pos h
set_option maxRecDepth 8000 in
theorem ptn_n {B : ZS} {N R m k p : Int} {j : Nat} (h : ¬gq B N R m k) : ptn B N R m (j + 1) k p = p := if_neg h
set_option maxRecDepth 8000 in
theorem l44 {d : Nat} {Q : Option AV → XH → Prop} {G : XS} {s : ZS} {W : Int} {B : ZS} {N R T : Int} {m : Int} (hd : 4 ≤ d) (hw : WOK G W) (hv : CV s W B N R T) (hb : OKB B N) (hn : 0 ≤ N ∧ N ≤ 40 ∧ 0 ≤ R ∧ R ≤ 10 ∧ 0 ≤ T ∧ T ≤ 20000) (hm : 0 ≤ m ∧ m < N) : ∀ (j : Nat) (k p : Int) (v : AV), k + j = 5 → 0 ≤ k → Wp (d - 1) 44 (4, [zrf W, zrf (W + 2 + m), zint p, zint k, v], [], (G, s)) Q = Q (some (zint (ptn B N R m j k p))) (G, s) := by
  have hw' := hw
  obtain ⟨w1, w2, w3, w4, w5, w6, w7, w8, w9, w10, w11, w12, w13, w14, w15, w16, w17, w18, w19, w20, w21, w22, w23, w24, w25⟩ := hw'
  have hv' := hv
  obtain ⟨v1, v2, v3, vB⟩ := hv'
  have k3 := w6 m (by omega)
  have k4 := okb_o (G := G) hv hb hm
  have bm := hb m hm
  intro j
  induction j with
  | zero =>
    intro k p v h1 h2
    rw [ptn_0, u44_4]
    simp (disch := first | omega | exact rfl) only [↓u44_0, ↓u44_1, ↓u44_2, ↓u44_3, ↓u44_5, ↓u44_6, ↓u44_9, ↓u44_10, ↓u44_11, ↓u44_12, ↓u44_13, ↓u44_16, ↓u44_19, ↓u44_22, ↓u44_23, ↓u44_24, ↓u44_25, ↓u44_26, ↓u44_29, ↓u44_32, ↓u44_33, ↓u44_36, ↓u44_37, ↓u44_39, ↓u44_41, ↓u44_44, ↓u44_45, ↓u44_46, ↓u44_47, ↓u44_49, ↓u44_50, ↓u44_51, ↓u44_52, ↓u44_53, ↓u44_54, ↓u44_57, ↓u44_58, ↓u44_59, ↓u44_62, ↓u44_65, ↓u44_66, ↓lI_0, ↓lI_s, ↓lL_0, ↓lL_s, ↓lR_0, ↓lR_s, ↓sT_0, ↓sT_i, ↓sT_r, ↓sT_u, ↓sT_lu, ↓sU_0, ↓sU_i, ↓sU_r, ↓sU_u, ↓ite_bx, bx_T, bx_F, bx_pos, bx_neg, zws_i, zws_r, zws_l, zws_n, zCb_kc, xl_ll, xr_rr, xs_e, xset_e, Option.toList, List.cons_append, List.nil_append, zIb_e, zrng_e, nz_e, if_pos, if_neg, and_true, true_and, or_true, true_or, ite_self, bi_eq0, bi_eq1, bi_1, bi_0, bi_ir, bi_T, bi_F, up_eq, up_ne, ↓reduceIte, reduceIte, Nat.reduceAdd, Nat.reduceLeDiff, Nat.le_refl, Nat.zero_le, not_true_eq_false, not_false_eq_true, ne_eq, Int.reduceEq, Int.reduceLT, Int.reduceLE, Int.reduceAdd, Int.reduceSub, Int.reduceMul, Int.reduceNeg, pT w1, w2, pT w3, w4, w5, w6, v1, v2, v3, vB]
  | succ j ih =>
    intro k p v h1 h2
    have hk5 : 0 ≤ k ∧ k ≤ 5 := by omega
    have hk6 : 0 ≤ k + 1 ∧ k + 1 ≤ 5 := by omega
    have wb := wi_b (x := B m 2) (y := B m 3) (w := B m 4) (h := B m 5) hk5 (by omega)
    have wb2 := wi_b (x := B m 2) (y := B m 3) (w := B m 4) (h := B m 5) hk6 (by omega)
    have wr : ir (wi (B m 2) (B m 3) (B m 4) (B m 5) k) := by omega
    have ih2 := fun p v => ih (k + 1) p v (by omega) (by omega)
    rw [u44_4]
    by_cases q : R < wn B N k (wi (B m 2) (B m 3) (B m 4) (B m 5) k)
    · by_cases q2 : 0 ≤ wi (B m 2) (B m 3) (B m 4) (B m 5) (k + 1)
      · rw [ptn_y ⟨q, q2⟩]
        simp (disch := first | omega | exact rfl) only [↓u44_0, ↓u44_1, ↓u44_2, ↓u44_3, ↓u44_5, ↓u44_6, ↓u44_9, ↓u44_10, ↓u44_11, ↓u44_12, ↓u44_13, ↓u44_16, ↓u44_19, ↓u44_22, ↓u44_23, ↓u44_24, ↓u44_25, ↓u44_26, ↓u44_29, ↓u44_32, ↓u44_33, ↓u44_36, ↓u44_37, ↓u44_39, ↓u44_41, ↓u44_44, ↓u44_45, ↓u44_46, ↓u44_47, ↓u44_49, ↓u44_50, ↓u44_51, ↓u44_52, ↓u44_53, ↓u44_54, ↓u44_57, ↓u44_58, ↓u44_59, ↓u44_62, ↓u44_65, ↓u44_66, ↓lI_0, ↓lI_s, ↓lL_0, ↓lL_s, ↓lR_0, ↓lR_s, ↓sT_0, ↓sT_i, ↓sT_r, ↓sT_u, ↓sT_lu, ↓sU_0, ↓sU_i, ↓sU_r, ↓sU_u, ↓ite_bx, bx_T, bx_F, bx_pos, bx_neg, zws_i, zws_r, zws_l, zws_n, zCb_kc, xl_ll, xr_rr, xs_e, xset_e, Option.toList, List.cons_append, List.nil_append, zIb_e, zrng_e, nz_e, if_pos, if_neg, and_true, true_and, or_true, true_or, ite_self, bi_eq0, bi_eq1, bi_1, bi_0, bi_ir, bi_T, bi_F, up_eq, up_ne, ↓reduceIte, reduceIte, Nat.reduceAdd, Nat.reduceLeDiff, Nat.le_refl, Nat.zero_le, not_true_eq_false, not_false_eq_true, ne_eq, Int.reduceEq, Int.reduceLT, Int.reduceLE, Int.reduceAdd, Int.reduceSub, Int.reduceMul, Int.reduceNeg, pT w1, w2, pT w3, w4, w5, w6, v1, v2, v3, vB, ih2, s13 (show 1 ≤ d - 1 by omega) k3 k4 hk5, s13 (show 1 ≤ d - 1 by omega) k3 k4 hk6, s14 (show 1 ≤ d - 1 by omega) k3 k4 hk6, s43 (show 3 ≤ d - 1 by omega) hw hv hb hn hk5 wr]
      · rw [ptn_n (fun c => q2 c.2)]
        simp (disch := first | omega | exact rfl) only [↓u44_0, ↓u44_1, ↓u44_2, ↓u44_3, ↓u44_5, ↓u44_6, ↓u44_9, ↓u44_10, ↓u44_11, ↓u44_12, ↓u44_13, ↓u44_16, ↓u44_19, ↓u44_22, ↓u44_23, ↓u44_24, ↓u44_25, ↓u44_26, ↓u44_29, ↓u44_32, ↓u44_33, ↓u44_36, ↓u44_37, ↓u44_39, ↓u44_41, ↓u44_44, ↓u44_45, ↓u44_46, ↓u44_47, ↓u44_49, ↓u44_50, ↓u44_51, ↓u44_52, ↓u44_53, ↓u44_54, ↓u44_57, ↓u44_58, ↓u44_59, ↓u44_62, ↓u44_65, ↓u44_66, ↓lI_0, ↓lI_s, ↓lL_0, ↓lL_s, ↓lR_0, ↓lR_s, ↓sT_0, ↓sT_i, ↓sT_r, ↓sT_u, ↓sT_lu, ↓sU_0, ↓sU_i, ↓sU_r, ↓sU_u, ↓ite_bx, bx_T, bx_F, bx_pos, bx_neg, zws_i, zws_r, zws_l, zws_n, zCb_kc, xl_ll, xr_rr, xs_e, xset_e, Option.toList, List.cons_append, List.nil_append, zIb_e, zrng_e, nz_e, if_pos, if_neg, and_true, true_and, or_true, true_or, ite_self, bi_eq0, bi_eq1, bi_1, bi_0, bi_ir, bi_T, bi_F, up_eq, up_ne, ↓reduceIte, reduceIte, Nat.reduceAdd, Nat.reduceLeDiff, Nat.le_refl, Nat.zero_le, not_true_eq_false, not_false_eq_true, ne_eq, Int.reduceEq, Int.reduceLT, Int.reduceLE, Int.reduceAdd, Int.reduceSub, Int.reduceMul, Int.reduceNeg, pT w1, w2, pT w3, w4, w5, w6, v1, v2, v3, vB, ih2, s13 (show 1 ≤ d - 1 by omega) k3 k4 hk5, s13 (show 1 ≤ d - 1 by omega) k3 k4 hk6, s14 (show 1 ≤ d - 1 by omega) k3 k4 hk6, s43 (show 3 ≤ d - 1 by omega) hw hv hb hn hk5 wr]
    · rw [ptn_n (fun c => q c.1)]
      simp (disch := first | omega | exact rfl) only [↓u44_0, ↓u44_1, ↓u44_2, ↓u44_3, ↓u44_5, ↓u44_6, ↓u44_9, ↓u44_10, ↓u44_11, ↓u44_12, ↓u44_13, ↓u44_16, ↓u44_19, ↓u44_22, ↓u44_23, ↓u44_24, ↓u44_25, ↓u44_26, ↓u44_29, ↓u44_32, ↓u44_33, ↓u44_36, ↓u44_37, ↓u44_39, ↓u44_41, ↓u44_44, ↓u44_45, ↓u44_46, ↓u44_47, ↓u44_49, ↓u44_50, ↓u44_51, ↓u44_52, ↓u44_53, ↓u44_54, ↓u44_57, ↓u44_58, ↓u44_59, ↓u44_62, ↓u44_65, ↓u44_66, ↓lI_0, ↓lI_s, ↓lL_0, ↓lL_s, ↓lR_0, ↓lR_s, ↓sT_0, ↓sT_i, ↓sT_r, ↓sT_u, ↓sT_lu, ↓sU_0, ↓sU_i, ↓sU_r, ↓sU_u, ↓ite_bx, bx_T, bx_F, bx_pos, bx_neg, zws_i, zws_r, zws_l, zws_n, zCb_kc, xl_ll, xr_rr, xs_e, xset_e, Option.toList, List.cons_append, List.nil_append, zIb_e, zrng_e, nz_e, if_pos, if_neg, and_true, true_and, or_true, true_or, ite_self, bi_eq0, bi_eq1, bi_1, bi_0, bi_ir, bi_T, bi_F, up_eq, up_ne, ↓reduceIte, reduceIte, Nat.reduceAdd, Nat.reduceLeDiff, Nat.le_refl, Nat.zero_le, not_true_eq_false, not_false_eq_true, ne_eq, Int.reduceEq, Int.reduceLT, Int.reduceLE, Int.reduceAdd, Int.reduceSub, Int.reduceMul, Int.reduceNeg, pT w1, w2, pT w3, w4, w5, w6, v1, v2, v3, vB, ih2, s13 (show 1 ≤ d - 1 by omega) k3 k4 hk5, s13 (show 1 ≤ d - 1 by omega) k3 k4 hk6, s14 (show 1 ≤ d - 1 by omega) k3 k4 hk6, s43 (show 3 ≤ d - 1 by omega) hw hv hb hn hk5 wr]
noncomputable def pt (B : ZS) (N R m : Int) : Int := ptn B N R m 5 0 0
set_option maxRecDepth 8000 in
theorem s44 {d : Nat} {Q : Option AV → XH → Prop} {G : XS} {s : ZS} {W : Int} {B : ZS} {N R T : Int} {m : Int} (hd : 4 ≤ d) (hw : WOK G W) (hv : CV s W B N R T) (hb : OKB B N) (hn : 0 ≤ N ∧ N ≤ 40 ∧ 0 ≤ R ∧ R ≤ 10 ∧ 0 ≤ T ∧ T ≤ 20000) (hm : 0 ≤ m ∧ m < N) : Call d 44 [zrf W, zrf (W + 2 + m)] (G, s) Q = Q (some (zint (pt B N R m))) (G, s) := by
  have hw' := hw
  obtain ⟨w1, w2, w3, w4, w5, w6, w7, w8, w9, w10, w11, w12, w13, w14, w15, w16, w17, w18, w19, w20, w21, w22, w23, w24, w25⟩ := hw'
  have hv' := hv
  obtain ⟨v1, v2, v3, vB⟩ := hv'
  rw [e44 (show 1 ≤ d by omega)]
  unfold pt
  simp (disch := first | omega | exact rfl) only [↓u44_0, ↓u44_1, ↓u44_2, ↓u44_3, ↓u44_5, ↓u44_6, ↓u44_9, ↓u44_10, ↓u44_11, ↓u44_12, ↓u44_13, ↓u44_16, ↓u44_19, ↓u44_22, ↓u44_23, ↓u44_24, ↓u44_25, ↓u44_26, ↓u44_29, ↓u44_32, ↓u44_33, ↓u44_36, ↓u44_37, ↓u44_39, ↓u44_41, ↓u44_44, ↓u44_45, ↓u44_46, ↓u44_47, ↓u44_49, ↓u44_50, ↓u44_51, ↓u44_52, ↓u44_53, ↓u44_54, ↓u44_57, ↓u44_58, ↓u44_59, ↓u44_62, ↓u44_65, ↓u44_66, ↓lI_0, ↓lI_s, ↓lL_0, ↓lL_s, ↓lR_0, ↓lR_s, ↓sT_0, ↓sT_i, ↓sT_r, ↓sT_u, ↓sT_lu, ↓sU_0, ↓sU_i, ↓sU_r, ↓sU_u, ↓ite_bx, bx_T, bx_F, bx_pos, bx_neg, zws_i, zws_r, zws_l, zws_n, zCb_kc, xl_ll, xr_rr, xs_e, xset_e, Option.toList, List.cons_append, List.nil_append, zIb_e, zrng_e, nz_e, if_pos, if_neg, and_true, true_and, or_true, true_or, ite_self, bi_eq0, bi_eq1, bi_1, bi_0, bi_ir, bi_T, bi_F, up_eq, up_ne, ↓reduceIte, reduceIte, Nat.reduceAdd, Nat.reduceLeDiff, Nat.le_refl, Nat.zero_le, not_true_eq_false, not_false_eq_true, ne_eq, Int.reduceEq, Int.reduceLT, Int.reduceLE, Int.reduceAdd, Int.reduceSub, Int.reduceMul, Int.reduceNeg, pT w1, w2, pT w3, w4, w5, w6, v1, v2, v3, vB, l44 (show 4 ≤ d by omega) hw hv hb hn hm 5 0 0 zun (by omega) (Int.le_refl 0)]
noncomputable def sqn (B : ZS) (N R : Int) : Nat → Int → Prop
  | 0, _ => True
  | n + 1, p => ((1 ≤ p % 10 ∧ p % 10 ≤ 4) ∧ R < wn B N n (ixf n (p / 10))) ∧ sqn B N R n (p / 10)
set_option maxRecDepth 8000 in
theorem sqn_s {B : ZS} {N R p : Int} {n : Nat} : sqn B N R (n + 1) p = (((1 ≤ p % 10 ∧ p % 10 ≤ 4) ∧ R < wn B N n (ixf n (p / 10))) ∧ sqn B N R n (p / 10)) := rfl
set_option maxRecDepth 8000 in
theorem l45 {d : Nat} {Q : Option AV → XH → Prop} {G : XS} {s : ZS} {W : Int} {B : ZS} {N R T : Int} {p : Int} (hd : 4 ≤ d) (hw : WOK G W) (hv : CV s W B N R T) (hb : OKB B N) (hn : 0 ≤ N ∧ N ≤ 40 ∧ 0 ≤ R ∧ R ≤ 10 ∧ 0 ≤ T ∧ T ≤ 20000) : ∀ (n : Nat) (r : Int) (v : AV), dig n r → n ≤ 5 → ir r → Wp (d - 1) 45 (16, [zrf W, zint p, zint r, v], [], (G, s)) Q = Q (some (zint (bi (sqn B N R n r)))) (G, s) := by
  have hw' := hw
  obtain ⟨w1, w2, w3, w4, w5, w6, w7, w8, w9, w10, w11, w12, w13, w14, w15, w16, w17, w18, w19, w20, w21, w22, w23, w24, w25⟩ := hw'
  have hv' := hv
  obtain ⟨v1, v2, v3, vB⟩ := hv'
  intro n
  induction n with
  | zero =>
    intro r v hg h5 hr
    have hg0 : r = 0 := hg
    rw [show bi (sqn B N R 0 r) = 1 from bi_1 trivial, u45_16]
    simp (disch := first | omega | exact rfl) only [↓u45_0, ↓u45_1, ↓u45_4, ↓u45_5, ↓u45_8, ↓u45_9, ↓u45_12, ↓u45_13, ↓u45_14, ↓u45_15, ↓u45_17, ↓u45_20, ↓u45_21, ↓u45_23, ↓u45_24, ↓u45_25, ↓u45_26, ↓u45_28, ↓u45_29, ↓u45_30, ↓u45_31, ↓u45_34, ↓u45_37, ↓u45_38, ↓u45_39, ↓u45_42, ↓u45_43, ↓u45_46, ↓u45_49, ↓u45_52, ↓u45_53, ↓u45_54, ↓u45_55, ↓u45_57, ↓u45_58, ↓u45_59, ↓u45_62, ↓u45_63, ↓lI_0, ↓lI_s, ↓lL_0, ↓lL_s, ↓lR_0, ↓lR_s, ↓sT_0, ↓sT_i, ↓sT_r, ↓sT_u, ↓sT_lu, ↓sU_0, ↓sU_i, ↓sU_r, ↓sU_u, ↓ite_bx, bx_T, bx_F, bx_pos, bx_neg, zws_i, zws_r, zws_l, zws_n, zCb_kc, xl_ll, xr_rr, xs_e, xset_e, Option.toList, List.cons_append, List.nil_append, zIb_e, zrng_e, nz_e, if_pos, if_neg, and_true, true_and, or_true, true_or, ite_self, bi_eq0, bi_eq1, bi_1, bi_0, bi_ir, bi_T, bi_F, up_eq, up_ne, ↓reduceIte, reduceIte, Nat.reduceAdd, Nat.reduceLeDiff, Nat.le_refl, Nat.zero_le, not_true_eq_false, not_false_eq_true, ne_eq, Int.reduceEq, Int.reduceLT, Int.reduceLE, Int.reduceAdd, Int.reduceSub, Int.reduceMul, Int.reduceNeg, pT w1, w2, pT w3, w4, w5, w6, v1, v2, v3, vB]
  | succ n ih =>
    intro r v hg h5 hr
    have hg1 := hg.1
    have hr2 : ir (r / 10) := by omega
    have hk5 : 0 ≤ (n : Int) ∧ (n : Int) ≤ 5 := by omega
    have hn5 : (n : Int) < 5 := by omega
    have xb := ixf_b (n := n) (p := r / 10) (by omega)
    have xr : ir (ixf n (r / 10)) := by omega
    have ih2 := fun v => ih (r / 10) v hg.2 (by omega) hr2
    have e1 : ∀ Q, Call (d - 1) 106 [zint (r / 10)] (G, s) Q = Q (some (zint (n : Int))) (G, s) := fun Q => by rw [s106 (show 1 ≤ d - 1 by omega) hr2, dig_d n _ 10 hg.2 (by omega)]
    have e2 : ∀ Q, Call (d - 1) 107 [zint (r / 10)] (G, s) Q = Q (some (zint (ixf n (r / 10)))) (G, s) := fun Q => s107 (show 1 ≤ d - 1 by omega) hr2 hg.2 (by omega)
    rw [u45_16, sqn_s]
    by_cases q : 1 ≤ r % 10 ∧ r % 10 ≤ 4
    · by_cases q2 : R < wn B N n (ixf n (r / 10))
      · rw [show bi (((1 ≤ r % 10 ∧ r % 10 ≤ 4) ∧ R < wn B N n (ixf n (r / 10))) ∧ sqn B N R n (r / 10)) = bi (sqn B N R n (r / 10)) from bi_c ⟨fun c => c.2, fun c => ⟨⟨q, q2⟩, c⟩⟩]
        simp (disch := first | omega | exact rfl) only [↓u45_0, ↓u45_1, ↓u45_4, ↓u45_5, ↓u45_8, ↓u45_9, ↓u45_12, ↓u45_13, ↓u45_14, ↓u45_15, ↓u45_17, ↓u45_20, ↓u45_21, ↓u45_23, ↓u45_24, ↓u45_25, ↓u45_26, ↓u45_28, ↓u45_29, ↓u45_30, ↓u45_31, ↓u45_34, ↓u45_37, ↓u45_38, ↓u45_39, ↓u45_42, ↓u45_43, ↓u45_46, ↓u45_49, ↓u45_52, ↓u45_53, ↓u45_54, ↓u45_55, ↓u45_57, ↓u45_58, ↓u45_59, ↓u45_62, ↓u45_63, ↓lI_0, ↓lI_s, ↓lL_0, ↓lL_s, ↓lR_0, ↓lR_s, ↓sT_0, ↓sT_i, ↓sT_r, ↓sT_u, ↓sT_lu, ↓sU_0, ↓sU_i, ↓sU_r, ↓sU_u, ↓ite_bx, bx_T, bx_F, bx_pos, bx_neg, zws_i, zws_r, zws_l, zws_n, zCb_kc, xl_ll, xr_rr, xs_e, xset_e, Option.toList, List.cons_append, List.nil_append, zIb_e, zrng_e, nz_e, if_pos, if_neg, and_true, true_and, or_true, true_or, ite_self, bi_eq0, bi_eq1, bi_1, bi_0, bi_ir, bi_T, bi_F, up_eq, up_ne, ↓reduceIte, reduceIte, Nat.reduceAdd, Nat.reduceLeDiff, Nat.le_refl, Nat.zero_le, not_true_eq_false, not_false_eq_true, ne_eq, Int.reduceEq, Int.reduceLT, Int.reduceLE, Int.reduceAdd, Int.reduceSub, Int.reduceMul, Int.reduceNeg, pT w1, w2, pT w3, w4, w5, w6, v1, v2, v3, vB, ih2, td_e, tm_e, e1, e2, s103 (show 1 ≤ d - 1 by omega), s43 (show 3 ≤ d - 1 by omega) hw hv hb hn hk5 xr, pT hn5]
      · rw [bi_0 (fun c => q2 c.1.2)]
        simp (disch := first | omega | exact rfl) only [↓u45_0, ↓u45_1, ↓u45_4, ↓u45_5, ↓u45_8, ↓u45_9, ↓u45_12, ↓u45_13, ↓u45_14, ↓u45_15, ↓u45_17, ↓u45_20, ↓u45_21, ↓u45_23, ↓u45_24, ↓u45_25, ↓u45_26, ↓u45_28, ↓u45_29, ↓u45_30, ↓u45_31, ↓u45_34, ↓u45_37, ↓u45_38, ↓u45_39, ↓u45_42, ↓u45_43, ↓u45_46, ↓u45_49, ↓u45_52, ↓u45_53, ↓u45_54, ↓u45_55, ↓u45_57, ↓u45_58, ↓u45_59, ↓u45_62, ↓u45_63, ↓lI_0, ↓lI_s, ↓lL_0, ↓lL_s, ↓lR_0, ↓lR_s, ↓sT_0, ↓sT_i, ↓sT_r, ↓sT_u, ↓sT_lu, ↓sU_0, ↓sU_i, ↓sU_r, ↓sU_u, ↓ite_bx, bx_T, bx_F, bx_pos, bx_neg, zws_i, zws_r, zws_l, zws_n, zCb_kc, xl_ll, xr_rr, xs_e, xset_e, Option.toList, List.cons_append, List.nil_append, zIb_e, zrng_e, nz_e, if_pos, if_neg, and_true, true_and, or_true, true_or, ite_self, bi_eq0, bi_eq1, bi_1, bi_0, bi_ir, bi_T, bi_F, up_eq, up_ne, ↓reduceIte, reduceIte, Nat.reduceAdd, Nat.reduceLeDiff, Nat.le_refl, Nat.zero_le, not_true_eq_false, not_false_eq_true, ne_eq, Int.reduceEq, Int.reduceLT, Int.reduceLE, Int.reduceAdd, Int.reduceSub, Int.reduceMul, Int.reduceNeg, pT w1, w2, pT w3, w4, w5, w6, v1, v2, v3, vB, ih2, td_e, tm_e, e1, e2, s103 (show 1 ≤ d - 1 by omega), s43 (show 3 ≤ d - 1 by omega) hw hv hb hn hk5 xr, pT hn5]
    · rw [bi_0 (fun c => q c.1.1)]
      simp (disch := first | omega | exact rfl) only [↓u45_0, ↓u45_1, ↓u45_4, ↓u45_5, ↓u45_8, ↓u45_9, ↓u45_12, ↓u45_13, ↓u45_14, ↓u45_15, ↓u45_17, ↓u45_20, ↓u45_21, ↓u45_23, ↓u45_24, ↓u45_25, ↓u45_26, ↓u45_28, ↓u45_29, ↓u45_30, ↓u45_31, ↓u45_34, ↓u45_37, ↓u45_38, ↓u45_39, ↓u45_42, ↓u45_43, ↓u45_46, ↓u45_49, ↓u45_52, ↓u45_53, ↓u45_54, ↓u45_55, ↓u45_57, ↓u45_58, ↓u45_59, ↓u45_62, ↓u45_63, ↓lI_0, ↓lI_s, ↓lL_0, ↓lL_s, ↓lR_0, ↓lR_s, ↓sT_0, ↓sT_i, ↓sT_r, ↓sT_u, ↓sT_lu, ↓sU_0, ↓sU_i, ↓sU_r, ↓sU_u, ↓ite_bx, bx_T, bx_F, bx_pos, bx_neg, zws_i, zws_r, zws_l, zws_n, zCb_kc, xl_ll, xr_rr, xs_e, xset_e, Option.toList, List.cons_append, List.nil_append, zIb_e, zrng_e, nz_e, if_pos, if_neg, and_true, true_and, or_true, true_or, ite_self, bi_eq0, bi_eq1, bi_1, bi_0, bi_ir, bi_T, bi_F, up_eq, up_ne, ↓reduceIte, reduceIte, Nat.reduceAdd, Nat.reduceLeDiff, Nat.le_refl, Nat.zero_le, not_true_eq_false, not_false_eq_true, ne_eq, Int.reduceEq, Int.reduceLT, Int.reduceLE, Int.reduceAdd, Int.reduceSub, Int.reduceMul, Int.reduceNeg, pT w1, w2, pT w3, w4, w5, w6, v1, v2, v3, vB, ih2, td_e, tm_e, e1, e2, s103 (show 1 ≤ d - 1 by omega), s43 (show 3 ≤ d - 1 by omega) hw hv hb hn hk5 xr, pT hn5]
set_option maxRecDepth 8000 in
theorem s45_y {d : Nat} {Q : Option AV → XH → Prop} {G : XS} {s : ZS} {W : Int} {B : ZS} {N R T : Int} {p : Int} {n : Nat} (hd : 4 ≤ d) (hw : WOK G W) (hv : CV s W B N R T) (hb : OKB B N) (hn : 0 ≤ N ∧ N ≤ 40 ∧ 0 ≤ R ∧ R ≤ 10 ∧ 0 ≤ T ∧ T ≤ 20000) (hg : dig n p) (h5 : n ≤ 5) (hp : ir p) : Call d 45 [zrf W, zint p] (G, s) Q = Q (some (zint (bi (sqn B N R n p)))) (G, s) := by
  have hw' := hw
  obtain ⟨w1, w2, w3, w4, w5, w6, w7, w8, w9, w10, w11, w12, w13, w14, w15, w16, w17, w18, w19, w20, w21, w22, w23, w24, w25⟩ := hw'
  have hv' := hv
  obtain ⟨v1, v2, v3, vB⟩ := hv'
  rw [e45 (show 1 ≤ d by omega)]
  have h0 := dig_n n p hg
  have e1 : ∀ Q, Call (d - 1) 106 [zint p] (G, s) Q = Q (some (zint (n : Int))) (G, s) := fun Q => by rw [s106 (show 1 ≤ d - 1 by omega) hp, dig_d n _ 10 hg (by omega)]
  simp (disch := first | omega | exact rfl) only [↓u45_0, ↓u45_1, ↓u45_4, ↓u45_5, ↓u45_8, ↓u45_9, ↓u45_12, ↓u45_13, ↓u45_14, ↓u45_15, ↓u45_17, ↓u45_20, ↓u45_21, ↓u45_23, ↓u45_24, ↓u45_25, ↓u45_26, ↓u45_28, ↓u45_29, ↓u45_30, ↓u45_31, ↓u45_34, ↓u45_37, ↓u45_38, ↓u45_39, ↓u45_42, ↓u45_43, ↓u45_46, ↓u45_49, ↓u45_52, ↓u45_53, ↓u45_54, ↓u45_55, ↓u45_57, ↓u45_58, ↓u45_59, ↓u45_62, ↓u45_63, ↓lI_0, ↓lI_s, ↓lL_0, ↓lL_s, ↓lR_0, ↓lR_s, ↓sT_0, ↓sT_i, ↓sT_r, ↓sT_u, ↓sT_lu, ↓sU_0, ↓sU_i, ↓sU_r, ↓sU_u, ↓ite_bx, bx_T, bx_F, bx_pos, bx_neg, zws_i, zws_r, zws_l, zws_n, zCb_kc, xl_ll, xr_rr, xs_e, xset_e, Option.toList, List.cons_append, List.nil_append, zIb_e, zrng_e, nz_e, if_pos, if_neg, and_true, true_and, or_true, true_or, ite_self, bi_eq0, bi_eq1, bi_1, bi_0, bi_ir, bi_T, bi_F, up_eq, up_ne, ↓reduceIte, reduceIte, Nat.reduceAdd, Nat.reduceLeDiff, Nat.le_refl, Nat.zero_le, not_true_eq_false, not_false_eq_true, ne_eq, Int.reduceEq, Int.reduceLT, Int.reduceLE, Int.reduceAdd, Int.reduceSub, Int.reduceMul, Int.reduceNeg, pT w1, w2, pT w3, w4, w5, w6, v1, v2, v3, vB, e1, l45 (show 4 ≤ d by omega) hw hv hb hn n p zun hg h5 hp]
set_option maxRecDepth 8000 in
theorem s45_n {d : Nat} {Q : Option AV → XH → Prop} {G : XS} {s : ZS} {W : Int} {B : ZS} {N R T : Int} {p : Int} (hd : 4 ≤ d) (hw : WOK G W) (hv : CV s W B N R T) (hb : OKB B N) (hn : 0 ≤ N ∧ N ≤ 40 ∧ 0 ≤ R ∧ R ≤ 10 ∧ 0 ≤ T ∧ T ≤ 20000) (hp : ir p) (h : p < 0 ∨ 99999 < p) : Call d 45 [zrf W, zint p] (G, s) Q = Q (some (zint 0)) (G, s) := by
  have hw' := hw
  obtain ⟨w1, w2, w3, w4, w5, w6, w7, w8, w9, w10, w11, w12, w13, w14, w15, w16, w17, w18, w19, w20, w21, w22, w23, w24, w25⟩ := hw'
  have hv' := hv
  obtain ⟨v1, v2, v3, vB⟩ := hv'
  rw [e45 (show 1 ≤ d by omega)]
  have db := dpn_b 10 p
  by_cases q : p < 0
  · simp (disch := first | omega | exact rfl) only [↓u45_0, ↓u45_1, ↓u45_4, ↓u45_5, ↓u45_8, ↓u45_9, ↓u45_12, ↓u45_13, ↓u45_14, ↓u45_15, ↓u45_17, ↓u45_20, ↓u45_21, ↓u45_23, ↓u45_24, ↓u45_25, ↓u45_26, ↓u45_28, ↓u45_29, ↓u45_30, ↓u45_31, ↓u45_34, ↓u45_37, ↓u45_38, ↓u45_39, ↓u45_42, ↓u45_43, ↓u45_46, ↓u45_49, ↓u45_52, ↓u45_53, ↓u45_54, ↓u45_55, ↓u45_57, ↓u45_58, ↓u45_59, ↓u45_62, ↓u45_63, ↓lI_0, ↓lI_s, ↓lL_0, ↓lL_s, ↓lR_0, ↓lR_s, ↓sT_0, ↓sT_i, ↓sT_r, ↓sT_u, ↓sT_lu, ↓sU_0, ↓sU_i, ↓sU_r, ↓sU_u, ↓ite_bx, bx_T, bx_F, bx_pos, bx_neg, zws_i, zws_r, zws_l, zws_n, zCb_kc, xl_ll, xr_rr, xs_e, xset_e, Option.toList, List.cons_append, List.nil_append, zIb_e, zrng_e, nz_e, if_pos, if_neg, and_true, true_and, or_true, true_or, ite_self, bi_eq0, bi_eq1, bi_1, bi_0, bi_ir, bi_T, bi_F, up_eq, up_ne, ↓reduceIte, reduceIte, Nat.reduceAdd, Nat.reduceLeDiff, Nat.le_refl, Nat.zero_le, not_true_eq_false, not_false_eq_true, ne_eq, Int.reduceEq, Int.reduceLT, Int.reduceLE, Int.reduceAdd, Int.reduceSub, Int.reduceMul, Int.reduceNeg, pT w1, w2, pT w3, w4, w5, w6, v1, v2, v3, vB]
  · have q2 : ¬dpn 10 p ≤ 5 := by rw [dpn_5 (by omega)]; omega
    simp (disch := first | omega | exact rfl) only [↓u45_0, ↓u45_1, ↓u45_4, ↓u45_5, ↓u45_8, ↓u45_9, ↓u45_12, ↓u45_13, ↓u45_14, ↓u45_15, ↓u45_17, ↓u45_20, ↓u45_21, ↓u45_23, ↓u45_24, ↓u45_25, ↓u45_26, ↓u45_28, ↓u45_29, ↓u45_30, ↓u45_31, ↓u45_34, ↓u45_37, ↓u45_38, ↓u45_39, ↓u45_42, ↓u45_43, ↓u45_46, ↓u45_49, ↓u45_52, ↓u45_53, ↓u45_54, ↓u45_55, ↓u45_57, ↓u45_58, ↓u45_59, ↓u45_62, ↓u45_63, ↓lI_0, ↓lI_s, ↓lL_0, ↓lL_s, ↓lR_0, ↓lR_s, ↓sT_0, ↓sT_i, ↓sT_r, ↓sT_u, ↓sT_lu, ↓sU_0, ↓sU_i, ↓sU_r, ↓sU_u, ↓ite_bx, bx_T, bx_F, bx_pos, bx_neg, zws_i, zws_r, zws_l, zws_n, zCb_kc, xl_ll, xr_rr, xs_e, xset_e, Option.toList, List.cons_append, List.nil_append, zIb_e, zrng_e, nz_e, if_pos, if_neg, and_true, true_and, or_true, true_or, ite_self, bi_eq0, bi_eq1, bi_1, bi_0, bi_ir, bi_T, bi_F, up_eq, up_ne, ↓reduceIte, reduceIte, Nat.reduceAdd, Nat.reduceLeDiff, Nat.le_refl, Nat.zero_le, not_true_eq_false, not_false_eq_true, ne_eq, Int.reduceEq, Int.reduceLT, Int.reduceLE, Int.reduceAdd, Int.reduceSub, Int.reduceMul, Int.reduceNeg, pT w1, w2, pT w3, w4, w5, w6, v1, v2, v3, vB, s106 (show 1 ≤ d - 1 by omega) hp]
