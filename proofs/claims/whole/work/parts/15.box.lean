/-! the class Box and small helps -/
theorem ofI {x : Int} (h : ir x) : (Int32.ofInt x).toInt = x := Int32.toInt_ofInt_of_le h.1 h.2
def p2 (k : Int) : Int := 2 ^ k.toNat
theorem sh_31 : ∀ n : Nat, n < 31 → ((Int32.ofInt (n : Int) &&& 31).toBitVec.smod 32).toNat = n := by decide +kernel
theorem shr_e {x k : Int} (h : (0 ≤ x ∧ x < 2147483648) ∧ 0 ≤ k ∧ k < 31) : (Int32.ofInt x >>> (Int32.ofInt k &&& 31)).toInt = x / p2 k := by
  have e := sh_31 k.toNat (by omega)
  rw [show ((k.toNat : Nat) : Int) = k by omega] at e
  rw [pk_shr _ _ _ e, ofI (by omega), Int.shiftRight_eq_div_pow]
  rfl
theorem nI_e {x : Int} (h : 0 ≤ x) : Int32.ofInt x = nI x.toNat := by
  obtain ⟨n, rfl⟩ := Int.eq_ofNat_of_zero_le h
  rfl
theorem nI_i {n : Nat} (h : n < 2147483648) : (nI n).toInt = n := Int32.toInt_ofNat_of_lt h
theorem and1_b (x : Int) : 0 ≤ (Int32.ofInt x &&& Int32.ofInt 1).toInt ∧ (Int32.ofInt x &&& Int32.ofInt 1).toInt ≤ 1 := by
  rw [pk_and (Int32.ofInt x) (m := Int32.ofInt 1) 1 (by decide), nI_i (by omega)]
  omega
theorem and1_e {x : Int} (h : 0 ≤ x ∧ x < 2147483648) : (Int32.ofInt x &&& Int32.ofInt 1).toInt = x % 2 := by
  rw [nI_e h.1, pk_andN (m := Int32.ofInt 1) (by omega) 1 (by decide), nI_i (by omega)]
  omega
theorem sh_15 : ∀ n : Nat, n < 15 → 2 ^ n ≤ 16384 := by decide +kernel
theorem shl_e {x k : Int} (h : (0 ≤ x ∧ x < 32768) ∧ 0 ≤ k ∧ k < 15) : (Int32.ofInt x <<< (Int32.ofInt k &&& 31)).toInt = x * p2 k := by
  have e := sh_31 k.toNat (by omega)
  rw [show ((k.toNat : Nat) : Int) = k by omega] at e
  have h1 := sh_15 k.toNat (by omega)
  have h2 : x.toNat * 2 ^ k.toNat ≤ 32767 * 16384 := Nat.mul_le_mul (by omega) h1
  rw [nI_e h.1.1, pk_shlN _ _ e (by omega), nI_i (by omega)]
  unfold p2
  rw [Int.natCast_mul, Int.natCast_pow, show ((x.toNat : Nat) : Int) = x by omega]
  rfl
theorem xor_e {a b : Int} (ha : ir a) (hb : 0 ≤ b ∧ b < 2147483648) : ((Int32.ofInt a ^^^ Int32.ofInt b).toInt < 0) = (a < 0) := by
  apply propext
  have h1 : (Int32.ofInt a).toBitVec.msb = decide (a < 0) := by
    rw [BitVec.msb_eq_toInt]
    show decide ((Int32.ofInt a).toInt < 0) = _
    rw [ofI ha]
  have h2 : (Int32.ofInt b).toBitVec.msb = decide (b < 0) := by
    rw [BitVec.msb_eq_toInt]
    show decide ((Int32.ofInt b).toInt < 0) = _
    rw [ofI (by omega)]
  have h3 : (Int32.ofInt a ^^^ Int32.ofInt b).toBitVec.msb = decide ((Int32.ofInt a ^^^ Int32.ofInt b).toInt < 0) := BitVec.msb_eq_toInt
  rw [show (Int32.ofInt a ^^^ Int32.ofInt b).toBitVec = (Int32.ofInt a).toBitVec ^^^ (Int32.ofInt b).toBitVec from rfl, BitVec.msb_xor, h1, h2] at h3
  simp only [show ¬b < 0 by omega, decide_false, Bool.xor_false] at h3
  exact ⟨fun h => by simpa [h] using h3, fun h => by simpa [h] using h3⟩
theorem xor_ir (a b : Int32) : ir (a ^^^ b).toInt := ⟨Int32.le_toInt _, Int32.toInt_lt _⟩
theorem and_ir (a b : Int32) : ir (a &&& b).toInt := ⟨Int32.le_toInt _, Int32.toInt_lt _⟩
theorem ztb_0 {lo : Int} {dd : Nat} {x : Int} {f : Nat → Prop} : ztb [] lo dd x f = f dd := rfl
theorem ztb_s {t : Nat} {ts : List Nat} {lo : Int} {dd : Nat} {x : Int} {f : Nat → Prop} : ztb (t :: ts) lo dd x f = if x = lo then f t else ztb ts (lo + 1) dd x f := rfl
theorem ztc_0 {dd : Nat} {x : Int} {f : Nat → Prop} : ztc [] dd x f = f dd := rfl
theorem ztc_s {t : Int × Nat} {ts : List (Int × Nat)} {dd : Nat} {x : Int} {f : Nat → Prop} : ztc (t :: ts) dd x f = if x = t.1 then f t.2 else ztc ts dd x f := rfl
theorem p2_0 : p2 0 = 1 := rfl
theorem p2_1 : p2 1 = 2 := rfl
theorem p2_2 : p2 2 = 4 := rfl
theorem p2_3 : p2 3 = 8 := rfl
theorem p2_4 : p2 4 = 16 := rfl
theorem p2_5 : p2 5 = 32 := rfl
theorem p2_6 : p2 6 = 64 := rfl
theorem p2_7 : p2 7 = 128 := rfl
theorem td_e {a b : Int} (h : 0 ≤ a) : a.tdiv b = a / b := Int.tdiv_eq_ediv_of_nonneg h
theorem tm_e {a b : Int} (h : 0 ≤ a) : a.tmod b = a % b := Int.tmod_eq_emod_of_nonneg h
theorem mul_b {a b c : Int} (h1 : 0 ≤ a ∧ a ≤ c) (h2 : 0 ≤ b ∧ b ≤ c) : 0 ≤ a * b ∧ a * b ≤ c * c :=
  ⟨Int.mul_nonneg h1.1 h2.1, Int.mul_le_mul h1.2 h2.2 h2.1 (by omega)⟩
theorem s103 {d : Nat} {Q : Option AV → XH → Prop} {h : XH} {v a b : Int} (hd : 1 ≤ d) (hv : ir v) (ha : ir a) (hb : ir b) : Call d 103 [zint v, zint a, zint b] h Q = Q (some (zint (bi (a ≤ v ∧ v ≤ b)))) h := by
  rw [e103 (show 1 ≤ d by omega)]
  by_cases q0 : a ≤ v
  · skip
    by_cases q1 : v ≤ b
    · skip
      first
      | (exfalso; omega; done)
      | simp (disch := omega) only [↓u103_0, ↓u103_1, ↓u103_2, ↓u103_5, ↓u103_6, ↓u103_7, ↓u103_10, ↓u103_11, ↓u103_14, ↓u103_15, lI_0, lI_s, lL_0, lL_s, lR_0, lR_s, sT_0, sT_i, sT_r, sT_u, sT_lu, sU_0, sU_i, sU_r, sU_u, zws_i, zws_r, zws_l, zws_n, zCb_kc, xl_ll, xr_rr, xs_e, xset_e, Option.toList, List.cons_append, List.nil_append, zIb_e, zrng_e, nz_e, if_pos, if_neg, and_true, true_and, or_true, true_or, ite_self, bi_eq0, bi_eq1, bi_1, bi_0, bi_ir, bi_T, bi_F, up_eq, up_ne, ↓reduceIte, reduceIte, Nat.reduceAdd, Nat.reduceLeDiff, Nat.le_refl, Nat.zero_le, not_true_eq_false, not_false_eq_true, ne_eq, Int.reduceEq, Int.reduceLT, Int.reduceLE, Int.reduceAdd, Int.reduceSub, Int.reduceMul, Int.reduceNeg]
    · skip
      first
      | (exfalso; omega; done)
      | simp (disch := omega) only [↓u103_0, ↓u103_1, ↓u103_2, ↓u103_5, ↓u103_6, ↓u103_7, ↓u103_10, ↓u103_11, ↓u103_14, ↓u103_15, lI_0, lI_s, lL_0, lL_s, lR_0, lR_s, sT_0, sT_i, sT_r, sT_u, sT_lu, sU_0, sU_i, sU_r, sU_u, zws_i, zws_r, zws_l, zws_n, zCb_kc, xl_ll, xr_rr, xs_e, xset_e, Option.toList, List.cons_append, List.nil_append, zIb_e, zrng_e, nz_e, if_pos, if_neg, and_true, true_and, or_true, true_or, ite_self, bi_eq0, bi_eq1, bi_1, bi_0, bi_ir, bi_T, bi_F, up_eq, up_ne, ↓reduceIte, reduceIte, Nat.reduceAdd, Nat.reduceLeDiff, Nat.le_refl, Nat.zero_le, not_true_eq_false, not_false_eq_true, ne_eq, Int.reduceEq, Int.reduceLT, Int.reduceLE, Int.reduceAdd, Int.reduceSub, Int.reduceMul, Int.reduceNeg]
  · skip
    by_cases q1 : v ≤ b
    · skip
      first
      | (exfalso; omega; done)
      | simp (disch := omega) only [↓u103_0, ↓u103_1, ↓u103_2, ↓u103_5, ↓u103_6, ↓u103_7, ↓u103_10, ↓u103_11, ↓u103_14, ↓u103_15, lI_0, lI_s, lL_0, lL_s, lR_0, lR_s, sT_0, sT_i, sT_r, sT_u, sT_lu, sU_0, sU_i, sU_r, sU_u, zws_i, zws_r, zws_l, zws_n, zCb_kc, xl_ll, xr_rr, xs_e, xset_e, Option.toList, List.cons_append, List.nil_append, zIb_e, zrng_e, nz_e, if_pos, if_neg, and_true, true_and, or_true, true_or, ite_self, bi_eq0, bi_eq1, bi_1, bi_0, bi_ir, bi_T, bi_F, up_eq, up_ne, ↓reduceIte, reduceIte, Nat.reduceAdd, Nat.reduceLeDiff, Nat.le_refl, Nat.zero_le, not_true_eq_false, not_false_eq_true, ne_eq, Int.reduceEq, Int.reduceLT, Int.reduceLE, Int.reduceAdd, Int.reduceSub, Int.reduceMul, Int.reduceNeg]
    · skip
      first
      | (exfalso; omega; done)
      | simp (disch := omega) only [↓u103_0, ↓u103_1, ↓u103_2, ↓u103_5, ↓u103_6, ↓u103_7, ↓u103_10, ↓u103_11, ↓u103_14, ↓u103_15, lI_0, lI_s, lL_0, lL_s, lR_0, lR_s, sT_0, sT_i, sT_r, sT_u, sT_lu, sU_0, sU_i, sU_r, sU_u, zws_i, zws_r, zws_l, zws_n, zCb_kc, xl_ll, xr_rr, xs_e, xset_e, Option.toList, List.cons_append, List.nil_append, zIb_e, zrng_e, nz_e, if_pos, if_neg, and_true, true_and, or_true, true_or, ite_self, bi_eq0, bi_eq1, bi_1, bi_0, bi_ir, bi_T, bi_F, up_eq, up_ne, ↓reduceIte, reduceIte, Nat.reduceAdd, Nat.reduceLeDiff, Nat.le_refl, Nat.zero_le, not_true_eq_false, not_false_eq_true, ne_eq, Int.reduceEq, Int.reduceLT, Int.reduceLE, Int.reduceAdd, Int.reduceSub, Int.reduceMul, Int.reduceNeg]
theorem s104 {d : Nat} {Q : Option AV → XH → Prop} {h : XH} {x y : Int} (hd : 2 ≤ d) (hx : ir x) (hy : ir y) : Call d 104 [zint x, zint y] h Q = Q (some (zint (bi ((0 ≤ x ∧ x ≤ 127) ∧ 0 ≤ y ∧ y ≤ 127)))) h := by
  rw [e104 (show 1 ≤ d by omega)]
  by_cases q0 : 0 ≤ x ∧ x ≤ 127
  · skip
    by_cases q1 : 0 ≤ y ∧ y ≤ 127
    · skip
      first
      | (exfalso; omega; done)
      | simp (disch := omega) only [↓u104_0, ↓u104_1, ↓u104_2, ↓u104_4, ↓u104_7, ↓u104_10, ↓u104_11, ↓u104_12, ↓u104_14, ↓u104_17, ↓u104_20, ↓u104_21, ↓u104_24, ↓u104_25, lI_0, lI_s, lL_0, lL_s, lR_0, lR_s, sT_0, sT_i, sT_r, sT_u, sT_lu, sU_0, sU_i, sU_r, sU_u, zws_i, zws_r, zws_l, zws_n, zCb_kc, xl_ll, xr_rr, xs_e, xset_e, Option.toList, List.cons_append, List.nil_append, zIb_e, zrng_e, nz_e, if_pos, if_neg, and_true, true_and, or_true, true_or, ite_self, bi_eq0, bi_eq1, bi_1, bi_0, bi_ir, bi_T, bi_F, up_eq, up_ne, ↓reduceIte, reduceIte, Nat.reduceAdd, Nat.reduceLeDiff, Nat.le_refl, Nat.zero_le, not_true_eq_false, not_false_eq_true, ne_eq, Int.reduceEq, Int.reduceLT, Int.reduceLE, Int.reduceAdd, Int.reduceSub, Int.reduceMul, Int.reduceNeg, s103]
    · skip
      first
      | (exfalso; omega; done)
      | simp (disch := omega) only [↓u104_0, ↓u104_1, ↓u104_2, ↓u104_4, ↓u104_7, ↓u104_10, ↓u104_11, ↓u104_12, ↓u104_14, ↓u104_17, ↓u104_20, ↓u104_21, ↓u104_24, ↓u104_25, lI_0, lI_s, lL_0, lL_s, lR_0, lR_s, sT_0, sT_i, sT_r, sT_u, sT_lu, sU_0, sU_i, sU_r, sU_u, zws_i, zws_r, zws_l, zws_n, zCb_kc, xl_ll, xr_rr, xs_e, xset_e, Option.toList, List.cons_append, List.nil_append, zIb_e, zrng_e, nz_e, if_pos, if_neg, and_true, true_and, or_true, true_or, ite_self, bi_eq0, bi_eq1, bi_1, bi_0, bi_ir, bi_T, bi_F, up_eq, up_ne, ↓reduceIte, reduceIte, Nat.reduceAdd, Nat.reduceLeDiff, Nat.le_refl, Nat.zero_le, not_true_eq_false, not_false_eq_true, ne_eq, Int.reduceEq, Int.reduceLT, Int.reduceLE, Int.reduceAdd, Int.reduceSub, Int.reduceMul, Int.reduceNeg, s103]
  · skip
    by_cases q1 : 0 ≤ y ∧ y ≤ 127
    · skip
      first
      | (exfalso; omega; done)
      | simp (disch := omega) only [↓u104_0, ↓u104_1, ↓u104_2, ↓u104_4, ↓u104_7, ↓u104_10, ↓u104_11, ↓u104_12, ↓u104_14, ↓u104_17, ↓u104_20, ↓u104_21, ↓u104_24, ↓u104_25, lI_0, lI_s, lL_0, lL_s, lR_0, lR_s, sT_0, sT_i, sT_r, sT_u, sT_lu, sU_0, sU_i, sU_r, sU_u, zws_i, zws_r, zws_l, zws_n, zCb_kc, xl_ll, xr_rr, xs_e, xset_e, Option.toList, List.cons_append, List.nil_append, zIb_e, zrng_e, nz_e, if_pos, if_neg, and_true, true_and, or_true, true_or, ite_self, bi_eq0, bi_eq1, bi_1, bi_0, bi_ir, bi_T, bi_F, up_eq, up_ne, ↓reduceIte, reduceIte, Nat.reduceAdd, Nat.reduceLeDiff, Nat.le_refl, Nat.zero_le, not_true_eq_false, not_false_eq_true, ne_eq, Int.reduceEq, Int.reduceLT, Int.reduceLE, Int.reduceAdd, Int.reduceSub, Int.reduceMul, Int.reduceNeg, s103]
    · skip
      first
      | (exfalso; omega; done)
      | simp (disch := omega) only [↓u104_0, ↓u104_1, ↓u104_2, ↓u104_4, ↓u104_7, ↓u104_10, ↓u104_11, ↓u104_12, ↓u104_14, ↓u104_17, ↓u104_20, ↓u104_21, ↓u104_24, ↓u104_25, lI_0, lI_s, lL_0, lL_s, lR_0, lR_s, sT_0, sT_i, sT_r, sT_u, sT_lu, sU_0, sU_i, sU_r, sU_u, zws_i, zws_r, zws_l, zws_n, zCb_kc, xl_ll, xr_rr, xs_e, xset_e, Option.toList, List.cons_append, List.nil_append, zIb_e, zrng_e, nz_e, if_pos, if_neg, and_true, true_and, or_true, true_or, ite_self, bi_eq0, bi_eq1, bi_1, bi_0, bi_ir, bi_T, bi_F, up_eq, up_ne, ↓reduceIte, reduceIte, Nat.reduceAdd, Nat.reduceLeDiff, Nat.le_refl, Nat.zero_le, not_true_eq_false, not_false_eq_true, ne_eq, Int.reduceEq, Int.reduceLT, Int.reduceLE, Int.reduceAdd, Int.reduceSub, Int.reduceMul, Int.reduceNeg, s103]
theorem s105 {d : Nat} {Q : Option AV → XH → Prop} {h : XH} {x y w hh : Int} (hd : 2 ≤ d) (hx : ir x) (hy : ir y) (hw : 1 ≤ w ∧ ir w) (hh1 : 1 ≤ hh ∧ ir hh) : Call d 105 [zint x, zint y, zint w, zint hh] h Q = Q (some (zint (bi ((0 ≤ x ∧ x ≤ 128 - w) ∧ 0 ≤ y ∧ y ≤ 128 - hh)))) h := by
  rw [e105 (show 1 ≤ d by omega)]
  by_cases q0 : 0 ≤ x ∧ x ≤ 128 - w
  · skip
    by_cases q1 : 0 ≤ y ∧ y ≤ 128 - hh
    · skip
      first
      | (exfalso; omega; done)
      | simp (disch := omega) only [↓u105_0, ↓u105_1, ↓u105_2, ↓u105_5, ↓u105_6, ↓u105_7, ↓u105_10, ↓u105_13, ↓u105_14, ↓u105_15, ↓u105_18, ↓u105_19, ↓u105_20, ↓u105_23, ↓u105_26, ↓u105_27, ↓u105_30, ↓u105_31, lI_0, lI_s, lL_0, lL_s, lR_0, lR_s, sT_0, sT_i, sT_r, sT_u, sT_lu, sU_0, sU_i, sU_r, sU_u, zws_i, zws_r, zws_l, zws_n, zCb_kc, xl_ll, xr_rr, xs_e, xset_e, Option.toList, List.cons_append, List.nil_append, zIb_e, zrng_e, nz_e, if_pos, if_neg, and_true, true_and, or_true, true_or, ite_self, bi_eq0, bi_eq1, bi_1, bi_0, bi_ir, bi_T, bi_F, up_eq, up_ne, ↓reduceIte, reduceIte, Nat.reduceAdd, Nat.reduceLeDiff, Nat.le_refl, Nat.zero_le, not_true_eq_false, not_false_eq_true, ne_eq, Int.reduceEq, Int.reduceLT, Int.reduceLE, Int.reduceAdd, Int.reduceSub, Int.reduceMul, Int.reduceNeg, s103]
    · skip
      first
      | (exfalso; omega; done)
      | simp (disch := omega) only [↓u105_0, ↓u105_1, ↓u105_2, ↓u105_5, ↓u105_6, ↓u105_7, ↓u105_10, ↓u105_13, ↓u105_14, ↓u105_15, ↓u105_18, ↓u105_19, ↓u105_20, ↓u105_23, ↓u105_26, ↓u105_27, ↓u105_30, ↓u105_31, lI_0, lI_s, lL_0, lL_s, lR_0, lR_s, sT_0, sT_i, sT_r, sT_u, sT_lu, sU_0, sU_i, sU_r, sU_u, zws_i, zws_r, zws_l, zws_n, zCb_kc, xl_ll, xr_rr, xs_e, xset_e, Option.toList, List.cons_append, List.nil_append, zIb_e, zrng_e, nz_e, if_pos, if_neg, and_true, true_and, or_true, true_or, ite_self, bi_eq0, bi_eq1, bi_1, bi_0, bi_ir, bi_T, bi_F, up_eq, up_ne, ↓reduceIte, reduceIte, Nat.reduceAdd, Nat.reduceLeDiff, Nat.le_refl, Nat.zero_le, not_true_eq_false, not_false_eq_true, ne_eq, Int.reduceEq, Int.reduceLT, Int.reduceLE, Int.reduceAdd, Int.reduceSub, Int.reduceMul, Int.reduceNeg, s103]
  · skip
    by_cases q1 : 0 ≤ y ∧ y ≤ 128 - hh
    · skip
      first
      | (exfalso; omega; done)
      | simp (disch := omega) only [↓u105_0, ↓u105_1, ↓u105_2, ↓u105_5, ↓u105_6, ↓u105_7, ↓u105_10, ↓u105_13, ↓u105_14, ↓u105_15, ↓u105_18, ↓u105_19, ↓u105_20, ↓u105_23, ↓u105_26, ↓u105_27, ↓u105_30, ↓u105_31, lI_0, lI_s, lL_0, lL_s, lR_0, lR_s, sT_0, sT_i, sT_r, sT_u, sT_lu, sU_0, sU_i, sU_r, sU_u, zws_i, zws_r, zws_l, zws_n, zCb_kc, xl_ll, xr_rr, xs_e, xset_e, Option.toList, List.cons_append, List.nil_append, zIb_e, zrng_e, nz_e, if_pos, if_neg, and_true, true_and, or_true, true_or, ite_self, bi_eq0, bi_eq1, bi_1, bi_0, bi_ir, bi_T, bi_F, up_eq, up_ne, ↓reduceIte, reduceIte, Nat.reduceAdd, Nat.reduceLeDiff, Nat.le_refl, Nat.zero_le, not_true_eq_false, not_false_eq_true, ne_eq, Int.reduceEq, Int.reduceLT, Int.reduceLE, Int.reduceAdd, Int.reduceSub, Int.reduceMul, Int.reduceNeg, s103]
    · skip
      first
      | (exfalso; omega; done)
      | simp (disch := omega) only [↓u105_0, ↓u105_1, ↓u105_2, ↓u105_5, ↓u105_6, ↓u105_7, ↓u105_10, ↓u105_13, ↓u105_14, ↓u105_15, ↓u105_18, ↓u105_19, ↓u105_20, ↓u105_23, ↓u105_26, ↓u105_27, ↓u105_30, ↓u105_31, lI_0, lI_s, lL_0, lL_s, lR_0, lR_s, sT_0, sT_i, sT_r, sT_u, sT_lu, sU_0, sU_i, sU_r, sU_u, zws_i, zws_r, zws_l, zws_n, zCb_kc, xl_ll, xr_rr, xs_e, xset_e, Option.toList, List.cons_append, List.nil_append, zIb_e, zrng_e, nz_e, if_pos, if_neg, and_true, true_and, or_true, true_or, ite_self, bi_eq0, bi_eq1, bi_1, bi_0, bi_ir, bi_T, bi_F, up_eq, up_ne, ↓reduceIte, reduceIte, Nat.reduceAdd, Nat.reduceLeDiff, Nat.le_refl, Nat.zero_le, not_true_eq_false, not_false_eq_true, ne_eq, Int.reduceEq, Int.reduceLT, Int.reduceLE, Int.reduceAdd, Int.reduceSub, Int.reduceMul, Int.reduceNeg, s103]
theorem s190 {d : Nat} {Q : Option AV → XH → Prop} {h : XH} {a b : Int} (hd : 1 ≤ d) (ha : ir a) (hb : ir b) : Call d 190 [zint a, zint b] h Q = Q (some (zint (max a b))) h := by
  rw [e190 (show 1 ≤ d by omega)]
  by_cases q : b ≤ a
  · rw [show max a b = a by omega]
    simp (disch := omega) only [↓u190_0, ↓u190_1, ↓u190_2, ↓u190_5, ↓u190_6, ↓u190_9, ↓u190_10, lI_0, lI_s, lL_0, lL_s, lR_0, lR_s, sT_0, sT_i, sT_r, sT_u, sT_lu, sU_0, sU_i, sU_r, sU_u, zws_i, zws_r, zws_l, zws_n, zCb_kc, xl_ll, xr_rr, xs_e, xset_e, Option.toList, List.cons_append, List.nil_append, zIb_e, zrng_e, nz_e, if_pos, if_neg, and_true, true_and, or_true, true_or, ite_self, bi_eq0, bi_eq1, bi_1, bi_0, bi_ir, bi_T, bi_F, up_eq, up_ne, ↓reduceIte, reduceIte, Nat.reduceAdd, Nat.reduceLeDiff, Nat.le_refl, Nat.zero_le, not_true_eq_false, not_false_eq_true, ne_eq, Int.reduceEq, Int.reduceLT, Int.reduceLE, Int.reduceAdd, Int.reduceSub, Int.reduceMul, Int.reduceNeg]
  · rw [show max a b = b by omega]
    simp (disch := omega) only [↓u190_0, ↓u190_1, ↓u190_2, ↓u190_5, ↓u190_6, ↓u190_9, ↓u190_10, lI_0, lI_s, lL_0, lL_s, lR_0, lR_s, sT_0, sT_i, sT_r, sT_u, sT_lu, sU_0, sU_i, sU_r, sU_u, zws_i, zws_r, zws_l, zws_n, zCb_kc, xl_ll, xr_rr, xs_e, xset_e, Option.toList, List.cons_append, List.nil_append, zIb_e, zrng_e, nz_e, if_pos, if_neg, and_true, true_and, or_true, true_or, ite_self, bi_eq0, bi_eq1, bi_1, bi_0, bi_ir, bi_T, bi_F, up_eq, up_ne, ↓reduceIte, reduceIte, Nat.reduceAdd, Nat.reduceLeDiff, Nat.le_refl, Nat.zero_le, not_true_eq_false, not_false_eq_true, ne_eq, Int.reduceEq, Int.reduceLT, Int.reduceLE, Int.reduceAdd, Int.reduceSub, Int.reduceMul, Int.reduceNeg]
theorem s191 {d : Nat} {Q : Option AV → XH → Prop} {h : XH} {a b : Int} (hd : 1 ≤ d) (ha : ir a) (hb : ir b) : Call d 191 [zint a, zint b] h Q = Q (some (zint (min a b))) h := by
  rw [e191 (show 1 ≤ d by omega)]
  by_cases q : a ≤ b
  · rw [show min a b = a by omega]
    simp (disch := omega) only [↓u191_0, ↓u191_1, ↓u191_2, ↓u191_5, ↓u191_6, ↓u191_9, ↓u191_10, lI_0, lI_s, lL_0, lL_s, lR_0, lR_s, sT_0, sT_i, sT_r, sT_u, sT_lu, sU_0, sU_i, sU_r, sU_u, zws_i, zws_r, zws_l, zws_n, zCb_kc, xl_ll, xr_rr, xs_e, xset_e, Option.toList, List.cons_append, List.nil_append, zIb_e, zrng_e, nz_e, if_pos, if_neg, and_true, true_and, or_true, true_or, ite_self, bi_eq0, bi_eq1, bi_1, bi_0, bi_ir, bi_T, bi_F, up_eq, up_ne, ↓reduceIte, reduceIte, Nat.reduceAdd, Nat.reduceLeDiff, Nat.le_refl, Nat.zero_le, not_true_eq_false, not_false_eq_true, ne_eq, Int.reduceEq, Int.reduceLT, Int.reduceLE, Int.reduceAdd, Int.reduceSub, Int.reduceMul, Int.reduceNeg]
  · rw [show min a b = b by omega]
    simp (disch := omega) only [↓u191_0, ↓u191_1, ↓u191_2, ↓u191_5, ↓u191_6, ↓u191_9, ↓u191_10, lI_0, lI_s, lL_0, lL_s, lR_0, lR_s, sT_0, sT_i, sT_r, sT_u, sT_lu, sU_0, sU_i, sU_r, sU_u, zws_i, zws_r, zws_l, zws_n, zCb_kc, xl_ll, xr_rr, xs_e, xset_e, Option.toList, List.cons_append, List.nil_append, zIb_e, zrng_e, nz_e, if_pos, if_neg, and_true, true_and, or_true, true_or, ite_self, bi_eq0, bi_eq1, bi_1, bi_0, bi_ir, bi_T, bi_F, up_eq, up_ne, ↓reduceIte, reduceIte, Nat.reduceAdd, Nat.reduceLeDiff, Nat.le_refl, Nat.zero_le, not_true_eq_false, not_false_eq_true, ne_eq, Int.reduceEq, Int.reduceLT, Int.reduceLE, Int.reduceAdd, Int.reduceSub, Int.reduceMul, Int.reduceNeg]
abbrev cov (x y w h x2 y2 w2 h2 : Int) : Prop := (x < x2 + w2 ∧ x2 < x + w) ∧ y < y2 + h2 ∧ y2 < y + h
theorem s6 {d : Nat} {Q : Option AV → XH → Prop} {G : XS} {s : ZS} {o : Int} {l t w hh : Int} (hd : 1 ≤ d) (hk : kc G o 0) (hb : okb s o) (hl : -1000 ≤ l ∧ l ≤ 1000) (ht : -1000 ≤ t ∧ t ≤ 1000) (hw : 0 ≤ w ∧ w ≤ 1000) (hh1 : 0 ≤ hh ∧ hh ≤ 1000) : Call d 6 [zrf o, zint l, zint t, zint w, zint hh] (G, s) Q = Q (some (zint (bi (cov (s o 2) (s o 3) (s o 4) (s o 5) l t w hh)))) (G, s) := by
  rw [e6 (show 1 ≤ d by omega)]
  by_cases q0 : s o 2 < l + w
  · skip
    by_cases q1 : l < s o 2 + s o 4
    · skip
      by_cases q2 : s o 3 < t + hh
      · skip
        by_cases q3 : t < s o 3 + s o 5
        · skip
          first
          | (exfalso; omega; done)
          | simp (disch := omega) only [↓u6_0, ↓u6_1, ↓u6_4, ↓u6_5, ↓u6_6, ↓u6_7, ↓u6_10, ↓u6_11, ↓u6_12, ↓u6_15, ↓u6_16, ↓u6_19, ↓u6_20, ↓u6_23, ↓u6_24, ↓u6_27, ↓u6_28, ↓u6_30, ↓u6_31, ↓u6_34, ↓u6_35, ↓u6_36, ↓u6_39, ↓u6_40, ↓u6_43, ↓u6_44, ↓u6_47, ↓u6_48, ↓u6_51, ↓u6_52, lI_0, lI_s, lL_0, lL_s, lR_0, lR_s, sT_0, sT_i, sT_r, sT_u, sT_lu, sU_0, sU_i, sU_r, sU_u, zws_i, zws_r, zws_l, zws_n, zCb_kc, xl_ll, xr_rr, xs_e, xset_e, Option.toList, List.cons_append, List.nil_append, zIb_e, zrng_e, nz_e, if_pos, if_neg, and_true, true_and, or_true, true_or, ite_self, bi_eq0, bi_eq1, bi_1, bi_0, bi_ir, bi_T, bi_F, up_eq, up_ne, ↓reduceIte, reduceIte, Nat.reduceAdd, Nat.reduceLeDiff, Nat.le_refl, Nat.zero_le, not_true_eq_false, not_false_eq_true, ne_eq, Int.reduceEq, Int.reduceLT, Int.reduceLE, Int.reduceAdd, Int.reduceSub, Int.reduceMul, Int.reduceNeg, pT hk]
        · skip
          first
          | (exfalso; omega; done)
          | simp (disch := omega) only [↓u6_0, ↓u6_1, ↓u6_4, ↓u6_5, ↓u6_6, ↓u6_7, ↓u6_10, ↓u6_11, ↓u6_12, ↓u6_15, ↓u6_16, ↓u6_19, ↓u6_20, ↓u6_23, ↓u6_24, ↓u6_27, ↓u6_28, ↓u6_30, ↓u6_31, ↓u6_34, ↓u6_35, ↓u6_36, ↓u6_39, ↓u6_40, ↓u6_43, ↓u6_44, ↓u6_47, ↓u6_48, ↓u6_51, ↓u6_52, lI_0, lI_s, lL_0, lL_s, lR_0, lR_s, sT_0, sT_i, sT_r, sT_u, sT_lu, sU_0, sU_i, sU_r, sU_u, zws_i, zws_r, zws_l, zws_n, zCb_kc, xl_ll, xr_rr, xs_e, xset_e, Option.toList, List.cons_append, List.nil_append, zIb_e, zrng_e, nz_e, if_pos, if_neg, and_true, true_and, or_true, true_or, ite_self, bi_eq0, bi_eq1, bi_1, bi_0, bi_ir, bi_T, bi_F, up_eq, up_ne, ↓reduceIte, reduceIte, Nat.reduceAdd, Nat.reduceLeDiff, Nat.le_refl, Nat.zero_le, not_true_eq_false, not_false_eq_true, ne_eq, Int.reduceEq, Int.reduceLT, Int.reduceLE, Int.reduceAdd, Int.reduceSub, Int.reduceMul, Int.reduceNeg, pT hk]
      · skip
        first
        | (exfalso; omega; done)
        | simp (disch := omega) only [↓u6_0, ↓u6_1, ↓u6_4, ↓u6_5, ↓u6_6, ↓u6_7, ↓u6_10, ↓u6_11, ↓u6_12, ↓u6_15, ↓u6_16, ↓u6_19, ↓u6_20, ↓u6_23, ↓u6_24, ↓u6_27, ↓u6_28, ↓u6_30, ↓u6_31, ↓u6_34, ↓u6_35, ↓u6_36, ↓u6_39, ↓u6_40, ↓u6_43, ↓u6_44, ↓u6_47, ↓u6_48, ↓u6_51, ↓u6_52, lI_0, lI_s, lL_0, lL_s, lR_0, lR_s, sT_0, sT_i, sT_r, sT_u, sT_lu, sU_0, sU_i, sU_r, sU_u, zws_i, zws_r, zws_l, zws_n, zCb_kc, xl_ll, xr_rr, xs_e, xset_e, Option.toList, List.cons_append, List.nil_append, zIb_e, zrng_e, nz_e, if_pos, if_neg, and_true, true_and, or_true, true_or, ite_self, bi_eq0, bi_eq1, bi_1, bi_0, bi_ir, bi_T, bi_F, up_eq, up_ne, ↓reduceIte, reduceIte, Nat.reduceAdd, Nat.reduceLeDiff, Nat.le_refl, Nat.zero_le, not_true_eq_false, not_false_eq_true, ne_eq, Int.reduceEq, Int.reduceLT, Int.reduceLE, Int.reduceAdd, Int.reduceSub, Int.reduceMul, Int.reduceNeg, pT hk]
    · skip
      first
      | (exfalso; omega; done)
      | simp (disch := omega) only [↓u6_0, ↓u6_1, ↓u6_4, ↓u6_5, ↓u6_6, ↓u6_7, ↓u6_10, ↓u6_11, ↓u6_12, ↓u6_15, ↓u6_16, ↓u6_19, ↓u6_20, ↓u6_23, ↓u6_24, ↓u6_27, ↓u6_28, ↓u6_30, ↓u6_31, ↓u6_34, ↓u6_35, ↓u6_36, ↓u6_39, ↓u6_40, ↓u6_43, ↓u6_44, ↓u6_47, ↓u6_48, ↓u6_51, ↓u6_52, lI_0, lI_s, lL_0, lL_s, lR_0, lR_s, sT_0, sT_i, sT_r, sT_u, sT_lu, sU_0, sU_i, sU_r, sU_u, zws_i, zws_r, zws_l, zws_n, zCb_kc, xl_ll, xr_rr, xs_e, xset_e, Option.toList, List.cons_append, List.nil_append, zIb_e, zrng_e, nz_e, if_pos, if_neg, and_true, true_and, or_true, true_or, ite_self, bi_eq0, bi_eq1, bi_1, bi_0, bi_ir, bi_T, bi_F, up_eq, up_ne, ↓reduceIte, reduceIte, Nat.reduceAdd, Nat.reduceLeDiff, Nat.le_refl, Nat.zero_le, not_true_eq_false, not_false_eq_true, ne_eq, Int.reduceEq, Int.reduceLT, Int.reduceLE, Int.reduceAdd, Int.reduceSub, Int.reduceMul, Int.reduceNeg, pT hk]
  · skip
    first
    | (exfalso; omega; done)
    | simp (disch := omega) only [↓u6_0, ↓u6_1, ↓u6_4, ↓u6_5, ↓u6_6, ↓u6_7, ↓u6_10, ↓u6_11, ↓u6_12, ↓u6_15, ↓u6_16, ↓u6_19, ↓u6_20, ↓u6_23, ↓u6_24, ↓u6_27, ↓u6_28, ↓u6_30, ↓u6_31, ↓u6_34, ↓u6_35, ↓u6_36, ↓u6_39, ↓u6_40, ↓u6_43, ↓u6_44, ↓u6_47, ↓u6_48, ↓u6_51, ↓u6_52, lI_0, lI_s, lL_0, lL_s, lR_0, lR_s, sT_0, sT_i, sT_r, sT_u, sT_lu, sU_0, sU_i, sU_r, sU_u, zws_i, zws_r, zws_l, zws_n, zCb_kc, xl_ll, xr_rr, xs_e, xset_e, Option.toList, List.cons_append, List.nil_append, zIb_e, zrng_e, nz_e, if_pos, if_neg, and_true, true_and, or_true, true_or, ite_self, bi_eq0, bi_eq1, bi_1, bi_0, bi_ir, bi_T, bi_F, up_eq, up_ne, ↓reduceIte, reduceIte, Nat.reduceAdd, Nat.reduceLeDiff, Nat.le_refl, Nat.zero_le, not_true_eq_false, not_false_eq_true, ne_eq, Int.reduceEq, Int.reduceLT, Int.reduceLE, Int.reduceAdd, Int.reduceSub, Int.reduceMul, Int.reduceNeg, pT hk]
theorem s7 {d : Nat} {Q : Option AV → XH → Prop} {G : XS} {s : ZS} {o : Int} {c r : Int} (hd : 2 ≤ d) (hk : kc G o 0) (hb : okb s o) (hc : 0 ≤ c ∧ c ≤ 7) (hr : 0 ≤ r ∧ r ≤ 7) : Call d 7 [zrf o, zint c, zint r] (G, s) Q = Q (some (zint (bi (cov (s o 2) (s o 3) (s o 4) (s o 5) (c * 16) (r * 16) 16 16)))) (G, s) := by
  rw [e7 (show 1 ≤ d by omega)]
  by_cases q0 : cov (s o 2) (s o 3) (s o 4) (s o 5) (c * 16) (r * 16) 16 16
  · skip
    first
    | (exfalso; omega; done)
    | simp (disch := omega) only [↓u7_0, ↓u7_1, ↓u7_2, ↓u7_4, ↓u7_5, ↓u7_6, ↓u7_8, ↓u7_9, ↓u7_11, ↓u7_13, ↓u7_16, lI_0, lI_s, lL_0, lL_s, lR_0, lR_s, sT_0, sT_i, sT_r, sT_u, sT_lu, sU_0, sU_i, sU_r, sU_u, zws_i, zws_r, zws_l, zws_n, zCb_kc, xl_ll, xr_rr, xs_e, xset_e, Option.toList, List.cons_append, List.nil_append, zIb_e, zrng_e, nz_e, if_pos, if_neg, and_true, true_and, or_true, true_or, ite_self, bi_eq0, bi_eq1, bi_1, bi_0, bi_ir, bi_T, bi_F, up_eq, up_ne, ↓reduceIte, reduceIte, Nat.reduceAdd, Nat.reduceLeDiff, Nat.le_refl, Nat.zero_le, not_true_eq_false, not_false_eq_true, ne_eq, Int.reduceEq, Int.reduceLT, Int.reduceLE, Int.reduceAdd, Int.reduceSub, Int.reduceMul, Int.reduceNeg, pT hk, s6 (show 1 ≤ d - 1 by omega) hk hb]
  · skip
    first
    | (exfalso; omega; done)
    | simp (disch := omega) only [↓u7_0, ↓u7_1, ↓u7_2, ↓u7_4, ↓u7_5, ↓u7_6, ↓u7_8, ↓u7_9, ↓u7_11, ↓u7_13, ↓u7_16, lI_0, lI_s, lL_0, lL_s, lR_0, lR_s, sT_0, sT_i, sT_r, sT_u, sT_lu, sU_0, sU_i, sU_r, sU_u, zws_i, zws_r, zws_l, zws_n, zCb_kc, xl_ll, xr_rr, xs_e, xset_e, Option.toList, List.cons_append, List.nil_append, zIb_e, zrng_e, nz_e, if_pos, if_neg, and_true, true_and, or_true, true_or, ite_self, bi_eq0, bi_eq1, bi_1, bi_0, bi_ir, bi_T, bi_F, up_eq, up_ne, ↓reduceIte, reduceIte, Nat.reduceAdd, Nat.reduceLeDiff, Nat.le_refl, Nat.zero_le, not_true_eq_false, not_false_eq_true, ne_eq, Int.reduceEq, Int.reduceLT, Int.reduceLE, Int.reduceAdd, Int.reduceSub, Int.reduceMul, Int.reduceNeg, pT hk, s6 (show 1 ≤ d - 1 by omega) hk hb]
theorem s8 {d : Nat} {Q : Option AV → XH → Prop} {G : XS} {s : ZS} {o : Int} (hd : 1 ≤ d) (hk : kc G o 0) (hb : okb s o) : Call d 8 [zrf o] (G, s) Q = Q (some (zint (((s o 2 + s o 4 - 1) / 16 - s o 2 / 16 + 1) * ((s o 3 + s o 5 - 1) / 16 - s o 3 / 16 + 1)))) (G, s) := by
  rw [e8 (show 1 ≤ d by omega)]
  simp (disch := omega) only [↓u8_0, ↓u8_1, ↓u8_4, ↓u8_5, ↓u8_8, ↓u8_9, ↓u8_10, ↓u8_11, ↓u8_13, ↓u8_14, ↓u8_15, ↓u8_18, ↓u8_20, ↓u8_21, ↓u8_22, ↓u8_23, ↓u8_24, ↓u8_25, ↓u8_26, ↓u8_29, ↓u8_30, ↓u8_33, ↓u8_34, ↓u8_35, ↓u8_36, ↓u8_38, ↓u8_39, ↓u8_40, ↓u8_43, ↓u8_45, ↓u8_46, ↓u8_47, ↓u8_48, ↓u8_49, ↓u8_50, ↓u8_51, ↓u8_52, ↓u8_53, lI_0, lI_s, lL_0, lL_s, lR_0, lR_s, sT_0, sT_i, sT_r, sT_u, sT_lu, sU_0, sU_i, sU_r, sU_u, zws_i, zws_r, zws_l, zws_n, zCb_kc, xl_ll, xr_rr, xs_e, xset_e, Option.toList, List.cons_append, List.nil_append, zIb_e, zrng_e, nz_e, if_pos, if_neg, and_true, true_and, or_true, true_or, ite_self, bi_eq0, bi_eq1, bi_1, bi_0, bi_ir, bi_T, bi_F, up_eq, up_ne, ↓reduceIte, reduceIte, Nat.reduceAdd, Nat.reduceLeDiff, Nat.le_refl, Nat.zero_le, not_true_eq_false, not_false_eq_true, ne_eq, Int.reduceEq, Int.reduceLT, Int.reduceLE, Int.reduceAdd, Int.reduceSub, Int.reduceMul, Int.reduceNeg, pT hk, td_e]
theorem s9 {d : Nat} {Q : Option AV → XH → Prop} {G : XS} {s : ZS} {o : Int} {p : Int} (hd : 2 ≤ d) (hk : kc G o 0) (hb : okb s o) (hk2 : kc G p 0) (hb2 : okb s p) : Call d 9 [zrf o, zrf p] (G, s) Q = Q (some (zint (bi (s o 1 ≠ s p 1 ∧ cov (s o 2) (s o 3) (s o 4) (s o 5) (s p 2) (s p 3) (s p 4) (s p 5))))) (G, s) := by
  rw [e9 (show 1 ≤ d by omega)]
  by_cases q0 : s o 1 = s p 1
  · skip
    by_cases q1 : cov (s o 2) (s o 3) (s o 4) (s o 5) (s p 2) (s p 3) (s p 4) (s p 5)
    · skip
      first
      | (exfalso; omega; done)
      | simp (disch := omega) only [↓u9_0, ↓u9_1, ↓u9_4, ↓u9_5, ↓u9_8, ↓u9_11, ↓u9_12, ↓u9_13, ↓u9_16, ↓u9_17, ↓u9_20, ↓u9_21, ↓u9_24, ↓u9_25, ↓u9_28, ↓u9_31, ↓u9_34, ↓u9_35, ↓u9_38, ↓u9_39, lI_0, lI_s, lL_0, lL_s, lR_0, lR_s, sT_0, sT_i, sT_r, sT_u, sT_lu, sU_0, sU_i, sU_r, sU_u, zws_i, zws_r, zws_l, zws_n, zCb_kc, xl_ll, xr_rr, xs_e, xset_e, Option.toList, List.cons_append, List.nil_append, zIb_e, zrng_e, nz_e, if_pos, if_neg, and_true, true_and, or_true, true_or, ite_self, bi_eq0, bi_eq1, bi_1, bi_0, bi_ir, bi_T, bi_F, up_eq, up_ne, ↓reduceIte, reduceIte, Nat.reduceAdd, Nat.reduceLeDiff, Nat.le_refl, Nat.zero_le, not_true_eq_false, not_false_eq_true, ne_eq, Int.reduceEq, Int.reduceLT, Int.reduceLE, Int.reduceAdd, Int.reduceSub, Int.reduceMul, Int.reduceNeg, pT hk, pT hk2, s6 (show 1 ≤ d - 1 by omega) hk hb]
    · skip
      first
      | (exfalso; omega; done)
      | simp (disch := omega) only [↓u9_0, ↓u9_1, ↓u9_4, ↓u9_5, ↓u9_8, ↓u9_11, ↓u9_12, ↓u9_13, ↓u9_16, ↓u9_17, ↓u9_20, ↓u9_21, ↓u9_24, ↓u9_25, ↓u9_28, ↓u9_31, ↓u9_34, ↓u9_35, ↓u9_38, ↓u9_39, lI_0, lI_s, lL_0, lL_s, lR_0, lR_s, sT_0, sT_i, sT_r, sT_u, sT_lu, sU_0, sU_i, sU_r, sU_u, zws_i, zws_r, zws_l, zws_n, zCb_kc, xl_ll, xr_rr, xs_e, xset_e, Option.toList, List.cons_append, List.nil_append, zIb_e, zrng_e, nz_e, if_pos, if_neg, and_true, true_and, or_true, true_or, ite_self, bi_eq0, bi_eq1, bi_1, bi_0, bi_ir, bi_T, bi_F, up_eq, up_ne, ↓reduceIte, reduceIte, Nat.reduceAdd, Nat.reduceLeDiff, Nat.le_refl, Nat.zero_le, not_true_eq_false, not_false_eq_true, ne_eq, Int.reduceEq, Int.reduceLT, Int.reduceLE, Int.reduceAdd, Int.reduceSub, Int.reduceMul, Int.reduceNeg, pT hk, pT hk2, s6 (show 1 ≤ d - 1 by omega) hk hb]
  · skip
    by_cases q1 : cov (s o 2) (s o 3) (s o 4) (s o 5) (s p 2) (s p 3) (s p 4) (s p 5)
    · skip
      first
      | (exfalso; omega; done)
      | simp (disch := omega) only [↓u9_0, ↓u9_1, ↓u9_4, ↓u9_5, ↓u9_8, ↓u9_11, ↓u9_12, ↓u9_13, ↓u9_16, ↓u9_17, ↓u9_20, ↓u9_21, ↓u9_24, ↓u9_25, ↓u9_28, ↓u9_31, ↓u9_34, ↓u9_35, ↓u9_38, ↓u9_39, lI_0, lI_s, lL_0, lL_s, lR_0, lR_s, sT_0, sT_i, sT_r, sT_u, sT_lu, sU_0, sU_i, sU_r, sU_u, zws_i, zws_r, zws_l, zws_n, zCb_kc, xl_ll, xr_rr, xs_e, xset_e, Option.toList, List.cons_append, List.nil_append, zIb_e, zrng_e, nz_e, if_pos, if_neg, and_true, true_and, or_true, true_or, ite_self, bi_eq0, bi_eq1, bi_1, bi_0, bi_ir, bi_T, bi_F, up_eq, up_ne, ↓reduceIte, reduceIte, Nat.reduceAdd, Nat.reduceLeDiff, Nat.le_refl, Nat.zero_le, not_true_eq_false, not_false_eq_true, ne_eq, Int.reduceEq, Int.reduceLT, Int.reduceLE, Int.reduceAdd, Int.reduceSub, Int.reduceMul, Int.reduceNeg, pT hk, pT hk2, s6 (show 1 ≤ d - 1 by omega) hk hb]
    · skip
      first
      | (exfalso; omega; done)
      | simp (disch := omega) only [↓u9_0, ↓u9_1, ↓u9_4, ↓u9_5, ↓u9_8, ↓u9_11, ↓u9_12, ↓u9_13, ↓u9_16, ↓u9_17, ↓u9_20, ↓u9_21, ↓u9_24, ↓u9_25, ↓u9_28, ↓u9_31, ↓u9_34, ↓u9_35, ↓u9_38, ↓u9_39, lI_0, lI_s, lL_0, lL_s, lR_0, lR_s, sT_0, sT_i, sT_r, sT_u, sT_lu, sU_0, sU_i, sU_r, sU_u, zws_i, zws_r, zws_l, zws_n, zCb_kc, xl_ll, xr_rr, xs_e, xset_e, Option.toList, List.cons_append, List.nil_append, zIb_e, zrng_e, nz_e, if_pos, if_neg, and_true, true_and, or_true, true_or, ite_self, bi_eq0, bi_eq1, bi_1, bi_0, bi_ir, bi_T, bi_F, up_eq, up_ne, ↓reduceIte, reduceIte, Nat.reduceAdd, Nat.reduceLeDiff, Nat.le_refl, Nat.zero_le, not_true_eq_false, not_false_eq_true, ne_eq, Int.reduceEq, Int.reduceLT, Int.reduceLE, Int.reduceAdd, Int.reduceSub, Int.reduceMul, Int.reduceNeg, pT hk, pT hk2, s6 (show 1 ≤ d - 1 by omega) hk hb]
def gp (p f z : Int) : Int := max (f - p) (max 0 (p - (f + z - 1)))
theorem gp_1 {p f z : Int} (h : p < f ∧ 0 ≤ z) : gp p f z = f - p := by unfold gp; omega
theorem gp_2 {p f z : Int} (h : f ≤ p) : gp p f z = max 0 (p - (f + z - 1)) := by unfold gp; omega
theorem gp_b {p f z : Int} (h : (0 ≤ p ∧ p ≤ 127) ∧ (0 ≤ f ∧ f ≤ 128) ∧ 0 ≤ z) : 0 ≤ gp p f z ∧ gp p f z ≤ 128 := by unfold gp; omega
theorem s11 {d : Nat} {Q : Option AV → XH → Prop} {h : XH} {p f z : Int} (hd : 2 ≤ d) (hp : 0 ≤ p ∧ p ≤ 1000) (hf : 0 ≤ f ∧ f ≤ 1000) (hz : 0 ≤ z ∧ z ≤ 1000) : Call d 11 [zint p, zint f, zint z] h Q = Q (some (zint (gp p f z))) h := by
  rw [e11 (show 1 ≤ d by omega)]
  by_cases q0 : p < f
  · skip
    first
    | (exfalso; omega; done)
    | simp (disch := omega) only [↓u11_0, ↓u11_1, ↓u11_2, ↓u11_5, ↓u11_6, ↓u11_7, ↓u11_8, ↓u11_11, ↓u11_12, ↓u11_13, ↓u11_14, ↓u11_15, ↓u11_16, ↓u11_17, ↓u11_18, ↓u11_19, ↓u11_22, lI_0, lI_s, lL_0, lL_s, lR_0, lR_s, sT_0, sT_i, sT_r, sT_u, sT_lu, sU_0, sU_i, sU_r, sU_u, zws_i, zws_r, zws_l, zws_n, zCb_kc, xl_ll, xr_rr, xs_e, xset_e, Option.toList, List.cons_append, List.nil_append, zIb_e, zrng_e, nz_e, if_pos, if_neg, and_true, true_and, or_true, true_or, ite_self, bi_eq0, bi_eq1, bi_1, bi_0, bi_ir, bi_T, bi_F, up_eq, up_ne, ↓reduceIte, reduceIte, Nat.reduceAdd, Nat.reduceLeDiff, Nat.le_refl, Nat.zero_le, not_true_eq_false, not_false_eq_true, ne_eq, Int.reduceEq, Int.reduceLT, Int.reduceLE, Int.reduceAdd, Int.reduceSub, Int.reduceMul, Int.reduceNeg, s190, gp_1, gp_2]
  · skip
    first
    | (exfalso; omega; done)
    | simp (disch := omega) only [↓u11_0, ↓u11_1, ↓u11_2, ↓u11_5, ↓u11_6, ↓u11_7, ↓u11_8, ↓u11_11, ↓u11_12, ↓u11_13, ↓u11_14, ↓u11_15, ↓u11_16, ↓u11_17, ↓u11_18, ↓u11_19, ↓u11_22, lI_0, lI_s, lL_0, lL_s, lR_0, lR_s, sT_0, sT_i, sT_r, sT_u, sT_lu, sU_0, sU_i, sU_r, sU_u, zws_i, zws_r, zws_l, zws_n, zCb_kc, xl_ll, xr_rr, xs_e, xset_e, Option.toList, List.cons_append, List.nil_append, zIb_e, zrng_e, nz_e, if_pos, if_neg, and_true, true_and, or_true, true_or, ite_self, bi_eq0, bi_eq1, bi_1, bi_0, bi_ir, bi_T, bi_F, up_eq, up_ne, ↓reduceIte, reduceIte, Nat.reduceAdd, Nat.reduceLeDiff, Nat.le_refl, Nat.zero_le, not_true_eq_false, not_false_eq_true, ne_eq, Int.reduceEq, Int.reduceLT, Int.reduceLE, Int.reduceAdd, Int.reduceSub, Int.reduceMul, Int.reduceNeg, s190, gp_1, gp_2]
def fr (px py x y w h : Int) : Int := gp px x w * gp px x w + gp py y h * gp py y h
theorem s10 {d : Nat} {Q : Option AV → XH → Prop} {G : XS} {s : ZS} {o : Int} {px py : Int} (hd : 3 ≤ d) (hk : kc G o 0) (hb : okb s o) (hp : 0 ≤ px ∧ px ≤ 127) (hp2 : 0 ≤ py ∧ py ≤ 127) : Call d 10 [zrf o, zint px, zint py] (G, s) Q = Q (some (zint (fr px py (s o 2) (s o 3) (s o 4) (s o 5)))) (G, s) := by
  rw [e10 (show 1 ≤ d by omega)]
  unfold fr
  simp (disch := omega) only [↓u10_0, ↓u10_1, ↓u10_2, ↓u10_5, ↓u10_6, ↓u10_9, ↓u10_12, ↓u10_13, ↓u10_14, ↓u10_15, ↓u10_18, ↓u10_19, ↓u10_22, ↓u10_25, ↓u10_27, ↓u10_28, ↓u10_29, ↓u10_30, ↓u10_32, ↓u10_34, ↓u10_35, ↓u10_36, lI_0, lI_s, lL_0, lL_s, lR_0, lR_s, sT_0, sT_i, sT_r, sT_u, sT_lu, sU_0, sU_i, sU_r, sU_u, zws_i, zws_r, zws_l, zws_n, zCb_kc, xl_ll, xr_rr, xs_e, xset_e, Option.toList, List.cons_append, List.nil_append, zIb_e, zrng_e, nz_e, if_pos, if_neg, and_true, true_and, or_true, true_or, ite_self, bi_eq0, bi_eq1, bi_1, bi_0, bi_ir, bi_T, bi_F, up_eq, up_ne, ↓reduceIte, reduceIte, Nat.reduceAdd, Nat.reduceLeDiff, Nat.le_refl, Nat.zero_le, not_true_eq_false, not_false_eq_true, ne_eq, Int.reduceEq, Int.reduceLT, Int.reduceLE, Int.reduceAdd, Int.reduceSub, Int.reduceMul, Int.reduceNeg, pT hk, s11]
theorem fr_b {px py x y w h : Int} (hp : 0 ≤ px ∧ px ≤ 127) (hp2 : 0 ≤ py ∧ py ≤ 127) (hx : 0 ≤ x ∧ x ≤ 128 - w) (hy : 0 ≤ y ∧ y ≤ 128 - h) (hw : 1 ≤ w ∧ w ≤ 32) (hh : 1 ≤ h ∧ h ≤ 32) : 0 ≤ fr px py x y w h ∧ fr px py x y w h ≤ 40000 := by
  unfold fr
  have h1 := mul_b (c := 128) (a := gp px x w) (b := gp px x w) (gp_b (by omega)) (gp_b (by omega))
  have h2 := mul_b (c := 128) (a := gp py y h) (b := gp py y h) (gp_b (by omega)) (gp_b (by omega))
  generalize gp px x w * gp px x w = A at *
  generalize gp py y h * gp py y h = B at *
  omega
abbrev pas (k l w h t : Int) : Prop := t = 0 ∨ (t = 1 ∧ l = 0) ∨ (t = 2 ∧ l = 1) ∨ (t = 3 ∧ k ≠ 0) ∨ (t = 4 ∧ 16 ≤ w * h)
theorem s12_0 {d : Nat} {Q : Option AV → XH → Prop} {G : XS} {s : ZS} {o : Int} (hd : 1 ≤ d) (hk : kc G o 0) (hb : okb s o) : Call d 12 [zrf o, zint 0] (G, s) Q = Q (some (zint (bi (True)))) (G, s) := by
  rw [e12 (show 1 ≤ d by omega)]
  have hm := mul_b (c := 32) (a := s o 4) (b := s o 5) (by omega) (by omega)
  rw [bi_1 trivial]
  simp (disch := omega) only [↓u12_0, ↓u12_1, ↓u12_32, ↓u12_33, ↓u12_34, ↓u12_35, ↓u12_38, ↓u12_41, ↓u12_42, ↓u12_45, ↓u12_46, ↓u12_47, ↓u12_48, ↓u12_51, ↓u12_52, ↓u12_55, ↓u12_56, ↓u12_59, ↓u12_60, ↓u12_61, ↓u12_62, ↓u12_65, ↓u12_68, ↓u12_69, ↓u12_72, ↓u12_73, ↓u12_74, ↓u12_75, ↓u12_78, ↓u12_79, ↓u12_82, ↓u12_83, ↓u12_85, ↓u12_88, ↓u12_89, ↓u12_92, ↓u12_93, lI_0, lI_s, lL_0, lL_s, lR_0, lR_s, sT_0, sT_i, sT_r, sT_u, sT_lu, sU_0, sU_i, sU_r, sU_u, zws_i, zws_r, zws_l, zws_n, zCb_kc, xl_ll, xr_rr, xs_e, xset_e, Option.toList, List.cons_append, List.nil_append, zIb_e, zrng_e, nz_e, if_pos, if_neg, and_true, true_and, or_true, true_or, ite_self, bi_eq0, bi_eq1, bi_1, bi_0, bi_ir, bi_T, bi_F, up_eq, up_ne, ↓reduceIte, reduceIte, Nat.reduceAdd, Nat.reduceLeDiff, Nat.le_refl, Nat.zero_le, not_true_eq_false, not_false_eq_true, ne_eq, Int.reduceEq, Int.reduceLT, Int.reduceLE, Int.reduceAdd, Int.reduceSub, Int.reduceMul, Int.reduceNeg, pT hk, ztb_0, ztb_s]
theorem pas_0 {k l w h : Int} : pas k l w h 0 = (True) := by
  unfold pas
  simp
theorem s12_1 {d : Nat} {Q : Option AV → XH → Prop} {G : XS} {s : ZS} {o : Int} (hd : 1 ≤ d) (hk : kc G o 0) (hb : okb s o) : Call d 12 [zrf o, zint 1] (G, s) Q = Q (some (zint (bi (s o 1 = 0)))) (G, s) := by
  rw [e12 (show 1 ≤ d by omega)]
  have hm := mul_b (c := 32) (a := s o 4) (b := s o 5) (by omega) (by omega)
  by_cases q0 : s o 1 = 0
  · skip
    first
    | (exfalso; omega; done)
    | simp (disch := omega) only [↓u12_0, ↓u12_1, ↓u12_32, ↓u12_33, ↓u12_34, ↓u12_35, ↓u12_38, ↓u12_41, ↓u12_42, ↓u12_45, ↓u12_46, ↓u12_47, ↓u12_48, ↓u12_51, ↓u12_52, ↓u12_55, ↓u12_56, ↓u12_59, ↓u12_60, ↓u12_61, ↓u12_62, ↓u12_65, ↓u12_68, ↓u12_69, ↓u12_72, ↓u12_73, ↓u12_74, ↓u12_75, ↓u12_78, ↓u12_79, ↓u12_82, ↓u12_83, ↓u12_85, ↓u12_88, ↓u12_89, ↓u12_92, ↓u12_93, lI_0, lI_s, lL_0, lL_s, lR_0, lR_s, sT_0, sT_i, sT_r, sT_u, sT_lu, sU_0, sU_i, sU_r, sU_u, zws_i, zws_r, zws_l, zws_n, zCb_kc, xl_ll, xr_rr, xs_e, xset_e, Option.toList, List.cons_append, List.nil_append, zIb_e, zrng_e, nz_e, if_pos, if_neg, and_true, true_and, or_true, true_or, ite_self, bi_eq0, bi_eq1, bi_1, bi_0, bi_ir, bi_T, bi_F, up_eq, up_ne, ↓reduceIte, reduceIte, Nat.reduceAdd, Nat.reduceLeDiff, Nat.le_refl, Nat.zero_le, not_true_eq_false, not_false_eq_true, ne_eq, Int.reduceEq, Int.reduceLT, Int.reduceLE, Int.reduceAdd, Int.reduceSub, Int.reduceMul, Int.reduceNeg, pT hk, ztb_0, ztb_s]
  · skip
    first
    | (exfalso; omega; done)
    | simp (disch := omega) only [↓u12_0, ↓u12_1, ↓u12_32, ↓u12_33, ↓u12_34, ↓u12_35, ↓u12_38, ↓u12_41, ↓u12_42, ↓u12_45, ↓u12_46, ↓u12_47, ↓u12_48, ↓u12_51, ↓u12_52, ↓u12_55, ↓u12_56, ↓u12_59, ↓u12_60, ↓u12_61, ↓u12_62, ↓u12_65, ↓u12_68, ↓u12_69, ↓u12_72, ↓u12_73, ↓u12_74, ↓u12_75, ↓u12_78, ↓u12_79, ↓u12_82, ↓u12_83, ↓u12_85, ↓u12_88, ↓u12_89, ↓u12_92, ↓u12_93, lI_0, lI_s, lL_0, lL_s, lR_0, lR_s, sT_0, sT_i, sT_r, sT_u, sT_lu, sU_0, sU_i, sU_r, sU_u, zws_i, zws_r, zws_l, zws_n, zCb_kc, xl_ll, xr_rr, xs_e, xset_e, Option.toList, List.cons_append, List.nil_append, zIb_e, zrng_e, nz_e, if_pos, if_neg, and_true, true_and, or_true, true_or, ite_self, bi_eq0, bi_eq1, bi_1, bi_0, bi_ir, bi_T, bi_F, up_eq, up_ne, ↓reduceIte, reduceIte, Nat.reduceAdd, Nat.reduceLeDiff, Nat.le_refl, Nat.zero_le, not_true_eq_false, not_false_eq_true, ne_eq, Int.reduceEq, Int.reduceLT, Int.reduceLE, Int.reduceAdd, Int.reduceSub, Int.reduceMul, Int.reduceNeg, pT hk, ztb_0, ztb_s]
theorem pas_1 {k l w h : Int} : pas k l w h 1 = (l = 0) := by
  unfold pas
  exact propext (by omega)
theorem s12_2 {d : Nat} {Q : Option AV → XH → Prop} {G : XS} {s : ZS} {o : Int} (hd : 1 ≤ d) (hk : kc G o 0) (hb : okb s o) : Call d 12 [zrf o, zint 2] (G, s) Q = Q (some (zint (bi (s o 1 = 1)))) (G, s) := by
  rw [e12 (show 1 ≤ d by omega)]
  have hm := mul_b (c := 32) (a := s o 4) (b := s o 5) (by omega) (by omega)
  by_cases q0 : s o 1 = 1
  · skip
    first
    | (exfalso; omega; done)
    | simp (disch := omega) only [↓u12_0, ↓u12_1, ↓u12_32, ↓u12_33, ↓u12_34, ↓u12_35, ↓u12_38, ↓u12_41, ↓u12_42, ↓u12_45, ↓u12_46, ↓u12_47, ↓u12_48, ↓u12_51, ↓u12_52, ↓u12_55, ↓u12_56, ↓u12_59, ↓u12_60, ↓u12_61, ↓u12_62, ↓u12_65, ↓u12_68, ↓u12_69, ↓u12_72, ↓u12_73, ↓u12_74, ↓u12_75, ↓u12_78, ↓u12_79, ↓u12_82, ↓u12_83, ↓u12_85, ↓u12_88, ↓u12_89, ↓u12_92, ↓u12_93, lI_0, lI_s, lL_0, lL_s, lR_0, lR_s, sT_0, sT_i, sT_r, sT_u, sT_lu, sU_0, sU_i, sU_r, sU_u, zws_i, zws_r, zws_l, zws_n, zCb_kc, xl_ll, xr_rr, xs_e, xset_e, Option.toList, List.cons_append, List.nil_append, zIb_e, zrng_e, nz_e, if_pos, if_neg, and_true, true_and, or_true, true_or, ite_self, bi_eq0, bi_eq1, bi_1, bi_0, bi_ir, bi_T, bi_F, up_eq, up_ne, ↓reduceIte, reduceIte, Nat.reduceAdd, Nat.reduceLeDiff, Nat.le_refl, Nat.zero_le, not_true_eq_false, not_false_eq_true, ne_eq, Int.reduceEq, Int.reduceLT, Int.reduceLE, Int.reduceAdd, Int.reduceSub, Int.reduceMul, Int.reduceNeg, pT hk, ztb_0, ztb_s]
  · skip
    first
    | (exfalso; omega; done)
    | simp (disch := omega) only [↓u12_0, ↓u12_1, ↓u12_32, ↓u12_33, ↓u12_34, ↓u12_35, ↓u12_38, ↓u12_41, ↓u12_42, ↓u12_45, ↓u12_46, ↓u12_47, ↓u12_48, ↓u12_51, ↓u12_52, ↓u12_55, ↓u12_56, ↓u12_59, ↓u12_60, ↓u12_61, ↓u12_62, ↓u12_65, ↓u12_68, ↓u12_69, ↓u12_72, ↓u12_73, ↓u12_74, ↓u12_75, ↓u12_78, ↓u12_79, ↓u12_82, ↓u12_83, ↓u12_85, ↓u12_88, ↓u12_89, ↓u12_92, ↓u12_93, lI_0, lI_s, lL_0, lL_s, lR_0, lR_s, sT_0, sT_i, sT_r, sT_u, sT_lu, sU_0, sU_i, sU_r, sU_u, zws_i, zws_r, zws_l, zws_n, zCb_kc, xl_ll, xr_rr, xs_e, xset_e, Option.toList, List.cons_append, List.nil_append, zIb_e, zrng_e, nz_e, if_pos, if_neg, and_true, true_and, or_true, true_or, ite_self, bi_eq0, bi_eq1, bi_1, bi_0, bi_ir, bi_T, bi_F, up_eq, up_ne, ↓reduceIte, reduceIte, Nat.reduceAdd, Nat.reduceLeDiff, Nat.le_refl, Nat.zero_le, not_true_eq_false, not_false_eq_true, ne_eq, Int.reduceEq, Int.reduceLT, Int.reduceLE, Int.reduceAdd, Int.reduceSub, Int.reduceMul, Int.reduceNeg, pT hk, ztb_0, ztb_s]
theorem pas_2 {k l w h : Int} : pas k l w h 2 = (l = 1) := by
  unfold pas
  exact propext (by omega)
theorem s12_3 {d : Nat} {Q : Option AV → XH → Prop} {G : XS} {s : ZS} {o : Int} (hd : 1 ≤ d) (hk : kc G o 0) (hb : okb s o) : Call d 12 [zrf o, zint 3] (G, s) Q = Q (some (zint (bi (s o 0 ≠ 0)))) (G, s) := by
  rw [e12 (show 1 ≤ d by omega)]
  have hm := mul_b (c := 32) (a := s o 4) (b := s o 5) (by omega) (by omega)
  by_cases q0 : s o 0 ≠ 0
  · skip
    first
    | (exfalso; omega; done)
    | simp (disch := omega) only [↓u12_0, ↓u12_1, ↓u12_32, ↓u12_33, ↓u12_34, ↓u12_35, ↓u12_38, ↓u12_41, ↓u12_42, ↓u12_45, ↓u12_46, ↓u12_47, ↓u12_48, ↓u12_51, ↓u12_52, ↓u12_55, ↓u12_56, ↓u12_59, ↓u12_60, ↓u12_61, ↓u12_62, ↓u12_65, ↓u12_68, ↓u12_69, ↓u12_72, ↓u12_73, ↓u12_74, ↓u12_75, ↓u12_78, ↓u12_79, ↓u12_82, ↓u12_83, ↓u12_85, ↓u12_88, ↓u12_89, ↓u12_92, ↓u12_93, lI_0, lI_s, lL_0, lL_s, lR_0, lR_s, sT_0, sT_i, sT_r, sT_u, sT_lu, sU_0, sU_i, sU_r, sU_u, zws_i, zws_r, zws_l, zws_n, zCb_kc, xl_ll, xr_rr, xs_e, xset_e, Option.toList, List.cons_append, List.nil_append, zIb_e, zrng_e, nz_e, if_pos, if_neg, and_true, true_and, or_true, true_or, ite_self, bi_eq0, bi_eq1, bi_1, bi_0, bi_ir, bi_T, bi_F, up_eq, up_ne, ↓reduceIte, reduceIte, Nat.reduceAdd, Nat.reduceLeDiff, Nat.le_refl, Nat.zero_le, not_true_eq_false, not_false_eq_true, ne_eq, Int.reduceEq, Int.reduceLT, Int.reduceLE, Int.reduceAdd, Int.reduceSub, Int.reduceMul, Int.reduceNeg, pT hk, ztb_0, ztb_s]
  · skip
    first
    | (exfalso; omega; done)
    | simp (disch := omega) only [↓u12_0, ↓u12_1, ↓u12_32, ↓u12_33, ↓u12_34, ↓u12_35, ↓u12_38, ↓u12_41, ↓u12_42, ↓u12_45, ↓u12_46, ↓u12_47, ↓u12_48, ↓u12_51, ↓u12_52, ↓u12_55, ↓u12_56, ↓u12_59, ↓u12_60, ↓u12_61, ↓u12_62, ↓u12_65, ↓u12_68, ↓u12_69, ↓u12_72, ↓u12_73, ↓u12_74, ↓u12_75, ↓u12_78, ↓u12_79, ↓u12_82, ↓u12_83, ↓u12_85, ↓u12_88, ↓u12_89, ↓u12_92, ↓u12_93, lI_0, lI_s, lL_0, lL_s, lR_0, lR_s, sT_0, sT_i, sT_r, sT_u, sT_lu, sU_0, sU_i, sU_r, sU_u, zws_i, zws_r, zws_l, zws_n, zCb_kc, xl_ll, xr_rr, xs_e, xset_e, Option.toList, List.cons_append, List.nil_append, zIb_e, zrng_e, nz_e, if_pos, if_neg, and_true, true_and, or_true, true_or, ite_self, bi_eq0, bi_eq1, bi_1, bi_0, bi_ir, bi_T, bi_F, up_eq, up_ne, ↓reduceIte, reduceIte, Nat.reduceAdd, Nat.reduceLeDiff, Nat.le_refl, Nat.zero_le, not_true_eq_false, not_false_eq_true, ne_eq, Int.reduceEq, Int.reduceLT, Int.reduceLE, Int.reduceAdd, Int.reduceSub, Int.reduceMul, Int.reduceNeg, pT hk, ztb_0, ztb_s]
theorem pas_3 {k l w h : Int} : pas k l w h 3 = (k ≠ 0) := by
  unfold pas
  exact propext (by omega)
theorem s12_4 {d : Nat} {Q : Option AV → XH → Prop} {G : XS} {s : ZS} {o : Int} (hd : 1 ≤ d) (hk : kc G o 0) (hb : okb s o) : Call d 12 [zrf o, zint 4] (G, s) Q = Q (some (zint (bi (16 ≤ s o 4 * s o 5)))) (G, s) := by
  rw [e12 (show 1 ≤ d by omega)]
  have hm := mul_b (c := 32) (a := s o 4) (b := s o 5) (by omega) (by omega)
  by_cases q0 : 16 ≤ s o 4 * s o 5
  · skip
    first
    | (exfalso; omega; done)
    | simp (disch := omega) only [↓u12_0, ↓u12_1, ↓u12_32, ↓u12_33, ↓u12_34, ↓u12_35, ↓u12_38, ↓u12_41, ↓u12_42, ↓u12_45, ↓u12_46, ↓u12_47, ↓u12_48, ↓u12_51, ↓u12_52, ↓u12_55, ↓u12_56, ↓u12_59, ↓u12_60, ↓u12_61, ↓u12_62, ↓u12_65, ↓u12_68, ↓u12_69, ↓u12_72, ↓u12_73, ↓u12_74, ↓u12_75, ↓u12_78, ↓u12_79, ↓u12_82, ↓u12_83, ↓u12_85, ↓u12_88, ↓u12_89, ↓u12_92, ↓u12_93, lI_0, lI_s, lL_0, lL_s, lR_0, lR_s, sT_0, sT_i, sT_r, sT_u, sT_lu, sU_0, sU_i, sU_r, sU_u, zws_i, zws_r, zws_l, zws_n, zCb_kc, xl_ll, xr_rr, xs_e, xset_e, Option.toList, List.cons_append, List.nil_append, zIb_e, zrng_e, nz_e, if_pos, if_neg, and_true, true_and, or_true, true_or, ite_self, bi_eq0, bi_eq1, bi_1, bi_0, bi_ir, bi_T, bi_F, up_eq, up_ne, ↓reduceIte, reduceIte, Nat.reduceAdd, Nat.reduceLeDiff, Nat.le_refl, Nat.zero_le, not_true_eq_false, not_false_eq_true, ne_eq, Int.reduceEq, Int.reduceLT, Int.reduceLE, Int.reduceAdd, Int.reduceSub, Int.reduceMul, Int.reduceNeg, pT hk, ztb_0, ztb_s]
  · skip
    first
    | (exfalso; omega; done)
    | simp (disch := omega) only [↓u12_0, ↓u12_1, ↓u12_32, ↓u12_33, ↓u12_34, ↓u12_35, ↓u12_38, ↓u12_41, ↓u12_42, ↓u12_45, ↓u12_46, ↓u12_47, ↓u12_48, ↓u12_51, ↓u12_52, ↓u12_55, ↓u12_56, ↓u12_59, ↓u12_60, ↓u12_61, ↓u12_62, ↓u12_65, ↓u12_68, ↓u12_69, ↓u12_72, ↓u12_73, ↓u12_74, ↓u12_75, ↓u12_78, ↓u12_79, ↓u12_82, ↓u12_83, ↓u12_85, ↓u12_88, ↓u12_89, ↓u12_92, ↓u12_93, lI_0, lI_s, lL_0, lL_s, lR_0, lR_s, sT_0, sT_i, sT_r, sT_u, sT_lu, sU_0, sU_i, sU_r, sU_u, zws_i, zws_r, zws_l, zws_n, zCb_kc, xl_ll, xr_rr, xs_e, xset_e, Option.toList, List.cons_append, List.nil_append, zIb_e, zrng_e, nz_e, if_pos, if_neg, and_true, true_and, or_true, true_or, ite_self, bi_eq0, bi_eq1, bi_1, bi_0, bi_ir, bi_T, bi_F, up_eq, up_ne, ↓reduceIte, reduceIte, Nat.reduceAdd, Nat.reduceLeDiff, Nat.le_refl, Nat.zero_le, not_true_eq_false, not_false_eq_true, ne_eq, Int.reduceEq, Int.reduceLT, Int.reduceLE, Int.reduceAdd, Int.reduceSub, Int.reduceMul, Int.reduceNeg, pT hk, ztb_0, ztb_s]
theorem pas_4 {k l w h : Int} : pas k l w h 4 = (16 ≤ w * h) := by
  unfold pas
  exact propext (by omega)
theorem s12 {d : Nat} {Q : Option AV → XH → Prop} {G : XS} {s : ZS} {o : Int} {t : Int} (hd : 1 ≤ d) (hk : kc G o 0) (hb : okb s o) (ht : 0 ≤ t ∧ t ≤ 4) : Call d 12 [zrf o, zint t] (G, s) Q = Q (some (zint (bi (pas (s o 0) (s o 1) (s o 4) (s o 5) t)))) (G, s) := by
  rcases (show t = 0 ∨ t = 1 ∨ t = 2 ∨ t = 3 ∨ t = 4 by omega) with rfl | rfl | rfl | rfl | rfl
  · rw [s12_0 hd hk hb, pas_0]
  · rw [s12_1 hd hk hb, pas_1]
  · rw [s12_2 hd hk hb, pas_2]
  · rw [s12_3 hd hk hb, pas_3]
  · rw [s12_4 hd hk hb, pas_4]
abbrev wq (x y w h k : Int) : Prop := (x + w - 1) / p2 (7 - k) = x / p2 (7 - k) ∧ (y + h - 1) / p2 (7 - k) = y / p2 (7 - k)
def wi (x y w h k : Int) : Int := if wq x y w h k then y / p2 (7 - k) * p2 k + x / p2 (7 - k) else -1
theorem wi_1 {x y w h k : Int} (q : wq x y w h k) : wi x y w h k = y / p2 (7 - k) * p2 k + x / p2 (7 - k) := if_pos q
theorem wi_0 {x y w h k : Int} (q : ¬wq x y w h k) : wi x y w h k = -1 := if_neg q
def dg (x y k : Int) : Int := x / p2 (7 - k) % 2 + 2 * (y / p2 (7 - k) % 2) + 1
theorem xs_k {k : Int} {P : Int → Prop} (h : 0 ≤ k ∧ k ≤ 5) (h0 : P 0) (h1 : P 1) (h2 : P 2) (h3 : P 3) (h4 : P 4) (h5 : P 5) : P k := by
  rcases (show k = 0 ∨ k = 1 ∨ k = 2 ∨ k = 3 ∨ k = 4 ∨ k = 5 by omega) with e | e | e | e | e | e <;> rw [e] <;> assumption
theorem s14_0 {d : Nat} {Q : Option AV → XH → Prop} {G : XS} {s : ZS} {o : Int} (hd : 1 ≤ d) (hk : kc G o 0) (hb : okb s o) : Call d 14 [zrf o, zint 0] (G, s) Q = Q (some (zint (dg (s o 2) (s o 3) 0))) (G, s) := by
  rw [e14 (show 1 ≤ d by omega)]
  unfold dg
  simp (disch := omega) only [↓u14_0, ↓u14_2, ↓u14_3, ↓u14_4, ↓u14_5, ↓u14_6, ↓u14_9, ↓u14_10, ↓u14_11, ↓u14_12, ↓u14_13, ↓u14_14, ↓u14_15, ↓u14_18, ↓u14_19, ↓u14_20, ↓u14_21, ↓u14_22, ↓u14_23, ↓u14_24, ↓u14_25, ↓u14_26, lI_0, lI_s, lL_0, lL_s, lR_0, lR_s, sT_0, sT_i, sT_r, sT_u, sT_lu, sU_0, sU_i, sU_r, sU_u, zws_i, zws_r, zws_l, zws_n, zCb_kc, xl_ll, xr_rr, xs_e, xset_e, Option.toList, List.cons_append, List.nil_append, zIb_e, zrng_e, nz_e, if_pos, if_neg, and_true, true_and, or_true, true_or, ite_self, bi_eq0, bi_eq1, bi_1, bi_0, bi_ir, bi_T, bi_F, up_eq, up_ne, ↓reduceIte, reduceIte, Nat.reduceAdd, Nat.reduceLeDiff, Nat.le_refl, Nat.zero_le, not_true_eq_false, not_false_eq_true, ne_eq, Int.reduceEq, Int.reduceLT, Int.reduceLE, Int.reduceAdd, Int.reduceSub, Int.reduceMul, Int.reduceNeg, pT hk, shr_e, and1_e, p2_0, p2_1, p2_2, p2_3, p2_4, p2_5, p2_6, p2_7]
theorem s14_1 {d : Nat} {Q : Option AV → XH → Prop} {G : XS} {s : ZS} {o : Int} (hd : 1 ≤ d) (hk : kc G o 0) (hb : okb s o) : Call d 14 [zrf o, zint 1] (G, s) Q = Q (some (zint (dg (s o 2) (s o 3) 1))) (G, s) := by
  rw [e14 (show 1 ≤ d by omega)]
  unfold dg
  simp (disch := omega) only [↓u14_0, ↓u14_2, ↓u14_3, ↓u14_4, ↓u14_5, ↓u14_6, ↓u14_9, ↓u14_10, ↓u14_11, ↓u14_12, ↓u14_13, ↓u14_14, ↓u14_15, ↓u14_18, ↓u14_19, ↓u14_20, ↓u14_21, ↓u14_22, ↓u14_23, ↓u14_24, ↓u14_25, ↓u14_26, lI_0, lI_s, lL_0, lL_s, lR_0, lR_s, sT_0, sT_i, sT_r, sT_u, sT_lu, sU_0, sU_i, sU_r, sU_u, zws_i, zws_r, zws_l, zws_n, zCb_kc, xl_ll, xr_rr, xs_e, xset_e, Option.toList, List.cons_append, List.nil_append, zIb_e, zrng_e, nz_e, if_pos, if_neg, and_true, true_and, or_true, true_or, ite_self, bi_eq0, bi_eq1, bi_1, bi_0, bi_ir, bi_T, bi_F, up_eq, up_ne, ↓reduceIte, reduceIte, Nat.reduceAdd, Nat.reduceLeDiff, Nat.le_refl, Nat.zero_le, not_true_eq_false, not_false_eq_true, ne_eq, Int.reduceEq, Int.reduceLT, Int.reduceLE, Int.reduceAdd, Int.reduceSub, Int.reduceMul, Int.reduceNeg, pT hk, shr_e, and1_e, p2_0, p2_1, p2_2, p2_3, p2_4, p2_5, p2_6, p2_7]
theorem s14_2 {d : Nat} {Q : Option AV → XH → Prop} {G : XS} {s : ZS} {o : Int} (hd : 1 ≤ d) (hk : kc G o 0) (hb : okb s o) : Call d 14 [zrf o, zint 2] (G, s) Q = Q (some (zint (dg (s o 2) (s o 3) 2))) (G, s) := by
  rw [e14 (show 1 ≤ d by omega)]
  unfold dg
  simp (disch := omega) only [↓u14_0, ↓u14_2, ↓u14_3, ↓u14_4, ↓u14_5, ↓u14_6, ↓u14_9, ↓u14_10, ↓u14_11, ↓u14_12, ↓u14_13, ↓u14_14, ↓u14_15, ↓u14_18, ↓u14_19, ↓u14_20, ↓u14_21, ↓u14_22, ↓u14_23, ↓u14_24, ↓u14_25, ↓u14_26, lI_0, lI_s, lL_0, lL_s, lR_0, lR_s, sT_0, sT_i, sT_r, sT_u, sT_lu, sU_0, sU_i, sU_r, sU_u, zws_i, zws_r, zws_l, zws_n, zCb_kc, xl_ll, xr_rr, xs_e, xset_e, Option.toList, List.cons_append, List.nil_append, zIb_e, zrng_e, nz_e, if_pos, if_neg, and_true, true_and, or_true, true_or, ite_self, bi_eq0, bi_eq1, bi_1, bi_0, bi_ir, bi_T, bi_F, up_eq, up_ne, ↓reduceIte, reduceIte, Nat.reduceAdd, Nat.reduceLeDiff, Nat.le_refl, Nat.zero_le, not_true_eq_false, not_false_eq_true, ne_eq, Int.reduceEq, Int.reduceLT, Int.reduceLE, Int.reduceAdd, Int.reduceSub, Int.reduceMul, Int.reduceNeg, pT hk, shr_e, and1_e, p2_0, p2_1, p2_2, p2_3, p2_4, p2_5, p2_6, p2_7]
theorem s14_3 {d : Nat} {Q : Option AV → XH → Prop} {G : XS} {s : ZS} {o : Int} (hd : 1 ≤ d) (hk : kc G o 0) (hb : okb s o) : Call d 14 [zrf o, zint 3] (G, s) Q = Q (some (zint (dg (s o 2) (s o 3) 3))) (G, s) := by
  rw [e14 (show 1 ≤ d by omega)]
  unfold dg
  simp (disch := omega) only [↓u14_0, ↓u14_2, ↓u14_3, ↓u14_4, ↓u14_5, ↓u14_6, ↓u14_9, ↓u14_10, ↓u14_11, ↓u14_12, ↓u14_13, ↓u14_14, ↓u14_15, ↓u14_18, ↓u14_19, ↓u14_20, ↓u14_21, ↓u14_22, ↓u14_23, ↓u14_24, ↓u14_25, ↓u14_26, lI_0, lI_s, lL_0, lL_s, lR_0, lR_s, sT_0, sT_i, sT_r, sT_u, sT_lu, sU_0, sU_i, sU_r, sU_u, zws_i, zws_r, zws_l, zws_n, zCb_kc, xl_ll, xr_rr, xs_e, xset_e, Option.toList, List.cons_append, List.nil_append, zIb_e, zrng_e, nz_e, if_pos, if_neg, and_true, true_and, or_true, true_or, ite_self, bi_eq0, bi_eq1, bi_1, bi_0, bi_ir, bi_T, bi_F, up_eq, up_ne, ↓reduceIte, reduceIte, Nat.reduceAdd, Nat.reduceLeDiff, Nat.le_refl, Nat.zero_le, not_true_eq_false, not_false_eq_true, ne_eq, Int.reduceEq, Int.reduceLT, Int.reduceLE, Int.reduceAdd, Int.reduceSub, Int.reduceMul, Int.reduceNeg, pT hk, shr_e, and1_e, p2_0, p2_1, p2_2, p2_3, p2_4, p2_5, p2_6, p2_7]
theorem s14_4 {d : Nat} {Q : Option AV → XH → Prop} {G : XS} {s : ZS} {o : Int} (hd : 1 ≤ d) (hk : kc G o 0) (hb : okb s o) : Call d 14 [zrf o, zint 4] (G, s) Q = Q (some (zint (dg (s o 2) (s o 3) 4))) (G, s) := by
  rw [e14 (show 1 ≤ d by omega)]
  unfold dg
  simp (disch := omega) only [↓u14_0, ↓u14_2, ↓u14_3, ↓u14_4, ↓u14_5, ↓u14_6, ↓u14_9, ↓u14_10, ↓u14_11, ↓u14_12, ↓u14_13, ↓u14_14, ↓u14_15, ↓u14_18, ↓u14_19, ↓u14_20, ↓u14_21, ↓u14_22, ↓u14_23, ↓u14_24, ↓u14_25, ↓u14_26, lI_0, lI_s, lL_0, lL_s, lR_0, lR_s, sT_0, sT_i, sT_r, sT_u, sT_lu, sU_0, sU_i, sU_r, sU_u, zws_i, zws_r, zws_l, zws_n, zCb_kc, xl_ll, xr_rr, xs_e, xset_e, Option.toList, List.cons_append, List.nil_append, zIb_e, zrng_e, nz_e, if_pos, if_neg, and_true, true_and, or_true, true_or, ite_self, bi_eq0, bi_eq1, bi_1, bi_0, bi_ir, bi_T, bi_F, up_eq, up_ne, ↓reduceIte, reduceIte, Nat.reduceAdd, Nat.reduceLeDiff, Nat.le_refl, Nat.zero_le, not_true_eq_false, not_false_eq_true, ne_eq, Int.reduceEq, Int.reduceLT, Int.reduceLE, Int.reduceAdd, Int.reduceSub, Int.reduceMul, Int.reduceNeg, pT hk, shr_e, and1_e, p2_0, p2_1, p2_2, p2_3, p2_4, p2_5, p2_6, p2_7]
theorem s14_5 {d : Nat} {Q : Option AV → XH → Prop} {G : XS} {s : ZS} {o : Int} (hd : 1 ≤ d) (hk : kc G o 0) (hb : okb s o) : Call d 14 [zrf o, zint 5] (G, s) Q = Q (some (zint (dg (s o 2) (s o 3) 5))) (G, s) := by
  rw [e14 (show 1 ≤ d by omega)]
  unfold dg
  simp (disch := omega) only [↓u14_0, ↓u14_2, ↓u14_3, ↓u14_4, ↓u14_5, ↓u14_6, ↓u14_9, ↓u14_10, ↓u14_11, ↓u14_12, ↓u14_13, ↓u14_14, ↓u14_15, ↓u14_18, ↓u14_19, ↓u14_20, ↓u14_21, ↓u14_22, ↓u14_23, ↓u14_24, ↓u14_25, ↓u14_26, lI_0, lI_s, lL_0, lL_s, lR_0, lR_s, sT_0, sT_i, sT_r, sT_u, sT_lu, sU_0, sU_i, sU_r, sU_u, zws_i, zws_r, zws_l, zws_n, zCb_kc, xl_ll, xr_rr, xs_e, xset_e, Option.toList, List.cons_append, List.nil_append, zIb_e, zrng_e, nz_e, if_pos, if_neg, and_true, true_and, or_true, true_or, ite_self, bi_eq0, bi_eq1, bi_1, bi_0, bi_ir, bi_T, bi_F, up_eq, up_ne, ↓reduceIte, reduceIte, Nat.reduceAdd, Nat.reduceLeDiff, Nat.le_refl, Nat.zero_le, not_true_eq_false, not_false_eq_true, ne_eq, Int.reduceEq, Int.reduceLT, Int.reduceLE, Int.reduceAdd, Int.reduceSub, Int.reduceMul, Int.reduceNeg, pT hk, shr_e, and1_e, p2_0, p2_1, p2_2, p2_3, p2_4, p2_5, p2_6, p2_7]
theorem s14 {d : Nat} {Q : Option AV → XH → Prop} {G : XS} {s : ZS} {o k : Int} (hd : 1 ≤ d) (hk : kc G o 0) (hb : okb s o) (h : 0 ≤ k ∧ k ≤ 5) : Call d 14 [zrf o, zint k] (G, s) Q = Q (some (zint (dg (s o 2) (s o 3) k))) (G, s) :=
  xs_k (P := fun k => Call d 14 [zrf o, zint k] (G, s) Q = Q (some (zint (dg (s o 2) (s o 3) k))) (G, s)) h (s14_0 hd hk hb) (s14_1 hd hk hb) (s14_2 hd hk hb) (s14_3 hd hk hb) (s14_4 hd hk hb) (s14_5 hd hk hb)
theorem s3 {d : Nat} {Q : Option AV → XH → Prop} {G : XS} {s : ZS} {o : Int} {k : Int} (hd : 1 ≤ d) (hk : kc G o 0) (hb : okb s o) (ht : 0 ≤ k ∧ k ≤ 3) : Call d 3 [zrf o, zint k] (G, s) Q = Q (some (zint (bi (k = s o 0 ∨ k = 0 ∨ (k = 1 ∧ s o 0 ≠ 0))))) (G, s) := by
  rw [e3 (show 1 ≤ d by omega)]
  by_cases q0 : k = s o 0
  · skip
    by_cases q1 : k = 0
    · skip
      by_cases q2 : k = 1
      · skip
        by_cases q3 : s o 0 = 0
        · skip
          first
          | (exfalso; omega; done)
          | simp (disch := omega) only [↓u3_0, ↓u3_1, ↓u3_2, ↓u3_5, ↓u3_8, ↓u3_9, ↓u3_12, ↓u3_13, ↓u3_14, ↓u3_17, ↓u3_18, ↓u3_21, ↓u3_24, ↓u3_25, ↓u3_28, ↓u3_29, lI_0, lI_s, lL_0, lL_s, lR_0, lR_s, sT_0, sT_i, sT_r, sT_u, sT_lu, sU_0, sU_i, sU_r, sU_u, zws_i, zws_r, zws_l, zws_n, zCb_kc, xl_ll, xr_rr, xs_e, xset_e, Option.toList, List.cons_append, List.nil_append, zIb_e, zrng_e, nz_e, if_pos, if_neg, and_true, true_and, or_true, true_or, ite_self, bi_eq0, bi_eq1, bi_1, bi_0, bi_ir, bi_T, bi_F, up_eq, up_ne, ↓reduceIte, reduceIte, Nat.reduceAdd, Nat.reduceLeDiff, Nat.le_refl, Nat.zero_le, not_true_eq_false, not_false_eq_true, ne_eq, Int.reduceEq, Int.reduceLT, Int.reduceLE, Int.reduceAdd, Int.reduceSub, Int.reduceMul, Int.reduceNeg, pT hk]
        · skip
          first
          | (exfalso; omega; done)
          | simp (disch := omega) only [↓u3_0, ↓u3_1, ↓u3_2, ↓u3_5, ↓u3_8, ↓u3_9, ↓u3_12, ↓u3_13, ↓u3_14, ↓u3_17, ↓u3_18, ↓u3_21, ↓u3_24, ↓u3_25, ↓u3_28, ↓u3_29, lI_0, lI_s, lL_0, lL_s, lR_0, lR_s, sT_0, sT_i, sT_r, sT_u, sT_lu, sU_0, sU_i, sU_r, sU_u, zws_i, zws_r, zws_l, zws_n, zCb_kc, xl_ll, xr_rr, xs_e, xset_e, Option.toList, List.cons_append, List.nil_append, zIb_e, zrng_e, nz_e, if_pos, if_neg, and_true, true_and, or_true, true_or, ite_self, bi_eq0, bi_eq1, bi_1, bi_0, bi_ir, bi_T, bi_F, up_eq, up_ne, ↓reduceIte, reduceIte, Nat.reduceAdd, Nat.reduceLeDiff, Nat.le_refl, Nat.zero_le, not_true_eq_false, not_false_eq_true, ne_eq, Int.reduceEq, Int.reduceLT, Int.reduceLE, Int.reduceAdd, Int.reduceSub, Int.reduceMul, Int.reduceNeg, pT hk]
      · skip
        by_cases q3 : s o 0 = 0
        · skip
          first
          | (exfalso; omega; done)
          | simp (disch := omega) only [↓u3_0, ↓u3_1, ↓u3_2, ↓u3_5, ↓u3_8, ↓u3_9, ↓u3_12, ↓u3_13, ↓u3_14, ↓u3_17, ↓u3_18, ↓u3_21, ↓u3_24, ↓u3_25, ↓u3_28, ↓u3_29, lI_0, lI_s, lL_0, lL_s, lR_0, lR_s, sT_0, sT_i, sT_r, sT_u, sT_lu, sU_0, sU_i, sU_r, sU_u, zws_i, zws_r, zws_l, zws_n, zCb_kc, xl_ll, xr_rr, xs_e, xset_e, Option.toList, List.cons_append, List.nil_append, zIb_e, zrng_e, nz_e, if_pos, if_neg, and_true, true_and, or_true, true_or, ite_self, bi_eq0, bi_eq1, bi_1, bi_0, bi_ir, bi_T, bi_F, up_eq, up_ne, ↓reduceIte, reduceIte, Nat.reduceAdd, Nat.reduceLeDiff, Nat.le_refl, Nat.zero_le, not_true_eq_false, not_false_eq_true, ne_eq, Int.reduceEq, Int.reduceLT, Int.reduceLE, Int.reduceAdd, Int.reduceSub, Int.reduceMul, Int.reduceNeg, pT hk]
        · skip
          first
          | (exfalso; omega; done)
          | simp (disch := omega) only [↓u3_0, ↓u3_1, ↓u3_2, ↓u3_5, ↓u3_8, ↓u3_9, ↓u3_12, ↓u3_13, ↓u3_14, ↓u3_17, ↓u3_18, ↓u3_21, ↓u3_24, ↓u3_25, ↓u3_28, ↓u3_29, lI_0, lI_s, lL_0, lL_s, lR_0, lR_s, sT_0, sT_i, sT_r, sT_u, sT_lu, sU_0, sU_i, sU_r, sU_u, zws_i, zws_r, zws_l, zws_n, zCb_kc, xl_ll, xr_rr, xs_e, xset_e, Option.toList, List.cons_append, List.nil_append, zIb_e, zrng_e, nz_e, if_pos, if_neg, and_true, true_and, or_true, true_or, ite_self, bi_eq0, bi_eq1, bi_1, bi_0, bi_ir, bi_T, bi_F, up_eq, up_ne, ↓reduceIte, reduceIte, Nat.reduceAdd, Nat.reduceLeDiff, Nat.le_refl, Nat.zero_le, not_true_eq_false, not_false_eq_true, ne_eq, Int.reduceEq, Int.reduceLT, Int.reduceLE, Int.reduceAdd, Int.reduceSub, Int.reduceMul, Int.reduceNeg, pT hk]
    · skip
      by_cases q2 : k = 1
      · skip
        by_cases q3 : s o 0 = 0
        · skip
          first
          | (exfalso; omega; done)
          | simp (disch := omega) only [↓u3_0, ↓u3_1, ↓u3_2, ↓u3_5, ↓u3_8, ↓u3_9, ↓u3_12, ↓u3_13, ↓u3_14, ↓u3_17, ↓u3_18, ↓u3_21, ↓u3_24, ↓u3_25, ↓u3_28, ↓u3_29, lI_0, lI_s, lL_0, lL_s, lR_0, lR_s, sT_0, sT_i, sT_r, sT_u, sT_lu, sU_0, sU_i, sU_r, sU_u, zws_i, zws_r, zws_l, zws_n, zCb_kc, xl_ll, xr_rr, xs_e, xset_e, Option.toList, List.cons_append, List.nil_append, zIb_e, zrng_e, nz_e, if_pos, if_neg, and_true, true_and, or_true, true_or, ite_self, bi_eq0, bi_eq1, bi_1, bi_0, bi_ir, bi_T, bi_F, up_eq, up_ne, ↓reduceIte, reduceIte, Nat.reduceAdd, Nat.reduceLeDiff, Nat.le_refl, Nat.zero_le, not_true_eq_false, not_false_eq_true, ne_eq, Int.reduceEq, Int.reduceLT, Int.reduceLE, Int.reduceAdd, Int.reduceSub, Int.reduceMul, Int.reduceNeg, pT hk]
        · skip
          first
          | (exfalso; omega; done)
          | simp (disch := omega) only [↓u3_0, ↓u3_1, ↓u3_2, ↓u3_5, ↓u3_8, ↓u3_9, ↓u3_12, ↓u3_13, ↓u3_14, ↓u3_17, ↓u3_18, ↓u3_21, ↓u3_24, ↓u3_25, ↓u3_28, ↓u3_29, lI_0, lI_s, lL_0, lL_s, lR_0, lR_s, sT_0, sT_i, sT_r, sT_u, sT_lu, sU_0, sU_i, sU_r, sU_u, zws_i, zws_r, zws_l, zws_n, zCb_kc, xl_ll, xr_rr, xs_e, xset_e, Option.toList, List.cons_append, List.nil_append, zIb_e, zrng_e, nz_e, if_pos, if_neg, and_true, true_and, or_true, true_or, ite_self, bi_eq0, bi_eq1, bi_1, bi_0, bi_ir, bi_T, bi_F, up_eq, up_ne, ↓reduceIte, reduceIte, Nat.reduceAdd, Nat.reduceLeDiff, Nat.le_refl, Nat.zero_le, not_true_eq_false, not_false_eq_true, ne_eq, Int.reduceEq, Int.reduceLT, Int.reduceLE, Int.reduceAdd, Int.reduceSub, Int.reduceMul, Int.reduceNeg, pT hk]
      · skip
        by_cases q3 : s o 0 = 0
        · skip
          first
          | (exfalso; omega; done)
          | simp (disch := omega) only [↓u3_0, ↓u3_1, ↓u3_2, ↓u3_5, ↓u3_8, ↓u3_9, ↓u3_12, ↓u3_13, ↓u3_14, ↓u3_17, ↓u3_18, ↓u3_21, ↓u3_24, ↓u3_25, ↓u3_28, ↓u3_29, lI_0, lI_s, lL_0, lL_s, lR_0, lR_s, sT_0, sT_i, sT_r, sT_u, sT_lu, sU_0, sU_i, sU_r, sU_u, zws_i, zws_r, zws_l, zws_n, zCb_kc, xl_ll, xr_rr, xs_e, xset_e, Option.toList, List.cons_append, List.nil_append, zIb_e, zrng_e, nz_e, if_pos, if_neg, and_true, true_and, or_true, true_or, ite_self, bi_eq0, bi_eq1, bi_1, bi_0, bi_ir, bi_T, bi_F, up_eq, up_ne, ↓reduceIte, reduceIte, Nat.reduceAdd, Nat.reduceLeDiff, Nat.le_refl, Nat.zero_le, not_true_eq_false, not_false_eq_true, ne_eq, Int.reduceEq, Int.reduceLT, Int.reduceLE, Int.reduceAdd, Int.reduceSub, Int.reduceMul, Int.reduceNeg, pT hk]
        · skip
          first
          | (exfalso; omega; done)
          | simp (disch := omega) only [↓u3_0, ↓u3_1, ↓u3_2, ↓u3_5, ↓u3_8, ↓u3_9, ↓u3_12, ↓u3_13, ↓u3_14, ↓u3_17, ↓u3_18, ↓u3_21, ↓u3_24, ↓u3_25, ↓u3_28, ↓u3_29, lI_0, lI_s, lL_0, lL_s, lR_0, lR_s, sT_0, sT_i, sT_r, sT_u, sT_lu, sU_0, sU_i, sU_r, sU_u, zws_i, zws_r, zws_l, zws_n, zCb_kc, xl_ll, xr_rr, xs_e, xset_e, Option.toList, List.cons_append, List.nil_append, zIb_e, zrng_e, nz_e, if_pos, if_neg, and_true, true_and, or_true, true_or, ite_self, bi_eq0, bi_eq1, bi_1, bi_0, bi_ir, bi_T, bi_F, up_eq, up_ne, ↓reduceIte, reduceIte, Nat.reduceAdd, Nat.reduceLeDiff, Nat.le_refl, Nat.zero_le, not_true_eq_false, not_false_eq_true, ne_eq, Int.reduceEq, Int.reduceLT, Int.reduceLE, Int.reduceAdd, Int.reduceSub, Int.reduceMul, Int.reduceNeg, pT hk]
  · skip
    by_cases q1 : k = 0
    · skip
      by_cases q2 : k = 1
      · skip
        by_cases q3 : s o 0 = 0
        · skip
          first
          | (exfalso; omega; done)
          | simp (disch := omega) only [↓u3_0, ↓u3_1, ↓u3_2, ↓u3_5, ↓u3_8, ↓u3_9, ↓u3_12, ↓u3_13, ↓u3_14, ↓u3_17, ↓u3_18, ↓u3_21, ↓u3_24, ↓u3_25, ↓u3_28, ↓u3_29, lI_0, lI_s, lL_0, lL_s, lR_0, lR_s, sT_0, sT_i, sT_r, sT_u, sT_lu, sU_0, sU_i, sU_r, sU_u, zws_i, zws_r, zws_l, zws_n, zCb_kc, xl_ll, xr_rr, xs_e, xset_e, Option.toList, List.cons_append, List.nil_append, zIb_e, zrng_e, nz_e, if_pos, if_neg, and_true, true_and, or_true, true_or, ite_self, bi_eq0, bi_eq1, bi_1, bi_0, bi_ir, bi_T, bi_F, up_eq, up_ne, ↓reduceIte, reduceIte, Nat.reduceAdd, Nat.reduceLeDiff, Nat.le_refl, Nat.zero_le, not_true_eq_false, not_false_eq_true, ne_eq, Int.reduceEq, Int.reduceLT, Int.reduceLE, Int.reduceAdd, Int.reduceSub, Int.reduceMul, Int.reduceNeg, pT hk]
        · skip
          first
          | (exfalso; omega; done)
          | simp (disch := omega) only [↓u3_0, ↓u3_1, ↓u3_2, ↓u3_5, ↓u3_8, ↓u3_9, ↓u3_12, ↓u3_13, ↓u3_14, ↓u3_17, ↓u3_18, ↓u3_21, ↓u3_24, ↓u3_25, ↓u3_28, ↓u3_29, lI_0, lI_s, lL_0, lL_s, lR_0, lR_s, sT_0, sT_i, sT_r, sT_u, sT_lu, sU_0, sU_i, sU_r, sU_u, zws_i, zws_r, zws_l, zws_n, zCb_kc, xl_ll, xr_rr, xs_e, xset_e, Option.toList, List.cons_append, List.nil_append, zIb_e, zrng_e, nz_e, if_pos, if_neg, and_true, true_and, or_true, true_or, ite_self, bi_eq0, bi_eq1, bi_1, bi_0, bi_ir, bi_T, bi_F, up_eq, up_ne, ↓reduceIte, reduceIte, Nat.reduceAdd, Nat.reduceLeDiff, Nat.le_refl, Nat.zero_le, not_true_eq_false, not_false_eq_true, ne_eq, Int.reduceEq, Int.reduceLT, Int.reduceLE, Int.reduceAdd, Int.reduceSub, Int.reduceMul, Int.reduceNeg, pT hk]
      · skip
        by_cases q3 : s o 0 = 0
        · skip
          first
          | (exfalso; omega; done)
          | simp (disch := omega) only [↓u3_0, ↓u3_1, ↓u3_2, ↓u3_5, ↓u3_8, ↓u3_9, ↓u3_12, ↓u3_13, ↓u3_14, ↓u3_17, ↓u3_18, ↓u3_21, ↓u3_24, ↓u3_25, ↓u3_28, ↓u3_29, lI_0, lI_s, lL_0, lL_s, lR_0, lR_s, sT_0, sT_i, sT_r, sT_u, sT_lu, sU_0, sU_i, sU_r, sU_u, zws_i, zws_r, zws_l, zws_n, zCb_kc, xl_ll, xr_rr, xs_e, xset_e, Option.toList, List.cons_append, List.nil_append, zIb_e, zrng_e, nz_e, if_pos, if_neg, and_true, true_and, or_true, true_or, ite_self, bi_eq0, bi_eq1, bi_1, bi_0, bi_ir, bi_T, bi_F, up_eq, up_ne, ↓reduceIte, reduceIte, Nat.reduceAdd, Nat.reduceLeDiff, Nat.le_refl, Nat.zero_le, not_true_eq_false, not_false_eq_true, ne_eq, Int.reduceEq, Int.reduceLT, Int.reduceLE, Int.reduceAdd, Int.reduceSub, Int.reduceMul, Int.reduceNeg, pT hk]
        · skip
          first
          | (exfalso; omega; done)
          | simp (disch := omega) only [↓u3_0, ↓u3_1, ↓u3_2, ↓u3_5, ↓u3_8, ↓u3_9, ↓u3_12, ↓u3_13, ↓u3_14, ↓u3_17, ↓u3_18, ↓u3_21, ↓u3_24, ↓u3_25, ↓u3_28, ↓u3_29, lI_0, lI_s, lL_0, lL_s, lR_0, lR_s, sT_0, sT_i, sT_r, sT_u, sT_lu, sU_0, sU_i, sU_r, sU_u, zws_i, zws_r, zws_l, zws_n, zCb_kc, xl_ll, xr_rr, xs_e, xset_e, Option.toList, List.cons_append, List.nil_append, zIb_e, zrng_e, nz_e, if_pos, if_neg, and_true, true_and, or_true, true_or, ite_self, bi_eq0, bi_eq1, bi_1, bi_0, bi_ir, bi_T, bi_F, up_eq, up_ne, ↓reduceIte, reduceIte, Nat.reduceAdd, Nat.reduceLeDiff, Nat.le_refl, Nat.zero_le, not_true_eq_false, not_false_eq_true, ne_eq, Int.reduceEq, Int.reduceLT, Int.reduceLE, Int.reduceAdd, Int.reduceSub, Int.reduceMul, Int.reduceNeg, pT hk]
    · skip
      by_cases q2 : k = 1
      · skip
        by_cases q3 : s o 0 = 0
        · skip
          first
          | (exfalso; omega; done)
          | simp (disch := omega) only [↓u3_0, ↓u3_1, ↓u3_2, ↓u3_5, ↓u3_8, ↓u3_9, ↓u3_12, ↓u3_13, ↓u3_14, ↓u3_17, ↓u3_18, ↓u3_21, ↓u3_24, ↓u3_25, ↓u3_28, ↓u3_29, lI_0, lI_s, lL_0, lL_s, lR_0, lR_s, sT_0, sT_i, sT_r, sT_u, sT_lu, sU_0, sU_i, sU_r, sU_u, zws_i, zws_r, zws_l, zws_n, zCb_kc, xl_ll, xr_rr, xs_e, xset_e, Option.toList, List.cons_append, List.nil_append, zIb_e, zrng_e, nz_e, if_pos, if_neg, and_true, true_and, or_true, true_or, ite_self, bi_eq0, bi_eq1, bi_1, bi_0, bi_ir, bi_T, bi_F, up_eq, up_ne, ↓reduceIte, reduceIte, Nat.reduceAdd, Nat.reduceLeDiff, Nat.le_refl, Nat.zero_le, not_true_eq_false, not_false_eq_true, ne_eq, Int.reduceEq, Int.reduceLT, Int.reduceLE, Int.reduceAdd, Int.reduceSub, Int.reduceMul, Int.reduceNeg, pT hk]
        · skip
          first
          | (exfalso; omega; done)
          | simp (disch := omega) only [↓u3_0, ↓u3_1, ↓u3_2, ↓u3_5, ↓u3_8, ↓u3_9, ↓u3_12, ↓u3_13, ↓u3_14, ↓u3_17, ↓u3_18, ↓u3_21, ↓u3_24, ↓u3_25, ↓u3_28, ↓u3_29, lI_0, lI_s, lL_0, lL_s, lR_0, lR_s, sT_0, sT_i, sT_r, sT_u, sT_lu, sU_0, sU_i, sU_r, sU_u, zws_i, zws_r, zws_l, zws_n, zCb_kc, xl_ll, xr_rr, xs_e, xset_e, Option.toList, List.cons_append, List.nil_append, zIb_e, zrng_e, nz_e, if_pos, if_neg, and_true, true_and, or_true, true_or, ite_self, bi_eq0, bi_eq1, bi_1, bi_0, bi_ir, bi_T, bi_F, up_eq, up_ne, ↓reduceIte, reduceIte, Nat.reduceAdd, Nat.reduceLeDiff, Nat.le_refl, Nat.zero_le, not_true_eq_false, not_false_eq_true, ne_eq, Int.reduceEq, Int.reduceLT, Int.reduceLE, Int.reduceAdd, Int.reduceSub, Int.reduceMul, Int.reduceNeg, pT hk]
      · skip
        by_cases q3 : s o 0 = 0
        · skip
          first
          | (exfalso; omega; done)
          | simp (disch := omega) only [↓u3_0, ↓u3_1, ↓u3_2, ↓u3_5, ↓u3_8, ↓u3_9, ↓u3_12, ↓u3_13, ↓u3_14, ↓u3_17, ↓u3_18, ↓u3_21, ↓u3_24, ↓u3_25, ↓u3_28, ↓u3_29, lI_0, lI_s, lL_0, lL_s, lR_0, lR_s, sT_0, sT_i, sT_r, sT_u, sT_lu, sU_0, sU_i, sU_r, sU_u, zws_i, zws_r, zws_l, zws_n, zCb_kc, xl_ll, xr_rr, xs_e, xset_e, Option.toList, List.cons_append, List.nil_append, zIb_e, zrng_e, nz_e, if_pos, if_neg, and_true, true_and, or_true, true_or, ite_self, bi_eq0, bi_eq1, bi_1, bi_0, bi_ir, bi_T, bi_F, up_eq, up_ne, ↓reduceIte, reduceIte, Nat.reduceAdd, Nat.reduceLeDiff, Nat.le_refl, Nat.zero_le, not_true_eq_false, not_false_eq_true, ne_eq, Int.reduceEq, Int.reduceLT, Int.reduceLE, Int.reduceAdd, Int.reduceSub, Int.reduceMul, Int.reduceNeg, pT hk]
        · skip
          first
          | (exfalso; omega; done)
          | simp (disch := omega) only [↓u3_0, ↓u3_1, ↓u3_2, ↓u3_5, ↓u3_8, ↓u3_9, ↓u3_12, ↓u3_13, ↓u3_14, ↓u3_17, ↓u3_18, ↓u3_21, ↓u3_24, ↓u3_25, ↓u3_28, ↓u3_29, lI_0, lI_s, lL_0, lL_s, lR_0, lR_s, sT_0, sT_i, sT_r, sT_u, sT_lu, sU_0, sU_i, sU_r, sU_u, zws_i, zws_r, zws_l, zws_n, zCb_kc, xl_ll, xr_rr, xs_e, xset_e, Option.toList, List.cons_append, List.nil_append, zIb_e, zrng_e, nz_e, if_pos, if_neg, and_true, true_and, or_true, true_or, ite_self, bi_eq0, bi_eq1, bi_1, bi_0, bi_ir, bi_T, bi_F, up_eq, up_ne, ↓reduceIte, reduceIte, Nat.reduceAdd, Nat.reduceLeDiff, Nat.le_refl, Nat.zero_le, not_true_eq_false, not_false_eq_true, ne_eq, Int.reduceEq, Int.reduceLT, Int.reduceLE, Int.reduceAdd, Int.reduceSub, Int.reduceMul, Int.reduceNeg, pT hk]
def bcm (s : ZS) (o k l x y w h : Int) : ZS := up (up (up (up (up (up (up (up (up s o 0 k) o 1 l) o 2 x) o 3 y) o 4 w) o 5 h) o 6 0) o 7 0) o 8 1
theorem bcm_ne {s : ZS} {o k l x y w h a c : Int} (q : a ≠ o) : bcm s o k l x y w h a c = s a c := by unfold bcm; simp (disch := omega) only [up_ne]
theorem bcm_0 {s : ZS} {o k l x y w h : Int} : bcm s o k l x y w h o 0 = k := by unfold bcm; simp (disch := omega) only [up_ne, up_eq]
theorem bcm_1 {s : ZS} {o k l x y w h : Int} : bcm s o k l x y w h o 1 = l := by unfold bcm; simp (disch := omega) only [up_ne, up_eq]
theorem bcm_2 {s : ZS} {o k l x y w h : Int} : bcm s o k l x y w h o 2 = x := by unfold bcm; simp (disch := omega) only [up_ne, up_eq]
theorem bcm_3 {s : ZS} {o k l x y w h : Int} : bcm s o k l x y w h o 3 = y := by unfold bcm; simp (disch := omega) only [up_ne, up_eq]
theorem bcm_4 {s : ZS} {o k l x y w h : Int} : bcm s o k l x y w h o 4 = w := by unfold bcm; simp (disch := omega) only [up_ne, up_eq]
theorem bcm_5 {s : ZS} {o k l x y w h : Int} : bcm s o k l x y w h o 5 = h := by unfold bcm; simp (disch := omega) only [up_ne, up_eq]
theorem bcm_6 {s : ZS} {o k l x y w h : Int} : bcm s o k l x y w h o 6 = 0 := by unfold bcm; simp (disch := omega) only [up_ne, up_eq]
theorem bcm_7 {s : ZS} {o k l x y w h : Int} : bcm s o k l x y w h o 7 = 0 := by unfold bcm; simp (disch := omega) only [up_ne, up_eq]
theorem bcm_8 {s : ZS} {o k l x y w h : Int} : bcm s o k l x y w h o 8 = 1 := by unfold bcm; simp (disch := omega) only [up_ne, up_eq]
theorem bcm_o {s : ZS} {o k l x y w h c : Int} (q : c < 0 ∨ 8 < c) : bcm s o k l x y w h o c = s o c := by unfold bcm; simp (disch := omega) only [up_ne]
theorem s1 {d : Nat} {Q : Option AV → XH → Prop} {G : XS} {s : ZS} {o k l x y w hh : Int} (hd : 1 ≤ d) (hk : kc G o 0) : Call d 1 [zrf o, zint k, zint l, zint x, zint y, zint w, zint hh] (G, s) Q = Q (none) (G, bcm s o k l x y w hh) := by
  rw [e1 (show 1 ≤ d by omega)]
  unfold bcm
  simp (disch := omega) only [↓u1_0, ↓u1_1, ↓u1_2, ↓u1_5, ↓u1_6, ↓u1_7, ↓u1_10, ↓u1_11, ↓u1_12, ↓u1_15, ↓u1_16, ↓u1_18, ↓u1_21, ↓u1_22, ↓u1_24, ↓u1_27, ↓u1_28, ↓u1_30, ↓u1_33, ↓u1_34, ↓u1_35, ↓u1_38, ↓u1_39, ↓u1_40, ↓u1_43, ↓u1_44, ↓u1_45, ↓u1_48, lI_0, lI_s, lL_0, lL_s, lR_0, lR_s, sT_0, sT_i, sT_r, sT_u, sT_lu, sU_0, sU_i, sU_r, sU_u, zws_i, zws_r, zws_l, zws_n, zCb_kc, xl_ll, xr_rr, xs_e, xset_e, Option.toList, List.cons_append, List.nil_append, zIb_e, zrng_e, nz_e, if_pos, if_neg, and_true, true_and, or_true, true_or, ite_self, bi_eq0, bi_eq1, bi_1, bi_0, bi_ir, bi_T, bi_F, up_eq, up_ne, ↓reduceIte, reduceIte, Nat.reduceAdd, Nat.reduceLeDiff, Nat.le_refl, Nat.zero_le, not_true_eq_false, not_false_eq_true, ne_eq, Int.reduceEq, Int.reduceLT, Int.reduceLE, Int.reduceAdd, Int.reduceSub, Int.reduceMul, Int.reduceNeg, pT hk]
/-- o's fields as p's -/
def cpb (s : ZS) (o p : Int) : ZS := fun a c => if a = o ∧ 0 ≤ c ∧ c < 9 then s p c else s a c
theorem cpb_e {s : ZS} {o p : Int} (h : p ≠ o) : up (up (up (bcm s o (s p 0) (s p 1) (s p 2) (s p 3) (s p 4) (s p 5)) o 6 (s p 6)) o 7 (s p 7)) o 8 (s p 8) = cpb s o p := by
  funext a c
  unfold cpb
  by_cases q : a = o ∧ 0 ≤ c ∧ c < 9
  · rw [if_pos q]
    obtain ⟨rfl, q1, q2⟩ := q
    rcases (show c = 0 ∨ c = 1 ∨ c = 2 ∨ c = 3 ∨ c = 4 ∨ c = 5 ∨ c = 6 ∨ c = 7 ∨ c = 8 by omega) with rfl | rfl | rfl | rfl | rfl | rfl | rfl | rfl | rfl <;> simp (disch := omega) only [up_ne, up_eq, bcm_0, bcm_1, bcm_2, bcm_3, bcm_4, bcm_5]
  · rw [if_neg q]
    by_cases e : a = o
    · subst e
      simp (disch := omega) only [up_ne, bcm_o]
    · simp (disch := omega) only [up_ne, bcm_ne]
theorem s2 {d : Nat} {Q : Option AV → XH → Prop} {G : XS} {s : ZS} {o p : Int} (hd : 2 ≤ d) (hk : kc G o 0) (hk2 : kc G p 0) (hn : p ≠ o) (h8 : 0 ≤ s p 8 ∧ s p 8 ≤ 1) : Call d 2 [zrf o, zrf p] (G, s) Q = Q (none) (G, cpb s o p) := by
  rw [e2 (show 1 ≤ d by omega)]
  rw [← cpb_e hn]
  have hz : s p 8 = 0 ∨ s p 8 = 1 := by omega
  simp (disch := omega) only [↓u2_0, ↓u2_1, ↓u2_2, ↓u2_5, ↓u2_6, ↓u2_9, ↓u2_10, ↓u2_13, ↓u2_14, ↓u2_17, ↓u2_18, ↓u2_21, ↓u2_22, ↓u2_25, ↓u2_28, ↓u2_29, ↓u2_30, ↓u2_33, ↓u2_36, ↓u2_37, ↓u2_38, ↓u2_41, ↓u2_44, ↓u2_45, ↓u2_46, ↓u2_49, ↓u2_52, lI_0, lI_s, lL_0, lL_s, lR_0, lR_s, sT_0, sT_i, sT_r, sT_u, sT_lu, sU_0, sU_i, sU_r, sU_u, zws_i, zws_r, zws_l, zws_n, zCb_kc, xl_ll, xr_rr, xs_e, xset_e, Option.toList, List.cons_append, List.nil_append, zIb_e, zrng_e, nz_e, if_pos, if_neg, and_true, true_and, or_true, true_or, ite_self, bi_eq0, bi_eq1, bi_1, bi_0, bi_ir, bi_T, bi_F, up_eq, up_ne, ↓reduceIte, reduceIte, Nat.reduceAdd, Nat.reduceLeDiff, Nat.le_refl, Nat.zero_le, not_true_eq_false, not_false_eq_true, ne_eq, Int.reduceEq, Int.reduceLT, Int.reduceLE, Int.reduceAdd, Int.reduceSub, Int.reduceMul, Int.reduceNeg, pT hk, pT hk2, s1, bcm_ne, pT hz]
def stv (k p z v : Int) : Int := if k = 3 then (p + v) % (129 - z) else if k = 0 then p else max 0 (min (128 - z) (p + v))
def stw (k p z v : Int) : Int := if k = 2 ∧ ¬(0 ≤ p + v ∧ p + v ≤ 128 - z) then -v else v
def stp (B : ZS) (i f : Int) : Int := if f = 2 then stv (B i 0) (B i 2) (B i 4) (B i 6) else if f = 3 then stv (B i 0) (B i 3) (B i 5) (B i 7) else if f = 6 then stw (B i 0) (B i 2) (B i 4) (B i 6) else if f = 7 then stw (B i 0) (B i 3) (B i 5) (B i 7) else B i f
def stc (s : ZS) (o : Int) : ZS := fun a c => if a = o then stp s o c else s a c
theorem stv_3 {k p z v : Int} (h : k = 3) : stv k p z v = (p + v) % (129 - z) := by unfold stv; rw [if_pos h]
theorem stv_0 {k p z v : Int} (h : k = 0) : stv k p z v = p := by unfold stv; rw [if_neg (by omega), if_pos h]
theorem stv_m {k p z v : Int} (h : k = 1 ∨ k = 2) : stv k p z v = max 0 (min (128 - z) (p + v)) := by unfold stv; rw [if_neg (by omega), if_neg (by omega)]
theorem stw_1 {k p z v : Int} (h : k = 2 ∧ ¬(0 ≤ p + v ∧ p + v ≤ 128 - z)) : stw k p z v = -v := by unfold stw; rw [if_pos h]
theorem stw_0 {k p z v : Int} (h : ¬(k = 2 ∧ ¬(0 ≤ p + v ∧ p + v ≤ 128 - z))) : stw k p z v = v := by unfold stw; rw [if_neg h]
theorem stp_2 {B : ZS} {i : Int} : stp B i 2 = stv (B i 0) (B i 2) (B i 4) (B i 6) := rfl
theorem stp_3 {B : ZS} {i : Int} : stp B i 3 = stv (B i 0) (B i 3) (B i 5) (B i 7) := rfl
theorem stp_6 {B : ZS} {i : Int} : stp B i 6 = stw (B i 0) (B i 2) (B i 4) (B i 6) := rfl
theorem stp_7 {B : ZS} {i : Int} : stp B i 7 = stw (B i 0) (B i 3) (B i 5) (B i 7) := rfl
theorem stp_o {B : ZS} {i f : Int} (h : f ≠ 2 ∧ f ≠ 3 ∧ f ≠ 6 ∧ f ≠ 7) : stp B i f = B i f := by unfold stp; rw [if_neg h.1, if_neg h.2.1, if_neg h.2.2.1, if_neg h.2.2.2]
theorem stc_e {s s' : ZS} {o : Int} (h2 : s' o 2 = stp s o 2) (h3 : s' o 3 = stp s o 3) (h6 : s' o 6 = stp s o 6) (h7 : s' o 7 = stp s o 7) (h : ∀ a c, a ≠ o ∨ (c ≠ 2 ∧ c ≠ 3 ∧ c ≠ 6 ∧ c ≠ 7) → s' a c = s a c) : s' = stc s o := by
  funext a c
  unfold stc
  by_cases q : a = o
  · rw [if_pos q]
    subst q
    by_cases e2 : c = 2
    · rw [e2]; exact h2
    by_cases e3 : c = 3
    · rw [e3]; exact h3
    by_cases e6 : c = 6
    · rw [e6]; exact h6
    by_cases e7 : c = 7
    · rw [e7]; exact h7
    rw [stp_o ⟨e2, e3, e6, e7⟩]
    exact h a c (Or.inr ⟨e2, e3, e6, e7⟩)
  · rw [if_neg q]
    exact h a c (Or.inl q)
