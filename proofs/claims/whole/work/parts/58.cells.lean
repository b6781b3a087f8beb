/-! the constructors: instructions that make arrays -/
section ZV
variable {d m pc : Nat} {len : Nat} {L S : List AV} {h : XH} {Q : Option AV → XH → Prop}
set_option maxRecDepth 8000 in
theorem vb_ni {k : Int} (hi : zzins m pc = some (.newarray .int, len)) (hl : zln (.newarray .int) = len) : Wp d m (pc, L, zint k :: S, h) Q = ((zrng k 100000 = true ∧ xn h < 900000) ∧ Wp d m (pc + 2, L, zrf (xn h) :: S, xnew h 7 k k.toNat) Q) := wp_if hi (Or.inr hl) (b := zrng k 100000 && decide (xn h < 900000)) rfl (by simp)
set_option maxRecDepth 8000 in
theorem vb_nj {k : Int} (hi : zzins m pc = some (.newarray .long, len)) (hl : zln (.newarray .long) = len) : Wp d m (pc, L, zint k :: S, h) Q = ((zrng k 100000 = true ∧ xn h < 900000) ∧ Wp d m (pc + 2, L, zrf (xn h) :: S, xnew h 8 k k.toNat) Q) := wp_if hi (Or.inr hl) (b := zrng k 100000 && decide (xn h < 900000)) rfl (by simp)
set_option maxRecDepth 8000 in
theorem vb_nb {k : Int} (hi : zzins m pc = some (.newarray .byte, len)) (hl : zln (.newarray .byte) = len) : Wp d m (pc, L, zint k :: S, h) Q = ((zrng k 100000 = true ∧ xn h < 900000) ∧ Wp d m (pc + 2, L, zrf (xn h) :: S, xnew h 9 k k.toNat) Q) := wp_if hi (Or.inr hl) (b := zrng k 100000 && decide (xn h < 900000)) rfl (by simp)
set_option maxRecDepth 8000 in
theorem vb_a0 {x p1 p2 p3 : Nat} {k : Int} (hi : zzins m pc = some (.anewarray x, len)) (hl : zln (.anewarray x) = len) (hv : zzlu zzC (zzown m) x = some (0, p1, p2, p3)) : Wp d m (pc, L, zint k :: S, h) Q = ((zrng k 100000 = true ∧ xn h < 900000) ∧ Wp d m (pc + 3, L, zrf (xn h) :: S, xnew h 10 k k.toNat) Q) := wp_if hi (Or.inr hl) (b := zrng k 100000 && decide (xn h < 900000)) (by simp only [zop, zlk2, hv]; rfl) (by simp)
set_option maxRecDepth 8000 in
theorem vb_a3 {x p1 p2 p3 : Nat} {k : Int} (hi : zzins m pc = some (.anewarray x, len)) (hl : zln (.anewarray x) = len) (hv : zzlu zzC (zzown m) x = some (3, p1, p2, p3)) : Wp d m (pc, L, zint k :: S, h) Q = ((zrng k 100000 = true ∧ xn h < 900000) ∧ Wp d m (pc + 3, L, zrf (xn h) :: S, xnew h 11 k k.toNat) Q) := wp_if hi (Or.inr hl) (b := zrng k 100000 && decide (xn h < 900000)) (by simp only [zop, zlk2, hv]; rfl) (by simp)
set_option maxRecDepth 8000 in
theorem vb_mu {x kd p1 : Nat} {j k : Int} (hi : zzins m pc = some (.multianewarray x 2, len)) (hl : zln (.multianewarray x 2) = len) (hv : zzlu zzC2 (zzown m) x = some (kd, p1)) : Wp d m (pc, L, zint k :: zint j :: S, h) Q = (((zrng k 1000 = true ∧ zrng j 1000 = true) ∧ xn h < 900000) ∧ Wp d m (pc + 4, L, zrf (xn h) :: S, xmul h kd j k) Q) := wp_if hi (Or.inr hl) (b := zrng k 1000 && zrng j 1000 && decide (xn h < 900000) && decide (2 = 2)) (by simp only [zop, zlk2, hv]; rfl) (by simp)
set_option maxRecDepth 8000 in
theorem vb_as {a i y : Int} (hi : zzins m pc = some (.aastore, len)) (hl : zln .aastore = len) : Wp d m (pc, L, zrf y :: zint i :: zrf a :: S, h) Q = (((((zCb h a 10 = true ∧ zCb h y 0 = true) ∨ (zCb h a 11 = true ∧ zCb h y 3 = true)) ∧ zrng i (xl h a) = true) ∧ zIb (xl h a) = true) ∧ Wp d m (pc + 1, L, S, xref h a i y) Q) := wp_if hi (Or.inr hl) (b := ((zCb h a 10 && zCb h y 0) || (zCb h a 11 && zCb h y 3)) && zrng i (xl h a) && zIb (xl h a)) rfl (by simp)
end ZV
set_option maxRecDepth 8000 in
theorem v34_7 {d : Nat} {L S : List AV} {h : XH} {Q : Option AV → XH → Prop} {k : Int} : Wp d 34 (7, L, zint k :: S, h) Q = ((zrng k 100000 = true ∧ xn h < 900000) ∧ Wp d 34 (10, L, zrf (xn h) :: S, xnew h 10 k k.toNat) Q) := vb_a0 (show zzins 34 7 = some (.anewarray 9, 3) by decide +kernel) rfl (p1 := 72) (p2 := 74) (p3 := 50) (show zzlu zzC (zzown 34) 9 = some (0, 72, 74, 50) by decide +kernel)
set_option maxRecDepth 8000 in
theorem v34_33 {d : Nat} {L S : List AV} {h : XH} {Q : Option AV → XH → Prop} {a i y : Int} : Wp d 34 (33, L, zrf y :: zint i :: zrf a :: S, h) Q = (((((zCb h a 10 = true ∧ zCb h y 0 = true) ∨ (zCb h a 11 = true ∧ zCb h y 3 = true)) ∧ zrng i (xl h a) = true) ∧ zIb (xl h a) = true) ∧ Wp d 34 (34, L, S, xref h a i y) Q) := vb_as (show zzins 34 33 = some (.aastore, 1) by decide +kernel) rfl
set_option maxRecDepth 8000 in
theorem v34_44 {d : Nat} {L S : List AV} {h : XH} {Q : Option AV → XH → Prop} {k : Int} : Wp d 34 (44, L, zint k :: S, h) Q = ((zrng k 100000 = true ∧ xn h < 900000) ∧ Wp d 34 (46, L, zrf (xn h) :: S, xnew h 7 k k.toNat) Q) := vb_ni (show zzins 34 44 = some (.newarray .int, 2) by decide +kernel) rfl
set_option maxRecDepth 8000 in
theorem v26_13 {d : Nat} {L S : List AV} {h : XH} {Q : Option AV → XH → Prop} {k : Int} : Wp d 26 (13, L, zint k :: S, h) Q = ((zrng k 100000 = true ∧ xn h < 900000) ∧ Wp d 26 (15, L, zrf (xn h) :: S, xnew h 7 k k.toNat) Q) := vb_ni (show zzins 26 13 = some (.newarray .int, 2) by decide +kernel) rfl
set_option maxRecDepth 8000 in
theorem v31_7 {d : Nat} {L S : List AV} {h : XH} {Q : Option AV → XH → Prop} {k : Int} : Wp d 31 (7, L, zint k :: S, h) Q = ((zrng k 100000 = true ∧ xn h < 900000) ∧ Wp d 31 (9, L, zrf (xn h) :: S, xnew h 8 k k.toNat) Q) := vb_nj (show zzins 31 7 = some (.newarray .long, 2) by decide +kernel) rfl
set_option maxRecDepth 8000 in
theorem v15_7 {d : Nat} {L S : List AV} {h : XH} {Q : Option AV → XH → Prop} {k : Int} : Wp d 15 (7, L, zint k :: S, h) Q = ((zrng k 100000 = true ∧ xn h < 900000) ∧ Wp d 15 (9, L, zrf (xn h) :: S, xnew h 9 k k.toNat) Q) := vb_nb (show zzins 15 7 = some (.newarray .byte, 2) by decide +kernel) rfl
set_option maxRecDepth 8000 in
theorem v15_17 {d : Nat} {L S : List AV} {h : XH} {Q : Option AV → XH → Prop} {j k : Int} : Wp d 15 (17, L, zint k :: zint j :: S, h) Q = (((zrng k 1000 = true ∧ zrng j 1000 = true) ∧ xn h < 900000) ∧ Wp d 15 (21, L, zrf (xn h) :: S, xmul h 7 j k) Q) := vb_mu (show zzins 15 17 = some (.multianewarray 15 2, 4) by decide +kernel) rfl (p1 := 176) (show zzlu zzC2 (zzown 15) 15 = some (7, 176) by decide +kernel)
set_option maxRecDepth 8000 in
theorem v61_56 {d : Nat} {L S : List AV} {h : XH} {Q : Option AV → XH → Prop} {k : Int} : Wp d 61 (56, L, zint k :: S, h) Q = ((zrng k 100000 = true ∧ xn h < 900000) ∧ Wp d 61 (59, L, zrf (xn h) :: S, xnew h 11 k k.toNat) Q) := vb_a3 (show zzins 61 56 = some (.anewarray 35, 3) by decide +kernel) rfl (p1 := 201) (p2 := 203) (p3 := 53) (show zzlu zzC (zzown 61) 35 = some (3, 201, 203, 53) by decide +kernel)
set_option maxRecDepth 8000 in
theorem v61_82 {d : Nat} {L S : List AV} {h : XH} {Q : Option AV → XH → Prop} {a i y : Int} : Wp d 61 (82, L, zrf y :: zint i :: zrf a :: S, h) Q = (((((zCb h a 10 = true ∧ zCb h y 0 = true) ∨ (zCb h a 11 = true ∧ zCb h y 3 = true)) ∧ zrng i (xl h a) = true) ∧ zIb (xl h a) = true) ∧ Wp d 61 (83, L, S, xref h a i y) Q) := vb_as (show zzins 61 82 = some (.aastore, 1) by decide +kernel) rfl
set_option maxRecDepth 8000 in
theorem v110_8 {d : Nat} {L S : List AV} {h : XH} {Q : Option AV → XH → Prop} {k : Int} : Wp d 110 (8, L, zint k :: S, h) Q = ((zrng k 100000 = true ∧ xn h < 900000) ∧ Wp d 110 (10, L, zrf (xn h) :: S, xnew h 7 k k.toNat) Q) := vb_ni (show zzins 110 8 = some (.newarray .int, 2) by decide +kernel) rfl
set_option maxRecDepth 8000 in
theorem v110_17 {d : Nat} {L S : List AV} {h : XH} {Q : Option AV → XH → Prop} {k : Int} : Wp d 110 (17, L, zint k :: S, h) Q = ((zrng k 100000 = true ∧ xn h < 900000) ∧ Wp d 110 (19, L, zrf (xn h) :: S, xnew h 7 k k.toNat) Q) := vb_ni (show zzins 110 17 = some (.newarray .int, 2) by decide +kernel) rfl
set_option maxRecDepth 8000 in
theorem v110_26 {d : Nat} {L S : List AV} {h : XH} {Q : Option AV → XH → Prop} {k : Int} : Wp d 110 (26, L, zint k :: S, h) Q = ((zrng k 100000 = true ∧ xn h < 900000) ∧ Wp d 110 (28, L, zrf (xn h) :: S, xnew h 7 k k.toNat) Q) := vb_ni (show zzins 110 26 = some (.newarray .int, 2) by decide +kernel) rfl
set_option maxRecDepth 8000 in
theorem v110_34 {d : Nat} {L S : List AV} {h : XH} {Q : Option AV → XH → Prop} {k : Int} : Wp d 110 (34, L, zint k :: S, h) Q = ((zrng k 100000 = true ∧ xn h < 900000) ∧ Wp d 110 (36, L, zrf (xn h) :: S, xnew h 7 k k.toNat) Q) := vb_ni (show zzins 110 34 = some (.newarray .int, 2) by decide +kernel) rfl
set_option maxRecDepth 8000 in
theorem v110_42 {d : Nat} {L S : List AV} {h : XH} {Q : Option AV → XH → Prop} {k : Int} : Wp d 110 (42, L, zint k :: S, h) Q = ((zrng k 100000 = true ∧ xn h < 900000) ∧ Wp d 110 (44, L, zrf (xn h) :: S, xnew h 7 k k.toNat) Q) := vb_ni (show zzins 110 42 = some (.newarray .int, 2) by decide +kernel) rfl
set_option maxRecDepth 8000 in
theorem v110_50 {d : Nat} {L S : List AV} {h : XH} {Q : Option AV → XH → Prop} {k : Int} : Wp d 110 (50, L, zint k :: S, h) Q = ((zrng k 100000 = true ∧ xn h < 900000) ∧ Wp d 110 (52, L, zrf (xn h) :: S, xnew h 7 k k.toNat) Q) := vb_ni (show zzins 110 50 = some (.newarray .int, 2) by decide +kernel) rfl
set_option maxRecDepth 8000 in
theorem v110_78 {d : Nat} {L S : List AV} {h : XH} {Q : Option AV → XH → Prop} {k : Int} : Wp d 110 (78, L, zint k :: S, h) Q = ((zrng k 100000 = true ∧ xn h < 900000) ∧ Wp d 110 (80, L, zrf (xn h) :: S, xnew h 7 k k.toNat) Q) := vb_ni (show zzins 110 78 = some (.newarray .int, 2) by decide +kernel) rfl
set_option maxRecDepth 8000 in
theorem v110_87 {d : Nat} {L S : List AV} {h : XH} {Q : Option AV → XH → Prop} {k : Int} : Wp d 110 (87, L, zint k :: S, h) Q = ((zrng k 100000 = true ∧ xn h < 900000) ∧ Wp d 110 (89, L, zrf (xn h) :: S, xnew h 7 k k.toNat) Q) := vb_ni (show zzins 110 87 = some (.newarray .int, 2) by decide +kernel) rfl
set_option maxRecDepth 8000 in
theorem v110_70 {d : Nat} {L S : List AV} {h : XH} {Q : Option AV → XH → Prop} {k : Int} : Wp d 110 (70, L, zint k :: S, h) Q = ((zrng k 100000 = true ∧ xn h < 900000) ∧ Wp d 110 (72, L, zrf (xn h) :: S, xnew h 8 k k.toNat) Q) := vb_nj (show zzins 110 70 = some (.newarray .long, 2) by decide +kernel) rfl
set_option maxRecDepth 8000 in
theorem v110_60 {d : Nat} {L S : List AV} {h : XH} {Q : Option AV → XH → Prop} {j k : Int} : Wp d 110 (60, L, zint k :: zint j :: S, h) Q = (((zrng k 1000 = true ∧ zrng j 1000 = true) ∧ xn h < 900000) ∧ Wp d 110 (64, L, zrf (xn h) :: S, xmul h 8 j k) Q) := vb_mu (show zzins 110 60 = some (.multianewarray 30 2, 4) by decide +kernel) rfl (p1 := 692) (show zzlu zzC2 (zzown 110) 30 = some (8, 692) by decide +kernel)
/-! cells that come -/
def nG (G : XS) (kd : Nat) (sz : Int) (sl : Nat) : XS := ((G.1.1 + 1, G.1.2 + sl), (fun o => if o = (G.1.1 : Int) then kd else G.2.1 o), (fun o => if o = (G.1.1 : Int) then sz else G.2.2.1 o), fun o j => if o = (G.1.1 : Int) then -1 else G.2.2.2 o j)
def nS (s : ZS) (n : Int) : ZS := fun o j => if o = n then 0 else s o j
def rG (G : XS) (o j v : Int) : XS := ((G.1.1, G.1.2), G.2.1, G.2.2.1, up G.2.2.2 o j v)
def mG (G : XS) (kd : Nat) (j k : Int) : XS := (((G.1.1 + (1 + j.toNat)), (G.1.2 + (j.toNat + j.toNat * k.toNat))), (fun o => if o = (G.1.1 : Int) then kd + 5 else if (G.1.1 : Int) < o ∧ o ≤ (G.1.1 : Int) + j then kd else G.2.1 o), (fun o => if o = (G.1.1 : Int) then j else if (G.1.1 : Int) < o ∧ o ≤ (G.1.1 : Int) + j then k else G.2.2.1 o), fun o i => if o = (G.1.1 : Int) then (if 0 ≤ i ∧ i < j then (G.1.1 : Int) + 1 + i else -1) else if (G.1.1 : Int) < o ∧ o ≤ (G.1.1 : Int) + j then -1 else G.2.2.2 o i)
def mS (s : ZS) (n j : Int) : ZS := fun o i => if n ≤ o ∧ o ≤ n + j then 0 else s o i
set_option maxRecDepth 8000 in
theorem xnew_e {G : XS} {s : ZS} {kd sl : Nat} {sz : Int} : xnew (G, s) kd sz sl = (nG G kd sz sl, nS s (G.1.1 : Int)) := rfl
set_option maxRecDepth 8000 in
theorem xref_e {G : XS} {s : ZS} {o j v : Int} : xref (G, s) o j v = (rG G o j v, s) := rfl
set_option maxRecDepth 8000 in
theorem xmul_e {G : XS} {s : ZS} {kd : Nat} {j k : Int} : xmul (G, s) kd j k = (mG G kd j k, mS s (G.1.1 : Int) j) := rfl
set_option maxRecDepth 8000 in
theorem xn_e {G : XS} {s : ZS} : xn (G, s) = G.1.1 := rfl
set_option maxRecDepth 8000 in
theorem nG_n {G : XS} {kd sl : Nat} {sz : Int} : (nG G kd sz sl).1.1 = G.1.1 + 1 := rfl
set_option maxRecDepth 8000 in
theorem rG_n {G : XS} {o j v : Int} : (rG G o j v).1.1 = G.1.1 := rfl
set_option maxRecDepth 8000 in
theorem mG_n {G : XS} {kd : Nat} {j k : Int} : (mG G kd j k).1.1 = G.1.1 + (1 + j.toNat) := rfl
set_option maxRecDepth 8000 in
theorem nG_z {G : XS} {kd sl : Nat} {sz : Int} : (nG G kd sz sl).1.2 = G.1.2 + sl := rfl
set_option maxRecDepth 8000 in
theorem rG_z {G : XS} {o j v : Int} : (rG G o j v).1.2 = G.1.2 := rfl
set_option maxRecDepth 8000 in
theorem mG_z {G : XS} {kd : Nat} {j k : Int} : (mG G kd j k).1.2 = G.1.2 + (j.toNat + j.toNat * k.toNat) := rfl
/-! kinds -/
set_option maxRecDepth 8000 in
theorem kd_rG {G : XS} {o j v a : Int} : (rG G o j v).2.1 a = G.2.1 a := rfl
set_option maxRecDepth 8000 in
theorem kd_nG {G : XS} {kd sl : Nat} {sz a : Int} (h : a ≠ (G.1.1 : Int)) : (nG G kd sz sl).2.1 a = G.2.1 a := if_neg h
set_option maxRecDepth 8000 in
theorem kd_mG {G : XS} {kd : Nat} {j k a : Int} (h : a < (G.1.1 : Int) ∨ (G.1.1 : Int) + j < a) (hj : 0 ≤ j) : (mG G kd j k).2.1 a = G.2.1 a := by
  show (if a = (G.1.1 : Int) then kd + 5 else if (G.1.1 : Int) < a ∧ a ≤ (G.1.1 : Int) + j then kd else G.2.1 a) = _
  rw [if_neg (by omega), if_neg (by omega)]
set_option maxRecDepth 8000 in
theorem kc_rG {G : XS} {o j v a : Int} {k : Nat} : kc (rG G o j v) a k = kc G a k := rfl
set_option maxRecDepth 8000 in
theorem kc_nG {G : XS} {kd sl k : Nat} {sz a : Int} (h : a < (G.1.1 : Int)) : kc (nG G kd sz sl) a k = kc G a k := by
  unfold kc
  rw [kd_nG (by omega), nG_n]
  exact propext ⟨fun q => ⟨q.1, h, q.2.2⟩, fun q => ⟨q.1, by omega, q.2.2⟩⟩
set_option maxRecDepth 8000 in
theorem kc_nGy {G : XS} {kd sl : Nat} {sz a : Int} (h : a = (G.1.1 : Int)) : kc (nG G kd sz sl) a kd := ⟨by omega, by rw [nG_n]; omega, if_pos h⟩
set_option maxRecDepth 8000 in
theorem kc_mG {G : XS} {kd k2 : Nat} {j k a : Int} (h : a < (G.1.1 : Int)) (hj : 0 ≤ j) : kc (mG G kd j k) a k2 = kc G a k2 := by
  unfold kc
  rw [kd_mG (by omega) hj, mG_n]
  exact propext ⟨fun q => ⟨q.1, h, q.2.2⟩, fun q => ⟨q.1, by omega, q.2.2⟩⟩
set_option maxRecDepth 8000 in
theorem kc_mGy {G : XS} {kd : Nat} {j k a : Int} (h : a = (G.1.1 : Int)) : kc (mG G kd j k) a (kd + 5) := ⟨by omega, by rw [mG_n]; omega, if_pos h⟩
set_option maxRecDepth 8000 in
theorem kc_mGi {G : XS} {kd : Nat} {j k a : Int} (h : (G.1.1 : Int) < a ∧ a ≤ (G.1.1 : Int) + j) : kc (mG G kd j k) a kd := by
  refine ⟨by omega, by rw [mG_n]; omega, ?_⟩
  show (if a = (G.1.1 : Int) then kd + 5 else if (G.1.1 : Int) < a ∧ a ≤ (G.1.1 : Int) + j then kd else G.2.1 a) = _
  rw [if_neg (by omega), if_pos h]
/-! sizes -/
set_option maxRecDepth 8000 in
theorem ll_rG {G : XS} {o j v a : Int} : ll (rG G o j v) a = ll G a := rfl
set_option maxRecDepth 8000 in
theorem ll_nG {G : XS} {kd sl : Nat} {sz a : Int} (h : a ≠ (G.1.1 : Int)) : ll (nG G kd sz sl) a = ll G a := if_neg h
set_option maxRecDepth 8000 in
theorem ll_nGy {G : XS} {kd sl : Nat} {sz a : Int} (h : a = (G.1.1 : Int)) : ll (nG G kd sz sl) a = sz := if_pos h
set_option maxRecDepth 8000 in
theorem ll_mG {G : XS} {kd : Nat} {j k a : Int} (h : a < (G.1.1 : Int) ∨ (G.1.1 : Int) + j < a) (hj : 0 ≤ j) : ll (mG G kd j k) a = ll G a := by
  show (if a = (G.1.1 : Int) then j else if (G.1.1 : Int) < a ∧ a ≤ (G.1.1 : Int) + j then k else G.2.2.1 a) = _
  rw [if_neg (by omega), if_neg (by omega)]
  rfl
set_option maxRecDepth 8000 in
theorem ll_mGy {G : XS} {kd : Nat} {j k a : Int} (h : a = (G.1.1 : Int)) : ll (mG G kd j k) a = j := if_pos h
set_option maxRecDepth 8000 in
theorem ll_mGi {G : XS} {kd : Nat} {j k a : Int} (h : (G.1.1 : Int) < a ∧ a ≤ (G.1.1 : Int) + j) : ll (mG G kd j k) a = k := by
  show (if a = (G.1.1 : Int) then j else if (G.1.1 : Int) < a ∧ a ≤ (G.1.1 : Int) + j then k else G.2.2.1 a) = _
  rw [if_neg (by omega), if_pos h]
/-! references -/
set_option maxRecDepth 8000 in
theorem rr_rGy {G : XS} {o j v a i : Int} (h : a = o ∧ i = j) : rr (rG G o j v) a i = v := if_pos h
set_option maxRecDepth 8000 in
theorem rr_rG {G : XS} {o j v a i : Int} (h : a ≠ o ∨ i ≠ j) : rr (rG G o j v) a i = rr G a i := up_ne h
set_option maxRecDepth 8000 in
theorem rr_nG {G : XS} {kd sl : Nat} {sz a i : Int} (h : a ≠ (G.1.1 : Int)) : rr (nG G kd sz sl) a i = rr G a i := if_neg h
set_option maxRecDepth 8000 in
theorem rr_mG {G : XS} {kd : Nat} {j k a i : Int} (h : a < (G.1.1 : Int) ∨ (G.1.1 : Int) + j < a) (hj : 0 ≤ j) : rr (mG G kd j k) a i = rr G a i := by
  show (if a = (G.1.1 : Int) then (if 0 ≤ i ∧ i < j then (G.1.1 : Int) + 1 + i else -1) else if (G.1.1 : Int) < a ∧ a ≤ (G.1.1 : Int) + j then -1 else G.2.2.2 a i) = _
  rw [if_neg (by omega), if_neg (by omega)]
  rfl
set_option maxRecDepth 8000 in
theorem rr_mGy {G : XS} {kd : Nat} {j k a i : Int} (h : a = (G.1.1 : Int)) (hi : 0 ≤ i ∧ i < j) : rr (mG G kd j k) a i = (G.1.1 : Int) + 1 + i := by
  show (if a = (G.1.1 : Int) then (if 0 ≤ i ∧ i < j then (G.1.1 : Int) + 1 + i else -1) else if (G.1.1 : Int) < a ∧ a ≤ (G.1.1 : Int) + j then -1 else G.2.2.2 a i) = _
  rw [if_pos h, if_pos hi]
/-! numbers -/
set_option maxRecDepth 8000 in
theorem nS_n {s : ZS} {n a i : Int} (h : a ≠ n) : nS s n a i = s a i := if_neg h
set_option maxRecDepth 8000 in
theorem nS_y {s : ZS} {n a i : Int} (h : a = n) : nS s n a i = 0 := if_pos h
set_option maxRecDepth 8000 in
theorem mS_n {s : ZS} {n j a i : Int} (h : a < n ∨ n + j < a) : mS s n j a i = s a i := if_neg (by omega)
set_option maxRecDepth 8000 in
theorem mS_y {s : ZS} {n j a i : Int} (h : n ≤ a ∧ a ≤ n + j) : mS s n j a i = 0 := if_pos h
/-! one cell as it was -/
def SM (G : XS) (s : ZS) (G2 : XS) (s2 : ZS) (a : Int) : Prop := G2.2.1 a = G.2.1 a ∧ ll G2 a = ll G a ∧ (∀ j, rr G2 a j = rr G a j) ∧ ∀ j, s2 a j = s a j
set_option maxRecDepth 8000 in
theorem SM_t {G : XS} {s : ZS} {G2 : XS} {s2 : ZS} {G3 : XS} {s3 : ZS} {a : Int} (h1 : SM G s G2 s2 a) (h2 : SM G2 s2 G3 s3 a) : SM G s G3 s3 a := ⟨h2.1.trans h1.1, h2.2.1.trans h1.2.1, fun j => (h2.2.2.1 j).trans (h1.2.2.1 j), fun j => (h2.2.2.2 j).trans (h1.2.2.2 j)⟩
set_option maxRecDepth 8000 in
theorem SM_n {G : XS} {s : ZS} {kd sl : Nat} {sz a : Int} (h : a ≠ (G.1.1 : Int)) : SM G s (nG G kd sz sl) (nS s (G.1.1 : Int)) a := ⟨kd_nG h, ll_nG h, fun j => rr_nG h, fun j => nS_n h⟩
set_option maxRecDepth 8000 in
theorem SM_r {G : XS} {s : ZS} {o j v a : Int} (h : a ≠ o) : SM G s (rG G o j v) s a := ⟨rfl, rfl, fun i => rr_rG (Or.inl h), fun i => rfl⟩
set_option maxRecDepth 8000 in
theorem SM_u {G : XS} {s : ZS} {o j v a : Int} (h : a ≠ o) : SM G s G (up s o j v) a := ⟨rfl, rfl, fun i => rfl, fun i => up_ne (Or.inl h)⟩
set_option maxRecDepth 8000 in
theorem SM_m {G : XS} {s : ZS} {kd : Nat} {j k a : Int} (h : a < (G.1.1 : Int) ∨ (G.1.1 : Int) + j < a) (hj : 0 ≤ j) : SM G s (mG G kd j k) (mS s (G.1.1 : Int) j) a := ⟨kd_mG h hj, ll_mG h hj, fun i => rr_mG h hj, fun i => mS_n h⟩
set_option maxRecDepth 8000 in
theorem SM_k {G : XS} {s : ZS} {G2 : XS} {s2 : ZS} {a : Int} {k : Nat} (h : SM G s G2 s2 a) (hk : kc G a k) (hn : G.1.1 ≤ G2.1.1) : kc G2 a k := ⟨hk.1, by have := hk.2.1; omega, by rw [h.1]; exact hk.2.2⟩
set_option maxRecDepth 8000 in
theorem lt_x {n : Nat} (h : n < 900000) : (n < 900000) = True := eq_true h
