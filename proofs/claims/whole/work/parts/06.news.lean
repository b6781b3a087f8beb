/-! new cells, the native copy, Object's constructor -/
theorem zH_new {g : ZG} {h h' : XH} {H H' : Heap} (hH : zH g h H) (h1 : xn h' = xn h + 1) (hb : xn h < 900000) (hk : ∀ o : Int, o ≠ (xn h : Int) → xk h' o = xk h o) (hl : ∀ o : Int, o ≠ (xn h : Int) → xl h' o = xl h o) (hsg : ∀ o j : Int, o ≠ (xn h : Int) → xs h' o j = xs h o j) (hrh : ∀ o j : Int, o ≠ (xn h : Int) → xr h' o j = xr h o j)
    (hat : zat g h' (xn h) H') (hz : H'.size = H.size + 1) (ho : ∀ q, q < H.size → H'[q]? = H[q]?) : zH g h' H' := by
  have hsc : zSC ≠ (xn h : Int) := by unfold zSC; omega
  refine ⟨by rw [hz, h1, hH.1]; omega, by omega, ⟨by rw [hk _ hsc]; exact hH.2.2.1.1, by rw [hl _ hsc]; exact hH.2.2.1.2.1, hH.2.2.1.2.2.1, fun i hi => by rw [hsg _ _ hsc]; exact hH.2.2.1.2.2.2 i hi⟩, fun k hkn => ?_⟩
  rw [h1] at hkn
  by_cases e1 : k = xn h
  · rw [e1]; exact hat
  · have hne : (k : Int) ≠ (xn h : Int) := by omega
    have hlt : k < xn h := by omega
    refine zat_kept (hH.2.2.2 k hlt) (hk _ hne) (hl _ hne) (ho _ (by rw [hH.1]; omega)) (fun j => ?_)
    unfold zfv
    rw [hsg _ _ hne, hrh _ _ hne]
theorem zS_new {A : Nat → Prop} {H0 H H' : Heap} {locs : List Loc} (hS : va_S A H0 H locs) (hz : H.size ≤ H'.size) (ho : ∀ q, q < H.size → H'[q]? = H[q]?) : va_S A H0 H' locs :=
  ⟨Nat.le_trans hS.1 hz, fun x h1 h2 => (ho x (Nat.lt_of_lt_of_le h1 hS.1)).trans (hS.2.1 x h1 h2), hS.2.2⟩
theorem zcr_n (g : ZG) {n : Nat} (h : n < 1000000) : zcr g (n : Int) = .ref (gB g + n) := by
  rw [zcr_pos (by omega) (by omega)]
  simp
section ZO
variable {p : Program} {l : Launch} {e : Env} {R : Room} {s : State} {m : MethodId} {args : Array Value} {below : List Frame} {meth : Method} {c : Code} {Q : State → Prop}
variable {g : ZG} {mi d n0 z0 pc : Nat} {L S : List AV} {h : XH} {x' : XC}
theorem zo_new {q : Nat} (X : zX p R s m args meth c g mi d) (hd : decode (zzA mi).1.2.1 pc = .ok (.new q, 3)) (hs : zop mi (.new q) pc L S h = some (.inl x')) (hR : xn x'.2.2.2 ≤ n0 + R.cells ∧ xz x'.2.2.2 ≤ z0 + R.slots) (k : zK p l e R s m args below meth c Q g mi n0 z0 x') : zK p l e R s m args below meth c Q g mi n0 z0 (pc, L, S, h) := by
  intro H ls locs cells slots hH hl hS hc hz
  have hH : zH g h H := hH
  have hl : zL g mi L ls := hl
  have hc : n0 + cells = xn h := hc
  have hz : z0 + slots = xz h := hz
  simp only [zop, zlk2] at hs
  cases hv : zzlu zzC (zzown mi) q with
  | none => rw [hv] at hs; cases hs
  | some v =>
    rw [hv] at hs
    obtain ⟨ci, pl1, pl2, pl3⟩ := v
    simp only [zif, zn] at hs
    by_cases hr : (decide (xn h < 900000) && decide (ci < 7)) = true
    · rw [if_pos hr] at hs
      simp only [Bool.and_eq_true, decide_eq_true_eq] at hr
      cases hs
      obtain ⟨q1, h1, h2, h3, h4⟩ := zzC_ok _ (zzlu_mem _ _ _ _ hv)
      have h1 : vwCl[ci]? = some q1 := h1
      obtain ⟨hci, e1, e2, e3, e4, e5, e6, e7⟩ := zcls h1
      have hKn := X.2.2.2.2.2.1.1 ci _ h1
      obtain ⟨hR1, hR2⟩ := hR
      have hR1 : xn h + 1 ≤ n0 + R.cells := hR1
      have hR2 : xz h + zznf ci ≤ z0 + R.slots := hR2
      refine W.newcK X.1 X.2.1 X.2.2.2.1 (X.2.2.2.2.1 _ (zW_mem h2 rfl)) (X.2.2.2.2.1 _ (zW_mem h3 rfl)) (X.2.2.2.2.1 _ (zW_mem h4 rfl)) rfl hd (by omega) (by rw [e2]; omega) hKn.2.1 rfl fun H1 kC hkC a1 a2 a3 => ?_
      have h5 := k H1 ls locs (cells + 1) (slots + q1.2.2) (zH_new hH rfl hr.1 (fun o ho => if_neg ho) (fun o ho => if_neg ho) (fun o j ho => if_neg ho) (fun o j ho => if_neg ho) ?_ a2 a3) hl (zS_new hS (by omega) a3) (by show n0 + (cells + 1) = xn h + 1; omega) (by show z0 + (slots + q1.2.2) = xz h + zznf ci; omega)
      · simp only [List.map_cons, zrf, zcv] at h5
        rw [zcr_n g (by omega), ← hH.1] at h5
        exact h5
      · have hb := u_born (zzty ci) X.2.2.2.2.1 e3 hKn hkC a1 e4
        rw [hH.1, e2] at hb
        unfold zat
        have hk1 : xk (xnew h ci 0 (zznf ci)) (xn h) = ci := if_pos rfl
        rw [hk1]
        refine Or.inl ⟨hci, hb.to fun j hj => ?_⟩
        rw [zzdef_ok ci hci j hj]
        unfold zfv
        rw [if_pos hci]
        have hx1 : xr (xnew h ci 0 (zznf ci)) (xn h) j = -1 := if_pos rfl
        have hx2 : xs (xnew h ci 0 (zznf ci)) (xn h) j = 0 := if_pos rfl
        rw [hx1, hx2]
        rfl
    · rw [if_neg hr] at hs
      cases hs
theorem znewa {t : ArrayType} {kd i : Nat} {ty : FieldType} {pl : Nat} {kk : Int} {r : List AV} (X : zX p R s m args meth c g mi d) (hd : decode (zzA mi).1.2.1 pc = .ok (.newarray t, 2)) (hty : newarray.typeOf t = ty) (hpl : lw_tbl[pl]? = some (Cond.arrayClass ty)) (hkd : 7 ≤ kd ∧ kd < 10) (ht : (ztys g)[i]? = some (gA g kd, ty)) (hra : va_RA s (gA g kd) ty → s.vm.findClass ("[" ++ ty.toString) = some (gA g kd)) (hby : componentBytes ty ≤ 8)
    (hdv : ∀ j : Nat, zfv g (xnew h kd kk kk.toNat) kd (xn h) j = defaultValue ty) (hr1 : zrng kk 100000 = true) (hr2 : xn h < 900000) (hR : xn h + 1 ≤ n0 + R.cells ∧ xz h + kk.toNat ≤ z0 + R.slots)
    (k : zK p l e R s m args below meth c Q g mi n0 z0 (pc + 2, L, zrf (xn h) :: r, xnew h kd kk kk.toNat)) : zK p l e R s m args below meth c Q g mi n0 z0 (pc, L, zint kk :: r, h) := by
  intro H ls locs cells slots hH hl hS hc hz
  have hH : zH g h H := hH
  have hl : zL g mi L ls := hl
  have hc : n0 + cells = xn h := hc
  have hz : z0 + slots = xz h := hz
  subst hty
  obtain ⟨a0, a0'⟩ := zi_clamp hr1 (show zIb 100000 = true from rfl)
  have hr3 := zrng_iff.mp hr1
  have hmul : kk.toNat * componentBytes (newarray.typeOf t) ≤ 536870912 := by
    have h1 : kk.toNat ≤ 100000 := by omega
    exact Nat.le_trans (Nat.mul_le_mul h1 hby) (by decide)
  refine va_newaK X.1 X.2.1 (X.2.2.2.2.1 _ (zW_mem hpl rfl)) (g := F0 m pc ls (.int (Int32.ofInt kk) :: r.map (zcv g))) rfl hd rfl a0 a0' hmul (by omega) (by omega) rfl fun H1 cA b1 b2 b3 b4 b5 => ?_
  have hcA : gA g kd = cA := Option.some.inj ((hra (X.2.2.2.2.2.1.2 i _ ht).2).symm.trans b5)
  subst hcA
  have h5 := k H1 ls locs (cells + 1) (slots + kk.toNat) (zH_new hH rfl hr2 (fun o ho => if_neg ho) (fun o ho => if_neg ho) (fun o j ho => if_neg ho) (fun o j ho => if_neg ho) ?_ b2 b3) hl (zS_new hS (by omega) b3) (by show n0 + (cells + 1) = xn h + 1; omega) (by show z0 + (slots + kk.toNat) = xz h + kk.toNat; omega)
  · simp only [List.map_cons, zrf, zcv] at h5
    rw [zcr_n g (by omega), ← hH.1] at h5
    exact h5
  · unfold zat
    have hk1 : xk (xnew h kd kk kk.toNat) (xn h) = kd := if_pos rfl
    have hl1 : xl (xnew h kd kk kk.toNat) (xn h) = kk := if_pos rfl
    rw [hk1, hl1]
    refine Or.inr ⟨hkd.1, by omega, ?_⟩
    rw [← hH.1, b1]
    congr 2
    exact funext fun j => (hdv j).symm
theorem zo_newarray {t : ArrayType} (X : zX p R s m args meth c g mi d) (hd : decode (zzA mi).1.2.1 pc = .ok (.newarray t, 2)) (hs : zop mi (.newarray t) pc L S h = some (.inl x')) (hR : xn x'.2.2.2 ≤ n0 + R.cells ∧ xz x'.2.2.2 ≤ z0 + R.slots) (k : zK p l e R s m args below meth c Q g mi n0 z0 x') : zK p l e R s m args below meth c Q g mi n0 z0 (pc, L, S, h) := by
  simp only [zop] at hs
  rcases S with _ | ⟨y | y, r⟩ <;> simp only [zSI, zif] at hs <;> try (cases hs; done)
  by_cases hr : (zrng y 100000 && decide (xn h < 900000)) = true
  · rw [if_pos hr] at hs
    simp only [Bool.and_eq_true, decide_eq_true_eq] at hr
    cases t <;> simp only [zn] at hs <;> try (cases hs; done)
    · cases hs
      exact znewa (kd := 9) (i := 2) (ty := .byte) X hd rfl zz_acb (by omega) rfl (fun z => z) (by decide) (fun j => by simp [zfv, xs, xnew, xn, defaultValue]) hr.1 hr.2 hR k
    · cases hs
      exact znewa (kd := 7) (i := 0) (ty := .int) X hd rfl zz_aci (by omega) rfl (fun z => z) (by decide) (fun j => by simp [zfv, xs, xnew, xn, defaultValue]) hr.1 hr.2 hR k
    · cases hs
      exact znewa (kd := 8) (i := 1) (ty := .long) X hd rfl zz_acj (by omega) rfl (fun z => z) (by decide) (fun j => by simp [zfv, xs, xnew, xn, defaultValue]) hr.1 hr.2 hR k
  · rw [if_neg hr] at hs
    cases hs
theorem zanew {kd i x : Nat} {C : String} {kk : Int} {r : List AV} (X : zX p R s m args meth c g mi d) (hd : decode (zzA mi).1.2.1 pc = .ok (.anewarray x, 3)) (hw : (Cond.classLink (zzR (zzown mi)) x C).before args s = true) (hao : va_AO C s) (hkd : 10 ≤ kd ∧ kd < 14) (ht : (ztys g)[i]? = some (gA g kd, .object C))
    (hr1 : zrng kk 100000 = true) (hr2 : xn h < 900000) (hR : xn h + 1 ≤ n0 + R.cells ∧ xz h + kk.toNat ≤ z0 + R.slots)
    (k : zK p l e R s m args below meth c Q g mi n0 z0 (pc + 3, L, zrf (xn h) :: r, xnew h kd kk kk.toNat)) : zK p l e R s m args below meth c Q g mi n0 z0 (pc, L, zint kk :: r, h) := by
  intro H ls locs cells slots hH hl hS hc hz
  have hH : zH g h H := hH
  have hl : zL g mi L ls := hl
  have hc : n0 + cells = xn h := hc
  have hz : z0 + slots = xz h := hz
  obtain ⟨a0, a0'⟩ := zi_clamp hr1 (show zIb 100000 = true from rfl)
  have hr3 := zrng_iff.mp hr1
  refine W.anew X.1 X.2.1 X.2.2.2.1 hw (va_AO.use hao) (g := F0 m pc ls (.int (Int32.ofInt kk) :: r.map (zcv g))) rfl hd rfl a0 (by rw [a0']; omega) (by omega) (by rw [a0']; omega) fun cA kA comp f1 f2 f3 f4 => ?_
  rw [a0', arrV_new]
  generalize hH1 : H.push (arrV cA kk.toNat (fun _ => Value.null)) = H1
  have b2 : H1.size = H.size + 1 := by rw [← hH1, Array.size_push]
  have b1 : H1[H.size]? = some (arrV cA kk.toNat (fun _ => .null)) := by rw [← hH1, Array.getElem?_push_size]
  have b3 : ∀ q : Nat, q < H.size → H1[q]? = H[q]? := fun q hq => by rw [← hH1, Array.getElem?_push, if_neg (Nat.ne_of_lt hq)]
  obtain ⟨kA2, comp2, -, -, -, g4⟩ := (X.2.2.2.2.2.1.2 i _ ht).2
  have hcA : gA g kd = cA := Option.some.inj (g4.symm.trans f1)
  subst hcA
  have h5 := k H1 ls locs (cells + 1) (slots + kk.toNat) (zH_new hH rfl hr2 (fun o ho => if_neg ho) (fun o ho => if_neg ho) (fun o j ho => if_neg ho) (fun o j ho => if_neg ho) ?_ b2 b3) hl (zS_new hS (by omega) b3) (by show n0 + (cells + 1) = xn h + 1; omega) (by show z0 + (slots + kk.toNat) = xz h + kk.toNat; omega)
  · simp only [List.map_cons, zrf, zcv] at h5
    rw [zcr_n g (by omega), ← hH.1] at h5
    exact h5
  · unfold zat
    have hk1 : xk (xnew h kd kk kk.toNat) (xn h) = kd := if_pos rfl
    have hl1 : xl (xnew h kd kk kk.toNat) (xn h) = kk := if_pos rfl
    rw [hk1, hl1]
    refine Or.inr ⟨by omega, by omega, ?_⟩
    rw [← hH.1, b1]
    congr 2
    refine funext fun j => ?_
    have hx1 : xr (xnew h kd kk kk.toNat) (xn h) j = -1 := if_pos rfl
    unfold zfv
    rw [hx1, if_neg (by omega), if_neg (by omega), if_neg (by omega)]
    rfl
theorem zo_anewarray {q : Nat} (X : zX p R s m args meth c g mi d) (hd : decode (zzA mi).1.2.1 pc = .ok (.anewarray q, 3)) (hs : zop mi (.anewarray q) pc L S h = some (.inl x')) (hR : xn x'.2.2.2 ≤ n0 + R.cells ∧ xz x'.2.2.2 ≤ z0 + R.slots) (k : zK p l e R s m args below meth c Q g mi n0 z0 x') : zK p l e R s m args below meth c Q g mi n0 z0 (pc, L, S, h) := by
  simp only [zop, zlk2] at hs
  cases hv : zzlu zzC (zzown mi) q with
  | none => rw [hv] at hs; cases hs
  | some v =>
    rw [hv] at hs
    obtain ⟨ci, pl1, pl2, pl3⟩ := v
    rcases S with _ | ⟨y | y, r⟩ <;> simp only [zSI, zif] at hs <;> try (cases hs; done)
    by_cases hr : (zrng y 100000 && decide (xn h < 900000)) = true
    · rw [if_pos hr] at hs
      simp only [Bool.and_eq_true, decide_eq_true_eq] at hr
      obtain ⟨q1, h1, h2, h3, h4⟩ := zzC_ok _ (zzlu_mem _ _ _ _ hv)
      have h1 : vwCl[ci]? = some q1 := h1
      have hw := X.2.2.2.2.1 _ (zW_mem h2 rfl)
      have hN := X.2.2.2.2.2.2.1.2
      by_cases h0 : ci = 0
      · rw [if_pos h0] at hs
        simp only [zn] at hs
        cases hs
        subst h0
        cases h1
        exact zanew (kd := 10) (i := 3) X hd hw hN.1 (by omega) rfl hr.1 hr.2 hR k
      · rw [if_neg h0] at hs
        by_cases h9 : ci = 3
        · rw [if_pos h9] at hs
          simp only [zn] at hs
          cases hs
          subst h9
          cases h1
          exact zanew (kd := 11) (i := 4) X hd hw hN.2.1 (by omega) rfl hr.1 hr.2 hR k
        · rw [if_neg h9] at hs
          cases hs
    · rw [if_neg hr] at hs
      cases hs
theorem zouter (c : ClassId) (N h0 : Nat) : ∀ i : Nat, Jvm.Free.Multi.outerC c N h0 i = arrV c N (fun j => if j < i then .ref (h0 + 1 + j) else .null)
  | 0 => by
    show ({ cls := c, slots := Array.replicate N .null, vm := .none } : Cell) = _
    rw [arrV_new]
    refine congrArg (arrV c N) (funext fun j => ?_)
    simp
  | i + 1 => by
    show (Jvm.Free.Multi.outerC c N h0 i).setSlot i (.ref (h0 + 1 + i)) = _
    rw [zouter c N h0 i, arrV_store]
    refine congrArg (arrV c N) (funext fun j => ?_)
    by_cases e : j = i
    · subst e
      simp [updV]
    · by_cases h : j < i
      · simp [updV, e, h, Nat.lt_succ_of_lt h]
      · simp [updV, e, h, show ¬ j < i + 1 by omega]
theorem zmna {kd i io x : Nat} {ty : FieldType} {pl : Nat} {j kk : Int} {r : List AV} (X : zX p R s m args meth c g mi d) (hd : decode (zzA mi).1.2.1 pc = .ok (.multianewarray x 2, 4)) (hw : (Cond.classLink (zzR (zzown mi)) x ("[" ++ (FieldType.array ty).toString)).before args s = true) (hao : zAOA ty s) (hpl : lw_tbl[pl]? = some (Cond.arrayClass ty)) (hkd : kd = 7 ∨ kd = 8) (ht : (ztys g)[i]? = some (gA g kd, ty)) (hto : (ztys g)[io]? = some (gA g (kd + 5), .array ty))
    (hra : va_RA s (gA g kd) ty → s.vm.findClass (FieldType.array ty).toString = some (gA g kd)) (hby : componentBytes ty ≤ 8) (hdf : fits ty (defaultValue ty) = true) (hdd : (defaultValue ty).isDefault = true)
    (hdv : ∀ (h' : XH) (k0 q : Nat), xs h' k0 q = 0 → zfv g h' kd k0 q = defaultValue ty) (hr1 : zrng kk 1000 = true) (hr2 : zrng j 1000 = true) (hr3 : xn h < 900000) (hR : xn h + (1 + j.toNat) ≤ n0 + R.cells ∧ xz h + (j.toNat + j.toNat * kk.toNat) ≤ z0 + R.slots)
    (k : zK p l e R s m args below meth c Q g mi n0 z0 (pc + 4, L, zrf (xn h) :: r, xmul h kd j kk)) : zK p l e R s m args below meth c Q g mi n0 z0 (pc, L, zint kk :: zint j :: r, h) := by
  intro H ls locs cells slots hH hl hS hc hz
  have hH : zH g h H := hH
  have hl : zL g mi L ls := hl
  have hc : n0 + cells = xn h := hc
  have hz : z0 + slots = xz h := hz
  obtain ⟨k1, k2⟩ := zi_clamp hr1 (show zIb 1000 = true from rfl)
  obtain ⟨j1, j2⟩ := zi_clamp hr2 (show zIb 1000 = true from rfl)
  have k3 := zrng_iff.mp hr1
  have j3 := zrng_iff.mp hr2
  have hb2 : kk.toNat * componentBytes ty ≤ 536870912 := Nat.le_trans (Nat.mul_le_mul (show kk.toNat ≤ 1000 by omega) hby) (by decide)
  intro T hT Xs
  obtain ⟨vm₁, cA, comp, -, fA, fC, hO, -, X', step⟩ := Xs.multianewarray2F X.1 X.2.2.2.1 hw hao (X.2.2.2.2.1 _ (zW_mem hpl rfl)) (g := F0 m pc ls (.int (Int32.ofInt kk) :: .int (Int32.ofInt j) :: r.map (zcv g))) rfl (by rw [X.2.1]; exact hd) rfl j1 k1 (by rw [j2]; omega) (by rw [k2]; exact hb2) (by rw [k2]; omega) hdf hdd (by rw [j2]; omega) (by rw [j2, k2]; omega)
  rw [j2, k2] at X' step
  have ec : comp = gA g kd := Option.some.inj (fC.symm.trans (hra (X.2.2.2.2.2.1.2 i _ ht).2))
  subst ec
  have ea : cA = gA g (kd + 5) := Option.some.inj (fA.symm.trans (X.2.2.2.2.2.1.2 io _ hto).2)
  subst ea
  have hTh : (T.setVm vm₁).heap = H := hT
  obtain ⟨f1, f2, -, -⟩ := Jvm.Free.Multi.fill_facts (T.setVm vm₁) (gA g (kd + 5)) (gA g kd) j.toNat kk.toNat (defaultValue ty) j.toNat
  have hold : ∀ x : Nat, x < H.size → (Jvm.Free.Multi.fill (T.setVm vm₁) (gA g (kd + 5)) (gA g kd) j.toNat kk.toNat (defaultValue ty) j.toNat).heap[x]? = H[x]? := fun x hx => by
    have := Jvm.Free.Multi.fill_old (T.setVm vm₁) (gA g (kd + 5)) (gA g kd) j.toNat kk.toNat (defaultValue ty) (a := x) (by rw [hTh]; exact hx) j.toNat
    rw [hTh] at this
    exact this
  have hrow : ∀ q : Nat, q < j.toNat → (Jvm.Free.Multi.fill (T.setVm vm₁) (gA g (kd + 5)) (gA g kd) j.toNat kk.toNat (defaultValue ty) j.toNat).heap[H.size + 1 + q]? = some (arrV (gA g kd) kk.toNat (fun _ => defaultValue ty)) := fun q hq => by
    have := Jvm.Free.Multi.fill_inner (T.setVm vm₁) (gA g (kd + 5)) (gA g kd) j.toNat kk.toNat (defaultValue ty) j.toNat q hq
    rw [hTh] at this
    rw [this, ← arrV_new]
    rfl
  rw [hTh] at f1 f2
  rw [zouter] at f2
  generalize hF : Jvm.Free.Multi.fill (T.setVm vm₁) (gA g (kd + 5)) (gA g kd) j.toNat kk.toNat (defaultValue ty) j.toNat = F at X' step f1 f2 hold hrow
  have hsc : zSC ≠ (xn h : Int) := by unfold zSC; omega
  have hsc2 : ¬ ((xn h : Int) < zSC ∧ zSC ≤ (xn h : Int) + j) := by unfold zSC; omega
  have hsc3 : ¬ ((xn h : Int) ≤ zSC ∧ zSC ≤ (xn h : Int) + j) := by unfold zSC; omega
  have hnew : zH g (xmul h kd j kk) F.heap := by
    refine ⟨by rw [f1, hH.1]; show _ = gB g + (xn h + (1 + j.toNat)); omega, by show xn h + (1 + j.toNat) ≤ 1000000; omega, ⟨?_, ?_, hH.2.2.1.2.2.1, fun q hq => ?_⟩, fun k0 hk0 => ?_⟩
    · show (if zSC = (xn h : Int) then kd + 5 else if (xn h : Int) < zSC ∧ zSC ≤ (xn h : Int) + j then kd else xk h zSC) = 7
      rw [if_neg hsc, if_neg hsc2]
      exact hH.2.2.1.1
    · show (if zSC = (xn h : Int) then j else if (xn h : Int) < zSC ∧ zSC ≤ (xn h : Int) + j then kk else xl h zSC) = _
      rw [if_neg hsc, if_neg hsc2]
      exact hH.2.2.1.2.1
    · show (if (xn h : Int) ≤ zSC ∧ zSC ≤ (xn h : Int) + j then 0 else xs h zSC q) = _
      rw [if_neg hsc3]
      exact hH.2.2.1.2.2.2 q hq
    · have hk0 : k0 < xn h + (1 + j.toNat) := hk0
      have ek : xk (xmul h kd j kk) k0 = (if (k0 : Int) = (xn h : Int) then kd + 5 else if (xn h : Int) < (k0 : Int) ∧ (k0 : Int) ≤ (xn h : Int) + j then kd else xk h k0) := rfl
      have el : xl (xmul h kd j kk) k0 = (if (k0 : Int) = (xn h : Int) then j else if (xn h : Int) < (k0 : Int) ∧ (k0 : Int) ≤ (xn h : Int) + j then kk else xl h k0) := rfl
      have er : ∀ q : Int, xr (xmul h kd j kk) k0 q = (if (k0 : Int) = (xn h : Int) then (if 0 ≤ q ∧ q < j then (xn h : Int) + 1 + q else -1) else if (xn h : Int) < (k0 : Int) ∧ (k0 : Int) ≤ (xn h : Int) + j then -1 else xr h k0 q) := fun _ => rfl
      have es : ∀ q : Int, xs (xmul h kd j kk) k0 q = (if (xn h : Int) ≤ (k0 : Int) ∧ (k0 : Int) ≤ (xn h : Int) + j then 0 else xs h k0 q) := fun _ => rfl
      by_cases c1 : k0 < xn h
      · refine zat_kept (hH.2.2.2 k0 c1) (by rw [ek, if_neg (by omega), if_neg (by omega)]) (by rw [el, if_neg (by omega), if_neg (by omega)]) (hold _ (by rw [hH.1]; omega)) (fun q => ?_)
        have er' : xr (xmul h kd j kk) k0 q = xr h k0 q := by rw [er, if_neg (by omega), if_neg (by omega)]
        have es' : xs (xmul h kd j kk) k0 q = xs h k0 q := by rw [es, if_neg (by omega)]
        unfold zfv
        rw [er', es']
      · by_cases c2 : k0 = xn h
        · subst c2
          unfold zat
          rw [ek, if_pos rfl, el, if_pos rfl]
          refine Or.inr ⟨by omega, by omega, ?_⟩
          rw [← hH.1, f2]
          congr 2
          refine funext fun q => ?_
          have er' : xr (xmul h kd j kk) (xn h : Nat) q = (if 0 ≤ (q : Int) ∧ (q : Int) < j then (xn h : Int) + 1 + q else -1) := by rw [er, if_pos rfl]
          unfold zfv
          rw [er', if_neg (show ¬ kd + 5 < 7 by omega), if_neg (show ¬ kd + 5 = 8 by omega), if_neg (show ¬ kd + 5 < 10 by omega)]
          by_cases c3 : q < j.toNat
          · have e9 : (if 0 ≤ (q : Int) ∧ (q : Int) < j then (xn h : Int) + 1 + q else -1) = ((xn h + 1 + q : Nat) : Int) := by
              rw [if_pos (by omega)]
              omega
            have e8 := hH.1
            rw [if_pos c3, e9, zcr_n g (by omega)]
            exact congrArg Value.ref (show H.size + 1 + q = gB g + (xn h + 1 + q) by omega)
          · have e9 : (if 0 ≤ (q : Int) ∧ (q : Int) < j then (xn h : Int) + 1 + q else -1) = -1 := if_neg (by omega)
            rw [if_neg c3, e9]
            rfl
        · unfold zat
          rw [ek, if_neg (by omega), if_pos (by omega), el, if_neg (by omega), if_pos (by omega)]
          refine Or.inr ⟨by omega, by omega, ?_⟩
          have e5 := hrow (k0 - (xn h + 1)) (by omega)
          rw [hH.1, show gB g + xn h + 1 + (k0 - (xn h + 1)) = gB g + k0 by omega] at e5
          rw [e5]
          congr 2
          exact funext fun q => (hdv _ _ _ (by rw [es, if_pos (by omega)])).symm
  obtain ⟨t, a1, b1⟩ := k F.heap ls locs (cells + 1 + j.toNat) (slots + j.toNat + j.toNat * kk.toNat) hnew hl (zS_new hS (by rw [f1]; omega) hold) (by show _ = xn h + (1 + j.toNat); omega) (by show _ = xz h + (j.toNat + j.toNat * kk.toNat); omega) F rfl X'
  refine ⟨t, step t ?_, b1⟩
  have e : T.heap.size = gB g + xn h := by rw [hT]; exact hH.1
  rw [e]
  simp only [List.map_cons, zrf, zcv] at a1
  rw [zcr_n g (by omega)] at a1
  exact a1
theorem zo_multianewarray {q n : Nat} (X : zX p R s m args meth c g mi d) (hd : decode (zzA mi).1.2.1 pc = .ok (.multianewarray q n, 4)) (hs : zop mi (.multianewarray q n) pc L S h = some (.inl x')) (hR : xn x'.2.2.2 ≤ n0 + R.cells ∧ xz x'.2.2.2 ≤ z0 + R.slots) (k : zK p l e R s m args below meth c Q g mi n0 z0 x') : zK p l e R s m args below meth c Q g mi n0 z0 (pc, L, S, h) := by
  simp only [zop, zlk2] at hs
  cases hv : zzlu zzC2 (zzown mi) q with
  | none => rw [hv] at hs; cases hs
  | some v =>
    rw [hv] at hs
    obtain ⟨ci, pl⟩ := v
    rcases S with _ | ⟨y | y, _ | ⟨z | z, r⟩⟩ <;> simp only [zSII, zif] at hs <;> try (cases hs; done)
    by_cases hr : (zrng y 1000 && zrng z 1000 && decide (xn h < 900000) && decide (n = 2)) = true
    · rw [if_pos hr] at hs
      simp only [Bool.and_eq_true, decide_eq_true_eq] at hr
      obtain ⟨⟨⟨r1, r2⟩, r3⟩, rfl⟩ := hr
      simp only [zn] at hs
      cases hs
      obtain ⟨h0, h1⟩ := zzC2_ok _ (zzlu_mem _ _ _ _ hv)
      have hw := X.2.2.2.2.1 _ (zW_mem h1 rfl)
      have hN := X.2.2.2.2.2.2.1.2.2.2
      have h0 : ci = 7 ∨ ci = 8 := h0
      rcases h0 with rfl | rfl
      · exact zmna (kd := 7) (i := 0) (io := 5) (ty := .int) X hd hw hN.1 zz_aci (Or.inl rfl) rfl rfl (fun z => z) (by decide) (by decide) (by decide) (fun h' k0 q e => by simp [zfv, e, defaultValue]) r1 r2 r3 hR k
      · exact zmna (kd := 8) (i := 1) (io := 6) (ty := .long) X hd hw hN.2 zz_acj (Or.inr rfl) rfl rfl (fun z => z) (by decide) (by decide) (by decide) (fun h' k0 q e => by simp [zfv, e, defaultValue]) r1 r2 r3 hR k
    · rw [if_neg hr] at hs
      cases hs
theorem zo_objinit {x : Nat} {pl t : Nat} (X : zX p R s m args meth c g mi d) (hd : decode (zzA mi).1.2.1 pc = .ok (.invokespecial x, 3)) (hv : zzlu zzL (zzown mi) x = some (5, t, pl)) (hs : zop mi (.invokespecial x) pc L S h = some (.inl x')) (k : zK p l e R s m args below meth c Q g mi n0 z0 x') : zK p l e R s m args below meth c Q g mi n0 z0 (pc, L, S, h) := by
  intro H ls locs cells slots hH hl hS hc hz
  have hH : zH g h H := hH
  have hl : zL g mi L ls := hl
  have hc : n0 + cells = xn h := hc
  have hz : z0 + slots = xz h := hz
  simp only [zop, zlk2] at hs
  rw [hv] at hs
  simp only [if_true] at hs
  rcases S with _ | ⟨y | y | _ | y, r⟩ <;> simp only [zSA, zif, zn] at hs <;> try (cases hs; done)
  by_cases hr : (decide (0 ≤ y) && decide (zws r ≤ 8)) = true
  · rw [if_pos hr] at hs
    cases hs
    simp only [Bool.and_eq_true, decide_eq_true_eq] at hr
    have h1 := zzL_ok _ (zzlu_mem _ _ _ _ hv)
    rw [if_pos rfl] at h1
    obtain ⟨a, e1⟩ : ∃ a, zcr g y = .ref a := by
      rcases zcr_or g y with e1 | e1
      · unfold zcr at e1
        rw [if_neg (by omega)] at e1
        by_cases h2 : y = zSC
        · rw [if_pos h2] at e1; cases e1
        · rw [if_neg h2] at e1; cases e1
      · exact e1
    simp only [List.map_cons, zcv]
    rw [e1]
    have hRl := X.2.2.2.2.2.2.2.2.2.2.2.2
    have hRf := X.2.2.2.2.2.2.2.2.2.2.2.1
    refine W.objInit X.1 X.2.1 X.2.2.2.1 (X.2.2.2.2.1 _ (zW_mem h1 rfl)) (X.2.2.2.2.1 _ (zW_mem zz_oi rfl)) (X.2.2.2.2.1 _ (zW_mem zz_oc rfl)) rfl (by rw [X.2.2.1]; exact hl.2.1) rfl hd (by omega) ?_ (k H ls locs cells slots hH hl hS hc hz)
    show 2 * 0 + _ + 12 ≤ R.locals
    rw [zws_sum]
    omega
  · rw [if_neg hr] at hs
    cases hs
theorem zo_arraycopy {x : Nat} {pl t : Nat} (X : zX p R s m args meth c g mi d) (hd : decode (zzA mi).1.2.1 pc = .ok (.invokestatic x, 3)) (hv : zzlu zzL (zzown mi) x = some (6, t, pl)) (hs : zop mi (.invokestatic x) pc L S h = some (.inl x')) (k : zK p l e R s m args below meth c Q g mi n0 z0 x') : zK p l e R s m args below meth c Q g mi n0 z0 (pc, L, S, h) := by
  intro H ls locs cells slots hH hl hS hc hz
  have hH : zH g h H := hH
  have hl : zL g mi L ls := hl
  have hc : n0 + cells = xn h := hc
  have hz : z0 + slots = xz h := hz
  simp only [zop, zlk2] at hs
  rw [hv] at hs
  simp only [if_true] at hs
  unfold zcopy at hs
  rcases S with _ | ⟨n | n, _ | ⟨dp | dp, _ | ⟨y | y | _ | y, _ | ⟨sp | sp, _ | ⟨y0 | y0 | _ | y0, r⟩⟩⟩⟩⟩ <;> simp only [zif, zn] at hs <;> try (cases hs; done)
  by_cases hr : (zCb h y 8 && zCb h y0 8 && decide (0 ≤ n) && decide (0 ≤ sp) && decide (0 ≤ dp) && decide (sp + n ≤ xl h y0) && decide (dp + n ≤ xl h y) && decide (zws r ≤ 8) && zIb (xl h y) && zIb (xl h y0)) = true
  · rw [if_pos hr] at hs
    cases hs
    simp only [Bool.and_eq_true, decide_eq_true_eq] at hr
    obtain ⟨⟨⟨⟨⟨⟨⟨⟨⟨r1, r2⟩, r3⟩, r4⟩, r5⟩, r6⟩, r7⟩, r8⟩, r9⟩, r10⟩ := hr
    obtain ⟨o, rfl, ho1, ho2, ho3, -, ho5, ho6⟩ := zarr hH r1 (by omega)
    obtain ⟨o', rfl, hp1, hp2, hp3, -, hp5, hp6⟩ := zarr hH r2 (by omega)
    have h9 := zIb_iff.mp r9
    have h10 := zIb_iff.mp r10
    have hn := zIb_iff.mpr (show -2147483648 ≤ n ∧ n < 2147483648 by omega)
    have hsp := zIb_iff.mpr (show -2147483648 ≤ sp ∧ sp < 2147483648 by omega)
    have hdp := zIb_iff.mpr (show -2147483648 ≤ dp ∧ dp < 2147483648 by omega)
    have cl : ∀ z : Int, 0 ≤ z → zIb z = true → ¬ Int32.ofInt z < 0 ∧ (Int32.ofInt z).toNatClampNeg = z.toNat := fun z h0 h1 => ⟨fun q => by rw [zi_0, zi_lt h1 zIb_0] at q; omega, by show (Int32.ofInt z).toInt.toNat = _; rw [zi_to h1]⟩
    obtain ⟨n1, n2⟩ := cl n r3 hn
    obtain ⟨s1, s2⟩ := cl sp r4 hsp
    obtain ⟨d1, d2⟩ := cl dp r5 hdp
    have h1 := zzL_ok _ (zzlu_mem _ _ _ _ hv)
    rw [if_neg (show ¬ (6 : Nat) = 5 by decide), if_pos rfl] at h1
    simp only [List.map_cons, zcv]
    rw [ho6, hp6]
    have hRl := X.2.2.2.2.2.2.2.2.2.2.2.2
    have hRf := X.2.2.2.2.2.2.2.2.2.2.2.1
    have hnf : nativeFrameWords "java/lang/System" "arraycopy" 5 ≤ 30 := by decide +kernel
    have v0 : zfv g h 8 o' = fun j : Nat => .long (Int64.ofInt (xs h o' j)) := rfl
    have v1 : zfv g h 8 o = fun j : Nat => .long (Int64.ofInt (xs h o j)) := rfl
    intro T hT Xs
    obtain ⟨-, kc0, hk0, cm0, hkk0⟩ := zatys X (t := 1) rfl (xl h o').toNat (zfv g h 8 o')
    obtain ⟨-, kc1, hk1, cm1, hkk1⟩ := zatys X (t := 1) rfl (xl h o).toNat (zfv g h 8 o)
    obtain ⟨vm', X', step⟩ := Xs.arraycopy X.1 X.2.2.2.1 (X.2.2.2.2.1 _ (zW_mem h1 rfl)) (X.2.2.2.2.1 _ (zW_mem zz_an rfl)) (X.2.2.2.2.1 _ (zW_mem zz_as rfl)) (X.2.2.2.2.1 _ (zW_mem zz_ai rfl)) (src := gB g + o') (dst := gB g + o) (cs := arrV (gA g 8) (xl h o').toNat (zfv g h 8 o')) (cd := arrV (gA g 8) (xl h o).toNat (zfv g h 8 o)) (srcPos := Int32.ofInt sp) (destPos := Int32.ofInt dp) (n := Int32.ofInt n) (by rw [hT]; exact hp5) (by rw [hT]; exact ho5)
      (fun _ h => by cases h) (fun _ h => by cases h) (fun h => by cases h) (fun h => by cases h) hk0 hk1 hkk0 hkk1 (by simp [refKind]) s1 d1 n1
      (by rw [zi_to hsp, zi_to hn, arrV_size]; omega)
      (by rw [zi_to hdp, zi_to hn, arrV_size]; omega)
      (fun vm₁ _ i hi => by
        have e : (arrV (gA g 8) (xl h o').toNat (zfv g h 8 o')).slots.getD ((Int32.ofInt sp).toNatClampNeg + i) .null = .long (Int64.ofInt (xs h o' ((Int32.ofInt sp).toNatClampNeg + i : Nat))) := by
          rw [Array.getD_eq_getD_getElem?, arrV_read _ _ (by rw [s2]; rw [n2] at hi; omega)]
          rfl
        refine ⟨?_, ?_⟩
        · rw [e]
          rfl
        · rw [e]
          exact trivial)
      (g := F0 m pc ls (.int (Int32.ofInt n) :: .int (Int32.ofInt dp) :: .ref (gB g + o) :: .int (Int32.ofInt sp) :: .ref (gB g + o') :: r.map (zcv g))) rfl (by rw [X.2.2.1]; exact hl.2.1) (rest := r.map (zcv g)) rfl (by rw [X.2.1]; exact hd) (by omega) (by show 2 * 0 + _ + _ ≤ _; rw [zws_sum]; omega)
    have e1 : copied (arrV (gA g 8) (xl h o').toNat (zfv g h 8 o')) (arrV (gA g 8) (xl h o).toNat (zfv g h 8 o)) (Int32.ofInt sp) (Int32.ofInt dp) (Int32.ofInt n) = arrV (gA g 8) (xl h o).toNat (zfv g (xcpy h o dp n o' sp) 8 o) := by
      have := va_copied (fun z => .long z) (gA g 8) (gA g 8) (n1 := (xl h o).toNat) (n0 := (xl h o').toNat) (sp := (Int32.ofInt sp).toNatClampNeg) (dp := (Int32.ofInt dp).toNatClampNeg) (n := (Int32.ofInt n).toNatClampNeg) (fun j : Nat => Int64.ofInt (xs h o' j)) (fun j : Nat => Int64.ofInt (xs h o j)) (by rw [s2, n2]; omega)
      refine this.trans ?_
      congr 1
      refine funext fun j => ?_
      show _ = Value.long (Int64.ofInt (xs (xcpy h o dp n o' sp) o j))
      congr 2
      unfold va_cpy
      rw [s2, d2, n2]
      have e3 : xs (xcpy h o dp n o' sp) o j = if (o : Int) = (o : Int) ∧ dp ≤ (j : Int) ∧ (j : Int) < dp + n then xs h o' (sp + ((j : Int) - dp)) else xs h o j := rfl
      rw [e3]
      by_cases hj : dp.toNat ≤ j ∧ j < dp.toNat + n.toNat
      · rw [if_pos hj, if_pos ⟨rfl, by omega, by omega⟩]
        have e4 : ((sp.toNat + (j - dp.toNat) : Nat) : Int) = sp + ((j : Int) - dp) := by omega
        show Int64.ofInt (xs h o' _) = _
        rw [e4]
      · rw [if_neg hj, if_neg (fun z => hj (by omega))]
    rw [e1] at X' step
    have hl9 : gB g + o < H.size := (Array.getElem?_eq_some_iff.mp ho5).1
    have hheap : ((T.setVm vm').setCell (gB g + o) (arrV (gA g 8) (xl h o).toNat (zfv g (xcpy h o dp n o' sp) 8 o))).heap = H.setIfInBounds (gB g + o) (arrV (gA g 8) (xl h o).toNat (zfv g (xcpy h o dp n o' sp) 8 o)) := by rw [← hT]; rfl
    have oq : ∀ q : Nat, q ≠ gB g + o → (H.setIfInBounds (gB g + o) (arrV (gA g 8) (xl h o).toNat (zfv g (xcpy h o dp n o' sp) 8 o)))[q]? = H[q]? := fun q hq => by simp [Array.getElem?_setIfInBounds, Ne.symm hq]
    have hsame : ∀ k0 : Nat, k0 ≠ o → ∀ kd j : Nat, zfv g (xcpy h o dp n o' sp) kd k0 j = zfv g h kd k0 j := fun k0 hk kd j => by
      have e2 : ∀ j : Int, xs (xcpy h o dp n o' sp) k0 j = xs h k0 j := fun j => if_neg (fun z => hk (by omega))
      unfold zfv
      rw [e2]
      rfl
    obtain ⟨t, a1, b1⟩ := k (H.setIfInBounds (gB g + o) (arrV (gA g 8) (xl h o).toNat (zfv g (xcpy h o dp n o' sp) 8 o))) ls _ cells slots (zH_upd hH rfl (fun _ => rfl) (fun _ => rfl) ⟨hH.2.2.1.1, hH.2.2.1.2.1, hH.2.2.1.2.2.1, fun i hi => by
        have e2 : xs (xcpy h o dp n o' sp) zSC i = xs h zSC i := if_neg (fun z => by unfold zSC at z; omega)
        rw [e2]
        exact hH.2.2.1.2.2.2 i hi⟩ (a := o) (by
        unfold zat
        have hk9 : xk (xcpy h o dp n o' sp) o = 8 := ho3
        have hl8 : xl (xcpy h o dp n o' sp) o = xl h o := rfl
        rw [hk9, hl8]
        exact Or.inr ⟨by omega, by omega, by simp [Array.getElem?_setIfInBounds, hl9]⟩) (by simp) oq hsame) hl ⟨by simp; exact hS.1, fun q g1 g2 => by
        rw [oq q (fun e => g2 (by rw [e]; exact Nat.le_add_right _ _))]
        exact hS.2.1 q g1 g2, fun q hq => by
        rcases List.mem_append.mp hq with h | h
        · exact hS.2.2 q h
        · obtain ⟨z, -, hz⟩ := List.mem_map.mp h
          rw [← hz]
          exact Nat.le_add_right _ _⟩ hc hz _ hheap X'
    exact ⟨t, step t a1, b1⟩
  · rw [if_neg hr] at hs
    cases hs
end ZO
