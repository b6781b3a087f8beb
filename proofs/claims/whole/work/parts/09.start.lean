
/-! THE CLAIM OUT OF ONE WALK OF THE LAW'S BODY. Your part is whole_start (and what it stands on); all else here is the same for every law, but numbers. -/
def R_law : String := "LooseGridLaw"
def lw_P (b : Addr) (xs : List Int32) (args : Array Value) (s : State) : Prop := args = #[.ref b] ∧ s.IntsAt b xs ∧ xs.length ≤ 3584 ∧ (Jvm.Cond.and given_1 narrow_1).before args s = true
def lw_Q (_ : Array Value) (s : State) (o : Outcome) (t : State) : Prop := o = .returned (some (.int 1)) ∧ Framed s o t [] 600000 7302250
def lw_Z (below : List Frame) (a : Array Value) (s : State) : State → Prop := fun t => ∃ o, t.status = .running ∧ Ended t below o ∧ lw_Q a s o t
/-- the law's own end, with 1 on the stack, nothing written that was there before, its room as the claim has it -/
theorem lw_ret {p : Program} {l : Launch} {e : Env} {s : State} {m : MethodId} {below : List Frame} {meth : Method} {c : Code} {b : Nat} (hx : p.tables.exec = Jvm.exec) (hb : c.code = code) (hr : meth.sig.returnType = ret) (hlocks : meth.locks = false) {pc : Nat} {H : Heap} {ls : Array Slot} (hdg : decode code pc = .ok (.ireturn, 1)) : W p l e room_1 s m #[Value.ref b] below meth c H [] 600000 7302250 (lw_Z below #[Value.ref b] s) (F0 m pc ls [.int 1]) := by
  intro T hT X
  obtain ⟨fs, hret, hrun, hended, hW, hframe⟩ := X.leave (v := some (.int 1)) (hlocks := hlocks) (fun h => by rw [hr] at h; cases h)
  have hmeth' : T.vm.method? m = some meth := X.method'
  refine ⟨T.setFrames fs, ?_, .returned (some (.int 1)), hrun, hended, rfl, ⟨_, rfl⟩, hW, hframe⟩
  jvm_step X.here [X.here.top, hx, hb, hdg, hmeth', hr, ret, narrow_b1]
  (try refine ⟨rfl, ?_⟩); (try refine ⟨rfl, ?_⟩)
  first | (intro acts; rw [hret _ acts rfl rfl rfl]) | rw [hret _ _ rfl rfl rfl]
  exact Steps.refl _
/-- what holds at the law's entry: the machine, the code, the tables' words (any of lw_tbl by 'hts w (by decide +kernel)'), the script of L ints xs at the cell b, what the Statement gives of the start (any of its parts by flat_of_before) -/
def lw_At (p : Program) (s : State) (m : MethodId) (meth : Method) (c : Code) (b L : Nat) (xs : Nat → Int32) : Prop :=
  p.tables.exec = Jvm.exec ∧ c.code = code ∧ meth.sig.returnType = ret ∧ c.maxLocals = 4 ∧ s.vm.findClass R_law = some m.cls ∧ (∀ w ∈ lw_tbl, w.before #[Value.ref b] s = true) ∧ va_X b L xs s s.heap ∧ b < s.heap.size ∧ meth.locks = false ∧ (Jvm.Cond.and given_1 narrow_1).before #[Value.ref b] s = true
/-! from the law's entry to the abstract machine's run of the law -/
theorem zAarr {s : State} {args : Array Value} {ty : FieldType} {pl : Nat} (hts : ∀ w ∈ lw_tbl, w.before args s = true) (hw : lw_tbl[pl]? = some (Cond.arrayClass ty)) : ∃ cA : ClassId, ArrOfT s cA ty ∧ s.vm.findClass ("[" ++ ty.toString) = some cA := by
  obtain ⟨cA, k, comp, h1, h2, h3⟩ := Cond.arrayClass_spec (hts _ (List.mem_of_getElem? hw))
  exact ⟨cA, fun n z => ⟨(fun q h => by cases h), k, h2, comp, h3⟩, h1⟩
theorem zAobj {s : State} {args : Array Value} {C : String} {pl : Nat} (hts : ∀ w ∈ lw_tbl, w.before args s = true) (hw : lw_tbl[pl]? = some (Cond.arrayOver (.object C))) : ∃ cA : ClassId, ArrOfT s cA (.object C) ∧ va_RA s cA (.object C) := by
  obtain ⟨comp, cA, k, h1, -, h3, h4, h5⟩ := Cond.arrayOver_spec (hts _ (List.mem_of_getElem? hw))
  exact ⟨cA, fun n z => ⟨(fun q h => by cases h), k, h3, comp, h4⟩, k, comp, h3, h4, h1, h5⟩
theorem zAarr2 {s : State} {args : Array Value} {t : FieldType} {pl : Nat} (hts : ∀ w ∈ lw_tbl, w.before args s = true) (hw : lw_tbl[pl]? = some (Cond.arrayOver (.array t))) : ∃ cA : ClassId, ArrOfT s cA (.array t) ∧ va_RA s cA (.array t) := by
  obtain ⟨comp, cA, k, h1, -, h3, h4, h5⟩ := arrayOverA_spec (hts _ (List.mem_of_getElem? hw))
  exact ⟨cA, fun n z => ⟨(fun q h => by cases h), k, h3, comp, h4⟩, h5⟩
theorem zAcls {s : State} {args : Array Value} (hts : ∀ w ∈ lw_tbl, w.before args s = true) : ∃ (dC : Nat → ClassId) (dI : Nat → Nat → Nat), ∀ (k : Nat) (q : vw_C), vwCl[k]? = some q → u_Kn s q.1 q.2.1 q.2.2 (dC k) (dI k) := by
  have key : ∀ k : Nat, ∃ (cC : ClassId) (iS : Nat → Nat), ∀ q : vw_C, vwCl[k]? = some q → u_Kn s q.1 q.2.1 q.2.2 cC iS := by
    intro k
    by_cases hk : k < 7
    · obtain ⟨q, hq⟩ := zcl_of hk
      have h1 : ∃ n, (Cond.instantiable q.1 n).before args s = true := by
        have hl : ∀ q ∈ vwCl, zzC.any (fun e => decide (((vwCl[e.2.1]?).map (fun r => r.1)) = some q.1)) = true := by decide +kernel
        obtain ⟨e, he, h2⟩ := List.any_eq_true.mp (hl q (List.mem_of_getElem? hq))
        replace h2 := of_decide_eq_true h2
        obtain ⟨q2, a1, a2, a3, a4⟩ := zzC_ok e he
        rw [a1] at h2
        have h3 : q2.1 = q.1 := by simpa using h2
        rw [h3] at a3
        exact ⟨_, hts _ (List.mem_of_getElem? a3)⟩
      obtain ⟨n, h1⟩ := h1
      obtain ⟨-, -, -, e3, -⟩ := zcls hq
      obtain ⟨cC, iS, h2⟩ := u_known (C := q.1) (T := q.2.1) (N := q.2.2) hts (fun w hw => (List.mem_filter.mp (e3 w hw)).1) h1
      exact ⟨cC, iS, fun q' hq' => by rw [hq] at hq'; cases hq'; exact h2⟩
    · exact ⟨0, fun _ => 0, fun q hq => absurd (List.getElem?_eq_some_iff.mp hq).1 (by show ¬ k < 7; exact hk)⟩
  exact ⟨fun k => Classical.choose (key k), fun k => Classical.choose (Classical.choose_spec (key k)), fun k => Classical.choose_spec (Classical.choose_spec (key k))⟩
def zLAW : Nat := 194
def zh0 (L : Nat) (xf : Nat → Int32) : XH := (((0, 0), (fun o => if o = zSC then 7 else 0), (fun o => if o = zSC then (L : Int) else 0), fun _ _ => -1), fun o i => if o = zSC then (xf i.toNat).toInt else 0)
theorem zzA_law : zzA zLAW = zm194 := rfl
set_option maxHeartbeats 4000000 in
theorem zstart {p : Program} {e : Env} {s : State} {m : MethodId} {below : List Frame} {meth : Method} {c : Code} (l : Launch) {b L : Nat} {xs : Nat → Int32} (hL : L ≤ 3584) (C0 : lw_At p s m meth c b L xs)
    (hpure : Wp 1000 zLAW (zent zLAW [zrf zSC] (zh0 L xs)) (fun r h' => r = some (zint 1) ∧ xn h' ≤ 600000 ∧ xz h' ≤ 7302250)) : W p l e room_1 s m #[Value.ref b] below meth c s.heap [] 0 0 (lw_Z below #[Value.ref b] s) (entryFrame m ([Value.ref b] : List Value).toArray 4) := by
  obtain ⟨hx, hb, hr, hml, hown, hts, hX, hbl, hlocks, hgv⟩ := id C0
  obtain ⟨dC, dI, hKc⟩ := zAcls hts
  obtain ⟨a7, b7, c7⟩ := zAarr hts zz_aci
  obtain ⟨a8, b8, c8⟩ := zAarr hts zz_acj
  obtain ⟨a9, b9, c9⟩ := zAarr hts zz_acb
  obtain ⟨a10, b10, c10⟩ := zAobj hts zz_aoB
  obtain ⟨a11, b11, c11⟩ := zAobj hts zz_aoT
  obtain ⟨a12, b12, c12⟩ := zAarr2 hts zz_aoI
  obtain ⟨a13, b13, c13⟩ := zAarr2 hts zz_aoJ
  obtain ⟨g, hg⟩ : ∃ g : ZG, g = (s.heap.size, b, L, xs, dC, dI, fun k => if k = 7 then a7 else if k = 8 then a8 else if k = 9 then a9 else if k = 10 then a10 else if k = 11 then a11 else if k = 12 then a12 else a13) := ⟨_, rfl⟩
  have hgB : gB g = s.heap.size := by rw [hg]; rfl
  have hgS : gS g = b := by rw [hg]; rfl
  have hgL : gL g = L := by rw [hg]; rfl
  have hgX : gX g = xs := by rw [hg]; rfl
  have hgC : gC g = dC := by rw [hg]; rfl
  have hgI : gI g = dI := by rw [hg]; rfl
  have hK : va_K (gC g, gI g) vwCl (ztys g) s := by
    refine ⟨fun k q hq => by rw [hgC, hgI]; exact hKc k q hq, fun k q hq => ?_⟩
    have e7 : gA g 7 = a7 := by rw [hg]; rfl
    have e8 : gA g 8 = a8 := by rw [hg]; rfl
    have e9 : gA g 9 = a9 := by rw [hg]; rfl
    have e10 : gA g 10 = a10 := by rw [hg]; rfl
    have e11 : gA g 11 = a11 := by rw [hg]; rfl
    have e12 : gA g 12 = a12 := by rw [hg]; rfl
    have e13 : gA g 13 = a13 := by rw [hg]; rfl
    unfold ztys at hq
    rw [e7, e8, e9, e10, e11, e12, e13] at hq
    match k, hq with
    | 0, hq => cases hq; exact ⟨b7, c7⟩
    | 1, hq => cases hq; exact ⟨b8, c8⟩
    | 2, hq => cases hq; exact ⟨b9, c9⟩
    | 3, hq => cases hq; exact ⟨b10, c10⟩
    | 4, hq => cases hq; exact ⟨b11, c11⟩
    | 5, hq => cases hq; exact ⟨b12, c12⟩
    | 6, hq => cases hq; exact ⟨b13, c13⟩
    | k + 7, hq => simp at hq
  have hN : zNw s := by
    refine ⟨fun e he hk => ?_, va_AO.of (hts _ (List.mem_of_getElem? zz_aoB)), va_AO.of (hts _ (List.mem_of_getElem? zz_aoT)), hts _ (List.mem_of_getElem? zz_aoI), hts _ (List.mem_of_getElem? zz_aoJ)⟩
    have h1 := zzL_ok e he
    rw [if_neg (by rcases hk with h | h <;> omega), if_neg (by rcases hk with h | h <;> omega)] at h1
    obtain ⟨q, hq, h2⟩ := (Option.any_eq_true _ _).mp h1
    have e1 : zzA e.2.2.1 = q := by unfold zzA; rw [hq]; rfl
    rw [e1]
    simp only [Bool.and_eq_true] at h2
    have h3 := h2.2
    rw [if_neg (by rcases hk with h | h <;> omega), if_neg (by rcases hk with h | h <;> omega), if_neg (by rcases hk with h | h <;> omega)] at h3
    rcases hk with hk | hk
    · rw [if_pos hk] at h3
      exact va_Nw.of rfl (hts _ (List.mem_of_getElem? (of_decide_eq_true h3).1))
    · rw [if_neg (by omega)] at h3
      exact va_Nw.of rfl (hts _ (List.mem_of_getElem? (of_decide_eq_true h3).1))
  have hX0 : zX p room_1 s m #[Value.ref b] meth c g zLAW 1000 := ⟨hx, hb, hml, hown, fun w hw => hts w (List.mem_filter.mp hw).1, hK, hN, fun hn => absurd hn (by rw [zzA_law]; decide), Nat.le_of_eq hgB, by rw [hgS, hgB]; exact hbl, by rw [hgS, hgL, hgX]; exact hX, Nat.le_of_ble_eq_true rfl, Nat.le_of_ble_eq_true rfl⟩
  obtain ⟨f, ⟨r, h'⟩, hex, hr1, hn1, hz1⟩ := hpure
  have hr1 : r = some (zint 1) := hr1
  have hn1 : xn h' ≤ 600000 := hn1
  have hz1 : xz h' ≤ 7302250 := hz1
  subst hr1
  obtain ⟨-, hS⟩ := zsim f 1000 zLAW _ _ h' hex
  have hH : zH g (zh0 L xs) s.heap := by
    refine ⟨by rw [hgB]; rfl, Nat.zero_le _, ⟨rfl, by rw [hgL]; rfl, by rw [hgL]; omega, fun i hi => by rw [hgX]; rfl⟩, fun k hk => absurd hk (Nat.not_lt_zero _)⟩
  have key : zK p l e room_1 s m #[Value.ref b] below meth c (lw_Z below #[Value.ref b] s) g zLAW 0 0 (zent zLAW [zrf zSC] (zh0 L xs)) := by
    refine hS p l e room_1 s m _ below meth c _ g 0 0 hX0 ⟨by rw [Nat.zero_add]; exact hn1, by rw [Nat.zero_add]; exact hz1⟩ ?_
    intro i pc LL S hd hs H ls locs cells slots hH2 hl hSS hc hz
    have hc : 0 + cells = xn h' := hc
    have hz : 0 + slots = xz h' := hz
    obtain ⟨-, ⟨rfl, x, rfl, hx1, -⟩ | ⟨rfl, x, rfl, hx1, -⟩ | ⟨rfl, x, rfl, hx1, -⟩ | ⟨rfl, rfl, hx1, -⟩⟩ := zret_is hs
    · cases hx1
      refine va_forget (fun q hq => by have := hSS.2.2 q hq; rw [hgB] at this; exact this) ?_
      refine W.widen (k := 600000) (n := 7302250) (by omega) (by omega) ?_
      exact lw_ret hx hb hr hlocks hd
    · cases hx1
    · cases hx1
    · cases hx1
  have hav : ([zrf zSC] : List AV).map (zcv g) = [Value.ref b] := by
    show [zcr g zSC] = _
    rw [show zcr g zSC = .ref (gS g) from rfl, hgS]
  have hent := zL_ent (g := g) (t := zLAW) (as := [zrf zSC]) (h := zh0 L xs) (by rw [zzA_law]; exact Nat.le_of_ble_eq_true rfl)
  rw [hav] at hent
  rw [lg_entry_eq]
  exact key s.heap _ [] 0 0 hH hent (by exact va_S.rf) rfl rfl
