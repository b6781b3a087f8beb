/-! the abstract machine's steps are the machine's: what the one's states say of the other's; one theorem an instruction -/
abbrev ZG : Type := Nat × Nat × Nat × (Nat → Int32) × (Nat → ClassId) × (Nat → Nat → Nat) × (Nat → ClassId)
def gB (g : ZG) : Nat := g.1
def gS (g : ZG) : Nat := g.2.1
def gL (g : ZG) : Nat := g.2.2.1
def gX (g : ZG) : Nat → Int32 := g.2.2.2.1
def gC (g : ZG) : Nat → ClassId := g.2.2.2.2.1
def gI (g : ZG) : Nat → Nat → Nat := g.2.2.2.2.2.1
def gA (g : ZG) : Nat → ClassId := g.2.2.2.2.2.2
def zcr (g : ZG) (r : Int) : Value := if r < 0 then .null else if r = zSC then .ref (gS g) else .ref (gB g + r.toNat)
def zcv (g : ZG) : AV → Value
  | .inl x => .int (Int32.ofInt x)
  | .inr (.inl x) => .long (Int64.ofInt x)
  | .inr (.inr (some r)) => zcr g r
  | .inr (.inr none) => .null
def zset : AV → Bool
  | .inr (.inr none) => false
  | _ => true
theorem zcr_or (g : ZG) (r : Int) : zcr g r = .null ∨ ∃ a, zcr g r = .ref a := by
  unfold zcr
  by_cases h : r < 0
  · left; rw [if_pos h]
  · right
    rw [if_neg h]
    by_cases h2 : r = zSC
    · exact ⟨gS g, by rw [if_pos h2]⟩
    · exact ⟨gB g + r.toNat, by rw [if_neg h2]⟩
theorem zcr_pos {g : ZG} {r : Int} (h : 0 ≤ r) (h2 : r < 1000000) : zcr g r = .ref (gB g + r.toNat) := by
  unfold zcr
  rw [if_neg (by omega), if_neg (by unfold zSC; omega)]
theorem zcr_cat (g : ZG) (r : Int) : (zcr g r).category = 1 := by
  rcases zcr_or g r with h | ⟨a, h⟩ <;> rw [h] <;> rfl
theorem zcv_cat (g : ZG) (v : AV) : (zcv g v).category = zw1 v := by
  rcases v with x | x | _ | r
  · rfl
  · rfl
  · rfl
  · exact zcr_cat g r
theorem zw1_long {v : AV} (h : zlong v = false) : zw1 v = 1 := by
  rcases v with x | x | _ | r
  · rfl
  · cases h
  · rfl
  · rfl
theorem zws_sum (g : ZG) : ∀ S : List AV, ((S.map (zcv g)).map fun v => v.category).sum = zws S
  | [] => rfl
  | v :: S => by
    simp only [List.map_cons, List.sum_cons, zws]
    rw [zcv_cat, zws_sum g S]
/-- the locals -/
def zal (g : ZG) (L : List AV) : List (Nat × Value) := (List.range L.length).filterMap (fun i => if zset (zld L i) = true then some (i, zcv g (zld L i)) else none)
theorem zal_mem {g : ZG} {L : List AV} {i : Nat} (h : i < L.length) (hs : zset (zld L i) = true) : (i, zcv g (zld L i)) ∈ zal g L :=
  List.mem_filterMap.mpr ⟨i, List.mem_range.mpr h, if_pos hs⟩
theorem zal_of {g : ZG} {L : List AV} {q : Nat × Value} (h : q ∈ zal g L) : q.1 < L.length ∧ zset (zld L q.1) = true ∧ q.2 = zcv g (zld L q.1) := by
  obtain ⟨i, hi, he⟩ := List.mem_filterMap.mp h
  by_cases hs : zset (zld L i) = true
  · rw [if_pos hs] at he
    cases he
    exact ⟨List.mem_range.mp hi, hs, rfl⟩
  · rw [if_neg hs] at he
    cases he
def zL (g : ZG) (mi : Nat) (L : List AV) (ls : Array Slot) : Prop := L.length ≤ (zzA mi).1.2.2.1 ∧ lv_has ls (zzA mi).1.2.2.1 (zal g L)
theorem zld_lt {L : List AV} {k : Nat} (h : zset (zld L k) = true) : k < L.length := by
  rcases Nat.lt_or_ge k L.length with h1 | h1
  · exact h1
  · unfold zld at h
    rw [List.getElem?_eq_none h1] at h
    cases h
theorem zL_at {g : ZG} {mi : Nat} {L : List AV} {ls : Array Slot} (h : zL g mi L ls) {k : Nat} {v : AV} (hv : zld L k = v) (hs : zset v = true) : ls[k]? = some (.val (zcv g v)) := by
  subst hv
  exact h.2.2.2 _ (zal_mem (zld_lt hs) hs)
theorem zld_set {L : List AV} {k : Nat} (v : AV) (hk : k < L.length) (i : Nat) : zld (L.set k v) i = if i = k then v else zld L i := by
  unfold zld
  rw [List.getElem?_set]
  by_cases h : k = i
  · subst h
    simp [hk]
  · rw [if_neg h, if_neg (fun q => h q.symm)]
theorem zL_st1 {g : ZG} {mi : Nat} {L L' : List AV} {ls ls' : Array Slot} {k : Nat} {v : AV} (h : zL g mi L ls) (he : zst1 L k v = some L')
    (h' : lv_has ls' (zzA mi).1.2.2.1 ((k, zcv g v) :: (zal g L).filter (fun q => !(q.1 == k) && !(q.1 + 1 == k && q.2.category == 2)))) : zL g mi L' ls' := by
  unfold zst1 at he
  by_cases hc : k < L.length ∧ (k = 0 ∨ zlong (zld L (k - 1)) = false)
  · rw [if_pos hc] at he
    cases he
    refine ⟨by rw [List.length_set]; exact h.1, h'.1, h'.2.1, fun q hq => ?_⟩
    obtain ⟨h1, h2, h3⟩ := zal_of hq
    rw [List.length_set] at h1
    rw [h3]
    rw [zld_set v hc.1] at h2 ⊢
    by_cases hk : q.1 = k
    · rw [if_pos hk, hk]
      exact h'.2.2 _ List.mem_cons_self
    · rw [if_neg hk] at h2 ⊢
      refine h'.2.2 (q.1, zcv g (zld L q.1)) (List.mem_cons_of_mem _ (List.mem_filter.mpr ⟨zal_mem h1 h2, ?_⟩))
      simp only [Bool.and_eq_true, Bool.not_eq_true', beq_eq_false_iff_ne, ne_eq, Bool.and_eq_false_iff]
      refine ⟨hk, ?_⟩
      by_cases hk2 : q.1 + 1 = k
      · right
        rcases hc.2 with h0 | h0
        · omega
        · have e : k - 1 = q.1 := by omega
          rw [e] at h0
          rw [zcv_cat, zw1_long h0]
          decide
      · left; exact hk2
  · rw [if_neg hc] at he
    cases he
theorem zst1_lt {L L' : List AV} {k : Nat} {v : AV} (he : zst1 L k v = some L') : k < L.length := by
  unfold zst1 at he
  by_cases hc : k < L.length ∧ (k = 0 ∨ zlong (zld L (k - 1)) = false)
  · exact hc.1
  · rw [if_neg hc] at he
    cases he
theorem zst2_lt {L L' : List AV} {k : Nat} {v : AV} (he : zst2 L k v = some L') : k + 1 < L.length := by
  unfold zst2 at he
  by_cases hc : k + 1 < L.length ∧ (k = 0 ∨ zlong (zld L (k - 1)) = false)
  · exact hc.1
  · rw [if_neg hc] at he
    cases he
theorem zL_st2 {g : ZG} {mi : Nat} {L L' : List AV} {ls ls' : Array Slot} {k : Nat} {v : AV} (h : zL g mi L ls) (he : zst2 L k v = some L')
    (h' : lv_has ls' (zzA mi).1.2.2.1 ((k, zcv g v) :: (zal g L).filter (fun q => !(q.1 == k) && (!(q.1 == k + 1) && !(q.1 + 1 == k && q.2.category == 2))))) : zL g mi L' ls' := by
  unfold zst2 at he
  by_cases hc : k + 1 < L.length ∧ (k = 0 ∨ zlong (zld L (k - 1)) = false)
  · rw [if_pos hc] at he
    cases he
    refine ⟨by rw [List.length_set, List.length_set]; exact h.1, h'.1, h'.2.1, fun q hq => ?_⟩
    obtain ⟨h1, h2, h3⟩ := zal_of hq
    rw [List.length_set, List.length_set] at h1
    rw [h3]
    rw [zld_set _ (by rw [List.length_set]; exact hc.1), zld_set v (by omega)] at h2 ⊢
    by_cases hk1 : q.1 = k + 1
    · rw [if_pos hk1] at h2
      cases h2
    rw [if_neg hk1] at h2 ⊢
    by_cases hk : q.1 = k
    · rw [if_pos hk, hk]
      exact h'.2.2 _ List.mem_cons_self
    · rw [if_neg hk] at h2 ⊢
      refine h'.2.2 (q.1, zcv g (zld L q.1)) (List.mem_cons_of_mem _ (List.mem_filter.mpr ⟨zal_mem h1 h2, ?_⟩))
      simp only [Bool.and_eq_true, Bool.not_eq_true', beq_eq_false_iff_ne, ne_eq, Bool.and_eq_false_iff]
      refine ⟨hk, hk1, ?_⟩
      by_cases hk2 : q.1 + 1 = k
      · right
        rcases hc.2 with h0 | h0
        · omega
        · have e : k - 1 = q.1 := by omega
          rw [e] at h0
          rw [zcv_cat, zw1_long h0]
          decide
      · left; exact hk2
  · rw [if_neg hc] at he
    cases he
/-- the heap -/
def zfv (g : ZG) (h : XH) (kd k j : Nat) : Value :=
  if kd < 7 then (if zzref kd j = true then zcr g (xr h k j) else .int (Int32.ofInt (xs h k j))) else if kd = 8 then .long (Int64.ofInt (xs h k j)) else if kd < 10 then .int (Int32.ofInt (xs h k j)) else zcr g (xr h k j)
def zat (g : ZG) (h : XH) (k : Nat) (H : Heap) : Prop :=
  (xk h k < 7 ∧ t_OB (gB g + k) (gC g (xk h k)) (zznf (xk h k)) (gI g (xk h k)) H (zfv g h (xk h k) k)) ∨
  (7 ≤ xk h k ∧ xk h k < 14 ∧ H[gB g + k]? = some (arrV (gA g (xk h k)) (xl h k).toNat (zfv g h (xk h k) k)))
def zscr (g : ZG) (h : XH) : Prop := xk h zSC = 7 ∧ xl h zSC = gL g ∧ gL g < 2147483648 ∧ ∀ i : Nat, i < gL g → xs h zSC i = (gX g i).toInt
def zH (g : ZG) (h : XH) (H : Heap) : Prop := H.size = gB g + xn h ∧ xn h ≤ 1000000 ∧ zscr g h ∧ ∀ k : Nat, k < xn h → zat g h k H
def ztys (g : ZG) : List (ClassId × FieldType) := [(gA g 7, .int), (gA g 8, .long), (gA g 9, .byte), (gA g 10, .object "LooseGrid$Box"), (gA g 11, .object "LooseGrid$Tape"), (gA g 12, .array .int), (gA g 13, .array .long)]
def zzWs : List Cond := lw_tbl.filter goodWord
theorem zW_mem {i : Nat} {w : Cond} (h : lw_tbl[i]? = some w) (hg : goodWord w = true) : w ∈ zzWs := List.mem_filter.mpr ⟨List.mem_of_getElem? h, hg⟩
def zAOA (t : FieldType) (U : State) : Prop := (Cond.arrayOver (.array t)).before #[] U = true
def zNw (s : State) : Prop := (∀ e ∈ zzL, (e.2.1 = 3 ∨ e.2.1 = 4) → va_Nw (.methodLinkNest (zzR e.1.1) e.1.2 (zzA e.2.2.1).1.1 "LooseGrid") s) ∧ va_AO "LooseGrid$Box" s ∧ va_AO "LooseGrid$Tape" s ∧ zAOA .int s ∧ zAOA .long s
def zX (p : Program) (R : Room) (s : State) (m : MethodId) (args : Array Value) (meth : Method) (c : Code) (g : ZG) (mi d : Nat) : Prop :=
  p.tables.exec = Jvm.exec ∧ c.code = (zzA mi).1.2.1 ∧ c.maxLocals = (zzA mi).1.2.2.1 ∧ s.vm.findClass (zzR (zzown mi)) = some m.cls ∧ (∀ w ∈ zzWs, w.before args s = true) ∧ va_K (gC g, gI g) vwCl (ztys g) s ∧ zNw s ∧ ((zzA mi).1.1.name = "<init>" → meth.name = "<init>") ∧ gB g ≤ s.heap.size ∧ gS g < gB g ∧ va_X (gS g) (gL g) (gX g) s s.heap ∧ d + 1 ≤ R.frames ∧ 60 * d + 60 ≤ R.locals
def zK (p : Program) (l : Launch) (e : Env) (R : Room) (s : State) (m : MethodId) (args : Array Value) (below : List Frame) (meth : Method) (c : Code) (Q : State → Prop) (g : ZG) (mi n0 z0 : Nat) (x : XC) : Prop :=
  ∀ (H : Heap) (ls : Array Slot) (locs : List Loc) (cells slots : Nat), zH g x.2.2.2 H → zL g mi x.2.1 ls → va_S (fun q => gB g ≤ q) s.heap H locs → n0 + cells = xn x.2.2.2 → z0 + slots = xz x.2.2.2 → W p l e R s m args below meth c H locs cells slots Q (F0 m x.1 ls (x.2.2.1.map (zcv g)))
/-! numbers -/
theorem zi_to {x : Int} (h : zIb x = true) : (Int32.ofInt x).toInt = x := by
  have h := zIb_iff.mp h
  exact Int32.toInt_ofInt_of_le (by omega) (by omega)
theorem zj_to {x : Int} (h : zJb x = true) : (Int64.ofInt x).toInt = x := by
  have h := zJb_iff.mp h
  exact Int64.toInt_ofInt_of_le (by omega) (by omega)
theorem zi_eq {x y : Int} (hx : zIb x = true) (hy : zIb y = true) : Int32.ofInt x = Int32.ofInt y ↔ x = y := by
  rw [← Int32.toInt_inj, zi_to hx, zi_to hy]
theorem zi_lt {x y : Int} (hx : zIb x = true) (hy : zIb y = true) : Int32.ofInt x < Int32.ofInt y ↔ x < y := by
  rw [Int32.lt_iff_toInt_lt, zi_to hx, zi_to hy]
theorem zi_le {x y : Int} (hx : zIb x = true) (hy : zIb y = true) : Int32.ofInt x ≤ Int32.ofInt y ↔ x ≤ y := by
  rw [Int32.le_iff_toInt_le, zi_to hx, zi_to hy]
theorem zi_0 : (0 : Int32) = Int32.ofInt 0 := rfl
theorem zIb_0 : zIb 0 = true := rfl
theorem zi_div {x y : Int} (hx : zIb x = true) (hy : zIb y = true) : Int32.ofInt x / Int32.ofInt y = Int32.ofInt (x.tdiv y) := by
  have hx := zIb_iff.mp hx
  have hy := zIb_iff.mp hy
  have e1 : Int32.maxValue.toInt = 2147483647 := by decide
  have e2 : Int32.minValue.toInt = -2147483648 := by decide
  exact (Int32.ofInt_tdiv (by omega) (by omega) (by omega) (by omega)).symm
theorem zi_tmod (x y : Int) : x.tmod y = x - x.tdiv y * y := by
  rw [Int.tmod_def, Int.mul_comm]
theorem zi_rem {x y : Int} (hx : zIb x = true) (hy : zIb y = true) : Int32.ofInt x - Int32.ofInt x / Int32.ofInt y * Int32.ofInt y = Int32.ofInt (x.tmod y) := by
  rw [zi_div hx hy, zi_tmod, Int32.ofInt_sub, Int32.ofInt_mul]
theorem zi_clamp {i n : Int} (h : zrng i n = true) (hn : zIb n = true) : ¬ (Int32.ofInt i < 0) ∧ (Int32.ofInt i).toNatClampNeg = i.toNat := by
  have h := zrng_iff.mp h
  have hn := zIb_iff.mp hn
  have hi : zIb i = true := zIb_iff.mpr (by omega)
  refine ⟨fun q => ?_, ?_⟩
  · rw [zi_0, zi_lt hi zIb_0] at q
    omega
  · show (Int32.ofInt i).toInt.toNat = i.toNat
    rw [zi_to hi]

section ZO
variable {p : Program} {l : Launch} {e : Env} {R : Room} {s : State} {m : MethodId} {args : Array Value} {below : List Frame} {meth : Method} {c : Code} {Q : State → Prop}
variable {g : ZG} {mi d n0 z0 pc : Nat} {L S : List AV} {h : XH} {x' : XC}
theorem zo_iload {q : Nat} (X : zX p R s m args meth c g mi d) (hd : decode (zzA mi).1.2.1 pc = .ok (.iload q, 2)) (hs : zop mi (.iload q) pc L S h = some (.inl x')) (k : zK p l e R s m args below meth c Q g mi n0 z0 x') : zK p l e R s m args below meth c Q g mi n0 z0 (pc, L, S, h) := by
  intro H ls locs cells slots hH hl hS hc hz
  simp only [zop, zlI, zn] at hs
  rcases hv : zld L q with y | y <;> rw [hv] at hs <;> cases hs
  exact lv_iload X.1 X.2.1 hd (zL_at hl hv rfl) (k H ls locs cells slots hH hl hS hc hz)
theorem zo_iload_n {q : Fin 4} (X : zX p R s m args meth c g mi d) (hd : decode (zzA mi).1.2.1 pc = .ok (.iload_n q, 1)) (hs : zop mi (.iload_n q) pc L S h = some (.inl x')) (k : zK p l e R s m args below meth c Q g mi n0 z0 x') : zK p l e R s m args below meth c Q g mi n0 z0 (pc, L, S, h) := by
  intro H ls locs cells slots hH hl hS hc hz
  simp only [zop, zlI, zn] at hs
  rcases hv : zld L (q : Nat) with y | y <;> rw [hv] at hs <;> cases hs
  exact lv_iload_n X.1 X.2.1 hd rfl (zL_at hl hv rfl) (k H ls locs cells slots hH hl hS hc hz)
theorem zo_lload {q : Nat} (X : zX p R s m args meth c g mi d) (hd : decode (zzA mi).1.2.1 pc = .ok (.lload q, 2)) (hs : zop mi (.lload q) pc L S h = some (.inl x')) (k : zK p l e R s m args below meth c Q g mi n0 z0 x') : zK p l e R s m args below meth c Q g mi n0 z0 (pc, L, S, h) := by
  intro H ls locs cells slots hH hl hS hc hz
  simp only [zop, zlL, zn] at hs
  rcases hv : zld L q with y | y | _ | y <;> rw [hv] at hs <;> cases hs
  exact lv_lload X.1 X.2.1 hd (zL_at hl hv rfl) (k H ls locs cells slots hH hl hS hc hz)
theorem zo_lload_n {q : Fin 4} (X : zX p R s m args meth c g mi d) (hd : decode (zzA mi).1.2.1 pc = .ok (.lload_n q, 1)) (hs : zop mi (.lload_n q) pc L S h = some (.inl x')) (k : zK p l e R s m args below meth c Q g mi n0 z0 x') : zK p l e R s m args below meth c Q g mi n0 z0 (pc, L, S, h) := by
  intro H ls locs cells slots hH hl hS hc hz
  simp only [zop, zlL, zn] at hs
  rcases hv : zld L (q : Nat) with y | y | _ | y <;> rw [hv] at hs <;> cases hs
  exact lv_lload_n X.1 X.2.1 hd rfl (zL_at hl hv rfl) (k H ls locs cells slots hH hl hS hc hz)
theorem zo_aload {q : Nat} (X : zX p R s m args meth c g mi d) (hd : decode (zzA mi).1.2.1 pc = .ok (.aload q, 2)) (hs : zop mi (.aload q) pc L S h = some (.inl x')) (k : zK p l e R s m args below meth c Q g mi n0 z0 x') : zK p l e R s m args below meth c Q g mi n0 z0 (pc, L, S, h) := by
  intro H ls locs cells slots hH hl hS hc hz
  simp only [zop, zlA, zn] at hs
  rcases hv : zld L q with y | y | _ | y <;> rw [hv] at hs <;> cases hs
  have h1 := zL_at hl hv rfl
  have h2 := k H ls locs cells slots hH hl hS hc hz
  simp only [zrf, List.map_cons, zcv] at h1 h2
  rcases zcr_or g y with e1 | ⟨a, e1⟩
  · rw [e1] at h1 h2
    exact lv_aloadN X.1 X.2.1 hd h1 h2
  · rw [e1] at h1 h2
    exact lv_aload X.1 X.2.1 hd h1 h2
theorem zo_aload_n {q : Fin 4} (X : zX p R s m args meth c g mi d) (hd : decode (zzA mi).1.2.1 pc = .ok (.aload_n q, 1)) (hs : zop mi (.aload_n q) pc L S h = some (.inl x')) (k : zK p l e R s m args below meth c Q g mi n0 z0 x') : zK p l e R s m args below meth c Q g mi n0 z0 (pc, L, S, h) := by
  intro H ls locs cells slots hH hl hS hc hz
  simp only [zop, zlA, zn] at hs
  rcases hv : zld L (q : Nat) with y | y | _ | y <;> rw [hv] at hs <;> cases hs
  have h1 := zL_at hl hv rfl
  have h2 := k H ls locs cells slots hH hl hS hc hz
  simp only [zrf, List.map_cons, zcv] at h1 h2
  rcases zcr_or g y with e1 | ⟨a, e1⟩
  · rw [e1] at h1 h2
    exact lv_aload_nN X.1 X.2.1 hd rfl h1 h2
  · rw [e1] at h1 h2
    exact lv_aload_n X.1 X.2.1 hd rfl h1 h2
theorem zo_istore {q : Nat} (X : zX p R s m args meth c g mi d) (hd : decode (zzA mi).1.2.1 pc = .ok (.istore q, 2)) (hs : zop mi (.istore q) pc L S h = some (.inl x')) (k : zK p l e R s m args below meth c Q g mi n0 z0 x') : zK p l e R s m args below meth c Q g mi n0 z0 (pc, L, S, h) := by
  intro H ls locs cells slots hH hl hS hc hz
  simp only [zop] at hs
  rcases S with _ | ⟨y | y, r⟩ <;> simp only [zSI, zs1, zn] at hs <;> try (cases hs; done)
  cases hv : zst1 L q (zint y) with
  | none => rw [hv] at hs; cases hs
  | some L' =>
    rw [hv] at hs
    cases hs
    exact lv_istore X.1 X.2.1 hd hl.2 (Nat.lt_of_lt_of_le (zst1_lt hv) hl.1) rfl (fun ls' hl' => k H ls' locs cells slots hH (zL_st1 hl hv hl') hS hc hz)
theorem zo_istore_n {q : Fin 4} (X : zX p R s m args meth c g mi d) (hd : decode (zzA mi).1.2.1 pc = .ok (.istore_n q, 1)) (hs : zop mi (.istore_n q) pc L S h = some (.inl x')) (k : zK p l e R s m args below meth c Q g mi n0 z0 x') : zK p l e R s m args below meth c Q g mi n0 z0 (pc, L, S, h) := by
  intro H ls locs cells slots hH hl hS hc hz
  simp only [zop] at hs
  rcases S with _ | ⟨y | y, r⟩ <;> simp only [zSI, zs1, zn] at hs <;> try (cases hs; done)
  cases hv : zst1 L (q : Nat) (zint y) with
  | none => rw [hv] at hs; cases hs
  | some L' =>
    rw [hv] at hs
    cases hs
    exact lv_istore_n X.1 X.2.1 hd rfl hl.2 (Nat.lt_of_lt_of_le (zst1_lt hv) hl.1) rfl (fun ls' hl' => k H ls' locs cells slots hH (zL_st1 hl hv hl') hS hc hz)
theorem zo_lstore {q : Nat} (X : zX p R s m args meth c g mi d) (hd : decode (zzA mi).1.2.1 pc = .ok (.lstore q, 2)) (hs : zop mi (.lstore q) pc L S h = some (.inl x')) (k : zK p l e R s m args below meth c Q g mi n0 z0 x') : zK p l e R s m args below meth c Q g mi n0 z0 (pc, L, S, h) := by
  intro H ls locs cells slots hH hl hS hc hz
  simp only [zop] at hs
  rcases S with _ | ⟨y | y | _ | y, r⟩ <;> simp only [zSL, zs2, zn] at hs <;> try (cases hs; done)
  cases hv : zst2 L q (zlng y) with
  | none => rw [hv] at hs; cases hs
  | some L' =>
    rw [hv] at hs
    cases hs
    exact lv_lstore X.1 X.2.1 hd hl.2 (Nat.lt_of_lt_of_le (zst2_lt hv) hl.1) rfl (fun ls' hl' => k H ls' locs cells slots hH (zL_st2 hl hv hl') hS hc hz)
theorem zo_lstore_n {q : Fin 4} (X : zX p R s m args meth c g mi d) (hd : decode (zzA mi).1.2.1 pc = .ok (.lstore_n q, 1)) (hs : zop mi (.lstore_n q) pc L S h = some (.inl x')) (k : zK p l e R s m args below meth c Q g mi n0 z0 x') : zK p l e R s m args below meth c Q g mi n0 z0 (pc, L, S, h) := by
  intro H ls locs cells slots hH hl hS hc hz
  simp only [zop] at hs
  rcases S with _ | ⟨y | y | _ | y, r⟩ <;> simp only [zSL, zs2, zn] at hs <;> try (cases hs; done)
  cases hv : zst2 L (q : Nat) (zlng y) with
  | none => rw [hv] at hs; cases hs
  | some L' =>
    rw [hv] at hs
    cases hs
    exact lv_lstore_n X.1 X.2.1 hd rfl hl.2 (Nat.lt_of_lt_of_le (zst2_lt hv) hl.1) rfl (fun ls' hl' => k H ls' locs cells slots hH (zL_st2 hl hv hl') hS hc hz)
theorem zo_astore {q : Nat} (X : zX p R s m args meth c g mi d) (hd : decode (zzA mi).1.2.1 pc = .ok (.astore q, 2)) (hs : zop mi (.astore q) pc L S h = some (.inl x')) (k : zK p l e R s m args below meth c Q g mi n0 z0 x') : zK p l e R s m args below meth c Q g mi n0 z0 (pc, L, S, h) := by
  intro H ls locs cells slots hH hl hS hc hz
  simp only [zop] at hs
  rcases S with _ | ⟨y | y | _ | y, r⟩ <;> simp only [zSA, zs1, zn] at hs <;> try (cases hs; done)
  cases hv : zst1 L q (zrf y) with
  | none => rw [hv] at hs; cases hs
  | some L' =>
    rw [hv] at hs
    cases hs
    simp only [List.map_cons, zcv]
    rcases zcr_or g y with e1 | ⟨a, e1⟩
    · rw [e1]
      exact lv_astoreN X.1 X.2.1 hd hl.2 (Nat.lt_of_lt_of_le (zst1_lt hv) hl.1) rfl (fun ls' hl' => k H ls' locs cells slots hH (zL_st1 hl hv (by rw [show zcv g (zrf y) = .null from e1]; exact hl')) hS hc hz)
    · rw [e1]
      exact lv_astore X.1 X.2.1 hd hl.2 (Nat.lt_of_lt_of_le (zst1_lt hv) hl.1) rfl (fun ls' hl' => k H ls' locs cells slots hH (zL_st1 hl hv (by rw [show zcv g (zrf y) = .ref a from e1]; exact hl')) hS hc hz)
theorem zo_astore_n {q : Fin 4} (X : zX p R s m args meth c g mi d) (hd : decode (zzA mi).1.2.1 pc = .ok (.astore_n q, 1)) (hs : zop mi (.astore_n q) pc L S h = some (.inl x')) (k : zK p l e R s m args below meth c Q g mi n0 z0 x') : zK p l e R s m args below meth c Q g mi n0 z0 (pc, L, S, h) := by
  intro H ls locs cells slots hH hl hS hc hz
  simp only [zop] at hs
  rcases S with _ | ⟨y | y | _ | y, r⟩ <;> simp only [zSA, zs1, zn] at hs <;> try (cases hs; done)
  cases hv : zst1 L (q : Nat) (zrf y) with
  | none => rw [hv] at hs; cases hs
  | some L' =>
    rw [hv] at hs
    cases hs
    simp only [List.map_cons, zcv]
    rcases zcr_or g y with e1 | ⟨a, e1⟩
    · rw [e1]
      exact lv_astore_nN X.1 X.2.1 hd rfl hl.2 (Nat.lt_of_lt_of_le (zst1_lt hv) hl.1) rfl (fun ls' hl' => k H ls' locs cells slots hH (zL_st1 hl hv (by rw [show zcv g (zrf y) = .null from e1]; exact hl')) hS hc hz)
    · rw [e1]
      exact lv_astore_n X.1 X.2.1 hd rfl hl.2 (Nat.lt_of_lt_of_le (zst1_lt hv) hl.1) rfl (fun ls' hl' => k H ls' locs cells slots hH (zL_st1 hl hv (by rw [show zcv g (zrf y) = .ref a from e1]; exact hl')) hS hc hz)
theorem zo_iinc {q : Nat} {n : Int} (X : zX p R s m args meth c g mi d) (hd : decode (zzA mi).1.2.1 pc = .ok (.iinc q n, 3)) (hs : zop mi (.iinc q n) pc L S h = some (.inl x')) (k : zK p l e R s m args below meth c Q g mi n0 z0 x') : zK p l e R s m args below meth c Q g mi n0 z0 (pc, L, S, h) := by
  intro H ls locs cells slots hH hl hS hc hz
  simp only [zop, zlI, zs1, zn] at hs
  rcases hv : zld L q with y | y <;> rw [hv] at hs <;> simp only at hs <;> try (cases hs; done)
  cases hw : zst1 L q (zint (y + n)) with
  | none => rw [hw] at hs; cases hs
  | some L' =>
    rw [hw] at hs
    cases hs
    have hq : (q, Value.int (Int32.ofInt y)) ∈ zal g L := by
      have := zal_mem (g := g) (zst1_lt hw) (by rw [hv]; rfl)
      rw [hv] at this
      exact this
    obtain ⟨j, hj⟩ := List.getElem?_of_mem hq
    exact lv_iinc X.1 X.2.1 hd hl.2 hj (Int32.ofInt_add y n).symm (Nat.lt_of_lt_of_le (zst1_lt hw) hl.1) rfl (fun ls' hl' => k H ls' locs cells slots hH (zL_st1 hl hw hl') hS hc hz)
theorem zo_iconst {n : Int} (X : zX p R s m args meth c g mi d) (hd : decode (zzA mi).1.2.1 pc = .ok (.iconst n, 1)) (hs : zop mi (.iconst n) pc L S h = some (.inl x')) (k : zK p l e R s m args below meth c Q g mi n0 z0 x') : zK p l e R s m args below meth c Q g mi n0 z0 (pc, L, S, h) := by
  intro H ls locs cells slots hH hl hS hc hz
  simp only [zop, zn] at hs
  cases hs
  exact lv_iconst X.1 X.2.1 hd rfl (k H ls locs cells slots hH hl hS hc hz)
theorem zo_bipush {n : Int} (X : zX p R s m args meth c g mi d) (hd : decode (zzA mi).1.2.1 pc = .ok (.bipush n, 2)) (hs : zop mi (.bipush n) pc L S h = some (.inl x')) (k : zK p l e R s m args below meth c Q g mi n0 z0 x') : zK p l e R s m args below meth c Q g mi n0 z0 (pc, L, S, h) := by
  intro H ls locs cells slots hH hl hS hc hz
  simp only [zop, zif, zn] at hs
  by_cases hr : zrng (n + 128) 256 = true
  · rw [if_pos hr] at hs
    cases hs
    have h1 := zrng_iff.mp hr
    refine lv_bipush X.1 X.2.1 hd (v := Int32.ofInt n) ?_ (k H ls locs cells slots hH hl hS hc hz)
    rw [← Int32.toInt_inj, Int8.toInt_toInt32, Int8.toInt_ofInt_of_le (by omega) (by omega), Int32.toInt_ofInt_of_le (by omega) (by omega)]
  · rw [if_neg hr] at hs
    cases hs
theorem zo_sipush {n : Int} (X : zX p R s m args meth c g mi d) (hd : decode (zzA mi).1.2.1 pc = .ok (.sipush n, 3)) (hs : zop mi (.sipush n) pc L S h = some (.inl x')) (k : zK p l e R s m args below meth c Q g mi n0 z0 x') : zK p l e R s m args below meth c Q g mi n0 z0 (pc, L, S, h) := by
  intro H ls locs cells slots hH hl hS hc hz
  simp only [zop, zif, zn] at hs
  by_cases hr : zrng (n + 32768) 65536 = true
  · rw [if_pos hr] at hs
    cases hs
    have h1 := zrng_iff.mp hr
    refine lv_sipush X.1 X.2.1 hd (v := Int32.ofInt n) ?_ (k H ls locs cells slots hH hl hS hc hz)
    rw [← Int32.toInt_inj, Int16.toInt_toInt32, Int16.toInt_ofInt_of_le (by omega) (by omega), Int32.toInt_ofInt_of_le (by omega) (by omega)]
  · rw [if_neg hr] at hs
    cases hs
theorem zo_lconst {n : Fin 2} (X : zX p R s m args meth c g mi d) (hd : decode (zzA mi).1.2.1 pc = .ok (.lconst n, 1)) (hs : zop mi (.lconst n) pc L S h = some (.inl x')) (k : zK p l e R s m args below meth c Q g mi n0 z0 x') : zK p l e R s m args below meth c Q g mi n0 z0 (pc, L, S, h) := by
  intro H ls locs cells slots hH hl hS hc hz
  simp only [zop, zn] at hs
  cases hs
  exact lv_lconst X.1 X.2.1 hd (by rw [Int64.ofInt_eq_ofNat]) (k H ls locs cells slots hH hl hS hc hz)
theorem zo_aconst_null (X : zX p R s m args meth c g mi d) (hd : decode (zzA mi).1.2.1 pc = .ok (.aconst_null, 1)) (hs : zop mi (.aconst_null) pc L S h = some (.inl x')) (k : zK p l e R s m args below meth c Q g mi n0 z0 x') : zK p l e R s m args below meth c Q g mi n0 z0 (pc, L, S, h) := by
  intro H ls locs cells slots hH hl hS hc hz
  simp only [zop, zn] at hs
  cases hs
  exact lv_null X.1 X.2.1 hd (k H ls locs cells slots hH hl hS hc hz)
theorem zo_ldc {q : Nat} (X : zX p R s m args meth c g mi d) (hd : decode (zzA mi).1.2.1 pc = .ok (.ldc q, 2)) (hs : zop mi (.ldc q) pc L S h = some (.inl x')) (k : zK p l e R s m args below meth c Q g mi n0 z0 x') : zK p l e R s m args below meth c Q g mi n0 z0 (pc, L, S, h) := by
  intro H ls locs cells slots hH hl hS hc hz
  simp only [zop, zlk2, zn] at hs
  cases hv : zzlu zzI (zzown mi) q with
  | none => rw [hv] at hs; cases hs
  | some v =>
    rw [hv] at hs
    cases hs
    have h1 := zzI_ok _ (zzlu_mem _ _ _ _ hv)
    exact lv_ldc X.1 X.2.1 X.2.2.2.1 (X.2.2.2.2.1 _ (zW_mem h1 rfl)) hd (k H ls locs cells slots hH hl hS hc hz)
theorem zo_ldc_w {q : Nat} (X : zX p R s m args meth c g mi d) (hd : decode (zzA mi).1.2.1 pc = .ok (.ldc_w q, 3)) (hs : zop mi (.ldc_w q) pc L S h = some (.inl x')) (k : zK p l e R s m args below meth c Q g mi n0 z0 x') : zK p l e R s m args below meth c Q g mi n0 z0 (pc, L, S, h) := by
  intro H ls locs cells slots hH hl hS hc hz
  simp only [zop, zlk2, zn] at hs
  cases hv : zzlu zzI (zzown mi) q with
  | none => rw [hv] at hs; cases hs
  | some v =>
    rw [hv] at hs
    cases hs
    have h1 := zzI_ok _ (zzlu_mem _ _ _ _ hv)
    exact lv_ldcw X.1 X.2.1 X.2.2.2.1 (X.2.2.2.2.1 _ (zW_mem h1 rfl)) hd (k H ls locs cells slots hH hl hS hc hz)
theorem zo_ldc2_w {q : Nat} (X : zX p R s m args meth c g mi d) (hd : decode (zzA mi).1.2.1 pc = .ok (.ldc2_w q, 3)) (hs : zop mi (.ldc2_w q) pc L S h = some (.inl x')) (k : zK p l e R s m args below meth c Q g mi n0 z0 x') : zK p l e R s m args below meth c Q g mi n0 z0 (pc, L, S, h) := by
  intro H ls locs cells slots hH hl hS hc hz
  simp only [zop, zlk2, zn] at hs
  cases hv : zzlu zzJ (zzown mi) q with
  | none => rw [hv] at hs; cases hs
  | some v =>
    rw [hv] at hs
    cases hs
    have h1 := zzJ_ok _ (zzlu_mem _ _ _ _ hv)
    exact lv_ldc2 X.1 X.2.1 X.2.2.2.1 (X.2.2.2.2.1 _ (zW_mem h1 rfl)) hd (k H ls locs cells slots hH hl hS hc hz)
theorem zo_iadd (X : zX p R s m args meth c g mi d) (hd : decode (zzA mi).1.2.1 pc = .ok (.iadd, 1)) (hs : zop mi (.iadd) pc L S h = some (.inl x')) (k : zK p l e R s m args below meth c Q g mi n0 z0 x') : zK p l e R s m args below meth c Q g mi n0 z0 (pc, L, S, h) := by
  intro H ls locs cells slots hH hl hS hc hz
  simp only [zop] at hs
  rcases S with _ | ⟨y | y, _ | ⟨x | x, r⟩⟩ <;> simp only [zSII, zn, zif] at hs <;> try (cases hs; done)
  cases hs
  refine lv_iadd X.1 X.2.1 hd ?_
  have h2 := k H ls locs cells slots hH hl hS hc hz
  simp only [zint, List.map_cons, zcv] at h2
  rw [Int32.ofInt_add] at h2
  exact h2
theorem zo_isub (X : zX p R s m args meth c g mi d) (hd : decode (zzA mi).1.2.1 pc = .ok (.isub, 1)) (hs : zop mi (.isub) pc L S h = some (.inl x')) (k : zK p l e R s m args below meth c Q g mi n0 z0 x') : zK p l e R s m args below meth c Q g mi n0 z0 (pc, L, S, h) := by
  intro H ls locs cells slots hH hl hS hc hz
  simp only [zop] at hs
  rcases S with _ | ⟨y | y, _ | ⟨x | x, r⟩⟩ <;> simp only [zSII, zn, zif] at hs <;> try (cases hs; done)
  cases hs
  refine lv_isub X.1 X.2.1 hd ?_
  have h2 := k H ls locs cells slots hH hl hS hc hz
  simp only [zint, List.map_cons, zcv] at h2
  rw [Int32.ofInt_sub] at h2
  exact h2
theorem zo_imul (X : zX p R s m args meth c g mi d) (hd : decode (zzA mi).1.2.1 pc = .ok (.imul, 1)) (hs : zop mi (.imul) pc L S h = some (.inl x')) (k : zK p l e R s m args below meth c Q g mi n0 z0 x') : zK p l e R s m args below meth c Q g mi n0 z0 (pc, L, S, h) := by
  intro H ls locs cells slots hH hl hS hc hz
  simp only [zop] at hs
  rcases S with _ | ⟨y | y, _ | ⟨x | x, r⟩⟩ <;> simp only [zSII, zn, zif] at hs <;> try (cases hs; done)
  cases hs
  refine lv_imul X.1 X.2.1 hd ?_
  have h2 := k H ls locs cells slots hH hl hS hc hz
  simp only [zint, List.map_cons, zcv] at h2
  rw [Int32.ofInt_mul] at h2
  exact h2
theorem zo_iand (X : zX p R s m args meth c g mi d) (hd : decode (zzA mi).1.2.1 pc = .ok (.iand, 1)) (hs : zop mi (.iand) pc L S h = some (.inl x')) (k : zK p l e R s m args below meth c Q g mi n0 z0 x') : zK p l e R s m args below meth c Q g mi n0 z0 (pc, L, S, h) := by
  intro H ls locs cells slots hH hl hS hc hz
  simp only [zop] at hs
  rcases S with _ | ⟨y | y, _ | ⟨x | x, r⟩⟩ <;> simp only [zSII, zn, zif] at hs <;> try (cases hs; done)
  cases hs
  refine lv_iand X.1 X.2.1 hd ?_
  have h2 := k H ls locs cells slots hH hl hS hc hz
  simp only [zint, List.map_cons, zcv] at h2
  rw [Int32.ofInt_toInt] at h2
  exact h2
theorem zo_ixor (X : zX p R s m args meth c g mi d) (hd : decode (zzA mi).1.2.1 pc = .ok (.ixor, 1)) (hs : zop mi (.ixor) pc L S h = some (.inl x')) (k : zK p l e R s m args below meth c Q g mi n0 z0 x') : zK p l e R s m args below meth c Q g mi n0 z0 (pc, L, S, h) := by
  intro H ls locs cells slots hH hl hS hc hz
  simp only [zop] at hs
  rcases S with _ | ⟨y | y, _ | ⟨x | x, r⟩⟩ <;> simp only [zSII, zn, zif] at hs <;> try (cases hs; done)
  cases hs
  refine lv_ixor X.1 X.2.1 hd ?_
  have h2 := k H ls locs cells slots hH hl hS hc hz
  simp only [zint, List.map_cons, zcv] at h2
  rw [Int32.ofInt_toInt] at h2
  exact h2
theorem zo_ishl (X : zX p R s m args meth c g mi d) (hd : decode (zzA mi).1.2.1 pc = .ok (.ishl, 1)) (hs : zop mi (.ishl) pc L S h = some (.inl x')) (k : zK p l e R s m args below meth c Q g mi n0 z0 x') : zK p l e R s m args below meth c Q g mi n0 z0 (pc, L, S, h) := by
  intro H ls locs cells slots hH hl hS hc hz
  simp only [zop] at hs
  rcases S with _ | ⟨y | y, _ | ⟨x | x, r⟩⟩ <;> simp only [zSII, zn, zif] at hs <;> try (cases hs; done)
  cases hs
  refine lv_ishl X.1 X.2.1 hd ?_
  have h2 := k H ls locs cells slots hH hl hS hc hz
  simp only [zint, List.map_cons, zcv] at h2
  rw [Int32.ofInt_toInt] at h2
  exact h2
theorem zo_ishr (X : zX p R s m args meth c g mi d) (hd : decode (zzA mi).1.2.1 pc = .ok (.ishr, 1)) (hs : zop mi (.ishr) pc L S h = some (.inl x')) (k : zK p l e R s m args below meth c Q g mi n0 z0 x') : zK p l e R s m args below meth c Q g mi n0 z0 (pc, L, S, h) := by
  intro H ls locs cells slots hH hl hS hc hz
  simp only [zop] at hs
  rcases S with _ | ⟨y | y, _ | ⟨x | x, r⟩⟩ <;> simp only [zSII, zn, zif] at hs <;> try (cases hs; done)
  cases hs
  refine lv_ishr X.1 X.2.1 hd ?_
  have h2 := k H ls locs cells slots hH hl hS hc hz
  simp only [zint, List.map_cons, zcv] at h2
  rw [Int32.ofInt_toInt] at h2
  exact h2
theorem zo_ineg (X : zX p R s m args meth c g mi d) (hd : decode (zzA mi).1.2.1 pc = .ok (.ineg, 1)) (hs : zop mi (.ineg) pc L S h = some (.inl x')) (k : zK p l e R s m args below meth c Q g mi n0 z0 x') : zK p l e R s m args below meth c Q g mi n0 z0 (pc, L, S, h) := by
  intro H ls locs cells slots hH hl hS hc hz
  simp only [zop] at hs
  rcases S with _ | ⟨y | y, r⟩ <;> simp only [zSI, zn] at hs <;> try (cases hs; done)
  cases hs
  refine lv_ineg X.1 X.2.1 hd ?_
  have h2 := k H ls locs cells slots hH hl hS hc hz
  simp only [zint, List.map_cons, zcv] at h2
  rw [Int32.ofInt_neg] at h2
  exact h2
theorem zo_idiv (X : zX p R s m args meth c g mi d) (hd : decode (zzA mi).1.2.1 pc = .ok (.idiv, 1)) (hs : zop mi (.idiv) pc L S h = some (.inl x')) (k : zK p l e R s m args below meth c Q g mi n0 z0 x') : zK p l e R s m args below meth c Q g mi n0 z0 (pc, L, S, h) := by
  intro H ls locs cells slots hH hl hS hc hz
  simp only [zop] at hs
  rcases S with _ | ⟨y | y, _ | ⟨x | x, r⟩⟩ <;> simp only [zSII, zn, zif] at hs <;> try (cases hs; done)
  by_cases hr : (zIb x && zIb y && decide (y ≠ 0)) = true
  · rw [if_pos hr] at hs
    cases hs
    simp only [Bool.and_eq_true, decide_eq_true_eq] at hr
    refine lv_idiv X.1 X.2.1 hd (fun q => hr.2 ?_) ?_
    · rw [zi_0, zi_eq hr.1.2 zIb_0] at q
      exact q
    · have h2 := k H ls locs cells slots hH hl hS hc hz
      simp only [zint, List.map_cons, zcv] at h2
      rw [← zi_div hr.1.1 hr.1.2] at h2
      exact h2
  · rw [if_neg hr] at hs
    cases hs
theorem zo_irem (X : zX p R s m args meth c g mi d) (hd : decode (zzA mi).1.2.1 pc = .ok (.irem, 1)) (hs : zop mi (.irem) pc L S h = some (.inl x')) (k : zK p l e R s m args below meth c Q g mi n0 z0 x') : zK p l e R s m args below meth c Q g mi n0 z0 (pc, L, S, h) := by
  intro H ls locs cells slots hH hl hS hc hz
  simp only [zop] at hs
  rcases S with _ | ⟨y | y, _ | ⟨x | x, r⟩⟩ <;> simp only [zSII, zn, zif] at hs <;> try (cases hs; done)
  by_cases hr : (zIb x && zIb y && decide (y ≠ 0)) = true
  · rw [if_pos hr] at hs
    cases hs
    simp only [Bool.and_eq_true, decide_eq_true_eq] at hr
    refine lv_irem X.1 X.2.1 hd (fun q => hr.2 ?_) ?_
    · rw [zi_0, zi_eq hr.1.2 zIb_0] at q
      exact q
    · have h2 := k H ls locs cells slots hH hl hS hc hz
      simp only [zint, List.map_cons, zcv] at h2
      rw [← zi_rem hr.1.1 hr.1.2] at h2
      exact h2
  · rw [if_neg hr] at hs
    cases hs
theorem zo_i2l (X : zX p R s m args meth c g mi d) (hd : decode (zzA mi).1.2.1 pc = .ok (.i2l, 1)) (hs : zop mi (.i2l) pc L S h = some (.inl x')) (k : zK p l e R s m args below meth c Q g mi n0 z0 x') : zK p l e R s m args below meth c Q g mi n0 z0 (pc, L, S, h) := by
  intro H ls locs cells slots hH hl hS hc hz
  simp only [zop] at hs
  rcases S with _ | ⟨y | y, r⟩ <;> simp only [zSI, zif, zn] at hs <;> try (cases hs; done)
  by_cases hr : zIb y = true
  · rw [if_pos hr] at hs
    cases hs
    refine lv_i2l X.1 X.2.1 hd ?_ (k H ls locs cells slots hH hl hS hc hz)
    have h1 := zIb_iff.mp hr
    rw [← Int64.toInt_inj, Int32.toInt_toInt64, zi_to hr, Int64.toInt_ofInt_of_le (by omega) (by omega)]
  · rw [if_neg hr] at hs
    cases hs
theorem zo_l2i (X : zX p R s m args meth c g mi d) (hd : decode (zzA mi).1.2.1 pc = .ok (.l2i, 1)) (hs : zop mi (.l2i) pc L S h = some (.inl x')) (k : zK p l e R s m args below meth c Q g mi n0 z0 x') : zK p l e R s m args below meth c Q g mi n0 z0 (pc, L, S, h) := by
  intro H ls locs cells slots hH hl hS hc hz
  simp only [zop] at hs
  rcases S with _ | ⟨y | y | _ | y, r⟩ <;> simp only [zSL, zn] at hs <;> try (cases hs; done)
  cases hs
  exact lv_l2i X.1 X.2.1 hd (by rw [Int32.ofInt_toInt]; exact Int64.toInt32_ofInt) (k H ls locs cells slots hH hl hS hc hz)
theorem zo_i2b (X : zX p R s m args meth c g mi d) (hd : decode (zzA mi).1.2.1 pc = .ok (.i2b, 1)) (hs : zop mi (.i2b) pc L S h = some (.inl x')) (k : zK p l e R s m args below meth c Q g mi n0 z0 x') : zK p l e R s m args below meth c Q g mi n0 z0 (pc, L, S, h) := by
  intro H ls locs cells slots hH hl hS hc hz
  simp only [zop] at hs
  rcases S with _ | ⟨y | y, r⟩ <;> simp only [zSI, zn] at hs <;> try (cases hs; done)
  cases hs
  exact lv_i2b X.1 X.2.1 hd (by rw [Int32.ofInt_toInt]) (k H ls locs cells slots hH hl hS hc hz)
theorem zo_i2s (X : zX p R s m args meth c g mi d) (hd : decode (zzA mi).1.2.1 pc = .ok (.i2s, 1)) (hs : zop mi (.i2s) pc L S h = some (.inl x')) (k : zK p l e R s m args below meth c Q g mi n0 z0 x') : zK p l e R s m args below meth c Q g mi n0 z0 (pc, L, S, h) := by
  intro H ls locs cells slots hH hl hS hc hz
  simp only [zop] at hs
  rcases S with _ | ⟨y | y, r⟩ <;> simp only [zSI, zn] at hs <;> try (cases hs; done)
  cases hs
  exact lv_i2s X.1 X.2.1 hd (by rw [Int32.ofInt_toInt]) (k H ls locs cells slots hH hl hS hc hz)
theorem zo_land (X : zX p R s m args meth c g mi d) (hd : decode (zzA mi).1.2.1 pc = .ok (.land, 1)) (hs : zop mi (.land) pc L S h = some (.inl x')) (k : zK p l e R s m args below meth c Q g mi n0 z0 x') : zK p l e R s m args below meth c Q g mi n0 z0 (pc, L, S, h) := by
  intro H ls locs cells slots hH hl hS hc hz
  simp only [zop] at hs
  rcases S with _ | ⟨y | y | _ | y, _ | ⟨x | x | _ | x, r⟩⟩ <;> simp only [zSLL, zn] at hs <;> try (cases hs; done)
  cases hs
  refine lv_land X.1 X.2.1 hd ?_
  have h2 := k H ls locs cells slots hH hl hS hc hz
  simp only [zlng, List.map_cons, zcv] at h2
  rw [Int64.ofInt_toInt] at h2
  exact h2
theorem zo_lor (X : zX p R s m args meth c g mi d) (hd : decode (zzA mi).1.2.1 pc = .ok (.lor, 1)) (hs : zop mi (.lor) pc L S h = some (.inl x')) (k : zK p l e R s m args below meth c Q g mi n0 z0 x') : zK p l e R s m args below meth c Q g mi n0 z0 (pc, L, S, h) := by
  intro H ls locs cells slots hH hl hS hc hz
  simp only [zop] at hs
  rcases S with _ | ⟨y | y | _ | y, _ | ⟨x | x | _ | x, r⟩⟩ <;> simp only [zSLL, zn] at hs <;> try (cases hs; done)
  cases hs
  refine lv_lor X.1 X.2.1 hd ?_
  have h2 := k H ls locs cells slots hH hl hS hc hz
  simp only [zlng, List.map_cons, zcv] at h2
  rw [Int64.ofInt_toInt] at h2
  exact h2
theorem zo_lshl (X : zX p R s m args meth c g mi d) (hd : decode (zzA mi).1.2.1 pc = .ok (.lshl, 1)) (hs : zop mi (.lshl) pc L S h = some (.inl x')) (k : zK p l e R s m args below meth c Q g mi n0 z0 x') : zK p l e R s m args below meth c Q g mi n0 z0 (pc, L, S, h) := by
  intro H ls locs cells slots hH hl hS hc hz
  simp only [zop] at hs
  rcases S with _ | ⟨y | y, _ | ⟨x | x | _ | x, r⟩⟩ <;> simp only [zSLI, zn] at hs <;> try (cases hs; done)
  cases hs
  exact lv_lshl X.1 X.2.1 hd (by rw [Int64.ofInt_toInt]) (k H ls locs cells slots hH hl hS hc hz)
theorem zo_lcmp (X : zX p R s m args meth c g mi d) (hd : decode (zzA mi).1.2.1 pc = .ok (.lcmp, 1)) (hs : zop mi (.lcmp) pc L S h = some (.inl x')) (k : zK p l e R s m args below meth c Q g mi n0 z0 x') : zK p l e R s m args below meth c Q g mi n0 z0 (pc, L, S, h) := by
  intro H ls locs cells slots hH hl hS hc hz
  simp only [zop] at hs
  rcases S with _ | ⟨y | y | _ | y, _ | ⟨x | x | _ | x, r⟩⟩ <;> simp only [zSLL, zif, zn] at hs <;> try (cases hs; done)
  by_cases hr : (zJb x && zJb y) = true
  · rw [if_pos hr] at hs
    cases hs
    simp only [Bool.and_eq_true] at hr
    refine W.lcmp X.1 X.2.1 hd ?_
    have h2 := k H ls locs cells slots hH hl hS hc hz
    simp only [zint, List.map_cons, zcv] at h2
    have e1 : lg_cmp (Int64.ofInt x) (Int64.ofInt y) = Int32.ofInt (if y < x then 1 else if x = y then 0 else -1) := by
      unfold lg_cmp
      simp only [gt_iff_lt, Int64.lt_iff_toInt_lt, ← Int64.toInt_inj, zj_to hr.1, zj_to hr.2]
      repeat' split
      all_goals rfl
    rw [e1]
    exact h2
  · rw [if_neg hr] at hs
    cases hs
theorem zo_dup (X : zX p R s m args meth c g mi d) (hd : decode (zzA mi).1.2.1 pc = .ok (.dup, 1)) (hs : zop mi (.dup) pc L S h = some (.inl x')) (k : zK p l e R s m args below meth c Q g mi n0 z0 x') : zK p l e R s m args below meth c Q g mi n0 z0 (pc, L, S, h) := by
  intro H ls locs cells slots hH hl hS hc hz
  simp only [zop] at hs
  rcases S with _ | ⟨v, r⟩ <;> simp only [zS1, zif, zn] at hs <;> try (cases hs; done)
  by_cases hr : decide (zw1 v = 1) = true
  · rw [if_pos hr] at hs
    cases hs
    exact lv_dup X.1 X.2.1 hd (by rw [zcv_cat]; exact of_decide_eq_true hr) (k H ls locs cells slots hH hl hS hc hz)
  · rw [if_neg hr] at hs
    cases hs
theorem zo_pop (X : zX p R s m args meth c g mi d) (hd : decode (zzA mi).1.2.1 pc = .ok (.pop, 1)) (hs : zop mi (.pop) pc L S h = some (.inl x')) (k : zK p l e R s m args below meth c Q g mi n0 z0 x') : zK p l e R s m args below meth c Q g mi n0 z0 (pc, L, S, h) := by
  intro H ls locs cells slots hH hl hS hc hz
  simp only [zop] at hs
  rcases S with _ | ⟨v, r⟩ <;> simp only [zS1, zif, zn] at hs <;> try (cases hs; done)
  by_cases hr : decide (zw1 v = 1) = true
  · rw [if_pos hr] at hs
    cases hs
    exact lv_pop X.1 X.2.1 hd (by rw [zcv_cat]; exact of_decide_eq_true hr) (k H ls locs cells slots hH hl hS hc hz)
  · rw [if_neg hr] at hs
    cases hs
theorem zo_dup_x1 (X : zX p R s m args meth c g mi d) (hd : decode (zzA mi).1.2.1 pc = .ok (.dup_x1, 1)) (hs : zop mi (.dup_x1) pc L S h = some (.inl x')) (k : zK p l e R s m args below meth c Q g mi n0 z0 x') : zK p l e R s m args below meth c Q g mi n0 z0 (pc, L, S, h) := by
  intro H ls locs cells slots hH hl hS hc hz
  simp only [zop] at hs
  rcases S with _ | ⟨v, _ | ⟨w, r⟩⟩ <;> simp only [zS2, zif, zn] at hs <;> try (cases hs; done)
  by_cases hr : (decide (zw1 v = 1) && decide (zw1 w = 1)) = true
  · rw [if_pos hr] at hs
    cases hs
    simp only [Bool.and_eq_true, decide_eq_true_eq] at hr
    exact lv_dup_x1 X.1 X.2.1 hd (by rw [zcv_cat]; exact hr.1) (by rw [zcv_cat]; exact hr.2) (k H ls locs cells slots hH hl hS hc hz)
  · rw [if_neg hr] at hs
    cases hs
theorem zo_dup2 (X : zX p R s m args meth c g mi d) (hd : decode (zzA mi).1.2.1 pc = .ok (.dup2, 1)) (hs : zop mi (.dup2) pc L S h = some (.inl x')) (k : zK p l e R s m args below meth c Q g mi n0 z0 x') : zK p l e R s m args below meth c Q g mi n0 z0 (pc, L, S, h) := by
  intro H ls locs cells slots hH hl hS hc hz
  simp only [zop] at hs
  rcases S with _ | ⟨v, _ | ⟨w, r⟩⟩ <;> simp only [zS2, zif, zn] at hs <;> try (cases hs; done)
  by_cases hr : (decide (zw1 v = 1) && decide (zw1 w = 1)) = true
  · rw [if_pos hr] at hs
    cases hs
    simp only [Bool.and_eq_true, decide_eq_true_eq] at hr
    exact lv_dup2_11 X.1 X.2.1 hd (by rw [zcv_cat]; exact hr.1) (by rw [zcv_cat]; exact hr.2) (k H ls locs cells slots hH hl hS hc hz)
  · rw [if_neg hr] at hs
    cases hs
theorem zo_dup_x2 (X : zX p R s m args meth c g mi d) (hd : decode (zzA mi).1.2.1 pc = .ok (.dup_x2, 1)) (hs : zop mi (.dup_x2) pc L S h = some (.inl x')) (k : zK p l e R s m args below meth c Q g mi n0 z0 x') : zK p l e R s m args below meth c Q g mi n0 z0 (pc, L, S, h) := by
  intro H ls locs cells slots hH hl hS hc hz
  simp only [zop] at hs
  rcases S with _ | ⟨v, _ | ⟨w, _ | ⟨u, r⟩⟩⟩ <;> simp only [zS2, zS1, zif, zn] at hs <;> try (cases hs; done)
  by_cases hr : (decide (zw1 v = 1) && decide (zw1 w = 1) && decide (zw1 u = 1)) = true
  · rw [if_pos hr] at hs
    cases hs
    simp only [Bool.and_eq_true, decide_eq_true_eq] at hr
    exact lv_dup_x2 X.1 X.2.1 hd (by rw [zcv_cat]; exact hr.1.1) (by rw [zcv_cat]; exact hr.1.2) (by rw [zcv_cat]; exact hr.2) (k H ls locs cells slots hH hl hS hc hz)
  · rw [if_neg hr] at hs
    cases hs
theorem zj_some {off : Int} {L S : List AV} (hs : zj pc off L S h = some (.inl x')) : x' = (((pc : Int) + off).toNat, L, S, h) ∧ (pc : Int) + off = ((((pc : Int) + off).toNat : Nat) : Int) := by
  unfold zj at hs
  by_cases hp : 0 ≤ (pc : Int) + off
  · rw [if_pos hp] at hs
    cases hs
    exact ⟨rfl, by omega⟩
  · rw [if_neg hp] at hs
    cases hs
theorem zo_goto {off : Int} (X : zX p R s m args meth c g mi d) (hd : decode (zzA mi).1.2.1 pc = .ok (.goto off, 3)) (hs : zop mi (.goto off) pc L S h = some (.inl x')) (k : zK p l e R s m args below meth c Q g mi n0 z0 x') : zK p l e R s m args below meth c Q g mi n0 z0 (pc, L, S, h) := by
  intro H ls locs cells slots hH hl hS hc hz
  simp only [zop] at hs
  obtain ⟨rfl, ht⟩ := zj_some hs
  exact lv_goto X.1 X.2.1 hd ht (k H ls locs cells slots hH hl hS hc hz)
theorem zc_1 {c : Jvm.ClassFile.Cond} {x : Int} (hx : zIb x = true) : (zcond c x = true) = (match c with
  | .eq => Int32.ofInt x = 0
  | .ne => ¬ Int32.ofInt x = 0
  | .lt => Int32.ofInt x < 0
  | .ge => 0 ≤ Int32.ofInt x
  | .gt => 0 < Int32.ofInt x
  | .le => Int32.ofInt x ≤ 0) := by
  cases c <;> simp only [zcond, zi_0, zi_eq hx zIb_0, zi_lt hx zIb_0, zi_le hx zIb_0, zi_lt zIb_0 hx, zi_le zIb_0 hx, decide_eq_true_eq, ne_eq]
theorem zc_2 {c : Jvm.ClassFile.Cond} {x y : Int} (hx : zIb x = true) (hy : zIb y = true) : (zcmp c x y = true) = (match c with
  | .eq => Int32.ofInt x = Int32.ofInt y
  | .ne => ¬ Int32.ofInt x = Int32.ofInt y
  | .lt => Int32.ofInt x < Int32.ofInt y
  | .ge => Int32.ofInt y ≤ Int32.ofInt x
  | .gt => Int32.ofInt y < Int32.ofInt x
  | .le => Int32.ofInt x ≤ Int32.ofInt y) := by
  cases c <;> simp only [zcmp, zi_eq hx hy, zi_lt hx hy, zi_le hx hy, zi_lt hy hx, zi_le hy hx, decide_eq_true_eq, ne_eq]
theorem zq_lv_if_eq {H : Heap} {locs : List Loc} {cells slots : Nat} {cc : ByteArray} {ls : Array Slot} {rest : List Value} (hexec : p.tables.exec = Jvm.exec) (hb : c.code = cc) {x : Int32} {off : Int} (hdg : decode cc pc = .ok (.ifCond .eq off, 3)) (hP : ¬ x = 0)
    (kf : W p l e R s m args below meth c H locs cells slots Q (F0 m (pc + 3) ls rest)) : W p l e R s m args below meth c H locs cells slots Q (F0 m pc ls (.int x :: rest)) := by
  intro T hT X
  obtain ⟨t, a, b⟩ := kf T hT X
  refine ⟨t, ?_, b⟩
  jvm_step X.here [X.here.top, hexec, hb, hdg, Op.ifCond.holds, hP]
  exact a
theorem zq_lv_if_ne {H : Heap} {locs : List Loc} {cells slots : Nat} {cc : ByteArray} {ls : Array Slot} {rest : List Value} (hexec : p.tables.exec = Jvm.exec) (hb : c.code = cc) {x : Int32} {off : Int} (hdg : decode cc pc = .ok (.ifCond .ne off, 3)) (hP : x = 0)
    (kf : W p l e R s m args below meth c H locs cells slots Q (F0 m (pc + 3) ls rest)) : W p l e R s m args below meth c H locs cells slots Q (F0 m pc ls (.int x :: rest)) := by
  intro T hT X
  obtain ⟨t, a, b⟩ := kf T hT X
  refine ⟨t, ?_, b⟩
  jvm_step X.here [X.here.top, hexec, hb, hdg, Op.ifCond.holds, hP]
  exact a
theorem zq_lv_if_lt {H : Heap} {locs : List Loc} {cells slots : Nat} {cc : ByteArray} {ls : Array Slot} {rest : List Value} (hexec : p.tables.exec = Jvm.exec) (hb : c.code = cc) {x : Int32} {off : Int} (hdg : decode cc pc = .ok (.ifCond .lt off, 3)) (hP : ¬ x < 0)
    (kf : W p l e R s m args below meth c H locs cells slots Q (F0 m (pc + 3) ls rest)) : W p l e R s m args below meth c H locs cells slots Q (F0 m pc ls (.int x :: rest)) := by
  intro T hT X
  obtain ⟨t, a, b⟩ := kf T hT X
  refine ⟨t, ?_, b⟩
  jvm_step X.here [X.here.top, hexec, hb, hdg, Op.ifCond.holds, hP]
  exact a
theorem zq_lv_if_ge {H : Heap} {locs : List Loc} {cells slots : Nat} {cc : ByteArray} {ls : Array Slot} {rest : List Value} (hexec : p.tables.exec = Jvm.exec) (hb : c.code = cc) {x : Int32} {off : Int} (hdg : decode cc pc = .ok (.ifCond .ge off, 3)) (hP : ¬ 0 ≤ x)
    (kf : W p l e R s m args below meth c H locs cells slots Q (F0 m (pc + 3) ls rest)) : W p l e R s m args below meth c H locs cells slots Q (F0 m pc ls (.int x :: rest)) := by
  intro T hT X
  obtain ⟨t, a, b⟩ := kf T hT X
  refine ⟨t, ?_, b⟩
  jvm_step X.here [X.here.top, hexec, hb, hdg, Op.ifCond.holds, hP]
  exact a
theorem zq_lv_if_gt {H : Heap} {locs : List Loc} {cells slots : Nat} {cc : ByteArray} {ls : Array Slot} {rest : List Value} (hexec : p.tables.exec = Jvm.exec) (hb : c.code = cc) {x : Int32} {off : Int} (hdg : decode cc pc = .ok (.ifCond .gt off, 3)) (hP : ¬ 0 < x)
    (kf : W p l e R s m args below meth c H locs cells slots Q (F0 m (pc + 3) ls rest)) : W p l e R s m args below meth c H locs cells slots Q (F0 m pc ls (.int x :: rest)) := by
  intro T hT X
  obtain ⟨t, a, b⟩ := kf T hT X
  refine ⟨t, ?_, b⟩
  jvm_step X.here [X.here.top, hexec, hb, hdg, Op.ifCond.holds, hP]
  exact a
theorem zq_lv_if_le {H : Heap} {locs : List Loc} {cells slots : Nat} {cc : ByteArray} {ls : Array Slot} {rest : List Value} (hexec : p.tables.exec = Jvm.exec) (hb : c.code = cc) {x : Int32} {off : Int} (hdg : decode cc pc = .ok (.ifCond .le off, 3)) (hP : ¬ x ≤ 0)
    (kf : W p l e R s m args below meth c H locs cells slots Q (F0 m (pc + 3) ls rest)) : W p l e R s m args below meth c H locs cells slots Q (F0 m pc ls (.int x :: rest)) := by
  intro T hT X
  obtain ⟨t, a, b⟩ := kf T hT X
  refine ⟨t, ?_, b⟩
  jvm_step X.here [X.here.top, hexec, hb, hdg, Op.ifCond.holds, hP]
  exact a
theorem zq_lv_icmp_eq {H : Heap} {locs : List Loc} {cells slots : Nat} {cc : ByteArray} {ls : Array Slot} {rest : List Value} (hexec : p.tables.exec = Jvm.exec) (hb : c.code = cc) {x y : Int32} {off : Int} (hdg : decode cc pc = .ok (.if_icmp .eq off, 3)) (hP : ¬ x = y)
    (kf : W p l e R s m args below meth c H locs cells slots Q (F0 m (pc + 3) ls rest)) : W p l e R s m args below meth c H locs cells slots Q (F0 m pc ls (.int y :: .int x :: rest)) := by
  intro T hT X
  obtain ⟨t, a, b⟩ := kf T hT X
  refine ⟨t, ?_, b⟩
  jvm_step X.here [X.here.top, hexec, hb, hdg, Op.if_icmp.holds, hP]
  exact a
theorem zq_lv_icmp_ne {H : Heap} {locs : List Loc} {cells slots : Nat} {cc : ByteArray} {ls : Array Slot} {rest : List Value} (hexec : p.tables.exec = Jvm.exec) (hb : c.code = cc) {x y : Int32} {off : Int} (hdg : decode cc pc = .ok (.if_icmp .ne off, 3)) (hP : x = y)
    (kf : W p l e R s m args below meth c H locs cells slots Q (F0 m (pc + 3) ls rest)) : W p l e R s m args below meth c H locs cells slots Q (F0 m pc ls (.int y :: .int x :: rest)) := by
  intro T hT X
  obtain ⟨t, a, b⟩ := kf T hT X
  refine ⟨t, ?_, b⟩
  jvm_step X.here [X.here.top, hexec, hb, hdg, Op.if_icmp.holds, hP]
  exact a
theorem zq_lv_icmp_lt {H : Heap} {locs : List Loc} {cells slots : Nat} {cc : ByteArray} {ls : Array Slot} {rest : List Value} (hexec : p.tables.exec = Jvm.exec) (hb : c.code = cc) {x y : Int32} {off : Int} (hdg : decode cc pc = .ok (.if_icmp .lt off, 3)) (hP : ¬ x < y)
    (kf : W p l e R s m args below meth c H locs cells slots Q (F0 m (pc + 3) ls rest)) : W p l e R s m args below meth c H locs cells slots Q (F0 m pc ls (.int y :: .int x :: rest)) := by
  intro T hT X
  obtain ⟨t, a, b⟩ := kf T hT X
  refine ⟨t, ?_, b⟩
  jvm_step X.here [X.here.top, hexec, hb, hdg, Op.if_icmp.holds, hP]
  exact a
theorem zq_lv_icmp_ge {H : Heap} {locs : List Loc} {cells slots : Nat} {cc : ByteArray} {ls : Array Slot} {rest : List Value} (hexec : p.tables.exec = Jvm.exec) (hb : c.code = cc) {x y : Int32} {off : Int} (hdg : decode cc pc = .ok (.if_icmp .ge off, 3)) (hP : ¬ y ≤ x)
    (kf : W p l e R s m args below meth c H locs cells slots Q (F0 m (pc + 3) ls rest)) : W p l e R s m args below meth c H locs cells slots Q (F0 m pc ls (.int y :: .int x :: rest)) := by
  intro T hT X
  obtain ⟨t, a, b⟩ := kf T hT X
  refine ⟨t, ?_, b⟩
  jvm_step X.here [X.here.top, hexec, hb, hdg, Op.if_icmp.holds, hP]
  exact a
theorem zq_lv_icmp_gt {H : Heap} {locs : List Loc} {cells slots : Nat} {cc : ByteArray} {ls : Array Slot} {rest : List Value} (hexec : p.tables.exec = Jvm.exec) (hb : c.code = cc) {x y : Int32} {off : Int} (hdg : decode cc pc = .ok (.if_icmp .gt off, 3)) (hP : ¬ y < x)
    (kf : W p l e R s m args below meth c H locs cells slots Q (F0 m (pc + 3) ls rest)) : W p l e R s m args below meth c H locs cells slots Q (F0 m pc ls (.int y :: .int x :: rest)) := by
  intro T hT X
  obtain ⟨t, a, b⟩ := kf T hT X
  refine ⟨t, ?_, b⟩
  jvm_step X.here [X.here.top, hexec, hb, hdg, Op.if_icmp.holds, hP]
  exact a
theorem zq_lv_icmp_le {H : Heap} {locs : List Loc} {cells slots : Nat} {cc : ByteArray} {ls : Array Slot} {rest : List Value} (hexec : p.tables.exec = Jvm.exec) (hb : c.code = cc) {x y : Int32} {off : Int} (hdg : decode cc pc = .ok (.if_icmp .le off, 3)) (hP : ¬ x ≤ y)
    (kf : W p l e R s m args below meth c H locs cells slots Q (F0 m (pc + 3) ls rest)) : W p l e R s m args below meth c H locs cells slots Q (F0 m pc ls (.int y :: .int x :: rest)) := by
  intro T hT X
  obtain ⟨t, a, b⟩ := kf T hT X
  refine ⟨t, ?_, b⟩
  jvm_step X.here [X.here.top, hexec, hb, hdg, Op.if_icmp.holds, hP]
  exact a
theorem zo_ifCond {cc : Jvm.ClassFile.Cond} {off : Int} (X : zX p R s m args meth c g mi d) (hd : decode (zzA mi).1.2.1 pc = .ok (.ifCond cc off, 3)) (hs : zop mi (.ifCond cc off) pc L S h = some (.inl x')) (k : zK p l e R s m args below meth c Q g mi n0 z0 x') : zK p l e R s m args below meth c Q g mi n0 z0 (pc, L, S, h) := by
  intro H ls locs cells slots hH hl hS hc hz
  simp only [zop] at hs
  rcases S with _ | ⟨y | y, r⟩ <;> simp only [zSI, zif] at hs <;> try (cases hs; done)
  by_cases hr : zIb y = true
  · rw [if_pos hr] at hs
    by_cases hb : zcond cc y = true
    · rw [if_pos hb] at hs
      obtain ⟨rfl, ht⟩ := zj_some hs
      rw [zc_1 hr] at hb
      cases cc
      · exact lv_if_eq X.1 X.2.1 hd ht (fun _ => k H ls locs cells slots hH hl hS hc hz) (fun q => absurd hb q)
      · exact lv_if_ne X.1 X.2.1 hd ht (fun _ => k H ls locs cells slots hH hl hS hc hz) (fun q => absurd q hb)
      · exact lv_if_lt X.1 X.2.1 hd ht (fun _ => k H ls locs cells slots hH hl hS hc hz) (fun q => absurd hb q)
      · exact lv_if_ge X.1 X.2.1 hd ht (fun _ => k H ls locs cells slots hH hl hS hc hz) (fun q => absurd hb q)
      · exact lv_if_gt X.1 X.2.1 hd ht (fun _ => k H ls locs cells slots hH hl hS hc hz) (fun q => absurd hb q)
      · exact lv_if_le X.1 X.2.1 hd ht (fun _ => k H ls locs cells slots hH hl hS hc hz) (fun q => absurd hb q)
    · rw [if_neg hb] at hs
      simp only [zn] at hs
      cases hs
      rw [zc_1 hr] at hb
      have ht : ∀ off : Int, (pc : Int) + off = ((((pc : Int) + off).toNat : Nat) : Int) ∨ True := fun _ => Or.inr trivial
      cases cc
      · exact zq_lv_if_eq X.1 X.2.1 hd hb (k H ls locs cells slots hH hl hS hc hz)
      · exact zq_lv_if_ne X.1 X.2.1 hd (Classical.not_not.mp hb) (k H ls locs cells slots hH hl hS hc hz)
      · exact zq_lv_if_lt X.1 X.2.1 hd hb (k H ls locs cells slots hH hl hS hc hz)
      · exact zq_lv_if_ge X.1 X.2.1 hd hb (k H ls locs cells slots hH hl hS hc hz)
      · exact zq_lv_if_gt X.1 X.2.1 hd hb (k H ls locs cells slots hH hl hS hc hz)
      · exact zq_lv_if_le X.1 X.2.1 hd hb (k H ls locs cells slots hH hl hS hc hz)
  · rw [if_neg hr] at hs
    cases hs
theorem zo_if_icmp {cc : Jvm.ClassFile.Cond} {off : Int} (X : zX p R s m args meth c g mi d) (hd : decode (zzA mi).1.2.1 pc = .ok (.if_icmp cc off, 3)) (hs : zop mi (.if_icmp cc off) pc L S h = some (.inl x')) (k : zK p l e R s m args below meth c Q g mi n0 z0 x') : zK p l e R s m args below meth c Q g mi n0 z0 (pc, L, S, h) := by
  intro H ls locs cells slots hH hl hS hc hz
  simp only [zop] at hs
  rcases S with _ | ⟨y | y, _ | ⟨x | x, r⟩⟩ <;> simp only [zSII, zif] at hs <;> try (cases hs; done)
  by_cases hr : (zIb x && zIb y) = true
  · rw [if_pos hr] at hs
    simp only [Bool.and_eq_true] at hr
    by_cases hb : zcmp cc x y = true
    · rw [if_pos hb] at hs
      obtain ⟨rfl, ht⟩ := zj_some hs
      rw [zc_2 hr.1 hr.2] at hb
      cases cc
      · exact lv_icmp_eq X.1 X.2.1 hd ht (fun _ => k H ls locs cells slots hH hl hS hc hz) (fun q => absurd hb q)
      · exact lv_icmp_ne X.1 X.2.1 hd ht (fun _ => k H ls locs cells slots hH hl hS hc hz) (fun q => absurd q hb)
      · exact lv_icmp_lt X.1 X.2.1 hd ht (fun _ => k H ls locs cells slots hH hl hS hc hz) (fun q => absurd hb q)
      · exact lv_icmp_ge X.1 X.2.1 hd ht (fun _ => k H ls locs cells slots hH hl hS hc hz) (fun q => absurd hb q)
      · exact lv_icmp_gt X.1 X.2.1 hd ht (fun _ => k H ls locs cells slots hH hl hS hc hz) (fun q => absurd hb q)
      · exact lv_icmp_le X.1 X.2.1 hd ht (fun _ => k H ls locs cells slots hH hl hS hc hz) (fun q => absurd hb q)
    · rw [if_neg hb] at hs
      simp only [zn] at hs
      cases hs
      rw [zc_2 hr.1 hr.2] at hb
      have ht : ∀ off : Int, (pc : Int) + off = ((((pc : Int) + off).toNat : Nat) : Int) ∨ True := fun _ => Or.inr trivial
      cases cc
      · exact zq_lv_icmp_eq X.1 X.2.1 hd hb (k H ls locs cells slots hH hl hS hc hz)
      · exact zq_lv_icmp_ne X.1 X.2.1 hd (Classical.not_not.mp hb) (k H ls locs cells slots hH hl hS hc hz)
      · exact zq_lv_icmp_lt X.1 X.2.1 hd hb (k H ls locs cells slots hH hl hS hc hz)
      · exact zq_lv_icmp_ge X.1 X.2.1 hd hb (k H ls locs cells slots hH hl hS hc hz)
      · exact zq_lv_icmp_gt X.1 X.2.1 hd hb (k H ls locs cells slots hH hl hS hc hz)
      · exact zq_lv_icmp_le X.1 X.2.1 hd hb (k H ls locs cells slots hH hl hS hc hz)
  · rw [if_neg hr] at hs
    cases hs
theorem zo_ifnull {off : Int} (X : zX p R s m args meth c g mi d) (hd : decode (zzA mi).1.2.1 pc = .ok (.ifnull off, 3)) (hs : zop mi (.ifnull off) pc L S h = some (.inl x')) (k : zK p l e R s m args below meth c Q g mi n0 z0 x') : zK p l e R s m args below meth c Q g mi n0 z0 (pc, L, S, h) := by
  intro H ls locs cells slots hH hl hS hc hz
  simp only [zop] at hs
  rcases S with _ | ⟨y | y | _ | y, r⟩ <;> simp only [zSA] at hs <;> try (cases hs; done)
  simp only [List.map_cons, zcv]
  by_cases hy : y < 0
  · rw [if_pos hy] at hs
    have e1 : zcr g y = .null := by unfold zcr; rw [if_pos hy]
    rw [e1]
    obtain ⟨rfl, ht⟩ := zj_some hs
    exact lv_ifnullN X.1 X.2.1 hd ht (k H ls locs cells slots hH hl hS hc hz)
  · rw [if_neg hy] at hs
    obtain ⟨a, e1⟩ : ∃ a, zcr g y = .ref a := by
      rcases zcr_or g y with e1 | e1
      · unfold zcr at e1
        rw [if_neg hy] at e1
        by_cases h2 : y = zSC
        · rw [if_pos h2] at e1; cases e1
        · rw [if_neg h2] at e1; cases e1
      · exact e1
    rw [e1]
    simp only [zn] at hs; cases hs
    exact lv_ifnull X.1 X.2.1 hd (k H ls locs cells slots hH hl hS hc hz)
theorem zo_ifnonnull {off : Int} (X : zX p R s m args meth c g mi d) (hd : decode (zzA mi).1.2.1 pc = .ok (.ifnonnull off, 3)) (hs : zop mi (.ifnonnull off) pc L S h = some (.inl x')) (k : zK p l e R s m args below meth c Q g mi n0 z0 x') : zK p l e R s m args below meth c Q g mi n0 z0 (pc, L, S, h) := by
  intro H ls locs cells slots hH hl hS hc hz
  simp only [zop] at hs
  rcases S with _ | ⟨y | y | _ | y, r⟩ <;> simp only [zSA] at hs <;> try (cases hs; done)
  simp only [List.map_cons, zcv]
  by_cases hy : y < 0
  · rw [if_pos hy] at hs
    have e1 : zcr g y = .null := by unfold zcr; rw [if_pos hy]
    rw [e1]
    simp only [zn] at hs; cases hs
    exact lv_ifnonnullN X.1 X.2.1 hd (k H ls locs cells slots hH hl hS hc hz)
  · rw [if_neg hy] at hs
    obtain ⟨a, e1⟩ : ∃ a, zcr g y = .ref a := by
      rcases zcr_or g y with e1 | e1
      · unfold zcr at e1
        rw [if_neg hy] at e1
        by_cases h2 : y = zSC
        · rw [if_pos h2] at e1; cases e1
        · rw [if_neg h2] at e1; cases e1
      · exact e1
    rw [e1]
    obtain ⟨rfl, ht⟩ := zj_some hs
    exact lv_ifnonnull X.1 X.2.1 hd ht (k H ls locs cells slots hH hl hS hc hz)
theorem ztab_out : ∀ (os : List Int) (lo d a : Int), a < lo ∨ lo + os.length ≤ a → ztab os lo d a = d
  | [], _, _, _, _ => rfl
  | o :: os, lo, d, a, h => by
    simp only [List.length_cons] at h
    unfold ztab
    rw [if_neg (by omega)]
    exact ztab_out os (lo + 1) d a (by omega)
theorem ztab_in : ∀ (os : List Int) (lo d a : Int), lo ≤ a → a < lo + os.length → os[(a - lo).toNat]? = some (ztab os lo d a)
  | [], _, _, _, h1, h2 => by simp at h2; omega
  | o :: os, lo, d, a, h1, h2 => by
    simp only [List.length_cons] at h2
    unfold ztab
    by_cases e1 : a = lo
    · subst e1
      rw [if_pos rfl, Int.sub_self]
      rfl
    · rw [if_neg e1]
      have e2 : (a - lo).toNat = (a - (lo + 1)).toNat + 1 := by omega
      rw [e2, List.getElem?_cons_succ]
      exact ztab_in os (lo + 1) d a (by omega) (by omega)
theorem zlus_ok : ∀ (qs : List (Int × Int)) (d a : Int), Op.lookupswitch.offset qs d a = zlus qs d a
  | [], _, _ => rfl
  | q :: qs, d, a => by
    obtain ⟨k, o⟩ := q
    rw [Op.lookupswitch.offset_cons]
    unfold zlus
    by_cases e1 : a = k
    · rw [if_pos e1.symm, if_pos e1]
    · rw [if_neg (fun h => e1 h.symm), if_neg e1]
      exact zlus_ok qs d a
theorem zo_tableswitch {dflt lo hi : Int} {offs : Array Int} {len : Nat} (X : zX p R s m args meth c g mi d) (hd : decode (zzA mi).1.2.1 pc = .ok (.tableswitch dflt lo hi offs, len)) (hs : zop mi (.tableswitch dflt lo hi offs) pc L S h = some (.inl x')) (k : zK p l e R s m args below meth c Q g mi n0 z0 x') : zK p l e R s m args below meth c Q g mi n0 z0 (pc, L, S, h) := by
  intro H ls locs cells slots hH hl hS hc hz
  simp only [zop] at hs
  rcases S with _ | ⟨y | y, r⟩ <;> simp only [zSI, zif] at hs <;> try (cases hs; done)
  by_cases hr : (zIb y && decide (offs.toList.length = (hi - lo + 1).toNat) && decide (lo ≤ hi)) = true
  · rw [if_pos hr] at hs
    simp only [Bool.and_eq_true, decide_eq_true_eq] at hr
    obtain ⟨⟨h1, h2⟩, h3⟩ := hr
    obtain ⟨rfl, ht⟩ := zj_some hs
    by_cases ho : y < lo ∨ hi < y
    · have e1 := ztab_out offs.toList lo dflt y (by omega)
      rw [e1] at ht
      refine lv_tableOut X.1 X.2.1 hd (by rw [zi_to h1]; exact ho) ht ?_
      have h4 := k H ls locs cells slots hH hl hS hc hz
      simp only [e1] at h4
      exact h4
    · have e1 := ztab_in offs.toList lo dflt y (by omega) (by omega)
      refine lv_tableIn X.1 X.2.1 hd (by rw [zi_to h1]; omega) (by rw [zi_to h1]; omega) (by rw [zi_to h1, ← Array.getElem?_toList]; exact e1) ht (k H ls locs cells slots hH hl hS hc hz)
  · rw [if_neg hr] at hs
    cases hs
theorem zo_lookupswitch {dflt : Int} {ps : Array (Int × Int)} {len : Nat} (X : zX p R s m args meth c g mi d) (hd : decode (zzA mi).1.2.1 pc = .ok (.lookupswitch dflt ps, len)) (hs : zop mi (.lookupswitch dflt ps) pc L S h = some (.inl x')) (k : zK p l e R s m args below meth c Q g mi n0 z0 x') : zK p l e R s m args below meth c Q g mi n0 z0 (pc, L, S, h) := by
  intro H ls locs cells slots hH hl hS hc hz
  simp only [zop] at hs
  rcases S with _ | ⟨y | y, r⟩ <;> simp only [zSI, zif] at hs <;> try (cases hs; done)
  by_cases hr : (zIb y && (ps.toList.zip (ps.toList.drop 1)).all (fun (a, next) => a.1 < next.1)) = true
  · rw [if_pos hr] at hs
    rw [Bool.and_eq_true] at hr
    obtain ⟨rfl, ht⟩ := zj_some hs
    exact lv_lookup X.1 X.2.1 hd hr.2 (by rw [zi_to hr.1]; exact zlus_ok _ _ _) ht (k H ls locs cells slots hH hl hS hc hz)
  · rw [if_neg hr] at hs
    cases hs
end ZO
