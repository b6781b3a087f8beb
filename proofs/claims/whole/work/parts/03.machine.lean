/-! the abstract machine: whole numbers for ints and longs, cells by their numbers; a static part (how many cells, their kinds, sizes, references) and a moving part (numbers) -/
abbrev AV : Type := Int ⊕ (Int ⊕ Option Int)
abbrev XS : Type := (Nat × Nat) × (Int → Nat) × (Int → Int) × (Int → Int → Int)
abbrev XH : Type := XS × (Int → Int → Int)
abbrev XC : Type := Nat × List AV × List AV × XH
abbrev XR : Type := XC ⊕ ((Nat × List AV × Nat × List AV × List AV × XH) ⊕ (Option AV × XH))
def xn (h : XH) : Nat := h.1.1.1
def xz (h : XH) : Nat := h.1.1.2
def xk (h : XH) (o : Int) : Nat := h.1.2.1 o
def xl (h : XH) (o : Int) : Int := h.1.2.2.1 o
def xr (h : XH) (o j : Int) : Int := h.1.2.2.2 o j
def xs (h : XH) (o j : Int) : Int := h.2 o j
def up (f : Int → Int → Int) (o j v : Int) : Int → Int → Int := fun a c => if a = o ∧ c = j then v else f a c
def xset (h : XH) (o j v : Int) : XH := (h.1, up h.2 o j v)
def xref (h : XH) (o j v : Int) : XH := ((h.1.1, h.1.2.1, h.1.2.2.1, up h.1.2.2.2 o j v), h.2)
def xcpy (h : XH) (o dp n a sp : Int) : XH := (h.1, fun x j => if x = o ∧ dp ≤ j ∧ j < dp + n then h.2 a (sp + (j - dp)) else h.2 x j)
def zSC : Int := 1000000
def xnew (h : XH) (kd : Nat) (sz : Int) (sl : Nat) : XH :=
  (((h.1.1.1 + 1, h.1.1.2 + sl), (fun o => if o = (h.1.1.1 : Int) then kd else h.1.2.1 o), (fun o => if o = (h.1.1.1 : Int) then sz else h.1.2.2.1 o), fun o j => if o = (h.1.1.1 : Int) then -1 else h.1.2.2.2 o j), fun o j => if o = (h.1.1.1 : Int) then 0 else h.2 o j)
def xmul (h : XH) (kd : Nat) (j k : Int) : XH :=
  (((h.1.1.1 + (1 + j.toNat), h.1.1.2 + (j.toNat + j.toNat * k.toNat)), (fun o => if o = (h.1.1.1 : Int) then kd + 5 else if (h.1.1.1 : Int) < o ∧ o ≤ (h.1.1.1 : Int) + j then kd else h.1.2.1 o), (fun o => if o = (h.1.1.1 : Int) then j else if (h.1.1.1 : Int) < o ∧ o ≤ (h.1.1.1 : Int) + j then k else h.1.2.2.1 o),
    fun o i => if o = (h.1.1.1 : Int) then (if 0 ≤ i ∧ i < j then (h.1.1.1 : Int) + 1 + i else -1) else if (h.1.1.1 : Int) < o ∧ o ≤ (h.1.1.1 : Int) + j then -1 else h.1.2.2.2 o i), fun o i => if (h.1.1.1 : Int) ≤ o ∧ o ≤ (h.1.1.1 : Int) + j then 0 else h.2 o i)
/-- an int, a long in its range -/
def zIb (a : Int) : Bool := decide (-2147483648 ≤ a) && decide (a < 2147483648)
def zJb (a : Int) : Bool := decide (-9223372036854775808 ≤ a) && decide (a < 9223372036854775808)
theorem zIb_iff {a : Int} : zIb a = true ↔ -2147483648 ≤ a ∧ a < 2147483648 := by simp [zIb]
theorem zJb_iff {a : Int} : zJb a = true ↔ -9223372036854775808 ≤ a ∧ a < 9223372036854775808 := by simp [zJb]
/-- a cell of a kind; the script is a cell too, that is read alone -/
def zCb (h : XH) (o : Int) (k : Nat) : Bool := decide (0 ≤ o) && (decide (o < (xn h : Int)) && decide (xk h o = k))
def zSb (h : XH) (o : Int) (k : Nat) : Bool := decide (0 ≤ o) && ((decide (o < (xn h : Int)) || decide (o = zSC)) && decide (xk h o = k))
theorem zCb_iff {h : XH} {o : Int} {k : Nat} : zCb h o k = true ↔ 0 ≤ o ∧ o < (xn h : Int) ∧ xk h o = k := by simp [zCb]
theorem zSb_iff {h : XH} {o : Int} {k : Nat} : zSb h o k = true ↔ 0 ≤ o ∧ (o < (xn h : Int) ∨ o = zSC) ∧ xk h o = k := by simp [zSb]
def zrng (i n : Int) : Bool := decide (0 ≤ i) && decide (i < n)
theorem zrng_iff {i n : Int} : zrng i n = true ↔ 0 ≤ i ∧ i < n := by simp [zrng]
def zzA (m : Nat) : zzT := (zzM[m]?).getD zm0
theorem zzA_ok (m : Nat) : zzG (zzA m) := by
  unfold zzA
  cases h : zzM[m]? with
  | none => exact zg0
  | some q => exact zzM_ok q (List.mem_of_getElem? h)
def zzlk : List (Nat × Instr × Nat) → Nat → Option (Instr × Nat)
  | [], _ => none
  | e :: l, pc => if e.1 = pc then some e.2 else zzlk l pc
theorem zzlk_mem : ∀ (l : List (Nat × Instr × Nat)) (pc : Nat) (v : Instr × Nat), zzlk l pc = some v → (pc, v) ∈ l
  | [], _, _, h => by cases h
  | e :: l, pc, v, h => by
    unfold zzlk at h
    by_cases he : e.1 = pc
    · rw [if_pos he] at h
      cases h
      rw [← he]
      exact List.mem_cons_self
    · rw [if_neg he] at h
      exact List.mem_cons_of_mem _ (zzlk_mem l pc v h)
def zzins (m pc : Nat) : Option (Instr × Nat) := zzlk (zzA m).2.2 pc
theorem zzins_ok {m pc : Nat} {v : Instr × Nat} (h : zzins m pc = some v) : decode (zzA m).1.2.1 pc = .ok v := by
  have h1 := zzA_ok m
  unfold zzins at h
  generalize zzA m = q at h h1 ⊢
  exact h1.1 (pc, v) (zzlk_mem _ _ _ h)
def zzlu {α : Type} : List ((Nat × Nat) × α) → Nat → Nat → Option α
  | [], _, _ => none
  | e :: l, a, b => if e.1.1 = a ∧ e.1.2 = b then some e.2 else zzlu l a b
theorem zzlu_mem {α : Type} : ∀ (l : List ((Nat × Nat) × α)) (a b : Nat) (v : α), zzlu l a b = some v → ((a, b), v) ∈ l
  | [], _, _, _, h => by cases h
  | e :: l, a, b, v, h => by
    unfold zzlu at h
    by_cases he : e.1.1 = a ∧ e.1.2 = b
    · rw [if_pos he] at h
      cases h
      rw [← he.1, ← he.2]
      exact List.mem_cons_self
    · rw [if_neg he] at h
      exact List.mem_cons_of_mem _ (zzlu_mem l a b v h)
def zzown (m : Nat) : Nat := (zzA m).1.2.2.2.2
def zznf (ci : Nat) : Nat := match ci with
  | 0 => 9
  | 1 => 6
  | 2 => 3
  | 3 => 3
  | 4 => 8
  | 5 => 6
  | _ => 18
def zzref (ci k : Nat) : Bool := match ci with
  | 0 => false
  | 1 => decide (k < 2)
  | 2 => decide (k = 0)
  | 3 => decide (k = 0)
  | 4 => decide (k < 5)
  | 5 => decide (k = 0 ∨ k = 1 ∨ k = 2 ∨ k = 4 ∨ k = 5)
  | _ => decide (k = 0 ∨ k = 1 ∨ k = 2 ∨ k = 4 ∨ k = 6 ∨ k = 7 ∨ k = 8 ∨ k = 9 ∨ k = 12 ∨ k = 17)
def zzbool (ci k : Nat) : Bool := decide ((ci = 0 ∧ k = 8) ∨ (ci = 5 ∧ k = 3) ∨ (ci = 6 ∧ k = 3))
def zzfin (ci k : Nat) : Bool := match ci with
  | 0 => (TX0 k).2.2.2
  | 1 => (TX1 k).2.2.2
  | 2 => (TX2 k).2.2.2
  | 3 => (TX3 k).2.2.2
  | 4 => (TX4 k).2.2.2
  | 5 => (TX5 k).2.2.2
  | _ => (TX6 k).2.2.2
/-- locals -/
def zld (L : List AV) (k : Nat) : AV := (L[k]?).getD (.inr (.inr none))
def zlong : AV → Bool
  | .inr (.inl _) => true
  | _ => false
def zst1 (L : List AV) (k : Nat) (v : AV) : Option (List AV) :=
  if k < L.length ∧ (k = 0 ∨ zlong (zld L (k - 1)) = false) then some (L.set k v) else none
def zst2 (L : List AV) (k : Nat) (v : AV) : Option (List AV) :=
  if k + 1 < L.length ∧ (k = 0 ∨ zlong (zld L (k - 1)) = false) then some ((L.set k v).set (k + 1) (.inr (.inr none))) else none
def zw1 : AV → Nat
  | .inr (.inl _) => 2
  | _ => 1
def zws : List AV → Nat
  | [] => 0
  | v :: l => zw1 v + zws l
def zcond (c : Jvm.ClassFile.Cond) (a : Int) : Bool := match c with
  | .eq => decide (a = 0)
  | .ne => decide (a ≠ 0)
  | .lt => decide (a < 0)
  | .ge => decide (0 ≤ a)
  | .gt => decide (0 < a)
  | .le => decide (a ≤ 0)
def zcmp (c : Jvm.ClassFile.Cond) (a b : Int) : Bool := match c with
  | .eq => decide (a = b)
  | .ne => decide (a ≠ b)
  | .lt => decide (a < b)
  | .ge => decide (b ≤ a)
  | .gt => decide (b < a)
  | .le => decide (a ≤ b)
def ztab : List Int → Int → Int → Int → Int
  | [], _, d, _ => d
  | o :: os, lo, d, a => if a = lo then o else ztab os (lo + 1) d a
def zlus : List (Int × Int) → Int → Int → Int
  | [], d, _ => d
  | q :: qs, d, a => if a = q.1 then q.2 else zlus qs d a
noncomputable section
def zn (pc : Nat) (L S : List AV) (h : XH) : Option XR := some (.inl (pc, L, S, h))
def zj (pc : Nat) (off : Int) (L S : List AV) (h : XH) : Option XR := if 0 ≤ (pc : Int) + off then some (.inl (((pc : Int) + off).toNat, L, S, h)) else none
def zlI (L : List AV) (k : Nat) (f : Int → Option XR) : Option XR := match zld L k with
  | .inl x => f x
  | _ => none
def zlL (L : List AV) (k : Nat) (f : Int → Option XR) : Option XR := match zld L k with
  | .inr (.inl x) => f x
  | _ => none
def zlA (L : List AV) (k : Nat) (f : Int → Option XR) : Option XR := match zld L k with
  | .inr (.inr (some x)) => f x
  | _ => none
def zs1 (L : List AV) (k : Nat) (v : AV) (f : List AV → Option XR) : Option XR := match zst1 L k v with
  | some L' => f L'
  | none => none
def zs2 (L : List AV) (k : Nat) (v : AV) (f : List AV → Option XR) : Option XR := match zst2 L k v with
  | some L' => f L'
  | none => none
def zS1 (S : List AV) (f : AV → List AV → Option XR) : Option XR := match S with
  | v :: r => f v r
  | _ => none
def zS2 (S : List AV) (f : AV → AV → List AV → Option XR) : Option XR := match S with
  | v :: w :: r => f v w r
  | _ => none
def zSI (S : List AV) (f : Int → List AV → Option XR) : Option XR := match S with
  | .inl x :: r => f x r
  | _ => none
def zSII (S : List AV) (f : Int → Int → List AV → Option XR) : Option XR := match S with
  | .inl y :: .inl x :: r => f x y r
  | _ => none
def zSL (S : List AV) (f : Int → List AV → Option XR) : Option XR := match S with
  | .inr (.inl x) :: r => f x r
  | _ => none
def zSLL (S : List AV) (f : Int → Int → List AV → Option XR) : Option XR := match S with
  | .inr (.inl y) :: .inr (.inl x) :: r => f x y r
  | _ => none
def zSLI (S : List AV) (f : Int → Int → List AV → Option XR) : Option XR := match S with
  | .inl y :: .inr (.inl x) :: r => f x y r
  | _ => none
def zSA (S : List AV) (f : Int → List AV → Option XR) : Option XR := match S with
  | .inr (.inr (some x)) :: r => f x r
  | _ => none
/-- index, array -/
def zSIA (S : List AV) (f : Int → Int → List AV → Option XR) : Option XR := match S with
  | .inl i :: .inr (.inr (some a)) :: r => f a i r
  | _ => none
/-- value, index, array -/
def zSvIA (S : List AV) (f : AV → Int → Int → List AV → Option XR) : Option XR := match S with
  | v :: .inl i :: .inr (.inr (some a)) :: r => f v a i r
  | _ => none
def zSvA (S : List AV) (f : AV → Int → List AV → Option XR) : Option XR := match S with
  | v :: .inr (.inr (some a)) :: r => f v a r
  | _ => none
def zvI (v : AV) (f : Int → Option XR) : Option XR := match v with
  | .inl x => f x
  | _ => none
def zvL (v : AV) (f : Int → Option XR) : Option XR := match v with
  | .inr (.inl x) => f x
  | _ => none
def zvA (v : AV) (f : Int → Option XR) : Option XR := match v with
  | .inr (.inr (some x)) => f x
  | _ => none
def zif (c : Bool) (x : Option XR) : Option XR := if c = true then x else none
def zlk2 {α : Type} (o : Option α) (f : α → Option XR) : Option XR := match o with
  | some x => f x
  | none => none
def zint (x : Int) : AV := .inl x
def zlng (x : Int) : AV := .inr (.inl x)
def zrf (x : Int) : AV := .inr (.inr (some x))
def zlay (args : List AV) : List AV := args.flatMap (fun v => if zlong v = true then [v, .inr (.inr none)] else [v])
def zgo (t : Nat) (args : List AV) (pc : Nat) (L r : List AV) (h : XH) : Option XR := zif (decide (zws r ≤ 8) && decide ((zlay args).length ≤ (zzA t).1.2.2.1)) (some (.inr (.inl (t, args, pc + 3, L, r, h))))
/-- what a call takes -/
def zcall (e : Nat × Nat × Nat) (pc : Nat) (L S : List AV) (h : XH) : Option XR :=
  zif (decide ((S.take (zzA e.2.1).2.1.2.2.2.2.2).length = (zzA e.2.1).2.1.2.2.2.2.2)) (
  if e.1 = 1 ∨ e.1 = 3 then zgo e.2.1 (S.take (zzA e.2.1).2.1.2.2.2.2.2).reverse pc L (S.drop (zzA e.2.1).2.1.2.2.2.2.2) h
  else if e.1 = 0 then zSA (S.drop (zzA e.2.1).2.1.2.2.2.2.2) (fun b r => zif (zCb h b (zzown e.2.1) && decide (zzown e.2.1 < 7)) (zgo e.2.1 (zrf b :: (S.take (zzA e.2.1).2.1.2.2.2.2.2).reverse) pc L r h))
  else if e.1 = 2 ∨ e.1 = 4 then zSA (S.drop (zzA e.2.1).2.1.2.2.2.2.2) (fun b r => zif (decide (0 ≤ b)) (zgo e.2.1 (zrf b :: (S.take (zzA e.2.1).2.1.2.2.2.2.2).reverse) pc L r h))
  else none)
def zcopy (pc : Nat) (L S : List AV) (h : XH) : Option XR := match S with
  | .inl n :: .inl dp :: .inr (.inr (some a)) :: .inl sp :: .inr (.inr (some a0)) :: r =>
    zif (zCb h a 8 && zCb h a0 8 && decide (0 ≤ n) && decide (0 ≤ sp) && decide (0 ≤ dp) && decide (sp + n ≤ xl h a0) && decide (dp + n ≤ xl h a) && decide (zws r ≤ 8) && zIb (xl h a) && zIb (xl h a0)) (zn (pc + 3) L r (xcpy h a dp n a0 sp))
  | _ => none
def zop (m : Nat) (i : Instr) (pc : Nat) (L S : List AV) (h : XH) : Option XR := match i with
  | .aload k => zlA L k (fun x => zn (pc + 2) L (zrf x :: S) h)
  | .aload_n k => zlA L k (fun x => zn (pc + 1) L (zrf x :: S) h)
  | .iload k => zlI L k (fun x => zn (pc + 2) L (zint x :: S) h)
  | .iload_n k => zlI L k (fun x => zn (pc + 1) L (zint x :: S) h)
  | .lload k => zlL L k (fun x => zn (pc + 2) L (zlng x :: S) h)
  | .lload_n k => zlL L k (fun x => zn (pc + 1) L (zlng x :: S) h)
  | .astore k => zSA S (fun x r => zs1 L k (zrf x) (fun L' => zn (pc + 2) L' r h))
  | .astore_n k => zSA S (fun x r => zs1 L k (zrf x) (fun L' => zn (pc + 1) L' r h))
  | .istore k => zSI S (fun x r => zs1 L k (zint x) (fun L' => zn (pc + 2) L' r h))
  | .istore_n k => zSI S (fun x r => zs1 L k (zint x) (fun L' => zn (pc + 1) L' r h))
  | .lstore k => zSL S (fun x r => zs2 L k (zlng x) (fun L' => zn (pc + 2) L' r h))
  | .lstore_n k => zSL S (fun x r => zs2 L k (zlng x) (fun L' => zn (pc + 1) L' r h))
  | .iinc k c => zlI L k (fun x => zs1 L k (zint (x + c)) (fun L' => zn (pc + 3) L' S h))
  | .iconst c => zn (pc + 1) L (zint c :: S) h
  | .bipush c => zif (zrng (c + 128) 256) (zn (pc + 2) L (zint c :: S) h)
  | .sipush c => zif (zrng (c + 32768) 65536) (zn (pc + 3) L (zint c :: S) h)
  | .ldc x => zlk2 (zzlu zzI (zzown m) x) (fun v => zn (pc + 2) L (zint v.1 :: S) h)
  | .ldc_w x => zlk2 (zzlu zzI (zzown m) x) (fun v => zn (pc + 3) L (zint v.1 :: S) h)
  | .ldc2_w x => zlk2 (zzlu zzJ (zzown m) x) (fun v => zn (pc + 3) L (zlng v.1 :: S) h)
  | .lconst c => zn (pc + 1) L (zlng ((c : Nat) : Int) :: S) h
  | .aconst_null => zn (pc + 1) L (zrf (-1) :: S) h
  | .iadd => zSII S (fun x y r => zn (pc + 1) L (zint (x + y) :: r) h)
  | .isub => zSII S (fun x y r => zn (pc + 1) L (zint (x - y) :: r) h)
  | .imul => zSII S (fun x y r => zn (pc + 1) L (zint (x * y) :: r) h)
  | .ineg => zSI S (fun x r => zn (pc + 1) L (zint (-x) :: r) h)
  | .idiv => zSII S (fun x y r => zif (zIb x && zIb y && decide (y ≠ 0)) (zn (pc + 1) L (zint (x.tdiv y) :: r) h))
  | .irem => zSII S (fun x y r => zif (zIb x && zIb y && decide (y ≠ 0)) (zn (pc + 1) L (zint (x.tmod y) :: r) h))
  | .iand => zSII S (fun x y r => zn (pc + 1) L (zint (Int32.ofInt x &&& Int32.ofInt y).toInt :: r) h)
  | .ixor => zSII S (fun x y r => zn (pc + 1) L (zint (Int32.ofInt x ^^^ Int32.ofInt y).toInt :: r) h)
  | .ishl => zSII S (fun x y r => zn (pc + 1) L (zint (Int32.ofInt x <<< (Int32.ofInt y &&& 31)).toInt :: r) h)
  | .ishr => zSII S (fun x y r => zn (pc + 1) L (zint (Int32.ofInt x >>> (Int32.ofInt y &&& 31)).toInt :: r) h)
  | .i2l => zSI S (fun x r => zif (zIb x) (zn (pc + 1) L (zlng x :: r) h))
  | .l2i => zSL S (fun x r => zn (pc + 1) L (zint (Int32.ofInt x).toInt :: r) h)
  | .i2b => zSI S (fun x r => zn (pc + 1) L (zint (Int32.ofInt x).toInt8.toInt32.toInt :: r) h)
  | .i2s => zSI S (fun x r => zn (pc + 1) L (zint (Int32.ofInt x).toInt16.toInt32.toInt :: r) h)
  | .land => zSLL S (fun x y r => zn (pc + 1) L (zlng (Int64.ofInt x &&& Int64.ofInt y).toInt :: r) h)
  | .lor => zSLL S (fun x y r => zn (pc + 1) L (zlng (Int64.ofInt x ||| Int64.ofInt y).toInt :: r) h)
  | .lshl => zSLI S (fun x y r => zn (pc + 1) L (zlng (Int64.ofInt x <<< ((Int32.ofInt y).toInt64 &&& 63)).toInt :: r) h)
  | .lcmp => zSLL S (fun x y r => zif (zJb x && zJb y) (zn (pc + 1) L (zint (if y < x then 1 else if x = y then 0 else -1) :: r) h))
  | .dup => zS1 S (fun v r => zif (decide (zw1 v = 1)) (zn (pc + 1) L (v :: v :: r) h))
  | .dup_x1 => zS2 S (fun v w r => zif (decide (zw1 v = 1) && decide (zw1 w = 1)) (zn (pc + 1) L (v :: w :: v :: r) h))
  | .dup_x2 => zS2 S (fun v w r => zS1 r (fun u r => zif (decide (zw1 v = 1) && decide (zw1 w = 1) && decide (zw1 u = 1)) (zn (pc + 1) L (v :: w :: u :: v :: r) h)))
  | .dup2 => zS2 S (fun v w r => zif (decide (zw1 v = 1) && decide (zw1 w = 1)) (zn (pc + 1) L (v :: w :: v :: w :: r) h))
  | .pop => zS1 S (fun v r => zif (decide (zw1 v = 1)) (zn (pc + 1) L r h))
  | .ifCond c off => zSI S (fun x r => zif (zIb x) (if zcond c x = true then zj pc off L r h else zn (pc + 3) L r h))
  | .if_icmp c off => zSII S (fun x y r => zif (zIb x && zIb y) (if zcmp c x y = true then zj pc off L r h else zn (pc + 3) L r h))
  | .ifnull off => zSA S (fun x r => if x < 0 then zj pc off L r h else zn (pc + 3) L r h)
  | .ifnonnull off => zSA S (fun x r => if x < 0 then zn (pc + 3) L r h else zj pc off L r h)
  | .goto off => zj pc off L S h
  | .tableswitch d lo hi offs => zSI S (fun x r => zif (zIb x && decide (offs.toList.length = (hi - lo + 1).toNat) && decide (lo ≤ hi)) (zj pc (ztab offs.toList lo d x) L r h))
  | .lookupswitch d ps => zSI S (fun x r => zif (zIb x && (ps.toList.zip (ps.toList.drop 1)).all (fun (a, next) => a.1 < next.1)) (zj pc (zlus ps.toList d x) L r h))
  | .getfield x => zlk2 (zzlu zzF (zzown m) x) (fun e => zSA S (fun o r => zif (zCb h o e.1) (zn (pc + 3) L ((if zzref e.1 e.2.1 = true then zrf (xr h o (e.2.1 : Nat)) else zint (xs h o (e.2.1 : Nat))) :: r) h)))
  | .putfield x => zlk2 (zzlu zzF (zzown m) x) (fun e => zSvA S (fun v o r => zif (zCb h o e.1 && (!zzfin e.1 e.2.1 || (decide (zzown m = e.1) && decide ((zzA m).1.1.name = "<init>"))))
      (if zzref e.1 e.2.1 = true then zvA v (fun y => zn (pc + 3) L r (xref h o (e.2.1 : Nat) y)) else zvI v (fun y => zif (!zzbool e.1 e.2.1 || decide (y = 0 ∨ y = 1)) (zn (pc + 3) L r (xset h o (e.2.1 : Nat) y))))))
  | .iaload => zSIA S (fun a i r => zif (zSb h a 7 && zrng i (xl h a) && zIb (xl h a)) (zn (pc + 1) L (zint (xs h a i) :: r) h))
  | .baload => zSIA S (fun a i r => zif (zCb h a 9 && zrng i (xl h a) && zIb (xl h a)) (zn (pc + 1) L (zint (xs h a i) :: r) h))
  | .laload => zSIA S (fun a i r => zif (zCb h a 8 && zrng i (xl h a) && zIb (xl h a)) (zn (pc + 1) L (zlng (xs h a i) :: r) h))
  | .aaload => zSIA S (fun a i r => zif ((zCb h a 10 || zCb h a 11 || zCb h a 12 || zCb h a 13) && zrng i (xl h a) && zIb (xl h a)) (zn (pc + 1) L (zrf (xr h a i) :: r) h))
  | .iastore => zSvIA S (fun v a i r => zvI v (fun y => zif (zCb h a 7 && zrng i (xl h a) && zIb (xl h a)) (zn (pc + 1) L r (xset h a i y))))
  | .bastore => zSvIA S (fun v a i r => zvI v (fun y => zif (zCb h a 9 && zrng i (xl h a) && zIb (xl h a) && zrng (y + 128) 256) (zn (pc + 1) L r (xset h a i y))))
  | .lastore => zSvIA S (fun v a i r => zvL v (fun y => zif (zCb h a 8 && zrng i (xl h a) && zIb (xl h a)) (zn (pc + 1) L r (xset h a i y))))
  | .aastore => zSvIA S (fun v a i r => zvA v (fun y => zif (((zCb h a 10 && zCb h y 0) || (zCb h a 11 && zCb h y 3)) && zrng i (xl h a) && zIb (xl h a)) (zn (pc + 1) L r (xref h a i y))))
  | .arraylength => zSA S (fun a r => zif ((zSb h a 7 || zCb h a 8) && zIb (xl h a) && decide (0 ≤ xl h a)) (zn (pc + 1) L (zint (xl h a) :: r) h))
  | .new x => zlk2 (zzlu zzC (zzown m) x) (fun e => zif (decide (xn h < 900000) && decide (e.1 < 7)) (zn (pc + 3) L (zrf (xn h) :: S) (xnew h e.1 0 (zznf e.1))))
  | .newarray t => zSI S (fun k r => zif (zrng k 100000 && decide (xn h < 900000)) (match t with
      | .int => zn (pc + 2) L (zrf (xn h) :: r) (xnew h 7 k k.toNat)
      | .long => zn (pc + 2) L (zrf (xn h) :: r) (xnew h 8 k k.toNat)
      | .byte => zn (pc + 2) L (zrf (xn h) :: r) (xnew h 9 k k.toNat)
      | _ => none))
  | .anewarray x => zlk2 (zzlu zzC (zzown m) x) (fun e => zSI S (fun k r => zif (zrng k 100000 && decide (xn h < 900000)) (if e.1 = 0 then zn (pc + 3) L (zrf (xn h) :: r) (xnew h 10 k k.toNat) else if e.1 = 3 then zn (pc + 3) L (zrf (xn h) :: r) (xnew h 11 k k.toNat) else none)))
  | .multianewarray x n => zlk2 (zzlu zzC2 (zzown m) x) (fun e => zSII S (fun j k r => zif (zrng k 1000 && zrng j 1000 && decide (xn h < 900000) && decide (n = 2)) (zn (pc + 4) L (zrf (xn h) :: r) (xmul h e.1 j k))))
  | .invokevirtual x => zlk2 (zzlu zzL (zzown m) x) (fun e => zif (decide (e.1 = 0)) (zcall e pc L S h))
  | .invokespecial x => zlk2 (zzlu zzL (zzown m) x) (fun e => if e.1 = 5 then zSA S (fun b r => zif (decide (0 ≤ b) && decide (zws r ≤ 8)) (zn (pc + 3) L r h)) else zif (decide (e.1 = 2 ∨ e.1 = 4)) (zcall e pc L S h))
  | .invokestatic x => zlk2 (zzlu zzL (zzown m) x) (fun e => if e.1 = 6 then zcopy pc L S h else zif (decide (e.1 = 1 ∨ e.1 = 3)) (zcall e pc L S h))
  | .ireturn => (match S with
      | [.inl x] => zif (decide ((zzA m).1.2.2.2.1 = some .int) || (decide ((zzA m).1.2.2.2.1 = some .boolean) && decide (x = 0 ∨ x = 1))) (some (.inr (.inr (some (zint x), h))))
      | _ => none)
  | .lreturn => (match S with
      | [.inr (.inl x)] => zif (decide ((zzA m).1.2.2.2.1 = some .long)) (some (.inr (.inr (some (zlng x), h))))
      | _ => none)
  | .areturn => (match S with
      | [.inr (.inr (some x))] => zif (decide ((zzA m).1.2.2.2.1 = some (.object "LooseGrid$Box")) || decide ((zzA m).1.2.2.2.1 = some (.object "LooseGrid$Tape"))) (some (.inr (.inr (some (zrf x), h))))
      | _ => none)
  | .return_ => (match S with
      | [] => zif (decide ((zzA m).1.2.2.2.1 = none)) (some (.inr (.inr (none, h))))
      | _ => none)
  | _ => none
/-- how long an instruction is (a switch: 0) -/
def zln (i : Instr) : Nat := match i with
  | .tableswitch _ _ _ _ => 0
  | .lookupswitch _ _ => 0
  | .aload _ => 2
  | .iload _ => 2
  | .lload _ => 2
  | .astore _ => 2
  | .istore _ => 2
  | .lstore _ => 2
  | .bipush _ => 2
  | .ldc _ => 2
  | .newarray _ => 2
  | .iinc _ _ => 3
  | .sipush _ => 3
  | .ldc_w _ => 3
  | .ldc2_w _ => 3
  | .ifCond _ _ => 3
  | .if_icmp _ _ => 3
  | .ifnull _ => 3
  | .ifnonnull _ => 3
  | .goto _ => 3
  | .getfield _ => 3
  | .putfield _ => 3
  | .new _ => 3
  | .anewarray _ => 3
  | .invokevirtual _ => 3
  | .invokespecial _ => 3
  | .invokestatic _ => 3
  | .multianewarray _ _ => 4
  | _ => 1
def zstep (m : Nat) (c : XC) : Option XR := match zzins m c.1 with
  | some i => zif (decide (zln i.1 = 0 ∨ zln i.1 = i.2)) (zop m i.1 c.1 c.2.1 c.2.2.1 c.2.2.2)
  | none => none
def zent (m : Nat) (args : List AV) (h : XH) : XC := (0, zlay args ++ List.replicate ((zzA m).1.2.2.1 - (zlay args).length) (.inr (.inr none)), [], h)
def zexec : Nat → Nat → Nat → XC → Option (Option AV × XH)
  | 0, _, _, _ => none
  | f + 1, d, m, c => match zstep m c with
    | none => none
    | some (.inl c') => zexec f d m c'
    | some (.inr (.inr r)) => some r
    | some (.inr (.inl (t, args, pc, L, S, h))) => match d with
      | 0 => none
      | d' + 1 => match zexec f d' t (zent t args h) with
        | none => none
        | some (v, h') => zexec f (d' + 1) m (pc, L, v.toList ++ S, h')
theorem zexec_mono : ∀ (f d m : Nat) (c : XC) (x : Option AV × XH), zexec f d m c = some x → ∀ g, f ≤ g → zexec g d m c = some x
  | 0, _, _, _, _, h, _, _ => by simp [zexec] at h
  | f + 1, d, m, c, x, h, g, hg => by
    obtain ⟨g, rfl⟩ : ∃ k, g = k + 1 := ⟨g - 1, by omega⟩
    have hg : f ≤ g := by omega
    unfold zexec at h ⊢
    cases hs : zstep m c with
    | none => rw [hs] at h; cases h
    | some r =>
      rw [hs] at h
      rcases r with c' | ⟨t, args, pc, L, S, h0⟩ | r
      · exact zexec_mono f d m c' x h g hg
      · cases d with
        | zero => cases h
        | succ d =>
          dsimp only at h ⊢
          cases h1 : zexec f d t (zent t args h0) with
          | none => rw [h1] at h; cases h
          | some y =>
            rw [h1] at h
            rw [zexec_mono f d t _ y h1 g hg]
            exact zexec_mono f (d + 1) m _ x h g hg
      · exact h
def Wp (d m : Nat) (c : XC) (Q : Option AV → XH → Prop) : Prop := ∃ (f : Nat) (x : Option AV × XH), zexec f d m c = some x ∧ Q x.1 x.2
def Call (d m : Nat) (args : List AV) (h : XH) (Q : Option AV → XH → Prop) : Prop := ∃ d' : Nat, d = d' + 1 ∧ Wp d' m (zent m args h) Q
theorem wp_nx {d m : Nat} {c c' : XC} {Q : Option AV → XH → Prop} (h : zstep m c = some (.inl c')) : Wp d m c Q = Wp d m c' Q := by
  apply propext
  constructor
  · rintro ⟨f, x, h1, h2⟩
    cases f with
    | zero => simp [zexec] at h1
    | succ f =>
      unfold zexec at h1
      rw [h] at h1
      exact ⟨f, x, h1, h2⟩
  · rintro ⟨f, x, h1, h2⟩
    refine ⟨f + 1, x, ?_, h2⟩
    unfold zexec
    rw [h]
    exact h1
theorem wp_rt {d m : Nat} {c : XC} {r : Option AV × XH} {Q : Option AV → XH → Prop} (h : zstep m c = some (.inr (.inr r))) : Wp d m c Q = Q r.1 r.2 := by
  apply propext
  constructor
  · rintro ⟨f, x, h1, h2⟩
    cases f with
    | zero => simp [zexec] at h1
    | succ f =>
      unfold zexec at h1
      rw [h] at h1
      cases h1
      exact h2
  · intro h2
    refine ⟨1, r, ?_, h2⟩
    unfold zexec
    rw [h]
theorem wp_no {d m : Nat} {c : XC} {Q : Option AV → XH → Prop} (h : zstep m c = none) : Wp d m c Q = False := by
  apply propext
  constructor
  · rintro ⟨f, x, h1, h2⟩
    cases f with
    | zero => simp [zexec] at h1
    | succ f =>
      unfold zexec at h1
      rw [h] at h1
      cases h1
  · exact False.elim
theorem wp_cl {d m : Nat} {c : XC} {t : Nat} {args : List AV} {pc : Nat} {L S : List AV} {h0 : XH} {Q : Option AV → XH → Prop} (h : zstep m c = some (.inr (.inl (t, args, pc, L, S, h0)))) : Wp d m c Q = Call d t args h0 (fun r h' => Wp d m (pc, L, r.toList ++ S, h') Q) := by
  apply propext
  constructor
  · rintro ⟨f, x, h1, h2⟩
    cases f with
    | zero => simp [zexec] at h1
    | succ f =>
      unfold zexec at h1
      rw [h] at h1
      cases d with
      | zero => cases h1
      | succ d =>
        dsimp only at h1
        cases h3 : zexec f d t (zent t args h0) with
        | none => rw [h3] at h1; cases h1
        | some y =>
          rw [h3] at h1
          exact ⟨d, rfl, f, y, h3, f, x, h1, h2⟩
  · rintro ⟨d, rfl, f, y, h3, g, x, h1, h2⟩
    refine ⟨f + g + 1, x, ?_, h2⟩
    unfold zexec
    rw [h]
    dsimp only
    rw [zexec_mono f d t _ y h3 (f + g) (by omega)]
    exact zexec_mono g (d + 1) m _ x h1 (f + g) (by omega)
theorem wp_imp {d m : Nat} {c : XC} {Q Q' : Option AV → XH → Prop} (h : Wp d m c Q) (hq : ∀ r h', Q r h' → Q' r h') : Wp d m c Q' := by
  obtain ⟨f, x, h1, h2⟩ := h
  exact ⟨f, x, h1, hq _ _ h2⟩
theorem call_imp {d m : Nat} {args : List AV} {h0 : XH} {Q Q' : Option AV → XH → Prop} (h : Call d m args h0 Q) (hq : ∀ r h', Q r h' → Q' r h') : Call d m args h0 Q' := by
  obtain ⟨d', e, h⟩ := h
  exact ⟨d', e, wp_imp h hq⟩
/-- a call that comes to one answer, whatever is asked behind it -/
theorem call_eq {d m : Nat} {args : List AV} {h0 h' : XH} {r : Option AV} (h : Call d m args h0 (fun r1 h1 => r1 = r ∧ h1 = h')) (Q : Option AV → XH → Prop) : Call d m args h0 Q = Q r h' := by
  obtain ⟨d', rfl, f, x, h1, h2, h3⟩ := h
  subst h2; subst h3
  apply propext
  constructor
  · rintro ⟨d2, e, g, y, g1, g2⟩
    cases e
    have a1 := zexec_mono _ _ _ _ _ h1 (f + g) (by omega)
    have a2 := zexec_mono _ _ _ _ _ g1 (f + g) (by omega)
    rw [a1] at a2
    cases a2
    exact g2
  · intro hq
    exact ⟨d', rfl, f, x, h1, hq⟩
end
