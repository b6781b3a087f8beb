/-! one instruction of the abstract machine, as an equation of propositions -/
def zun : AV := .inr (.inr none)
def lI (L : List AV) (k : Nat) (f : Int → Prop) : Prop := match zld L k with
  | .inl x => f x
  | _ => False
def lL (L : List AV) (k : Nat) (f : Int → Prop) : Prop := match zld L k with
  | .inr (.inl x) => f x
  | _ => False
def lR (L : List AV) (k : Nat) (f : Int → Prop) : Prop := match zld L k with
  | .inr (.inr (some x)) => f x
  | _ => False
def sT (L : List AV) (k : Nat) (v : AV) (f : List AV → Prop) : Prop := match zst1 L k v with
  | some L' => f L'
  | none => False
def sU (L : List AV) (k : Nat) (v : AV) (f : List AV → Prop) : Prop := match zst2 L k v with
  | some L' => f L'
  | none => False
theorem zld_0 (v : AV) (L : List AV) : zld (v :: L) 0 = v := rfl
theorem zld_s (v : AV) (L : List AV) (k : Nat) : zld (v :: L) (k + 1) = zld L k := rfl
theorem lI_0 (x : Int) (L : List AV) (f : Int → Prop) : lI (zint x :: L) 0 f = f x := rfl
theorem lI_s (v : AV) (L : List AV) (k : Nat) (f : Int → Prop) : lI (v :: L) (k + 1) f = lI L k f := rfl
theorem lL_0 (x : Int) (L : List AV) (f : Int → Prop) : lL (zlng x :: L) 0 f = f x := rfl
theorem lL_s (v : AV) (L : List AV) (k : Nat) (f : Int → Prop) : lL (v :: L) (k + 1) f = lL L k f := rfl
theorem lR_0 (x : Int) (L : List AV) (f : Int → Prop) : lR (zrf x :: L) 0 f = f x := rfl
theorem lR_s (v : AV) (L : List AV) (k : Nat) (f : Int → Prop) : lR (v :: L) (k + 1) f = lR L k f := rfl
theorem sT_0 (w : AV) (L : List AV) (v : AV) (f : List AV → Prop) : sT (w :: L) 0 v f = f (v :: L) := by
  unfold sT zst1
  rw [if_pos ⟨by simp, Or.inl rfl⟩]
  rfl
theorem sT_s {w : AV} (hw : zlong w = false) (L : List AV) (k : Nat) (v : AV) (f : List AV → Prop) : sT (w :: L) (k + 1) v f = sT L k v (fun L' => f (w :: L')) := by
  unfold sT zst1
  by_cases h : k < L.length ∧ (k = 0 ∨ zlong (zld L (k - 1)) = false)
  · rw [if_pos h, if_pos]
    · rfl
    · refine ⟨by simpa using h.1, Or.inr ?_⟩
      rcases h.2 with e | e
      · subst e; exact hw
      · cases k with
        | zero => exact hw
        | succ k => exact e
  · rw [if_neg h, if_neg]
    rintro ⟨h1, h2⟩
    refine h ⟨by simpa using h1, ?_⟩
    rcases h2 with e | e
    · omega
    · cases k with
      | zero => exact Or.inl rfl
      | succ k => exact Or.inr e
theorem sT_i (x : Int) (L : List AV) (k : Nat) (v : AV) (f : List AV → Prop) : sT (zint x :: L) (k + 1) v f = sT L k v (fun L' => f (zint x :: L')) := sT_s rfl L k v f
theorem sT_r (x : Int) (L : List AV) (k : Nat) (v : AV) (f : List AV → Prop) : sT (zrf x :: L) (k + 1) v f = sT L k v (fun L' => f (zrf x :: L')) := sT_s rfl L k v f
theorem sT_u (L : List AV) (k : Nat) (v : AV) (f : List AV → Prop) : sT (zun :: L) (k + 1) v f = sT L k v (fun L' => f (zun :: L')) := sT_s rfl L k v f
theorem sT_l (x : Int) (w : AV) (hw : zlong w = false) (L : List AV) (k : Nat) (v : AV) (f : List AV → Prop) : sT (zlng x :: w :: L) (k + 2) v f = sT L k v (fun L' => f (zlng x :: w :: L')) := by
  have h1 : sT (zlng x :: w :: L) (k + 2) v f = sT (w :: L) (k + 1) v (fun L' => f (zlng x :: L')) := by
    unfold sT zst1
    by_cases h : k + 1 < (w :: L).length ∧ (k + 1 = 0 ∨ zlong (zld (w :: L) (k + 1 - 1)) = false)
    · rw [if_pos h, if_pos]
      · rfl
      · refine ⟨by simpa using h.1, Or.inr ?_⟩
        rcases h.2 with e | e
        · omega
        · exact e
    · rw [if_neg h, if_neg]
      rintro ⟨h1, h2⟩
      refine h ⟨by simpa using h1, Or.inr ?_⟩
      rcases h2 with e | e
      · omega
      · exact e
  rw [h1, sT_s hw]
theorem sT_lu (x : Int) (L : List AV) (k : Nat) (v : AV) (f : List AV → Prop) : sT (zlng x :: zun :: L) (k + 2) v f = sT L k v (fun L' => f (zlng x :: zun :: L')) := sT_l x zun rfl L k v f
theorem sU_0 (w u : AV) (L : List AV) (v : AV) (f : List AV → Prop) : sU (w :: u :: L) 0 v f = f (v :: zun :: L) := by
  unfold sU zst2
  rw [if_pos ⟨by simp, Or.inl rfl⟩]
  rfl
theorem sU_s {w : AV} (hw : zlong w = false) (L : List AV) (k : Nat) (v : AV) (f : List AV → Prop) : sU (w :: L) (k + 1) v f = sU L k v (fun L' => f (w :: L')) := by
  unfold sU zst2
  by_cases h : k + 1 < L.length ∧ (k = 0 ∨ zlong (zld L (k - 1)) = false)
  · rw [if_pos h, if_pos]
    · rfl
    · refine ⟨by simpa using h.1, Or.inr ?_⟩
      rcases h.2 with e | e
      · subst e; exact hw
      · cases k with
        | zero => exact hw
        | succ k => exact e
  · rw [if_neg h, if_neg]
    rintro ⟨h1, h2⟩
    refine h ⟨by simpa using h1, ?_⟩
    rcases h2 with e | e
    · omega
    · cases k with
      | zero => exact Or.inl rfl
      | succ k => exact Or.inr e
theorem sU_i (x : Int) (L : List AV) (k : Nat) (v : AV) (f : List AV → Prop) : sU (zint x :: L) (k + 1) v f = sU L k v (fun L' => f (zint x :: L')) := sU_s rfl L k v f
theorem sU_r (x : Int) (L : List AV) (k : Nat) (v : AV) (f : List AV → Prop) : sU (zrf x :: L) (k + 1) v f = sU L k v (fun L' => f (zrf x :: L')) := sU_s rfl L k v f
theorem sU_u (L : List AV) (k : Nat) (v : AV) (f : List AV → Prop) : sU (zun :: L) (k + 1) v f = sU L k v (fun L' => f (zun :: L')) := sU_s rfl L k v f
theorem zws_i (x : Int) (S : List AV) : zws (zint x :: S) = 1 + zws S := rfl
theorem zws_r (x : Int) (S : List AV) : zws (zrf x :: S) = 1 + zws S := rfl
theorem zws_l (x : Int) (S : List AV) : zws (zlng x :: S) = 2 + zws S := rfl
theorem zws_n : zws [] = 0 := rfl
section ZU
variable {d m pc : Nat} {len : Nat} {L S : List AV} {h : XH} {Q : Option AV → XH → Prop}
theorem zstep_of {i : Instr} (hi : zzins m pc = some (i, len)) (hl : zln i = 0 ∨ zln i = len) : zstep m (pc, L, S, h) = zop m i pc L S h := by
  unfold zstep
  show (match zzins m pc with | some i => zif (decide (zln i.1 = 0 ∨ zln i.1 = i.2)) (zop m i.1 pc L S h) | none => none) = _
  rw [hi]
  show (if decide (zln i = 0 ∨ zln i = len) = true then zop m i pc L S h else none) = _
  rw [if_pos (by simpa using hl)]
theorem wp_go {i : Instr} {c' : XC} (hi : zzins m pc = some (i, len)) (hl : zln i = 0 ∨ zln i = len) (hs : zop m i pc L S h = some (.inl c')) : Wp d m (pc, L, S, h) Q = Wp d m c' Q := wp_nx ((zstep_of hi hl).trans hs)
theorem wp_stop {i : Instr} (hi : zzins m pc = some (i, len)) (hl : zln i = 0 ∨ zln i = len) (hs : zop m i pc L S h = none) : Wp d m (pc, L, S, h) Q = False := wp_no ((zstep_of hi hl).trans hs)
/-- behind a test -/
theorem wp_if {i : Instr} {c' : XC} {b : Bool} {P : Prop} (hi : zzins m pc = some (i, len)) (hl : zln i = 0 ∨ zln i = len) (hs : zop m i pc L S h = zif b (some (.inl c'))) (hb : b = true ↔ P) : Wp d m (pc, L, S, h) Q = (P ∧ Wp d m c' Q) := by
  apply propext
  by_cases hc : b = true
  · have e1 : zop m i pc L S h = some (.inl c') := by rw [hs, hc]; rfl
    rw [wp_go hi hl e1]
    exact ⟨fun z => ⟨hb.mp hc, z⟩, fun z => z.2⟩
  · have e1 : zop m i pc L S h = none := by rw [hs]; unfold zif; rw [if_neg hc]
    rw [wp_stop hi hl e1]
    exact ⟨fun z => z.elim, fun z => hc (hb.mpr z.1)⟩
theorem ub_iload {q : Nat} (hi : zzins m pc = some (.iload q, len)) (hl : zln (.iload q) = len) : Wp d m (pc, L, S, h) Q = lI L q (fun x => Wp d m (pc + 2, L, zint x :: S, h) Q) := by
  unfold lI
  rcases hv : zld L q with y | y | _ | y <;>
    first
      | exact wp_go hi (Or.inr hl) (by simp only [zop, zlI, hv]; rfl)
      | exact wp_stop hi (Or.inr hl) (by simp only [zop, zlI, hv])
theorem ub_iload_n {q : Fin 4} (hi : zzins m pc = some (.iload_n q, len)) (hl : zln (.iload_n q) = len) : Wp d m (pc, L, S, h) Q = lI L q (fun x => Wp d m (pc + 1, L, zint x :: S, h) Q) := by
  unfold lI
  rcases hv : zld L q with y | y | _ | y <;>
    first
      | exact wp_go hi (Or.inr hl) (by simp only [zop, zlI, hv]; rfl)
      | exact wp_stop hi (Or.inr hl) (by simp only [zop, zlI, hv])
theorem ub_lload {q : Nat} (hi : zzins m pc = some (.lload q, len)) (hl : zln (.lload q) = len) : Wp d m (pc, L, S, h) Q = lL L q (fun x => Wp d m (pc + 2, L, zlng x :: S, h) Q) := by
  unfold lL
  rcases hv : zld L q with y | y | _ | y <;>
    first
      | exact wp_go hi (Or.inr hl) (by simp only [zop, zlL, hv]; rfl)
      | exact wp_stop hi (Or.inr hl) (by simp only [zop, zlL, hv])
theorem ub_lload_n {q : Fin 4} (hi : zzins m pc = some (.lload_n q, len)) (hl : zln (.lload_n q) = len) : Wp d m (pc, L, S, h) Q = lL L q (fun x => Wp d m (pc + 1, L, zlng x :: S, h) Q) := by
  unfold lL
  rcases hv : zld L q with y | y | _ | y <;>
    first
      | exact wp_go hi (Or.inr hl) (by simp only [zop, zlL, hv]; rfl)
      | exact wp_stop hi (Or.inr hl) (by simp only [zop, zlL, hv])
theorem ub_aload {q : Nat} (hi : zzins m pc = some (.aload q, len)) (hl : zln (.aload q) = len) : Wp d m (pc, L, S, h) Q = lR L q (fun x => Wp d m (pc + 2, L, zrf x :: S, h) Q) := by
  unfold lR
  rcases hv : zld L q with y | y | _ | y <;>
    first
      | exact wp_go hi (Or.inr hl) (by simp only [zop, zlA, hv]; rfl)
      | exact wp_stop hi (Or.inr hl) (by simp only [zop, zlA, hv])
theorem ub_aload_n {q : Fin 4} (hi : zzins m pc = some (.aload_n q, len)) (hl : zln (.aload_n q) = len) : Wp d m (pc, L, S, h) Q = lR L q (fun x => Wp d m (pc + 1, L, zrf x :: S, h) Q) := by
  unfold lR
  rcases hv : zld L q with y | y | _ | y <;>
    first
      | exact wp_go hi (Or.inr hl) (by simp only [zop, zlA, hv]; rfl)
      | exact wp_stop hi (Or.inr hl) (by simp only [zop, zlA, hv])
theorem ub_istore {q : Nat} {x : Int} (hi : zzins m pc = some (.istore q, len)) (hl : zln (.istore q) = len) : Wp d m (pc, L, zint x :: S, h) Q = sT L q (zint x) (fun L' => Wp d m (pc + 2, L', S, h) Q) := by
  unfold sT
  cases hv : zst1 L q (zint x) with
  | none => exact wp_stop hi (Or.inr hl) (by show zs1 L q (zint x) _ = none; unfold zs1; rw [hv])
  | some L' => exact wp_go hi (Or.inr hl) (by show zs1 L q (zint x) _ = _; unfold zs1; rw [hv]; rfl)
theorem ub_istore_n {q : Fin 4} {x : Int} (hi : zzins m pc = some (.istore_n q, len)) (hl : zln (.istore_n q) = len) : Wp d m (pc, L, zint x :: S, h) Q = sT L q (zint x) (fun L' => Wp d m (pc + 1, L', S, h) Q) := by
  unfold sT
  cases hv : zst1 L q (zint x) with
  | none => exact wp_stop hi (Or.inr hl) (by show zs1 L q (zint x) _ = none; unfold zs1; rw [hv])
  | some L' => exact wp_go hi (Or.inr hl) (by show zs1 L q (zint x) _ = _; unfold zs1; rw [hv]; rfl)
theorem ub_astore {q : Nat} {x : Int} (hi : zzins m pc = some (.astore q, len)) (hl : zln (.astore q) = len) : Wp d m (pc, L, zrf x :: S, h) Q = sT L q (zrf x) (fun L' => Wp d m (pc + 2, L', S, h) Q) := by
  unfold sT
  cases hv : zst1 L q (zrf x) with
  | none => exact wp_stop hi (Or.inr hl) (by show zs1 L q (zrf x) _ = none; unfold zs1; rw [hv])
  | some L' => exact wp_go hi (Or.inr hl) (by show zs1 L q (zrf x) _ = _; unfold zs1; rw [hv]; rfl)
theorem ub_astore_n {q : Fin 4} {x : Int} (hi : zzins m pc = some (.astore_n q, len)) (hl : zln (.astore_n q) = len) : Wp d m (pc, L, zrf x :: S, h) Q = sT L q (zrf x) (fun L' => Wp d m (pc + 1, L', S, h) Q) := by
  unfold sT
  cases hv : zst1 L q (zrf x) with
  | none => exact wp_stop hi (Or.inr hl) (by show zs1 L q (zrf x) _ = none; unfold zs1; rw [hv])
  | some L' => exact wp_go hi (Or.inr hl) (by show zs1 L q (zrf x) _ = _; unfold zs1; rw [hv]; rfl)
theorem ub_lstore {q : Nat} {x : Int} (hi : zzins m pc = some (.lstore q, len)) (hl : zln (.lstore q) = len) : Wp d m (pc, L, zlng x :: S, h) Q = sU L q (zlng x) (fun L' => Wp d m (pc + 2, L', S, h) Q) := by
  unfold sU
  cases hv : zst2 L q (zlng x) with
  | none => exact wp_stop hi (Or.inr hl) (by show zs2 L q (zlng x) _ = none; unfold zs2; rw [hv])
  | some L' => exact wp_go hi (Or.inr hl) (by show zs2 L q (zlng x) _ = _; unfold zs2; rw [hv]; rfl)
theorem ub_lstore_n {q : Fin 4} {x : Int} (hi : zzins m pc = some (.lstore_n q, len)) (hl : zln (.lstore_n q) = len) : Wp d m (pc, L, zlng x :: S, h) Q = sU L q (zlng x) (fun L' => Wp d m (pc + 1, L', S, h) Q) := by
  unfold sU
  cases hv : zst2 L q (zlng x) with
  | none => exact wp_stop hi (Or.inr hl) (by show zs2 L q (zlng x) _ = none; unfold zs2; rw [hv])
  | some L' => exact wp_go hi (Or.inr hl) (by show zs2 L q (zlng x) _ = _; unfold zs2; rw [hv]; rfl)
theorem ub_iinc {q : Nat} {n : Int} (hi : zzins m pc = some (.iinc q n, len)) (hl : zln (.iinc q n) = len) : Wp d m (pc, L, S, h) Q = lI L q (fun x => sT L q (zint (x + n)) (fun L' => Wp d m (pc + 3, L', S, h) Q)) := by
  unfold lI sT
  rcases hv : zld L q with y | y | _ | y
  · dsimp only
    cases hw : zst1 L q (zint (y + n)) with
    | none => exact wp_stop hi (Or.inr hl) (by simp only [zop, zlI, hv, zs1, hw])
    | some L' => exact wp_go hi (Or.inr hl) (by simp only [zop, zlI, hv, zs1, hw]; rfl)
  all_goals exact wp_stop hi (Or.inr hl) (by simp only [zop, zlI, hv])
theorem ub_iconst {n : Int} (hi : zzins m pc = some (.iconst n, len)) (hl : zln (.iconst n) = len) : Wp d m (pc, L, S, h) Q = Wp d m (pc + 1, L, zint n :: S, h) Q := wp_go hi (Or.inr hl) rfl
theorem ub_aconst_null (hi : zzins m pc = some (.aconst_null, len)) (hl : zln (.aconst_null) = len) : Wp d m (pc, L, S, h) Q = Wp d m (pc + 1, L, zrf (-1) :: S, h) Q := wp_go hi (Or.inr hl) rfl
theorem ub_lconst {n : Fin 2} (hi : zzins m pc = some (.lconst n, len)) (hl : zln (.lconst n) = len) : Wp d m (pc, L, S, h) Q = Wp d m (pc + 1, L, zlng ((n : Nat) : Int) :: S, h) Q := wp_go hi (Or.inr hl) rfl
theorem ub_iadd {x y : Int} (hi : zzins m pc = some (.iadd, len)) (hl : zln (.iadd) = len) : Wp d m (pc, L, zint y :: zint x :: S, h) Q = Wp d m (pc + 1, L, zint (x + y) :: S, h) Q := wp_go hi (Or.inr hl) rfl
theorem ub_isub {x y : Int} (hi : zzins m pc = some (.isub, len)) (hl : zln (.isub) = len) : Wp d m (pc, L, zint y :: zint x :: S, h) Q = Wp d m (pc + 1, L, zint (x - y) :: S, h) Q := wp_go hi (Or.inr hl) rfl
theorem ub_imul {x y : Int} (hi : zzins m pc = some (.imul, len)) (hl : zln (.imul) = len) : Wp d m (pc, L, zint y :: zint x :: S, h) Q = Wp d m (pc + 1, L, zint (x * y) :: S, h) Q := wp_go hi (Or.inr hl) rfl
theorem ub_iand {x y : Int} (hi : zzins m pc = some (.iand, len)) (hl : zln (.iand) = len) : Wp d m (pc, L, zint y :: zint x :: S, h) Q = Wp d m (pc + 1, L, zint ((Int32.ofInt x &&& Int32.ofInt y).toInt) :: S, h) Q := wp_go hi (Or.inr hl) rfl
theorem ub_ixor {x y : Int} (hi : zzins m pc = some (.ixor, len)) (hl : zln (.ixor) = len) : Wp d m (pc, L, zint y :: zint x :: S, h) Q = Wp d m (pc + 1, L, zint ((Int32.ofInt x ^^^ Int32.ofInt y).toInt) :: S, h) Q := wp_go hi (Or.inr hl) rfl
theorem ub_ishl {x y : Int} (hi : zzins m pc = some (.ishl, len)) (hl : zln (.ishl) = len) : Wp d m (pc, L, zint y :: zint x :: S, h) Q = Wp d m (pc + 1, L, zint ((Int32.ofInt x <<< (Int32.ofInt y &&& 31)).toInt) :: S, h) Q := wp_go hi (Or.inr hl) rfl
theorem ub_ishr {x y : Int} (hi : zzins m pc = some (.ishr, len)) (hl : zln (.ishr) = len) : Wp d m (pc, L, zint y :: zint x :: S, h) Q = Wp d m (pc + 1, L, zint ((Int32.ofInt x >>> (Int32.ofInt y &&& 31)).toInt) :: S, h) Q := wp_go hi (Or.inr hl) rfl
theorem ub_ineg {x : Int} (hi : zzins m pc = some (.ineg, len)) (hl : zln (.ineg) = len) : Wp d m (pc, L, zint x :: S, h) Q = Wp d m (pc + 1, L, zint (-x) :: S, h) Q := wp_go hi (Or.inr hl) rfl
theorem ub_l2i {x : Int} (hi : zzins m pc = some (.l2i, len)) (hl : zln (.l2i) = len) : Wp d m (pc, L, zlng x :: S, h) Q = Wp d m (pc + 1, L, zint (Int32.ofInt x).toInt :: S, h) Q := wp_go hi (Or.inr hl) rfl
theorem ub_i2b {x : Int} (hi : zzins m pc = some (.i2b, len)) (hl : zln (.i2b) = len) : Wp d m (pc, L, zint x :: S, h) Q = Wp d m (pc + 1, L, zint (Int32.ofInt x).toInt8.toInt32.toInt :: S, h) Q := wp_go hi (Or.inr hl) rfl
theorem ub_i2s {x : Int} (hi : zzins m pc = some (.i2s, len)) (hl : zln (.i2s) = len) : Wp d m (pc, L, zint x :: S, h) Q = Wp d m (pc + 1, L, zint (Int32.ofInt x).toInt16.toInt32.toInt :: S, h) Q := wp_go hi (Or.inr hl) rfl
theorem ub_land {x y : Int} (hi : zzins m pc = some (.land, len)) (hl : zln (.land) = len) : Wp d m (pc, L, zlng y :: zlng x :: S, h) Q = Wp d m (pc + 1, L, zlng ((Int64.ofInt x &&& Int64.ofInt y).toInt) :: S, h) Q := wp_go hi (Or.inr hl) rfl
theorem ub_lor {x y : Int} (hi : zzins m pc = some (.lor, len)) (hl : zln (.lor) = len) : Wp d m (pc, L, zlng y :: zlng x :: S, h) Q = Wp d m (pc + 1, L, zlng ((Int64.ofInt x ||| Int64.ofInt y).toInt) :: S, h) Q := wp_go hi (Or.inr hl) rfl
theorem ub_lshl {x y : Int} (hi : zzins m pc = some (.lshl, len)) (hl : zln (.lshl) = len) : Wp d m (pc, L, zint y :: zlng x :: S, h) Q = Wp d m (pc + 1, L, zlng (Int64.ofInt x <<< ((Int32.ofInt y).toInt64 &&& 63)).toInt :: S, h) Q := wp_go hi (Or.inr hl) rfl
theorem ub_dup_i {x : Int} (hi : zzins m pc = some (.dup, len)) (hl : zln (.dup) = len) : Wp d m (pc, L, zint x :: S, h) Q = Wp d m (pc + 1, L, zint x :: zint x :: S, h) Q := wp_go hi (Or.inr hl) rfl
theorem ub_pop_i {x : Int} (hi : zzins m pc = some (.pop, len)) (hl : zln (.pop) = len) : Wp d m (pc, L, zint x :: S, h) Q = Wp d m (pc + 1, L, S, h) Q := wp_go hi (Or.inr hl) rfl
theorem ub_dup_r {x : Int} (hi : zzins m pc = some (.dup, len)) (hl : zln (.dup) = len) : Wp d m (pc, L, zrf x :: S, h) Q = Wp d m (pc + 1, L, zrf x :: zrf x :: S, h) Q := wp_go hi (Or.inr hl) rfl
theorem ub_pop_r {x : Int} (hi : zzins m pc = some (.pop, len)) (hl : zln (.pop) = len) : Wp d m (pc, L, zrf x :: S, h) Q = Wp d m (pc + 1, L, S, h) Q := wp_go hi (Or.inr hl) rfl
theorem ub_dup_x1_ii {x y : Int} (hi : zzins m pc = some (.dup_x1, len)) (hl : zln (.dup_x1) = len) : Wp d m (pc, L, zint y :: zint x :: S, h) Q = Wp d m (pc + 1, L, zint y :: zint x :: zint y :: S, h) Q := wp_go hi (Or.inr hl) rfl
theorem ub_dup2_ii {x y : Int} (hi : zzins m pc = some (.dup2, len)) (hl : zln (.dup2) = len) : Wp d m (pc, L, zint y :: zint x :: S, h) Q = Wp d m (pc + 1, L, zint y :: zint x :: zint y :: zint x :: S, h) Q := wp_go hi (Or.inr hl) rfl
theorem ub_dup_x1_ir {x y : Int} (hi : zzins m pc = some (.dup_x1, len)) (hl : zln (.dup_x1) = len) : Wp d m (pc, L, zint y :: zrf x :: S, h) Q = Wp d m (pc + 1, L, zint y :: zrf x :: zint y :: S, h) Q := wp_go hi (Or.inr hl) rfl
theorem ub_dup2_ir {x y : Int} (hi : zzins m pc = some (.dup2, len)) (hl : zln (.dup2) = len) : Wp d m (pc, L, zint y :: zrf x :: S, h) Q = Wp d m (pc + 1, L, zint y :: zrf x :: zint y :: zrf x :: S, h) Q := wp_go hi (Or.inr hl) rfl
theorem ub_dup_x1_ri {x y : Int} (hi : zzins m pc = some (.dup_x1, len)) (hl : zln (.dup_x1) = len) : Wp d m (pc, L, zrf y :: zint x :: S, h) Q = Wp d m (pc + 1, L, zrf y :: zint x :: zrf y :: S, h) Q := wp_go hi (Or.inr hl) rfl
theorem ub_dup2_ri {x y : Int} (hi : zzins m pc = some (.dup2, len)) (hl : zln (.dup2) = len) : Wp d m (pc, L, zrf y :: zint x :: S, h) Q = Wp d m (pc + 1, L, zrf y :: zint x :: zrf y :: zint x :: S, h) Q := wp_go hi (Or.inr hl) rfl
theorem ub_dup_x1_rr {x y : Int} (hi : zzins m pc = some (.dup_x1, len)) (hl : zln (.dup_x1) = len) : Wp d m (pc, L, zrf y :: zrf x :: S, h) Q = Wp d m (pc + 1, L, zrf y :: zrf x :: zrf y :: S, h) Q := wp_go hi (Or.inr hl) rfl
theorem ub_dup2_rr {x y : Int} (hi : zzins m pc = some (.dup2, len)) (hl : zln (.dup2) = len) : Wp d m (pc, L, zrf y :: zrf x :: S, h) Q = Wp d m (pc + 1, L, zrf y :: zrf x :: zrf y :: zrf x :: S, h) Q := wp_go hi (Or.inr hl) rfl
theorem ub_dup_x2_iir {x y z : Int} (hi : zzins m pc = some (.dup_x2, len)) (hl : zln (.dup_x2) = len) : Wp d m (pc, L, zint z :: zint y :: zrf x :: S, h) Q = Wp d m (pc + 1, L, zint z :: zint y :: zrf x :: zint z :: S, h) Q := wp_go hi (Or.inr hl) rfl
theorem ub_bipush {n : Int} (hi : zzins m pc = some (.bipush n, len)) (hl : zln (.bipush n) = len) (hn : zrng (n + 128) 256 = true) : Wp d m (pc, L, S, h) Q = Wp d m (pc + 2, L, zint n :: S, h) Q := wp_go hi (Or.inr hl) (by simp only [zop, zif]; rw [if_pos hn]; rfl)
theorem ub_sipush {n : Int} (hi : zzins m pc = some (.sipush n, len)) (hl : zln (.sipush n) = len) (hn : zrng (n + 32768) 65536 = true) : Wp d m (pc, L, S, h) Q = Wp d m (pc + 3, L, zint n :: S, h) Q := wp_go hi (Or.inr hl) (by simp only [zop, zif]; rw [if_pos hn]; rfl)
theorem ub_ldc {x pl : Nat} {v : Int} (hi : zzins m pc = some (.ldc x, len)) (hl : zln (.ldc x) = len) (hv : zzlu zzI (zzown m) x = some (v, pl)) : Wp d m (pc, L, S, h) Q = Wp d m (pc + 2, L, zint v :: S, h) Q := wp_go hi (Or.inr hl) (by simp only [zop, zlk2, hv]; rfl)
theorem ub_ldc_w {x pl : Nat} {v : Int} (hi : zzins m pc = some (.ldc_w x, len)) (hl : zln (.ldc_w x) = len) (hv : zzlu zzI (zzown m) x = some (v, pl)) : Wp d m (pc, L, S, h) Q = Wp d m (pc + 3, L, zint v :: S, h) Q := wp_go hi (Or.inr hl) (by simp only [zop, zlk2, hv]; rfl)
theorem ub_ldc2_w {x pl : Nat} {v : Int} (hi : zzins m pc = some (.ldc2_w x, len)) (hl : zln (.ldc2_w x) = len) (hv : zzlu zzJ (zzown m) x = some (v, pl)) : Wp d m (pc, L, S, h) Q = Wp d m (pc + 3, L, zlng v :: S, h) Q := wp_go hi (Or.inr hl) (by simp only [zop, zlk2, hv]; rfl)
theorem ub_idiv {x y : Int} (hi : zzins m pc = some (.idiv, len)) (hl : zln .idiv = len) : Wp d m (pc, L, zint y :: zint x :: S, h) Q = ((zIb x = true ∧ zIb y = true ∧ y ≠ 0) ∧ Wp d m (pc + 1, L, zint (x.tdiv y) :: S, h) Q) := wp_if hi (Or.inr hl) rfl (by simp [and_assoc])
theorem ub_irem {x y : Int} (hi : zzins m pc = some (.irem, len)) (hl : zln .irem = len) : Wp d m (pc, L, zint y :: zint x :: S, h) Q = ((zIb x = true ∧ zIb y = true ∧ y ≠ 0) ∧ Wp d m (pc + 1, L, zint (x.tmod y) :: S, h) Q) := wp_if hi (Or.inr hl) rfl (by simp [and_assoc])
theorem ub_i2l {x : Int} (hi : zzins m pc = some (.i2l, len)) (hl : zln .i2l = len) : Wp d m (pc, L, zint x :: S, h) Q = (zIb x = true ∧ Wp d m (pc + 1, L, zlng x :: S, h) Q) := wp_if hi (Or.inr hl) rfl Iff.rfl
theorem ub_lcmp {x y : Int} (hi : zzins m pc = some (.lcmp, len)) (hl : zln .lcmp = len) : Wp d m (pc, L, zlng y :: zlng x :: S, h) Q = ((zJb x = true ∧ zJb y = true) ∧ Wp d m (pc + 1, L, zint (if y < x then 1 else if x = y then 0 else -1) :: S, h) Q) := wp_if hi (Or.inr hl) rfl (by simp)
theorem ub_goto {off : Int} {t : Nat} (hi : zzins m pc = some (.goto off, len)) (hl : zln (.goto off) = len) (ht : (pc : Int) + off = (t : Int)) : Wp d m (pc, L, S, h) Q = Wp d m (t, L, S, h) Q := wp_go hi (Or.inr hl) (by
  show zj pc off L S h = _
  unfold zj
  rw [if_pos (by omega), ht]
  rfl)
theorem zj_t {off : Int} {t : Nat} (ht : (pc : Int) + off = (t : Int)) : zj pc off L S h = some (.inl (t, L, S, h)) := by
  unfold zj
  rw [if_pos (by omega), ht]
  rfl
theorem wp_br {i : Instr} {b : Bool} {cnd : Bool} {P C : Prop} {hC : Decidable C} {c1 c2 : XC} (hi : zzins m pc = some (i, len)) (hl : zln i = 0 ∨ zln i = len) (hs : zop m i pc L S h = zif b (if cnd = true then some (.inl c1) else some (.inl c2))) (hb : b = true ↔ P) (hc : cnd = true ↔ C) : Wp d m (pc, L, S, h) Q = (P ∧ (if C then Wp d m c1 Q else Wp d m c2 Q)) := by
  by_cases hk : cnd = true
  · have hk2 : C := hc.mp hk
    rw [if_pos hk] at hs
    rw [if_pos hk2]
    exact wp_if hi hl hs hb
  · have hk2 : ¬ C := fun z => hk (hc.mpr z)
    rw [if_neg hk] at hs
    rw [if_neg hk2]
    exact wp_if hi hl hs hb
theorem ub_if_eq {x off : Int} {t : Nat} (hi : zzins m pc = some (.ifCond .eq off, len)) (hl : zln (.ifCond .eq off) = len) (ht : (pc : Int) + off = (t : Int)) : Wp d m (pc, L, zint x :: S, h) Q = (zIb x = true ∧ (if x = 0 then Wp d m (t, L, S, h) Q else Wp d m (pc + 3, L, S, h) Q)) := wp_br hi (Or.inr hl) (by show zif (zIb x) (if zcond .eq x = true then zj pc off L S h else zn (pc + 3) L S h) = _; rw [zj_t ht]; rfl) Iff.rfl (by simp [zcond])
theorem ub_ic_eq {x y off : Int} {t : Nat} (hi : zzins m pc = some (.if_icmp .eq off, len)) (hl : zln (.if_icmp .eq off) = len) (ht : (pc : Int) + off = (t : Int)) : Wp d m (pc, L, zint y :: zint x :: S, h) Q = ((zIb x = true ∧ zIb y = true) ∧ (if x = y then Wp d m (t, L, S, h) Q else Wp d m (pc + 3, L, S, h) Q)) := wp_br hi (Or.inr hl) (by show zif (zIb x && zIb y) (if zcmp .eq x y = true then zj pc off L S h else zn (pc + 3) L S h) = _; rw [zj_t ht]; rfl) (by simp) (by simp [zcmp])
theorem ub_if_ne {x off : Int} {t : Nat} (hi : zzins m pc = some (.ifCond .ne off, len)) (hl : zln (.ifCond .ne off) = len) (ht : (pc : Int) + off = (t : Int)) : Wp d m (pc, L, zint x :: S, h) Q = (zIb x = true ∧ (if ¬ x = 0 then Wp d m (t, L, S, h) Q else Wp d m (pc + 3, L, S, h) Q)) := wp_br hi (Or.inr hl) (by show zif (zIb x) (if zcond .ne x = true then zj pc off L S h else zn (pc + 3) L S h) = _; rw [zj_t ht]; rfl) Iff.rfl (by simp [zcond])
theorem ub_ic_ne {x y off : Int} {t : Nat} (hi : zzins m pc = some (.if_icmp .ne off, len)) (hl : zln (.if_icmp .ne off) = len) (ht : (pc : Int) + off = (t : Int)) : Wp d m (pc, L, zint y :: zint x :: S, h) Q = ((zIb x = true ∧ zIb y = true) ∧ (if ¬ x = y then Wp d m (t, L, S, h) Q else Wp d m (pc + 3, L, S, h) Q)) := wp_br hi (Or.inr hl) (by show zif (zIb x && zIb y) (if zcmp .ne x y = true then zj pc off L S h else zn (pc + 3) L S h) = _; rw [zj_t ht]; rfl) (by simp) (by simp [zcmp])
theorem ub_if_lt {x off : Int} {t : Nat} (hi : zzins m pc = some (.ifCond .lt off, len)) (hl : zln (.ifCond .lt off) = len) (ht : (pc : Int) + off = (t : Int)) : Wp d m (pc, L, zint x :: S, h) Q = (zIb x = true ∧ (if x < 0 then Wp d m (t, L, S, h) Q else Wp d m (pc + 3, L, S, h) Q)) := wp_br hi (Or.inr hl) (by show zif (zIb x) (if zcond .lt x = true then zj pc off L S h else zn (pc + 3) L S h) = _; rw [zj_t ht]; rfl) Iff.rfl (by simp [zcond])
theorem ub_ic_lt {x y off : Int} {t : Nat} (hi : zzins m pc = some (.if_icmp .lt off, len)) (hl : zln (.if_icmp .lt off) = len) (ht : (pc : Int) + off = (t : Int)) : Wp d m (pc, L, zint y :: zint x :: S, h) Q = ((zIb x = true ∧ zIb y = true) ∧ (if x < y then Wp d m (t, L, S, h) Q else Wp d m (pc + 3, L, S, h) Q)) := wp_br hi (Or.inr hl) (by show zif (zIb x && zIb y) (if zcmp .lt x y = true then zj pc off L S h else zn (pc + 3) L S h) = _; rw [zj_t ht]; rfl) (by simp) (by simp [zcmp])
theorem ub_if_ge {x off : Int} {t : Nat} (hi : zzins m pc = some (.ifCond .ge off, len)) (hl : zln (.ifCond .ge off) = len) (ht : (pc : Int) + off = (t : Int)) : Wp d m (pc, L, zint x :: S, h) Q = (zIb x = true ∧ (if 0 ≤ x then Wp d m (t, L, S, h) Q else Wp d m (pc + 3, L, S, h) Q)) := wp_br hi (Or.inr hl) (by show zif (zIb x) (if zcond .ge x = true then zj pc off L S h else zn (pc + 3) L S h) = _; rw [zj_t ht]; rfl) Iff.rfl (by simp [zcond])
theorem ub_ic_ge {x y off : Int} {t : Nat} (hi : zzins m pc = some (.if_icmp .ge off, len)) (hl : zln (.if_icmp .ge off) = len) (ht : (pc : Int) + off = (t : Int)) : Wp d m (pc, L, zint y :: zint x :: S, h) Q = ((zIb x = true ∧ zIb y = true) ∧ (if y ≤ x then Wp d m (t, L, S, h) Q else Wp d m (pc + 3, L, S, h) Q)) := wp_br hi (Or.inr hl) (by show zif (zIb x && zIb y) (if zcmp .ge x y = true then zj pc off L S h else zn (pc + 3) L S h) = _; rw [zj_t ht]; rfl) (by simp) (by simp [zcmp])
theorem ub_if_gt {x off : Int} {t : Nat} (hi : zzins m pc = some (.ifCond .gt off, len)) (hl : zln (.ifCond .gt off) = len) (ht : (pc : Int) + off = (t : Int)) : Wp d m (pc, L, zint x :: S, h) Q = (zIb x = true ∧ (if 0 < x then Wp d m (t, L, S, h) Q else Wp d m (pc + 3, L, S, h) Q)) := wp_br hi (Or.inr hl) (by show zif (zIb x) (if zcond .gt x = true then zj pc off L S h else zn (pc + 3) L S h) = _; rw [zj_t ht]; rfl) Iff.rfl (by simp [zcond])
theorem ub_ic_gt {x y off : Int} {t : Nat} (hi : zzins m pc = some (.if_icmp .gt off, len)) (hl : zln (.if_icmp .gt off) = len) (ht : (pc : Int) + off = (t : Int)) : Wp d m (pc, L, zint y :: zint x :: S, h) Q = ((zIb x = true ∧ zIb y = true) ∧ (if y < x then Wp d m (t, L, S, h) Q else Wp d m (pc + 3, L, S, h) Q)) := wp_br hi (Or.inr hl) (by show zif (zIb x && zIb y) (if zcmp .gt x y = true then zj pc off L S h else zn (pc + 3) L S h) = _; rw [zj_t ht]; rfl) (by simp) (by simp [zcmp])
theorem ub_if_le {x off : Int} {t : Nat} (hi : zzins m pc = some (.ifCond .le off, len)) (hl : zln (.ifCond .le off) = len) (ht : (pc : Int) + off = (t : Int)) : Wp d m (pc, L, zint x :: S, h) Q = (zIb x = true ∧ (if x ≤ 0 then Wp d m (t, L, S, h) Q else Wp d m (pc + 3, L, S, h) Q)) := wp_br hi (Or.inr hl) (by show zif (zIb x) (if zcond .le x = true then zj pc off L S h else zn (pc + 3) L S h) = _; rw [zj_t ht]; rfl) Iff.rfl (by simp [zcond])
theorem ub_ic_le {x y off : Int} {t : Nat} (hi : zzins m pc = some (.if_icmp .le off, len)) (hl : zln (.if_icmp .le off) = len) (ht : (pc : Int) + off = (t : Int)) : Wp d m (pc, L, zint y :: zint x :: S, h) Q = ((zIb x = true ∧ zIb y = true) ∧ (if x ≤ y then Wp d m (t, L, S, h) Q else Wp d m (pc + 3, L, S, h) Q)) := wp_br hi (Or.inr hl) (by show zif (zIb x && zIb y) (if zcmp .le x y = true then zj pc off L S h else zn (pc + 3) L S h) = _; rw [zj_t ht]; rfl) (by simp) (by simp [zcmp])
theorem ub_ifnull {x off : Int} {t : Nat} (hi : zzins m pc = some (.ifnull off, len)) (hl : zln (.ifnull off) = len) (ht : (pc : Int) + off = (t : Int)) : Wp d m (pc, L, zrf x :: S, h) Q = (if x < 0 then Wp d m (t, L, S, h) Q else Wp d m (pc + 3, L, S, h) Q) := by
  by_cases hx : x < 0
  · rw [if_pos hx]
    exact wp_go hi (Or.inr hl) (by show (if x < 0 then zj pc off L S h else zn (pc + 3) L S h) = _; rw [if_pos hx, zj_t ht])
  · rw [if_neg hx]
    exact wp_go hi (Or.inr hl) (by show (if x < 0 then zj pc off L S h else zn (pc + 3) L S h) = _; rw [if_neg hx]; rfl)
theorem ub_ifnonnull {x off : Int} {t : Nat} (hi : zzins m pc = some (.ifnonnull off, len)) (hl : zln (.ifnonnull off) = len) (ht : (pc : Int) + off = (t : Int)) : Wp d m (pc, L, zrf x :: S, h) Q = (if x < 0 then Wp d m (pc + 3, L, S, h) Q else Wp d m (t, L, S, h) Q) := by
  by_cases hx : x < 0
  · rw [if_pos hx]
    exact wp_go hi (Or.inr hl) (by show (if x < 0 then zn (pc + 3) L S h else zj pc off L S h) = _; rw [if_pos hx]; rfl)
  · rw [if_neg hx]
    exact wp_go hi (Or.inr hl) (by show (if x < 0 then zn (pc + 3) L S h else zj pc off L S h) = _; rw [if_neg hx, zj_t ht])
/-- switches: a chain of tests -/
def ztb : List Nat → Int → Nat → Int → (Nat → Prop) → Prop
  | [], _, d, _, f => f d
  | t :: ts, lo, d, x, f => if x = lo then f t else ztb ts (lo + 1) d x f
theorem ztb_ok {offs : List Int} : ∀ {ts : List Nat} {lo dflt x : Int} {td : Nat}, offs.map (fun off => (pc : Int) + off) = ts.map (fun t : Nat => (t : Int)) → (pc : Int) + dflt = (td : Int) → ∀ f : Nat → Prop, ∃ t : Nat, (pc : Int) + ztab offs lo dflt x = (t : Int) ∧ ztb ts lo td x f = f t := by
  induction offs with
  | nil =>
    intro ts lo dflt x td h1 h2 f
    cases ts with
    | nil => exact ⟨td, h2, rfl⟩
    | cons t ts => simp at h1
  | cons o os ih =>
    intro ts lo dflt x td h1 h2 f
    cases ts with
    | nil => simp at h1
    | cons t ts =>
      simp only [List.map_cons, List.cons.injEq] at h1
      unfold ztab ztb
      by_cases hx : x = lo
      · rw [if_pos hx, if_pos hx]
        exact ⟨t, h1.1, rfl⟩
      · rw [if_neg hx, if_neg hx]
        exact ih h1.2 h2 f
theorem ub_table {x dflt lo hi' : Int} {offs : Array Int} {ts : List Nat} {td : Nat} (hi : zzins m pc = some (.tableswitch dflt lo hi' offs, len)) (h1 : offs.toList.map (fun off => (pc : Int) + off) = ts.map (fun t : Nat => (t : Int))) (h2 : (pc : Int) + dflt = (td : Int)) (h3 : (decide (offs.toList.length = (hi' - lo + 1).toNat) && decide (lo ≤ hi')) = true) : Wp d m (pc, L, zint x :: S, h) Q = (zIb x = true ∧ ztb ts lo td x (fun t => Wp d m (t, L, S, h) Q)) := by
  obtain ⟨t, e1, e2⟩ := ztb_ok (x := x) (lo := lo) h1 h2 (fun t => Wp d m (t, L, S, h) Q)
  rw [e2]
  refine wp_if hi (Or.inl rfl) (b := zIb x) ?_ Iff.rfl
  show zif (zIb x && decide (offs.toList.length = (hi' - lo + 1).toNat) && decide (lo ≤ hi')) (zj pc (ztab offs.toList lo dflt x) L S h) = _
  rw [Bool.and_assoc, h3, Bool.and_true, zj_t e1]
def ztc : List (Int × Nat) → Nat → Int → (Nat → Prop) → Prop
  | [], d, _, f => f d
  | t :: ts, d, x, f => if x = t.1 then f t.2 else ztc ts d x f
theorem ztc_ok {qs : List (Int × Int)} : ∀ {ts : List (Int × Nat)} {dflt x : Int} {td : Nat}, qs.map (fun q => (q.1, (pc : Int) + q.2)) = ts.map (fun t => (t.1, (t.2 : Int))) → (pc : Int) + dflt = (td : Int) → ∀ f : Nat → Prop, ∃ t : Nat, (pc : Int) + zlus qs dflt x = (t : Int) ∧ ztc ts td x f = f t := by
  induction qs with
  | nil =>
    intro ts dflt x td h1 h2 f
    cases ts with
    | nil => exact ⟨td, h2, rfl⟩
    | cons t ts => simp at h1
  | cons o os ih =>
    intro ts dflt x td h1 h2 f
    cases ts with
    | nil => simp at h1
    | cons t ts =>
      simp only [List.map_cons, List.cons.injEq, Prod.mk.injEq] at h1
      unfold zlus ztc
      by_cases hx : x = o.1
      · rw [if_pos hx, if_pos (by rw [hx]; exact h1.1.1)]
        exact ⟨t.2, h1.1.2, rfl⟩
      · rw [if_neg hx, if_neg (by rw [← h1.1.1]; exact hx)]
        exact ih h1.2 h2 f
theorem ub_lookup {x dflt : Int} {ps : Array (Int × Int)} {ts : List (Int × Nat)} {td : Nat} (hi : zzins m pc = some (.lookupswitch dflt ps, len)) (h1 : ps.toList.map (fun q => (q.1, (pc : Int) + q.2)) = ts.map (fun t => (t.1, (t.2 : Int)))) (h2 : (pc : Int) + dflt = (td : Int)) (h3 : ((ps.toList.zip (ps.toList.drop 1)).all (fun (a, next) => a.1 < next.1)) = true) : Wp d m (pc, L, zint x :: S, h) Q = (zIb x = true ∧ ztc ts td x (fun t => Wp d m (t, L, S, h) Q)) := by
  obtain ⟨t, e1, e2⟩ := ztc_ok (x := x) h1 h2 (fun t => Wp d m (t, L, S, h) Q)
  rw [e2]
  refine wp_if hi (Or.inl rfl) (b := zIb x) ?_ Iff.rfl
  show zif (zIb x && (ps.toList.zip (ps.toList.drop 1)).all (fun (a, next) => a.1 < next.1)) (zj pc (zlus ps.toList dflt x) L S h) = _
  rw [h3, Bool.and_true, zj_t e1]
/-- cells -/
theorem ub_getf {x ci f pl : Nat} {o : Int} (hi : zzins m pc = some (.getfield x, len)) (hl : zln (.getfield x) = len) (hv : zzlu zzF (zzown m) x = some (ci, f, pl)) (hr : zzref ci f = false) : Wp d m (pc, L, zrf o :: S, h) Q = (zCb h o ci = true ∧ Wp d m (pc + 3, L, zint (xs h o (f : Nat)) :: S, h) Q) := wp_if hi (Or.inr hl) (b := zCb h o ci) (by simp only [zop, zlk2, hv]; show zif _ (zn _ _ ((if zzref ci f = true then _ else _) :: _) _) = _; rw [if_neg (by rw [hr]; decide)]; rfl) Iff.rfl
theorem ub_getr {x ci f pl : Nat} {o : Int} (hi : zzins m pc = some (.getfield x, len)) (hl : zln (.getfield x) = len) (hv : zzlu zzF (zzown m) x = some (ci, f, pl)) (hr : zzref ci f = true) : Wp d m (pc, L, zrf o :: S, h) Q = (zCb h o ci = true ∧ Wp d m (pc + 3, L, zrf (xr h o (f : Nat)) :: S, h) Q) := wp_if hi (Or.inr hl) (b := zCb h o ci) (by simp only [zop, zlk2, hv]; show zif _ (zn _ _ ((if zzref ci f = true then _ else _) :: _) _) = _; rw [if_pos hr]; rfl) Iff.rfl
theorem ub_putf {x ci f pl : Nat} {o y : Int} (hi : zzins m pc = some (.putfield x, len)) (hl : zln (.putfield x) = len) (hv : zzlu zzF (zzown m) x = some (ci, f, pl)) (hr : zzref ci f = false) (hb : zzbool ci f = false) (hf : (!zzfin ci f || (decide (zzown m = ci) && decide ((zzA m).1.1.name = "<init>"))) = true) : Wp d m (pc, L, zint y :: zrf o :: S, h) Q = (zCb h o ci = true ∧ Wp d m (pc + 3, L, S, xset h o (f : Nat) y) Q) := wp_if hi (Or.inr hl) (b := zCb h o ci) (by
  simp only [zop, zlk2, hv]
  show zif (zCb h o ci && _) (if zzref ci f = true then _ else zif (!zzbool ci f || _) _) = _
  rw [hf, Bool.and_true, if_neg (by rw [hr]; decide), hb]
  rfl) Iff.rfl
theorem ub_putz {x ci f pl : Nat} {o y : Int} (hi : zzins m pc = some (.putfield x, len)) (hl : zln (.putfield x) = len) (hv : zzlu zzF (zzown m) x = some (ci, f, pl)) (hr : zzref ci f = false) (hb : zzbool ci f = true) (hf : (!zzfin ci f || (decide (zzown m = ci) && decide ((zzA m).1.1.name = "<init>"))) = true) : Wp d m (pc, L, zint y :: zrf o :: S, h) Q = ((zCb h o ci = true ∧ (y = 0 ∨ y = 1)) ∧ Wp d m (pc + 3, L, S, xset h o (f : Nat) y) Q) := wp_if hi (Or.inr hl) (b := zCb h o ci && decide (y = 0 ∨ y = 1)) (by
  simp only [zop, zlk2, hv]
  show zif (zCb h o ci && _) (if zzref ci f = true then _ else zif (!zzbool ci f || decide (y = 0 ∨ y = 1)) _) = _
  rw [hf, Bool.and_true, if_neg (by rw [hr]; decide), hb]
  cases zCb h o ci <;> rfl) (by simp)
theorem ub_putr {x ci f pl : Nat} {o y : Int} (hi : zzins m pc = some (.putfield x, len)) (hl : zln (.putfield x) = len) (hv : zzlu zzF (zzown m) x = some (ci, f, pl)) (hr : zzref ci f = true) (hf : (!zzfin ci f || (decide (zzown m = ci) && decide ((zzA m).1.1.name = "<init>"))) = true) : Wp d m (pc, L, zrf y :: zrf o :: S, h) Q = (zCb h o ci = true ∧ Wp d m (pc + 3, L, S, xref h o (f : Nat) y) Q) := wp_if hi (Or.inr hl) (b := zCb h o ci) (by
  simp only [zop, zlk2, hv]
  show zif (zCb h o ci && _) (if zzref ci f = true then _ else _) = _
  rw [hf, Bool.and_true, if_pos hr]
  rfl) Iff.rfl
theorem ub_iaload {a i : Int} (hi : zzins m pc = some (.iaload, len)) (hl : zln .iaload = len) : Wp d m (pc, L, zint i :: zrf a :: S, h) Q = ((zSb h a 7 = true ∧ zrng i (xl h a) = true ∧ zIb (xl h a) = true) ∧ Wp d m (pc + 1, L, zint (xs h a i) :: S, h) Q) := wp_if hi (Or.inr hl) rfl (by simp [and_assoc])
theorem ub_baload {a i : Int} (hi : zzins m pc = some (.baload, len)) (hl : zln .baload = len) : Wp d m (pc, L, zint i :: zrf a :: S, h) Q = ((zCb h a 9 = true ∧ zrng i (xl h a) = true ∧ zIb (xl h a) = true) ∧ Wp d m (pc + 1, L, zint (xs h a i) :: S, h) Q) := wp_if hi (Or.inr hl) rfl (by simp [and_assoc])
theorem ub_laload {a i : Int} (hi : zzins m pc = some (.laload, len)) (hl : zln .laload = len) : Wp d m (pc, L, zint i :: zrf a :: S, h) Q = ((zCb h a 8 = true ∧ zrng i (xl h a) = true ∧ zIb (xl h a) = true) ∧ Wp d m (pc + 1, L, zlng (xs h a i) :: S, h) Q) := wp_if hi (Or.inr hl) rfl (by simp [and_assoc])
theorem ub_aaload {a i : Int} (hi : zzins m pc = some (.aaload, len)) (hl : zln .aaload = len) : Wp d m (pc, L, zint i :: zrf a :: S, h) Q = (((zCb h a 10 = true ∨ zCb h a 11 = true ∨ zCb h a 12 = true ∨ zCb h a 13 = true) ∧ zrng i (xl h a) = true ∧ zIb (xl h a) = true) ∧ Wp d m (pc + 1, L, zrf (xr h a i) :: S, h) Q) := wp_if hi (Or.inr hl) rfl (by simp [and_assoc, or_assoc])
theorem ub_iastore {a i y : Int} (hi : zzins m pc = some (.iastore, len)) (hl : zln .iastore = len) : Wp d m (pc, L, zint y :: zint i :: zrf a :: S, h) Q = ((zCb h a 7 = true ∧ zrng i (xl h a) = true ∧ zIb (xl h a) = true) ∧ Wp d m (pc + 1, L, S, xset h a i y) Q) := wp_if hi (Or.inr hl) rfl (by simp [and_assoc])
theorem ub_bastore {a i y : Int} (hi : zzins m pc = some (.bastore, len)) (hl : zln .bastore = len) : Wp d m (pc, L, zint y :: zint i :: zrf a :: S, h) Q = ((zCb h a 9 = true ∧ zrng i (xl h a) = true ∧ zIb (xl h a) = true ∧ zrng (y + 128) 256 = true) ∧ Wp d m (pc + 1, L, S, xset h a i y) Q) := wp_if hi (Or.inr hl) rfl (by simp [and_assoc])
theorem ub_lastore {a i y : Int} (hi : zzins m pc = some (.lastore, len)) (hl : zln .lastore = len) : Wp d m (pc, L, zlng y :: zint i :: zrf a :: S, h) Q = ((zCb h a 8 = true ∧ zrng i (xl h a) = true ∧ zIb (xl h a) = true) ∧ Wp d m (pc + 1, L, S, xset h a i y) Q) := wp_if hi (Or.inr hl) rfl (by simp [and_assoc])
theorem ub_arraylength {a : Int} (hi : zzins m pc = some (.arraylength, len)) (hl : zln .arraylength = len) : Wp d m (pc, L, zrf a :: S, h) Q = (((zSb h a 7 = true ∨ zCb h a 8 = true) ∧ zIb (xl h a) = true ∧ 0 ≤ xl h a) ∧ Wp d m (pc + 1, L, zint (xl h a) :: S, h) Q) := wp_if hi (Or.inr hl) rfl (by simp [and_assoc])
theorem ub_new {x ci p1 p2 p3 : Nat} (hi : zzins m pc = some (.new x, len)) (hl : zln (.new x) = len) (hv : zzlu zzC (zzown m) x = some (ci, p1, p2, p3)) (hc : ci < 7) : Wp d m (pc, L, S, h) Q = (xn h < 900000 ∧ Wp d m (pc + 3, L, zrf (xn h) :: S, xnew h ci 0 (zznf ci)) Q) := wp_if hi (Or.inr hl) (b := decide (xn h < 900000) && decide (ci < 7)) (by simp only [zop, zlk2, hv]; rfl) (by simp [hc])
theorem ub_objinit {x t pl : Nat} {o : Int} (hi : zzins m pc = some (.invokespecial x, len)) (hl : zln (.invokespecial x) = len) (hv : zzlu zzL (zzown m) x = some (5, t, pl)) : Wp d m (pc, L, zrf o :: S, h) Q = ((0 ≤ o ∧ zws S ≤ 8) ∧ Wp d m (pc + 3, L, S, h) Q) := wp_if hi (Or.inr hl) (b := decide (0 ≤ o) && decide (zws S ≤ 8)) (by simp only [zop, zlk2, hv]; rfl) (by simp)
theorem ub_copy {x t pl : Nat} {n dp a sp a0 : Int} (hi : zzins m pc = some (.invokestatic x, len)) (hl : zln (.invokestatic x) = len) (hv : zzlu zzL (zzown m) x = some (6, t, pl)) : Wp d m (pc, L, zint n :: zint dp :: zrf a :: zint sp :: zrf a0 :: S, h) Q = ((zCb h a 8 = true ∧ zCb h a0 8 = true ∧ 0 ≤ n ∧ 0 ≤ sp ∧ 0 ≤ dp ∧ sp + n ≤ xl h a0 ∧ dp + n ≤ xl h a ∧ zws S ≤ 8 ∧ zIb (xl h a) = true ∧ zIb (xl h a0) = true) ∧ Wp d m (pc + 3, L, S, xcpy h a dp n a0 sp) Q) := wp_if hi (Or.inr hl) (b := zCb h a 8 && zCb h a0 8 && decide (0 ≤ n) && decide (0 ≤ sp) && decide (0 ≤ dp) && decide (sp + n ≤ xl h a0) && decide (dp + n ≤ xl h a) && decide (zws S ≤ 8) && zIb (xl h a) && zIb (xl h a0)) (by simp only [zop, zlk2, hv]; rfl) (by simp [and_assoc])
/-- calls: by what zop gives -/
theorem wp_call {i : Instr} {b : Bool} {P : Prop} {t : Nat} {as r : List AV} (hi : zzins m pc = some (i, len)) (hl : zln i = 0 ∨ zln i = len) (hs : zop m i pc L S h = zif b (some (.inr (.inl (t, as, pc + 3, L, r, h))))) (hb : b = true ↔ P) : Wp d m (pc, L, S, h) Q = (P ∧ Call d t as h (fun v h' => Wp d m (pc + 3, L, v.toList ++ r, h') Q)) := by
  apply propext
  by_cases hc : b = true
  · have e1 : zstep m (pc, L, S, h) = some (.inr (.inl (t, as, pc + 3, L, r, h))) := by rw [zstep_of hi hl, hs, hc]; rfl
    rw [wp_cl e1]
    exact ⟨fun z => ⟨hb.mp hc, z⟩, fun z => z.2⟩
  · have e1 : zop m i pc L S h = none := by rw [hs]; unfold zif; rw [if_neg hc]
    rw [wp_stop hi hl e1]
    exact ⟨fun z => z.elim, fun z => hc (hb.mpr z.1)⟩
theorem zgo_if {t : Nat} {as r : List AV} (h1 : decide ((zlay as).length ≤ (zzA t).1.2.2.1) = true) : zgo t as pc L r h = zif (decide (zws r ≤ 8)) (some (.inr (.inl (t, as, pc + 3, L, r, h)))) := by
  unfold zgo
  rw [h1, Bool.and_true]
theorem ub_callS {x kd t pl n : Nat} {as r : List AV} (hi : zzins m pc = some (.invokestatic x, len)) (hl : zln (.invokestatic x) = len) (hv : zzlu zzL (zzown m) x = some (kd, t, pl)) (hk : kd = 1 ∨ kd = 3) (hn : (zzA t).2.1.2.2.2.2.2 = n) (hS : S.take n = as.reverse) (hr : S.drop n = r) (hlen : as.length = n) (hlay : decide ((zlay as).length ≤ (zzA t).1.2.2.1) = true) : Wp d m (pc, L, S, h) Q = (zws r ≤ 8 ∧ Call d t as h (fun v h' => Wp d m (pc + 3, L, v.toList ++ r, h') Q)) := by
  refine wp_call hi (Or.inr hl) (b := decide (zws r ≤ 8)) ?_ (by simp)
  simp only [zop, zlk2, hv]
  rw [if_neg (by rcases hk with h | h <;> rw [h] <;> decide)]
  have e1 : decide (kd = 1 ∨ kd = 3) = true := decide_eq_true hk
  rw [e1]
  show zcall (kd, t, pl) pc L S h = _
  unfold zcall
  simp only [hn, hS, hr]
  rw [List.reverse_reverse, List.length_reverse, hlen, if_pos hk, decide_eq_true rfl, zgo_if hlay]
  rfl
theorem ub_callV {x t pl n ci : Nat} {as r : List AV} {o : Int} (hi : zzins m pc = some (.invokevirtual x, len)) (hl : zln (.invokevirtual x) = len) (hv : zzlu zzL (zzown m) x = some (0, t, pl)) (hn : (zzA t).2.1.2.2.2.2.2 = n) (hci : zzown t = ci) (hci7 : ci < 7) (hS : S.take n = as.reverse) (hr : S.drop n = zrf o :: r) (hlen : as.length = n) (hlay : decide ((zlay (zrf o :: as)).length ≤ (zzA t).1.2.2.1) = true) : Wp d m (pc, L, S, h) Q = ((zCb h o ci = true ∧ zws r ≤ 8) ∧ Call d t (zrf o :: as) h (fun v h' => Wp d m (pc + 3, L, v.toList ++ r, h') Q)) := by
  refine wp_call hi (Or.inr hl) (b := zCb h o ci && decide (zws r ≤ 8)) ?_ (by simp)
  simp only [zop, zlk2, hv]
  show zcall (0, t, pl) pc L S h = _
  unfold zcall
  simp only [hn, hS, hr, hci]
  rw [List.reverse_reverse, List.length_reverse, hlen, if_neg (by decide), decide_eq_true rfl]
  show zif (zCb h o ci && decide (ci < 7)) (zgo t (zrf o :: as) pc L r h) = _
  rw [zgo_if hlay, decide_eq_true hci7, Bool.and_true]
  cases zCb h o ci <;> rfl
theorem ub_callI {x kd t pl n : Nat} {as r : List AV} {o : Int} (hi : zzins m pc = some (.invokespecial x, len)) (hl : zln (.invokespecial x) = len) (hv : zzlu zzL (zzown m) x = some (kd, t, pl)) (hk : kd = 2 ∨ kd = 4) (hn : (zzA t).2.1.2.2.2.2.2 = n) (hS : S.take n = as.reverse) (hr : S.drop n = zrf o :: r) (hlen : as.length = n) (hlay : decide ((zlay (zrf o :: as)).length ≤ (zzA t).1.2.2.1) = true) : Wp d m (pc, L, S, h) Q = ((0 ≤ o ∧ zws r ≤ 8) ∧ Call d t (zrf o :: as) h (fun v h' => Wp d m (pc + 3, L, v.toList ++ r, h') Q)) := by
  refine wp_call hi (Or.inr hl) (b := decide (0 ≤ o) && decide (zws r ≤ 8)) ?_ (by simp)
  simp only [zop, zlk2, hv]
  rw [if_neg (by rcases hk with h | h <;> rw [h] <;> decide)]
  have e1 : decide (kd = 2 ∨ kd = 4) = true := decide_eq_true hk
  rw [e1]
  show zcall (kd, t, pl) pc L S h = _
  unfold zcall
  simp only [hn, hS, hr]
  rw [List.reverse_reverse, List.length_reverse, hlen, if_neg (by rcases hk with h | h <;> rw [h] <;> decide), if_neg (by rcases hk with h | h <;> rw [h] <;> decide), if_pos hk, decide_eq_true rfl]
  show zif true (zif (decide (0 ≤ o)) (zgo t (zrf o :: as) pc L r h)) = _
  rw [zgo_if hlay]
  cases decide (0 ≤ o) <;> rfl
/-- answers -/
theorem wp_ans {i : Instr} {b : Bool} {P : Prop} {v : Option AV} (hi : zzins m pc = some (i, len)) (hl : zln i = 0 ∨ zln i = len) (hs : zop m i pc L S h = zif b (some (.inr (.inr (v, h))))) (hb : b = true ↔ P) : Wp d m (pc, L, S, h) Q = (P ∧ Q v h) := by
  apply propext
  by_cases hc : b = true
  · have e1 : zstep m (pc, L, S, h) = some (.inr (.inr (v, h))) := by rw [zstep_of hi hl, hs, hc]; rfl
    rw [wp_rt e1]
    exact ⟨fun z => ⟨hb.mp hc, z⟩, fun z => z.2⟩
  · have e1 : zop m i pc L S h = none := by rw [hs]; unfold zif; rw [if_neg hc]
    rw [wp_stop hi hl e1]
    exact ⟨fun z => z.elim, fun z => hc (hb.mpr z.1)⟩
theorem ub_ireturn {x : Int} (hi : zzins m pc = some (.ireturn, len)) (hl : zln .ireturn = len) (hr : (zzA m).1.2.2.2.1 = some .int) : Wp d m (pc, L, [zint x], h) Q = Q (some (zint x)) h := by
  have e := wp_ans (d := d) (Q := Q) (L := L) (S := [zint x]) (h := h) (b := true) (P := True) (v := some (zint x)) hi (Or.inr hl) (by simp only [zop, zint, hr]; rfl) (by simp)
  rw [e, true_and]
theorem ub_zreturn {x : Int} (hi : zzins m pc = some (.ireturn, len)) (hl : zln .ireturn = len) (hr : (zzA m).1.2.2.2.1 = some .boolean) : Wp d m (pc, L, [zint x], h) Q = ((x = 0 ∨ x = 1) ∧ Q (some (zint x)) h) := wp_ans (b := decide (x = 0 ∨ x = 1)) hi (Or.inr hl) (by simp only [zop, zint, hr]; rfl) (by simp)
theorem ub_lreturn {x : Int} (hi : zzins m pc = some (.lreturn, len)) (hl : zln .lreturn = len) (hr : (zzA m).1.2.2.2.1 = some .long) : Wp d m (pc, L, [zlng x], h) Q = Q (some (zlng x)) h := by
  have e := wp_ans (d := d) (Q := Q) (L := L) (S := [zlng x]) (h := h) (b := true) (P := True) (v := some (zlng x)) hi (Or.inr hl) (by simp only [zop, zlng, hr]; rfl) (by simp)
  rw [e, true_and]
theorem ub_areturn {x : Int} (hi : zzins m pc = some (.areturn, len)) (hl : zln .areturn = len) (hr : (decide ((zzA m).1.2.2.2.1 = some (.object "LooseGrid$Box")) || decide ((zzA m).1.2.2.2.1 = some (.object "LooseGrid$Tape"))) = true) : Wp d m (pc, L, [zrf x], h) Q = Q (some (zrf x)) h := by
  have e := wp_ans (d := d) (Q := Q) (L := L) (S := [zrf x]) (h := h) (b := true) (P := True) (v := some (zrf x)) hi (Or.inr hl) (by simp only [zop, zrf, hr]) (by simp)
  rw [e, true_and]
theorem ub_return {dummy : Unit} (hi : zzins m pc = some (.return_, len)) (hl : zln .return_ = len) (hr : (zzA m).1.2.2.2.1 = none) : Wp d m (pc, L, [], h) Q = Q none h := by
  have e := wp_ans (d := d) (Q := Q) (L := L) (S := []) (h := h) (b := true) (P := True) (v := none) hi (Or.inr hl) (by simp only [zop, hr]; rfl) (by simp)
  rw [e, true_and]
theorem call_ent {d' t : Nat} {as : List AV} {c : XC} (he : zent t as h = c) : Call (d' + 1) t as h Q = Wp d' t c Q := by
  apply propext
  constructor
  · rintro ⟨d2, e, w⟩
    cases e
    rw [← he]
    exact w
  · intro w
    exact ⟨d', rfl, by rw [he]; exact w⟩
theorem call_ent' {t : Nat} {as : List AV} {c : XC} (hd : 1 ≤ d) (he : zent t as h = c) : Call d t as h Q = Wp (d - 1) t c Q := by
  obtain ⟨d', rfl⟩ : ∃ k, d = k + 1 := ⟨d - 1, by omega⟩
  exact call_ent he
end ZU
