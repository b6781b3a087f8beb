/-! calls, answers, and the whole run -/
/-- an instruction that is no call and no answer: it goes on, and takes no cell away -/
def zM (h : XH) (o : Option XR) : Prop := ∀ y, o = some y → ∃ x', y = .inl x' ∧ xn h ≤ xn x'.2.2.2 ∧ xz h ≤ xz x'.2.2.2
theorem zM_none (h : XH) : zM h none := fun y e => by cases e
theorem zM_n {h h' : XH} {pc : Nat} {L S : List AV} (h1 : xn h ≤ xn h') (h2 : xz h ≤ xz h') : zM h (zn pc L S h') := fun y e => by
  cases e
  exact ⟨_, rfl, h1, h2⟩
theorem zM_n0 {h : XH} {pc : Nat} {L S : List AV} : zM h (zn pc L S h) := zM_n (Nat.le_refl _) (Nat.le_refl _)
theorem zM_j {h : XH} {pc : Nat} {off : Int} {L S : List AV} : zM h (zj pc off L S h) := fun y e => by
  unfold zj at e
  by_cases hp : 0 ≤ (pc : Int) + off
  · rw [if_pos hp] at e
    cases e
    exact ⟨_, rfl, Nat.le_refl _, Nat.le_refl _⟩
  · rw [if_neg hp] at e
    cases e
theorem zM_if {h : XH} {c : Bool} {o : Option XR} (ho : zM h o) : zM h (zif c o) := fun y e => by
  unfold zif at e
  by_cases hc : c = true
  · rw [if_pos hc] at e
    exact ho y e
  · rw [if_neg hc] at e
    cases e
theorem zM_ite {h : XH} {c : Prop} {hc : Decidable c} {o o' : Option XR} (h1 : zM h o) (h2 : zM h o') : zM h (if c then o else o') := by
  by_cases hc : c
  · rw [if_pos hc]; exact h1
  · rw [if_neg hc]; exact h2
theorem zM_lk {α : Type} {h : XH} {v : Option α} {f : α → Option XR} (hf : ∀ x, zM h (f x)) : zM h (zlk2 v f) := by
  cases v with
  | none => exact zM_none h
  | some x => exact hf x
theorem zM_zlI {h : XH} {L : List AV} {k : Nat} {f : Int → Option XR} (hf : ∀ x, zM h (f x)) : zM h (zlI L k f) := by
  unfold zlI
  rcases zld L k with x | x | _ | x <;> first | exact zM_none h | exact hf x
theorem zM_zlL {h : XH} {L : List AV} {k : Nat} {f : Int → Option XR} (hf : ∀ x, zM h (f x)) : zM h (zlL L k f) := by
  unfold zlL
  rcases zld L k with x | x | _ | x <;> first | exact zM_none h | exact hf x
theorem zM_zlA {h : XH} {L : List AV} {k : Nat} {f : Int → Option XR} (hf : ∀ x, zM h (f x)) : zM h (zlA L k f) := by
  unfold zlA
  rcases zld L k with x | x | _ | x <;> first | exact zM_none h | exact hf x
theorem zM_zs1 {h : XH} {L : List AV} {k : Nat} {v : AV} {f : List AV → Option XR} (hf : ∀ x, zM h (f x)) : zM h (zs1 L k v f) := by
  unfold zs1
  cases zst1 L k v with
  | none => exact zM_none h
  | some x => exact hf x
theorem zM_zs2 {h : XH} {L : List AV} {k : Nat} {v : AV} {f : List AV → Option XR} (hf : ∀ x, zM h (f x)) : zM h (zs2 L k v f) := by
  unfold zs2
  cases zst2 L k v with
  | none => exact zM_none h
  | some x => exact hf x
theorem zM_zvI {h : XH} {v : AV} {f : Int → Option XR} (hf : ∀ x, zM h (f x)) : zM h (zvI v f) := by
  unfold zvI
  rcases v with x | x | _ | x <;> first | exact zM_none h | exact hf x
theorem zM_zvL {h : XH} {v : AV} {f : Int → Option XR} (hf : ∀ x, zM h (f x)) : zM h (zvL v f) := by
  unfold zvL
  rcases v with x | x | _ | x <;> first | exact zM_none h | exact hf x
theorem zM_zvA {h : XH} {v : AV} {f : Int → Option XR} (hf : ∀ x, zM h (f x)) : zM h (zvA v f) := by
  unfold zvA
  rcases v with x | x | _ | x <;> first | exact zM_none h | exact hf x
theorem zM_zS1 {h : XH} {S : List AV} {f : AV → List AV → Option XR} (hf : ∀ x r, zM h (f x r)) : zM h (zS1 S f) := by
  unfold zS1
  rcases S with _ | ⟨x, r⟩
  · exact zM_none h
  · exact hf x r
theorem zM_zS2 {h : XH} {S : List AV} {f : AV → AV → List AV → Option XR} (hf : ∀ x y r, zM h (f x y r)) : zM h (zS2 S f) := by
  unfold zS2
  rcases S with _ | ⟨x, _ | ⟨y, r⟩⟩ <;> first | exact zM_none h | exact hf x y r
theorem zM_zSI {h : XH} {S : List AV} {f : Int → List AV → Option XR} (hf : ∀ x r, zM h (f x r)) : zM h (zSI S f) := by
  unfold zSI
  rcases S with _ | ⟨x | x | _ | x, r⟩ <;> first | exact zM_none h | exact hf x r
theorem zM_zSL {h : XH} {S : List AV} {f : Int → List AV → Option XR} (hf : ∀ x r, zM h (f x r)) : zM h (zSL S f) := by
  unfold zSL
  rcases S with _ | ⟨x | x | _ | x, r⟩ <;> first | exact zM_none h | exact hf x r
theorem zM_zSA {h : XH} {S : List AV} {f : Int → List AV → Option XR} (hf : ∀ x r, zM h (f x r)) : zM h (zSA S f) := by
  unfold zSA
  rcases S with _ | ⟨x | x | _ | x, r⟩ <;> first | exact zM_none h | exact hf x r
theorem zM_zSII {h : XH} {S : List AV} {f : Int → Int → List AV → Option XR} (hf : ∀ x y r, zM h (f x y r)) : zM h (zSII S f) := by
  unfold zSII
  rcases S with _ | ⟨y | y | _ | y, _ | ⟨x | x | _ | x, r⟩⟩ <;> first | exact zM_none h | exact hf x y r
theorem zM_zSLL {h : XH} {S : List AV} {f : Int → Int → List AV → Option XR} (hf : ∀ x y r, zM h (f x y r)) : zM h (zSLL S f) := by
  unfold zSLL
  rcases S with _ | ⟨y | y | _ | y, _ | ⟨x | x | _ | x, r⟩⟩ <;> first | exact zM_none h | exact hf x y r
theorem zM_zSLI {h : XH} {S : List AV} {f : Int → Int → List AV → Option XR} (hf : ∀ x y r, zM h (f x y r)) : zM h (zSLI S f) := by
  unfold zSLI
  rcases S with _ | ⟨y | y | _ | y, _ | ⟨x | x | _ | x, r⟩⟩ <;> first | exact zM_none h | exact hf x y r
theorem zM_zSIA {h : XH} {S : List AV} {f : Int → Int → List AV → Option XR} (hf : ∀ x y r, zM h (f x y r)) : zM h (zSIA S f) := by
  unfold zSIA
  rcases S with _ | ⟨y | y | _ | y, _ | ⟨x | x | _ | x, r⟩⟩ <;> first | exact zM_none h | exact hf x y r
theorem zM_zSvIA {h : XH} {S : List AV} {f : AV → Int → Int → List AV → Option XR} (hf : ∀ v x y r, zM h (f v x y r)) : zM h (zSvIA S f) := by
  unfold zSvIA
  rcases S with _ | ⟨v, _ | ⟨y | y | _ | y, _ | ⟨x | x | _ | x, r⟩⟩⟩ <;> first | exact zM_none h | exact hf v x y r
theorem zM_zSvA {h : XH} {S : List AV} {f : AV → Int → List AV → Option XR} (hf : ∀ v x r, zM h (f v x r)) : zM h (zSvA S f) := by
  unfold zSvA
  rcases S with _ | ⟨v, _ | ⟨x | x | _ | x, r⟩⟩ <;> first | exact zM_none h | exact hf v x r
/-- the calls and the answers -/
def zbig (i : Instr) : Bool := match i with
  | .invokevirtual _ => true
  | .invokespecial _ => true
  | .invokestatic _ => true
  | .ireturn => true
  | .lreturn => true
  | .areturn => true
  | .return_ => true
  | _ => false
theorem zM_copy {pc : Nat} {L S : List AV} {h : XH} : zM h (zcopy pc L S h) := by
  unfold zcopy
  split
  · exact zM_if (zM_n (Nat.le_refl _) (Nat.le_refl _))
  · exact zM_none h
set_option maxHeartbeats 4000000 in
theorem zop_M {m pc : Nat} {i : Instr} {L S : List AV} {h : XH} (hb : zbig i = false) : zM h (zop m i pc L S h) := by
  have an : ∀ (a : Nat) (c : Nat), a ≤ a + c := fun a c => Nat.le_add_right a c
  cases i <;> first | exact zM_none h | (cases hb; done) | skip
  all_goals simp only [zop]
  all_goals
    repeat' first
      | exact zM_none h
      | exact zM_n0
      | exact zM_j
      | exact zM_copy
      | exact zM_n (Nat.le_refl _) (Nat.le_refl _)
      | exact zM_n (an _ _) (an _ _)
      | refine zM_zlI (fun x => ?_)
      | refine zM_zlL (fun x => ?_)
      | refine zM_zlA (fun x => ?_)
      | refine zM_zs1 (fun x => ?_)
      | refine zM_zs2 (fun x => ?_)
      | refine zM_zS1 (fun x r => ?_)
      | refine zM_zS2 (fun x y r => ?_)
      | refine zM_zSI (fun x r => ?_)
      | refine zM_zSL (fun x r => ?_)
      | refine zM_zSA (fun x r => ?_)
      | refine zM_zSII (fun x y r => ?_)
      | refine zM_zSLL (fun x y r => ?_)
      | refine zM_zSLI (fun x y r => ?_)
      | refine zM_zSIA (fun x y r => ?_)
      | refine zM_zSvIA (fun v x y r => ?_)
      | refine zM_zSvA (fun v x r => ?_)
      | refine zM_zvI (fun x => ?_)
      | refine zM_zvL (fun x => ?_)
      | refine zM_zvA (fun x => ?_)
      | refine zM_lk (fun x => ?_)
      | refine zM_if ?_
      | refine zM_ite ?_ ?_
      | (split <;> skip)
/-- what a call is -/
def zCl (e : Nat × Nat × Nat) (S : List AV) (h : XH) (args r : List AV) : Prop :=
  zws r ≤ 8 ∧ (zlay args).length ≤ (zzA e.2.1).1.2.2.1 ∧
  (((e.1 = 1 ∨ e.1 = 3) ∧ args.length = (zzA e.2.1).2.1.2.2.2.2.2 ∧ S = args.reverse ++ r) ∨
   (∃ b as, args = zrf b :: as ∧ as.length = (zzA e.2.1).2.1.2.2.2.2.2 ∧ S = as.reverse ++ zrf b :: r ∧ ((e.1 = 0 ∧ zCb h b (zzown e.2.1) = true ∧ zzown e.2.1 < 7) ∨ ((e.1 = 2 ∨ e.1 = 4) ∧ 0 ≤ b))))
theorem zgo_some {t pc : Nat} {args L r : List AV} {h : XH} {y : XR} (hy : zgo t args pc L r h = some y) : y = .inr (.inl (t, args, pc + 3, L, r, h)) ∧ zws r ≤ 8 ∧ (zlay args).length ≤ (zzA t).1.2.2.1 := by
  unfold zgo zif at hy
  by_cases hc : (decide (zws r ≤ 8) && decide ((zlay args).length ≤ (zzA t).1.2.2.1)) = true
  · rw [if_pos hc] at hy
    cases hy
    simp only [Bool.and_eq_true, decide_eq_true_eq] at hc
    exact ⟨rfl, hc.1, hc.2⟩
  · rw [if_neg hc] at hy
    cases hy
theorem zcall_some {e : Nat × Nat × Nat} {pc : Nat} {L S : List AV} {h : XH} {y : XR} (hy : zcall e pc L S h = some y) : ∃ args r, y = .inr (.inl (e.2.1, args, pc + 3, L, r, h)) ∧ zCl e S h args r := by
  unfold zcall at hy
  generalize hn : (zzA e.2.1).2.1.2.2.2.2.2 = n at hy
  unfold zif at hy
  have hS := List.take_append_drop n S
  by_cases hc : decide ((S.take n).length = n) = true
  · rw [if_pos hc] at hy
    have hc := of_decide_eq_true hc
    have hlen : (S.take n).reverse.length = n := by rw [List.length_reverse]; exact hc
    by_cases h1 : e.1 = 1 ∨ e.1 = 3
    · rw [if_pos h1] at hy
      obtain ⟨a1, a2, a3⟩ := zgo_some hy
      exact ⟨_, _, a1, a2, a3, Or.inl ⟨h1, by rw [hn]; exact hlen, by rw [List.reverse_reverse]; exact hS.symm⟩⟩
    · rw [if_neg h1] at hy
      by_cases h0 : e.1 = 0
      · rw [if_pos h0] at hy
        generalize hD : S.drop n = D at hy hS
        rcases D with _ | ⟨b | b | _ | b, r⟩ <;> simp only [zSA] at hy <;> try (cases hy; done)
        by_cases hb : (zCb h b (zzown e.2.1) && decide (zzown e.2.1 < 7)) = true
        · rw [if_pos hb] at hy
          simp only [Bool.and_eq_true, decide_eq_true_eq] at hb
          obtain ⟨a1, a2, a3⟩ := zgo_some hy
          exact ⟨_, _, a1, a2, a3, Or.inr ⟨b, _, rfl, by rw [hn]; exact hlen, by rw [List.reverse_reverse]; exact hS.symm, Or.inl ⟨h0, hb.1, hb.2⟩⟩⟩
        · rw [if_neg hb] at hy
          cases hy
      · rw [if_neg h0] at hy
        by_cases h2 : e.1 = 2 ∨ e.1 = 4
        · rw [if_pos h2] at hy
          generalize hD : S.drop n = D at hy hS
          rcases D with _ | ⟨b | b | _ | b, r⟩ <;> simp only [zSA] at hy <;> try (cases hy; done)
          by_cases hb : decide (0 ≤ b) = true
          · rw [if_pos hb] at hy
            obtain ⟨a1, a2, a3⟩ := zgo_some hy
            exact ⟨_, _, a1, a2, a3, Or.inr ⟨b, _, rfl, by rw [hn]; exact hlen, by rw [List.reverse_reverse]; exact hS.symm, Or.inr ⟨h2, of_decide_eq_true hb⟩⟩⟩
          · rw [if_neg hb] at hy
            cases hy
        · rw [if_neg h2] at hy
          cases hy
  · rw [if_neg hc] at hy
    cases hy
/-- a method's entry -/
theorem zlay_args (g : ZG) : ∀ (as : List AV) (k i : Nat), zset (zld (zlay as) i) = true → (k + i, zcv g (zld (zlay as) i)) ∈ lv_args k (as.map (zcv g))
  | [], k, i, h => by
    unfold zlay zld at h
    simp [zset] at h
  | v :: as, k, i, h => by
    have ez : zlay (v :: as) = (if zlong v = true then [v, .inr (.inr none)] else [v]) ++ zlay as := rfl
    have ea : lv_args k ((v :: as).map (zcv g)) = (k, zcv g v) :: lv_args (if (zcv g v).category = 2 then k + 2 else k + 1) (as.map (zcv g)) := rfl
    rw [ez] at h ⊢
    rw [ea, zcv_cat]
    by_cases hv : zlong v = true
    · rw [if_pos hv] at h ⊢
      have h2 : zw1 v = 2 := by
        rcases v with x | x | _ | x <;> first | rfl | (cases hv; done)
      rw [if_pos h2]
      match i, h with
      | 0, _ => exact List.mem_cons_self
      | 1, h => exact absurd h (by simp [zld, zset])
      | i + 2, h =>
        have := zlay_args g as (k + 2) i h
        rw [show k + 2 + i = k + (i + 2) by omega] at this
        exact List.mem_cons_of_mem _ this
    · rw [if_neg hv] at h ⊢
      have h2 : ¬ zw1 v = 2 := by
        rw [zw1_long (by simpa using hv)]
        decide
      rw [if_neg h2]
      match i, h with
      | 0, _ => exact List.mem_cons_self
      | i + 1, h =>
        have := zlay_args g as (k + 1) i h
        rw [show k + 1 + i = k + (i + 1) by omega] at this
        exact List.mem_cons_of_mem _ this
theorem zlay_len (g : ZG) : ∀ as : List AV, (lg_sl (as.map (zcv g))).length = (zlay as).length
  | [] => rfl
  | v :: as => by
    have ez : zlay (v :: as) = (if zlong v = true then [v, .inr (.inr none)] else [v]) ++ zlay as := rfl
    have ea : lg_sl ((v :: as).map (zcv g)) = (if (zcv g v).category = 2 then [Slot.val (zcv g v), .second] else [Slot.val (zcv g v)]) ++ lg_sl (as.map (zcv g)) := rfl
    rw [ez, ea, List.length_append, List.length_append, zlay_len g as, zcv_cat]
    by_cases hv : zlong v = true
    · have h2 : zw1 v = 2 := by
        rcases v with x | x | _ | x <;> first | rfl | (cases hv; done)
      rw [if_pos hv, if_pos h2]
      rfl
    · have h2 : ¬ zw1 v = 2 := by
        rw [zw1_long (by simpa using hv)]
        decide
      rw [if_neg hv, if_neg h2]
      rfl
theorem zL_ent {g : ZG} {t : Nat} {as : List AV} {h : XH} (hl : (zlay as).length ≤ (zzA t).1.2.2.1) : zL g t (zent t as h).2.1 ((lg_sl (as.map (zcv g)) ++ List.replicate ((zzA t).1.2.2.1 - (lg_sl (as.map (zcv g))).length) Slot.unset).toArray) := by
  have he := lv_entry (as.map (zcv g)) (n := (zzA t).1.2.2.1) (by rw [zlay_len]; exact hl)
  refine ⟨?_, he.1, he.2.1, fun q hq => ?_⟩
  · show (zlay as ++ List.replicate _ _).length ≤ _
    rw [List.length_append, List.length_replicate]
    omega
  · obtain ⟨h1, h2, h3⟩ := zal_of hq
    have hlt : q.1 < (zlay as).length := by
      rcases Nat.lt_or_ge q.1 (zlay as).length with z | z
      · exact z
      · have e1 : zld (zent t as h).2.1 q.1 = .inr (.inr none) := by
          show ((zlay as ++ List.replicate _ _)[q.1]?).getD _ = _
          rw [List.getElem?_append_right z, List.getElem?_replicate]
          split <;> rfl
        rw [e1] at h2
        cases h2
    have e1 : zld (zent t as h).2.1 q.1 = zld (zlay as) q.1 := by
      show ((zlay as ++ List.replicate _ _)[q.1]?).getD _ = _
      rw [List.getElem?_append_left hlt]
      rfl
    rw [e1] at h2 h3
    have := zlay_args g as 0 q.1 h2
    rw [Nat.zero_add, ← h3] at this
    exact he.2.2 _ this
theorem zgood {w : Cond} (h : w ∈ zzWs) : w ∈ zzWs ∧ ((w.onTables && w.keeps) = true ∨ ∃ ty, w = .arrayClass ty) := ⟨h, good_of_word (List.mem_filter.mp h).2⟩
def zws0 (t : Nat) : List Cond := Cond.code (zzA t).1.1 (zzA t).1.2.1 (zzA t).1.2.2.1 (zzA t).1.2.2.2.1 :: zzWs
theorem zws0_good {t : Nat} (ht : Cond.code (zzA t).1.1 (zzA t).1.2.1 (zzA t).1.2.2.1 (zzA t).1.2.2.2.1 ∈ zzWs) : GoodIn zzWs (zws0 t) := fun w hw => by
  rcases List.mem_cons.mp hw with h | h
  · rw [h]; exact zgood ht
  · exact zgood h
/-- what a method takes as given -/
def zE (g : ZG) (h : XH) (U : State) : Prop := zH g h U.heap ∧ va_K (gC g, gI g) vwCl (ztys g) U ∧ zNw U ∧ gS g < gB g ∧ va_X (gS g) (gL g) (gX g) U U.heap
theorem zAOA.moved {t : FieldType} {u U : State} (hvm : u.vm.Alike U.vm) (h : zAOA t u) : zAOA t U := by
  obtain ⟨comp, c, k, h1, h2, h3, h4, h5⟩ := arrayOverA_spec h
  obtain ⟨k', hk', he⟩ := hvm.2.2 _ _ h3
  have hi : (U.vm.classes.findIdx? fun (x : Class) => match x.kind with | .array component _ => component == comp | _ => false) = some c := by
    refine Eq.trans (va_idx_bare U.vm comp).symm ?_
    first | rw [hvm.bare_eq] | rw [← hvm.bare_eq]
    exact (va_idx_bare u.vm comp).trans h2
  have hkind : k'.kind = .array comp (.array t) := by rw [he]; exact h4
  have f1 : U.vm.findClass (FieldType.array t).toString = some comp := by rw [hvm.findClass]; exact h1
  have f2 : U.vm.findClass ("[" ++ (FieldType.array t).toString) = some c := by rw [hvm.findClass]; exact h5
  unfold zAOA Cond.before Cond.holds
  simp only [Cond.value]
  rw [f1, Option.bind_some]
  refine (congrArg (fun o : Option Nat => (o.bind (fun c => (U.vm.classes[c]?).map fun (k : Class) => match k.kind with | .array _ ty => decide (ty = FieldType.array t) && decide (U.vm.findClass ("[" ++ (FieldType.array t).toString) = some c) | _ => false) == some true)) hi).trans ?_
  simp [hk', hkind, f2]
theorem zNw.warm {s U : State} (hW : s.WarmedH U.vm) (h : zNw s) : zNw U := ⟨fun e he he2 => va_Nw.warmM hW (h.1 e he he2), h.2.1.moved hW.alike, h.2.2.1.moved hW.alike, zAOA.moved hW.alike h.2.2.2.1, zAOA.moved hW.alike h.2.2.2.2⟩
theorem zNw.same {s U : State} (hv : s.vm = U.vm) (h : zNw s) : zNw U := by
  have ha : s.vm.Alike U.vm := by rw [hv]; exact Vm.Alike.refl _
  exact ⟨fun e he he2 => va_Nw.same rfl hv (h.1 e he he2), h.2.1.moved ha, h.2.2.1.moved ha, zAOA.moved ha h.2.2.2.1, zAOA.moved ha h.2.2.2.2⟩
theorem zE_blind {g : ZG} {h : XH} {av : List Value} : FrameBlind (va_Pc av (zE g h)) := fun a U gg mk q => ⟨q.1, q.2.1, va_K.moved (u := U) (U := U.calling gg mk a) (Vm.Alike.refl U.vm) q.2.2.1, zNw.same (s := U) (U := U.calling gg mk a) rfl q.2.2.2.1, q.2.2.2.2.1, va_X.moved (u := U) (U := U.calling gg mk a) (Vm.Alike.refl U.vm) q.2.2.2.2.2⟩
def zQ (g : ZG) (v : Option AV) (h' : XH) : Array Value → State → Outcome → State → Prop := fun _ st oc t => oc = .returned (v.map (zcv g)) ∧ zH g h' t.heap ∧ va_F (fun q => gB g ≤ q) st t
def zRm (d : Nat) (h h' : XH) : Room := { frames := d + 1, cells := xn h' - xn h, slots := xz h' - xz h, locals := 60 * d + 60 }
theorem zzml_ok : ∀ q ∈ zzM, q.1.2.2.1 ≤ 30 := by decide +kernel
section ZC
variable {p : Program} {l : Launch} {e : Env} {R : Room} {s : State} {m : MethodId} {args : Array Value} {below : List Frame} {meth : Method} {c : Code} {Q : State → Prop}
variable {g : ZG} {mi d n0 z0 pc : Nat} {L S : List AV} {h : XH} {x' : XC}
theorem zcallK {H : Heap} {ls : Array Slot} {locs : List Loc} {cells slots mc ms : Nat} {st0 rest : List Value} {a : Array Value} {v : Option AV} {h2 : XH} (hr : va_Run p l e R s m args below meth c H locs cells slots mc ms (F0 m pc ls st0) rest (zQ g v h2 a) (fun q => gB g ≤ q)) (hS : va_S (fun q => gB g ≤ q) s.heap H locs)
    (kk : ∀ (H1 : Heap) (locs1 : List Loc), zH g h2 H1 → va_S (fun q => gB g ≤ q) s.heap H1 locs1 → W p l e R s m args below meth c H1 locs1 (cells + mc) (slots + ms) Q (F0 m (pc + 3) ls ((v.map (zcv g)).toList ++ rest))) : W p l e R s m args below meth c H locs cells slots Q (F0 m pc ls st0) := by
  intro T hT X
  obtain ⟨v', st₀, t, T', LL, h0, X', hL, e1, e2, ⟨hv, hh, hz, hk⟩, st⟩ := hr T hT X
  cases hv
  rw [h0] at hz hk
  obtain ⟨t2, a1, b1⟩ := kk T'.heap (locs ++ LL) (by rw [e1]; exact hh) ⟨Nat.le_trans hS.1 (by rw [e1]; exact hz), fun q h1 h2 => by rw [e1, hk q (Nat.lt_of_lt_of_le h1 hS.1) h2]; exact hS.2.1 q h1 h2, fun q hq => by
      rcases List.mem_append.mp hq with h | h
      · exact hS.2.2 q h
      · exact hL q h⟩ T' rfl X'
  exact ⟨t2, st t2 a1, b1⟩
/-- the tables' words for a link of a kind -/
theorem zzL_any {x kd t pl : Nat} (hv : zzlu zzL (zzown mi) x = some (kd, t, pl)) (h5 : kd ≠ 5) (h6 : kd ≠ 6) : zzM[t]? = some (zzA t) ∧ ¬ (zzA t).1.1 = yL_law ∧ (if kd = 0 then lw_tbl[pl]? = some (Cond.methodLink (zzR (zzown mi)) x (zzA t).1.1) ∧ (zzA t).2.1.2.2.2.2.1 = false ∧ ¬ (zzA t).2.1.2.2.1 = 9999 else if kd = 1 then lw_tbl[pl]? = some (Cond.methodLink (zzR (zzown mi)) x (zzA t).1.1) ∧ (zzA t).2.1.2.2.2.2.1 = true else if kd = 2 then lw_tbl[pl]? = some (Cond.methodLink (zzR (zzown mi)) x (zzA t).1.1) ∧ (zzA t).2.1.2.2.2.2.1 = false ∧ (zzA t).1.1.name = "<init>" ∧ (zzA t).1.2.2.2.1 = none else if kd = 3 then lw_tbl[pl]? = some (Cond.methodLinkNest (zzR (zzown mi)) x (zzA t).1.1 "LooseGrid") ∧ (zzA t).2.1.2.2.2.2.1 = true else lw_tbl[pl]? = some (Cond.methodLinkNest (zzR (zzown mi)) x (zzA t).1.1 "LooseGrid") ∧ (zzA t).2.1.2.2.2.2.1 = false ∧ (zzA t).1.1.name = "<init>" ∧ (zzA t).1.2.2.2.1 = none) := by
  have h1 := zzL_ok _ (zzlu_mem _ _ _ _ hv)
  rw [if_neg h5, if_neg h6] at h1
  obtain ⟨q, hq, h2⟩ := (Option.any_eq_true _ _).mp h1
  have hq : zzM[t]? = some q := hq
  have e1 : zzA t = q := by unfold zzA; rw [hq]; rfl
  rw [e1]
  simp only [Bool.and_eq_true, decide_eq_true_eq] at h2
  refine ⟨hq, h2.1, ?_⟩
  have h3 := h2.2
  by_cases k0 : kd = 0
  · rw [if_pos k0] at h3 ⊢
    exact of_decide_eq_true h3
  · rw [if_neg k0] at h3 ⊢
    by_cases k1 : kd = 1
    · rw [if_pos k1] at h3 ⊢
      exact of_decide_eq_true h3
    · rw [if_neg k1] at h3 ⊢
      by_cases k2 : kd = 2
      · rw [if_pos k2] at h3 ⊢
        exact of_decide_eq_true h3
      · rw [if_neg k2] at h3 ⊢
        by_cases k3 : kd = 3
        · rw [if_pos k3] at h3 ⊢
          exact of_decide_eq_true h3
        · rw [if_neg k3] at h3 ⊢
          exact of_decide_eq_true h3
set_option maxHeartbeats 4000000 in
theorem zo_call {i : Instr} {x kd t pl d' : Nat} {as r : List AV} {v : Option AV} {h2 : XH} (X : zX p R s m args meth c g mi d) (hv : zzlu zzL (zzown mi) x = some (kd, t, pl)) (hd' : d = d' + 1)
    (hi : (i = .invokevirtual x ∧ kd = 0) ∨ (i = .invokespecial x ∧ (kd = 2 ∨ kd = 4)) ∨ (i = .invokestatic x ∧ (kd = 1 ∨ kd = 3)))
    (hdg : decode (zzA mi).1.2.1 pc = .ok (i, 3)) (hC : zCl (kd, t, pl) S h as r)
    (hM : Met l (zzA t).1.1 (zws0 t) (zRm d' h h2) (va_Pc (as.map (zcv g)) (zE g h)) (zQ g v h2) (xn h2 - xn h) (xz h2 - xz h) (fun q => gB g ≤ q))
    (hmono : xn h ≤ xn h2 ∧ xz h ≤ xz h2) (hR : xn h2 ≤ n0 + R.cells ∧ xz h2 ≤ z0 + R.slots)
    (k : zK p l e R s m args below meth c Q g mi n0 z0 (pc + 3, L, v.toList ++ r, h2)) : zK p l e R s m args below meth c Q g mi n0 z0 (pc, L, S, h) := by
  intro H ls locs cells slots hH hl hS hc hz
  have hH : zH g h H := hH
  have hl : zL g mi L ls := hl
  have hc : n0 + cells = xn h := hc
  have hz : z0 + slots = xz h := hz
  have hkd5 : kd ≠ 5 := by rcases hi with ⟨-, z⟩ | ⟨-, z | z⟩ | ⟨-, z | z⟩ <;> omega
  have hkd6 : kd ≠ 6 := by rcases hi with ⟨-, z⟩ | ⟨-, z | z⟩ | ⟨-, z | z⟩ <;> omega
  obtain ⟨hmem, hlaw, hw⟩ := zzL_any hv hkd5 hkd6
  obtain ⟨-, hG⟩ := zzA_ok t
  obtain ⟨g1, g2, g3, g4, g5, g6, g7, g8, g9⟩ := hG.resolve_left hlaw
  have hcode : Cond.code (zzA t).1.1 (zzA t).1.2.1 (zzA t).1.2.2.1 (zzA t).1.2.2.2.1 ∈ zzWs := zW_mem g1 rfl
  have hini : Cond.initialized (zzA t).1.1.cls ∈ zzWs := zW_mem g2 rfl
  have hts := X.2.2.2.2.1
  have hX1 : CallFix p m c (zzA mi).1.2.1 (zzA mi).1.2.2.1 s args zzWs (zzR (zzown mi)) := ⟨X.1, X.2.1, X.2.2.1, X.2.2.2.1, hts⟩
  have hRf := X.2.2.2.2.2.2.2.2.2.2.2.1
  have hRl := X.2.2.2.2.2.2.2.2.2.2.2.2
  have hml : (zzA t).1.2.2.1 ≤ 30 := by
    have : ∀ q ∈ zzM, q.1.2.2.1 ≤ 30 := zzml_ok
    exact this _ (List.mem_of_getElem? hmem)
  have hRoom : (zRm d' h h2).frames + 1 ≤ R.frames ∧ 8 + ((zzA t).1.2.2.1 + 11) + (zRm d' h h2).locals ≤ R.locals := by
    constructor
    · show d' + 1 + 1 ≤ R.frames
      omega
    · show 8 + ((zzA t).1.2.2.1 + 11) + (60 * d' + 60) ≤ R.locals
      omega
  have hf : cells + (xn h2 - xn h) ≤ R.cells ∧ slots + (xz h2 - xz h) ≤ R.slots := by omega
  have hPc : ∀ U : State, U.heap = H → s.WarmedH U.vm → zE g h U := fun U hU hW => ⟨by rw [hU]; exact hH, X.2.2.2.2.2.1.moved hW.alike, zNw.warm hW X.2.2.2.2.2.2.1, X.2.2.2.2.2.2.2.2.2.1, by
    rw [hU]
    refine (va_X.moved hW.alike X.2.2.2.2.2.2.2.2.2.2.1).kept (hS.2.1 _ (Nat.lt_of_lt_of_le X.2.2.2.2.2.2.2.2.2.1 X.2.2.2.2.2.2.2.2.1) (Nat.not_le.mpr X.2.2.2.2.2.2.2.2.2.1))⟩
  have hWs : ∀ q : List AV, zws q ≤ 8 → 2 * (F0 m pc ls (S.map (zcv g))).monitorRoom + ((q.map (zcv g)).map fun v => v.category).sum ≤ 8 := fun q hq => by
    show 2 * 0 + _ ≤ 8
    rw [zws_sum]
    omega
  have kk : ∀ (H1 : Heap) (locs1 : List Loc), zH g h2 H1 → va_S (fun q => gB g ≤ q) s.heap H1 locs1 → W p l e R s m args below meth c H1 locs1 (cells + (xn h2 - xn h)) (slots + (xz h2 - xz h)) Q (F0 m (pc + 3) ls ((v.map (zcv g)).toList ++ r.map (zcv g))) := fun H1 locs1 a1 a2 => by
    have h5 := k H1 ls locs1 (cells + (xn h2 - xn h)) (slots + (xz h2 - xz h)) a1 hl a2 (by show _ = xn h2; omega) (by show _ = xz h2; omega)
    have e5 : (v.toList ++ r).map (zcv g) = (v.map (zcv g)).toList ++ r.map (zcv g) := by
      cases v <;> simp
    simp only [e5] at h5
    exact h5
  have hpar : ∀ n, n = (zzA t).2.1.2.2.2.2.2 → (parseMethodDescriptor (zzA t).1.1.desc).map (fun d => d.parameters.length) = some n := fun n hn => by rw [hn]; exact g5
  have hGood := zws0_good hcode
  obtain ⟨hw8, hlay, hC⟩ := hC
  rcases hC with ⟨hk13, hlen, hSe⟩ | ⟨b, as', hae, hlen, hSe, hk02⟩
  · have hk13 : kd = 1 ∨ kd = 3 := hk13
    have hinv : i = .invokestatic x := by rcases hi with ⟨-, z⟩ | ⟨-, z | z⟩ | ⟨z, -⟩ <;> first | exact z | omega
    subst hinv
    have hst : (F0 m pc ls (S.map (zcv g))).stack = (as.map (zcv g)).reverse ++ r.map (zcv g) := by
      show S.map (zcv g) = _
      rw [hSe, List.map_append, List.map_reverse]
    rcases hk13 with hk | hk
    · subst hk
      simp only [if_neg (show ¬ (1 : Nat) = 0 by decide), if_true] at hw
      obtain ⟨w1, w2⟩ := hw
      rw [if_pos w2] at g4
      refine zcallK (va_runS hX1 hM ⟨callB_of as.length hts hGood rfl rfl rfl (hts _ hini) (hts _ (zW_mem w1 rfl)) ⟨g8, g9, hpar _ hlen⟩ hRoom, hts _ (zW_mem g4 rfl)⟩ ⟨zE_blind, fun U hU hW => ⟨rfl, hPc U hU hW⟩⟩ rfl (by rw [List.length_map]) hl.2.1 hst (hWs r hw8) hdg hf) hS kk
    · subst hk
      simp only [if_neg (show ¬ (3 : Nat) = 0 by decide), if_neg (show ¬ (3 : Nat) = 1 by decide), if_neg (show ¬ (3 : Nat) = 2 by decide), if_true] at hw
      obtain ⟨w1, w2⟩ := hw
      rw [if_pos w2] at g4
      have hnest : va_Nw (.methodLinkNest (zzR (zzown mi)) x (zzA t).1.1 "LooseGrid") s := X.2.2.2.2.2.2.1.1 ((zzown mi, x), 3, t, pl) (zzlu_mem _ _ _ _ hv) (Or.inl rfl)
      refine zcallK (va_runSN hX1 hM ⟨va_cnB as.length hts hGood rfl rfl rfl hnest (hts _ hini) ⟨g8, g9, hpar _ hlen⟩ hRoom, hts _ (zW_mem g4 rfl), trivial⟩ ⟨zE_blind, fun U hU hW => ⟨rfl, hPc U hU hW⟩⟩ rfl (by rw [List.length_map]) hl.2.1 hst (hWs r hw8) hdg hf) hS kk
  · subst hae
    obtain ⟨ba, hba, hb0⟩ : ∃ ba, zcr g b = .ref ba ∧ 0 ≤ b := by
      have hb0 : 0 ≤ b := by
        rcases hk02 with ⟨-, z, -⟩ | ⟨-, z⟩
        · exact (zCb_iff.mp z).1
        · exact z
      rcases zcr_or g b with e1 | ⟨a, e1⟩
      · unfold zcr at e1
        rw [if_neg (by omega)] at e1
        by_cases h2 : b = zSC
        · rw [if_pos h2] at e1; cases e1
        · rw [if_neg h2] at e1; cases e1
      · exact ⟨a, e1, hb0⟩
    have hst : (F0 m pc ls (S.map (zcv g))).stack = (as'.map (zcv g)).reverse ++ .ref ba :: r.map (zcv g) := by
      show S.map (zcv g) = _
      rw [hSe, List.map_append, List.map_reverse, List.map_cons]
      show _ ++ zcr g b :: _ = _
      rw [hba]
    have hav : (zrf b :: as').map (zcv g) = .ref ba :: as'.map (zcv g) := by
      show zcr g b :: _ = _
      rw [hba]
    rw [hav] at hM
    have g4' : ∀ w2 : (zzA t).2.1.2.2.2.2.1 = false, lw_tbl[(zzA t).2.1.2.1]? = some (Cond.instanceMethod (zzA t).1.1) := fun w2 => by
      rw [if_neg (by rw [w2]; decide)] at g4
      exact g4
    rcases hk02 with ⟨hk, hcb, ho7⟩ | ⟨hk, -⟩
    · have hk : kd = 0 := hk
      subst hk
      simp only [if_true] at hw
      obtain ⟨w1, w2, w3⟩ := hw
      have hinv : i = .invokevirtual x := by rcases hi with ⟨z, -⟩ | ⟨-, z | z⟩ | ⟨-, z | z⟩ <;> first | exact z | omega
      subst hinv
      have hsel := g6.resolve_left w3
      have ho7 : zzown t < 7 := ho7
      obtain ⟨o, rfl, ho1, ho2, ho3, ⟨cell, c1, c2, c3, -⟩, ho6⟩ := zobj hH hcb ho7
      have hbe : ba = gB g + o := by
        rw [hba] at ho6
        exact Value.ref.inj ho6
      subst hbe
      obtain ⟨q, hq⟩ := zcl_of ho7
      have hcls : s.vm.findClass (zzA t).1.1.cls = some cell.cls := by
        rw [c2, g3]
        have := (X.2.2.2.2.2.1.1 _ q hq).2.1
        rw [(zcls hq).2.2.2.2.2.2.2] at this
        exact this
      have hGV : GoodIn zzWs (wsV (zzR (zzown mi)) x (zzA t).1.1.cls (zzA t).1.1 (zws0 t)) := fun w hw => by
        unfold wsV at hw
        rcases List.mem_append.mp hw with hw | hw
        · simp only [List.mem_cons, List.not_mem_nil, or_false] at hw
          rcases hw with h | h | h | h <;> rw [h]
          · exact zgood (zW_mem w1 rfl)
          · exact zgood (zW_mem (g4' w2) rfl)
          · exact zgood (zW_mem hsel rfl)
          · exact zgood hini
        · exact hGood w hw
      refine zcallK (va_runV hX1 hM (cwV as'.length hts hGV rfl rfl rfl ⟨rfl, g8, g9, hpar _ hlen⟩ hRoom) ⟨zE_blind, ⟨cell, c1, by rw [c3]; rfl, hcls⟩, fun U hU hW => ⟨rfl, hPc U hU hW⟩⟩ rfl (by rw [List.length_map]) hl.2.1 hst (hWs r hw8) hdg hf) hS kk
    · have hk : kd = 2 ∨ kd = 4 := hk
      have hinv : i = .invokespecial x := by rcases hi with ⟨-, z⟩ | ⟨z, -⟩ | ⟨-, z | z⟩ <;> first | exact z | omega
      subst hinv
      rcases hk with hk | hk
      · subst hk
        simp only [if_neg (show ¬ (2 : Nat) = 0 by decide), if_neg (show ¬ (2 : Nat) = 1 by decide), if_true] at hw
        obtain ⟨w1, w2, w3, w4⟩ := hw
        have hwn : zws0 t = Cond.code (zzA t).1.1 (zzA t).1.2.1 (zzA t).1.2.2.1 none :: zzWs := by unfold zws0; rw [w4]
        refine zcallK (va_runI hX1 hM (cwI as'.length hts hGood hwn rfl rfl (hts _ hini) (hts _ (zW_mem w1 rfl)) (hts _ (zW_mem (g4' w2) rfl)) w3 ⟨g8, g9, hpar _ hlen⟩ hRoom) ⟨zE_blind, fun U hU hW => ⟨rfl, hPc U hU hW⟩⟩ rfl (by rw [List.length_map]) hl.2.1 hst (hWs r hw8) hdg hf) hS kk
      · subst hk
        simp only [if_neg (show ¬ (4 : Nat) = 0 by decide), if_neg (show ¬ (4 : Nat) = 1 by decide), if_neg (show ¬ (4 : Nat) = 2 by decide), if_neg (show ¬ (4 : Nat) = 3 by decide)] at hw
        obtain ⟨w1, w2, w3, w4⟩ := hw
        have hwn : zws0 t = Cond.code (zzA t).1.1 (zzA t).1.2.1 (zzA t).1.2.2.1 none :: zzWs := by unfold zws0; rw [w4]
        have hnest : va_Nw (.methodLinkNest (zzR (zzown mi)) x (zzA t).1.1 "LooseGrid") s := X.2.2.2.2.2.2.1.1 ((zzown mi, x), 4, t, pl) (zzlu_mem _ _ _ _ hv) (Or.inr rfl)
        refine zcallK (va_runIN hX1 hM ⟨va_cnB as'.length hts hGood hwn rfl rfl hnest (hts _ hini) ⟨g8, g9, hpar _ hlen⟩ hRoom, w3, hts _ (zW_mem (g4' w2) rfl)⟩ ⟨zE_blind, fun U hU hW => ⟨rfl, hPc U hU hW⟩⟩ rfl (by rw [List.length_map]) hl.2.1 hst (hWs r hw8) hdg hf) hS kk
end ZC
