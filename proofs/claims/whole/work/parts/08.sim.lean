/-! the abstract machine's run is the machine's run -/
theorem zstep_some {m : Nat} {x : XC} {y : XR} (h : zstep m x = some y) : ∃ i len, decode (zzA m).1.2.1 x.1 = .ok (i, len) ∧ (zln i = 0 ∨ zln i = len) ∧ zop m i x.1 x.2.1 x.2.2.1 x.2.2.2 = some y := by
  unfold zstep at h
  cases hi : zzins m x.1 with
  | none => rw [hi] at h; cases h
  | some v =>
    rw [hi] at h
    obtain ⟨i, len⟩ := v
    simp only [zif] at h
    by_cases hl : decide (zln i = 0 ∨ zln i = len) = true
    · rw [if_pos hl] at h
      exact ⟨i, len, zzins_ok hi, of_decide_eq_true hl, h⟩
    · rw [if_neg hl] at h
      cases h
section ZS
variable {p : Program} {l : Launch} {e : Env} {R : Room} {s : State} {m : MethodId} {args : Array Value} {below : List Frame} {meth : Method} {c : Code} {Q : State → Prop}
variable {g : ZG} {mi d n0 z0 pc : Nat} {L S : List AV} {h : XH} {x' : XC}
set_option maxHeartbeats 4000000 in
theorem zo_small {i : Instr} {len : Nat} (X : zX p R s m args meth c g mi d) (hd : decode (zzA mi).1.2.1 pc = .ok (i, len)) (hlen : zln i = 0 ∨ zln i = len) (hb : zbig i = false) (hs : zop mi i pc L S h = some (.inl x')) (hR : xn x'.2.2.2 ≤ n0 + R.cells ∧ xz x'.2.2.2 ≤ z0 + R.slots) (k : zK p l e R s m args below meth c Q g mi n0 z0 x') : zK p l e R s m args below meth c Q g mi n0 z0 (pc, L, S, h) := by
  cases i <;> first | (cases hs; done) | (cases hb; done) | skip
  case aaload =>
    rcases hlen with hlen | hlen
    · cases hlen
    · subst hlen
      exact zo_aaload X hd hs k
  case aastore =>
    rcases hlen with hlen | hlen
    · cases hlen
    · subst hlen
      exact zo_aastore X hd hs k
  case aconst_null =>
    rcases hlen with hlen | hlen
    · cases hlen
    · subst hlen
      exact zo_aconst_null X hd hs k
  case aload =>
    rcases hlen with hlen | hlen
    · cases hlen
    · subst hlen
      exact zo_aload X hd hs k
  case aload_n =>
    rcases hlen with hlen | hlen
    · cases hlen
    · subst hlen
      exact zo_aload_n X hd hs k
  case anewarray =>
    rcases hlen with hlen | hlen
    · cases hlen
    · subst hlen
      exact zo_anewarray X hd hs hR k
  case arraylength =>
    rcases hlen with hlen | hlen
    · cases hlen
    · subst hlen
      exact zo_arraylength X hd hs k
  case astore =>
    rcases hlen with hlen | hlen
    · cases hlen
    · subst hlen
      exact zo_astore X hd hs k
  case astore_n =>
    rcases hlen with hlen | hlen
    · cases hlen
    · subst hlen
      exact zo_astore_n X hd hs k
  case baload =>
    rcases hlen with hlen | hlen
    · cases hlen
    · subst hlen
      exact zo_baload X hd hs k
  case bastore =>
    rcases hlen with hlen | hlen
    · cases hlen
    · subst hlen
      exact zo_bastore X hd hs k
  case bipush =>
    rcases hlen with hlen | hlen
    · cases hlen
    · subst hlen
      exact zo_bipush X hd hs k
  case dup =>
    rcases hlen with hlen | hlen
    · cases hlen
    · subst hlen
      exact zo_dup X hd hs k
  case dup_x1 =>
    rcases hlen with hlen | hlen
    · cases hlen
    · subst hlen
      exact zo_dup_x1 X hd hs k
  case dup_x2 =>
    rcases hlen with hlen | hlen
    · cases hlen
    · subst hlen
      exact zo_dup_x2 X hd hs k
  case dup2 =>
    rcases hlen with hlen | hlen
    · cases hlen
    · subst hlen
      exact zo_dup2 X hd hs k
  case getfield =>
    rcases hlen with hlen | hlen
    · cases hlen
    · subst hlen
      exact zo_getfield X hd hs k
  case goto =>
    rcases hlen with hlen | hlen
    · cases hlen
    · subst hlen
      exact zo_goto X hd hs k
  case i2b =>
    rcases hlen with hlen | hlen
    · cases hlen
    · subst hlen
      exact zo_i2b X hd hs k
  case i2l =>
    rcases hlen with hlen | hlen
    · cases hlen
    · subst hlen
      exact zo_i2l X hd hs k
  case i2s =>
    rcases hlen with hlen | hlen
    · cases hlen
    · subst hlen
      exact zo_i2s X hd hs k
  case iadd =>
    rcases hlen with hlen | hlen
    · cases hlen
    · subst hlen
      exact zo_iadd X hd hs k
  case iaload =>
    rcases hlen with hlen | hlen
    · cases hlen
    · subst hlen
      exact zo_iaload X hd hs k
  case iand =>
    rcases hlen with hlen | hlen
    · cases hlen
    · subst hlen
      exact zo_iand X hd hs k
  case iastore =>
    rcases hlen with hlen | hlen
    · cases hlen
    · subst hlen
      exact zo_iastore X hd hs k
  case iconst =>
    rcases hlen with hlen | hlen
    · cases hlen
    · subst hlen
      exact zo_iconst X hd hs k
  case idiv =>
    rcases hlen with hlen | hlen
    · cases hlen
    · subst hlen
      exact zo_idiv X hd hs k
  case if_icmp =>
    rcases hlen with hlen | hlen
    · cases hlen
    · subst hlen
      exact zo_if_icmp X hd hs k
  case ifCond =>
    rcases hlen with hlen | hlen
    · cases hlen
    · subst hlen
      exact zo_ifCond X hd hs k
  case ifnonnull =>
    rcases hlen with hlen | hlen
    · cases hlen
    · subst hlen
      exact zo_ifnonnull X hd hs k
  case ifnull =>
    rcases hlen with hlen | hlen
    · cases hlen
    · subst hlen
      exact zo_ifnull X hd hs k
  case iinc =>
    rcases hlen with hlen | hlen
    · cases hlen
    · subst hlen
      exact zo_iinc X hd hs k
  case iload =>
    rcases hlen with hlen | hlen
    · cases hlen
    · subst hlen
      exact zo_iload X hd hs k
  case iload_n =>
    rcases hlen with hlen | hlen
    · cases hlen
    · subst hlen
      exact zo_iload_n X hd hs k
  case imul =>
    rcases hlen with hlen | hlen
    · cases hlen
    · subst hlen
      exact zo_imul X hd hs k
  case ineg =>
    rcases hlen with hlen | hlen
    · cases hlen
    · subst hlen
      exact zo_ineg X hd hs k
  case irem =>
    rcases hlen with hlen | hlen
    · cases hlen
    · subst hlen
      exact zo_irem X hd hs k
  case ishl =>
    rcases hlen with hlen | hlen
    · cases hlen
    · subst hlen
      exact zo_ishl X hd hs k
  case ishr =>
    rcases hlen with hlen | hlen
    · cases hlen
    · subst hlen
      exact zo_ishr X hd hs k
  case istore =>
    rcases hlen with hlen | hlen
    · cases hlen
    · subst hlen
      exact zo_istore X hd hs k
  case istore_n =>
    rcases hlen with hlen | hlen
    · cases hlen
    · subst hlen
      exact zo_istore_n X hd hs k
  case isub =>
    rcases hlen with hlen | hlen
    · cases hlen
    · subst hlen
      exact zo_isub X hd hs k
  case ixor =>
    rcases hlen with hlen | hlen
    · cases hlen
    · subst hlen
      exact zo_ixor X hd hs k
  case l2i =>
    rcases hlen with hlen | hlen
    · cases hlen
    · subst hlen
      exact zo_l2i X hd hs k
  case laload =>
    rcases hlen with hlen | hlen
    · cases hlen
    · subst hlen
      exact zo_laload X hd hs k
  case land =>
    rcases hlen with hlen | hlen
    · cases hlen
    · subst hlen
      exact zo_land X hd hs k
  case lastore =>
    rcases hlen with hlen | hlen
    · cases hlen
    · subst hlen
      exact zo_lastore X hd hs k
  case lcmp =>
    rcases hlen with hlen | hlen
    · cases hlen
    · subst hlen
      exact zo_lcmp X hd hs k
  case lconst =>
    rcases hlen with hlen | hlen
    · cases hlen
    · subst hlen
      exact zo_lconst X hd hs k
  case ldc =>
    rcases hlen with hlen | hlen
    · cases hlen
    · subst hlen
      exact zo_ldc X hd hs k
  case ldc_w =>
    rcases hlen with hlen | hlen
    · cases hlen
    · subst hlen
      exact zo_ldc_w X hd hs k
  case ldc2_w =>
    rcases hlen with hlen | hlen
    · cases hlen
    · subst hlen
      exact zo_ldc2_w X hd hs k
  case lload =>
    rcases hlen with hlen | hlen
    · cases hlen
    · subst hlen
      exact zo_lload X hd hs k
  case lload_n =>
    rcases hlen with hlen | hlen
    · cases hlen
    · subst hlen
      exact zo_lload_n X hd hs k
  case lookupswitch => exact zo_lookupswitch X hd hs k
  case lor =>
    rcases hlen with hlen | hlen
    · cases hlen
    · subst hlen
      exact zo_lor X hd hs k
  case lshl =>
    rcases hlen with hlen | hlen
    · cases hlen
    · subst hlen
      exact zo_lshl X hd hs k
  case lstore =>
    rcases hlen with hlen | hlen
    · cases hlen
    · subst hlen
      exact zo_lstore X hd hs k
  case lstore_n =>
    rcases hlen with hlen | hlen
    · cases hlen
    · subst hlen
      exact zo_lstore_n X hd hs k
  case multianewarray =>
    rcases hlen with hlen | hlen
    · cases hlen
    · subst hlen
      exact zo_multianewarray X hd hs hR k
  case new =>
    rcases hlen with hlen | hlen
    · cases hlen
    · subst hlen
      exact zo_new X hd hs hR k
  case newarray =>
    rcases hlen with hlen | hlen
    · cases hlen
    · subst hlen
      exact zo_newarray X hd hs hR k
  case pop =>
    rcases hlen with hlen | hlen
    · cases hlen
    · subst hlen
      exact zo_pop X hd hs k
  case putfield =>
    rcases hlen with hlen | hlen
    · cases hlen
    · subst hlen
      exact zo_putfield X hd hs k
  case sipush =>
    rcases hlen with hlen | hlen
    · cases hlen
    · subst hlen
      exact zo_sipush X hd hs k
  case tableswitch => exact zo_tableswitch X hd hs k
/-- what an answer owes -/
def zRet (p : Program) (l : Launch) (e : Env) (R : Room) (s : State) (m : MethodId) (args : Array Value) (below : List Frame) (meth : Method) (c : Code) (Q : State → Prop) (g : ZG) (mi n0 z0 : Nat) (r : Option AV) (h' : XH) : Prop :=
  ∀ (i : Instr) (pc : Nat) (L S : List AV), decode (zzA mi).1.2.1 pc = .ok (i, 1) → zop mi i pc L S h' = some (.inr (.inr (r, h'))) → zK p l e R s m args below meth c Q g mi n0 z0 (pc, L, S, h')
end ZS
theorem zret_is {mi : Nat} {i : Instr} {pc : Nat} {L S : List AV} {h h' : XH} {r : Option AV} (hs : zop mi i pc L S h = some (.inr (.inr (r, h')))) : h' = h ∧
    ((i = .ireturn ∧ ∃ x, S = [zint x] ∧ r = some (zint x) ∧ ((zzA mi).1.2.2.2.1 = some .int ∨ ((zzA mi).1.2.2.2.1 = some .boolean ∧ (x = 0 ∨ x = 1)))) ∨
     (i = .lreturn ∧ ∃ x, S = [zlng x] ∧ r = some (zlng x) ∧ (zzA mi).1.2.2.2.1 = some .long) ∨
     (i = .areturn ∧ ∃ x, S = [zrf x] ∧ r = some (zrf x) ∧ ((zzA mi).1.2.2.2.1 = some (.object "LooseGrid$Box") ∨ (zzA mi).1.2.2.2.1 = some (.object "LooseGrid$Tape"))) ∨
     (i = .return_ ∧ S = [] ∧ r = none ∧ (zzA mi).1.2.2.2.1 = none)) := by
  cases hb : zbig i with
  | false =>
    obtain ⟨x', e1, -⟩ := zop_M hb _ hs
    cases e1
  | true =>
    cases i <;> first | (cases hb; done) | skip
    case invokevirtual x =>
      simp only [zop, zlk2] at hs
      cases hv : zzlu zzL (zzown mi) x with
      | none => rw [hv] at hs; cases hs
      | some v =>
        rw [hv] at hs
        simp only [zif] at hs
        by_cases hk : decide (v.1 = 0) = true
        · rw [if_pos hk] at hs
          obtain ⟨_, _, e1, -⟩ := zcall_some hs
          cases e1
        · rw [if_neg hk] at hs
          cases hs
    case invokespecial x =>
      simp only [zop, zlk2] at hs
      cases hv : zzlu zzL (zzown mi) x with
      | none => rw [hv] at hs; cases hs
      | some v =>
        rw [hv] at hs
        simp only [zif] at hs
        by_cases h5 : v.1 = 5
        · rw [if_pos h5] at hs
          have hm : zM h (zSA S fun b r => if (decide (0 ≤ b) && decide (zws r ≤ 8)) = true then zn (pc + 3) L r h else none) := zM_zSA fun b r => zM_if zM_n0
          obtain ⟨x', e1, -⟩ := hm _ hs
          cases e1
        · rw [if_neg h5] at hs
          by_cases hk : decide (v.1 = 2 ∨ v.1 = 4) = true
          · rw [if_pos hk] at hs
            obtain ⟨_, _, e1, -⟩ := zcall_some hs
            cases e1
          · rw [if_neg hk] at hs
            cases hs
    case invokestatic x =>
      simp only [zop, zlk2] at hs
      cases hv : zzlu zzL (zzown mi) x with
      | none => rw [hv] at hs; cases hs
      | some v =>
        rw [hv] at hs
        simp only [zif] at hs
        by_cases h6 : v.1 = 6
        · rw [if_pos h6] at hs
          obtain ⟨x', e1, -⟩ := zM_copy _ hs
          cases e1
        · rw [if_neg h6] at hs
          by_cases hk : decide (v.1 = 1 ∨ v.1 = 3) = true
          · rw [if_pos hk] at hs
            obtain ⟨_, _, e1, -⟩ := zcall_some hs
            cases e1
          · rw [if_neg hk] at hs
            cases hs
    case ireturn =>
      simp only [zop] at hs
      rcases S with _ | ⟨x | x, _ | ⟨y, r0⟩⟩ <;> simp only [zif] at hs <;> try (cases hs; done)
      by_cases hk : (decide ((zzA mi).1.2.2.2.1 = some .int) || (decide ((zzA mi).1.2.2.2.1 = some .boolean) && decide (x = 0 ∨ x = 1))) = true
      · rw [if_pos hk] at hs
        cases hs
        simp only [Bool.or_eq_true, Bool.and_eq_true, decide_eq_true_eq] at hk
        exact ⟨rfl, Or.inl ⟨rfl, x, rfl, rfl, hk⟩⟩
      · rw [if_neg hk] at hs
        cases hs
    case lreturn =>
      simp only [zop] at hs
      rcases S with _ | ⟨x | x | _ | x, _ | ⟨y, r0⟩⟩ <;> simp only [zif] at hs <;> try (cases hs; done)
      by_cases hk : decide ((zzA mi).1.2.2.2.1 = some .long) = true
      · rw [if_pos hk] at hs
        cases hs
        exact ⟨rfl, Or.inr (Or.inl ⟨rfl, x, rfl, rfl, of_decide_eq_true hk⟩)⟩
      · rw [if_neg hk] at hs
        cases hs
    case areturn =>
      simp only [zop] at hs
      rcases S with _ | ⟨x | x | _ | x, _ | ⟨y, r0⟩⟩ <;> simp only [zif] at hs <;> try (cases hs; done)
      by_cases hk : (decide ((zzA mi).1.2.2.2.1 = some (.object "LooseGrid$Box")) || decide ((zzA mi).1.2.2.2.1 = some (.object "LooseGrid$Tape"))) = true
      · rw [if_pos hk] at hs
        cases hs
        simp only [Bool.or_eq_true, decide_eq_true_eq] at hk
        exact ⟨rfl, Or.inr (Or.inr (Or.inl ⟨rfl, x, rfl, rfl, hk⟩))⟩
      · rw [if_neg hk] at hs
        cases hs
    case return_ =>
      simp only [zop] at hs
      rcases S with _ | ⟨x, r0⟩ <;> simp only [zif] at hs <;> try (cases hs; done)
      by_cases hk : decide ((zzA mi).1.2.2.2.1 = none) = true
      · rw [if_pos hk] at hs
        cases hs
        exact ⟨rfl, Or.inr (Or.inr (Or.inr ⟨rfl, rfl, rfl, of_decide_eq_true hk⟩))⟩
      · rw [if_neg hk] at hs
        cases hs
/-- a run of the abstract machine is one of the machine, wherever it stands -/
def zSim (d mi : Nat) (x : XC) (r : Option AV) (h' : XH) : Prop :=
  (xn x.2.2.2 ≤ xn h' ∧ xz x.2.2.2 ≤ xz h') ∧ ∀ (p : Program) (l : Launch) (e : Env) (R : Room) (s : State) (m : MethodId) (args : Array Value) (below : List Frame) (meth : Method) (c : Code) (Q : State → Prop) (g : ZG) (n0 z0 : Nat),
    zX p R s m args meth c g mi d → xn h' ≤ n0 + R.cells ∧ xz h' ≤ z0 + R.slots → zRet p l e R s m args below meth c Q g mi n0 z0 r h' → zK p l e R s m args below meth c Q g mi n0 z0 x
set_option maxHeartbeats 4000000 in
theorem zmet {d t : Nat} {as : List AV} {h h2 : XH} {v : Option AV} (hS : zSim d t (zent t as h) v h2) (l : Launch) (g : ZG) (hlaw : ¬ (zzA t).1.1 = yL_law) (hlay : (zlay as).length ≤ (zzA t).1.2.2.1) : Met l (zzA t).1.1 (zws0 t) (zRm d h h2) (va_Pc (as.map (zcv g)) (zE g h)) (zQ g v h2) (xn h2 - xn h) (xz h2 - xz h) (fun q => gB g ≤ q) := by
  obtain ⟨-, hG⟩ := zzA_ok t
  obtain ⟨g1, g2, g3, g4, g5, g6, g7, g8, g9⟩ := hG.resolve_left hlaw
  refine va_MetF (cc := (zzA t).1.2.1) (maxL := (zzA t).1.2.2.1) (ret := (zzA t).1.2.2.2.1) g7 rfl ?_
  intro p e s m args below meth c s₁ B hml hv
  obtain ⟨rfl, hH, hK, hN, hb, hX⟩ := hv
  have hts0 := atoms_spec (ws := zws0 t) B.pre
  have hown : s.vm.findClass (zzA t).1.1.cls = some m.cls := findClass_of_methodNamed B.named
  rw [g3] at hown
  have hx := B.exec
  have hbb := B.bytes
  have hr := B.returns
  have hlocks := B.notSynchronized
  have hX0 : zX p (zRm d h h2) s m (as.map (zcv g)).toArray meth c g t d := ⟨hx, hbb, hml, hown, fun w hw => hts0 w (List.mem_cons_of_mem _ hw), hK, hN, fun hn => (name_of_methodNamed B.named B.method).1.trans hn, by rw [hH.1]; exact Nat.le_add_right _ _, hb, hX, Nat.le_refl _, Nat.le_refl _⟩
  obtain ⟨⟨m1, m2⟩, hS⟩ := hS
  have m1 : xn h ≤ xn h2 := m1
  have m2 : xz h ≤ xz h2 := m2
  have key : zK p l e (zRm d h h2) s m (as.map (zcv g)).toArray below meth c (MQ below (zQ g v h2) (as.map (zcv g)).toArray s (xn h2 - xn h) (xz h2 - xz h) (fun q => gB g ≤ q)) g t (xn h) (xz h) (zent t as h) := by
    refine hS p l e (zRm d h h2) s m _ below meth c _ g (xn h) (xz h) hX0 ⟨by show xn h2 ≤ xn h + (xn h2 - xn h); omega, by show xz h2 ≤ xz h + (xz h2 - xz h); omega⟩ ?_
    intro i pc L S hd hs H ls locs cells slots hH2 hl hSS hc hz
    have hc : xn h + cells = xn h2 := hc
    have hz : xz h + slots = xz h2 := hz
    obtain rfl : cells = xn h2 - xn h := by omega
    obtain rfl : slots = xz h2 - xz h := by omega
    obtain ⟨-, ⟨rfl, x, rfl, rfl, hr2⟩ | ⟨rfl, x, rfl, rfl, hr2⟩ | ⟨rfl, x, rfl, rfl, hr2⟩ | ⟨rfl, rfl, rfl, hr2⟩⟩ := zret_is hs
    · rcases hr2 with hr2 | ⟨hr2, hr3⟩
      · rw [hr2] at hr
        exact W.iret hx hbb hr (fun T ht hW => ⟨rfl, by rw [ht]; exact hH2, hSS.F ht⟩) hSS.2.2 hd hlocks
      · rw [hr2] at hr
        exact W.zret (ty := .boolean) hx hbb hr (by rcases hr3 with rfl | rfl <;> decide) (fun T ht hW => ⟨rfl, by rw [ht]; exact hH2, hSS.F ht⟩) hSS.2.2 hd hlocks
    · rw [hr2] at hr
      exact W.lret hx hbb hr (fun T ht hW => ⟨rfl, by rw [ht]; exact hH2, hSS.F ht⟩) hSS.2.2 hd hlocks
    · obtain ⟨n, hr3⟩ : ∃ n, meth.sig.returnType = some (.object n) := by
        rcases hr2 with hr2 | hr2 <;> rw [hr2] at hr
        · exact ⟨_, hr⟩
        · exact ⟨_, hr⟩
      refine W.aret hx hbb hr3 (Or.inl ⟨n, rfl⟩) (zcr_or g x) (fun T ht hW => ⟨rfl, by rw [ht]; exact hH2, hSS.F ht⟩) hSS.2.2 hd hlocks
    · rw [hr2] at hr
      exact W.vret hx hbb hr (fun T ht hW => ⟨rfl, by rw [ht]; exact hH2, hSS.F ht⟩) hSS.2.2 hd hlocks
  rw [lg_entry_eq]
  exact key s.heap _ [] 0 0 hH (zL_ent hlay) va_S.rf rfl rfl
set_option maxHeartbeats 4000000 in
theorem zsim : ∀ (f d mi : Nat) (x : XC) (r : Option AV) (h' : XH), zexec f d mi x = some (r, h') → zSim d mi x r h'
  | 0, _, _, _, _, _, h => by simp [zexec] at h
  | f + 1, d, mi, x, r, h', h => by
    unfold zexec at h
    cases hst : zstep mi x with
    | none => rw [hst] at h; cases h
    | some y =>
      rw [hst] at h
      obtain ⟨i, len, hd, hlen, hs⟩ := zstep_some hst
      obtain ⟨pc, L, S, h0⟩ := x
      replace hd : decode (zzA mi).1.2.1 pc = .ok (i, len) := hd
      replace hs : zop mi i pc L S h0 = some y := hs
      -- it goes on by one instruction
      have goon : ∀ x' : XC, y = .inl x' → (xn h0 ≤ xn x'.2.2.2 ∧ xz h0 ≤ xz x'.2.2.2) → (∀ (p : Program) (l : Launch) (e : Env) (R : Room) (s : State) (m : MethodId) (args : Array Value) (below : List Frame) (meth : Method) (c : Code) (Q : State → Prop) (g : ZG) (n0 z0 : Nat), zX p R s m args meth c g mi d → xn x'.2.2.2 ≤ n0 + R.cells ∧ xz x'.2.2.2 ≤ z0 + R.slots → zK p l e R s m args below meth c Q g mi n0 z0 x' → zK p l e R s m args below meth c Q g mi n0 z0 (pc, L, S, h0)) → zSim d mi (pc, L, S, h0) r h' := by
        intro x' hy hm hk
        subst hy
        obtain ⟨i1, i2⟩ := zsim f d mi x' r h' h
        refine ⟨⟨Nat.le_trans hm.1 i1.1, Nat.le_trans hm.2 i1.2⟩, fun p l e R s m args below meth c Q g n0 z0 X hR hret => ?_⟩
        exact hk p l e R s m args below meth c Q g n0 z0 X ⟨Nat.le_trans i1.1 hR.1, Nat.le_trans i1.2 hR.2⟩ (i2 p l e R s m args below meth c Q g n0 z0 X hR hret)
      -- it calls
      have calls : ∀ (x kd t pl : Nat) (as r0 : List AV), zzlu zzL (zzown mi) x = some (kd, t, pl) → kd ≠ 5 → kd ≠ 6 → ((i = .invokevirtual x ∧ kd = 0) ∨ (i = .invokespecial x ∧ (kd = 2 ∨ kd = 4)) ∨ (i = .invokestatic x ∧ (kd = 1 ∨ kd = 3))) → y = .inr (.inl (t, as, pc + 3, L, r0, h0)) → zCl (kd, t, pl) S h0 as r0 → zSim d mi (pc, L, S, h0) r h' := by
        intro x kd t pl as r0 hv h5 h6 hi hy hC
        subst hy
        cases d with
        | zero => cases h
        | succ d =>
          dsimp only at h
          cases h1 : zexec f d t (zent t as h0) with
          | none => rw [h1] at h; cases h
          | some w =>
            rw [h1] at h
            obtain ⟨v, h2⟩ := w
            have hS1 := zsim f d t (zent t as h0) v h2 h1
            obtain ⟨i1, i2⟩ := zsim f (d + 1) mi (pc + 3, L, v.toList ++ r0, h2) r h' h
            have hm : xn h0 ≤ xn h2 ∧ xz h0 ≤ xz h2 := hS1.1
            have i1 : xn h2 ≤ xn h' ∧ xz h2 ≤ xz h' := i1
            refine ⟨⟨Nat.le_trans hm.1 i1.1, Nat.le_trans hm.2 i1.2⟩, fun p l e R s m args below meth c Q g n0 z0 X hR hret => ?_⟩
            have hl3 : len = 3 := by
              rcases hi with ⟨hi, -⟩ | ⟨hi, -⟩ | ⟨hi, -⟩ <;> (rw [hi] at hlen; rcases hlen with z | z <;> first | (cases z; done) | exact z.symm)
            rw [hl3] at hd
            have hlaw := (zzL_any hv h5 h6).2.1
            exact zo_call X hv rfl hi hd hC (zmet hS1 l g hlaw hC.2.1) hm ⟨Nat.le_trans i1.1 hR.1, Nat.le_trans i1.2 hR.2⟩ (i2 p l e R s m args below meth c Q g n0 z0 X hR hret)
      cases hb : zbig i with
      | false =>
        obtain ⟨x', e1, e2⟩ := zop_M hb _ hs
        subst e1
        exact goon x' rfl e2 (fun p l e R s m args below meth c Q g n0 z0 X hR k => zo_small X hd hlen hb hs hR k)
      | true =>
        rcases y with x' | ⟨t, as, pc', L', S', h0'⟩ | ⟨r', h1⟩
        · -- Object's constructor, the copy
          cases i <;> first | (cases hb; done) | skip
          case invokevirtual x =>
            simp only [zop, zlk2] at hs
            cases hv : zzlu zzL (zzown mi) x with
            | none => rw [hv] at hs; cases hs
            | some v =>
              rw [hv] at hs
              simp only [zif] at hs
              by_cases hk : decide (v.1 = 0) = true
              · rw [if_pos hk] at hs
                obtain ⟨_, _, e1, -⟩ := zcall_some hs
                cases e1
              · rw [if_neg hk] at hs
                cases hs
          case invokespecial x =>
            have hs0 := hs
            simp only [zop, zlk2] at hs
            cases hv : zzlu zzL (zzown mi) x with
            | none => rw [hv] at hs; cases hs
            | some v =>
              rw [hv] at hs
              obtain ⟨kd, t, pl⟩ := v
              simp only [zif] at hs
              by_cases h5 : kd = 5
              · subst h5
                simp only [if_true] at hs
                have hm : zM h0 (zSA S fun b r => if (decide (0 ≤ b) && decide (zws r ≤ 8)) = true then zn (pc + 3) L r h0 else none) := zM_zSA fun b r => zM_if zM_n0
                obtain ⟨x2, e1, e2⟩ := hm _ hs
                cases e1
                have hl3 : len = 3 := by
                  rcases hlen with z | z <;> first | (cases z; done) | exact z.symm
                rw [hl3] at hd
                exact goon x' rfl e2 (fun p l e R s m args below meth c Q g n0 z0 X hR k => zo_objinit X hd hv hs0 k)
              · rw [if_neg h5] at hs
                by_cases hk : decide (kd = 2 ∨ kd = 4) = true
                · rw [if_pos hk] at hs
                  obtain ⟨_, _, e1, -⟩ := zcall_some hs
                  cases e1
                · rw [if_neg hk] at hs
                  cases hs
          case invokestatic x =>
            have hs0 := hs
            simp only [zop, zlk2] at hs
            cases hv : zzlu zzL (zzown mi) x with
            | none => rw [hv] at hs; cases hs
            | some v =>
              rw [hv] at hs
              obtain ⟨kd, t, pl⟩ := v
              simp only [zif] at hs
              by_cases h6 : kd = 6
              · subst h6
                simp only [if_true] at hs
                obtain ⟨x2, e1, e2⟩ := zM_copy _ hs
                cases e1
                have hl3 : len = 3 := by
                  rcases hlen with z | z <;> first | (cases z; done) | exact z.symm
                rw [hl3] at hd
                exact goon x' rfl e2 (fun p l e R s m args below meth c Q g n0 z0 X hR k => zo_arraycopy X hd hv hs0 k)
              · rw [if_neg h6] at hs
                by_cases hk : decide (kd = 1 ∨ kd = 3) = true
                · rw [if_pos hk] at hs
                  obtain ⟨_, _, e1, -⟩ := zcall_some hs
                  cases e1
                · rw [if_neg hk] at hs
                  cases hs
          case ireturn =>
            simp only [zop] at hs
            rcases S with _ | ⟨x | x, _ | ⟨y, r0⟩⟩ <;> simp only [zif] at hs <;> first | (cases hs; done) | (split at hs <;> cases hs)
          case lreturn =>
            simp only [zop] at hs
            rcases S with _ | ⟨x | x | _ | x, _ | ⟨y, r0⟩⟩ <;> simp only [zif] at hs <;> first | (cases hs; done) | (split at hs <;> cases hs)
          case areturn =>
            simp only [zop] at hs
            rcases S with _ | ⟨x | x | _ | x, _ | ⟨y, r0⟩⟩ <;> simp only [zif] at hs <;> first | (cases hs; done) | (split at hs <;> cases hs)
          case return_ =>
            simp only [zop] at hs
            rcases S with _ | ⟨x, r0⟩ <;> simp only [zif] at hs <;> first | (cases hs; done) | (split at hs <;> cases hs)
        · -- a call
          cases i <;> first | (cases hb; done) | skip
          case invokevirtual x =>
            simp only [zop, zlk2] at hs
            cases hv : zzlu zzL (zzown mi) x with
            | none => rw [hv] at hs; cases hs
            | some v =>
              rw [hv] at hs
              obtain ⟨kd, t2, pl⟩ := v
              simp only [zif] at hs
              by_cases hk : decide (kd = 0) = true
              · rw [if_pos hk] at hs
                have hk := of_decide_eq_true hk
                obtain ⟨as2, r2, e1, e2⟩ := zcall_some hs
                exact calls x kd t2 pl as2 r2 hv (by omega) (by omega) (Or.inl ⟨rfl, hk⟩) e1 e2
              · rw [if_neg hk] at hs
                cases hs
          case invokespecial x =>
            simp only [zop, zlk2] at hs
            cases hv : zzlu zzL (zzown mi) x with
            | none => rw [hv] at hs; cases hs
            | some v =>
              rw [hv] at hs
              obtain ⟨kd, t2, pl⟩ := v
              simp only [zif] at hs
              by_cases h5 : kd = 5
              · subst h5
                simp only [if_true] at hs
                have hm : zM h0 (zSA S fun b r => if (decide (0 ≤ b) && decide (zws r ≤ 8)) = true then zn (pc + 3) L r h0 else none) := zM_zSA fun b r => zM_if zM_n0
                obtain ⟨x2, e1, e2⟩ := hm _ hs
                cases e1
              · rw [if_neg h5] at hs
                by_cases hk : decide (kd = 2 ∨ kd = 4) = true
                · rw [if_pos hk] at hs
                  have hk := of_decide_eq_true hk
                  obtain ⟨as2, r2, e1, e2⟩ := zcall_some hs
                  exact calls x kd t2 pl as2 r2 hv (by omega) (by omega) (Or.inr (Or.inl ⟨rfl, hk⟩)) e1 e2
                · rw [if_neg hk] at hs
                  cases hs
          case invokestatic x =>
            simp only [zop, zlk2] at hs
            cases hv : zzlu zzL (zzown mi) x with
            | none => rw [hv] at hs; cases hs
            | some v =>
              rw [hv] at hs
              obtain ⟨kd, t2, pl⟩ := v
              simp only [zif] at hs
              by_cases h6 : kd = 6
              · subst h6
                simp only [if_true] at hs
                obtain ⟨x2, e1, e2⟩ := zM_copy _ hs
                cases e1
              · rw [if_neg h6] at hs
                by_cases hk : decide (kd = 1 ∨ kd = 3) = true
                · rw [if_pos hk] at hs
                  have hk := of_decide_eq_true hk
                  obtain ⟨as2, r2, e1, e2⟩ := zcall_some hs
                  exact calls x kd t2 pl as2 r2 hv (by omega) (by omega) (Or.inr (Or.inr ⟨rfl, hk⟩)) e1 e2
                · rw [if_neg hk] at hs
                  cases hs
          case ireturn =>
            simp only [zop] at hs
            rcases S with _ | ⟨x | x, _ | ⟨y, r0⟩⟩ <;> simp only [zif] at hs <;> first | (cases hs; done) | (split at hs <;> cases hs)
          case lreturn =>
            simp only [zop] at hs
            rcases S with _ | ⟨x | x | _ | x, _ | ⟨y, r0⟩⟩ <;> simp only [zif] at hs <;> first | (cases hs; done) | (split at hs <;> cases hs)
          case areturn =>
            simp only [zop] at hs
            rcases S with _ | ⟨x | x | _ | x, _ | ⟨y, r0⟩⟩ <;> simp only [zif] at hs <;> first | (cases hs; done) | (split at hs <;> cases hs)
          case return_ =>
            simp only [zop] at hs
            rcases S with _ | ⟨x, r0⟩ <;> simp only [zif] at hs <;> first | (cases hs; done) | (split at hs <;> cases hs)
        · -- an answer
          have h : some (r', h1) = some (r, h') := h
          cases h
          obtain ⟨e1, e2⟩ := zret_is hs
          subst e1
          have hl1 : len = 1 := by
            rcases e2 with ⟨hi, -⟩ | ⟨hi, -⟩ | ⟨hi, -⟩ | ⟨hi, -⟩ <;> (rw [hi] at hlen; rcases hlen with z | z <;> first | (cases z; done) | exact z.symm)
          rw [hl1] at hd
          exact ⟨⟨Nat.le_refl _, Nat.le_refl _⟩, fun p l e R s m args below meth c Q g n0 z0 X hR hret => hret i pc L S hd hs⟩
