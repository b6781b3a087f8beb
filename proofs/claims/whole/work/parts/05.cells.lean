/-! the abstract machine's steps over cells -/
def zzTX (ci : Nat) : u_T := match ci with
  | 0 => TX0
  | 1 => TX1
  | 2 => TX2
  | 3 => TX3
  | 4 => TX4
  | 5 => TX5
  | _ => TX6
def zzty (ci : Nat) : Nat → FieldType := match ci with
  | 0 => tyX0
  | 1 => tyX1
  | 2 => tyX2
  | 3 => tyX3
  | 4 => tyX4
  | 5 => tyX5
  | _ => tyX6
def zztk (t : FieldType) : Nat := match t with
  | .object _ => 2
  | .array _ => 2
  | .boolean => 1
  | .int => 0
  | _ => 9
theorem zzty_ok : ∀ ci, ci < 7 → ∀ k, k < zznf ci → zztk (zzty ci k) = if zzref ci k = true then 2 else if zzbool ci k = true then 1 else 0 := by decide +kernel
theorem zzdef_ok : ∀ ci, ci < 7 → ∀ k, k < zznf ci → defaultValue (zzty ci k) = if zzref ci k = true then .null else .int 0 := by decide +kernel
/-- what the tables say of a class -/
def zcG (ci : Nat) (q : vw_C) : Prop := q.2.1 = zzTX ci ∧ q.2.2 = zznf ci ∧ (∀ w ∈ u_ws q.1 q.2.1 q.2.2, w ∈ zzWs) ∧ (∀ k, k < q.2.2 → parseFieldDescriptor (q.2.1 k).2.2.1 = some (zzty ci k)) ∧ (∀ a, a < q.2.2 → ∀ b, b < q.2.2 → a ≠ b → (q.2.1 a).2.1 ≠ (q.2.1 b).2.1) ∧ (∀ k, (q.2.1 k).2.2.2 = zzfin ci k) ∧ q.1 = zzR ci

theorem zcG_0 : zcG 0 (RX0, TX0, 9) := by
  refine ⟨rfl, rfl, fun w hw => List.mem_filter.mpr ⟨zz_lay0 w hw, ?_⟩, tyX0_ok, nmX0, fun _ => rfl, rfl⟩
  have h : (u_ws RX0 TX0 9).all goodWord = true := by decide +kernel
  exact List.all_eq_true.mp h w hw
theorem zcG_1 : zcG 1 (RX1, TX1, 6) := by
  refine ⟨rfl, rfl, fun w hw => List.mem_filter.mpr ⟨zz_lay1 w hw, ?_⟩, tyX1_ok, nmX1, fun _ => rfl, rfl⟩
  have h : (u_ws RX1 TX1 6).all goodWord = true := by decide +kernel
  exact List.all_eq_true.mp h w hw
theorem zcG_2 : zcG 2 (RX2, TX2, 3) := by
  refine ⟨rfl, rfl, fun w hw => List.mem_filter.mpr ⟨zz_lay2 w hw, ?_⟩, tyX2_ok, nmX2, fun _ => rfl, rfl⟩
  have h : (u_ws RX2 TX2 3).all goodWord = true := by decide +kernel
  exact List.all_eq_true.mp h w hw
theorem zcG_3 : zcG 3 (RX3, TX3, 3) := by
  refine ⟨rfl, rfl, fun w hw => List.mem_filter.mpr ⟨zz_lay3 w hw, ?_⟩, tyX3_ok, nmX3, fun _ => rfl, rfl⟩
  have h : (u_ws RX3 TX3 3).all goodWord = true := by decide +kernel
  exact List.all_eq_true.mp h w hw
theorem zcG_4 : zcG 4 (RX4, TX4, 8) := by
  refine ⟨rfl, rfl, fun w hw => List.mem_filter.mpr ⟨zz_lay4 w hw, ?_⟩, tyX4_ok, nmX4, fun _ => rfl, rfl⟩
  have h : (u_ws RX4 TX4 8).all goodWord = true := by decide +kernel
  exact List.all_eq_true.mp h w hw
theorem zcG_5 : zcG 5 (RX5, TX5, 6) := by
  refine ⟨rfl, rfl, fun w hw => List.mem_filter.mpr ⟨zz_lay5 w hw, ?_⟩, tyX5_ok, nmX5, fun _ => rfl, rfl⟩
  have h : (u_ws RX5 TX5 6).all goodWord = true := by decide +kernel
  exact List.all_eq_true.mp h w hw
theorem zcG_6 : zcG 6 (RX6, TX6, 18) := by
  refine ⟨rfl, rfl, fun w hw => List.mem_filter.mpr ⟨zz_lay6 w hw, ?_⟩, tyX6_ok, nmX6, fun _ => rfl, rfl⟩
  have h : (u_ws RX6 TX6 18).all goodWord = true := by decide +kernel
  exact List.all_eq_true.mp h w hw
theorem zcls {ci : Nat} {q : vw_C} (h : vwCl[ci]? = some q) : ci < 7 ∧ zcG ci q := by
  match ci, h with
  | 0, h => cases h; exact ⟨by omega, zcG_0⟩
  | 1, h => cases h; exact ⟨by omega, zcG_1⟩
  | 2, h => cases h; exact ⟨by omega, zcG_2⟩
  | 3, h => cases h; exact ⟨by omega, zcG_3⟩
  | 4, h => cases h; exact ⟨by omega, zcG_4⟩
  | 5, h => cases h; exact ⟨by omega, zcG_5⟩
  | 6, h => cases h; exact ⟨by omega, zcG_6⟩
  | k + 7, h => simp [vwCl] at h
theorem zcl_of {ci : Nat} (h : ci < 7) : ∃ q, vwCl[ci]? = some q := by
  have : ci < vwCl.length := h
  exact ⟨_, List.getElem?_eq_getElem this⟩
theorem zv_ref {ty : FieldType} (g : ZG) (y : Int) (h : zztk ty = 2) : narrow ty (zcr g y) = zcr g y ∧ fits ty (zcr g y) = true := by
  rcases zcr_or g y with e1 | ⟨a, e1⟩ <;> rw [e1] <;> cases ty <;> first | (simp [zztk] at h; done) | exact ⟨rfl, rfl⟩
theorem zv_int {ty : FieldType} (x : Int32) (h : zztk ty = 0) : narrow ty (.int x) = .int x ∧ fits ty (.int x) = true := by
  cases ty <;> first | (simp [zztk] at h; done) | exact ⟨rfl, rfl⟩
theorem zv_bool {ty : FieldType} {y : Int} (h : zztk ty = 1) (hy : y = 0 ∨ y = 1) : narrow ty (.int (Int32.ofInt y)) = .int (Int32.ofInt y) ∧ fits ty (.int (Int32.ofInt y)) = true := by
  cases ty <;> first | (simp [zztk] at h; done) | (rcases hy with rfl | rfl <;> exact ⟨by decide, by decide⟩)
theorem zup_self (f : Int → Int → Int) (o j v : Int) : up f o j v o j = v := by simp [up]
theorem zup_ne {f : Int → Int → Int} {o j v a i : Int} (h : ¬ (a = o ∧ i = j)) : up f o j v a i = f a i := by simp only [up]; rw [if_neg h]
theorem zat_kept {g : ZG} {h h' : XH} {k : Nat} {H H' : Heap} (ha : zat g h k H) (hk : xk h' k = xk h k) (hl : xl h' k = xl h k) (hq : H'[gB g + k]? = H[gB g + k]?) (hv : ∀ j, zfv g h' (xk h k) k j = zfv g h (xk h k) k j) : zat g h' k H' := by
  unfold zat at ha ⊢
  rw [hk, hl]
  rcases ha with ⟨h1, h2⟩ | ⟨h1, h2, h3⟩
  · exact Or.inl ⟨h1, (h2.kept hq).to (fun j _ => (hv j).symm)⟩
  · refine Or.inr ⟨h1, h2, ?_⟩
    rw [hq, h3, show zfv g h' (xk h k) k = zfv g h (xk h k) k from funext hv]
theorem zH_upd {g : ZG} {h h' : XH} {H H' : Heap} (hH : zH g h H) (h1 : xn h' = xn h) (hk : ∀ o : Nat, xk h' o = xk h o) (hl : ∀ o : Nat, xl h' o = xl h o) (hs : zscr g h') {a : Nat} (hat : zat g h' a H') (hz : H'.size = H.size) (ho : ∀ q, q ≠ gB g + a → H'[q]? = H[q]?) (hsame : ∀ k : Nat, k ≠ a → ∀ kd j : Nat, zfv g h' kd k j = zfv g h kd k j) : zH g h' H' := by
  refine ⟨by rw [hz, h1]; exact hH.1, by rw [h1]; exact hH.2.1, hs, fun k hkn => ?_⟩
  rw [h1] at hkn
  by_cases e1 : k = a
  · rw [e1]; exact hat
  · exact zat_kept (hH.2.2.2 k hkn) (hk k) (hl k) (ho _ (by omega)) (hsame k e1 _)
theorem zfv_xset_ne {g : ZG} {h : XH} {o i y : Int} {k : Nat} (hk : (k : Int) ≠ o) (kd j : Nat) : zfv g (xset h o i y) kd k j = zfv g h kd k j := by
  have e1 : ∀ j : Int, xs (xset h o i y) k j = xs h k j := fun j => zup_ne (fun q => hk q.1)
  unfold zfv
  rw [e1]
  rfl
theorem zfv_xref_ne {g : ZG} {h : XH} {o i y : Int} {k : Nat} (hk : (k : Int) ≠ o) (kd j : Nat) : zfv g (xref h o i y) kd k j = zfv g h kd k j := by
  have e1 : ∀ j : Int, xr (xref h o i y) k j = xr h k j := fun j => zup_ne (fun q => hk q.1)
  unfold zfv
  rw [e1]
  rfl
theorem zscr_xset {g : ZG} {h : XH} {o i y : Int} (hs : zscr g h) (ho : o ≠ zSC) : zscr g (xset h o i y) :=
  ⟨hs.1, hs.2.1, hs.2.2.1, fun j hj => by
    rw [show xs (xset h o i y) zSC j = xs h zSC j from zup_ne (fun q => ho q.1.symm)]
    exact hs.2.2.2 j hj⟩
theorem zscr_xref {g : ZG} {h : XH} {o i y : Int} (hs : zscr g h) : zscr g (xref h o i y) := hs
/-- an object, an array of a kind -/
theorem zobj {g : ZG} {h : XH} {H : Heap} {o : Int} {ci : Nat} (hH : zH g h H) (ho : zCb h o ci = true) (hc : ci < 7) : ∃ k : Nat, o = (k : Int) ∧ k < xn h ∧ k < 1000000 ∧ xk h k = ci ∧ t_OB (gB g + k) (gC g ci) (zznf ci) (gI g ci) H (zfv g h ci k) ∧ zcr g o = .ref (gB g + k) := by
  obtain ⟨h1, h2, h3⟩ := zCb_iff.mp ho
  obtain ⟨k, rfl⟩ : ∃ k : Nat, o = (k : Int) := ⟨o.toNat, by omega⟩
  have h4 : k < xn h := by omega
  have h5 := hH.2.1
  refine ⟨k, rfl, h4, by omega, h3, ?_, ?_⟩
  · have h6 := hH.2.2.2 k h4
    unfold zat at h6
    rw [h3] at h6
    rcases h6 with ⟨-, h7⟩ | ⟨h7, -⟩
    · exact h7
    · omega
  · rw [zcr_pos (by omega) (by omega)]
    simp
theorem zarr {g : ZG} {h : XH} {H : Heap} {o : Int} {ci : Nat} (hH : zH g h H) (ho : zCb h o ci = true) (hc : 7 ≤ ci) : ∃ k : Nat, o = (k : Int) ∧ k < xn h ∧ k < 1000000 ∧ xk h k = ci ∧ ci < 14 ∧ H[gB g + k]? = some (arrV (gA g ci) (xl h k).toNat (zfv g h ci k)) ∧ zcr g o = .ref (gB g + k) := by
  obtain ⟨h1, h2, h3⟩ := zCb_iff.mp ho
  obtain ⟨k, rfl⟩ : ∃ k : Nat, o = (k : Int) := ⟨o.toNat, by omega⟩
  have h4 : k < xn h := by omega
  have h5 := hH.2.1
  have h6 := hH.2.2.2 k h4
  unfold zat at h6
  rw [h3] at h6
  rcases h6 with ⟨h7, -⟩ | ⟨h7, h8, h9⟩
  · omega
  · refine ⟨k, rfl, h4, by omega, h3, h8, h9, ?_⟩
    rw [zcr_pos (by omega) (by omega)]
    simp
section ZO
variable {p : Program} {l : Launch} {e : Env} {R : Room} {s : State} {m : MethodId} {args : Array Value} {below : List Frame} {meth : Method} {c : Code} {Q : State → Prop}
variable {g : ZG} {mi d n0 z0 pc : Nat} {L S : List AV} {h : XH} {x' : XC}
theorem zo_getfield {q : Nat} (X : zX p R s m args meth c g mi d) (hd : decode (zzA mi).1.2.1 pc = .ok (.getfield q, 3)) (hs : zop mi (.getfield q) pc L S h = some (.inl x')) (k : zK p l e R s m args below meth c Q g mi n0 z0 x') : zK p l e R s m args below meth c Q g mi n0 z0 (pc, L, S, h) := by
  intro H ls locs cells slots hH hl hS hc hz
  have hH : zH g h H := hH
  have hl : zL g mi L ls := hl
  have hc : n0 + cells = xn h := hc
  have hz : z0 + slots = xz h := hz
  simp only [zop, zlk2] at hs
  cases hv : zzlu zzF (zzown mi) q with
  | none => rw [hv] at hs; cases hs
  | some v =>
    rw [hv] at hs
    obtain ⟨ci, f, pl⟩ := v
    rcases S with _ | ⟨y | y | _ | y, r⟩ <;> simp only [zSA, zif] at hs <;> try (cases hs; done)
    by_cases hr : zCb h y ci = true
    · rw [if_pos hr] at hs
      obtain ⟨q1, h1, h2, h3, h4⟩ := zzF_ok _ (zzlu_mem _ _ _ _ hv)
      obtain ⟨hci, e1, e2, e3, e4, e5, e6, e7⟩ := zcls h1
      obtain ⟨o, rfl, ho1, ho2, ho3, ⟨cell, c1, c2, c3, c4⟩, ho4⟩ := zobj hH hr hci
      obtain ⟨hS1, hfc, kC, hkC, hkind⟩ := X.2.2.2.2.2.1.1 ci _ h1
      obtain ⟨cf, kf, fi, fd, hi, hsl⟩ := hS1 f h2
      have hw := X.2.2.2.2.1 _ (zW_mem h4 rfl)
      simp only [List.map_cons, zcv]
      rw [ho4]
      refine W.getf X.1 X.2.1 X.2.2.2.1 hw (by rw [← h3]; exact hi) (u_facts hfc hkC (u_lays X.2.2.2.2.1 e3 h2) hi).1 c1 (by rw [c3]; exact fun z => by cases z) (v := zfv g h ci o f) (by rw [hsl]; exact c4 f (by rw [← e2]; exact h2)) rfl rfl hd ?_
      simp only [zn] at hs
      cases hs
      have h5 := k H ls locs cells slots hH hl hS hc hz
      simp only [List.map_cons] at h5
      have h6 : zcv g (if zzref ci f = true then zrf (xr h o f) else zint (xs h o f)) = zfv g h ci o f := by
        unfold zfv
        rw [if_pos hci]
        by_cases hz1 : zzref ci f = true
        · rw [if_pos hz1, if_pos hz1]; rfl
        · rw [if_neg hz1, if_neg hz1]; rfl
      rw [h6] at h5
      exact h5
    · rw [if_neg hr] at hs
      cases hs
theorem zput {q : Nat} {ci f pl : Nat} {y : Int} {v : AV} {r : List AV} {h' : XH} (X : zX p R s m args meth c g mi d) (hd : decode (zzA mi).1.2.1 pc = .ok (.putfield q, 3)) (hv : zzlu zzF (zzown mi) q = some (ci, f, pl)) (hr : zCb h y ci = true)
    (hfin : zzfin ci f = false ∨ (zzown mi = ci ∧ (zzA mi).1.1.name = "<init>")) (hty : narrow (zzty ci f) (zcv g v) = zcv g v ∧ fits (zzty ci f) (zcv g v) = true)
    (h1' : xn h' = xn h) (hz1' : xz h' = xz h) (hk' : ∀ o : Nat, xk h' o = xk h o) (hl' : ∀ o : Nat, xl h' o = xl h o) (hs' : ∀ g, zscr g h → y ≠ zSC → zscr g h') (hne : ∀ k : Nat, (k : Int) ≠ y → ∀ kd j : Nat, zfv g h' kd k j = zfv g h kd k j) (hself : ∀ j : Nat, zfv g h' ci y.toNat j = if j = f then zcv g v else zfv g h ci y.toNat j)
    (k : zK p l e R s m args below meth c Q g mi n0 z0 (pc + 3, L, r, h')) : zK p l e R s m args below meth c Q g mi n0 z0 (pc, L, v :: zrf y :: r, h) := by
  intro H ls locs cells slots hH hl hS hc hz
  have hH : zH g h H := hH
  have hl : zL g mi L ls := hl
  have hc : n0 + cells = xn h := hc
  have hz : z0 + slots = xz h := hz
  obtain ⟨q1, h1, h2, h3, h4⟩ := zzF_ok _ (zzlu_mem _ _ _ _ hv)
  obtain ⟨hci, e1, e2, e3, e4, e5, e6, e7⟩ := zcls h1
  obtain ⟨o, rfl, ho1, ho2, ho3, ⟨cell, c1, c2, c3, c4⟩, ho4⟩ := zobj hH hr hci
  have hKn := X.2.2.2.2.2.1.1 ci _ h1
  obtain ⟨hS1, hfc, kC, hkC, hkind⟩ := hKn
  obtain ⟨cf, kf, fi, fd, hi, hsl⟩ := hS1 f h2
  have hw := X.2.2.2.2.1 _ (zW_mem h4 rfl)
  have hf : f < zznf ci := by rw [← e2]; exact h2
  have hap : ∀ a b, a < zznf ci → b < zznf ci → a ≠ b → gI g ci a ≠ gI g ci b := by
    have := va_apart (own := q1.1) X.2.2.2.2.1 e3 (zzty ci) e4 e5 X.2.2.2.2.2.1 h1
    rw [e2] at this
    exact this
  have hst := (u_facts hfc hkC (u_lays X.2.2.2.2.1 e3 h2) hi).1
  have key : ∀ H' : Heap, H'[gB g + o]? = some (cell.setSlot (gI g ci f) (zcv g v)) → H'.size = H.size → (∀ q, q ≠ gB g + o → H'[q]? = H[q]?) → W p l e R s m args below meth c H' (locs ++ [⟨gB g + o, gI g ci f⟩]) cells slots Q (F0 m (pc + 3) ls (r.map (zcv g))) := by
    intro H' a1 a2 a3
    refine k H' ls _ cells slots (zH_upd hH h1' hk' hl' (hs' g hH.2.2.1 (by unfold zSC; omega)) (a := o) ?_ a2 a3 (fun k hk kd j => hne k (by omega) kd j)) hl (hS.put a2 a3 (by omega)) (by rw [h1']; exact hc) (by rw [hz1']; exact hz)
    unfold zat
    rw [hk', ho3]
    refine Or.inl ⟨hci, t_OB.to (V := updV (zfv g h ci o) f (zcv g v)) ⟨_, a1, c2, c3, t_set c4 hap hf _⟩ (fun j _ => ?_)⟩
    have := hself j
    rw [Int.toNat_natCast] at this
    rw [this]
    rfl
  simp only [List.map_cons, zcv, zrf]
  rw [ho4]
  by_cases hfi : zzfin ci f = true
  · have hlay := X.2.2.2.2.1 _ (e3 _ (u_in_lay h2))
    unfold u_lay at hlay
    rw [if_pos (by rw [e6]; exact hfi)] at hlay
    obtain ⟨ho5, ho6⟩ : zzown mi = ci ∧ (zzA mi).1.1.name = "<init>" := by
      rcases hfin with z | z
      · rw [hfi] at z; cases z
      · exact z
    have hcf : m.cls = cf := by
      obtain ⟨_, _, c', _, _, _, -, -, hf', -, -, -, hown2, -⟩ := Cond.laysFinal_spec hlay
      have e9 : c' = cf := by have := hi.symm.trans hf'; simp at this; exact this.1.symm
      rw [h3, e7, ← ho5] at hown2
      rw [← e9]
      exact Option.some.inj (X.2.2.2.1.symm.trans hown2)
    have h6 := u_fits hfc hkC hkind (Or.inr hlay) hi (e4 f h2) hty.1 hty.2
    refine W.putFinK X.1 X.2.1 X.2.2.2.1 hw (by rw [← h3]; exact hi) hst hcf (X.2.2.2.2.2.2.2.1 ho6) (by rw [c2]; exact h6) c1 c3 (by rw [hsl]; exact k2_hasslot (c4 f hf)) rfl rfl hd fun H' a1 a2 a3 => ?_
    rw [hsl] at a1 ⊢
    exact key H' a1 a2 a3
  · have hlay := X.2.2.2.2.1 _ (e3 _ (u_in_lay h2))
    unfold u_lay at hlay
    rw [if_neg (by rw [e6]; exact hfi)] at hlay
    have h6 := u_store hfc hkC hkind hlay hi (e4 f h2) hty.1 hty.2
    refine W.putK X.1 X.2.1 (f := fd) ⟨X.2.2.2.1, hw, ⟨_, _, _, by rw [← h3]; exact hi⟩, hst⟩ (by rw [c2]; exact h6) c1 c3 (by rw [hsl]; exact k2_hasslot (c4 f hf)) rfl rfl hd fun H' a1 a2 a3 => ?_
    rw [hsl] at a1 ⊢
    exact key H' a1 a2 a3
theorem zo_putfield {q : Nat} (X : zX p R s m args meth c g mi d) (hd : decode (zzA mi).1.2.1 pc = .ok (.putfield q, 3)) (hs : zop mi (.putfield q) pc L S h = some (.inl x')) (k : zK p l e R s m args below meth c Q g mi n0 z0 x') : zK p l e R s m args below meth c Q g mi n0 z0 (pc, L, S, h) := by
  simp only [zop, zlk2] at hs
  cases hv : zzlu zzF (zzown mi) q with
  | none => rw [hv] at hs; cases hs
  | some v =>
    rw [hv] at hs
    obtain ⟨ci, f, pl⟩ := v
    rcases S with _ | ⟨v, _ | ⟨y | y | _ | y, r⟩⟩ <;> simp only [zSvA, zif] at hs <;> try (cases hs; done)
    by_cases hr : (zCb h y ci && (!zzfin ci f || (decide (zzown mi = ci) && decide ((zzA mi).1.1.name = "<init>")))) = true
    · rw [if_pos hr] at hs
      simp only [Bool.and_eq_true, Bool.or_eq_true, Bool.not_eq_true', decide_eq_true_eq] at hr
      obtain ⟨q1, h1, h2, -, -⟩ := zzF_ok _ (zzlu_mem _ _ _ _ hv)
      obtain ⟨hci, -, e2, -⟩ := zcls h1
      have hf : f < zznf ci := by rw [← e2]; exact h2
      have ht := zzty_ok ci hci f hf
      have hy0 : 0 ≤ y := (zCb_iff.mp hr.1).1
      have hyn : ((y.toNat : Nat) : Int) = y := Int.toNat_of_nonneg hy0
      by_cases hf1 : zzref ci f = true
      · rw [if_pos hf1] at hs ht
        rcases v with v | v | _ | v <;> simp only [zvA, zn] at hs <;> try (cases hs; done)
        cases hs
        refine zput (v := zrf v) (h' := xref h y (f : Nat) v) X hd hv hr.1 hr.2 (zv_ref g v ht) rfl rfl (fun _ => rfl) (fun _ => rfl) (fun _ z _ => z) (fun k hk kd j => zfv_xref_ne hk kd j) (fun j => ?_) k
        unfold zfv
        rw [if_pos hci, if_pos hci]
        by_cases hj : j = f
        · subst hj
          rw [if_pos hf1, if_pos rfl, hyn]
          show zcr g (up _ y _ v y _) = _
          rw [zup_self]
          rfl
        · rw [if_neg hj]
          by_cases hj2 : zzref ci j = true
          · rw [if_pos hj2, if_pos hj2]
            exact congrArg (zcr g) (zup_ne (fun z => hj (by omega)))
          · rw [if_neg hj2, if_neg hj2]
            rfl
      · rw [if_neg hf1] at hs ht
        rcases v with v | v <;> simp only [zvI, zn] at hs <;> try (cases hs; done)
        by_cases hb : (!zzbool ci f || decide (v = 0 ∨ v = 1)) = true
        · rw [if_pos hb] at hs
          cases hs
          have hty : narrow (zzty ci f) (zcv g (zint v)) = zcv g (zint v) ∧ fits (zzty ci f) (zcv g (zint v)) = true := by
            by_cases hb2 : zzbool ci f = true
            · rw [if_pos hb2] at ht
              rw [hb2] at hb
              exact zv_bool ht (by simpa using hb)
            · rw [if_neg hb2] at ht
              exact zv_int _ ht
          refine zput (v := zint v) (h' := xset h y (f : Nat) v) X hd hv hr.1 hr.2 hty rfl rfl (fun _ => rfl) (fun _ => rfl) (fun _ z z2 => zscr_xset z z2) (fun k hk kd j => zfv_xset_ne hk kd j) (fun j => ?_) k
          unfold zfv
          rw [if_pos hci, if_pos hci]
          by_cases hj : j = f
          · subst hj
            rw [if_neg hf1, if_pos rfl, hyn]
            show Value.int (Int32.ofInt (up _ y _ v y _)) = _
            rw [zup_self]
            rfl
          · rw [if_neg hj]
            by_cases hj2 : zzref ci j = true
            · rw [if_pos hj2, if_pos hj2]
              rfl
            · rw [if_neg hj2, if_neg hj2]
              exact congrArg (fun z => Value.int (Int32.ofInt z)) (zup_ne (fun z => hj (by omega)))
        · rw [if_neg hb] at hs
          cases hs
    · rw [if_neg hr] at hs
      cases hs
theorem zin {i n : Int} (h1 : zrng i n = true) (h2 : zIb n = true) : ¬ (Int32.ofInt i < 0 ∨ n.toNat ≤ (Int32.ofInt i).toNatClampNeg) ∧ (Int32.ofInt i).toNatClampNeg = i.toNat ∧ i.toNat < n.toNat ∧ ((i.toNat : Nat) : Int) = i := by
  obtain ⟨a1, a2⟩ := zi_clamp h1 h2
  have a3 := zrng_iff.mp h1
  refine ⟨fun z => ?_, a2, by omega, by omega⟩
  rcases z with z | z
  · exact a1 z
  · rw [a2] at z; omega
theorem zatys (X : zX p R s m args meth c g mi d) {t : Nat} {q : ClassId × FieldType} (ht : (ztys g)[t]? = some q) : ArrOfT s q.1 q.2 := (X.2.2.2.2.2.1.2 t q ht).1
theorem zo_laload (X : zX p R s m args meth c g mi d) (hd : decode (zzA mi).1.2.1 pc = .ok (.laload, 1)) (hs : zop mi (.laload) pc L S h = some (.inl x')) (k : zK p l e R s m args below meth c Q g mi n0 z0 x') : zK p l e R s m args below meth c Q g mi n0 z0 (pc, L, S, h) := by
  intro H ls locs cells slots hH hl hS hc hz
  have hH : zH g h H := hH
  have hl : zL g mi L ls := hl
  have hc : n0 + cells = xn h := hc
  have hz : z0 + slots = xz h := hz
  simp only [zop] at hs
  rcases S with _ | ⟨i | i, _ | ⟨y | y | _ | y, r⟩⟩ <;> simp only [zSIA, zif] at hs <;> try (cases hs; done)
  by_cases hr : (zCb h y 8 && zrng i (xl h y) && zIb (xl h y)) = true
  · rw [if_pos hr] at hs
    simp only [Bool.and_eq_true] at hr
    obtain ⟨⟨hr1, hr2⟩, hr3⟩ := hr
    obtain ⟨o, rfl, ho1, ho2, ho3, -, ho5, ho6⟩ := zarr hH hr1 (by omega)
    obtain ⟨i1, i2, i3, i4⟩ := zin hr2 hr3
    simp only [List.map_cons, zcv]
    rw [ho6]
    refine W.lald X.1 X.2.1 ho5 (zatys X (t := 1) rfl _ _) (fun z => by cases z) (by rw [arrV_size]; exact i1) (v := zfv g h 8 o i.toNat) (by rw [i2]; exact arrV_read _ _ i3) rfl rfl hd ?_
    simp only [zn] at hs
    cases hs
    have h5 := k H ls locs cells slots hH hl hS hc hz
    simp only [List.map_cons] at h5
    have h6 : zcv g (zlng (xs h o i)) = zfv g h 8 o i.toNat := by
      unfold zfv
      rw [i4]
      rfl
    rw [h6] at h5
    exact h5
  · rw [if_neg hr] at hs
    cases hs
theorem zo_baload (X : zX p R s m args meth c g mi d) (hd : decode (zzA mi).1.2.1 pc = .ok (.baload, 1)) (hs : zop mi (.baload) pc L S h = some (.inl x')) (k : zK p l e R s m args below meth c Q g mi n0 z0 x') : zK p l e R s m args below meth c Q g mi n0 z0 (pc, L, S, h) := by
  intro H ls locs cells slots hH hl hS hc hz
  have hH : zH g h H := hH
  have hl : zL g mi L ls := hl
  have hc : n0 + cells = xn h := hc
  have hz : z0 + slots = xz h := hz
  simp only [zop] at hs
  rcases S with _ | ⟨i | i, _ | ⟨y | y | _ | y, r⟩⟩ <;> simp only [zSIA, zif] at hs <;> try (cases hs; done)
  by_cases hr : (zCb h y 9 && zrng i (xl h y) && zIb (xl h y)) = true
  · rw [if_pos hr] at hs
    simp only [Bool.and_eq_true] at hr
    obtain ⟨⟨hr1, hr2⟩, hr3⟩ := hr
    obtain ⟨o, rfl, ho1, ho2, ho3, -, ho5, ho6⟩ := zarr hH hr1 (by omega)
    obtain ⟨i1, i2, i3, i4⟩ := zin hr2 hr3
    simp only [List.map_cons, zcv]
    rw [ho6]
    refine W.bald X.1 X.2.1 ho5 (zatys X (t := 2) rfl _ _) (fun z => by cases z) (by rw [arrV_size]; exact i1) (v := zfv g h 9 o i.toNat) (by rw [i2]; exact arrV_read _ _ i3) rfl rfl hd ?_
    simp only [zn] at hs
    cases hs
    have h5 := k H ls locs cells slots hH hl hS hc hz
    simp only [List.map_cons] at h5
    have h6 : zcv g (zint (xs h o i)) = zfv g h 9 o i.toNat := by
      unfold zfv
      rw [i4]
      rfl
    rw [h6] at h5
    exact h5
  · rw [if_neg hr] at hs
    cases hs
theorem zo_iaload (X : zX p R s m args meth c g mi d) (hd : decode (zzA mi).1.2.1 pc = .ok (.iaload, 1)) (hs : zop mi (.iaload) pc L S h = some (.inl x')) (k : zK p l e R s m args below meth c Q g mi n0 z0 x') : zK p l e R s m args below meth c Q g mi n0 z0 (pc, L, S, h) := by
  intro H ls locs cells slots hH hl hS hc hz
  have hH : zH g h H := hH
  have hl : zL g mi L ls := hl
  have hc : n0 + cells = xn h := hc
  have hz : z0 + slots = xz h := hz
  simp only [zop] at hs
  rcases S with _ | ⟨i | i, _ | ⟨y | y | _ | y, r⟩⟩ <;> simp only [zSIA, zif] at hs <;> try (cases hs; done)
  by_cases hr : (zSb h y 7 && zrng i (xl h y) && zIb (xl h y)) = true
  · rw [if_pos hr] at hs
    simp only [Bool.and_eq_true] at hr
    obtain ⟨⟨hr1, hr2⟩, hr3⟩ := hr
    simp only [zn] at hs
    cases hs
    have h5 := k H ls locs cells slots hH hl hS hc hz
    simp only [List.map_cons] at h5
    obtain ⟨i1, i2, i3, i4⟩ := zin hr2 hr3
    by_cases hsc : y = zSC
    · subst hsc
      obtain ⟨z1, z2, z3, z4⟩ := hH.2.2.1
      obtain ⟨scr, b1, b2, b3, b4, b5⟩ := X.2.2.2.2.2.2.2.2.2.2.1
      have hb : gS g < s.heap.size := Nat.lt_of_lt_of_le X.2.2.2.2.2.2.2.2.2.1 X.2.2.2.2.2.2.2.2.1
      simp only [List.map_cons, zcv]
      rw [show zcr g zSC = .ref (gS g) from rfl]
      rw [z2] at i1 i3
      rw [Int.toNat_natCast] at i1 i3
      refine W.iald (v := .int (gX g i.toNat)) X.1 X.2.1 (by rw [hS.2.1 _ hb (Nat.not_le.mpr X.2.2.2.2.2.2.2.2.2.1)]; exact b1) b2 b3 (by rw [b4]; exact i1) (by rw [i2]; exact b5 _ i3) rfl rfl hd ?_
      have h6 : zcv g (zint (xs h zSC i)) = .int (gX g i.toNat) := by
        have := z4 i.toNat i3
        rw [i4] at this
        show Value.int (Int32.ofInt (xs h zSC i)) = _
        rw [this, Int32.ofInt_toInt]
      rw [h6] at h5
      exact h5
    · have hr4 : zCb h y 7 = true := by
        obtain ⟨a1, a2, a3⟩ := zSb_iff.mp hr1
        exact zCb_iff.mpr ⟨a1, a2.resolve_right hsc, a3⟩
      obtain ⟨o, rfl, ho1, ho2, ho3, -, ho5, ho6⟩ := zarr hH hr4 (by omega)
      simp only [List.map_cons, zcv]
      rw [ho6]
      refine W.iald X.1 X.2.1 ho5 (zatys X (t := 0) rfl _ _) (fun z => by cases z) (by rw [arrV_size]; exact i1) (v := zfv g h 7 o i.toNat) (by rw [i2]; exact arrV_read _ _ i3) rfl rfl hd ?_
      have h6 : zcv g (zint (xs h o i)) = zfv g h 7 o i.toNat := by
        unfold zfv
        rw [i4]
        rfl
      rw [h6] at h5
      exact h5
  · rw [if_neg hr] at hs
    cases hs
theorem zaal {kd t : Nat} {ty : FieldType} {i y : Int} {r : List AV} (X : zX p R s m args meth c g mi d) (hd : decode (zzA mi).1.2.1 pc = .ok (.aaload, 1)) (ht : (ztys g)[t]? = some (gA g kd, ty)) (hty : ty.isReference = true) (hk : 10 ≤ kd) (hr1 : zCb h y kd = true) (hr2 : zrng i (xl h y) = true) (hr3 : zIb (xl h y) = true)
    (k : zK p l e R s m args below meth c Q g mi n0 z0 (pc + 1, L, zrf (xr h y i) :: r, h)) : zK p l e R s m args below meth c Q g mi n0 z0 (pc, L, zint i :: zrf y :: r, h) := by
  intro H ls locs cells slots hH hl hS hc hz
  have hH : zH g h H := hH
  have hl : zL g mi L ls := hl
  have hc : n0 + cells = xn h := hc
  have hz : z0 + slots = xz h := hz
  obtain ⟨o, rfl, ho1, ho2, ho3, -, ho5, ho6⟩ := zarr hH hr1 (by omega)
  obtain ⟨i1, i2, i3, i4⟩ := zin hr2 hr3
  simp only [List.map_cons, zcv, zint, zrf]
  rw [ho6]
  refine W.aald X.1 X.2.1 ho5 (zatys X ht _ _) hty (fun z => by cases z) (by rw [arrV_size]; exact i1) (v := zfv g h kd o i.toNat) (by rw [i2]; exact arrV_read _ _ i3) rfl rfl hd ?_
  have h5 := k H ls locs cells slots hH hl hS hc hz
  simp only [List.map_cons] at h5
  have h6 : zcv g (zrf (xr h o i)) = zfv g h kd o i.toNat := by
    unfold zfv
    rw [i4, if_neg (by omega), if_neg (by omega), if_neg (by omega)]
    rfl
  rw [h6] at h5
  exact h5
theorem zo_aaload (X : zX p R s m args meth c g mi d) (hd : decode (zzA mi).1.2.1 pc = .ok (.aaload, 1)) (hs : zop mi (.aaload) pc L S h = some (.inl x')) (k : zK p l e R s m args below meth c Q g mi n0 z0 x') : zK p l e R s m args below meth c Q g mi n0 z0 (pc, L, S, h) := by
  simp only [zop] at hs
  rcases S with _ | ⟨i | i, _ | ⟨y | y | _ | y, r⟩⟩ <;> simp only [zSIA, zif] at hs <;> try (cases hs; done)
  by_cases hr : ((zCb h y 10 || zCb h y 11 || zCb h y 12 || zCb h y 13) && zrng i (xl h y) && zIb (xl h y)) = true
  · rw [if_pos hr] at hs
    simp only [Bool.and_eq_true, Bool.or_eq_true] at hr
    obtain ⟨⟨hr1, hr2⟩, hr3⟩ := hr
    simp only [zn] at hs
    cases hs
    rcases hr1 with ((hr1 | hr1) | hr1) | hr1
    · exact zaal (t := 3) X hd rfl rfl (by omega) hr1 hr2 hr3 k
    · exact zaal (t := 4) X hd rfl rfl (by omega) hr1 hr2 hr3 k
    · exact zaal (t := 5) X hd rfl rfl (by omega) hr1 hr2 hr3 k
    · exact zaal (t := 6) X hd rfl rfl (by omega) hr1 hr2 hr3 k
  · rw [if_neg hr] at hs
    cases hs
theorem zast {kd : Nat} {i : Int} {w : Value} {r : List AV} {h' : XH} {H H' : Heap} {ls : Array Slot} {locs : List Loc} {cells slots o : Nat} (hH : zH g h H) (hl : zL g mi L ls) (hS : va_S (fun q => gB g ≤ q) s.heap H locs) (hc : n0 + cells = xn h) (hz : z0 + slots = xz h) (hkd : 7 ≤ kd) (hk14 : kd < 14) (ho1 : o < xn h) (ho2 : o < 1000000) (ho3 : xk h o = kd) (i0 : 0 ≤ i)
    (h1' : xn h' = xn h) (hz1' : xz h' = xz h) (hk' : ∀ o : Nat, xk h' o = xk h o) (hl' : ∀ o : Nat, xl h' o = xl h o) (hs' : zscr g h') (hne : ∀ k : Nat, k ≠ o → ∀ kd j : Nat, zfv g h' kd k j = zfv g h kd k j) (hself : zfv g h' kd o = updV (zfv g h kd o) i.toNat w)
    (a1 : H'[gB g + o]? = some ((arrV (gA g kd) (xl h o).toNat (zfv g h kd o)).setSlot i.toNat w)) (a2 : H'.size = H.size) (a3 : ∀ q, q ≠ gB g + o → H'[q]? = H[q]?)
    (k : zK p l e R s m args below meth c Q g mi n0 z0 (pc, L, r, h')) : W p l e R s m args below meth c H' (locs ++ [⟨gB g + o, i.toNat⟩]) cells slots Q (F0 m pc ls (r.map (zcv g))) := by
  refine k H' ls _ cells slots (zH_upd hH h1' hk' hl' hs' (a := o) ?_ a2 a3 hne) hl (hS.put a2 a3 (by omega)) (by rw [h1']; exact hc) (by rw [hz1']; exact hz)
  unfold zat
  rw [hk', ho3, hl']
  refine Or.inr ⟨hkd, hk14, ?_⟩
  rw [a1, arrV_store, hself]
theorem zo_iastore (X : zX p R s m args meth c g mi d) (hd : decode (zzA mi).1.2.1 pc = .ok (.iastore, 1)) (hs : zop mi (.iastore) pc L S h = some (.inl x')) (k : zK p l e R s m args below meth c Q g mi n0 z0 x') : zK p l e R s m args below meth c Q g mi n0 z0 (pc, L, S, h) := by
  intro H ls locs cells slots hH hl hS hc hz
  have hH : zH g h H := hH
  have hl : zL g mi L ls := hl
  have hc : n0 + cells = xn h := hc
  have hz : z0 + slots = xz h := hz
  simp only [zop] at hs
  rcases S with _ | ⟨v, _ | ⟨i | i, _ | ⟨y | y | _ | y, r⟩⟩⟩ <;> simp only [zSvIA] at hs <;> try (cases hs; done)
  rcases v with v | v <;> simp only [zvI, zif] at hs <;> try (cases hs; done)
  by_cases hr : (zCb h y 7 && zrng i (xl h y) && zIb (xl h y)) = true
  · rw [if_pos hr] at hs
    simp only [Bool.and_eq_true] at hr
    obtain ⟨⟨hr1, hr2⟩, hr3⟩ := hr
    obtain ⟨o, rfl, ho1, ho2, ho3, -, ho5, ho6⟩ := zarr hH hr1 (by omega)
    obtain ⟨i1, i2, i3, i4⟩ := zin hr2 hr3
    simp only [List.map_cons, zcv]
    rw [ho6]
    simp only [zn] at hs
    cases hs
    refine W.iast X.1 X.2.1 ho5 (zatys X (t := 0) rfl _ _) (fun z => by cases z) (by rw [arrV_size]; exact i1) rfl rfl hd fun H' a1 a2 a3 => ?_
    rw [i2] at a1 ⊢
    refine zast (h := h) (h' := xset h o i v) (kd := 7) (i := i) (w := .int (Int32.ofInt v)) hH hl hS hc hz (by omega) (by omega) ho1 ho2 ho3 (by omega) rfl rfl (fun _ => rfl) (fun _ => rfl) (zscr_xset hH.2.2.1 (by unfold zSC; omega)) (fun k hk kd j => zfv_xset_ne (by omega) kd j) (funext fun j => ?_) a1 a2 a3 k
    unfold updV zfv
    by_cases hj : j = i.toNat
    · rw [if_pos hj]
      have e1 : xs (xset h o i v) o j = v := by
        show up _ _ _ _ _ _ = v
        rw [hj, i4, zup_self]
      rw [e1]
      rfl
    · rw [if_neg hj]
      have e1 : xs (xset h o i v) o j = xs h o j := zup_ne (fun z => hj (by omega))
      rw [e1]
      rfl
  · rw [if_neg hr] at hs
    cases hs
theorem zo_lastore (X : zX p R s m args meth c g mi d) (hd : decode (zzA mi).1.2.1 pc = .ok (.lastore, 1)) (hs : zop mi (.lastore) pc L S h = some (.inl x')) (k : zK p l e R s m args below meth c Q g mi n0 z0 x') : zK p l e R s m args below meth c Q g mi n0 z0 (pc, L, S, h) := by
  intro H ls locs cells slots hH hl hS hc hz
  have hH : zH g h H := hH
  have hl : zL g mi L ls := hl
  have hc : n0 + cells = xn h := hc
  have hz : z0 + slots = xz h := hz
  simp only [zop] at hs
  rcases S with _ | ⟨v, _ | ⟨i | i, _ | ⟨y | y | _ | y, r⟩⟩⟩ <;> simp only [zSvIA] at hs <;> try (cases hs; done)
  rcases v with v | v | _ | v <;> simp only [zvL, zif] at hs <;> try (cases hs; done)
  by_cases hr : (zCb h y 8 && zrng i (xl h y) && zIb (xl h y)) = true
  · rw [if_pos hr] at hs
    simp only [Bool.and_eq_true] at hr
    obtain ⟨⟨hr1, hr2⟩, hr3⟩ := hr
    obtain ⟨o, rfl, ho1, ho2, ho3, -, ho5, ho6⟩ := zarr hH hr1 (by omega)
    obtain ⟨i1, i2, i3, i4⟩ := zin hr2 hr3
    simp only [List.map_cons, zcv]
    rw [ho6]
    simp only [zn] at hs
    cases hs
    refine W.last X.1 X.2.1 ho5 (zatys X (t := 1) rfl _ _) (fun z => by cases z) (by rw [arrV_size]; exact i1) rfl rfl hd fun H' a1 a2 a3 => ?_
    rw [i2] at a1 ⊢
    refine zast (h := h) (h' := xset h o i v) (kd := 8) (i := i) (w := .long (Int64.ofInt v)) hH hl hS hc hz (by omega) (by omega) ho1 ho2 ho3 (by omega) rfl rfl (fun _ => rfl) (fun _ => rfl) (zscr_xset hH.2.2.1 (by unfold zSC; omega)) (fun k hk kd j => zfv_xset_ne (by omega) kd j) (funext fun j => ?_) a1 a2 a3 k
    unfold updV zfv
    by_cases hj : j = i.toNat
    · rw [if_pos hj]
      have e1 : xs (xset h o i v) o j = v := by
        show up _ _ _ _ _ _ = v
        rw [hj, i4, zup_self]
      rw [e1]
      rfl
    · rw [if_neg hj]
      have e1 : xs (xset h o i v) o j = xs h o j := zup_ne (fun z => hj (by omega))
      rw [e1]
      rfl
  · rw [if_neg hr] at hs
    cases hs
theorem zo_bastore (X : zX p R s m args meth c g mi d) (hd : decode (zzA mi).1.2.1 pc = .ok (.bastore, 1)) (hs : zop mi (.bastore) pc L S h = some (.inl x')) (k : zK p l e R s m args below meth c Q g mi n0 z0 x') : zK p l e R s m args below meth c Q g mi n0 z0 (pc, L, S, h) := by
  intro H ls locs cells slots hH hl hS hc hz
  have hH : zH g h H := hH
  have hl : zL g mi L ls := hl
  have hc : n0 + cells = xn h := hc
  have hz : z0 + slots = xz h := hz
  simp only [zop] at hs
  rcases S with _ | ⟨v, _ | ⟨i | i, _ | ⟨y | y | _ | y, r⟩⟩⟩ <;> simp only [zSvIA] at hs <;> try (cases hs; done)
  rcases v with v | v <;> simp only [zvI, zif] at hs <;> try (cases hs; done)
  by_cases hr : (zCb h y 9 && zrng i (xl h y) && zIb (xl h y) && zrng (v + 128) 256) = true
  · rw [if_pos hr] at hs
    simp only [Bool.and_eq_true] at hr
    obtain ⟨⟨⟨hr1, hr2⟩, hr3⟩, hr4⟩ := hr
    obtain ⟨o, rfl, ho1, ho2, ho3, -, ho5, ho6⟩ := zarr hH hr1 (by omega)
    obtain ⟨i1, i2, i3, i4⟩ := zin hr2 hr3
    simp only [List.map_cons, zcv]
    rw [ho6]
    have hnb : narrow .byte (.int (Int32.ofInt v)) = .int (Int32.ofInt v) := by
      have := zrng_iff.mp hr4
      show Value.int (Int32.ofInt v).toInt8.toInt32 = _
      congr 1
      rw [← Int32.toInt_inj, Int8.toInt_toInt32, Int32.toInt8_ofInt, Int8.toInt_ofInt_of_le (by omega) (by omega), Int32.toInt_ofInt_of_le (by omega) (by omega)]
    simp only [zn] at hs
    cases hs
    refine W.bast X.1 X.2.1 ho5 (zatys X (t := 2) rfl _ _) (fun z => by cases z) (by rw [arrV_size]; exact i1) rfl rfl hd fun H' a1 a2 a3 => ?_
    rw [i2] at a1 ⊢
    rw [hnb] at a1
    refine zast (h := h) (h' := xset h o i v) (kd := 9) (i := i) (w := .int (Int32.ofInt v)) hH hl hS hc hz (by omega) (by omega) ho1 ho2 ho3 (by omega) rfl rfl (fun _ => rfl) (fun _ => rfl) (zscr_xset hH.2.2.1 (by unfold zSC; omega)) (fun k hk kd j => zfv_xset_ne (by omega) kd j) (funext fun j => ?_) a1 a2 a3 k
    unfold updV zfv
    by_cases hj : j = i.toNat
    · rw [if_pos hj]
      have e1 : xs (xset h o i v) o j = v := by
        show up _ _ _ _ _ _ = v
        rw [hj, i4, zup_self]
      rw [e1]
      rfl
    · rw [if_neg hj]
      have e1 : xs (xset h o i v) o j = xs h o j := zup_ne (fun z => hj (by omega))
      rw [e1]
      rfl
  · rw [if_neg hr] at hs
    cases hs
theorem zaas {kd t cv : Nat} {C : String} {q : vw_C} {i y v : Int} {r : List AV} (X : zX p R s m args meth c g mi d) (hd : decode (zzA mi).1.2.1 pc = .ok (.aastore, 1)) (ht : (ztys g)[t]? = some (gA g kd, .object C)) (hk : 10 ≤ kd) (hq : vwCl[cv]? = some q) (hqC : q.1 = C) (hr1 : zCb h y kd = true) (hrv : zCb h v cv = true) (hr2 : zrng i (xl h y) = true) (hr3 : zIb (xl h y) = true)
    (k : zK p l e R s m args below meth c Q g mi n0 z0 (pc + 1, L, r, xref h y i v)) : zK p l e R s m args below meth c Q g mi n0 z0 (pc, L, zrf v :: zint i :: zrf y :: r, h) := by
  intro H ls locs cells slots hH hl hS hc hz
  have hH : zH g h H := hH
  have hl : zL g mi L ls := hl
  have hc : n0 + cells = xn h := hc
  have hz : z0 + slots = xz h := hz
  obtain ⟨o, rfl, ho1, ho2, ho3, ho4, ho5, ho6⟩ := zarr hH hr1 (by omega)
  obtain ⟨ov, rfl, hv1, hv2, hv3, ⟨cellV, w1, w2, w3, -⟩, hv6⟩ := zobj hH hrv (zcls hq).1
  obtain ⟨i1, i2, i3, i4⟩ := zin hr2 hr3
  simp only [List.map_cons, zcv, zint, zrf]
  rw [ho6, hv6]
  have hKn := X.2.2.2.2.2.1.1 cv _ hq
  obtain ⟨-, hcls⟩ := hKn
  rw [hqC] at hcls
  obtain ⟨-, kA, comp, k1, k2, k3, -⟩ := X.2.2.2.2.2.1.2 t _ ht
  have hcomp : comp = gC g cv := Option.some.inj (k3.symm.trans hcls.1)
  subst hcomp
  obtain ⟨kC, hkC, -⟩ := id hcls.2
  refine W.aast X.1 X.2.1 ho5 (fun q z => by cases z) (fun z => by cases z) k1 k2 rfl hkC ⟨fun z => i1 (Or.inl z), by rw [arrV_size, i2]; exact i3⟩ w1 (fun q z => by rw [w3] at z; cases z) (by rw [w2]; exact hkC) (by rw [w2]; exact va_assign hcls) rfl rfl hd fun H' a1 a2 a3 => ?_
  rw [i2] at a1 ⊢
  refine zast (h := h) (h' := xref h o i ov) (kd := kd) (i := i) (w := .ref (gB g + ov)) hH hl hS hc hz (by omega) ho4 ho1 ho2 ho3 (by omega) rfl rfl (fun _ => rfl) (fun _ => rfl) hH.2.2.1 (fun k hk kd j => zfv_xref_ne (by omega) kd j) (funext fun j => ?_) a1 a2 a3 k
  unfold updV zfv
  rw [if_neg (by omega), if_neg (by omega), if_neg (by omega)]
  by_cases hj : j = i.toNat
  · rw [if_pos hj]
    have e1 : xr (xref h o i ov) o j = ov := by
      show up _ _ _ _ _ _ = _
      rw [hj, i4, zup_self]
    rw [e1]
    exact hv6
  · rw [if_neg hj, if_neg (by omega), if_neg (by omega), if_neg (by omega)]
    have e1 : xr (xref h o i ov) o j = xr h o j := zup_ne (fun z => hj (by omega))
    rw [e1]
theorem zo_aastore (X : zX p R s m args meth c g mi d) (hd : decode (zzA mi).1.2.1 pc = .ok (.aastore, 1)) (hs : zop mi (.aastore) pc L S h = some (.inl x')) (k : zK p l e R s m args below meth c Q g mi n0 z0 x') : zK p l e R s m args below meth c Q g mi n0 z0 (pc, L, S, h) := by
  simp only [zop] at hs
  rcases S with _ | ⟨v, _ | ⟨i | i, _ | ⟨y | y | _ | y, r⟩⟩⟩ <;> simp only [zSvIA] at hs <;> try (cases hs; done)
  rcases v with v | v | _ | v <;> simp only [zvA, zif] at hs <;> try (cases hs; done)
  by_cases hr : (((zCb h y 10 && zCb h v 0) || (zCb h y 11 && zCb h v 3)) && zrng i (xl h y) && zIb (xl h y)) = true
  · rw [if_pos hr] at hs
    simp only [Bool.and_eq_true, Bool.or_eq_true] at hr
    obtain ⟨⟨hr1, hr2⟩, hr3⟩ := hr
    simp only [zn] at hs
    cases hs
    rcases hr1 with ⟨h1, h2⟩ | ⟨h1, h2⟩
    · exact zaas (t := 3) (q := (RX0, TX0, 9)) X hd rfl (by omega) rfl rfl h1 h2 hr2 hr3 k
    · exact zaas (t := 4) (q := (RX3, TX3, 3)) X hd rfl (by omega) rfl rfl h1 h2 hr2 hr3 k
  · rw [if_neg hr] at hs
    cases hs
theorem zo_arraylength (X : zX p R s m args meth c g mi d) (hd : decode (zzA mi).1.2.1 pc = .ok (.arraylength, 1)) (hs : zop mi (.arraylength) pc L S h = some (.inl x')) (k : zK p l e R s m args below meth c Q g mi n0 z0 x') : zK p l e R s m args below meth c Q g mi n0 z0 (pc, L, S, h) := by
  intro H ls locs cells slots hH hl hS hc hz
  have hH : zH g h H := hH
  have hl : zL g mi L ls := hl
  have hc : n0 + cells = xn h := hc
  have hz : z0 + slots = xz h := hz
  simp only [zop] at hs
  rcases S with _ | ⟨y | y | _ | y, r⟩ <;> simp only [zSA, zif] at hs <;> try (cases hs; done)
  by_cases hr : ((zSb h y 7 || zCb h y 8) && zIb (xl h y) && decide (0 ≤ xl h y)) = true
  · rw [if_pos hr] at hs
    simp only [Bool.and_eq_true, Bool.or_eq_true, decide_eq_true_eq] at hr
    obtain ⟨⟨hr1, hr3⟩, hr4⟩ := hr
    simp only [zn] at hs
    cases hs
    have h5 := k H ls locs cells slots hH hl hS hc hz
    simp only [List.map_cons, zcv, zint] at h5 ⊢
    by_cases hsc : y = zSC
    · subst hsc
      obtain ⟨z1, z2, z3, z4⟩ := hH.2.2.1
      obtain ⟨scr, b1, b2, b3, b4, b5⟩ := X.2.2.2.2.2.2.2.2.2.2.1
      have hb : gS g < s.heap.size := Nat.lt_of_lt_of_le X.2.2.2.2.2.2.2.2.2.1 X.2.2.2.2.2.2.2.2.1
      rw [show zcr g zSC = .ref (gS g) from rfl]
      refine W.alen (n := Int32.ofInt (xl h zSC)) X.1 X.2.1 (by rw [hS.2.1 _ hb (Nat.not_le.mpr X.2.2.2.2.2.2.2.2.2.1)]; exact b1) b2 ?_ rfl rfl hd h5
      rw [b4, z2]
      exact (Int32.ofInt_eq_ofNat).symm
    · have key : ∀ (kd t : Nat) (ty : FieldType), (ztys g)[t]? = some (gA g kd, ty) → 7 ≤ kd → zCb h y kd = true → 0 ≤ xl h y → W p l e R s m args below meth c H locs cells slots Q (F0 m pc ls (zcr g y :: r.map (zcv g))) := by
        intro kd t ty ht hkd hr4 hpos
        obtain ⟨o, rfl, ho1, ho2, ho3, -, ho5, ho6⟩ := zarr hH hr4 hkd
        rw [ho6]
        refine W.alen (n := Int32.ofInt (xl h o)) X.1 X.2.1 ho5 (zatys X ht _ _) ?_ rfl rfl hd h5
        rw [arrV_size]
        show Int32.ofNat (xl h o).toNat = _
        rw [← Int32.ofInt_eq_ofNat, Int.toNat_of_nonneg hpos]
      rcases hr1 with hr1 | hr1
      · have hr5 : zCb h y 7 = true := by
          obtain ⟨a1, a2, a3⟩ := zSb_iff.mp hr1
          exact zCb_iff.mpr ⟨a1, a2.resolve_right hsc, a3⟩
        exact key 7 0 .int rfl (by omega) hr5 hr4
      · exact key 8 1 .long rfl (by omega) hr1 hr4
  · rw [if_neg hr] at hs
    cases hs
end ZO
