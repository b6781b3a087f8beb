/-! the class LooseGrid: boxes out of the text -/
abbrev rwk (w : Int → Int) : Prop := (0 ≤ w 0 ∧ w 0 ≤ 3) ∧ (0 ≤ w 1 ∧ w 1 ≤ 1) ∧ (0 ≤ w 2 ∧ w 2 ≤ 127) ∧ (0 ≤ w 3 ∧ w 3 ≤ 127) ∧ (1 ≤ w 4 ∧ w 4 ≤ 32) ∧ (1 ≤ w 5 ∧ w 5 ≤ 32) ∧ (-9 ≤ w 6 ∧ w 6 ≤ 9) ∧ (-9 ≤ w 7 ∧ w 7 ≤ 9)
set_option maxRecDepth 8000 in
theorem k85 {tx : Int → Int} {ln : Int} {w w1 : Int → Int} {p p1 : Int} (hp : 0 ≤ p ∧ p ≤ ln) (hw : (0 ≤ w 0 ∧ w 0 ≤ 3) ∧ (0 ≤ w 1 ∧ w 1 ≤ 1) ∧ (0 ≤ w 2 ∧ w 2 ≤ 127) ∧ (0 ≤ w 3 ∧ w 3 ≤ 127) ∧ (1 ≤ w 4 ∧ w 4 ≤ 32) ∧ (1 ≤ w 5 ∧ w 5 ≤ 32)) (h : c85 tx ln w p = .inr (p1, w1)) : rwk w1 := by
  by_cases q : sg tx ln p = 62
  · have hl := sg_l (tx := tx) (ln := ln) (p := p) (by omega)
    rw [show c85 tx ln w p = bd (spd tx ln (p + 1)) (fun v p => bd (spd tx ln p) (fun v2 p => .inr (p, wup (wup w 6 v) 7 v2))) from if_pos q] at h
    obtain ⟨v, p2, f2, hv⟩ : ∃ v p2 f2, spd tx ln (p + 1) = (v, p2, f2) := ⟨_, _, _, rfl⟩
    have hb := spd_b (p := p + 1) (by omega) hv
    rw [hv] at h
    by_cases q1 : f2 < 0
    · rw [bd_y q1] at h
      obtain ⟨v3, p3, f3, hv3⟩ : ∃ v p3 f3, spd tx ln p2 = (v, p3, f3) := ⟨_, _, _, rfl⟩
      have hb3 := spd_b (p := p2) (by omega) hv3
      rw [hv3] at h
      by_cases q3 : f3 < 0
      · rw [bd_y q3] at h
        cases h
        simp (disch := omega) only [rwk, wup_o, wup_e]
        omega
      · rw [bd_n q3] at h
        cases h
    · rw [bd_n q1] at h
      cases h
  · rw [show c85 tx ln w p = .inr (p, wup (wup w 6 0) 7 0) from if_neg q] at h
    cases h
    simp (disch := omega) only [rwk, wup_o, wup_e]
    omega
set_option maxRecDepth 8000 in
theorem k74 {tx : Int → Int} {ln : Int} {w w1 : Int → Int} {p p1 : Int} (hp : 0 ≤ p ∧ p ≤ ln) (hw : (0 ≤ w 0 ∧ w 0 ≤ 3) ∧ (0 ≤ w 1 ∧ w 1 ≤ 1) ∧ (0 ≤ w 2 ∧ w 2 ≤ 127) ∧ (0 ≤ w 3 ∧ w 3 ≤ 127) ∧ (1 ≤ w 4 ∧ w 4 ≤ 32)) (h : c74 tx ln w p = .inr (p1, w1)) : rwk w1 := by
  unfold c74 at h
  obtain ⟨v, p2, f2, hv⟩ : ∃ v p2 f2, nmq tx ln 1 32 2 0 0 p = (v, p2, f2) := ⟨_, _, _, rfl⟩
  have hb := nmq_b (tx := tx) (ln := ln) (le := 1) (mo := 32) (by omega) (by omega) 2 0 0 p _ (Int.le_refl 0) (by omega) hp (by omega) hv
  dsimp only at hb
  rw [hv] at h
  by_cases q : f2 < 0
  · rw [bd_y q] at h
    refine k85 (by omega) ?_ h
    simp (disch := omega) only [wup_o, wup_e]
    omega
  · rw [bd_n q] at h
    cases h
set_option maxRecDepth 8000 in
theorem k68 {tx : Int → Int} {ln : Int} {w w1 : Int → Int} {p p1 : Int} (hp : 0 ≤ p ∧ p ≤ ln) (hw : (0 ≤ w 0 ∧ w 0 ≤ 3) ∧ (0 ≤ w 1 ∧ w 1 ≤ 1) ∧ (0 ≤ w 2 ∧ w 2 ≤ 127) ∧ (0 ≤ w 3 ∧ w 3 ≤ 127) ∧ (1 ≤ w 4 ∧ w 4 ≤ 32)) (h : c68 tx ln w p = .inr (p1, w1)) : rwk w1 := by
  unfold c68 at h
  by_cases q : sg tx ln p = 120
  · have hl := sg_l (tx := tx) (ln := ln) (p := p) (by omega)
    rw [show sgn tx ln 120 p = (0, p + 1, -1) from if_pos q, bd_y (by omega)] at h
    exact k74 (by omega) hw h
  · rw [show sgn tx ln 120 p = (0, p, p) from if_neg q, bd_n (by omega)] at h
    cases h
set_option maxRecDepth 8000 in
theorem k57 {tx : Int → Int} {ln : Int} {w w1 : Int → Int} {p p1 : Int} (hp : 0 ≤ p ∧ p ≤ ln) (hw : (0 ≤ w 0 ∧ w 0 ≤ 3) ∧ (0 ≤ w 1 ∧ w 1 ≤ 1) ∧ (0 ≤ w 2 ∧ w 2 ≤ 127) ∧ (0 ≤ w 3 ∧ w 3 ≤ 127)) (h : c57 tx ln w p = .inr (p1, w1)) : rwk w1 := by
  unfold c57 at h
  obtain ⟨v, p2, f2, hv⟩ : ∃ v p2 f2, nmq tx ln 1 32 2 0 0 p = (v, p2, f2) := ⟨_, _, _, rfl⟩
  have hb := nmq_b (tx := tx) (ln := ln) (le := 1) (mo := 32) (by omega) (by omega) 2 0 0 p _ (Int.le_refl 0) (by omega) hp (by omega) hv
  dsimp only at hb
  rw [hv] at h
  by_cases q : f2 < 0
  · rw [bd_y q] at h
    refine k68 (by omega) ?_ h
    simp (disch := omega) only [wup_o, wup_e]
    omega
  · rw [bd_n q] at h
    cases h
set_option maxRecDepth 8000 in
theorem k51 {tx : Int → Int} {ln : Int} {w w1 : Int → Int} {p p1 : Int} (hp : 0 ≤ p ∧ p ≤ ln) (hw : (0 ≤ w 0 ∧ w 0 ≤ 3) ∧ (0 ≤ w 1 ∧ w 1 ≤ 1) ∧ (0 ≤ w 2 ∧ w 2 ≤ 127) ∧ (0 ≤ w 3 ∧ w 3 ≤ 127)) (h : c51 tx ln w p = .inr (p1, w1)) : rwk w1 := by
  unfold c51 at h
  by_cases q : sg tx ln p = 58
  · have hl := sg_l (tx := tx) (ln := ln) (p := p) (by omega)
    rw [show sgn tx ln 58 p = (0, p + 1, -1) from if_pos q, bd_y (by omega)] at h
    exact k57 (by omega) hw h
  · rw [show sgn tx ln 58 p = (0, p, p) from if_neg q, bd_n (by omega)] at h
    cases h
set_option maxRecDepth 8000 in
theorem k40 {tx : Int → Int} {ln : Int} {w w1 : Int → Int} {p p1 : Int} (hp : 0 ≤ p ∧ p ≤ ln) (hw : (0 ≤ w 0 ∧ w 0 ≤ 3) ∧ (0 ≤ w 1 ∧ w 1 ≤ 1) ∧ (0 ≤ w 2 ∧ w 2 ≤ 127)) (h : c40 tx ln w p = .inr (p1, w1)) : rwk w1 := by
  unfold c40 at h
  obtain ⟨v, p2, f2, hv⟩ : ∃ v p2 f2, nmq tx ln 0 127 3 0 0 p = (v, p2, f2) := ⟨_, _, _, rfl⟩
  have hb := nmq_b (tx := tx) (ln := ln) (le := 0) (mo := 127) (by omega) (by omega) 3 0 0 p _ (Int.le_refl 0) (by omega) hp (by omega) hv
  dsimp only at hb
  rw [hv] at h
  by_cases q : f2 < 0
  · rw [bd_y q] at h
    refine k51 (by omega) ?_ h
    simp (disch := omega) only [wup_o, wup_e]
    omega
  · rw [bd_n q] at h
    cases h
set_option maxRecDepth 8000 in
theorem k34 {tx : Int → Int} {ln : Int} {w w1 : Int → Int} {p p1 : Int} (hp : 0 ≤ p ∧ p ≤ ln) (hw : (0 ≤ w 0 ∧ w 0 ≤ 3) ∧ (0 ≤ w 1 ∧ w 1 ≤ 1) ∧ (0 ≤ w 2 ∧ w 2 ≤ 127)) (h : c34 tx ln w p = .inr (p1, w1)) : rwk w1 := by
  unfold c34 at h
  by_cases q : sg tx ln p = 44
  · have hl := sg_l (tx := tx) (ln := ln) (p := p) (by omega)
    rw [show sgn tx ln 44 p = (0, p + 1, -1) from if_pos q, bd_y (by omega)] at h
    exact k40 (by omega) hw h
  · rw [show sgn tx ln 44 p = (0, p, p) from if_neg q, bd_n (by omega)] at h
    cases h
set_option maxRecDepth 8000 in
theorem k23 {tx : Int → Int} {ln : Int} {w w1 : Int → Int} {p p1 : Int} (hp : 0 ≤ p ∧ p ≤ ln) (hw : (0 ≤ w 0 ∧ w 0 ≤ 3) ∧ (0 ≤ w 1 ∧ w 1 ≤ 1)) (h : c23 tx ln w p = .inr (p1, w1)) : rwk w1 := by
  unfold c23 at h
  obtain ⟨v, p2, f2, hv⟩ : ∃ v p2 f2, nmq tx ln 0 127 3 0 0 p = (v, p2, f2) := ⟨_, _, _, rfl⟩
  have hb := nmq_b (tx := tx) (ln := ln) (le := 0) (mo := 127) (by omega) (by omega) 3 0 0 p _ (Int.le_refl 0) (by omega) hp (by omega) hv
  dsimp only at hb
  rw [hv] at h
  by_cases q : f2 < 0
  · rw [bd_y q] at h
    refine k34 (by omega) ?_ h
    simp (disch := omega) only [wup_o, wup_e]
    omega
  · rw [bd_n q] at h
    cases h
set_option maxRecDepth 8000 in
theorem k17 {tx : Int → Int} {ln : Int} {w w1 : Int → Int} {p p1 : Int} (hp : 0 ≤ p ∧ p ≤ ln) (hw : (0 ≤ w 0 ∧ w 0 ≤ 3) ∧ (0 ≤ w 1 ∧ w 1 ≤ 1)) (h : c17 tx ln w p = .inr (p1, w1)) : rwk w1 := by
  unfold c17 at h
  by_cases q : sg tx ln p = 44
  · have hl := sg_l (tx := tx) (ln := ln) (p := p) (by omega)
    rw [show sgn tx ln 44 p = (0, p + 1, -1) from if_pos q, bd_y (by omega)] at h
    exact k23 (by omega) hw h
  · rw [show sgn tx ln 44 p = (0, p, p) from if_neg q, bd_n (by omega)] at h
    cases h
set_option maxRecDepth 8000 in
theorem k7 {tx : Int → Int} {ln : Int} {w w1 : Int → Int} {p p1 : Int} (hp : 0 ≤ p ∧ p ≤ ln) (hw : (0 ≤ w 0 ∧ w 0 ≤ 3)) (h : c7 tx ln w p = .inr (p1, w1)) : rwk w1 := by
  unfold c7 at h
  obtain ⟨v, p2, f2, hv⟩ : ∃ v p2 f2, nmq tx ln 0 1 1 0 0 p = (v, p2, f2) := ⟨_, _, _, rfl⟩
  have hb := nmq_b (tx := tx) (ln := ln) (le := 0) (mo := 1) (by omega) (by omega) 1 0 0 p _ (Int.le_refl 0) (by omega) hp (by omega) hv
  dsimp only at hb
  rw [hv] at h
  by_cases q : f2 < 0
  · rw [bd_y q] at h
    refine k17 (by omega) ?_ h
    simp (disch := omega) only [wup_o, wup_e]
    omega
  · rw [bd_n q] at h
    cases h
set_option maxRecDepth 8000 in
theorem k0 {tx : Int → Int} {ln : Int} {w w1 : Int → Int} {p p1 : Int} (hp : 0 ≤ p ∧ p ≤ ln) (h : c0 tx ln w p = .inr (p1, w1)) : rwk w1 := by
  unfold c0 at h
  have kb := kv_b (sg tx ln p)
  by_cases q : 0 ≤ kv (sg tx ln p)
  · have hl := sg_l (tx := tx) (ln := ln) (p := p) (by omega)
    rw [show kdz tx ln p = (kv (sg tx ln p), p + 1, -1) from if_pos q, bd_y (by omega)] at h
    refine k7 (by omega) ?_ h
    simp (disch := omega) only [wup_o, wup_e]
    omega
  · rw [show kdz tx ln p = (0, p, p) from if_neg q, bd_n (by omega)] at h
    cases h
set_option maxRecDepth 8000 in
theorem c0_b {tx : Int → Int} {ln : Int} {w w1 : Int → Int} {p p1 : Int} {s2 : ZS} {oo : Int} (h : c0 tx ln w p = .inr (p1, w1)) (hr : res (c0 tx ln w p) ln s2 oo) : 0 ≤ p1 ∧ p1 ≤ ln := by
  rw [h] at hr
  exact hr.2.2.1
set_option maxRecDepth 8000 in
theorem kpg {tx : Int → Int} {ln : Int} (hc : ∀ w p p1 w1, (0 ≤ p ∧ p ≤ ln) → c0 tx ln w p = .inr (p1, w1) → 0 ≤ p1 ∧ p1 ≤ ln) : ∀ (j : Nat) (n p : Int) (W : Int → Int → Int) (m : Int) (W1 : Int → Int → Int), (0 ≤ p ∧ p ≤ ln) → (∀ i, 0 ≤ i ∧ i < n → rwk (W i)) → pgo tx ln j n p W = .inr (m, W1) → ∀ i, 0 ≤ i ∧ i < m → rwk (W1 i) := by
  intro j
  induction j with
  | zero => intro n p W m W1 _ _ h; cases h
  | succ j ih =>
    intro n p W m W1 hp hW h
    rw [pgo_s] at h
    cases hq : c0 tx ln (fun _ => 0) p with
    | inl f => rw [hq, bq_l] at h; cases h
    | inr pw =>
      obtain ⟨p1, w⟩ := pw
      have hk := k0 hp hq
      have hp1 := hc _ _ _ _ hp hq
      rw [hq, bq_r] at h
      have hW2 : ∀ i, 0 ≤ i ∧ i < n + 1 → rwk (wrw W n w i) := by
        intro i hi
        by_cases e : i = n
        · rw [e, wrw_e]; exact hk
        · rw [wrw_o e]; exact hW i (by omega)
      by_cases q : n + 1 < 8 ∧ sg tx ln p1 = 59
      · rw [if_pos q] at h
        have hl := sg_l (tx := tx) (ln := ln) (p := p1) (by omega)
        exact ih (n + 1) (p1 + 1) (wrw W n w) m W1 (by omega) hW2 h
      · rw [if_neg q] at h
        by_cases q2 : p1 < ln
        · rw [if_pos q2] at h; cases h
        · rw [if_neg q2] at h
          cases h
          exact hW2
/-! a box more -/
def nbf (w : Int → Int) (f : Int) : Int := if f = 8 then 1 else if f = 6 then (if w 0 = 0 then 0 else w 6) else if f = 7 then (if w 0 = 0 then 0 else w 7) else w f
set_option maxRecDepth 8000 in
theorem nbf_8 {w : Int → Int} : nbf w 8 = 1 := rfl
set_option maxRecDepth 8000 in
theorem nbf_6 {w : Int → Int} : nbf w 6 = if w 0 = 0 then 0 else w 6 := rfl
set_option maxRecDepth 8000 in
theorem nbf_7 {w : Int → Int} : nbf w 7 = if w 0 = 0 then 0 else w 7 := rfl
set_option maxRecDepth 8000 in
theorem nbf_o {w : Int → Int} {f : Int} (h : f ≠ 6 ∧ f ≠ 7 ∧ f ≠ 8) : nbf w f = w f := by unfold nbf; rw [if_neg h.2.2, if_neg h.1, if_neg h.2.1]
def zsp (w : Int → Int) : Int → Int := fun c => if c = 6 then 0 else if c = 7 then 0 else w c
set_option maxRecDepth 8000 in
theorem zsp_6 {w : Int → Int} : zsp w 6 = 0 := rfl
set_option maxRecDepth 8000 in
theorem zsp_7 {w : Int → Int} : zsp w 7 = 0 := rfl
set_option maxRecDepth 8000 in
theorem zsp_o {w : Int → Int} {c : Int} (h : c ≠ 6 ∧ c ≠ 7) : zsp w c = w c := by unfold zsp; rw [if_neg h.1, if_neg h.2]
set_option maxRecDepth 8000 in
theorem nbz_6 {w : Int → Int} : nbf (zsp w) 6 = 0 := by
  rw [nbf_6, zsp_6]
  split <;> rfl
set_option maxRecDepth 8000 in
theorem nbz_7 {w : Int → Int} : nbf (zsp w) 7 = 0 := by
  rw [nbf_7, zsp_7]
  split <;> rfl
set_option maxRecDepth 8000 in
theorem nbz_o {w : Int → Int} {c : Int} (h : c ≠ 6 ∧ c ≠ 7 ∧ c ≠ 8) : nbf (zsp w) c = w c := by rw [nbf_o h, zsp_o ⟨h.1, h.2.1⟩]
def nbv (B : ZS) (N : Int) (w : Int → Int) : ZS := fun i f => if i = N then nbf w f else B i f
set_option maxRecDepth 8000 in
theorem nbv_y {B : ZS} {N f : Int} {w : Int → Int} : nbv B N w N f = nbf w f := if_pos rfl
set_option maxRecDepth 8000 in
theorem nbv_n {B : ZS} {N i f : Int} {w : Int → Int} (h : i ≠ N) : nbv B N w i f = B i f := if_neg h
abbrev okr (w : Int → Int) (N : Int) : Prop := (w 2 ≤ 128 - w 4 ∧ w 3 ≤ 128 - w 5) ∧ N < 40
def adl (W : Int → Int → Int) : Nat → Int → ZS → Int → ZS × Int
  | 0, _, B, N => (B, N)
  | j + 1, i, B, N => if okr (W i) N then adl W j (i + 1) (nbv B N (W i)) (N + 1) else adl W j (i + 1) B N
set_option maxRecDepth 8000 in
theorem adl_y {W : Int → Int → Int} {j : Nat} {i N : Int} {B : ZS} (h : okr (W i) N) : adl W (j + 1) i B N = adl W j (i + 1) (nbv B N (W i)) (N + 1) := if_pos h
set_option maxRecDepth 8000 in
theorem adl_n {W : Int → Int → Int} {j : Nat} {i N : Int} {B : ZS} (h : ¬okr (W i) N) : adl W (j + 1) i B N = adl W j (i + 1) B N := if_neg h
set_option maxRecDepth 8000 in
theorem adl_b (W : Int → Int → Int) : ∀ (j : Nat) (i N : Int) (B : ZS), (0 ≤ N ∧ N ≤ 40) → N ≤ (adl W j i B N).2 ∧ (adl W j i B N).2 ≤ 40 := by
  intro j
  induction j with
  | zero => intro i N B h; show N ≤ N ∧ N ≤ 40; omega
  | succ j ih =>
    intro i N B h
    by_cases q : okr (W i) N
    · rw [adl_y q]
      have := ih (i + 1) (N + 1) (nbv B N (W i)) (by omega)
      omega
    · rw [adl_n q]
      exact ih (i + 1) N B h
set_option maxRecDepth 8000 in
theorem OKB_b {B : ZS} {N : Int} {w : Int → Int} (hb : OKB B N) (hw : rwk w) (h : okr w N) : OKB (nbv B N w) (N + 1) := by
  intro i hi
  by_cases e : i = N
  · subst e
    have h6 : -9 ≤ nbf w 6 ∧ nbf w 6 ≤ 9 := by
      rw [nbf_6]
      split <;> omega
    have h7 : -9 ≤ nbf w 7 ∧ nbf w 7 ≤ 9 := by
      rw [nbf_7]
      split <;> omega
    simp (disch := omega) only [okb, nbv_y, nbf_8, nbf_o]
    omega
  · have b := hb i (by omega)
    simp (disch := omega) only [okb, nbv_n]
    exact b
set_option maxRecDepth 8000 in
theorem OKB_a (W : Int → Int → Int) : ∀ (j : Nat) (i N : Int) (B : ZS), (∀ m, i ≤ m ∧ m < i + j → rwk (W m)) → OKB B N → OKB (adl W j i B N).1 (adl W j i B N).2 := by
  intro j
  induction j with
  | zero => intro i N B _ h; exact h
  | succ j ih =>
    intro i N B hW h
    by_cases q : okr (W i) N
    · rw [adl_y q]
      exact ih (i + 1) (N + 1) _ (fun m hm => hW m (by omega)) (OKB_b h (hW i (by omega)) q)
    · rw [adl_n q]
      exact ih (i + 1) N B (fun m hm => hW m (by omega)) h
/-! what a new box changes -/
def fny (s s2 : ZS) (W : Int) : Prop := ∀ a c, (a < W + 2 ∨ W + 42 ≤ a) → (a ≠ W ∨ c ≠ 5) → s2 a c = s a c
set_option maxRecDepth 8000 in
theorem fny_t {s s2 s3 : ZS} {W : Int} (h1 : fny s s2 W) (h2 : fny s2 s3 W) : fny s s3 W := fun a c h h' => by rw [h2 a c h h', h1 a c h h']
set_option maxRecDepth 8000 in
theorem bcm_f {s : ZS} {o k l x y w h f : Int} (hf : 0 ≤ f ∧ f < 9) : bcm s o k l x y w h o f = (if f = 0 then k else if f = 1 then l else if f = 2 then x else if f = 3 then y else if f = 4 then w else if f = 5 then h else if f = 8 then 1 else 0) := by
  rcases (show f = 0 ∨ f = 1 ∨ f = 2 ∨ f = 3 ∨ f = 4 ∨ f = 5 ∨ f = 6 ∨ f = 7 ∨ f = 8 by omega) with rfl | rfl | rfl | rfl | rfl | rfl | rfl | rfl | rfl
  · exact bcm_0
  · exact bcm_1
  · exact bcm_2
  · exact bcm_3
  · exact bcm_4
  · exact bcm_5
  · exact bcm_6
  · exact bcm_7
  · exact bcm_8
-- the cells after box: a new box at N, VX and VY 0
set_option maxRecDepth 8000 in
theorem CV_n {s : ZS} {W : Int} {B : ZS} {N R T : Int} {w : Int → Int} (hv : CV s W B N R T) (hN : 0 ≤ N ∧ N < 40) (C : ZS) (hC : ∀ f, 0 ≤ f ∧ f < 9 → C N f = (if f = 0 then w 0 else if f = 1 then w 1 else if f = 2 then w 2 else if f = 3 then w 3 else if f = 4 then w 4 else if f = 5 then w 5 else if f = 8 then 1 else 0)) (hC2 : ∀ i f, i ≠ N → C i f = B i f) : CV (bcm (up s W 5 (N + 1)) (W + 2 + N) (w 0) (w 1) (w 2) (w 3) (w 4) (w 5)) W C (N + 1) R T := by
  obtain ⟨v1, v2, v3, vB⟩ := hv
  refine ⟨?_, ?_, ?_, ?_⟩
  · rw [bcm_ne (by omega), up_eq]
  · rw [bcm_ne (by omega), up_ne (by omega)]; exact v2
  · rw [bcm_ne (by omega), up_ne (by omega)]; exact v3
  · intro i f h
    by_cases e : i = N
    · subst e
      rw [bcm_f h.2, hC f h.2]
    · rw [bcm_ne (by omega), up_ne (by omega), hC2 i f e]
      exact vB i f (by omega)
set_option maxRecDepth 8000 in
theorem s69_n {d : Nat} {Q : Option AV → XH → Prop} {G : XS} {s : ZS} {W U V : Int} {B : ZS} {N R T : Int} {i : Int} {w : Int → Int} (hd : 7 ≤ d) (hg : LOK G W U V) (hv : CV s W B N R T) (hb : OKB B N) (hn : 0 ≤ N ∧ N ≤ 40 ∧ 0 ≤ R ∧ R ≤ 10 ∧ 0 ≤ T ∧ T ≤ 20000) (rw0 : ∀ c, 0 ≤ c ∧ c < 8 → s (151 + i) c = w c) (hi : 0 ≤ i ∧ i < 8) (hw8 : rwk w) (q : ¬okr w N) : Call d 69 [zrf 0, zrf (151 + i)] (G, s) Q = Q none (G, s) := by
  have hg' := hg
  obtain ⟨g1, g2, g3, g4, g5, g6, hw, hu, hx, g7, g8, g9, g10, g11, g12⟩ := hg'
  have hw' := hw
  obtain ⟨w1, w2, w3, w4, w5, w6, w7, w8, w9, w10, w11, w12, w13, w14, w15, w16, w17, w18, w19, w20, w21, w22, w23, w24, w25⟩ := hw'
  have hv' := hv
  obtain ⟨v1, v2, v3, vB⟩ := hv'
  have g7' := g7
  obtain ⟨r1, r2, r3, r4, r5, r6, r7, r8, r9, r10⟩ := g7'
  have kr := r9 i hi
  have lr := r10 i hi
  by_cases q2 : w 2 ≤ 128 - w 4 ∧ w 3 ≤ 128 - w 5
  · have e := fun Q => s62_f (d := d - 1) (Q := Q) (k := w 0) (l := w 1) (x := w 2) (y := w 3) (w := w 4) (hh := w 5) (show 5 ≤ d - 1 by omega) hg hv hb hn (by omega) (by omega) (by omega) (by omega) (by omega) (by omega) (by omega) (by omega) (by omega) (by omega)
    rw [e69 (show 1 ≤ d by omega)]
    simp (disch := first | omega | exact rfl) only [↓u69_0, ↓u69_1, ↓u69_2, ↓u69_3, ↓u69_4, ↓u69_5, ↓u69_6, ↓u69_7, ↓u69_8, ↓u69_9, ↓u69_10, ↓u69_11, ↓u69_12, ↓u69_13, ↓u69_14, ↓u69_15, ↓u69_16, ↓u69_17, ↓u69_18, ↓u69_19, ↓u69_22, ↓u69_23, ↓u69_24, ↓u69_27, ↓u69_28, ↓u69_29, ↓u69_30, ↓u69_32, ↓u69_33, ↓u69_34, ↓u69_36, ↓u69_37, ↓u69_40, ↓u69_41, ↓lI_0, ↓lI_s, ↓lL_0, ↓lL_s, ↓lR_0, ↓lR_s, ↓sT_0, ↓sT_i, ↓sT_r, ↓sT_u, ↓sT_lu, ↓sU_0, ↓sU_i, ↓sU_r, ↓sU_u, ↓ite_bx, bx_T, bx_F, bx_pos, bx_neg, zws_i, zws_r, zws_l, zws_n, zCb_kc, xl_ll, xr_rr, xs_e, xset_e, Option.toList, List.cons_append, List.nil_append, zIb_e, zrng_e, nz_e, if_pos, if_neg, and_true, true_and, or_true, true_or, ite_self, bi_eq0, bi_eq1, bi_1, bi_0, bi_ir, bi_T, bi_F, up_eq, up_ne, ↓reduceIte, reduceIte, Nat.reduceAdd, Nat.reduceLeDiff, Nat.le_refl, Nat.zero_le, not_true_eq_false, not_false_eq_true, ne_eq, Int.reduceEq, Int.reduceLT, Int.reduceLE, Int.reduceAdd, Int.reduceSub, Int.reduceMul, Int.reduceNeg, pT g1, pT kr, lr, zSb_e kr, rw0, e]
  · have e := fun Q => s62_p (d := d - 1) (Q := Q) (k := w 0) (l := w 1) (x := w 2) (y := w 3) (w := w 4) (hh := w 5) (show 5 ≤ d - 1 by omega) hg hv hb hn (by omega) (by omega) (by omega) (by omega) (by omega) (by omega) (by omega) (by omega) (by omega)
    rw [e69 (show 1 ≤ d by omega)]
    simp (disch := first | omega | exact rfl) only [↓u69_0, ↓u69_1, ↓u69_2, ↓u69_3, ↓u69_4, ↓u69_5, ↓u69_6, ↓u69_7, ↓u69_8, ↓u69_9, ↓u69_10, ↓u69_11, ↓u69_12, ↓u69_13, ↓u69_14, ↓u69_15, ↓u69_16, ↓u69_17, ↓u69_18, ↓u69_19, ↓u69_22, ↓u69_23, ↓u69_24, ↓u69_27, ↓u69_28, ↓u69_29, ↓u69_30, ↓u69_32, ↓u69_33, ↓u69_34, ↓u69_36, ↓u69_37, ↓u69_40, ↓u69_41, ↓lI_0, ↓lI_s, ↓lL_0, ↓lL_s, ↓lR_0, ↓lR_s, ↓sT_0, ↓sT_i, ↓sT_r, ↓sT_u, ↓sT_lu, ↓sU_0, ↓sU_i, ↓sU_r, ↓sU_u, ↓ite_bx, bx_T, bx_F, bx_pos, bx_neg, zws_i, zws_r, zws_l, zws_n, zCb_kc, xl_ll, xr_rr, xs_e, xset_e, Option.toList, List.cons_append, List.nil_append, zIb_e, zrng_e, nz_e, if_pos, if_neg, and_true, true_and, or_true, true_or, ite_self, bi_eq0, bi_eq1, bi_1, bi_0, bi_ir, bi_T, bi_F, up_eq, up_ne, ↓reduceIte, reduceIte, Nat.reduceAdd, Nat.reduceLeDiff, Nat.le_refl, Nat.zero_le, not_true_eq_false, not_false_eq_true, ne_eq, Int.reduceEq, Int.reduceLT, Int.reduceLE, Int.reduceAdd, Int.reduceSub, Int.reduceMul, Int.reduceNeg, pT g1, pT kr, lr, zSb_e kr, rw0, e]
set_option maxRecDepth 8000 in
theorem s69_y {d : Nat} {G : XS} {s : ZS} {W U V : Int} {B : ZS} {N R T : Int} {i : Int} {w : Int → Int} (hd : 7 ≤ d) (hg : LOK G W U V) (hv : CV s W B N R T) (hb : OKB B N) (hn : 0 ≤ N ∧ N ≤ 40 ∧ 0 ≤ R ∧ R ≤ 10 ∧ 0 ≤ T ∧ T ≤ 20000) (rw0 : ∀ c, 0 ≤ c ∧ c < 8 → s (151 + i) c = w c) (hi : 0 ≤ i ∧ i < 8) (hw8 : rwk w) (q : okr w N) : ∃ s2, fny s s2 W ∧ CV s2 W (nbv B N w) (N + 1) R T ∧ ∀ Q, Call d 69 [zrf 0, zrf (151 + i)] (G, s) Q = Q none (G, s2) := by
  have hg' := hg
  obtain ⟨g1, g2, g3, g4, g5, g6, hw, hu, hx, g7, g8, g9, g10, g11, g12⟩ := hg'
  have hw' := hw
  obtain ⟨w1, w2, w3, w4, w5, w6, w7, w8, w9, w10, w11, w12, w13, w14, w15, w16, w17, w18, w19, w20, w21, w22, w23, w24, w25⟩ := hw'
  have hv' := hv
  obtain ⟨v1, v2, v3, vB⟩ := hv'
  have g7' := g7
  obtain ⟨r1, r2, r3, r4, r5, r6, r7, r8, r9, r10⟩ := g7'
  have kr := r9 i hi
  have lr := r10 i hi
  have e := fun Q => s62_y (d := d - 1) (Q := Q) (k := w 0) (l := w 1) (x := w 2) (y := w 3) (w := w 4) (hh := w 5) (show 5 ≤ d - 1 by omega) hg hv hb hn (by omega) (by omega) (by omega) (by omega) (by omega) (by omega) (by omega) (by omega) (by omega) (by omega)
  have hv0 := CV_n (w := w) hv (by omega) (nbv B N (zsp w)) (fun f hf => by
    rw [nbv_y]
    rcases (show f = 0 ∨ f = 1 ∨ f = 2 ∨ f = 3 ∨ f = 4 ∨ f = 5 ∨ f = 6 ∨ f = 7 ∨ f = 8 by omega) with rfl | rfl | rfl | rfl | rfl | rfl | rfl | rfl | rfl
    · rw [nbz_o (by omega)]; rfl
    · rw [nbz_o (by omega)]; rfl
    · rw [nbz_o (by omega)]; rfl
    · rw [nbz_o (by omega)]; rfl
    · rw [nbz_o (by omega)]; rfl
    · rw [nbz_o (by omega)]; rfl
    · rw [nbz_6]; rfl
    · rw [nbz_7]; rfl
    · rw [nbf_8]; rfl) (fun i f h => nbv_n h)
  have f0 : fny s (bcm (up s W 5 (N + 1)) (W + 2 + N) (w 0) (w 1) (w 2) (w 3) (w 4) (w 5)) W := fun a c h h' => by rw [bcm_ne (by omega), up_ne (by omega)]
  have hb0 := OKB_b (w := zsp w) hb (by simp (disch := omega) only [rwk, zsp_6, zsp_7, zsp_o]; omega) (by simp (disch := omega) only [okr, zsp_o]; exact q)
  have hn0 : 0 ≤ N + 1 ∧ N + 1 ≤ 40 ∧ 0 ≤ R ∧ R ≤ 10 ∧ 0 ≤ T ∧ T ≤ 20000 := by omega
  have rw1 : ∀ c, 0 ≤ c ∧ c < 8 → bcm (up s W 5 (N + 1)) (W + 2 + N) (w 0) (w 1) (w 2) (w 3) (w 4) (w 5) (151 + i) c = w c := fun c hc => by rw [bcm_ne (by omega), up_ne (by omega)]; exact rw0 c hc
  have hr0 : hr (nbv B N (zsp w)) (N + 1) N := ⟨by omega, by rw [nbv_y, nbf_8]⟩
  have k0 : nbv B N (zsp w) N 0 = w 0 := by rw [nbv_y, nbz_o (by omega)]
  generalize hst : bcm (up s W 5 (N + 1)) (W + 2 + N) (w 0) (w 1) (w 2) (w 3) (w 4) (w 5) = st at e hv0 f0 rw1
  by_cases q3 : w 0 = 0
  · have e2 := fun Q => s63_s (d := d - 1) (Q := Q) (b := N) (x := w 6) (y := w 7) (show 5 ≤ d - 1 by omega) hg hv0 hb0 hn0 hr0 (by omega) (by omega) (by omega) (by rw [k0]; exact q3)
    refine ⟨st, f0, ?_, fun Q => ?_⟩
    · obtain ⟨a1, a2, a3, aB⟩ := hv0
      refine ⟨a1, a2, a3, fun m f h => ?_⟩
      rw [aB m f h]
      by_cases z : m = N
      · subst z
        rw [nbv_y, nbv_y]
        by_cases z6 : f = 6
        · rw [z6, nbz_6, nbf_6, if_pos q3]
        · by_cases z7 : f = 7
          · rw [z7, nbz_7, nbf_7, if_pos q3]
          · by_cases z8 : f = 8
            · rw [z8]; rfl
            · rw [nbz_o ⟨z6, z7, z8⟩, nbf_o ⟨z6, z7, z8⟩]
      · rw [nbv_n z, nbv_n z]
    · rw [e69 (show 1 ≤ d by omega)]
      simp (disch := first | omega | exact rfl) only [↓u69_0, ↓u69_1, ↓u69_2, ↓u69_3, ↓u69_4, ↓u69_5, ↓u69_6, ↓u69_7, ↓u69_8, ↓u69_9, ↓u69_10, ↓u69_11, ↓u69_12, ↓u69_13, ↓u69_14, ↓u69_15, ↓u69_16, ↓u69_17, ↓u69_18, ↓u69_19, ↓u69_22, ↓u69_23, ↓u69_24, ↓u69_27, ↓u69_28, ↓u69_29, ↓u69_30, ↓u69_32, ↓u69_33, ↓u69_34, ↓u69_36, ↓u69_37, ↓u69_40, ↓u69_41, ↓lI_0, ↓lI_s, ↓lL_0, ↓lL_s, ↓lR_0, ↓lR_s, ↓sT_0, ↓sT_i, ↓sT_r, ↓sT_u, ↓sT_lu, ↓sU_0, ↓sU_i, ↓sU_r, ↓sU_u, ↓ite_bx, bx_T, bx_F, bx_pos, bx_neg, zws_i, zws_r, zws_l, zws_n, zCb_kc, xl_ll, xr_rr, xs_e, xset_e, Option.toList, List.cons_append, List.nil_append, zIb_e, zrng_e, nz_e, if_pos, if_neg, and_true, true_and, or_true, true_or, ite_self, bi_eq0, bi_eq1, bi_1, bi_0, bi_ir, bi_T, bi_F, up_eq, up_ne, ↓reduceIte, reduceIte, Nat.reduceAdd, Nat.reduceLeDiff, Nat.le_refl, Nat.zero_le, not_true_eq_false, not_false_eq_true, ne_eq, Int.reduceEq, Int.reduceLT, Int.reduceLE, Int.reduceAdd, Int.reduceSub, Int.reduceMul, Int.reduceNeg, pT g1, pT kr, lr, zSb_e kr, rw0, rw1, e, e2]
  · have e2 := fun Q => s63_y (d := d - 1) (Q := Q) (b := N) (x := w 6) (y := w 7) (show 5 ≤ d - 1 by omega) hg hv0 hb0 hn0 hr0 (by omega) (by omega) (by omega) (by rw [k0]; exact q3)
    refine ⟨up (up st (W + 2 + N) 6 (w 6)) (W + 2 + N) 7 (w 7), fny_t f0 (fun a c h h' => by rw [up_ne (by omega), up_ne (by omega)]), ?_, fun Q => ?_⟩
    · obtain ⟨a1, a2, a3, aB⟩ := CV_u (f := 7) (v := w 7) (CV_u (f := 6) (v := w 6) hv0 hr0.1) hr0.1
      refine ⟨a1, a2, a3, fun m f h => ?_⟩
      rw [aB m f h]
      by_cases z : m = N
      · subst z
        by_cases z7 : f = 7
        · rw [z7, up_eq, nbv_y, nbf_7, if_neg q3]
        · rw [up_ne (Or.inr z7)]
          by_cases z6 : f = 6
          · rw [z6, up_eq, nbv_y, nbf_6, if_neg q3]
          · rw [up_ne (Or.inr z6), nbv_y, nbv_y]
            by_cases z8 : f = 8
            · rw [z8]; rfl
            · rw [nbz_o ⟨z6, z7, z8⟩, nbf_o ⟨z6, z7, z8⟩]
      · rw [up_ne (Or.inl z), up_ne (Or.inl z), nbv_n z, nbv_n z]
    · rw [e69 (show 1 ≤ d by omega)]
      simp (disch := first | omega | exact rfl) only [↓u69_0, ↓u69_1, ↓u69_2, ↓u69_3, ↓u69_4, ↓u69_5, ↓u69_6, ↓u69_7, ↓u69_8, ↓u69_9, ↓u69_10, ↓u69_11, ↓u69_12, ↓u69_13, ↓u69_14, ↓u69_15, ↓u69_16, ↓u69_17, ↓u69_18, ↓u69_19, ↓u69_22, ↓u69_23, ↓u69_24, ↓u69_27, ↓u69_28, ↓u69_29, ↓u69_30, ↓u69_32, ↓u69_33, ↓u69_34, ↓u69_36, ↓u69_37, ↓u69_40, ↓u69_41, ↓lI_0, ↓lI_s, ↓lL_0, ↓lL_s, ↓lR_0, ↓lR_s, ↓sT_0, ↓sT_i, ↓sT_r, ↓sT_u, ↓sT_lu, ↓sU_0, ↓sU_i, ↓sU_r, ↓sU_u, ↓ite_bx, bx_T, bx_F, bx_pos, bx_neg, zws_i, zws_r, zws_l, zws_n, zCb_kc, xl_ll, xr_rr, xs_e, xset_e, Option.toList, List.cons_append, List.nil_append, zIb_e, zrng_e, nz_e, if_pos, if_neg, and_true, true_and, or_true, true_or, ite_self, bi_eq0, bi_eq1, bi_1, bi_0, bi_ir, bi_T, bi_F, up_eq, up_ne, ↓reduceIte, reduceIte, Nat.reduceAdd, Nat.reduceLeDiff, Nat.le_refl, Nat.zero_le, not_true_eq_false, not_false_eq_true, ne_eq, Int.reduceEq, Int.reduceLT, Int.reduceLE, Int.reduceAdd, Int.reduceSub, Int.reduceMul, Int.reduceNeg, pT g1, pT kr, lr, zSb_e kr, rw0, rw1, e, e2]
/-! all clauses come -/
def fbo (s s2 : ZS) (W : Int) : Prop := ∀ a c, (a < W + 2 ∨ W + 42 ≤ a) → (a ≠ W ∨ c ≠ 5) → (a ≠ 148 ∨ (c ≠ 2 ∧ c ≠ 3 ∧ c ≠ 4 ∧ c ≠ 5)) → (a < 151 ∨ 158 < a) → s2 a c = s a c
set_option maxRecDepth 8000 in
theorem l68 {d : Nat} {G : XS} {W U V R T n f z : Int} {Wr : Int → Int → Int} (hd : 8 ≤ d) (hg : LOK G W U V) (hR : 0 ≤ R ∧ R ≤ 10 ∧ 0 ≤ T ∧ T ≤ 20000) (hn8 : 0 ≤ n ∧ n ≤ 8) (hWr : ∀ m, 0 ≤ m ∧ m < n → rwk (Wr m)) : ∀ (j : Nat) (i N : Int) (B s : ZS), i + j = n → 0 ≤ i → (0 ≤ N ∧ N ≤ 40) → CV s W B N R T → OKB B N → s 148 3 = n → (∀ m c, (0 ≤ m ∧ m < n) ∧ 0 ≤ c ∧ c < 8 → s (151 + m) c = Wr m c) → ∃ s2, fny s s2 W ∧ CV s2 W (adl Wr j i B N).1 (adl Wr j i B N).2 R T ∧ ∀ Q, Wp (d - 1) 68 (35, [zrf 0, zint f, zint z, zint i], [], (G, s)) Q = Wp (d - 1) 68 (71, [zrf 0, zint f, zint z, zint n], [], (G, s2)) Q := by
  obtain ⟨g1, g2, g3, g4, g5, g6, hw, hu, hx, g7, g8, g9, g10, g11, g12⟩ := id hg
  obtain ⟨r1, r2, r3, r4, r5, r6, r7, r8, r9, r10⟩ := id g7
  intro j
  induction j with
  | zero =>
    intro i N B s h1 h2 hN hv hb n3 hrw
    refine ⟨s, fun a c _ _ => rfl, hv, fun Q => ?_⟩
    rw [show i = n by omega, u68_35]
    simp (disch := first | omega | exact rfl) only [↓u68_0, ↓u68_1, ↓u68_4, ↓u68_7, ↓u68_8, ↓u68_9, ↓u68_12, ↓u68_13, ↓u68_16, ↓u68_17, ↓u68_20, ↓u68_22, ↓u68_23, ↓u68_24, ↓u68_25, ↓u68_26, ↓u68_29, ↓u68_32, ↓u68_33, ↓u68_34, ↓u68_36, ↓u68_37, ↓u68_40, ↓u68_43, ↓u68_46, ↓u68_47, ↓u68_49, ↓u68_52, ↓u68_53, ↓u68_54, ↓u68_57, ↓u68_60, ↓u68_61, ↓u68_62, ↓u68_65, ↓u68_68, ↓u68_72, ↓u68_75, ↓u68_78, ↓u68_79, ↓u68_80, ↓lI_0, ↓lI_s, ↓lL_0, ↓lL_s, ↓lR_0, ↓lR_s, ↓sT_0, ↓sT_i, ↓sT_r, ↓sT_u, ↓sT_lu, ↓sU_0, ↓sU_i, ↓sU_r, ↓sU_u, ↓ite_bx, bx_T, bx_F, bx_pos, bx_neg, zws_i, zws_r, zws_l, zws_n, zCb_kc, xl_ll, xr_rr, xs_e, xset_e, Option.toList, List.cons_append, List.nil_append, zIb_e, zrng_e, nz_e, if_pos, if_neg, and_true, true_and, or_true, true_or, ite_self, bi_eq0, bi_eq1, bi_1, bi_0, bi_ir, bi_T, bi_F, up_eq, up_ne, ↓reduceIte, reduceIte, Nat.reduceAdd, Nat.reduceLeDiff, Nat.le_refl, Nat.zero_le, not_true_eq_false, not_false_eq_true, ne_eq, Int.reduceEq, Int.reduceLT, Int.reduceLE, Int.reduceAdd, Int.reduceSub, Int.reduceMul, Int.reduceNeg, pT g1, g2, g5, pT hw.1, pT r1, r5, pT r6, r7, r8, n3]
  | succ j ih =>
    intro i N B s h1 h2 hN hv hb n3 hrw
    have hwi := hWr i (by omega)
    have rwi : ∀ c, 0 ≤ c ∧ c < 8 → s (151 + i) c = Wr i c := fun c hc => hrw i c (by omega)
    have hn : 0 ≤ N ∧ N ≤ 40 ∧ 0 ≤ R ∧ R ≤ 10 ∧ 0 ≤ T ∧ T ≤ 20000 := by omega
    by_cases q : okr (Wr i) N
    · obtain ⟨s3, f3, v3, e3⟩ := s69_y (d := d - 1) (show 7 ≤ d - 1 by omega) hg hv hb hn rwi (by omega) hwi q
      obtain ⟨s2, f2, v2, e2⟩ := ih (i + 1) (N + 1) (nbv B N (Wr i)) s3 (by omega) (by omega) (by omega) v3 (OKB_b hb hwi q) (by rw [f3 _ _ (by omega) (by omega)]; exact n3) (fun m c h => by rw [f3 _ _ (by omega) (by omega)]; exact hrw m c h)
      rw [adl_y q]
      refine ⟨s2, fny_t f3 f2, v2, fun Q => ?_⟩
      rw [u68_35]
      simp (disch := first | omega | exact rfl) only [↓u68_0, ↓u68_1, ↓u68_4, ↓u68_7, ↓u68_8, ↓u68_9, ↓u68_12, ↓u68_13, ↓u68_16, ↓u68_17, ↓u68_20, ↓u68_22, ↓u68_23, ↓u68_24, ↓u68_25, ↓u68_26, ↓u68_29, ↓u68_32, ↓u68_33, ↓u68_34, ↓u68_36, ↓u68_37, ↓u68_40, ↓u68_43, ↓u68_46, ↓u68_47, ↓u68_49, ↓u68_52, ↓u68_53, ↓u68_54, ↓u68_57, ↓u68_60, ↓u68_61, ↓u68_62, ↓u68_65, ↓u68_68, ↓u68_72, ↓u68_75, ↓u68_78, ↓u68_79, ↓u68_80, ↓lI_0, ↓lI_s, ↓lL_0, ↓lL_s, ↓lR_0, ↓lR_s, ↓sT_0, ↓sT_i, ↓sT_r, ↓sT_u, ↓sT_lu, ↓sU_0, ↓sU_i, ↓sU_r, ↓sU_u, ↓ite_bx, bx_T, bx_F, bx_pos, bx_neg, zws_i, zws_r, zws_l, zws_n, zCb_kc, xl_ll, xr_rr, xs_e, xset_e, Option.toList, List.cons_append, List.nil_append, zIb_e, zrng_e, nz_e, if_pos, if_neg, and_true, true_and, or_true, true_or, ite_self, bi_eq0, bi_eq1, bi_1, bi_0, bi_ir, bi_T, bi_F, up_eq, up_ne, ↓reduceIte, reduceIte, Nat.reduceAdd, Nat.reduceLeDiff, Nat.le_refl, Nat.zero_le, not_true_eq_false, not_false_eq_true, ne_eq, Int.reduceEq, Int.reduceLT, Int.reduceLE, Int.reduceAdd, Int.reduceSub, Int.reduceMul, Int.reduceNeg, pT g1, g2, g5, pT hw.1, pT r1, r5, pT r6, r7, r8, n3, e3, e2]
    · have e3 := fun Q => s69_n (d := d - 1) (Q := Q) (show 7 ≤ d - 1 by omega) hg hv hb hn rwi (by omega) hwi q
      obtain ⟨s2, f2, v2, e2⟩ := ih (i + 1) N B s (by omega) (by omega) hN hv hb n3 hrw
      rw [adl_n q]
      refine ⟨s2, f2, v2, fun Q => ?_⟩
      rw [u68_35]
      simp (disch := first | omega | exact rfl) only [↓u68_0, ↓u68_1, ↓u68_4, ↓u68_7, ↓u68_8, ↓u68_9, ↓u68_12, ↓u68_13, ↓u68_16, ↓u68_17, ↓u68_20, ↓u68_22, ↓u68_23, ↓u68_24, ↓u68_25, ↓u68_26, ↓u68_29, ↓u68_32, ↓u68_33, ↓u68_34, ↓u68_36, ↓u68_37, ↓u68_40, ↓u68_43, ↓u68_46, ↓u68_47, ↓u68_49, ↓u68_52, ↓u68_53, ↓u68_54, ↓u68_57, ↓u68_60, ↓u68_61, ↓u68_62, ↓u68_65, ↓u68_68, ↓u68_72, ↓u68_75, ↓u68_78, ↓u68_79, ↓u68_80, ↓lI_0, ↓lI_s, ↓lL_0, ↓lL_s, ↓lR_0, ↓lR_s, ↓sT_0, ↓sT_i, ↓sT_r, ↓sT_u, ↓sT_lu, ↓sU_0, ↓sU_i, ↓sU_r, ↓sU_u, ↓ite_bx, bx_T, bx_F, bx_pos, bx_neg, zws_i, zws_r, zws_l, zws_n, zCb_kc, xl_ll, xr_rr, xs_e, xset_e, Option.toList, List.cons_append, List.nil_append, zIb_e, zrng_e, nz_e, if_pos, if_neg, and_true, true_and, or_true, true_or, ite_self, bi_eq0, bi_eq1, bi_1, bi_0, bi_ir, bi_T, bi_F, up_eq, up_ne, ↓reduceIte, reduceIte, Nat.reduceAdd, Nat.reduceLeDiff, Nat.le_refl, Nat.zero_le, not_true_eq_false, not_false_eq_true, ne_eq, Int.reduceEq, Int.reduceLT, Int.reduceLE, Int.reduceAdd, Int.reduceSub, Int.reduceMul, Int.reduceNeg, pT g1, g2, g5, pT hw.1, pT r1, r5, pT r6, r7, r8, n3, e3, e2]
set_option maxRecDepth 8000 in
theorem CV_p {s s2 : ZS} {W : Int} {B : ZS} {N R T : Int} (hv : CV s W B N R T) (hn : N ≤ 40) (hW : 1 ≤ W ∧ W + 49 ≤ 148) (h : ∀ a c, a < 148 → s2 a c = s a c) : CV s2 W B N R T := by
  obtain ⟨v1, v2, v3, vB⟩ := hv
  refine ⟨?_, ?_, ?_, ?_⟩
  · rw [h _ _ (by omega)]; exact v1
  · rw [h _ _ (by omega)]; exact v2
  · rw [h _ _ (by omega)]; exact v3
  · intro i f hi
    rw [h _ _ (by omega)]
    exact vB i f hi
set_option maxRecDepth 8000 in
theorem s68_f {d : Nat} {G : XS} {s : ZS} {W U V : Int} {B : ZS} {N R T : Int} {tx : Int → Int} {ln F : Int} (hd : 9 ≤ d) (hg : LOK G W U V) (hv : CV s W B N R T) (hb : OKB B N) (hn : 0 ≤ N ∧ N ≤ 40 ∧ 0 ≤ R ∧ R ≤ 10 ∧ 0 ≤ T ∧ T ≤ 20000) (ht : TXT s tx ln) (hF : pgo tx ln 8 0 0 (fun _ _ => 0) = .inl F) : ∃ s2, fbo s s2 W ∧ s2 148 2 = 0 ∧ (∀ a c, a < 148 → s2 a c = s a c) ∧ ∀ Q, Call d 68 [zrf 0] (G, s) Q = Q (some (zint (-10 - F))) (G, s2) := by
  have hg' := hg
  obtain ⟨g1, g2, g3, g4, g5, g6, hw, hu, hx, g7, g8, g9, g10, g11, g12⟩ := hg'
  have hw' := hw
  obtain ⟨w1, w2, w3, w4, w5, w6, w7, w8, w9, w10, w11, w12, w13, w14, w15, w16, w17, w18, w19, w20, w21, w22, w23, w24, w25⟩ := hw'
  have hv' := hv
  obtain ⟨v1, v2, v3, vB⟩ := hv'
  obtain ⟨s3, f3, k3, e3⟩ := s17 (d := d - 1) (show 6 ≤ d - 1 by omega) g7 ht
  rw [hF] at k3 e3
  rw [pf_l] at e3
  have hF2 : 0 ≤ F ∧ F ≤ ln := k3
  have hln := ht.2.1
  have r1 := g7.1
  refine ⟨up s3 148 2 0, fun a c h1 h2 h3 h4 => by rw [up_ne (by omega)]; exact f3 a c (by omega) h4, up_eq, fun a c h => by rw [up_ne (by omega)]; exact f3 a c (by omega) (by omega), fun Q => ?_⟩
  rw [e68 (show 1 ≤ d by omega)]
  simp (disch := first | omega | exact rfl) only [↓u68_0, ↓u68_1, ↓u68_4, ↓u68_7, ↓u68_8, ↓u68_9, ↓u68_12, ↓u68_13, ↓u68_16, ↓u68_17, ↓u68_20, ↓u68_22, ↓u68_23, ↓u68_24, ↓u68_25, ↓u68_26, ↓u68_29, ↓u68_32, ↓u68_33, ↓u68_34, ↓u68_36, ↓u68_37, ↓u68_40, ↓u68_43, ↓u68_46, ↓u68_47, ↓u68_49, ↓u68_52, ↓u68_53, ↓u68_54, ↓u68_57, ↓u68_60, ↓u68_61, ↓u68_62, ↓u68_65, ↓u68_68, ↓u68_72, ↓u68_75, ↓u68_78, ↓u68_79, ↓u68_80, ↓lI_0, ↓lI_s, ↓lL_0, ↓lL_s, ↓lR_0, ↓lR_s, ↓sT_0, ↓sT_i, ↓sT_r, ↓sT_u, ↓sT_lu, ↓sU_0, ↓sU_i, ↓sU_r, ↓sU_u, ↓ite_bx, bx_T, bx_F, bx_pos, bx_neg, zws_i, zws_r, zws_l, zws_n, zCb_kc, xl_ll, xr_rr, xs_e, xset_e, Option.toList, List.cons_append, List.nil_append, zIb_e, zrng_e, nz_e, if_pos, if_neg, and_true, true_and, or_true, true_or, ite_self, bi_eq0, bi_eq1, bi_1, bi_0, bi_ir, bi_T, bi_F, up_eq, up_ne, ↓reduceIte, reduceIte, Nat.reduceAdd, Nat.reduceLeDiff, Nat.le_refl, Nat.zero_le, not_true_eq_false, not_false_eq_true, ne_eq, Int.reduceEq, Int.reduceLT, Int.reduceLE, Int.reduceAdd, Int.reduceSub, Int.reduceMul, Int.reduceNeg, pT g1, g2, g3, g4, g5, g6, pT w1, w2, pT w3, w4, w5, w6, v1, v2, v3, vB, pT r1, e3]
set_option maxRecDepth 8000 in
theorem s68_y {d : Nat} {G : XS} {s : ZS} {W U V : Int} {B : ZS} {N R T : Int} {tx : Int → Int} {ln n : Int} {Wr : Int → Int → Int} (hd : 9 ≤ d) (hg : LOK G W U V) (hv : CV s W B N R T) (hb : OKB B N) (hn : 0 ≤ N ∧ N ≤ 40 ∧ 0 ≤ R ∧ R ≤ 10 ∧ 0 ≤ T ∧ T ≤ 20000) (ht : TXT s tx ln) (hF : pgo tx ln 8 0 0 (fun _ _ => 0) = .inr (n, Wr)) (hWr : ∀ m, 0 ≤ m ∧ m < n → rwk (Wr m)) : (1 ≤ n ∧ n ≤ 8) ∧ ∃ s2, fbo s s2 W ∧ s2 148 2 = 0 ∧ CV s2 W (adl Wr n.toNat 0 B N).1 (adl Wr n.toNat 0 B N).2 R T ∧ ∀ Q, Call d 68 [zrf 0] (G, s) Q = Q (some (zint ((adl Wr n.toNat 0 B N).2 - N))) (G, s2) := by
  have hg' := hg
  obtain ⟨g1, g2, g3, g4, g5, g6, hw, hu, hx, g7, g8, g9, g10, g11, g12⟩ := hg'
  have hw' := hw
  obtain ⟨w1, w2, w3, w4, w5, w6, w7, w8, w9, w10, w11, w12, w13, w14, w15, w16, w17, w18, w19, w20, w21, w22, w23, w24, w25⟩ := hw'
  have hv' := hv
  obtain ⟨v1, v2, v3, vB⟩ := hv'
  obtain ⟨s3, f3, k3, e3⟩ := s17 (d := d - 1) (show 6 ≤ d - 1 by omega) g7 ht
  rw [hF] at k3 e3
  rw [pf_r] at e3
  obtain ⟨n3, hn8, hrw⟩ := k3
  have hln := ht.2.1
  have r1 := g7.1
  have hv4 : CV (up s3 148 2 0) W B N R T := CV_p hv hn.2.1 (by omega) (fun a c h => by rw [up_ne (by omega)]; exact f3 a c (by omega) (by omega))
  obtain ⟨s2, f2, v2, e2⟩ := l68 (d := d) (f := -1) (z := N) (show 8 ≤ d by omega) hg (by omega) (by omega) hWr n.toNat 0 N B (up s3 148 2 0) (by omega) (Int.le_refl 0) (by omega) hv4 hb (by rw [up_ne (by omega)]; exact n3) (fun m c h => by rw [up_ne (by omega)]; exact hrw m c h)
  have ab := adl_b Wr n.toNat 0 N B (by omega)
  obtain ⟨u1, u2, u3, uB⟩ := id v2
  have v5 : s3 W 5 = N := by rw [f3 _ _ (by omega) (by omega)]; exact v1
  refine ⟨hn8, s2, fun a c h1 h2 h3 h4 => by rw [f2 a c h1 h2, up_ne (by omega)]; exact f3 a c (by omega) h4, by rw [f2 _ _ (by omega) (by omega), up_eq], v2, fun Q => ?_⟩
  rw [e68 (show 1 ≤ d by omega)]
  simp (disch := first | omega | exact rfl) only [↓u68_0, ↓u68_1, ↓u68_4, ↓u68_7, ↓u68_8, ↓u68_9, ↓u68_12, ↓u68_13, ↓u68_16, ↓u68_17, ↓u68_20, ↓u68_22, ↓u68_23, ↓u68_24, ↓u68_25, ↓u68_26, ↓u68_29, ↓u68_32, ↓u68_33, ↓u68_34, ↓u68_36, ↓u68_37, ↓u68_40, ↓u68_43, ↓u68_46, ↓u68_47, ↓u68_49, ↓u68_52, ↓u68_53, ↓u68_54, ↓u68_57, ↓u68_60, ↓u68_61, ↓u68_62, ↓u68_65, ↓u68_68, ↓u68_71, ↓u68_72, ↓u68_75, ↓u68_78, ↓u68_79, ↓u68_80, ↓lI_0, ↓lI_s, ↓lL_0, ↓lL_s, ↓lR_0, ↓lR_s, ↓sT_0, ↓sT_i, ↓sT_r, ↓sT_u, ↓sT_lu, ↓sU_0, ↓sU_i, ↓sU_r, ↓sU_u, ↓ite_bx, bx_T, bx_F, bx_pos, bx_neg, zws_i, zws_r, zws_l, zws_n, zCb_kc, xl_ll, xr_rr, xs_e, xset_e, Option.toList, List.cons_append, List.nil_append, zIb_e, zrng_e, nz_e, if_pos, if_neg, and_true, true_and, or_true, true_or, ite_self, bi_eq0, bi_eq1, bi_1, bi_0, bi_ir, bi_T, bi_F, up_eq, up_ne, ↓reduceIte, reduceIte, Nat.reduceAdd, Nat.reduceLeDiff, Nat.le_refl, Nat.zero_le, not_true_eq_false, not_false_eq_true, ne_eq, Int.reduceEq, Int.reduceLT, Int.reduceLE, Int.reduceAdd, Int.reduceSub, Int.reduceMul, Int.reduceNeg, pT g1, g2, g3, g4, g5, g6, pT w1, w2, pT w3, w4, w5, w6, v1, v2, v3, vB, pT r1, e3, v5, e2, u1]
