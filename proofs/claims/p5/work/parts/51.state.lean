/-! ===== values, cells and states of the checker ===== -/
/-- kind (0 int, 1 long, 2 a reference), a number and a form -/
abbrev zv : Type := Nat × Int × zl
def zv_ev (ρ : Nat → Int) (v : zv) : Int := v.2.1 + zl_ev ρ v.2.2
def zdn (ρ : Nat → Int) (v : zv) (x : Value) : Prop := match v.1 with
  | 0 => ∃ y : Int32, x = .int y ∧ y.toInt = zv_ev ρ v
  | 1 => ∃ y : Int64, x = .long y ∧ y.toInt = zv_ev ρ v
  | _ => ∃ a : Nat, x = .ref a ∧ (a : Int) = zv_ev ρ v
def zok (ρ : Nat → Int) (n : Nat) (v : zv) (x : Value) : Prop := zl_wf n v.2.2 = true ∧ zdn ρ v x
/-- what a cell is to be: an object (its class, bounds of its fields) or an array (tag, length, kind, segments: from, to, least, greatest) -/
abbrev zt : Type := (Nat × List zc) ⊕ (Nat × Nat × Nat × List (Nat × Nat × Int × Int))
def zfit (τ : Nat → Nat) (c : zc) (x : Value) : Prop := match c.1 with
  | 0 => ∃ y : Int32, x = .int y ∧ c.2.1 ≤ y.toInt ∧ y.toInt ≤ c.2.2
  | 1 => ∃ y : Int64, x = .long y ∧ c.2.1 ≤ y.toInt ∧ y.toInt ≤ c.2.2
  | t + 2 => ∃ a : Nat, x = .ref a ∧ c.2.1 ≤ (a : Int) ∧ (a : Int) ≤ c.2.2 ∧ τ a = t
def zseg (sg : List (Nat × Nat × Int × Int)) (i : Nat) (v : Int) : Prop := ∃ s ∈ sg, s.1 ≤ i ∧ i ≤ s.2.1 ∧ s.2.2.1 ≤ v ∧ v ≤ s.2.2.2
def zcell (τ : Nat → Nat) (t : zt) (e : iv_E) : Prop := match t with
  | .inl (ci, cs) => ∃ fs : List Value, e = .inr (ci, fs) ∧ fs.length = cs.length ∧ ∀ (j : Nat) (c : zc) (x : Value), iv_nth cs j = some c → iv_nth fs j = some x → zfit τ c x
  | .inr (0, len, _, sg) => ∃ f : Nat → Int32, e = .inl (0, len, .inl f) ∧ ∀ i, i < len → zseg sg i (f i).toInt
  | .inr (1, len, _, sg) => ∃ f : Nat → Int64, e = .inl (1, len, .inr (.inl f)) ∧ ∀ i, i < len → zseg sg i (f i).toInt
  | .inr (2, len, _, sg) => ∃ f : Nat → Int32, e = .inl (2, len, .inl f) ∧ ∀ i, i < len → (f i = 0 ∨ f i = 1) ∧ zseg sg i (f i).toInt
  | .inr (t + 3, len, k, _) => ∃ f : Nat → Option Nat, t ≤ 4 ∧ e = .inl (t + 3, len, .inr (.inr (.inr (.inr f)))) ∧ ∀ i, i < len → ∃ a, f i = some a ∧ τ a = k
/-- the cells are what their types say -/
def zI (τ : Nat → Nat) (ty : Nat → Option zt) (σ : iv_H) : Prop := ∀ (a : Nat) (T : zt), ty (τ a) = some T → ∃ e, iv_get σ a = some e ∧ zcell τ T e
/-- tag, symbol, two values -/
abbrev zd : Type := Nat × Nat × zv × zv
def zd_ok (ty : Nat → Option zt) (ρ : Nat → Int) (n : Nat) (d : zd) : Prop := d.2.1 < n ∧ zl_wf n d.2.2.1.2.2 = true ∧ zl_wf n d.2.2.2.2.2 = true ∧ match d.1 with
  | 0 => (zv_ev ρ d.2.2.1 < zv_ev ρ d.2.2.2 → ρ d.2.1 = -1) ∧ (zv_ev ρ d.2.2.1 = zv_ev ρ d.2.2.2 → ρ d.2.1 = 0) ∧ (zv_ev ρ d.2.2.2 < zv_ev ρ d.2.2.1 → ρ d.2.1 = 1)
  | 1 => ρ d.2.1 = zv_ev ρ d.2.2.1 * zv_ev ρ d.2.2.2
  | 2 => 0 ≤ zv_ev ρ d.2.2.1 → 0 < zv_ev ρ d.2.2.2 → ρ d.2.1 = zv_ev ρ d.2.2.1 / zv_ev ρ d.2.2.2
  | 3 => 0 ≤ zv_ev ρ d.2.2.1 → 0 < zv_ev ρ d.2.2.2 → ρ d.2.1 < zv_ev ρ d.2.2.2
  | t + 4 => ∃ (len k : Nat) (sg : List (Nat × Nat × Int × Int)) (i : Nat), ty t = some (.inr (0, len, k, sg)) ∧ (i : Int) = zv_ev ρ d.2.2.1 ∧ zseg sg i (ρ d.2.1)
/-- bounds, facts, defs; then locals, stack, fields known, places known -/
abbrev zB : Type := List zc × List zf × List zd
abbrev zA : Type := zB × List (Nat × zv) × List zv × List (zv × Nat × Nat × zv) × List (zv × zv × zv)
def zB_ok (τ : Nat → Nat) (ty : Nat → Option zt) (ρ : Nat → Int) (B : zB) : Prop := zE_ok τ B.1 ρ ∧ zF_ok ρ B.1.length B.2.1 ∧ ∀ d ∈ B.2.2, zd_ok ty ρ B.1.length d
def zlv_ok (ρ : Nat → Int) (n : Nat) (lv : List (Nat × zv)) (clv : iv_L) : Prop := ∀ q ∈ lv, ∃ x, iv_f1 clv q.1 = some x ∧ zok ρ n q.2 x
def zst_ok (ρ : Nat → Int) (n : Nat) : List zv → List Value → Prop
  | [], [] => True
  | v :: r, x :: r' => zok ρ n v x ∧ zst_ok ρ n r r'
  | _, _ => False
def zcf_ok (ρ : Nat → Int) (n : Nat) (σ : iv_H) (q : zv × Nat × Nat × zv) : Prop := zl_wf n q.1.2.2 = true ∧ ∃ (a : Nat) (fs : List Value) (x : Value), (a : Int) = zv_ev ρ q.1 ∧ iv_get σ a = some (.inr (q.2.1, fs)) ∧ iv_nth fs q.2.2.1 = some x ∧ zok ρ n q.2.2.2 x
def zca_ok (ρ : Nat → Int) (n : Nat) (σ : iv_H) (q : zv × zv × zv) : Prop := zl_wf n q.1.2.2 = true ∧ zl_wf n q.2.1.2.2 = true ∧ ∃ (a i tag len : Nat) (f : Nat → Int32), (a : Int) = zv_ev ρ q.1 ∧ (i : Int) = zv_ev ρ q.2.1 ∧ iv_get σ a = some (.inl (tag, len, .inl f)) ∧ zok ρ n q.2.2 (.int (f i))
def zA_ok (τ : Nat → Nat) (ty : Nat → Option zt) (ρ : Nat → Int) (A : zA) (clv : iv_L) (cst : List Value) (σ : iv_H) : Prop :=
  zB_ok τ ty ρ A.1 ∧ zlv_ok ρ A.1.1.length A.2.1 clv ∧ zst_ok ρ A.1.1.length A.2.2.1 cst ∧ (∀ q ∈ A.2.2.2.1, zcf_ok ρ A.1.1.length σ q) ∧ ∀ q ∈ A.2.2.2.2, zca_ok ρ A.1.1.length σ q
/-! another assignment that agrees -/
def zag (n : Nat) (ρ ρ' : Nat → Int) : Prop := ∀ i, i < n → ρ' i = ρ i
theorem zag_rf {n : Nat} {ρ : Nat → Int} : zag n ρ ρ := fun _ _ => rfl
theorem zag_tr {n n' : Nat} {ρ ρ' ρ'' : Nat → Int} (h : zag n ρ ρ') (h2 : zag n' ρ' ρ'') (hn : n ≤ n') : zag n ρ ρ'' := fun i hi => (h2 i (Nat.lt_of_lt_of_le hi hn)).trans (h i hi)
theorem zv_ag {n : Nat} {ρ ρ' : Nat → Int} (h : zag n ρ ρ') {v : zv} (hw : zl_wf n v.2.2 = true) : zv_ev ρ' v = zv_ev ρ v := by
  unfold zv_ev
  rw [zl_ag h hw]
theorem zdn_ev {ρ ρ' : Nat → Int} {v : zv} {x : Value} (h : zv_ev ρ' v = zv_ev ρ v) (hd : zdn ρ v x) : zdn ρ' v x := by
  unfold zdn at hd ⊢
  rw [h]
  exact hd
theorem zok_ag {n n' : Nat} {ρ ρ' : Nat → Int} (h : zag n ρ ρ') (hn : n ≤ n') {v : zv} {x : Value} (hk : zok ρ n v x) : zok ρ' n' v x := ⟨zl_wf_le hn hk.1, zdn_ev (zv_ag h hk.1) hk.2⟩
theorem zlv_ag {n n' : Nat} {ρ ρ' : Nat → Int} (h : zag n ρ ρ') (hn : n ≤ n') {lv : List (Nat × zv)} {clv : iv_L} (hk : zlv_ok ρ n lv clv) : zlv_ok ρ' n' lv clv := fun q hq => by
  obtain ⟨x, h1, h2⟩ := hk q hq
  exact ⟨x, h1, zok_ag h hn h2⟩
theorem zst_ag {n n' : Nat} {ρ ρ' : Nat → Int} (h : zag n ρ ρ') (hn : n ≤ n') : ∀ {st : List zv} {cst : List Value}, zst_ok ρ n st cst → zst_ok ρ' n' st cst
  | [], [], _ => trivial
  | v :: r, x :: r', hk => ⟨zok_ag h hn hk.1, zst_ag h hn hk.2⟩
  | [], x :: r', hk => hk.elim
  | v :: r, [], hk => hk.elim
theorem zcf_ag {n n' : Nat} {ρ ρ' : Nat → Int} (h : zag n ρ ρ') (hn : n ≤ n') {σ : iv_H} {q : zv × Nat × Nat × zv} (hk : zcf_ok ρ n σ q) : zcf_ok ρ' n' σ q := by
  obtain ⟨h1, a, fs, x, h2, h3, h4, h5⟩ := hk
  exact ⟨zl_wf_le hn h1, a, fs, x, by rw [zv_ag h h1]; exact h2, h3, h4, zok_ag h hn h5⟩
theorem zca_ag {n n' : Nat} {ρ ρ' : Nat → Int} (h : zag n ρ ρ') (hn : n ≤ n') {σ : iv_H} {q : zv × zv × zv} (hk : zca_ok ρ n σ q) : zca_ok ρ' n' σ q := by
  obtain ⟨h1, h2, a, i, tag, len, f, h3, h4, h5, h6⟩ := hk
  exact ⟨zl_wf_le hn h1, zl_wf_le hn h2, a, i, tag, len, f, by rw [zv_ag h h1]; exact h3, by rw [zv_ag h h2]; exact h4, h5, zok_ag h hn h6⟩
theorem zd_ag {ty : Nat → Option zt} {n n' : Nat} {ρ ρ' : Nat → Int} (h : zag n ρ ρ') (hn : n ≤ n') {d : zd} (hk : zd_ok ty ρ n d) : zd_ok ty ρ' n' d := by
  obtain ⟨h1, h2, h3, h4⟩ := hk
  refine ⟨Nat.lt_of_lt_of_le h1 hn, zl_wf_le hn h2, zl_wf_le hn h3, ?_⟩
  rw [zv_ag h h2, zv_ag h h3, h _ h1]
  exact h4
/-- one symbol more -/
def zup (ρ : Nat → Int) (n : Nat) (x : Int) : Nat → Int := fun i => if i = n then x else ρ i
theorem zup_ag {ρ : Nat → Int} {n : Nat} {x : Int} : zag n ρ (zup ρ n x) := fun i hi => by
  unfold zup
  rw [if_neg (by omega)]
theorem zup_s {ρ : Nat → Int} {n : Nat} {x : Int} : zup ρ n x n = x := by
  unfold zup
  rw [if_pos rfl]
theorem iv_nth_app {α : Type} {x : α} : ∀ {l : List α} {n : Nat}, iv_nth (l ++ [x]) n = if n = l.length then some x else iv_nth l n
  | [], 0 => rfl
  | [], n + 1 => by simp [iv_nth]
  | y :: l, 0 => by simp [iv_nth]
  | y :: l, n + 1 => by
    show iv_nth (l ++ [x]) n = _
    rw [iv_nth_app]
    simp [iv_nth]
theorem zE_app {τ : Nat → Nat} {E : List zc} {ρ : Nat → Int} (h : zE_ok τ E ρ) {c : zc} {x : Int} (hx : c.2.1 ≤ x ∧ x ≤ c.2.2 ∧ (2 ≤ c.1 → 0 ≤ x ∧ τ x.toNat = c.1 - 2)) : zE_ok τ (E ++ [c]) (zup ρ E.length x) := by
  intro s c2 hc
  rw [iv_nth_app] at hc
  split at hc
  · rename_i hs
    subst hs
    cases hc
    rw [zup_s]
    exact hx
  · rename_i hs
    have h2 := iv_nth_lt hc
    rw [zup_ag s h2]
    exact h s c2 hc
/-- the state with a symbol more, bounds c, and defs of it -/
def zfr (A : zA) (c : zc) (ds : List zd) : zA := ((A.1.1 ++ [c], A.1.2.1, ds ++ A.1.2.2), A.2)
theorem zfr_ok {τ : Nat → Nat} {ty : Nat → Option zt} {ρ : Nat → Int} {A : zA} {clv : iv_L} {cst : List Value} {σ : iv_H} (h : zA_ok τ ty ρ A clv cst σ) {c : zc} {x : Int} {ds : List zd} (hx : c.2.1 ≤ x ∧ x ≤ c.2.2 ∧ (2 ≤ c.1 → 0 ≤ x ∧ τ x.toNat = c.1 - 2)) (hd : ∀ d ∈ ds, zd_ok ty (zup ρ A.1.1.length x) (A.1.1.length + 1) d) : zA_ok τ ty (zup ρ A.1.1.length x) (zfr A c ds) clv cst σ := by
  obtain ⟨⟨h1, h2, h3⟩, h4, h5, h6, h7⟩ := h
  have hl : (zfr A c ds).1.1.length = A.1.1.length + 1 := by simp [zfr]
  have ha := zup_ag (ρ := ρ) (n := A.1.1.length) (x := x)
  have hn : A.1.1.length ≤ (zfr A c ds).1.1.length := by omega
  refine ⟨⟨zE_app h1 hx, ?_, ?_⟩, zlv_ag ha hn h4, zst_ag ha hn h5, fun q hq => zcf_ag ha hn (h6 q hq), fun q hq => zca_ag ha hn (h7 q hq)⟩
  · intro f hf
    obtain ⟨g1, g2⟩ := h2 f hf
    exact ⟨zl_wf_le hn g1, by rw [zl_ag ha g1]; exact g2⟩
  · intro d hd2
    rcases List.mem_append.mp hd2 with h9 | h9
    · rw [hl]; exact hd d h9
    · exact zd_ag ha hn (h3 d h9)
/-- facts of one symbol are in its bounds -/
def zfk (f : zf) (F : List zf) : List zf := match f.2 with
  | _ :: _ :: _ => f :: F
  | _ => F
theorem zfk_in {f g : zf} {F : List zf} (h : g ∈ zfk f F) : g = f ∨ g ∈ F := by
  unfold zfk at h
  split at h
  · exact List.mem_cons.mp h
  · exact .inr h
def zas (B : zB) (f : zf) : Option zB := (fun E => bif zdead E f.2 then none else bif zle 1 (zlb E B.2.1 f.1 f.2) then none else some (E, zfk f B.2.1, B.2.2)) (zpr f.1 f.2 f.2 B.1)
theorem zas_ok {τ : Nat → Nat} {ty : Nat → Option zt} {ρ : Nat → Int} {B : zB} (h : zB_ok τ ty ρ B) {f : zf} (hw : zl_wf B.1.length f.2 = true) (hf : f.1 + zl_ev ρ f.2 ≤ 0) : ∃ B', zas B f = some B' ∧ zB_ok τ ty ρ B' ∧ B'.1.length = B.1.length := by
  obtain ⟨h1, h2, h3⟩ := h
  have hE := zpr_ok (τ := τ) hf h1 hw hw
  have hl := zpr_len f.1 f.2 f.2 B.1
  have hw2 : zl_wf (zpr f.1 f.2 f.2 B.1).length f.2 = true := by rw [hl]; exact hw
  unfold zas
  dsimp only
  rw [zdead_no hE hw2]
  have hb := zlb_ok hE (F := B.2.1) (by rw [hl]; exact h2) (c := f.1) hw2
  cases hz : zle 1 (zlb (zpr f.1 f.2 f.2 B.1) B.2.1 f.1 f.2)
  · refine ⟨_, rfl, ⟨hE, ?_, ?_⟩, hl⟩
    · intro g hg
      show zl_wf (zpr f.1 f.2 f.2 B.1).length g.2 = true ∧ _
      rw [hl]
      rcases zfk_in hg with rfl | hg
      · exact ⟨hw, hf⟩
      · exact h2 g hg
    · intro d hd
      show zd_ok ty ρ (zpr f.1 f.2 f.2 B.1).length d
      rw [hl]
      exact h3 d hd
  · have := zle_iff.mp hz
    omega
/-- the same with the rest of the state -/
def zasA (A : zA) (f : zf) : Option zA := match zas A.1 f with
  | some B => some (B, A.2)
  | none => none
theorem zasA_ok {τ : Nat → Nat} {ty : Nat → Option zt} {ρ : Nat → Int} {A : zA} {clv : iv_L} {cst : List Value} {σ : iv_H} (h : zA_ok τ ty ρ A clv cst σ) {f : zf} (hw : zl_wf A.1.1.length f.2 = true) (hf : f.1 + zl_ev ρ f.2 ≤ 0) : ∃ A', zasA A f = some A' ∧ zA_ok τ ty ρ A' clv cst σ ∧ A'.1.1.length = A.1.1.length ∧ A'.2 = A.2 := by
  obtain ⟨B', e1, e2, e3⟩ := zas_ok h.1 hw hf
  refine ⟨(B', A.2), ?_, ⟨e2, ?_⟩, e3, rfl⟩
  · unfold zasA; rw [e1]
  · show zlv_ok ρ B'.1.length A.2.1 clv ∧ _
    rw [e3]
    exact h.2
