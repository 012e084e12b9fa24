/-! ===== templates: what is known at a place ===== -/
/-- a source: (0, k) local k; (1, l, ci, j) field j of the object in local l; (2, g) ghost g; (3) the answer; (5, g, ci, j) field j of the object that ghost g is -/
abbrev zb : Type := Nat × Nat × Nat × Nat
/-- sources with bounds (the i-th is symbol i), and facts -/
abbrev zp : Type := List (zb × zc) × List zf
def zcons : List (zb × zc) → List zc
  | [] => []
  | q :: r => q.2 :: zcons r
theorem zcons_nth : ∀ {l : List (zb × zc)} {i : Nat} {c : zc}, iv_nth (zcons l) i = some c → ∃ b, iv_nth l i = some (b, c)
  | [], i, c, h => by cases h
  | q :: r, 0, c, h => by cases h; exact ⟨q.1, rfl⟩
  | q :: r, i + 1, c, h => zcons_nth (l := r) h
theorem zcons_of : ∀ {l : List (zb × zc)} {i : Nat} {b : zb} {c : zc}, iv_nth l i = some (b, c) → iv_nth (zcons l) i = some c
  | [], i, b, c, h => by cases h
  | q :: r, 0, b, c, h => by cases h; rfl
  | q :: r, i + 1, b, c, h => zcons_of (l := r) h
theorem zcons_len : ∀ (l : List (zb × zc)), (zcons l).length = l.length
  | [] => rfl
  | q :: r => by show (zcons r).length + 1 = r.length + 1; rw [zcons_len r]
theorem zn_in {α : Type} : ∀ {l : List α} {n : Nat} {x : α}, iv_nth l n = some x → x ∈ l
  | [], n, x, h => by cases h
  | y :: l, 0, x, h => by cases h; exact List.mem_cons_self
  | y :: l, n + 1, x, h => List.mem_cons_of_mem _ (zn_in (l := l) h)
/-- symbol i of kind k as a value -/
def zsy (k i : Nat) : zv := (zk k, 0, [(i, 1)])
/-- the locals of a template -/
def zplv : List (zb × zc) → Nat → List (Nat × zv)
  | [], _ => []
  | q :: r, i => match q.1.1 with
    | 0 => (q.1.2.1, zsy q.2.1 i) :: zplv r (i + 1)
    | _ => zplv r (i + 1)
def zpcf (lv : List (Nat × zv)) : List (zb × zc) → Nat → List (zv × Nat × Nat × zv)
  | [], _ => []
  | q :: r, i => match q.1.1 with
    | 1 => (match iv_f1 lv q.1.2.1 with
      | some o => (o, q.1.2.2.1, q.1.2.2.2, zsy q.2.1 i) :: zpcf lv r (i + 1)
      | none => zpcf lv r (i + 1))
    | _ => zpcf lv r (i + 1)
def zpA (P : zp) : zA := ((zcons P.1, P.2, []), zplv P.1 0, [], zpcf (zplv P.1 0) P.1 0, [])
/-- ghosts: number, symbol -/
def zpG (P : zp) : List (Nat × Nat) → List (Nat × zv)
  | [] => []
  | q :: r => match iv_nth P.1 q.2 with
    | some b => (q.1, zsy b.2.1 q.2) :: zpG P r
    | none => zpG P r
/-- what a source is, in a state of the machine: y of kind k -/
def zsrc (γ : Nat → Int) (clv : iv_L) (r : Option Value) (σ : iv_H) (b : zb) (k : Nat) (y : Int) : Prop := match b.1 with
  | 0 => ∃ x, iv_f1 clv b.2.1 = some x ∧ zdk (zk k) y x
  | 1 => ∃ (a : Nat) (fs : List Value) (x : Value), iv_f1 clv b.2.1 = some (.ref a) ∧ iv_get σ a = some (.inr (b.2.2.1, fs)) ∧ iv_nth fs b.2.2.2 = some x ∧ zdk (zk k) y x
  | 2 => y = γ b.2.1
  | 3 => ∃ x, r = some x ∧ zdk (zk k) y x
  | 5 => ∃ (a : Nat) (fs : List Value) (x : Value), (a : Int) = γ b.2.1 ∧ iv_get σ a = some (.inr (b.2.2.1, fs)) ∧ iv_nth fs b.2.2.2 = some x ∧ zdk (zk k) y x
  | _ => False
/-- the template holds -/
def zP_ok (τ : Nat → Nat) (γ : Nat → Int) (clv : iv_L) (r : Option Value) (σ : iv_H) (P : zp) (ρ : Nat → Int) : Prop := zE_ok τ (zcons P.1) ρ ∧ (∀ f ∈ P.2, f.1 + zl_ev ρ f.2 ≤ 0) ∧ ∀ (i : Nat) (b : zb) (c : zc), iv_nth P.1 i = some (b, c) → zsrc γ clv r σ b c.1 (ρ i)
def zp_wf (P : zp) : Bool := P.2.all fun f => zl_wf P.1.length f.2
/-! from a template to a state -/
theorem zsy_ok {ρ : Nat → Int} {n i k : Nat} {x : Value} (hi : i < n) (h : zdk (zk k) (ρ i) x) : zok ρ n (zsy k i) x := ⟨zl_wf_c.mpr ⟨hi, rfl⟩, zdn_of (k := k) h rfl zev1⟩
theorem zsy_ev {ρ : Nat → Int} {i k : Nat} : zv_ev ρ (zsy k i) = ρ i := zev1
theorem zplv_ok {ρ : Nat → Int} {n : Nat} {γ : Nat → Int} {clv : iv_L} {r : Option Value} {σ : iv_H} : ∀ {l : List (zb × zc)} {i : Nat}, i + l.length ≤ n → (∀ (j : Nat) (b : zb) (c : zc), iv_nth l j = some (b, c) → zsrc γ clv r σ b c.1 (ρ (i + j))) → ∀ q ∈ zplv l i, ∃ x, iv_f1 clv q.1 = some x ∧ zok ρ n q.2 x
  | [], i, _, _, q, hq => by cases hq
  | p :: l, i, hn, h, q, hq => by
    have hn2 : i + (l.length + 1) ≤ n := hn
    have h0 := h 0 p.1 p.2 rfl
    have hr : ∀ (j : Nat) (b : zb) (c : zc), iv_nth l j = some (b, c) → zsrc γ clv r σ b c.1 (ρ (i + 1 + j)) := fun j b c hj => by
      have := h (j + 1) b c hj
      rw [show i + (j + 1) = i + 1 + j by omega] at this
      exact this
    unfold zplv at hq
    split at hq
    · rename_i hk
      rcases List.mem_cons.mp hq with rfl | hq
      · unfold zsrc at h0
        rw [hk] at h0
        obtain ⟨x, h1, h2⟩ := h0
        exact ⟨x, h1, zsy_ok (by omega) h2⟩
      · exact zplv_ok (by omega) hr q hq
    · exact zplv_ok (by omega) hr q hq
theorem zpcf_ok {ρ : Nat → Int} {n : Nat} {γ : Nat → Int} {clv : iv_L} {r : Option Value} {σ : iv_H} {lv : List (Nat × zv)} (hlv : zlv_ok ρ n lv clv) : ∀ {l : List (zb × zc)} {i : Nat}, i + l.length ≤ n → (∀ (j : Nat) (b : zb) (c : zc), iv_nth l j = some (b, c) → zsrc γ clv r σ b c.1 (ρ (i + j))) → ∀ q ∈ zpcf lv l i, zcf_ok ρ n σ q
  | [], i, _, _, q, hq => by cases hq
  | p :: l, i, hn, h, q, hq => by
    have hn2 : i + (l.length + 1) ≤ n := hn
    have h0 := h 0 p.1 p.2 rfl
    have hr : ∀ (j : Nat) (b : zb) (c : zc), iv_nth l j = some (b, c) → zsrc γ clv r σ b c.1 (ρ (i + 1 + j)) := fun j b c hj => by
      have := h (j + 1) b c hj
      rw [show i + (j + 1) = i + 1 + j by omega] at this
      exact this
    unfold zpcf at hq
    split at hq
    · rename_i hk
      split at hq
      · rename_i o ho
        rcases List.mem_cons.mp hq with rfl | hq
        · unfold zsrc at h0
          rw [hk] at h0
          obtain ⟨a, fs, x, h1, h2, h3, h4⟩ := h0
          obtain ⟨x2, e1, e2⟩ := zlv_at hlv ho
          rw [h1] at e1
          cases e1
          have ea : (a : Int) = zv_ev ρ o := by
            have hd := e2.2
            unfold zdn at hd
            split at hd
            · obtain ⟨y, e, _⟩ := hd; cases e
            · obtain ⟨y, e, _⟩ := hd; cases e
            · obtain ⟨y, e, ey⟩ := hd; cases e; exact ey
          exact ⟨e2.1, a, fs, x, ea, h2, h3, zsy_ok (by omega) h4⟩
        · exact zpcf_ok hlv (by omega) hr q hq
      · exact zpcf_ok hlv (by omega) hr q hq
    · exact zpcf_ok hlv (by omega) hr q hq
theorem zpA_ok {τ : Nat → Nat} {ty : Nat → Option zt} {γ : Nat → Int} {clv : iv_L} {r : Option Value} {σ : iv_H} {P : zp} {ρ : Nat → Int} (hw : zp_wf P = true) (h : zP_ok τ γ clv r σ P ρ) : zA_ok τ ty ρ (zpA P) clv [] σ := by
  obtain ⟨h1, h2, h3⟩ := h
  have hl : (zcons P.1).length = P.1.length := zcons_len _
  have hlv : zlv_ok ρ (zcons P.1).length (zplv P.1 0) clv := by
    intro q hq
    refine zplv_ok (γ := γ) (r := r) (σ := σ) (l := P.1) (i := 0) (by omega) (fun j b c hj => ?_) q hq
    rw [Nat.zero_add]
    exact h3 j b c hj
  refine ⟨⟨h1, ?_, ?_⟩, hlv, trivial, ?_, ?_⟩
  · intro f hf
    refine ⟨?_, h2 f hf⟩
    have := List.all_eq_true.mp hw f hf
    show zl_wf (zcons P.1).length f.2 = true
    rw [hl]
    exact this
  · intro d hd; cases hd
  · intro q hq
    refine zpcf_ok (γ := γ) (r := r) (l := P.1) (i := 0) hlv (by show 0 + P.1.length ≤ (zcons P.1).length; omega) (fun j b c hj => ?_) q hq
    rw [Nat.zero_add]
    exact h3 j b c hj
  · intro q hq; cases hq
/-- ghosts of a state: their values -/
def zG_ok (ρ : Nat → Int) (n : Nat) (γ : Nat → Int) (G : List (Nat × zv)) : Prop := ∀ q ∈ G, zl_wf n q.2.2.2 = true ∧ zv_ev ρ q.2 = γ q.1
theorem zG_ag {n n' : Nat} {ρ ρ' γ : Nat → Int} {G : List (Nat × zv)} (h : zag n ρ ρ') (hn : n ≤ n') (hG : zG_ok ρ n γ G) : zG_ok ρ' n' γ G := fun q hq => ⟨zl_wf_le hn (hG q hq).1, by rw [zv_ag h (hG q hq).1]; exact (hG q hq).2⟩
theorem zpG_ok {P : zp} {ρ γ : Nat → Int} : ∀ {gs : List (Nat × Nat)}, (∀ q ∈ gs, γ q.1 = ρ q.2) → zG_ok ρ P.1.length γ (zpG P gs)
  | [], _ => fun q hq => by cases hq
  | p :: r, h => by
    intro q hq
    unfold zpG at hq
    split at hq
    · rename_i b hb
      rcases List.mem_cons.mp hq with rfl | hq
      · exact ⟨zl_wf_c.mpr ⟨iv_nth_lt hb, rfl⟩, by rw [zsy_ev]; exact (h p List.mem_cons_self).symm⟩
      · exact zpG_ok (fun q hq => h q (List.mem_cons_of_mem _ hq)) q hq
    · exact zpG_ok (fun q hq => h q (List.mem_cons_of_mem _ hq)) q hq
/-! from a state to a template -/
def zlk (A : zA) (G : List (Nat × zv)) (res : Option zv) (b : zb) : Option zv := match b.1 with
  | 0 => iv_f1 A.2.1 b.2.1
  | 1 => (match iv_f1 A.2.1 b.2.1 with
    | some o => bif Nat.beq o.1 2 then zfnd o b.2.2.1 b.2.2.2 A.2.2.2.1 else none
    | none => none)
  | 2 => iv_f1 G b.2.1
  | 3 => res
  | 5 => (match iv_f1 G b.2.1 with
    | some o => zfnd o b.2.2.1 b.2.2.2 A.2.2.2.1
    | none => none)
  | _ => none
/-- the sources' values, each within its bounds -/
def zlks (A : zA) (G : List (Nat × zv)) (res : Option zv) : List (zb × zc) → Option (List zv)
  | [] => some []
  | q :: r => match zlk A G res q.1 with
    | some v => bif zfv A.1 q.2 v then (match zlks A G res r with
      | some vs => some (v :: vs)
      | none => none) else none
    | none => none
/-- a form over a template's symbols, as one over the state's -/
def zsb (vs : List zv) : zl → Int × zl
  | [] => (0, [])
  | q :: r => (fun p => match iv_nth vs q.1 with
    | some v => (p.1 + q.2 * v.2.1, zl_cm q.2 p.2 v.2.2)
    | none => p) (zsb vs r)
def zρ (ρ : Nat → Int) (vs : List zv) : Nat → Int := fun i => match iv_nth vs i with
  | some v => zv_ev ρ v
  | none => 0
theorem zsb_ev {ρ : Nat → Int} {vs : List zv} : ∀ {l : zl}, (zsb vs l).1 + zl_ev ρ (zsb vs l).2 = zl_ev (zρ ρ vs) l
  | [] => rfl
  | q :: r => by
    have h := zsb_ev (ρ := ρ) (vs := vs) (l := r)
    show _ = q.2 * zρ ρ vs q.1 + zl_ev (zρ ρ vs) r
    generalize zl_ev (zρ ρ vs) r = T at h
    unfold zsb zρ
    dsimp only
    split
    · rename_i v hv
      show (zsb vs r).1 + q.2 * v.2.1 + zl_ev ρ (zl_cm q.2 (zsb vs r).2 v.2.2) = _
      rw [zl_cm_ev]
      unfold zv_ev
      rw [Int.mul_add, ← h]
      omega
    · rw [Int.mul_zero, ← h]
      omega
theorem zsb_wf {n : Nat} {vs : List zv} (hv : ∀ v ∈ vs, zl_wf n v.2.2 = true) : ∀ {l : zl}, zl_wf n (zsb vs l).2 = true
  | [] => rfl
  | q :: r => by
    have h := zsb_wf hv (l := r)
    unfold zsb
    dsimp only
    split
    · rename_i v hv2
      exact zl_cm_wf h (hv v (zn_in hv2))
    · exact h
/-- facts of the template, in the state -/
def zfa (A : zA) (vs : List zv) : List zf → Bool
  | [] => true
  | f :: r => bif (fun p => zle (zub A.1.1 A.1.2.1 (f.1 + p.1) p.2) 0 || zle (zuD A.1.1 A.1.2.1 4 (f.1 + p.1) p.2) 0) (zsb vs f.2) then zfa A vs r else false
section ZTM
variable {τ : Nat → Nat} {ty : Nat → Option zt} {ρ γ : Nat → Int} {A : zA} {G : List (Nat × zv)} {res : Option zv} {clv : iv_L} {cst : List Value} {σ : iv_H} {r : Option Value}
theorem zfit_dk {c : zc} {x : Value} {v : zv} {n : Nat} (h : zfit τ c x) (hv : zok ρ n v x) : zdk (zk c.1) (zv_ev ρ v) x ∧ c.2.1 ≤ zv_ev ρ v ∧ zv_ev ρ v ≤ c.2.2 ∧ (2 ≤ c.1 → 0 ≤ zv_ev ρ v ∧ τ (zv_ev ρ v).toNat = c.1 - 2) := by
  have hd := hv.2
  unfold zfit at h
  split at h
  · rename_i hk
    obtain ⟨y, rfl, h1, h2⟩ := h
    unfold zdn at hd
    split at hd
    · obtain ⟨z, e, ez⟩ := hd
      cases e
      rw [hk, ← ez]
      exact ⟨⟨y, rfl, rfl⟩, h1, h2, fun h9 => by omega⟩
    · obtain ⟨z, e, ez⟩ := hd; cases e
    · obtain ⟨z, e, ez⟩ := hd; cases e
  · rename_i hk
    obtain ⟨y, rfl, h1, h2⟩ := h
    unfold zdn at hd
    split at hd
    · obtain ⟨z, e, ez⟩ := hd; cases e
    · obtain ⟨z, e, ez⟩ := hd
      cases e
      rw [hk, ← ez]
      exact ⟨⟨y, rfl, rfl⟩, h1, h2, fun h9 => by omega⟩
    · obtain ⟨z, e, ez⟩ := hd; cases e
  · rename_i t hk
    obtain ⟨a, rfl, h1, h2, h3⟩ := h
    unfold zdn at hd
    split at hd
    · obtain ⟨z, e, ez⟩ := hd; cases e
    · obtain ⟨z, e, ez⟩ := hd; cases e
    · obtain ⟨z, e, ez⟩ := hd
      cases e
      rw [hk, ← ez]
      exact ⟨⟨a, rfl, rfl⟩, h1, h2, fun _ => ⟨by omega, by rw [Int.toNat_natCast, h3]; omega⟩⟩
/-- a reference's label -/
theorem zok_ref {n : Nat} {v : zv} {a : Nat} (h : zok ρ n v (.ref a)) : (a : Int) = zv_ev ρ v := by
  have hd := h.2
  unfold zdn at hd
  split at hd
  · obtain ⟨z, e, ez⟩ := hd; cases e
  · obtain ⟨z, e, ez⟩ := hd; cases e
  · obtain ⟨z, e, ez⟩ := hd; cases e; exact ez
end ZTM
