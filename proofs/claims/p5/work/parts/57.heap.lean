/-! ===== operations on cells ===== -/
/-- the type of what a reference refers to -/
def zty (E : List zc) (v : zv) : Option Nat := match v with
  | (2, .ofNat 0, [(s, .ofNat 1)]) => (match iv_nth E s with
    | some (t + 2, _, _) => some t
    | _ => none)
  | _ => none
theorem zty_ok {τ : Nat → Nat} {E : List zc} {ρ : Nat → Int} {n : Nat} (h : zE_ok τ E ρ) {v : zv} {x : Value} {t : Nat} (hv : zok ρ n v x) (ht : zty E v = some t) : ∃ a : Nat, x = .ref a ∧ (a : Int) = zv_ev ρ v ∧ τ a = t := by
  unfold zty at ht
  split at ht
  · rename_i s
    obtain ⟨a, rfl, ea⟩ := zdn2 hv.2 rfl
    have e1 : zv_ev ρ (2, (.ofNat 0 : Int), [(s, (.ofNat 1 : Int))]) = ρ s := zev1
    rw [e1] at ea
    split at ht
    · rename_i t2 lo hi hc
      cases ht
      obtain ⟨_, _, h3⟩ := h s _ hc
      obtain ⟨h4, h5⟩ := h3 (by show 2 ≤ t + 2; omega)
      refine ⟨a, rfl, by rw [e1]; exact ea, ?_⟩
      rw [← ea] at h5
      exact h5
    · cases ht
  · cases ht
/-- a field that is known -/
def zfnd (o : zv) (ci j : Nat) : List (zv × Nat × Nat × zv) → Option zv
  | [] => none
  | q :: r => bif Nat.beq q.2.1 ci && (Nat.beq q.2.2.1 j && zv_eq q.1 o) then some q.2.2.2 else zfnd o ci j r
theorem zfnd_in {o : zv} {ci j : Nat} : ∀ {C : List (zv × Nat × Nat × zv)} {w : zv}, zfnd o ci j C = some w → (o, ci, j, w) ∈ C
  | [], w, h => by cases h
  | q :: r, w, h => by
    unfold zfnd at h
    cases hb : Nat.beq q.2.1 ci && (Nat.beq q.2.2.1 j && zv_eq q.1 o)
    · rw [hb] at h; exact List.mem_cons_of_mem _ (zfnd_in h)
    · rw [hb] at h
      rw [Bool.and_eq_true, Bool.and_eq_true] at hb
      cases h
      rw [← Nat.eq_of_beq_eq_true hb.1, ← Nat.eq_of_beq_eq_true hb.2.1, ← zv_eq_ok hb.2.2]
      exact List.mem_cons_self
/-- a new symbol for a value that fits: its bounds c; what is put behind: f of the new value -/
theorem znew {τ : Nat → Nat} {ty : Nat → Option zt} {ρ : Nat → Int} {A : zA} {clv : iv_L} {cst : List Value} {σ : iv_H} (h : zA_ok τ ty ρ A clv cst σ) {c : zc} {x : Value} (hx : zfit τ c x) : ∃ ρ' y, zdk (zk c.1) y x ∧ zag A.1.1.length ρ ρ' ∧ ρ' A.1.1.length = y ∧ zA_ok τ ty ρ' (zfr A c []) clv cst σ ∧ (zfr A c []).1.1.length = A.1.1.length + 1 ∧ zok ρ' (A.1.1.length + 1) (zk c.1, 0, [(A.1.1.length, 1)]) x := by
  have hl : (zfr A c []).1.1.length = A.1.1.length + 1 := by simp [zfr]
  have main : ∀ y : Int, zdk (zk c.1) y x → c.2.1 ≤ y → y ≤ c.2.2 → (2 ≤ c.1 → 0 ≤ y ∧ τ y.toNat = c.1 - 2) → ∃ ρ' y, zdk (zk c.1) y x ∧ zag A.1.1.length ρ ρ' ∧ ρ' A.1.1.length = y ∧ zA_ok τ ty ρ' (zfr A c []) clv cst σ ∧ (zfr A c []).1.1.length = A.1.1.length + 1 ∧ zok ρ' (A.1.1.length + 1) (zk c.1, 0, [(A.1.1.length, 1)]) x := by
    intro y h1 h2 h3 h4
    refine ⟨zup ρ A.1.1.length y, y, h1, zup_ag, zup_s, zfr_ok h ⟨h2, h3, h4⟩ (fun d hd => by cases hd), hl, zl_wf_c.mpr ⟨Nat.lt_succ_self _, rfl⟩, zdn_of (k := c.1) h1 rfl ?_⟩
    rw [zev1, zup_s]
  unfold zfit at hx
  split at hx
  · rename_i hk
    obtain ⟨y, rfl, h1, h2⟩ := hx
    exact main y.toInt (by rw [hk]; exact ⟨y, rfl, rfl⟩) h1 h2 (fun h9 => by omega)
  · rename_i hk
    obtain ⟨y, rfl, h1, h2⟩ := hx
    exact main y.toInt (by rw [hk]; exact ⟨y, rfl, rfl⟩) h1 h2 (fun h9 => by omega)
  · rename_i t hk
    obtain ⟨a, rfl, h1, h2, h3⟩ := hx
    exact main (a : Int) (by rw [hk]; exact ⟨a, rfl, rfl⟩) h1 h2 (fun _ => ⟨by omega, by rw [Int.toNat_natCast, h3, hk]; omega⟩)
section ZHP
variable {τ : Nat → Nat} {ty : Nat → Option zt} {ms : zm}
def zoGF (ty : Nat → Option zt) (ci j : Nat) : Nat → zA → zO := fun pc A => match A.2.2.1 with
  | v :: r => (match zty A.1.1 v with
    | some t => (match ty t with
      | some (.inl (c2, cs)) => bif Nat.beq ci c2 then (match zfnd v ci j A.2.2.2.1 with
        | some w => some [(pc + 3, (A.1, A.2.1, w :: r, A.2.2.2))]
        | none => (match iv_nth cs j with
          | some c => some [(pc + 3, (fun n => ((A.1.1 ++ [c], A.1.2), A.2.1, (zk c.1, 0, [(n, 1)]) :: r, (v, ci, j, (zk c.1, 0, [(n, 1)])) :: A.2.2.2.1, A.2.2.2.2)) A.1.1.length)]
          | none => none)) else none
      | _ => none)
    | none => none)
  | _ => none
theorem zI_obj {σ : iv_H} (hI : zI τ ty σ) {a t ci : Nat} {cs : List zc} (ha : τ a = t) (ht : ty t = some (.inl (ci, cs))) : ∃ fs : List Value, iv_get σ a = some (.inr (ci, fs)) ∧ fs.length = cs.length ∧ ∀ (j : Nat) (c : zc) (x : Value), iv_nth cs j = some c → iv_nth fs j = some x → zfit τ c x := by
  obtain ⟨e, h1, h2⟩ := hI a _ (by rw [ha]; exact ht)
  obtain ⟨fs, rfl, h3, h4⟩ := h2
  exact ⟨fs, h1, h3, h4⟩
theorem zoGF_ok (ci j : Nat) : zS τ ty ms (iv_oGF ci j) (zoGF ty ci j) := by
  intro ρ A clv cst σ L xs pc outs hg hA hI
  unfold zoGF at hg
  split at hg
  · rename_i v r hst
    have h1 := hA.2.2.1
    rw [hst] at h1
    obtain ⟨x0, c1, rfl, b1, h3⟩ := zst_c h1
    split at hg
    · rename_i t ht
      obtain ⟨a, rfl, ea, hta⟩ := zty_ok hA.1.1 b1 ht
      split at hg
      · rename_i c2 cs hty
        cases hb : Nat.beq ci c2
        · rw [hb] at hg; cases hg
        · rw [hb] at hg
          have hcc := Nat.eq_of_beq_eq_true hb
          subst hcc
          simp only [cond_true] at hg
          obtain ⟨fs, g1, g2, g3⟩ := zI_obj hI hta hty
          split at hg
          · rename_i w hw
            cases hg
            obtain ⟨_, a2, fs2, x, e1, e2, e3, e4⟩ := hA.2.2.2.1 _ (zfnd_in hw)
            have haa : a2 = a := by have e9 : (a2 : Int) = zv_ev ρ v := e1; omega
            subst haa
            refine zQ_one (o_GF e2 e3) (zA_st hA (st := w :: r) (cst' := x :: c1) ⟨e4, h3⟩) hI zag_rf (Nat.le_refl _)
          · split at hg
            · rename_i c hc
              cases hg
              obtain ⟨x, hx⟩ := iv_nth_some (l := fs) (n := j) (by rw [g2]; exact iv_nth_lt hc)
              obtain ⟨ρ', y, f1, f2, f3, f4, f5, f6⟩ := znew hA (g3 j c x hc hx)
              have hl : (A.1.1 ++ [c]).length = A.1.1.length + 1 := f5
              have hle : A.1.1.length ≤ (A.1.1 ++ [c]).length := by omega
              refine zQ_one (ρ' := ρ') (o_GF g1 hx) ⟨f4.1, f4.2.1, ⟨by rw [← hl] at f6; exact f6, zst_ag f2 hle h3⟩, ?_, f4.2.2.2.2⟩ hI f2 hle
              intro q hq
              rcases List.mem_cons.mp hq with rfl | hq
              · exact ⟨zl_wf_le hle b1.1, a, fs, x, by rw [zv_ag f2 b1.1]; exact ea, g1, hx, by rw [← hl] at f6; exact f6⟩
              · exact f4.2.2.2.1 q hq
            · cases hg
      · cases hg
    · cases hg
  · cases hg
/-- does a value fit? -/
def zfv (B : zB) (c : zc) (v : zv) : Bool := (match c.1 with
  | 0 => Nat.beq v.1 0
  | 1 => Nat.beq v.1 1
  | t + 2 => (match zty B.1 v with
    | some t2 => Nat.beq t2 t
    | none => false)) && (zle c.2.1 (zvl B v) && zle (zvh B v) c.2.2)
theorem zfv_ok {ρ : Nat → Int} {B : zB} (h : zB_ok τ ty ρ B) {c : zc} {v : zv} {x : Value} (hv : zok ρ B.1.length v x) (hf : zfv B c v = true) : zfit τ c x := by
  unfold zfv at hf
  rw [Bool.and_eq_true, Bool.and_eq_true] at hf
  have g1 := zle_iff.mp hf.2.1
  have g2 := zle_iff.mp hf.2.2
  have g3 := zvl_ok h hv.1
  have g4 := zvh_ok h hv.1
  have h0 := hf.1
  unfold zfit
  split at h0
  · rename_i hk
    rw [hk]
    obtain ⟨y, rfl, ey⟩ := zdn0 hv.2 (Nat.eq_of_beq_eq_true h0)
    exact ⟨y, rfl, by omega, by omega⟩
  · rename_i hk
    rw [hk]
    obtain ⟨y, rfl, ey⟩ := zdn1 hv.2 (Nat.eq_of_beq_eq_true h0)
    exact ⟨y, rfl, by omega, by omega⟩
  · rename_i t hk
    rw [hk]
    split at h0
    · rename_i t2 ht
      have e := Nat.eq_of_beq_eq_true h0
      subst e
      obtain ⟨a, rfl, ea, hta⟩ := zty_ok h.1 hv ht
      exact ⟨a, rfl, by omega, by omega, hta⟩
    · cases h0
/-- a field's bounds say what its type wants -/
def zfty (f : FieldType) (c : zc) : Bool := match f with
  | .int => Nat.beq c.1 0
  | .boolean => Nat.beq c.1 0 && (zle 0 c.2.1 && zle c.2.2 1)
  | .long => Nat.beq c.1 1
  | .object _ => Nat.ble 2 c.1
  | _ => false
theorem zfty_ok {f : FieldType} {c : zc} {x : Value} (h : zfty f c = true) (hx : zfit τ c x) : iv_fit f x = true := by
  unfold zfty at h
  split at h
  · unfold zfit at hx
    rw [Nat.eq_of_beq_eq_true h] at hx
    obtain ⟨y, rfl, _⟩ := hx
    rfl
  · rw [Bool.and_eq_true, Bool.and_eq_true] at h
    unfold zfit at hx
    rw [Nat.eq_of_beq_eq_true h.1] at hx
    obtain ⟨y, rfl, h1, h2⟩ := hx
    have g1 := zle_iff.mp h.2.1
    have g2 := zle_iff.mp h.2.2
    show (decide (y = 0) || decide (y = 1)) = true
    have : y.toInt = 0 ∨ y.toInt = 1 := by omega
    rcases this with e | e
    · have : y = 0 := Int32.toInt_inj.mp (by rw [e]; rfl)
      rw [decide_eq_true this]; rfl
    · have : y = 1 := Int32.toInt_inj.mp (by rw [e]; rfl)
      rw [decide_eq_true this]; simp
  · unfold zfit at hx
    rw [Nat.eq_of_beq_eq_true h] at hx
    obtain ⟨y, rfl, _⟩ := hx
    rfl
  · have h2 := Nat.le_of_ble_eq_true h
    unfold zfit at hx
    split at hx
    · omega
    · omega
    · obtain ⟨a, rfl, _⟩ := hx
      rfl
  · cases h
/-- known fields but those of one name -/
def zcd (ci j : Nat) : List (zv × Nat × Nat × zv) → List (zv × Nat × Nat × zv)
  | [] => []
  | q :: r => bif Nat.beq q.2.1 ci && Nat.beq q.2.2.1 j then zcd ci j r else q :: zcd ci j r
theorem zcd_in {ci j : Nat} : ∀ {C : List (zv × Nat × Nat × zv)} {q : zv × Nat × Nat × zv}, q ∈ zcd ci j C → q ∈ C ∧ ¬ (q.2.1 = ci ∧ q.2.2.1 = j)
  | [], q, h => by cases h
  | p :: r, q, h => by
    unfold zcd at h
    cases hb : Nat.beq p.2.1 ci && Nat.beq p.2.2.1 j
    · rw [hb] at h
      rcases List.mem_cons.mp h with rfl | h
      · refine ⟨List.mem_cons_self, fun e => ?_⟩
        rw [e.1, e.2, Nat.beq_refl, Nat.beq_refl] at hb; cases hb
      · exact ⟨List.mem_cons_of_mem _ (zcd_in h).1, (zcd_in h).2⟩
    · rw [hb] at h
      exact ⟨List.mem_cons_of_mem _ (zcd_in h).1, (zcd_in h).2⟩
/-- a cell written anew: its type stands, others stand -/
theorem zI_put {σ : iv_H} (hI : zI τ ty σ) {a : Nat} {e0 e : iv_E} (h0 : iv_get σ a = some e0) (he : ∀ T, ty (τ a) = some T → zcell τ T e) : zI τ ty (iv_put σ a e) := by
  intro b T hT
  obtain ⟨e1, h1, h2⟩ := hI b T hT
  by_cases hb : b = a
  · subst hb
    exact ⟨e, iv_gp_s h0, he T hT⟩
  · exact ⟨e1, iv_gp_n h0 h1 hb, h2⟩
theorem iv_put_sz {σ : iv_H} {a : Nat} {e0 e : iv_E} (h0 : iv_get σ a = some e0) : (iv_put σ a e).1 = σ.1 ∧ (iv_put σ a e).2.2 = σ.2.2 := by
  obtain ⟨k, rfl, _, _⟩ := iv_get_ok h0
  rw [iv_put_eq]
  exact ⟨rfl, rfl⟩
theorem zFr_f {σ : iv_H} {a ci j : Nat} {fs : List Value} {v : Value} (h0 : iv_get σ a = some (.inr (ci, fs))) (hm : zmem (0, ci, j) ms = true) : zFr τ ms σ (iv_put σ a (.inr (ci, fs.set j v))) := by
  refine ⟨iv_put_sz h0, fun b => ⟨fun c2 fs2 h2 => ?_, fun x h2 _ => ?_, fun tag len f h2 _ => ?_⟩⟩
  · by_cases hb : b = a
    · subst hb
      rw [h0] at h2
      cases h2
      refine ⟨fs.set j v, iv_gp_s h0, fun i hi => ?_⟩
      rw [iv_nth_set]
      rw [if_neg]
      intro e
      rw [e.1, hm] at hi; cases hi
    · exact ⟨fs2, iv_gp_n h0 h2 hb, fun _ _ => rfl⟩
  · by_cases hb : b = a
    · subst hb; rw [h0] at h2; cases h2
    · exact iv_gp_n h0 h2 hb
  · by_cases hb : b = a
    · subst hb; rw [h0] at h2; cases h2
    · exact ⟨f, iv_gp_n h0 h2 hb, fun _ _ => rfl⟩
theorem zFr_a {σ : iv_H} {a : Nat} {x y : Nat × vp_A} (h0 : iv_get σ a = some (.inl x)) (hm : zmem (1, τ a, 0) ms = true) : zFr τ ms σ (iv_put σ a (.inl y)) := by
  refine ⟨iv_put_sz h0, fun b => ⟨fun c2 fs2 h2 => ?_, fun z h2 hz => ?_, fun tag len f h2 hz => ?_⟩⟩
  · by_cases hb : b = a
    · subst hb; rw [h0] at h2; cases h2
    · exact ⟨fs2, iv_gp_n h0 h2 hb, fun _ _ => rfl⟩
  · by_cases hb : b = a
    · subst hb; rw [(zmt_of hm).1] at hz; cases hz
    · exact iv_gp_n h0 h2 hb
  · by_cases hb : b = a
    · subst hb; rw [hm] at hz; cases hz
    · exact ⟨f, iv_gp_n h0 h2 hb, fun _ _ => rfl⟩
/-- an int array, one place of it -/
theorem zFr_ai {σ : iv_H} {a tag len i : Nat} {f : Nat → Int32} {z : Int32} (h0 : iv_get σ a = some (.inl (tag, len, .inl f))) (hm : zmem (1, τ a, 0) ms = true ∨ (zml (τ a) ms ≤ i ∧ i < zmb (τ a) ms)) : zFr τ ms σ (iv_put σ a (.inl (tag, len, .inl (upd f i z)))) := by
  have ht : zmt (τ a) ms = true := by
    rcases hm with hm | hm
    · exact (zmt_of hm).1
    · rcases (zmt_ex (t := τ a) (ms := ms)).2.1 with h9 | ⟨b, hb, _⟩
      · omega
      · exact (zmt_of hb).1
  refine ⟨iv_put_sz h0, fun b => ⟨fun c2 fs2 h2 => ?_, fun y h2 hz => ?_, fun tag2 len2 g h2 hz => ?_⟩⟩
  · by_cases hb : b = a
    · subst hb; rw [h0] at h2; cases h2
    · exact ⟨fs2, iv_gp_n h0 h2 hb, fun _ _ => rfl⟩
  · by_cases hb : b = a
    · subst hb; rw [ht] at hz; cases hz
    · exact iv_gp_n h0 h2 hb
  · by_cases hb : b = a
    · subst hb
      rw [h0] at h2
      cases h2
      refine ⟨_, iv_gp_s h0, fun j hj => ?_⟩
      rcases hm with hm | hm
      · rw [hm] at hz; cases hz
      · show (if j = i then z else f j) = f j
        rw [if_neg (by rcases hj with hj | hj <;> omega)]
    · exact ⟨g, iv_gp_n h0 h2 hb, fun _ _ => rfl⟩
def zoPF (ty : Nat → Option zt) (ms : zm) (ci j : Nat) (f : FieldType) : Nat → zA → zO := fun pc A => match A.2.2.1 with
  | w :: v :: r => (match zty A.1.1 v with
    | some t => (match ty t with
      | some (.inl (c2, cs)) => (match iv_nth cs j with
        | some c => bif Nat.beq ci c2 && (zfty f c && (zfv A.1 c w && zmem (0, ci, j) ms)) then some [(pc + 3, (A.1, A.2.1, r, (v, ci, j, w) :: zcd ci j A.2.2.2.1, A.2.2.2.2))] else none
        | none => none)
      | _ => none)
    | none => none)
  | _ => none
theorem zoPF_ok (ci j : Nat) (f : FieldType) : zS τ ty ms (iv_oPF ci j f) (zoPF ty ms ci j f) := by
  intro ρ A clv cst σ L xs pc outs hg hA hI
  unfold zoPF at hg
  split at hg
  · rename_i w v r hst
    have h1 := hA.2.2.1
    rw [hst] at h1
    obtain ⟨x, c1, rfl, a1, h2⟩ := zst_c h1
    obtain ⟨x0, c2, rfl, b1, h3⟩ := zst_c h2
    split at hg
    · rename_i t ht
      obtain ⟨a, rfl, ea, hta⟩ := zty_ok hA.1.1 b1 ht
      split at hg
      · rename_i c2 cs hty
        split at hg
        · rename_i c hc
          cases hb : Nat.beq ci c2 && (zfty f c && (zfv A.1 c w && zmem (0, ci, j) ms))
          · rw [hb] at hg; cases hg
          · rw [hb] at hg
            cases hg
            simp only [Bool.and_eq_true] at hb
            obtain ⟨k1, k2, k3, k4⟩ := hb
            have hcc := Nat.eq_of_beq_eq_true k1
            subst hcc
            obtain ⟨fs, g1, g2, g3⟩ := zI_obj hI hta hty
            have hfit := zfv_ok hA.1 a1 k3
            have hj : j < fs.length := by rw [g2]; exact iv_nth_lt hc
            have hf := o_PF (L := L) (xs := xs) (pc := pc) (lv := clv) (r0 := c2) g1 (zfty_ok k2 hfit) (show Nat.blt j fs.length = true by rw [Nat.blt_eq]; exact hj)
            have hsj : iv_nth (fs.set j x) j = some x := by rw [iv_nth_set, if_pos ⟨rfl, hj⟩]
            refine ⟨pc + 3, clv, c2, iv_put σ a (.inr (ci, fs.set j x)), _, ρ, hf, List.mem_singleton.mpr rfl, ⟨hA.1, hA.2.1, h3, ?_, ?_⟩, ?_, zag_rf, Nat.le_refl _, zFr_f g1 k4⟩
            · intro q hq
              rcases List.mem_cons.mp hq with rfl | hq
              · exact ⟨b1.1, a, fs.set j x, x, ea, iv_gp_s g1, hsj, a1⟩
              · obtain ⟨q1, q2⟩ := zcd_in hq
                obtain ⟨m1, a2, fs2, x2, m2, m3, m4, m5⟩ := hA.2.2.2.1 q q1
                by_cases hba : a2 = a
                · subst hba
                  rw [g1] at m3
                  have e1 : ci = q.2.1 ∧ fs = fs2 := by
                    have := Option.some.inj m3
                    have := Sum.inr.inj this
                    exact ⟨congrArg Prod.fst this, congrArg Prod.snd this⟩
                  obtain ⟨e1, e2⟩ := e1
                  subst e2
                  refine ⟨m1, a2, fs.set j x, x2, m2, ?_, ?_, m5⟩
                  · rw [← e1]; exact iv_gp_s g1
                  · rw [iv_nth_set, if_neg (fun e => q2 ⟨e1.symm, e.1⟩)]
                    exact m4
                · exact ⟨m1, a2, fs2, x2, m2, iv_gp_n g1 m3 hba, m4, m5⟩
            · intro q hq
              obtain ⟨m1, m2, a2, i, tag, len, f2, m3, m4, m5, m6⟩ := hA.2.2.2.2 q hq
              have hba : a2 ≠ a := fun e => by rw [e, g1] at m5; cases m5
              exact ⟨m1, m2, a2, i, tag, len, f2, m3, m4, iv_gp_n g1 m5 hba, m6⟩
            · refine zI_put hI g1 (fun T hT => ?_)
              rw [hta, hty] at hT
              cases hT
              refine ⟨fs.set j x, rfl, by rw [List.length_set]; exact g2, ?_⟩
              intro i c9 x9 q1 q2
              rw [iv_nth_set] at q2
              split at q2
              · rename_i hh
                cases q2
                rw [hh.1, hc] at q1
                cases q1
                exact hfit
              · exact g3 i c9 x9 q1 q2
        · cases hg
      · cases hg
    · cases hg
  · cases hg
end ZHP
