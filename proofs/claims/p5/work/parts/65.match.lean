/-! ===== a state meets a template ===== -/
section ZMT
variable {τ : Nat → Nat} {ty : Nat → Option zt} {ρ γ : Nat → Int} {A : zA} {G : List (Nat × zv)} {res : Option zv} {clv : iv_L} {cst : List Value} {σ : iv_H} {r : Option Value}
theorem zty_ev {E : List zc} (h : zE_ok τ E ρ) {v : zv} {t : Nat} (ht : zty E v = some t) : 0 ≤ zv_ev ρ v ∧ τ (zv_ev ρ v).toNat = t := by
  unfold zty at ht
  split at ht
  · rename_i s
    have e1 : zv_ev ρ (2, (.ofNat 0 : Int), [(s, (.ofNat 1 : Int))]) = ρ s := zev1
    split at ht
    · rename_i t2 lo hi hc
      cases ht
      obtain ⟨_, _, h3⟩ := h s _ hc
      rw [e1]
      exact h3 (by show 2 ≤ t + 2; omega)
    · cases ht
  · cases ht
theorem zfv_ev {B : zB} (h : zB_ok τ ty ρ B) {c : zc} {v : zv} (hw : zl_wf B.1.length v.2.2 = true) (hf : zfv B c v = true) : c.2.1 ≤ zv_ev ρ v ∧ zv_ev ρ v ≤ c.2.2 ∧ (2 ≤ c.1 → 0 ≤ zv_ev ρ v ∧ τ (zv_ev ρ v).toNat = c.1 - 2) := by
  unfold zfv at hf
  rw [Bool.and_eq_true, Bool.and_eq_true] at hf
  have g1 := zle_iff.mp hf.2.1
  have g2 := zle_iff.mp hf.2.2
  have g3 := zvl_ok h hw
  have g4 := zvh_ok h hw
  refine ⟨by omega, by omega, fun h2 => ?_⟩
  have h0 := hf.1
  split at h0
  · omega
  · omega
  · rename_i t hk
    split at h0
    · rename_i t2 ht
      have e := Nat.eq_of_beq_eq_true h0
      subst e
      obtain ⟨q1, q2⟩ := zty_ev h.1 ht
      refine ⟨q1, ?_⟩
      rw [q2, hk]
      omega
    · cases h0
theorem zfv_kd {B : zB} {c : zc} {v : zv} (hf : zfv B c v = true) : v.1 = zk c.1 := by
  unfold zfv at hf
  rw [Bool.and_eq_true] at hf
  have h0 := hf.1
  split at h0
  · rename_i hk; rw [hk]; exact Nat.eq_of_beq_eq_true h0
  · rename_i hk; rw [hk]; exact Nat.eq_of_beq_eq_true h0
  · rename_i t hk
    rw [hk]
    split at h0
    · rename_i t2 ht
      unfold zty at ht
      split at ht
      · rfl
      · cases ht
    · cases h0
theorem zok_dk {n k : Nat} {v : zv} {x : Value} (h : zok ρ n v x) (hk : v.1 = zk k) : zdk (zk k) (zv_ev ρ v) x := by
  have hd := h.2
  unfold zdn at hd
  rw [hk] at hd
  rcases k with _ | _ | k
  · exact hd
  · exact hd
  · exact hd
theorem zlk_ok (hA : zA_ok τ ty ρ A clv cst σ) (hG : zG_ok ρ A.1.1.length γ G) (hr : ∀ v, res = some v → ∃ x, r = some x ∧ zok ρ A.1.1.length v x) {b : zb} {c : zc} {v : zv} (hl : zlk A G res b = some v) (hf : zfv A.1 c v = true) : zl_wf A.1.1.length v.2.2 = true ∧ zsrc γ clv r σ b c.1 (zv_ev ρ v) := by
  have hk := zfv_kd hf
  unfold zlk at hl
  unfold zsrc
  split at hl
  · rename_i e
    try rw [e]
    obtain ⟨x, h1, h2⟩ := zlv_at hA.2.1 hl
    exact ⟨h2.1, x, h1, zok_dk h2 hk⟩
  · rename_i e
    try rw [e]
    split at hl
    · rename_i o ho
      cases hb : Nat.beq o.1 2
      · rw [hb] at hl; cases hl
      · rw [hb] at hl
        obtain ⟨x0, h1, h2⟩ := zlv_at hA.2.1 ho
        obtain ⟨a0, rfl, ea⟩ := zdn2 h2.2 (Nat.eq_of_beq_eq_true hb)
        obtain ⟨m1, a, fs, x, m2, m3, m4, m5⟩ := hA.2.2.2.1 _ (zfnd_in hl)
        have e9 : a0 = a := by have m2 : (a : Int) = zv_ev ρ o := m2; omega
        subst e9
        exact ⟨m5.1, a0, fs, x, h1, m3, m4, zok_dk m5 hk⟩
    · cases hl
  · rename_i e
    try rw [e]
    obtain ⟨h1, h2⟩ := hG _ (iv_f1_in _ _ _ hl)
    exact ⟨h1, h2⟩
  · rename_i e
    try rw [e]
    obtain ⟨x, h1, h2⟩ := hr v hl
    exact ⟨h2.1, x, h1, zok_dk h2 hk⟩
  · rename_i e
    try rw [e]
    split at hl
    · rename_i o ho
      obtain ⟨h1, h2⟩ := hG _ (iv_f1_in _ _ _ ho)
      obtain ⟨m1, a, fs, x, m2, m3, m4, m5⟩ := hA.2.2.2.1 _ (zfnd_in hl)
      have m2 : (a : Int) = zv_ev ρ o := m2
      exact ⟨m5.1, a, fs, x, m2.trans h2, m3, m4, zok_dk m5 hk⟩
    · cases hl
  · cases hl
theorem zlks_ok (hA : zA_ok τ ty ρ A clv cst σ) (hG : zG_ok ρ A.1.1.length γ G) (hr : ∀ v, res = some v → ∃ x, r = some x ∧ zok ρ A.1.1.length v x) : ∀ {l : List (zb × zc)} {vs : List zv}, zlks A G res l = some vs → (∀ v ∈ vs, zl_wf A.1.1.length v.2.2 = true) ∧ ∀ (i : Nat) (b : zb) (c : zc), iv_nth l i = some (b, c) → ∃ v, iv_nth vs i = some v ∧ zsrc γ clv r σ b c.1 (zv_ev ρ v) ∧ c.2.1 ≤ zv_ev ρ v ∧ zv_ev ρ v ≤ c.2.2 ∧ (2 ≤ c.1 → 0 ≤ zv_ev ρ v ∧ τ (zv_ev ρ v).toNat = c.1 - 2)
  | [], vs, h => by
    cases h
    exact ⟨fun v hv => (by cases hv), fun i b c hi => (by cases hi)⟩
  | q :: l, vs, h => by
    unfold zlks at h
    split at h
    · rename_i v hv
      cases hb : zfv A.1 q.2 v
      · rw [hb] at h; cases h
      · rw [hb] at h
        simp only [cond_true] at h
        split at h
        · rename_i vs2 hvs
          cases h
          obtain ⟨g1, g2⟩ := zlks_ok hA hG hr hvs
          obtain ⟨k1, k2⟩ := zlk_ok hA hG hr hv hb
          refine ⟨fun w hw => ?_, fun i b c hi => ?_⟩
          · rcases List.mem_cons.mp hw with rfl | hw
            · exact k1
            · exact g1 w hw
          · cases i with
            | zero =>
              cases hi
              obtain ⟨e1, e2, e3⟩ := zfv_ev hA.1 k1 hb
              exact ⟨v, rfl, k2, e1, e2, e3⟩
            | succ i => exact g2 i b c hi
        · cases h
    · cases h
/-- the values' assignment is one of the template -/
theorem zP_of (hA : zA_ok τ ty ρ A clv cst σ) (hG : zG_ok ρ A.1.1.length γ G) (hr : ∀ v, res = some v → ∃ x, r = some x ∧ zok ρ A.1.1.length v x) {P : zp} {vs : List zv} (h : zlks A G res P.1 = some vs) (hf : zfa A vs P.2 = true) : zP_ok τ γ clv r σ P (zρ ρ vs) := by
  obtain ⟨g1, g2⟩ := zlks_ok hA hG hr h
  refine ⟨?_, ?_, ?_⟩
  · intro s c hc
    obtain ⟨b, hb⟩ := zcons_nth hc
    obtain ⟨v, e1, _, e2, e3, e4⟩ := g2 s b c hb
    have ev : zρ ρ vs s = zv_ev ρ v := by unfold zρ; rw [e1]
    rw [ev]
    exact ⟨e2, e3, e4⟩
  · intro f hfm
    have main : ∀ {F : List zf}, zfa A vs F = true → f ∈ F → f.1 + zl_ev (zρ ρ vs) f.2 ≤ 0 := by
      intro F
      induction F with
      | nil => intro _ h9; cases h9
      | cons p F ih =>
        intro hz hm
        unfold zfa at hz
        dsimp only at hz
        cases hb : zle (zub A.1.1 A.1.2.1 (p.1 + (zsb vs p.2).1) (zsb vs p.2).2) 0 || zle (zuD A.1.1 A.1.2.1 4 (p.1 + (zsb vs p.2).1) (zsb vs p.2).2) 0
        · rw [hb] at hz; cases hz
        · rw [hb] at hz
          rcases List.mem_cons.mp hm with rfl | hm
          · have h3 := zsb_ev (ρ := ρ) (vs := vs) (l := f.2)
            rw [Bool.or_eq_true] at hb
            rcases hb with hb | hb
            · have h1 := zle_iff.mp hb
              have h2 := zub_ok hA.1.1 hA.1.2.1 (c := f.1 + (zsb vs f.2).1) (l := (zsb vs f.2).2) (zsb_wf g1)
              omega
            · have h1 := zle_iff.mp hb
              have h2 := zuD_ok hA.1.1 hA.1.2.1 (n := 4) (c := f.1 + (zsb vs f.2).1) (l := (zsb vs f.2).2) (zsb_wf g1)
              omega
          · exact ih hz hm
    exact main hf hfm
  · intro i b c hi
    obtain ⟨v, e1, e2, _⟩ := g2 i b c hi
    have ev : zρ ρ vs i = zv_ev ρ v := by unfold zρ; rw [e1]
    rw [ev]
    exact e2
/-- a field is made known -/
def zld (ty : Nat → Option zt) (A : zA) (o : zv) (ci j : Nat) : Option zA := match zfnd o ci j A.2.2.2.1 with
  | some _ => some A
  | none => (match zty A.1.1 o with
    | some t => (match ty t with
      | some (.inl (c2, cs)) => bif Nat.beq ci c2 then (match iv_nth cs j with
        | some c => some ((fun n => ((A.1.1 ++ [c], A.1.2), A.2.1, A.2.2.1, (o, ci, j, (zk c.1, 0, [(n, 1)])) :: A.2.2.2.1, A.2.2.2.2)) A.1.1.length)
        | none => none) else none
      | _ => none)
    | none => none)
end ZMT
