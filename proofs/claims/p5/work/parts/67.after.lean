/-! ===== behind a call ===== -/
/-- pc, template, measure, ghosts (number, symbol) -/
abbrev zcut : Type := Nat × zp × zf × List (Nat × Nat)
/-- method, height, what may change, the entry, the cut points, the exits -/
abbrev zct : Type := Nat × Nat × zm × zcut × List zcut × List zp
def zγ (gs : List (Nat × Nat)) (ρ : Nat → Int) : Nat → Int := fun g => match iv_f1 gs g with
  | some i => ρ i
  | none => 0
def zhas3 : List (zb × zc) → Bool
  | [] => false
  | q :: r => bif Nat.beq q.1.1 3 then true else zhas3 r
/-- known fields, known places that a call leaves -/
def zcfF (ms : zm) : List (zv × Nat × Nat × zv) → List (zv × Nat × Nat × zv)
  | [] => []
  | q :: r => bif zmem (0, q.2.1, q.2.2.1) ms then zcfF ms r else q :: zcfF ms r
def zcaF (E : List zc) (ms : zm) : List (zv × zv × zv) → List (zv × zv × zv)
  | [] => []
  | q :: r => match zty E q.1 with
    | some t => bif zmt t ms then zcaF E ms r else q :: zcaF E ms r
    | none => zcaF E ms r
/-- an exit's sources, as symbols of the state: the state, the values, the answer -/
def zxb (gs : List (Nat × Nat)) (vs : List zv) : zA → List zv → Option zv → List (zb × zc) → Option (zA × List zv × Option zv)
  | A, ws, res, [] => some (A, ws, res)
  | A, ws, res, q :: r => match q.1.1 with
    | 3 => (fun n => zxb gs vs (zfr A q.2 []) (ws ++ [zsy q.2.1 n]) (some (zsy q.2.1 n)) r) A.1.1.length
    | 5 => (match iv_f1 gs q.1.2.1 with
      | some i => (match iv_nth vs i with
        | some o => (fun n => zxb gs vs ((A.1.1 ++ [q.2], A.1.2), A.2.1, A.2.2.1, (o, q.1.2.2.1, q.1.2.2.2, zsy q.2.1 n) :: A.2.2.2.1, A.2.2.2.2) (ws ++ [zsy q.2.1 n]) res r) A.1.1.length
        | none => none)
      | none => none)
    | 2 => (match iv_f1 gs q.1.2.1 with
      | some i => (match iv_nth vs i with
        | some o => zxb gs vs A (ws ++ [o]) res r
        | none => none)
      | none => none)
    | _ => none
/-- the exit's facts -/
def zxf (ws : List zv) : List zf → List zf
  | [] => []
  | f :: r => ((fun p => (f.1 + p.1, p.2)) (zsb ws f.2) : zf) :: zxf ws r
section ZAF
variable {τ : Nat → Nat} {ty : Nat → Option zt} {γ : Nat → Int} {clv : iv_L} {cst : List Value} {σ : iv_H}
theorem zcfF_in {ms : zm} : ∀ {C : List (zv × Nat × Nat × zv)} {q : zv × Nat × Nat × zv}, q ∈ zcfF ms C → q ∈ C ∧ zmem (0, q.2.1, q.2.2.1) ms = false
  | [], q, h => by cases h
  | p :: r, q, h => by
    unfold zcfF at h
    cases hb : zmem (0, p.2.1, p.2.2.1) ms
    · rw [hb] at h
      rcases List.mem_cons.mp h with rfl | h
      · exact ⟨List.mem_cons_self, hb⟩
      · exact ⟨List.mem_cons_of_mem _ (zcfF_in h).1, (zcfF_in h).2⟩
    · rw [hb] at h
      exact ⟨List.mem_cons_of_mem _ (zcfF_in h).1, (zcfF_in h).2⟩
theorem zcaF_in {E : List zc} {ms : zm} : ∀ {C : List (zv × zv × zv)} {q : zv × zv × zv}, q ∈ zcaF E ms C → q ∈ C ∧ ∃ t, zty E q.1 = some t ∧ zmt t ms = false
  | [], q, h => by cases h
  | p :: r, q, h => by
    unfold zcaF at h
    split at h
    · rename_i t ht
      cases hb : zmt t ms
      · rw [hb] at h
        rcases List.mem_cons.mp h with rfl | h
        · exact ⟨List.mem_cons_self, t, ht, hb⟩
        · exact ⟨List.mem_cons_of_mem _ (zcaF_in h).1, (zcaF_in h).2⟩
      · rw [hb] at h
        exact ⟨List.mem_cons_of_mem _ (zcaF_in h).1, (zcaF_in h).2⟩
    · exact ⟨List.mem_cons_of_mem _ (zcaF_in h).1, (zcaF_in h).2⟩
/-- the caller's state, with what the call leaves of it -/
theorem zafter {ρ : Nat → Int} {A : zA} {ms : zm} {σ' : iv_H} (hA : zA_ok τ ty ρ A clv cst σ) (hF : zFr τ ms σ σ') {lv : List (Nat × zv)} {st : List zv} {clv2 : iv_L} {cst2 : List Value} (hlv : zlv_ok ρ A.1.1.length lv clv2) (hst : zst_ok ρ A.1.1.length st cst2) : zA_ok τ ty ρ (A.1, lv, st, zcfF ms A.2.2.2.1, zcaF A.1.1 ms A.2.2.2.2) clv2 cst2 σ' := by
  refine ⟨hA.1, hlv, hst, ?_, ?_⟩
  · intro q hq
    obtain ⟨h1, h2⟩ := zcfF_in hq
    obtain ⟨m1, a, fs, x, m2, m3, m4, m5⟩ := hA.2.2.2.1 q h1
    obtain ⟨fs', g1, g2⟩ := (hF.2 a).1 _ _ m3
    exact ⟨m1, a, fs', x, m2, g1, by rw [g2 _ h2]; exact m4, m5⟩
  · intro q hq
    obtain ⟨h1, t, h2, h3⟩ := zcaF_in hq
    obtain ⟨m1, m2, a, i, tag, len, f, m3, m4, m5, m6⟩ := hA.2.2.2.2 q h1
    have ht := zca_ty hA.1.1 m1 m3 h2
    exact ⟨m1, m2, a, i, tag, len, f, m3, m4, (hF.2 a).2.1 _ m5 (by rw [ht]; exact h3), m6⟩
theorem zsnoc {α : Type} {l : List α} {x : α} {n : Nat} {y : α} (h : iv_nth (l ++ [x]) n = some y) : (n = l.length ∧ y = x) ∨ (n < l.length ∧ iv_nth l n = some y) := by
  rw [iv_nth_app] at h
  split at h
  · rename_i e
    cases h
    exact .inl ⟨e, rfl⟩
  · exact .inr ⟨iv_nth_lt h, h⟩
theorem zxb_ok {gs : List (Nat × Nat)} {vs : List zv} {r : Option Value} {ρX : Nat → Int} : ∀ {l : List (zb × zc)} {ρ : Nat → Int} {A A' : zA} {ws ws' : List zv} {res res' : Option zv}, zA_ok τ ty ρ A clv cst σ → (∀ v ∈ vs, zl_wf A.1.1.length v.2.2 = true) → (∀ (g i : Nat) (v : zv), iv_f1 gs g = some i → iv_nth vs i = some v → zv_ev ρ v = γ g) → (∀ (j : Nat) (b : zb) (c : zc), iv_nth l j = some (b, c) → zsrc γ [] r σ b c.1 (ρX (ws.length + j)) ∧ c.2.1 ≤ ρX (ws.length + j) ∧ ρX (ws.length + j) ≤ c.2.2 ∧ (2 ≤ c.1 → 0 ≤ ρX (ws.length + j) ∧ τ (ρX (ws.length + j)).toNat = c.1 - 2)) → (∀ (k : Nat) (w : zv), iv_nth ws k = some w → zl_wf A.1.1.length w.2.2 = true ∧ zv_ev ρ w = ρX k) → (∀ v, res = some v → ∃ x, r = some x ∧ zok ρ A.1.1.length v x) → zxb gs vs A ws res l = some (A', ws', res') →
    ∃ ρ', zA_ok τ ty ρ' A' clv cst σ ∧ zag A.1.1.length ρ ρ' ∧ A.1.1.length ≤ A'.1.1.length ∧ A'.2.1 = A.2.1 ∧ A'.2.2.1 = A.2.2.1 ∧ (∀ (k : Nat) (w : zv), iv_nth ws' k = some w → zl_wf A'.1.1.length w.2.2 = true ∧ zv_ev ρ' w = ρX k) ∧ (∀ v, res' = some v → ∃ x, r = some x ∧ zok ρ' A'.1.1.length v x) ∧ (res.isSome || zhas3 l) = res'.isSome
  | [], ρ, A, A', ws, ws', res, res', hA, _, _, _, hws, hres, h => by
    cases h
    exact ⟨ρ, hA, zag_rf, Nat.le_refl _, rfl, rfl, hws, hres, by simp [zhas3]⟩
  | q :: l, ρ, A, A', ws, ws', res, res', hA, hvs, hγ, hl, hws, hres, h => by
    obtain ⟨s1, s2, s3, s4⟩ := hl 0 q.1 q.2 rfl
    rw [Nat.add_zero] at s1 s2 s3 s4
    have hl2 : ∀ (w : zv) (j : Nat) (b : zb) (c : zc), iv_nth l j = some (b, c) → zsrc γ [] r σ b c.1 (ρX ((ws ++ [w]).length + j)) ∧ c.2.1 ≤ ρX ((ws ++ [w]).length + j) ∧ ρX ((ws ++ [w]).length + j) ≤ c.2.2 ∧ (2 ≤ c.1 → 0 ≤ ρX ((ws ++ [w]).length + j) ∧ τ (ρX ((ws ++ [w]).length + j)).toNat = c.1 - 2) := fun w j b c hj => by
      have := hl (j + 1) b c hj
      rw [show (ws ++ [w]).length + j = ws.length + (j + 1) by simp; omega]
      exact this
    have hnew : zA_ok τ ty (zup ρ A.1.1.length (ρX ws.length)) (zfr A q.2 []) clv cst σ := zfr_ok hA ⟨s2, s3, s4⟩ (fun d hd => by cases hd)
    have hlen : (zfr A q.2 []).1.1.length = A.1.1.length + 1 := by simp [zfr]
    have hag := zup_ag (ρ := ρ) (n := A.1.1.length) (x := ρX ws.length)
    have hle : A.1.1.length ≤ (zfr A q.2 []).1.1.length := by omega
    have hvs2 : ∀ v ∈ vs, zl_wf (zfr A q.2 []).1.1.length v.2.2 = true := fun v hv => zl_wf_le hle (hvs v hv)
    have hγ2 : ∀ (g i : Nat) (v : zv), iv_f1 gs g = some i → iv_nth vs i = some v → zv_ev (zup ρ A.1.1.length (ρX ws.length)) v = γ g := fun g i v h1 h2 => by
      rw [zv_ag hag (hvs v (zn_in h2))]
      exact hγ g i v h1 h2
    have hws2 : ∀ (k : Nat) (w : zv), iv_nth (ws ++ [zsy q.2.1 A.1.1.length]) k = some w → zl_wf (zfr A q.2 []).1.1.length w.2.2 = true ∧ zv_ev (zup ρ A.1.1.length (ρX ws.length)) w = ρX k := fun k w hk => by
      rcases zsnoc hk with ⟨rfl, rfl⟩ | ⟨h1, h2⟩
      · refine ⟨zl_wf_c.mpr ⟨by omega, rfl⟩, ?_⟩
        rw [zsy_ev, zup_s]
      · obtain ⟨k1, k2⟩ := hws k w h2
        exact ⟨zl_wf_le hle k1, by rw [zv_ag hag k1]; exact k2⟩
    unfold zxb at h
    split at h
    · rename_i e
      unfold zsrc at s1
      rw [e] at s1
      obtain ⟨x, hx, hd⟩ := s1
      have hd2 : zdk (zk q.2.1) (zup ρ A.1.1.length (ρX ws.length) A.1.1.length) x := by rw [zup_s]; exact hd
      obtain ⟨ρ2, b1, b2, b3, b4, b5, b6, b7, b8⟩ := zxb_ok (A := zfr A q.2 []) hnew hvs2 hγ2 (hl2 _) hws2 (fun v hv => by cases hv; exact ⟨x, hx, zsy_ok (by omega) hd2⟩) h
      refine ⟨ρ2, b1, zag_tr hag b2 hle, Nat.le_trans hle b3, b4, b5, b6, b7, ?_⟩
      rw [← b8]
      unfold zhas3
      rw [e]
      simp
    · rename_i e
      have e3 : Nat.beq q.1.1 3 = false := by rw [e]; rfl
      split at h
      · rename_i i hi
        split at h
        · rename_i o ho
          unfold zsrc at s1
          rw [e] at s1
          obtain ⟨a, fs, x, q1, q2, q3, q4⟩ := s1
          have hd2 : zdk (zk q.2.1) (zup ρ A.1.1.length (ρX ws.length) A.1.1.length) x := by rw [zup_s]; exact q4
          have how := hvs o (zn_in ho)
          have hA2 : zA_ok τ ty (zup ρ A.1.1.length (ρX ws.length)) ((A.1.1 ++ [q.2], A.1.2), A.2.1, A.2.2.1, (o, q.1.2.2.1, q.1.2.2.2, zsy q.2.1 A.1.1.length) :: A.2.2.2.1, A.2.2.2.2) clv cst σ := by
            refine ⟨hnew.1, hnew.2.1, hnew.2.2.1, ?_, hnew.2.2.2.2⟩
            intro z hz
            rcases List.mem_cons.mp hz with rfl | hz
            · exact ⟨zl_wf_le hle how, a, fs, x, by rw [hγ2 _ i o hi ho]; exact q1, q2, q3, zsy_ok (by show A.1.1.length < (zfr A q.2 []).1.1.length; omega) hd2⟩
            · exact hnew.2.2.2.1 z hz
          obtain ⟨ρ2, b1, b2, b3, b4, b5, b6, b7, b8⟩ := zxb_ok (A := ((A.1.1 ++ [q.2], A.1.2), A.2.1, A.2.2.1, (o, q.1.2.2.1, q.1.2.2.2, zsy q.2.1 A.1.1.length) :: A.2.2.2.1, A.2.2.2.2)) hA2 hvs2 hγ2 (hl2 _) hws2 (fun v hv => by
            obtain ⟨y, k1, k2⟩ := hres v hv
            exact ⟨y, k1, zok_ag hag hle k2⟩) h
          refine ⟨ρ2, b1, zag_tr hag b2 hle, Nat.le_trans hle b3, b4, b5, b6, b7, ?_⟩
          rw [← b8]
          congr 1
          show (bif Nat.beq q.1.1 3 then true else zhas3 l) = zhas3 l
          rw [e3]
          rfl
        · cases h
      · cases h
    · rename_i e
      have e3 : Nat.beq q.1.1 3 = false := by rw [e]; rfl
      split at h
      · rename_i i hi
        split at h
        · rename_i o ho
          unfold zsrc at s1
          rw [e] at s1
          have s1 : ρX ws.length = γ q.1.2.1 := s1
          obtain ⟨ρ2, b1, b2, b3, b4, b5, b6, b7, b8⟩ := zxb_ok (A := A) hA hvs hγ (hl2 _) (fun k w hk => by
            rcases zsnoc hk with ⟨rfl, rfl⟩ | ⟨h1, h2⟩
            · exact ⟨hvs w (zn_in ho), by rw [hγ _ i w hi ho]; exact s1.symm⟩
            · exact hws k w h2) hres h
          refine ⟨ρ2, b1, b2, b3, b4, b5, b6, b7, ?_⟩
          rw [← b8]
          congr 1
          show (bif Nat.beq q.1.1 3 then true else zhas3 l) = zhas3 l
          rw [e3]
          rfl
        · cases h
      · cases h
    · cases h
end ZAF
