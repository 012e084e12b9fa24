/-! ===== the checker's run ===== -/
/-- frames: method, pc, locals, stack -/
abbrev zfm : Type := Nat × Nat × List (Nat × zv) × List zv
/-- a return: what it gives -/
def zret (k : Nat) (A : zA) : Option (Option zv) := match k, A.2.2.1 with
  | 0, [] => some none
  | 1, [v] => bif Nat.beq v.1 0 then some (some v) else none
  | 2, [v] => bif Nat.beq v.1 0 && (zle 0 (zvl A.1 v) && zle (zvh A.1 v) 1) then some (some v) else none
  | 3, [v] => bif Nat.beq v.1 1 then some (some v) else none
  | 4, [v] => bif Nat.beq v.1 2 then some (some v) else none
  | _, _ => none
/-- does the state meet an exit? -/
def zex (ty : Nat → Option zt) (G : List (Nat × zv)) (A : zA) (res : Option zv) (X : zp) : Bool := match zlds ty G A X.1 with
  | some A1 => (match zlks A1 G res X.1 with
    | some vs => zfa A1 vs X.2 && (bif zhas3 X.1 then res.isSome else res.isNone)
    | none => false)
  | none => false
def zghs (G : List (Nat × zv)) (vs : List zv) : List (Nat × Nat) → Bool
  | [] => true
  | q :: r => match iv_f1 G q.1, iv_nth vs q.2 with
    | some w, some v => bif zv_eq w v then zghs G vs r else false
    | _, _ => false
/-- does it meet a cut point, with a lesser measure? -/
def zcx2 (ty : Nat → Option zt) (G : List (Nat × zv)) (m0 : zf) (A : zA) (t : zcut) : Bool := match A.2.2.1 with
  | [] => (match zlds ty G A t.2.1.1 with
    | some A1 => (match zlks A1 G none t.2.1.1 with
      | some vs => (zfa A1 vs t.2.1.2 && zghs G vs t.2.2.2) && (fun p => zle (zub A1.1.1 A1.1.2.1 (t.2.2.1.1 + p.1 - m0.1 + 1) (zl_cm (-1) p.2 m0.2)) 0) (zsb vs t.2.2.1.2)
      | none => false)
    | none => false)
  | _ :: _ => false
def zgd (gs : List (Nat × Nat)) : Bool := gs.all fun q => match iv_f1 gs q.1 with
  | some i => Nat.beq i q.2
  | none => false
def zsubm : zm → zm → Bool
  | [], _ => true
  | q :: r, ms => bif zmem q ms then zsubm r ms else false
/-- the exits: the states behind them -/
def zxs (gs : List (Nat × Nat)) (vs : List zv) (A : zA) (rest : List zv) : List zp → Option (List zA)
  | [] => some []
  | X :: r => match (bif zp_wf X then zxb gs vs A [] none X.1 else none) with
    | some q => (match zxs gs vs A rest r with
      | some o => some ((match zasL (q.1.1, q.1.2.1, q.2.2.toList ++ rest, q.1.2.2.2) (zxf q.2.1 X.2) with
        | some A3 => [A3]
        | none => []) ++ o)
      | none => none)
    | none => none
/-- a contract that serves: the states behind the call -/
def zcl1 (ty : Nat → Option zt) (ms : zm) (dep : Nat) (A : zA) (as rest : List zv) (k : zct) : Option (List zA) := bif Nat.blt k.2.1 dep && (zsubm k.2.2.1 ms && zgd k.2.2.2.1.2.2.2) then (match zlds ty [] (A.1, zlarg 0 as, [], A.2.2.2) k.2.2.2.1.2.1.1 with
    | some A1 => (match zlks A1 [] none k.2.2.2.1.2.1.1 with
      | some vs => bif zfa A1 vs k.2.2.2.1.2.1.2 then zxs k.2.2.2.1.2.2.2 vs (A1.1, A.2.1, rest, zcfF k.2.2.1 A1.2.2.2.1, zcaF A1.1.1 k.2.2.1 A1.2.2.2.2) rest k.2.2.2.2.2 else none
      | none => none)
    | none => none) else none
def zcl2 (ty : Nat → Option zt) (ms : zm) (dep mm : Nat) (A : zA) (as rest : List zv) : List zct → Option (List zA)
  | [] => none
  | k :: r => bif Nat.beq k.1 mm then (match zcl1 ty ms dep A as rest k with
    | some o => some o
    | none => zcl2 ty ms dep mm A as rest r) else zcl2 ty ms dep mm A as rest r
/-- what an instruction itself may change: what the further property J does not look at -/
abbrev zsf2 : Type := Nat × Nat × Nat → Bool
def zflt (sf : zsf2) : zm → zm
  | [] => []
  | q :: r => bif sf q then q :: zflt sf r else zflt sf r
abbrev zY : Type := Bool → List zfm → Nat → Nat → Nat → zA → Bool
/-- stores that J lets pass: of an int into an array; into a field -/
abbrev zso : Type := (zA → Bool) × (Nat → Nat → zA → Bool)
/-- steps by hand: what may change, how deep, the states behind them -/
abbrev zmo : Type := Nat → Nat → Option (zm × Nat × (zA → Option (List (Nat × zA))))
/-- oracles: what J says of values at a place, by cases; stores; steps by hand -/
abbrev zorc : Type := (Nat → Nat → Option (zA → Option (List zA))) × zso × zmo
def zjc (so : zso) (own : Nat) (i : Instr) (A : zA) : Bool := match i with
  | .iastore => so.1 A
  | .putfield k => (match iv_f1 (iv_ls own) k with
    | some (0, ci, j, _, _) => so.2 ci j A
    | _ => false)
  | _ => false
def zdo1 (τ : Nat → Nat) (ty : Nat → Option zt) (sf : zsf2) (oc : zorc) (T : List zct) (inl : List Nat) (c : zct) (G : List (Nat × zv)) (ih : zY) (fs : List zfm) (M pc dep : Nat) (A : zA) (i : Instr) : Bool := match iv_op M (iv_m M).2.1 (iv_m M).2.2.1 (iv_m M).2.2.2.1 i with
  | .inl _ => (match zins τ ty (bif zjc oc.2.1 (iv_m M).2.1 i A then c.2.2.1 else zflt sf c.2.2.1) M (iv_m M).2.1 (iv_m M).2.2.1 i with
    | some g => (match g pc A with
      | some outs => outs.all fun q => ih false fs M q.1 dep q.2
      | none => false)
    | none => false)
  | .inr (.inl k) => (match zret k A with
    | some r => (match fs with
      | [] => c.2.2.2.2.2.any (zex ty G A r)
      | f :: fs2 => ih false fs2 f.1 f.2.1 (dep + 1) (A.1, f.2.2.1, r.toList ++ f.2.2.2, A.2.2.2))
    | none => false)
  | .inr (.inr (kind, mm, nn, ci)) => (match zargs ty kind nn ci A with
    | some (as, rest) => bif Nat.ble (zcs as) (iv_m mm).2.2.1 && Nat.ble 1 dep then (bif iv_mem mm inl then ih false ((M, pc + 3, A.2.1, rest) :: fs) mm 0 (dep - 1) (A.1, zlarg 0 as, [], A.2.2.2) else (match zcl2 ty c.2.2.1 dep mm A as rest T with
      | some outs => outs.all fun A2 => ih false fs M (pc + 3) dep A2
      | none => false)) else false
    | none => false)
def zdo (τ : Nat → Nat) (ty : Nat → Option zt) (sf : zsf2) (oc : zorc) (T : List zct) (inl : List Nat) (c : zct) (G : List (Nat × zv)) (ih : zY) (fs : List zfm) (M pc dep : Nat) (A : zA) (i : Instr) : Bool := match oc.2.2 M pc with
  | some q => bif zsubm q.1 c.2.2.1 && Nat.ble q.2.1 dep then (match q.2.2 A with
    | some outs => outs.all fun q => ih false fs M q.1 dep q.2
    | none => false) else false
  | none => (match oc.1 M pc with
    | none => zdo1 τ ty sf oc T inl c G ih fs M pc dep A i
    | some g => (match g A with
      | some outs => outs.all fun A2 => zdo1 τ ty sf oc T inl c G ih fs M pc dep A2 i
      | none => false))
/-- is it a cut point? -/
def zatc (c : zct) (first : Bool) (fs : List zfm) (M pc : Nat) : Bool := bif first then false else match fs with
  | [] => Nat.beq M c.1 && c.2.2.2.2.1.any (fun t => Nat.beq t.1 pc)
  | _ :: _ => false
theorem zatc_in {c : zct} {first : Bool} {fs : List zfm} {M pc : Nat} (h : zatc c first fs M pc = true) : fs = [] ∧ M = c.1 := by
  unfold zatc at h
  cases first
  · simp only [cond_false] at h
    split at h
    · rw [Bool.and_eq_true] at h
      exact ⟨rfl, Nat.eq_of_beq_eq_true h.1⟩
    · cases h
  · cases h
def zstep (τ : Nat → Nat) (ty : Nat → Option zt) (sf : zsf2) (oc : zorc) (T : List zct) (inl : List Nat) (c : zct) (G : List (Nat × zv)) (m0 : zf) (ih : zY) : zY := fun first fs M pc dep A => bif zatc c first fs M pc then c.2.2.2.2.1.any (fun t => Nat.beq t.1 pc && zcx2 ty G m0 A t)
  else match iv_f1 (iv_m M).2.2.2.2 pc with
    | some q => zdo τ ty sf oc T inl c G ih fs M pc dep A q.1
    | none => false
noncomputable def zrun (τ : Nat → Nat) (ty : Nat → Option zt) (sf : zsf2) (oc : zorc) (T : List zct) (inl : List Nat) (c : zct) (G : List (Nat × zv)) (m0 : zf) (n : Nat) : zY := Nat.rec (fun _ _ _ _ _ _ => false) (fun _ ih => zstep τ ty sf oc T inl c G m0 ih) n
/-- one of its points checked -/
noncomputable def zpt (τ : Nat → Nat) (ty : Nat → Option zt) (sf : zsf2) (oc : zorc) (T : List zct) (inl : List Nat) (c : zct) (n : Nat) (t : zcut) : Bool := ((zp_wf t.2.1 && zgd t.2.2.2) && (zl_wf t.2.1.1.length t.2.2.1.2 && zle 0 (zlb (zcons t.2.1.1) t.2.1.2 t.2.2.1.1 t.2.2.1.2))) && zrun τ ty sf oc T inl c (zpG t.2.1 t.2.2.2) t.2.2.1 n true [] c.1 t.1 c.2.1 (zpA t.2.1)
/-- the certificate of a method -/
noncomputable def zchk (τ : Nat → Nat) (ty : Nat → Option zt) (sf : zsf2) (oc : zorc) (T : List zct) (inl : List Nat) (n : Nat) (c : zct) : Bool := ((Nat.beq c.2.2.2.1.1 0 && c.2.2.2.1.2.1.1.all (fun q => Nat.beq q.1.1 0 || Nat.beq q.1.1 1)) && c.2.2.2.2.2.all (fun X => X.1.all (fun q => Nat.beq q.1.1 2 || (Nat.beq q.1.1 3 || Nat.beq q.1.1 5)))) && (zpt τ ty sf oc T inl c n c.2.2.2.1 && c.2.2.2.2.1.all (zpt τ ty sf oc T inl c n))
/-- what a contract says -/
def zCT (τ : Nat → Nat) (ty : Nat → Option zt) (J : iv_H → Prop) (c : zct) : Prop := ∀ (L : Nat) (xs : Nat → Int32) (d : Nat) (cas : List Value) (σ : iv_H) (ρ : Nat → Int), c.2.1 ≤ d → zI τ ty σ → J σ → zP_ok τ (fun _ => 0) (lv_args 0 cas) none σ c.2.2.2.1.2.1 ρ → ∃ (r : Option Value) (σ' : iv_H), iv_Rn L xs d c.1 0 (lv_args 0 cas) [] σ r σ' ∧ zI τ ty σ' ∧ J σ' ∧ zFr τ c.2.2.1 σ σ' ∧ ∃ X ∈ c.2.2.2.2.2, (∃ ρX, zP_ok τ (zγ c.2.2.2.1.2.2.2 ρ) [] r σ' X ρX) ∧ (zhas3 X.1 = true → r.isSome = true) ∧ (zhas3 X.1 = false → r = none)
