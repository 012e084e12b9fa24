/-! ===== each operation, read and unread ===== -/
theorem s_go (ρ : Nat → Int32) {pc pc' : Nat} {off : Int} {lv lv' : iv_L} {r st' : List Value} {σ σ' : iv_H} (h : iv_go pc off lv r σ = some (pc', lv', st', σ')) : iv_go pc off (sL ρ lv) (sS ρ r) σ = some (pc', sL ρ lv', sS ρ st', σ') := by
  unfold iv_go at h ⊢
  split at h
  · cases h
    rfl
  · cases h
theorem s_br (ρ : Nat → Int32) {b : Bool} {pc pc' : Nat} {off : Int} {lv lv' : iv_L} {r st' : List Value} {σ σ' : iv_H} (h : iv_br b pc off lv r σ = some (pc', lv', st', σ')) : iv_br b pc off (sL ρ lv) (sS ρ r) σ = some (pc', sL ρ lv', sS ρ st', σ') := by
  unfold iv_br at h ⊢
  split at h
  · cases b <;> cases h <;> rfl
  · cases h
theorem s_fit (ρ : Nat → Int32) {ty : FieldType} {v : Value} (h : iv_fit ty v = true) : sv ρ v = v := by
  cases v <;> first | rfl | (cases ty <;> cases h)
theorem iv_sb_N  : iv_sb iv_oN := by
  intro ρ xs0 pc lv st σ pc' lv' st' σ' h
  cases h
theorem iv_sb_KI (v : Int32) (len : Nat) : iv_sb (iv_oK (.int v) len) := by
  intro ρ xs0 pc lv st σ pc' lv' st' σ' h
  cases h
  rfl
theorem iv_sb_KJ (v : Int64) (len : Nat) : iv_sb (iv_oK (.long v) len) := by
  intro ρ xs0 pc lv st σ pc' lv' st' σ' h
  cases h
  rfl
theorem iv_sb_I (k len : Nat) : iv_sb (iv_oI k len) := by
  intro ρ xs0 pc lv st σ pc' lv' st' σ' h
  unfold iv_oI at h ⊢
  rw [sL_f1]
  split at h
  · rename_i x hx
    rw [hx]
    cases h
    rfl
  · cases h
theorem iv_sb_J (k len : Nat) : iv_sb (iv_oJ k len) := by
  intro ρ xs0 pc lv st σ pc' lv' st' σ' h
  unfold iv_oJ at h ⊢
  rw [sL_f1]
  split at h
  · rename_i x hx
    rw [hx]
    cases h
    rfl
  · cases h
theorem iv_sb_A (k len : Nat) : iv_sb (iv_oA k len) := by
  intro ρ xs0 pc lv st σ pc' lv' st' σ' h
  unfold iv_oA at h ⊢
  rw [sL_f1]
  split at h
  · rename_i x hx
    rw [hx]
    cases h
    rfl
  · cases h
theorem iv_sb_IS (k len : Nat) : iv_sb (iv_oIS k len) := by
  intro ρ xs0 pc lv st σ pc' lv' st' σ' h
  unfold iv_oIS at h ⊢
  split at h
  · cases h
    show some (_, (_, _) :: iv_d1 k (sL ρ lv), _, _) = _
    rw [sL_d1]
    rfl
  · cases h
theorem iv_sb_JS (k len : Nat) : iv_sb (iv_oJS k len) := by
  intro ρ xs0 pc lv st σ pc' lv' st' σ' h
  unfold iv_oJS at h ⊢
  split at h
  · cases h
    show some (_, (_, _) :: iv_d2 k (sL ρ lv), _, _) = _
    rw [sL_d2]
    rfl
  · cases h
theorem iv_sb_AS (k len : Nat) : iv_sb (iv_oAS k len) := by
  intro ρ xs0 pc lv st σ pc' lv' st' σ' h
  unfold iv_oAS at h ⊢
  split at h
  · cases h
    show some (_, (_, _) :: iv_d1 k (sL ρ lv), _, _) = _
    rw [sL_d1]
    rfl
  · cases h
theorem iv_sb_Inc (k : Nat) (n : Int) : iv_sb (iv_oInc k n) := by
  intro ρ xs0 pc lv st σ pc' lv' st' σ' h
  unfold iv_oInc at h ⊢
  rw [sL_f1]
  split at h
  · rename_i x hx
    rw [hx]
    cases h
    show some (_, (_, _) :: iv_d1 k (sL ρ lv), _, _) = _
    rw [sL_d1]
    rfl
  · cases h
theorem iv_sb_II (f : Int32 → Int32 → Int32) : iv_sb (iv_oII f) := by
  intro ρ xs0 pc lv st σ pc' lv' st' σ' h
  unfold iv_oII at h ⊢
  split at h
  · cases h
    rfl
  · cases h
theorem iv_sb_JJ (f : Int64 → Int64 → Int64) : iv_sb (iv_oJJ f) := by
  intro ρ xs0 pc lv st σ pc' lv' st' σ' h
  unfold iv_oJJ at h ⊢
  split at h
  · cases h
    rfl
  · cases h
theorem iv_sb_JI (f : Int64 → Int32 → Int64) : iv_sb (iv_oJI f) := by
  intro ρ xs0 pc lv st σ pc' lv' st' σ' h
  unfold iv_oJI at h ⊢
  split at h
  · cases h
    rfl
  · cases h
theorem iv_sb_DI (f : Int32 → Int32 → Int32) : iv_sb (iv_oDI f) := by
  intro ρ xs0 pc lv st σ pc' lv' st' σ' h
  unfold iv_oDI at h ⊢
  split at h
  · simp only [sS, List.map_cons, sv] at h ⊢
    simp only [Bool.cond_eq_ite, show ∀ r : List Value, iv_cs (r.map (sv ρ)) = iv_cs r from fun r => sS_cs ρ r] at h ⊢
    repeat' split at h
    all_goals first
      | (cases h; done)
      | (cases h; simp_all [sS, sv]; done)
      | (cases h; simp_all [sS, sv, va_rf]; done)
  · cases h
theorem iv_sb_DJ (f : Int64 → Int64 → Int64) : iv_sb (iv_oDJ f) := by
  intro ρ xs0 pc lv st σ pc' lv' st' σ' h
  unfold iv_oDJ at h ⊢
  split at h
  · simp only [sS, List.map_cons, sv] at h ⊢
    simp only [Bool.cond_eq_ite, show ∀ r : List Value, iv_cs (r.map (sv ρ)) = iv_cs r from fun r => sS_cs ρ r] at h ⊢
    repeat' split at h
    all_goals first
      | (cases h; done)
      | (cases h; simp_all [sS, sv]; done)
      | (cases h; simp_all [sS, sv, va_rf]; done)
  · cases h
theorem iv_sb_Cmp  : iv_sb iv_oCmp := by
  intro ρ xs0 pc lv st σ pc' lv' st' σ' h
  unfold iv_oCmp at h ⊢
  split at h
  · cases h
    rfl
  · cases h
theorem iv_sb_UI (f : Int32 → Value) (hf : ∀ ρ x, sv ρ (f x) = f x) : iv_sb (iv_oUI f) := by
  intro ρ xs0 pc lv st σ pc' lv' st' σ' h
  unfold iv_oUI at h ⊢
  split at h
  · rename_i x r
    cases h
    show some (_, _, f x :: sS ρ r, _) = some (_, _, sv ρ (f x) :: sS ρ r, _)
    rw [hf]
  · cases h
theorem iv_sb_L2I  : iv_sb iv_oL2I := by
  intro ρ xs0 pc lv st σ pc' lv' st' σ' h
  unfold iv_oL2I at h ⊢
  split at h
  · cases h
    rfl
  · cases h
theorem iv_sb_Dup  : iv_sb iv_oDup := by
  intro ρ xs0 pc lv st σ pc' lv' st' σ' h
  unfold iv_oDup at h ⊢
  split at h
  · simp only [sS, List.map_cons, sv_cat, Bool.cond_eq_ite] at h ⊢
    split at h
    · rename_i hc
      rw [if_pos hc]
      cases h
      rfl
    · cases h
  · cases h
theorem iv_sb_Pop  : iv_sb iv_oPop := by
  intro ρ xs0 pc lv st σ pc' lv' st' σ' h
  unfold iv_oPop at h ⊢
  split at h
  · simp only [sS, List.map_cons, sv_cat, Bool.cond_eq_ite] at h ⊢
    split at h
    · rename_i hc
      rw [if_pos hc]
      cases h
      rfl
    · cases h
  · cases h
theorem iv_sb_Dup2  : iv_sb iv_oDup2 := by
  intro ρ xs0 pc lv st σ pc' lv' st' σ' h
  unfold iv_oDup2 at h ⊢
  split at h
  · simp only [sS, List.map_cons, sv_cat, Bool.cond_eq_ite] at h ⊢
    split at h
    · rename_i hc
      rw [if_pos hc]
      cases h
      rfl
    · cases h
  · cases h
theorem iv_sb_Go (off : Int) : iv_sb (iv_oGo off) := by
  intro ρ xs0 pc lv st σ pc' lv' st' σ' h
  unfold iv_oGo iv_go at h ⊢
  split at h
  · rename_i t ht
    cases h
    rfl
  · cases h
theorem iv_sb_If (c : ClassFile.Cond) (off : Int) : iv_sb (iv_oIf c off) := by
  intro ρ xs0 pc lv st σ pc' lv' st' σ' h
  unfold iv_oIf at h ⊢
  split at h
  · simp only [sS, List.map_cons, sv] at h ⊢
    simp only [iv_br, Bool.cond_eq_ite, show ∀ r : List Value, iv_cs (r.map (sv ρ)) = iv_cs r from fun r => sS_cs ρ r] at h ⊢
    repeat' split at h
    all_goals first
      | (cases h; done)
      | (cases h; simp_all [sS, sv]; done)
      | (cases h; simp_all [sS, sv, va_rf]; done)
  · cases h
theorem iv_sb_Ic (c : ClassFile.Cond) (off : Int) : iv_sb (iv_oIc c off) := by
  intro ρ xs0 pc lv st σ pc' lv' st' σ' h
  unfold iv_oIc at h ⊢
  split at h
  · simp only [sS, List.map_cons, sv] at h ⊢
    simp only [iv_br, Bool.cond_eq_ite, show ∀ r : List Value, iv_cs (r.map (sv ρ)) = iv_cs r from fun r => sS_cs ρ r] at h ⊢
    repeat' split at h
    all_goals first
      | (cases h; done)
      | (cases h; simp_all [sS, sv]; done)
      | (cases h; simp_all [sS, sv, va_rf]; done)
  · cases h
theorem iv_sb_Ts (dflt lo hi : Int) (offs : Array Int) : iv_sb (iv_oTs dflt lo hi offs) := by
  intro ρ xs0 pc lv st σ pc' lv' st' σ' h
  unfold iv_oTs at h ⊢
  split at h
  · rename_i x r
    show (bif (decide (x.toInt < lo) || decide (hi < x.toInt)) then iv_go pc dflt (sL ρ lv) (sS ρ r) σ else match iv_nth offs.toList (x.toInt - lo).toNat with
      | some off => iv_go pc off (sL ρ lv) (sS ρ r) σ
      | none => none) = _
    cases hc : (decide (x.toInt < lo) || decide (hi < x.toInt)) <;> rw [hc] at h <;> simp only [cond_true, cond_false] at h ⊢
    · split at h
      · rename_i off ho
        simp only [ho]
        exact s_go ρ h
      · cases h
    · exact s_go ρ h
  · cases h
theorem iv_sb_Ls (dflt : Int) (ps : Array (Int × Int)) : iv_sb (iv_oLs dflt ps) := by
  intro ρ xs0 pc lv st σ pc' lv' st' σ' h
  unfold iv_oLs at h ⊢
  split at h
  · rename_i x r
    change cond _ (iv_go pc _ (sL ρ lv) (sS ρ r) σ) none = _
    simp only [Bool.cond_eq_ite] at h ⊢
    split at h
    · rename_i hc
      rw [if_pos hc]
      exact s_go ρ h
    · cases h
  · cases h
theorem iv_sb_Ac (off : Int) : iv_sb (iv_oAc off) := by
  intro ρ xs0 pc lv st σ pc' lv' st' σ' h
  unfold iv_oAc at h ⊢
  split at h
  · simp only [sS, List.map_cons, sv] at h ⊢
    simp only [iv_br, Bool.cond_eq_ite, show ∀ r : List Value, iv_cs (r.map (sv ρ)) = iv_cs r from fun r => sS_cs ρ r] at h ⊢
    repeat' split at h
    all_goals first
      | (cases h; done)
      | (cases h; simp_all [sS, sv]; done)
      | (cases h; simp_all [sS, sv, va_rf]; done)
  · cases h
theorem iv_sb_PF (ci j : Nat) (ty : FieldType) : iv_sb (iv_oPF ci j ty) := by
  intro ρ xs0 pc lv st σ pc' lv' st' σ' h
  unfold iv_oPF at h ⊢
  split at h
  · rename_i v a r
    split at h
    · rename_i c2 fs hg
      cases hc : (Nat.beq ci c2 && (iv_fit ty v && Nat.blt j fs.length)) with
      | false => rw [hc] at h; cases h
      | true =>
        rw [hc] at h
        cases h
        have hv : sv ρ v = v := s_fit ρ (by simp only [Bool.and_eq_true] at hc; exact hc.2.1)
        have e : sS ρ (v :: .ref a :: st') = v :: .ref a :: sS ρ st' := by
          show sv ρ v :: _ :: _ = _
          rw [hv]
          rfl
        rw [e]
        simp only [hg, hc, cond_true]
    · cases h
  · cases h
theorem iv_sb_Il  : iv_sb iv_oIl := by
  intro ρ xs0 pc lv st σ pc' lv' st' σ' h
  unfold iv_oIl at h ⊢
  split at h
  · simp only [sS, List.map_cons, sv] at h ⊢
    simp only [Bool.cond_eq_ite, show ∀ r : List Value, iv_cs (r.map (sv ρ)) = iv_cs r from fun r => sS_cs ρ r] at h ⊢
    repeat' split at h
    all_goals first
      | (cases h; done)
      | (cases h; simp_all [sS, sv]; done)
      | (cases h; simp_all [sS, sv, va_rf]; done)
  · cases h
theorem iv_sb_Jl  : iv_sb iv_oJl := by
  intro ρ xs0 pc lv st σ pc' lv' st' σ' h
  unfold iv_oJl at h ⊢
  split at h
  · simp only [sS, List.map_cons, sv] at h ⊢
    simp only [Bool.cond_eq_ite, show ∀ r : List Value, iv_cs (r.map (sv ρ)) = iv_cs r from fun r => sS_cs ρ r] at h ⊢
    repeat' split at h
    all_goals first
      | (cases h; done)
      | (cases h; simp_all [sS, sv]; done)
      | (cases h; simp_all [sS, sv, va_rf]; done)
  · cases h
theorem iv_sb_Zl  : iv_sb iv_oZl := by
  intro ρ xs0 pc lv st σ pc' lv' st' σ' h
  unfold iv_oZl at h ⊢
  split at h
  · simp only [sS, List.map_cons, sv] at h ⊢
    simp only [Bool.cond_eq_ite, show ∀ r : List Value, iv_cs (r.map (sv ρ)) = iv_cs r from fun r => sS_cs ρ r] at h ⊢
    repeat' split at h
    all_goals first
      | (cases h; done)
      | (cases h; simp_all [sS, sv]; done)
      | (cases h; simp_all [sS, sv, va_rf]; done)
  · cases h
theorem iv_sb_Ql  : iv_sb iv_oQl := by
  intro ρ xs0 pc lv st σ pc' lv' st' σ' h
  unfold iv_oQl at h ⊢
  split at h
  · rename_i i a r
    split at h
    · rename_i t n f hg
      cases hc : (iv_in i n && (Nat.ble 3 t && Nat.ble t 7)) with
      | false => rw [hc] at h; cases h
      | true =>
        rw [hc] at h
        cases h
        have hv : sv ρ (va_rf (f i.toNatClampNeg)) = va_rf (f i.toNatClampNeg) := by cases f i.toNatClampNeg <;> rfl
        show _ = some (_, _, sv ρ (va_rf (f i.toNatClampNeg)) :: sS ρ r, _)
        rw [hv]
        show (match iv_get σ a with
          | some (.inl (t, n, .inr (.inr (.inr (.inr f))))) => bif iv_in i n && (Nat.ble 3 t && Nat.ble t 7) then some (pc + 1, sL ρ lv, va_rf (f i.toNatClampNeg) :: sS ρ r, σ) else none
          | _ => none) = _
        rw [hg]
        simp only [hc, cond_true]
    · cases h
  · cases h
theorem iv_sb_Len  : iv_sb iv_oLen := by
  intro ρ xs0 pc lv st σ pc' lv' st' σ' h
  unfold iv_oLen at h ⊢
  split at h
  · simp only [sS, List.map_cons, sv] at h ⊢
    simp only [Bool.cond_eq_ite, show ∀ r : List Value, iv_cs (r.map (sv ρ)) = iv_cs r from fun r => sS_cs ρ r] at h ⊢
    repeat' split at h
    all_goals first
      | (cases h; done)
      | (cases h; simp_all [sS, sv]; done)
      | (cases h; simp_all [sS, sv, va_rf]; done)
  · cases h
theorem iv_sb_Ist  : iv_sb iv_oIst := by
  intro ρ xs0 pc lv st σ pc' lv' st' σ' h
  unfold iv_oIst at h ⊢
  split at h
  · simp only [sS, List.map_cons, sv] at h ⊢
    simp only [Bool.cond_eq_ite, show ∀ r : List Value, iv_cs (r.map (sv ρ)) = iv_cs r from fun r => sS_cs ρ r] at h ⊢
    repeat' split at h
    all_goals first
      | (cases h; done)
      | (cases h; simp_all [sS, sv]; done)
      | (cases h; simp_all [sS, sv, va_rf]; done)
  · cases h
theorem iv_sb_Jst  : iv_sb iv_oJst := by
  intro ρ xs0 pc lv st σ pc' lv' st' σ' h
  unfold iv_oJst at h ⊢
  split at h
  · simp only [sS, List.map_cons, sv] at h ⊢
    simp only [Bool.cond_eq_ite, show ∀ r : List Value, iv_cs (r.map (sv ρ)) = iv_cs r from fun r => sS_cs ρ r] at h ⊢
    repeat' split at h
    all_goals first
      | (cases h; done)
      | (cases h; simp_all [sS, sv]; done)
      | (cases h; simp_all [sS, sv, va_rf]; done)
  · cases h
theorem iv_sb_Zst  : iv_sb iv_oZst := by
  intro ρ xs0 pc lv st σ pc' lv' st' σ' h
  unfold iv_oZst at h ⊢
  split at h
  · simp only [sS, List.map_cons, sv] at h ⊢
    simp only [Bool.cond_eq_ite, show ∀ r : List Value, iv_cs (r.map (sv ρ)) = iv_cs r from fun r => sS_cs ρ r] at h ⊢
    repeat' split at h
    all_goals first
      | (cases h; done)
      | (cases h; simp_all [sS, sv]; done)
      | (cases h; simp_all [sS, sv, va_rf]; done)
  · cases h
theorem iv_sb_Qst  : iv_sb iv_oQst := by
  intro ρ xs0 pc lv st σ pc' lv' st' σ' h
  unfold iv_oQst at h ⊢
  split at h
  · simp only [sS, List.map_cons, sv] at h ⊢
    simp only [Bool.cond_eq_ite, show ∀ r : List Value, iv_cs (r.map (sv ρ)) = iv_cs r from fun r => sS_cs ρ r] at h ⊢
    repeat' split at h
    all_goals first
      | (cases h; done)
      | (cases h; simp_all [sS, sv]; done)
      | (cases h; simp_all [sS, sv, va_rf]; done)
  · cases h
theorem iv_sb_New (ci : Nat) : iv_sb (iv_oNew ci) := by
  intro ρ xs0 pc lv st σ pc' lv' st' σ' h
  cases h
  rfl
theorem iv_sb_Na (t : Nat) (z : vp_A) : iv_sb (iv_oNa t z) := by
  intro ρ xs0 pc lv st σ pc' lv' st' σ' h
  unfold iv_oNa at h ⊢
  split at h
  · simp only [sS, List.map_cons, sv] at h ⊢
    simp only [Bool.cond_eq_ite, show ∀ r : List Value, iv_cs (r.map (sv ρ)) = iv_cs r from fun r => sS_cs ρ r] at h ⊢
    repeat' split at h
    all_goals first
      | (cases h; done)
      | (cases h; simp_all [sS, sv]; done)
      | (cases h; simp_all [sS, sv, va_rf]; done)
  · cases h
theorem iv_sb_Nq (t : Nat) : iv_sb (iv_oNq t) := by
  intro ρ xs0 pc lv st σ pc' lv' st' σ' h
  unfold iv_oNq at h ⊢
  split at h
  · simp only [sS, List.map_cons, sv] at h ⊢
    simp only [Bool.cond_eq_ite, show ∀ r : List Value, iv_cs (r.map (sv ρ)) = iv_cs r from fun r => sS_cs ρ r] at h ⊢
    repeat' split at h
    all_goals first
      | (cases h; done)
      | (cases h; simp_all [sS, sv]; done)
      | (cases h; simp_all [sS, sv, va_rf]; done)
  · cases h
theorem iv_sb_Nm  : iv_sb iv_oNm := by
  intro ρ xs0 pc lv st σ pc' lv' st' σ' h
  unfold iv_oNm at h ⊢
  split at h
  · simp only [sS, List.map_cons, sv] at h ⊢
    simp only [Bool.cond_eq_ite, show ∀ r : List Value, iv_cs (r.map (sv ρ)) = iv_cs r from fun r => sS_cs ρ r] at h ⊢
    repeat' split at h
    all_goals first
      | (cases h; done)
      | (cases h; simp_all [sS, sv]; done)
      | (cases h; simp_all [sS, sv, va_rf]; done)
  · cases h
theorem iv_sb_S (a : Nat) : iv_sb (iv_oS a) := by
  intro ρ xs0 pc lv st σ pc' lv' st' σ' h
  cases h
  rfl
theorem iv_sb_Cp  : iv_sb iv_oCp := by
  intro ρ xs0 pc lv st σ pc' lv' st' σ' h
  unfold iv_oCp at h ⊢
  split at h
  · simp only [sS, List.map_cons, sv] at h ⊢
    simp only [Bool.cond_eq_ite, show ∀ r : List Value, iv_cs (r.map (sv ρ)) = iv_cs r from fun r => sS_cs ρ r] at h ⊢
    repeat' split at h
    all_goals first
      | (cases h; done)
      | (cases h; simp_all [sS, sv]; done)
      | (cases h; simp_all [sS, sv, va_rf]; done)
  · cases h
theorem iv_sb_Ob  : iv_sb iv_oOb := by
  intro ρ xs0 pc lv st σ pc' lv' st' σ' h
  unfold iv_oOb at h ⊢
  split at h
  · simp only [sS, List.map_cons, sv] at h ⊢
    simp only [Bool.cond_eq_ite, show ∀ r : List Value, iv_cs (r.map (sv ρ)) = iv_cs r from fun r => sS_cs ρ r] at h ⊢
    repeat' split at h
    all_goals first
      | (cases h; done)
      | (cases h; simp_all [sS, sv]; done)
      | (cases h; simp_all [sS, sv, va_rf]; done)
  · cases h
theorem iv_sb_Ord  : iv_sb iv_oOrd := by
  intro ρ xs0 pc lv st σ pc' lv' st' σ' h
  unfold iv_oOrd at h ⊢
  split at h
  · simp only [sS, List.map_cons, sv] at h ⊢
    simp only [Bool.cond_eq_ite, show ∀ r : List Value, iv_cs (r.map (sv ρ)) = iv_cs r from fun r => sS_cs ρ r] at h ⊢
    repeat' split at h
    all_goals first
      | (cases h; done)
      | (cases h; simp_all [sS, sv]; done)
      | (cases h; simp_all [sS, sv, va_rf]; done)
  · cases h
theorem iv_sb_MM (f : Int32 → Int32 → Int32) : iv_sb (iv_oMM f) := by
  intro ρ xs0 pc lv st σ pc' lv' st' σ' h
  unfold iv_oMM at h ⊢
  split at h
  · simp only [sS, List.map_cons, sv] at h ⊢
    simp only [Bool.cond_eq_ite, show ∀ r : List Value, iv_cs (r.map (sv ρ)) = iv_cs r from fun r => sS_cs ρ r] at h ⊢
    repeat' split at h
    all_goals first
      | (cases h; done)
      | (cases h; simp_all [sS, sv]; done)
      | (cases h; simp_all [sS, sv, va_rf]; done)
  · cases h
theorem iv_sb_Ab  : iv_sb iv_oAb := by
  intro ρ xs0 pc lv st σ pc' lv' st' σ' h
  unfold iv_oAb at h ⊢
  split at h
  · rename_i x r
    change cond (Nat.ble (iv_cs (sS ρ r)) 8) _ _ = _
    rw [sS_cs]
    cases hc : Nat.ble (iv_cs r) 8 with
    | false => rw [hc] at h; cases h
    | true => rw [hc] at h; cases h; rfl
  · cases h
theorem iv_sb_GF (ci j : Nat) (ρ xs0 : Nat → Int32) (pc : Nat) (lv : iv_L) (st : List Value) (σ : iv_H) (pc' : Nat) (lv' : iv_L) (st' : List Value) (σ' : iv_H) (h : iv_oGF ci j 0 xs0 pc lv st σ = some (pc', lv', st', σ')) (hs : ∀ k r, st' ≠ .retAddr k :: r) : iv_oGF ci j 0 xs0 pc (sL ρ lv) (sS ρ st) σ = some (pc', sL ρ lv', sS ρ st', σ') := by
  unfold iv_oGF at h ⊢
  split at h
  · rename_i a r
    split at h
    · rename_i c2 fs hg
      cases hc : Nat.beq ci c2 with
      | false => rw [hc] at h; cases h
      | true =>
        rw [hc] at h
        simp only [cond_true] at h
        split at h
        · rename_i v hv
          cases h
          have hv2 : sv ρ v = v := by
            cases v <;> first | rfl | exact absurd rfl (hs _ _)
          show _ = some (_, _, sv ρ v :: sS ρ r, _)
          rw [hv2]
          show (match iv_get σ a with
            | some (.inr (c2, fs)) => bif Nat.beq ci c2 then (match iv_nth fs j with
              | some v => some (pc + 3, sL ρ lv, v :: sS ρ r, σ)
              | none => none) else none
            | _ => none) = _
          rw [hg]
          simp only [hc, cond_true, hv]
        · cases h
    · cases h
  · cases h
