/-! ===== a run of the abstract machine is a run of the machine ===== -/
def iv_mo (f : iv_F) : Prop := ∀ (L : Nat) (xs : Nat → Int32) (pc : Nat) (lv : iv_L) (st : List Value) (σ : iv_H) (pc' : Nat) (lv' : iv_L) (st' : List Value) (σ' : iv_H), f L xs pc lv st σ = some (pc', lv', st', σ') → σ.1 ≤ σ'.1 ∧ σ.2.2 ≤ σ'.2.2
theorem iv_mo_put {σ : iv_H} {a : Nat} {x : iv_E} : (iv_put σ a x).1 = σ.1 ∧ (iv_put σ a x).2.2 = σ.2.2 := by
  unfold iv_put
  rw [iv_fp_eq]
  exact ⟨rfl, rfl⟩
theorem iv_mo_psh {σ : iv_H} {n : Nat} {x : iv_E} : (iv_psh σ x n).1 = σ.1 + 1 ∧ (iv_psh σ x n).2.2 = σ.2.2 + n := by
  rw [iv_psh_eq]
  exact ⟨rfl, rfl⟩
theorem iv_mo_N : iv_mo iv_oN := by
  intro L xs pc lv st σ pc' lv' st' σ' h
  simp only [iv_oN, iv_go, iv_br, Bool.cond_eq_ite] at h
  repeat' split at h
  all_goals first
    | (cases h; done)
    | (simp only [Option.some.injEq, Prod.mk.injEq] at h
       obtain ⟨_, _, _, rfl⟩ := h
       first
         | exact ⟨Nat.le_refl _, Nat.le_refl _⟩
         | (simp only [iv_mo_put, iv_mo_psh]; exact ⟨by omega, by omega⟩)
         | (dsimp only; exact ⟨by omega, by omega⟩))
theorem iv_mo_K (v : Value) (len : Nat) : iv_mo (iv_oK v len) := by
  intro L xs pc lv st σ pc' lv' st' σ' h
  simp only [iv_oK, iv_go, iv_br, Bool.cond_eq_ite] at h
  repeat' split at h
  all_goals first
    | (cases h; done)
    | (simp only [Option.some.injEq, Prod.mk.injEq] at h
       obtain ⟨_, _, _, rfl⟩ := h
       first
         | exact ⟨Nat.le_refl _, Nat.le_refl _⟩
         | (simp only [iv_mo_put, iv_mo_psh]; exact ⟨by omega, by omega⟩)
         | (dsimp only; exact ⟨by omega, by omega⟩))
theorem iv_mo_I (k len : Nat) : iv_mo (iv_oI k len) := by
  intro L xs pc lv st σ pc' lv' st' σ' h
  simp only [iv_oI, iv_go, iv_br, Bool.cond_eq_ite] at h
  repeat' split at h
  all_goals first
    | (cases h; done)
    | (simp only [Option.some.injEq, Prod.mk.injEq] at h
       obtain ⟨_, _, _, rfl⟩ := h
       first
         | exact ⟨Nat.le_refl _, Nat.le_refl _⟩
         | (simp only [iv_mo_put, iv_mo_psh]; exact ⟨by omega, by omega⟩)
         | (dsimp only; exact ⟨by omega, by omega⟩))
theorem iv_mo_J (k len : Nat) : iv_mo (iv_oJ k len) := by
  intro L xs pc lv st σ pc' lv' st' σ' h
  simp only [iv_oJ, iv_go, iv_br, Bool.cond_eq_ite] at h
  repeat' split at h
  all_goals first
    | (cases h; done)
    | (simp only [Option.some.injEq, Prod.mk.injEq] at h
       obtain ⟨_, _, _, rfl⟩ := h
       first
         | exact ⟨Nat.le_refl _, Nat.le_refl _⟩
         | (simp only [iv_mo_put, iv_mo_psh]; exact ⟨by omega, by omega⟩)
         | (dsimp only; exact ⟨by omega, by omega⟩))
theorem iv_mo_A (k len : Nat) : iv_mo (iv_oA k len) := by
  intro L xs pc lv st σ pc' lv' st' σ' h
  simp only [iv_oA, iv_go, iv_br, Bool.cond_eq_ite] at h
  repeat' split at h
  all_goals first
    | (cases h; done)
    | (simp only [Option.some.injEq, Prod.mk.injEq] at h
       obtain ⟨_, _, _, rfl⟩ := h
       first
         | exact ⟨Nat.le_refl _, Nat.le_refl _⟩
         | (simp only [iv_mo_put, iv_mo_psh]; exact ⟨by omega, by omega⟩)
         | (dsimp only; exact ⟨by omega, by omega⟩))
theorem iv_mo_IS (k len : Nat) : iv_mo (iv_oIS k len) := by
  intro L xs pc lv st σ pc' lv' st' σ' h
  simp only [iv_oIS, iv_go, iv_br, Bool.cond_eq_ite] at h
  repeat' split at h
  all_goals first
    | (cases h; done)
    | (simp only [Option.some.injEq, Prod.mk.injEq] at h
       obtain ⟨_, _, _, rfl⟩ := h
       first
         | exact ⟨Nat.le_refl _, Nat.le_refl _⟩
         | (simp only [iv_mo_put, iv_mo_psh]; exact ⟨by omega, by omega⟩)
         | (dsimp only; exact ⟨by omega, by omega⟩))
theorem iv_mo_JS (k len : Nat) : iv_mo (iv_oJS k len) := by
  intro L xs pc lv st σ pc' lv' st' σ' h
  simp only [iv_oJS, iv_go, iv_br, Bool.cond_eq_ite] at h
  repeat' split at h
  all_goals first
    | (cases h; done)
    | (simp only [Option.some.injEq, Prod.mk.injEq] at h
       obtain ⟨_, _, _, rfl⟩ := h
       first
         | exact ⟨Nat.le_refl _, Nat.le_refl _⟩
         | (simp only [iv_mo_put, iv_mo_psh]; exact ⟨by omega, by omega⟩)
         | (dsimp only; exact ⟨by omega, by omega⟩))
theorem iv_mo_AS (k len : Nat) : iv_mo (iv_oAS k len) := by
  intro L xs pc lv st σ pc' lv' st' σ' h
  simp only [iv_oAS, iv_go, iv_br, Bool.cond_eq_ite] at h
  repeat' split at h
  all_goals first
    | (cases h; done)
    | (simp only [Option.some.injEq, Prod.mk.injEq] at h
       obtain ⟨_, _, _, rfl⟩ := h
       first
         | exact ⟨Nat.le_refl _, Nat.le_refl _⟩
         | (simp only [iv_mo_put, iv_mo_psh]; exact ⟨by omega, by omega⟩)
         | (dsimp only; exact ⟨by omega, by omega⟩))
theorem iv_mo_Inc (k : Nat) (n : Int) : iv_mo (iv_oInc k n) := by
  intro L xs pc lv st σ pc' lv' st' σ' h
  simp only [iv_oInc, iv_go, iv_br, Bool.cond_eq_ite] at h
  repeat' split at h
  all_goals first
    | (cases h; done)
    | (simp only [Option.some.injEq, Prod.mk.injEq] at h
       obtain ⟨_, _, _, rfl⟩ := h
       first
         | exact ⟨Nat.le_refl _, Nat.le_refl _⟩
         | (simp only [iv_mo_put, iv_mo_psh]; exact ⟨by omega, by omega⟩)
         | (dsimp only; exact ⟨by omega, by omega⟩))
theorem iv_mo_II (f : Int32 → Int32 → Int32) : iv_mo (iv_oII f) := by
  intro L xs pc lv st σ pc' lv' st' σ' h
  simp only [iv_oII, iv_go, iv_br, Bool.cond_eq_ite] at h
  repeat' split at h
  all_goals first
    | (cases h; done)
    | (simp only [Option.some.injEq, Prod.mk.injEq] at h
       obtain ⟨_, _, _, rfl⟩ := h
       first
         | exact ⟨Nat.le_refl _, Nat.le_refl _⟩
         | (simp only [iv_mo_put, iv_mo_psh]; exact ⟨by omega, by omega⟩)
         | (dsimp only; exact ⟨by omega, by omega⟩))
theorem iv_mo_JJ (f : Int64 → Int64 → Int64) : iv_mo (iv_oJJ f) := by
  intro L xs pc lv st σ pc' lv' st' σ' h
  simp only [iv_oJJ, iv_go, iv_br, Bool.cond_eq_ite] at h
  repeat' split at h
  all_goals first
    | (cases h; done)
    | (simp only [Option.some.injEq, Prod.mk.injEq] at h
       obtain ⟨_, _, _, rfl⟩ := h
       first
         | exact ⟨Nat.le_refl _, Nat.le_refl _⟩
         | (simp only [iv_mo_put, iv_mo_psh]; exact ⟨by omega, by omega⟩)
         | (dsimp only; exact ⟨by omega, by omega⟩))
theorem iv_mo_JI (f : Int64 → Int32 → Int64) : iv_mo (iv_oJI f) := by
  intro L xs pc lv st σ pc' lv' st' σ' h
  simp only [iv_oJI, iv_go, iv_br, Bool.cond_eq_ite] at h
  repeat' split at h
  all_goals first
    | (cases h; done)
    | (simp only [Option.some.injEq, Prod.mk.injEq] at h
       obtain ⟨_, _, _, rfl⟩ := h
       first
         | exact ⟨Nat.le_refl _, Nat.le_refl _⟩
         | (simp only [iv_mo_put, iv_mo_psh]; exact ⟨by omega, by omega⟩)
         | (dsimp only; exact ⟨by omega, by omega⟩))
theorem iv_mo_DI (f : Int32 → Int32 → Int32) : iv_mo (iv_oDI f) := by
  intro L xs pc lv st σ pc' lv' st' σ' h
  simp only [iv_oDI, iv_go, iv_br, Bool.cond_eq_ite] at h
  repeat' split at h
  all_goals first
    | (cases h; done)
    | (simp only [Option.some.injEq, Prod.mk.injEq] at h
       obtain ⟨_, _, _, rfl⟩ := h
       first
         | exact ⟨Nat.le_refl _, Nat.le_refl _⟩
         | (simp only [iv_mo_put, iv_mo_psh]; exact ⟨by omega, by omega⟩)
         | (dsimp only; exact ⟨by omega, by omega⟩))
theorem iv_mo_DJ (f : Int64 → Int64 → Int64) : iv_mo (iv_oDJ f) := by
  intro L xs pc lv st σ pc' lv' st' σ' h
  simp only [iv_oDJ, iv_go, iv_br, Bool.cond_eq_ite] at h
  repeat' split at h
  all_goals first
    | (cases h; done)
    | (simp only [Option.some.injEq, Prod.mk.injEq] at h
       obtain ⟨_, _, _, rfl⟩ := h
       first
         | exact ⟨Nat.le_refl _, Nat.le_refl _⟩
         | (simp only [iv_mo_put, iv_mo_psh]; exact ⟨by omega, by omega⟩)
         | (dsimp only; exact ⟨by omega, by omega⟩))
theorem iv_mo_Cmp : iv_mo iv_oCmp := by
  intro L xs pc lv st σ pc' lv' st' σ' h
  simp only [iv_oCmp, iv_go, iv_br, Bool.cond_eq_ite] at h
  repeat' split at h
  all_goals first
    | (cases h; done)
    | (simp only [Option.some.injEq, Prod.mk.injEq] at h
       obtain ⟨_, _, _, rfl⟩ := h
       first
         | exact ⟨Nat.le_refl _, Nat.le_refl _⟩
         | (simp only [iv_mo_put, iv_mo_psh]; exact ⟨by omega, by omega⟩)
         | (dsimp only; exact ⟨by omega, by omega⟩))
theorem iv_mo_UI (f : Int32 → Value) : iv_mo (iv_oUI f) := by
  intro L xs pc lv st σ pc' lv' st' σ' h
  simp only [iv_oUI, iv_go, iv_br, Bool.cond_eq_ite] at h
  repeat' split at h
  all_goals first
    | (cases h; done)
    | (simp only [Option.some.injEq, Prod.mk.injEq] at h
       obtain ⟨_, _, _, rfl⟩ := h
       first
         | exact ⟨Nat.le_refl _, Nat.le_refl _⟩
         | (simp only [iv_mo_put, iv_mo_psh]; exact ⟨by omega, by omega⟩)
         | (dsimp only; exact ⟨by omega, by omega⟩))
theorem iv_mo_L2I : iv_mo iv_oL2I := by
  intro L xs pc lv st σ pc' lv' st' σ' h
  simp only [iv_oL2I, iv_go, iv_br, Bool.cond_eq_ite] at h
  repeat' split at h
  all_goals first
    | (cases h; done)
    | (simp only [Option.some.injEq, Prod.mk.injEq] at h
       obtain ⟨_, _, _, rfl⟩ := h
       first
         | exact ⟨Nat.le_refl _, Nat.le_refl _⟩
         | (simp only [iv_mo_put, iv_mo_psh]; exact ⟨by omega, by omega⟩)
         | (dsimp only; exact ⟨by omega, by omega⟩))
theorem iv_mo_Dup : iv_mo iv_oDup := by
  intro L xs pc lv st σ pc' lv' st' σ' h
  simp only [iv_oDup, iv_go, iv_br, Bool.cond_eq_ite] at h
  repeat' split at h
  all_goals first
    | (cases h; done)
    | (simp only [Option.some.injEq, Prod.mk.injEq] at h
       obtain ⟨_, _, _, rfl⟩ := h
       first
         | exact ⟨Nat.le_refl _, Nat.le_refl _⟩
         | (simp only [iv_mo_put, iv_mo_psh]; exact ⟨by omega, by omega⟩)
         | (dsimp only; exact ⟨by omega, by omega⟩))
theorem iv_mo_Pop : iv_mo iv_oPop := by
  intro L xs pc lv st σ pc' lv' st' σ' h
  simp only [iv_oPop, iv_go, iv_br, Bool.cond_eq_ite] at h
  repeat' split at h
  all_goals first
    | (cases h; done)
    | (simp only [Option.some.injEq, Prod.mk.injEq] at h
       obtain ⟨_, _, _, rfl⟩ := h
       first
         | exact ⟨Nat.le_refl _, Nat.le_refl _⟩
         | (simp only [iv_mo_put, iv_mo_psh]; exact ⟨by omega, by omega⟩)
         | (dsimp only; exact ⟨by omega, by omega⟩))
theorem iv_mo_Dup2 : iv_mo iv_oDup2 := by
  intro L xs pc lv st σ pc' lv' st' σ' h
  simp only [iv_oDup2, iv_go, iv_br, Bool.cond_eq_ite] at h
  repeat' split at h
  all_goals first
    | (cases h; done)
    | (simp only [Option.some.injEq, Prod.mk.injEq] at h
       obtain ⟨_, _, _, rfl⟩ := h
       first
         | exact ⟨Nat.le_refl _, Nat.le_refl _⟩
         | (simp only [iv_mo_put, iv_mo_psh]; exact ⟨by omega, by omega⟩)
         | (dsimp only; exact ⟨by omega, by omega⟩))
theorem iv_mo_Go (off : Int) : iv_mo (iv_oGo off) := by
  intro L xs pc lv st σ pc' lv' st' σ' h
  simp only [iv_oGo, iv_go, iv_br, Bool.cond_eq_ite] at h
  repeat' split at h
  all_goals first
    | (cases h; done)
    | (simp only [Option.some.injEq, Prod.mk.injEq] at h
       obtain ⟨_, _, _, rfl⟩ := h
       first
         | exact ⟨Nat.le_refl _, Nat.le_refl _⟩
         | (simp only [iv_mo_put, iv_mo_psh]; exact ⟨by omega, by omega⟩)
         | (dsimp only; exact ⟨by omega, by omega⟩))
theorem iv_mo_If (c : ClassFile.Cond) (off : Int) : iv_mo (iv_oIf c off) := by
  intro L xs pc lv st σ pc' lv' st' σ' h
  simp only [iv_oIf, iv_go, iv_br, Bool.cond_eq_ite] at h
  repeat' split at h
  all_goals first
    | (cases h; done)
    | (simp only [Option.some.injEq, Prod.mk.injEq] at h
       obtain ⟨_, _, _, rfl⟩ := h
       first
         | exact ⟨Nat.le_refl _, Nat.le_refl _⟩
         | (simp only [iv_mo_put, iv_mo_psh]; exact ⟨by omega, by omega⟩)
         | (dsimp only; exact ⟨by omega, by omega⟩))
theorem iv_mo_Ic (c : ClassFile.Cond) (off : Int) : iv_mo (iv_oIc c off) := by
  intro L xs pc lv st σ pc' lv' st' σ' h
  simp only [iv_oIc, iv_go, iv_br, Bool.cond_eq_ite] at h
  repeat' split at h
  all_goals first
    | (cases h; done)
    | (simp only [Option.some.injEq, Prod.mk.injEq] at h
       obtain ⟨_, _, _, rfl⟩ := h
       first
         | exact ⟨Nat.le_refl _, Nat.le_refl _⟩
         | (simp only [iv_mo_put, iv_mo_psh]; exact ⟨by omega, by omega⟩)
         | (dsimp only; exact ⟨by omega, by omega⟩))
theorem iv_mo_Ts (dflt lo hi : Int) (offs : Array Int) : iv_mo (iv_oTs dflt lo hi offs) := by
  intro L xs pc lv st σ pc' lv' st' σ' h
  simp only [iv_oTs, iv_go, iv_br, Bool.cond_eq_ite] at h
  repeat' split at h
  all_goals first
    | (cases h; done)
    | (simp only [Option.some.injEq, Prod.mk.injEq] at h
       obtain ⟨_, _, _, rfl⟩ := h
       first
         | exact ⟨Nat.le_refl _, Nat.le_refl _⟩
         | (simp only [iv_mo_put, iv_mo_psh]; exact ⟨by omega, by omega⟩)
         | (dsimp only; exact ⟨by omega, by omega⟩))
theorem iv_mo_Ls (dflt : Int) (ps : Array (Int × Int)) : iv_mo (iv_oLs dflt ps) := by
  intro L xs pc lv st σ pc' lv' st' σ' h
  simp only [iv_oLs, iv_go, iv_br, Bool.cond_eq_ite] at h
  repeat' split at h
  all_goals first
    | (cases h; done)
    | (simp only [Option.some.injEq, Prod.mk.injEq] at h
       obtain ⟨_, _, _, rfl⟩ := h
       first
         | exact ⟨Nat.le_refl _, Nat.le_refl _⟩
         | (simp only [iv_mo_put, iv_mo_psh]; exact ⟨by omega, by omega⟩)
         | (dsimp only; exact ⟨by omega, by omega⟩))
theorem iv_mo_Ac (off : Int) : iv_mo (iv_oAc off) := by
  intro L xs pc lv st σ pc' lv' st' σ' h
  simp only [iv_oAc, iv_go, iv_br, Bool.cond_eq_ite] at h
  repeat' split at h
  all_goals first
    | (cases h; done)
    | (simp only [Option.some.injEq, Prod.mk.injEq] at h
       obtain ⟨_, _, _, rfl⟩ := h
       first
         | exact ⟨Nat.le_refl _, Nat.le_refl _⟩
         | (simp only [iv_mo_put, iv_mo_psh]; exact ⟨by omega, by omega⟩)
         | (dsimp only; exact ⟨by omega, by omega⟩))
theorem iv_mo_GF (ci j : Nat) : iv_mo (iv_oGF ci j) := by
  intro L xs pc lv st σ pc' lv' st' σ' h
  simp only [iv_oGF, iv_go, iv_br, Bool.cond_eq_ite] at h
  repeat' split at h
  all_goals first
    | (cases h; done)
    | (simp only [Option.some.injEq, Prod.mk.injEq] at h
       obtain ⟨_, _, _, rfl⟩ := h
       first
         | exact ⟨Nat.le_refl _, Nat.le_refl _⟩
         | (simp only [iv_mo_put, iv_mo_psh]; exact ⟨by omega, by omega⟩)
         | (dsimp only; exact ⟨by omega, by omega⟩))
theorem iv_mo_PF (ci j : Nat) (ty : FieldType) : iv_mo (iv_oPF ci j ty) := by
  intro L xs pc lv st σ pc' lv' st' σ' h
  simp only [iv_oPF, iv_go, iv_br, Bool.cond_eq_ite] at h
  repeat' split at h
  all_goals first
    | (cases h; done)
    | (simp only [Option.some.injEq, Prod.mk.injEq] at h
       obtain ⟨_, _, _, rfl⟩ := h
       first
         | exact ⟨Nat.le_refl _, Nat.le_refl _⟩
         | (simp only [iv_mo_put, iv_mo_psh]; exact ⟨by omega, by omega⟩)
         | (dsimp only; exact ⟨by omega, by omega⟩))
theorem iv_mo_Il : iv_mo iv_oIl := by
  intro L xs pc lv st σ pc' lv' st' σ' h
  simp only [iv_oIl, iv_go, iv_br, Bool.cond_eq_ite] at h
  repeat' split at h
  all_goals first
    | (cases h; done)
    | (simp only [Option.some.injEq, Prod.mk.injEq] at h
       obtain ⟨_, _, _, rfl⟩ := h
       first
         | exact ⟨Nat.le_refl _, Nat.le_refl _⟩
         | (simp only [iv_mo_put, iv_mo_psh]; exact ⟨by omega, by omega⟩)
         | (dsimp only; exact ⟨by omega, by omega⟩))
theorem iv_mo_Jl : iv_mo iv_oJl := by
  intro L xs pc lv st σ pc' lv' st' σ' h
  simp only [iv_oJl, iv_go, iv_br, Bool.cond_eq_ite] at h
  repeat' split at h
  all_goals first
    | (cases h; done)
    | (simp only [Option.some.injEq, Prod.mk.injEq] at h
       obtain ⟨_, _, _, rfl⟩ := h
       first
         | exact ⟨Nat.le_refl _, Nat.le_refl _⟩
         | (simp only [iv_mo_put, iv_mo_psh]; exact ⟨by omega, by omega⟩)
         | (dsimp only; exact ⟨by omega, by omega⟩))
theorem iv_mo_Zl : iv_mo iv_oZl := by
  intro L xs pc lv st σ pc' lv' st' σ' h
  simp only [iv_oZl, iv_go, iv_br, Bool.cond_eq_ite] at h
  repeat' split at h
  all_goals first
    | (cases h; done)
    | (simp only [Option.some.injEq, Prod.mk.injEq] at h
       obtain ⟨_, _, _, rfl⟩ := h
       first
         | exact ⟨Nat.le_refl _, Nat.le_refl _⟩
         | (simp only [iv_mo_put, iv_mo_psh]; exact ⟨by omega, by omega⟩)
         | (dsimp only; exact ⟨by omega, by omega⟩))
theorem iv_mo_Ql : iv_mo iv_oQl := by
  intro L xs pc lv st σ pc' lv' st' σ' h
  simp only [iv_oQl, iv_go, iv_br, Bool.cond_eq_ite] at h
  repeat' split at h
  all_goals first
    | (cases h; done)
    | (simp only [Option.some.injEq, Prod.mk.injEq] at h
       obtain ⟨_, _, _, rfl⟩ := h
       first
         | exact ⟨Nat.le_refl _, Nat.le_refl _⟩
         | (simp only [iv_mo_put, iv_mo_psh]; exact ⟨by omega, by omega⟩)
         | (dsimp only; exact ⟨by omega, by omega⟩))
theorem iv_mo_Len : iv_mo iv_oLen := by
  intro L xs pc lv st σ pc' lv' st' σ' h
  simp only [iv_oLen, iv_go, iv_br, Bool.cond_eq_ite] at h
  repeat' split at h
  all_goals first
    | (cases h; done)
    | (simp only [Option.some.injEq, Prod.mk.injEq] at h
       obtain ⟨_, _, _, rfl⟩ := h
       first
         | exact ⟨Nat.le_refl _, Nat.le_refl _⟩
         | (simp only [iv_mo_put, iv_mo_psh]; exact ⟨by omega, by omega⟩)
         | (dsimp only; exact ⟨by omega, by omega⟩))
theorem iv_mo_Ist : iv_mo iv_oIst := by
  intro L xs pc lv st σ pc' lv' st' σ' h
  simp only [iv_oIst, iv_go, iv_br, Bool.cond_eq_ite] at h
  repeat' split at h
  all_goals first
    | (cases h; done)
    | (simp only [Option.some.injEq, Prod.mk.injEq] at h
       obtain ⟨_, _, _, rfl⟩ := h
       first
         | exact ⟨Nat.le_refl _, Nat.le_refl _⟩
         | (simp only [iv_mo_put, iv_mo_psh]; exact ⟨by omega, by omega⟩)
         | (dsimp only; exact ⟨by omega, by omega⟩))
theorem iv_mo_Jst : iv_mo iv_oJst := by
  intro L xs pc lv st σ pc' lv' st' σ' h
  simp only [iv_oJst, iv_go, iv_br, Bool.cond_eq_ite] at h
  repeat' split at h
  all_goals first
    | (cases h; done)
    | (simp only [Option.some.injEq, Prod.mk.injEq] at h
       obtain ⟨_, _, _, rfl⟩ := h
       first
         | exact ⟨Nat.le_refl _, Nat.le_refl _⟩
         | (simp only [iv_mo_put, iv_mo_psh]; exact ⟨by omega, by omega⟩)
         | (dsimp only; exact ⟨by omega, by omega⟩))
theorem iv_mo_Zst : iv_mo iv_oZst := by
  intro L xs pc lv st σ pc' lv' st' σ' h
  simp only [iv_oZst, iv_go, iv_br, Bool.cond_eq_ite] at h
  repeat' split at h
  all_goals first
    | (cases h; done)
    | (simp only [Option.some.injEq, Prod.mk.injEq] at h
       obtain ⟨_, _, _, rfl⟩ := h
       first
         | exact ⟨Nat.le_refl _, Nat.le_refl _⟩
         | (simp only [iv_mo_put, iv_mo_psh]; exact ⟨by omega, by omega⟩)
         | (dsimp only; exact ⟨by omega, by omega⟩))
theorem iv_mo_Qst : iv_mo iv_oQst := by
  intro L xs pc lv st σ pc' lv' st' σ' h
  simp only [iv_oQst, iv_go, iv_br, Bool.cond_eq_ite] at h
  repeat' split at h
  all_goals first
    | (cases h; done)
    | (simp only [Option.some.injEq, Prod.mk.injEq] at h
       obtain ⟨_, _, _, rfl⟩ := h
       first
         | exact ⟨Nat.le_refl _, Nat.le_refl _⟩
         | (simp only [iv_mo_put, iv_mo_psh]; exact ⟨by omega, by omega⟩)
         | (dsimp only; exact ⟨by omega, by omega⟩))
theorem iv_mo_New (ci : Nat) : iv_mo (iv_oNew ci) := by
  intro L xs pc lv st σ pc' lv' st' σ' h
  simp only [iv_oNew, iv_go, iv_br, Bool.cond_eq_ite] at h
  repeat' split at h
  all_goals first
    | (cases h; done)
    | (simp only [Option.some.injEq, Prod.mk.injEq] at h
       obtain ⟨_, _, _, rfl⟩ := h
       first
         | exact ⟨Nat.le_refl _, Nat.le_refl _⟩
         | (simp only [iv_mo_put, iv_mo_psh]; exact ⟨by omega, by omega⟩)
         | (dsimp only; exact ⟨by omega, by omega⟩))
theorem iv_mo_Na (t : Nat) (z : vp_A) : iv_mo (iv_oNa t z) := by
  intro L xs pc lv st σ pc' lv' st' σ' h
  simp only [iv_oNa, iv_go, iv_br, Bool.cond_eq_ite] at h
  repeat' split at h
  all_goals first
    | (cases h; done)
    | (simp only [Option.some.injEq, Prod.mk.injEq] at h
       obtain ⟨_, _, _, rfl⟩ := h
       first
         | exact ⟨Nat.le_refl _, Nat.le_refl _⟩
         | (simp only [iv_mo_put, iv_mo_psh]; exact ⟨by omega, by omega⟩)
         | (dsimp only; exact ⟨by omega, by omega⟩))
theorem iv_mo_Nq (t : Nat) : iv_mo (iv_oNq t) := by
  intro L xs pc lv st σ pc' lv' st' σ' h
  simp only [iv_oNq, iv_go, iv_br, Bool.cond_eq_ite] at h
  repeat' split at h
  all_goals first
    | (cases h; done)
    | (simp only [Option.some.injEq, Prod.mk.injEq] at h
       obtain ⟨_, _, _, rfl⟩ := h
       first
         | exact ⟨Nat.le_refl _, Nat.le_refl _⟩
         | (simp only [iv_mo_put, iv_mo_psh]; exact ⟨by omega, by omega⟩)
         | (dsimp only; exact ⟨by omega, by omega⟩))
theorem iv_mo_Nm : iv_mo iv_oNm := by
  intro L xs pc lv st σ pc' lv' st' σ' h
  simp only [iv_oNm, iv_go, iv_br, Bool.cond_eq_ite] at h
  repeat' split at h
  all_goals first
    | (cases h; done)
    | (simp only [Option.some.injEq, Prod.mk.injEq] at h
       obtain ⟨_, _, _, rfl⟩ := h
       first
         | exact ⟨Nat.le_refl _, Nat.le_refl _⟩
         | (simp only [iv_mo_put, iv_mo_psh]; exact ⟨by omega, by omega⟩)
         | (dsimp only; exact ⟨by omega, by omega⟩))
theorem iv_mo_S (a : Nat) : iv_mo (iv_oS a) := by
  intro L xs pc lv st σ pc' lv' st' σ' h
  simp only [iv_oS, iv_go, iv_br, Bool.cond_eq_ite] at h
  repeat' split at h
  all_goals first
    | (cases h; done)
    | (simp only [Option.some.injEq, Prod.mk.injEq] at h
       obtain ⟨_, _, _, rfl⟩ := h
       first
         | exact ⟨Nat.le_refl _, Nat.le_refl _⟩
         | (simp only [iv_mo_put, iv_mo_psh]; exact ⟨by omega, by omega⟩)
         | (dsimp only; exact ⟨by omega, by omega⟩))
theorem iv_mo_Cp : iv_mo iv_oCp := by
  intro L xs pc lv st σ pc' lv' st' σ' h
  simp only [iv_oCp, iv_go, iv_br, Bool.cond_eq_ite] at h
  repeat' split at h
  all_goals first
    | (cases h; done)
    | (simp only [Option.some.injEq, Prod.mk.injEq] at h
       obtain ⟨_, _, _, rfl⟩ := h
       first
         | exact ⟨Nat.le_refl _, Nat.le_refl _⟩
         | (simp only [iv_mo_put, iv_mo_psh]; exact ⟨by omega, by omega⟩)
         | (dsimp only; exact ⟨by omega, by omega⟩))
theorem iv_mo_Ob : iv_mo iv_oOb := by
  intro L xs pc lv st σ pc' lv' st' σ' h
  simp only [iv_oOb, iv_go, iv_br, Bool.cond_eq_ite] at h
  repeat' split at h
  all_goals first
    | (cases h; done)
    | (simp only [Option.some.injEq, Prod.mk.injEq] at h
       obtain ⟨_, _, _, rfl⟩ := h
       first
         | exact ⟨Nat.le_refl _, Nat.le_refl _⟩
         | (simp only [iv_mo_put, iv_mo_psh]; exact ⟨by omega, by omega⟩)
         | (dsimp only; exact ⟨by omega, by omega⟩))
theorem iv_mo_Ord : iv_mo iv_oOrd := by
  intro L xs pc lv st σ pc' lv' st' σ' h
  simp only [iv_oOrd, iv_go, iv_br, Bool.cond_eq_ite] at h
  repeat' split at h
  all_goals first
    | (cases h; done)
    | (simp only [Option.some.injEq, Prod.mk.injEq] at h
       obtain ⟨_, _, _, rfl⟩ := h
       first
         | exact ⟨Nat.le_refl _, Nat.le_refl _⟩
         | (simp only [iv_mo_put, iv_mo_psh]; exact ⟨by omega, by omega⟩)
         | (dsimp only; exact ⟨by omega, by omega⟩))
theorem iv_mo_Wt : iv_mo iv_oWt := by
  intro L xs pc lv st σ pc' lv' st' σ' h
  simp only [iv_oWt, iv_go, iv_br, Bool.cond_eq_ite] at h
  repeat' split at h
  all_goals first
    | (cases h; done)
    | (simp only [Option.some.injEq, Prod.mk.injEq] at h
       obtain ⟨_, _, _, rfl⟩ := h
       first
         | exact ⟨Nat.le_refl _, Nat.le_refl _⟩
         | (simp only [iv_mo_put, iv_mo_psh]; exact ⟨by omega, by omega⟩)
         | (dsimp only; exact ⟨by omega, by omega⟩))
theorem iv_mo_Sl : iv_mo iv_oSl := by
  intro L xs pc lv st σ pc' lv' st' σ' h
  simp only [iv_oSl, iv_go, iv_br, Bool.cond_eq_ite] at h
  repeat' split at h
  all_goals first
    | (cases h; done)
    | (simp only [Option.some.injEq, Prod.mk.injEq] at h
       obtain ⟨_, _, _, rfl⟩ := h
       first
         | exact ⟨Nat.le_refl _, Nat.le_refl _⟩
         | (simp only [iv_mo_put, iv_mo_psh]; exact ⟨by omega, by omega⟩)
         | (dsimp only; exact ⟨by omega, by omega⟩))
theorem iv_mo_Sc : iv_mo iv_oSc := by
  intro L xs pc lv st σ pc' lv' st' σ' h
  simp only [iv_oSc, iv_go, iv_br, Bool.cond_eq_ite] at h
  repeat' split at h
  all_goals first
    | (cases h; done)
    | (simp only [Option.some.injEq, Prod.mk.injEq] at h
       obtain ⟨_, _, _, rfl⟩ := h
       first
         | exact ⟨Nat.le_refl _, Nat.le_refl _⟩
         | (simp only [iv_mo_put, iv_mo_psh]; exact ⟨by omega, by omega⟩)
         | (dsimp only; exact ⟨by omega, by omega⟩))
theorem iv_mo_Si : iv_mo iv_oSi := by
  intro L xs pc lv st σ pc' lv' st' σ' h
  simp only [iv_oSi, iv_go, iv_br, Bool.cond_eq_ite] at h
  repeat' split at h
  all_goals first
    | (cases h; done)
    | (simp only [Option.some.injEq, Prod.mk.injEq] at h
       obtain ⟨_, _, _, rfl⟩ := h
       first
         | exact ⟨Nat.le_refl _, Nat.le_refl _⟩
         | (simp only [iv_mo_put, iv_mo_psh]; exact ⟨by omega, by omega⟩)
         | (dsimp only; exact ⟨by omega, by omega⟩))
theorem iv_mo_MM (f : Int32 → Int32 → Int32) : iv_mo (iv_oMM f) := by
  intro L xs pc lv st σ pc' lv' st' σ' h
  simp only [iv_oMM, iv_go, iv_br, Bool.cond_eq_ite] at h
  repeat' split at h
  all_goals first
    | (cases h; done)
    | (simp only [Option.some.injEq, Prod.mk.injEq] at h
       obtain ⟨_, _, _, rfl⟩ := h
       first
         | exact ⟨Nat.le_refl _, Nat.le_refl _⟩
         | (simp only [iv_mo_put, iv_mo_psh]; exact ⟨by omega, by omega⟩)
         | (dsimp only; exact ⟨by omega, by omega⟩))
theorem iv_mo_Ab : iv_mo iv_oAb := by
  intro L xs pc lv st σ pc' lv' st' σ' h
  simp only [iv_oAb, iv_go, iv_br, Bool.cond_eq_ite] at h
  repeat' split at h
  all_goals first
    | (cases h; done)
    | (simp only [Option.some.injEq, Prod.mk.injEq] at h
       obtain ⟨_, _, _, rfl⟩ := h
       first
         | exact ⟨Nat.le_refl _, Nat.le_refl _⟩
         | (simp only [iv_mo_put, iv_mo_psh]; exact ⟨by omega, by omega⟩)
         | (dsimp only; exact ⟨by omega, by omega⟩))

theorem iv_op_mo {m0 own nL : Nat} {ret : Option FieldType} {i : Instr} {f : iv_F} (hop : iv_op m0 own nL ret i = .inl f) : iv_mo f := by
  have fin : ∀ {g : iv_F}, iv_mo g → (Sum.inl g : iv_O) = .inl f → iv_mo f := fun h e => by rw [← Sum.inl.inj e]; exact h
  have fst : ∀ {k : Nat} {g : iv_F}, iv_mo g → iv_st k nL g = .inl f → iv_mo f := fun {k g} h e => by
    unfold iv_st at e
    cases hb : Nat.blt k nL <;> rw [hb] at e
    · exact fin iv_mo_N e
    · exact fin h e
  cases i with
  | iconst n => exact fin (iv_mo_K _ _) hop
  | bipush n => exact fin (iv_mo_K _ _) hop
  | sipush n => exact fin (iv_mo_K _ _) hop
  | lconst n => exact fin (iv_mo_K _ _) hop
  | ldc kk =>
    have hop : iv_oki own kk 2 = .inl f := hop
    unfold iv_oki at hop
    split at hop
    · exact fin (iv_mo_K _ _) hop
    · exact fin (iv_mo_K _ _) hop
    · exact fin iv_mo_N hop
  | ldc_w kk =>
    have hop : iv_oki own kk 3 = .inl f := hop
    unfold iv_oki at hop
    split at hop
    · exact fin (iv_mo_K _ _) hop
    · exact fin (iv_mo_K _ _) hop
    · exact fin iv_mo_N hop
  | ldc2_w kk =>
    have hop : iv_okj own kk = .inl f := hop
    unfold iv_okj at hop
    split at hop
    · exact fin (iv_mo_K _ _) hop
    · exact fin iv_mo_N hop
  | iload kk => exact fin (iv_mo_I _ _) hop
  | iload_n kk => exact fin (iv_mo_I _ _) hop
  | istore kk => exact fst (iv_mo_IS _ _) hop
  | istore_n kk => exact fst (iv_mo_IS _ _) hop
  | lload kk => exact fin (iv_mo_J _ _) hop
  | lload_n kk => exact fin (iv_mo_J _ _) hop
  | lstore kk => exact fst (iv_mo_JS _ _) hop
  | lstore_n kk => exact fst (iv_mo_JS _ _) hop
  | aload kk => exact fin (iv_mo_A _ _) hop
  | aload_n kk => exact fin (iv_mo_A _ _) hop
  | astore kk => exact fst (iv_mo_AS _ _) hop
  | astore_n kk => exact fst (iv_mo_AS _ _) hop
  | iinc kk z => exact fst (iv_mo_Inc _ _) hop
  | iadd => exact fin (iv_mo_II _) hop
  | isub => exact fin (iv_mo_II _) hop
  | imul => exact fin (iv_mo_II _) hop
  | iand => exact fin (iv_mo_II _) hop
  | ior => exact fin (iv_mo_II _) hop
  | ishl => exact fin (iv_mo_II _) hop
  | ishr => exact fin (iv_mo_II _) hop
  | iushr => exact fin (iv_mo_II _) hop
  | idiv => exact fin (iv_mo_DI _) hop
  | irem => exact fin (iv_mo_DI _) hop
  | ladd => exact fin (iv_mo_JJ _) hop
  | lsub => exact fin (iv_mo_JJ _) hop
  | lmul => exact fin (iv_mo_JJ _) hop
  | land => exact fin (iv_mo_JJ _) hop
  | lor => exact fin (iv_mo_JJ _) hop
  | lxor => exact fin (iv_mo_JJ _) hop
  | lshl => exact fin (iv_mo_JI _) hop
  | lushr => exact fin (iv_mo_JI _) hop
  | ldiv => exact fin (iv_mo_DJ _) hop
  | lrem => exact fin (iv_mo_DJ _) hop
  | lcmp => exact fin iv_mo_Cmp hop
  | i2l => exact fin (iv_mo_UI _) hop
  | i2c => exact fin (iv_mo_UI _) hop
  | ineg => exact fin (iv_mo_UI _) hop
  | l2i => exact fin iv_mo_L2I hop
  | dup => exact fin iv_mo_Dup hop
  | pop => exact fin iv_mo_Pop hop
  | dup2 => exact fin iv_mo_Dup2 hop
  | goto off => exact fin (iv_mo_Go _) hop
  | ifCond cd off => exact fin (iv_mo_If _ _) hop
  | if_icmp cd off => exact fin (iv_mo_Ic _ _) hop
  | if_acmp cd off => cases cd with
    | ne => exact fin (iv_mo_Ac _) hop
    | eq => exact fin iv_mo_N hop
  | tableswitch d lo hi offs => exact fin (iv_mo_Ts _ _ _ _) hop
  | lookupswitch d ps => exact fin (iv_mo_Ls _ _) hop
  | getfield kk =>
    have hop : iv_ofd own kk = .inl f := hop
    unfold iv_ofd at hop
    split at hop
    · exact fin (iv_mo_GF _ _) hop
    · exact fin iv_mo_Wt hop
    · exact fin iv_mo_N hop
  | putfield kk =>
    have hop : iv_opf m0 own kk = .inl f := hop
    unfold iv_opf at hop
    split at hop
    · rw [Bool.cond_eq_ite] at hop
      split at hop
      · exact fin (iv_mo_PF _ _ _) hop
      · exact fin iv_mo_N hop
    · exact fin iv_mo_N hop
  | iaload => exact fin iv_mo_Il hop
  | laload => exact fin iv_mo_Jl hop
  | baload => exact fin iv_mo_Zl hop
  | aaload => exact fin iv_mo_Ql hop
  | arraylength => exact fin iv_mo_Len hop
  | iastore => exact fin iv_mo_Ist hop
  | lastore => exact fin iv_mo_Jst hop
  | bastore => exact fin iv_mo_Zst hop
  | aastore => exact fin iv_mo_Qst hop
  | new kk =>
    have hop : iv_onw own kk = .inl f := hop
    unfold iv_onw at hop
    split at hop
    · exact fin (iv_mo_New _) hop
    · exact fin iv_mo_N hop
  | newarray t => cases t with
    | int => exact fin (iv_mo_Na _ _) hop
    | long => exact fin (iv_mo_Na _ _) hop
    | boolean => exact fin (iv_mo_Na _ _) hop
    | _ => exact fin iv_mo_N hop
  | anewarray kk =>
    have hop : iv_onq own kk = .inl f := hop
    unfold iv_onq at hop
    split at hop
    · rw [Bool.cond_eq_ite] at hop
      split at hop
      · exact fin (iv_mo_Nq _) hop
      · exact fin iv_mo_N hop
    · rw [Bool.cond_eq_ite] at hop
      split at hop
      · exact fin iv_mo_N hop
      · exact fin (iv_mo_Nq _) hop
    · exact fin iv_mo_N hop
  | multianewarray kk z =>
    have hop2 : (bif Nat.beq z 2 then iv_onm own kk else .inl iv_oN) = .inl f := hop
    rw [Bool.cond_eq_ite] at hop2
    split at hop2
    · unfold iv_onm at hop2
      split at hop2
      · exact fin iv_mo_Nm hop2
      · exact fin iv_mo_N hop2
    · exact fin iv_mo_N hop2
  | getstatic kk =>
    have hop : iv_ogs own kk = .inl f := hop
    unfold iv_ogs at hop
    split at hop
    · exact fin (iv_mo_S _) hop
    · exact fin (iv_mo_S _) hop
    · exact fin (iv_mo_S _) hop
    · exact fin iv_mo_N hop
  | invokestatic kk =>
    have hop : iv_oss own kk = .inl f := hop
    unfold iv_oss at hop
    split at hop
    · exact fin iv_mo_Cp hop
    · exact fin (iv_mo_MM _) hop
    · exact fin (iv_mo_MM _) hop
    · exact fin iv_mo_Ab hop
    · cases hop
    · exact fin iv_mo_N hop
  | invokespecial kk =>
    have hop : iv_osp own kk = .inl f := hop
    unfold iv_osp at hop
    split at hop
    · exact fin iv_mo_Ob hop
    · cases hop
    · cases hop
    · exact fin iv_mo_N hop
  | invokevirtual kk =>
    have hop : iv_ovi own kk = .inl f := hop
    unfold iv_ovi at hop
    split at hop
    · exact fin iv_mo_Ord hop
    · exact fin iv_mo_Sl hop
    · exact fin iv_mo_Sc hop
    · exact fin iv_mo_Si hop
    · cases hop
    · exact fin iv_mo_N hop
  | ireturn =>
    have hop : (match ret with | some .int => (.inr (.inl 1) : iv_O) | some .boolean => .inr (.inl 2) | _ => .inl iv_oN) = .inl f := hop
    split at hop <;> first | (exact fin iv_mo_N hop) | (cases hop; done)
  | lreturn =>
    have hop : (match ret with | some .long => (.inr (.inl 3) : iv_O) | _ => .inl iv_oN) = .inl f := hop
    split at hop <;> first | (exact fin iv_mo_N hop) | (cases hop; done)
  | areturn =>
    have hop : (match ret with | some (.object _) => (.inr (.inl 4) : iv_O) | _ => .inl iv_oN) = .inl f := hop
    split at hop <;> first | (exact fin iv_mo_N hop) | (cases hop; done)
  | return_ =>
    have hop : (match ret with | none => (.inr (.inl 0) : iv_O) | _ => .inl iv_oN) = .inl f := hop
    split at hop <;> first | (exact fin iv_mo_N hop) | (cases hop; done)
  | _ => exact fin iv_mo_N hop
