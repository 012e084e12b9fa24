/-! ===== a run that makes no cell makes no slot ===== -/
def iv_mq (f : iv_F) : Prop := ∀ (L : Nat) (xs : Nat → Int32) (pc : Nat) (lv : iv_L) (st : List Value) (σ : iv_H) (pc' : Nat) (lv' : iv_L) (st' : List Value) (σ' : iv_H), f L xs pc lv st σ = some (pc', lv', st', σ') → σ'.1 = σ.1 → σ'.2.2 = σ.2.2
theorem iv_mq_N : iv_mq iv_oN := by
  intro L xs pc lv st σ pc' lv' st' σ' h
  simp only [iv_oN, iv_go, iv_br, Bool.cond_eq_ite] at h
  repeat' split at h
  all_goals first
    | (cases h; done)
    | (simp only [Option.some.injEq, Prod.mk.injEq] at h
       obtain ⟨_, _, _, rfl⟩ := h
       first
         | exact fun _ => rfl
         | exact fun _ => iv_mo_put.2
         | (intro hq9
            exfalso
            simp only [iv_mo_psh] at hq9
            omega)
         | (intro hq9
            exfalso
            dsimp only at hq9
            omega))
theorem iv_mq_K (v : Value) (len : Nat) : iv_mq (iv_oK v len) := by
  intro L xs pc lv st σ pc' lv' st' σ' h
  simp only [iv_oK, iv_go, iv_br, Bool.cond_eq_ite] at h
  repeat' split at h
  all_goals first
    | (cases h; done)
    | (simp only [Option.some.injEq, Prod.mk.injEq] at h
       obtain ⟨_, _, _, rfl⟩ := h
       first
         | exact fun _ => rfl
         | exact fun _ => iv_mo_put.2
         | (intro hq9
            exfalso
            simp only [iv_mo_psh] at hq9
            omega)
         | (intro hq9
            exfalso
            dsimp only at hq9
            omega))
theorem iv_mq_I (k len : Nat) : iv_mq (iv_oI k len) := by
  intro L xs pc lv st σ pc' lv' st' σ' h
  simp only [iv_oI, iv_go, iv_br, Bool.cond_eq_ite] at h
  repeat' split at h
  all_goals first
    | (cases h; done)
    | (simp only [Option.some.injEq, Prod.mk.injEq] at h
       obtain ⟨_, _, _, rfl⟩ := h
       first
         | exact fun _ => rfl
         | exact fun _ => iv_mo_put.2
         | (intro hq9
            exfalso
            simp only [iv_mo_psh] at hq9
            omega)
         | (intro hq9
            exfalso
            dsimp only at hq9
            omega))
theorem iv_mq_J (k len : Nat) : iv_mq (iv_oJ k len) := by
  intro L xs pc lv st σ pc' lv' st' σ' h
  simp only [iv_oJ, iv_go, iv_br, Bool.cond_eq_ite] at h
  repeat' split at h
  all_goals first
    | (cases h; done)
    | (simp only [Option.some.injEq, Prod.mk.injEq] at h
       obtain ⟨_, _, _, rfl⟩ := h
       first
         | exact fun _ => rfl
         | exact fun _ => iv_mo_put.2
         | (intro hq9
            exfalso
            simp only [iv_mo_psh] at hq9
            omega)
         | (intro hq9
            exfalso
            dsimp only at hq9
            omega))
theorem iv_mq_A (k len : Nat) : iv_mq (iv_oA k len) := by
  intro L xs pc lv st σ pc' lv' st' σ' h
  simp only [iv_oA, iv_go, iv_br, Bool.cond_eq_ite] at h
  repeat' split at h
  all_goals first
    | (cases h; done)
    | (simp only [Option.some.injEq, Prod.mk.injEq] at h
       obtain ⟨_, _, _, rfl⟩ := h
       first
         | exact fun _ => rfl
         | exact fun _ => iv_mo_put.2
         | (intro hq9
            exfalso
            simp only [iv_mo_psh] at hq9
            omega)
         | (intro hq9
            exfalso
            dsimp only at hq9
            omega))
theorem iv_mq_IS (k len : Nat) : iv_mq (iv_oIS k len) := by
  intro L xs pc lv st σ pc' lv' st' σ' h
  simp only [iv_oIS, iv_go, iv_br, Bool.cond_eq_ite] at h
  repeat' split at h
  all_goals first
    | (cases h; done)
    | (simp only [Option.some.injEq, Prod.mk.injEq] at h
       obtain ⟨_, _, _, rfl⟩ := h
       first
         | exact fun _ => rfl
         | exact fun _ => iv_mo_put.2
         | (intro hq9
            exfalso
            simp only [iv_mo_psh] at hq9
            omega)
         | (intro hq9
            exfalso
            dsimp only at hq9
            omega))
theorem iv_mq_JS (k len : Nat) : iv_mq (iv_oJS k len) := by
  intro L xs pc lv st σ pc' lv' st' σ' h
  simp only [iv_oJS, iv_go, iv_br, Bool.cond_eq_ite] at h
  repeat' split at h
  all_goals first
    | (cases h; done)
    | (simp only [Option.some.injEq, Prod.mk.injEq] at h
       obtain ⟨_, _, _, rfl⟩ := h
       first
         | exact fun _ => rfl
         | exact fun _ => iv_mo_put.2
         | (intro hq9
            exfalso
            simp only [iv_mo_psh] at hq9
            omega)
         | (intro hq9
            exfalso
            dsimp only at hq9
            omega))
theorem iv_mq_AS (k len : Nat) : iv_mq (iv_oAS k len) := by
  intro L xs pc lv st σ pc' lv' st' σ' h
  simp only [iv_oAS, iv_go, iv_br, Bool.cond_eq_ite] at h
  repeat' split at h
  all_goals first
    | (cases h; done)
    | (simp only [Option.some.injEq, Prod.mk.injEq] at h
       obtain ⟨_, _, _, rfl⟩ := h
       first
         | exact fun _ => rfl
         | exact fun _ => iv_mo_put.2
         | (intro hq9
            exfalso
            simp only [iv_mo_psh] at hq9
            omega)
         | (intro hq9
            exfalso
            dsimp only at hq9
            omega))
theorem iv_mq_Inc (k : Nat) (n : Int) : iv_mq (iv_oInc k n) := by
  intro L xs pc lv st σ pc' lv' st' σ' h
  simp only [iv_oInc, iv_go, iv_br, Bool.cond_eq_ite] at h
  repeat' split at h
  all_goals first
    | (cases h; done)
    | (simp only [Option.some.injEq, Prod.mk.injEq] at h
       obtain ⟨_, _, _, rfl⟩ := h
       first
         | exact fun _ => rfl
         | exact fun _ => iv_mo_put.2
         | (intro hq9
            exfalso
            simp only [iv_mo_psh] at hq9
            omega)
         | (intro hq9
            exfalso
            dsimp only at hq9
            omega))
theorem iv_mq_II (f : Int32 → Int32 → Int32) : iv_mq (iv_oII f) := by
  intro L xs pc lv st σ pc' lv' st' σ' h
  simp only [iv_oII, iv_go, iv_br, Bool.cond_eq_ite] at h
  repeat' split at h
  all_goals first
    | (cases h; done)
    | (simp only [Option.some.injEq, Prod.mk.injEq] at h
       obtain ⟨_, _, _, rfl⟩ := h
       first
         | exact fun _ => rfl
         | exact fun _ => iv_mo_put.2
         | (intro hq9
            exfalso
            simp only [iv_mo_psh] at hq9
            omega)
         | (intro hq9
            exfalso
            dsimp only at hq9
            omega))
theorem iv_mq_JJ (f : Int64 → Int64 → Int64) : iv_mq (iv_oJJ f) := by
  intro L xs pc lv st σ pc' lv' st' σ' h
  simp only [iv_oJJ, iv_go, iv_br, Bool.cond_eq_ite] at h
  repeat' split at h
  all_goals first
    | (cases h; done)
    | (simp only [Option.some.injEq, Prod.mk.injEq] at h
       obtain ⟨_, _, _, rfl⟩ := h
       first
         | exact fun _ => rfl
         | exact fun _ => iv_mo_put.2
         | (intro hq9
            exfalso
            simp only [iv_mo_psh] at hq9
            omega)
         | (intro hq9
            exfalso
            dsimp only at hq9
            omega))
theorem iv_mq_JI (f : Int64 → Int32 → Int64) : iv_mq (iv_oJI f) := by
  intro L xs pc lv st σ pc' lv' st' σ' h
  simp only [iv_oJI, iv_go, iv_br, Bool.cond_eq_ite] at h
  repeat' split at h
  all_goals first
    | (cases h; done)
    | (simp only [Option.some.injEq, Prod.mk.injEq] at h
       obtain ⟨_, _, _, rfl⟩ := h
       first
         | exact fun _ => rfl
         | exact fun _ => iv_mo_put.2
         | (intro hq9
            exfalso
            simp only [iv_mo_psh] at hq9
            omega)
         | (intro hq9
            exfalso
            dsimp only at hq9
            omega))
theorem iv_mq_DI (f : Int32 → Int32 → Int32) : iv_mq (iv_oDI f) := by
  intro L xs pc lv st σ pc' lv' st' σ' h
  simp only [iv_oDI, iv_go, iv_br, Bool.cond_eq_ite] at h
  repeat' split at h
  all_goals first
    | (cases h; done)
    | (simp only [Option.some.injEq, Prod.mk.injEq] at h
       obtain ⟨_, _, _, rfl⟩ := h
       first
         | exact fun _ => rfl
         | exact fun _ => iv_mo_put.2
         | (intro hq9
            exfalso
            simp only [iv_mo_psh] at hq9
            omega)
         | (intro hq9
            exfalso
            dsimp only at hq9
            omega))
theorem iv_mq_DJ (f : Int64 → Int64 → Int64) : iv_mq (iv_oDJ f) := by
  intro L xs pc lv st σ pc' lv' st' σ' h
  simp only [iv_oDJ, iv_go, iv_br, Bool.cond_eq_ite] at h
  repeat' split at h
  all_goals first
    | (cases h; done)
    | (simp only [Option.some.injEq, Prod.mk.injEq] at h
       obtain ⟨_, _, _, rfl⟩ := h
       first
         | exact fun _ => rfl
         | exact fun _ => iv_mo_put.2
         | (intro hq9
            exfalso
            simp only [iv_mo_psh] at hq9
            omega)
         | (intro hq9
            exfalso
            dsimp only at hq9
            omega))
theorem iv_mq_Cmp : iv_mq iv_oCmp := by
  intro L xs pc lv st σ pc' lv' st' σ' h
  simp only [iv_oCmp, iv_go, iv_br, Bool.cond_eq_ite] at h
  repeat' split at h
  all_goals first
    | (cases h; done)
    | (simp only [Option.some.injEq, Prod.mk.injEq] at h
       obtain ⟨_, _, _, rfl⟩ := h
       first
         | exact fun _ => rfl
         | exact fun _ => iv_mo_put.2
         | (intro hq9
            exfalso
            simp only [iv_mo_psh] at hq9
            omega)
         | (intro hq9
            exfalso
            dsimp only at hq9
            omega))
theorem iv_mq_UI (f : Int32 → Value) : iv_mq (iv_oUI f) := by
  intro L xs pc lv st σ pc' lv' st' σ' h
  simp only [iv_oUI, iv_go, iv_br, Bool.cond_eq_ite] at h
  repeat' split at h
  all_goals first
    | (cases h; done)
    | (simp only [Option.some.injEq, Prod.mk.injEq] at h
       obtain ⟨_, _, _, rfl⟩ := h
       first
         | exact fun _ => rfl
         | exact fun _ => iv_mo_put.2
         | (intro hq9
            exfalso
            simp only [iv_mo_psh] at hq9
            omega)
         | (intro hq9
            exfalso
            dsimp only at hq9
            omega))
theorem iv_mq_L2I : iv_mq iv_oL2I := by
  intro L xs pc lv st σ pc' lv' st' σ' h
  simp only [iv_oL2I, iv_go, iv_br, Bool.cond_eq_ite] at h
  repeat' split at h
  all_goals first
    | (cases h; done)
    | (simp only [Option.some.injEq, Prod.mk.injEq] at h
       obtain ⟨_, _, _, rfl⟩ := h
       first
         | exact fun _ => rfl
         | exact fun _ => iv_mo_put.2
         | (intro hq9
            exfalso
            simp only [iv_mo_psh] at hq9
            omega)
         | (intro hq9
            exfalso
            dsimp only at hq9
            omega))
theorem iv_mq_Dup : iv_mq iv_oDup := by
  intro L xs pc lv st σ pc' lv' st' σ' h
  simp only [iv_oDup, iv_go, iv_br, Bool.cond_eq_ite] at h
  repeat' split at h
  all_goals first
    | (cases h; done)
    | (simp only [Option.some.injEq, Prod.mk.injEq] at h
       obtain ⟨_, _, _, rfl⟩ := h
       first
         | exact fun _ => rfl
         | exact fun _ => iv_mo_put.2
         | (intro hq9
            exfalso
            simp only [iv_mo_psh] at hq9
            omega)
         | (intro hq9
            exfalso
            dsimp only at hq9
            omega))
theorem iv_mq_Pop : iv_mq iv_oPop := by
  intro L xs pc lv st σ pc' lv' st' σ' h
  simp only [iv_oPop, iv_go, iv_br, Bool.cond_eq_ite] at h
  repeat' split at h
  all_goals first
    | (cases h; done)
    | (simp only [Option.some.injEq, Prod.mk.injEq] at h
       obtain ⟨_, _, _, rfl⟩ := h
       first
         | exact fun _ => rfl
         | exact fun _ => iv_mo_put.2
         | (intro hq9
            exfalso
            simp only [iv_mo_psh] at hq9
            omega)
         | (intro hq9
            exfalso
            dsimp only at hq9
            omega))
theorem iv_mq_Dup2 : iv_mq iv_oDup2 := by
  intro L xs pc lv st σ pc' lv' st' σ' h
  simp only [iv_oDup2, iv_go, iv_br, Bool.cond_eq_ite] at h
  repeat' split at h
  all_goals first
    | (cases h; done)
    | (simp only [Option.some.injEq, Prod.mk.injEq] at h
       obtain ⟨_, _, _, rfl⟩ := h
       first
         | exact fun _ => rfl
         | exact fun _ => iv_mo_put.2
         | (intro hq9
            exfalso
            simp only [iv_mo_psh] at hq9
            omega)
         | (intro hq9
            exfalso
            dsimp only at hq9
            omega))
theorem iv_mq_Go (off : Int) : iv_mq (iv_oGo off) := by
  intro L xs pc lv st σ pc' lv' st' σ' h
  simp only [iv_oGo, iv_go, iv_br, Bool.cond_eq_ite] at h
  repeat' split at h
  all_goals first
    | (cases h; done)
    | (simp only [Option.some.injEq, Prod.mk.injEq] at h
       obtain ⟨_, _, _, rfl⟩ := h
       first
         | exact fun _ => rfl
         | exact fun _ => iv_mo_put.2
         | (intro hq9
            exfalso
            simp only [iv_mo_psh] at hq9
            omega)
         | (intro hq9
            exfalso
            dsimp only at hq9
            omega))
theorem iv_mq_If (c : ClassFile.Cond) (off : Int) : iv_mq (iv_oIf c off) := by
  intro L xs pc lv st σ pc' lv' st' σ' h
  simp only [iv_oIf, iv_go, iv_br, Bool.cond_eq_ite] at h
  repeat' split at h
  all_goals first
    | (cases h; done)
    | (simp only [Option.some.injEq, Prod.mk.injEq] at h
       obtain ⟨_, _, _, rfl⟩ := h
       first
         | exact fun _ => rfl
         | exact fun _ => iv_mo_put.2
         | (intro hq9
            exfalso
            simp only [iv_mo_psh] at hq9
            omega)
         | (intro hq9
            exfalso
            dsimp only at hq9
            omega))
theorem iv_mq_Ic (c : ClassFile.Cond) (off : Int) : iv_mq (iv_oIc c off) := by
  intro L xs pc lv st σ pc' lv' st' σ' h
  simp only [iv_oIc, iv_go, iv_br, Bool.cond_eq_ite] at h
  repeat' split at h
  all_goals first
    | (cases h; done)
    | (simp only [Option.some.injEq, Prod.mk.injEq] at h
       obtain ⟨_, _, _, rfl⟩ := h
       first
         | exact fun _ => rfl
         | exact fun _ => iv_mo_put.2
         | (intro hq9
            exfalso
            simp only [iv_mo_psh] at hq9
            omega)
         | (intro hq9
            exfalso
            dsimp only at hq9
            omega))
theorem iv_mq_Ts (dflt lo hi : Int) (offs : Array Int) : iv_mq (iv_oTs dflt lo hi offs) := by
  intro L xs pc lv st σ pc' lv' st' σ' h
  simp only [iv_oTs, iv_go, iv_br, Bool.cond_eq_ite] at h
  repeat' split at h
  all_goals first
    | (cases h; done)
    | (simp only [Option.some.injEq, Prod.mk.injEq] at h
       obtain ⟨_, _, _, rfl⟩ := h
       first
         | exact fun _ => rfl
         | exact fun _ => iv_mo_put.2
         | (intro hq9
            exfalso
            simp only [iv_mo_psh] at hq9
            omega)
         | (intro hq9
            exfalso
            dsimp only at hq9
            omega))
theorem iv_mq_Ls (dflt : Int) (ps : Array (Int × Int)) : iv_mq (iv_oLs dflt ps) := by
  intro L xs pc lv st σ pc' lv' st' σ' h
  simp only [iv_oLs, iv_go, iv_br, Bool.cond_eq_ite] at h
  repeat' split at h
  all_goals first
    | (cases h; done)
    | (simp only [Option.some.injEq, Prod.mk.injEq] at h
       obtain ⟨_, _, _, rfl⟩ := h
       first
         | exact fun _ => rfl
         | exact fun _ => iv_mo_put.2
         | (intro hq9
            exfalso
            simp only [iv_mo_psh] at hq9
            omega)
         | (intro hq9
            exfalso
            dsimp only at hq9
            omega))
theorem iv_mq_Ac (off : Int) : iv_mq (iv_oAc off) := by
  intro L xs pc lv st σ pc' lv' st' σ' h
  simp only [iv_oAc, iv_go, iv_br, Bool.cond_eq_ite] at h
  repeat' split at h
  all_goals first
    | (cases h; done)
    | (simp only [Option.some.injEq, Prod.mk.injEq] at h
       obtain ⟨_, _, _, rfl⟩ := h
       first
         | exact fun _ => rfl
         | exact fun _ => iv_mo_put.2
         | (intro hq9
            exfalso
            simp only [iv_mo_psh] at hq9
            omega)
         | (intro hq9
            exfalso
            dsimp only at hq9
            omega))
theorem iv_mq_GF (ci j : Nat) : iv_mq (iv_oGF ci j) := by
  intro L xs pc lv st σ pc' lv' st' σ' h
  simp only [iv_oGF, iv_go, iv_br, Bool.cond_eq_ite] at h
  repeat' split at h
  all_goals first
    | (cases h; done)
    | (simp only [Option.some.injEq, Prod.mk.injEq] at h
       obtain ⟨_, _, _, rfl⟩ := h
       first
         | exact fun _ => rfl
         | exact fun _ => iv_mo_put.2
         | (intro hq9
            exfalso
            simp only [iv_mo_psh] at hq9
            omega)
         | (intro hq9
            exfalso
            dsimp only at hq9
            omega))
theorem iv_mq_PF (ci j : Nat) (ty : FieldType) : iv_mq (iv_oPF ci j ty) := by
  intro L xs pc lv st σ pc' lv' st' σ' h
  simp only [iv_oPF, iv_go, iv_br, Bool.cond_eq_ite] at h
  repeat' split at h
  all_goals first
    | (cases h; done)
    | (simp only [Option.some.injEq, Prod.mk.injEq] at h
       obtain ⟨_, _, _, rfl⟩ := h
       first
         | exact fun _ => rfl
         | exact fun _ => iv_mo_put.2
         | (intro hq9
            exfalso
            simp only [iv_mo_psh] at hq9
            omega)
         | (intro hq9
            exfalso
            dsimp only at hq9
            omega))
theorem iv_mq_Il : iv_mq iv_oIl := by
  intro L xs pc lv st σ pc' lv' st' σ' h
  simp only [iv_oIl, iv_go, iv_br, Bool.cond_eq_ite] at h
  repeat' split at h
  all_goals first
    | (cases h; done)
    | (simp only [Option.some.injEq, Prod.mk.injEq] at h
       obtain ⟨_, _, _, rfl⟩ := h
       first
         | exact fun _ => rfl
         | exact fun _ => iv_mo_put.2
         | (intro hq9
            exfalso
            simp only [iv_mo_psh] at hq9
            omega)
         | (intro hq9
            exfalso
            dsimp only at hq9
            omega))
theorem iv_mq_Jl : iv_mq iv_oJl := by
  intro L xs pc lv st σ pc' lv' st' σ' h
  simp only [iv_oJl, iv_go, iv_br, Bool.cond_eq_ite] at h
  repeat' split at h
  all_goals first
    | (cases h; done)
    | (simp only [Option.some.injEq, Prod.mk.injEq] at h
       obtain ⟨_, _, _, rfl⟩ := h
       first
         | exact fun _ => rfl
         | exact fun _ => iv_mo_put.2
         | (intro hq9
            exfalso
            simp only [iv_mo_psh] at hq9
            omega)
         | (intro hq9
            exfalso
            dsimp only at hq9
            omega))
theorem iv_mq_Zl : iv_mq iv_oZl := by
  intro L xs pc lv st σ pc' lv' st' σ' h
  simp only [iv_oZl, iv_go, iv_br, Bool.cond_eq_ite] at h
  repeat' split at h
  all_goals first
    | (cases h; done)
    | (simp only [Option.some.injEq, Prod.mk.injEq] at h
       obtain ⟨_, _, _, rfl⟩ := h
       first
         | exact fun _ => rfl
         | exact fun _ => iv_mo_put.2
         | (intro hq9
            exfalso
            simp only [iv_mo_psh] at hq9
            omega)
         | (intro hq9
            exfalso
            dsimp only at hq9
            omega))
theorem iv_mq_Ql : iv_mq iv_oQl := by
  intro L xs pc lv st σ pc' lv' st' σ' h
  simp only [iv_oQl, iv_go, iv_br, Bool.cond_eq_ite] at h
  repeat' split at h
  all_goals first
    | (cases h; done)
    | (simp only [Option.some.injEq, Prod.mk.injEq] at h
       obtain ⟨_, _, _, rfl⟩ := h
       first
         | exact fun _ => rfl
         | exact fun _ => iv_mo_put.2
         | (intro hq9
            exfalso
            simp only [iv_mo_psh] at hq9
            omega)
         | (intro hq9
            exfalso
            dsimp only at hq9
            omega))
theorem iv_mq_Len : iv_mq iv_oLen := by
  intro L xs pc lv st σ pc' lv' st' σ' h
  simp only [iv_oLen, iv_go, iv_br, Bool.cond_eq_ite] at h
  repeat' split at h
  all_goals first
    | (cases h; done)
    | (simp only [Option.some.injEq, Prod.mk.injEq] at h
       obtain ⟨_, _, _, rfl⟩ := h
       first
         | exact fun _ => rfl
         | exact fun _ => iv_mo_put.2
         | (intro hq9
            exfalso
            simp only [iv_mo_psh] at hq9
            omega)
         | (intro hq9
            exfalso
            dsimp only at hq9
            omega))
theorem iv_mq_Ist : iv_mq iv_oIst := by
  intro L xs pc lv st σ pc' lv' st' σ' h
  simp only [iv_oIst, iv_go, iv_br, Bool.cond_eq_ite] at h
  repeat' split at h
  all_goals first
    | (cases h; done)
    | (simp only [Option.some.injEq, Prod.mk.injEq] at h
       obtain ⟨_, _, _, rfl⟩ := h
       first
         | exact fun _ => rfl
         | exact fun _ => iv_mo_put.2
         | (intro hq9
            exfalso
            simp only [iv_mo_psh] at hq9
            omega)
         | (intro hq9
            exfalso
            dsimp only at hq9
            omega))
theorem iv_mq_Jst : iv_mq iv_oJst := by
  intro L xs pc lv st σ pc' lv' st' σ' h
  simp only [iv_oJst, iv_go, iv_br, Bool.cond_eq_ite] at h
  repeat' split at h
  all_goals first
    | (cases h; done)
    | (simp only [Option.some.injEq, Prod.mk.injEq] at h
       obtain ⟨_, _, _, rfl⟩ := h
       first
         | exact fun _ => rfl
         | exact fun _ => iv_mo_put.2
         | (intro hq9
            exfalso
            simp only [iv_mo_psh] at hq9
            omega)
         | (intro hq9
            exfalso
            dsimp only at hq9
            omega))
theorem iv_mq_Zst : iv_mq iv_oZst := by
  intro L xs pc lv st σ pc' lv' st' σ' h
  simp only [iv_oZst, iv_go, iv_br, Bool.cond_eq_ite] at h
  repeat' split at h
  all_goals first
    | (cases h; done)
    | (simp only [Option.some.injEq, Prod.mk.injEq] at h
       obtain ⟨_, _, _, rfl⟩ := h
       first
         | exact fun _ => rfl
         | exact fun _ => iv_mo_put.2
         | (intro hq9
            exfalso
            simp only [iv_mo_psh] at hq9
            omega)
         | (intro hq9
            exfalso
            dsimp only at hq9
            omega))
theorem iv_mq_Qst : iv_mq iv_oQst := by
  intro L xs pc lv st σ pc' lv' st' σ' h
  simp only [iv_oQst, iv_go, iv_br, Bool.cond_eq_ite] at h
  repeat' split at h
  all_goals first
    | (cases h; done)
    | (simp only [Option.some.injEq, Prod.mk.injEq] at h
       obtain ⟨_, _, _, rfl⟩ := h
       first
         | exact fun _ => rfl
         | exact fun _ => iv_mo_put.2
         | (intro hq9
            exfalso
            simp only [iv_mo_psh] at hq9
            omega)
         | (intro hq9
            exfalso
            dsimp only at hq9
            omega))
theorem iv_mq_New (ci : Nat) : iv_mq (iv_oNew ci) := by
  intro L xs pc lv st σ pc' lv' st' σ' h
  simp only [iv_oNew, iv_go, iv_br, Bool.cond_eq_ite] at h
  repeat' split at h
  all_goals first
    | (cases h; done)
    | (simp only [Option.some.injEq, Prod.mk.injEq] at h
       obtain ⟨_, _, _, rfl⟩ := h
       first
         | exact fun _ => rfl
         | exact fun _ => iv_mo_put.2
         | (intro hq9
            exfalso
            simp only [iv_mo_psh] at hq9
            omega)
         | (intro hq9
            exfalso
            dsimp only at hq9
            omega))
theorem iv_mq_Na (t : Nat) (z : vp_A) : iv_mq (iv_oNa t z) := by
  intro L xs pc lv st σ pc' lv' st' σ' h
  simp only [iv_oNa, iv_go, iv_br, Bool.cond_eq_ite] at h
  repeat' split at h
  all_goals first
    | (cases h; done)
    | (simp only [Option.some.injEq, Prod.mk.injEq] at h
       obtain ⟨_, _, _, rfl⟩ := h
       first
         | exact fun _ => rfl
         | exact fun _ => iv_mo_put.2
         | (intro hq9
            exfalso
            simp only [iv_mo_psh] at hq9
            omega)
         | (intro hq9
            exfalso
            dsimp only at hq9
            omega))
theorem iv_mq_Nq (t : Nat) : iv_mq (iv_oNq t) := by
  intro L xs pc lv st σ pc' lv' st' σ' h
  simp only [iv_oNq, iv_go, iv_br, Bool.cond_eq_ite] at h
  repeat' split at h
  all_goals first
    | (cases h; done)
    | (simp only [Option.some.injEq, Prod.mk.injEq] at h
       obtain ⟨_, _, _, rfl⟩ := h
       first
         | exact fun _ => rfl
         | exact fun _ => iv_mo_put.2
         | (intro hq9
            exfalso
            simp only [iv_mo_psh] at hq9
            omega)
         | (intro hq9
            exfalso
            dsimp only at hq9
            omega))
theorem iv_mq_Nm : iv_mq iv_oNm := by
  intro L xs pc lv st σ pc' lv' st' σ' h
  simp only [iv_oNm, iv_go, iv_br, Bool.cond_eq_ite] at h
  repeat' split at h
  all_goals first
    | (cases h; done)
    | (simp only [Option.some.injEq, Prod.mk.injEq] at h
       obtain ⟨_, _, _, rfl⟩ := h
       first
         | exact fun _ => rfl
         | exact fun _ => iv_mo_put.2
         | (intro hq9
            exfalso
            simp only [iv_mo_psh] at hq9
            omega)
         | (intro hq9
            exfalso
            dsimp only at hq9
            omega))
theorem iv_mq_S (a : Nat) : iv_mq (iv_oS a) := by
  intro L xs pc lv st σ pc' lv' st' σ' h
  simp only [iv_oS, iv_go, iv_br, Bool.cond_eq_ite] at h
  repeat' split at h
  all_goals first
    | (cases h; done)
    | (simp only [Option.some.injEq, Prod.mk.injEq] at h
       obtain ⟨_, _, _, rfl⟩ := h
       first
         | exact fun _ => rfl
         | exact fun _ => iv_mo_put.2
         | (intro hq9
            exfalso
            simp only [iv_mo_psh] at hq9
            omega)
         | (intro hq9
            exfalso
            dsimp only at hq9
            omega))
theorem iv_mq_Cp : iv_mq iv_oCp := by
  intro L xs pc lv st σ pc' lv' st' σ' h
  simp only [iv_oCp, iv_go, iv_br, Bool.cond_eq_ite] at h
  repeat' split at h
  all_goals first
    | (cases h; done)
    | (simp only [Option.some.injEq, Prod.mk.injEq] at h
       obtain ⟨_, _, _, rfl⟩ := h
       first
         | exact fun _ => rfl
         | exact fun _ => iv_mo_put.2
         | (intro hq9
            exfalso
            simp only [iv_mo_psh] at hq9
            omega)
         | (intro hq9
            exfalso
            dsimp only at hq9
            omega))
theorem iv_mq_Ob : iv_mq iv_oOb := by
  intro L xs pc lv st σ pc' lv' st' σ' h
  simp only [iv_oOb, iv_go, iv_br, Bool.cond_eq_ite] at h
  repeat' split at h
  all_goals first
    | (cases h; done)
    | (simp only [Option.some.injEq, Prod.mk.injEq] at h
       obtain ⟨_, _, _, rfl⟩ := h
       first
         | exact fun _ => rfl
         | exact fun _ => iv_mo_put.2
         | (intro hq9
            exfalso
            simp only [iv_mo_psh] at hq9
            omega)
         | (intro hq9
            exfalso
            dsimp only at hq9
            omega))
theorem iv_mq_Ord : iv_mq iv_oOrd := by
  intro L xs pc lv st σ pc' lv' st' σ' h
  simp only [iv_oOrd, iv_go, iv_br, Bool.cond_eq_ite] at h
  repeat' split at h
  all_goals first
    | (cases h; done)
    | (simp only [Option.some.injEq, Prod.mk.injEq] at h
       obtain ⟨_, _, _, rfl⟩ := h
       first
         | exact fun _ => rfl
         | exact fun _ => iv_mo_put.2
         | (intro hq9
            exfalso
            simp only [iv_mo_psh] at hq9
            omega)
         | (intro hq9
            exfalso
            dsimp only at hq9
            omega))
theorem iv_mq_Wt : iv_mq iv_oWt := by
  intro L xs pc lv st σ pc' lv' st' σ' h
  simp only [iv_oWt, iv_go, iv_br, Bool.cond_eq_ite] at h
  repeat' split at h
  all_goals first
    | (cases h; done)
    | (simp only [Option.some.injEq, Prod.mk.injEq] at h
       obtain ⟨_, _, _, rfl⟩ := h
       first
         | exact fun _ => rfl
         | exact fun _ => iv_mo_put.2
         | (intro hq9
            exfalso
            simp only [iv_mo_psh] at hq9
            omega)
         | (intro hq9
            exfalso
            dsimp only at hq9
            omega))
theorem iv_mq_Sl : iv_mq iv_oSl := by
  intro L xs pc lv st σ pc' lv' st' σ' h
  simp only [iv_oSl, iv_go, iv_br, Bool.cond_eq_ite] at h
  repeat' split at h
  all_goals first
    | (cases h; done)
    | (simp only [Option.some.injEq, Prod.mk.injEq] at h
       obtain ⟨_, _, _, rfl⟩ := h
       first
         | exact fun _ => rfl
         | exact fun _ => iv_mo_put.2
         | (intro hq9
            exfalso
            simp only [iv_mo_psh] at hq9
            omega)
         | (intro hq9
            exfalso
            dsimp only at hq9
            omega))
theorem iv_mq_Sc : iv_mq iv_oSc := by
  intro L xs pc lv st σ pc' lv' st' σ' h
  simp only [iv_oSc, iv_go, iv_br, Bool.cond_eq_ite] at h
  repeat' split at h
  all_goals first
    | (cases h; done)
    | (simp only [Option.some.injEq, Prod.mk.injEq] at h
       obtain ⟨_, _, _, rfl⟩ := h
       first
         | exact fun _ => rfl
         | exact fun _ => iv_mo_put.2
         | (intro hq9
            exfalso
            simp only [iv_mo_psh] at hq9
            omega)
         | (intro hq9
            exfalso
            dsimp only at hq9
            omega))
theorem iv_mq_Si : iv_mq iv_oSi := by
  intro L xs pc lv st σ pc' lv' st' σ' h
  simp only [iv_oSi, iv_go, iv_br, Bool.cond_eq_ite] at h
  repeat' split at h
  all_goals first
    | (cases h; done)
    | (simp only [Option.some.injEq, Prod.mk.injEq] at h
       obtain ⟨_, _, _, rfl⟩ := h
       first
         | exact fun _ => rfl
         | exact fun _ => iv_mo_put.2
         | (intro hq9
            exfalso
            simp only [iv_mo_psh] at hq9
            omega)
         | (intro hq9
            exfalso
            dsimp only at hq9
            omega))
theorem iv_mq_MM (f : Int32 → Int32 → Int32) : iv_mq (iv_oMM f) := by
  intro L xs pc lv st σ pc' lv' st' σ' h
  simp only [iv_oMM, iv_go, iv_br, Bool.cond_eq_ite] at h
  repeat' split at h
  all_goals first
    | (cases h; done)
    | (simp only [Option.some.injEq, Prod.mk.injEq] at h
       obtain ⟨_, _, _, rfl⟩ := h
       first
         | exact fun _ => rfl
         | exact fun _ => iv_mo_put.2
         | (intro hq9
            exfalso
            simp only [iv_mo_psh] at hq9
            omega)
         | (intro hq9
            exfalso
            dsimp only at hq9
            omega))
theorem iv_mq_Ab : iv_mq iv_oAb := by
  intro L xs pc lv st σ pc' lv' st' σ' h
  simp only [iv_oAb, iv_go, iv_br, Bool.cond_eq_ite] at h
  repeat' split at h
  all_goals first
    | (cases h; done)
    | (simp only [Option.some.injEq, Prod.mk.injEq] at h
       obtain ⟨_, _, _, rfl⟩ := h
       first
         | exact fun _ => rfl
         | exact fun _ => iv_mo_put.2
         | (intro hq9
            exfalso
            simp only [iv_mo_psh] at hq9
            omega)
         | (intro hq9
            exfalso
            dsimp only at hq9
            omega))

theorem iv_op_mq {m0 own nL : Nat} {ret : Option FieldType} {i : Instr} {f : iv_F} (hop : iv_op m0 own nL ret i = .inl f) : iv_mq f := by
  have fin : ∀ {g : iv_F}, iv_mq g → (Sum.inl g : iv_O) = .inl f → iv_mq f := fun h e => by rw [← Sum.inl.inj e]; exact h
  have fst : ∀ {k : Nat} {g : iv_F}, iv_mq g → iv_st k nL g = .inl f → iv_mq f := fun {k g} h e => by
    unfold iv_st at e
    cases hb : Nat.blt k nL <;> rw [hb] at e
    · exact fin iv_mq_N e
    · exact fin h e
  cases i with
  | iconst n => exact fin (iv_mq_K _ _) hop
  | bipush n => exact fin (iv_mq_K _ _) hop
  | sipush n => exact fin (iv_mq_K _ _) hop
  | lconst n => exact fin (iv_mq_K _ _) hop
  | ldc kk =>
    have hop : iv_oki own kk 2 = .inl f := hop
    unfold iv_oki at hop
    split at hop
    · exact fin (iv_mq_K _ _) hop
    · exact fin (iv_mq_K _ _) hop
    · exact fin iv_mq_N hop
  | ldc_w kk =>
    have hop : iv_oki own kk 3 = .inl f := hop
    unfold iv_oki at hop
    split at hop
    · exact fin (iv_mq_K _ _) hop
    · exact fin (iv_mq_K _ _) hop
    · exact fin iv_mq_N hop
  | ldc2_w kk =>
    have hop : iv_okj own kk = .inl f := hop
    unfold iv_okj at hop
    split at hop
    · exact fin (iv_mq_K _ _) hop
    · exact fin iv_mq_N hop
  | iload kk => exact fin (iv_mq_I _ _) hop
  | iload_n kk => exact fin (iv_mq_I _ _) hop
  | istore kk => exact fst (iv_mq_IS _ _) hop
  | istore_n kk => exact fst (iv_mq_IS _ _) hop
  | lload kk => exact fin (iv_mq_J _ _) hop
  | lload_n kk => exact fin (iv_mq_J _ _) hop
  | lstore kk => exact fst (iv_mq_JS _ _) hop
  | lstore_n kk => exact fst (iv_mq_JS _ _) hop
  | aload kk => exact fin (iv_mq_A _ _) hop
  | aload_n kk => exact fin (iv_mq_A _ _) hop
  | astore kk => exact fst (iv_mq_AS _ _) hop
  | astore_n kk => exact fst (iv_mq_AS _ _) hop
  | iinc kk z => exact fst (iv_mq_Inc _ _) hop
  | iadd => exact fin (iv_mq_II _) hop
  | isub => exact fin (iv_mq_II _) hop
  | imul => exact fin (iv_mq_II _) hop
  | iand => exact fin (iv_mq_II _) hop
  | ior => exact fin (iv_mq_II _) hop
  | ishl => exact fin (iv_mq_II _) hop
  | ishr => exact fin (iv_mq_II _) hop
  | iushr => exact fin (iv_mq_II _) hop
  | idiv => exact fin (iv_mq_DI _) hop
  | irem => exact fin (iv_mq_DI _) hop
  | ladd => exact fin (iv_mq_JJ _) hop
  | lsub => exact fin (iv_mq_JJ _) hop
  | lmul => exact fin (iv_mq_JJ _) hop
  | land => exact fin (iv_mq_JJ _) hop
  | lor => exact fin (iv_mq_JJ _) hop
  | lxor => exact fin (iv_mq_JJ _) hop
  | lshl => exact fin (iv_mq_JI _) hop
  | lushr => exact fin (iv_mq_JI _) hop
  | ldiv => exact fin (iv_mq_DJ _) hop
  | lrem => exact fin (iv_mq_DJ _) hop
  | lcmp => exact fin iv_mq_Cmp hop
  | i2l => exact fin (iv_mq_UI _) hop
  | i2c => exact fin (iv_mq_UI _) hop
  | ineg => exact fin (iv_mq_UI _) hop
  | l2i => exact fin iv_mq_L2I hop
  | dup => exact fin iv_mq_Dup hop
  | pop => exact fin iv_mq_Pop hop
  | dup2 => exact fin iv_mq_Dup2 hop
  | goto off => exact fin (iv_mq_Go _) hop
  | ifCond cd off => exact fin (iv_mq_If _ _) hop
  | if_icmp cd off => exact fin (iv_mq_Ic _ _) hop
  | if_acmp cd off => cases cd with
    | ne => exact fin (iv_mq_Ac _) hop
    | eq => exact fin iv_mq_N hop
  | tableswitch d lo hi offs => exact fin (iv_mq_Ts _ _ _ _) hop
  | lookupswitch d ps => exact fin (iv_mq_Ls _ _) hop
  | getfield kk =>
    have hop : iv_ofd own kk = .inl f := hop
    unfold iv_ofd at hop
    split at hop
    · exact fin (iv_mq_GF _ _) hop
    · exact fin iv_mq_Wt hop
    · exact fin iv_mq_N hop
  | putfield kk =>
    have hop : iv_opf m0 own kk = .inl f := hop
    unfold iv_opf at hop
    split at hop
    · rw [Bool.cond_eq_ite] at hop
      split at hop
      · exact fin (iv_mq_PF _ _ _) hop
      · exact fin iv_mq_N hop
    · exact fin iv_mq_N hop
  | iaload => exact fin iv_mq_Il hop
  | laload => exact fin iv_mq_Jl hop
  | baload => exact fin iv_mq_Zl hop
  | aaload => exact fin iv_mq_Ql hop
  | arraylength => exact fin iv_mq_Len hop
  | iastore => exact fin iv_mq_Ist hop
  | lastore => exact fin iv_mq_Jst hop
  | bastore => exact fin iv_mq_Zst hop
  | aastore => exact fin iv_mq_Qst hop
  | new kk =>
    have hop : iv_onw own kk = .inl f := hop
    unfold iv_onw at hop
    split at hop
    · exact fin (iv_mq_New _) hop
    · exact fin iv_mq_N hop
  | newarray t => cases t with
    | int => exact fin (iv_mq_Na _ _) hop
    | long => exact fin (iv_mq_Na _ _) hop
    | boolean => exact fin (iv_mq_Na _ _) hop
    | _ => exact fin iv_mq_N hop
  | anewarray kk =>
    have hop : iv_onq own kk = .inl f := hop
    unfold iv_onq at hop
    split at hop
    · rw [Bool.cond_eq_ite] at hop
      split at hop
      · exact fin (iv_mq_Nq _) hop
      · exact fin iv_mq_N hop
    · rw [Bool.cond_eq_ite] at hop
      split at hop
      · exact fin iv_mq_N hop
      · exact fin (iv_mq_Nq _) hop
    · exact fin iv_mq_N hop
  | multianewarray kk z =>
    have hop2 : (bif Nat.beq z 2 then iv_onm own kk else .inl iv_oN) = .inl f := hop
    rw [Bool.cond_eq_ite] at hop2
    split at hop2
    · unfold iv_onm at hop2
      split at hop2
      · exact fin iv_mq_Nm hop2
      · exact fin iv_mq_N hop2
    · exact fin iv_mq_N hop2
  | getstatic kk =>
    have hop : iv_ogs own kk = .inl f := hop
    unfold iv_ogs at hop
    split at hop
    · exact fin (iv_mq_S _) hop
    · exact fin (iv_mq_S _) hop
    · exact fin (iv_mq_S _) hop
    · exact fin iv_mq_N hop
  | invokestatic kk =>
    have hop : iv_oss own kk = .inl f := hop
    unfold iv_oss at hop
    split at hop
    · exact fin iv_mq_Cp hop
    · exact fin (iv_mq_MM _) hop
    · exact fin (iv_mq_MM _) hop
    · exact fin iv_mq_Ab hop
    · cases hop
    · exact fin iv_mq_N hop
  | invokespecial kk =>
    have hop : iv_osp own kk = .inl f := hop
    unfold iv_osp at hop
    split at hop
    · exact fin iv_mq_Ob hop
    · cases hop
    · cases hop
    · exact fin iv_mq_N hop
  | invokevirtual kk =>
    have hop : iv_ovi own kk = .inl f := hop
    unfold iv_ovi at hop
    split at hop
    · exact fin iv_mq_Ord hop
    · exact fin iv_mq_Sl hop
    · exact fin iv_mq_Sc hop
    · exact fin iv_mq_Si hop
    · cases hop
    · exact fin iv_mq_N hop
  | ireturn =>
    have hop : (match ret with | some .int => (.inr (.inl 1) : iv_O) | some .boolean => .inr (.inl 2) | _ => .inl iv_oN) = .inl f := hop
    split at hop <;> first | (exact fin iv_mq_N hop) | (cases hop; done)
  | lreturn =>
    have hop : (match ret with | some .long => (.inr (.inl 3) : iv_O) | _ => .inl iv_oN) = .inl f := hop
    split at hop <;> first | (exact fin iv_mq_N hop) | (cases hop; done)
  | areturn =>
    have hop : (match ret with | some (.object _) => (.inr (.inl 4) : iv_O) | _ => .inl iv_oN) = .inl f := hop
    split at hop <;> first | (exact fin iv_mq_N hop) | (cases hop; done)
  | return_ =>
    have hop : (match ret with | none => (.inr (.inl 0) : iv_O) | _ => .inl iv_oN) = .inl f := hop
    split at hop <;> first | (exact fin iv_mq_N hop) | (cases hop; done)
  | _ => exact fin iv_mq_N hop
theorem iv_run_q (L : Nat) (xs : Nat → Int32) : ∀ (n d M pc : Nat) (lv : iv_L) (st : List Value) (σ : iv_H) (r : Option Value) (σ' : iv_H), M ≤ iv_n → iv_run L xs n d M pc lv st σ = some (r, σ') → σ.1 ≤ σ'.1 ∧ (σ'.1 = σ.1 → σ'.2.2 = σ.2.2) := by
  intro n
  induction n with
  | zero => intro d M pc lv st σ r σ' hM h; cases h
  | succ n ih =>
    intro d M pc lv st σ r σ' hM h
    rw [iv_run_s] at h
    unfold iv_step at h
    split at h
    · rename_i o ho
      obtain ⟨i, len, hd, hln, hop, hlx⟩ := iv_fetch (iv_cok_any hM) (iv_lw_any hM) ho
      unfold iv_do at h
      split at h
      · rename_i f
        unfold iv_go1 at h
        split at h
        · rename_i pc' lv' st' σ1 hf
          rw [iv_fp_eq] at h
          obtain ⟨a1, a2⟩ := ih _ _ _ _ _ _ _ _ hM h
          have m1 := iv_op_mo hop L xs pc lv st σ _ _ _ _ hf
          have q1 := iv_op_mq hop L xs pc lv st σ _ _ _ _ hf
          exact ⟨Nat.le_trans m1.1 a1, fun e => (a2 (by omega)).trans (q1 (by omega))⟩
        · cases h
      · have e := iv_rt_eq h
        subst e
        exact ⟨Nat.le_refl _, fun _ => rfl⟩
      · rename_i kind mm nn ci
        have hmm : mm < iv_n := by
          obtain ⟨kx, z9, h9, hcall⟩ := iv_call_of hop
          rcases hcall with ⟨-, -, q⟩ | ⟨-, -, q⟩ | ⟨-, -, q⟩ | ⟨-, -, q⟩
          all_goals
            have hk := iv_lk_ok (iv_own_any hM) q
            simp only [iv_lok, Bool.and_eq_true] at hk
            exact iv_blt hk.1
        unfold iv_cl at h
        split at h
        · rename_i as rest d' hq
          simp only [Bool.cond_eq_ite] at h
          split at h
          · split at h
            · rename_i r1 σ1 hrun
              rw [iv_fp_eq] at h
              obtain ⟨a1, a2⟩ := ih _ _ _ _ _ _ _ _ (Nat.le_of_lt hmm) hrun
              obtain ⟨b1, b2⟩ := ih _ _ _ _ _ _ _ _ hM h
              exact ⟨Nat.le_trans a1 b1, fun e => (b2 (by omega)).trans (a2 (by omega))⟩
            · cases h
          · cases h
        · cases h
    · cases h
theorem iv_part_q (L : Nat) (xs : Nat → Int32) (stop F : Nat) : ∀ (n d M pc : Nat) (lv : iv_L) (st : List Value) (σ : iv_H) (lv' : iv_L) (st' : List Value) (σ' : iv_H), M ≤ iv_n → iv_part L xs stop F n d M pc lv st σ = some (lv', st', σ') → σ.1 ≤ σ'.1 ∧ (σ'.1 = σ.1 → σ'.2.2 = σ.2.2) := by
  intro n
  induction n with
  | zero => intro d M pc lv st σ lv' st' σ' hM h; cases h
  | succ n ih =>
    intro d M pc lv st σ lv' st' σ' hM h
    rw [iv_part_s] at h
    cases hb : Nat.beq pc stop
    · rw [hb] at h
      simp only [cond_false] at h
      split at h
      · rename_i f ho
        obtain ⟨i, len, hd, hln, hop, hlx⟩ := iv_fetch (iv_cok_any hM) (iv_lw_any hM) ho
        split at h
        · rename_i pc' lv1 st1 σ1 hf
          rw [iv_fp_eq] at h
          obtain ⟨a1, a2⟩ := ih _ _ _ _ _ _ _ _ _ hM h
          have m1 := iv_op_mo hop L xs pc lv st σ _ _ _ _ hf
          have q1 := iv_op_mq hop L xs pc lv st σ _ _ _ _ hf
          exact ⟨Nat.le_trans m1.1 a1, fun e => (a2 (by omega)).trans (q1 (by omega))⟩
        · cases h
      · rename_i kind mm nn ci ho
        obtain ⟨i, len, hd, hln, hop, hlx⟩ := iv_fetch (iv_cok_any hM) (iv_lw_any hM) ho
        have hmm : mm < iv_n := by
          obtain ⟨kx, z9, h9, hcall⟩ := iv_call_of hop
          rcases hcall with ⟨-, -, q⟩ | ⟨-, -, q⟩ | ⟨-, -, q⟩ | ⟨-, -, q⟩
          all_goals
            have hk := iv_lk_ok (iv_own_any hM) q
            simp only [iv_lok, Bool.and_eq_true] at hk
            exact iv_blt hk.1
        split at h
        · rename_i as rest d' hq
          simp only [Bool.cond_eq_ite] at h
          split at h
          · split at h
            · rename_i r1 σ1 hrun
              rw [iv_fp_eq] at h
              obtain ⟨a1, a2⟩ := iv_run_q L xs _ _ _ _ _ _ _ _ _ (Nat.le_of_lt hmm) hrun
              obtain ⟨b1, b2⟩ := ih _ _ _ _ _ _ _ _ _ hM h
              exact ⟨Nat.le_trans a1 b1, fun e => (b2 (by omega)).trans (a2 (by omega))⟩
            · cases h
          · cases h
        · cases h
      · cases h
    · rw [hb] at h
      cases h
      exact ⟨Nat.le_refl _, fun _ => rfl⟩
