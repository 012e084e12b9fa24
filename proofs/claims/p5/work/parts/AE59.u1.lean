/-! ===== what a run leaves of one field, told from its code alone (printed by wip/gen/y/gen_sf.py) ===== -/
def sfK (a ci j : Nat) (σ σ' : iv_H) : Prop := ∀ fs, iv_get σ a = some (.inr (ci, fs)) → ∃ fs', iv_get σ' a = some (.inr (ci, fs')) ∧ iv_nth fs' j = iv_nth fs j
theorem sfK_rf {a ci j : Nat} {σ : iv_H} : sfK a ci j σ σ := fun fs h => ⟨fs, h, rfl⟩
theorem sfK_tr {a ci j : Nat} {σ σ1 σ2 : iv_H} (h : sfK a ci j σ σ1) (k : sfK a ci j σ1 σ2) : sfK a ci j σ σ2 := fun fs g => by
  obtain ⟨f1, g1, e1⟩ := h fs g
  obtain ⟨f2, g2, e2⟩ := k f1 g1
  exact ⟨f2, g2, e2.trans e1⟩
theorem sfK_arr {a ci j b : Nat} {σ : iv_H} {x y : Nat × vp_A} (h : iv_get σ b = some (.inl x)) : sfK a ci j σ (iv_put σ b (.inl y)) := fun fs g => by
  by_cases e : a = b
  · rw [e, h] at g
    cases g
  · exact ⟨fs, iv_gp_n h g e, rfl⟩
theorem sfK_obj {a ci j b c2 j2 : Nat} {σ : iv_H} {fs0 : List Value} {v : Value} (h : iv_get σ b = some (.inr (c2, fs0))) (hn : (Nat.beq c2 ci && Nat.beq j2 j) = false) : sfK a ci j σ (iv_put σ b (.inr (c2, fs0.set j2 v))) := fun fs g => by
  by_cases e : a = b
  · rw [e, h] at g
    cases g
    rw [Nat.beq_refl, Bool.true_and] at hn
    refine ⟨_, by rw [e]; exact iv_gp_s h, ?_⟩
    rw [iv_nth_set, if_neg]
    rintro ⟨e2, _⟩
    rw [← e2, Nat.beq_refl] at hn
    cases hn
  · exact ⟨fs, iv_gp_n h g e, rfl⟩
def sfo (a ci j lo pc : Nat) (f : iv_F) : Prop := ∀ (L : Nat) (xs : Nat → Int32) (lv : iv_L) (st : List Value) (σ : iv_H) (pc' : Nat) (lv' : iv_L) (st' : List Value) (σ' : iv_H), f L xs pc lv st σ = some (pc', lv', st', σ') → sfK a ci j σ σ' ∧ (lo ≤ pc → lo ≤ pc')
def sfT (lo pc : Nat) (off : Int) : Bool := match iv_tgt pc off with
  | some t => Nat.ble lo t
  | none => true
theorem sfT_ok {lo pc : Nat} {off : Int} (h : sfT lo pc off = true) {t : Nat} (ht : iv_tgt pc off = some t) : lo ≤ t := by
  unfold sfT at h
  rw [ht] at h
  exact Nat.le_of_ble_eq_true h
section SFO
variable {aa cc jj ll pc : Nat}
theorem sf_N : sfo aa cc jj ll pc iv_oN := by
  intro L xs lv st σ pc' lv' st' σ' h
  simp only [iv_oN, iv_go, iv_br, Bool.cond_eq_ite] at h
  repeat' split at h
  all_goals first
    | (cases h; done)
    | (simp only [Option.some.injEq, Prod.mk.injEq] at h
       obtain ⟨rfl, _, _, rfl⟩ := h
       exact ⟨by first | exact sfK_rf | (apply sfK_arr; assumption), fun hl => by omega⟩)
theorem sf_K (v : Value) (len : Nat) : sfo aa cc jj ll pc (iv_oK v len) := by
  intro L xs lv st σ pc' lv' st' σ' h
  simp only [iv_oK, iv_go, iv_br, Bool.cond_eq_ite] at h
  repeat' split at h
  all_goals first
    | (cases h; done)
    | (simp only [Option.some.injEq, Prod.mk.injEq] at h
       obtain ⟨rfl, _, _, rfl⟩ := h
       exact ⟨by first | exact sfK_rf | (apply sfK_arr; assumption), fun hl => by omega⟩)
theorem sf_I (k len : Nat) : sfo aa cc jj ll pc (iv_oI k len) := by
  intro L xs lv st σ pc' lv' st' σ' h
  simp only [iv_oI, iv_go, iv_br, Bool.cond_eq_ite] at h
  repeat' split at h
  all_goals first
    | (cases h; done)
    | (simp only [Option.some.injEq, Prod.mk.injEq] at h
       obtain ⟨rfl, _, _, rfl⟩ := h
       exact ⟨by first | exact sfK_rf | (apply sfK_arr; assumption), fun hl => by omega⟩)
theorem sf_J (k len : Nat) : sfo aa cc jj ll pc (iv_oJ k len) := by
  intro L xs lv st σ pc' lv' st' σ' h
  simp only [iv_oJ, iv_go, iv_br, Bool.cond_eq_ite] at h
  repeat' split at h
  all_goals first
    | (cases h; done)
    | (simp only [Option.some.injEq, Prod.mk.injEq] at h
       obtain ⟨rfl, _, _, rfl⟩ := h
       exact ⟨by first | exact sfK_rf | (apply sfK_arr; assumption), fun hl => by omega⟩)
theorem sf_A (k len : Nat) : sfo aa cc jj ll pc (iv_oA k len) := by
  intro L xs lv st σ pc' lv' st' σ' h
  simp only [iv_oA, iv_go, iv_br, Bool.cond_eq_ite] at h
  repeat' split at h
  all_goals first
    | (cases h; done)
    | (simp only [Option.some.injEq, Prod.mk.injEq] at h
       obtain ⟨rfl, _, _, rfl⟩ := h
       exact ⟨by first | exact sfK_rf | (apply sfK_arr; assumption), fun hl => by omega⟩)
theorem sf_IS (k len : Nat) : sfo aa cc jj ll pc (iv_oIS k len) := by
  intro L xs lv st σ pc' lv' st' σ' h
  simp only [iv_oIS, iv_go, iv_br, Bool.cond_eq_ite] at h
  repeat' split at h
  all_goals first
    | (cases h; done)
    | (simp only [Option.some.injEq, Prod.mk.injEq] at h
       obtain ⟨rfl, _, _, rfl⟩ := h
       exact ⟨by first | exact sfK_rf | (apply sfK_arr; assumption), fun hl => by omega⟩)
theorem sf_JS (k len : Nat) : sfo aa cc jj ll pc (iv_oJS k len) := by
  intro L xs lv st σ pc' lv' st' σ' h
  simp only [iv_oJS, iv_go, iv_br, Bool.cond_eq_ite] at h
  repeat' split at h
  all_goals first
    | (cases h; done)
    | (simp only [Option.some.injEq, Prod.mk.injEq] at h
       obtain ⟨rfl, _, _, rfl⟩ := h
       exact ⟨by first | exact sfK_rf | (apply sfK_arr; assumption), fun hl => by omega⟩)
theorem sf_AS (k len : Nat) : sfo aa cc jj ll pc (iv_oAS k len) := by
  intro L xs lv st σ pc' lv' st' σ' h
  simp only [iv_oAS, iv_go, iv_br, Bool.cond_eq_ite] at h
  repeat' split at h
  all_goals first
    | (cases h; done)
    | (simp only [Option.some.injEq, Prod.mk.injEq] at h
       obtain ⟨rfl, _, _, rfl⟩ := h
       exact ⟨by first | exact sfK_rf | (apply sfK_arr; assumption), fun hl => by omega⟩)
theorem sf_Inc (k : Nat) (n : Int) : sfo aa cc jj ll pc (iv_oInc k n) := by
  intro L xs lv st σ pc' lv' st' σ' h
  simp only [iv_oInc, iv_go, iv_br, Bool.cond_eq_ite] at h
  repeat' split at h
  all_goals first
    | (cases h; done)
    | (simp only [Option.some.injEq, Prod.mk.injEq] at h
       obtain ⟨rfl, _, _, rfl⟩ := h
       exact ⟨by first | exact sfK_rf | (apply sfK_arr; assumption), fun hl => by omega⟩)
theorem sf_II (f : Int32 → Int32 → Int32) : sfo aa cc jj ll pc (iv_oII f) := by
  intro L xs lv st σ pc' lv' st' σ' h
  simp only [iv_oII, iv_go, iv_br, Bool.cond_eq_ite] at h
  repeat' split at h
  all_goals first
    | (cases h; done)
    | (simp only [Option.some.injEq, Prod.mk.injEq] at h
       obtain ⟨rfl, _, _, rfl⟩ := h
       exact ⟨by first | exact sfK_rf | (apply sfK_arr; assumption), fun hl => by omega⟩)
theorem sf_JJ (f : Int64 → Int64 → Int64) : sfo aa cc jj ll pc (iv_oJJ f) := by
  intro L xs lv st σ pc' lv' st' σ' h
  simp only [iv_oJJ, iv_go, iv_br, Bool.cond_eq_ite] at h
  repeat' split at h
  all_goals first
    | (cases h; done)
    | (simp only [Option.some.injEq, Prod.mk.injEq] at h
       obtain ⟨rfl, _, _, rfl⟩ := h
       exact ⟨by first | exact sfK_rf | (apply sfK_arr; assumption), fun hl => by omega⟩)
theorem sf_JI (f : Int64 → Int32 → Int64) : sfo aa cc jj ll pc (iv_oJI f) := by
  intro L xs lv st σ pc' lv' st' σ' h
  simp only [iv_oJI, iv_go, iv_br, Bool.cond_eq_ite] at h
  repeat' split at h
  all_goals first
    | (cases h; done)
    | (simp only [Option.some.injEq, Prod.mk.injEq] at h
       obtain ⟨rfl, _, _, rfl⟩ := h
       exact ⟨by first | exact sfK_rf | (apply sfK_arr; assumption), fun hl => by omega⟩)
theorem sf_DI (f : Int32 → Int32 → Int32) : sfo aa cc jj ll pc (iv_oDI f) := by
  intro L xs lv st σ pc' lv' st' σ' h
  simp only [iv_oDI, iv_go, iv_br, Bool.cond_eq_ite] at h
  repeat' split at h
  all_goals first
    | (cases h; done)
    | (simp only [Option.some.injEq, Prod.mk.injEq] at h
       obtain ⟨rfl, _, _, rfl⟩ := h
       exact ⟨by first | exact sfK_rf | (apply sfK_arr; assumption), fun hl => by omega⟩)
theorem sf_DJ (f : Int64 → Int64 → Int64) : sfo aa cc jj ll pc (iv_oDJ f) := by
  intro L xs lv st σ pc' lv' st' σ' h
  simp only [iv_oDJ, iv_go, iv_br, Bool.cond_eq_ite] at h
  repeat' split at h
  all_goals first
    | (cases h; done)
    | (simp only [Option.some.injEq, Prod.mk.injEq] at h
       obtain ⟨rfl, _, _, rfl⟩ := h
       exact ⟨by first | exact sfK_rf | (apply sfK_arr; assumption), fun hl => by omega⟩)
theorem sf_Cmp : sfo aa cc jj ll pc iv_oCmp := by
  intro L xs lv st σ pc' lv' st' σ' h
  simp only [iv_oCmp, iv_go, iv_br, Bool.cond_eq_ite] at h
  repeat' split at h
  all_goals first
    | (cases h; done)
    | (simp only [Option.some.injEq, Prod.mk.injEq] at h
       obtain ⟨rfl, _, _, rfl⟩ := h
       exact ⟨by first | exact sfK_rf | (apply sfK_arr; assumption), fun hl => by omega⟩)
theorem sf_UI (f : Int32 → Value) : sfo aa cc jj ll pc (iv_oUI f) := by
  intro L xs lv st σ pc' lv' st' σ' h
  simp only [iv_oUI, iv_go, iv_br, Bool.cond_eq_ite] at h
  repeat' split at h
  all_goals first
    | (cases h; done)
    | (simp only [Option.some.injEq, Prod.mk.injEq] at h
       obtain ⟨rfl, _, _, rfl⟩ := h
       exact ⟨by first | exact sfK_rf | (apply sfK_arr; assumption), fun hl => by omega⟩)
theorem sf_L2I : sfo aa cc jj ll pc iv_oL2I := by
  intro L xs lv st σ pc' lv' st' σ' h
  simp only [iv_oL2I, iv_go, iv_br, Bool.cond_eq_ite] at h
  repeat' split at h
  all_goals first
    | (cases h; done)
    | (simp only [Option.some.injEq, Prod.mk.injEq] at h
       obtain ⟨rfl, _, _, rfl⟩ := h
       exact ⟨by first | exact sfK_rf | (apply sfK_arr; assumption), fun hl => by omega⟩)
theorem sf_Dup : sfo aa cc jj ll pc iv_oDup := by
  intro L xs lv st σ pc' lv' st' σ' h
  simp only [iv_oDup, iv_go, iv_br, Bool.cond_eq_ite] at h
  repeat' split at h
  all_goals first
    | (cases h; done)
    | (simp only [Option.some.injEq, Prod.mk.injEq] at h
       obtain ⟨rfl, _, _, rfl⟩ := h
       exact ⟨by first | exact sfK_rf | (apply sfK_arr; assumption), fun hl => by omega⟩)
theorem sf_Pop : sfo aa cc jj ll pc iv_oPop := by
  intro L xs lv st σ pc' lv' st' σ' h
  simp only [iv_oPop, iv_go, iv_br, Bool.cond_eq_ite] at h
  repeat' split at h
  all_goals first
    | (cases h; done)
    | (simp only [Option.some.injEq, Prod.mk.injEq] at h
       obtain ⟨rfl, _, _, rfl⟩ := h
       exact ⟨by first | exact sfK_rf | (apply sfK_arr; assumption), fun hl => by omega⟩)
theorem sf_Dup2 : sfo aa cc jj ll pc iv_oDup2 := by
  intro L xs lv st σ pc' lv' st' σ' h
  simp only [iv_oDup2, iv_go, iv_br, Bool.cond_eq_ite] at h
  repeat' split at h
  all_goals first
    | (cases h; done)
    | (simp only [Option.some.injEq, Prod.mk.injEq] at h
       obtain ⟨rfl, _, _, rfl⟩ := h
       exact ⟨by first | exact sfK_rf | (apply sfK_arr; assumption), fun hl => by omega⟩)
theorem sf_Go (off : Int) (ht : sfT ll pc off = true) : sfo aa cc jj ll pc (iv_oGo off) := by
  intro L xs lv st σ pc' lv' st' σ' h
  simp only [iv_oGo, iv_go, iv_br, Bool.cond_eq_ite] at h
  repeat' split at h
  all_goals first
    | (cases h; done)
    | (simp only [Option.some.injEq, Prod.mk.injEq] at h
       obtain ⟨rfl, _, _, rfl⟩ := h
       exact ⟨sfK_rf, fun hl => by first | (apply sfT_ok ht; assumption) | omega⟩)
theorem sf_If (c : ClassFile.Cond) (off : Int) (ht : sfT ll pc off = true) : sfo aa cc jj ll pc (iv_oIf c off) := by
  intro L xs lv st σ pc' lv' st' σ' h
  simp only [iv_oIf, iv_go, iv_br, Bool.cond_eq_ite] at h
  repeat' split at h
  all_goals first
    | (cases h; done)
    | (simp only [Option.some.injEq, Prod.mk.injEq] at h
       obtain ⟨rfl, _, _, rfl⟩ := h
       exact ⟨sfK_rf, fun hl => by first | (apply sfT_ok ht; assumption) | omega⟩)
theorem sf_Ic (c : ClassFile.Cond) (off : Int) (ht : sfT ll pc off = true) : sfo aa cc jj ll pc (iv_oIc c off) := by
  intro L xs lv st σ pc' lv' st' σ' h
  simp only [iv_oIc, iv_go, iv_br, Bool.cond_eq_ite] at h
  repeat' split at h
  all_goals first
    | (cases h; done)
    | (simp only [Option.some.injEq, Prod.mk.injEq] at h
       obtain ⟨rfl, _, _, rfl⟩ := h
       exact ⟨sfK_rf, fun hl => by first | (apply sfT_ok ht; assumption) | omega⟩)
theorem sf_Ts (dflt lo hi : Int) (offs : Array Int) (ht : Nat.beq ll 0 = true) : sfo aa cc jj ll pc (iv_oTs dflt lo hi offs) := by
  intro L xs lv st σ pc' lv' st' σ' h
  simp only [iv_oTs, iv_go, iv_br, Bool.cond_eq_ite] at h
  have h0 : ll = 0 := Nat.eq_of_beq_eq_true ht
  repeat' split at h
  all_goals first
    | (cases h; done)
    | (simp only [Option.some.injEq, Prod.mk.injEq] at h
       obtain ⟨rfl, _, _, rfl⟩ := h
       exact ⟨by first | exact sfK_rf | (apply sfK_arr; assumption), fun hl => by omega⟩)
theorem sf_Ls (dflt : Int) (ps : Array (Int × Int)) (ht : Nat.beq ll 0 = true) : sfo aa cc jj ll pc (iv_oLs dflt ps) := by
  intro L xs lv st σ pc' lv' st' σ' h
  simp only [iv_oLs, iv_go, iv_br, Bool.cond_eq_ite] at h
  have h0 : ll = 0 := Nat.eq_of_beq_eq_true ht
  repeat' split at h
  all_goals first
    | (cases h; done)
    | (simp only [Option.some.injEq, Prod.mk.injEq] at h
       obtain ⟨rfl, _, _, rfl⟩ := h
       exact ⟨by first | exact sfK_rf | (apply sfK_arr; assumption), fun hl => by omega⟩)
theorem sf_Ac (off : Int) (ht : sfT ll pc off = true) : sfo aa cc jj ll pc (iv_oAc off) := by
  intro L xs lv st σ pc' lv' st' σ' h
  simp only [iv_oAc, iv_go, iv_br, Bool.cond_eq_ite] at h
  repeat' split at h
  all_goals first
    | (cases h; done)
    | (simp only [Option.some.injEq, Prod.mk.injEq] at h
       obtain ⟨rfl, _, _, rfl⟩ := h
       exact ⟨sfK_rf, fun hl => by first | (apply sfT_ok ht; assumption) | omega⟩)
theorem sf_GF (ci j : Nat) : sfo aa cc jj ll pc (iv_oGF ci j) := by
  intro L xs lv st σ pc' lv' st' σ' h
  simp only [iv_oGF, iv_go, iv_br, Bool.cond_eq_ite] at h
  repeat' split at h
  all_goals first
    | (cases h; done)
    | (simp only [Option.some.injEq, Prod.mk.injEq] at h
       obtain ⟨rfl, _, _, rfl⟩ := h
       exact ⟨by first | exact sfK_rf | (apply sfK_arr; assumption), fun hl => by omega⟩)
theorem sf_Il : sfo aa cc jj ll pc iv_oIl := by
  intro L xs lv st σ pc' lv' st' σ' h
  simp only [iv_oIl, iv_go, iv_br, Bool.cond_eq_ite] at h
  repeat' split at h
  all_goals first
    | (cases h; done)
    | (simp only [Option.some.injEq, Prod.mk.injEq] at h
       obtain ⟨rfl, _, _, rfl⟩ := h
       exact ⟨by first | exact sfK_rf | (apply sfK_arr; assumption), fun hl => by omega⟩)
theorem sf_Jl : sfo aa cc jj ll pc iv_oJl := by
  intro L xs lv st σ pc' lv' st' σ' h
  simp only [iv_oJl, iv_go, iv_br, Bool.cond_eq_ite] at h
  repeat' split at h
  all_goals first
    | (cases h; done)
    | (simp only [Option.some.injEq, Prod.mk.injEq] at h
       obtain ⟨rfl, _, _, rfl⟩ := h
       exact ⟨by first | exact sfK_rf | (apply sfK_arr; assumption), fun hl => by omega⟩)
theorem sf_Zl : sfo aa cc jj ll pc iv_oZl := by
  intro L xs lv st σ pc' lv' st' σ' h
  simp only [iv_oZl, iv_go, iv_br, Bool.cond_eq_ite] at h
  repeat' split at h
  all_goals first
    | (cases h; done)
    | (simp only [Option.some.injEq, Prod.mk.injEq] at h
       obtain ⟨rfl, _, _, rfl⟩ := h
       exact ⟨by first | exact sfK_rf | (apply sfK_arr; assumption), fun hl => by omega⟩)
theorem sf_Ql : sfo aa cc jj ll pc iv_oQl := by
  intro L xs lv st σ pc' lv' st' σ' h
  simp only [iv_oQl, iv_go, iv_br, Bool.cond_eq_ite] at h
  repeat' split at h
  all_goals first
    | (cases h; done)
    | (simp only [Option.some.injEq, Prod.mk.injEq] at h
       obtain ⟨rfl, _, _, rfl⟩ := h
       exact ⟨by first | exact sfK_rf | (apply sfK_arr; assumption), fun hl => by omega⟩)
theorem sf_Len : sfo aa cc jj ll pc iv_oLen := by
  intro L xs lv st σ pc' lv' st' σ' h
  simp only [iv_oLen, iv_go, iv_br, Bool.cond_eq_ite] at h
  repeat' split at h
  all_goals first
    | (cases h; done)
    | (simp only [Option.some.injEq, Prod.mk.injEq] at h
       obtain ⟨rfl, _, _, rfl⟩ := h
       exact ⟨by first | exact sfK_rf | (apply sfK_arr; assumption), fun hl => by omega⟩)
theorem sf_Ist : sfo aa cc jj ll pc iv_oIst := by
  intro L xs lv st σ pc' lv' st' σ' h
  simp only [iv_oIst, iv_go, iv_br, Bool.cond_eq_ite] at h
  repeat' split at h
  all_goals first
    | (cases h; done)
    | (simp only [Option.some.injEq, Prod.mk.injEq] at h
       obtain ⟨rfl, _, _, rfl⟩ := h
       exact ⟨by first | exact sfK_rf | (apply sfK_arr; assumption), fun hl => by omega⟩)
theorem sf_Jst : sfo aa cc jj ll pc iv_oJst := by
  intro L xs lv st σ pc' lv' st' σ' h
  simp only [iv_oJst, iv_go, iv_br, Bool.cond_eq_ite] at h
  repeat' split at h
  all_goals first
    | (cases h; done)
    | (simp only [Option.some.injEq, Prod.mk.injEq] at h
       obtain ⟨rfl, _, _, rfl⟩ := h
       exact ⟨by first | exact sfK_rf | (apply sfK_arr; assumption), fun hl => by omega⟩)
theorem sf_Zst : sfo aa cc jj ll pc iv_oZst := by
  intro L xs lv st σ pc' lv' st' σ' h
  simp only [iv_oZst, iv_go, iv_br, Bool.cond_eq_ite] at h
  repeat' split at h
  all_goals first
    | (cases h; done)
    | (simp only [Option.some.injEq, Prod.mk.injEq] at h
       obtain ⟨rfl, _, _, rfl⟩ := h
       exact ⟨by first | exact sfK_rf | (apply sfK_arr; assumption), fun hl => by omega⟩)
theorem sf_Qst : sfo aa cc jj ll pc iv_oQst := by
  intro L xs lv st σ pc' lv' st' σ' h
  simp only [iv_oQst, iv_go, iv_br, Bool.cond_eq_ite] at h
  repeat' split at h
  all_goals first
    | (cases h; done)
    | (simp only [Option.some.injEq, Prod.mk.injEq] at h
       obtain ⟨rfl, _, _, rfl⟩ := h
       exact ⟨by first | exact sfK_rf | (apply sfK_arr; assumption), fun hl => by omega⟩)
theorem sf_S (a : Nat) : sfo aa cc jj ll pc (iv_oS a) := by
  intro L xs lv st σ pc' lv' st' σ' h
  simp only [iv_oS, iv_go, iv_br, Bool.cond_eq_ite] at h
  repeat' split at h
  all_goals first
    | (cases h; done)
    | (simp only [Option.some.injEq, Prod.mk.injEq] at h
       obtain ⟨rfl, _, _, rfl⟩ := h
       exact ⟨by first | exact sfK_rf | (apply sfK_arr; assumption), fun hl => by omega⟩)
theorem sf_Cp : sfo aa cc jj ll pc iv_oCp := by
  intro L xs lv st σ pc' lv' st' σ' h
  simp only [iv_oCp, iv_go, iv_br, Bool.cond_eq_ite] at h
  repeat' split at h
  all_goals first
    | (cases h; done)
    | (simp only [Option.some.injEq, Prod.mk.injEq] at h
       obtain ⟨rfl, _, _, rfl⟩ := h
       exact ⟨by first | exact sfK_rf | (apply sfK_arr; assumption), fun hl => by omega⟩)
theorem sf_Ob : sfo aa cc jj ll pc iv_oOb := by
  intro L xs lv st σ pc' lv' st' σ' h
  simp only [iv_oOb, iv_go, iv_br, Bool.cond_eq_ite] at h
  repeat' split at h
  all_goals first
    | (cases h; done)
    | (simp only [Option.some.injEq, Prod.mk.injEq] at h
       obtain ⟨rfl, _, _, rfl⟩ := h
       exact ⟨by first | exact sfK_rf | (apply sfK_arr; assumption), fun hl => by omega⟩)
theorem sf_Ord : sfo aa cc jj ll pc iv_oOrd := by
  intro L xs lv st σ pc' lv' st' σ' h
  simp only [iv_oOrd, iv_go, iv_br, Bool.cond_eq_ite] at h
  repeat' split at h
  all_goals first
    | (cases h; done)
    | (simp only [Option.some.injEq, Prod.mk.injEq] at h
       obtain ⟨rfl, _, _, rfl⟩ := h
       exact ⟨by first | exact sfK_rf | (apply sfK_arr; assumption), fun hl => by omega⟩)
theorem sf_Wt : sfo aa cc jj ll pc iv_oWt := by
  intro L xs lv st σ pc' lv' st' σ' h
  simp only [iv_oWt, iv_go, iv_br, Bool.cond_eq_ite] at h
  repeat' split at h
  all_goals first
    | (cases h; done)
    | (simp only [Option.some.injEq, Prod.mk.injEq] at h
       obtain ⟨rfl, _, _, rfl⟩ := h
       exact ⟨by first | exact sfK_rf | (apply sfK_arr; assumption), fun hl => by omega⟩)
theorem sf_Sl : sfo aa cc jj ll pc iv_oSl := by
  intro L xs lv st σ pc' lv' st' σ' h
  simp only [iv_oSl, iv_go, iv_br, Bool.cond_eq_ite] at h
  repeat' split at h
  all_goals first
    | (cases h; done)
    | (simp only [Option.some.injEq, Prod.mk.injEq] at h
       obtain ⟨rfl, _, _, rfl⟩ := h
       exact ⟨by first | exact sfK_rf | (apply sfK_arr; assumption), fun hl => by omega⟩)
theorem sf_Sc : sfo aa cc jj ll pc iv_oSc := by
  intro L xs lv st σ pc' lv' st' σ' h
  simp only [iv_oSc, iv_go, iv_br, Bool.cond_eq_ite] at h
  repeat' split at h
  all_goals first
    | (cases h; done)
    | (simp only [Option.some.injEq, Prod.mk.injEq] at h
       obtain ⟨rfl, _, _, rfl⟩ := h
       exact ⟨by first | exact sfK_rf | (apply sfK_arr; assumption), fun hl => by omega⟩)
theorem sf_Si : sfo aa cc jj ll pc iv_oSi := by
  intro L xs lv st σ pc' lv' st' σ' h
  simp only [iv_oSi, iv_go, iv_br, Bool.cond_eq_ite] at h
  repeat' split at h
  all_goals first
    | (cases h; done)
    | (simp only [Option.some.injEq, Prod.mk.injEq] at h
       obtain ⟨rfl, _, _, rfl⟩ := h
       exact ⟨by first | exact sfK_rf | (apply sfK_arr; assumption), fun hl => by omega⟩)
theorem sf_MM (f : Int32 → Int32 → Int32) : sfo aa cc jj ll pc (iv_oMM f) := by
  intro L xs lv st σ pc' lv' st' σ' h
  simp only [iv_oMM, iv_go, iv_br, Bool.cond_eq_ite] at h
  repeat' split at h
  all_goals first
    | (cases h; done)
    | (simp only [Option.some.injEq, Prod.mk.injEq] at h
       obtain ⟨rfl, _, _, rfl⟩ := h
       exact ⟨by first | exact sfK_rf | (apply sfK_arr; assumption), fun hl => by omega⟩)
theorem sf_Ab : sfo aa cc jj ll pc iv_oAb := by
  intro L xs lv st σ pc' lv' st' σ' h
  simp only [iv_oAb, iv_go, iv_br, Bool.cond_eq_ite] at h
  repeat' split at h
  all_goals first
    | (cases h; done)
    | (simp only [Option.some.injEq, Prod.mk.injEq] at h
       obtain ⟨rfl, _, _, rfl⟩ := h
       exact ⟨by first | exact sfK_rf | (apply sfK_arr; assumption), fun hl => by omega⟩)
theorem sf_PF (c2 j2 : Nat) (ty : FieldType) (hn : (Nat.beq c2 cc && Nat.beq j2 jj) = false) : sfo aa cc jj ll pc (iv_oPF c2 j2 ty) := by
  intro L xs lv st σ pc' lv' st' σ' h
  simp only [iv_oPF, Bool.cond_eq_ite] at h
  repeat' split at h
  all_goals first
    | (cases h; done)
    | skip
  rename_i x c3 fs hg hc
  simp only [Option.some.injEq, Prod.mk.injEq] at h
  obtain ⟨rfl, _, _, rfl⟩ := h
  rw [Bool.and_eq_true] at hc
  have e := Nat.eq_of_beq_eq_true hc.1
  subst e
  exact ⟨sfK_obj hg hn, fun hl => by omega⟩
def sfI (ci j lo pc own : Nat) (i : Instr) : Bool := match i with
  | .goto off => sfT lo pc off
  | .ifCond _ off => sfT lo pc off
  | .if_icmp _ off => sfT lo pc off
  | .if_acmp _ off => sfT lo pc off
  | .tableswitch _ _ _ _ => Nat.beq lo 0
  | .lookupswitch _ _ => Nat.beq lo 0
  | .putfield k => (match iv_f1 (iv_ls own) k with
    | some (0, c2, j2, _, _) => !(Nat.beq c2 ci && Nat.beq j2 j)
    | _ => true)
  | .new _ => false
  | .newarray _ => false
  | .anewarray _ => false
  | .multianewarray _ _ => false
  | _ => true
theorem iv_op_sf {m0 own nL : Nat} {ret : Option FieldType} {i : Instr} {f : iv_F} (hi : sfI cc jj ll pc own i = true) (hop : iv_op m0 own nL ret i = .inl f) : sfo aa cc jj ll pc f := by
  have fin : ∀ {g : iv_F}, sfo aa cc jj ll pc g → (Sum.inl g : iv_O) = .inl f → sfo aa cc jj ll pc f := fun h e => by rw [← Sum.inl.inj e]; exact h
  have fst : ∀ {k : Nat} {g : iv_F}, sfo aa cc jj ll pc g → iv_st k nL g = .inl f → sfo aa cc jj ll pc f := fun {k g} h e => by
    unfold iv_st at e
    cases hb : Nat.blt k nL <;> rw [hb] at e
    · exact fin sf_N e
    · exact fin h e
  cases i with
  | iconst n => exact fin (sf_K _ _) hop
  | bipush n => exact fin (sf_K _ _) hop
  | sipush n => exact fin (sf_K _ _) hop
  | lconst n => exact fin (sf_K _ _) hop
  | ldc kk =>
    have hop : iv_oki own kk 2 = .inl f := hop
    unfold iv_oki at hop
    split at hop
    · exact fin (sf_K _ _) hop
    · exact fin (sf_K _ _) hop
    · exact fin sf_N hop
  | ldc_w kk =>
    have hop : iv_oki own kk 3 = .inl f := hop
    unfold iv_oki at hop
    split at hop
    · exact fin (sf_K _ _) hop
    · exact fin (sf_K _ _) hop
    · exact fin sf_N hop
  | ldc2_w kk =>
    have hop : iv_okj own kk = .inl f := hop
    unfold iv_okj at hop
    split at hop
    · exact fin (sf_K _ _) hop
    · exact fin sf_N hop
  | iload kk => exact fin (sf_I _ _) hop
  | iload_n kk => exact fin (sf_I _ _) hop
  | istore kk => exact fst (sf_IS _ _) hop
  | istore_n kk => exact fst (sf_IS _ _) hop
  | lload kk => exact fin (sf_J _ _) hop
  | lload_n kk => exact fin (sf_J _ _) hop
  | lstore kk => exact fst (sf_JS _ _) hop
  | lstore_n kk => exact fst (sf_JS _ _) hop
  | aload kk => exact fin (sf_A _ _) hop
  | aload_n kk => exact fin (sf_A _ _) hop
  | astore kk => exact fst (sf_AS _ _) hop
  | astore_n kk => exact fst (sf_AS _ _) hop
  | iinc kk z => exact fst (sf_Inc _ _) hop
  | iadd => exact fin (sf_II _) hop
  | isub => exact fin (sf_II _) hop
  | imul => exact fin (sf_II _) hop
  | iand => exact fin (sf_II _) hop
  | ior => exact fin (sf_II _) hop
  | ishl => exact fin (sf_II _) hop
  | ishr => exact fin (sf_II _) hop
  | iushr => exact fin (sf_II _) hop
  | idiv => exact fin (sf_DI _) hop
  | irem => exact fin (sf_DI _) hop
  | ladd => exact fin (sf_JJ _) hop
  | lsub => exact fin (sf_JJ _) hop
  | lmul => exact fin (sf_JJ _) hop
  | land => exact fin (sf_JJ _) hop
  | lor => exact fin (sf_JJ _) hop
  | lxor => exact fin (sf_JJ _) hop
  | lshl => exact fin (sf_JI _) hop
  | lushr => exact fin (sf_JI _) hop
  | ldiv => exact fin (sf_DJ _) hop
  | lrem => exact fin (sf_DJ _) hop
  | lcmp => exact fin sf_Cmp hop
  | i2l => exact fin (sf_UI _) hop
  | i2c => exact fin (sf_UI _) hop
  | ineg => exact fin (sf_UI _) hop
  | l2i => exact fin sf_L2I hop
  | dup => exact fin sf_Dup hop
  | pop => exact fin sf_Pop hop
  | dup2 => exact fin sf_Dup2 hop
  | goto off => exact fin (sf_Go _ hi) hop
  | ifCond cd off => exact fin (sf_If _ _ hi) hop
  | if_icmp cd off => exact fin (sf_Ic _ _ hi) hop
  | if_acmp cd off => cases cd with
    | ne => exact fin (sf_Ac _ hi) hop
    | eq => exact fin sf_N hop
  | tableswitch d lo hi offs => exact fin (sf_Ts _ _ _ _ hi) hop
  | lookupswitch d ps => exact fin (sf_Ls _ _ hi) hop
  | getfield kk =>
    have hop : iv_ofd own kk = .inl f := hop
    unfold iv_ofd at hop
    split at hop
    · exact fin (sf_GF _ _) hop
    · exact fin sf_Wt hop
    · exact fin sf_N hop
  | putfield kk =>
    have hop : iv_opf m0 own kk = .inl f := hop
    have hi2 : (match iv_f1 (iv_ls own) kk with
      | some (0, c2, j2, _, _) => !(Nat.beq c2 cc && Nat.beq j2 jj)
      | _ => true) = true := hi
    unfold iv_opf at hop
    split at hop
    · rename_i c2 j2 x1 x2 hq
      rw [hq] at hi2
      have hi3 : (Nat.beq c2 cc && Nat.beq j2 jj) = false := by
        have h9 : (!(Nat.beq c2 cc && Nat.beq j2 jj)) = true := hi2
        rw [Bool.not_eq_true'] at h9
        exact h9
      rw [Bool.cond_eq_ite] at hop
      split at hop
      · exact fin (sf_PF _ _ _ hi3) hop
      · exact fin sf_N hop
    · exact fin sf_N hop
  | iaload => exact fin sf_Il hop
  | laload => exact fin sf_Jl hop
  | baload => exact fin sf_Zl hop
  | aaload => exact fin sf_Ql hop
  | arraylength => exact fin sf_Len hop
  | iastore => exact fin sf_Ist hop
  | lastore => exact fin sf_Jst hop
  | bastore => exact fin sf_Zst hop
  | aastore => exact fin sf_Qst hop
  | new kk => cases hi
  | newarray t => cases hi
  | anewarray kk => cases hi
  | multianewarray kk z => cases hi
  | getstatic kk =>
    have hop : iv_ogs own kk = .inl f := hop
    unfold iv_ogs at hop
    split at hop
    · exact fin (sf_S _) hop
    · exact fin (sf_S _) hop
    · exact fin (sf_S _) hop
    · exact fin sf_N hop
  | invokestatic kk =>
    have hop : iv_oss own kk = .inl f := hop
    unfold iv_oss at hop
    split at hop
    · exact fin sf_Cp hop
    · exact fin (sf_MM _) hop
    · exact fin (sf_MM _) hop
    · exact fin sf_Ab hop
    · cases hop
    · exact fin sf_N hop
  | invokespecial kk =>
    have hop : iv_osp own kk = .inl f := hop
    unfold iv_osp at hop
    split at hop
    · exact fin sf_Ob hop
    · cases hop
    · cases hop
    · exact fin sf_N hop
  | invokevirtual kk =>
    have hop : iv_ovi own kk = .inl f := hop
    unfold iv_ovi at hop
    split at hop
    · exact fin sf_Ord hop
    · exact fin sf_Sl hop
    · exact fin sf_Sc hop
    · exact fin sf_Si hop
    · cases hop
    · exact fin sf_N hop
  | ireturn =>
    have hop : (match ret with | some .int => (.inr (.inl 1) : iv_O) | some .boolean => .inr (.inl 2) | _ => .inl iv_oN) = .inl f := hop
    split at hop <;> first | (exact fin sf_N hop) | (cases hop; done)
  | lreturn =>
    have hop : (match ret with | some .long => (.inr (.inl 3) : iv_O) | _ => .inl iv_oN) = .inl f := hop
    split at hop <;> first | (exact fin sf_N hop) | (cases hop; done)
  | areturn =>
    have hop : (match ret with | some (.object _) => (.inr (.inl 4) : iv_O) | _ => .inl iv_oN) = .inl f := hop
    split at hop <;> first | (exact fin sf_N hop) | (cases hop; done)
  | return_ =>
    have hop : (match ret with | none => (.inr (.inl 0) : iv_O) | _ => .inl iv_oN) = .inl f := hop
    split at hop <;> first | (exact fin sf_N hop) | (cases hop; done)
  | _ => exact fin sf_N hop
end SFO
/-- the methods (m, lo): from lo on they leave the field, call only such and leave only by their end -/
def sfM (S : List (Nat × Nat)) (ci j : Nat) (q : Nat × Nat) : Bool := (iv_m q.1).2.2.2.2.all fun p => bif Nat.ble q.2 p.1 then sfI ci j q.2 p.1 (iv_m q.1).2.1 p.2.1 && (match iv_op q.1 (iv_m q.1).2.1 (iv_m q.1).2.2.1 (iv_m q.1).2.2.2.1 p.2.1 with
  | .inr (.inr (_, m2, _, _)) => S.any fun s => Nat.beq s.1 m2 && Nat.beq s.2 0
  | _ => true) else true
theorem iv_f1_mem {α : Type} : ∀ {l : List (Nat × α)} {k : Nat} {x : α}, iv_f1 l k = some x → ∃ q ∈ l, q.1 = k ∧ q.2 = x
  | [], k, x, h => by cases h
  | q :: l, k, x, h => by
    have h2 : (bif Nat.beq q.1 k then some q.2 else iv_f1 l k) = some x := by
      first
        | exact h
        | (obtain ⟨q1, q2⟩ := q; unfold iv_f1 at h; exact h)
    cases hb : Nat.beq q.1 k
    · rw [hb] at h2
      obtain ⟨y, h3, h4⟩ := iv_f1_mem (l := l) h2
      exact ⟨y, List.mem_cons_of_mem _ h3, h4⟩
    · rw [hb] at h2
      exact ⟨q, List.mem_cons_self, Nat.eq_of_beq_eq_true hb, Option.some.inj h2⟩
theorem sf_rt {k : Nat} {st : List Value} {σ σ' : iv_H} {r : Option Value} (h : iv_rt k st σ = some (r, σ')) : σ' = σ := by
  unfold iv_rt at h
  repeat' split at h
  all_goals first
    | (cases h; done)
    | (cases h; rfl)
    | (rw [Bool.cond_eq_ite] at h; split at h <;> first | (cases h; done) | (cases h; rfl))
theorem sf_run {S : List (Nat × Nat)} {a ci j : Nat} (hS : (S.all fun q => sfM S ci j q) = true) (L : Nat) (xs : Nat → Int32) : ∀ (n : Nat) (d M pc : Nat) (lv : iv_L) (st : List Value) (σ : iv_H) (r : Option Value) (σ' : iv_H) (lo : Nat), (M, lo) ∈ S → lo ≤ pc → iv_run L xs n d M pc lv st σ = some (r, σ') → sfK a ci j σ σ' := by
  intro n
  induction n with
  | zero => intro d M pc lv st σ r σ' lo _ _ h; cases h
  | succ n ih =>
    intro d M pc lv st σ r σ' lo hM hlo h
    have hq := List.all_eq_true.mp hS _ hM
    unfold sfM at hq
    rw [iv_run_s] at h
    unfold iv_step at h
    split at h
    · rename_i op hop
      obtain ⟨e, hmem, hpc, hop2⟩ : ∃ e ∈ (iv_m M).2.2.2.2, e.1 = pc ∧ iv_op M (iv_m M).2.1 (iv_m M).2.2.1 (iv_m M).2.2.2.1 e.2.1 = op := by
        obtain ⟨x, hx, e1, e2⟩ := iv_f1_mem hop
        unfold iv_p at hx
        rw [List.mem_map] at hx
        obtain ⟨y, hy, rfl⟩ := hx
        exact ⟨y, hy, e1, e2⟩
      have hq2 := List.all_eq_true.mp hq e hmem
      rw [hpc] at hq2
      have hb : Nat.ble lo pc = true := Nat.ble_eq_true_of_le hlo
      rw [hb] at hq2
      have hq3 : (sfI ci j lo pc (iv_m M).2.1 e.2.1 && (match iv_op M (iv_m M).2.1 (iv_m M).2.2.1 (iv_m M).2.2.2.1 e.2.1 with
        | .inr (.inr (_, m2, _, _)) => S.any fun s => Nat.beq s.1 m2 && Nat.beq s.2 0
        | _ => true)) = true := hq2
      rw [Bool.and_eq_true] at hq3
      obtain ⟨hi, hc⟩ := hq3
      unfold iv_do at h
      split at h
      · rename_i f
        unfold iv_go1 at h
        split at h
        · rename_i pc' lv' st' σ1 hf
          rw [iv_fp_eq] at h
          obtain ⟨k1, k2⟩ := iv_op_sf (aa := a) hi hop2 _ _ _ _ _ _ _ _ _ hf
          exact sfK_tr k1 (ih _ _ _ _ _ _ _ _ lo hM (k2 hlo) h)
        · cases h
      · rw [sf_rt h]
        exact sfK_rf
      · rename_i kk m2 nn c2
        rw [hop2] at hc
        have hc2 : (S.any fun s => Nat.beq s.1 m2 && Nat.beq s.2 0) = true := hc
        obtain ⟨s, hs, hs2⟩ := List.any_eq_true.mp hc2
        rw [Bool.and_eq_true] at hs2
        have hm2 : (m2, 0) ∈ S := by
          rw [← Nat.eq_of_beq_eq_true hs2.1, ← Nat.eq_of_beq_eq_true hs2.2]
          exact hs
        unfold iv_cl at h
        split at h
        · rename_i as rest d' hq
          simp only [Bool.cond_eq_ite] at h
          split at h
          · split at h
            · rename_i r1 σ1 hrun
              rw [iv_fp_eq] at h
              exact sfK_tr (ih _ _ _ _ _ _ _ _ 0 hm2 (Nat.le_refl 0) hrun) (ih _ _ _ _ _ _ _ _ lo hM (by omega) h)
            · cases h
          · cases h
        · cases h
    · cases h
def sfm_S : List (Nat × Nat) := [(266, 65), (162, 0), (163, 0), (195, 0), (196, 0), (197, 0), (198, 0), (199, 0), (200, 0), (207, 0), (208, 0), (209, 0), (210, 0), (211, 0), (212, 0), (220, 0), (221, 0), (255, 0), (256, 0), (265, 0), (267, 0)]
theorem sfm_ok : (sfm_S.all fun q => sfM sfm_S 12 10 q) = true := by decide +kernel
theorem sfm_run {L : Nat} {xs : Nat → Int32} {d : Nat} {lv : iv_L} {st : List Value} {σ σ' : iv_H} {r : Option Value} (h : iv_Rn L xs d 266 65 lv st σ r σ') : sfK 548 12 10 σ σ' := by
  obtain ⟨n, hn⟩ := h
  exact sf_run sfm_ok L xs n d 266 65 lv st σ r σ' 65 (by decide) (Nat.le_refl _) hn
def sfc_S : List (Nat × Nat) := [(148, 47), (13, 0), (44, 0), (75, 0), (76, 0), (77, 0), (78, 0), (79, 0), (86, 0), (87, 0), (88, 0), (89, 0), (90, 0), (91, 0), (92, 0), (93, 0), (94, 0), (95, 0), (96, 0)]
theorem sfc_ok : (sfc_S.all fun q => sfM sfc_S 11 2 q) = true := by decide +kernel
theorem sfc_run {L : Nat} {xs : Nat → Int32} {d : Nat} {lv : iv_L} {st : List Value} {σ σ' : iv_H} {r : Option Value} (h : iv_Rn L xs d 148 47 lv st σ r σ') : sfK 0 11 2 σ σ' := by
  obtain ⟨n, hn⟩ := h
  exact sf_run sfc_ok L xs n d 148 47 lv st σ r σ' 47 (by decide) (Nat.le_refl _) hn
def sfd_S : List (Nat × Nat) := [(1, 0), (2, 0), (3, 0), (4, 0), (5, 0), (6, 0), (7, 0), (8, 0), (9, 0), (10, 0), (11, 0), (12, 0), (28, 0), (29, 0), (30, 0), (31, 0), (52, 0), (53, 0), (54, 0), (55, 0), (56, 0), (57, 0), (58, 0)]
theorem sfd_ok : (sfd_S.all fun q => sfM sfd_S 11 10 q) = true := by decide +kernel
theorem sfd_run {L : Nat} {xs : Nat → Int32} {d : Nat} {lv : iv_L} {st : List Value} {σ σ' : iv_H} {r : Option Value} (h : iv_Rn L xs d 1 0 lv st σ r σ') : sfK 0 11 10 σ σ' := by
  obtain ⟨n, hn⟩ := h
  exact sf_run sfd_ok L xs n d 1 0 lv st σ r σ' 0 (by decide) (Nat.le_refl _) hn
