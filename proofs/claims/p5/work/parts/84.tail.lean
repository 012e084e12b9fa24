/-! ===== from a cut point on ===== -/
/-- the cut points alone are checked -/
noncomputable def zchkT (τ : Nat → Nat) (ty : Nat → Option zt) (sf : zsf2) (oc : zorc) (T : List zct) (inl : List Nat) (n : Nat) (c : zct) : Bool := c.2.2.2.2.2.all (fun X => X.1.all (fun q => Nat.beq q.1.1 2 || (Nat.beq q.1.1 3 || Nat.beq q.1.1 5))) && c.2.2.2.2.1.all (zpt τ ty sf oc T inl c n)
theorem zchkT_ok {τ : Nat → Nat} {ty : Nat → Option zt} {J : iv_H → Prop} {sf : zsf2} {oc : zorc} {T : List zct} {inl : List Nat} {c : zct} {n : Nat} (hT : zT τ) (hJs : ∀ (ms : zm) (σ σ' : iv_H), ms.all sf = true → zFr τ ms σ σ' → J σ → J σ') (hO : zOK τ ty J oc) (hC : ∀ k ∈ T, zCT τ ty J k) (h : zchkT τ ty sf oc T inl n c = true) {t : zcut} (ht : t ∈ c.2.2.2.2.1) (hg : t.2.2.2 = []) (L : Nat) (xs : Nat → Int32) (d : Nat) (clv : iv_L) (σ : iv_H) (ρ : Nat → Int) (hd : c.2.1 ≤ d) (hI : zI τ ty σ) (hJ : J σ) (hP : zP_ok τ (fun _ => 0) clv none σ t.2.1 ρ) : zGo L xs (zPost τ ty J c (fun _ => 0) σ) [] d c.1 t.1 clv [] σ := by
  unfold zchkT at h
  rw [Bool.and_eq_true] at h
  have h2 := List.all_eq_true.mp h.2
  exact zpts (γ := fun _ => 0) (σ0 := σ) (L := L) (xs := xs) (D := d) hT hJs hO hC h.1 h2 hd ((t.2.2.1.1 + zl_ev ρ t.2.2.1.2).toNat + 1) t ρ clv σ (h2 t ht) hP (fun q hq => by rw [hg] at hq; cases hq) (by omega) hI hJ zFr_rf
