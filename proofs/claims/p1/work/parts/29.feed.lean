/-! ===== feed ===== -/
theorem fq_113_0 : iv_f1 (iv_p 113) 0 = some (.inl (iv_oA 0 1)) := rfl
theorem fq_113_1 : iv_f1 (iv_p 113) 1 = some (.inl (iv_oGF 11 1)) := rfl
theorem fq_113_4 : iv_f1 (iv_p 113) 4 = some (.inl (iv_oK (.int 20) 2)) := rfl
theorem fq_113_6 : iv_f1 (iv_p 113) 6 = some (.inl (iv_oII fun x y => x + y)) := rfl
theorem fq_113_7 : iv_f1 (iv_p 113) 7 = some (.inl (iv_oK (.int 940) 3)) := rfl
theorem fq_113_10 : iv_f1 (iv_p 113) 10 = some (.inl (iv_oIc .le 5)) := rfl
theorem fq_113_13 : iv_f1 (iv_p 113) 13 = some (.inl (iv_oK (.int (-1)) 1)) := rfl
theorem fq_113_14 : iv_f1 (iv_p 113) 14 = some (.inr (.inl 1)) := rfl
theorem fq_113_15 : iv_f1 (iv_p 113) 15 = some (.inl (iv_oA 0 1)) := rfl
theorem fq_113_16 : iv_f1 (iv_p 113) 16 = some (.inl (iv_oI 1 1)) := rfl
theorem fq_113_17 : iv_f1 (iv_p 113) 17 = some (.inr (.inr (6, 114, 1, 11))) := rfl
theorem fq_113_20 : iv_f1 (iv_p 113) 20 = some (.inl (iv_oA 0 1)) := rfl
theorem fq_113_21 : iv_f1 (iv_p 113) 21 = some (.inl (iv_oI 2 1)) := rfl
theorem fq_113_22 : iv_f1 (iv_p 113) 22 = some (.inr (.inr (6, 114, 1, 11))) := rfl
theorem fq_113_25 : iv_f1 (iv_p 113) 25 = some (.inl (iv_oA 0 1)) := rfl
theorem fq_113_26 : iv_f1 (iv_p 113) 26 = some (.inl (iv_oI 3 1)) := rfl
theorem fq_113_27 : iv_f1 (iv_p 113) 27 = some (.inr (.inr (6, 114, 1, 11))) := rfl
theorem fq_113_30 : iv_f1 (iv_p 113) 30 = some (.inl (iv_oA 0 1)) := rfl
theorem fq_113_31 : iv_f1 (iv_p 113) 31 = some (.inl (iv_oI 4 2)) := rfl
theorem fq_113_33 : iv_f1 (iv_p 113) 33 = some (.inr (.inr (6, 114, 1, 11))) := rfl
theorem fq_113_36 : iv_f1 (iv_p 113) 36 = some (.inl (iv_oA 0 1)) := rfl
theorem fq_113_37 : iv_f1 (iv_p 113) 37 = some (.inl (iv_oI 5 2)) := rfl
theorem fq_113_39 : iv_f1 (iv_p 113) 39 = some (.inr (.inr (6, 114, 1, 11))) := rfl
theorem fq_113_42 : iv_f1 (iv_p 113) 42 = some (.inl (iv_oA 0 1)) := rfl
theorem fq_113_43 : iv_f1 (iv_p 113) 43 = some (.inl (iv_oGF 11 1)) := rfl
theorem fq_113_46 : iv_f1 (iv_p 113) 46 = some (.inr (.inl 1)) := rfl
theorem fq_114_0 : iv_f1 (iv_p 114) 0 = some (.inl (iv_oK (.int 24) 2)) := rfl
theorem fq_114_2 : iv_f1 (iv_p 114) 2 = some (.inl (iv_oIS 2 1)) := rfl
theorem fq_114_3 : iv_f1 (iv_p 114) 3 = some (.inl (iv_oI 2 1)) := rfl
theorem fq_114_4 : iv_f1 (iv_p 114) 4 = some (.inl (iv_oIf .lt 47)) := rfl
theorem fq_114_7 : iv_f1 (iv_p 114) 7 = some (.inl (iv_oA 0 1)) := rfl
theorem fq_114_8 : iv_f1 (iv_p 114) 8 = some (.inl (iv_oGF 11 1)) := rfl
theorem fq_114_11 : iv_f1 (iv_p 114) 11 = some (.inl (iv_oA 0 1)) := rfl
theorem fq_114_12 : iv_f1 (iv_p 114) 12 = some (.inl (iv_oGF 11 0)) := rfl
theorem fq_114_15 : iv_f1 (iv_p 114) 15 = some (.inl iv_oLen) := rfl
theorem fq_114_16 : iv_f1 (iv_p 114) 16 = some (.inl (iv_oIc .ge 29)) := rfl
theorem fq_114_19 : iv_f1 (iv_p 114) 19 = some (.inl (iv_oA 0 1)) := rfl
theorem fq_114_20 : iv_f1 (iv_p 114) 20 = some (.inl (iv_oGF 11 0)) := rfl
theorem fq_114_23 : iv_f1 (iv_p 114) 23 = some (.inl (iv_oA 0 1)) := rfl
theorem fq_114_24 : iv_f1 (iv_p 114) 24 = some (.inl (iv_oGF 11 1)) := rfl
theorem fq_114_27 : iv_f1 (iv_p 114) 27 = some (.inl (iv_oI 1 1)) := rfl
theorem fq_114_28 : iv_f1 (iv_p 114) 28 = some (.inl (iv_oI 2 1)) := rfl
theorem fq_114_29 : iv_f1 (iv_p 114) 29 = some (.inl (iv_oII fun x y => (x.toUInt32 >>> (y.toUInt32 &&& Int32.toUInt32 31)).toInt32)) := rfl
theorem fq_114_30 : iv_f1 (iv_p 114) 30 = some (.inl (iv_oK (.int 255) 3)) := rfl
theorem fq_114_33 : iv_f1 (iv_p 114) 33 = some (.inl (iv_oII fun x y => x &&& y)) := rfl
theorem fq_114_34 : iv_f1 (iv_p 114) 34 = some (.inl iv_oIst) := rfl
theorem fq_114_35 : iv_f1 (iv_p 114) 35 = some (.inl (iv_oA 0 1)) := rfl
theorem fq_114_36 : iv_f1 (iv_p 114) 36 = some (.inl iv_oDup) := rfl
theorem fq_114_37 : iv_f1 (iv_p 114) 37 = some (.inl (iv_oGF 11 1)) := rfl
theorem fq_114_40 : iv_f1 (iv_p 114) 40 = some (.inl (iv_oK (.int 1) 1)) := rfl
theorem fq_114_41 : iv_f1 (iv_p 114) 41 = some (.inl (iv_oII fun x y => x + y)) := rfl
theorem fq_114_42 : iv_f1 (iv_p 114) 42 = some (.inl (iv_oPF 11 1 (iv_fty 11 1))) := rfl
theorem fq_114_45 : iv_f1 (iv_p 114) 45 = some (.inl (iv_oInc 2 (-8))) := rfl
theorem fq_114_48 : iv_f1 (iv_p 114) 48 = some (.inl (iv_oGo (-45))) := rfl
theorem fq_114_51 : iv_f1 (iv_p 114) 51 = some (.inr (.inl 0)) := rfl
theorem fq_157_0 : iv_f1 (iv_p 157) 0 = some (.inl (iv_oK (.int 24) 2)) := rfl
theorem fq_157_2 : iv_f1 (iv_p 157) 2 = some (.inl (iv_oIS 2 1)) := rfl
theorem fq_157_3 : iv_f1 (iv_p 157) 3 = some (.inl (iv_oI 2 1)) := rfl
theorem fq_157_4 : iv_f1 (iv_p 157) 4 = some (.inl (iv_oIf .lt 35)) := rfl
theorem fq_157_7 : iv_f1 (iv_p 157) 7 = some (.inl (iv_oA 0 1)) := rfl
theorem fq_157_8 : iv_f1 (iv_p 157) 8 = some (.inl (iv_oGF 12 1)) := rfl
theorem fq_157_11 : iv_f1 (iv_p 157) 11 = some (.inl (iv_oA 0 1)) := rfl
theorem fq_157_12 : iv_f1 (iv_p 157) 12 = some (.inl (iv_oGF 12 2)) := rfl
theorem fq_157_15 : iv_f1 (iv_p 157) 15 = some (.inl (iv_oI 1 1)) := rfl
theorem fq_157_16 : iv_f1 (iv_p 157) 16 = some (.inl (iv_oI 2 1)) := rfl
theorem fq_157_17 : iv_f1 (iv_p 157) 17 = some (.inl (iv_oII fun x y => (x.toUInt32 >>> (y.toUInt32 &&& Int32.toUInt32 31)).toInt32)) := rfl
theorem fq_157_18 : iv_f1 (iv_p 157) 18 = some (.inl (iv_oK (.int 255) 3)) := rfl
theorem fq_157_21 : iv_f1 (iv_p 157) 21 = some (.inl (iv_oII fun x y => x &&& y)) := rfl
theorem fq_157_22 : iv_f1 (iv_p 157) 22 = some (.inl iv_oIst) := rfl
theorem fq_157_23 : iv_f1 (iv_p 157) 23 = some (.inl (iv_oA 0 1)) := rfl
theorem fq_157_24 : iv_f1 (iv_p 157) 24 = some (.inl iv_oDup) := rfl
theorem fq_157_25 : iv_f1 (iv_p 157) 25 = some (.inl (iv_oGF 12 2)) := rfl
theorem fq_157_28 : iv_f1 (iv_p 157) 28 = some (.inl (iv_oK (.int 1) 1)) := rfl
theorem fq_157_29 : iv_f1 (iv_p 157) 29 = some (.inl (iv_oII fun x y => x + y)) := rfl
theorem fq_157_30 : iv_f1 (iv_p 157) 30 = some (.inl (iv_oPF 12 2 (iv_fty 12 2))) := rfl
theorem fq_157_33 : iv_f1 (iv_p 157) 33 = some (.inl (iv_oInc 2 (-8))) := rfl
theorem fq_157_36 : iv_f1 (iv_p 157) 36 = some (.inl (iv_oGo (-33))) := rfl
theorem fq_157_39 : iv_f1 (iv_p 157) 39 = some (.inr (.inl 0)) := rfl
theorem fq_158_0 : iv_f1 (iv_p 158) 0 = some (.inl (iv_oA 0 1)) := rfl
theorem fq_158_1 : iv_f1 (iv_p 158) 1 = some (.inl (iv_oK (.int 0) 1)) := rfl
theorem fq_158_2 : iv_f1 (iv_p 158) 2 = some (.inl (iv_oPF 12 0 (iv_fty 12 0))) := rfl
theorem fq_158_5 : iv_f1 (iv_p 158) 5 = some (.inl (iv_oA 0 1)) := rfl
theorem fq_158_6 : iv_f1 (iv_p 158) 6 = some (.inl (iv_oGF 12 2)) := rfl
theorem fq_158_9 : iv_f1 (iv_p 158) 9 = some (.inl (iv_oK (.int 20) 2)) := rfl
theorem fq_158_11 : iv_f1 (iv_p 158) 11 = some (.inl (iv_oII fun x y => x + y)) := rfl
theorem fq_158_12 : iv_f1 (iv_p 158) 12 = some (.inl (iv_oK (.int 940) 3)) := rfl
theorem fq_158_15 : iv_f1 (iv_p 158) 15 = some (.inl (iv_oIc .le 5)) := rfl
theorem fq_158_18 : iv_f1 (iv_p 158) 18 = some (.inl (iv_oK (.int (-1)) 1)) := rfl
theorem fq_158_19 : iv_f1 (iv_p 158) 19 = some (.inr (.inl 1)) := rfl
theorem fq_158_20 : iv_f1 (iv_p 158) 20 = some (.inl (iv_oA 0 1)) := rfl
theorem fq_158_21 : iv_f1 (iv_p 158) 21 = some (.inl (iv_oI 1 1)) := rfl
theorem fq_158_22 : iv_f1 (iv_p 158) 22 = some (.inr (.inr (6, 157, 1, 12))) := rfl
theorem fq_158_25 : iv_f1 (iv_p 158) 25 = some (.inl (iv_oA 0 1)) := rfl
theorem fq_158_26 : iv_f1 (iv_p 158) 26 = some (.inl (iv_oI 2 1)) := rfl
theorem fq_158_27 : iv_f1 (iv_p 158) 27 = some (.inr (.inr (6, 157, 1, 12))) := rfl
theorem fq_158_30 : iv_f1 (iv_p 158) 30 = some (.inl (iv_oA 0 1)) := rfl
theorem fq_158_31 : iv_f1 (iv_p 158) 31 = some (.inl (iv_oI 3 1)) := rfl
theorem fq_158_32 : iv_f1 (iv_p 158) 32 = some (.inr (.inr (6, 157, 1, 12))) := rfl
theorem fq_158_35 : iv_f1 (iv_p 158) 35 = some (.inl (iv_oA 0 1)) := rfl
theorem fq_158_36 : iv_f1 (iv_p 158) 36 = some (.inl (iv_oI 4 2)) := rfl
theorem fq_158_38 : iv_f1 (iv_p 158) 38 = some (.inr (.inr (6, 157, 1, 12))) := rfl
theorem fq_158_41 : iv_f1 (iv_p 158) 41 = some (.inl (iv_oA 0 1)) := rfl
theorem fq_158_42 : iv_f1 (iv_p 158) 42 = some (.inl (iv_oI 5 2)) := rfl
theorem fq_158_44 : iv_f1 (iv_p 158) 44 = some (.inr (.inr (6, 157, 1, 12))) := rfl
theorem fq_158_47 : iv_f1 (iv_p 158) 47 = some (.inl (iv_oA 0 1)) := rfl
theorem fq_158_48 : iv_f1 (iv_p 158) 48 = some (.inl (iv_oGF 12 2)) := rfl
theorem fq_158_51 : iv_f1 (iv_p 158) 51 = some (.inr (.inl 1)) := rfl
/-- nothing but the object o and its tape t changed, and nothing was made -/
def fdR (o t : Nat) (σ σ' : iv_H) : Prop := σ'.1 = σ.1 ∧ σ'.2.2 = σ.2.2 ∧ ∀ a z, a ≠ o → a ≠ t → iv_get σ a = some z → iv_get σ' a = some z
theorem fdR_tr {o t : Nat} {a b c : iv_H} (h1 : fdR o t a b) (h2 : fdR o t b c) : fdR o t a c := ⟨h2.1.trans h1.1, h2.2.1.trans h1.2.1, fun x z n1 n2 h => h2.2.2 x z n1 n2 (h1.2.2 x z n1 n2 h)⟩
theorem fdR_rf (o t : Nat) (a : iv_H) : fdR o t a a := ⟨rfl, rfl, fun _ _ _ _ h => h⟩
theorem fdR_put {o t : Nat} {σ : iv_H} {x y x2 y2 : iv_E} (ho : iv_get σ o = some x) (ht : iv_get (iv_put σ o x2) t = some y) : True := trivial
def fdS (o t ci j : Nat) (fs : List Value) (p : Int32) (σ : iv_H) : Prop := iv_get σ o = some (.inr (ci, fs.set j (.int p))) ∧ ∃ g, iv_get σ t = some (.inl (0, 940, .inl g))
theorem fd_put {o t ci j : Nat} {fs : List Value} {p p2 : Int32} {σ : iv_H} {g g2 : Nat → Int32} (hot : o ≠ t) (h1 : iv_get σ o = some (.inr (ci, fs.set j (.int p)))) (h2 : iv_get σ t = some (.inl (0, 940, .inl g))) : fdS o t ci j fs p2 (iv_put (iv_put σ t (.inl (0, 940, .inl g2))) o (.inr (ci, fs.set j (.int p2)))) ∧ fdR o t σ (iv_put (iv_put σ t (.inl (0, 940, .inl g2))) o (.inr (ci, fs.set j (.int p2)))) := by
  have a1 : iv_get (iv_put σ t (.inl (0, 940, .inl g2))) t = some (.inl (0, 940, .inl g2)) := iv_gp_s h2
  have a2 : iv_get (iv_put σ t (.inl (0, 940, .inl g2))) o = some (.inr (ci, fs.set j (.int p))) := iv_gp_n h2 h1 hot
  refine ⟨⟨iv_gp_s a2, g2, iv_gp_n a2 a1 (Ne.symm hot)⟩, ?_, ?_, ?_⟩
  · rw [iv_mo_put.1, iv_mo_put.1]
  · rw [iv_mo_put.2, iv_mo_put.2]
  · intro a z n1 n2 h
    exact iv_gp_n a2 (iv_gp_n h2 h n2) n1
theorem fdG {L : Nat} {xs : Nat → Int32} {d : Nat} {x p k : Int32} {σ : iv_H} (h : fdS 0 2 11 1 fsG p σ) (hk : iv_c2 .lt k 0 = false) (hp : iv_c2 .ge p (Int32.ofNat 940) = false) (hi : iv_in p 940 = true) : ∃ σ2, fdS 0 2 11 1 fsG (p + 1) σ2 ∧ fdR 0 2 σ σ2 ∧ ∀ σ', iv_Rn L xs d 114 3 [(2, .int (k + Int32.ofInt (-8))), (0, .ref 0), (1, .int x)] [] σ2 none σ' → iv_Rn L xs d 114 3 [(2, .int k), (0, .ref 0), (1, .int x)] [] σ none σ' := by
  obtain ⟨h1, g, h2⟩ := h
  have a2 : ∀ g2 : Nat → Int32, iv_get (iv_put σ 2 (.inl (0, 940, .inl g2))) 0 = some (.inr (11, fsG.set 1 (.int p))) := fun g2 => iv_gp_n h2 h1 (by decide)
  have q := fd_put (p2 := p + 1) (g2 := upd g p.toNatClampNeg ((x.toUInt32 >>> (k.toUInt32 &&& Int32.toUInt32 31)).toInt32 &&& 255)) (by decide : (0 : Nat) ≠ 2) h1 h2
  refine ⟨_, q.1, q.2, fun σ' hr => ?_⟩
  refine Rs fq_114_3 rfl ?_
  refine Rs fq_114_4 (o_IfF rfl hk) ?_
  refine Rs fq_114_7 rfl ?_
  refine Rs fq_114_8 (o_GF h1 rfl) ?_
  refine Rs fq_114_11 rfl ?_
  refine Rs fq_114_12 (o_GF h1 rfl) ?_
  refine Rs fq_114_15 (o_Len rfl h2 rfl) ?_
  refine Rs fq_114_16 (o_IcF rfl hp) ?_
  refine Rs fq_114_19 rfl ?_
  refine Rs fq_114_20 (o_GF h1 rfl) ?_
  refine Rs fq_114_23 rfl ?_
  refine Rs fq_114_24 (o_GF h1 rfl) ?_
  refine Rs fq_114_27 rfl ?_
  refine Rs fq_114_28 rfl ?_
  refine Rs fq_114_29 rfl ?_
  refine Rs fq_114_30 rfl ?_
  refine Rs fq_114_33 rfl ?_
  refine Rs fq_114_34 (o_Ist h2 hi) ?_
  refine Rs fq_114_35 rfl ?_
  refine Rs fq_114_36 rfl ?_
  refine Rs fq_114_37 (o_GF (a2 _) rfl) ?_
  refine Rs fq_114_40 rfl ?_
  refine Rs fq_114_41 rfl ?_
  refine Rs fq_114_42 (o_PF (a2 _) rfl rfl) ?_
  refine Rs fq_114_45 rfl ?_
  refine Rs fq_114_48 rfl ?_
  exact hr
theorem fdM {L : Nat} {xs : Nat → Int32} {d : Nat} {x p k : Int32} {σ : iv_H} (h : fdS 548 550 12 2 fsM p σ) (hk : iv_c2 .lt k 0 = false) (hi : iv_in p 940 = true) : ∃ σ2, fdS 548 550 12 2 fsM (p + 1) σ2 ∧ fdR 548 550 σ σ2 ∧ ∀ σ', iv_Rn L xs d 157 3 [(2, .int (k + Int32.ofInt (-8))), (0, .ref 548), (1, .int x)] [] σ2 none σ' → iv_Rn L xs d 157 3 [(2, .int k), (0, .ref 548), (1, .int x)] [] σ none σ' := by
  obtain ⟨h1, g, h2⟩ := h
  have a2 : ∀ g2 : Nat → Int32, iv_get (iv_put σ 550 (.inl (0, 940, .inl g2))) 548 = some (.inr (12, fsM.set 2 (.int p))) := fun g2 => iv_gp_n h2 h1 (by decide)
  have q := fd_put (p2 := p + 1) (g2 := upd g p.toNatClampNeg ((x.toUInt32 >>> (k.toUInt32 &&& Int32.toUInt32 31)).toInt32 &&& 255)) (by decide : (548 : Nat) ≠ 550) h1 h2
  refine ⟨_, q.1, q.2, fun σ' hr => ?_⟩
  refine Rs fq_157_3 rfl ?_
  refine Rs fq_157_4 (o_IfF rfl hk) ?_
  refine Rs fq_157_7 rfl ?_
  refine Rs fq_157_8 (o_GF h1 rfl) ?_
  refine Rs fq_157_11 rfl ?_
  refine Rs fq_157_12 (o_GF h1 rfl) ?_
  refine Rs fq_157_15 rfl ?_
  refine Rs fq_157_16 rfl ?_
  refine Rs fq_157_17 rfl ?_
  refine Rs fq_157_18 rfl ?_
  refine Rs fq_157_21 rfl ?_
  refine Rs fq_157_22 (o_Ist h2 hi) ?_
  refine Rs fq_157_23 rfl ?_
  refine Rs fq_157_24 rfl ?_
  refine Rs fq_157_25 (o_GF (a2 _) rfl) ?_
  refine Rs fq_157_28 rfl ?_
  refine Rs fq_157_29 rfl ?_
  refine Rs fq_157_30 (o_PF (a2 _) rfl rfl) ?_
  refine Rs fq_157_33 rfl ?_
  refine Rs fq_157_36 rfl ?_
  exact hr
theorem fd4G {L : Nat} {xs : Nat → Int32} {d : Nat} {x p : Int32} {σ : iv_H} (h : fdS 0 2 11 1 fsG p σ) (hp : ∀ e : Int32, e = p ∨ e = p + 1 ∨ e = p + 1 + 1 ∨ e = p + 1 + 1 + 1 → iv_c2 .ge e (Int32.ofNat 940) = false) (hi : ∀ e : Int32, e = p ∨ e = p + 1 ∨ e = p + 1 + 1 ∨ e = p + 1 + 1 + 1 → iv_in e 940 = true) : ∃ σ2, fdS 0 2 11 1 fsG (p + 1 + 1 + 1 + 1) σ2 ∧ fdR 0 2 σ σ2 ∧ iv_Rn L xs d 114 0 [(0, .ref 0), (1, .int x)] [] σ none σ2 := by
  obtain ⟨s1, b1, r1, k1⟩ := fdG (L := L) (xs := xs) (d := d) (x := x) (k := 24) h (by decide) (hp _ (Or.inl rfl)) (hi _ (Or.inl rfl))
  obtain ⟨s2, b2, r2, k2⟩ := fdG (L := L) (xs := xs) (d := d) (x := x) (k := 24 + Int32.ofInt (-8)) b1 (by decide) (hp _ (Or.inr (Or.inl rfl))) (hi _ (Or.inr (Or.inl rfl)))
  obtain ⟨s3, b3, r3, k3⟩ := fdG (L := L) (xs := xs) (d := d) (x := x) (k := 24 + Int32.ofInt (-8) + Int32.ofInt (-8)) b2 (by decide) (hp _ (Or.inr (Or.inr (Or.inl rfl)))) (hi _ (Or.inr (Or.inr (Or.inl rfl))))
  obtain ⟨s4, b4, r4, k4⟩ := fdG (L := L) (xs := xs) (d := d) (x := x) (k := 24 + Int32.ofInt (-8) + Int32.ofInt (-8) + Int32.ofInt (-8)) b3 (by decide) (hp _ (Or.inr (Or.inr (Or.inr rfl)))) (hi _ (Or.inr (Or.inr (Or.inr rfl))))
  refine ⟨s4, b4, fdR_tr r1 (fdR_tr r2 (fdR_tr r3 r4)), ?_⟩
  refine Rs fq_114_0 rfl ?_
  refine Rs fq_114_2 rfl ?_
  refine k1 _ (k2 _ (k3 _ (k4 _ ?_)))
  refine Rs fq_114_3 rfl ?_
  refine Rs fq_114_4 (o_IfT rfl (by decide)) ?_
  exact Rr fq_114_51 rfl
theorem fd4M {L : Nat} {xs : Nat → Int32} {d : Nat} {x p : Int32} {σ : iv_H} (h : fdS 548 550 12 2 fsM p σ) (hi : ∀ e : Int32, e = p ∨ e = p + 1 ∨ e = p + 1 + 1 ∨ e = p + 1 + 1 + 1 → iv_in e 940 = true) : ∃ σ2, fdS 548 550 12 2 fsM (p + 1 + 1 + 1 + 1) σ2 ∧ fdR 548 550 σ σ2 ∧ iv_Rn L xs d 157 0 [(0, .ref 548), (1, .int x)] [] σ none σ2 := by
  obtain ⟨s1, b1, r1, k1⟩ := fdM (L := L) (xs := xs) (d := d) (x := x) (k := 24) h (by decide) (hi _ (Or.inl rfl))
  obtain ⟨s2, b2, r2, k2⟩ := fdM (L := L) (xs := xs) (d := d) (x := x) (k := 24 + Int32.ofInt (-8)) b1 (by decide) (hi _ (Or.inr (Or.inl rfl)))
  obtain ⟨s3, b3, r3, k3⟩ := fdM (L := L) (xs := xs) (d := d) (x := x) (k := 24 + Int32.ofInt (-8) + Int32.ofInt (-8)) b2 (by decide) (hi _ (Or.inr (Or.inr (Or.inl rfl))))
  obtain ⟨s4, b4, r4, k4⟩ := fdM (L := L) (xs := xs) (d := d) (x := x) (k := 24 + Int32.ofInt (-8) + Int32.ofInt (-8) + Int32.ofInt (-8)) b3 (by decide) (hi _ (Or.inr (Or.inr (Or.inr rfl))))
  refine ⟨s4, b4, fdR_tr r1 (fdR_tr r2 (fdR_tr r3 r4)), ?_⟩
  refine Rs fq_157_0 rfl ?_
  refine Rs fq_157_2 rfl ?_
  refine k1 _ (k2 _ (k3 _ (k4 _ ?_)))
  refine Rs fq_157_3 rfl ?_
  refine Rs fq_157_4 (o_IfT rfl (by decide)) ?_
  exact Rr fq_157_39 rfl
theorem a6_1 {ci a : Nat} {fs : List Value} {v : Value} {σ : iv_H} (h : iv_get σ a = some (.inr (ci, fs))) : iv_args 6 1 ci [v, .ref a] σ = some ([.ref a, v], []) := by
  simp only [iv_args, iv_pop, iv_cs, h, Nat.beq_refl, cond_true]
  rfl
theorem a6_5 {ci a : Nat} {fs r : List Value} {v1 v2 v3 v4 v5 : Value} {σ : iv_H} (h : iv_get σ a = some (.inr (ci, fs))) (hr : Nat.ble (iv_cs r) 8 = true) : iv_args 6 5 ci (v5 :: v4 :: v3 :: v2 :: v1 :: .ref a :: r) σ = some ([.ref a, v1, v2, v3, v4, v5], r) := by
  simp only [iv_args, iv_pop, hr, h, Nat.beq_refl, cond_true]
  rfl
theorem o_Sc {i : Int32} {xs : Nat → Int32} {pc : Nat} {lv : iv_L} {r0 : List Value} {σ : iv_H} (hi : iv_in i 6 = true) : iv_oIl 6 xs pc lv (.int i :: .ref 1 :: r0) σ = some (pc + 1, lv, .int (xs i.toNatClampNeg) :: r0, σ) := by
  simp only [iv_oIl, hi]
  rfl
abbrev p4 (p : Int32) : Int32 := p + 1 + 1 + 1 + 1
abbrev p20 : Int32 := p4 (p4 (p4 (p4 (p4 0))))
theorem fdFG {L : Nat} {xs : Nat → Int32} {d : Nat} {x1 x2 x3 x4 x5 : Int32} {σ : iv_H} {g : Nat → Int32} (h0 : iv_get σ 0 = some (.inr (11, fsG))) (h0t : iv_get σ 2 = some (.inl (0, 940, .inl g))) : ∃ σ2, fdR 0 2 σ σ2 ∧ iv_Rn L xs (d + 1) 113 0 [(0, .ref 0), (1, .int x1), (2, .int x2), (3, .int x3), (4, .int x4), (5, .int x5)] [] σ (some (.int p20)) σ2 := by
  have b0 : fdS 0 2 11 1 fsG 0 σ := ⟨h0, g, h0t⟩
  have r0 := fdR_rf 0 2 σ
  obtain ⟨s1, b1, r1, k1⟩ := fd4G (L := L) (xs := xs) (d := d) (x := x1) b0 (by intro e h; rcases h with rfl | rfl | rfl | rfl <;> decide) (by intro e h; rcases h with rfl | rfl | rfl | rfl <;> decide)
  obtain ⟨s2, b2, r2, k2⟩ := fd4G (L := L) (xs := xs) (d := d) (x := x2) b1 (by intro e h; rcases h with rfl | rfl | rfl | rfl <;> decide) (by intro e h; rcases h with rfl | rfl | rfl | rfl <;> decide)
  obtain ⟨s3, b3, r3, k3⟩ := fd4G (L := L) (xs := xs) (d := d) (x := x3) b2 (by intro e h; rcases h with rfl | rfl | rfl | rfl <;> decide) (by intro e h; rcases h with rfl | rfl | rfl | rfl <;> decide)
  obtain ⟨s4, b4, r4, k4⟩ := fd4G (L := L) (xs := xs) (d := d) (x := x4) b3 (by intro e h; rcases h with rfl | rfl | rfl | rfl <;> decide) (by intro e h; rcases h with rfl | rfl | rfl | rfl <;> decide)
  obtain ⟨s5, b5, r5, k5⟩ := fd4G (L := L) (xs := xs) (d := d) (x := x5) b4 (by intro e h; rcases h with rfl | rfl | rfl | rfl <;> decide) (by intro e h; rcases h with rfl | rfl | rfl | rfl <;> decide)
  refine ⟨s5, fdR_tr r0 (fdR_tr r1 (fdR_tr r2 (fdR_tr r3 (fdR_tr r4 r5)))), ?_⟩
  refine Rs fq_113_0 rfl ?_
  refine Rs fq_113_1 (o_GF h0 rfl) ?_
  refine Rs fq_113_4 rfl ?_
  refine Rs fq_113_6 rfl ?_
  refine Rs fq_113_7 rfl ?_
  refine Rs fq_113_10 (o_IcT rfl (by decide)) ?_
  refine Rs fq_113_15 rfl ?_
  refine Rs fq_113_16 rfl ?_
  refine Rc fq_113_17 (a6_1 b0.1) rfl k1 ?_
  refine Rs fq_113_20 rfl ?_
  refine Rs fq_113_21 rfl ?_
  refine Rc fq_113_22 (a6_1 b1.1) rfl k2 ?_
  refine Rs fq_113_25 rfl ?_
  refine Rs fq_113_26 rfl ?_
  refine Rc fq_113_27 (a6_1 b2.1) rfl k3 ?_
  refine Rs fq_113_30 rfl ?_
  refine Rs fq_113_31 rfl ?_
  refine Rc fq_113_33 (a6_1 b3.1) rfl k4 ?_
  refine Rs fq_113_36 rfl ?_
  refine Rs fq_113_37 rfl ?_
  refine Rc fq_113_39 (a6_1 b4.1) rfl k5 ?_
  refine Rs fq_113_42 rfl ?_
  refine Rs fq_113_43 (o_GF b5.1 rfl) ?_
  exact Rr fq_113_46 rfl
theorem fdFM {L : Nat} {xs : Nat → Int32} {d : Nat} {x1 x2 x3 x4 x5 : Int32} {σ : iv_H} {g : Nat → Int32} (h0 : iv_get σ 548 = some (.inr (12, fsM))) (h0t : iv_get σ 550 = some (.inl (0, 940, .inl g))) : ∃ σ2, fdR 548 550 σ σ2 ∧ iv_Rn L xs (d + 1) 158 0 [(0, .ref 548), (1, .int x1), (2, .int x2), (3, .int x3), (4, .int x4), (5, .int x5)] [] σ (some (.int p20)) σ2 := by
  have h0p : iv_get (iv_put σ 548 (.inr (12, fsM.set 0 (.int 0)))) 548 = some (.inr (12, fsM)) := iv_gp_s h0
  have r0 : fdR 548 550 σ (iv_put σ 548 (.inr (12, fsM.set 0 (.int 0)))) := ⟨iv_mo_put.1, iv_mo_put.2, fun a z n1 n2 h => iv_gp_n h0 h n1⟩
  have b0 : fdS 548 550 12 2 fsM 0 (iv_put σ 548 (.inr (12, fsM.set 0 (.int 0)))) := ⟨h0p, g, iv_gp_n h0 h0t (by decide)⟩
  obtain ⟨s1, b1, r1, k1⟩ := fd4M (L := L) (xs := xs) (d := d) (x := x1) b0 (by intro e h; rcases h with rfl | rfl | rfl | rfl <;> decide)
  obtain ⟨s2, b2, r2, k2⟩ := fd4M (L := L) (xs := xs) (d := d) (x := x2) b1 (by intro e h; rcases h with rfl | rfl | rfl | rfl <;> decide)
  obtain ⟨s3, b3, r3, k3⟩ := fd4M (L := L) (xs := xs) (d := d) (x := x3) b2 (by intro e h; rcases h with rfl | rfl | rfl | rfl <;> decide)
  obtain ⟨s4, b4, r4, k4⟩ := fd4M (L := L) (xs := xs) (d := d) (x := x4) b3 (by intro e h; rcases h with rfl | rfl | rfl | rfl <;> decide)
  obtain ⟨s5, b5, r5, k5⟩ := fd4M (L := L) (xs := xs) (d := d) (x := x5) b4 (by intro e h; rcases h with rfl | rfl | rfl | rfl <;> decide)
  refine ⟨s5, fdR_tr r0 (fdR_tr r1 (fdR_tr r2 (fdR_tr r3 (fdR_tr r4 r5)))), ?_⟩
  refine Rs fq_158_0 rfl ?_
  refine Rs fq_158_1 rfl ?_
  refine Rs fq_158_2 (o_PF h0 rfl rfl) ?_
  refine Rs fq_158_5 rfl ?_
  refine Rs fq_158_6 (o_GF h0p rfl) ?_
  refine Rs fq_158_9 rfl ?_
  refine Rs fq_158_11 rfl ?_
  refine Rs fq_158_12 rfl ?_
  refine Rs fq_158_15 (o_IcT rfl (by decide)) ?_
  refine Rs fq_158_20 rfl ?_
  refine Rs fq_158_21 rfl ?_
  refine Rc fq_158_22 (a6_1 b0.1) rfl k1 ?_
  refine Rs fq_158_25 rfl ?_
  refine Rs fq_158_26 rfl ?_
  refine Rc fq_158_27 (a6_1 b1.1) rfl k2 ?_
  refine Rs fq_158_30 rfl ?_
  refine Rs fq_158_31 rfl ?_
  refine Rc fq_158_32 (a6_1 b2.1) rfl k3 ?_
  refine Rs fq_158_35 rfl ?_
  refine Rs fq_158_36 rfl ?_
  refine Rc fq_158_38 (a6_1 b3.1) rfl k4 ?_
  refine Rs fq_158_41 rfl ?_
  refine Rs fq_158_42 rfl ?_
  refine Rc fq_158_44 (a6_1 b4.1) rfl k5 ?_
  refine Rs fq_158_47 rfl ?_
  refine Rs fq_158_48 (o_GF b5.1 rfl) ?_
  exact Rr fq_158_51 rfl
/-! ===== the law around it ===== -/
theorem fq_286_23 : iv_f1 (iv_p 286) 23 = some (.inl (iv_oI 4 2)) := rfl
theorem fq_286_25 : iv_f1 (iv_p 286) 25 = some (.inl (iv_oA 0 1)) := rfl
theorem fq_286_26 : iv_f1 (iv_p 286) 26 = some (.inl iv_oLen) := rfl
theorem fq_286_27 : iv_f1 (iv_p 286) 27 = some (.inl (iv_oK (.int 6) 2)) := rfl
theorem fq_286_29 : iv_f1 (iv_p 286) 29 = some (.inl (iv_oII fun x y => x - y)) := rfl
theorem fq_286_30 : iv_f1 (iv_p 286) 30 = some (.inl (iv_oIc .gt 1299)) := rfl
theorem fq_286_33 : iv_f1 (iv_p 286) 33 = some (.inl (iv_oA 0 1)) := rfl
theorem fq_286_34 : iv_f1 (iv_p 286) 34 = some (.inl (iv_oI 4 2)) := rfl
theorem fq_286_36 : iv_f1 (iv_p 286) 36 = some (.inl iv_oIl) := rfl
theorem fq_286_37 : iv_f1 (iv_p 286) 37 = some (.inl (iv_oK (.int 63) 2)) := rfl
theorem fq_286_39 : iv_f1 (iv_p 286) 39 = some (.inl (iv_oII fun x y => x &&& y)) := rfl
theorem fq_286_40 : iv_f1 (iv_p 286) 40 = some (.inl (iv_oTs 1283 0 36 #[164, 237, 262, 275, 288, 356, 393, 418, 467, 504, 529, 566, 591, 616, 629, 678, 715, 740, 753, 778, 791, 804, 829, 854, 922, 959, 984, 1009, 1034, 1071, 1120, 1145, 1170, 1183, 1208, 1233, 1258])) := rfl
set_option maxRecDepth 100000 in
theorem fq_286_1323 : iv_f1 (iv_p 286) 1323 = some (.inl (iv_oInc 4 6)) := rfl
set_option maxRecDepth 100000 in
theorem fq_286_1326 : iv_f1 (iv_p 286) 1326 = some (.inl (iv_oGo (-1303))) := rfl
set_option maxRecDepth 100000 in
theorem fq_286_1329 : iv_f1 (iv_p 286) 1329 = some (.inl (iv_oK (.int 1) 1)) := rfl
set_option maxRecDepth 100000 in
theorem fq_286_1330 : iv_f1 (iv_p 286) 1330 = some (.inr (.inl 2)) := rfl
theorem fq_286_204 : iv_f1 (iv_p 286) 204 = some (.inl (iv_oA 1 1)) := rfl
theorem fq_286_205 : iv_f1 (iv_p 286) 205 = some (.inl (iv_oA 0 1)) := rfl
theorem fq_286_206 : iv_f1 (iv_p 286) 206 = some (.inl (iv_oI 4 2)) := rfl
theorem fq_286_208 : iv_f1 (iv_p 286) 208 = some (.inl (iv_oK (.int 1) 1)) := rfl
theorem fq_286_209 : iv_f1 (iv_p 286) 209 = some (.inl (iv_oII fun x y => x + y)) := rfl
theorem fq_286_210 : iv_f1 (iv_p 286) 210 = some (.inl iv_oIl) := rfl
theorem fq_286_211 : iv_f1 (iv_p 286) 211 = some (.inl (iv_oA 0 1)) := rfl
theorem fq_286_212 : iv_f1 (iv_p 286) 212 = some (.inl (iv_oI 4 2)) := rfl
theorem fq_286_214 : iv_f1 (iv_p 286) 214 = some (.inl (iv_oK (.int 2) 1)) := rfl
theorem fq_286_215 : iv_f1 (iv_p 286) 215 = some (.inl (iv_oII fun x y => x + y)) := rfl
theorem fq_286_216 : iv_f1 (iv_p 286) 216 = some (.inl iv_oIl) := rfl
theorem fq_286_217 : iv_f1 (iv_p 286) 217 = some (.inl (iv_oA 0 1)) := rfl
theorem fq_286_218 : iv_f1 (iv_p 286) 218 = some (.inl (iv_oI 4 2)) := rfl
theorem fq_286_220 : iv_f1 (iv_p 286) 220 = some (.inl (iv_oK (.int 3) 1)) := rfl
theorem fq_286_221 : iv_f1 (iv_p 286) 221 = some (.inl (iv_oII fun x y => x + y)) := rfl
theorem fq_286_222 : iv_f1 (iv_p 286) 222 = some (.inl iv_oIl) := rfl
theorem fq_286_223 : iv_f1 (iv_p 286) 223 = some (.inl (iv_oA 0 1)) := rfl
theorem fq_286_224 : iv_f1 (iv_p 286) 224 = some (.inl (iv_oI 4 2)) := rfl
theorem fq_286_226 : iv_f1 (iv_p 286) 226 = some (.inl (iv_oK (.int 4) 1)) := rfl
theorem fq_286_227 : iv_f1 (iv_p 286) 227 = some (.inl (iv_oII fun x y => x + y)) := rfl
theorem fq_286_228 : iv_f1 (iv_p 286) 228 = some (.inl iv_oIl) := rfl
theorem fq_286_229 : iv_f1 (iv_p 286) 229 = some (.inl (iv_oA 0 1)) := rfl
theorem fq_286_230 : iv_f1 (iv_p 286) 230 = some (.inl (iv_oI 4 2)) := rfl
theorem fq_286_232 : iv_f1 (iv_p 286) 232 = some (.inl (iv_oK (.int 5) 1)) := rfl
theorem fq_286_233 : iv_f1 (iv_p 286) 233 = some (.inl (iv_oII fun x y => x + y)) := rfl
theorem fq_286_234 : iv_f1 (iv_p 286) 234 = some (.inl iv_oIl) := rfl
theorem fq_286_235 : iv_f1 (iv_p 286) 235 = some (.inr (.inr (6, 113, 5, 11))) := rfl
theorem fq_286_238 : iv_f1 (iv_p 286) 238 = some (.inl (iv_oA 2 1)) := rfl
theorem fq_286_239 : iv_f1 (iv_p 286) 239 = some (.inl (iv_oA 0 1)) := rfl
theorem fq_286_240 : iv_f1 (iv_p 286) 240 = some (.inl (iv_oI 4 2)) := rfl
theorem fq_286_242 : iv_f1 (iv_p 286) 242 = some (.inl (iv_oK (.int 1) 1)) := rfl
theorem fq_286_243 : iv_f1 (iv_p 286) 243 = some (.inl (iv_oII fun x y => x + y)) := rfl
theorem fq_286_244 : iv_f1 (iv_p 286) 244 = some (.inl iv_oIl) := rfl
theorem fq_286_245 : iv_f1 (iv_p 286) 245 = some (.inl (iv_oA 0 1)) := rfl
theorem fq_286_246 : iv_f1 (iv_p 286) 246 = some (.inl (iv_oI 4 2)) := rfl
theorem fq_286_248 : iv_f1 (iv_p 286) 248 = some (.inl (iv_oK (.int 2) 1)) := rfl
theorem fq_286_249 : iv_f1 (iv_p 286) 249 = some (.inl (iv_oII fun x y => x + y)) := rfl
theorem fq_286_250 : iv_f1 (iv_p 286) 250 = some (.inl iv_oIl) := rfl
theorem fq_286_251 : iv_f1 (iv_p 286) 251 = some (.inl (iv_oA 0 1)) := rfl
theorem fq_286_252 : iv_f1 (iv_p 286) 252 = some (.inl (iv_oI 4 2)) := rfl
theorem fq_286_254 : iv_f1 (iv_p 286) 254 = some (.inl (iv_oK (.int 3) 1)) := rfl
theorem fq_286_255 : iv_f1 (iv_p 286) 255 = some (.inl (iv_oII fun x y => x + y)) := rfl
theorem fq_286_256 : iv_f1 (iv_p 286) 256 = some (.inl iv_oIl) := rfl
theorem fq_286_257 : iv_f1 (iv_p 286) 257 = some (.inl (iv_oA 0 1)) := rfl
theorem fq_286_258 : iv_f1 (iv_p 286) 258 = some (.inl (iv_oI 4 2)) := rfl
theorem fq_286_260 : iv_f1 (iv_p 286) 260 = some (.inl (iv_oK (.int 4) 1)) := rfl
theorem fq_286_261 : iv_f1 (iv_p 286) 261 = some (.inl (iv_oII fun x y => x + y)) := rfl
theorem fq_286_262 : iv_f1 (iv_p 286) 262 = some (.inl iv_oIl) := rfl
theorem fq_286_263 : iv_f1 (iv_p 286) 263 = some (.inl (iv_oA 0 1)) := rfl
theorem fq_286_264 : iv_f1 (iv_p 286) 264 = some (.inl (iv_oI 4 2)) := rfl
theorem fq_286_266 : iv_f1 (iv_p 286) 266 = some (.inl (iv_oK (.int 5) 1)) := rfl
theorem fq_286_267 : iv_f1 (iv_p 286) 267 = some (.inl (iv_oII fun x y => x + y)) := rfl
theorem fq_286_268 : iv_f1 (iv_p 286) 268 = some (.inl iv_oIl) := rfl
theorem fq_286_269 : iv_f1 (iv_p 286) 269 = some (.inr (.inr (6, 158, 5, 12))) := rfl
theorem fq_286_272 : iv_f1 (iv_p 286) 272 = some (.inl (iv_oIc .eq 1051)) := rfl
/-- from behind a command to the end -/
theorem lwEnd {xs : Nat → Int32} {d : Nat} {σ : iv_H} : iv_Rn 6 xs d iv_n 1323 sgl [] σ (some (.int 1)) σ := by
  refine Rs fq_286_1323 rfl ?_
  refine Rs fq_286_1326 rfl ?_
  refine Rs fq_286_23 rfl ?_
  refine Rs fq_286_25 rfl ?_
  refine Rs fq_286_26 rfl ?_
  refine Rs fq_286_27 rfl ?_
  refine Rs fq_286_29 rfl ?_
  refine Rs fq_286_30 (o_IcT rfl (by decide)) ?_
  refine Rs fq_286_1329 rfl ?_
  exact Rr fq_286_1330 rfl
theorem sD_204 (xs : Nat → Int32) : ∃ σ', iv_Rn 6 xs 21 iv_n 204 sgl [] sg2 (some (.int 1)) σ' ∧ σ'.1 = 297 ∧ σ'.2.2 ≤ 100000 := by
  have ck := sg2_ck
  simp only [Bool.and_eq_true] at ck
  obtain ⟨⟨⟨c1, -⟩, c3, -⟩, -, -, c8, c9⟩ := ck
  have h0 := ckO_ok c1
  have h5 := ckO_ok c3
  obtain ⟨g, hg, -⟩ := ckI_ok c8
  obtain ⟨g5, hg5, -⟩ := ckI_ok c9
  obtain ⟨s1, r1, k1⟩ := fdFG (L := 6) (xs := xs) (d := 19) (x1 := xs 1) (x2 := xs 2) (x3 := xs 3) (x4 := xs 4) (x5 := xs 5) h0 hg
  have h5' := r1.2.2 _ _ (by decide) (by decide) h5
  obtain ⟨s2, r2, k2⟩ := fdFM (L := 6) (xs := xs) (d := 19) (x1 := xs 1) (x2 := xs 2) (x3 := xs 3) (x4 := xs 4) (x5 := xs 5) h5' (r1.2.2 _ _ (by decide) (by decide) hg5)
  refine ⟨s2, ?_, by rw [r2.1, r1.1]; exact sgP_eq.2.1, by rw [r2.2.1, r1.2.1]; exact sgP_eq.2.2⟩
  refine Rs fq_286_204 rfl ?_
  refine Rs fq_286_205 rfl ?_
  refine Rs fq_286_206 rfl ?_
  refine Rs fq_286_208 rfl ?_
  refine Rs fq_286_209 rfl ?_
  refine Rs fq_286_210 (o_Sc (by decide)) ?_
  refine Rs fq_286_211 rfl ?_
  refine Rs fq_286_212 rfl ?_
  refine Rs fq_286_214 rfl ?_
  refine Rs fq_286_215 rfl ?_
  refine Rs fq_286_216 (o_Sc (by decide)) ?_
  refine Rs fq_286_217 rfl ?_
  refine Rs fq_286_218 rfl ?_
  refine Rs fq_286_220 rfl ?_
  refine Rs fq_286_221 rfl ?_
  refine Rs fq_286_222 (o_Sc (by decide)) ?_
  refine Rs fq_286_223 rfl ?_
  refine Rs fq_286_224 rfl ?_
  refine Rs fq_286_226 rfl ?_
  refine Rs fq_286_227 rfl ?_
  refine Rs fq_286_228 (o_Sc (by decide)) ?_
  refine Rs fq_286_229 rfl ?_
  refine Rs fq_286_230 rfl ?_
  refine Rs fq_286_232 rfl ?_
  refine Rs fq_286_233 rfl ?_
  refine Rs fq_286_234 (o_Sc (by decide)) ?_
  refine Rc fq_286_235 (a6_5 h0 rfl) rfl k1 ?_
  refine Rs fq_286_238 rfl ?_
  refine Rs fq_286_239 rfl ?_
  refine Rs fq_286_240 rfl ?_
  refine Rs fq_286_242 rfl ?_
  refine Rs fq_286_243 rfl ?_
  refine Rs fq_286_244 (o_Sc (by decide)) ?_
  refine Rs fq_286_245 rfl ?_
  refine Rs fq_286_246 rfl ?_
  refine Rs fq_286_248 rfl ?_
  refine Rs fq_286_249 rfl ?_
  refine Rs fq_286_250 (o_Sc (by decide)) ?_
  refine Rs fq_286_251 rfl ?_
  refine Rs fq_286_252 rfl ?_
  refine Rs fq_286_254 rfl ?_
  refine Rs fq_286_255 rfl ?_
  refine Rs fq_286_256 (o_Sc (by decide)) ?_
  refine Rs fq_286_257 rfl ?_
  refine Rs fq_286_258 rfl ?_
  refine Rs fq_286_260 rfl ?_
  refine Rs fq_286_261 rfl ?_
  refine Rs fq_286_262 (o_Sc (by decide)) ?_
  refine Rs fq_286_263 rfl ?_
  refine Rs fq_286_264 rfl ?_
  refine Rs fq_286_266 rfl ?_
  refine Rs fq_286_267 rfl ?_
  refine Rs fq_286_268 (o_Sc (by decide)) ?_
  refine Rc fq_286_269 (a6_5 h5' rfl) rfl k2 ?_
  refine Rs fq_286_272 (o_IcT rfl (by decide)) ?_
  exact lwEnd
