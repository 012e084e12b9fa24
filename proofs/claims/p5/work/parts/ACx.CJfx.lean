/-! ===== printed by wip/gen/y/cj.py: order, by the class ===== -/
theorem y_det {L : Nat} {xs : Nat → Int32} {d M pc : Nat} {lv : iv_L} {st : List Value} {σ σ1 σ2 : iv_H} {r1 r2 : Option Value} (h1 : iv_Rn L xs d M pc lv st σ r1 σ1) (h2 : iv_Rn L xs d M pc lv st σ r2 σ2) : r1 = r2 ∧ σ1 = σ2 := by
  obtain ⟨n1, h1⟩ := h1
  obtain ⟨n2, h2⟩ := h2
  have a1 := iv_run_le L xs (n' := n1 + n2) (by omega) h1
  have a2 := iv_run_le L xs (n' := n1 + n2) (by omega) h2
  rw [a1] at a2
  simp only [Option.some.injEq, Prod.mk.injEq] at a2
  exact a2
/-- the references that never change -/
def yFX : List (Nat × Nat × Nat × Nat) := [(0, 11, 0, 2), (0, 11, 3, 4), (0, 11, 4, 20), (0, 11, 10, 356), (4, 3, 9, 6), (4, 3, 10, 8), (4, 3, 11, 10), (4, 3, 12, 12), (4, 3, 13, 14), (4, 3, 14, 16), (4, 3, 15, 18), (20, 3, 9, 22), (20, 3, 10, 24), (20, 3, 11, 26), (20, 3, 12, 28), (20, 3, 13, 30), (20, 3, 14, 32), (20, 3, 15, 34), (356, 5, 1, 358), (356, 5, 2, 360), (356, 5, 3, 362), (356, 5, 4, 364), (0, 11, 11, 366), (440, 3, 9, 442), (440, 3, 10, 444), (440, 3, 11, 446), (440, 3, 12, 448), (440, 3, 13, 450), (440, 3, 14, 452), (440, 3, 15, 454), (494, 3, 9, 496), (494, 3, 10, 498), (494, 3, 11, 500), (494, 3, 12, 502), (494, 3, 13, 504), (494, 3, 14, 506), (494, 3, 15, 508), (0, 11, 7, 96), (0, 11, 8, 104), (96, 6, 2, 98), (96, 6, 3, 100), (96, 6, 4, 102), (104, 6, 2, 106), (104, 6, 3, 108), (104, 6, 4, 110), (0, 11, 15, 374), (374, 0, 1, 376), (374, 0, 2, 378), (374, 0, 3, 380), (374, 0, 4, 382)]
def FX (σ : iv_H) : Prop := ∀ q ∈ yFX, ∃ fs, iv_get σ q.1 = some (.inr (q.2.1, fs)) ∧ iv_nth fs q.2.2.1 = some (.ref q.2.2.2)
def fxOK (ms : zm) : Bool := yFX.all fun q => !(zmem (0, q.2.1, q.2.2.1) ms)
theorem FX_fr {ms : zm} {σ σ1 : iv_H} (h : FX σ) (f : zFr z_τ ms σ σ1) (hm : fxOK ms = true) : FX σ1 := fun q hq => by
  obtain ⟨fs, g, e⟩ := h q hq
  obtain ⟨fs2, g2, e2⟩ := (f.2 q.1).1 q.2.1 fs g
  refine ⟨fs2, g2, (e2 _ ?_).trans e⟩
  have := List.all_eq_true.mp hm q hq
  simpa using this
/-- an object as a function of its fields -/
def yOv (σ : iv_H) (a ci : Nat) (V : Nat → Value) : Prop := ∀ fs, iv_get σ a = some (.inr (ci, fs)) → ∀ j v, iv_nth fs j = some v → V j = v
theorem yo_of {σ : iv_H} (hI : zI z_τ z_ty σ) {a t ci n : Nat} {cs : List zc} (ha : z_τ a = t) (ht : z_ty t = some (.inl (ci, cs))) (hn : cs.length = n) : ∃ V, iv_get σ a = some (yob ci n V) ∧ yOv σ a ci V := by
  obtain ⟨fs, g, hl, _⟩ := zI_obj hI ha ht
  obtain ⟨V, e, hV⟩ := y_V (fs := fs) (n := n) (by omega)
  refine ⟨V, by rw [g, e]; rfl, fun fs2 g2 j v hv => ?_⟩
  rw [g] at g2
  simp only [Option.some.injEq, Sum.inr.injEq, Prod.mk.injEq] at g2
  rw [← g2.2] at hv
  exact hV j v hv
theorem yFX_v {σ : iv_H} {V : Nat → Value} {a ci j b : Nat} (h : FX σ) (hV : yOv σ a ci V) (hq : (a, ci, j, b) ∈ yFX) : V j = .ref b := by
  obtain ⟨fs, g, e⟩ := h _ hq
  exact hV fs g j _ e
theorem yj_of {σ : iv_H} (hI : zI z_τ z_ty σ) {a n k : Nat} {sg : zsg} (ht : z_ty (z_τ a) = some (.inr (1, n, k, sg))) : ∃ f, iv_get σ a = some (yaj n f) := by
  obtain ⟨e, h1, h2⟩ := hI a _ ht
  obtain ⟨f, rfl, _⟩ := (show ∃ f : Nat → Int64, e = .inl (1, n, .inr (.inl f)) ∧ _ from h2)
  exact ⟨f, h1⟩
theorem yi_of {σ : iv_H} (hI : zI z_τ z_ty σ) {a n k : Nat} {sg : zsg} (ht : z_ty (z_τ a) = some (.inr (0, n, k, sg))) : ∃ f, iv_get σ a = some (yai n f) := by
  obtain ⟨f, h1, _⟩ := zI_ia hI rfl ht
  exact ⟨f, h1⟩
theorem yq_of {σ : iv_H} (hI : zI z_τ z_ty σ) {a n k : Nat} {sg : zsg} (ht : z_ty (z_τ a) = some (.inr (6, n, k, sg))) : ∃ f, iv_get σ a = some (yaq n f) := by
  obtain ⟨e, h1, h2⟩ := hI a _ ht
  obtain ⟨f, _, rfl, _⟩ := (show ∃ f : Nat → Option Nat, 3 ≤ 4 ∧ e = .inl (3 + 3, n, .inr (.inr (.inr (.inr f)))) ∧ _ from h2)
  exact ⟨f, h1⟩
section YCP
variable {L : Nat} {xs : Nat → Int32} {Post : Option Value → iv_H → Prop} {d M pc : Nat} {lv : iv_L} {st : List Value} {σ : iv_H} {a b n0 n1 n : Nat}
theorem y_cpi {f g : Nat → Int32} (hf : iv_f1 (iv_p M) pc = some (.inl iv_oCp)) (ha : iv_get σ a = some (yai n0 f)) (hb : iv_get σ b = some (yai n1 g)) (hc : ((decide (Int32.ofNat 0 < 0) || decide (Int32.ofNat 0 < 0)) || (decide (Int32.ofNat n < 0) || Nat.blt 8 (iv_cs st))) = false) (hz : (Int32.ofNat n).toNatClampNeg = n) (h0 : Nat.ble (0 + n) n0 = true) (h1 : Nat.ble (0 + n) n1 = true) (k : ∀ σ1, mD σ σ1 b (yai n1 (va_cpy f g 0 0 n)) → zGo L xs Post [] d M (pc + 3) lv st σ1) : zGo L xs Post [] d M pc lv (.int (Int32.ofNat n) :: .int (Int32.ofNat 0) :: .ref b :: .int (Int32.ofNat 0) :: .ref a :: st) σ := zGo_s hf (by
  have ha2 : iv_get σ a = some (.inl (0, n0, .inl f)) := ha
  have hb2 : iv_get σ b = some (.inl (0, n1, .inl g)) := hb
  have e0 : (Int32.ofNat 0).toNatClampNeg = 0 := rfl
  simp only [iv_oCp, hc, ha2, hb2, hz, e0, h0, h1, Bool.and_self, cond_true, cond_false]
  first | done | rfl) (k _ (mD_put2 hb))
theorem y_cpj {f g : Nat → Int64} (hf : iv_f1 (iv_p M) pc = some (.inl iv_oCp)) (ha : iv_get σ a = some (yaj n0 f)) (hb : iv_get σ b = some (yaj n1 g)) (hc : ((decide (Int32.ofNat 0 < 0) || decide (Int32.ofNat 0 < 0)) || (decide (Int32.ofNat n < 0) || Nat.blt 8 (iv_cs st))) = false) (hz : (Int32.ofNat n).toNatClampNeg = n) (h0 : Nat.ble (0 + n) n0 = true) (h1 : Nat.ble (0 + n) n1 = true) (k : ∀ σ1, mD σ σ1 b (yaj n1 (va_cpy f g 0 0 n)) → zGo L xs Post [] d M (pc + 3) lv st σ1) : zGo L xs Post [] d M pc lv (.int (Int32.ofNat n) :: .int (Int32.ofNat 0) :: .ref b :: .int (Int32.ofNat 0) :: .ref a :: st) σ := zGo_s hf (by
  have ha2 : iv_get σ a = some (.inl (1, n0, .inr (.inl f))) := ha
  have hb2 : iv_get σ b = some (.inl (1, n1, .inr (.inl g))) := hb
  have e0 : (Int32.ofNat 0).toNatClampNeg = 0 := rfl
  simp only [iv_oCp, hc, ha2, hb2, hz, e0, h0, h1, Bool.and_self, cond_true, cond_false]
  first | done | rfl) (k _ (mD_put2 hb))
end YCP
set_option maxRecDepth 100000 in
theorem y25_0 : iv_f1 (iv_p 25) 0 = some (.inl (iv_oA 0 1)) := rfl
set_option maxRecDepth 100000 in
theorem y25_1 : iv_f1 (iv_p 25) 1 = some (.inl (iv_oA 1 1)) := rfl
set_option maxRecDepth 100000 in
theorem y25_2 : iv_f1 (iv_p 25) 2 = some (.inl (iv_oGF 3 0)) := rfl
set_option maxRecDepth 100000 in
theorem y25_5 : iv_f1 (iv_p 25) 5 = some (.inl (iv_oPF 3 0 .int)) := rfl
set_option maxRecDepth 100000 in
theorem y25_8 : iv_f1 (iv_p 25) 8 = some (.inl (iv_oA 0 1)) := rfl
set_option maxRecDepth 100000 in
theorem y25_9 : iv_f1 (iv_p 25) 9 = some (.inl (iv_oA 1 1)) := rfl
set_option maxRecDepth 100000 in
theorem y25_10 : iv_f1 (iv_p 25) 10 = some (.inl (iv_oGF 3 1)) := rfl
set_option maxRecDepth 100000 in
theorem y25_13 : iv_f1 (iv_p 25) 13 = some (.inl (iv_oPF 3 1 .int)) := rfl
set_option maxRecDepth 100000 in
theorem y25_16 : iv_f1 (iv_p 25) 16 = some (.inl (iv_oA 0 1)) := rfl
set_option maxRecDepth 100000 in
theorem y25_17 : iv_f1 (iv_p 25) 17 = some (.inl (iv_oA 1 1)) := rfl
set_option maxRecDepth 100000 in
theorem y25_18 : iv_f1 (iv_p 25) 18 = some (.inl (iv_oGF 3 2)) := rfl
set_option maxRecDepth 100000 in
theorem y25_21 : iv_f1 (iv_p 25) 21 = some (.inl (iv_oPF 3 2 .int)) := rfl
set_option maxRecDepth 100000 in
theorem y25_24 : iv_f1 (iv_p 25) 24 = some (.inl (iv_oA 0 1)) := rfl
set_option maxRecDepth 100000 in
theorem y25_25 : iv_f1 (iv_p 25) 25 = some (.inl (iv_oA 1 1)) := rfl
set_option maxRecDepth 100000 in
theorem y25_26 : iv_f1 (iv_p 25) 26 = some (.inl (iv_oGF 3 3)) := rfl
set_option maxRecDepth 100000 in
theorem y25_29 : iv_f1 (iv_p 25) 29 = some (.inl (iv_oPF 3 3 .int)) := rfl
set_option maxRecDepth 100000 in
theorem y25_32 : iv_f1 (iv_p 25) 32 = some (.inl (iv_oA 0 1)) := rfl
set_option maxRecDepth 100000 in
theorem y25_33 : iv_f1 (iv_p 25) 33 = some (.inl (iv_oA 1 1)) := rfl
set_option maxRecDepth 100000 in
theorem y25_34 : iv_f1 (iv_p 25) 34 = some (.inl (iv_oGF 3 4)) := rfl
set_option maxRecDepth 100000 in
theorem y25_37 : iv_f1 (iv_p 25) 37 = some (.inl (iv_oPF 3 4 .int)) := rfl
set_option maxRecDepth 100000 in
theorem y25_40 : iv_f1 (iv_p 25) 40 = some (.inl (iv_oA 0 1)) := rfl
set_option maxRecDepth 100000 in
theorem y25_41 : iv_f1 (iv_p 25) 41 = some (.inl (iv_oA 1 1)) := rfl
set_option maxRecDepth 100000 in
theorem y25_42 : iv_f1 (iv_p 25) 42 = some (.inl (iv_oGF 3 5)) := rfl
set_option maxRecDepth 100000 in
theorem y25_45 : iv_f1 (iv_p 25) 45 = some (.inl (iv_oPF 3 5 .int)) := rfl
set_option maxRecDepth 100000 in
theorem y25_48 : iv_f1 (iv_p 25) 48 = some (.inl (iv_oA 1 1)) := rfl
set_option maxRecDepth 100000 in
theorem y25_49 : iv_f1 (iv_p 25) 49 = some (.inl (iv_oGF 3 9)) := rfl
set_option maxRecDepth 100000 in
theorem y25_52 : iv_f1 (iv_p 25) 52 = some (.inl (iv_oK (.int (Int32.ofNat 0)) 1)) := rfl
set_option maxRecDepth 100000 in
theorem y25_53 : iv_f1 (iv_p 25) 53 = some (.inl (iv_oA 0 1)) := rfl
set_option maxRecDepth 100000 in
theorem y25_54 : iv_f1 (iv_p 25) 54 = some (.inl (iv_oGF 3 9)) := rfl
set_option maxRecDepth 100000 in
theorem y25_57 : iv_f1 (iv_p 25) 57 = some (.inl (iv_oK (.int (Int32.ofNat 0)) 1)) := rfl
set_option maxRecDepth 100000 in
theorem y25_58 : iv_f1 (iv_p 25) 58 = some (.inl (iv_oK (.int (Int32.ofNat 7)) 2)) := rfl
set_option maxRecDepth 100000 in
theorem y25_60 : iv_f1 (iv_p 25) 60 = some (.inl iv_oCp) := rfl
set_option maxRecDepth 100000 in
theorem y25_63 : iv_f1 (iv_p 25) 63 = some (.inl (iv_oA 1 1)) := rfl
set_option maxRecDepth 100000 in
theorem y25_64 : iv_f1 (iv_p 25) 64 = some (.inl (iv_oGF 3 10)) := rfl
set_option maxRecDepth 100000 in
theorem y25_67 : iv_f1 (iv_p 25) 67 = some (.inl (iv_oK (.int (Int32.ofNat 0)) 1)) := rfl
set_option maxRecDepth 100000 in
theorem y25_68 : iv_f1 (iv_p 25) 68 = some (.inl (iv_oA 0 1)) := rfl
set_option maxRecDepth 100000 in
theorem y25_69 : iv_f1 (iv_p 25) 69 = some (.inl (iv_oGF 3 10)) := rfl
set_option maxRecDepth 100000 in
theorem y25_72 : iv_f1 (iv_p 25) 72 = some (.inl (iv_oK (.int (Int32.ofNat 0)) 1)) := rfl
set_option maxRecDepth 100000 in
theorem y25_73 : iv_f1 (iv_p 25) 73 = some (.inl (iv_oK (.int (Int32.ofNat 7)) 2)) := rfl
set_option maxRecDepth 100000 in
theorem y25_75 : iv_f1 (iv_p 25) 75 = some (.inl iv_oCp) := rfl
set_option maxRecDepth 100000 in
theorem y25_78 : iv_f1 (iv_p 25) 78 = some (.inl (iv_oA 1 1)) := rfl
set_option maxRecDepth 100000 in
theorem y25_79 : iv_f1 (iv_p 25) 79 = some (.inl (iv_oGF 3 11)) := rfl
set_option maxRecDepth 100000 in
theorem y25_82 : iv_f1 (iv_p 25) 82 = some (.inl (iv_oK (.int (Int32.ofNat 0)) 1)) := rfl
set_option maxRecDepth 100000 in
theorem y25_83 : iv_f1 (iv_p 25) 83 = some (.inl (iv_oA 0 1)) := rfl
set_option maxRecDepth 100000 in
theorem y25_84 : iv_f1 (iv_p 25) 84 = some (.inl (iv_oGF 3 11)) := rfl
set_option maxRecDepth 100000 in
theorem y25_87 : iv_f1 (iv_p 25) 87 = some (.inl (iv_oK (.int (Int32.ofNat 0)) 1)) := rfl
set_option maxRecDepth 100000 in
theorem y25_88 : iv_f1 (iv_p 25) 88 = some (.inl (iv_oK (.int (Int32.ofNat 7)) 2)) := rfl
set_option maxRecDepth 100000 in
theorem y25_90 : iv_f1 (iv_p 25) 90 = some (.inl iv_oCp) := rfl
set_option maxRecDepth 100000 in
theorem y25_93 : iv_f1 (iv_p 25) 93 = some (.inl (iv_oA 1 1)) := rfl
set_option maxRecDepth 100000 in
theorem y25_94 : iv_f1 (iv_p 25) 94 = some (.inl (iv_oGF 3 12)) := rfl
set_option maxRecDepth 100000 in
theorem y25_97 : iv_f1 (iv_p 25) 97 = some (.inl (iv_oK (.int (Int32.ofNat 0)) 1)) := rfl
set_option maxRecDepth 100000 in
theorem y25_98 : iv_f1 (iv_p 25) 98 = some (.inl (iv_oA 0 1)) := rfl
set_option maxRecDepth 100000 in
theorem y25_99 : iv_f1 (iv_p 25) 99 = some (.inl (iv_oGF 3 12)) := rfl
set_option maxRecDepth 100000 in
theorem y25_102 : iv_f1 (iv_p 25) 102 = some (.inl (iv_oK (.int (Int32.ofNat 0)) 1)) := rfl
set_option maxRecDepth 100000 in
theorem y25_103 : iv_f1 (iv_p 25) 103 = some (.inl (iv_oK (.int (Int32.ofNat 7)) 2)) := rfl
set_option maxRecDepth 100000 in
theorem y25_105 : iv_f1 (iv_p 25) 105 = some (.inl iv_oCp) := rfl
set_option maxRecDepth 100000 in
theorem y25_108 : iv_f1 (iv_p 25) 108 = some (.inl (iv_oA 1 1)) := rfl
set_option maxRecDepth 100000 in
theorem y25_109 : iv_f1 (iv_p 25) 109 = some (.inl (iv_oGF 3 13)) := rfl
set_option maxRecDepth 100000 in
theorem y25_112 : iv_f1 (iv_p 25) 112 = some (.inl (iv_oK (.int (Int32.ofNat 0)) 1)) := rfl
set_option maxRecDepth 100000 in
theorem y25_113 : iv_f1 (iv_p 25) 113 = some (.inl (iv_oA 0 1)) := rfl
set_option maxRecDepth 100000 in
theorem y25_114 : iv_f1 (iv_p 25) 114 = some (.inl (iv_oGF 3 13)) := rfl
set_option maxRecDepth 100000 in
theorem y25_117 : iv_f1 (iv_p 25) 117 = some (.inl (iv_oK (.int (Int32.ofNat 0)) 1)) := rfl
set_option maxRecDepth 100000 in
theorem y25_118 : iv_f1 (iv_p 25) 118 = some (.inl (iv_oK (.int (Int32.ofNat 6)) 2)) := rfl
set_option maxRecDepth 100000 in
theorem y25_120 : iv_f1 (iv_p 25) 120 = some (.inl iv_oCp) := rfl
set_option maxRecDepth 100000 in
theorem y25_123 : iv_f1 (iv_p 25) 123 = some (.inl (iv_oA 1 1)) := rfl
set_option maxRecDepth 100000 in
theorem y25_124 : iv_f1 (iv_p 25) 124 = some (.inl (iv_oGF 3 14)) := rfl
set_option maxRecDepth 100000 in
theorem y25_127 : iv_f1 (iv_p 25) 127 = some (.inl (iv_oK (.int (Int32.ofNat 0)) 1)) := rfl
set_option maxRecDepth 100000 in
theorem y25_128 : iv_f1 (iv_p 25) 128 = some (.inl (iv_oA 0 1)) := rfl
set_option maxRecDepth 100000 in
theorem y25_129 : iv_f1 (iv_p 25) 129 = some (.inl (iv_oGF 3 14)) := rfl
set_option maxRecDepth 100000 in
theorem y25_132 : iv_f1 (iv_p 25) 132 = some (.inl (iv_oK (.int (Int32.ofNat 0)) 1)) := rfl
set_option maxRecDepth 100000 in
theorem y25_133 : iv_f1 (iv_p 25) 133 = some (.inl (iv_oK (.int (Int32.ofNat 6)) 2)) := rfl
set_option maxRecDepth 100000 in
theorem y25_135 : iv_f1 (iv_p 25) 135 = some (.inl iv_oCp) := rfl
set_option maxRecDepth 100000 in
theorem y25_138 : iv_f1 (iv_p 25) 138 = some (.inl (iv_oA 1 1)) := rfl
set_option maxRecDepth 100000 in
theorem y25_139 : iv_f1 (iv_p 25) 139 = some (.inl (iv_oGF 3 15)) := rfl
set_option maxRecDepth 100000 in
theorem y25_142 : iv_f1 (iv_p 25) 142 = some (.inl (iv_oK (.int (Int32.ofNat 0)) 1)) := rfl
set_option maxRecDepth 100000 in
theorem y25_143 : iv_f1 (iv_p 25) 143 = some (.inl (iv_oA 0 1)) := rfl
set_option maxRecDepth 100000 in
theorem y25_144 : iv_f1 (iv_p 25) 144 = some (.inl (iv_oGF 3 15)) := rfl
set_option maxRecDepth 100000 in
theorem y25_147 : iv_f1 (iv_p 25) 147 = some (.inl (iv_oK (.int (Int32.ofNat 0)) 1)) := rfl
set_option maxRecDepth 100000 in
theorem y25_148 : iv_f1 (iv_p 25) 148 = some (.inl (iv_oK (.int (Int32.ofNat 6)) 2)) := rfl
set_option maxRecDepth 100000 in
theorem y25_150 : iv_f1 (iv_p 25) 150 = some (.inl iv_oCp) := rfl
set_option maxRecDepth 100000 in
theorem y25_153 : iv_f1 (iv_p 25) 153 = some (.inr (.inl 0)) := rfl
theorem yg_cp {L : Nat} {xs : Nat → Int32} {d : Nat} {σ : iv_H} {E D : Nat → Value} {x0 x1 x2 x3 x4 x5 : Int32} {f6 f14 f22 f30 : Nat → Int64} {f8 f10 f12 f16 f18 f24 f26 f28 f32 f34 : Nat → Int32} (g4 : iv_get σ 4 = some (yob 3 16 E)) (g20 : iv_get σ 20 = some (yob 3 16 D)) (g6 : iv_get σ 6 = some (yaj 7 f6)) (g8 : iv_get σ 8 = some (yai 7 f8)) (g10 : iv_get σ 10 = some (yai 7 f10)) (g12 : iv_get σ 12 = some (yai 7 f12)) (g14 : iv_get σ 14 = some (yaj 6 f14)) (g16 : iv_get σ 16 = some (yai 6 f16)) (g18 : iv_get σ 18 = some (yai 6 f18)) (g22 : iv_get σ 22 = some (yaj 7 f22)) (g24 : iv_get σ 24 = some (yai 7 f24)) (g26 : iv_get σ 26 = some (yai 7 f26)) (g28 : iv_get σ 28 = some (yai 7 f28)) (g30 : iv_get σ 30 = some (yaj 6 f30)) (g32 : iv_get σ 32 = some (yai 6 f32)) (g34 : iv_get σ 34 = some (yai 6 f34)) (e9 : E 9 = .ref 6) (e10 : E 10 = .ref 8) (e11 : E 11 = .ref 10) (e12 : E 12 = .ref 12) (e13 : E 13 = .ref 14) (e14 : E 14 = .ref 16) (e15 : E 15 = .ref 18) (c9 : D 9 = .ref 22) (c10 : D 10 = .ref 24) (c11 : D 11 = .ref 26) (c12 : D 12 = .ref 28) (c13 : D 13 = .ref 30) (c14 : D 14 = .ref 32) (c15 : D 15 = .ref 34) (d0 : D 0 = .int x0) (d1 : D 1 = .int x1) (d2 : D 2 = .int x2) (d3 : D 3 = .int x3) (d4 : D 4 = .int x4) (d5 : D 5 = .int x5) : ∃ σ1, iv_Rn L xs d 25 0 (lv_args 0 [.ref 4, .ref 20]) [] σ none σ1 ∧ ∃ E1, iv_get σ1 4 = some (yob 3 16 E1) ∧ E1 0 = .int x0 ∧ E1 1 = .int x1 ∧ E1 2 = .int x2 ∧ E1 3 = .int x3 ∧ E1 4 = .int x4 ∧ E1 5 = .int x5 ∧ iv_get σ1 6 = some (yaj 7 (va_cpy f22 f6 0 0 7)) ∧ iv_get σ1 14 = some (yaj 6 (va_cpy f30 f14 0 0 6)) ∧ yFr [4, 6, 8, 10, 12, 14, 16, 18] σ σ1 := by
  refine y_R0 ?_
  refine w_A y25_0 rfl ?_
  refine w_A y25_1 rfl ?_
  refine y_gf y25_2 g20 rfl d0 ?_
  refine y_pf y25_5 g4 rfl rfl ?_
  intro σ366 h365
  refine w_A y25_8 rfl ?_
  refine w_A y25_9 rfl ?_
  have g367 := (mD_n h365 (by decide) g20)
  refine y_gf y25_10 g367 rfl d1 ?_
  refine y_pf y25_13 h365.2.1 rfl rfl ?_
  intro σ369 h368
  refine w_A y25_16 rfl ?_
  refine w_A y25_17 rfl ?_
  have g370 := (mD_n h368 (by decide) g367)
  refine y_gf y25_18 g370 rfl d2 ?_
  refine y_pf y25_21 h368.2.1 rfl rfl ?_
  intro σ372 h371
  refine w_A y25_24 rfl ?_
  refine w_A y25_25 rfl ?_
  have g373 := (mD_n h371 (by decide) g370)
  refine y_gf y25_26 g373 rfl d3 ?_
  refine y_pf y25_29 h371.2.1 rfl rfl ?_
  intro σ375 h374
  refine w_A y25_32 rfl ?_
  refine w_A y25_33 rfl ?_
  have g376 := (mD_n h374 (by decide) g373)
  refine y_gf y25_34 g376 rfl d4 ?_
  refine y_pf y25_37 h374.2.1 rfl rfl ?_
  intro σ378 h377
  refine w_A y25_40 rfl ?_
  refine w_A y25_41 rfl ?_
  have g379 := (mD_n h377 (by decide) g376)
  refine y_gf y25_42 g379 rfl d5 ?_
  refine y_pf y25_45 h377.2.1 rfl rfl ?_
  intro σ381 h380
  refine w_A y25_48 rfl ?_
  have g382 := (mD_n h380 (by decide) g379)
  refine y_gf y25_49 g382 rfl c9 ?_
  refine w_K y25_52 ?_
  refine w_A y25_53 rfl ?_
  refine y_gf y25_54 h380.2.1 rfl e9 ?_
  refine w_K y25_57 ?_
  refine w_K y25_58 ?_
  have g385 := (mD_n h380 (by decide) (mD_n h377 (by decide) (mD_n h374 (by decide) (mD_n h371 (by decide) (mD_n h368 (by decide) (mD_n h365 (by decide) g22))))))
  have g386 := (mD_n h380 (by decide) (mD_n h377 (by decide) (mD_n h374 (by decide) (mD_n h371 (by decide) (mD_n h368 (by decide) (mD_n h365 (by decide) g6))))))
  refine y_cpj y25_60 g385 g386 rfl rfl rfl rfl ?_
  intro σ384 h383
  refine w_A y25_63 rfl ?_
  have g387 := (mD_n h383 (by decide) g382)
  refine y_gf y25_64 g387 rfl c10 ?_
  refine w_K y25_67 ?_
  refine w_A y25_68 rfl ?_
  have g388 := (mD_n h383 (by decide) h380.2.1)
  refine y_gf y25_69 g388 rfl e10 ?_
  refine w_K y25_72 ?_
  refine w_K y25_73 ?_
  have g391 := (mD_n h383 (by decide) (mD_n h380 (by decide) (mD_n h377 (by decide) (mD_n h374 (by decide) (mD_n h371 (by decide) (mD_n h368 (by decide) (mD_n h365 (by decide) g24)))))))
  have g392 := (mD_n h383 (by decide) (mD_n h380 (by decide) (mD_n h377 (by decide) (mD_n h374 (by decide) (mD_n h371 (by decide) (mD_n h368 (by decide) (mD_n h365 (by decide) g8)))))))
  refine y_cpi y25_75 g391 g392 rfl rfl rfl rfl ?_
  intro σ390 h389
  refine w_A y25_78 rfl ?_
  have g393 := (mD_n h389 (by decide) g387)
  refine y_gf y25_79 g393 rfl c11 ?_
  refine w_K y25_82 ?_
  refine w_A y25_83 rfl ?_
  have g394 := (mD_n h389 (by decide) g388)
  refine y_gf y25_84 g394 rfl e11 ?_
  refine w_K y25_87 ?_
  refine w_K y25_88 ?_
  have g397 := (mD_n h389 (by decide) (mD_n h383 (by decide) (mD_n h380 (by decide) (mD_n h377 (by decide) (mD_n h374 (by decide) (mD_n h371 (by decide) (mD_n h368 (by decide) (mD_n h365 (by decide) g26))))))))
  have g398 := (mD_n h389 (by decide) (mD_n h383 (by decide) (mD_n h380 (by decide) (mD_n h377 (by decide) (mD_n h374 (by decide) (mD_n h371 (by decide) (mD_n h368 (by decide) (mD_n h365 (by decide) g10))))))))
  refine y_cpi y25_90 g397 g398 rfl rfl rfl rfl ?_
  intro σ396 h395
  refine w_A y25_93 rfl ?_
  have g399 := (mD_n h395 (by decide) g393)
  refine y_gf y25_94 g399 rfl c12 ?_
  refine w_K y25_97 ?_
  refine w_A y25_98 rfl ?_
  have g400 := (mD_n h395 (by decide) g394)
  refine y_gf y25_99 g400 rfl e12 ?_
  refine w_K y25_102 ?_
  refine w_K y25_103 ?_
  have g403 := (mD_n h395 (by decide) (mD_n h389 (by decide) (mD_n h383 (by decide) (mD_n h380 (by decide) (mD_n h377 (by decide) (mD_n h374 (by decide) (mD_n h371 (by decide) (mD_n h368 (by decide) (mD_n h365 (by decide) g28)))))))))
  have g404 := (mD_n h395 (by decide) (mD_n h389 (by decide) (mD_n h383 (by decide) (mD_n h380 (by decide) (mD_n h377 (by decide) (mD_n h374 (by decide) (mD_n h371 (by decide) (mD_n h368 (by decide) (mD_n h365 (by decide) g12)))))))))
  refine y_cpi y25_105 g403 g404 rfl rfl rfl rfl ?_
  intro σ402 h401
  refine w_A y25_108 rfl ?_
  have g405 := (mD_n h401 (by decide) g399)
  refine y_gf y25_109 g405 rfl c13 ?_
  refine w_K y25_112 ?_
  refine w_A y25_113 rfl ?_
  have g406 := (mD_n h401 (by decide) g400)
  refine y_gf y25_114 g406 rfl e13 ?_
  refine w_K y25_117 ?_
  refine w_K y25_118 ?_
  have g409 := (mD_n h401 (by decide) (mD_n h395 (by decide) (mD_n h389 (by decide) (mD_n h383 (by decide) (mD_n h380 (by decide) (mD_n h377 (by decide) (mD_n h374 (by decide) (mD_n h371 (by decide) (mD_n h368 (by decide) (mD_n h365 (by decide) g30))))))))))
  have g410 := (mD_n h401 (by decide) (mD_n h395 (by decide) (mD_n h389 (by decide) (mD_n h383 (by decide) (mD_n h380 (by decide) (mD_n h377 (by decide) (mD_n h374 (by decide) (mD_n h371 (by decide) (mD_n h368 (by decide) (mD_n h365 (by decide) g14))))))))))
  refine y_cpj y25_120 g409 g410 rfl rfl rfl rfl ?_
  intro σ408 h407
  refine w_A y25_123 rfl ?_
  have g411 := (mD_n h407 (by decide) g405)
  refine y_gf y25_124 g411 rfl c14 ?_
  refine w_K y25_127 ?_
  refine w_A y25_128 rfl ?_
  have g412 := (mD_n h407 (by decide) g406)
  refine y_gf y25_129 g412 rfl e14 ?_
  refine w_K y25_132 ?_
  refine w_K y25_133 ?_
  have g415 := (mD_n h407 (by decide) (mD_n h401 (by decide) (mD_n h395 (by decide) (mD_n h389 (by decide) (mD_n h383 (by decide) (mD_n h380 (by decide) (mD_n h377 (by decide) (mD_n h374 (by decide) (mD_n h371 (by decide) (mD_n h368 (by decide) (mD_n h365 (by decide) g32)))))))))))
  have g416 := (mD_n h407 (by decide) (mD_n h401 (by decide) (mD_n h395 (by decide) (mD_n h389 (by decide) (mD_n h383 (by decide) (mD_n h380 (by decide) (mD_n h377 (by decide) (mD_n h374 (by decide) (mD_n h371 (by decide) (mD_n h368 (by decide) (mD_n h365 (by decide) g16)))))))))))
  refine y_cpi y25_135 g415 g416 rfl rfl rfl rfl ?_
  intro σ414 h413
  refine w_A y25_138 rfl ?_
  have g417 := (mD_n h413 (by decide) g411)
  refine y_gf y25_139 g417 rfl c15 ?_
  refine w_K y25_142 ?_
  refine w_A y25_143 rfl ?_
  have g418 := (mD_n h413 (by decide) g412)
  refine y_gf y25_144 g418 rfl e15 ?_
  refine w_K y25_147 ?_
  refine w_K y25_148 ?_
  have g421 := (mD_n h413 (by decide) (mD_n h407 (by decide) (mD_n h401 (by decide) (mD_n h395 (by decide) (mD_n h389 (by decide) (mD_n h383 (by decide) (mD_n h380 (by decide) (mD_n h377 (by decide) (mD_n h374 (by decide) (mD_n h371 (by decide) (mD_n h368 (by decide) (mD_n h365 (by decide) g34))))))))))))
  have g422 := (mD_n h413 (by decide) (mD_n h407 (by decide) (mD_n h401 (by decide) (mD_n h395 (by decide) (mD_n h389 (by decide) (mD_n h383 (by decide) (mD_n h380 (by decide) (mD_n h377 (by decide) (mD_n h374 (by decide) (mD_n h371 (by decide) (mD_n h368 (by decide) (mD_n h365 (by decide) g18))))))))))))
  refine y_cpi y25_150 g421 g422 rfl rfl rfl rfl ?_
  intro σ420 h419
  have g423 := (mD_n h419 (by decide) g418)
  have g424 := (mD_n h419 (by decide) (mD_n h413 (by decide) (mD_n h407 (by decide) (mD_n h401 (by decide) (mD_n h395 (by decide) (mD_n h389 (by decide) h383.2.1))))))
  have g425 := (mD_n h419 (by decide) (mD_n h413 (by decide) h407.2.1))
  exact w_ret0 y25_153 ⟨rfl, _, g423, rfl, rfl, rfl, rfl, rfl, rfl, g424, g425, (yF_tr (yF_D h365 (by rfl)) (yF_tr (yF_D h368 (by rfl)) (yF_tr (yF_D h371 (by rfl)) (yF_tr (yF_D h374 (by rfl)) (yF_tr (yF_D h377 (by rfl)) (yF_tr (yF_D h380 (by rfl)) (yF_tr (yF_D h383 (by rfl)) (yF_tr (yF_D h389 (by rfl)) (yF_tr (yF_D h395 (by rfl)) (yF_tr (yF_D h401 (by rfl)) (yF_tr (yF_D h407 (by rfl)) (yF_tr (yF_D h413 (by rfl)) (yF_D h419 (by rfl))))))))))))))⟩
set_option maxRecDepth 100000 in
theorem y116_0 : iv_f1 (iv_p 116) 0 = some (.inl (iv_oA 0 1)) := rfl
set_option maxRecDepth 100000 in
theorem y116_1 : iv_f1 (iv_p 116) 1 = some (.inl (iv_oGF 11 10)) := rfl
set_option maxRecDepth 100000 in
theorem y116_4 : iv_f1 (iv_p 116) 4 = some (.inl (iv_oA 0 1)) := rfl
set_option maxRecDepth 100000 in
theorem y116_5 : iv_f1 (iv_p 116) 5 = some (.inl (iv_oGF 11 0)) := rfl
set_option maxRecDepth 100000 in
theorem y116_8 : iv_f1 (iv_p 116) 8 = some (.inl (iv_oA 0 1)) := rfl
set_option maxRecDepth 100000 in
theorem y116_9 : iv_f1 (iv_p 116) 9 = some (.inl (iv_oGF 11 1)) := rfl
set_option maxRecDepth 100000 in
theorem y116_12 : iv_f1 (iv_p 116) 12 = some (.inl (iv_oI 1 1)) := rfl
set_option maxRecDepth 100000 in
theorem y116_13 : iv_f1 (iv_p 116) 13 = some (.inr (.inr (6, 47, 3, 5))) := rfl
set_option maxRecDepth 100000 in
theorem y116_16 : iv_f1 (iv_p 116) 16 = some (.inl (iv_oA 0 1)) := rfl
set_option maxRecDepth 100000 in
theorem y116_17 : iv_f1 (iv_p 116) 17 = some (.inl (iv_oK (.int (Int32.ofNat 0)) 1)) := rfl
set_option maxRecDepth 100000 in
theorem y116_18 : iv_f1 (iv_p 116) 18 = some (.inl (iv_oPF 11 1 .int)) := rfl
set_option maxRecDepth 100000 in
theorem y116_21 : iv_f1 (iv_p 116) 21 = some (.inr (.inl 0)) := rfl
theorem yg_rt {L : Nat} {xs : Nat → Int32} {d : Nat} {V : Nat → Value} {σ : iv_H} {K P : Nat → Int32} {X : Nat → Int64} {Q : Nat → Option Nat} {T : Nat → Nat} {n m : Nat} {G : Nat → Value} (hd : 6 ≤ d) (hn : n ≤ 940) (hm : m ≤ 900) (hT : ∀ i, T i ≤ 255) (g0 : iv_get σ 0 = some (yob 11 20 G)) (c0 : G 0 = .ref 2) (c1 : G 1 = .int (Int32.ofNat n)) (c10 : G 10 = .ref 356) (g : iv_get σ 356 = some (yob 5 13 V)) (gk : iv_get σ 358 = some (yai 901 K)) (gp : iv_get σ 360 = some (yai 901 P)) (gv : iv_get σ 362 = some (yaj 901 X)) (gw : iv_get σ 364 = some (yaq 901 Q)) (v1 : V 1 = .ref 358) (v2 : V 2 = .ref 360) (v3 : V 3 = .ref 362) (v4 : V 4 = .ref 364) (gt : iv_get σ 2 = some (yai 940 (ytp T))) : ∃ σ1, iv_Rn L xs d 116 0 (lv_args 0 [.ref 0, .int (Int32.ofNat m)]) [] σ none σ1 ∧ ∃ V1, yCM T n m 0 V1 σ1 ∧ iv_get σ1 0 = some (yob 11 20 (yuV G 1 (.int (Int32.ofNat 0)))) ∧ V1 11 = .int (Int32.ofNat 0) ∧ V1 12 = .int (Int32.ofNat 0) ∧ yFr [0, 356, 358, 360, 362, 364] σ σ1 := by
  obtain ⟨d, rfl⟩ : ∃ e, d = e + 6 := ⟨d - 6, by omega⟩
  obtain ⟨σ1, r1, V1, h1, e11, e12, f1⟩ := yc_open (L := L) (xs := xs) (d := d + 5) (n := n) (m := m) (by omega) hn hm hT g gk gp gv gw v1 v2 v3 v4 gt
  refine y_R0 ?_
  refine w_A y116_0 rfl ?_
  refine y_gf y116_1 g0 rfl c10 ?_
  refine w_A y116_4 rfl ?_
  refine y_gf y116_5 g0 rfl c0 ?_
  refine w_A y116_8 rfl ?_
  refine y_gf y116_9 g0 rfl c1 ?_
  refine w_I y116_12 rfl ?_
  refine y_call0 y116_13 (y_args6 g rfl rfl) rfl r1 ?_
  refine w_A y116_16 rfl ?_
  refine w_K y116_17 ?_
  refine y_pf y116_18 (yF_n f1 (by rfl) g0) rfl rfl ?_
  intro σ2 m2
  exact w_ret0 y116_21 ⟨rfl, V1, yCM_fr h1 (yF_D (S := [0]) m2 (by rfl)) (by rfl), m2.2.1, e11, e12, yF_tr (yF_sub (by rfl) f1) (yF_D m2 (by rfl))⟩
set_option maxRecDepth 100000 in
theorem y117_0 : iv_f1 (iv_p 117) 0 = some (.inl (iv_oA 0 1)) := rfl
set_option maxRecDepth 100000 in
theorem y117_1 : iv_f1 (iv_p 117) 1 = some (.inl (iv_oK (.int (Int32.ofNat 900)) 3)) := rfl
set_option maxRecDepth 100000 in
theorem y117_4 : iv_f1 (iv_p 117) 4 = some (.inr (.inr (6, 116, 1, 11))) := rfl
set_option maxRecDepth 100000 in
theorem y117_7 : iv_f1 (iv_p 117) 7 = some (.inl (iv_oA 0 1)) := rfl
set_option maxRecDepth 100000 in
theorem y117_8 : iv_f1 (iv_p 117) 8 = some (.inl (iv_oGF 11 4)) := rfl
set_option maxRecDepth 100000 in
theorem y117_11 : iv_f1 (iv_p 117) 11 = some (.inl (iv_oA 0 1)) := rfl
set_option maxRecDepth 100000 in
theorem y117_12 : iv_f1 (iv_p 117) 12 = some (.inl (iv_oGF 11 10)) := rfl
set_option maxRecDepth 100000 in
theorem y117_15 : iv_f1 (iv_p 117) 15 = some (.inr (.inr (6, 32, 1, 3))) := rfl
set_option maxRecDepth 100000 in
theorem y117_18 : iv_f1 (iv_p 117) 18 = some (.inl (iv_oIS 1 1)) := rfl
set_option maxRecDepth 100000 in
theorem y117_19 : iv_f1 (iv_p 117) 19 = some (.inl (iv_oA 0 1)) := rfl
set_option maxRecDepth 100000 in
theorem y117_20 : iv_f1 (iv_p 117) 20 = some (.inl (iv_oA 0 1)) := rfl
set_option maxRecDepth 100000 in
theorem y117_21 : iv_f1 (iv_p 117) 21 = some (.inl (iv_oGF 11 10)) := rfl
set_option maxRecDepth 100000 in
theorem y117_24 : iv_f1 (iv_p 117) 24 = some (.inl (iv_oGF 5 11)) := rfl
set_option maxRecDepth 100000 in
theorem y117_27 : iv_f1 (iv_p 117) 27 = some (.inl (iv_oPF 11 2 .int)) := rfl
set_option maxRecDepth 100000 in
theorem y117_30 : iv_f1 (iv_p 117) 30 = some (.inl (iv_oI 1 1)) := rfl
set_option maxRecDepth 100000 in
theorem y117_31 : iv_f1 (iv_p 117) 31 = some (.inl (iv_oIf .ne (13))) := rfl
set_option maxRecDepth 100000 in
theorem y117_34 : iv_f1 (iv_p 117) 34 = some (.inl (iv_oK (.int (Int32.ofInt (-1))) 1)) := rfl
set_option maxRecDepth 100000 in
theorem y117_35 : iv_f1 (iv_p 117) 35 = some (.inl (iv_oA 0 1)) := rfl
set_option maxRecDepth 100000 in
theorem y117_36 : iv_f1 (iv_p 117) 36 = some (.inl (iv_oGF 11 10)) := rfl
set_option maxRecDepth 100000 in
theorem y117_39 : iv_f1 (iv_p 117) 39 = some (.inl (iv_oGF 5 12)) := rfl
set_option maxRecDepth 100000 in
theorem y117_42 : iv_f1 (iv_p 117) 42 = some (.inl (iv_oII fun x y => x - y)) := rfl
set_option maxRecDepth 100000 in
theorem y117_43 : iv_f1 (iv_p 117) 43 = some (.inr (.inl 1)) := rfl
set_option maxRecDepth 100000 in
theorem y117_44 : iv_f1 (iv_p 117) 44 = some (.inl (iv_oA 0 1)) := rfl
set_option maxRecDepth 100000 in
theorem y117_45 : iv_f1 (iv_p 117) 45 = some (.inl (iv_oGF 11 3)) := rfl
set_option maxRecDepth 100000 in
theorem y117_48 : iv_f1 (iv_p 117) 48 = some (.inl (iv_oA 0 1)) := rfl
set_option maxRecDepth 100000 in
theorem y117_49 : iv_f1 (iv_p 117) 49 = some (.inl (iv_oGF 11 4)) := rfl
set_option maxRecDepth 100000 in
theorem y117_52 : iv_f1 (iv_p 117) 52 = some (.inr (.inr (6, 25, 1, 3))) := rfl
set_option maxRecDepth 100000 in
theorem y117_55 : iv_f1 (iv_p 117) 55 = some (.inl (iv_oA 0 1)) := rfl
set_option maxRecDepth 100000 in
theorem y117_56 : iv_f1 (iv_p 117) 56 = some (.inl (iv_oGF 11 5)) := rfl
set_option maxRecDepth 100000 in
theorem y117_59 : iv_f1 (iv_p 117) 59 = some (.inr (.inr (6, 74, 0, 7))) := rfl
set_option maxRecDepth 100000 in
theorem y117_62 : iv_f1 (iv_p 117) 62 = some (.inl (iv_oA 0 1)) := rfl
set_option maxRecDepth 100000 in
theorem y117_63 : iv_f1 (iv_p 117) 63 = some (.inl (iv_oGF 11 7)) := rfl
set_option maxRecDepth 100000 in
theorem y117_66 : iv_f1 (iv_p 117) 66 = some (.inr (.inr (6, 60, 0, 6))) := rfl
set_option maxRecDepth 100000 in
theorem y117_69 : iv_f1 (iv_p 117) 69 = some (.inl (iv_oA 0 1)) := rfl
set_option maxRecDepth 100000 in
theorem y117_70 : iv_f1 (iv_p 117) 70 = some (.inl (iv_oGF 11 9)) := rfl
set_option maxRecDepth 100000 in
theorem y117_73 : iv_f1 (iv_p 117) 73 = some (.inr (.inr (6, 43, 0, 4))) := rfl
set_option maxRecDepth 100000 in
theorem y117_76 : iv_f1 (iv_p 117) 76 = some (.inl (iv_oA 0 1)) := rfl
set_option maxRecDepth 100000 in
theorem y117_77 : iv_f1 (iv_p 117) 77 = some (.inl (iv_oGF 11 3)) := rfl
set_option maxRecDepth 100000 in
theorem y117_80 : iv_f1 (iv_p 117) 80 = some (.inl (iv_oGF 3 0)) := rfl
set_option maxRecDepth 100000 in
theorem y117_83 : iv_f1 (iv_p 117) 83 = some (.inr (.inl 1)) := rfl
