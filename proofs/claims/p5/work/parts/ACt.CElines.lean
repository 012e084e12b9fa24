/-! ===== printed by wip/gen/y/ce.py: the lines of an order, by the class ===== -/
theorem yCD_fr {s : yS} {nb ng l : Nat} {D : Nat → Value} {σ σ1 : iv_H} (h : yCD s nb ng l D σ) (f : yFr [356] σ σ1) : yCD s nb ng l D σ1 := by
  obtain ⟨bn, bl, hd_, hl, gn, te, ed, ⟨g20, g22, g24, g26, g28, g30, g32, g34⟩, h2⟩ := h
  exact ⟨bn, bl, hd_, hl, gn, te, ed, ⟨yF_n f (by rfl) g20, yF_n f (by rfl) g22, yF_n f (by rfl) g24, yF_n f (by rfl) g26, yF_n f (by rfl) g28, yF_n f (by rfl) g30, yF_n f (by rfl) g32, yF_n f (by rfl) g34⟩, h2⟩
theorem y_ups {f : Nat → Int32} {i : Nat} {x : Int32} : upd f i x i = x := if_pos rfl
theorem y_oc (o : Option Nat) : o = none ∨ ∃ k, o = some k := by
  cases o with
  | none => exact .inl rfl
  | some k => exact .inr ⟨k, rfl⟩
def yK (x : Nat) : Prop := x ≤ 1000
def yNO (o : yE Unit) (b : Bool) (V1 : Nat → Value) (σ σ1 : iv_H) : Prop := match o with
  | .inl e => b = false ∧ yCB e V1 σ1
  | .inr _ => b = true ∧ σ1 = σ
def yAO (o : yE Nat) (x : Int32) (V1 : Nat → Value) (σ σ1 : iv_H) : Prop := match o with
  | .inl e => x = Int32.ofInt (-1) ∧ yCB e V1 σ1
  | .inr k => x = Int32.ofNat k ∧ σ1 = σ
section YNO
variable {V1 : Nat → Value} {σ σ1 : iv_H} {e : Nat × Nat}
theorem yNO_bad {o : yE Unit} (sp : o = .inl e) (h : yCB e V1 σ1) : yNO o false V1 σ σ1 := by
  subst sp
  exact And.intro rfl h
theorem yNO_good {o : yE Unit} (sp : o = .inr ()) : yNO o true V1 σ σ := by
  subst sp
  exact And.intro rfl rfl
theorem yAO_bad {o : yE Nat} {x : Int32} (sp : o = .inl e) (hx : x = Int32.ofInt (-1)) (h : yCB e V1 σ1) : yAO o x V1 σ σ1 := by
  subst sp
  exact And.intro hx h
theorem yAO_good {o : yE Nat} {x : Int32} {k : Nat} (sp : o = .inr k) (hx : x = Int32.ofNat k) : yAO o x V1 σ σ := by
  subst sp
  exact And.intro hx rfl
end YNO
set_option maxRecDepth 100000 in
theorem y36_0 : iv_f1 (iv_p 36) 0 = some (.inl (iv_oA 1 1)) := rfl
set_option maxRecDepth 100000 in
theorem y36_1 : iv_f1 (iv_p 36) 1 = some (.inr (.inr (6, 54, 0, 5))) := rfl
set_option maxRecDepth 100000 in
theorem y36_4 : iv_f1 (iv_p 36) 4 = some (.inl (iv_oIf .ne (9))) := rfl
set_option maxRecDepth 100000 in
theorem y36_7 : iv_f1 (iv_p 36) 7 = some (.inl (iv_oA 1 1)) := rfl
set_option maxRecDepth 100000 in
theorem y36_8 : iv_f1 (iv_p 36) 8 = some (.inl (iv_oK (.int (Int32.ofNat 1)) 1)) := rfl
set_option maxRecDepth 100000 in
theorem y36_9 : iv_f1 (iv_p 36) 9 = some (.inr (.inr (6, 56, 1, 5))) := rfl
set_option maxRecDepth 100000 in
theorem y36_12 : iv_f1 (iv_p 36) 12 = some (.inr (.inl 2)) := rfl
set_option maxRecDepth 100000 in
theorem y36_13 : iv_f1 (iv_p 36) 13 = some (.inl (iv_oA 0 1)) := rfl
set_option maxRecDepth 100000 in
theorem y36_14 : iv_f1 (iv_p 36) 14 = some (.inl (iv_oA 1 1)) := rfl
set_option maxRecDepth 100000 in
theorem y36_15 : iv_f1 (iv_p 36) 15 = some (.inl (iv_oGF 5 10)) := rfl
set_option maxRecDepth 100000 in
theorem y36_18 : iv_f1 (iv_p 36) 18 = some (.inr (.inr (6, 28, 1, 3))) := rfl
set_option maxRecDepth 100000 in
theorem y36_21 : iv_f1 (iv_p 36) 21 = some (.inl (iv_oK (.int (Int32.ofInt (-1))) 1)) := rfl
set_option maxRecDepth 100000 in
theorem y36_22 : iv_f1 (iv_p 36) 22 = some (.inl (iv_oIc .ne (15))) := rfl
set_option maxRecDepth 100000 in
theorem y36_25 : iv_f1 (iv_p 36) 25 = some (.inl (iv_oA 0 1)) := rfl
set_option maxRecDepth 100000 in
theorem y36_26 : iv_f1 (iv_p 36) 26 = some (.inl (iv_oA 1 1)) := rfl
set_option maxRecDepth 100000 in
theorem y36_27 : iv_f1 (iv_p 36) 27 = some (.inl (iv_oGF 5 10)) := rfl
set_option maxRecDepth 100000 in
theorem y36_30 : iv_f1 (iv_p 36) 30 = some (.inr (.inr (6, 29, 1, 3))) := rfl
set_option maxRecDepth 100000 in
theorem y36_33 : iv_f1 (iv_p 36) 33 = some (.inl (iv_oK (.int (Int32.ofInt (-1))) 1)) := rfl
set_option maxRecDepth 100000 in
theorem y36_34 : iv_f1 (iv_p 36) 34 = some (.inl (iv_oIc .eq (9))) := rfl
set_option maxRecDepth 100000 in
theorem y36_37 : iv_f1 (iv_p 36) 37 = some (.inl (iv_oA 1 1)) := rfl
set_option maxRecDepth 100000 in
theorem y36_38 : iv_f1 (iv_p 36) 38 = some (.inl (iv_oK (.int (Int32.ofNat 3)) 1)) := rfl
set_option maxRecDepth 100000 in
theorem y36_39 : iv_f1 (iv_p 36) 39 = some (.inr (.inr (6, 56, 1, 5))) := rfl
set_option maxRecDepth 100000 in
theorem y36_42 : iv_f1 (iv_p 36) 42 = some (.inr (.inl 2)) := rfl
set_option maxRecDepth 100000 in
theorem y36_43 : iv_f1 (iv_p 36) 43 = some (.inl (iv_oK (.int (Int32.ofNat 1)) 1)) := rfl
set_option maxRecDepth 100000 in
theorem y36_44 : iv_f1 (iv_p 36) 44 = some (.inr (.inl 2)) := rfl
theorem yd_new {L : Nat} {xs : Nat → Int32} {d : Nat} {T : Nat → Nat} {n m p nb ng l : Nat} {s : yS} {V D : Nat → Value} {σ : iv_H} (hd : 1 ≤ d) (hm : m ≤ 900) (hT : ∀ i, T i ≤ 255) (hC : yCM T n m p V σ) (hD : yCD s nb ng l D σ) (hn : yCn s nb ng) : ∃ b σ1 V1, iv_Rn L xs d 36 0 (lv_args 0 [.ref 20, .ref 356]) [] σ (some (.int (yb b))) σ1 ∧ yNO (yNw T n m nb ng s p) b V1 σ σ1 ∧ yFr [356] σ σ1 := by
  obtain ⟨d, rfl⟩ : ∃ e, d = e + 1 := ⟨d - 1, by omega⟩
  refine y_Rb ?_
  obtain ⟨⟨hb, hg⟩, hb7, hg6⟩ := id hn
  obtain ⟨bn, bl, hd_, hl, gn, te, ed, ⟨g20, g22, g24, g26, g28, g30, g32, g34⟩, ⟨d9, d10, d11, d12, d13, d14, d15⟩, ⟨d0, d1, d2⟩, ⟨d3, d4, d5, d6, d7, d8⟩, hN, hH⟩ := id hD
  have hv := yCM_v hT hC
  refine w_A y36_0 rfl ?_
  refine y_call y36_1 (y_args6 (yCM_g hC) rfl rfl) rfl (yc_nmE hv (yCM_g hC)) ?_
  rcases y_bc (yisN T n m p) with b174 | b174
  · skip
    refine w_ifF y36_4 rfl (y_bneF b174) ?_
    refine w_A y36_7 rfl ?_
    refine w_K y36_8 ?_
    obtain ⟨σ175, r175, V175, h175, f175⟩ := yc_rfE (L := L) (xs := xs) (d := d) (k := 1) hv (yCM_g hC) (.inr rfl)
    refine y_call y36_9 (y_args6 (yCM_g hC) rfl rfl) rfl r175 ?_
    have sp : yNw T n m nb ng s p = .inl (ybd T n m p 1) := by unfold yNw; rw [if_neg (by rw [b174]; decide)]
    exact y_ret y36_12 rfl ⟨false, _, rfl, yNO_bad sp h175, (yF_sub (by rfl) f175)⟩
  · skip
    refine w_ifT y36_4 rfl (y_bneT b174) ?_
    refine w_A y36_13 rfl ?_
    refine w_A y36_14 rfl ?_
    obtain ⟨v176, c10_176, hval176⟩ := yCv_val hv
    refine y_gf y36_15 (yCM_g hC) rfl c10_176 ?_
    refine y_call y36_18 (y_args6 g20 rfl rfl) rfl (yd_bn (by omega) g20 g22 d1 d9) ?_
    rw [yfB_rel hN hval176 (yisN_k b174)]
    refine w_K y36_21 ?_
    rcases y_oc (yfs T n s.2.1 0 nb p) with o177 | ⟨io177, o177⟩
    · skip
      refine w_icF y36_22 rfl (y_onN o177) ?_
      refine w_A y36_25 rfl ?_
      refine w_A y36_26 rfl ?_
      refine y_gf y36_27 (yCM_g hC) rfl c10_176 ?_
      refine y_call y36_30 (y_args6 g20 rfl rfl) rfl (yd_gn (by omega) g20 g30 d2 d13) ?_
      rw [yfG_rel hN hval176 (yisN_k b174)]
      refine w_K y36_33 ?_
      rcases y_oc (yfs T n s.2.1 7 ng p) with o178 | ⟨io178, o178⟩
      · skip
        refine w_icT y36_34 rfl (y_oeN o178) ?_
        refine w_K y36_43 ?_
        have sp : yNw T n m nb ng s p = .inr () := by unfold yNw; rw [if_pos b174, if_pos ⟨o177, o178⟩]
        exact y_ret y36_44 rfl ⟨true, V, rfl, yNO_good sp, yF_rf⟩
      · skip
        refine w_icF y36_34 rfl (y_oeS o178 (by have := yfi_lt o178; omega)) ?_
        refine w_A y36_37 rfl ?_
        refine w_K y36_38 ?_
        obtain ⟨σ179, r179, V179, h179, f179⟩ := yc_rfE (L := L) (xs := xs) (d := d) (k := 3) hv (yCM_g hC) (.inl (by rw [(yisN_k b174)]; decide))
        refine y_call y36_39 (y_args6 (yCM_g hC) rfl rfl) rfl r179 ?_
        have sp : yNw T n m nb ng s p = .inl (ybd T n m p 3) := by unfold yNw; rw [if_pos b174, if_neg (fun h => by rw [o178] at h; cases h.2)]
        exact y_ret y36_42 rfl ⟨false, _, rfl, yNO_bad sp h179, (yF_sub (by rfl) f179)⟩
    · skip
      refine w_icT y36_22 rfl (y_onS o177 (by have := yfi_lt o177; omega)) ?_
      refine w_A y36_37 rfl ?_
      refine w_K y36_38 ?_
      obtain ⟨σ180, r180, V180, h180, f180⟩ := yc_rfE (L := L) (xs := xs) (d := d) (k := 3) hv (yCM_g hC) (.inl (by rw [(yisN_k b174)]; decide))
      refine y_call y36_39 (y_args6 (yCM_g hC) rfl rfl) rfl r180 ?_
      have sp : yNw T n m nb ng s p = .inl (ybd T n m p 3) := by unfold yNw; rw [if_pos b174, if_neg (fun h => by rw [o177] at h; cases h.1)]
      exact y_ret y36_42 rfl ⟨false, _, rfl, yNO_bad sp h180, (yF_sub (by rfl) f180)⟩
set_option maxRecDepth 100000 in
theorem y30_0 : iv_f1 (iv_p 30) 0 = some (.inl (iv_oA 1 1)) := rfl
set_option maxRecDepth 100000 in
theorem y30_1 : iv_f1 (iv_p 30) 1 = some (.inr (.inr (6, 54, 0, 5))) := rfl
set_option maxRecDepth 100000 in
theorem y30_4 : iv_f1 (iv_p 30) 4 = some (.inl (iv_oIf .eq (14))) := rfl
set_option maxRecDepth 100000 in
theorem y30_7 : iv_f1 (iv_p 30) 7 = some (.inl (iv_oA 0 1)) := rfl
set_option maxRecDepth 100000 in
theorem y30_8 : iv_f1 (iv_p 30) 8 = some (.inl (iv_oA 1 1)) := rfl
set_option maxRecDepth 100000 in
theorem y30_9 : iv_f1 (iv_p 30) 9 = some (.inl (iv_oGF 5 10)) := rfl
set_option maxRecDepth 100000 in
theorem y30_12 : iv_f1 (iv_p 30) 12 = some (.inr (.inr (6, 28, 1, 3))) := rfl
set_option maxRecDepth 100000 in
theorem y30_15 : iv_f1 (iv_p 30) 15 = some (.inl (iv_oGo (4))) := rfl
set_option maxRecDepth 100000 in
theorem y30_18 : iv_f1 (iv_p 30) 18 = some (.inl (iv_oK (.int (Int32.ofInt (-1))) 1)) := rfl
set_option maxRecDepth 100000 in
theorem y30_19 : iv_f1 (iv_p 30) 19 = some (.inl (iv_oIS 2 1)) := rfl
set_option maxRecDepth 100000 in
theorem y30_20 : iv_f1 (iv_p 30) 20 = some (.inl (iv_oI 2 1)) := rfl
set_option maxRecDepth 100000 in
theorem y30_21 : iv_f1 (iv_p 30) 21 = some (.inl (iv_oK (.int (Int32.ofInt (-1))) 1)) := rfl
set_option maxRecDepth 100000 in
theorem y30_22 : iv_f1 (iv_p 30) 22 = some (.inl (iv_oIc .ne (20))) := rfl
set_option maxRecDepth 100000 in
theorem y30_25 : iv_f1 (iv_p 30) 25 = some (.inl (iv_oA 1 1)) := rfl
set_option maxRecDepth 100000 in
theorem y30_26 : iv_f1 (iv_p 30) 26 = some (.inl (iv_oA 1 1)) := rfl
set_option maxRecDepth 100000 in
theorem y30_27 : iv_f1 (iv_p 30) 27 = some (.inr (.inr (6, 54, 0, 5))) := rfl
set_option maxRecDepth 100000 in
theorem y30_30 : iv_f1 (iv_p 30) 30 = some (.inl (iv_oIf .eq (7))) := rfl
set_option maxRecDepth 100000 in
theorem y30_33 : iv_f1 (iv_p 30) 33 = some (.inl (iv_oK (.int (Int32.ofNat 3)) 1)) := rfl
set_option maxRecDepth 100000 in
theorem y30_34 : iv_f1 (iv_p 30) 34 = some (.inl (iv_oGo (4))) := rfl
set_option maxRecDepth 100000 in
theorem y30_37 : iv_f1 (iv_p 30) 37 = some (.inl (iv_oK (.int (Int32.ofNat 1)) 1)) := rfl
set_option maxRecDepth 100000 in
theorem y30_38 : iv_f1 (iv_p 30) 38 = some (.inr (.inr (6, 56, 1, 5))) := rfl
set_option maxRecDepth 100000 in
theorem y30_41 : iv_f1 (iv_p 30) 41 = some (.inl iv_oPop) := rfl
set_option maxRecDepth 100000 in
theorem y30_42 : iv_f1 (iv_p 30) 42 = some (.inl (iv_oI 2 1)) := rfl
set_option maxRecDepth 100000 in
theorem y30_43 : iv_f1 (iv_p 30) 43 = some (.inr (.inl 1)) := rfl
theorem yd_ba {L : Nat} {xs : Nat → Int32} {d : Nat} {T : Nat → Nat} {n m p nb ng l : Nat} {s : yS} {V D : Nat → Value} {σ : iv_H} (hd : 1 ≤ d) (hm : m ≤ 900) (hT : ∀ i, T i ≤ 255) (hC : yCM T n m p V σ) (hD : yCD s nb ng l D σ) (hn : yCn s nb ng) : ∃ x σ1 V1, iv_Rn L xs d 30 0 (lv_args 0 [.ref 20, .ref 356]) [] σ (some (.int x)) σ1 ∧ yAO (yOne T n m 0 nb s p) x V1 σ σ1 ∧ yFr [356] σ σ1 := by
  obtain ⟨d, rfl⟩ : ∃ e, d = e + 1 := ⟨d - 1, by omega⟩
  refine y_Ri ?_
  obtain ⟨⟨hb, hg⟩, hb7, hg6⟩ := id hn
  obtain ⟨bn, bl, hd_, hl, gn, te, ed, ⟨g20, g22, g24, g26, g28, g30, g32, g34⟩, ⟨d9, d10, d11, d12, d13, d14, d15⟩, ⟨d0, d1, d2⟩, ⟨d3, d4, d5, d6, d7, d8⟩, hN, hH⟩ := id hD
  have hv := yCM_v hT hC
  refine w_A y30_0 rfl ?_
  refine y_call y30_1 (y_args6 (yCM_g hC) rfl rfl) rfl (yc_nmE hv (yCM_g hC)) ?_
  rcases y_bc (yisN T n m p) with b181 | b181
  · skip
    refine w_ifT y30_4 rfl (y_beqT b181) ?_
    refine w_K y30_18 ?_
    refine w_IS y30_19 ?_
    refine w_I y30_20 rfl ?_
    refine w_K y30_21 ?_
    refine w_icF y30_22 rfl (by decide) ?_
    refine w_A y30_25 rfl ?_
    refine w_A y30_26 rfl ?_
    refine y_call y30_27 (y_args6 (yCM_g hC) rfl rfl) rfl (yc_nmE hv (yCM_g hC)) ?_
    refine w_ifT y30_30 rfl (y_beqT b181) ?_
    refine w_K y30_37 ?_
    obtain ⟨σ182, r182, V182, h182, f182⟩ := yc_rfE (L := L) (xs := xs) (d := d) (k := 1) hv (yCM_g hC) (.inr rfl)
    refine y_call y30_38 (y_args6 (yCM_g hC) rfl rfl) rfl r182 ?_
    refine y_pop y30_41 rfl ?_
    refine w_I y30_42 rfl ?_
    have sp : yOne T n m 0 nb s p = .inl (ybd T n m p 1) := by unfold yOne; rw [if_neg (by rw [b181]; decide)]
    exact y_ret y30_43 rfl ⟨_, _, rfl, yAO_bad sp rfl h182, (yF_sub (by rfl) f182)⟩
  · skip
    refine w_ifF y30_4 rfl (y_beqF b181) ?_
    refine w_A y30_7 rfl ?_
    refine w_A y30_8 rfl ?_
    obtain ⟨v183, c10_183, hval183⟩ := yCv_val hv
    refine y_gf y30_9 (yCM_g hC) rfl c10_183 ?_
    refine y_call y30_12 (y_args6 g20 rfl rfl) rfl (yd_bn (by omega) g20 g22 d1 d9) ?_
    rw [yfB_rel hN hval183 (yisN_k b181)]
    refine w_go y30_15 rfl ?_
    refine w_IS y30_19 ?_
    refine w_I y30_20 rfl ?_
    refine w_K y30_21 ?_
    rcases y_oc (yfs T n s.2.1 0 nb p) with o184 | ⟨io184, o184⟩
    · skip
      refine w_icF y30_22 rfl (y_onN o184) ?_
      refine w_A y30_25 rfl ?_
      refine w_A y30_26 rfl ?_
      refine y_call y30_27 (y_args6 (yCM_g hC) rfl rfl) rfl (yc_nmE hv (yCM_g hC)) ?_
      refine w_ifF y30_30 rfl (y_beqF b181) ?_
      refine w_K y30_33 ?_
      refine w_go y30_34 rfl ?_
      obtain ⟨σ185, r185, V185, h185, f185⟩ := yc_rfE (L := L) (xs := xs) (d := d) (k := 3) hv (yCM_g hC) (.inl (by rw [(yisN_k b181)]; decide))
      refine y_call y30_38 (y_args6 (yCM_g hC) rfl rfl) rfl r185 ?_
      refine y_pop y30_41 rfl ?_
      refine w_I y30_42 rfl ?_
      have sp : yOne T n m 0 nb s p = .inl (ybd T n m p 3) := by unfold yOne; rw [if_pos b181, o184]
      exact y_ret y30_43 rfl ⟨_, _, rfl, yAO_bad sp (congrArg yo o184) h185, (yF_sub (by rfl) f185)⟩
    · skip
      refine w_icT y30_22 rfl (y_onS o184 (by have := yfi_lt o184; omega)) ?_
      refine w_I y30_42 rfl ?_
      have sp : yOne T n m 0 nb s p = .inr io184 := by unfold yOne; rw [if_pos b181, o184]
      exact y_ret y30_43 rfl ⟨_, V, rfl, yAO_good sp (congrArg yo o184), yF_rf⟩
set_option maxRecDepth 100000 in
theorem y31_0 : iv_f1 (iv_p 31) 0 = some (.inl (iv_oA 1 1)) := rfl
set_option maxRecDepth 100000 in
theorem y31_1 : iv_f1 (iv_p 31) 1 = some (.inr (.inr (6, 54, 0, 5))) := rfl
set_option maxRecDepth 100000 in
theorem y31_4 : iv_f1 (iv_p 31) 4 = some (.inl (iv_oIf .eq (14))) := rfl
set_option maxRecDepth 100000 in
theorem y31_7 : iv_f1 (iv_p 31) 7 = some (.inl (iv_oA 0 1)) := rfl
set_option maxRecDepth 100000 in
theorem y31_8 : iv_f1 (iv_p 31) 8 = some (.inl (iv_oA 1 1)) := rfl
set_option maxRecDepth 100000 in
theorem y31_9 : iv_f1 (iv_p 31) 9 = some (.inl (iv_oGF 5 10)) := rfl
set_option maxRecDepth 100000 in
theorem y31_12 : iv_f1 (iv_p 31) 12 = some (.inr (.inr (6, 29, 1, 3))) := rfl
set_option maxRecDepth 100000 in
theorem y31_15 : iv_f1 (iv_p 31) 15 = some (.inl (iv_oGo (4))) := rfl
set_option maxRecDepth 100000 in
theorem y31_18 : iv_f1 (iv_p 31) 18 = some (.inl (iv_oK (.int (Int32.ofInt (-1))) 1)) := rfl
set_option maxRecDepth 100000 in
theorem y31_19 : iv_f1 (iv_p 31) 19 = some (.inl (iv_oIS 2 1)) := rfl
set_option maxRecDepth 100000 in
theorem y31_20 : iv_f1 (iv_p 31) 20 = some (.inl (iv_oI 2 1)) := rfl
set_option maxRecDepth 100000 in
theorem y31_21 : iv_f1 (iv_p 31) 21 = some (.inl (iv_oK (.int (Int32.ofInt (-1))) 1)) := rfl
set_option maxRecDepth 100000 in
theorem y31_22 : iv_f1 (iv_p 31) 22 = some (.inl (iv_oIc .ne (20))) := rfl
set_option maxRecDepth 100000 in
theorem y31_25 : iv_f1 (iv_p 31) 25 = some (.inl (iv_oA 1 1)) := rfl
set_option maxRecDepth 100000 in
theorem y31_26 : iv_f1 (iv_p 31) 26 = some (.inl (iv_oA 1 1)) := rfl
set_option maxRecDepth 100000 in
theorem y31_27 : iv_f1 (iv_p 31) 27 = some (.inr (.inr (6, 54, 0, 5))) := rfl
set_option maxRecDepth 100000 in
theorem y31_30 : iv_f1 (iv_p 31) 30 = some (.inl (iv_oIf .eq (7))) := rfl
set_option maxRecDepth 100000 in
theorem y31_33 : iv_f1 (iv_p 31) 33 = some (.inl (iv_oK (.int (Int32.ofNat 3)) 1)) := rfl
set_option maxRecDepth 100000 in
theorem y31_34 : iv_f1 (iv_p 31) 34 = some (.inl (iv_oGo (4))) := rfl
set_option maxRecDepth 100000 in
theorem y31_37 : iv_f1 (iv_p 31) 37 = some (.inl (iv_oK (.int (Int32.ofNat 1)) 1)) := rfl
set_option maxRecDepth 100000 in
theorem y31_38 : iv_f1 (iv_p 31) 38 = some (.inr (.inr (6, 56, 1, 5))) := rfl
set_option maxRecDepth 100000 in
theorem y31_41 : iv_f1 (iv_p 31) 41 = some (.inl iv_oPop) := rfl
set_option maxRecDepth 100000 in
theorem y31_42 : iv_f1 (iv_p 31) 42 = some (.inl (iv_oI 2 1)) := rfl
set_option maxRecDepth 100000 in
theorem y31_43 : iv_f1 (iv_p 31) 43 = some (.inr (.inl 1)) := rfl
theorem yd_ga {L : Nat} {xs : Nat → Int32} {d : Nat} {T : Nat → Nat} {n m p nb ng l : Nat} {s : yS} {V D : Nat → Value} {σ : iv_H} (hd : 1 ≤ d) (hm : m ≤ 900) (hT : ∀ i, T i ≤ 255) (hC : yCM T n m p V σ) (hD : yCD s nb ng l D σ) (hn : yCn s nb ng) : ∃ x σ1 V1, iv_Rn L xs d 31 0 (lv_args 0 [.ref 20, .ref 356]) [] σ (some (.int x)) σ1 ∧ yAO (yOne T n m 7 ng s p) x V1 σ σ1 ∧ yFr [356] σ σ1 := by
  obtain ⟨d, rfl⟩ : ∃ e, d = e + 1 := ⟨d - 1, by omega⟩
  refine y_Ri ?_
  obtain ⟨⟨hb, hg⟩, hb7, hg6⟩ := id hn
  obtain ⟨bn, bl, hd_, hl, gn, te, ed, ⟨g20, g22, g24, g26, g28, g30, g32, g34⟩, ⟨d9, d10, d11, d12, d13, d14, d15⟩, ⟨d0, d1, d2⟩, ⟨d3, d4, d5, d6, d7, d8⟩, hN, hH⟩ := id hD
  have hv := yCM_v hT hC
  refine w_A y31_0 rfl ?_
  refine y_call y31_1 (y_args6 (yCM_g hC) rfl rfl) rfl (yc_nmE hv (yCM_g hC)) ?_
  rcases y_bc (yisN T n m p) with b186 | b186
  · skip
    refine w_ifT y31_4 rfl (y_beqT b186) ?_
    refine w_K y31_18 ?_
    refine w_IS y31_19 ?_
    refine w_I y31_20 rfl ?_
    refine w_K y31_21 ?_
    refine w_icF y31_22 rfl (by decide) ?_
    refine w_A y31_25 rfl ?_
    refine w_A y31_26 rfl ?_
    refine y_call y31_27 (y_args6 (yCM_g hC) rfl rfl) rfl (yc_nmE hv (yCM_g hC)) ?_
    refine w_ifT y31_30 rfl (y_beqT b186) ?_
    refine w_K y31_37 ?_
    obtain ⟨σ187, r187, V187, h187, f187⟩ := yc_rfE (L := L) (xs := xs) (d := d) (k := 1) hv (yCM_g hC) (.inr rfl)
    refine y_call y31_38 (y_args6 (yCM_g hC) rfl rfl) rfl r187 ?_
    refine y_pop y31_41 rfl ?_
    refine w_I y31_42 rfl ?_
    have sp : yOne T n m 7 ng s p = .inl (ybd T n m p 1) := by unfold yOne; rw [if_neg (by rw [b186]; decide)]
    exact y_ret y31_43 rfl ⟨_, _, rfl, yAO_bad sp rfl h187, (yF_sub (by rfl) f187)⟩
  · skip
    refine w_ifF y31_4 rfl (y_beqF b186) ?_
    refine w_A y31_7 rfl ?_
    refine w_A y31_8 rfl ?_
    obtain ⟨v188, c10_188, hval188⟩ := yCv_val hv
    refine y_gf y31_9 (yCM_g hC) rfl c10_188 ?_
    refine y_call y31_12 (y_args6 g20 rfl rfl) rfl (yd_gn (by omega) g20 g30 d2 d13) ?_
    rw [yfG_rel hN hval188 (yisN_k b186)]
    refine w_go y31_15 rfl ?_
    refine w_IS y31_19 ?_
    refine w_I y31_20 rfl ?_
    refine w_K y31_21 ?_
    rcases y_oc (yfs T n s.2.1 7 ng p) with o189 | ⟨io189, o189⟩
    · skip
      refine w_icF y31_22 rfl (y_onN o189) ?_
      refine w_A y31_25 rfl ?_
      refine w_A y31_26 rfl ?_
      refine y_call y31_27 (y_args6 (yCM_g hC) rfl rfl) rfl (yc_nmE hv (yCM_g hC)) ?_
      refine w_ifF y31_30 rfl (y_beqF b186) ?_
      refine w_K y31_33 ?_
      refine w_go y31_34 rfl ?_
      obtain ⟨σ190, r190, V190, h190, f190⟩ := yc_rfE (L := L) (xs := xs) (d := d) (k := 3) hv (yCM_g hC) (.inl (by rw [(yisN_k b186)]; decide))
      refine y_call y31_38 (y_args6 (yCM_g hC) rfl rfl) rfl r190 ?_
      refine y_pop y31_41 rfl ?_
      refine w_I y31_42 rfl ?_
      have sp : yOne T n m 7 ng s p = .inl (ybd T n m p 3) := by unfold yOne; rw [if_pos b186, o189]
      exact y_ret y31_43 rfl ⟨_, _, rfl, yAO_bad sp (congrArg yo o189) h190, (yF_sub (by rfl) f190)⟩
    · skip
      refine w_icT y31_22 rfl (y_onS o189 (by have := yfi_lt o189; omega)) ?_
      refine w_I y31_42 rfl ?_
      have sp : yOne T n m 7 ng s p = .inr io189 := by unfold yOne; rw [if_pos b186, o189]
      exact y_ret y31_43 rfl ⟨_, V, rfl, yAO_good sp (congrArg yo o189), yF_rf⟩
set_option maxRecDepth 100000 in
theorem y34_0 : iv_f1 (iv_p 34) 0 = some (.inl (iv_oA 0 1)) := rfl
set_option maxRecDepth 100000 in
theorem y34_1 : iv_f1 (iv_p 34) 1 = some (.inl (iv_oGF 3 1)) := rfl
set_option maxRecDepth 100000 in
theorem y34_4 : iv_f1 (iv_p 34) 4 = some (.inl (iv_oK (.int (Int32.ofNat 7)) 2)) := rfl
set_option maxRecDepth 100000 in
theorem y34_6 : iv_f1 (iv_p 34) 6 = some (.inl (iv_oIc .lt (9))) := rfl
set_option maxRecDepth 100000 in
theorem y34_9 : iv_f1 (iv_p 34) 9 = some (.inl (iv_oA 1 1)) := rfl
set_option maxRecDepth 100000 in
theorem y34_10 : iv_f1 (iv_p 34) 10 = some (.inl (iv_oK (.int (Int32.ofNat 4)) 1)) := rfl
set_option maxRecDepth 100000 in
theorem y34_11 : iv_f1 (iv_p 34) 11 = some (.inr (.inr (6, 56, 1, 5))) := rfl
set_option maxRecDepth 100000 in
theorem y34_14 : iv_f1 (iv_p 34) 14 = some (.inr (.inl 2)) := rfl
set_option maxRecDepth 100000 in
theorem y34_15 : iv_f1 (iv_p 34) 15 = some (.inl (iv_oA 1 1)) := rfl
set_option maxRecDepth 100000 in
theorem y34_16 : iv_f1 (iv_p 34) 16 = some (.inr (.inr (6, 52, 0, 5))) := rfl
set_option maxRecDepth 100000 in
theorem y34_19 : iv_f1 (iv_p 34) 19 = some (.inl (iv_oA 0 1)) := rfl
set_option maxRecDepth 100000 in
theorem y34_20 : iv_f1 (iv_p 34) 20 = some (.inl (iv_oA 1 1)) := rfl
set_option maxRecDepth 100000 in
theorem y34_21 : iv_f1 (iv_p 34) 21 = some (.inr (.inr (6, 36, 1, 3))) := rfl
set_option maxRecDepth 100000 in
theorem y34_24 : iv_f1 (iv_p 34) 24 = some (.inl (iv_oIf .ne (5))) := rfl
set_option maxRecDepth 100000 in
theorem y34_27 : iv_f1 (iv_p 34) 27 = some (.inl (iv_oK (.int (Int32.ofNat 0)) 1)) := rfl
set_option maxRecDepth 100000 in
theorem y34_28 : iv_f1 (iv_p 34) 28 = some (.inr (.inl 2)) := rfl
set_option maxRecDepth 100000 in
theorem y34_29 : iv_f1 (iv_p 34) 29 = some (.inl (iv_oA 0 1)) := rfl
set_option maxRecDepth 100000 in
theorem y34_30 : iv_f1 (iv_p 34) 30 = some (.inl (iv_oGF 3 9)) := rfl
set_option maxRecDepth 100000 in
theorem y34_33 : iv_f1 (iv_p 34) 33 = some (.inl (iv_oA 0 1)) := rfl
set_option maxRecDepth 100000 in
theorem y34_34 : iv_f1 (iv_p 34) 34 = some (.inl (iv_oGF 3 1)) := rfl
set_option maxRecDepth 100000 in
theorem y34_37 : iv_f1 (iv_p 34) 37 = some (.inl (iv_oA 1 1)) := rfl
set_option maxRecDepth 100000 in
theorem y34_38 : iv_f1 (iv_p 34) 38 = some (.inl (iv_oGF 5 10)) := rfl
set_option maxRecDepth 100000 in
theorem y34_41 : iv_f1 (iv_p 34) 41 = some (.inl iv_oJst) := rfl
set_option maxRecDepth 100000 in
theorem y34_42 : iv_f1 (iv_p 34) 42 = some (.inl (iv_oA 1 1)) := rfl
set_option maxRecDepth 100000 in
theorem y34_43 : iv_f1 (iv_p 34) 43 = some (.inr (.inr (6, 52, 0, 5))) := rfl
set_option maxRecDepth 100000 in
theorem y34_46 : iv_f1 (iv_p 34) 46 = some (.inl (iv_oA 0 1)) := rfl
set_option maxRecDepth 100000 in
theorem y34_47 : iv_f1 (iv_p 34) 47 = some (.inl (iv_oGF 3 10)) := rfl
set_option maxRecDepth 100000 in
theorem y34_50 : iv_f1 (iv_p 34) 50 = some (.inl (iv_oA 0 1)) := rfl
set_option maxRecDepth 100000 in
theorem y34_51 : iv_f1 (iv_p 34) 51 = some (.inl (iv_oGF 3 1)) := rfl
set_option maxRecDepth 100000 in
theorem y34_54 : iv_f1 (iv_p 34) 54 = some (.inl (iv_oA 1 1)) := rfl
set_option maxRecDepth 100000 in
theorem y34_55 : iv_f1 (iv_p 34) 55 = some (.inl (iv_oK (.int (Int32.ofNat 1)) 1)) := rfl
set_option maxRecDepth 100000 in
theorem y34_56 : iv_f1 (iv_p 34) 56 = some (.inl (iv_oK (.int (Int32.ofNat 240)) 3)) := rfl
set_option maxRecDepth 100000 in
theorem y34_59 : iv_f1 (iv_p 34) 59 = some (.inr (.inr (6, 58, 2, 5))) := rfl
set_option maxRecDepth 100000 in
theorem y34_62 : iv_f1 (iv_p 34) 62 = some (.inl iv_oIst) := rfl
set_option maxRecDepth 100000 in
theorem y34_63 : iv_f1 (iv_p 34) 63 = some (.inl (iv_oA 0 1)) := rfl
set_option maxRecDepth 100000 in
theorem y34_64 : iv_f1 (iv_p 34) 64 = some (.inl (iv_oGF 3 10)) := rfl
set_option maxRecDepth 100000 in
theorem y34_67 : iv_f1 (iv_p 34) 67 = some (.inl (iv_oA 0 1)) := rfl
set_option maxRecDepth 100000 in
theorem y34_68 : iv_f1 (iv_p 34) 68 = some (.inl (iv_oGF 3 1)) := rfl
set_option maxRecDepth 100000 in
theorem y34_71 : iv_f1 (iv_p 34) 71 = some (.inl iv_oIl) := rfl
set_option maxRecDepth 100000 in
theorem y34_72 : iv_f1 (iv_p 34) 72 = some (.inl (iv_oK (.int (Int32.ofInt (-1))) 1)) := rfl
set_option maxRecDepth 100000 in
theorem y34_73 : iv_f1 (iv_p 34) 73 = some (.inl (iv_oIc .ne (5))) := rfl
set_option maxRecDepth 100000 in
theorem y34_76 : iv_f1 (iv_p 34) 76 = some (.inl (iv_oK (.int (Int32.ofNat 0)) 1)) := rfl
set_option maxRecDepth 100000 in
theorem y34_77 : iv_f1 (iv_p 34) 77 = some (.inr (.inl 2)) := rfl
set_option maxRecDepth 100000 in
theorem y34_78 : iv_f1 (iv_p 34) 78 = some (.inl (iv_oA 0 1)) := rfl
set_option maxRecDepth 100000 in
theorem y34_79 : iv_f1 (iv_p 34) 79 = some (.inl (iv_oGF 3 11)) := rfl
set_option maxRecDepth 100000 in
theorem y34_82 : iv_f1 (iv_p 34) 82 = some (.inl (iv_oA 0 1)) := rfl
set_option maxRecDepth 100000 in
theorem y34_83 : iv_f1 (iv_p 34) 83 = some (.inl (iv_oGF 3 1)) := rfl
set_option maxRecDepth 100000 in
theorem y34_86 : iv_f1 (iv_p 34) 86 = some (.inl (iv_oA 1 1)) := rfl
set_option maxRecDepth 100000 in
theorem y34_87 : iv_f1 (iv_p 34) 87 = some (.inl (iv_oK (.int (Int32.ofNat 0)) 1)) := rfl
set_option maxRecDepth 100000 in
theorem y34_88 : iv_f1 (iv_p 34) 88 = some (.inl (iv_oK (.int (Int32.ofNat 5)) 1)) := rfl
set_option maxRecDepth 100000 in
theorem y34_89 : iv_f1 (iv_p 34) 89 = some (.inr (.inr (6, 58, 2, 5))) := rfl
set_option maxRecDepth 100000 in
theorem y34_92 : iv_f1 (iv_p 34) 92 = some (.inl iv_oIst) := rfl
set_option maxRecDepth 100000 in
theorem y34_93 : iv_f1 (iv_p 34) 93 = some (.inl (iv_oA 0 1)) := rfl
set_option maxRecDepth 100000 in
theorem y34_94 : iv_f1 (iv_p 34) 94 = some (.inl (iv_oGF 3 11)) := rfl
set_option maxRecDepth 100000 in
theorem y34_97 : iv_f1 (iv_p 34) 97 = some (.inl (iv_oA 0 1)) := rfl
set_option maxRecDepth 100000 in
theorem y34_98 : iv_f1 (iv_p 34) 98 = some (.inl (iv_oGF 3 1)) := rfl
set_option maxRecDepth 100000 in
theorem y34_101 : iv_f1 (iv_p 34) 101 = some (.inl iv_oIl) := rfl
set_option maxRecDepth 100000 in
theorem y34_102 : iv_f1 (iv_p 34) 102 = some (.inl (iv_oK (.int (Int32.ofInt (-1))) 1)) := rfl
set_option maxRecDepth 100000 in
theorem y34_103 : iv_f1 (iv_p 34) 103 = some (.inl (iv_oIc .ne (5))) := rfl
set_option maxRecDepth 100000 in
theorem y34_106 : iv_f1 (iv_p 34) 106 = some (.inl (iv_oK (.int (Int32.ofNat 0)) 1)) := rfl
set_option maxRecDepth 100000 in
theorem y34_107 : iv_f1 (iv_p 34) 107 = some (.inr (.inl 2)) := rfl
set_option maxRecDepth 100000 in
theorem y34_108 : iv_f1 (iv_p 34) 108 = some (.inl (iv_oA 0 1)) := rfl
set_option maxRecDepth 100000 in
theorem y34_109 : iv_f1 (iv_p 34) 109 = some (.inl iv_oDup) := rfl
set_option maxRecDepth 100000 in
theorem y34_110 : iv_f1 (iv_p 34) 110 = some (.inl (iv_oGF 3 1)) := rfl
set_option maxRecDepth 100000 in
theorem y34_113 : iv_f1 (iv_p 34) 113 = some (.inl (iv_oK (.int (Int32.ofNat 1)) 1)) := rfl
set_option maxRecDepth 100000 in
theorem y34_114 : iv_f1 (iv_p 34) 114 = some (.inl (iv_oII fun x y => x + y)) := rfl
set_option maxRecDepth 100000 in
theorem y34_115 : iv_f1 (iv_p 34) 115 = some (.inl (iv_oPF 3 1 .int)) := rfl
set_option maxRecDepth 100000 in
theorem y34_118 : iv_f1 (iv_p 34) 118 = some (.inl (iv_oK (.int (Int32.ofNat 1)) 1)) := rfl
set_option maxRecDepth 100000 in
theorem y34_119 : iv_f1 (iv_p 34) 119 = some (.inr (.inl 2)) := rfl
theorem yd_bro {L : Nat} {xs : Nat → Int32} {d : Nat} {T : Nat → Nat} {n m p nb ng l : Nat} {s : yS} {V D : Nat → Value} {σ : iv_H} (hd : 2 ≤ d) (hm : m ≤ 900) (hT : ∀ i, T i ≤ 255) (hC : yCM T n m p V σ) (hD : yCD s nb ng l D σ) (hn : yCn s nb ng) (hkw : ykd T n m p = 2) : ∃ b σ1 V1 D1, iv_Rn L xs d 34 0 (lv_args 0 [.ref 20, .ref 356]) [] σ (some (.int (yb b))) σ1 ∧ yDO T n m l (yTwo T n m nb ng 0 7 nb (5 + nb) 1 240 (12 + nb) 0 5 nb s p) b V1 D1 σ1 ∧ yFr [356, 20, 22, 24, 26, 28, 30, 32, 34] σ σ1 := by
  obtain ⟨d, rfl⟩ : ∃ e, d = e + 2 := ⟨d - 2, by omega⟩
  refine y_Rd ?_
  obtain ⟨⟨hb, hg⟩, hb7, hg6⟩ := id hn
  obtain ⟨bn, bl, hd_, hl, gn, te, ed, ⟨g20, g22, g24, g26, g28, g30, g32, g34⟩, ⟨d9, d10, d11, d12, d13, d14, d15⟩, ⟨d0, d1, d2⟩, ⟨d3, d4, d5, d6, d7, d8⟩, hN, hH⟩ := id hD
  have hv := yCM_v hT hC
  refine w_A y34_0 rfl ?_
  refine y_gf y34_1 g20 rfl d1 ?_
  refine w_K y34_4 ?_
  by_cases c191 : nb < 7
  · skip
    refine y_icT y34_6 rfl (by omega) (by omega) (by simp only [zch]; omega) ?_
    refine w_A y34_15 rfl ?_
    obtain ⟨σ192, r192, V192, h192, f192⟩ := yc_go (L := L) (xs := xs) (d := d + 1) hm hC (Nat.le_of_eq (hkw).symm)
    refine y_call0 y34_16 (y_args6 (yCM_g hC) rfl rfl) rfl r192 ?_
    have hv192 := yCM_v hT h192
    refine w_A y34_19 rfl ?_
    refine w_A y34_20 rfl ?_
    have hD194 := yCD_fr hD (show yFr [356] _ _ from (yF_sub (by rfl) f192))
    obtain ⟨b193, σ193, V193, r193, o193, f193⟩ := yd_new (L := L) (xs := xs) (d := d + 1) (by omega) hm hT h192 hD194 hn
    have g195 := (yF_n f192 (by rfl) g20)
    refine y_call y34_21 (y_args6 g195 rfl rfl) rfl r193 ?_
    cases h193 : yNw T n m nb ng s (yto T n m p) with
    | inl e193 =>
      rw [h193] at o193
      obtain ⟨rfl, hb193⟩ := (show _ ∧ _ from o193)
      refine w_ifF y34_24 rfl (y_bneF rfl) ?_
      refine w_K y34_27 ?_
      have ef : yFst T n m nb 7 s p = .inr (s, yto T n m p) := by unfold yFst; rw [if_neg (by omega)]
      have en : yNew T n m nb ng nb s (yto T n m p) = .inl e193 := by rw [yNw_new, h193, yThen_l]
      have sp : yTwo T n m nb ng 0 7 nb (5 + nb) 1 240 (12 + nb) 0 5 nb s p = .inl e193 := by unfold yTwo; rw [ef, yThen_r, en, yThen_l]
      exact y_ret y34_28 rfl ⟨false, _, D, rfl, yDO_bad sp hb193, (yF_tr (yF_sub (by rfl) f192) (yF_sub (by rfl) f193))⟩
    | inr q193 =>
      rw [h193] at o193
      obtain ⟨rfl, rfl⟩ := (show _ ∧ _ from o193)
      refine w_ifT y34_24 rfl (y_bneT rfl) ?_
      refine w_A y34_29 rfl ?_
      refine y_gf y34_30 g195 rfl d9 ?_
      refine w_A y34_33 rfl ?_
      refine y_gf y34_34 g195 rfl d1 ?_
      refine w_A y34_37 rfl ?_
      obtain ⟨v196, c10_196, hval196⟩ := yCv_val hv192
      refine y_gf y34_38 (yCM_g h192) rfl c10_196 ?_
      have g197 := (yF_n f192 (by rfl) g22)
      refine y_jst y34_41 g197 (by omega) (by decide) ?_
      intro σ199 h198
      refine w_A y34_42 rfl ?_
      have hC201 := yCM_fr h192 (show yFr [20, 22, 24, 26, 28, 30, 32, 34] _ _ from (yF_D h198 (by rfl))) (by rfl)
      obtain ⟨σ200, r200, V200, h200, f200⟩ := yc_go (L := L) (xs := xs) (d := d + 1) hm hC201 (Nat.le_of_eq ((yNw_k h193)).symm)
      refine y_call0 y34_43 (y_args6 (yCM_g hC201) rfl rfl) rfl r200 ?_
      have hv200 := yCM_v hT h200
      refine w_A y34_46 rfl ?_
      have g202 := (yF_n f200 (by rfl) (mD_n h198 (by decide) g195))
      refine y_gf y34_47 g202 rfl d10 ?_
      refine w_A y34_50 rfl ?_
      refine y_gf y34_51 g202 rfl d1 ?_
      refine w_A y34_54 rfl ?_
      refine w_K y34_55 ?_
      refine w_K y34_56 ?_
      obtain ⟨x203, σ203, V203, r203, o203, f203⟩ := yc_pn (L := L) (xs := xs) (d := d + 1) (a := 1) (b := 240) (by omega) hm hT (by omega) (by omega) h200
      refine y_call y34_59 (y_args6 (yCM_g h200) rfl rfl) rfl r203 ?_
      cases h203 : yNum T n m 1 240 (yto T n m (yto T n m p)) with
      | inl e203 =>
        rw [h203] at o203
        obtain ⟨rfl, hb203⟩ := (show _ ∧ _ from o203)
        have g204 := (yF_n f203 (by rfl) (yF_n f200 (by rfl) (mD_n h198 (by decide) (yF_n f192 (by rfl) g24))))
        refine y_ist y34_62 g204 (by omega) (by decide) ?_
        intro σ206 h205
        refine w_A y34_63 rfl ?_
        have g207 := (mD_n h205 (by decide) (yF_n f203 (by rfl) g202))
        refine y_gf y34_64 g207 rfl d10 ?_
        refine w_A y34_67 rfl ?_
        refine y_gf y34_68 g207 rfl d1 ?_
        refine y_ilE y34_71 h205.2.1 rfl rfl (by omega) (by decide) (if_pos rfl) ?_
        refine w_K y34_72 ?_
        refine w_icF y34_73 rfl (by decide) ?_
        refine w_K y34_76 ?_
        have ef : yFst T n m nb 7 s p = .inr (s, yto T n m p) := by unfold yFst; rw [if_neg (by omega)]
        have en : yNew T n m nb ng nb s (yto T n m p) = .inr ((s.1, vp_updL s.2.1 nb (yrv T n (yto T n m p)), s.2.2), (yto T n m (yto T n m p))) := by rw [yNw_new, h193, yThen_r]
        have sp : yTwo T n m nb ng 0 7 nb (5 + nb) 1 240 (12 + nb) 0 5 nb s p = .inl e203 := by unfold yTwo; rw [ef, yThen_r, en, yThen_r, yPut_l h203, yThen_l]
        have hbx : yCB e203 _ _ := ⟨mD_n h205 (by decide) hb203.1, hb203.2⟩
        exact y_ret y34_77 rfl ⟨false, _, D, rfl, yDO_bad sp hbx, (yF_tr (yF_sub (by rfl) f192) (yF_tr (yF_D h198 (by rfl)) (yF_tr (yF_sub (by rfl) f200) (yF_tr (yF_sub (by rfl) f203) (yF_D h205 (by rfl))))))⟩
      | inr q203 =>
        rw [h203] at o203
        have ln203 : yK _ := Nat.le_trans (yNum_le h203) (by decide : 240 ≤ 1000)
        obtain rfl := yNum_inr h203
        obtain ⟨rfl, ok203⟩ := (show _ ∧ _ from o203)
        have hC203 : yCM T n m (yto T n m (yto T n m (yto T n m p))) V203 _ := ok203
        have g208 := (yF_n f203 (by rfl) (yF_n f200 (by rfl) (mD_n h198 (by decide) (yF_n f192 (by rfl) g24))))
        refine y_ist y34_62 g208 (by omega) (by decide) ?_
        intro σ210 h209
        refine w_A y34_63 rfl ?_
        have g211 := (mD_n h209 (by decide) (yF_n f203 (by rfl) g202))
        refine y_gf y34_64 g211 rfl d10 ?_
        refine w_A y34_67 rfl ?_
        refine y_gf y34_68 g211 rfl d1 ?_
        refine y_ilE y34_71 h209.2.1 rfl rfl (by omega) (by decide) (if_pos rfl) ?_
        refine w_K y34_72 ?_
        refine w_icT y34_73 rfl (decide_eq_true (y_oN ln203)) ?_
        refine w_A y34_78 rfl ?_
        refine y_gf y34_79 g211 rfl d11 ?_
        refine w_A y34_82 rfl ?_
        refine y_gf y34_83 g211 rfl d1 ?_
        refine w_A y34_86 rfl ?_
        refine w_K y34_87 ?_
        refine w_K y34_88 ?_
        have hC213 := yCM_fr hC203 (show yFr [20, 22, 24, 26, 28, 30, 32, 34] _ _ from (yF_D h209 (by rfl))) (by rfl)
        obtain ⟨x212, σ212, V212, r212, o212, f212⟩ := yc_pn (L := L) (xs := xs) (d := d + 1) (a := 0) (b := 5) (by omega) hm hT (by omega) (by omega) hC213
        refine y_call y34_89 (y_args6 (yCM_g hC213) rfl rfl) rfl r212 ?_
        cases h212 : yNum T n m 0 5 (yto T n m (yto T n m (yto T n m p))) with
        | inl e212 =>
          rw [h212] at o212
          obtain ⟨rfl, hb212⟩ := (show _ ∧ _ from o212)
          have g214 := (yF_n f212 (by rfl) (mD_n h209 (by decide) (yF_n f203 (by rfl) (yF_n f200 (by rfl) (mD_n h198 (by decide) (yF_n f192 (by rfl) g26))))))
          refine y_ist y34_92 g214 (by omega) (by decide) ?_
          intro σ216 h215
          refine w_A y34_93 rfl ?_
          have g217 := (mD_n h215 (by decide) (yF_n f212 (by rfl) g211))
          refine y_gf y34_94 g217 rfl d11 ?_
          refine w_A y34_97 rfl ?_
          refine y_gf y34_98 g217 rfl d1 ?_
          refine y_ilE y34_101 h215.2.1 rfl rfl (by omega) (by decide) (if_pos rfl) ?_
          refine w_K y34_102 ?_
          refine w_icF y34_103 rfl (by decide) ?_
          refine w_K y34_106 ?_
          have ef : yFst T n m nb 7 s p = .inr (s, yto T n m p) := by unfold yFst; rw [if_neg (by omega)]
          have en : yNew T n m nb ng nb s (yto T n m p) = .inr ((s.1, vp_updL s.2.1 nb (yrv T n (yto T n m p)), s.2.2), (yto T n m (yto T n m p))) := by rw [yNw_new, h193, yThen_r]
          have sp : yTwo T n m nb ng 0 7 nb (5 + nb) 1 240 (12 + nb) 0 5 nb s p = .inl e212 := by unfold yTwo; rw [ef, yThen_r, en, yThen_r, yPut_r h203, yThen_r, yPut_l h212, yThen_l]
          have hbx : yCB e212 _ _ := ⟨mD_n h215 (by decide) hb212.1, hb212.2⟩
          exact y_ret y34_107 rfl ⟨false, _, D, rfl, yDO_bad sp hbx, (yF_tr (yF_sub (by rfl) f192) (yF_tr (yF_D h198 (by rfl)) (yF_tr (yF_sub (by rfl) f200) (yF_tr (yF_sub (by rfl) f203) (yF_tr (yF_D h209 (by rfl)) (yF_tr (yF_sub (by rfl) f212) (yF_D h215 (by rfl))))))))⟩
        | inr q212 =>
          rw [h212] at o212
          have ln212 : yK _ := Nat.le_trans (yNum_le h212) (by decide : 5 ≤ 1000)
          obtain rfl := yNum_inr h212
          obtain ⟨rfl, ok212⟩ := (show _ ∧ _ from o212)
          have hC212 : yCM T n m (yto T n m (yto T n m (yto T n m (yto T n m p)))) V212 _ := ok212
          have g218 := (yF_n f212 (by rfl) (mD_n h209 (by decide) (yF_n f203 (by rfl) (yF_n f200 (by rfl) (mD_n h198 (by decide) (yF_n f192 (by rfl) g26))))))
          refine y_ist y34_92 g218 (by omega) (by decide) ?_
          intro σ220 h219
          refine w_A y34_93 rfl ?_
          have g221 := (mD_n h219 (by decide) (yF_n f212 (by rfl) g211))
          refine y_gf y34_94 g221 rfl d11 ?_
          refine w_A y34_97 rfl ?_
          refine y_gf y34_98 g221 rfl d1 ?_
          refine y_ilE y34_101 h219.2.1 rfl rfl (by omega) (by decide) (if_pos rfl) ?_
          refine w_K y34_102 ?_
          refine w_icT y34_103 rfl (decide_eq_true (y_oN ln212)) ?_
          refine w_A y34_108 rfl ?_
          refine y_dup y34_109 rfl ?_
          refine y_gf y34_110 g221 rfl d1 ?_
          refine w_K y34_113 ?_
          refine w_add y34_114 ?_
          refine y_pf y34_115 g221 rfl rfl ?_
          intro σ223 h222
          refine w_K y34_118 ?_
          have ef : yFst T n m nb 7 s p = .inr (s, yto T n m p) := by unfold yFst; rw [if_neg (by omega)]
          have en : yNew T n m nb ng nb s (yto T n m p) = .inr ((s.1, vp_updL s.2.1 nb (yrv T n (yto T n m p)), s.2.2), (yto T n m (yto T n m p))) := by rw [yNw_new, h193, yThen_r]
          have sp : yTwo T n m nb ng 0 7 nb (5 + nb) 1 240 (12 + nb) 0 5 nb s p = .inr ((upd (upd (upd (s.1, vp_updL s.2.1 nb (yrv T n (yto T n m p)), s.2.2).1 (5 + nb) (Int32.ofNat (ynN T (ysk T n (yto T n m (yto T n m p))) (yln T n (yto T n m (yto T n m p))))), (s.1, vp_updL s.2.1 nb (yrv T n (yto T n m p)), s.2.2).2).1 (12 + nb) (Int32.ofNat (ynN T (ysk T n (yto T n m (yto T n m (yto T n m p)))) (yln T n (yto T n m (yto T n m (yto T n m p)))))), (upd (s.1, vp_updL s.2.1 nb (yrv T n (yto T n m p)), s.2.2).1 (5 + nb) (Int32.ofNat (ynN T (ysk T n (yto T n m (yto T n m p))) (yln T n (yto T n m (yto T n m p))))), (s.1, vp_updL s.2.1 nb (yrv T n (yto T n m p)), s.2.2).2).2).1 0 (Int32.ofNat (nb + 1)), (upd (upd (s.1, vp_updL s.2.1 nb (yrv T n (yto T n m p)), s.2.2).1 (5 + nb) (Int32.ofNat (ynN T (ysk T n (yto T n m (yto T n m p))) (yln T n (yto T n m (yto T n m p))))), (s.1, vp_updL s.2.1 nb (yrv T n (yto T n m p)), s.2.2).2).1 (12 + nb) (Int32.ofNat (ynN T (ysk T n (yto T n m (yto T n m (yto T n m p)))) (yln T n (yto T n m (yto T n m (yto T n m p)))))), (upd (s.1, vp_updL s.2.1 nb (yrv T n (yto T n m p)), s.2.2).1 (5 + nb) (Int32.ofNat (ynN T (ysk T n (yto T n m (yto T n m p))) (yln T n (yto T n m (yto T n m p))))), (s.1, vp_updL s.2.1 nb (yrv T n (yto T n m p)), s.2.2).2).2).2), (yto T n m (yto T n m (yto T n m (yto T n m p))))) := by unfold yTwo; rw [ef, yThen_r, en, yThen_r, yPut_r h203, yThen_r, yPut_r h212, yThen_r]
          have u : ∀ j, ¬ j = 0 → ¬ j = (5 + nb) → ¬ j = (12 + nb) → upd (upd (upd s.1 (5 + nb) (Int32.ofNat (ynN T (ysk T n (yto T n m (yto T n m p))) (yln T n (yto T n m (yto T n m p)))))) (12 + nb) (Int32.ofNat (ynN T (ysk T n (yto T n m (yto T n m (yto T n m p)))) (yln T n (yto T n m (yto T n m (yto T n m p))))))) 0 (Int32.ofNat (nb + 1)) j = s.1 j := fun j h1 h2 h3 => by
            rw [upd_at, if_neg h1, upd_at, if_neg h3, upd_at, if_neg h2]
          have u0 : upd (upd (upd s.1 (5 + nb) (Int32.ofNat (ynN T (ysk T n (yto T n m (yto T n m p))) (yln T n (yto T n m (yto T n m p)))))) (12 + nb) (Int32.ofNat (ynN T (ysk T n (yto T n m (yto T n m (yto T n m p)))) (yln T n (yto T n m (yto T n m (yto T n m p))))))) 0 (Int32.ofNat (nb + 1)) 0 = Int32.ofNat (nb + 1) := y_ups
          have hC224 := yCM_fr hC212 (show yFr [20, 22, 24, 26, 28, 30, 32, 34] _ _ from (yF_tr (yF_D h219 (by rfl)) (yF_D h222 (by rfl)))) (by rfl)
          have hN2 : yNms ((upd (upd (upd (s.1, vp_updL s.2.1 nb (yrv T n (yto T n m p)), s.2.2).1 (5 + nb) (Int32.ofNat (ynN T (ysk T n (yto T n m (yto T n m p))) (yln T n (yto T n m (yto T n m p))))), (s.1, vp_updL s.2.1 nb (yrv T n (yto T n m p)), s.2.2).2).1 (12 + nb) (Int32.ofNat (ynN T (ysk T n (yto T n m (yto T n m (yto T n m p)))) (yln T n (yto T n m (yto T n m (yto T n m p)))))), (upd (s.1, vp_updL s.2.1 nb (yrv T n (yto T n m p)), s.2.2).1 (5 + nb) (Int32.ofNat (ynN T (ysk T n (yto T n m (yto T n m p))) (yln T n (yto T n m (yto T n m p))))), (s.1, vp_updL s.2.1 nb (yrv T n (yto T n m p)), s.2.2).2).2).1 0 (Int32.ofNat (nb + 1)), (upd (upd (s.1, vp_updL s.2.1 nb (yrv T n (yto T n m p)), s.2.2).1 (5 + nb) (Int32.ofNat (ynN T (ysk T n (yto T n m (yto T n m p))) (yln T n (yto T n m (yto T n m p))))), (s.1, vp_updL s.2.1 nb (yrv T n (yto T n m p)), s.2.2).2).1 (12 + nb) (Int32.ofNat (ynN T (ysk T n (yto T n m (yto T n m (yto T n m p)))) (yln T n (yto T n m (yto T n m (yto T n m p)))))), (upd (s.1, vp_updL s.2.1 nb (yrv T n (yto T n m p)), s.2.2).1 (5 + nb) (Int32.ofNat (ynN T (ysk T n (yto T n m (yto T n m p))) (yln T n (yto T n m (yto T n m p))))), (s.1, vp_updL s.2.1 nb (yrv T n (yto T n m p)), s.2.2).2).2).2)) (nb + 1) (ng) (vp_updL bn nb v196) gn := by
            refine ⟨fun b hb2 => ?_, fun g hg2 => ?_⟩
            · show yRel (vp_updL s.2.1 nb (yrv T n (yto T n m p)) b) (vp_updL bn nb v196 b)
              by_cases e : b = nb
              · rw [updL_at, if_pos e, updL_at, if_pos e]; exact hval196 (yNw_k h193)
              · rw [updL_at, if_neg e, updL_at, if_neg e]; exact hN.1 b (by omega)
            · show yRel (vp_updL s.2.1 nb (yrv T n (yto T n m p)) (7 + g)) (gn g)
              rw [updL_at, if_neg (by omega)]; exact hN.2 g hg2
          have g225 := (mD_n h222 (by decide) (mD_n h219 (by decide) (yF_n f212 (by rfl) (mD_n h209 (by decide) (yF_n f203 (by rfl) (yF_n f200 (by rfl) h198.2.1))))))
          have g226 := (mD_n h222 (by decide) (mD_n h219 (by decide) (yF_n f212 (by rfl) h209.2.1)))
          have g227 := (mD_n h222 (by decide) h219.2.1)
          have g228 := (mD_n h222 (by decide) (mD_n h219 (by decide) (yF_n f212 (by rfl) (mD_n h209 (by decide) (yF_n f203 (by rfl) (yF_n f200 (by rfl) (mD_n h198 (by decide) (yF_n f192 (by rfl) g28))))))))
          have g229 := (mD_n h222 (by decide) (mD_n h219 (by decide) (yF_n f212 (by rfl) (mD_n h209 (by decide) (yF_n f203 (by rfl) (yF_n f200 (by rfl) (mD_n h198 (by decide) (yF_n f192 (by rfl) g30))))))))
          have g230 := (mD_n h222 (by decide) (mD_n h219 (by decide) (yF_n f212 (by rfl) (mD_n h209 (by decide) (yF_n f203 (by rfl) (yF_n f200 (by rfl) (mD_n h198 (by decide) (yF_n f192 (by rfl) g32))))))))
          have g231 := (mD_n h222 (by decide) (mD_n h219 (by decide) (yF_n f212 (by rfl) (mD_n h209 (by decide) (yF_n f203 (by rfl) (yF_n f200 (by rfl) (mD_n h198 (by decide) (yF_n f192 (by rfl) g34))))))))
          have hD2 : yCD ((upd (upd (upd (s.1, vp_updL s.2.1 nb (yrv T n (yto T n m p)), s.2.2).1 (5 + nb) (Int32.ofNat (ynN T (ysk T n (yto T n m (yto T n m p))) (yln T n (yto T n m (yto T n m p))))), (s.1, vp_updL s.2.1 nb (yrv T n (yto T n m p)), s.2.2).2).1 (12 + nb) (Int32.ofNat (ynN T (ysk T n (yto T n m (yto T n m (yto T n m p)))) (yln T n (yto T n m (yto T n m (yto T n m p)))))), (upd (s.1, vp_updL s.2.1 nb (yrv T n (yto T n m p)), s.2.2).1 (5 + nb) (Int32.ofNat (ynN T (ysk T n (yto T n m (yto T n m p))) (yln T n (yto T n m (yto T n m p))))), (s.1, vp_updL s.2.1 nb (yrv T n (yto T n m p)), s.2.2).2).2).1 0 (Int32.ofNat (nb + 1)), (upd (upd (s.1, vp_updL s.2.1 nb (yrv T n (yto T n m p)), s.2.2).1 (5 + nb) (Int32.ofNat (ynN T (ysk T n (yto T n m (yto T n m p))) (yln T n (yto T n m (yto T n m p))))), (s.1, vp_updL s.2.1 nb (yrv T n (yto T n m p)), s.2.2).2).1 (12 + nb) (Int32.ofNat (ynN T (ysk T n (yto T n m (yto T n m (yto T n m p)))) (yln T n (yto T n m (yto T n m (yto T n m p)))))), (upd (s.1, vp_updL s.2.1 nb (yrv T n (yto T n m p)), s.2.2).1 (5 + nb) (Int32.ofNat (ynN T (ysk T n (yto T n m (yto T n m p))) (yln T n (yto T n m (yto T n m p))))), (s.1, vp_updL s.2.1 nb (yrv T n (yto T n m p)), s.2.2).2).2).2)) (nb + 1) (ng) l _ _ := ⟨_, _, _, _, _, _, _, ⟨h222.2.1, g225, g226, g227, g228, g229, g230, g231⟩, ⟨d9, d10, d11, d12, d13, d14, d15⟩, ⟨d0, rfl, d2⟩, ⟨(d3).trans (congrArg Value.int (u 2 (by omega) (by omega) (by omega))).symm, (d4).trans (congrArg Value.int (u 3 (by omega) (by omega) (by omega))).symm, (d5).trans (congrArg Value.int (u 4 (by omega) (by omega) (by omega))).symm, d6, d7, d8⟩, hN2, fun b hb2 => (hH b hb2).trans (u (19 + b) (by omega) (by omega) (by omega)).symm⟩
          exact y_ret y34_119 rfl ⟨true, _, _, rfl, yDO_good sp hC224 hD2 ⟨⟨u0, (u 1 (by omega) (by omega) (by omega)).trans hg⟩, by omega, by omega⟩, (yF_tr (yF_sub (by rfl) f192) (yF_tr (yF_D h198 (by rfl)) (yF_tr (yF_sub (by rfl) f200) (yF_tr (yF_sub (by rfl) f203) (yF_tr (yF_D h209 (by rfl)) (yF_tr (yF_sub (by rfl) f212) (yF_tr (yF_D h219 (by rfl)) (yF_D h222 (by rfl)))))))))⟩
  · skip
    refine y_icF y34_6 rfl (by omega) (by omega) (by simp only [zch]; omega) ?_
    refine w_A y34_9 rfl ?_
    refine w_K y34_10 ?_
    obtain ⟨σ232, r232, V232, h232, f232⟩ := yc_rfE (L := L) (xs := xs) (d := d + 1) (k := 4) hv (yCM_g hC) (.inl (by rw [hkw]; decide))
    refine y_call y34_11 (y_args6 (yCM_g hC) rfl rfl) rfl r232 ?_
    have sp : yTwo T n m nb ng 0 7 nb (5 + nb) 1 240 (12 + nb) 0 5 nb s p = .inl (ybd T n m p 4) := by unfold yTwo yFst; rw [if_pos (by omega), yThen_l]
    exact y_ret y34_14 rfl ⟨false, _, D, rfl, yDO_bad sp h232, (yF_sub (by rfl) f232)⟩
set_option maxRecDepth 100000 in
theorem y35_0 : iv_f1 (iv_p 35) 0 = some (.inl (iv_oA 0 1)) := rfl
set_option maxRecDepth 100000 in
theorem y35_1 : iv_f1 (iv_p 35) 1 = some (.inl (iv_oGF 3 2)) := rfl
set_option maxRecDepth 100000 in
theorem y35_4 : iv_f1 (iv_p 35) 4 = some (.inl (iv_oK (.int (Int32.ofNat 6)) 2)) := rfl
set_option maxRecDepth 100000 in
theorem y35_6 : iv_f1 (iv_p 35) 6 = some (.inl (iv_oIc .lt (9))) := rfl
set_option maxRecDepth 100000 in
theorem y35_9 : iv_f1 (iv_p 35) 9 = some (.inl (iv_oA 1 1)) := rfl
set_option maxRecDepth 100000 in
theorem y35_10 : iv_f1 (iv_p 35) 10 = some (.inl (iv_oK (.int (Int32.ofNat 4)) 1)) := rfl
set_option maxRecDepth 100000 in
theorem y35_11 : iv_f1 (iv_p 35) 11 = some (.inr (.inr (6, 56, 1, 5))) := rfl
set_option maxRecDepth 100000 in
theorem y35_14 : iv_f1 (iv_p 35) 14 = some (.inr (.inl 2)) := rfl
set_option maxRecDepth 100000 in
theorem y35_15 : iv_f1 (iv_p 35) 15 = some (.inl (iv_oA 1 1)) := rfl
set_option maxRecDepth 100000 in
theorem y35_16 : iv_f1 (iv_p 35) 16 = some (.inr (.inr (6, 52, 0, 5))) := rfl
set_option maxRecDepth 100000 in
theorem y35_19 : iv_f1 (iv_p 35) 19 = some (.inl (iv_oA 0 1)) := rfl
set_option maxRecDepth 100000 in
theorem y35_20 : iv_f1 (iv_p 35) 20 = some (.inl (iv_oA 1 1)) := rfl
set_option maxRecDepth 100000 in
theorem y35_21 : iv_f1 (iv_p 35) 21 = some (.inr (.inr (6, 36, 1, 3))) := rfl
set_option maxRecDepth 100000 in
theorem y35_24 : iv_f1 (iv_p 35) 24 = some (.inl (iv_oIf .ne (5))) := rfl
set_option maxRecDepth 100000 in
theorem y35_27 : iv_f1 (iv_p 35) 27 = some (.inl (iv_oK (.int (Int32.ofNat 0)) 1)) := rfl
set_option maxRecDepth 100000 in
theorem y35_28 : iv_f1 (iv_p 35) 28 = some (.inr (.inl 2)) := rfl
set_option maxRecDepth 100000 in
theorem y35_29 : iv_f1 (iv_p 35) 29 = some (.inl (iv_oA 0 1)) := rfl
set_option maxRecDepth 100000 in
theorem y35_30 : iv_f1 (iv_p 35) 30 = some (.inl (iv_oGF 3 13)) := rfl
set_option maxRecDepth 100000 in
theorem y35_33 : iv_f1 (iv_p 35) 33 = some (.inl (iv_oA 0 1)) := rfl
set_option maxRecDepth 100000 in
theorem y35_34 : iv_f1 (iv_p 35) 34 = some (.inl (iv_oGF 3 2)) := rfl
set_option maxRecDepth 100000 in
theorem y35_37 : iv_f1 (iv_p 35) 37 = some (.inl (iv_oA 1 1)) := rfl
set_option maxRecDepth 100000 in
theorem y35_38 : iv_f1 (iv_p 35) 38 = some (.inl (iv_oGF 5 10)) := rfl
set_option maxRecDepth 100000 in
theorem y35_41 : iv_f1 (iv_p 35) 41 = some (.inl iv_oJst) := rfl
set_option maxRecDepth 100000 in
theorem y35_42 : iv_f1 (iv_p 35) 42 = some (.inl (iv_oA 1 1)) := rfl
set_option maxRecDepth 100000 in
theorem y35_43 : iv_f1 (iv_p 35) 43 = some (.inr (.inr (6, 52, 0, 5))) := rfl
set_option maxRecDepth 100000 in
theorem y35_46 : iv_f1 (iv_p 35) 46 = some (.inl (iv_oA 0 1)) := rfl
set_option maxRecDepth 100000 in
theorem y35_47 : iv_f1 (iv_p 35) 47 = some (.inl (iv_oGF 3 14)) := rfl
set_option maxRecDepth 100000 in
theorem y35_50 : iv_f1 (iv_p 35) 50 = some (.inl (iv_oA 0 1)) := rfl
set_option maxRecDepth 100000 in
theorem y35_51 : iv_f1 (iv_p 35) 51 = some (.inl (iv_oGF 3 2)) := rfl
set_option maxRecDepth 100000 in
theorem y35_54 : iv_f1 (iv_p 35) 54 = some (.inl (iv_oA 1 1)) := rfl
set_option maxRecDepth 100000 in
theorem y35_55 : iv_f1 (iv_p 35) 55 = some (.inl (iv_oK (.int (Int32.ofNat 1)) 1)) := rfl
set_option maxRecDepth 100000 in
theorem y35_56 : iv_f1 (iv_p 35) 56 = some (.inl (iv_oK (.int (Int32.ofNat 9)) 2)) := rfl
set_option maxRecDepth 100000 in
theorem y35_58 : iv_f1 (iv_p 35) 58 = some (.inr (.inr (6, 58, 2, 5))) := rfl
set_option maxRecDepth 100000 in
theorem y35_61 : iv_f1 (iv_p 35) 61 = some (.inl iv_oIst) := rfl
set_option maxRecDepth 100000 in
theorem y35_62 : iv_f1 (iv_p 35) 62 = some (.inl (iv_oA 0 1)) := rfl
set_option maxRecDepth 100000 in
theorem y35_63 : iv_f1 (iv_p 35) 63 = some (.inl (iv_oGF 3 14)) := rfl
set_option maxRecDepth 100000 in
theorem y35_66 : iv_f1 (iv_p 35) 66 = some (.inl (iv_oA 0 1)) := rfl
set_option maxRecDepth 100000 in
theorem y35_67 : iv_f1 (iv_p 35) 67 = some (.inl (iv_oGF 3 2)) := rfl
set_option maxRecDepth 100000 in
theorem y35_70 : iv_f1 (iv_p 35) 70 = some (.inl iv_oIl) := rfl
set_option maxRecDepth 100000 in
theorem y35_71 : iv_f1 (iv_p 35) 71 = some (.inl (iv_oK (.int (Int32.ofInt (-1))) 1)) := rfl
set_option maxRecDepth 100000 in
theorem y35_72 : iv_f1 (iv_p 35) 72 = some (.inl (iv_oIc .ne (5))) := rfl
set_option maxRecDepth 100000 in
theorem y35_75 : iv_f1 (iv_p 35) 75 = some (.inl (iv_oK (.int (Int32.ofNat 0)) 1)) := rfl
set_option maxRecDepth 100000 in
theorem y35_76 : iv_f1 (iv_p 35) 76 = some (.inr (.inl 2)) := rfl
set_option maxRecDepth 100000 in
theorem y35_77 : iv_f1 (iv_p 35) 77 = some (.inl (iv_oA 0 1)) := rfl
set_option maxRecDepth 100000 in
theorem y35_78 : iv_f1 (iv_p 35) 78 = some (.inl (iv_oGF 3 15)) := rfl
set_option maxRecDepth 100000 in
theorem y35_81 : iv_f1 (iv_p 35) 81 = some (.inl (iv_oA 0 1)) := rfl
set_option maxRecDepth 100000 in
theorem y35_82 : iv_f1 (iv_p 35) 82 = some (.inl (iv_oGF 3 2)) := rfl
set_option maxRecDepth 100000 in
theorem y35_85 : iv_f1 (iv_p 35) 85 = some (.inl (iv_oA 1 1)) := rfl
set_option maxRecDepth 100000 in
theorem y35_86 : iv_f1 (iv_p 35) 86 = some (.inl (iv_oK (.int (Int32.ofNat 1)) 1)) := rfl
set_option maxRecDepth 100000 in
theorem y35_87 : iv_f1 (iv_p 35) 87 = some (.inl (iv_oK (.int (Int32.ofNat 60)) 2)) := rfl
set_option maxRecDepth 100000 in
theorem y35_89 : iv_f1 (iv_p 35) 89 = some (.inr (.inr (6, 58, 2, 5))) := rfl
set_option maxRecDepth 100000 in
theorem y35_92 : iv_f1 (iv_p 35) 92 = some (.inl iv_oIst) := rfl
set_option maxRecDepth 100000 in
theorem y35_93 : iv_f1 (iv_p 35) 93 = some (.inl (iv_oA 0 1)) := rfl
set_option maxRecDepth 100000 in
theorem y35_94 : iv_f1 (iv_p 35) 94 = some (.inl (iv_oGF 3 15)) := rfl
set_option maxRecDepth 100000 in
theorem y35_97 : iv_f1 (iv_p 35) 97 = some (.inl (iv_oA 0 1)) := rfl
set_option maxRecDepth 100000 in
theorem y35_98 : iv_f1 (iv_p 35) 98 = some (.inl (iv_oGF 3 2)) := rfl
set_option maxRecDepth 100000 in
theorem y35_101 : iv_f1 (iv_p 35) 101 = some (.inl iv_oIl) := rfl
set_option maxRecDepth 100000 in
theorem y35_102 : iv_f1 (iv_p 35) 102 = some (.inl (iv_oK (.int (Int32.ofInt (-1))) 1)) := rfl
set_option maxRecDepth 100000 in
theorem y35_103 : iv_f1 (iv_p 35) 103 = some (.inl (iv_oIc .ne (5))) := rfl
set_option maxRecDepth 100000 in
theorem y35_106 : iv_f1 (iv_p 35) 106 = some (.inl (iv_oK (.int (Int32.ofNat 0)) 1)) := rfl
set_option maxRecDepth 100000 in
theorem y35_107 : iv_f1 (iv_p 35) 107 = some (.inr (.inl 2)) := rfl
set_option maxRecDepth 100000 in
theorem y35_108 : iv_f1 (iv_p 35) 108 = some (.inl (iv_oA 0 1)) := rfl
set_option maxRecDepth 100000 in
theorem y35_109 : iv_f1 (iv_p 35) 109 = some (.inl iv_oDup) := rfl
set_option maxRecDepth 100000 in
theorem y35_110 : iv_f1 (iv_p 35) 110 = some (.inl (iv_oGF 3 2)) := rfl
set_option maxRecDepth 100000 in
theorem y35_113 : iv_f1 (iv_p 35) 113 = some (.inl (iv_oK (.int (Int32.ofNat 1)) 1)) := rfl
set_option maxRecDepth 100000 in
theorem y35_114 : iv_f1 (iv_p 35) 114 = some (.inl (iv_oII fun x y => x + y)) := rfl
set_option maxRecDepth 100000 in
theorem y35_115 : iv_f1 (iv_p 35) 115 = some (.inl (iv_oPF 3 2 .int)) := rfl
set_option maxRecDepth 100000 in
theorem y35_118 : iv_f1 (iv_p 35) 118 = some (.inl (iv_oK (.int (Int32.ofNat 1)) 1)) := rfl
set_option maxRecDepth 100000 in
theorem y35_119 : iv_f1 (iv_p 35) 119 = some (.inr (.inl 2)) := rfl
theorem yd_gra {L : Nat} {xs : Nat → Int32} {d : Nat} {T : Nat → Nat} {n m p nb ng l : Nat} {s : yS} {V D : Nat → Value} {σ : iv_H} (hd : 2 ≤ d) (hm : m ≤ 900) (hT : ∀ i, T i ≤ 255) (hC : yCM T n m p V σ) (hD : yCD s nb ng l D σ) (hn : yCn s nb ng) (hkw : ykd T n m p = 2) : ∃ b σ1 V1 D1, iv_Rn L xs d 35 0 (lv_args 0 [.ref 20, .ref 356]) [] σ (some (.int (yb b))) σ1 ∧ yDO T n m l (yTwo T n m nb ng 1 6 (7 + ng) (26 + ng) 1 9 (32 + ng) 1 60 ng s p) b V1 D1 σ1 ∧ yFr [356, 20, 22, 24, 26, 28, 30, 32, 34] σ σ1 := by
  obtain ⟨d, rfl⟩ : ∃ e, d = e + 2 := ⟨d - 2, by omega⟩
  refine y_Rd ?_
  obtain ⟨⟨hb, hg⟩, hb7, hg6⟩ := id hn
  obtain ⟨bn, bl, hd_, hl, gn, te, ed, ⟨g20, g22, g24, g26, g28, g30, g32, g34⟩, ⟨d9, d10, d11, d12, d13, d14, d15⟩, ⟨d0, d1, d2⟩, ⟨d3, d4, d5, d6, d7, d8⟩, hN, hH⟩ := id hD
  have hv := yCM_v hT hC
  refine w_A y35_0 rfl ?_
  refine y_gf y35_1 g20 rfl d2 ?_
  refine w_K y35_4 ?_
  by_cases c233 : ng < 6
  · skip
    refine y_icT y35_6 rfl (by omega) (by omega) (by simp only [zch]; omega) ?_
    refine w_A y35_15 rfl ?_
    obtain ⟨σ234, r234, V234, h234, f234⟩ := yc_go (L := L) (xs := xs) (d := d + 1) hm hC (Nat.le_of_eq (hkw).symm)
    refine y_call0 y35_16 (y_args6 (yCM_g hC) rfl rfl) rfl r234 ?_
    have hv234 := yCM_v hT h234
    refine w_A y35_19 rfl ?_
    refine w_A y35_20 rfl ?_
    have hD236 := yCD_fr hD (show yFr [356] _ _ from (yF_sub (by rfl) f234))
    obtain ⟨b235, σ235, V235, r235, o235, f235⟩ := yd_new (L := L) (xs := xs) (d := d + 1) (by omega) hm hT h234 hD236 hn
    have g237 := (yF_n f234 (by rfl) g20)
    refine y_call y35_21 (y_args6 g237 rfl rfl) rfl r235 ?_
    cases h235 : yNw T n m nb ng s (yto T n m p) with
    | inl e235 =>
      rw [h235] at o235
      obtain ⟨rfl, hb235⟩ := (show _ ∧ _ from o235)
      refine w_ifF y35_24 rfl (y_bneF rfl) ?_
      refine w_K y35_27 ?_
      have ef : yFst T n m ng 6 s p = .inr (s, yto T n m p) := by unfold yFst; rw [if_neg (by omega)]
      have en : yNew T n m nb ng (7 + ng) s (yto T n m p) = .inl e235 := by rw [yNw_new, h235, yThen_l]
      have sp : yTwo T n m nb ng 1 6 (7 + ng) (26 + ng) 1 9 (32 + ng) 1 60 ng s p = .inl e235 := by unfold yTwo; rw [ef, yThen_r, en, yThen_l]
      exact y_ret y35_28 rfl ⟨false, _, D, rfl, yDO_bad sp hb235, (yF_tr (yF_sub (by rfl) f234) (yF_sub (by rfl) f235))⟩
    | inr q235 =>
      rw [h235] at o235
      obtain ⟨rfl, rfl⟩ := (show _ ∧ _ from o235)
      refine w_ifT y35_24 rfl (y_bneT rfl) ?_
      refine w_A y35_29 rfl ?_
      refine y_gf y35_30 g237 rfl d13 ?_
      refine w_A y35_33 rfl ?_
      refine y_gf y35_34 g237 rfl d2 ?_
      refine w_A y35_37 rfl ?_
      obtain ⟨v238, c10_238, hval238⟩ := yCv_val hv234
      refine y_gf y35_38 (yCM_g h234) rfl c10_238 ?_
      have g239 := (yF_n f234 (by rfl) g30)
      refine y_jst y35_41 g239 (by omega) (by decide) ?_
      intro σ241 h240
      refine w_A y35_42 rfl ?_
      have hC243 := yCM_fr h234 (show yFr [20, 22, 24, 26, 28, 30, 32, 34] _ _ from (yF_D h240 (by rfl))) (by rfl)
      obtain ⟨σ242, r242, V242, h242, f242⟩ := yc_go (L := L) (xs := xs) (d := d + 1) hm hC243 (Nat.le_of_eq ((yNw_k h235)).symm)
      refine y_call0 y35_43 (y_args6 (yCM_g hC243) rfl rfl) rfl r242 ?_
      have hv242 := yCM_v hT h242
      refine w_A y35_46 rfl ?_
      have g244 := (yF_n f242 (by rfl) (mD_n h240 (by decide) g237))
      refine y_gf y35_47 g244 rfl d14 ?_
      refine w_A y35_50 rfl ?_
      refine y_gf y35_51 g244 rfl d2 ?_
      refine w_A y35_54 rfl ?_
      refine w_K y35_55 ?_
      refine w_K y35_56 ?_
      obtain ⟨x245, σ245, V245, r245, o245, f245⟩ := yc_pn (L := L) (xs := xs) (d := d + 1) (a := 1) (b := 9) (by omega) hm hT (by omega) (by omega) h242
      refine y_call y35_58 (y_args6 (yCM_g h242) rfl rfl) rfl r245 ?_
      cases h245 : yNum T n m 1 9 (yto T n m (yto T n m p)) with
      | inl e245 =>
        rw [h245] at o245
        obtain ⟨rfl, hb245⟩ := (show _ ∧ _ from o245)
        have g246 := (yF_n f245 (by rfl) (yF_n f242 (by rfl) (mD_n h240 (by decide) (yF_n f234 (by rfl) g32))))
        refine y_ist y35_61 g246 (by omega) (by decide) ?_
        intro σ248 h247
        refine w_A y35_62 rfl ?_
        have g249 := (mD_n h247 (by decide) (yF_n f245 (by rfl) g244))
        refine y_gf y35_63 g249 rfl d14 ?_
        refine w_A y35_66 rfl ?_
        refine y_gf y35_67 g249 rfl d2 ?_
        refine y_ilE y35_70 h247.2.1 rfl rfl (by omega) (by decide) (if_pos rfl) ?_
        refine w_K y35_71 ?_
        refine w_icF y35_72 rfl (by decide) ?_
        refine w_K y35_75 ?_
        have ef : yFst T n m ng 6 s p = .inr (s, yto T n m p) := by unfold yFst; rw [if_neg (by omega)]
        have en : yNew T n m nb ng (7 + ng) s (yto T n m p) = .inr ((s.1, vp_updL s.2.1 (7 + ng) (yrv T n (yto T n m p)), s.2.2), (yto T n m (yto T n m p))) := by rw [yNw_new, h235, yThen_r]
        have sp : yTwo T n m nb ng 1 6 (7 + ng) (26 + ng) 1 9 (32 + ng) 1 60 ng s p = .inl e245 := by unfold yTwo; rw [ef, yThen_r, en, yThen_r, yPut_l h245, yThen_l]
        have hbx : yCB e245 _ _ := ⟨mD_n h247 (by decide) hb245.1, hb245.2⟩
        exact y_ret y35_76 rfl ⟨false, _, D, rfl, yDO_bad sp hbx, (yF_tr (yF_sub (by rfl) f234) (yF_tr (yF_D h240 (by rfl)) (yF_tr (yF_sub (by rfl) f242) (yF_tr (yF_sub (by rfl) f245) (yF_D h247 (by rfl))))))⟩
      | inr q245 =>
        rw [h245] at o245
        have ln245 : yK _ := Nat.le_trans (yNum_le h245) (by decide : 9 ≤ 1000)
        obtain rfl := yNum_inr h245
        obtain ⟨rfl, ok245⟩ := (show _ ∧ _ from o245)
        have hC245 : yCM T n m (yto T n m (yto T n m (yto T n m p))) V245 _ := ok245
        have g250 := (yF_n f245 (by rfl) (yF_n f242 (by rfl) (mD_n h240 (by decide) (yF_n f234 (by rfl) g32))))
        refine y_ist y35_61 g250 (by omega) (by decide) ?_
        intro σ252 h251
        refine w_A y35_62 rfl ?_
        have g253 := (mD_n h251 (by decide) (yF_n f245 (by rfl) g244))
        refine y_gf y35_63 g253 rfl d14 ?_
        refine w_A y35_66 rfl ?_
        refine y_gf y35_67 g253 rfl d2 ?_
        refine y_ilE y35_70 h251.2.1 rfl rfl (by omega) (by decide) (if_pos rfl) ?_
        refine w_K y35_71 ?_
        refine w_icT y35_72 rfl (decide_eq_true (y_oN ln245)) ?_
        refine w_A y35_77 rfl ?_
        refine y_gf y35_78 g253 rfl d15 ?_
        refine w_A y35_81 rfl ?_
        refine y_gf y35_82 g253 rfl d2 ?_
        refine w_A y35_85 rfl ?_
        refine w_K y35_86 ?_
        refine w_K y35_87 ?_
        have hC255 := yCM_fr hC245 (show yFr [20, 22, 24, 26, 28, 30, 32, 34] _ _ from (yF_D h251 (by rfl))) (by rfl)
        obtain ⟨x254, σ254, V254, r254, o254, f254⟩ := yc_pn (L := L) (xs := xs) (d := d + 1) (a := 1) (b := 60) (by omega) hm hT (by omega) (by omega) hC255
        refine y_call y35_89 (y_args6 (yCM_g hC255) rfl rfl) rfl r254 ?_
        cases h254 : yNum T n m 1 60 (yto T n m (yto T n m (yto T n m p))) with
        | inl e254 =>
          rw [h254] at o254
          obtain ⟨rfl, hb254⟩ := (show _ ∧ _ from o254)
          have g256 := (yF_n f254 (by rfl) (mD_n h251 (by decide) (yF_n f245 (by rfl) (yF_n f242 (by rfl) (mD_n h240 (by decide) (yF_n f234 (by rfl) g34))))))
          refine y_ist y35_92 g256 (by omega) (by decide) ?_
          intro σ258 h257
          refine w_A y35_93 rfl ?_
          have g259 := (mD_n h257 (by decide) (yF_n f254 (by rfl) g253))
          refine y_gf y35_94 g259 rfl d15 ?_
          refine w_A y35_97 rfl ?_
          refine y_gf y35_98 g259 rfl d2 ?_
          refine y_ilE y35_101 h257.2.1 rfl rfl (by omega) (by decide) (if_pos rfl) ?_
          refine w_K y35_102 ?_
          refine w_icF y35_103 rfl (by decide) ?_
          refine w_K y35_106 ?_
          have ef : yFst T n m ng 6 s p = .inr (s, yto T n m p) := by unfold yFst; rw [if_neg (by omega)]
          have en : yNew T n m nb ng (7 + ng) s (yto T n m p) = .inr ((s.1, vp_updL s.2.1 (7 + ng) (yrv T n (yto T n m p)), s.2.2), (yto T n m (yto T n m p))) := by rw [yNw_new, h235, yThen_r]
          have sp : yTwo T n m nb ng 1 6 (7 + ng) (26 + ng) 1 9 (32 + ng) 1 60 ng s p = .inl e254 := by unfold yTwo; rw [ef, yThen_r, en, yThen_r, yPut_r h245, yThen_r, yPut_l h254, yThen_l]
          have hbx : yCB e254 _ _ := ⟨mD_n h257 (by decide) hb254.1, hb254.2⟩
          exact y_ret y35_107 rfl ⟨false, _, D, rfl, yDO_bad sp hbx, (yF_tr (yF_sub (by rfl) f234) (yF_tr (yF_D h240 (by rfl)) (yF_tr (yF_sub (by rfl) f242) (yF_tr (yF_sub (by rfl) f245) (yF_tr (yF_D h251 (by rfl)) (yF_tr (yF_sub (by rfl) f254) (yF_D h257 (by rfl))))))))⟩
        | inr q254 =>
          rw [h254] at o254
          have ln254 : yK _ := Nat.le_trans (yNum_le h254) (by decide : 60 ≤ 1000)
          obtain rfl := yNum_inr h254
          obtain ⟨rfl, ok254⟩ := (show _ ∧ _ from o254)
          have hC254 : yCM T n m (yto T n m (yto T n m (yto T n m (yto T n m p)))) V254 _ := ok254
          have g260 := (yF_n f254 (by rfl) (mD_n h251 (by decide) (yF_n f245 (by rfl) (yF_n f242 (by rfl) (mD_n h240 (by decide) (yF_n f234 (by rfl) g34))))))
          refine y_ist y35_92 g260 (by omega) (by decide) ?_
          intro σ262 h261
          refine w_A y35_93 rfl ?_
          have g263 := (mD_n h261 (by decide) (yF_n f254 (by rfl) g253))
          refine y_gf y35_94 g263 rfl d15 ?_
          refine w_A y35_97 rfl ?_
          refine y_gf y35_98 g263 rfl d2 ?_
          refine y_ilE y35_101 h261.2.1 rfl rfl (by omega) (by decide) (if_pos rfl) ?_
          refine w_K y35_102 ?_
          refine w_icT y35_103 rfl (decide_eq_true (y_oN ln254)) ?_
          refine w_A y35_108 rfl ?_
          refine y_dup y35_109 rfl ?_
          refine y_gf y35_110 g263 rfl d2 ?_
          refine w_K y35_113 ?_
          refine w_add y35_114 ?_
          refine y_pf y35_115 g263 rfl rfl ?_
          intro σ265 h264
          refine w_K y35_118 ?_
          have ef : yFst T n m ng 6 s p = .inr (s, yto T n m p) := by unfold yFst; rw [if_neg (by omega)]
          have en : yNew T n m nb ng (7 + ng) s (yto T n m p) = .inr ((s.1, vp_updL s.2.1 (7 + ng) (yrv T n (yto T n m p)), s.2.2), (yto T n m (yto T n m p))) := by rw [yNw_new, h235, yThen_r]
          have sp : yTwo T n m nb ng 1 6 (7 + ng) (26 + ng) 1 9 (32 + ng) 1 60 ng s p = .inr ((upd (upd (upd (s.1, vp_updL s.2.1 (7 + ng) (yrv T n (yto T n m p)), s.2.2).1 (26 + ng) (Int32.ofNat (ynN T (ysk T n (yto T n m (yto T n m p))) (yln T n (yto T n m (yto T n m p))))), (s.1, vp_updL s.2.1 (7 + ng) (yrv T n (yto T n m p)), s.2.2).2).1 (32 + ng) (Int32.ofNat (ynN T (ysk T n (yto T n m (yto T n m (yto T n m p)))) (yln T n (yto T n m (yto T n m (yto T n m p)))))), (upd (s.1, vp_updL s.2.1 (7 + ng) (yrv T n (yto T n m p)), s.2.2).1 (26 + ng) (Int32.ofNat (ynN T (ysk T n (yto T n m (yto T n m p))) (yln T n (yto T n m (yto T n m p))))), (s.1, vp_updL s.2.1 (7 + ng) (yrv T n (yto T n m p)), s.2.2).2).2).1 1 (Int32.ofNat (ng + 1)), (upd (upd (s.1, vp_updL s.2.1 (7 + ng) (yrv T n (yto T n m p)), s.2.2).1 (26 + ng) (Int32.ofNat (ynN T (ysk T n (yto T n m (yto T n m p))) (yln T n (yto T n m (yto T n m p))))), (s.1, vp_updL s.2.1 (7 + ng) (yrv T n (yto T n m p)), s.2.2).2).1 (32 + ng) (Int32.ofNat (ynN T (ysk T n (yto T n m (yto T n m (yto T n m p)))) (yln T n (yto T n m (yto T n m (yto T n m p)))))), (upd (s.1, vp_updL s.2.1 (7 + ng) (yrv T n (yto T n m p)), s.2.2).1 (26 + ng) (Int32.ofNat (ynN T (ysk T n (yto T n m (yto T n m p))) (yln T n (yto T n m (yto T n m p))))), (s.1, vp_updL s.2.1 (7 + ng) (yrv T n (yto T n m p)), s.2.2).2).2).2), (yto T n m (yto T n m (yto T n m (yto T n m p))))) := by unfold yTwo; rw [ef, yThen_r, en, yThen_r, yPut_r h245, yThen_r, yPut_r h254, yThen_r]
          have u : ∀ j, ¬ j = 1 → ¬ j = (26 + ng) → ¬ j = (32 + ng) → upd (upd (upd s.1 (26 + ng) (Int32.ofNat (ynN T (ysk T n (yto T n m (yto T n m p))) (yln T n (yto T n m (yto T n m p)))))) (32 + ng) (Int32.ofNat (ynN T (ysk T n (yto T n m (yto T n m (yto T n m p)))) (yln T n (yto T n m (yto T n m (yto T n m p))))))) 1 (Int32.ofNat (ng + 1)) j = s.1 j := fun j h1 h2 h3 => by
            rw [upd_at, if_neg h1, upd_at, if_neg h3, upd_at, if_neg h2]
          have u0 : upd (upd (upd s.1 (26 + ng) (Int32.ofNat (ynN T (ysk T n (yto T n m (yto T n m p))) (yln T n (yto T n m (yto T n m p)))))) (32 + ng) (Int32.ofNat (ynN T (ysk T n (yto T n m (yto T n m (yto T n m p)))) (yln T n (yto T n m (yto T n m (yto T n m p))))))) 1 (Int32.ofNat (ng + 1)) 1 = Int32.ofNat (ng + 1) := y_ups
          have hC266 := yCM_fr hC254 (show yFr [20, 22, 24, 26, 28, 30, 32, 34] _ _ from (yF_tr (yF_D h261 (by rfl)) (yF_D h264 (by rfl)))) (by rfl)
          have hN2 : yNms ((upd (upd (upd (s.1, vp_updL s.2.1 (7 + ng) (yrv T n (yto T n m p)), s.2.2).1 (26 + ng) (Int32.ofNat (ynN T (ysk T n (yto T n m (yto T n m p))) (yln T n (yto T n m (yto T n m p))))), (s.1, vp_updL s.2.1 (7 + ng) (yrv T n (yto T n m p)), s.2.2).2).1 (32 + ng) (Int32.ofNat (ynN T (ysk T n (yto T n m (yto T n m (yto T n m p)))) (yln T n (yto T n m (yto T n m (yto T n m p)))))), (upd (s.1, vp_updL s.2.1 (7 + ng) (yrv T n (yto T n m p)), s.2.2).1 (26 + ng) (Int32.ofNat (ynN T (ysk T n (yto T n m (yto T n m p))) (yln T n (yto T n m (yto T n m p))))), (s.1, vp_updL s.2.1 (7 + ng) (yrv T n (yto T n m p)), s.2.2).2).2).1 1 (Int32.ofNat (ng + 1)), (upd (upd (s.1, vp_updL s.2.1 (7 + ng) (yrv T n (yto T n m p)), s.2.2).1 (26 + ng) (Int32.ofNat (ynN T (ysk T n (yto T n m (yto T n m p))) (yln T n (yto T n m (yto T n m p))))), (s.1, vp_updL s.2.1 (7 + ng) (yrv T n (yto T n m p)), s.2.2).2).1 (32 + ng) (Int32.ofNat (ynN T (ysk T n (yto T n m (yto T n m (yto T n m p)))) (yln T n (yto T n m (yto T n m (yto T n m p)))))), (upd (s.1, vp_updL s.2.1 (7 + ng) (yrv T n (yto T n m p)), s.2.2).1 (26 + ng) (Int32.ofNat (ynN T (ysk T n (yto T n m (yto T n m p))) (yln T n (yto T n m (yto T n m p))))), (s.1, vp_updL s.2.1 (7 + ng) (yrv T n (yto T n m p)), s.2.2).2).2).2)) (nb) (ng + 1) bn (vp_updL gn ng v238) := by
            refine ⟨fun b hb2 => ?_, fun g hg2 => ?_⟩
            · show yRel (vp_updL s.2.1 (7 + ng) (yrv T n (yto T n m p)) b) (bn b)
              rw [updL_at, if_neg (by omega)]; exact hN.1 b hb2
            · show yRel (vp_updL s.2.1 (7 + ng) (yrv T n (yto T n m p)) (7 + g)) (vp_updL gn ng v238 g)
              by_cases e : g = ng
              · rw [updL_at, if_pos (by omega), updL_at, if_pos e]; exact hval238 (yNw_k h235)
              · rw [updL_at, if_neg (by omega), updL_at, if_neg e]; exact hN.2 g (by omega)
          have g267 := (mD_n h264 (by decide) (mD_n h261 (by decide) (yF_n f254 (by rfl) (mD_n h251 (by decide) (yF_n f245 (by rfl) (yF_n f242 (by rfl) (mD_n h240 (by decide) (yF_n f234 (by rfl) g22))))))))
          have g268 := (mD_n h264 (by decide) (mD_n h261 (by decide) (yF_n f254 (by rfl) (mD_n h251 (by decide) (yF_n f245 (by rfl) (yF_n f242 (by rfl) (mD_n h240 (by decide) (yF_n f234 (by rfl) g24))))))))
          have g269 := (mD_n h264 (by decide) (mD_n h261 (by decide) (yF_n f254 (by rfl) (mD_n h251 (by decide) (yF_n f245 (by rfl) (yF_n f242 (by rfl) (mD_n h240 (by decide) (yF_n f234 (by rfl) g26))))))))
          have g270 := (mD_n h264 (by decide) (mD_n h261 (by decide) (yF_n f254 (by rfl) (mD_n h251 (by decide) (yF_n f245 (by rfl) (yF_n f242 (by rfl) (mD_n h240 (by decide) (yF_n f234 (by rfl) g28))))))))
          have g271 := (mD_n h264 (by decide) (mD_n h261 (by decide) (yF_n f254 (by rfl) (mD_n h251 (by decide) (yF_n f245 (by rfl) (yF_n f242 (by rfl) h240.2.1))))))
          have g272 := (mD_n h264 (by decide) (mD_n h261 (by decide) (yF_n f254 (by rfl) h251.2.1)))
          have g273 := (mD_n h264 (by decide) h261.2.1)
          have hD2 : yCD ((upd (upd (upd (s.1, vp_updL s.2.1 (7 + ng) (yrv T n (yto T n m p)), s.2.2).1 (26 + ng) (Int32.ofNat (ynN T (ysk T n (yto T n m (yto T n m p))) (yln T n (yto T n m (yto T n m p))))), (s.1, vp_updL s.2.1 (7 + ng) (yrv T n (yto T n m p)), s.2.2).2).1 (32 + ng) (Int32.ofNat (ynN T (ysk T n (yto T n m (yto T n m (yto T n m p)))) (yln T n (yto T n m (yto T n m (yto T n m p)))))), (upd (s.1, vp_updL s.2.1 (7 + ng) (yrv T n (yto T n m p)), s.2.2).1 (26 + ng) (Int32.ofNat (ynN T (ysk T n (yto T n m (yto T n m p))) (yln T n (yto T n m (yto T n m p))))), (s.1, vp_updL s.2.1 (7 + ng) (yrv T n (yto T n m p)), s.2.2).2).2).1 1 (Int32.ofNat (ng + 1)), (upd (upd (s.1, vp_updL s.2.1 (7 + ng) (yrv T n (yto T n m p)), s.2.2).1 (26 + ng) (Int32.ofNat (ynN T (ysk T n (yto T n m (yto T n m p))) (yln T n (yto T n m (yto T n m p))))), (s.1, vp_updL s.2.1 (7 + ng) (yrv T n (yto T n m p)), s.2.2).2).1 (32 + ng) (Int32.ofNat (ynN T (ysk T n (yto T n m (yto T n m (yto T n m p)))) (yln T n (yto T n m (yto T n m (yto T n m p)))))), (upd (s.1, vp_updL s.2.1 (7 + ng) (yrv T n (yto T n m p)), s.2.2).1 (26 + ng) (Int32.ofNat (ynN T (ysk T n (yto T n m (yto T n m p))) (yln T n (yto T n m (yto T n m p))))), (s.1, vp_updL s.2.1 (7 + ng) (yrv T n (yto T n m p)), s.2.2).2).2).2)) (nb) (ng + 1) l _ _ := ⟨_, _, _, _, _, _, _, ⟨h264.2.1, g267, g268, g269, g270, g271, g272, g273⟩, ⟨d9, d10, d11, d12, d13, d14, d15⟩, ⟨d0, d1, rfl⟩, ⟨(d3).trans (congrArg Value.int (u 2 (by omega) (by omega) (by omega))).symm, (d4).trans (congrArg Value.int (u 3 (by omega) (by omega) (by omega))).symm, (d5).trans (congrArg Value.int (u 4 (by omega) (by omega) (by omega))).symm, d6, d7, d8⟩, hN2, fun b hb2 => (hH b hb2).trans (u (19 + b) (by omega) (by omega) (by omega)).symm⟩
          exact y_ret y35_119 rfl ⟨true, _, _, rfl, yDO_good sp hC266 hD2 ⟨⟨(u 0 (by omega) (by omega) (by omega)).trans hb, u0⟩, by omega, by omega⟩, (yF_tr (yF_sub (by rfl) f234) (yF_tr (yF_D h240 (by rfl)) (yF_tr (yF_sub (by rfl) f242) (yF_tr (yF_sub (by rfl) f245) (yF_tr (yF_D h251 (by rfl)) (yF_tr (yF_sub (by rfl) f254) (yF_tr (yF_D h261 (by rfl)) (yF_D h264 (by rfl)))))))))⟩
  · skip
    refine y_icF y35_6 rfl (by omega) (by omega) (by simp only [zch]; omega) ?_
    refine w_A y35_9 rfl ?_
    refine w_K y35_10 ?_
    obtain ⟨σ274, r274, V274, h274, f274⟩ := yc_rfE (L := L) (xs := xs) (d := d + 1) (k := 4) hv (yCM_g hC) (.inl (by rw [hkw]; decide))
    refine y_call y35_11 (y_args6 (yCM_g hC) rfl rfl) rfl r274 ?_
    have sp : yTwo T n m nb ng 1 6 (7 + ng) (26 + ng) 1 9 (32 + ng) 1 60 ng s p = .inl (ybd T n m p 4) := by unfold yTwo yFst; rw [if_pos (by omega), yThen_l]
    exact y_ret y35_14 rfl ⟨false, _, D, rfl, yDO_bad sp h274, (yF_sub (by rfl) f274)⟩
