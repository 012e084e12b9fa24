/-! ===== the last operations ===== -/
section IVR
variable {p : Program} {l : Launch} {e : Env} {R : Room} {s : State} {m : MethodId} {args : Array Value} {below : List Frame} {meth : Method} {c : Code} {Q : State → Prop} {ad cy : Nat → Nat} {D : va_G} {base L : Nat} {xs : Nat → Int32} {c0 n0 nL : Nat}
variable {cc : ByteArray} {pc pc' len own kx : Nat} {nm : String} {lv lv' : iv_L} {st st' : List Value} {σ σ' : iv_H}
theorem iv_size {H : Heap} {locs : List Loc} (had : ∀ k, ad (2 * k) = base + k) (hP : va_P D vwCl (iv_W ad cy σ) H) (hS : va_S (iv_A base) s.heap H locs) (hz : s.heap.size = base + c0) (hc : c0 ≤ σ.1) (hs : H.size ≤ s.heap.size + (σ.1 - c0)) : H.size = base + σ.1 := by
  have h1 := hS.1
  by_cases h0 : σ.1 = 0
  · omega
  · have h2 : ad (2 * (σ.1 - 1)) < H.size := (hP _ _ (iv_W_at (show σ.1 - 1 < σ.1 by omega))).lt
    rw [had] at h2
    omega
theorem iv_ups_lo {f : Nat → iv_E} {k n j : Nat} {o x : iv_E} (h : j < k) : iv_ups f k n o x j = f j := by
  unfold iv_ups
  rw [show Nat.beq j k = false from by cases hb : Nat.beq j k; rfl; exact absurd (Nat.eq_of_beq_eq_true hb) (by omega)]
  rw [show Nat.blt k j = false from by cases hb : Nat.blt k j; rfl; rw [Nat.blt_eq] at hb; exact absurd hb (by omega)]
  rfl
theorem iv_ups_at {f : Nat → iv_E} {k n : Nat} {o x : iv_E} : iv_ups f k n o x k = o := by
  unfold iv_ups
  rw [Nat.beq_refl]
  rfl
theorem iv_ups_hi {f : Nat → iv_E} {k n j : Nat} {o x : iv_E} (h : k < j) (h2 : j ≤ k + n) : iv_ups f k n o x j = x := by
  unfold iv_ups
  rw [show Nat.beq j k = false from by cases hb : Nat.beq j k; rfl; exact absurd (Nat.eq_of_beq_eq_true hb) (by omega)]
  rw [show Nat.blt k j = true from by rw [Nat.blt_eq]; exact h]
  rw [show Nat.ble j (k + n) = true from Nat.ble_eq_true_of_le h2]
  rfl
theorem iv_s_Nm (C : iv_C0 ad cy D base L xs p s m args meth c cc nL own nm) (hl : Cond.classLink (iv_R own) kx "[[I" ∈ iv_G) (hd : decode cc pc = .ok (.multianewarray kx 2, 4)) (hz : s.heap.size = base + c0) (hc0 : c0 ≤ σ.1) (hn0 : n0 ≤ σ.2.2) (hRc : σ'.1 - c0 ≤ R.cells) (hRs : σ'.2.2 - n0 ≤ R.slots) (k : iv_Nx ad cy D base c0 n0 nL p l e R s m args below meth c Q pc' lv' st' σ') (h : iv_oNm L xs pc lv st σ = some (pc', lv', st', σ')) : iv_Nx ad cy D base c0 n0 nL p l e R s m args below meth c Q pc lv st σ := by
  obtain ⟨hx, hb, hml, hown, hts, hK, hnm⟩ := C
  unfold iv_oNm at h
  split at h
  · rename_i j n r
    cases hbg : (iv_big n || iv_big j) <;> rw [hbg] at h <;> simp only [cond_true, cond_false] at h
    · rw [Bool.or_eq_false_iff] at hbg
      obtain ⟨g1, g2⟩ := iv_big_ok hbg.1
      obtain ⟨g3, g4⟩ := iv_big_ok hbg.2
      simp only [Option.some.injEq, Prod.mk.injEq] at h
      obtain ⟨rfl, rfl, rfl, rfl⟩ := h
      have hRc : σ.1 + 1 + n.toNatClampNeg - c0 ≤ R.cells := hRc
      have hRs : σ.2.2 + n.toNatClampNeg + n.toNatClampNeg * j.toNatClampNeg - n0 ≤ R.slots := hRs
      have had := hK.2.2.2.2.2
      intro H locs ls hvv hP hS
      intro T hT X
      have hsz : H.size = base + σ.1 := iv_size had hP hS hz hc0 (by rw [← hT]; exact X.heapSize)
      obtain ⟨vm₁, cA, cI, fA, fI, X', step⟩ := mu_step X hx hown (hts _ hl) hK.1.2.2.2 (hts _ (iv_glob 11 rfl)) (g := F0 m pc ls (iv_sm ad (.int j :: .int n :: r))) rfl (by rw [hb]; exact hd) (n := n) (k := j) (rest := iv_sm ad r) rfl g1 g3 g2 g4 (by omega) (by omega)
      have eA : cA = cy 7 := Option.some.inj (fA.symm.trans (hK.1.1.2 7 _ rfl).2)
      have eI : cI = cy 0 := Option.some.inj (fI.symm.trans (hK.1.1.2 0 _ rfl).2)
      subst eA; subst eI
      have hTs : (T.setVm vm₁).heap.size = base + σ.1 := by show T.heap.size = _; rw [hT]; exact hsz
      have hTh : (T.setVm vm₁).heap = H := hT
      obtain ⟨f1, f2, -, -⟩ := mu_fill_ok (T.setVm vm₁) (cy 7) (cy 0) n.toNatClampNeg j.toNatClampNeg n.toNatClampNeg
      have hP1 : va_P D vwCl (iv_W ad cy (σ.1 + 1 + n.toNatClampNeg, iv_ups σ.2.1 σ.1 n.toNatClampNeg (.inl (7, n.toNatClampNeg, .inr (.inr (.inr (.inr (fun i => if i < n.toNatClampNeg then some (2 * (σ.1 + 1 + i)) else none)))))) (.inl (0, j.toNatClampNeg, .inl (fun _ => 0))), σ.2.2 + n.toNatClampNeg + n.toNatClampNeg * j.toNatClampNeg)) (mu_fill (T.setVm vm₁) (cy 7) (cy 0) n.toNatClampNeg j.toNatClampNeg n.toNatClampNeg).heap := by
        intro k9 q hq
        obtain ⟨hk9, rfl⟩ := iv_W_of hq
        have hk9 : k9 < σ.1 + 1 + n.toNatClampNeg := hk9
        dsimp only
        by_cases hlo : k9 < σ.1
        · rw [show (iv_ups σ.2.1 σ.1 n.toNatClampNeg (.inl (7, n.toNatClampNeg, .inr (.inr (.inr (.inr (fun i => if i < n.toNatClampNeg then some (2 * (σ.1 + 1 + i)) else none)))))) (.inl (0, j.toNatClampNeg, .inl (fun _ => 0)))) k9 = σ.2.1 k9 from iv_ups_lo hlo]
          refine (hP k9 _ (iv_W_at hlo)).kept ?_
          have h9 : ad (2 * k9) < (T.setVm vm₁).heap.size := by rw [hTs, had]; omega
          show (mu_fill (T.setVm vm₁) (cy 7) (cy 0) n.toNatClampNeg j.toNatClampNeg n.toNatClampNeg).heap[ad (2 * k9)]? = H[ad (2 * k9)]?
          rw [mu_fill_old (T.setVm vm₁) (cy 7) (cy 0) n.toNatClampNeg j.toNatClampNeg h9, hTh]
        · by_cases hat : k9 = σ.1
          · subst hat
            rw [show (iv_ups σ.2.1 σ.1 n.toNatClampNeg (.inl (7, n.toNatClampNeg, .inr (.inr (.inr (.inr (fun i => if i < n.toNatClampNeg then some (2 * (σ.1 + 1 + i)) else none)))))) (.inl (0, j.toNatClampNeg, .inl (fun _ => 0)))) σ.1 = _ from iv_ups_at]
            show (mu_fill (T.setVm vm₁) (cy 7) (cy 0) n.toNatClampNeg j.toNatClampNeg n.toNatClampNeg).heap[ad (2 * σ.1)]? = some (vp_cell (cy 7) (n.toNatClampNeg, .inr (.inr (.inr (.inr (fun i => (if i < n.toNatClampNeg then some (2 * (σ.1 + 1 + i)) else none).map ad))))))
            rw [had, ← hTs, f2, mu_out_arr, vp_cell_q]
            refine congrArg some (congrArg (arrV (cy 7) n.toNatClampNeg) (funext fun i => congrArg va_rf ?_))
            by_cases hi : i < n.toNatClampNeg
            · rw [if_pos hi, if_pos hi, Option.map_some, had, hTs]
              congr 1
              omega
            · rw [if_neg hi, if_neg hi]; rfl
          · rw [show (iv_ups σ.2.1 σ.1 n.toNatClampNeg (.inl (7, n.toNatClampNeg, .inr (.inr (.inr (.inr (fun i => if i < n.toNatClampNeg then some (2 * (σ.1 + 1 + i)) else none)))))) (.inl (0, j.toNatClampNeg, .inl (fun _ => 0)))) k9 = _ from iv_ups_hi (by omega) (by omega)]
            show (mu_fill (T.setVm vm₁) (cy 7) (cy 0) n.toNatClampNeg j.toNatClampNeg n.toNatClampNeg).heap[ad (2 * k9)]? = some (vp_cell (cy 0) (j.toNatClampNeg, .inl (fun _ => 0)))
            have h9 := mu_fill_in (T.setVm vm₁) (cy 7) (cy 0) n.toNatClampNeg j.toNatClampNeg n.toNatClampNeg (k9 - σ.1 - 1) (by omega)
            rw [show (T.setVm vm₁).heap.size + 1 + (k9 - σ.1 - 1) = ad (2 * k9) from by rw [hTs, had]; omega] at h9
            rw [h9, vp_cell_i, ← arrV_new]
      have hS1 : va_S (iv_A base) s.heap (mu_fill (T.setVm vm₁) (cy 7) (cy 0) n.toNatClampNeg j.toNatClampNeg n.toNatClampNeg).heap (locs ++ (List.range n.toNatClampNeg).map fun i => ⟨T.heap.size, i⟩) := by
        refine ⟨by rw [f1, hTs]; have := hS.1; omega, fun q h1 h2 => ?_, fun q hq => ?_⟩
        · have h9 : q < (T.setVm vm₁).heap.size := by rw [hTs]; have : ¬ base ≤ q := h2; omega
          rw [mu_fill_old (T.setVm vm₁) (cy 7) (cy 0) n.toNatClampNeg j.toNatClampNeg h9, hTh]
          exact hS.2.1 q h1 h2
        · rcases List.mem_append.mp hq with h9 | h9
          · exact hS.2.2 q h9
          · obtain ⟨i, -, rfl⟩ := List.mem_map.mp h9
            show base ≤ T.heap.size
            rw [hT]
            omega
      have X2 : Stand p l e R s m args below meth c (mu_fill (T.setVm vm₁) (cy 7) (cy 0) n.toNatClampNeg j.toNatClampNeg n.toNatClampNeg) (locs ++ (List.range n.toNatClampNeg).map fun i => ⟨T.heap.size, i⟩) (σ.1 + 1 + n.toNatClampNeg - c0) (σ.2.2 + n.toNatClampNeg + n.toNatClampNeg * j.toNatClampNeg - n0) := stand_widen X' (by omega) (by omega)
      obtain ⟨t2, a1, b1⟩ := k _ _ ls hvv hP1 hS1 _ rfl X2
      refine ⟨t2, step t2 ?_, b1⟩
      have ead : T.heap.size = ad (2 * σ.1) := by rw [had, hT]; exact hsz
      rw [ead]
      exact a1
    · cases h
  · cases h
/-- Enum.ordinal() of a constant of Word -/
def iv_yE : MethodName := ⟨"java/lang/Enum", "ordinal", "()I"⟩
def iv_wE : List Cond := [.code iv_yE prog_20_method_2_code 1 (some .int), .fieldLink "java/lang/Enum" 7 "java/lang/Enum" "ordinal" "I"]
theorem iv_dE0 : decode prog_20_method_2_code 0 = .ok (.aload_n 0, 1) := by decide +kernel
theorem iv_dE1 : decode prog_20_method_2_code 1 = .ok (.getfield 7, 3) := by decide +kernel
theorem iv_dE4 : decode prog_20_method_2_code 4 = .ok (.ireturn, 1) := by decide +kernel
theorem iv_c_ord (l : Launch) (ad cy : Nat → Nat) (D : va_G) (base L : Nat) (xs : Nat → Int32) (j : Nat) (hj : j < 28) : Met l iv_yE iv_wE ({ frames := 0, cells := 0, slots := 0, locals := 0 }) (va_Pc [.ref (ad (2 * j + 3))] (fun U => iv_K ad cy D base L xs U)) (va_Qi (S := Unit) (fun r _ => r = Int32.ofNat j) (fun _ _ => True) (fun _ => False)) 0 0 (fun _ => False) := by
  refine Met.ofW (cc := prog_20_method_2_code) (maxL := 1) (ret := some .int) (by decide +kernel) rfl ?_
  intro p e s m args below meth c s₁ B hml hv
  obtain ⟨rfl, hK⟩ := hv
  have hx := B.exec
  have hb := B.bytes
  have hr := B.returns
  have hts := atoms_spec (ws := iv_wE) B.pre
  have hown : s.vm.findClass "java/lang/Enum" = some m.cls := findClass_of_methodNamed B.named
  have hlocks := B.notSynchronized
  have hl := lv_entry ([.ref (ad (2 * j + 3))]) (n := 1) (Nat.le_of_ble_eq_true rfl)
  rw [lg_entry_eq]
  generalize (lg_sl ([.ref (ad (2 * j + 3))]) ++ List.replicate (1 - (lg_sl ([.ref (ad (2 * j + 3))])).length) Slot.unset).toArray = ls at hl ⊢
  have hl : lv_has ls 1 [(0, .ref (ad (2 * j + 3)))] := hl
  refine lv_aload_n hx hb iv_dE0 rfl (lv_at hl 0 rfl) ?_
  refine va_getE (A := iv_A base) (ad := fun j => ad (2 * j + 3)) (i := j) hx hb hK.2.1.1 hj va_S.rf hown (q := ("java/lang/Enum", "ordinal", "I", (List.range 28).map Int32.ofNat)) (List.mem_cons_self) (hts (.fieldLink "java/lang/Enum" 7 "java/lang/Enum" "ordinal" "I") (by decide +kernel)) (fun _ h9 => h9) iv_dE1 ?_
  have ej : ((List.range 28).map Int32.ofNat).getD j 0 = Int32.ofNat j := by
    rw [List.getD_eq_getElem?_getD, List.getElem?_map, List.getElem?_range hj]
    rfl
  rw [show (("java/lang/Enum", "ordinal", "I", (List.range 28).map Int32.ofNat) : String × String × String × List Int32).2.2.2.getD j 0 = Int32.ofNat j from ej]
  exact W.iret (v := Int32.ofNat j) hx hb hr (fun t ht hW => ⟨⟨Int32.ofNat j, (), rfl, rfl, trivial⟩, by rw [ht]; exact Nat.le_refl _, fun q _ _ => by rw [ht]⟩) (fun q hq => by cases hq) iv_dE4
theorem iv_goodIn {ws : List Cond} (h : ∀ w ∈ ws, w ∈ iv_G) : GoodIn iv_G ws := fun w hw => ⟨h w hw, good_of_word (iv_G_good w (h w hw))⟩
theorem iv_s_Ord (C : iv_C0 ad cy D base L xs p s m args meth c cc nL own nm) (hl : Cond.methodLink (iv_R own) kx ⟨RX11, "ordinal", "()I"⟩ ∈ iv_G) (hd : decode cc pc = .ok (.invokevirtual kx, 3)) (hR : 1 ≤ R.frames ∧ 60 ≤ R.locals) (hRc : σ.1 - c0 ≤ R.cells) (hRs : σ.2.2 - n0 ≤ R.slots) (k : iv_Nx ad cy D base c0 n0 nL p l e R s m args below meth c Q pc' lv' st' σ') (h : iv_oOrd L xs pc lv st σ = some (pc', lv', st', σ')) : iv_Nx ad cy D base c0 n0 nL p l e R s m args below meth c Q pc lv st σ := by
  obtain ⟨hx, hb, hml, hown, hts, hK, hnm⟩ := C
  unfold iv_oOrd at h
  split at h
  · rename_i a r
    cases hq : (iv_isW a && Nat.ble (iv_cs r) 8) <;> rw [hq] at h <;> simp only [cond_true, cond_false] at h
    · cases h
    · rw [Bool.and_eq_true] at hq
      have h8 := Nat.le_of_ble_eq_true hq.2
      obtain ⟨j, hj, rfl⟩ := iv_isW_of hq.1
      simp only [Option.some.injEq, Prod.mk.injEq] at h
      obtain ⟨rfl, rfl, rfl, rfl⟩ := h
      intro H locs ls hvv hP hS
      have hG : GoodIn iv_G (va_wsU (iv_R own) kx RX11 "java/lang/Enum" ⟨RX11, "ordinal", "()I"⟩ iv_yE iv_wE) := iv_goodIn fun w hw => by
        simp only [va_wsU, iv_wE, List.cons_append, List.nil_append, List.mem_cons, List.not_mem_nil, or_false] at hw
        rcases hw with rfl | rfl | rfl | rfl | rfl | rfl | rfl
        · exact hl
        · exact iv_glob 5 rfl
        · exact iv_glob 6 rfl
        · exact iv_glob 7 rfl
        · exact iv_glob 9 rfl
        · exact iv_glob 8 rfl
        · exact iv_glob 10 rfl
      refine va_calli (A0 := iv_A base) (H0 := s.heap) (va_runU (As := []) (rest := iv_sm ad r) ⟨hx, hb, hml, hown, hts⟩ (iv_c_ord l ad cy D base L xs j hj) (va_cwU 0 hts hG rfl rfl rfl rfl ⟨by decide +kernel, by decide +kernel, by decide +kernel⟩ ⟨hR.1, by have := hR.2; show 8 + (1 + 11) + 0 ≤ _; omega⟩) ⟨fun a U g mk q => ⟨q.1, iv_K_to q.2 (State.WarmedH.refl U) (Nat.le_refl _) (fun _ _ _ => rfl)⟩, va_recvE (ad := fun j => ad (2 * j + 3)) (i := j) hK.2.1.1 hj hS, fun U hU hW => ⟨rfl, iv_K_to hK hW (by rw [hU]; exact hS.1) (fun q h1 h2 => by rw [hU]; exact hS.2.1 q h1 h2)⟩⟩ rfl rfl hvv.1 rfl (lv_room (by rw [iv_cs_eq]; exact h8)) hd ⟨hRc, hRs⟩) hS (fun q _ h9 => h9.elim) (fun q h9 => h9.elim) (fun r9 u t H1 locs1 ht hvm hw hB hz1 hk1 hS1 => ?_)
      have hP1 : va_P D vwCl (iv_W ad cy σ) H1 := hP.kept (fun k9 q hq9 => hk1 q.1 ((hP k9 q hq9).lt) (fun z => z))
      rw [hw]
      have k2 := k H1 locs1 ls hvv hP1 hS1
      rw [show (2 * j + 3 - 3) / 2 = j by omega] at k2
      exact k2
  · cases h
end IVR
