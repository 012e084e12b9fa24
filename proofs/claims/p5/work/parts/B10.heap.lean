/-! ===== operations on the heap ===== -/
theorem iv_13 {P : Nat → Prop} (h0 : P 0) (h1 : P 1) (h2 : P 2) (h3 : P 3) (h4 : P 4) (h5 : P 5) (h6 : P 6) (h7 : P 7) (h8 : P 8) (h9 : P 9) (h10 : P 10) (h11 : P 11) (h12 : P 12) (ci : Nat) (h : ci < 13) : P ci := by
  rcases ci with _ | _ | _ | _ | _ | _ | _ | _ | _ | _ | _ | _ | _ | ci
  all_goals first | assumption | (exact absurd h (by omega))
theorem iv_cl_at (ci : Nat) (h : ci < 13) : vwCl[ci]? = some (iv_C ci, iv_T ci, iv_fn ci) :=
  iv_13 (P := fun ci => vwCl[ci]? = some (iv_C ci, iv_T ci, iv_fn ci)) rfl rfl rfl rfl rfl rfl rfl rfl rfl rfl rfl rfl rfl ci h
theorem iv_fty_ok (ci : Nat) (h : ci < 13) : ∀ k, k < iv_fn ci → parseFieldDescriptor (iv_T ci k).2.2.1 = some (iv_fty ci k) :=
  iv_13 (P := fun ci => ∀ k, k < iv_fn ci → parseFieldDescriptor (iv_T ci k).2.2.1 = some (iv_fty ci k)) tyX1_ok tyX2_ok tyX3_ok tyX4_ok tyX5_ok tyX6_ok tyX7_ok tyX8_ok tyX9_ok tyX10_ok tyX11_ok tyX12_ok tyX13_ok ci h
theorem iv_nm_ok (ci : Nat) (h : ci < 13) : ∀ a, a < iv_fn ci → ∀ b, b < iv_fn ci → a ≠ b → (iv_T ci a).2.1 ≠ (iv_T ci b).2.1 :=
  iv_13 (P := fun ci => ∀ a, a < iv_fn ci → ∀ b, b < iv_fn ci → a ≠ b → (iv_T ci a).2.1 ≠ (iv_T ci b).2.1) nmX1 nmX2 nmX3 nmX4 nmX5 nmX6 nmX7 nmX8 nmX9 nmX10 nmX11 nmX12 nmX13 ci h
theorem iv_lay_in (ci : Nat) (h : ci < 13) : ∀ w ∈ u_ws (iv_C ci) (iv_T ci) (iv_fn ci), w ∈ iv_G := by
  intro w hw
  obtain ⟨k, hk, rfl⟩ := List.mem_map.mp hw
  have h1 := List.all_eq_true.mp iv_lays ci (List.mem_range.mpr h)
  exact iv_w_in (List.all_eq_true.mp h1 k hk)
theorem iv_dv_ok0 : (List.range 13).all (fun ci => (List.range (iv_fn ci)).all (fun k => decide (defaultValue (iv_fty ci k) = iv_dv (iv_fty ci k)))) = true := by decide +kernel
theorem iv_dv_ok (ci : Nat) (h : ci < 13) (k : Nat) (hk : k < iv_fn ci) : defaultValue (iv_fty ci k) = iv_dv (iv_fty ci k) :=
  of_decide_eq_true (List.all_eq_true.mp (List.all_eq_true.mp iv_dv_ok0 ci (List.mem_range.mpr h)) k (List.mem_range.mpr hk))
theorem iv_dvs_len (ty : Nat → FieldType) : ∀ n, (iv_dvs ty n).length = n
  | 0 => rfl
  | n + 1 => by simp [iv_dvs, iv_dvs_len ty n]
theorem iv_dvs_at (ty : Nat → FieldType) : ∀ n j, j < n → (iv_dvs ty n)[j]? = some (iv_dv (ty j))
  | 0, _, h => absurd h (Nat.not_lt_zero _)
  | n + 1, j, h => by
    unfold iv_dvs
    by_cases hj : j < n
    · rw [List.getElem?_append_left (by rw [iv_dvs_len]; exact hj)]
      exact iv_dvs_at ty n j hj
    · have e : j = n := by omega
      subst e
      rw [List.getElem?_append_right (by rw [iv_dvs_len]; omega), iv_dvs_len]
      simp
theorem iv_v_dv (ad : Nat → Nat) (ty : FieldType) : iv_v ad (iv_dv ty) = iv_dv ty := by cases ty <;> rfl
theorem iv_fit_ok (ad : Nat → Nat) {ty : FieldType} {v : Value} (h : iv_fit ty v = true) : narrow ty (iv_v ad v) = iv_v ad v ∧ fits ty (iv_v ad v) = true := by
  unfold iv_fit at h
  split at h
  · exact ⟨rfl, rfl⟩
  · rename_i x
    rw [Bool.or_eq_true] at h
    rcases h with h | h
    · have e := of_decide_eq_true h
      subst e
      have q : narrow .boolean (.int 0) = .int 0 ∧ fits .boolean (.int 0) = true := by decide +kernel
      exact q
    · have e := of_decide_eq_true h
      subst e
      have q : narrow .boolean (.int 1) = .int 1 ∧ fits .boolean (.int 1) = true := by decide +kernel
      exact q
  · exact ⟨rfl, rfl⟩
  · exact ⟨rfl, rfl⟩
  · exact ⟨rfl, rfl⟩
  · cases h
theorem iv_rf (ad : Nat → Nat) (r : Option Nat) : iv_v ad (va_rf r) = va_rf (r.map ad) := by cases r <;> rfl
theorem iv_isW_of {a : Nat} (h : iv_isW a = true) : ∃ j, j < 28 ∧ a = 2 * j + 3 := by
  unfold iv_isW at h
  rw [Bool.and_eq_true, Bool.and_eq_true] at h
  have h1 := Nat.eq_of_beq_eq_true h.1
  have h2 := Nat.le_of_ble_eq_true h.2.1
  have h3 := Nat.le_of_ble_eq_true h.2.2
  exact ⟨(a - 3) / 2, by omega, by omega⟩
section IVH
variable {p : Program} {l : Launch} {e : Env} {R : Room} {s : State} {m : MethodId} {args : Array Value} {below : List Frame} {meth : Method} {c : Code} {Q : State → Prop} {ad cy : Nat → Nat} {D : va_G} {base L : Nat} {xs : Nat → Int32} {c0 n0 nL : Nat}
variable {cc : ByteArray} {pc pc' len own kx : Nat} {nm : String} {lv lv' : iv_L} {st st' : List Value} {σ σ' : iv_H}
theorem iv_Wsz {H : Heap} {locs : List Loc} {cells slots : Nat} {g : JFrame} (h : H.size ≤ s.heap.size + cells → W p l e R s m args below meth c H locs cells slots Q g) : W p l e R s m args below meth c H locs cells slots Q g := fun T hT X => h (by rw [← hT]; exact X.heapSize) T hT X
/-- the address of a cell that was made just now -/
theorem iv_fresh {q : Nat} {x : va_E} {H1 : Heap} (had : ∀ k, ad (2 * k) = base + k) (hP : va_P D vwCl (iv_W ad cy σ ++ [(q, x)]) H1) (hD : va_D (iv_A base) (iv_W ad cy σ ++ [(q, x)])) (hs : H1.size ≤ s.heap.size + (σ.1 - c0 + 1)) (hz : s.heap.size = base + c0) (hc : c0 ≤ σ.1) : q = ad (2 * σ.1) := by
  have hl : (iv_W ad cy σ).length = σ.1 := by simp [iv_W]
  have hq : (iv_W ad cy σ ++ [(q, x)])[σ.1]? = some (q, x) := by
    rw [List.getElem?_append_right (by omega), hl]
    simp
  have h1 : base ≤ q := hD.2 _ _ hq
  have h2 : q < H1.size := (hP _ _ hq).lt
  rw [had]
  by_cases hlt : q < base + σ.1
  · exfalso
    have hk : q - base < σ.1 := by omega
    have h3 : (iv_W ad cy σ ++ [(q, x)])[q - base]? = some (ad (2 * (q - base)), iv_e ad cy (σ.2.1 (q - base))) := by
      rw [List.getElem?_append_left (by omega)]
      exact iv_W_at hk
    have h4 := hD.1 _ _ _ _ hq h3 (by show q = ad (2 * (q - base)); rw [had]; omega)
    omega
  · omega
theorem iv_s_GF {ci j : Nat} (C : iv_C0 ad cy D base L xs p s m args meth c cc nL own nm) (hci : ci < 13) (hj : j < iv_fn ci) (hl : Cond.fieldLink (iv_R own) kx (iv_T ci j).1 (iv_T ci j).2.1 (iv_T ci j).2.2.1 ∈ iv_G) (hd : decode cc pc = .ok (.getfield kx, 3)) (k : iv_Nx ad cy D base c0 n0 nL p l e R s m args below meth c Q pc' lv' st' σ') (h : iv_oGF ci j L xs pc lv st σ = some (pc', lv', st', σ')) : iv_Nx ad cy D base c0 n0 nL p l e R s m args below meth c Q pc lv st σ := by
  obtain ⟨hx, hb, hml, hown, hts, hK, hnm⟩ := C
  unfold iv_oGF at h
  split at h
  · rename_i a r
    split at h
    · rename_i c2 fs hg
      obtain ⟨k0, rfl, hk0, he⟩ := iv_get_ok hg
      cases hb2 : Nat.beq ci c2 <;> rw [hb2] at h
      · cases h
      · have e2 := Nat.eq_of_beq_eq_true hb2
        subst e2
        simp only [cond_true] at h
        split at h
        · rename_i v hv
          simp only [Option.some.injEq, Prod.mk.injEq] at h
          obtain ⟨rfl, rfl, rfl, rfl⟩ := h
          intro H locs ls hvv hP hS
          have hat := iv_W_at (ad := ad) (cy := cy) hk0
          rw [he] at hat
          rw [iv_nth_eq] at hv
          exact va_get (D := D) (ci := ci) (v := iv_v ad v) (C := iv_C ci) (T := iv_T ci) (N := iv_fn ci) hx hb hts (iv_lay_in ci hci) hown hK.1.1 hP k0 hat (iv_cl_at ci hci) j hj (hts _ hl) (fun _ h9 => h9) (by rw [List.getElem?_map, hv]; rfl) hd (k H locs ls hvv hP hS)
        · cases h
    · cases h
  · cases h
theorem iv_s_PF {ci j : Nat} (C : iv_C0 ad cy D base L xs p s m args meth c cc nL own nm) (hci : ci < 13) (hj : j < iv_fn ci) (hl : Cond.fieldLink (iv_R own) kx (iv_T ci j).1 (iv_T ci j).2.1 (iv_T ci j).2.2.1 ∈ iv_G) (hfin : (iv_T ci j).2.2.2 = false ∨ ((iv_T ci j).2.2.2 = true ∧ nm = "<init>" ∧ (iv_T ci j).1 = iv_R own)) (hd : decode cc pc = .ok (.putfield kx, 3)) (k : iv_Nx ad cy D base c0 n0 nL p l e R s m args below meth c Q pc' lv' st' σ') (h : iv_oPF ci j (iv_fty ci j) L xs pc lv st σ = some (pc', lv', st', σ')) : iv_Nx ad cy D base c0 n0 nL p l e R s m args below meth c Q pc lv st σ := by
  obtain ⟨hx, hb, hml, hown, hts, hK, hnm⟩ := C
  unfold iv_oPF at h
  split at h
  · rename_i v a r
    split at h
    · rename_i c2 fs hg
      obtain ⟨k0, rfl, hk0, he⟩ := iv_get_ok hg
      cases hb2 : (Nat.beq ci c2 && (iv_fit (iv_fty ci j) v && Nat.blt j fs.length)) <;> rw [hb2] at h
      · cases h
      · rw [Bool.and_eq_true, Bool.and_eq_true] at hb2
        have e2 := Nat.eq_of_beq_eq_true hb2.1
        subst e2
        have hlt : j < fs.length := by have := hb2.2.2; rw [Nat.blt_eq] at this; exact this
        obtain ⟨f1, f2⟩ := iv_fit_ok ad hb2.2.1
        simp only [cond_true, Option.some.injEq, Prod.mk.injEq] at h
        obtain ⟨rfl, rfl, rfl, rfl⟩ := h
        rw [iv_put_eq] at k
        intro H locs ls hvv hP hS
        have hat := iv_W_at (ad := ad) (cy := cy) hk0
        rw [he] at hat
        have hset : (iv_W ad cy σ).set k0 (ad (2 * k0), .inr (ci, (fs.map (iv_v ad)).set j (iv_v ad v))) = iv_W ad cy (σ.1, iv_up σ.2.1 k0 (.inr (ci, fs.set j v)), σ.2.2) := by
          rw [← iv_W_put hk0]
          show _ = (iv_W ad cy σ).set k0 (ad (2 * k0), .inr (ci, (fs.set j v).map (iv_v ad)))
          rw [List.map_set]
        have kk : ∀ (H1 : Heap) (locs1 : List Loc), va_P D vwCl ((iv_W ad cy σ).set k0 (ad (2 * k0), .inr (ci, (fs.map (iv_v ad)).set j (iv_v ad v)))) H1 → va_D (iv_A base) ((iv_W ad cy σ).set k0 (ad (2 * k0), .inr (ci, (fs.map (iv_v ad)).set j (iv_v ad v)))) → va_S (iv_A base) s.heap H1 locs1 → W p l e R s m args below meth c H1 locs1 (σ.1 - c0) (σ.2.2 - n0) Q (F0 m (pc + 3) ls (iv_sm ad r)) := fun H1 locs1 hP1 hD1 hS1 => k H1 locs1 ls hvv (by rw [← hset]; exact hP1) hS1
        rcases hfin with hfin | ⟨hf1, hf2, hf3⟩
        · exact va_put (D := D) (ci := ci) (v := iv_v ad v) (ty := iv_fty ci j) (C := iv_C ci) (T := iv_T ci) (N := iv_fn ci) hx hb hts (iv_lay_in ci hci) (iv_fty ci) (iv_fty_ok ci hci) (iv_nm_ok ci hci) hown hK.1.1 hP (iv_D hK.2.2.2.2.2) hS k0 hat (iv_cl_at ci hci) j hj (hts _ hl) (fun _ h9 => h9) hfin (iv_fty_ok ci hci j hj) f1 f2 (by rw [List.length_map]; exact hlt) hd kk
        · exact va_putF (D := D) (ci := ci) (v := iv_v ad v) (ty := iv_fty ci j) (C := iv_C ci) (T := iv_T ci) (N := iv_fn ci) hx hb hts (iv_lay_in ci hci) (iv_fty ci) (iv_fty_ok ci hci) (iv_nm_ok ci hci) hown hK.1.1 hP (iv_D hK.2.2.2.2.2) hS k0 hat (iv_cl_at ci hci) j hj (hts _ hl) (fun _ h9 => h9) hf1 (hnm hf2) hf3 (iv_fty_ok ci hci j hj) f1 f2 (by rw [List.length_map]; exact hlt) hd kk
    · cases h
  · cases h
theorem iv_s_Il (C : iv_C0 ad cy D base L xs p s m args meth c cc nL own nm) (hd : decode cc pc = .ok (.iaload, 1)) (k : iv_Nx ad cy D base c0 n0 nL p l e R s m args below meth c Q pc' lv' st' σ') (h : iv_oIl L xs pc lv st σ = some (pc', lv', st', σ')) : iv_Nx ad cy D base c0 n0 nL p l e R s m args below meth c Q pc lv st σ := by
  obtain ⟨hx, hb, hml, hown, hts, hK, hnm⟩ := C
  unfold iv_oIl at h
  split at h
  · rename_i i a r
    cases h1 : Nat.beq a 1 <;> rw [h1] at h <;> simp only [cond_true, cond_false] at h
    · cases h2 : Nat.beq a 101 <;> rw [h2] at h <;> simp only [cond_true, cond_false] at h
      · split at h
        · rename_i n f hg
          obtain ⟨k0, rfl, hk0, he⟩ := iv_get_ok hg
          cases h3 : iv_in i n <;> rw [h3] at h <;> simp only [cond_true, cond_false] at h
          · cases h
          · simp only [Option.some.injEq, Prod.mk.injEq] at h
            obtain ⟨rfl, rfl, rfl, rfl⟩ := h
            intro H locs ls hvv hP hS
            have hat := iv_W_at (ad := ad) (cy := cy) hk0
            rw [he] at hat
            exact va_iald hx hb hK.1.1 hP k0 0 (n := n) (f := f) hat rfl (iv_in_ok h3) hd (k H locs ls hvv hP hS)
        · cases h
      · have ea := Nat.eq_of_beq_eq_true h2
        subst ea
        cases h3 : iv_in i 28 <;> rw [h3] at h <;> simp only [cond_true, cond_false] at h
        · cases h
        · simp only [Option.some.injEq, Prod.mk.injEq] at h
          obtain ⟨rfl, rfl, rfl, rfl⟩ := h
          intro H locs ls hvv hP hS
          exact va_ti hx hb hK.2.1.2.1 hS (iv_in_ok h3) rfl hd (k H locs ls hvv hP hS)
    · have ea := Nat.eq_of_beq_eq_true h1
      subst ea
      cases h3 : iv_in i L <;> rw [h3] at h <;> simp only [cond_true, cond_false] at h
      · cases h
      · simp only [Option.some.injEq, Prod.mk.injEq] at h
        obtain ⟨rfl, rfl, rfl, rfl⟩ := h
        intro H locs ls hvv hP hS
        obtain ⟨-, -, q1, q2, q3, q4⟩ := hK
        exact va_sld hx hb q1 (Nat.lt_of_lt_of_le q2 q3) (Nat.not_le.mpr q2) hS (iv_in_ok h3) hd (k H locs ls hvv hP hS)
  · cases h
theorem iv_s_Jl (C : iv_C0 ad cy D base L xs p s m args meth c cc nL own nm) (hd : decode cc pc = .ok (.laload, 1)) (k : iv_Nx ad cy D base c0 n0 nL p l e R s m args below meth c Q pc' lv' st' σ') (h : iv_oJl L xs pc lv st σ = some (pc', lv', st', σ')) : iv_Nx ad cy D base c0 n0 nL p l e R s m args below meth c Q pc lv st σ := by
  obtain ⟨hx, hb, hml, hown, hts, hK, hnm⟩ := C
  unfold iv_oJl at h
  split at h
  · rename_i i a r
    split at h
    · rename_i n f hg
      obtain ⟨k0, rfl, hk0, he⟩ := iv_get_ok hg
      cases h3 : iv_in i n <;> rw [h3] at h <;> simp only [cond_true, cond_false] at h
      · cases h
      · simp only [Option.some.injEq, Prod.mk.injEq] at h
        obtain ⟨rfl, rfl, rfl, rfl⟩ := h
        intro H locs ls hvv hP hS
        have hat := iv_W_at (ad := ad) (cy := cy) hk0
        rw [he] at hat
        exact va_lald hx hb hK.1.1 hP k0 1 (n := n) (f := f) hat rfl (iv_in_ok h3) hd (k H locs ls hvv hP hS)
    · cases h
  · cases h
theorem iv_s_Zl (C : iv_C0 ad cy D base L xs p s m args meth c cc nL own nm) (hd : decode cc pc = .ok (.baload, 1)) (k : iv_Nx ad cy D base c0 n0 nL p l e R s m args below meth c Q pc' lv' st' σ') (h : iv_oZl L xs pc lv st σ = some (pc', lv', st', σ')) : iv_Nx ad cy D base c0 n0 nL p l e R s m args below meth c Q pc lv st σ := by
  obtain ⟨hx, hb, hml, hown, hts, hK, hnm⟩ := C
  unfold iv_oZl at h
  split at h
  · rename_i i a r
    split at h
    · rename_i n f hg
      obtain ⟨k0, rfl, hk0, he⟩ := iv_get_ok hg
      cases h3 : iv_in i n <;> rw [h3] at h <;> simp only [cond_true, cond_false] at h
      · cases h
      · simp only [Option.some.injEq, Prod.mk.injEq] at h
        obtain ⟨rfl, rfl, rfl, rfl⟩ := h
        intro H locs ls hvv hP hS
        have hat := iv_W_at (ad := ad) (cy := cy) hk0
        rw [he] at hat
        exact va_zald hx hb hK.1.1 hP k0 2 (n := n) (f := f) hat rfl (iv_in_ok h3) hd (k H locs ls hvv hP hS)
    · cases h
  · cases h
/-- the type of an array's elements, by its tag -/
def iv_et (t : Nat) : FieldType := match t with
  | 0 => .int
  | 1 => .long
  | 2 => .boolean
  | 3 => .object RX4
  | 4 => .object RX8
  | 5 => .object RX7
  | 6 => .object RX11
  | _ => .array .int
theorem iv_tys_at (t : Nat) (h : t ≤ 7) : (iv_tys cy)[t]? = some (cy t, iv_et t) := by
  rcases t with _ | _ | _ | _ | _ | _ | _ | _ | t
  all_goals first | rfl | (exact absurd h (by omega))
theorem iv_s_Ql (C : iv_C0 ad cy D base L xs p s m args meth c cc nL own nm) (hd : decode cc pc = .ok (.aaload, 1)) (k : iv_Nx ad cy D base c0 n0 nL p l e R s m args below meth c Q pc' lv' st' σ') (h : iv_oQl L xs pc lv st σ = some (pc', lv', st', σ')) : iv_Nx ad cy D base c0 n0 nL p l e R s m args below meth c Q pc lv st σ := by
  obtain ⟨hx, hb, hml, hown, hts, hK, hnm⟩ := C
  unfold iv_oQl at h
  split at h
  · rename_i i a r
    split at h
    · rename_i t n f hg
      obtain ⟨k0, rfl, hk0, he⟩ := iv_get_ok hg
      cases h3 : (iv_in i n && (Nat.ble 3 t && Nat.ble t 7)) <;> rw [h3] at h <;> simp only [cond_true, cond_false] at h
      · cases h
      · rw [Bool.and_eq_true, Bool.and_eq_true] at h3
        simp only [Option.some.injEq, Prod.mk.injEq] at h
        obtain ⟨rfl, rfl, rfl, rfl⟩ := h
        intro H locs ls hvv hP hS
        have hat := iv_W_at (ad := ad) (cy := cy) hk0
        rw [he] at hat
        have hat : (iv_W ad cy σ)[k0]? = some (ad (2 * k0), .inl (cy t, n, .inr (.inr (.inr (.inr (fun i => (f i).map ad)))))) := hat
        have hin := iv_in_ok h3.1
        have hlt : i.toNatClampNeg < n := Nat.not_le.mp fun q => hin (Or.inr q)
        have t3 := Nat.le_of_ble_eq_true h3.2.1
        have t7 := Nat.le_of_ble_eq_true h3.2.2
        have hty : (iv_et t).isReference = true := by
          rcases t with _ | _ | _ | _ | _ | _ | _ | _ | t
          all_goals first | rfl | (exact absurd t3 (by omega)) | (exact absurd t7 (by omega))
        refine W.aald (v := va_rf ((f i.toNatClampNeg).map ad)) (ty := iv_et t) hx hb (hP k0 _ hat) ((hK.1.1.2 t _ (iv_tys_at t t7)).1 n (fun j => va_rf ((f j).map ad))) hty (fun q => by cases q) (by show ¬ (i < 0 ∨ (arrV _ _ _).slots.size ≤ _); rw [arrV_size]; exact hin) (by show (arrV _ _ _).slots[_]? = _; rw [arrV_read _ _ hlt]) rfl rfl hd ?_
        have k2 := k H locs ls hvv hP hS
        rw [show iv_sm ad (va_rf (f i.toNatClampNeg) :: r) = va_rf ((f i.toNatClampNeg).map ad) :: iv_sm ad r from by rw [← iv_rf]; rfl] at k2
        exact k2
    · cases h3 : (Nat.beq a 103 && iv_in i 28) <;> rw [h3] at h <;> simp only [cond_true, cond_false] at h
      · cases h
      · rw [Bool.and_eq_true] at h3
        simp only [Option.some.injEq, Prod.mk.injEq] at h
        obtain ⟨rfl, rfl, rfl, rfl⟩ := h
        have ea := Nat.eq_of_beq_eq_true h3.1
        subst ea
        intro H locs ls hvv hP hS
        exact vb_tq hx hb (iv_K_S hK).2.2.1.1 hS (iv_in_ok h3.2) rfl hd (k H locs ls hvv hP hS)
    · cases h
  · cases h
theorem iv_s_Len (C : iv_C0 ad cy D base L xs p s m args meth c cc nL own nm) (hd : decode cc pc = .ok (.arraylength, 1)) (k : iv_Nx ad cy D base c0 n0 nL p l e R s m args below meth c Q pc' lv' st' σ') (h : iv_oLen L xs pc lv st σ = some (pc', lv', st', σ')) : iv_Nx ad cy D base c0 n0 nL p l e R s m args below meth c Q pc lv st σ := by
  obtain ⟨hx, hb, hml, hown, hts, hK, hnm⟩ := C
  unfold iv_oLen at h
  split at h
  · rename_i a r
    cases h1 : Nat.beq a 1 <;> rw [h1] at h <;> simp only [cond_true, cond_false] at h
    · split at h
      · rename_i t x hg
        obtain ⟨k0, rfl, hk0, he⟩ := iv_get_ok hg
        cases h3 : Nat.ble t 7 <;> rw [h3] at h <;> simp only [cond_true, cond_false] at h
        · cases h
        · simp only [Option.some.injEq, Prod.mk.injEq] at h
          obtain ⟨rfl, rfl, rfl, rfl⟩ := h
          intro H locs ls hvv hP hS
          have hat := iv_W_at (ad := ad) (cy := cy) hk0
          rw [he] at hat
          exact va_alen (x := iv_a ad x) hx hb hK.1.1 hP k0 t hat (iv_tys_at t (Nat.le_of_ble_eq_true h3)) rfl hd (k H locs ls hvv hP hS)
      · cases h3 : Nat.beq a 103 <;> rw [h3] at h <;> simp only [cond_true, cond_false] at h
        · cases h
        · simp only [Option.some.injEq, Prod.mk.injEq] at h
          obtain ⟨rfl, rfl, rfl, rfl⟩ := h
          have ea := Nat.eq_of_beq_eq_true h3
          subst ea
          intro H locs ls hvv hP hS
          exact va_tlen hx hb (iv_K_S hK).2.2.1.1 hS rfl hd (k H locs ls hvv hP hS)
      · cases h
    · have ea := Nat.eq_of_beq_eq_true h1
      subst ea
      cases hL0 : Nat.beq L 0
      case true => rw [hL0] at h; cases h
      rw [hL0] at h
      simp only [cond_false] at h
      simp only [Option.some.injEq, Prod.mk.injEq] at h
      obtain ⟨rfl, rfl, rfl, rfl⟩ := h
      intro H locs ls hvv hP hS
      obtain ⟨-, -, q1, q2, q3, q4⟩ := hK
      exact va_slen hx hb q1 (Nat.lt_of_lt_of_le q2 q3) (Nat.not_le.mpr q2) hS hd (k H locs ls hvv hP hS)
  · cases h
theorem iv_s_Ist (C : iv_C0 ad cy D base L xs p s m args meth c cc nL own nm) (hd : decode cc pc = .ok (.iastore, 1)) (k : iv_Nx ad cy D base c0 n0 nL p l e R s m args below meth c Q pc' lv' st' σ') (h : iv_oIst L xs pc lv st σ = some (pc', lv', st', σ')) : iv_Nx ad cy D base c0 n0 nL p l e R s m args below meth c Q pc lv st σ := by
  obtain ⟨hx, hb, hml, hown, hts, hK, hnm⟩ := C
  unfold iv_oIst at h
  split at h
  · rename_i x i a r
    split at h
    · rename_i n f hg
      obtain ⟨k0, rfl, hk0, he⟩ := iv_get_ok hg
      cases h3 : iv_in i n <;> rw [h3] at h <;> simp only [cond_true, cond_false] at h
      · cases h
      · simp only [Option.some.injEq, Prod.mk.injEq] at h
        obtain ⟨rfl, rfl, rfl, rfl⟩ := h
        rw [iv_put_eq] at k
        intro H locs ls hvv hP hS
        have hat := iv_W_at (ad := ad) (cy := cy) hk0
        rw [he] at hat
        exact va_iast hx hb hK.1.1 hP (iv_D hK.2.2.2.2.2) hS k0 0 (n := n) (f := f) hat rfl (iv_in_ok h3) hd (fun H1 locs1 hP1 hD1 hS1 => k H1 locs1 ls hvv (by rw [← iv_W_put hk0]; exact hP1) hS1)
    · cases h
  · cases h
theorem iv_s_Jst (C : iv_C0 ad cy D base L xs p s m args meth c cc nL own nm) (hd : decode cc pc = .ok (.lastore, 1)) (k : iv_Nx ad cy D base c0 n0 nL p l e R s m args below meth c Q pc' lv' st' σ') (h : iv_oJst L xs pc lv st σ = some (pc', lv', st', σ')) : iv_Nx ad cy D base c0 n0 nL p l e R s m args below meth c Q pc lv st σ := by
  obtain ⟨hx, hb, hml, hown, hts, hK, hnm⟩ := C
  unfold iv_oJst at h
  split at h
  · rename_i x i a r
    split at h
    · rename_i n f hg
      obtain ⟨k0, rfl, hk0, he⟩ := iv_get_ok hg
      cases h3 : iv_in i n <;> rw [h3] at h <;> simp only [cond_true, cond_false] at h
      · cases h
      · simp only [Option.some.injEq, Prod.mk.injEq] at h
        obtain ⟨rfl, rfl, rfl, rfl⟩ := h
        rw [iv_put_eq] at k
        intro H locs ls hvv hP hS
        have hat := iv_W_at (ad := ad) (cy := cy) hk0
        rw [he] at hat
        exact va_last hx hb hK.1.1 hP (iv_D hK.2.2.2.2.2) hS k0 1 (n := n) (f := f) hat rfl (iv_in_ok h3) hd (fun H1 locs1 hP1 hD1 hS1 => k H1 locs1 ls hvv (by rw [← iv_W_put hk0]; exact hP1) hS1)
    · cases h
  · cases h
theorem iv_nar_z {x : Int32} (h : (decide (x = 0) || decide (x = 1)) = true) : vp_nar .boolean x = x := by
  rw [Bool.or_eq_true] at h
  rcases h with h | h
  · have e := of_decide_eq_true h
    subst e
    decide +kernel
  · have e := of_decide_eq_true h
    subst e
    decide +kernel
theorem iv_s_Zst (C : iv_C0 ad cy D base L xs p s m args meth c cc nL own nm) (hd : decode cc pc = .ok (.bastore, 1)) (k : iv_Nx ad cy D base c0 n0 nL p l e R s m args below meth c Q pc' lv' st' σ') (h : iv_oZst L xs pc lv st σ = some (pc', lv', st', σ')) : iv_Nx ad cy D base c0 n0 nL p l e R s m args below meth c Q pc lv st σ := by
  obtain ⟨hx, hb, hml, hown, hts, hK, hnm⟩ := C
  unfold iv_oZst at h
  split at h
  · rename_i x i a r
    split at h
    · rename_i n f hg
      obtain ⟨k0, rfl, hk0, he⟩ := iv_get_ok hg
      cases h3 : (iv_in i n && (decide (x = 0) || decide (x = 1))) <;> rw [h3] at h <;> simp only [cond_true, cond_false] at h
      · cases h
      · rw [Bool.and_eq_true] at h3
        simp only [Option.some.injEq, Prod.mk.injEq] at h
        obtain ⟨rfl, rfl, rfl, rfl⟩ := h
        rw [iv_put_eq] at k
        intro H locs ls hvv hP hS
        have hat := iv_W_at (ad := ad) (cy := cy) hk0
        rw [he] at hat
        exact va_zast hx hb hK.1.1 hP (iv_D hK.2.2.2.2.2) hS k0 2 (n := n) (f := f) hat rfl (iv_in_ok h3.1) hd (fun H1 locs1 hP1 hD1 hS1 => k H1 locs1 ls hvv (by rw [iv_nar_z h3.2] at hP1; rw [← iv_W_put hk0]; exact hP1) hS1)
    · cases h
  · cases h
theorem iv_ec_ok {t : Nat} (ht : t ≤ 7) {ci : Nat} (hc : iv_ec t = ci) (h : ci < 13) : iv_et t = .object (iv_C ci) := by
  subst hc
  rcases t with _ | _ | _ | _ | _ | _ | _ | _ | t
  all_goals first | rfl | (exact absurd h (by decide)) | (exact absurd ht (by omega))
theorem iv_s_Qst (C : iv_C0 ad cy D base L xs p s m args meth c cc nL own nm) (hd : decode cc pc = .ok (.aastore, 1)) (k : iv_Nx ad cy D base c0 n0 nL p l e R s m args below meth c Q pc' lv' st' σ') (h : iv_oQst L xs pc lv st σ = some (pc', lv', st', σ')) : iv_Nx ad cy D base c0 n0 nL p l e R s m args below meth c Q pc lv st σ := by
  obtain ⟨hx, hb, hml, hown, hts, hK, hnm⟩ := C
  unfold iv_oQst at h
  split at h
  · rename_i v i a r
    split at h
    · rename_i t n f hg
      obtain ⟨k0, rfl, hk0, he⟩ := iv_get_ok hg
      cases h3 : (iv_in i n && (Nat.ble t 7 && Nat.beq (iv_ec t) (iv_co σ v))) <;> rw [h3] at h <;> simp only [cond_true, cond_false] at h
      · cases h
      · rw [Bool.and_eq_true, Bool.and_eq_true] at h3
        simp only [Option.some.injEq, Prod.mk.injEq] at h
        obtain ⟨rfl, rfl, rfl, rfl⟩ := h
        rw [iv_put_eq] at k
        intro H locs ls hvv hP hS
        have hat := iv_W_at (ad := ad) (cy := cy) hk0
        rw [he] at hat
        have t7 := Nat.le_of_ble_eq_true h3.2.1
        have hec := Nat.eq_of_beq_eq_true h3.2.2
        have hr : ∃ ci, ci < 13 ∧ iv_ec t = ci ∧ ∃ cellV : Cell, H[ad v]? = some cellV ∧ cellV.vm.isStatics = false ∧ s.vm.findClass (iv_C ci) = some cellV.cls := by
          unfold iv_co at hec
          cases hw : iv_isW v <;> rw [hw] at hec <;> simp only [cond_true, cond_false] at hec
          · split at hec
            · rename_i c9 f9 hg9
              obtain ⟨k9, rfl, hk9, he9⟩ := iv_get_ok hg9
              have hat9 := iv_W_at (ad := ad) (cy := cy) hk9
              rw [he9] at hat9
              have hc9 : c9 < 13 := by
                rw [← hec]
                rcases t with _ | _ | _ | _ | _ | _ | _ | _ | t
                all_goals first | decide | skip
                all_goals first | (exact absurd t7 (by omega)) | skip
                all_goals (exfalso; obtain ⟨r9, hr9, -⟩ := hP k9 _ hat9; rw [← hec] at hr9; cases hr9)
              exact ⟨c9, hc9, hec, va_recv hK.1.1 hP (iv_cl_at c9 hc9) hat9⟩
            · exfalso
              rcases t with _ | _ | _ | _ | _ | _ | _ | _ | t
              all_goals first | (exact absurd hec (by decide)) | (exact absurd t7 (by omega))
          · obtain ⟨j, hj, rfl⟩ := iv_isW_of hw
            exact ⟨10, by decide, hec, va_recvE (ad := fun j => ad (2 * j + 3)) (i := j) hK.2.1.1 hj hS⟩
        obtain ⟨ci, hci, hcc, hcell⟩ := hr
        have hty := iv_tys_at (cy := cy) t t7
        rw [iv_ec_ok t7 hcc hci] at hty
        refine vb_astq hx hb hK.1.1 hP (iv_D hK.2.2.2.2.2) hS k0 t (n := n) (f := fun i => (f i).map ad) hat hty hcell (fun comp c1 => vb_asgS comp c1) (iv_in_ok h3.1) hd (fun H1 locs1 hP1 hD1 hS1 => k H1 locs1 ls hvv ?_ hS1)
        rw [← iv_W_put hk0]
        have e1 : iv_e ad cy (.inl (t, n, .inr (.inr (.inr (.inr (va_up f i.toNatClampNeg (some v))))))) = .inl (cy t, n, .inr (.inr (.inr (.inr (va_up (fun i => (f i).map ad) i.toNatClampNeg (some (ad v))))))) := by
          show (Sum.inl (cy t, n, .inr (.inr (.inr (.inr (fun i2 => (va_up f i.toNatClampNeg (some v) i2).map ad))))) : va_E) = _
          congr 7
          funext i2
          unfold va_up
          by_cases e9 : i2 = i.toNatClampNeg
          · rw [if_pos e9, if_pos e9]; rfl
          · rw [if_neg e9, if_neg e9]
        rw [e1]
        exact hP1
    · cases h
  · cases h
end IVH
