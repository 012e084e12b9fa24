/-! ===== printed by wip/gen/gen_kf.py: the flags of the images ===== -/
set_option maxRecDepth 100000 in
theorem q152_0 : iv_f1 (iv_p 152) 0 = some (.inl (iv_oI 1 1)) := rfl
set_option maxRecDepth 100000 in
theorem q152_1 : iv_f1 (iv_p 152) 1 = some (.inl (iv_oIf .lt (8))) := rfl
set_option maxRecDepth 100000 in
theorem q152_4 : iv_f1 (iv_p 152) 4 = some (.inl (iv_oI 1 1)) := rfl
set_option maxRecDepth 100000 in
theorem q152_5 : iv_f1 (iv_p 152) 5 = some (.inl (iv_oK (.int (Int32.ofNat 2)) 1)) := rfl
set_option maxRecDepth 100000 in
theorem q152_6 : iv_f1 (iv_p 152) 6 = some (.inl (iv_oIc .lt (5))) := rfl
set_option maxRecDepth 100000 in
theorem q152_9 : iv_f1 (iv_p 152) 9 = some (.inl (iv_oK (.int (Int32.ofNat 0)) 1)) := rfl
set_option maxRecDepth 100000 in
theorem q152_10 : iv_f1 (iv_p 152) 10 = some (.inr (.inl 2)) := rfl
set_option maxRecDepth 100000 in
theorem q152_11 : iv_f1 (iv_p 152) 11 = some (.inl (iv_oA 0 1)) := rfl
set_option maxRecDepth 100000 in
theorem q152_12 : iv_f1 (iv_p 152) 12 = some (.inl (iv_oGF 11 11)) := rfl
set_option maxRecDepth 100000 in
theorem q152_15 : iv_f1 (iv_p 152) 15 = some (.inl (iv_oI 1 1)) := rfl
set_option maxRecDepth 100000 in
theorem q152_16 : iv_f1 (iv_p 152) 16 = some (.inl iv_oQl) := rfl
set_option maxRecDepth 100000 in
theorem q152_17 : iv_f1 (iv_p 152) 17 = some (.inl (iv_oA 0 1)) := rfl
set_option maxRecDepth 100000 in
theorem q152_18 : iv_f1 (iv_p 152) 18 = some (.inl (iv_oGF 11 3)) := rfl
set_option maxRecDepth 100000 in
theorem q152_21 : iv_f1 (iv_p 152) 21 = some (.inr (.inr (6, 25, 1, 3))) := rfl
set_option maxRecDepth 100000 in
theorem q152_24 : iv_f1 (iv_p 152) 24 = some (.inl (iv_oA 0 1)) := rfl
set_option maxRecDepth 100000 in
theorem q152_25 : iv_f1 (iv_p 152) 25 = some (.inl (iv_oGF 11 12)) := rfl
set_option maxRecDepth 100000 in
theorem q152_28 : iv_f1 (iv_p 152) 28 = some (.inl (iv_oI 1 1)) := rfl
set_option maxRecDepth 100000 in
theorem q152_29 : iv_f1 (iv_p 152) 29 = some (.inl iv_oQl) := rfl
set_option maxRecDepth 100000 in
theorem q152_30 : iv_f1 (iv_p 152) 30 = some (.inl (iv_oA 0 1)) := rfl
set_option maxRecDepth 100000 in
theorem q152_31 : iv_f1 (iv_p 152) 31 = some (.inl (iv_oGF 11 5)) := rfl
set_option maxRecDepth 100000 in
theorem q152_34 : iv_f1 (iv_p 152) 34 = some (.inr (.inr (6, 75, 1, 7))) := rfl
set_option maxRecDepth 100000 in
theorem q152_37 : iv_f1 (iv_p 152) 37 = some (.inl (iv_oA 0 1)) := rfl
set_option maxRecDepth 100000 in
theorem q152_38 : iv_f1 (iv_p 152) 38 = some (.inl (iv_oGF 11 13)) := rfl
set_option maxRecDepth 100000 in
theorem q152_41 : iv_f1 (iv_p 152) 41 = some (.inl (iv_oI 1 1)) := rfl
set_option maxRecDepth 100000 in
theorem q152_42 : iv_f1 (iv_p 152) 42 = some (.inl iv_oQl) := rfl
set_option maxRecDepth 100000 in
theorem q152_43 : iv_f1 (iv_p 152) 43 = some (.inl (iv_oA 0 1)) := rfl
set_option maxRecDepth 100000 in
theorem q152_44 : iv_f1 (iv_p 152) 44 = some (.inl (iv_oGF 11 7)) := rfl
set_option maxRecDepth 100000 in
theorem q152_47 : iv_f1 (iv_p 152) 47 = some (.inr (.inr (6, 61, 1, 6))) := rfl
set_option maxRecDepth 100000 in
theorem q152_50 : iv_f1 (iv_p 152) 50 = some (.inl (iv_oA 0 1)) := rfl
set_option maxRecDepth 100000 in
theorem q152_51 : iv_f1 (iv_p 152) 51 = some (.inl (iv_oGF 11 14)) := rfl
set_option maxRecDepth 100000 in
theorem q152_54 : iv_f1 (iv_p 152) 54 = some (.inl (iv_oI 1 1)) := rfl
set_option maxRecDepth 100000 in
theorem q152_55 : iv_f1 (iv_p 152) 55 = some (.inl (iv_oK (.int (Int32.ofNat 1)) 1)) := rfl
set_option maxRecDepth 100000 in
theorem q152_56 : iv_f1 (iv_p 152) 56 = some (.inl iv_oZst) := rfl
set_option maxRecDepth 100000 in
theorem q152_57 : iv_f1 (iv_p 152) 57 = some (.inl (iv_oK (.int (Int32.ofNat 1)) 1)) := rfl
set_option maxRecDepth 100000 in
theorem q152_58 : iv_f1 (iv_p 152) 58 = some (.inr (.inl 2)) := rfl
set_option maxRecDepth 100000 in
theorem q153_0 : iv_f1 (iv_p 153) 0 = some (.inl (iv_oI 1 1)) := rfl
set_option maxRecDepth 100000 in
theorem q153_1 : iv_f1 (iv_p 153) 1 = some (.inl (iv_oIf .lt (17))) := rfl
set_option maxRecDepth 100000 in
theorem q153_4 : iv_f1 (iv_p 153) 4 = some (.inl (iv_oI 1 1)) := rfl
set_option maxRecDepth 100000 in
theorem q153_5 : iv_f1 (iv_p 153) 5 = some (.inl (iv_oK (.int (Int32.ofNat 2)) 1)) := rfl
set_option maxRecDepth 100000 in
theorem q153_6 : iv_f1 (iv_p 153) 6 = some (.inl (iv_oIc .ge (12))) := rfl
set_option maxRecDepth 100000 in
theorem q153_9 : iv_f1 (iv_p 153) 9 = some (.inl (iv_oA 0 1)) := rfl
set_option maxRecDepth 100000 in
theorem q153_10 : iv_f1 (iv_p 153) 10 = some (.inl (iv_oGF 11 14)) := rfl
set_option maxRecDepth 100000 in
theorem q153_13 : iv_f1 (iv_p 153) 13 = some (.inl (iv_oI 1 1)) := rfl
set_option maxRecDepth 100000 in
theorem q153_14 : iv_f1 (iv_p 153) 14 = some (.inl iv_oZl) := rfl
set_option maxRecDepth 100000 in
theorem q153_15 : iv_f1 (iv_p 153) 15 = some (.inl (iv_oIf .ne (5))) := rfl
set_option maxRecDepth 100000 in
theorem q153_18 : iv_f1 (iv_p 153) 18 = some (.inl (iv_oK (.int (Int32.ofNat 0)) 1)) := rfl
set_option maxRecDepth 100000 in
theorem q153_19 : iv_f1 (iv_p 153) 19 = some (.inr (.inl 2)) := rfl
set_option maxRecDepth 100000 in
theorem q153_20 : iv_f1 (iv_p 153) 20 = some (.inl (iv_oA 0 1)) := rfl
set_option maxRecDepth 100000 in
theorem q153_21 : iv_f1 (iv_p 153) 21 = some (.inl (iv_oGF 11 3)) := rfl
set_option maxRecDepth 100000 in
theorem q153_24 : iv_f1 (iv_p 153) 24 = some (.inl (iv_oA 0 1)) := rfl
set_option maxRecDepth 100000 in
theorem q153_25 : iv_f1 (iv_p 153) 25 = some (.inl (iv_oGF 11 11)) := rfl
set_option maxRecDepth 100000 in
theorem q153_28 : iv_f1 (iv_p 153) 28 = some (.inl (iv_oI 1 1)) := rfl
set_option maxRecDepth 100000 in
theorem q153_29 : iv_f1 (iv_p 153) 29 = some (.inl iv_oQl) := rfl
set_option maxRecDepth 100000 in
theorem q153_30 : iv_f1 (iv_p 153) 30 = some (.inr (.inr (6, 25, 1, 3))) := rfl
set_option maxRecDepth 100000 in
theorem q153_33 : iv_f1 (iv_p 153) 33 = some (.inl (iv_oA 0 1)) := rfl
set_option maxRecDepth 100000 in
theorem q153_34 : iv_f1 (iv_p 153) 34 = some (.inl (iv_oGF 11 5)) := rfl
set_option maxRecDepth 100000 in
theorem q153_37 : iv_f1 (iv_p 153) 37 = some (.inl (iv_oA 0 1)) := rfl
set_option maxRecDepth 100000 in
theorem q153_38 : iv_f1 (iv_p 153) 38 = some (.inl (iv_oGF 11 12)) := rfl
set_option maxRecDepth 100000 in
theorem q153_41 : iv_f1 (iv_p 153) 41 = some (.inl (iv_oI 1 1)) := rfl
set_option maxRecDepth 100000 in
theorem q153_42 : iv_f1 (iv_p 153) 42 = some (.inl iv_oQl) := rfl
set_option maxRecDepth 100000 in
theorem q153_43 : iv_f1 (iv_p 153) 43 = some (.inr (.inr (6, 75, 1, 7))) := rfl
set_option maxRecDepth 100000 in
theorem q153_46 : iv_f1 (iv_p 153) 46 = some (.inl (iv_oA 0 1)) := rfl
set_option maxRecDepth 100000 in
theorem q153_47 : iv_f1 (iv_p 153) 47 = some (.inl (iv_oGF 11 7)) := rfl
set_option maxRecDepth 100000 in
theorem q153_50 : iv_f1 (iv_p 153) 50 = some (.inl (iv_oA 0 1)) := rfl
set_option maxRecDepth 100000 in
theorem q153_51 : iv_f1 (iv_p 153) 51 = some (.inl (iv_oGF 11 13)) := rfl
set_option maxRecDepth 100000 in
theorem q153_54 : iv_f1 (iv_p 153) 54 = some (.inl (iv_oI 1 1)) := rfl
set_option maxRecDepth 100000 in
theorem q153_55 : iv_f1 (iv_p 153) 55 = some (.inl iv_oQl) := rfl
set_option maxRecDepth 100000 in
theorem q153_56 : iv_f1 (iv_p 153) 56 = some (.inr (.inr (6, 61, 1, 6))) := rfl
set_option maxRecDepth 100000 in
theorem q153_59 : iv_f1 (iv_p 153) 59 = some (.inl (iv_oA 0 1)) := rfl
set_option maxRecDepth 100000 in
theorem q153_60 : iv_f1 (iv_p 153) 60 = some (.inl (iv_oGF 11 9)) := rfl
set_option maxRecDepth 100000 in
theorem q153_63 : iv_f1 (iv_p 153) 63 = some (.inr (.inr (6, 43, 0, 4))) := rfl
set_option maxRecDepth 100000 in
theorem q153_66 : iv_f1 (iv_p 153) 66 = some (.inl (iv_oK (.int (Int32.ofNat 1)) 1)) := rfl
set_option maxRecDepth 100000 in
theorem q153_67 : iv_f1 (iv_p 153) 67 = some (.inr (.inl 2)) := rfl
def g_cs : List zc := match z_ty 21 with
  | some (.inl (_, cs)) => cs
  | _ => []
theorem g_t21 : z_ty 21 = some (.inl (11, g_cs)) := rfl
theorem nth_ex : ∀ {l : List Value} {j : Nat}, j < l.length → ∃ v, iv_nth l j = some v
  | [], j, h => absurd h (Nat.not_lt_zero j)
  | x :: l, 0, _ => ⟨x, rfl⟩
  | x :: l, j + 1, h => nth_ex (l := l) (j := j) (Nat.lt_of_succ_lt_succ h)
theorem g_fld {σ : iv_H} (hI : zI z_τ z_ty σ) : ∃ fs : List Value, iv_get σ 0 = some (.inr (11, fs)) ∧ ∀ (j t : Nat), iv_nth g_cs j = some (t + 2, 0, 1000) → ∃ a : Nat, iv_nth fs j = some (.ref a) ∧ a ≤ 1000 ∧ z_τ a = t := by
  obtain ⟨fs, h1, h2, h3⟩ := zI_obj hI (a := 0) (t := 21) rfl g_t21
  refine ⟨fs, h1, fun j t hj => ?_⟩
  have hl : j < fs.length := by rw [h2]; exact iv_nth_lt hj
  obtain ⟨x, hx⟩ := nth_ex hl
  obtain ⟨a, rfl, _, h5, h6⟩ := (show ∃ a : Nat, x = .ref a ∧ (0 : Int) ≤ (a : Int) ∧ (a : Int) ≤ 1000 ∧ z_τ a = t from h3 j _ x hj hx)
  exact ⟨a, hx, by omega, h6⟩
theorem g_arr {σ : iv_H} (hI : zI z_τ z_ty σ) {a T t len k : Nat} {sg : zsg} (ha : z_τ a = T) (hT : z_ty T = some (.inr (t + 3, len, k, sg))) : ∃ f : Nat → Option Nat, iv_get σ a = some (.inl (t + 3, len, .inr (.inr (.inr (.inr f))))) ∧ t ≤ 4 ∧ ∀ i, i < len → ∃ b, f i = some b ∧ z_τ b = k := by
  obtain ⟨e, h1, h2⟩ := hI a _ (by rw [ha]; exact hT)
  obtain ⟨f, h3, rfl, h4⟩ := (show ∃ f : Nat → Option Nat, t ≤ 4 ∧ e = .inl (t + 3, len, .inr (.inr (.inr (.inr f)))) ∧ ∀ i, i < len → ∃ a, f i = some a ∧ z_τ a = k from h2)
  exact ⟨f, h1, h3, h4⟩
theorem g_le {a t : Nat} {T : zt} (h : z_τ a = t) (hT : z_ty t = some T) : a ≤ 1000 := by
  have := (z_typed (a := a) (T := T) (by rw [h]; exact hT)).2
  omega
theorem z_372a : ((List.range 297).all fun k => match iv_nth z_tl k with
  | some t => bif Nat.beq t 72 then Nat.beq k 186 else true
  | none => true) = true := by decide +kernel
theorem z_372 {a : Nat} (h : z_τ a = 72) : a = 372 := by
  have ht : z_ty (z_τ a) = z_ty 72 := by rw [h]
  obtain ⟨T, hT⟩ : ∃ T, z_ty 72 = some T := ⟨_, rfl⟩
  obtain ⟨h1, h2⟩ := z_typed (ht.trans hT)
  have h3 := List.all_eq_true.mp z_372a (a / 2) (List.mem_range.mpr (by omega))
  have hb : Nat.beq (a % 2) 0 = true := by rw [h1]; rfl
  unfold z_τ at h
  rw [hb] at h
  simp only [cond_true] at h
  split at h
  · rename_i t ht2
    rw [ht2, h] at h3
    have h4 : Nat.beq (a / 2) 186 = true := h3
    have h5 := Nat.eq_of_beq_eq_true h4
    omega
  · cases h
theorem mA_get {σ : iv_H} {a t n : Nat} {f : Nat → Int32} (h : iv_get σ a = some (.inl (t, n, .inl f))) : mA σ a = f := by
  unfold mA
  rw [h]
theorem g_zP {t u a b : Nat} (ta : z_τ a = t) (tb : z_τ b = u) (ha : a ≤ 1000) (hb : b ≤ 1000) {σ : iv_H} : zP_ok z_τ (fun _ => 0) (lv_args 0 [.ref a, .ref b]) none σ ([((0, 0, 0, 0), (t + 2, 0, 1000)), ((0, 1, 0, 0), (u + 2, 0, 1000))], []) (fun i => match i with
    | 0 => (a : Int)
    | _ => (b : Int)) := by
  refine ⟨fun s c hs => ?_, fun f hf => (by cases hf), fun i bb c hi => ?_⟩
  · rcases s with _ | _ | s
    · cases hs
      refine ⟨by show (0 : Int) ≤ (a : Int); omega, by show (a : Int) ≤ 1000; omega, fun _ => ⟨by show (0 : Int) ≤ (a : Int); omega, ?_⟩⟩
      show z_τ ((a : Int).toNat) = t
      rw [Int.toNat_natCast]
      exact ta
    · cases hs
      refine ⟨by show (0 : Int) ≤ (b : Int); omega, by show (b : Int) ≤ 1000; omega, fun _ => ⟨by show (0 : Int) ≤ (b : Int); omega, ?_⟩⟩
      show z_τ ((b : Int).toNat) = u
      rw [Int.toNat_natCast]
      exact tb
    · cases hs
  · rcases i with _ | _ | i
    · cases hi
      exact ⟨.ref a, rfl, a, rfl, rfl⟩
    · cases hi
      exact ⟨.ref b, rfl, b, rfl, rfl⟩
    · cases hi
theorem g_zP1 {t a : Nat} (ta : z_τ a = t) (ha : a ≤ 1000) {σ : iv_H} : zP_ok z_τ (fun _ => 0) (lv_args 0 [.ref a]) none σ ([((0, 0, 0, 0), (t + 2, 0, 1000))], []) (fun _ => (a : Int)) := by
  refine ⟨fun s c hs => ?_, fun f hf => (by cases hf), fun i bb c hi => ?_⟩
  · rcases s with _ | s
    · cases hs
      refine ⟨by show (0 : Int) ≤ (a : Int); omega, by show (a : Int) ≤ 1000; omega, fun _ => ⟨by show (0 : Int) ≤ (a : Int); omega, ?_⟩⟩
      show z_τ ((a : Int).toNat) = t
      rw [Int.toNat_natCast]
      exact ta
    · cases hs
  · rcases i with _ | i
    · cases hi
      exact ⟨.ref a, rfl, a, rfl, rfl⟩
    · cases hi
section WKF
variable {L : Nat} {xs : Nat → Int32} {Post : Option Value → iv_H → Prop} {d M pc : Nat} {lv : iv_L} {st : List Value} {σ : iv_H}
theorem w_ql {a n i b t : Nat} {f : Nat → Option Nat} (hf : iv_f1 (iv_p M) pc = some (.inl iv_oQl)) (hg : iv_get σ a = some (.inl (t + 3, n, .inr (.inr (.inr (.inr f)))))) (ht : t ≤ 4) (hi : i < n) (hn : n ≤ 2000) (hb : f i = some b) (k : zGo L xs Post [] d M (pc + 1) lv (.ref b :: st) σ) : zGo L xs Post [] d M pc lv (.int (Int32.ofNat i) :: .ref a :: st) σ := zGo_s hf (by
  have e1 : Nat.ble 3 (t + 3) = true := Nat.ble_eq.mpr (by omega)
  have e2 : Nat.ble (t + 3) 7 = true := Nat.ble_eq.mpr (by omega)
  simp only [iv_oQl, hg, (ofNat_in hi hn).1, (ofNat_in hi hn).2.1, e1, e2, Bool.and_self, cond_true, hb]
  first | done | rfl) k
theorem w_cp {c : zct} {t a b cc : Nat} (hf : iv_f1 (iv_p M) pc = some (.inr (.inr (6, c.1, 1, cc)))) (hC : zCT z_τ z_ty z_J c) (he : c.2.2.2.1.2.1 = ([((0, 0, 0, 0), (t + 2, 0, 1000)), ((0, 1, 0, 0), (t + 2, 0, 1000))], [])) (hx : c.2.2.2.2.2 = [([], [])]) (hcs : Nat.ble (iv_cs [Value.ref a, Value.ref b]) (iv_m c.1).2.2.1 = true) (hd : c.2.1 ≤ d) (ta : z_τ a = t) (tb : z_τ b = t) (ha : a ≤ 1000) (hb : b ≤ 1000) (hty : ∃ cs, z_ty t = some (.inl (cc, cs))) (hI : zI z_τ z_ty σ) (hJ : z_J σ) (k : ∀ σ1, zI z_τ z_ty σ1 → z_J σ1 → zFr z_τ c.2.2.1 σ σ1 → zGo L xs Post [] (d + 1) M (pc + 3) lv [] σ1) : zGo L xs Post [] (d + 1) M pc lv [.ref b, .ref a] σ := by
  obtain ⟨cs, hty⟩ := hty
  obtain ⟨fs, g1, _⟩ := zI_obj hI ta hty
  obtain ⟨r, σ1, h1, h2, h3, h4, X, hX, _, _, h6⟩ := hC L xs d [.ref a, .ref b] σ _ hd hI hJ (by rw [he]; exact g_zP ta tb ha hb)
  rw [hx] at hX
  obtain rfl := List.mem_singleton.mp hX
  obtain rfl := h6 rfl
  refine w_call hf (as := [.ref a, .ref b]) (rest := []) (by
    simp only [iv_args, iv_pop, g1, cond_true, show Nat.beq 6 4 = false from rfl, cond_false, show Nat.beq 6 6 = true from rfl, Nat.beq_refl]
    first | done | rfl) hcs ⟨none, σ1, h1, k σ1 h2 h3 h4⟩
theorem w_cp1 {c : zct} {t a cc : Nat} (hf : iv_f1 (iv_p M) pc = some (.inr (.inr (6, c.1, 0, cc)))) (hC : zCT z_τ z_ty z_J c) (he : c.2.2.2.1.2.1 = ([((0, 0, 0, 0), (t + 2, 0, 1000))], [])) (hx : c.2.2.2.2.2 = [([], [])]) (hcs : Nat.ble (iv_cs [Value.ref a]) (iv_m c.1).2.2.1 = true) (hd : c.2.1 ≤ d) (ta : z_τ a = t) (ha : a ≤ 1000) (hty : ∃ cs, z_ty t = some (.inl (cc, cs))) (hI : zI z_τ z_ty σ) (hJ : z_J σ) (k : ∀ σ1, zI z_τ z_ty σ1 → z_J σ1 → zFr z_τ c.2.2.1 σ σ1 → zGo L xs Post [] (d + 1) M (pc + 3) lv [] σ1) : zGo L xs Post [] (d + 1) M pc lv [.ref a] σ := by
  obtain ⟨cs, hty⟩ := hty
  obtain ⟨fs, g1, _⟩ := zI_obj hI ta hty
  obtain ⟨r, σ1, h1, h2, h3, h4, X, hX, _, _, h6⟩ := hC L xs d [.ref a] σ _ hd hI hJ (by rw [he]; exact g_zP1 ta ha)
  rw [hx] at hX
  obtain rfl := List.mem_singleton.mp hX
  obtain rfl := h6 rfl
  refine w_call hf (as := [.ref a]) (rest := []) (by
    simp only [iv_args, iv_pop, g1, cond_true, show Nat.beq 6 4 = false from rfl, cond_false, show Nat.beq 6 6 = true from rfl, Nat.beq_refl]
    first | done | rfl) hcs ⟨none, σ1, h1, k σ1 h2 h3 h4⟩
end WKF
theorem kf_lt {q : Nat} (hq : q ≤ 1) : (Int32.ofNat q).toInt = (q : Int) := Int32.toInt_ofNat_of_lt (by omega)
theorem kf_q {q q2 : Nat} (h1 : q ≤ 1) (h2 : q2 ≤ 1) (h : Int32.ofNat q = Int32.ofNat q2) : q = q2 := by
  have e := congrArg Int32.toInt h
  rw [kf_lt h1, kf_lt h2] at e
  omega
theorem kf_in {q : Nat} (h1 : q ≤ 1) : 0 ≤ (Int32.ofNat q).toInt ∧ (Int32.ofNat q).toInt ≤ 1 := by
  rw [kf_lt h1]
  omega
theorem y_RnE {L : Nat} {xs : Nat → Int32} {d M pc : Nat} {lv : iv_L} {st : List Value} {σ : iv_H} {Q : Int32 → iv_H → Prop} (h : zGo L xs (fun r σ1 => ∃ v, r = some (.int v) ∧ Q v σ1) [] d M pc lv st σ) : ∃ v σ1, iv_Rn L xs d M pc lv st σ (some (.int v)) σ1 ∧ Q v σ1 := by
  obtain ⟨r, σ1, h1, h2⟩ := h
  have h3 : ∃ v, r = some (.int v) ∧ Q v σ1 := h2
  obtain ⟨v, rfl, h4⟩ := h3
  exact ⟨v, σ1, h1, h4⟩
/-! the class: image -/
/-- what image leaves: nothing is done, or the order is kept at q -/
def yIm (a : Int32) (σ σ' : iv_H) : Prop := (¬ (0 ≤ a.toInt ∧ a.toInt ≤ 1) ∧ σ' = σ) ∨ ∃ q : Nat, q ≤ 1 ∧ a = Int32.ofNat q ∧ CP σ σ' 4 4 ∧ CP σ σ' (440 + 54 * q) 4 ∧ (∀ k, k < 2 → k ≠ q → CP σ σ' (440 + 54 * k) (440 + 54 * k)) ∧ mA σ' 372 = upd (mA σ 372) q (Int32.ofNat 1)
def yRs (a : Int32) (σ σ' : iv_H) : Prop := ((¬ (0 ≤ a.toInt ∧ a.toInt ≤ 1) ∨ ∃ q : Nat, q ≤ 1 ∧ a = Int32.ofNat q ∧ mA σ 372 q = 0) ∧ σ' = σ) ∨ ∃ q : Nat, q ≤ 1 ∧ a = Int32.ofNat q ∧ mA σ 372 q = 1 ∧ CP σ σ' 4 (440 + 54 * q) ∧ CP σ σ' 440 440 ∧ CP σ σ' 494 494 ∧ mA σ' 372 = mA σ 372
theorem yc_img0 {L : Nat} {xs : Nat → Int32} {d : Nat} {σ : iv_H} {clv : iv_L} (hd : 5 ≤ d) (hI : zI z_τ z_ty σ) (hJ : z_J σ) (hX : FX σ) (hG : FX2 σ) (l0 : iv_f1 clv 0 = some (.ref 0)) (l1 : iv_f1 clv 1 = some (.int (Int32.ofNat 0))) : zGo L xs (fun r σ' => ∃ v, r = some (.int v) ∧ yIm (Int32.ofNat 0) σ σ') [] (d + 1) 152 0 clv [] σ := by
  obtain ⟨fA, gA, hA0, hA1⟩ := hG
  obtain ⟨G, g0, oG⟩ := yo_of hI (a := 0) (t := 21) (n := 20) rfl rfl rfl
  have c3 := yFX_v hX oG (by decide : (0, 11, 3, 4) ∈ yFX)
  have c11 := yFX_v hX oG (by decide : (0, 11, 11, 366) ∈ yFX)
  obtain ⟨F, gF, zF⟩ := c_isk hI
  obtain ⟨E, g440, oE⟩ := yo_of hI (a := 440) (t := 13) (n := 16) rfl rfl rfl
  obtain ⟨f442, g442⟩ := yj_of hI (a := 442) (n := 7) rfl
  obtain ⟨f444, g444⟩ := yi_of hI (a := 444) (n := 7) rfl
  obtain ⟨f446, g446⟩ := yi_of hI (a := 446) (n := 7) rfl
  obtain ⟨f448, g448⟩ := yi_of hI (a := 448) (n := 7) rfl
  obtain ⟨f450, g450⟩ := yj_of hI (a := 450) (n := 6) rfl
  obtain ⟨f452, g452⟩ := yi_of hI (a := 452) (n := 6) rfl
  obtain ⟨f454, g454⟩ := yi_of hI (a := 454) (n := 6) rfl
  obtain ⟨D, g4, oD⟩ := yo_of hI (a := 4) (t := 13) (n := 16) rfl rfl rfl
  obtain ⟨f6, g6⟩ := yj_of hI (a := 6) (n := 7) rfl
  obtain ⟨f8, g8⟩ := yi_of hI (a := 8) (n := 7) rfl
  obtain ⟨f10, g10⟩ := yi_of hI (a := 10) (n := 7) rfl
  obtain ⟨f12, g12⟩ := yi_of hI (a := 12) (n := 7) rfl
  obtain ⟨f14, g14⟩ := yj_of hI (a := 14) (n := 6) rfl
  obtain ⟨f16, g16⟩ := yi_of hI (a := 16) (n := 6) rfl
  obtain ⟨f18, g18⟩ := yi_of hI (a := 18) (n := 6) rfl
  obtain ⟨x0, d0⟩ := yz_int hI (a := 4) (j := 0) g4 rfl rfl (by decide)
  obtain ⟨x1, d1⟩ := yz_int hI (a := 4) (j := 1) g4 rfl rfl (by decide)
  obtain ⟨x2, d2⟩ := yz_int hI (a := 4) (j := 2) g4 rfl rfl (by decide)
  obtain ⟨x3, d3⟩ := yz_int hI (a := 4) (j := 3) g4 rfl rfl (by decide)
  obtain ⟨x4, d4⟩ := yz_int hI (a := 4) (j := 4) g4 rfl rfl (by decide)
  obtain ⟨x5, d5⟩ := yz_int hI (a := 4) (j := 5) g4 rfl rfl (by decide)
  obtain ⟨σ1, r1, E1, gE1, _, k1, k2, k3, _, k5, h6, h14, f1⟩ := yg_cpK0 (L := L) (xs := xs) (d := d) g440 g4 g442 g444 g446 g448 g450 g452 g454 g6 g8 g10 g12 g14 g16 g18 (yFX_v hX oE (by decide : (440, 3, 9, 442) ∈ yFX)) (yFX_v hX oE (by decide : (440, 3, 10, 444) ∈ yFX)) (yFX_v hX oE (by decide : (440, 3, 11, 446) ∈ yFX)) (yFX_v hX oE (by decide : (440, 3, 12, 448) ∈ yFX)) (yFX_v hX oE (by decide : (440, 3, 13, 450) ∈ yFX)) (yFX_v hX oE (by decide : (440, 3, 14, 452) ∈ yFX)) (yFX_v hX oE (by decide : (440, 3, 15, 454) ∈ yFX)) (yFX_v hX oD (by decide : (4, 3, 9, 6) ∈ yFX)) (yFX_v hX oD (by decide : (4, 3, 10, 8) ∈ yFX)) (yFX_v hX oD (by decide : (4, 3, 11, 10) ∈ yFX)) (yFX_v hX oD (by decide : (4, 3, 12, 12) ∈ yFX)) (yFX_v hX oD (by decide : (4, 3, 13, 14) ∈ yFX)) (yFX_v hX oD (by decide : (4, 3, 14, 16) ∈ yFX)) (yFX_v hX oD (by decide : (4, 3, 15, 18) ∈ yFX)) d0 d1 d2 d3 d4 d5
  obtain ⟨r1b, σ1b, R1, hI1, hJ1, F1⟩ := yz_two (L := L) (xs := xs) (d := d) (a := 440) (b := 4) zt_94 rfl (show 5 ≤ d by omega) rfl rfl (by decide) (by decide) hI hJ
  obtain ⟨_, rfl⟩ := y_det r1 R1
  have cp : CP σ σ1 440 4 := CP_cp g4 d1 d2 d3 d5 g6 g14 gE1 k1 k2 k3 k5 h6 h14
  refine w_I q152_0 l1 ?_
  refine w_ifF q152_1 rfl (by decide) ?_
  refine w_I q152_4 l1 ?_
  refine w_K q152_5 ?_
  refine w_icT q152_6 rfl (by decide) ?_
  refine w_A q152_11 l0 ?_
  refine y_gf q152_12 g0 rfl c11 ?_
  refine w_I q152_15 l1 ?_
  refine w_ql (t := 0) q152_16 gA (by decide) (by decide) (by decide) hA0 ?_
  refine w_A q152_17 l0 ?_
  refine y_gf q152_18 g0 rfl c3 ?_
  refine y_call0 q152_21 (y_args6 g440 rfl rfl) rfl r1 ?_
  obtain ⟨fs1, go1, gf1⟩ := g_fld hI1
  obtain ⟨a1, fk1, _, ta1⟩ := gf1 12 70 rfl
  obtain ⟨b1, fo1, hb1, tb1⟩ := gf1 5 17 rfl
  obtain ⟨A1, gA1, lA1, eA1⟩ := g_arr hI1 ta1 (k := 17) rfl
  obtain ⟨k1, ek1, tk1⟩ := eA1 0 (by decide)
  refine w_A q152_24 l0 ?_
  refine w_gf q152_25 go1 fk1 ?_
  refine w_I q152_28 l1 ?_
  refine w_ql q152_29 gA1 lA1 (by decide) (by decide) ek1 ?_
  refine w_A q152_30 l0 ?_
  refine w_gf q152_31 go1 fo1 ?_
  refine w_cp (c := zc_12) (t := 17) q152_34 zt_12 rfl rfl rfl hd tk1 tb1 (g_le tk1 rfl) hb1 ⟨_, rfl⟩ hI1 hJ1 ?_
  intro σ2 hI2 hJ2 hF2
  obtain ⟨fs2, go2, gf2⟩ := g_fld hI2
  obtain ⟨a2, fk2, _, ta2⟩ := gf2 13 71 rfl
  obtain ⟨b2, fo2, hb2, tb2⟩ := gf2 7 16 rfl
  obtain ⟨A2, gA2, lA2, eA2⟩ := g_arr hI2 ta2 (k := 16) rfl
  obtain ⟨k2, ek2, tk2⟩ := eA2 0 (by decide)
  refine w_A q152_37 l0 ?_
  refine w_gf q152_38 go2 fk2 ?_
  refine w_I q152_41 l1 ?_
  refine w_ql q152_42 gA2 lA2 (by decide) (by decide) ek2 ?_
  refine w_A q152_43 l0 ?_
  refine w_gf q152_44 go2 fo2 ?_
  refine w_cp (c := zc_95) (t := 16) q152_47 zt_95 rfl rfl rfl hd tk2 tb2 (g_le tk2 rfl) hb2 ⟨_, rfl⟩ hI2 hJ2 ?_
  intro σ3 hI3 hJ3 hF3
  have gF1 := (F1.2 372).2.1 _ gF rfl
  have gF2 := (hF2.2 372).2.1 _ gF1 rfl
  have gF3 := (hF3.2 372).2.1 _ gF2 rfl
  obtain ⟨fs3, go3, gf3⟩ := g_fld hI3
  obtain ⟨a3, f3, _, t3⟩ := gf3 14 72 rfl
  obtain rfl := z_372 t3
  refine w_A q152_50 l0 ?_
  refine w_gf q152_51 go3 f3 ?_
  refine w_I q152_54 l1 ?_
  refine w_K q152_55 ?_
  refine w_zst q152_56 gF3 (by decide) (by decide) rfl ?_
  refine w_K q152_57 ?_
  have m4 := mD_put2 (e2 := (.inl (2, 2, .inl (upd F 0 (Int32.ofNat 1))))) gF3
  have t : ∀ A, z_τ A = 13 → z_τ (A + 2) = 43 → z_τ (A + 10) = 47 → A ≠ 372 → A + 2 ≠ 372 → A + 10 ≠ 372 → CP σ1 (iv_put σ3 372 (.inl (2, 2, .inl (upd F 0 (Int32.ofNat 1))))) A A := fun A a1 a2 a3 n1 n2 n3 => CP_tr (CP_tr (CP_z hI1 hF2 rfl a1 a2 a3) (CP_z hI2 hF3 rfl a1 a2 a3)) (CP_D m4 n1 n2 n3)
  refine w_ret2 q152_58 rfl ⟨_, rfl, .inr ⟨0, by decide, rfl, CP_tr (CP_F f1 rfl rfl rfl) (t 4 rfl rfl rfl (by decide) (by decide) (by decide)), CP_tr cp (t 440 rfl rfl rfl (by decide) (by decide) (by decide)), fun k hk hne => ?_, ?_⟩⟩
  · rcases k01 hk with rfl | rfl
    · exact absurd rfl hne
    · exact CP_tr (CP_F f1 rfl rfl rfl) (t 494 rfl rfl rfl (by decide) (by decide) (by decide))
  · rw [hA_of m4.2.1, hA_of gF]
theorem yc_img1 {L : Nat} {xs : Nat → Int32} {d : Nat} {σ : iv_H} {clv : iv_L} (hd : 5 ≤ d) (hI : zI z_τ z_ty σ) (hJ : z_J σ) (hX : FX σ) (hG : FX2 σ) (l0 : iv_f1 clv 0 = some (.ref 0)) (l1 : iv_f1 clv 1 = some (.int (Int32.ofNat 1))) : zGo L xs (fun r σ' => ∃ v, r = some (.int v) ∧ yIm (Int32.ofNat 1) σ σ') [] (d + 1) 152 0 clv [] σ := by
  obtain ⟨fA, gA, hA0, hA1⟩ := hG
  obtain ⟨G, g0, oG⟩ := yo_of hI (a := 0) (t := 21) (n := 20) rfl rfl rfl
  have c3 := yFX_v hX oG (by decide : (0, 11, 3, 4) ∈ yFX)
  have c11 := yFX_v hX oG (by decide : (0, 11, 11, 366) ∈ yFX)
  obtain ⟨F, gF, zF⟩ := c_isk hI
  obtain ⟨E, g494, oE⟩ := yo_of hI (a := 494) (t := 13) (n := 16) rfl rfl rfl
  obtain ⟨f496, g496⟩ := yj_of hI (a := 496) (n := 7) rfl
  obtain ⟨f498, g498⟩ := yi_of hI (a := 498) (n := 7) rfl
  obtain ⟨f500, g500⟩ := yi_of hI (a := 500) (n := 7) rfl
  obtain ⟨f502, g502⟩ := yi_of hI (a := 502) (n := 7) rfl
  obtain ⟨f504, g504⟩ := yj_of hI (a := 504) (n := 6) rfl
  obtain ⟨f506, g506⟩ := yi_of hI (a := 506) (n := 6) rfl
  obtain ⟨f508, g508⟩ := yi_of hI (a := 508) (n := 6) rfl
  obtain ⟨D, g4, oD⟩ := yo_of hI (a := 4) (t := 13) (n := 16) rfl rfl rfl
  obtain ⟨f6, g6⟩ := yj_of hI (a := 6) (n := 7) rfl
  obtain ⟨f8, g8⟩ := yi_of hI (a := 8) (n := 7) rfl
  obtain ⟨f10, g10⟩ := yi_of hI (a := 10) (n := 7) rfl
  obtain ⟨f12, g12⟩ := yi_of hI (a := 12) (n := 7) rfl
  obtain ⟨f14, g14⟩ := yj_of hI (a := 14) (n := 6) rfl
  obtain ⟨f16, g16⟩ := yi_of hI (a := 16) (n := 6) rfl
  obtain ⟨f18, g18⟩ := yi_of hI (a := 18) (n := 6) rfl
  obtain ⟨x0, d0⟩ := yz_int hI (a := 4) (j := 0) g4 rfl rfl (by decide)
  obtain ⟨x1, d1⟩ := yz_int hI (a := 4) (j := 1) g4 rfl rfl (by decide)
  obtain ⟨x2, d2⟩ := yz_int hI (a := 4) (j := 2) g4 rfl rfl (by decide)
  obtain ⟨x3, d3⟩ := yz_int hI (a := 4) (j := 3) g4 rfl rfl (by decide)
  obtain ⟨x4, d4⟩ := yz_int hI (a := 4) (j := 4) g4 rfl rfl (by decide)
  obtain ⟨x5, d5⟩ := yz_int hI (a := 4) (j := 5) g4 rfl rfl (by decide)
  obtain ⟨σ1, r1, E1, gE1, _, k1, k2, k3, _, k5, h6, h14, f1⟩ := yg_cpK1 (L := L) (xs := xs) (d := d) g494 g4 g496 g498 g500 g502 g504 g506 g508 g6 g8 g10 g12 g14 g16 g18 (yFX_v hX oE (by decide : (494, 3, 9, 496) ∈ yFX)) (yFX_v hX oE (by decide : (494, 3, 10, 498) ∈ yFX)) (yFX_v hX oE (by decide : (494, 3, 11, 500) ∈ yFX)) (yFX_v hX oE (by decide : (494, 3, 12, 502) ∈ yFX)) (yFX_v hX oE (by decide : (494, 3, 13, 504) ∈ yFX)) (yFX_v hX oE (by decide : (494, 3, 14, 506) ∈ yFX)) (yFX_v hX oE (by decide : (494, 3, 15, 508) ∈ yFX)) (yFX_v hX oD (by decide : (4, 3, 9, 6) ∈ yFX)) (yFX_v hX oD (by decide : (4, 3, 10, 8) ∈ yFX)) (yFX_v hX oD (by decide : (4, 3, 11, 10) ∈ yFX)) (yFX_v hX oD (by decide : (4, 3, 12, 12) ∈ yFX)) (yFX_v hX oD (by decide : (4, 3, 13, 14) ∈ yFX)) (yFX_v hX oD (by decide : (4, 3, 14, 16) ∈ yFX)) (yFX_v hX oD (by decide : (4, 3, 15, 18) ∈ yFX)) d0 d1 d2 d3 d4 d5
  obtain ⟨r1b, σ1b, R1, hI1, hJ1, F1⟩ := yz_two (L := L) (xs := xs) (d := d) (a := 494) (b := 4) zt_94 rfl (show 5 ≤ d by omega) rfl rfl (by decide) (by decide) hI hJ
  obtain ⟨_, rfl⟩ := y_det r1 R1
  have cp : CP σ σ1 494 4 := CP_cp g4 d1 d2 d3 d5 g6 g14 gE1 k1 k2 k3 k5 h6 h14
  refine w_I q152_0 l1 ?_
  refine w_ifF q152_1 rfl (by decide) ?_
  refine w_I q152_4 l1 ?_
  refine w_K q152_5 ?_
  refine w_icT q152_6 rfl (by decide) ?_
  refine w_A q152_11 l0 ?_
  refine y_gf q152_12 g0 rfl c11 ?_
  refine w_I q152_15 l1 ?_
  refine w_ql (t := 0) q152_16 gA (by decide) (by decide) (by decide) hA1 ?_
  refine w_A q152_17 l0 ?_
  refine y_gf q152_18 g0 rfl c3 ?_
  refine y_call0 q152_21 (y_args6 g494 rfl rfl) rfl r1 ?_
  obtain ⟨fs1, go1, gf1⟩ := g_fld hI1
  obtain ⟨a1, fk1, _, ta1⟩ := gf1 12 70 rfl
  obtain ⟨b1, fo1, hb1, tb1⟩ := gf1 5 17 rfl
  obtain ⟨A1, gA1, lA1, eA1⟩ := g_arr hI1 ta1 (k := 17) rfl
  obtain ⟨k1, ek1, tk1⟩ := eA1 1 (by decide)
  refine w_A q152_24 l0 ?_
  refine w_gf q152_25 go1 fk1 ?_
  refine w_I q152_28 l1 ?_
  refine w_ql q152_29 gA1 lA1 (by decide) (by decide) ek1 ?_
  refine w_A q152_30 l0 ?_
  refine w_gf q152_31 go1 fo1 ?_
  refine w_cp (c := zc_12) (t := 17) q152_34 zt_12 rfl rfl rfl hd tk1 tb1 (g_le tk1 rfl) hb1 ⟨_, rfl⟩ hI1 hJ1 ?_
  intro σ2 hI2 hJ2 hF2
  obtain ⟨fs2, go2, gf2⟩ := g_fld hI2
  obtain ⟨a2, fk2, _, ta2⟩ := gf2 13 71 rfl
  obtain ⟨b2, fo2, hb2, tb2⟩ := gf2 7 16 rfl
  obtain ⟨A2, gA2, lA2, eA2⟩ := g_arr hI2 ta2 (k := 16) rfl
  obtain ⟨k2, ek2, tk2⟩ := eA2 1 (by decide)
  refine w_A q152_37 l0 ?_
  refine w_gf q152_38 go2 fk2 ?_
  refine w_I q152_41 l1 ?_
  refine w_ql q152_42 gA2 lA2 (by decide) (by decide) ek2 ?_
  refine w_A q152_43 l0 ?_
  refine w_gf q152_44 go2 fo2 ?_
  refine w_cp (c := zc_95) (t := 16) q152_47 zt_95 rfl rfl rfl hd tk2 tb2 (g_le tk2 rfl) hb2 ⟨_, rfl⟩ hI2 hJ2 ?_
  intro σ3 hI3 hJ3 hF3
  have gF1 := (F1.2 372).2.1 _ gF rfl
  have gF2 := (hF2.2 372).2.1 _ gF1 rfl
  have gF3 := (hF3.2 372).2.1 _ gF2 rfl
  obtain ⟨fs3, go3, gf3⟩ := g_fld hI3
  obtain ⟨a3, f3, _, t3⟩ := gf3 14 72 rfl
  obtain rfl := z_372 t3
  refine w_A q152_50 l0 ?_
  refine w_gf q152_51 go3 f3 ?_
  refine w_I q152_54 l1 ?_
  refine w_K q152_55 ?_
  refine w_zst q152_56 gF3 (by decide) (by decide) rfl ?_
  refine w_K q152_57 ?_
  have m4 := mD_put2 (e2 := (.inl (2, 2, .inl (upd F 1 (Int32.ofNat 1))))) gF3
  have t : ∀ A, z_τ A = 13 → z_τ (A + 2) = 43 → z_τ (A + 10) = 47 → A ≠ 372 → A + 2 ≠ 372 → A + 10 ≠ 372 → CP σ1 (iv_put σ3 372 (.inl (2, 2, .inl (upd F 1 (Int32.ofNat 1))))) A A := fun A a1 a2 a3 n1 n2 n3 => CP_tr (CP_tr (CP_z hI1 hF2 rfl a1 a2 a3) (CP_z hI2 hF3 rfl a1 a2 a3)) (CP_D m4 n1 n2 n3)
  refine w_ret2 q152_58 rfl ⟨_, rfl, .inr ⟨1, by decide, rfl, CP_tr (CP_F f1 rfl rfl rfl) (t 4 rfl rfl rfl (by decide) (by decide) (by decide)), CP_tr cp (t 494 rfl rfl rfl (by decide) (by decide) (by decide)), fun k hk hne => ?_, ?_⟩⟩
  · rcases k01 hk with rfl | rfl
    · exact CP_tr (CP_F f1 rfl rfl rfl) (t 440 rfl rfl rfl (by decide) (by decide) (by decide))
    · exact absurd rfl hne
  · rw [hA_of m4.2.1, hA_of gF]
theorem yc_rst0 {L : Nat} {xs : Nat → Int32} {d : Nat} {σ : iv_H} {clv : iv_L} (hd : 5 ≤ d) (hI : zI z_τ z_ty σ) (hJ : z_J σ) (hX : FX σ) (hG : FX2 σ) (l0 : iv_f1 clv 0 = some (.ref 0)) (l1 : iv_f1 clv 1 = some (.int (Int32.ofNat 0))) : zGo L xs (fun r σ' => ∃ v, r = some (.int v) ∧ yRs (Int32.ofNat 0) σ σ') [] (d + 1) 153 0 clv [] σ := by
  obtain ⟨fA, gA, hA0, hA1⟩ := hG
  obtain ⟨G, g0, oG⟩ := yo_of hI (a := 0) (t := 21) (n := 20) rfl rfl rfl
  have c3 := yFX_v hX oG (by decide : (0, 11, 3, 4) ∈ yFX)
  have c11 := yFX_v hX oG (by decide : (0, 11, 11, 366) ∈ yFX)
  obtain ⟨F, gF, zF⟩ := c_isk hI
  obtain ⟨E, g4, oE⟩ := yo_of hI (a := 4) (t := 13) (n := 16) rfl rfl rfl
  obtain ⟨f6, g6⟩ := yj_of hI (a := 6) (n := 7) rfl
  obtain ⟨f8, g8⟩ := yi_of hI (a := 8) (n := 7) rfl
  obtain ⟨f10, g10⟩ := yi_of hI (a := 10) (n := 7) rfl
  obtain ⟨f12, g12⟩ := yi_of hI (a := 12) (n := 7) rfl
  obtain ⟨f14, g14⟩ := yj_of hI (a := 14) (n := 6) rfl
  obtain ⟨f16, g16⟩ := yi_of hI (a := 16) (n := 6) rfl
  obtain ⟨f18, g18⟩ := yi_of hI (a := 18) (n := 6) rfl
  obtain ⟨D, g440, oD⟩ := yo_of hI (a := 440) (t := 13) (n := 16) rfl rfl rfl
  obtain ⟨f442, g442⟩ := yj_of hI (a := 442) (n := 7) rfl
  obtain ⟨f444, g444⟩ := yi_of hI (a := 444) (n := 7) rfl
  obtain ⟨f446, g446⟩ := yi_of hI (a := 446) (n := 7) rfl
  obtain ⟨f448, g448⟩ := yi_of hI (a := 448) (n := 7) rfl
  obtain ⟨f450, g450⟩ := yj_of hI (a := 450) (n := 6) rfl
  obtain ⟨f452, g452⟩ := yi_of hI (a := 452) (n := 6) rfl
  obtain ⟨f454, g454⟩ := yi_of hI (a := 454) (n := 6) rfl
  obtain ⟨x0, d0⟩ := yz_int hI (a := 440) (j := 0) g440 rfl rfl (by decide)
  obtain ⟨x1, d1⟩ := yz_int hI (a := 440) (j := 1) g440 rfl rfl (by decide)
  obtain ⟨x2, d2⟩ := yz_int hI (a := 440) (j := 2) g440 rfl rfl (by decide)
  obtain ⟨x3, d3⟩ := yz_int hI (a := 440) (j := 3) g440 rfl rfl (by decide)
  obtain ⟨x4, d4⟩ := yz_int hI (a := 440) (j := 4) g440 rfl rfl (by decide)
  obtain ⟨x5, d5⟩ := yz_int hI (a := 440) (j := 5) g440 rfl rfl (by decide)
  obtain ⟨σ1, r1, E1, gE1, _, k1, k2, k3, _, k5, h6, h14, f1⟩ := yg_cpG0 (L := L) (xs := xs) (d := d) g4 g440 g6 g8 g10 g12 g14 g16 g18 g442 g444 g446 g448 g450 g452 g454 (yFX_v hX oE (by decide : (4, 3, 9, 6) ∈ yFX)) (yFX_v hX oE (by decide : (4, 3, 10, 8) ∈ yFX)) (yFX_v hX oE (by decide : (4, 3, 11, 10) ∈ yFX)) (yFX_v hX oE (by decide : (4, 3, 12, 12) ∈ yFX)) (yFX_v hX oE (by decide : (4, 3, 13, 14) ∈ yFX)) (yFX_v hX oE (by decide : (4, 3, 14, 16) ∈ yFX)) (yFX_v hX oE (by decide : (4, 3, 15, 18) ∈ yFX)) (yFX_v hX oD (by decide : (440, 3, 9, 442) ∈ yFX)) (yFX_v hX oD (by decide : (440, 3, 10, 444) ∈ yFX)) (yFX_v hX oD (by decide : (440, 3, 11, 446) ∈ yFX)) (yFX_v hX oD (by decide : (440, 3, 12, 448) ∈ yFX)) (yFX_v hX oD (by decide : (440, 3, 13, 450) ∈ yFX)) (yFX_v hX oD (by decide : (440, 3, 14, 452) ∈ yFX)) (yFX_v hX oD (by decide : (440, 3, 15, 454) ∈ yFX)) d0 d1 d2 d3 d4 d5
  obtain ⟨r1b, σ1b, R1, hI1, hJ1, F1⟩ := yz_two (L := L) (xs := xs) (d := d) (a := 4) (b := 440) zt_94 rfl (show 5 ≤ d by omega) rfl rfl (by decide) (by decide) hI hJ
  obtain ⟨_, rfl⟩ := y_det r1 R1
  have cp : CP σ σ1 4 440 := CP_cp g440 d1 d2 d3 d5 g442 g450 gE1 k1 k2 k3 k5 h6 h14
  obtain ⟨fs9, go9, gf9⟩ := g_fld hI
  obtain ⟨a9, f9, _, t9⟩ := gf9 14 72 rfl
  obtain rfl := z_372 t9
  refine w_I q153_0 l1 ?_
  refine w_ifF q153_1 rfl (by decide) ?_
  refine w_I q153_4 l1 ?_
  refine w_K q153_5 ?_
  refine w_icF q153_6 rfl (by decide) ?_
  refine w_A q153_9 l0 ?_
  refine w_gf q153_10 go9 f9 ?_
  refine w_I q153_13 l1 ?_
  refine w_zl q153_14 gF (by decide) (by decide) ?_
  rcases zF 0 (by decide) with hz | hz
  · refine w_ifF q153_15 rfl (by rw [hz]; decide) ?_
    refine w_K q153_18 ?_
    exact w_ret2 q153_19 rfl ⟨_, rfl, .inl ⟨.inr ⟨0, by decide, rfl, by rw [hA_of gF]; exact hz⟩, rfl⟩⟩
  refine w_ifT q153_15 rfl (by rw [hz]; decide) ?_
  refine w_A q153_20 l0 ?_
  refine y_gf q153_21 g0 rfl c3 ?_
  refine w_A q153_24 l0 ?_
  refine y_gf q153_25 g0 rfl c11 ?_
  refine w_I q153_28 l1 ?_
  refine w_ql (t := 0) q153_29 gA (by decide) (by decide) (by decide) hA0 ?_
  refine y_call0 q153_30 (y_args6 g4 rfl rfl) rfl r1 ?_
  obtain ⟨fs1, go1, gf1⟩ := g_fld hI1
  obtain ⟨a1, fk1, _, ta1⟩ := gf1 12 70 rfl
  obtain ⟨b1, fo1, hb1, tb1⟩ := gf1 5 17 rfl
  obtain ⟨A1, gA1, lA1, eA1⟩ := g_arr hI1 ta1 (k := 17) rfl
  obtain ⟨k1, ek1, tk1⟩ := eA1 0 (by decide)
  refine w_A q153_33 l0 ?_
  refine w_gf q153_34 go1 fo1 ?_
  refine w_A q153_37 l0 ?_
  refine w_gf q153_38 go1 fk1 ?_
  refine w_I q153_41 l1 ?_
  refine w_ql q153_42 gA1 lA1 (by decide) (by decide) ek1 ?_
  refine w_cp (c := zc_12) (t := 17) q153_43 zt_12 rfl rfl rfl hd tb1 tk1 hb1 (g_le tk1 rfl) ⟨_, rfl⟩ hI1 hJ1 ?_
  intro σ2 hI2 hJ2 hF2
  obtain ⟨fs2, go2, gf2⟩ := g_fld hI2
  obtain ⟨a2, fk2, _, ta2⟩ := gf2 13 71 rfl
  obtain ⟨b2, fo2, hb2, tb2⟩ := gf2 7 16 rfl
  obtain ⟨A2, gA2, lA2, eA2⟩ := g_arr hI2 ta2 (k := 16) rfl
  obtain ⟨k2, ek2, tk2⟩ := eA2 0 (by decide)
  refine w_A q153_46 l0 ?_
  refine w_gf q153_47 go2 fo2 ?_
  refine w_A q153_50 l0 ?_
  refine w_gf q153_51 go2 fk2 ?_
  refine w_I q153_54 l1 ?_
  refine w_ql q153_55 gA2 lA2 (by decide) (by decide) ek2 ?_
  refine w_cp (c := zc_95) (t := 16) q153_56 zt_95 rfl rfl rfl hd tb2 tk2 hb2 (g_le tk2 rfl) ⟨_, rfl⟩ hI2 hJ2 ?_
  intro σ3 hI3 hJ3 hF3
  obtain ⟨fs3, go3, gf3⟩ := g_fld hI3
  obtain ⟨a3, f3, b3, t3⟩ := gf3 9 14 rfl
  refine w_A q153_59 l0 ?_
  refine w_gf q153_60 go3 f3 ?_
  refine w_cp1 (c := zc_97) (t := 14) q153_63 zt_97 rfl rfl rfl hd t3 b3 ⟨_, rfl⟩ hI3 hJ3 ?_
  intro σ4 hI4 hJ4 hF4
  refine w_K q153_66 ?_
  have gF4 := (hF4.2 372).2.1 _ ((hF3.2 372).2.1 _ ((hF2.2 372).2.1 _ ((F1.2 372).2.1 _ gF rfl) rfl) rfl) rfl
  have t : ∀ A, z_τ A = 13 → z_τ (A + 2) = 43 → z_τ (A + 10) = 47 → CP σ1 σ4 A A := fun A a1 a2 a3 => CP_tr (CP_tr (CP_z hI1 hF2 rfl a1 a2 a3) (CP_z hI2 hF3 rfl a1 a2 a3)) (CP_z hI3 hF4 rfl a1 a2 a3)
  exact w_ret2 q153_67 rfl ⟨_, rfl, .inr ⟨0, by decide, rfl, by rw [hA_of gF]; exact hz, CP_tr cp (t 4 rfl rfl rfl), CP_tr (CP_F f1 rfl rfl rfl) (t 440 rfl rfl rfl), CP_tr (CP_F f1 rfl rfl rfl) (t 494 rfl rfl rfl), by rw [hA_of gF4, hA_of gF]⟩⟩
theorem yc_rst1 {L : Nat} {xs : Nat → Int32} {d : Nat} {σ : iv_H} {clv : iv_L} (hd : 5 ≤ d) (hI : zI z_τ z_ty σ) (hJ : z_J σ) (hX : FX σ) (hG : FX2 σ) (l0 : iv_f1 clv 0 = some (.ref 0)) (l1 : iv_f1 clv 1 = some (.int (Int32.ofNat 1))) : zGo L xs (fun r σ' => ∃ v, r = some (.int v) ∧ yRs (Int32.ofNat 1) σ σ') [] (d + 1) 153 0 clv [] σ := by
  obtain ⟨fA, gA, hA0, hA1⟩ := hG
  obtain ⟨G, g0, oG⟩ := yo_of hI (a := 0) (t := 21) (n := 20) rfl rfl rfl
  have c3 := yFX_v hX oG (by decide : (0, 11, 3, 4) ∈ yFX)
  have c11 := yFX_v hX oG (by decide : (0, 11, 11, 366) ∈ yFX)
  obtain ⟨F, gF, zF⟩ := c_isk hI
  obtain ⟨E, g4, oE⟩ := yo_of hI (a := 4) (t := 13) (n := 16) rfl rfl rfl
  obtain ⟨f6, g6⟩ := yj_of hI (a := 6) (n := 7) rfl
  obtain ⟨f8, g8⟩ := yi_of hI (a := 8) (n := 7) rfl
  obtain ⟨f10, g10⟩ := yi_of hI (a := 10) (n := 7) rfl
  obtain ⟨f12, g12⟩ := yi_of hI (a := 12) (n := 7) rfl
  obtain ⟨f14, g14⟩ := yj_of hI (a := 14) (n := 6) rfl
  obtain ⟨f16, g16⟩ := yi_of hI (a := 16) (n := 6) rfl
  obtain ⟨f18, g18⟩ := yi_of hI (a := 18) (n := 6) rfl
  obtain ⟨D, g494, oD⟩ := yo_of hI (a := 494) (t := 13) (n := 16) rfl rfl rfl
  obtain ⟨f496, g496⟩ := yj_of hI (a := 496) (n := 7) rfl
  obtain ⟨f498, g498⟩ := yi_of hI (a := 498) (n := 7) rfl
  obtain ⟨f500, g500⟩ := yi_of hI (a := 500) (n := 7) rfl
  obtain ⟨f502, g502⟩ := yi_of hI (a := 502) (n := 7) rfl
  obtain ⟨f504, g504⟩ := yj_of hI (a := 504) (n := 6) rfl
  obtain ⟨f506, g506⟩ := yi_of hI (a := 506) (n := 6) rfl
  obtain ⟨f508, g508⟩ := yi_of hI (a := 508) (n := 6) rfl
  obtain ⟨x0, d0⟩ := yz_int hI (a := 494) (j := 0) g494 rfl rfl (by decide)
  obtain ⟨x1, d1⟩ := yz_int hI (a := 494) (j := 1) g494 rfl rfl (by decide)
  obtain ⟨x2, d2⟩ := yz_int hI (a := 494) (j := 2) g494 rfl rfl (by decide)
  obtain ⟨x3, d3⟩ := yz_int hI (a := 494) (j := 3) g494 rfl rfl (by decide)
  obtain ⟨x4, d4⟩ := yz_int hI (a := 494) (j := 4) g494 rfl rfl (by decide)
  obtain ⟨x5, d5⟩ := yz_int hI (a := 494) (j := 5) g494 rfl rfl (by decide)
  obtain ⟨σ1, r1, E1, gE1, _, k1, k2, k3, _, k5, h6, h14, f1⟩ := yg_cpG1 (L := L) (xs := xs) (d := d) g4 g494 g6 g8 g10 g12 g14 g16 g18 g496 g498 g500 g502 g504 g506 g508 (yFX_v hX oE (by decide : (4, 3, 9, 6) ∈ yFX)) (yFX_v hX oE (by decide : (4, 3, 10, 8) ∈ yFX)) (yFX_v hX oE (by decide : (4, 3, 11, 10) ∈ yFX)) (yFX_v hX oE (by decide : (4, 3, 12, 12) ∈ yFX)) (yFX_v hX oE (by decide : (4, 3, 13, 14) ∈ yFX)) (yFX_v hX oE (by decide : (4, 3, 14, 16) ∈ yFX)) (yFX_v hX oE (by decide : (4, 3, 15, 18) ∈ yFX)) (yFX_v hX oD (by decide : (494, 3, 9, 496) ∈ yFX)) (yFX_v hX oD (by decide : (494, 3, 10, 498) ∈ yFX)) (yFX_v hX oD (by decide : (494, 3, 11, 500) ∈ yFX)) (yFX_v hX oD (by decide : (494, 3, 12, 502) ∈ yFX)) (yFX_v hX oD (by decide : (494, 3, 13, 504) ∈ yFX)) (yFX_v hX oD (by decide : (494, 3, 14, 506) ∈ yFX)) (yFX_v hX oD (by decide : (494, 3, 15, 508) ∈ yFX)) d0 d1 d2 d3 d4 d5
  obtain ⟨r1b, σ1b, R1, hI1, hJ1, F1⟩ := yz_two (L := L) (xs := xs) (d := d) (a := 4) (b := 494) zt_94 rfl (show 5 ≤ d by omega) rfl rfl (by decide) (by decide) hI hJ
  obtain ⟨_, rfl⟩ := y_det r1 R1
  have cp : CP σ σ1 4 494 := CP_cp g494 d1 d2 d3 d5 g496 g504 gE1 k1 k2 k3 k5 h6 h14
  obtain ⟨fs9, go9, gf9⟩ := g_fld hI
  obtain ⟨a9, f9, _, t9⟩ := gf9 14 72 rfl
  obtain rfl := z_372 t9
  refine w_I q153_0 l1 ?_
  refine w_ifF q153_1 rfl (by decide) ?_
  refine w_I q153_4 l1 ?_
  refine w_K q153_5 ?_
  refine w_icF q153_6 rfl (by decide) ?_
  refine w_A q153_9 l0 ?_
  refine w_gf q153_10 go9 f9 ?_
  refine w_I q153_13 l1 ?_
  refine w_zl q153_14 gF (by decide) (by decide) ?_
  rcases zF 1 (by decide) with hz | hz
  · refine w_ifF q153_15 rfl (by rw [hz]; decide) ?_
    refine w_K q153_18 ?_
    exact w_ret2 q153_19 rfl ⟨_, rfl, .inl ⟨.inr ⟨1, by decide, rfl, by rw [hA_of gF]; exact hz⟩, rfl⟩⟩
  refine w_ifT q153_15 rfl (by rw [hz]; decide) ?_
  refine w_A q153_20 l0 ?_
  refine y_gf q153_21 g0 rfl c3 ?_
  refine w_A q153_24 l0 ?_
  refine y_gf q153_25 g0 rfl c11 ?_
  refine w_I q153_28 l1 ?_
  refine w_ql (t := 0) q153_29 gA (by decide) (by decide) (by decide) hA1 ?_
  refine y_call0 q153_30 (y_args6 g4 rfl rfl) rfl r1 ?_
  obtain ⟨fs1, go1, gf1⟩ := g_fld hI1
  obtain ⟨a1, fk1, _, ta1⟩ := gf1 12 70 rfl
  obtain ⟨b1, fo1, hb1, tb1⟩ := gf1 5 17 rfl
  obtain ⟨A1, gA1, lA1, eA1⟩ := g_arr hI1 ta1 (k := 17) rfl
  obtain ⟨k1, ek1, tk1⟩ := eA1 1 (by decide)
  refine w_A q153_33 l0 ?_
  refine w_gf q153_34 go1 fo1 ?_
  refine w_A q153_37 l0 ?_
  refine w_gf q153_38 go1 fk1 ?_
  refine w_I q153_41 l1 ?_
  refine w_ql q153_42 gA1 lA1 (by decide) (by decide) ek1 ?_
  refine w_cp (c := zc_12) (t := 17) q153_43 zt_12 rfl rfl rfl hd tb1 tk1 hb1 (g_le tk1 rfl) ⟨_, rfl⟩ hI1 hJ1 ?_
  intro σ2 hI2 hJ2 hF2
  obtain ⟨fs2, go2, gf2⟩ := g_fld hI2
  obtain ⟨a2, fk2, _, ta2⟩ := gf2 13 71 rfl
  obtain ⟨b2, fo2, hb2, tb2⟩ := gf2 7 16 rfl
  obtain ⟨A2, gA2, lA2, eA2⟩ := g_arr hI2 ta2 (k := 16) rfl
  obtain ⟨k2, ek2, tk2⟩ := eA2 1 (by decide)
  refine w_A q153_46 l0 ?_
  refine w_gf q153_47 go2 fo2 ?_
  refine w_A q153_50 l0 ?_
  refine w_gf q153_51 go2 fk2 ?_
  refine w_I q153_54 l1 ?_
  refine w_ql q153_55 gA2 lA2 (by decide) (by decide) ek2 ?_
  refine w_cp (c := zc_95) (t := 16) q153_56 zt_95 rfl rfl rfl hd tb2 tk2 hb2 (g_le tk2 rfl) ⟨_, rfl⟩ hI2 hJ2 ?_
  intro σ3 hI3 hJ3 hF3
  obtain ⟨fs3, go3, gf3⟩ := g_fld hI3
  obtain ⟨a3, f3, b3, t3⟩ := gf3 9 14 rfl
  refine w_A q153_59 l0 ?_
  refine w_gf q153_60 go3 f3 ?_
  refine w_cp1 (c := zc_97) (t := 14) q153_63 zt_97 rfl rfl rfl hd t3 b3 ⟨_, rfl⟩ hI3 hJ3 ?_
  intro σ4 hI4 hJ4 hF4
  refine w_K q153_66 ?_
  have gF4 := (hF4.2 372).2.1 _ ((hF3.2 372).2.1 _ ((hF2.2 372).2.1 _ ((F1.2 372).2.1 _ gF rfl) rfl) rfl) rfl
  have t : ∀ A, z_τ A = 13 → z_τ (A + 2) = 43 → z_τ (A + 10) = 47 → CP σ1 σ4 A A := fun A a1 a2 a3 => CP_tr (CP_tr (CP_z hI1 hF2 rfl a1 a2 a3) (CP_z hI2 hF3 rfl a1 a2 a3)) (CP_z hI3 hF4 rfl a1 a2 a3)
  exact w_ret2 q153_67 rfl ⟨_, rfl, .inr ⟨1, by decide, rfl, by rw [hA_of gF]; exact hz, CP_tr cp (t 4 rfl rfl rfl), CP_tr (CP_F f1 rfl rfl rfl) (t 440 rfl rfl rfl), CP_tr (CP_F f1 rfl rfl rfl) (t 494 rfl rfl rfl), by rw [hA_of gF4, hA_of gF]⟩⟩
theorem yc_img {L : Nat} {xs : Nat → Int32} {d : Nat} {σ : iv_H} (a : Int32) (hd : 6 ≤ d) (hI : zI z_τ z_ty σ) (hJ : z_J σ) (hF : FX σ) (hG : FX2 σ) : ∃ v σ1, iv_Rn L xs d 152 0 (lv_args 0 [.ref 0, .int a]) [] σ (some (.int v)) σ1 ∧ yIm a σ σ1 := by
  obtain ⟨d, rfl⟩ : ∃ e, d = e + 1 := ⟨d - 1, by omega⟩
  have z0 : (0 : Int32).toInt = 0 := by decide
  have z2 : (Int32.ofNat 2).toInt = 2 := by decide
  refine y_RnE ?_
  by_cases hv : 0 ≤ a.toInt ∧ a.toInt ≤ 1
  · obtain ⟨q, hq, rfl⟩ := v01 (v := a) (by rw [show (Int32.ofNat 0).toInt = 0 by decide]; exact hv.1) (by rw [show (Int32.ofNat 1).toInt = 1 by decide]; exact hv.2)
    rcases (show q = 0 ∨ q = 1 by omega) with rfl | rfl
    · exact yc_img0 (by omega) hI hJ hF hG rfl rfl
    · exact yc_img1 (by omega) hI hJ hF hG rfl rfl
  · refine w_I q152_0 rfl ?_
    have fin : zGo L xs (fun r σ' => ∃ v, r = some (.int v) ∧ yIm a σ σ') [] (d + 1) 152 9 (lv_args 0 [.ref 0, .int a]) [] σ := by
      refine w_K q152_9 ?_
      exact w_ret2 q152_10 rfl ⟨_, rfl, .inl ⟨hv, rfl⟩⟩
    by_cases h0 : a.toInt < 0
    · exact w_ifT q152_1 rfl (zch_32.mpr (show a.toInt < (0 : Int32).toInt by omega)) fin
    · refine w_ifF q152_1 rfl (c_f (fun h => by
        have h : a.toInt < (0 : Int32).toInt := zch_32.mp h
        omega)) ?_
      refine w_I q152_4 rfl ?_
      refine w_K q152_5 ?_
      exact w_icF q152_6 rfl (c_f (fun h => by
        have h : a.toInt < (Int32.ofNat 2).toInt := zch_32.mp h
        omega)) fin
theorem yc_rst {L : Nat} {xs : Nat → Int32} {d : Nat} {σ : iv_H} (a : Int32) (hd : 6 ≤ d) (hI : zI z_τ z_ty σ) (hJ : z_J σ) (hF : FX σ) (hG : FX2 σ) : ∃ v σ1, iv_Rn L xs d 153 0 (lv_args 0 [.ref 0, .int a]) [] σ (some (.int v)) σ1 ∧ yRs a σ σ1 := by
  obtain ⟨d, rfl⟩ : ∃ e, d = e + 1 := ⟨d - 1, by omega⟩
  have z0 : (0 : Int32).toInt = 0 := by decide
  have z2 : (Int32.ofNat 2).toInt = 2 := by decide
  refine y_RnE ?_
  by_cases hv : 0 ≤ a.toInt ∧ a.toInt ≤ 1
  · obtain ⟨q, hq, rfl⟩ := v01 (v := a) (by rw [show (Int32.ofNat 0).toInt = 0 by decide]; exact hv.1) (by rw [show (Int32.ofNat 1).toInt = 1 by decide]; exact hv.2)
    rcases (show q = 0 ∨ q = 1 by omega) with rfl | rfl
    · exact yc_rst0 (by omega) hI hJ hF hG rfl rfl
    · exact yc_rst1 (by omega) hI hJ hF hG rfl rfl
  · refine w_I q153_0 rfl ?_
    have fin : zGo L xs (fun r σ' => ∃ v, r = some (.int v) ∧ yRs a σ σ') [] (d + 1) 153 18 (lv_args 0 [.ref 0, .int a]) [] σ := by
      refine w_K q153_18 ?_
      exact w_ret2 q153_19 rfl ⟨_, rfl, .inl ⟨.inl hv, rfl⟩⟩
    by_cases h0 : a.toInt < 0
    · exact w_ifT q153_1 rfl (zch_32.mpr (show a.toInt < (0 : Int32).toInt by omega)) fin
    · refine w_ifF q153_1 rfl (c_f (fun h => by
        have h : a.toInt < (0 : Int32).toInt := zch_32.mp h
        omega)) ?_
      refine w_I q153_4 rfl ?_
      refine w_K q153_5 ?_
      exact w_icT q153_6 rfl (zch_32.mpr (show (Int32.ofNat 2).toInt ≤ a.toInt by omega)) fin
/-! the reference: image, restore -/
theorem ym_img {L : Nat} {xs : Nat → Int32} {d : Nat} {σ : iv_H} (a : Int32) (hd : 1 ≤ d) (hI : zI m_τ m_ty σ) : ∃ v σ1, iv_Rn L xs d 280 0 (lv_args 0 [.ref 548, .int a]) [] σ (some (.int v)) σ1 ∧ ((¬ (0 ≤ a.toInt ∧ a.toInt ≤ 1) ∧ mSame σ σ1) ∨ ∃ q : Nat, q ≤ 1 ∧ a = Int32.ofNat q ∧ (mA σ1 552 = mA σ 552 ∧ mL σ1 562 = mL σ 562) ∧ mA σ1 556 = va_cpy (mA σ 552) (mA σ 556) 0 (374 * q) 374 ∧ mL σ1 566 = va_cpy (mL σ 562) (mL σ 566) 0 (13 * q) 13 ∧ mA σ1 568 = upd (mA σ 568) q (Int32.ofNat 1)) := by
  obtain ⟨d, rfl⟩ : ∃ e, d = e + 1 := ⟨d - 1, by omega⟩
  refine y_RnE ?_
  obtain ⟨fs, ho, mo, _⟩ := mO_of hI
  obtain ⟨N, gN, _⟩ := m_iaN hI
  obtain ⟨K, gK, _⟩ := m_iaK hI
  obtain ⟨Nm, gM⟩ := m_name hI
  obtain ⟨Km, gQ⟩ := m_kname hI
  obtain ⟨Z, gZ, _⟩ := m_isk hI
  have h0 := mD_put2 (e2 := .inr (12, fs.set 0 (.int (Int32.ofNat 0)))) ho
  rw [hA_of gN, hA_of gK, hA_of gZ, hL_of gM, hL_of gQ]
  refine g_img (d := d) (lv := lv_args 0 [.ref 548, .int a]) rfl ho mo rfl gN gK gM gQ gZ (fun hv => ⟨_, rfl, .inl ⟨hv, ?_⟩⟩) (fun q hq hv σ1 σ2 σ3 h1 h2 h3 => ⟨_, rfl, .inr ⟨q, hq, hv, ⟨?_, ?_⟩, ?_, ?_, ?_⟩⟩)
  · exact ⟨fun i _ => by rw [mA_g (h0.2.2 552 (by decide))], mL_g (h0.2.2 562 (by decide)), mA_g (h0.2.2 556 (by decide)), mL_g (h0.2.2 566 (by decide)), mA_g (h0.2.2 568 (by decide))⟩
  · exact hA_of (mD_n h3 (by decide) (mD_n h2 (by decide) (mD_n h1 (by decide) (mD_n h0 (by decide) gN))))
  · exact hL_of (mD_n h3 (by decide) (mD_n h2 (by decide) (mD_n h1 (by decide) (mD_n h0 (by decide) gM))))
  · exact hA_of (mD_n h3 (by decide) (mD_n h2 (by decide) h1.2.1))
  · exact hL_of (mD_n h3 (by decide) h2.2.1)
  · exact hA_of h3.2.1
theorem ym_rst {L : Nat} {xs : Nat → Int32} {d : Nat} {σ : iv_H} (a : Int32) (hd : 1 ≤ d) (hI : zI m_τ m_ty σ) : ∃ v σ1, iv_Rn L xs d 281 0 (lv_args 0 [.ref 548, .int a]) [] σ (some (.int v)) σ1 ∧ (((¬ (0 ≤ a.toInt ∧ a.toInt ≤ 1) ∨ ∃ q : Nat, q ≤ 1 ∧ a = Int32.ofNat q ∧ mA σ 568 q = 0) ∧ mSame σ σ1) ∨ ∃ q : Nat, q ≤ 1 ∧ a = Int32.ofNat q ∧ mA σ 568 q = 1 ∧ mA σ1 552 = va_cpy (mA σ 556) (mA σ 552) (374 * q) 0 374 ∧ mL σ1 562 = va_cpy (mL σ 566) (mL σ 562) (13 * q) 0 13 ∧ mA σ1 556 = mA σ 556 ∧ mL σ1 566 = mL σ 566 ∧ mA σ1 568 = mA σ 568) := by
  obtain ⟨d, rfl⟩ : ∃ e, d = e + 1 := ⟨d - 1, by omega⟩
  refine y_RnE ?_
  obtain ⟨fs, ho, mo, _⟩ := mO_of hI
  obtain ⟨N, gN, _⟩ := m_iaN hI
  obtain ⟨K, gK, _⟩ := m_iaK hI
  obtain ⟨Nm, gM⟩ := m_name hI
  obtain ⟨Km, gQ⟩ := m_kname hI
  obtain ⟨Z, gZ, zZ⟩ := m_isk hI
  have h0 := mD_put2 (e2 := .inr (12, fs.set 0 (.int (Int32.ofNat 0)))) ho
  rw [hA_of gN, hA_of gK, hA_of gZ, hL_of gM, hL_of gQ]
  refine g_rst (d := d) (lv := lv_args 0 [.ref 548, .int a]) rfl ho mo rfl gN gK gM gQ gZ zZ (fun hv => ⟨_, rfl, .inl ⟨hv, ?_⟩⟩) (fun q hq hv hz σ1 σ2 h1 h2 => ⟨_, rfl, .inr ⟨q, hq, hv, hz, ?_, ?_, ?_, ?_, ?_⟩⟩)
  · exact ⟨fun i _ => by rw [mA_g (h0.2.2 552 (by decide))], mL_g (h0.2.2 562 (by decide)), mA_g (h0.2.2 556 (by decide)), mL_g (h0.2.2 566 (by decide)), mA_g (h0.2.2 568 (by decide))⟩
  all_goals have h3 := mD_put2 (e2 := .inr (12, (fs.set 0 (.int (Int32.ofNat 0))).set 24 (.int (Int32.ofNat 0)))) (mD_n h2 (by decide) (mD_n h1 (by decide) h0.2.1))
  · exact hA_of (mD_n h3 (by decide) (mD_n h2 (by decide) h1.2.1))
  · exact hL_of (mD_n h3 (by decide) h2.2.1)
  · exact hA_of (mD_n h3 (by decide) (mD_n h2 (by decide) (mD_n h1 (by decide) (mD_n h0 (by decide) gK))))
  · exact hL_of (mD_n h3 (by decide) (mD_n h2 (by decide) (mD_n h1 (by decide) (mD_n h0 (by decide) gQ))))
  · exact hA_of (mD_n h3 (by decide) (mD_n h2 (by decide) (mD_n h1 (by decide) (mD_n h0 (by decide) gZ))))
