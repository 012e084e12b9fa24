/-! ===== printed by wip/gen/gen_kf.py: the flags of the images ===== -/
set_option maxRecDepth 100000 in
theorem q152_0 : iv_f1 (iv_p 152) 0 = some (.inl (iv_oI 1 1)) := rfl
set_option maxRecDepth 100000 in
theorem q152_1 : iv_f1 (iv_p 152) 1 = some (.inl (iv_oIf .lt (8))) := rfl
set_option maxRecDepth 100000 in
theorem q152_4 : iv_f1 (iv_p 152) 4 = some (.inl (iv_oI 1 1)) := rfl
set_option maxRecDepth 100000 in
theorem q152_5 : iv_f1 (iv_p 152) 5 = some (.inl (iv_oK (.int (Int32.ofNat 2)) 1)) := rfl
set_option maxRecDepth 100000 in
theorem q152_6 : iv_f1 (iv_p 152) 6 = some (.inl (iv_oIc .lt (5))) := rfl
set_option maxRecDepth 100000 in
theorem q152_9 : iv_f1 (iv_p 152) 9 = some (.inl (iv_oK (.int (Int32.ofNat 0)) 1)) := rfl
set_option maxRecDepth 100000 in
theorem q152_10 : iv_f1 (iv_p 152) 10 = some (.inr (.inl 2)) := rfl
set_option maxRecDepth 100000 in
theorem q152_11 : iv_f1 (iv_p 152) 11 = some (.inl (iv_oA 0 1)) := rfl
set_option maxRecDepth 100000 in
theorem q152_12 : iv_f1 (iv_p 152) 12 = some (.inl (iv_oGF 11 11)) := rfl
set_option maxRecDepth 100000 in
theorem q152_15 : iv_f1 (iv_p 152) 15 = some (.inl (iv_oI 1 1)) := rfl
set_option maxRecDepth 100000 in
theorem q152_16 : iv_f1 (iv_p 152) 16 = some (.inl iv_oQl) := rfl
set_option maxRecDepth 100000 in
theorem q152_17 : iv_f1 (iv_p 152) 17 = some (.inl (iv_oA 0 1)) := rfl
set_option maxRecDepth 100000 in
theorem q152_18 : iv_f1 (iv_p 152) 18 = some (.inl (iv_oGF 11 3)) := rfl
set_option maxRecDepth 100000 in
theorem q152_21 : iv_f1 (iv_p 152) 21 = some (.inr (.inr (6, 25, 1, 3))) := rfl
set_option maxRecDepth 100000 in
theorem q152_24 : iv_f1 (iv_p 152) 24 = some (.inl (iv_oA 0 1)) := rfl
set_option maxRecDepth 100000 in
theorem q152_25 : iv_f1 (iv_p 152) 25 = some (.inl (iv_oGF 11 12)) := rfl
set_option maxRecDepth 100000 in
theorem q152_28 : iv_f1 (iv_p 152) 28 = some (.inl (iv_oI 1 1)) := rfl
set_option maxRecDepth 100000 in
theorem q152_29 : iv_f1 (iv_p 152) 29 = some (.inl iv_oQl) := rfl
set_option maxRecDepth 100000 in
theorem q152_30 : iv_f1 (iv_p 152) 30 = some (.inl (iv_oA 0 1)) := rfl
set_option maxRecDepth 100000 in
theorem q152_31 : iv_f1 (iv_p 152) 31 = some (.inl (iv_oGF 11 5)) := rfl
set_option maxRecDepth 100000 in
theorem q152_34 : iv_f1 (iv_p 152) 34 = some (.inr (.inr (6, 75, 1, 7))) := rfl
set_option maxRecDepth 100000 in
theorem q152_37 : iv_f1 (iv_p 152) 37 = some (.inl (iv_oA 0 1)) := rfl
set_option maxRecDepth 100000 in
theorem q152_38 : iv_f1 (iv_p 152) 38 = some (.inl (iv_oGF 11 13)) := rfl
set_option maxRecDepth 100000 in
theorem q152_41 : iv_f1 (iv_p 152) 41 = some (.inl (iv_oI 1 1)) := rfl
set_option maxRecDepth 100000 in
theorem q152_42 : iv_f1 (iv_p 152) 42 = some (.inl iv_oQl) := rfl
set_option maxRecDepth 100000 in
theorem q152_43 : iv_f1 (iv_p 152) 43 = some (.inl (iv_oA 0 1)) := rfl
set_option maxRecDepth 100000 in
theorem q152_44 : iv_f1 (iv_p 152) 44 = some (.inl (iv_oGF 11 7)) := rfl
set_option maxRecDepth 100000 in
theorem q152_47 : iv_f1 (iv_p 152) 47 = some (.inr (.inr (6, 61, 1, 6))) := rfl
set_option maxRecDepth 100000 in
theorem q152_50 : iv_f1 (iv_p 152) 50 = some (.inl (iv_oA 0 1)) := rfl
set_option maxRecDepth 100000 in
theorem q152_51 : iv_f1 (iv_p 152) 51 = some (.inl (iv_oGF 11 14)) := rfl
set_option maxRecDepth 100000 in
theorem q152_54 : iv_f1 (iv_p 152) 54 = some (.inl (iv_oI 1 1)) := rfl
set_option maxRecDepth 100000 in
theorem q152_55 : iv_f1 (iv_p 152) 55 = some (.inl (iv_oK (.int (Int32.ofNat 1)) 1)) := rfl
set_option maxRecDepth 100000 in
theorem q152_56 : iv_f1 (iv_p 152) 56 = some (.inl iv_oZst) := rfl
set_option maxRecDepth 100000 in
theorem q152_57 : iv_f1 (iv_p 152) 57 = some (.inl (iv_oK (.int (Int32.ofNat 1)) 1)) := rfl
set_option maxRecDepth 100000 in
theorem q152_58 : iv_f1 (iv_p 152) 58 = some (.inr (.inl 2)) := rfl
set_option maxRecDepth 100000 in
theorem q153_0 : iv_f1 (iv_p 153) 0 = some (.inl (iv_oI 1 1)) := rfl
set_option maxRecDepth 100000 in
theorem q153_1 : iv_f1 (iv_p 153) 1 = some (.inl (iv_oIf .lt (17))) := rfl
set_option maxRecDepth 100000 in
theorem q153_4 : iv_f1 (iv_p 153) 4 = some (.inl (iv_oI 1 1)) := rfl
set_option maxRecDepth 100000 in
theorem q153_5 : iv_f1 (iv_p 153) 5 = some (.inl (iv_oK (.int (Int32.ofNat 2)) 1)) := rfl
set_option maxRecDepth 100000 in
theorem q153_6 : iv_f1 (iv_p 153) 6 = some (.inl (iv_oIc .ge (12))) := rfl
set_option maxRecDepth 100000 in
theorem q153_9 : iv_f1 (iv_p 153) 9 = some (.inl (iv_oA 0 1)) := rfl
set_option maxRecDepth 100000 in
theorem q153_10 : iv_f1 (iv_p 153) 10 = some (.inl (iv_oGF 11 14)) := rfl
set_option maxRecDepth 100000 in
theorem q153_13 : iv_f1 (iv_p 153) 13 = some (.inl (iv_oI 1 1)) := rfl
set_option maxRecDepth 100000 in
theorem q153_14 : iv_f1 (iv_p 153) 14 = some (.inl iv_oZl) := rfl
set_option maxRecDepth 100000 in
theorem q153_15 : iv_f1 (iv_p 153) 15 = some (.inl (iv_oIf .ne (5))) := rfl
set_option maxRecDepth 100000 in
theorem q153_18 : iv_f1 (iv_p 153) 18 = some (.inl (iv_oK (.int (Int32.ofNat 0)) 1)) := rfl
set_option maxRecDepth 100000 in
theorem q153_19 : iv_f1 (iv_p 153) 19 = some (.inr (.inl 2)) := rfl
set_option maxRecDepth 100000 in
theorem q153_20 : iv_f1 (iv_p 153) 20 = some (.inl (iv_oA 0 1)) := rfl
set_option maxRecDepth 100000 in
theorem q153_21 : iv_f1 (iv_p 153) 21 = some (.inl (iv_oGF 11 3)) := rfl
set_option maxRecDepth 100000 in
theorem q153_24 : iv_f1 (iv_p 153) 24 = some (.inl (iv_oA 0 1)) := rfl
set_option maxRecDepth 100000 in
theorem q153_25 : iv_f1 (iv_p 153) 25 = some (.inl (iv_oGF 11 11)) := rfl
set_option maxRecDepth 100000 in
theorem q153_28 : iv_f1 (iv_p 153) 28 = some (.inl (iv_oI 1 1)) := rfl
set_option maxRecDepth 100000 in
theorem q153_29 : iv_f1 (iv_p 153) 29 = some (.inl iv_oQl) := rfl
set_option maxRecDepth 100000 in
theorem q153_30 : iv_f1 (iv_p 153) 30 = some (.inr (.inr (6, 25, 1, 3))) := rfl
set_option maxRecDepth 100000 in
theorem q153_33 : iv_f1 (iv_p 153) 33 = some (.inl (iv_oA 0 1)) := rfl
set_option maxRecDepth 100000 in
theorem q153_34 : iv_f1 (iv_p 153) 34 = some (.inl (iv_oGF 11 5)) := rfl
set_option maxRecDepth 100000 in
theorem q153_37 : iv_f1 (iv_p 153) 37 = some (.inl (iv_oA 0 1)) := rfl
set_option maxRecDepth 100000 in
theorem q153_38 : iv_f1 (iv_p 153) 38 = some (.inl (iv_oGF 11 12)) := rfl
set_option maxRecDepth 100000 in
theorem q153_41 : iv_f1 (iv_p 153) 41 = some (.inl (iv_oI 1 1)) := rfl
set_option maxRecDepth 100000 in
theorem q153_42 : iv_f1 (iv_p 153) 42 = some (.inl iv_oQl) := rfl
set_option maxRecDepth 100000 in
theorem q153_43 : iv_f1 (iv_p 153) 43 = some (.inr (.inr (6, 75, 1, 7))) := rfl
set_option maxRecDepth 100000 in
theorem q153_46 : iv_f1 (iv_p 153) 46 = some (.inl (iv_oA 0 1)) := rfl
set_option maxRecDepth 100000 in
theorem q153_47 : iv_f1 (iv_p 153) 47 = some (.inl (iv_oGF 11 7)) := rfl
set_option maxRecDepth 100000 in
theorem q153_50 : iv_f1 (iv_p 153) 50 = some (.inl (iv_oA 0 1)) := rfl
set_option maxRecDepth 100000 in
theorem q153_51 : iv_f1 (iv_p 153) 51 = some (.inl (iv_oGF 11 13)) := rfl
set_option maxRecDepth 100000 in
theorem q153_54 : iv_f1 (iv_p 153) 54 = some (.inl (iv_oI 1 1)) := rfl
set_option maxRecDepth 100000 in
theorem q153_55 : iv_f1 (iv_p 153) 55 = some (.inl iv_oQl) := rfl
set_option maxRecDepth 100000 in
theorem q153_56 : iv_f1 (iv_p 153) 56 = some (.inr (.inr (6, 61, 1, 6))) := rfl
set_option maxRecDepth 100000 in
theorem q153_59 : iv_f1 (iv_p 153) 59 = some (.inl (iv_oA 0 1)) := rfl
set_option maxRecDepth 100000 in
theorem q153_60 : iv_f1 (iv_p 153) 60 = some (.inl (iv_oGF 11 9)) := rfl
set_option maxRecDepth 100000 in
theorem q153_63 : iv_f1 (iv_p 153) 63 = some (.inr (.inr (6, 43, 0, 4))) := rfl
set_option maxRecDepth 100000 in
theorem q153_66 : iv_f1 (iv_p 153) 66 = some (.inl (iv_oK (.int (Int32.ofNat 1)) 1)) := rfl
set_option maxRecDepth 100000 in
theorem q153_67 : iv_f1 (iv_p 153) 67 = some (.inr (.inl 2)) := rfl
def g_cs : List zc := match z_ty 21 with
  | some (.inl (_, cs)) => cs
  | _ => []
theorem g_t21 : z_ty 21 = some (.inl (11, g_cs)) := rfl
theorem g_fld {σ : iv_H} (hI : zI z_τ z_ty σ) : ∃ fs : List Value, iv_get σ 0 = some (.inr (11, fs)) ∧ ∀ (j t : Nat), iv_nth g_cs j = some (t + 2, 0, 1000) → ∃ a : Nat, iv_nth fs j = some (.ref a) ∧ a ≤ 1000 ∧ z_τ a = t := by
  obtain ⟨fs, h1, h2, h3⟩ := zI_obj hI (a := 0) (t := 21) rfl g_t21
  refine ⟨fs, h1, fun j t hj => ?_⟩
  have hl : j < fs.length := by rw [h2]; exact iv_nth_lt hj
  obtain ⟨x, hx⟩ := nth_ex hl
  obtain ⟨a, rfl, _, h5, h6⟩ := (show ∃ a : Nat, x = .ref a ∧ (0 : Int) ≤ (a : Int) ∧ (a : Int) ≤ 1000 ∧ z_τ a = t from h3 j _ x hj hx)
  exact ⟨a, hx, by omega, h6⟩
theorem g_arr {σ : iv_H} (hI : zI z_τ z_ty σ) {a T t len k : Nat} {sg : zsg} (ha : z_τ a = T) (hT : z_ty T = some (.inr (t + 3, len, k, sg))) : ∃ f : Nat → Option Nat, iv_get σ a = some (.inl (t + 3, len, .inr (.inr (.inr (.inr f))))) ∧ t ≤ 4 ∧ ∀ i, i < len → ∃ b, f i = some b ∧ z_τ b = k := by
  obtain ⟨e, h1, h2⟩ := hI a _ (by rw [ha]; exact hT)
  obtain ⟨f, h3, rfl, h4⟩ := (show ∃ f : Nat → Option Nat, t ≤ 4 ∧ e = .inl (t + 3, len, .inr (.inr (.inr (.inr f)))) ∧ ∀ i, i < len → ∃ a, f i = some a ∧ z_τ a = k from h2)
  exact ⟨f, h1, h3, h4⟩
theorem g_le {a t : Nat} {T : zt} (h : z_τ a = t) (hT : z_ty t = some T) : a ≤ 1000 := by
  have := (z_typed (a := a) (T := T) (by rw [h]; exact hT)).2
  omega
theorem z_372a : ((List.range 297).all fun k => match iv_nth z_tl k with
  | some t => bif Nat.beq t 72 then Nat.beq k 186 else true
  | none => true) = true := by decide +kernel
theorem z_372 {a : Nat} (h : z_τ a = 72) : a = 372 := by
  have ht : z_ty (z_τ a) = z_ty 72 := by rw [h]
  obtain ⟨T, hT⟩ : ∃ T, z_ty 72 = some T := ⟨_, rfl⟩
  obtain ⟨h1, h2⟩ := z_typed (ht.trans hT)
  have h3 := List.all_eq_true.mp z_372a (a / 2) (List.mem_range.mpr (by omega))
  have hb : Nat.beq (a % 2) 0 = true := by rw [h1]; rfl
  unfold z_τ at h
  rw [hb] at h
  simp only [cond_true] at h
  split at h
  · rename_i t ht2
    rw [ht2, h] at h3
    have h4 : Nat.beq (a / 2) 186 = true := h3
    have h5 := Nat.eq_of_beq_eq_true h4
    omega
  · cases h
theorem c_isk {σ : iv_H} (hI : zI z_τ z_ty σ) : ∃ f : Nat → Int32, iv_get σ 372 = some (.inl (2, 2, .inl f)) ∧ ∀ i, i < 2 → f i = 0 ∨ f i = 1 := by
  obtain ⟨k, sg, hT⟩ : ∃ k sg, z_ty 72 = some (.inr (2, 2, k, sg)) := ⟨_, _, rfl⟩
  obtain ⟨e, h1, h2⟩ := hI 372 _ (show z_ty (z_τ 372) = _ from hT)
  obtain ⟨f, rfl, h3⟩ := (show ∃ f : Nat → Int32, e = .inl (2, 2, .inl f) ∧ ∀ i, i < 2 → (f i = 0 ∨ f i = 1) ∧ zseg sg i (f i).toInt from h2)
  exact ⟨f, h1, fun i hi => (h3 i hi).1⟩
theorem c_isk1 {σ : iv_H} (hI : zI z_τ z_ty σ) {f : Nat → Int32} {q : Nat} (hf : iv_get σ 372 = some (.inl (2, 2, .inl f))) (hz : ∀ i, i < 2 → f i = 0 ∨ f i = 1) : zI z_τ z_ty (iv_put σ 372 (.inl (2, 2, .inl (upd f q (Int32.ofNat 1))))) := zI_put hI hf (fun T hT => by
  have e : z_ty (z_τ 372) = some (.inr (2, 2, 0, [(0, 1, 0, 1)])) := rfl
  rw [e] at hT
  cases hT
  have z : ∀ i, i < 2 → upd f q (Int32.ofNat 1) i = 0 ∨ upd f q (Int32.ofNat 1) i = 1 := fun i hi => by
    rw [upd_at]
    split
    · exact .inr rfl
    · exact hz i hi
  refine ⟨_, rfl, fun i hi => ⟨z i hi, ⟨(0, 1, 0, 1), List.mem_cons_self, Nat.zero_le _, (by show i ≤ 1; omega), ?_⟩⟩⟩
  rcases z i hi with h | h <;> rw [h] <;> exact ⟨by decide, by decide⟩)
theorem mA_get {σ : iv_H} {a t n : Nat} {f : Nat → Int32} (h : iv_get σ a = some (.inl (t, n, .inl f))) : mA σ a = f := by
  unfold mA
  rw [h]
theorem g_zP {t u a b : Nat} (ta : z_τ a = t) (tb : z_τ b = u) (ha : a ≤ 1000) (hb : b ≤ 1000) {σ : iv_H} : zP_ok z_τ (fun _ => 0) (lv_args 0 [.ref a, .ref b]) none σ ([((0, 0, 0, 0), (t + 2, 0, 1000)), ((0, 1, 0, 0), (u + 2, 0, 1000))], []) (fun i => match i with
    | 0 => (a : Int)
    | _ => (b : Int)) := by
  refine ⟨fun s c hs => ?_, fun f hf => (by cases hf), fun i bb c hi => ?_⟩
  · rcases s with _ | _ | s
    · cases hs
      refine ⟨by show (0 : Int) ≤ (a : Int); omega, by show (a : Int) ≤ 1000; omega, fun _ => ⟨by show (0 : Int) ≤ (a : Int); omega, ?_⟩⟩
      show z_τ ((a : Int).toNat) = t
      rw [Int.toNat_natCast]
      exact ta
    · cases hs
      refine ⟨by show (0 : Int) ≤ (b : Int); omega, by show (b : Int) ≤ 1000; omega, fun _ => ⟨by show (0 : Int) ≤ (b : Int); omega, ?_⟩⟩
      show z_τ ((b : Int).toNat) = u
      rw [Int.toNat_natCast]
      exact tb
    · cases hs
  · rcases i with _ | _ | i
    · cases hi
      exact ⟨.ref a, rfl, a, rfl, rfl⟩
    · cases hi
      exact ⟨.ref b, rfl, b, rfl, rfl⟩
    · cases hi
theorem g_zP1 {t a : Nat} (ta : z_τ a = t) (ha : a ≤ 1000) {σ : iv_H} : zP_ok z_τ (fun _ => 0) (lv_args 0 [.ref a]) none σ ([((0, 0, 0, 0), (t + 2, 0, 1000))], []) (fun _ => (a : Int)) := by
  refine ⟨fun s c hs => ?_, fun f hf => (by cases hf), fun i bb c hi => ?_⟩
  · rcases s with _ | s
    · cases hs
      refine ⟨by show (0 : Int) ≤ (a : Int); omega, by show (a : Int) ≤ 1000; omega, fun _ => ⟨by show (0 : Int) ≤ (a : Int); omega, ?_⟩⟩
      show z_τ ((a : Int).toNat) = t
      rw [Int.toNat_natCast]
      exact ta
    · cases hs
  · rcases i with _ | i
    · cases hi
      exact ⟨.ref a, rfl, a, rfl, rfl⟩
    · cases hi
section WKF
variable {L : Nat} {xs : Nat → Int32} {Post : Option Value → iv_H → Prop} {d M pc : Nat} {lv : iv_L} {st : List Value} {σ : iv_H}
theorem w_ql {a n i b t : Nat} {f : Nat → Option Nat} (hf : iv_f1 (iv_p M) pc = some (.inl iv_oQl)) (hg : iv_get σ a = some (.inl (t + 3, n, .inr (.inr (.inr (.inr f)))))) (ht : t ≤ 4) (hi : i < n) (hn : n ≤ 2000) (hb : f i = some b) (k : zGo L xs Post [] d M (pc + 1) lv (.ref b :: st) σ) : zGo L xs Post [] d M pc lv (.int (Int32.ofNat i) :: .ref a :: st) σ := zGo_s hf (by
  have e1 : Nat.ble 3 (t + 3) = true := Nat.ble_eq.mpr (by omega)
  have e2 : Nat.ble (t + 3) 7 = true := Nat.ble_eq.mpr (by omega)
  simp only [iv_oQl, hg, (ofNat_in hi hn).1, (ofNat_in hi hn).2.1, e1, e2, Bool.and_self, cond_true, hb]
  first | done | rfl) k
theorem w_cp {c : zct} {t a b cc : Nat} (hf : iv_f1 (iv_p M) pc = some (.inr (.inr (6, c.1, 1, cc)))) (hC : zCT z_τ z_ty z_J c) (he : c.2.2.2.1.2.1 = ([((0, 0, 0, 0), (t + 2, 0, 1000)), ((0, 1, 0, 0), (t + 2, 0, 1000))], [])) (hx : c.2.2.2.2.2 = [([], [])]) (hcs : Nat.ble (iv_cs [Value.ref a, Value.ref b]) (iv_m c.1).2.2.1 = true) (hd : c.2.1 ≤ d) (ta : z_τ a = t) (tb : z_τ b = t) (ha : a ≤ 1000) (hb : b ≤ 1000) (hty : ∃ cs, z_ty t = some (.inl (cc, cs))) (hI : zI z_τ z_ty σ) (hJ : z_J σ) (k : ∀ σ1, zI z_τ z_ty σ1 → z_J σ1 → zFr z_τ c.2.2.1 σ σ1 → zGo L xs Post [] (d + 1) M (pc + 3) lv [] σ1) : zGo L xs Post [] (d + 1) M pc lv [.ref b, .ref a] σ := by
  obtain ⟨cs, hty⟩ := hty
  obtain ⟨fs, g1, _⟩ := zI_obj hI ta hty
  obtain ⟨r, σ1, h1, h2, h3, h4, X, hX, _, _, h6⟩ := hC L xs d [.ref a, .ref b] σ _ hd hI hJ (by rw [he]; exact g_zP ta tb ha hb)
  rw [hx] at hX
  obtain rfl := List.mem_singleton.mp hX
  obtain rfl := h6 rfl
  refine w_call hf (as := [.ref a, .ref b]) (rest := []) (by
    simp only [iv_args, iv_pop, g1, cond_true, show Nat.beq 6 4 = false from rfl, cond_false, show Nat.beq 6 6 = true from rfl, Nat.beq_refl]
    first | done | rfl) hcs ⟨none, σ1, h1, k σ1 h2 h3 h4⟩
theorem w_cp1 {c : zct} {t a cc : Nat} (hf : iv_f1 (iv_p M) pc = some (.inr (.inr (6, c.1, 0, cc)))) (hC : zCT z_τ z_ty z_J c) (he : c.2.2.2.1.2.1 = ([((0, 0, 0, 0), (t + 2, 0, 1000))], [])) (hx : c.2.2.2.2.2 = [([], [])]) (hcs : Nat.ble (iv_cs [Value.ref a]) (iv_m c.1).2.2.1 = true) (hd : c.2.1 ≤ d) (ta : z_τ a = t) (ha : a ≤ 1000) (hty : ∃ cs, z_ty t = some (.inl (cc, cs))) (hI : zI z_τ z_ty σ) (hJ : z_J σ) (k : ∀ σ1, zI z_τ z_ty σ1 → z_J σ1 → zFr z_τ c.2.2.1 σ σ1 → zGo L xs Post [] (d + 1) M (pc + 3) lv [] σ1) : zGo L xs Post [] (d + 1) M pc lv [.ref a] σ := by
  obtain ⟨cs, hty⟩ := hty
  obtain ⟨fs, g1, _⟩ := zI_obj hI ta hty
  obtain ⟨r, σ1, h1, h2, h3, h4, X, hX, _, _, h6⟩ := hC L xs d [.ref a] σ _ hd hI hJ (by rw [he]; exact g_zP1 ta ha)
  rw [hx] at hX
  obtain rfl := List.mem_singleton.mp hX
  obtain rfl := h6 rfl
  refine w_call hf (as := [.ref a]) (rest := []) (by
    simp only [iv_args, iv_pop, g1, cond_true, show Nat.beq 6 4 = false from rfl, cond_false, show Nat.beq 6 6 = true from rfl, Nat.beq_refl]
    first | done | rfl) hcs ⟨none, σ1, h1, k σ1 h2 h3 h4⟩
end WKF
def imS : zm := zc_96.2.2.1
def rsS : zm := zc_98.2.2.1
theorem kf_lt {q : Nat} (hq : q ≤ 1) : (Int32.ofNat q).toInt = (q : Int) := Int32.toInt_ofNat_of_lt (by omega)
def imK (v : Int32) (F F' : Nat → Int32) (r : Option Value) : Prop := (¬ (0 ≤ v.toInt ∧ v.toInt ≤ 1) ∧ r = some (.int (Int32.ofNat 0)) ∧ F' = F) ∨ ∃ q : Nat, q ≤ 1 ∧ v = Int32.ofNat q ∧ r = some (.int (Int32.ofNat 1)) ∧ F' = upd F q (Int32.ofNat 1)
set_option maxHeartbeats 1000000 in
theorem c_img_H (L : Nat) (xs : Nat → Int32) (d : Nat) (clv : iv_L) (σ : iv_H) (v : Int32) (hd : 5 ≤ d) (hI : zI z_τ z_ty σ) (hJ : z_J σ) (l0 : iv_f1 clv 0 = some (.ref 0)) (l1 : iv_f1 clv 1 = some (.int v)) : zGo L xs (fun r σ' => imK v (mA σ 372) (mA σ' 372) r ∧ zI z_τ z_ty σ' ∧ z_J σ' ∧ zFr z_τ imS σ σ') [] (d + 1) 152 0 clv [] σ := by
  have z0 : (0 : Int32).toInt = 0 := by decide
  have z2 : (Int32.ofNat 2).toInt = 2 := by decide
  by_cases hv : 0 ≤ v.toInt ∧ v.toInt ≤ 1
  · obtain ⟨q, hq, rfl⟩ := v01 (v := v) (by rw [show (Int32.ofNat 0).toInt = 0 by decide]; exact hv.1) (by rw [show (Int32.ofNat 1).toInt = 1 by decide]; exact hv.2)
    have e0 := kf_lt hq
    obtain ⟨F, gF, zF⟩ := c_isk hI
    refine w_I q152_0 l1 ?_
    refine w_ifF q152_1 rfl (c_f (fun h => by
      have h : (Int32.ofNat q).toInt < (0 : Int32).toInt := zch_32.mp h
      omega)) ?_
    refine w_I q152_4 l1 ?_
    refine w_K q152_5 ?_
    refine w_icT q152_6 rfl (zch_32.mpr (show (Int32.ofNat q).toInt < (Int32.ofNat 2).toInt by omega)) ?_
    obtain ⟨fs0, go0, gf0⟩ := g_fld hI
    obtain ⟨a0, fk0, _, ta0⟩ := gf0 11 69 rfl
    obtain ⟨b0, fo0, hb0, tb0⟩ := gf0 3 13 rfl
    obtain ⟨A0, gA0, lA0, eA0⟩ := g_arr hI ta0 (k := 13) rfl
    obtain ⟨k0, ek0, tk0⟩ := eA0 q (by omega)
    refine w_A q152_11 l0 ?_
    refine w_gf q152_12 go0 fk0 ?_
    refine w_I q152_15 l1 ?_
    refine w_ql q152_16 gA0 lA0 (by omega) (by decide) ek0 ?_
    refine w_A q152_17 l0 ?_
    refine w_gf q152_18 go0 fo0 ?_
    refine w_cp (c := zc_94) (t := 13) q152_21 zt_94 rfl rfl rfl hd tk0 tb0 (g_le tk0 rfl) hb0 ⟨_, rfl⟩ hI hJ ?_
    intro σ1 hI1 hJ1 hF1
    obtain ⟨fs1, go1, gf1⟩ := g_fld hI1
    obtain ⟨a1, fk1, _, ta1⟩ := gf1 12 70 rfl
    obtain ⟨b1, fo1, hb1, tb1⟩ := gf1 5 17 rfl
    obtain ⟨A1, gA1, lA1, eA1⟩ := g_arr hI1 ta1 (k := 17) rfl
    obtain ⟨k1, ek1, tk1⟩ := eA1 q (by omega)
    refine w_A q152_24 l0 ?_
    refine w_gf q152_25 go1 fk1 ?_
    refine w_I q152_28 l1 ?_
    refine w_ql q152_29 gA1 lA1 (by omega) (by decide) ek1 ?_
    refine w_A q152_30 l0 ?_
    refine w_gf q152_31 go1 fo1 ?_
    refine w_cp (c := zc_12) (t := 17) q152_34 zt_12 rfl rfl rfl hd tk1 tb1 (g_le tk1 rfl) hb1 ⟨_, rfl⟩ hI1 hJ1 ?_
    intro σ2 hI2 hJ2 hF2
    obtain ⟨fs2, go2, gf2⟩ := g_fld hI2
    obtain ⟨a2, fk2, _, ta2⟩ := gf2 13 71 rfl
    obtain ⟨b2, fo2, hb2, tb2⟩ := gf2 7 16 rfl
    obtain ⟨A2, gA2, lA2, eA2⟩ := g_arr hI2 ta2 (k := 16) rfl
    obtain ⟨k2, ek2, tk2⟩ := eA2 q (by omega)
    refine w_A q152_37 l0 ?_
    refine w_gf q152_38 go2 fk2 ?_
    refine w_I q152_41 l1 ?_
    refine w_ql q152_42 gA2 lA2 (by omega) (by decide) ek2 ?_
    refine w_A q152_43 l0 ?_
    refine w_gf q152_44 go2 fo2 ?_
    refine w_cp (c := zc_95) (t := 16) q152_47 zt_95 rfl rfl rfl hd tk2 tb2 (g_le tk2 rfl) hb2 ⟨_, rfl⟩ hI2 hJ2 ?_
    intro σ3 hI3 hJ3 hF3
    have gF1 := (hF1.2 372).2.1 _ gF rfl
    have gF2 := (hF2.2 372).2.1 _ gF1 rfl
    have gF3 := (hF3.2 372).2.1 _ gF2 rfl
    obtain ⟨fs3, go3, gf3⟩ := g_fld hI3
    obtain ⟨a3, f3, _, t3⟩ := gf3 14 72 rfl
    obtain rfl := z_372 t3
    refine w_A q152_50 l0 ?_
    refine w_gf q152_51 go3 f3 ?_
    refine w_I q152_54 l1 ?_
    refine w_K q152_55 ?_
    refine w_zst q152_56 gF3 (by omega) (by decide) rfl ?_
    refine w_K q152_57 ?_
    have hF4 : zFr z_τ imS σ3 (iv_put σ3 372 (.inl (2, 2, .inl (upd F q (Int32.ofNat 1))))) := zFr_a gF3 rfl
    have hF : zFr z_τ imS σ (iv_put σ3 372 (.inl (2, 2, .inl (upd F q (Int32.ofNat 1))))) := zFr_tr (zsubm_ok (a := zc_94.2.2.1) rfl) hF1 (zFr_tr (zsubm_ok (a := zc_12.2.2.1) rfl) hF2 (zFr_tr (zsubm_ok (a := zc_95.2.2.1) rfl) hF3 hF4))
    refine w_ret2 q152_58 rfl ⟨.inr ⟨q, hq, rfl, rfl, ?_⟩, c_isk1 hI3 gF3 zF, z_Js imS _ _ rfl hF hJ, hF⟩
    rw [mA_get gF, mA_get (iv_gp_s gF3)]
  · refine w_I q152_0 l1 ?_
    have fin : zGo L xs (fun r σ' => imK v (mA σ 372) (mA σ' 372) r ∧ zI z_τ z_ty σ' ∧ z_J σ' ∧ zFr z_τ imS σ σ') [] (d + 1) 152 9 clv [] σ := by
      refine w_K q152_9 ?_
      exact w_ret2 q152_10 rfl ⟨.inl ⟨hv, rfl, rfl⟩, hI, hJ, zFr_rf⟩
    by_cases h0 : v.toInt < 0
    · exact w_ifT q152_1 rfl (zch_32.mpr (show v.toInt < (0 : Int32).toInt by omega)) fin
    · refine w_ifF q152_1 rfl (c_f (fun h => by
        have h : v.toInt < (0 : Int32).toInt := zch_32.mp h
        omega)) ?_
      refine w_I q152_4 l1 ?_
      refine w_K q152_5 ?_
      exact w_icF q152_6 rfl (c_f (fun h => by
        have h : v.toInt < (Int32.ofNat 2).toInt := zch_32.mp h
        omega)) fin
def rsK (v : Int32) (F : Nat → Int32) (r : Option Value) : Prop := ((¬ (0 ≤ v.toInt ∧ v.toInt ≤ 1) ∨ ∃ q : Nat, q ≤ 1 ∧ v = Int32.ofNat q ∧ F q = 0) ∧ r = some (.int (Int32.ofNat 0))) ∨ ∃ q : Nat, q ≤ 1 ∧ v = Int32.ofNat q ∧ F q = 1 ∧ r = some (.int (Int32.ofNat 1))
set_option maxHeartbeats 1000000 in
theorem c_rst_H (L : Nat) (xs : Nat → Int32) (d : Nat) (clv : iv_L) (σ : iv_H) (v : Int32) (hd : 5 ≤ d) (hI : zI z_τ z_ty σ) (hJ : z_J σ) (l0 : iv_f1 clv 0 = some (.ref 0)) (l1 : iv_f1 clv 1 = some (.int v)) : zGo L xs (fun r σ' => rsK v (mA σ 372) r ∧ zI z_τ z_ty σ' ∧ z_J σ' ∧ zFr z_τ rsS σ σ') [] (d + 1) 153 0 clv [] σ := by
  have z0 : (0 : Int32).toInt = 0 := by decide
  have z2 : (Int32.ofNat 2).toInt = 2 := by decide
  have fin : rsK v (mA σ 372) (some (.int (Int32.ofNat 0))) → zGo L xs (fun r σ' => rsK v (mA σ 372) r ∧ zI z_τ z_ty σ' ∧ z_J σ' ∧ zFr z_τ rsS σ σ') [] (d + 1) 153 18 clv [] σ := fun hz => by
    refine w_K q153_18 ?_
    exact w_ret2 q153_19 rfl ⟨hz, hI, hJ, zFr_rf⟩
  by_cases hv : 0 ≤ v.toInt ∧ v.toInt ≤ 1
  · obtain ⟨q, hq, rfl⟩ := v01 (v := v) (by rw [show (Int32.ofNat 0).toInt = 0 by decide]; exact hv.1) (by rw [show (Int32.ofNat 1).toInt = 1 by decide]; exact hv.2)
    have e0 := kf_lt hq
    obtain ⟨F, gF, zF⟩ := c_isk hI
    have eF := mA_get gF
    obtain ⟨fs9, go9, gf9⟩ := g_fld hI
    obtain ⟨a9, f9, _, t9⟩ := gf9 14 72 rfl
    obtain rfl := z_372 t9
    refine w_I q153_0 l1 ?_
    refine w_ifF q153_1 rfl (c_f (fun h => by
      have h : (Int32.ofNat q).toInt < (0 : Int32).toInt := zch_32.mp h
      omega)) ?_
    refine w_I q153_4 l1 ?_
    refine w_K q153_5 ?_
    refine w_icF q153_6 rfl (c_f (fun h => by
      have h : (Int32.ofNat 2).toInt ≤ (Int32.ofNat q).toInt := zch_32.mp h
      omega)) ?_
    refine w_A q153_9 l0 ?_
    refine w_gf q153_10 go9 f9 ?_
    refine w_I q153_13 l1 ?_
    refine w_zl q153_14 gF (by omega) (by decide) ?_
    rcases zF q (by omega) with hz | hz
    · refine w_ifF q153_15 rfl (by rw [hz]; decide) (fin ?_)
      exact .inl ⟨.inr ⟨q, hq, rfl, by rw [eF]; exact hz⟩, rfl⟩
    refine w_ifT q153_15 rfl (by rw [hz]; decide) ?_
    obtain ⟨fs0, go0, gf0⟩ := g_fld hI
    obtain ⟨a0, fk0, _, ta0⟩ := gf0 11 69 rfl
    obtain ⟨b0, fo0, hb0, tb0⟩ := gf0 3 13 rfl
    obtain ⟨A0, gA0, lA0, eA0⟩ := g_arr hI ta0 (k := 13) rfl
    obtain ⟨k0, ek0, tk0⟩ := eA0 q (by omega)
    refine w_A q153_20 l0 ?_
    refine w_gf q153_21 go0 fo0 ?_
    refine w_A q153_24 l0 ?_
    refine w_gf q153_25 go0 fk0 ?_
    refine w_I q153_28 l1 ?_
    refine w_ql q153_29 gA0 lA0 (by omega) (by decide) ek0 ?_
    refine w_cp (c := zc_94) (t := 13) q153_30 zt_94 rfl rfl rfl hd tb0 tk0 hb0 (g_le tk0 rfl) ⟨_, rfl⟩ hI hJ ?_
    intro σ1 hI1 hJ1 hF1
    obtain ⟨fs1, go1, gf1⟩ := g_fld hI1
    obtain ⟨a1, fk1, _, ta1⟩ := gf1 12 70 rfl
    obtain ⟨b1, fo1, hb1, tb1⟩ := gf1 5 17 rfl
    obtain ⟨A1, gA1, lA1, eA1⟩ := g_arr hI1 ta1 (k := 17) rfl
    obtain ⟨k1, ek1, tk1⟩ := eA1 q (by omega)
    refine w_A q153_33 l0 ?_
    refine w_gf q153_34 go1 fo1 ?_
    refine w_A q153_37 l0 ?_
    refine w_gf q153_38 go1 fk1 ?_
    refine w_I q153_41 l1 ?_
    refine w_ql q153_42 gA1 lA1 (by omega) (by decide) ek1 ?_
    refine w_cp (c := zc_12) (t := 17) q153_43 zt_12 rfl rfl rfl hd tb1 tk1 hb1 (g_le tk1 rfl) ⟨_, rfl⟩ hI1 hJ1 ?_
    intro σ2 hI2 hJ2 hF2
    obtain ⟨fs2, go2, gf2⟩ := g_fld hI2
    obtain ⟨a2, fk2, _, ta2⟩ := gf2 13 71 rfl
    obtain ⟨b2, fo2, hb2, tb2⟩ := gf2 7 16 rfl
    obtain ⟨A2, gA2, lA2, eA2⟩ := g_arr hI2 ta2 (k := 16) rfl
    obtain ⟨k2, ek2, tk2⟩ := eA2 q (by omega)
    refine w_A q153_46 l0 ?_
    refine w_gf q153_47 go2 fo2 ?_
    refine w_A q153_50 l0 ?_
    refine w_gf q153_51 go2 fk2 ?_
    refine w_I q153_54 l1 ?_
    refine w_ql q153_55 gA2 lA2 (by omega) (by decide) ek2 ?_
    refine w_cp (c := zc_95) (t := 16) q153_56 zt_95 rfl rfl rfl hd tb2 tk2 hb2 (g_le tk2 rfl) ⟨_, rfl⟩ hI2 hJ2 ?_
    intro σ3 hI3 hJ3 hF3
    obtain ⟨fs3, go3, gf3⟩ := g_fld hI3
    obtain ⟨a3, f3, b3, t3⟩ := gf3 9 14 rfl
    refine w_A q153_59 l0 ?_
    refine w_gf q153_60 go3 f3 ?_
    refine w_cp1 (c := zc_97) (t := 14) q153_63 zt_97 rfl rfl rfl hd t3 b3 ⟨_, rfl⟩ hI3 hJ3 ?_
    intro σ4 hI4 hJ4 hF4
    refine w_K q153_66 ?_
    have hF : zFr z_τ rsS σ σ4 := zFr_tr (zsubm_ok (a := zc_94.2.2.1) rfl) hF1 (zFr_tr (zsubm_ok (a := zc_12.2.2.1) rfl) hF2 (zFr_tr (zsubm_ok (a := zc_95.2.2.1) rfl) hF3 (zFr_sub (zsubm_ok (a := zc_97.2.2.1) rfl) hF4)))
    exact w_ret2 q153_67 rfl ⟨.inr ⟨q, hq, rfl, by rw [eF]; exact hz, rfl⟩, hI4, hJ4, hF⟩
  · refine w_I q153_0 l1 ?_
    have hz : rsK v (mA σ 372) (some (.int (Int32.ofNat 0))) := .inl ⟨.inl hv, rfl⟩
    by_cases h0 : v.toInt < 0
    · exact w_ifT q153_1 rfl (zch_32.mpr (show v.toInt < (0 : Int32).toInt by omega)) (fin hz)
    · refine w_ifF q153_1 rfl (c_f (fun h => by
        have h : v.toInt < (0 : Int32).toInt := zch_32.mp h
        omega)) ?_
      refine w_I q153_4 l1 ?_
      refine w_K q153_5 ?_
      exact w_icT q153_6 rfl (zch_32.mpr (show (Int32.ofNat 2).toInt ≤ v.toInt by omega)) (fin hz)
/-! image and restore on both sides -/
def bin2 (f : Nat → Int32) : Prop := ∀ i, i < 2 → f i = 0 ∨ f i = 1
theorem pk_inj {f g : Nat → Int32} (hf : bin2 f) (hg : bin2 g) (h : pk f = pk g) : f 0 = g 0 ∧ f 1 = g 1 := by
  unfold pk at h
  rcases hf 0 (by decide) with a | a <;> rcases hf 1 (by decide) with b | b <;> rcases hg 0 (by decide) with c | c <;> rcases hg 1 (by decide) with e | e <;> rw [a, b, c, e] at h <;> rw [a, b, c, e] <;> first | exact ⟨rfl, rfl⟩ | exact absurd h (by decide)
def imgP (a x v x' : Int32) : Prop := ∃ f f' : Nat → Int32, bin2 f ∧ pk f = x ∧ pk f' = x' ∧ imK a f f' (some (.int v))
def rstP (a x v : Int32) : Prop := ∃ f : Nat → Int32, bin2 f ∧ pk f = x ∧ rsK a f (some (.int v))
theorem kf_q {q q2 : Nat} (h1 : q ≤ 1) (h2 : q2 ≤ 1) (h : Int32.ofNat q = Int32.ofNat q2) : q = q2 := by
  have e := congrArg Int32.toInt h
  rw [kf_lt h1, kf_lt h2] at e
  omega
theorem kf_in {q : Nat} (h1 : q ≤ 1) : 0 ≤ (Int32.ofNat q).toInt ∧ (Int32.ofNat q).toInt ≤ 1 := by
  rw [kf_lt h1]
  omega
theorem img_same {a x v w x' y' : Int32} (h1 : imgP a x v x') (h2 : imgP a x w y') : v = w ∧ x' = y' := by
  obtain ⟨f, f', hf, e1, e2, h1⟩ := h1
  obtain ⟨g, g', hg, e3, e4, h2⟩ := h2
  obtain ⟨p0, p1⟩ := pk_inj hf hg (e1.trans e3.symm)
  rcases h1 with ⟨n1, r1, s1⟩ | ⟨q, hq, hv, r1, s1⟩ <;> rcases h2 with ⟨n2, r2, s2⟩ | ⟨q2, hq2, hv2, r2, s2⟩
  · cases r1
    cases r2
    subst s1
    subst s2
    exact ⟨rfl, by rw [← e2, ← e4, e1, e3]⟩
  · rw [hv2] at n1
    exact absurd (kf_in hq2) n1
  · rw [hv] at n2
    exact absurd (kf_in hq) n2
  · obtain rfl := kf_q hq hq2 (hv.symm.trans hv2)
    cases r1
    cases r2
    refine ⟨rfl, ?_⟩
    rw [← e2, ← e4, s1, s2]
    unfold pk
    have hq3 : q = 0 ∨ q = 1 := by omega
    rcases hq3 with rfl | rfl
    · show (Int32.ofNat 1) + 2 * f 1 = (Int32.ofNat 1) + 2 * g 1
      rw [p1]
    · show f 0 + 2 * (Int32.ofNat 1) = g 0 + 2 * (Int32.ofNat 1)
      rw [p0]
theorem rst_same {a x v w : Int32} (h1 : rstP a x v) (h2 : rstP a x w) : v = w := by
  obtain ⟨f, hf, e1, h1⟩ := h1
  obtain ⟨g, hg, e3, h2⟩ := h2
  obtain ⟨p0, p1⟩ := pk_inj hf hg (e1.trans e3.symm)
  have pq : ∀ q : Nat, q ≤ 1 → f q = g q := fun q hq => by
    have hq3 : q = 0 ∨ q = 1 := by omega
    rcases hq3 with rfl | rfl
    · exact p0
    · exact p1
  have no : ∀ {q q2 : Nat}, q ≤ 1 → q2 ≤ 1 → a = Int32.ofNat q → a = Int32.ofNat q2 → f q = 0 → g q2 = 1 → False := fun {q q2} h1 h2 h3 h4 h5 h6 => by
    obtain rfl := kf_q h1 h2 (h3.symm.trans h4)
    rw [pq q h1, h6] at h5
    exact absurd h5 (by decide)
  have no2 : ∀ {q q2 : Nat}, q ≤ 1 → q2 ≤ 1 → a = Int32.ofNat q → a = Int32.ofNat q2 → f q = 1 → g q2 = 0 → False := fun {q q2} h1 h2 h3 h4 h5 h6 => by
    obtain rfl := kf_q h1 h2 (h3.symm.trans h4)
    rw [pq q h1, h6] at h5
    exact absurd h5 (by decide)
  rcases h1 with ⟨n1, r1⟩ | ⟨q, hq, hv, z1, r1⟩ <;> rcases h2 with ⟨n2, r2⟩ | ⟨q2, hq2, hv2, z2, r2⟩
  · cases r1
    cases r2
    rfl
  · rcases n1 with n1 | ⟨q, hq, hv, z1⟩
    · rw [hv2] at n1
      exact absurd (kf_in hq2) n1
    · exact (no hq hq2 hv hv2 z1 z2).elim
  · rcases n2 with n2 | ⟨q2, hq2, hv2, z2⟩
    · rw [hv] at n2
      exact absurd (kf_in hq) n2
    · exact (no2 hq hq2 hv hv2 z1 z2).elim
  · cases r1
    cases r2
    rfl
theorem fB_pk {x y : Int32} {σ : iv_H} (hI : Inv x y σ) : pk (mA σ 372) = x ∧ pk (mA σ 568) = y := by
  have h1 : some (Value.int (pk (mA σ 372))) = some (.int x) := hI.2.2.1.1
  have h2 : some (Value.int (pk (mA σ 568))) = some (.int y) := hI.2.2.1.2
  simp only [Option.some.injEq, Value.int.injEq] at h1 h2
  exact ⟨h1, h2⟩
theorem bin_c {σ : iv_H} (hI : zI z_τ z_ty σ) : bin2 (mA σ 372) := by
  obtain ⟨f, h1, h2⟩ := c_isk hI
  rw [mA_get h1]
  exact h2
theorem bin_m {σ : iv_H} (hI : zI m_τ m_ty σ) : bin2 (mA σ 568) := by
  obtain ⟨f, h1, h2⟩ := m_isk hI
  rw [mA_get h1]
  exact h2
theorem s_image_c {L : Nat} {xs : Nat → Int32} {d : Nat} {x y a1 : Int32} {σ : iv_H} (hd : 6 ≤ d) (hI : Inv x y σ) : ∃ (v x' : Int32) (σ1 : iv_H), iv_Rn L xs d 152 0 (lv_args 0 [.ref 0, .int a1]) [] σ (some (.int v)) σ1 ∧ Inv x' y σ1 ∧ imgP a1 x v x' := by
  obtain ⟨d', rfl⟩ : ∃ e, d = e + 1 := ⟨d - 1, by omega⟩
  obtain ⟨r, σ', g1, g2, g3, g4, g5⟩ := c_img_H L xs d' (lv_args 0 [.ref 0, .int a1]) σ a1 (by omega) hI.1.1 hI.1.2 rfl rfl
  obtain ⟨v, rfl⟩ : ∃ v : Int32, r = some (.int v) := by
    rcases g2 with ⟨_, h, _⟩ | ⟨_, _, _, h, _⟩ <;> exact ⟨_, h⟩
  exact ⟨v, pk (mA σ' 372), σ', g1, inv_c hI g3 g4 g5 rfl rfl, mA σ 372, mA σ' 372, bin_c hI.1.1, (fB_pk hI).1, rfl, g2⟩
theorem s_image_m {L : Nat} {xs : Nat → Int32} {d : Nat} {x y a1 : Int32} {σ : iv_H} (hd : 1 ≤ d) (hI : Inv x y σ) : ∃ (v y' : Int32) (σ1 : iv_H), iv_Rn L xs d 280 0 (lv_args 0 [.ref 548, .int a1]) [] σ (some (.int v)) σ1 ∧ Inv x y' σ1 ∧ imgP a1 y v y' := by
  obtain ⟨d', rfl⟩ : ∃ e, d = e + 1 := ⟨d - 1, by omega⟩
  obtain ⟨r, σ', g1, g2, g3, g4, g5⟩ := m_img_H L xs d' (lv_args 0 [.ref 548, .int a1]) σ a1 hI.2.1.1 hI.2.1.2.1 rfl rfl
  obtain ⟨v, rfl⟩ : ∃ v : Int32, r = some (.int v) := by
    rcases g2 with ⟨_, h, _⟩ | ⟨_, _, _, h, _⟩ <;> exact ⟨_, h⟩
  exact ⟨v, pk (mA σ' 568), σ', g1, inv_m hI g3 ⟨g4, trivial⟩ g5 rfl rfl, mA σ 568, mA σ' 568, bin_m hI.2.1.1, (fB_pk hI).2, rfl, g2⟩
theorem s_rest_c {L : Nat} {xs : Nat → Int32} {d : Nat} {x y a1 : Int32} {σ : iv_H} (hd : 6 ≤ d) (hI : Inv x y σ) : ∃ (v : Int32) (σ1 : iv_H), iv_Rn L xs d 153 0 (lv_args 0 [.ref 0, .int a1]) [] σ (some (.int v)) σ1 ∧ Inv x y σ1 ∧ rstP a1 x v := by
  obtain ⟨d', rfl⟩ : ∃ e, d = e + 1 := ⟨d - 1, by omega⟩
  obtain ⟨r, σ', g1, g2, g3, g4, g5⟩ := c_rst_H L xs d' (lv_args 0 [.ref 0, .int a1]) σ a1 (by omega) hI.1.1 hI.1.2 rfl rfl
  obtain ⟨v, rfl⟩ : ∃ v : Int32, r = some (.int v) := by
    rcases g2 with ⟨_, h⟩ | ⟨_, _, _, _, h⟩ <;> exact ⟨_, h⟩
  exact ⟨v, σ', g1, inv_c hI g3 g4 g5 rfl (by rw [fB_fr hI.1.1 g5 rfl]; exact hI.2.2.1.1), mA σ 372, bin_c hI.1.1, (fB_pk hI).1, g2⟩
theorem s_rest_m {L : Nat} {xs : Nat → Int32} {d : Nat} {x y a1 : Int32} {σ : iv_H} (hd : 1 ≤ d) (hI : Inv x y σ) : ∃ (v : Int32) (σ1 : iv_H), iv_Rn L xs d 281 0 (lv_args 0 [.ref 548, .int a1]) [] σ (some (.int v)) σ1 ∧ Inv x y σ1 ∧ rstP a1 y v := by
  obtain ⟨d', rfl⟩ : ∃ e, d = e + 1 := ⟨d - 1, by omega⟩
  obtain ⟨r, σ', g1, g2, g3, g4, g5⟩ := m_rst_H L xs d' (lv_args 0 [.ref 548, .int a1]) σ a1 hI.2.1.1 hI.2.1.2.1 rfl rfl
  obtain ⟨v, rfl⟩ : ∃ v : Int32, r = some (.int v) := by
    rcases g2 with ⟨_, h⟩ | ⟨_, _, _, _, h⟩ <;> exact ⟨_, h⟩
  exact ⟨v, σ', g1, inv_m hI g3 ⟨g4, trivial⟩ g5 rfl (by rw [fT_fr hI.2.1.1 g5 rfl]; exact hI.2.2.1.2), mA σ 568, bin_m hI.2.1.1, (fB_pk hI).2, g2⟩
