/-! ===== the law: from its head ===== -/
theorem o_TsI {L : Nat} {xs : Nat → Int32} {pc : Nat} {lv : iv_L} {r0 : List Value} {σ : iv_H} {dflt lo hi off : Int} {offs : Array Int} {x : Int32} {t : Nat} (h : (decide (x.toInt < lo) || decide (hi < x.toInt)) = false) (hn : iv_nth offs.toList (x.toInt - lo).toNat = some off) (ht : iv_tgt pc off = some t) : iv_oTs dflt lo hi offs L xs pc lv (.int x :: r0) σ = some (t, lv, r0, σ) := by
  simp only [iv_oTs, h, cond_false, hn, iv_go, ht]
/-- a run up to a place -/
def iv_Pn (L : Nat) (xs : Nat → Int32) (stop d M pc : Nat) (lv : iv_L) (st : List Value) (σ : iv_H) (lv' : iv_L) (st' : List Value) (σ' : iv_H) : Prop := ∃ n, iv_part L xs stop 0 n d M pc lv st σ = some (lv', st', σ')
theorem Pe {L : Nat} {xs : Nat → Int32} {stop d M : Nat} {lv : iv_L} {st : List Value} {σ : iv_H} : iv_Pn L xs stop d M stop lv st σ lv st σ := by
  refine ⟨1, ?_⟩
  rw [iv_part_s, Nat.beq_refl]
  rfl
theorem Ps {L : Nat} {xs : Nat → Int32} {stop d M pc pc' : Nat} {lv lv' lv2 : iv_L} {st st' st2 : List Value} {σ σ1 σ2 : iv_H} {f : iv_F} (hpc : Nat.beq pc stop = false) (hf : iv_f1 (iv_p M) pc = some (.inl f)) (hs : f L xs pc lv st σ = some (pc', lv', st', σ1)) (k : iv_Pn L xs stop d M pc' lv' st' σ1 lv2 st2 σ2) : iv_Pn L xs stop d M pc lv st σ lv2 st2 σ2 := by
  obtain ⟨n, hn⟩ := k
  refine ⟨n + 1, ?_⟩
  rw [iv_part_s, hpc, hf]
  simp only [cond_false, hs]
  rw [iv_fp_eq]
  exact hn
def lwG (xs : Nat → Int32) (pc : Nat) (st : List Value) : Prop := ∃ σ', iv_Rn 6 xs 21 iv_n pc sgl st sg2 (some (.int 1)) σ' ∧ σ'.1 = 297 ∧ σ'.2.2 ≤ 100000
def lwI (L : Nat) : List Value := [.int (Int32.ofNat L), .int 0]
theorem lw_short {L : Nat} (xs : Nat → Int32) (hL : L < 6) : iv_Rn L xs 21 iv_n 27 sgl (lwI L) sg2 (some (.int 1)) sg2 := by
  have hc : iv_c2 .gt 0 (Int32.ofNat L - 6) = true := by
    rcases (show L = 0 ∨ L = 1 ∨ L = 2 ∨ L = 3 ∨ L = 4 ∨ L = 5 by omega) with rfl | rfl | rfl | rfl | rfl | rfl <;> decide
  refine Rs fq_286_27 rfl ?_
  refine Rs fq_286_29 rfl ?_
  refine Rs fq_286_30 (o_IcT rfl hc) ?_
  refine Rs fq_286_1329 rfl ?_
  exact Rr fq_286_1330 rfl
theorem lw_head {xs : Nat → Int32} {t : Nat} (hs : iv_oTs 1283 0 36 #[164, 237, 262, 275, 288, 356, 393, 418, 467, 504, 529, 566, 591, 616, 629, 678, 715, 740, 753, 778, 791, 804, 829, 854, 922, 959, 984, 1009, 1034, 1071, 1120, 1145, 1170, 1183, 1208, 1233, 1258] 6 xs 40 sgl [.int (xs 0 &&& 63)] sg2 = some (t, sgl, [], sg2)) (h : lwG xs t []) : lwG xs 27 (lwI 6) := by
  obtain ⟨σ', h, h2⟩ := h
  refine ⟨σ', ?_, h2⟩
  refine Rs fq_286_27 rfl ?_
  refine Rs fq_286_29 rfl ?_
  refine Rs fq_286_30 (o_IcF rfl (by decide)) ?_
  refine Rs fq_286_33 rfl ?_
  refine Rs fq_286_34 rfl ?_
  refine Rs fq_286_36 (o_Sc (by decide)) ?_
  refine Rs fq_286_37 rfl ?_
  refine Rs fq_286_39 rfl ?_
  refine Rs fq_286_40 hs ?_
  exact h
theorem lw_headP {xs : Nat → Int32} {t : Nat} (ht : t = 328 ∨ t = 894) (hs : iv_oTs 1283 0 36 #[164, 237, 262, 275, 288, 356, 393, 418, 467, 504, 529, 566, 591, 616, 629, 678, 715, 740, 753, 778, 791, 804, 829, 854, 922, 959, 984, 1009, 1034, 1071, 1120, 1145, 1170, 1183, 1208, 1233, 1258] 6 xs 40 sgl [.int (xs 0 &&& 63)] sg2 = some (t, sgl, [], sg2)) : iv_Pn 6 xs t 21 iv_n 27 sgl (lwI 6) sg2 sgl [] sg2 := by
  have hb : ∀ j : Nat, j < 100 → Nat.beq j t = false := by
    intro j hj
    cases hq : Nat.beq j t with
    | false => rfl
    | true => have := Nat.eq_of_beq_eq_true hq; omega
  refine Ps (hb 27 (by decide)) fq_286_27 rfl ?_
  refine Ps (hb 29 (by decide)) fq_286_29 rfl ?_
  refine Ps (hb 30 (by decide)) fq_286_30 (o_IcF rfl (by decide)) ?_
  refine Ps (hb 33 (by decide)) fq_286_33 rfl ?_
  refine Ps (hb 34 (by decide)) fq_286_34 rfl ?_
  refine Ps (hb 36 (by decide)) fq_286_36 (o_Sc (by decide)) ?_
  refine Ps (hb 37 (by decide)) fq_286_37 rfl ?_
  refine Ps (hb 39 (by decide)) fq_286_39 rfl ?_
  refine Ps (hb 40 (by decide)) fq_286_40 hs ?_
  exact Pe
theorem lw_switch (xs : Nat → Int32) : lwG xs 27 (lwI 6) ∨ iv_Pn 6 xs 328 21 iv_n 27 sgl (lwI 6) sg2 sgl [] sg2 ∨ iv_Pn 6 xs 894 21 iv_n 27 sgl (lwI 6) sg2 sgl [] sg2 := by
  by_cases hr : (xs 0 &&& 63).toInt < 0 ∨ 36 < (xs 0 &&& 63).toInt
  · exact .inl (lw_head (t := 1323) (o_TsO hr rfl) ⟨sg2, lwEnd, sgP_eq.2.1, sgP_eq.2.2⟩)
  · have e := Int.toNat_of_nonneg (show 0 ≤ (xs 0 &&& 63).toInt by omega)
    generalize hk : (xs 0 &&& 63).toInt.toNat = k at e
    have hk2 : k ≤ 36 := by omega
    have go : ∀ (off : Int) (t : Nat), iv_nth (#[164, 237, 262, 275, 288, 356, 393, 418, 467, 504, 529, 566, 591, 616, 629, 678, 715, 740, 753, 778, 791, 804, 829, 854, 922, 959, 984, 1009, 1034, 1071, 1120, 1145, 1170, 1183, 1208, 1233, 1258] : Array Int).toList k = some off → iv_tgt 40 off = some t → iv_oTs 1283 0 36 #[164, 237, 262, 275, 288, 356, 393, 418, 467, 504, 529, 566, 591, 616, 629, 678, 715, 740, 753, 778, 791, 804, 829, 854, 922, 959, 984, 1009, 1034, 1071, 1120, 1145, 1170, 1183, 1208, 1233, 1258] 6 xs 40 sgl [.int (xs 0 &&& 63)] sg2 = some (t, sgl, [], sg2) := fun off t h1 h2 => by
      refine o_TsI ?_ ?_ h2
      · rw [← e]
        rw [Bool.or_eq_false_iff, decide_eq_false_iff_not, decide_eq_false_iff_not]
        omega
      · rw [← e, Int.sub_zero, Int.toNat_natCast]
        exact h1
    clear hk e
    rcases k with _ | _ | _ | _ | _ | _ | _ | _ | _ | _ | _ | _ | _ | _ | _ | _ | _ | _ | _ | _ | _ | _ | _ | _ | _ | _ | _ | _ | _ | _ | _ | _ | _ | _ | _ | _ | _ | k
    · exact .inl (lw_head (go 164 204 rfl rfl) (sD_204 xs))
    · exact .inl (lw_head (go 237 277 rfl rfl) (sD_277 xs))
    · exact .inl (lw_head (go 262 302 rfl rfl) (sD_302 xs))
    · exact .inl (lw_head (go 275 315 rfl rfl) (sD_315 xs))
    · exact .inr (.inl (lw_headP (.inl rfl) (go 288 328 rfl rfl)))
    · exact .inl (lw_head (go 356 396 rfl rfl) (sD_396 xs))
    · exact .inl (lw_head (go 393 433 rfl rfl) (sD_433 xs))
    · exact .inl (lw_head (go 418 458 rfl rfl) (sD_458 xs))
    · exact .inl (lw_head (go 467 507 rfl rfl) (sD_507 xs))
    · exact .inl (lw_head (go 504 544 rfl rfl) (sD_544 xs))
    · exact .inl (lw_head (go 529 569 rfl rfl) (sD_569 xs))
    · exact .inl (lw_head (go 566 606 rfl rfl) (sD_606 xs))
    · exact .inl (lw_head (go 591 631 rfl rfl) (sD_631 xs))
    · exact .inl (lw_head (go 616 656 rfl rfl) (sD_656 xs))
    · exact .inl (lw_head (go 629 669 rfl rfl) (sD_669 xs))
    · exact .inl (lw_head (go 678 718 rfl rfl) (sD_718 xs))
    · exact .inl (lw_head (go 715 755 rfl rfl) (sD_755 xs))
    · exact .inl (lw_head (go 740 780 rfl rfl) (sD_780 xs))
    · exact .inl (lw_head (go 753 793 rfl rfl) (sD_793 xs))
    · exact .inl (lw_head (go 778 818 rfl rfl) (sD_818 xs))
    · exact .inl (lw_head (go 791 831 rfl rfl) (sD_831 xs))
    · exact .inl (lw_head (go 804 844 rfl rfl) (sD_844 xs))
    · exact .inl (lw_head (go 829 869 rfl rfl) (sD_869 xs))
    · exact .inr (.inr (lw_headP (.inr rfl) (go 854 894 rfl rfl)))
    · exact .inl (lw_head (go 922 962 rfl rfl) (sD_962 xs))
    · exact .inl (lw_head (go 959 999 rfl rfl) (sD_999 xs))
    · exact .inl (lw_head (go 984 1024 rfl rfl) (sD_1024 xs))
    · exact .inl (lw_head (go 1009 1049 rfl rfl) (sD_1049 xs))
    · exact .inl (lw_head (go 1034 1074 rfl rfl) (sD_1074 xs))
    · exact .inl (lw_head (go 1071 1111 rfl rfl) (sD_1111 xs))
    · exact .inl (lw_head (go 1120 1160 rfl rfl) (sD_1160 xs))
    · exact .inl (lw_head (go 1145 1185 rfl rfl) (sD_1185 xs))
    · exact .inl (lw_head (go 1170 1210 rfl rfl) (sD_1210 xs))
    · exact .inl (lw_head (go 1183 1223 rfl rfl) (sD_1223 xs))
    · exact .inl (lw_head (go 1208 1248 rfl rfl) (sD_1248 xs))
    · exact .inl (lw_head (go 1233 1273 rfl rfl) (sD_1273 xs))
    · exact .inl (lw_head (go 1258 1298 rfl rfl) (sD_1298 xs))
    · omega
section LWZ
variable {p : Program} {l : Launch} {e : Env} {s : State} {m : MethodId} {below : List Frame} {meth : Method} {c : Code} {ad cy : Nat → Nat} {D : va_G} {L b : Nat} {xs : Nat → Int32}
abbrev lwC (ad cy : Nat → Nat) (D : va_G) (L : Nat) (xs : Nat → Int32) (p : Program) (s : State) (m : MethodId) (b : Nat) (meth : Method) (c : Code) : Prop := iv_C0 ad cy D s.heap.size L xs p s m #[Value.ref b] meth c (iv_c iv_n) (iv_m iv_n).2.2.1 (iv_m iv_n).2.1 (iv_y iv_n).name
abbrev lwN (ad cy : Nat → Nat) (D : va_G) (p : Program) (l : Launch) (e : Env) (s : State) (m : MethodId) (b : Nat) (below : List Frame) (meth : Method) (c : Code) (pc : Nat) (lv : iv_L) (st : List Value) (σ : iv_H) : Prop := iv_Nx ad cy D s.heap.size 0 0 (iv_m iv_n).2.2.1 p l e room_1 s m #[Value.ref b] below meth c (lw_Z below #[Value.ref b] s) pc lv st σ
theorem lw_fin (C : lwC ad cy D L xs p s m b meth c) (hr : meth.sig.returnType = ret) (hlocks : meth.locks = false) {pc : Nat} {lv : iv_L} {st : List Value} {σ : iv_H} {σ' : iv_H} (hR : iv_Rn L xs 21 iv_n pc lv st σ (some (.int 1)) σ') (h1 : σ'.1 = 297) (h2 : σ'.2.2 ≤ 100000) : lwN ad cy D p l e s m b below meth c pc lv st σ := by
  obtain ⟨n, hn⟩ := hR
  have hB := (iv_sound l ad cy D s.heap.size L xs n 21 iv_n pc lv st σ _ σ' (Nat.le_refl _) hn).2 (p := p) (e := e) (R := room_1) (s := s) (m := m) (args := #[Value.ref b]) (below := below) (meth := meth) (c := c) (Q := lw_Z below #[Value.ref b] s) (c0 := 0) (n0 := 0) C rfl (Nat.zero_le _) (Nat.zero_le _) (by decide) (by decide) (by show σ'.1 - 0 ≤ 600002; omega) (by show σ'.2.2 - 0 ≤ 7302232; omega)
  refine hB ?_
  intro pc2 k len st2 lv2 i hd hln hop hrt H locs ls hvv hP2 hS2
  have hx := C.1
  have hb : c.code = code := C.2.1
  refine va_forget (fun q hq => hS2.2.2 q hq) ?_
  refine W.widen (k := 600002) (n := 7302232) (by omega) (by omega) ?_
  rcases iv_ret_of hop with ⟨rfl, h2, rfl⟩ | ⟨rfl, h2, rfl⟩ | ⟨rfl, h2, rfl⟩ | ⟨rfl, h2, rfl⟩ | ⟨rfl, ⟨C9, h2⟩, rfl⟩
  · rcases st2 with _ | ⟨v, st2⟩ <;> cases hrt
  · cases h2
  · obtain rfl := iv_lenE (n := 0) hln rfl
    rcases st2 with _ | ⟨v, _ | ⟨w, st2⟩⟩
    · cases hrt
    · cases v with
      | int v =>
        have hrt : (bif decide (v = 0) || decide (v = 1) then some (some (Value.int v), σ') else none) = some (some (.int 1), σ') := hrt
        cases hb9 : (decide (v = 0) || decide (v = 1)) <;> rw [hb9] at hrt
        · cases hrt
        · have e1 : some (Value.int v) = some (.int 1) := (Prod.mk.inj (Option.some.inj hrt)).1
          cases e1
          exact lw_ret hx hb hr hlocks hd
      | _ => cases hrt
    · cases v <;> cases hrt
  · cases h2
  · cases h2
theorem lw_upto (C : lwC ad cy D L xs p s m b meth c) {stop F n pc : Nat} {lv lv' : iv_L} {st st' : List Value} {σ σ' : iv_H} (h : iv_part L xs stop F n 21 iv_n pc lv st σ = some (lv', st', σ')) (h1 : σ'.1 = 297) (h2 : σ'.2.2 ≤ 100000) (k : lwN ad cy D p l e s m b below meth c stop lv' st' σ') : lwN ad cy D p l e s m b below meth c pc lv st σ :=
  (iv_part_ok stop F n 21 iv_n pc lv st σ lv' st' σ' (Nat.le_refl _) h).2 C rfl (Nat.zero_le _) (Nat.zero_le _) (by decide) (by decide) (by show σ'.1 - 0 ≤ 600002; omega) (by show σ'.2.2 - 0 ≤ 7302232; omega) k
end LWZ
