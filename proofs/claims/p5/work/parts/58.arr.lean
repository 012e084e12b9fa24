/-! ===== operations on arrays ===== -/
abbrev zsg : Type := List (Nat × Nat × Int × Int)
/-- does the segment meet the places a .. b? -/
def zsx (a b : Int) (s : Nat × Nat × Int × Int) : Bool := zle a s.2.1 && zle s.1 b
def zhu (a b : Int) : zsg → Option (Int × Int)
  | [] => none
  | s :: r => bif zsx a b s then (match zhu a b r with
    | none => some s.2.2
    | some q => some ((bif zle s.2.2.1 q.1 then s.2.2.1 else q.1), (bif zle q.2 s.2.2.2 then s.2.2.2 else q.2))) else zhu a b r
theorem zle_f {a b : Int} (h : zle a b = false) : b < a := by
  rcases zlg b a with g | g
  · exact g
  · rw [zle_iff.mpr g] at h; cases h
theorem zhu_mono {a b : Int} : ∀ {sg : zsg} {s : Nat × Nat × Int × Int}, s ∈ sg → zsx a b s = true → ∃ l h, zhu a b sg = some (l, h) ∧ l ≤ s.2.2.1 ∧ s.2.2.2 ≤ h
  | [], s, h, _ => by cases h
  | p :: r, s, h, hx => by
    unfold zhu
    rcases List.mem_cons.mp h with rfl | h
    · rw [hx]
      simp only [cond_true]
      split
      · exact ⟨_, _, rfl, Int.le_refl _, Int.le_refl _⟩
      · rename_i q hq
        refine ⟨_, _, rfl, ?_, ?_⟩
        · cases hz : zle s.2.2.1 q.1
          · have := zle_f hz; show q.1 ≤ _; omega
          · exact Int.le_refl _
        · cases hz : zle q.2 s.2.2.2
          · have := zle_f hz; show _ ≤ q.2; omega
          · exact Int.le_refl _
    · obtain ⟨l, hh, e1, e2, e3⟩ := zhu_mono h hx
      cases hp : zsx a b p
      · exact ⟨l, hh, e1, e2, e3⟩
      · simp only [cond_true]
        rw [e1]
        refine ⟨_, _, rfl, ?_, ?_⟩
        · cases hz : zle p.2.2.1 l
          · exact e2
          · have := zle_iff.mp hz; show p.2.2.1 ≤ _; omega
        · cases hz : zle hh p.2.2.2
          · exact e3
          · have := zle_iff.mp hz; show _ ≤ p.2.2.2; omega
theorem zsx_of {a b : Int} {s : Nat × Nat × Int × Int} {i : Nat} (h1 : s.1 ≤ i) (h2 : i ≤ s.2.1) (ha : a ≤ (i : Int)) (hb : (i : Int) ≤ b) : zsx a b s = true := by
  unfold zsx
  rw [zle_iff.mpr (show a ≤ (s.2.1 : Int) by omega), zle_iff.mpr (show (s.1 : Int) ≤ b by omega)]
  rfl
theorem zhu_ok {a b : Int} {sg : zsg} {i : Nat} {v : Int} (h : zseg sg i v) (ha : a ≤ (i : Int)) (hb : (i : Int) ≤ b) : ∃ l h, zhu a b sg = some (l, h) ∧ l ≤ v ∧ v ≤ h := by
  obtain ⟨s, hs, h1, h2, h3, h4⟩ := h
  obtain ⟨l, hh, e1, e2, e3⟩ := zhu_mono hs (zsx_of h1 h2 ha hb)
  exact ⟨l, hh, e1, by omega, by omega⟩
/-- may a value between lo and hi stand at each of the places a .. b? -/
def zsf (a b lo hi : Int) : zsg → Bool
  | [] => true
  | s :: r => bif zsx a b s then (bif zle s.2.2.1 lo && zle hi s.2.2.2 then zsf a b lo hi r else false) else zsf a b lo hi r
theorem zsf_in {a b lo hi : Int} : ∀ {sg : zsg} {s : Nat × Nat × Int × Int}, zsf a b lo hi sg = true → s ∈ sg → zsx a b s = true → s.2.2.1 ≤ lo ∧ hi ≤ s.2.2.2
  | [], s, _, h, _ => by cases h
  | p :: r, s, hf, h, hx => by
    unfold zsf at hf
    rcases List.mem_cons.mp h with rfl | h
    · rw [hx] at hf
      simp only [cond_true] at hf
      cases hz : zle s.2.2.1 lo && zle hi s.2.2.2
      · rw [hz] at hf; cases hf
      · rw [Bool.and_eq_true] at hz
        exact ⟨zle_iff.mp hz.1, zle_iff.mp hz.2⟩
    · cases hp : zsx a b p
      · rw [hp] at hf; exact zsf_in hf h hx
      · rw [hp] at hf
        simp only [cond_true] at hf
        cases hz : zle p.2.2.1 lo && zle hi p.2.2.2
        · rw [hz] at hf; cases hf
        · rw [hz] at hf; exact zsf_in hf h hx
theorem zsf_ok {a b lo hi : Int} {sg : zsg} {i : Nat} {v0 v : Int} (hf : zsf a b lo hi sg = true) (h : zseg sg i v0) (ha : a ≤ (i : Int)) (hb : (i : Int) ≤ b) (h1 : lo ≤ v) (h2 : v ≤ hi) : zseg sg i v := by
  obtain ⟨s, hs, g1, g2, _, _⟩ := h
  obtain ⟨k1, k2⟩ := zsf_in hf hs (zsx_of g1 g2 ha hb)
  exact ⟨s, hs, g1, g2, by omega, by omega⟩
/-- the same of what was read d places before -/
def zpq (a b d : Int) (D : Nat × Nat × Int × Int) : zsg → Bool
  | [] => true
  | s :: r => bif ((zle (s.1 + d) D.2.1 && zle D.1 (s.2.1 + d)) && (zle (s.1 + d) b && zle a (s.2.1 + d))) && (bif zle D.2.2.1 s.2.2.1 && zle s.2.2.2 D.2.2.2 then false else true) then false else zpq a b d D r
def zpp (a b d : Int) (src : zsg) : zsg → Bool
  | [] => true
  | D :: r => bif zsx a b D then (bif zpq a b d D src then zpp a b d src r else false) else zpp a b d src r
theorem zpq_in {a b d : Int} {D : Nat × Nat × Int × Int} : ∀ {sg : zsg} {s : Nat × Nat × Int × Int}, zpq a b d D sg = true → s ∈ sg → (s.1 : Int) + d ≤ D.2.1 → (D.1 : Int) ≤ s.2.1 + d → (s.1 : Int) + d ≤ b → a ≤ s.2.1 + d → D.2.2.1 ≤ s.2.2.1 ∧ s.2.2.2 ≤ D.2.2.2
  | [], s, _, h, _, _, _, _ => by cases h
  | p :: r, s, hf, h, h1, h2, h3, h4 => by
    unfold zpq at hf
    rcases List.mem_cons.mp h with rfl | h
    · rw [zle_iff.mpr h1, zle_iff.mpr h2, zle_iff.mpr h3, zle_iff.mpr h4] at hf
      simp only [Bool.and_self, Bool.true_and] at hf
      cases hz : zle D.2.2.1 s.2.2.1 && zle s.2.2.2 D.2.2.2
      · rw [hz] at hf; cases hf
      · rw [Bool.and_eq_true] at hz
        exact ⟨zle_iff.mp hz.1, zle_iff.mp hz.2⟩
    · cases hz : ((zle (p.1 + d) D.2.1 && zle D.1 (p.2.1 + d)) && (zle (p.1 + d) b && zle a (p.2.1 + d))) && (bif zle D.2.2.1 p.2.2.1 && zle p.2.2.2 D.2.2.2 then false else true)
      · rw [hz] at hf; exact zpq_in hf h h1 h2 h3 h4
      · rw [hz] at hf; cases hf
theorem zpp_in {a b d : Int} {src : zsg} : ∀ {sg : zsg} {D : Nat × Nat × Int × Int}, zpp a b d src sg = true → D ∈ sg → zsx a b D = true → zpq a b d D src = true
  | [], D, _, h, _ => by cases h
  | p :: r, D, hf, h, hx => by
    unfold zpp at hf
    rcases List.mem_cons.mp h with rfl | h
    · rw [hx] at hf
      simp only [cond_true] at hf
      cases hz : zpq a b d D src
      · rw [hz] at hf; cases hf
      · rfl
    · cases hp : zsx a b p
      · rw [hp] at hf; exact zpp_in hf h hx
      · rw [hp] at hf
        simp only [cond_true] at hf
        cases hz : zpq a b d p src
        · rw [hz] at hf; cases hf
        · rw [hz] at hf; exact zpp_in hf h hx
theorem zpp_ok {a b d : Int} {src sg : zsg} {i i2 : Nat} {v0 v : Int} (hf : zpp a b d src sg = true) (h : zseg sg i v0) (h2 : zseg src i2 v) (hd : (i : Int) = (i2 : Int) + d) (ha : a ≤ (i : Int)) (hb : (i : Int) ≤ b) : zseg sg i v := by
  obtain ⟨D, hD, g1, g2, _, _⟩ := h
  obtain ⟨s, hs, k1, k2, k3, k4⟩ := h2
  obtain ⟨m1, m2⟩ := zpq_in (zpp_in hf hD (zsx_of g1 g2 ha hb)) hs (by omega) (by omega) (by omega) (by omega)
  exact ⟨D, hD, g1, g2, by omega, by omega⟩
theorem zin_of {y : Int32} {n : Nat} (h1 : 0 ≤ y.toInt) (h2 : y.toInt < (n : Int)) : iv_in y n = true ∧ y.toNatClampNeg < n ∧ (y.toNatClampNeg : Int) = y.toInt := by
  have e : y.toNatClampNeg = y.toInt.toNat := rfl
  have h3 : ¬ y < 0 := fun h => by
    have := Int32.lt_iff_toInt_lt.mp h
    have e0 : (0 : Int32).toInt = 0 := rfl
    omega
  refine ⟨?_, by rw [e]; omega, by rw [e]; omega⟩
  unfold iv_in
  rw [decide_eq_false h3]
  show Nat.blt y.toNatClampNeg n = true
  rw [Nat.blt_eq, e]
  omega
/-- a place that is known -/
def zafn (o i : zv) : List (zv × zv × zv) → Option zv
  | [] => none
  | q :: r => bif zv_eq q.2.1 i && zv_eq q.1 o then some q.2.2 else zafn o i r
theorem zafn_in {o i : zv} : ∀ {C : List (zv × zv × zv)} {w : zv}, zafn o i C = some w → (o, i, w) ∈ C
  | [], w, h => by cases h
  | q :: r, w, h => by
    unfold zafn at h
    cases hb : zv_eq q.2.1 i && zv_eq q.1 o
    · rw [hb] at h; exact List.mem_cons_of_mem _ (zafn_in h)
    · rw [hb] at h
      rw [Bool.and_eq_true] at hb
      cases h
      rw [← zv_eq_ok hb.1, ← zv_eq_ok hb.2]
      exact List.mem_cons_self
/-- is the place within the array? -/
def zix (B : zB) (i : zv) (len : Nat) : Bool := Nat.beq i.1 0 && (zle 0 (zvl B i) && zle (zvh B i + 1) len)
section ZAY
variable {τ : Nat → Nat} {ty : Nat → Option zt} {ms : zm}
theorem zix_ok {ρ : Nat → Int} {B : zB} (h : zB_ok τ ty ρ B) {i : zv} {x : Value} {len : Nat} (hi : zok ρ B.1.length i x) (hz : zix B i len = true) : ∃ y : Int32, x = .int y ∧ y.toInt = zv_ev ρ i ∧ iv_in y len = true ∧ y.toNatClampNeg < len ∧ (y.toNatClampNeg : Int) = zv_ev ρ i ∧ zvl B i ≤ (y.toNatClampNeg : Int) ∧ (y.toNatClampNeg : Int) ≤ zvh B i := by
  unfold zix at hz
  rw [Bool.and_eq_true, Bool.and_eq_true] at hz
  obtain ⟨y, rfl, ey⟩ := zdn0 hi.2 (Nat.eq_of_beq_eq_true hz.1)
  have g1 := zle_iff.mp hz.2.1
  have g2 := zle_iff.mp hz.2.2
  have g3 := zvl_ok h hi.1
  have g4 := zvh_ok h hi.1
  obtain ⟨k1, k2, k3⟩ := zin_of (y := y) (n := len) (by omega) (by omega)
  exact ⟨y, rfl, ey, k1, k2, by omega, by omega, by omega⟩
theorem iv_get_odd {σ : iv_H} {a : Nat} {e : iv_E} (h : iv_get σ a = some e) : Nat.beq a 1 = false ∧ Nat.beq a 101 = false := by
  obtain ⟨k, rfl, _, _⟩ := iv_get_ok h
  constructor
  · cases hb : Nat.beq (2 * k) 1 with
    | false => rfl
    | true => have := Nat.eq_of_beq_eq_true hb; omega
  · cases hb : Nat.beq (2 * k) 101 with
    | false => rfl
    | true => have := Nat.eq_of_beq_eq_true hb; omega
/-- what is put on the stack when the place is not known -/
def znl (A : zA) (r : List zv) (ar ix : zv) (t : Nat) (c : zc) : zA := (fun n => ((A.1.1 ++ [c], A.1.2.1, (t + 4, n, ix, ix) :: A.1.2.2), A.2.1, (0, 0, [(n, 1)]) :: r, A.2.2.2.1, (ar, ix, (0, 0, [(n, 1)])) :: A.2.2.2.2)) A.1.1.length
def zoIl (ty : Nat → Option zt) : Nat → zA → zO := fun pc A => match A.2.2.1 with
  | ix :: ar :: r => (match zty A.1.1 ar with
    | some t => bif Nat.beq t 2 then (bif zix A.1 ix 28 then some [(pc + 1, zpu A r (zbt 0 0 27))] else none) else (match ty t with
      | some (.inr (0, len, _, sg)) => bif zix A.1 ix len then (match zafn ar ix A.2.2.2.2 with
        | some w => bif Nat.beq w.1 0 then some [(pc + 1, (A.1, A.2.1, w :: r, A.2.2.2))] else none
        | none => (match zhu (zvl A.1 ix) (zvh A.1 ix) sg with
          | some q => some [(pc + 1, znl A r ar ix t (0, q.1, q.2))]
          | none => none)) else none
      | _ => none)
    | none => none)
  | _ => none
theorem zsw_ok : ∀ j, j < 28 → 0 ≤ (iv_sw j).toInt ∧ (iv_sw j).toInt ≤ 27 := by decide +kernel
theorem zI_ia {σ : iv_H} (hI : zI τ ty σ) {a t len k : Nat} {sg : zsg} (ha : τ a = t) (ht : ty t = some (.inr (0, len, k, sg))) : ∃ f : Nat → Int32, iv_get σ a = some (.inl (0, len, .inl f)) ∧ ∀ i, i < len → zseg sg i (f i).toInt := by
  obtain ⟨e, h1, h2⟩ := hI a _ (by rw [ha]; exact ht)
  obtain ⟨f, rfl, h3⟩ := h2
  exact ⟨f, h1, h3⟩
theorem zoIl_ok (hS : ∀ a, τ a = 2 → a = 101) : zS τ ty ms iv_oIl (zoIl ty) := by
  intro ρ A clv cst σ L xs pc outs hg hA hI
  unfold zoIl at hg
  split at hg
  · rename_i ix ar r hst
    have h1 := hA.2.2.1
    rw [hst] at h1
    obtain ⟨x, c1, rfl, a1, h2⟩ := zst_c h1
    obtain ⟨x0, c2, rfl, b1, h3⟩ := zst_c h2
    split at hg
    · rename_i t ht
      obtain ⟨a, rfl, ea, hta⟩ := zty_ok hA.1.1 b1 ht
      cases hb : Nat.beq t 2
      · rw [hb] at hg
        simp only [cond_false] at hg
        split at hg
        · rename_i len k sg hty
          cases hz : zix A.1 ix len
          · rw [hz] at hg; cases hg
          · rw [hz] at hg
            simp only [cond_true] at hg
            obtain ⟨y, rfl, ey, k1, k2, k3, k4, k5⟩ := zix_ok hA.1 a1 hz
            obtain ⟨f, g1, g2⟩ := zI_ia hI hta hty
            obtain ⟨o1, o2⟩ := iv_get_odd g1
            have hf := o_Il (L := L) (xs := xs) (pc := pc) (lv := clv) (r0 := c2) o1 o2 g1 k1
            split at hg
            · rename_i w hw
              cases hk : Nat.beq w.1 0
              · rw [hk] at hg; cases hg
              · rw [hk] at hg
                cases hg
                obtain ⟨m1, m2, a2, i2, tag, len2, f2, m3, m4, m5, m6⟩ := hA.2.2.2.2 _ (zafn_in hw)
                have e1 : a2 = a := by have : (a2 : Int) = zv_ev ρ ar := m3; omega
                have e2 : i2 = y.toNatClampNeg := by have : (i2 : Int) = zv_ev ρ ix := m4; omega
                subst e1
                subst e2
                rw [g1] at m5
                have e3 : f = f2 := by
                  have := Sum.inl.inj (Option.some.inj m5)
                  have := congrArg Prod.snd (congrArg Prod.snd this)
                  exact Sum.inl.inj this
                subst e3
                exact zQ_one hf (zA_st hA (st := w :: r) (cst' := _ :: c2) ⟨m6, h3⟩) hI zag_rf (Nat.le_refl _)
            · split at hg
              · rename_i q hq
                cases hg
                obtain ⟨l, hh, e1, e2, e3⟩ := zhu_ok (g2 _ k2) k4 k5
                rw [hq] at e1
                cases e1
                have hd : ∀ d ∈ [((t + 4, A.1.1.length, ix, ix) : zd)], zd_ok ty (zup ρ A.1.1.length (f y.toNatClampNeg).toInt) (A.1.1.length + 1) d := by
                  intro d hd
                  rcases List.mem_singleton.mp hd with rfl
                  refine ⟨Nat.lt_succ_self _, zl_wf_le (Nat.le_succ _) a1.1, zl_wf_le (Nat.le_succ _) a1.1, ?_⟩
                  show ∃ (len k : Nat) (sg : List (Nat × Nat × Int × Int)) (i : Nat), ty t = some (.inr (0, len, k, sg)) ∧ (i : Int) = zv_ev (zup ρ A.1.1.length (f y.toNatClampNeg).toInt) ix ∧ zseg sg i (zup ρ A.1.1.length (f y.toNatClampNeg).toInt A.1.1.length)
                  refine ⟨len, k, sg, y.toNatClampNeg, hty, ?_, ?_⟩
                  · rw [zv_ag zup_ag a1.1]; exact k3
                  · rw [zup_s]; exact g2 _ k2
                have h5 := zfr_ok hA (c := (0, l, hh)) (x := (f y.toNatClampNeg).toInt) (ds := [(t + 4, A.1.1.length, ix, ix)]) ⟨e2, e3, fun h9 => by have : 2 ≤ 0 := h9; omega⟩ hd
                have hl : (A.1.1 ++ [((0, l, hh) : zc)]).length = A.1.1.length + 1 := by simp
                have hle : A.1.1.length ≤ (A.1.1 ++ [((0, l, hh) : zc)]).length := by omega
                have hnew : zok (zup ρ A.1.1.length (f y.toNatClampNeg).toInt) (A.1.1 ++ [((0, l, hh) : zc)]).length (0, 0, [(A.1.1.length, 1)]) (.int (f y.toNatClampNeg)) := by
                  refine ⟨by rw [hl]; exact zl_wf_c.mpr ⟨Nat.lt_succ_self _, rfl⟩, zdn_of (k := 0) ⟨_, rfl, rfl⟩ rfl ?_⟩
                  rw [zev1, zup_s]
                refine zQ_one (ρ' := zup ρ A.1.1.length (f y.toNatClampNeg).toInt) hf ⟨h5.1, h5.2.1, ⟨hnew, zst_ag zup_ag hle h3⟩, h5.2.2.2.1, ?_⟩ hI zup_ag hle
                intro q hq
                rcases List.mem_cons.mp hq with rfl | hq
                · exact ⟨zl_wf_le hle b1.1, zl_wf_le hle a1.1, a, y.toNatClampNeg, 0, len, f, by rw [zv_ag zup_ag b1.1]; exact ea, by rw [zv_ag zup_ag a1.1]; exact k3, g1, hnew⟩
                · exact h5.2.2.2.2 q hq
              · cases hg
        · cases hg
      · rw [hb] at hg
        simp only [cond_true] at hg
        have et := Nat.eq_of_beq_eq_true hb
        subst et
        have ha := hS a hta
        subst ha
        cases hz : zix A.1 ix 28
        · rw [hz] at hg; cases hg
        · rw [hz] at hg
          cases hg
          obtain ⟨y, rfl, ey, k1, k2, k3, k4, k5⟩ := zix_ok hA.1 a1 hz
          obtain ⟨s1, s2⟩ := zsw_ok y.toNatClampNeg k2
          obtain ⟨ρ', e1, e2, e3⟩ := zpu_ok hA h3 (zbt_ok (k := 0) s1 s2) (by decide) (x := .int (iv_sw y.toNatClampNeg)) ⟨_, rfl, rfl⟩
          refine zQ_one ?_ e1 hI e2 e3
          show (bif iv_in y 28 then _ else none) = _
          rw [k1]
          rfl
    · cases hg
  · cases hg
end ZAY
