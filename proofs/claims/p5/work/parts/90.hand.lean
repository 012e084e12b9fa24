/-! ===== the reference by hand: what copies do ===== -/
/-- segments of the array type t -/
def m_sg (t : Nat) : List (Nat × Nat × Int × Int) := match m_ty t with
  | some (.inr (_, _, _, sg)) => sg
  | _ => []
/-- may n places of src from off on go to dst from lo on -/
def zcpk (src dst : List (Nat × Nat × Int × Int)) (off lo n : Int) : Bool := src.all fun s => dst.all fun D => (fun a b => bif zle a b then zle D.2.2.1 s.2.2.1 && zle s.2.2.2 D.2.2.2 else true) (max (max (D.1 : Int) lo) (s.1 + lo - off)) (min (min (D.2.1 : Int) (lo + n - 1)) (s.2.1 + lo - off))
theorem zcpk_ok {src dst : List (Nat × Nat × Int × Int)} {s f : Nat → Int32} {off lo n lS lD : Nat} (h : zcpk src dst off lo n = true) (hs : ∀ i, i < lS → zseg src i (s i).toInt) (hf : ∀ i, i < lD → zseg dst i (f i).toInt) (h1 : off + n ≤ lS) : ∀ i, i < lD → zseg dst i (va_cpy s f off lo n i).toInt := by
  intro i hi
  rw [zcpy_at]
  by_cases hc : lo ≤ i ∧ i < lo + n
  · rw [if_pos hc]
    obtain ⟨S, a1, a2, a3, a4, a5⟩ := hs (off + (i - lo)) (by omega)
    obtain ⟨D, b1, b2, b3, b4, b5⟩ := hf i hi
    have h2 := List.all_eq_true.mp (List.all_eq_true.mp h S a1) D b1
    dsimp only at h2
    have h3 : zle (max (max (D.1 : Int) lo) (S.1 + lo - off)) (min (min (D.2.1 : Int) (lo + n - 1)) (S.2.1 + lo - off)) = true := by
      apply zle_iff.mpr
      omega
    rw [h3] at h2
    simp only [cond_true, Bool.and_eq_true] at h2
    have h4 := zle_iff.mp h2.1
    have h5 := zle_iff.mp h2.2
    exact ⟨D, b1, b2, b3, by omega, by omega⟩
  · rw [if_neg hc]
    exact hf i hi
theorem m_iaN {σ : iv_H} (hI : zI m_τ m_ty σ) : ∃ f, iv_get σ 552 = some (.inl (0, 374, .inl f)) ∧ ∀ i, i < 374 → zseg (m_sg 74) i (f i).toInt := zI_ia hI (a := 552) (t := 74) rfl rfl
theorem m_iaR {σ : iv_H} (hI : zI m_τ m_ty σ) : ∃ f, iv_get σ 554 = some (.inl (0, 38, .inl f)) ∧ ∀ i, i < 38 → zseg (m_sg 75) i (f i).toInt := zI_ia hI (a := 554) (t := 75) rfl rfl
theorem m_iaK {σ : iv_H} (hI : zI m_τ m_ty σ) : ∃ f, iv_get σ 556 = some (.inl (0, 748, .inl f)) ∧ ∀ i, i < 748 → zseg (m_sg 76) i (f i).toInt := zI_ia hI (a := 556) (t := 76) rfl rfl
theorem m_iaS {σ : iv_H} (hI : zI m_τ m_ty σ) : ∃ f, iv_get σ 558 = some (.inl (0, 752, .inl f)) ∧ ∀ i, i < 752 → zseg (m_sg 77) i (f i).toInt := zI_ia hI (a := 558) (t := 77) rfl rfl
theorem m_iaA {σ : iv_H} (hI : zI m_τ m_ty σ) : ∃ f, iv_get σ 560 = some (.inl (0, 94, .inl f)) ∧ ∀ i, i < 94 → zseg (m_sg 78) i (f i).toInt := zI_ia hI (a := 560) (t := 78) rfl rfl
theorem m_iaD {σ : iv_H} (hI : zI m_τ m_ty σ) : ∃ f, iv_get σ 590 = some (.inl (0, 240, .inl f)) ∧ ∀ i, i < 240 → zseg (m_sg 93) i (f i).toInt := zI_ia hI (a := 590) (t := 93) rfl rfl
theorem m_ze {t len k : Nat} {sg : List (Nat × Nat × Int × Int)} {A : Nat} {g : Nat → Int32} (ht : m_ty (m_τ A) = some (.inr (0, len, k, sg))) (hg : ∀ i, i < len → zseg sg i (g i).toInt) : ∀ T, m_ty (m_τ A) = some T → zcell m_τ T (.inl (0, len, .inl g)) := by
  intro T hT
  rw [ht] at hT
  cases hT
  exact ⟨g, rfl, hg⟩
theorem m_zb {len : Nat} {A : Nat} {g : Nat → Int32} {k : Nat} (ht : m_ty (m_τ A) = some (.inr (2, len, k, [(0, len - 1, 0, 1)]))) (hg : ∀ i, i < len → g i = 0 ∨ g i = 1) : ∀ T, m_ty (m_τ A) = some T → zcell m_τ T (.inl (2, len, .inl g)) := by
  intro T hT
  rw [ht] at hT
  cases hT
  refine ⟨g, rfl, fun i hi => ⟨hg i hi, (0, len - 1, 0, 1), List.mem_singleton.mpr rfl, Nat.zero_le _, by show i ≤ len - 1; omega, ?_, ?_⟩⟩
  · show (0 : Int) ≤ (g i).toInt
    rcases hg i hi with e | e <;> rw [e] <;> decide
  · show (g i).toInt ≤ (1 : Int)
    rcases hg i hi with e | e <;> rw [e] <;> decide
theorem m_zj {len : Nat} {A : Nat} {g : Nat → Int64} {k : Nat} (ht : m_ty (m_τ A) = some (.inr (1, len, k, [(0, len - 1, -9223372036854775808, 9223372036854775807)]))) : ∀ T, m_ty (m_τ A) = some T → zcell m_τ T (.inl (1, len, .inr (.inl g))) := by
  intro T hT
  rw [ht] at hT
  cases hT
  refine ⟨g, rfl, fun i hi => ⟨_, List.mem_singleton.mpr rfl, Nat.zero_le _, by show i ≤ len - 1; omega, ?_, ?_⟩⟩
  · exact Int64.le_toInt (g i)
  · have := Int64.toInt_lt (g i)
    show (g i).toInt ≤ 9223372036854775807
    omega
theorem m_zo {fs : List Value} {j : Nat} {x : Int32} {σ : iv_H} (hI : zI m_τ m_ty σ) (ho : iv_get σ 548 = some (.inr (12, fs))) {lo hi : Int} (hj : iv_nth ((match m_ty 22 with | some (.inl (_, cs)) => cs | _ => []) : List zc) j = some (0, lo, hi)) (h1 : lo ≤ x.toInt) (h2 : x.toInt ≤ hi) : ∀ T, m_ty (m_τ 548) = some T → zcell m_τ T (.inr (12, fs.set j (.int x))) := by
  intro T hT
  obtain ⟨e, g1, g2⟩ := hI 548 T hT
  rw [ho] at g1
  cases g1
  have hT2 : m_ty 22 = some T := hT
  obtain ⟨cs, rfl⟩ : ∃ cs, T = .inl (12, cs) := by
    have : ∃ cs, m_ty 22 = some (.inl (12, cs)) := ⟨_, rfl⟩
    obtain ⟨cs, h9⟩ := this
    rw [hT2] at h9
    cases h9
    exact ⟨cs, rfl⟩
  rw [hT2] at hj
  have hj : iv_nth cs j = some (0, lo, hi) := hj
  obtain ⟨fs2, g3, g4, g5⟩ := g2
  cases g3
  refine ⟨_, rfl, by rw [List.length_set]; exact g4, fun i c y hi2 hy => ?_⟩
  rw [iv_nth_set] at hy
  by_cases hc : i = j ∧ j < fs.length
  · rw [if_pos hc] at hy
    cases hy
    rw [hc.1, hj] at hi2
    cases hi2
    exact ⟨x, rfl, h1, h2⟩
  · rw [if_neg hc] at hy
    exact g5 i c y hi2 hy
theorem lv_d {lv : iv_L} {i a : Nat} (l0 : iv_f1 lv 0 = some (.ref a)) (hi : i ≠ 0) : iv_f1 (iv_d1 i lv) 0 = some (.ref a) := iv_f1_d1 l0 (fun e => hi e.symm) (fun _ => by show (1 : Nat) ≠ 2; decide)
theorem lv_di {lv : iv_L} {i j : Nat} {x : Int32} (l : iv_f1 lv j = some (.int x)) (hi : j ≠ i) : iv_f1 (iv_d1 i lv) j = some (.int x) := iv_f1_d1 l hi (fun _ => by show (1 : Nat) ≠ 2; decide)
theorem ofNat_sub {a b : Nat} (h : b ≤ a) : Int32.ofNat a - Int32.ofNat b = Int32.ofNat (a - b) := by
  have e : Int32.ofNat a = Int32.ofNat (a - b) + Int32.ofNat b := by rw [← Int32.ofNat_add, Nat.sub_add_cancel h]
  rw [e, Int32.add_sub_cancel]
section HND
variable {L : Nat} {xs : Nat → Int32} {Post : Option Value → iv_H → Prop} {d M pc : Nat} {lv : iv_L} {st : List Value} {σ : iv_H} {fs : List Value}
theorem w_sub {a b : Nat} (h : b ≤ a) (hf : iv_f1 (iv_p M) pc = some (.inl (iv_oII fun x y => x - y))) (k : zGo L xs Post [] d M (pc + 1) lv (.int (Int32.ofNat (a - b)) :: st) σ) : zGo L xs Post [] d M pc lv (.int (Int32.ofNat b) :: .int (Int32.ofNat a) :: st) σ := zGo_s hf (by
  show some (pc + 1, lv, Value.int (Int32.ofNat a - Int32.ofNat b) :: st, σ) = _
  rw [ofNat_sub h]) k
theorem w_dup {a : Nat} (hf : iv_f1 (iv_p M) pc = some (.inl iv_oDup)) (k : zGo L xs Post [] d M (pc + 1) lv (.ref a :: .ref a :: st) σ) : zGo L xs Post [] d M pc lv (.ref a :: st) σ := zGo_s hf rfl k
end HND
