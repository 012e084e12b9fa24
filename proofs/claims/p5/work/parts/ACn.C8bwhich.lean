/-! ===== which word it is: the class's strings and the reference's numbers ===== -/
def yWf : List (List Nat) := yWl.map (fun l => l.filter (fun c => !(Nat.beq c 0)))
def ywf (i : Nat) : List Nat := match iv_nth yWf i with
  | some l => l
  | none => []
set_option maxRecDepth 20000 in
theorem yWf_all : ∀ i ∈ List.range 27, (yWv i = Int64.ofNat (e27 (ywf i).reverse) ∧ iv_sx (2 * (i + 1) + 203) = (ywf i).map Int32.ofNat) ∧ ((ywf i).all fun c => Nat.ble 97 c && Nat.ble c 122) = true ∧ (ywf i).length ≤ 7 := by decide +kernel
theorem ywf_l7 {i : Nat} (hi : i < 27) : yl7 (ywf i).reverse := by
  obtain ⟨_, h2, h3⟩ := yWf_all i (List.mem_range.mpr hi)
  refine ⟨fun x hx => ?_, by rw [List.length_reverse]; exact h3⟩
  have h4 := List.all_eq_true.mp h2 x (List.mem_reverse.mp hx)
  rw [Bool.and_eq_true] at h4
  exact ⟨Nat.le_of_ble_eq_true h4.1, Nat.le_of_ble_eq_true h4.2⟩
def yfw (T : Nat → Nat) (s k : Nat) : List Nat := (List.range k).map fun i => T (s + i)
theorem yfw_rev {T : Nat → Nat} {s : Nat} : ∀ k, yls T s k = (yfw T s k).reverse
  | 0 => rfl
  | k + 1 => by
    show T (s + k) :: yls T s k = _
    unfold yfw
    rw [List.range_succ, List.map_append, List.reverse_append, yfw_rev k]
    rfl
theorem yfw_iff {T : Nat → Nat} {s k : Nat} {r : List Nat} : yfw T s k = r ↔ k = r.length ∧ ∀ i, i < k → iv_nth r i = some (T (s + i)) := by
  constructor
  · intro h
    subst h
    refine ⟨by simp [yfw], fun i hi => ?_⟩
    rw [y_nth]
    unfold yfw
    rw [List.getElem?_map, List.getElem?_range hi]
    rfl
  · rintro ⟨h1, h2⟩
    apply List.ext_getElem?
    intro i
    by_cases hi : i < k
    · rw [← y_nth r, h2 i hi]
      unfold yfw
      rw [List.getElem?_map, List.getElem?_range hi]
      rfl
    · rw [← y_nth, ← y_nth, y_no (by simp [yfw]; omega), y_no (by omega)]
theorem y_nthM {l : List Nat} : ∀ (i : Nat), iv_nth (l.map Int32.ofNat) i = (iv_nth l i).map Int32.ofNat := by
  intro i
  rw [y_nth, y_nth, List.getElem?_map]
theorem y32_inj {a b : Nat} (ha : a ≤ 1000000) (hb : b ≤ 1000000) (h : Int32.ofNat a = Int32.ofNat b) : a = b := by
  have e := congrArg Int32.toInt h
  rw [y_of ha, y_of hb] at e
  omega
theorem ysd_iff {T : Nat → Nat} (hT : ∀ i, T i ≤ 255) {s k i : Nat} (hi : i < 27) : ysd T s k (i + 1) ↔ yfw T s k = ywf i := by
  obtain ⟨⟨_, h1⟩, _, _⟩ := yWf_all i (List.mem_range.mpr hi)
  have hl := ywf_l7 hi
  unfold ysd
  rw [h1, yfw_iff, List.length_map]
  constructor
  · rintro ⟨h2, h3⟩
    refine ⟨h2, fun x hx => ?_⟩
    have h4 := h3 x hx
    rw [y_nthM] at h4
    obtain ⟨c, hc⟩ := iv_nth_some (l := ywf i) (n := x) (by omega)
    rw [hc] at h4 ⊢
    have h5 : some (Int32.ofNat c) = some (Int32.ofNat (T (s + x))) := h4
    simp only [Option.some.injEq] at h5
    have h6 := hl.1 c (List.mem_reverse.mpr (zn_in hc))
    rw [y32_inj (by omega) (by have := hT (s + x); omega) h5]
  · rintro ⟨h2, h3⟩
    refine ⟨h2, fun x hx => ?_⟩
    rw [y_nthM, h3 x hx]
    rfl
theorem yw_iff {T : Nat → Nat} {s k i : Nat} (hk : k ≤ 7) (h : ∀ i, i < k → ysL (T (s + i)) = true) (hi : i < 27) : yw T s k = yWv i ↔ yfw T s k = ywf i := by
  obtain ⟨⟨h1, _⟩, _, _⟩ := yWf_all i (List.mem_range.mpr hi)
  rw [h1, yw_eq hk h]
  have hl : yl7 (yls T s k) := ⟨yls_all h, by rw [yls_len]; exact hk⟩
  constructor
  · intro e
    have e2 := e27_inj hl.1 (ywf_l7 hi).1 (y64_inj (y27_b hl) (y27_b (ywf_l7 hi)) e)
    rw [yfw_rev] at e2
    exact List.reverse_inj.mp e2
  · intro e
    rw [yfw_rev, e]
theorem ysd_0 {T : Nat → Nat} {s k : Nat} (hk : 0 < k) : ¬ ysd T s k 0 := fun h => by
  have h1 : k = (iv_sx (2 * 0 + 203)).length := h.1
  have h2 : (iv_sx (2 * 0 + 203)).length = 0 := by decide
  omega
/-- what Word.at says of a run of letters -/
theorem yj_iff {T : Nat → Nat} (hT : ∀ i, T i ≤ 255) {s k j : Nat} (hk0 : 0 < k) (hk : k ≤ 7) (h : ∀ i, i < k → ysL (T (s + i)) = true) (hj : j < 28) (hw : ysd T s k j ∨ (j = 0 ∧ ∀ i, i < 28 → ¬ ysd T s k i)) : (j = 0 ↔ ∀ i, i < 27 → ¬ yw T s k = yWv i) ∧ ∀ i, i < 27 → (j = i + 1 ↔ yw T s k = yWv i) := by
  have key : ∀ i, i < 27 → (j = i + 1 ↔ yw T s k = yWv i) := fun i hi => by
    rw [yw_iff hk h hi, ← ysd_iff hT hi]
    constructor
    · rintro rfl
      rcases hw with hw | ⟨hw, _⟩
      · exact hw
      · omega
    · intro h2
      rcases hw with hw | ⟨_, hw⟩
      · by_cases h0 : j = 0
        · subst h0
          exact absurd hw (ysd_0 hk0)
        · obtain ⟨j2, rfl⟩ : ∃ j2, j = j2 + 1 := ⟨j - 1, by omega⟩
          have a1 := (ysd_iff hT (show j2 < 27 by omega)).mp hw
          have a2 := (ysd_iff hT hi).mp h2
          have b1 := (yw_iff hk h (show j2 < 27 by omega)).mpr a1
          have e : ywf j2 = ywf i := a1.symm.trans a2
          have inj : ∀ a ∈ List.range 27, ∀ b ∈ List.range 27, ywf a = ywf b → a = b := by decide +kernel
          rw [inj j2 (List.mem_range.mpr (by omega)) i (List.mem_range.mpr hi) e]
      · exact absurd h2 (hw (i + 1) (by omega))
  refine ⟨⟨fun e i hi h2 => by have := (key i hi).mpr h2; omega, fun hn => ?_⟩, key⟩
  by_cases h0 : j = 0
  · exact h0
  · obtain ⟨j2, rfl⟩ : ∃ j2, j = j2 + 1 := ⟨j - 1, by omega⟩
    exact absurd ((key j2 (by omega)).mp rfl) (hn j2 (by omega))
