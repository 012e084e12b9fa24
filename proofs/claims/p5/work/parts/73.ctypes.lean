/-! ===== printed by wip/gen/emit_cls.py: types of the cells of the developers' side, labels ===== -/
def z_ty (t : Nat) : Option zt := (bif Nat.blt t 45 then (bif Nat.blt t 31 then (bif Nat.blt t 16 then (bif Nat.blt t 13 then (bif Nat.blt t 11 then (bif Nat.beq t 10 then (some (.inl (0, [(0, 0, 40), (32, 0, 1000), (33, 0, 1000), (34, 0, 1000), (35, 0, 1000), (0, (-2147483648), 2147483647), (0, (-2147483648), 2147483647), (0, (-2147483648), 2147483647), (0, (-2147483648), 2147483647)]))) else none) else (bif Nat.blt t 12 then (bif Nat.beq t 11 then (some (.inl (1, [(0, 0, 7), (36, 0, 1000), (37, 0, 1000)]))) else none) else (bif Nat.beq t 12 then (some (.inl (2, [(0, 0, 7), (0, 0, 1), (39, 0, 1000), (40, 0, 1000), (41, 0, 1000), (42, 0, 1000), (0, 0, 7), (0, (-2147483648), 2147483647), (44, 0, 1000)]))) else none))) else (bif Nat.blt t 14 then (bif Nat.beq t 13 then (some (.inl (3, [(0, (-2147483648), 2147483647), (0, 0, 7), (0, 0, 6), (0, (-2147483648), 2147483647), (0, (-2147483648), 2147483647), (0, (-2147483648), 2147483647), (0, 0, 1), (0, 0, 1), (0, 0, 1), (45, 0, 1000), (46, 0, 1000), (47, 0, 1000), (48, 0, 1000), (49, 0, 1000), (50, 0, 1000), (51, 0, 1000)]))) else none) else (bif Nat.blt t 15 then (bif Nat.beq t 14 then (some (.inl (4, [(52, 0, 1000), (0, 0, 7), (0, 0, 8)]))) else none) else (bif Nat.beq t 15 then (some (.inl (5, [(0, 0, 901), (53, 0, 1000), (54, 0, 1000), (55, 0, 1000), (56, 0, 1000), (0, 0, 1), (0, (-1), 900), (0, (-2147483648), 2147483647), (0, (-2147483648), 2147483647), (3, 0, 1000), (1, (-9223372036854775808), 9223372036854775807), (0, (-2147483648), 2147483647), (0, (-2147483648), 2147483647)]))) else none)))) else (bif Nat.blt t 19 then (bif Nat.blt t 17 then (bif Nat.beq t 16 then (some (.inl (6, [(0, 0, 20), (0, 0, 40), (57, 0, 1000), (58, 0, 1000), (59, 0, 1000)]))) else none) else (bif Nat.blt t 18 then (bif Nat.beq t 17 then (some (.inl (7, [(15, 0, 1000), (60, 0, 1000), (61, 0, 1000), (62, 0, 1000), (63, 0, 1000), (64, 0, 1000), (65, 0, 1000), (67, 0, 1000), (0, (-2147483648), 2147483647), (0, (-2147483648), 2147483647), (0, (-2147483648), 2147483647), (0, (-2147483648), 2147483647), (0, (-2147483648), 2147483647)]))) else none) else (bif Nat.beq t 18 then (some (.inl (8, [(0, 0, 1), (68, 0, 1000)]))) else none))) else (bif Nat.blt t 21 then (bif Nat.blt t 20 then (bif Nat.beq t 19 then (some (.inl (9, [(0, 0, 33), (69, 0, 1000)]))) else none) else (bif Nat.beq t 20 then (some (.inl (10, []))) else none)) else (bif Nat.blt t 30 then (bif Nat.beq t 21 then (some (.inl (11, [(70, 0, 1000), (0, 0, 940), (0, (-2147483648), 2147483647), (15, 0, 1000), (15, 0, 1000), (19, 0, 1000), (19, 0, 1000), (18, 0, 1000), (18, 0, 1000), (16, 0, 1000), (17, 0, 1000), (71, 0, 1000), (72, 0, 1000), (73, 0, 1000), (74, 0, 1000), (12, 0, 1000), (20, 0, 1000), (14, 0, 1000), (13, 0, 1000), (21, 0, 1000)]))) else none) else (bif Nat.beq t 30 then (some (.inr (0, 40, 0, [(0, 39, 0, 5)]))) else none))))) else (bif Nat.blt t 38 then (bif Nat.blt t 34 then (bif Nat.blt t 32 then (bif Nat.beq t 31 then (some (.inr (0, 40, 0, [(0, 39, 0, 60)]))) else none) else (bif Nat.blt t 33 then (bif Nat.beq t 32 then (some (.inr (0, 40, 0, [(0, 39, 0, 6)]))) else none) else (bif Nat.beq t 33 then (some (.inr (0, 40, 0, [(0, 39, 0, 2)]))) else none))) else (bif Nat.blt t 36 then (bif Nat.blt t 35 then (bif Nat.beq t 34 then (some (.inr (0, 7, 0, [(0, 6, (-2147483648), 2147483647)]))) else none) else (bif Nat.beq t 35 then (some (.inr (7, 8, 36, []))) else none)) else (bif Nat.blt t 37 then (bif Nat.beq t 36 then (some (.inr (0, 64, 0, [(0, 63, (-2147483648), 2147483647)]))) else none) else (bif Nat.beq t 37 then (some (.inr (0, 7, 0, [(0, 6, 0, 3)]))) else none)))) else (bif Nat.blt t 41 then (bif Nat.blt t 39 then (bif Nat.beq t 38 then (some (.inr (0, 7, 0, [(0, 6, (-2147483648), 2147483647)]))) else none) else (bif Nat.blt t 40 then (bif Nat.beq t 39 then (some (.inr (0, 7, 0, [(0, 6, (-2147483648), 2147483647)]))) else none) else (bif Nat.beq t 40 then (some (.inr (7, 7, 41, []))) else none))) else (bif Nat.blt t 43 then (bif Nat.blt t 42 then (bif Nat.beq t 41 then (some (.inr (0, 4, 0, [(0, 3, (-2147483648), 2147483647)]))) else none) else (bif Nat.beq t 42 then (some (.inr (0, 7, 0, [(0, 6, (-2147483648), 2147483647)]))) else none)) else (bif Nat.blt t 44 then (bif Nat.beq t 43 then (some (.inr (1, 7, 0, [(0, 6, (-9223372036854775808), 9223372036854775807)]))) else none) else (bif Nat.beq t 44 then (some (.inr (0, 7, 0, [(0, 6, (-1), 240)]))) else none)))))) else (bif Nat.blt t 59 then (bif Nat.blt t 52 then (bif Nat.blt t 48 then (bif Nat.blt t 46 then (bif Nat.beq t 45 then (some (.inr (0, 7, 0, [(0, 6, (-2147483648), 2147483647)]))) else none) else (bif Nat.blt t 47 then (bif Nat.beq t 46 then (some (.inr (0, 7, 0, [(0, 6, (-1), 5)]))) else none) else (bif Nat.beq t 47 then (some (.inr (1, 6, 0, [(0, 5, (-9223372036854775808), 9223372036854775807)]))) else none))) else (bif Nat.blt t 50 then (bif Nat.blt t 49 then (bif Nat.beq t 48 then (some (.inr (0, 6, 0, [(0, 5, (-2147483648), 2147483647)]))) else none) else (bif Nat.beq t 49 then (some (.inr (0, 6, 0, [(0, 5, (-2147483648), 2147483647)]))) else none)) else (bif Nat.blt t 51 then (bif Nat.beq t 50 then (some (.inr (4, 8, 17, []))) else none) else (bif Nat.beq t 51 then (some (.inr (0, 901, 0, [(0, 900, (-2147483648), 2147483647)]))) else none)))) else (bif Nat.blt t 55 then (bif Nat.blt t 53 then (bif Nat.beq t 52 then (some (.inr (0, 901, 0, [(0, 900, (-2147483648), 2147483647)]))) else none) else (bif Nat.blt t 54 then (bif Nat.beq t 53 then (some (.inr (1, 901, 0, [(0, 900, (-9223372036854775808), 9223372036854775807)]))) else none) else (bif Nat.beq t 54 then (some (.inr (6, 901, 1, []))) else none))) else (bif Nat.blt t 57 then (bif Nat.blt t 56 then (bif Nat.beq t 55 then (some (.inr (6, 40, 1, []))) else none) else (bif Nat.beq t 56 then (some (.inr (0, 40, 0, [(0, 39, (-2147483648), 2147483647)]))) else none)) else (bif Nat.blt t 58 then (bif Nat.beq t 57 then (some (.inr (0, 40, 0, [(0, 39, (-2147483648), 2147483647)]))) else none) else (bif Nat.beq t 58 then (some (.inr (0, 7, 0, [(0, 6, (-2147483648), 2147483647)]))) else none))))) else (bif Nat.blt t 66 then (bif Nat.blt t 62 then (bif Nat.blt t 60 then (bif Nat.beq t 59 then (some (.inr (0, 7, 0, [(0, 6, (-1), 5)]))) else none) else (bif Nat.blt t 61 then (bif Nat.beq t 60 then (some (.inr (0, 7, 0, [(0, 6, (-2147483648), 2147483647)]))) else none) else (bif Nat.beq t 61 then (some (.inr (0, 7, 0, [(0, 6, (-2147483648), 2147483647)]))) else none))) else (bif Nat.blt t 64 then (bif Nat.blt t 63 then (bif Nat.beq t 62 then (some (.inr (0, 7, 0, [(0, 6, (-2147483648), 2147483647)]))) else none) else (bif Nat.beq t 63 then (some (.inr (7, 7, 64, []))) else none)) else (bif Nat.blt t 65 then (bif Nat.beq t 64 then (some (.inr (0, 7, 0, [(0, 6, (-2147483648), 2147483647)]))) else none) else (bif Nat.beq t 65 then (some (.inr (0, 6, 0, [(0, 5, (-2147483648), 2147483647)]))) else none)))) else (bif Nat.blt t 69 then (bif Nat.blt t 67 then (bif Nat.beq t 66 then (some (.inr (0, 3, 0, [(0, 2, (-2147483648), 2147483647)]))) else none) else (bif Nat.blt t 68 then (bif Nat.beq t 67 then (some (.inr (0, 33, 0, [(0, 32, (-2147483648), 2147483647)]))) else none) else (bif Nat.beq t 68 then (some (.inr (0, 940, 0, [(0, 939, 0, 255)]))) else none))) else (bif Nat.blt t 71 then (bif Nat.blt t 70 then (bif Nat.beq t 69 then (some (.inr (3, 2, 13, []))) else none) else (bif Nat.beq t 70 then (some (.inr (4, 2, 17, []))) else none)) else (bif Nat.blt t 72 then (bif Nat.beq t 71 then (some (.inr (5, 2, 16, []))) else none) else (bif Nat.beq t 72 then (some (.inr (2, 2, 0, [(0, 1, 0, 1)]))) else none)))))))
def z_tl : List Nat := [21, 68, 13, 43, 44, 45, 46, 47, 48, 49, 13, 43, 44, 45, 46, 47, 48, 49, 17, 58, 59, 60, 61, 62, 63, 64, 64, 64, 64, 64, 64, 64, 65, 17, 58, 59, 60, 61, 62, 63, 64, 64, 64, 64, 64, 64, 64, 65, 16, 55, 56, 57, 16, 55, 56, 57, 14, 50, 17, 58, 59, 60, 61, 62, 63, 64, 64, 64, 64, 64, 64, 64, 65, 17, 58, 59, 60, 61, 62, 63, 64, 64, 64, 64, 64, 64, 64, 65, 17, 58, 59, 60, 61, 62, 63, 64, 64, 64, 64, 64, 64, 64, 65, 17, 58, 59, 60, 61, 62, 63, 64, 64, 64, 64, 64, 64, 64, 65, 17, 58, 59, 60, 61, 62, 63, 64, 64, 64, 64, 64, 64, 64, 65, 17, 58, 59, 60, 61, 62, 63, 64, 64, 64, 64, 64, 64, 64, 65, 17, 58, 59, 60, 61, 62, 63, 64, 64, 64, 64, 64, 64, 64, 65, 17, 58, 59, 60, 61, 62, 63, 64, 64, 64, 64, 64, 64, 64, 65, 15, 51, 52, 53, 54, 69, 70, 71, 72, 10, 30, 31, 32, 33, 18, 66, 12, 37, 38, 39, 40, 41, 41, 41, 41, 41, 41, 41, 42, 11, 34, 35, 36, 36, 36, 36, 36, 36, 36, 36, 19, 67, 13, 43, 44, 45, 46, 47, 48, 49, 17, 58, 59, 60, 61, 62, 63, 64, 64, 64, 64, 64, 64, 64, 65, 16, 55, 56, 57, 13, 43, 44, 45, 46, 47, 48, 49, 17, 58, 59, 60, 61, 62, 63, 64, 64, 64, 64, 64, 64, 64, 65, 16, 55, 56, 57, 0, 0, 0, 0, 0, 0, 0, 0, 0, 0, 0, 0, 0, 0, 0, 0, 0, 0, 0, 0, 0, 0, 0]
def z_τ (a : Nat) : Nat := bif Nat.beq (a % 2) 0 then (match iv_nth z_tl (a / 2) with
  | some t => t
  | none => 0) else bif Nat.beq a 101 then 2 else bif Nat.ble 3 a && Nat.ble a 57 then 1 else 0
theorem z_tl_ok : z_tl.all (fun t => bif Nat.beq t 1 then false else bif Nat.beq t 2 then false else true) = true := by decide +kernel
theorem z_T : zT z_τ := by
  have key : ∀ a : Nat, (Nat.beq (a % 2) 0 = true ∧ z_τ a ≠ 1 ∧ z_τ a ≠ 2 ∧ (1 ≤ z_τ a → a ≤ 1000)) ∨ (Nat.beq (a % 2) 0 = false ∧ z_τ a = bif Nat.beq a 101 then 2 else bif Nat.ble 3 a && Nat.ble a 57 then 1 else 0) := by
    intro a
    unfold z_τ
    cases hb : Nat.beq (a % 2) 0
    · exact .inr ⟨rfl, rfl⟩
    · refine .inl ⟨rfl, ?_⟩
      simp only [cond_true]
      split
      · rename_i t ht
        have h1 := List.all_eq_true.mp z_tl_ok t (zn_in ht)
        have h2 := iv_nth_lt ht
        have h3 : z_tl.length = 297 := by decide +kernel
        have h4 := Nat.eq_of_beq_eq_true hb
        refine ⟨fun e => ?_, fun e => ?_, fun _ => by omega⟩
        · subst e; cases h1
        · subst e; cases h1
      · exact ⟨by decide, by decide, fun h => by omega⟩
  refine ⟨fun a h => ?_, fun a h => ?_, fun a h => ?_⟩
  · rcases key a with ⟨_, k, _⟩ | ⟨hb, k⟩
    · exact absurd h k
    · rw [k] at h
      cases h1 : Nat.beq a 101
      · rw [h1] at h
        cases h2 : Nat.ble 3 a && Nat.ble a 57
        · rw [h2] at h; cases h
        · unfold iv_isW
          rw [h2]
          have h3 : ¬ a % 2 = 0 := fun e => by rw [e] at hb; cases hb
          have h4 : a % 2 = 1 := by omega
          rw [h4]
          rfl
      · rw [h1] at h; cases h
  · rcases key a with ⟨_, _, k, _⟩ | ⟨hb, k⟩
    · exact absurd h k
    · rw [k] at h
      cases h1 : Nat.beq a 101
      · rw [h1] at h
        cases h2 : Nat.ble 3 a && Nat.ble a 57
        · rw [h2] at h; cases h
        · rw [h2] at h; cases h
      · exact Nat.eq_of_beq_eq_true h1
  · rcases key a with ⟨_, _, _, k⟩ | ⟨hb, k⟩
    · exact k h
    · rw [k] at h
      cases h1 : Nat.beq a 101
      · rw [h1] at h
        cases h2 : Nat.ble 3 a && Nat.ble a 57
        · rw [h2] at h; cases h
        · rw [Bool.and_eq_true] at h2
          have := Nat.le_of_ble_eq_true h2.2
          omega
      · have := Nat.eq_of_beq_eq_true h1
        omega
def z_inl : List Nat := [3, 26, 27, 128]
def z_R : List zrw := [(0, (0, 6), (0, 6), (0, 2)), (1, (0, 6), (0, 5), (0, 0)), (2, (0, 6), (0, 0), (0, 0)), (3, (0, 6), (0, 6), (0, 0)), (4, (0, 5), (0, 0), (0, 0)), (5, (0, 60), (0, 0), (0, 0))]
/-- what J looks at: the rows of a book -/
def z_sf : zsf2 := fun q => bif Nat.beq q.1 1 && (Nat.ble 30 q.2.1 && Nat.ble q.2.1 33) then false else true
def z_oc : zorc := (fun M pc => bif Nat.beq M 13 && (Nat.beq pc 41 || Nat.beq pc 74) then some (zrowo 30 31 32 33 z_R) else none, zno)
def z_J (σ : iv_H) : Prop := zJrow z_τ 30 31 32 33 z_R σ
theorem zFr_arr {τ : Nat → Nat} {ms : zm} {σ σ' : iv_H} (h : zFr τ ms σ σ') {a : Nat} {x : Nat × vp_A} (hm : zmt (τ a) ms = false) (hg : iv_get σ' a = some (.inl x)) : iv_get σ a = some (.inl x) := by
  obtain ⟨k, rfl, hk, _⟩ := iv_get_ok hg
  rw [h.1.1] at hk
  have h1 := iv_get_even (σ := σ) hk
  cases he : σ.2.1 k with
  | inl y =>
    rw [he] at h1
    have h2 := (h.2 _).2.1 y h1 hm
    rw [hg] at h2
    cases h2
    exact h1
  | inr q =>
    rw [he] at h1
    obtain ⟨fs', h2, _⟩ := (h.2 _).1 q.1 q.2 h1
    rw [hg] at h2
    cases h2
theorem z_nomt {t : Nat} (ht : Nat.ble 30 t = true ∧ Nat.ble t 33 = true) : ∀ {ms : zm}, ms.all z_sf = true → zmt t ms = false
  | [], _ => rfl
  | p :: r, h => by
    have h2 : (z_sf p && r.all z_sf) = true := h
    rw [Bool.and_eq_true] at h2
    unfold zmt
    cases hb : Nat.beq p.1 1 && Nat.beq p.2.1 t
    · exact z_nomt ht h2.2
    · rw [Bool.and_eq_true] at hb
      have h3 := h2.1
      unfold z_sf at h3
      rw [hb.1, Nat.eq_of_beq_eq_true hb.2, ht.1, ht.2] at h3
      cases h3
theorem z_Js (ms : zm) (σ σ' : iv_H) (hs : ms.all z_sf = true) (h : zFr z_τ ms σ σ') (hJ : z_J σ) : z_J σ' := by
  intro a1 a2 a3 a4 g1 g2 g3 g4 l1 l2 l3 l4 f1 f2 f3 f4 t1 t2 t3 t4 e1 e2 e3 e4
  exact hJ a1 a2 a3 a4 g1 g2 g3 g4 l1 l2 l3 l4 f1 f2 f3 f4 t1 t2 t3 t4 (zFr_arr h (by rw [t1]; exact z_nomt (by decide) hs) e1) (zFr_arr h (by rw [t2]; exact z_nomt (by decide) hs) e2) (zFr_arr h (by rw [t3]; exact z_nomt (by decide) hs) e3) (zFr_arr h (by rw [t4]; exact z_nomt (by decide) hs) e4)
theorem z_O : zOK z_τ z_ty z_J z_oc := by
  refine ⟨fun M pc g h => ?_, zno_ok⟩
  have h : (bif Nat.beq M 13 && (Nat.beq pc 41 || Nat.beq pc 74) then some (zrowo 30 31 32 33 z_R) else none) = some g := h
  cases hb : Nat.beq M 13 && (Nat.beq pc 41 || Nat.beq pc 74)
  · rw [hb] at h; cases h
  · rw [hb] at h
    cases h
    exact zrowo_ok (fun σ hj => hj)
