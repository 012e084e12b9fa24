/-! ===== printed by wip/gen/gen_find.py: findIn, by hand; places ===== -/
theorem f257_25 : iv_f1 (iv_p 257) 25 = some (.inl (iv_oA 0 1)) := rfl
theorem f257_26 : iv_f1 (iv_p 257) 26 = some (.inr (.inr (6, 255, 0, 12))) := rfl
theorem f257_75 : iv_f1 (iv_p 257) 75 = some (.inr (.inl 1)) := rfl
theorem f266_25 : iv_f1 (iv_p 266) 25 = some (.inl (iv_oA 0 1)) := rfl
theorem f266_26 : iv_f1 (iv_p 266) 26 = some (.inl (iv_oK (.int (Int32.ofNat 0)) 1)) := rfl
theorem f266_27 : iv_f1 (iv_p 266) 27 = some (.inl (iv_oPF 12 42 .int)) := rfl
theorem f266_65 : iv_f1 (iv_p 266) 65 = some (.inl (iv_oA 0 1)) := rfl
theorem f266_66 : iv_f1 (iv_p 266) 66 = some (.inr (.inr (6, 255, 0, 12))) := rfl
set_option maxRecDepth 8000 in
theorem f266_175 : iv_f1 (iv_p 266) 175 = some (.inr (.inl 1)) := rfl
set_option maxRecDepth 8000 in
theorem f233_206 : iv_f1 (iv_p 233) 206 = some (.inr (.inl 1)) := rfl
theorem f181_3 : iv_f1 (iv_p 181) 3 = some (.inl (iv_oI 5 2)) := rfl
theorem f181_5 : iv_f1 (iv_p 181) 5 = some (.inl (iv_oI 2 1)) := rfl
theorem f181_6 : iv_f1 (iv_p 181) 6 = some (.inl (iv_oIc .ge (23))) := rfl
theorem f181_29 : iv_f1 (iv_p 181) 29 = some (.inl (iv_oK (.int (-1)) 1)) := rfl
theorem f181_30 : iv_f1 (iv_p 181) 30 = some (.inr (.inl 1)) := rfl
theorem f181_9 : iv_f1 (iv_p 181) 9 = some (.inl (iv_oA 0 1)) := rfl
theorem f181_10 : iv_f1 (iv_p 181) 10 = some (.inl (iv_oI 1 1)) := rfl
theorem f181_11 : iv_f1 (iv_p 181) 11 = some (.inl (iv_oI 5 2)) := rfl
theorem f181_13 : iv_f1 (iv_p 181) 13 = some (.inl (iv_oII fun x y => x + y)) := rfl
theorem f181_14 : iv_f1 (iv_p 181) 14 = some (.inl (iv_oJl)) := rfl
theorem f181_15 : iv_f1 (iv_p 181) 15 = some (.inl (iv_oJ 3 1)) := rfl
theorem f181_16 : iv_f1 (iv_p 181) 16 = some (.inl (iv_oCmp)) := rfl
theorem f181_17 : iv_f1 (iv_p 181) 17 = some (.inl (iv_oIf .ne (6))) := rfl
theorem f181_20 : iv_f1 (iv_p 181) 20 = some (.inl (iv_oI 5 2)) := rfl
theorem f181_22 : iv_f1 (iv_p 181) 22 = some (.inr (.inl 1)) := rfl
theorem f181_23 : iv_f1 (iv_p 181) 23 = some (.inl (iv_oInc 5 1)) := rfl
theorem f181_26 : iv_f1 (iv_p 181) 26 = some (.inl (iv_oGo (-23))) := rfl
theorem f181_0 : iv_f1 (iv_p 181) 0 = some (.inl (iv_oK (.int (Int32.ofNat 0)) 1)) := rfl
theorem f181_1 : iv_f1 (iv_p 181) 1 = some (.inl (iv_oIS 5 2)) := rfl
theorem f264_35 : iv_f1 (iv_p 264) 35 = some (.inl (iv_oA 0 1)) := rfl
theorem f264_36 : iv_f1 (iv_p 264) 36 = some (.inl (iv_oGF 12 19)) := rfl
theorem f264_39 : iv_f1 (iv_p 264) 39 = some (.inl (iv_oK (.int (Int32.ofNat 0)) 1)) := rfl
theorem f264_40 : iv_f1 (iv_p 264) 40 = some (.inl (iv_oA 0 1)) := rfl
theorem f264_41 : iv_f1 (iv_p 264) 41 = some (.inl (iv_oGF 12 14)) := rfl
theorem f264_44 : iv_f1 (iv_p 264) 44 = some (.inl (iv_oK (.int (Int32.ofNat 0)) 1)) := rfl
theorem f264_45 : iv_f1 (iv_p 264) 45 = some (.inl (iv_oIl)) := rfl
theorem f264_46 : iv_f1 (iv_p 264) 46 = some (.inl (iv_oA 0 1)) := rfl
theorem f264_47 : iv_f1 (iv_p 264) 47 = some (.inl (iv_oGF 12 12)) := rfl
theorem f264_50 : iv_f1 (iv_p 264) 50 = some (.inr (.inr (4, 181, 4, 0))) := rfl
theorem f264_53 : iv_f1 (iv_p 264) 53 = some (.inl (iv_oK (.int (-1)) 1)) := rfl
theorem f264_54 : iv_f1 (iv_p 264) 54 = some (.inl (iv_oIc .ne (9))) := rfl
theorem f264_57 : iv_f1 (iv_p 264) 57 = some (.inl (iv_oA 0 1)) := rfl
theorem f264_58 : iv_f1 (iv_p 264) 58 = some (.inl (iv_oK (.int (Int32.ofNat 3)) 1)) := rfl
theorem f264_59 : iv_f1 (iv_p 264) 59 = some (.inr (.inr (6, 174, 1, 12))) := rfl
theorem f264_62 : iv_f1 (iv_p 264) 62 = some (.inr (.inl 2)) := rfl
theorem f264_63 : iv_f1 (iv_p 264) 63 = some (.inl (iv_oA 0 1)) := rfl
theorem f264_64 : iv_f1 (iv_p 264) 64 = some (.inl (iv_oGF 12 42)) := rfl
theorem f264_67 : iv_f1 (iv_p 264) 67 = some (.inl (iv_oK (.int (Int32.ofNat 40)) 2)) := rfl
theorem f264_69 : iv_f1 (iv_p 264) 69 = some (.inl (iv_oIc .ne (9))) := rfl
theorem f264_72 : iv_f1 (iv_p 264) 72 = some (.inl (iv_oA 0 1)) := rfl
theorem f264_73 : iv_f1 (iv_p 264) 73 = some (.inl (iv_oK (.int (Int32.ofNat 4)) 1)) := rfl
theorem f264_74 : iv_f1 (iv_p 264) 74 = some (.inr (.inr (6, 174, 1, 12))) := rfl
theorem f264_77 : iv_f1 (iv_p 264) 77 = some (.inr (.inl 2)) := rfl
theorem f264_78 : iv_f1 (iv_p 264) 78 = some (.inl (iv_oK (.int (Int32.ofNat 4)) 1)) := rfl
theorem f264_79 : iv_f1 (iv_p 264) 79 = some (.inl (iv_oA 0 1)) := rfl
theorem f264_80 : iv_f1 (iv_p 264) 80 = some (.inl (iv_oGF 12 42)) := rfl
theorem f264_83 : iv_f1 (iv_p 264) 83 = some (.inl (iv_oII fun x y => x * y)) := rfl
theorem f264_84 : iv_f1 (iv_p 264) 84 = some (.inl (iv_oIS 3 1)) := rfl
theorem f264_85 : iv_f1 (iv_p 264) 85 = some (.inl (iv_oA 0 1)) := rfl
theorem f264_86 : iv_f1 (iv_p 264) 86 = some (.inl (iv_oGF 12 40)) := rfl
theorem f264_89 : iv_f1 (iv_p 264) 89 = some (.inl (iv_oI 3 1)) := rfl
set_option maxRecDepth 8000 in
theorem f264_90 : iv_f1 (iv_p 264) 90 = some (.inl (iv_oI 1 1)) := rfl
set_option maxRecDepth 8000 in
theorem f264_91 : iv_f1 (iv_p 264) 91 = some (.inl (iv_oIf .eq (7))) := rfl
set_option maxRecDepth 8000 in
theorem f264_94 : iv_f1 (iv_p 264) 94 = some (.inl (iv_oK (.int (Int32.ofNat 4)) 1)) := rfl
set_option maxRecDepth 8000 in
theorem f264_95 : iv_f1 (iv_p 264) 95 = some (.inl (iv_oGo (4))) := rfl
set_option maxRecDepth 8000 in
theorem f264_98 : iv_f1 (iv_p 264) 98 = some (.inl (iv_oK (.int (Int32.ofNat 5)) 1)) := rfl
set_option maxRecDepth 8000 in
theorem f264_99 : iv_f1 (iv_p 264) 99 = some (.inl (iv_oIst)) := rfl
set_option maxRecDepth 8000 in
theorem f264_100 : iv_f1 (iv_p 264) 100 = some (.inl (iv_oA 0 1)) := rfl
set_option maxRecDepth 8000 in
theorem f264_101 : iv_f1 (iv_p 264) 101 = some (.inl (iv_oGF 12 40)) := rfl
set_option maxRecDepth 8000 in
theorem f264_104 : iv_f1 (iv_p 264) 104 = some (.inl (iv_oI 3 1)) := rfl
set_option maxRecDepth 8000 in
theorem f264_105 : iv_f1 (iv_p 264) 105 = some (.inl (iv_oK (.int (Int32.ofNat 1)) 1)) := rfl
set_option maxRecDepth 8000 in
theorem f264_106 : iv_f1 (iv_p 264) 106 = some (.inl (iv_oII fun x y => x + y)) := rfl
set_option maxRecDepth 8000 in
theorem f264_107 : iv_f1 (iv_p 264) 107 = some (.inl (iv_oI 1 1)) := rfl
set_option maxRecDepth 8000 in
theorem f264_108 : iv_f1 (iv_p 264) 108 = some (.inl (iv_oIf .ne (7))) := rfl
set_option maxRecDepth 8000 in
theorem f264_111 : iv_f1 (iv_p 264) 111 = some (.inl (iv_oI 2 1)) := rfl
set_option maxRecDepth 8000 in
theorem f264_112 : iv_f1 (iv_p 264) 112 = some (.inl (iv_oIf .eq (7))) := rfl
set_option maxRecDepth 8000 in
theorem f264_115 : iv_f1 (iv_p 264) 115 = some (.inl (iv_oK (.int (Int32.ofNat 0)) 1)) := rfl
set_option maxRecDepth 8000 in
theorem f264_116 : iv_f1 (iv_p 264) 116 = some (.inl (iv_oGo (21))) := rfl
set_option maxRecDepth 8000 in
theorem f264_119 : iv_f1 (iv_p 264) 119 = some (.inl (iv_oA 0 1)) := rfl
set_option maxRecDepth 8000 in
theorem f264_120 : iv_f1 (iv_p 264) 120 = some (.inl (iv_oGF 12 19)) := rfl
set_option maxRecDepth 8000 in
theorem f264_123 : iv_f1 (iv_p 264) 123 = some (.inl (iv_oK (.int (Int32.ofNat 0)) 1)) := rfl
set_option maxRecDepth 8000 in
theorem f264_124 : iv_f1 (iv_p 264) 124 = some (.inl (iv_oA 0 1)) := rfl
set_option maxRecDepth 8000 in
theorem f264_125 : iv_f1 (iv_p 264) 125 = some (.inl (iv_oGF 12 14)) := rfl
set_option maxRecDepth 8000 in
theorem f264_128 : iv_f1 (iv_p 264) 128 = some (.inl (iv_oK (.int (Int32.ofNat 0)) 1)) := rfl
set_option maxRecDepth 8000 in
theorem f264_129 : iv_f1 (iv_p 264) 129 = some (.inl (iv_oIl)) := rfl
set_option maxRecDepth 8000 in
theorem f264_130 : iv_f1 (iv_p 264) 130 = some (.inl (iv_oA 0 1)) := rfl
set_option maxRecDepth 8000 in
theorem f264_131 : iv_f1 (iv_p 264) 131 = some (.inl (iv_oGF 12 12)) := rfl
set_option maxRecDepth 8000 in
theorem f264_134 : iv_f1 (iv_p 264) 134 = some (.inr (.inr (4, 181, 4, 0))) := rfl
set_option maxRecDepth 8000 in
theorem f264_137 : iv_f1 (iv_p 264) 137 = some (.inl (iv_oIst)) := rfl
/-- where w stands among f k, f (k + 1) ..: n places -/
def fI (f : Nat → Int64) (w : Int64) : Nat → Nat → Int32
  | 0, _ => -1
  | n + 1, k => if f k = w then Int32.ofNat k else fI f w n (k + 1)
theorem fI_c {f : Nat → Int64} {w : Int64} : ∀ (n k : Nat), fI f w n k = -1 ∨ ∃ j, k ≤ j ∧ j < k + n ∧ fI f w n k = Int32.ofNat j
  | 0, k => .inl rfl
  | n + 1, k => by
    unfold fI
    split
    · exact .inr ⟨k, Nat.le_refl _, by omega, rfl⟩
    · rcases fI_c n (k + 1) with h | ⟨j, h1, h2, h3⟩
      · exact .inl h
      · exact .inr ⟨j, by omega, by omega, h3⟩
theorem lg_eq {x y : Int64} (h : x = y) : iv_c2 .ne (lg_cmp x y) 0 = false := by
  have h1 := (zlcmp (x := x) (y := y)).2.1 (by rw [h])
  exact c_f (fun h2 => by
    have h3 := zch_32.mp h2
    exact h3 (by rw [h1]; rfl))
theorem lg_ne {x y : Int64} (h : ¬ x = y) : iv_c2 .ne (lg_cmp x y) 0 = true := by
  refine zch_32.mpr ?_
  show ¬ (lg_cmp x y).toInt = (0 : Int32).toInt
  have e0 : (0 : Int32).toInt = 0 := rfl
  have hne : x.toInt ≠ y.toInt := fun e => h (Int64.toInt_inj.mp e)
  rcases Int.lt_or_gt_of_ne hne with g | g
  · have := (zlcmp (x := x) (y := y)).1 g; omega
  · have := (zlcmp (x := x) (y := y)).2.2 g; omega
theorem w_cmp {L : Nat} {xs : Nat → Int32} {Post : Option Value → iv_H → Prop} {d M pc : Nat} {lv : iv_L} {st : List Value} {σ : iv_H} {x y : Int64} (hf : iv_f1 (iv_p M) pc = some (.inl iv_oCmp)) (k : zGo L xs Post [] d M (pc + 1) lv (.int (lg_cmp x y) :: st) σ) : zGo L xs Post [] d M pc lv (.long y :: .long x :: st) σ := zGo_s hf rfl k
theorem l181_3 {L : Nat} {xs : Nat → Int32} {Post : Option Value → iv_H → Prop} {d : Nat} {σ : iv_H} {f : Nat → Int64} {w : Int64} {n : Nat} {lvr : iv_L} (hd : iv_d1 5 lvr = lvr) (l0 : iv_f1 lvr 0 = some (.ref 562)) (l1 : iv_f1 lvr 1 = some (.int (Int32.ofNat 0))) (l2 : iv_f1 lvr 2 = some (.int (Int32.ofNat n))) (l3 : iv_f1 lvr 3 = some (.long w)) (hn : n ≤ 7) (g : iv_get σ 562 = some (.inl (1, 13, .inr (.inl f)))) : ∀ (j k : Nat), k + j = n → Post (some (.int (fI f w j k))) σ → zGo L xs Post [] d 181 3 ((5, .int (Int32.ofNat k)) :: lvr) [] σ
  | 0, k, hk, hp => by
    obtain rfl : k = n := by omega
    refine w_I f181_3 rfl ?_
    refine w_I f181_5 l2 ?_
    refine w_icT f181_6 rfl (c_geT (Nat.le_refl _) (by omega)) ?_
    refine w_K f181_29 ?_
    exact w_ret1 f181_30 hp
  | j + 1, k, hk, hp => by
    refine w_I f181_3 rfl ?_
    refine w_I f181_5 l2 ?_
    refine w_icF f181_6 rfl (c_geF (by omega) (by omega)) ?_
    refine w_A f181_9 l0 ?_
    refine w_I f181_10 l1 ?_
    refine w_I f181_11 rfl ?_
    refine w_add f181_13 ?_
    refine w_jl f181_14 g (by omega) (by decide) ?_
    refine w_J f181_15 l3 ?_
    refine w_cmp f181_16 ?_
    rw [Nat.zero_add]
    unfold fI at hp
    by_cases he : f k = w
    · rw [if_pos he] at hp
      refine w_ifF f181_17 rfl (lg_eq he) ?_
      refine w_I f181_20 rfl ?_
      exact w_ret1 f181_22 hp
    · rw [if_neg he] at hp
      refine w_ifT f181_17 rfl (lg_ne he) ?_
      refine w_incr f181_23 hd ?_
      refine w_go f181_26 rfl ?_
      exact l181_3 hd l0 l1 l2 l3 hn g j (k + 1) (by omega) hp
theorem g_find {L : Nat} {xs : Nat → Int32} {Post : Option Value → iv_H → Prop} {d : Nat} {σ : iv_H} {f : Nat → Int64} {w : Int64} {n : Nat} (hn : n ≤ 7) (g : iv_get σ 562 = some (.inl (1, 13, .inr (.inl f)))) (hp : Post (some (.int (fI f w n 0))) σ) : zGo L xs Post [] d 181 0 (lv_args 0 [.ref 562, .int (Int32.ofNat 0), .int (Int32.ofNat n), .long w]) [] σ := by
  refine w_K f181_0 ?_
  refine w_IS f181_1 ?_
  exact l181_3 rfl rfl rfl rfl rfl hn g n 0 (by omega) hp
