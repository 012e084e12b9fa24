/-! ===== count on both sides ===== -/
set_option maxRecDepth 100000 in
theorem y154_0 : iv_f1 (iv_p 154) 0 = some (.inl (iv_oI 1 1)) := rfl
set_option maxRecDepth 100000 in
theorem y154_1 : iv_f1 (iv_p 154) 1 = some (.inl (iv_oTs 72 0 4 #[35, 43, 51, 59, 67])) := rfl
set_option maxRecDepth 100000 in
theorem y154_36 : iv_f1 (iv_p 154) 36 = some (.inl (iv_oA 0 1)) := rfl
set_option maxRecDepth 100000 in
theorem y154_37 : iv_f1 (iv_p 154) 37 = some (.inl (iv_oGF 11 3)) := rfl
set_option maxRecDepth 100000 in
theorem y154_40 : iv_f1 (iv_p 154) 40 = some (.inl (iv_oGF 3 1)) := rfl
set_option maxRecDepth 100000 in
theorem y154_43 : iv_f1 (iv_p 154) 43 = some (.inr (.inl 1)) := rfl
set_option maxRecDepth 100000 in
theorem y154_44 : iv_f1 (iv_p 154) 44 = some (.inl (iv_oA 0 1)) := rfl
set_option maxRecDepth 100000 in
theorem y154_45 : iv_f1 (iv_p 154) 45 = some (.inl (iv_oGF 11 3)) := rfl
set_option maxRecDepth 100000 in
theorem y154_48 : iv_f1 (iv_p 154) 48 = some (.inl (iv_oGF 3 2)) := rfl
set_option maxRecDepth 100000 in
theorem y154_51 : iv_f1 (iv_p 154) 51 = some (.inr (.inl 1)) := rfl
set_option maxRecDepth 100000 in
theorem y154_52 : iv_f1 (iv_p 154) 52 = some (.inl (iv_oA 0 1)) := rfl
set_option maxRecDepth 100000 in
theorem y154_53 : iv_f1 (iv_p 154) 53 = some (.inl (iv_oGF 11 3)) := rfl
set_option maxRecDepth 100000 in
theorem y154_56 : iv_f1 (iv_p 154) 56 = some (.inl (iv_oGF 3 3)) := rfl
set_option maxRecDepth 100000 in
theorem y154_59 : iv_f1 (iv_p 154) 59 = some (.inr (.inl 1)) := rfl
set_option maxRecDepth 100000 in
theorem y154_60 : iv_f1 (iv_p 154) 60 = some (.inl (iv_oA 0 1)) := rfl
set_option maxRecDepth 100000 in
theorem y154_61 : iv_f1 (iv_p 154) 61 = some (.inl (iv_oGF 11 3)) := rfl
set_option maxRecDepth 100000 in
theorem y154_64 : iv_f1 (iv_p 154) 64 = some (.inl (iv_oGF 3 5)) := rfl
set_option maxRecDepth 100000 in
theorem y154_67 : iv_f1 (iv_p 154) 67 = some (.inr (.inl 1)) := rfl
set_option maxRecDepth 100000 in
theorem y154_68 : iv_f1 (iv_p 154) 68 = some (.inl (iv_oA 0 1)) := rfl
set_option maxRecDepth 100000 in
theorem y154_69 : iv_f1 (iv_p 154) 69 = some (.inl (iv_oGF 11 1)) := rfl
set_option maxRecDepth 100000 in
theorem y154_72 : iv_f1 (iv_p 154) 72 = some (.inr (.inl 1)) := rfl
set_option maxRecDepth 100000 in
theorem y154_73 : iv_f1 (iv_p 154) 73 = some (.inl (iv_oK (.int (Int32.ofInt (-1))) 1)) := rfl
set_option maxRecDepth 100000 in
theorem y154_74 : iv_f1 (iv_p 154) 74 = some (.inr (.inl 1)) := rfl
set_option maxRecDepth 100000 in
theorem y282_0 : iv_f1 (iv_p 282) 0 = some (.inl (iv_oA 0 1)) := rfl
set_option maxRecDepth 100000 in
theorem y282_1 : iv_f1 (iv_p 282) 1 = some (.inl (iv_oK (.int (Int32.ofNat 0)) 1)) := rfl
set_option maxRecDepth 100000 in
theorem y282_2 : iv_f1 (iv_p 282) 2 = some (.inl (iv_oPF 12 0 .int)) := rfl
set_option maxRecDepth 100000 in
theorem y282_5 : iv_f1 (iv_p 282) 5 = some (.inl (iv_oI 1 1)) := rfl
set_option maxRecDepth 100000 in
theorem y282_6 : iv_f1 (iv_p 282) 6 = some (.inl (iv_oTs 67 0 4 #[34, 41, 48, 55, 62])) := rfl
set_option maxRecDepth 100000 in
theorem y282_40 : iv_f1 (iv_p 282) 40 = some (.inl (iv_oA 0 1)) := rfl
set_option maxRecDepth 100000 in
theorem y282_41 : iv_f1 (iv_p 282) 41 = some (.inl (iv_oGF 12 14)) := rfl
set_option maxRecDepth 100000 in
theorem y282_44 : iv_f1 (iv_p 282) 44 = some (.inl (iv_oK (.int (Int32.ofNat 0)) 1)) := rfl
set_option maxRecDepth 100000 in
theorem y282_45 : iv_f1 (iv_p 282) 45 = some (.inl iv_oIl) := rfl
set_option maxRecDepth 100000 in
theorem y282_46 : iv_f1 (iv_p 282) 46 = some (.inr (.inl 1)) := rfl
set_option maxRecDepth 100000 in
theorem y282_47 : iv_f1 (iv_p 282) 47 = some (.inl (iv_oA 0 1)) := rfl
set_option maxRecDepth 100000 in
theorem y282_48 : iv_f1 (iv_p 282) 48 = some (.inl (iv_oGF 12 14)) := rfl
set_option maxRecDepth 100000 in
theorem y282_51 : iv_f1 (iv_p 282) 51 = some (.inl (iv_oK (.int (Int32.ofNat 1)) 1)) := rfl
set_option maxRecDepth 100000 in
theorem y282_52 : iv_f1 (iv_p 282) 52 = some (.inl iv_oIl) := rfl
set_option maxRecDepth 100000 in
theorem y282_53 : iv_f1 (iv_p 282) 53 = some (.inr (.inl 1)) := rfl
set_option maxRecDepth 100000 in
theorem y282_54 : iv_f1 (iv_p 282) 54 = some (.inl (iv_oA 0 1)) := rfl
set_option maxRecDepth 100000 in
theorem y282_55 : iv_f1 (iv_p 282) 55 = some (.inl (iv_oGF 12 14)) := rfl
set_option maxRecDepth 100000 in
theorem y282_58 : iv_f1 (iv_p 282) 58 = some (.inl (iv_oK (.int (Int32.ofNat 2)) 1)) := rfl
set_option maxRecDepth 100000 in
theorem y282_59 : iv_f1 (iv_p 282) 59 = some (.inl iv_oIl) := rfl
set_option maxRecDepth 100000 in
theorem y282_60 : iv_f1 (iv_p 282) 60 = some (.inr (.inl 1)) := rfl
set_option maxRecDepth 100000 in
theorem y282_61 : iv_f1 (iv_p 282) 61 = some (.inl (iv_oA 0 1)) := rfl
set_option maxRecDepth 100000 in
theorem y282_62 : iv_f1 (iv_p 282) 62 = some (.inl (iv_oGF 12 14)) := rfl
set_option maxRecDepth 100000 in
theorem y282_65 : iv_f1 (iv_p 282) 65 = some (.inl (iv_oK (.int (Int32.ofNat 4)) 1)) := rfl
set_option maxRecDepth 100000 in
theorem y282_66 : iv_f1 (iv_p 282) 66 = some (.inl iv_oIl) := rfl
set_option maxRecDepth 100000 in
theorem y282_67 : iv_f1 (iv_p 282) 67 = some (.inr (.inl 1)) := rfl
set_option maxRecDepth 100000 in
theorem y282_68 : iv_f1 (iv_p 282) 68 = some (.inl (iv_oA 0 1)) := rfl
set_option maxRecDepth 100000 in
theorem y282_69 : iv_f1 (iv_p 282) 69 = some (.inl (iv_oGF 12 2)) := rfl
set_option maxRecDepth 100000 in
theorem y282_72 : iv_f1 (iv_p 282) 72 = some (.inr (.inl 1)) := rfl
set_option maxRecDepth 100000 in
theorem y282_73 : iv_f1 (iv_p 282) 73 = some (.inl (iv_oK (.int (Int32.ofInt (-1))) 1)) := rfl
set_option maxRecDepth 100000 in
theorem y282_74 : iv_f1 (iv_p 282) 74 = some (.inr (.inl 1)) := rfl
section CNT
variable {L : Nat} {xs : Nat → Int32} {Post : Option Value → iv_H → Prop} {d M pc : Nat} {lv : iv_L} {st : List Value} {σ : iv_H}
theorem w_tsd {df lo hi : Int} {offs : Array Int} {x : Int32} {t : Nat} (hf : iv_f1 (iv_p M) pc = some (.inl (iv_oTs df lo hi offs))) (hx : x.toInt < lo ∨ hi < x.toInt) (ht : iv_tgt pc df = some t) (k : zGo L xs Post [] d M t lv st σ) : zGo L xs Post [] d M pc lv (.int x :: st) σ := zGo_s hf (by
  have e : (decide (x.toInt < lo) || decide (hi < x.toInt)) = true := by
    rw [Bool.or_eq_true, decide_eq_true_eq, decide_eq_true_eq]
    exact hx
  simp only [iv_oTs, e, cond_true, iv_go, ht]) k
theorem w_tsk {df lo hi off : Int} {offs : Array Int} {x : Int32} {t : Nat} (hf : iv_f1 (iv_p M) pc = some (.inl (iv_oTs df lo hi offs))) (h1 : ¬ x.toInt < lo) (h2 : ¬ hi < x.toInt) (he : iv_nth offs.toList (x.toInt - lo).toNat = some off) (ht : iv_tgt pc off = some t) (k : zGo L xs Post [] d M t lv st σ) : zGo L xs Post [] d M pc lv (.int x :: st) σ := zGo_s hf (by
  have e : (decide (x.toInt < lo) || decide (hi < x.toInt)) = false := by
    rw [decide_eq_false h1, decide_eq_false h2]
    rfl
  simp only [iv_oTs, e, cond_false, he, iv_go, ht]) k
theorem y_RpE {v : Value} (h : zGo L xs (fun r _ => r = some v) [] d M pc lv st σ) : ∃ σ1, iv_Rn L xs d M pc lv st σ (some v) σ1 := by
  obtain ⟨r, σ1, h1, h2⟩ := h
  have h3 : r = some v := h2
  subst h3
  exact ⟨σ1, h1⟩
end CNT
def cF (σ : iv_H) : Nat → Option Value
  | 0 => oF σ 4 1
  | 1 => oF σ 4 2
  | 2 => oF σ 4 3
  | 3 => oF σ 4 5
  | _ => fB σ
def mFn (σ : iv_H) : Nat → Option Value
  | 0 => some (.int (mA σ 552 0))
  | 1 => some (.int (mA σ 552 1))
  | 2 => some (.int (mA σ 552 2))
  | 3 => some (.int (mA σ 552 4))
  | _ => fT σ
def cntP (a v : Int32) (F : Nat → Option Value) : Prop := ((a.toInt < 0 ∨ 4 < a.toInt) ∧ v = Int32.ofInt (-1)) ∨ ∃ k : Nat, k ≤ 4 ∧ a = Int32.ofNat k ∧ F k = some (.int v)
theorem n5 {k : Nat} (h : k ≤ 4) : k = 0 ∨ k = 1 ∨ k = 2 ∨ k = 3 ∨ k = 4 := by omega
theorem yc_cnt {L : Nat} {xs : Nat → Int32} {d : Nat} {σ : iv_H} (a : Int32) (hI : zI z_τ z_ty σ) (hF : FX σ) : ∃ v, iv_Rn L xs d 154 0 (lv_args 0 [.ref 0, .int a]) [] σ (some (.int v)) σ ∧ cntP a v (cF σ) := by
  obtain ⟨G, g0, oG⟩ := yo_of hI (a := 0) (t := 21) (n := 20) rfl rfl rfl
  have c3 := yFX_v hF oG (by decide : (0, 11, 3, 4) ∈ yFX)
  obtain ⟨E, g4, _⟩ := yo_of hI (a := 4) (t := 13) (n := 16) rfl rfl rfl
  obtain ⟨x1, e1⟩ := yz_int hI (a := 4) (j := 1) g4 rfl rfl (by decide)
  obtain ⟨x2, e2⟩ := yz_int hI (a := 4) (j := 2) g4 rfl rfl (by decide)
  obtain ⟨x3, e3⟩ := yz_int hI (a := 4) (j := 3) g4 rfl rfl (by decide)
  obtain ⟨x5, e5⟩ := yz_int hI (a := 4) (j := 5) g4 rfl rfl (by decide)
  obtain ⟨xb, eb⟩ := yz_int hI (a := 0) (j := 1) g0 rfl rfl (by decide)
  by_cases h : a.toInt < 0 ∨ 4 < a.toInt
  · refine ⟨Int32.ofInt (-1), y_Rp ?_, .inl ⟨h, rfl⟩⟩
    refine w_I y154_0 rfl ?_
    refine w_tsd y154_1 h rfl ?_
    refine w_K y154_73 ?_
    exact y_ret y154_74 rfl ⟨rfl, rfl⟩
  · obtain ⟨k, rfl, ek⟩ := i32_nat (x := a) (by omega)
    rcases n5 (k := k) (by omega) with rfl | rfl | rfl | rfl | rfl
    · refine ⟨x1, y_Rp ?_, .inr ⟨0, by decide, rfl, ?_⟩⟩
      · refine w_I y154_0 rfl ?_
        refine w_tsk y154_1 (by decide) (by decide) rfl rfl ?_
        refine w_A y154_36 rfl ?_
        refine y_gf y154_37 g0 rfl c3 ?_
        refine y_gf y154_40 g4 rfl e1 ?_
        exact y_ret y154_43 rfl ⟨rfl, rfl⟩
      · exact (oI_of g4 (by decide)).trans (by rw [e1])
    · refine ⟨x2, y_Rp ?_, .inr ⟨1, by decide, rfl, ?_⟩⟩
      · refine w_I y154_0 rfl ?_
        refine w_tsk y154_1 (by decide) (by decide) rfl rfl ?_
        refine w_A y154_44 rfl ?_
        refine y_gf y154_45 g0 rfl c3 ?_
        refine y_gf y154_48 g4 rfl e2 ?_
        exact y_ret y154_51 rfl ⟨rfl, rfl⟩
      · exact (oI_of g4 (by decide)).trans (by rw [e2])
    · refine ⟨x3, y_Rp ?_, .inr ⟨2, by decide, rfl, ?_⟩⟩
      · refine w_I y154_0 rfl ?_
        refine w_tsk y154_1 (by decide) (by decide) rfl rfl ?_
        refine w_A y154_52 rfl ?_
        refine y_gf y154_53 g0 rfl c3 ?_
        refine y_gf y154_56 g4 rfl e3 ?_
        exact y_ret y154_59 rfl ⟨rfl, rfl⟩
      · exact (oI_of g4 (by decide)).trans (by rw [e3])
    · refine ⟨x5, y_Rp ?_, .inr ⟨3, by decide, rfl, ?_⟩⟩
      · refine w_I y154_0 rfl ?_
        refine w_tsk y154_1 (by decide) (by decide) rfl rfl ?_
        refine w_A y154_60 rfl ?_
        refine y_gf y154_61 g0 rfl c3 ?_
        refine y_gf y154_64 g4 rfl e5 ?_
        exact y_ret y154_67 rfl ⟨rfl, rfl⟩
      · exact (oI_of g4 (by decide)).trans (by rw [e5])
    · refine ⟨xb, y_Rp ?_, .inr ⟨4, by decide, rfl, ?_⟩⟩
      · refine w_I y154_0 rfl ?_
        refine w_tsk y154_1 (by decide) (by decide) rfl rfl ?_
        refine w_A y154_68 rfl ?_
        refine y_gf y154_69 g0 rfl eb ?_
        exact y_ret y154_72 rfl ⟨rfl, rfl⟩
      · exact (fB_of (show iv_get σ 0 = some (.inr (11, (List.range 20).map G)) from g0)).trans (by rw [y_nthV (by decide), eb])
theorem ym_cnt {L : Nat} {xs : Nat → Int32} {d : Nat} {σ : iv_H} (a : Int32) (hI : zI m_τ m_ty σ) : ∃ v, (∃ σ1, iv_Rn L xs d 282 0 (lv_args 0 [.ref 548, .int a]) [] σ (some (.int v)) σ1) ∧ cntP a v (mFn σ) := by
  obtain ⟨fs, g, mo, _⟩ := mO_of hI
  obtain ⟨V, efs, hV⟩ := y_V (fs := fs) (n := 49) mo.1
  have g0 : iv_get σ 548 = some (yob 12 49 V) := by rw [g, efs]; rfl
  have mo2 : mO ((List.range 49).map V) := by rw [← efs]; exact mo
  have v14 : V 14 = .ref 552 := by
    obtain ⟨_, _, h14, _⟩ := mo2
    rw [y_nthV (by decide)] at h14
    simp only [Option.some.injEq] at h14
    exact h14
  obtain ⟨N, gN, _⟩ := zI_ia hI (a := 552) (t := 74) rfl rfl
  obtain ⟨fsT, gT, hlT, hfT⟩ := zI_obj hI (a := 548) (t := 22) rfl rfl
  rw [g] at gT
  cases gT
  obtain ⟨qz, hqz⟩ := iv_nth_some (l := fs) (n := 2) (by rw [mo.1]; decide)
  obtain ⟨z, rfl, _⟩ := (show ∃ y : Int32, qz = .int y ∧ _ from hfT 2 _ _ rfl hqz)
  have v2 : V 2 = .int z := hV 2 _ hqz
  have hy : fT σ = some (.int z) := by rw [fT_of g]; exact hqz
  by_cases h : a.toInt < 0 ∨ 4 < a.toInt
  · refine ⟨Int32.ofInt (-1), y_RpE ?_, .inl ⟨h, rfl⟩⟩
    refine w_A y282_0 rfl ?_
    refine w_K y282_1 ?_
    refine y_pf y282_2 g0 rfl rfl ?_
    intro σ1 m1
    refine w_I y282_5 rfl ?_
    refine w_tsd y282_6 h rfl ?_
    refine w_K y282_73 ?_
    exact y_ret y282_74 rfl rfl
  · obtain ⟨k, rfl, ek⟩ := i32_nat (x := a) (by omega)
    rcases n5 (k := k) (by omega) with rfl | rfl | rfl | rfl | rfl
    · refine ⟨N 0, y_RpE ?_, .inr ⟨0, by decide, rfl, by show some (Value.int (mA σ 552 0)) = _; rw [hA_of gN]⟩⟩
      refine w_A y282_0 rfl ?_
      refine w_K y282_1 ?_
      refine y_pf y282_2 g0 rfl rfl ?_
      intro σ1 m1
      refine w_I y282_5 rfl ?_
      refine w_tsk y282_6 (by decide) (by decide) rfl rfl ?_
      refine w_A y282_40 rfl ?_
      refine y_gf y282_41 m1.2.1 rfl v14 ?_
      refine w_K y282_44 ?_
      refine y_il y282_45 (mD_n m1 (by decide) (show iv_get σ 552 = some (yai 374 N) from gN)) rfl rfl (by decide) (by decide) ?_
      exact y_ret y282_46 rfl rfl
    · refine ⟨N 1, y_RpE ?_, .inr ⟨1, by decide, rfl, by show some (Value.int (mA σ 552 1)) = _; rw [hA_of gN]⟩⟩
      refine w_A y282_0 rfl ?_
      refine w_K y282_1 ?_
      refine y_pf y282_2 g0 rfl rfl ?_
      intro σ1 m1
      refine w_I y282_5 rfl ?_
      refine w_tsk y282_6 (by decide) (by decide) rfl rfl ?_
      refine w_A y282_47 rfl ?_
      refine y_gf y282_48 m1.2.1 rfl v14 ?_
      refine w_K y282_51 ?_
      refine y_il y282_52 (mD_n m1 (by decide) (show iv_get σ 552 = some (yai 374 N) from gN)) rfl rfl (by decide) (by decide) ?_
      exact y_ret y282_53 rfl rfl
    · refine ⟨N 2, y_RpE ?_, .inr ⟨2, by decide, rfl, by show some (Value.int (mA σ 552 2)) = _; rw [hA_of gN]⟩⟩
      refine w_A y282_0 rfl ?_
      refine w_K y282_1 ?_
      refine y_pf y282_2 g0 rfl rfl ?_
      intro σ1 m1
      refine w_I y282_5 rfl ?_
      refine w_tsk y282_6 (by decide) (by decide) rfl rfl ?_
      refine w_A y282_54 rfl ?_
      refine y_gf y282_55 m1.2.1 rfl v14 ?_
      refine w_K y282_58 ?_
      refine y_il y282_59 (mD_n m1 (by decide) (show iv_get σ 552 = some (yai 374 N) from gN)) rfl rfl (by decide) (by decide) ?_
      exact y_ret y282_60 rfl rfl
    · refine ⟨N 4, y_RpE ?_, .inr ⟨3, by decide, rfl, by show some (Value.int (mA σ 552 4)) = _; rw [hA_of gN]⟩⟩
      refine w_A y282_0 rfl ?_
      refine w_K y282_1 ?_
      refine y_pf y282_2 g0 rfl rfl ?_
      intro σ1 m1
      refine w_I y282_5 rfl ?_
      refine w_tsk y282_6 (by decide) (by decide) rfl rfl ?_
      refine w_A y282_61 rfl ?_
      refine y_gf y282_62 m1.2.1 rfl v14 ?_
      refine w_K y282_65 ?_
      refine y_il y282_66 (mD_n m1 (by decide) (show iv_get σ 552 = some (yai 374 N) from gN)) rfl rfl (by decide) (by decide) ?_
      exact y_ret y282_67 rfl rfl
    · refine ⟨z, y_RpE ?_, .inr ⟨4, by decide, rfl, hy⟩⟩
      refine w_A y282_0 rfl ?_
      refine w_K y282_1 ?_
      refine y_pf y282_2 g0 rfl rfl ?_
      intro σ1 m1
      refine w_I y282_5 rfl ?_
      refine w_tsk y282_6 (by decide) (by decide) rfl rfl ?_
      refine w_A y282_68 rfl ?_
      refine y_gf y282_69 m1.2.1 rfl v2 ?_
      exact y_ret y282_72 rfl rfl
theorem n5i {k k2 : Nat} (h1 : k ≤ 4) (h2 : k2 ≤ 4) (h : Int32.ofNat k = Int32.ofNat k2) : k = k2 := by
  have e := congrArg Int32.toInt h
  rw [Int32.toInt_ofNat_of_lt (by omega), Int32.toInt_ofNat_of_lt (by omega)] at e
  omega
theorem n5r {k : Nat} (h : k ≤ 4) : 0 ≤ (Int32.ofNat k).toInt ∧ (Int32.ofNat k).toInt ≤ 4 := by
  rw [Int32.toInt_ofNat_of_lt (by omega)]
  omega
theorem cnt_same {L : Nat} {xs : Nat → Int32} {d : Nat} {a x v w : Int32} {σ σ1 σ2 : iv_H} (hI : Inv x x σ) (hR : iv_Rn L xs d 154 0 (lv_args 0 [.ref 0, .int a]) [] σ (some (.int v)) σ1) (hR2 : iv_Rn L xs d 282 0 (lv_args 0 [.ref 548, .int a]) [] σ1 (some (.int w)) σ2) : v = w := by
  obtain ⟨v2, R1, p1⟩ := yc_cnt (L := L) (xs := xs) (d := d) a hI.1.1 hI.2.2.2.2.2.2.1
  obtain ⟨e1, rfl⟩ := y_det hR R1
  obtain ⟨w2, ⟨σ3, R2⟩, p2⟩ := ym_cnt (L := L) (xs := xs) (d := d) a hI.2.1.1
  obtain ⟨e2, _⟩ := y_det hR2 R2
  simp only [Option.some.injEq, Value.int.injEq] at e1 e2
  subst e1
  subst e2
  obtain ⟨⟨⟨f1, f2, f3, f5⟩, _⟩, _⟩ := hI.2.2.2.2.2.2.2.2.2
  rcases p1 with ⟨h1, rfl⟩ | ⟨k, hk, rfl, q1⟩ <;> rcases p2 with ⟨h2, rfl⟩ | ⟨k2, hk2, hv, q2⟩
  · rfl
  · subst hv
    have := n5r hk2
    omega
  · have := n5r hk
    omega
  · obtain rfl := n5i hk hk2 hv
    have key : cF σ1 k = mFn σ1 k := by
      rcases n5 hk with rfl | rfl | rfl | rfl | rfl
      · exact f1
      · exact f2
      · exact f3
      · exact f5
      · exact hI.2.2.1.1.trans hI.2.2.1.2.symm
    rw [key, q2] at q1
    simp only [Option.some.injEq, Value.int.injEq] at q1
    exact q1.symm
