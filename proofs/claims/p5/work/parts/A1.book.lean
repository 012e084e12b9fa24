/-! ===== the reference: a book's line, what is named is found twice ===== -/
theorem w_find {L : Nat} {xs : Nat → Int32} {Post : Option Value → iv_H → Prop} {d pc : Nat} {lv : iv_L} {st : List Value} {σ : iv_H} {fs : List Value} {N : Nat → Int32} {Nm : Nat → Int64} {w : Int64} {n : Nat} {q1 q2 q3 q4 q5 q6 q7 q8 : Nat} (e1 : q1 = pc) (e2 : q2 = pc + 1) (e3 : q3 = pc + 4) (e4 : q4 = pc + 5) (e5 : q5 = pc + 6) (e6 : q6 = pc + 9) (e7 : q7 = pc + 10) (e8 : q8 = pc + 11) (f1 : iv_f1 (iv_p 264) pc = some (.inl (iv_oA 0 1))) (f2 : iv_f1 (iv_p 264) (pc + 1) = some (.inl (iv_oGF 12 19))) (f3 : iv_f1 (iv_p 264) (pc + 4) = some (.inl (iv_oK (.int (Int32.ofNat 0)) 1))) (f4 : iv_f1 (iv_p 264) (pc + 5) = some (.inl (iv_oA 0 1))) (f5 : iv_f1 (iv_p 264) (pc + 6) = some (.inl (iv_oGF 12 14))) (f6 : iv_f1 (iv_p 264) (pc + 9) = some (.inl (iv_oK (.int (Int32.ofNat 0)) 1))) (f7 : iv_f1 (iv_p 264) (pc + 10) = some (.inl iv_oIl)) (f8 : iv_f1 (iv_p 264) (pc + 11) = some (.inl (iv_oA 0 1))) (f9 : iv_f1 (iv_p 264) (pc + 12) = some (.inl (iv_oGF 12 12))) (f10 : iv_f1 (iv_p 264) (pc + 15) = some (.inr (.inr (4, 181, 4, 0)))) (hst : Nat.ble (iv_cs st) 8 = true) (l0 : iv_f1 lv 0 = some (.ref 548)) (ho : iv_get σ 548 = some (.inr (12, fs))) (mo : mO fs) (e12 : iv_nth fs 12 = some (.long w)) (gN : iv_get σ 552 = some (.inl (0, 374, .inl N))) (hN : N 0 = Int32.ofNat n) (hn : n ≤ 7) (gM : iv_get σ 562 = some (.inl (1, 13, .inr (.inl Nm)))) (k : zGo L xs Post [] (d + 1) 264 (pc + 18) lv (.int (fI Nm w n 0) :: st) σ) : zGo L xs Post [] (d + 1) 264 pc lv st σ := by
  refine w_A f1 l0 ?_
  refine w_gf f2 ho mo.2.2.2.2.2.2.2.1 ?_
  refine w_K f3 ?_
  refine w_A f4 l0 ?_
  refine w_gf f5 ho mo.2.2.1 ?_
  refine w_K f6 ?_
  refine w_il (i := 0) f7 gN rfl rfl (by decide) (by decide) ?_
  refine w_A f8 l0 ?_
  refine w_gf f9 ho e12 ?_
  rw [hN]
  refine w_call f10 (as := [.ref 562, .int (Int32.ofNat 0), .int (Int32.ofNat n), .long w]) (rest := st) (by
    simp only [iv_args, iv_pop, show Nat.beq 4 4 = true from rfl, cond_true, hst]) rfl ?_
  exact g_find hn gM k
theorem cond_some {α : Type} {c : Bool} {x : Option α} {y : α} (h : (bif c then x else none) = some y) : c = true ∧ x = some y := by
  cases c
  · cases h
  · exact ⟨rfl, h⟩
theorem m_find_ok : zM1_ok m_τ m_ty (mJ (fun σ => pL σ ∧ hT σ)) 264 35 ([(1, 91, 0)], 20, m_find) := by
  intro L xs ρ A clv cst σ outs d hd hg hA hI hJ
  have hd : 20 ≤ d := hd
  obtain ⟨d', rfl⟩ : ∃ d', d = d' + 1 := ⟨d - 1, by omega⟩
  have hg : m_find A = some outs := hg
  unfold m_find at hg
  split at hg
  · rename_i m o a b hst hm ho0 ha hb
    · obtain ⟨hc, hg⟩ := cond_some hg
      simp only [Option.some.injEq] at hg
      simp only [Bool.and_eq_true] at hc
      obtain ⟨⟨⟨c1, c2⟩, c3, c4, c5⟩, c6⟩ := hc
      have hcst : cst = [] := by
        have h1 := hA.2.2.1
        rw [hst] at h1
        cases cst with
        | nil => rfl
        | cons x c => exact h1.elim
      subst hcst
      obtain ⟨x0, l0, k0⟩ := zlv_at hA.2.1 ho0
      obtain ⟨x1, l1, k1⟩ := zlv_at hA.2.1 ha
      obtain ⟨x2, l2, k2⟩ := zlv_at hA.2.1 hb
      obtain ⟨y1, rfl, ey1⟩ := zdn0 k1.2 (Nat.eq_of_beq_eq_true c3)
      obtain ⟨y2, rfl, ey2⟩ := zdn0 k2.2 (Nat.eq_of_beq_eq_true c4)
      have m1 := m_in_ok hA.1 k1.1 c1
      have m2 := m_in_ok hA.1 k2.1 c2
      have z1 : y1 = Int32.ofNat 0 := Int32.toInt_inj.mp (by show y1.toInt = 0; omega)
      have z2 : y2 = Int32.ofNat 0 := Int32.toInt_inj.mp (by show y2.toInt = 0; omega)
      subst z1
      subst z2
      have hto : x0 = .ref 548 ∧ (548 : Int) = zv_ev ρ o := by
        split at c6
        · rename_i t ht
          rw [Nat.eq_of_beq_eq_true c6] at ht
          obtain ⟨aa, e1, e2, e3⟩ := zty_ok hA.1.1 k0 ht
          have e4 := m_uo e3
          subst e4
          exact ⟨e1, e2⟩
        · cases c6
      obtain ⟨rfl, eo⟩ := hto
      obtain ⟨lm1, lm2⟩ := m_lm_ok hA hI hm
      obtain ⟨fs, ho, mo, _, _, ⟨lx, e42, lx1, lx2⟩, w, e12⟩ := mO_of hI
      obtain ⟨ln, rfl, eln⟩ := i32_nat lx1
      have hlm : mF σ 42 = ln := (hF_of ho e42).trans eln.symm
      obtain ⟨N, gN, zN⟩ := m_iaN hI
      obtain ⟨Nm, gM⟩ := m_name hI
      obtain ⟨⟨b1, b2⟩, _⟩ := m_N hI
      rw [hA_of gN] at b1 b2
      obtain ⟨n, hN, hn⟩ := i32_nat b1
      obtain ⟨Ln, gL, zL⟩ : ∃ f, iv_get σ 586 = some (.inl (0, 160, .inl f)) ∧ ∀ i, i < 160 → zseg (m_sg 91) i (f i).toInt := zI_ia hI (a := 586) (t := 91) rfl rfl
      have go1 : ∀ {Post : Option Value → iv_H → Prop}, zGo L xs Post [] (d' + 1) 264 53 clv [.int (fI Nm w n 0)] σ → zGo L xs Post [] (d' + 1) 264 35 clv [] σ := fun k => w_find rfl rfl rfl rfl rfl rfl rfl rfl f264_35 f264_36 f264_39 f264_40 f264_41 f264_44 f264_45 f264_46 f264_47 f264_50 rfl l0 ho mo e12 gN hN (by omega) gM k
      have toR : ∀ {pc' : Nat} {clv' : iv_L} {cst' : List Value} {σ' : iv_H}, (∀ {Post : Option Value → iv_H → Prop}, zGo L xs Post [] (d' + 1) 264 pc' clv' cst' σ' → zGo L xs Post [] (d' + 1) 264 35 clv [] σ) → ∀ r σ'', iv_Rn L xs (d' + 1) 264 pc' clv' cst' σ' r σ'' → iv_Rn L xs (d' + 1) 264 35 clv [] σ r σ'' := fun h r σ'' hr => by
        obtain ⟨r2, σ2, g1, rfl, rfl⟩ := h (Post := fun r' σ3 => r' = r ∧ σ3 = σ'') ⟨r, σ'', hr, rfl, rfl⟩
        exact g1
      rcases fI_c (f := Nm) (w := w) n 0 with hf | ⟨j, j1, j2, hf⟩
      · refine ⟨57, clv, [], σ, A, ρ, toR (fun k => go1 ?_), by rw [← hg]; exact List.mem_cons_self, hA, hI, hJ, zag_rf, Nat.le_refl _, zFr_rf⟩
        rw [hf]
        refine w_K f264_53 ?_
        exact w_icF f264_54 rfl rfl k
      · have hne : iv_c2 .ne (Int32.ofNat j) (-1) = true := zch_32.mpr (by
          have e1 := i32_ev (n := j) (by omega)
          have e2 : (-1 : Int32).toInt = -1 := rfl
          show ¬ (Int32.ofNat j).toInt = (-1 : Int32).toInt
          omega)
        have go2 : ∀ {Post : Option Value → iv_H → Prop}, zGo L xs Post [] (d' + 1) 264 69 clv [.int (Int32.ofNat 40), .int (Int32.ofNat ln)] σ → zGo L xs Post [] (d' + 1) 264 35 clv [] σ := fun k => go1 (by
          rw [hf]
          refine w_K f264_53 ?_
          refine w_icT f264_54 rfl hne ?_
          refine w_A f264_63 l0 ?_
          refine w_gf f264_64 ho e42 ?_
          exact w_K f264_67 k)
        by_cases h40 : ln = 40
        · subst h40
          exact ⟨72, clv, [], σ, A, ρ, toR (fun k => go2 (w_icF f264_69 rfl rfl k)), by rw [← hg]; exact List.mem_cons_of_mem _ List.mem_cons_self, hA, hI, hJ, zag_rf, Nat.le_refl _, zFr_rf⟩
        · have h2 := mD_put2 (e2 := .inl (0, 160, .inl (upd Ln (4 * ln) (Int32.ofNat 5)))) gL
          have ho2 := mD_n h2 (by decide) ho
          have gN2 := mD_n h2 (by decide) gN
          have gM2 := mD_n h2 (by decide) gM
          have l03 : iv_f1 ((3, Value.int (Int32.ofNat (4 * ln))) :: iv_d1 3 clv) 0 = some (.ref 548) := lv_d l0 (by decide)
          have l13 : iv_f1 ((3, Value.int (Int32.ofNat (4 * ln))) :: iv_d1 3 clv) 1 = some (.int (Int32.ofNat 0)) := lv_di l1 (by decide)
          have l23 : iv_f1 ((3, Value.int (Int32.ofNat (4 * ln))) :: iv_d1 3 clv) 2 = some (.int (Int32.ofNat 0)) := lv_di l2 (by decide)
          have hrun : ∀ {Post : Option Value → iv_H → Prop}, zGo L xs Post [] (d' + 1) 264 137 ((3, Value.int (Int32.ofNat (4 * ln))) :: iv_d1 3 clv) [.int (Int32.ofNat j), .int (Int32.ofNat (4 * ln + 1)), .ref 586] (iv_put σ 586 (.inl (0, 160, .inl (upd Ln (4 * ln) (Int32.ofNat 5))))) → zGo L xs Post [] (d' + 1) 264 35 clv [] σ := fun k => go2 (by
            refine w_icT f264_69 rfl (c_neT h40 (by omega) (by decide)) ?_
            refine w_K f264_78 ?_
            refine w_A f264_79 l0 ?_
            refine w_gf f264_80 ho e42 ?_
            refine w_mul f264_83 ?_
            refine w_IS f264_84 ?_
            refine w_A f264_85 l03 ?_
            refine w_gf f264_86 ho mo.2.2.2.2.2.2.2.2.2.2.2.2.2.2.2.1 ?_
            refine w_I f264_89 rfl ?_
            refine w_I f264_90 l13 ?_
            refine w_ifT f264_91 rfl rfl ?_
            refine w_K f264_98 ?_
            refine w_ist f264_99 gL (by omega) (by decide) ?_
            refine w_A f264_100 l03 ?_
            refine w_gf f264_101 ho2 mo.2.2.2.2.2.2.2.2.2.2.2.2.2.2.2.1 ?_
            refine w_I f264_104 rfl ?_
            refine w_K f264_105 ?_
            refine w_add f264_106 ?_
            refine w_I f264_107 l13 ?_
            refine w_ifF f264_108 rfl rfl ?_
            refine w_I f264_111 l23 ?_
            refine w_ifT f264_112 rfl rfl ?_
            refine w_find rfl rfl rfl rfl rfl rfl rfl rfl f264_119 f264_120 f264_123 f264_124 f264_125 f264_128 f264_129 f264_130 f264_131 f264_134 rfl l03 ho2 mo e12 gN2 hN (by omega) gM2 ?_
            rw [hf]
            exact k)
          have c93 : ((93, 0, 1000) : zc).2.1 ≤ (586 : Int) ∧ (586 : Int) ≤ ((93, 0, 1000) : zc).2.2 ∧ (2 ≤ ((93, 0, 1000) : zc).1 → 0 ≤ (586 : Int) ∧ m_τ (586 : Int).toNat = ((93, 0, 1000) : zc).1 - 2) := ⟨by decide, by decide, fun _ => ⟨by decide, rfl⟩⟩
          have hA1 := zfr_ok (c := (93, 0, 1000)) (x := 586) (ds := []) hA c93 (fun d hd => by cases hd)
          have ej := i32_ev (n := j) (by omega)
          have hA2 := zfr_ok (c := (0, 0, 6)) (x := (j : Int)) (ds := []) hA1 ⟨by show (0 : Int) ≤ j; omega, by show (j : Int) ≤ 6; omega, fun h9 => by have h9 : 2 ≤ 0 := h9; omega⟩ (fun d hd => by cases hd)
          have el1 : (zfr A (93, 0, 1000) []).1.1.length = A.1.1.length + 1 := by show (A.1.1 ++ [((93, 0, 1000) : zc)]).length = _; simp
          rw [el1] at hA2
          have eE : zfr (zfr A (93, 0, 1000) []) (0, 0, 6) [] = ((A.1.1 ++ [(93, 0, 1000), (0, 0, 6)], A.1.2), A.2) := by
            show (((A.1.1 ++ [((93, 0, 1000) : zc)]) ++ [((0, 0, 6) : zc)], A.1.2), A.2) = _
            rw [List.append_assoc]
            rfl
          rw [eE] at hA2
          have hlen : (A.1.1 ++ [((93, 0, 1000) : zc), (0, 0, 6)]).length = A.1.1.length + 2 := by simp
          have agr : zag A.1.1.length ρ (zup (zup ρ A.1.1.length 586) (A.1.1.length + 1) (j : Int)) := zag_tr zup_ag (zup_ag (n := A.1.1.length + 1)) (by omega)
          have em : zv_ev (zup (zup ρ A.1.1.length 586) (A.1.1.length + 1) (j : Int)) m = ln := by
            rw [zv_ag agr lm2, ← lm1, hlm]
          obtain ⟨B, B1, B2, B3, B4⟩ := zasL_ok (fs := [zlf m (0, 39, []) 0]) hA2 (fun f hf2 => by
            rw [List.mem_singleton.mp hf2]
            exact m_c0 (zl_wf_le (by show A.1.1.length ≤ (A.1.1 ++ [((93, 0, 1000) : zc), (0, 0, 6)]).length; omega) lm2) (by rw [em]; omega))
          have B3 : B.1.1.length = A.1.1.length + 2 := by rw [B3]; exact hlen
          have r0 : zup (zup ρ A.1.1.length 586) (A.1.1.length + 1) (j : Int) A.1.1.length = 586 := by
            show (if A.1.1.length = A.1.1.length + 1 then _ else _) = _
            rw [if_neg (by omega), zup_s]
          have wm : zl_wf B.1.1.length (zl_cm 4 [] m.2.2) = true := zl_cm_wf rfl (zl_wf_le (by omega) lm2)
          have ev4 : ∀ c : Int, zv_ev (zup (zup ρ A.1.1.length 586) (A.1.1.length + 1) (j : Int)) (0, 4 * m.2.1 + c, zl_cm 4 [] m.2.2) = 4 * ln + c := fun c => by
            show 4 * m.2.1 + c + zl_ev _ (zl_cm 4 [] m.2.2) = _
            rw [zl_cm_ev]
            have : zv_ev (zup (zup ρ A.1.1.length 586) (A.1.1.length + 1) (j : Int)) m = m.2.1 + zl_ev (zup (zup ρ A.1.1.length 586) (A.1.1.length + 1) (j : Int)) m.2.2 := rfl
            show 4 * m.2.1 + c + (0 + 4 * zl_ev (zup (zup ρ A.1.1.length 586) (A.1.1.length + 1) (j : Int)) m.2.2) = _
            omega
          have ev40 := ev4 0
          simp only [Int.add_zero] at ev40
          have e4 := i32_ev (n := 4 * ln) (by omega)
          have e41 := i32_ev (n := 4 * ln + 1) (by omega)
          refine ⟨137, _, _, _, (B.1, (3, (0, 4 * m.2.1, zl_cm 4 [] m.2.2)) :: zdl 3 3 B.2.1, [(0, 0, [(A.1.1.length + 1, 1)]), (0, 4 * m.2.1 + 1, zl_cm 4 [] m.2.2), (2, 0, [(A.1.1.length, 1)])], (o, 12, 40, (2, 0, [(A.1.1.length, 1)])) :: B.2.2.2.1, ((2, 0, [(A.1.1.length, 1)]), (0, 4 * m.2.1, zl_cm 4 [] m.2.2), (0, 5, [])) :: zcy B.1.1 91 B.2.2.2.2), _, toR hrun, ?_, ?_, ?_, ?_, agr, by show A.1.1.length ≤ B.1.1.length; omega, mD_zFr gL h2 rfl⟩
          · rw [← hg, B1]
            exact List.mem_cons_of_mem _ (List.mem_cons_of_mem _ List.mem_cons_self)
          · have w0 : zl_wf B.1.1.length [(A.1.1.length, (1 : Int))] = true := zl_wf_c.mpr ⟨by omega, rfl⟩
            have w1 : zl_wf B.1.1.length [(A.1.1.length + 1, (1 : Int))] = true := zl_wf_c.mpr ⟨by omega, rfl⟩
            refine ⟨B2.1, ?_, ?_, ?_, ?_⟩
            · exact zlv_st1 (i := 3) (e := 3) B2.2.1 ⟨wm, _, rfl, by rw [ev40]; omega⟩
            · refine ⟨⟨w1, _, rfl, ?_⟩, ⟨wm, _, rfl, ?_⟩, ⟨w0, _, rfl, ?_⟩, trivial⟩
              · rw [zev1, zup_s]; exact ej
              · rw [ev4 1]; omega
              · rw [zev1, r0]; rfl
            · intro q hq
              rcases List.mem_cons.mp hq with rfl | hq
              · refine ⟨zl_wf_le (by show A.1.1.length ≤ B.1.1.length; omega) k0.1, 548, fs, .ref 586, ?_, ho2, mo.2.2.2.2.2.2.2.2.2.2.2.2.2.2.2.1, w0, 586, rfl, ?_⟩
                · show ((548 : Nat) : Int) = zv_ev _ o
                  rw [zv_ag agr k0.1]
                  exact eo
                · rw [zev1, r0]; rfl
              · exact zcf_st B2 gL q hq
            · intro q hq
              rcases List.mem_cons.mp hq with rfl | hq
              · refine ⟨w0, wm, 586, 4 * ln, 0, 160, upd Ln (4 * ln) (Int32.ofNat 5), ?_, ?_, h2.2.1, rfl, _, rfl, ?_⟩
                · rw [zev1, r0]; rfl
                · rw [ev40]; omega
                · rw [upd_at, if_pos rfl]; rfl
              · exact zcy_st B2 (t := 91) rfl gL q hq
          · exact mD_zI hI h2 (m_ze (t := 91) (k := 0) rfl (fun i hi => ⟨(0, 159, -2147483648, 2147483647), List.mem_singleton.mpr rfl, Nat.zero_le _, by show i ≤ 159; omega, Int32.le_toInt _, by have := Int32.toInt_lt (upd Ln (4 * ln) (Int32.ofNat 5) i); show _ ≤ (2147483647 : Int); omega⟩))
          · have k := m_JL_iff.mp (m_JL (i := 4 * ln) (x := Int32.ofNat 5) (m_JL_iff.mpr ⟨hJ.1, hJ.2.1⟩) gL (by rw [hlm]; omega))
            exact ⟨k.1, k.2, trivial⟩
  · cases hg
