/-! ===== printed by wip/gen/y/cj.py: order, by the class, whole ===== -/
theorem yz_one {c : zct} {t a : Nat} {L : Nat} {xs : Nat → Int32} {d : Nat} {σ : iv_H} (hC : zCT z_τ z_ty z_J c) (he : c.2.2.2.1.2.1 = ([((0, 0, 0, 0), (t + 2, 0, 1000))], [])) (hx : c.2.2.2.2.2 = [([], [])]) (hd : c.2.1 ≤ d) (ta : z_τ a = t) (ha : a ≤ 1000) (hI : zI z_τ z_ty σ) (hJ : z_J σ) : ∃ σ1, iv_Rn L xs d c.1 0 (lv_args 0 [.ref a]) [] σ none σ1 ∧ zI z_τ z_ty σ1 ∧ z_J σ1 ∧ zFr z_τ c.2.2.1 σ σ1 := by
  obtain ⟨r, σ1, h1, h2, h3, h4, X, hX, _, _, h6⟩ := hC L xs d [.ref a] σ (fun _ => (a : Int)) hd hI hJ (by
    rw [he]
    refine ⟨fun s c hs => ?_, fun f hf => (by cases hf), fun i bb c hi => ?_⟩
    · rcases s with _ | s
      · cases hs
        refine ⟨by show (0 : Int) ≤ (a : Int); omega, by show (a : Int) ≤ 1000; omega, fun _ => ⟨by show (0 : Int) ≤ (a : Int); omega, ?_⟩⟩
        show z_τ ((a : Int).toNat) = t
        rw [Int.toNat_natCast]
        exact ta
      · cases hs
    · rcases i with _ | i
      · cases hi
        exact ⟨.ref a, rfl, a, rfl, rfl⟩
      · cases hi)
  rw [hx] at hX
  obtain rfl := List.mem_singleton.mp hX
  obtain rfl := h6 rfl
  exact ⟨σ1, h1, h2, h3, h4⟩
theorem yz_two {c : zct} {t u a b : Nat} {L : Nat} {xs : Nat → Int32} {d : Nat} {σ : iv_H} (hC : zCT z_τ z_ty z_J c) (he : c.2.2.2.1.2.1 = ([((0, 0, 0, 0), (t + 2, 0, 1000)), ((0, 1, 0, 0), (u + 2, 0, 1000))], [])) (hd : c.2.1 ≤ d) (ta : z_τ a = t) (tb : z_τ b = u) (ha : a ≤ 1000) (hb : b ≤ 1000) (hI : zI z_τ z_ty σ) (hJ : z_J σ) : ∃ r σ1, iv_Rn L xs d c.1 0 (lv_args 0 [.ref a, .ref b]) [] σ r σ1 ∧ zI z_τ z_ty σ1 ∧ z_J σ1 ∧ zFr z_τ c.2.2.1 σ σ1 := by
  obtain ⟨r, σ1, h1, h2, h3, h4, _⟩ := hC L xs d [.ref a, .ref b] σ (fun i => match i with
    | 0 => (a : Int)
    | _ => (b : Int)) hd hI hJ (by
    rw [he]
    refine ⟨fun s c hs => ?_, fun f hf => (by cases hf), fun i bb c hi => ?_⟩
    · rcases s with _ | _ | s
      · cases hs
        refine ⟨by show (0 : Int) ≤ (a : Int); omega, by show (a : Int) ≤ 1000; omega, fun _ => ⟨by show (0 : Int) ≤ (a : Int); omega, ?_⟩⟩
        show z_τ ((a : Int).toNat) = t
        rw [Int.toNat_natCast]
        exact ta
      · cases hs
        refine ⟨by show (0 : Int) ≤ (b : Int); omega, by show (b : Int) ≤ 1000; omega, fun _ => ⟨by show (0 : Int) ≤ (b : Int); omega, ?_⟩⟩
        show z_τ ((b : Int).toNat) = u
        rw [Int.toNat_natCast]
        exact tb
      · cases hs
    · rcases i with _ | _ | i
      · cases hi
        exact ⟨.ref a, rfl, a, rfl, rfl⟩
      · cases hi
        exact ⟨.ref b, rfl, b, rfl, rfl⟩
      · cases hi)
  exact ⟨r, σ1, h1, h2, h3, h4⟩
theorem mz_zI {σ σ1 : iv_H} {A : Nat} {e : iv_E} (hI : zI z_τ z_ty σ) (h : mD σ σ1 A e) (he : ∀ T, z_ty (z_τ A) = some T → zcell z_τ T e) : zI z_τ z_ty σ1 := by
  intro b T hT
  by_cases hb : b = A
  · subst hb
    exact ⟨e, h.2.1, he T hT⟩
  · obtain ⟨e1, h1, h2⟩ := hI b T hT
    exact ⟨e1, mD_n h hb h1, h2⟩
theorem mz_zF {σ σ1 : iv_H} {A ci j n : Nat} {V : Nat → Value} {v : Value} {ms : zm} (hx : iv_get σ A = some (yob ci n V)) (h : mD σ σ1 A (yob ci n (yuV V j v))) (hm : zmem (0, ci, j) ms = true) : zFr z_τ ms σ σ1 := by
  refine ⟨h.1, fun b => ⟨fun c2 fs2 h2 => ?_, fun z h2 hz => ?_, fun tag len f h2 hz => ?_⟩⟩
  · by_cases hb : b = A
    · subst hb
      rw [hx] at h2
      have h2 : some (Sum.inr (ci, (List.range n).map V) : iv_E) = some (.inr (c2, fs2)) := h2
      cases h2
      refine ⟨(List.range n).map (yuV V j v), h.2.1, fun i hi => ?_⟩
      have e : ¬ i = j := fun e => by rw [e, hm] at hi; cases hi
      by_cases hin : i < n
      · rw [y_nthV hin, y_nthV hin]
        unfold yuV
        rw [y_beq e]
        rfl
      · rw [y_no (by simp; omega), y_no (by simp; omega)]
    · exact ⟨fs2, mD_n h hb h2, fun _ _ => rfl⟩
  · by_cases hb : b = A
    · subst hb; rw [hx] at h2; cases h2
    · exact mD_n h hb h2
  · by_cases hb : b = A
    · subst hb; rw [hx] at h2; cases h2
    · exact ⟨f, mD_n h hb h2, fun _ _ => rfl⟩
/-- a field of an object, by its type -/
theorem yz_fit {σ : iv_H} (hI : zI z_τ z_ty σ) {a ci n j : Nat} {V : Nat → Value} {cs : List zc} {c : zc} (g : iv_get σ a = some (yob ci n V)) (ht : z_ty (z_τ a) = some (.inl (ci, cs))) (hj : iv_nth cs j = some c) (hn : j < n) : zfit z_τ c (V j) := by
  obtain ⟨fs, g2, _, h3⟩ := zI_obj hI rfl ht
  rw [g] at g2
  have g2 : some (Sum.inr (ci, (List.range n).map V) : iv_E) = some (.inr (ci, fs)) := g2
  simp only [Option.some.injEq, Sum.inr.injEq, Prod.mk.injEq, true_and] at g2
  exact h3 j c (V j) hj (by rw [← g2, y_nthV hn])
theorem yz_ref {σ : iv_H} (hI : zI z_τ z_ty σ) {a ci n j t : Nat} {V : Nat → Value} {cs : List zc} (g : iv_get σ a = some (yob ci n V)) (ht : z_ty (z_τ a) = some (.inl (ci, cs))) (hj : iv_nth cs j = some (t + 2, 0, 1000)) (hn : j < n) : ∃ b, V j = .ref b ∧ b ≤ 1000 ∧ z_τ b = t := by
  obtain ⟨b, e, h1, h2, h3⟩ := (show ∃ b : Nat, V j = .ref b ∧ (0 : Int) ≤ (b : Int) ∧ (b : Int) ≤ 1000 ∧ z_τ b = t from yz_fit hI g ht hj hn)
  have h4 : b ≤ 1000 := by omega
  exact ⟨b, e, h4, h3⟩
theorem yz_int {σ : iv_H} (hI : zI z_τ z_ty σ) {a ci n j : Nat} {lo hi : Int} {V : Nat → Value} {cs : List zc} (g : iv_get σ a = some (yob ci n V)) (ht : z_ty (z_τ a) = some (.inl (ci, cs))) (hj : iv_nth cs j = some (0, lo, hi)) (hn : j < n) : ∃ x, V j = .int x := by
  obtain ⟨x, e, _⟩ := (show ∃ x : Int32, V j = .int x ∧ lo ≤ x.toInt ∧ x.toInt ≤ hi from yz_fit hI g ht hj hn)
  exact ⟨x, e⟩
/-- through a frame: an object stays one, its other fields stay -/
theorem yz_fr {σ σ1 : iv_H} {ms : zm} {a ci n : Nat} {V : Nat → Value} (f : zFr z_τ ms σ σ1) (g : iv_get σ a = some (yob ci n V)) (hI : zI z_τ z_ty σ1) {cs : List zc} (ht : z_ty (z_τ a) = some (.inl (ci, cs))) (hl : cs.length = n) : ∃ V1, iv_get σ1 a = some (yob ci n V1) ∧ ∀ j, j < n → zmem (0, ci, j) ms = false → V1 j = V j := by
  obtain ⟨V1, g1, o1⟩ := yo_of hI rfl ht hl
  refine ⟨V1, g1, fun j hj hm => ?_⟩
  obtain ⟨fs2, g2, e2⟩ := (f.2 a).1 ci _ g
  exact o1 fs2 g2 j _ ((e2 j hm).trans (y_nthV hj))
/-- what an order leaves on the class's side -/
def yOc (o : yE (yS × Nat)) (σ σ1 : iv_H) : Prop := oF σ1 0 2 = some (.int (Int32.ofNat (yFo o))) ∧ (CP σ σ1 440 440 ∧ CP σ σ1 494 494) ∧ match o with
  | .inl _ => CP σ σ1 4 4
  | .inr q => CA σ1 4 q.1.1 q.1.2.1
theorem yOc_l {o : yE (yS × Nat)} {e : Nat × Nat} {σ σ1 : iv_H} (h : o = .inl e) (f : oF σ1 0 2 = some (.int (Int32.ofNat e.1))) (k : CP σ σ1 440 440 ∧ CP σ σ1 494 494) (k2 : CP σ σ1 4 4) : yOc o σ σ1 := by
  subst h
  exact ⟨f, k, k2⟩
theorem yOc_r {o : yE (yS × Nat)} {q : yS × Nat} {σ σ1 : iv_H} (h : o = .inr q) (f : oF σ1 0 2 = some (.int (Int32.ofNat 0))) (k : CP σ σ1 440 440 ∧ CP σ σ1 494 494) (k2 : CA σ1 4 q.1.1 q.1.2.1) : yOc o σ σ1 := by
  subst h
  exact ⟨f, k, k2⟩
theorem yg_order {L : Nat} {xs : Nat → Int32} {d n : Nat} {T : Nat → Nat} {σ : iv_H} {s : yS} (hd : 60 ≤ d) (hn : n ≤ 940) (hT : ∀ i, T i ≤ 255) (hI : zI z_τ z_ty σ) (hJ : z_J σ) (hF : FX σ) (hb : fB σ = some (.int (Int32.ofNat n))) (gt : iv_get σ 2 = some (yai 940 (ytp T))) (hi : yIni s) : ∃ σ1, iv_Rn L xs d 117 0 (lv_args 0 [.ref 0]) [] σ (some (.int (yAns (yOrd T n 900 941 s 0 0)))) σ1 ∧ yOc (yOrd T n 900 941 s 0 0) σ σ1 := by
  obtain ⟨d, rfl⟩ : ∃ e, d = e + 1 := ⟨d - 1, by omega⟩
  obtain ⟨cs0, t0, _⟩ := z_t21
  obtain ⟨G, g0, oG⟩ := yo_of hI (a := 0) (t := 21) (n := 20) rfl rfl rfl
  have c0 := yFX_v hF oG (by decide : (0, 11, 0, 2) ∈ yFX)
  have c3 := yFX_v hF oG (by decide : (0, 11, 3, 4) ∈ yFX)
  have c4 := yFX_v hF oG (by decide : (0, 11, 4, 20) ∈ yFX)
  have c10 := yFX_v hF oG (by decide : (0, 11, 10, 356) ∈ yFX)
  have c1 : G 1 = .int (Int32.ofNat n) := by
    have h := fB_of (show iv_get σ 0 = some (.inr (11, (List.range 20).map G)) from g0)
    rw [hb, y_nthV (by decide)] at h
    simp only [Option.some.injEq] at h
    exact h.symm
  obtain ⟨V, g, oV⟩ := yo_of hI (a := 356) (t := 15) (n := 13) rfl rfl rfl
  have v1 := yFX_v hF oV (by decide : (356, 5, 1, 358) ∈ yFX)
  have v2 := yFX_v hF oV (by decide : (356, 5, 2, 360) ∈ yFX)
  have v3 := yFX_v hF oV (by decide : (356, 5, 3, 362) ∈ yFX)
  have v4 := yFX_v hF oV (by decide : (356, 5, 4, 364) ∈ yFX)
  obtain ⟨K, gk⟩ := yi_of hI (a := 358) (n := 901) rfl
  obtain ⟨P, gp⟩ := yi_of hI (a := 360) (n := 901) rfl
  obtain ⟨X, gv⟩ := yj_of hI (a := 362) (n := 901) rfl
  obtain ⟨Q, gw⟩ := yq_of hI (a := 364) (n := 901) rfl
  obtain ⟨σ1, r1, V1, hC1, g01, _, _, f1⟩ := yg_rt (L := L) (xs := xs) (d := d) (n := n) (m := 900) (by omega) hn (by decide) hT g0 c0 c1 c10 g gk gp gv gw v1 v2 v3 v4 gt
  have hxn : (Int32.ofNat n).toInt = n := y_of (by omega)
  obtain ⟨r1b, σ1b, R1, hI1, hJ1, F1, _⟩ := zu_6 L xs d [.ref 0, .int (Int32.ofNat 900)] σ _ (show 45 ≤ d by omega) hI hJ (std_zPB (rs := [(200, 900)]) (ys := [Int32.ofNat 900]) (t := 21) (a := 0) (x := Int32.ofNat n) rfl (by decide) ⟨⟨by decide, by decide⟩, trivial⟩ (show iv_get σ 0 = some (.inr (11, (List.range 20).map G)) from g0) (by rw [y_nthV (by decide), c1]) (by omega) (by omega))
  obtain ⟨_, rfl⟩ := y_det r1 R1
  have hF1 := FX_fr hF F1 rfl
  obtain ⟨D, g20, oD⟩ := yo_of hI1 (a := 20) (t := 13) (n := 16) rfl rfl rfl
  obtain ⟨bn, g22⟩ := yj_of hI1 (a := 22) (n := 7) rfl
  obtain ⟨bl, g24⟩ := yi_of hI1 (a := 24) (n := 7) rfl
  obtain ⟨hd_, g26⟩ := yi_of hI1 (a := 26) (n := 7) rfl
  obtain ⟨hl, g28⟩ := yi_of hI1 (a := 28) (n := 7) rfl
  obtain ⟨gn, g30⟩ := yj_of hI1 (a := 30) (n := 6) rfl
  obtain ⟨te, g32⟩ := yi_of hI1 (a := 32) (n := 6) rfl
  obtain ⟨ed, g34⟩ := yi_of hI1 (a := 34) (n := 6) rfl
  have hc : yCc D σ1 := ⟨bn, bl, hd_, hl, gn, te, ed, ⟨g20, g22, g24, g26, g28, g30, g32, g34⟩, ⟨yFX_v hF1 oD (by decide : (20, 3, 9, 22) ∈ yFX), yFX_v hF1 oD (by decide : (20, 3, 10, 24) ∈ yFX), yFX_v hF1 oD (by decide : (20, 3, 11, 26) ∈ yFX), yFX_v hF1 oD (by decide : (20, 3, 12, 28) ∈ yFX), yFX_v hF1 oD (by decide : (20, 3, 13, 30) ∈ yFX), yFX_v hF1 oD (by decide : (20, 3, 14, 32) ∈ yFX), yFX_v hF1 oD (by decide : (20, 3, 15, 34) ∈ yFX)⟩⟩
  obtain ⟨b, σ2, V2, D2, r2, o2, f2⟩ := yd_rf (L := L) (xs := xs) (d := d) (n := n) (m := 900) (by omega) hn (by decide) hT hi hC1 hc
  obtain ⟨r2b, σ2b, R2, hI2, hJ2, F2⟩ := yz_two (L := L) (xs := xs) (d := d) (a := 20) (b := 356) zt_183 rfl (show 25 ≤ d by omega) rfl rfl (by decide) (by decide) hI1 hJ1
  obtain ⟨_, rfl⟩ := y_det r2 R2
  have hF2 := FX_fr hF1 F2 rfl
  have g02 := yF_n f2 (by rfl) g01
  have key : zGo L xs (fun r σ9 => r = some (.int (yAns (yOrd T n 900 941 s 0 0))) ∧ yOc (yOrd T n 900 941 s 0 0) σ σ9) [] (d + 1) 117 0 (lv_args 0 [.ref 0]) [] σ := by
    refine w_A y117_0 rfl ?_
    refine w_K y117_1 ?_
    refine y_call0 y117_4 (y_args6 g0 rfl rfl) rfl r1 ?_
    refine w_A y117_7 rfl ?_
    refine y_gf y117_8 g01 rfl c4 ?_
    refine w_A y117_11 rfl ?_
    refine y_gf y117_12 g01 rfl c10 ?_
    refine y_call y117_15 (y_args6 g20 rfl rfl) rfl r2 ?_
    refine w_IS y117_18 ?_
    refine w_A y117_19 rfl ?_
    refine w_A y117_20 rfl ?_
    refine y_gf y117_21 g02 rfl c10 ?_
    have p3 : ∀ (A : Nat) (σ3 : iv_H) (e : iv_E), mD σ2 σ3 0 e → (iv_mem A [0, 356, 358, 360, 362, 364, 20, 22, 24, 26, 28, 30, 32, 34] || (iv_mem (A + 2) [0, 356, 358, 360, 362, 364, 20, 22, 24, 26, 28, 30, 32, 34] || iv_mem (A + 10) [0, 356, 358, 360, 362, 364, 20, 22, 24, 26, 28, 30, 32, 34])) = false → CP σ σ3 A A := fun A σ3 e m3 hA => by
      simp only [Bool.or_eq_false_iff] at hA
      obtain ⟨hA, hB, hC⟩ := hA
      have key : ∀ a, iv_mem a [0, 356, 358, 360, 362, 364, 20, 22, 24, 26, 28, 30, 32, 34] = false → iv_get σ3 a = iv_get σ a := fun a ha => ((m3.2.2 a (y_mem (x := 0) rfl a ha)).trans (f2.2 a (y_sub1 (S' := [0, 356, 358, 360, 362, 364, 20, 22, 24, 26, 28, 30, 32, 34]) rfl a ha))).trans (f1.2 a (y_sub1 (S' := [0, 356, 358, 360, 362, 364, 20, 22, 24, 26, 28, 30, 32, 34]) rfl a ha))
      exact CP_g (key A hA) (key _ hB) (key _ hC)
    cases ho : yOrd T n 900 941 s 0 0 with
    | inl e =>
      rw [ho] at o2
      obtain ⟨rfl, gB, e11, e12⟩ := (show _ ∧ _ ∧ _ ∧ _ from o2)
      refine y_gf y117_24 gB rfl e11 ?_
      refine y_pf y117_27 g02 rfl rfl ?_
      intro σ3 m3
      refine w_I y117_30 rfl ?_
      refine w_ifF y117_31 rfl (y_bneF rfl) ?_
      refine w_K y117_34 ?_
      refine w_A y117_35 rfl ?_
      refine y_gf y117_36 m3.2.1 rfl c10 ?_
      refine y_gf y117_39 (mD_n m3 (by decide) gB) rfl e12 ?_
      refine y_II y117_42 ?_
      exact y_ret y117_43 rfl ⟨rfl, yOc_l rfl ((hO_of m3.2.1 2).trans (by rw [y_nthV (by decide)]; rfl)) ⟨p3 440 _ _ m3 rfl, p3 494 _ _ m3 rfl⟩ (p3 4 _ _ m3 rfl)⟩
    | inr q =>
      rw [ho] at o2
      obtain ⟨rfl, ⟨gB, w11⟩, nb, ng, hD2, hcn⟩ := (show _ ∧ (_ ∧ _) ∧ ∃ nb ng, _ ∧ _ from o2)
      obtain ⟨x11, e11, z11⟩ : ∃ x11 : Int32, V2 11 = .int x11 ∧ x11 = Int32.ofNat 0 := ⟨_, w11, rfl⟩
      refine y_gf y117_24 gB rfl e11 ?_
      refine y_pf y117_27 g02 rfl rfl ?_
      intro σ3 m3
      refine w_I y117_30 rfl ?_
      refine w_ifT y117_31 rfl (y_bneT rfl) ?_
      have hz3 : zFr z_τ [(0, 11, 2)] σ2 σ3 := mz_zF g02 m3 rfl
      have hI3 : zI z_τ z_ty σ3 := mz_zI hI2 m3 (fun T hT2 => by
        obtain ⟨cs, t1, _⟩ := z_t21
        have t2 : z_ty (z_τ 0) = some (.inl (11, cs)) := t1
        rw [t2] at hT2
        cases hT2
        obtain ⟨fs, gq, hl, hfit⟩ := zI_obj hI2 (a := 0) (t := 21) rfl t1
        rw [g02] at gq
        have gq : some (Sum.inr (11, (List.range 20).map (yuV G 1 (.int (Int32.ofNat 0)))) : iv_E) = some (.inr (11, fs)) := gq
        cases gq
        have t3 : z_ty 21 = some (.inl (11, cs)) := t1
        refine ⟨_, rfl, by simpa using hl, fun j c x hj hx => ?_⟩
        by_cases hj2 : j = 2
        · subst hj2
          rw [y_nthV (by decide)] at hx
          have hx : some (Value.int x11) = some x := hx
          cases hx
          have hc2 : iv_nth cs 2 = some (0, (-2147483648), 2147483647) := by
            have t4 : z_ty 21 = some (.inl (11, cs)) := t1
            have t5 : ∃ cs2, z_ty 21 = some (.inl (11, cs2)) ∧ iv_nth cs2 2 = some (0, (-2147483648), 2147483647) := ⟨_, rfl, rfl⟩
            obtain ⟨cs2, t6, t7⟩ := t5
            rw [t4] at t6
            cases t6
            exact t7
          rw [hc2] at hj
          cases hj
          exact ⟨x11, rfl, by show (-2147483648 : Int) ≤ x11.toInt; have := Int32.le_toInt x11; omega, by show x11.toInt ≤ (2147483647 : Int); have := Int32.toInt_lt x11; omega⟩
        · have hjn : j < 20 := by
            have := iv_nth_lt hx
            simpa using this
          refine hfit j c x hj ?_
          rw [y_nthV hjn] at hx ⊢
          have e : yuV (yuV G 1 (.int (Int32.ofNat 0))) 2 (.int x11) j = yuV G 1 (.int (Int32.ofNat 0)) j := by
            show (bif Nat.beq j 2 then _ else _) = _
            rw [y_beq hj2]
            rfl
          rw [e] at hx
          exact hx)
      have hJ3 := z_Js _ _ _ rfl hz3 hJ2
      have hF3 := FX_fr hF2 hz3 rfl
      obtain ⟨bn2, bl2, hd2, hl2, gn2, te2, ed2, ⟨h20, h22, h24, h26, h28, h30, h32, h34⟩, ⟨a9, a10, a11, a12, a13, a14, a15⟩, ⟨a0, a1, a2⟩, ⟨a3, a4, a5, _, _, _⟩, hNm, _⟩ := hD2
      obtain ⟨E, g4, oE⟩ := yo_of hI3 (a := 4) (t := 13) (n := 16) rfl rfl rfl
      obtain ⟨f6, g6⟩ := yj_of hI3 (a := 6) (n := 7) rfl
      obtain ⟨f8, g8⟩ := yi_of hI3 (a := 8) (n := 7) rfl
      obtain ⟨f10, g10⟩ := yi_of hI3 (a := 10) (n := 7) rfl
      obtain ⟨f12, g12⟩ := yi_of hI3 (a := 12) (n := 7) rfl
      obtain ⟨f14, g14⟩ := yj_of hI3 (a := 14) (n := 6) rfl
      obtain ⟨f16, g16⟩ := yi_of hI3 (a := 16) (n := 6) rfl
      obtain ⟨f18, g18⟩ := yi_of hI3 (a := 18) (n := 6) rfl
      obtain ⟨σ4, r4, E4, g4b, l4, u1, u2, u3, _, u5, h6u, h14u, f4⟩ := yg_cp (L := L) (xs := xs) (d := d) g4 (mD_n m3 (by decide) h20) g6 g8 g10 g12 g14 g16 g18 (mD_n m3 (by decide) h22) (mD_n m3 (by decide) h24) (mD_n m3 (by decide) h26) (mD_n m3 (by decide) h28) (mD_n m3 (by decide) h30) (mD_n m3 (by decide) h32) (mD_n m3 (by decide) h34) (yFX_v hF3 oE (by decide : (4, 3, 9, 6) ∈ yFX)) (yFX_v hF3 oE (by decide : (4, 3, 10, 8) ∈ yFX)) (yFX_v hF3 oE (by decide : (4, 3, 11, 10) ∈ yFX)) (yFX_v hF3 oE (by decide : (4, 3, 12, 12) ∈ yFX)) (yFX_v hF3 oE (by decide : (4, 3, 13, 14) ∈ yFX)) (yFX_v hF3 oE (by decide : (4, 3, 14, 16) ∈ yFX)) (yFX_v hF3 oE (by decide : (4, 3, 15, 18) ∈ yFX)) a9 a10 a11 a12 a13 a14 a15 a0 a1 a2 a3 a4 a5
      obtain ⟨r4b, σ4b, R4, hI4, hJ4, F4⟩ := yz_two (L := L) (xs := xs) (d := d) (a := 4) (b := 20) zt_94 rfl (show 5 ≤ d by omega) rfl rfl (by decide) (by decide) hI3 hJ3
      obtain ⟨_, rfl⟩ := y_det r4 R4
      have g04 := yF_n f4 (by rfl) m3.2.1
      refine w_A y117_44 rfl ?_
      refine y_gf y117_45 m3.2.1 rfl c3 ?_
      refine w_A y117_48 rfl ?_
      refine y_gf y117_49 m3.2.1 rfl c4 ?_
      refine y_call0 y117_52 (y_args6 g4 rfl rfl) rfl r4 ?_
      obtain ⟨b5, e5, l5, t5⟩ := yz_ref hI4 (a := 0) (j := 5) (t := 17) g04 rfl rfl (by decide)
      obtain ⟨σ5, r5, hI5, hJ5, F5⟩ := yz_one (L := L) (xs := xs) (d := d) zt_192 rfl rfl (show 10 ≤ d by omega) t5 l5 hI4 hJ4
      obtain ⟨S5, gs5, _⟩ := yo_of hI4 (a := b5) (t := 17) (n := 13) t5 rfl rfl
      refine w_A y117_55 rfl ?_
      refine y_gf y117_56 g04 rfl e5 ?_
      refine y_call0 y117_59 (y_args6 gs5 rfl rfl) rfl r5 ?_
      obtain ⟨G5, g05, q5⟩ := yz_fr F5 g04 hI5 (a := 0) rfl rfl
      obtain ⟨E5, ge5, p5⟩ := yz_fr F5 g4b hI5 (a := 4) rfl rfl
      obtain ⟨b7, e7, l7, t7⟩ := yz_ref hI5 (a := 0) (j := 7) (t := 16) g05 rfl rfl (by decide)
      obtain ⟨σ6, r6, hI6, hJ6, F6⟩ := yz_one (L := L) (xs := xs) (d := d) zt_133 rfl rfl (show 5 ≤ d by omega) t7 l7 hI5 hJ5
      obtain ⟨S6, gs6, _⟩ := yo_of hI5 (a := b7) (t := 16) (n := 5) t7 rfl rfl
      refine w_A y117_62 rfl ?_
      refine y_gf y117_63 g05 rfl e7 ?_
      refine y_call0 y117_66 (y_args6 gs6 rfl rfl) rfl r6 ?_
      obtain ⟨G6, g06, q6⟩ := yz_fr F6 g05 hI6 (a := 0) rfl rfl
      obtain ⟨E6, ge6, p6⟩ := yz_fr F6 ge5 hI6 (a := 4) rfl rfl
      obtain ⟨b9, e9, l9, t9⟩ := yz_ref hI6 (a := 0) (j := 9) (t := 14) g06 rfl rfl (by decide)
      obtain ⟨σ7, r7, hI7, hJ7, F7⟩ := yz_one (L := L) (xs := xs) (d := d) zt_97 rfl rfl (show 5 ≤ d by omega) t9 l9 hI6 hJ6
      obtain ⟨S7, gs7, _⟩ := yo_of hI6 (a := b9) (t := 14) (n := 3) t9 rfl rfl
      refine w_A y117_69 rfl ?_
      refine y_gf y117_70 g06 rfl e9 ?_
      refine y_call0 y117_73 (y_args6 gs7 rfl rfl) rfl r7 ?_
      obtain ⟨G7, g07, q7⟩ := yz_fr F7 g06 hI7 (a := 0) rfl rfl
      obtain ⟨E7, ge7, p7⟩ := yz_fr F7 ge6 hI7 (a := 4) rfl rfl
      have n3 : G7 3 = .ref 4 := (q7 3 (by decide) rfl).trans ((q6 3 (by decide) rfl).trans ((q5 3 (by decide) rfl).trans c3))
      have n2 : G7 2 = .int x11 := (q7 2 (by decide) rfl).trans ((q6 2 (by decide) rfl).trans ((q5 2 (by decide) rfl).trans rfl))
      have n0 : E7 0 = .int (Int32.ofNat q.2) := (p7 0 (by decide) rfl).trans ((p6 0 (by decide) rfl).trans ((p5 0 (by decide) rfl).trans l4))
      refine w_A y117_76 rfl ?_
      refine y_gf y117_77 g07 rfl n3 ?_
      refine y_gf y117_80 ge7 rfl n0 ?_
      have p7 : ∀ A, z_τ A = 13 → z_τ (A + 2) = 43 → z_τ (A + 10) = 47 → CP σ4 σ7 A A := fun A b1 b2 b3 => CP_tr (CP_tr (CP_z hI4 F5 rfl b1 b2 b3) (CP_z hI5 F6 rfl b1 b2 b3)) (CP_z hI6 F7 rfl b1 b2 b3)
      have ca : CA σ4 4 q.1.1 q.1.2.1 := by
        obtain ⟨⟨n1, n2⟩, n7, n6⟩ := hcn
        refine ⟨⟨(oI_of g4b (by decide)).trans (by rw [u1, n1]), (oI_of g4b (by decide)).trans (by rw [u2, n2]), (oI_of g4b (by decide)).trans (by rw [u3]), (oI_of g4b (by decide)).trans (by rw [u5])⟩, nb, ng, ⟨n1, n2⟩, ⟨n7, n6⟩, fun b hb2 => ?_, fun g hg2 => ?_⟩
        · rw [hL_of h6u, zcpy_at, if_pos (by omega), show 0 + (b - 0) = b by omega]
          exact hNm.1 b hb2
        · rw [hL_of h14u, zcpy_at, if_pos (by omega), show 0 + (g - 0) = g by omega]
          exact hNm.2 g hg2
      exact y_ret y117_83 rfl ⟨rfl, yOc_r rfl ((hO_of g07 2).trans (by rw [y_nthV (by decide), n2, z11])) ⟨CP_tr (CP_tr (p3 440 _ _ m3 rfl) (CP_F f4 rfl rfl rfl)) (p7 440 rfl rfl rfl), CP_tr (CP_tr (p3 494 _ _ m3 rfl) (CP_F f4 rfl rfl rfl)) (p7 494 rfl rfl rfl)⟩ (CA_eq ca (p7 4 rfl rfl rfl) (fun _ _ => rfl) (fun _ _ => rfl))⟩
  obtain ⟨r, σ9, h1, h2⟩ := key
  have h3 : r = some (.int (yAns (yOrd T n 900 941 s 0 0))) ∧ yOc (yOrd T n 900 941 s 0 0) σ σ9 := h2
  obtain ⟨rfl, h4⟩ := h3
  exact ⟨σ9, h1, h4⟩
