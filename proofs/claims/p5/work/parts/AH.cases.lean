/-! ===== printed by wip/gen/gen_ah.py: the law's cases, but brother and time ===== -/
/-- a run up to a place -/
def iv_Pn (L : Nat) (xs : Nat → Int32) (stop d M pc : Nat) (lv : iv_L) (st : List Value) (σ : iv_H) (lv' : iv_L) (st' : List Value) (σ' : iv_H) : Prop := ∃ F n, iv_part L xs stop F n d M pc lv st σ = some (lv', st', σ')
theorem iv_part_F (L : Nat) (xs : Nat → Int32) (stop : Nat) {F F' : Nat} (hF : F ≤ F') : ∀ (n d M pc : Nat) (lv : iv_L) (st : List Value) (σ : iv_H) (y : iv_L × List Value × iv_H), iv_part L xs stop F n d M pc lv st σ = some y → iv_part L xs stop F' n d M pc lv st σ = some y := by
  intro n
  induction n with
  | zero => intro d M pc lv st σ y h; cases h
  | succ n ih =>
    intro d M pc lv st σ y h
    rw [iv_part_s] at h ⊢
    cases hb : Nat.beq pc stop
    · rw [hb] at h
      simp only [cond_false] at h ⊢
      split at h
      · rename_i f hf
        split at h
        · rename_i pc' lv' st' σ1 hs
          rw [iv_fp_eq] at h ⊢
          exact ih _ _ _ _ _ _ _ h
        · cases h
      · rename_i kind m nn ci hf
        split at h
        · rename_i as rest d' ha
          simp only [Bool.cond_eq_ite] at h ⊢
          split at h
          · rename_i hcs
            rw [if_pos hcs]
            split at h
            · rename_i r σ1 hr
              rw [iv_run_le L xs hF hr]
              simp only
              rw [iv_fp_eq] at h ⊢
              exact ih _ _ _ _ _ _ _ h
            · cases h
          · cases h
        · cases h
      · cases h
    · rw [hb] at h
      exact h
section PLW
variable {L : Nat} {xs : Nat → Int32} {d pc : Nat} {lv lv' lv2 : iv_L} {st st' st2 : List Value} {σ σ1 σ2 : iv_H}
theorem p_end : iv_Pn L xs 1267 d 285 1267 lv st σ lv st σ := ⟨0, 1, by
  rw [iv_part_s, Nat.beq_refl]
  rfl⟩
theorem p_s {pc' : Nat} {f : iv_F} (hpc : Nat.beq pc 1267 = false) (hf : iv_f1 (iv_p 285) pc = some (.inl f)) (hs : f L xs pc lv st σ = some (pc', lv', st', σ1)) (k : iv_Pn L xs 1267 d 285 pc' lv' st' σ1 lv2 st2 σ2) : iv_Pn L xs 1267 d 285 pc lv st σ lv2 st2 σ2 := by
  obtain ⟨F, n, hn⟩ := k
  refine ⟨F, n + 1, ?_⟩
  rw [iv_part_s, hpc, hf]
  simp only [cond_false, hs]
  rw [iv_fp_eq]
  exact hn
theorem p_A {i len a : Nat} (hf : iv_f1 (iv_p 285) pc = some (.inl (iv_oA i len))) (h : iv_f1 lv i = some (.ref a)) (hpc : Nat.beq pc 1267 = false) (k : iv_Pn L xs 1267 d 285 (pc + len) lv (.ref a :: st) σ lv2 st2 σ2) : iv_Pn L xs 1267 d 285 pc lv st σ lv2 st2 σ2 := p_s hpc hf (o_Ax h) k
theorem p_pop {v : Int32} (hf : iv_f1 (iv_p 285) pc = some (.inl iv_oPop)) (hpc : Nat.beq pc 1267 = false) (k : iv_Pn L xs 1267 d 285 (pc + 1) lv st σ lv2 st2 σ2) : iv_Pn L xs 1267 d 285 pc lv (.int v :: st) σ lv2 st2 σ2 := p_s hpc hf rfl k
theorem p_go {off : Int} {t : Nat} (hf : iv_f1 (iv_p 285) pc = some (.inl (iv_oGo off))) (ht : iv_tgt pc off = some t) (hpc : Nat.beq pc 1267 = false) (k : iv_Pn L xs 1267 d 285 t lv st σ lv2 st2 σ2) : iv_Pn L xs 1267 d 285 pc lv st σ lv2 st2 σ2 := p_s hpc hf (by
  unfold iv_oGo iv_go
  rw [ht]) k
theorem p_icT {c : ClassFile.Cond} {off : Int} {x y : Int32} {t : Nat} (hf : iv_f1 (iv_p 285) pc = some (.inl (iv_oIc c off))) (ht : iv_tgt pc off = some t) (hpc : Nat.beq pc 1267 = false) (h : iv_c2 c x y = true) (k : iv_Pn L xs 1267 d 285 t lv st σ lv2 st2 σ2) : iv_Pn L xs 1267 d 285 pc lv (.int y :: .int x :: st) σ lv2 st2 σ2 := p_s hpc hf (o_IcT ht h) k
theorem p_call {kind mm nn ci : Nat} {as rest : List Value} {r : Option Value} (hf : iv_f1 (iv_p 285) pc = some (.inr (.inr (kind, mm, nn, ci)))) (ha : iv_args kind nn ci st σ = some (as, rest)) (hcs : Nat.ble (iv_cs as) (iv_m mm).2.2.1 = true) (hpc : Nat.beq pc 1267 = false) (hr : iv_Rn L xs d mm 0 (lv_args 0 as) [] σ r σ1) (k : iv_Pn L xs 1267 (d + 1) 285 (pc + 3) lv (r.toList ++ rest) σ1 lv2 st2 σ2) : iv_Pn L xs 1267 (d + 1) 285 pc lv st σ lv2 st2 σ2 := by
  obtain ⟨F, n, hn⟩ := k
  obtain ⟨n1, h1⟩ := hr
  refine ⟨max F n1, n + 1, ?_⟩
  rw [iv_part_s, hpc, hf]
  simp only [cond_false, ha]
  rw [hcs, iv_run_le L xs (Nat.le_max_right F n1) h1]
  simp only [cond_true]
  rw [iv_fp_eq]
  exact iv_part_F L xs 1267 (Nat.le_max_left F n1) _ _ _ _ _ _ _ _ hn
end PLW
/-- the law's locals -/
def lvI (i : Nat) (lv : iv_L) : Prop := iv_f1 lv 0 = some (.ref 1) ∧ iv_f1 lv 1 = some (.ref 0) ∧ iv_f1 lv 2 = some (.ref 548) ∧ iv_f1 lv 3 = some (.ref 592) ∧ iv_f1 lv 4 = some (.int (Int32.ofNat i))
theorem script_in {n L : Nat} (h : n < L) (hL : L ≤ 3072) : iv_in (Int32.ofNat n) L = true ∧ (Int32.ofNat n).toNatClampNeg = n := by
  have e1 := i32_ev (n := n) (by omega)
  have e2 : (Int32.ofNat n).toNatClampNeg = n := nI_clamp (n := n) (by omega)
  refine ⟨?_, e2⟩
  unfold iv_in
  have h0 : decide (Int32.ofNat n < 0) = false := decide_eq_false (by
    intro hq
    have := Int32.lt_iff_toInt_lt.mp hq
    have e3 : (0 : Int32).toInt = 0 := by decide
    omega)
  rw [h0, e2]
  show Nat.blt n L = true
  rw [Nat.blt_eq]
  exact h
theorem o_scr {L : Nat} {xs : Nat → Int32} {pc n : Nat} {lv : iv_L} {st : List Value} {σ : iv_H} (h : n < L) (hL : L ≤ 3072) : iv_oIl L xs pc lv (.int (Int32.ofNat n) :: .ref 1 :: st) σ = some (pc + 1, lv, .int (xs n) :: st, σ) := by
  obtain ⟨h1, h2⟩ := script_in h hL
  show (bif iv_in (Int32.ofNat n) L then some (pc + 1, lv, Value.int (xs (Int32.ofNat n).toNatClampNeg) :: st, σ) else none) = _
  rw [h1, h2]
  rfl
theorem p_ne {pc : Nat} (h : Nat.blt pc 1267 = true) : Nat.beq pc 1267 = false := by
  rw [Nat.blt_eq] at h
  cases hq : Nat.beq pc 1267 with
  | false => rfl
  | true => have := Nat.eq_of_beq_eq_true hq; omega
theorem p_arg {L : Nat} {xs : Nat → Int32} {d pc i k : Nat} {lv lv2 : iv_L} {st st2 : List Value} {σ σ2 : iv_H} (f0 : iv_f1 (iv_p 285) pc = some (.inl (iv_oA 0 1))) (f1 : iv_f1 (iv_p 285) (pc + 1) = some (.inl (iv_oI 4 2))) (f2 : iv_f1 (iv_p 285) (pc + 3) = some (.inl (iv_oK (.int (Int32.ofNat k)) 1))) (f3 : iv_f1 (iv_p 285) (pc + 4) = some (.inl (iv_oII fun x y => x + y))) (f4 : iv_f1 (iv_p 285) (pc + 5) = some (.inl iv_oIl)) (hl : lvI i lv) (hk : i + k < L) (hL : L ≤ 3072) (hb : Nat.blt (pc + 5) 1267 = true) (K : iv_Pn L xs 1267 d 285 (pc + 6) lv (.int (xs (i + k)) :: st) σ lv2 st2 σ2) : iv_Pn L xs 1267 d 285 pc lv st σ lv2 st2 σ2 := by
  rw [Nat.blt_eq] at hb
  have ne : ∀ q, q ≤ pc + 5 → Nat.beq q 1267 = false := fun q hq => p_ne (by rw [Nat.blt_eq]; omega)
  refine p_s (ne _ (by omega)) f0 (o_Ax hl.1) ?_
  refine p_s (ne _ (by omega)) f1 (o_Ix hl.2.2.2.2) ?_
  refine p_s (ne _ (by omega)) f2 rfl ?_
  refine p_s (ne _ (by omega)) f3 (show iv_oII (fun x y => x + y) L xs (pc + 4) lv (.int (Int32.ofNat k) :: .int (Int32.ofNat i) :: .ref 1 :: st) σ = some (pc + 5, lv, .int (Int32.ofNat (i + k)) :: .ref 1 :: st, σ) from by
    show some (pc + 4 + 1, lv, Value.int (Int32.ofNat i + Int32.ofNat k) :: .ref 1 :: st, σ) = _
    rw [show Int32.ofNat i + Int32.ofNat k = Int32.ofNat (i + k) from nI_add i k]) ?_
  exact p_s (ne _ (by omega)) f4 (o_scr hk hL) K
section ARG
variable {σ : iv_H} {a ci : Nat} {fs : List Value} {x1 x2 x3 x4 x5 : Value} {st : List Value}
theorem ar_0 (ho : iv_get σ a = some (.inr (ci, fs))) (hs : Nat.ble (iv_cs st) 8 = true := by rfl) : iv_args 6 0 ci (.ref a :: st) σ = some ([.ref a], st) := by
  simp only [iv_args, iv_pop, ho, hs, show Nat.beq 6 4 = false from rfl, show Nat.beq 6 6 = true from rfl, Nat.beq_refl, cond_true, cond_false]
theorem ar_1 (ho : iv_get σ a = some (.inr (ci, fs))) (hs : Nat.ble (iv_cs st) 8 = true := by rfl) : iv_args 6 1 ci (x1 :: .ref a :: st) σ = some ([.ref a, x1], st) := by
  simp only [iv_args, iv_pop, ho, hs, show Nat.beq 6 4 = false from rfl, show Nat.beq 6 6 = true from rfl, Nat.beq_refl, cond_true, cond_false]
theorem ar_2 (ho : iv_get σ a = some (.inr (ci, fs))) (hs : Nat.ble (iv_cs st) 8 = true := by rfl) : iv_args 6 2 ci (x2 :: x1 :: .ref a :: st) σ = some ([.ref a, x1, x2], st) := by
  simp only [iv_args, iv_pop, ho, hs, show Nat.beq 6 4 = false from rfl, show Nat.beq 6 6 = true from rfl, Nat.beq_refl, cond_true, cond_false]
theorem ar_3 (ho : iv_get σ a = some (.inr (ci, fs))) (hs : Nat.ble (iv_cs st) 8 = true := by rfl) : iv_args 6 3 ci (x3 :: x2 :: x1 :: .ref a :: st) σ = some ([.ref a, x1, x2, x3], st) := by
  simp only [iv_args, iv_pop, ho, hs, show Nat.beq 6 4 = false from rfl, show Nat.beq 6 6 = true from rfl, Nat.beq_refl, cond_true, cond_false]
theorem ar_5 (ho : iv_get σ a = some (.inr (ci, fs))) (hs : Nat.ble (iv_cs st) 8 = true := by rfl) : iv_args 6 5 ci (x5 :: x4 :: x3 :: x2 :: x1 :: .ref a :: st) σ = some ([.ref a, x1, x2, x3, x4, x5], st) := by
  simp only [iv_args, iv_pop, ho, hs, show Nat.beq 6 4 = false from rfl, show Nat.beq 6 6 = true from rfl, Nat.beq_refl, cond_true, cond_false]
end ARG

set_option maxRecDepth 100000 in
theorem fq_204 : iv_f1 (iv_p 285) 204 = some (.inl (iv_oA 1 1)) := rfl
set_option maxRecDepth 100000 in
theorem fq_205 : iv_f1 (iv_p 285) 205 = some (.inl (iv_oA 0 1)) := rfl
set_option maxRecDepth 100000 in
theorem fq_206 : iv_f1 (iv_p 285) 206 = some (.inl (iv_oI 4 2)) := rfl
set_option maxRecDepth 100000 in
theorem fq_208 : iv_f1 (iv_p 285) 208 = some (.inl (iv_oK (.int (Int32.ofNat 1)) 1)) := rfl
set_option maxRecDepth 100000 in
theorem fq_209 : iv_f1 (iv_p 285) 209 = some (.inl (iv_oII fun x y => x + y)) := rfl
set_option maxRecDepth 100000 in
theorem fq_210 : iv_f1 (iv_p 285) 210 = some (.inl iv_oIl) := rfl
set_option maxRecDepth 100000 in
theorem fq_211 : iv_f1 (iv_p 285) 211 = some (.inl (iv_oA 0 1)) := rfl
set_option maxRecDepth 100000 in
theorem fq_212 : iv_f1 (iv_p 285) 212 = some (.inl (iv_oI 4 2)) := rfl
set_option maxRecDepth 100000 in
theorem fq_214 : iv_f1 (iv_p 285) 214 = some (.inl (iv_oK (.int (Int32.ofNat 2)) 1)) := rfl
set_option maxRecDepth 100000 in
theorem fq_215 : iv_f1 (iv_p 285) 215 = some (.inl (iv_oII fun x y => x + y)) := rfl
set_option maxRecDepth 100000 in
theorem fq_216 : iv_f1 (iv_p 285) 216 = some (.inl iv_oIl) := rfl
set_option maxRecDepth 100000 in
theorem fq_217 : iv_f1 (iv_p 285) 217 = some (.inl (iv_oA 0 1)) := rfl
set_option maxRecDepth 100000 in
theorem fq_218 : iv_f1 (iv_p 285) 218 = some (.inl (iv_oI 4 2)) := rfl
set_option maxRecDepth 100000 in
theorem fq_220 : iv_f1 (iv_p 285) 220 = some (.inl (iv_oK (.int (Int32.ofNat 3)) 1)) := rfl
set_option maxRecDepth 100000 in
theorem fq_221 : iv_f1 (iv_p 285) 221 = some (.inl (iv_oII fun x y => x + y)) := rfl
set_option maxRecDepth 100000 in
theorem fq_222 : iv_f1 (iv_p 285) 222 = some (.inl iv_oIl) := rfl
set_option maxRecDepth 100000 in
theorem fq_223 : iv_f1 (iv_p 285) 223 = some (.inl (iv_oA 0 1)) := rfl
set_option maxRecDepth 100000 in
theorem fq_224 : iv_f1 (iv_p 285) 224 = some (.inl (iv_oI 4 2)) := rfl
set_option maxRecDepth 100000 in
theorem fq_226 : iv_f1 (iv_p 285) 226 = some (.inl (iv_oK (.int (Int32.ofNat 4)) 1)) := rfl
set_option maxRecDepth 100000 in
theorem fq_227 : iv_f1 (iv_p 285) 227 = some (.inl (iv_oII fun x y => x + y)) := rfl
set_option maxRecDepth 100000 in
theorem fq_228 : iv_f1 (iv_p 285) 228 = some (.inl iv_oIl) := rfl
set_option maxRecDepth 100000 in
theorem fq_229 : iv_f1 (iv_p 285) 229 = some (.inl (iv_oA 0 1)) := rfl
set_option maxRecDepth 100000 in
theorem fq_230 : iv_f1 (iv_p 285) 230 = some (.inl (iv_oI 4 2)) := rfl
set_option maxRecDepth 100000 in
theorem fq_232 : iv_f1 (iv_p 285) 232 = some (.inl (iv_oK (.int (Int32.ofNat 5)) 1)) := rfl
set_option maxRecDepth 100000 in
theorem fq_233 : iv_f1 (iv_p 285) 233 = some (.inl (iv_oII fun x y => x + y)) := rfl
set_option maxRecDepth 100000 in
theorem fq_234 : iv_f1 (iv_p 285) 234 = some (.inl iv_oIl) := rfl
set_option maxRecDepth 100000 in
theorem fq_235 : iv_f1 (iv_p 285) 235 = some (.inr (.inr (6, 113, 5, 11))) := rfl
set_option maxRecDepth 100000 in
theorem fq_238 : iv_f1 (iv_p 285) 238 = some (.inl iv_oPop) := rfl
set_option maxRecDepth 100000 in
theorem fq_239 : iv_f1 (iv_p 285) 239 = some (.inl (iv_oA 2 1)) := rfl
set_option maxRecDepth 100000 in
theorem fq_240 : iv_f1 (iv_p 285) 240 = some (.inl (iv_oA 0 1)) := rfl
set_option maxRecDepth 100000 in
theorem fq_241 : iv_f1 (iv_p 285) 241 = some (.inl (iv_oI 4 2)) := rfl
set_option maxRecDepth 100000 in
theorem fq_243 : iv_f1 (iv_p 285) 243 = some (.inl (iv_oK (.int (Int32.ofNat 1)) 1)) := rfl
set_option maxRecDepth 100000 in
theorem fq_244 : iv_f1 (iv_p 285) 244 = some (.inl (iv_oII fun x y => x + y)) := rfl
set_option maxRecDepth 100000 in
theorem fq_245 : iv_f1 (iv_p 285) 245 = some (.inl iv_oIl) := rfl
set_option maxRecDepth 100000 in
theorem fq_246 : iv_f1 (iv_p 285) 246 = some (.inl (iv_oA 0 1)) := rfl
set_option maxRecDepth 100000 in
theorem fq_247 : iv_f1 (iv_p 285) 247 = some (.inl (iv_oI 4 2)) := rfl
set_option maxRecDepth 100000 in
theorem fq_249 : iv_f1 (iv_p 285) 249 = some (.inl (iv_oK (.int (Int32.ofNat 2)) 1)) := rfl
set_option maxRecDepth 100000 in
theorem fq_250 : iv_f1 (iv_p 285) 250 = some (.inl (iv_oII fun x y => x + y)) := rfl
set_option maxRecDepth 100000 in
theorem fq_251 : iv_f1 (iv_p 285) 251 = some (.inl iv_oIl) := rfl
set_option maxRecDepth 100000 in
theorem fq_252 : iv_f1 (iv_p 285) 252 = some (.inl (iv_oA 0 1)) := rfl
set_option maxRecDepth 100000 in
theorem fq_253 : iv_f1 (iv_p 285) 253 = some (.inl (iv_oI 4 2)) := rfl
set_option maxRecDepth 100000 in
theorem fq_255 : iv_f1 (iv_p 285) 255 = some (.inl (iv_oK (.int (Int32.ofNat 3)) 1)) := rfl
set_option maxRecDepth 100000 in
theorem fq_256 : iv_f1 (iv_p 285) 256 = some (.inl (iv_oII fun x y => x + y)) := rfl
set_option maxRecDepth 100000 in
theorem fq_257 : iv_f1 (iv_p 285) 257 = some (.inl iv_oIl) := rfl
set_option maxRecDepth 100000 in
theorem fq_258 : iv_f1 (iv_p 285) 258 = some (.inl (iv_oA 0 1)) := rfl
set_option maxRecDepth 100000 in
theorem fq_259 : iv_f1 (iv_p 285) 259 = some (.inl (iv_oI 4 2)) := rfl
set_option maxRecDepth 100000 in
theorem fq_261 : iv_f1 (iv_p 285) 261 = some (.inl (iv_oK (.int (Int32.ofNat 4)) 1)) := rfl
set_option maxRecDepth 100000 in
theorem fq_262 : iv_f1 (iv_p 285) 262 = some (.inl (iv_oII fun x y => x + y)) := rfl
set_option maxRecDepth 100000 in
theorem fq_263 : iv_f1 (iv_p 285) 263 = some (.inl iv_oIl) := rfl
set_option maxRecDepth 100000 in
theorem fq_264 : iv_f1 (iv_p 285) 264 = some (.inl (iv_oA 0 1)) := rfl
set_option maxRecDepth 100000 in
theorem fq_265 : iv_f1 (iv_p 285) 265 = some (.inl (iv_oI 4 2)) := rfl
set_option maxRecDepth 100000 in
theorem fq_267 : iv_f1 (iv_p 285) 267 = some (.inl (iv_oK (.int (Int32.ofNat 5)) 1)) := rfl
set_option maxRecDepth 100000 in
theorem fq_268 : iv_f1 (iv_p 285) 268 = some (.inl (iv_oII fun x y => x + y)) := rfl
set_option maxRecDepth 100000 in
theorem fq_269 : iv_f1 (iv_p 285) 269 = some (.inl iv_oIl) := rfl
set_option maxRecDepth 100000 in
theorem fq_270 : iv_f1 (iv_p 285) 270 = some (.inr (.inr (6, 157, 5, 12))) := rfl
set_option maxRecDepth 100000 in
theorem fq_273 : iv_f1 (iv_p 285) 273 = some (.inl iv_oPop) := rfl
set_option maxRecDepth 100000 in
theorem fq_274 : iv_f1 (iv_p 285) 274 = some (.inl (iv_oGo (993))) := rfl
set_option maxRecDepth 100000 in
theorem fq_277 : iv_f1 (iv_p 285) 277 = some (.inl (iv_oA 1 1)) := rfl
set_option maxRecDepth 100000 in
theorem fq_278 : iv_f1 (iv_p 285) 278 = some (.inl (iv_oA 0 1)) := rfl
set_option maxRecDepth 100000 in
theorem fq_279 : iv_f1 (iv_p 285) 279 = some (.inl (iv_oI 4 2)) := rfl
set_option maxRecDepth 100000 in
theorem fq_281 : iv_f1 (iv_p 285) 281 = some (.inl (iv_oK (.int (Int32.ofNat 1)) 1)) := rfl
set_option maxRecDepth 100000 in
theorem fq_282 : iv_f1 (iv_p 285) 282 = some (.inl (iv_oII fun x y => x + y)) := rfl
set_option maxRecDepth 100000 in
theorem fq_283 : iv_f1 (iv_p 285) 283 = some (.inl iv_oIl) := rfl
set_option maxRecDepth 100000 in
theorem fq_284 : iv_f1 (iv_p 285) 284 = some (.inr (.inr (6, 115, 1, 11))) := rfl
set_option maxRecDepth 100000 in
theorem fq_287 : iv_f1 (iv_p 285) 287 = some (.inl iv_oPop) := rfl
set_option maxRecDepth 100000 in
theorem fq_288 : iv_f1 (iv_p 285) 288 = some (.inl (iv_oA 2 1)) := rfl
set_option maxRecDepth 100000 in
theorem fq_289 : iv_f1 (iv_p 285) 289 = some (.inl (iv_oA 0 1)) := rfl
set_option maxRecDepth 100000 in
theorem fq_290 : iv_f1 (iv_p 285) 290 = some (.inl (iv_oI 4 2)) := rfl
set_option maxRecDepth 100000 in
theorem fq_292 : iv_f1 (iv_p 285) 292 = some (.inl (iv_oK (.int (Int32.ofNat 1)) 1)) := rfl
set_option maxRecDepth 100000 in
theorem fq_293 : iv_f1 (iv_p 285) 293 = some (.inl (iv_oII fun x y => x + y)) := rfl
set_option maxRecDepth 100000 in
theorem fq_294 : iv_f1 (iv_p 285) 294 = some (.inl iv_oIl) := rfl
set_option maxRecDepth 100000 in
theorem fq_295 : iv_f1 (iv_p 285) 295 = some (.inr (.inr (6, 158, 1, 12))) := rfl
set_option maxRecDepth 100000 in
theorem fq_298 : iv_f1 (iv_p 285) 298 = some (.inl iv_oPop) := rfl
set_option maxRecDepth 100000 in
theorem fq_299 : iv_f1 (iv_p 285) 299 = some (.inl (iv_oGo (968))) := rfl
set_option maxRecDepth 100000 in
theorem fq_302 : iv_f1 (iv_p 285) 302 = some (.inl (iv_oA 1 1)) := rfl
set_option maxRecDepth 100000 in
theorem fq_303 : iv_f1 (iv_p 285) 303 = some (.inr (.inr (6, 117, 0, 11))) := rfl
set_option maxRecDepth 100000 in
theorem fq_306 : iv_f1 (iv_p 285) 306 = some (.inl iv_oPop) := rfl
set_option maxRecDepth 100000 in
theorem fq_307 : iv_f1 (iv_p 285) 307 = some (.inl (iv_oA 2 1)) := rfl
set_option maxRecDepth 100000 in
theorem fq_308 : iv_f1 (iv_p 285) 308 = some (.inr (.inr (6, 191, 0, 12))) := rfl
set_option maxRecDepth 100000 in
theorem fq_311 : iv_f1 (iv_p 285) 311 = some (.inl iv_oPop) := rfl
set_option maxRecDepth 100000 in
theorem fq_312 : iv_f1 (iv_p 285) 312 = some (.inl (iv_oGo (955))) := rfl
set_option maxRecDepth 100000 in
theorem fq_315 : iv_f1 (iv_p 285) 315 = some (.inl (iv_oA 1 1)) := rfl
set_option maxRecDepth 100000 in
theorem fq_316 : iv_f1 (iv_p 285) 316 = some (.inr (.inr (6, 118, 0, 11))) := rfl
set_option maxRecDepth 100000 in
theorem fq_319 : iv_f1 (iv_p 285) 319 = some (.inl (iv_oA 2 1)) := rfl
set_option maxRecDepth 100000 in
theorem fq_320 : iv_f1 (iv_p 285) 320 = some (.inr (.inr (6, 192, 0, 12))) := rfl
set_option maxRecDepth 100000 in
theorem fq_323 : iv_f1 (iv_p 285) 323 = some (.inl (iv_oIc .eq (944))) := rfl
set_option maxRecDepth 100000 in
theorem fq_368 : iv_f1 (iv_p 285) 368 = some (.inl (iv_oA 1 1)) := rfl
set_option maxRecDepth 100000 in
theorem fq_369 : iv_f1 (iv_p 285) 369 = some (.inl (iv_oA 0 1)) := rfl
set_option maxRecDepth 100000 in
theorem fq_370 : iv_f1 (iv_p 285) 370 = some (.inl (iv_oI 4 2)) := rfl
set_option maxRecDepth 100000 in
theorem fq_372 : iv_f1 (iv_p 285) 372 = some (.inl (iv_oK (.int (Int32.ofNat 1)) 1)) := rfl
set_option maxRecDepth 100000 in
theorem fq_373 : iv_f1 (iv_p 285) 373 = some (.inl (iv_oII fun x y => x + y)) := rfl
set_option maxRecDepth 100000 in
theorem fq_374 : iv_f1 (iv_p 285) 374 = some (.inl iv_oIl) := rfl
set_option maxRecDepth 100000 in
theorem fq_375 : iv_f1 (iv_p 285) 375 = some (.inl (iv_oA 0 1)) := rfl
set_option maxRecDepth 100000 in
theorem fq_376 : iv_f1 (iv_p 285) 376 = some (.inl (iv_oI 4 2)) := rfl
set_option maxRecDepth 100000 in
theorem fq_378 : iv_f1 (iv_p 285) 378 = some (.inl (iv_oK (.int (Int32.ofNat 2)) 1)) := rfl
set_option maxRecDepth 100000 in
theorem fq_379 : iv_f1 (iv_p 285) 379 = some (.inl (iv_oII fun x y => x + y)) := rfl
set_option maxRecDepth 100000 in
theorem fq_380 : iv_f1 (iv_p 285) 380 = some (.inl iv_oIl) := rfl
set_option maxRecDepth 100000 in
theorem fq_381 : iv_f1 (iv_p 285) 381 = some (.inr (.inr (6, 120, 2, 11))) := rfl
set_option maxRecDepth 100000 in
theorem fq_384 : iv_f1 (iv_p 285) 384 = some (.inl iv_oPop) := rfl
set_option maxRecDepth 100000 in
theorem fq_385 : iv_f1 (iv_p 285) 385 = some (.inl (iv_oA 2 1)) := rfl
set_option maxRecDepth 100000 in
theorem fq_386 : iv_f1 (iv_p 285) 386 = some (.inl (iv_oA 0 1)) := rfl
set_option maxRecDepth 100000 in
theorem fq_387 : iv_f1 (iv_p 285) 387 = some (.inl (iv_oI 4 2)) := rfl
set_option maxRecDepth 100000 in
theorem fq_389 : iv_f1 (iv_p 285) 389 = some (.inl (iv_oK (.int (Int32.ofNat 1)) 1)) := rfl
set_option maxRecDepth 100000 in
theorem fq_390 : iv_f1 (iv_p 285) 390 = some (.inl (iv_oII fun x y => x + y)) := rfl
set_option maxRecDepth 100000 in
theorem fq_391 : iv_f1 (iv_p 285) 391 = some (.inl iv_oIl) := rfl
set_option maxRecDepth 100000 in
theorem fq_392 : iv_f1 (iv_p 285) 392 = some (.inl (iv_oA 0 1)) := rfl
set_option maxRecDepth 100000 in
theorem fq_393 : iv_f1 (iv_p 285) 393 = some (.inl (iv_oI 4 2)) := rfl
set_option maxRecDepth 100000 in
theorem fq_395 : iv_f1 (iv_p 285) 395 = some (.inl (iv_oK (.int (Int32.ofNat 2)) 1)) := rfl
set_option maxRecDepth 100000 in
theorem fq_396 : iv_f1 (iv_p 285) 396 = some (.inl (iv_oII fun x y => x + y)) := rfl
set_option maxRecDepth 100000 in
theorem fq_397 : iv_f1 (iv_p 285) 397 = some (.inl iv_oIl) := rfl
set_option maxRecDepth 100000 in
theorem fq_398 : iv_f1 (iv_p 285) 398 = some (.inr (.inr (6, 204, 2, 12))) := rfl
set_option maxRecDepth 100000 in
theorem fq_401 : iv_f1 (iv_p 285) 401 = some (.inl iv_oPop) := rfl
set_option maxRecDepth 100000 in
theorem fq_402 : iv_f1 (iv_p 285) 402 = some (.inl (iv_oGo (865))) := rfl
set_option maxRecDepth 100000 in
theorem fq_405 : iv_f1 (iv_p 285) 405 = some (.inl (iv_oA 1 1)) := rfl
set_option maxRecDepth 100000 in
theorem fq_406 : iv_f1 (iv_p 285) 406 = some (.inl (iv_oA 0 1)) := rfl
set_option maxRecDepth 100000 in
theorem fq_407 : iv_f1 (iv_p 285) 407 = some (.inl (iv_oI 4 2)) := rfl
set_option maxRecDepth 100000 in
theorem fq_409 : iv_f1 (iv_p 285) 409 = some (.inl (iv_oK (.int (Int32.ofNat 1)) 1)) := rfl
set_option maxRecDepth 100000 in
theorem fq_410 : iv_f1 (iv_p 285) 410 = some (.inl (iv_oII fun x y => x + y)) := rfl
set_option maxRecDepth 100000 in
theorem fq_411 : iv_f1 (iv_p 285) 411 = some (.inl iv_oIl) := rfl
set_option maxRecDepth 100000 in
theorem fq_412 : iv_f1 (iv_p 285) 412 = some (.inr (.inr (6, 121, 1, 11))) := rfl
set_option maxRecDepth 100000 in
theorem fq_415 : iv_f1 (iv_p 285) 415 = some (.inl iv_oPop) := rfl
set_option maxRecDepth 100000 in
theorem fq_416 : iv_f1 (iv_p 285) 416 = some (.inl (iv_oA 2 1)) := rfl
set_option maxRecDepth 100000 in
theorem fq_417 : iv_f1 (iv_p 285) 417 = some (.inl (iv_oA 0 1)) := rfl
set_option maxRecDepth 100000 in
theorem fq_418 : iv_f1 (iv_p 285) 418 = some (.inl (iv_oI 4 2)) := rfl
set_option maxRecDepth 100000 in
theorem fq_420 : iv_f1 (iv_p 285) 420 = some (.inl (iv_oK (.int (Int32.ofNat 1)) 1)) := rfl
set_option maxRecDepth 100000 in
theorem fq_421 : iv_f1 (iv_p 285) 421 = some (.inl (iv_oII fun x y => x + y)) := rfl
set_option maxRecDepth 100000 in
theorem fq_422 : iv_f1 (iv_p 285) 422 = some (.inl iv_oIl) := rfl
set_option maxRecDepth 100000 in
theorem fq_423 : iv_f1 (iv_p 285) 423 = some (.inr (.inr (6, 206, 1, 12))) := rfl
set_option maxRecDepth 100000 in
theorem fq_426 : iv_f1 (iv_p 285) 426 = some (.inl iv_oPop) := rfl
set_option maxRecDepth 100000 in
theorem fq_427 : iv_f1 (iv_p 285) 427 = some (.inl (iv_oGo (840))) := rfl
set_option maxRecDepth 100000 in
theorem fq_430 : iv_f1 (iv_p 285) 430 = some (.inl (iv_oA 1 1)) := rfl
set_option maxRecDepth 100000 in
theorem fq_431 : iv_f1 (iv_p 285) 431 = some (.inl (iv_oA 0 1)) := rfl
set_option maxRecDepth 100000 in
theorem fq_432 : iv_f1 (iv_p 285) 432 = some (.inl (iv_oI 4 2)) := rfl
set_option maxRecDepth 100000 in
theorem fq_434 : iv_f1 (iv_p 285) 434 = some (.inl (iv_oK (.int (Int32.ofNat 1)) 1)) := rfl
set_option maxRecDepth 100000 in
theorem fq_435 : iv_f1 (iv_p 285) 435 = some (.inl (iv_oII fun x y => x + y)) := rfl
set_option maxRecDepth 100000 in
theorem fq_436 : iv_f1 (iv_p 285) 436 = some (.inl iv_oIl) := rfl
set_option maxRecDepth 100000 in
theorem fq_437 : iv_f1 (iv_p 285) 437 = some (.inl (iv_oA 0 1)) := rfl
set_option maxRecDepth 100000 in
theorem fq_438 : iv_f1 (iv_p 285) 438 = some (.inl (iv_oI 4 2)) := rfl
set_option maxRecDepth 100000 in
theorem fq_440 : iv_f1 (iv_p 285) 440 = some (.inl (iv_oK (.int (Int32.ofNat 2)) 1)) := rfl
set_option maxRecDepth 100000 in
theorem fq_441 : iv_f1 (iv_p 285) 441 = some (.inl (iv_oII fun x y => x + y)) := rfl
set_option maxRecDepth 100000 in
theorem fq_442 : iv_f1 (iv_p 285) 442 = some (.inl iv_oIl) := rfl
set_option maxRecDepth 100000 in
theorem fq_443 : iv_f1 (iv_p 285) 443 = some (.inl (iv_oA 0 1)) := rfl
set_option maxRecDepth 100000 in
theorem fq_444 : iv_f1 (iv_p 285) 444 = some (.inl (iv_oI 4 2)) := rfl
set_option maxRecDepth 100000 in
theorem fq_446 : iv_f1 (iv_p 285) 446 = some (.inl (iv_oK (.int (Int32.ofNat 3)) 1)) := rfl
set_option maxRecDepth 100000 in
theorem fq_447 : iv_f1 (iv_p 285) 447 = some (.inl (iv_oII fun x y => x + y)) := rfl
set_option maxRecDepth 100000 in
theorem fq_448 : iv_f1 (iv_p 285) 448 = some (.inl iv_oIl) := rfl
set_option maxRecDepth 100000 in
theorem fq_449 : iv_f1 (iv_p 285) 449 = some (.inr (.inr (6, 122, 3, 11))) := rfl
set_option maxRecDepth 100000 in
theorem fq_452 : iv_f1 (iv_p 285) 452 = some (.inl iv_oPop) := rfl
set_option maxRecDepth 100000 in
theorem fq_453 : iv_f1 (iv_p 285) 453 = some (.inl (iv_oA 2 1)) := rfl
set_option maxRecDepth 100000 in
theorem fq_454 : iv_f1 (iv_p 285) 454 = some (.inl (iv_oA 0 1)) := rfl
set_option maxRecDepth 100000 in
theorem fq_455 : iv_f1 (iv_p 285) 455 = some (.inl (iv_oI 4 2)) := rfl
set_option maxRecDepth 100000 in
theorem fq_457 : iv_f1 (iv_p 285) 457 = some (.inl (iv_oK (.int (Int32.ofNat 1)) 1)) := rfl
set_option maxRecDepth 100000 in
theorem fq_458 : iv_f1 (iv_p 285) 458 = some (.inl (iv_oII fun x y => x + y)) := rfl
set_option maxRecDepth 100000 in
theorem fq_459 : iv_f1 (iv_p 285) 459 = some (.inl iv_oIl) := rfl
set_option maxRecDepth 100000 in
theorem fq_460 : iv_f1 (iv_p 285) 460 = some (.inl (iv_oA 0 1)) := rfl
set_option maxRecDepth 100000 in
theorem fq_461 : iv_f1 (iv_p 285) 461 = some (.inl (iv_oI 4 2)) := rfl
set_option maxRecDepth 100000 in
theorem fq_463 : iv_f1 (iv_p 285) 463 = some (.inl (iv_oK (.int (Int32.ofNat 2)) 1)) := rfl
set_option maxRecDepth 100000 in
theorem fq_464 : iv_f1 (iv_p 285) 464 = some (.inl (iv_oII fun x y => x + y)) := rfl
set_option maxRecDepth 100000 in
theorem fq_465 : iv_f1 (iv_p 285) 465 = some (.inl iv_oIl) := rfl
set_option maxRecDepth 100000 in
theorem fq_466 : iv_f1 (iv_p 285) 466 = some (.inl (iv_oA 0 1)) := rfl
set_option maxRecDepth 100000 in
theorem fq_467 : iv_f1 (iv_p 285) 467 = some (.inl (iv_oI 4 2)) := rfl
set_option maxRecDepth 100000 in
theorem fq_469 : iv_f1 (iv_p 285) 469 = some (.inl (iv_oK (.int (Int32.ofNat 3)) 1)) := rfl
set_option maxRecDepth 100000 in
theorem fq_470 : iv_f1 (iv_p 285) 470 = some (.inl (iv_oII fun x y => x + y)) := rfl
set_option maxRecDepth 100000 in
theorem fq_471 : iv_f1 (iv_p 285) 471 = some (.inl iv_oIl) := rfl
set_option maxRecDepth 100000 in
theorem fq_472 : iv_f1 (iv_p 285) 472 = some (.inr (.inr (6, 214, 3, 12))) := rfl
set_option maxRecDepth 100000 in
theorem fq_475 : iv_f1 (iv_p 285) 475 = some (.inl iv_oPop) := rfl
set_option maxRecDepth 100000 in
theorem fq_476 : iv_f1 (iv_p 285) 476 = some (.inl (iv_oGo (791))) := rfl
set_option maxRecDepth 100000 in
theorem fq_479 : iv_f1 (iv_p 285) 479 = some (.inl (iv_oA 1 1)) := rfl
set_option maxRecDepth 100000 in
theorem fq_480 : iv_f1 (iv_p 285) 480 = some (.inl (iv_oA 0 1)) := rfl
set_option maxRecDepth 100000 in
theorem fq_481 : iv_f1 (iv_p 285) 481 = some (.inl (iv_oI 4 2)) := rfl
set_option maxRecDepth 100000 in
theorem fq_483 : iv_f1 (iv_p 285) 483 = some (.inl (iv_oK (.int (Int32.ofNat 1)) 1)) := rfl
set_option maxRecDepth 100000 in
theorem fq_484 : iv_f1 (iv_p 285) 484 = some (.inl (iv_oII fun x y => x + y)) := rfl
set_option maxRecDepth 100000 in
theorem fq_485 : iv_f1 (iv_p 285) 485 = some (.inl iv_oIl) := rfl
set_option maxRecDepth 100000 in
theorem fq_486 : iv_f1 (iv_p 285) 486 = some (.inl (iv_oA 0 1)) := rfl
set_option maxRecDepth 100000 in
theorem fq_487 : iv_f1 (iv_p 285) 487 = some (.inl (iv_oI 4 2)) := rfl
set_option maxRecDepth 100000 in
theorem fq_489 : iv_f1 (iv_p 285) 489 = some (.inl (iv_oK (.int (Int32.ofNat 2)) 1)) := rfl
set_option maxRecDepth 100000 in
theorem fq_490 : iv_f1 (iv_p 285) 490 = some (.inl (iv_oII fun x y => x + y)) := rfl
set_option maxRecDepth 100000 in
theorem fq_491 : iv_f1 (iv_p 285) 491 = some (.inl iv_oIl) := rfl
set_option maxRecDepth 100000 in
theorem fq_492 : iv_f1 (iv_p 285) 492 = some (.inr (.inr (6, 123, 2, 11))) := rfl
set_option maxRecDepth 100000 in
theorem fq_495 : iv_f1 (iv_p 285) 495 = some (.inl iv_oPop) := rfl
set_option maxRecDepth 100000 in
theorem fq_496 : iv_f1 (iv_p 285) 496 = some (.inl (iv_oA 2 1)) := rfl
set_option maxRecDepth 100000 in
theorem fq_497 : iv_f1 (iv_p 285) 497 = some (.inl (iv_oA 0 1)) := rfl
set_option maxRecDepth 100000 in
theorem fq_498 : iv_f1 (iv_p 285) 498 = some (.inl (iv_oI 4 2)) := rfl
set_option maxRecDepth 100000 in
theorem fq_500 : iv_f1 (iv_p 285) 500 = some (.inl (iv_oK (.int (Int32.ofNat 1)) 1)) := rfl
set_option maxRecDepth 100000 in
theorem fq_501 : iv_f1 (iv_p 285) 501 = some (.inl (iv_oII fun x y => x + y)) := rfl
set_option maxRecDepth 100000 in
theorem fq_502 : iv_f1 (iv_p 285) 502 = some (.inl iv_oIl) := rfl
set_option maxRecDepth 100000 in
theorem fq_503 : iv_f1 (iv_p 285) 503 = some (.inl (iv_oA 0 1)) := rfl
set_option maxRecDepth 100000 in
theorem fq_504 : iv_f1 (iv_p 285) 504 = some (.inl (iv_oI 4 2)) := rfl
set_option maxRecDepth 100000 in
theorem fq_506 : iv_f1 (iv_p 285) 506 = some (.inl (iv_oK (.int (Int32.ofNat 2)) 1)) := rfl
set_option maxRecDepth 100000 in
theorem fq_507 : iv_f1 (iv_p 285) 507 = some (.inl (iv_oII fun x y => x + y)) := rfl
set_option maxRecDepth 100000 in
theorem fq_508 : iv_f1 (iv_p 285) 508 = some (.inl iv_oIl) := rfl
set_option maxRecDepth 100000 in
theorem fq_509 : iv_f1 (iv_p 285) 509 = some (.inr (.inr (6, 215, 2, 12))) := rfl
set_option maxRecDepth 100000 in
theorem fq_512 : iv_f1 (iv_p 285) 512 = some (.inl iv_oPop) := rfl
set_option maxRecDepth 100000 in
theorem fq_513 : iv_f1 (iv_p 285) 513 = some (.inl (iv_oGo (754))) := rfl
set_option maxRecDepth 100000 in
theorem fq_516 : iv_f1 (iv_p 285) 516 = some (.inl (iv_oA 1 1)) := rfl
set_option maxRecDepth 100000 in
theorem fq_517 : iv_f1 (iv_p 285) 517 = some (.inl (iv_oA 0 1)) := rfl
set_option maxRecDepth 100000 in
theorem fq_518 : iv_f1 (iv_p 285) 518 = some (.inl (iv_oI 4 2)) := rfl
set_option maxRecDepth 100000 in
theorem fq_520 : iv_f1 (iv_p 285) 520 = some (.inl (iv_oK (.int (Int32.ofNat 1)) 1)) := rfl
set_option maxRecDepth 100000 in
theorem fq_521 : iv_f1 (iv_p 285) 521 = some (.inl (iv_oII fun x y => x + y)) := rfl
set_option maxRecDepth 100000 in
theorem fq_522 : iv_f1 (iv_p 285) 522 = some (.inl iv_oIl) := rfl
set_option maxRecDepth 100000 in
theorem fq_523 : iv_f1 (iv_p 285) 523 = some (.inr (.inr (6, 124, 1, 11))) := rfl
set_option maxRecDepth 100000 in
theorem fq_526 : iv_f1 (iv_p 285) 526 = some (.inl iv_oPop) := rfl
set_option maxRecDepth 100000 in
theorem fq_527 : iv_f1 (iv_p 285) 527 = some (.inl (iv_oA 2 1)) := rfl
set_option maxRecDepth 100000 in
theorem fq_528 : iv_f1 (iv_p 285) 528 = some (.inl (iv_oA 0 1)) := rfl
set_option maxRecDepth 100000 in
theorem fq_529 : iv_f1 (iv_p 285) 529 = some (.inl (iv_oI 4 2)) := rfl
set_option maxRecDepth 100000 in
theorem fq_531 : iv_f1 (iv_p 285) 531 = some (.inl (iv_oK (.int (Int32.ofNat 1)) 1)) := rfl
set_option maxRecDepth 100000 in
theorem fq_532 : iv_f1 (iv_p 285) 532 = some (.inl (iv_oII fun x y => x + y)) := rfl
set_option maxRecDepth 100000 in
theorem fq_533 : iv_f1 (iv_p 285) 533 = some (.inl iv_oIl) := rfl
set_option maxRecDepth 100000 in
theorem fq_534 : iv_f1 (iv_p 285) 534 = some (.inr (.inr (6, 216, 1, 12))) := rfl
set_option maxRecDepth 100000 in
theorem fq_537 : iv_f1 (iv_p 285) 537 = some (.inl iv_oPop) := rfl
set_option maxRecDepth 100000 in
theorem fq_538 : iv_f1 (iv_p 285) 538 = some (.inl (iv_oGo (729))) := rfl
set_option maxRecDepth 100000 in
theorem fq_541 : iv_f1 (iv_p 285) 541 = some (.inl (iv_oA 1 1)) := rfl
set_option maxRecDepth 100000 in
theorem fq_542 : iv_f1 (iv_p 285) 542 = some (.inl (iv_oA 0 1)) := rfl
set_option maxRecDepth 100000 in
theorem fq_543 : iv_f1 (iv_p 285) 543 = some (.inl (iv_oI 4 2)) := rfl
set_option maxRecDepth 100000 in
theorem fq_545 : iv_f1 (iv_p 285) 545 = some (.inl (iv_oK (.int (Int32.ofNat 1)) 1)) := rfl
set_option maxRecDepth 100000 in
theorem fq_546 : iv_f1 (iv_p 285) 546 = some (.inl (iv_oII fun x y => x + y)) := rfl
set_option maxRecDepth 100000 in
theorem fq_547 : iv_f1 (iv_p 285) 547 = some (.inl iv_oIl) := rfl
set_option maxRecDepth 100000 in
theorem fq_548 : iv_f1 (iv_p 285) 548 = some (.inl (iv_oA 0 1)) := rfl
set_option maxRecDepth 100000 in
theorem fq_549 : iv_f1 (iv_p 285) 549 = some (.inl (iv_oI 4 2)) := rfl
set_option maxRecDepth 100000 in
theorem fq_551 : iv_f1 (iv_p 285) 551 = some (.inl (iv_oK (.int (Int32.ofNat 2)) 1)) := rfl
set_option maxRecDepth 100000 in
theorem fq_552 : iv_f1 (iv_p 285) 552 = some (.inl (iv_oII fun x y => x + y)) := rfl
set_option maxRecDepth 100000 in
theorem fq_553 : iv_f1 (iv_p 285) 553 = some (.inl iv_oIl) := rfl
set_option maxRecDepth 100000 in
theorem fq_554 : iv_f1 (iv_p 285) 554 = some (.inr (.inr (6, 125, 2, 11))) := rfl
set_option maxRecDepth 100000 in
theorem fq_557 : iv_f1 (iv_p 285) 557 = some (.inl iv_oPop) := rfl
set_option maxRecDepth 100000 in
theorem fq_558 : iv_f1 (iv_p 285) 558 = some (.inl (iv_oA 2 1)) := rfl
set_option maxRecDepth 100000 in
theorem fq_559 : iv_f1 (iv_p 285) 559 = some (.inl (iv_oA 0 1)) := rfl
set_option maxRecDepth 100000 in
theorem fq_560 : iv_f1 (iv_p 285) 560 = some (.inl (iv_oI 4 2)) := rfl
set_option maxRecDepth 100000 in
theorem fq_562 : iv_f1 (iv_p 285) 562 = some (.inl (iv_oK (.int (Int32.ofNat 1)) 1)) := rfl
set_option maxRecDepth 100000 in
theorem fq_563 : iv_f1 (iv_p 285) 563 = some (.inl (iv_oII fun x y => x + y)) := rfl
set_option maxRecDepth 100000 in
theorem fq_564 : iv_f1 (iv_p 285) 564 = some (.inl iv_oIl) := rfl
set_option maxRecDepth 100000 in
theorem fq_565 : iv_f1 (iv_p 285) 565 = some (.inl (iv_oA 0 1)) := rfl
set_option maxRecDepth 100000 in
theorem fq_566 : iv_f1 (iv_p 285) 566 = some (.inl (iv_oI 4 2)) := rfl
set_option maxRecDepth 100000 in
theorem fq_568 : iv_f1 (iv_p 285) 568 = some (.inl (iv_oK (.int (Int32.ofNat 2)) 1)) := rfl
set_option maxRecDepth 100000 in
theorem fq_569 : iv_f1 (iv_p 285) 569 = some (.inl (iv_oII fun x y => x + y)) := rfl
set_option maxRecDepth 100000 in
theorem fq_570 : iv_f1 (iv_p 285) 570 = some (.inl iv_oIl) := rfl
set_option maxRecDepth 100000 in
theorem fq_571 : iv_f1 (iv_p 285) 571 = some (.inr (.inr (6, 217, 2, 12))) := rfl
set_option maxRecDepth 100000 in
theorem fq_574 : iv_f1 (iv_p 285) 574 = some (.inl iv_oPop) := rfl
set_option maxRecDepth 100000 in
theorem fq_575 : iv_f1 (iv_p 285) 575 = some (.inl (iv_oGo (692))) := rfl
set_option maxRecDepth 100000 in
theorem fq_578 : iv_f1 (iv_p 285) 578 = some (.inl (iv_oA 1 1)) := rfl
set_option maxRecDepth 100000 in
theorem fq_579 : iv_f1 (iv_p 285) 579 = some (.inl (iv_oA 0 1)) := rfl
set_option maxRecDepth 100000 in
theorem fq_580 : iv_f1 (iv_p 285) 580 = some (.inl (iv_oI 4 2)) := rfl
set_option maxRecDepth 100000 in
theorem fq_582 : iv_f1 (iv_p 285) 582 = some (.inl (iv_oK (.int (Int32.ofNat 1)) 1)) := rfl
set_option maxRecDepth 100000 in
theorem fq_583 : iv_f1 (iv_p 285) 583 = some (.inl (iv_oII fun x y => x + y)) := rfl
set_option maxRecDepth 100000 in
theorem fq_584 : iv_f1 (iv_p 285) 584 = some (.inl iv_oIl) := rfl
set_option maxRecDepth 100000 in
theorem fq_585 : iv_f1 (iv_p 285) 585 = some (.inr (.inr (6, 126, 1, 11))) := rfl
set_option maxRecDepth 100000 in
theorem fq_588 : iv_f1 (iv_p 285) 588 = some (.inl iv_oPop) := rfl
set_option maxRecDepth 100000 in
theorem fq_589 : iv_f1 (iv_p 285) 589 = some (.inl (iv_oA 2 1)) := rfl
set_option maxRecDepth 100000 in
theorem fq_590 : iv_f1 (iv_p 285) 590 = some (.inl (iv_oA 0 1)) := rfl
set_option maxRecDepth 100000 in
theorem fq_591 : iv_f1 (iv_p 285) 591 = some (.inl (iv_oI 4 2)) := rfl
set_option maxRecDepth 100000 in
theorem fq_593 : iv_f1 (iv_p 285) 593 = some (.inl (iv_oK (.int (Int32.ofNat 1)) 1)) := rfl
set_option maxRecDepth 100000 in
theorem fq_594 : iv_f1 (iv_p 285) 594 = some (.inl (iv_oII fun x y => x + y)) := rfl
set_option maxRecDepth 100000 in
theorem fq_595 : iv_f1 (iv_p 285) 595 = some (.inl iv_oIl) := rfl
set_option maxRecDepth 100000 in
theorem fq_596 : iv_f1 (iv_p 285) 596 = some (.inr (.inr (6, 218, 1, 12))) := rfl
set_option maxRecDepth 100000 in
theorem fq_599 : iv_f1 (iv_p 285) 599 = some (.inl iv_oPop) := rfl
set_option maxRecDepth 100000 in
theorem fq_600 : iv_f1 (iv_p 285) 600 = some (.inl (iv_oGo (667))) := rfl
set_option maxRecDepth 100000 in
theorem fq_603 : iv_f1 (iv_p 285) 603 = some (.inl (iv_oA 1 1)) := rfl
set_option maxRecDepth 100000 in
theorem fq_604 : iv_f1 (iv_p 285) 604 = some (.inl (iv_oA 0 1)) := rfl
set_option maxRecDepth 100000 in
theorem fq_605 : iv_f1 (iv_p 285) 605 = some (.inl (iv_oI 4 2)) := rfl
set_option maxRecDepth 100000 in
theorem fq_607 : iv_f1 (iv_p 285) 607 = some (.inl (iv_oK (.int (Int32.ofNat 1)) 1)) := rfl
set_option maxRecDepth 100000 in
theorem fq_608 : iv_f1 (iv_p 285) 608 = some (.inl (iv_oII fun x y => x + y)) := rfl
set_option maxRecDepth 100000 in
theorem fq_609 : iv_f1 (iv_p 285) 609 = some (.inl iv_oIl) := rfl
set_option maxRecDepth 100000 in
theorem fq_610 : iv_f1 (iv_p 285) 610 = some (.inr (.inr (6, 129, 1, 11))) := rfl
set_option maxRecDepth 100000 in
theorem fq_613 : iv_f1 (iv_p 285) 613 = some (.inl iv_oPop) := rfl
set_option maxRecDepth 100000 in
theorem fq_614 : iv_f1 (iv_p 285) 614 = some (.inl (iv_oA 2 1)) := rfl
set_option maxRecDepth 100000 in
theorem fq_615 : iv_f1 (iv_p 285) 615 = some (.inl (iv_oA 0 1)) := rfl
set_option maxRecDepth 100000 in
theorem fq_616 : iv_f1 (iv_p 285) 616 = some (.inl (iv_oI 4 2)) := rfl
set_option maxRecDepth 100000 in
theorem fq_618 : iv_f1 (iv_p 285) 618 = some (.inl (iv_oK (.int (Int32.ofNat 1)) 1)) := rfl
set_option maxRecDepth 100000 in
theorem fq_619 : iv_f1 (iv_p 285) 619 = some (.inl (iv_oII fun x y => x + y)) := rfl
set_option maxRecDepth 100000 in
theorem fq_620 : iv_f1 (iv_p 285) 620 = some (.inl iv_oIl) := rfl
set_option maxRecDepth 100000 in
theorem fq_621 : iv_f1 (iv_p 285) 621 = some (.inr (.inr (6, 222, 1, 12))) := rfl
set_option maxRecDepth 100000 in
theorem fq_624 : iv_f1 (iv_p 285) 624 = some (.inl iv_oPop) := rfl
set_option maxRecDepth 100000 in
theorem fq_625 : iv_f1 (iv_p 285) 625 = some (.inl (iv_oGo (642))) := rfl
set_option maxRecDepth 100000 in
theorem fq_628 : iv_f1 (iv_p 285) 628 = some (.inl (iv_oA 1 1)) := rfl
set_option maxRecDepth 100000 in
theorem fq_629 : iv_f1 (iv_p 285) 629 = some (.inr (.inr (6, 130, 0, 11))) := rfl
set_option maxRecDepth 100000 in
theorem fq_632 : iv_f1 (iv_p 285) 632 = some (.inl iv_oPop) := rfl
set_option maxRecDepth 100000 in
theorem fq_633 : iv_f1 (iv_p 285) 633 = some (.inl (iv_oA 2 1)) := rfl
set_option maxRecDepth 100000 in
theorem fq_634 : iv_f1 (iv_p 285) 634 = some (.inr (.inr (6, 219, 0, 12))) := rfl
set_option maxRecDepth 100000 in
theorem fq_637 : iv_f1 (iv_p 285) 637 = some (.inl iv_oPop) := rfl
set_option maxRecDepth 100000 in
theorem fq_638 : iv_f1 (iv_p 285) 638 = some (.inl (iv_oGo (629))) := rfl
set_option maxRecDepth 100000 in
theorem fq_641 : iv_f1 (iv_p 285) 641 = some (.inl (iv_oA 1 1)) := rfl
set_option maxRecDepth 100000 in
theorem fq_642 : iv_f1 (iv_p 285) 642 = some (.inl (iv_oA 0 1)) := rfl
set_option maxRecDepth 100000 in
theorem fq_643 : iv_f1 (iv_p 285) 643 = some (.inl (iv_oI 4 2)) := rfl
set_option maxRecDepth 100000 in
theorem fq_645 : iv_f1 (iv_p 285) 645 = some (.inl (iv_oK (.int (Int32.ofNat 1)) 1)) := rfl
set_option maxRecDepth 100000 in
theorem fq_646 : iv_f1 (iv_p 285) 646 = some (.inl (iv_oII fun x y => x + y)) := rfl
set_option maxRecDepth 100000 in
theorem fq_647 : iv_f1 (iv_p 285) 647 = some (.inl iv_oIl) := rfl
set_option maxRecDepth 100000 in
theorem fq_648 : iv_f1 (iv_p 285) 648 = some (.inl (iv_oA 0 1)) := rfl
set_option maxRecDepth 100000 in
theorem fq_649 : iv_f1 (iv_p 285) 649 = some (.inl (iv_oI 4 2)) := rfl
set_option maxRecDepth 100000 in
theorem fq_651 : iv_f1 (iv_p 285) 651 = some (.inl (iv_oK (.int (Int32.ofNat 2)) 1)) := rfl
set_option maxRecDepth 100000 in
theorem fq_652 : iv_f1 (iv_p 285) 652 = some (.inl (iv_oII fun x y => x + y)) := rfl
set_option maxRecDepth 100000 in
theorem fq_653 : iv_f1 (iv_p 285) 653 = some (.inl iv_oIl) := rfl
set_option maxRecDepth 100000 in
theorem fq_654 : iv_f1 (iv_p 285) 654 = some (.inl (iv_oA 0 1)) := rfl
set_option maxRecDepth 100000 in
theorem fq_655 : iv_f1 (iv_p 285) 655 = some (.inl (iv_oI 4 2)) := rfl
set_option maxRecDepth 100000 in
theorem fq_657 : iv_f1 (iv_p 285) 657 = some (.inl (iv_oK (.int (Int32.ofNat 3)) 1)) := rfl
set_option maxRecDepth 100000 in
theorem fq_658 : iv_f1 (iv_p 285) 658 = some (.inl (iv_oII fun x y => x + y)) := rfl
set_option maxRecDepth 100000 in
theorem fq_659 : iv_f1 (iv_p 285) 659 = some (.inl iv_oIl) := rfl
set_option maxRecDepth 100000 in
theorem fq_660 : iv_f1 (iv_p 285) 660 = some (.inr (.inr (6, 131, 3, 11))) := rfl
set_option maxRecDepth 100000 in
theorem fq_663 : iv_f1 (iv_p 285) 663 = some (.inl iv_oPop) := rfl
set_option maxRecDepth 100000 in
theorem fq_664 : iv_f1 (iv_p 285) 664 = some (.inl (iv_oA 2 1)) := rfl
set_option maxRecDepth 100000 in
theorem fq_665 : iv_f1 (iv_p 285) 665 = some (.inl (iv_oA 0 1)) := rfl
set_option maxRecDepth 100000 in
theorem fq_666 : iv_f1 (iv_p 285) 666 = some (.inl (iv_oI 4 2)) := rfl
set_option maxRecDepth 100000 in
theorem fq_668 : iv_f1 (iv_p 285) 668 = some (.inl (iv_oK (.int (Int32.ofNat 1)) 1)) := rfl
set_option maxRecDepth 100000 in
theorem fq_669 : iv_f1 (iv_p 285) 669 = some (.inl (iv_oII fun x y => x + y)) := rfl
set_option maxRecDepth 100000 in
theorem fq_670 : iv_f1 (iv_p 285) 670 = some (.inl iv_oIl) := rfl
set_option maxRecDepth 100000 in
theorem fq_671 : iv_f1 (iv_p 285) 671 = some (.inl (iv_oA 0 1)) := rfl
set_option maxRecDepth 100000 in
theorem fq_672 : iv_f1 (iv_p 285) 672 = some (.inl (iv_oI 4 2)) := rfl
set_option maxRecDepth 100000 in
theorem fq_674 : iv_f1 (iv_p 285) 674 = some (.inl (iv_oK (.int (Int32.ofNat 2)) 1)) := rfl
set_option maxRecDepth 100000 in
theorem fq_675 : iv_f1 (iv_p 285) 675 = some (.inl (iv_oII fun x y => x + y)) := rfl
set_option maxRecDepth 100000 in
theorem fq_676 : iv_f1 (iv_p 285) 676 = some (.inl iv_oIl) := rfl
set_option maxRecDepth 100000 in
theorem fq_677 : iv_f1 (iv_p 285) 677 = some (.inl (iv_oA 0 1)) := rfl
set_option maxRecDepth 100000 in
theorem fq_678 : iv_f1 (iv_p 285) 678 = some (.inl (iv_oI 4 2)) := rfl
set_option maxRecDepth 100000 in
theorem fq_680 : iv_f1 (iv_p 285) 680 = some (.inl (iv_oK (.int (Int32.ofNat 3)) 1)) := rfl
set_option maxRecDepth 100000 in
theorem fq_681 : iv_f1 (iv_p 285) 681 = some (.inl (iv_oII fun x y => x + y)) := rfl
set_option maxRecDepth 100000 in
theorem fq_682 : iv_f1 (iv_p 285) 682 = some (.inl iv_oIl) := rfl
set_option maxRecDepth 100000 in
theorem fq_683 : iv_f1 (iv_p 285) 683 = some (.inr (.inr (6, 223, 3, 12))) := rfl
set_option maxRecDepth 100000 in
theorem fq_686 : iv_f1 (iv_p 285) 686 = some (.inl iv_oPop) := rfl
set_option maxRecDepth 100000 in
theorem fq_687 : iv_f1 (iv_p 285) 687 = some (.inl (iv_oGo (580))) := rfl
set_option maxRecDepth 100000 in
theorem fq_690 : iv_f1 (iv_p 285) 690 = some (.inl (iv_oA 1 1)) := rfl
set_option maxRecDepth 100000 in
theorem fq_691 : iv_f1 (iv_p 285) 691 = some (.inl (iv_oA 0 1)) := rfl
set_option maxRecDepth 100000 in
theorem fq_692 : iv_f1 (iv_p 285) 692 = some (.inl (iv_oI 4 2)) := rfl
set_option maxRecDepth 100000 in
theorem fq_694 : iv_f1 (iv_p 285) 694 = some (.inl (iv_oK (.int (Int32.ofNat 1)) 1)) := rfl
set_option maxRecDepth 100000 in
theorem fq_695 : iv_f1 (iv_p 285) 695 = some (.inl (iv_oII fun x y => x + y)) := rfl
set_option maxRecDepth 100000 in
theorem fq_696 : iv_f1 (iv_p 285) 696 = some (.inl iv_oIl) := rfl
set_option maxRecDepth 100000 in
theorem fq_697 : iv_f1 (iv_p 285) 697 = some (.inl (iv_oA 0 1)) := rfl
set_option maxRecDepth 100000 in
theorem fq_698 : iv_f1 (iv_p 285) 698 = some (.inl (iv_oI 4 2)) := rfl
set_option maxRecDepth 100000 in
theorem fq_700 : iv_f1 (iv_p 285) 700 = some (.inl (iv_oK (.int (Int32.ofNat 2)) 1)) := rfl
set_option maxRecDepth 100000 in
theorem fq_701 : iv_f1 (iv_p 285) 701 = some (.inl (iv_oII fun x y => x + y)) := rfl
set_option maxRecDepth 100000 in
theorem fq_702 : iv_f1 (iv_p 285) 702 = some (.inl iv_oIl) := rfl
set_option maxRecDepth 100000 in
theorem fq_703 : iv_f1 (iv_p 285) 703 = some (.inr (.inr (6, 132, 2, 11))) := rfl
set_option maxRecDepth 100000 in
theorem fq_706 : iv_f1 (iv_p 285) 706 = some (.inl iv_oPop) := rfl
set_option maxRecDepth 100000 in
theorem fq_707 : iv_f1 (iv_p 285) 707 = some (.inl (iv_oA 2 1)) := rfl
set_option maxRecDepth 100000 in
theorem fq_708 : iv_f1 (iv_p 285) 708 = some (.inl (iv_oA 0 1)) := rfl
set_option maxRecDepth 100000 in
theorem fq_709 : iv_f1 (iv_p 285) 709 = some (.inl (iv_oI 4 2)) := rfl
set_option maxRecDepth 100000 in
theorem fq_711 : iv_f1 (iv_p 285) 711 = some (.inl (iv_oK (.int (Int32.ofNat 1)) 1)) := rfl
set_option maxRecDepth 100000 in
theorem fq_712 : iv_f1 (iv_p 285) 712 = some (.inl (iv_oII fun x y => x + y)) := rfl
set_option maxRecDepth 100000 in
theorem fq_713 : iv_f1 (iv_p 285) 713 = some (.inl iv_oIl) := rfl
set_option maxRecDepth 100000 in
theorem fq_714 : iv_f1 (iv_p 285) 714 = some (.inl (iv_oA 0 1)) := rfl
set_option maxRecDepth 100000 in
theorem fq_715 : iv_f1 (iv_p 285) 715 = some (.inl (iv_oI 4 2)) := rfl
set_option maxRecDepth 100000 in
theorem fq_717 : iv_f1 (iv_p 285) 717 = some (.inl (iv_oK (.int (Int32.ofNat 2)) 1)) := rfl
set_option maxRecDepth 100000 in
theorem fq_718 : iv_f1 (iv_p 285) 718 = some (.inl (iv_oII fun x y => x + y)) := rfl
set_option maxRecDepth 100000 in
theorem fq_719 : iv_f1 (iv_p 285) 719 = some (.inl iv_oIl) := rfl
set_option maxRecDepth 100000 in
theorem fq_720 : iv_f1 (iv_p 285) 720 = some (.inr (.inr (6, 225, 2, 12))) := rfl
set_option maxRecDepth 100000 in
theorem fq_723 : iv_f1 (iv_p 285) 723 = some (.inl iv_oPop) := rfl
set_option maxRecDepth 100000 in
theorem fq_724 : iv_f1 (iv_p 285) 724 = some (.inl (iv_oGo (543))) := rfl
set_option maxRecDepth 100000 in
theorem fq_727 : iv_f1 (iv_p 285) 727 = some (.inl (iv_oA 1 1)) := rfl
set_option maxRecDepth 100000 in
theorem fq_728 : iv_f1 (iv_p 285) 728 = some (.inl (iv_oA 0 1)) := rfl
set_option maxRecDepth 100000 in
theorem fq_729 : iv_f1 (iv_p 285) 729 = some (.inl (iv_oI 4 2)) := rfl
set_option maxRecDepth 100000 in
theorem fq_731 : iv_f1 (iv_p 285) 731 = some (.inl (iv_oK (.int (Int32.ofNat 1)) 1)) := rfl
set_option maxRecDepth 100000 in
theorem fq_732 : iv_f1 (iv_p 285) 732 = some (.inl (iv_oII fun x y => x + y)) := rfl
set_option maxRecDepth 100000 in
theorem fq_733 : iv_f1 (iv_p 285) 733 = some (.inl iv_oIl) := rfl
set_option maxRecDepth 100000 in
theorem fq_734 : iv_f1 (iv_p 285) 734 = some (.inr (.inr (6, 133, 1, 11))) := rfl
set_option maxRecDepth 100000 in
theorem fq_737 : iv_f1 (iv_p 285) 737 = some (.inl iv_oPop) := rfl
set_option maxRecDepth 100000 in
theorem fq_738 : iv_f1 (iv_p 285) 738 = some (.inl (iv_oA 2 1)) := rfl
set_option maxRecDepth 100000 in
theorem fq_739 : iv_f1 (iv_p 285) 739 = some (.inl (iv_oA 0 1)) := rfl
set_option maxRecDepth 100000 in
theorem fq_740 : iv_f1 (iv_p 285) 740 = some (.inl (iv_oI 4 2)) := rfl
set_option maxRecDepth 100000 in
theorem fq_742 : iv_f1 (iv_p 285) 742 = some (.inl (iv_oK (.int (Int32.ofNat 1)) 1)) := rfl
set_option maxRecDepth 100000 in
theorem fq_743 : iv_f1 (iv_p 285) 743 = some (.inl (iv_oII fun x y => x + y)) := rfl
set_option maxRecDepth 100000 in
theorem fq_744 : iv_f1 (iv_p 285) 744 = some (.inl iv_oIl) := rfl
set_option maxRecDepth 100000 in
theorem fq_745 : iv_f1 (iv_p 285) 745 = some (.inr (.inr (6, 226, 1, 12))) := rfl
set_option maxRecDepth 100000 in
theorem fq_748 : iv_f1 (iv_p 285) 748 = some (.inl iv_oPop) := rfl
set_option maxRecDepth 100000 in
theorem fq_749 : iv_f1 (iv_p 285) 749 = some (.inl (iv_oGo (518))) := rfl
set_option maxRecDepth 100000 in
theorem fq_752 : iv_f1 (iv_p 285) 752 = some (.inl (iv_oA 1 1)) := rfl
set_option maxRecDepth 100000 in
theorem fq_753 : iv_f1 (iv_p 285) 753 = some (.inr (.inr (6, 134, 0, 11))) := rfl
set_option maxRecDepth 100000 in
theorem fq_756 : iv_f1 (iv_p 285) 756 = some (.inl iv_oPop) := rfl
set_option maxRecDepth 100000 in
theorem fq_757 : iv_f1 (iv_p 285) 757 = some (.inl (iv_oA 2 1)) := rfl
set_option maxRecDepth 100000 in
theorem fq_758 : iv_f1 (iv_p 285) 758 = some (.inr (.inr (6, 233, 0, 12))) := rfl
set_option maxRecDepth 100000 in
theorem fq_761 : iv_f1 (iv_p 285) 761 = some (.inl iv_oPop) := rfl
set_option maxRecDepth 100000 in
theorem fq_762 : iv_f1 (iv_p 285) 762 = some (.inl (iv_oGo (505))) := rfl
set_option maxRecDepth 100000 in
theorem fq_765 : iv_f1 (iv_p 285) 765 = some (.inl (iv_oA 1 1)) := rfl
set_option maxRecDepth 100000 in
theorem fq_766 : iv_f1 (iv_p 285) 766 = some (.inl (iv_oA 0 1)) := rfl
set_option maxRecDepth 100000 in
theorem fq_767 : iv_f1 (iv_p 285) 767 = some (.inl (iv_oI 4 2)) := rfl
set_option maxRecDepth 100000 in
theorem fq_769 : iv_f1 (iv_p 285) 769 = some (.inl (iv_oK (.int (Int32.ofNat 1)) 1)) := rfl
set_option maxRecDepth 100000 in
theorem fq_770 : iv_f1 (iv_p 285) 770 = some (.inl (iv_oII fun x y => x + y)) := rfl
set_option maxRecDepth 100000 in
theorem fq_771 : iv_f1 (iv_p 285) 771 = some (.inl iv_oIl) := rfl
set_option maxRecDepth 100000 in
theorem fq_772 : iv_f1 (iv_p 285) 772 = some (.inr (.inr (6, 135, 1, 11))) := rfl
set_option maxRecDepth 100000 in
theorem fq_775 : iv_f1 (iv_p 285) 775 = some (.inl iv_oPop) := rfl
set_option maxRecDepth 100000 in
theorem fq_776 : iv_f1 (iv_p 285) 776 = some (.inl (iv_oA 2 1)) := rfl
set_option maxRecDepth 100000 in
theorem fq_777 : iv_f1 (iv_p 285) 777 = some (.inl (iv_oA 0 1)) := rfl
set_option maxRecDepth 100000 in
theorem fq_778 : iv_f1 (iv_p 285) 778 = some (.inl (iv_oI 4 2)) := rfl
set_option maxRecDepth 100000 in
theorem fq_780 : iv_f1 (iv_p 285) 780 = some (.inl (iv_oK (.int (Int32.ofNat 1)) 1)) := rfl
set_option maxRecDepth 100000 in
theorem fq_781 : iv_f1 (iv_p 285) 781 = some (.inl (iv_oII fun x y => x + y)) := rfl
set_option maxRecDepth 100000 in
theorem fq_782 : iv_f1 (iv_p 285) 782 = some (.inl iv_oIl) := rfl
set_option maxRecDepth 100000 in
theorem fq_783 : iv_f1 (iv_p 285) 783 = some (.inr (.inr (6, 234, 1, 12))) := rfl
set_option maxRecDepth 100000 in
theorem fq_786 : iv_f1 (iv_p 285) 786 = some (.inl iv_oPop) := rfl
set_option maxRecDepth 100000 in
theorem fq_787 : iv_f1 (iv_p 285) 787 = some (.inl (iv_oGo (480))) := rfl
set_option maxRecDepth 100000 in
theorem fq_790 : iv_f1 (iv_p 285) 790 = some (.inl (iv_oA 1 1)) := rfl
set_option maxRecDepth 100000 in
theorem fq_791 : iv_f1 (iv_p 285) 791 = some (.inr (.inr (6, 136, 0, 11))) := rfl
set_option maxRecDepth 100000 in
theorem fq_794 : iv_f1 (iv_p 285) 794 = some (.inl iv_oPop) := rfl
set_option maxRecDepth 100000 in
theorem fq_795 : iv_f1 (iv_p 285) 795 = some (.inl (iv_oA 2 1)) := rfl
set_option maxRecDepth 100000 in
theorem fq_796 : iv_f1 (iv_p 285) 796 = some (.inr (.inr (6, 235, 0, 12))) := rfl
set_option maxRecDepth 100000 in
theorem fq_799 : iv_f1 (iv_p 285) 799 = some (.inl iv_oPop) := rfl
set_option maxRecDepth 100000 in
theorem fq_800 : iv_f1 (iv_p 285) 800 = some (.inl (iv_oGo (467))) := rfl
set_option maxRecDepth 100000 in
theorem fq_803 : iv_f1 (iv_p 285) 803 = some (.inl (iv_oA 1 1)) := rfl
set_option maxRecDepth 100000 in
theorem fq_804 : iv_f1 (iv_p 285) 804 = some (.inr (.inr (6, 137, 0, 11))) := rfl
set_option maxRecDepth 100000 in
theorem fq_807 : iv_f1 (iv_p 285) 807 = some (.inl iv_oPop) := rfl
set_option maxRecDepth 100000 in
theorem fq_808 : iv_f1 (iv_p 285) 808 = some (.inl (iv_oA 2 1)) := rfl
set_option maxRecDepth 100000 in
theorem fq_809 : iv_f1 (iv_p 285) 809 = some (.inr (.inr (6, 239, 0, 12))) := rfl
set_option maxRecDepth 100000 in
theorem fq_812 : iv_f1 (iv_p 285) 812 = some (.inl iv_oPop) := rfl
set_option maxRecDepth 100000 in
theorem fq_813 : iv_f1 (iv_p 285) 813 = some (.inl (iv_oGo (454))) := rfl
set_option maxRecDepth 100000 in
theorem fq_816 : iv_f1 (iv_p 285) 816 = some (.inl (iv_oA 1 1)) := rfl
set_option maxRecDepth 100000 in
theorem fq_817 : iv_f1 (iv_p 285) 817 = some (.inl (iv_oA 0 1)) := rfl
set_option maxRecDepth 100000 in
theorem fq_818 : iv_f1 (iv_p 285) 818 = some (.inl (iv_oI 4 2)) := rfl
set_option maxRecDepth 100000 in
theorem fq_820 : iv_f1 (iv_p 285) 820 = some (.inl (iv_oK (.int (Int32.ofNat 1)) 1)) := rfl
set_option maxRecDepth 100000 in
theorem fq_821 : iv_f1 (iv_p 285) 821 = some (.inl (iv_oII fun x y => x + y)) := rfl
set_option maxRecDepth 100000 in
theorem fq_822 : iv_f1 (iv_p 285) 822 = some (.inl iv_oIl) := rfl
set_option maxRecDepth 100000 in
theorem fq_823 : iv_f1 (iv_p 285) 823 = some (.inr (.inr (6, 138, 1, 11))) := rfl
set_option maxRecDepth 100000 in
theorem fq_826 : iv_f1 (iv_p 285) 826 = some (.inl iv_oPop) := rfl
set_option maxRecDepth 100000 in
theorem fq_827 : iv_f1 (iv_p 285) 827 = some (.inl (iv_oA 2 1)) := rfl
set_option maxRecDepth 100000 in
theorem fq_828 : iv_f1 (iv_p 285) 828 = some (.inl (iv_oA 0 1)) := rfl
set_option maxRecDepth 100000 in
theorem fq_829 : iv_f1 (iv_p 285) 829 = some (.inl (iv_oI 4 2)) := rfl
set_option maxRecDepth 100000 in
theorem fq_831 : iv_f1 (iv_p 285) 831 = some (.inl (iv_oK (.int (Int32.ofNat 1)) 1)) := rfl
set_option maxRecDepth 100000 in
theorem fq_832 : iv_f1 (iv_p 285) 832 = some (.inl (iv_oII fun x y => x + y)) := rfl
set_option maxRecDepth 100000 in
theorem fq_833 : iv_f1 (iv_p 285) 833 = some (.inl iv_oIl) := rfl
set_option maxRecDepth 100000 in
theorem fq_834 : iv_f1 (iv_p 285) 834 = some (.inr (.inr (6, 240, 1, 12))) := rfl
set_option maxRecDepth 100000 in
theorem fq_837 : iv_f1 (iv_p 285) 837 = some (.inl iv_oPop) := rfl
set_option maxRecDepth 100000 in
theorem fq_838 : iv_f1 (iv_p 285) 838 = some (.inl (iv_oGo (429))) := rfl
set_option maxRecDepth 100000 in
theorem fq_841 : iv_f1 (iv_p 285) 841 = some (.inl (iv_oA 1 1)) := rfl
set_option maxRecDepth 100000 in
theorem fq_842 : iv_f1 (iv_p 285) 842 = some (.inl (iv_oA 0 1)) := rfl
set_option maxRecDepth 100000 in
theorem fq_843 : iv_f1 (iv_p 285) 843 = some (.inl (iv_oI 4 2)) := rfl
set_option maxRecDepth 100000 in
theorem fq_845 : iv_f1 (iv_p 285) 845 = some (.inl (iv_oK (.int (Int32.ofNat 1)) 1)) := rfl
set_option maxRecDepth 100000 in
theorem fq_846 : iv_f1 (iv_p 285) 846 = some (.inl (iv_oII fun x y => x + y)) := rfl
set_option maxRecDepth 100000 in
theorem fq_847 : iv_f1 (iv_p 285) 847 = some (.inl iv_oIl) := rfl
set_option maxRecDepth 100000 in
theorem fq_848 : iv_f1 (iv_p 285) 848 = some (.inr (.inr (6, 139, 1, 11))) := rfl
set_option maxRecDepth 100000 in
theorem fq_851 : iv_f1 (iv_p 285) 851 = some (.inl iv_oPop) := rfl
set_option maxRecDepth 100000 in
theorem fq_852 : iv_f1 (iv_p 285) 852 = some (.inl (iv_oA 2 1)) := rfl
set_option maxRecDepth 100000 in
theorem fq_853 : iv_f1 (iv_p 285) 853 = some (.inl (iv_oA 0 1)) := rfl
set_option maxRecDepth 100000 in
theorem fq_854 : iv_f1 (iv_p 285) 854 = some (.inl (iv_oI 4 2)) := rfl
set_option maxRecDepth 100000 in
theorem fq_856 : iv_f1 (iv_p 285) 856 = some (.inl (iv_oK (.int (Int32.ofNat 1)) 1)) := rfl
set_option maxRecDepth 100000 in
theorem fq_857 : iv_f1 (iv_p 285) 857 = some (.inl (iv_oII fun x y => x + y)) := rfl
set_option maxRecDepth 100000 in
theorem fq_858 : iv_f1 (iv_p 285) 858 = some (.inl iv_oIl) := rfl
set_option maxRecDepth 100000 in
theorem fq_859 : iv_f1 (iv_p 285) 859 = some (.inr (.inr (6, 241, 1, 12))) := rfl
set_option maxRecDepth 100000 in
theorem fq_862 : iv_f1 (iv_p 285) 862 = some (.inl iv_oPop) := rfl
set_option maxRecDepth 100000 in
theorem fq_863 : iv_f1 (iv_p 285) 863 = some (.inl (iv_oGo (404))) := rfl
set_option maxRecDepth 100000 in
theorem fq_906 : iv_f1 (iv_p 285) 906 = some (.inl (iv_oA 1 1)) := rfl
set_option maxRecDepth 100000 in
theorem fq_907 : iv_f1 (iv_p 285) 907 = some (.inl (iv_oA 0 1)) := rfl
set_option maxRecDepth 100000 in
theorem fq_908 : iv_f1 (iv_p 285) 908 = some (.inl (iv_oI 4 2)) := rfl
set_option maxRecDepth 100000 in
theorem fq_910 : iv_f1 (iv_p 285) 910 = some (.inl (iv_oK (.int (Int32.ofNat 1)) 1)) := rfl
set_option maxRecDepth 100000 in
theorem fq_911 : iv_f1 (iv_p 285) 911 = some (.inl (iv_oII fun x y => x + y)) := rfl
set_option maxRecDepth 100000 in
theorem fq_912 : iv_f1 (iv_p 285) 912 = some (.inl iv_oIl) := rfl
set_option maxRecDepth 100000 in
theorem fq_913 : iv_f1 (iv_p 285) 913 = some (.inl (iv_oA 0 1)) := rfl
set_option maxRecDepth 100000 in
theorem fq_914 : iv_f1 (iv_p 285) 914 = some (.inl (iv_oI 4 2)) := rfl
set_option maxRecDepth 100000 in
theorem fq_916 : iv_f1 (iv_p 285) 916 = some (.inl (iv_oK (.int (Int32.ofNat 2)) 1)) := rfl
set_option maxRecDepth 100000 in
theorem fq_917 : iv_f1 (iv_p 285) 917 = some (.inl (iv_oII fun x y => x + y)) := rfl
set_option maxRecDepth 100000 in
theorem fq_918 : iv_f1 (iv_p 285) 918 = some (.inl iv_oIl) := rfl
set_option maxRecDepth 100000 in
theorem fq_919 : iv_f1 (iv_p 285) 919 = some (.inr (.inr (6, 142, 2, 11))) := rfl
set_option maxRecDepth 100000 in
theorem fq_922 : iv_f1 (iv_p 285) 922 = some (.inl iv_oPop) := rfl
set_option maxRecDepth 100000 in
theorem fq_923 : iv_f1 (iv_p 285) 923 = some (.inl (iv_oA 2 1)) := rfl
set_option maxRecDepth 100000 in
theorem fq_924 : iv_f1 (iv_p 285) 924 = some (.inl (iv_oA 0 1)) := rfl
set_option maxRecDepth 100000 in
theorem fq_925 : iv_f1 (iv_p 285) 925 = some (.inl (iv_oI 4 2)) := rfl
set_option maxRecDepth 100000 in
theorem fq_927 : iv_f1 (iv_p 285) 927 = some (.inl (iv_oK (.int (Int32.ofNat 1)) 1)) := rfl
set_option maxRecDepth 100000 in
theorem fq_928 : iv_f1 (iv_p 285) 928 = some (.inl (iv_oII fun x y => x + y)) := rfl
set_option maxRecDepth 100000 in
theorem fq_929 : iv_f1 (iv_p 285) 929 = some (.inl iv_oIl) := rfl
set_option maxRecDepth 100000 in
theorem fq_930 : iv_f1 (iv_p 285) 930 = some (.inl (iv_oA 0 1)) := rfl
set_option maxRecDepth 100000 in
theorem fq_931 : iv_f1 (iv_p 285) 931 = some (.inl (iv_oI 4 2)) := rfl
set_option maxRecDepth 100000 in
theorem fq_933 : iv_f1 (iv_p 285) 933 = some (.inl (iv_oK (.int (Int32.ofNat 2)) 1)) := rfl
set_option maxRecDepth 100000 in
theorem fq_934 : iv_f1 (iv_p 285) 934 = some (.inl (iv_oII fun x y => x + y)) := rfl
set_option maxRecDepth 100000 in
theorem fq_935 : iv_f1 (iv_p 285) 935 = some (.inl iv_oIl) := rfl
set_option maxRecDepth 100000 in
theorem fq_936 : iv_f1 (iv_p 285) 936 = some (.inr (.inr (6, 243, 2, 12))) := rfl
set_option maxRecDepth 100000 in
theorem fq_939 : iv_f1 (iv_p 285) 939 = some (.inl iv_oPop) := rfl
set_option maxRecDepth 100000 in
theorem fq_940 : iv_f1 (iv_p 285) 940 = some (.inl (iv_oGo (327))) := rfl
set_option maxRecDepth 100000 in
theorem fq_943 : iv_f1 (iv_p 285) 943 = some (.inl (iv_oA 1 1)) := rfl
set_option maxRecDepth 100000 in
theorem fq_944 : iv_f1 (iv_p 285) 944 = some (.inl (iv_oA 0 1)) := rfl
set_option maxRecDepth 100000 in
theorem fq_945 : iv_f1 (iv_p 285) 945 = some (.inl (iv_oI 4 2)) := rfl
set_option maxRecDepth 100000 in
theorem fq_947 : iv_f1 (iv_p 285) 947 = some (.inl (iv_oK (.int (Int32.ofNat 1)) 1)) := rfl
set_option maxRecDepth 100000 in
theorem fq_948 : iv_f1 (iv_p 285) 948 = some (.inl (iv_oII fun x y => x + y)) := rfl
set_option maxRecDepth 100000 in
theorem fq_949 : iv_f1 (iv_p 285) 949 = some (.inl iv_oIl) := rfl
set_option maxRecDepth 100000 in
theorem fq_950 : iv_f1 (iv_p 285) 950 = some (.inr (.inr (6, 143, 1, 11))) := rfl
set_option maxRecDepth 100000 in
theorem fq_953 : iv_f1 (iv_p 285) 953 = some (.inl iv_oPop) := rfl
set_option maxRecDepth 100000 in
theorem fq_954 : iv_f1 (iv_p 285) 954 = some (.inl (iv_oA 2 1)) := rfl
set_option maxRecDepth 100000 in
theorem fq_955 : iv_f1 (iv_p 285) 955 = some (.inl (iv_oA 0 1)) := rfl
set_option maxRecDepth 100000 in
theorem fq_956 : iv_f1 (iv_p 285) 956 = some (.inl (iv_oI 4 2)) := rfl
set_option maxRecDepth 100000 in
theorem fq_958 : iv_f1 (iv_p 285) 958 = some (.inl (iv_oK (.int (Int32.ofNat 1)) 1)) := rfl
set_option maxRecDepth 100000 in
theorem fq_959 : iv_f1 (iv_p 285) 959 = some (.inl (iv_oII fun x y => x + y)) := rfl
set_option maxRecDepth 100000 in
theorem fq_960 : iv_f1 (iv_p 285) 960 = some (.inl iv_oIl) := rfl
set_option maxRecDepth 100000 in
theorem fq_961 : iv_f1 (iv_p 285) 961 = some (.inr (.inr (6, 244, 1, 12))) := rfl
set_option maxRecDepth 100000 in
theorem fq_964 : iv_f1 (iv_p 285) 964 = some (.inl iv_oPop) := rfl
set_option maxRecDepth 100000 in
theorem fq_965 : iv_f1 (iv_p 285) 965 = some (.inl (iv_oGo (302))) := rfl
set_option maxRecDepth 100000 in
theorem fq_968 : iv_f1 (iv_p 285) 968 = some (.inl (iv_oA 1 1)) := rfl
set_option maxRecDepth 100000 in
theorem fq_969 : iv_f1 (iv_p 285) 969 = some (.inl (iv_oA 0 1)) := rfl
set_option maxRecDepth 100000 in
theorem fq_970 : iv_f1 (iv_p 285) 970 = some (.inl (iv_oI 4 2)) := rfl
set_option maxRecDepth 100000 in
theorem fq_972 : iv_f1 (iv_p 285) 972 = some (.inl (iv_oK (.int (Int32.ofNat 1)) 1)) := rfl
set_option maxRecDepth 100000 in
theorem fq_973 : iv_f1 (iv_p 285) 973 = some (.inl (iv_oII fun x y => x + y)) := rfl
set_option maxRecDepth 100000 in
theorem fq_974 : iv_f1 (iv_p 285) 974 = some (.inl iv_oIl) := rfl
set_option maxRecDepth 100000 in
theorem fq_975 : iv_f1 (iv_p 285) 975 = some (.inr (.inr (6, 144, 1, 11))) := rfl
set_option maxRecDepth 100000 in
theorem fq_978 : iv_f1 (iv_p 285) 978 = some (.inl iv_oPop) := rfl
set_option maxRecDepth 100000 in
theorem fq_979 : iv_f1 (iv_p 285) 979 = some (.inl (iv_oA 2 1)) := rfl
set_option maxRecDepth 100000 in
theorem fq_980 : iv_f1 (iv_p 285) 980 = some (.inl (iv_oA 0 1)) := rfl
set_option maxRecDepth 100000 in
theorem fq_981 : iv_f1 (iv_p 285) 981 = some (.inl (iv_oI 4 2)) := rfl
set_option maxRecDepth 100000 in
theorem fq_983 : iv_f1 (iv_p 285) 983 = some (.inl (iv_oK (.int (Int32.ofNat 1)) 1)) := rfl
set_option maxRecDepth 100000 in
theorem fq_984 : iv_f1 (iv_p 285) 984 = some (.inl (iv_oII fun x y => x + y)) := rfl
set_option maxRecDepth 100000 in
theorem fq_985 : iv_f1 (iv_p 285) 985 = some (.inl iv_oIl) := rfl
set_option maxRecDepth 100000 in
theorem fq_986 : iv_f1 (iv_p 285) 986 = some (.inr (.inr (6, 249, 1, 12))) := rfl
set_option maxRecDepth 100000 in
theorem fq_989 : iv_f1 (iv_p 285) 989 = some (.inl iv_oPop) := rfl
set_option maxRecDepth 100000 in
theorem fq_990 : iv_f1 (iv_p 285) 990 = some (.inl (iv_oGo (277))) := rfl
set_option maxRecDepth 100000 in
theorem fq_993 : iv_f1 (iv_p 285) 993 = some (.inl (iv_oA 1 1)) := rfl
set_option maxRecDepth 100000 in
theorem fq_994 : iv_f1 (iv_p 285) 994 = some (.inl (iv_oA 0 1)) := rfl
set_option maxRecDepth 100000 in
theorem fq_995 : iv_f1 (iv_p 285) 995 = some (.inl (iv_oI 4 2)) := rfl
set_option maxRecDepth 100000 in
theorem fq_997 : iv_f1 (iv_p 285) 997 = some (.inl (iv_oK (.int (Int32.ofNat 1)) 1)) := rfl
set_option maxRecDepth 100000 in
theorem fq_998 : iv_f1 (iv_p 285) 998 = some (.inl (iv_oII fun x y => x + y)) := rfl
set_option maxRecDepth 100000 in
theorem fq_999 : iv_f1 (iv_p 285) 999 = some (.inl iv_oIl) := rfl
set_option maxRecDepth 100000 in
theorem fq_1000 : iv_f1 (iv_p 285) 1000 = some (.inr (.inr (6, 145, 1, 11))) := rfl
set_option maxRecDepth 100000 in
theorem fq_1003 : iv_f1 (iv_p 285) 1003 = some (.inl iv_oPop) := rfl
set_option maxRecDepth 100000 in
theorem fq_1004 : iv_f1 (iv_p 285) 1004 = some (.inl (iv_oA 2 1)) := rfl
set_option maxRecDepth 100000 in
theorem fq_1005 : iv_f1 (iv_p 285) 1005 = some (.inl (iv_oA 0 1)) := rfl
set_option maxRecDepth 100000 in
theorem fq_1006 : iv_f1 (iv_p 285) 1006 = some (.inl (iv_oI 4 2)) := rfl
set_option maxRecDepth 100000 in
theorem fq_1008 : iv_f1 (iv_p 285) 1008 = some (.inl (iv_oK (.int (Int32.ofNat 1)) 1)) := rfl
set_option maxRecDepth 100000 in
theorem fq_1009 : iv_f1 (iv_p 285) 1009 = some (.inl (iv_oII fun x y => x + y)) := rfl
set_option maxRecDepth 100000 in
theorem fq_1010 : iv_f1 (iv_p 285) 1010 = some (.inl iv_oIl) := rfl
set_option maxRecDepth 100000 in
theorem fq_1011 : iv_f1 (iv_p 285) 1011 = some (.inr (.inr (6, 250, 1, 12))) := rfl
set_option maxRecDepth 100000 in
theorem fq_1014 : iv_f1 (iv_p 285) 1014 = some (.inl iv_oPop) := rfl
set_option maxRecDepth 100000 in
theorem fq_1015 : iv_f1 (iv_p 285) 1015 = some (.inl (iv_oGo (252))) := rfl
set_option maxRecDepth 100000 in
theorem fq_1018 : iv_f1 (iv_p 285) 1018 = some (.inl (iv_oA 1 1)) := rfl
set_option maxRecDepth 100000 in
theorem fq_1019 : iv_f1 (iv_p 285) 1019 = some (.inl (iv_oA 0 1)) := rfl
set_option maxRecDepth 100000 in
theorem fq_1020 : iv_f1 (iv_p 285) 1020 = some (.inl (iv_oI 4 2)) := rfl
set_option maxRecDepth 100000 in
theorem fq_1022 : iv_f1 (iv_p 285) 1022 = some (.inl (iv_oK (.int (Int32.ofNat 1)) 1)) := rfl
set_option maxRecDepth 100000 in
theorem fq_1023 : iv_f1 (iv_p 285) 1023 = some (.inl (iv_oII fun x y => x + y)) := rfl
set_option maxRecDepth 100000 in
theorem fq_1024 : iv_f1 (iv_p 285) 1024 = some (.inl iv_oIl) := rfl
set_option maxRecDepth 100000 in
theorem fq_1025 : iv_f1 (iv_p 285) 1025 = some (.inl (iv_oA 0 1)) := rfl
set_option maxRecDepth 100000 in
theorem fq_1026 : iv_f1 (iv_p 285) 1026 = some (.inl (iv_oI 4 2)) := rfl
set_option maxRecDepth 100000 in
theorem fq_1028 : iv_f1 (iv_p 285) 1028 = some (.inl (iv_oK (.int (Int32.ofNat 2)) 1)) := rfl
set_option maxRecDepth 100000 in
theorem fq_1029 : iv_f1 (iv_p 285) 1029 = some (.inl (iv_oII fun x y => x + y)) := rfl
set_option maxRecDepth 100000 in
theorem fq_1030 : iv_f1 (iv_p 285) 1030 = some (.inl iv_oIl) := rfl
set_option maxRecDepth 100000 in
theorem fq_1031 : iv_f1 (iv_p 285) 1031 = some (.inr (.inr (6, 146, 2, 11))) := rfl
set_option maxRecDepth 100000 in
theorem fq_1034 : iv_f1 (iv_p 285) 1034 = some (.inl iv_oPop) := rfl
set_option maxRecDepth 100000 in
theorem fq_1035 : iv_f1 (iv_p 285) 1035 = some (.inl (iv_oA 2 1)) := rfl
set_option maxRecDepth 100000 in
theorem fq_1036 : iv_f1 (iv_p 285) 1036 = some (.inl (iv_oA 0 1)) := rfl
set_option maxRecDepth 100000 in
theorem fq_1037 : iv_f1 (iv_p 285) 1037 = some (.inl (iv_oI 4 2)) := rfl
set_option maxRecDepth 100000 in
theorem fq_1039 : iv_f1 (iv_p 285) 1039 = some (.inl (iv_oK (.int (Int32.ofNat 1)) 1)) := rfl
set_option maxRecDepth 100000 in
theorem fq_1040 : iv_f1 (iv_p 285) 1040 = some (.inl (iv_oII fun x y => x + y)) := rfl
set_option maxRecDepth 100000 in
theorem fq_1041 : iv_f1 (iv_p 285) 1041 = some (.inl iv_oIl) := rfl
set_option maxRecDepth 100000 in
theorem fq_1042 : iv_f1 (iv_p 285) 1042 = some (.inl (iv_oA 0 1)) := rfl
set_option maxRecDepth 100000 in
theorem fq_1043 : iv_f1 (iv_p 285) 1043 = some (.inl (iv_oI 4 2)) := rfl
set_option maxRecDepth 100000 in
theorem fq_1045 : iv_f1 (iv_p 285) 1045 = some (.inl (iv_oK (.int (Int32.ofNat 2)) 1)) := rfl
set_option maxRecDepth 100000 in
theorem fq_1046 : iv_f1 (iv_p 285) 1046 = some (.inl (iv_oII fun x y => x + y)) := rfl
set_option maxRecDepth 100000 in
theorem fq_1047 : iv_f1 (iv_p 285) 1047 = some (.inl iv_oIl) := rfl
set_option maxRecDepth 100000 in
theorem fq_1048 : iv_f1 (iv_p 285) 1048 = some (.inr (.inr (6, 254, 2, 12))) := rfl
set_option maxRecDepth 100000 in
theorem fq_1051 : iv_f1 (iv_p 285) 1051 = some (.inl iv_oPop) := rfl
set_option maxRecDepth 100000 in
theorem fq_1052 : iv_f1 (iv_p 285) 1052 = some (.inl (iv_oGo (215))) := rfl
set_option maxRecDepth 100000 in
theorem fq_1055 : iv_f1 (iv_p 285) 1055 = some (.inl (iv_oA 1 1)) := rfl
set_option maxRecDepth 100000 in
theorem fq_1056 : iv_f1 (iv_p 285) 1056 = some (.inl (iv_oA 0 1)) := rfl
set_option maxRecDepth 100000 in
theorem fq_1057 : iv_f1 (iv_p 285) 1057 = some (.inl (iv_oI 4 2)) := rfl
set_option maxRecDepth 100000 in
theorem fq_1059 : iv_f1 (iv_p 285) 1059 = some (.inl (iv_oK (.int (Int32.ofNat 1)) 1)) := rfl
set_option maxRecDepth 100000 in
theorem fq_1060 : iv_f1 (iv_p 285) 1060 = some (.inl (iv_oII fun x y => x + y)) := rfl
set_option maxRecDepth 100000 in
theorem fq_1061 : iv_f1 (iv_p 285) 1061 = some (.inl iv_oIl) := rfl
set_option maxRecDepth 100000 in
theorem fq_1062 : iv_f1 (iv_p 285) 1062 = some (.inl (iv_oA 0 1)) := rfl
set_option maxRecDepth 100000 in
theorem fq_1063 : iv_f1 (iv_p 285) 1063 = some (.inl (iv_oI 4 2)) := rfl
set_option maxRecDepth 100000 in
theorem fq_1065 : iv_f1 (iv_p 285) 1065 = some (.inl (iv_oK (.int (Int32.ofNat 2)) 1)) := rfl
set_option maxRecDepth 100000 in
theorem fq_1066 : iv_f1 (iv_p 285) 1066 = some (.inl (iv_oII fun x y => x + y)) := rfl
set_option maxRecDepth 100000 in
theorem fq_1067 : iv_f1 (iv_p 285) 1067 = some (.inl iv_oIl) := rfl
set_option maxRecDepth 100000 in
theorem fq_1068 : iv_f1 (iv_p 285) 1068 = some (.inl (iv_oA 0 1)) := rfl
set_option maxRecDepth 100000 in
theorem fq_1069 : iv_f1 (iv_p 285) 1069 = some (.inl (iv_oI 4 2)) := rfl
set_option maxRecDepth 100000 in
theorem fq_1071 : iv_f1 (iv_p 285) 1071 = some (.inl (iv_oK (.int (Int32.ofNat 3)) 1)) := rfl
set_option maxRecDepth 100000 in
theorem fq_1072 : iv_f1 (iv_p 285) 1072 = some (.inl (iv_oII fun x y => x + y)) := rfl
set_option maxRecDepth 100000 in
theorem fq_1073 : iv_f1 (iv_p 285) 1073 = some (.inl iv_oIl) := rfl
set_option maxRecDepth 100000 in
theorem fq_1074 : iv_f1 (iv_p 285) 1074 = some (.inr (.inr (6, 147, 3, 11))) := rfl
set_option maxRecDepth 100000 in
theorem fq_1077 : iv_f1 (iv_p 285) 1077 = some (.inl iv_oPop) := rfl
set_option maxRecDepth 100000 in
theorem fq_1078 : iv_f1 (iv_p 285) 1078 = some (.inl (iv_oA 2 1)) := rfl
set_option maxRecDepth 100000 in
theorem fq_1079 : iv_f1 (iv_p 285) 1079 = some (.inl (iv_oA 0 1)) := rfl
set_option maxRecDepth 100000 in
theorem fq_1080 : iv_f1 (iv_p 285) 1080 = some (.inl (iv_oI 4 2)) := rfl
set_option maxRecDepth 100000 in
theorem fq_1082 : iv_f1 (iv_p 285) 1082 = some (.inl (iv_oK (.int (Int32.ofNat 1)) 1)) := rfl
set_option maxRecDepth 100000 in
theorem fq_1083 : iv_f1 (iv_p 285) 1083 = some (.inl (iv_oII fun x y => x + y)) := rfl
set_option maxRecDepth 100000 in
theorem fq_1084 : iv_f1 (iv_p 285) 1084 = some (.inl iv_oIl) := rfl
set_option maxRecDepth 100000 in
theorem fq_1085 : iv_f1 (iv_p 285) 1085 = some (.inl (iv_oA 0 1)) := rfl
set_option maxRecDepth 100000 in
theorem fq_1086 : iv_f1 (iv_p 285) 1086 = some (.inl (iv_oI 4 2)) := rfl
set_option maxRecDepth 100000 in
theorem fq_1088 : iv_f1 (iv_p 285) 1088 = some (.inl (iv_oK (.int (Int32.ofNat 2)) 1)) := rfl
set_option maxRecDepth 100000 in
theorem fq_1089 : iv_f1 (iv_p 285) 1089 = some (.inl (iv_oII fun x y => x + y)) := rfl
set_option maxRecDepth 100000 in
theorem fq_1090 : iv_f1 (iv_p 285) 1090 = some (.inl iv_oIl) := rfl
set_option maxRecDepth 100000 in
theorem fq_1091 : iv_f1 (iv_p 285) 1091 = some (.inl (iv_oA 0 1)) := rfl
set_option maxRecDepth 100000 in
theorem fq_1092 : iv_f1 (iv_p 285) 1092 = some (.inl (iv_oI 4 2)) := rfl
set_option maxRecDepth 100000 in
theorem fq_1094 : iv_f1 (iv_p 285) 1094 = some (.inl (iv_oK (.int (Int32.ofNat 3)) 1)) := rfl
set_option maxRecDepth 100000 in
theorem fq_1095 : iv_f1 (iv_p 285) 1095 = some (.inl (iv_oII fun x y => x + y)) := rfl
set_option maxRecDepth 100000 in
theorem fq_1096 : iv_f1 (iv_p 285) 1096 = some (.inl iv_oIl) := rfl
set_option maxRecDepth 100000 in
theorem fq_1097 : iv_f1 (iv_p 285) 1097 = some (.inr (.inr (6, 257, 3, 12))) := rfl
set_option maxRecDepth 100000 in
theorem fq_1100 : iv_f1 (iv_p 285) 1100 = some (.inl iv_oPop) := rfl
set_option maxRecDepth 100000 in
theorem fq_1101 : iv_f1 (iv_p 285) 1101 = some (.inl (iv_oGo (166))) := rfl
set_option maxRecDepth 100000 in
theorem fq_1104 : iv_f1 (iv_p 285) 1104 = some (.inl (iv_oA 1 1)) := rfl
set_option maxRecDepth 100000 in
theorem fq_1105 : iv_f1 (iv_p 285) 1105 = some (.inl (iv_oA 0 1)) := rfl
set_option maxRecDepth 100000 in
theorem fq_1106 : iv_f1 (iv_p 285) 1106 = some (.inl (iv_oI 4 2)) := rfl
set_option maxRecDepth 100000 in
theorem fq_1108 : iv_f1 (iv_p 285) 1108 = some (.inl (iv_oK (.int (Int32.ofNat 1)) 1)) := rfl
set_option maxRecDepth 100000 in
theorem fq_1109 : iv_f1 (iv_p 285) 1109 = some (.inl (iv_oII fun x y => x + y)) := rfl
set_option maxRecDepth 100000 in
theorem fq_1110 : iv_f1 (iv_p 285) 1110 = some (.inl iv_oIl) := rfl
set_option maxRecDepth 100000 in
theorem fq_1111 : iv_f1 (iv_p 285) 1111 = some (.inr (.inr (6, 148, 1, 11))) := rfl
set_option maxRecDepth 100000 in
theorem fq_1114 : iv_f1 (iv_p 285) 1114 = some (.inl iv_oPop) := rfl
set_option maxRecDepth 100000 in
theorem fq_1115 : iv_f1 (iv_p 285) 1115 = some (.inl (iv_oA 2 1)) := rfl
set_option maxRecDepth 100000 in
theorem fq_1116 : iv_f1 (iv_p 285) 1116 = some (.inl (iv_oA 0 1)) := rfl
set_option maxRecDepth 100000 in
theorem fq_1117 : iv_f1 (iv_p 285) 1117 = some (.inl (iv_oI 4 2)) := rfl
set_option maxRecDepth 100000 in
theorem fq_1119 : iv_f1 (iv_p 285) 1119 = some (.inl (iv_oK (.int (Int32.ofNat 1)) 1)) := rfl
set_option maxRecDepth 100000 in
theorem fq_1120 : iv_f1 (iv_p 285) 1120 = some (.inl (iv_oII fun x y => x + y)) := rfl
set_option maxRecDepth 100000 in
theorem fq_1121 : iv_f1 (iv_p 285) 1121 = some (.inl iv_oIl) := rfl
set_option maxRecDepth 100000 in
theorem fq_1122 : iv_f1 (iv_p 285) 1122 = some (.inr (.inr (6, 266, 1, 12))) := rfl
set_option maxRecDepth 100000 in
theorem fq_1125 : iv_f1 (iv_p 285) 1125 = some (.inl iv_oPop) := rfl
set_option maxRecDepth 100000 in
theorem fq_1126 : iv_f1 (iv_p 285) 1126 = some (.inl (iv_oGo (141))) := rfl
set_option maxRecDepth 100000 in
theorem fq_1129 : iv_f1 (iv_p 285) 1129 = some (.inl (iv_oA 1 1)) := rfl
set_option maxRecDepth 100000 in
theorem fq_1130 : iv_f1 (iv_p 285) 1130 = some (.inl (iv_oA 0 1)) := rfl
set_option maxRecDepth 100000 in
theorem fq_1131 : iv_f1 (iv_p 285) 1131 = some (.inl (iv_oI 4 2)) := rfl
set_option maxRecDepth 100000 in
theorem fq_1133 : iv_f1 (iv_p 285) 1133 = some (.inl (iv_oK (.int (Int32.ofNat 1)) 1)) := rfl
set_option maxRecDepth 100000 in
theorem fq_1134 : iv_f1 (iv_p 285) 1134 = some (.inl (iv_oII fun x y => x + y)) := rfl
set_option maxRecDepth 100000 in
theorem fq_1135 : iv_f1 (iv_p 285) 1135 = some (.inl iv_oIl) := rfl
set_option maxRecDepth 100000 in
theorem fq_1136 : iv_f1 (iv_p 285) 1136 = some (.inr (.inr (6, 149, 1, 11))) := rfl
set_option maxRecDepth 100000 in
theorem fq_1139 : iv_f1 (iv_p 285) 1139 = some (.inl iv_oPop) := rfl
set_option maxRecDepth 100000 in
theorem fq_1140 : iv_f1 (iv_p 285) 1140 = some (.inl (iv_oA 2 1)) := rfl
set_option maxRecDepth 100000 in
theorem fq_1141 : iv_f1 (iv_p 285) 1141 = some (.inl (iv_oA 0 1)) := rfl
set_option maxRecDepth 100000 in
theorem fq_1142 : iv_f1 (iv_p 285) 1142 = some (.inl (iv_oI 4 2)) := rfl
set_option maxRecDepth 100000 in
theorem fq_1144 : iv_f1 (iv_p 285) 1144 = some (.inl (iv_oK (.int (Int32.ofNat 1)) 1)) := rfl
set_option maxRecDepth 100000 in
theorem fq_1145 : iv_f1 (iv_p 285) 1145 = some (.inl (iv_oII fun x y => x + y)) := rfl
set_option maxRecDepth 100000 in
theorem fq_1146 : iv_f1 (iv_p 285) 1146 = some (.inl iv_oIl) := rfl
set_option maxRecDepth 100000 in
theorem fq_1147 : iv_f1 (iv_p 285) 1147 = some (.inr (.inr (6, 268, 1, 12))) := rfl
set_option maxRecDepth 100000 in
theorem fq_1150 : iv_f1 (iv_p 285) 1150 = some (.inl iv_oPop) := rfl
set_option maxRecDepth 100000 in
theorem fq_1151 : iv_f1 (iv_p 285) 1151 = some (.inl (iv_oGo (116))) := rfl
set_option maxRecDepth 100000 in
theorem fq_1154 : iv_f1 (iv_p 285) 1154 = some (.inl (iv_oA 1 1)) := rfl
set_option maxRecDepth 100000 in
theorem fq_1155 : iv_f1 (iv_p 285) 1155 = some (.inr (.inr (6, 150, 0, 11))) := rfl
set_option maxRecDepth 100000 in
theorem fq_1158 : iv_f1 (iv_p 285) 1158 = some (.inl iv_oPop) := rfl
set_option maxRecDepth 100000 in
theorem fq_1159 : iv_f1 (iv_p 285) 1159 = some (.inl (iv_oA 2 1)) := rfl
set_option maxRecDepth 100000 in
theorem fq_1160 : iv_f1 (iv_p 285) 1160 = some (.inr (.inr (6, 277, 0, 12))) := rfl
set_option maxRecDepth 100000 in
theorem fq_1163 : iv_f1 (iv_p 285) 1163 = some (.inl iv_oPop) := rfl
set_option maxRecDepth 100000 in
theorem fq_1164 : iv_f1 (iv_p 285) 1164 = some (.inl (iv_oGo (103))) := rfl
set_option maxRecDepth 100000 in
theorem fq_1167 : iv_f1 (iv_p 285) 1167 = some (.inl (iv_oA 1 1)) := rfl
set_option maxRecDepth 100000 in
theorem fq_1168 : iv_f1 (iv_p 285) 1168 = some (.inl (iv_oA 0 1)) := rfl
set_option maxRecDepth 100000 in
theorem fq_1169 : iv_f1 (iv_p 285) 1169 = some (.inl (iv_oI 4 2)) := rfl
set_option maxRecDepth 100000 in
theorem fq_1171 : iv_f1 (iv_p 285) 1171 = some (.inl (iv_oK (.int (Int32.ofNat 1)) 1)) := rfl
set_option maxRecDepth 100000 in
theorem fq_1172 : iv_f1 (iv_p 285) 1172 = some (.inl (iv_oII fun x y => x + y)) := rfl
set_option maxRecDepth 100000 in
theorem fq_1173 : iv_f1 (iv_p 285) 1173 = some (.inl iv_oIl) := rfl
set_option maxRecDepth 100000 in
theorem fq_1174 : iv_f1 (iv_p 285) 1174 = some (.inr (.inr (6, 151, 1, 11))) := rfl
set_option maxRecDepth 100000 in
theorem fq_1177 : iv_f1 (iv_p 285) 1177 = some (.inl iv_oPop) := rfl
set_option maxRecDepth 100000 in
theorem fq_1178 : iv_f1 (iv_p 285) 1178 = some (.inl (iv_oA 2 1)) := rfl
set_option maxRecDepth 100000 in
theorem fq_1179 : iv_f1 (iv_p 285) 1179 = some (.inl (iv_oA 0 1)) := rfl
set_option maxRecDepth 100000 in
theorem fq_1180 : iv_f1 (iv_p 285) 1180 = some (.inl (iv_oI 4 2)) := rfl
set_option maxRecDepth 100000 in
theorem fq_1182 : iv_f1 (iv_p 285) 1182 = some (.inl (iv_oK (.int (Int32.ofNat 1)) 1)) := rfl
set_option maxRecDepth 100000 in
theorem fq_1183 : iv_f1 (iv_p 285) 1183 = some (.inl (iv_oII fun x y => x + y)) := rfl
set_option maxRecDepth 100000 in
theorem fq_1184 : iv_f1 (iv_p 285) 1184 = some (.inl iv_oIl) := rfl
set_option maxRecDepth 100000 in
theorem fq_1185 : iv_f1 (iv_p 285) 1185 = some (.inr (.inr (6, 279, 1, 12))) := rfl
set_option maxRecDepth 100000 in
theorem fq_1188 : iv_f1 (iv_p 285) 1188 = some (.inl iv_oPop) := rfl
set_option maxRecDepth 100000 in
theorem fq_1189 : iv_f1 (iv_p 285) 1189 = some (.inl (iv_oGo (78))) := rfl
set_option maxRecDepth 100000 in
theorem fq_1192 : iv_f1 (iv_p 285) 1192 = some (.inl (iv_oA 1 1)) := rfl
set_option maxRecDepth 100000 in
theorem fq_1193 : iv_f1 (iv_p 285) 1193 = some (.inl (iv_oA 0 1)) := rfl
set_option maxRecDepth 100000 in
theorem fq_1194 : iv_f1 (iv_p 285) 1194 = some (.inl (iv_oI 4 2)) := rfl
set_option maxRecDepth 100000 in
theorem fq_1196 : iv_f1 (iv_p 285) 1196 = some (.inl (iv_oK (.int (Int32.ofNat 1)) 1)) := rfl
set_option maxRecDepth 100000 in
theorem fq_1197 : iv_f1 (iv_p 285) 1197 = some (.inl (iv_oII fun x y => x + y)) := rfl
set_option maxRecDepth 100000 in
theorem fq_1198 : iv_f1 (iv_p 285) 1198 = some (.inl iv_oIl) := rfl
set_option maxRecDepth 100000 in
theorem fq_1199 : iv_f1 (iv_p 285) 1199 = some (.inr (.inr (6, 152, 1, 11))) := rfl
set_option maxRecDepth 100000 in
theorem fq_1202 : iv_f1 (iv_p 285) 1202 = some (.inl iv_oPop) := rfl
set_option maxRecDepth 100000 in
theorem fq_1203 : iv_f1 (iv_p 285) 1203 = some (.inl (iv_oA 2 1)) := rfl
set_option maxRecDepth 100000 in
theorem fq_1204 : iv_f1 (iv_p 285) 1204 = some (.inl (iv_oA 0 1)) := rfl
set_option maxRecDepth 100000 in
theorem fq_1205 : iv_f1 (iv_p 285) 1205 = some (.inl (iv_oI 4 2)) := rfl
set_option maxRecDepth 100000 in
theorem fq_1207 : iv_f1 (iv_p 285) 1207 = some (.inl (iv_oK (.int (Int32.ofNat 1)) 1)) := rfl
set_option maxRecDepth 100000 in
theorem fq_1208 : iv_f1 (iv_p 285) 1208 = some (.inl (iv_oII fun x y => x + y)) := rfl
set_option maxRecDepth 100000 in
theorem fq_1209 : iv_f1 (iv_p 285) 1209 = some (.inl iv_oIl) := rfl
set_option maxRecDepth 100000 in
theorem fq_1210 : iv_f1 (iv_p 285) 1210 = some (.inr (.inr (6, 280, 1, 12))) := rfl
set_option maxRecDepth 100000 in
theorem fq_1213 : iv_f1 (iv_p 285) 1213 = some (.inl iv_oPop) := rfl
set_option maxRecDepth 100000 in
theorem fq_1214 : iv_f1 (iv_p 285) 1214 = some (.inl (iv_oGo (53))) := rfl
set_option maxRecDepth 100000 in
theorem fq_1217 : iv_f1 (iv_p 285) 1217 = some (.inl (iv_oA 1 1)) := rfl
set_option maxRecDepth 100000 in
theorem fq_1218 : iv_f1 (iv_p 285) 1218 = some (.inl (iv_oA 0 1)) := rfl
set_option maxRecDepth 100000 in
theorem fq_1219 : iv_f1 (iv_p 285) 1219 = some (.inl (iv_oI 4 2)) := rfl
set_option maxRecDepth 100000 in
theorem fq_1221 : iv_f1 (iv_p 285) 1221 = some (.inl (iv_oK (.int (Int32.ofNat 1)) 1)) := rfl
set_option maxRecDepth 100000 in
theorem fq_1222 : iv_f1 (iv_p 285) 1222 = some (.inl (iv_oII fun x y => x + y)) := rfl
set_option maxRecDepth 100000 in
theorem fq_1223 : iv_f1 (iv_p 285) 1223 = some (.inl iv_oIl) := rfl
set_option maxRecDepth 100000 in
theorem fq_1224 : iv_f1 (iv_p 285) 1224 = some (.inr (.inr (6, 153, 1, 11))) := rfl
set_option maxRecDepth 100000 in
theorem fq_1227 : iv_f1 (iv_p 285) 1227 = some (.inl iv_oPop) := rfl
set_option maxRecDepth 100000 in
theorem fq_1228 : iv_f1 (iv_p 285) 1228 = some (.inl (iv_oA 2 1)) := rfl
set_option maxRecDepth 100000 in
theorem fq_1229 : iv_f1 (iv_p 285) 1229 = some (.inl (iv_oA 0 1)) := rfl
set_option maxRecDepth 100000 in
theorem fq_1230 : iv_f1 (iv_p 285) 1230 = some (.inl (iv_oI 4 2)) := rfl
set_option maxRecDepth 100000 in
theorem fq_1232 : iv_f1 (iv_p 285) 1232 = some (.inl (iv_oK (.int (Int32.ofNat 1)) 1)) := rfl
set_option maxRecDepth 100000 in
theorem fq_1233 : iv_f1 (iv_p 285) 1233 = some (.inl (iv_oII fun x y => x + y)) := rfl
set_option maxRecDepth 100000 in
theorem fq_1234 : iv_f1 (iv_p 285) 1234 = some (.inl iv_oIl) := rfl
set_option maxRecDepth 100000 in
theorem fq_1235 : iv_f1 (iv_p 285) 1235 = some (.inr (.inr (6, 281, 1, 12))) := rfl
set_option maxRecDepth 100000 in
theorem fq_1238 : iv_f1 (iv_p 285) 1238 = some (.inl iv_oPop) := rfl
set_option maxRecDepth 100000 in
theorem fq_1239 : iv_f1 (iv_p 285) 1239 = some (.inl (iv_oGo (28))) := rfl
set_option maxRecDepth 100000 in
theorem fq_1242 : iv_f1 (iv_p 285) 1242 = some (.inl (iv_oA 1 1)) := rfl
set_option maxRecDepth 100000 in
theorem fq_1243 : iv_f1 (iv_p 285) 1243 = some (.inl (iv_oA 0 1)) := rfl
set_option maxRecDepth 100000 in
theorem fq_1244 : iv_f1 (iv_p 285) 1244 = some (.inl (iv_oI 4 2)) := rfl
set_option maxRecDepth 100000 in
theorem fq_1246 : iv_f1 (iv_p 285) 1246 = some (.inl (iv_oK (.int (Int32.ofNat 1)) 1)) := rfl
set_option maxRecDepth 100000 in
theorem fq_1247 : iv_f1 (iv_p 285) 1247 = some (.inl (iv_oII fun x y => x + y)) := rfl
set_option maxRecDepth 100000 in
theorem fq_1248 : iv_f1 (iv_p 285) 1248 = some (.inl iv_oIl) := rfl
set_option maxRecDepth 100000 in
theorem fq_1249 : iv_f1 (iv_p 285) 1249 = some (.inr (.inr (6, 154, 1, 11))) := rfl
set_option maxRecDepth 100000 in
theorem fq_1252 : iv_f1 (iv_p 285) 1252 = some (.inl iv_oPop) := rfl
set_option maxRecDepth 100000 in
theorem fq_1253 : iv_f1 (iv_p 285) 1253 = some (.inl (iv_oA 2 1)) := rfl
set_option maxRecDepth 100000 in
theorem fq_1254 : iv_f1 (iv_p 285) 1254 = some (.inl (iv_oA 0 1)) := rfl
set_option maxRecDepth 100000 in
theorem fq_1255 : iv_f1 (iv_p 285) 1255 = some (.inl (iv_oI 4 2)) := rfl
set_option maxRecDepth 100000 in
theorem fq_1257 : iv_f1 (iv_p 285) 1257 = some (.inl (iv_oK (.int (Int32.ofNat 1)) 1)) := rfl
set_option maxRecDepth 100000 in
theorem fq_1258 : iv_f1 (iv_p 285) 1258 = some (.inl (iv_oII fun x y => x + y)) := rfl
set_option maxRecDepth 100000 in
theorem fq_1259 : iv_f1 (iv_p 285) 1259 = some (.inl iv_oIl) := rfl
set_option maxRecDepth 100000 in
theorem fq_1260 : iv_f1 (iv_p 285) 1260 = some (.inr (.inr (6, 282, 1, 12))) := rfl
set_option maxRecDepth 100000 in
theorem fq_1263 : iv_f1 (iv_p 285) 1263 = some (.inl iv_oPop) := rfl
set_option maxRecDepth 100000 in
theorem fq_1264 : iv_f1 (iv_p 285) 1264 = some (.inl (iv_oGo (3))) := rfl
set_option maxRecDepth 100000 in
theorem fq_23 : iv_f1 (iv_p 285) 23 = some (.inl (iv_oI 4 2)) := rfl
set_option maxRecDepth 100000 in
theorem fq_25 : iv_f1 (iv_p 285) 25 = some (.inl (iv_oA 0 1)) := rfl
set_option maxRecDepth 100000 in
theorem fq_27 : iv_f1 (iv_p 285) 27 = some (.inl (iv_oK (.int (Int32.ofNat 6)) 2)) := rfl
set_option maxRecDepth 100000 in
theorem fq_29 : iv_f1 (iv_p 285) 29 = some (.inl (iv_oII fun x y => x - y)) := rfl
set_option maxRecDepth 100000 in
theorem fq_30 : iv_f1 (iv_p 285) 30 = some (.inl (iv_oIc .gt (1243))) := rfl
set_option maxRecDepth 100000 in
theorem fq_33 : iv_f1 (iv_p 285) 33 = some (.inl (iv_oA 0 1)) := rfl
set_option maxRecDepth 100000 in
theorem fq_34 : iv_f1 (iv_p 285) 34 = some (.inl (iv_oI 4 2)) := rfl
set_option maxRecDepth 100000 in
theorem fq_36 : iv_f1 (iv_p 285) 36 = some (.inl iv_oIl) := rfl
set_option maxRecDepth 100000 in
theorem fq_37 : iv_f1 (iv_p 285) 37 = some (.inl (iv_oK (.int (Int32.ofNat 63)) 2)) := rfl
set_option maxRecDepth 100000 in
theorem fq_39 : iv_f1 (iv_p 285) 39 = some (.inl (iv_oII fun x y => x &&& y)) := rfl
set_option maxRecDepth 100000 in
theorem fq_40 : iv_f1 (iv_p 285) 40 = some (.inl (iv_oTs 1227 0 36 #[164, 237, 262, 275, 288, 328, 365, 390, 439, 476, 501, 538, 563, 588, 601, 650, 687, 712, 725, 750, 763, 776, 801, 826, 866, 903, 928, 953, 978, 1015, 1064, 1089, 1114, 1127, 1152, 1177, 1202])) := rfl
set_option maxRecDepth 100000 in
theorem fq_1267 : iv_f1 (iv_p 285) 1267 = some (.inl (iv_oInc 4 6)) := rfl
set_option maxRecDepth 100000 in
theorem fq_1270 : iv_f1 (iv_p 285) 1270 = some (.inl (iv_oGo (-1247))) := rfl
set_option maxRecDepth 100000 in
theorem fq_1273 : iv_f1 (iv_p 285) 1273 = some (.inl (iv_oK (.int (Int32.ofNat 1)) 1)) := rfl
set_option maxRecDepth 100000 in
theorem fq_1274 : iv_f1 (iv_p 285) 1274 = some (.inr (.inl 2)) := rfl
theorem k_feed {L : Nat} {xs : Nat → Int32} {i : Nat} {lv : iv_L} {x : Int32} {σ : iv_H} (hl : lvI i lv) (hi : i + 5 < L) (hL : L ≤ 3072) (hI : Inv5 x x σ) : ∃ (x' : Int32) (σ' : iv_H), iv_Pn L xs 1267 600 285 204 lv [] σ lv [] σ' ∧ Inv5 x' x' σ' := by
  obtain ⟨v, x', σ1, hR, hI1, hP⟩ := s_feed_c (L := L) (xs := xs) (d := 599) (a1 := xs (i + 1)) (a2 := xs (i + 2)) (a3 := xs (i + 3)) (a4 := xs (i + 4)) (a5 := xs (i + 5)) (by decide) (inv_of5 hI)
  obtain ⟨w, y', σ2, hR2, hI2, hP2⟩ := s_feed_m (L := L) (xs := xs) (d := 599) (a1 := xs (i + 1)) (a2 := xs (i + 2)) (a3 := xs (i + 3)) (a4 := xs (i + 4)) (a5 := xs (i + 5)) (by decide) hI1
  have ft1 := ft_cB (L := L) (xs := xs) (d := 599) (rs := [(-2147483648, 2147483647), (-2147483648, 2147483647), (-2147483648, 2147483647), (-2147483648, 2147483647), (-2147483648, 2147483647)]) (ys := [xs (i + 1), xs (i + 2), xs (i + 3), xs (i + 4), xs (i + 5)]) zu_0 rfl ⟨i32_full _, ⟨i32_full _, ⟨i32_full _, ⟨i32_full _, ⟨i32_full _, trivial⟩⟩⟩⟩⟩ (by decide) rfl rfl hI hR (ft_of5 hI)
  have ft := ft_mB (L := L) (xs := xs) (d := 599) (rs := [(-2147483648, 2147483647), (-2147483648, 2147483647), (-2147483648, 2147483647), (-2147483648, 2147483647), (-2147483648, 2147483647)]) (ys := [xs (i + 1), xs (i + 2), xs (i + 3), xs (i + 4), xs (i + 5)]) nt_0 rfl ⟨i32_full _, ⟨i32_full _, ⟨i32_full _, ⟨i32_full _, ⟨i32_full _, trivial⟩⟩⟩⟩⟩ (by decide) rfl rfl hI1 hR2 ft1
  obtain ⟨rfl, rfl⟩ := feed_same hP hP2
  obtain ⟨fs, ho, _⟩ := z_G hI.1.1
  obtain ⟨fs2, ho2, _⟩ := m_G hI1.2.1.1
  refine ⟨x', σ2, ?_, Inv5_of hI2 ft⟩
  refine p_A fq_204 hl.2.1 rfl ?_
  refine p_arg (k := 1) fq_205 fq_206 fq_208 fq_209 fq_210 hl (by omega) hL (by decide) ?_
  refine p_arg (k := 2) fq_211 fq_212 fq_214 fq_215 fq_216 hl (by omega) hL (by decide) ?_
  refine p_arg (k := 3) fq_217 fq_218 fq_220 fq_221 fq_222 hl (by omega) hL (by decide) ?_
  refine p_arg (k := 4) fq_223 fq_224 fq_226 fq_227 fq_228 hl (by omega) hL (by decide) ?_
  refine p_arg (k := 5) fq_229 fq_230 fq_232 fq_233 fq_234 hl (by omega) hL (by decide) ?_
  refine p_call fq_235 (ar_5 ho) rfl rfl hR ?_
  refine p_pop fq_238 rfl ?_
  refine p_A fq_239 hl.2.2.1 rfl ?_
  refine p_arg (k := 1) fq_240 fq_241 fq_243 fq_244 fq_245 hl (by omega) hL (by decide) ?_
  refine p_arg (k := 2) fq_246 fq_247 fq_249 fq_250 fq_251 hl (by omega) hL (by decide) ?_
  refine p_arg (k := 3) fq_252 fq_253 fq_255 fq_256 fq_257 hl (by omega) hL (by decide) ?_
  refine p_arg (k := 4) fq_258 fq_259 fq_261 fq_262 fq_263 hl (by omega) hL (by decide) ?_
  refine p_arg (k := 5) fq_264 fq_265 fq_267 fq_268 fq_269 hl (by omega) hL (by decide) ?_
  refine p_call fq_270 (ar_5 ho2) rfl rfl hR2 ?_
  refine p_pop fq_273 rfl ?_
  exact p_go fq_274 rfl rfl p_end
theorem k_end {L : Nat} {xs : Nat → Int32} {i : Nat} {lv : iv_L} {x : Int32} {σ : iv_H} (hl : lvI i lv) (hi : i + 5 < L) (hL : L ≤ 3072) (hI : Inv5 x x σ) : ∃ (x' : Int32) (σ' : iv_H), iv_Pn L xs 1267 600 285 277 lv [] σ lv [] σ' ∧ Inv5 x' x' σ' := by
  obtain ⟨v, x', σ1, hR, hI1, hP⟩ := s_end_c (L := L) (xs := xs) (d := 599) (a1 := xs (i + 1)) (by decide) (inv_of5 hI)
  obtain ⟨w, y', σ2, hR2, hI2, hP2⟩ := s_end_m (L := L) (xs := xs) (d := 599) (a1 := xs (i + 1)) (by decide) hI1
  have ft1 := ft_cB (L := L) (xs := xs) (d := 599) (rs := [(-2147483648, 2147483647)]) (ys := [xs (i + 1)]) zu_1 rfl ⟨i32_full _, trivial⟩ (by decide) rfl rfl hI hR (ft_of5 hI)
  have ft := ft_mB (L := L) (xs := xs) (d := 599) (rs := [(-2147483648, 2147483647)]) (ys := [xs (i + 1)]) nt_1 rfl ⟨i32_full _, trivial⟩ (by decide) rfl rfl hI1 hR2 ft1
  obtain ⟨rfl, rfl⟩ := end_same hP hP2
  obtain ⟨fs, ho, _⟩ := z_G hI.1.1
  obtain ⟨fs2, ho2, _⟩ := m_G hI1.2.1.1
  refine ⟨x', σ2, ?_, Inv5_of hI2 ft⟩
  refine p_A fq_277 hl.2.1 rfl ?_
  refine p_arg (k := 1) fq_278 fq_279 fq_281 fq_282 fq_283 hl (by omega) hL (by decide) ?_
  refine p_call fq_284 (ar_1 ho) rfl rfl hR ?_
  refine p_pop fq_287 rfl ?_
  refine p_A fq_288 hl.2.2.1 rfl ?_
  refine p_arg (k := 1) fq_289 fq_290 fq_292 fq_293 fq_294 hl (by omega) hL (by decide) ?_
  refine p_call fq_295 (ar_1 ho2) rfl rfl hR2 ?_
  refine p_pop fq_298 rfl ?_
  exact p_go fq_299 rfl rfl p_end
theorem k_order {L : Nat} {xs : Nat → Int32} {i : Nat} {lv : iv_L} {x : Int32} {σ : iv_H} (hl : lvI i lv) (hi : i + 5 < L) (hL : L ≤ 3072) (hI : Inv5 x x σ) : ∃ (x' : Int32) (σ' : iv_H), iv_Pn L xs 1267 600 285 302 lv [] σ lv [] σ' ∧ Inv5 x' x' σ' := by
  obtain ⟨v, w, x', σ1, σ2, hR, hM1, hR2, hI2, ft⟩ := ord_pair (L := L) (xs := xs) (inv_of5 hI)
  obtain ⟨fs, ho, _⟩ := z_G hI.1.1
  obtain ⟨fs2, ho2, _⟩ := m_G hM1
  refine ⟨x', σ2, ?_, Inv5_of hI2 ft⟩
  refine p_A fq_302 hl.2.1 rfl ?_
  refine p_call fq_303 (ar_0 ho) rfl rfl hR ?_
  refine p_pop fq_306 rfl ?_
  refine p_A fq_307 hl.2.2.1 rfl ?_
  refine p_call fq_308 (ar_0 ho2) rfl rfl hR2 ?_
  refine p_pop fq_311 rfl ?_
  exact p_go fq_312 rfl rfl p_end
theorem k_fault {L : Nat} {xs : Nat → Int32} {i : Nat} {lv : iv_L} {x : Int32} {σ : iv_H} (hl : lvI i lv) (hi : i + 5 < L) (hL : L ≤ 3072) (hI : Inv5 x x σ) : ∃ (x' : Int32) (σ' : iv_H), iv_Pn L xs 1267 600 285 315 lv [] σ lv [] σ' ∧ Inv5 x' x' σ' := by
  obtain ⟨v, σ1, hR, hI1⟩ := cl_c5 (L := L) (xs := xs) (d := 599) (rs := []) (ys := []) zt_3 rfl rfl rfl rfl rfl trivial (by decide) hI
  obtain ⟨w, σ2, hR2, hI2⟩ := cl_m5 (L := L) (xs := xs) (d := 599) (rs := []) (ys := []) (mt_29 hT_s.1) rfl rfl rfl rfl rfl trivial (by decide) hI1
  obtain rfl := fault_same hI hR hR2
  obtain ⟨fs, ho, _⟩ := z_G hI.1.1
  obtain ⟨fs2, ho2, _⟩ := m_G hI1.2.1.1
  refine ⟨x, σ2, ?_, hI2⟩
  refine p_A fq_315 hl.2.1 rfl ?_
  refine p_call fq_316 (ar_0 ho) rfl rfl hR ?_
  refine p_A fq_319 hl.2.2.1 rfl ?_
  refine p_call fq_320 (ar_0 ho2) rfl rfl hR2 ?_
  exact p_icT fq_323 rfl rfl (c_eq rfl) p_end
theorem k_grater {L : Nat} {xs : Nat → Int32} {i : Nat} {lv : iv_L} {x : Int32} {σ : iv_H} (hl : lvI i lv) (hi : i + 5 < L) (hL : L ≤ 3072) (hI : Inv5 x x σ) : ∃ (x' : Int32) (σ' : iv_H), iv_Pn L xs 1267 600 285 368 lv [] σ lv [] σ' ∧ Inv5 x' x' σ' := by
  obtain ⟨v, σ1, hR, hI1⟩ := cl_c5 (L := L) (xs := xs) (d := 599) (rs := [(-2147483648, 2147483647), (-2147483648, 2147483647)]) (ys := [xs (i + 1), xs (i + 2)]) zt_6 rfl rfl rfl rfl rfl ⟨i32_full _, ⟨i32_full _, trivial⟩⟩ (by decide) hI
  obtain ⟨w, σ2, hR2, hI2⟩ := cl_m5 (L := L) (xs := xs) (d := 599) (rs := [(-2147483648, 2147483647), (-2147483648, 2147483647)]) (ys := [xs (i + 1), xs (i + 2)]) (mt_35 hT_s.1) rfl rfl rfl rfl rfl ⟨i32_full _, ⟨i32_full _, trivial⟩⟩ (by decide) hI1
  obtain ⟨fs, ho, _⟩ := z_G hI.1.1
  obtain ⟨fs2, ho2, _⟩ := m_G hI1.2.1.1
  refine ⟨x, σ2, ?_, hI2⟩
  refine p_A fq_368 hl.2.1 rfl ?_
  refine p_arg (k := 1) fq_369 fq_370 fq_372 fq_373 fq_374 hl (by omega) hL (by decide) ?_
  refine p_arg (k := 2) fq_375 fq_376 fq_378 fq_379 fq_380 hl (by omega) hL (by decide) ?_
  refine p_call fq_381 (ar_2 ho) rfl rfl hR ?_
  refine p_pop fq_384 rfl ?_
  refine p_A fq_385 hl.2.2.1 rfl ?_
  refine p_arg (k := 1) fq_386 fq_387 fq_389 fq_390 fq_391 hl (by omega) hL (by decide) ?_
  refine p_arg (k := 2) fq_392 fq_393 fq_395 fq_396 fq_397 hl (by omega) hL (by decide) ?_
  refine p_call fq_398 (ar_2 ho2) rfl rfl hR2 ?_
  refine p_pop fq_401 rfl ?_
  exact p_go fq_402 rfl rfl p_end
theorem k_now {L : Nat} {xs : Nat → Int32} {i : Nat} {lv : iv_L} {x : Int32} {σ : iv_H} (hl : lvI i lv) (hi : i + 5 < L) (hL : L ≤ 3072) (hI : Inv5 x x σ) : ∃ (x' : Int32) (σ' : iv_H), iv_Pn L xs 1267 600 285 405 lv [] σ lv [] σ' ∧ Inv5 x' x' σ' := by
  obtain ⟨v, σ1, hR, hI1⟩ := cl_c5 (L := L) (xs := xs) (d := 599) (rs := [(-2147483648, 2147483647)]) (ys := [xs (i + 1)]) zt_11 rfl rfl rfl rfl rfl ⟨i32_full _, trivial⟩ (by decide) hI
  obtain ⟨w, σ2, hR2, hI2⟩ := cl_m5 (L := L) (xs := xs) (d := 599) (rs := [(-2147483648, 2147483647)]) (ys := [xs (i + 1)]) (mt_37 hT_s.1) rfl rfl rfl rfl rfl ⟨i32_full _, trivial⟩ (by decide) hI1
  obtain ⟨fs, ho, _⟩ := z_G hI.1.1
  obtain ⟨fs2, ho2, _⟩ := m_G hI1.2.1.1
  refine ⟨x, σ2, ?_, hI2⟩
  refine p_A fq_405 hl.2.1 rfl ?_
  refine p_arg (k := 1) fq_406 fq_407 fq_409 fq_410 fq_411 hl (by omega) hL (by decide) ?_
  refine p_call fq_412 (ar_1 ho) rfl rfl hR ?_
  refine p_pop fq_415 rfl ?_
  refine p_A fq_416 hl.2.2.1 rfl ?_
  refine p_arg (k := 1) fq_417 fq_418 fq_420 fq_421 fq_422 hl (by omega) hL (by decide) ?_
  refine p_call fq_423 (ar_1 ho2) rfl rfl hR2 ?_
  refine p_pop fq_426 rfl ?_
  exact p_go fq_427 rfl rfl p_end
theorem k_grate {L : Nat} {xs : Nat → Int32} {i : Nat} {lv : iv_L} {x : Int32} {σ : iv_H} (hl : lvI i lv) (hi : i + 5 < L) (hL : L ≤ 3072) (hI : Inv5 x x σ) : ∃ (x' : Int32) (σ' : iv_H), iv_Pn L xs 1267 600 285 430 lv [] σ lv [] σ' ∧ Inv5 x' x' σ' := by
  obtain ⟨v, σ1, hR, hI1⟩ := cl_c5 (L := L) (xs := xs) (d := 599) (rs := [(-2147483648, 2147483647), (-2147483648, 2147483647), (-2147483648, 2147483647)]) (ys := [xs (i + 1), xs (i + 2), xs (i + 3)]) zt_21 rfl rfl rfl rfl rfl ⟨i32_full _, ⟨i32_full _, ⟨i32_full _, trivial⟩⟩⟩ (by decide) hI
  obtain ⟨w, σ2, hR2, hI2⟩ := cl_m5 (L := L) (xs := xs) (d := 599) (rs := [(-2147483648, 2147483647), (-2147483648, 2147483647), (-2147483648, 2147483647)]) (ys := [xs (i + 1), xs (i + 2), xs (i + 3)]) (mt_42) rfl rfl rfl rfl rfl ⟨i32_full _, ⟨i32_full _, ⟨i32_full _, trivial⟩⟩⟩ (by decide) hI1
  obtain ⟨fs, ho, _⟩ := z_G hI.1.1
  obtain ⟨fs2, ho2, _⟩ := m_G hI1.2.1.1
  refine ⟨x, σ2, ?_, hI2⟩
  refine p_A fq_430 hl.2.1 rfl ?_
  refine p_arg (k := 1) fq_431 fq_432 fq_434 fq_435 fq_436 hl (by omega) hL (by decide) ?_
  refine p_arg (k := 2) fq_437 fq_438 fq_440 fq_441 fq_442 hl (by omega) hL (by decide) ?_
  refine p_arg (k := 3) fq_443 fq_444 fq_446 fq_447 fq_448 hl (by omega) hL (by decide) ?_
  refine p_call fq_449 (ar_3 ho) rfl rfl hR ?_
  refine p_pop fq_452 rfl ?_
  refine p_A fq_453 hl.2.2.1 rfl ?_
  refine p_arg (k := 1) fq_454 fq_455 fq_457 fq_458 fq_459 hl (by omega) hL (by decide) ?_
  refine p_arg (k := 2) fq_460 fq_461 fq_463 fq_464 fq_465 hl (by omega) hL (by decide) ?_
  refine p_arg (k := 3) fq_466 fq_467 fq_469 fq_470 fq_471 hl (by omega) hL (by decide) ?_
  refine p_call fq_472 (ar_3 ho2) rfl rfl hR2 ?_
  refine p_pop fq_475 rfl ?_
  exact p_go fq_476 rfl rfl p_end
theorem k_take {L : Nat} {xs : Nat → Int32} {i : Nat} {lv : iv_L} {x : Int32} {σ : iv_H} (hl : lvI i lv) (hi : i + 5 < L) (hL : L ≤ 3072) (hI : Inv5 x x σ) : ∃ (x' : Int32) (σ' : iv_H), iv_Pn L xs 1267 600 285 479 lv [] σ lv [] σ' ∧ Inv5 x' x' σ' := by
  obtain ⟨v, σ1, hR, hI1⟩ := cl_c5 (L := L) (xs := xs) (d := 599) (rs := [(-2147483648, 2147483647), (-2147483648, 2147483647)]) (ys := [xs (i + 1), xs (i + 2)]) zt_26 rfl rfl rfl rfl rfl ⟨i32_full _, ⟨i32_full _, trivial⟩⟩ (by decide) hI
  obtain ⟨w, σ2, hR2, hI2⟩ := cl_m5 (L := L) (xs := xs) (d := 599) (rs := [(-2147483648, 2147483647), (-2147483648, 2147483647)]) (ys := [xs (i + 1), xs (i + 2)]) (mt_43) rfl rfl rfl rfl rfl ⟨i32_full _, ⟨i32_full _, trivial⟩⟩ (by decide) hI1
  obtain ⟨fs, ho, _⟩ := z_G hI.1.1
  obtain ⟨fs2, ho2, _⟩ := m_G hI1.2.1.1
  refine ⟨x, σ2, ?_, hI2⟩
  refine p_A fq_479 hl.2.1 rfl ?_
  refine p_arg (k := 1) fq_480 fq_481 fq_483 fq_484 fq_485 hl (by omega) hL (by decide) ?_
  refine p_arg (k := 2) fq_486 fq_487 fq_489 fq_490 fq_491 hl (by omega) hL (by decide) ?_
  refine p_call fq_492 (ar_2 ho) rfl rfl hR ?_
  refine p_pop fq_495 rfl ?_
  refine p_A fq_496 hl.2.2.1 rfl ?_
  refine p_arg (k := 1) fq_497 fq_498 fq_500 fq_501 fq_502 hl (by omega) hL (by decide) ?_
  refine p_arg (k := 2) fq_503 fq_504 fq_506 fq_507 fq_508 hl (by omega) hL (by decide) ?_
  refine p_call fq_509 (ar_2 ho2) rfl rfl hR2 ?_
  refine p_pop fq_512 rfl ?_
  exact p_go fq_513 rfl rfl p_end
theorem k_put {L : Nat} {xs : Nat → Int32} {i : Nat} {lv : iv_L} {x : Int32} {σ : iv_H} (hl : lvI i lv) (hi : i + 5 < L) (hL : L ≤ 3072) (hI : Inv5 x x σ) : ∃ (x' : Int32) (σ' : iv_H), iv_Pn L xs 1267 600 285 516 lv [] σ lv [] σ' ∧ Inv5 x' x' σ' := by
  obtain ⟨v, σ1, hR, hI1⟩ := cl_c5 (L := L) (xs := xs) (d := 599) (rs := [(-2147483648, 2147483647)]) (ys := [xs (i + 1)]) zt_30 rfl rfl rfl rfl rfl ⟨i32_full _, trivial⟩ (by decide) hI
  obtain ⟨w, σ2, hR2, hI2⟩ := cl_m5 (L := L) (xs := xs) (d := 599) (rs := [(-2147483648, 2147483647)]) (ys := [xs (i + 1)]) (mt_44) rfl rfl rfl rfl rfl ⟨i32_full _, trivial⟩ (by decide) hI1
  obtain ⟨fs, ho, _⟩ := z_G hI.1.1
  obtain ⟨fs2, ho2, _⟩ := m_G hI1.2.1.1
  refine ⟨x, σ2, ?_, hI2⟩
  refine p_A fq_516 hl.2.1 rfl ?_
  refine p_arg (k := 1) fq_517 fq_518 fq_520 fq_521 fq_522 hl (by omega) hL (by decide) ?_
  refine p_call fq_523 (ar_1 ho) rfl rfl hR ?_
  refine p_pop fq_526 rfl ?_
  refine p_A fq_527 hl.2.2.1 rfl ?_
  refine p_arg (k := 1) fq_528 fq_529 fq_531 fq_532 fq_533 hl (by omega) hL (by decide) ?_
  refine p_call fq_534 (ar_1 ho2) rfl rfl hR2 ?_
  refine p_pop fq_537 rfl ?_
  exact p_go fq_538 rfl rfl p_end
theorem k_swap {L : Nat} {xs : Nat → Int32} {i : Nat} {lv : iv_L} {x : Int32} {σ : iv_H} (hl : lvI i lv) (hi : i + 5 < L) (hL : L ≤ 3072) (hI : Inv5 x x σ) : ∃ (x' : Int32) (σ' : iv_H), iv_Pn L xs 1267 600 285 541 lv [] σ lv [] σ' ∧ Inv5 x' x' σ' := by
  obtain ⟨v, σ1, hR, hI1⟩ := cl_c5 (L := L) (xs := xs) (d := 599) (rs := [(-2147483648, 2147483647), (-2147483648, 2147483647)]) (ys := [xs (i + 1), xs (i + 2)]) zt_36 rfl rfl rfl rfl rfl ⟨i32_full _, ⟨i32_full _, trivial⟩⟩ (by decide) hI
  obtain ⟨w, σ2, hR2, hI2⟩ := cl_m5 (L := L) (xs := xs) (d := 599) (rs := [(-2147483648, 2147483647), (-2147483648, 2147483647)]) (ys := [xs (i + 1), xs (i + 2)]) (mt_45) rfl rfl rfl rfl rfl ⟨i32_full _, ⟨i32_full _, trivial⟩⟩ (by decide) hI1
  obtain ⟨fs, ho, _⟩ := z_G hI.1.1
  obtain ⟨fs2, ho2, _⟩ := m_G hI1.2.1.1
  refine ⟨x, σ2, ?_, hI2⟩
  refine p_A fq_541 hl.2.1 rfl ?_
  refine p_arg (k := 1) fq_542 fq_543 fq_545 fq_546 fq_547 hl (by omega) hL (by decide) ?_
  refine p_arg (k := 2) fq_548 fq_549 fq_551 fq_552 fq_553 hl (by omega) hL (by decide) ?_
  refine p_call fq_554 (ar_2 ho) rfl rfl hR ?_
  refine p_pop fq_557 rfl ?_
  refine p_A fq_558 hl.2.2.1 rfl ?_
  refine p_arg (k := 1) fq_559 fq_560 fq_562 fq_563 fq_564 hl (by omega) hL (by decide) ?_
  refine p_arg (k := 2) fq_565 fq_566 fq_568 fq_569 fq_570 hl (by omega) hL (by decide) ?_
  refine p_call fq_571 (ar_2 ho2) rfl rfl hR2 ?_
  refine p_pop fq_574 rfl ?_
  exact p_go fq_575 rfl rfl p_end
theorem k_file {L : Nat} {xs : Nat → Int32} {i : Nat} {lv : iv_L} {x : Int32} {σ : iv_H} (hl : lvI i lv) (hi : i + 5 < L) (hL : L ≤ 3072) (hI : Inv5 x x σ) : ∃ (x' : Int32) (σ' : iv_H), iv_Pn L xs 1267 600 285 578 lv [] σ lv [] σ' ∧ Inv5 x' x' σ' := by
  obtain ⟨v, σ1, hR, hI1⟩ := cl_c5 (L := L) (xs := xs) (d := 599) (rs := [(-2147483648, 2147483647)]) (ys := [xs (i + 1)]) zt_41 rfl rfl rfl rfl rfl ⟨i32_full _, trivial⟩ (by decide) hI
  obtain ⟨w, σ2, hR2, hI2⟩ := cl_m5 (L := L) (xs := xs) (d := 599) (rs := [(-2147483648, 2147483647)]) (ys := [xs (i + 1)]) (mt_46) rfl rfl rfl rfl rfl ⟨i32_full _, trivial⟩ (by decide) hI1
  obtain ⟨fs, ho, _⟩ := z_G hI.1.1
  obtain ⟨fs2, ho2, _⟩ := m_G hI1.2.1.1
  refine ⟨x, σ2, ?_, hI2⟩
  refine p_A fq_578 hl.2.1 rfl ?_
  refine p_arg (k := 1) fq_579 fq_580 fq_582 fq_583 fq_584 hl (by omega) hL (by decide) ?_
  refine p_call fq_585 (ar_1 ho) rfl rfl hR ?_
  refine p_pop fq_588 rfl ?_
  refine p_A fq_589 hl.2.2.1 rfl ?_
  refine p_arg (k := 1) fq_590 fq_591 fq_593 fq_594 fq_595 hl (by omega) hL (by decide) ?_
  refine p_call fq_596 (ar_1 ho2) rfl rfl hR2 ?_
  refine p_pop fq_599 rfl ?_
  exact p_go fq_600 rfl rfl p_end
theorem k_days {L : Nat} {xs : Nat → Int32} {i : Nat} {lv : iv_L} {x : Int32} {σ : iv_H} (hl : lvI i lv) (hi : i + 5 < L) (hL : L ≤ 3072) (hI : Inv5 x x σ) : ∃ (x' : Int32) (σ' : iv_H), iv_Pn L xs 1267 600 285 603 lv [] σ lv [] σ' ∧ Inv5 x' x' σ' := by
  obtain ⟨v, σ1, hR, hI1⟩ := cl_c5 (L := L) (xs := xs) (d := 599) (rs := [(-2147483648, 2147483647)]) (ys := [xs (i + 1)]) zt_45 rfl rfl rfl rfl rfl ⟨i32_full _, trivial⟩ (by decide) hI
  obtain ⟨w, σ2, hR2, hI2⟩ := cl_m5 (L := L) (xs := xs) (d := 599) (rs := [(-2147483648, 2147483647)]) (ys := [xs (i + 1)]) (mt_49) rfl rfl rfl rfl rfl ⟨i32_full _, trivial⟩ (by decide) hI1
  obtain ⟨fs, ho, _⟩ := z_G hI.1.1
  obtain ⟨fs2, ho2, _⟩ := m_G hI1.2.1.1
  refine ⟨x, σ2, ?_, hI2⟩
  refine p_A fq_603 hl.2.1 rfl ?_
  refine p_arg (k := 1) fq_604 fq_605 fq_607 fq_608 fq_609 hl (by omega) hL (by decide) ?_
  refine p_call fq_610 (ar_1 ho) rfl rfl hR ?_
  refine p_pop fq_613 rfl ?_
  refine p_A fq_614 hl.2.2.1 rfl ?_
  refine p_arg (k := 1) fq_615 fq_616 fq_618 fq_619 fq_620 hl (by omega) hL (by decide) ?_
  refine p_call fq_621 (ar_1 ho2) rfl rfl hR2 ?_
  refine p_pop fq_624 rfl ?_
  exact p_go fq_625 rfl rfl p_end
theorem k_undo {L : Nat} {xs : Nat → Int32} {i : Nat} {lv : iv_L} {x : Int32} {σ : iv_H} (hl : lvI i lv) (hi : i + 5 < L) (hL : L ≤ 3072) (hI : Inv5 x x σ) : ∃ (x' : Int32) (σ' : iv_H), iv_Pn L xs 1267 600 285 628 lv [] σ lv [] σ' ∧ Inv5 x' x' σ' := by
  obtain ⟨v, σ1, hR, hI1⟩ := cl_c5 (L := L) (xs := xs) (d := 599) (rs := []) (ys := []) zt_47 rfl rfl rfl rfl rfl trivial (by decide) hI
  obtain ⟨w, σ2, hR2, hI2⟩ := cl_m5 (L := L) (xs := xs) (d := 599) (rs := []) (ys := []) mt_und rfl rfl rfl rfl rfl trivial (by decide) hI1
  obtain ⟨fs, ho, _⟩ := z_G hI.1.1
  obtain ⟨fs2, ho2, _⟩ := m_G hI1.2.1.1
  refine ⟨x, σ2, ?_, hI2⟩
  refine p_A fq_628 hl.2.1 rfl ?_
  refine p_call fq_629 (ar_0 ho) rfl rfl hR ?_
  refine p_pop fq_632 rfl ?_
  refine p_A fq_633 hl.2.2.1 rfl ?_
  refine p_call fq_634 (ar_0 ho2) rfl rfl hR2 ?_
  refine p_pop fq_637 rfl ?_
  exact p_go fq_638 rfl rfl p_end
theorem k_curl {L : Nat} {xs : Nat → Int32} {i : Nat} {lv : iv_L} {x : Int32} {σ : iv_H} (hl : lvI i lv) (hi : i + 5 < L) (hL : L ≤ 3072) (hI : Inv5 x x σ) : ∃ (x' : Int32) (σ' : iv_H), iv_Pn L xs 1267 600 285 641 lv [] σ lv [] σ' ∧ Inv5 x' x' σ' := by
  obtain ⟨v, σ1, hR, hI1⟩ := cl_c5 (L := L) (xs := xs) (d := 599) (rs := [(-2147483648, 2147483647), (-2147483648, 2147483647), (-2147483648, 2147483647)]) (ys := [xs (i + 1), xs (i + 2), xs (i + 3)]) zt_48 rfl rfl rfl rfl rfl ⟨i32_full _, ⟨i32_full _, ⟨i32_full _, trivial⟩⟩⟩ (by decide) hI
  obtain ⟨w, σ2, hR2, hI2⟩ := cl_m5 (L := L) (xs := xs) (d := 599) (rs := [(-2147483648, 2147483647), (-2147483648, 2147483647), (-2147483648, 2147483647)]) (ys := [xs (i + 1), xs (i + 2), xs (i + 3)]) (mt_50 hT_s.1) rfl rfl rfl rfl rfl ⟨i32_full _, ⟨i32_full _, ⟨i32_full _, trivial⟩⟩⟩ (by decide) hI1
  obtain ⟨fs, ho, _⟩ := z_G hI.1.1
  obtain ⟨fs2, ho2, _⟩ := m_G hI1.2.1.1
  refine ⟨x, σ2, ?_, hI2⟩
  refine p_A fq_641 hl.2.1 rfl ?_
  refine p_arg (k := 1) fq_642 fq_643 fq_645 fq_646 fq_647 hl (by omega) hL (by decide) ?_
  refine p_arg (k := 2) fq_648 fq_649 fq_651 fq_652 fq_653 hl (by omega) hL (by decide) ?_
  refine p_arg (k := 3) fq_654 fq_655 fq_657 fq_658 fq_659 hl (by omega) hL (by decide) ?_
  refine p_call fq_660 (ar_3 ho) rfl rfl hR ?_
  refine p_pop fq_663 rfl ?_
  refine p_A fq_664 hl.2.2.1 rfl ?_
  refine p_arg (k := 1) fq_665 fq_666 fq_668 fq_669 fq_670 hl (by omega) hL (by decide) ?_
  refine p_arg (k := 2) fq_671 fq_672 fq_674 fq_675 fq_676 hl (by omega) hL (by decide) ?_
  refine p_arg (k := 3) fq_677 fq_678 fq_680 fq_681 fq_682 hl (by omega) hL (by decide) ?_
  refine p_call fq_683 (ar_3 ho2) rfl rfl hR2 ?_
  refine p_pop fq_686 rfl ?_
  exact p_go fq_687 rfl rfl p_end
theorem k_strokes {L : Nat} {xs : Nat → Int32} {i : Nat} {lv : iv_L} {x : Int32} {σ : iv_H} (hl : lvI i lv) (hi : i + 5 < L) (hL : L ≤ 3072) (hI : Inv5 x x σ) : ∃ (x' : Int32) (σ' : iv_H), iv_Pn L xs 1267 600 285 690 lv [] σ lv [] σ' ∧ Inv5 x' x' σ' := by
  obtain ⟨v, σ1, hR, hI1⟩ := cl_c5 (L := L) (xs := xs) (d := 599) (rs := [(-2147483648, 2147483647), (-2147483648, 2147483647)]) (ys := [xs (i + 1), xs (i + 2)]) zt_52 rfl rfl rfl rfl rfl ⟨i32_full _, ⟨i32_full _, trivial⟩⟩ (by decide) hI
  obtain ⟨w, σ2, hR2, hI2⟩ := cl_m5 (L := L) (xs := xs) (d := 599) (rs := [(-2147483648, 2147483647), (-2147483648, 2147483647)]) (ys := [xs (i + 1), xs (i + 2)]) (mt_52 hT_s.1) rfl rfl rfl rfl rfl ⟨i32_full _, ⟨i32_full _, trivial⟩⟩ (by decide) hI1
  obtain ⟨fs, ho, _⟩ := z_G hI.1.1
  obtain ⟨fs2, ho2, _⟩ := m_G hI1.2.1.1
  refine ⟨x, σ2, ?_, hI2⟩
  refine p_A fq_690 hl.2.1 rfl ?_
  refine p_arg (k := 1) fq_691 fq_692 fq_694 fq_695 fq_696 hl (by omega) hL (by decide) ?_
  refine p_arg (k := 2) fq_697 fq_698 fq_700 fq_701 fq_702 hl (by omega) hL (by decide) ?_
  refine p_call fq_703 (ar_2 ho) rfl rfl hR ?_
  refine p_pop fq_706 rfl ?_
  refine p_A fq_707 hl.2.2.1 rfl ?_
  refine p_arg (k := 1) fq_708 fq_709 fq_711 fq_712 fq_713 hl (by omega) hL (by decide) ?_
  refine p_arg (k := 2) fq_714 fq_715 fq_717 fq_718 fq_719 hl (by omega) hL (by decide) ?_
  refine p_call fq_720 (ar_2 ho2) rfl rfl hR2 ?_
  refine p_pop fq_723 rfl ?_
  exact p_go fq_724 rfl rfl p_end
theorem k_strokesOf {L : Nat} {xs : Nat → Int32} {i : Nat} {lv : iv_L} {x : Int32} {σ : iv_H} (hl : lvI i lv) (hi : i + 5 < L) (hL : L ≤ 3072) (hI : Inv5 x x σ) : ∃ (x' : Int32) (σ' : iv_H), iv_Pn L xs 1267 600 285 727 lv [] σ lv [] σ' ∧ Inv5 x' x' σ' := by
  obtain ⟨v, σ1, hR, hI1⟩ := cl_c5 (L := L) (xs := xs) (d := 599) (rs := [(-2147483648, 2147483647)]) (ys := [xs (i + 1)]) zt_53 rfl rfl rfl rfl rfl ⟨i32_full _, trivial⟩ (by decide) hI
  obtain ⟨w, σ2, hR2, hI2⟩ := cl_m5 (L := L) (xs := xs) (d := 599) (rs := [(-2147483648, 2147483647)]) (ys := [xs (i + 1)]) (mt_53 hT_s.1) rfl rfl rfl rfl rfl ⟨i32_full _, trivial⟩ (by decide) hI1
  obtain ⟨fs, ho, _⟩ := z_G hI.1.1
  obtain ⟨fs2, ho2, _⟩ := m_G hI1.2.1.1
  refine ⟨x, σ2, ?_, hI2⟩
  refine p_A fq_727 hl.2.1 rfl ?_
  refine p_arg (k := 1) fq_728 fq_729 fq_731 fq_732 fq_733 hl (by omega) hL (by decide) ?_
  refine p_call fq_734 (ar_1 ho) rfl rfl hR ?_
  refine p_pop fq_737 rfl ?_
  refine p_A fq_738 hl.2.2.1 rfl ?_
  refine p_arg (k := 1) fq_739 fq_740 fq_742 fq_743 fq_744 hl (by omega) hL (by decide) ?_
  refine p_call fq_745 (ar_1 ho2) rfl rfl hR2 ?_
  refine p_pop fq_748 rfl ?_
  exact p_go fq_749 rfl rfl p_end
theorem k_heaps {L : Nat} {xs : Nat → Int32} {i : Nat} {lv : iv_L} {x : Int32} {σ : iv_H} (hl : lvI i lv) (hi : i + 5 < L) (hL : L ≤ 3072) (hI : Inv5 x x σ) : ∃ (x' : Int32) (σ' : iv_H), iv_Pn L xs 1267 600 285 752 lv [] σ lv [] σ' ∧ Inv5 x' x' σ' := by
  obtain ⟨v, x', σ1, hR, hI1, hP⟩ := s_heaps_c (L := L) (xs := xs) (d := 599) (by decide) (inv_of5 hI)
  obtain ⟨w, y', σ2, hR2, hI2, hP2⟩ := s_heaps_m (L := L) (xs := xs) (d := 599) (by decide) hI1
  have ft1 := ft_cB (L := L) (xs := xs) (d := 599) (rs := []) (ys := []) zu_8 rfl trivial (by decide) rfl rfl hI hR (ft_of5 hI)
  have ft := ft_mB (L := L) (xs := xs) (d := 599) (rs := []) (ys := []) nt_5 rfl trivial (by decide) rfl rfl hI1 hR2 ft1
  obtain rfl := zero_same hP hP2
  obtain ⟨fs, ho, _⟩ := z_G hI.1.1
  obtain ⟨fs2, ho2, _⟩ := m_G hI1.2.1.1
  refine ⟨x', σ2, ?_, Inv5_of hI2 ft⟩
  refine p_A fq_752 hl.2.1 rfl ?_
  refine p_call fq_753 (ar_0 ho) rfl rfl hR ?_
  refine p_pop fq_756 rfl ?_
  refine p_A fq_757 hl.2.2.1 rfl ?_
  refine p_call fq_758 (ar_0 ho2) rfl rfl hR2 ?_
  refine p_pop fq_761 rfl ?_
  exact p_go fq_762 rfl rfl p_end
theorem k_heapOf {L : Nat} {xs : Nat → Int32} {i : Nat} {lv : iv_L} {x : Int32} {σ : iv_H} (hl : lvI i lv) (hi : i + 5 < L) (hL : L ≤ 3072) (hI : Inv5 x x σ) : ∃ (x' : Int32) (σ' : iv_H), iv_Pn L xs 1267 600 285 765 lv [] σ lv [] σ' ∧ Inv5 x' x' σ' := by
  obtain ⟨v, σ1, hR, hI1⟩ := cl_c5 (L := L) (xs := xs) (d := 599) (rs := [(-2147483648, 2147483647)]) (ys := [xs (i + 1)]) zt_67 rfl rfl rfl rfl rfl ⟨i32_full _, trivial⟩ (by decide) hI
  obtain ⟨w, σ2, hR2, hI2⟩ := cl_m5 (L := L) (xs := xs) (d := 599) (rs := [(-2147483648, 2147483647)]) (ys := [xs (i + 1)]) (mt_55 hT_s.1) rfl rfl rfl rfl rfl ⟨i32_full _, trivial⟩ (by decide) hI1
  obtain ⟨fs, ho, _⟩ := z_G hI.1.1
  obtain ⟨fs2, ho2, _⟩ := m_G hI1.2.1.1
  refine ⟨x, σ2, ?_, hI2⟩
  refine p_A fq_765 hl.2.1 rfl ?_
  refine p_arg (k := 1) fq_766 fq_767 fq_769 fq_770 fq_771 hl (by omega) hL (by decide) ?_
  refine p_call fq_772 (ar_1 ho) rfl rfl hR ?_
  refine p_pop fq_775 rfl ?_
  refine p_A fq_776 hl.2.2.1 rfl ?_
  refine p_arg (k := 1) fq_777 fq_778 fq_780 fq_781 fq_782 hl (by omega) hL (by decide) ?_
  refine p_call fq_783 (ar_1 ho2) rfl rfl hR2 ?_
  refine p_pop fq_786 rfl ?_
  exact p_go fq_787 rfl rfl p_end
theorem k_look {L : Nat} {xs : Nat → Int32} {i : Nat} {lv : iv_L} {x : Int32} {σ : iv_H} (hl : lvI i lv) (hi : i + 5 < L) (hL : L ≤ 3072) (hI : Inv5 x x σ) : ∃ (x' : Int32) (σ' : iv_H), iv_Pn L xs 1267 600 285 790 lv [] σ lv [] σ' ∧ Inv5 x' x' σ' := by
  obtain ⟨v, σ1, hR, hI1⟩ := cl_c5 (L := L) (xs := xs) (d := 599) (rs := []) (ys := []) zt_68 rfl rfl rfl rfl rfl trivial (by decide) hI
  obtain ⟨w, σ2, hR2, hI2⟩ := cl_m5 (L := L) (xs := xs) (d := 599) (rs := []) (ys := []) (mt_56 hT_s.1) rfl rfl rfl rfl rfl trivial (by decide) hI1
  obtain ⟨fs, ho, _⟩ := z_G hI.1.1
  obtain ⟨fs2, ho2, _⟩ := m_G hI1.2.1.1
  refine ⟨x, σ2, ?_, hI2⟩
  refine p_A fq_790 hl.2.1 rfl ?_
  refine p_call fq_791 (ar_0 ho) rfl rfl hR ?_
  refine p_pop fq_794 rfl ?_
  refine p_A fq_795 hl.2.2.1 rfl ?_
  refine p_call fq_796 (ar_0 ho2) rfl rfl hR2 ?_
  refine p_pop fq_799 rfl ?_
  exact p_go fq_800 rfl rfl p_end
theorem k_dealt {L : Nat} {xs : Nat → Int32} {i : Nat} {lv : iv_L} {x : Int32} {σ : iv_H} (hl : lvI i lv) (hi : i + 5 < L) (hL : L ≤ 3072) (hI : Inv5 x x σ) : ∃ (x' : Int32) (σ' : iv_H), iv_Pn L xs 1267 600 285 803 lv [] σ lv [] σ' ∧ Inv5 x' x' σ' := by
  obtain ⟨v, σ1, hR, hI1⟩ := cl_c5 (L := L) (xs := xs) (d := 599) (rs := []) (ys := []) zt_73 rfl rfl rfl rfl rfl trivial (by decide) hI
  obtain ⟨w, σ2, hR2, hI2⟩ := cl_m5 (L := L) (xs := xs) (d := 599) (rs := []) (ys := []) (mt_202 hT_s.1) rfl rfl rfl rfl rfl trivial (by decide) hI1
  obtain ⟨fs, ho, _⟩ := z_G hI.1.1
  obtain ⟨fs2, ho2, _⟩ := m_G hI1.2.1.1
  refine ⟨x, σ2, ?_, hI2⟩
  refine p_A fq_803 hl.2.1 rfl ?_
  refine p_call fq_804 (ar_0 ho) rfl rfl hR ?_
  refine p_pop fq_807 rfl ?_
  refine p_A fq_808 hl.2.2.1 rfl ?_
  refine p_call fq_809 (ar_0 ho2) rfl rfl hR2 ?_
  refine p_pop fq_812 rfl ?_
  exact p_go fq_813 rfl rfl p_end
theorem k_dealtOf {L : Nat} {xs : Nat → Int32} {i : Nat} {lv : iv_L} {x : Int32} {σ : iv_H} (hl : lvI i lv) (hi : i + 5 < L) (hL : L ≤ 3072) (hI : Inv5 x x σ) : ∃ (x' : Int32) (σ' : iv_H), iv_Pn L xs 1267 600 285 816 lv [] σ lv [] σ' ∧ Inv5 x' x' σ' := by
  obtain ⟨v, σ1, hR, hI1⟩ := cl_c5 (L := L) (xs := xs) (d := 599) (rs := [(-2147483648, 2147483647)]) (ys := [xs (i + 1)]) zt_74 rfl rfl rfl rfl rfl ⟨i32_full _, trivial⟩ (by decide) hI
  obtain ⟨w, σ2, hR2, hI2⟩ := cl_m5 (L := L) (xs := xs) (d := 599) (rs := [(-2147483648, 2147483647)]) (ys := [xs (i + 1)]) (mt_57 hT_s.1) rfl rfl rfl rfl rfl ⟨i32_full _, trivial⟩ (by decide) hI1
  obtain ⟨fs, ho, _⟩ := z_G hI.1.1
  obtain ⟨fs2, ho2, _⟩ := m_G hI1.2.1.1
  refine ⟨x, σ2, ?_, hI2⟩
  refine p_A fq_816 hl.2.1 rfl ?_
  refine p_arg (k := 1) fq_817 fq_818 fq_820 fq_821 fq_822 hl (by omega) hL (by decide) ?_
  refine p_call fq_823 (ar_1 ho) rfl rfl hR ?_
  refine p_pop fq_826 rfl ?_
  refine p_A fq_827 hl.2.2.1 rfl ?_
  refine p_arg (k := 1) fq_828 fq_829 fq_831 fq_832 fq_833 hl (by omega) hL (by decide) ?_
  refine p_call fq_834 (ar_1 ho2) rfl rfl hR2 ?_
  refine p_pop fq_837 rfl ?_
  exact p_go fq_838 rfl rfl p_end
theorem k_gone {L : Nat} {xs : Nat → Int32} {i : Nat} {lv : iv_L} {x : Int32} {σ : iv_H} (hl : lvI i lv) (hi : i + 5 < L) (hL : L ≤ 3072) (hI : Inv5 x x σ) : ∃ (x' : Int32) (σ' : iv_H), iv_Pn L xs 1267 600 285 841 lv [] σ lv [] σ' ∧ Inv5 x' x' σ' := by
  obtain ⟨v, σ1, hR, hI1⟩ := cl_c5 (L := L) (xs := xs) (d := 599) (rs := [(-2147483648, 2147483647)]) (ys := [xs (i + 1)]) zt_75 rfl rfl rfl rfl rfl ⟨i32_full _, trivial⟩ (by decide) hI
  obtain ⟨w, σ2, hR2, hI2⟩ := cl_m5 (L := L) (xs := xs) (d := 599) (rs := [(-2147483648, 2147483647)]) (ys := [xs (i + 1)]) (mt_58 hT_s.1) rfl rfl rfl rfl rfl ⟨i32_full _, trivial⟩ (by decide) hI1
  obtain ⟨fs, ho, _⟩ := z_G hI.1.1
  obtain ⟨fs2, ho2, _⟩ := m_G hI1.2.1.1
  refine ⟨x, σ2, ?_, hI2⟩
  refine p_A fq_841 hl.2.1 rfl ?_
  refine p_arg (k := 1) fq_842 fq_843 fq_845 fq_846 fq_847 hl (by omega) hL (by decide) ?_
  refine p_call fq_848 (ar_1 ho) rfl rfl hR ?_
  refine p_pop fq_851 rfl ?_
  refine p_A fq_852 hl.2.2.1 rfl ?_
  refine p_arg (k := 1) fq_853 fq_854 fq_856 fq_857 fq_858 hl (by omega) hL (by decide) ?_
  refine p_call fq_859 (ar_1 ho2) rfl rfl hR2 ?_
  refine p_pop fq_862 rfl ?_
  exact p_go fq_863 rfl rfl p_end
theorem k_from {L : Nat} {xs : Nat → Int32} {i : Nat} {lv : iv_L} {x : Int32} {σ : iv_H} (hl : lvI i lv) (hi : i + 5 < L) (hL : L ≤ 3072) (hI : Inv5 x x σ) : ∃ (x' : Int32) (σ' : iv_H), iv_Pn L xs 1267 600 285 906 lv [] σ lv [] σ' ∧ Inv5 x' x' σ' := by
  obtain ⟨v, σ1, hR, hI1⟩ := cl_c5 (L := L) (xs := xs) (d := 599) (rs := [(-2147483648, 2147483647), (-2147483648, 2147483647)]) (ys := [xs (i + 1), xs (i + 2)]) zt_76 rfl rfl rfl rfl rfl ⟨i32_full _, ⟨i32_full _, trivial⟩⟩ (by decide) hI
  obtain ⟨w, σ2, hR2, hI2⟩ := cl_m5 (L := L) (xs := xs) (d := 599) (rs := [(-2147483648, 2147483647), (-2147483648, 2147483647)]) (ys := [xs (i + 1), xs (i + 2)]) (mt_61 hT_s.1) rfl rfl rfl rfl rfl ⟨i32_full _, ⟨i32_full _, trivial⟩⟩ (by decide) hI1
  obtain ⟨fs, ho, _⟩ := z_G hI.1.1
  obtain ⟨fs2, ho2, _⟩ := m_G hI1.2.1.1
  refine ⟨x, σ2, ?_, hI2⟩
  refine p_A fq_906 hl.2.1 rfl ?_
  refine p_arg (k := 1) fq_907 fq_908 fq_910 fq_911 fq_912 hl (by omega) hL (by decide) ?_
  refine p_arg (k := 2) fq_913 fq_914 fq_916 fq_917 fq_918 hl (by omega) hL (by decide) ?_
  refine p_call fq_919 (ar_2 ho) rfl rfl hR ?_
  refine p_pop fq_922 rfl ?_
  refine p_A fq_923 hl.2.2.1 rfl ?_
  refine p_arg (k := 1) fq_924 fq_925 fq_927 fq_928 fq_929 hl (by omega) hL (by decide) ?_
  refine p_arg (k := 2) fq_930 fq_931 fq_933 fq_934 fq_935 hl (by omega) hL (by decide) ?_
  refine p_call fq_936 (ar_2 ho2) rfl rfl hR2 ?_
  refine p_pop fq_939 rfl ?_
  exact p_go fq_940 rfl rfl p_end
theorem k_thief {L : Nat} {xs : Nat → Int32} {i : Nat} {lv : iv_L} {x : Int32} {σ : iv_H} (hl : lvI i lv) (hi : i + 5 < L) (hL : L ≤ 3072) (hI : Inv5 x x σ) : ∃ (x' : Int32) (σ' : iv_H), iv_Pn L xs 1267 600 285 943 lv [] σ lv [] σ' ∧ Inv5 x' x' σ' := by
  obtain ⟨v, σ1, hR, hI1⟩ := cl_c5 (L := L) (xs := xs) (d := 599) (rs := [(-2147483648, 2147483647)]) (ys := [xs (i + 1)]) zt_78 rfl rfl rfl rfl rfl ⟨i32_full _, trivial⟩ (by decide) hI
  obtain ⟨w, σ2, hR2, hI2⟩ := cl_m5 (L := L) (xs := xs) (d := 599) (rs := [(-2147483648, 2147483647)]) (ys := [xs (i + 1)]) (mt_62 hT_s.1) rfl rfl rfl rfl rfl ⟨i32_full _, trivial⟩ (by decide) hI1
  obtain ⟨fs, ho, _⟩ := z_G hI.1.1
  obtain ⟨fs2, ho2, _⟩ := m_G hI1.2.1.1
  refine ⟨x, σ2, ?_, hI2⟩
  refine p_A fq_943 hl.2.1 rfl ?_
  refine p_arg (k := 1) fq_944 fq_945 fq_947 fq_948 fq_949 hl (by omega) hL (by decide) ?_
  refine p_call fq_950 (ar_1 ho) rfl rfl hR ?_
  refine p_pop fq_953 rfl ?_
  refine p_A fq_954 hl.2.2.1 rfl ?_
  refine p_arg (k := 1) fq_955 fq_956 fq_958 fq_959 fq_960 hl (by omega) hL (by decide) ?_
  refine p_call fq_961 (ar_1 ho2) rfl rfl hR2 ?_
  refine p_pop fq_964 rfl ?_
  exact p_go fq_965 rfl rfl p_end
theorem k_tag {L : Nat} {xs : Nat → Int32} {i : Nat} {lv : iv_L} {x : Int32} {σ : iv_H} (hl : lvI i lv) (hi : i + 5 < L) (hL : L ≤ 3072) (hI : Inv5 x x σ) : ∃ (x' : Int32) (σ' : iv_H), iv_Pn L xs 1267 600 285 968 lv [] σ lv [] σ' ∧ Inv5 x' x' σ' := by
  obtain ⟨v, σ1, hR, hI1⟩ := cl_c5 (L := L) (xs := xs) (d := 599) (rs := [(-2147483648, 2147483647)]) (ys := [xs (i + 1)]) zu_10 rfl rfl rfl rfl rfl ⟨i32_full _, trivial⟩ (by decide) hI
  obtain ⟨w, σ2, hR2, hI2⟩ := cl_m5 (L := L) (xs := xs) (d := 599) (rs := [(-2147483648, 2147483647)]) (ys := [xs (i + 1)]) (mt_83 hT_s.1) rfl rfl rfl rfl rfl ⟨i32_full _, trivial⟩ (by decide) hI1
  obtain ⟨fs, ho, _⟩ := z_G hI.1.1
  obtain ⟨fs2, ho2, _⟩ := m_G hI1.2.1.1
  refine ⟨x, σ2, ?_, hI2⟩
  refine p_A fq_968 hl.2.1 rfl ?_
  refine p_arg (k := 1) fq_969 fq_970 fq_972 fq_973 fq_974 hl (by omega) hL (by decide) ?_
  refine p_call fq_975 (ar_1 ho) rfl rfl hR ?_
  refine p_pop fq_978 rfl ?_
  refine p_A fq_979 hl.2.2.1 rfl ?_
  refine p_arg (k := 1) fq_980 fq_981 fq_983 fq_984 fq_985 hl (by omega) hL (by decide) ?_
  refine p_call fq_986 (ar_1 ho2) rfl rfl hR2 ?_
  refine p_pop fq_989 rfl ?_
  exact p_go fq_990 rfl rfl p_end
theorem k_byteAt {L : Nat} {xs : Nat → Int32} {i : Nat} {lv : iv_L} {x : Int32} {σ : iv_H} (hl : lvI i lv) (hi : i + 5 < L) (hL : L ≤ 3072) (hI : Inv5 x x σ) : ∃ (x' : Int32) (σ' : iv_H), iv_Pn L xs 1267 600 285 993 lv [] σ lv [] σ' ∧ Inv5 x' x' σ' := by
  obtain ⟨v, σ1, hR, hI1⟩ := cl_c5 (L := L) (xs := xs) (d := 599) (rs := [(-2147483648, 2147483647)]) (ys := [xs (i + 1)]) zt_79 rfl rfl rfl rfl rfl ⟨i32_full _, trivial⟩ (by decide) hI
  obtain ⟨w, σ2, hR2, hI2⟩ := cl_m5 (L := L) (xs := xs) (d := 599) (rs := [(-2147483648, 2147483647)]) (ys := [xs (i + 1)]) (mt_84 hT_s.1) rfl rfl rfl rfl rfl ⟨i32_full _, trivial⟩ (by decide) hI1
  obtain ⟨fs, ho, _⟩ := z_G hI.1.1
  obtain ⟨fs2, ho2, _⟩ := m_G hI1.2.1.1
  refine ⟨x, σ2, ?_, hI2⟩
  refine p_A fq_993 hl.2.1 rfl ?_
  refine p_arg (k := 1) fq_994 fq_995 fq_997 fq_998 fq_999 hl (by omega) hL (by decide) ?_
  refine p_call fq_1000 (ar_1 ho) rfl rfl hR ?_
  refine p_pop fq_1003 rfl ?_
  refine p_A fq_1004 hl.2.2.1 rfl ?_
  refine p_arg (k := 1) fq_1005 fq_1006 fq_1008 fq_1009 fq_1010 hl (by omega) hL (by decide) ?_
  refine p_call fq_1011 (ar_1 ho2) rfl rfl hR2 ?_
  refine p_pop fq_1014 rfl ?_
  exact p_go fq_1015 rfl rfl p_end
theorem k_drawn {L : Nat} {xs : Nat → Int32} {i : Nat} {lv : iv_L} {x : Int32} {σ : iv_H} (hl : lvI i lv) (hi : i + 5 < L) (hL : L ≤ 3072) (hI : Inv5 x x σ) : ∃ (x' : Int32) (σ' : iv_H), iv_Pn L xs 1267 600 285 1018 lv [] σ lv [] σ' ∧ Inv5 x' x' σ' := by
  obtain ⟨v, σ1, hR, hI1⟩ := cl_c5 (L := L) (xs := xs) (d := 599) (rs := [(-2147483648, 2147483647), (-2147483648, 2147483647)]) (ys := [xs (i + 1), xs (i + 2)]) zt_85 rfl rfl rfl rfl rfl ⟨i32_full _, ⟨i32_full _, trivial⟩⟩ (by decide) hI
  obtain ⟨w, σ2, hR2, hI2⟩ := cl_m5 (L := L) (xs := xs) (d := 599) (rs := [(-2147483648, 2147483647), (-2147483648, 2147483647)]) (ys := [xs (i + 1), xs (i + 2)]) (mt_89) rfl rfl rfl rfl rfl ⟨i32_full _, ⟨i32_full _, trivial⟩⟩ (by decide) hI1
  obtain ⟨fs, ho, _⟩ := z_G hI.1.1
  obtain ⟨fs2, ho2, _⟩ := m_G hI1.2.1.1
  refine ⟨x, σ2, ?_, hI2⟩
  refine p_A fq_1018 hl.2.1 rfl ?_
  refine p_arg (k := 1) fq_1019 fq_1020 fq_1022 fq_1023 fq_1024 hl (by omega) hL (by decide) ?_
  refine p_arg (k := 2) fq_1025 fq_1026 fq_1028 fq_1029 fq_1030 hl (by omega) hL (by decide) ?_
  refine p_call fq_1031 (ar_2 ho) rfl rfl hR ?_
  refine p_pop fq_1034 rfl ?_
  refine p_A fq_1035 hl.2.2.1 rfl ?_
  refine p_arg (k := 1) fq_1036 fq_1037 fq_1039 fq_1040 fq_1041 hl (by omega) hL (by decide) ?_
  refine p_arg (k := 2) fq_1042 fq_1043 fq_1045 fq_1046 fq_1047 hl (by omega) hL (by decide) ?_
  refine p_call fq_1048 (ar_2 ho2) rfl rfl hR2 ?_
  refine p_pop fq_1051 rfl ?_
  exact p_go fq_1052 rfl rfl p_end
theorem k_odds {L : Nat} {xs : Nat → Int32} {i : Nat} {lv : iv_L} {x : Int32} {σ : iv_H} (hl : lvI i lv) (hi : i + 5 < L) (hL : L ≤ 3072) (hI : Inv5 x x σ) : ∃ (x' : Int32) (σ' : iv_H), iv_Pn L xs 1267 600 285 1055 lv [] σ lv [] σ' ∧ Inv5 x' x' σ' := by
  obtain ⟨v, σ1, hR, hI1⟩ := cl_c5 (L := L) (xs := xs) (d := 599) (rs := [(-2147483648, 2147483647), (-2147483648, 2147483647), (-2147483648, 2147483647)]) (ys := [xs (i + 1), xs (i + 2), xs (i + 3)]) zt_86 rfl rfl rfl rfl rfl ⟨i32_full _, ⟨i32_full _, ⟨i32_full _, trivial⟩⟩⟩ (by decide) hI
  obtain ⟨w, σ2, hR2, hI2⟩ := cl_m5 (L := L) (xs := xs) (d := 599) (rs := [(-2147483648, 2147483647), (-2147483648, 2147483647), (-2147483648, 2147483647)]) (ys := [xs (i + 1), xs (i + 2), xs (i + 3)]) (mt_90) rfl rfl rfl rfl rfl ⟨i32_full _, ⟨i32_full _, ⟨i32_full _, trivial⟩⟩⟩ (by decide) hI1
  obtain ⟨fs, ho, _⟩ := z_G hI.1.1
  obtain ⟨fs2, ho2, _⟩ := m_G hI1.2.1.1
  refine ⟨x, σ2, ?_, hI2⟩
  refine p_A fq_1055 hl.2.1 rfl ?_
  refine p_arg (k := 1) fq_1056 fq_1057 fq_1059 fq_1060 fq_1061 hl (by omega) hL (by decide) ?_
  refine p_arg (k := 2) fq_1062 fq_1063 fq_1065 fq_1066 fq_1067 hl (by omega) hL (by decide) ?_
  refine p_arg (k := 3) fq_1068 fq_1069 fq_1071 fq_1072 fq_1073 hl (by omega) hL (by decide) ?_
  refine p_call fq_1074 (ar_3 ho) rfl rfl hR ?_
  refine p_pop fq_1077 rfl ?_
  refine p_A fq_1078 hl.2.2.1 rfl ?_
  refine p_arg (k := 1) fq_1079 fq_1080 fq_1082 fq_1083 fq_1084 hl (by omega) hL (by decide) ?_
  refine p_arg (k := 2) fq_1085 fq_1086 fq_1088 fq_1089 fq_1090 hl (by omega) hL (by decide) ?_
  refine p_arg (k := 3) fq_1091 fq_1092 fq_1094 fq_1095 fq_1096 hl (by omega) hL (by decide) ?_
  refine p_call fq_1097 (ar_3 ho2) rfl rfl hR2 ?_
  refine p_pop fq_1100 rfl ?_
  exact p_go fq_1101 rfl rfl p_end
theorem k_book {L : Nat} {xs : Nat → Int32} {i : Nat} {lv : iv_L} {x : Int32} {σ : iv_H} (hl : lvI i lv) (hi : i + 5 < L) (hL : L ≤ 3072) (hI : Inv5 x x σ) : ∃ (x' : Int32) (σ' : iv_H), iv_Pn L xs 1267 600 285 1104 lv [] σ lv [] σ' ∧ Inv5 x' x' σ' := by
  obtain ⟨v, x', σ1, hR, hI1, hP⟩ := s_book_c (L := L) (xs := xs) (d := 599) (a1 := xs (i + 1)) (by decide) (inv_of5 hI)
  obtain ⟨w, y', σ2, hR2, hI2, hP2⟩ := s_book_m (L := L) (xs := xs) (d := 599) (a1 := xs (i + 1)) (by decide) hI1
  have ft := bk_same (inv_of5 hI) hI1 (ft_of5 hI) hR hR2
  obtain rfl := book_same hP hP2
  obtain ⟨fs, ho, _⟩ := z_G hI.1.1
  obtain ⟨fs2, ho2, _⟩ := m_G hI1.2.1.1
  refine ⟨x', σ2, ?_, Inv5_of hI2 ft⟩
  refine p_A fq_1104 hl.2.1 rfl ?_
  refine p_arg (k := 1) fq_1105 fq_1106 fq_1108 fq_1109 fq_1110 hl (by omega) hL (by decide) ?_
  refine p_call fq_1111 (ar_1 ho) rfl rfl hR ?_
  refine p_pop fq_1114 rfl ?_
  refine p_A fq_1115 hl.2.2.1 rfl ?_
  refine p_arg (k := 1) fq_1116 fq_1117 fq_1119 fq_1120 fq_1121 hl (by omega) hL (by decide) ?_
  refine p_call fq_1122 (ar_1 ho2) rfl rfl hR2 ?_
  refine p_pop fq_1125 rfl ?_
  exact p_go fq_1126 rfl rfl p_end
theorem k_told {L : Nat} {xs : Nat → Int32} {i : Nat} {lv : iv_L} {x : Int32} {σ : iv_H} (hl : lvI i lv) (hi : i + 5 < L) (hL : L ≤ 3072) (hI : Inv5 x x σ) : ∃ (x' : Int32) (σ' : iv_H), iv_Pn L xs 1267 600 285 1129 lv [] σ lv [] σ' ∧ Inv5 x' x' σ' := by
  obtain ⟨v, σ1, hR, hI1⟩ := cl_c5 (L := L) (xs := xs) (d := 599) (rs := [(-2147483648, 2147483647)]) (ys := [xs (i + 1)]) zt_87 rfl rfl rfl rfl rfl ⟨i32_full _, trivial⟩ (by decide) hI
  obtain ⟨w, σ2, hR2, hI2⟩ := cl_m5 (L := L) (xs := xs) (d := 599) (rs := [(-2147483648, 2147483647)]) (ys := [xs (i + 1)]) (mt_92 hT_s.1) rfl rfl rfl rfl rfl ⟨i32_full _, trivial⟩ (by decide) hI1
  obtain ⟨fs, ho, _⟩ := z_G hI.1.1
  obtain ⟨fs2, ho2, _⟩ := m_G hI1.2.1.1
  refine ⟨x, σ2, ?_, hI2⟩
  refine p_A fq_1129 hl.2.1 rfl ?_
  refine p_arg (k := 1) fq_1130 fq_1131 fq_1133 fq_1134 fq_1135 hl (by omega) hL (by decide) ?_
  refine p_call fq_1136 (ar_1 ho) rfl rfl hR ?_
  refine p_pop fq_1139 rfl ?_
  refine p_A fq_1140 hl.2.2.1 rfl ?_
  refine p_arg (k := 1) fq_1141 fq_1142 fq_1144 fq_1145 fq_1146 hl (by omega) hL (by decide) ?_
  refine p_call fq_1147 (ar_1 ho2) rfl rfl hR2 ?_
  refine p_pop fq_1150 rfl ?_
  exact p_go fq_1151 rfl rfl p_end
theorem k_sentence {L : Nat} {xs : Nat → Int32} {i : Nat} {lv : iv_L} {x : Int32} {σ : iv_H} (hl : lvI i lv) (hi : i + 5 < L) (hL : L ≤ 3072) (hI : Inv5 x x σ) : ∃ (x' : Int32) (σ' : iv_H), iv_Pn L xs 1267 600 285 1154 lv [] σ lv [] σ' ∧ Inv5 x' x' σ' := by
  obtain ⟨v, x', σ1, hR, hI1, hP⟩ := s_sent_c (L := L) (xs := xs) (d := 599) (by decide) (inv_of5 hI)
  obtain ⟨w, y', σ2, hR2, hI2, hP2⟩ := s_sent_m (L := L) (xs := xs) (d := 599) (by decide) hI1
  have ft := sen_ft (inv_of5 hI) hI1 hR hR2
  obtain rfl := zero_same hP hP2
  obtain ⟨fs, ho, _⟩ := z_G hI.1.1
  obtain ⟨fs2, ho2, _⟩ := m_G hI1.2.1.1
  refine ⟨x', σ2, ?_, Inv5_of hI2 ft⟩
  refine p_A fq_1154 hl.2.1 rfl ?_
  refine p_call fq_1155 (ar_0 ho) rfl rfl hR ?_
  refine p_pop fq_1158 rfl ?_
  refine p_A fq_1159 hl.2.2.1 rfl ?_
  refine p_call fq_1160 (ar_0 ho2) rfl rfl hR2 ?_
  refine p_pop fq_1163 rfl ?_
  exact p_go fq_1164 rfl rfl p_end
theorem k_said {L : Nat} {xs : Nat → Int32} {i : Nat} {lv : iv_L} {x : Int32} {σ : iv_H} (hl : lvI i lv) (hi : i + 5 < L) (hL : L ≤ 3072) (hI : Inv5 x x σ) : ∃ (x' : Int32) (σ' : iv_H), iv_Pn L xs 1267 600 285 1167 lv [] σ lv [] σ' ∧ Inv5 x' x' σ' := by
  obtain ⟨v, σ1, hR, hI1⟩ := cl_c5 (L := L) (xs := xs) (d := 599) (rs := [(-2147483648, 2147483647)]) (ys := [xs (i + 1)]) zt_93 rfl rfl rfl rfl rfl ⟨i32_full _, trivial⟩ (by decide) hI
  obtain ⟨w, σ2, hR2, hI2⟩ := cl_m5 (L := L) (xs := xs) (d := 599) (rs := [(-2147483648, 2147483647)]) (ys := [xs (i + 1)]) (mt_199 hT_s.1) rfl rfl rfl rfl rfl ⟨i32_full _, trivial⟩ (by decide) hI1
  obtain ⟨fs, ho, _⟩ := z_G hI.1.1
  obtain ⟨fs2, ho2, _⟩ := m_G hI1.2.1.1
  refine ⟨x, σ2, ?_, hI2⟩
  refine p_A fq_1167 hl.2.1 rfl ?_
  refine p_arg (k := 1) fq_1168 fq_1169 fq_1171 fq_1172 fq_1173 hl (by omega) hL (by decide) ?_
  refine p_call fq_1174 (ar_1 ho) rfl rfl hR ?_
  refine p_pop fq_1177 rfl ?_
  refine p_A fq_1178 hl.2.2.1 rfl ?_
  refine p_arg (k := 1) fq_1179 fq_1180 fq_1182 fq_1183 fq_1184 hl (by omega) hL (by decide) ?_
  refine p_call fq_1185 (ar_1 ho2) rfl rfl hR2 ?_
  refine p_pop fq_1188 rfl ?_
  exact p_go fq_1189 rfl rfl p_end
theorem k_image {L : Nat} {xs : Nat → Int32} {i : Nat} {lv : iv_L} {x : Int32} {σ : iv_H} (hl : lvI i lv) (hi : i + 5 < L) (hL : L ≤ 3072) (hI : Inv5 x x σ) : ∃ (x' : Int32) (σ' : iv_H), iv_Pn L xs 1267 600 285 1192 lv [] σ lv [] σ' ∧ Inv5 x' x' σ' := by
  obtain ⟨v, w, σ1, σ2, hR, hM1, hR2, hI2⟩ := img_pair (L := L) (xs := xs) (xs (i + 1)) (inv_of5 hI)
  have ft := ft_two (L := L) (xs := xs) (d := 599) (rs := [(-2147483648, 2147483647)]) (ys := [xs (i + 1)]) zt_96 rfl rfl ⟨i32_full _, trivial⟩ (by decide) rfl rfl rfl mt_img rfl rfl (by decide) rfl rfl hI hR hR2
  obtain ⟨fs, ho, _⟩ := z_G hI.1.1
  obtain ⟨fs2, ho2, _⟩ := m_G hM1
  refine ⟨x, σ2, ?_, Inv5_of hI2 ft⟩
  refine p_A fq_1192 hl.2.1 rfl ?_
  refine p_arg (k := 1) fq_1193 fq_1194 fq_1196 fq_1197 fq_1198 hl (by omega) hL (by decide) ?_
  refine p_call fq_1199 (ar_1 ho) rfl rfl hR ?_
  refine p_pop fq_1202 rfl ?_
  refine p_A fq_1203 hl.2.2.1 rfl ?_
  refine p_arg (k := 1) fq_1204 fq_1205 fq_1207 fq_1208 fq_1209 hl (by omega) hL (by decide) ?_
  refine p_call fq_1210 (ar_1 ho2) rfl rfl hR2 ?_
  refine p_pop fq_1213 rfl ?_
  exact p_go fq_1214 rfl rfl p_end
theorem k_restore {L : Nat} {xs : Nat → Int32} {i : Nat} {lv : iv_L} {x : Int32} {σ : iv_H} (hl : lvI i lv) (hi : i + 5 < L) (hL : L ≤ 3072) (hI : Inv5 x x σ) : ∃ (x' : Int32) (σ' : iv_H), iv_Pn L xs 1267 600 285 1217 lv [] σ lv [] σ' ∧ Inv5 x' x' σ' := by
  obtain ⟨v, w, σ1, σ2, hR, hM1, hR2, hI2⟩ := rst_pair (L := L) (xs := xs) (xs (i + 1)) (inv_of5 hI)
  have ft := ft_two (L := L) (xs := xs) (d := 599) (rs := [(-2147483648, 2147483647)]) (ys := [xs (i + 1)]) zt_98 rfl rfl ⟨i32_full _, trivial⟩ (by decide) rfl rfl rfl mt_rst rfl rfl (by decide) rfl rfl hI hR hR2
  obtain ⟨fs, ho, _⟩ := z_G hI.1.1
  obtain ⟨fs2, ho2, _⟩ := m_G hM1
  refine ⟨x, σ2, ?_, Inv5_of hI2 ft⟩
  refine p_A fq_1217 hl.2.1 rfl ?_
  refine p_arg (k := 1) fq_1218 fq_1219 fq_1221 fq_1222 fq_1223 hl (by omega) hL (by decide) ?_
  refine p_call fq_1224 (ar_1 ho) rfl rfl hR ?_
  refine p_pop fq_1227 rfl ?_
  refine p_A fq_1228 hl.2.2.1 rfl ?_
  refine p_arg (k := 1) fq_1229 fq_1230 fq_1232 fq_1233 fq_1234 hl (by omega) hL (by decide) ?_
  refine p_call fq_1235 (ar_1 ho2) rfl rfl hR2 ?_
  refine p_pop fq_1238 rfl ?_
  exact p_go fq_1239 rfl rfl p_end
theorem k_count {L : Nat} {xs : Nat → Int32} {i : Nat} {lv : iv_L} {x : Int32} {σ : iv_H} (hl : lvI i lv) (hi : i + 5 < L) (hL : L ≤ 3072) (hI : Inv5 x x σ) : ∃ (x' : Int32) (σ' : iv_H), iv_Pn L xs 1267 600 285 1242 lv [] σ lv [] σ' ∧ Inv5 x' x' σ' := by
  obtain ⟨v, σ1, hR, hI1⟩ := cl_c5 (L := L) (xs := xs) (d := 599) (rs := [(-2147483648, 2147483647)]) (ys := [xs (i + 1)]) zt_99 rfl rfl rfl rfl rfl ⟨i32_full _, trivial⟩ (by decide) hI
  obtain ⟨w, σ2, hR2, hI2⟩ := cl_m5 (L := L) (xs := xs) (d := 599) (rs := [(-2147483648, 2147483647)]) (ys := [xs (i + 1)]) (mt_200 hT_s.1) rfl rfl rfl rfl rfl ⟨i32_full _, trivial⟩ (by decide) hI1
  obtain ⟨fs, ho, _⟩ := z_G hI.1.1
  obtain ⟨fs2, ho2, _⟩ := m_G hI1.2.1.1
  refine ⟨x, σ2, ?_, hI2⟩
  refine p_A fq_1242 hl.2.1 rfl ?_
  refine p_arg (k := 1) fq_1243 fq_1244 fq_1246 fq_1247 fq_1248 hl (by omega) hL (by decide) ?_
  refine p_call fq_1249 (ar_1 ho) rfl rfl hR ?_
  refine p_pop fq_1252 rfl ?_
  refine p_A fq_1253 hl.2.2.1 rfl ?_
  refine p_arg (k := 1) fq_1254 fq_1255 fq_1257 fq_1258 fq_1259 hl (by omega) hL (by decide) ?_
  refine p_call fq_1260 (ar_1 ho2) rfl rfl hR2 ?_
  refine p_pop fq_1263 rfl ?_
  exact p_go fq_1264 rfl rfl p_end
