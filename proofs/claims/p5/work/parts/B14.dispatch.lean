/-! ===== every instruction that the abstract machine takes, as the machine takes it ===== -/
theorem iv_lenE {i : Instr} {len n : Nat} (h : iv_lnok i len = true) (hn : iv_ln i = n + 1) : len = n + 1 := by
  unfold iv_lnok at h
  rw [hn, Bool.or_eq_true] at h
  rcases h with h | h
  · exact absurd (Nat.eq_of_beq_eq_true h) (by omega)
  · exact (Nat.eq_of_beq_eq_true h).symm
theorem iv_lk_ok {own k : Nat} {r : Nat × Nat × Nat × Nat × Nat} (ho : own ∈ iv_owns) (h : iv_f1 (iv_ls own) k = some r) : iv_lok own (k, r) = true := List.all_eq_true.mp (iv_links own ho) _ (iv_f1_in _ _ _ h)
theorem iv_qk_ok {own k : Nat} {r : Value × Nat} (ho : own ∈ iv_owns) (h : iv_f1 (iv_qs own) k = some r) : iv_qok own (k, r) = true := List.all_eq_true.mp (iv_consts own ho) _ (iv_f1_in _ _ _ h)
theorem iv_oN_no {L pc : Nat} {xs : Nat → Int32} {lv : iv_L} {st : List Value} {σ : iv_H} {x : Nat × iv_L × List Value × iv_H} (h : iv_oN L xs pc lv st σ = some x) : False := by cases h
theorem iv_st_ok {k nL L pc : Nat} {f0 f : iv_F} {xs : Nat → Int32} {lv : iv_L} {st : List Value} {σ : iv_H} {x : Nat × iv_L × List Value × iv_H} (h : iv_st k nL f0 = .inl f) (hf : f L xs pc lv st σ = some x) : k < nL ∧ f0 = f := by
  unfold iv_st at h
  cases hb : Nat.blt k nL <;> rw [hb] at h <;> simp only [cond_true, cond_false] at h
  · have e := Sum.inl.inj h
    subst e
    exact (iv_oN_no hf).elim
  · rw [Nat.blt_eq] at hb
    exact ⟨hb, Sum.inl.inj h⟩
theorem iv_blt {a b : Nat} (h : Nat.blt a b = true) : a < b := by rw [Nat.blt_eq] at h; exact h
theorem iv_ini_ok0 : ∀ m0 ∈ iv_ini, (iv_y m0).name = "<init>" := by decide +kernel
theorem iv_mem_in {m0 : Nat} : ∀ l : List Nat, iv_mem m0 l = true → m0 ∈ l
  | [], h => by cases h
  | x :: r, h => by
    unfold iv_mem at h
    cases hb : Nat.beq x m0 <;> rw [hb] at h
    · exact List.mem_cons_of_mem _ (iv_mem_in r h)
    · rw [Nat.eq_of_beq_eq_true hb]
      exact List.mem_cons_self
theorem iv_decl0 : (List.range 13).all (fun ci => (List.range (iv_fn ci)).all (fun j => decide ((iv_T ci j).1 = iv_R (ci + 1)))) = true := by decide +kernel
section IVO
variable {p : Program} {l : Launch} {e : Env} {R : Room} {s : State} {m : MethodId} {args : Array Value} {below : List Frame} {meth : Method} {c : Code} {Q : State → Prop} {ad cy : Nat → Nat} {D : va_G} {base L : Nat} {xs : Nat → Int32} {c0 n0 nL : Nat}
variable {cc : ByteArray} {pc pc' len own m0 : Nat} {nm : String} {ret : Option FieldType} {lv lv' : iv_L} {st st' : List Value} {σ σ' : iv_H} {i : Instr} {f : iv_F}
set_option maxHeartbeats 4000000 in
theorem iv_op_ok (ho : own ∈ iv_owns) (hini : iv_mem m0 iv_ini = true → nm = "<init>") (C : iv_C0 ad cy D base L xs p s m args meth c cc nL own nm) (hd : decode cc pc = .ok (i, len)) (hln : iv_lnok i len = true) (hlx : iv_lx i = true) (hop : iv_op m0 own nL ret i = .inl f) (hf : f L xs pc lv st σ = some (pc', lv', st', σ')) (hz : s.heap.size = base + c0) (hc0 : c0 ≤ σ.1) (hn0 : n0 ≤ σ.2.2) (hR : 8 ≤ R.frames ∧ 480 ≤ R.locals) (hRc : σ'.1 - c0 ≤ R.cells) (hRs : σ'.2.2 - n0 ≤ R.slots) (hmo : σ.1 ≤ σ'.1 ∧ σ.2.2 ≤ σ'.2.2) (k : iv_Nx ad cy D base c0 n0 nL p l e R s m args below meth c Q pc' lv' st' σ') : iv_Nx ad cy D base c0 n0 nL p l e R s m args below meth c Q pc lv st σ := by
  have C' := C
  obtain ⟨hx, hb, hml, hown, hts, hK, hnm⟩ := C
  cases i with
  | iconst n =>
    have e1 := Sum.inl.inj (show (Sum.inl (iv_oK (.int (Int32.ofInt n)) 1) : iv_O) = .inl f from hop)
    subst e1
    obtain rfl := iv_lenE (n := 0) hln rfl
    exact iv_s_K k hf (fun w => lv_iconst hx hb hd rfl w)
  | bipush n =>
    have e1 := Sum.inl.inj (show (Sum.inl (iv_oK (.int (Int8.ofInt n).toInt32) 2) : iv_O) = .inl f from hop)
    subst e1
    obtain rfl := iv_lenE (n := 1) hln rfl
    exact iv_s_K k hf (fun w => lv_bipush hx hb hd rfl w)
  | sipush n =>
    have e1 := Sum.inl.inj (show (Sum.inl (iv_oK (.int (Int16.ofInt n).toInt32) 3) : iv_O) = .inl f from hop)
    subst e1
    obtain rfl := iv_lenE (n := 2) hln rfl
    exact iv_s_K k hf (fun w => lv_sipush hx hb hd rfl w)
  | lconst n =>
    have e1 := Sum.inl.inj (show (Sum.inl (iv_oK (.long (Int64.ofNat n.val)) 1) : iv_O) = .inl f from hop)
    subst e1
    obtain rfl := iv_lenE (n := 0) hln rfl
    exact iv_s_K k hf (fun w => lv_lconst hx hb hd rfl w)
  | ldc kk =>
    obtain rfl := iv_lenE (n := 1) hln rfl
    have hop : iv_oki own kk 2 = .inl f := hop
    unfold iv_oki at hop
    split at hop
    · rename_i v h hq
      have e1 := Sum.inl.inj hop
      subst e1
      exact iv_s_K k hf (fun w => lv_ldc hx hb hown (hts _ (iv_w_in (iv_qk_ok ho hq))) hd w)
    · rename_i a h hq
      have e1 := Sum.inl.inj hop
      subst e1
      have hk := iv_qk_ok ho hq
      simp only [iv_qok, Bool.and_eq_true] at hk
      obtain ⟨ha, hm⟩ := hk
      split at hm
      · rename_i q hq2
        rw [Bool.and_eq_true] at hm
        have o1 := of_decide_eq_true hm.1
        have o2 := of_decide_eq_true hm.2
        subst o2
        obtain ⟨j, hj, rfl⟩ := iv_isS_of ha
        rw [show (2 * j + 203 - 203) / 2 = j by omega] at hq2
        exact iv_s_KS C' hq2 o1 hd k hf
      · cases hm
    · have e1 := Sum.inl.inj hop
      subst e1
      exact (iv_oN_no hf).elim
  | ldc_w kk =>
    obtain rfl := iv_lenE (n := 2) hln rfl
    have hop : iv_oki own kk 3 = .inl f := hop
    unfold iv_oki at hop
    split at hop
    · rename_i v h hq
      have e1 := Sum.inl.inj hop
      subst e1
      exact iv_s_K k hf (fun w => lv_ldcw hx hb hown (hts _ (iv_w_in (iv_qk_ok ho hq))) hd w)
    · rename_i a h hq
      exfalso
      have h9 : Nat.blt kk 256 = true := List.all_eq_true.mp (iv_q256 own ho) _ (iv_f1_in _ _ _ hq)
      have h9 := iv_blt h9
      have h8 : Nat.ble 256 kk = true := hlx
      have h7 := Nat.le_of_ble_eq_true h8
      omega
    · have e1 := Sum.inl.inj hop
      subst e1
      exact (iv_oN_no hf).elim
  | ldc2_w kk =>
    obtain rfl := iv_lenE (n := 2) hln rfl
    have hop : iv_okj own kk = .inl f := hop
    unfold iv_okj at hop
    split at hop
    · rename_i v h hq
      have e1 := Sum.inl.inj hop
      subst e1
      exact iv_s_K k hf (fun w => lv_ldc2 hx hb hown (hts _ (iv_w_in (iv_qk_ok ho hq))) hd w)
    · have e1 := Sum.inl.inj hop
      subst e1
      exact (iv_oN_no hf).elim
  | iload kk =>
    have e1 := Sum.inl.inj (show (Sum.inl (iv_oI kk 2) : iv_O) = .inl f from hop)
    subst e1
    obtain rfl := iv_lenE (n := 1) hln rfl
    exact iv_s_I k hf (fun q w => lv_iload hx hb hd q w)
  | iload_n kk =>
    have e1 := Sum.inl.inj (show (Sum.inl (iv_oI kk.val 1) : iv_O) = .inl f from hop)
    subst e1
    obtain rfl := iv_lenE (n := 0) hln rfl
    exact iv_s_I k hf (fun q w => lv_iload_n hx hb hd rfl q w)
  | istore kk =>
    obtain rfl := iv_lenE (n := 1) hln rfl
    obtain ⟨hkn, e1⟩ := iv_st_ok (show iv_st kk nL (iv_oIS kk 2) = .inl f from hop) hf
    subst e1
    exact iv_s_IS k hf (fun hl w => lv_istore hx hb hd hl hkn rfl w)
  | istore_n kk =>
    obtain rfl := iv_lenE (n := 0) hln rfl
    obtain ⟨hkn, e1⟩ := iv_st_ok (show iv_st kk.val nL (iv_oIS kk.val 1) = .inl f from hop) hf
    subst e1
    exact iv_s_IS k hf (fun hl w => lv_istore_n hx hb hd rfl hl hkn rfl w)
  | lload kk =>
    have e1 := Sum.inl.inj (show (Sum.inl (iv_oJ kk 2) : iv_O) = .inl f from hop)
    subst e1
    obtain rfl := iv_lenE (n := 1) hln rfl
    exact iv_s_J k hf (fun q w => lv_lload hx hb hd q w)
  | lload_n kk =>
    have e1 := Sum.inl.inj (show (Sum.inl (iv_oJ kk.val 1) : iv_O) = .inl f from hop)
    subst e1
    obtain rfl := iv_lenE (n := 0) hln rfl
    exact iv_s_J k hf (fun q w => lv_lload_n hx hb hd rfl q w)
  | lstore kk =>
    obtain rfl := iv_lenE (n := 1) hln rfl
    obtain ⟨hkn, e1⟩ := iv_st_ok (show iv_st (kk + 1) nL (iv_oJS kk 2) = .inl f from hop) hf
    subst e1
    exact iv_s_JS k hf (fun hl w => lv_lstore hx hb hd hl hkn rfl w)
  | lstore_n kk =>
    obtain rfl := iv_lenE (n := 0) hln rfl
    obtain ⟨hkn, e1⟩ := iv_st_ok (show iv_st (kk.val + 1) nL (iv_oJS kk.val 1) = .inl f from hop) hf
    subst e1
    exact iv_s_JS k hf (fun hl w => lv_lstore_n hx hb hd rfl hl hkn rfl w)
  | aload kk =>
    have e1 := Sum.inl.inj (show (Sum.inl (iv_oA kk 2) : iv_O) = .inl f from hop)
    subst e1
    obtain rfl := iv_lenE (n := 1) hln rfl
    exact iv_s_A k hf (fun q w => lv_aload hx hb hd q w)
  | aload_n kk =>
    have e1 := Sum.inl.inj (show (Sum.inl (iv_oA kk.val 1) : iv_O) = .inl f from hop)
    subst e1
    obtain rfl := iv_lenE (n := 0) hln rfl
    exact iv_s_A k hf (fun q w => lv_aload_n hx hb hd rfl q w)
  | astore kk =>
    obtain rfl := iv_lenE (n := 1) hln rfl
    obtain ⟨hkn, e1⟩ := iv_st_ok (show iv_st kk nL (iv_oAS kk 2) = .inl f from hop) hf
    subst e1
    exact iv_s_AS k hf (fun hl w => lv_astore hx hb hd hl hkn rfl w)
  | astore_n kk =>
    obtain rfl := iv_lenE (n := 0) hln rfl
    obtain ⟨hkn, e1⟩ := iv_st_ok (show iv_st kk.val nL (iv_oAS kk.val 1) = .inl f from hop) hf
    subst e1
    exact iv_s_AS k hf (fun hl w => lv_astore_n hx hb hd rfl hl hkn rfl w)
  | iinc kk z =>
    obtain rfl := iv_lenE (n := 2) hln rfl
    obtain ⟨hkn, e1⟩ := iv_st_ok (show iv_st kk nL (iv_oInc kk z) = .inl f from hop) hf
    subst e1
    exact iv_s_Inc hx hb hd hkn k hf
  | iadd =>
    have e1 := Sum.inl.inj (show (Sum.inl (iv_oII fun x y => x + y) : iv_O) = .inl f from hop)
    subst e1
    obtain rfl := iv_lenE (n := 0) hln rfl
    exact iv_s_II k hf (fun w => lv_iadd hx hb hd w)
  | isub =>
    have e1 := Sum.inl.inj (show (Sum.inl (iv_oII fun x y => x - y) : iv_O) = .inl f from hop)
    subst e1
    obtain rfl := iv_lenE (n := 0) hln rfl
    exact iv_s_II k hf (fun w => lv_isub hx hb hd w)
  | imul =>
    have e1 := Sum.inl.inj (show (Sum.inl (iv_oII fun x y => x * y) : iv_O) = .inl f from hop)
    subst e1
    obtain rfl := iv_lenE (n := 0) hln rfl
    exact iv_s_II k hf (fun w => lv_imul hx hb hd w)
  | iand =>
    have e1 := Sum.inl.inj (show (Sum.inl (iv_oII fun x y => x &&& y) : iv_O) = .inl f from hop)
    subst e1
    obtain rfl := iv_lenE (n := 0) hln rfl
    exact iv_s_II k hf (fun w => lv_iand hx hb hd w)
  | ior =>
    have e1 := Sum.inl.inj (show (Sum.inl (iv_oII fun x y => x ||| y) : iv_O) = .inl f from hop)
    subst e1
    obtain rfl := iv_lenE (n := 0) hln rfl
    exact iv_s_II k hf (fun w => lv_ior hx hb hd w)
  | ishl =>
    have e1 := Sum.inl.inj (show (Sum.inl (iv_oII fun x y => x <<< (y &&& 31)) : iv_O) = .inl f from hop)
    subst e1
    obtain rfl := iv_lenE (n := 0) hln rfl
    exact iv_s_II k hf (fun w => lv_ishl hx hb hd w)
  | ishr =>
    have e1 := Sum.inl.inj (show (Sum.inl (iv_oII fun x y => x >>> (y &&& 31)) : iv_O) = .inl f from hop)
    subst e1
    obtain rfl := iv_lenE (n := 0) hln rfl
    exact iv_s_II k hf (fun w => lv_ishr hx hb hd w)
  | iushr =>
    have e1 := Sum.inl.inj (show (Sum.inl (iv_oII fun x y => (x.toUInt32 >>> (y.toUInt32 &&& Int32.toUInt32 31)).toInt32) : iv_O) = .inl f from hop)
    subst e1
    obtain rfl := iv_lenE (n := 0) hln rfl
    exact iv_s_II k hf (fun w => lv_iushr hx hb hd rfl w)
  | idiv =>
    have e1 := Sum.inl.inj (show (Sum.inl (iv_oDI fun x y => x / y) : iv_O) = .inl f from hop)
    subst e1
    obtain rfl := iv_lenE (n := 0) hln rfl
    exact iv_s_DI k hf (fun q w => lv_idiv hx hb hd q w)
  | irem =>
    have e1 := Sum.inl.inj (show (Sum.inl (iv_oDI fun x y => x - x / y * y) : iv_O) = .inl f from hop)
    subst e1
    obtain rfl := iv_lenE (n := 0) hln rfl
    exact iv_s_DI k hf (fun q w => lv_irem hx hb hd q w)
  | ladd =>
    have e1 := Sum.inl.inj (show (Sum.inl (iv_oJJ fun x y => x + y) : iv_O) = .inl f from hop)
    subst e1
    obtain rfl := iv_lenE (n := 0) hln rfl
    exact iv_s_JJ k hf (fun w => lv_ladd hx hb hd w)
  | lsub =>
    have e1 := Sum.inl.inj (show (Sum.inl (iv_oJJ fun x y => x - y) : iv_O) = .inl f from hop)
    subst e1
    obtain rfl := iv_lenE (n := 0) hln rfl
    exact iv_s_JJ k hf (fun w => lv_lsub hx hb hd w)
  | lmul =>
    have e1 := Sum.inl.inj (show (Sum.inl (iv_oJJ fun x y => x * y) : iv_O) = .inl f from hop)
    subst e1
    obtain rfl := iv_lenE (n := 0) hln rfl
    exact iv_s_JJ k hf (fun w => lv_lmul hx hb hd w)
  | land =>
    have e1 := Sum.inl.inj (show (Sum.inl (iv_oJJ fun x y => x &&& y) : iv_O) = .inl f from hop)
    subst e1
    obtain rfl := iv_lenE (n := 0) hln rfl
    exact iv_s_JJ k hf (fun w => lv_land hx hb hd w)
  | lor =>
    have e1 := Sum.inl.inj (show (Sum.inl (iv_oJJ fun x y => x ||| y) : iv_O) = .inl f from hop)
    subst e1
    obtain rfl := iv_lenE (n := 0) hln rfl
    exact iv_s_JJ k hf (fun w => lv_lor hx hb hd w)
  | lxor =>
    have e1 := Sum.inl.inj (show (Sum.inl (iv_oJJ fun x y => x ^^^ y) : iv_O) = .inl f from hop)
    subst e1
    obtain rfl := iv_lenE (n := 0) hln rfl
    exact iv_s_JJ k hf (fun w => lv_lxor hx hb hd w)
  | lshl =>
    have e1 := Sum.inl.inj (show (Sum.inl (iv_oJI fun x y => x <<< (y.toInt64 &&& 63)) : iv_O) = .inl f from hop)
    subst e1
    obtain rfl := iv_lenE (n := 0) hln rfl
    exact iv_s_JI k hf (fun w => lv_lshl hx hb hd rfl w)
  | lushr =>
    have e1 := Sum.inl.inj (show (Sum.inl (iv_oJI fun x y => (x.toUInt64 >>> (y.toInt64.toUInt64 &&& Int64.toUInt64 63)).toInt64) : iv_O) = .inl f from hop)
    subst e1
    obtain rfl := iv_lenE (n := 0) hln rfl
    exact iv_s_JI k hf (fun w => lv_lushr hx hb hd rfl w)
  | ldiv =>
    have e1 := Sum.inl.inj (show (Sum.inl (iv_oDJ fun x y => x / y) : iv_O) = .inl f from hop)
    subst e1
    obtain rfl := iv_lenE (n := 0) hln rfl
    exact iv_s_DJ k hf (fun q w => lv_ldiv hx hb hd q w)
  | lrem =>
    have e1 := Sum.inl.inj (show (Sum.inl (iv_oDJ fun x y => x - x / y * y) : iv_O) = .inl f from hop)
    subst e1
    obtain rfl := iv_lenE (n := 0) hln rfl
    exact iv_s_DJ k hf (fun q w => lv_lrem hx hb hd q w)
  | lcmp =>
    have e1 := Sum.inl.inj (show (Sum.inl (iv_oCmp) : iv_O) = .inl f from hop)
    subst e1
    obtain rfl := iv_lenE (n := 0) hln rfl
    exact iv_s_Cmp k hf (fun w => W.lcmp hx hb hd w)
  | i2l =>
    have e1 := Sum.inl.inj (show (Sum.inl (iv_oUI fun x => .long x.toInt64) : iv_O) = .inl f from hop)
    subst e1
    obtain rfl := iv_lenE (n := 0) hln rfl
    exact iv_s_UI k hf (fun w => lv_i2l hx hb hd rfl w)
  | i2c =>
    have e1 := Sum.inl.inj (show (Sum.inl (iv_oUI fun x => .int (x.toUInt32 % 65536).toInt32) : iv_O) = .inl f from hop)
    subst e1
    obtain rfl := iv_lenE (n := 0) hln rfl
    exact iv_s_UI k hf (fun w => lv_i2c hx hb hd rfl w)
  | ineg =>
    have e1 := Sum.inl.inj (show (Sum.inl (iv_oUI fun x => .int (-x)) : iv_O) = .inl f from hop)
    subst e1
    obtain rfl := iv_lenE (n := 0) hln rfl
    exact iv_s_UI k hf (fun w => lv_ineg hx hb hd w)
  | l2i =>
    have e1 := Sum.inl.inj (show (Sum.inl (iv_oL2I) : iv_O) = .inl f from hop)
    subst e1
    obtain rfl := iv_lenE (n := 0) hln rfl
    exact iv_s_L2I k hf (fun w => lv_l2i hx hb hd rfl w)
  | dup =>
    have e1 := Sum.inl.inj (show (Sum.inl (iv_oDup) : iv_O) = .inl f from hop)
    subst e1
    obtain rfl := iv_lenE (n := 0) hln rfl
    exact iv_s_Dup hx hb hd k hf
  | pop =>
    have e1 := Sum.inl.inj (show (Sum.inl (iv_oPop) : iv_O) = .inl f from hop)
    subst e1
    obtain rfl := iv_lenE (n := 0) hln rfl
    exact iv_s_Pop hx hb hd k hf
  | dup2 =>
    have e1 := Sum.inl.inj (show (Sum.inl (iv_oDup2) : iv_O) = .inl f from hop)
    subst e1
    obtain rfl := iv_lenE (n := 0) hln rfl
    exact iv_s_Dup2 hx hb hd k hf
  | goto off =>
    have e1 := Sum.inl.inj (show (Sum.inl (iv_oGo off) : iv_O) = .inl f from hop)
    subst e1
    obtain rfl := iv_lenE (n := 2) hln rfl
    exact iv_s_Go hx hb hd k hf
  | ifCond cd off =>
    have e1 := Sum.inl.inj (show (Sum.inl (iv_oIf cd off) : iv_O) = .inl f from hop)
    subst e1
    obtain rfl := iv_lenE (n := 2) hln rfl
    exact iv_s_If hx hb hd k hf
  | if_icmp cd off =>
    have e1 := Sum.inl.inj (show (Sum.inl (iv_oIc cd off) : iv_O) = .inl f from hop)
    subst e1
    obtain rfl := iv_lenE (n := 2) hln rfl
    exact iv_s_Ic hx hb hd k hf
  | if_acmp cd off =>
    obtain rfl := iv_lenE (n := 2) hln rfl
    cases cd with
    | ne =>
      have e1 := Sum.inl.inj (show (Sum.inl (iv_oAc off) : iv_O) = .inl f from hop)
      subst e1
      exact iv_s_Ac C' hd k hf
    | eq =>
      have e1 := Sum.inl.inj (show (Sum.inl iv_oN : iv_O) = .inl f from hop)
      subst e1
      exact (iv_oN_no hf).elim
  | tableswitch dflt lo hi offs =>
    have e1 := Sum.inl.inj (show (Sum.inl (iv_oTs dflt lo hi offs) : iv_O) = .inl f from hop)
    subst e1
    exact iv_s_Ts hx hb hd k hf
  | lookupswitch dflt ps =>
    have e1 := Sum.inl.inj (show (Sum.inl (iv_oLs dflt ps) : iv_O) = .inl f from hop)
    subst e1
    exact iv_s_Ls hx hb hd k hf
  | getfield kk =>
    obtain rfl := iv_lenE (n := 2) hln rfl
    have hop : iv_ofd own kk = .inl f := hop
    unfold iv_ofd at hop
    split at hop
    · rename_i ci j z h hq
      have e1 := Sum.inl.inj hop
      subst e1
      have hk := iv_lk_ok ho hq
      simp only [iv_lok, Bool.and_eq_true] at hk
      exact iv_s_GF C' (iv_blt hk.1) (iv_blt hk.2.1) (iv_w_in hk.2.2) hd k hf
    · rename_i z1 z2 z3 h hq
      have hk := iv_lk_ok ho hq
      simp only [iv_lok] at hk
      have e1 := Sum.inl.inj hop
      subst e1
      exact iv_s_Wt C' (iv_w_in hk) hd k hf
    · have e1 := Sum.inl.inj hop
      subst e1
      exact (iv_oN_no hf).elim
  | putfield kk =>
    obtain rfl := iv_lenE (n := 2) hln rfl
    have hop : iv_opf m0 own kk = .inl f := hop
    unfold iv_opf at hop
    split at hop
    · rename_i ci j z h hq
      have hk := iv_lk_ok ho hq
      simp only [iv_lok, Bool.and_eq_true] at hk
      cases hfi : (iv_T ci j).2.2.2
      · rw [hfi] at hop
        simp only [cond_true, cond_false] at hop
        have e1 := Sum.inl.inj hop
        subst e1
        exact iv_s_PF C' (iv_blt hk.1) (iv_blt hk.2.1) (iv_w_in hk.2.2) (Or.inl hfi) hd k hf
      · rw [hfi] at hop
        simp only [cond_true] at hop
        cases hii : (iv_mem m0 iv_ini && Nat.beq own (ci + 1)) <;> rw [hii] at hop <;> simp only [cond_true, cond_false] at hop
        · have e1 := Sum.inl.inj hop
          subst e1
          exact (iv_oN_no hf).elim
        · rw [Bool.and_eq_true] at hii
          have e1 := Sum.inl.inj hop
          subst e1
          have hdc := of_decide_eq_true (List.all_eq_true.mp (List.all_eq_true.mp iv_decl0 ci (List.mem_range.mpr (iv_blt hk.1))) j (List.mem_range.mpr (iv_blt hk.2.1)))
          rw [← Nat.eq_of_beq_eq_true hii.2] at hdc
          exact iv_s_PF C' (iv_blt hk.1) (iv_blt hk.2.1) (iv_w_in hk.2.2) (Or.inr ⟨hfi, hini hii.1, hdc⟩) hd k hf
    · have e1 := Sum.inl.inj hop
      subst e1
      exact (iv_oN_no hf).elim
  | iaload =>
    have e1 := Sum.inl.inj (show (Sum.inl (iv_oIl) : iv_O) = .inl f from hop)
    subst e1
    obtain rfl := iv_lenE (n := 0) hln rfl
    exact iv_s_Il C' hd k hf
  | laload =>
    have e1 := Sum.inl.inj (show (Sum.inl (iv_oJl) : iv_O) = .inl f from hop)
    subst e1
    obtain rfl := iv_lenE (n := 0) hln rfl
    exact iv_s_Jl C' hd k hf
  | baload =>
    have e1 := Sum.inl.inj (show (Sum.inl (iv_oZl) : iv_O) = .inl f from hop)
    subst e1
    obtain rfl := iv_lenE (n := 0) hln rfl
    exact iv_s_Zl C' hd k hf
  | aaload =>
    have e1 := Sum.inl.inj (show (Sum.inl (iv_oQl) : iv_O) = .inl f from hop)
    subst e1
    obtain rfl := iv_lenE (n := 0) hln rfl
    exact iv_s_Ql C' hd k hf
  | arraylength =>
    have e1 := Sum.inl.inj (show (Sum.inl (iv_oLen) : iv_O) = .inl f from hop)
    subst e1
    obtain rfl := iv_lenE (n := 0) hln rfl
    exact iv_s_Len C' hd k hf
  | iastore =>
    have e1 := Sum.inl.inj (show (Sum.inl (iv_oIst) : iv_O) = .inl f from hop)
    subst e1
    obtain rfl := iv_lenE (n := 0) hln rfl
    exact iv_s_Ist C' hd k hf
  | lastore =>
    have e1 := Sum.inl.inj (show (Sum.inl (iv_oJst) : iv_O) = .inl f from hop)
    subst e1
    obtain rfl := iv_lenE (n := 0) hln rfl
    exact iv_s_Jst C' hd k hf
  | bastore =>
    have e1 := Sum.inl.inj (show (Sum.inl (iv_oZst) : iv_O) = .inl f from hop)
    subst e1
    obtain rfl := iv_lenE (n := 0) hln rfl
    exact iv_s_Zst C' hd k hf
  | aastore =>
    have e1 := Sum.inl.inj (show (Sum.inl (iv_oQst) : iv_O) = .inl f from hop)
    subst e1
    obtain rfl := iv_lenE (n := 0) hln rfl
    exact iv_s_Qst C' hd k hf
  | new kk =>
    obtain rfl := iv_lenE (n := 2) hln rfl
    have hop : iv_onw own kk = .inl f := hop
    unfold iv_onw at hop
    split at hop
    · rename_i ci h1 h2 h hq
      have e1 := Sum.inl.inj hop
      subst e1
      have hk := iv_lk_ok ho hq
      simp only [iv_lok, Bool.and_eq_true] at hk
      exact iv_s_New C' (iv_blt hk.1) (iv_w_in hk.2.1) (iv_w_in hk.2.2.1) (iv_w_in hk.2.2.2) hd hz hc0 hn0 hRc hRs k hf
    · have e1 := Sum.inl.inj hop
      subst e1
      exact (iv_oN_no hf).elim
  | newarray t =>
    obtain rfl := iv_lenE (n := 1) hln rfl
    cases t with
    | int =>
      have e1 := Sum.inl.inj (show (Sum.inl (iv_oNa 0 (0, .inl (fun _ => 0))) : iv_O) = .inl f from hop)
      subst e1
      exact iv_s_Na (t := 0) (z := (0, .inl (fun _ => 0))) C' (by decide) rfl (iv_glob 11 rfl) (fun n cA => vp_cell_i cA n (fun _ => 0)) (by decide) hd hz hc0 hn0 hRc hRs k hf
    | long =>
      have e1 := Sum.inl.inj (show (Sum.inl (iv_oNa 1 (0, .inr (.inl (fun _ => 0)))) : iv_O) = .inl f from hop)
      subst e1
      exact iv_s_Na (t := 1) (z := (0, .inr (.inl (fun _ => 0)))) C' (by decide) rfl (iv_glob 12 rfl) (fun n cA => vp_cell_l cA n (fun _ => 0)) (by decide) hd hz hc0 hn0 hRc hRs k hf
    | boolean =>
      have e1 := Sum.inl.inj (show (Sum.inl (iv_oNa 2 (0, .inl (fun _ => 0))) : iv_O) = .inl f from hop)
      subst e1
      exact iv_s_Na (t := 2) (z := (0, .inl (fun _ => 0))) C' (by decide) rfl (iv_glob 13 rfl) (fun n cA => vp_cell_i cA n (fun _ => 0)) (by decide) hd hz hc0 hn0 hRc hRs k hf
    | _ =>
      have e1 := Sum.inl.inj (show (Sum.inl iv_oN : iv_O) = .inl f from hop)
      subst e1
      exact (iv_oN_no hf).elim
  | anewarray kk =>
    obtain rfl := iv_lenE (n := 2) hln rfl
    have hop : iv_onq own kk = .inl f := hop
    unfold iv_onq at hop
    split at hop
    · rename_i t z1 z2 h hq
      have hk := iv_lk_ok ho hq
      simp only [iv_lok] at hk
      cases ht : Nat.beq t 6 <;> rw [ht] at hop <;> simp only [cond_true, cond_false] at hop
      · have e1 := Sum.inl.inj hop
        subst e1
        exact (iv_oN_no hf).elim
      · have e1 := Sum.inl.inj hop
        subst e1
        exact iv_s_Nq (C9 := RX11) C' ⟨by decide, by decide⟩ rfl (by decide +kernel) (iv_w_in hk) hd hz hc0 hn0 hRc hRs k hf
    · rename_i ci z1 z2 h hq
      have hk := iv_lk_ok ho hq
      simp only [iv_lok, Bool.and_eq_true] at hk
      have hci := iv_blt hk.1
      have hcl := iv_w_in hk.2.1
      cases ht : Nat.beq (iv_ta ci) 99 <;> rw [ht] at hop <;> simp only [cond_true, cond_false] at hop
      · have e1 := Sum.inl.inj hop
        subst e1
        have h3 : ci = 3 ∨ ci = 6 ∨ ci = 7 := by
          rcases ci with _ | _ | _ | _ | _ | _ | _ | _ | _ | _ | _ | _ | _ | ci
          all_goals first | (exact Or.inl rfl) | (exact Or.inr (Or.inl rfl)) | (exact Or.inr (Or.inr rfl)) | (exact absurd ht (by decide)) | (exact absurd hci (by omega))
        rcases h3 with rfl | rfl | rfl
        · exact iv_s_Nq (C9 := RX4) C' ⟨by decide, by decide⟩ rfl (by decide +kernel) hcl hd hz hc0 hn0 hRc hRs k hf
        · exact iv_s_Nq (C9 := RX7) C' ⟨by decide, by decide⟩ rfl (by decide +kernel) hcl hd hz hc0 hn0 hRc hRs k hf
        · exact iv_s_Nq (C9 := RX8) C' ⟨by decide, by decide⟩ rfl (by decide +kernel) hcl hd hz hc0 hn0 hRc hRs k hf
      · have e1 := Sum.inl.inj hop
        subst e1
        exact (iv_oN_no hf).elim
    · have e1 := Sum.inl.inj hop
      subst e1
      exact (iv_oN_no hf).elim
  | multianewarray kk z =>
    obtain rfl := iv_lenE (n := 3) hln rfl
    have hop2 : (bif Nat.beq z 2 then iv_onm own kk else .inl iv_oN) = .inl f := hop
    cases hz2 : Nat.beq z 2 <;> rw [hz2] at hop2 <;> simp only [cond_true, cond_false] at hop2
    · have e1 := Sum.inl.inj hop2
      subst e1
      exact (iv_oN_no hf).elim
    · have e2 := Nat.eq_of_beq_eq_true hz2
      subst e2
      unfold iv_onm at hop2
      split at hop2
      · rename_i z1 z2 z3 h hq
        have hk := iv_lk_ok ho hq
        simp only [iv_lok] at hk
        have e1 := Sum.inl.inj hop2
        subst e1
        exact iv_s_Nm C' (iv_w_in hk) hd hz hc0 hn0 hRc hRs k hf
      · have e1 := Sum.inl.inj hop2
        subst e1
        exact (iv_oN_no hf).elim
  | getstatic kk =>
    obtain rfl := iv_lenE (n := 2) hln rfl
    have hop : iv_ogs own kk = .inl f := hop
    unfold iv_ogs at hop
    split at hop
    · rename_i a j z h hq
      have hk := iv_lk_ok ho hq
      simp only [iv_lok, Bool.and_eq_true] at hk
      have e1 := Sum.inl.inj hop
      subst e1
      have e2 := Nat.eq_of_beq_eq_true hk.2.1
      subst e2
      exact iv_s_SW C' (iv_blt hk.1) (iv_w_in hk.2.2) hd k hf
    · rename_i a j z h hq
      have hk := iv_lk_ok ho hq
      simp only [iv_lok, Bool.and_eq_true] at hk
      have e1 := Sum.inl.inj hop
      subst e1
      have e2 := Nat.eq_of_beq_eq_true hk.1
      subst e2
      exact iv_s_SM C' (iv_w_in hk.2) hd k hf
    · rename_i a j z h hq
      have hk := iv_lk_ok ho hq
      simp only [iv_lok, Bool.and_eq_true] at hk
      have e1 := Sum.inl.inj hop
      subst e1
      have e2 := Nat.eq_of_beq_eq_true hk.1
      subst e2
      exact iv_s_SA C' (iv_w_in hk.2) hd k hf
    · have e1 := Sum.inl.inj hop
      subst e1
      exact (iv_oN_no hf).elim
  | invokestatic kk =>
    obtain rfl := iv_lenE (n := 2) hln rfl
    have hop : iv_oss own kk = .inl f := hop
    unfold iv_oss at hop
    split at hop
    · rename_i z1 z2 z3 h hq
      have hk := iv_lk_ok ho hq
      simp only [iv_lok] at hk
      have e1 := Sum.inl.inj hop
      subst e1
      exact iv_s_Cp C' (iv_w_in hk) hd ⟨by omega, by omega⟩ k hf
    · rename_i z1 z2 z3 h hq
      have hk := iv_lk_ok ho hq
      simp only [iv_lok] at hk
      have e1 := Sum.inl.inj hop
      subst e1
      exact iv_s_MM k hf (fun h1 h8 w => va_mmax hx hb (hml.trans h1.symm) hown (hts _ (iv_w_in hk)) (hts _ (iv_glob 14 rfl)) (hts _ (iv_glob 20 rfl)) (hts _ (iv_glob 17 rfl)) (show 1 ≤ R.frames by omega) (by rw [iv_cs_eq]; have := hR.2; omega) (by omega) (by omega) hd w)
    · rename_i z1 z2 z3 h hq
      have hk := iv_lk_ok ho hq
      simp only [iv_lok] at hk
      have e1 := Sum.inl.inj hop
      subst e1
      exact iv_s_MM k hf (fun h1 h8 w => va_mmin hx hb (hml.trans h1.symm) hown (hts _ (iv_w_in hk)) (hts _ (iv_glob 15 rfl)) (hts _ (iv_glob 20 rfl)) (hts _ (iv_glob 18 rfl)) (show 1 ≤ R.frames by omega) (by rw [iv_cs_eq]; have := hR.2; omega) (by omega) (by omega) hd w)
    · rename_i z1 z2 z3 h hq
      have hk := iv_lk_ok ho hq
      simp only [iv_lok] at hk
      have e1 := Sum.inl.inj hop
      subst e1
      exact iv_s_Ab C' (iv_w_in hk) hd ⟨by omega, by omega⟩ (by omega) (by omega) k hf
    · cases hop
    · have e1 := Sum.inl.inj hop
      subst e1
      exact (iv_oN_no hf).elim
  | invokespecial kk =>
    obtain rfl := iv_lenE (n := 2) hln rfl
    have hop : iv_osp own kk = .inl f := hop
    unfold iv_osp at hop
    split at hop
    · rename_i z1 z2 z3 h hq
      have hk := iv_lk_ok ho hq
      simp only [iv_lok] at hk
      have e1 := Sum.inl.inj hop
      subst e1
      exact iv_s_Ob C' (iv_w_in hk) hd ⟨by omega, by omega⟩ k hf
    · cases hop
    · cases hop
    · have e1 := Sum.inl.inj hop
      subst e1
      exact (iv_oN_no hf).elim
  | invokevirtual kk =>
    obtain rfl := iv_lenE (n := 2) hln rfl
    have hop : iv_ovi own kk = .inl f := hop
    unfold iv_ovi at hop
    split at hop
    · rename_i z1 z2 z3 h hq
      have hk := iv_lk_ok ho hq
      simp only [iv_lok] at hk
      have e1 := Sum.inl.inj hop
      subst e1
      exact iv_s_Ord C' (iv_w_in hk) hd ⟨by omega, by omega⟩ (by omega) (by omega) k hf
    · rename_i z1 z2 z3 h hq
      have hk := iv_lk_ok ho hq
      simp only [iv_lok] at hk
      have e1 := Sum.inl.inj hop
      subst e1
      exact iv_s_Sl C' (iv_w_in hk) hd hR (by omega) (by omega) k hf
    · rename_i z1 z2 z3 h hq
      have hk := iv_lk_ok ho hq
      simp only [iv_lok] at hk
      have e1 := Sum.inl.inj hop
      subst e1
      exact iv_s_Sc C' (iv_w_in hk) hd hR (by omega) (by omega) k hf
    · rename_i z1 z2 z3 h hq
      have hk := iv_lk_ok ho hq
      simp only [iv_lok] at hk
      have e1 := Sum.inl.inj hop
      subst e1
      exact iv_s_Si C' (iv_w_in hk) hd hR (by omega) (by omega) k hf
    · cases hop
    · have e1 := Sum.inl.inj hop
      subst e1
      exact (iv_oN_no hf).elim
  | ireturn =>
    have hop : (match ret with | some .int => (.inr (.inl 1) : iv_O) | some .boolean => .inr (.inl 2) | _ => .inl iv_oN) = .inl f := hop
    split at hop <;> cases hop
    all_goals exact (iv_oN_no hf).elim
  | lreturn =>
    have hop : (match ret with | some .long => (.inr (.inl 3) : iv_O) | _ => .inl iv_oN) = .inl f := hop
    split at hop <;> cases hop
    all_goals exact (iv_oN_no hf).elim
  | areturn =>
    have hop : (match ret with | some (.object _) => (.inr (.inl 4) : iv_O) | _ => .inl iv_oN) = .inl f := hop
    split at hop <;> cases hop
    all_goals exact (iv_oN_no hf).elim
  | return_ =>
    have hop : (match ret with | none => (.inr (.inl 0) : iv_O) | _ => .inl iv_oN) = .inl f := hop
    split at hop <;> cases hop
    all_goals exact (iv_oN_no hf).elim
  | _ =>
    have e1 := Sum.inl.inj (show (Sum.inl iv_oN : iv_O) = .inl f from hop)
    subst e1
    exact (iv_oN_no hf).elim
end IVO
