/-! ===== runs that make no cell: sound whatever else the heap holds ===== -/
theorem al_New {ci L pc pc' : Nat} {xs : Nat → Int32} {lv lv' : iv_L} {st st' : List Value} {σ σ' : iv_H} (h : iv_oNew ci L xs pc lv st σ = some (pc', lv', st', σ')) : σ'.1 ≠ σ.1 := by
  unfold iv_oNew at h
  cases h
  rw [iv_mo_psh.1]
  omega
theorem al_Na {t L pc pc' : Nat} {z : vp_A} {xs : Nat → Int32} {lv lv' : iv_L} {st st' : List Value} {σ σ' : iv_H} (h : iv_oNa t z L xs pc lv st σ = some (pc', lv', st', σ')) : σ'.1 ≠ σ.1 := by
  unfold iv_oNa at h
  split at h
  · rename_i n r
    cases hb : iv_big n <;> rw [hb] at h
    · cases h
      rw [iv_mo_psh.1]
      omega
    · cases h
  · cases h
theorem al_Nq {t L pc pc' : Nat} {xs : Nat → Int32} {lv lv' : iv_L} {st st' : List Value} {σ σ' : iv_H} (h : iv_oNq t L xs pc lv st σ = some (pc', lv', st', σ')) : σ'.1 ≠ σ.1 := by
  unfold iv_oNq at h
  split at h
  · rename_i n r
    cases hb : iv_big n <;> rw [hb] at h
    · cases h
      rw [iv_mo_psh.1]
      omega
    · cases h
  · cases h
theorem al_Nm {L pc pc' : Nat} {xs : Nat → Int32} {lv lv' : iv_L} {st st' : List Value} {σ σ' : iv_H} (h : iv_oNm L xs pc lv st σ = some (pc', lv', st', σ')) : σ'.1 ≠ σ.1 := by
  unfold iv_oNm at h
  split at h
  · rename_i j n r
    cases hb : (iv_big n || iv_big j) <;> rw [hb] at h
    · cases h
      show σ.1 + 1 + _ ≠ σ.1
      omega
    · cases h
  · cases h
section IVO
variable {p : Program} {l : Launch} {e : Env} {R : Room} {s : State} {m : MethodId} {args : Array Value} {below : List Frame} {meth : Method} {c : Code} {Q : State → Prop} {ad cy : Nat → Nat} {D : va_G} {base L : Nat} {xs : Nat → Int32} {c0 n0 nL : Nat}
variable {cc : ByteArray} {pc pc' len own m0 : Nat} {nm : String} {ret : Option FieldType} {lv lv' : iv_L} {st st' : List Value} {σ σ' : iv_H} {i : Instr} {f : iv_F}
set_option maxHeartbeats 4000000 in
theorem iv_op_okN (ho : own ∈ iv_owns) (hini : iv_mem m0 iv_ini = true → nm = "<init>") (C : iv_C0 ad cy D base L xs p s m args meth c cc nL own nm) (hd : decode cc pc = .ok (i, len)) (hln : iv_lnok i len = true) (hlx : iv_lx i = true) (hop : iv_op m0 own nL ret i = .inl f) (hf : f L xs pc lv st σ = some (pc', lv', st', σ')) (hne : σ'.1 = σ.1) (hR : 8 ≤ R.frames ∧ 480 ≤ R.locals) (hRc : σ'.1 - c0 ≤ R.cells) (hRs : σ'.2.2 - n0 ≤ R.slots) (hmo : σ.1 ≤ σ'.1 ∧ σ.2.2 ≤ σ'.2.2) (k : iv_Nx ad cy D base c0 n0 nL p l e R s m args below meth c Q pc' lv' st' σ') : iv_Nx ad cy D base c0 n0 nL p l e R s m args below meth c Q pc lv st σ := by
  have C' := C
  obtain ⟨hx, hb, hml, hown, hts, hK, hnm⟩ := C
  cases i with
  | iconst n =>
    have e1 := Sum.inl.inj (show (Sum.inl (iv_oK (.int (Int32.ofInt n)) 1) : iv_O) = .inl f from hop)
    subst e1
    obtain rfl := iv_lenE (n := 0) hln rfl
    exact iv_s_K k hf (fun w => lv_iconst hx hb hd rfl w)
  | bipush n =>
    have e1 := Sum.inl.inj (show (Sum.inl (iv_oK (.int (Int8.ofInt n).toInt32) 2) : iv_O) = .inl f from hop)
    subst e1
    obtain rfl := iv_lenE (n := 1) hln rfl
    exact iv_s_K k hf (fun w => lv_bipush hx hb hd rfl w)
  | sipush n =>
    have e1 := Sum.inl.inj (show (Sum.inl (iv_oK (.int (Int16.ofInt n).toInt32) 3) : iv_O) = .inl f from hop)
    subst e1
    obtain rfl := iv_lenE (n := 2) hln rfl
    exact iv_s_K k hf (fun w => lv_sipush hx hb hd rfl w)
  | lconst n =>
    have e1 := Sum.inl.inj (show (Sum.inl (iv_oK (.long (Int64.ofNat n.val)) 1) : iv_O) = .inl f from hop)
    subst e1
    obtain rfl := iv_lenE (n := 0) hln rfl
    exact iv_s_K k hf (fun w => lv_lconst hx hb hd rfl w)
  | ldc kk =>
    obtain rfl := iv_lenE (n := 1) hln rfl
    have hop : iv_oki own kk 2 = .inl f := hop
    unfold iv_oki at hop
    split at hop
    · rename_i v h hq
      have e1 := Sum.inl.inj hop
      subst e1
      exact iv_s_K k hf (fun w => lv_ldc hx hb hown (hts _ (iv_w_in (iv_qk_ok ho hq))) hd w)
    · rename_i a h hq
      have e1 := Sum.inl.inj hop
      subst e1
      have hk := iv_qk_ok ho hq
      simp only [iv_qok, Bool.and_eq_true] at hk
      obtain ⟨ha, hm⟩ := hk
      split at hm
      · rename_i q hq2
        rw [Bool.and_eq_true] at hm
        have o1 := of_decide_eq_true hm.1
        have o2 := of_decide_eq_true hm.2
        subst o2
        obtain ⟨j, hj, rfl⟩ := iv_isS_of ha
        rw [show (2 * j + 203 - 203) / 2 = j by omega] at hq2
        exact iv_s_KS C' hq2 o1 hd k hf
      · cases hm
    · have e1 := Sum.inl.inj hop
      subst e1
      exact (iv_oN_no hf).elim
  | ldc_w kk =>
    obtain rfl := iv_lenE (n := 2) hln rfl
    have hop : iv_oki own kk 3 = .inl f := hop
    unfold iv_oki at hop
    split at hop
    · rename_i v h hq
      have e1 := Sum.inl.inj hop
      subst e1
      exact iv_s_K k hf (fun w => lv_ldcw hx hb hown (hts _ (iv_w_in (iv_qk_ok ho hq))) hd w)
    · rename_i a h hq
      exfalso
      have h9 : Nat.blt kk 256 = true := List.all_eq_true.mp (iv_q256 own ho) _ (iv_f1_in _ _ _ hq)
      have h9 := iv_blt h9
      have h8 : Nat.ble 256 kk = true := hlx
      have h7 := Nat.le_of_ble_eq_true h8
      omega
    · have e1 := Sum.inl.inj hop
      subst e1
      exact (iv_oN_no hf).elim
  | ldc2_w kk =>
    obtain rfl := iv_lenE (n := 2) hln rfl
    have hop : iv_okj own kk = .inl f := hop
    unfold iv_okj at hop
    split at hop
    · rename_i v h hq
      have e1 := Sum.inl.inj hop
      subst e1
      exact iv_s_K k hf (fun w => lv_ldc2 hx hb hown (hts _ (iv_w_in (iv_qk_ok ho hq))) hd w)
    · have e1 := Sum.inl.inj hop
      subst e1
      exact (iv_oN_no hf).elim
  | iload kk =>
    have e1 := Sum.inl.inj (show (Sum.inl (iv_oI kk 2) : iv_O) = .inl f from hop)
    subst e1
    obtain rfl := iv_lenE (n := 1) hln rfl
    exact iv_s_I k hf (fun q w => lv_iload hx hb hd q w)
  | iload_n kk =>
    have e1 := Sum.inl.inj (show (Sum.inl (iv_oI kk.val 1) : iv_O) = .inl f from hop)
    subst e1
    obtain rfl := iv_lenE (n := 0) hln rfl
    exact iv_s_I k hf (fun q w => lv_iload_n hx hb hd rfl q w)
  | istore kk =>
    obtain rfl := iv_lenE (n := 1) hln rfl
    obtain ⟨hkn, e1⟩ := iv_st_ok (show iv_st kk nL (iv_oIS kk 2) = .inl f from hop) hf
    subst e1
    exact iv_s_IS k hf (fun hl w => lv_istore hx hb hd hl hkn rfl w)
  | istore_n kk =>
    obtain rfl := iv_lenE (n := 0) hln rfl
    obtain ⟨hkn, e1⟩ := iv_st_ok (show iv_st kk.val nL (iv_oIS kk.val 1) = .inl f from hop) hf
    subst e1
    exact iv_s_IS k hf (fun hl w => lv_istore_n hx hb hd rfl hl hkn rfl w)
  | lload kk =>
    have e1 := Sum.inl.inj (show (Sum.inl (iv_oJ kk 2) : iv_O) = .inl f from hop)
    subst e1
    obtain rfl := iv_lenE (n := 1) hln rfl
    exact iv_s_J k hf (fun q w => lv_lload hx hb hd q w)
  | lload_n kk =>
    have e1 := Sum.inl.inj (show (Sum.inl (iv_oJ kk.val 1) : iv_O) = .inl f from hop)
    subst e1
    obtain rfl := iv_lenE (n := 0) hln rfl
    exact iv_s_J k hf (fun q w => lv_lload_n hx hb hd rfl q w)
  | lstore kk =>
    obtain rfl := iv_lenE (n := 1) hln rfl
    obtain ⟨hkn, e1⟩ := iv_st_ok (show iv_st (kk + 1) nL (iv_oJS kk 2) = .inl f from hop) hf
    subst e1
    exact iv_s_JS k hf (fun hl w => lv_lstore hx hb hd hl hkn rfl w)
  | lstore_n kk =>
    obtain rfl := iv_lenE (n := 0) hln rfl
    obtain ⟨hkn, e1⟩ := iv_st_ok (show iv_st (kk.val + 1) nL (iv_oJS kk.val 1) = .inl f from hop) hf
    subst e1
    exact iv_s_JS k hf (fun hl w => lv_lstore_n hx hb hd rfl hl hkn rfl w)
  | aload kk =>
    have e1 := Sum.inl.inj (show (Sum.inl (iv_oA kk 2) : iv_O) = .inl f from hop)
    subst e1
    obtain rfl := iv_lenE (n := 1) hln rfl
    exact iv_s_A k hf (fun q w => lv_aload hx hb hd q w)
  | aload_n kk =>
    have e1 := Sum.inl.inj (show (Sum.inl (iv_oA kk.val 1) : iv_O) = .inl f from hop)
    subst e1
    obtain rfl := iv_lenE (n := 0) hln rfl
    exact iv_s_A k hf (fun q w => lv_aload_n hx hb hd rfl q w)
  | astore kk =>
    obtain rfl := iv_lenE (n := 1) hln rfl
    obtain ⟨hkn, e1⟩ := iv_st_ok (show iv_st kk nL (iv_oAS kk 2) = .inl f from hop) hf
    subst e1
    exact iv_s_AS k hf (fun hl w => lv_astore hx hb hd hl hkn rfl w)
  | astore_n kk =>
    obtain rfl := iv_lenE (n := 0) hln rfl
    obtain ⟨hkn, e1⟩ := iv_st_ok (show iv_st kk.val nL (iv_oAS kk.val 1) = .inl f from hop) hf
    subst e1
    exact iv_s_AS k hf (fun hl w => lv_astore_n hx hb hd rfl hl hkn rfl w)
  | iinc kk z =>
    obtain rfl := iv_lenE (n := 2) hln rfl
    obtain ⟨hkn, e1⟩ := iv_st_ok (show iv_st kk nL (iv_oInc kk z) = .inl f from hop) hf
    subst e1
    exact iv_s_Inc hx hb hd hkn k hf
  | iadd =>
    have e1 := Sum.inl.inj (show (Sum.inl (iv_oII fun x y => x + y) : iv_O) = .inl f from hop)
    subst e1
    obtain rfl := iv_lenE (n := 0) hln rfl
    exact iv_s_II k hf (fun w => lv_iadd hx hb hd w)
  | isub =>
    have e1 := Sum.inl.inj (show (Sum.inl (iv_oII fun x y => x - y) : iv_O) = .inl f from hop)
    subst e1
    obtain rfl := iv_lenE (n := 0) hln rfl
    exact iv_s_II k hf (fun w => lv_isub hx hb hd w)
  | imul =>
    have e1 := Sum.inl.inj (show (Sum.inl (iv_oII fun x y => x * y) : iv_O) = .inl f from hop)
    subst e1
    obtain rfl := iv_lenE (n := 0) hln rfl
    exact iv_s_II k hf (fun w => lv_imul hx hb hd w)
  | iand =>
    have e1 := Sum.inl.inj (show (Sum.inl (iv_oII fun x y => x &&& y) : iv_O) = .inl f from hop)
    subst e1
    obtain rfl := iv_lenE (n := 0) hln rfl
    exact iv_s_II k hf (fun w => lv_iand hx hb hd w)
  | ior =>
    have e1 := Sum.inl.inj (show (Sum.inl (iv_oII fun x y => x ||| y) : iv_O) = .inl f from hop)
    subst e1
    obtain rfl := iv_lenE (n := 0) hln rfl
    exact iv_s_II k hf (fun w => lv_ior hx hb hd w)
  | ishl =>
    have e1 := Sum.inl.inj (show (Sum.inl (iv_oII fun x y => x <<< (y &&& 31)) : iv_O) = .inl f from hop)
    subst e1
    obtain rfl := iv_lenE (n := 0) hln rfl
    exact iv_s_II k hf (fun w => lv_ishl hx hb hd w)
  | ishr =>
    have e1 := Sum.inl.inj (show (Sum.inl (iv_oII fun x y => x >>> (y &&& 31)) : iv_O) = .inl f from hop)
    subst e1
    obtain rfl := iv_lenE (n := 0) hln rfl
    exact iv_s_II k hf (fun w => lv_ishr hx hb hd w)
  | iushr =>
    have e1 := Sum.inl.inj (show (Sum.inl (iv_oII fun x y => (x.toUInt32 >>> (y.toUInt32 &&& Int32.toUInt32 31)).toInt32) : iv_O) = .inl f from hop)
    subst e1
    obtain rfl := iv_lenE (n := 0) hln rfl
    exact iv_s_II k hf (fun w => lv_iushr hx hb hd rfl w)
  | idiv =>
    have e1 := Sum.inl.inj (show (Sum.inl (iv_oDI fun x y => x / y) : iv_O) = .inl f from hop)
    subst e1
    obtain rfl := iv_lenE (n := 0) hln rfl
    exact iv_s_DI k hf (fun q w => lv_idiv hx hb hd q w)
  | irem =>
    have e1 := Sum.inl.inj (show (Sum.inl (iv_oDI fun x y => x - x / y * y) : iv_O) = .inl f from hop)
    subst e1
    obtain rfl := iv_lenE (n := 0) hln rfl
    exact iv_s_DI k hf (fun q w => lv_irem hx hb hd q w)
  | ladd =>
    have e1 := Sum.inl.inj (show (Sum.inl (iv_oJJ fun x y => x + y) : iv_O) = .inl f from hop)
    subst e1
    obtain rfl := iv_lenE (n := 0) hln rfl
    exact iv_s_JJ k hf (fun w => lv_ladd hx hb hd w)
  | lsub =>
    have e1 := Sum.inl.inj (show (Sum.inl (iv_oJJ fun x y => x - y) : iv_O) = .inl f from hop)
    subst e1
    obtain rfl := iv_lenE (n := 0) hln rfl
    exact iv_s_JJ k hf (fun w => lv_lsub hx hb hd w)
  | lmul =>
    have e1 := Sum.inl.inj (show (Sum.inl (iv_oJJ fun x y => x * y) : iv_O) = .inl f from hop)
    subst e1
    obtain rfl := iv_lenE (n := 0) hln rfl
    exact iv_s_JJ k hf (fun w => lv_lmul hx hb hd w)
  | land =>
    have e1 := Sum.inl.inj (show (Sum.inl (iv_oJJ fun x y => x &&& y) : iv_O) = .inl f from hop)
    subst e1
    obtain rfl := iv_lenE (n := 0) hln rfl
    exact iv_s_JJ k hf (fun w => lv_land hx hb hd w)
  | lor =>
    have e1 := Sum.inl.inj (show (Sum.inl (iv_oJJ fun x y => x ||| y) : iv_O) = .inl f from hop)
    subst e1
    obtain rfl := iv_lenE (n := 0) hln rfl
    exact iv_s_JJ k hf (fun w => lv_lor hx hb hd w)
  | lxor =>
    have e1 := Sum.inl.inj (show (Sum.inl (iv_oJJ fun x y => x ^^^ y) : iv_O) = .inl f from hop)
    subst e1
    obtain rfl := iv_lenE (n := 0) hln rfl
    exact iv_s_JJ k hf (fun w => lv_lxor hx hb hd w)
  | lshl =>
    have e1 := Sum.inl.inj (show (Sum.inl (iv_oJI fun x y => x <<< (y.toInt64 &&& 63)) : iv_O) = .inl f from hop)
    subst e1
    obtain rfl := iv_lenE (n := 0) hln rfl
    exact iv_s_JI k hf (fun w => lv_lshl hx hb hd rfl w)
  | lushr =>
    have e1 := Sum.inl.inj (show (Sum.inl (iv_oJI fun x y => (x.toUInt64 >>> (y.toInt64.toUInt64 &&& Int64.toUInt64 63)).toInt64) : iv_O) = .inl f from hop)
    subst e1
    obtain rfl := iv_lenE (n := 0) hln rfl
    exact iv_s_JI k hf (fun w => lv_lushr hx hb hd rfl w)
  | ldiv =>
    have e1 := Sum.inl.inj (show (Sum.inl (iv_oDJ fun x y => x / y) : iv_O) = .inl f from hop)
    subst e1
    obtain rfl := iv_lenE (n := 0) hln rfl
    exact iv_s_DJ k hf (fun q w => lv_ldiv hx hb hd q w)
  | lrem =>
    have e1 := Sum.inl.inj (show (Sum.inl (iv_oDJ fun x y => x - x / y * y) : iv_O) = .inl f from hop)
    subst e1
    obtain rfl := iv_lenE (n := 0) hln rfl
    exact iv_s_DJ k hf (fun q w => lv_lrem hx hb hd q w)
  | lcmp =>
    have e1 := Sum.inl.inj (show (Sum.inl (iv_oCmp) : iv_O) = .inl f from hop)
    subst e1
    obtain rfl := iv_lenE (n := 0) hln rfl
    exact iv_s_Cmp k hf (fun w => W.lcmp hx hb hd w)
  | i2l =>
    have e1 := Sum.inl.inj (show (Sum.inl (iv_oUI fun x => .long x.toInt64) : iv_O) = .inl f from hop)
    subst e1
    obtain rfl := iv_lenE (n := 0) hln rfl
    exact iv_s_UI k hf (fun w => lv_i2l hx hb hd rfl w)
  | i2c =>
    have e1 := Sum.inl.inj (show (Sum.inl (iv_oUI fun x => .int (x.toUInt32 % 65536).toInt32) : iv_O) = .inl f from hop)
    subst e1
    obtain rfl := iv_lenE (n := 0) hln rfl
    exact iv_s_UI k hf (fun w => lv_i2c hx hb hd rfl w)
  | ineg =>
    have e1 := Sum.inl.inj (show (Sum.inl (iv_oUI fun x => .int (-x)) : iv_O) = .inl f from hop)
    subst e1
    obtain rfl := iv_lenE (n := 0) hln rfl
    exact iv_s_UI k hf (fun w => lv_ineg hx hb hd w)
  | l2i =>
    have e1 := Sum.inl.inj (show (Sum.inl (iv_oL2I) : iv_O) = .inl f from hop)
    subst e1
    obtain rfl := iv_lenE (n := 0) hln rfl
    exact iv_s_L2I k hf (fun w => lv_l2i hx hb hd rfl w)
  | dup =>
    have e1 := Sum.inl.inj (show (Sum.inl (iv_oDup) : iv_O) = .inl f from hop)
    subst e1
    obtain rfl := iv_lenE (n := 0) hln rfl
    exact iv_s_Dup hx hb hd k hf
  | pop =>
    have e1 := Sum.inl.inj (show (Sum.inl (iv_oPop) : iv_O) = .inl f from hop)
    subst e1
    obtain rfl := iv_lenE (n := 0) hln rfl
    exact iv_s_Pop hx hb hd k hf
  | dup2 =>
    have e1 := Sum.inl.inj (show (Sum.inl (iv_oDup2) : iv_O) = .inl f from hop)
    subst e1
    obtain rfl := iv_lenE (n := 0) hln rfl
    exact iv_s_Dup2 hx hb hd k hf
  | goto off =>
    have e1 := Sum.inl.inj (show (Sum.inl (iv_oGo off) : iv_O) = .inl f from hop)
    subst e1
    obtain rfl := iv_lenE (n := 2) hln rfl
    exact iv_s_Go hx hb hd k hf
  | ifCond cd off =>
    have e1 := Sum.inl.inj (show (Sum.inl (iv_oIf cd off) : iv_O) = .inl f from hop)
    subst e1
    obtain rfl := iv_lenE (n := 2) hln rfl
    exact iv_s_If hx hb hd k hf
  | if_icmp cd off =>
    have e1 := Sum.inl.inj (show (Sum.inl (iv_oIc cd off) : iv_O) = .inl f from hop)
    subst e1
    obtain rfl := iv_lenE (n := 2) hln rfl
    exact iv_s_Ic hx hb hd k hf
  | if_acmp cd off =>
    obtain rfl := iv_lenE (n := 2) hln rfl
    cases cd with
    | ne =>
      have e1 := Sum.inl.inj (show (Sum.inl (iv_oAc off) : iv_O) = .inl f from hop)
      subst e1
      exact iv_s_Ac C' hd k hf
    | eq =>
      have e1 := Sum.inl.inj (show (Sum.inl iv_oN : iv_O) = .inl f from hop)
      subst e1
      exact (iv_oN_no hf).elim
  | tableswitch dflt lo hi offs =>
    have e1 := Sum.inl.inj (show (Sum.inl (iv_oTs dflt lo hi offs) : iv_O) = .inl f from hop)
    subst e1
    exact iv_s_Ts hx hb hd k hf
  | lookupswitch dflt ps =>
    have e1 := Sum.inl.inj (show (Sum.inl (iv_oLs dflt ps) : iv_O) = .inl f from hop)
    subst e1
    exact iv_s_Ls hx hb hd k hf
  | getfield kk =>
    obtain rfl := iv_lenE (n := 2) hln rfl
    have hop : iv_ofd own kk = .inl f := hop
    unfold iv_ofd at hop
    split at hop
    · rename_i ci j z h hq
      have e1 := Sum.inl.inj hop
      subst e1
      have hk := iv_lk_ok ho hq
      simp only [iv_lok, Bool.and_eq_true] at hk
      exact iv_s_GF C' (iv_blt hk.1) (iv_blt hk.2.1) (iv_w_in hk.2.2) hd k hf
    · rename_i z1 z2 z3 h hq
      have hk := iv_lk_ok ho hq
      simp only [iv_lok] at hk
      have e1 := Sum.inl.inj hop
      subst e1
      exact iv_s_Wt C' (iv_w_in hk) hd k hf
    · have e1 := Sum.inl.inj hop
      subst e1
      exact (iv_oN_no hf).elim
  | putfield kk =>
    obtain rfl := iv_lenE (n := 2) hln rfl
    have hop : iv_opf m0 own kk = .inl f := hop
    unfold iv_opf at hop
    split at hop
    · rename_i ci j z h hq
      have hk := iv_lk_ok ho hq
      simp only [iv_lok, Bool.and_eq_true] at hk
      cases hfi : (iv_T ci j).2.2.2
      · rw [hfi] at hop
        simp only [cond_true, cond_false] at hop
        have e1 := Sum.inl.inj hop
        subst e1
        exact iv_s_PF C' (iv_blt hk.1) (iv_blt hk.2.1) (iv_w_in hk.2.2) (Or.inl hfi) hd k hf
      · rw [hfi] at hop
        simp only [cond_true] at hop
        cases hii : (iv_mem m0 iv_ini && Nat.beq own (ci + 1)) <;> rw [hii] at hop <;> simp only [cond_true, cond_false] at hop
        · have e1 := Sum.inl.inj hop
          subst e1
          exact (iv_oN_no hf).elim
        · rw [Bool.and_eq_true] at hii
          have e1 := Sum.inl.inj hop
          subst e1
          have hdc := of_decide_eq_true (List.all_eq_true.mp (List.all_eq_true.mp iv_decl0 ci (List.mem_range.mpr (iv_blt hk.1))) j (List.mem_range.mpr (iv_blt hk.2.1)))
          rw [← Nat.eq_of_beq_eq_true hii.2] at hdc
          exact iv_s_PF C' (iv_blt hk.1) (iv_blt hk.2.1) (iv_w_in hk.2.2) (Or.inr ⟨hfi, hini hii.1, hdc⟩) hd k hf
    · have e1 := Sum.inl.inj hop
      subst e1
      exact (iv_oN_no hf).elim
  | iaload =>
    have e1 := Sum.inl.inj (show (Sum.inl (iv_oIl) : iv_O) = .inl f from hop)
    subst e1
    obtain rfl := iv_lenE (n := 0) hln rfl
    exact iv_s_Il C' hd k hf
  | laload =>
    have e1 := Sum.inl.inj (show (Sum.inl (iv_oJl) : iv_O) = .inl f from hop)
    subst e1
    obtain rfl := iv_lenE (n := 0) hln rfl
    exact iv_s_Jl C' hd k hf
  | baload =>
    have e1 := Sum.inl.inj (show (Sum.inl (iv_oZl) : iv_O) = .inl f from hop)
    subst e1
    obtain rfl := iv_lenE (n := 0) hln rfl
    exact iv_s_Zl C' hd k hf
  | aaload =>
    have e1 := Sum.inl.inj (show (Sum.inl (iv_oQl) : iv_O) = .inl f from hop)
    subst e1
    obtain rfl := iv_lenE (n := 0) hln rfl
    exact iv_s_Ql C' hd k hf
  | arraylength =>
    have e1 := Sum.inl.inj (show (Sum.inl (iv_oLen) : iv_O) = .inl f from hop)
    subst e1
    obtain rfl := iv_lenE (n := 0) hln rfl
    exact iv_s_Len C' hd k hf
  | iastore =>
    have e1 := Sum.inl.inj (show (Sum.inl (iv_oIst) : iv_O) = .inl f from hop)
    subst e1
    obtain rfl := iv_lenE (n := 0) hln rfl
    exact iv_s_Ist C' hd k hf
  | lastore =>
    have e1 := Sum.inl.inj (show (Sum.inl (iv_oJst) : iv_O) = .inl f from hop)
    subst e1
    obtain rfl := iv_lenE (n := 0) hln rfl
    exact iv_s_Jst C' hd k hf
  | bastore =>
    have e1 := Sum.inl.inj (show (Sum.inl (iv_oZst) : iv_O) = .inl f from hop)
    subst e1
    obtain rfl := iv_lenE (n := 0) hln rfl
    exact iv_s_Zst C' hd k hf
  | aastore =>
    have e1 := Sum.inl.inj (show (Sum.inl (iv_oQst) : iv_O) = .inl f from hop)
    subst e1
    obtain rfl := iv_lenE (n := 0) hln rfl
    exact iv_s_Qst C' hd k hf
  | new kk =>
    obtain rfl := iv_lenE (n := 2) hln rfl
    have hop : iv_onw own kk = .inl f := hop
    unfold iv_onw at hop
    split at hop
    · rename_i ci h1 h2 h hq
      have e1 := Sum.inl.inj hop
      subst e1
      have hk := iv_lk_ok ho hq
      simp only [iv_lok, Bool.and_eq_true] at hk
      exact absurd hne (al_New hf)
    · have e1 := Sum.inl.inj hop
      subst e1
      exact (iv_oN_no hf).elim
  | newarray t =>
    obtain rfl := iv_lenE (n := 1) hln rfl
    cases t with
    | int =>
      have e1 := Sum.inl.inj (show (Sum.inl (iv_oNa 0 (0, .inl (fun _ => 0))) : iv_O) = .inl f from hop)
      subst e1
      exact absurd hne (al_Na hf)
    | long =>
      have e1 := Sum.inl.inj (show (Sum.inl (iv_oNa 1 (0, .inr (.inl (fun _ => 0)))) : iv_O) = .inl f from hop)
      subst e1
      exact absurd hne (al_Na hf)
    | boolean =>
      have e1 := Sum.inl.inj (show (Sum.inl (iv_oNa 2 (0, .inl (fun _ => 0))) : iv_O) = .inl f from hop)
      subst e1
      exact absurd hne (al_Na hf)
    | _ =>
      have e1 := Sum.inl.inj (show (Sum.inl iv_oN : iv_O) = .inl f from hop)
      subst e1
      exact (iv_oN_no hf).elim
  | anewarray kk =>
    obtain rfl := iv_lenE (n := 2) hln rfl
    have hop : iv_onq own kk = .inl f := hop
    unfold iv_onq at hop
    split at hop
    · rename_i t z1 z2 h hq
      have hk := iv_lk_ok ho hq
      simp only [iv_lok] at hk
      cases ht : Nat.beq t 6 <;> rw [ht] at hop <;> simp only [cond_true, cond_false] at hop
      · have e1 := Sum.inl.inj hop
        subst e1
        exact (iv_oN_no hf).elim
      · have e1 := Sum.inl.inj hop
        subst e1
        exact absurd hne (al_Nq hf)
    · rename_i ci z1 z2 h hq
      have hk := iv_lk_ok ho hq
      simp only [iv_lok, Bool.and_eq_true] at hk
      have hci := iv_blt hk.1
      have hcl := iv_w_in hk.2.1
      cases ht : Nat.beq (iv_ta ci) 99 <;> rw [ht] at hop <;> simp only [cond_true, cond_false] at hop
      · have e1 := Sum.inl.inj hop
        subst e1
        have h3 : ci = 3 ∨ ci = 6 ∨ ci = 7 := by
          rcases ci with _ | _ | _ | _ | _ | _ | _ | _ | _ | _ | _ | _ | _ | ci
          all_goals first | (exact Or.inl rfl) | (exact Or.inr (Or.inl rfl)) | (exact Or.inr (Or.inr rfl)) | (exact absurd ht (by decide)) | (exact absurd hci (by omega))
        rcases h3 with rfl | rfl | rfl
        · exact absurd hne (al_Nq hf)
        · exact absurd hne (al_Nq hf)
        · exact absurd hne (al_Nq hf)
      · have e1 := Sum.inl.inj hop
        subst e1
        exact (iv_oN_no hf).elim
    · have e1 := Sum.inl.inj hop
      subst e1
      exact (iv_oN_no hf).elim
  | multianewarray kk z =>
    obtain rfl := iv_lenE (n := 3) hln rfl
    have hop2 : (bif Nat.beq z 2 then iv_onm own kk else .inl iv_oN) = .inl f := hop
    cases hz2 : Nat.beq z 2 <;> rw [hz2] at hop2 <;> simp only [cond_true, cond_false] at hop2
    · have e1 := Sum.inl.inj hop2
      subst e1
      exact (iv_oN_no hf).elim
    · have e2 := Nat.eq_of_beq_eq_true hz2
      subst e2
      unfold iv_onm at hop2
      split at hop2
      · rename_i z1 z2 z3 h hq
        have hk := iv_lk_ok ho hq
        simp only [iv_lok] at hk
        have e1 := Sum.inl.inj hop2
        subst e1
        exact absurd hne (al_Nm hf)
      · have e1 := Sum.inl.inj hop2
        subst e1
        exact (iv_oN_no hf).elim
  | getstatic kk =>
    obtain rfl := iv_lenE (n := 2) hln rfl
    have hop : iv_ogs own kk = .inl f := hop
    unfold iv_ogs at hop
    split at hop
    · rename_i a j z h hq
      have hk := iv_lk_ok ho hq
      simp only [iv_lok, Bool.and_eq_true] at hk
      have e1 := Sum.inl.inj hop
      subst e1
      have e2 := Nat.eq_of_beq_eq_true hk.2.1
      subst e2
      exact iv_s_SW C' (iv_blt hk.1) (iv_w_in hk.2.2) hd k hf
    · rename_i a j z h hq
      have hk := iv_lk_ok ho hq
      simp only [iv_lok, Bool.and_eq_true] at hk
      have e1 := Sum.inl.inj hop
      subst e1
      have e2 := Nat.eq_of_beq_eq_true hk.1
      subst e2
      exact iv_s_SM C' (iv_w_in hk.2) hd k hf
    · rename_i a j z h hq
      have hk := iv_lk_ok ho hq
      simp only [iv_lok, Bool.and_eq_true] at hk
      have e1 := Sum.inl.inj hop
      subst e1
      have e2 := Nat.eq_of_beq_eq_true hk.1
      subst e2
      exact iv_s_SA C' (iv_w_in hk.2) hd k hf
    · have e1 := Sum.inl.inj hop
      subst e1
      exact (iv_oN_no hf).elim
  | invokestatic kk =>
    obtain rfl := iv_lenE (n := 2) hln rfl
    have hop : iv_oss own kk = .inl f := hop
    unfold iv_oss at hop
    split at hop
    · rename_i z1 z2 z3 h hq
      have hk := iv_lk_ok ho hq
      simp only [iv_lok] at hk
      have e1 := Sum.inl.inj hop
      subst e1
      exact iv_s_Cp C' (iv_w_in hk) hd ⟨by omega, by omega⟩ k hf
    · rename_i z1 z2 z3 h hq
      have hk := iv_lk_ok ho hq
      simp only [iv_lok] at hk
      have e1 := Sum.inl.inj hop
      subst e1
      exact iv_s_MM k hf (fun h1 h8 w => va_mmax hx hb (hml.trans h1.symm) hown (hts _ (iv_w_in hk)) (hts _ (iv_glob 14 rfl)) (hts _ (iv_glob 20 rfl)) (hts _ (iv_glob 17 rfl)) (show 1 ≤ R.frames by omega) (by rw [iv_cs_eq]; have := hR.2; omega) (by omega) (by omega) hd w)
    · rename_i z1 z2 z3 h hq
      have hk := iv_lk_ok ho hq
      simp only [iv_lok] at hk
      have e1 := Sum.inl.inj hop
      subst e1
      exact iv_s_MM k hf (fun h1 h8 w => va_mmin hx hb (hml.trans h1.symm) hown (hts _ (iv_w_in hk)) (hts _ (iv_glob 15 rfl)) (hts _ (iv_glob 20 rfl)) (hts _ (iv_glob 18 rfl)) (show 1 ≤ R.frames by omega) (by rw [iv_cs_eq]; have := hR.2; omega) (by omega) (by omega) hd w)
    · rename_i z1 z2 z3 h hq
      have hk := iv_lk_ok ho hq
      simp only [iv_lok] at hk
      have e1 := Sum.inl.inj hop
      subst e1
      exact iv_s_Ab C' (iv_w_in hk) hd ⟨by omega, by omega⟩ (by omega) (by omega) k hf
    · cases hop
    · have e1 := Sum.inl.inj hop
      subst e1
      exact (iv_oN_no hf).elim
  | invokespecial kk =>
    obtain rfl := iv_lenE (n := 2) hln rfl
    have hop : iv_osp own kk = .inl f := hop
    unfold iv_osp at hop
    split at hop
    · rename_i z1 z2 z3 h hq
      have hk := iv_lk_ok ho hq
      simp only [iv_lok] at hk
      have e1 := Sum.inl.inj hop
      subst e1
      exact iv_s_Ob C' (iv_w_in hk) hd ⟨by omega, by omega⟩ k hf
    · cases hop
    · cases hop
    · have e1 := Sum.inl.inj hop
      subst e1
      exact (iv_oN_no hf).elim
  | invokevirtual kk =>
    obtain rfl := iv_lenE (n := 2) hln rfl
    have hop : iv_ovi own kk = .inl f := hop
    unfold iv_ovi at hop
    split at hop
    · rename_i z1 z2 z3 h hq
      have hk := iv_lk_ok ho hq
      simp only [iv_lok] at hk
      have e1 := Sum.inl.inj hop
      subst e1
      exact iv_s_Ord C' (iv_w_in hk) hd ⟨by omega, by omega⟩ (by omega) (by omega) k hf
    · rename_i z1 z2 z3 h hq
      have hk := iv_lk_ok ho hq
      simp only [iv_lok] at hk
      have e1 := Sum.inl.inj hop
      subst e1
      exact iv_s_Sl C' (iv_w_in hk) hd hR (by omega) (by omega) k hf
    · rename_i z1 z2 z3 h hq
      have hk := iv_lk_ok ho hq
      simp only [iv_lok] at hk
      have e1 := Sum.inl.inj hop
      subst e1
      exact iv_s_Sc C' (iv_w_in hk) hd hR (by omega) (by omega) k hf
    · rename_i z1 z2 z3 h hq
      have hk := iv_lk_ok ho hq
      simp only [iv_lok] at hk
      have e1 := Sum.inl.inj hop
      subst e1
      exact iv_s_Si C' (iv_w_in hk) hd hR (by omega) (by omega) k hf
    · cases hop
    · have e1 := Sum.inl.inj hop
      subst e1
      exact (iv_oN_no hf).elim
  | ireturn =>
    have hop : (match ret with | some .int => (.inr (.inl 1) : iv_O) | some .boolean => .inr (.inl 2) | _ => .inl iv_oN) = .inl f := hop
    split at hop <;> cases hop
    all_goals exact (iv_oN_no hf).elim
  | lreturn =>
    have hop : (match ret with | some .long => (.inr (.inl 3) : iv_O) | _ => .inl iv_oN) = .inl f := hop
    split at hop <;> cases hop
    all_goals exact (iv_oN_no hf).elim
  | areturn =>
    have hop : (match ret with | some (.object _) => (.inr (.inl 4) : iv_O) | _ => .inl iv_oN) = .inl f := hop
    split at hop <;> cases hop
    all_goals exact (iv_oN_no hf).elim
  | return_ =>
    have hop : (match ret with | none => (.inr (.inl 0) : iv_O) | _ => .inl iv_oN) = .inl f := hop
    split at hop <;> cases hop
    all_goals exact (iv_oN_no hf).elim
  | _ =>
    have e1 := Sum.inl.inj (show (Sum.inl iv_oN : iv_O) = .inl f from hop)
    subst e1
    exact (iv_oN_no hf).elim
end IVO
def iv_PcN (ad cy : Nat → Nat) (D : va_G) (base L : Nat) (xs : Nat → Int32) (as : List Value) (σ : iv_H) : Array Value → State → Prop := fun a st => a = (iv_sm ad as).toArray ∧ iv_K ad cy D base L xs st ∧ va_P D vwCl (iv_W ad cy σ) st.heap
def iv_MetN (l : Launch) (ad cy : Nat → Nat) (D : va_G) (base L : Nat) (xs : Nat → Int32) (d M : Nat) (as : List Value) (σ : iv_H) (r : Option Value) (σ' : iv_H) : Prop := Met l (iv_y M) (iv_ws M) (iv_rm d 0 0) (iv_PcN ad cy D base L xs as σ) (iv_Qc ad cy D base r σ') 0 0 (iv_A base)
def iv_BodyN (l : Launch) (ad cy : Nat → Nat) (D : va_G) (base L : Nat) (xs : Nat → Int32) (d M pc : Nat) (lv : iv_L) (st : List Value) (σ : iv_H) (r : Option Value) (σ' : iv_H) : Prop :=
  (σ.1 ≤ σ'.1 ∧ σ.2.2 ≤ σ'.2.2) ∧ (σ'.1 = σ.1 → σ'.2.2 = σ.2.2 → ∀ {p : Program} {e : Env} {R : Room} {s : State} {m : MethodId} {args : Array Value} {below : List Frame} {meth : Method} {c : Code} {Q : State → Prop} {c0 n0 : Nat}, iv_C0 ad cy D base L xs p s m args meth c (iv_c M) (iv_m M).2.2.1 (iv_m M).2.1 (iv_y M).name → d + 8 ≤ R.frames → 60 * (d + 8) ≤ R.locals → σ.1 - c0 ≤ R.cells → σ.2.2 - n0 ≤ R.slots →
    (∀ (pc2 k len : Nat) (st2 : List Value) (lv2 : iv_L) (i : Instr), decode (iv_c M) pc2 = .ok (i, len) → iv_lnok i len = true → iv_op M (iv_m M).2.1 (iv_m M).2.2.1 (iv_m M).2.2.2.1 i = .inr (.inl k) → iv_rt k st2 σ' = some (r, σ') → iv_Nx ad cy D base c0 n0 (iv_m M).2.2.1 p l e R s m args below meth c Q pc2 lv2 st2 σ') → iv_Nx ad cy D base c0 n0 (iv_m M).2.2.1 p l e R s m args below meth c Q pc lv st σ)
theorem iv_blindN {ad cy : Nat → Nat} {D : va_G} {base L : Nat} {xs : Nat → Int32} {as : List Value} {σ : iv_H} : FrameBlind (iv_PcN ad cy D base L xs as σ) := fun a U g mk q => ⟨q.1, iv_K_to q.2.1 (State.WarmedH.refl U) (Nat.le_refl _) (fun _ _ _ => rfl), q.2.2⟩
set_option maxHeartbeats 1000000 in
theorem iv_metN {l : Launch} {ad cy : Nat → Nat} {D : va_G} {base L : Nat} {xs : Nat → Int32} {d M : Nat} {as : List Value} {σ σ' : iv_H} {r : Option Value} (hM : M < iv_n) (hcs : iv_cs as ≤ (iv_m M).2.2.1) (hB : iv_BodyN l ad cy D base L xs d M 0 (lv_args 0 as) [] σ r σ') (hq1 : σ'.1 = σ.1) (hq2 : σ'.2.2 = σ.2.2) : iv_MetN l ad cy D base L xs d M as σ r σ' := by
  obtain ⟨hmo, hB⟩ := hB
  have hB := fun {p e R s m args below meth c Q c0 n0} => @hB hq1 hq2 p e R s m args below meth c Q c0 n0
  obtain ⟨b1, b2, b3, b4, b5, b6, b7⟩ := iv_mfacts hM
  refine Met.ofW (cc := iv_c M) (maxL := (iv_m M).2.2.1) (ret := (iv_m M).2.2.2.1) b2 rfl ?_
  intro p e s m args below meth c s₁ B hml hv
  obtain ⟨rfl, hK, hP⟩ := hv
  have hx := B.exec
  have hb := B.bytes
  have hr := B.returns
  have hts0 := atoms_spec (ws := iv_ws M) B.pre
  have hts : ∀ w ∈ iv_G, w.before (iv_sm ad as).toArray s = true := fun w hw => hts0 w (List.mem_cons_of_mem _ hw)
  have hown : s.vm.findClass (iv_R (iv_m M).2.1) = some m.cls := by rw [b5]; exact findClass_of_methodNamed B.named
  have hlocks := B.notSynchronized
  have hnm : meth.name = (iv_y M).name := (name_of_methodNamed B.named B.method).1
  have hl := lv_entry (iv_sm ad as) (n := (iv_m M).2.2.1) (by rw [iv_lgl]; exact hcs)
  rw [lg_entry_eq]
  rw [iv_largs] at hl
  have N := hB (p := p) (e := e) (R := iv_rm d 0 0) (s := s) (m := m) (args := (iv_sm ad as).toArray) (below := below) (meth := meth) (c := c) (Q := MQ below (iv_Qc ad cy D base r σ') (iv_sm ad as).toArray s 0 0 (iv_A base)) (c0 := σ.1) (n0 := σ.2.2) ⟨hx, hb, hml, hown, hts, hK, fun h9 => hnm.trans h9⟩ (Nat.le_refl _) (Nat.le_refl _) (by rw [Nat.sub_self]; exact Nat.le_refl _) (by rw [Nat.sub_self]; exact Nat.le_refl _) ?_
  · have N2 := N s.heap [] _ hl hP va_S.rf
    exact W.cs (Nat.sub_self _).symm (Nat.sub_self _).symm N2
  · intro pc2 k len st2 lv2 i hd hln hop hrt H locs ls hvv hP2 hS2
    refine W.cs (show σ'.1 - σ.1 = 0 by omega) (show σ'.2.2 - σ.2.2 = 0 by omega) ?_
    have hq : ∀ t : State, t.heap = H → iv_Qc ad cy D base r σ' (iv_sm ad as).toArray s (.returned (r.map (iv_v ad))) t := fun t ht => ⟨rfl, by rw [ht]; exact hP2, hS2.F ht⟩
    rcases iv_ret_of hop with ⟨rfl, h2, rfl⟩ | ⟨rfl, h2, rfl⟩ | ⟨rfl, h2, rfl⟩ | ⟨rfl, h2, rfl⟩ | ⟨rfl, ⟨C9, h2⟩, rfl⟩
    · obtain rfl := iv_lenE (n := 0) hln rfl
      rcases st2 with _ | ⟨v, st2⟩
      · have e1 : none = r := (Prod.mk.inj (Option.some.inj hrt)).1
        subst e1
        exact W.vret hx hb (hr.trans h2) (fun t ht _ => hq t ht) hS2.2.2 hd
      · cases hrt
    · obtain rfl := iv_lenE (n := 0) hln rfl
      rcases st2 with _ | ⟨v, _ | ⟨w, st2⟩⟩
      · cases hrt
      · cases v with
        | int v =>
          have e1 : some (Value.int v) = r := (Prod.mk.inj (Option.some.inj hrt)).1
          subst e1
          exact W.iret hx hb (hr.trans h2) (fun t ht _ => hq t ht) hS2.2.2 hd
        | _ => cases hrt
      · cases v <;> cases hrt
    · obtain rfl := iv_lenE (n := 0) hln rfl
      rcases st2 with _ | ⟨v, _ | ⟨w, st2⟩⟩
      · cases hrt
      · cases v with
        | int v =>
          have hrt : (bif decide (v = 0) || decide (v = 1) then some (some (Value.int v), σ') else none) = some (r, σ') := hrt
          cases hb9 : (decide (v = 0) || decide (v = 1)) <;> rw [hb9] at hrt
          · cases hrt
          · have e1 : some (Value.int v) = r := (Prod.mk.inj (Option.some.inj hrt)).1
            subst e1
            have hnr : narrow .boolean (.int v) = .int v := (iv_fit_ok ad (ty := .boolean) (v := .int v) hb9).1
            exact W.zret hx hb (hr.trans h2) hnr (fun t ht _ => hq t ht) hS2.2.2 hd
        | _ => cases hrt
      · cases v <;> cases hrt
    · obtain rfl := iv_lenE (n := 0) hln rfl
      rcases st2 with _ | ⟨v, _ | ⟨w, st2⟩⟩
      · cases hrt
      · cases v with
        | long v =>
          have e1 : some (Value.long v) = r := (Prod.mk.inj (Option.some.inj hrt)).1
          subst e1
          exact W.lret hx hb (hr.trans h2) (fun t ht _ => hq t ht) hS2.2.2 hd
        | _ => cases hrt
      · cases v <;> cases hrt
    · obtain rfl := iv_lenE (n := 0) hln rfl
      rcases st2 with _ | ⟨v, _ | ⟨w, st2⟩⟩
      · cases hrt
      · cases v with
        | ref v =>
          have e1 : some (Value.ref v) = r := (Prod.mk.inj (Option.some.inj hrt)).1
          subst e1
          exact W.aret hx hb (hr.trans h2) (Or.inl ⟨C9, rfl⟩) (Or.inr ⟨ad v, rfl⟩) (fun t ht _ => hq t ht) hS2.2.2 hd
        | _ => cases hrt
      · cases v <;> cases hrt
set_option maxHeartbeats 4000000 in
theorem iv_soundN (l : Launch) (ad cy : Nat → Nat) (D : va_G) (base L : Nat) (xs : Nat → Int32) : ∀ (n d M pc : Nat) (lv : iv_L) (st : List Value) (σ : iv_H) (r : Option Value) (σ' : iv_H), M ≤ iv_n → iv_run L xs n d M pc lv st σ = some (r, σ') → iv_BodyN l ad cy D base L xs d M pc lv st σ r σ' := by
  intro n
  induction n with
  | zero => intro d M pc lv st σ r σ' hM h; cases h
  | succ n ih =>
    intro d M pc lv st σ r σ' hM h
    rw [iv_run_s] at h
    unfold iv_step at h
    split at h
    · rename_i o ho
      obtain ⟨i, len, hd, hln, hop, hlx⟩ := iv_fetch (iv_cok_any hM) (iv_lw_any hM) ho
      have hown9 := iv_own_any hM
      have hini9 : iv_mem M iv_ini = true → (iv_y M).name = "<init>" := fun h9 => iv_ini_ok0 M (iv_mem_in _ h9)
      unfold iv_do at h
      split at h
      · rename_i f
        unfold iv_go1 at h
        split at h
        · rename_i pc' lv' st' σ1 hf
          rw [iv_fp_eq] at h
          obtain ⟨hmo, hB⟩ := ih d M pc' lv' st' σ1 r σ' hM h
          have hm1 := iv_op_mo hop L xs pc lv st σ pc' lv' st' σ1 hf
          refine ⟨⟨Nat.le_trans hm1.1 hmo.1, Nat.le_trans hm1.2 hmo.2⟩, ?_⟩
          intro hq1 hq2 p e R s m args below meth c Q c0 n0 C hRf hRl hRc hRs hret
          exact iv_op_okN hown9 hini9 C hd hln hlx hop hf (by omega) ⟨by omega, by omega⟩ (by omega) (by omega) hm1 (hB (by omega) (by omega) C hRf hRl (by omega) (by omega) hret)
        · cases h
      · rename_i k
        have e9 := iv_rt_eq h
        subst e9
        refine ⟨⟨Nat.le_refl _, Nat.le_refl _⟩, ?_⟩
        intro hq1 hq2 p e R s m args below meth c Q c0 n0 C hRf hRl hRc hRs hret
        exact hret pc k len st lv i hd hln hop h
      · rename_i kind mm nn ci
        unfold iv_cl at h
        split at h
        · rename_i as rest d' hq
          rw [Bool.cond_eq_ite] at h
          split at h
          · rename_i hcs
            have hcs := Nat.le_of_ble_eq_true hcs
            split at h
            · rename_i r1 σ1 hrun
              rw [iv_fp_eq] at h
              obtain ⟨hmo2, hB2⟩ := ih (d' + 1) M (pc + 3) lv (r1.toList ++ rest) σ1 r σ' hM h
              obtain ⟨kx, z9, h9, hcall⟩ := iv_call_of hop
              have hmm : mm < iv_n := by
                rcases hcall with ⟨-, -, q⟩ | ⟨-, -, q⟩ | ⟨-, -, q⟩ | ⟨-, -, q⟩
                all_goals
                  have hk := iv_lk_ok hown9 q
                  simp only [iv_lok, Bool.and_eq_true] at hk
                  exact iv_blt hk.1
              have hB1 := ih d' mm 0 (lv_args 0 as) [] σ r1 σ1 (Nat.le_of_lt hmm) hrun
              have hmo1 := hB1.1
              obtain ⟨b1, b2, b3, b4, b5, b6, b7⟩ := iv_mfacts hmm
              refine ⟨⟨Nat.le_trans hmo1.1 hmo2.1, Nat.le_trans hmo1.2 hmo2.2⟩, ?_⟩
              intro hq1 hq2 p e R s m args below meth c Q c0 n0 C hRf hRl hRc hRs hret
              have hMet := iv_metN hmm hcs hB1 (by omega) (by omega)
              unfold iv_MetN at hMet
              have N2 := hB2 (by omega) (by omega) C hRf hRl (by omega) (by omega) hret
              obtain ⟨hx, hb, hml, hown, hts, hK, hnm⟩ := C
              have had := hK.2.2.2.2.2
              intro H locs ls hvv hP hS
              have hRoom : (iv_rm d' 0 0).frames + 1 ≤ R.frames ∧ 8 + ((iv_m mm).2.2.1 + 11) + (iv_rm d' 0 0).locals ≤ R.locals := by
                refine ⟨by show d' + 8 + 1 ≤ _; omega, ?_⟩
                exact iv_room8 b4 hRl
              have hfit : (σ.1 - c0) + 0 ≤ R.cells ∧ (σ.2.2 - n0) + 0 ≤ R.slots := ⟨by omega, by omega⟩
              have hPre : ∀ U : State, U.heap = H → s.WarmedH U.vm → iv_PcN ad cy D base L xs as σ (iv_sm ad as).toArray U := fun U hU hW => ⟨rfl, iv_K_to hK hW (by rw [hU]; exact hS.1) (fun q h1 h2 => by rw [hU]; exact hS.2.1 q h1 h2), by rw [hU]; exact hP⟩
              have hkk : ∀ (H1 : Heap) (locs1 : List Loc), va_P D vwCl (iv_W ad cy σ1) H1 → va_S (iv_A base) s.heap H1 locs1 → W p l e R s m args below meth c H1 locs1 ((σ.1 - c0) + 0) ((σ.2.2 - n0) + 0) Q (F0 m (pc + 3) ls ((r1.map (iv_v ad)).toList ++ iv_sm ad rest)) := fun H1 locs1 hP1 hS1 => by
                rw [iv_ret_l]
                exact W.cs (by omega) (by omega) (N2 H1 locs1 ls hvv hP1 hS1)
              unfold iv_args at hq
              split at hq
              · cases hq
              · rename_i as0 rest0 hpop
                obtain ⟨pre, g1, g2, g3⟩ := iv_pop_ok nn st [] as0 rest0 hpop
                rw [List.append_nil] at g2
                have hlen0 : as0.length = nn := by rw [g2, List.length_reverse]; exact g3
                have hst0 : iv_sm ad st = (iv_sm ad as0).reverse ++ iv_sm ad rest0 := by rw [g1, g2, iv_sm_app, iv_sm_rev, List.reverse_reverse]
                rcases hcall with ⟨rfl, rfl, q⟩ | ⟨rfl, rfl, q⟩ | ⟨rfl, rfl, q⟩ | ⟨rfl, rfl, q⟩
                · have hk := iv_lk_ok hown9 q
                  simp only [iv_lok, Bool.and_eq_true] at hk
                  obtain rfl := iv_lenE (n := 2) hln rfl
                  rw [show Nat.beq 4 4 = true from rfl] at hq
                  simp only [cond_true] at hq
                  rw [Bool.cond_eq_ite] at hq
                  split at hq
                  · rename_i h8
                    have h8 := Nat.le_of_ble_eq_true h8
                    cases hq
                    have hb3 := b3.2.2
                    rw [Nat.eq_of_beq_eq_true hk.2.1] at hb3
                    refine iv_callW (va_runS (As := iv_sm ad as) (rest := iv_sm ad rest) ⟨hx, hb, hml, hown, hts⟩ hMet ⟨callB_of nn hts (iv_ws_good hmm) rfl rfl rfl (hts _ b1) (hts _ (iv_w_in hk.2.2.2)) ⟨b3.1, b3.2.1, hb3⟩ hRoom, hts _ (b6 hk.2.2.1)⟩ ⟨iv_blindN, hPre⟩ rfl (by rw [List.length_map]; exact hlen0) hvv.1 hst0 (lv_room (by rw [iv_cs_eq]; exact h8)) hd hfit) hS hkk
                  · cases hq
                · have hk := iv_lk_ok hown9 q
                  simp only [iv_lok, Bool.and_eq_true] at hk
                  obtain rfl := iv_lenE (n := 2) hln rfl
                  rw [show Nat.beq 5 4 = false from rfl] at hq
                  simp only [cond_false] at hq
                  split at hq
                  · rename_i a r9
                    rw [Bool.cond_eq_ite] at hq
                    split at hq
                    · rename_i h8
                      have h8 := Nat.le_of_ble_eq_true h8
                      rw [show Nat.beq 5 6 = false from rfl] at hq
                      simp only [cond_false] at hq
                      cases hq
                      have hb3 := b3.2.2
                      rw [Nat.eq_of_beq_eq_true hk.2.1] at hb3
                      have hrn := of_decide_eq_true hk.2.2.2.2.2
                      refine iv_callW (va_runI (As := iv_sm ad as0) (rest := iv_sm ad rest) (b := ad a) (maxL := (iv_m mm).2.2.1) (bytes := iv_c mm) ⟨hx, hb, hml, hown, hts⟩ hMet ⟨callB_of nn hts (iv_ws_good hmm) (by unfold iv_ws; rw [hrn]) rfl rfl (hts _ b1) (hts _ (iv_w_in hk.2.2.2.1)) ⟨b3.1, b3.2.1, hb3⟩ hRoom, of_decide_eq_true hk.2.2.2.2.1, hts _ (b7 (by rw [Nat.eq_of_beq_eq_true hk.2.2.1]; rfl))⟩ ⟨iv_blindN, hPre⟩ rfl (by rw [List.length_map]; exact hlen0) hvv.1 hst0 (lv_room (by rw [iv_cs_eq]; exact h8)) hd hfit) hS hkk
                    · cases hq
                  · cases hq
                · have hk := iv_lk_ok hown9 q
                  simp only [iv_lok, Bool.and_eq_true] at hk
                  obtain rfl := iv_lenE (n := 2) hln rfl
                  rw [show Nat.beq 7 4 = false from rfl] at hq
                  simp only [cond_false] at hq
                  split at hq
                  · rename_i a r9
                    rw [Bool.cond_eq_ite] at hq
                    split at hq
                    · rename_i h8
                      have h8 := Nat.le_of_ble_eq_true h8
                      rw [show Nat.beq 7 6 = false from rfl] at hq
                      simp only [cond_false] at hq
                      cases hq
                      have hb3 := b3.2.2
                      rw [Nat.eq_of_beq_eq_true hk.2.1] at hb3
                      have hrn := of_decide_eq_true hk.2.2.2.2.2
                      refine iv_callW (va_runIN (As := iv_sm ad as0) (rest := iv_sm ad rest) (b := ad a) (maxL := (iv_m mm).2.2.1) (bytes := iv_c mm) ⟨hx, hb, hml, hown, hts⟩ hMet ⟨va_cnB nn hts (iv_ws_good hmm) (by unfold iv_ws; rw [hrn]) rfl rfl (hK.1.2.1 _ (of_decide_eq_true hk.2.2.2.1)) (hts _ b1) ⟨b3.1, b3.2.1, hb3⟩ hRoom, of_decide_eq_true hk.2.2.2.2.1, hts _ (b7 (by rw [Nat.eq_of_beq_eq_true hk.2.2.1]; rfl))⟩ ⟨iv_blindN, hPre⟩ rfl (by rw [List.length_map]; exact hlen0) hvv.1 hst0 (lv_room (by rw [iv_cs_eq]; exact h8)) hd hfit) hS hkk
                    · cases hq
                  · cases hq
                · have hk := iv_lk_ok hown9 q
                  simp only [iv_lok, Bool.and_eq_true] at hk
                  obtain rfl := iv_lenE (n := 2) hln rfl
                  rw [show Nat.beq 6 4 = false from rfl] at hq
                  simp only [cond_false] at hq
                  split at hq
                  · rename_i a r9
                    rw [Bool.cond_eq_ite] at hq
                    split at hq
                    · rename_i h8
                      have h8 := Nat.le_of_ble_eq_true h8
                      rw [show Nat.beq 6 6 = true from rfl] at hq
                      simp only [cond_true] at hq
                      split at hq
                      · rename_i c2 fs hg
                        rw [Bool.cond_eq_ite] at hq
                        split at hq
                        · rename_i hc2
                          have hc2 := Nat.eq_of_beq_eq_true hc2
                          subst hc2
                          cases hq
                          obtain ⟨k0, rfl, hk0, he⟩ := iv_get_ok hg
                          have hat := iv_W_at (ad := ad) (cy := cy) hk0
                          rw [he] at hat
                          have hci := iv_blt hk.2.2.2.2.1
                          have hcls := of_decide_eq_true hk.2.2.2.2.2.1
                          have hb3 := b3.2.2
                          rw [Nat.eq_of_beq_eq_true hk.2.1] at hb3
                          have hrec := va_recv hK.1.1 hP (iv_cl_at ci hci) hat
                          rw [show (iv_C ci, iv_T ci, iv_fn ci).1 = (iv_y mm).cls from hcls.symm] at hrec
                          refine iv_callW (va_runV (As := iv_sm ad as0) (rest := iv_sm ad rest) (b := ad (2 * k0)) (C := (iv_y mm).cls) ⟨hx, hb, hml, hown, hts⟩ hMet ⟨callB_of nn hts (iv_ws_good hmm) rfl rfl rfl (hts _ b1) (hts _ (iv_w_in hk.2.2.2.1)) ⟨b3.1, b3.2.1, hb3⟩ hRoom, hts _ (b7 (by rw [Nat.eq_of_beq_eq_true hk.2.2.1]; rfl)), hts _ (iv_w_in hk.2.2.2.2.2.2)⟩ ⟨iv_blindN, hrec, hPre⟩ rfl (by rw [List.length_map]; exact hlen0) hvv.1 hst0 (lv_room (by rw [iv_cs_eq]; exact h8)) hd hfit) hS hkk
                        · cases hq
                      · rw [Bool.cond_eq_ite] at hq
                        split at hq
                        · rename_i hc2
                          rw [Bool.and_eq_true] at hc2
                          have hc10 := Nat.eq_of_beq_eq_true hc2.1
                          subst hc10
                          obtain ⟨j0, hj0, rfl⟩ := iv_isW_of hc2.2
                          cases hq
                          have hcls := of_decide_eq_true hk.2.2.2.2.2.1
                          have hb3 := b3.2.2
                          rw [Nat.eq_of_beq_eq_true hk.2.1] at hb3
                          have hrec := va_recvE (ad := fun j => ad (2 * j + 3)) (i := j0) hK.2.1.1 hj0 hS
                          rw [show RX11 = (iv_y mm).cls from hcls.symm] at hrec
                          refine iv_callW (va_runV (As := iv_sm ad as0) (rest := iv_sm ad rest) (b := ad (2 * j0 + 3)) (C := (iv_y mm).cls) ⟨hx, hb, hml, hown, hts⟩ hMet ⟨callB_of nn hts (iv_ws_good hmm) rfl rfl rfl (hts _ b1) (hts _ (iv_w_in hk.2.2.2.1)) ⟨b3.1, b3.2.1, hb3⟩ hRoom, hts _ (b7 (by rw [Nat.eq_of_beq_eq_true hk.2.2.1]; rfl)), hts _ (iv_w_in hk.2.2.2.2.2.2)⟩ ⟨iv_blindN, hrec, hPre⟩ rfl (by rw [List.length_map]; exact hlen0) hvv.1 hst0 (lv_room (by rw [iv_cs_eq]; exact h8)) hd hfit) hS hkk
                        · cases hq
                      · cases hq
                    · cases hq
                  · cases hq
            · cases h
          · cases h
        · cases h
    · cases h
section IVQ
variable {p : Program} {l : Launch} {e : Env} {R : Room} {s : State} {m : MethodId} {args : Array Value} {below : List Frame} {meth : Method} {c : Code} {Q : State → Prop} {ad cy : Nat → Nat} {D : va_G} {base L : Nat} {xs : Nat → Int32} {c0 n0 : Nat}
set_option maxHeartbeats 4000000 in
theorem iv_one_cN {M d' pc len kind mm nn ci : Nat} {lv : iv_L} {st as rest : List Value} {σ σ1 : iv_H} {r1 : Option Value} {i : Instr} (hM : M ≤ iv_n) (hd : decode (iv_c M) pc = .ok (i, len)) (hln : iv_lnok i len = true) (hop : iv_op M (iv_m M).2.1 (iv_m M).2.2.1 (iv_m M).2.2.2.1 i = .inr (.inr (kind, mm, nn, ci))) (hq : iv_args kind nn ci st σ = some (as, rest)) (hcs : iv_cs as ≤ (iv_m mm).2.2.1) (hB1 : iv_BodyN l ad cy D base L xs d' mm 0 (lv_args 0 as) [] σ r1 σ1)
    (C : iv_C0 ad cy D base L xs p s m args meth c (iv_c M) (iv_m M).2.2.1 (iv_m M).2.1 (iv_y M).name) (hq1 : σ1.1 = σ.1) (hq2 : σ1.2.2 = σ.2.2) (hRf : d' + 1 + 8 ≤ R.frames) (hRl : 60 * (d' + 1 + 8) ≤ R.locals) (hRc : σ.1 - c0 ≤ R.cells) (hRs : σ.2.2 - n0 ≤ R.slots) (N2 : iv_Nx ad cy D base c0 n0 (iv_m M).2.2.1 p l e R s m args below meth c Q (pc + 3) lv (r1.toList ++ rest) σ1) : iv_Nx ad cy D base c0 n0 (iv_m M).2.2.1 p l e R s m args below meth c Q pc lv st σ := by
  have hown9 := iv_own_any hM
  obtain ⟨kx, z9, h9, hcall⟩ := iv_call_of hop
  have hmm : mm < iv_n := by
    rcases hcall with ⟨-, -, q⟩ | ⟨-, -, q⟩ | ⟨-, -, q⟩ | ⟨-, -, q⟩
    all_goals
      have hk := iv_lk_ok hown9 q
      simp only [iv_lok, Bool.and_eq_true] at hk
      exact iv_blt hk.1
  have hMet := iv_metN hmm hcs hB1 hq1 hq2
  unfold iv_MetN at hMet
  have hmo1 := hB1.1
  obtain ⟨b1, b2, b3, b4, b5, b6, b7⟩ := iv_mfacts hmm
  obtain ⟨hx, hb, hml, hown, hts, hK, hnm⟩ := C
  have had := hK.2.2.2.2.2
  intro H locs ls hvv hP hS
  have hRoom : (iv_rm d' 0 0).frames + 1 ≤ R.frames ∧ 8 + ((iv_m mm).2.2.1 + 11) + (iv_rm d' 0 0).locals ≤ R.locals := by
    refine ⟨by show d' + 8 + 1 ≤ _; omega, ?_⟩
    exact iv_room8 b4 hRl
  have hfit : (σ.1 - c0) + 0 ≤ R.cells ∧ (σ.2.2 - n0) + 0 ≤ R.slots := ⟨by omega, by omega⟩
  have hPre : ∀ U : State, U.heap = H → s.WarmedH U.vm → iv_PcN ad cy D base L xs as σ (iv_sm ad as).toArray U := fun U hU hW => ⟨rfl, iv_K_to hK hW (by rw [hU]; exact hS.1) (fun q h1 h2 => by rw [hU]; exact hS.2.1 q h1 h2), by rw [hU]; exact hP⟩
  have hkk : ∀ (H1 : Heap) (locs1 : List Loc), va_P D vwCl (iv_W ad cy σ1) H1 → va_S (iv_A base) s.heap H1 locs1 → W p l e R s m args below meth c H1 locs1 ((σ.1 - c0) + 0) ((σ.2.2 - n0) + 0) Q (F0 m (pc + 3) ls ((r1.map (iv_v ad)).toList ++ iv_sm ad rest)) := fun H1 locs1 hP1 hS1 => by
    rw [iv_ret_l]
    exact W.cs (by omega) (by omega) (N2 H1 locs1 ls hvv hP1 hS1)
  unfold iv_args at hq
  split at hq
  · cases hq
  · rename_i as0 rest0 hpop
    obtain ⟨pre, g1, g2, g3⟩ := iv_pop_ok nn st [] as0 rest0 hpop
    rw [List.append_nil] at g2
    have hlen0 : as0.length = nn := by rw [g2, List.length_reverse]; exact g3
    have hst0 : iv_sm ad st = (iv_sm ad as0).reverse ++ iv_sm ad rest0 := by rw [g1, g2, iv_sm_app, iv_sm_rev, List.reverse_reverse]
    rcases hcall with ⟨rfl, rfl, q⟩ | ⟨rfl, rfl, q⟩ | ⟨rfl, rfl, q⟩ | ⟨rfl, rfl, q⟩
    · have hk := iv_lk_ok hown9 q
      simp only [iv_lok, Bool.and_eq_true] at hk
      obtain rfl := iv_lenE (n := 2) hln rfl
      rw [show Nat.beq 4 4 = true from rfl] at hq
      simp only [cond_true] at hq
      rw [Bool.cond_eq_ite] at hq
      split at hq
      · rename_i h8
        have h8 := Nat.le_of_ble_eq_true h8
        cases hq
        have hb3 := b3.2.2
        rw [Nat.eq_of_beq_eq_true hk.2.1] at hb3
        refine iv_callW (va_runS (As := iv_sm ad as) (rest := iv_sm ad rest) ⟨hx, hb, hml, hown, hts⟩ hMet ⟨callB_of nn hts (iv_ws_good hmm) rfl rfl rfl (hts _ b1) (hts _ (iv_w_in hk.2.2.2)) ⟨b3.1, b3.2.1, hb3⟩ hRoom, hts _ (b6 hk.2.2.1)⟩ ⟨iv_blindN, hPre⟩ rfl (by rw [List.length_map]; exact hlen0) hvv.1 hst0 (lv_room (by rw [iv_cs_eq]; exact h8)) hd hfit) hS hkk
      · cases hq
    · have hk := iv_lk_ok hown9 q
      simp only [iv_lok, Bool.and_eq_true] at hk
      obtain rfl := iv_lenE (n := 2) hln rfl
      rw [show Nat.beq 5 4 = false from rfl] at hq
      simp only [cond_false] at hq
      split at hq
      · rename_i a r9
        rw [Bool.cond_eq_ite] at hq
        split at hq
        · rename_i h8
          have h8 := Nat.le_of_ble_eq_true h8
          rw [show Nat.beq 5 6 = false from rfl] at hq
          simp only [cond_false] at hq
          cases hq
          have hb3 := b3.2.2
          rw [Nat.eq_of_beq_eq_true hk.2.1] at hb3
          have hrn := of_decide_eq_true hk.2.2.2.2.2
          refine iv_callW (va_runI (As := iv_sm ad as0) (rest := iv_sm ad rest) (b := ad a) (maxL := (iv_m mm).2.2.1) (bytes := iv_c mm) ⟨hx, hb, hml, hown, hts⟩ hMet ⟨callB_of nn hts (iv_ws_good hmm) (by unfold iv_ws; rw [hrn]) rfl rfl (hts _ b1) (hts _ (iv_w_in hk.2.2.2.1)) ⟨b3.1, b3.2.1, hb3⟩ hRoom, of_decide_eq_true hk.2.2.2.2.1, hts _ (b7 (by rw [Nat.eq_of_beq_eq_true hk.2.2.1]; rfl))⟩ ⟨iv_blindN, hPre⟩ rfl (by rw [List.length_map]; exact hlen0) hvv.1 hst0 (lv_room (by rw [iv_cs_eq]; exact h8)) hd hfit) hS hkk
        · cases hq
      · cases hq
    · have hk := iv_lk_ok hown9 q
      simp only [iv_lok, Bool.and_eq_true] at hk
      obtain rfl := iv_lenE (n := 2) hln rfl
      rw [show Nat.beq 7 4 = false from rfl] at hq
      simp only [cond_false] at hq
      split at hq
      · rename_i a r9
        rw [Bool.cond_eq_ite] at hq
        split at hq
        · rename_i h8
          have h8 := Nat.le_of_ble_eq_true h8
          rw [show Nat.beq 7 6 = false from rfl] at hq
          simp only [cond_false] at hq
          cases hq
          have hb3 := b3.2.2
          rw [Nat.eq_of_beq_eq_true hk.2.1] at hb3
          have hrn := of_decide_eq_true hk.2.2.2.2.2
          refine iv_callW (va_runIN (As := iv_sm ad as0) (rest := iv_sm ad rest) (b := ad a) (maxL := (iv_m mm).2.2.1) (bytes := iv_c mm) ⟨hx, hb, hml, hown, hts⟩ hMet ⟨va_cnB nn hts (iv_ws_good hmm) (by unfold iv_ws; rw [hrn]) rfl rfl (hK.1.2.1 _ (of_decide_eq_true hk.2.2.2.1)) (hts _ b1) ⟨b3.1, b3.2.1, hb3⟩ hRoom, of_decide_eq_true hk.2.2.2.2.1, hts _ (b7 (by rw [Nat.eq_of_beq_eq_true hk.2.2.1]; rfl))⟩ ⟨iv_blindN, hPre⟩ rfl (by rw [List.length_map]; exact hlen0) hvv.1 hst0 (lv_room (by rw [iv_cs_eq]; exact h8)) hd hfit) hS hkk
        · cases hq
      · cases hq
    · have hk := iv_lk_ok hown9 q
      simp only [iv_lok, Bool.and_eq_true] at hk
      obtain rfl := iv_lenE (n := 2) hln rfl
      rw [show Nat.beq 6 4 = false from rfl] at hq
      simp only [cond_false] at hq
      split at hq
      · rename_i a r9
        rw [Bool.cond_eq_ite] at hq
        split at hq
        · rename_i h8
          have h8 := Nat.le_of_ble_eq_true h8
          rw [show Nat.beq 6 6 = true from rfl] at hq
          simp only [cond_true] at hq
          split at hq
          · rename_i c2 fs hg
            rw [Bool.cond_eq_ite] at hq
            split at hq
            · rename_i hc2
              have hc2 := Nat.eq_of_beq_eq_true hc2
              subst hc2
              cases hq
              obtain ⟨k0, rfl, hk0, he⟩ := iv_get_ok hg
              have hat := iv_W_at (ad := ad) (cy := cy) hk0
              rw [he] at hat
              have hci := iv_blt hk.2.2.2.2.1
              have hcls := of_decide_eq_true hk.2.2.2.2.2.1
              have hb3 := b3.2.2
              rw [Nat.eq_of_beq_eq_true hk.2.1] at hb3
              have hrec := va_recv hK.1.1 hP (iv_cl_at ci hci) hat
              rw [show (iv_C ci, iv_T ci, iv_fn ci).1 = (iv_y mm).cls from hcls.symm] at hrec
              refine iv_callW (va_runV (As := iv_sm ad as0) (rest := iv_sm ad rest) (b := ad (2 * k0)) (C := (iv_y mm).cls) ⟨hx, hb, hml, hown, hts⟩ hMet ⟨callB_of nn hts (iv_ws_good hmm) rfl rfl rfl (hts _ b1) (hts _ (iv_w_in hk.2.2.2.1)) ⟨b3.1, b3.2.1, hb3⟩ hRoom, hts _ (b7 (by rw [Nat.eq_of_beq_eq_true hk.2.2.1]; rfl)), hts _ (iv_w_in hk.2.2.2.2.2.2)⟩ ⟨iv_blindN, hrec, hPre⟩ rfl (by rw [List.length_map]; exact hlen0) hvv.1 hst0 (lv_room (by rw [iv_cs_eq]; exact h8)) hd hfit) hS hkk
            · cases hq
          · rw [Bool.cond_eq_ite] at hq
            split at hq
            · rename_i hc2
              rw [Bool.and_eq_true] at hc2
              have hc10 := Nat.eq_of_beq_eq_true hc2.1
              subst hc10
              obtain ⟨j0, hj0, rfl⟩ := iv_isW_of hc2.2
              cases hq
              have hcls := of_decide_eq_true hk.2.2.2.2.2.1
              have hb3 := b3.2.2
              rw [Nat.eq_of_beq_eq_true hk.2.1] at hb3
              have hrec := va_recvE (ad := fun j => ad (2 * j + 3)) (i := j0) hK.2.1.1 hj0 hS
              rw [show RX11 = (iv_y mm).cls from hcls.symm] at hrec
              refine iv_callW (va_runV (As := iv_sm ad as0) (rest := iv_sm ad rest) (b := ad (2 * j0 + 3)) (C := (iv_y mm).cls) ⟨hx, hb, hml, hown, hts⟩ hMet ⟨callB_of nn hts (iv_ws_good hmm) rfl rfl rfl (hts _ b1) (hts _ (iv_w_in hk.2.2.2.1)) ⟨b3.1, b3.2.1, hb3⟩ hRoom, hts _ (b7 (by rw [Nat.eq_of_beq_eq_true hk.2.2.1]; rfl)), hts _ (iv_w_in hk.2.2.2.2.2.2)⟩ ⟨iv_blindN, hrec, hPre⟩ rfl (by rw [List.length_map]; exact hlen0) hvv.1 hst0 (lv_room (by rw [iv_cs_eq]; exact h8)) hd hfit) hS hkk
            · cases hq
          · cases hq
        · cases hq
      · cases hq
set_option maxHeartbeats 1000000 in
theorem iv_part_okN (stop F : Nat) : ∀ (n d M pc : Nat) (lv : iv_L) (st : List Value) (σ : iv_H) (lv' : iv_L) (st' : List Value) (σ' : iv_H), M ≤ iv_n → iv_part L xs stop F n d M pc lv st σ = some (lv', st', σ') → (σ.1 ≤ σ'.1 ∧ σ.2.2 ≤ σ'.2.2) ∧ (iv_C0 ad cy D base L xs p s m args meth c (iv_c M) (iv_m M).2.2.1 (iv_m M).2.1 (iv_y M).name → σ'.1 = σ.1 → σ'.2.2 = σ.2.2 → d + 8 ≤ R.frames → 60 * (d + 8) ≤ R.locals → σ.1 - c0 ≤ R.cells → σ.2.2 - n0 ≤ R.slots → iv_Nx ad cy D base c0 n0 (iv_m M).2.2.1 p l e R s m args below meth c Q stop lv' st' σ' → iv_Nx ad cy D base c0 n0 (iv_m M).2.2.1 p l e R s m args below meth c Q pc lv st σ) := by
  intro n
  induction n with
  | zero => intro d M pc lv st σ lv' st' σ' hM h; cases h
  | succ n ih =>
    intro d M pc lv st σ lv' st' σ' hM h
    rw [iv_part_s] at h
    cases hpc : Nat.beq pc stop
    case true =>
      rw [hpc] at h
      simp only [cond_true, Option.some.injEq, Prod.mk.injEq] at h
      obtain ⟨rfl, rfl, rfl⟩ := h
      have e9 := Nat.eq_of_beq_eq_true hpc
      subst e9
      exact ⟨⟨Nat.le_refl _, Nat.le_refl _⟩, fun _ _ _ _ _ _ _ k => k⟩
    rw [hpc] at h
    simp only [cond_false] at h
    split at h
    · rename_i f ho
      obtain ⟨i, len, hd, hln, hop, hlx⟩ := iv_fetch (iv_cok_any hM) (iv_lw_any hM) ho
      have hini9 : iv_mem M iv_ini = true → (iv_y M).name = "<init>" := fun h9 => iv_ini_ok0 M (iv_mem_in _ h9)
      split at h
      · rename_i pc' lv1 st1 σ1 hf
        rw [iv_fp_eq] at h
        obtain ⟨hmo, hB⟩ := ih d M pc' lv1 st1 σ1 lv' st' σ' hM h
        have hm1 := iv_op_mo hop L xs pc lv st σ pc' lv1 st1 σ1 hf
        refine ⟨⟨Nat.le_trans hm1.1 hmo.1, Nat.le_trans hm1.2 hmo.2⟩, fun C hq1 hq2 hRf hRl hRc hRs k => ?_⟩
        exact iv_op_okN (iv_own_any hM) hini9 C hd hln hlx hop hf (by omega) ⟨by omega, by omega⟩ (by omega) (by omega) hm1 (hB C (by omega) (by omega) hRf hRl (by omega) (by omega) k)
      · cases h
    · rename_i kind mm nn ci ho
      obtain ⟨i, len, hd, hln, hop, hlx⟩ := iv_fetch (iv_cok_any hM) (iv_lw_any hM) ho
      split at h
      · rename_i as rest d' hq
        rw [Bool.cond_eq_ite] at h
        split at h
        · rename_i hcs
          split at h
          · rename_i r1 σ1 hrun
            rw [iv_fp_eq] at h
            have hmm : mm < iv_n := by
              obtain ⟨kx, z9, h9, hcall⟩ := iv_call_of hop
              rcases hcall with ⟨-, -, q⟩ | ⟨-, -, q⟩ | ⟨-, -, q⟩ | ⟨-, -, q⟩
              all_goals
                have hk := iv_lk_ok (iv_own_any hM) q
                simp only [iv_lok, Bool.and_eq_true] at hk
                exact iv_blt hk.1
            have hB1 := iv_soundN l ad cy D base L xs F d' mm 0 (lv_args 0 as) [] σ r1 σ1 (Nat.le_of_lt hmm) hrun
            obtain ⟨hmo, hB⟩ := ih (d' + 1) M (pc + 3) lv (r1.toList ++ rest) σ1 lv' st' σ' hM h
            refine ⟨⟨Nat.le_trans hB1.1.1 hmo.1, Nat.le_trans hB1.1.2 hmo.2⟩, fun C hq1 hq2 hRf hRl hRc hRs k => ?_⟩
            exact iv_one_cN hM hd hln hop hq (Nat.le_of_ble_eq_true hcs) hB1 C (by have := hB1.1; omega) (by have := hB1.1; omega) hRf hRl hRc hRs (hB C (by have := hB1.1; omega) (by have := hB1.1; omega) hRf hRl (by have := hB1.1; omega) (by have := hB1.1; omega) k)
          · cases h
        · cases h
      · cases h
    · cases h
end IVQ
