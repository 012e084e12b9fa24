/-! ===== the symbolic machine ===== -/
set_option maxHeartbeats 4000000 in
theorem iv_op_sb {m0 own nL : Nat} {ret : Option FieldType} {i : Instr} {f : iv_F} (hop : iv_op m0 own nL ret i = .inl f) (hi : ∀ k, i ≠ .getfield k) : iv_sb f := by
  have fin : ∀ {g : iv_F}, iv_sb g → (Sum.inl g : iv_O) = .inl f → iv_sb f := fun h e => by rw [← Sum.inl.inj e]; exact h
  have fst : ∀ {k : Nat} {g : iv_F}, iv_sb g → iv_st k nL g = .inl f → iv_sb f := fun {k g} h e => by
    unfold iv_st at e
    cases hb : Nat.blt k nL <;> rw [hb] at e
    · exact fin iv_sb_N e
    · exact fin h e
  cases i with
  | iconst n => exact fin (iv_sb_KI _ _) hop
  | bipush n => exact fin (iv_sb_KI _ _) hop
  | sipush n => exact fin (iv_sb_KI _ _) hop
  | lconst n => exact fin (iv_sb_KJ _ _) hop
  | ldc kk =>
    have hop : iv_oki own kk 2 = .inl f := hop
    unfold iv_oki at hop
    split at hop
    · exact fin (iv_sb_KI _ _) hop
    · exact fin iv_sb_N hop
  | ldc_w kk =>
    have hop : iv_oki own kk 3 = .inl f := hop
    unfold iv_oki at hop
    split at hop
    · exact fin (iv_sb_KI _ _) hop
    · exact fin iv_sb_N hop
  | ldc2_w kk =>
    have hop : iv_okj own kk = .inl f := hop
    unfold iv_okj at hop
    split at hop
    · exact fin (iv_sb_KJ _ _) hop
    · exact fin iv_sb_N hop
  | iload kk => exact fin (iv_sb_I _ _) hop
  | iload_n kk => exact fin (iv_sb_I _ _) hop
  | istore kk => exact fst (iv_sb_IS _ _) hop
  | istore_n kk => exact fst (iv_sb_IS _ _) hop
  | lload kk => exact fin (iv_sb_J _ _) hop
  | lload_n kk => exact fin (iv_sb_J _ _) hop
  | lstore kk => exact fst (iv_sb_JS _ _) hop
  | lstore_n kk => exact fst (iv_sb_JS _ _) hop
  | aload kk => exact fin (iv_sb_A _ _) hop
  | aload_n kk => exact fin (iv_sb_A _ _) hop
  | astore kk => exact fst (iv_sb_AS _ _) hop
  | astore_n kk => exact fst (iv_sb_AS _ _) hop
  | iinc kk z => exact fst (iv_sb_Inc _ _) hop
  | iadd => exact fin (iv_sb_II _) hop
  | isub => exact fin (iv_sb_II _) hop
  | imul => exact fin (iv_sb_II _) hop
  | iand => exact fin (iv_sb_II _) hop
  | ior => exact fin (iv_sb_II _) hop
  | ishl => exact fin (iv_sb_II _) hop
  | ishr => exact fin (iv_sb_II _) hop
  | iushr => exact fin (iv_sb_II _) hop
  | idiv => exact fin (iv_sb_DI _) hop
  | irem => exact fin (iv_sb_DI _) hop
  | ladd => exact fin (iv_sb_JJ _) hop
  | lsub => exact fin (iv_sb_JJ _) hop
  | lmul => exact fin (iv_sb_JJ _) hop
  | land => exact fin (iv_sb_JJ _) hop
  | lor => exact fin (iv_sb_JJ _) hop
  | lxor => exact fin (iv_sb_JJ _) hop
  | lshl => exact fin (iv_sb_JI _) hop
  | lushr => exact fin (iv_sb_JI _) hop
  | ldiv => exact fin (iv_sb_DJ _) hop
  | lrem => exact fin (iv_sb_DJ _) hop
  | lcmp => exact fin iv_sb_Cmp hop
  | i2l => exact fin (iv_sb_UI _ (fun _ _ => rfl)) hop
  | i2c => exact fin (iv_sb_UI _ (fun _ _ => rfl)) hop
  | ineg => exact fin (iv_sb_UI _ (fun _ _ => rfl)) hop
  | l2i => exact fin iv_sb_L2I hop
  | dup => exact fin iv_sb_Dup hop
  | pop => exact fin iv_sb_Pop hop
  | dup2 => exact fin iv_sb_Dup2 hop
  | goto off => exact fin (iv_sb_Go _) hop
  | ifCond cd off => exact fin (iv_sb_If _ _) hop
  | if_icmp cd off => exact fin (iv_sb_Ic _ _) hop
  | if_acmp cd off => cases cd with
    | ne => exact fin (iv_sb_Ac _) hop
    | eq => exact fin iv_sb_N hop
  | tableswitch d lo hi offs => exact fin (iv_sb_Ts _ _ _ _) hop
  | lookupswitch d ps => exact fin (iv_sb_Ls _ _) hop
  | getfield kk => exact absurd rfl (hi kk)
  | putfield kk =>
    have hop : iv_opf m0 own kk = .inl f := hop
    unfold iv_opf at hop
    split at hop
    · rw [Bool.cond_eq_ite] at hop
      split at hop
      · exact fin (iv_sb_PF _ _ _) hop
      · exact fin iv_sb_N hop
    · exact fin iv_sb_N hop
  | iaload => exact fin iv_sb_Il hop
  | laload => exact fin iv_sb_Jl hop
  | baload => exact fin iv_sb_Zl hop
  | aaload => exact fin iv_sb_Ql hop
  | arraylength => exact fin iv_sb_Len hop
  | iastore => exact fin iv_sb_Ist hop
  | lastore => exact fin iv_sb_Jst hop
  | bastore => exact fin iv_sb_Zst hop
  | aastore => exact fin iv_sb_Qst hop
  | new kk =>
    have hop : iv_onw own kk = .inl f := hop
    unfold iv_onw at hop
    split at hop
    · exact fin (iv_sb_New _) hop
    · exact fin iv_sb_N hop
  | newarray t => cases t with
    | int => exact fin (iv_sb_Na _ _) hop
    | long => exact fin (iv_sb_Na _ _) hop
    | boolean => exact fin (iv_sb_Na _ _) hop
    | _ => exact fin iv_sb_N hop
  | anewarray kk =>
    have hop : iv_onq own kk = .inl f := hop
    unfold iv_onq at hop
    split at hop
    · rw [Bool.cond_eq_ite] at hop
      split at hop
      · exact fin (iv_sb_Nq _) hop
      · exact fin iv_sb_N hop
    · rw [Bool.cond_eq_ite] at hop
      split at hop
      · exact fin iv_sb_N hop
      · exact fin (iv_sb_Nq _) hop
    · exact fin iv_sb_N hop
  | multianewarray kk z =>
    have hop2 : (bif Nat.beq z 2 then iv_onm own kk else .inl iv_oN) = .inl f := hop
    rw [Bool.cond_eq_ite] at hop2
    split at hop2
    · unfold iv_onm at hop2
      split at hop2
      · exact fin iv_sb_Nm hop2
      · exact fin iv_sb_N hop2
    · exact fin iv_sb_N hop2
  | getstatic kk =>
    have hop : iv_ogs own kk = .inl f := hop
    unfold iv_ogs at hop
    split at hop
    · exact fin (iv_sb_S _) hop
    · exact fin (iv_sb_S _) hop
    · exact fin iv_sb_N hop
  | invokestatic kk =>
    have hop : iv_oss own kk = .inl f := hop
    unfold iv_oss at hop
    split at hop
    · exact fin iv_sb_Cp hop
    · exact fin (iv_sb_MM _) hop
    · exact fin (iv_sb_MM _) hop
    · exact fin iv_sb_Ab hop
    · cases hop
    · exact fin iv_sb_N hop
  | invokespecial kk =>
    have hop : iv_osp own kk = .inl f := hop
    unfold iv_osp at hop
    split at hop
    · exact fin iv_sb_Ob hop
    · cases hop
    · cases hop
    · exact fin iv_sb_N hop
  | invokevirtual kk =>
    have hop : iv_ovi own kk = .inl f := hop
    unfold iv_ovi at hop
    split at hop
    · exact fin iv_sb_Ord hop
    · cases hop
    · exact fin iv_sb_N hop
  | ireturn =>
    have hop : (match ret with | some .int => (.inr (.inl 1) : iv_O) | some .boolean => .inr (.inl 2) | _ => .inl iv_oN) = .inl f := hop
    split at hop <;> first | (exact fin iv_sb_N hop) | (cases hop; done)
  | lreturn =>
    have hop : (match ret with | some .long => (.inr (.inl 3) : iv_O) | _ => .inl iv_oN) = .inl f := hop
    split at hop <;> first | (exact fin iv_sb_N hop) | (cases hop; done)
  | areturn =>
    have hop : (match ret with | some (.object _) => (.inr (.inl 4) : iv_O) | _ => .inl iv_oN) = .inl f := hop
    split at hop <;> first | (exact fin iv_sb_N hop) | (cases hop; done)
  | return_ =>
    have hop : (match ret with | none => (.inr (.inl 0) : iv_O) | _ => .inl iv_oN) = .inl f := hop
    split at hop <;> first | (exact fin iv_sb_N hop) | (cases hop; done)
  | _ => exact fin iv_sb_N hop
def sdec (c : ClassFile.Cond) (lo hi y : Int32) : Option Bool := match c with
  | .eq => bif decide (lo = y) && decide (hi = y) then some true else bif decide (y < lo) || decide (hi < y) then some false else none
  | .ne => bif decide (lo = y) && decide (hi = y) then some false else bif decide (y < lo) || decide (hi < y) then some true else none
  | .lt => bif decide (hi < y) then some true else bif decide (y ≤ lo) then some false else none
  | .ge => bif decide (hi < y) then some false else bif decide (y ≤ lo) then some true else none
  | .gt => bif decide (y < lo) then some true else bif decide (hi ≤ y) then some false else none
  | .le => bif decide (y < lo) then some false else bif decide (hi ≤ y) then some true else none
theorem sdec_ok {c : ClassFile.Cond} {lo hi x y : Int32} {b : Bool} (h1 : lo ≤ x) (h2 : x ≤ hi) (h : sdec c lo hi y = some b) : iv_c2 c x y = b := by
  rw [Int32.le_iff_toInt_le] at h1 h2
  cases c <;> simp only [sdec, Bool.cond_eq_ite, Bool.and_eq_true, Bool.or_eq_true, decide_eq_true_eq] at h <;> (repeat' split at h) <;> cases h <;> simp only [iv_c2, decide_eq_true_eq, decide_eq_false_iff_not, Int32.lt_iff_toInt_lt, Int32.le_iff_toInt_le, ← Int32.toInt_inj] at * <;> omega
def sfl (c : ClassFile.Cond) : ClassFile.Cond := match c with
  | .eq => .eq
  | .ne => .ne
  | .lt => .gt
  | .ge => .le
  | .gt => .lt
  | .le => .ge
theorem sfl_ok (c : ClassFile.Cond) (x y : Int32) : iv_c2 (sfl c) y x = iv_c2 c x y := by
  cases c <;> simp only [sfl, iv_c2] <;> (first | rfl | simp only [eq_comm])
def sld (k len pc : Nat) (lv : iv_L) (st : List Value) (σ : iv_H) : iv_X := match iv_f1 lv k with
  | some (.retAddr s) => some (pc + len, lv, .retAddr s :: st, σ)
  | _ => none
def sst (nL k len pc : Nat) (lv : iv_L) (st : List Value) (σ : iv_H) : iv_X := match st with
  | .retAddr s :: r => bif Nat.blt k nL then some (pc + len, (k, .retAddr s) :: iv_d1 k lv, r, σ) else none
  | _ => none
def sbr (b : Option Bool) (pc : Nat) (off : Int) (lv : iv_L) (r : List Value) (σ : iv_H) : iv_X := match b with
  | some b => iv_br b pc off lv r σ
  | none => none
def sif (B : Nat → Int32 × Int32) (c : ClassFile.Cond) (off : Int) (pc : Nat) (lv : iv_L) (st : List Value) (σ : iv_H) : iv_X := match st with
  | .retAddr s :: r => sbr (sdec c (B s).1 (B s).2 0) pc off lv r σ
  | _ => none
def sic (B : Nat → Int32 × Int32) (c : ClassFile.Cond) (off : Int) (pc : Nat) (lv : iv_L) (st : List Value) (σ : iv_H) : iv_X := match st with
  | .int y :: .retAddr s :: r => sbr (sdec c (B s).1 (B s).2 y) pc off lv r σ
  | .retAddr s :: .int x :: r => sbr (sdec (sfl c) (B s).1 (B s).2 x) pc off lv r σ
  | _ => none
def sts (B : Nat → Int32 × Int32) (dflt lo hi : Int) (pc : Nat) (lv : iv_L) (st : List Value) (σ : iv_H) : iv_X := match st with
  | .retAddr s :: r => bif decide ((B s).2.toInt < lo) || decide (hi < (B s).1.toInt) then iv_go pc dflt lv r σ else none
  | _ => none
def swd (B : Nat → Int32 × Int32) (k : Nat) : Value := bif decide ((B k).1 = (B k).2) then .int (B k).1 else .retAddr k
def sil (L : Nat) (B : Nat → Int32 × Int32) (pc : Nat) (lv : iv_L) (st : List Value) (σ : iv_H) : iv_X := match st with
  | .int i :: .ref a :: r => bif Nat.beq a 1 && iv_in i L then some (pc + 1, lv, iv_fp i.toNatClampNeg (swd B) :: r, σ) else none
  | _ => none
def sle (L : Nat) (pc : Nat) (lv : iv_L) (st : List Value) (σ : iv_H) : iv_X := match st with
  | .ref a :: r => bif Nat.beq a 1 && (bif Nat.beq L 0 then false else true) then some (pc + 1, lv, .int (Int32.ofNat L) :: r, σ) else none
  | _ => none
def sx (L nL : Nat) (B : Nat → Int32 × Int32) (i : Instr) (pc : Nat) (lv : iv_L) (st : List Value) (σ : iv_H) : iv_X := match i with
  | .iload k => sld k 2 pc lv st σ
  | .iload_n k => sld k.val 1 pc lv st σ
  | .istore k => sst nL k 2 pc lv st σ
  | .istore_n k => sst nL k.val 1 pc lv st σ
  | .ifCond c off => sif B c off pc lv st σ
  | .if_icmp c off => sic B c off pc lv st σ
  | .tableswitch dflt lo hi _ => sts B dflt lo hi pc lv st σ
  | .iaload => sil L B pc lv st σ
  | .arraylength => sle L pc lv st σ
  | _ => none
def sBx (L : Nat) (B : Nat → Int32 × Int32) (xs : Nat → Int32) : Prop := ∀ s, (B s).1 ≤ xs s ∧ xs s ≤ (B s).2
section SX
variable {L : Nat} {xs : Nat → Int32} {B : Nat → Int32 × Int32} {pc pc' : Nat} {lv lv' : iv_L} {st st' : List Value} {σ σ' : iv_H}
theorem sld_ok {k len : Nat} (h : sld k len pc lv st σ = some (pc', lv', st', σ')) : iv_oI k len L xs pc (sL xs lv) (sS xs st) σ = some (pc', sL xs lv', sS xs st', σ') := by
  unfold sld at h
  unfold iv_oI
  rw [sL_f1]
  split at h
  · rename_i s hs
    rw [hs]
    cases h
    rfl
  · cases h
theorem sst_ok {nL k len : Nat} (h : sst nL k len pc lv st σ = some (pc', lv', st', σ')) : Nat.blt k nL = true ∧ iv_oIS k len L xs pc (sL xs lv) (sS xs st) σ = some (pc', sL xs lv', sS xs st', σ') := by
  unfold sst at h
  split at h
  · cases hk : Nat.blt k nL with
    | false => rw [hk] at h; cases h
    | true =>
      rw [hk] at h
      cases h
      refine ⟨rfl, ?_⟩
      show some (_, (_, _) :: iv_d1 k (sL xs lv), _, _) = _
      rw [sL_d1]
      rfl
  · cases h
theorem sbr_ok {b : Option Bool} {b0 : Bool} {off : Int} {r : List Value} (hb : ∀ b1, b = some b1 → b0 = b1) (h : sbr b pc off lv r σ = some (pc', lv', st', σ')) : iv_br b0 pc off (sL xs lv) (sS xs r) σ = some (pc', sL xs lv', sS xs st', σ') := by
  unfold sbr at h
  split at h
  · rw [hb _ rfl]
    exact s_br xs h
  · cases h
theorem sif_ok (hB : sBx L B xs) {c : ClassFile.Cond} {off : Int} (h : sif B c off pc lv st σ = some (pc', lv', st', σ')) : iv_oIf c off L xs pc (sL xs lv) (sS xs st) σ = some (pc', sL xs lv', sS xs st', σ') := by
  unfold sif at h
  split at h
  · rename_i s r
    exact sbr_ok (b0 := iv_c2 c (xs s) 0) (fun b1 e => sdec_ok (hB s).1 (hB s).2 e) h
  · cases h
theorem sic_ok (hB : sBx L B xs) {c : ClassFile.Cond} {off : Int} (h : sic B c off pc lv st σ = some (pc', lv', st', σ')) : iv_oIc c off L xs pc (sL xs lv) (sS xs st) σ = some (pc', sL xs lv', sS xs st', σ') := by
  unfold sic at h
  split at h
  · rename_i y s r
    exact sbr_ok (b0 := iv_c2 c (xs s) y) (fun b1 e => sdec_ok (hB s).1 (hB s).2 e) h
  · rename_i s x r
    exact sbr_ok (b0 := iv_c2 c x (xs s)) (fun b1 e => by rw [← sfl_ok]; exact sdec_ok (hB s).1 (hB s).2 e) h
  · cases h
theorem sts_ok (hB : sBx L B xs) {dflt lo hi : Int} {offs : Array Int} (h : sts B dflt lo hi pc lv st σ = some (pc', lv', st', σ')) : iv_oTs dflt lo hi offs L xs pc (sL xs lv) (sS xs st) σ = some (pc', sL xs lv', sS xs st', σ') := by
  unfold sts at h
  split at h
  · rename_i s r
    have h1 := (hB s).1
    have h2 := (hB s).2
    rw [Int32.le_iff_toInt_le] at h1 h2
    simp only [Bool.cond_eq_ite, Bool.or_eq_true, decide_eq_true_eq] at h
    split at h
    · rename_i hc
      have hd : (decide ((xs s).toInt < lo) || decide (hi < (xs s).toInt)) = true := by
        rw [Bool.or_eq_true, decide_eq_true_eq, decide_eq_true_eq]
        omega
      show (bif (decide ((xs s).toInt < lo) || decide (hi < (xs s).toInt)) then iv_go pc dflt (sL xs lv) (sS xs r) σ else _) = _
      rw [hd]
      exact s_go xs h
    · cases h
  · cases h
theorem swd_ok (hB : sBx L B xs) (k : Nat) : sv xs (swd B k) = .int (xs k) := by
  unfold swd
  cases hd : decide ((B k).1 = (B k).2) with
  | false => rfl
  | true =>
    have e := of_decide_eq_true hd
    have h1 := (hB k).1
    have h2 := (hB k).2
    rw [← e] at h2
    show Value.int (B k).1 = _
    rw [Int32.le_antisymm h1 h2]
theorem sil_ok (hB : sBx L B xs) (h : sil L B pc lv st σ = some (pc', lv', st', σ')) : iv_oIl L xs pc (sL xs lv) (sS xs st) σ = some (pc', sL xs lv', sS xs st', σ') := by
  unfold sil at h
  split at h
  · rename_i i a r
    cases ha : Nat.beq a 1 <;> cases hi : iv_in i L <;> rw [ha, hi] at h
    · cases h
    · cases h
    · cases h
    · rw [iv_fp_eq] at h
      cases h
      show (bif Nat.beq a 1 then (bif iv_in i L then some (pc + 1, sL xs lv, .int (xs i.toNatClampNeg) :: sS xs r, σ) else none) else _) = some (_, _, sv xs (swd B i.toNatClampNeg) :: sS xs r, _)
      rw [ha, hi, swd_ok hB]
      rfl
  · cases h
theorem sle_ok (h : sle L pc lv st σ = some (pc', lv', st', σ')) : iv_oLen L xs pc (sL xs lv) (sS xs st) σ = some (pc', sL xs lv', sS xs st', σ') := by
  unfold sle at h
  split at h
  · rename_i a r
    cases ha : Nat.beq a 1 <;> cases hl : Nat.beq L 0 <;> rw [ha, hl] at h
    · cases h
    · cases h
    · cases h
      show (bif Nat.beq a 1 then (bif Nat.beq L 0 then none else some (pc + 1, sL xs lv, .int (Int32.ofNat L) :: sS xs r, σ)) else _) = _
      rw [ha, hl]
      rfl
    · cases h
  · cases h
theorem sx_ok (hB : sBx L B xs) {m0 own nL : Nat} {ret : Option FieldType} {i : Instr} {f : iv_F} (hop : iv_op m0 own nL ret i = .inl f) (h : sx L nL B i pc lv st σ = some (pc', lv', st', σ')) : f L xs pc (sL xs lv) (sS xs st) σ = some (pc', sL xs lv', sS xs st', σ') := by
  have st1 : ∀ {k : Nat} {g : iv_F}, Nat.blt k nL = true → iv_st k nL g = .inl f → g = f := fun {k g} hk e => by
    unfold iv_st at e
    rw [hk] at e
    exact Sum.inl.inj e
  cases i with
  | iload k => rw [← Sum.inl.inj (show (Sum.inl (iv_oI k 2) : iv_O) = .inl f from hop)]; exact sld_ok h
  | iload_n k => rw [← Sum.inl.inj (show (Sum.inl (iv_oI k.val 1) : iv_O) = .inl f from hop)]; exact sld_ok h
  | istore k =>
    obtain ⟨h1, h2⟩ := sst_ok (L := L) (xs := xs) (show sst nL k 2 pc lv st σ = _ from h)
    rw [← st1 h1 (show iv_st k nL (iv_oIS k 2) = .inl f from hop)]
    exact h2
  | istore_n k =>
    obtain ⟨h1, h2⟩ := sst_ok (L := L) (xs := xs) (show sst nL k.val 1 pc lv st σ = _ from h)
    rw [← st1 h1 (show iv_st k.val nL (iv_oIS k.val 1) = .inl f from hop)]
    exact h2
  | ifCond c off => rw [← Sum.inl.inj (show (Sum.inl (iv_oIf c off) : iv_O) = .inl f from hop)]; exact sif_ok hB h
  | if_icmp c off => rw [← Sum.inl.inj (show (Sum.inl (iv_oIc c off) : iv_O) = .inl f from hop)]; exact sic_ok hB h
  | tableswitch dflt lo hi offs => rw [← Sum.inl.inj (show (Sum.inl (iv_oTs dflt lo hi offs) : iv_O) = .inl f from hop)]; exact sts_ok hB h
  | iaload => rw [← Sum.inl.inj (show (Sum.inl iv_oIl : iv_O) = .inl f from hop)]; exact sil_ok hB h
  | arraylength => rw [← Sum.inl.inj (show (Sum.inl iv_oLen : iv_O) = .inl f from hop)]; exact sle_ok h
  | _ => cases h
end SX
def sP (i : Instr) (st : List Value) : Bool := match i with
  | .getfield _ => (match st with
    | .retAddr _ :: _ => false
    | _ => true)
  | _ => true
theorem s_f {L : Nat} {xs : Nat → Int32} {pc pc' : Nat} {lv lv' : iv_L} {st st' : List Value} {σ σ' : iv_H} {m0 own nL : Nat} {ret : Option FieldType} {i : Instr} {f : iv_F} (hop : iv_op m0 own nL ret i = .inl f) (h : f 0 sgz pc lv st σ = some (pc', lv', st', σ')) (hp : sP i st' = true) : f L xs pc (sL xs lv) (sS xs st) σ = some (pc', sL xs lv', sS xs st', σ') := by
  refine iv_op_id hop sgz L xs _ _ _ _ _ ?_
  by_cases hi : ∃ k, i = .getfield k
  · obtain ⟨k, rfl⟩ := hi
    have hop : iv_ofd own k = .inl f := hop
    unfold iv_ofd at hop
    split at hop
    · rw [← Sum.inl.inj hop] at h ⊢
      refine iv_sb_GF _ _ _ _ _ _ _ _ _ _ _ _ h (fun kk r e => ?_)
      rw [e] at hp
      cases hp
    · rw [← Sum.inl.inj hop] at h
      cases h
  · exact iv_op_sb hop (fun k e => hi ⟨k, e⟩) xs sgz _ _ _ _ _ _ _ _ h
def sdo (L : Nat) (B : Nat → Int32 × Int32) (ih : iv_Y) (d M pc : Nat) (lv : iv_L) (st : List Value) (σ : iv_H) (nL : Nat) (i : Instr) (o : iv_O) : Option (Option Value × iv_H) := match o with
  | .inl f => (match sx L nL B i pc lv st σ with
    | some y => iv_go1 ih d M (some y)
    | none => (match f 0 sgz pc lv st σ with
      | some y => bif sP i y.2.2.1 then iv_go1 ih d M (some y) else none
      | none => none))
  | .inr (.inl k) => iv_rt k st σ
  | .inr (.inr (kind, m, n, ci)) => iv_cl ih d M pc lv σ m (iv_args kind n ci st σ)
def sstep (L : Nat) (B : Nat → Int32 × Int32) (ih : iv_Y) : iv_Y := fun d M pc lv st σ => match iv_f1 (iv_m M).2.2.2.2 pc with
  | some q => sdo L B ih d M pc lv st σ (iv_m M).2.2.1 q.1 (iv_op M (iv_m M).2.1 (iv_m M).2.2.1 (iv_m M).2.2.2.1 q.1)
  | none => none
noncomputable def srun (L : Nat) (B : Nat → Int32 × Int32) (n : Nat) : iv_Y := Nat.rec (fun _ _ _ _ _ _ => none) (fun _ ih => sstep L B ih) n
theorem srun_s (L : Nat) (B : Nat → Int32 × Int32) (n d M pc : Nat) (lv : iv_L) (st : List Value) (σ : iv_H) : srun L B (n + 1) d M pc lv st σ = sstep L B (srun L B n) d M pc lv st σ := rfl
theorem s_pop (ρ : Nat → Int32) : ∀ (n : Nat) (st acc as rest : List Value), iv_pop n st acc = some (as, rest) → iv_pop n (sS ρ st) (sS ρ acc) = some (sS ρ as, sS ρ rest) := by
  intro n
  induction n with
  | zero => intro st acc as rest h; cases st <;> cases h <;> rfl
  | succ n ih =>
    intro st acc as rest h
    cases st with
    | nil => cases h
    | cons v r => exact ih r (v :: acc) as rest h
theorem s_args (ρ : Nat → Int32) {kind n ci : Nat} {st as rest : List Value} {σ : iv_H} (h : iv_args kind n ci st σ = some (as, rest)) : iv_args kind n ci (sS ρ st) σ = some (sS ρ as, sS ρ rest) := by
  unfold iv_args at h ⊢
  cases hp : iv_pop n st [] with
  | none => rw [hp] at h; cases h
  | some q =>
    obtain ⟨as0, rest0⟩ := q
    rw [hp] at h
    rw [show iv_pop n (sS ρ st) [] = some (sS ρ as0, sS ρ rest0) from s_pop ρ n st [] as0 rest0 hp]
    simp only at h ⊢
    cases hk : Nat.beq kind 4 with
    | true =>
      rw [hk] at h
      simp only [cond_true, sS_cs] at h ⊢
      cases hb : Nat.ble (iv_cs rest0) 8 with
      | false => rw [hb] at h; cases h
      | true => rw [hb] at h; cases h; rfl
    | false =>
      rw [hk] at h
      simp only [cond_false] at h ⊢
      split at h
      · rename_i a r
        show (bif Nat.ble (iv_cs (sS ρ r)) 8 then (bif Nat.beq kind 6 then (match iv_get σ a with
          | some (.inr (c2, _)) => bif Nat.beq ci c2 then some (.ref a :: sS ρ as0, sS ρ r) else none
          | _ => none) else some (.ref a :: sS ρ as0, sS ρ r)) else none) = _
        rw [sS_cs]
        cases hb : Nat.ble (iv_cs r) 8 with
        | false => rw [hb] at h; cases h
        | true =>
          rw [hb] at h
          simp only [cond_true] at h ⊢
          cases h6 : Nat.beq kind 6 with
          | false => rw [h6] at h; cases h; rfl
          | true =>
            rw [h6] at h
            simp only [cond_true] at h ⊢
            split at h
            · rename_i c2 fs hg
              rw [hg]
              simp only
              cases hc : Nat.beq ci c2 with
              | false => rw [hc] at h; cases h
              | true => rw [hc] at h; cases h; rfl
            · cases h
      · cases h
theorem s_lva (ρ : Nat → Int32) : ∀ (as : List Value) (k : Nat), lv_args k (sS ρ as) = sL ρ (lv_args k as) := by
  intro as
  induction as with
  | nil => intro k; rfl
  | cons v r ih =>
    intro k
    show (k, sv ρ v) :: lv_args (if (sv ρ v).category = 2 then k + 2 else k + 1) (sS ρ r) = _
    rw [sv_cat, ih]
    rfl
theorem s_rt (ρ : Nat → Int32) {k : Nat} {st : List Value} {σ σ' : iv_H} {r : Option Value} (h : iv_rt k st σ = some (r, σ')) : iv_rt k (sS ρ st) σ = some (r, σ') ∧ sS ρ r.toList = r.toList := by
  unfold iv_rt at h
  split at h
  · cases h; exact ⟨rfl, rfl⟩
  · cases h; exact ⟨rfl, rfl⟩
  · rename_i v
    cases hc : (decide (v = 0) || decide (v = 1)) with
    | false => rw [hc] at h; cases h
    | true =>
      rw [hc] at h
      cases h
      refine ⟨?_, rfl⟩
      show (bif decide (v = 0) || decide (v = 1) then _ else _) = _
      rw [hc]
      rfl
  · cases h; exact ⟨rfl, rfl⟩
  · cases h; exact ⟨rfl, rfl⟩
  · cases h
/-- what the symbolic machine says holds for every script within the bounds -/
theorem srun_ok {L : Nat} {B : Nat → Int32 × Int32} {xs : Nat → Int32} (hB : sBx L B xs) : ∀ (n d M pc : Nat) (lv : iv_L) (st : List Value) (σ : iv_H) (r : Option Value) (σ' : iv_H), srun L B n d M pc lv st σ = some (r, σ') → iv_run L xs n d M pc (sL xs lv) (sS xs st) σ = some (r, σ') ∧ sS xs r.toList = r.toList := by
  intro n
  induction n with
  | zero => intro d M pc lv st σ r σ' h; cases h
  | succ n ih =>
    intro d M pc lv st σ r σ' h
    rw [srun_s] at h
    rw [iv_run_s]
    unfold sstep at h
    unfold iv_step
    split at h
    · rename_i q hq
      have hp : iv_f1 (iv_p M) pc = some (iv_op M (iv_m M).2.1 (iv_m M).2.2.1 (iv_m M).2.2.2.1 q.1) := by
        unfold iv_p
        rw [iv_f1_map (fun q : Instr × Nat => iv_op M (iv_m M).2.1 (iv_m M).2.2.1 (iv_m M).2.2.2.1 q.1), hq]
        rfl
      rw [hp]
      generalize hop : iv_op M (iv_m M).2.1 (iv_m M).2.2.1 (iv_m M).2.2.2.1 q.1 = o at h ⊢
      unfold sdo at h
      unfold iv_do
      split at h
      · rename_i f
        have go : ∀ y : Nat × iv_L × List Value × iv_H, f L xs pc (sL xs lv) (sS xs st) σ = some (y.1, sL xs y.2.1, sS xs y.2.2.1, y.2.2.2) → iv_go1 (srun L B n) d M (some y) = some (r, σ') → iv_go1 (iv_run L xs n) d M (f L xs pc (sL xs lv) (sS xs st) σ) = some (r, σ') ∧ sS xs r.toList = r.toList := by
          intro y hf hg
          rw [hf]
          unfold iv_go1 at hg ⊢
          simp only at hg ⊢
          rw [iv_fp_eq] at hg ⊢
          exact ih _ _ _ _ _ _ _ _ hg
        split at h
        · rename_i y hy
          exact go y (sx_ok hB hop hy) h
        · split at h
          · rename_i y hy
            cases hs : sP q.1 y.2.2.1 with
            | false => rw [hs] at h; cases h
            | true =>
              rw [hs] at h
              exact go y (s_f hop hy hs) h
          · cases h
      · exact s_rt xs h
      · rename_i kind mm nn ci
        unfold iv_cl at h ⊢
        split at h
        · rename_i as rest d' hq2
          simp only [s_args xs hq2]
          simp only [Bool.cond_eq_ite] at h ⊢
          rw [sS_cs]
          split at h
          · rename_i hcs
            rw [if_pos hcs]
            split at h
            · rename_i r1 σ1 hrun
              obtain ⟨hrun2, hr1⟩ := ih _ _ _ _ _ _ _ _ hrun
              rw [← s_lva] at hrun2
              simp only [show sS xs [] = [] from rfl] at hrun2
              simp only [hrun2]
              rw [iv_fp_eq] at h ⊢
              have h5 := ih _ _ _ _ _ _ _ _ h
              rw [show sS xs (r1.toList ++ rest) = r1.toList ++ sS xs rest from by
                rw [show sS xs (r1.toList ++ rest) = sS xs r1.toList ++ sS xs rest from List.map_append, hr1]] at h5
              exact h5
            · cases h
          · cases h
        · cases h
    · cases h
