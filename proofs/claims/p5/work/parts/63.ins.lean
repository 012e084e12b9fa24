/-! ===== an instruction and its picture ===== -/
abbrev zG : Type := Nat → zA → zO
def zacp (off : Int) : zG := fun pc A => match A.2.2.1 with
  | w :: v :: r => (match zty A.1.1 v, zty A.1.1 w with
    | some 1, some 1 => zbr (A.1, A.2.1, r, A.2.2.2) [] [] pc off
    | _, _ => none)
  | _ => none
def zlt (k nL : Nat) (g : zG) : Option zG := bif Nat.blt k nL then some g else none
def zins (τ : Nat → Nat) (ty : Nat → Option zt) (ms : zm) (m own nL : Nat) (i : Instr) : Option zG := match i with
  | .iconst n => some (zoK (.int (Int32.ofInt n)) 1)
  | .bipush n => some (zoK (.int (Int8.ofInt n).toInt32) 2)
  | .sipush n => some (zoK (.int (Int16.ofInt n).toInt32) 3)
  | .lconst n => some (zoK (.long (Int64.ofNat n.val)) 1)
  | .ldc k => (match iv_f1 (iv_qs own) k with
    | some (.int v, _) => some (zoK (.int v) 2)
    | _ => none)
  | .ldc_w k => (match iv_f1 (iv_qs own) k with
    | some (.int v, _) => some (zoK (.int v) 3)
    | _ => none)
  | .ldc2_w k => (match iv_f1 (iv_qs own) k with
    | some (.long v, _) => some (zoK (.long v) 3)
    | _ => none)
  | .iload k => some (zoL 0 k 2)
  | .iload_n k => some (zoL 0 k.val 1)
  | .lload k => some (zoL 1 k 2)
  | .lload_n k => some (zoL 1 k.val 1)
  | .aload k => some (zoL 2 k 2)
  | .aload_n k => some (zoL 2 k.val 1)
  | .istore k => zlt k nL (zoS 0 k k 2)
  | .istore_n k => zlt k.val nL (zoS 0 k.val k.val 1)
  | .lstore k => zlt (k + 1) nL (zoS 1 k (k + 1) 2)
  | .lstore_n k => zlt (k.val + 1) nL (zoS 1 k.val (k.val + 1) 1)
  | .astore k => zlt k nL (zoS 2 k k 2)
  | .astore_n k => zlt k.val nL (zoS 2 k.val k.val 1)
  | .iinc k n => zlt k nL (zoInc k n)
  | .iadd => some (zo22 0 0 zadd)
  | .isub => some (zo22 0 0 zsub)
  | .imul => some (zo22 0 0 zmul)
  | .iand => some (zo22 0 0 zand)
  | .ior => some (zo22 0 0 zor)
  | .ishl => some (zo22 0 0 zshl)
  | .ishr => some (zo22 0 0 zany)
  | .iushr => some (zo22 0 0 zushr)
  | .idiv => some (zo22 0 0 zdiv)
  | .irem => some (zo22 0 0 zrem)
  | .ladd => some (zo22 1 1 zjadd)
  | .lsub => some (zo22 1 1 zjsub)
  | .lmul => some (zo22 1 1 zjmul)
  | .land => some (zo22 1 1 zjany)
  | .lor => some (zo22 1 1 zjany)
  | .lxor => some (zo22 1 1 zjany)
  | .lshl => some (zo22 1 0 zjany)
  | .lushr => some (zo22 1 0 zjany)
  | .ldiv => some (zo22 1 1 zjdiv)
  | .lrem => some (zo22 1 1 zjnz)
  | .lcmp => some (zo22 1 1 zcmp)
  | .i2l => some (zo11 0 zi2l)
  | .i2c => some (zo11 0 zi2c)
  | .ineg => some (zo11 0 zneg)
  | .l2i => some (zo11 1 zl2i)
  | .dup => some zoDup
  | .pop => some zoPop
  | .dup2 => some zoDup2
  | .goto off => some (zoGo off)
  | .ifCond c off => some (zoIf c off)
  | .if_icmp c off => some (zoIc c off)
  | .if_acmp c off => (match c with
    | .ne => some (zacp off)
    | .eq => none)
  | .tableswitch dflt lo hi offs => bif zeq (offs.toList.length : Int) (hi - lo + 1) then some (zoTs dflt lo hi offs) else none
  | .lookupswitch dflt ps => some (zoLs dflt ps)
  | .getfield k => (match iv_f1 (iv_ls own) k with
    | some (0, ci, j, _, _) => some (zoGF ty ci j)
    | _ => none)
  | .putfield k => (match iv_f1 (iv_ls own) k with
    | some (0, ci, j, _, _) => bif (bif (iv_T ci j).2.2.2 then iv_mem m iv_ini && Nat.beq own (ci + 1) else true) then some (zoPF ty ms ci j (iv_fty ci j)) else none
    | _ => none)
  | .iaload => some (zoIl ty)
  | .laload => some (zoLd ty 1)
  | .baload => some (zoLd ty 2)
  | .aaload => some (zoQl ty)
  | .arraylength => some (zoLen ty)
  | .iastore => some (zoSt ty ms 0)
  | .lastore => some (zoJs ty ms)
  | .bastore => some (zoSt ty ms 2)
  | .aastore => some (zoQs ty ms)
  | .getstatic k => (match iv_f1 (iv_ls own) k with
    | some (10, a, _, _, _) => some (zoSt8 τ a)
    | some (12, a, _, _, _) => some (zoSt8 τ a)
    | _ => none)
  | .invokestatic k => (match iv_f1 (iv_ls own) k with
    | some (9, _, _, _, _) => some (zoCp ty ms)
    | some (13, _, _, _, _) => some (zoM2 true)
    | some (14, _, _, _, _) => some (zoM2 false)
    | some (15, _, _, _, _) => some zoAb
    | _ => none)
  | .invokevirtual k => (match iv_f1 (iv_ls own) k with
    | some (11, _, _, _, _) => some zoOrd
    | _ => none)
  | _ => none
/-- what is known of labels: constants of Word have type 1, the switch table type 2 -/
def zT (τ : Nat → Nat) : Prop := (∀ a, τ a = 1 → iv_isW a = true) ∧ (∀ a, τ a = 2 → a = 101) ∧ ∀ a, 1 ≤ τ a → a ≤ 1000
theorem zlt_in {k nL : Nat} {g h : zG} (hz : zlt k nL g = some h) : Nat.blt k nL = true ∧ h = g := by
  unfold zlt at hz
  cases hb : Nat.blt k nL
  · rw [hb] at hz; cases hz
  · rw [hb] at hz; cases hz; exact ⟨rfl, rfl⟩
theorem iv_st_t {k nL : Nat} {f : iv_F} (h : Nat.blt k nL = true) : iv_st k nL f = .inl f := by
  unfold iv_st
  rw [h]
  rfl
set_option maxHeartbeats 2000000 in
theorem zins_ok {τ : Nat → Nat} {ty : Nat → Option zt} {ms : zm} {m own nL : Nat} {ret : Option FieldType} {i : Instr} {g : zG} (hT : zT τ) (h : zins τ ty ms m own nL i = some g) : ∃ f, iv_op m own nL ret i = .inl f ∧ zS τ ty ms f g := by
  obtain ⟨hW, hS, hM⟩ := hT
  cases i <;> try (cases h; done)
  case iconst n => cases h; exact ⟨_, rfl, zoK_ok _ _⟩
  case bipush n => cases h; exact ⟨_, rfl, zoK_ok _ _⟩
  case sipush n => cases h; exact ⟨_, rfl, zoK_ok _ _⟩
  case lconst n => cases h; exact ⟨_, rfl, zoK_ok _ _⟩
  case ldc k =>
    simp only [zins] at h
    split at h
    · rename_i v z hq
      cases h
      exact ⟨_, by simp only [iv_op, iv_oki, hq], zoK_ok _ _⟩
    · cases h
  case ldc_w k =>
    simp only [zins] at h
    split at h
    · rename_i v z hq
      cases h
      exact ⟨_, by simp only [iv_op, iv_oki, hq], zoK_ok _ _⟩
    · cases h
  case ldc2_w k =>
    simp only [zins] at h
    split at h
    · rename_i v z hq
      cases h
      exact ⟨_, by simp only [iv_op, iv_okj, hq], zoK_ok _ _⟩
    · cases h
  case iload k => cases h; exact ⟨_, rfl, zoI_ok _ _⟩
  case iload_n k => cases h; exact ⟨_, rfl, zoI_ok _ _⟩
  case lload k => cases h; exact ⟨_, rfl, zoJ_ok _ _⟩
  case lload_n k => cases h; exact ⟨_, rfl, zoJ_ok _ _⟩
  case aload k => cases h; exact ⟨_, rfl, zoA_ok _ _⟩
  case aload_n k => cases h; exact ⟨_, rfl, zoA_ok _ _⟩
  case istore k => obtain ⟨h1, rfl⟩ := zlt_in h; exact ⟨_, iv_st_t h1, zoIS_ok _ _ _⟩
  case istore_n k => obtain ⟨h1, rfl⟩ := zlt_in h; exact ⟨_, iv_st_t h1, zoIS_ok _ _ _⟩
  case lstore k => obtain ⟨h1, rfl⟩ := zlt_in h; exact ⟨_, iv_st_t h1, zoJS_ok _ _⟩
  case lstore_n k => obtain ⟨h1, rfl⟩ := zlt_in h; exact ⟨_, iv_st_t h1, zoJS_ok _ _⟩
  case astore k => obtain ⟨h1, rfl⟩ := zlt_in h; exact ⟨_, iv_st_t h1, zoAS_ok _ _ _⟩
  case astore_n k => obtain ⟨h1, rfl⟩ := zlt_in h; exact ⟨_, iv_st_t h1, zoAS_ok _ _ _⟩
  case iinc k n => obtain ⟨h1, rfl⟩ := zlt_in h; exact ⟨_, iv_st_t h1, zoInc_ok _ _⟩
  case iadd => cases h; exact ⟨_, rfl, zoII_ok zadd_ok⟩
  case isub => cases h; exact ⟨_, rfl, zoII_ok zsub_ok⟩
  case imul => cases h; exact ⟨_, rfl, zoII_ok zmul_ok⟩
  case iand => cases h; exact ⟨_, rfl, zoII_ok zand_ok⟩
  case ior => cases h; exact ⟨_, rfl, zoII_ok zor_ok⟩
  case ishl => cases h; exact ⟨_, rfl, zoII_ok zshl_ok⟩
  case ishr => cases h; exact ⟨_, rfl, zoII_ok (zany_ok _)⟩
  case iushr => cases h; exact ⟨_, rfl, zoII_ok zushr_ok⟩
  case idiv => cases h; exact ⟨_, rfl, zoDI_ok zdiv_ok zdiv_nz⟩
  case irem => cases h; exact ⟨_, rfl, zoDI_ok zrem_ok zrem_nz⟩
  case ladd => cases h; exact ⟨_, rfl, zoJJ_ok zjadd_ok⟩
  case lsub => cases h; exact ⟨_, rfl, zoJJ_ok zjsub_ok⟩
  case lmul => cases h; exact ⟨_, rfl, zoJJ_ok zjmul_ok⟩
  case land => cases h; exact ⟨_, rfl, zoJJ_ok (zjany_ok _)⟩
  case lor => cases h; exact ⟨_, rfl, zoJJ_ok (zjany_ok _)⟩
  case lxor => cases h; exact ⟨_, rfl, zoJJ_ok (zjany_ok _)⟩
  case lshl => cases h; exact ⟨_, rfl, zoJI_ok⟩
  case lushr => cases h; exact ⟨_, rfl, zoJI_ok⟩
  case ldiv => cases h; exact ⟨_, rfl, zoDJ_ok zjdiv_ok zjdiv_nz⟩
  case lrem => cases h; exact ⟨_, rfl, zoDJ_ok (zjnz_ok _) zjnz_nz⟩
  case lcmp => cases h; exact ⟨_, rfl, zoCmp_ok⟩
  case i2l => cases h; exact ⟨_, rfl, zoI2L_ok⟩
  case i2c => cases h; exact ⟨_, rfl, zoI2C_ok⟩
  case ineg => cases h; exact ⟨_, rfl, zoNeg_ok⟩
  case l2i => cases h; exact ⟨_, rfl, zoL2I_ok⟩
  case dup => cases h; exact ⟨_, rfl, zoDup_ok⟩
  case pop => cases h; exact ⟨_, rfl, zoPop_ok⟩
  case dup2 => cases h; exact ⟨_, rfl, zoDup2_ok⟩
  case goto off => cases h; exact ⟨_, rfl, zoGo_ok _⟩
  case ifCond c off => cases h; exact ⟨_, rfl, zoIf_ok _ _⟩
  case if_icmp c off => cases h; exact ⟨_, rfl, zoIc_ok _ _⟩
  case if_acmp c off =>
    cases c
    · cases h
    · cases h; exact ⟨_, rfl, zoAc_ok hW _⟩
  case tableswitch dflt lo hi offs =>
    simp only [zins] at h
    cases hb : zeq (offs.toList.length : Int) (hi - lo + 1)
    · rw [hb] at h; cases h
    · rw [hb] at h; cases h; exact ⟨_, rfl, zoTs_ok _ _ _ _ (zbeq.mp hb)⟩
  case lookupswitch dflt ps => cases h; exact ⟨_, rfl, zoLs_ok _ _⟩
  case getfield k =>
    simp only [zins] at h
    split at h
    · rename_i ci j z1 z2 hq
      cases h
      exact ⟨_, by simp only [iv_op, iv_ofd, hq], zoGF_ok _ _⟩
    · cases h
  case putfield k =>
    simp only [zins] at h
    split at h
    · rename_i ci j z1 z2 hq
      cases hb : (bif (iv_T ci j).2.2.2 then iv_mem m iv_ini && Nat.beq own (ci + 1) else true)
      · rw [hb] at h; cases h
      · rw [hb] at h
        cases h
        exact ⟨_, by simp only [iv_op, iv_opf, hq, hb, cond_true], zoPF_ok _ _ _⟩
    · cases h
  case iaload => cases h; exact ⟨_, rfl, zoIl_ok hS⟩
  case laload => cases h; exact ⟨_, rfl, zoJl_ok⟩
  case baload => cases h; exact ⟨_, rfl, zoZl_ok⟩
  case aaload => cases h; exact ⟨_, rfl, zoQl_ok hM⟩
  case arraylength => cases h; exact ⟨_, rfl, zoLen_ok⟩
  case iastore => cases h; exact ⟨_, rfl, zoIst_ok⟩
  case lastore => cases h; exact ⟨_, rfl, zoJst_ok⟩
  case bastore => cases h; exact ⟨_, rfl, zoZst_ok⟩
  case aastore => cases h; exact ⟨_, rfl, zoQst_ok hW⟩
  case getstatic k =>
    simp only [zins] at h
    split at h
    · rename_i a z0 z1 z2 hq
      cases h
      exact ⟨_, by simp only [iv_op, iv_ogs, hq], zoStat_ok _⟩
    · rename_i a z0 z1 z2 hq
      cases h
      exact ⟨_, by simp only [iv_op, iv_ogs, hq], zoStat_ok _⟩
    · cases h
  case invokestatic k =>
    simp only [zins] at h
    split at h
    · rename_i z0 z1 z2 z3 hq
      cases h
      exact ⟨_, by simp only [iv_op, iv_oss, hq], zoCp_ok⟩
    · rename_i z0 z1 z2 z3 hq
      cases h
      exact ⟨_, by simp only [iv_op, iv_oss, hq], zoMax_ok⟩
    · rename_i z0 z1 z2 z3 hq
      cases h
      exact ⟨_, by simp only [iv_op, iv_oss, hq], zoMin_ok⟩
    · rename_i z0 z1 z2 z3 hq
      cases h
      exact ⟨_, by simp only [iv_op, iv_oss, hq], zoAb_ok⟩
    · cases h
  case invokevirtual k =>
    simp only [zins] at h
    split at h
    · rename_i z0 z1 z2 z3 hq
      cases h
      exact ⟨_, by simp only [iv_op, iv_ovi, hq], zoOrd_ok hW⟩
    · cases h
