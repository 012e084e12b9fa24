/-! ===== an abstract machine: cells by labels, values as the machine has them; label 2k: the k-th cell made, 1: the script, 2j+3: the j-th constant of Word, 101: the switch table ===== -/
abbrev iv_E : Type := (Nat × vp_A) ⊕ (Nat × List Value)
abbrev iv_H : Type := List iv_E × Nat
abbrev iv_L : Type := List (Nat × Value)
def iv_f1 {α : Type} : List (Nat × α) → Nat → Option α
  | [], _ => none
  | q :: r, i => bif Nat.beq q.1 i then some q.2 else iv_f1 r i
def iv_nth {α : Type} : List α → Nat → Option α
  | [], _ => none
  | x :: _, 0 => some x
  | _ :: r, n + 1 => iv_nth r n
def iv_d1 (i : Nat) : iv_L → iv_L
  | [] => []
  | q :: r => bif (Nat.beq q.1 i || (Nat.beq (q.1 + 1) i && Nat.beq q.2.category 2)) then iv_d1 i r else q :: iv_d1 i r
def iv_d2 (i : Nat) : iv_L → iv_L
  | [] => []
  | q :: r => bif (Nat.beq q.1 i || (Nat.beq q.1 (i + 1) || (Nat.beq (q.1 + 1) i && Nat.beq q.2.category 2))) then iv_d2 i r else q :: iv_d2 i r
def iv_tgt (pc : Nat) (off : Int) : Option Nat := match Int.ofNat pc + off with
  | .ofNat n => some n
  | .negSucc _ => none
def iv_ldI (lv : iv_L) (k : Nat) : Option Value := match iv_f1 lv k with
  | some (.int x) => some (.int x)
  | _ => none
def iv_ldL (lv : iv_L) (k : Nat) : Option Value := match iv_f1 lv k with
  | some (.long x) => some (.long x)
  | _ => none
def iv_ldA (lv : iv_L) (k : Nat) : Option Value := match iv_f1 lv k with
  | some (.ref x) => some (.ref x)
  | _ => none
def iv_c2 (c : ClassFile.Cond) (x y : Int32) : Bool := match c with
  | .eq => decide (x = y)
  | .ne => decide (¬ x = y)
  | .lt => decide (x < y)
  | .ge => decide (y ≤ x)
  | .gt => decide (y < x)
  | .le => decide (x ≤ y)
def iv_ii (f : Int32 → Int32 → Int32) (vy vx : Value) : Option Value := match vy, vx with
  | .int y, .int x => some (.int (f x y))
  | _, _ => none
def iv_jj (f : Int64 → Int64 → Int64) (vy vx : Value) : Option Value := match vy, vx with
  | .long y, .long x => some (.long (f x y))
  | _, _ => none
def iv_ji (f : Int64 → Int32 → Int64) (vy vx : Value) : Option Value := match vy, vx with
  | .int y, .long x => some (.long (f x y))
  | _, _ => none
def iv_2 (f : Value → Value → Option Value) (pc : Nat) (lv : iv_L) (st : List Value) : Option (Nat × iv_L × List Value) := match st with
  | vy :: vx :: r => match f vy vx with
    | some v => some (pc + 1, lv, v :: r)
    | none => none
  | _ => none
def iv_br (b : Bool) (pc : Nat) (off : Int) (lv : iv_L) (r : List Value) : Option (Nat × iv_L × List Value) := match iv_tgt pc off with
  | some t => bif b then some (t, lv, r) else some (pc + 3, lv, r)
  | none => none
def iv_pl (v : Option Value) (pc : Nat) (lv : iv_L) (st : List Value) : Option (Nat × iv_L × List Value) := match v with
  | some v => some (pc, lv, v :: st)
  | none => none
def iv_s1 (nL k : Nat) (v : Value) (pc : Nat) (lv : iv_L) (r : List Value) : Option (Nat × iv_L × List Value) := bif Nat.blt k nL then some (pc, (k, v) :: iv_d1 k lv, r) else none
def iv_s2 (nL k : Nat) (v : Value) (pc : Nat) (lv : iv_L) (r : List Value) : Option (Nat × iv_L × List Value) := bif Nat.blt (k + 1) nL then some (pc, (k, v) :: iv_d2 k lv, r) else none
def iv_sI (nL k pc : Nat) (lv : iv_L) (st : List Value) : Option (Nat × iv_L × List Value) := match st with
  | .int x :: r => iv_s1 nL k (.int x) pc lv r
  | _ => none
def iv_sJ (nL k pc : Nat) (lv : iv_L) (st : List Value) : Option (Nat × iv_L × List Value) := match st with
  | .long x :: r => iv_s2 nL k (.long x) pc lv r
  | _ => none
def iv_sA (nL k pc : Nat) (lv : iv_L) (st : List Value) : Option (Nat × iv_L × List Value) := match st with
  | .ref x :: r => iv_s1 nL k (.ref x) pc lv r
  | _ => none
def iv_sw1 (pc : Nat) (off : Int) (lv : iv_L) (r : List Value) : Option (Nat × iv_L × List Value) := match iv_tgt pc off with
  | some t => some (t, lv, r)
  | none => none
/-- instructions that leave the heap alone -/
def iv_pure (q : List (Nat × Value × Nat)) (nL : Nat) (i : Instr) (pc : Nat) (lv : iv_L) (st : List Value) : Option (Nat × iv_L × List Value) :=
  match i with
  | .iconst n => some (pc + 1, lv, .int (Int32.ofInt n) :: st)
  | .bipush n => some (pc + 2, lv, .int (Int8.ofInt n).toInt32 :: st)
  | .sipush n => some (pc + 3, lv, .int (Int16.ofInt n).toInt32 :: st)
  | .lconst n => some (pc + 1, lv, .long (Int64.ofNat n.val) :: st)
  | .ldc k => match iv_f1 q k with
    | some (.int v, _) => some (pc + 2, lv, .int v :: st)
    | _ => none
  | .ldc_w k => match iv_f1 q k with
    | some (.int v, _) => some (pc + 3, lv, .int v :: st)
    | _ => none
  | .ldc2_w k => match iv_f1 q k with
    | some (.long v, _) => some (pc + 3, lv, .long v :: st)
    | _ => none
  | .iload k => iv_pl (iv_ldI lv k) (pc + 2) lv st
  | .iload_n k => iv_pl (iv_ldI lv k.val) (pc + 1) lv st
  | .lload k => iv_pl (iv_ldL lv k) (pc + 2) lv st
  | .lload_n k => iv_pl (iv_ldL lv k.val) (pc + 1) lv st
  | .aload k => iv_pl (iv_ldA lv k) (pc + 2) lv st
  | .aload_n k => iv_pl (iv_ldA lv k.val) (pc + 1) lv st
  | .istore k => iv_sI nL k (pc + 2) lv st
  | .istore_n k => iv_sI nL k.val (pc + 1) lv st
  | .lstore k => iv_sJ nL k (pc + 2) lv st
  | .lstore_n k => iv_sJ nL k.val (pc + 1) lv st
  | .astore k => iv_sA nL k (pc + 2) lv st
  | .astore_n k => iv_sA nL k.val (pc + 1) lv st
  | .iinc k n => match iv_f1 lv k with
    | some (.int x) => iv_s1 nL k (.int (x + Int32.ofInt n)) (pc + 3) lv st
    | _ => none
  | .iadd => iv_2 (iv_ii fun x y => x + y) pc lv st
  | .isub => iv_2 (iv_ii fun x y => x - y) pc lv st
  | .imul => iv_2 (iv_ii fun x y => x * y) pc lv st
  | .iand => iv_2 (iv_ii fun x y => x &&& y) pc lv st
  | .ior => iv_2 (iv_ii fun x y => x ||| y) pc lv st
  | .ishl => iv_2 (iv_ii fun x y => x <<< (y &&& 31)) pc lv st
  | .ishr => iv_2 (iv_ii fun x y => x >>> (y &&& 31)) pc lv st
  | .iushr => iv_2 (iv_ii fun x y => (x.toUInt32 >>> (y.toUInt32 &&& Int32.toUInt32 31)).toInt32) pc lv st
  | .idiv => match st with
    | .int y :: .int x :: r => bif decide (y = 0) then none else some (pc + 1, lv, .int (x / y) :: r)
    | _ => none
  | .irem => match st with
    | .int y :: .int x :: r => bif decide (y = 0) then none else some (pc + 1, lv, .int (x - x / y * y) :: r)
    | _ => none
  | .ladd => iv_2 (iv_jj fun x y => x + y) pc lv st
  | .lsub => iv_2 (iv_jj fun x y => x - y) pc lv st
  | .lmul => iv_2 (iv_jj fun x y => x * y) pc lv st
  | .land => iv_2 (iv_jj fun x y => x &&& y) pc lv st
  | .lor => iv_2 (iv_jj fun x y => x ||| y) pc lv st
  | .lxor => iv_2 (iv_jj fun x y => x ^^^ y) pc lv st
  | .lshl => iv_2 (iv_ji fun x y => x <<< (y.toInt64 &&& 63)) pc lv st
  | .lushr => iv_2 (iv_ji fun x y => (x.toUInt64 >>> (y.toInt64.toUInt64 &&& Int64.toUInt64 63)).toInt64) pc lv st
  | .ldiv => match st with
    | .long y :: .long x :: r => bif decide (y = 0) then none else some (pc + 1, lv, .long (x / y) :: r)
    | _ => none
  | .lcmp => match st with
    | .long y :: .long x :: r => some (pc + 1, lv, .int (lg_cmp x y) :: r)
    | _ => none
  | .ineg => match st with
    | .int x :: r => some (pc + 1, lv, .int (0 - x) :: r)
    | _ => none
  | .i2l => match st with
    | .int x :: r => some (pc + 1, lv, .long x.toInt64 :: r)
    | _ => none
  | .l2i => match st with
    | .long x :: r => some (pc + 1, lv, .int x.toInt32 :: r)
    | _ => none
  | .i2c => match st with
    | .int x :: r => some (pc + 1, lv, .int (x.toUInt32 % 65536).toInt32 :: r)
    | _ => none
  | .dup => match st with
    | v :: r => bif Nat.beq v.category 1 then some (pc + 1, lv, v :: v :: r) else none
    | _ => none
  | .pop => match st with
    | v :: r => bif Nat.beq v.category 1 then some (pc + 1, lv, r) else none
    | _ => none
  | .dup2 => match st with
    | v :: w :: r => bif (Nat.beq v.category 1 && Nat.beq w.category 1) then some (pc + 1, lv, v :: w :: v :: w :: r) else none
    | _ => none
  | .goto off => iv_sw1 pc off lv st
  | .ifCond c off => match st with
    | .int x :: r => iv_br (iv_c2 c x 0) pc off lv r
    | _ => none
  | .if_icmp c off => match st with
    | .int y :: .int x :: r => iv_br (iv_c2 c x y) pc off lv r
    | _ => none
  | .tableswitch dflt lo hi offs => match st with
    | .int x :: r => bif (decide (x.toInt < lo) || decide (hi < x.toInt)) then iv_sw1 pc dflt lv r else match iv_nth offs.toList (x.toInt - lo).toNat with
      | some off => iv_sw1 pc off lv r
      | none => none
    | _ => none
  | .lookupswitch dflt ps => match st with
    | .int x :: r => bif ((ps.toList.zip (ps.toList.drop 1)).all (fun (a, next) => a.1 < next.1)) then iv_sw1 pc (Op.lookupswitch.offset ps.toList dflt x.toInt) lv r else none
    | _ => none
  | _ => none
def iv_in (i : Int32) (n : Nat) : Bool := bif decide (i < 0) then false else Nat.blt i.toNatClampNeg n
def iv_get (σ : List iv_E) (a : Nat) : Option iv_E := bif Nat.beq (a % 2) 0 then iv_nth σ (a / 2) else none
def iv_isW (a : Nat) : Bool := Nat.beq (a % 2) 1 && (Nat.ble 3 a && Nat.ble a 57)
def iv_fit (ty : FieldType) (v : Value) : Bool := match ty, v with
  | .int, .int _ => true
  | .boolean, .int x => decide (x = 0) || decide (x = 1)
  | .long, .long _ => true
  | .object _, .ref _ => true
  | .array _, .ref _ => true
  | _, _ => false
def iv_fty (ci : Nat) : Nat → FieldType := match ci with
  | 0 => tyX1
  | 1 => tyX2
  | 2 => tyX3
  | 3 => tyX4
  | 4 => tyX5
  | 5 => tyX6
  | 6 => tyX7
  | 7 => tyX8
  | 8 => tyX9
  | 9 => tyX10
  | 10 => tyX11
  | 11 => tyX12
  | _ => tyX13
def iv_T (ci : Nat) : u_T := match ci with
  | 0 => TX1
  | 1 => TX2
  | 2 => TX3
  | 3 => TX4
  | 4 => TX5
  | 5 => TX6
  | 6 => TX7
  | 7 => TX8
  | 8 => TX9
  | 9 => TX10
  | 10 => TX11
  | 11 => TX12
  | _ => TX13
/-- how many fields -/
def iv_fn (ci : Nat) : Nat := match ci with
  | 0 => 9
  | 1 => 3
  | 2 => 9
  | 3 => 16
  | 4 => 3
  | 5 => 13
  | 6 => 5
  | 7 => 13
  | 8 => 2
  | 9 => 2
  | 10 => 0
  | 11 => 20
  | _ => 49
/-- the class of an array's elements, by the array's tag -/
def iv_ec (t : Nat) : Nat := match t with
  | 3 => 3
  | 4 => 7
  | 5 => 6
  | 6 => 10
  | _ => 99
/-- the tag of an array of objects of a class -/
def iv_ta (ci : Nat) : Nat := match ci with
  | 3 => 3
  | 7 => 4
  | 6 => 5
  | _ => 99
def iv_dv (ty : FieldType) : Value := match ty with
  | .int => .int 0
  | .boolean => .int 0
  | .long => .long 0
  | _ => .null
def iv_cs (st : List Value) : Nat := match st with
  | [] => 0
  | v :: r => v.category + iv_cs r
def iv_swl : List Int32 := [0, 1, 2, 3, 4, 5, 6, 9, 10, 11, 12, 7, 8, 13, 14, 15, 27, 26, 16, 22, 23, 24, 25, 17, 18, 19, 20, 21]
def iv_sw (j : Nat) : Int32 := match iv_nth iv_swl j with
  | some v => v
  | none => 0
/-- the constructors -/
def iv_mem (m : Nat) : List Nat → Bool
  | [] => false
  | x :: r => bif Nat.beq x m then true else iv_mem m r
def iv_lkF (own k : Nat) : Option (Nat × Nat) := match iv_f1 (iv_ls own) k with
  | some (0, ci, j, _, _) => some (ci, j)
  | _ => none
/-- a field of an object -/
def iv_getf (own k : Nat) (st : List Value) (σ : iv_H) : Option (List Value × iv_H) := match iv_lkF own k, st with
  | some (ci, j), .ref a :: r => match iv_get σ.1 a with
    | some (.inr (c2, fs)) => bif Nat.beq ci c2 then (match iv_nth fs j with
      | some v => some (v :: r, σ)
      | none => none) else none
    | _ => none
  | _, _ => none
def iv_putf (m own k : Nat) (st : List Value) (σ : iv_H) : Option (List Value × iv_H) := match iv_lkF own k, st with
  | some (ci, j), v :: .ref a :: r => match iv_get σ.1 a with
    | some (.inr (c2, fs)) => bif (Nat.beq ci c2 && (iv_fit (iv_fty ci j) v && Nat.blt j fs.length)) && (bif (iv_T ci j).2.2.2 then iv_mem m iv_ini && Nat.beq own (ci + 1) else true) then some (r, (σ.1.set (a / 2) (.inr (ci, fs.set j v)), σ.2)) else none
    | _ => none
  | _, _ => none
def iv_ald (L : Nat) (xs : Nat → Int32) (st : List Value) (σ : iv_H) : Option (List Value × iv_H) := match st with
  | .int i :: .ref a :: r => bif Nat.beq a 1 then (bif iv_in i L then some (.int (xs i.toNatClampNeg) :: r, σ) else none)
    else bif Nat.beq a 101 then (bif iv_in i 28 then some (.int (iv_sw i.toNatClampNeg) :: r, σ) else none)
    else match iv_get σ.1 a with
    | some (.inl (0, n, .inl f)) => bif iv_in i n then some (.int (f i.toNatClampNeg) :: r, σ) else none
    | _ => none
  | _ => none
def iv_jld (st : List Value) (σ : iv_H) : Option (List Value × iv_H) := match st with
  | .int i :: .ref a :: r => match iv_get σ.1 a with
    | some (.inl (1, n, .inr (.inl f))) => bif iv_in i n then some (.long (f i.toNatClampNeg) :: r, σ) else none
    | _ => none
  | _ => none
def iv_zld (st : List Value) (σ : iv_H) : Option (List Value × iv_H) := match st with
  | .int i :: .ref a :: r => match iv_get σ.1 a with
    | some (.inl (2, n, .inl f)) => bif iv_in i n then some (.int (f i.toNatClampNeg) :: r, σ) else none
    | _ => none
  | _ => none
def iv_qld (st : List Value) (σ : iv_H) : Option (List Value × iv_H) := match st with
  | .int i :: .ref a :: r => match iv_get σ.1 a with
    | some (.inl (t, n, .inr (.inr (.inr (.inr f))))) => bif iv_in i n && (Nat.ble 3 t && Nat.ble t 7) then some (va_rf (f i.toNatClampNeg) :: r, σ) else none
    | _ => none
  | _ => none
def iv_len (L : Nat) (st : List Value) (σ : iv_H) : Option (List Value × iv_H) := match st with
  | .ref a :: r => bif Nat.beq a 1 then some (.int (Int32.ofNat L) :: r, σ) else match iv_get σ.1 a with
    | some (.inl (t, x)) => bif Nat.ble t 7 then some (.int (Int32.ofNat x.1) :: r, σ) else none
    | _ => none
  | _ => none
def iv_ast (st : List Value) (σ : iv_H) : Option (List Value × iv_H) := match st with
  | .int x :: .int i :: .ref a :: r => match iv_get σ.1 a with
    | some (.inl (0, n, .inl f)) => bif iv_in i n then some (r, (σ.1.set (a / 2) (.inl (0, n, .inl (upd f i.toNatClampNeg x))), σ.2)) else none
    | _ => none
  | _ => none
def iv_jst (st : List Value) (σ : iv_H) : Option (List Value × iv_H) := match st with
  | .long x :: .int i :: .ref a :: r => match iv_get σ.1 a with
    | some (.inl (1, n, .inr (.inl f))) => bif iv_in i n then some (r, (σ.1.set (a / 2) (.inl (1, n, .inr (.inl (vp_updL f i.toNatClampNeg x)))), σ.2)) else none
    | _ => none
  | _ => none
def iv_zst (st : List Value) (σ : iv_H) : Option (List Value × iv_H) := match st with
  | .int x :: .int i :: .ref a :: r => match iv_get σ.1 a with
    | some (.inl (2, n, .inl f)) => bif iv_in i n && (decide (x = 0) || decide (x = 1)) then some (r, (σ.1.set (a / 2) (.inl (2, n, .inl (upd f i.toNatClampNeg x))), σ.2)) else none
    | _ => none
  | _ => none
/-- the class of the object at a label -/
def iv_co (σ : List iv_E) (v : Nat) : Nat := bif iv_isW v then 10 else match iv_get σ v with
  | some (.inr (c, _)) => c
  | _ => 98
def iv_qst (st : List Value) (σ : iv_H) : Option (List Value × iv_H) := match st with
  | .ref v :: .int i :: .ref a :: r => match iv_get σ.1 a with
    | some (.inl (t, n, .inr (.inr (.inr (.inr f))))) => bif iv_in i n && (Nat.ble t 7 && Nat.beq (iv_ec t) (iv_co σ.1 v)) then some (r, (σ.1.set (a / 2) (.inl (t, n, .inr (.inr (.inr (.inr (va_up f i.toNatClampNeg (some v)))))) ), σ.2)) else none
    | _ => none
  | _ => none
def iv_dvs (ty : Nat → FieldType) : Nat → List Value
  | 0 => []
  | n + 1 => iv_dvs ty n ++ [iv_dv (ty n)]
def iv_new (own k : Nat) (st : List Value) (σ : iv_H) : Option (List Value × iv_H) := match iv_f1 (iv_ls own) k with
  | some (1, ci, _, _, _) => some (.ref (2 * σ.1.length) :: st, (σ.1 ++ [.inr (ci, iv_dvs (iv_fty ci) (iv_fn ci))], σ.2 + iv_fn ci))
  | _ => none
def iv_newa (t : ArrayType) (st : List Value) (σ : iv_H) : Option (List Value × iv_H) := match st with
  | .int n :: r => bif decide (n < 0) || Nat.blt 60000000 n.toNatClampNeg then none else match t with
    | .int => some (.ref (2 * σ.1.length) :: r, (σ.1 ++ [.inl (0, n.toNatClampNeg, .inl (fun _ => 0))], σ.2 + n.toNatClampNeg))
    | .long => some (.ref (2 * σ.1.length) :: r, (σ.1 ++ [.inl (1, n.toNatClampNeg, .inr (.inl (fun _ => 0)))], σ.2 + n.toNatClampNeg))
    | .boolean => some (.ref (2 * σ.1.length) :: r, (σ.1 ++ [.inl (2, n.toNatClampNeg, .inl (fun _ => 0))], σ.2 + n.toNatClampNeg))
    | _ => none
  | _ => none
def iv_tag (own k : Nat) : Nat := match iv_f1 (iv_ls own) k with
  | some (2, t, _, _, _) => t
  | some (1, ci, _, _, _) => iv_ta ci
  | _ => 99
def iv_newq (own k : Nat) (st : List Value) (σ : iv_H) : Option (List Value × iv_H) := match st with
  | .int n :: r => bif decide (n < 0) || (Nat.blt 60000000 n.toNatClampNeg || Nat.blt 7 (iv_tag own k)) then none else some (.ref (2 * σ.1.length) :: r, (σ.1 ++ [.inl (iv_tag own k, n.toNatClampNeg, .inr (.inr (.inr (.inr (fun _ => none)))))], σ.2 + n.toNatClampNeg))
  | _ => none
/-- new int[n][k]: the rows lie behind the outer array -/
def iv_newm (own k : Nat) (st : List Value) (σ : iv_H) : Option (List Value × iv_H) := match iv_f1 (iv_ls own) k, st with
  | some (3, _, _, _, _), .int j :: .int n :: r => bif (decide (n < 0) || decide (j < 0)) || (Nat.blt 60000000 n.toNatClampNeg || Nat.blt 60000000 j.toNatClampNeg) then none
    else some (.ref (2 * σ.1.length) :: r, (σ.1 ++ (.inl (7, n.toNatClampNeg, .inr (.inr (.inr (.inr (fun i => if i < n.toNatClampNeg then some (2 * (σ.1.length + 1 + i)) else none))))) :: List.replicate n.toNatClampNeg (.inl (0, j.toNatClampNeg, .inl (fun _ => 0)))), σ.2 + n.toNatClampNeg + n.toNatClampNeg * j.toNatClampNeg))
  | _, _ => none
def iv_gets (own k : Nat) (st : List Value) (σ : iv_H) : Option (List Value × iv_H) := match iv_f1 (iv_ls own) k with
  | some (10, a, _, _, _) => some (.ref a :: st, σ)
  | some (12, a, _, _, _) => some (.ref a :: st, σ)
  | _ => none
def iv_copy (st : List Value) (σ : iv_H) : Option (List Value × iv_H) := match st with
  | .int n :: .int dp :: .ref b :: .int sp :: .ref a :: r => bif (decide (sp < 0) || decide (dp < 0)) || (decide (n < 0) || Nat.blt 8 (iv_cs r)) then none else match iv_get σ.1 a, iv_get σ.1 b with
    | some (.inl (0, n0, .inl f)), some (.inl (0, n1, .inl g)) => bif Nat.ble (sp.toNatClampNeg + n.toNatClampNeg) n0 && Nat.ble (dp.toNatClampNeg + n.toNatClampNeg) n1 then some (r, (σ.1.set (b / 2) (.inl (0, n1, .inl (va_cpy f g sp.toNatClampNeg dp.toNatClampNeg n.toNatClampNeg))), σ.2)) else none
    | some (.inl (1, n0, .inr (.inl f))), some (.inl (1, n1, .inr (.inl g))) => bif Nat.ble (sp.toNatClampNeg + n.toNatClampNeg) n0 && Nat.ble (dp.toNatClampNeg + n.toNatClampNeg) n1 then some (r, (σ.1.set (b / 2) (.inl (1, n1, .inr (.inl (va_cpy f g sp.toNatClampNeg dp.toNatClampNeg n.toNatClampNeg)))), σ.2)) else none
    | _, _ => none
  | _ => none
def iv_spec (own k : Nat) (st : List Value) (σ : iv_H) : Option (List Value × iv_H) := match iv_f1 (iv_ls own) k, st with
  | some (8, _, _, _, _), .ref _ :: r => bif Nat.blt 8 (iv_cs r) then none else some (r, σ)
  | _, _ => none
def iv_stat (own k : Nat) (st : List Value) (σ : iv_H) : Option (List Value × iv_H) := match iv_f1 (iv_ls own) k with
  | some (9, _, _, _, _) => iv_copy st σ
  | _ => none
def iv_virt (own k : Nat) (st : List Value) (σ : iv_H) : Option (List Value × iv_H) := match iv_f1 (iv_ls own) k, st with
  | some (11, _, _, _, _), .ref a :: r => bif iv_isW a && Nat.ble (iv_cs r) 8 then some (.int (Int32.ofNat ((a - 3) / 2)) :: r, σ) else none
  | _, _ => none
/-- instructions on the heap -/
def iv_heap (m own L : Nat) (xs : Nat → Int32) (i : Instr) (st : List Value) (σ : iv_H) : Option (List Value × iv_H) :=
  match i with
  | .getfield k => iv_getf own k st σ
  | .putfield k => iv_putf m own k st σ
  | .iaload => iv_ald L xs st σ
  | .laload => iv_jld st σ
  | .baload => iv_zld st σ
  | .aaload => iv_qld st σ
  | .arraylength => iv_len L st σ
  | .iastore => iv_ast st σ
  | .lastore => iv_jst st σ
  | .bastore => iv_zst st σ
  | .aastore => iv_qst st σ
  | .new k => iv_new own k st σ
  | .newarray t => iv_newa t st σ
  | .anewarray k => iv_newq own k st σ
  | .multianewarray k 2 => iv_newm own k st σ
  | .getstatic k => iv_gets own k st σ
  | .invokespecial k => iv_spec own k st σ
  | .invokestatic k => iv_stat own k st σ
  | .invokevirtual k => iv_virt own k st σ
  | _ => none
/-- two constants of Word compared -/
def iv_acmp (i : Instr) (pc : Nat) (lv : iv_L) (st : List Value) : Option (Nat × iv_L × List Value) := match i, st with
  | .if_acmp .ne off, .ref b :: .ref a :: r => bif iv_isW a && iv_isW b then iv_br (bif Nat.beq a b then false else true) pc off lv r else none
  | _, _ => none
def iv_ret (ret : Option FieldType) (i : Instr) (st : List Value) : Option (Option Value) := match i, ret, st with
  | .ireturn, some .int, [.int v] => some (some (.int v))
  | .ireturn, some .boolean, [.int v] => bif decide (v = 0) || decide (v = 1) then some (some (.int v)) else none
  | .lreturn, some .long, [.long v] => some (some (.long v))
  | .areturn, some (.object _), [.ref a] => some (some (.ref a))
  | .return_, none, [] => some none
  | _, _, _ => none
def iv_pop (n : Nat) (st acc : List Value) : Option (List Value × List Value) := match n, st with
  | 0, st => some (acc, st)
  | n + 1, v :: r => iv_pop n r (v :: acc)
  | _ + 1, [] => none
/-- a call: the callee, its arguments, what stays on the stack -/
def iv_call (own : Nat) (i : Instr) (st : List Value) (σ : List iv_E) : Option (Nat × List Value × List Value) := match i with
  | .invokestatic k => match iv_f1 (iv_ls own) k with
    | some (4, m, n, _, _) => match iv_pop n st [] with
      | some (as, r) => bif Nat.ble (iv_cs r) 8 then some (m, as, r) else none
      | none => none
    | _ => none
  | .invokespecial k => match iv_f1 (iv_ls own) k with
    | some (5, m, n, _, _) => match iv_pop n st [] with
      | some (as, .ref a :: r) => bif Nat.ble (iv_cs r) 8 then some (m, .ref a :: as, r) else none
      | _ => none
    | some (7, m, n, _, _) => match iv_pop n st [] with
      | some (as, .ref a :: r) => bif Nat.ble (iv_cs r) 8 then some (m, .ref a :: as, r) else none
      | _ => none
    | _ => none
  | .invokevirtual k => match iv_f1 (iv_ls own) k with
    | some (6, m, n, ci, _) => match iv_pop n st [] with
      | some (as, .ref a :: r) => bif Nat.ble (iv_cs r) 8 then (match iv_get σ a with
        | some (.inr (c2, _)) => bif Nat.beq ci c2 then some (m, .ref a :: as, r) else none
        | _ => none) else none
      | _ => none
    | _ => none
  | _ => none
def iv_run (L : Nat) (xs : Nat → Int32) : Nat → Nat → iv_M → Nat → iv_L → List Value → iv_H → Option (Option Value × iv_H)
  | 0, _, _, _, _, _, _ => none
  | n + 1, d, M, pc, lv, st, σ =>
    match iv_f1 M.2.2.2.2 pc with
    | none => none
    | some (i, len) =>
      match iv_pure (iv_qs M.2.1) M.2.2.1 i pc lv st with
      | some (pc', lv', st') => iv_run L xs n d M pc' lv' st' σ
      | none => match iv_heap M.1 M.2.1 L xs i st σ with
        | some (st', σ') => iv_run L xs n d M (pc + len) lv st' σ'
        | none => match iv_ret M.2.2.2.1 i st with
          | some r => some (r, σ)
          | none => match iv_call M.2.1 i st σ.1 with
            | some (m, as, rest) => match d with
              | 0 => none
              | d' + 1 => match iv_run L xs n d' (iv_m m) 0 (lv_args 0 as) [] σ with
                | some (r, σ') => iv_run L xs n (d' + 1) M (pc + 3) lv (r.toList ++ rest) σ'
                | none => none
            | none => match iv_acmp i pc lv st with
              | some (pc', lv', st') => iv_run L xs n d M pc' lv' st' σ
              | none => none
