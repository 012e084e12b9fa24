/-! ===== an abstract machine: cells by labels, values as the machine has them; label 2k: the k-th cell made, 1: the script, 2j+3: the j-th constant of Word, 101: the switch table, 103: Word.ALL, 2i+203: the i-th String constant ===== -/
abbrev iv_E : Type := (Nat × vp_A) ⊕ (Nat × List Value)
/-- how many cells were made, what they hold, how many slots they have -/
abbrev iv_H : Type := Nat × (Nat → iv_E) × Nat
abbrev iv_L : Type := List (Nat × Value)
def iv_f1 {α : Type} : List (Nat × α) → Nat → Option α
  | [], _ => none
  | q :: r, i => bif Nat.beq q.1 i then some q.2 else iv_f1 r i
def iv_nth {α : Type} : List α → Nat → Option α
  | [], _ => none
  | x :: _, 0 => some x
  | _ :: r, n + 1 => iv_nth r n
def iv_d1 (i : Nat) : iv_L → iv_L
  | [] => []
  | q :: r => bif (Nat.beq q.1 i || (Nat.beq (q.1 + 1) i && Nat.beq q.2.category 2)) then iv_d1 i r else q :: iv_d1 i r
def iv_d2 (i : Nat) : iv_L → iv_L
  | [] => []
  | q :: r => bif (Nat.beq q.1 i || (Nat.beq q.1 (i + 1) || (Nat.beq (q.1 + 1) i && Nat.beq q.2.category 2))) then iv_d2 i r else q :: iv_d2 i r
def iv_tgt (pc : Nat) (off : Int) : Option Nat := match Int.ofNat pc + off with
  | .ofNat n => some n
  | .negSucc _ => none
def iv_c2 (c : ClassFile.Cond) (x y : Int32) : Bool := match c with
  | .eq => decide (x = y)
  | .ne => decide (¬ x = y)
  | .lt => decide (x < y)
  | .ge => decide (y ≤ x)
  | .gt => decide (y < x)
  | .le => decide (x ≤ y)
def iv_in (i : Int32) (n : Nat) : Bool := bif decide (i < 0) then false else Nat.blt i.toNatClampNeg n
def iv_fp {β : Type} (n : Nat) (k : Nat → β) : β := match n with
  | 0 => k 0
  | m + 1 => k (m + 1)
def iv_up (f : Nat → iv_E) (k : Nat) (e : iv_E) : Nat → iv_E := fun j => bif Nat.beq j k then e else f j
def iv_ups (f : Nat → iv_E) (k n : Nat) (o e : iv_E) : Nat → iv_E := fun j => bif Nat.beq j k then o else bif (Nat.blt k j && Nat.ble j (k + n)) then e else f j
def iv_get (σ : iv_H) (a : Nat) : Option iv_E := bif Nat.beq (a % 2) 0 then iv_fp (a / 2) (fun j => bif Nat.blt j σ.1 then some (σ.2.1 j) else none) else none
def iv_put (σ : iv_H) (a : Nat) (e : iv_E) : iv_H := iv_fp (a / 2) fun k => (σ.1, iv_up σ.2.1 k e, σ.2.2)
def iv_psh (σ : iv_H) (e : iv_E) (sl : Nat) : iv_H := iv_fp σ.1 fun n => (n + 1, iv_up σ.2.1 n e, σ.2.2 + sl)
def iv_isW (a : Nat) : Bool := Nat.beq (a % 2) 1 && (Nat.ble 3 a && Nat.ble a 57)
def iv_fit (ty : FieldType) (v : Value) : Bool := match ty, v with
  | .int, .int _ => true
  | .boolean, .int x => decide (x = 0) || decide (x = 1)
  | .long, .long _ => true
  | .object _, .ref _ => true
  | .array _, .ref _ => true
  | _, _ => false
def iv_fty (ci : Nat) : Nat → FieldType := match ci with
  | 0 => tyX1
  | 1 => tyX2
  | 2 => tyX3
  | 3 => tyX4
  | 4 => tyX5
  | 5 => tyX6
  | 6 => tyX7
  | 7 => tyX8
  | 8 => tyX9
  | 9 => tyX10
  | 10 => tyX11
  | 11 => tyX12
  | _ => tyX13
def iv_T (ci : Nat) : u_T := match ci with
  | 0 => TX1
  | 1 => TX2
  | 2 => TX3
  | 3 => TX4
  | 4 => TX5
  | 5 => TX6
  | 6 => TX7
  | 7 => TX8
  | 8 => TX9
  | 9 => TX10
  | 10 => TX11
  | 11 => TX12
  | _ => TX13
/-- how many fields -/
def iv_fn (ci : Nat) : Nat := match ci with
  | 0 => 9
  | 1 => 3
  | 2 => 9
  | 3 => 16
  | 4 => 3
  | 5 => 13
  | 6 => 5
  | 7 => 13
  | 8 => 2
  | 9 => 2
  | 10 => 0
  | 11 => 20
  | _ => 49
/-- the class of an array's elements, by the array's tag -/
def iv_ec (t : Nat) : Nat := match t with
  | 3 => 3
  | 4 => 7
  | 5 => 6
  | 6 => 10
  | _ => 99
/-- the tag of an array of objects of a class -/
def iv_ta (ci : Nat) : Nat := match ci with
  | 3 => 3
  | 7 => 4
  | 6 => 5
  | _ => 99
def iv_dv (ty : FieldType) : Value := match ty with
  | .int => .int 0
  | .boolean => .int 0
  | .long => .long 0
  | _ => .null
def iv_cs (st : List Value) : Nat := match st with
  | [] => 0
  | v :: r => v.category + iv_cs r
def iv_swl : List Int32 := [0, 1, 2, 3, 4, 5, 6, 9, 10, 11, 12, 7, 8, 13, 14, 15, 27, 26, 16, 22, 23, 24, 25, 17, 18, 19, 20, 21]
def iv_sw (j : Nat) : Int32 := match iv_nth iv_swl j with
  | some v => v
  | none => 0
/-- the constructors -/
def iv_mem (m : Nat) : List Nat → Bool
  | [] => false
  | x :: r => bif Nat.beq x m then true else iv_mem m r

/-! operations, each for itself: the script, the place, the locals, the stack, the cells; what they are behind it -/
abbrev iv_X : Type := Option (Nat × iv_L × List Value × iv_H)
abbrev iv_F : Type := Nat → (Nat → Int32) → Nat → iv_L → List Value → iv_H → iv_X
abbrev iv_O : Type := iv_F ⊕ (Nat ⊕ (Nat × Nat × Nat × Nat))
def iv_oN : iv_F := fun _ _ _ _ _ _ => none
def iv_oK (v : Value) (len : Nat) : iv_F := fun _ _ pc lv st σ => some (pc + len, lv, v :: st, σ)
def iv_oI (k len : Nat) : iv_F := fun _ _ pc lv st σ => match iv_f1 lv k with
  | some (.int x) => some (pc + len, lv, .int x :: st, σ)
  | _ => none
def iv_oJ (k len : Nat) : iv_F := fun _ _ pc lv st σ => match iv_f1 lv k with
  | some (.long x) => some (pc + len, lv, .long x :: st, σ)
  | _ => none
def iv_oA (k len : Nat) : iv_F := fun _ _ pc lv st σ => match iv_f1 lv k with
  | some (.ref x) => some (pc + len, lv, .ref x :: st, σ)
  | _ => none
def iv_oIS (k len : Nat) : iv_F := fun _ _ pc lv st σ => match st with
  | .int x :: r => some (pc + len, (k, .int x) :: iv_d1 k lv, r, σ)
  | _ => none
def iv_oJS (k len : Nat) : iv_F := fun _ _ pc lv st σ => match st with
  | .long x :: r => some (pc + len, (k, .long x) :: iv_d2 k lv, r, σ)
  | _ => none
def iv_oAS (k len : Nat) : iv_F := fun _ _ pc lv st σ => match st with
  | .ref x :: r => some (pc + len, (k, .ref x) :: iv_d1 k lv, r, σ)
  | _ => none
def iv_oInc (k : Nat) (n : Int) : iv_F := fun _ _ pc lv st σ => match iv_f1 lv k with
  | some (.int x) => some (pc + 3, (k, .int (x + Int32.ofInt n)) :: iv_d1 k lv, st, σ)
  | _ => none
def iv_oII (f : Int32 → Int32 → Int32) : iv_F := fun _ _ pc lv st σ => match st with
  | .int y :: .int x :: r => some (pc + 1, lv, .int (f x y) :: r, σ)
  | _ => none
def iv_oJJ (f : Int64 → Int64 → Int64) : iv_F := fun _ _ pc lv st σ => match st with
  | .long y :: .long x :: r => some (pc + 1, lv, .long (f x y) :: r, σ)
  | _ => none
def iv_oJI (f : Int64 → Int32 → Int64) : iv_F := fun _ _ pc lv st σ => match st with
  | .int y :: .long x :: r => some (pc + 1, lv, .long (f x y) :: r, σ)
  | _ => none
def iv_oDI (f : Int32 → Int32 → Int32) : iv_F := fun _ _ pc lv st σ => match st with
  | .int y :: .int x :: r => bif decide (y = 0) then none else some (pc + 1, lv, .int (f x y) :: r, σ)
  | _ => none
def iv_oDJ (f : Int64 → Int64 → Int64) : iv_F := fun _ _ pc lv st σ => match st with
  | .long y :: .long x :: r => bif decide (y = 0) then none else some (pc + 1, lv, .long (f x y) :: r, σ)
  | _ => none
def iv_oCmp : iv_F := fun _ _ pc lv st σ => match st with
  | .long y :: .long x :: r => some (pc + 1, lv, .int (lg_cmp x y) :: r, σ)
  | _ => none
def iv_oUI (f : Int32 → Value) : iv_F := fun _ _ pc lv st σ => match st with
  | .int x :: r => some (pc + 1, lv, f x :: r, σ)
  | _ => none
def iv_oL2I : iv_F := fun _ _ pc lv st σ => match st with
  | .long x :: r => some (pc + 1, lv, .int x.toInt32 :: r, σ)
  | _ => none
def iv_oDup : iv_F := fun _ _ pc lv st σ => match st with
  | v :: r => bif Nat.beq v.category 1 then some (pc + 1, lv, v :: v :: r, σ) else none
  | _ => none
def iv_oPop : iv_F := fun _ _ pc lv st σ => match st with
  | v :: r => bif Nat.beq v.category 1 then some (pc + 1, lv, r, σ) else none
  | _ => none
def iv_oDup2 : iv_F := fun _ _ pc lv st σ => match st with
  | v :: w :: r => bif (Nat.beq v.category 1 && Nat.beq w.category 1) then some (pc + 1, lv, v :: w :: v :: w :: r, σ) else none
  | _ => none
def iv_go (pc : Nat) (off : Int) (lv : iv_L) (st : List Value) (σ : iv_H) : iv_X := match iv_tgt pc off with
  | some t => some (t, lv, st, σ)
  | none => none
def iv_br (b : Bool) (pc : Nat) (off : Int) (lv : iv_L) (r : List Value) (σ : iv_H) : iv_X := match iv_tgt pc off with
  | some t => bif b then some (t, lv, r, σ) else some (pc + 3, lv, r, σ)
  | none => none
def iv_oGo (off : Int) : iv_F := fun _ _ pc lv st σ => iv_go pc off lv st σ
def iv_oIf (c : ClassFile.Cond) (off : Int) : iv_F := fun _ _ pc lv st σ => match st with
  | .int x :: r => iv_br (iv_c2 c x 0) pc off lv r σ
  | _ => none
def iv_oIc (c : ClassFile.Cond) (off : Int) : iv_F := fun _ _ pc lv st σ => match st with
  | .int y :: .int x :: r => iv_br (iv_c2 c x y) pc off lv r σ
  | _ => none
def iv_oTs (dflt lo hi : Int) (offs : Array Int) : iv_F := fun _ _ pc lv st σ => match st with
  | .int x :: r => bif (decide (x.toInt < lo) || decide (hi < x.toInt)) then iv_go pc dflt lv r σ else match iv_nth offs.toList (x.toInt - lo).toNat with
    | some off => iv_go pc off lv r σ
    | none => none
  | _ => none
def iv_oLs (dflt : Int) (ps : Array (Int × Int)) : iv_F := fun _ _ pc lv st σ => match st with
  | .int x :: r => bif ((ps.toList.zip (ps.toList.drop 1)).all (fun (a, next) => a.1 < next.1)) then iv_go pc (Op.lookupswitch.offset ps.toList dflt x.toInt) lv r σ else none
  | _ => none
/-- two constants of Word compared -/
def iv_oAc (off : Int) : iv_F := fun _ _ pc lv st σ => match st with
  | .ref b :: .ref a :: r => bif iv_isW a && iv_isW b then iv_br (bif Nat.beq a b then false else true) pc off lv r σ else none
  | _ => none
def iv_oGF (ci j : Nat) : iv_F := fun _ _ pc lv st σ => match st with
  | .ref a :: r => match iv_get σ a with
    | some (.inr (c2, fs)) => bif Nat.beq ci c2 then (match iv_nth fs j with
      | some v => some (pc + 3, lv, v :: r, σ)
      | none => none) else none
    | _ => none
  | _ => none
def iv_oPF (ci j : Nat) (ty : FieldType) : iv_F := fun _ _ pc lv st σ => match st with
  | v :: .ref a :: r => match iv_get σ a with
    | some (.inr (c2, fs)) => bif Nat.beq ci c2 && (iv_fit ty v && Nat.blt j fs.length) then some (pc + 3, lv, r, (iv_put σ a (.inr (ci, fs.set j v)))) else none
    | _ => none
  | _ => none
def iv_oIl : iv_F := fun L xs pc lv st σ => match st with
  | .int i :: .ref a :: r => bif Nat.beq a 1 then (bif iv_in i L then some (pc + 1, lv, .int (xs i.toNatClampNeg) :: r, σ) else none)
    else bif Nat.beq a 101 then (bif iv_in i 28 then some (pc + 1, lv, .int (iv_sw i.toNatClampNeg) :: r, σ) else none)
    else match iv_get σ a with
    | some (.inl (0, n, .inl f)) => bif iv_in i n then some (pc + 1, lv, .int (f i.toNatClampNeg) :: r, σ) else none
    | _ => none
  | _ => none
def iv_oJl : iv_F := fun _ _ pc lv st σ => match st with
  | .int i :: .ref a :: r => match iv_get σ a with
    | some (.inl (1, n, .inr (.inl f))) => bif iv_in i n then some (pc + 1, lv, .long (f i.toNatClampNeg) :: r, σ) else none
    | _ => none
  | _ => none
def iv_oZl : iv_F := fun _ _ pc lv st σ => match st with
  | .int i :: .ref a :: r => match iv_get σ a with
    | some (.inl (2, n, .inl f)) => bif iv_in i n then some (pc + 1, lv, .int (f i.toNatClampNeg) :: r, σ) else none
    | _ => none
  | _ => none
def iv_oQl : iv_F := fun _ _ pc lv st σ => match st with
  | .int i :: .ref a :: r => match iv_get σ a with
    | some (.inl (t, n, .inr (.inr (.inr (.inr f))))) => bif iv_in i n && (Nat.ble 3 t && Nat.ble t 7) then some (pc + 1, lv, va_rf (f i.toNatClampNeg) :: r, σ) else none
    | none => bif Nat.beq a 103 && iv_in i 28 then some (pc + 1, lv, .ref (2 * i.toNatClampNeg + 3) :: r, σ) else none
    | _ => none
  | _ => none
def iv_oLen : iv_F := fun L _ pc lv st σ => match st with
  | .ref a :: r => bif Nat.beq a 1 then (bif Nat.beq L 0 then none else some (pc + 1, lv, .int (Int32.ofNat L) :: r, σ)) else match iv_get σ a with
    | some (.inl (t, x)) => bif Nat.ble t 7 then some (pc + 1, lv, .int (Int32.ofNat x.1) :: r, σ) else none
    | none => bif Nat.beq a 103 then some (pc + 1, lv, .int 28 :: r, σ) else none
    | _ => none
  | _ => none
def iv_oIst : iv_F := fun _ _ pc lv st σ => match st with
  | .int x :: .int i :: .ref a :: r => match iv_get σ a with
    | some (.inl (0, n, .inl f)) => bif iv_in i n then some (pc + 1, lv, r, (iv_put σ a (.inl (0, n, .inl (upd f i.toNatClampNeg x))))) else none
    | _ => none
  | _ => none
def iv_oJst : iv_F := fun _ _ pc lv st σ => match st with
  | .long x :: .int i :: .ref a :: r => match iv_get σ a with
    | some (.inl (1, n, .inr (.inl f))) => bif iv_in i n then some (pc + 1, lv, r, (iv_put σ a (.inl (1, n, .inr (.inl (vp_updL f i.toNatClampNeg x)))))) else none
    | _ => none
  | _ => none
def iv_oZst : iv_F := fun _ _ pc lv st σ => match st with
  | .int x :: .int i :: .ref a :: r => match iv_get σ a with
    | some (.inl (2, n, .inl f)) => bif iv_in i n && (decide (x = 0) || decide (x = 1)) then some (pc + 1, lv, r, (iv_put σ a (.inl (2, n, .inl (upd f i.toNatClampNeg x))))) else none
    | _ => none
  | _ => none
/-- the class of the object at a label -/
def iv_co (σ : iv_H) (v : Nat) : Nat := bif iv_isW v then 10 else match iv_get σ v with
  | some (.inr (c, _)) => c
  | _ => 98
def iv_oQst : iv_F := fun _ _ pc lv st σ => match st with
  | .ref v :: .int i :: .ref a :: r => match iv_get σ a with
    | some (.inl (t, n, .inr (.inr (.inr (.inr f))))) => bif iv_in i n && (Nat.ble t 7 && Nat.beq (iv_ec t) (iv_co σ v)) then some (pc + 1, lv, r, (iv_put σ a (.inl (t, n, .inr (.inr (.inr (.inr (va_up f i.toNatClampNeg (some v))))))))) else none
    | _ => none
  | _ => none
def iv_dvs (ty : Nat → FieldType) : Nat → List Value
  | 0 => []
  | n + 1 => iv_dvs ty n ++ [iv_dv (ty n)]
def iv_oNew (ci : Nat) : iv_F := fun _ _ pc lv st σ => some (pc + 3, lv, .ref (2 * σ.1) :: st, iv_psh σ (.inr (ci, iv_dvs (iv_fty ci) (iv_fn ci))) (iv_fn ci))
def iv_big (n : Int32) : Bool := bif decide (n < 0) then true else Nat.blt 60000000 n.toNatClampNeg
def iv_oNa (t : Nat) (z : vp_A) : iv_F := fun _ _ pc lv st σ => match st with
  | .int n :: r => bif iv_big n then none else some (pc + 2, lv, .ref (2 * σ.1) :: r, iv_psh σ (.inl (t, n.toNatClampNeg, z.2)) n.toNatClampNeg)
  | _ => none
def iv_oNq (t : Nat) : iv_F := fun _ _ pc lv st σ => match st with
  | .int n :: r => bif iv_big n then none else some (pc + 3, lv, .ref (2 * σ.1) :: r, iv_psh σ (.inl (t, n.toNatClampNeg, .inr (.inr (.inr (.inr (fun _ => none)))))) n.toNatClampNeg)
  | _ => none
/-- new int[n][k]: the rows lie behind the outer array -/
def iv_oNm : iv_F := fun _ _ pc lv st σ => match st with
  | .int j :: .int n :: r => bif iv_big n || iv_big j then none
    else some (pc + 4, lv, .ref (2 * σ.1) :: r, (σ.1 + 1 + n.toNatClampNeg, iv_ups σ.2.1 σ.1 n.toNatClampNeg (.inl (7, n.toNatClampNeg, .inr (.inr (.inr (.inr (fun i => if i < n.toNatClampNeg then some (2 * (σ.1 + 1 + i)) else none)))))) (.inl (0, j.toNatClampNeg, .inl (fun _ => 0))), σ.2.2 + n.toNatClampNeg + n.toNatClampNeg * j.toNatClampNeg))
  | _ => none
def iv_oS (a : Nat) : iv_F := fun _ _ pc lv st σ => some (pc + 3, lv, .ref a :: st, σ)
def iv_oCp : iv_F := fun _ _ pc lv st σ => match st with
  | .int n :: .int dp :: .ref b :: .int sp :: .ref a :: r => bif (decide (sp < 0) || decide (dp < 0)) || (decide (n < 0) || Nat.blt 8 (iv_cs r)) then none else match iv_get σ a, iv_get σ b with
    | some (.inl (0, n0, .inl f)), some (.inl (0, n1, .inl g)) => bif Nat.ble (sp.toNatClampNeg + n.toNatClampNeg) n0 && Nat.ble (dp.toNatClampNeg + n.toNatClampNeg) n1 then some (pc + 3, lv, r, (iv_put σ b (.inl (0, n1, .inl (va_cpy f g sp.toNatClampNeg dp.toNatClampNeg n.toNatClampNeg))))) else none
    | some (.inl (1, n0, .inr (.inl f))), some (.inl (1, n1, .inr (.inl g))) => bif Nat.ble (sp.toNatClampNeg + n.toNatClampNeg) n0 && Nat.ble (dp.toNatClampNeg + n.toNatClampNeg) n1 then some (pc + 3, lv, r, (iv_put σ b (.inl (1, n1, .inr (.inl (va_cpy f g sp.toNatClampNeg dp.toNatClampNeg n.toNatClampNeg)))))) else none
    | _, _ => none
  | _ => none
def iv_oOb : iv_F := fun _ _ pc lv st σ => match st with
  | .ref _ :: r => bif Nat.blt 8 (iv_cs r) then none else some (pc + 3, lv, r, σ)
  | _ => none
def iv_oOrd : iv_F := fun _ _ pc lv st σ => match st with
  | .ref a :: r => bif iv_isW a && Nat.ble (iv_cs r) 8 then some (pc + 3, lv, .int (Int32.ofNat ((a - 3) / 2)) :: r, σ) else none
  | _ => none
def iv_oMM (f : Int32 → Int32 → Int32) : iv_F := fun _ _ pc lv st σ => match st with
  | .int y :: .int x :: r => bif Nat.ble (iv_cs r) 8 then some (pc + 3, lv, .int (f x y) :: r, σ) else none
  | _ => none
def iv_oAb : iv_F := fun _ _ pc lv st σ => match st with
  | .int x :: r => bif Nat.ble (iv_cs r) 8 then some (pc + 3, lv, .int (if 0 ≤ x then x else 0 - x) :: r, σ) else none
  | _ => none
/-! Strings: their bytes, the text of a Word, length, charAt, indexOf -/
def iv_isS (a : Nat) : Bool := Nat.beq (a % 2) 1 && (Nat.ble 203 a && Nat.ble a 265)
def iv_sx (a : Nat) : List Int32 := match iv_nth iv_sxl ((a - 203) / 2) with
  | some l => l
  | none => []
def iv_ixF (c : Int32) : List Int32 → Nat → Int32
  | [], _ => -1
  | b :: l, k => bif decide (b = c) then Int32.ofNat k else iv_ixF c l (k + 1)
def iv_oWt : iv_F := fun _ _ pc lv st σ => match st with
  | .ref a :: r => bif iv_isW a then some (pc + 3, lv, .ref (a + 200) :: r, σ) else none
  | _ => none
def iv_oSl : iv_F := fun _ _ pc lv st σ => match st with
  | .ref a :: r => bif iv_isS a && Nat.ble (iv_cs r) 8 then some (pc + 3, lv, .int (Int32.ofNat (iv_sx a).length) :: r, σ) else none
  | _ => none
def iv_oSc : iv_F := fun _ _ pc lv st σ => match st with
  | .int k :: .ref a :: r => bif iv_isS a && (iv_in k (iv_sx a).length && Nat.ble (iv_cs r) 8) then (match iv_nth (iv_sx a) k.toNatClampNeg with
    | some v => some (pc + 3, lv, .int v :: r, σ)
    | none => none) else none
  | _ => none
def iv_oSi : iv_F := fun _ _ pc lv st σ => match st with
  | .int c :: .ref a :: r => bif iv_isS a && (iv_in c 256 && Nat.ble (iv_cs r) 8) then some (pc + 3, lv, .int (iv_ixF c (iv_sx a) 0) :: r, σ) else none
  | _ => none
def iv_st (k nL : Nat) (f : iv_F) : iv_O := bif Nat.blt k nL then .inl f else .inl iv_oN
/-- what a pool entry links, as an operation -/
def iv_ofd (own k : Nat) : iv_O := match iv_f1 (iv_ls own) k with
  | some (0, ci, j, _, _) => .inl (iv_oGF ci j)
  | some (16, _, _, _, _) => .inl iv_oWt
  | _ => .inl iv_oN
def iv_opf (m own k : Nat) : iv_O := match iv_f1 (iv_ls own) k with
  | some (0, ci, j, _, _) => bif (bif (iv_T ci j).2.2.2 then iv_mem m iv_ini && Nat.beq own (ci + 1) else true) then .inl (iv_oPF ci j (iv_fty ci j)) else .inl iv_oN
  | _ => .inl iv_oN
def iv_ogs (own k : Nat) : iv_O := match iv_f1 (iv_ls own) k with
  | some (10, a, _, _, _) => .inl (iv_oS a)
  | some (12, a, _, _, _) => .inl (iv_oS a)
  | some (20, a, _, _, _) => .inl (iv_oS a)
  | _ => .inl iv_oN
def iv_onw (own k : Nat) : iv_O := match iv_f1 (iv_ls own) k with
  | some (1, ci, _, _, _) => .inl (iv_oNew ci)
  | _ => .inl iv_oN
def iv_onq (own k : Nat) : iv_O := match iv_f1 (iv_ls own) k with
  | some (2, t, _, _, _) => bif Nat.beq t 6 then .inl (iv_oNq 6) else .inl iv_oN
  | some (1, ci, _, _, _) => bif Nat.beq (iv_ta ci) 99 then .inl iv_oN else .inl (iv_oNq (iv_ta ci))
  | _ => .inl iv_oN
def iv_onm (own k : Nat) : iv_O := match iv_f1 (iv_ls own) k with
  | some (3, _, _, _, _) => .inl iv_oNm
  | _ => .inl iv_oN
def iv_oss (own k : Nat) : iv_O := match iv_f1 (iv_ls own) k with
  | some (9, _, _, _, _) => .inl iv_oCp
  | some (13, _, _, _, _) => .inl (iv_oMM fun x y => if x < y then y else x)
  | some (14, _, _, _, _) => .inl (iv_oMM fun x y => if y < x then y else x)
  | some (15, _, _, _, _) => .inl iv_oAb
  | some (4, m, n, _, _) => .inr (.inr (4, m, n, 0))
  | _ => .inl iv_oN
def iv_osp (own k : Nat) : iv_O := match iv_f1 (iv_ls own) k with
  | some (8, _, _, _, _) => .inl iv_oOb
  | some (5, m, n, _, _) => .inr (.inr (5, m, n, 0))
  | some (7, m, n, _, _) => .inr (.inr (7, m, n, 0))
  | _ => .inl iv_oN
def iv_ovi (own k : Nat) : iv_O := match iv_f1 (iv_ls own) k with
  | some (11, _, _, _, _) => .inl iv_oOrd
  | some (17, _, _, _, _) => .inl iv_oSl
  | some (18, _, _, _, _) => .inl iv_oSc
  | some (19, _, _, _, _) => .inl iv_oSi
  | some (6, m, n, ci, _) => .inr (.inr (6, m, n, ci))
  | _ => .inl iv_oN
def iv_oki (own k len : Nat) : iv_O := match iv_f1 (iv_qs own) k with
  | some (.int v, _) => .inl (iv_oK (.int v) len)
  | some (.ref a, _) => .inl (iv_oK (.ref a) len)
  | _ => .inl iv_oN
def iv_okj (own k : Nat) : iv_O := match iv_f1 (iv_qs own) k with
  | some (.long v, _) => .inl (iv_oK (.long v) 3)
  | _ => .inl iv_oN
/-- an instruction of method m of class own, as an operation -/
def iv_op (m own nL : Nat) (ret : Option FieldType) (i : Instr) : iv_O := match i with
  | .iconst n => .inl (iv_oK (.int (Int32.ofInt n)) 1)
  | .bipush n => .inl (iv_oK (.int (Int8.ofInt n).toInt32) 2)
  | .sipush n => .inl (iv_oK (.int (Int16.ofInt n).toInt32) 3)
  | .lconst n => .inl (iv_oK (.long (Int64.ofNat n.val)) 1)
  | .ldc k => iv_oki own k 2
  | .ldc_w k => iv_oki own k 3
  | .ldc2_w k => iv_okj own k
  | .iload k => .inl (iv_oI k 2)
  | .iload_n k => .inl (iv_oI k.val 1)
  | .lload k => .inl (iv_oJ k 2)
  | .lload_n k => .inl (iv_oJ k.val 1)
  | .aload k => .inl (iv_oA k 2)
  | .aload_n k => .inl (iv_oA k.val 1)
  | .istore k => iv_st k nL (iv_oIS k 2)
  | .istore_n k => iv_st k.val nL (iv_oIS k.val 1)
  | .lstore k => iv_st (k + 1) nL (iv_oJS k 2)
  | .lstore_n k => iv_st (k.val + 1) nL (iv_oJS k.val 1)
  | .astore k => iv_st k nL (iv_oAS k 2)
  | .astore_n k => iv_st k.val nL (iv_oAS k.val 1)
  | .iinc k n => iv_st k nL (iv_oInc k n)
  | .iadd => .inl (iv_oII fun x y => x + y)
  | .isub => .inl (iv_oII fun x y => x - y)
  | .imul => .inl (iv_oII fun x y => x * y)
  | .iand => .inl (iv_oII fun x y => x &&& y)
  | .ior => .inl (iv_oII fun x y => x ||| y)
  | .ishl => .inl (iv_oII fun x y => x <<< (y &&& 31))
  | .ishr => .inl (iv_oII fun x y => x >>> (y &&& 31))
  | .iushr => .inl (iv_oII fun x y => (x.toUInt32 >>> (y.toUInt32 &&& Int32.toUInt32 31)).toInt32)
  | .idiv => .inl (iv_oDI fun x y => x / y)
  | .irem => .inl (iv_oDI fun x y => x - x / y * y)
  | .ladd => .inl (iv_oJJ fun x y => x + y)
  | .lsub => .inl (iv_oJJ fun x y => x - y)
  | .lmul => .inl (iv_oJJ fun x y => x * y)
  | .land => .inl (iv_oJJ fun x y => x &&& y)
  | .lor => .inl (iv_oJJ fun x y => x ||| y)
  | .lxor => .inl (iv_oJJ fun x y => x ^^^ y)
  | .lshl => .inl (iv_oJI fun x y => x <<< (y.toInt64 &&& 63))
  | .lushr => .inl (iv_oJI fun x y => (x.toUInt64 >>> (y.toInt64.toUInt64 &&& Int64.toUInt64 63)).toInt64)
  | .ldiv => .inl (iv_oDJ fun x y => x / y)
  | .lrem => .inl (iv_oDJ fun x y => x - x / y * y)
  | .lcmp => .inl iv_oCmp
  | .i2l => .inl (iv_oUI fun x => .long x.toInt64)
  | .i2c => .inl (iv_oUI fun x => .int (x.toUInt32 % 65536).toInt32)
  | .ineg => .inl (iv_oUI fun x => .int (-x))
  | .l2i => .inl iv_oL2I
  | .dup => .inl iv_oDup
  | .pop => .inl iv_oPop
  | .dup2 => .inl iv_oDup2
  | .goto off => .inl (iv_oGo off)
  | .ifCond c off => .inl (iv_oIf c off)
  | .if_icmp c off => .inl (iv_oIc c off)
  | .if_acmp c off => match c with
    | .ne => .inl (iv_oAc off)
    | .eq => .inl iv_oN
  | .tableswitch dflt lo hi offs => .inl (iv_oTs dflt lo hi offs)
  | .lookupswitch dflt ps => .inl (iv_oLs dflt ps)
  | .getfield k => iv_ofd own k
  | .putfield k => iv_opf m own k
  | .iaload => .inl iv_oIl
  | .laload => .inl iv_oJl
  | .baload => .inl iv_oZl
  | .aaload => .inl iv_oQl
  | .arraylength => .inl iv_oLen
  | .iastore => .inl iv_oIst
  | .lastore => .inl iv_oJst
  | .bastore => .inl iv_oZst
  | .aastore => .inl iv_oQst
  | .new k => iv_onw own k
  | .newarray t => match t with
    | .int => .inl (iv_oNa 0 (0, .inl (fun _ => 0)))
    | .long => .inl (iv_oNa 1 (0, .inr (.inl (fun _ => 0))))
    | .boolean => .inl (iv_oNa 2 (0, .inl (fun _ => 0)))
    | _ => .inl iv_oN
  | .anewarray k => iv_onq own k
  | .multianewarray k z => bif Nat.beq z 2 then iv_onm own k else .inl iv_oN
  | .getstatic k => iv_ogs own k
  | .invokestatic k => iv_oss own k
  | .invokespecial k => iv_osp own k
  | .invokevirtual k => iv_ovi own k
  | .ireturn => match ret with
    | some .int => .inr (.inl 1)
    | some .boolean => .inr (.inl 2)
    | _ => .inl iv_oN
  | .lreturn => match ret with
    | some .long => .inr (.inl 3)
    | _ => .inl iv_oN
  | .areturn => match ret with
    | some (.object _) => .inr (.inl 4)
    | _ => .inl iv_oN
  | .return_ => match ret with
    | none => .inr (.inl 0)
    | _ => .inl iv_oN
  | _ => .inl iv_oN
def iv_p (m : Nat) : List (Nat × iv_O) := (iv_m m).2.2.2.2.map fun q => (q.1, iv_op m (iv_m m).2.1 (iv_m m).2.2.1 (iv_m m).2.2.2.1 q.2.1)
def iv_rt (k : Nat) (st : List Value) (σ : iv_H) : Option (Option Value × iv_H) := match k, st with
  | 0, [] => some (none, σ)
  | 1, [.int v] => some (some (.int v), σ)
  | 2, [.int v] => bif decide (v = 0) || decide (v = 1) then some (some (.int v), σ) else none
  | 3, [.long v] => some (some (.long v), σ)
  | 4, [.ref a] => some (some (.ref a), σ)
  | _, _ => none
def iv_pop (n : Nat) (st acc : List Value) : Option (List Value × List Value) := match n, st with
  | 0, st => some (acc, st)
  | n + 1, v :: r => iv_pop n r (v :: acc)
  | _ + 1, [] => none
/-- a call: its arguments, what stays on the stack -/
def iv_args (kind n ci : Nat) (st : List Value) (σ : iv_H) : Option (List Value × List Value) := match iv_pop n st [] with
  | none => none
  | some (as, rest) => bif Nat.beq kind 4 then (bif Nat.ble (iv_cs rest) 8 then some (as, rest) else none) else match rest with
    | .ref a :: r => bif Nat.ble (iv_cs r) 8 then (bif Nat.beq kind 6 then (match iv_get σ a with
      | some (.inr (c2, _)) => bif Nat.beq ci c2 then some (.ref a :: as, r) else none
      | none => bif Nat.beq ci 10 && iv_isW a then some (.ref a :: as, r) else none
      | _ => none) else some (.ref a :: as, r)) else none
    | _ => none
abbrev iv_Y : Type := Nat → Nat → Nat → iv_L → List Value → iv_H → Option (Option Value × iv_H)
def iv_cl (ih : iv_Y) (d M pc : Nat) (lv : iv_L) (σ : iv_H) (m : Nat) (q : Option (List Value × List Value)) : Option (Option Value × iv_H) := match q, d with
  | some (as, rest), d + 1 => bif Nat.ble (iv_cs as) (iv_m m).2.2.1 then (match ih d m 0 (lv_args 0 as) [] σ with
    | some (r, σ') => iv_fp (pc + 3) fun p => ih (d + 1) M p lv (r.toList ++ rest) σ'
    | none => none) else none
  | _, _ => none
def iv_go1 (ih : iv_Y) (d M : Nat) (x : iv_X) : Option (Option Value × iv_H) := match x with
  | some (pc, lv, st, σ) => iv_fp pc fun p => ih d M p lv st σ
  | none => none
def iv_do (L : Nat) (xs : Nat → Int32) (ih : iv_Y) (d M pc : Nat) (lv : iv_L) (st : List Value) (σ : iv_H) (o : iv_O) : Option (Option Value × iv_H) := match o with
  | .inl f => iv_go1 ih d M (f L xs pc lv st σ)
  | .inr (.inl k) => iv_rt k st σ
  | .inr (.inr (kind, m, n, ci)) => iv_cl ih d M pc lv σ m (iv_args kind n ci st σ)
def iv_step (L : Nat) (xs : Nat → Int32) (ih : iv_Y) : iv_Y := fun d M pc lv st σ => match iv_f1 (iv_p M) pc with
  | some o => iv_do L xs ih d M pc lv st σ o
  | none => none
noncomputable def iv_run (L : Nat) (xs : Nat → Int32) (n : Nat) : iv_Y := Nat.rec (fun _ _ _ _ _ _ => none) (fun _ ih => iv_step L xs ih) n
theorem iv_run_0 (L : Nat) (xs : Nat → Int32) (d M pc : Nat) (lv : iv_L) (st : List Value) (σ : iv_H) : iv_run L xs 0 d M pc lv st σ = none := rfl
theorem iv_run_s (L : Nat) (xs : Nat → Int32) (n d M pc : Nat) (lv : iv_L) (st : List Value) (σ : iv_H) : iv_run L xs (n + 1) d M pc lv st σ = iv_step L xs (iv_run L xs n) d M pc lv st σ := rfl
