/-! ===== the grammar of a sentence, told: where it ends and how many ONES it has ===== -/
def yFw (T : Nat → Nat) (n m p : Nat) : Nat → Nat → Nat
  | 0, k => k
  | j + 1, k => if yisW T n m p k = true then k else yFw T n m p j (k + 1)
def yMk (T : Nat → Nat) (n m p c : Nat) : Bool := decide (ykd T n m p = 4 ∧ T (ysk T n p) = c)
/-- a name of the order -/
def yNmd (T : Nat → Nat) (n m : Nat) (Nm : Nat → Int64) (base many p : Nat) : yE Nat := if yisN T n m p = true then (match yfs T n Nm base many p with
  | some k => .inr k
  | none => .inl (ybd T n m p 3)) else .inl (ybd T n m p 1)
def yCmp (T : Nat → Nat) (n m p : Nat) : yE Nat := if yMk T n m p 60 = true ∨ yMk T n m p 61 = true ∨ yMk T n m p 62 = true then yThen (yNum T n m 0 999 (yto T n m p)) fun q => .inr q.2 else .inl (ybd T n m p 1)
/-- 0: ORs, 1: ANDs, 2: further ORs, 3: further ANDs, 4: one SAID; at p, with o ONES read, w deep -/
def ySx (T : Nat → Nat) (n m : Nat) (Nm : Nat → Int64) (ng : Nat) : Nat → Nat → Nat → Nat → Nat → yE (Nat × Nat)
  | 0, _, _, _, _ => .inl (0, 0)
  | f + 1, 0, w, o, p => yThen (ySx T n m Nm ng f 1 w o p) fun q => ySx T n m Nm ng f 2 w q.2 q.1
  | f + 1, 1, w, o, p => yThen (ySx T n m Nm ng f 4 w o p) fun q => ySx T n m Nm ng f 3 w q.2 q.1
  | f + 1, 2, w, o, p => if yisW T n m p 15 = true then yThen (ySx T n m Nm ng f 1 w o (yto T n m p)) fun q => ySx T n m Nm ng f 2 w q.2 q.1 else .inr (p, o)
  | f + 1, 3, w, o, p => if yisW T n m p 16 = true then yThen (ySx T n m Nm ng f 4 w o (yto T n m p)) fun q => ySx T n m Nm ng f 3 w q.2 q.1 else .inr (p, o)
  | f + 1, _, w, o, p => if yMk T n m p 40 = false ∧ 26 < yFw T n m p 10 17 then .inl (ybd T n m p 1)
    else if o = 20 ∨ w = 8 then .inl (ybd T n m p 4)
    else if yMk T n m p 40 = true then yThen (ySx T n m Nm ng f 0 (w + 1) (o + 1) (yto T n m p)) fun q => if yMk T n m q.1 41 = true then .inr (yto T n m q.1, q.2) else .inl (ybd T n m q.1 1)
    else if yFw T n m p 10 17 = 17 then ySx T n m Nm ng f 4 (w + 1) (o + 1) (yto T n m p)
    else if yFw T n m p 10 17 < 22 then .inr (yto T n m p, o + 1)
    else if yFw T n m p 10 17 < 23 then yThen (yNmd T n m Nm 7 ng (yto T n m p)) fun _ => .inr (yto T n m (yto T n m p), o + 1)
    else yThen (yCmp T n m (yto T n m p)) fun q => .inr (q, o + 1)
/-- a whole sentence: how many ONES -/
def ySen (T : Nat → Nat) (n m : Nat) (Nm : Nat → Int64) (ng : Nat) : yE Nat := yThen (ySx T n m Nm ng 2830 0 0 0 0) fun q => if ykd T n m q.1 = 0 then .inr q.2 else .inl (ybd T n m q.1 1)
