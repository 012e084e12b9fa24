/-! ===== the reference: oracles by place, steps by hand (places printed by wip/gen/emit3.py) ===== -/
def m_or : Nat → Nat → Option (zA → Option (List zA)) := fun M pc => bif Nat.beq M 278 then (bif Nat.beq pc 34 then some m_hl else none) else bif Nat.beq M 242 then (bif Nat.beq pc 61 then some m_com else none) else bif Nat.beq M 225 then (bif Nat.beq pc 64 || Nat.beq pc 92 || Nat.beq pc 97 || Nat.beq pc 100 || Nat.beq pc 132 || Nat.beq pc 135 || Nat.beq pc 165 || Nat.beq pc 200 || Nat.beq pc 212 || Nat.beq pc 218 then some ztgo else none) else bif Nat.beq M 212 then (bif Nat.beq pc 72 then some m_hold else none) else bif Nat.beq M 211 then (bif Nat.beq pc 64 || Nat.beq pc 87 || Nat.beq pc 101 || Nat.beq pc 113 || Nat.beq pc 127 || Nat.beq pc 146 then some ztgo else none) else bif Nat.beq M 198 then (bif Nat.beq pc 27 then some m_div else none) else bif Nat.beq M 164 then (bif Nat.beq pc 1 || Nat.beq pc 3 || Nat.beq pc 11 || Nat.beq pc 14 || Nat.beq pc 17 then some ztgo else none) else none
def m_inl : List Nat := [156, 160, 161, 163, 165, 166, 167, 169, 171, 172, 184, 185, 193, 194, 195, 196, 198, 199, 200, 209, 210, 211, 212, 213, 227, 228, 229, 236, 237, 245, 252, 258, 260, 261, 263, 264, 265]
/-- within a book -/
def m_orB : Nat → Nat → Option (zA → Option (List zA)) := fun M pc => bif Nat.beq M 265 && Nat.beq pc 69 then some m_row else bif Nat.beq M 265 && Nat.beq pc 16 then some m_row0 else m_or M pc
def m_oc0 : zorc := (m_or, zno)
def m_ocS : zorc := (m_or, (m_so0, fun _ _ _ => false), fun _ _ => none)
/-- to the end of a method, by hand -/
def m_trm (ms : zm) (P : zp) (ret : Nat) (A : zA) : Option (List (Nat × zA)) := match A.2.2.1 with
  | [] => (match zlks A [] none P.1 with
    | some _ => (fun n => some [(ret, ((A.1.1 ++ [(0, -2147483648, 2147483647)], A.1.2), [], [(0, 0, [(n, 1)])], zcfF ms A.2.2.2.1, []))]) A.1.1.length
    | none => none)
  | _ :: _ => none
/-- readBookLine from 35 on: what is named is found twice -/
def m_find (A : zA) : Option (List (Nat × zA)) := match A.2.2.1, m_lm A, iv_f1 A.2.1 0, iv_f1 A.2.1 1, iv_f1 A.2.1 2 with
  | [], some m, some o, some a, some b => bif ((m_in A.1 a 0 0 && m_in A.1 b 0 0) && (Nat.beq a.1 0 && (Nat.beq b.1 0 && Nat.beq m.1 0))) && (match zty A.1.1 o with
      | some t => Nat.beq t 22
      | none => false) then (fun n => some ((57, A) :: (72, A) :: (match zasL ((A.1.1 ++ [(93, 0, 1000), (0, 0, 6)], A.1.2), A.2) [zlf m (0, 39, []) 0] with
      | some B => [(137, (B.1, (3, (0, 4 * m.2.1, zl_cm 4 [] m.2.2)) :: zdl 3 3 B.2.1, [(0, 0, [(n + 1, 1)]), (0, 4 * m.2.1 + 1, zl_cm 4 [] m.2.2), (2, 0, [(n, 1)])], (o, 12, 40, (2, 0, [(n, 1)])) :: B.2.2.2.1, ((2, 0, [(n, 1)]), (0, 4 * m.2.1, zl_cm 4 [] m.2.2), (0, 5, [])) :: zcy B.1.1 91 B.2.2.2.2))]
      | none => []))) A.1.1.length else none
  | _, _, _, _, _ => none
def m_mo : zmo := fun M pc => bif Nat.beq M 233 && Nat.beq pc 33 then some ([(0, 12, 30), (0, 12, 31), (0, 12, 32), (1, 85, 0), (1, 86, 0), (1, 87, 0)], 40, m_trm [(0, 12, 30), (0, 12, 31), (0, 12, 32), (1, 85, 0), (1, 86, 0), (1, 87, 0)] ([((0, 0, 0, 0), (24, 0, 1000)), ((0, 1, 0, 0), (0, 0, 65535))], []) 206) else bif Nat.beq M 266 && Nat.beq pc 25 then some ([(0, 12, 5), (0, 12, 6), (0, 12, 7), (0, 12, 8), (0, 12, 9), (0, 12, 10), (0, 12, 11), (0, 12, 12), (0, 12, 13), (0, 12, 24), (0, 12, 42), (0, 12, 43), (1, 74, 3800374), (1, 77, 0), (1, 78, 0), (1, 91, 0), (1, 92, 0)], 90, m_trm [(0, 12, 5), (0, 12, 6), (0, 12, 7), (0, 12, 8), (0, 12, 9), (0, 12, 10), (0, 12, 11), (0, 12, 12), (0, 12, 13), (0, 12, 24), (0, 12, 42), (0, 12, 43), (1, 74, 3800374), (1, 77, 0), (1, 78, 0), (1, 91, 0), (1, 92, 0)] ([((0, 0, 0, 0), (24, 0, 1000)), ((0, 1, 0, 0), (0, 0, 1))], []) 175) else bif Nat.beq M 257 && Nat.beq pc 25 then some ([(0, 12, 39), (1, 74, 3800374), (1, 78, 0)], 76, m_trm [(0, 12, 39), (1, 74, 3800374), (1, 78, 0)] ([((0, 0, 0, 0), (24, 0, 1000)), ((0, 1, 0, 0), (0, 0, 6)), ((0, 2, 0, 0), (0, 1, 30)), ((0, 3, 0, 0), (0, (-2147483648), 2147483647))], []) 75) else bif Nat.beq M 277 && Nat.beq pc 77 then some ([(1, 74, 3800374)], 8, m_trm [(1, 74, 3800374)] ([((0, 0, 0, 0), (24, 0, 1000))], []) 112) else bif Nat.beq M 191 && Nat.beq pc 47 then some ([(0, 12, 24), (1, 74, 0), (1, 79, 0)], 8, m_trm [(0, 12, 24), (1, 74, 0), (1, 79, 0)] ([((0, 0, 0, 0), (24, 0, 1000)), ((0, 1, 0, 0), (0, (-2147483648), 2147483647))], []) 109) else none
def m_ocM : zorc := (m_or, (m_so0, fun _ _ _ => false), m_mo)
def m_moL : zmo := fun M pc => bif Nat.beq M 264 && Nat.beq pc 35 then some ([(1, 91, 0)], 20, m_find) else bif Nat.beq M 266 && Nat.beq pc 65 then some ([(0, 12, 24), (0, 12, 43), (1, 74, 3800374), (1, 77, 0), (1, 78, 0), (1, 92, 0)], 76, m_trm [(0, 12, 24), (0, 12, 43), (1, 74, 3800374), (1, 77, 0), (1, 78, 0), (1, 92, 0)] ([((0, 0, 0, 0), (24, 0, 1000)), ((0, 1, 0, 0), (0, 0, 1))], []) 175) else none
def m_ocL : zorc := (m_orB, (m_so1, m_so2), m_moL)
def m_ocT : zorc := (m_orB, (m_so1, m_so2), fun _ _ => none)
