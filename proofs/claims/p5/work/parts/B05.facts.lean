def iv_hl : Nat → List Nat := fun k => match k with
  | 0 => [2082, 2084, 2086, 2088, 2090, 2092, 2094, 2096, 2098]
  | 1 => [2167, 2169, 2171]
  | 2 => [2136, 2138, 2140, 2142, 2144, 2146, 2148, 2150, 2152]
  | 3 => [1092, 1094, 1096, 1098, 1100, 1102, 1104, 1106, 1108, 1110, 1112, 1114, 1116, 1118, 1120, 1122]
  | 4 => [2000, 2002, 2004]
  | 5 => [2034, 2036, 2038, 2040, 2042, 2044, 2046, 2048, 2050, 2052, 2054, 2056, 2058]
  | 6 => [1216, 1218, 1220, 1222, 1224]
  | 7 => [1173, 1175, 1177, 1179, 1181, 1183, 1185, 1187, 1189, 1191, 1193, 1195, 1197]
  | 8 => [2112, 2114]
  | 9 => [2184, 2186]
  | 10 => []
  | 11 => [2217, 2219, 2221, 2223, 2225, 2227, 2229, 2231, 2233, 2235, 2237, 2239, 3001, 3003, 3005, 3007, 3009, 3011, 3013, 3015]
  | _ => [6192, 6194, 6196, 6198, 6200, 6202, 6204, 6206, 6208, 6210, 6212, 6214, 6216, 6218, 6220, 6222, 6224, 6226, 6228, 6230, 6232, 6234, 6236, 6238, 7000, 7002, 7004, 7006, 7008, 7010, 7012, 7014, 7016, 7018, 7020, 7022, 7024, 7026, 7028, 7030, 7032, 7034, 7036, 7038, 7040, 7042, 7044, 7046, 7048]
def iv_nest : List Cond := [.methodLinkNest "GraterOrder" 77 ({ cls := "GraterOrder$Book", name := "<init>", desc := "()V" } : MethodName) "GraterOrder", .methodLinkNest "GraterOrder" 84 ({ cls := "GraterOrder$Strokes", name := "<init>", desc := "()V" } : MethodName) "GraterOrder", .methodLinkNest "GraterOrder" 91 ({ cls := "GraterOrder$Heaps", name := "<init>", desc := "()V" } : MethodName) "GraterOrder", .methodLinkNest "GraterOrder" 98 ({ cls := "GraterOrder$Deal", name := "<init>", desc := "()V" } : MethodName) "GraterOrder", .methodLinkNest "GraterOrder" 105 ({ cls := "GraterOrder$Tag", name := "<init>", desc := "()V" } : MethodName) "GraterOrder"]
def iv_hg : List Nat := [1035, 1036, 2195, 2194, 1015, 3196, 3198, 3199, 3200, 1006, 9073, 1125, 1126, 2101, 3046, 3043, 4166, 3047, 3044, 4167, 1017]

def iv_C (ci : Nat) : String := match ci with
  | 0 => RX1
  | 1 => RX2
  | 2 => RX3
  | 3 => RX4
  | 4 => RX5
  | 5 => RX6
  | 6 => RX7
  | 7 => RX8
  | 8 => RX9
  | 9 => RX10
  | 10 => RX11
  | 11 => RX12
  | _ => RX13
def iv_G : List Cond := lw_tbl.filter goodWord
def iv_tb (c : Nat) : List Cond := match c with
  | 0 => k2_sels lw_privs
  | 1 => tables_1_1
  | 2 => tables_1_2
  | 3 => tables_1_3
  | 4 => tables_1_4
  | 5 => tables_1_5
  | 6 => tables_1_6
  | 7 => tables_1_7
  | 8 => tables_1_8
  | _ => tables_1_9
theorem iv_tb_in {c : Nat} {w : Cond} (h : w ∈ iv_tb c) : w ∈ lw_tbl := by
  unfold iv_tb at h
  unfold lw_tbl tables_1
  simp only [List.mem_append]
  split at h <;> simp only [h, true_or, or_true]
theorem iv_nth_in {α : Type} : ∀ (l : List α) (n : Nat) (x : α), iv_nth l n = some x → x ∈ l
  | [], _, _, h => by simp [iv_nth] at h
  | a :: r, 0, x, h => by simp [iv_nth] at h; exact List.mem_cons.mpr (Or.inl h.symm)
  | a :: r, n + 1, x, h => List.mem_cons_of_mem _ (iv_nth_in r n x (by simpa [iv_nth] using h))
def iv_w (h : Nat) (c : Cond) : Bool := match iv_nth (iv_tb (h / 1000)) (h % 1000) with
  | some w => decide (w = c) && goodWord c
  | none => false
theorem iv_w_in {h : Nat} {c : Cond} (q : iv_w h c = true) : c ∈ iv_G := by
  unfold iv_w at q
  split at q
  · rename_i w hw
    rw [Bool.and_eq_true] at q
    have e := of_decide_eq_true q.1
    subst e
    exact List.mem_filter.mpr ⟨iv_tb_in (iv_nth_in _ _ _ hw), q.2⟩
  · cases q
theorem iv_G_good : ∀ w ∈ iv_G, goodWord w = true := fun w h => (List.mem_filter.mp h).2
theorem iv_G_tbl : ∀ w ∈ iv_G, w ∈ lw_tbl := fun w h => (List.mem_filter.mp h).1
/-- the length that an instruction must have (0: any) -/
def iv_ln (i : Instr) : Nat := match i with
  | .iconst _ => 1
  | .bipush _ => 2
  | .sipush _ => 3
  | .lconst _ => 1
  | .ldc _ => 2
  | .ldc_w _ => 3
  | .ldc2_w _ => 3
  | .iload _ => 2
  | .iload_n _ => 1
  | .lload _ => 2
  | .lload_n _ => 1
  | .aload _ => 2
  | .aload_n _ => 1
  | .istore _ => 2
  | .istore_n _ => 1
  | .lstore _ => 2
  | .lstore_n _ => 1
  | .astore _ => 2
  | .astore_n _ => 1
  | .iinc _ _ => 3
  | .goto _ => 3
  | .ifCond _ _ => 3
  | .if_icmp _ _ => 3
  | .if_acmp _ _ => 3
  | .tableswitch _ _ _ _ => 0
  | .lookupswitch _ _ => 0
  | .getfield _ => 3
  | .putfield _ => 3
  | .getstatic _ => 3
  | .new _ => 3
  | .newarray _ => 2
  | .anewarray _ => 3
  | .multianewarray _ _ => 4
  | .invokestatic _ => 3
  | .invokespecial _ => 3
  | .invokevirtual _ => 3
  | _ => 1
def iv_lnok (i : Instr) (len : Nat) : Bool := Nat.beq (iv_ln i) 0 || Nat.beq (iv_ln i) len
/-- a method's code is decoded as its rows say -/
def iv_cok (m : Nat) : Bool := (iv_m m).2.2.2.2.all fun q => decide (decode (iv_c m) q.1 = .ok (q.2.1, q.2.2)) && iv_lnok q.2.1 q.2.2
/-- a method's words -/
def iv_mok (m : Nat) : Bool :=
  (Nat.beq (iv_m m).1 m && (iv_w (iv_h m).2.2.2.1 (.initialized (iv_y m).cls))) &&
  ((bif Nat.beq (iv_h m).2.1 1 then iv_w (iv_h m).2.2.2.2.1 (.static (iv_y m)) else iv_w (iv_h m).2.2.2.2.1 (.instanceMethod (iv_y m))) && plainName (iv_y m).cls) &&
  ((decide ((iv_y m).cls ≠ "java/lang/invoke/MethodHandle") && decide ((iv_y m).cls ≠ "java/lang/invoke/VarHandle")) && (decide ((parseMethodDescriptor (iv_y m).desc).map (fun d => d.parameters.length) = some (iv_h m).1) && (Nat.ble (iv_m m).2.2.1 40 && decide (iv_R (iv_m m).2.1 = (iv_y m).cls))))
/-- an entry of a pool is what the tables' words say -/
def iv_lok (own : Nat) (q : Nat × Nat × Nat × Nat × Nat × Nat) : Bool := match q with
  | (k, 0, ci, j, _, h) => Nat.blt ci 13 && (Nat.blt j (iv_fn ci) && iv_w h (.fieldLink (iv_R own) k (iv_T ci j).1 (iv_T ci j).2.1 (iv_T ci j).2.2.1))
  | (k, 1, ci, hi, hn, h) => Nat.blt ci 13 && (iv_w h (.classLink (iv_R own) k (iv_C ci)) && (iv_w hi (.instantiable (iv_C ci) (iv_fn ci)) && iv_w hn (.initialized (iv_C ci))))
  | (k, 2, _, _, _, h) => iv_w h (.classLink (iv_R own) k RX11)
  | (k, 3, _, _, _, h) => iv_w h (.classLink (iv_R own) k "[[I")
  | (k, 4, m, n, _, h) => Nat.blt m iv_n && (Nat.beq (iv_h m).1 n && (Nat.beq (iv_h m).2.1 1 && iv_w h (.methodLink (iv_R own) k (iv_y m))))
  | (k, 5, m, n, _, h) => Nat.blt m iv_n && (Nat.beq (iv_h m).1 n && (Nat.beq (iv_h m).2.1 0 && (iv_w h (.methodLink (iv_R own) k (iv_y m)) && (decide ((iv_y m).name = "<init>") && decide ((iv_m m).2.2.2.1 = none)))))
  | (k, 6, m, n, ci, h) => Nat.blt m iv_n && (Nat.beq (iv_h m).1 n && (Nat.beq (iv_h m).2.1 0 && (iv_w h (.methodLink (iv_R own) k (iv_y m)) && (Nat.blt ci 13 && (decide ((iv_y m).cls = iv_C ci) && iv_w (iv_h m).2.2.2.2.2 (.selects (iv_y m).cls (iv_y m) (iv_y m)))))))
  | (k, 7, m, n, _, _) => Nat.blt m iv_n && (Nat.beq (iv_h m).1 n && (Nat.beq (iv_h m).2.1 0 && (decide (Cond.methodLinkNest (iv_R own) k (iv_y m) "GraterOrder" ∈ iv_nest) && (decide ((iv_y m).name = "<init>") && decide ((iv_m m).2.2.2.1 = none)))))
  | (k, 8, _, _, _, h) => iv_w h (.methodLink (iv_R own) k objectInit)
  | (k, 9, _, _, _, h) => iv_w h (.methodLink (iv_R own) k arraycopyName)
  | (k, 10, a, j, _, h) => Nat.blt j 28 && (Nat.beq a (2 * j + 3) && iv_w h (.fieldLink (iv_R own) k RX11 (iv_nm.getD j "") "LGraterOrder$Word;"))
  | (k, 11, _, _, _, h) => iv_w h (.methodLink (iv_R own) k ⟨RX11, "ordinal", "()I"⟩)
  | (k, 12, a, _, _, h) => Nat.beq a 101 && iv_w h (.fieldLink (iv_R own) k RX0 "$SwitchMap$GraterOrder$Word" "[I")
  | (k, 13, _, _, _, h) => iv_w h (.methodLink (iv_R own) k Lib.Math.max.name)
  | (k, 14, _, _, _, h) => iv_w h (.methodLink (iv_R own) k Lib.Math.min.name)
  | (k, 15, _, _, _, h) => iv_w h (.methodLink (iv_R own) k Lib.Math.abs.name)
  | (k, 16, _, _, _, h) => iv_w h (.fieldLink (iv_R own) k RX11 "text" "Ljava/lang/String;")
  | (k, 17, _, _, _, h) => iv_w h (.methodLink (iv_R own) k ⟨"java/lang/String", "length", "()I"⟩)
  | (k, 18, _, _, _, h) => iv_w h (.methodLink (iv_R own) k ⟨"java/lang/String", "charAt", "(I)C"⟩)
  | (k, 19, _, _, _, h) => iv_w h (.methodLink (iv_R own) k ⟨"java/lang/String", "indexOf", "(I)I"⟩)
  | (k, 20, a, _, _, h) => Nat.beq a 103 && iv_w h (.fieldLink (iv_R own) k RX11 "ALL" "[LGraterOrder$Word;")
  | _ => false
/-- the String constants: whose pool, which entry, what text; where the word stands in lw_tbl -/
def iv_skl : List (String × Nat × String × Nat) := [(RX11, 129, "", 9074), (RX11, 135, "brother", 9102), (RX11, 138, "grater", 9103), (RX11, 141, "holds", 9104), (RX11, 144, "even", 9105), (RX11, 147, "files", 9106), (RX11, 150, "draught", 9107), (RX11, 153, "grates", 9108), (RX11, 156, "takes", 9109), (RX11, 159, "puts", 9110), (RX11, 162, "swaps", 9111), (RX11, 165, "file", 9112), (RX11, 168, "day", 9113), (RX11, 171, "fine", 9114), (RX11, 174, "coarse", 9115), (RX11, 177, "slice", 9116), (RX11, 180, "or", 9101), (RX11, 183, "and", 9100), (RX11, 186, "not", 9117), (RX11, 189, "gone", 9118), (RX11, 192, "whole", 9119), (RX11, 195, "armed", 9120), (RX11, 198, "robbed", 9121), (RX11, 201, "with", 9099), (RX11, 204, "left", 9122), (RX11, 207, "today", 9123), (RX11, 210, "hurt", 9124), (RX11, 213, "number", 9125), (RX6, 79, ";<=>()", 3058), (RX10, 35, " has ", 5072), (RX10, 48, " of ", 5083), (RX10, 56, " by ", 5084)]
def iv_qok (own : Nat) (q : Nat × Value × Nat) : Bool := match q with
  | (k, .int v, h) => iv_w h (.constant (iv_R own) k v)
  | (k, .long v, h) => iv_w h (.constantLong (iv_R own) k v)
  | (k, .ref a, _) => iv_isS a && (match iv_nth iv_skl ((a - 203) / 2) with
    | some q => decide (q.1 = iv_R own) && decide (q.2.1 = k)
    | none => false)
  | _ => false
def iv_owns : List Nat := [0, 1, 2, 3, 4, 5, 6, 7, 8, 9, 10, 11, 12, 13, 20, 32, 33]
set_option maxRecDepth 100000 in
theorem iv_links_0 : (iv_ls 0).all (iv_lok 0) = true := by decide +kernel
set_option maxRecDepth 100000 in
theorem iv_links_1 : (iv_ls 1).all (iv_lok 1) = true := by decide +kernel
set_option maxRecDepth 100000 in
theorem iv_links_2 : (iv_ls 2).all (iv_lok 2) = true := by decide +kernel
set_option maxRecDepth 100000 in
theorem iv_links_3 : (iv_ls 3).all (iv_lok 3) = true := by decide +kernel
set_option maxRecDepth 100000 in
theorem iv_links_4 : (iv_ls 4).all (iv_lok 4) = true := by decide +kernel
set_option maxRecDepth 100000 in
theorem iv_links_5 : (iv_ls 5).all (iv_lok 5) = true := by decide +kernel
set_option maxRecDepth 100000 in
theorem iv_links_6 : (iv_ls 6).all (iv_lok 6) = true := by decide +kernel
set_option maxRecDepth 100000 in
theorem iv_links_7 : (iv_ls 7).all (iv_lok 7) = true := by decide +kernel
set_option maxRecDepth 100000 in
theorem iv_links_8 : (iv_ls 8).all (iv_lok 8) = true := by decide +kernel
set_option maxRecDepth 100000 in
theorem iv_links_9 : (iv_ls 9).all (iv_lok 9) = true := by decide +kernel
set_option maxRecDepth 100000 in
theorem iv_links_10 : (iv_ls 10).all (iv_lok 10) = true := by decide +kernel
set_option maxRecDepth 100000 in
theorem iv_links_11 : (iv_ls 11).all (iv_lok 11) = true := by decide +kernel
set_option maxRecDepth 100000 in
theorem iv_links_12 : (iv_ls 12).all (iv_lok 12) = true := by decide +kernel
set_option maxRecDepth 100000 in
theorem iv_links_13 : (iv_ls 13).all (iv_lok 13) = true := by decide +kernel
set_option maxRecDepth 100000 in
theorem iv_links_20 : (iv_ls 20).all (iv_lok 20) = true := by decide +kernel
set_option maxRecDepth 100000 in
theorem iv_links_32 : (iv_ls 32).all (iv_lok 32) = true := by decide +kernel
set_option maxRecDepth 100000 in
theorem iv_links_33 : (iv_ls 33).all (iv_lok 33) = true := by decide +kernel
theorem iv_links : ∀ o ∈ iv_owns, (iv_ls o).all (iv_lok o) = true := by
  intro o ho
  simp only [iv_owns, List.mem_cons, List.not_mem_nil, or_false] at ho
  rcases ho with rfl | rfl | rfl | rfl | rfl | rfl | rfl | rfl | rfl | rfl | rfl | rfl | rfl | rfl | rfl | rfl | rfl
  · exact iv_links_0
  · exact iv_links_1
  · exact iv_links_2
  · exact iv_links_3
  · exact iv_links_4
  · exact iv_links_5
  · exact iv_links_6
  · exact iv_links_7
  · exact iv_links_8
  · exact iv_links_9
  · exact iv_links_10
  · exact iv_links_11
  · exact iv_links_12
  · exact iv_links_13
  · exact iv_links_20
  · exact iv_links_32
  · exact iv_links_33
set_option maxRecDepth 100000 in
theorem iv_consts : ∀ o ∈ iv_owns, (iv_qs o).all (iv_qok o) = true := by decide +kernel
set_option maxRecDepth 100000 in
theorem iv_owned : (List.range iv_n).all (fun m => iv_owns.contains (iv_m m).2.1) = true := by decide +kernel
set_option maxRecDepth 100000 in
theorem iv_mok_0 : (List.range' 0 20).all iv_mok = true := by decide +kernel
set_option maxRecDepth 100000 in
theorem iv_mok_1 : (List.range' 20 20).all iv_mok = true := by decide +kernel
set_option maxRecDepth 100000 in
theorem iv_mok_2 : (List.range' 40 20).all iv_mok = true := by decide +kernel
set_option maxRecDepth 100000 in
theorem iv_mok_3 : (List.range' 60 20).all iv_mok = true := by decide +kernel
set_option maxRecDepth 100000 in
theorem iv_mok_4 : (List.range' 80 20).all iv_mok = true := by decide +kernel
set_option maxRecDepth 100000 in
theorem iv_mok_5 : (List.range' 100 20).all iv_mok = true := by decide +kernel
set_option maxRecDepth 100000 in
theorem iv_mok_6 : (List.range' 120 20).all iv_mok = true := by decide +kernel
set_option maxRecDepth 100000 in
theorem iv_mok_7 : (List.range' 140 20).all iv_mok = true := by decide +kernel
set_option maxRecDepth 100000 in
theorem iv_mok_8 : (List.range' 160 20).all iv_mok = true := by decide +kernel
set_option maxRecDepth 100000 in
theorem iv_mok_9 : (List.range' 180 20).all iv_mok = true := by decide +kernel
set_option maxRecDepth 100000 in
theorem iv_mok_10 : (List.range' 200 20).all iv_mok = true := by decide +kernel
set_option maxRecDepth 100000 in
theorem iv_mok_11 : (List.range' 220 20).all iv_mok = true := by decide +kernel
set_option maxRecDepth 100000 in
theorem iv_mok_12 : (List.range' 240 20).all iv_mok = true := by decide +kernel
set_option maxRecDepth 100000 in
theorem iv_mok_13 : (List.range' 260 20).all iv_mok = true := by decide +kernel
set_option maxRecDepth 100000 in
theorem iv_mok_14 : (List.range' 280 5).all iv_mok = true := by decide +kernel
theorem iv_mok_all (m : Nat) (h : m < iv_n) : iv_mok m = true := by
  have h : m < 285 := h
  by_cases h0 : m < 20
  · exact List.all_eq_true.mp iv_mok_0 m (List.mem_range'_1.mpr ⟨by omega, by omega⟩)
  by_cases h1 : m < 40
  · exact List.all_eq_true.mp iv_mok_1 m (List.mem_range'_1.mpr ⟨by omega, by omega⟩)
  by_cases h2 : m < 60
  · exact List.all_eq_true.mp iv_mok_2 m (List.mem_range'_1.mpr ⟨by omega, by omega⟩)
  by_cases h3 : m < 80
  · exact List.all_eq_true.mp iv_mok_3 m (List.mem_range'_1.mpr ⟨by omega, by omega⟩)
  by_cases h4 : m < 100
  · exact List.all_eq_true.mp iv_mok_4 m (List.mem_range'_1.mpr ⟨by omega, by omega⟩)
  by_cases h5 : m < 120
  · exact List.all_eq_true.mp iv_mok_5 m (List.mem_range'_1.mpr ⟨by omega, by omega⟩)
  by_cases h6 : m < 140
  · exact List.all_eq_true.mp iv_mok_6 m (List.mem_range'_1.mpr ⟨by omega, by omega⟩)
  by_cases h7 : m < 160
  · exact List.all_eq_true.mp iv_mok_7 m (List.mem_range'_1.mpr ⟨by omega, by omega⟩)
  by_cases h8 : m < 180
  · exact List.all_eq_true.mp iv_mok_8 m (List.mem_range'_1.mpr ⟨by omega, by omega⟩)
  by_cases h9 : m < 200
  · exact List.all_eq_true.mp iv_mok_9 m (List.mem_range'_1.mpr ⟨by omega, by omega⟩)
  by_cases h10 : m < 220
  · exact List.all_eq_true.mp iv_mok_10 m (List.mem_range'_1.mpr ⟨by omega, by omega⟩)
  by_cases h11 : m < 240
  · exact List.all_eq_true.mp iv_mok_11 m (List.mem_range'_1.mpr ⟨by omega, by omega⟩)
  by_cases h12 : m < 260
  · exact List.all_eq_true.mp iv_mok_12 m (List.mem_range'_1.mpr ⟨by omega, by omega⟩)
  by_cases h13 : m < 280
  · exact List.all_eq_true.mp iv_mok_13 m (List.mem_range'_1.mpr ⟨by omega, by omega⟩)
  by_cases h14 : m < 285
  · exact List.all_eq_true.mp iv_mok_14 m (List.mem_range'_1.mpr ⟨by omega, by omega⟩)
  omega
def iv_cwP (m : Nat) : Prop := iv_nth (iv_tb ((iv_h m).2.2.1 / 1000)) ((iv_h m).2.2.1 % 1000) = some (.code (iv_y m) (iv_c m) (iv_m m).2.2.1 (iv_m m).2.2.2.1)
theorem iv_cw_0 : iv_cwP 0 := rfl
theorem iv_cw_1 : iv_cwP 1 := rfl
theorem iv_cw_2 : iv_cwP 2 := rfl
theorem iv_cw_3 : iv_cwP 3 := rfl
theorem iv_cw_4 : iv_cwP 4 := rfl
theorem iv_cw_5 : iv_cwP 5 := rfl
theorem iv_cw_6 : iv_cwP 6 := rfl
theorem iv_cw_7 : iv_cwP 7 := rfl
theorem iv_cw_8 : iv_cwP 8 := rfl
theorem iv_cw_9 : iv_cwP 9 := rfl
theorem iv_cw_10 : iv_cwP 10 := rfl
theorem iv_cw_11 : iv_cwP 11 := rfl
theorem iv_cw_12 : iv_cwP 12 := rfl
theorem iv_cw_13 : iv_cwP 13 := rfl
theorem iv_cw_14 : iv_cwP 14 := rfl
theorem iv_cw_15 : iv_cwP 15 := rfl
theorem iv_cw_16 : iv_cwP 16 := rfl
theorem iv_cw_17 : iv_cwP 17 := rfl
theorem iv_cw_18 : iv_cwP 18 := rfl
theorem iv_cw_19 : iv_cwP 19 := rfl
theorem iv_cw_20 : iv_cwP 20 := rfl
theorem iv_cw_21 : iv_cwP 21 := rfl
theorem iv_cw_22 : iv_cwP 22 := rfl
theorem iv_cw_23 : iv_cwP 23 := rfl
theorem iv_cw_24 : iv_cwP 24 := rfl
theorem iv_cw_25 : iv_cwP 25 := rfl
theorem iv_cw_26 : iv_cwP 26 := rfl
theorem iv_cw_27 : iv_cwP 27 := rfl
theorem iv_cw_28 : iv_cwP 28 := rfl
theorem iv_cw_29 : iv_cwP 29 := rfl
theorem iv_cw_30 : iv_cwP 30 := rfl
theorem iv_cw_31 : iv_cwP 31 := rfl
theorem iv_cw_32 : iv_cwP 32 := rfl
theorem iv_cw_33 : iv_cwP 33 := rfl
theorem iv_cw_34 : iv_cwP 34 := rfl
theorem iv_cw_35 : iv_cwP 35 := rfl
theorem iv_cw_36 : iv_cwP 36 := rfl
theorem iv_cw_37 : iv_cwP 37 := rfl
theorem iv_cw_38 : iv_cwP 38 := rfl
theorem iv_cw_39 : iv_cwP 39 := rfl
theorem iv_cw_40 : iv_cwP 40 := rfl
theorem iv_cw_41 : iv_cwP 41 := rfl
theorem iv_cw_42 : iv_cwP 42 := rfl
theorem iv_cw_43 : iv_cwP 43 := rfl
theorem iv_cw_44 : iv_cwP 44 := rfl
theorem iv_cw_45 : iv_cwP 45 := rfl
theorem iv_cw_46 : iv_cwP 46 := rfl
theorem iv_cw_47 : iv_cwP 47 := rfl
theorem iv_cw_48 : iv_cwP 48 := rfl
theorem iv_cw_49 : iv_cwP 49 := rfl
theorem iv_cw_50 : iv_cwP 50 := rfl
theorem iv_cw_51 : iv_cwP 51 := rfl
theorem iv_cw_52 : iv_cwP 52 := rfl
theorem iv_cw_53 : iv_cwP 53 := rfl
theorem iv_cw_54 : iv_cwP 54 := rfl
theorem iv_cw_55 : iv_cwP 55 := rfl
theorem iv_cw_56 : iv_cwP 56 := rfl
theorem iv_cw_57 : iv_cwP 57 := rfl
theorem iv_cw_58 : iv_cwP 58 := rfl
theorem iv_cw_59 : iv_cwP 59 := rfl
theorem iv_cw_60 : iv_cwP 60 := rfl
theorem iv_cw_61 : iv_cwP 61 := rfl
theorem iv_cw_62 : iv_cwP 62 := rfl
theorem iv_cw_63 : iv_cwP 63 := rfl
theorem iv_cw_64 : iv_cwP 64 := rfl
theorem iv_cw_65 : iv_cwP 65 := rfl
theorem iv_cw_66 : iv_cwP 66 := rfl
theorem iv_cw_67 : iv_cwP 67 := rfl
theorem iv_cw_68 : iv_cwP 68 := rfl
theorem iv_cw_69 : iv_cwP 69 := rfl
theorem iv_cw_70 : iv_cwP 70 := rfl
theorem iv_cw_71 : iv_cwP 71 := rfl
theorem iv_cw_72 : iv_cwP 72 := rfl
theorem iv_cw_73 : iv_cwP 73 := rfl
theorem iv_cw_74 : iv_cwP 74 := rfl
theorem iv_cw_75 : iv_cwP 75 := rfl
theorem iv_cw_76 : iv_cwP 76 := rfl
theorem iv_cw_77 : iv_cwP 77 := rfl
theorem iv_cw_78 : iv_cwP 78 := rfl
theorem iv_cw_79 : iv_cwP 79 := rfl
theorem iv_cw_80 : iv_cwP 80 := rfl
theorem iv_cw_81 : iv_cwP 81 := rfl
theorem iv_cw_82 : iv_cwP 82 := rfl
theorem iv_cw_83 : iv_cwP 83 := rfl
theorem iv_cw_84 : iv_cwP 84 := rfl
theorem iv_cw_85 : iv_cwP 85 := rfl
theorem iv_cw_86 : iv_cwP 86 := rfl
theorem iv_cw_87 : iv_cwP 87 := rfl
theorem iv_cw_88 : iv_cwP 88 := rfl
theorem iv_cw_89 : iv_cwP 89 := rfl
theorem iv_cw_90 : iv_cwP 90 := rfl
theorem iv_cw_91 : iv_cwP 91 := rfl
theorem iv_cw_92 : iv_cwP 92 := rfl
theorem iv_cw_93 : iv_cwP 93 := rfl
theorem iv_cw_94 : iv_cwP 94 := rfl
theorem iv_cw_95 : iv_cwP 95 := rfl
theorem iv_cw_96 : iv_cwP 96 := rfl
theorem iv_cw_97 : iv_cwP 97 := rfl
theorem iv_cw_98 : iv_cwP 98 := rfl
theorem iv_cw_99 : iv_cwP 99 := rfl
theorem iv_cw_100 : iv_cwP 100 := rfl
theorem iv_cw_101 : iv_cwP 101 := rfl
theorem iv_cw_102 : iv_cwP 102 := rfl
theorem iv_cw_103 : iv_cwP 103 := rfl
theorem iv_cw_104 : iv_cwP 104 := rfl
theorem iv_cw_105 : iv_cwP 105 := rfl
theorem iv_cw_106 : iv_cwP 106 := rfl
theorem iv_cw_107 : iv_cwP 107 := rfl
theorem iv_cw_108 : iv_cwP 108 := rfl
theorem iv_cw_109 : iv_cwP 109 := rfl
theorem iv_cw_110 : iv_cwP 110 := rfl
theorem iv_cw_111 : iv_cwP 111 := rfl
theorem iv_cw_112 : iv_cwP 112 := rfl
theorem iv_cw_113 : iv_cwP 113 := rfl
theorem iv_cw_114 : iv_cwP 114 := rfl
theorem iv_cw_115 : iv_cwP 115 := rfl
theorem iv_cw_116 : iv_cwP 116 := rfl
theorem iv_cw_117 : iv_cwP 117 := rfl
theorem iv_cw_118 : iv_cwP 118 := rfl
theorem iv_cw_119 : iv_cwP 119 := rfl
theorem iv_cw_120 : iv_cwP 120 := rfl
theorem iv_cw_121 : iv_cwP 121 := rfl
theorem iv_cw_122 : iv_cwP 122 := rfl
theorem iv_cw_123 : iv_cwP 123 := rfl
theorem iv_cw_124 : iv_cwP 124 := rfl
theorem iv_cw_125 : iv_cwP 125 := rfl
theorem iv_cw_126 : iv_cwP 126 := rfl
theorem iv_cw_127 : iv_cwP 127 := rfl
theorem iv_cw_128 : iv_cwP 128 := rfl
theorem iv_cw_129 : iv_cwP 129 := rfl
theorem iv_cw_130 : iv_cwP 130 := rfl
theorem iv_cw_131 : iv_cwP 131 := rfl
theorem iv_cw_132 : iv_cwP 132 := rfl
theorem iv_cw_133 : iv_cwP 133 := rfl
theorem iv_cw_134 : iv_cwP 134 := rfl
theorem iv_cw_135 : iv_cwP 135 := rfl
theorem iv_cw_136 : iv_cwP 136 := rfl
theorem iv_cw_137 : iv_cwP 137 := rfl
theorem iv_cw_138 : iv_cwP 138 := rfl
theorem iv_cw_139 : iv_cwP 139 := rfl
theorem iv_cw_140 : iv_cwP 140 := rfl
theorem iv_cw_141 : iv_cwP 141 := rfl
theorem iv_cw_142 : iv_cwP 142 := rfl
theorem iv_cw_143 : iv_cwP 143 := rfl
theorem iv_cw_144 : iv_cwP 144 := rfl
theorem iv_cw_145 : iv_cwP 145 := rfl
theorem iv_cw_146 : iv_cwP 146 := rfl
theorem iv_cw_147 : iv_cwP 147 := rfl
theorem iv_cw_148 : iv_cwP 148 := rfl
theorem iv_cw_149 : iv_cwP 149 := rfl
theorem iv_cw_150 : iv_cwP 150 := rfl
theorem iv_cw_151 : iv_cwP 151 := rfl
theorem iv_cw_152 : iv_cwP 152 := rfl
theorem iv_cw_153 : iv_cwP 153 := rfl
theorem iv_cw_154 : iv_cwP 154 := rfl
theorem iv_cw_155 : iv_cwP 155 := rfl
theorem iv_cw_156 : iv_cwP 156 := rfl
theorem iv_cw_157 : iv_cwP 157 := rfl
theorem iv_cw_158 : iv_cwP 158 := rfl
theorem iv_cw_159 : iv_cwP 159 := rfl
theorem iv_cw_160 : iv_cwP 160 := rfl
theorem iv_cw_161 : iv_cwP 161 := rfl
theorem iv_cw_162 : iv_cwP 162 := rfl
theorem iv_cw_163 : iv_cwP 163 := rfl
theorem iv_cw_164 : iv_cwP 164 := rfl
theorem iv_cw_165 : iv_cwP 165 := rfl
theorem iv_cw_166 : iv_cwP 166 := rfl
theorem iv_cw_167 : iv_cwP 167 := rfl
theorem iv_cw_168 : iv_cwP 168 := rfl
theorem iv_cw_169 : iv_cwP 169 := rfl
theorem iv_cw_170 : iv_cwP 170 := rfl
theorem iv_cw_171 : iv_cwP 171 := rfl
theorem iv_cw_172 : iv_cwP 172 := rfl
theorem iv_cw_173 : iv_cwP 173 := rfl
theorem iv_cw_174 : iv_cwP 174 := rfl
theorem iv_cw_175 : iv_cwP 175 := rfl
theorem iv_cw_176 : iv_cwP 176 := rfl
theorem iv_cw_177 : iv_cwP 177 := rfl
theorem iv_cw_178 : iv_cwP 178 := rfl
theorem iv_cw_179 : iv_cwP 179 := rfl
theorem iv_cw_180 : iv_cwP 180 := rfl
theorem iv_cw_181 : iv_cwP 181 := rfl
theorem iv_cw_182 : iv_cwP 182 := rfl
theorem iv_cw_183 : iv_cwP 183 := rfl
theorem iv_cw_184 : iv_cwP 184 := rfl
theorem iv_cw_185 : iv_cwP 185 := rfl
theorem iv_cw_186 : iv_cwP 186 := rfl
theorem iv_cw_187 : iv_cwP 187 := rfl
theorem iv_cw_188 : iv_cwP 188 := rfl
theorem iv_cw_189 : iv_cwP 189 := rfl
theorem iv_cw_190 : iv_cwP 190 := rfl
theorem iv_cw_191 : iv_cwP 191 := rfl
theorem iv_cw_192 : iv_cwP 192 := rfl
theorem iv_cw_193 : iv_cwP 193 := rfl
theorem iv_cw_194 : iv_cwP 194 := rfl
theorem iv_cw_195 : iv_cwP 195 := rfl
theorem iv_cw_196 : iv_cwP 196 := rfl
theorem iv_cw_197 : iv_cwP 197 := rfl
theorem iv_cw_198 : iv_cwP 198 := rfl
theorem iv_cw_199 : iv_cwP 199 := rfl
theorem iv_cw_200 : iv_cwP 200 := rfl
theorem iv_cw_201 : iv_cwP 201 := rfl
theorem iv_cw_202 : iv_cwP 202 := rfl
theorem iv_cw_203 : iv_cwP 203 := rfl
theorem iv_cw_204 : iv_cwP 204 := rfl
theorem iv_cw_205 : iv_cwP 205 := rfl
theorem iv_cw_206 : iv_cwP 206 := rfl
theorem iv_cw_207 : iv_cwP 207 := rfl
theorem iv_cw_208 : iv_cwP 208 := rfl
theorem iv_cw_209 : iv_cwP 209 := rfl
theorem iv_cw_210 : iv_cwP 210 := rfl
theorem iv_cw_211 : iv_cwP 211 := rfl
theorem iv_cw_212 : iv_cwP 212 := rfl
theorem iv_cw_213 : iv_cwP 213 := rfl
theorem iv_cw_214 : iv_cwP 214 := rfl
theorem iv_cw_215 : iv_cwP 215 := rfl
theorem iv_cw_216 : iv_cwP 216 := rfl
theorem iv_cw_217 : iv_cwP 217 := rfl
theorem iv_cw_218 : iv_cwP 218 := rfl
theorem iv_cw_219 : iv_cwP 219 := rfl
theorem iv_cw_220 : iv_cwP 220 := rfl
theorem iv_cw_221 : iv_cwP 221 := rfl
theorem iv_cw_222 : iv_cwP 222 := rfl
theorem iv_cw_223 : iv_cwP 223 := rfl
theorem iv_cw_224 : iv_cwP 224 := rfl
theorem iv_cw_225 : iv_cwP 225 := rfl
theorem iv_cw_226 : iv_cwP 226 := rfl
theorem iv_cw_227 : iv_cwP 227 := rfl
theorem iv_cw_228 : iv_cwP 228 := rfl
theorem iv_cw_229 : iv_cwP 229 := rfl
theorem iv_cw_230 : iv_cwP 230 := rfl
theorem iv_cw_231 : iv_cwP 231 := rfl
theorem iv_cw_232 : iv_cwP 232 := rfl
theorem iv_cw_233 : iv_cwP 233 := rfl
theorem iv_cw_234 : iv_cwP 234 := rfl
theorem iv_cw_235 : iv_cwP 235 := rfl
theorem iv_cw_236 : iv_cwP 236 := rfl
theorem iv_cw_237 : iv_cwP 237 := rfl
theorem iv_cw_238 : iv_cwP 238 := rfl
theorem iv_cw_239 : iv_cwP 239 := rfl
theorem iv_cw_240 : iv_cwP 240 := rfl
theorem iv_cw_241 : iv_cwP 241 := rfl
theorem iv_cw_242 : iv_cwP 242 := rfl
theorem iv_cw_243 : iv_cwP 243 := rfl
theorem iv_cw_244 : iv_cwP 244 := rfl
theorem iv_cw_245 : iv_cwP 245 := rfl
theorem iv_cw_246 : iv_cwP 246 := rfl
theorem iv_cw_247 : iv_cwP 247 := rfl
theorem iv_cw_248 : iv_cwP 248 := rfl
theorem iv_cw_249 : iv_cwP 249 := rfl
theorem iv_cw_250 : iv_cwP 250 := rfl
theorem iv_cw_251 : iv_cwP 251 := rfl
theorem iv_cw_252 : iv_cwP 252 := rfl
theorem iv_cw_253 : iv_cwP 253 := rfl
theorem iv_cw_254 : iv_cwP 254 := rfl
theorem iv_cw_255 : iv_cwP 255 := rfl
theorem iv_cw_256 : iv_cwP 256 := rfl
theorem iv_cw_257 : iv_cwP 257 := rfl
theorem iv_cw_258 : iv_cwP 258 := rfl
theorem iv_cw_259 : iv_cwP 259 := rfl
theorem iv_cw_260 : iv_cwP 260 := rfl
theorem iv_cw_261 : iv_cwP 261 := rfl
theorem iv_cw_262 : iv_cwP 262 := rfl
theorem iv_cw_263 : iv_cwP 263 := rfl
theorem iv_cw_264 : iv_cwP 264 := rfl
theorem iv_cw_265 : iv_cwP 265 := rfl
theorem iv_cw_266 : iv_cwP 266 := rfl
theorem iv_cw_267 : iv_cwP 267 := rfl
theorem iv_cw_268 : iv_cwP 268 := rfl
theorem iv_cw_269 : iv_cwP 269 := rfl
theorem iv_cw_270 : iv_cwP 270 := rfl
theorem iv_cw_271 : iv_cwP 271 := rfl
theorem iv_cw_272 : iv_cwP 272 := rfl
theorem iv_cw_273 : iv_cwP 273 := rfl
theorem iv_cw_274 : iv_cwP 274 := rfl
theorem iv_cw_275 : iv_cwP 275 := rfl
theorem iv_cw_276 : iv_cwP 276 := rfl
theorem iv_cw_277 : iv_cwP 277 := rfl
theorem iv_cw_278 : iv_cwP 278 := rfl
theorem iv_cw_279 : iv_cwP 279 := rfl
theorem iv_cw_280 : iv_cwP 280 := rfl
theorem iv_cw_281 : iv_cwP 281 := rfl
theorem iv_cw_282 : iv_cwP 282 := rfl
theorem iv_cw_283 : iv_cwP 283 := rfl
theorem iv_cw_284 : iv_cwP 284 := rfl
theorem iv_cw (m : Nat) (h : m < iv_n) : iv_cwP m := by
  have h : m < 285 := h
  by_cases h142 : m < 142
  · by_cases h71 : m < 71
    · by_cases h35 : m < 35
      · by_cases h17 : m < 17
        · by_cases h8 : m < 8
          · by_cases h4 : m < 4
            · by_cases h2 : m < 2
              · by_cases h1 : m < 1
                · obtain rfl : m = 0 := by omega
                  exact iv_cw_0
                obtain rfl : m = 1 := by omega
                exact iv_cw_1
              by_cases h3 : m < 3
              · obtain rfl : m = 2 := by omega
                exact iv_cw_2
              obtain rfl : m = 3 := by omega
              exact iv_cw_3
            by_cases h6 : m < 6
            · by_cases h5 : m < 5
              · obtain rfl : m = 4 := by omega
                exact iv_cw_4
              obtain rfl : m = 5 := by omega
              exact iv_cw_5
            by_cases h7 : m < 7
            · obtain rfl : m = 6 := by omega
              exact iv_cw_6
            obtain rfl : m = 7 := by omega
            exact iv_cw_7
          by_cases h12 : m < 12
          · by_cases h10 : m < 10
            · by_cases h9 : m < 9
              · obtain rfl : m = 8 := by omega
                exact iv_cw_8
              obtain rfl : m = 9 := by omega
              exact iv_cw_9
            by_cases h11 : m < 11
            · obtain rfl : m = 10 := by omega
              exact iv_cw_10
            obtain rfl : m = 11 := by omega
            exact iv_cw_11
          by_cases h14 : m < 14
          · by_cases h13 : m < 13
            · obtain rfl : m = 12 := by omega
              exact iv_cw_12
            obtain rfl : m = 13 := by omega
            exact iv_cw_13
          by_cases h15 : m < 15
          · obtain rfl : m = 14 := by omega
            exact iv_cw_14
          by_cases h16 : m < 16
          · obtain rfl : m = 15 := by omega
            exact iv_cw_15
          obtain rfl : m = 16 := by omega
          exact iv_cw_16
        by_cases h26 : m < 26
        · by_cases h21 : m < 21
          · by_cases h19 : m < 19
            · by_cases h18 : m < 18
              · obtain rfl : m = 17 := by omega
                exact iv_cw_17
              obtain rfl : m = 18 := by omega
              exact iv_cw_18
            by_cases h20 : m < 20
            · obtain rfl : m = 19 := by omega
              exact iv_cw_19
            obtain rfl : m = 20 := by omega
            exact iv_cw_20
          by_cases h23 : m < 23
          · by_cases h22 : m < 22
            · obtain rfl : m = 21 := by omega
              exact iv_cw_21
            obtain rfl : m = 22 := by omega
            exact iv_cw_22
          by_cases h24 : m < 24
          · obtain rfl : m = 23 := by omega
            exact iv_cw_23
          by_cases h25 : m < 25
          · obtain rfl : m = 24 := by omega
            exact iv_cw_24
          obtain rfl : m = 25 := by omega
          exact iv_cw_25
        by_cases h30 : m < 30
        · by_cases h28 : m < 28
          · by_cases h27 : m < 27
            · obtain rfl : m = 26 := by omega
              exact iv_cw_26
            obtain rfl : m = 27 := by omega
            exact iv_cw_27
          by_cases h29 : m < 29
          · obtain rfl : m = 28 := by omega
            exact iv_cw_28
          obtain rfl : m = 29 := by omega
          exact iv_cw_29
        by_cases h32 : m < 32
        · by_cases h31 : m < 31
          · obtain rfl : m = 30 := by omega
            exact iv_cw_30
          obtain rfl : m = 31 := by omega
          exact iv_cw_31
        by_cases h33 : m < 33
        · obtain rfl : m = 32 := by omega
          exact iv_cw_32
        by_cases h34 : m < 34
        · obtain rfl : m = 33 := by omega
          exact iv_cw_33
        obtain rfl : m = 34 := by omega
        exact iv_cw_34
      by_cases h53 : m < 53
      · by_cases h44 : m < 44
        · by_cases h39 : m < 39
          · by_cases h37 : m < 37
            · by_cases h36 : m < 36
              · obtain rfl : m = 35 := by omega
                exact iv_cw_35
              obtain rfl : m = 36 := by omega
              exact iv_cw_36
            by_cases h38 : m < 38
            · obtain rfl : m = 37 := by omega
              exact iv_cw_37
            obtain rfl : m = 38 := by omega
            exact iv_cw_38
          by_cases h41 : m < 41
          · by_cases h40 : m < 40
            · obtain rfl : m = 39 := by omega
              exact iv_cw_39
            obtain rfl : m = 40 := by omega
            exact iv_cw_40
          by_cases h42 : m < 42
          · obtain rfl : m = 41 := by omega
            exact iv_cw_41
          by_cases h43 : m < 43
          · obtain rfl : m = 42 := by omega
            exact iv_cw_42
          obtain rfl : m = 43 := by omega
          exact iv_cw_43
        by_cases h48 : m < 48
        · by_cases h46 : m < 46
          · by_cases h45 : m < 45
            · obtain rfl : m = 44 := by omega
              exact iv_cw_44
            obtain rfl : m = 45 := by omega
            exact iv_cw_45
          by_cases h47 : m < 47
          · obtain rfl : m = 46 := by omega
            exact iv_cw_46
          obtain rfl : m = 47 := by omega
          exact iv_cw_47
        by_cases h50 : m < 50
        · by_cases h49 : m < 49
          · obtain rfl : m = 48 := by omega
            exact iv_cw_48
          obtain rfl : m = 49 := by omega
          exact iv_cw_49
        by_cases h51 : m < 51
        · obtain rfl : m = 50 := by omega
          exact iv_cw_50
        by_cases h52 : m < 52
        · obtain rfl : m = 51 := by omega
          exact iv_cw_51
        obtain rfl : m = 52 := by omega
        exact iv_cw_52
      by_cases h62 : m < 62
      · by_cases h57 : m < 57
        · by_cases h55 : m < 55
          · by_cases h54 : m < 54
            · obtain rfl : m = 53 := by omega
              exact iv_cw_53
            obtain rfl : m = 54 := by omega
            exact iv_cw_54
          by_cases h56 : m < 56
          · obtain rfl : m = 55 := by omega
            exact iv_cw_55
          obtain rfl : m = 56 := by omega
          exact iv_cw_56
        by_cases h59 : m < 59
        · by_cases h58 : m < 58
          · obtain rfl : m = 57 := by omega
            exact iv_cw_57
          obtain rfl : m = 58 := by omega
          exact iv_cw_58
        by_cases h60 : m < 60
        · obtain rfl : m = 59 := by omega
          exact iv_cw_59
        by_cases h61 : m < 61
        · obtain rfl : m = 60 := by omega
          exact iv_cw_60
        obtain rfl : m = 61 := by omega
        exact iv_cw_61
      by_cases h66 : m < 66
      · by_cases h64 : m < 64
        · by_cases h63 : m < 63
          · obtain rfl : m = 62 := by omega
            exact iv_cw_62
          obtain rfl : m = 63 := by omega
          exact iv_cw_63
        by_cases h65 : m < 65
        · obtain rfl : m = 64 := by omega
          exact iv_cw_64
        obtain rfl : m = 65 := by omega
        exact iv_cw_65
      by_cases h68 : m < 68
      · by_cases h67 : m < 67
        · obtain rfl : m = 66 := by omega
          exact iv_cw_66
        obtain rfl : m = 67 := by omega
        exact iv_cw_67
      by_cases h69 : m < 69
      · obtain rfl : m = 68 := by omega
        exact iv_cw_68
      by_cases h70 : m < 70
      · obtain rfl : m = 69 := by omega
        exact iv_cw_69
      obtain rfl : m = 70 := by omega
      exact iv_cw_70
    by_cases h106 : m < 106
    · by_cases h88 : m < 88
      · by_cases h79 : m < 79
        · by_cases h75 : m < 75
          · by_cases h73 : m < 73
            · by_cases h72 : m < 72
              · obtain rfl : m = 71 := by omega
                exact iv_cw_71
              obtain rfl : m = 72 := by omega
              exact iv_cw_72
            by_cases h74 : m < 74
            · obtain rfl : m = 73 := by omega
              exact iv_cw_73
            obtain rfl : m = 74 := by omega
            exact iv_cw_74
          by_cases h77 : m < 77
          · by_cases h76 : m < 76
            · obtain rfl : m = 75 := by omega
              exact iv_cw_75
            obtain rfl : m = 76 := by omega
            exact iv_cw_76
          by_cases h78 : m < 78
          · obtain rfl : m = 77 := by omega
            exact iv_cw_77
          obtain rfl : m = 78 := by omega
          exact iv_cw_78
        by_cases h83 : m < 83
        · by_cases h81 : m < 81
          · by_cases h80 : m < 80
            · obtain rfl : m = 79 := by omega
              exact iv_cw_79
            obtain rfl : m = 80 := by omega
            exact iv_cw_80
          by_cases h82 : m < 82
          · obtain rfl : m = 81 := by omega
            exact iv_cw_81
          obtain rfl : m = 82 := by omega
          exact iv_cw_82
        by_cases h85 : m < 85
        · by_cases h84 : m < 84
          · obtain rfl : m = 83 := by omega
            exact iv_cw_83
          obtain rfl : m = 84 := by omega
          exact iv_cw_84
        by_cases h86 : m < 86
        · obtain rfl : m = 85 := by omega
          exact iv_cw_85
        by_cases h87 : m < 87
        · obtain rfl : m = 86 := by omega
          exact iv_cw_86
        obtain rfl : m = 87 := by omega
        exact iv_cw_87
      by_cases h97 : m < 97
      · by_cases h92 : m < 92
        · by_cases h90 : m < 90
          · by_cases h89 : m < 89
            · obtain rfl : m = 88 := by omega
              exact iv_cw_88
            obtain rfl : m = 89 := by omega
            exact iv_cw_89
          by_cases h91 : m < 91
          · obtain rfl : m = 90 := by omega
            exact iv_cw_90
          obtain rfl : m = 91 := by omega
          exact iv_cw_91
        by_cases h94 : m < 94
        · by_cases h93 : m < 93
          · obtain rfl : m = 92 := by omega
            exact iv_cw_92
          obtain rfl : m = 93 := by omega
          exact iv_cw_93
        by_cases h95 : m < 95
        · obtain rfl : m = 94 := by omega
          exact iv_cw_94
        by_cases h96 : m < 96
        · obtain rfl : m = 95 := by omega
          exact iv_cw_95
        obtain rfl : m = 96 := by omega
        exact iv_cw_96
      by_cases h101 : m < 101
      · by_cases h99 : m < 99
        · by_cases h98 : m < 98
          · obtain rfl : m = 97 := by omega
            exact iv_cw_97
          obtain rfl : m = 98 := by omega
          exact iv_cw_98
        by_cases h100 : m < 100
        · obtain rfl : m = 99 := by omega
          exact iv_cw_99
        obtain rfl : m = 100 := by omega
        exact iv_cw_100
      by_cases h103 : m < 103
      · by_cases h102 : m < 102
        · obtain rfl : m = 101 := by omega
          exact iv_cw_101
        obtain rfl : m = 102 := by omega
        exact iv_cw_102
      by_cases h104 : m < 104
      · obtain rfl : m = 103 := by omega
        exact iv_cw_103
      by_cases h105 : m < 105
      · obtain rfl : m = 104 := by omega
        exact iv_cw_104
      obtain rfl : m = 105 := by omega
      exact iv_cw_105
    by_cases h124 : m < 124
    · by_cases h115 : m < 115
      · by_cases h110 : m < 110
        · by_cases h108 : m < 108
          · by_cases h107 : m < 107
            · obtain rfl : m = 106 := by omega
              exact iv_cw_106
            obtain rfl : m = 107 := by omega
            exact iv_cw_107
          by_cases h109 : m < 109
          · obtain rfl : m = 108 := by omega
            exact iv_cw_108
          obtain rfl : m = 109 := by omega
          exact iv_cw_109
        by_cases h112 : m < 112
        · by_cases h111 : m < 111
          · obtain rfl : m = 110 := by omega
            exact iv_cw_110
          obtain rfl : m = 111 := by omega
          exact iv_cw_111
        by_cases h113 : m < 113
        · obtain rfl : m = 112 := by omega
          exact iv_cw_112
        by_cases h114 : m < 114
        · obtain rfl : m = 113 := by omega
          exact iv_cw_113
        obtain rfl : m = 114 := by omega
        exact iv_cw_114
      by_cases h119 : m < 119
      · by_cases h117 : m < 117
        · by_cases h116 : m < 116
          · obtain rfl : m = 115 := by omega
            exact iv_cw_115
          obtain rfl : m = 116 := by omega
          exact iv_cw_116
        by_cases h118 : m < 118
        · obtain rfl : m = 117 := by omega
          exact iv_cw_117
        obtain rfl : m = 118 := by omega
        exact iv_cw_118
      by_cases h121 : m < 121
      · by_cases h120 : m < 120
        · obtain rfl : m = 119 := by omega
          exact iv_cw_119
        obtain rfl : m = 120 := by omega
        exact iv_cw_120
      by_cases h122 : m < 122
      · obtain rfl : m = 121 := by omega
        exact iv_cw_121
      by_cases h123 : m < 123
      · obtain rfl : m = 122 := by omega
        exact iv_cw_122
      obtain rfl : m = 123 := by omega
      exact iv_cw_123
    by_cases h133 : m < 133
    · by_cases h128 : m < 128
      · by_cases h126 : m < 126
        · by_cases h125 : m < 125
          · obtain rfl : m = 124 := by omega
            exact iv_cw_124
          obtain rfl : m = 125 := by omega
          exact iv_cw_125
        by_cases h127 : m < 127
        · obtain rfl : m = 126 := by omega
          exact iv_cw_126
        obtain rfl : m = 127 := by omega
        exact iv_cw_127
      by_cases h130 : m < 130
      · by_cases h129 : m < 129
        · obtain rfl : m = 128 := by omega
          exact iv_cw_128
        obtain rfl : m = 129 := by omega
        exact iv_cw_129
      by_cases h131 : m < 131
      · obtain rfl : m = 130 := by omega
        exact iv_cw_130
      by_cases h132 : m < 132
      · obtain rfl : m = 131 := by omega
        exact iv_cw_131
      obtain rfl : m = 132 := by omega
      exact iv_cw_132
    by_cases h137 : m < 137
    · by_cases h135 : m < 135
      · by_cases h134 : m < 134
        · obtain rfl : m = 133 := by omega
          exact iv_cw_133
        obtain rfl : m = 134 := by omega
        exact iv_cw_134
      by_cases h136 : m < 136
      · obtain rfl : m = 135 := by omega
        exact iv_cw_135
      obtain rfl : m = 136 := by omega
      exact iv_cw_136
    by_cases h139 : m < 139
    · by_cases h138 : m < 138
      · obtain rfl : m = 137 := by omega
        exact iv_cw_137
      obtain rfl : m = 138 := by omega
      exact iv_cw_138
    by_cases h140 : m < 140
    · obtain rfl : m = 139 := by omega
      exact iv_cw_139
    by_cases h141 : m < 141
    · obtain rfl : m = 140 := by omega
      exact iv_cw_140
    obtain rfl : m = 141 := by omega
    exact iv_cw_141
  by_cases h213 : m < 213
  · by_cases h177 : m < 177
    · by_cases h159 : m < 159
      · by_cases h150 : m < 150
        · by_cases h146 : m < 146
          · by_cases h144 : m < 144
            · by_cases h143 : m < 143
              · obtain rfl : m = 142 := by omega
                exact iv_cw_142
              obtain rfl : m = 143 := by omega
              exact iv_cw_143
            by_cases h145 : m < 145
            · obtain rfl : m = 144 := by omega
              exact iv_cw_144
            obtain rfl : m = 145 := by omega
            exact iv_cw_145
          by_cases h148 : m < 148
          · by_cases h147 : m < 147
            · obtain rfl : m = 146 := by omega
              exact iv_cw_146
            obtain rfl : m = 147 := by omega
            exact iv_cw_147
          by_cases h149 : m < 149
          · obtain rfl : m = 148 := by omega
            exact iv_cw_148
          obtain rfl : m = 149 := by omega
          exact iv_cw_149
        by_cases h154 : m < 154
        · by_cases h152 : m < 152
          · by_cases h151 : m < 151
            · obtain rfl : m = 150 := by omega
              exact iv_cw_150
            obtain rfl : m = 151 := by omega
            exact iv_cw_151
          by_cases h153 : m < 153
          · obtain rfl : m = 152 := by omega
            exact iv_cw_152
          obtain rfl : m = 153 := by omega
          exact iv_cw_153
        by_cases h156 : m < 156
        · by_cases h155 : m < 155
          · obtain rfl : m = 154 := by omega
            exact iv_cw_154
          obtain rfl : m = 155 := by omega
          exact iv_cw_155
        by_cases h157 : m < 157
        · obtain rfl : m = 156 := by omega
          exact iv_cw_156
        by_cases h158 : m < 158
        · obtain rfl : m = 157 := by omega
          exact iv_cw_157
        obtain rfl : m = 158 := by omega
        exact iv_cw_158
      by_cases h168 : m < 168
      · by_cases h163 : m < 163
        · by_cases h161 : m < 161
          · by_cases h160 : m < 160
            · obtain rfl : m = 159 := by omega
              exact iv_cw_159
            obtain rfl : m = 160 := by omega
            exact iv_cw_160
          by_cases h162 : m < 162
          · obtain rfl : m = 161 := by omega
            exact iv_cw_161
          obtain rfl : m = 162 := by omega
          exact iv_cw_162
        by_cases h165 : m < 165
        · by_cases h164 : m < 164
          · obtain rfl : m = 163 := by omega
            exact iv_cw_163
          obtain rfl : m = 164 := by omega
          exact iv_cw_164
        by_cases h166 : m < 166
        · obtain rfl : m = 165 := by omega
          exact iv_cw_165
        by_cases h167 : m < 167
        · obtain rfl : m = 166 := by omega
          exact iv_cw_166
        obtain rfl : m = 167 := by omega
        exact iv_cw_167
      by_cases h172 : m < 172
      · by_cases h170 : m < 170
        · by_cases h169 : m < 169
          · obtain rfl : m = 168 := by omega
            exact iv_cw_168
          obtain rfl : m = 169 := by omega
          exact iv_cw_169
        by_cases h171 : m < 171
        · obtain rfl : m = 170 := by omega
          exact iv_cw_170
        obtain rfl : m = 171 := by omega
        exact iv_cw_171
      by_cases h174 : m < 174
      · by_cases h173 : m < 173
        · obtain rfl : m = 172 := by omega
          exact iv_cw_172
        obtain rfl : m = 173 := by omega
        exact iv_cw_173
      by_cases h175 : m < 175
      · obtain rfl : m = 174 := by omega
        exact iv_cw_174
      by_cases h176 : m < 176
      · obtain rfl : m = 175 := by omega
        exact iv_cw_175
      obtain rfl : m = 176 := by omega
      exact iv_cw_176
    by_cases h195 : m < 195
    · by_cases h186 : m < 186
      · by_cases h181 : m < 181
        · by_cases h179 : m < 179
          · by_cases h178 : m < 178
            · obtain rfl : m = 177 := by omega
              exact iv_cw_177
            obtain rfl : m = 178 := by omega
            exact iv_cw_178
          by_cases h180 : m < 180
          · obtain rfl : m = 179 := by omega
            exact iv_cw_179
          obtain rfl : m = 180 := by omega
          exact iv_cw_180
        by_cases h183 : m < 183
        · by_cases h182 : m < 182
          · obtain rfl : m = 181 := by omega
            exact iv_cw_181
          obtain rfl : m = 182 := by omega
          exact iv_cw_182
        by_cases h184 : m < 184
        · obtain rfl : m = 183 := by omega
          exact iv_cw_183
        by_cases h185 : m < 185
        · obtain rfl : m = 184 := by omega
          exact iv_cw_184
        obtain rfl : m = 185 := by omega
        exact iv_cw_185
      by_cases h190 : m < 190
      · by_cases h188 : m < 188
        · by_cases h187 : m < 187
          · obtain rfl : m = 186 := by omega
            exact iv_cw_186
          obtain rfl : m = 187 := by omega
          exact iv_cw_187
        by_cases h189 : m < 189
        · obtain rfl : m = 188 := by omega
          exact iv_cw_188
        obtain rfl : m = 189 := by omega
        exact iv_cw_189
      by_cases h192 : m < 192
      · by_cases h191 : m < 191
        · obtain rfl : m = 190 := by omega
          exact iv_cw_190
        obtain rfl : m = 191 := by omega
        exact iv_cw_191
      by_cases h193 : m < 193
      · obtain rfl : m = 192 := by omega
        exact iv_cw_192
      by_cases h194 : m < 194
      · obtain rfl : m = 193 := by omega
        exact iv_cw_193
      obtain rfl : m = 194 := by omega
      exact iv_cw_194
    by_cases h204 : m < 204
    · by_cases h199 : m < 199
      · by_cases h197 : m < 197
        · by_cases h196 : m < 196
          · obtain rfl : m = 195 := by omega
            exact iv_cw_195
          obtain rfl : m = 196 := by omega
          exact iv_cw_196
        by_cases h198 : m < 198
        · obtain rfl : m = 197 := by omega
          exact iv_cw_197
        obtain rfl : m = 198 := by omega
        exact iv_cw_198
      by_cases h201 : m < 201
      · by_cases h200 : m < 200
        · obtain rfl : m = 199 := by omega
          exact iv_cw_199
        obtain rfl : m = 200 := by omega
        exact iv_cw_200
      by_cases h202 : m < 202
      · obtain rfl : m = 201 := by omega
        exact iv_cw_201
      by_cases h203 : m < 203
      · obtain rfl : m = 202 := by omega
        exact iv_cw_202
      obtain rfl : m = 203 := by omega
      exact iv_cw_203
    by_cases h208 : m < 208
    · by_cases h206 : m < 206
      · by_cases h205 : m < 205
        · obtain rfl : m = 204 := by omega
          exact iv_cw_204
        obtain rfl : m = 205 := by omega
        exact iv_cw_205
      by_cases h207 : m < 207
      · obtain rfl : m = 206 := by omega
        exact iv_cw_206
      obtain rfl : m = 207 := by omega
      exact iv_cw_207
    by_cases h210 : m < 210
    · by_cases h209 : m < 209
      · obtain rfl : m = 208 := by omega
        exact iv_cw_208
      obtain rfl : m = 209 := by omega
      exact iv_cw_209
    by_cases h211 : m < 211
    · obtain rfl : m = 210 := by omega
      exact iv_cw_210
    by_cases h212 : m < 212
    · obtain rfl : m = 211 := by omega
      exact iv_cw_211
    obtain rfl : m = 212 := by omega
    exact iv_cw_212
  by_cases h249 : m < 249
  · by_cases h231 : m < 231
    · by_cases h222 : m < 222
      · by_cases h217 : m < 217
        · by_cases h215 : m < 215
          · by_cases h214 : m < 214
            · obtain rfl : m = 213 := by omega
              exact iv_cw_213
            obtain rfl : m = 214 := by omega
            exact iv_cw_214
          by_cases h216 : m < 216
          · obtain rfl : m = 215 := by omega
            exact iv_cw_215
          obtain rfl : m = 216 := by omega
          exact iv_cw_216
        by_cases h219 : m < 219
        · by_cases h218 : m < 218
          · obtain rfl : m = 217 := by omega
            exact iv_cw_217
          obtain rfl : m = 218 := by omega
          exact iv_cw_218
        by_cases h220 : m < 220
        · obtain rfl : m = 219 := by omega
          exact iv_cw_219
        by_cases h221 : m < 221
        · obtain rfl : m = 220 := by omega
          exact iv_cw_220
        obtain rfl : m = 221 := by omega
        exact iv_cw_221
      by_cases h226 : m < 226
      · by_cases h224 : m < 224
        · by_cases h223 : m < 223
          · obtain rfl : m = 222 := by omega
            exact iv_cw_222
          obtain rfl : m = 223 := by omega
          exact iv_cw_223
        by_cases h225 : m < 225
        · obtain rfl : m = 224 := by omega
          exact iv_cw_224
        obtain rfl : m = 225 := by omega
        exact iv_cw_225
      by_cases h228 : m < 228
      · by_cases h227 : m < 227
        · obtain rfl : m = 226 := by omega
          exact iv_cw_226
        obtain rfl : m = 227 := by omega
        exact iv_cw_227
      by_cases h229 : m < 229
      · obtain rfl : m = 228 := by omega
        exact iv_cw_228
      by_cases h230 : m < 230
      · obtain rfl : m = 229 := by omega
        exact iv_cw_229
      obtain rfl : m = 230 := by omega
      exact iv_cw_230
    by_cases h240 : m < 240
    · by_cases h235 : m < 235
      · by_cases h233 : m < 233
        · by_cases h232 : m < 232
          · obtain rfl : m = 231 := by omega
            exact iv_cw_231
          obtain rfl : m = 232 := by omega
          exact iv_cw_232
        by_cases h234 : m < 234
        · obtain rfl : m = 233 := by omega
          exact iv_cw_233
        obtain rfl : m = 234 := by omega
        exact iv_cw_234
      by_cases h237 : m < 237
      · by_cases h236 : m < 236
        · obtain rfl : m = 235 := by omega
          exact iv_cw_235
        obtain rfl : m = 236 := by omega
        exact iv_cw_236
      by_cases h238 : m < 238
      · obtain rfl : m = 237 := by omega
        exact iv_cw_237
      by_cases h239 : m < 239
      · obtain rfl : m = 238 := by omega
        exact iv_cw_238
      obtain rfl : m = 239 := by omega
      exact iv_cw_239
    by_cases h244 : m < 244
    · by_cases h242 : m < 242
      · by_cases h241 : m < 241
        · obtain rfl : m = 240 := by omega
          exact iv_cw_240
        obtain rfl : m = 241 := by omega
        exact iv_cw_241
      by_cases h243 : m < 243
      · obtain rfl : m = 242 := by omega
        exact iv_cw_242
      obtain rfl : m = 243 := by omega
      exact iv_cw_243
    by_cases h246 : m < 246
    · by_cases h245 : m < 245
      · obtain rfl : m = 244 := by omega
        exact iv_cw_244
      obtain rfl : m = 245 := by omega
      exact iv_cw_245
    by_cases h247 : m < 247
    · obtain rfl : m = 246 := by omega
      exact iv_cw_246
    by_cases h248 : m < 248
    · obtain rfl : m = 247 := by omega
      exact iv_cw_247
    obtain rfl : m = 248 := by omega
    exact iv_cw_248
  by_cases h267 : m < 267
  · by_cases h258 : m < 258
    · by_cases h253 : m < 253
      · by_cases h251 : m < 251
        · by_cases h250 : m < 250
          · obtain rfl : m = 249 := by omega
            exact iv_cw_249
          obtain rfl : m = 250 := by omega
          exact iv_cw_250
        by_cases h252 : m < 252
        · obtain rfl : m = 251 := by omega
          exact iv_cw_251
        obtain rfl : m = 252 := by omega
        exact iv_cw_252
      by_cases h255 : m < 255
      · by_cases h254 : m < 254
        · obtain rfl : m = 253 := by omega
          exact iv_cw_253
        obtain rfl : m = 254 := by omega
        exact iv_cw_254
      by_cases h256 : m < 256
      · obtain rfl : m = 255 := by omega
        exact iv_cw_255
      by_cases h257 : m < 257
      · obtain rfl : m = 256 := by omega
        exact iv_cw_256
      obtain rfl : m = 257 := by omega
      exact iv_cw_257
    by_cases h262 : m < 262
    · by_cases h260 : m < 260
      · by_cases h259 : m < 259
        · obtain rfl : m = 258 := by omega
          exact iv_cw_258
        obtain rfl : m = 259 := by omega
        exact iv_cw_259
      by_cases h261 : m < 261
      · obtain rfl : m = 260 := by omega
        exact iv_cw_260
      obtain rfl : m = 261 := by omega
      exact iv_cw_261
    by_cases h264 : m < 264
    · by_cases h263 : m < 263
      · obtain rfl : m = 262 := by omega
        exact iv_cw_262
      obtain rfl : m = 263 := by omega
      exact iv_cw_263
    by_cases h265 : m < 265
    · obtain rfl : m = 264 := by omega
      exact iv_cw_264
    by_cases h266 : m < 266
    · obtain rfl : m = 265 := by omega
      exact iv_cw_265
    obtain rfl : m = 266 := by omega
    exact iv_cw_266
  by_cases h276 : m < 276
  · by_cases h271 : m < 271
    · by_cases h269 : m < 269
      · by_cases h268 : m < 268
        · obtain rfl : m = 267 := by omega
          exact iv_cw_267
        obtain rfl : m = 268 := by omega
        exact iv_cw_268
      by_cases h270 : m < 270
      · obtain rfl : m = 269 := by omega
        exact iv_cw_269
      obtain rfl : m = 270 := by omega
      exact iv_cw_270
    by_cases h273 : m < 273
    · by_cases h272 : m < 272
      · obtain rfl : m = 271 := by omega
        exact iv_cw_271
      obtain rfl : m = 272 := by omega
      exact iv_cw_272
    by_cases h274 : m < 274
    · obtain rfl : m = 273 := by omega
      exact iv_cw_273
    by_cases h275 : m < 275
    · obtain rfl : m = 274 := by omega
      exact iv_cw_274
    obtain rfl : m = 275 := by omega
    exact iv_cw_275
  by_cases h280 : m < 280
  · by_cases h278 : m < 278
    · by_cases h277 : m < 277
      · obtain rfl : m = 276 := by omega
        exact iv_cw_276
      obtain rfl : m = 277 := by omega
      exact iv_cw_277
    by_cases h279 : m < 279
    · obtain rfl : m = 278 := by omega
      exact iv_cw_278
    obtain rfl : m = 279 := by omega
    exact iv_cw_279
  by_cases h282 : m < 282
  · by_cases h281 : m < 281
    · obtain rfl : m = 280 := by omega
      exact iv_cw_280
    obtain rfl : m = 281 := by omega
    exact iv_cw_281
  by_cases h283 : m < 283
  · obtain rfl : m = 282 := by omega
    exact iv_cw_282
  by_cases h284 : m < 284
  · obtain rfl : m = 283 := by omega
    exact iv_cw_283
  obtain rfl : m = 284 := by omega
  exact iv_cw_284
theorem iv_code_in (m : Nat) (h : m < iv_n) : Cond.code (iv_y m) (iv_c m) (iv_m m).2.2.1 (iv_m m).2.2.2.1 ∈ iv_G := List.mem_filter.mpr ⟨iv_tb_in (iv_nth_in _ _ _ (iv_cw m h)), rfl⟩
set_option maxRecDepth 100000 in
theorem iv_lays : (List.range 13).all (fun ci => (List.range (iv_fn ci)).all (fun k => iv_w ((iv_hl ci).getD k 0) (u_lay (iv_C ci) (iv_T ci) k))) = true := by decide +kernel
def iv_gl : List (Nat × Cond) := [(0, Cond.instanceMethod objectInit), (1, Cond.code objectInit ⟨#[0xb1]⟩ 1 none), (2, Cond.native arraycopyName), (3, Cond.static arraycopyName), (4, Cond.initialized "java/lang/System"), (5, Cond.sameMethod RX11 "java/lang/Enum" "ordinal" "()I"), (6, Cond.selects RX11 ⟨RX11, "ordinal", "()I"⟩ ⟨"java/lang/Enum", "ordinal", "()I"⟩), (7, Cond.instanceMethod ⟨"java/lang/Enum", "ordinal", "()I"⟩), (8, Cond.code ⟨"java/lang/Enum", "ordinal", "()I"⟩ prog_20_method_2_code 1 (some .int)), (9, Cond.initialized "java/lang/Enum"), (10, Cond.fieldLink "java/lang/Enum" 7 "java/lang/Enum" "ordinal" "I"), (11, Cond.arrayClass .int), (12, Cond.arrayClass .long), (13, Cond.arrayClass .boolean), (14, Cond.static Lib.Math.max.name), (15, Cond.static Lib.Math.min.name), (16, Cond.static Lib.Math.abs.name), (17, Cond.code Lib.Math.max.name Lib.Math.max.code 2 (some .int)), (18, Cond.code Lib.Math.min.name Lib.Math.min.code 2 (some .int)), (19, Cond.code Lib.Math.abs.name Lib.Math.abs.code 1 (some .int)), (20, Cond.initialized "java/lang/Math")]
set_option maxRecDepth 100000 in
theorem iv_globs : iv_gl.all (fun q => iv_w (iv_hg.getD q.1 0) q.2) = true := by decide +kernel
theorem iv_glob (j : Nat) {q : Nat × Cond} (h : iv_gl[j]? = some q) : q.2 ∈ iv_G := iv_w_in (List.all_eq_true.mp iv_globs q (List.mem_of_getElem? h))
/-- words on the JDK's own methods of Strings -/
def iv_gs : List (Nat × Cond) := [(1018, Cond.initialized "java/lang/String"), (1019, Cond.initialized "java/lang/StringLatin1"), (1021, Cond.initialized "jdk/internal/util/Preconditions"), (3073, Cond.methodLink "java/lang/String" 505 (⟨"java/lang/String", "length", "()I"⟩ : MethodName)), (3074, Cond.instanceMethod (⟨"java/lang/String", "length", "()I"⟩ : MethodName)), (3075, Cond.selects "java/lang/String" (⟨"java/lang/String", "length", "()I"⟩ : MethodName) (⟨"java/lang/String", "length", "()I"⟩ : MethodName)), (3076, Cond.code (⟨"java/lang/String", "length", "()I"⟩ : MethodName) prog_25_method_54_code 1 (some .int)), (3077, Cond.methodLink "java/lang/String" 335 (⟨"java/lang/String", "coder", "()B"⟩ : MethodName)), (3078, Cond.instanceMethod (⟨"java/lang/String", "coder", "()B"⟩ : MethodName)), (3079, Cond.selects "java/lang/String" (⟨"java/lang/String", "coder", "()B"⟩ : MethodName) (⟨"java/lang/String", "coder", "()B"⟩ : MethodName)), (3080, Cond.code (⟨"java/lang/String", "coder", "()B"⟩ : MethodName) prog_25_method_152_code 1 (some .byte)), (3071, Cond.fieldLink "java/lang/String" 38 "java/lang/String" "COMPACT_STRINGS" "Z"), (9070, Cond.fieldLink "java/lang/String" 15 "java/lang/String" "coder" "B"), (9071, Cond.fieldLink "java/lang/String" 9 "java/lang/String" "value" "[B"), (3157, Cond.instanceMethod (⟨"java/lang/String", "charAt", "(I)C"⟩ : MethodName)), (3158, Cond.selects "java/lang/String" (⟨"java/lang/String", "charAt", "(I)C"⟩ : MethodName) (⟨"java/lang/String", "charAt", "(I)C"⟩ : MethodName)), (3159, Cond.code (⟨"java/lang/String", "charAt", "(I)C"⟩ : MethodName) prog_25_method_56_code 2 (some .char)), (3067, Cond.methodLink "java/lang/String" 492 (⟨"java/lang/String", "isLatin1", "()Z"⟩ : MethodName)), (3068, Cond.instanceMethod (⟨"java/lang/String", "isLatin1", "()Z"⟩ : MethodName)), (3069, Cond.selects "java/lang/String" (⟨"java/lang/String", "isLatin1", "()Z"⟩ : MethodName) (⟨"java/lang/String", "isLatin1", "()Z"⟩ : MethodName)), (3070, Cond.code (⟨"java/lang/String", "isLatin1", "()Z"⟩ : MethodName) prog_25_method_154_code 1 (some .boolean)), (3160, Cond.methodLink "java/lang/String" 495 (⟨"java/lang/StringLatin1", "charAt", "([BI)C"⟩ : MethodName)), (3161, Cond.static (⟨"java/lang/StringLatin1", "charAt", "([BI)C"⟩ : MethodName)), (3162, Cond.code (⟨"java/lang/StringLatin1", "charAt", "([BI)C"⟩ : MethodName) prog_26_method_2_code 2 (some .char)), (3163, Cond.methodLink "java/lang/StringLatin1" 9 (⟨"java/lang/String", "checkIndex", "(II)V"⟩ : MethodName)), (3164, Cond.static (⟨"java/lang/String", "checkIndex", "(II)V"⟩ : MethodName)), (3165, Cond.code (⟨"java/lang/String", "checkIndex", "(II)V"⟩ : MethodName) prog_25_method_155_code 2 none), (3110, Cond.fieldLink "java/lang/String" 1053 "jdk/internal/util/Preconditions" "SIOOBE_FORMATTER" "Ljava/util/function/BiFunction;"), (3166, Cond.methodLink "java/lang/String" 1059 (⟨"jdk/internal/util/Preconditions", "checkIndex", "(IILjava/util/function/BiFunction;)I"⟩ : MethodName)), (3167, Cond.static (⟨"jdk/internal/util/Preconditions", "checkIndex", "(IILjava/util/function/BiFunction;)I"⟩ : MethodName)), (3168, Cond.code (⟨"jdk/internal/util/Preconditions", "checkIndex", "(IILjava/util/function/BiFunction;)I"⟩ : MethodName) prog_34_method_11_code 3 (some .int)), (3060, Cond.instanceMethod (⟨"java/lang/String", "indexOf", "(I)I"⟩ : MethodName)), (3061, Cond.selects "java/lang/String" (⟨"java/lang/String", "indexOf", "(I)I"⟩ : MethodName) (⟨"java/lang/String", "indexOf", "(I)I"⟩ : MethodName)), (3062, Cond.code (⟨"java/lang/String", "indexOf", "(I)I"⟩ : MethodName) prog_25_method_79_code 2 (some .int)), (3063, Cond.methodLink "java/lang/String" 633 (⟨"java/lang/String", "indexOf", "(II)I"⟩ : MethodName)), (3064, Cond.instanceMethod (⟨"java/lang/String", "indexOf", "(II)I"⟩ : MethodName)), (3065, Cond.selects "java/lang/String" (⟨"java/lang/String", "indexOf", "(II)I"⟩ : MethodName) (⟨"java/lang/String", "indexOf", "(II)I"⟩ : MethodName)), (3066, Cond.code (⟨"java/lang/String", "indexOf", "(II)I"⟩ : MethodName) prog_25_method_80_code 3 (some .int)), (3081, Cond.methodLink "java/lang/String" 637 (⟨"java/lang/StringLatin1", "indexOf", "([BIII)I"⟩ : MethodName)), (3082, Cond.static (⟨"java/lang/StringLatin1", "indexOf", "([BIII)I"⟩ : MethodName)), (3083, Cond.code (⟨"java/lang/StringLatin1", "indexOf", "([BIII)I"⟩ : MethodName) prog_26_method_22_code 4 (some .int)), (3084, Cond.methodLink "java/lang/StringLatin1" 88 (⟨"java/lang/StringLatin1", "canEncode", "(I)Z"⟩ : MethodName)), (3085, Cond.static (⟨"java/lang/StringLatin1", "canEncode", "(I)Z"⟩ : MethodName)), (3086, Cond.code (⟨"java/lang/StringLatin1", "canEncode", "(I)Z"⟩ : MethodName) prog_26_method_4_code 1 (some .boolean)), (3087, Cond.methodLink "java/lang/StringLatin1" 92 (⟨"java/lang/Math", "max", "(II)I"⟩ : MethodName)), (3088, Cond.methodLink "java/lang/StringLatin1" 38 (⟨"java/lang/Math", "min", "(II)I"⟩ : MethodName)), (3089, Cond.methodLink "java/lang/StringLatin1" 95 (⟨"java/lang/StringLatin1", "indexOfChar", "([BIII)I"⟩ : MethodName)), (3090, Cond.static (⟨"java/lang/StringLatin1", "indexOfChar", "([BIII)I"⟩ : MethodName)), (3091, Cond.code (⟨"java/lang/StringLatin1", "indexOfChar", "([BIII)I"⟩ : MethodName) prog_26_method_23_code 6 (some .int))]
set_option maxRecDepth 100000 in
theorem iv_gss : iv_gs.all (fun q => iv_w q.1 q.2) = true := by decide +kernel
theorem iv_gS (j : Nat) {q : Nat × Cond} (h : iv_gs[j]? = some q) : q.2 ∈ iv_G := iv_w_in (List.all_eq_true.mp iv_gss q (List.mem_of_getElem? h))
