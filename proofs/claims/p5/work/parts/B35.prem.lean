/-! ===== what is so at the law's entry ===== -/
def iv_stt (j : Nat) : Term := .static RX11 (iv_nm.getD j "") "LGraterOrder$Word;"
def iv_swt : Term := .static RX0 "$SwitchMap$GraterOrder$Word" "[I"
/-! the Strings -/
def iv_tS (i : Nat) : Term := match iv_nth iv_skl i with
  | some q => .string q.1 q.2.1
  | none => .int 0
def iv_tV (i : Nat) : Term := .field (iv_tS i) "java/lang/String" "value" "[B"
def iv_tA : Term := .static RX11 "ALL" "[LGraterOrder$Word;"
set_option maxRecDepth 8000 in
theorem iv_ps1 : ∀ i ∈ List.range 32, Cond.exactly (iv_tS i) "java/lang/String" ∈ flatC (Jvm.Cond.and given_1 narrow_1) ∧ Cond.eq (.field (iv_tS i) "java/lang/String" "coder" "B") (.int 0) ∈ flatC (Jvm.Cond.and given_1 narrow_1) := by decide +kernel
set_option maxRecDepth 8000 in
theorem iv_ps2 : ∀ i ∈ List.range 32, Cond.arrayOf (iv_tV i) .byte ∈ flatC (Jvm.Cond.and given_1 narrow_1) ∧ Cond.eq (.length (iv_tV i)) (.int (Int32.ofNat (iv_sx (2 * i + 203)).length)) ∈ flatC (Jvm.Cond.and given_1 narrow_1) := by decide +kernel
set_option maxRecDepth 8000 in
theorem iv_ps3_0 : ∀ i ∈ List.range' 0 4, ∀ j ∈ List.range (iv_sx (2 * i + 203)).length, Cond.eq (.elem (iv_tV i) (.int (Int32.ofNat j))) (.int ((iv_sx (2 * i + 203)).getD j 0)) ∈ flatC (Jvm.Cond.and given_1 narrow_1) := by decide +kernel
set_option maxRecDepth 8000 in
theorem iv_ps3_1 : ∀ i ∈ List.range' 4 4, ∀ j ∈ List.range (iv_sx (2 * i + 203)).length, Cond.eq (.elem (iv_tV i) (.int (Int32.ofNat j))) (.int ((iv_sx (2 * i + 203)).getD j 0)) ∈ flatC (Jvm.Cond.and given_1 narrow_1) := by decide +kernel
set_option maxRecDepth 8000 in
theorem iv_ps3_2 : ∀ i ∈ List.range' 8 4, ∀ j ∈ List.range (iv_sx (2 * i + 203)).length, Cond.eq (.elem (iv_tV i) (.int (Int32.ofNat j))) (.int ((iv_sx (2 * i + 203)).getD j 0)) ∈ flatC (Jvm.Cond.and given_1 narrow_1) := by decide +kernel
set_option maxRecDepth 8000 in
theorem iv_ps3_3 : ∀ i ∈ List.range' 12 4, ∀ j ∈ List.range (iv_sx (2 * i + 203)).length, Cond.eq (.elem (iv_tV i) (.int (Int32.ofNat j))) (.int ((iv_sx (2 * i + 203)).getD j 0)) ∈ flatC (Jvm.Cond.and given_1 narrow_1) := by decide +kernel
set_option maxRecDepth 8000 in
theorem iv_ps3_4 : ∀ i ∈ List.range' 16 4, ∀ j ∈ List.range (iv_sx (2 * i + 203)).length, Cond.eq (.elem (iv_tV i) (.int (Int32.ofNat j))) (.int ((iv_sx (2 * i + 203)).getD j 0)) ∈ flatC (Jvm.Cond.and given_1 narrow_1) := by decide +kernel
set_option maxRecDepth 8000 in
theorem iv_ps3_5 : ∀ i ∈ List.range' 20 4, ∀ j ∈ List.range (iv_sx (2 * i + 203)).length, Cond.eq (.elem (iv_tV i) (.int (Int32.ofNat j))) (.int ((iv_sx (2 * i + 203)).getD j 0)) ∈ flatC (Jvm.Cond.and given_1 narrow_1) := by decide +kernel
set_option maxRecDepth 8000 in
theorem iv_ps3_6 : ∀ i ∈ List.range' 24 4, ∀ j ∈ List.range (iv_sx (2 * i + 203)).length, Cond.eq (.elem (iv_tV i) (.int (Int32.ofNat j))) (.int ((iv_sx (2 * i + 203)).getD j 0)) ∈ flatC (Jvm.Cond.and given_1 narrow_1) := by decide +kernel
set_option maxRecDepth 8000 in
theorem iv_ps3_7 : ∀ i ∈ List.range' 28 4, ∀ j ∈ List.range (iv_sx (2 * i + 203)).length, Cond.eq (.elem (iv_tV i) (.int (Int32.ofNat j))) (.int ((iv_sx (2 * i + 203)).getD j 0)) ∈ flatC (Jvm.Cond.and given_1 narrow_1) := by decide +kernel
theorem iv_ps3 (i : Nat) (hi : i < 32) : ∀ j ∈ List.range (iv_sx (2 * i + 203)).length, Cond.eq (.elem (iv_tV i) (.int (Int32.ofNat j))) (.int ((iv_sx (2 * i + 203)).getD j 0)) ∈ flatC (Jvm.Cond.and given_1 narrow_1) := by
  by_cases h0 : i < 4
  · exact iv_ps3_0 i (List.mem_range'_1.mpr ⟨by omega, by omega⟩)
  by_cases h1 : i < 8
  · exact iv_ps3_1 i (List.mem_range'_1.mpr ⟨by omega, by omega⟩)
  by_cases h2 : i < 12
  · exact iv_ps3_2 i (List.mem_range'_1.mpr ⟨by omega, by omega⟩)
  by_cases h3 : i < 16
  · exact iv_ps3_3 i (List.mem_range'_1.mpr ⟨by omega, by omega⟩)
  by_cases h4 : i < 20
  · exact iv_ps3_4 i (List.mem_range'_1.mpr ⟨by omega, by omega⟩)
  by_cases h5 : i < 24
  · exact iv_ps3_5 i (List.mem_range'_1.mpr ⟨by omega, by omega⟩)
  by_cases h6 : i < 28
  · exact iv_ps3_6 i (List.mem_range'_1.mpr ⟨by omega, by omega⟩)
  by_cases h7 : i < 32
  · exact iv_ps3_7 i (List.mem_range'_1.mpr ⟨by omega, by omega⟩)
  omega
set_option maxRecDepth 8000 in
theorem iv_ps4 : ∀ j ∈ List.range 28, Cond.eq (.field (iv_stt j) RX11 "text" "Ljava/lang/String;") (iv_tS j) ∈ flatC (Jvm.Cond.and given_1 narrow_1) ∧ Cond.eq (.elem iv_tA (.int (Int32.ofNat j))) (iv_stt j) ∈ flatC (Jvm.Cond.and given_1 narrow_1) := by decide +kernel
theorem iv_ps5 : Cond.arrayOf iv_tA (.object RX11) ∈ flatC (Jvm.Cond.and given_1 narrow_1) ∧ Cond.eq (.length iv_tA) (.int 28) ∈ flatC (Jvm.Cond.and given_1 narrow_1) := by decide +kernel
theorem iv_ps6 : Cond.eq (.static "java/lang/String" "COMPACT_STRINGS" "Z") (.int 1) ∈ flatC (Jvm.Cond.and given_1 narrow_1) ∧ Cond.isRef (.static "jdk/internal/util/Preconditions" "SIOOBE_FORMATTER" "Ljava/util/function/BiFunction;") ∈ flatC (Jvm.Cond.and given_1 narrow_1) := by decide +kernel
theorem iv_ts1 : (Cond.laysStatic RX11 "ALL" "[LGraterOrder$Word;" ∈ lw_tbl ∧ Cond.laysStatic "java/lang/String" "COMPACT_STRINGS" "Z" ∈ lw_tbl ∧ Cond.laysStatic "jdk/internal/util/Preconditions" "SIOOBE_FORMATTER" "Ljava/util/function/BiFunction;" ∈ lw_tbl) ∧ Cond.initialized "java/lang/String" ∈ lw_tbl ∧ Cond.initialized "jdk/internal/util/Preconditions" ∈ lw_tbl := by decide +kernel
theorem iv_ts2 : iv_skl.all (fun q => decide (iv_nth (iv_tb (q.2.2.2 / 1000)) (q.2.2.2 % 1000) = some (.stringRef q.1 q.2.1 q.2.2.1))) = true := by decide +kernel
