/-! ===== the reference reads one line of a book ===== -/
set_option maxRecDepth 100000 in
theorem y264_0 : iv_f1 (iv_p 264) 0 = some (.inl (iv_oA 0 1)) := rfl
set_option maxRecDepth 100000 in
theorem y264_1 : iv_f1 (iv_p 264) 1 = some (.inl (iv_oK (.int (Int32.ofNat 10)) 2)) := rfl
set_option maxRecDepth 100000 in
theorem y264_3 : iv_f1 (iv_p 264) 3 = some (.inr (.inr (6, 171, 1, 12))) := rfl
set_option maxRecDepth 100000 in
theorem y264_6 : iv_f1 (iv_p 264) 6 = some (.inl (iv_oIS 1 1)) := rfl
set_option maxRecDepth 100000 in
theorem y264_7 : iv_f1 (iv_p 264) 7 = some (.inl (iv_oA 0 1)) := rfl
set_option maxRecDepth 100000 in
theorem y264_8 : iv_f1 (iv_p 264) 8 = some (.inl (iv_oK (.int (Int32.ofNat 11)) 2)) := rfl
set_option maxRecDepth 100000 in
theorem y264_10 : iv_f1 (iv_p 264) 10 = some (.inr (.inr (6, 171, 1, 12))) := rfl
set_option maxRecDepth 100000 in
theorem y264_13 : iv_f1 (iv_p 264) 13 = some (.inl (iv_oIS 2 1)) := rfl
set_option maxRecDepth 100000 in
theorem y264_14 : iv_f1 (iv_p 264) 14 = some (.inl (iv_oI 1 1)) := rfl
set_option maxRecDepth 100000 in
theorem y264_15 : iv_f1 (iv_p 264) 15 = some (.inl (iv_oIf .ne (48))) := rfl
set_option maxRecDepth 100000 in
theorem y264_18 : iv_f1 (iv_p 264) 18 = some (.inl (iv_oI 2 1)) := rfl
set_option maxRecDepth 100000 in
theorem y264_19 : iv_f1 (iv_p 264) 19 = some (.inl (iv_oIf .ne (44))) := rfl
set_option maxRecDepth 100000 in
theorem y264_22 : iv_f1 (iv_p 264) 22 = some (.inl (iv_oA 0 1)) := rfl
set_option maxRecDepth 100000 in
theorem y264_23 : iv_f1 (iv_p 264) 23 = some (.inr (.inr (6, 173, 0, 12))) := rfl
set_option maxRecDepth 100000 in
theorem y264_26 : iv_f1 (iv_p 264) 26 = some (.inl (iv_oIf .ne (9))) := rfl
set_option maxRecDepth 100000 in
theorem y264_29 : iv_f1 (iv_p 264) 29 = some (.inl (iv_oA 0 1)) := rfl
set_option maxRecDepth 100000 in
theorem y264_30 : iv_f1 (iv_p 264) 30 = some (.inl (iv_oK (.int (Int32.ofNat 1)) 1)) := rfl
set_option maxRecDepth 100000 in
theorem y264_31 : iv_f1 (iv_p 264) 31 = some (.inr (.inr (6, 174, 1, 12))) := rfl
set_option maxRecDepth 100000 in
theorem y264_34 : iv_f1 (iv_p 264) 34 = some (.inr (.inl 2)) := rfl
set_option maxRecDepth 100000 in
theorem y264_35 : iv_f1 (iv_p 264) 35 = some (.inl (iv_oA 0 1)) := rfl
set_option maxRecDepth 100000 in
theorem y264_36 : iv_f1 (iv_p 264) 36 = some (.inl (iv_oGF 12 19)) := rfl
set_option maxRecDepth 100000 in
theorem y264_39 : iv_f1 (iv_p 264) 39 = some (.inl (iv_oK (.int (Int32.ofNat 0)) 1)) := rfl
set_option maxRecDepth 100000 in
theorem y264_40 : iv_f1 (iv_p 264) 40 = some (.inl (iv_oA 0 1)) := rfl
set_option maxRecDepth 100000 in
theorem y264_41 : iv_f1 (iv_p 264) 41 = some (.inl (iv_oGF 12 14)) := rfl
set_option maxRecDepth 100000 in
theorem y264_44 : iv_f1 (iv_p 264) 44 = some (.inl (iv_oK (.int (Int32.ofNat 0)) 1)) := rfl
set_option maxRecDepth 100000 in
theorem y264_45 : iv_f1 (iv_p 264) 45 = some (.inl iv_oIl) := rfl
set_option maxRecDepth 100000 in
theorem y264_46 : iv_f1 (iv_p 264) 46 = some (.inl (iv_oA 0 1)) := rfl
set_option maxRecDepth 100000 in
theorem y264_47 : iv_f1 (iv_p 264) 47 = some (.inl (iv_oGF 12 12)) := rfl
set_option maxRecDepth 100000 in
theorem y264_50 : iv_f1 (iv_p 264) 50 = some (.inr (.inr (4, 181, 4, 0))) := rfl
set_option maxRecDepth 100000 in
theorem y264_53 : iv_f1 (iv_p 264) 53 = some (.inl (iv_oK (.int (Int32.ofInt (-1))) 1)) := rfl
set_option maxRecDepth 100000 in
theorem y264_54 : iv_f1 (iv_p 264) 54 = some (.inl (iv_oIc .ne (9))) := rfl
set_option maxRecDepth 100000 in
theorem y264_57 : iv_f1 (iv_p 264) 57 = some (.inl (iv_oA 0 1)) := rfl
set_option maxRecDepth 100000 in
theorem y264_58 : iv_f1 (iv_p 264) 58 = some (.inl (iv_oK (.int (Int32.ofNat 3)) 1)) := rfl
set_option maxRecDepth 100000 in
theorem y264_59 : iv_f1 (iv_p 264) 59 = some (.inr (.inr (6, 174, 1, 12))) := rfl
set_option maxRecDepth 100000 in
theorem y264_62 : iv_f1 (iv_p 264) 62 = some (.inr (.inl 2)) := rfl
set_option maxRecDepth 100000 in
theorem y264_63 : iv_f1 (iv_p 264) 63 = some (.inl (iv_oA 0 1)) := rfl
set_option maxRecDepth 100000 in
theorem y264_64 : iv_f1 (iv_p 264) 64 = some (.inl (iv_oGF 12 42)) := rfl
set_option maxRecDepth 100000 in
theorem y264_67 : iv_f1 (iv_p 264) 67 = some (.inl (iv_oK (.int (Int32.ofNat 40)) 2)) := rfl
set_option maxRecDepth 100000 in
theorem y264_69 : iv_f1 (iv_p 264) 69 = some (.inl (iv_oIc .ne (9))) := rfl
set_option maxRecDepth 100000 in
theorem y264_72 : iv_f1 (iv_p 264) 72 = some (.inl (iv_oA 0 1)) := rfl
set_option maxRecDepth 100000 in
theorem y264_73 : iv_f1 (iv_p 264) 73 = some (.inl (iv_oK (.int (Int32.ofNat 4)) 1)) := rfl
set_option maxRecDepth 100000 in
theorem y264_74 : iv_f1 (iv_p 264) 74 = some (.inr (.inr (6, 174, 1, 12))) := rfl
set_option maxRecDepth 100000 in
theorem y264_77 : iv_f1 (iv_p 264) 77 = some (.inr (.inl 2)) := rfl
set_option maxRecDepth 100000 in
theorem y264_78 : iv_f1 (iv_p 264) 78 = some (.inl (iv_oK (.int (Int32.ofNat 4)) 1)) := rfl
set_option maxRecDepth 100000 in
theorem y264_79 : iv_f1 (iv_p 264) 79 = some (.inl (iv_oA 0 1)) := rfl
set_option maxRecDepth 100000 in
theorem y264_80 : iv_f1 (iv_p 264) 80 = some (.inl (iv_oGF 12 42)) := rfl
set_option maxRecDepth 100000 in
theorem y264_83 : iv_f1 (iv_p 264) 83 = some (.inl (iv_oII fun x y => x * y)) := rfl
set_option maxRecDepth 100000 in
theorem y264_84 : iv_f1 (iv_p 264) 84 = some (.inl (iv_oIS 3 1)) := rfl
set_option maxRecDepth 100000 in
theorem y264_85 : iv_f1 (iv_p 264) 85 = some (.inl (iv_oA 0 1)) := rfl
set_option maxRecDepth 100000 in
theorem y264_86 : iv_f1 (iv_p 264) 86 = some (.inl (iv_oGF 12 40)) := rfl
set_option maxRecDepth 100000 in
theorem y264_89 : iv_f1 (iv_p 264) 89 = some (.inl (iv_oI 3 1)) := rfl
set_option maxRecDepth 100000 in
theorem y264_90 : iv_f1 (iv_p 264) 90 = some (.inl (iv_oI 1 1)) := rfl
set_option maxRecDepth 100000 in
theorem y264_91 : iv_f1 (iv_p 264) 91 = some (.inl (iv_oIf .eq (7))) := rfl
set_option maxRecDepth 100000 in
theorem y264_94 : iv_f1 (iv_p 264) 94 = some (.inl (iv_oK (.int (Int32.ofNat 4)) 1)) := rfl
set_option maxRecDepth 100000 in
theorem y264_95 : iv_f1 (iv_p 264) 95 = some (.inl (iv_oGo (4))) := rfl
set_option maxRecDepth 100000 in
theorem y264_98 : iv_f1 (iv_p 264) 98 = some (.inl (iv_oK (.int (Int32.ofNat 5)) 1)) := rfl
set_option maxRecDepth 100000 in
theorem y264_99 : iv_f1 (iv_p 264) 99 = some (.inl iv_oIst) := rfl
set_option maxRecDepth 100000 in
theorem y264_100 : iv_f1 (iv_p 264) 100 = some (.inl (iv_oA 0 1)) := rfl
set_option maxRecDepth 100000 in
theorem y264_101 : iv_f1 (iv_p 264) 101 = some (.inl (iv_oGF 12 40)) := rfl
set_option maxRecDepth 100000 in
theorem y264_104 : iv_f1 (iv_p 264) 104 = some (.inl (iv_oI 3 1)) := rfl
set_option maxRecDepth 100000 in
theorem y264_105 : iv_f1 (iv_p 264) 105 = some (.inl (iv_oK (.int (Int32.ofNat 1)) 1)) := rfl
set_option maxRecDepth 100000 in
theorem y264_106 : iv_f1 (iv_p 264) 106 = some (.inl (iv_oII fun x y => x + y)) := rfl
set_option maxRecDepth 100000 in
theorem y264_107 : iv_f1 (iv_p 264) 107 = some (.inl (iv_oI 1 1)) := rfl
set_option maxRecDepth 100000 in
theorem y264_108 : iv_f1 (iv_p 264) 108 = some (.inl (iv_oIf .ne (7))) := rfl
set_option maxRecDepth 100000 in
theorem y264_111 : iv_f1 (iv_p 264) 111 = some (.inl (iv_oI 2 1)) := rfl
set_option maxRecDepth 100000 in
theorem y264_112 : iv_f1 (iv_p 264) 112 = some (.inl (iv_oIf .eq (7))) := rfl
set_option maxRecDepth 100000 in
theorem y264_115 : iv_f1 (iv_p 264) 115 = some (.inl (iv_oK (.int (Int32.ofNat 0)) 1)) := rfl
set_option maxRecDepth 100000 in
theorem y264_116 : iv_f1 (iv_p 264) 116 = some (.inl (iv_oGo (21))) := rfl
set_option maxRecDepth 100000 in
theorem y264_119 : iv_f1 (iv_p 264) 119 = some (.inl (iv_oA 0 1)) := rfl
set_option maxRecDepth 100000 in
theorem y264_120 : iv_f1 (iv_p 264) 120 = some (.inl (iv_oGF 12 19)) := rfl
set_option maxRecDepth 100000 in
theorem y264_123 : iv_f1 (iv_p 264) 123 = some (.inl (iv_oK (.int (Int32.ofNat 0)) 1)) := rfl
set_option maxRecDepth 100000 in
theorem y264_124 : iv_f1 (iv_p 264) 124 = some (.inl (iv_oA 0 1)) := rfl
set_option maxRecDepth 100000 in
theorem y264_125 : iv_f1 (iv_p 264) 125 = some (.inl (iv_oGF 12 14)) := rfl
set_option maxRecDepth 100000 in
theorem y264_128 : iv_f1 (iv_p 264) 128 = some (.inl (iv_oK (.int (Int32.ofNat 0)) 1)) := rfl
set_option maxRecDepth 100000 in
theorem y264_129 : iv_f1 (iv_p 264) 129 = some (.inl iv_oIl) := rfl
set_option maxRecDepth 100000 in
theorem y264_130 : iv_f1 (iv_p 264) 130 = some (.inl (iv_oA 0 1)) := rfl
set_option maxRecDepth 100000 in
theorem y264_131 : iv_f1 (iv_p 264) 131 = some (.inl (iv_oGF 12 12)) := rfl
set_option maxRecDepth 100000 in
theorem y264_134 : iv_f1 (iv_p 264) 134 = some (.inr (.inr (4, 181, 4, 0))) := rfl
set_option maxRecDepth 100000 in
theorem y264_137 : iv_f1 (iv_p 264) 137 = some (.inl iv_oIst) := rfl
set_option maxRecDepth 100000 in
theorem y264_138 : iv_f1 (iv_p 264) 138 = some (.inl (iv_oA 0 1)) := rfl
set_option maxRecDepth 100000 in
theorem y264_139 : iv_f1 (iv_p 264) 139 = some (.inl (iv_oGF 12 40)) := rfl
set_option maxRecDepth 100000 in
theorem y264_142 : iv_f1 (iv_p 264) 142 = some (.inl (iv_oI 3 1)) := rfl
set_option maxRecDepth 100000 in
theorem y264_143 : iv_f1 (iv_p 264) 143 = some (.inl (iv_oK (.int (Int32.ofNat 2)) 1)) := rfl
set_option maxRecDepth 100000 in
theorem y264_144 : iv_f1 (iv_p 264) 144 = some (.inl (iv_oII fun x y => x + y)) := rfl
set_option maxRecDepth 100000 in
theorem y264_145 : iv_f1 (iv_p 264) 145 = some (.inl (iv_oK (.int (Int32.ofNat 0)) 1)) := rfl
set_option maxRecDepth 100000 in
theorem y264_146 : iv_f1 (iv_p 264) 146 = some (.inl iv_oIst) := rfl
set_option maxRecDepth 100000 in
theorem y264_147 : iv_f1 (iv_p 264) 147 = some (.inl (iv_oA 0 1)) := rfl
set_option maxRecDepth 100000 in
theorem y264_148 : iv_f1 (iv_p 264) 148 = some (.inl (iv_oGF 12 40)) := rfl
set_option maxRecDepth 100000 in
theorem y264_151 : iv_f1 (iv_p 264) 151 = some (.inl (iv_oI 3 1)) := rfl
set_option maxRecDepth 100000 in
theorem y264_152 : iv_f1 (iv_p 264) 152 = some (.inl (iv_oK (.int (Int32.ofNat 3)) 1)) := rfl
set_option maxRecDepth 100000 in
theorem y264_153 : iv_f1 (iv_p 264) 153 = some (.inl (iv_oII fun x y => x + y)) := rfl
set_option maxRecDepth 100000 in
theorem y264_154 : iv_f1 (iv_p 264) 154 = some (.inl (iv_oK (.int (Int32.ofNat 0)) 1)) := rfl
set_option maxRecDepth 100000 in
theorem y264_155 : iv_f1 (iv_p 264) 155 = some (.inl iv_oIst) := rfl
set_option maxRecDepth 100000 in
theorem y264_156 : iv_f1 (iv_p 264) 156 = some (.inl (iv_oA 0 1)) := rfl
set_option maxRecDepth 100000 in
theorem y264_157 : iv_f1 (iv_p 264) 157 = some (.inr (.inr (6, 168, 0, 12))) := rfl
set_option maxRecDepth 100000 in
theorem y264_160 : iv_f1 (iv_p 264) 160 = some (.inl (iv_oI 1 1)) := rfl
set_option maxRecDepth 100000 in
theorem y264_161 : iv_f1 (iv_p 264) 161 = some (.inl (iv_oIf .eq (30))) := rfl
set_option maxRecDepth 100000 in
theorem y264_164 : iv_f1 (iv_p 264) 164 = some (.inl (iv_oA 0 1)) := rfl
set_option maxRecDepth 100000 in
theorem y264_165 : iv_f1 (iv_p 264) 165 = some (.inl (iv_oI 3 1)) := rfl
set_option maxRecDepth 100000 in
theorem y264_166 : iv_f1 (iv_p 264) 166 = some (.inl (iv_oK (.int (Int32.ofNat 1)) 1)) := rfl
set_option maxRecDepth 100000 in
theorem y264_167 : iv_f1 (iv_p 264) 167 = some (.inl (iv_oII fun x y => x + y)) := rfl
set_option maxRecDepth 100000 in
theorem y264_168 : iv_f1 (iv_p 264) 168 = some (.inl (iv_oA 0 1)) := rfl
set_option maxRecDepth 100000 in
theorem y264_169 : iv_f1 (iv_p 264) 169 = some (.inr (.inr (6, 261, 0, 12))) := rfl
set_option maxRecDepth 100000 in
theorem y264_172 : iv_f1 (iv_p 264) 172 = some (.inr (.inr (6, 258, 2, 12))) := rfl
set_option maxRecDepth 100000 in
theorem y264_175 : iv_f1 (iv_p 264) 175 = some (.inl (iv_oIf .eq (14))) := rfl
set_option maxRecDepth 100000 in
theorem y264_178 : iv_f1 (iv_p 264) 178 = some (.inl (iv_oA 0 1)) := rfl
set_option maxRecDepth 100000 in
theorem y264_179 : iv_f1 (iv_p 264) 179 = some (.inr (.inr (6, 176, 0, 12))) := rfl
set_option maxRecDepth 100000 in
theorem y264_182 : iv_f1 (iv_p 264) 182 = some (.inl (iv_oIf .eq (7))) := rfl
set_option maxRecDepth 100000 in
theorem y264_185 : iv_f1 (iv_p 264) 185 = some (.inl (iv_oK (.int (Int32.ofNat 1)) 1)) := rfl
set_option maxRecDepth 100000 in
theorem y264_186 : iv_f1 (iv_p 264) 186 = some (.inl (iv_oGo (4))) := rfl
set_option maxRecDepth 100000 in
theorem y264_189 : iv_f1 (iv_p 264) 189 = some (.inl (iv_oK (.int (Int32.ofNat 0)) 1)) := rfl
set_option maxRecDepth 100000 in
theorem y264_190 : iv_f1 (iv_p 264) 190 = some (.inr (.inl 2)) := rfl
set_option maxRecDepth 100000 in
theorem y264_191 : iv_f1 (iv_p 264) 191 = some (.inl (iv_oI 2 1)) := rfl
set_option maxRecDepth 100000 in
theorem y264_192 : iv_f1 (iv_p 264) 192 = some (.inl (iv_oIf .eq (23))) := rfl
set_option maxRecDepth 100000 in
theorem y264_195 : iv_f1 (iv_p 264) 195 = some (.inl (iv_oA 0 1)) := rfl
set_option maxRecDepth 100000 in
theorem y264_196 : iv_f1 (iv_p 264) 196 = some (.inl (iv_oI 3 1)) := rfl
set_option maxRecDepth 100000 in
theorem y264_197 : iv_f1 (iv_p 264) 197 = some (.inl (iv_oK (.int (Int32.ofNat 1)) 1)) := rfl
set_option maxRecDepth 100000 in
theorem y264_198 : iv_f1 (iv_p 264) 198 = some (.inl (iv_oII fun x y => x + y)) := rfl
set_option maxRecDepth 100000 in
theorem y264_199 : iv_f1 (iv_p 264) 199 = some (.inl (iv_oA 0 1)) := rfl
set_option maxRecDepth 100000 in
theorem y264_200 : iv_f1 (iv_p 264) 200 = some (.inl (iv_oK (.int (Int32.ofNat 1)) 1)) := rfl
set_option maxRecDepth 100000 in
theorem y264_201 : iv_f1 (iv_p 264) 201 = some (.inl (iv_oK (.int (Int32.ofNat 60)) 2)) := rfl
set_option maxRecDepth 100000 in
theorem y264_203 : iv_f1 (iv_p 264) 203 = some (.inr (.inr (6, 175, 2, 12))) := rfl
set_option maxRecDepth 100000 in
theorem y264_206 : iv_f1 (iv_p 264) 206 = some (.inr (.inr (6, 258, 2, 12))) := rfl
set_option maxRecDepth 100000 in
theorem y264_209 : iv_f1 (iv_p 264) 209 = some (.inl (iv_oIf .eq (25))) := rfl
set_option maxRecDepth 100000 in
theorem y264_212 : iv_f1 (iv_p 264) 212 = some (.inl (iv_oGo (11))) := rfl
set_option maxRecDepth 100000 in
theorem y264_215 : iv_f1 (iv_p 264) 215 = some (.inl (iv_oA 0 1)) := rfl
set_option maxRecDepth 100000 in
theorem y264_216 : iv_f1 (iv_p 264) 216 = some (.inl (iv_oI 3 1)) := rfl
set_option maxRecDepth 100000 in
theorem y264_217 : iv_f1 (iv_p 264) 217 = some (.inr (.inr (6, 263, 1, 12))) := rfl
set_option maxRecDepth 100000 in
theorem y264_220 : iv_f1 (iv_p 264) 220 = some (.inl (iv_oIf .eq (14))) := rfl
set_option maxRecDepth 100000 in
theorem y264_223 : iv_f1 (iv_p 264) 223 = some (.inl (iv_oA 0 1)) := rfl
set_option maxRecDepth 100000 in
theorem y264_224 : iv_f1 (iv_p 264) 224 = some (.inr (.inr (6, 176, 0, 12))) := rfl
set_option maxRecDepth 100000 in
theorem y264_227 : iv_f1 (iv_p 264) 227 = some (.inl (iv_oIf .eq (7))) := rfl
set_option maxRecDepth 100000 in
theorem y264_230 : iv_f1 (iv_p 264) 230 = some (.inl (iv_oK (.int (Int32.ofNat 1)) 1)) := rfl
set_option maxRecDepth 100000 in
theorem y264_231 : iv_f1 (iv_p 264) 231 = some (.inl (iv_oGo (4))) := rfl
set_option maxRecDepth 100000 in
theorem y264_234 : iv_f1 (iv_p 264) 234 = some (.inl (iv_oK (.int (Int32.ofNat 0)) 1)) := rfl
set_option maxRecDepth 100000 in
theorem y264_235 : iv_f1 (iv_p 264) 235 = some (.inr (.inl 2)) := rfl
section KL
variable {L : Nat} {xs : Nat → Int32} {Post : Option Value → iv_H → Prop} {d M pc : Nat} {lv : iv_L} {st : List Value} {σ : iv_H} {T : Nat → Nat} {n m p : Nat} {Nm : Nat → Int64} {nb ng l : Nat} {F : Nat → Int32}
theorem ym_l85 {b1 b2 : Bool} (hl : l < 40) (hb : nb ≤ 7) (hn : n ≤ 940) (hm : m ≤ 940) (hT : ∀ i, T i ≤ 255) (h : yKs T n m p Nm nb ng l F σ) (m0 : iv_f1 lv 0 = some (.ref 548)) (m1 : iv_f1 lv 1 = some (.int (yb b1))) (m2 : iv_f1 lv 2 = some (.int (yb b2))) (m3 : iv_f1 lv 3 = some (.int (Int32.ofNat (4 * l)))) (K : ∀ F1 σ1, yKs T n m (yto T n m p) Nm nb ng l F1 σ1 → zGo L xs Post [] (d + 3) 264 160 lv [] σ1) : zGo L xs Post [] (d + 3) 264 85 lv [] σ := by
  have key : ∀ x : Int32, zGo L xs Post [] (d + 3) 264 99 lv (.int x :: .int (Int32.ofNat (4 * l)) :: .ref 586 :: []) σ := fun x => by
    refine K_st (by omega) y264_99 h (fun σ1 h1 => ?_)
    have key2 : ∀ y : Int32, zGo L xs Post [] (d + 3) 264 137 lv (.int y :: .int (Int32.ofNat (4 * l + 1)) :: .ref 586 :: []) σ1 := fun y => by
      refine K_st (by omega) y264_137 h1 (fun σ2 h2 => ?_)
      refine w_A y264_138 m0 ?_
      refine K_g40 y264_139 h2 ?_
      refine w_I y264_142 m3 ?_
      refine w_K y264_143 ?_
      refine w_add y264_144 ?_
      refine w_K y264_145 ?_
      refine K_st (by omega) y264_146 h2 (fun σ3 h3 => ?_)
      refine w_A y264_147 m0 ?_
      refine K_g40 y264_148 h3 ?_
      refine w_I y264_151 m3 ?_
      refine w_K y264_152 ?_
      refine w_add y264_153 ?_
      refine w_K y264_154 ?_
      refine K_st (by omega) y264_155 h3 (fun σ4 h4 => ?_)
      refine w_A y264_156 m0 ?_
      exact K_go hn hm hT y264_157 rfl h4 (fun σ5 h5 => K _ σ5 h5)
    have to115 : zGo L xs Post [] (d + 3) 264 115 lv (.int (Int32.ofNat (4 * l + 1)) :: .ref 586 :: []) σ1 := by
      refine w_K y264_115 ?_
      exact w_go y264_116 rfl (key2 _)
    refine w_A y264_100 m0 ?_
    refine K_g40 y264_101 h1 ?_
    refine w_I y264_104 m3 ?_
    refine w_K y264_105 ?_
    refine w_add y264_106 ?_
    refine w_I y264_107 m1 ?_
    rcases y_bc b1 with e | e
    · refine w_ifF y264_108 rfl (y_bneF e) ?_
      refine w_I y264_111 m2 ?_
      rcases y_bc b2 with e2 | e2
      · refine w_ifT y264_112 rfl (y_beqT e2) ?_
        obtain ⟨V, N, x12, g, v14, v19, v12, gN, n0, n1, gM, _⟩ := K_ref h1
        refine w_A y264_119 m0 ?_
        refine y_gf y264_120 g rfl v19 ?_
        refine w_K y264_123 ?_
        refine w_A y264_124 m0 ?_
        refine y_gf y264_125 g rfl v14 ?_
        refine w_K y264_128 ?_
        refine y_ilE y264_129 gN rfl rfl (by decide) (by decide) n0 ?_
        refine w_A y264_130 m0 ?_
        refine y_gf y264_131 g rfl v12 ?_
        exact y_call y264_134 (y_args4 rfl rfl) rfl (ym_fj (L := L) (xs := xs) (d := d + 2) (f := Nm) (w := x12) (base := 0) (many := nb) (by omega) gM) (key2 _)
      · exact w_ifF y264_112 rfl (y_beqF e2) to115
    · exact w_ifT y264_108 rfl (y_bneT e) to115
  refine w_A y264_85 m0 ?_
  refine K_g40 y264_86 h ?_
  refine w_I y264_89 m3 ?_
  refine w_I y264_90 m1 ?_
  rcases y_bc b1 with e | e
  · refine w_ifT y264_91 rfl (y_beqT e) ?_
    refine w_K y264_98 ?_
    exact key _
  · refine w_ifF y264_91 rfl (y_beqF e) ?_
    refine w_K y264_94 ?_
    exact w_go y264_95 rfl (key _)
theorem ym_l63 {b1 b2 : Bool} (hl : l < 40) (hb : nb ≤ 7) (hn : n ≤ 940) (hm : m ≤ 940) (hT : ∀ i, T i ≤ 255) (h : yKs T n m p Nm nb ng l F σ) (m0 : iv_f1 lv 0 = some (.ref 548)) (m1 : iv_f1 lv 1 = some (.int (yb b1))) (m2 : iv_f1 lv 2 = some (.int (yb b2))) (K : ∀ lv1 F1 σ1, iv_f1 lv1 0 = some (.ref 548) → iv_f1 lv1 1 = some (.int (yb b1)) → iv_f1 lv1 2 = some (.int (yb b2)) → iv_f1 lv1 3 = some (.int (Int32.ofNat (4 * l))) → yKs T n m (yto T n m p) Nm nb ng l F1 σ1 → zGo L xs Post [] (d + 3) 264 160 lv1 [] σ1) : zGo L xs Post [] (d + 3) 264 63 lv [] σ := by
  refine w_A y264_63 m0 ?_
  refine K_g42 y264_64 h ?_
  refine w_K y264_67 ?_
  refine y_icT y264_69 rfl (by omega) (by omega) (by simp only [zch]; omega) ?_
  refine w_K y264_78 ?_
  refine w_A y264_79 m0 ?_
  refine K_g42 y264_80 h ?_
  refine w_mul y264_83 ?_
  refine w_IS y264_84 ?_
  exact ym_l85 hl hb hn hm hT h (y_l1 rfl rfl m0) (y_l1 rfl rfl m1) (y_l1 rfl rfl m2) y_l0 (fun F1 σ1 h1 => K _ F1 σ1 (y_l1 rfl rfl m0) (y_l1 rfl rfl m1) (y_l1 rfl rfl m2) y_l0 h1)
theorem ym_l63f (hl : l = 40) (h : yKs T n m p Nm nb ng l F σ) (m0 : iv_f1 lv 0 = some (.ref 548)) (K : ∀ σ1, yB (ybd T n m p 4) σ1 → Post (some (.int (yb false))) σ1) : zGo L xs Post [] (d + 3) 264 63 lv [] σ := by
  refine w_A y264_63 m0 ?_
  refine K_g42 y264_64 h ?_
  refine w_K y264_67 ?_
  refine y_icF y264_69 rfl (by omega) (by omega) (by simp only [zch]; omega) ?_
  refine w_A y264_72 m0 ?_
  refine w_K y264_73 ?_
  refine K_bad y264_74 rfl h (fun σ1 h1 => ?_)
  exact y_ret y264_77 y_rtb (K σ1 h1)
theorem ym_l223 (hn : n ≤ 940) (hm : m ≤ 940) (hT : ∀ i, T i ≤ 255) (h : yKs T n m p Nm nb ng l F σ) (m0 : iv_f1 lv 0 = some (.ref 548)) : zGo L xs (fun r σ1 => ∃ b, r = some (.int (yb b)) ∧ yKq T n m Nm nb ng l (yEnd T n m p) b σ1) [] (d + 4) 264 223 lv [] σ := by
  refine w_A y264_223 m0 ?_
  refine K_end hn hm hT y264_224 rfl h (fun b σ1 o1 => ?_)
  rcases y_bc b with e | e
  · subst e
    refine w_ifT y264_227 rfl (y_beqT rfl) ?_
    refine w_K y264_234 ?_
    exact y_ret (v := .int (yb false)) y264_235 y_rtb ⟨false, rfl, o1⟩
  · subst e
    refine w_ifF y264_227 rfl (y_beqF rfl) ?_
    refine w_K y264_230 ?_
    refine w_go y264_231 rfl ?_
    exact y_ret (v := .int (yb true)) y264_235 y_rtb ⟨true, rfl, o1⟩
theorem ym_blnK (hl : l ≤ 40) (hb : nb ≤ 7) (hg : ng ≤ 6) (hn : n ≤ 940) (hm : m ≤ 940) (hT : ∀ i, T i ≤ 255) (h : yKs T n m p Nm nb ng l F σ) : ∃ b σ1, iv_Rn L xs (d + 6) 264 0 (lv_args 0 [.ref 548]) [] σ (some (.int (yb b))) σ1 ∧ yKq T n m Nm nb ng l (yThen (yBln T n m Nm nb ng l p) fun q => yEnd T n m q) b σ1 := by
  refine y_RbE ?_
  refine w_A y264_0 rfl ?_
  refine w_K y264_1 ?_
  refine K_iw (by decide) y264_3 rfl h ?_
  refine w_IS y264_6 ?_
  refine w_A y264_7 rfl ?_
  refine w_K y264_8 ?_
  refine K_iw (by decide) y264_10 rfl h ?_
  refine w_IS y264_13 ?_
  refine w_I y264_14 (x := yb (yisW T n m p 10)) rfl ?_
  rcases y_bc (yisW T n m p 10) with c10 | c10
  · refine w_ifF y264_15 rfl (y_bneF c10) ?_
    refine w_I y264_18 (x := yb (yisW T n m p 11)) rfl ?_
    rcases y_bc (yisW T n m p 11) with c11 | c11
    · have sp : yBln T n m Nm nb ng l p = yThen (yNmd T n m Nm 0 nb p) fun _ => if l = 40 then .inl (ybd T n m p 4) else yDoe T n m Nm nb ng (yto T n m p) := by unfold yBln; rw [if_neg (by rw [c10]; decide), if_neg (by rw [c11]; decide)]
      rw [sp]
      refine w_ifF y264_19 rfl (y_bneF c11) ?_
      refine w_A y264_22 rfl ?_
      refine K_nm y264_23 rfl h ?_
      rcases y_bc (yisN T n m p) with e | e
      · have sq : yNmd T n m Nm 0 nb p = .inl (ybd T n m p 1) := by unfold yNmd; rw [if_neg (by rw [e]; decide)]
        rw [sq]
        refine w_ifF y264_26 rfl (y_bneF e) ?_
        refine w_A y264_29 rfl ?_
        refine w_K y264_30 ?_
        refine K_bad y264_31 rfl h (fun σ1 h1 => ?_)
        exact y_ret y264_34 y_rtb ⟨false, rfl, rfl, h1⟩
      · refine w_ifT y264_26 rfl (y_bneT e) ?_
        obtain ⟨V, N, x12, g, v14, v19, v12, gN, n0, n1, gM, ew⟩ := K_ref h
        refine w_A y264_35 rfl ?_
        refine y_gf y264_36 g rfl v19 ?_
        refine w_K y264_39 ?_
        refine w_A y264_40 rfl ?_
        refine y_gf y264_41 g rfl v14 ?_
        refine w_K y264_44 ?_
        refine y_ilE y264_45 gN rfl rfl (by decide) (by decide) n0 ?_
        refine w_A y264_46 rfl ?_
        refine y_gf y264_47 g rfl v12 ?_
        refine y_call y264_50 (y_args4 rfl rfl) rfl (ym_fj (L := L) (xs := xs) (d := d + 5) (f := Nm) (w := x12) (base := 0) (many := nb) (by omega) gM) ?_
        have e13 : (yo (yfi (fun i => Nm (0 + i)) x12 nb 0)) = yo (yfs T n Nm 0 nb p) := by rw [ew e]; rfl
        refine w_K y264_53 ?_
        cases hq : yfs T n Nm 0 nb p with
        | none =>
          have sq : yNmd T n m Nm 0 nb p = .inl (ybd T n m p 3) := by unfold yNmd; rw [if_pos e, hq]
          rw [sq]
          have e2 : (yo (yfi (fun i => Nm (0 + i)) x12 nb 0)) = Int32.ofInt (-1) := by rw [e13, hq]; rfl
          refine w_icF y264_54 rfl (by rw [e2]; decide) ?_
          refine w_A y264_57 rfl ?_
          refine w_K y264_58 ?_
          refine K_bad y264_59 rfl h (fun σ1 h1 => ?_)
          exact y_ret y264_62 y_rtb ⟨false, rfl, rfl, h1⟩
        | some i =>
          have hi := yfi_lt (show yfi (fun i => Nm (0 + i)) (yrv T n p) nb 0 = some i from hq)
          have e2 : (yo (yfi (fun i => Nm (0 + i)) x12 nb 0)) = Int32.ofNat i := by rw [e13, hq]; rfl
          have sq : yNmd T n m Nm 0 nb p = .inr i := by unfold yNmd; rw [if_pos e, hq]
          rw [sq]
          refine w_icT y264_54 rfl (by
            rw [e2]
            have := y_oN (k := i) (by omega)
            simp only [iv_c2]
            exact decide_eq_true this) ?_
          show zGo L xs (fun r σ1 => ∃ b, r = some (.int (yb b)) ∧ yKq T n m Nm nb ng l (yThen (if l = 40 then .inl (ybd T n m p 4) else yDoe T n m Nm nb ng (yto T n m p)) fun q => yEnd T n m q) b σ1) [] _ 264 63 _ _ σ
          by_cases c40 : l = 40
          · rw [if_pos c40]
            exact ym_l63f c40 h rfl (fun σ1 h1 => ⟨false, rfl, rfl, h1⟩)
          · rw [if_neg c40]
            refine ym_l63 (b1 := yisW T n m p 10) (b2 := yisW T n m p 11) (by omega) hb hn hm hT h rfl rfl rfl (fun lv1 F1 σ1 m0 m1 m2 m3 h1 => ?_)
            refine w_I y264_160 m1 ?_
            refine w_ifT y264_161 rfl (y_beqT c10) ?_
            refine w_I y264_191 m2 ?_
            refine w_ifT y264_192 rfl (y_beqT c11) ?_
            refine w_A y264_215 m0 ?_
            refine w_I y264_216 m3 ?_
            obtain ⟨b2, σ2, r2, o2⟩ := ym_doeK (L := L) (xs := xs) (d := d) (bs := 4 * l) (by omega) hb hg hn hm hT h1
            obtain ⟨V1, g1⟩ := K_g h1
            refine y_call y264_217 (y_args6 g1 rfl rfl) rfl r2 ?_
            cases hs : yDoe T n m Nm nb ng (yto T n m p) with
            | inl e =>
              rw [hs] at o2
              obtain ⟨rfl, h2⟩ := (show b2 = false ∧ yB e σ2 from o2)
              refine w_ifT y264_220 rfl (y_beqT rfl) ?_
              refine w_K y264_234 ?_
              exact y_ret (v := .int (yb false)) y264_235 y_rtb ⟨false, rfl, rfl, h2⟩
            | inr q =>
              rw [hs] at o2
              obtain ⟨rfl, F2, h2⟩ := (show b2 = true ∧ ∃ F1, yKs T n m q Nm nb ng l F1 σ2 from o2)
              refine w_ifF y264_220 rfl (y_beqF rfl) ?_
              exact ym_l223 hn hm hT h2 m0
    · have sp : yBln T n m Nm nb ng l p = if l = 40 then .inl (ybd T n m p 4) else yThen (yNum T n m 1 60 (yto T n m p)) fun q => .inr q.2 := by unfold yBln; rw [if_neg (by rw [c10]; decide), if_pos c11]
      rw [sp]
      refine w_ifT y264_19 rfl (y_bneT c11) ?_
      by_cases c40 : l = 40
      · rw [if_pos c40]
        exact ym_l63f c40 h rfl (fun σ1 h1 => ⟨false, rfl, rfl, h1⟩)
      · rw [if_neg c40]
        refine ym_l63 (b1 := yisW T n m p 10) (b2 := yisW T n m p 11) (by omega) hb hn hm hT h rfl rfl rfl (fun lv1 F1 σ1 m0 m1 m2 m3 h1 => ?_)
        refine w_I y264_160 m1 ?_
        refine w_ifT y264_161 rfl (y_beqT c10) ?_
        refine w_I y264_191 m2 ?_
        refine w_ifF y264_192 rfl (y_beqF c11) ?_
        refine w_A y264_195 m0 ?_
        refine w_I y264_196 m3 ?_
        refine w_K y264_197 ?_
        refine w_add y264_198 ?_
        refine w_A y264_199 m0 ?_
        refine w_K y264_200 ?_
        refine w_K y264_201 ?_
        refine K_num (by decide) (by decide) hn hm hT y264_203 rfl h1 (fun e σ2 hq h2 => ?_) (fun q σ2 hq h2 => ?_)
        · rw [hq]
          refine K_kf y264_206 rfl h2 ?_
          refine w_ifT y264_209 rfl (y_beqT rfl) ?_
          refine w_K y264_234 ?_
          exact y_ret (v := .int (yb false)) y264_235 y_rtb ⟨false, rfl, rfl, h2⟩
        · rw [hq]
          refine K_kt (by omega) y264_206 rfl h2 (fun F3 σ3 h3 => ?_)
          refine w_ifF y264_209 rfl (y_beqF rfl) ?_
          refine w_go y264_212 rfl ?_
          exact ym_l223 hn hm hT h3 m0
  · have sp : yBln T n m Nm nb ng l p = if l = 40 then .inl (ybd T n m p 4) else yThen (yNmd T n m Nm 7 ng (yto T n m p)) fun _ => .inr (yto T n m (yto T n m p)) := by unfold yBln; rw [if_pos c10]
    rw [sp]
    refine w_ifT y264_15 rfl (y_bneT c10) ?_
    by_cases c40 : l = 40
    · rw [if_pos c40]
      exact ym_l63f c40 h rfl (fun σ1 h1 => ⟨false, rfl, rfl, h1⟩)
    · rw [if_neg c40]
      refine ym_l63 (b1 := yisW T n m p 10) (b2 := yisW T n m p 11) (by omega) hb hn hm hT h rfl rfl rfl (fun lv1 F1 σ1 m0 m1 m2 m3 h1 => ?_)
      refine w_I y264_160 m1 ?_
      refine w_ifF y264_161 rfl (y_beqF c10) ?_
      refine w_A y264_164 m0 ?_
      refine w_I y264_165 m3 ?_
      refine w_K y264_166 ?_
      refine w_add y264_167 ?_
      refine w_A y264_168 m0 ?_
      refine K_ng hg hn hm hT y264_169 rfl h1 (fun e σ2 hq h2 => ?_) (fun i σ2 hq h2 => ?_)
      · rw [hq]
        refine K_kf y264_172 rfl h2 ?_
        refine w_ifT y264_175 rfl (y_beqT rfl) ?_
        refine w_K y264_189 ?_
        exact y_ret (v := .int (yb false)) y264_190 y_rtb ⟨false, rfl, rfl, h2⟩
      · rw [hq]
        refine K_kt (by omega) y264_172 rfl h2 (fun F3 σ3 h3 => ?_)
        refine w_ifF y264_175 rfl (y_beqF rfl) ?_
        refine w_A y264_178 m0 ?_
        refine K_end hn hm hT y264_179 rfl h3 (fun b σ4 o4 => ?_)
        rcases y_bc b with e | e
        · subst e
          refine w_ifT y264_182 rfl (y_beqT rfl) ?_
          refine w_K y264_189 ?_
          exact y_ret (v := .int (yb false)) y264_190 y_rtb ⟨false, rfl, o4⟩
        · subst e
          refine w_ifF y264_182 rfl (y_beqF rfl) ?_
          refine w_K y264_185 ?_
          refine w_go y264_186 rfl ?_
          exact y_ret (v := .int (yb true)) y264_190 y_rtb ⟨true, rfl, o4⟩
end KL
