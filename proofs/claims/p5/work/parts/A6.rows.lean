/-! ===== printed by wip/gen/gen_a6.py: layRows, by hand ===== -/
set_option maxRecDepth 8000 in
theorem f230_91 : iv_f1 (iv_p 230) 91 = some (.inl (iv_oI 7 2)) := rfl
set_option maxRecDepth 8000 in
theorem f230_93 : iv_f1 (iv_p 230) 93 = some (.inl (iv_oA 0 1)) := rfl
set_option maxRecDepth 8000 in
theorem f230_94 : iv_f1 (iv_p 230) 94 = some (.inl (iv_oI 2 1)) := rfl
set_option maxRecDepth 8000 in
theorem f230_95 : iv_f1 (iv_p 230) 95 = some (.inr (.inr (6, 228, 1, 12))) := rfl
set_option maxRecDepth 8000 in
theorem f230_98 : iv_f1 (iv_p 230) 98 = some (.inl (iv_oIc .gt (34))) := rfl
set_option maxRecDepth 8000 in
theorem f230_101 : iv_f1 (iv_p 230) 101 = some (.inl (iv_oI 5 2)) := rfl
set_option maxRecDepth 8000 in
theorem f230_103 : iv_f1 (iv_p 230) 103 = some (.inl (iv_oA 0 1)) := rfl
set_option maxRecDepth 8000 in
theorem f230_104 : iv_f1 (iv_p 230) 104 = some (.inl (iv_oA 0 1)) := rfl
set_option maxRecDepth 8000 in
theorem f230_105 : iv_f1 (iv_p 230) 105 = some (.inl (iv_oGF 12 27)) := rfl
set_option maxRecDepth 8000 in
theorem f230_108 : iv_f1 (iv_p 230) 108 = some (.inl (iv_oI 2 1)) := rfl
set_option maxRecDepth 8000 in
theorem f230_109 : iv_f1 (iv_p 230) 109 = some (.inl (iv_oI 4 2)) := rfl
set_option maxRecDepth 8000 in
theorem f230_111 : iv_f1 (iv_p 230) 111 = some (.inl (iv_oI 7 2)) := rfl
set_option maxRecDepth 8000 in
theorem f230_113 : iv_f1 (iv_p 230) 113 = some (.inl (iv_oA 0 1)) := rfl
set_option maxRecDepth 8000 in
theorem f230_114 : iv_f1 (iv_p 230) 114 = some (.inl (iv_oI 2 1)) := rfl
set_option maxRecDepth 8000 in
theorem f230_115 : iv_f1 (iv_p 230) 115 = some (.inr (.inr (6, 227, 1, 12))) := rfl
set_option maxRecDepth 8000 in
theorem f230_118 : iv_f1 (iv_p 230) 118 = some (.inl (iv_oII fun x y => x * y)) := rfl
set_option maxRecDepth 8000 in
theorem f230_119 : iv_f1 (iv_p 230) 119 = some (.inl (iv_oII fun x y => x - y)) := rfl
set_option maxRecDepth 8000 in
theorem f230_120 : iv_f1 (iv_p 230) 120 = some (.inr (.inr (6, 229, 3, 12))) := rfl
set_option maxRecDepth 8000 in
theorem f230_123 : iv_f1 (iv_p 230) 123 = some (.inl (iv_oII fun x y => x + y)) := rfl
set_option maxRecDepth 8000 in
theorem f230_124 : iv_f1 (iv_p 230) 124 = some (.inl (iv_oIS 5 2)) := rfl
set_option maxRecDepth 8000 in
theorem f230_126 : iv_f1 (iv_p 230) 126 = some (.inl (iv_oInc 7 1)) := rfl
set_option maxRecDepth 8000 in
theorem f230_129 : iv_f1 (iv_p 230) 129 = some (.inl (iv_oGo (-38))) := rfl
set_option maxRecDepth 8000 in
theorem f230_135 : iv_f1 (iv_p 230) 135 = some (.inl (iv_oI 7 2)) := rfl
set_option maxRecDepth 8000 in
theorem f230_137 : iv_f1 (iv_p 230) 137 = some (.inl (iv_oA 0 1)) := rfl
set_option maxRecDepth 8000 in
theorem f230_138 : iv_f1 (iv_p 230) 138 = some (.inl (iv_oI 3 1)) := rfl
set_option maxRecDepth 8000 in
theorem f230_139 : iv_f1 (iv_p 230) 139 = some (.inr (.inr (6, 228, 1, 12))) := rfl
set_option maxRecDepth 8000 in
theorem f230_142 : iv_f1 (iv_p 230) 142 = some (.inl (iv_oIc .gt (36))) := rfl
set_option maxRecDepth 8000 in
theorem f230_145 : iv_f1 (iv_p 230) 145 = some (.inl (iv_oI 6 2)) := rfl
set_option maxRecDepth 8000 in
theorem f230_147 : iv_f1 (iv_p 230) 147 = some (.inl (iv_oA 0 1)) := rfl
set_option maxRecDepth 8000 in
theorem f230_148 : iv_f1 (iv_p 230) 148 = some (.inl (iv_oA 0 1)) := rfl
set_option maxRecDepth 8000 in
theorem f230_149 : iv_f1 (iv_p 230) 149 = some (.inl (iv_oGF 12 28)) := rfl
set_option maxRecDepth 8000 in
theorem f230_152 : iv_f1 (iv_p 230) 152 = some (.inl (iv_oI 3 1)) := rfl
set_option maxRecDepth 8000 in
theorem f230_153 : iv_f1 (iv_p 230) 153 = some (.inl (iv_oK (.int (Int32.ofNat 1)) 1)) := rfl
set_option maxRecDepth 8000 in
theorem f230_154 : iv_f1 (iv_p 230) 154 = some (.inl (iv_oII fun x y => x + y)) := rfl
set_option maxRecDepth 8000 in
theorem f230_155 : iv_f1 (iv_p 230) 155 = some (.inl (iv_oI 4 2)) := rfl
set_option maxRecDepth 8000 in
theorem f230_157 : iv_f1 (iv_p 230) 157 = some (.inl (iv_oI 7 2)) := rfl
set_option maxRecDepth 8000 in
theorem f230_159 : iv_f1 (iv_p 230) 159 = some (.inl (iv_oA 0 1)) := rfl
set_option maxRecDepth 8000 in
theorem f230_160 : iv_f1 (iv_p 230) 160 = some (.inl (iv_oI 3 1)) := rfl
set_option maxRecDepth 8000 in
theorem f230_161 : iv_f1 (iv_p 230) 161 = some (.inr (.inr (6, 227, 1, 12))) := rfl
set_option maxRecDepth 8000 in
theorem f230_164 : iv_f1 (iv_p 230) 164 = some (.inl (iv_oII fun x y => x * y)) := rfl
set_option maxRecDepth 8000 in
theorem f230_165 : iv_f1 (iv_p 230) 165 = some (.inl (iv_oII fun x y => x - y)) := rfl
set_option maxRecDepth 8000 in
theorem f230_166 : iv_f1 (iv_p 230) 166 = some (.inr (.inr (6, 229, 3, 12))) := rfl
set_option maxRecDepth 8000 in
theorem f230_169 : iv_f1 (iv_p 230) 169 = some (.inl (iv_oII fun x y => x + y)) := rfl
set_option maxRecDepth 8000 in
theorem f230_170 : iv_f1 (iv_p 230) 170 = some (.inl (iv_oIS 6 2)) := rfl
set_option maxRecDepth 8000 in
theorem f230_172 : iv_f1 (iv_p 230) 172 = some (.inl (iv_oInc 7 1)) := rfl
set_option maxRecDepth 8000 in
theorem f230_175 : iv_f1 (iv_p 230) 175 = some (.inl (iv_oGo (-40))) := rfl
theorem f230_9 : iv_f1 (iv_p 230) 9 = some (.inl (iv_oI 2 1)) := rfl
theorem f230_10 : iv_f1 (iv_p 230) 10 = some (.inl (iv_oK (.int (Int32.ofNat 190)) 3)) := rfl
theorem f230_13 : iv_f1 (iv_p 230) 13 = some (.inl (iv_oIc .ge (45))) := rfl
theorem f230_31 : iv_f1 (iv_p 230) 31 = some (.inl (iv_oA 0 1)) := rfl
theorem f230_32 : iv_f1 (iv_p 230) 32 = some (.inl (iv_oGF 12 28)) := rfl
theorem f230_35 : iv_f1 (iv_p 230) 35 = some (.inl (iv_oK (.int (Int32.ofNat 190)) 3)) := rfl
theorem f230_38 : iv_f1 (iv_p 230) 38 = some (.inl (iv_oI 1 1)) := rfl
theorem f230_39 : iv_f1 (iv_p 230) 39 = some (.inl (iv_oII fun x y => x * y)) := rfl
theorem f230_40 : iv_f1 (iv_p 230) 40 = some (.inl (iv_oI 2 1)) := rfl
theorem f230_41 : iv_f1 (iv_p 230) 41 = some (.inl (iv_oII fun x y => x + y)) := rfl
theorem f230_42 : iv_f1 (iv_p 230) 42 = some (.inl (iv_oI 2 1)) := rfl
theorem f230_51 : iv_f1 (iv_p 230) 51 = some (.inl (iv_oIst)) := rfl
theorem f230_52 : iv_f1 (iv_p 230) 52 = some (.inl (iv_oInc 2 1)) := rfl
theorem f230_55 : iv_f1 (iv_p 230) 55 = some (.inl (iv_oGo (-46))) := rfl
theorem f230_43 : iv_f1 (iv_p 230) 43 = some (.inl (iv_oIf .ne (7))) := rfl
theorem f230_46 : iv_f1 (iv_p 230) 46 = some (.inl (iv_oK (.int (Int32.ofNat 1)) 1)) := rfl
theorem f230_47 : iv_f1 (iv_p 230) 47 = some (.inl (iv_oGo (4))) := rfl
theorem f230_50 : iv_f1 (iv_p 230) 50 = some (.inl (iv_oK (.int (Int32.ofNat 0)) 1)) := rfl
theorem f230_16 : iv_f1 (iv_p 230) 16 = some (.inl (iv_oA 0 1)) := rfl
theorem f230_17 : iv_f1 (iv_p 230) 17 = some (.inl (iv_oGF 12 27)) := rfl
theorem f230_20 : iv_f1 (iv_p 230) 20 = some (.inl (iv_oI 2 1)) := rfl
theorem f230_21 : iv_f1 (iv_p 230) 21 = some (.inl (iv_oI 2 1)) := rfl
theorem f230_22 : iv_f1 (iv_p 230) 22 = some (.inl (iv_oIf .ne (7))) := rfl
theorem f230_25 : iv_f1 (iv_p 230) 25 = some (.inl (iv_oK (.int (Int32.ofNat 1)) 1)) := rfl
theorem f230_26 : iv_f1 (iv_p 230) 26 = some (.inl (iv_oGo (4))) := rfl
theorem f230_30 : iv_f1 (iv_p 230) 30 = some (.inl (iv_oIst)) := rfl
theorem f230_29 : iv_f1 (iv_p 230) 29 = some (.inl (iv_oK (.int (Int32.ofNat 0)) 1)) := rfl
theorem f230_74 : iv_f1 (iv_p 230) 74 = some (.inl (iv_oI 4 2)) := rfl
theorem f230_76 : iv_f1 (iv_p 230) 76 = some (.inl (iv_oK (.int (Int32.ofNat 190)) 3)) := rfl
theorem f230_79 : iv_f1 (iv_p 230) 79 = some (.inl (iv_oIc .ge (137))) := rfl
theorem f230_82 : iv_f1 (iv_p 230) 82 = some (.inl (iv_oK (.int (Int32.ofNat 0)) 1)) := rfl
theorem f230_83 : iv_f1 (iv_p 230) 83 = some (.inl (iv_oIS 5 2)) := rfl
theorem f230_85 : iv_f1 (iv_p 230) 85 = some (.inl (iv_oK (.int (Int32.ofNat 0)) 1)) := rfl
theorem f230_86 : iv_f1 (iv_p 230) 86 = some (.inl (iv_oIS 6 2)) := rfl
theorem f230_88 : iv_f1 (iv_p 230) 88 = some (.inl (iv_oK (.int (Int32.ofNat 0)) 1)) := rfl
theorem f230_89 : iv_f1 (iv_p 230) 89 = some (.inl (iv_oIS 7 2)) := rfl
set_option maxRecDepth 8000 in
theorem f230_132 : iv_f1 (iv_p 230) 132 = some (.inl (iv_oK (.int (Int32.ofNat 0)) 1)) := rfl
set_option maxRecDepth 8000 in
theorem f230_133 : iv_f1 (iv_p 230) 133 = some (.inl (iv_oIS 7 2)) := rfl
set_option maxRecDepth 8000 in
theorem f230_178 : iv_f1 (iv_p 230) 178 = some (.inl (iv_oA 0 1)) := rfl
set_option maxRecDepth 8000 in
theorem f230_179 : iv_f1 (iv_p 230) 179 = some (.inl (iv_oGF 12 27)) := rfl
set_option maxRecDepth 8000 in
theorem f230_182 : iv_f1 (iv_p 230) 182 = some (.inl (iv_oK (.int (Int32.ofNat 190)) 3)) := rfl
set_option maxRecDepth 8000 in
theorem f230_185 : iv_f1 (iv_p 230) 185 = some (.inl (iv_oI 2 1)) := rfl
set_option maxRecDepth 8000 in
theorem f230_186 : iv_f1 (iv_p 230) 186 = some (.inl (iv_oK (.int (Int32.ofNat 1)) 1)) := rfl
set_option maxRecDepth 8000 in
theorem f230_187 : iv_f1 (iv_p 230) 187 = some (.inl (iv_oII fun x y => x + y)) := rfl
set_option maxRecDepth 8000 in
theorem f230_188 : iv_f1 (iv_p 230) 188 = some (.inl (iv_oII fun x y => x * y)) := rfl
set_option maxRecDepth 8000 in
theorem f230_189 : iv_f1 (iv_p 230) 189 = some (.inl (iv_oI 4 2)) := rfl
set_option maxRecDepth 8000 in
theorem f230_191 : iv_f1 (iv_p 230) 191 = some (.inl (iv_oII fun x y => x + y)) := rfl
set_option maxRecDepth 8000 in
theorem f230_192 : iv_f1 (iv_p 230) 192 = some (.inl (iv_oI 5 2)) := rfl
set_option maxRecDepth 8000 in
theorem f230_194 : iv_f1 (iv_p 230) 194 = some (.inl (iv_oIst)) := rfl
set_option maxRecDepth 8000 in
theorem f230_195 : iv_f1 (iv_p 230) 195 = some (.inl (iv_oA 0 1)) := rfl
set_option maxRecDepth 8000 in
theorem f230_196 : iv_f1 (iv_p 230) 196 = some (.inl (iv_oGF 12 28)) := rfl
set_option maxRecDepth 8000 in
theorem f230_199 : iv_f1 (iv_p 230) 199 = some (.inl (iv_oK (.int (Int32.ofNat 190)) 3)) := rfl
set_option maxRecDepth 8000 in
theorem f230_202 : iv_f1 (iv_p 230) 202 = some (.inl (iv_oI 3 1)) := rfl
set_option maxRecDepth 8000 in
theorem f230_203 : iv_f1 (iv_p 230) 203 = some (.inl (iv_oII fun x y => x * y)) := rfl
set_option maxRecDepth 8000 in
theorem f230_204 : iv_f1 (iv_p 230) 204 = some (.inl (iv_oI 4 2)) := rfl
set_option maxRecDepth 8000 in
theorem f230_206 : iv_f1 (iv_p 230) 206 = some (.inl (iv_oII fun x y => x + y)) := rfl
set_option maxRecDepth 8000 in
theorem f230_207 : iv_f1 (iv_p 230) 207 = some (.inl (iv_oI 6 2)) := rfl
set_option maxRecDepth 8000 in
theorem f230_209 : iv_f1 (iv_p 230) 209 = some (.inl (iv_oIst)) := rfl
set_option maxRecDepth 8000 in
theorem f230_210 : iv_f1 (iv_p 230) 210 = some (.inl (iv_oInc 4 1)) := rfl
set_option maxRecDepth 8000 in
theorem f230_213 : iv_f1 (iv_p 230) 213 = some (.inl (iv_oGo (-139))) := rfl
theorem f230_60 : iv_f1 (iv_p 230) 60 = some (.inl (iv_oI 2 1)) := rfl
theorem f230_61 : iv_f1 (iv_p 230) 61 = some (.inl (iv_oI 1 1)) := rfl
theorem f230_62 : iv_f1 (iv_p 230) 62 = some (.inl (iv_oIc .ge (160))) := rfl
set_option maxRecDepth 8000 in
theorem f230_222 : iv_f1 (iv_p 230) 222 = some (.inr (.inl 0)) := rfl
theorem f230_67 : iv_f1 (iv_p 230) 67 = some (.inl (iv_oII fun x y => x - y)) := rfl
theorem f230_69 : iv_f1 (iv_p 230) 69 = some (.inl (iv_oII fun x y => x - y)) := rfl
theorem f230_68 : iv_f1 (iv_p 230) 68 = some (.inl (iv_oI 2 1)) := rfl
theorem f230_65 : iv_f1 (iv_p 230) 65 = some (.inl (iv_oI 1 1)) := rfl
theorem f230_66 : iv_f1 (iv_p 230) 66 = some (.inl (iv_oK (.int (Int32.ofNat 1)) 1)) := rfl
theorem f230_70 : iv_f1 (iv_p 230) 70 = some (.inl (iv_oIS 3 1)) := rfl
theorem f230_71 : iv_f1 (iv_p 230) 71 = some (.inl (iv_oK (.int (Int32.ofNat 0)) 1)) := rfl
theorem f230_72 : iv_f1 (iv_p 230) 72 = some (.inl (iv_oIS 4 2)) := rfl
set_option maxRecDepth 8000 in
theorem f230_216 : iv_f1 (iv_p 230) 216 = some (.inl (iv_oInc 2 1)) := rfl
set_option maxRecDepth 8000 in
theorem f230_219 : iv_f1 (iv_p 230) 219 = some (.inl (iv_oGo (-159))) := rfl
theorem f230_0 : iv_f1 (iv_p 230) 0 = some (.inl (iv_oA 0 1)) := rfl
theorem f230_1 : iv_f1 (iv_p 230) 1 = some (.inl (iv_oGF 12 14)) := rfl
theorem f230_4 : iv_f1 (iv_p 230) 4 = some (.inl (iv_oK (.int (Int32.ofNat 0)) 1)) := rfl
theorem f230_5 : iv_f1 (iv_p 230) 5 = some (.inl (iv_oIl)) := rfl
theorem f230_6 : iv_f1 (iv_p 230) 6 = some (.inl (iv_oIS 1 1)) := rfl
theorem f230_7 : iv_f1 (iv_p 230) 7 = some (.inl (iv_oK (.int (Int32.ofNat 0)) 1)) := rfl
theorem f230_8 : iv_f1 (iv_p 230) 8 = some (.inl (iv_oIS 2 1)) := rfl
theorem f230_58 : iv_f1 (iv_p 230) 58 = some (.inl (iv_oK (.int (Int32.ofNat 0)) 1)) := rfl
theorem f230_59 : iv_f1 (iv_p 230) 59 = some (.inl (iv_oIS 2 1)) := rfl
theorem l230_91 {L : Nat} {xs : Nat → Int32} {Post : Option Value → iv_H → Prop} {d : Nat} {σ : iv_H} {fs : List Value} {N : Nat → Int32} {A : Nat → Int32} {i s q : Nat} {st : Int32} (hi : i ≤ 6) (hq : q ≤ 3) (ho : iv_get σ 548 = some (.inr (12, fs))) (mo : mO fs) (gN : iv_get σ 552 = some (.inl (0, 374, .inl N))) (gA : iv_get σ 574 = some (.inl (0, 1520, .inl A))) (hs : sStk N i st) (hm : sMost N i q) : ∀ (j k : Nat), k + j = q + 1 → ∀ (lv : iv_L) (x : Int32), iv_f1 lv 0 = some (.ref 548) → iv_f1 lv 2 = some (.int (Int32.ofNat i)) → iv_f1 lv 4 = some (.int (Int32.ofNat s)) → iv_f1 lv 5 = some (.int x) → iv_f1 lv 7 = some (.int (Int32.ofNat k)) → (∀ (lv2 : iv_L) (y : Int32), lvK [5, 7] lv lv2 → iv_f1 lv2 5 = some (.int y) → zGo L xs Post [] (d + 3) 230 132 lv2 [] σ) → zGo L xs Post [] (d + 3) 230 91 lv [] σ
  | 0, k, hk, lv, x, l0, l2, l4, l5, l7, hx => by
    obtain rfl : k = q + 1 := by omega
    refine w_I f230_91 l7 ?_
    refine w_A f230_93 l0 ?_
    refine w_I f230_94 l2 ?_
    refine w_call f230_95 (w_args1 ho) rfl ?_
    refine hm _ _ _ _ _ _ ho mo gN ?_
    show zGo L xs Post [] (d + 3) 230 98 lv [.int (Int32.ofNat q), .int (Int32.ofNat (q + 1))] σ
    refine w_icT f230_98 rfl (c_gtT (by omega) (by omega)) ?_
    exact hx lv x lvK_rf l5
  | j + 1, k, hk, lv, x, l0, l2, l4, l5, l7, hx => by
    refine w_I f230_91 l7 ?_
    refine w_A f230_93 l0 ?_
    refine w_I f230_94 l2 ?_
    refine w_call f230_95 (w_args1 ho) rfl ?_
    refine hm _ _ _ _ _ _ ho mo gN ?_
    show zGo L xs Post [] (d + 3) 230 98 lv [.int (Int32.ofNat q), .int (Int32.ofNat k)] σ
    refine w_icF f230_98 rfl (c_gtF (by omega) (by omega)) ?_
    refine w_I f230_101 l5 ?_
    refine w_A f230_103 l0 ?_
    refine w_A f230_104 l0 ?_
    refine w_gf f230_105 ho (mo.2.2.2.2.2.2.2.2.2.2.2.2.1) ?_
    refine w_I f230_108 l2 ?_
    refine w_I f230_109 l4 ?_
    refine w_I f230_111 l7 ?_
    refine w_A f230_113 l0 ?_
    refine w_I f230_114 l2 ?_
    refine w_call f230_115 (w_args1 ho) rfl ?_
    refine hs _ _ _ _ _ _ ho mo gN ?_
    show zGo L xs Post [] (d + 3) 230 118 lv [.int st, .int (Int32.ofNat k), .int (Int32.ofNat s), .int (Int32.ofNat i), .ref 574, .ref 548, .int x] σ
    refine w_ii f230_118 ?_
    refine w_ii f230_119 ?_
    refine w_call f230_120 (w_args3 ho) rfl ?_
    refine g_at rfl rfl (by omega) gA ?_
    show zGo L xs Post [] (d + 3) 230 123 lv [.int (atF A i (Int32.ofNat s - Int32.ofNat k * st)), .int x] σ
    refine w_ii f230_123 ?_
    refine w_IS f230_124 ?_
    refine w_inc f230_126 (x := k) (lv_s l7 (by decide) cI) ?_
    refine w_go f230_129 rfl ?_
    refine l230_91 hi hq ho mo gN gA hs hm j (k + 1) (by omega) _ _ (lv_s (lv_s l0 (by decide) cR) (by decide) cR) (lv_s (lv_s l2 (by decide) cI) (by decide) cI) (lv_s (lv_s l4 (by decide) cI) (by decide) cI) (lv_s lv_e (by decide) cI) lv_e (fun lv2 y h1 h2 => hx lv2 y (lvK_sub (lvK_s (lvK_s lvK_rf (by decide)) (by decide)) h1 (fun _ h => h)) h2)
theorem l230_135 {L : Nat} {xs : Nat → Int32} {Post : Option Value → iv_H → Prop} {d : Nat} {σ : iv_H} {fs : List Value} {N : Nat → Int32} {B : Nat → Int32} {c s q : Nat} {st : Int32} (hc : c ≤ 6) (hq : q ≤ 3) (ho : iv_get σ 548 = some (.inr (12, fs))) (mo : mO fs) (gN : iv_get σ 552 = some (.inl (0, 374, .inl N))) (gB : iv_get σ 576 = some (.inl (0, 1520, .inl B))) (hs : sStk N c st) (hm : sMost N c q) : ∀ (j k : Nat), k + j = q + 1 → ∀ (lv : iv_L) (x : Int32), iv_f1 lv 0 = some (.ref 548) → iv_f1 lv 3 = some (.int (Int32.ofNat c)) → iv_f1 lv 4 = some (.int (Int32.ofNat s)) → iv_f1 lv 6 = some (.int x) → iv_f1 lv 7 = some (.int (Int32.ofNat k)) → (x = 0 ∨ ∃ r : Nat, r < k ∧ ¬ atF B (c + 1) (Int32.ofNat s - Int32.ofNat r * st) = 0) → (∀ (lv2 : iv_L) (y : Int32), lvK [6, 7] lv lv2 → iv_f1 lv2 6 = some (.int y) → (y = 0 ∨ ∃ r : Nat, r < q + 1 ∧ ¬ atF B (c + 1) (Int32.ofNat s - Int32.ofNat r * st) = 0) → zGo L xs Post [] (d + 3) 230 178 lv2 [] σ) → zGo L xs Post [] (d + 3) 230 135 lv [] σ
  | 0, k, hk, lv, x, l0, l3, l4, l6, l7, hv, hx => by
    obtain rfl : k = q + 1 := by omega
    refine w_I f230_135 l7 ?_
    refine w_A f230_137 l0 ?_
    refine w_I f230_138 l3 ?_
    refine w_call f230_139 (w_args1 ho) rfl ?_
    refine hm _ _ _ _ _ _ ho mo gN ?_
    show zGo L xs Post [] (d + 3) 230 142 lv [.int (Int32.ofNat q), .int (Int32.ofNat (q + 1))] σ
    refine w_icT f230_142 rfl (c_gtT (by omega) (by omega)) ?_
    exact hx lv x lvK_rf l6 hv
  | j + 1, k, hk, lv, x, l0, l3, l4, l6, l7, hv, hx => by
    refine w_I f230_135 l7 ?_
    refine w_A f230_137 l0 ?_
    refine w_I f230_138 l3 ?_
    refine w_call f230_139 (w_args1 ho) rfl ?_
    refine hm _ _ _ _ _ _ ho mo gN ?_
    show zGo L xs Post [] (d + 3) 230 142 lv [.int (Int32.ofNat q), .int (Int32.ofNat k)] σ
    refine w_icF f230_142 rfl (c_gtF (by omega) (by omega)) ?_
    refine w_I f230_145 l6 ?_
    refine w_A f230_147 l0 ?_
    refine w_A f230_148 l0 ?_
    refine w_gf f230_149 ho (mo.2.2.2.2.2.2.2.2.2.2.2.2.2.1) ?_
    refine w_I f230_152 l3 ?_
    refine w_K f230_153 ?_
    refine w_add f230_154 ?_
    refine w_I f230_155 l4 ?_
    refine w_I f230_157 l7 ?_
    refine w_A f230_159 l0 ?_
    refine w_I f230_160 l3 ?_
    refine w_call f230_161 (w_args1 ho) rfl ?_
    refine hs _ _ _ _ _ _ ho mo gN ?_
    show zGo L xs Post [] (d + 3) 230 164 lv [.int st, .int (Int32.ofNat k), .int (Int32.ofNat s), .int (Int32.ofNat (c + 1)), .ref 576, .ref 548, .int x] σ
    refine w_ii f230_164 ?_
    refine w_ii f230_165 ?_
    refine w_call f230_166 (w_args3 ho) rfl ?_
    refine g_at rfl rfl (by omega) gB ?_
    show zGo L xs Post [] (d + 3) 230 169 lv [.int (atF B (c + 1) (Int32.ofNat s - Int32.ofNat k * st)), .int x] σ
    refine w_ii f230_169 ?_
    refine w_IS f230_170 ?_
    refine w_inc f230_172 (x := k) (lv_s l7 (by decide) cI) ?_
    refine w_go f230_175 rfl ?_
    refine l230_135 hc hq ho mo gN gB hs hm j (k + 1) (by omega) _ _ (lv_s (lv_s l0 (by decide) cR) (by decide) cR) (lv_s (lv_s l3 (by decide) cI) (by decide) cI) (lv_s (lv_s l4 (by decide) cI) (by decide) cI) (lv_s lv_e (by decide) cI) lv_e ?_ (fun lv2 y h1 h2 h3 => hx lv2 y (lvK_sub (lvK_s (lvK_s lvK_rf (by decide)) (by decide)) h1 (fun _ h => h)) h2 h3)
    by_cases hz : atF B (c + 1) (Int32.ofNat s - Int32.ofNat k * st) = 0
    · rcases hv with rfl | ⟨r, h1, h2⟩
      · left
        show (0 : Int32) + atF B (c + 1) (Int32.ofNat s - Int32.ofNat k * st) = 0
        rw [hz]
        rfl
      · exact .inr ⟨r, by omega, h2⟩
    · exact .inr ⟨k, by omega, hz⟩
/-- σ' is σ but for ahead and behind -/
def mE (σ σ' : iv_H) (A B : Nat → Int32) : Prop := (σ'.1 = σ.1 ∧ σ'.2.2 = σ.2.2) ∧ iv_get σ' 574 = some (.inl (0, 1520, .inl A)) ∧ iv_get σ' 576 = some (.inl (0, 1520, .inl B)) ∧ ∀ a, a ≠ 574 → a ≠ 576 → iv_get σ' a = iv_get σ a
theorem mE_1 {σ σ' : iv_H} {A B A2 : Nat → Int32} (h : mE σ σ' A B) : mE σ (iv_put σ' 574 (.inl (0, 1520, .inl A2))) A2 B := by
  have h1 := mD_put2 (e2 := .inl (0, 1520, .inl A2)) h.2.1
  exact ⟨⟨h1.1.1.trans h.1.1, h1.1.2.trans h.1.2⟩, h1.2.1, mD_n h1 (by decide) h.2.2.1, fun a a1 a2 => mD_n h1 a1 (h.2.2.2 a a1 a2)⟩
theorem mE_2 {σ σ' : iv_H} {A B B2 : Nat → Int32} (h : mE σ σ' A B) : mE σ (iv_put σ' 576 (.inl (0, 1520, .inl B2))) A B2 := by
  have h1 := mD_put2 (e2 := .inl (0, 1520, .inl B2)) h.2.2.1
  exact ⟨⟨h1.1.1.trans h.1.1, h1.1.2.trans h.1.2⟩, mD_n h1 (by decide) h.2.1, h1.2.1, fun a a1 a2 => mD_n h1 a2 (h.2.2.2 a a1 a2)⟩
/-- what is counted behind has a way on -/
def pP (stk : Nat → Int32) (B : Nat → Int32) (c s : Nat) : Prop := ¬ B (190 * c + s) = 0 → ∃ k : Nat, k ≤ 3 ∧ ¬ atF B (c + 1) (Int32.ofNat s - Int32.ofNat k * stk c) = 0
theorem atF_up {B : Nat → Int32} {p C : Nat} {m x : Int32} (h : p < 190 * C) : atF (upd B p m) C x = atF B C x := by
  unfold atF
  split
  · rw [upd_at, if_neg (by omega)]
  · rfl
theorem pP_up {stk B : Nat → Int32} {p c s : Nat} {m : Int32} (hp : p < 190 * (c + 1)) (hne : ¬ 190 * c + s = p) (h : pP stk B c s) : pP stk (upd B p m) c s := by
  intro h1
  rw [upd_at, if_neg (by omega)] at h1
  obtain ⟨k, k1, k2⟩ := h h1
  exact ⟨k, k1, by rw [atF_up hp]; exact k2⟩
theorem l230_9 {L : Nat} {xs : Nat → Int32} {Post : Option Value → iv_H → Prop} {d : Nat} {σ : iv_H} {fs : List Value} {n : Nat} (hn : n ≤ 7) (ho : iv_get σ 548 = some (.inr (12, fs))) (mo : mO fs) : ∀ (j t : Nat), t + j = 190 → ∀ (lv : iv_L) (σ1 : iv_H) (A B : Nat → Int32), iv_f1 lv 0 = some (.ref 548) → iv_f1 lv 1 = some (.int (Int32.ofNat n)) → iv_f1 lv 2 = some (.int (Int32.ofNat t)) → mE σ σ1 A B → (∀ (lv2 : iv_L) (σ2 : iv_H) (A2 B2 : Nat → Int32), iv_f1 lv2 0 = some (.ref 548) → iv_f1 lv2 1 = some (.int (Int32.ofNat n)) → mE σ σ2 A2 B2 → zGo L xs Post [] d 230 58 lv2 [] σ2) → zGo L xs Post [] d 230 9 lv [] σ1
  | 0, t, ht, lv, σ1, A, B, l0, l1, l2, h1, hx => by
    obtain rfl : t = 190 := by omega
    refine w_I f230_9 l2 ?_
    refine w_K f230_10 ?_
    refine w_icT f230_13 rfl (c_geT (by omega) (by omega)) ?_
    exact hx lv σ1 A B l0 l1 h1
  | j + 1, t, ht, lv, σ1, A, B, l0, l1, l2, h1, hx => by
    have ho1 : iv_get σ1 548 = some (.inr (12, fs)) := (h1.2.2.2 548 (by decide) (by decide)).trans ho
    refine w_I f230_9 l2 ?_
    refine w_K f230_10 ?_
    refine w_icF f230_13 rfl (c_geF (by omega) (by omega)) ?_
    have two : ∀ (v : Int32), zGo L xs Post [] d 230 31 lv [] (iv_put σ1 574 (.inl (0, 1520, .inl (upd A t v)))) := fun v => by
      have h2 := mE_1 (A2 := upd A t v) h1
      have ho2 : iv_get (iv_put σ1 574 (.inl (0, 1520, .inl (upd A t v)))) 548 = some (.inr (12, fs)) := (h2.2.2.2 548 (by decide) (by decide)).trans ho
      refine w_A f230_31 l0 ?_
      refine w_gf f230_32 ho2 (mo.2.2.2.2.2.2.2.2.2.2.2.2.2.1) ?_
      refine w_K f230_35 ?_
      refine w_I f230_38 l1 ?_
      refine w_mul f230_39 ?_
      refine w_I f230_40 l2 ?_
      refine w_add f230_41 ?_
      refine w_I f230_42 l2 ?_
      by_cases hz : t = 0
      · refine w_ifF f230_43 rfl (by rw [hz]; rfl) ?_
        refine w_K f230_46 ?_
        refine w_go f230_47 rfl ?_
        refine w_ist f230_51 h2.2.2.1 (by omega) (by decide) ?_
        refine w_inc f230_52 (x := t) l2 ?_
        refine w_go f230_55 rfl ?_
        exact l230_9 hn ho mo j (t + 1) (by omega) _ _ _ _ (lv_s l0 (by decide) cR) (lv_s l1 (by decide) cI) lv_e (mE_2 h2) hx
      · refine w_ifT f230_43 rfl (c_neT (b := 0) hz (by omega) (by decide)) ?_
        refine w_K f230_50 ?_
        refine w_ist f230_51 h2.2.2.1 (by omega) (by decide) ?_
        refine w_inc f230_52 (x := t) l2 ?_
        refine w_go f230_55 rfl ?_
        exact l230_9 hn ho mo j (t + 1) (by omega) _ _ _ _ (lv_s l0 (by decide) cR) (lv_s l1 (by decide) cI) lv_e (mE_2 h2) hx
    refine w_A f230_16 l0 ?_
    refine w_gf f230_17 ho1 (mo.2.2.2.2.2.2.2.2.2.2.2.2.1) ?_
    refine w_I f230_20 l2 ?_
    refine w_I f230_21 l2 ?_
    by_cases hz : t = 0
    · refine w_ifF f230_22 rfl (by rw [hz]; rfl) ?_
      refine w_K f230_25 ?_
      refine w_go f230_26 rfl ?_
      exact w_ist f230_30 h1.2.1 (by omega) (by decide) (two _)
    · refine w_ifT f230_22 rfl (c_neT (b := 0) hz (by omega) (by decide)) ?_
      refine w_K f230_29 ?_
      exact w_ist f230_30 h1.2.1 (by omega) (by decide) (two _)
theorem l230_74 {L : Nat} {xs : Nat → Int32} {Post : Option Value → iv_H → Prop} {d : Nat} {σ : iv_H} {fs : List Value} {N : Nat → Int32} {stk : Nat → Int32} {n : Nat} (hn : n ≤ 7) (ho : iv_get σ 548 = some (.inr (12, fs))) (mo : mO fs) (gN : iv_get σ 552 = some (.inl (0, 374, .inl N))) (hs : ∀ b, b < 7 → sStk N b (stk b)) {i c : Nat} (hi : i < n) (hc : c < n) : ∀ (j s : Nat), s + j = 190 → ∀ (lv : iv_L) (σ1 : iv_H) (A B : Nat → Int32), iv_f1 lv 0 = some (.ref 548) → iv_f1 lv 1 = some (.int (Int32.ofNat n)) → iv_f1 lv 2 = some (.int (Int32.ofNat i)) → iv_f1 lv 3 = some (.int (Int32.ofNat c)) → iv_f1 lv 4 = some (.int (Int32.ofNat s)) → mE σ σ1 A B → (∀ c2, c < c2 → c2 < n → ∀ s2, s2 < 190 → pP stk B c2 s2) → (∀ s2, s2 < s → pP stk B c s2) → (∀ (lv2 : iv_L) (σ2 : iv_H) (A2 B2 : Nat → Int32), iv_f1 lv2 0 = some (.ref 548) → iv_f1 lv2 1 = some (.int (Int32.ofNat n)) → iv_f1 lv2 2 = some (.int (Int32.ofNat i)) → mE σ σ2 A2 B2 → (∀ c2, c < c2 → c2 < n → ∀ s2, s2 < 190 → pP stk B2 c2 s2) → (∀ s2, s2 < 190 → pP stk B2 c s2) → zGo L xs Post [] (d + 3) 230 216 lv2 [] σ2) → zGo L xs Post [] (d + 3) 230 74 lv [] σ1
  | 0, s, hsj, lv, σ1, A, B, l0, l1, l2, l3, l4, h1, p1, p2, hx => by
    obtain rfl : s = 190 := by omega
    refine w_I f230_74 l4 ?_
    refine w_K f230_76 ?_
    refine w_icT f230_79 rfl (c_geT (by omega) (by omega)) ?_
    exact hx lv σ1 A B l0 l1 l2 h1 p1 p2
  | j + 1, s, hsj, lv, σ1, A, B, l0, l1, l2, l3, l4, h1, p1, p2, hx => by
    have ho1 : iv_get σ1 548 = some (.inr (12, fs)) := (h1.2.2.2 548 (by decide) (by decide)).trans ho
    have gN1 : iv_get σ1 552 = some (.inl (0, 374, .inl N)) := (h1.2.2.2 552 (by decide) (by decide)).trans gN
    obtain ⟨qi, hqi, hmi⟩ := g_most (N := N) (b := i) (by omega)
    obtain ⟨qc, hqc, hmc⟩ := g_most (N := N) (b := c) (by omega)
    refine w_I f230_74 l4 ?_
    refine w_K f230_76 ?_
    refine w_icF f230_79 rfl (c_geF (by omega) (by omega)) ?_
    refine w_K f230_82 ?_
    refine w_IS f230_83 ?_
    refine w_K f230_85 ?_
    refine w_IS f230_86 ?_
    refine w_K f230_88 ?_
    refine w_IS f230_89 ?_
    refine l230_91 (i := i) (s := s) (by omega) hqi ho1 mo gN1 h1.2.1 (hs i (by omega)) hmi (qi + 1) 0 (by omega) _ (Int32.ofNat 0) (lv_s (lv_s (lv_s l0 (by decide) cR) (by decide) cR) (by decide) cR) (lv_s (lv_s (lv_s l2 (by decide) cI) (by decide) cI) (by decide) cI) (lv_s (lv_s (lv_s l4 (by decide) cI) (by decide) cI) (by decide) cI) (lv_s (lv_s lv_e (by decide) cI) (by decide) cI) lv_e (fun lv2 y k1 m5 => ?_)
    have m0 := k1 0 _ (by decide) cR (lv_s (lv_s (lv_s l0 (by decide) cR) (by decide) cR) (by decide) cR)
    have m1 := k1 1 _ (by decide) cI (lv_s (lv_s (lv_s l1 (by decide) cI) (by decide) cI) (by decide) cI)
    have m2 := k1 2 _ (by decide) cI (lv_s (lv_s (lv_s l2 (by decide) cI) (by decide) cI) (by decide) cI)
    have m3 := k1 3 _ (by decide) cI (lv_s (lv_s (lv_s l3 (by decide) cI) (by decide) cI) (by decide) cI)
    have m4 := k1 4 _ (by decide) cI (lv_s (lv_s (lv_s l4 (by decide) cI) (by decide) cI) (by decide) cI)
    have m6 := k1 6 _ (by decide) cI (lv_s lv_e (by decide) cI)
    refine w_K f230_132 ?_
    refine w_IS f230_133 ?_
    refine l230_135 (c := c) (s := s) (by omega) hqc ho1 mo gN1 h1.2.2.1 (hs c (by omega)) hmc (qc + 1) 0 (by omega) _ (Int32.ofNat 0) (lv_s m0 (by decide) cR) (lv_s m3 (by decide) cI) (lv_s m4 (by decide) cI) (lv_s m6 (by decide) cI) lv_e (.inl rfl) (fun lv3 y2 k2 n6 hv => ?_)
    have n0 := k2 0 _ (by decide) cR (lv_s m0 (by decide) cR)
    have n1 := k2 1 _ (by decide) cI (lv_s m1 (by decide) cI)
    have n2 := k2 2 _ (by decide) cI (lv_s m2 (by decide) cI)
    have n3 := k2 3 _ (by decide) cI (lv_s m3 (by decide) cI)
    have n4 := k2 4 _ (by decide) cI (lv_s m4 (by decide) cI)
    have n5 := k2 5 _ (by decide) cI (lv_s m5 (by decide) cI)
    refine w_A f230_178 n0 ?_
    refine w_gf f230_179 ho1 (mo.2.2.2.2.2.2.2.2.2.2.2.2.1) ?_
    refine w_K f230_182 ?_
    refine w_I f230_185 n2 ?_
    refine w_K f230_186 ?_
    refine w_add f230_187 ?_
    refine w_mul f230_188 ?_
    refine w_I f230_189 n4 ?_
    refine w_add f230_191 ?_
    refine w_I f230_192 n5 ?_
    refine w_ist f230_194 h1.2.1 (by omega) (by decide) ?_
    have h2 := mE_1 (A2 := upd A (190 * (i + 1) + s) y) h1
    have ho2 : iv_get (iv_put σ1 574 (.inl (0, 1520, .inl (upd A (190 * (i + 1) + s) y)))) 548 = some (.inr (12, fs)) := (h2.2.2.2 548 (by decide) (by decide)).trans ho
    refine w_A f230_195 n0 ?_
    refine w_gf f230_196 ho2 (mo.2.2.2.2.2.2.2.2.2.2.2.2.2.1) ?_
    refine w_K f230_199 ?_
    refine w_I f230_202 n3 ?_
    refine w_mul f230_203 ?_
    refine w_I f230_204 n4 ?_
    refine w_add f230_206 ?_
    refine w_I f230_207 n6 ?_
    refine w_ist f230_209 h2.2.2.1 (by omega) (by decide) ?_
    refine w_inc f230_210 (x := s) n4 ?_
    refine w_go f230_213 rfl ?_
    refine l230_74 hn ho mo gN hs hi hc j (s + 1) (by omega) _ _ _ (upd B (190 * c + s) y2) (lv_s n0 (by decide) cR) (lv_s n1 (by decide) cI) (lv_s n2 (by decide) cI) (lv_s n3 (by decide) cI) lv_e (mE_2 h2) (fun c2 a1 a2 s2 a3 => pP_up (by omega) (by omega) (p1 c2 a1 a2 s2 a3)) (fun s2 a1 => ?_) hx
    by_cases hz : s2 = s
    · subst hz
      intro hb
      rw [upd_at, if_pos rfl] at hb
      rcases hv with rfl | ⟨r, r1, r2⟩
      · exact absurd rfl hb
      · exact ⟨r, by omega, by rw [atF_up (by omega)]; exact r2⟩
    · exact pP_up (by omega) (by omega) (p2 s2 (by omega))
theorem l230_60 {L : Nat} {xs : Nat → Int32} {Post : Option Value → iv_H → Prop} {d : Nat} {σ : iv_H} {fs : List Value} {N : Nat → Int32} {stk : Nat → Int32} {n : Nat} (hn : n ≤ 7) (ho : iv_get σ 548 = some (.inr (12, fs))) (mo : mO fs) (gN : iv_get σ 552 = some (.inl (0, 374, .inl N))) (hs : ∀ b, b < 7 → sStk N b (stk b)) : ∀ (j i : Nat), i + j = n → ∀ (lv : iv_L) (σ1 : iv_H) (A B : Nat → Int32), iv_f1 lv 0 = some (.ref 548) → iv_f1 lv 1 = some (.int (Int32.ofNat n)) → iv_f1 lv 2 = some (.int (Int32.ofNat i)) → mE σ σ1 A B → (∀ c2, n ≤ c2 + i → c2 < n → ∀ s2, s2 < 190 → pP stk B c2 s2) → (∀ (σ2 : iv_H) (A2 B2 : Nat → Int32), mE σ σ2 A2 B2 → (∀ c2, c2 < n → ∀ s2, s2 < 190 → pP stk B2 c2 s2) → Post none σ2) → zGo L xs Post [] (d + 3) 230 60 lv [] σ1
  | 0, i, hij, lv, σ1, A, B, l0, l1, l2, h1, p1, hx => by
    obtain rfl : i = n := by omega
    refine w_I f230_60 l2 ?_
    refine w_I f230_61 l1 ?_
    refine w_icT f230_62 rfl (c_geT (by omega) (by omega)) ?_
    exact w_ret0 f230_222 (hx σ1 A B h1 (fun c2 a1 => p1 c2 (by omega) a1))
  | j + 1, i, hij, lv, σ1, A, B, l0, l1, l2, h1, p1, hx => by
    refine w_I f230_60 l2 ?_
    refine w_I f230_61 l1 ?_
    refine w_icF f230_62 rfl (c_geF (by omega) (by omega)) ?_
    refine w_I f230_65 l1 ?_
    refine w_K f230_66 ?_
    refine w_sub (by omega) f230_67 ?_
    refine w_I f230_68 l2 ?_
    refine w_sub (by omega) f230_69 ?_
    refine w_IS f230_70 ?_
    refine w_K f230_71 ?_
    refine w_IS f230_72 ?_
    refine l230_74 (i := i) (c := n - 1 - i) hn ho mo gN hs (by omega) (by omega) 190 0 (by omega) _ _ A B (lv_s (lv_s l0 (by decide) cR) (by decide) cR) (lv_s (lv_s l1 (by decide) cI) (by decide) cI) (lv_s (lv_s l2 (by decide) cI) (by decide) cI) (lv_s lv_e (by decide) cI) lv_e h1 (fun c2 a1 a2 => p1 c2 (by omega) a2) (fun s2 a1 => absurd a1 (by omega)) (fun lv2 σ2 A2 B2 m0 m1 m2 h2 p2 p3 => ?_)
    refine w_inc f230_216 (x := i) m2 ?_
    refine w_go f230_219 rfl ?_
    refine l230_60 hn ho mo gN hs j (i + 1) (by omega) _ _ A2 B2 (lv_s m0 (by decide) cR) (lv_s m1 (by decide) cI) lv_e h2 (fun c2 a1 a2 => ?_) hx
    by_cases hz : c2 = n - 1 - i
    · subst hz
      exact p3
    · exact p2 c2 (by omega) a2
theorem g_rows {L : Nat} {xs : Nat → Int32} {Post : Option Value → iv_H → Prop} {d : Nat} {σ : iv_H} {fs : List Value} {N : Nat → Int32} {stk : Nat → Int32} {n : Nat} (hn : n ≤ 7) (ho : iv_get σ 548 = some (.inr (12, fs))) (mo : mO fs) (gN : iv_get σ 552 = some (.inl (0, 374, .inl N))) (hN : N 0 = Int32.ofNat n) (hs : ∀ b, b < 7 → sStk N b (stk b)) {A B : Nat → Int32} (gA : iv_get σ 574 = some (.inl (0, 1520, .inl A))) (gB : iv_get σ 576 = some (.inl (0, 1520, .inl B))) (k : ∀ (σ2 : iv_H) (A2 B2 : Nat → Int32), mE σ σ2 A2 B2 → (∀ c2, c2 < n → ∀ s2, s2 < 190 → pP stk B2 c2 s2) → Post none σ2) : zGo L xs Post [] (d + 3) 230 0 (lv_args 0 [.ref 548]) [] σ := by
  refine w_A f230_0 rfl ?_
  refine w_gf f230_1 ho (mo.2.2.1) ?_
  refine w_K f230_4 ?_
  refine w_il (i := 0) f230_5 gN rfl rfl (by decide) (by decide) ?_
  rw [hN]
  refine w_IS f230_6 ?_
  refine w_K f230_7 ?_
  refine w_IS f230_8 ?_
  refine l230_9 hn ho mo 190 0 (by omega) _ σ A B rfl rfl rfl ⟨⟨rfl, rfl⟩, gA, gB, fun _ _ _ => rfl⟩ (fun lv2 σ2 A2 B2 m0 m1 h2 => ?_)
  refine w_K f230_58 ?_
  refine w_IS f230_59 ?_
  exact l230_60 hn ho mo gN hs n 0 (by omega) _ σ2 A2 B2 (lv_s m0 (by decide) cR) (lv_s m1 (by decide) cI) lv_e h2 (fun c2 a1 a2 => absurd a2 (by omega)) k
