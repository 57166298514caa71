/-! Literals as embedded integers; longs; booleans; the smallest methods of the reference. -/
section MLIT
def lI (z : Int) : Int64 := Int64.ofInt z
theorem iL_m1 : ((-1) : Int32) = iI (-1) := rfl
theorem iL_0 : (0 : Int32) = iI 0 := rfl
theorem iL_1 : (1 : Int32) = iI 1 := rfl
theorem iL_2 : (2 : Int32) = iI 2 := rfl
theorem iL_3 : (3 : Int32) = iI 3 := rfl
theorem iL_4 : (4 : Int32) = iI 4 := rfl
theorem iL_5 : (5 : Int32) = iI 5 := rfl
theorem iL_6 : (6 : Int32) = iI 6 := rfl
theorem iL_7 : (7 : Int32) = iI 7 := rfl
theorem iL_8 : (8 : Int32) = iI 8 := rfl
theorem iL_9 : (9 : Int32) = iI 9 := rfl
theorem iL_10 : (10 : Int32) = iI 10 := rfl
theorem iL_11 : (11 : Int32) = iI 11 := rfl
theorem iL_12 : (12 : Int32) = iI 12 := rfl
theorem iL_13 : (13 : Int32) = iI 13 := rfl
theorem iL_14 : (14 : Int32) = iI 14 := rfl
theorem iL_15 : (15 : Int32) = iI 15 := rfl
theorem iL_16 : (16 : Int32) = iI 16 := rfl
theorem iL_17 : (17 : Int32) = iI 17 := rfl
theorem iL_18 : (18 : Int32) = iI 18 := rfl
theorem iL_19 : (19 : Int32) = iI 19 := rfl
theorem iL_20 : (20 : Int32) = iI 20 := rfl
theorem iL_21 : (21 : Int32) = iI 21 := rfl
theorem iL_24 : (24 : Int32) = iI 24 := rfl
theorem iL_25 : (25 : Int32) = iI 25 := rfl
theorem iL_31 : (31 : Int32) = iI 31 := rfl
theorem iL_32 : (32 : Int32) = iI 32 := rfl
theorem iL_33 : (33 : Int32) = iI 33 := rfl
theorem iL_35 : (35 : Int32) = iI 35 := rfl
theorem iL_36 : (36 : Int32) = iI 36 := rfl
theorem iL_37 : (37 : Int32) = iI 37 := rfl
theorem iL_38 : (38 : Int32) = iI 38 := rfl
theorem iL_39 : (39 : Int32) = iI 39 := rfl
theorem iL_40 : (40 : Int32) = iI 40 := rfl
theorem iL_41 : (41 : Int32) = iI 41 := rfl
theorem iL_44 : (44 : Int32) = iI 44 := rfl
theorem iL_47 : (47 : Int32) = iI 47 := rfl
theorem iL_49 : (49 : Int32) = iI 49 := rfl
theorem iL_56 : (56 : Int32) = iI 56 := rfl
theorem iL_60 : (60 : Int32) = iI 60 := rfl
theorem iL_64 : (64 : Int32) = iI 64 := rfl
theorem iL_98 : (98 : Int32) = iI 98 := rfl
theorem iL_100 : (100 : Int32) = iI 100 := rfl
theorem iL_127 : (127 : Int32) = iI 127 := rfl
theorem iL_128 : (128 : Int32) = iI 128 := rfl
theorem iL_129 : (129 : Int32) = iI 129 := rfl
theorem iL_130 : (130 : Int32) = iI 130 := rfl
theorem iL_131 : (131 : Int32) = iI 131 := rfl
theorem iL_133 : (133 : Int32) = iI 133 := rfl
theorem iL_138 : (138 : Int32) = iI 138 := rfl
theorem iL_139 : (139 : Int32) = iI 139 := rfl
theorem iL_141 : (141 : Int32) = iI 141 := rfl
theorem iL_143 : (143 : Int32) = iI 143 := rfl
theorem iL_145 : (145 : Int32) = iI 145 := rfl
theorem iL_153 : (153 : Int32) = iI 153 := rfl
theorem iL_160 : (160 : Int32) = iI 160 := rfl
theorem iL_162 : (162 : Int32) = iI 162 := rfl
theorem iL_164 : (164 : Int32) = iI 164 := rfl
theorem iL_165 : (165 : Int32) = iI 165 := rfl
theorem iL_176 : (176 : Int32) = iI 176 := rfl
theorem iL_178 : (178 : Int32) = iI 178 := rfl
theorem iL_192 : (192 : Int32) = iI 192 := rfl
theorem iL_193 : (193 : Int32) = iI 193 := rfl
theorem iL_194 : (194 : Int32) = iI 194 := rfl
theorem iL_205 : (205 : Int32) = iI 205 := rfl
theorem iL_208 : (208 : Int32) = iI 208 := rfl
theorem iL_209 : (209 : Int32) = iI 209 := rfl
theorem iL_211 : (211 : Int32) = iI 211 := rfl
theorem iL_212 : (212 : Int32) = iI 212 := rfl
theorem iL_213 : (213 : Int32) = iI 213 := rfl
theorem iL_214 : (214 : Int32) = iI 214 := rfl
theorem iL_215 : (215 : Int32) = iI 215 := rfl
theorem iL_220 : (220 : Int32) = iI 220 := rfl
theorem iL_244 : (244 : Int32) = iI 244 := rfl
theorem iL_254 : (254 : Int32) = iI 254 := rfl
theorem iL_255 : (255 : Int32) = iI 255 := rfl
theorem iL_256 : (256 : Int32) = iI 256 := rfl
theorem iL_280 : (280 : Int32) = iI 280 := rfl
theorem iL_300 : (300 : Int32) = iI 300 := rfl
theorem iL_1000 : (1000 : Int32) = iI 1000 := rfl
theorem iL_3600 : (3600 : Int32) = iI 3600 := rfl
theorem iL_4000 : (4000 : Int32) = iI 4000 := rfl
theorem iL_4100 : (4100 : Int32) = iI 4100 := rfl
theorem iL_8000 : (8000 : Int32) = iI 8000 := rfl
theorem iL_16128 : (16128 : Int32) = iI 16128 := rfl
theorem iL_25536 : (25536 : Int32) = iI 25536 := rfl
theorem iL_26368 : (26368 : Int32) = iI 26368 := rfl
theorem iL_27009 : (27009 : Int32) = iI 27009 := rfl
theorem iL_27010 : (27010 : Int32) = iI 27010 := rfl
theorem iL_27011 : (27011 : Int32) = iI 27011 := rfl
theorem iL_27013 : (27013 : Int32) = iI 27013 := rfl
theorem iL_27014 : (27014 : Int32) = iI 27014 := rfl
theorem iL_27264 : (27264 : Int32) = iI 27264 := rfl
theorem iL_27265 : (27265 : Int32) = iI 27265 := rfl
theorem iL_27266 : (27266 : Int32) = iI 27266 := rfl
theorem iL_27267 : (27267 : Int32) = iI 27267 := rfl
theorem iL_27270 : (27270 : Int32) = iI 27270 := rfl
theorem iL_27272 : (27272 : Int32) = iI 27272 := rfl
theorem iL_27392 : (27392 : Int32) = iI 27392 := rfl
theorem iL_27648 : (27648 : Int32) = iI 27648 := rfl
theorem iL_27904 : (27904 : Int32) = iI 27904 := rfl
theorem iL_28160 : (28160 : Int32) = iI 28160 := rfl
theorem iL_32770 : (32770 : Int32) = iI 32770 := rfl
theorem iL_32784 : (32784 : Int32) = iI 32784 := rfl
theorem iL_32786 : (32786 : Int32) = iI 32786 := rfl
theorem iL_32788 : (32788 : Int32) = iI 32788 := rfl
theorem iL_32962 : (32962 : Int32) = iI 32962 := rfl
theorem iL_33027 : (33027 : Int32) = iI 33027 := rfl
theorem iL_33281 : (33281 : Int32) = iI 33281 := rfl
theorem iL_33282 : (33282 : Int32) = iI 33282 := rfl
theorem iL_33283 : (33283 : Int32) = iI 33283 := rfl
theorem iL_33538 : (33538 : Int32) = iI 33538 := rfl
theorem iL_35330 : (35330 : Int32) = iI 35330 := rfl
theorem iL_36864 : (36864 : Int32) = iI 36864 := rfl
theorem iL_37120 : (37120 : Int32) = iI 37120 := rfl
theorem iL_37122 : (37122 : Int32) = iI 37122 := rfl
theorem iL_37632 : (37632 : Int32) = iI 37632 := rfl
theorem iL_41985 : (41985 : Int32) = iI 41985 := rfl
theorem iL_42243 : (42243 : Int32) = iI 42243 := rfl
theorem iL_65535 : (65535 : Int32) = iI 65535 := rfl
theorem iL_825373492 : (825373492 : Int32) = iI 825373492 := rfl
theorem iL_943208504 : (943208504 : Int32) = iI 943208504 := rfl
theorem iL_2147483639 : (2147483639 : Int32) = iI 2147483639 := rfl
theorem lL_0 : (0 : Int64) = lI 0 := rfl
theorem lL_1 : (1 : Int64) = lI 1 := rfl
theorem lL_2 : (2 : Int64) = lI 2 := rfl
theorem lL_3 : (3 : Int64) = lI 3 := rfl
theorem lL_7 : (7 : Int64) = lI 7 := rfl
theorem lL_8 : (8 : Int64) = lI 8 := rfl
theorem lL_31 : (31 : Int64) = lI 31 := rfl
theorem lL_255 : (255 : Int64) = lI 255 := rfl
theorem lL_1000 : (1000 : Int64) = lI 1000 := rfl
theorem lL_65535 : (65535 : Int64) = lI 65535 := rfl
def bI (p : Prop) [Decidable p] : Int := if p then 1 else 0
theorem bI_t {p : Prop} [Decidable p] (h : p) : bI p = 1 := if_pos h
theorem bI_f {p : Prop} [Decidable p] (h : ¬ p) : bI p = 0 := if_neg h
theorem bI_e0 (p : Prop) [Decidable p] : (iI (bI p) = iI 0) ↔ ¬ p := by
  by_cases h : p
  · rw [bI_t h]; exact ⟨fun q => absurd q (by decide), fun q => absurd h q⟩
  · rw [bI_f h]; exact ⟨fun _ => h, fun _ => rfl⟩
theorem bI_01 (p : Prop) [Decidable p] : (iI (bI p) = iI 0 ∨ iI (bI p) = iI 1) ↔ True := by
  by_cases h : p
  · rw [bI_t h]; exact ⟨fun _ => trivial, fun _ => Or.inr rfl⟩
  · rw [bI_f h]; exact ⟨fun _ => trivial, fun _ => Or.inl rfl⟩
theorem iI_l {z : Int} (h1 : -2147483648 ≤ z) (h2 : z < 2147483648) : (iI z).toInt64 = lI z := by
  unfold lI iI
  exact Int32.toInt64_ofInt (by simpa using h1) (by rw [show Int32.maxValue.toInt = 2147483647 from by decide]; omega)
theorem lI_toInt {z : Int} (h1 : -4611686018427387904 ≤ z) (h2 : z < 4611686018427387904) : (lI z).toInt = z := Int64.toInt_ofInt_of_le (by omega) (by omega)
theorem lI_add (a b : Int) : lI a + lI b = lI (a + b) := (Int64.ofInt_add a b).symm
theorem lI_lt {a b : Int} (h1 : -4611686018427387904 ≤ a) (h2 : a < 4611686018427387904) (h3 : -4611686018427387904 ≤ b) (h4 : b < 4611686018427387904) : lI a < lI b ↔ a < b := by
  rw [Int64.lt_iff_toInt_lt, lI_toInt h1 h2, lI_toInt h3 h4]
theorem lI_eq {a b : Int} (h1 : -4611686018427387904 ≤ a) (h2 : a < 4611686018427387904) (h3 : -4611686018427387904 ≤ b) (h4 : b < 4611686018427387904) : lI a = lI b ↔ a = b :=
  ⟨fun h => by have := congrArg Int64.toInt h; rwa [lI_toInt h1 h2, lI_toInt h3 h4] at this, fun h => by rw [h]⟩
end MLIT
