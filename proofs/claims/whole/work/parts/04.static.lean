/-! what the tables say of the own tables -/
def px_gw : List Cond := lw_tbl.filter goodWord
theorem px_gw_in {w : Cond} (h : w ∈ lw_tbl) (g : goodWord w = true) : w ∈ px_gw := List.mem_filter.mpr ⟨h, g⟩
theorem px_gw_at {w : Cond} {i : Nat} (h : tables_1[i]? = some w) (g : goodWord w = true) : w ∈ px_gw := px_gw_in (List.mem_append_right _ (List.mem_of_getElem? h)) g
theorem px_gw_all {ws : List Cond} (h : ∀ w ∈ ws, w ∈ px_gw) : GoodIn px_gw ws := fun w hw => ⟨h w hw, good_of_word (List.mem_filter.mp (h w hw)).2⟩
def px_fok (q : Nat × Nat × Nat × Nat × Nat) : Bool := decide (tables_1[q.2.2.2.2]? = some (.fieldLink (px_cn q.1) q.2.1 ((px_C q.2.2.1).2.1 q.2.2.2.1).1 ((px_C q.2.2.1).2.1 q.2.2.2.1).2.1 ((px_C q.2.2.1).2.1 q.2.2.2.1).2.2.1)) && decide (q.2.2.2.1 < (px_C q.2.2.1).2.2) && decide (q.2.2.1 < 10)
set_option maxRecDepth 100000 in
theorem px_ftb_ok : px_ftb.all px_fok = true := by decide +kernel
theorem px_fr_ok {o i ci k : Nat} (h : px_fr o i = some (ci, k)) : Cond.fieldLink (px_cn o) i ((px_C ci).2.1 k).1 ((px_C ci).2.1 k).2.1 ((px_C ci).2.1 k).2.2.1 ∈ px_gw ∧ k < (px_C ci).2.2 ∧ ci < 10 := by
  unfold px_fr at h
  cases hf : px_ftb.find? (fun q => q.1 == o && q.2.1 == i) with
  | none => rw [hf] at h; cases h
  | some q =>
    rw [hf] at h
    have h1 := List.find?_some hf
    have h2 := List.all_eq_true.mp px_ftb_ok q (List.mem_of_find?_eq_some hf)
    simp only [Bool.and_eq_true, beq_iff_eq] at h1
    obtain ⟨rfl, rfl⟩ := h1
    simp only [Option.map_some, Option.some.injEq, Prod.mk.injEq] at h
    obtain ⟨rfl, rfl⟩ := h
    simp only [px_fok, Bool.and_eq_true, decide_eq_true_eq] at h2
    exact ⟨px_gw_at h2.1.1 rfl, h2.1.2, h2.2⟩
theorem px_C_at {ci : Nat} (h : ci < 10) : vwCl[ci]? = some (px_C ci) := by
  unfold px_C
  rw [List.getD_eq_getElem?_getD, List.getElem?_eq_getElem (show ci < vwCl.length from h)]
  rfl
def px_mq (t : Nat) : Nat × Nat × Nat × Bool × Nat × Bool := (px_mp[t]?).getD (9999, 9999, 9999, false, 9999, false)
def px_cw (t : Nat) : Prop := tables_1[(px_mq t).1]? = some (.code (px_y t) (px_code t) (px_maxL t) (px_ret t))
set_option maxRecDepth 100000 in
theorem px_cw_1 : px_cw 1 := rfl
set_option maxRecDepth 100000 in
theorem px_cw_2 : px_cw 2 := rfl
set_option maxRecDepth 100000 in
theorem px_cw_3 : px_cw 3 := rfl
set_option maxRecDepth 100000 in
theorem px_cw_4 : px_cw 4 := rfl
set_option maxRecDepth 100000 in
theorem px_cw_5 : px_cw 5 := rfl
set_option maxRecDepth 100000 in
theorem px_cw_6 : px_cw 6 := rfl
set_option maxRecDepth 100000 in
theorem px_cw_7 : px_cw 7 := rfl
set_option maxRecDepth 100000 in
theorem px_cw_8 : px_cw 8 := rfl
set_option maxRecDepth 100000 in
theorem px_cw_9 : px_cw 9 := rfl
set_option maxRecDepth 100000 in
theorem px_cw_10 : px_cw 10 := rfl
set_option maxRecDepth 100000 in
theorem px_cw_11 : px_cw 11 := rfl
set_option maxRecDepth 100000 in
theorem px_cw_12 : px_cw 12 := rfl
set_option maxRecDepth 100000 in
theorem px_cw_13 : px_cw 13 := rfl
set_option maxRecDepth 100000 in
theorem px_cw_14 : px_cw 14 := rfl
set_option maxRecDepth 100000 in
theorem px_cw_15 : px_cw 15 := rfl
set_option maxRecDepth 100000 in
theorem px_cw_16 : px_cw 16 := rfl
set_option maxRecDepth 100000 in
theorem px_cw_17 : px_cw 17 := rfl
set_option maxRecDepth 100000 in
theorem px_cw_18 : px_cw 18 := rfl
set_option maxRecDepth 100000 in
theorem px_cw_19 : px_cw 19 := rfl
set_option maxRecDepth 100000 in
theorem px_cw_20 : px_cw 20 := rfl
set_option maxRecDepth 100000 in
theorem px_cw_21 : px_cw 21 := rfl
set_option maxRecDepth 100000 in
theorem px_cw_22 : px_cw 22 := rfl
set_option maxRecDepth 100000 in
theorem px_cw_23 : px_cw 23 := rfl
set_option maxRecDepth 100000 in
theorem px_cw_24 : px_cw 24 := rfl
set_option maxRecDepth 100000 in
theorem px_cw_25 : px_cw 25 := rfl
set_option maxRecDepth 100000 in
theorem px_cw_26 : px_cw 26 := rfl
set_option maxRecDepth 100000 in
theorem px_cw_27 : px_cw 27 := rfl
set_option maxRecDepth 100000 in
theorem px_cw_28 : px_cw 28 := rfl
set_option maxRecDepth 100000 in
theorem px_cw_29 : px_cw 29 := rfl
set_option maxRecDepth 100000 in
theorem px_cw_30 : px_cw 30 := rfl
set_option maxRecDepth 100000 in
theorem px_cw_31 : px_cw 31 := rfl
set_option maxRecDepth 100000 in
theorem px_cw_32 : px_cw 32 := rfl
set_option maxRecDepth 100000 in
theorem px_cw_33 : px_cw 33 := rfl
set_option maxRecDepth 100000 in
theorem px_cw_34 : px_cw 34 := rfl
set_option maxRecDepth 100000 in
theorem px_cw_35 : px_cw 35 := rfl
set_option maxRecDepth 100000 in
theorem px_cw_36 : px_cw 36 := rfl
set_option maxRecDepth 100000 in
theorem px_cw_37 : px_cw 37 := rfl
set_option maxRecDepth 100000 in
theorem px_cw_38 : px_cw 38 := rfl
set_option maxRecDepth 100000 in
theorem px_cw_39 : px_cw 39 := rfl
set_option maxRecDepth 100000 in
theorem px_cw_40 : px_cw 40 := rfl
set_option maxRecDepth 100000 in
theorem px_cw_41 : px_cw 41 := rfl
set_option maxRecDepth 100000 in
theorem px_cw_42 : px_cw 42 := rfl
set_option maxRecDepth 100000 in
theorem px_cw_43 : px_cw 43 := rfl
set_option maxRecDepth 100000 in
theorem px_cw_44 : px_cw 44 := rfl
set_option maxRecDepth 100000 in
theorem px_cw_45 : px_cw 45 := rfl
set_option maxRecDepth 100000 in
theorem px_cw_46 : px_cw 46 := rfl
set_option maxRecDepth 100000 in
theorem px_cw_47 : px_cw 47 := rfl
set_option maxRecDepth 100000 in
theorem px_cw_48 : px_cw 48 := rfl
set_option maxRecDepth 100000 in
theorem px_cw_49 : px_cw 49 := rfl
set_option maxRecDepth 100000 in
theorem px_cw_50 : px_cw 50 := rfl
set_option maxRecDepth 100000 in
theorem px_cw_51 : px_cw 51 := rfl
set_option maxRecDepth 100000 in
theorem px_cw_52 : px_cw 52 := rfl
set_option maxRecDepth 100000 in
theorem px_cw_53 : px_cw 53 := rfl
set_option maxRecDepth 100000 in
theorem px_cw_54 : px_cw 54 := rfl
set_option maxRecDepth 100000 in
theorem px_cw_55 : px_cw 55 := rfl
set_option maxRecDepth 100000 in
theorem px_cw_56 : px_cw 56 := rfl
set_option maxRecDepth 100000 in
theorem px_cw_57 : px_cw 57 := rfl
set_option maxRecDepth 100000 in
theorem px_cw_58 : px_cw 58 := rfl
set_option maxRecDepth 100000 in
theorem px_cw_59 : px_cw 59 := rfl
set_option maxRecDepth 100000 in
theorem px_cw_60 : px_cw 60 := rfl
set_option maxRecDepth 100000 in
theorem px_cw_61 : px_cw 61 := rfl
set_option maxRecDepth 100000 in
theorem px_cw_62 : px_cw 62 := rfl
set_option maxRecDepth 100000 in
theorem px_cw_63 : px_cw 63 := rfl
set_option maxRecDepth 100000 in
theorem px_cw_64 : px_cw 64 := rfl
set_option maxRecDepth 100000 in
theorem px_cw_65 : px_cw 65 := rfl
set_option maxRecDepth 100000 in
theorem px_cw_66 : px_cw 66 := rfl
set_option maxRecDepth 100000 in
theorem px_cw_67 : px_cw 67 := rfl
set_option maxRecDepth 100000 in
theorem px_cw_68 : px_cw 68 := rfl
set_option maxRecDepth 100000 in
theorem px_cw_69 : px_cw 69 := rfl
set_option maxRecDepth 100000 in
theorem px_cw_70 : px_cw 70 := rfl
set_option maxRecDepth 100000 in
theorem px_cw_71 : px_cw 71 := rfl
set_option maxRecDepth 100000 in
theorem px_cw_72 : px_cw 72 := rfl
set_option maxRecDepth 100000 in
theorem px_cw_73 : px_cw 73 := rfl
set_option maxRecDepth 100000 in
theorem px_cw_74 : px_cw 74 := rfl
set_option maxRecDepth 100000 in
theorem px_cw_75 : px_cw 75 := rfl
set_option maxRecDepth 100000 in
theorem px_cw_76 : px_cw 76 := rfl
set_option maxRecDepth 100000 in
theorem px_cw_77 : px_cw 77 := rfl
set_option maxRecDepth 100000 in
theorem px_cw_78 : px_cw 78 := rfl
set_option maxRecDepth 100000 in
theorem px_cw_79 : px_cw 79 := rfl
set_option maxRecDepth 100000 in
theorem px_cw_80 : px_cw 80 := rfl
set_option maxRecDepth 100000 in
theorem px_cw_81 : px_cw 81 := rfl
set_option maxRecDepth 100000 in
theorem px_cw_82 : px_cw 82 := rfl
set_option maxRecDepth 100000 in
theorem px_cw_83 : px_cw 83 := rfl
set_option maxRecDepth 100000 in
theorem px_cw_84 : px_cw 84 := rfl
set_option maxRecDepth 100000 in
theorem px_cw_85 : px_cw 85 := rfl
set_option maxRecDepth 100000 in
theorem px_cw_86 : px_cw 86 := rfl
set_option maxRecDepth 100000 in
theorem px_cw_87 : px_cw 87 := rfl
set_option maxRecDepth 100000 in
theorem px_cw_88 : px_cw 88 := rfl
set_option maxRecDepth 100000 in
theorem px_cw_89 : px_cw 89 := rfl
set_option maxRecDepth 100000 in
theorem px_cw_90 : px_cw 90 := rfl
set_option maxRecDepth 100000 in
theorem px_cw_91 : px_cw 91 := rfl
set_option maxRecDepth 100000 in
theorem px_cw_92 : px_cw 92 := rfl
set_option maxRecDepth 100000 in
theorem px_cw_93 : px_cw 93 := rfl
set_option maxRecDepth 100000 in
theorem px_cw_94 : px_cw 94 := rfl
set_option maxRecDepth 100000 in
theorem px_cw_95 : px_cw 95 := rfl
set_option maxRecDepth 100000 in
theorem px_cw_96 : px_cw 96 := rfl
set_option maxRecDepth 100000 in
theorem px_cw_97 : px_cw 97 := rfl
set_option maxRecDepth 100000 in
theorem px_cw_98 : px_cw 98 := rfl
set_option maxRecDepth 100000 in
theorem px_cw_99 : px_cw 99 := rfl
set_option maxRecDepth 100000 in
theorem px_cw_100 : px_cw 100 := rfl
set_option maxRecDepth 100000 in
theorem px_cw_101 : px_cw 101 := rfl
set_option maxRecDepth 100000 in
theorem px_cw_102 : px_cw 102 := rfl
set_option maxRecDepth 100000 in
theorem px_cw_103 : px_cw 103 := rfl
set_option maxRecDepth 100000 in
theorem px_cw_104 : px_cw 104 := rfl
set_option maxRecDepth 100000 in
theorem px_cw_105 : px_cw 105 := rfl
set_option maxRecDepth 100000 in
theorem px_cw_106 : px_cw 106 := rfl
set_option maxRecDepth 100000 in
theorem px_cw_107 : px_cw 107 := rfl
set_option maxRecDepth 100000 in
theorem px_cw_108 : px_cw 108 := rfl
set_option maxRecDepth 100000 in
theorem px_cw_109 : px_cw 109 := rfl
set_option maxRecDepth 100000 in
theorem px_cw_110 : px_cw 110 := rfl
set_option maxRecDepth 100000 in
theorem px_cw_111 : px_cw 111 := rfl
set_option maxRecDepth 100000 in
theorem px_cw_112 : px_cw 112 := rfl
set_option maxRecDepth 100000 in
theorem px_cw_113 : px_cw 113 := rfl
set_option maxRecDepth 100000 in
theorem px_cw_114 : px_cw 114 := rfl
set_option maxRecDepth 100000 in
theorem px_cw_115 : px_cw 115 := rfl
set_option maxRecDepth 100000 in
theorem px_cw_116 : px_cw 116 := rfl
set_option maxRecDepth 100000 in
theorem px_cw_117 : px_cw 117 := rfl
set_option maxRecDepth 100000 in
theorem px_cw_118 : px_cw 118 := rfl
set_option maxRecDepth 100000 in
theorem px_cw_119 : px_cw 119 := rfl
set_option maxRecDepth 100000 in
theorem px_cw_120 : px_cw 120 := rfl
set_option maxRecDepth 100000 in
theorem px_cw_121 : px_cw 121 := rfl
set_option maxRecDepth 100000 in
theorem px_cw_122 : px_cw 122 := rfl
set_option maxRecDepth 100000 in
theorem px_cw_123 : px_cw 123 := rfl
set_option maxRecDepth 100000 in
theorem px_cw_124 : px_cw 124 := rfl
set_option maxRecDepth 100000 in
theorem px_cw_125 : px_cw 125 := rfl
set_option maxRecDepth 100000 in
theorem px_cw_126 : px_cw 126 := rfl
set_option maxRecDepth 100000 in
theorem px_cw_127 : px_cw 127 := rfl
set_option maxRecDepth 100000 in
theorem px_cw_128 : px_cw 128 := rfl
set_option maxRecDepth 100000 in
theorem px_cw_129 : px_cw 129 := rfl
set_option maxRecDepth 100000 in
theorem px_cw_130 : px_cw 130 := rfl
set_option maxRecDepth 100000 in
theorem px_cw_131 : px_cw 131 := rfl
set_option maxRecDepth 100000 in
theorem px_cw_132 : px_cw 132 := rfl
set_option maxRecDepth 100000 in
theorem px_cw_133 : px_cw 133 := rfl
set_option maxRecDepth 100000 in
theorem px_cw_134 : px_cw 134 := rfl
set_option maxRecDepth 100000 in
theorem px_cw_135 : px_cw 135 := rfl
set_option maxRecDepth 100000 in
theorem px_cw_136 : px_cw 136 := rfl
set_option maxRecDepth 100000 in
theorem px_cw_137 : px_cw 137 := rfl
set_option maxRecDepth 100000 in
theorem px_cw_138 : px_cw 138 := rfl
set_option maxRecDepth 100000 in
theorem px_cw_139 : px_cw 139 := rfl
set_option maxRecDepth 100000 in
theorem px_cw_140 : px_cw 140 := rfl
set_option maxRecDepth 100000 in
theorem px_cw_141 : px_cw 141 := rfl
set_option maxRecDepth 100000 in
theorem px_cw_142 : px_cw 142 := rfl
set_option maxRecDepth 100000 in
theorem px_cw_143 : px_cw 143 := rfl
set_option maxRecDepth 100000 in
theorem px_cw_144 : px_cw 144 := rfl
set_option maxRecDepth 100000 in
theorem px_cw_145 : px_cw 145 := rfl
set_option maxRecDepth 100000 in
theorem px_cw_146 : px_cw 146 := rfl
set_option maxRecDepth 100000 in
theorem px_cw_147 : px_cw 147 := rfl
set_option maxRecDepth 100000 in
theorem px_cw_148 : px_cw 148 := rfl
set_option maxRecDepth 100000 in
theorem px_cw_149 : px_cw 149 := rfl
set_option maxRecDepth 100000 in
theorem px_cw_150 : px_cw 150 := rfl
set_option maxRecDepth 100000 in
theorem px_cw_151 : px_cw 151 := rfl
set_option maxRecDepth 100000 in
theorem px_cw_152 : px_cw 152 := rfl
set_option maxRecDepth 100000 in
theorem px_cw_153 : px_cw 153 := rfl
set_option maxRecDepth 100000 in
theorem px_cw_154 : px_cw 154 := rfl
set_option maxRecDepth 100000 in
theorem px_cw_155 : px_cw 155 := rfl
set_option maxRecDepth 100000 in
theorem px_cw_156 : px_cw 156 := rfl
set_option maxRecDepth 100000 in
theorem px_cw_157 : px_cw 157 := rfl
set_option maxRecDepth 100000 in
theorem px_cw_158 : px_cw 158 := rfl
set_option maxRecDepth 100000 in
theorem px_cw_159 : px_cw 159 := rfl
set_option maxRecDepth 100000 in
theorem px_cw_160 : px_cw 160 := rfl
set_option maxRecDepth 100000 in
theorem px_cw_161 : px_cw 161 := rfl
set_option maxRecDepth 100000 in
theorem px_cw_162 : px_cw 162 := rfl
set_option maxRecDepth 100000 in
theorem px_cw_163 : px_cw 163 := rfl
set_option maxRecDepth 100000 in
theorem px_cw_164 : px_cw 164 := rfl
set_option maxRecDepth 100000 in
theorem px_cw_165 : px_cw 165 := rfl
set_option maxRecDepth 100000 in
theorem px_cw_166 : px_cw 166 := rfl
set_option maxRecDepth 100000 in
theorem px_cw_167 : px_cw 167 := rfl
set_option maxRecDepth 100000 in
theorem px_cw_168 : px_cw 168 := rfl
set_option maxRecDepth 100000 in
theorem px_cw_169 : px_cw 169 := rfl
set_option maxRecDepth 100000 in
theorem px_cw_170 : px_cw 170 := rfl
set_option maxRecDepth 100000 in
theorem px_cw_171 : px_cw 171 := rfl
set_option maxRecDepth 100000 in
theorem px_cw_172 : px_cw 172 := rfl
set_option maxRecDepth 100000 in
theorem px_cw_173 : px_cw 173 := rfl
set_option maxRecDepth 100000 in
theorem px_cw_174 : px_cw 174 := rfl
set_option maxRecDepth 100000 in
theorem px_cw_175 : px_cw 175 := rfl
set_option maxRecDepth 100000 in
theorem px_cw_176 : px_cw 176 := rfl
set_option maxRecDepth 100000 in
theorem px_cw_177 : px_cw 177 := rfl
set_option maxRecDepth 100000 in
theorem px_cw_178 : px_cw 178 := rfl
set_option maxRecDepth 100000 in
theorem px_cw_179 : px_cw 179 := rfl
set_option maxRecDepth 100000 in
theorem px_cw_180 : px_cw 180 := rfl
set_option maxRecDepth 100000 in
theorem px_cw_181 : px_cw 181 := rfl
set_option maxRecDepth 100000 in
theorem px_cw_182 : px_cw 182 := rfl
set_option maxRecDepth 100000 in
theorem px_cw_183 : px_cw 183 := rfl
set_option maxRecDepth 100000 in
theorem px_cw_184 : px_cw 184 := rfl
set_option maxRecDepth 100000 in
theorem px_cw_185 : px_cw 185 := rfl
set_option maxRecDepth 100000 in
theorem px_cw_186 : px_cw 186 := rfl
set_option maxRecDepth 100000 in
theorem px_cw_187 : px_cw 187 := rfl
set_option maxRecDepth 100000 in
theorem px_cw_188 : px_cw 188 := rfl
set_option maxRecDepth 100000 in
theorem px_cw_189 : px_cw 189 := rfl
set_option maxRecDepth 100000 in
theorem px_cw_190 : px_cw 190 := rfl
set_option maxRecDepth 100000 in
theorem px_cw_191 : px_cw 191 := rfl
set_option maxRecDepth 100000 in
theorem px_cw_192 : px_cw 192 := rfl
set_option maxRecDepth 100000 in
theorem px_cw_193 : px_cw 193 := rfl
set_option maxRecDepth 100000 in
theorem px_cw_194 : px_cw 194 := rfl
set_option maxRecDepth 100000 in
theorem px_cw_195 : px_cw 195 := rfl
set_option maxRecDepth 100000 in
theorem px_cw_196 : px_cw 196 := rfl
set_option maxRecDepth 100000 in
theorem px_cw_197 : px_cw 197 := rfl
set_option maxRecDepth 100000 in
theorem px_cw_198 : px_cw 198 := rfl
set_option maxRecDepth 100000 in
theorem px_cw_199 : px_cw 199 := rfl
set_option maxRecDepth 100000 in
theorem px_cw_200 : px_cw 200 := rfl
set_option maxRecDepth 100000 in
theorem px_cw_201 : px_cw 201 := rfl
set_option maxRecDepth 100000 in
theorem px_cw_202 : px_cw 202 := rfl
set_option maxRecDepth 100000 in
theorem px_cw_203 : px_cw 203 := rfl
set_option maxRecDepth 100000 in
theorem px_cw_204 : px_cw 204 := rfl
set_option maxRecDepth 100000 in
theorem px_cw_205 : px_cw 205 := rfl
set_option maxRecDepth 100000 in
theorem px_cw_206 : px_cw 206 := rfl
set_option maxRecDepth 100000 in
theorem px_cw_207 : px_cw 207 := rfl
set_option maxRecDepth 100000 in
theorem px_cw_208 : px_cw 208 := rfl
set_option maxRecDepth 100000 in
theorem px_cw_209 : px_cw 209 := rfl
set_option maxRecDepth 100000 in
theorem px_cw_210 : px_cw 210 := rfl
set_option maxRecDepth 100000 in
theorem px_cw_211 : px_cw 211 := rfl
set_option maxRecDepth 100000 in
theorem px_cw_212 : px_cw 212 := rfl
set_option maxRecDepth 100000 in
theorem px_cw_213 : px_cw 213 := rfl
set_option maxRecDepth 100000 in
theorem px_cw_214 : px_cw 214 := rfl
set_option maxRecDepth 100000 in
theorem px_cw_215 : px_cw 215 := rfl
set_option maxRecDepth 100000 in
theorem px_cw_216 : px_cw 216 := rfl
set_option maxRecDepth 100000 in
theorem px_cw_217 : px_cw 217 := rfl
set_option maxRecDepth 100000 in
theorem px_cw_218 : px_cw 218 := rfl
set_option maxRecDepth 100000 in
theorem px_cw_219 : px_cw 219 := rfl
set_option maxRecDepth 100000 in
theorem px_cw_220 : px_cw 220 := rfl
set_option maxRecDepth 100000 in
theorem px_cw_221 : px_cw 221 := rfl
set_option maxRecDepth 100000 in
theorem px_cw_222 : px_cw 222 := rfl
set_option maxRecDepth 100000 in
theorem px_cw_223 : px_cw 223 := rfl
set_option maxRecDepth 100000 in
theorem px_cw_224 : px_cw 224 := rfl
set_option maxRecDepth 100000 in
theorem px_cw_225 : px_cw 225 := rfl
set_option maxRecDepth 100000 in
theorem px_cw_226 : px_cw 226 := rfl
set_option maxRecDepth 100000 in
theorem px_cw_227 : px_cw 227 := rfl
set_option maxRecDepth 100000 in
theorem px_cw_228 : px_cw 228 := rfl
set_option maxRecDepth 100000 in
theorem px_cw_229 : px_cw 229 := rfl
set_option maxRecDepth 100000 in
theorem px_cw_230 : px_cw 230 := rfl
set_option maxRecDepth 100000 in
theorem px_cw_231 : px_cw 231 := rfl
set_option maxRecDepth 100000 in
theorem px_cw_232 : px_cw 232 := rfl
set_option maxRecDepth 100000 in
theorem px_cw_233 : px_cw 233 := rfl
set_option maxRecDepth 100000 in
theorem px_cw_234 : px_cw 234 := rfl
set_option maxRecDepth 100000 in
theorem px_cw_235 : px_cw 235 := rfl
set_option maxRecDepth 100000 in
theorem px_cw_236 : px_cw 236 := rfl
set_option maxRecDepth 100000 in
theorem px_cw_237 : px_cw 237 := rfl
set_option maxRecDepth 100000 in
theorem px_cw_238 : px_cw 238 := rfl
set_option maxRecDepth 100000 in
theorem px_cw_239 : px_cw 239 := rfl
set_option maxRecDepth 100000 in
theorem px_cw_240 : px_cw 240 := rfl
set_option maxRecDepth 100000 in
theorem px_cw_241 : px_cw 241 := rfl
set_option maxRecDepth 100000 in
theorem px_cw_242 : px_cw 242 := rfl
set_option maxRecDepth 100000 in
theorem px_cw_243 : px_cw 243 := rfl
set_option maxRecDepth 100000 in
theorem px_cw_244 : px_cw 244 := rfl
set_option maxRecDepth 100000 in
theorem px_cw_245 : px_cw 245 := rfl
set_option maxRecDepth 100000 in
theorem px_cw_246 : px_cw 246 := rfl
set_option maxRecDepth 100000 in
theorem px_cw_247 : px_cw 247 := rfl
set_option maxRecDepth 100000 in
theorem px_cw_248 : px_cw 248 := rfl
set_option maxRecDepth 100000 in
theorem px_cw_249 : px_cw 249 := rfl
set_option maxRecDepth 100000 in
theorem px_cw_250 : px_cw 250 := rfl
set_option maxRecDepth 100000 in
theorem px_cw_251 : px_cw 251 := rfl
set_option maxRecDepth 100000 in
theorem px_cw_252 : px_cw 252 := rfl
set_option maxRecDepth 100000 in
theorem px_cw_253 : px_cw 253 := rfl
set_option maxRecDepth 100000 in
theorem px_cw_254 : px_cw 254 := rfl
set_option maxRecDepth 100000 in
theorem px_cw_255 : px_cw 255 := rfl
set_option maxRecDepth 100000 in
theorem px_cw_256 : px_cw 256 := rfl
set_option maxRecDepth 100000 in
theorem px_cw_257 : px_cw 257 := rfl
set_option maxRecDepth 100000 in
theorem px_cw_258 : px_cw 258 := rfl
set_option maxRecDepth 100000 in
theorem px_cw_259 : px_cw 259 := rfl
set_option maxRecDepth 100000 in
theorem px_cw_260 : px_cw 260 := rfl
set_option maxRecDepth 100000 in
theorem px_cw_261 : px_cw 261 := rfl
set_option maxRecDepth 100000 in
theorem px_cw_262 : px_cw 262 := rfl
set_option maxRecDepth 100000 in
theorem px_cw_263 : px_cw 263 := rfl
set_option maxRecDepth 100000 in
theorem px_cw_264 : px_cw 264 := rfl
set_option maxRecDepth 100000 in
theorem px_cw_265 : px_cw 265 := rfl
set_option maxRecDepth 100000 in
theorem px_cw_266 : px_cw 266 := rfl
set_option maxRecDepth 100000 in
theorem px_cw_267 : px_cw 267 := rfl
set_option maxRecDepth 100000 in
theorem px_cw_268 : px_cw 268 := rfl
set_option maxRecDepth 100000 in
theorem px_cw_269 : px_cw 269 := rfl
set_option maxRecDepth 100000 in
theorem px_cw_270 : px_cw 270 := rfl
set_option maxRecDepth 100000 in
theorem px_cw_271 : px_cw 271 := rfl
set_option maxRecDepth 100000 in
theorem px_cw_272 : px_cw 272 := rfl
set_option maxRecDepth 100000 in
theorem px_cw_273 : px_cw 273 := rfl
set_option maxRecDepth 100000 in
theorem px_cw_274 : px_cw 274 := rfl
set_option maxRecDepth 100000 in
theorem px_cw_275 : px_cw 275 := rfl
set_option maxRecDepth 100000 in
theorem px_cw_276 : px_cw 276 := rfl
set_option maxRecDepth 100000 in
theorem px_cw_277 : px_cw 277 := rfl
set_option maxRecDepth 100000 in
theorem px_cw_278 : px_cw 278 := rfl
set_option maxRecDepth 100000 in
theorem px_cw_279 : px_cw 279 := rfl
set_option maxRecDepth 100000 in
theorem px_cw_280 : px_cw 280 := rfl
set_option maxRecDepth 100000 in
theorem px_cw_281 : px_cw 281 := rfl
set_option maxRecDepth 100000 in
theorem px_cw_282 : px_cw 282 := rfl
set_option maxRecDepth 100000 in
theorem px_cw_283 : px_cw 283 := rfl
set_option maxRecDepth 100000 in
theorem px_cw_284 : px_cw 284 := rfl
set_option maxRecDepth 100000 in
theorem px_cw_285 : px_cw 285 := rfl
set_option maxRecDepth 100000 in
theorem px_cw_286 : px_cw 286 := rfl
set_option maxRecDepth 100000 in
theorem px_cw_287 : px_cw 287 := rfl
set_option maxRecDepth 100000 in
theorem px_cw_288 : px_cw 288 := rfl
set_option maxRecDepth 100000 in
theorem px_cw_289 : px_cw 289 := rfl
set_option maxRecDepth 100000 in
theorem px_cw_290 : px_cw 290 := rfl
set_option maxRecDepth 100000 in
theorem px_cw_291 : px_cw 291 := rfl
set_option maxRecDepth 100000 in
theorem px_cw_292 : px_cw 292 := rfl
set_option maxRecDepth 100000 in
theorem px_cw_293 : px_cw 293 := rfl
set_option maxRecDepth 100000 in
theorem px_cw_294 : px_cw 294 := rfl
set_option maxRecDepth 100000 in
theorem px_cw_295 : px_cw 295 := rfl
set_option maxRecDepth 100000 in
theorem px_cw_296 : px_cw 296 := rfl
set_option maxRecDepth 100000 in
theorem px_cw_297 : px_cw 297 := rfl
set_option maxRecDepth 100000 in
theorem px_cw_298 : px_cw 298 := rfl
set_option maxRecDepth 100000 in
theorem px_cw_299 : px_cw 299 := rfl
set_option maxRecDepth 100000 in
theorem px_cw_300 : px_cw 300 := rfl
set_option maxRecDepth 100000 in
theorem px_cw_301 : px_cw 301 := rfl
set_option maxRecDepth 100000 in
theorem px_cw_302 : px_cw 302 := rfl
set_option maxRecDepth 100000 in
theorem px_cw_303 : px_cw 303 := rfl
set_option maxRecDepth 100000 in
theorem px_cw_304 : px_cw 304 := rfl
set_option maxRecDepth 10000 in
theorem px_cwA0 : ∀ t ∈ List.range' 1 40, px_cw t := List.forall_mem_cons.mpr ⟨px_cw_1, List.forall_mem_cons.mpr ⟨px_cw_2, List.forall_mem_cons.mpr ⟨px_cw_3, List.forall_mem_cons.mpr ⟨px_cw_4, List.forall_mem_cons.mpr ⟨px_cw_5, List.forall_mem_cons.mpr ⟨px_cw_6, List.forall_mem_cons.mpr ⟨px_cw_7, List.forall_mem_cons.mpr ⟨px_cw_8, List.forall_mem_cons.mpr ⟨px_cw_9, List.forall_mem_cons.mpr ⟨px_cw_10, List.forall_mem_cons.mpr ⟨px_cw_11, List.forall_mem_cons.mpr ⟨px_cw_12, List.forall_mem_cons.mpr ⟨px_cw_13, List.forall_mem_cons.mpr ⟨px_cw_14, List.forall_mem_cons.mpr ⟨px_cw_15, List.forall_mem_cons.mpr ⟨px_cw_16, List.forall_mem_cons.mpr ⟨px_cw_17, List.forall_mem_cons.mpr ⟨px_cw_18, List.forall_mem_cons.mpr ⟨px_cw_19, List.forall_mem_cons.mpr ⟨px_cw_20, List.forall_mem_cons.mpr ⟨px_cw_21, List.forall_mem_cons.mpr ⟨px_cw_22, List.forall_mem_cons.mpr ⟨px_cw_23, List.forall_mem_cons.mpr ⟨px_cw_24, List.forall_mem_cons.mpr ⟨px_cw_25, List.forall_mem_cons.mpr ⟨px_cw_26, List.forall_mem_cons.mpr ⟨px_cw_27, List.forall_mem_cons.mpr ⟨px_cw_28, List.forall_mem_cons.mpr ⟨px_cw_29, List.forall_mem_cons.mpr ⟨px_cw_30, List.forall_mem_cons.mpr ⟨px_cw_31, List.forall_mem_cons.mpr ⟨px_cw_32, List.forall_mem_cons.mpr ⟨px_cw_33, List.forall_mem_cons.mpr ⟨px_cw_34, List.forall_mem_cons.mpr ⟨px_cw_35, List.forall_mem_cons.mpr ⟨px_cw_36, List.forall_mem_cons.mpr ⟨px_cw_37, List.forall_mem_cons.mpr ⟨px_cw_38, List.forall_mem_cons.mpr ⟨px_cw_39, List.forall_mem_cons.mpr ⟨px_cw_40, fun _ h => absurd h List.not_mem_nil⟩⟩⟩⟩⟩⟩⟩⟩⟩⟩⟩⟩⟩⟩⟩⟩⟩⟩⟩⟩⟩⟩⟩⟩⟩⟩⟩⟩⟩⟩⟩⟩⟩⟩⟩⟩⟩⟩⟩⟩
set_option maxRecDepth 10000 in
theorem px_cwA1 : ∀ t ∈ List.range' 41 40, px_cw t := List.forall_mem_cons.mpr ⟨px_cw_41, List.forall_mem_cons.mpr ⟨px_cw_42, List.forall_mem_cons.mpr ⟨px_cw_43, List.forall_mem_cons.mpr ⟨px_cw_44, List.forall_mem_cons.mpr ⟨px_cw_45, List.forall_mem_cons.mpr ⟨px_cw_46, List.forall_mem_cons.mpr ⟨px_cw_47, List.forall_mem_cons.mpr ⟨px_cw_48, List.forall_mem_cons.mpr ⟨px_cw_49, List.forall_mem_cons.mpr ⟨px_cw_50, List.forall_mem_cons.mpr ⟨px_cw_51, List.forall_mem_cons.mpr ⟨px_cw_52, List.forall_mem_cons.mpr ⟨px_cw_53, List.forall_mem_cons.mpr ⟨px_cw_54, List.forall_mem_cons.mpr ⟨px_cw_55, List.forall_mem_cons.mpr ⟨px_cw_56, List.forall_mem_cons.mpr ⟨px_cw_57, List.forall_mem_cons.mpr ⟨px_cw_58, List.forall_mem_cons.mpr ⟨px_cw_59, List.forall_mem_cons.mpr ⟨px_cw_60, List.forall_mem_cons.mpr ⟨px_cw_61, List.forall_mem_cons.mpr ⟨px_cw_62, List.forall_mem_cons.mpr ⟨px_cw_63, List.forall_mem_cons.mpr ⟨px_cw_64, List.forall_mem_cons.mpr ⟨px_cw_65, List.forall_mem_cons.mpr ⟨px_cw_66, List.forall_mem_cons.mpr ⟨px_cw_67, List.forall_mem_cons.mpr ⟨px_cw_68, List.forall_mem_cons.mpr ⟨px_cw_69, List.forall_mem_cons.mpr ⟨px_cw_70, List.forall_mem_cons.mpr ⟨px_cw_71, List.forall_mem_cons.mpr ⟨px_cw_72, List.forall_mem_cons.mpr ⟨px_cw_73, List.forall_mem_cons.mpr ⟨px_cw_74, List.forall_mem_cons.mpr ⟨px_cw_75, List.forall_mem_cons.mpr ⟨px_cw_76, List.forall_mem_cons.mpr ⟨px_cw_77, List.forall_mem_cons.mpr ⟨px_cw_78, List.forall_mem_cons.mpr ⟨px_cw_79, List.forall_mem_cons.mpr ⟨px_cw_80, fun _ h => absurd h List.not_mem_nil⟩⟩⟩⟩⟩⟩⟩⟩⟩⟩⟩⟩⟩⟩⟩⟩⟩⟩⟩⟩⟩⟩⟩⟩⟩⟩⟩⟩⟩⟩⟩⟩⟩⟩⟩⟩⟩⟩⟩⟩
set_option maxRecDepth 10000 in
theorem px_cwA2 : ∀ t ∈ List.range' 81 40, px_cw t := List.forall_mem_cons.mpr ⟨px_cw_81, List.forall_mem_cons.mpr ⟨px_cw_82, List.forall_mem_cons.mpr ⟨px_cw_83, List.forall_mem_cons.mpr ⟨px_cw_84, List.forall_mem_cons.mpr ⟨px_cw_85, List.forall_mem_cons.mpr ⟨px_cw_86, List.forall_mem_cons.mpr ⟨px_cw_87, List.forall_mem_cons.mpr ⟨px_cw_88, List.forall_mem_cons.mpr ⟨px_cw_89, List.forall_mem_cons.mpr ⟨px_cw_90, List.forall_mem_cons.mpr ⟨px_cw_91, List.forall_mem_cons.mpr ⟨px_cw_92, List.forall_mem_cons.mpr ⟨px_cw_93, List.forall_mem_cons.mpr ⟨px_cw_94, List.forall_mem_cons.mpr ⟨px_cw_95, List.forall_mem_cons.mpr ⟨px_cw_96, List.forall_mem_cons.mpr ⟨px_cw_97, List.forall_mem_cons.mpr ⟨px_cw_98, List.forall_mem_cons.mpr ⟨px_cw_99, List.forall_mem_cons.mpr ⟨px_cw_100, List.forall_mem_cons.mpr ⟨px_cw_101, List.forall_mem_cons.mpr ⟨px_cw_102, List.forall_mem_cons.mpr ⟨px_cw_103, List.forall_mem_cons.mpr ⟨px_cw_104, List.forall_mem_cons.mpr ⟨px_cw_105, List.forall_mem_cons.mpr ⟨px_cw_106, List.forall_mem_cons.mpr ⟨px_cw_107, List.forall_mem_cons.mpr ⟨px_cw_108, List.forall_mem_cons.mpr ⟨px_cw_109, List.forall_mem_cons.mpr ⟨px_cw_110, List.forall_mem_cons.mpr ⟨px_cw_111, List.forall_mem_cons.mpr ⟨px_cw_112, List.forall_mem_cons.mpr ⟨px_cw_113, List.forall_mem_cons.mpr ⟨px_cw_114, List.forall_mem_cons.mpr ⟨px_cw_115, List.forall_mem_cons.mpr ⟨px_cw_116, List.forall_mem_cons.mpr ⟨px_cw_117, List.forall_mem_cons.mpr ⟨px_cw_118, List.forall_mem_cons.mpr ⟨px_cw_119, List.forall_mem_cons.mpr ⟨px_cw_120, fun _ h => absurd h List.not_mem_nil⟩⟩⟩⟩⟩⟩⟩⟩⟩⟩⟩⟩⟩⟩⟩⟩⟩⟩⟩⟩⟩⟩⟩⟩⟩⟩⟩⟩⟩⟩⟩⟩⟩⟩⟩⟩⟩⟩⟩⟩
set_option maxRecDepth 10000 in
theorem px_cwA3 : ∀ t ∈ List.range' 121 40, px_cw t := List.forall_mem_cons.mpr ⟨px_cw_121, List.forall_mem_cons.mpr ⟨px_cw_122, List.forall_mem_cons.mpr ⟨px_cw_123, List.forall_mem_cons.mpr ⟨px_cw_124, List.forall_mem_cons.mpr ⟨px_cw_125, List.forall_mem_cons.mpr ⟨px_cw_126, List.forall_mem_cons.mpr ⟨px_cw_127, List.forall_mem_cons.mpr ⟨px_cw_128, List.forall_mem_cons.mpr ⟨px_cw_129, List.forall_mem_cons.mpr ⟨px_cw_130, List.forall_mem_cons.mpr ⟨px_cw_131, List.forall_mem_cons.mpr ⟨px_cw_132, List.forall_mem_cons.mpr ⟨px_cw_133, List.forall_mem_cons.mpr ⟨px_cw_134, List.forall_mem_cons.mpr ⟨px_cw_135, List.forall_mem_cons.mpr ⟨px_cw_136, List.forall_mem_cons.mpr ⟨px_cw_137, List.forall_mem_cons.mpr ⟨px_cw_138, List.forall_mem_cons.mpr ⟨px_cw_139, List.forall_mem_cons.mpr ⟨px_cw_140, List.forall_mem_cons.mpr ⟨px_cw_141, List.forall_mem_cons.mpr ⟨px_cw_142, List.forall_mem_cons.mpr ⟨px_cw_143, List.forall_mem_cons.mpr ⟨px_cw_144, List.forall_mem_cons.mpr ⟨px_cw_145, List.forall_mem_cons.mpr ⟨px_cw_146, List.forall_mem_cons.mpr ⟨px_cw_147, List.forall_mem_cons.mpr ⟨px_cw_148, List.forall_mem_cons.mpr ⟨px_cw_149, List.forall_mem_cons.mpr ⟨px_cw_150, List.forall_mem_cons.mpr ⟨px_cw_151, List.forall_mem_cons.mpr ⟨px_cw_152, List.forall_mem_cons.mpr ⟨px_cw_153, List.forall_mem_cons.mpr ⟨px_cw_154, List.forall_mem_cons.mpr ⟨px_cw_155, List.forall_mem_cons.mpr ⟨px_cw_156, List.forall_mem_cons.mpr ⟨px_cw_157, List.forall_mem_cons.mpr ⟨px_cw_158, List.forall_mem_cons.mpr ⟨px_cw_159, List.forall_mem_cons.mpr ⟨px_cw_160, fun _ h => absurd h List.not_mem_nil⟩⟩⟩⟩⟩⟩⟩⟩⟩⟩⟩⟩⟩⟩⟩⟩⟩⟩⟩⟩⟩⟩⟩⟩⟩⟩⟩⟩⟩⟩⟩⟩⟩⟩⟩⟩⟩⟩⟩⟩
set_option maxRecDepth 10000 in
theorem px_cwA4 : ∀ t ∈ List.range' 161 40, px_cw t := List.forall_mem_cons.mpr ⟨px_cw_161, List.forall_mem_cons.mpr ⟨px_cw_162, List.forall_mem_cons.mpr ⟨px_cw_163, List.forall_mem_cons.mpr ⟨px_cw_164, List.forall_mem_cons.mpr ⟨px_cw_165, List.forall_mem_cons.mpr ⟨px_cw_166, List.forall_mem_cons.mpr ⟨px_cw_167, List.forall_mem_cons.mpr ⟨px_cw_168, List.forall_mem_cons.mpr ⟨px_cw_169, List.forall_mem_cons.mpr ⟨px_cw_170, List.forall_mem_cons.mpr ⟨px_cw_171, List.forall_mem_cons.mpr ⟨px_cw_172, List.forall_mem_cons.mpr ⟨px_cw_173, List.forall_mem_cons.mpr ⟨px_cw_174, List.forall_mem_cons.mpr ⟨px_cw_175, List.forall_mem_cons.mpr ⟨px_cw_176, List.forall_mem_cons.mpr ⟨px_cw_177, List.forall_mem_cons.mpr ⟨px_cw_178, List.forall_mem_cons.mpr ⟨px_cw_179, List.forall_mem_cons.mpr ⟨px_cw_180, List.forall_mem_cons.mpr ⟨px_cw_181, List.forall_mem_cons.mpr ⟨px_cw_182, List.forall_mem_cons.mpr ⟨px_cw_183, List.forall_mem_cons.mpr ⟨px_cw_184, List.forall_mem_cons.mpr ⟨px_cw_185, List.forall_mem_cons.mpr ⟨px_cw_186, List.forall_mem_cons.mpr ⟨px_cw_187, List.forall_mem_cons.mpr ⟨px_cw_188, List.forall_mem_cons.mpr ⟨px_cw_189, List.forall_mem_cons.mpr ⟨px_cw_190, List.forall_mem_cons.mpr ⟨px_cw_191, List.forall_mem_cons.mpr ⟨px_cw_192, List.forall_mem_cons.mpr ⟨px_cw_193, List.forall_mem_cons.mpr ⟨px_cw_194, List.forall_mem_cons.mpr ⟨px_cw_195, List.forall_mem_cons.mpr ⟨px_cw_196, List.forall_mem_cons.mpr ⟨px_cw_197, List.forall_mem_cons.mpr ⟨px_cw_198, List.forall_mem_cons.mpr ⟨px_cw_199, List.forall_mem_cons.mpr ⟨px_cw_200, fun _ h => absurd h List.not_mem_nil⟩⟩⟩⟩⟩⟩⟩⟩⟩⟩⟩⟩⟩⟩⟩⟩⟩⟩⟩⟩⟩⟩⟩⟩⟩⟩⟩⟩⟩⟩⟩⟩⟩⟩⟩⟩⟩⟩⟩⟩
set_option maxRecDepth 10000 in
theorem px_cwA5 : ∀ t ∈ List.range' 201 40, px_cw t := List.forall_mem_cons.mpr ⟨px_cw_201, List.forall_mem_cons.mpr ⟨px_cw_202, List.forall_mem_cons.mpr ⟨px_cw_203, List.forall_mem_cons.mpr ⟨px_cw_204, List.forall_mem_cons.mpr ⟨px_cw_205, List.forall_mem_cons.mpr ⟨px_cw_206, List.forall_mem_cons.mpr ⟨px_cw_207, List.forall_mem_cons.mpr ⟨px_cw_208, List.forall_mem_cons.mpr ⟨px_cw_209, List.forall_mem_cons.mpr ⟨px_cw_210, List.forall_mem_cons.mpr ⟨px_cw_211, List.forall_mem_cons.mpr ⟨px_cw_212, List.forall_mem_cons.mpr ⟨px_cw_213, List.forall_mem_cons.mpr ⟨px_cw_214, List.forall_mem_cons.mpr ⟨px_cw_215, List.forall_mem_cons.mpr ⟨px_cw_216, List.forall_mem_cons.mpr ⟨px_cw_217, List.forall_mem_cons.mpr ⟨px_cw_218, List.forall_mem_cons.mpr ⟨px_cw_219, List.forall_mem_cons.mpr ⟨px_cw_220, List.forall_mem_cons.mpr ⟨px_cw_221, List.forall_mem_cons.mpr ⟨px_cw_222, List.forall_mem_cons.mpr ⟨px_cw_223, List.forall_mem_cons.mpr ⟨px_cw_224, List.forall_mem_cons.mpr ⟨px_cw_225, List.forall_mem_cons.mpr ⟨px_cw_226, List.forall_mem_cons.mpr ⟨px_cw_227, List.forall_mem_cons.mpr ⟨px_cw_228, List.forall_mem_cons.mpr ⟨px_cw_229, List.forall_mem_cons.mpr ⟨px_cw_230, List.forall_mem_cons.mpr ⟨px_cw_231, List.forall_mem_cons.mpr ⟨px_cw_232, List.forall_mem_cons.mpr ⟨px_cw_233, List.forall_mem_cons.mpr ⟨px_cw_234, List.forall_mem_cons.mpr ⟨px_cw_235, List.forall_mem_cons.mpr ⟨px_cw_236, List.forall_mem_cons.mpr ⟨px_cw_237, List.forall_mem_cons.mpr ⟨px_cw_238, List.forall_mem_cons.mpr ⟨px_cw_239, List.forall_mem_cons.mpr ⟨px_cw_240, fun _ h => absurd h List.not_mem_nil⟩⟩⟩⟩⟩⟩⟩⟩⟩⟩⟩⟩⟩⟩⟩⟩⟩⟩⟩⟩⟩⟩⟩⟩⟩⟩⟩⟩⟩⟩⟩⟩⟩⟩⟩⟩⟩⟩⟩⟩
set_option maxRecDepth 10000 in
theorem px_cwA6 : ∀ t ∈ List.range' 241 40, px_cw t := List.forall_mem_cons.mpr ⟨px_cw_241, List.forall_mem_cons.mpr ⟨px_cw_242, List.forall_mem_cons.mpr ⟨px_cw_243, List.forall_mem_cons.mpr ⟨px_cw_244, List.forall_mem_cons.mpr ⟨px_cw_245, List.forall_mem_cons.mpr ⟨px_cw_246, List.forall_mem_cons.mpr ⟨px_cw_247, List.forall_mem_cons.mpr ⟨px_cw_248, List.forall_mem_cons.mpr ⟨px_cw_249, List.forall_mem_cons.mpr ⟨px_cw_250, List.forall_mem_cons.mpr ⟨px_cw_251, List.forall_mem_cons.mpr ⟨px_cw_252, List.forall_mem_cons.mpr ⟨px_cw_253, List.forall_mem_cons.mpr ⟨px_cw_254, List.forall_mem_cons.mpr ⟨px_cw_255, List.forall_mem_cons.mpr ⟨px_cw_256, List.forall_mem_cons.mpr ⟨px_cw_257, List.forall_mem_cons.mpr ⟨px_cw_258, List.forall_mem_cons.mpr ⟨px_cw_259, List.forall_mem_cons.mpr ⟨px_cw_260, List.forall_mem_cons.mpr ⟨px_cw_261, List.forall_mem_cons.mpr ⟨px_cw_262, List.forall_mem_cons.mpr ⟨px_cw_263, List.forall_mem_cons.mpr ⟨px_cw_264, List.forall_mem_cons.mpr ⟨px_cw_265, List.forall_mem_cons.mpr ⟨px_cw_266, List.forall_mem_cons.mpr ⟨px_cw_267, List.forall_mem_cons.mpr ⟨px_cw_268, List.forall_mem_cons.mpr ⟨px_cw_269, List.forall_mem_cons.mpr ⟨px_cw_270, List.forall_mem_cons.mpr ⟨px_cw_271, List.forall_mem_cons.mpr ⟨px_cw_272, List.forall_mem_cons.mpr ⟨px_cw_273, List.forall_mem_cons.mpr ⟨px_cw_274, List.forall_mem_cons.mpr ⟨px_cw_275, List.forall_mem_cons.mpr ⟨px_cw_276, List.forall_mem_cons.mpr ⟨px_cw_277, List.forall_mem_cons.mpr ⟨px_cw_278, List.forall_mem_cons.mpr ⟨px_cw_279, List.forall_mem_cons.mpr ⟨px_cw_280, fun _ h => absurd h List.not_mem_nil⟩⟩⟩⟩⟩⟩⟩⟩⟩⟩⟩⟩⟩⟩⟩⟩⟩⟩⟩⟩⟩⟩⟩⟩⟩⟩⟩⟩⟩⟩⟩⟩⟩⟩⟩⟩⟩⟩⟩⟩
set_option maxRecDepth 10000 in
theorem px_cwA7 : ∀ t ∈ List.range' 281 24, px_cw t := List.forall_mem_cons.mpr ⟨px_cw_281, List.forall_mem_cons.mpr ⟨px_cw_282, List.forall_mem_cons.mpr ⟨px_cw_283, List.forall_mem_cons.mpr ⟨px_cw_284, List.forall_mem_cons.mpr ⟨px_cw_285, List.forall_mem_cons.mpr ⟨px_cw_286, List.forall_mem_cons.mpr ⟨px_cw_287, List.forall_mem_cons.mpr ⟨px_cw_288, List.forall_mem_cons.mpr ⟨px_cw_289, List.forall_mem_cons.mpr ⟨px_cw_290, List.forall_mem_cons.mpr ⟨px_cw_291, List.forall_mem_cons.mpr ⟨px_cw_292, List.forall_mem_cons.mpr ⟨px_cw_293, List.forall_mem_cons.mpr ⟨px_cw_294, List.forall_mem_cons.mpr ⟨px_cw_295, List.forall_mem_cons.mpr ⟨px_cw_296, List.forall_mem_cons.mpr ⟨px_cw_297, List.forall_mem_cons.mpr ⟨px_cw_298, List.forall_mem_cons.mpr ⟨px_cw_299, List.forall_mem_cons.mpr ⟨px_cw_300, List.forall_mem_cons.mpr ⟨px_cw_301, List.forall_mem_cons.mpr ⟨px_cw_302, List.forall_mem_cons.mpr ⟨px_cw_303, List.forall_mem_cons.mpr ⟨px_cw_304, fun _ h => absurd h List.not_mem_nil⟩⟩⟩⟩⟩⟩⟩⟩⟩⟩⟩⟩⟩⟩⟩⟩⟩⟩⟩⟩⟩⟩⟩⟩
theorem px_cw_at {t : Nat} (h1 : 1 ≤ t) (h2 : t < 305) : px_cw t := by
  by_cases q0 : t < 41
  · exact px_cwA0 t (List.mem_range'_1.mpr ⟨by omega, by omega⟩)
  by_cases q1 : t < 81
  · exact px_cwA1 t (List.mem_range'_1.mpr ⟨by omega, by omega⟩)
  by_cases q2 : t < 121
  · exact px_cwA2 t (List.mem_range'_1.mpr ⟨by omega, by omega⟩)
  by_cases q3 : t < 161
  · exact px_cwA3 t (List.mem_range'_1.mpr ⟨by omega, by omega⟩)
  by_cases q4 : t < 201
  · exact px_cwA4 t (List.mem_range'_1.mpr ⟨by omega, by omega⟩)
  by_cases q5 : t < 241
  · exact px_cwA5 t (List.mem_range'_1.mpr ⟨by omega, by omega⟩)
  by_cases q6 : t < 281
  · exact px_cwA6 t (List.mem_range'_1.mpr ⟨by omega, by omega⟩)
  by_cases q7 : t < 305
  · exact px_cwA7 t (List.mem_range'_1.mpr ⟨by omega, by omega⟩)
  omega
def px_mok (t : Nat) : Bool :=
  decide (tables_1[(px_mq t).2.1]? = some (.initialized (px_y t).cls)) && plainName (px_y t).cls
  && decide (px_maxL t ≤ 14) && decide (px_cn (px_own t) = (px_y t).cls)
  && (if (px_mq t).2.2.2.1 then decide (tables_1[(px_mq t).2.2.1]? = some (.static (px_y t))) else decide (tables_1[(px_mq t).2.2.1]? = some (.instanceMethod (px_y t))))
  && (if (px_mq t).2.2.2.2.2 then decide (lw_tbl[(px_mq t).2.2.2.2.1]? = some (.selects (px_y t).cls (px_y t) (px_y t))) else true)
  && decide ((px_y t).cls ≠ "java/lang/invoke/MethodHandle") && decide ((px_y t).cls ≠ "java/lang/invoke/VarHandle")
set_option maxRecDepth 100000 in
theorem px_mokA0 : (List.range' 1 40).all px_mok = true := by decide +kernel
set_option maxRecDepth 100000 in
theorem px_mokA1 : (List.range' 41 40).all px_mok = true := by decide +kernel
set_option maxRecDepth 100000 in
theorem px_mokA2 : (List.range' 81 40).all px_mok = true := by decide +kernel
set_option maxRecDepth 100000 in
theorem px_mokA3 : (List.range' 121 40).all px_mok = true := by decide +kernel
set_option maxRecDepth 100000 in
theorem px_mokA4 : (List.range' 161 40).all px_mok = true := by decide +kernel
set_option maxRecDepth 100000 in
theorem px_mokA5 : (List.range' 201 40).all px_mok = true := by decide +kernel
set_option maxRecDepth 100000 in
theorem px_mokA6 : (List.range' 241 40).all px_mok = true := by decide +kernel
set_option maxRecDepth 100000 in
theorem px_mokA7 : (List.range' 281 24).all px_mok = true := by decide +kernel
theorem px_mok_at {t : Nat} (h1 : 1 ≤ t) (h2 : t < 305) : px_mok t = true := by
  by_cases q0 : t < 41
  · exact List.all_eq_true.mp px_mokA0 t (List.mem_range'_1.mpr ⟨by omega, by omega⟩)
  by_cases q1 : t < 81
  · exact List.all_eq_true.mp px_mokA1 t (List.mem_range'_1.mpr ⟨by omega, by omega⟩)
  by_cases q2 : t < 121
  · exact List.all_eq_true.mp px_mokA2 t (List.mem_range'_1.mpr ⟨by omega, by omega⟩)
  by_cases q3 : t < 161
  · exact List.all_eq_true.mp px_mokA3 t (List.mem_range'_1.mpr ⟨by omega, by omega⟩)
  by_cases q4 : t < 201
  · exact List.all_eq_true.mp px_mokA4 t (List.mem_range'_1.mpr ⟨by omega, by omega⟩)
  by_cases q5 : t < 241
  · exact List.all_eq_true.mp px_mokA5 t (List.mem_range'_1.mpr ⟨by omega, by omega⟩)
  by_cases q6 : t < 281
  · exact List.all_eq_true.mp px_mokA6 t (List.mem_range'_1.mpr ⟨by omega, by omega⟩)
  by_cases q7 : t < 305
  · exact List.all_eq_true.mp px_mokA7 t (List.mem_range'_1.mpr ⟨by omega, by omega⟩)
  omega
def px_cok (q : Nat × Nat × Nat × Nat × Nat × Nat) : Bool :=
  if q.2.2.1 = 0 then decide (tables_1[q.2.2.2.2.2]? = some (.methodLink (px_cn q.1) q.2.1 objectInit))
  else if q.2.2.1 = 1 then decide (tables_1[q.2.2.2.2.2]? = some (.methodLink (px_cn q.1) q.2.1 arraycopyName))
  else if q.2.2.1 = 2 then decide (tables_1[q.2.2.2.2.2]? = some (.methodLink (px_cn q.1) q.2.1 (if q.2.2.2.1 = 0 then Lib.Math.max.name else if q.2.2.2.1 = 1 then Lib.Math.min.name else Lib.Math.abs.name)))
  else decide (1 ≤ q.2.2.2.1) && decide (q.2.2.2.1 < 305) && decide ((parseMethodDescriptor (px_y q.2.2.2.1).desc).map (fun d => d.parameters.length) = some q.2.2.2.2.1)
    && (if q.2.2.1 = 4 ∨ q.2.2.1 = 6 then decide (tables_1[q.2.2.2.2.2]? = some (.methodLinkNest (px_cn q.1) q.2.1 (px_y q.2.2.2.1) "SermonPanes")) else decide (tables_1[q.2.2.2.2.2]? = some (.methodLink (px_cn q.1) q.2.1 (px_y q.2.2.2.1))))
    && (if q.2.2.1 = 3 ∨ q.2.2.1 = 4 then (px_mq q.2.2.2.1).2.2.2.1 else (!(px_mq q.2.2.2.1).2.2.2.1))
    && (if q.2.2.1 = 5 ∨ q.2.2.1 = 6 then decide ((px_y q.2.2.2.1).name = "<init>") && decide (px_ret q.2.2.2.1 = none) else true)
    && (if q.2.2.1 = 7 then (px_mq q.2.2.2.1).2.2.2.2.2 else true)
set_option maxRecDepth 100000 in
theorem px_ctbA0 : ((px_ctb.drop 0).take 40).all px_cok = true := by decide +kernel
set_option maxRecDepth 100000 in
theorem px_ctbA1 : ((px_ctb.drop 40).take 40).all px_cok = true := by decide +kernel
set_option maxRecDepth 100000 in
theorem px_ctbA2 : ((px_ctb.drop 80).take 40).all px_cok = true := by decide +kernel
set_option maxRecDepth 100000 in
theorem px_ctbA3 : ((px_ctb.drop 120).take 40).all px_cok = true := by decide +kernel
set_option maxRecDepth 100000 in
theorem px_ctbA4 : ((px_ctb.drop 160).take 40).all px_cok = true := by decide +kernel
set_option maxRecDepth 100000 in
theorem px_ctbA5 : ((px_ctb.drop 200).take 40).all px_cok = true := by decide +kernel
set_option maxRecDepth 100000 in
theorem px_ctbA6 : ((px_ctb.drop 240).take 40).all px_cok = true := by decide +kernel
set_option maxRecDepth 100000 in
theorem px_ctbA7 : ((px_ctb.drop 280).take 40).all px_cok = true := by decide +kernel
set_option maxRecDepth 100000 in
theorem px_ctbA8 : ((px_ctb.drop 320).take 40).all px_cok = true := by decide +kernel
set_option maxRecDepth 100000 in
theorem px_ctbA9 : ((px_ctb.drop 360).take 40).all px_cok = true := by decide +kernel
theorem px_ctb_ok : px_ctb.all px_cok = true := by
  rw [List.all_eq_true]
  intro q hq
  obtain ⟨i, hi⟩ := List.mem_iff_getElem?.mp hq
  have hl : i < 381 := by
    have h0 := (List.getElem?_eq_some_iff.mp hi).1
    rwa [show px_ctb.length = 381 by decide +kernel] at h0
  have key : ∀ d, d ≤ i → i < d + 40 → q ∈ (px_ctb.drop d).take 40 := by
    intro d h1 h2
    refine List.mem_iff_getElem?.mpr ⟨i - d, ?_⟩
    rw [List.getElem?_take_of_lt (by omega), List.getElem?_drop, show d + (i - d) = i by omega, hi]
  by_cases q0 : i < 40
  · exact List.all_eq_true.mp px_ctbA0 q (key 0 (by omega) (by omega))
  by_cases q1 : i < 80
  · exact List.all_eq_true.mp px_ctbA1 q (key 40 (by omega) (by omega))
  by_cases q2 : i < 120
  · exact List.all_eq_true.mp px_ctbA2 q (key 80 (by omega) (by omega))
  by_cases q3 : i < 160
  · exact List.all_eq_true.mp px_ctbA3 q (key 120 (by omega) (by omega))
  by_cases q4 : i < 200
  · exact List.all_eq_true.mp px_ctbA4 q (key 160 (by omega) (by omega))
  by_cases q5 : i < 240
  · exact List.all_eq_true.mp px_ctbA5 q (key 200 (by omega) (by omega))
  by_cases q6 : i < 280
  · exact List.all_eq_true.mp px_ctbA6 q (key 240 (by omega) (by omega))
  by_cases q7 : i < 320
  · exact List.all_eq_true.mp px_ctbA7 q (key 280 (by omega) (by omega))
  by_cases q8 : i < 360
  · exact List.all_eq_true.mp px_ctbA8 q (key 320 (by omega) (by omega))
  by_cases q9 : i < 400
  · exact List.all_eq_true.mp px_ctbA9 q (key 360 (by omega) (by omega))
  omega
theorem px_ct_ok {o i kd t n : Nat} (h : px_ct o i = some (kd, t, n)) : ∃ pos, px_cok (o, i, kd, t, n, pos) = true := by
  unfold px_ct at h
  cases hf : px_ctb.find? (fun q => q.1 == o && q.2.1 == i) with
  | none => rw [hf] at h; cases h
  | some q =>
    rw [hf] at h
    have h1 := List.find?_some hf
    have h2 := List.all_eq_true.mp px_ctb_ok q (List.mem_of_find?_eq_some hf)
    simp only [Bool.and_eq_true, beq_iff_eq] at h1
    obtain ⟨a, b, c, d, e, f⟩ := q
    simp only at h1
    obtain ⟨rfl, rfl⟩ := h1
    simp only [Option.map_some, Option.some.injEq, Prod.mk.injEq] at h
    obtain ⟨rfl, rfl, rfl⟩ := h
    exact ⟨f, h2⟩
/-- what is known of a method that is called -/
theorem px_meth_ok {t : Nat} (h1 : 1 ≤ t) (h2 : t < 305) : Cond.code (px_y t) (px_code t) (px_maxL t) (px_ret t) ∈ px_gw ∧ Cond.initialized (px_y t).cls ∈ px_gw ∧ plainName (px_y t).cls = true ∧ px_maxL t ≤ 14 ∧ px_cn (px_own t) = (px_y t).cls ∧ ((px_y t).cls ≠ "java/lang/invoke/MethodHandle" ∧ (px_y t).cls ≠ "java/lang/invoke/VarHandle") ∧ ((px_mq t).2.2.2.1 = true → Cond.static (px_y t) ∈ px_gw) ∧ ((px_mq t).2.2.2.1 = false → Cond.instanceMethod (px_y t) ∈ px_gw) ∧ ((px_mq t).2.2.2.2.2 = true → Cond.selects (px_y t).cls (px_y t) (px_y t) ∈ px_gw) := by
  have h := px_mok_at h1 h2
  unfold px_mok at h
  simp only [Bool.and_eq_true, decide_eq_true_eq] at h
  obtain ⟨⟨⟨⟨⟨⟨⟨a2, a3⟩, a4⟩, a5⟩, a6⟩, a7⟩, a8⟩, a9⟩ := h
  refine ⟨px_gw_at (px_cw_at h1 h2) rfl, px_gw_at a2 rfl, a3, a4, a5, ⟨a8, a9⟩, fun z => ?_, fun z => ?_, fun z => ?_⟩
  · rw [if_pos z] at a6; exact px_gw_at (of_decide_eq_true a6) rfl
  · rw [if_neg (by rw [z]; decide)] at a6; exact px_gw_at (of_decide_eq_true a6) rfl
  · rw [if_pos z] at a7; exact px_gw_in (List.mem_of_getElem? (of_decide_eq_true a7)) rfl
set_option maxRecDepth 100000 in
theorem px_ktb_ok : px_ktb.all (fun q => decide (tables_1[q.2.2.2]? = some (.constant (px_cn q.1) q.2.1 (iI q.2.2.1)))) = true := by decide +kernel
set_option maxRecDepth 100000 in
theorem px_k2tb_ok : px_k2tb.all (fun q => decide (tables_1[q.2.2.2]? = some (.constantLong (px_cn q.1) q.2.1 (lI q.2.2.1)))) = true := by decide +kernel
set_option maxRecDepth 100000 in
theorem px_cltb_ok : px_cltb.all (fun q => decide (tables_1[q.2.2.2]? = some (.classLink (px_cn q.1) q.2.1 (px_cn q.2.2.1)))) = true := by decide +kernel
set_option maxRecDepth 100000 in
theorem px_stb_ok : px_stb.all (fun q => decide (tables_1[q.2.2.2]? = some (.stringRef (px_cn q.1) q.2.1 q.2.2.1))) = true := by decide +kernel
theorem px_kc_ok {o i : Nat} {v : Int} (h : px_kc o i = some v) : Cond.constant (px_cn o) i (iI v) ∈ px_gw := by
  unfold px_kc at h
  cases hf : px_ktb.find? (fun q => q.1 == o && q.2.1 == i) with
  | none => rw [hf] at h; cases h
  | some q =>
    rw [hf] at h
    have h1 := List.find?_some hf
    have h2 := List.all_eq_true.mp px_ktb_ok q (List.mem_of_find?_eq_some hf)
    simp only [Bool.and_eq_true, beq_iff_eq] at h1
    obtain ⟨rfl, rfl⟩ := h1
    simp only [Option.map_some, Option.some.injEq] at h
    subst h
    exact px_gw_at (of_decide_eq_true h2) rfl
theorem px_k2c_ok {o i : Nat} {v : Int} (h : px_k2c o i = some v) : Cond.constantLong (px_cn o) i (lI v) ∈ px_gw := by
  unfold px_k2c at h
  cases hf : px_k2tb.find? (fun q => q.1 == o && q.2.1 == i) with
  | none => rw [hf] at h; cases h
  | some q =>
    rw [hf] at h
    have h1 := List.find?_some hf
    have h2 := List.all_eq_true.mp px_k2tb_ok q (List.mem_of_find?_eq_some hf)
    simp only [Bool.and_eq_true, beq_iff_eq] at h1
    obtain ⟨rfl, rfl⟩ := h1
    simp only [Option.map_some, Option.some.injEq] at h
    subst h
    exact px_gw_at (of_decide_eq_true h2) rfl
theorem px_clc_ok {o i v : Nat} (h : px_clc o i = some v) : Cond.classLink (px_cn o) i (px_cn v) ∈ px_gw := by
  unfold px_clc at h
  cases hf : px_cltb.find? (fun q => q.1 == o && q.2.1 == i) with
  | none => rw [hf] at h; cases h
  | some q =>
    rw [hf] at h
    have h1 := List.find?_some hf
    have h2 := List.all_eq_true.mp px_cltb_ok q (List.mem_of_find?_eq_some hf)
    simp only [Bool.and_eq_true, beq_iff_eq] at h1
    obtain ⟨rfl, rfl⟩ := h1
    simp only [Option.map_some, Option.some.injEq] at h
    subst h
    exact px_gw_at (of_decide_eq_true h2) rfl
/-- the classes -/
def px_cl_ok (ci : Nat) : Bool := decide (∀ w ∈ u_ws (px_C ci).1 (px_C ci).2.1 (px_C ci).2.2, w ∈ tables_1) && decide ((px_C ci).1 = px_cn ci) && decide (Cond.instantiable (px_C ci).1 (px_C ci).2.2 ∈ tables_1) && decide (Cond.initialized (px_C ci).1 ∈ tables_1) && decide ((px_tyL.getD ci []).length = (px_C ci).2.2)
set_option maxRecDepth 100000 in
theorem px_cl_all : (List.range 10).all px_cl_ok = true := by decide +kernel
theorem px_cl_at {ci : Nat} (h : ci < 10) : (∀ w ∈ u_ws (px_C ci).1 (px_C ci).2.1 (px_C ci).2.2, w ∈ px_gw) ∧ (px_C ci).1 = px_cn ci ∧ Cond.instantiable (px_C ci).1 (px_C ci).2.2 ∈ px_gw ∧ Cond.initialized (px_C ci).1 ∈ px_gw ∧ (px_tyL.getD ci []).length = (px_C ci).2.2 := by
  have q := List.all_eq_true.mp px_cl_all ci (List.mem_range.mpr h)
  unfold px_cl_ok at q
  simp only [Bool.and_eq_true, decide_eq_true_eq] at q
  obtain ⟨⟨⟨⟨q1, q2⟩, q3⟩, q4⟩, q5⟩ := q
  refine ⟨fun w hw => px_gw_in (List.mem_append_right _ (q1 w hw)) ?_, q2, px_gw_in (List.mem_append_right _ q3) rfl, px_gw_in (List.mem_append_right _ q4) rfl, q5⟩
  obtain ⟨k, -, rfl⟩ := List.mem_map.mp hw
  unfold u_lay
  split <;> rfl
/-- a field's type by its number -/
def px_fty (t : Nat) (ty : FieldType) : Bool := match ty with
  | .int => t == 0
  | .long => t == 1
  | .boolean => t == 3
  | .object _ => t == 2
  | .array _ => t == 2
  | _ => false
def px_Ty (ci k : Nat) : FieldType := ((parseFieldDescriptor ((px_C ci).2.1 k).2.2.1)).getD .int
theorem px_Ty_all : (List.range 10).all (fun ci => (List.range (px_C ci).2.2).all (fun k => (parseFieldDescriptor ((px_C ci).2.1 k).2.2.1).isSome && px_fty (px_ty ci k) (px_Ty ci k))) = true := by decide +kernel
theorem px_Ty_at {ci k : Nat} (h : ci < 10) (hk : k < (px_C ci).2.2) : parseFieldDescriptor ((px_C ci).2.1 k).2.2.1 = some (px_Ty ci k) ∧ px_fty (px_ty ci k) (px_Ty ci k) = true := by
  have q := List.all_eq_true.mp (List.all_eq_true.mp px_Ty_all ci (List.mem_range.mpr h)) k (List.mem_range.mpr hk)
  simp only [Bool.and_eq_true] at q
  refine ⟨?_, q.2⟩
  unfold px_Ty
  cases hp : parseFieldDescriptor ((px_C ci).2.1 k).2.2.1 with
  | none => rw [hp] at q; cases q.1
  | some x => rfl
theorem px_nm_all : (List.range 10).all (fun ci => decide (∀ a, a < (px_C ci).2.2 → ∀ b, b < (px_C ci).2.2 → a ≠ b → ((px_C ci).2.1 a).2.1 ≠ ((px_C ci).2.1 b).2.1)) = true := by decide +kernel
theorem px_nm_at {ci : Nat} (h : ci < 10) : ∀ a, a < (px_C ci).2.2 → ∀ b, b < (px_C ci).2.2 → a ≠ b → ((px_C ci).2.1 a).2.1 ≠ ((px_C ci).2.1 b).2.1 := of_decide_eq_true (List.all_eq_true.mp px_nm_all ci (List.mem_range.mpr h))
theorem px_fin_all : (List.range 10).all (fun ci => (List.range (px_C ci).2.2).all (fun k => decide (((px_C ci).2.1 k).1 = px_cn ci))) = true := by decide +kernel
theorem px_fin_at {ci k : Nat} (h : ci < 10) (hk : k < (px_C ci).2.2) : ((px_C ci).2.1 k).1 = px_cn ci := of_decide_eq_true (List.all_eq_true.mp (List.all_eq_true.mp px_fin_all ci (List.mem_range.mpr h)) k (List.mem_range.mpr hk))
def px_isN : Cond → Bool
  | .methodLinkNest _ _ _ _ => true
  | _ => false
def px_nw : List Cond := tables_1.filter px_isN
