/-! the world: the cells that the two constructors make -/
def px_W0 : List (Nat × Nat) := [(8, 15), (5, 1), (10, 51), (0, 15), (1, 5), (10, 48), (10, 6), (10, 6), (10, 8), (10, 8), (10, 24), (13, 6), (10, 3), (10, 12), (0, 15), (1, 5), (10, 48), (10, 6), (10, 6), (10, 8), (10, 8), (10, 24), (13, 6), (10, 3), (10, 12), (15, 2), (11, 2), (7, 4), (14, 17), (10, 17), (1, 5), (10, 48), (10, 6), (10, 6), (1, 5), (10, 48), (10, 6), (10, 6), (1, 5), (10, 48), (10, 6), (10, 6), (1, 5), (10, 48), (10, 6), (10, 6), (1, 5), (10, 48), (10, 6), (10, 6), (1, 5), (10, 48), (10, 6), (10, 6), (1, 5), (10, 48), (10, 6), (10, 6), (1, 5), (10, 48), (10, 6), (10, 6), (1, 5), (10, 48), (10, 6), (10, 6), (1, 5), (10, 48), (10, 6), (10, 6), (1, 5), (10, 48), (10, 6), (10, 6), (1, 5), (10, 48), (10, 6), (10, 6), (1, 5), (10, 48), (10, 6), (10, 6), (1, 5), (10, 48), (10, 6), (10, 6), (1, 5), (10, 48), (10, 6), (10, 6), (1, 5), (10, 48), (10, 6), (10, 6), (1, 5), (10, 48), (10, 6), (10, 6), (4, 9), (1, 5), (10, 48), (10, 6), (10, 6), (7, 4), (14, 17), (10, 17), (1, 5), (10, 48), (10, 6), (10, 6), (1, 5), (10, 48), (10, 6), (10, 6), (1, 5), (10, 48), (10, 6), (10, 6), (1, 5), (10, 48), (10, 6), (10, 6), (1, 5), (10, 48), (10, 6), (10, 6), (1, 5), (10, 48), (10, 6), (10, 6), (1, 5), (10, 48), (10, 6), (10, 6), (1, 5), (10, 48), (10, 6), (10, 6), (1, 5), (10, 48), (10, 6), (10, 6), (1, 5), (10, 48), (10, 6), (10, 6), (1, 5), (10, 48), (10, 6), (10, 6), (1, 5), (10, 48), (10, 6), (10, 6), (1, 5), (10, 48), (10, 6), (10, 6), (1, 5), (10, 48), (10, 6), (10, 6), (1, 5), (10, 48), (10, 6), (10, 6), (1, 5), (10, 48), (10, 6), (10, 6), (1, 5), (10, 48), (10, 6), (10, 6), (10, 59), (2, 19), (10, 256), (10, 128), (10, 3), (10, 300), (10, 256), (10, 161), (10, 48), (10, 256), (10, 64), (10, 16), (10, 16), (12, 101), (0, 15), (1, 5), (10, 48), (10, 6), (10, 6), (10, 8), (10, 8), (10, 24), (13, 6), (10, 3), (10, 12), (10, 400), (3, 10), (6, 6), (10, 400), (10, 400), (10, 96), (10, 5), (0, 15), (1, 5), (10, 48), (10, 6), (10, 6), (10, 8), (10, 8), (10, 24), (13, 6), (10, 3), (10, 12), (0, 15), (1, 5), (10, 48), (10, 6), (10, 6), (10, 8), (10, 8), (10, 24), (13, 6), (10, 3), (10, 12), (9, 62), (10, 7), (10, 5510), (10, 11020), (11, 2), (10, 1152), (10, 16), (10, 1024), (10, 16), (10, 400), (10, 96), (10, 400), (10, 400), (10, 400), (10, 400), (12, 12), (12, 9), (12, 4), (12, 13), (12, 13), (12, 400), (10, 16), (10, 6), (10, 2700), (10, 3), (10, 128), (10, 161), (10, 48), (10, 7), (10, 6), (10, 28), (10, 16), (12, 21), (12, 5), (10, 96), (10, 64)]
def px_M0L : List (Nat × List (Nat × Nat)) := [(0, [(0, 1), (1, 3), (2, 14), (3, 25), (4, 26), (5, 27), (6, 98), (7, 175), (8, 199), (9, 200), (10, 205)]), (1, [(0, 2)]), (3, [(0, 4), (1, 8), (2, 9), (3, 10), (4, 11), (5, 12), (13, 13), (14, 1)]), (4, [(0, 5), (1, 6), (2, 7)]), (14, [(0, 15), (1, 19), (2, 20), (3, 21), (4, 22), (5, 23), (13, 24), (14, 1)]), (15, [(0, 16), (1, 17), (2, 18)]), (25, [(0, 206), (1, 217)]), (27, [(0, 28), (1, 29)]), (28, [(0, 30), (1, 34), (2, 38), (3, 42), (4, 46), (5, 50), (6, 54), (7, 58), (8, 62), (9, 66), (10, 70), (11, 74), (12, 78), (13, 82), (14, 86), (15, 90), (16, 94)]), (30, [(0, 31), (1, 32), (2, 33)]), (34, [(0, 35), (1, 36), (2, 37)]), (38, [(0, 39), (1, 40), (2, 41)]), (42, [(0, 43), (1, 44), (2, 45)]), (46, [(0, 47), (1, 48), (2, 49)]), (50, [(0, 51), (1, 52), (2, 53)]), (54, [(0, 55), (1, 56), (2, 57)]), (58, [(0, 59), (1, 60), (2, 61)]), (62, [(0, 63), (1, 64), (2, 65)]), (66, [(0, 67), (1, 68), (2, 69)]), (70, [(0, 71), (1, 72), (2, 73)]), (74, [(0, 75), (1, 76), (2, 77)]), (78, [(0, 79), (1, 80), (2, 81)]), (82, [(0, 83), (1, 84), (2, 85)]), (86, [(0, 87), (1, 88), (2, 89)]), (90, [(0, 91), (1, 92), (2, 93)]), (94, [(0, 95), (1, 96), (2, 97)]), (98, [(1, 3), (2, 27), (3, 1), (4, 99), (5, 103), (6, 174)]), (99, [(0, 100), (1, 101), (2, 102)]), (103, [(0, 104), (1, 105)]), (104, [(0, 106), (1, 110), (2, 114), (3, 118), (4, 122), (5, 126), (6, 130), (7, 134), (8, 138), (9, 142), (10, 146), (11, 150), (12, 154), (13, 158), (14, 162), (15, 166), (16, 170)]), (106, [(0, 107), (1, 108), (2, 109)]), (110, [(0, 111), (1, 112), (2, 113)]), (114, [(0, 115), (1, 116), (2, 117)]), (118, [(0, 119), (1, 120), (2, 121)]), (122, [(0, 123), (1, 124), (2, 125)]), (126, [(0, 127), (1, 128), (2, 129)]), (130, [(0, 131), (1, 132), (2, 133)]), (134, [(0, 135), (1, 136), (2, 137)]), (138, [(0, 139), (1, 140), (2, 141)]), (142, [(0, 143), (1, 144), (2, 145)]), (146, [(0, 147), (1, 148), (2, 149)]), (150, [(0, 151), (1, 152), (2, 153)]), (154, [(0, 155), (1, 156), (2, 157)]), (158, [(0, 159), (1, 160), (2, 161)]), (162, [(0, 163), (1, 164), (2, 165)]), (166, [(0, 167), (1, 168), (2, 169)]), (170, [(0, 171), (1, 172), (2, 173)]), (175, [(0, 176), (3, 3), (4, 188), (5, 177), (6, 178), (7, 179), (8, 180), (9, 181), (10, 182), (11, 183), (12, 184), (13, 185), (14, 186), (15, 187)]), (188, [(0, 189), (1, 193), (2, 194), (3, 195), (4, 196), (5, 197), (13, 198), (14, 1)]), (189, [(0, 190), (1, 191), (2, 192)]), (200, [(0, 201), (2, 199)]), (201, [(0, 202), (1, 203), (2, 204)]), (206, [(0, 207), (1, 211), (2, 212), (3, 213), (4, 214), (5, 215), (13, 216), (14, 1)]), (207, [(0, 208), (1, 209), (2, 210)]), (217, [(0, 218), (1, 222), (2, 223), (3, 224), (4, 225), (5, 226), (13, 227), (14, 1)]), (218, [(0, 219), (1, 220), (2, 221)]), (228, [(2, 229), (3, 230), (4, 231), (5, 232), (6, 233), (7, 234), (9, 235), (10, 236), (12, 237), (22, 238), (24, 239), (25, 240), (27, 241), (28, 242), (31, 243), (32, 244), (33, 245), (35, 246), (36, 247), (37, 248), (41, 249), (42, 250), (43, 251), (44, 252), (45, 253), (46, 254), (47, 255), (48, 256), (49, 257), (50, 258), (51, 259), (52, 260), (53, 261), (54, 262), (60, 263)])]
def px_M0 (a j : Nat) : Int := ((((px_M0L.find? (fun q => q.1 == a)).map (fun q => ((q.2.find? (fun r => r.1 == j)).map (fun r => (r.2 : Int))).getD (-1))).getD (-1)))
def px_Fx (M : Nat → Nat → Int) : Prop := ∀ a kd n j : Nat, px_W0[a]? = some (kd, n) → kd ≠ 13 → px_ty kd j = 2 → j < n → M a j = px_M0 a j
def px_RG (sh : List (Nat × Nat)) (M : Nat → Nat → Int) : Prop := ∀ a kd n j : Nat, sh[a]? = some (kd, n) → (px_ty kd j = 1 → rl (M a j)) ∧ (px_ty kd j ≠ 1 → rg (M a j))
/-- M2 is M but for the cells of A -/
def px_eo (A : List Nat) (M M2 : Nat → Nat → Int) : Prop := ∀ a, a ∉ A → M2 a = M a
theorem px_W0_len : px_W0.length = 264 := by decide +kernel
theorem px_ty10 (j : Nat) : px_ty 10 j = 0 := rfl
theorem px_ty11 (j : Nat) : px_ty 11 j = 3 := rfl
theorem px_ty12 (j : Nat) : px_ty 12 j = 1 := rfl
section WW
variable {sh : List (Nat × Nat)} {M M2 : Nat → Nat → Int}
theorem px_sh (hW : px_W0 <+: sh) {a : Nat} {c : Nat × Nat} (h : px_W0[a]? = some c) : sh[a]? = some c := by
  obtain ⟨t, rfl⟩ := hW
  rw [List.getElem?_append_left (List.getElem?_eq_some_iff.mp h).1, h]
theorem px_sh' (hW : px_W0 <+: sh) {a : Nat} (h : a < 264) : sh[a]? = px_W0[a]? := by
  obtain ⟨t, rfl⟩ := hW
  rw [List.getElem?_append_left (show a < px_W0.length by rw [px_W0_len]; exact h)]
theorem px_fx (hF : px_Fx M) {a kd n j : Nat} {v : Int} (h : px_W0[a]? = some (kd, n)) (hk : kd ≠ 13) (ht : px_ty kd j = 2) (hj : j < n) (hv : px_M0 a j = v) : M a j = v := (hF a kd n j h hk ht hj).trans hv
theorem fx_up (hW : px_W0 <+: sh) (hF : px_Fx M) {a kd n j : Nat} {x : Int} (hs : sh[a]? = some (kd, n)) (ht : px_ty kd j ≠ 2 ∨ kd = 13) : px_Fx (px_up M a j x) := by
  intro a2 kd2 n2 j2 h1 h2 h3 h4
  unfold px_up
  by_cases h5 : a2 = a
  · subst h5
    have := (px_sh hW h1).symm.trans hs
    cases this
    rw [if_pos rfl, if_neg (fun q : j2 = j => ht.elim (fun z => z (by rw [← q]; exact h3)) h2)]
    exact hF _ _ _ _ h1 h2 h3 h4
  · rw [if_neg h5]
    exact hF _ _ _ _ h1 h2 h3 h4
theorem fx_cl (hW : px_W0 <+: sh) (hF : px_Fx M) {a kd n : Nat} {f : Nat → Int} (hs : sh[a]? = some (kd, n)) (ht : 10 ≤ kd ∧ kd ≤ 13) : px_Fx (px_cl M a f) := by
  intro a2 kd2 n2 j2 h1 h2 h3 h4
  unfold px_cl
  by_cases h5 : a2 = a
  · subst h5
    have := (px_sh hW h1).symm.trans hs
    cases this
    exfalso
    unfold px_ty at h3
    rw [if_neg (by omega)] at h3
    rcases (show kd = 10 ∨ kd = 11 ∨ kd = 12 by omega) with rfl | rfl | rfl <;> simp at h3
  · rw [if_neg h5]
    exact hF _ _ _ _ h1 h2 h3 h4
theorem fx_eo (hW : px_W0 <+: sh) (hF : px_Fx M) {A : List Nat} (h : px_eo A M M2) (hA : ∀ a ∈ A, ∃ kd n, sh[a]? = some (kd, n) ∧ 10 ≤ kd ∧ kd ≤ 13) : px_Fx M2 := by
  intro a kd n j h1 h2 h3 h4
  by_cases ha : a ∈ A
  · exfalso
    obtain ⟨kd2, n2, q1, q2, q3⟩ := hA a ha
    have := (px_sh hW h1).symm.trans q1
    cases this
    unfold px_ty at h3
    rw [if_neg (by omega)] at h3
    rcases (show kd = 10 ∨ kd = 11 ∨ kd = 12 by omega) with rfl | rfl | rfl <;> simp at h3
  · rw [h a ha]
    exact hF _ _ _ _ h1 h2 h3 h4
theorem fx_new (hF : px_Fx M) {a : Nat} {f : Nat → Int} (ha : 264 ≤ a) : px_Fx (px_cl M a f) := by
  intro a2 kd2 n2 j2 h1 h2 h3 h4
  have : a2 < 264 := by rw [← px_W0_len]; exact (List.getElem?_eq_some_iff.mp h1).1
  unfold px_cl
  rw [if_neg (by omega)]
  exact hF _ _ _ _ h1 h2 h3 h4
theorem rg_up (hG : px_RG sh M) {a kd n j : Nat} {x : Int} (hs : sh[a]? = some (kd, n)) (ht : px_ty kd j ≠ 1) (hx : rg x) : px_RG sh (px_up M a j x) := by
  intro a2 kd2 n2 j2 h1
  unfold px_up
  by_cases h5 : a2 = a
  · subst h5
    cases h1.symm.trans hs
    rw [if_pos rfl]
    by_cases h6 : j2 = j
    · subst h6
      rw [if_pos rfl]
      exact ⟨fun z => absurd z ht, fun _ => hx⟩
    · rw [if_neg h6]
      exact hG _ _ _ _ h1
  · rw [if_neg h5]
    exact hG _ _ _ _ h1
theorem rg_upL (hG : px_RG sh M) {a kd n j : Nat} {x : Int} (hs : sh[a]? = some (kd, n)) (ht : px_ty kd j = 1) (hx : rl x) : px_RG sh (px_up M a j x) := by
  intro a2 kd2 n2 j2 h1
  unfold px_up
  by_cases h5 : a2 = a
  · subst h5
    cases h1.symm.trans hs
    rw [if_pos rfl]
    by_cases h6 : j2 = j
    · subst h6
      rw [if_pos rfl]
      exact ⟨fun _ => hx, fun z => absurd ht z⟩
    · rw [if_neg h6]
      exact hG _ _ _ _ h1
  · rw [if_neg h5]
    exact hG _ _ _ _ h1
theorem rg_at (hG : px_RG sh M) {a kd n j : Nat} (hs : sh[a]? = some (kd, n)) (ht : px_ty kd j ≠ 1) : rg (M a j) := (hG a kd n j hs).2 ht
theorem rg_atL (hG : px_RG sh M) {a kd n j : Nat} (hs : sh[a]? = some (kd, n)) (ht : px_ty kd j = 1) : rl (M a j) := (hG a kd n j hs).1 ht
theorem rg_cl (hG : px_RG sh M) {a n : Nat} {f : Nat → Int} (hs : sh[a]? = some (10, n)) (hf : ∀ j, rg (f j)) : px_RG sh (px_cl M a f) := by
  intro a2 kd2 n2 j2 h1
  unfold px_cl
  by_cases h5 : a2 = a
  · subst h5
    cases h1.symm.trans hs
    rw [if_pos rfl]
    exact ⟨fun z => absurd z (by rw [px_ty10]; decide), fun _ => hf _⟩
  · rw [if_neg h5]
    exact hG _ _ _ _ h1
theorem rg_copy (hG : px_RG sh M) {a0 a1 n0 n1 sp dp m : Nat} (h0 : sh[a0]? = some (10, n0)) (h1 : sh[a1]? = some (10, n1)) : px_RG sh (px_copy M a0 sp a1 dp m) := by
  unfold px_copy
  refine rg_cl hG h1 (fun j => ?_)
  split
  · exact rg_at hG h0 (by rw [px_ty10]; decide)
  · exact rg_at hG h1 (by rw [px_ty10]; decide)
theorem eo_rf {A : List Nat} : px_eo A M M := fun _ _ => rfl
theorem eo_tr {A : List Nat} {M3 : Nat → Nat → Int} (h1 : px_eo A M M2) (h2 : px_eo A M2 M3) : px_eo A M M3 := fun a h => (h2 a h).trans (h1 a h)
theorem eo_mono {A A2 : List Nat} (h : px_eo A M M2) (hs : ∀ a ∈ A, a ∈ A2) : px_eo A2 M M2 := fun a ha => h a (fun q => ha (hs a q))
theorem eo_up {A : List Nat} {a j : Nat} {x : Int} (h : a ∈ A) : px_eo A M (px_up M a j x) := fun a2 h2 => by funext j2; unfold px_up; rw [if_neg (fun q : a2 = a => h2 (by rw [q]; exact h))]
theorem eo_cl {A : List Nat} {a : Nat} {f : Nat → Int} (h : a ∈ A) : px_eo A M (px_cl M a f) := fun a2 h2 => by funext j2; unfold px_cl; rw [if_neg (fun q : a2 = a => h2 (by rw [q]; exact h))]
end WW
def px_chL : List Nat := [3, 14, 188, 206, 217]
def px_nvL : List Nat := [4, 15, 30, 34, 38, 42, 46, 50, 54, 58, 62, 66, 70, 74, 78, 82, 86, 90, 94, 99, 106, 110, 114, 118, 122, 126, 130, 134, 138, 142, 146, 150, 154, 158, 162, 166, 170, 189, 207, 218]
def px_ch (c : Nat) : Prop := c ∈ px_chL
def px_nv (c : Nat) : Prop := c ∈ px_nvL
section CH
variable {sh : List (Nat × Nat)} {M : Nat → Nat → Int} {cb : Nat}
theorem ch_lt (h : px_ch cb) : cb + 11 ≤ 264 := (show ∀ c ∈ px_chL, c + 11 ≤ 264 by decide +kernel) cb h
theorem cs_0 (hW : px_W0 <+: sh) (h : px_ch cb) : sh[cb + 0]? = some (0, 15) := px_sh hW ((show ∀ c ∈ px_chL, px_W0[c + 0]? = some (0, 15) by decide +kernel) cb h)
theorem cs_1 (hW : px_W0 <+: sh) (h : px_ch cb) : sh[cb + 1]? = some (1, 5) := px_sh hW ((show ∀ c ∈ px_chL, px_W0[c + 1]? = some (1, 5) by decide +kernel) cb h)
theorem cs_2 (hW : px_W0 <+: sh) (h : px_ch cb) : sh[cb + 2]? = some (10, 48) := px_sh hW ((show ∀ c ∈ px_chL, px_W0[c + 2]? = some (10, 48) by decide +kernel) cb h)
theorem cs_3 (hW : px_W0 <+: sh) (h : px_ch cb) : sh[cb + 3]? = some (10, 6) := px_sh hW ((show ∀ c ∈ px_chL, px_W0[c + 3]? = some (10, 6) by decide +kernel) cb h)
theorem cs_4 (hW : px_W0 <+: sh) (h : px_ch cb) : sh[cb + 4]? = some (10, 6) := px_sh hW ((show ∀ c ∈ px_chL, px_W0[c + 4]? = some (10, 6) by decide +kernel) cb h)
theorem cs_5 (hW : px_W0 <+: sh) (h : px_ch cb) : sh[cb + 5]? = some (10, 8) := px_sh hW ((show ∀ c ∈ px_chL, px_W0[c + 5]? = some (10, 8) by decide +kernel) cb h)
theorem cs_6 (hW : px_W0 <+: sh) (h : px_ch cb) : sh[cb + 6]? = some (10, 8) := px_sh hW ((show ∀ c ∈ px_chL, px_W0[c + 6]? = some (10, 8) by decide +kernel) cb h)
theorem cs_7 (hW : px_W0 <+: sh) (h : px_ch cb) : sh[cb + 7]? = some (10, 24) := px_sh hW ((show ∀ c ∈ px_chL, px_W0[c + 7]? = some (10, 24) by decide +kernel) cb h)
theorem cs_8 (hW : px_W0 <+: sh) (h : px_ch cb) : sh[cb + 8]? = some (13, 6) := px_sh hW ((show ∀ c ∈ px_chL, px_W0[c + 8]? = some (13, 6) by decide +kernel) cb h)
theorem cs_9 (hW : px_W0 <+: sh) (h : px_ch cb) : sh[cb + 9]? = some (10, 3) := px_sh hW ((show ∀ c ∈ px_chL, px_W0[c + 9]? = some (10, 3) by decide +kernel) cb h)
theorem cs_10 (hW : px_W0 <+: sh) (h : px_ch cb) : sh[cb + 10]? = some (10, 12) := px_sh hW ((show ∀ c ∈ px_chL, px_W0[c + 10]? = some (10, 12) by decide +kernel) cb h)
theorem cf_0_0 (hF : px_Fx M) (h : px_ch cb) : M (cb + 0) 0 = ((cb + 1 : Nat) : Int) := px_fx hF (kd := 0) (n := 15) ((show ∀ c ∈ px_chL, px_W0[c + 0]? = some (0, 15) by decide +kernel) cb h) (by decide +kernel) (by decide +kernel) (by decide +kernel) ((show ∀ c ∈ px_chL, px_M0 (c + 0) 0 = ((c + 1 : Nat) : Int) by decide +kernel) cb h)
theorem cf_0_1 (hF : px_Fx M) (h : px_ch cb) : M (cb + 0) 1 = ((cb + 5 : Nat) : Int) := px_fx hF (kd := 0) (n := 15) ((show ∀ c ∈ px_chL, px_W0[c + 0]? = some (0, 15) by decide +kernel) cb h) (by decide +kernel) (by decide +kernel) (by decide +kernel) ((show ∀ c ∈ px_chL, px_M0 (c + 0) 1 = ((c + 5 : Nat) : Int) by decide +kernel) cb h)
theorem cf_0_2 (hF : px_Fx M) (h : px_ch cb) : M (cb + 0) 2 = ((cb + 6 : Nat) : Int) := px_fx hF (kd := 0) (n := 15) ((show ∀ c ∈ px_chL, px_W0[c + 0]? = some (0, 15) by decide +kernel) cb h) (by decide +kernel) (by decide +kernel) (by decide +kernel) ((show ∀ c ∈ px_chL, px_M0 (c + 0) 2 = ((c + 6 : Nat) : Int) by decide +kernel) cb h)
theorem cf_0_3 (hF : px_Fx M) (h : px_ch cb) : M (cb + 0) 3 = ((cb + 7 : Nat) : Int) := px_fx hF (kd := 0) (n := 15) ((show ∀ c ∈ px_chL, px_W0[c + 0]? = some (0, 15) by decide +kernel) cb h) (by decide +kernel) (by decide +kernel) (by decide +kernel) ((show ∀ c ∈ px_chL, px_M0 (c + 0) 3 = ((c + 7 : Nat) : Int) by decide +kernel) cb h)
theorem cf_0_4 (hF : px_Fx M) (h : px_ch cb) : M (cb + 0) 4 = ((cb + 8 : Nat) : Int) := px_fx hF (kd := 0) (n := 15) ((show ∀ c ∈ px_chL, px_W0[c + 0]? = some (0, 15) by decide +kernel) cb h) (by decide +kernel) (by decide +kernel) (by decide +kernel) ((show ∀ c ∈ px_chL, px_M0 (c + 0) 4 = ((c + 8 : Nat) : Int) by decide +kernel) cb h)
theorem cf_0_5 (hF : px_Fx M) (h : px_ch cb) : M (cb + 0) 5 = ((cb + 9 : Nat) : Int) := px_fx hF (kd := 0) (n := 15) ((show ∀ c ∈ px_chL, px_W0[c + 0]? = some (0, 15) by decide +kernel) cb h) (by decide +kernel) (by decide +kernel) (by decide +kernel) ((show ∀ c ∈ px_chL, px_M0 (c + 0) 5 = ((c + 9 : Nat) : Int) by decide +kernel) cb h)
theorem cf_0_13 (hF : px_Fx M) (h : px_ch cb) : M (cb + 0) 13 = ((cb + 10 : Nat) : Int) := px_fx hF (kd := 0) (n := 15) ((show ∀ c ∈ px_chL, px_W0[c + 0]? = some (0, 15) by decide +kernel) cb h) (by decide +kernel) (by decide +kernel) (by decide +kernel) ((show ∀ c ∈ px_chL, px_M0 (c + 0) 13 = ((c + 10 : Nat) : Int) by decide +kernel) cb h)
theorem cf_0_14 (hF : px_Fx M) (h : px_ch cb) : M (cb + 0) 14 = ((1 : Nat) : Int) := px_fx hF (kd := 0) (n := 15) ((show ∀ c ∈ px_chL, px_W0[c + 0]? = some (0, 15) by decide +kernel) cb h) (by decide +kernel) (by decide +kernel) (by decide +kernel) ((show ∀ c ∈ px_chL, px_M0 (c + 0) 14 = ((1 : Nat) : Int) by decide +kernel) cb h)
theorem cf_1_0 (hF : px_Fx M) (h : px_ch cb) : M (cb + 1) 0 = ((cb + 2 : Nat) : Int) := px_fx hF (kd := 1) (n := 5) ((show ∀ c ∈ px_chL, px_W0[c + 1]? = some (1, 5) by decide +kernel) cb h) (by decide +kernel) (by decide +kernel) (by decide +kernel) ((show ∀ c ∈ px_chL, px_M0 (c + 1) 0 = ((c + 2 : Nat) : Int) by decide +kernel) cb h)
theorem cf_1_1 (hF : px_Fx M) (h : px_ch cb) : M (cb + 1) 1 = ((cb + 3 : Nat) : Int) := px_fx hF (kd := 1) (n := 5) ((show ∀ c ∈ px_chL, px_W0[c + 1]? = some (1, 5) by decide +kernel) cb h) (by decide +kernel) (by decide +kernel) (by decide +kernel) ((show ∀ c ∈ px_chL, px_M0 (c + 1) 1 = ((c + 3 : Nat) : Int) by decide +kernel) cb h)
theorem cf_1_2 (hF : px_Fx M) (h : px_ch cb) : M (cb + 1) 2 = ((cb + 4 : Nat) : Int) := px_fx hF (kd := 1) (n := 5) ((show ∀ c ∈ px_chL, px_W0[c + 1]? = some (1, 5) by decide +kernel) cb h) (by decide +kernel) (by decide +kernel) (by decide +kernel) ((show ∀ c ∈ px_chL, px_M0 (c + 1) 2 = ((c + 4 : Nat) : Int) by decide +kernel) cb h)
theorem ch_nv (h : px_ch cb) : px_nv (cb + 1) := (show ∀ c ∈ px_chL, c + 1 ∈ px_nvL by decide +kernel) cb h
end CH
section NV
variable {sh : List (Nat × Nat)} {M : Nat → Nat → Int} {nb : Nat}
theorem nv_lt (h : px_nv nb) : nb + 4 ≤ 264 := (show ∀ c ∈ px_nvL, c + 4 ≤ 264 by decide +kernel) nb h
theorem ns_0 (hW : px_W0 <+: sh) (h : px_nv nb) : sh[nb + 0]? = some (1, 5) := px_sh hW ((show ∀ c ∈ px_nvL, px_W0[c + 0]? = some (1, 5) by decide +kernel) nb h)
theorem ns_1 (hW : px_W0 <+: sh) (h : px_nv nb) : sh[nb + 1]? = some (10, 48) := px_sh hW ((show ∀ c ∈ px_nvL, px_W0[c + 1]? = some (10, 48) by decide +kernel) nb h)
theorem ns_2 (hW : px_W0 <+: sh) (h : px_nv nb) : sh[nb + 2]? = some (10, 6) := px_sh hW ((show ∀ c ∈ px_nvL, px_W0[c + 2]? = some (10, 6) by decide +kernel) nb h)
theorem ns_3 (hW : px_W0 <+: sh) (h : px_nv nb) : sh[nb + 3]? = some (10, 6) := px_sh hW ((show ∀ c ∈ px_nvL, px_W0[c + 3]? = some (10, 6) by decide +kernel) nb h)
theorem nf_0 (hF : px_Fx M) (h : px_nv nb) : M nb 0 = ((nb + 1 : Nat) : Int) := px_fx hF (kd := 1) (n := 5) ((show ∀ c ∈ px_nvL, px_W0[c]? = some (1, 5) by decide +kernel) nb h) (by decide +kernel) (by decide +kernel) (by decide +kernel) ((show ∀ c ∈ px_nvL, px_M0 c 0 = ((c + 1 : Nat) : Int) by decide +kernel) nb h)
theorem nf_1 (hF : px_Fx M) (h : px_nv nb) : M nb 1 = ((nb + 2 : Nat) : Int) := px_fx hF (kd := 1) (n := 5) ((show ∀ c ∈ px_nvL, px_W0[c]? = some (1, 5) by decide +kernel) nb h) (by decide +kernel) (by decide +kernel) (by decide +kernel) ((show ∀ c ∈ px_nvL, px_M0 c 1 = ((c + 2 : Nat) : Int) by decide +kernel) nb h)
theorem nf_2 (hF : px_Fx M) (h : px_nv nb) : M nb 2 = ((nb + 3 : Nat) : Int) := px_fx hF (kd := 1) (n := 5) ((show ∀ c ∈ px_nvL, px_W0[c]? = some (1, 5) by decide +kernel) nb h) (by decide +kernel) (by decide +kernel) (by decide +kernel) ((show ∀ c ∈ px_nvL, px_M0 c 2 = ((c + 3 : Nat) : Int) by decide +kernel) nb h)
end NV
