/-! rows stay in order -/
section PURE
variable {ρ : Nat → Int}
theorem ok_rup (h : sp_ok ρ) {i : Nat} {y : Int} (b0 : i = 0 → 0 ≤ y ∧ y ≤ 8) (b1 : i = 1 → 0 ≤ y ∧ y ≤ 6) (b2 : i = 2 → 0 ≤ y ∧ y ≤ 8) (b3 : i = 3 → ρ 4 < y ∧ 0 ≤ y ∧ y ≤ 6) (b4 : i = 4 → False) (b5 : i = 5 → 0 ≤ y ∧ y ≤ 2000) (b6 : i = 6 → 0 ≤ y ∧ y ≤ 10) (b7 : i = 7 → 0 ≤ y ∧ y ≤ 9) (b8 : i = 8 → 0 ≤ y ∧ y < 16) (b9 : 9 ≤ i ∧ i < 57 → 0 ≤ y ∧ y ≤ 99) (b10 : 57 ≤ i ∧ i < 63 → 0 ≤ y ∧ y ≤ 7) (b11 : 63 ≤ i ∧ i < 69 → 0 ≤ y ∧ y ≤ 99) (b12 : 69 ≤ i ∧ i < 77 → 0 ≤ y ∧ y ≤ 2) (b13 : 77 ≤ i ∧ i < 85 → 0 ≤ y ∧ y ≤ 9) (b14 : 85 ≤ i ∧ i < 109 ∧ i % 3 = 1 → 0 ≤ y ∧ y ≤ 15) (b15 : 85 ≤ i ∧ i < 109 ∧ i % 3 = 2 → 0 ≤ y ∧ y ≤ 2) (b16 : 85 ≤ i ∧ i < 109 ∧ i % 3 = 0 → 0 ≤ y ∧ y ≤ 99) : sp_ok (rup ρ i y) := by
  obtain ⟨h0, h1, h2, h3, h4, h5, h6, h7, h8, h9, h10, h11, h12, h13, h14⟩ := h
  have n4 : ¬ 4 = i := fun e => b4 e.symm
  refine ⟨?_, ?_, ?_, ?_, ?_, ?_, ?_, ?_, ?_, fun j hj => ?_, fun j hj => ?_, fun j hj => ?_, fun j hj => ?_, fun j hj => ?_, fun j hj => ⟨?_, ?_, ?_⟩⟩
  · show 0 ≤ (if 0 = i then y else ρ 0) ∧ (if 0 = i then y else ρ 0) ≤ 8
    split
    · exact b0 (by omega)
    · exact h0
  · show 0 ≤ (if 1 = i then y else ρ 1) ∧ (if 1 = i then y else ρ 1) ≤ 6
    split
    · exact b1 (by omega)
    · exact h1
  · show 0 ≤ (if 2 = i then y else ρ 2) ∧ (if 2 = i then y else ρ 2) ≤ 8
    split
    · exact b2 (by omega)
    · exact h2
  · show 0 ≤ (if 3 = i then y else ρ 3) ∧ (if 3 = i then y else ρ 3) ≤ 6
    split
    · exact (b3 (by omega)).2
    · exact h3
  · show -1 ≤ (if 4 = i then y else ρ 4) ∧ (if 4 = i then y else ρ 4) < (if 3 = i then y else ρ 3)
    rw [if_neg n4]
    refine ⟨h4.1, ?_⟩
    split
    · exact (b3 (by omega)).1
    · exact h4.2
  · show 0 ≤ (if 5 = i then y else ρ 5) ∧ (if 5 = i then y else ρ 5) ≤ 2000
    split
    · exact b5 (by omega)
    · exact h5
  · show 0 ≤ (if 6 = i then y else ρ 6) ∧ (if 6 = i then y else ρ 6) ≤ 10
    split
    · exact b6 (by omega)
    · exact h6
  · show 0 ≤ (if 7 = i then y else ρ 7) ∧ (if 7 = i then y else ρ 7) ≤ 9
    split
    · exact b7 (by omega)
    · exact h7
  · show 0 ≤ (if 8 = i then y else ρ 8) ∧ (if 8 = i then y else ρ 8) < 16
    split
    · exact b8 (by omega)
    · exact h8
  · show 0 ≤ (if 9 + j = i then y else ρ (9 + j)) ∧ (if 9 + j = i then y else ρ (9 + j)) ≤ 99
    split
    · exact b9 (by omega)
    · exact h9 j hj
  · show 0 ≤ (if 57 + j = i then y else ρ (57 + j)) ∧ (if 57 + j = i then y else ρ (57 + j)) ≤ 7
    split
    · exact b10 (by omega)
    · exact h10 j hj
  · show 0 ≤ (if 63 + j = i then y else ρ (63 + j)) ∧ (if 63 + j = i then y else ρ (63 + j)) ≤ 99
    split
    · exact b11 (by omega)
    · exact h11 j hj
  · show 0 ≤ (if 69 + j = i then y else ρ (69 + j)) ∧ (if 69 + j = i then y else ρ (69 + j)) ≤ 2
    split
    · exact b12 (by omega)
    · exact h12 j hj
  · show 0 ≤ (if 77 + j = i then y else ρ (77 + j)) ∧ (if 77 + j = i then y else ρ (77 + j)) ≤ 9
    split
    · exact b13 (by omega)
    · exact h13 j hj
  · show 0 ≤ (if 85 + 3 * j = i then y else ρ (85 + 3 * j)) ∧ (if 85 + 3 * j = i then y else ρ (85 + 3 * j)) ≤ 15
    split
    · exact b14 (by omega)
    · exact (h14 j hj).1
  · show 0 ≤ (if 85 + 3 * j + 1 = i then y else ρ (85 + 3 * j + 1)) ∧ (if 85 + 3 * j + 1 = i then y else ρ (85 + 3 * j + 1)) ≤ 2
    split
    · exact b15 (by omega)
    · exact (h14 j hj).2.1
  · show 0 ≤ (if 85 + 3 * j + 2 = i then y else ρ (85 + 3 * j + 2)) ∧ (if 85 + 3 * j + 2 = i then y else ρ (85 + 3 * j + 2)) ≤ 99
    split
    · exact b16 (by omega)
    · exact (h14 j hj).2.2

theorem IOK_up {x : sp_I} (hI : IOK x) {ρ2 : Nat → Int} (h1 : sp_ok ρ2) (h5 : ρ2 5 ≤ 999) (h3 : ρ2 3 = x.1 3) : IOK (ρ2, x.2) := ⟨h1, h5, h3.trans hI.2.2.1, hI.2.2.2⟩
theorem wordV_b (h : sp_ok ρ) (a b : Int) : -6 ≤ sp_wordV ρ a b ∧ sp_wordV ρ a b ≠ -4 := by
  have := h.1
  unfold sp_wordV
  split
  · split <;> omega
  · omega
theorem word_ok (h : sp_ok ρ) (a b : Int) : sp_ok (sp_wordR ρ a b) ∧ sp_wordR ρ a b 5 = ρ 5 ∧ sp_wordR ρ a b 3 = ρ 3 ∧ (sp_wordV ρ a b < 0 → sp_wordR ρ a b = ρ) := by
  have h0 := h.1
  unfold sp_wordR
  by_cases c : 0 ≤ sp_wordV ρ a b
  · rw [if_pos c]
    unfold sp_wordV at c
    by_cases c1 : (0 ≤ a ∧ a ≤ 2) ∧ (1 ≤ b ∧ b ≤ 9)
    · rw [if_pos c1] at c
      by_cases c2 : ρ 0 = 8
      · rw [if_pos c2] at c; omega
      · refine ⟨?_, ?_, ?_, fun z => ?_⟩
        · refine ok_rup (ok_rup (ok_rup h (by omega) (by omega) (by omega) (by omega) (by omega) (by omega) (by omega) (by omega) (by omega) (by omega) (by omega) (by omega) (by omega) (by omega) (by omega) (by omega) (by omega)) (by omega) (by omega) (by omega) (by omega) (by omega) (by omega) (by omega) (by omega) (by omega) (by omega) (by omega) (by omega) (by omega) (by omega) (by omega) (by omega) (by omega)) (by omega) (by omega) (by omega) (by omega) (by omega) (by omega) (by omega) (by omega) (by omega) (by omega) (by omega) (by omega) (by omega) (by omega) (by omega) (by omega) (by omega)
        · unfold rup; rw [if_neg (by omega), if_neg (by omega), if_neg (by omega)]
        · unfold rup; rw [if_neg (by omega), if_neg (by omega), if_neg (by omega)]
        · exfalso; unfold sp_wordV at z; rw [if_pos c1, if_neg c2] at z; omega
    · rw [if_neg c1] at c; omega
  · rw [if_neg c]
    exact ⟨h, rfl, rfl, fun _ => rfl⟩
theorem lisV_b (h : sp_ok ρ) (a b : Int) : -6 ≤ sp_lisV ρ a b ∧ sp_lisV ρ a b ≠ -4 := by
  have := h.2.1
  unfold sp_lisV
  split
  · split
    · omega
    · split <;> omega
  · omega
theorem lis_ok (h : sp_ok ρ) (a b : Int) : sp_ok (sp_lisR ρ a b) ∧ sp_lisR ρ a b 5 = ρ 5 ∧ sp_lisR ρ a b 3 = ρ 3 ∧ (sp_lisV ρ a b < 0 → sp_lisR ρ a b = ρ) := by
  have h0 := h.2.1
  unfold sp_lisR
  by_cases c : 0 ≤ sp_lisV ρ a b
  · rw [if_pos c]
    refine ⟨?_, ?_, ?_, fun z => by omega⟩
    · unfold sp_lisV at c
      split at c
      · split at c
        · omega
        · split at c
          · omega
          · refine ok_rup (ok_rup (ok_rup h (by omega) (by omega) (by omega) (by omega) (by omega) (by omega) (by omega) (by omega) (by omega) (by omega) (by omega) (by omega) (by omega) (by omega) (by omega) (by omega) (by omega)) (by omega) (by omega) (by omega) (by omega) (by omega) (by omega) (by omega) (by omega) (by omega) (by omega) (by omega) (by omega) (by omega) (by omega) (by omega) (by omega) (by omega)) (by omega) (by omega) (by omega) (by omega) (by omega) (by omega) (by omega) (by omega) (by omega) (by omega) (by omega) (by omega) (by omega) (by omega) (by omega) (by omega) (by omega)
      · omega
    · unfold rup; rw [if_neg (by omega), if_neg (by omega), if_neg (by omega)]
    · unfold rup; rw [if_neg (by omega), if_neg (by omega), if_neg (by omega)]
  · rw [if_neg c]
    exact ⟨h, rfl, rfl, fun _ => rfl⟩
theorem terV_b (h : sp_ok ρ) (a b : Int) : -6 ≤ sp_terV ρ a b ∧ sp_terV ρ a b ≠ -4 := by
  have h5 := h.2.2.2.2.2.1
  have h6 := h.2.2.2.2.2.2.1
  have h7 := h.2.2.2.2.2.2.2.1
  unfold sp_terV
  by_cases c : 0 ≤ a ∧ a ≤ 2 ∧ 0 ≤ b ∧ b ≤ (if a = 0 then 999 else if a = 1 then 10 else 9)
  · rw [if_pos c]
    rcases (show a = 0 ∨ a = 1 ∨ a = 2 by omega) with rfl | rfl | rfl
    · show -6 ≤ ρ 5 ∧ ρ 5 ≠ -4; omega
    · show -6 ≤ ρ 6 ∧ ρ 6 ≠ -4; omega
    · show -6 ≤ ρ 7 ∧ ρ 7 ≠ -4; omega
  · rw [if_neg c]; omega
theorem ter_ok (h : sp_ok ρ) (h9 : ρ 5 ≤ 999) (a b : Int) : sp_ok (sp_terR ρ a b) ∧ sp_terR ρ a b 5 ≤ 999 ∧ sp_terR ρ a b 3 = ρ 3 ∧ (sp_terV ρ a b < 0 → sp_terR ρ a b = ρ) := by
  unfold sp_terR
  by_cases c : 0 ≤ sp_terV ρ a b
  · rw [if_pos c]
    unfold sp_terV at c
    by_cases c1 : 0 ≤ a ∧ a ≤ 2 ∧ 0 ≤ b ∧ b ≤ (if a = 0 then 999 else if a = 1 then 10 else 9)
    · refine ⟨?_, ?_, ?_, fun z => ?_⟩
      · rcases (show a = 0 ∨ a = 1 ∨ a = 2 by omega) with rfl | rfl | rfl
        · rw [if_pos rfl] at c1
          refine ok_rup h (by omega) (by omega) (by omega) (by omega) (by omega) (by omega) (by omega) (by omega) (by omega) (by omega) (by omega) (by omega) (by omega) (by omega) (by omega) (by omega) (by omega)
        · rw [if_neg (by omega), if_pos rfl] at c1
          refine ok_rup h (by omega) (by omega) (by omega) (by omega) (by omega) (by omega) (by omega) (by omega) (by omega) (by omega) (by omega) (by omega) (by omega) (by omega) (by omega) (by omega) (by omega)
        · rw [if_neg (by omega), if_neg (by omega)] at c1
          refine ok_rup h (by omega) (by omega) (by omega) (by omega) (by omega) (by omega) (by omega) (by omega) (by omega) (by omega) (by omega) (by omega) (by omega) (by omega) (by omega) (by omega) (by omega)
      · unfold rup
        split
        · rename_i z
          have : a = 0 := by omega
          rw [if_pos this] at c1
          omega
        · exact h9
      · unfold rup; rw [if_neg (by omega)]
      · exfalso; unfold sp_terV at z; omega
    · rw [if_neg c1] at c; omega
  · rw [if_neg c]
    exact ⟨h, h9, rfl, fun _ => rfl⟩
theorem tolV_b (h : sp_ok ρ) (a b m : Int) : -6 ≤ sp_tolV ρ a b m ∧ sp_tolV ρ a b m ≠ -4 := by
  have := h.2.2.1
  unfold sp_tolV
  split
  · split <;> omega
  · omega
theorem tol_ok (h : sp_ok ρ) (a b m : Int) : sp_ok (sp_tolR ρ a b m) ∧ ∀ j, 3 ≤ j → j < 85 → sp_tolR ρ a b m j = ρ j := by
  have h0 := h.2.2.1
  unfold sp_tolR
  by_cases c : 0 ≤ sp_tolV ρ a b m
  · rw [if_pos c]
    refine ⟨?_, fun j h1 h2 => ?_⟩
    · unfold sp_tolV at c
      split at c
      · split at c
        · omega
        · refine ok_rup (ok_rup (ok_rup (ok_rup h (by omega) (by omega) (by omega) (by omega) (by omega) (by omega) (by omega) (by omega) (by omega) (by omega) (by omega) (by omega) (by omega) (by omega) (by omega) (by omega) (by omega)) (by omega) (by omega) (by omega) (by omega) (by omega) (by omega) (by omega) (by omega) (by omega) (by omega) (by omega) (by omega) (by omega) (by omega) (by omega) (by omega) (by omega)) (by omega) (by omega) (by omega) (by omega) (by omega) (by omega) (by omega) (by omega) (by omega) (by omega) (by omega) (by omega) (by omega) (by omega) (by omega) (by omega) (by omega)) (by omega) (by omega) (by omega) (by omega) (by omega) (by omega) (by omega) (by omega) (by omega) (by omega) (by omega) (by omega) (by omega) (by omega) (by omega) (by omega) (by omega)
      · omega
    · unfold rup; rw [if_neg (by omega), if_neg (by omega), if_neg (by omega), if_neg (by omega)]
  · rw [if_neg c]
    exact ⟨h, fun _ _ _ => rfl⟩
theorem for_ok (h : sp_ok ρ) (l : Int) : sp_ok (sp_forR ρ l) ∧ ∀ j, j ≠ 4 → sp_forR ρ l j = ρ j := by
  unfold sp_forR
  have h3 := h.2.2.2.1
  split
  · exact ⟨ok_force h (by omega), fun j hj => by unfold rup; rw [if_neg hj]⟩
  · exact ⟨h, fun _ _ => rfl⟩
theorem forS_b (l : Int) : -6 ≤ sp_forS ρ l ∧ sp_forS ρ l ≠ -4 := by
  unfold sp_forS; split <;> omega
theorem fgt_ok (h : sp_ok ρ) : sp_ok (rup ρ 2 0) := by
  refine ok_rup h (by omega) (by omega) (by omega) (by omega) (by omega) (by omega) (by omega) (by omega) (by omega) (by omega) (by omega) (by omega) (by omega) (by omega) (by omega) (by omega) (by omega)
theorem od_R_67 {lw : List sp_C} (h : sp_ok ρ) (k a b : Int) {j : Nat} (hj : j = 6 ∨ j = 7) (hv : 0 ≤ od_V lw ρ k a b) : od_R lw ρ k a b j = ρ j := by
  unfold od_R
  unfold od_V at hv
  split
  · exact preW_n (by omega)
  · split
    · unfold sp_scrR
      split
      · unfold rup; rw [if_neg (by omega)]
      · rfl
    · split
      · unfold sp_walR
        split
        · unfold rup; rw [if_neg (by omega)]
        · rfl
      · split
        · unfold sp_sitR
          split
          · unfold rup; rw [if_neg (by omega)]
          · rfl
        · exact pasW_n h.2.1.2 (by omega)
theorem od_R_n {lw : List sp_C} (k a b : Int) (hv : od_V lw ρ k a b < 0) (h : sp_ok ρ) : od_R lw ρ k a b = ρ := by
  unfold od_R
  unfold od_V at hv
  have h8 := h.2.2.2.2.2.2.2.2.1
  split
  · rename_i z
    rw [if_pos z] at hv
    unfold sp_preW; rw [if_neg (by omega)]
  · rename_i z
    rw [if_neg z] at hv
    split
    · rename_i z
      rw [if_pos z] at hv
      unfold sp_scrR; rw [if_neg (by omega)]
    · rename_i z
      rw [if_neg z] at hv
      split
      · rename_i z
        rw [if_pos z] at hv
        unfold sp_walV at hv
        split at hv
        · omega
        · rename_i z; unfold sp_walR; rw [if_neg z]
      · rename_i z
        rw [if_neg z] at hv
        split
        · rename_i z
          rw [if_pos z] at hv
          unfold sp_sitR; rw [if_neg (by omega)]
        · rename_i z
          rw [if_neg z] at hv
          have h5 := h.2.2.2.2.2.1
          unfold sp_pasV at hv
          split at hv
          · omega
          · rename_i z; unfold sp_pasW; rw [if_neg z]
/-- a step and its trail -/
theorem od_step {lw : List sp_C} {x : sp_I} {tl : sp_T} (hI : IOK x) (hT : trlOK x.1 tl) {k : Int} (hk : 0 ≤ k ∧ k ≤ 4) (a b : Int) : IOK (od_R lw x.1 k a b, x.2) ∧ trlOK (od_R lw x.1 k a b) (if 0 ≤ od_V lw x.1 k a b then tpush tl (k, x.1) else tl) := by
  by_cases c : 0 ≤ od_V lw x.1 k a b
  · rw [if_pos c]
    exact ⟨IOK_up hI (od_R_ok hI.1 k a b c) (od_R_5 hI.1 k a b c hI.2.1) (od_R_fix hI.1 k a b (by omega) c), trlOK_push hT hk hI.1 hI.2.1 (od_R_67 hI.1 k a b (Or.inl rfl) c) (od_R_67 hI.1 k a b (Or.inr rfl) c)⟩
  · rw [if_neg c, od_R_n k a b (by omega) hI.1]
    exact ⟨hI, hT⟩
def oSt (ρ : Nat → Int) (y : od_S) : Prop := sp_ok y.1 ∧ y.1 5 ≤ 999 ∧ (∀ j, (j < 5 ∨ 69 ≤ j) → y.1 j = ρ j) ∧ trlOK y.1 y.2.1 ∧ y.1 6 = ρ 6 ∧ y.1 7 = ρ 7 ∧ 0 ≤ y.2.2.1
theorem oSt_1 {lw : List sp_C} {c : od_C} {y z : od_S} (hc : 0 ≤ c.1 ∧ c.1 ≤ 4) (h : oSt ρ y) (e : od_1 lw c y = some z) : oSt ρ z := by
  obtain ⟨h1, h2, h3, h4, h5, h6, h7⟩ := h
  unfold od_1 at e
  split at e
  · split at e
    · rename_i a b _ _
      split at e
      · cases e
      · rename_i hv
        cases e
        have hv' : 0 ≤ od_V lw y.1 c.1 a b := by omega
        refine ⟨od_R_ok h1 _ a b hv', od_R_5 h1 _ a b hv' h2, fun j hj => ?_, ?_, ?_, ?_, ?_⟩
        · show od_R lw y.1 c.1 a b j = ρ j
          rw [od_R_fix h1 _ a b hj hv']; exact h3 j hj
        · exact trlOK_push h4 hc h1 h2 (od_R_67 h1 _ a b (Or.inl rfl) hv') (od_R_67 h1 _ a b (Or.inr rfl) hv')
        · show od_R lw y.1 c.1 a b 6 = ρ 6
          rw [od_R_67 h1 _ a b (Or.inl rfl) hv']; exact h5
        · show od_R lw y.1 c.1 a b 7 = ρ 7
          rw [od_R_67 h1 _ a b (Or.inr rfl) hv']; exact h6
        · show 0 ≤ y.2.2.1 + 1
          omega
    · cases e
  · cases e
    exact ⟨h1, h2, h3, h4, h5, h6, h7⟩
theorem oSt_n {lw : List sp_C} {c : od_C} (hc : 0 ≤ c.1 ∧ c.1 ≤ 4) : ∀ (n : Nat) (y z : od_S), oSt ρ y → od_n lw c n y = some z → oSt ρ z := by
  intro n
  induction n with
  | zero => intro y z h e; rw [od_n] at e; cases e; exact h
  | succ n ih =>
    intro y z h e
    rw [od_n] at e
    cases h1 : od_1 lw c y with
    | none => rw [h1] at e; cases e
    | some w => rw [h1] at e; exact ih w z (oSt_1 hc h h1) e
theorem oSt_L {lw : List sp_C} : ∀ (ol : List od_C) (i : Nat) (y z : od_S), (∀ c ∈ ol, 0 ≤ c.1 ∧ c.1 ≤ 4) → oSt ρ y → od_L lw ol i y = .inl z → oSt ρ z := by
  intro ol
  induction ol with
  | nil => intro i y z _ h e; rw [od_L] at e; cases e; exact h
  | cons c r ih =>
    intro i y z hc h e
    rw [od_L] at e
    cases h1 : od_n lw c c.2.1 y with
    | none => rw [h1] at e; cases e
    | some w => rw [h1] at e; exact ih (i + 1) w z (fun q hq => hc q (List.mem_cons_of_mem _ hq)) (oSt_n (hc c List.mem_cons_self) _ y w h h1) e
theorem rw_n {tn : Nat} {tb : Nat → Int} {j : Nat} (hj : j < 9 ∨ 57 ≤ j) : ∀ i, rwR tn tb ρ i j = ρ j := by
  intro i
  induction i with
  | zero => rfl
  | succ i ih =>
    rw [rwR]
    split
    · rename_i z
      have hp : rwOK tn tb (4 * i) := of_decide_eq_true z
      unfold rwOK at hp
      unfold rup3 rup
      rw [if_neg (by omega), if_neg (by omega), if_neg (by omega)]
      exact ih
    · exact ih
theorem und_ok {e : Nat → Int} (h : sp_ok ρ) (he : sp_ok e) : sp_ok (fun j => if 5 ≤ j ∧ j < 69 then e j else ρ j) := by
  obtain ⟨h0, h1, h2, h3, h4, h5, h6, h7, h8, h9, h10, h11, h12, h13, h14⟩ := h
  obtain ⟨e0, e1, e2, e3, e4, e5, e6, e7, e8, e9, e10, e11, e12, e13, e14⟩ := he
  refine ⟨h0, h1, h2, h3, h4, e5, e6, e7, e8, fun j hj => ?_, fun j hj => ?_, fun j hj => ?_, fun j hj => ?_, fun j hj => ?_, fun j hj => ?_⟩
  · dsimp only; rw [if_pos (by omega)]; exact e9 j hj
  · dsimp only; rw [if_pos (by omega)]; exact e10 j hj
  · dsimp only; rw [if_pos (by omega)]; exact e11 j hj
  · dsimp only; rw [if_neg (by omega)]; exact h12 j hj
  · dsimp only; rw [if_neg (by omega)]; exact h13 j hj
  · dsimp only; rw [if_neg (by omega), if_neg (by omega), if_neg (by omega)]; exact h14 j hj
theorem live_1 (lw : List sp_C) : ∀ (n : Nat) (s : Int) (ρ : Nat → Int) (c : Int), sp_ok ρ → (sp_live lw n s ρ c).1 1 = ρ 1 := by
  intro n
  induction n with
  | zero => intro s ρ c _; rfl
  | succ n ih =>
    intro s ρ c h
    rw [sp_live]
    split
    · rw [ih _ _ _ (ok_lvR h s)]
      have hA := ok_lvA (lw := lw) h s
      unfold sp_lvR
      rw [pasW_n hA.2.1.2 (by omega)]
      unfold sp_lvA
      split
      · exact preW_n (by omega)
      · split
        · unfold rup; rw [if_neg (by omega)]
        · rfl
    · rfl
theorem tp4_b {tn : Nat} {tb : Nat → Int} (h : ∀ j, 0 ≤ tb j ∧ tb j ≤ 255) (v : Int) : ∀ j, 0 ≤ tp4 tn tb v j ∧ tp4 tn tb v j ≤ 255 := by
  intro j
  unfold tp4
  split
  · unfold byt
    omega
  · exact h j
theorem tp20_b {tn : Nat} {tb : Nat → Int} (h : ∀ j, 0 ≤ tb j ∧ tb j ≤ 255) (a b c d e : Int) : ∀ j, 0 ≤ tp20 tn tb a b c d e j ∧ tp20 tn tb a b c d e j ≤ 255 := tp4_b (tp4_b (tp4_b (tp4_b (tp4_b h a) b) c) d) e
theorem tl_nil {M : Nat → Nat → Int} (h : M 228 8 = 0) : tlR M [] := ⟨h, Nat.zero_le _, fun k hk => absurd hk (Nat.not_lt_zero k)⟩
end PURE
