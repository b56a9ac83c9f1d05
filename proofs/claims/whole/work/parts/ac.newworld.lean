/-! the world with one text more -/
theorem fx_old {M M2 : Nat → Nat → Int} (hF : px_Fx M) (e : ∀ a, a < 264 → M2 a = M a) : px_Fx M2 := by
  intro a kd n j h1 h2 h3 h4
  rw [e a (by rw [← px_W0_len]; exact (List.getElem?_eq_some_iff.mp h1).1)]
  exact hF a kd n j h1 h2 h3 h4
theorem tx_new {sh : List (Nat × Nat)} {M : Nat → Nat → Int} (hW : px_W0 <+: sh) {sz cl : Nat} (hsz : sz ≤ 400) (hcl : cl ≤ 12) (h : M sh.length 0 = ((sh.length + 1 : Nat) : Int) ∧ M sh.length 1 = ((sh.length + 2 : Nat) : Int) ∧ M sh.length 2 = ((sh.length + 3 : Nat) : Int)) : px_tx (shT sh sz cl) M sh.length sz cl := by
  obtain ⟨g0, g1, g2, g3⟩ := shT_g (sh := sh) (sz := sz) (cl := cl)
  exact ⟨g0, g1, g2, g3, h.1, h.2.1, h.2.2, hsz, hcl, Or.inr (W_len hW)⟩
theorem W_shT {sh : List (Nat × Nat)} (hW : px_W0 <+: sh) {sz cl : Nat} : px_W0 <+: shT sh sz cl := hW.trans ((List.prefix_append _ _).trans ((List.prefix_append _ _).trans ((List.prefix_append _ _).trans (List.prefix_append _ _))))
theorem rg_new {sh : List (Nat × Nat)} {M0 M : Nat → Nat → Int} (hW : px_W0 <+: sh) (hG : px_RG sh M0) (hlen : sh.length ≤ 100000) {sz cl : Nat} (hsz : sz ≤ 400) (hcl : cl ≤ 12) (h5 : M0 201 5 = 0 ∨ M0 201 5 = 1) (e : ∀ a, a < sh.length → M a = M0 a) (h : M sh.length 0 = ((sh.length + 1 : Nat) : Int) ∧ M sh.length 1 = ((sh.length + 2 : Nat) : Int) ∧ M sh.length 2 = ((sh.length + 3 : Nat) : Int)) (h2 : M sh.length 3 = ((sz : Nat) : Int) ∧ M sh.length 4 = ((cl : Nat) : Int) ∧ M sh.length 5 = M0 201 5 ∧ ∀ j, 6 ≤ j → rg (M sh.length j)) (a1 : ∀ j, M (sh.length + 1) j = if j < sz then M0 202 j else 0) (a2 : ∀ j, M (sh.length + 2) j = if j < sz then M0 203 j else 0) (a3 : ∀ j, M (sh.length + 3) j = if j < 8 * cl then M0 204 j else 0) : px_RG (shT sh sz cl) M := by
  intro a kd n j hs
  have key : rg (M a j) → (px_ty kd j = 1 → rl (M a j)) ∧ (px_ty kd j ≠ 1 → rg (M a j)) := fun z => ⟨fun _ => by unfold rg at z; unfold rl; omega, fun _ => z⟩
  have hl : a < sh.length + 4 := by
    have := (List.getElem?_eq_some_iff.mp hs).1
    simp only [shT, List.length_append, List.length_cons, List.length_nil] at this
    omega
  have arr : ∀ (x : Int), (j < 400 ∨ True) → rg x → rg x := fun _ _ z => z
  by_cases ha : a < sh.length
  · have hs2 : sh[a]? = some (kd, n) := by
      rw [← hs]
      show sh[a]? = ((((sh ++ [(6, 6)]) ++ [(10, sz)]) ++ [(10, sz)]) ++ [(10, 8 * cl)])[a]?
      rw [List.getElem?_append_left (by simp; omega), List.getElem?_append_left (by simp; omega), List.getElem?_append_left (by simp; omega), List.getElem?_append_left ha]
    rw [e a ha]
    exact hG a kd n j hs2
  · refine key ?_
    rcases (show a = sh.length ∨ a = sh.length + 1 ∨ a = sh.length + 2 ∨ a = sh.length + 3 by omega) with rfl | rfl | rfl | rfl
    · by_cases hj : 6 ≤ j
      · exact h2.2.2.2 j hj
      · rcases (show j = 0 ∨ j = 1 ∨ j = 2 ∨ j = 3 ∨ j = 4 ∨ j = 5 by omega) with rfl | rfl | rfl | rfl | rfl | rfl
        · rw [h.1]; unfold rg; omega
        · rw [h.2.1]; unfold rg; omega
        · rw [h.2.2]; unfold rg; omega
        · rw [h2.1]; unfold rg; omega
        · rw [h2.2.1]; unfold rg; omega
        · rw [h2.2.2.1]; unfold rg; omega
    · rw [a1]; split
      · exact (hG 202 10 400 j (ws_202 hW)).2 (by rw [px_ty10]; decide)
      · unfold rg; omega
    · rw [a2]; split
      · exact (hG 203 10 400 j (ws_203 hW)).2 (by rw [px_ty10]; decide)
      · unfold rg; omega
    · rw [a3]; split
      · exact (hG 204 10 96 j (ws_204 hW)).2 (by rw [px_ty10]; decide)
      · unfold rg; omega
