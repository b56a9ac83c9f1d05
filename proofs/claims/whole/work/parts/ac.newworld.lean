/-! the world with one text more -/
theorem fx_old {M M2 : Nat → Nat → Int} (hF : px_Fx M) (e : ∀ a, a < 264 → M2 a = M a) : px_Fx M2 := by
  intro a kd n j h1 h2 h3 h4
  rw [e a (by rw [← px_W0_len]; exact (List.getElem?_eq_some_iff.mp h1).1)]
  exact hF a kd n j h1 h2 h3 h4
theorem tx_new {sh : List (Nat × Nat)} {M : Nat → Nat → Int} (hW : px_W0 <+: sh) {sz cl : Nat} (hsz : sz ≤ 400) (hcl : cl ≤ 12) (h : M sh.length 0 = ((sh.length + 1 : Nat) : Int) ∧ M sh.length 1 = ((sh.length + 2 : Nat) : Int) ∧ M sh.length 2 = ((sh.length + 3 : Nat) : Int)) : px_tx (shT sh sz cl) M sh.length sz cl := by
  obtain ⟨g0, g1, g2, g3⟩ := shT_g (sh := sh) (sz := sz) (cl := cl)
  exact ⟨g0, g1, g2, g3, h.1, h.2.1, h.2.2, hsz, hcl, Or.inr (W_len hW)⟩
theorem W_shT {sh : List (Nat × Nat)} (hW : px_W0 <+: sh) {sz cl : Nat} : px_W0 <+: shT sh sz cl := hW.trans ((List.prefix_append _ _).trans ((List.prefix_append _ _).trans ((List.prefix_append _ _).trans (List.prefix_append _ _))))
