/-! writes that keep the world -/
theorem rg_put {sh : List (Nat × Nat)} {M : Nat → Nat → Int} (hG : px_RG sh M) {a i : Nat} {x : Int} (hx : rg x) : px_RG sh (px_up M a i x) := by
  intro b kd n j hs
  by_cases hb : b = a
  · subst hb
    rw [ask_up]
    by_cases hj : j = i
    · rw [if_pos hj]; exact ⟨fun _ => by unfold rg at hx; unfold rl; omega, fun _ => hx⟩
    · rw [if_neg hj]; exact hG b kd n j hs
  · rw [ask_ne hb]; exact hG b kd n j hs
theorem fx_laws {M : Nat → Nat → Int} (hF : px_Fx M) {i : Nat} {x : Int} : px_Fx (px_up M 11 i x) := by
  intro a kd n j h1 h2 h3 h4
  by_cases ha : a = 11
  · subst ha
    have e : px_W0[11]? = some (13, 6) := by decide +kernel
    rw [e] at h1
    exact absurd (congrArg Prod.fst (Option.some.inj h1)).symm h2
  · rw [ask_ne ha]; exact hF a kd n j h1 h2 h3 h4
theorem fx_count {M : Nat → Nat → Int} (hF : px_Fx M) {x : Int} : px_Fx (px_up M 3 9 x) := by
  intro a kd n j h1 h2 h3 h4
  by_cases ha : a = 3
  · subst ha
    rw [ask_up]
    by_cases hj : j = 9
    · subst hj
      have e : px_W0[3]? = some (0, 15) := by decide +kernel
      rw [e] at h1
      have : kd = 0 := (congrArg Prod.fst (Option.some.inj h1)).symm
      subst this
      exact absurd h3 (by decide +kernel)
    · rw [if_neg hj]; exact hF 3 kd n j h1 h2 h3 h4
  · rw [ask_ne ha]; exact hF a kd n j h1 h2 h3 h4
