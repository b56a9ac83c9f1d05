/-! the logic of the pure machine -/
section PXL
variable {cf cf2 : Nat → List Value → px_H → Option (Option Value × px_H)}
theorem px_call_mono (hc : ∀ t as h x, cf t as h = some x → cf2 t as h = some x) {k o i pc vk : Nat} {ls st : List Value} {h : px_H} {r : px_S ⊕ (Option Value × px_H)} (he : px_call cf k o i pc vk ls st h = some r) : px_call cf2 k o i pc vk ls st h = some r := by
  unfold px_call at he ⊢
  split at he
  · cases he
  · rename_i kd t n hct
    try simp only [hct]
    try dsimp only
    by_cases h0 : kd = 0
    · rw [if_pos h0] at he ⊢; exact he
    · rw [if_neg h0] at he ⊢
      by_cases h1 : kd = 1
      · rw [if_pos h1] at he ⊢; exact he
      · rw [if_neg h1] at he ⊢
        by_cases h2 : kd = 2
        · rw [if_pos h2] at he ⊢; exact he
        · rw [if_neg h2] at he ⊢
          have key : ∀ as l0, (match cf t as h with
              | some (v, h2) => px_n (pc + 3) ls (v.toList ++ l0) h2
              | none => none) = some r → (match cf2 t as h with
              | some (v, h2) => px_n (pc + 3) ls (v.toList ++ l0) h2
              | none => none) = some r := by
            intro as l0 he
            split at he
            · rename_i v h2 hx
              rw [hc _ _ _ _ hx]
              exact he
            · cases he
          by_cases h3 : kd = 3 ∨ kd = 4
          · rw [if_pos h3] at he ⊢
            split at he
            · rename_i hq
              rw [if_pos hq]
              exact key _ _ he
            · cases he
          · rw [if_neg h3] at he ⊢
            by_cases h5 : kd = 5 ∨ kd = 6
            · rw [if_pos h5] at he ⊢
              split at he
              · rename_i b r0 hd
                split at he
                · rename_i hq
                  rw [if_pos hq]
                  exact key _ _ he
                · cases he
              · cases he
            · rw [if_neg h5] at he ⊢
              by_cases h7 : kd = 7
              · rw [if_pos h7] at he ⊢
                split at he
                · rename_i b r0 hd
                  split at he
                  · rename_i kb nb hkb
                    split at he
                    · rename_i hq
                      rw [if_pos hq]
                      exact key _ _ he
                    · cases he
                  · cases he
                · rename_i b r0 hd
                  split at he
                  · rename_i hq
                    rw [if_pos hq]
                    exact key _ _ he
                  · cases he
                · cases he
              · rw [if_neg h7] at he; cases he
theorem px_exec_mono (hc : ∀ t as h x, cf t as h = some x → cf2 t as h = some x) {xs : Nat → Int} {L k len pc : Nat} {ins : Instr} {ls st : List Value} {h : px_H} {r : px_S ⊕ (Option Value × px_H)} (he : px_exec xs L cf k ins len pc ls st h = some r) : px_exec xs L cf2 k ins len pc ls st h = some r := by
  cases ins
  case invokestatic i =>
    simp only [px_exec] at he ⊢
    split at he
    · rename_i hl; rw [if_pos hl]; exact px_call_mono hc he
    · cases he
  case invokespecial i =>
    simp only [px_exec] at he ⊢
    split at he
    · rename_i hl; rw [if_pos hl]; exact px_call_mono hc he
    · cases he
  case invokevirtual i =>
    simp only [px_exec] at he ⊢
    split at he
    · rename_i hl; rw [if_pos hl]; exact px_call_mono hc he
    · cases he
  all_goals exact he
theorem px_step_mono (hc : ∀ t as h x, cf t as h = some x → cf2 t as h = some x) {xs : Nat → Int} {L k : Nat} {S : px_S} {r : px_S ⊕ (Option Value × px_H)} (he : px_step xs L cf k S = some r) : px_step xs L cf2 k S = some r := by
  unfold px_step at he ⊢
  split at he
  · rename_i ins len hf
    try simp only [hf]
    exact px_exec_mono hc he
  · cases he
theorem px_run_mono (hc : ∀ t as h x, cf t as h = some x → cf2 t as h = some x) {xs : Nat → Int} {L k : Nat} {x : Option Value × px_H} : ∀ (n n2 : Nat) (S : px_S), n ≤ n2 → px_run xs L cf k n S = some x → px_run xs L cf2 k n2 S = some x := by
  intro n
  induction n with
  | zero => intro n2 S _ he; cases he
  | succ n ih =>
    intro n2 S hn he
    obtain ⟨m, rfl⟩ : ∃ m, n2 = m + 1 := ⟨n2 - 1, by omega⟩
    simp only [px_run] at he ⊢
    split at he
    · cases he
    · rename_i S2 hs
      rw [px_step_mono hc hs]
      exact ih m S2 (by omega) he
    · rename_i r hs
      rw [px_step_mono hc hs]
      exact he
end PXL
theorem px_ev_mono {xs : Nat → Int} {L n n2 : Nat} (hn : n ≤ n2) : ∀ (d : Nat) (t : Nat) (as : List Value) (h : px_H) (x : Option Value × px_H), px_ev xs L n d t as h = some x → px_ev xs L n2 d t as h = some x := by
  intro d
  induction d with
  | zero => intro t as h x he; cases he
  | succ d ih =>
    intro t as h x he
    simp only [px_ev] at he ⊢
    split at he
    · rename_i hl
      rw [if_pos hl]
      exact px_run_mono (ih) n n2 _ hn he
    · cases he
theorem px_ev_deep {xs : Nat → Int} {L n : Nat} : ∀ (d : Nat) (t : Nat) (as : List Value) (h : px_H) (x : Option Value × px_H), px_ev xs L n d t as h = some x → px_ev xs L n (d + 1) t as h = some x := by
  intro d
  induction d with
  | zero => intro t as h x he; cases he
  | succ d ih =>
    intro t as h x he
    rw [px_ev] at he ⊢
    split at he
    · rename_i hl
      rw [if_pos hl]
      exact px_run_mono (ih) n n _ (Nat.le_refl _) he
    · cases he
/-- the frame of method k at S comes to an end with Q; calls go at most d deep -/
def px_R (xs : Nat → Int) (L d k : Nat) (S : px_S) (Q : Option Value → px_H → Prop) : Prop := ∃ n r h2, px_run xs L (px_ev xs L n d) k n S = some (r, h2) ∧ Q r h2
/-- a call of method k ends with r and h2 -/
def px_Cl (xs : Nat → Int) (L d k : Nat) (as : List Value) (h : px_H) (r : Option Value) (h2 : px_H) : Prop := ∃ n, px_ev xs L n d k as h = some (r, h2)
section PXR
variable {xs : Nat → Int} {L d k pc : Nat} {ls st : List Value} {h : px_H} {Q : Option Value → px_H → Prop}
theorem px_R_step {S S2 : px_S} (hs : ∀ cf, px_step xs L cf k S = some (.inl S2)) (G : px_R xs L d k S2 Q) : px_R xs L d k S Q := by
  obtain ⟨n, r, h2, hr, hq⟩ := G
  refine ⟨n + 1, r, h2, ?_, hq⟩
  simp only [px_run, hs]
  exact px_run_mono (fun t as h x hx => px_ev_mono (Nat.le_succ n) d t as h x hx) n n S2 (Nat.le_refl _) hr
theorem px_R_ret {S : px_S} {r : Option Value} {h2 : px_H} (hs : ∀ cf, px_step xs L cf k S = some (.inr (r, h2))) (hq : Q r h2) : px_R xs L d k S Q := ⟨1, r, h2, by simp only [px_run, hs], hq⟩
theorem px_R_callS {S S2 : px_S} {t : Nat} {as : List Value} {r : Option Value} {h h2 : px_H} (hc : px_Cl xs L d t as h r h2) (hs : ∀ cf, cf t as h = some (r, h2) → px_step xs L cf k S = some (.inl S2)) (G : px_R xs L d k S2 Q) : px_R xs L d k S Q := by
  obtain ⟨n1, hc⟩ := hc
  obtain ⟨n, r2, h3, hr, hq⟩ := G
  refine ⟨n + n1 + 1, r2, h3, ?_, hq⟩
  simp only [px_run]
  rw [hs _ (px_ev_mono (show n1 ≤ n + n1 + 1 by omega) d t as h _ hc)]
  exact px_run_mono (fun t as h x hx => px_ev_mono (show n ≤ n + n1 + 1 by omega) d t as h x hx) n (n + n1) S2 (by omega) hr
theorem px_Cl_intro {as : List Value} {r : Option Value} {h2 : px_H} (hl : (px_slots as).length ≤ px_maxL k) (G : px_R xs L d k (0, px_ent as (px_maxL k), [], h) (fun r' h' => r' = r ∧ h' = h2)) : px_Cl xs L (d + 1) k as h r h2 := by
  obtain ⟨n, r', h', hr, rfl, rfl⟩ := G
  exact ⟨n, by simp only [px_ev]; rw [if_pos hl]; exact hr⟩
theorem px_Cl_deep {as : List Value} {r : Option Value} {h2 : px_H} {d2 : Nat} (hd : d ≤ d2) (hc : px_Cl xs L d k as h r h2) : px_Cl xs L d2 k as h r h2 := by
  obtain ⟨n, hc⟩ := hc
  obtain ⟨j, rfl⟩ : ∃ j, d2 = d + j := ⟨d2 - d, by omega⟩
  refine ⟨n, ?_⟩
  clear hd
  induction j with
  | zero => exact hc
  | succ j ih => exact px_ev_deep _ _ _ _ _ ih
/-- a contract with what is left open -/
theorem px_Cl_ex {as : List Value} {P : Option Value → px_H → Prop} (hl : (px_slots as).length ≤ px_maxL k) (G : px_R xs L d k (0, px_ent as (px_maxL k), [], h) P) : ∃ r h2, P r h2 ∧ px_Cl xs L (d + 1) k as h r h2 := by
  obtain ⟨n, r', h', hr, hp⟩ := G
  exact ⟨r', h', hp, n, by simp only [px_ev]; rw [if_pos hl]; exact hr⟩
theorem px_step_of {ins : Instr} {len : Nat} {r : px_S ⊕ (Option Value × px_H)} (hf : px_fetch k pc = some (ins, len)) {cf : Nat → List Value → px_H → Option (Option Value × px_H)} (he : px_exec xs L cf k ins len pc ls st h = some r) : px_step xs L cf k (pc, ls, st, h) = some r := by
  unfold px_step
  simp only [hf]
  exact he
end PXR
