/-! the fewest words -/
section CH4
variable {xs : Nat → Int} {L d : Nat} {sh : List (Nat × Nat)} {M : Nat → Nat → Int} {n : Nat}
theorem st_sermon (hd : 44 ≤ d) (h : JJ sh M n) (hn : n < 600) {p : Int} (hp : rg p) {a : Int} (ha : rg a) {b : Int} (hb : rg b) {c : Int} (hc : rg c) {i : Int} (hi : rg i) : AskS xs L d sh M n 120 262 [.int (iI p), .int (iI a), .int (iI b), .int (iI c), .int (iI i)] := by
  obtain ⟨hn6, ⟨hW, hF, hG, hl1, hl2⟩, x, tl, ld, st, ft, sp, tn, tb, rf, dl, yf, im, hC, hR, hP⟩ := h
  have hI := hP.1
  have hlw := lwT_lw (lw_T hC hI)
  by_cases hx : (0 ≤ p ∧ p ≤ 15) ∧ (0 ≤ a ∧ a ≤ 99) ∧ (0 ≤ b ∧ b ≤ 99) ∧ (0 ≤ c ∧ c ≤ 99)
  · obtain ⟨nw, enw, hnw8⟩ : ∃ nw : Nat, x.1 0 = ((nw : Nat) : Int) ∧ nw ≤ 8 := ⟨(x.1 0).toNat, by have := hI.1.1; omega, by have := hI.1.1; omega⟩
    obtain ⟨pn, rfl⟩ : ∃ pn : Nat, p = ((pn : Nat) : Int) := ⟨p.toNat, by omega⟩
    obtain ⟨g, hg⟩ : ∃ g, g = wgF (M 252) x.1 pn a b c := ⟨_, rfl⟩
    have g0 : g 0 = a - x.1 (9 + 3 * pn) := by rw [hg]; rfl
    have g1 : g 1 = b - x.1 (9 + 3 * pn + 1) := by rw [hg]; rfl
    have g2 : g 2 = c - x.1 (9 + 3 * pn + 2) := by rw [hg]; rfl
    by_cases hi1 : -1 ≤ i
    · obtain ⟨v, M1, ⟨q1, e1⟩, c1⟩ := ct_S_sermon1 (xs := xs) (L := L) (d := d) (by omega) hW hF hG hC.1 hI.1 hlw (nw := nw) enw hnw8 (pane := pn) (by omega) hx.2.1 hx.2.2.1 hx.2.2.2 (g := g) g0 g1 g2 hi hi1
      have hR1 := RR_fr (M2 := M1) hR (fun a h1 h2 => q1.2.2 a (by first | exact List.not_mem_nil | (simp only [List.mem_cons, List.not_mem_nil, or_false]; omega)))
      have hC1 := CR_q (M2 := M1) hC (fun a ha => q1.2.2 a (by first | exact List.not_mem_nil | (simp only [List.mem_cons, List.not_mem_nil, or_false]; omega)))
      by_cases hneg : g 0 < 0 ∨ g 1 < 0 ∨ g 2 < 0
      · obtain ⟨v2, M2, ⟨q2, e2, z2⟩, c2⟩ := ct_R_sermon1 (xs := xs) (L := L) (d := d) (by omega) hW q1.1 q1.2.1 (by rw [hR1.1]; exact hI.1) (pane := pn) (by omega) hx.2.1 hx.2.2.1 hx.2.2.2 hi hi1 (by rw [hR1.1]; omega)
        have hv : v2 = v := by rw [e2, e1, if_pos hneg]
        rw [hv] at c2
        refine ⟨v, sh, M1, M2, c1, c2, by omega, ⟨hW, q2.1, q2.2.1, by omega, by omega⟩, x, tl, ld, st, ft, sp, tn, tb, rf, dl, yf, im, CR_q hC1 (fun a ha => q2.2.2 a (by first | exact List.not_mem_nil | (simp only [List.mem_cons, List.not_mem_nil, or_false]; omega))), RR_q hR1 (fun a ha => q2.2.2 a (by first | exact List.not_mem_nil | (simp only [List.mem_cons, List.not_mem_nil, or_false]; omega))) z2 (q2.2.2 230 (by decide)) (fun j _ => by rw [q2.2.2 233 (by decide)]), PO_s hP⟩
      · have hwg : wgF (M1 252) (rr_ M1) pn a b c = g := by rw [hg, hR1.1, q1.2.2 252 (by decide)]
        have hm0 : ∀ w, 0 ≤ sp_mu (lwOf x) x.1 pn w := fun w => (mu_b (lwOf x) x.1 pn w).1
        have hh3 : ∀ w, w < 8 → 0 ≤ (fun w => x.1 (69 + w)) w ∧ (fun w => x.1 (69 + w)) w ≤ 2 := fun w hw => hI.1.2.2.2.2.2.2.2.2.2.2.2.2.1 w hw
        have hgB : gB g := fun j hj => by
          have u0 := hI.1.2.2.2.2.2.2.2.2.2.1 (3 * pn) (by omega)
          have u1 := hI.1.2.2.2.2.2.2.2.2.2.1 (3 * pn + 1) (by omega)
          have u2 := hI.1.2.2.2.2.2.2.2.2.2.1 (3 * pn + 2) (by omega)
          rw [← Nat.add_assoc] at u1 u2
          rcases (show j = 0 ∨ j = 1 ∨ j = 2 by omega) with rfl | rfl | rfl <;> omega
        obtain ⟨al, hal⟩ : ∃ al, al = alF (sp_mu (lwOf x) x.1 pn) (fun w => x.1 (69 + w)) 0 g := ⟨_, rfl⟩
        have hser : ∃ f0 res : Nat, (al < 100000000 → i < al → srS (sp_mu (lwOf x) x.1 pn) (fun w => x.1 (69 + w)) nw al i f0 0 0 g = some res) ∧ (al < 100000000 → i < al → i ≠ -1 → (seG (sp_mu (lwOf x) x.1 pn) (fun w => x.1 (69 + w)) nw g (i + 1).toNat).2 = ((res : Nat) : Int)) := by
          by_cases u : al < 100000000 ∧ i < al ∧ i ≠ -1
          · obtain ⟨m, hm⟩ : ∃ m : Nat, i = ((m : Nat) : Int) := ⟨i.toNat, by omega⟩
            rw [hal] at u
            obtain ⟨f0, hf0⟩ := srS_seG hnw8 (mu_z enw) hm0 hh3 hgB u.1 (i := m) (by omega) (m + 1) 0 (by omega)
            obtain ⟨-, -, w3⟩ := seG_inv hnw8 (mu_z enw) hm0 hh3 hgB u.1 (m + 1) (by omega)
            obtain ⟨y, -, w4, -⟩ := w3 (by omega)
            refine ⟨f0, (seG (sp_mu (lwOf x) x.1 pn) (fun w => x.1 (69 + w)) nw g (m + 1)).2.toNat, fun _ _ => ?_, fun _ _ _ => ?_⟩
            · rw [hm, hal]; exact hf0
            · rw [show (i + 1).toNat = m + 1 by omega]; omega
          · refine ⟨1, 0, fun u1 u2 => ?_, fun u1 u2 u3 => absurd ⟨u1, u2, u3⟩ u⟩
            rw [srS, if_pos (by omega)]
        obtain ⟨f0, res, s1, s2⟩ := hser
        obtain ⟨v2, M2, ⟨q2, e2, z2⟩, c2⟩ := ct_R_sermon2 (xs := xs) (L := L) (d := d) (by omega) hW q1.1 q1.2.1 (by rw [hR1.1]; exact hI.1) (lw_R hR1 hI) hR1.2.2.2.2.2.2.2.2.2.1 (pane := pn) (by omega) (nw := nw) (by rw [hR1.1]; exact enw) hi hi1 hx.2.1 hx.2.2.1 hx.2.2.2 (by rw [hR1.1]; omega) (by rw [hR1.1]; omega) (by rw [hR1.1]; omega) (f0 := f0) (res := res) (by rw [hwg, hR1.1, ← hal]; exact s1)
        have hv : v2 = v := by
          rw [e2, e1, hwg, hR1.1, ← hal, if_neg hneg]
          by_cases u1 : 100000000 ≤ al ∨ al ≤ i
          · rw [if_pos u1, if_pos u1]
          · rw [if_neg u1, if_neg u1]
            by_cases u2 : i = -1
            · rw [if_pos u2, if_pos u2]
            · rw [if_neg u2, if_neg u2, s2 (by omega) (by omega) u2]
        rw [hv] at c2
        refine ⟨v, sh, M1, M2, c1, c2, by omega, ⟨hW, q2.1, q2.2.1, by omega, by omega⟩, x, tl, ld, st, ft, sp, tn, tb, rf, dl, yf, im, CR_q hC1 (fun a ha => q2.2.2 a (by first | exact List.not_mem_nil | (simp only [List.mem_cons, List.not_mem_nil, or_false]; omega))), RR_q hR1 (fun a ha => q2.2.2 a (by first | exact List.not_mem_nil | (simp only [List.mem_cons, List.not_mem_nil, or_false]; omega))) z2 (q2.2.2 230 (by decide)) (fun j _ => by rw [q2.2.2 233 (by decide)]), PO_s hP⟩
    · obtain ⟨v, M1, ⟨q1, e1⟩, c1⟩ := ct_S_sermon2 (xs := xs) (L := L) (d := d) (by omega) hW hF hG hC.1 hI.1 hlw (nw := nw) enw hnw8 (pane := pn) (by omega) hx.2.1 hx.2.2.1 hx.2.2.2 (g := g) g0 g1 g2 hi (by omega)
      have hR1 := RR_fr (M2 := M1) hR (fun a h1 h2 => q1.2.2 a (by first | exact List.not_mem_nil | (simp only [List.mem_cons, List.not_mem_nil, or_false]; omega)))
      have hC1 := CR_q (M2 := M1) hC (fun a ha => q1.2.2 a (by first | exact List.not_mem_nil | (simp only [List.mem_cons, List.not_mem_nil, or_false]; omega)))
      obtain ⟨v2, M2, ⟨q2, e2, z2⟩, c2⟩ := ct_R_sermon0 (xs := xs) (L := L) (d := d) (by omega) hW q1.1 q1.2.1 hp ha hb hc hi (by omega)
      have hv : v2 = v := by rw [e2, e1]
      rw [hv] at c2
      refine ⟨v, sh, M1, M2, c1, c2, by omega, ⟨hW, q2.1, q2.2.1, by omega, by omega⟩, x, tl, ld, st, ft, sp, tn, tb, rf, dl, yf, im, CR_q hC1 (fun a ha => q2.2.2 a (by first | exact List.not_mem_nil | (simp only [List.mem_cons, List.not_mem_nil, or_false]; omega))), RR_q hR1 (fun a ha => q2.2.2 a (by first | exact List.not_mem_nil | (simp only [List.mem_cons, List.not_mem_nil, or_false]; omega))) z2 (q2.2.2 230 (by decide)) (fun j _ => by rw [q2.2.2 233 (by decide)]), PO_s hP⟩
  · obtain ⟨v, M1, ⟨q1, e1⟩, c1⟩ := ct_S_sermon0 (xs := xs) (L := L) (d := d) (by omega) hW hF hG hp ha hb hc hi hx
    have hR1 := RR_fr (M2 := M1) hR (fun a h1 h2 => q1.2.2 a (by first | exact List.not_mem_nil | (simp only [List.mem_cons, List.not_mem_nil, or_false]; omega)))
    have hC1 := CR_q (M2 := M1) hC (fun a ha => q1.2.2 a (by first | exact List.not_mem_nil | (simp only [List.mem_cons, List.not_mem_nil, or_false]; omega)))
    obtain ⟨v2, M2, ⟨q2, e2, z2⟩, c2⟩ := ct_R_sermon0 (xs := xs) (L := L) (d := d) (by omega) hW q1.1 q1.2.1 hp ha hb hc hi (fun q => hx ⟨q.1, q.2.1, q.2.2.1, q.2.2.2.1⟩)
    have hv : v2 = v := by rw [e2, e1]
    rw [hv] at c2
    refine ⟨v, sh, M1, M2, c1, c2, by omega, ⟨hW, q2.1, q2.2.1, by omega, by omega⟩, x, tl, ld, st, ft, sp, tn, tb, rf, dl, yf, im, CR_q hC1 (fun a ha => q2.2.2 a (by first | exact List.not_mem_nil | (simp only [List.mem_cons, List.not_mem_nil, or_false]; omega))), RR_q hR1 (fun a ha => q2.2.2 a (by first | exact List.not_mem_nil | (simp only [List.mem_cons, List.not_mem_nil, or_false]; omega))) z2 (q2.2.2 230 (by decide)) (fun j _ => by rw [q2.2.2 233 (by decide)]), PO_s hP⟩

end CH4
