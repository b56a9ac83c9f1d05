/-! tape, rows, years, images -/
section CH2
variable {xs : Nat → Int} {L d : Nat} {sh : List (Nat × Nat)} {M : Nat → Nat → Int} {n : Nat}
theorem st_end (hd : 44 ≤ d) (h : JJ sh M n) (hn : n < 600) {a : Int} (ha : rg a) : AskS xs L d sh M n 50 217 [.int (iI a)] := by
  obtain ⟨hn6, ⟨hW, hF, hG, hl1, hl2⟩, x, tl, ld, st, ft, sp, tn, tb, rf, dl, yf, im, hC, hR, hP⟩ := h
  have hI := hP.1
  have hlw := lwT_lw (lw_T hC hI)
  obtain ⟨v, M1, ⟨q1, e1, h1, f1⟩, c1⟩ := ct_S_end (xs := xs) (L := L) (d := d) (by omega) hW hF hG ha
  have hR1 := RR_fr (M2 := M1) hR (fun a h1 h2 => q1.2.2 a (by first | exact List.not_mem_nil | (simp only [List.mem_cons, List.not_mem_nil, or_false]; omega)))
  obtain ⟨v2, M2, ⟨q2, e2, h2, z2⟩, c2⟩ := ct_R_end (xs := xs) (L := L) (d := d) (by omega) hW q1.1 q1.2.1 ha
  rw [hC.2.2.2.1] at e1 h1
  rw [hR1.2.2.2.1] at e2 h2
  have hv : v2 = v := by rw [e2, e1]
  subst hv
  obtain ⟨tn2, ht2, ht4⟩ : ∃ tn2 : Nat, (if 0 ≤ a ∧ a ≤ ((tn : Nat) : Int) then a else ((tn : Nat) : Int)) = ((tn2 : Nat) : Int) ∧ tn2 ≤ 400 := by
    have := hP.2.2.1
    by_cases c : 0 ≤ a ∧ a ≤ ((tn : Nat) : Int)
    · rw [if_pos c]; exact ⟨a.toNat, by omega, by omega⟩
    · rw [if_neg c]; exact ⟨tn, rfl, this⟩
  rw [ht2] at h1 h2
  have hC1 := CR_all (x := x) (tn2 := tn2) (rf2 := rf) hC (fun a ha => q1.2.2 a (by first | exact List.not_mem_nil | (simp only [List.mem_cons, List.not_mem_nil, or_false]; omega))) (f1 14 (by decide)) ((rc_eo q1.2.2 (by decide)).trans hC.1) (ctl_eq hC.2.2.1 (fun a h1 h2 => q1.2.2 a (by first | exact List.not_mem_nil | (simp only [List.mem_cons, List.not_mem_nil, or_false]; omega)))) h1 ((f1 12 (by decide)).trans hC.2.2.2.2.1.1) ((f1 13 (by decide)).trans hC.2.2.2.2.1.2) ((congrFun (q1.2.2 200 (by decide)) 1).trans hC.2.2.2.2.2.1) ((congrFun (q1.2.2 98 (by decide)) 0).trans hC.2.2.2.2.2.2.1) ((q1.2.2 199 (by decide)).trans hC.2.2.2.2.2.2.2.1) (by rw [q1.2.2 205 (by decide)]; exact hC.2.2.2.2.2.2.2.2.1) (by rw [q1.2.2 202 (by decide), q1.2.2 203 (by decide)]; exact hC.2.2.2.2.2.2.2.2.2.1)
  have hC2 := CR_q hC1 (fun a ha => q2.2.2 a (by first | exact List.not_mem_nil | (simp only [List.mem_cons, List.not_mem_nil, or_false]; omega)))
  have hR2 := RR_all (x := x) (tn2 := tn2) hR1 (fun a ha => q2.2.2 a (by first | exact List.not_mem_nil | (simp only [List.mem_cons, List.not_mem_nil, or_false]; omega))) ((show rr_ M2 = rr_ M1 from funext fun j => by unfold rr_; rw [q2.2.2 230 (by decide)]).trans hR1.1) (fun j _ => by rw [q2.2.2 230 (by decide)]) (tlR_8 hR1.2.2.1 (z2 8 (by decide) (by decide)) (fun j _ => by rw [q2.2.2 233 (by decide)]) (q2.2.2 234 (by decide))) h2 ((z2 11 (by decide) (by decide)).trans hR1.2.2.2.2.1.1) ((z2 1 (by decide) (by decide)).trans hR1.2.2.2.2.1.2) ((z2 18 (by decide) (by decide)).trans hR1.2.2.2.2.2.1) ((z2 57 (by decide) (by decide)).trans hR1.2.2.2.2.2.2.1) ((q2.2.2 237 (by decide)).trans hR1.2.2.2.2.2.2.2.1) ((q2.2.2 229 (by decide)).trans hR1.2.2.2.2.2.2.2.2.1) ((z2 20 (by decide) (by decide)).trans hR1.2.2.2.2.2.2.2.2.2.1) ((z2 61 (by decide) (by decide)).trans hR1.2.2.2.2.2.2.2.2.2.2.1.1) ((q2.2.2 263 (by decide)).trans hR1.2.2.2.2.2.2.2.2.2.2.1.2)
  exact ⟨v2, sh, M1, M2, c1, c2, by omega, ⟨hW, q2.1, q2.2.1, by omega, by omega⟩, _, _, _, _, _, _, _, _, _, _, _, _, hC2, hR2, hI, hP.2.1, ht4, hP.2.2.2.1, rf_b hP.2.2.2.2.1, hP.2.2.2.2.2⟩

theorem st_feed (hd : 44 ≤ d) (h : JJ sh M n) (hn : n < 600) {a : Int} (ha : rg a) {b : Int} (hb : rg b) {c : Int} (hc : rg c) {e : Int} (he : rg e) {f : Int} (hf : rg f) : AskS xs L d sh M n 48 215 [.int (iI a), .int (iI b), .int (iI c), .int (iI e), .int (iI f)] := by
  obtain ⟨hn6, ⟨hW, hF, hG, hl1, hl2⟩, x, tl, ld, st, ft, sp, tn, tb, rf, dl, yf, im, hC, hR, hP⟩ := h
  have hI := hP.1
  have hlw := lwT_lw (lw_T hC hI)
  obtain ⟨v, M1, ⟨q1, e1, h9, h1, f1⟩, c1⟩ := ct_S_feed (xs := xs) (L := L) (d := d) (by omega) hW hF hG (tn := tn) hC.2.2.2.1 hP.2.2.1 ha hb hc he hf
  have hR1 := RR_fr (M2 := M1) hR (fun a h1 h2 => q1.2.2 a (by first | exact List.not_mem_nil | (simp only [List.mem_cons, List.not_mem_nil, or_false]; omega)))
  obtain ⟨v2, M2, ⟨q2, e2, h7, h2, z2⟩, c2⟩ := ct_R_feed (xs := xs) (L := L) (d := d) (by omega) hW q1.1 q1.2.1 (tn := tn) hR1.2.2.2.1 hP.2.2.1 ha hb hc he hf
  have hv : v2 = v := by rw [e2, e1]
  subst hv
  rw [hC.2.2.2.2.2.2.2.1] at h9
  rw [hR1.2.2.2.2.2.2.2.1] at h7
  obtain ⟨tn2, ht2, ht4⟩ : ∃ tn2 : Nat, (if tn + 20 ≤ 400 then ((tn + 20 : Nat) : Int) else ((tn : Nat) : Int)) = ((tn2 : Nat) : Int) ∧ tn2 ≤ 400 := by
    have := hP.2.2.1
    by_cases c : tn + 20 ≤ 400
    · rw [if_pos c]; exact ⟨tn + 20, rfl, c⟩
    · rw [if_neg c]; exact ⟨tn, rfl, this⟩
  rw [ht2] at h1 h2
  have hbt : ∀ j, 0 ≤ (if tn + 20 ≤ 400 then tp20 tn tb a b c e f else tb) j ∧ (if tn + 20 ≤ 400 then tp20 tn tb a b c e f else tb) j ≤ 255 := by
    split
    · exact tp20_b hP.2.2.2.1 a b c e f
    · exact hP.2.2.2.1
  have hC1 := CR_all (x := x) (tn2 := tn2) (rf2 := rf) hC (fun a ha => q1.2.2 a (by first | exact List.not_mem_nil | (simp only [List.mem_cons, List.not_mem_nil, or_false]; omega))) (f1 14 (by decide)) ((rc_eo q1.2.2 (by decide)).trans hC.1) (ctl_eq hC.2.2.1 (fun a h1 h2 => q1.2.2 a (by first | exact List.not_mem_nil | (simp only [List.mem_cons, List.not_mem_nil, or_false]; omega)))) h1 ((f1 12 (by decide)).trans hC.2.2.2.2.1.1) ((f1 13 (by decide)).trans hC.2.2.2.2.1.2) ((congrFun (q1.2.2 200 (by decide)) 1).trans hC.2.2.2.2.2.1) ((congrFun (q1.2.2 98 (by decide)) 0).trans hC.2.2.2.2.2.2.1) h9 (by rw [q1.2.2 205 (by decide)]; exact hC.2.2.2.2.2.2.2.2.1) (by rw [q1.2.2 202 (by decide), q1.2.2 203 (by decide)]; exact hC.2.2.2.2.2.2.2.2.2.1)
  have hC2 := CR_q hC1 (fun a ha => q2.2.2 a (by first | exact List.not_mem_nil | (simp only [List.mem_cons, List.not_mem_nil, or_false]; omega)))
  have hR2 := RR_all (x := x) (tn2 := tn2) hR1 (fun a ha => q2.2.2 a (by first | exact List.not_mem_nil | (simp only [List.mem_cons, List.not_mem_nil, or_false]; omega))) ((show rr_ M2 = rr_ M1 from funext fun j => by unfold rr_; rw [q2.2.2 230 (by decide)]).trans hR1.1) (fun j _ => by rw [q2.2.2 230 (by decide)]) (tlR_8 hR1.2.2.1 (z2 8 (by decide) (by decide)) (fun j _ => by rw [q2.2.2 233 (by decide)]) (q2.2.2 234 (by decide))) h2 ((z2 11 (by decide) (by decide)).trans hR1.2.2.2.2.1.1) ((z2 1 (by decide) (by decide)).trans hR1.2.2.2.2.1.2) ((z2 18 (by decide) (by decide)).trans hR1.2.2.2.2.2.1) ((z2 57 (by decide) (by decide)).trans hR1.2.2.2.2.2.2.1) h7 ((q2.2.2 229 (by decide)).trans hR1.2.2.2.2.2.2.2.2.1) ((z2 20 (by decide) (by decide)).trans hR1.2.2.2.2.2.2.2.2.2.1) ((z2 61 (by decide) (by decide)).trans hR1.2.2.2.2.2.2.2.2.2.2.1.1) ((q2.2.2 263 (by decide)).trans hR1.2.2.2.2.2.2.2.2.2.2.1.2)
  exact ⟨v2, sh, M1, M2, c1, c2, by omega, ⟨hW, q2.1, q2.2.1, by omega, by omega⟩, _, _, _, _, _, _, _, _, _, _, _, _, hC2, hR2, hI, hP.2.1, ht4, hbt, rf_b hP.2.2.2.2.1, hP.2.2.2.2.2⟩

theorem st_row (hd : 44 ≤ d) (h : JJ sh M n) (hn : n < 600)  : AskS xs L d sh M n 51 213 [] := by
  obtain ⟨hn6, ⟨hW, hF, hG, hl1, hl2⟩, x, tl, ld, st, ft, sp, tn, tb, rf, dl, yf, im, hC, hR, hP⟩ := h
  have hI := hP.1
  have hlw := lwT_lw (lw_T hC hI)
  by_cases h0 : tn = 0
  · subst h0
    obtain ⟨v, M1, ⟨q1, e1, s1, b1, f1⟩, c1⟩ := ct_S_row0 (xs := xs) (L := L) (d := d) (by omega) hW hF hG (CC_bd hC.2.2.2.2.2.2.2.2.1 hn6 hP.2.2.2.2.1) hC.2.2.2.1
    have hR1 := RR_fr (M2 := M1) hR (fun a h1 h2 => q1.2.2 a (by first | exact List.not_mem_nil | (simp only [List.mem_cons, List.not_mem_nil, or_false]; omega)))
    obtain ⟨v2, M2, ⟨q2, e2, s2, b2, h13, z2⟩, c2⟩ := ct_R_row0 (xs := xs) (L := L) (d := d) (by omega) hW q1.1 q1.2.1 (by rw [hR1.2.2.2.2.2.2.2.2.1]; exact rf_bd hn6 hP.2.2.2.2.1) hR1.2.2.2.1
    have hv : v2 = v := by rw [e2, e1]
    subst hv
    have hC1 := CR_up (x := x) (rf2 := bmp rf (-6)) hC (fun a ha => q1.2.2 a (by first | exact List.not_mem_nil | (simp only [List.mem_cons, List.not_mem_nil, or_false]; omega))) f1 s1 ((rc_eo q1.2.2 (by decide)).trans hC.1) (ctl_eq hC.2.2.1 (fun a h1 h2 => q1.2.2 a (by first | exact List.not_mem_nil | (simp only [List.mem_cons, List.not_mem_nil, or_false]; omega)))) (by rw [b1]; exact CC_b hC.2.2.2.2.2.2.2.2.1 (by omega))
    have hC2 := CR_q hC1 (fun a ha => q2.2.2 a (by first | exact List.not_mem_nil | (simp only [List.mem_cons, List.not_mem_nil, or_false]; omega)))
    have hR2 := RR_all (x := x) (tn2 := 0) hR1 (fun a ha => q2.2.2 a (by first | exact List.not_mem_nil | (simp only [List.mem_cons, List.not_mem_nil, or_false]; omega))) ((show rr_ M2 = rr_ M1 from funext fun j => by unfold rr_; rw [q2.2.2 230 (by decide)]).trans hR1.1) (fun j _ => by rw [q2.2.2 230 (by decide)]) (tlR_8 hR1.2.2.1 (z2 8 (by decide) (by decide)) (fun j _ => by rw [q2.2.2 233 (by decide)]) (q2.2.2 234 (by decide))) h13 ((z2 11 (by decide) (by decide)).trans hR1.2.2.2.2.1.1) s2 ((z2 18 (by decide) (by decide)).trans hR1.2.2.2.2.2.1) ((z2 57 (by decide) (by decide)).trans hR1.2.2.2.2.2.2.1) ((q2.2.2 237 (by decide)).trans hR1.2.2.2.2.2.2.2.1) (by rw [b2, hR1.2.2.2.2.2.2.2.2.1]) ((z2 20 (by decide) (by decide)).trans hR1.2.2.2.2.2.2.2.2.2.1) ((z2 61 (by decide) (by decide)).trans hR1.2.2.2.2.2.2.2.2.2.2.1.1) ((q2.2.2 263 (by decide)).trans hR1.2.2.2.2.2.2.2.2.2.2.1.2)
    exact ⟨v2, sh, M1, M2, c1, c2, by omega, ⟨hW, q2.1, q2.2.1, by omega, by omega⟩, _, _, _, _, _, _, _, _, _, _, _, _, hC2, hR2, hI, hP.2.1, hP.2.2.1, hP.2.2.2.1, bmp_b hP.2.2.2.2.1 _, hP.2.2.2.2.2⟩
  · obtain ⟨v, M1, ⟨q1, e1, r1, l1, h1, t1, s1, b1, f1⟩, c1⟩ := ct_S_row1 (xs := xs) (L := L) (d := d) (by omega) hW hF hG (by rw [hC.1]; exact hI.1) (CC_bd hC.2.2.2.2.2.2.2.2.1 hn6 hP.2.2.2.2.1) hC.2.2.1.1 (tn := tn) hC.2.2.2.1 hP.2.2.1 (by omega)
    have hR1 := RR_fr (M2 := M1) hR (fun a h1 h2 => q1.2.2 a (by first | exact List.not_mem_nil | (simp only [List.mem_cons, List.not_mem_nil, or_false]; omega)))
    obtain ⟨v2, M2, ⟨q2, e2, r2, n9, l2, h2, s2, b2, t2, z2⟩, c2⟩ := ct_R_row1 (xs := xs) (L := L) (d := d) (by omega) hW q1.1 q1.2.1 (by rw [hR1.1]; exact hI.1) (by rw [hR1.2.2.2.2.2.2.2.2.1]; exact rf_bd hn6 hP.2.2.2.2.1) (tn := tn) hR1.2.2.2.1 hP.2.2.1 (by omega)
    rw [hC.2.2.2.2.2.2.2.1] at e1 r1 l1
    rw [hR1.2.2.2.2.2.2.2.1] at e2 r2 l2
    rw [hC.1] at r1
    rw [hR1.1] at r2
    have hv : v2 = v := by rw [e2, e1]
    subst hv
    have hC1 := CR_all (x := x) (tn2 := 0) (rf2 := rf) (tl2 := []) hC (fun a ha => q1.2.2 a (by first | exact List.not_mem_nil | (simp only [List.mem_cons, List.not_mem_nil, or_false]; omega))) (f1 14 (by decide)) r1 (ctl_clear hC.2.2.1.1 t1) h1 l1 s1 ((congrFun (q1.2.2 200 (by decide)) 1).trans hC.2.2.2.2.2.1) ((congrFun (q1.2.2 98 (by decide)) 0).trans hC.2.2.2.2.2.2.1) ((q1.2.2 199 (by decide)).trans hC.2.2.2.2.2.2.2.1) (by rw [b1]; exact hC.2.2.2.2.2.2.2.2.1) (by rw [q1.2.2 202 (by decide), q1.2.2 203 (by decide)]; exact hC.2.2.2.2.2.2.2.2.2.1)
    have hC2 := CR_q hC1 (fun a ha => q2.2.2 a (by first | exact List.not_mem_nil | (simp only [List.mem_cons, List.not_mem_nil, or_false]; omega)))
    have hR2 := RR_all (x := x) (tn2 := 0) (tl2 := []) hR1 (fun a ha => q2.2.2 a (by first | exact List.not_mem_nil | (simp only [List.mem_cons, List.not_mem_nil, or_false]; omega))) r2 n9 (tl_nil t2) h2 l2 s2 ((z2 18 (by decide) (by decide)).trans hR1.2.2.2.2.2.1) ((z2 57 (by decide) (by decide)).trans hR1.2.2.2.2.2.2.1) ((q2.2.2 237 (by decide)).trans hR1.2.2.2.2.2.2.2.1) (by rw [b2, hR1.2.2.2.2.2.2.2.2.1]) ((z2 20 (by decide) (by decide)).trans hR1.2.2.2.2.2.2.2.2.2.1) ((z2 61 (by decide) (by decide)).trans hR1.2.2.2.2.2.2.2.2.2.2.1.1) ((q2.2.2 263 (by decide)).trans hR1.2.2.2.2.2.2.2.2.2.2.1.2)
    exact ⟨v2, sh, M1, M2, c1, c2, by omega, ⟨hW, q2.1, q2.2.1, by omega, by omega⟩, _, _, _, _, _, _, _, _, _, _, _, _, hC2, hR2, IOK_up hI (ok_rw hI.1 _) (by rw [rw_n (by omega)]; exact hI.2.1) (rw_n (by omega) _), trlOK_nil, Nat.zero_le _, hP.2.2.2.1, rf_b hP.2.2.2.2.1, hP.2.2.2.2.2⟩

theorem st_years (hd : 44 ≤ d) (h : JJ sh M n) (hn : n < 600) {a : Int} (ha : rg a) {b : Int} (hb : rg b) : AskS xs L d sh M n 166 300 [.int (iI a), .int (iI b)] := by
  obtain ⟨hn6, ⟨hW, hF, hG, hl1, hl2⟩, x, tl, ld, st, ft, sp, tn, tb, rf, dl, yf, im, hC, hR, hP⟩ := h
  have hI := hP.1
  have hlw := lwT_lw (lw_T hC hI)
  by_cases hx : (0 ≤ a ∧ a ≤ 1000000) ∧ 1 ≤ b ∧ b ≤ 60
  · by_cases h0w : x.1 0 = 0
    · obtain ⟨v, M1, ⟨q1, e1, s1, b1, f1⟩, c1⟩ := ct_S_years0 (xs := xs) (L := L) (d := d) (by omega) hW hF hG (CC_bd hC.2.2.2.2.2.2.2.2.1 hn6 hP.2.2.2.2.1) hx.1 hx.2 (by rw [hC.1]; exact h0w)
      have hR1 := RR_fr (M2 := M1) hR (fun a h1 h2 => q1.2.2 a (by first | exact List.not_mem_nil | (simp only [List.mem_cons, List.not_mem_nil, or_false]; omega)))
      obtain ⟨v2, M2, ⟨q2, e2, s2, b2, z2⟩, c2⟩ := ct_R_years0 (xs := xs) (L := L) (d := d) (by omega) hW q1.1 q1.2.1 (by rw [hR1.2.2.2.2.2.2.2.2.1]; exact rf_bd hn6 hP.2.2.2.2.1) hx.1 hx.2 (by rw [hR1.1]; exact h0w)
      have hv : v2 = v := by rw [e2, e1]
      subst hv
      have hC1 := CR_up (x := x) (rf2 := bmp rf (-3)) hC (fun a ha => q1.2.2 a (by first | exact List.not_mem_nil | (simp only [List.mem_cons, List.not_mem_nil, or_false]; omega))) f1 s1 ((rc_eo q1.2.2 (by decide)).trans hC.1) (ctl_eq hC.2.2.1 (fun a h1 h2 => q1.2.2 a (by first | exact List.not_mem_nil | (simp only [List.mem_cons, List.not_mem_nil, or_false]; omega)))) (by rw [b1]; exact CC_b hC.2.2.2.2.2.2.2.2.1 (by omega))
      have hC2 := CR_q hC1 (fun a ha => q2.2.2 a (by first | exact List.not_mem_nil | (simp only [List.mem_cons, List.not_mem_nil, or_false]; omega)))
      have hR2 := RR_up (x := x) hR1 (fun a ha => q2.2.2 a (by first | exact List.not_mem_nil | (simp only [List.mem_cons, List.not_mem_nil, or_false]; omega))) (fun j h1 h2 => z2 j h1 (fun q => h2 (by simp only [List.mem_cons, List.not_mem_nil, or_false] at q ⊢; omega))) s2 ((show rr_ M2 = rr_ M1 from funext fun j => by unfold rr_; rw [q2.2.2 230 (by decide)]).trans hR1.1) (fun j _ => by rw [q2.2.2 230 (by decide)]) (tlR_8 hR1.2.2.1 (z2 8 (by decide) (by decide)) (fun j _ => by rw [q2.2.2 233 (by decide)]) (q2.2.2 234 (by decide))) (by rw [b2, hR1.2.2.2.2.2.2.2.2.1])
      exact ⟨v2, sh, M1, M2, c1, c2, by omega, ⟨hW, q2.1, q2.2.1, by omega, by omega⟩, _, _, _, _, _, _, _, _, _, _, _, _, hC2, hR2, hI, hP.2.1, hP.2.2.1, hP.2.2.2.1, bmp_b hP.2.2.2.2.1 _, hP.2.2.2.2.2⟩
    · have hw0 : 0 < x.1 0 := by have := hI.1.1; omega
      obtain ⟨v, M1, ⟨q1, e1, r1, y1, s1, b1, f1⟩, c1⟩ := ct_S_years1 (xs := xs) (L := L) (d := d) (by omega) hW hF hG (by rw [hC.1]; exact hI.1) hlw (CC_bd hC.2.2.2.2.2.2.2.2.1 hn6 hP.2.2.2.2.1) hC.2.1.1 hx.1 hx.2 (by rw [hC.1]; exact hw0)
      have hR1 := RR_fr (M2 := M1) hR (fun a h1 h2 => q1.2.2 a (by first | exact List.not_mem_nil | (simp only [List.mem_cons, List.not_mem_nil, or_false]; omega)))
      obtain ⟨v2, M2, ⟨q2, e2, e230, e233, y2, d2, s2, b2, z2⟩, c2⟩ := ct_R_years1 (xs := xs) (L := L) (d := d) (by omega) hW q1.1 q1.2.1 (by rw [hR1.1]; exact hI.1) (lw_R hR1 hI) hR1.2.2.2.2.2.2.2.2.2.1 (by rw [hR1.2.2.2.2.2.2.2.2.1]; exact rf_bd hn6 hP.2.2.2.2.1) (by rw [hR1.1]; exact hI.2.1) (by rw [hR1.1]; exact hw0) hx.1 hx.2
      have hv : v2 = v := by rw [e2, e1, hC.1, hR1.1]
      subst hv
      rw [hC.1] at r1
      rw [hR1.1] at y2 d2
      have hl1 := live_1 (lwOf x) b.toNat a x.1 0 hI.1
      have h1 := hI.1.2.1
      have hC1 : CR sh M1 x tl ld 0 ft sp tn tb rf (x.1 1) (M2 263) im := by
        refine ⟨(rc_eo q1.2.2 (by decide)).trans hC.1, LC_fr hC.2.1 (q1.2.2 _ (by decide)) (fun a h _ => q1.2.2 a (by first | exact List.not_mem_nil | (simp only [List.mem_cons, List.not_mem_nil, or_false]; omega))) (fun _ _ z => z), (ctl_eq hC.2.2.1 (fun a h1 h2 => q1.2.2 a (by first | exact List.not_mem_nil | (simp only [List.mem_cons, List.not_mem_nil, or_false]; omega)))), ((f1 11 (by decide)).trans hC.2.2.2.1), ⟨((f1 12 (by decide)).trans hC.2.2.2.2.1.1), s1⟩, ((congrFun (q1.2.2 200 (by decide)) 1).trans hC.2.2.2.2.2.1), ((congrFun (q1.2.2 98 (by decide)) 0).trans hC.2.2.2.2.2.2.1), ((q1.2.2 199 (by decide)).trans hC.2.2.2.2.2.2.2.1), by rw [b1]; exact hC.2.2.2.2.2.2.2.2.1, (by rw [q1.2.2 202 (by decide), q1.2.2 203 (by decide)]; exact hC.2.2.2.2.2.2.2.2.2.1), ⟨Or.inr ⟨y1, by rw [r1, hl1], by omega, by omega⟩, fun _ j hj => by rw [r1, y2 j hj]⟩, IC_fr hC.2.2.2.2.2.2.2.2.2.2.2 (q1.2.2 26 (by decide)) (fun a h1 h2 => q1.2.2 a (by first | exact List.not_mem_nil | (simp only [List.mem_cons, List.not_mem_nil, or_false]; omega))) (fun a h _ => q1.2.2 a (by first | exact List.not_mem_nil | (simp only [List.mem_cons, List.not_mem_nil, or_false]; omega))) (fun _ _ z => z)⟩
      have hC2 := CR_q hC1 (fun a ha => q2.2.2 a (by first | exact List.not_mem_nil | (simp only [List.mem_cons, List.not_mem_nil, or_false]; omega)))
      have hR2 := RR_all (x := x) (yf2 := M2 263) hR1 (fun a ha => q2.2.2 a (by first | exact List.not_mem_nil | (simp only [List.mem_cons, List.not_mem_nil, or_false]; omega))) ((show rr_ M2 = rr_ M1 from funext fun j => by unfold rr_; rw [e230]).trans hR1.1) (fun j _ => by rw [e230]) (tlR_8 hR1.2.2.1 (z2 8 (by decide) (by decide)) e233 (q2.2.2 234 (by decide))) ((z2 13 (by decide) (by decide)).trans hR1.2.2.2.1) ((z2 11 (by decide) (by decide)).trans hR1.2.2.2.2.1.1) s2 ((z2 18 (by decide) (by decide)).trans hR1.2.2.2.2.2.1) ((z2 57 (by decide) (by decide)).trans hR1.2.2.2.2.2.2.1) ((q2.2.2 237 (by decide)).trans hR1.2.2.2.2.2.2.2.1) (by rw [b2, hR1.2.2.2.2.2.2.2.2.1]) ((z2 20 (by decide) (by decide)).trans hR1.2.2.2.2.2.2.2.2.2.1) d2 rfl
      exact ⟨v2, sh, M1, M2, c1, c2, by omega, ⟨hW, q2.1, q2.2.1, by omega, by omega⟩, _, _, _, _, _, _, _, _, _, _, _, _, hC2, hR2, hI, hP.2.1, hP.2.2.1, hP.2.2.2.1, rf_b hP.2.2.2.2.1, ⟨by omega, by omega⟩, hP.2.2.2.2.2.2⟩
  · obtain ⟨v, M1, ⟨q1, e1, s1, b1, f1⟩, c1⟩ := ct_S_yearsX (xs := xs) (L := L) (d := d) (by omega) hW hF hG (CC_bd hC.2.2.2.2.2.2.2.2.1 hn6 hP.2.2.2.2.1) ha hb hx
    have hR1 := RR_fr (M2 := M1) hR (fun a h1 h2 => q1.2.2 a (by first | exact List.not_mem_nil | (simp only [List.mem_cons, List.not_mem_nil, or_false]; omega)))
    obtain ⟨v2, M2, ⟨q2, e2, s2, b2, z2⟩, c2⟩ := ct_R_yearsX (xs := xs) (L := L) (d := d) (by omega) hW q1.1 q1.2.1 (by rw [hR1.2.2.2.2.2.2.2.2.1]; exact rf_bd hn6 hP.2.2.2.2.1) ha hb hx
    have hv : v2 = v := by rw [e2, e1]
    subst hv
    have hC1 := CR_up (x := x) (rf2 := bmp rf (-1)) hC (fun a ha => q1.2.2 a (by first | exact List.not_mem_nil | (simp only [List.mem_cons, List.not_mem_nil, or_false]; omega))) f1 s1 ((rc_eo q1.2.2 (by decide)).trans hC.1) (ctl_eq hC.2.2.1 (fun a h1 h2 => q1.2.2 a (by first | exact List.not_mem_nil | (simp only [List.mem_cons, List.not_mem_nil, or_false]; omega)))) (by rw [b1]; exact CC_b hC.2.2.2.2.2.2.2.2.1 (by omega))
    have hC2 := CR_q hC1 (fun a ha => q2.2.2 a (by first | exact List.not_mem_nil | (simp only [List.mem_cons, List.not_mem_nil, or_false]; omega)))
    have hR2 := RR_up (x := x) hR1 (fun a ha => q2.2.2 a (by first | exact List.not_mem_nil | (simp only [List.mem_cons, List.not_mem_nil, or_false]; omega))) (fun j h1 h2 => z2 j h1 (fun q => h2 (by simp only [List.mem_cons, List.not_mem_nil, or_false] at q ⊢; omega))) s2 ((show rr_ M2 = rr_ M1 from funext fun j => by unfold rr_; rw [q2.2.2 230 (by decide)]).trans hR1.1) (fun j _ => by rw [q2.2.2 230 (by decide)]) (tlR_8 hR1.2.2.1 (z2 8 (by decide) (by decide)) (fun j _ => by rw [q2.2.2 233 (by decide)]) (q2.2.2 234 (by decide))) (by rw [b2, hR1.2.2.2.2.2.2.2.2.1])
    exact ⟨v2, sh, M1, M2, c1, c2, by omega, ⟨hW, q2.1, q2.2.1, by omega, by omega⟩, _, _, _, _, _, _, _, _, _, _, _, _, hC2, hR2, hI, hP.2.1, hP.2.2.1, hP.2.2.2.1, bmp_b hP.2.2.2.2.1 _, hP.2.2.2.2.2⟩

theorem LC_cp {sh : List (Nat × Nat)} {M M1 : Nat → Nat → Int} {c0 c1 : Nat} {ls : List (List sp_C)} (h : LC sh M c0 ls) (hl : ls.length ≤ 6) (e : ∀ n, n < 6 → M1 (c1 + 8) n = M (c0 + 8) n) (eh : ∀ a, 264 ≤ a → a < sh.length → M1 a = M a) : LC sh M1 c1 ls := by
  refine ⟨fun n hn => by rw [e n hn]; exact h.1 n hn, fun n l hn => ?_⟩
  have := (List.getElem?_eq_some_iff.mp hn).1
  obtain ⟨t, N, C, k1, k2, k3⟩ := h.2 n l hn
  exact ⟨t, N, C, by rw [e n (by omega)]; exact k1, k2, den_sh k3 eh k2 (fun _ _ z => z)⟩
theorem I_len {x : sp_I} (h : IOK x) : x.2.length ≤ 6 := by have h1 := h.1.2.2.2.1; have h2 := h.2.2.1; omega
theorem st_image (hd : 44 ≤ d) (h : JJ sh M n) (hn : n < 600) {a : Int} (ha : rg a) : AskS xs L d sh M n 170 178 [.int (iI a)] := by
  obtain ⟨hn6, ⟨hW, hF, hG, hl1, hl2⟩, x, tl, ld, st, ft, sp, tn, tb, rf, dl, yf, im, hC, hR, hP⟩ := h
  have hI := hP.1
  have hlw := lwT_lw (lw_T hC hI)
  by_cases ha0 : a = 0
  · subst ha0
    obtain ⟨v, M1, ⟨q1, e1, r1, l1, k1, s1, b1, f1⟩, c1⟩ := ct_S_image0 (xs := xs) (L := L) (d := d) (by omega) hW hF hG (CC_bd hC.2.2.2.2.2.2.2.2.1 hn6 hP.2.2.2.2.1) hC.2.1.1
    have hR1 := RR_fr (M2 := M1) hR (fun a h1 h2 => q1.2.2 a (by first | exact List.not_mem_nil | (simp only [List.mem_cons, List.not_mem_nil, or_false]; omega)))
    obtain ⟨v2, M2, ⟨q2, e2, r2, k2, s2, b2, z2⟩, c2⟩ := ct_R_image (xs := xs) (L := L) (d := d) (by omega) hW q1.1 q1.2.1 (by rw [hR1.2.2.2.2.2.2.2.2.1]; exact rf_bd hn6 hP.2.2.2.2.1) (k := 0) (by omega)
    have hv : v2 = v := by rw [e2, e1]
    subst hv
    rw [hC.1] at r1
    have hC1 : CR sh M1 x tl ld 0 ft sp tn tb rf dl yf (fun j => if j = 0 then some x else im j) := by
      refine ⟨(rc_eo q1.2.2 (by decide)).trans hC.1, LC_fr hC.2.1 (q1.2.2 _ (by decide)) (fun a h _ => q1.2.2 a (by first | exact List.not_mem_nil | (simp only [List.mem_cons, List.not_mem_nil, or_false]; omega))) (fun _ _ z => z), (ctl_eq hC.2.2.1 (fun a h1 h2 => q1.2.2 a (by first | exact List.not_mem_nil | (simp only [List.mem_cons, List.not_mem_nil, or_false]; omega)))), ((f1 11 (by decide)).trans hC.2.2.2.1), ⟨((f1 12 (by decide)).trans hC.2.2.2.2.1.1), s1⟩, ((congrFun (q1.2.2 200 (by decide)) 1).trans hC.2.2.2.2.2.1), ((congrFun (q1.2.2 98 (by decide)) 0).trans hC.2.2.2.2.2.2.1), ((q1.2.2 199 (by decide)).trans hC.2.2.2.2.2.2.2.1), by rw [b1]; exact hC.2.2.2.2.2.2.2.2.1, (by rw [q1.2.2 202 (by decide), q1.2.2 203 (by decide)]; exact hC.2.2.2.2.2.2.2.2.2.1), YC_fr hC.2.2.2.2.2.2.2.2.2.2.1 (f1 14 (by decide)) (fun a h1 h2 => q1.2.2 a (by first | exact List.not_mem_nil | (simp only [List.mem_cons, List.not_mem_nil, or_false]; omega))), fun k hk => ?_⟩
      rcases (show k = 0 ∨ k = 1 by omega) with rfl | rfl
      · exact Or.inr ⟨by rw [k1, up_s], x, if_pos rfl, r1, LC_cp hC.2.1 (I_len hI) l1 (fun a h _ => q1.2.2 a (by first | exact List.not_mem_nil | (simp only [List.mem_cons, List.not_mem_nil, or_false]; omega)))⟩
      · rw [k1, up_ne (by decide)]
        rcases hC.2.2.2.2.2.2.2.2.2.2.2 1 (by omega) with z | ⟨z1, y, z3, z4, z5⟩
        · exact Or.inl ⟨z.1, (if_neg (by decide)).trans z.2⟩
        · exact Or.inr ⟨z1, y, (if_neg (by decide)).trans z3, (rc_eo q1.2.2 (by decide)).trans z4, LC_fr z5 (q1.2.2 _ (by decide)) (fun a h _ => q1.2.2 a (by first | exact List.not_mem_nil | (simp only [List.mem_cons, List.not_mem_nil, or_false]; omega))) (fun _ _ z => z)⟩
    have hC2 := CR_q hC1 (fun a ha => q2.2.2 a (by first | exact List.not_mem_nil | (simp only [List.mem_cons, List.not_mem_nil, or_false]; omega)))
    have hR2 : RR M2 x tl ld 0 ft sp tn tb rf dl yf (fun j => if j = 0 then some x else im j) := by
      refine ⟨((show rr_ M2 = rr_ M1 from funext fun j => by unfold rr_; rw [q2.2.2 230 (by decide)]).trans hR1.1), by rw [q2.2.2 230 (by decide)]; exact hR1.2.1, (tlR_8 hR1.2.2.1 (z2 8 (by decide) (by decide)) (fun j _ => by rw [q2.2.2 233 (by decide)]) (q2.2.2 234 (by decide))), ((z2 13 (by decide) (by decide)).trans hR1.2.2.2.1), ⟨((z2 11 (by decide) (by decide)).trans hR1.2.2.2.2.1.1), s2⟩, ((z2 18 (by decide) (by decide)).trans hR1.2.2.2.2.2.1), ((z2 57 (by decide) (by decide)).trans hR1.2.2.2.2.2.2.1), ((q2.2.2 237 (by decide)).trans hR1.2.2.2.2.2.2.2.1), by rw [b2, hR1.2.2.2.2.2.2.2.2.1], ((z2 20 (by decide) (by decide)).trans hR1.2.2.2.2.2.2.2.2.2.1), ⟨((z2 61 (by decide) (by decide)).trans hR1.2.2.2.2.2.2.2.2.2.2.1.1), ((q2.2.2 263 (by decide)).trans hR1.2.2.2.2.2.2.2.2.2.2.1.2)⟩, fun k hk => ?_, ?_⟩
      · rcases (show k = 0 ∨ k = 1 by omega) with rfl | rfl
        · refine Or.inr ⟨by rw [k2, up_s], x, if_pos rfl, ?_, ?_⟩
          · rw [← hR1.1]; funext j; unfold rw9 rr_; dsimp only; split
            · rw [r2, if_pos (by omega), Nat.add_sub_cancel]
            · rfl
          · exact LR_eq2 (I_len hI) hR1.2.1 (fun j h1 h2 => by rw [r2, if_pos (by omega), Nat.add_sub_cancel])
        · rw [k2, up_ne (by decide)]
          rcases hR1.2.2.2.2.2.2.2.2.2.2.2.1 1 (by omega) with z | ⟨z1, y, z3, z4, z5⟩
          · exact Or.inl ⟨z.1, (if_neg (by decide)).trans z.2⟩
          · refine Or.inr ⟨z1, y, (if_neg (by decide)).trans z3, ?_, ?_⟩
            · rw [← z4]; funext j; unfold rw9; dsimp only; split
              · rw [r2, if_neg (by omega)]
              · rfl
            · exact LR_eq2 (I_len (hP.2.2.2.2.2.2 1 (by omega) y z3)) z5 (fun j h1 h2 => by rw [r2, if_neg (by omega)])
      · unfold TB; rw [q2.2.2 243 (by decide), q2.2.2 244 (by decide), q2.2.2 245 (by decide), q2.2.2 261 (by decide)]; exact hR1.2.2.2.2.2.2.2.2.2.2.2.2
    exact ⟨v2, sh, M1, M2, c1, c2, by omega, ⟨hW, q2.1, q2.2.1, by omega, by omega⟩, _, _, _, _, _, _, _, _, _, _, _, _, hC2, hR2, hI, hP.2.1, hP.2.2.1, hP.2.2.2.1, rf_b hP.2.2.2.2.1, hP.2.2.2.2.2.1, fun k hk y hy => by dsimp only at hy; split at hy; (· cases hy; exact hI); (· exact hP.2.2.2.2.2.2 k hk y hy)⟩
  · by_cases ha1 : a = 1
    · subst ha1
      obtain ⟨v, M1, ⟨q1, e1, r1, l1, k1, s1, b1, f1⟩, c1⟩ := ct_S_image1 (xs := xs) (L := L) (d := d) (by omega) hW hF hG (CC_bd hC.2.2.2.2.2.2.2.2.1 hn6 hP.2.2.2.2.1) hC.2.1.1
      have hR1 := RR_fr (M2 := M1) hR (fun a h1 h2 => q1.2.2 a (by first | exact List.not_mem_nil | (simp only [List.mem_cons, List.not_mem_nil, or_false]; omega)))
      obtain ⟨v2, M2, ⟨q2, e2, r2, k2, s2, b2, z2⟩, c2⟩ := ct_R_image (xs := xs) (L := L) (d := d) (by omega) hW q1.1 q1.2.1 (by rw [hR1.2.2.2.2.2.2.2.2.1]; exact rf_bd hn6 hP.2.2.2.2.1) (k := 1) (by omega)
      have hv : v2 = v := by rw [e2, e1]
      subst hv
      rw [hC.1] at r1
      have hC1 : CR sh M1 x tl ld 0 ft sp tn tb rf dl yf (fun j => if j = 1 then some x else im j) := by
        refine ⟨(rc_eo q1.2.2 (by decide)).trans hC.1, LC_fr hC.2.1 (q1.2.2 _ (by decide)) (fun a h _ => q1.2.2 a (by first | exact List.not_mem_nil | (simp only [List.mem_cons, List.not_mem_nil, or_false]; omega))) (fun _ _ z => z), (ctl_eq hC.2.2.1 (fun a h1 h2 => q1.2.2 a (by first | exact List.not_mem_nil | (simp only [List.mem_cons, List.not_mem_nil, or_false]; omega)))), ((f1 11 (by decide)).trans hC.2.2.2.1), ⟨((f1 12 (by decide)).trans hC.2.2.2.2.1.1), s1⟩, ((congrFun (q1.2.2 200 (by decide)) 1).trans hC.2.2.2.2.2.1), ((congrFun (q1.2.2 98 (by decide)) 0).trans hC.2.2.2.2.2.2.1), ((q1.2.2 199 (by decide)).trans hC.2.2.2.2.2.2.2.1), by rw [b1]; exact hC.2.2.2.2.2.2.2.2.1, (by rw [q1.2.2 202 (by decide), q1.2.2 203 (by decide)]; exact hC.2.2.2.2.2.2.2.2.2.1), YC_fr hC.2.2.2.2.2.2.2.2.2.2.1 (f1 14 (by decide)) (fun a h1 h2 => q1.2.2 a (by first | exact List.not_mem_nil | (simp only [List.mem_cons, List.not_mem_nil, or_false]; omega))), fun k hk => ?_⟩
        rcases (show k = 1 ∨ k = 0 by omega) with rfl | rfl
        · exact Or.inr ⟨by rw [k1, up_s], x, if_pos rfl, r1, LC_cp hC.2.1 (I_len hI) l1 (fun a h _ => q1.2.2 a (by first | exact List.not_mem_nil | (simp only [List.mem_cons, List.not_mem_nil, or_false]; omega)))⟩
        · rw [k1, up_ne (by decide)]
          rcases hC.2.2.2.2.2.2.2.2.2.2.2 0 (by omega) with z | ⟨z1, y, z3, z4, z5⟩
          · exact Or.inl ⟨z.1, (if_neg (by decide)).trans z.2⟩
          · exact Or.inr ⟨z1, y, (if_neg (by decide)).trans z3, (rc_eo q1.2.2 (by decide)).trans z4, LC_fr z5 (q1.2.2 _ (by decide)) (fun a h _ => q1.2.2 a (by first | exact List.not_mem_nil | (simp only [List.mem_cons, List.not_mem_nil, or_false]; omega))) (fun _ _ z => z)⟩
      have hC2 := CR_q hC1 (fun a ha => q2.2.2 a (by first | exact List.not_mem_nil | (simp only [List.mem_cons, List.not_mem_nil, or_false]; omega)))
      have hR2 : RR M2 x tl ld 0 ft sp tn tb rf dl yf (fun j => if j = 1 then some x else im j) := by
        refine ⟨((show rr_ M2 = rr_ M1 from funext fun j => by unfold rr_; rw [q2.2.2 230 (by decide)]).trans hR1.1), by rw [q2.2.2 230 (by decide)]; exact hR1.2.1, (tlR_8 hR1.2.2.1 (z2 8 (by decide) (by decide)) (fun j _ => by rw [q2.2.2 233 (by decide)]) (q2.2.2 234 (by decide))), ((z2 13 (by decide) (by decide)).trans hR1.2.2.2.1), ⟨((z2 11 (by decide) (by decide)).trans hR1.2.2.2.2.1.1), s2⟩, ((z2 18 (by decide) (by decide)).trans hR1.2.2.2.2.2.1), ((z2 57 (by decide) (by decide)).trans hR1.2.2.2.2.2.2.1), ((q2.2.2 237 (by decide)).trans hR1.2.2.2.2.2.2.2.1), by rw [b2, hR1.2.2.2.2.2.2.2.2.1], ((z2 20 (by decide) (by decide)).trans hR1.2.2.2.2.2.2.2.2.2.1), ⟨((z2 61 (by decide) (by decide)).trans hR1.2.2.2.2.2.2.2.2.2.2.1.1), ((q2.2.2 263 (by decide)).trans hR1.2.2.2.2.2.2.2.2.2.2.1.2)⟩, fun k hk => ?_, ?_⟩
        · rcases (show k = 1 ∨ k = 0 by omega) with rfl | rfl
          · refine Or.inr ⟨by rw [k2, up_s], x, if_pos rfl, ?_, ?_⟩
            · rw [← hR1.1]; funext j; unfold rw9 rr_; dsimp only; split
              · rw [r2, if_pos (by omega), Nat.add_sub_cancel]
              · rfl
            · exact LR_eq2 (I_len hI) hR1.2.1 (fun j h1 h2 => by rw [r2, if_pos (by omega), Nat.add_sub_cancel])
          · rw [k2, up_ne (by decide)]
            rcases hR1.2.2.2.2.2.2.2.2.2.2.2.1 0 (by omega) with z | ⟨z1, y, z3, z4, z5⟩
            · exact Or.inl ⟨z.1, (if_neg (by decide)).trans z.2⟩
            · refine Or.inr ⟨z1, y, (if_neg (by decide)).trans z3, ?_, ?_⟩
              · rw [← z4]; funext j; unfold rw9; dsimp only; split
                · rw [r2, if_neg (by omega)]
                · rfl
              · exact LR_eq2 (I_len (hP.2.2.2.2.2.2 0 (by omega) y z3)) z5 (fun j h1 h2 => by rw [r2, if_neg (by omega)])
        · unfold TB; rw [q2.2.2 243 (by decide), q2.2.2 244 (by decide), q2.2.2 245 (by decide), q2.2.2 261 (by decide)]; exact hR1.2.2.2.2.2.2.2.2.2.2.2.2
      exact ⟨v2, sh, M1, M2, c1, c2, by omega, ⟨hW, q2.1, q2.2.1, by omega, by omega⟩, _, _, _, _, _, _, _, _, _, _, _, _, hC2, hR2, hI, hP.2.1, hP.2.2.1, hP.2.2.2.1, rf_b hP.2.2.2.2.1, hP.2.2.2.2.2.1, fun k hk y hy => by dsimp only at hy; split at hy; (· cases hy; exact hI); (· exact hP.2.2.2.2.2.2 k hk y hy)⟩
    · obtain ⟨v, M1, ⟨q1, e1, s1, b1, f1⟩, c1⟩ := ct_S_imageX (xs := xs) (L := L) (d := d) (by omega) hW hF hG (CC_bd hC.2.2.2.2.2.2.2.2.1 hn6 hP.2.2.2.2.1) ha (by omega)
      have hR1 := RR_fr (M2 := M1) hR (fun a h1 h2 => q1.2.2 a (by first | exact List.not_mem_nil | (simp only [List.mem_cons, List.not_mem_nil, or_false]; omega)))
      obtain ⟨v2, M2, ⟨q2, e2, s2, b2, z2⟩, c2⟩ := ct_R_imageX (xs := xs) (L := L) (d := d) (by omega) hW q1.1 q1.2.1 (by rw [hR1.2.2.2.2.2.2.2.2.1]; exact rf_bd hn6 hP.2.2.2.2.1) ha (by omega)
      have hv : v2 = v := by rw [e2, e1]
      subst hv
      have hC1 := CR_up (x := x) (rf2 := bmp rf (-1)) hC (fun a ha => q1.2.2 a (by first | exact List.not_mem_nil | (simp only [List.mem_cons, List.not_mem_nil, or_false]; omega))) f1 s1 ((rc_eo q1.2.2 (by decide)).trans hC.1) (ctl_eq hC.2.2.1 (fun a h1 h2 => q1.2.2 a (by first | exact List.not_mem_nil | (simp only [List.mem_cons, List.not_mem_nil, or_false]; omega)))) (by rw [b1]; exact CC_b hC.2.2.2.2.2.2.2.2.1 (by omega))
      have hC2 := CR_q hC1 (fun a ha => q2.2.2 a (by first | exact List.not_mem_nil | (simp only [List.mem_cons, List.not_mem_nil, or_false]; omega)))
      have hR2 := RR_up (x := x) hR1 (fun a ha => q2.2.2 a (by first | exact List.not_mem_nil | (simp only [List.mem_cons, List.not_mem_nil, or_false]; omega))) (fun j h1 h2 => z2 j h1 (fun q => h2 (by simp only [List.mem_cons, List.not_mem_nil, or_false] at q ⊢; omega))) s2 ((show rr_ M2 = rr_ M1 from funext fun j => by unfold rr_; rw [q2.2.2 230 (by decide)]).trans hR1.1) (fun j _ => by rw [q2.2.2 230 (by decide)]) (tlR_8 hR1.2.2.1 (z2 8 (by decide) (by decide)) (fun j _ => by rw [q2.2.2 233 (by decide)]) (q2.2.2 234 (by decide))) (by rw [b2, hR1.2.2.2.2.2.2.2.2.1])
      exact ⟨v2, sh, M1, M2, c1, c2, by omega, ⟨hW, q2.1, q2.2.1, by omega, by omega⟩, _, _, _, _, _, _, _, _, _, _, _, _, hC2, hR2, hI, hP.2.1, hP.2.2.1, hP.2.2.2.1, bmp_b hP.2.2.2.2.1 _, hP.2.2.2.2.2⟩

theorem st_back (hd : 44 ≤ d) (h : JJ sh M n) (hn : n < 600) {a : Int} (ha : rg a) : AskS xs L d sh M n 171 180 [.int (iI a)] := by
  obtain ⟨hn6, ⟨hW, hF, hG, hl1, hl2⟩, x, tl, ld, st, ft, sp, tn, tb, rf, dl, yf, im, hC, hR, hP⟩ := h
  have hI := hP.1
  have hlw := lwT_lw (lw_T hC hI)
  by_cases ha0 : a = 0
  · subst ha0
    rcases hC.2.2.2.2.2.2.2.2.2.2.2 0 (by omega) with zc | ⟨zc1, y, zc2, zc3, zc4⟩
    · obtain ⟨v, M1, ⟨q1, e1, s1, b1, f1⟩, c1⟩ := ct_S_back0_0 (xs := xs) (L := L) (d := d) (by omega) hW hF hG (CC_bd hC.2.2.2.2.2.2.2.2.1 hn6 hP.2.2.2.2.1) zc.1
      have hR1 := RR_fr (M2 := M1) hR (fun a h1 h2 => q1.2.2 a (by first | exact List.not_mem_nil | (simp only [List.mem_cons, List.not_mem_nil, or_false]; omega)))
      obtain ⟨v2, M2, ⟨q2, e2, s2, b2, z2⟩, c2⟩ := ct_R_back0 (xs := xs) (L := L) (d := d) (by omega) hW q1.1 q1.2.1 (by rw [hR1.2.2.2.2.2.2.2.2.1]; exact rf_bd hn6 hP.2.2.2.2.1) (k := 0) (by omega) (by rcases hR1.2.2.2.2.2.2.2.2.2.2.2.1 0 (by omega) with z | ⟨z1, y, z3, z4, z5⟩; (· exact z.1); (· rw [zc.2] at z3; cases z3))
      have hv : v2 = v := by rw [e2, e1]
      subst hv
      have hC1 := CR_up (x := x) (rf2 := bmp rf (-2)) hC (fun a ha => q1.2.2 a (by first | exact List.not_mem_nil | (simp only [List.mem_cons, List.not_mem_nil, or_false]; omega))) f1 s1 ((rc_eo q1.2.2 (by decide)).trans hC.1) (ctl_eq hC.2.2.1 (fun a h1 h2 => q1.2.2 a (by first | exact List.not_mem_nil | (simp only [List.mem_cons, List.not_mem_nil, or_false]; omega)))) (by rw [b1]; exact CC_b hC.2.2.2.2.2.2.2.2.1 (by omega))
      have hC2 := CR_q hC1 (fun a ha => q2.2.2 a (by first | exact List.not_mem_nil | (simp only [List.mem_cons, List.not_mem_nil, or_false]; omega)))
      have hR2 := RR_up (x := x) hR1 (fun a ha => q2.2.2 a (by first | exact List.not_mem_nil | (simp only [List.mem_cons, List.not_mem_nil, or_false]; omega))) (fun j h1 h2 => z2 j h1 (fun q => h2 (by simp only [List.mem_cons, List.not_mem_nil, or_false] at q ⊢; omega))) s2 ((show rr_ M2 = rr_ M1 from funext fun j => by unfold rr_; rw [q2.2.2 230 (by decide)]).trans hR1.1) (fun j _ => by rw [q2.2.2 230 (by decide)]) (tlR_8 hR1.2.2.1 (z2 8 (by decide) (by decide)) (fun j _ => by rw [q2.2.2 233 (by decide)]) (q2.2.2 234 (by decide))) (by rw [b2, hR1.2.2.2.2.2.2.2.2.1])
      exact ⟨v2, sh, M1, M2, c1, c2, by omega, ⟨hW, q2.1, q2.2.1, by omega, by omega⟩, _, _, _, _, _, _, _, _, _, _, _, _, hC2, hR2, hI, hP.2.1, hP.2.2.1, hP.2.2.2.1, bmp_b hP.2.2.2.2.1 _, hP.2.2.2.2.2⟩
    · have hY := hP.2.2.2.2.2.2 0 (by omega) y zc2
      obtain ⟨v, M1, ⟨q1, e1, r1, l1, t1, s1, b1, f1⟩, c1⟩ := ct_S_back0_1 (xs := xs) (L := L) (d := d) (by omega) hW hF hG (CC_bd hC.2.2.2.2.2.2.2.2.1 hn6 hP.2.2.2.2.1) hC.2.2.1.1 zc4.1 zc1
      have hR1 := RR_fr (M2 := M1) hR (fun a h1 h2 => q1.2.2 a (by first | exact List.not_mem_nil | (simp only [List.mem_cons, List.not_mem_nil, or_false]; omega)))
      obtain ⟨zr1, zr3, zr4⟩ : M1 232 0 = 1 ∧ rw9 (fun j => M1 231 (j + 5510 * 0)) = y.1 ∧ LR (fun j => M1 231 (j + 5510 * 0)) y.2 := by
        rcases hR1.2.2.2.2.2.2.2.2.2.2.2.1 0 (by omega) with z | ⟨z1, y', z3, z4, z5⟩
        · rw [z.2] at zc2; cases zc2
        · rw [zc2] at z3; cases z3; exact ⟨z1, z4, z5⟩
      obtain ⟨v2, M2, ⟨q2, e2, r2, t8, s2, b2, z2⟩, c2⟩ := ct_R_back1 (xs := xs) (L := L) (d := d) (by omega) hW q1.1 q1.2.1 (by rw [hR1.2.2.2.2.2.2.2.2.1]; exact rf_bd hn6 hP.2.2.2.2.1) (k := 0) (by omega) zr1
      have hv : v2 = v := by rw [e2, e1]
      subst hv
      rw [zc3] at r1
      have hC1 : CR sh M1 y [] ld 0 ft sp tn tb rf dl yf im := by
        refine ⟨r1, LC_cp zc4 (I_len hY) l1 (fun a h _ => q1.2.2 a (by first | exact List.not_mem_nil | (simp only [List.mem_cons, List.not_mem_nil, or_false]; omega))), ctl_clear hC.2.2.1.1 t1, ((f1 11 (by decide)).trans hC.2.2.2.1), ⟨((f1 12 (by decide)).trans hC.2.2.2.2.1.1), s1⟩, ((congrFun (q1.2.2 200 (by decide)) 1).trans hC.2.2.2.2.2.1), ((congrFun (q1.2.2 98 (by decide)) 0).trans hC.2.2.2.2.2.2.1), ((q1.2.2 199 (by decide)).trans hC.2.2.2.2.2.2.2.1), by rw [b1]; exact hC.2.2.2.2.2.2.2.2.1, (by rw [q1.2.2 202 (by decide), q1.2.2 203 (by decide)]; exact hC.2.2.2.2.2.2.2.2.2.1), YC_fr hC.2.2.2.2.2.2.2.2.2.2.1 (f1 14 (by decide)) (fun a h1 h2 => q1.2.2 a (by first | exact List.not_mem_nil | (simp only [List.mem_cons, List.not_mem_nil, or_false]; omega))), IC_fr hC.2.2.2.2.2.2.2.2.2.2.2 (q1.2.2 26 (by decide)) (fun a h1 h2 => q1.2.2 a (by first | exact List.not_mem_nil | (simp only [List.mem_cons, List.not_mem_nil, or_false]; omega))) (fun a h _ => q1.2.2 a (by first | exact List.not_mem_nil | (simp only [List.mem_cons, List.not_mem_nil, or_false]; omega))) (fun _ _ z => z)⟩
      have hC2 := CR_q hC1 (fun a ha => q2.2.2 a (by first | exact List.not_mem_nil | (simp only [List.mem_cons, List.not_mem_nil, or_false]; omega)))
      have hR2 : RR M2 y [] ld 0 ft sp tn tb rf dl yf im := by
        refine ⟨?_, ?_, tl_nil t8, ((z2 13 (by decide) (by decide)).trans hR1.2.2.2.1), ⟨((z2 11 (by decide) (by decide)).trans hR1.2.2.2.2.1.1), s2⟩, ((z2 18 (by decide) (by decide)).trans hR1.2.2.2.2.2.1), ((z2 57 (by decide) (by decide)).trans hR1.2.2.2.2.2.2.1), ((q2.2.2 237 (by decide)).trans hR1.2.2.2.2.2.2.2.1), by rw [b2, hR1.2.2.2.2.2.2.2.2.1], ((z2 20 (by decide) (by decide)).trans hR1.2.2.2.2.2.2.2.2.2.1), ⟨((z2 61 (by decide) (by decide)).trans hR1.2.2.2.2.2.2.2.2.2.2.1.1), ((q2.2.2 263 (by decide)).trans hR1.2.2.2.2.2.2.2.2.2.2.1.2)⟩, ?_, ?_⟩
        · rw [← zr3]; funext j; unfold rw9 rr_; dsimp only; split
          · rw [r2, if_pos (by omega)]
          · rfl
        · exact LR_eq2 (I_len hY) zr4 (fun j h1 h2 => by rw [r2, if_pos (by omega)])
        · unfold IR; rw [q2.2.2 231 (by decide), q2.2.2 232 (by decide)]; exact hR1.2.2.2.2.2.2.2.2.2.2.2.1
        · unfold TB; rw [q2.2.2 243 (by decide), q2.2.2 244 (by decide), q2.2.2 245 (by decide), q2.2.2 261 (by decide)]; exact hR1.2.2.2.2.2.2.2.2.2.2.2.2
      exact ⟨v2, sh, M1, M2, c1, c2, by omega, ⟨hW, q2.1, q2.2.1, by omega, by omega⟩, _, _, _, _, _, _, _, _, _, _, _, _, hC2, hR2, hY, trlOK_nil, hP.2.2.1, hP.2.2.2.1, rf_b hP.2.2.2.2.1, hP.2.2.2.2.2⟩
  · by_cases ha1 : a = 1
    · subst ha1
      rcases hC.2.2.2.2.2.2.2.2.2.2.2 1 (by omega) with zc | ⟨zc1, y, zc2, zc3, zc4⟩
      · obtain ⟨v, M1, ⟨q1, e1, s1, b1, f1⟩, c1⟩ := ct_S_back1_0 (xs := xs) (L := L) (d := d) (by omega) hW hF hG (CC_bd hC.2.2.2.2.2.2.2.2.1 hn6 hP.2.2.2.2.1) zc.1
        have hR1 := RR_fr (M2 := M1) hR (fun a h1 h2 => q1.2.2 a (by first | exact List.not_mem_nil | (simp only [List.mem_cons, List.not_mem_nil, or_false]; omega)))
        obtain ⟨v2, M2, ⟨q2, e2, s2, b2, z2⟩, c2⟩ := ct_R_back0 (xs := xs) (L := L) (d := d) (by omega) hW q1.1 q1.2.1 (by rw [hR1.2.2.2.2.2.2.2.2.1]; exact rf_bd hn6 hP.2.2.2.2.1) (k := 1) (by omega) (by rcases hR1.2.2.2.2.2.2.2.2.2.2.2.1 1 (by omega) with z | ⟨z1, y, z3, z4, z5⟩; (· exact z.1); (· rw [zc.2] at z3; cases z3))
        have hv : v2 = v := by rw [e2, e1]
        subst hv
        have hC1 := CR_up (x := x) (rf2 := bmp rf (-2)) hC (fun a ha => q1.2.2 a (by first | exact List.not_mem_nil | (simp only [List.mem_cons, List.not_mem_nil, or_false]; omega))) f1 s1 ((rc_eo q1.2.2 (by decide)).trans hC.1) (ctl_eq hC.2.2.1 (fun a h1 h2 => q1.2.2 a (by first | exact List.not_mem_nil | (simp only [List.mem_cons, List.not_mem_nil, or_false]; omega)))) (by rw [b1]; exact CC_b hC.2.2.2.2.2.2.2.2.1 (by omega))
        have hC2 := CR_q hC1 (fun a ha => q2.2.2 a (by first | exact List.not_mem_nil | (simp only [List.mem_cons, List.not_mem_nil, or_false]; omega)))
        have hR2 := RR_up (x := x) hR1 (fun a ha => q2.2.2 a (by first | exact List.not_mem_nil | (simp only [List.mem_cons, List.not_mem_nil, or_false]; omega))) (fun j h1 h2 => z2 j h1 (fun q => h2 (by simp only [List.mem_cons, List.not_mem_nil, or_false] at q ⊢; omega))) s2 ((show rr_ M2 = rr_ M1 from funext fun j => by unfold rr_; rw [q2.2.2 230 (by decide)]).trans hR1.1) (fun j _ => by rw [q2.2.2 230 (by decide)]) (tlR_8 hR1.2.2.1 (z2 8 (by decide) (by decide)) (fun j _ => by rw [q2.2.2 233 (by decide)]) (q2.2.2 234 (by decide))) (by rw [b2, hR1.2.2.2.2.2.2.2.2.1])
        exact ⟨v2, sh, M1, M2, c1, c2, by omega, ⟨hW, q2.1, q2.2.1, by omega, by omega⟩, _, _, _, _, _, _, _, _, _, _, _, _, hC2, hR2, hI, hP.2.1, hP.2.2.1, hP.2.2.2.1, bmp_b hP.2.2.2.2.1 _, hP.2.2.2.2.2⟩
      · have hY := hP.2.2.2.2.2.2 1 (by omega) y zc2
        obtain ⟨v, M1, ⟨q1, e1, r1, l1, t1, s1, b1, f1⟩, c1⟩ := ct_S_back1_1 (xs := xs) (L := L) (d := d) (by omega) hW hF hG (CC_bd hC.2.2.2.2.2.2.2.2.1 hn6 hP.2.2.2.2.1) hC.2.2.1.1 zc4.1 zc1
        have hR1 := RR_fr (M2 := M1) hR (fun a h1 h2 => q1.2.2 a (by first | exact List.not_mem_nil | (simp only [List.mem_cons, List.not_mem_nil, or_false]; omega)))
        obtain ⟨zr1, zr3, zr4⟩ : M1 232 1 = 1 ∧ rw9 (fun j => M1 231 (j + 5510 * 1)) = y.1 ∧ LR (fun j => M1 231 (j + 5510 * 1)) y.2 := by
          rcases hR1.2.2.2.2.2.2.2.2.2.2.2.1 1 (by omega) with z | ⟨z1, y', z3, z4, z5⟩
          · rw [z.2] at zc2; cases zc2
          · rw [zc2] at z3; cases z3; exact ⟨z1, z4, z5⟩
        obtain ⟨v2, M2, ⟨q2, e2, r2, t8, s2, b2, z2⟩, c2⟩ := ct_R_back1 (xs := xs) (L := L) (d := d) (by omega) hW q1.1 q1.2.1 (by rw [hR1.2.2.2.2.2.2.2.2.1]; exact rf_bd hn6 hP.2.2.2.2.1) (k := 1) (by omega) zr1
        have hv : v2 = v := by rw [e2, e1]
        subst hv
        rw [zc3] at r1
        have hC1 : CR sh M1 y [] ld 0 ft sp tn tb rf dl yf im := by
          refine ⟨r1, LC_cp zc4 (I_len hY) l1 (fun a h _ => q1.2.2 a (by first | exact List.not_mem_nil | (simp only [List.mem_cons, List.not_mem_nil, or_false]; omega))), ctl_clear hC.2.2.1.1 t1, ((f1 11 (by decide)).trans hC.2.2.2.1), ⟨((f1 12 (by decide)).trans hC.2.2.2.2.1.1), s1⟩, ((congrFun (q1.2.2 200 (by decide)) 1).trans hC.2.2.2.2.2.1), ((congrFun (q1.2.2 98 (by decide)) 0).trans hC.2.2.2.2.2.2.1), ((q1.2.2 199 (by decide)).trans hC.2.2.2.2.2.2.2.1), by rw [b1]; exact hC.2.2.2.2.2.2.2.2.1, (by rw [q1.2.2 202 (by decide), q1.2.2 203 (by decide)]; exact hC.2.2.2.2.2.2.2.2.2.1), YC_fr hC.2.2.2.2.2.2.2.2.2.2.1 (f1 14 (by decide)) (fun a h1 h2 => q1.2.2 a (by first | exact List.not_mem_nil | (simp only [List.mem_cons, List.not_mem_nil, or_false]; omega))), IC_fr hC.2.2.2.2.2.2.2.2.2.2.2 (q1.2.2 26 (by decide)) (fun a h1 h2 => q1.2.2 a (by first | exact List.not_mem_nil | (simp only [List.mem_cons, List.not_mem_nil, or_false]; omega))) (fun a h _ => q1.2.2 a (by first | exact List.not_mem_nil | (simp only [List.mem_cons, List.not_mem_nil, or_false]; omega))) (fun _ _ z => z)⟩
        have hC2 := CR_q hC1 (fun a ha => q2.2.2 a (by first | exact List.not_mem_nil | (simp only [List.mem_cons, List.not_mem_nil, or_false]; omega)))
        have hR2 : RR M2 y [] ld 0 ft sp tn tb rf dl yf im := by
          refine ⟨?_, ?_, tl_nil t8, ((z2 13 (by decide) (by decide)).trans hR1.2.2.2.1), ⟨((z2 11 (by decide) (by decide)).trans hR1.2.2.2.2.1.1), s2⟩, ((z2 18 (by decide) (by decide)).trans hR1.2.2.2.2.2.1), ((z2 57 (by decide) (by decide)).trans hR1.2.2.2.2.2.2.1), ((q2.2.2 237 (by decide)).trans hR1.2.2.2.2.2.2.2.1), by rw [b2, hR1.2.2.2.2.2.2.2.2.1], ((z2 20 (by decide) (by decide)).trans hR1.2.2.2.2.2.2.2.2.2.1), ⟨((z2 61 (by decide) (by decide)).trans hR1.2.2.2.2.2.2.2.2.2.2.1.1), ((q2.2.2 263 (by decide)).trans hR1.2.2.2.2.2.2.2.2.2.2.1.2)⟩, ?_, ?_⟩
          · rw [← zr3]; funext j; unfold rw9 rr_; dsimp only; split
            · rw [r2, if_pos (by omega)]
            · rfl
          · exact LR_eq2 (I_len hY) zr4 (fun j h1 h2 => by rw [r2, if_pos (by omega)])
          · unfold IR; rw [q2.2.2 231 (by decide), q2.2.2 232 (by decide)]; exact hR1.2.2.2.2.2.2.2.2.2.2.2.1
          · unfold TB; rw [q2.2.2 243 (by decide), q2.2.2 244 (by decide), q2.2.2 245 (by decide), q2.2.2 261 (by decide)]; exact hR1.2.2.2.2.2.2.2.2.2.2.2.2
        exact ⟨v2, sh, M1, M2, c1, c2, by omega, ⟨hW, q2.1, q2.2.1, by omega, by omega⟩, _, _, _, _, _, _, _, _, _, _, _, _, hC2, hR2, hY, trlOK_nil, hP.2.2.1, hP.2.2.2.1, rf_b hP.2.2.2.2.1, hP.2.2.2.2.2⟩
    · obtain ⟨v, M1, ⟨q1, e1, s1, b1, f1⟩, c1⟩ := ct_S_backX (xs := xs) (L := L) (d := d) (by omega) hW hF hG (CC_bd hC.2.2.2.2.2.2.2.2.1 hn6 hP.2.2.2.2.1) ha (by omega)
      have hR1 := RR_fr (M2 := M1) hR (fun a h1 h2 => q1.2.2 a (by first | exact List.not_mem_nil | (simp only [List.mem_cons, List.not_mem_nil, or_false]; omega)))
      obtain ⟨v2, M2, ⟨q2, e2, s2, b2, z2⟩, c2⟩ := ct_R_backX (xs := xs) (L := L) (d := d) (by omega) hW q1.1 q1.2.1 (by rw [hR1.2.2.2.2.2.2.2.2.1]; exact rf_bd hn6 hP.2.2.2.2.1) ha (by omega)
      have hv : v2 = v := by rw [e2, e1]
      subst hv
      have hC1 := CR_up (x := x) (rf2 := bmp rf (-1)) hC (fun a ha => q1.2.2 a (by first | exact List.not_mem_nil | (simp only [List.mem_cons, List.not_mem_nil, or_false]; omega))) f1 s1 ((rc_eo q1.2.2 (by decide)).trans hC.1) (ctl_eq hC.2.2.1 (fun a h1 h2 => q1.2.2 a (by first | exact List.not_mem_nil | (simp only [List.mem_cons, List.not_mem_nil, or_false]; omega)))) (by rw [b1]; exact CC_b hC.2.2.2.2.2.2.2.2.1 (by omega))
      have hC2 := CR_q hC1 (fun a ha => q2.2.2 a (by first | exact List.not_mem_nil | (simp only [List.mem_cons, List.not_mem_nil, or_false]; omega)))
      have hR2 := RR_up (x := x) hR1 (fun a ha => q2.2.2 a (by first | exact List.not_mem_nil | (simp only [List.mem_cons, List.not_mem_nil, or_false]; omega))) (fun j h1 h2 => z2 j h1 (fun q => h2 (by simp only [List.mem_cons, List.not_mem_nil, or_false] at q ⊢; omega))) s2 ((show rr_ M2 = rr_ M1 from funext fun j => by unfold rr_; rw [q2.2.2 230 (by decide)]).trans hR1.1) (fun j _ => by rw [q2.2.2 230 (by decide)]) (tlR_8 hR1.2.2.1 (z2 8 (by decide) (by decide)) (fun j _ => by rw [q2.2.2 233 (by decide)]) (q2.2.2 234 (by decide))) (by rw [b2, hR1.2.2.2.2.2.2.2.2.1])
      exact ⟨v2, sh, M1, M2, c1, c2, by omega, ⟨hW, q2.1, q2.2.1, by omega, by omega⟩, _, _, _, _, _, _, _, _, _, _, _, _, hC2, hR2, hI, hP.2.1, hP.2.2.1, hP.2.2.2.1, bmp_b hP.2.2.2.2.1 _, hP.2.2.2.2.2⟩

end CH2
