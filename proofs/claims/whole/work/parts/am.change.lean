/-! the calls that change -/
section CHG
variable {xs : Nat → Int} {L d : Nat} {sh : List (Nat × Nat)} {M : Nat → Nat → Int} {n : Nat}
theorem st_word (hd : 44 ≤ d) (h : JJ sh M n) (hn : n < 600) {a : Int} (ha : rg a) {b : Int} (hb : rg b) : AskS xs L d sh M n 10 182 [.int (iI a), .int (iI b)] := by
  obtain ⟨hn6, ⟨hW, hF, hG, hl1, hl2⟩, x, tl, ld, st, ft, sp, tn, tb, rf, dl, yf, im, hC, hR, hP⟩ := h
  have hI := hP.1
  have hlw := lwT_lw (lw_T hC hI)
  obtain ⟨v, M1, ⟨q1, e1, r1, s1, b1, t1, f1⟩, c1⟩ := ct_S_word (xs := xs) (L := L) (d := d) (by omega) hW hF hG (by rw [hC.1]; exact hI.1) hlw (CC_bd hC.2.2.2.2.2.2.2.2.1 hn6 hP.2.2.2.2.1) hC.2.2.1.1 ha hb
  have hR1 := RR_fr (M2 := M1) hR (fun a h1 h2 => q1.2.2 a (by first | exact List.not_mem_nil | (simp only [List.mem_cons, List.not_mem_nil, or_false]; omega)))
  obtain ⟨v2, M2, ⟨q2, e2, r2, n9, s2, b2, t8, z2⟩, c2⟩ := ct_R_word (xs := xs) (L := L) (d := d) (by omega) hW q1.1 q1.2.1 (by rw [hR1.1]; exact hI.1) (by rw [hR1.2.2.2.2.2.2.2.2.1]; exact rf_bd hn6 hP.2.2.2.2.1) ha hb
  have hv : v2 = v := by rw [e2, e1, hC.1, hR1.1]
  subst hv
  rw [hC.1] at e1 r1
  rw [hR1.1] at r2
  have hvb := wordV_b hI.1 a b
  rw [← e1] at hvb
  obtain ⟨k1, k2, k3, k4⟩ := word_ok hI.1 a b
  rw [← e1] at k4
  have hT1 : ctlR M1 27 (if v2 < 0 then tl else []) := by
    by_cases z : v2 < 0
    · rw [if_pos z]; rw [if_pos z] at t1
      exact ctl_eq hC.2.2.1 (fun a h1 h2 => by
        by_cases h3 : a = 27
        · rw [h3]; exact t1
        · exact q1.2.2 a (by first | exact List.not_mem_nil | (simp only [List.mem_cons, List.not_mem_nil, or_false]; omega)))
    · rw [if_neg z]; rw [if_neg z] at t1
      exact ctl_clear hC.2.2.1.1 t1
  have hT2 : tlR M2 (if v2 < 0 then tl else []) := by
    by_cases z : v2 < 0
    · rw [if_pos z]; rw [if_pos z] at t8
      exact tlR_8 hR1.2.2.1 t8 (fun j _ => by rw [q2.2.2 233 (by decide)]) (q2.2.2 234 (by decide))
    · rw [if_neg z]; rw [if_neg z] at t8
      exact tl_nil t8
  have hC1 := CR_up (x := x) (rf2 := bmp rf v2) hC (fun a ha => q1.2.2 a (by first | exact List.not_mem_nil | (simp only [List.mem_cons, List.not_mem_nil, or_false]; omega))) f1 s1 r1 hT1 (by rw [b1]; exact CC_b hC.2.2.2.2.2.2.2.2.1 hvb)
  have hC2 := CR_q hC1 (fun a ha => q2.2.2 a (by first | exact List.not_mem_nil | (simp only [List.mem_cons, List.not_mem_nil, or_false]; omega)))
  have hR2 := RR_up (x := x) hR1 (fun a ha => q2.2.2 a (by first | exact List.not_mem_nil | (simp only [List.mem_cons, List.not_mem_nil, or_false]; omega))) z2 s2 r2 n9 hT2 (by rw [b2, hR1.2.2.2.2.2.2.2.2.1])
  have hTk : trlOK (sp_wordR x.1 a b) (if v2 < 0 then tl else []) := by
    by_cases z : v2 < 0
    · rw [if_pos z, k4 z]; exact hP.2.1
    · rw [if_neg z]; exact trlOK_nil
  exact ⟨v2, sh, M1, M2, c1, c2, by omega, ⟨hW, q2.1, q2.2.1, by omega, by omega⟩, _, _, _, _, _, _, _, _, _, _, _, _, hC2, hR2, IOK_up hI k1 (by rw [k2]; exact hI.2.1) k3, hTk, hP.2.2.1, hP.2.2.2.1, bmp_b hP.2.2.2.2.1 v2, hP.2.2.2.2.2⟩

theorem st_listener (hd : 44 ≤ d) (h : JJ sh M n) (hn : n < 600) {a : Int} (ha : rg a) {b : Int} (hb : rg b) : AskS xs L d sh M n 36 203 [.int (iI a), .int (iI b)] := by
  obtain ⟨hn6, ⟨hW, hF, hG, hl1, hl2⟩, x, tl, ld, st, ft, sp, tn, tb, rf, dl, yf, im, hC, hR, hP⟩ := h
  have hI := hP.1
  have hlw := lwT_lw (lw_T hC hI)
  obtain ⟨v, M1, ⟨q1, e1, r1, s1, b1, t1, f1⟩, c1⟩ := ct_S_listener (xs := xs) (L := L) (d := d) (by omega) hW hF hG (by rw [hC.1]; exact hI.1) hlw (CC_bd hC.2.2.2.2.2.2.2.2.1 hn6 hP.2.2.2.2.1) hC.2.2.1.1 ha hb
  have hR1 := RR_fr (M2 := M1) hR (fun a h1 h2 => q1.2.2 a (by first | exact List.not_mem_nil | (simp only [List.mem_cons, List.not_mem_nil, or_false]; omega)))
  obtain ⟨v2, M2, ⟨q2, e2, r2, n9, s2, b2, t8, z2⟩, c2⟩ := ct_R_listener (xs := xs) (L := L) (d := d) (by omega) hW q1.1 q1.2.1 (by rw [hR1.1]; exact hI.1) (by rw [hR1.2.2.2.2.2.2.2.2.1]; exact rf_bd hn6 hP.2.2.2.2.1) ha hb
  have hv : v2 = v := by rw [e2, e1, hC.1, hR1.1]
  subst hv
  rw [hC.1] at e1 r1
  rw [hR1.1] at r2
  have hvb := lisV_b hI.1 a b
  rw [← e1] at hvb
  obtain ⟨k1, k2, k3, k4⟩ := lis_ok hI.1 a b
  rw [← e1] at k4
  have hT1 : ctlR M1 27 (if v2 < 0 then tl else []) := by
    by_cases z : v2 < 0
    · rw [if_pos z]; rw [if_pos z] at t1
      exact ctl_eq hC.2.2.1 (fun a h1 h2 => by
        by_cases h3 : a = 27
        · rw [h3]; exact t1
        · exact q1.2.2 a (by first | exact List.not_mem_nil | (simp only [List.mem_cons, List.not_mem_nil, or_false]; omega)))
    · rw [if_neg z]; rw [if_neg z] at t1
      exact ctl_clear hC.2.2.1.1 t1
  have hT2 : tlR M2 (if v2 < 0 then tl else []) := by
    by_cases z : v2 < 0
    · rw [if_pos z]; rw [if_pos z] at t8
      exact tlR_8 hR1.2.2.1 t8 (fun j _ => by rw [q2.2.2 233 (by decide)]) (q2.2.2 234 (by decide))
    · rw [if_neg z]; rw [if_neg z] at t8
      exact tl_nil t8
  have hC1 := CR_up (x := x) (rf2 := bmp rf v2) hC (fun a ha => q1.2.2 a (by first | exact List.not_mem_nil | (simp only [List.mem_cons, List.not_mem_nil, or_false]; omega))) f1 s1 r1 hT1 (by rw [b1]; exact CC_b hC.2.2.2.2.2.2.2.2.1 hvb)
  have hC2 := CR_q hC1 (fun a ha => q2.2.2 a (by first | exact List.not_mem_nil | (simp only [List.mem_cons, List.not_mem_nil, or_false]; omega)))
  have hR2 := RR_up (x := x) hR1 (fun a ha => q2.2.2 a (by first | exact List.not_mem_nil | (simp only [List.mem_cons, List.not_mem_nil, or_false]; omega))) z2 s2 r2 n9 hT2 (by rw [b2, hR1.2.2.2.2.2.2.2.2.1])
  have hTk : trlOK (sp_lisR x.1 a b) (if v2 < 0 then tl else []) := by
    by_cases z : v2 < 0
    · rw [if_pos z, k4 z]; exact hP.2.1
    · rw [if_neg z]; exact trlOK_nil
  exact ⟨v2, sh, M1, M2, c1, c2, by omega, ⟨hW, q2.1, q2.2.1, by omega, by omega⟩, _, _, _, _, _, _, _, _, _, _, _, _, hC2, hR2, IOK_up hI k1 (by rw [k2]; exact hI.2.1) k3, hTk, hP.2.2.1, hP.2.2.2.1, bmp_b hP.2.2.2.2.1 v2, hP.2.2.2.2.2⟩

theorem st_terms (hd : 44 ≤ d) (h : JJ sh M n) (hn : n < 600) {a : Int} (ha : rg a) {b : Int} (hb : rg b) : AskS xs L d sh M n 45 211 [.int (iI a), .int (iI b)] := by
  obtain ⟨hn6, ⟨hW, hF, hG, hl1, hl2⟩, x, tl, ld, st, ft, sp, tn, tb, rf, dl, yf, im, hC, hR, hP⟩ := h
  have hI := hP.1
  have hlw := lwT_lw (lw_T hC hI)
  obtain ⟨v, M1, ⟨q1, e1, r1, s1, b1, t1, f1⟩, c1⟩ := ct_S_terms (xs := xs) (L := L) (d := d) (by omega) hW hF hG (by rw [hC.1]; exact hI.1) hlw (CC_bd hC.2.2.2.2.2.2.2.2.1 hn6 hP.2.2.2.2.1) hC.2.2.1.1 ha hb
  have hR1 := RR_fr (M2 := M1) hR (fun a h1 h2 => q1.2.2 a (by first | exact List.not_mem_nil | (simp only [List.mem_cons, List.not_mem_nil, or_false]; omega)))
  obtain ⟨v2, M2, ⟨q2, e2, r2, n9, s2, b2, t8, z2⟩, c2⟩ := ct_R_terms (xs := xs) (L := L) (d := d) (by omega) hW q1.1 q1.2.1 (by rw [hR1.1]; exact hI.1) (by rw [hR1.2.2.2.2.2.2.2.2.1]; exact rf_bd hn6 hP.2.2.2.2.1) ha hb
  have hv : v2 = v := by rw [e2, e1, hC.1, hR1.1]
  subst hv
  rw [hC.1] at e1 r1
  rw [hR1.1] at r2
  have hvb := terV_b hI.1 a b
  rw [← e1] at hvb
  obtain ⟨k1, k2, k3, k4⟩ := ter_ok hI.1 hI.2.1 a b
  rw [← e1] at k4
  have hT1 : ctlR M1 27 (if v2 < 0 then tl else []) := by
    by_cases z : v2 < 0
    · rw [if_pos z]; rw [if_pos z] at t1
      exact ctl_eq hC.2.2.1 (fun a h1 h2 => by
        by_cases h3 : a = 27
        · rw [h3]; exact t1
        · exact q1.2.2 a (by first | exact List.not_mem_nil | (simp only [List.mem_cons, List.not_mem_nil, or_false]; omega)))
    · rw [if_neg z]; rw [if_neg z] at t1
      exact ctl_clear hC.2.2.1.1 t1
  have hT2 : tlR M2 (if v2 < 0 then tl else []) := by
    by_cases z : v2 < 0
    · rw [if_pos z]; rw [if_pos z] at t8
      exact tlR_8 hR1.2.2.1 t8 (fun j _ => by rw [q2.2.2 233 (by decide)]) (q2.2.2 234 (by decide))
    · rw [if_neg z]; rw [if_neg z] at t8
      exact tl_nil t8
  have hC1 := CR_up (x := x) (rf2 := bmp rf v2) hC (fun a ha => q1.2.2 a (by first | exact List.not_mem_nil | (simp only [List.mem_cons, List.not_mem_nil, or_false]; omega))) f1 s1 r1 hT1 (by rw [b1]; exact CC_b hC.2.2.2.2.2.2.2.2.1 hvb)
  have hC2 := CR_q hC1 (fun a ha => q2.2.2 a (by first | exact List.not_mem_nil | (simp only [List.mem_cons, List.not_mem_nil, or_false]; omega)))
  have hR2 := RR_up (x := x) hR1 (fun a ha => q2.2.2 a (by first | exact List.not_mem_nil | (simp only [List.mem_cons, List.not_mem_nil, or_false]; omega))) z2 s2 r2 n9 hT2 (by rw [b2, hR1.2.2.2.2.2.2.2.2.1])
  have hTk : trlOK (sp_terR x.1 a b) (if v2 < 0 then tl else []) := by
    by_cases z : v2 < 0
    · rw [if_pos z, k4 z]; exact hP.2.1
    · rw [if_neg z]; exact trlOK_nil
  exact ⟨v2, sh, M1, M2, c1, c2, by omega, ⟨hW, q2.1, q2.2.1, by omega, by omega⟩, _, _, _, _, _, _, _, _, _, _, _, _, hC2, hR2, IOK_up hI k1 k2 k3, hTk, hP.2.2.1, hP.2.2.2.1, bmp_b hP.2.2.2.2.1 v2, hP.2.2.2.2.2⟩

theorem st_told (hd : 44 ≤ d) (h : JJ sh M n) (hn : n < 600) {a : Int} (ha : rg a) {b : Int} (hb : rg b) {m : Int} (hm : rg m) : AskS xs L d sh M n 125 267 [.int (iI a), .int (iI b), .int (iI m)] := by
  obtain ⟨hn6, ⟨hW, hF, hG, hl1, hl2⟩, x, tl, ld, st, ft, sp, tn, tb, rf, dl, yf, im, hC, hR, hP⟩ := h
  have hI := hP.1
  have hlw := lwT_lw (lw_T hC hI)
  obtain ⟨v, M1, ⟨q1, e1, r1, s1, b1, f1⟩, c1⟩ := ct_S_told (xs := xs) (L := L) (d := d) (by omega) hW hF hG (by rw [hC.1]; exact hI.1) hlw (CC_bd hC.2.2.2.2.2.2.2.2.1 hn6 hP.2.2.2.2.1) ha hb hm
  have hR1 := RR_fr (M2 := M1) hR (fun a h1 h2 => q1.2.2 a (by first | exact List.not_mem_nil | (simp only [List.mem_cons, List.not_mem_nil, or_false]; omega)))
  obtain ⟨v2, M2, ⟨q2, e2, r2, n9, s2, b2, z2⟩, c2⟩ := ct_R_told (xs := xs) (L := L) (d := d) (by omega) hW q1.1 q1.2.1 (by rw [hR1.1]; exact hI.1) (by rw [hR1.2.2.2.2.2.2.2.2.1]; exact rf_bd hn6 hP.2.2.2.2.1) ha hb hm
  have hv : v2 = v := by rw [e2, e1, hC.1, hR1.1]
  subst hv
  rw [hC.1] at e1 r1
  rw [hR1.1] at r2
  have hvb := tolV_b hI.1 a b m
  rw [← e1] at hvb
  obtain ⟨k1, k2⟩ := tol_ok hI.1 a b m
  have hC1 := CR_up (x := x) (rf2 := bmp rf v2) hC (fun a ha => q1.2.2 a (by first | exact List.not_mem_nil | (simp only [List.mem_cons, List.not_mem_nil, or_false]; omega))) f1 s1 r1 (ctl_eq hC.2.2.1 (fun a h1 h2 => q1.2.2 a (by first | exact List.not_mem_nil | (simp only [List.mem_cons, List.not_mem_nil, or_false]; omega)))) (by rw [b1]; exact CC_b hC.2.2.2.2.2.2.2.2.1 hvb)
  have hC2 := CR_q hC1 (fun a ha => q2.2.2 a (by first | exact List.not_mem_nil | (simp only [List.mem_cons, List.not_mem_nil, or_false]; omega)))
  have hR2 := RR_up (x := x) hR1 (fun a ha => q2.2.2 a (by first | exact List.not_mem_nil | (simp only [List.mem_cons, List.not_mem_nil, or_false]; omega))) (fun j h1 h2 => z2 j h1 (fun q => h2 (by simp only [List.mem_cons, List.not_mem_nil, or_false] at q ⊢; omega))) s2 r2 n9 (tlR_8 hR1.2.2.1 (z2 8 (by decide) (by decide)) (fun j _ => by rw [q2.2.2 233 (by decide)]) (q2.2.2 234 (by decide))) (by rw [b2, hR1.2.2.2.2.2.2.2.2.1])
  exact ⟨v2, sh, M1, M2, c1, c2, by omega, ⟨hW, q2.1, q2.2.1, by omega, by omega⟩, _, _, _, _, _, _, _, _, _, _, _, _, hC2, hR2, IOK_up hI k1 (by rw [k2 5 (by omega) (by omega)]; exact hI.2.1) (k2 3 (by omega) (by omega)), trlOK_eq hP.2.1 (k2 6 (by omega) (by omega)) (k2 7 (by omega) (by omega)), hP.2.2.1, hP.2.2.2.1, bmp_b hP.2.2.2.2.1 v2, hP.2.2.2.2.2⟩

theorem st_force (hd : 44 ≤ d) (h : JJ sh M n) (hn : n < 600) {l : Int} (hl : rg l) : AskS xs L d sh M n 111 246 [.int (iI l)] := by
  obtain ⟨hn6, ⟨hW, hF, hG, hl1, hl2⟩, x, tl, ld, st, ft, sp, tn, tb, rf, dl, yf, im, hC, hR, hP⟩ := h
  have hI := hP.1
  have hlw := lwT_lw (lw_T hC hI)
  obtain ⟨v, M1, ⟨q1, e1, r1, s1, b1, f1⟩, c1⟩ := ct_S_force (xs := xs) (L := L) (d := d) (by omega) hW hF hG (by rw [hC.1]; exact hI.1) (CC_bd hC.2.2.2.2.2.2.2.2.1 hn6 hP.2.2.2.2.1) hl
  have hR1 := RR_fr (M2 := M1) hR (fun a h1 h2 => q1.2.2 a (by first | exact List.not_mem_nil | (simp only [List.mem_cons, List.not_mem_nil, or_false]; omega)))
  obtain ⟨v2, M2, ⟨q2, e2, r2, n9, s2, b2, z2⟩, c2⟩ := ct_R_force (xs := xs) (L := L) (d := d) (by omega) hW q1.1 q1.2.1 (by rw [hR1.1]; exact hI.1) (by rw [hR1.2.2.2.2.2.2.2.2.1]; exact rf_bd hn6 hP.2.2.2.2.1) hl
  have hv : v2 = v := by rw [e2, e1, hC.1, hR1.1]
  subst hv
  rw [hC.1] at e1 r1 s1 b1
  rw [hR1.1] at r2 s2 b2
  obtain ⟨k1, k2⟩ := for_ok hI.1 l
  have hC1 := CR_up (x := x) (rf2 := bmp rf (sp_forS x.1 l)) hC (fun a ha => q1.2.2 a (by first | exact List.not_mem_nil | (simp only [List.mem_cons, List.not_mem_nil, or_false]; omega))) f1 s1 r1 (ctl_eq hC.2.2.1 (fun a h1 h2 => q1.2.2 a (by first | exact List.not_mem_nil | (simp only [List.mem_cons, List.not_mem_nil, or_false]; omega)))) (by rw [b1]; exact CC_b hC.2.2.2.2.2.2.2.2.1 (forS_b l))
  have hC2 := CR_q hC1 (fun a ha => q2.2.2 a (by first | exact List.not_mem_nil | (simp only [List.mem_cons, List.not_mem_nil, or_false]; omega)))
  have hR2 := RR_up (x := x) hR1 (fun a ha => q2.2.2 a (by first | exact List.not_mem_nil | (simp only [List.mem_cons, List.not_mem_nil, or_false]; omega))) (fun j h1 h2 => z2 j h1 (fun q => h2 (by simp only [List.mem_cons, List.not_mem_nil, or_false] at q ⊢; omega))) s2 r2 n9 (tlR_8 hR1.2.2.1 (z2 8 (by decide) (by decide)) (fun j _ => by rw [q2.2.2 233 (by decide)]) (q2.2.2 234 (by decide))) (by rw [b2, hR1.2.2.2.2.2.2.2.2.1])
  exact ⟨v2, sh, M1, M2, c1, c2, by omega, ⟨hW, q2.1, q2.2.1, by omega, by omega⟩, _, _, _, _, _, _, _, _, _, _, _, _, hC2, hR2, IOK_up hI k1 (by rw [k2 5 (by omega)]; exact hI.2.1) (k2 3 (by omega)), trlOK_eq hP.2.1 (k2 6 (by omega)) (k2 7 (by omega)), hP.2.2.1, hP.2.2.2.1, bmp_b hP.2.2.2.2.1 _, hP.2.2.2.2.2⟩

theorem st_forget (hd : 44 ≤ d) (h : JJ sh M n) (hn : n < 600)  : AskS xs L d sh M n 126 268 [] := by
  obtain ⟨hn6, ⟨hW, hF, hG, hl1, hl2⟩, x, tl, ld, st, ft, sp, tn, tb, rf, dl, yf, im, hC, hR, hP⟩ := h
  have hI := hP.1
  have hlw := lwT_lw (lw_T hC hI)
  obtain ⟨v, M1, ⟨q1, e1, r1⟩, c1⟩ := ct_S_forget (xs := xs) (L := L) (d := d) (by omega) hW hF hG (by rw [hC.1]; exact hI.1)
  have hR1 := RR_fr (M2 := M1) hR (fun a h1 h2 => q1.2.2 a (by first | exact List.not_mem_nil | (simp only [List.mem_cons, List.not_mem_nil, or_false]; omega)))
  obtain ⟨v2, M2, ⟨q2, e2, r2, n9, z2⟩, c2⟩ := ct_R_forget (xs := xs) (L := L) (d := d) (by omega) hW q1.1 q1.2.1
  have hv : v2 = v := by rw [e2, e1, hC.1, hR1.1]
  subst hv
  rw [hC.1] at r1
  rw [hR1.1] at r2
  have hC1 := CR_up (x := x) (rf2 := rf) (st2 := st) hC (fun a ha => q1.2.2 a (by first | exact List.not_mem_nil | (simp only [List.mem_cons, List.not_mem_nil, or_false]; omega))) (fun j _ => by rw [q1.2.2 0 (by decide)]) (by rw [q1.2.2 0 (by decide)]; exact hC.2.2.2.2.1.2) r1 (ctl_eq hC.2.2.1 (fun a h1 h2 => q1.2.2 a (by first | exact List.not_mem_nil | (simp only [List.mem_cons, List.not_mem_nil, or_false]; omega)))) (by rw [q1.2.2 205 (by decide)]; exact hC.2.2.2.2.2.2.2.2.1)
  have hC2 := CR_q hC1 (fun a ha => q2.2.2 a (by first | exact List.not_mem_nil | (simp only [List.mem_cons, List.not_mem_nil, or_false]; omega)))
  have hR2 := RR_up (x := x) hR1 (fun a ha => q2.2.2 a (by first | exact List.not_mem_nil | (simp only [List.mem_cons, List.not_mem_nil, or_false]; omega))) (fun j h1 h2 => z2 j h1 (by simp)) ((z2 1 (by decide) (by simp)).trans hR1.2.2.2.2.1.2) r2 n9 (tlR_8 hR1.2.2.1 (z2 8 (by decide) (by simp)) (fun j _ => by rw [q2.2.2 233 (by decide)]) (q2.2.2 234 (by decide))) (by rw [q2.2.2 229 (by decide), hR1.2.2.2.2.2.2.2.2.1])
  exact ⟨v2, sh, M1, M2, c1, c2, by omega, ⟨hW, q2.1, q2.2.1, by omega, by omega⟩, _, _, _, _, _, _, _, _, _, _, _, _, hC2, hR2, IOK_up hI (fgt_ok hI.1) hI.2.1 rfl, trlOK_eq hP.2.1 rfl rfl, hP.2.2.1, hP.2.2.2.1, rf_b hP.2.2.2.2.1, hP.2.2.2.2.2⟩

theorem stA_n {a : Nat} (h : a = 3 ∨ (8 ≤ a ∧ a ≤ 11) ∨ (14 ≤ a ∧ a ≤ 26) ∨ (98 ≤ a ∧ a ≤ 204) ∨ 206 ≤ a) : a ∉ stA := by
  intro z
  rcases List.mem_append.mp z with z | z
  · simp only [List.mem_cons, List.not_mem_nil, or_false] at z; omega
  · have := trA_iff.mp z; omega
theorem st_preach (hd : 44 ≤ d) (h : JJ sh M n) (hn : n < 600) {a : Int} (ha : rg a) : AskS xs L d sh M n 112 248 [.int (iI a)] := by
  obtain ⟨hn6, ⟨hW, hF, hG, hl1, hl2⟩, x, tl, ld, st, ft, sp, tn, tb, rf, dl, yf, im, hC, hR, hP⟩ := h
  have hI := hP.1
  have hlw := lwT_lw (lw_T hC hI)
  obtain ⟨v, M1, ⟨q1, e1, r1, s1, b1, t1, f1⟩, c1⟩ := ct_S_preach (xs := xs) (L := L) (d := d) (by omega) hW hF hG (by rw [hC.1]; exact hI.1) hlw (CC_bd hC.2.2.2.2.2.2.2.2.1 hn6 hP.2.2.2.2.1) hC.2.2.1 ha
  have hR1 := RR_fr (M2 := M1) hR (fun a h1 h2 => q1.2.2 a (stA_n (by omega)))
  obtain ⟨v2, M2, ⟨q2, e2, r2, n9, s2, b2, t2, z2⟩, c2⟩ := ct_R_preach (xs := xs) (L := L) (d := d) (by omega) hW q1.1 q1.2.1 (by rw [hR1.1]; exact hI.1) (lw_R hR1 hI) hR1.2.2.2.2.2.2.2.2.2.1 (tl := tl) hR1.2.2.1 (by rw [hR1.2.2.2.2.2.2.2.2.1]; exact rf_bd hn6 hP.2.2.2.2.1) ha
  have hv : v2 = v := by rw [e2, e1, hC.1, hR1.1]
  subst hv
  rw [hC.1] at e1 r1 t1
  rw [hR1.1] at r2 t2
  have eV : v2 = od_V (lwOf x) x.1 0 a 0 := e1
  have eR1 : rc M1 3 = od_R (lwOf x) x.1 0 a 0 := r1
  have eR2 : rr_ M2 = od_R (lwOf x) x.1 0 a 0 := r2
  have hvb := od_V_b (lw := lwOf x) hI.1 (k := 0) (by omega) a 0
  rw [← eV] at hvb
  obtain ⟨k1, k2⟩ := od_step (lw := lwOf x) hI hP.2.1 (k := 0) (by omega) a 0
  rw [← eV] at k2
  have hC1 := CR_up (x := x) (rf2 := bmp rf v2) hC (fun a ha => q1.2.2 a (stA_n (by omega))) f1 s1 eR1 t1 (by rw [b1]; exact CC_b hC.2.2.2.2.2.2.2.2.1 (by omega))
  have hC2 := CR_q hC1 (fun a ha => q2.2.2 a (by first | exact List.not_mem_nil | (simp only [List.mem_cons, List.not_mem_nil, or_false]; omega)))
  have hR2 := RR_up (x := x) hR1 (fun a ha => q2.2.2 a (by first | exact List.not_mem_nil | (simp only [List.mem_cons, List.not_mem_nil, or_false]; omega))) z2 s2 eR2 n9 t2 (by rw [b2, hR1.2.2.2.2.2.2.2.2.1])
  exact ⟨v2, sh, M1, M2, c1, c2, by omega, ⟨hW, q2.1, q2.2.1, by omega, by omega⟩, _, _, _, _, _, _, _, _, _, _, _, _, hC2, hR2, k1, k2, hP.2.2.1, hP.2.2.2.1, bmp_b hP.2.2.2.2.1 v2, hP.2.2.2.2.2⟩

theorem st_scrape (hd : 44 ≤ d) (h : JJ sh M n) (hn : n < 600) {a : Int} (ha : rg a) {b : Int} (hb : rg b) : AskS xs L d sh M n 114 253 [.int (iI a), .int (iI b)] := by
  obtain ⟨hn6, ⟨hW, hF, hG, hl1, hl2⟩, x, tl, ld, st, ft, sp, tn, tb, rf, dl, yf, im, hC, hR, hP⟩ := h
  have hI := hP.1
  have hlw := lwT_lw (lw_T hC hI)
  obtain ⟨v, M1, ⟨q1, e1, r1, s1, b1, t1, f1⟩, c1⟩ := ct_S_scrape (xs := xs) (L := L) (d := d) (by omega) hW hF hG (by rw [hC.1]; exact hI.1) hlw (CC_bd hC.2.2.2.2.2.2.2.2.1 hn6 hP.2.2.2.2.1) hC.2.2.1 ha hb
  have hR1 := RR_fr (M2 := M1) hR (fun a h1 h2 => q1.2.2 a (stA_n (by omega)))
  obtain ⟨v2, M2, ⟨q2, e2, r2, n9, s2, b2, t2, z2⟩, c2⟩ := ct_R_scrape (xs := xs) (L := L) (d := d) (by omega) hW q1.1 q1.2.1 (by rw [hR1.1]; exact hI.1) (lw_R hR1 hI) hR1.2.2.2.2.2.2.2.2.2.1 (tl := tl) hR1.2.2.1 (by rw [hR1.2.2.2.2.2.2.2.2.1]; exact rf_bd hn6 hP.2.2.2.2.1) ha hb
  have hv : v2 = v := by rw [e2, e1, hC.1, hR1.1]
  subst hv
  rw [hC.1] at e1 r1 t1
  rw [hR1.1] at r2 t2
  have eV : v2 = od_V (lwOf x) x.1 1 a b := e1
  have eR1 : rc M1 3 = od_R (lwOf x) x.1 1 a b := r1
  have eR2 : rr_ M2 = od_R (lwOf x) x.1 1 a b := r2
  have hvb := od_V_b (lw := lwOf x) hI.1 (k := 1) (by omega) a b
  rw [← eV] at hvb
  obtain ⟨k1, k2⟩ := od_step (lw := lwOf x) hI hP.2.1 (k := 1) (by omega) a b
  rw [← eV] at k2
  have hC1 := CR_up (x := x) (rf2 := bmp rf v2) hC (fun a ha => q1.2.2 a (stA_n (by omega))) f1 s1 eR1 t1 (by rw [b1]; exact CC_b hC.2.2.2.2.2.2.2.2.1 (by omega))
  have hC2 := CR_q hC1 (fun a ha => q2.2.2 a (by first | exact List.not_mem_nil | (simp only [List.mem_cons, List.not_mem_nil, or_false]; omega)))
  have hR2 := RR_up (x := x) hR1 (fun a ha => q2.2.2 a (by first | exact List.not_mem_nil | (simp only [List.mem_cons, List.not_mem_nil, or_false]; omega))) z2 s2 eR2 n9 t2 (by rw [b2, hR1.2.2.2.2.2.2.2.2.1])
  exact ⟨v2, sh, M1, M2, c1, c2, by omega, ⟨hW, q2.1, q2.2.1, by omega, by omega⟩, _, _, _, _, _, _, _, _, _, _, _, _, hC2, hR2, k1, k2, hP.2.2.1, hP.2.2.2.1, bmp_b hP.2.2.2.2.1 v2, hP.2.2.2.2.2⟩

theorem st_walk (hd : 44 ≤ d) (h : JJ sh M n) (hn : n < 600) {a : Int} (ha : rg a) : AskS xs L d sh M n 115 255 [.int (iI a)] := by
  obtain ⟨hn6, ⟨hW, hF, hG, hl1, hl2⟩, x, tl, ld, st, ft, sp, tn, tb, rf, dl, yf, im, hC, hR, hP⟩ := h
  have hI := hP.1
  have hlw := lwT_lw (lw_T hC hI)
  obtain ⟨v, M1, ⟨q1, e1, r1, s1, b1, t1, f1⟩, c1⟩ := ct_S_walk (xs := xs) (L := L) (d := d) (by omega) hW hF hG (by rw [hC.1]; exact hI.1) hlw (CC_bd hC.2.2.2.2.2.2.2.2.1 hn6 hP.2.2.2.2.1) hC.2.2.1 ha
  have hR1 := RR_fr (M2 := M1) hR (fun a h1 h2 => q1.2.2 a (stA_n (by omega)))
  obtain ⟨v2, M2, ⟨q2, e2, r2, n9, s2, b2, t2, z2⟩, c2⟩ := ct_R_walk (xs := xs) (L := L) (d := d) (by omega) hW q1.1 q1.2.1 (by rw [hR1.1]; exact hI.1) (lw_R hR1 hI) hR1.2.2.2.2.2.2.2.2.2.1 (tl := tl) hR1.2.2.1 (by rw [hR1.2.2.2.2.2.2.2.2.1]; exact rf_bd hn6 hP.2.2.2.2.1) ha
  have hv : v2 = v := by rw [e2, e1, hC.1, hR1.1]
  subst hv
  rw [hC.1] at e1 r1 t1
  rw [hR1.1] at r2 t2
  have eV : v2 = od_V (lwOf x) x.1 2 a 0 := e1
  have eR1 : rc M1 3 = od_R (lwOf x) x.1 2 a 0 := r1
  have eR2 : rr_ M2 = od_R (lwOf x) x.1 2 a 0 := r2
  have hvb := od_V_b (lw := lwOf x) hI.1 (k := 2) (by omega) a 0
  rw [← eV] at hvb
  obtain ⟨k1, k2⟩ := od_step (lw := lwOf x) hI hP.2.1 (k := 2) (by omega) a 0
  rw [← eV] at k2
  have hC1 := CR_up (x := x) (rf2 := bmp rf v2) hC (fun a ha => q1.2.2 a (stA_n (by omega))) f1 s1 eR1 t1 (by rw [b1]; exact CC_b hC.2.2.2.2.2.2.2.2.1 (by omega))
  have hC2 := CR_q hC1 (fun a ha => q2.2.2 a (by first | exact List.not_mem_nil | (simp only [List.mem_cons, List.not_mem_nil, or_false]; omega)))
  have hR2 := RR_up (x := x) hR1 (fun a ha => q2.2.2 a (by first | exact List.not_mem_nil | (simp only [List.mem_cons, List.not_mem_nil, or_false]; omega))) z2 s2 eR2 n9 t2 (by rw [b2, hR1.2.2.2.2.2.2.2.2.1])
  exact ⟨v2, sh, M1, M2, c1, c2, by omega, ⟨hW, q2.1, q2.2.1, by omega, by omega⟩, _, _, _, _, _, _, _, _, _, _, _, _, hC2, hR2, k1, k2, hP.2.2.1, hP.2.2.2.1, bmp_b hP.2.2.2.2.1 v2, hP.2.2.2.2.2⟩

theorem st_sit (hd : 44 ≤ d) (h : JJ sh M n) (hn : n < 600) {a : Int} (ha : rg a) {b : Int} (hb : rg b) : AskS xs L d sh M n 116 257 [.int (iI a), .int (iI b)] := by
  obtain ⟨hn6, ⟨hW, hF, hG, hl1, hl2⟩, x, tl, ld, st, ft, sp, tn, tb, rf, dl, yf, im, hC, hR, hP⟩ := h
  have hI := hP.1
  have hlw := lwT_lw (lw_T hC hI)
  obtain ⟨v, M1, ⟨q1, e1, r1, s1, b1, t1, f1⟩, c1⟩ := ct_S_sit (xs := xs) (L := L) (d := d) (by omega) hW hF hG (by rw [hC.1]; exact hI.1) hlw (CC_bd hC.2.2.2.2.2.2.2.2.1 hn6 hP.2.2.2.2.1) hC.2.2.1 ha hb
  have hR1 := RR_fr (M2 := M1) hR (fun a h1 h2 => q1.2.2 a (stA_n (by omega)))
  obtain ⟨v2, M2, ⟨q2, e2, r2, n9, s2, b2, t2, z2⟩, c2⟩ := ct_R_sit (xs := xs) (L := L) (d := d) (by omega) hW q1.1 q1.2.1 (by rw [hR1.1]; exact hI.1) (lw_R hR1 hI) hR1.2.2.2.2.2.2.2.2.2.1 (tl := tl) hR1.2.2.1 (by rw [hR1.2.2.2.2.2.2.2.2.1]; exact rf_bd hn6 hP.2.2.2.2.1) ha hb
  have hv : v2 = v := by rw [e2, e1, hC.1, hR1.1]
  subst hv
  rw [hC.1] at e1 r1 t1
  rw [hR1.1] at r2 t2
  have eV : v2 = od_V (lwOf x) x.1 3 a b := e1
  have eR1 : rc M1 3 = od_R (lwOf x) x.1 3 a b := r1
  have eR2 : rr_ M2 = od_R (lwOf x) x.1 3 a b := r2
  have hvb := od_V_b (lw := lwOf x) hI.1 (k := 3) (by omega) a b
  rw [← eV] at hvb
  obtain ⟨k1, k2⟩ := od_step (lw := lwOf x) hI hP.2.1 (k := 3) (by omega) a b
  rw [← eV] at k2
  have hC1 := CR_up (x := x) (rf2 := bmp rf v2) hC (fun a ha => q1.2.2 a (stA_n (by omega))) f1 s1 eR1 t1 (by rw [b1]; exact CC_b hC.2.2.2.2.2.2.2.2.1 (by omega))
  have hC2 := CR_q hC1 (fun a ha => q2.2.2 a (by first | exact List.not_mem_nil | (simp only [List.mem_cons, List.not_mem_nil, or_false]; omega)))
  have hR2 := RR_up (x := x) hR1 (fun a ha => q2.2.2 a (by first | exact List.not_mem_nil | (simp only [List.mem_cons, List.not_mem_nil, or_false]; omega))) z2 s2 eR2 n9 t2 (by rw [b2, hR1.2.2.2.2.2.2.2.2.1])
  exact ⟨v2, sh, M1, M2, c1, c2, by omega, ⟨hW, q2.1, q2.2.1, by omega, by omega⟩, _, _, _, _, _, _, _, _, _, _, _, _, hC2, hR2, k1, k2, hP.2.2.1, hP.2.2.2.1, bmp_b hP.2.2.2.2.1 v2, hP.2.2.2.2.2⟩

theorem st_pass (hd : 44 ≤ d) (h : JJ sh M n) (hn : n < 600)  : AskS xs L d sh M n 117 259 [] := by
  obtain ⟨hn6, ⟨hW, hF, hG, hl1, hl2⟩, x, tl, ld, st, ft, sp, tn, tb, rf, dl, yf, im, hC, hR, hP⟩ := h
  have hI := hP.1
  have hlw := lwT_lw (lw_T hC hI)
  obtain ⟨v, M1, ⟨q1, e1, r1, s1, b1, t1, f1⟩, c1⟩ := ct_S_pass (xs := xs) (L := L) (d := d) (by omega) hW hF hG (by rw [hC.1]; exact hI.1) hlw (CC_bd hC.2.2.2.2.2.2.2.2.1 hn6 hP.2.2.2.2.1) hC.2.2.1 
  have hR1 := RR_fr (M2 := M1) hR (fun a h1 h2 => q1.2.2 a (stA_n (by omega)))
  obtain ⟨v2, M2, ⟨q2, e2, r2, n9, s2, b2, t2, z2⟩, c2⟩ := ct_R_pass (xs := xs) (L := L) (d := d) (by omega) hW q1.1 q1.2.1 (by rw [hR1.1]; exact hI.1) (lw_R hR1 hI) hR1.2.2.2.2.2.2.2.2.2.1 (tl := tl) hR1.2.2.1 (by rw [hR1.2.2.2.2.2.2.2.2.1]; exact rf_bd hn6 hP.2.2.2.2.1) (by rw [hR1.1]; exact hI.2.1)
  have hv : v2 = v := by rw [e2, e1, hC.1, hR1.1]
  subst hv
  rw [hC.1] at e1 r1 t1
  rw [hR1.1] at r2 t2
  have eV : v2 = od_V (lwOf x) x.1 4 0 0 := e1
  have eR1 : rc M1 3 = od_R (lwOf x) x.1 4 0 0 := r1
  have eR2 : rr_ M2 = od_R (lwOf x) x.1 4 0 0 := r2
  have hvb := od_V_b (lw := lwOf x) hI.1 (k := 4) (by omega) 0 0
  rw [← eV] at hvb
  obtain ⟨k1, k2⟩ := od_step (lw := lwOf x) hI hP.2.1 (k := 4) (by omega) 0 0
  rw [← eV] at k2
  have hC1 := CR_up (x := x) (rf2 := bmp rf v2) hC (fun a ha => q1.2.2 a (stA_n (by omega))) f1 s1 eR1 t1 (by rw [b1]; exact CC_b hC.2.2.2.2.2.2.2.2.1 (by omega))
  have hC2 := CR_q hC1 (fun a ha => q2.2.2 a (by first | exact List.not_mem_nil | (simp only [List.mem_cons, List.not_mem_nil, or_false]; omega)))
  have hR2 := RR_up (x := x) hR1 (fun a ha => q2.2.2 a (by first | exact List.not_mem_nil | (simp only [List.mem_cons, List.not_mem_nil, or_false]; omega))) z2 s2 eR2 n9 t2 (by rw [b2, hR1.2.2.2.2.2.2.2.2.1])
  exact ⟨v2, sh, M1, M2, c1, c2, by omega, ⟨hW, q2.1, q2.2.1, by omega, by omega⟩, _, _, _, _, _, _, _, _, _, _, _, _, hC2, hR2, k1, k2, hP.2.2.1, hP.2.2.2.1, bmp_b hP.2.2.2.2.1 v2, hP.2.2.2.2.2⟩

theorem st_undo (hd : 44 ≤ d) (h : JJ sh M n) (hn : n < 600)  : AskS xs L d sh M n 118 175 [] := by
  obtain ⟨hn6, ⟨hW, hF, hG, hl1, hl2⟩, x, tl, ld, st, ft, sp, tn, tb, rf, dl, yf, im, hC, hR, hP⟩ := h
  have hI := hP.1
  have hlw := lwT_lw (lw_T hC hI)
  rcases List.eq_nil_or_concat tl with htl | ⟨t2, e, htl⟩
  · subst htl
    obtain ⟨v, M1, ⟨q1, e1, s1, b1, f1⟩, c1⟩ := ct_S_undo0 (xs := xs) (L := L) (d := d) (by omega) hW hF hG (CC_bd hC.2.2.2.2.2.2.2.2.1 hn6 hP.2.2.2.2.1) hC.2.2.1
    have hR1 := RR_fr (M2 := M1) hR (fun a h1 h2 => q1.2.2 a (by first | exact List.not_mem_nil | (simp only [List.mem_cons, List.not_mem_nil, or_false]; omega)))
    obtain ⟨v2, M2, ⟨q2, e2, e230, s2, b2, z2⟩, c2⟩ := ct_R_undo0 (xs := xs) (L := L) (d := d) (by omega) hW q1.1 q1.2.1 (by rw [hR1.2.2.2.2.2.2.2.2.1]; exact rf_bd hn6 hP.2.2.2.2.1) hR1.2.2.1
    have hv : v2 = v := by rw [e2, e1]
    subst hv
    have hC1 := CR_up (x := x) (rf2 := bmp rf (-3)) hC (fun a ha => q1.2.2 a (by first | exact List.not_mem_nil | (simp only [List.mem_cons, List.not_mem_nil, or_false]; omega))) f1 s1 ((rc_eo q1.2.2 (by decide)).trans hC.1) (ctl_eq hC.2.2.1 (fun a h1 h2 => q1.2.2 a (by first | exact List.not_mem_nil | (simp only [List.mem_cons, List.not_mem_nil, or_false]; omega)))) (by rw [b1]; exact CC_b hC.2.2.2.2.2.2.2.2.1 (by omega))
    have hC2 := CR_q hC1 (fun a ha => q2.2.2 a (by first | exact List.not_mem_nil | (simp only [List.mem_cons, List.not_mem_nil, or_false]; omega)))
    have hr : rr_ M2 = rr_ M1 := by funext j; unfold rr_; rw [e230]
    have hR2 := RR_up (x := x) hR1 (fun a ha => q2.2.2 a (by first | exact List.not_mem_nil | (simp only [List.mem_cons, List.not_mem_nil, or_false]; omega))) (fun j h1 h2 => z2 j h1 (fun q => h2 (by simp only [List.mem_cons, List.not_mem_nil, or_false] at q ⊢; omega))) s2 (hr.trans hR1.1) (fun j _ => by rw [e230]) (tlR_8 hR1.2.2.1 (z2 8 (by decide) (by decide)) (fun j _ => by rw [q2.2.2 233 (by decide)]) (q2.2.2 234 (by decide))) (by rw [b2, hR1.2.2.2.2.2.2.2.2.1])
    exact ⟨v2, sh, M1, M2, c1, c2, by omega, ⟨hW, q2.1, q2.2.1, by omega, by omega⟩, _, _, _, _, _, _, _, _, _, _, _, _, hC2, hR2, hI, hP.2.1, hP.2.2.1, hP.2.2.2.1, bmp_b hP.2.2.2.2.1 _, hP.2.2.2.2.2⟩
  · rw [List.concat_eq_append] at htl
    subst htl
    obtain ⟨ek, eok, e5, e6, e7⟩ := hP.2.1 e (List.mem_append_right _ List.mem_cons_self)
    obtain ⟨v, M1, ⟨q1, e1, r1, t1, s1, b1, f1⟩, c1⟩ := ct_S_undo1 (xs := xs) (L := L) (d := d) (by omega) hW hF hG (CC_bd hC.2.2.2.2.2.2.2.2.1 hn6 hP.2.2.2.2.1) hC.2.2.1 ek
    have hR1 := RR_fr (M2 := M1) hR (fun a h1 h2 => q1.2.2 a (by first | exact List.not_mem_nil | (simp only [List.mem_cons, List.not_mem_nil, or_false]; omega)))
    obtain ⟨v2, M2, ⟨q2, e2, r2, n9, t2', s2, b2, z2⟩, c2⟩ := ct_R_undo1 (xs := xs) (L := L) (d := d) (by omega) hW q1.1 q1.2.1 (by rw [hR1.2.2.2.2.2.2.2.2.1]; exact rf_bd hn6 hP.2.2.2.2.1) hR1.2.2.1 ek
    have hv : v2 = v := by rw [e2, e1]
    subst hv
    rw [hC.1] at r1
    rw [hR1.1] at r2
    have er : (fun j => if (j = 5 ∨ 8 ≤ j) ∧ j < 69 then e.2 j else x.1 j) = fun j => if 5 ≤ j ∧ j < 69 then e.2 j else x.1 j := by
      funext j
      by_cases z6 : j = 6
      · rw [z6, if_neg (by omega), if_pos (by omega), e6]
      · by_cases z7 : j = 7
        · rw [z7, if_neg (by omega), if_pos (by omega), e7]
        · by_cases z : 5 ≤ j ∧ j < 69
          · rw [if_pos z, if_pos (by omega)]
          · rw [if_neg z, if_neg (by omega)]
    rw [er] at r1
    have hC1 := CR_up (x := x) (rf2 := rf) hC (fun a ha => q1.2.2 a (by first | exact List.not_mem_nil | (simp only [List.mem_cons, List.not_mem_nil, or_false]; omega))) f1 s1 r1 t1 (by rw [b1]; exact hC.2.2.2.2.2.2.2.2.1)
    have hC2 := CR_q hC1 (fun a ha => q2.2.2 a (by first | exact List.not_mem_nil | (simp only [List.mem_cons, List.not_mem_nil, or_false]; omega)))
    have hR2 := RR_up (x := x) hR1 (fun a ha => q2.2.2 a (by first | exact List.not_mem_nil | (simp only [List.mem_cons, List.not_mem_nil, or_false]; omega))) z2 s2 r2 n9 t2' (by rw [b2, hR1.2.2.2.2.2.2.2.2.1])
    exact ⟨v2, sh, M1, M2, c1, c2, by omega, ⟨hW, q2.1, q2.2.1, by omega, by omega⟩, _, _, _, _, _, _, _, _, _, _, _, _, hC2, hR2, IOK_up hI (und_ok hI.1 eok) e5 rfl, (fun y hy => by obtain ⟨a1, a2, a3, a4, a5⟩ := hP.2.1 y (List.mem_append_left _ hy); exact ⟨a1, a2, a3, a4.trans e6.symm, a5.trans e7.symm⟩), hP.2.2.1, hP.2.2.2.1, rf_b hP.2.2.2.2.1, hP.2.2.2.2.2⟩

end CHG
