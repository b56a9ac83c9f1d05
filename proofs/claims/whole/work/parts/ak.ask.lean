/-! the calls that only ask -/
section ASK
variable {xs : Nat → Int} {L d : Nat} {sh : List (Nat × Nat)} {M : Nat → Nat → Int} {n : Nat}
theorem PO_s {n : Nat} {x : sp_I} {tl : sp_T} {tn : Nat} {tb rf : Nat → Int} {dl : Int} {im : Nat → Option sp_I} (h : PO n x tl tn tb rf dl im) : PO (n + 1) x tl tn tb rf dl im := ⟨h.1, h.2.1, h.2.2.1, h.2.2.2.1, rf_b h.2.2.2.2.1, h.2.2.2.2.2⟩
theorem st_of (hd : 44 ≤ d) (h : JJ sh M n) (hn : n < 600) {w : Int} (hw : rg w) {u : Int} (hu : rg u) : AskS xs L d sh M n 16 184 [.int (iI w), .int (iI u)] := by
  obtain ⟨hn6, ⟨hW, hF, hG, hl1, hl2⟩, x, tl, ld, st, ft, sp, tn, tb, rf, dl, yf, im, hC, hR, hP⟩ := h
  have hI := hP.1
  have hlw := lwT_lw (lw_T hC hI)
  obtain ⟨v, M1, ⟨q1, e1⟩, c1⟩ := ct_S_of (xs := xs) (L := L) (d := d) (by omega) hW hF hG (by rw [hC.1]; exact hI.1) hlw hw hu
  have hR1 := RR_fr (M2 := M1) hR (fun a h1 h2 => q1.2.2 a (by first | exact List.not_mem_nil | (simp only [List.mem_cons, List.not_mem_nil, or_false]; omega)))
  have hC1 := CR_q (M2 := M1) hC (fun a ha => q1.2.2 a (by first | exact List.not_mem_nil | (simp only [List.mem_cons, List.not_mem_nil, or_false]; omega)))
  obtain ⟨v2, M2, ⟨q2, e2, z2⟩, c2⟩ := ct_R_of (xs := xs) (L := L) (d := d) (by omega) hW q1.1 q1.2.1 (by rw [hR1.1]; exact hI.1) (lw_R hR1 hI) hR1.2.2.2.2.2.2.2.2.2.1 hw hu
  have hv : v2 = v := by rw [e2, e1, hC.1, hR1.1]
  rw [hv] at c2
  refine ⟨v, sh, M1, M2, c1, c2, by omega, ⟨hW, q2.1, q2.2.1, by omega, by omega⟩, x, tl, ld, st, ft, sp, tn, tb, rf, dl, yf, im, CR_q hC1 (fun a ha => q2.2.2 a (by first | exact List.not_mem_nil | (simp only [List.mem_cons, List.not_mem_nil, or_false]; omega))), RR_q hR1 (fun a ha => q2.2.2 a (by first | exact List.not_mem_nil | (simp only [List.mem_cons, List.not_mem_nil, or_false]; omega))) z2 (q2.2.2 230 (by decide)) (fun j _ => by rw [q2.2.2 233 (by decide)]), PO_s hP⟩

theorem st_at (hd : 44 ≤ d) (h : JJ sh M n) (hn : n < 600) {p : Int} (hp : rg p) {u : Int} (hu : rg u) : AskS xs L d sh M n 30 198 [.int (iI p), .int (iI u)] := by
  obtain ⟨hn6, ⟨hW, hF, hG, hl1, hl2⟩, x, tl, ld, st, ft, sp, tn, tb, rf, dl, yf, im, hC, hR, hP⟩ := h
  have hI := hP.1
  have hlw := lwT_lw (lw_T hC hI)
  obtain ⟨v, M1, ⟨q1, e1⟩, c1⟩ := ct_S_at (xs := xs) (L := L) (d := d) (by omega) hW hF hG (by rw [hC.1]; exact hI.1) hlw hp hu
  have hR1 := RR_fr (M2 := M1) hR (fun a h1 h2 => q1.2.2 a (by first | exact List.not_mem_nil | (simp only [List.mem_cons, List.not_mem_nil, or_false]; omega)))
  have hC1 := CR_q (M2 := M1) hC (fun a ha => q1.2.2 a (by first | exact List.not_mem_nil | (simp only [List.mem_cons, List.not_mem_nil, or_false]; omega)))
  obtain ⟨v2, M2, ⟨q2, e2, z2⟩, c2⟩ := ct_R_at (xs := xs) (L := L) (d := d) (by omega) hW q1.1 q1.2.1 (by rw [hR1.1]; exact hI.1) (lw_R hR1 hI) hR1.2.2.2.2.2.2.2.2.2.1 hp hu
  have hv : v2 = v := by rw [e2, e1, hC.1, hR1.1]
  rw [hv] at c2
  refine ⟨v, sh, M1, M2, c1, c2, by omega, ⟨hW, q2.1, q2.2.1, by omega, by omega⟩, x, tl, ld, st, ft, sp, tn, tb, rf, dl, yf, im, CR_q hC1 (fun a ha => q2.2.2 a (by first | exact List.not_mem_nil | (simp only [List.mem_cons, List.not_mem_nil, or_false]; omega))), RR_q hR1 (fun a ha => q2.2.2 a (by first | exact List.not_mem_nil | (simp only [List.mem_cons, List.not_mem_nil, or_false]; omega))) z2 (q2.2.2 230 (by decide)) (fun j _ => by rw [q2.2.2 233 (by decide)]), PO_s hP⟩

theorem st_has (hd : 44 ≤ d) (h : JJ sh M n) (hn : n < 600) {l : Int} (hl : rg l) {u : Int} (hu : rg u) : AskS xs L d sh M n 39 206 [.int (iI l), .int (iI u)] := by
  obtain ⟨hn6, ⟨hW, hF, hG, hl1, hl2⟩, x, tl, ld, st, ft, sp, tn, tb, rf, dl, yf, im, hC, hR, hP⟩ := h
  have hI := hP.1
  have hlw := lwT_lw (lw_T hC hI)
  obtain ⟨v, M1, ⟨q1, e1⟩, c1⟩ := ct_S_has (xs := xs) (L := L) (d := d) (by omega) hW hF hG (by rw [hC.1]; exact hI.1) hlw hl hu
  have hR1 := RR_fr (M2 := M1) hR (fun a h1 h2 => q1.2.2 a (by first | exact List.not_mem_nil | (simp only [List.mem_cons, List.not_mem_nil, or_false]; omega)))
  have hC1 := CR_q (M2 := M1) hC (fun a ha => q1.2.2 a (by first | exact List.not_mem_nil | (simp only [List.mem_cons, List.not_mem_nil, or_false]; omega)))
  obtain ⟨v2, M2, ⟨q2, e2, z2⟩, c2⟩ := ct_R_has (xs := xs) (L := L) (d := d) (by omega) hW q1.1 q1.2.1 (by rw [hR1.1]; exact hI.1) (lw_R hR1 hI) hR1.2.2.2.2.2.2.2.2.2.1 hl hu
  have hv : v2 = v := by rw [e2, e1, hC.1, hR1.1]
  rw [hv] at c2
  refine ⟨v, sh, M1, M2, c1, c2, by omega, ⟨hW, q2.1, q2.2.1, by omega, by omega⟩, x, tl, ld, st, ft, sp, tn, tb, rf, dl, yf, im, CR_q hC1 (fun a ha => q2.2.2 a (by first | exact List.not_mem_nil | (simp only [List.mem_cons, List.not_mem_nil, or_false]; omega))), RR_q hR1 (fun a ha => q2.2.2 a (by first | exact List.not_mem_nil | (simp only [List.mem_cons, List.not_mem_nil, or_false]; omega))) z2 (q2.2.2 230 (by decide)) (fun j _ => by rw [q2.2.2 233 (by decide)]), PO_s hP⟩

theorem st_light (hd : 44 ≤ d) (h : JJ sh M n) (hn : n < 600) {s : Int} (hs : rg s) {u : Int} (hu : rg u) : AskS xs L d sh M n 44 210 [.int (iI s), .int (iI u)] := by
  obtain ⟨hn6, ⟨hW, hF, hG, hl1, hl2⟩, x, tl, ld, st, ft, sp, tn, tb, rf, dl, yf, im, hC, hR, hP⟩ := h
  have hI := hP.1
  have hlw := lwT_lw (lw_T hC hI)
  obtain ⟨v, M1, ⟨q1, e1⟩, c1⟩ := ct_S_light (xs := xs) (L := L) (d := d) (by omega) hW hF hG (by rw [hC.1]; exact hI.1) hlw hs hu
  have hR1 := RR_fr (M2 := M1) hR (fun a h1 h2 => q1.2.2 a (by first | exact List.not_mem_nil | (simp only [List.mem_cons, List.not_mem_nil, or_false]; omega)))
  have hC1 := CR_q (M2 := M1) hC (fun a ha => q1.2.2 a (by first | exact List.not_mem_nil | (simp only [List.mem_cons, List.not_mem_nil, or_false]; omega)))
  obtain ⟨v2, M2, ⟨q2, e2, z2⟩, c2⟩ := ct_R_light (xs := xs) (L := L) (d := d) (by omega) hW q1.1 q1.2.1 (by rw [hR1.1]; exact hI.1) (lw_R hR1 hI) hR1.2.2.2.2.2.2.2.2.2.1 hs hu
  have hv : v2 = v := by rw [e2, e1, hC.1, hR1.1]
  rw [hv] at c2
  refine ⟨v, sh, M1, M2, c1, c2, by omega, ⟨hW, q2.1, q2.2.1, by omega, by omega⟩, x, tl, ld, st, ft, sp, tn, tb, rf, dl, yf, im, CR_q hC1 (fun a ha => q2.2.2 a (by first | exact List.not_mem_nil | (simp only [List.mem_cons, List.not_mem_nil, or_false]; omega))), RR_q hR1 (fun a ha => q2.2.2 a (by first | exact List.not_mem_nil | (simp only [List.mem_cons, List.not_mem_nil, or_false]; omega))) z2 (q2.2.2 230 (by decide)) (fun j _ => by rw [q2.2.2 233 (by decide)]), PO_s hP⟩

theorem st_cleared (hd : 44 ≤ d) (h : JJ sh M n) (hn : n < 600) {s : Int} (hs : rg s) : AskS xs L d sh M n 141 279 [.int (iI s)] := by
  obtain ⟨hn6, ⟨hW, hF, hG, hl1, hl2⟩, x, tl, ld, st, ft, sp, tn, tb, rf, dl, yf, im, hC, hR, hP⟩ := h
  have hI := hP.1
  have hlw := lwT_lw (lw_T hC hI)
  obtain ⟨v, M1, ⟨q1, e1⟩, c1⟩ := ct_S_cleared (xs := xs) (L := L) (d := d) (by omega) hW hF hG (by rw [hC.1]; exact hI.1) hlw hs
  have hR1 := RR_fr (M2 := M1) hR (fun a h1 h2 => q1.2.2 a (by first | exact List.not_mem_nil | (simp only [List.mem_cons, List.not_mem_nil, or_false]; omega)))
  have hC1 := CR_q (M2 := M1) hC (fun a ha => q1.2.2 a (by first | exact List.not_mem_nil | (simp only [List.mem_cons, List.not_mem_nil, or_false]; omega)))
  obtain ⟨v2, M2, ⟨q2, e2, z2⟩, c2⟩ := ct_R_cleared (xs := xs) (L := L) (d := d) (by omega) hW q1.1 q1.2.1 (by rw [hR1.1]; exact hI.1) (lw_R hR1 hI) hR1.2.2.2.2.2.2.2.2.2.1 hs
  have hv : v2 = v := by rw [e2, e1, hC.1, hR1.1]
  rw [hv] at c2
  refine ⟨v, sh, M1, M2, c1, c2, by omega, ⟨hW, q2.1, q2.2.1, by omega, by omega⟩, x, tl, ld, st, ft, sp, tn, tb, rf, dl, yf, im, CR_q hC1 (fun a ha => q2.2.2 a (by first | exact List.not_mem_nil | (simp only [List.mem_cons, List.not_mem_nil, or_false]; omega))), RR_q hR1 (fun a ha => q2.2.2 a (by first | exact List.not_mem_nil | (simp only [List.mem_cons, List.not_mem_nil, or_false]; omega))) z2 (q2.2.2 230 (by decide)) (fun j _ => by rw [q2.2.2 233 (by decide)]), PO_s hP⟩

theorem st_leads (hd : 44 ≤ d) (h : JJ sh M n) (hn : n < 600)  : AskS xs L d sh M n 54 214 [] := by
  obtain ⟨hn6, ⟨hW, hF, hG, hl1, hl2⟩, x, tl, ld, st, ft, sp, tn, tb, rf, dl, yf, im, hC, hR, hP⟩ := h
  have hI := hP.1
  have hlw := lwT_lw (lw_T hC hI)
  obtain ⟨v, M1, ⟨q1, e1⟩, c1⟩ := ct_S_leads (xs := xs) (L := L) (d := d) (by omega) hW hF hG 
  have hR1 := RR_fr (M2 := M1) hR (fun a h1 h2 => q1.2.2 a (by first | exact List.not_mem_nil | (simp only [List.mem_cons, List.not_mem_nil, or_false]; omega)))
  have hC1 := CR_q (M2 := M1) hC (fun a ha => q1.2.2 a (by first | exact List.not_mem_nil | (simp only [List.mem_cons, List.not_mem_nil, or_false]; omega)))
  obtain ⟨v2, M2, ⟨q2, e2, z2⟩, c2⟩ := ct_R_leads (xs := xs) (L := L) (d := d) (by omega) hW q1.1 q1.2.1 
  have hv : v2 = v := by rw [e2, e1, hC.2.2.2.2.1.1, hR1.2.2.2.2.1.1]
  rw [hv] at c2
  refine ⟨v, sh, M1, M2, c1, c2, by omega, ⟨hW, q2.1, q2.2.1, by omega, by omega⟩, x, tl, ld, st, ft, sp, tn, tb, rf, dl, yf, im, CR_q hC1 (fun a ha => q2.2.2 a (by first | exact List.not_mem_nil | (simp only [List.mem_cons, List.not_mem_nil, or_false]; omega))), RR_q hR1 (fun a ha => q2.2.2 a (by first | exact List.not_mem_nil | (simp only [List.mem_cons, List.not_mem_nil, or_false]; omega))) z2 (q2.2.2 230 (by decide)) (fun j _ => by rw [q2.2.2 233 (by decide)]), PO_s hP⟩

theorem st_fault (hd : 44 ≤ d) (h : JJ sh M n) (hn : n < 600)  : AskS xs L d sh M n 109 218 [] := by
  obtain ⟨hn6, ⟨hW, hF, hG, hl1, hl2⟩, x, tl, ld, st, ft, sp, tn, tb, rf, dl, yf, im, hC, hR, hP⟩ := h
  have hI := hP.1
  have hlw := lwT_lw (lw_T hC hI)
  obtain ⟨v, M1, ⟨q1, e1⟩, c1⟩ := ct_S_fault (xs := xs) (L := L) (d := d) (by omega) hW hF hG 
  have hR1 := RR_fr (M2 := M1) hR (fun a h1 h2 => q1.2.2 a (by first | exact List.not_mem_nil | (simp only [List.mem_cons, List.not_mem_nil, or_false]; omega)))
  have hC1 := CR_q (M2 := M1) hC (fun a ha => q1.2.2 a (by first | exact List.not_mem_nil | (simp only [List.mem_cons, List.not_mem_nil, or_false]; omega)))
  obtain ⟨v2, M2, ⟨q2, e2, z2⟩, c2⟩ := ct_R_fault (xs := xs) (L := L) (d := d) (by omega) hW q1.1 q1.2.1 
  have hv : v2 = v := by rw [e2, e1, hC.2.2.2.2.2.1, hR1.2.2.2.2.2.1]
  rw [hv] at c2
  refine ⟨v, sh, M1, M2, c1, c2, by omega, ⟨hW, q2.1, q2.2.1, by omega, by omega⟩, x, tl, ld, st, ft, sp, tn, tb, rf, dl, yf, im, CR_q hC1 (fun a ha => q2.2.2 a (by first | exact List.not_mem_nil | (simp only [List.mem_cons, List.not_mem_nil, or_false]; omega))), RR_q hR1 (fun a ha => q2.2.2 a (by first | exact List.not_mem_nil | (simp only [List.mem_cons, List.not_mem_nil, or_false]; omega))) z2 (q2.2.2 230 (by decide)) (fun j _ => by rw [q2.2.2 233 (by decide)]), PO_s hP⟩

theorem st_stopped (hd : 44 ≤ d) (h : JJ sh M n) (hn : n < 600)  : AskS xs L d sh M n 110 299 [] := by
  obtain ⟨hn6, ⟨hW, hF, hG, hl1, hl2⟩, x, tl, ld, st, ft, sp, tn, tb, rf, dl, yf, im, hC, hR, hP⟩ := h
  have hI := hP.1
  have hlw := lwT_lw (lw_T hC hI)
  obtain ⟨v, M1, ⟨q1, e1⟩, c1⟩ := ct_S_stopped (xs := xs) (L := L) (d := d) (by omega) hW hF hG 
  have hR1 := RR_fr (M2 := M1) hR (fun a h1 h2 => q1.2.2 a (by first | exact List.not_mem_nil | (simp only [List.mem_cons, List.not_mem_nil, or_false]; omega)))
  have hC1 := CR_q (M2 := M1) hC (fun a ha => q1.2.2 a (by first | exact List.not_mem_nil | (simp only [List.mem_cons, List.not_mem_nil, or_false]; omega)))
  obtain ⟨v2, M2, ⟨q2, e2, z2⟩, c2⟩ := ct_R_stopped (xs := xs) (L := L) (d := d) (by omega) hW q1.1 q1.2.1 
  have hv : v2 = v := by rw [e2, e1, hC.2.2.2.2.2.2.1, hR1.2.2.2.2.2.2.1]
  rw [hv] at c2
  refine ⟨v, sh, M1, M2, c1, c2, by omega, ⟨hW, q2.1, q2.2.1, by omega, by omega⟩, x, tl, ld, st, ft, sp, tn, tb, rf, dl, yf, im, CR_q hC1 (fun a ha => q2.2.2 a (by first | exact List.not_mem_nil | (simp only [List.mem_cons, List.not_mem_nil, or_false]; omega))), RR_q hR1 (fun a ha => q2.2.2 a (by first | exact List.not_mem_nil | (simp only [List.mem_cons, List.not_mem_nil, or_false]; omega))) z2 (q2.2.2 230 (by decide)) (fun j _ => by rw [q2.2.2 233 (by decide)]), PO_s hP⟩

theorem st_status (hd : 44 ≤ d) (h : JJ sh M n) (hn : n < 600)  : AskS xs L d sh M n 173 304 [] := by
  obtain ⟨hn6, ⟨hW, hF, hG, hl1, hl2⟩, x, tl, ld, st, ft, sp, tn, tb, rf, dl, yf, im, hC, hR, hP⟩ := h
  have hI := hP.1
  have hlw := lwT_lw (lw_T hC hI)
  obtain ⟨v, M1, ⟨q1, e1⟩, c1⟩ := ct_S_status (xs := xs) (L := L) (d := d) (by omega) hW hF hG 
  have hR1 := RR_fr (M2 := M1) hR (fun a h1 h2 => q1.2.2 a (by first | exact List.not_mem_nil | (simp only [List.mem_cons, List.not_mem_nil, or_false]; omega)))
  have hC1 := CR_q (M2 := M1) hC (fun a ha => q1.2.2 a (by first | exact List.not_mem_nil | (simp only [List.mem_cons, List.not_mem_nil, or_false]; omega)))
  obtain ⟨v2, M2, ⟨q2, e2, z2⟩, c2⟩ := ct_R_status (xs := xs) (L := L) (d := d) (by omega) hW q1.1 q1.2.1 
  have hv : v2 = v := by rw [e2, e1, hC.2.2.2.2.1.2, hR1.2.2.2.2.1.2]
  rw [hv] at c2
  refine ⟨v, sh, M1, M2, c1, c2, by omega, ⟨hW, q2.1, q2.2.1, by omega, by omega⟩, x, tl, ld, st, ft, sp, tn, tb, rf, dl, yf, im, CR_q hC1 (fun a ha => q2.2.2 a (by first | exact List.not_mem_nil | (simp only [List.mem_cons, List.not_mem_nil, or_false]; omega))), RR_q hR1 (fun a ha => q2.2.2 a (by first | exact List.not_mem_nil | (simp only [List.mem_cons, List.not_mem_nil, or_false]; omega))) z2 (q2.2.2 230 (by decide)) (fun j _ => by rw [q2.2.2 233 (by decide)]), PO_s hP⟩

theorem st_count (hd : 44 ≤ d) (h : JJ sh M n) (hn : n < 600) {u : Int} (hu : rg u) : AskS xs L d sh M n 172 303 [.int (iI u)] := by
  obtain ⟨hn6, ⟨hW, hF, hG, hl1, hl2⟩, x, tl, ld, st, ft, sp, tn, tb, rf, dl, yf, im, hC, hR, hP⟩ := h
  have hI := hP.1
  have hlw := lwT_lw (lw_T hC hI)
  obtain ⟨v, M1, ⟨q1, e1⟩, c1⟩ := ct_S_count (xs := xs) (L := L) (d := d) (by omega) hW hF hG (by rw [hC.1]; exact hI.1) hlw (rf := rf) hC.2.2.2.2.2.2.2.2.1 hu
  have hR1 := RR_fr (M2 := M1) hR (fun a h1 h2 => q1.2.2 a (by first | exact List.not_mem_nil | (simp only [List.mem_cons, List.not_mem_nil, or_false]; omega)))
  have hC1 := CR_q (M2 := M1) hC (fun a ha => q1.2.2 a (by first | exact List.not_mem_nil | (simp only [List.mem_cons, List.not_mem_nil, or_false]; omega)))
  obtain ⟨v2, M2, ⟨q2, e2, z2⟩, c2⟩ := ct_R_count (xs := xs) (L := L) (d := d) (by omega) hW q1.1 q1.2.1 (by rw [hR1.1]; exact hI.1) (lw_R hR1 hI) hR1.2.2.2.2.2.2.2.2.2.1 hu
  have hv : v2 = v := by rw [e2, e1, hC.1, hR1.1, hR1.2.2.2.2.2.2.2.2.1, hC.2.2.2.1, hR1.2.2.2.1, hC.2.2.1.2.1, hR1.2.2.1.1]
  rw [hv] at c2
  refine ⟨v, sh, M1, M2, c1, c2, by omega, ⟨hW, q2.1, q2.2.1, by omega, by omega⟩, x, tl, ld, st, ft, sp, tn, tb, rf, dl, yf, im, CR_q hC1 (fun a ha => q2.2.2 a (by first | exact List.not_mem_nil | (simp only [List.mem_cons, List.not_mem_nil, or_false]; omega))), RR_q hR1 (fun a ha => q2.2.2 a (by first | exact List.not_mem_nil | (simp only [List.mem_cons, List.not_mem_nil, or_false]; omega))) z2 (q2.2.2 230 (by decide)) (fun j _ => by rw [q2.2.2 233 (by decide)]), PO_s hP⟩

theorem st_preached (hd : 44 ≤ d) (h : JJ sh M n) (hn : n < 600) {i : Int} (hi : rg i) : AskS xs L d sh M n 127 269 [.int (iI i)] := by
  obtain ⟨hn6, ⟨hW, hF, hG, hl1, hl2⟩, x, tl, ld, st, ft, sp, tn, tb, rf, dl, yf, im, hC, hR, hP⟩ := h
  have hI := hP.1
  have hlw := lwT_lw (lw_T hC hI)
  obtain ⟨nw, enw, hnw8⟩ : ∃ nw : Nat, x.1 0 = ((nw : Nat) : Int) ∧ nw ≤ 8 := ⟨(x.1 0).toNat, by have := hI.1.1; omega, by have := hI.1.1; omega⟩
  obtain ⟨v, M1, ⟨q1, e1, f1⟩, c1⟩ := ct_S_preached (xs := xs) (L := L) (d := d) (by omega) hW hF hG hC.1 hI.1 hlw (n := nw) enw hnw8 hi
  have hR1 := RR_fr (M2 := M1) hR (fun a h1 h2 => q1.2.2 a (by first | exact List.not_mem_nil | (simp only [List.mem_cons, List.not_mem_nil, or_false]; omega)))
  have hC1 := CR_q (M2 := M1) hC (fun a ha => q1.2.2 a (by first | exact List.not_mem_nil | (simp only [List.mem_cons, List.not_mem_nil, or_false]; omega)))
  obtain ⟨v2, M2, ⟨q2, e2, z2⟩, c2⟩ := ct_R_preached (xs := xs) (L := L) (d := d) (by omega) hW q1.1 q1.2.1 (by rw [hR1.1]; exact hI.1) (lw_R hR1 hI) hR1.2.2.2.2.2.2.2.2.2.1 (n := nw) (by rw [hR1.1]; exact enw) hnw8 hi
  have hv : v2 = v := by rw [e2, e1, hR1.1]
  rw [hv] at c2
  refine ⟨v, sh, M1, M2, c1, c2, by omega, ⟨hW, q2.1, q2.2.1, by omega, by omega⟩, x, tl, ld, st, ft, sp, tn, tb, rf, dl, yf, im, CR_q hC1 (fun a ha => q2.2.2 a (by first | exact List.not_mem_nil | (simp only [List.mem_cons, List.not_mem_nil, or_false]; omega))), RR_q hR1 (fun a ha => q2.2.2 a (by first | exact List.not_mem_nil | (simp only [List.mem_cons, List.not_mem_nil, or_false]; omega))) z2 (q2.2.2 230 (by decide)) (fun j _ => by rw [q2.2.2 233 (by decide)]), PO_s hP⟩

theorem st_later (hd : 44 ≤ d) (h : JJ sh M n) (hn : n < 600) {l : Int} (hl : rg l) {y : Int} (hy : rg y) : AskS xs L d sh M n 159 288 [.int (iI l), .int (iI y)] := by
  obtain ⟨hn6, ⟨hW, hF, hG, hl1, hl2⟩, x, tl, ld, st, ft, sp, tn, tb, rf, dl, yf, im, hC, hR, hP⟩ := h
  have hI := hP.1
  have hlw := lwT_lw (lw_T hC hI)
  obtain ⟨v, M1, ⟨q1, e1⟩, c1⟩ := ct_S_later (xs := xs) (L := L) (d := d) (by omega) hW hF hG (by rw [hC.1]; exact hI.1) hlw hC.2.1.1 (by rw [hC.1]; exact hI.2.1) hl hy
  have hR1 := RR_fr (M2 := M1) hR (fun a h1 h2 => q1.2.2 a (by first | exact List.not_mem_nil | (simp only [List.mem_cons, List.not_mem_nil, or_false]; omega)))
  have hC1 := CR_q (M2 := M1) hC (fun a ha => q1.2.2 a (by first | exact List.not_mem_nil | (simp only [List.mem_cons, List.not_mem_nil, or_false]; omega)))
  obtain ⟨v2, M2, ⟨q2, e2, e230, e233, z2⟩, c2⟩ := ct_R_later (xs := xs) (L := L) (d := d) (by omega) hW q1.1 q1.2.1 (by rw [hR1.1]; exact hI.1) (lw_R hR1 hI) hR1.2.2.2.2.2.2.2.2.2.1 (by rw [hR1.1]; exact hI.2.1) hl hy
  have hv : v2 = v := by rw [e2, e1, hC.1, hR1.1]
  rw [hv] at c2
  refine ⟨v, sh, M1, M2, c1, c2, by omega, ⟨hW, q2.1, q2.2.1, by omega, by omega⟩, x, tl, ld, st, ft, sp, tn, tb, rf, dl, yf, im, CR_q hC1 (fun a ha => q2.2.2 a (by first | exact List.not_mem_nil | (simp only [List.mem_cons, List.not_mem_nil, or_false]; omega))), RR_q hR1 (fun a ha => q2.2.2 a (by first | exact List.not_mem_nil | (simp only [List.mem_cons, List.not_mem_nil, or_false]; omega))) z2 e230 e233, PO_s hP⟩

theorem st_blackened (hd : 44 ≤ d) (h : JJ sh M n) (hn : n < 600) {l : Int} (hl : rg l) : AskS xs L d sh M n 161 289 [.int (iI l)] := by
  obtain ⟨hn6, ⟨hW, hF, hG, hl1, hl2⟩, x, tl, ld, st, ft, sp, tn, tb, rf, dl, yf, im, hC, hR, hP⟩ := h
  have hI := hP.1
  have hlw := lwT_lw (lw_T hC hI)
  obtain ⟨lw2, hA1, hA2⟩ : ∃ lw2 : List sp_C, ((l = -1 ∨ 0 ≤ l ∧ l ≤ x.1 3 - 1) → px_lwL sh M 3 l lw2) ∧ ((l = -1 ∨ 0 ≤ l ∧ l ≤ x.1 3 - 1) → ∀ M2 : Nat → Nat → Int, (∀ j, j ≠ 4 → M2 230 j = M 230 j) → M2 230 4 = l → px_lwR M2 lw2) := by
    by_cases z0 : l = -1
    · exact ⟨[], fun _ => ⟨Or.inl ⟨z0, rfl⟩, fun y hy => (by cases hy)⟩, fun _ M2 _ h2 => ⟨Or.inl ⟨h2.trans z0, rfl⟩, fun y hy => (by cases hy)⟩⟩
    · by_cases z1 : 0 ≤ l ∧ l ≤ x.1 3 - 1
      · obtain ⟨m, hm⟩ : ∃ m : Nat, l = ((m : Nat) : Int) := ⟨l.toNat, by omega⟩
        obtain ⟨lq, g1, g2, g3⟩ := lw_get hI (n := m) (by omega)
        obtain ⟨t, N, C, k1, k2, k3⟩ := hC.2.1.2 m lq g1
        refine ⟨lq, fun _ => ⟨Or.inr ⟨m, t, N, C, hm, ?_, g3, k1, k3⟩, g2⟩, fun _ M2 h1 h2 => ⟨Or.inr ⟨m, h2.trans hm, g3, ?_⟩, g2⟩⟩
        · have e3 : M 3 9 = x.1 3 := by rw [← hC.1]; rfl
          rw [e3]; omega
        · exact LR_eq hR.2.1 (fun j hj => h1 j (by omega)) m lq g1
      · exact ⟨[], fun z => absurd z (by omega), fun z => absurd z (by omega)⟩
  obtain ⟨v, M1, ⟨q1, e1⟩, c1⟩ := ct_S_blackened (xs := xs) (L := L) (d := d) (by omega) hW hF hG (by rw [hC.1]; exact hI.1) hC.2.1.1 hl (lw2 := lw2) (by rw [hC.1]; exact hA1)
  have hR1 := RR_fr (M2 := M1) hR (fun a h1 h2 => q1.2.2 a (by first | exact List.not_mem_nil | (simp only [List.mem_cons, List.not_mem_nil, or_false]; omega)))
  have hC1 := CR_q (M2 := M1) hC (fun a ha => q1.2.2 a (by first | exact List.not_mem_nil | (simp only [List.mem_cons, List.not_mem_nil, or_false]; omega)))
  obtain ⟨v2, M2, ⟨q2, e2, e230, z2⟩, c2⟩ := ct_R_blackened (xs := xs) (L := L) (d := d) (by omega) hW q1.1 q1.2.1 (by rw [hR1.1]; exact hI.1) hR1.2.2.2.2.2.2.2.2.2.1 hl (lw2 := lw2) (by rw [hR1.1]; intro y M2 h1 h2; exact hA2 y M2 (fun j hj => by rw [h1 j hj, q1.2.2 230 (by decide)]) h2)
  have hv : v2 = v := by rw [e2, e1, hC.1, hR1.1]
  rw [hv] at c2
  refine ⟨v, sh, M1, M2, c1, c2, by omega, ⟨hW, q2.1, q2.2.1, by omega, by omega⟩, x, tl, ld, st, ft, sp, tn, tb, rf, dl, yf, im, CR_q hC1 (fun a ha => q2.2.2 a (by first | exact List.not_mem_nil | (simp only [List.mem_cons, List.not_mem_nil, or_false]; omega))), RR_q hR1 (fun a ha => q2.2.2 a (by first | exact List.not_mem_nil | (simp only [List.mem_cons, List.not_mem_nil, or_false]; omega))) z2 e230 (fun j _ => by rw [q2.2.2 233 (by decide)]), PO_s hP⟩

theorem st_drawn (hd : 44 ≤ d) (h : JJ sh M n) (hn : n < 600) {k : Int} (hk : rg k) {u : Int} (hu : rg u) : AskS xs L d sh M n 169 302 [.int (iI k), .int (iI u)] := by
  obtain ⟨hn6, ⟨hW, hF, hG, hl1, hl2⟩, x, tl, ld, st, ft, sp, tn, tb, rf, dl, yf, im, hC, hR, hP⟩ := h
  have hI := hP.1
  have hlw := lwT_lw (lw_T hC hI)
  have hY := hC.2.2.2.2.2.2.2.2.2.2.1
  obtain ⟨v, M1, ⟨q1, e1⟩, c1⟩ := ct_S_drawn (xs := xs) (L := L) (d := d) (by omega) hW hF hG (dl := dl) (f := fun j => yf (j - 5)) hY.1 (fun z j hj => by have := hY.2 z (4 + j) (by omega); rw [show 9 + j = 5 + (4 + j) by omega, this]; show yf _ = yf _; congr 1; omega) (fun z j hj => by have := hY.2 z (58 + j) (by omega); rw [show 63 + j = 5 + (58 + j) by omega, this]; show yf _ = yf _; congr 1; omega) hk hu
  have hR1 := RR_fr (M2 := M1) hR (fun a h1 h2 => q1.2.2 a (by first | exact List.not_mem_nil | (simp only [List.mem_cons, List.not_mem_nil, or_false]; omega)))
  have hC1 := CR_q (M2 := M1) hC (fun a ha => q1.2.2 a (by first | exact List.not_mem_nil | (simp only [List.mem_cons, List.not_mem_nil, or_false]; omega)))
  obtain ⟨v2, M2, ⟨q2, e2, z2⟩, c2⟩ := ct_R_drawn (xs := xs) (L := L) (d := d) (by omega) hW q1.1 q1.2.1 (by rw [hR1.2.2.2.2.2.2.2.2.2.2.1.1]; exact hP.2.2.2.2.2.1) hk hu
  have hv : v2 = v := by rw [e2, e1, hR1.2.2.2.2.2.2.2.2.2.2.1.1, hR1.2.2.2.2.2.2.2.2.2.2.1.2]
  rw [hv] at c2
  refine ⟨v, sh, M1, M2, c1, c2, by omega, ⟨hW, q2.1, q2.2.1, by omega, by omega⟩, x, tl, ld, st, ft, sp, tn, tb, rf, dl, yf, im, CR_q hC1 (fun a ha => q2.2.2 a (by first | exact List.not_mem_nil | (simp only [List.mem_cons, List.not_mem_nil, or_false]; omega))), RR_q hR1 (fun a ha => q2.2.2 a (by first | exact List.not_mem_nil | (simp only [List.mem_cons, List.not_mem_nil, or_false]; omega))) z2 (q2.2.2 230 (by decide)) (fun j _ => by rw [q2.2.2 233 (by decide)]), PO_s hP⟩

theorem st_place (hd : 44 ≤ d) (h : JJ sh M n) (hn : n < 600) {p : Int} (hp : rg p) {u : Int} (hu : rg u) : AskS xs L d sh M n 150 283 [.int (iI p), .int (iI u)] := by
  obtain ⟨hn6, ⟨hW, hF, hG, hl1, hl2⟩, x, tl, ld, st, ft, sp, tn, tb, rf, dl, yf, im, hC, hR, hP⟩ := h
  have hI := hP.1
  have hlw := lwT_lw (lw_T hC hI)
  obtain ⟨v, M1, ⟨q1, e1⟩, c1⟩ := ct_S_place (xs := xs) (L := L) (d := d) (by omega) hW hF hG (by rw [hC.1]; exact hI.1) hlw hC.2.1.1 hp hu
  have hR1 := RR_fr (M2 := M1) hR (fun a h1 h2 => q1.2.2 a (by first | exact List.not_mem_nil | (simp only [List.mem_cons, List.not_mem_nil, or_false]; omega)))
  have hC1 := CR_q (M2 := M1) hC (fun a ha => q1.2.2 a (by first | exact List.not_mem_nil | (simp only [List.mem_cons, List.not_mem_nil, or_false]; omega)))
  by_cases hz : (0 ≤ p ∧ p ≤ 15) ∧ (0 ≤ u ∧ u ≤ 1)
  · obtain ⟨v2, M2, ⟨q2, e2, e230, z2⟩, c2⟩ := ct_R_place1 (xs := xs) (L := L) (d := d) (by omega) hW q1.1 q1.2.1 (by rw [hR1.1]; exact hI.1) (lw_R hR1 hI) hR1.2.2.2.2.2.2.2.2.2.1 hz.1 hz.2
    have hv : v2 = v := by rw [e2, e1, hC.1, hR1.1]
    rw [hv] at c2
    refine ⟨v, sh, M1, M2, c1, c2, by omega, ⟨hW, q2.1, q2.2.1, by omega, by omega⟩, x, tl, ld, st, ft, sp, tn, tb, rf, dl, yf, im, CR_q hC1 (fun a ha => q2.2.2 a (by first | exact List.not_mem_nil | (simp only [List.mem_cons, List.not_mem_nil, or_false]; omega))), RR_q hR1 (fun a ha => q2.2.2 a (by first | exact List.not_mem_nil | (simp only [List.mem_cons, List.not_mem_nil, or_false]; omega))) z2 e230 (fun j _ => by rw [q2.2.2 233 (by decide)]), PO_s hP⟩
  · obtain ⟨v2, M2, ⟨q2, e2, z2⟩, c2⟩ := ct_R_place0 (xs := xs) (L := L) (d := d) (by omega) hW q1.1 q1.2.1 hp hu hz
    have hv : v2 = v := by rw [e2, e1]; unfold sp_plc; rw [if_neg hz]
    rw [hv] at c2
    refine ⟨v, sh, M1, M2, c1, c2, by omega, ⟨hW, q2.1, q2.2.1, by omega, by omega⟩, x, tl, ld, st, ft, sp, tn, tb, rf, dl, yf, im, CR_q hC1 (fun a ha => q2.2.2 a (by first | exact List.not_mem_nil | (simp only [List.mem_cons, List.not_mem_nil, or_false]; omega))), RR_q hR1 (fun a ha => q2.2.2 a (by first | exact List.not_mem_nil | (simp only [List.mem_cons, List.not_mem_nil, or_false]; omega))) z2 (q2.2.2 230 (by decide)) (fun j _ => by rw [q2.2.2 233 (by decide)]), PO_s hP⟩

theorem st_few (hd : 44 ≤ d) (h : JJ sh M n) (hn : n < 600) {k : Int} (hk : rg k) {y : Int} (hy : rg y) : AskSL xs L d sh M n 163 291 [.int (iI k), .int (iI y)] := by
  obtain ⟨hn6, ⟨hW, hF, hG, hl1, hl2⟩, x, tl, ld, st, ft, sp, tn, tb, rf, dl, yf, im, hC, hR, hP⟩ := h
  have hI := hP.1
  have hlw := lwT_lw (lw_T hC hI)
  obtain ⟨v, M1, ⟨q1, e1⟩, c1⟩ := ct_S_few (xs := xs) (L := L) (d := d) (by omega) hW hF hG (by rw [hC.1]; exact hI.1) hk hy
  have hR1 := RR_fr (M2 := M1) hR (fun a h1 h2 => q1.2.2 a (by first | exact List.not_mem_nil | (simp only [List.mem_cons, List.not_mem_nil, or_false]; omega)))
  have hC1 := CR_q (M2 := M1) hC (fun a ha => q1.2.2 a (by first | exact List.not_mem_nil | (simp only [List.mem_cons, List.not_mem_nil, or_false]; omega)))
  by_cases hz : (1 ≤ k ∧ k ≤ 20) ∧ 0 ≤ y ∧ y ≤ 99
  · obtain ⟨v2, M2, ⟨q2, e2, z2⟩, c2⟩ := ct_R_few1 (xs := xs) (L := L) (d := d) (by omega) hW q1.1 q1.2.1 (by rw [hR1.1]; exact hI.1) hz.1 hz.2
    have hv : v2 = v := by rw [e2, e1, hC.1, hR1.1]
    rw [hv] at c2
    refine ⟨v, sh, M1, M2, c1, c2, by omega, ⟨hW, q2.1, q2.2.1, by omega, by omega⟩, x, tl, ld, st, ft, sp, tn, tb, rf, dl, yf, im, CR_q hC1 (fun a ha => q2.2.2 a (by first | exact List.not_mem_nil | (simp only [List.mem_cons, List.not_mem_nil, or_false]; omega))), RR_q hR1 (fun a ha => q2.2.2 a (by first | exact List.not_mem_nil | (simp only [List.mem_cons, List.not_mem_nil, or_false]; omega))) z2 (q2.2.2 230 (by decide)) (fun j _ => by rw [q2.2.2 233 (by decide)]), PO_s hP⟩
  · obtain ⟨v2, M2, ⟨q2, e2, z2⟩, c2⟩ := ct_R_few0 (xs := xs) (L := L) (d := d) (by omega) hW q1.1 q1.2.1 hk hy hz
    have hv : v2 = v := by rw [e2, e1]; unfold sp_few; rw [if_neg hz]
    rw [hv] at c2
    refine ⟨v, sh, M1, M2, c1, c2, by omega, ⟨hW, q2.1, q2.2.1, by omega, by omega⟩, x, tl, ld, st, ft, sp, tn, tb, rf, dl, yf, im, CR_q hC1 (fun a ha => q2.2.2 a (by first | exact List.not_mem_nil | (simp only [List.mem_cons, List.not_mem_nil, or_false]; omega))), RR_q hR1 (fun a ha => q2.2.2 a (by first | exact List.not_mem_nil | (simp only [List.mem_cons, List.not_mem_nil, or_false]; omega))) z2 (q2.2.2 230 (by decide)) (fun j _ => by rw [q2.2.2 233 (by decide)]), PO_s hP⟩

theorem st_look (hd : 44 ≤ d) (h : JJ sh M n) (hn : n < 600) {u : Int} (hu : rg u) : AskS xs L d sh M n 132 274 [.int (iI u)] := by
  obtain ⟨hn6, ⟨hW, hF, hG, hl1, hl2⟩, x, tl, ld, st, ft, sp, tn, tb, rf, dl, yf, im, hC, hR, hP⟩ := h
  have hI := hP.1
  have hlw := lwT_lw (lw_T hC hI)
  obtain ⟨nw, enw, hnw8⟩ : ∃ nw : Nat, x.1 0 = ((nw : Nat) : Int) ∧ nw ≤ 8 := ⟨(x.1 0).toNat, by have := hI.1.1; omega, by have := hI.1.1; omega⟩
  obtain ⟨v, M1, ⟨q1, e1, f1⟩, c1⟩ := ct_S_look (xs := xs) (L := L) (d := d) (by omega) hW hF hG hC.1 hI.1 hlw (n := nw) enw hnw8 hu
  have hR1 := RR_fr (M2 := M1) hR (fun a h1 h2 => q1.2.2 a (by first | exact List.not_mem_nil | (simp only [List.mem_cons, List.not_mem_nil, or_false]; omega)))
  have hC1 := CR_q (M2 := M1) hC (fun a ha => q1.2.2 a (by first | exact List.not_mem_nil | (simp only [List.mem_cons, List.not_mem_nil, or_false]; omega)))
  by_cases hz : 0 ≤ u ∧ u ≤ 1
  · obtain ⟨v2, M2, ⟨q2, e2, z2⟩, c2⟩ := ct_R_look1 (xs := xs) (L := L) (d := d) (by omega) hW q1.1 q1.2.1 (by rw [hR1.1]; exact hI.1) (lw_R hR1 hI) hR1.2.2.2.2.2.2.2.2.2.1 (n := nw) (by rw [hR1.1]; exact enw) hnw8 hz
    have hv : v2 = v := by rw [e2, e1, hR1.1]
    rw [hv] at c2
    refine ⟨v, sh, M1, M2, c1, c2, by omega, ⟨hW, q2.1, q2.2.1, by omega, by omega⟩, x, tl, ld, st, ft, sp, tn, tb, rf, dl, yf, im, CR_q hC1 (fun a ha => q2.2.2 a (by first | exact List.not_mem_nil | (simp only [List.mem_cons, List.not_mem_nil, or_false]; omega))), RR_q hR1 (fun a ha => q2.2.2 a (by first | exact List.not_mem_nil | (simp only [List.mem_cons, List.not_mem_nil, or_false]; omega))) z2 (q2.2.2 230 (by decide)) (fun j _ => by rw [q2.2.2 233 (by decide)]), PO_s hP⟩
  · obtain ⟨v2, M2, ⟨q2, e2, z2⟩, c2⟩ := ct_R_look0 (xs := xs) (L := L) (d := d) (by omega) hW q1.1 q1.2.1 hu hz
    have hv : v2 = v := by rw [e2, e1]; unfold sp_lok; rw [if_neg hz]
    rw [hv] at c2
    refine ⟨v, sh, M1, M2, c1, c2, by omega, ⟨hW, q2.1, q2.2.1, by omega, by omega⟩, x, tl, ld, st, ft, sp, tn, tb, rf, dl, yf, im, CR_q hC1 (fun a ha => q2.2.2 a (by first | exact List.not_mem_nil | (simp only [List.mem_cons, List.not_mem_nil, or_false]; omega))), RR_q hR1 (fun a ha => q2.2.2 a (by first | exact List.not_mem_nil | (simp only [List.mem_cons, List.not_mem_nil, or_false]; omega))) z2 (q2.2.2 230 (by decide)) (fun j _ => by rw [q2.2.2 233 (by decide)]), PO_s hP⟩

theorem st_apart (hd : 44 ≤ d) (h : JJ sh M n) (hn : n < 600) {u : Int} (hu : rg u) : AskS xs L d sh M n 143 280 [.int (iI u)] := by
  obtain ⟨hn6, ⟨hW, hF, hG, hl1, hl2⟩, x, tl, ld, st, ft, sp, tn, tb, rf, dl, yf, im, hC, hR, hP⟩ := h
  have hI := hP.1
  have hlw := lwT_lw (lw_T hC hI)
  obtain ⟨nw, enw, hnw8⟩ : ∃ nw : Nat, x.1 0 = ((nw : Nat) : Int) ∧ nw ≤ 8 := ⟨(x.1 0).toNat, by have := hI.1.1; omega, by have := hI.1.1; omega⟩
  obtain ⟨v, M1, ⟨q1, e1, f1⟩, c1⟩ := ct_S_apart (xs := xs) (L := L) (d := d) (by omega) hW hF hG hC.1 hI.1 hlw (n := nw) enw hnw8 hu
  have hR1 := RR_fr (M2 := M1) hR (fun a h1 h2 => q1.2.2 a (by first | exact List.not_mem_nil | (simp only [List.mem_cons, List.not_mem_nil, or_false]; omega)))
  have hC1 := CR_q (M2 := M1) hC (fun a ha => q1.2.2 a (by first | exact List.not_mem_nil | (simp only [List.mem_cons, List.not_mem_nil, or_false]; omega)))
  by_cases hz : 0 ≤ u ∧ u ≤ 1
  · obtain ⟨v2, M2, ⟨q2, e2, z2⟩, c2⟩ := ct_R_apart1 (xs := xs) (L := L) (d := d) (by omega) hW q1.1 q1.2.1 (by rw [hR1.1]; exact hI.1) (lw_R hR1 hI) hR1.2.2.2.2.2.2.2.2.2.1 (n := nw) (by rw [hR1.1]; exact enw) hnw8 hz
    have hv : v2 = v := by rw [e2, e1, hR1.1]
    rw [hv] at c2
    refine ⟨v, sh, M1, M2, c1, c2, by omega, ⟨hW, q2.1, q2.2.1, by omega, by omega⟩, x, tl, ld, st, ft, sp, tn, tb, rf, dl, yf, im, CR_q hC1 (fun a ha => q2.2.2 a (by first | exact List.not_mem_nil | (simp only [List.mem_cons, List.not_mem_nil, or_false]; omega))), RR_q hR1 (fun a ha => q2.2.2 a (by first | exact List.not_mem_nil | (simp only [List.mem_cons, List.not_mem_nil, or_false]; omega))) z2 (q2.2.2 230 (by decide)) (fun j _ => by rw [q2.2.2 233 (by decide)]), PO_s hP⟩
  · obtain ⟨v2, M2, ⟨q2, e2, z2⟩, c2⟩ := ct_R_apart0 (xs := xs) (L := L) (d := d) (by omega) hW q1.1 q1.2.1 hu hz
    have hv : v2 = v := by rw [e2, e1]; unfold sp_apa; rw [if_neg hz]
    rw [hv] at c2
    refine ⟨v, sh, M1, M2, c1, c2, by omega, ⟨hW, q2.1, q2.2.1, by omega, by omega⟩, x, tl, ld, st, ft, sp, tn, tb, rf, dl, yf, im, CR_q hC1 (fun a ha => q2.2.2 a (by first | exact List.not_mem_nil | (simp only [List.mem_cons, List.not_mem_nil, or_false]; omega))), RR_q hR1 (fun a ha => q2.2.2 a (by first | exact List.not_mem_nil | (simp only [List.mem_cons, List.not_mem_nil, or_false]; omega))) z2 (q2.2.2 230 (by decide)) (fun j _ => by rw [q2.2.2 233 (by decide)]), PO_s hP⟩

theorem st_way (hd : 44 ≤ d) (h : JJ sh M n) (hn : n < 600) {g : Int} (hg : rg g) {i : Int} (hi : rg i) : AskS xs L d sh M n 153 284 [.int (iI g), .int (iI i)] := by
  obtain ⟨hn6, ⟨hW, hF, hG, hl1, hl2⟩, x, tl, ld, st, ft, sp, tn, tb, rf, dl, yf, im, hC, hR, hP⟩ := h
  have hI := hP.1
  have hlw := lwT_lw (lw_T hC hI)
  obtain ⟨p0, ep0, hp16⟩ : ∃ p0 : Nat, x.1 8 = ((p0 : Nat) : Int) ∧ p0 < 16 := ⟨(x.1 8).toNat, by have := hI.1.2.2.2.2.2.2.2.2.1; omega, by have := hI.1.2.2.2.2.2.2.2.2.1; omega⟩
  obtain ⟨v, M1, ⟨q1, e1, f1⟩, c1⟩ := ct_S_way (xs := xs) (L := L) (d := d) (by omega) hW hF hG hC.1 hI.1 hlw (p0 := p0) ep0 hp16 hg hi
  have hR1 := RR_fr (M2 := M1) hR (fun a h1 h2 => q1.2.2 a (by first | exact List.not_mem_nil | (simp only [List.mem_cons, List.not_mem_nil, or_false]; omega)))
  have hC1 := CR_q (M2 := M1) hC (fun a ha => q1.2.2 a (by first | exact List.not_mem_nil | (simp only [List.mem_cons, List.not_mem_nil, or_false]; omega)))
  by_cases hz : (0 ≤ g ∧ g ≤ 15) ∧ g ≠ x.1 8 ∧ -1 ≤ i
  · obtain ⟨gm, hgm⟩ : ∃ gm : Nat, g = ((gm : Nat) : Int) := ⟨g.toNat, by omega⟩
    subst hgm
    obtain ⟨v2, M2, ⟨q2, e2, z2⟩, c2⟩ := ct_R_way1 (xs := xs) (L := L) (d := d) (by omega) hW q1.1 q1.2.1 (by rw [hR1.1]; exact hI.1) (lw_R hR1 hI) hR1.2.2.2.2.2.2.2.2.2.1 (g := gm) (by omega) (p0 := p0) (by rw [hR1.1]; exact ep0) hp16 (by omega) hi hz.2.2
    have hv : v2 = v := by rw [e2, e1, hR1.1]
    rw [hv] at c2
    refine ⟨v, sh, M1, M2, c1, c2, by omega, ⟨hW, q2.1, q2.2.1, by omega, by omega⟩, x, tl, ld, st, ft, sp, tn, tb, rf, dl, yf, im, CR_q hC1 (fun a ha => q2.2.2 a (by first | exact List.not_mem_nil | (simp only [List.mem_cons, List.not_mem_nil, or_false]; omega))), RR_q hR1 (fun a ha => q2.2.2 a (by first | exact List.not_mem_nil | (simp only [List.mem_cons, List.not_mem_nil, or_false]; omega))) z2 (q2.2.2 230 (by decide)) (fun j _ => by rw [q2.2.2 233 (by decide)]), PO_s hP⟩
  · obtain ⟨v2, M2, ⟨q2, e2, z2⟩, c2⟩ := ct_R_way0 (xs := xs) (L := L) (d := d) (by omega) hW q1.1 q1.2.1 hg hi (by rw [hR1.1]; exact hz)
    have hv : v2 = v := by rw [e2, e1]; unfold sp_way; rw [if_neg hz]
    rw [hv] at c2
    refine ⟨v, sh, M1, M2, c1, c2, by omega, ⟨hW, q2.1, q2.2.1, by omega, by omega⟩, x, tl, ld, st, ft, sp, tn, tb, rf, dl, yf, im, CR_q hC1 (fun a ha => q2.2.2 a (by first | exact List.not_mem_nil | (simp only [List.mem_cons, List.not_mem_nil, or_false]; omega))), RR_q hR1 (fun a ha => q2.2.2 a (by first | exact List.not_mem_nil | (simp only [List.mem_cons, List.not_mem_nil, or_false]; omega))) z2 (q2.2.2 230 (by decide)) (fun j _ => by rw [q2.2.2 233 (by decide)]), PO_s hP⟩

theorem st_seated (hd : 44 ≤ d) (h : JJ sh M n) (hn : n < 600) {u : Int} (hu : rg u) : AskS xs L d sh M n 135 276 [.int (iI u)] := by
  obtain ⟨hn6, ⟨hW, hF, hG, hl1, hl2⟩, x, tl, ld, st, ft, sp, tn, tb, rf, dl, yf, im, hC, hR, hP⟩ := h
  have hI := hP.1
  have hlw := lwT_lw (lw_T hC hI)
  obtain ⟨nl, enl, hnl6⟩ : ∃ nl : Nat, x.1 1 = ((nl : Nat) : Int) ∧ nl ≤ 6 := ⟨(x.1 1).toNat, by have := hI.1.2.1; omega, by have := hI.1.2.1; omega⟩
  obtain ⟨v, M1, ⟨q1, e1⟩, c1⟩ := ct_S_seated (xs := xs) (L := L) (d := d) (by omega) hW hF hG hC.1 hI.1 hlw (n := nl) enl hnl6 hu
  have hR1 := RR_fr (M2 := M1) hR (fun a h1 h2 => q1.2.2 a (by first | exact List.not_mem_nil | (simp only [List.mem_cons, List.not_mem_nil, or_false]; omega)))
  have hC1 := CR_q (M2 := M1) hC (fun a ha => q1.2.2 a (by first | exact List.not_mem_nil | (simp only [List.mem_cons, List.not_mem_nil, or_false]; omega)))
  by_cases hz : 0 ≤ u ∧ u ≤ x.1 1
  · have hD : ∀ l s, -9 ≤ sp_does (lwOf x) x.1 l s ∧ sp_does (lwOf x) x.1 l s ≤ 9 := fun l s => by unfold sp_does; omega
    obtain ⟨f0, res, r1, r2, r3⟩ := fs_all hD hnl6 (M1 256) (M1 257)
    obtain ⟨v2, M2, ⟨q2, e2, z2⟩, c2⟩ := ct_R_seated1 (xs := xs) (L := L) (d := d) (by omega) hW q1.1 q1.2.1 (by rw [hR1.1]; exact hI.1) (lw_R hR1 hI) hR1.2.2.2.2.2.2.2.2.2.1 (n := nl) (by rw [hR1.1]; exact enl) hnl6 (u := u) (by omega) (f0 := f0) (res := res) (by rw [hR1.1]; exact r1)
    have hv : v2 = v := by
      rw [e2, e1]; unfold sp_sea; rw [if_pos hz, enl, Int.toNat_natCast]
      by_cases hu0 : u = 0
      · rw [if_pos hu0, if_pos hu0, r2]
      · rw [if_neg hu0, if_neg hu0, r3 _ (by omega)]
    rw [hv] at c2
    refine ⟨v, sh, M1, M2, c1, c2, by omega, ⟨hW, q2.1, q2.2.1, by omega, by omega⟩, x, tl, ld, st, ft, sp, tn, tb, rf, dl, yf, im, CR_q hC1 (fun a ha => q2.2.2 a (by first | exact List.not_mem_nil | (simp only [List.mem_cons, List.not_mem_nil, or_false]; omega))), RR_q hR1 (fun a ha => q2.2.2 a (by first | exact List.not_mem_nil | (simp only [List.mem_cons, List.not_mem_nil, or_false]; omega))) z2 (q2.2.2 230 (by decide)) (fun j _ => by rw [q2.2.2 233 (by decide)]), PO_s hP⟩
  · obtain ⟨v2, M2, ⟨q2, e2, z2⟩, c2⟩ := ct_R_seated0 (xs := xs) (L := L) (d := d) (by omega) hW q1.1 q1.2.1 hu (by rw [hR1.1]; exact hz)
    have hv : v2 = v := by rw [e2, e1]; unfold sp_sea; rw [if_neg hz]
    rw [hv] at c2
    refine ⟨v, sh, M1, M2, c1, c2, by omega, ⟨hW, q2.1, q2.2.1, by omega, by omega⟩, x, tl, ld, st, ft, sp, tn, tb, rf, dl, yf, im, CR_q hC1 (fun a ha => q2.2.2 a (by first | exact List.not_mem_nil | (simp only [List.mem_cons, List.not_mem_nil, or_false]; omega))), RR_q hR1 (fun a ha => q2.2.2 a (by first | exact List.not_mem_nil | (simp only [List.mem_cons, List.not_mem_nil, or_false]; omega))) z2 (q2.2.2 230 (by decide)) (fun j _ => by rw [q2.2.2 233 (by decide)]), PO_s hP⟩

end ASK
