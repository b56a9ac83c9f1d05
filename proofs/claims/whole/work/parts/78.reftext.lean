/-! the reference's reader: a text's begin and end -/
theorem RT_tok {M : Nat → Nat → Int} {E : rdE} {b : Nat} {s : rdS} {M2 : Nat → Nat → Int} (h : RT M E b s) (pf : fz [14, 15, 16, 17, 18, 19] M M2) (k : ∀ a, a ∉ [228] → M2 a = M a) {i2 : Nat} {bad2 flt2 : Int} (hl : lex M2 E.tn E.tb i2) (h18 : M2 228 18 = bad2) (h19 : M2 228 19 = flt2) (hi : s.i ≤ i2 ∧ i2 ≤ E.tn) : RT M2 E b (i2, bad2, flt2, s.pl, s.op, s.lv, s.nc, s.o, s.a) := by
  unfold RT
  exact ⟨(pf 13 (by decide)).trans h.h13, h.htn, (k 237 (by decide)).trans h.h237, h.htb, (pf 20 (by decide)).trans h.h20, h.hod, (by rw [k 243 (by decide)]; exact h.h243), (by rw [k 244 (by decide)]; exact h.h244), hi.2, hl, h18, h19, (pf 26 (by decide)).trans h.h26, (pf 23 (by decide)).trans h.h23, (k 239 (by decide)).trans h.h239, (k 240 (by decide)).trans h.h240, h.hnb, h.hb, h.hlv⟩
/-- what the reader does not look at -/
theorem RT_fr {M : Nat → Nat → Int} {E : rdE} {b : Nat} {s : rdS} {M2 : Nat → Nat → Int} {X A : List Nat} (h : RT M E b s) (pf : fz X M M2) (hX : ∀ j ∈ [13, 14, 15, 16, 17, 18, 19, 20, 23, 26], j ∉ X) (k : ∀ a, a ∉ A → M2 a = M a) (hA : ∀ a ∈ [237, 239, 240, 243, 244], a ∉ A) : RT M2 E b s := by
  have f : ∀ j, j ∈ [13, 14, 15, 16, 17, 18, 19, 20, 23, 26] → M2 228 j = M 228 j := fun j hj => pf j (hX j hj)
  have k2 : ∀ a, a ∈ [237, 239, 240, 243, 244] → M2 a = M a := fun a ha => k a (hA a ha)
  unfold RT
  exact ⟨(f 13 (by decide)).trans h.h13, h.htn, (k2 237 (by decide)).trans h.h237, h.htb, (f 20 (by decide)).trans h.h20, h.hod, (by rw [k2 243 (by decide)]; exact h.h243), (by rw [k2 244 (by decide)]; exact h.h244), h.hi, ⟨(f 14 (by decide)).trans h.hlx.1, (f 15 (by decide)).trans h.hlx.2.1, (f 16 (by decide)).trans h.hlx.2.2.1, (f 17 (by decide)).trans h.hlx.2.2.2⟩, (f 18 (by decide)).trans h.h18, (f 19 (by decide)).trans h.h19, (f 26 (by decide)).trans h.h26, (f 23 (by decide)).trans h.h23, (k2 239 (by decide)).trans h.h239, (k2 240 (by decide)).trans h.h240, h.hnb, h.hb, h.hlv⟩
theorem RT_b {M : Nat → Nat → Int} {E : rdE} {b : Nat} {s : rdS} (h : RT M E b s) {b2 : Nat} (h1 : s.nc ≤ b2) (h2 : b2 ≤ 400) : RT M E b2 s := by
  have z := h
  unfold RT at z ⊢
  exact ⟨h.h13, h.htn, h.h237, h.htb, h.h20, h.hod, h.h243, h.h244, h.hi, h.hlx, h.h18, h.h19, h.h26, h.h23, h.h239, h.h240, h1, h2, h.hlv⟩
section RTC
variable {xs : Nat → Int} {L d : Nat} {sh : List (Nat × Nat)} {M0 : Nat → Nat → Int}
theorem ct_RT_must (hd : 3 ≤ d) (hW : px_W0 <+: sh) (hF : px_Fx M0) (hG : px_RG sh M0) {E : rdE} {b : Nat} {s : rdS} (hs : RT M0 E b s) (hf : s.flt = 0) {u : Int} (hu : u = 0 ∨ u = 1) : ∃ M, (px_qk sh [228] M0 M ∧ RT M E b (mst E u s) ∧ fz [14, 15, 16, 17, 18, 19] M0 M) ∧ px_Cl xs L d 227 [.ref 228, .int (iI (u))] (sh, M0) (none) (sh, M) := by
  obtain ⟨M, ⟨k, p19, p18, pl, pf⟩, hc⟩ := ct_R_must0 (xs := xs) (L := L) hd hW hF hG (tn := E.tn) hs.h13 hs.htn (by rw [hs.h237]; exact hs.htb) (i := s.i) hs.hi (by rw [hs.h237]; exact hs.hlx) (by rw [hs.h19, hf]) hu
  refine ⟨M, ⟨k, ?_, pf⟩, hc⟩
  rw [hs.h237] at p18 pl
  have a := tkS_b (tb := E.tb) hs.hi
  have a2 := tkE_b (tb := E.tb) hs.hi
  unfold mst
  rcases hu with h | h
  · rw [if_neg (by omega)] at p19 p18 pl ⊢
    exact RT_tok hs pf k.2.2 pl p18 p19 ⟨Nat.le_refl _, hs.hi⟩
  · rw [if_pos h] at p19 p18 pl ⊢
    have z := RT_tok hs pf k.2.2 pl (p18.trans hs.h18) (p19.trans hf.symm) ⟨by omega, by omega⟩
    exact z
theorem ct_RT_next (hd : 2 ≤ d) (hW : px_W0 <+: sh) (hF : px_Fx M0) (hG : px_RG sh M0) {E : rdE} {b : Nat} {s : rdS} (hs : RT M0 E b s) : ∃ M, (px_qk sh [228] M0 M ∧ RT M E b (nxS E s) ∧ fz [14, 15, 16, 17] M0 M) ∧ px_Cl xs L d 222 [.ref 228] (sh, M0) (none) (sh, M) := by
  obtain ⟨M, ⟨k, p14, p15, p16, p17, pf⟩, hc⟩ := ct_R_next (xs := xs) (L := L) hd hW hF hG (tn := E.tn) hs.h13 hs.htn (by rw [hs.h237]; exact hs.htb) (i := tkE E.tn E.tb s.i) hs.hlx.2.1 (tkE_b hs.hi).2
  refine ⟨M, ⟨k, ?_, pf⟩, hc⟩
  rw [hs.h237] at p14 p15 p16 p17
  have a := tkS_b (tb := E.tb) hs.hi
  have a2 := tkE_b (tb := E.tb) hs.hi
  have z := RT_tok hs (fz_mo pf (by decide)) k.2.2 ⟨p14, p15, p16, p17⟩ ((pf 18 (by decide)).trans hs.h18) ((pf 19 (by decide)).trans hs.h19) ⟨by omega, by omega⟩
  exact z
theorem ct_RT_isWord (hd : 1 ≤ d) (hW : px_W0 <+: sh) (hF : px_Fx M0) (hG : px_RG sh M0) {E : rdE} {b : Nat} {s : rdS} (hs : RT M0 E b s) {u : Int} (hu : rl u) : ∃ M, (px_qk sh [] M0 M) ∧ px_Cl xs L d 226 [.ref 228, .long (lI (u))] (sh, M0) (some (.int (iI (bI (rK E s = 1 ∧ rW E s = u))))) (sh, M) := ct_R_isWord hd hW hF hG hs.hlx hu
theorem ct_RT_isSign (hd : 1 ≤ d) (hW : px_W0 <+: sh) (hF : px_Fx M0) (hG : px_RG sh M0) {E : rdE} {b : Nat} {s : rdS} (hs : RT M0 E b s) {u : Int} (hu : rg u) : ∃ M, (px_qk sh [] M0 M) ∧ px_Cl xs L d 231 [.ref 228, .int (iI (u))] (sh, M0) (some (.int (iI (bI (rK E s = 3 ∧ rW E s = u))))) (sh, M) := ct_R_isSign hd hW hF hG hs.hlx hu
theorem ct_RT_readExpression (hd : 7 ≤ d) (hW : px_W0 <+: sh) (hF : px_Fx M0) (hG : px_RG sh M0) {E : rdE} {s : rdS} (hs : RT M0 E s.i s) {u : Int} (hu : u = 0 ∨ u = 1) : ∃ M, (px_qk sh [228, 239, 240, 241, 242] M0 M ∧ RT M E (rExp E u s).i (rExp E u s) ∧ fz [14, 15, 16, 17, 18, 19, 23, 26, 29, 30] M0 M) ∧ px_Cl xs L d 228 [.ref 228, .int (iI (u))] (sh, M0) (none) (sh, M) := by
  obtain ⟨M, ⟨k, pS, pf⟩, hc⟩ := ct_R_readExpression (xs := xs) (L := L) hd hW hF hG hs hu
  exact ⟨M, ⟨k, RS_RT pS, pf⟩, hc⟩
end RTC
def rB0 (o a : Nat → Int) : rdS := (0, -1, 0, [], 0, 0, 0, o, a)
theorem ct_R_beginText {xs : Nat → Int} {L d : Nat} {sh : List (Nat × Nat)} {M0 : Nat → Nat → Int} (hd : 4 ≤ d) (hW : px_W0 <+: sh) (hF : px_Fx M0) (hG : px_RG sh M0)  {E : rdE} (h13 : M0 228 13 = ((E.tn : Nat) : Int)) (htn : E.tn ≤ 400) (h237 : M0 237 = E.tb) (htb : ∀ j, 0 ≤ E.tb j ∧ E.tb j ≤ 255) (hod : E.od = 0 ∨ E.od = 1) (h243 : ∀ k, k < 12 → M0 243 k = E.f k ∧ 0 ≤ E.f k ∧ E.f k ≤ 1125899906842624) (h244 : ∀ k, k < 9 → M0 244 k = E.g k ∧ 0 ≤ E.g k ∧ E.g k ≤ 1125899906842624) {u : Int} (hu : u = E.od) : ∃ M, (px_qk sh [228] M0 M ∧ (RT M E 0 (rB0 (M0 239) (M0 240))) ∧ (M 228 21 = 0) ∧ (fz [14, 15, 16, 17, 18, 19, 20, 21, 23, 26] M0 M)) ∧ px_Cl xs L d 220 [.ref 228, .int (iI (u))] (sh, M0) (none) (sh, M) := by
  obtain ⟨d, rfl⟩ : ∃ e, d = e + 1 := ⟨d - 1, by omega⟩
  have q0 : px_qk sh [228] M0 M0 := ⟨hF, hG, eo_rf⟩
  refine vc_n (Nat.le_of_ble_eq_true rfl) ?_
  show px_R xs L d 220 (0, [.ref 228, .int (iI (u))], [], (sh, M0)) (fun r h' => r = none ∧ ∃ M', h' = (sh, M') ∧ px_qk sh [228] M0 M' ∧ RT M' E 0 (rB0 (M0 239) (M0 240)) ∧ M' 228 21 = 0 ∧ fz [14, 15, 16, 17, 18, 19, 20, 21, 23, 26] M0 M')
  refine rr_aload_n pf_220_0 rfl ?_
  refine rr_iload_n pf_220_1 rfl ?_
  refine vr_putZ hW q0 pf_220_2 po_220 pg_9_353 (Or.inl rfl) rfl (ws_228 hW) (by decide) (by omega) (by decide) (fun M1 eM1 q2 => ?_)
  have rq3 := fz_up (fz_rf [14, 15, 16, 17, 18, 19, 20, 21, 23, 26] M0) eM1 (by decide)
  refine rr_aload_n pf_220_5 rfl ?_
  obtain ⟨M4, ⟨kq5, pl_M4, p19_M4, p18_M4, pf_M4⟩, hcM4⟩ := ct_R_begin (xs := xs) (L := L) (d := d) (tn := E.tn) (by omega) hW q2.1 q2.2.1 (by rw [rq3 13 (by decide)]; exact h13) htn (by rw [q2.2.2 237 (by decide), h237]; exact htb)
  have q5 := qk_trm q2 kq5 (by decide)
  have rq7 := fz_tr rq3 pf_M4 (by decide)
  refine rr_cV0 pf_220_6 po_220 pc_9_404 (ws_228 hW) po_221 (by decide) rfl hcM4 ?_
  rw [q2.2.2 237 (by decide), h237] at pl_M4
  refine rr_aload_n pf_220_9 rfl ?_
  refine rr_iconst pf_220_10 ?_
  refine vr_putI hW q5 pf_220_11 po_220 pg_9_407 (Or.inl rfl) rfl (ws_228 hW) (by decide) (by unfold rg; omega) (by decide) (fun M8 eM8 q9 => ?_)
  have rq10 := fz_up rq7 eM8 (by decide)
  refine rr_aload_n pf_220_14 rfl ?_
  refine rr_iconst pf_220_15 ?_
  refine vr_putI hW q9 pf_220_16 po_220 pg_9_313 (Or.inl rfl) rfl (ws_228 hW) (by decide) (by unfold rg; omega) (by decide) (fun M11 eM11 q12 => ?_)
  have rq13 := fz_up rq10 eM11 (by decide)
  refine rr_aload_n pf_220_19 rfl ?_
  refine rr_iconst pf_220_20 ?_
  refine vr_putI hW q12 pf_220_21 po_220 pg_9_344 (Or.inl rfl) rfl (ws_228 hW) (by decide) (by unfold rg; omega) (by decide) (fun M14 eM14 q15 => ?_)
  have rq16 := fz_up rq13 eM14 (by decide)
  refine rr_vret pf_220_24 pt_220 ⟨rfl, M14, rfl, q15, (by unfold RT; exact ⟨((rq16 13 (by decide)).trans h13), htn, ((q15.2.2 237 (by decide)).trans h237), htb, (by rw [eM14, up_ne (by decide), eM11, up_ne (by decide), eM8, up_ne (by decide), pf_M4 20 (by decide), eM1, up_s]; exact hu), hod, (by rw [(q15.2.2 243 (by decide))]; exact h243), (by rw [(q15.2.2 244 (by decide))]; exact h244), (Nat.zero_le _), lex_w (lex_w (lex_w pl_M4 eM8 (by decide)) eM11 (by decide)) eM14 (by decide), (by rw [eM14, up_ne (by decide), eM11, up_ne (by decide), eM8, up_ne (by decide)]; exact p18_M4), (by rw [eM14, up_ne (by decide), eM11, up_ne (by decide), eM8, up_ne (by decide)]; exact p19_M4), (by rw [eM14, up_s]; rfl), (by rw [eM14, up_ne (by decide), eM11, up_s]; rfl), (q15.2.2 239 (by decide)), (q15.2.2 240 (by decide)), (Nat.le_refl _), (by decide), (by show 0 ≤ 50; omega)⟩), (by rw [eM14, up_ne (by decide), eM11, up_ne (by decide), eM8, up_s]), (rq16)⟩
theorem ct_R_endText {xs : Nat → Int} {L d : Nat} {sh : List (Nat × Nat)} {M0 : Nat → Nat → Int} (hd : 4 ≤ d) (hW : px_W0 <+: sh) (hF : px_Fx M0) (hG : px_RG sh M0)  {E : rdE} {s : rdS} (hs : RT M0 E s.i s) (hfl : s.flt = 0 ∨ s.flt = 1) : ∃ M, (px_qk sh [228] M0 M ∧ (M 228 19 = if s.flt = 0 ∧ rK E s = 0 then 0 else 1) ∧ (M 228 18 = if s.flt = 0 ∧ rK E s ≠ 0 then ((tkS E.tn E.tb s.i : Nat) : Int) else s.bad) ∧ (M 228 13 = 0) ∧ (M 228 20 = 0) ∧ (fz [13, 14, 15, 16, 17, 18, 19, 20] M0 M)) ∧ px_Cl xs L d 245 [.ref 228] (sh, M0) (none) (sh, M) := by
  obtain ⟨d, rfl⟩ : ∃ e, d = e + 1 := ⟨d - 1, by omega⟩
  have q0 : px_qk sh [228] M0 M0 := ⟨hF, hG, eo_rf⟩
  refine vc_n (Nat.le_of_ble_eq_true rfl) ?_
  show px_R xs L d 245 (0, [.ref 228], [], (sh, M0)) (fun r h' => r = none ∧ ∃ M', h' = (sh, M') ∧ px_qk sh [228] M0 M' ∧ (M' 228 19 = if s.flt = 0 ∧ rK E s = 0 then 0 else 1) ∧ (M' 228 18 = if s.flt = 0 ∧ rK E s ≠ 0 then ((tkS E.tn E.tb s.i : Nat) : Int) else s.bad) ∧ M' 228 13 = 0 ∧ M' 228 20 = 0 ∧ fz [13, 14, 15, 16, 17, 18, 19, 20] M0 M')
  refine rr_aload_n pf_245_0 rfl ?_
  refine vr_getZ q0 pf_245_1 po_245 pg_9_276 rfl (ws_228 hW) (by decide) (fun x1 hx1 rx1 => ?_)
  rw [hs.h19] at hx1
  refine rr_if_ne 19 pf_245_4 (by decide) rx1 (fun c2 => ?_) (fun c2 => ?_)
  · refine rr_aload_n pf_245_19 rfl ?_
    refine rr_iconst pf_245_20 ?_
    refine vr_putZ hW q0 pf_245_21 po_245 pg_9_353 (Or.inl rfl) rfl (ws_228 hW) (by decide) (by omega) (by decide) (fun M3 eM3 q4 => ?_)
    have rq5 := fz_up (fz_rf [13, 14, 15, 16, 17, 18, 19, 20] M0) eM3 (by decide)
    refine rr_aload_n pf_245_24 rfl ?_
    refine rr_iconst pf_245_25 ?_
    refine vr_putI hW q4 pf_245_26 po_245 pg_9_264 (Or.inl rfl) rfl (ws_228 hW) (by decide) (by unfold rg; omega) (by decide) (fun M6 eM6 q7 => ?_)
    have rq8 := fz_up rq5 eM6 (by decide)
    refine rr_vret pf_245_29 pt_245 ⟨rfl, M6, rfl, q7, (by rw [if_neg (by omega), eM6, up_ne (by decide), eM3, up_ne (by decide), hs.h19]; omega), (by rw [if_neg (by omega), eM6, up_ne (by decide), eM3, up_ne (by decide), hs.h18]), (by rw [eM6, up_s]), (by rw [eM6, up_ne (by decide), eM3, up_s]), (rq8)⟩
  · refine rr_aload_n pf_245_7 rfl ?_
    refine vr_getI q0 pf_245_8 po_245 pg_9_296 rfl (ws_228 hW) (by decide) (fun x9 hx9 rx9 => ?_)
    rw [hs.hlx.2.2.1] at hx9
    change x9 = ((rK E s : Nat) : Int) at hx9
    refine rr_if_eq 19 pf_245_11 (by decide) rx9 (fun c10 => ?_) (fun c10 => ?_)
    · refine rr_aload_n pf_245_19 rfl ?_
      refine rr_iconst pf_245_20 ?_
      refine vr_putZ hW q0 pf_245_21 po_245 pg_9_353 (Or.inl rfl) rfl (ws_228 hW) (by decide) (by omega) (by decide) (fun M11 eM11 q12 => ?_)
      have rq13 := fz_up (fz_rf [13, 14, 15, 16, 17, 18, 19, 20] M0) eM11 (by decide)
      refine rr_aload_n pf_245_24 rfl ?_
      refine rr_iconst pf_245_25 ?_
      refine vr_putI hW q12 pf_245_26 po_245 pg_9_264 (Or.inl rfl) rfl (ws_228 hW) (by decide) (by unfold rg; omega) (by decide) (fun M14 eM14 q15 => ?_)
      have rq16 := fz_up rq13 eM14 (by decide)
      refine rr_vret pf_245_29 pt_245 ⟨rfl, M14, rfl, q15, (by rw [if_pos (by omega), eM14, up_ne (by decide), eM11, up_ne (by decide), hs.h19]; omega), (by rw [if_neg (by omega), eM14, up_ne (by decide), eM11, up_ne (by decide), hs.h18]), (by rw [eM14, up_s]), (by rw [eM14, up_ne (by decide), eM11, up_s]), (rq16)⟩
    · refine rr_aload_n pf_245_14 rfl ?_
      refine rr_iconst pf_245_15 ?_
      obtain ⟨M17, ⟨kq18, pS_M17, pf_M17⟩, hcM17⟩ := ct_RT_must (xs := xs) (L := L) (d := d) (u := 0) (E := E) (s := s) (b := s.i) (by omega) hW q0.1 q0.2.1 hs (by omega) (by omega)
      have q18 := qk_trm q0 kq18 (by decide)
      have rq20 := fz_tr (fz_rf [13, 14, 15, 16, 17, 18, 19, 20] M0) pf_M17 (by decide)
      refine rr_cV1 pf_245_16 po_245 pc_9_309 (ws_228 hW) po_227 (by decide) rfl hcM17 ?_
      rw [mst0] at pS_M17
      refine rr_aload_n pf_245_19 rfl ?_
      refine rr_iconst pf_245_20 ?_
      refine vr_putZ hW q18 pf_245_21 po_245 pg_9_353 (Or.inl rfl) rfl (ws_228 hW) (by decide) (by omega) (by decide) (fun M21 eM21 q22 => ?_)
      have rq23 := fz_up rq20 eM21 (by decide)
      refine rr_aload_n pf_245_24 rfl ?_
      refine rr_iconst pf_245_25 ?_
      refine vr_putI hW q22 pf_245_26 po_245 pg_9_264 (Or.inl rfl) rfl (ws_228 hW) (by decide) (by unfold rg; omega) (by decide) (fun M24 eM24 q25 => ?_)
      have rq26 := fz_up rq23 eM24 (by decide)
      refine rr_vret pf_245_29 pt_245 ⟨rfl, M24, rfl, q25, (by rw [if_neg (by omega), eM24, up_ne (by decide), eM21, up_ne (by decide)]; exact (pS_M17.h19).trans rfl), (by rw [if_pos (by omega), eM24, up_ne (by decide), eM21, up_ne (by decide)]; exact (pS_M17.h18).trans rfl), (by rw [eM24, up_s]), (by rw [eM24, up_ne (by decide), eM21, up_s]), (rq26)⟩
