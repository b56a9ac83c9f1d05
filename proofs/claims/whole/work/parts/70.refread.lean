/-! the reference's reader: small steps -/
/-- the token from i on is the one at hand -/
def lex (M : Nat → Nat → Int) (tn : Nat) (tb : Nat → Int) (i : Nat) : Prop := M 228 14 = ((tkS tn tb i : Nat) : Int) ∧ M 228 15 = ((tkE tn tb i : Nat) : Int) ∧ M 228 16 = ((tkK tn tb i : Nat) : Int) ∧ M 228 17 = tkW tn tb i
theorem lex_fz {X : List Nat} {M M2 : Nat → Nat → Int} {tn : Nat} {tb : Nat → Int} {i : Nat} (h : lex M tn tb i) (f : fz X M M2) (h14 : 14 ∉ X) (h15 : 15 ∉ X) (h16 : 16 ∉ X) (h17 : 17 ∉ X) : lex M2 tn tb i := ⟨(f 14 h14).trans h.1, (f 15 h15).trans h.2.1, (f 16 h16).trans h.2.2.1, (f 17 h17).trans h.2.2.2⟩
theorem lex_w {M M2 : Nat → Nat → Int} {tn : Nat} {tb : Nat → Int} {i j : Nat} {x : Int} (h : lex M tn tb i) (e : M2 = px_up M 228 j x) (hj : j ≠ 14 ∧ j ≠ 15 ∧ j ≠ 16 ∧ j ≠ 17) : lex M2 tn tb i := ⟨by rw [e, up_ne (by omega)]; exact h.1, by rw [e, up_ne (by omega)]; exact h.2.1, by rw [e, up_ne (by omega)]; exact h.2.2.1, by rw [e, up_ne (by omega)]; exact h.2.2.2⟩
theorem tkK_b (tn : Nat) (tb : Nat → Int) (i : Nat) : tkK tn tb i ≤ 3 := by
  unfold tkK
  split
  · exact (tkd_b _).2
  · omega
theorem ct_R_isWord {xs : Nat → Int} {L d : Nat} {sh : List (Nat × Nat)} {M0 : Nat → Nat → Int} (hd : 1 ≤ d) (hW : px_W0 <+: sh) (hF : px_Fx M0) (hG : px_RG sh M0)  {tn : Nat} {tb : Nat → Int} {i : Nat} (hlx : lex M0 tn tb i) {u : Int} (hu : rl u) : ∃ M, (px_qk sh [] M0 M) ∧ px_Cl xs L d 226 [.ref 228, .long (lI (u))] (sh, M0) (some (.int (iI (bI (tkK tn tb i = 1 ∧ tkW tn tb i = u))))) (sh, M) := by
  obtain ⟨d, rfl⟩ : ∃ e, d = e + 1 := ⟨d - 1, by omega⟩
  have q0 : px_qk sh [] M0 M0 := ⟨hF, hG, eo_rf⟩
  have hkb := tkK_b tn tb i
  refine vc_n (Nat.le_of_ble_eq_true rfl) ?_
  show px_R xs L d 226 (0, [.ref 228, .long (lI (u)), px_jk], [], (sh, M0)) (fun r h' => r = some (.int (iI (bI (tkK tn tb i = 1 ∧ tkW tn tb i = u)))) ∧ ∃ M', h' = (sh, M') ∧ px_qk sh [] M0 M')
  refine rr_aload_n pf_226_0 rfl ?_
  refine vr_getI q0 pf_226_1 po_226 pg_9_296 rfl (ws_228 hW) (by decide) (fun x1 hx1 rx1 => ?_)
  rw [hlx.2.2.1] at hx1
  refine rr_iconst pf_226_4 ?_
  refine rr_icmp_ne 21 pf_226_5 (by decide) rx1 (by unfold rg; omega) (fun c2 => ?_) (fun c2 => ?_)
  · refine rr_iconst pf_226_21 ?_
    refine rr_zret pf_226_22 pt_226 (by first | exact Or.inl rfl | exact Or.inr rfl | omega) ⟨by rw [bI_f (by omega)], M0, rfl, q0⟩
  · refine rr_aload_n pf_226_8 rfl ?_
    refine vr_getL q0 pf_226_9 po_226 pg_9_286 rfl (ws_228 hW) (by decide) (fun x3 hx3 rx3 => ?_)
    rw [hlx.2.2.2] at hx3
    refine rr_lload_n pf_226_12 rfl ?_
    refine rr_lcmp pf_226_13 rx3 hu ?_
    refine rr_ifc_ne 21 pf_226_14 (by decide) (fun c4 => ?_) (fun c4 => ?_)
    · refine rr_iconst pf_226_21 ?_
      refine rr_zret pf_226_22 pt_226 (by first | exact Or.inl rfl | exact Or.inr rfl | omega) ⟨by rw [bI_f (by omega)], M0, rfl, q0⟩
    · refine rr_iconst pf_226_17 ?_
      refine rr_goto 22 pf_226_18 (by decide) ?_
      refine rr_zret pf_226_22 pt_226 (by first | exact Or.inl rfl | exact Or.inr rfl | omega) ⟨by rw [bI_t (by omega)], M0, rfl, q0⟩
theorem ct_R_isSign {xs : Nat → Int} {L d : Nat} {sh : List (Nat × Nat)} {M0 : Nat → Nat → Int} (hd : 1 ≤ d) (hW : px_W0 <+: sh) (hF : px_Fx M0) (hG : px_RG sh M0)  {tn : Nat} {tb : Nat → Int} {i : Nat} (hlx : lex M0 tn tb i) {u : Int} (hu : rg u) : ∃ M, (px_qk sh [] M0 M) ∧ px_Cl xs L d 231 [.ref 228, .int (iI (u))] (sh, M0) (some (.int (iI (bI (tkK tn tb i = 3 ∧ tkW tn tb i = u))))) (sh, M) := by
  obtain ⟨d, rfl⟩ : ∃ e, d = e + 1 := ⟨d - 1, by omega⟩
  have q0 : px_qk sh [] M0 M0 := ⟨hF, hG, eo_rf⟩
  have hkb := tkK_b tn tb i
  refine vc_n (Nat.le_of_ble_eq_true rfl) ?_
  show px_R xs L d 231 (0, [.ref 228, .int (iI (u))], [], (sh, M0)) (fun r h' => r = some (.int (iI (bI (tkK tn tb i = 3 ∧ tkW tn tb i = u)))) ∧ ∃ M', h' = (sh, M') ∧ px_qk sh [] M0 M')
  refine rr_aload_n pf_231_0 rfl ?_
  refine vr_getI q0 pf_231_1 po_231 pg_9_296 rfl (ws_228 hW) (by decide) (fun x1 hx1 rx1 => ?_)
  rw [hlx.2.2.1] at hx1
  refine rr_iconst pf_231_4 ?_
  refine rr_icmp_ne 22 pf_231_5 (by decide) rx1 (by unfold rg; omega) (fun c2 => ?_) (fun c2 => ?_)
  · refine rr_iconst pf_231_22 ?_
    refine rr_zret pf_231_23 pt_231 (by first | exact Or.inl rfl | exact Or.inr rfl | omega) ⟨by rw [bI_f (by omega)], M0, rfl, q0⟩
  · refine rr_aload_n pf_231_8 rfl ?_
    refine vr_getL q0 pf_231_9 po_231 pg_9_286 rfl (ws_228 hW) (by decide) (fun x3 hx3 rx3 => ?_)
    rw [hlx.2.2.2] at hx3
    refine rr_iload_n pf_231_12 rfl ?_
    refine rr_i2l pf_231_13 hu ?_
    refine rr_lcmp pf_231_14 rx3 (rl_rg hu) ?_
    refine rr_ifc_ne 22 pf_231_15 (by decide) (fun c4 => ?_) (fun c4 => ?_)
    · refine rr_iconst pf_231_22 ?_
      refine rr_zret pf_231_23 pt_231 (by first | exact Or.inl rfl | exact Or.inr rfl | omega) ⟨by rw [bI_f (by omega)], M0, rfl, q0⟩
    · refine rr_iconst pf_231_18 ?_
      refine rr_goto 23 pf_231_19 (by decide) ?_
      refine rr_zret pf_231_23 pt_231 (by first | exact Or.inl rfl | exact Or.inr rfl | omega) ⟨by rw [bI_t (by omega)], M0, rfl, q0⟩
theorem ct_R_must0 {xs : Nat → Int} {L d : Nat} {sh : List (Nat × Nat)} {M0 : Nat → Nat → Int} (hd : 3 ≤ d) (hW : px_W0 <+: sh) (hF : px_Fx M0) (hG : px_RG sh M0)  {tn : Nat} (h13 : M0 228 13 = ((tn : Nat) : Int)) (htn : tn ≤ 400) (htb : ∀ j, 0 ≤ M0 237 j ∧ M0 237 j ≤ 255) {i : Nat} (hi : i ≤ tn) (hlx : lex M0 tn (M0 237) i) (h19 : M0 228 19 = 0) {u : Int} (hu : u = 0 ∨ u = 1) : ∃ M, (px_qk sh [228] M0 M ∧ (M 228 19 = if u = 1 then 0 else 1) ∧ (M 228 18 = if u = 1 then M0 228 18 else ((tkS tn (M0 237) i : Nat) : Int)) ∧ (lex M tn (M0 237) (if u = 1 then tkE tn (M0 237) i else i)) ∧ (fz [14, 15, 16, 17, 18, 19] M0 M)) ∧ px_Cl xs L d 227 [.ref 228, .int (iI (u))] (sh, M0) (none) (sh, M) := by
  obtain ⟨d, rfl⟩ : ∃ e, d = e + 1 := ⟨d - 1, by omega⟩
  have q0 : px_qk sh [228] M0 M0 := ⟨hF, hG, eo_rf⟩
  refine vc_n (Nat.le_of_ble_eq_true rfl) ?_
  show px_R xs L d 227 (0, [.ref 228, .int (iI (u))], [], (sh, M0)) (fun r h' => r = none ∧ ∃ M', h' = (sh, M') ∧ px_qk sh [228] M0 M' ∧ (M' 228 19 = if u = 1 then 0 else 1) ∧ (M' 228 18 = if u = 1 then M0 228 18 else ((tkS tn (M0 237) i : Nat) : Int)) ∧ lex M' tn (M0 237) (if u = 1 then tkE tn (M0 237) i else i) ∧ fz [14, 15, 16, 17, 18, 19] M0 M')
  refine rr_aload_n pf_227_0 rfl ?_
  refine vr_getZ q0 pf_227_1 po_227 pg_9_276 rfl (ws_228 hW) (by decide) (fun x1 hx1 rx1 => ?_)
  rw [h19] at hx1
  refine rr_if_ne 24 pf_227_4 (by decide) rx1 (fun c2 => ?_) (fun c2 => ?_)
  · exfalso; omega
  · refine rr_iload_n pf_227_7 rfl ?_
    refine rr_if_ne 24 pf_227_8 (by decide) (by unfold rg; omega) (fun c3 => ?_) (fun c3 => ?_)
    · refine rr_aload_n pf_227_24 rfl ?_
      refine vr_getZ q0 pf_227_25 po_227 pg_9_276 rfl (ws_228 hW) (by decide) (fun x4 hx4 rx4 => ?_)
      rw [h19] at hx4
      refine rr_if_ne 35 pf_227_28 (by decide) rx4 (fun c5 => ?_) (fun c5 => ?_)
      · exfalso; omega
      · refine rr_aload_n pf_227_31 rfl ?_
        obtain ⟨M6, ⟨kq7, p14_M6, p15_M6, p16_M6, p17_M6, pf_M6⟩, hcM6⟩ := ct_R_next (xs := xs) (L := L) (d := d)  (by omega) hW q0.1 q0.2.1 h13 htn htb hlx.2.1 (tkE_b hi).2
        have q7 := qk_trm q0 kq7 (by decide)
        have rq9 := fz_tr (fz_rf [14, 15, 16, 17, 18, 19] M0) pf_M6 (by decide)
        refine rr_cV0 pf_227_32 po_227 pc_9_280 (ws_228 hW) po_222 (by decide) rfl hcM6 ?_
        refine rr_vret pf_227_35 pt_227 ⟨rfl, M6, rfl, q7, (by rw [if_pos (by omega), pf_M6 19 (by decide)]; exact h19), (by rw [if_pos (by omega), pf_M6 18 (by decide)]), (by rw [if_pos (by omega)]; exact ⟨p14_M6, p15_M6, p16_M6, p17_M6⟩), (rq9)⟩
    · refine rr_aload_n pf_227_11 rfl ?_
      refine rr_iconst pf_227_12 ?_
      refine vr_putZ hW q0 pf_227_13 po_227 pg_9_276 (Or.inl rfl) rfl (ws_228 hW) (by decide) (by omega) (by decide) (fun M10 eM10 q11 => ?_)
      have rq12 := fz_up (fz_rf [14, 15, 16, 17, 18, 19] M0) eM10 (by decide)
      refine rr_aload_n pf_227_16 rfl ?_
      refine rr_aload_n pf_227_17 rfl ?_
      refine vr_getI q11 pf_227_18 po_227 pg_9_283 rfl (ws_228 hW) (by decide) (fun x13 hx13 rx13 => ?_)
      rw [eM10, up_ne (by decide), hlx.1] at hx13
      have hsb := tkS_b (tb := M0 237) hi
      refine vr_putI hW q11 pf_227_21 po_227 pg_9_38 (Or.inl rfl) rfl (ws_228 hW) (by decide) rx13 (by decide) (fun M14 eM14 q15 => ?_)
      have rq16 := fz_up rq12 eM14 (by decide)
      refine rr_aload_n pf_227_24 rfl ?_
      refine vr_getZ q15 pf_227_25 po_227 pg_9_276 rfl (ws_228 hW) (by decide) (fun x17 hx17 rx17 => ?_)
      rw [eM14, up_ne (by decide), eM10, up_s] at hx17
      refine rr_if_ne 35 pf_227_28 (by decide) rx17 (fun c18 => ?_) (fun c18 => ?_)
      · refine rr_vret pf_227_35 pt_227 ⟨rfl, M14, rfl, q15, (by rw [if_neg (by omega), eM14, up_ne (by decide), eM10, up_s]), (by rw [if_neg (by omega), eM14, up_s]; omega), (by rw [if_neg (by omega)]; exact lex_w (lex_w hlx eM10 (by decide)) eM14 (by decide)), (rq16)⟩
      · exfalso; omega
theorem ct_R_must1 {xs : Nat → Int} {L d : Nat} {sh : List (Nat × Nat)} {M0 : Nat → Nat → Int} (hd : 1 ≤ d) (hW : px_W0 <+: sh) (hF : px_Fx M0) (hG : px_RG sh M0)  (h19 : M0 228 19 = 1) {u : Int} (hu : u = 0 ∨ u = 1) : ∃ M, (px_qk sh [] M0 M) ∧ px_Cl xs L d 227 [.ref 228, .int (iI (u))] (sh, M0) (none) (sh, M) := by
  obtain ⟨d, rfl⟩ : ∃ e, d = e + 1 := ⟨d - 1, by omega⟩
  have q0 : px_qk sh [] M0 M0 := ⟨hF, hG, eo_rf⟩
  refine vc_n (Nat.le_of_ble_eq_true rfl) ?_
  show px_R xs L d 227 (0, [.ref 228, .int (iI (u))], [], (sh, M0)) (fun r h' => r = none ∧ ∃ M', h' = (sh, M') ∧ px_qk sh [] M0 M')
  refine rr_aload_n pf_227_0 rfl ?_
  refine vr_getZ q0 pf_227_1 po_227 pg_9_276 rfl (ws_228 hW) (by decide) (fun x1 hx1 rx1 => ?_)
  rw [h19] at hx1
  refine rr_if_ne 24 pf_227_4 (by decide) rx1 (fun c2 => ?_) (fun c2 => ?_)
  · refine rr_aload_n pf_227_24 rfl ?_
    refine vr_getZ q0 pf_227_25 po_227 pg_9_276 rfl (ws_228 hW) (by decide) (fun x3 hx3 rx3 => ?_)
    rw [h19] at hx3
    refine rr_if_ne 35 pf_227_28 (by decide) rx3 (fun c4 => ?_) (fun c4 => ?_)
    · refine rr_vret pf_227_35 pt_227 ⟨rfl, M0, rfl, q0⟩
    · exfalso; omega
  · exfalso; omega
theorem ct_R_emit {xs : Nat → Int} {L d : Nat} {sh : List (Nat × Nat)} {M0 : Nat → Nat → Int} (hd : 1 ≤ d) (hW : px_W0 <+: sh) (hF : px_Fx M0) (hG : px_RG sh M0)  {k : Nat} (hk : M0 228 23 = ((k : Nat) : Int)) (hk4 : k < 400) {a b : Int} (ha0 : rg a) (hb0 : rg b) : ∃ M, (px_qk sh [228, 239, 240] M0 M ∧ (M 239 = fup (M0 239) k a) ∧ (M 240 = fup (M0 240) k b) ∧ (M 228 23 = ((k + 1 : Nat) : Int)) ∧ (fz [23] M0 M)) ∧ px_Cl xs L d 237 [.ref 228, .int (iI (a)), .int (iI (b))] (sh, M0) (none) (sh, M) := by
  obtain ⟨d, rfl⟩ : ∃ e, d = e + 1 := ⟨d - 1, by omega⟩
  have q0 : px_qk sh [228, 239, 240] M0 M0 := ⟨hF, hG, eo_rf⟩
  refine vc_n (Nat.le_of_ble_eq_true rfl) ?_
  show px_R xs L d 237 (0, [.ref 228, .int (iI (a)), .int (iI (b))], [], (sh, M0)) (fun r h' => r = none ∧ ∃ M', h' = (sh, M') ∧ px_qk sh [228, 239, 240] M0 M' ∧ M' 239 = fup (M0 239) k a ∧ M' 240 = fup (M0 240) k b ∧ M' 228 23 = ((k + 1 : Nat) : Int) ∧ fz [23] M0 M')
  refine rr_aload_n pf_237_0 rfl ?_
  refine rr_getR pf_237_1 po_237 pg_9_45 rfl (ws_228 hW) (by decide) (wr_228_24 q0.1) ?_
  refine rr_aload_n pf_237_4 rfl ?_
  refine vr_getI q0 pf_237_5 po_237 pg_9_313 rfl (ws_228 hW) (by decide) (fun x1 hx1 rx1 => ?_)
  rw [hk] at hx1
  refine rr_iload_n pf_237_8 rfl ?_
  refine vr_iast (j := k) hW q0 pf_237_9 (ws_239 hW) (by omega) (by omega) (by decide) ha0 (by decide) (fun M2 eM2 q3 => ?_)
  have rq4 := fz_ne (fz_rf [23] M0) eM2 (by decide)
  refine rr_aload_n pf_237_10 rfl ?_
  refine rr_getR pf_237_11 po_237 pg_9_48 rfl (ws_228 hW) (by decide) (wr_228_25 q3.1) ?_
  refine rr_aload_n pf_237_14 rfl ?_
  refine vr_getI q3 pf_237_15 po_237 pg_9_313 rfl (ws_228 hW) (by decide) (fun x5 hx5 rx5 => ?_)
  rw [eM2, ask_ne (by decide), hk] at hx5
  refine rr_iload_n pf_237_18 rfl ?_
  refine vr_iast (j := k) hW q3 pf_237_19 (ws_240 hW) (by omega) (by omega) (by decide) hb0 (by decide) (fun M6 eM6 q7 => ?_)
  have rq8 := fz_ne rq4 eM6 (by decide)
  refine rr_aload_n pf_237_20 rfl ?_
  refine rr_dup pf_237_21 rfl ?_
  refine vr_getI q7 pf_237_22 po_237 pg_9_313 rfl (ws_228 hW) (by decide) (fun x9 hx9 rx9 => ?_)
  rw [eM6, ask_ne (by decide), eM2, ask_ne (by decide), hk] at hx9
  refine rr_iconst pf_237_25 ?_
  refine rr_iadd pf_237_26 ?_
  refine vr_putI hW q7 pf_237_27 po_237 pg_9_313 (Or.inl rfl) rfl (ws_228 hW) (by decide) (by unfold rg; omega) (by decide) (fun M10 eM10 q11 => ?_)
  have rq12 := fz_up rq8 eM10 (by decide)
  refine rr_vret pf_237_30 pt_237 ⟨rfl, M10, rfl, q11, (by rw [eM10, ask_ne (by decide), eM6, ask_ne (by decide)]; exact up_fup eM2), (by rw [eM10, ask_ne (by decide), up_fup eM6, eM2, ask_ne (by decide)]), (by rw [eM10, up_s]; omega), (rq12)⟩
theorem ct_R_push {xs : Nat → Int} {L d : Nat} {sh : List (Nat × Nat)} {M0 : Nat → Nat → Int} (hd : 1 ≤ d) (hW : px_W0 <+: sh) (hF : px_Fx M0) (hG : px_RG sh M0)  {k : Nat} (hk : M0 228 29 = ((k : Nat) : Int)) (hk4 : k < 400) {a b : Int} (ha0 : rg a) (hb0 : rg b) : ∃ M, (px_qk sh [228, 241, 242] M0 M ∧ (M 241 = fup (M0 241) k a) ∧ (M 242 = fup (M0 242) k b) ∧ (M 228 29 = ((k + 1 : Nat) : Int)) ∧ (fz [29] M0 M)) ∧ px_Cl xs L d 230 [.ref 228, .int (iI (a)), .int (iI (b))] (sh, M0) (none) (sh, M) := by
  obtain ⟨d, rfl⟩ : ∃ e, d = e + 1 := ⟨d - 1, by omega⟩
  have q0 : px_qk sh [228, 241, 242] M0 M0 := ⟨hF, hG, eo_rf⟩
  refine vc_n (Nat.le_of_ble_eq_true rfl) ?_
  show px_R xs L d 230 (0, [.ref 228, .int (iI (a)), .int (iI (b))], [], (sh, M0)) (fun r h' => r = none ∧ ∃ M', h' = (sh, M') ∧ px_qk sh [228, 241, 242] M0 M' ∧ M' 241 = fup (M0 241) k a ∧ M' 242 = fup (M0 242) k b ∧ M' 228 29 = ((k + 1 : Nat) : Int) ∧ fz [29] M0 M')
  refine rr_aload_n pf_230_0 rfl ?_
  refine rr_getR pf_230_1 po_230 pg_9_51 rfl (ws_228 hW) (by decide) (wr_228_27 q0.1) ?_
  refine rr_aload_n pf_230_4 rfl ?_
  refine vr_getI q0 pf_230_5 po_230 pg_9_316 rfl (ws_228 hW) (by decide) (fun x1 hx1 rx1 => ?_)
  rw [hk] at hx1
  refine rr_iload_n pf_230_8 rfl ?_
  refine vr_iast (j := k) hW q0 pf_230_9 (ws_241 hW) (by omega) (by omega) (by decide) ha0 (by decide) (fun M2 eM2 q3 => ?_)
  have rq4 := fz_ne (fz_rf [29] M0) eM2 (by decide)
  refine rr_aload_n pf_230_10 rfl ?_
  refine rr_getR pf_230_11 po_230 pg_9_54 rfl (ws_228 hW) (by decide) (wr_228_28 q3.1) ?_
  refine rr_aload_n pf_230_14 rfl ?_
  refine vr_getI q3 pf_230_15 po_230 pg_9_316 rfl (ws_228 hW) (by decide) (fun x5 hx5 rx5 => ?_)
  rw [eM2, ask_ne (by decide), hk] at hx5
  refine rr_iload_n pf_230_18 rfl ?_
  refine vr_iast (j := k) hW q3 pf_230_19 (ws_242 hW) (by omega) (by omega) (by decide) hb0 (by decide) (fun M6 eM6 q7 => ?_)
  have rq8 := fz_ne rq4 eM6 (by decide)
  refine rr_aload_n pf_230_20 rfl ?_
  refine rr_dup pf_230_21 rfl ?_
  refine vr_getI q7 pf_230_22 po_230 pg_9_316 rfl (ws_228 hW) (by decide) (fun x9 hx9 rx9 => ?_)
  rw [eM6, ask_ne (by decide), eM2, ask_ne (by decide), hk] at hx9
  refine rr_iconst pf_230_25 ?_
  refine rr_iadd pf_230_26 ?_
  refine vr_putI hW q7 pf_230_27 po_230 pg_9_316 (Or.inl rfl) rfl (ws_228 hW) (by decide) (by unfold rg; omega) (by decide) (fun M10 eM10 q11 => ?_)
  have rq12 := fz_up rq8 eM10 (by decide)
  refine rr_vret pf_230_30 pt_230 ⟨rfl, M10, rfl, q11, (by rw [eM10, ask_ne (by decide), eM6, ask_ne (by decide)]; exact up_fup eM2), (by rw [eM10, ask_ne (by decide), up_fup eM6, eM2, ask_ne (by decide)]), (by rw [eM10, up_s]; omega), (rq12)⟩
def bnd_ (op : Int) : Int := if 31 ≤ op then 0 else if op = 30 then 1 else if op = 29 then 2 else if op = 28 then 3 else if 25 ≤ op then 4 else if 22 ≤ op then 6 else 5
theorem bnd_b (op : Int) : 0 ≤ bnd_ op ∧ bnd_ op ≤ 6 := by unfold bnd_; repeat' split <;> omega
theorem ct_R_binds {xs : Nat → Int} {L d : Nat} {sh : List (Nat × Nat)} {M0 : Nat → Nat → Int} (hd : 1 ≤ d) (hW : px_W0 <+: sh) (hF : px_Fx M0) (hG : px_RG sh M0)  {a : Int} (ha0 : rg a) : ∃ v M, (px_qk sh [] M0 M ∧ (v = bnd_ a)) ∧ px_Cl xs L d 240 [.int (iI (a))] (sh, M0) (some (.int (iI v))) (sh, M) := by
  obtain ⟨d, rfl⟩ : ∃ e, d = e + 1 := ⟨d - 1, by omega⟩
  have q0 : px_qk sh [] M0 M0 := ⟨hF, hG, eo_rf⟩
  refine vc_i (Nat.le_of_ble_eq_true rfl) ?_
  show px_R xs L d 240 (0, [.int (iI (a))], [], (sh, M0)) (fun r h' => ∃ v M', r = some (.int (iI v)) ∧ h' = (sh, M') ∧ px_qk sh [] M0 M' ∧ v = bnd_ a)
  refine rr_iload_n pf_240_0 rfl ?_
  refine rr_bipush pf_240_1 (by decide) ?_
  refine rr_icmp_lt 10 pf_240_3 (by decide) ha0 (by unfold rg; omega) (fun c1 => ?_) (fun c1 => ?_)
  · refine rr_iload_n pf_240_10 rfl ?_
    refine rr_bipush pf_240_11 (by decide) ?_
    refine rr_icmp_ne 20 pf_240_13 (by decide) ha0 (by unfold rg; omega) (fun c2 => ?_) (fun c2 => ?_)
    · refine rr_iload_n pf_240_20 rfl ?_
      refine rr_bipush pf_240_21 (by decide) ?_
      refine rr_icmp_ne 30 pf_240_23 (by decide) ha0 (by unfold rg; omega) (fun c3 => ?_) (fun c3 => ?_)
      · refine rr_iload_n pf_240_30 rfl ?_
        refine rr_bipush pf_240_31 (by decide) ?_
        refine rr_icmp_ne 40 pf_240_33 (by decide) ha0 (by unfold rg; omega) (fun c4 => ?_) (fun c4 => ?_)
        · refine rr_iload_n pf_240_40 rfl ?_
          refine rr_bipush pf_240_41 (by decide) ?_
          refine rr_icmp_lt 50 pf_240_43 (by decide) ha0 (by unfold rg; omega) (fun c5 => ?_) (fun c5 => ?_)
          · refine rr_iload_n pf_240_50 rfl ?_
            refine rr_bipush pf_240_51 (by decide) ?_
            refine rr_icmp_lt 61 pf_240_53 (by decide) ha0 (by unfold rg; omega) (fun c6 => ?_) (fun c6 => ?_)
            · refine rr_iconst pf_240_61 ?_
              refine rr_iret pf_240_62 pt_240 ⟨_, M0, rfl, rfl, q0, (by unfold bnd_; repeat (first | rw [if_pos (by omega)] | rw [if_neg (by omega)]))⟩
            · refine rr_bipush pf_240_56 (by decide) ?_
              refine rr_goto 62 pf_240_58 (by decide) ?_
              refine rr_iret pf_240_62 pt_240 ⟨_, M0, rfl, rfl, q0, (by unfold bnd_; repeat (first | rw [if_pos (by omega)] | rw [if_neg (by omega)]))⟩
          · refine rr_iconst pf_240_46 ?_
            refine rr_goto 62 pf_240_47 (by decide) ?_
            refine rr_iret pf_240_62 pt_240 ⟨_, M0, rfl, rfl, q0, (by unfold bnd_; repeat (first | rw [if_pos (by omega)] | rw [if_neg (by omega)]))⟩
        · refine rr_iconst pf_240_36 ?_
          refine rr_goto 62 pf_240_37 (by decide) ?_
          refine rr_iret pf_240_62 pt_240 ⟨_, M0, rfl, rfl, q0, (by unfold bnd_; repeat (first | rw [if_pos (by omega)] | rw [if_neg (by omega)]))⟩
      · refine rr_iconst pf_240_26 ?_
        refine rr_goto 62 pf_240_27 (by decide) ?_
        refine rr_iret pf_240_62 pt_240 ⟨_, M0, rfl, rfl, q0, (by unfold bnd_; repeat (first | rw [if_pos (by omega)] | rw [if_neg (by omega)]))⟩
    · refine rr_iconst pf_240_16 ?_
      refine rr_goto 62 pf_240_17 (by decide) ?_
      refine rr_iret pf_240_62 pt_240 ⟨_, M0, rfl, rfl, q0, (by unfold bnd_; repeat (first | rw [if_pos (by omega)] | rw [if_neg (by omega)]))⟩
  · refine rr_iconst pf_240_6 ?_
    refine rr_goto 62 pf_240_7 (by decide) ?_
    refine rr_iret pf_240_62 pt_240 ⟨_, M0, rfl, rfl, q0, (by unfold bnd_; repeat (first | rw [if_pos (by omega)] | rw [if_neg (by omega)]))⟩
