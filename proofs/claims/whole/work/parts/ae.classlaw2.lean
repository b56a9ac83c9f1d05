/-! the class's law, accepted -/
theorem ct_S_law0 {xs : Nat → Int} {L d : Nat} {sh : List (Nat × Nat)} {M0 : Nat → Nat → Int} (hd : 44 ≤ d) (hW : px_W0 <+: sh) (hF : px_Fx M0) (hG : px_RG sh M0) (hlen : sh.length ≤ 100000) {E : rdE} (hE3 : E.tn ≤ 400) (hE1 : M0 199 = E.tb) (hE4 : ∀ j, 0 ≤ E.tb j ∧ E.tb j ≤ 255) (hod0 : E.od = 0) (h11 : M0 0 11 = ((E.tn : Nat) : Int)) {n : Nat} (hn9 : M0 3 9 = ((n : Nat) : Int)) (hn6 : n < 6) {R : cR} (hRd : R = cRead E (M0 202) (M0 203) (M0 204)) (hRt : R.1 = true) : ∃ M, ((px_Fx M ∧ px_RG (shT sh R.2.1.sz R.2.2.1) M) ∧ (∀ a, a < sh.length → a ≠ 0 → a ≠ 3 → a ≠ 11 → (a < 200 ∨ 204 < a) → M a = M0 a) ∧ (∀ j, M 3 j = if j = 9 then ((n : Nat) : Int) + 1 else M0 3 j) ∧ (∀ j, M 11 j = if j = n then ((sh.length : Nat) : Int) else M0 11 j) ∧ (M 0 11 = 0 ∧ M 0 13 = 0 ∧ fk 0 [11, 13] M0 M) ∧ M 200 1 = R.2.1.flt ∧ (M 202 = R.2.1.o ∧ M 203 = R.2.1.a) ∧ (R.2.1.sz ≤ 400 ∧ R.2.2.1 ≤ 12) ∧ px_tx (shT sh R.2.1.sz R.2.2.1) M sh.length R.2.1.sz R.2.2.1 ∧ M sh.length 4 = ((R.2.2.1 : Nat) : Int) ∧ (∀ j, j < R.2.1.sz → M (sh.length + 1) j = R.2.1.o j ∧ M (sh.length + 2) j = R.2.1.a j) ∧ (∀ j, j < 8 * R.2.2.1 → M (sh.length + 3) j = R.2.2.2 j)) ∧ px_Cl xs L d 55 [.ref 0] (sh, M0) (some (.int (iI ((n : Nat) : Int)))) (shT sh R.2.1.sz R.2.2.1, M) := by
  obtain ⟨d, rfl⟩ : ∃ e, d = e + 1 := ⟨d - 1, by omega⟩
  have hl := W_len hW
  have q0 : px_qk sh [0, 200, 201, 202, 203, 204] M0 M0 := ⟨hF, hG, eo_rf⟩
  refine vc_n (Nat.le_of_ble_eq_true rfl) ?_
  show px_R xs L d 55 (0, [.ref 0, px_jk, px_jk], [], (sh, M0)) _
  refine rr_aload_n pf_55_0 rfl ?_
  obtain ⟨tv, M1, ⟨kq2, ptv, p11, ptf⟩, hcM1⟩ := ct_S_takeTape (xs := xs) (L := L) (d := d) (by omega) hW q0.1 q0.2.1
  rw [show tv = ((E.tn : Nat) : Int) by rw [ptv]; exact h11] at hcM1
  have f1 : ∀ a, a ≠ 0 → M1 a = M0 a := fun a h1 => kq2.2.2 a (by simp only [List.mem_cons, List.not_mem_nil, or_false]; exact h1)
  have q2 := qk_trm q0 kq2 (by decide +kernel)
  refine rr_cV0 pf_55_1 po_55 pc_8_198 (ws_0 hW) po_56 (by decide) rfl hcM1 ?_
  refine rr_istore_n pf_55_4 (fun y => [.ref 0, .int (iI (y)), px_jk]) (Nat.le_of_ble_eq_true rfl) (fun _ => rfl) (fun y3 hy3 => ?_)
  refine rr_aload_n pf_55_5 rfl ?_
  refine rr_getR pf_55_6 po_55 pg_8_21 rfl (ws_0 hW) (by decide) (wr_0_1 q2.1) ?_
  refine rr_getI pf_55_9 po_55 pg_8_202 rfl (ws_3 hW) (by decide) ?_
  rw [f1 3 (by decide), hn9]
  refine rr_bipush pf_55_12 (by decide) ?_
  refine rr_icmp_lt 24 pf_55_14 (by decide) (by unfold rg; omega) (by unfold rg; omega) (fun c5 => ?_) (fun c5 => by exfalso; omega)
  refine rr_aload_n pf_55_24 rfl ?_
  refine rr_getR pf_55_25 po_55 pg_8_70 rfl (ws_0 hW) (by decide) (wr_0_9 q2.1) ?_
  refine rr_iload_n pf_55_28 rfl ?_
  refine rr_iconst pf_55_29 ?_
  obtain ⟨M6, ⟨kq7, pS, pg, pc12⟩, hcM6⟩ := ct_CS_reads (xs := xs) (L := L) (d := d) (E := E) (asd := 0) (by omega) hW q2.1 q2.2.1 hE3 ((f1 199 (by decide)).trans hE1) hE4 (Or.inl hod0) hod0.symm
  rw [f1 202 (by decide), f1 203 (by decide), f1 204 (by decide), ← hRd] at pS pg pc12 hcM6
  rw [show ((E.tn : Nat) : Int) = y3 by omega, bI_t hRt] at hcM6
  have q7 := qk_trm q2 kq7 (by decide +kernel)
  have f6 : ∀ a, a ≠ 0 → (a < 200 ∨ 204 < a) → M6 a = M0 a := fun a h1 h2 => (kq7.2.2 a (by simp only [List.mem_cons, List.not_mem_nil, or_false]; omega)).trans (f1 a h1)
  have f60 : M6 0 = M1 0 := kq7.2.2 0 (by decide)
  refine rr_cV2 pf_55_30 po_55 pc_8_205 (ws_200 hW) po_57 (by decide) rfl hcM6 ?_
  refine rr_if_ne 43 pf_55_33 (by decide) (by unfold rg; omega) (fun c8 => ?_) (fun c8 => by exfalso; omega)
  refine rr_aload_n pf_55_43 rfl ?_
  refine rr_getR pf_55_44 po_55 pg_8_21 rfl (ws_0 hW) (by decide) (wr_0_1 q7.1) ?_
  refine rr_getI pf_55_47 po_55 pg_8_202 rfl (ws_3 hW) (by decide) ?_
  rw [f6 3 (by decide) (by omega), hn9]
  refine rr_istore_n pf_55_50 (fun y => [.ref 0, .int (iI (y3)), .int (iI y)]) (Nat.le_of_ble_eq_true rfl) (fun _ => rfl) (fun y9 hy9 => ?_)
  refine rr_aload_n pf_55_51 rfl ?_
  refine rr_getR pf_55_52 po_55 pg_8_21 rfl (ws_0 hW) (by decide) (wr_0_1 q7.1) ?_
  refine rr_getR pf_55_55 po_55 pg_8_209 rfl (ws_3 hW) (by decide) (wr_3_4 q7.1) ?_
  refine rr_iload_n pf_55_58 rfl ?_
  refine rr_aload_n pf_55_59 rfl ?_
  refine rr_getR pf_55_60 po_55 pg_8_70 rfl (ws_0 hW) (by decide) (wr_0_9 q7.1) ?_
  refine rr_getR pf_55_63 po_55 pg_8_213 rfl (ws_200 hW) (by decide) (wr_200_0 q7.1) ?_
  have hsz : R.2.1.sz ≤ 400 := pS.zb
  have h015 : M6 201 5 = 0 ∨ M6 201 5 = 1 := by rw [pS.b]; exact pS.2.2.2.2.2.2.2.2.2.2.2.2
  obtain ⟨M8, ⟨t1, t2, ⟨t3, t4, t5, t6⟩, t7, t8, t9⟩, hcM8⟩ := ct_Text_trimmed (xs := xs) (L := L) (d := d) (by omega) hW q7.1 hsz pc12 pS.z pS.2.2.2.2.2.2.2.2.2.2.2.1 h015
  refine rr_cV0 pf_55_66 po_55 pc_8_217 (ws_201 hW) po_91 (by decide) rfl hcM8 ?_
  obtain ⟨g0, g1, g2, g3⟩ := shT_g (sh := sh) (sz := R.2.1.sz) (cl := R.2.2.1)
  have hW2 : px_W0 <+: shT sh R.2.1.sz R.2.2.1 := W_shT hW
  have F8 : px_Fx M8 := fx_old q7.1 (fun a ha => t1 a (by omega))
  have G8 := rg_new hW q7.2.1 hlen hsz pc12 h015 t1 t2 ⟨t3, t4, t5, t6⟩ t7 t8 t9
  refine rr_aast pf_55_69 (ws_11 hW2) (by omega) (by omega) (by unfold rg; omega) (by decide) (by show px_eok 13 (.ref sh.length) _ = true; unfold px_eok; simp only [g0]; rfl) (fun M9 e9 => ?_)
  have F9 : px_Fx M9 := by rw [e9]; exact fx_laws F8
  have G9 : px_RG (shT sh R.2.1.sz R.2.2.1) M9 := by rw [e9]; exact rg_put G8 (by unfold rg; omega)
  refine rr_aload_n pf_55_70 rfl ?_
  refine rr_getR pf_55_71 po_55 pg_8_21 rfl (ws_0 hW2) (by decide) (wr_0_1 F9) ?_
  refine rr_dup pf_55_74 rfl ?_
  refine rr_getI pf_55_75 po_55 pg_8_202 rfl (ws_3 hW2) (by decide) ?_
  rw [show M9 3 = M0 3 by rw [e9, ask_ne (by decide), t1 3 (by omega), f6 3 (by decide) (by omega)], hn9]
  refine rr_iconst pf_55_78 ?_
  refine rr_iadd pf_55_79 ?_
  refine rr_putI pf_55_80 po_55 pg_8_202 (Or.inl rfl) rfl (ws_3 hW2) (by decide) (by unfold rg; omega) (fun M10 e10 => ?_)
  have F10 : px_Fx M10 := by rw [e10]; exact fx_count F9
  have G10 : px_RG (shT sh R.2.1.sz R.2.2.1) M10 := by rw [e10]; exact rg_put G9 (by unfold rg; omega)
  refine rr_aload_n pf_55_83 rfl ?_
  refine rr_iload_n pf_55_84 rfl ?_
  obtain ⟨rv, M11, ⟨kq, prv, pr13, prf⟩, hcM11⟩ := ct_S_accept (xs := xs) (L := L) (d := d) (u := y9) (by omega) hW2 F10 G10 (by unfold rg; omega)
  refine rr_cV1 pf_55_85 po_55 pc_8_115 (ws_0 hW2) po_15 (by decide) rfl hcM11 ?_
  have fa : ∀ a, a ≠ 0 → M11 a = M10 a := fun a h1 => kq.2.2 a (by simp only [List.mem_cons, List.not_mem_nil, or_false]; exact h1)
  have fb : ∀ a, a ≠ 0 → a ≠ 3 → a ≠ 11 → M11 a = M8 a := fun a h1 h2 h3 => by rw [fa a h1, e10, ask_ne h2, e9, ask_ne h3]
  have fz0 : M10 0 = M1 0 := by rw [e10, ask_ne (by decide), e9, ask_ne (by decide), t1 0 (by omega), f60]
  refine rr_iret pf_55_88 pt_55 ⟨by rw [prv, hy9], M11, rfl, ⟨kq.1, kq.2.1⟩, fun a h1 h2 h3 h4 h5 => ?_, fun j => ?_, fun j => ?_, ⟨?_, pr13, fun j hj => ?_⟩, ?_, ⟨?_, ?_⟩, ⟨hsz, pc12⟩, ?_, ?_, fun j hj => ⟨?_, ?_⟩, fun j hj => ?_⟩
  · rw [fb a h2 h3 h4, t1 a h1, f6 a h2 h5]
  · rw [fa 3 (by decide), e10, ask_up, e9, ask_ne (by decide), t1 3 (by omega), f6 3 (by decide) (by omega)]
  · rw [fa 11 (by decide), e10, ask_ne (by decide), e9, ask_up, t1 11 (by omega), f6 11 (by decide) (by omega)]
    by_cases z : j = n
    · rw [if_pos z, if_pos (by omega)]
    · rw [if_neg z, if_neg (by omega)]
  · rw [prf 11 (by decide), fz0]; exact p11
  · rw [prf j (fun z => hj (by simp only [List.mem_cons, List.not_mem_nil, or_false] at z ⊢; omega)), fz0]; exact ptf j (fun z => hj (by simp only [List.mem_cons, List.not_mem_nil, or_false] at z ⊢; omega))
  · rw [fb 200 (by decide) (by decide) (by decide), t1 200 (by omega)]; exact pS.2.2.2.2.2.2.2.2.1
  · rw [fb 202 (by decide) (by decide) (by decide), t1 202 (by omega)]; exact pS.2.2.2.2.2.1
  · rw [fb 203 (by decide) (by decide) (by decide), t1 203 (by omega)]; exact pS.2.2.2.2.2.2.1
  · exact tx_new hW hsz pc12 (by rw [fb _ (by omega) (by omega) (by omega)]; exact t2)
  · rw [fb _ (by omega) (by omega) (by omega)]; exact t4
  · rw [fb _ (by omega) (by omega) (by omega), t7 j, if_pos hj, pS.2.2.2.2.2.1]
  · rw [fb _ (by omega) (by omega) (by omega), t8 j, if_pos hj, pS.2.2.2.2.2.2.1]
  · rw [fb _ (by omega) (by omega) (by omega), t9 j, if_pos hj, pg]
