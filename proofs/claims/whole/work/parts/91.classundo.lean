/-! the class: undo, images, years -/
theorem rc_nv {M M2 : Nat → Nat → Int} (h3 : M2 3 = M 3) (h8 : M2 8 = M 8) (h9 : M2 9 = M 9) (h10 : M2 10 = M 10) {j : Nat} (hj : ¬ nj j) : rc M2 3 j = rc M 3 j := by
  unfold nj at hj
  unfold rc
  show (if j = 0 then M2 3 6 else if j = 1 then M2 3 7 else if j = 2 then M2 3 8 else if j = 3 then M2 3 9 else if j = 4 then M2 3 10 else if j = 5 then M2 4 4 else if j = 6 then M2 3 11 else if j = 7 then M2 3 12 else if j = 8 then M2 4 3 else if j < 57 then M2 5 (j - 9) else if j < 63 then M2 7 (j - 57) else if j < 69 then M2 6 (j - 63) else if j < 77 then M2 8 (j - 69) else if j < 85 then M2 9 (j - 77) else if j < 109 then M2 10 (j - 85) else 0) = _
  rw [h3, h8, h9, h10]
  repeat' (refine ite_c (fun _ => ?_) (fun _ => ?_))
  all_goals first | rfl | (exfalso; omega)
theorem ctl_pop {M M2 : Nat → Nat → Int} {tb : Nat} {t2 : sp_T} {e : Int × (Nat → Int)} (h : ctlR M tb (t2 ++ [e])) (e0 : M2 tb = px_up M tb 3 (M tb 3 - 1) tb) (q : ∀ a, tb < a → a < tb + 71 → M2 a = M a) : ctlR M2 tb t2 := by
  obtain ⟨h1, h2, h3, h4⟩ := h
  rw [List.length_append, List.length_singleton] at h2 h3
  have f2 : M2 tb 2 = M tb 2 := by rw [e0, up_ne (by decide)]
  have f3 : M2 tb 3 = M tb 3 - 1 := by rw [e0, up_s]
  have sl : ∀ k, tr_sl M2 tb k = tr_sl M tb k := fun k => by unfold tr_sl; rw [f2]
  refine ⟨⟨by rw [f2]; exact h1.1, by rw [f3]; omega⟩, by rw [f3]; omega, by omega, fun k hk => ?_⟩
  obtain ⟨x, g1, g2, g3⟩ := h4 k (by rw [List.length_append]; omega)
  refine ⟨x, by rw [List.getElem?_append_left hk] at g1; exact g1, by rw [q _ (by omega) (by omega), sl]; exact g2, fun j hj => ?_⟩
  have hs := sl_lt (M := M) (tb := tb) k
  rw [sl, nn_eq (M := M) (fun i hi => q _ (by omega) (by omega))]
  exact g3 j hj
theorem ctl_last {M : Nat → Nat → Int} {tb : Nat} {t2 : sp_T} {e : Int × (Nat → Int)} (h : ctlR M tb (t2 ++ [e])) : (M tb 3).toNat - 1 = t2.length ∧ 0 < M tb 3 ∧ M (tb + 2) (tr_sl M tb t2.length) = e.1 ∧ ∀ j, nj j → nn M (tb + 3 + 4 * tr_sl M tb t2.length) j = e.2 j := by
  obtain ⟨h1, h2, h3, h4⟩ := h
  rw [List.length_append, List.length_singleton] at h2 h3
  obtain ⟨x, g1, g2, g3⟩ := h4 t2.length (by rw [List.length_append, List.length_singleton]; omega)
  rw [List.getElem?_append_right (Nat.le_refl _), Nat.sub_self] at g1
  have : e = x := Option.some.inj g1
  subst this
  exact ⟨by omega, by omega, g2, g3⟩
theorem ct_S_undo0 {xs : Nat → Int} {L d : Nat} {sh : List (Nat × Nat)} {M0 : Nat → Nat → Int} (hd : 4 ≤ d) (hW : px_W0 <+: sh) (hF : px_Fx M0) (hG : px_RG sh M0)  (hrc : ∀ j, j < 5 → 0 ≤ M0 205 j ∧ M0 205 j ≤ 1000000000) (hctl : ctlR M0 27 []) : ∃ v M, (px_qk sh [0, 205] M0 M ∧ (v = -3) ∧ (M 0 13 = -3) ∧ (M 205 = bmC (M0 205) (-3)) ∧ (fk 0 [13] M0 M)) ∧ px_Cl xs L d 118 [.ref 0] (sh, M0) (some (.int (iI v))) (sh, M) := by
  obtain ⟨d, rfl⟩ : ∃ e, d = e + 1 := ⟨d - 1, by omega⟩
  have q0 : px_qk sh [0, 205] M0 M0 := ⟨hF, hG, eo_rf⟩
  refine vc_i (Nat.le_of_ble_eq_true rfl) ?_
  show px_R xs L d 118 (0, [.ref 0, px_jk], [], (sh, M0)) (fun r h' => ∃ v M', r = some (.int (iI v)) ∧ h' = (sh, M') ∧ px_qk sh [0, 205] M0 M' ∧ v = -3 ∧ M' 0 13 = -3 ∧ M' 205 = bmC (M0 205) (-3) ∧ fk 0 [13] M0 M')
  refine rr_aload_n pf_118_0 rfl ?_
  refine rr_getR pf_118_1 po_118 pg_8_39 rfl (ws_0 hW) (by decide) (wr_0_5 q0.1) ?_
  refine rr_aload_n pf_118_4 rfl ?_
  refine rr_getR pf_118_5 po_118 pg_8_21 rfl (ws_0 hW) (by decide) (wr_0_1 q0.1) ?_
  refine rr_getR pf_118_8 po_118 pg_8_131 rfl (ws_3 hW) (by decide) (wr_3_0 q0.1) ?_
  refine rr_cV1 pf_118_11 po_118 pc_8_270 (ws_27 hW) po_119 (by decide) rfl (ct_Trail_takeLatest0 (xs := xs) (L := L) (d := d) (tb := 27) (nb := 4) (by omega) hW q0.1 q0.2.1 px_tr27 hctl.1 hctl.2.1) ?_
  refine rr_istore_n pf_118_14 (fun y => [.ref 0, .int (iI (y))]) (Nat.le_of_ble_eq_true rfl) (fun _ => rfl) (fun y1 hy1 => ?_)
  refine rr_iload_n pf_118_15 rfl ?_
  refine rr_iconst pf_118_16 ?_
  refine rr_icmp_ne 29 pf_118_17 (by decide) (by unfold rg; omega) (by unfold rg; omega) (fun c2 => ?_) (fun c2 => ?_)
  · exfalso; omega
  · refine rr_aload_n pf_118_20 rfl ?_
    refine rr_bipush pf_118_21 (by decide) ?_
    obtain ⟨r5, M3, ⟨kq4, pv_M3, p13_M3, p5_M3, pf_M3⟩, hcM3⟩ := ct_S_refuse (xs := xs) (L := L) (d := d) (u := (-3)) (by omega) hW q0.1 q0.2.1 (by omega) hrc
    have q4 := qk_trm q0 kq4 (by decide)
    have rq6 := fk_tr (fk_rf 0 [13] M0) pf_M3 (by decide)
    refine rr_cV1 pf_118_23 po_118 pc_8_99 (ws_0 hW) po_13 (by decide) rfl hcM3 ?_
    refine rr_goto 34 pf_118_26 (by decide) ?_
    refine rr_iret pf_118_34 pt_118 ⟨_, M3, rfl, rfl, q4, (pv_M3), (p13_M3), (p5_M3), (rq6)⟩
theorem ct_S_undo1 {xs : Nat → Int} {L d : Nat} {sh : List (Nat × Nat)} {M0 : Nat → Nat → Int} (hd : 4 ≤ d) (hW : px_W0 <+: sh) (hF : px_Fx M0) (hG : px_RG sh M0)  (hrc : ∀ j, j < 5 → 0 ≤ M0 205 j ∧ M0 205 j ≤ 1000000000) {t2 : sp_T} {e : Int × (Nat → Int)} (hctl : ctlR M0 27 (t2 ++ [e])) (hk : 0 ≤ e.1 ∧ e.1 ≤ 4) : ∃ v M, (px_qk sh [0, 4, 5, 6, 7, 27, 205] M0 M ∧ (v = e.1) ∧ (rc M 3 = fun j => if (j = 5 ∨ 8 ≤ j) ∧ j < 69 then e.2 j else rc M0 3 j) ∧ (ctlR M 27 t2) ∧ (M 0 13 = 0) ∧ (M 205 = M0 205) ∧ (fk 0 [13] M0 M)) ∧ px_Cl xs L d 118 [.ref 0] (sh, M0) (some (.int (iI v))) (sh, M) := by
  obtain ⟨d, rfl⟩ : ∃ e, d = e + 1 := ⟨d - 1, by omega⟩
  have q0 : px_qk sh [0, 4, 5, 6, 7, 27, 205] M0 M0 := ⟨hF, hG, eo_rf⟩
  refine vc_i (Nat.le_of_ble_eq_true rfl) ?_
  show px_R xs L d 118 (0, [.ref 0, px_jk], [], (sh, M0)) (fun r h' => ∃ v M', r = some (.int (iI v)) ∧ h' = (sh, M') ∧ px_qk sh [0, 4, 5, 6, 7, 27, 205] M0 M' ∧ v = e.1 ∧ (rc M' 3 = fun j => if (j = 5 ∨ 8 ≤ j) ∧ j < 69 then e.2 j else rc M0 3 j) ∧ ctlR M' 27 t2 ∧ M' 0 13 = 0 ∧ M' 205 = M0 205 ∧ fk 0 [13] M0 M')
  refine rr_aload_n pf_118_0 rfl ?_
  refine rr_getR pf_118_1 po_118 pg_8_39 rfl (ws_0 hW) (by decide) (wr_0_5 q0.1) ?_
  refine rr_aload_n pf_118_4 rfl ?_
  refine rr_getR pf_118_5 po_118 pg_8_21 rfl (ws_0 hW) (by decide) (wr_0_1 q0.1) ?_
  refine rr_getR pf_118_8 po_118 pg_8_131 rfl (ws_3 hW) (by decide) (wr_3_0 q0.1) ?_
  obtain ⟨hl1, hl2, hl3, hl4⟩ := ctl_last hctl
  obtain ⟨M1, ⟨kq2, puM1, pnM1⟩, hcM1⟩ := ct_Trail_takeLatest (xs := xs) (L := L) (d := d) (tb := 27) (nb := 4) (by omega) hW q0.1 q0.2.1 px_tr27 hctl.1 hl2 (show px_nv 4 by unfold px_nv; decide) (by omega)
  rw [hl1, hl3] at hcM1
  rw [hl1] at pnM1
  have q2 := qk_trm q0 kq2 (by decide)
  have rq3 := fk_q (fk_rf 0 [13] M0) kq2 (by decide)
  have e4 : M1 205 = M0 205 := (kq2.2.2 205 (by decide)).trans (rfl : M0 205 = M0 205)
  have hT := ctl_pop hctl puM1 (fun a h1 h2 => kq2.2.2 a (fun z => by
    simp only [List.mem_cons, List.not_mem_nil, or_false] at z
    omega))
  have hR : rc M1 3 = fun j => if (j = 5 ∨ 8 ≤ j) ∧ j < 69 then e.2 j else rc M0 3 j := by
    funext j
    by_cases hj : nj j
    · rw [nn_rc (cb := 3) hj, if_pos (show (j = 5 ∨ 8 ≤ j) ∧ j < 69 from hj)]; exact (pnM1 j hj).trans (hl4 j hj)
    · rw [if_neg (show ¬ ((j = 5 ∨ 8 ≤ j) ∧ j < 69) from hj)]; exact rc_nv (kq2.2.2 3 (by decide)) (kq2.2.2 8 (by decide)) (kq2.2.2 9 (by decide)) (kq2.2.2 10 (by decide)) hj
  refine rr_cV1 pf_118_11 po_118 pc_8_270 (ws_27 hW) po_119 (by decide) rfl hcM1 ?_
  refine rr_istore_n pf_118_14 (fun y => [.ref 0, .int (iI (y))]) (Nat.le_of_ble_eq_true rfl) (fun _ => rfl) (fun y5 hy5 => ?_)
  refine rr_iload_n pf_118_15 rfl ?_
  refine rr_iconst pf_118_16 ?_
  refine rr_icmp_ne 29 pf_118_17 (by decide) (by unfold rg; omega) (by unfold rg; omega) (fun c6 => ?_) (fun c6 => ?_)
  · refine rr_aload_n pf_118_29 rfl ?_
    refine rr_iload_n pf_118_30 rfl ?_
    obtain ⟨r9, M7, ⟨kq8, pv_M7, p13_M7, pf_M7⟩, hcM7⟩ := ct_S_accept (xs := xs) (L := L) (d := d) (u := y5) (by omega) hW q2.1 q2.2.1 (by unfold rg; omega)
    have q8 := qk_trm q2 kq8 (by decide)
    have rq10 := fk_tr rq3 pf_M7 (by decide)
    have e11 : M7 205 = M0 205 := (kq8.2.2 205 (by decide)).trans e4
    refine rr_cV1 pf_118_31 po_118 pc_8_115 (ws_0 hW) po_15 (by decide) rfl hcM7 ?_
    refine rr_iret pf_118_34 pt_118 ⟨_, M7, rfl, rfl, q8, (pv_M7.trans (by omega)), (by rw [rc_eo kq8.2.2 (by decide)]; exact hR), (by
              exact ctl_eq hT (fun a h1 h2 => kq8.2.2 a (fun z => by
                simp only [List.mem_cons, List.not_mem_nil, or_false] at z
                omega))), (p13_M7), (e11), (rq10)⟩
  · exfalso; omega
theorem lw_copy {sh : List (Nat × Nat)} {M M2 : Nat → Nat → Int} {cb c2 : Nat} {A : List Nat} {lw : List sp_C} (h : px_lw sh M c2 lw) (er : rc M2 cb = rc M c2) (el : ∀ n, n < 6 → M2 (cb + 8) n = M (c2 + 8) n) (he : px_eo A M M2) (hA : ∀ a ∈ A, a < 264 ∧ (a < 201 ∨ 204 < a)) : px_lw sh M2 cb lw := by
  have e4 : M2 cb 10 = M c2 10 := congrFun er 4
  have e3 : M2 cb 9 = M c2 9 := congrFun er 3
  refine ⟨?_, h.2⟩
  rcases h.1 with ⟨q1, q2⟩ | ⟨n, t, N, C, q1, q2, q3, q4, q5⟩
  · exact Or.inl ⟨e4.trans q1, q2⟩
  · refine Or.inr ⟨n, t, N, C, e4.trans q1, by rw [e3]; exact q2, q3, (el n q3).trans q4, den_eq q5 (fun i hi => he _ (fun z => ?_))⟩
    have h1 := hA _ z
    have h2 := q5.1.2.2.2.2.2.2.2.2.2
    omega
theorem ct_S_yearsX {xs : Nat → Int} {L d : Nat} {sh : List (Nat × Nat)} {M0 : Nat → Nat → Int} (hd : 4 ≤ d) (hW : px_W0 <+: sh) (hF : px_Fx M0) (hG : px_RG sh M0)  (hrc : ∀ j, j < 5 → 0 ≤ M0 205 j ∧ M0 205 j ≤ 1000000000) {s n : Int} (hs0 : rg s) (hn0 : rg n) (hx : ¬ ((0 ≤ s ∧ s ≤ 1000000) ∧ 1 ≤ n ∧ n ≤ 60)) : ∃ v M, (px_qk sh [0, 205] M0 M ∧ (v = -1) ∧ (M 0 13 = -1) ∧ (M 205 = bmC (M0 205) (-1)) ∧ (fk 0 [13] M0 M)) ∧ px_Cl xs L d 166 [.ref 0, .int (iI (s)), .int (iI (n))] (sh, M0) (some (.int (iI v))) (sh, M) := by
  obtain ⟨d, rfl⟩ : ∃ e, d = e + 1 := ⟨d - 1, by omega⟩
  have q0 : px_qk sh [0, 205] M0 M0 := ⟨hF, hG, eo_rf⟩
  refine vc_i (Nat.le_of_ble_eq_true rfl) ?_
  show px_R xs L d 166 (0, [.ref 0, .int (iI (s)), .int (iI (n))], [], (sh, M0)) (fun r h' => ∃ v M', r = some (.int (iI v)) ∧ h' = (sh, M') ∧ px_qk sh [0, 205] M0 M' ∧ v = -1 ∧ M' 0 13 = -1 ∧ M' 205 = bmC (M0 205) (-1) ∧ fk 0 [13] M0 M')
  refine rr_iload_n pf_166_0 rfl ?_
  refine rr_iconst pf_166_1 ?_
  refine rr_ldc_w pf_166_2 po_166 pk_8_346 ?_
  refine rr_cS3 pf_166_5 po_166 pc_8_95 (by decide) rfl (ct_S_within (by omega) hs0 (by unfold rg; omega) (by unfold rg; omega)) ?_
  refine rr_ifb_eq 21 pf_166_8 (by decide) (fun c1 => ?_) (fun c1 => ?_)
  · refine rr_aload_n pf_166_21 rfl ?_
    refine rr_iconst pf_166_22 ?_
    obtain ⟨r4, M2, ⟨kq3, pv_M2, p13_M2, p5_M2, pf_M2⟩, hcM2⟩ := ct_S_refuse (xs := xs) (L := L) (d := d) (u := (-1)) (by omega) hW q0.1 q0.2.1 (by omega) hrc
    have q3 := qk_trm q0 kq3 (by decide)
    have rq5 := fk_tr (fk_rf 0 [13] M0) pf_M2 (by decide)
    refine rr_cV1 pf_166_23 po_166 pc_8_99 (ws_0 hW) po_13 (by decide) rfl hcM2 ?_
    refine rr_iret pf_166_26 pt_166 ⟨_, M2, rfl, rfl, q3, (pv_M2), (p13_M2), (p5_M2), (rq5)⟩
  · refine rr_iload_n pf_166_11 rfl ?_
    refine rr_iconst pf_166_12 ?_
    refine rr_bipush pf_166_13 (by decide) ?_
    refine rr_cS3 pf_166_15 po_166 pc_8_95 (by decide) rfl (ct_S_within (by omega) hn0 (by unfold rg; omega) (by unfold rg; omega)) ?_
    refine rr_ifb_ne 27 pf_166_18 (by decide) (fun c6 => ?_) (fun c6 => ?_)
    · exfalso; omega
    · refine rr_aload_n pf_166_21 rfl ?_
      refine rr_iconst pf_166_22 ?_
      obtain ⟨r9, M7, ⟨kq8, pv_M7, p13_M7, p5_M7, pf_M7⟩, hcM7⟩ := ct_S_refuse (xs := xs) (L := L) (d := d) (u := (-1)) (by omega) hW q0.1 q0.2.1 (by omega) hrc
      have q8 := qk_trm q0 kq8 (by decide)
      have rq10 := fk_tr (fk_rf 0 [13] M0) pf_M7 (by decide)
      refine rr_cV1 pf_166_23 po_166 pc_8_99 (ws_0 hW) po_13 (by decide) rfl hcM7 ?_
      refine rr_iret pf_166_26 pt_166 ⟨_, M7, rfl, rfl, q8, (pv_M7), (p13_M7), (p5_M7), (rq10)⟩
theorem ct_S_years0 {xs : Nat → Int} {L d : Nat} {sh : List (Nat × Nat)} {M0 : Nat → Nat → Int} (hd : 4 ≤ d) (hW : px_W0 <+: sh) (hF : px_Fx M0) (hG : px_RG sh M0)  (hrc : ∀ j, j < 5 → 0 ≤ M0 205 j ∧ M0 205 j ≤ 1000000000) {s n : Int} (hs0 : 0 ≤ s ∧ s ≤ 1000000) (hn0 : 1 ≤ n ∧ n ≤ 60) (h0w : rc M0 3 0 = 0) : ∃ v M, (px_qk sh [0, 205] M0 M ∧ (v = -3) ∧ (M 0 13 = -3) ∧ (M 205 = bmC (M0 205) (-3)) ∧ (fk 0 [13] M0 M)) ∧ px_Cl xs L d 166 [.ref 0, .int (iI (s)), .int (iI (n))] (sh, M0) (some (.int (iI v))) (sh, M) := by
  obtain ⟨d, rfl⟩ : ∃ e, d = e + 1 := ⟨d - 1, by omega⟩
  have q0 : px_qk sh [0, 205] M0 M0 := ⟨hF, hG, eo_rf⟩
  refine vc_i (Nat.le_of_ble_eq_true rfl) ?_
  show px_R xs L d 166 (0, [.ref 0, .int (iI (s)), .int (iI (n))], [], (sh, M0)) (fun r h' => ∃ v M', r = some (.int (iI v)) ∧ h' = (sh, M') ∧ px_qk sh [0, 205] M0 M' ∧ v = -3 ∧ M' 0 13 = -3 ∧ M' 205 = bmC (M0 205) (-3) ∧ fk 0 [13] M0 M')
  refine rr_iload_n pf_166_0 rfl ?_
  refine rr_iconst pf_166_1 ?_
  refine rr_ldc_w pf_166_2 po_166 pk_8_346 ?_
  refine rr_cS3 pf_166_5 po_166 pc_8_95 (by decide) rfl (ct_S_within (by omega) (by unfold rg; omega) (by unfold rg; omega) (by unfold rg; omega)) ?_
  refine rr_ifb_eq 21 pf_166_8 (by decide) (fun c1 => ?_) (fun c1 => ?_)
  · exfalso; omega
  · refine rr_iload_n pf_166_11 rfl ?_
    refine rr_iconst pf_166_12 ?_
    refine rr_bipush pf_166_13 (by decide) ?_
    refine rr_cS3 pf_166_15 po_166 pc_8_95 (by decide) rfl (ct_S_within (by omega) (by unfold rg; omega) (by unfold rg; omega) (by unfold rg; omega)) ?_
    refine rr_ifb_ne 27 pf_166_18 (by decide) (fun c2 => ?_) (fun c2 => ?_)
    · refine rr_aload_n pf_166_27 rfl ?_
      refine rr_getR pf_166_28 po_166 pg_8_21 rfl (ws_0 hW) (by decide) (wr_0_1 q0.1) ?_
      refine vr_getI q0 pf_166_31 po_166 pg_8_103 rfl (ws_3 hW) (by decide) (fun x3 hx3 rx3 => ?_)
      change x3 = rc M0 3 0 at hx3
      refine rr_if_ne 44 pf_166_34 (by decide) rx3 (fun c4 => ?_) (fun c4 => ?_)
      · exfalso; omega
      · refine rr_aload_n pf_166_37 rfl ?_
        refine rr_bipush pf_166_38 (by decide) ?_
        obtain ⟨r7, M5, ⟨kq6, pv_M5, p13_M5, p5_M5, pf_M5⟩, hcM5⟩ := ct_S_refuse (xs := xs) (L := L) (d := d) (u := (-3)) (by omega) hW q0.1 q0.2.1 (by omega) hrc
        have q6 := qk_trm q0 kq6 (by decide)
        have rq8 := fk_tr (fk_rf 0 [13] M0) pf_M5 (by decide)
        refine rr_cV1 pf_166_40 po_166 pc_8_99 (ws_0 hW) po_13 (by decide) rfl hcM5 ?_
        refine rr_iret pf_166_43 pt_166 ⟨_, M5, rfl, rfl, q6, (pv_M5), (p13_M5), (p5_M5), (rq8)⟩
    · exfalso; omega
theorem live_b (lw : List sp_C) {ρ : Nat → Int} (hρ : sp_ok ρ) {n : Nat} {s : Int} (hn : n ≤ 60) : 0 ≤ (sp_live lw n s ρ 0).2 ∧ (sp_live lw n s ρ 0).2 ≤ 60 := by
  have key : ∀ (n : Nat) (s : Int) (ρ : Nat → Int) (c : Int), c ≤ (sp_live lw n s ρ c).2 ∧ (sp_live lw n s ρ c).2 ≤ c + n := by
    intro n
    induction n with
    | zero => intro s ρ c; simp [sp_live]
    | succ n ih =>
      intro s ρ c
      rw [sp_live]
      split
      · have := ih (nx (nx (nx s))) (sp_lvR lw ρ s) (c + sp_lvC lw ρ s)
        have hc : 0 ≤ sp_lvC lw ρ s ∧ sp_lvC lw ρ s ≤ 1 := by unfold sp_lvC; split <;> omega
        omega
      · simp; omega
  have := key n s ρ 0
  omega
theorem lOK_q {sh : List (Nat × Nat)} {A : List Nat} {M M2 : Nat → Nat → Int} {cb : Nat} (h : px_lOK sh M cb) (q : px_qk sh A M M2) (ha : cb + 8 ∉ A) : px_lOK sh M2 cb := by unfold px_lOK; rw [q.2.2 _ ha]; exact h
theorem ct_S_years1 {xs : Nat → Int} {L d : Nat} {sh : List (Nat × Nat)} {M0 : Nat → Nat → Int} (hd : 10 ≤ d) (hW : px_W0 <+: sh) (hF : px_Fx M0) (hG : px_RG sh M0)  (hρ : sp_ok (rc M0 3)) {lw : List sp_C} (hlw : px_lw sh M0 3 lw) (hrc : ∀ j, j < 5 → 0 ≤ M0 205 j ∧ M0 205 j ≤ 1000000000) (hok : px_lOK sh M0 3) {s n : Int} (hs0 : 0 ≤ s ∧ s ≤ 1000000) (hn0 : 1 ≤ n ∧ n ≤ 60) (h0w : 0 < rc M0 3 0) : ∃ v M, (px_qk sh [0, 2, 205, 14, 15, 16, 17, 18, 19, 20, 21, 22, 23, 24] M0 M ∧ (v = (sp_live lw n.toNat s (rc M0 3) 0).2) ∧ (rc M 14 = (sp_live lw n.toNat s (rc M0 3) 0).1) ∧ (M 0 14 = 1) ∧ (M 0 13 = 0) ∧ (M 205 = M0 205) ∧ (fk 0 [13, 14] M0 M)) ∧ px_Cl xs L d 166 [.ref 0, .int (iI (s)), .int (iI (n))] (sh, M0) (some (.int (iI v))) (sh, M) := by
  obtain ⟨d, rfl⟩ : ∃ e, d = e + 1 := ⟨d - 1, by omega⟩
  have q0 : px_qk sh [0, 2, 205, 14, 15, 16, 17, 18, 19, 20, 21, 22, 23, 24] M0 M0 := ⟨hF, hG, eo_rf⟩
  refine vc_i (Nat.le_of_ble_eq_true rfl) ?_
  show px_R xs L d 166 (0, [.ref 0, .int (iI (s)), .int (iI (n))], [], (sh, M0)) (fun r h' => ∃ v M', r = some (.int (iI v)) ∧ h' = (sh, M') ∧ px_qk sh [0, 2, 205, 14, 15, 16, 17, 18, 19, 20, 21, 22, 23, 24] M0 M' ∧ v = (sp_live lw n.toNat s (rc M0 3) 0).2 ∧ rc M' 14 = (sp_live lw n.toNat s (rc M0 3) 0).1 ∧ M' 0 14 = 1 ∧ M' 0 13 = 0 ∧ M' 205 = M0 205 ∧ fk 0 [13, 14] M0 M')
  refine rr_iload_n pf_166_0 rfl ?_
  refine rr_iconst pf_166_1 ?_
  refine rr_ldc_w pf_166_2 po_166 pk_8_346 ?_
  refine rr_cS3 pf_166_5 po_166 pc_8_95 (by decide) rfl (ct_S_within (by omega) (by unfold rg; omega) (by unfold rg; omega) (by unfold rg; omega)) ?_
  refine rr_ifb_eq 21 pf_166_8 (by decide) (fun c1 => ?_) (fun c1 => ?_)
  · exfalso; omega
  · refine rr_iload_n pf_166_11 rfl ?_
    refine rr_iconst pf_166_12 ?_
    refine rr_bipush pf_166_13 (by decide) ?_
    refine rr_cS3 pf_166_15 po_166 pc_8_95 (by decide) rfl (ct_S_within (by omega) (by unfold rg; omega) (by unfold rg; omega) (by unfold rg; omega)) ?_
    refine rr_ifb_ne 27 pf_166_18 (by decide) (fun c2 => ?_) (fun c2 => ?_)
    · refine rr_aload_n pf_166_27 rfl ?_
      refine rr_getR pf_166_28 po_166 pg_8_21 rfl (ws_0 hW) (by decide) (wr_0_1 q0.1) ?_
      refine vr_getI q0 pf_166_31 po_166 pg_8_103 rfl (ws_3 hW) (by decide) (fun x3 hx3 rx3 => ?_)
      change x3 = rc M0 3 0 at hx3
      refine rr_if_ne 44 pf_166_34 (by decide) rx3 (fun c4 => ?_) (fun c4 => ?_)
      · refine rr_aload_n pf_166_44 rfl ?_
        refine rr_getR pf_166_45 po_166 pg_8_25 rfl (ws_0 hW) (by decide) (wr_0_2 q0.1) ?_
        refine rr_aload_n pf_166_48 rfl ?_
        refine rr_getR pf_166_49 po_166 pg_8_21 rfl (ws_0 hW) (by decide) (wr_0_1 q0.1) ?_
        obtain ⟨M5, ⟨kq6, prM5, plM5⟩, hcM5⟩ := ct_Church_copyFrom (xs := xs) (L := L) (d := d) (cb := 14) (c2 := 3) (by omega) hW q0.1 q0.2.1 (show px_ch 14 by unfold px_ch; decide) (show px_ch 3 by unfold px_ch; decide) (by decide) hok
        have q6 := qk_trm q0 kq6 (by decide)
        have rq7 := fk_q (fk_rf 0 [13, 14] M0) kq6 (by decide)
        have e8 : M5 205 = M0 205 := (kq6.2.2 205 (by decide)).trans (rfl : M0 205 = M0 205)
        refine rr_cV1 pf_166_52 po_166 pc_8_347 (ws_14 hW) po_152 (by decide) rfl hcM5 ?_
        refine rr_aload_n pf_166_55 rfl ?_
        refine rr_iconst pf_166_56 ?_
        refine vr_putZ hW q6 pf_166_57 po_166 pg_8_87 (Or.inl rfl) rfl (ws_0 hW) (by decide) (by omega) (by decide) (fun M9 eM9 q10 => ?_)
        have rq11 := fk_up rq7 eM9 (by decide)
        have e12 : M9 205 = M0 205 := (show M9 205 = M5 205 by rw [eM9, ask_ne (by decide)]).trans e8
        refine rr_aload_n pf_166_60 rfl ?_
        refine rr_aload_n pf_166_61 rfl ?_
        refine rr_getR pf_166_62 po_166 pg_8_25 rfl (ws_0 hW) (by decide) (wr_0_2 q10.1) ?_
        refine rr_iload_n pf_166_65 rfl ?_
        refine rr_iload_n pf_166_66 rfl ?_
        have eW : M9 = px_up M5 0 14 1 := eM9
        have er : rc M9 14 = rc M0 3 := by rw [rc_eo (M := M5) (A := [0]) (fun a ha => by rw [eM9, ask_ne (fun z => ha (by rw [z]; exact List.mem_cons_self))]) (by decide)]; exact prM5
        have el : ∀ n, n < 6 → M9 (14 + 8) n = M0 (3 + 8) n := fun n hn => by rw [eM9, ask_ne (by decide)]; exact plM5 n hn
        have hlw14 : px_lw sh M9 14 lw := lw_copy hlw er el q10.2.2 (by decide)
        obtain ⟨M13, ⟨kq14, prM13⟩, hcM13⟩ := ct_Church_liveYears (xs := xs) (L := L) (d := d) (cb := 14) (s := s) (n := n.toNat) (by omega) hW q10.1 q10.2.1 (show px_ch 14 by unfold px_ch; decide) (by rw [er]; exact hρ) hlw14 (by rw [er]; exact h0w) (by omega) (by omega)
        rw [show ((n.toNat : Nat) : Int) = n by omega] at hcM13
        rw [er] at hcM13 prM13
        obtain ⟨vz, hvz⟩ : ∃ z, z = (sp_live lw n.toNat s (rc M0 3) 0).2 := ⟨_, rfl⟩
        have hvb : 0 ≤ vz ∧ vz ≤ 60 := by rw [hvz]; exact live_b lw hρ (by omega)
        rw [← hvz] at hcM13
        have q14 := qk_trm q10 kq14 (by decide)
        have rq15 := fk_q rq11 kq14 (by decide)
        have e16 : M13 205 = M0 205 := (kq14.2.2 205 (by decide)).trans e12
        refine rr_cV2 pf_166_67 po_166 pc_8_351 (ws_14 hW) po_167 (by decide) rfl hcM13 ?_
        obtain ⟨r19, M17, ⟨kq18, pv_M17, p13_M17, pf_M17⟩, hcM17⟩ := ct_S_accept (xs := xs) (L := L) (d := d) (u := vz) (by omega) hW q14.1 q14.2.1 (by unfold rg; omega)
        have q18 := qk_trm q14 kq18 (by decide)
        have rq20 := fk_tr rq15 pf_M17 (by decide)
        have e21 : M17 205 = M0 205 := (kq18.2.2 205 (by decide)).trans e16
        refine rr_cV1 pf_166_70 po_166 pc_8_115 (ws_0 hW) po_15 (by decide) rfl hcM17 ?_
        refine rr_iret pf_166_73 pt_166 ⟨_, M17, rfl, rfl, q18, (by rw [pv_M17]; exact hvz), (by rw [rc_eo kq18.2.2 (by decide)]; exact prM13), (by rw [pf_M17 14 (by decide), kq14.2.2 0 (by decide), eM9, up_s]), (p13_M17), (e21), (rq20)⟩
      · exfalso; omega
    · exfalso; omega
theorem ct_S_imageX {xs : Nat → Int} {L d : Nat} {sh : List (Nat × Nat)} {M0 : Nat → Nat → Int} (hd : 4 ≤ d) (hW : px_W0 <+: sh) (hF : px_Fx M0) (hG : px_RG sh M0)  (hrc : ∀ j, j < 5 → 0 ≤ M0 205 j ∧ M0 205 j ≤ 1000000000) {k : Int} (hk0 : rg k) (hkx : ¬ (0 ≤ k ∧ k ≤ 1)) : ∃ v M, (px_qk sh [0, 205] M0 M ∧ (v = -1) ∧ (M 0 13 = -1) ∧ (M 205 = bmC (M0 205) (-1)) ∧ (fk 0 [13] M0 M)) ∧ px_Cl xs L d 170 [.ref 0, .int (iI (k))] (sh, M0) (some (.int (iI v))) (sh, M) := by
  obtain ⟨d, rfl⟩ : ∃ e, d = e + 1 := ⟨d - 1, by omega⟩
  have q0 : px_qk sh [0, 205] M0 M0 := ⟨hF, hG, eo_rf⟩
  refine vc_i (Nat.le_of_ble_eq_true rfl) ?_
  show px_R xs L d 170 (0, [.ref 0, .int (iI (k))], [], (sh, M0)) (fun r h' => ∃ v M', r = some (.int (iI v)) ∧ h' = (sh, M') ∧ px_qk sh [0, 205] M0 M' ∧ v = -1 ∧ M' 0 13 = -1 ∧ M' 205 = bmC (M0 205) (-1) ∧ fk 0 [13] M0 M')
  refine rr_iload_n pf_170_0 rfl ?_
  refine rr_iconst pf_170_1 ?_
  refine rr_iconst pf_170_2 ?_
  refine rr_cS3 pf_170_3 po_170 pc_8_95 (by decide) rfl (ct_S_within (by omega) hk0 (by unfold rg; omega) (by unfold rg; omega)) ?_
  refine rr_ifb_ne 15 pf_170_6 (by decide) (fun c1 => ?_) (fun c1 => ?_)
  · exfalso; omega
  · refine rr_aload_n pf_170_9 rfl ?_
    refine rr_iconst pf_170_10 ?_
    obtain ⟨r4, M2, ⟨kq3, pv_M2, p13_M2, p5_M2, pf_M2⟩, hcM2⟩ := ct_S_refuse (xs := xs) (L := L) (d := d) (u := (-1)) (by omega) hW q0.1 q0.2.1 (by omega) hrc
    have q3 := qk_trm q0 kq3 (by decide)
    have rq5 := fk_tr (fk_rf 0 [13] M0) pf_M2 (by decide)
    refine rr_cV1 pf_170_11 po_170 pc_8_99 (ws_0 hW) po_13 (by decide) rfl hcM2 ?_
    refine rr_iret pf_170_14 pt_170 ⟨_, M2, rfl, rfl, q3, (pv_M2), (p13_M2), (p5_M2), (rq5)⟩
theorem ct_S_backX {xs : Nat → Int} {L d : Nat} {sh : List (Nat × Nat)} {M0 : Nat → Nat → Int} (hd : 4 ≤ d) (hW : px_W0 <+: sh) (hF : px_Fx M0) (hG : px_RG sh M0)  (hrc : ∀ j, j < 5 → 0 ≤ M0 205 j ∧ M0 205 j ≤ 1000000000) {k : Int} (hk0 : rg k) (hkx : ¬ (0 ≤ k ∧ k ≤ 1)) : ∃ v M, (px_qk sh [0, 205] M0 M ∧ (v = -1) ∧ (M 0 13 = -1) ∧ (M 205 = bmC (M0 205) (-1)) ∧ (fk 0 [13] M0 M)) ∧ px_Cl xs L d 171 [.ref 0, .int (iI (k))] (sh, M0) (some (.int (iI v))) (sh, M) := by
  obtain ⟨d, rfl⟩ : ∃ e, d = e + 1 := ⟨d - 1, by omega⟩
  have q0 : px_qk sh [0, 205] M0 M0 := ⟨hF, hG, eo_rf⟩
  refine vc_i (Nat.le_of_ble_eq_true rfl) ?_
  show px_R xs L d 171 (0, [.ref 0, .int (iI (k))], [], (sh, M0)) (fun r h' => ∃ v M', r = some (.int (iI v)) ∧ h' = (sh, M') ∧ px_qk sh [0, 205] M0 M' ∧ v = -1 ∧ M' 0 13 = -1 ∧ M' 205 = bmC (M0 205) (-1) ∧ fk 0 [13] M0 M')
  refine rr_iload_n pf_171_0 rfl ?_
  refine rr_iconst pf_171_1 ?_
  refine rr_iconst pf_171_2 ?_
  refine rr_cS3 pf_171_3 po_171 pc_8_95 (by decide) rfl (ct_S_within (by omega) hk0 (by unfold rg; omega) (by unfold rg; omega)) ?_
  refine rr_ifb_ne 15 pf_171_6 (by decide) (fun c1 => ?_) (fun c1 => ?_)
  · exfalso; omega
  · refine rr_aload_n pf_171_9 rfl ?_
    refine rr_iconst pf_171_10 ?_
    obtain ⟨r4, M2, ⟨kq3, pv_M2, p13_M2, p5_M2, pf_M2⟩, hcM2⟩ := ct_S_refuse (xs := xs) (L := L) (d := d) (u := (-1)) (by omega) hW q0.1 q0.2.1 (by omega) hrc
    have q3 := qk_trm q0 kq3 (by decide)
    have rq5 := fk_tr (fk_rf 0 [13] M0) pf_M2 (by decide)
    refine rr_cV1 pf_171_11 po_171 pc_8_99 (ws_0 hW) po_13 (by decide) rfl hcM2 ?_
    refine rr_iret pf_171_14 pt_171 ⟨_, M2, rfl, rfl, q3, (pv_M2), (p13_M2), (p5_M2), (rq5)⟩
theorem ct_S_image0 {xs : Nat → Int} {L d : Nat} {sh : List (Nat × Nat)} {M0 : Nat → Nat → Int} (hd : 4 ≤ d) (hW : px_W0 <+: sh) (hF : px_Fx M0) (hG : px_RG sh M0)  (hrc : ∀ j, j < 5 → 0 ≤ M0 205 j ∧ M0 205 j ≤ 1000000000) (hok : px_lOK sh M0 3) : ∃ v M, (px_qk sh [0, 26, 205, 206, 207, 208, 209, 210, 211, 212, 213, 214] M0 M ∧ (v = 0) ∧ (rc M 206 = rc M0 3) ∧ (∀ n, n < 6 → M (206 + 8) n = M0 (3 + 8) n) ∧ (M 26 = px_up M0 26 0 1 26) ∧ (M 0 13 = 0) ∧ (M 205 = M0 205) ∧ (fk 0 [13] M0 M)) ∧ px_Cl xs L d 170 [.ref 0, .int (iI (0))] (sh, M0) (some (.int (iI v))) (sh, M) := by
  obtain ⟨d, rfl⟩ : ∃ e, d = e + 1 := ⟨d - 1, by omega⟩
  have q0 : px_qk sh [0, 26, 205, 206, 207, 208, 209, 210, 211, 212, 213, 214] M0 M0 := ⟨hF, hG, eo_rf⟩
  refine vc_i (Nat.le_of_ble_eq_true rfl) ?_
  show px_R xs L d 170 (0, [.ref 0, .int (iI (0))], [], (sh, M0)) (fun r h' => ∃ v M', r = some (.int (iI v)) ∧ h' = (sh, M') ∧ px_qk sh [0, 26, 205, 206, 207, 208, 209, 210, 211, 212, 213, 214] M0 M' ∧ v = 0 ∧ rc M' 206 = rc M0 3 ∧ (∀ n, n < 6 → M' (206 + 8) n = M0 (3 + 8) n) ∧ M' 26 = px_up M0 26 0 1 26 ∧ M' 0 13 = 0 ∧ M' 205 = M0 205 ∧ fk 0 [13] M0 M')
  refine rr_iload_n pf_170_0 rfl ?_
  refine rr_iconst pf_170_1 ?_
  refine rr_iconst pf_170_2 ?_
  refine rr_cS3 pf_170_3 po_170 pc_8_95 (by decide) rfl (ct_S_within (by omega) (by unfold rg; omega) (by unfold rg; omega) (by unfold rg; omega)) ?_
  refine rr_ifb_ne 15 pf_170_6 (by decide) (fun c1 => ?_) (fun c1 => ?_)
  · refine rr_aload_n pf_170_15 rfl ?_
    refine rr_getR pf_170_16 po_170 pg_8_28 rfl (ws_0 hW) (by decide) (wr_0_3 q0.1) ?_
    refine rr_iload_n pf_170_19 rfl ?_
    refine rr_aald pf_170_20 (ws_25 hW) (by omega) (by omega) (by unfold rg; omega) (by decide) (wr_25_0 q0.1) ?_
    refine rr_aload_n pf_170_21 rfl ?_
    refine rr_getR pf_170_22 po_170 pg_8_21 rfl (ws_0 hW) (by decide) (wr_0_1 q0.1) ?_
    obtain ⟨M2, ⟨kq3, prM2, plM2⟩, hcM2⟩ := ct_Church_copyFrom (xs := xs) (L := L) (d := d) (cb := 206) (c2 := 3) (by omega) hW q0.1 q0.2.1 (show px_ch 206 by unfold px_ch; decide) (show px_ch 3 by unfold px_ch; decide) (by decide) hok
    have q3 := qk_trm q0 kq3 (by decide)
    have rq4 := fk_q (fk_rf 0 [13] M0) kq3 (by decide)
    have e5 : M2 205 = M0 205 := (kq3.2.2 205 (by decide)).trans (rfl : M0 205 = M0 205)
    refine rr_cV1 pf_170_25 po_170 pc_8_347 (ws_206 hW) po_152 (by decide) rfl hcM2 ?_
    refine rr_aload_n pf_170_28 rfl ?_
    refine rr_getR pf_170_29 po_170 pg_8_32 rfl (ws_0 hW) (by decide) (wr_0_4 q3.1) ?_
    refine rr_iload_n pf_170_32 rfl ?_
    refine rr_iconst pf_170_33 ?_
    refine vr_bast (j := 0) hW q3 pf_170_34 (ws_26 hW) (by omega) (by omega) (by decide) (by omega) (by decide) (fun M6 eM6 q7 => ?_)
    have rq8 := fk_ne rq4 eM6 (by decide)
    have e9 : M6 205 = M0 205 := (show M6 205 = M2 205 by rw [eM6, ask_ne (by decide)]).trans e5
    refine rr_aload_n pf_170_35 rfl ?_
    refine rr_iconst pf_170_36 ?_
    obtain ⟨r12, M10, ⟨kq11, pv_M10, p13_M10, pf_M10⟩, hcM10⟩ := ct_S_accept (xs := xs) (L := L) (d := d) (u := 0) (by omega) hW q7.1 q7.2.1 (by unfold rg; omega)
    have q11 := qk_trm q7 kq11 (by decide)
    have rq13 := fk_tr rq8 pf_M10 (by decide)
    have e14 : M10 205 = M0 205 := (kq11.2.2 205 (by decide)).trans e9
    refine rr_cV1 pf_170_37 po_170 pc_8_115 (ws_0 hW) po_15 (by decide) rfl hcM10 ?_
    refine rr_iret pf_170_40 pt_170 ⟨_, M10, rfl, rfl, q11, (pv_M10), (by rw [rc_eo kq11.2.2 (by decide), rc_eo (M := M2) (A := [26]) (fun a ha => by rw [eM6, ask_ne (fun z => ha (by rw [z]; exact List.mem_cons_self))]) (by decide)]; exact prM2), (by intro n hn; rw [kq11.2.2 _ (by decide), eM6, ask_ne (by decide)]; exact plM2 n hn), (by rw [kq11.2.2 26 (by decide), eM6, up_self, up_self, kq3.2.2 26 (by decide)]), (p13_M10), (e14), (rq13)⟩
  · exfalso; omega
theorem ct_S_back0_0 {xs : Nat → Int} {L d : Nat} {sh : List (Nat × Nat)} {M0 : Nat → Nat → Int} (hd : 4 ≤ d) (hW : px_W0 <+: sh) (hF : px_Fx M0) (hG : px_RG sh M0)  (hrc : ∀ j, j < 5 → 0 ≤ M0 205 j ∧ M0 205 j ≤ 1000000000) (h0 : M0 26 0 = 0) : ∃ v M, (px_qk sh [0, 205] M0 M ∧ (v = -2) ∧ (M 0 13 = -2) ∧ (M 205 = bmC (M0 205) (-2)) ∧ (fk 0 [13] M0 M)) ∧ px_Cl xs L d 171 [.ref 0, .int (iI (0))] (sh, M0) (some (.int (iI v))) (sh, M) := by
  obtain ⟨d, rfl⟩ : ∃ e, d = e + 1 := ⟨d - 1, by omega⟩
  have q0 : px_qk sh [0, 205] M0 M0 := ⟨hF, hG, eo_rf⟩
  refine vc_i (Nat.le_of_ble_eq_true rfl) ?_
  show px_R xs L d 171 (0, [.ref 0, .int (iI (0))], [], (sh, M0)) (fun r h' => ∃ v M', r = some (.int (iI v)) ∧ h' = (sh, M') ∧ px_qk sh [0, 205] M0 M' ∧ v = -2 ∧ M' 0 13 = -2 ∧ M' 205 = bmC (M0 205) (-2) ∧ fk 0 [13] M0 M')
  refine rr_iload_n pf_171_0 rfl ?_
  refine rr_iconst pf_171_1 ?_
  refine rr_iconst pf_171_2 ?_
  refine rr_cS3 pf_171_3 po_171 pc_8_95 (by decide) rfl (ct_S_within (by omega) (by unfold rg; omega) (by unfold rg; omega) (by unfold rg; omega)) ?_
  refine rr_ifb_ne 15 pf_171_6 (by decide) (fun c1 => ?_) (fun c1 => ?_)
  · refine rr_aload_n pf_171_15 rfl ?_
    refine rr_getR pf_171_16 po_171 pg_8_32 rfl (ws_0 hW) (by decide) (wr_0_4 q0.1) ?_
    refine rr_iload_n pf_171_19 rfl ?_
    refine vr_bald (j := 0) q0 pf_171_20 (ws_26 hW) (by omega) (by omega) (by decide) (fun x2 hx2 rx2 => ?_)
    rw [h0] at hx2
    refine rr_if_ne 31 pf_171_21 (by decide) rx2 (fun c3 => ?_) (fun c3 => ?_)
    · exfalso; omega
    · refine rr_aload_n pf_171_24 rfl ?_
      refine rr_bipush pf_171_25 (by decide) ?_
      obtain ⟨r6, M4, ⟨kq5, pv_M4, p13_M4, p5_M4, pf_M4⟩, hcM4⟩ := ct_S_refuse (xs := xs) (L := L) (d := d) (u := (-2)) (by omega) hW q0.1 q0.2.1 (by omega) hrc
      have q5 := qk_trm q0 kq5 (by decide)
      have rq7 := fk_tr (fk_rf 0 [13] M0) pf_M4 (by decide)
      refine rr_cV1 pf_171_27 po_171 pc_8_99 (ws_0 hW) po_13 (by decide) rfl hcM4 ?_
      refine rr_iret pf_171_30 pt_171 ⟨_, M4, rfl, rfl, q5, (pv_M4), (p13_M4), (p5_M4), (rq7)⟩
  · exfalso; omega
theorem ct_S_back0_1 {xs : Nat → Int} {L d : Nat} {sh : List (Nat × Nat)} {M0 : Nat → Nat → Int} (hd : 4 ≤ d) (hW : px_W0 <+: sh) (hF : px_Fx M0) (hG : px_RG sh M0)  (hrc : ∀ j, j < 5 → 0 ≤ M0 205 j ∧ M0 205 j ≤ 1000000000) (hto : tr_ok M0 27) (hok : px_lOK sh M0 206) (h0 : M0 26 0 = 1) : ∃ v M, (px_qk sh [0, 27, 205, 3, 4, 5, 6, 7, 8, 9, 10, 11] M0 M ∧ (v = 0) ∧ (rc M 3 = rc M0 206) ∧ (∀ n, n < 6 → M (3 + 8) n = M0 (206 + 8) n) ∧ (M 27 = px_up M0 27 3 0 27) ∧ (M 0 13 = 0) ∧ (M 205 = M0 205) ∧ (fk 0 [13] M0 M)) ∧ px_Cl xs L d 171 [.ref 0, .int (iI (0))] (sh, M0) (some (.int (iI v))) (sh, M) := by
  obtain ⟨d, rfl⟩ : ∃ e, d = e + 1 := ⟨d - 1, by omega⟩
  have q0 : px_qk sh [0, 27, 205, 3, 4, 5, 6, 7, 8, 9, 10, 11] M0 M0 := ⟨hF, hG, eo_rf⟩
  refine vc_i (Nat.le_of_ble_eq_true rfl) ?_
  show px_R xs L d 171 (0, [.ref 0, .int (iI (0))], [], (sh, M0)) (fun r h' => ∃ v M', r = some (.int (iI v)) ∧ h' = (sh, M') ∧ px_qk sh [0, 27, 205, 3, 4, 5, 6, 7, 8, 9, 10, 11] M0 M' ∧ v = 0 ∧ rc M' 3 = rc M0 206 ∧ (∀ n, n < 6 → M' (3 + 8) n = M0 (206 + 8) n) ∧ M' 27 = px_up M0 27 3 0 27 ∧ M' 0 13 = 0 ∧ M' 205 = M0 205 ∧ fk 0 [13] M0 M')
  refine rr_iload_n pf_171_0 rfl ?_
  refine rr_iconst pf_171_1 ?_
  refine rr_iconst pf_171_2 ?_
  refine rr_cS3 pf_171_3 po_171 pc_8_95 (by decide) rfl (ct_S_within (by omega) (by unfold rg; omega) (by unfold rg; omega) (by unfold rg; omega)) ?_
  refine rr_ifb_ne 15 pf_171_6 (by decide) (fun c1 => ?_) (fun c1 => ?_)
  · refine rr_aload_n pf_171_15 rfl ?_
    refine rr_getR pf_171_16 po_171 pg_8_32 rfl (ws_0 hW) (by decide) (wr_0_4 q0.1) ?_
    refine rr_iload_n pf_171_19 rfl ?_
    refine vr_bald (j := 0) q0 pf_171_20 (ws_26 hW) (by omega) (by omega) (by decide) (fun x2 hx2 rx2 => ?_)
    rw [h0] at hx2
    refine rr_if_ne 31 pf_171_21 (by decide) rx2 (fun c3 => ?_) (fun c3 => ?_)
    · refine rr_aload_n pf_171_31 rfl ?_
      refine rr_getR pf_171_32 po_171 pg_8_21 rfl (ws_0 hW) (by decide) (wr_0_1 q0.1) ?_
      refine rr_aload_n pf_171_35 rfl ?_
      refine rr_getR pf_171_36 po_171 pg_8_28 rfl (ws_0 hW) (by decide) (wr_0_3 q0.1) ?_
      refine rr_iload_n pf_171_39 rfl ?_
      refine rr_aald pf_171_40 (ws_25 hW) (by omega) (by omega) (by unfold rg; omega) (by decide) (wr_25_0 q0.1) ?_
      obtain ⟨M4, ⟨kq5, prM4, plM4⟩, hcM4⟩ := ct_Church_copyFrom (xs := xs) (L := L) (d := d) (cb := 3) (c2 := 206) (by omega) hW q0.1 q0.2.1 (show px_ch 3 by unfold px_ch; decide) (show px_ch 206 by unfold px_ch; decide) (by decide) hok
      have q5 := qk_trm q0 kq5 (by decide)
      have rq6 := fk_q (fk_rf 0 [13] M0) kq5 (by decide)
      have e7 : M4 205 = M0 205 := (kq5.2.2 205 (by decide)).trans (rfl : M0 205 = M0 205)
      have e8 : M4 27 = M0 27 := (kq5.2.2 27 (by decide)).trans (rfl : M0 27 = M0 27)
      refine rr_cV1 pf_171_41 po_171 pc_8_347 (ws_3 hW) po_152 (by decide) rfl hcM4 ?_
      refine rr_aload_n pf_171_44 rfl ?_
      refine rr_getR pf_171_45 po_171 pg_8_39 rfl (ws_0 hW) (by decide) (wr_0_5 q5.1) ?_
      obtain ⟨M9, ⟨kq10, eM9⟩, hcM9⟩ := ct_Trail_clear (xs := xs) (L := L) (d := d) (tb := 27) (by omega) hW q5.1 q5.2.1 px_tr27 (by unfold tr_ok; rw [e8]; exact hto)
      have q10 := qk_trm q5 kq10 (by decide)
      have rq11 := fk_ne rq6 eM9 (by decide)
      have e12 : M9 205 = M0 205 := (show M9 205 = M4 205 by rw [eM9, ask_ne (by decide)]).trans e7
      have t27M9 : M9 27 = px_up M0 27 3 0 27 := by rw [eM9, up_self, up_self, e8]
      refine rr_cV0 pf_171_48 po_171 pc_8_112 (ws_27 hW) po_14 (by decide) rfl hcM9 ?_
      refine rr_aload_n pf_171_51 rfl ?_
      refine rr_iconst pf_171_52 ?_
      obtain ⟨r15, M13, ⟨kq14, pv_M13, p13_M13, pf_M13⟩, hcM13⟩ := ct_S_accept (xs := xs) (L := L) (d := d) (u := 0) (by omega) hW q10.1 q10.2.1 (by unfold rg; omega)
      have q14 := qk_trm q10 kq14 (by decide)
      have rq16 := fk_tr rq11 pf_M13 (by decide)
      have e17 : M13 205 = M0 205 := (kq14.2.2 205 (by decide)).trans e12
      have t27M13 : M13 27 = px_up M0 27 3 0 27 := (kq14.2.2 27 (by decide)).trans t27M9
      refine rr_cV1 pf_171_53 po_171 pc_8_115 (ws_0 hW) po_15 (by decide) rfl hcM13 ?_
      refine rr_iret pf_171_56 pt_171 ⟨_, M13, rfl, rfl, q14, (pv_M13), (by rw [rc_eo kq14.2.2 (by decide), rc_eo (M := M4) (A := [27]) (fun a ha => by rw [eM9, ask_ne (fun z => ha (by rw [z]; exact List.mem_cons_self))]) (by decide)]; exact prM4), (by intro n hn; rw [kq14.2.2 _ (by decide), eM9, ask_ne (by decide)]; exact plM4 n hn), (t27M13), (p13_M13), (e17), (rq16)⟩
    · exfalso; omega
  · exfalso; omega
theorem ct_S_image1 {xs : Nat → Int} {L d : Nat} {sh : List (Nat × Nat)} {M0 : Nat → Nat → Int} (hd : 4 ≤ d) (hW : px_W0 <+: sh) (hF : px_Fx M0) (hG : px_RG sh M0)  (hrc : ∀ j, j < 5 → 0 ≤ M0 205 j ∧ M0 205 j ≤ 1000000000) (hok : px_lOK sh M0 3) : ∃ v M, (px_qk sh [0, 26, 205, 217, 218, 219, 220, 221, 222, 223, 224, 225] M0 M ∧ (v = 0) ∧ (rc M 217 = rc M0 3) ∧ (∀ n, n < 6 → M (217 + 8) n = M0 (3 + 8) n) ∧ (M 26 = px_up M0 26 1 1 26) ∧ (M 0 13 = 0) ∧ (M 205 = M0 205) ∧ (fk 0 [13] M0 M)) ∧ px_Cl xs L d 170 [.ref 0, .int (iI (1))] (sh, M0) (some (.int (iI v))) (sh, M) := by
  obtain ⟨d, rfl⟩ : ∃ e, d = e + 1 := ⟨d - 1, by omega⟩
  have q0 : px_qk sh [0, 26, 205, 217, 218, 219, 220, 221, 222, 223, 224, 225] M0 M0 := ⟨hF, hG, eo_rf⟩
  refine vc_i (Nat.le_of_ble_eq_true rfl) ?_
  show px_R xs L d 170 (0, [.ref 0, .int (iI (1))], [], (sh, M0)) (fun r h' => ∃ v M', r = some (.int (iI v)) ∧ h' = (sh, M') ∧ px_qk sh [0, 26, 205, 217, 218, 219, 220, 221, 222, 223, 224, 225] M0 M' ∧ v = 0 ∧ rc M' 217 = rc M0 3 ∧ (∀ n, n < 6 → M' (217 + 8) n = M0 (3 + 8) n) ∧ M' 26 = px_up M0 26 1 1 26 ∧ M' 0 13 = 0 ∧ M' 205 = M0 205 ∧ fk 0 [13] M0 M')
  refine rr_iload_n pf_170_0 rfl ?_
  refine rr_iconst pf_170_1 ?_
  refine rr_iconst pf_170_2 ?_
  refine rr_cS3 pf_170_3 po_170 pc_8_95 (by decide) rfl (ct_S_within (by omega) (by unfold rg; omega) (by unfold rg; omega) (by unfold rg; omega)) ?_
  refine rr_ifb_ne 15 pf_170_6 (by decide) (fun c1 => ?_) (fun c1 => ?_)
  · refine rr_aload_n pf_170_15 rfl ?_
    refine rr_getR pf_170_16 po_170 pg_8_28 rfl (ws_0 hW) (by decide) (wr_0_3 q0.1) ?_
    refine rr_iload_n pf_170_19 rfl ?_
    refine rr_aald pf_170_20 (ws_25 hW) (by omega) (by omega) (by unfold rg; omega) (by decide) (wr_25_1 q0.1) ?_
    refine rr_aload_n pf_170_21 rfl ?_
    refine rr_getR pf_170_22 po_170 pg_8_21 rfl (ws_0 hW) (by decide) (wr_0_1 q0.1) ?_
    obtain ⟨M2, ⟨kq3, prM2, plM2⟩, hcM2⟩ := ct_Church_copyFrom (xs := xs) (L := L) (d := d) (cb := 217) (c2 := 3) (by omega) hW q0.1 q0.2.1 (show px_ch 217 by unfold px_ch; decide) (show px_ch 3 by unfold px_ch; decide) (by decide) hok
    have q3 := qk_trm q0 kq3 (by decide)
    have rq4 := fk_q (fk_rf 0 [13] M0) kq3 (by decide)
    have e5 : M2 205 = M0 205 := (kq3.2.2 205 (by decide)).trans (rfl : M0 205 = M0 205)
    refine rr_cV1 pf_170_25 po_170 pc_8_347 (ws_217 hW) po_152 (by decide) rfl hcM2 ?_
    refine rr_aload_n pf_170_28 rfl ?_
    refine rr_getR pf_170_29 po_170 pg_8_32 rfl (ws_0 hW) (by decide) (wr_0_4 q3.1) ?_
    refine rr_iload_n pf_170_32 rfl ?_
    refine rr_iconst pf_170_33 ?_
    refine vr_bast (j := 1) hW q3 pf_170_34 (ws_26 hW) (by omega) (by omega) (by decide) (by omega) (by decide) (fun M6 eM6 q7 => ?_)
    have rq8 := fk_ne rq4 eM6 (by decide)
    have e9 : M6 205 = M0 205 := (show M6 205 = M2 205 by rw [eM6, ask_ne (by decide)]).trans e5
    refine rr_aload_n pf_170_35 rfl ?_
    refine rr_iconst pf_170_36 ?_
    obtain ⟨r12, M10, ⟨kq11, pv_M10, p13_M10, pf_M10⟩, hcM10⟩ := ct_S_accept (xs := xs) (L := L) (d := d) (u := 0) (by omega) hW q7.1 q7.2.1 (by unfold rg; omega)
    have q11 := qk_trm q7 kq11 (by decide)
    have rq13 := fk_tr rq8 pf_M10 (by decide)
    have e14 : M10 205 = M0 205 := (kq11.2.2 205 (by decide)).trans e9
    refine rr_cV1 pf_170_37 po_170 pc_8_115 (ws_0 hW) po_15 (by decide) rfl hcM10 ?_
    refine rr_iret pf_170_40 pt_170 ⟨_, M10, rfl, rfl, q11, (pv_M10), (by rw [rc_eo kq11.2.2 (by decide), rc_eo (M := M2) (A := [26]) (fun a ha => by rw [eM6, ask_ne (fun z => ha (by rw [z]; exact List.mem_cons_self))]) (by decide)]; exact prM2), (by intro n hn; rw [kq11.2.2 _ (by decide), eM6, ask_ne (by decide)]; exact plM2 n hn), (by rw [kq11.2.2 26 (by decide), eM6, up_self, up_self, kq3.2.2 26 (by decide)]), (p13_M10), (e14), (rq13)⟩
  · exfalso; omega
theorem ct_S_back1_0 {xs : Nat → Int} {L d : Nat} {sh : List (Nat × Nat)} {M0 : Nat → Nat → Int} (hd : 4 ≤ d) (hW : px_W0 <+: sh) (hF : px_Fx M0) (hG : px_RG sh M0)  (hrc : ∀ j, j < 5 → 0 ≤ M0 205 j ∧ M0 205 j ≤ 1000000000) (h0 : M0 26 1 = 0) : ∃ v M, (px_qk sh [0, 205] M0 M ∧ (v = -2) ∧ (M 0 13 = -2) ∧ (M 205 = bmC (M0 205) (-2)) ∧ (fk 0 [13] M0 M)) ∧ px_Cl xs L d 171 [.ref 0, .int (iI (1))] (sh, M0) (some (.int (iI v))) (sh, M) := by
  obtain ⟨d, rfl⟩ : ∃ e, d = e + 1 := ⟨d - 1, by omega⟩
  have q0 : px_qk sh [0, 205] M0 M0 := ⟨hF, hG, eo_rf⟩
  refine vc_i (Nat.le_of_ble_eq_true rfl) ?_
  show px_R xs L d 171 (0, [.ref 0, .int (iI (1))], [], (sh, M0)) (fun r h' => ∃ v M', r = some (.int (iI v)) ∧ h' = (sh, M') ∧ px_qk sh [0, 205] M0 M' ∧ v = -2 ∧ M' 0 13 = -2 ∧ M' 205 = bmC (M0 205) (-2) ∧ fk 0 [13] M0 M')
  refine rr_iload_n pf_171_0 rfl ?_
  refine rr_iconst pf_171_1 ?_
  refine rr_iconst pf_171_2 ?_
  refine rr_cS3 pf_171_3 po_171 pc_8_95 (by decide) rfl (ct_S_within (by omega) (by unfold rg; omega) (by unfold rg; omega) (by unfold rg; omega)) ?_
  refine rr_ifb_ne 15 pf_171_6 (by decide) (fun c1 => ?_) (fun c1 => ?_)
  · refine rr_aload_n pf_171_15 rfl ?_
    refine rr_getR pf_171_16 po_171 pg_8_32 rfl (ws_0 hW) (by decide) (wr_0_4 q0.1) ?_
    refine rr_iload_n pf_171_19 rfl ?_
    refine vr_bald (j := 1) q0 pf_171_20 (ws_26 hW) (by omega) (by omega) (by decide) (fun x2 hx2 rx2 => ?_)
    rw [h0] at hx2
    refine rr_if_ne 31 pf_171_21 (by decide) rx2 (fun c3 => ?_) (fun c3 => ?_)
    · exfalso; omega
    · refine rr_aload_n pf_171_24 rfl ?_
      refine rr_bipush pf_171_25 (by decide) ?_
      obtain ⟨r6, M4, ⟨kq5, pv_M4, p13_M4, p5_M4, pf_M4⟩, hcM4⟩ := ct_S_refuse (xs := xs) (L := L) (d := d) (u := (-2)) (by omega) hW q0.1 q0.2.1 (by omega) hrc
      have q5 := qk_trm q0 kq5 (by decide)
      have rq7 := fk_tr (fk_rf 0 [13] M0) pf_M4 (by decide)
      refine rr_cV1 pf_171_27 po_171 pc_8_99 (ws_0 hW) po_13 (by decide) rfl hcM4 ?_
      refine rr_iret pf_171_30 pt_171 ⟨_, M4, rfl, rfl, q5, (pv_M4), (p13_M4), (p5_M4), (rq7)⟩
  · exfalso; omega
theorem ct_S_back1_1 {xs : Nat → Int} {L d : Nat} {sh : List (Nat × Nat)} {M0 : Nat → Nat → Int} (hd : 4 ≤ d) (hW : px_W0 <+: sh) (hF : px_Fx M0) (hG : px_RG sh M0)  (hrc : ∀ j, j < 5 → 0 ≤ M0 205 j ∧ M0 205 j ≤ 1000000000) (hto : tr_ok M0 27) (hok : px_lOK sh M0 217) (h0 : M0 26 1 = 1) : ∃ v M, (px_qk sh [0, 27, 205, 3, 4, 5, 6, 7, 8, 9, 10, 11] M0 M ∧ (v = 0) ∧ (rc M 3 = rc M0 217) ∧ (∀ n, n < 6 → M (3 + 8) n = M0 (217 + 8) n) ∧ (M 27 = px_up M0 27 3 0 27) ∧ (M 0 13 = 0) ∧ (M 205 = M0 205) ∧ (fk 0 [13] M0 M)) ∧ px_Cl xs L d 171 [.ref 0, .int (iI (1))] (sh, M0) (some (.int (iI v))) (sh, M) := by
  obtain ⟨d, rfl⟩ : ∃ e, d = e + 1 := ⟨d - 1, by omega⟩
  have q0 : px_qk sh [0, 27, 205, 3, 4, 5, 6, 7, 8, 9, 10, 11] M0 M0 := ⟨hF, hG, eo_rf⟩
  refine vc_i (Nat.le_of_ble_eq_true rfl) ?_
  show px_R xs L d 171 (0, [.ref 0, .int (iI (1))], [], (sh, M0)) (fun r h' => ∃ v M', r = some (.int (iI v)) ∧ h' = (sh, M') ∧ px_qk sh [0, 27, 205, 3, 4, 5, 6, 7, 8, 9, 10, 11] M0 M' ∧ v = 0 ∧ rc M' 3 = rc M0 217 ∧ (∀ n, n < 6 → M' (3 + 8) n = M0 (217 + 8) n) ∧ M' 27 = px_up M0 27 3 0 27 ∧ M' 0 13 = 0 ∧ M' 205 = M0 205 ∧ fk 0 [13] M0 M')
  refine rr_iload_n pf_171_0 rfl ?_
  refine rr_iconst pf_171_1 ?_
  refine rr_iconst pf_171_2 ?_
  refine rr_cS3 pf_171_3 po_171 pc_8_95 (by decide) rfl (ct_S_within (by omega) (by unfold rg; omega) (by unfold rg; omega) (by unfold rg; omega)) ?_
  refine rr_ifb_ne 15 pf_171_6 (by decide) (fun c1 => ?_) (fun c1 => ?_)
  · refine rr_aload_n pf_171_15 rfl ?_
    refine rr_getR pf_171_16 po_171 pg_8_32 rfl (ws_0 hW) (by decide) (wr_0_4 q0.1) ?_
    refine rr_iload_n pf_171_19 rfl ?_
    refine vr_bald (j := 1) q0 pf_171_20 (ws_26 hW) (by omega) (by omega) (by decide) (fun x2 hx2 rx2 => ?_)
    rw [h0] at hx2
    refine rr_if_ne 31 pf_171_21 (by decide) rx2 (fun c3 => ?_) (fun c3 => ?_)
    · refine rr_aload_n pf_171_31 rfl ?_
      refine rr_getR pf_171_32 po_171 pg_8_21 rfl (ws_0 hW) (by decide) (wr_0_1 q0.1) ?_
      refine rr_aload_n pf_171_35 rfl ?_
      refine rr_getR pf_171_36 po_171 pg_8_28 rfl (ws_0 hW) (by decide) (wr_0_3 q0.1) ?_
      refine rr_iload_n pf_171_39 rfl ?_
      refine rr_aald pf_171_40 (ws_25 hW) (by omega) (by omega) (by unfold rg; omega) (by decide) (wr_25_1 q0.1) ?_
      obtain ⟨M4, ⟨kq5, prM4, plM4⟩, hcM4⟩ := ct_Church_copyFrom (xs := xs) (L := L) (d := d) (cb := 3) (c2 := 217) (by omega) hW q0.1 q0.2.1 (show px_ch 3 by unfold px_ch; decide) (show px_ch 217 by unfold px_ch; decide) (by decide) hok
      have q5 := qk_trm q0 kq5 (by decide)
      have rq6 := fk_q (fk_rf 0 [13] M0) kq5 (by decide)
      have e7 : M4 205 = M0 205 := (kq5.2.2 205 (by decide)).trans (rfl : M0 205 = M0 205)
      have e8 : M4 27 = M0 27 := (kq5.2.2 27 (by decide)).trans (rfl : M0 27 = M0 27)
      refine rr_cV1 pf_171_41 po_171 pc_8_347 (ws_3 hW) po_152 (by decide) rfl hcM4 ?_
      refine rr_aload_n pf_171_44 rfl ?_
      refine rr_getR pf_171_45 po_171 pg_8_39 rfl (ws_0 hW) (by decide) (wr_0_5 q5.1) ?_
      obtain ⟨M9, ⟨kq10, eM9⟩, hcM9⟩ := ct_Trail_clear (xs := xs) (L := L) (d := d) (tb := 27) (by omega) hW q5.1 q5.2.1 px_tr27 (by unfold tr_ok; rw [e8]; exact hto)
      have q10 := qk_trm q5 kq10 (by decide)
      have rq11 := fk_ne rq6 eM9 (by decide)
      have e12 : M9 205 = M0 205 := (show M9 205 = M4 205 by rw [eM9, ask_ne (by decide)]).trans e7
      have t27M9 : M9 27 = px_up M0 27 3 0 27 := by rw [eM9, up_self, up_self, e8]
      refine rr_cV0 pf_171_48 po_171 pc_8_112 (ws_27 hW) po_14 (by decide) rfl hcM9 ?_
      refine rr_aload_n pf_171_51 rfl ?_
      refine rr_iconst pf_171_52 ?_
      obtain ⟨r15, M13, ⟨kq14, pv_M13, p13_M13, pf_M13⟩, hcM13⟩ := ct_S_accept (xs := xs) (L := L) (d := d) (u := 0) (by omega) hW q10.1 q10.2.1 (by unfold rg; omega)
      have q14 := qk_trm q10 kq14 (by decide)
      have rq16 := fk_tr rq11 pf_M13 (by decide)
      have e17 : M13 205 = M0 205 := (kq14.2.2 205 (by decide)).trans e12
      have t27M13 : M13 27 = px_up M0 27 3 0 27 := (kq14.2.2 27 (by decide)).trans t27M9
      refine rr_cV1 pf_171_53 po_171 pc_8_115 (ws_0 hW) po_15 (by decide) rfl hcM13 ?_
      refine rr_iret pf_171_56 pt_171 ⟨_, M13, rfl, rfl, q14, (pv_M13), (by rw [rc_eo kq14.2.2 (by decide), rc_eo (M := M4) (A := [27]) (fun a ha => by rw [eM9, ask_ne (fun z => ha (by rw [z]; exact List.mem_cons_self))]) (by decide)]; exact prM4), (by intro n hn; rw [kq14.2.2 _ (by decide), eM9, ask_ne (by decide)]; exact plM4 n hn), (t27M13), (p13_M13), (e17), (rq16)⟩
    · exfalso; omega
  · exfalso; omega
