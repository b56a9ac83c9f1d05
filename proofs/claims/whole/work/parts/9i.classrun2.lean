/-! the class's orders: begun, ended -/
theorem ctl_cp {M M2 : Nat → Nat → Int} {tb t2 : Nat} {tl : sp_T} (h : ctlR M t2 tl) (e2 : M2 tb 2 = M t2 2) (e3 : M2 tb 3 = M t2 3) (ek : ∀ j, j < 17 → M2 (tb + 2) j = M (t2 + 2) j) (en : ∀ j : Nat, (j : Int) < M t2 3 → nnEq M2 M (tb + 3 + 4 * tr_sl M t2 j) (t2 + 3 + 4 * tr_sl M t2 j)) : ctlR M2 tb tl := by
  obtain ⟨h1, h2, h3, h4⟩ := h
  have sl : ∀ k, tr_sl M2 tb k = tr_sl M t2 k := fun k => by unfold tr_sl; rw [e2]
  refine ⟨by unfold tr_ok; rw [e2, e3]; exact h1, by rw [e3]; exact h2, h3, fun k hk => ?_⟩
  obtain ⟨x, g1, g2, g3⟩ := h4 k hk
  refine ⟨x, g1, by rw [sl, ek _ (sl_lt k)]; exact g2, fun j hj => ?_⟩
  rw [sl, en k (by omega) j hj]
  exact g3 j hj
abbrev bgA : List Nat := [98, 99, 100, 101, 102] ++ px_trA 103
abbrev fnA : List Nat := [4, 5, 6, 7] ++ px_trA 27
theorem px_tr103 : px_tr 103 := by unfold px_tr; decide
theorem px_nv99 : px_nv 99 := by unfold px_nv; decide
theorem px_nv4 : px_nv 4 := by unfold px_nv; decide
theorem ct_Runner_begin {xs : Nat → Int} {L d : Nat} {sh : List (Nat × Nat)} {M0 : Nat → Nat → Int} (hd : 3 ≤ d) (hW : px_W0 <+: sh) (hF : px_Fx M0) (hG : px_RG sh M0)  {ρ : Nat → Int} (hR : rc M0 3 = ρ) (hρ : sp_ok ρ) {tl : sp_T} (hctl : ctlR M0 27 tl) : ∃ M, (px_qk sh bgA M0 M ∧ (M 98 0 = -1) ∧ (M 98 7 = 0) ∧ (M 98 8 = -1) ∧ (∀ j, nj j → nn M 99 j = ρ j) ∧ (ctlR M 103 tl) ∧ (fk 98 [0, 7, 8] M0 M)) ∧ px_Cl xs L d 93 [.ref 98] (sh, M0) (none) (sh, M) := by
  obtain ⟨d, rfl⟩ : ∃ e, d = e + 1 := ⟨d - 1, by omega⟩
  have q0 : px_qk sh bgA M0 M0 := ⟨hF, hG, eo_rf⟩
  refine vc_n (Nat.le_of_ble_eq_true rfl) ?_
  show px_R xs L d 93 (0, [.ref 98], [], (sh, M0)) (fun r h' => r = none ∧ ∃ M', h' = (sh, M') ∧ px_qk sh bgA M0 M' ∧ M' 98 0 = -1 ∧ M' 98 7 = 0 ∧ M' 98 8 = -1 ∧ (∀ j, nj j → nn M' 99 j = ρ j) ∧ ctlR M' 103 tl ∧ fk 98 [0, 7, 8] M0 M')
  refine rr_aload_n pf_93_0 rfl ?_
  refine rr_iconst pf_93_1 ?_
  refine vr_putI hW q0 pf_93_2 po_93 pg_4_9 (Or.inl rfl) rfl (ws_98 hW) (by decide) (by unfold rg; omega) (by decide +kernel) (fun M1 eM1 q2 => ?_)
  have rq3 := fk_up (fk_rf 98 [0, 7, 8] M0) eM1 (by decide)
  refine rr_aload_n pf_93_5 rfl ?_
  refine rr_iconst pf_93_6 ?_
  refine vr_putI hW q2 pf_93_7 po_93 pg_4_33 (Or.inl rfl) rfl (ws_98 hW) (by decide) (by unfold rg; omega) (by decide +kernel) (fun M4 eM4 q5 => ?_)
  have rq6 := fk_up rq3 eM4 (by decide)
  refine rr_aload_n pf_93_10 rfl ?_
  refine rr_iconst pf_93_11 ?_
  refine vr_putI hW q5 pf_93_12 po_93 pg_4_36 (Or.inl rfl) rfl (ws_98 hW) (by decide) (by unfold rg; omega) (by decide +kernel) (fun M7 eM7 q8 => ?_)
  have rq9 := fk_up rq6 eM7 (by decide)
  refine rr_aload_n pf_93_15 rfl ?_
  refine rr_getR pf_93_16 po_93 pg_4_18 rfl (ws_98 hW) (by decide) (wr_98_4 q8.1) ?_
  refine rr_aload_n pf_93_19 rfl ?_
  refine rr_getR pf_93_20 po_93 pg_4_39 rfl (ws_98 hW) (by decide) (wr_98_1 q8.1) ?_
  refine rr_getR pf_93_23 po_93 pg_4_50 rfl (ws_3 hW) (by decide) (wr_3_0 q8.1) ?_
  obtain ⟨M10, ⟨kq11, pnM10⟩, hcM10⟩ := ct_Nave_copyFrom (xs := xs) (L := L) (d := d) (nb := 99) (mb := 4) (by omega) hW q8.1 q8.2.1 px_nv99 px_nv4 (by decide)
  have q11 := qk_trm q8 kq11 (by decide +kernel)
  have rq12 := fk_q rq9 kq11 (by decide)
  refine rr_cV1 pf_93_26 po_93 pc_4_55 (ws_99 hW) po_94 (by decide) rfl hcM10 ?_
  refine rr_aload_n pf_93_29 rfl ?_
  refine rr_getR pf_93_30 po_93 pg_4_25 rfl (ws_98 hW) (by decide) (wr_98_5 q11.1) ?_
  refine rr_aload_n pf_93_33 rfl ?_
  refine rr_getR pf_93_34 po_93 pg_4_43 rfl (ws_98 hW) (by decide) (wr_98_2 q11.1) ?_
  have hctla : ctlR M10 27 tl := ctl_eq hctl (fun a h1 h2 => by rw [kq11.2.2 a (by simp only [List.mem_cons, List.not_mem_nil, or_false]; omega), eM7, ask_ne (by omega), eM4, ask_ne (by omega), eM1, ask_ne (by omega)])
  obtain ⟨M13, ⟨kq14, c1M13, c2M13, c3M13, c4M13⟩, hcM13⟩ := ct_Trail_copyFrom (xs := xs) (L := L) (d := d) (tb := 103) (t2 := 27) (by omega) hW q11.1 q11.2.1 px_tr103 px_tr27 (by decide) hctla.1
  have hTM13 : ctlR M13 103 tl := ctl_cp hctla c1M13 c2M13 c3M13 c4M13
  have q14 := qk_trm q11 kq14 (by decide +kernel)
  have rq15 := fk_q rq12 kq14 (by decide +kernel)
  refine rr_cV1 pf_93_37 po_93 pc_4_59 (ws_103 hW) po_95 (by decide) rfl hcM13 ?_
  refine rr_vret pf_93_40 pt_93 ⟨rfl, M13, rfl, q14, (by rw [kq14.2.2 98 (by decide +kernel), kq11.2.2 98 (by decide), eM7, up_ne (by decide), eM4, up_ne (by decide), eM1, up_s]), (by rw [kq14.2.2 98 (by decide +kernel), kq11.2.2 98 (by decide), eM7, up_ne (by decide), eM4, up_s]), (by rw [kq14.2.2 98 (by decide +kernel), kq11.2.2 98 (by decide), eM7, up_s]), (by
          intro j hj
          rw [nn_eq (M := M10) (fun i hi => kq14.2.2 _ (by intro z; have := trA_iff.mp z; omega)) j, pnM10 j hj, nn_eq (M := M0) (fun i hi => by rw [eM7, ask_ne (by omega), eM4, ask_ne (by omega), eM1, ask_ne (by omega)]) j, ← nn_rc (cb := 3) hj, hR]), (hTM13), (rq15)⟩
theorem ct_Runner_finish0 {xs : Nat → Int} {L d : Nat} {sh : List (Nat × Nat)} {M0 : Nat → Nat → Int} (hd : 1 ≤ d) (hW : px_W0 <+: sh) (hF : px_Fx M0) (hG : px_RG sh M0)  (hst : M0 98 0 = -1) : ∃ v M, (px_qk sh [] M0 M ∧ (v = M0 98 7)) ∧ px_Cl xs L d 108 [.ref 98] (sh, M0) (some (.int (iI v))) (sh, M) := by
  obtain ⟨d, rfl⟩ : ∃ e, d = e + 1 := ⟨d - 1, by omega⟩
  have q0 : px_qk sh [] M0 M0 := ⟨hF, hG, eo_rf⟩
  refine vc_i (Nat.le_of_ble_eq_true rfl) ?_
  show px_R xs L d 108 (0, [.ref 98], [], (sh, M0)) (fun r h' => ∃ v M', r = some (.int (iI v)) ∧ h' = (sh, M') ∧ px_qk sh [] M0 M' ∧ v = M0 98 7)
  refine rr_aload_n pf_108_0 rfl ?_
  refine vr_getI q0 pf_108_1 po_108 pg_4_9 rfl (ws_98 hW) (by decide) (fun x1 hx1 rx1 => ?_)
  rw [hst] at hx1
  refine rr_iconst pf_108_4 ?_
  refine rr_icmp_ne 13 pf_108_5 (by decide) rx1 (by unfold rg; omega) (fun c2 => ?_) (fun c2 => ?_)
  · exfalso; omega
  · refine rr_aload_n pf_108_8 rfl ?_
    refine vr_getI q0 pf_108_9 po_108 pg_4_33 rfl (ws_98 hW) (by decide) (fun x3 hx3 rx3 => ?_)
    refine rr_iret pf_108_12 pt_108 ⟨_, M0, rfl, rfl, q0, (hx3)⟩
theorem ct_Runner_finish1 {xs : Nat → Int} {L d : Nat} {sh : List (Nat × Nat)} {M0 : Nat → Nat → Int} (hd : 3 ≤ d) (hW : px_W0 <+: sh) (hF : px_Fx M0) (hG : px_RG sh M0)  (hst : M0 98 0 ≠ -1) {ρ : Nat → Int} (hn99 : ∀ j, nj j → nn M0 99 j = ρ j) (hoth : ∀ j, ¬ nj j → rc M0 3 j = ρ j) {tl : sp_T} (hctl : ctlR M0 103 tl) : ∃ v M, (px_qk sh fnA M0 M ∧ (v = -3) ∧ (rc M 3 = ρ) ∧ (ctlR M 27 tl)) ∧ px_Cl xs L d 108 [.ref 98] (sh, M0) (some (.int (iI v))) (sh, M) := by
  obtain ⟨d, rfl⟩ : ∃ e, d = e + 1 := ⟨d - 1, by omega⟩
  have q0 : px_qk sh fnA M0 M0 := ⟨hF, hG, eo_rf⟩
  refine vc_i (Nat.le_of_ble_eq_true rfl) ?_
  show px_R xs L d 108 (0, [.ref 98], [], (sh, M0)) (fun r h' => ∃ v M', r = some (.int (iI v)) ∧ h' = (sh, M') ∧ px_qk sh fnA M0 M' ∧ v = -3 ∧ rc M' 3 = ρ ∧ ctlR M' 27 tl)
  refine rr_aload_n pf_108_0 rfl ?_
  refine vr_getI q0 pf_108_1 po_108 pg_4_9 rfl (ws_98 hW) (by decide) (fun x1 hx1 rx1 => ?_)
  refine rr_iconst pf_108_4 ?_
  refine rr_icmp_ne 13 pf_108_5 (by decide) rx1 (by unfold rg; omega) (fun c2 => ?_) (fun c2 => ?_)
  · refine rr_aload_n pf_108_13 rfl ?_
    refine rr_getR pf_108_14 po_108 pg_4_39 rfl (ws_98 hW) (by decide) (wr_98_1 q0.1) ?_
    refine rr_getR pf_108_17 po_108 pg_4_50 rfl (ws_3 hW) (by decide) (wr_3_0 q0.1) ?_
    refine rr_aload_n pf_108_20 rfl ?_
    refine rr_getR pf_108_21 po_108 pg_4_18 rfl (ws_98 hW) (by decide) (wr_98_4 q0.1) ?_
    obtain ⟨M3, ⟨kq4, pnM3⟩, hcM3⟩ := ct_Nave_copyFrom (xs := xs) (L := L) (d := d) (nb := 4) (mb := 99) (by omega) hW q0.1 q0.2.1 px_nv4 px_nv99 (by decide)
    have q4 := qk_trm q0 kq4 (by decide +kernel)
    refine rr_cV1 pf_108_24 po_108 pc_4_55 (ws_4 hW) po_94 (by decide) rfl hcM3 ?_
    refine rr_aload_n pf_108_27 rfl ?_
    refine rr_getR pf_108_28 po_108 pg_4_43 rfl (ws_98 hW) (by decide) (wr_98_2 q4.1) ?_
    refine rr_aload_n pf_108_31 rfl ?_
    refine rr_getR pf_108_32 po_108 pg_4_25 rfl (ws_98 hW) (by decide) (wr_98_5 q4.1) ?_
    have hctla : ctlR M3 103 tl := ctl_eq hctl (fun a h1 h2 => kq4.2.2 a (by simp only [List.mem_cons, List.not_mem_nil, or_false]; omega))
    obtain ⟨M5, ⟨kq6, c1M5, c2M5, c3M5, c4M5⟩, hcM5⟩ := ct_Trail_copyFrom (xs := xs) (L := L) (d := d) (tb := 27) (t2 := 103) (by omega) hW q4.1 q4.2.1 px_tr27 px_tr103 (by decide) hctla.1
    have hTM5 : ctlR M5 27 tl := ctl_cp hctla c1M5 c2M5 c3M5 c4M5
    have q6 := qk_trm q4 kq6 (by decide +kernel)
    refine rr_cV1 pf_108_35 po_108 pc_4_59 (ws_27 hW) po_95 (by decide) rfl hcM5 ?_
    refine rr_bipush pf_108_38 (by decide) ?_
    refine rr_iret pf_108_40 pt_108 ⟨_, M5, rfl, rfl, q6, (by rfl), (by
              have e1 : rc M5 3 = rc M3 3 := rc_eo kq6.2.2 (fun a ha => by have := trA_iff.mp ha; omega)
              rw [e1]; funext j; by_cases hj : nj j
              · rw [nn_rc (cb := 3) hj, pnM3 j hj]; exact hn99 j hj
              · rw [rc_nv (kq4.2.2 3 (by decide)) (kq4.2.2 8 (by decide)) (kq4.2.2 9 (by decide)) (kq4.2.2 10 (by decide)) hj]; exact hoth j hj), (hTM5)⟩
  · exfalso; omega
