/-! the class on paper: stains laid out -/
theorem ct_Paper_stain {xs : Nat → Int} {L d : Nat} {sh : List (Nat × Nat)} {M0 : Nat → Nat → Int} (hd : 1 ≤ d) (hW : px_W0 <+: sh) (hF : px_Fx M0) (hG : px_RG sh M0)  {w p : Nat} (hw8 : w < 8) (hp6 : p < 16) : ∃ v M, (px_qk sh [] M0 M ∧ (v = M0 177 (16 * w + p))) ∧ px_Cl xs L d 131 [.ref 175, .int (iI (((w : Nat) : Int))), .int (iI (((p : Nat) : Int)))] (sh, M0) (some (.int (iI v))) (sh, M) := by
  obtain ⟨d, rfl⟩ : ∃ e, d = e + 1 := ⟨d - 1, by omega⟩
  have q0 : px_qk sh [] M0 M0 := ⟨hF, hG, eo_rf⟩
  refine vc_i (Nat.le_of_ble_eq_true rfl) ?_
  show px_R xs L d 131 (0, [.ref 175, .int (iI (((w : Nat) : Int))), .int (iI (((p : Nat) : Int)))], [], (sh, M0)) (fun r h' => ∃ v M', r = some (.int (iI v)) ∧ h' = (sh, M') ∧ px_qk sh [] M0 M' ∧ v = M0 177 (16 * w + p))
  refine rr_aload_n pf_131_0 rfl ?_
  refine rr_getR pf_131_1 po_131 pg_2_22 rfl (ws_175 hW) (by decide) (wr_175_5 q0.1) ?_
  refine rr_iload_n pf_131_4 rfl ?_
  refine rr_bipush pf_131_5 (by decide) ?_
  refine rr_imul pf_131_7 ?_
  refine rr_iload_n pf_131_8 rfl ?_
  refine rr_iadd pf_131_9 ?_
  refine vr_iald (j := (16 * w + p)) q0 pf_131_10 (ws_177 hW) (by omega) (by omega) (by decide) (fun x1 hx1 rx1 => ?_)
  refine rr_iret pf_131_11 pt_131 ⟨_, M0, rfl, rfl, q0, (by assumption)⟩
theorem lp_Paper_fillStains_2 {xs : Nat → Int} {L d : Nat} {sh : List (Nat × Nat)} (hd : 5 ≤ d) (hW : px_W0 <+: sh) {M0 : Nat → Nat → Int}  (hρ : sp_ok (rc M0 3)) {lw : List sp_C} (hlw : px_lw sh M0 3 lw) {p : Nat} (hp6 : p < 16)  {Q : Option Value → px_H → Prop} (kx : ∀ (w : Nat) (M : Nat → Nat → Int), px_qk sh [2, 13, 177] M0 M → (∀ j, M 177 j = if j % 16 = p ∧ ((j / 16 : Nat) : Int) < rc M0 3 0 then sp_stain lw (rc M0 3) (j / 16) p else M0 177 j) → px_R xs L d 129 (39, [.ref 175, .int (iI (((p : Nat) : Int))), .int (iI (((w : Nat) : Int)))], [], (sh, M)) Q)  : ∀ (mz : Nat) (w : Nat) (M : Nat → Nat → Int), 8 - w = mz → px_qk sh [2, 13, 177] M0 M → ((w : Int) ≤ rc M0 3 0) → (∀ j, M 177 j = if j % 16 = p ∧ ((j / 16 : Nat) : Int) < ((w : Nat) : Int) then sp_stain lw (rc M0 3) (j / 16) p else M0 177 j) → px_R xs L d 129 (2, [.ref 175, .int (iI (((p : Nat) : Int))), .int (iI (((w : Nat) : Int)))], [], (sh, M)) Q := by
  intro mz
  induction mz using Nat.strongRecOn with
  | _ mz ih =>
    intro w M hm hq hw hz
    have h0 := hρ.1
    refine rr_iload_n pf_129_2 rfl ?_
    refine rr_aload_n pf_129_3 rfl ?_
    refine rr_getR pf_129_4 po_129 pg_2_65 rfl (ws_175 hW) (by decide) (wr_175_3 hq.1) ?_
    refine vr_getI hq pf_129_7 po_129 pg_2_77 rfl (ws_3 hW) (by decide) (fun x1 hx1 rx1 => ?_)
    rw [hq.2.2 3 (by decide)] at hx1
    change x1 = rc M0 3 0 at hx1
    refine rr_icmp_ge 39 pf_129_10 (by decide) (by unfold rg; omega) rx1 (fun c2 => ?_) (fun c2 => ?_)
    · exact kx w M hq (by intro j; rw [hz j, show ((w : Nat) : Int) = rc M0 3 0 by omega])
    · refine rr_aload_n pf_129_13 rfl ?_
      refine rr_getR pf_129_14 po_129 pg_2_22 rfl (ws_175 hW) (by decide) (wr_175_5 hq.1) ?_
      refine rr_iload_n pf_129_17 rfl ?_
      refine rr_bipush pf_129_18 (by decide) ?_
      refine rr_imul pf_129_20 ?_
      refine rr_iload_n pf_129_21 rfl ?_
      refine rr_iadd pf_129_22 ?_
      refine rr_aload_n pf_129_23 rfl ?_
      refine rr_getR pf_129_24 po_129 pg_2_65 rfl (ws_175 hW) (by decide) (wr_175_3 hq.1) ?_
      refine rr_iload_n pf_129_27 rfl ?_
      refine rr_iload_n pf_129_28 rfl ?_
      obtain ⟨M3, kq4, hcM3⟩ := ct_Church_stainOf (xs := xs) (L := L) (d := d) (cb := 3) (w := w) (p := p) (by omega) hW hq.1 hq.2.1 (show px_ch 3 by unfold px_ch; decide) (by rw [rc_eo hq.2.2 (by decide)]; exact hρ) (lw_eo hlw hq.2.2 (by decide) (by decide) (by decide)) (by omega) (by omega)
      rw [rc_eo hq.2.2 (by decide)] at hcM3
      have q4 := qk_trm hq kq4 (by decide)
      refine rr_cV2 pf_129_29 po_129 pc_2_80 (ws_3 hW) po_27 (by decide) rfl hcM3 ?_
      have hsb := sp_stain_b lw (rc M0 3) w p
      refine vr_iast (j := (16 * w + p)) hW q4 pf_129_32 (ws_177 hW) (by omega) (by omega) (by decide) (by unfold rg; omega) (by decide) (fun M5 eM5 q6 => ?_)
      refine rr_iinc pf_129_33 rfl (fun y => [.ref 175, .int (iI (((p : Nat) : Int))), .int (iI (y))]) (fun _ => rfl) (fun y7 hy7 => ?_)
      refine rr_goto 2 pf_129_36 (by decide) ?_
      obtain ⟨nz8, hnz8, rfl⟩ : ∃ zz : Nat, zz = 1 + w ∧ y7 = ((zz : Nat) : Int) := ⟨1 + w, rfl, by omega⟩
      exact ih _ (by omega) nz8 M5 rfl q6 (by omega) (by
                  intro j
                  rw [eM5, ask_up]
                  by_cases hj : j = 16 * w + p
                  · rw [if_pos hj, if_pos (by omega), show j / 16 = w by omega]
                  · rw [if_neg hj, kq4.2.2 177 (by decide), hz j]
                    by_cases hc : j % 16 = p ∧ ((j / 16 : Nat) : Int) < ((w : Nat) : Int)
                    · rw [if_pos hc, if_pos (by omega)]
                    · rw [if_neg hc, if_neg (by omega)])
theorem ct_Paper_fillStains {xs : Nat → Int} {L d : Nat} {sh : List (Nat × Nat)} {M0 : Nat → Nat → Int} (hd : 6 ≤ d) (hW : px_W0 <+: sh) (hF : px_Fx M0) (hG : px_RG sh M0)  (hρ : sp_ok (rc M0 3)) {lw : List sp_C} (hlw : px_lw sh M0 3 lw) {p : Nat} (hp6 : p < 16) : ∃ M, (px_qk sh [2, 13, 177] M0 M ∧ (∀ j, M 177 j = if j % 16 = p ∧ ((j / 16 : Nat) : Int) < rc M0 3 0 then sp_stain lw (rc M0 3) (j / 16) p else M0 177 j)) ∧ px_Cl xs L d 129 [.ref 175, .int (iI (((p : Nat) : Int)))] (sh, M0) (none) (sh, M) := by
  obtain ⟨d, rfl⟩ : ∃ e, d = e + 1 := ⟨d - 1, by omega⟩
  have q0 : px_qk sh [2, 13, 177] M0 M0 := ⟨hF, hG, eo_rf⟩
  refine vc_n (Nat.le_of_ble_eq_true rfl) ?_
  show px_R xs L d 129 (0, [.ref 175, .int (iI (((p : Nat) : Int))), px_jk], [], (sh, M0)) (fun r h' => r = none ∧ ∃ M', h' = (sh, M') ∧ px_qk sh [2, 13, 177] M0 M' ∧ (∀ j, M' 177 j = if j % 16 = p ∧ ((j / 16 : Nat) : Int) < rc M0 3 0 then sp_stain lw (rc M0 3) (j / 16) p else M0 177 j))
  refine rr_iconst pf_129_0 ?_
  refine rr_istore_n pf_129_1 (fun y => [.ref 175, .int (iI (((p : Nat) : Int))), .int (iI (y))]) (Nat.le_of_ble_eq_true rfl) (fun _ => rfl) (fun y1 hy1 => ?_)
  obtain ⟨nz2, hnz2, rfl⟩ : ∃ zz : Nat, zz = 0 ∧ y1 = ((zz : Nat) : Int) := ⟨0, rfl, by omega⟩
  refine lp_Paper_fillStains_2 (xs := xs) (L := L) (d := d) (by omega) hW hρ hlw hp6 (fun w_3  M4 q5 xz_M4 => ?_) _ nz2 M0 rfl q0 (by have := hρ.1; omega) (by intro j; rw [if_neg (by omega)])
  refine rr_vret pf_129_39 pt_129 ⟨rfl, M4, rfl, q5, (xz_M4)⟩
theorem lp_Paper_fillAllStains_2 {xs : Nat → Int} {L d : Nat} {sh : List (Nat × Nat)} (hd : 6 ≤ d) (hW : px_W0 <+: sh) {M0 : Nat → Nat → Int}  (hρ : sp_ok (rc M0 3)) {lw : List sp_C} (hlw : px_lw sh M0 3 lw)  {Q : Option Value → px_H → Prop} (kx : ∀ (p : Nat) (M : Nat → Nat → Int), px_qk sh [2, 13, 177] M0 M → (∀ j : Nat, ((j / 16 : Nat) : Int) < rc M0 3 0 → M 177 j = sp_stain lw (rc M0 3) (j / 16) (j % 16)) → px_R xs L d 145 (19, [.ref 175, .int (iI (((p : Nat) : Int)))], [], (sh, M)) Q)  : ∀ (mz : Nat) (p : Nat) (M : Nat → Nat → Int), 16 - p = mz → px_qk sh [2, 13, 177] M0 M → (p ≤ 16) → (∀ j : Nat, j % 16 < p → ((j / 16 : Nat) : Int) < rc M0 3 0 → M 177 j = sp_stain lw (rc M0 3) (j / 16) (j % 16)) → px_R xs L d 145 (2, [.ref 175, .int (iI (((p : Nat) : Int)))], [], (sh, M)) Q := by
  intro mz
  induction mz using Nat.strongRecOn with
  | _ mz ih =>
    intro p M hm hq hp hz
    refine rr_iload_n pf_145_2 rfl ?_
    refine rr_bipush pf_145_3 (by decide) ?_
    refine rr_icmp_ge 19 pf_145_5 (by decide) (by unfold rg; omega) (by unfold rg; omega) (fun c1 => ?_) (fun c1 => ?_)
    · exact kx p M hq (by intro j hj; exact hz j (by omega) hj)
    · refine rr_aload_n pf_145_8 rfl ?_
      refine rr_iload_n pf_145_9 rfl ?_
      obtain ⟨M2, ⟨kq3, pz_M2⟩, hcM2⟩ := ct_Paper_fillStains (xs := xs) (L := L) (d := d) (p := p) (lw := lw) (by omega) hW hq.1 hq.2.1 (by rw [rc_eo hq.2.2 (by decide)]; exact hρ) (lw_eo hlw hq.2.2 (by decide) (by decide) (by decide)) (by omega)
      have q3 := qk_trm hq kq3 (by decide)
      refine rr_cV1 pf_145_10 po_145 pc_2_84 (ws_175 hW) po_129 (by decide) rfl hcM2 ?_
      refine rr_iinc pf_145_13 rfl (fun y => [.ref 175, .int (iI (y))]) (fun _ => rfl) (fun y5 hy5 => ?_)
      refine rr_goto 2 pf_145_16 (by decide) ?_
      obtain ⟨nz6, hnz6, rfl⟩ : ∃ zz : Nat, zz = 1 + p ∧ y5 = ((zz : Nat) : Int) := ⟨1 + p, rfl, by omega⟩
      exact ih _ (by omega) nz6 M2 rfl q3 (by omega) (by
                  intro j hj hj2
                  rw [pz_M2 j, rc_eo hq.2.2 (by decide)]
                  by_cases hc : j % 16 = p
                  · rw [if_pos ⟨hc, hj2⟩, hc]
                  · rw [if_neg (fun z => hc z.1)]; exact hz j (by omega) hj2)
theorem ct_Paper_fillAllStains {xs : Nat → Int} {L d : Nat} {sh : List (Nat × Nat)} {M0 : Nat → Nat → Int} (hd : 7 ≤ d) (hW : px_W0 <+: sh) (hF : px_Fx M0) (hG : px_RG sh M0)  (hρ : sp_ok (rc M0 3)) {lw : List sp_C} (hlw : px_lw sh M0 3 lw) : ∃ M, (px_qk sh [2, 13, 177] M0 M ∧ (∀ j : Nat, ((j / 16 : Nat) : Int) < rc M0 3 0 → M 177 j = sp_stain lw (rc M0 3) (j / 16) (j % 16))) ∧ px_Cl xs L d 145 [.ref 175] (sh, M0) (none) (sh, M) := by
  obtain ⟨d, rfl⟩ : ∃ e, d = e + 1 := ⟨d - 1, by omega⟩
  have q0 : px_qk sh [2, 13, 177] M0 M0 := ⟨hF, hG, eo_rf⟩
  refine vc_n (Nat.le_of_ble_eq_true rfl) ?_
  show px_R xs L d 145 (0, [.ref 175, px_jk], [], (sh, M0)) (fun r h' => r = none ∧ ∃ M', h' = (sh, M') ∧ px_qk sh [2, 13, 177] M0 M' ∧ (∀ j : Nat, ((j / 16 : Nat) : Int) < rc M0 3 0 → M' 177 j = sp_stain lw (rc M0 3) (j / 16) (j % 16)))
  refine rr_iconst pf_145_0 ?_
  refine rr_istore_n pf_145_1 (fun y => [.ref 175, .int (iI (y))]) (Nat.le_of_ble_eq_true rfl) (fun _ => rfl) (fun y1 hy1 => ?_)
  obtain ⟨nz2, hnz2, rfl⟩ : ∃ zz : Nat, zz = 0 ∧ y1 = ((zz : Nat) : Int) := ⟨0, rfl, by omega⟩
  refine lp_Paper_fillAllStains_2 (xs := xs) (L := L) (d := d) (by omega) hW hρ hlw (fun p_3  M4 q5 xz_M4 => ?_) _ nz2 M0 rfl q0 (by omega) (by intro j hj; exfalso; omega)
  refine rr_vret pf_145_19 pt_145 ⟨rfl, M4, rfl, q5, (xz_M4)⟩
