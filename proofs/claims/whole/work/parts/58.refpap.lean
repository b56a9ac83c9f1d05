/-! the reference: papers -/
theorem rup_id {ρ : Nat → Int} {i : Nat} : rup ρ i (ρ i) = ρ := by
  funext j
  unfold rup
  split
  · rename_i h; rw [h]
  · rfl
theorem rup_rup {ρ : Nat → Int} {i : Nat} {x y : Int} : rup (rup ρ i x) i y = rup ρ i y := by
  funext j
  unfold rup
  split <;> rfl
theorem c230 {M M2 : Nat → Nat → Int} {i : Nat} {x y : Int} (e : M2 230 = px_up M 230 i x 230) (h : y = M 230 i) : px_up M2 230 i y 230 = M 230 := by
  rw [up_self, e, up_self, h]
  funext j
  split
  · rename_i hj; rw [hj]
  · rename_i hj; exact if_neg hj
theorem ok_force {ρ : Nat → Int} (h : sp_ok ρ) {l : Int} (hl : -1 ≤ l ∧ l < ρ 3) : sp_ok (rup ρ 4 l) := by
  obtain ⟨a0, a1, a2, a3, a4, a5, a6, a7, a8, a9, b0, b1, b2, b3, b4⟩ := h
  unfold sp_ok
  refine ⟨a0, a1, a2, a3, ⟨?_, ?_⟩, a5, a6, a7, a8, fun i hi => ?_, fun i hi => ?_, fun i hi => ?_, fun i hi => ?_, fun i hi => ?_, fun i hi => ?_⟩
  · rw [rup_s]; omega
  · rw [rup_s, rup_n (by omega)]; omega
  · rw [rup_n (by omega)]; exact a9 i hi
  · rw [rup_n (by omega)]; exact b0 i hi
  · rw [rup_n (by omega)]; exact b1 i hi
  · rw [rup_n (by omega)]; exact b2 i hi
  · rw [rup_n (by omega)]; exact b3 i hi
  · rw [rup_n (by omega), rup_n (by omega), rup_n (by omega)]; exact b4 i hi
theorem from_force {lw : List sp_C} {ρ : Nat → Int} {l : Int} (p : Nat) : sp_from lw (rup ρ 4 l) p = sp_from lw ρ p := by
  unfold sp_from sp_envB sp_away sp_hue
  rw [rup_n (by omega), rup_n (by omega), rup_n (by omega), rup_n (by omega), rup_n (by omega), rup_n (by omega)]
theorem nblk_force {lw : List sp_C} {ρ : Nat → Int} {l : Int} : ∀ n, sp_nblk lw (rup ρ 4 l) n = sp_nblk lw ρ n := by
  intro n
  induction n with
  | zero => rfl
  | succ n ih =>
    simp only [sp_nblk]
    rw [ih, from_force]
    unfold sp_sum sp_hue
    rw [rup_n (by omega), rup_n (by omega), rup_n (by omega)]
theorem ct_R_blackened {xs : Nat → Int} {L d : Nat} {sh : List (Nat × Nat)} {M0 : Nat → Nat → Int} (hd : 14 ≤ d) (hW : px_W0 <+: sh) (hF : px_Fx M0) (hG : px_RG sh M0)  (hρ : sp_ok (rr_ M0)) (hord : M0 228 20 = 0) {l : Int} (hl0 : rg l) {lw2 : List sp_C} (hlw2 : (l = -1 ∨ 0 ≤ l ∧ l ≤ rr_ M0 3 - 1) → ∀ M2 : Nat → Nat → Int, (∀ j, j ≠ 4 → M2 230 j = M0 230 j) → M2 230 4 = l → px_lwR M2 lw2) : ∃ v M, (px_qk sh [228, 230, 246, 248] M0 M ∧ (v = sp_bln lw2 (rr_ M0) l) ∧ (M 230 = M0 230) ∧ (rz [] M0 M)) ∧ px_Cl xs L d 289 [.ref 228, .int (iI (l))] (sh, M0) (some (.int (iI v))) (sh, M) := by
  obtain ⟨d, rfl⟩ : ∃ e, d = e + 1 := ⟨d - 1, by omega⟩
  have q0 : px_qk sh [228, 230, 246, 248] M0 M0 := ⟨hF, hG, eo_rf⟩
  refine vc_i (Nat.le_of_ble_eq_true rfl) ?_
  show px_R xs L d 289 (0, [.ref 228, .int (iI (l)), px_jk, px_jk], [], (sh, M0)) (fun r h' => ∃ v M', r = some (.int (iI v)) ∧ h' = (sh, M') ∧ px_qk sh [228, 230, 246, 248] M0 M' ∧ v = sp_bln lw2 (rr_ M0) l ∧ M' 230 = M0 230 ∧ rz [] M0 M')
  refine rr_aload_n pf_289_0 rfl ?_
  refine rr_iconst pf_289_1 ?_
  refine vr_putI hW q0 pf_289_2 po_289 pg_9_177 (Or.inl rfl) rfl (ws_228 hW) (by decide) (by unfold rg; omega) (by decide) (fun M1 eM1 q2 => ?_)
  have rq3 := rz_up (rz_rf [] M0) eM1 (by decide)
  have row4 := (rr_eq (M := M0) (M2 := M1) (by rw [eM1, ask_ne (by decide)])).trans (rfl : rr_ M0 = rr_ M0)
  have ninerow4 := r9_tr (r9_rf M0) (r9_eq (M := M0) (M2 := M1) (by rw [eM1, ask_ne (by decide)]))
  have e5 : M1 230 = M0 230 := (show M1 230 = M0 230 by rw [eM1, ask_ne (by decide)]).trans (rfl : M0 230 = M0 230)
  refine rr_aload_n pf_289_5 rfl ?_
  refine rr_iload_n pf_289_6 rfl ?_
  refine rr_cV1 pf_289_7 po_289 pc_9_424 (ws_228 hW) po_247 (by decide) rfl (ct_R_isLawN (n := rr_ M0 3) (by omega) hW q2.1 q2.2.1 hl0 (by rw [e5]; exact rr_at (by omega))) ?_
  refine rr_ifb_ne 15 pf_289_10 (by decide) (fun c6 => ?_) (fun c6 => ?_)
  · have h3 := hρ.2.2.2.1
    refine rr_aload_n pf_289_15 rfl ?_
    refine rr_getR pf_289_16 po_289 pg_9_13 rfl (ws_228 hW) (by decide) (wr_228_3 q2.1) ?_
    refine rr_iconst pf_289_19 ?_
    refine vr_iald (j := 4) q2 pf_289_20 (ws_230 hW) (by omega) (by omega) (by decide) (fun x7 hx7 rx7 => ?_)
    rw [e5] at hx7
    have h20 : x7 = M1 230 4 := by rw [e5]; exact hx7
    refine rr_istore_n pf_289_21 (fun y => [.ref 228, .int (iI (l)), .int (iI (y)), px_jk]) (Nat.le_of_ble_eq_true rfl) (fun _ => rfl) (fun y8 hy8 => ?_)
    have ry8 : rg y8 := hy8 ▸ rx7
    refine rr_aload_n pf_289_22 rfl ?_
    refine rr_getR pf_289_23 po_289 pg_9_13 rfl (ws_228 hW) (by decide) (wr_228_3 q2.1) ?_
    refine rr_iconst pf_289_26 ?_
    refine rr_iload_n pf_289_27 rfl ?_
    refine vr_iast (j := 4) hW q2 pf_289_28 (ws_230 hW) (by omega) (by omega) (by decide) hl0 (by decide) (fun M9 eM9 q10 => ?_)
    have rq11 := rz_ne rq3 eM9 (by decide)
    have row12 := rr_w row4 eM9 (by omega)
    have ninerow12 := r9_up ninerow4 eM9 (by omega)
    refine rr_aload_n pf_289_29 rfl ?_
    obtain ⟨r15, M13, ⟨kq14, pv_M13, pf_M13⟩, hcM13⟩ := ct_R_blackOnes (xs := xs) (L := L) (d := d) (lw := lw2) (by omega) hW q10.1 q10.2.1 (by rw [row12]; exact ok_force hρ (by omega)) (hlw2 (by omega) _ (fun j hj => by rw [eM9, up_ne hj, e5]) (by rw [eM9, up_s])) ((rq11 20 (by decide) (by decide)).trans hord)
    have q14 := qk_trm q10 kq14 (by decide)
    have rq16 := rz_rq rq11 pf_M13
    have row17 := (rr_eq (kq14.2.2 230 (by decide))).trans row12
    have ninerow17 := r9_tr ninerow12 (r9_eq (kq14.2.2 230 (by decide)))
    refine rr_cV0 pf_289_30 po_289 pc_9_556 (ws_228 hW) po_290 (by decide) rfl hcM13 ?_
    rw [row12, nblk_force] at pv_M13
    refine rr_istore_n pf_289_33 (fun y => [.ref 228, .int (iI (l)), .int (iI (y8)), .int (iI (y))]) (Nat.le_of_ble_eq_true rfl) (fun _ => rfl) (fun y18 hy18 => ?_)
    refine rr_aload_n pf_289_34 rfl ?_
    refine rr_getR pf_289_35 po_289 pg_9_13 rfl (ws_228 hW) (by decide) (wr_228_3 q14.1) ?_
    refine rr_iconst pf_289_38 ?_
    refine rr_iload_n pf_289_39 rfl ?_
    refine vr_iast (j := 4) hW q14 pf_289_40 (ws_230 hW) (by omega) (by omega) (by decide) ry8 (by decide) (fun M19 eM19 q20 => ?_)
    have rq21 := rz_ne rq16 eM19 (by decide)
    have row22 := rr_w row17 eM19 (by omega)
    have ninerow22 := r9_up ninerow17 eM19 (by omega)
    refine rr_iload_n pf_289_41 rfl ?_
    refine rr_iret pf_289_42 pt_289 ⟨_, M19, rfl, rfl, q20, (by unfold sp_bln; rw [if_pos (by omega)]; exact (by omega : y18 = r15).trans pv_M13), (by
              rw [eM19]
              refine (c230 (M := M1) (i := 4) (x := l) (by rw [kq14.2.2 230 (by decide), eM9]) (by omega)).trans e5), (rq21)⟩
  · refine rr_iconst pf_289_13 ?_
    refine rr_iret pf_289_14 pt_289 ⟨_, M1, rfl, rfl, q2, (by unfold sp_bln; rw [if_neg (by omega)]), (e5), (rq3)⟩
noncomputable def sp_cl1 (lw : List sp_C) (ρ : Nat → Int) (p : Nat) : Int := max 0 (sp_sum ρ p - sp_from lw ρ p + 1)
noncomputable def sp_clr (lw : List sp_C) (ρ : Nat → Int) (s : Int) : Int := if 0 ≤ s ∧ s ≤ 7 then (if 0 < sp_from lw ρ (sp_pane ρ s.toNat) ∧ 0 < sp_from lw ρ (sp_pane ρ s.toNat + 4) then sp_cl1 lw ρ (sp_pane ρ s.toNat) + sp_cl1 lw ρ (sp_pane ρ s.toNat + 4) else -1) else -1
theorem ct_R_cleared {xs : Nat → Int} {L d : Nat} {sh : List (Nat × Nat)} {M0 : Nat → Nat → Int} (hd : 14 ≤ d) (hW : px_W0 <+: sh) (hF : px_Fx M0) (hG : px_RG sh M0)  (hρ : sp_ok (rr_ M0)) {lw : List sp_C} (hlw : px_lwR M0 lw) (hord : M0 228 20 = 0) {s : Int} (hs0 : rg s) : ∃ v M, (px_qk sh [228, 246, 248] M0 M ∧ (v = sp_clr lw (rr_ M0) s) ∧ (rz [] M0 M)) ∧ px_Cl xs L d 279 [.ref 228, .int (iI (s))] (sh, M0) (some (.int (iI v))) (sh, M) := by
  obtain ⟨d, rfl⟩ : ∃ e, d = e + 1 := ⟨d - 1, by omega⟩
  have q0 : px_qk sh [228, 246, 248] M0 M0 := ⟨hF, hG, eo_rf⟩
  refine vc_i (Nat.le_of_ble_eq_true rfl) ?_
  show px_R xs L d 279 (0, [.ref 228, .int (iI (s)), px_jk, px_jk, px_jk, px_jk, px_jk], [], (sh, M0)) (fun r h' => ∃ v M', r = some (.int (iI v)) ∧ h' = (sh, M') ∧ px_qk sh [228, 246, 248] M0 M' ∧ v = sp_clr lw (rr_ M0) s ∧ rz [] M0 M')
  refine rr_aload_n pf_279_0 rfl ?_
  refine rr_iconst pf_279_1 ?_
  refine vr_putI hW q0 pf_279_2 po_279 pg_9_177 (Or.inl rfl) rfl (ws_228 hW) (by decide) (by unfold rg; omega) (by decide) (fun M1 eM1 q2 => ?_)
  have rq3 := rz_up (rz_rf [] M0) eM1 (by decide)
  refine rr_iload_n pf_279_5 rfl ?_
  refine rr_cS1 pf_279_6 po_279 pc_9_240 (by decide) rfl (ct_R_isSeat (by omega) hs0) ?_
  refine rr_ifb_ne 14 pf_279_9 (by decide) (fun c4 => ?_) (fun c4 => ?_)
  · refine rr_iconst pf_279_14 ?_
    refine rr_istore_n pf_279_15 (fun y => [.ref 228, .int (iI (s)), .int (iI (y)), px_jk, px_jk, px_jk, px_jk]) (Nat.le_of_ble_eq_true rfl) (fun _ => rfl) (fun y5 hy5 => ?_)
    refine rr_iconst pf_279_16 ?_
    refine rr_istore_n pf_279_17 (fun y => [.ref 228, .int (iI (s)), .int (iI (y5)), .int (iI (y)), px_jk, px_jk, px_jk]) (Nat.le_of_ble_eq_true rfl) (fun _ => rfl) (fun y6 hy6 => ?_)
    refine rr_iconst pf_279_18 ?_
    refine rr_istore pf_279_19 (fun y => [.ref 228, .int (iI (s)), .int (iI (y5)), .int (iI (y6)), .int (iI (y)), px_jk, px_jk]) (Nat.le_of_ble_eq_true rfl) (fun _ => rfl) (fun y7 hy7 => ?_)
    refine rr_iload pf_279_21 rfl ?_
    refine rr_iconst pf_279_23 ?_
    refine rr_icmp_ge 95 pf_279_24 (by decide) (by unfold rg; omega) (by unfold rg; omega) (fun c8 => ?_) (fun c8 => ?_)
    · exfalso; omega
    · refine rr_aload_n pf_279_27 rfl ?_
      refine rr_iload_n pf_279_28 rfl ?_
      have hpn9 := ct_R_paneOf (xs := xs) (L := L) (d := d) (s := (s).toNat) (by omega) hW q2.1 q2.2.1 (by rw [rr_q q2 (by decide)]; exact hρ) (by omega)
      rw [rr_q q2 (by decide)] at hpn9
      rw [show (((s).toNat : Nat) : Int) = s by omega] at hpn9
      obtain ⟨pn, hpn⟩ : ∃ x, x = sp_pane (rr_ M0) (s).toNat := ⟨_, rfl⟩
      rw [← hpn] at hpn9
      have hpb : pn + 4 < 16 := hpn ▸ sp_pane_b hρ (by omega)
      refine rr_cV1 pf_279_29 po_279 pc_9_475 (ws_228 hW) po_209 (by decide) rfl hpn9 ?_
      refine rr_iconst pf_279_32 ?_
      refine rr_iload pf_279_33 rfl ?_
      refine rr_imul pf_279_35 ?_
      refine rr_iadd pf_279_36 ?_
      refine rr_istore pf_279_37 (fun y => [.ref 228, .int (iI (s)), .int (iI (y5)), .int (iI (y6)), .int (iI (y7)), .int (iI (y)), px_jk]) (Nat.le_of_ble_eq_true rfl) (fun _ => rfl) (fun y10 hy10 => ?_)
      refine rr_aload_n pf_279_39 rfl ?_
      refine rr_iload pf_279_40 rfl ?_
      have hsm11 := ct_R_sumOf1 (xs := xs) (L := L) (d := d) (p := pn) (by omega) hW q2.1 q2.2.1 (by omega)
      rw [rr_q q2 (by decide)] at hsm11
      rw [show ((pn : Nat) : Int) = y10 by omega] at hsm11
      have hsm11b := sp_sum_b hρ (p := pn) (by omega)
      refine rr_cV1 pf_279_42 po_279 pc_9_472 (ws_228 hW) po_202 (by decide) rfl hsm11 ?_
      refine rr_aload_n pf_279_45 rfl ?_
      refine rr_iload pf_279_46 rfl ?_
      obtain ⟨r14, M12, ⟨kq13, pv_M12, pf_M12⟩, hcM12⟩ := ct_R_blacksOf (xs := xs) (L := L) (d := d) (p := pn) (lw := lw) (by omega) hW q2.1 q2.2.1 (by rw [rr_q q2 (by decide)]; exact hρ) (lwR_q q2 (by decide) hlw) ((rq3 20 (by decide) (by decide)).trans hord) (by omega)
      rw [show ((pn : Nat) : Int) = y10 by omega] at hcM12
      have q13 := qk_trm q2 kq13 (by decide)
      rw [rr_q q2 (by decide)] at pv_M12
      have rq15 := rz_rq rq3 pf_M12
      refine rr_cV1 pf_279_48 po_279 pc_9_231 (ws_228 hW) po_200 (by decide) rfl hcM12 ?_
      have hfbM12 := sp_from_b lw (rr_ M0) (pn)
      refine rr_isub pf_279_51 ?_
      refine rr_istore pf_279_52 (fun y => [.ref 228, .int (iI (s)), .int (iI (y5)), .int (iI (y6)), .int (iI (y7)), .int (iI (y10)), .int (iI (y))]) (Nat.le_of_ble_eq_true rfl) (fun _ => rfl) (fun y16 hy16 => ?_)
      refine rr_iload_n pf_279_54 rfl ?_
      refine rr_iload pf_279_55 rfl ?_
      refine rr_if_lt 67 pf_279_57 (by decide) (by unfold rg; omega) (fun c17 => ?_) (fun c17 => ?_)
      · refine rr_iconst pf_279_67 ?_
        refine rr_iadd pf_279_68 ?_
        refine rr_istore_n pf_279_69 (fun y => [.ref 228, .int (iI (s)), .int (iI (y)), .int (iI (y6)), .int (iI (y7)), .int (iI (y10)), .int (iI (y16))]) (Nat.le_of_ble_eq_true rfl) (fun _ => rfl) (fun y18 hy18 => ?_)
        refine rr_iload_n pf_279_70 rfl ?_
        refine rr_if_eq 87 pf_279_71 (by decide) (by unfold rg; omega) (fun c19 => ?_) (fun c19 => ?_)
        · exfalso; omega
        · refine rr_aload_n pf_279_74 rfl ?_
          refine rr_iload pf_279_75 rfl ?_
          obtain ⟨r22, M20, ⟨kq21, pv_M20, pf_M20⟩, hcM20⟩ := ct_R_blacksOf (xs := xs) (L := L) (d := d) (p := pn) (lw := lw) (by omega) hW q13.1 q13.2.1 (by rw [rr_q q13 (by decide)]; exact hρ) (lwR_q q13 (by decide) hlw) ((rq15 20 (by decide) (by decide)).trans hord) (by omega)
          rw [show ((pn : Nat) : Int) = y10 by omega] at hcM20
          have q21 := qk_trm q13 kq21 (by decide)
          rw [rr_q q13 (by decide)] at pv_M20
          have rq23 := rz_rq rq15 pf_M20
          refine rr_cV1 pf_279_77 po_279 pc_9_231 (ws_228 hW) po_200 (by decide) rfl hcM20 ?_
          have hfbM20 := sp_from_b lw (rr_ M0) (pn)
          refine rr_if_le 87 pf_279_80 (by decide) (by unfold rg; omega) (fun c24 => ?_) (fun c24 => ?_)
          · refine rr_iconst pf_279_87 ?_
            refine rr_istore_n pf_279_88 (fun y => [.ref 228, .int (iI (s)), .int (iI (y18)), .int (iI (y)), .int (iI (y7)), .int (iI (y10)), .int (iI (y16))]) (Nat.le_of_ble_eq_true rfl) (fun _ => rfl) (fun y25 hy25 => ?_)
            refine rr_iinc pf_279_89 rfl (fun y => [.ref 228, .int (iI (s)), .int (iI (y18)), .int (iI (y25)), .int (iI (y)), .int (iI (y10)), .int (iI (y16))]) (fun _ => rfl) (fun y26 hy26 => ?_)
            refine rr_goto 21 pf_279_92 (by decide) ?_
            refine rr_iload pf_279_21 rfl ?_
            refine rr_iconst pf_279_23 ?_
            refine rr_icmp_ge 95 pf_279_24 (by decide) (by unfold rg; omega) (by unfold rg; omega) (fun c27 => ?_) (fun c27 => ?_)
            · exfalso; omega
            · refine rr_aload_n pf_279_27 rfl ?_
              refine rr_iload_n pf_279_28 rfl ?_
              have hpn28 := ct_R_paneOf (xs := xs) (L := L) (d := d) (s := (s).toNat) (by omega) hW q21.1 q21.2.1 (by rw [rr_q q21 (by decide)]; exact hρ) (by omega)
              rw [rr_q q21 (by decide)] at hpn28
              rw [show (((s).toNat : Nat) : Int) = s by omega] at hpn28
              rw [← hpn] at hpn28
              refine rr_cV1 pf_279_29 po_279 pc_9_475 (ws_228 hW) po_209 (by decide) rfl hpn28 ?_
              refine rr_iconst pf_279_32 ?_
              refine rr_iload pf_279_33 rfl ?_
              refine rr_imul pf_279_35 ?_
              refine rr_iadd pf_279_36 ?_
              refine rr_istore pf_279_37 (fun y => [.ref 228, .int (iI (s)), .int (iI (y18)), .int (iI (y25)), .int (iI (y26)), .int (iI (y)), .int (iI (y16))]) (Nat.le_of_ble_eq_true rfl) (fun _ => rfl) (fun y29 hy29 => ?_)
              refine rr_aload_n pf_279_39 rfl ?_
              refine rr_iload pf_279_40 rfl ?_
              have hsm30 := ct_R_sumOf1 (xs := xs) (L := L) (d := d) (p := 4 + pn) (by omega) hW q21.1 q21.2.1 (by omega)
              rw [rr_q q21 (by decide)] at hsm30
              rw [show ((4 + pn : Nat) : Int) = y29 by omega] at hsm30
              have hsm30b := sp_sum_b hρ (p := 4 + pn) (by omega)
              refine rr_cV1 pf_279_42 po_279 pc_9_472 (ws_228 hW) po_202 (by decide) rfl hsm30 ?_
              refine rr_aload_n pf_279_45 rfl ?_
              refine rr_iload pf_279_46 rfl ?_
              obtain ⟨r33, M31, ⟨kq32, pv_M31, pf_M31⟩, hcM31⟩ := ct_R_blacksOf (xs := xs) (L := L) (d := d) (p := 4 + pn) (lw := lw) (by omega) hW q21.1 q21.2.1 (by rw [rr_q q21 (by decide)]; exact hρ) (lwR_q q21 (by decide) hlw) ((rq23 20 (by decide) (by decide)).trans hord) (by omega)
              rw [show ((4 + pn : Nat) : Int) = y29 by omega] at hcM31
              have q32 := qk_trm q21 kq32 (by decide)
              rw [rr_q q21 (by decide)] at pv_M31
              have rq34 := rz_rq rq23 pf_M31
              refine rr_cV1 pf_279_48 po_279 pc_9_231 (ws_228 hW) po_200 (by decide) rfl hcM31 ?_
              have hfbM31 := sp_from_b lw (rr_ M0) ((4 + pn))
              refine rr_isub pf_279_51 ?_
              refine rr_istore pf_279_52 (fun y => [.ref 228, .int (iI (s)), .int (iI (y18)), .int (iI (y25)), .int (iI (y26)), .int (iI (y29)), .int (iI (y))]) (Nat.le_of_ble_eq_true rfl) (fun _ => rfl) (fun y35 hy35 => ?_)
              refine rr_iload_n pf_279_54 rfl ?_
              refine rr_iload pf_279_55 rfl ?_
              refine rr_if_lt 67 pf_279_57 (by decide) (by unfold rg; omega) (fun c36 => ?_) (fun c36 => ?_)
              · refine rr_iconst pf_279_67 ?_
                refine rr_iadd pf_279_68 ?_
                refine rr_istore_n pf_279_69 (fun y => [.ref 228, .int (iI (s)), .int (iI (y)), .int (iI (y25)), .int (iI (y26)), .int (iI (y29)), .int (iI (y35))]) (Nat.le_of_ble_eq_true rfl) (fun _ => rfl) (fun y37 hy37 => ?_)
                refine rr_iload_n pf_279_70 rfl ?_
                refine rr_if_eq 87 pf_279_71 (by decide) (by unfold rg; omega) (fun c38 => ?_) (fun c38 => ?_)
                · refine rr_iconst pf_279_87 ?_
                  refine rr_istore_n pf_279_88 (fun y => [.ref 228, .int (iI (s)), .int (iI (y37)), .int (iI (y)), .int (iI (y26)), .int (iI (y29)), .int (iI (y35))]) (Nat.le_of_ble_eq_true rfl) (fun _ => rfl) (fun y39 hy39 => ?_)
                  refine rr_iinc pf_279_89 rfl (fun y => [.ref 228, .int (iI (s)), .int (iI (y37)), .int (iI (y39)), .int (iI (y)), .int (iI (y29)), .int (iI (y35))]) (fun _ => rfl) (fun y40 hy40 => ?_)
                  refine rr_goto 21 pf_279_92 (by decide) ?_
                  refine rr_iload pf_279_21 rfl ?_
                  refine rr_iconst pf_279_23 ?_
                  refine rr_icmp_ge 95 pf_279_24 (by decide) (by unfold rg; omega) (by unfold rg; omega) (fun c41 => ?_) (fun c41 => ?_)
                  · refine rr_iload_n pf_279_95 rfl ?_
                    refine rr_if_eq 103 pf_279_96 (by decide) (by unfold rg; omega) (fun c42 => ?_) (fun c42 => ?_)
                    · refine rr_iconst pf_279_103 ?_
                      refine rr_iret pf_279_104 pt_279 ⟨_, M31, rfl, rfl, q32, (by unfold sp_clr; rw [if_pos (by omega), ← hpn, Nat.add_comm pn 4, if_neg (by omega)]), (rq34)⟩
                    · exfalso; omega
                  · exfalso; omega
                · exfalso; omega
              · refine rr_iload pf_279_60 rfl ?_
                refine rr_iconst pf_279_62 ?_
                refine rr_iadd pf_279_63 ?_
                refine rr_goto 68 pf_279_64 (by decide) ?_
                refine rr_iadd pf_279_68 ?_
                refine rr_istore_n pf_279_69 (fun y => [.ref 228, .int (iI (s)), .int (iI (y)), .int (iI (y25)), .int (iI (y26)), .int (iI (y29)), .int (iI (y35))]) (Nat.le_of_ble_eq_true rfl) (fun _ => rfl) (fun y43 hy43 => ?_)
                refine rr_iload_n pf_279_70 rfl ?_
                refine rr_if_eq 87 pf_279_71 (by decide) (by unfold rg; omega) (fun c44 => ?_) (fun c44 => ?_)
                · refine rr_iconst pf_279_87 ?_
                  refine rr_istore_n pf_279_88 (fun y => [.ref 228, .int (iI (s)), .int (iI (y43)), .int (iI (y)), .int (iI (y26)), .int (iI (y29)), .int (iI (y35))]) (Nat.le_of_ble_eq_true rfl) (fun _ => rfl) (fun y45 hy45 => ?_)
                  refine rr_iinc pf_279_89 rfl (fun y => [.ref 228, .int (iI (s)), .int (iI (y43)), .int (iI (y45)), .int (iI (y)), .int (iI (y29)), .int (iI (y35))]) (fun _ => rfl) (fun y46 hy46 => ?_)
                  refine rr_goto 21 pf_279_92 (by decide) ?_
                  refine rr_iload pf_279_21 rfl ?_
                  refine rr_iconst pf_279_23 ?_
                  refine rr_icmp_ge 95 pf_279_24 (by decide) (by unfold rg; omega) (by unfold rg; omega) (fun c47 => ?_) (fun c47 => ?_)
                  · refine rr_iload_n pf_279_95 rfl ?_
                    refine rr_if_eq 103 pf_279_96 (by decide) (by unfold rg; omega) (fun c48 => ?_) (fun c48 => ?_)
                    · refine rr_iconst pf_279_103 ?_
                      refine rr_iret pf_279_104 pt_279 ⟨_, M31, rfl, rfl, q32, (by unfold sp_clr; rw [if_pos (by omega), ← hpn, Nat.add_comm pn 4, if_neg (by omega)]), (rq34)⟩
                    · exfalso; omega
                  · exfalso; omega
                · exfalso; omega
          · refine rr_iconst pf_279_83 ?_
            refine rr_goto 88 pf_279_84 (by decide) ?_
            refine rr_istore_n pf_279_88 (fun y => [.ref 228, .int (iI (s)), .int (iI (y18)), .int (iI (y)), .int (iI (y7)), .int (iI (y10)), .int (iI (y16))]) (Nat.le_of_ble_eq_true rfl) (fun _ => rfl) (fun y49 hy49 => ?_)
            refine rr_iinc pf_279_89 rfl (fun y => [.ref 228, .int (iI (s)), .int (iI (y18)), .int (iI (y49)), .int (iI (y)), .int (iI (y10)), .int (iI (y16))]) (fun _ => rfl) (fun y50 hy50 => ?_)
            refine rr_goto 21 pf_279_92 (by decide) ?_
            refine rr_iload pf_279_21 rfl ?_
            refine rr_iconst pf_279_23 ?_
            refine rr_icmp_ge 95 pf_279_24 (by decide) (by unfold rg; omega) (by unfold rg; omega) (fun c51 => ?_) (fun c51 => ?_)
            · exfalso; omega
            · refine rr_aload_n pf_279_27 rfl ?_
              refine rr_iload_n pf_279_28 rfl ?_
              have hpn52 := ct_R_paneOf (xs := xs) (L := L) (d := d) (s := (s).toNat) (by omega) hW q21.1 q21.2.1 (by rw [rr_q q21 (by decide)]; exact hρ) (by omega)
              rw [rr_q q21 (by decide)] at hpn52
              rw [show (((s).toNat : Nat) : Int) = s by omega] at hpn52
              rw [← hpn] at hpn52
              refine rr_cV1 pf_279_29 po_279 pc_9_475 (ws_228 hW) po_209 (by decide) rfl hpn52 ?_
              refine rr_iconst pf_279_32 ?_
              refine rr_iload pf_279_33 rfl ?_
              refine rr_imul pf_279_35 ?_
              refine rr_iadd pf_279_36 ?_
              refine rr_istore pf_279_37 (fun y => [.ref 228, .int (iI (s)), .int (iI (y18)), .int (iI (y49)), .int (iI (y50)), .int (iI (y)), .int (iI (y16))]) (Nat.le_of_ble_eq_true rfl) (fun _ => rfl) (fun y53 hy53 => ?_)
              refine rr_aload_n pf_279_39 rfl ?_
              refine rr_iload pf_279_40 rfl ?_
              have hsm54 := ct_R_sumOf1 (xs := xs) (L := L) (d := d) (p := 4 + pn) (by omega) hW q21.1 q21.2.1 (by omega)
              rw [rr_q q21 (by decide)] at hsm54
              rw [show ((4 + pn : Nat) : Int) = y53 by omega] at hsm54
              have hsm54b := sp_sum_b hρ (p := 4 + pn) (by omega)
              refine rr_cV1 pf_279_42 po_279 pc_9_472 (ws_228 hW) po_202 (by decide) rfl hsm54 ?_
              refine rr_aload_n pf_279_45 rfl ?_
              refine rr_iload pf_279_46 rfl ?_
              obtain ⟨r57, M55, ⟨kq56, pv_M55, pf_M55⟩, hcM55⟩ := ct_R_blacksOf (xs := xs) (L := L) (d := d) (p := 4 + pn) (lw := lw) (by omega) hW q21.1 q21.2.1 (by rw [rr_q q21 (by decide)]; exact hρ) (lwR_q q21 (by decide) hlw) ((rq23 20 (by decide) (by decide)).trans hord) (by omega)
              rw [show ((4 + pn : Nat) : Int) = y53 by omega] at hcM55
              have q56 := qk_trm q21 kq56 (by decide)
              rw [rr_q q21 (by decide)] at pv_M55
              have rq58 := rz_rq rq23 pf_M55
              refine rr_cV1 pf_279_48 po_279 pc_9_231 (ws_228 hW) po_200 (by decide) rfl hcM55 ?_
              have hfbM55 := sp_from_b lw (rr_ M0) ((4 + pn))
              refine rr_isub pf_279_51 ?_
              refine rr_istore pf_279_52 (fun y => [.ref 228, .int (iI (s)), .int (iI (y18)), .int (iI (y49)), .int (iI (y50)), .int (iI (y53)), .int (iI (y))]) (Nat.le_of_ble_eq_true rfl) (fun _ => rfl) (fun y59 hy59 => ?_)
              refine rr_iload_n pf_279_54 rfl ?_
              refine rr_iload pf_279_55 rfl ?_
              refine rr_if_lt 67 pf_279_57 (by decide) (by unfold rg; omega) (fun c60 => ?_) (fun c60 => ?_)
              · refine rr_iconst pf_279_67 ?_
                refine rr_iadd pf_279_68 ?_
                refine rr_istore_n pf_279_69 (fun y => [.ref 228, .int (iI (s)), .int (iI (y)), .int (iI (y49)), .int (iI (y50)), .int (iI (y53)), .int (iI (y59))]) (Nat.le_of_ble_eq_true rfl) (fun _ => rfl) (fun y61 hy61 => ?_)
                refine rr_iload_n pf_279_70 rfl ?_
                refine rr_if_eq 87 pf_279_71 (by decide) (by unfold rg; omega) (fun c62 => ?_) (fun c62 => ?_)
                · exfalso; omega
                · refine rr_aload_n pf_279_74 rfl ?_
                  refine rr_iload pf_279_75 rfl ?_
                  obtain ⟨r65, M63, ⟨kq64, pv_M63, pf_M63⟩, hcM63⟩ := ct_R_blacksOf (xs := xs) (L := L) (d := d) (p := 4 + pn) (lw := lw) (by omega) hW q56.1 q56.2.1 (by rw [rr_q q56 (by decide)]; exact hρ) (lwR_q q56 (by decide) hlw) ((rq58 20 (by decide) (by decide)).trans hord) (by omega)
                  rw [show ((4 + pn : Nat) : Int) = y53 by omega] at hcM63
                  have q64 := qk_trm q56 kq64 (by decide)
                  rw [rr_q q56 (by decide)] at pv_M63
                  have rq66 := rz_rq rq58 pf_M63
                  refine rr_cV1 pf_279_77 po_279 pc_9_231 (ws_228 hW) po_200 (by decide) rfl hcM63 ?_
                  have hfbM63 := sp_from_b lw (rr_ M0) ((4 + pn))
                  refine rr_if_le 87 pf_279_80 (by decide) (by unfold rg; omega) (fun c67 => ?_) (fun c67 => ?_)
                  · refine rr_iconst pf_279_87 ?_
                    refine rr_istore_n pf_279_88 (fun y => [.ref 228, .int (iI (s)), .int (iI (y61)), .int (iI (y)), .int (iI (y50)), .int (iI (y53)), .int (iI (y59))]) (Nat.le_of_ble_eq_true rfl) (fun _ => rfl) (fun y68 hy68 => ?_)
                    refine rr_iinc pf_279_89 rfl (fun y => [.ref 228, .int (iI (s)), .int (iI (y61)), .int (iI (y68)), .int (iI (y)), .int (iI (y53)), .int (iI (y59))]) (fun _ => rfl) (fun y69 hy69 => ?_)
                    refine rr_goto 21 pf_279_92 (by decide) ?_
                    refine rr_iload pf_279_21 rfl ?_
                    refine rr_iconst pf_279_23 ?_
                    refine rr_icmp_ge 95 pf_279_24 (by decide) (by unfold rg; omega) (by unfold rg; omega) (fun c70 => ?_) (fun c70 => ?_)
                    · refine rr_iload_n pf_279_95 rfl ?_
                      refine rr_if_eq 103 pf_279_96 (by decide) (by unfold rg; omega) (fun c71 => ?_) (fun c71 => ?_)
                      · refine rr_iconst pf_279_103 ?_
                        refine rr_iret pf_279_104 pt_279 ⟨_, M63, rfl, rfl, q64, (by unfold sp_clr; rw [if_pos (by omega), ← hpn, Nat.add_comm pn 4, if_neg (by omega)]), (rq66)⟩
                      · exfalso; omega
                    · exfalso; omega
                  · refine rr_iconst pf_279_83 ?_
                    refine rr_goto 88 pf_279_84 (by decide) ?_
                    refine rr_istore_n pf_279_88 (fun y => [.ref 228, .int (iI (s)), .int (iI (y61)), .int (iI (y)), .int (iI (y50)), .int (iI (y53)), .int (iI (y59))]) (Nat.le_of_ble_eq_true rfl) (fun _ => rfl) (fun y72 hy72 => ?_)
                    refine rr_iinc pf_279_89 rfl (fun y => [.ref 228, .int (iI (s)), .int (iI (y61)), .int (iI (y72)), .int (iI (y)), .int (iI (y53)), .int (iI (y59))]) (fun _ => rfl) (fun y73 hy73 => ?_)
                    refine rr_goto 21 pf_279_92 (by decide) ?_
                    refine rr_iload pf_279_21 rfl ?_
                    refine rr_iconst pf_279_23 ?_
                    refine rr_icmp_ge 95 pf_279_24 (by decide) (by unfold rg; omega) (by unfold rg; omega) (fun c74 => ?_) (fun c74 => ?_)
                    · refine rr_iload_n pf_279_95 rfl ?_
                      refine rr_if_eq 103 pf_279_96 (by decide) (by unfold rg; omega) (fun c75 => ?_) (fun c75 => ?_)
                      · exfalso; omega
                      · refine rr_iload_n pf_279_99 rfl ?_
                        refine rr_goto 104 pf_279_100 (by decide) ?_
                        refine rr_iret pf_279_104 pt_279 ⟨_, M63, rfl, rfl, q64, (by unfold sp_clr; rw [if_pos (by omega), ← hpn, Nat.add_comm pn 4, if_pos ⟨by omega, by omega⟩]; unfold sp_cl1; omega), (rq66)⟩
                    · exfalso; omega
              · refine rr_iload pf_279_60 rfl ?_
                refine rr_iconst pf_279_62 ?_
                refine rr_iadd pf_279_63 ?_
                refine rr_goto 68 pf_279_64 (by decide) ?_
                refine rr_iadd pf_279_68 ?_
                refine rr_istore_n pf_279_69 (fun y => [.ref 228, .int (iI (s)), .int (iI (y)), .int (iI (y49)), .int (iI (y50)), .int (iI (y53)), .int (iI (y59))]) (Nat.le_of_ble_eq_true rfl) (fun _ => rfl) (fun y76 hy76 => ?_)
                refine rr_iload_n pf_279_70 rfl ?_
                refine rr_if_eq 87 pf_279_71 (by decide) (by unfold rg; omega) (fun c77 => ?_) (fun c77 => ?_)
                · exfalso; omega
                · refine rr_aload_n pf_279_74 rfl ?_
                  refine rr_iload pf_279_75 rfl ?_
                  obtain ⟨r80, M78, ⟨kq79, pv_M78, pf_M78⟩, hcM78⟩ := ct_R_blacksOf (xs := xs) (L := L) (d := d) (p := 4 + pn) (lw := lw) (by omega) hW q56.1 q56.2.1 (by rw [rr_q q56 (by decide)]; exact hρ) (lwR_q q56 (by decide) hlw) ((rq58 20 (by decide) (by decide)).trans hord) (by omega)
                  rw [show ((4 + pn : Nat) : Int) = y53 by omega] at hcM78
                  have q79 := qk_trm q56 kq79 (by decide)
                  rw [rr_q q56 (by decide)] at pv_M78
                  have rq81 := rz_rq rq58 pf_M78
                  refine rr_cV1 pf_279_77 po_279 pc_9_231 (ws_228 hW) po_200 (by decide) rfl hcM78 ?_
                  have hfbM78 := sp_from_b lw (rr_ M0) ((4 + pn))
                  refine rr_if_le 87 pf_279_80 (by decide) (by unfold rg; omega) (fun c82 => ?_) (fun c82 => ?_)
                  · refine rr_iconst pf_279_87 ?_
                    refine rr_istore_n pf_279_88 (fun y => [.ref 228, .int (iI (s)), .int (iI (y76)), .int (iI (y)), .int (iI (y50)), .int (iI (y53)), .int (iI (y59))]) (Nat.le_of_ble_eq_true rfl) (fun _ => rfl) (fun y83 hy83 => ?_)
                    refine rr_iinc pf_279_89 rfl (fun y => [.ref 228, .int (iI (s)), .int (iI (y76)), .int (iI (y83)), .int (iI (y)), .int (iI (y53)), .int (iI (y59))]) (fun _ => rfl) (fun y84 hy84 => ?_)
                    refine rr_goto 21 pf_279_92 (by decide) ?_
                    refine rr_iload pf_279_21 rfl ?_
                    refine rr_iconst pf_279_23 ?_
                    refine rr_icmp_ge 95 pf_279_24 (by decide) (by unfold rg; omega) (by unfold rg; omega) (fun c85 => ?_) (fun c85 => ?_)
                    · refine rr_iload_n pf_279_95 rfl ?_
                      refine rr_if_eq 103 pf_279_96 (by decide) (by unfold rg; omega) (fun c86 => ?_) (fun c86 => ?_)
                      · refine rr_iconst pf_279_103 ?_
                        refine rr_iret pf_279_104 pt_279 ⟨_, M78, rfl, rfl, q79, (by unfold sp_clr; rw [if_pos (by omega), ← hpn, Nat.add_comm pn 4, if_neg (by omega)]), (rq81)⟩
                      · exfalso; omega
                    · exfalso; omega
                  · refine rr_iconst pf_279_83 ?_
                    refine rr_goto 88 pf_279_84 (by decide) ?_
                    refine rr_istore_n pf_279_88 (fun y => [.ref 228, .int (iI (s)), .int (iI (y76)), .int (iI (y)), .int (iI (y50)), .int (iI (y53)), .int (iI (y59))]) (Nat.le_of_ble_eq_true rfl) (fun _ => rfl) (fun y87 hy87 => ?_)
                    refine rr_iinc pf_279_89 rfl (fun y => [.ref 228, .int (iI (s)), .int (iI (y76)), .int (iI (y87)), .int (iI (y)), .int (iI (y53)), .int (iI (y59))]) (fun _ => rfl) (fun y88 hy88 => ?_)
                    refine rr_goto 21 pf_279_92 (by decide) ?_
                    refine rr_iload pf_279_21 rfl ?_
                    refine rr_iconst pf_279_23 ?_
                    refine rr_icmp_ge 95 pf_279_24 (by decide) (by unfold rg; omega) (by unfold rg; omega) (fun c89 => ?_) (fun c89 => ?_)
                    · refine rr_iload_n pf_279_95 rfl ?_
                      refine rr_if_eq 103 pf_279_96 (by decide) (by unfold rg; omega) (fun c90 => ?_) (fun c90 => ?_)
                      · exfalso; omega
                      · refine rr_iload_n pf_279_99 rfl ?_
                        refine rr_goto 104 pf_279_100 (by decide) ?_
                        refine rr_iret pf_279_104 pt_279 ⟨_, M78, rfl, rfl, q79, (by unfold sp_clr; rw [if_pos (by omega), ← hpn, Nat.add_comm pn 4, if_pos ⟨by omega, by omega⟩]; unfold sp_cl1; omega), (rq81)⟩
                    · exfalso; omega
      · refine rr_iload pf_279_60 rfl ?_
        refine rr_iconst pf_279_62 ?_
        refine rr_iadd pf_279_63 ?_
        refine rr_goto 68 pf_279_64 (by decide) ?_
        refine rr_iadd pf_279_68 ?_
        refine rr_istore_n pf_279_69 (fun y => [.ref 228, .int (iI (s)), .int (iI (y)), .int (iI (y6)), .int (iI (y7)), .int (iI (y10)), .int (iI (y16))]) (Nat.le_of_ble_eq_true rfl) (fun _ => rfl) (fun y91 hy91 => ?_)
        refine rr_iload_n pf_279_70 rfl ?_
        refine rr_if_eq 87 pf_279_71 (by decide) (by unfold rg; omega) (fun c92 => ?_) (fun c92 => ?_)
        · exfalso; omega
        · refine rr_aload_n pf_279_74 rfl ?_
          refine rr_iload pf_279_75 rfl ?_
          obtain ⟨r95, M93, ⟨kq94, pv_M93, pf_M93⟩, hcM93⟩ := ct_R_blacksOf (xs := xs) (L := L) (d := d) (p := pn) (lw := lw) (by omega) hW q13.1 q13.2.1 (by rw [rr_q q13 (by decide)]; exact hρ) (lwR_q q13 (by decide) hlw) ((rq15 20 (by decide) (by decide)).trans hord) (by omega)
          rw [show ((pn : Nat) : Int) = y10 by omega] at hcM93
          have q94 := qk_trm q13 kq94 (by decide)
          rw [rr_q q13 (by decide)] at pv_M93
          have rq96 := rz_rq rq15 pf_M93
          refine rr_cV1 pf_279_77 po_279 pc_9_231 (ws_228 hW) po_200 (by decide) rfl hcM93 ?_
          have hfbM93 := sp_from_b lw (rr_ M0) (pn)
          refine rr_if_le 87 pf_279_80 (by decide) (by unfold rg; omega) (fun c97 => ?_) (fun c97 => ?_)
          · refine rr_iconst pf_279_87 ?_
            refine rr_istore_n pf_279_88 (fun y => [.ref 228, .int (iI (s)), .int (iI (y91)), .int (iI (y)), .int (iI (y7)), .int (iI (y10)), .int (iI (y16))]) (Nat.le_of_ble_eq_true rfl) (fun _ => rfl) (fun y98 hy98 => ?_)
            refine rr_iinc pf_279_89 rfl (fun y => [.ref 228, .int (iI (s)), .int (iI (y91)), .int (iI (y98)), .int (iI (y)), .int (iI (y10)), .int (iI (y16))]) (fun _ => rfl) (fun y99 hy99 => ?_)
            refine rr_goto 21 pf_279_92 (by decide) ?_
            refine rr_iload pf_279_21 rfl ?_
            refine rr_iconst pf_279_23 ?_
            refine rr_icmp_ge 95 pf_279_24 (by decide) (by unfold rg; omega) (by unfold rg; omega) (fun c100 => ?_) (fun c100 => ?_)
            · exfalso; omega
            · refine rr_aload_n pf_279_27 rfl ?_
              refine rr_iload_n pf_279_28 rfl ?_
              have hpn101 := ct_R_paneOf (xs := xs) (L := L) (d := d) (s := (s).toNat) (by omega) hW q94.1 q94.2.1 (by rw [rr_q q94 (by decide)]; exact hρ) (by omega)
              rw [rr_q q94 (by decide)] at hpn101
              rw [show (((s).toNat : Nat) : Int) = s by omega] at hpn101
              rw [← hpn] at hpn101
              refine rr_cV1 pf_279_29 po_279 pc_9_475 (ws_228 hW) po_209 (by decide) rfl hpn101 ?_
              refine rr_iconst pf_279_32 ?_
              refine rr_iload pf_279_33 rfl ?_
              refine rr_imul pf_279_35 ?_
              refine rr_iadd pf_279_36 ?_
              refine rr_istore pf_279_37 (fun y => [.ref 228, .int (iI (s)), .int (iI (y91)), .int (iI (y98)), .int (iI (y99)), .int (iI (y)), .int (iI (y16))]) (Nat.le_of_ble_eq_true rfl) (fun _ => rfl) (fun y102 hy102 => ?_)
              refine rr_aload_n pf_279_39 rfl ?_
              refine rr_iload pf_279_40 rfl ?_
              have hsm103 := ct_R_sumOf1 (xs := xs) (L := L) (d := d) (p := 4 + pn) (by omega) hW q94.1 q94.2.1 (by omega)
              rw [rr_q q94 (by decide)] at hsm103
              rw [show ((4 + pn : Nat) : Int) = y102 by omega] at hsm103
              have hsm103b := sp_sum_b hρ (p := 4 + pn) (by omega)
              refine rr_cV1 pf_279_42 po_279 pc_9_472 (ws_228 hW) po_202 (by decide) rfl hsm103 ?_
              refine rr_aload_n pf_279_45 rfl ?_
              refine rr_iload pf_279_46 rfl ?_
              obtain ⟨r106, M104, ⟨kq105, pv_M104, pf_M104⟩, hcM104⟩ := ct_R_blacksOf (xs := xs) (L := L) (d := d) (p := 4 + pn) (lw := lw) (by omega) hW q94.1 q94.2.1 (by rw [rr_q q94 (by decide)]; exact hρ) (lwR_q q94 (by decide) hlw) ((rq96 20 (by decide) (by decide)).trans hord) (by omega)
              rw [show ((4 + pn : Nat) : Int) = y102 by omega] at hcM104
              have q105 := qk_trm q94 kq105 (by decide)
              rw [rr_q q94 (by decide)] at pv_M104
              have rq107 := rz_rq rq96 pf_M104
              refine rr_cV1 pf_279_48 po_279 pc_9_231 (ws_228 hW) po_200 (by decide) rfl hcM104 ?_
              have hfbM104 := sp_from_b lw (rr_ M0) ((4 + pn))
              refine rr_isub pf_279_51 ?_
              refine rr_istore pf_279_52 (fun y => [.ref 228, .int (iI (s)), .int (iI (y91)), .int (iI (y98)), .int (iI (y99)), .int (iI (y102)), .int (iI (y))]) (Nat.le_of_ble_eq_true rfl) (fun _ => rfl) (fun y108 hy108 => ?_)
              refine rr_iload_n pf_279_54 rfl ?_
              refine rr_iload pf_279_55 rfl ?_
              refine rr_if_lt 67 pf_279_57 (by decide) (by unfold rg; omega) (fun c109 => ?_) (fun c109 => ?_)
              · refine rr_iconst pf_279_67 ?_
                refine rr_iadd pf_279_68 ?_
                refine rr_istore_n pf_279_69 (fun y => [.ref 228, .int (iI (s)), .int (iI (y)), .int (iI (y98)), .int (iI (y99)), .int (iI (y102)), .int (iI (y108))]) (Nat.le_of_ble_eq_true rfl) (fun _ => rfl) (fun y110 hy110 => ?_)
                refine rr_iload_n pf_279_70 rfl ?_
                refine rr_if_eq 87 pf_279_71 (by decide) (by unfold rg; omega) (fun c111 => ?_) (fun c111 => ?_)
                · refine rr_iconst pf_279_87 ?_
                  refine rr_istore_n pf_279_88 (fun y => [.ref 228, .int (iI (s)), .int (iI (y110)), .int (iI (y)), .int (iI (y99)), .int (iI (y102)), .int (iI (y108))]) (Nat.le_of_ble_eq_true rfl) (fun _ => rfl) (fun y112 hy112 => ?_)
                  refine rr_iinc pf_279_89 rfl (fun y => [.ref 228, .int (iI (s)), .int (iI (y110)), .int (iI (y112)), .int (iI (y)), .int (iI (y102)), .int (iI (y108))]) (fun _ => rfl) (fun y113 hy113 => ?_)
                  refine rr_goto 21 pf_279_92 (by decide) ?_
                  refine rr_iload pf_279_21 rfl ?_
                  refine rr_iconst pf_279_23 ?_
                  refine rr_icmp_ge 95 pf_279_24 (by decide) (by unfold rg; omega) (by unfold rg; omega) (fun c114 => ?_) (fun c114 => ?_)
                  · refine rr_iload_n pf_279_95 rfl ?_
                    refine rr_if_eq 103 pf_279_96 (by decide) (by unfold rg; omega) (fun c115 => ?_) (fun c115 => ?_)
                    · refine rr_iconst pf_279_103 ?_
                      refine rr_iret pf_279_104 pt_279 ⟨_, M104, rfl, rfl, q105, (by unfold sp_clr; rw [if_pos (by omega), ← hpn, Nat.add_comm pn 4, if_neg (by omega)]), (rq107)⟩
                    · exfalso; omega
                  · exfalso; omega
                · exfalso; omega
              · refine rr_iload pf_279_60 rfl ?_
                refine rr_iconst pf_279_62 ?_
                refine rr_iadd pf_279_63 ?_
                refine rr_goto 68 pf_279_64 (by decide) ?_
                refine rr_iadd pf_279_68 ?_
                refine rr_istore_n pf_279_69 (fun y => [.ref 228, .int (iI (s)), .int (iI (y)), .int (iI (y98)), .int (iI (y99)), .int (iI (y102)), .int (iI (y108))]) (Nat.le_of_ble_eq_true rfl) (fun _ => rfl) (fun y116 hy116 => ?_)
                refine rr_iload_n pf_279_70 rfl ?_
                refine rr_if_eq 87 pf_279_71 (by decide) (by unfold rg; omega) (fun c117 => ?_) (fun c117 => ?_)
                · refine rr_iconst pf_279_87 ?_
                  refine rr_istore_n pf_279_88 (fun y => [.ref 228, .int (iI (s)), .int (iI (y116)), .int (iI (y)), .int (iI (y99)), .int (iI (y102)), .int (iI (y108))]) (Nat.le_of_ble_eq_true rfl) (fun _ => rfl) (fun y118 hy118 => ?_)
                  refine rr_iinc pf_279_89 rfl (fun y => [.ref 228, .int (iI (s)), .int (iI (y116)), .int (iI (y118)), .int (iI (y)), .int (iI (y102)), .int (iI (y108))]) (fun _ => rfl) (fun y119 hy119 => ?_)
                  refine rr_goto 21 pf_279_92 (by decide) ?_
                  refine rr_iload pf_279_21 rfl ?_
                  refine rr_iconst pf_279_23 ?_
                  refine rr_icmp_ge 95 pf_279_24 (by decide) (by unfold rg; omega) (by unfold rg; omega) (fun c120 => ?_) (fun c120 => ?_)
                  · refine rr_iload_n pf_279_95 rfl ?_
                    refine rr_if_eq 103 pf_279_96 (by decide) (by unfold rg; omega) (fun c121 => ?_) (fun c121 => ?_)
                    · refine rr_iconst pf_279_103 ?_
                      refine rr_iret pf_279_104 pt_279 ⟨_, M104, rfl, rfl, q105, (by unfold sp_clr; rw [if_pos (by omega), ← hpn, Nat.add_comm pn 4, if_neg (by omega)]), (rq107)⟩
                    · exfalso; omega
                  · exfalso; omega
                · exfalso; omega
          · refine rr_iconst pf_279_83 ?_
            refine rr_goto 88 pf_279_84 (by decide) ?_
            refine rr_istore_n pf_279_88 (fun y => [.ref 228, .int (iI (s)), .int (iI (y91)), .int (iI (y)), .int (iI (y7)), .int (iI (y10)), .int (iI (y16))]) (Nat.le_of_ble_eq_true rfl) (fun _ => rfl) (fun y122 hy122 => ?_)
            refine rr_iinc pf_279_89 rfl (fun y => [.ref 228, .int (iI (s)), .int (iI (y91)), .int (iI (y122)), .int (iI (y)), .int (iI (y10)), .int (iI (y16))]) (fun _ => rfl) (fun y123 hy123 => ?_)
            refine rr_goto 21 pf_279_92 (by decide) ?_
            refine rr_iload pf_279_21 rfl ?_
            refine rr_iconst pf_279_23 ?_
            refine rr_icmp_ge 95 pf_279_24 (by decide) (by unfold rg; omega) (by unfold rg; omega) (fun c124 => ?_) (fun c124 => ?_)
            · exfalso; omega
            · refine rr_aload_n pf_279_27 rfl ?_
              refine rr_iload_n pf_279_28 rfl ?_
              have hpn125 := ct_R_paneOf (xs := xs) (L := L) (d := d) (s := (s).toNat) (by omega) hW q94.1 q94.2.1 (by rw [rr_q q94 (by decide)]; exact hρ) (by omega)
              rw [rr_q q94 (by decide)] at hpn125
              rw [show (((s).toNat : Nat) : Int) = s by omega] at hpn125
              rw [← hpn] at hpn125
              refine rr_cV1 pf_279_29 po_279 pc_9_475 (ws_228 hW) po_209 (by decide) rfl hpn125 ?_
              refine rr_iconst pf_279_32 ?_
              refine rr_iload pf_279_33 rfl ?_
              refine rr_imul pf_279_35 ?_
              refine rr_iadd pf_279_36 ?_
              refine rr_istore pf_279_37 (fun y => [.ref 228, .int (iI (s)), .int (iI (y91)), .int (iI (y122)), .int (iI (y123)), .int (iI (y)), .int (iI (y16))]) (Nat.le_of_ble_eq_true rfl) (fun _ => rfl) (fun y126 hy126 => ?_)
              refine rr_aload_n pf_279_39 rfl ?_
              refine rr_iload pf_279_40 rfl ?_
              have hsm127 := ct_R_sumOf1 (xs := xs) (L := L) (d := d) (p := 4 + pn) (by omega) hW q94.1 q94.2.1 (by omega)
              rw [rr_q q94 (by decide)] at hsm127
              rw [show ((4 + pn : Nat) : Int) = y126 by omega] at hsm127
              have hsm127b := sp_sum_b hρ (p := 4 + pn) (by omega)
              refine rr_cV1 pf_279_42 po_279 pc_9_472 (ws_228 hW) po_202 (by decide) rfl hsm127 ?_
              refine rr_aload_n pf_279_45 rfl ?_
              refine rr_iload pf_279_46 rfl ?_
              obtain ⟨r130, M128, ⟨kq129, pv_M128, pf_M128⟩, hcM128⟩ := ct_R_blacksOf (xs := xs) (L := L) (d := d) (p := 4 + pn) (lw := lw) (by omega) hW q94.1 q94.2.1 (by rw [rr_q q94 (by decide)]; exact hρ) (lwR_q q94 (by decide) hlw) ((rq96 20 (by decide) (by decide)).trans hord) (by omega)
              rw [show ((4 + pn : Nat) : Int) = y126 by omega] at hcM128
              have q129 := qk_trm q94 kq129 (by decide)
              rw [rr_q q94 (by decide)] at pv_M128
              have rq131 := rz_rq rq96 pf_M128
              refine rr_cV1 pf_279_48 po_279 pc_9_231 (ws_228 hW) po_200 (by decide) rfl hcM128 ?_
              have hfbM128 := sp_from_b lw (rr_ M0) ((4 + pn))
              refine rr_isub pf_279_51 ?_
              refine rr_istore pf_279_52 (fun y => [.ref 228, .int (iI (s)), .int (iI (y91)), .int (iI (y122)), .int (iI (y123)), .int (iI (y126)), .int (iI (y))]) (Nat.le_of_ble_eq_true rfl) (fun _ => rfl) (fun y132 hy132 => ?_)
              refine rr_iload_n pf_279_54 rfl ?_
              refine rr_iload pf_279_55 rfl ?_
              refine rr_if_lt 67 pf_279_57 (by decide) (by unfold rg; omega) (fun c133 => ?_) (fun c133 => ?_)
              · refine rr_iconst pf_279_67 ?_
                refine rr_iadd pf_279_68 ?_
                refine rr_istore_n pf_279_69 (fun y => [.ref 228, .int (iI (s)), .int (iI (y)), .int (iI (y122)), .int (iI (y123)), .int (iI (y126)), .int (iI (y132))]) (Nat.le_of_ble_eq_true rfl) (fun _ => rfl) (fun y134 hy134 => ?_)
                refine rr_iload_n pf_279_70 rfl ?_
                refine rr_if_eq 87 pf_279_71 (by decide) (by unfold rg; omega) (fun c135 => ?_) (fun c135 => ?_)
                · exfalso; omega
                · refine rr_aload_n pf_279_74 rfl ?_
                  refine rr_iload pf_279_75 rfl ?_
                  obtain ⟨r138, M136, ⟨kq137, pv_M136, pf_M136⟩, hcM136⟩ := ct_R_blacksOf (xs := xs) (L := L) (d := d) (p := 4 + pn) (lw := lw) (by omega) hW q129.1 q129.2.1 (by rw [rr_q q129 (by decide)]; exact hρ) (lwR_q q129 (by decide) hlw) ((rq131 20 (by decide) (by decide)).trans hord) (by omega)
                  rw [show ((4 + pn : Nat) : Int) = y126 by omega] at hcM136
                  have q137 := qk_trm q129 kq137 (by decide)
                  rw [rr_q q129 (by decide)] at pv_M136
                  have rq139 := rz_rq rq131 pf_M136
                  refine rr_cV1 pf_279_77 po_279 pc_9_231 (ws_228 hW) po_200 (by decide) rfl hcM136 ?_
                  have hfbM136 := sp_from_b lw (rr_ M0) ((4 + pn))
                  refine rr_if_le 87 pf_279_80 (by decide) (by unfold rg; omega) (fun c140 => ?_) (fun c140 => ?_)
                  · refine rr_iconst pf_279_87 ?_
                    refine rr_istore_n pf_279_88 (fun y => [.ref 228, .int (iI (s)), .int (iI (y134)), .int (iI (y)), .int (iI (y123)), .int (iI (y126)), .int (iI (y132))]) (Nat.le_of_ble_eq_true rfl) (fun _ => rfl) (fun y141 hy141 => ?_)
                    refine rr_iinc pf_279_89 rfl (fun y => [.ref 228, .int (iI (s)), .int (iI (y134)), .int (iI (y141)), .int (iI (y)), .int (iI (y126)), .int (iI (y132))]) (fun _ => rfl) (fun y142 hy142 => ?_)
                    refine rr_goto 21 pf_279_92 (by decide) ?_
                    refine rr_iload pf_279_21 rfl ?_
                    refine rr_iconst pf_279_23 ?_
                    refine rr_icmp_ge 95 pf_279_24 (by decide) (by unfold rg; omega) (by unfold rg; omega) (fun c143 => ?_) (fun c143 => ?_)
                    · refine rr_iload_n pf_279_95 rfl ?_
                      refine rr_if_eq 103 pf_279_96 (by decide) (by unfold rg; omega) (fun c144 => ?_) (fun c144 => ?_)
                      · refine rr_iconst pf_279_103 ?_
                        refine rr_iret pf_279_104 pt_279 ⟨_, M136, rfl, rfl, q137, (by unfold sp_clr; rw [if_pos (by omega), ← hpn, Nat.add_comm pn 4, if_neg (by omega)]), (rq139)⟩
                      · exfalso; omega
                    · exfalso; omega
                  · refine rr_iconst pf_279_83 ?_
                    refine rr_goto 88 pf_279_84 (by decide) ?_
                    refine rr_istore_n pf_279_88 (fun y => [.ref 228, .int (iI (s)), .int (iI (y134)), .int (iI (y)), .int (iI (y123)), .int (iI (y126)), .int (iI (y132))]) (Nat.le_of_ble_eq_true rfl) (fun _ => rfl) (fun y145 hy145 => ?_)
                    refine rr_iinc pf_279_89 rfl (fun y => [.ref 228, .int (iI (s)), .int (iI (y134)), .int (iI (y145)), .int (iI (y)), .int (iI (y126)), .int (iI (y132))]) (fun _ => rfl) (fun y146 hy146 => ?_)
                    refine rr_goto 21 pf_279_92 (by decide) ?_
                    refine rr_iload pf_279_21 rfl ?_
                    refine rr_iconst pf_279_23 ?_
                    refine rr_icmp_ge 95 pf_279_24 (by decide) (by unfold rg; omega) (by unfold rg; omega) (fun c147 => ?_) (fun c147 => ?_)
                    · refine rr_iload_n pf_279_95 rfl ?_
                      refine rr_if_eq 103 pf_279_96 (by decide) (by unfold rg; omega) (fun c148 => ?_) (fun c148 => ?_)
                      · exfalso; omega
                      · refine rr_iload_n pf_279_99 rfl ?_
                        refine rr_goto 104 pf_279_100 (by decide) ?_
                        refine rr_iret pf_279_104 pt_279 ⟨_, M136, rfl, rfl, q137, (by unfold sp_clr; rw [if_pos (by omega), ← hpn, Nat.add_comm pn 4, if_pos ⟨by omega, by omega⟩]; unfold sp_cl1; omega), (rq139)⟩
                    · exfalso; omega
              · refine rr_iload pf_279_60 rfl ?_
                refine rr_iconst pf_279_62 ?_
                refine rr_iadd pf_279_63 ?_
                refine rr_goto 68 pf_279_64 (by decide) ?_
                refine rr_iadd pf_279_68 ?_
                refine rr_istore_n pf_279_69 (fun y => [.ref 228, .int (iI (s)), .int (iI (y)), .int (iI (y122)), .int (iI (y123)), .int (iI (y126)), .int (iI (y132))]) (Nat.le_of_ble_eq_true rfl) (fun _ => rfl) (fun y149 hy149 => ?_)
                refine rr_iload_n pf_279_70 rfl ?_
                refine rr_if_eq 87 pf_279_71 (by decide) (by unfold rg; omega) (fun c150 => ?_) (fun c150 => ?_)
                · exfalso; omega
                · refine rr_aload_n pf_279_74 rfl ?_
                  refine rr_iload pf_279_75 rfl ?_
                  obtain ⟨r153, M151, ⟨kq152, pv_M151, pf_M151⟩, hcM151⟩ := ct_R_blacksOf (xs := xs) (L := L) (d := d) (p := 4 + pn) (lw := lw) (by omega) hW q129.1 q129.2.1 (by rw [rr_q q129 (by decide)]; exact hρ) (lwR_q q129 (by decide) hlw) ((rq131 20 (by decide) (by decide)).trans hord) (by omega)
                  rw [show ((4 + pn : Nat) : Int) = y126 by omega] at hcM151
                  have q152 := qk_trm q129 kq152 (by decide)
                  rw [rr_q q129 (by decide)] at pv_M151
                  have rq154 := rz_rq rq131 pf_M151
                  refine rr_cV1 pf_279_77 po_279 pc_9_231 (ws_228 hW) po_200 (by decide) rfl hcM151 ?_
                  have hfbM151 := sp_from_b lw (rr_ M0) ((4 + pn))
                  refine rr_if_le 87 pf_279_80 (by decide) (by unfold rg; omega) (fun c155 => ?_) (fun c155 => ?_)
                  · refine rr_iconst pf_279_87 ?_
                    refine rr_istore_n pf_279_88 (fun y => [.ref 228, .int (iI (s)), .int (iI (y149)), .int (iI (y)), .int (iI (y123)), .int (iI (y126)), .int (iI (y132))]) (Nat.le_of_ble_eq_true rfl) (fun _ => rfl) (fun y156 hy156 => ?_)
                    refine rr_iinc pf_279_89 rfl (fun y => [.ref 228, .int (iI (s)), .int (iI (y149)), .int (iI (y156)), .int (iI (y)), .int (iI (y126)), .int (iI (y132))]) (fun _ => rfl) (fun y157 hy157 => ?_)
                    refine rr_goto 21 pf_279_92 (by decide) ?_
                    refine rr_iload pf_279_21 rfl ?_
                    refine rr_iconst pf_279_23 ?_
                    refine rr_icmp_ge 95 pf_279_24 (by decide) (by unfold rg; omega) (by unfold rg; omega) (fun c158 => ?_) (fun c158 => ?_)
                    · refine rr_iload_n pf_279_95 rfl ?_
                      refine rr_if_eq 103 pf_279_96 (by decide) (by unfold rg; omega) (fun c159 => ?_) (fun c159 => ?_)
                      · refine rr_iconst pf_279_103 ?_
                        refine rr_iret pf_279_104 pt_279 ⟨_, M151, rfl, rfl, q152, (by unfold sp_clr; rw [if_pos (by omega), ← hpn, Nat.add_comm pn 4, if_neg (by omega)]), (rq154)⟩
                      · exfalso; omega
                    · exfalso; omega
                  · refine rr_iconst pf_279_83 ?_
                    refine rr_goto 88 pf_279_84 (by decide) ?_
                    refine rr_istore_n pf_279_88 (fun y => [.ref 228, .int (iI (s)), .int (iI (y149)), .int (iI (y)), .int (iI (y123)), .int (iI (y126)), .int (iI (y132))]) (Nat.le_of_ble_eq_true rfl) (fun _ => rfl) (fun y160 hy160 => ?_)
                    refine rr_iinc pf_279_89 rfl (fun y => [.ref 228, .int (iI (s)), .int (iI (y149)), .int (iI (y160)), .int (iI (y)), .int (iI (y126)), .int (iI (y132))]) (fun _ => rfl) (fun y161 hy161 => ?_)
                    refine rr_goto 21 pf_279_92 (by decide) ?_
                    refine rr_iload pf_279_21 rfl ?_
                    refine rr_iconst pf_279_23 ?_
                    refine rr_icmp_ge 95 pf_279_24 (by decide) (by unfold rg; omega) (by unfold rg; omega) (fun c162 => ?_) (fun c162 => ?_)
                    · refine rr_iload_n pf_279_95 rfl ?_
                      refine rr_if_eq 103 pf_279_96 (by decide) (by unfold rg; omega) (fun c163 => ?_) (fun c163 => ?_)
                      · exfalso; omega
                      · refine rr_iload_n pf_279_99 rfl ?_
                        refine rr_goto 104 pf_279_100 (by decide) ?_
                        refine rr_iret pf_279_104 pt_279 ⟨_, M151, rfl, rfl, q152, (by unfold sp_clr; rw [if_pos (by omega), ← hpn, Nat.add_comm pn 4, if_pos ⟨by omega, by omega⟩]; unfold sp_cl1; omega), (rq154)⟩
                    · exfalso; omega
  · refine rr_iconst pf_279_12 ?_
    refine rr_iret pf_279_13 pt_279 ⟨_, M1, rfl, rfl, q2, (by unfold sp_clr; rw [if_neg (by omega)]), (rq3)⟩
noncomputable def sp_lat (lw : List sp_C) (ρ : Nat → Int) : Nat → Nat → Int
  | 0 => ρ
  | n + 1 => sp_pasR lw (sp_lat lw ρ n)
theorem pasR_n {lw : List sp_C} {ρ : Nat → Int} {j : Nat} (h1 : ρ 1 ≤ 6) (hj : (j < 63 ∨ 69 ≤ j) ∧ j ≠ 5) : sp_pasR lw ρ j = ρ j := by
  unfold sp_pasR
  rw [rup_n hj.2]
  exact sp_pas_n (by omega)
theorem ok_pasR {lw : List sp_C} {ρ : Nat → Int} (h : sp_ok ρ) (h5 : ρ 5 ≤ 1999) : sp_ok (sp_pasR lw ρ) := by
  have a := h.2.1
  have b := h.2.2.2.2.2.1
  exact ok_hour (ok_pasS h _ (by omega)) (by omega)
theorem lat_ok {lw : List sp_C} {ρ : Nat → Int} (h : sp_ok ρ) (h5 : ρ 5 ≤ 999) : ∀ n, n ≤ 60 → sp_ok (sp_lat lw ρ n) ∧ sp_lat lw ρ n 5 = ρ 5 + n ∧ ∀ j, (j < 63 ∨ 69 ≤ j) ∧ j ≠ 5 → sp_lat lw ρ n j = ρ j := by
  intro n
  induction n with
  | zero => intro _; exact ⟨h, by simp [sp_lat], fun j _ => rfl⟩
  | succ n ih =>
    intro hn
    obtain ⟨a, b, c⟩ := ih (by omega)
    have h1 : sp_lat lw ρ n 1 ≤ 6 := a.2.1.2
    refine ⟨ok_pasR a (by omega), ?_, fun j hj => ?_⟩
    · simp only [sp_lat]
      unfold sp_pasR
      rw [rup_s, b]
      omega
    · simp only [sp_lat]
      rw [pasR_n h1 hj, c j hj]
noncomputable def sp_ltr (lw : List sp_C) (ρ : Nat → Int) (l n : Int) : Int := if (0 ≤ l ∧ l ≤ ρ 1 - 1) ∧ 0 ≤ n ∧ n ≤ 60 then sp_lat lw ρ n.toNat (63 + l.toNat) else -1
theorem lwR_r9 {M M2 : Nat → Nat → Int} {lw : List sp_C} (h : px_lwR M lw) (h9 : r9 M M2) (h4 : M2 230 4 = M 230 4) : px_lwR M2 lw := by
  unfold px_lwR at *
  refine ⟨?_, h.2⟩
  rcases h.1 with ⟨a, b⟩ | ⟨n, a, b, c⟩
  · exact Or.inl ⟨by rw [h4]; exact a, b⟩
  · refine Or.inr ⟨n, by rw [h4]; exact a, b, ?_⟩
    have e : ∀ j, M2 230 (j + (110 + 900 * n)) = M 230 (j + (110 + 900 * n)) := fun j => h9 _ (by omega)
    unfold rl_den rl_cl at *
    simp only [e]
    exact c
theorem lp_R_later_35 {xs : Nat → Int} {L d : Nat} {sh : List (Nat × Nat)} (hd : 13 ≤ d) (hW : px_W0 <+: sh) {M0 : Nat → Nat → Int}  (hρ : sp_ok (rr_ M0)) {lw : List sp_C} (hlw : px_lwR M0 lw) (hord : M0 228 20 = 0) (h999 : rr_ M0 5 ≤ 999) {l : Int} {n : Int} (hn : 0 ≤ n ∧ n ≤ 60) {Mk : Nat → Nat → Int} {Q : Option Value → px_H → Prop} (kx : ∀ (k : Nat) (M : Nat → Nat → Int), px_qk sh [228, 230, 233, 246, 248, 250] M0 M → (rz [] M0 M) → (rr_ M = sp_lat lw (rr_ M0) n.toNat) → (r9 M0 M) → (M 233 = Mk 233) → px_R xs L d 288 (50, [.ref 228, .int (iI (l)), .int (iI (n)), .int (iI (((k : Nat) : Int)))], [], (sh, M)) Q)  : ∀ (m : Nat) (k : Nat) (M : Nat → Nat → Int), n.toNat - k = m → px_qk sh [228, 230, 233, 246, 248, 250] M0 M → (rz [] M0 M) → ((k : Int) ≤ n) → (rr_ M = sp_lat lw (rr_ M0) k) → (r9 M0 M) → (M 233 = Mk 233) → px_R xs L d 288 (35, [.ref 228, .int (iI (l)), .int (iI (n)), .int (iI (((k : Nat) : Int)))], [], (sh, M)) Q := by
  intro m
  induction m using Nat.strongRecOn with
  | _ m ih =>
    intro k M hm hq hrq hk hrow hr9 h33
    refine rr_iload_n pf_288_35 rfl ?_
    refine rr_iload_n pf_288_36 rfl ?_
    refine rr_icmp_ge 50 pf_288_37 (by decide) (by unfold rg; omega) (by unfold rg; omega) (fun c1 => ?_) (fun c1 => ?_)
    · exact kx k M hq (hrq) (by rw [hrow, show n.toNat = k by omega]) (hr9) (h33)
    · refine rr_aload_n pf_288_40 rfl ?_
      obtain ⟨M2, ⟨kq3, pr_M2, p9_M2, pf_M2⟩, hcM2⟩ := ct_R_passIt (xs := xs) (L := L) (d := d) (lw := lw) (by omega) hW hq.1 hq.2.1 (by rw [hrow]; exact (lat_ok hρ h999 k (by omega)).1) (lwR_r9 hlw hr9 (by rw [rr_of hrow (by omega), (lat_ok hρ h999 k (by omega)).2.2 4 (by omega)]; exact (rr_at (by omega)).symm)) ((hrq 20 (by decide) (by decide)).trans hord) (by rw [hrow, (lat_ok hρ h999 k (by omega)).2.1]; omega)
      have q3 := qk_trm hq kq3 (by decide)
      have rq5 := rz_rq hrq pf_M2
      refine rr_cV0 pf_288_41 po_288 pc_9_496 (ws_228 hW) po_261 (by decide) rfl hcM2 ?_
      refine rr_iinc pf_288_44 rfl (fun y => [.ref 228, .int (iI (l)), .int (iI (n)), .int (iI (y))]) (fun _ => rfl) (fun y6 hy6 => ?_)
      refine rr_goto 35 pf_288_47 (by decide) ?_
      obtain ⟨n7, hn7, rfl⟩ : ∃ zz : Nat, zz = 1 + k ∧ y6 = ((zz : Nat) : Int) := ⟨1 + k, rfl, by omega⟩
      exact ih _ (by omega) n7 M2 rfl q3 (rq5) (by omega) (by rw [pr_M2, hrow, show n7 = k + 1 by omega]; rfl) (r9_tr hr9 p9_M2) (by rw [kq3.2.2 233 (by decide)]; exact h33)
theorem ct_R_later {xs : Nat → Int} {L d : Nat} {sh : List (Nat × Nat)} {M0 : Nat → Nat → Int} (hd : 14 ≤ d) (hW : px_W0 <+: sh) (hF : px_Fx M0) (hG : px_RG sh M0)  (hρ : sp_ok (rr_ M0)) {lw : List sp_C} (hlw : px_lwR M0 lw) (hord : M0 228 20 = 0) (h999 : rr_ M0 5 ≤ 999) {l n : Int} (hl0 : rg l) (hn0 : rg n) : ∃ v M, (px_qk sh [228, 230, 233, 246, 248, 250] M0 M ∧ (v = sp_ltr lw (rr_ M0) l n) ∧ (M 230 = M0 230) ∧ (∀ j, j < 1024 → M 233 j = M0 233 j) ∧ (rz [] M0 M)) ∧ px_Cl xs L d 288 [.ref 228, .int (iI (l)), .int (iI (n))] (sh, M0) (some (.int (iI v))) (sh, M) := by
  obtain ⟨d, rfl⟩ : ∃ e, d = e + 1 := ⟨d - 1, by omega⟩
  have q0 : px_qk sh [228, 230, 233, 246, 248, 250] M0 M0 := ⟨hF, hG, eo_rf⟩
  have h1 := hρ.2.1
  refine vc_i (Nat.le_of_ble_eq_true rfl) ?_
  show px_R xs L d 288 (0, [.ref 228, .int (iI (l)), .int (iI (n)), px_jk], [], (sh, M0)) (fun r h' => ∃ v M', r = some (.int (iI v)) ∧ h' = (sh, M') ∧ px_qk sh [228, 230, 233, 246, 248, 250] M0 M' ∧ v = sp_ltr lw (rr_ M0) l n ∧ M' 230 = M0 230 ∧ (∀ j, j < 1024 → M' 233 j = M0 233 j) ∧ rz [] M0 M')
  refine rr_aload_n pf_288_0 rfl ?_
  refine rr_iconst pf_288_1 ?_
  refine vr_putI hW q0 pf_288_2 po_288 pg_9_177 (Or.inl rfl) rfl (ws_228 hW) (by decide) (by unfold rg; omega) (by decide) (fun M1 eM1 q2 => ?_)
  have rq3 := rz_up (rz_rf [] M0) eM1 (by decide)
  have row4 := (rr_eq (M := M0) (M2 := M1) (by rw [eM1, ask_ne (by decide)])).trans (rfl : rr_ M0 = rr_ M0)
  have ninerow4 := r9_tr (r9_rf M0) (r9_eq (M := M0) (M2 := M1) (by rw [eM1, ask_ne (by decide)]))
  have e5 : M1 230 = M0 230 := (show M1 230 = M0 230 by rw [eM1, ask_ne (by decide)]).trans (rfl : M0 230 = M0 230)
  have e6 : M1 233 = M0 233 := (show M1 233 = M0 233 by rw [eM1, ask_ne (by decide)]).trans (rfl : M0 233 = M0 233)
  refine rr_aload_n pf_288_5 rfl ?_
  refine rr_iload_n pf_288_6 rfl ?_
  refine rr_cV1 pf_288_7 po_288 pc_9_248 (ws_228 hW) po_192 (by decide) rfl (ct_R_isListenerN (n := rr_ M0 1) (by omega) hW q2.1 q2.2.1 hl0 (by rw [e5]; exact rr_at (by omega))) ?_
  refine rr_ifb_eq 25 pf_288_10 (by decide) (fun c7 => ?_) (fun c7 => ?_)
  · refine rr_iconst pf_288_25 ?_
    refine rr_iret pf_288_26 pt_288 ⟨_, M1, rfl, rfl, q2, (by unfold sp_ltr; rw [if_neg (by omega)]), (e5), (by intro j hj; rw [e6]), (rq3)⟩
  · refine rr_iload_n pf_288_13 rfl ?_
    refine rr_i2l pf_288_14 hn0 ?_
    refine rr_lconst (w := 0) pf_288_15 rfl ?_
    refine rr_ldc2_w pf_288_16 po_288 pl_9_470 ?_
    refine rr_cS3 pf_288_19 po_288 pc_9_197 (by decide) rfl (ct_R_in (by omega) (rl_rg hn0) (by unfold rl; omega) (by unfold rl; omega)) ?_
    refine rr_ifb_ne 27 pf_288_22 (by decide) (fun c8 => ?_) (fun c8 => ?_)
    · refine rr_aload_n pf_288_27 rfl ?_
      refine rr_bipush pf_288_28 (by decide) ?_
      obtain ⟨M9, ⟨kq10, ka_M9⟩, hcM9⟩ := ct_R_keepAll (xs := xs) (L := L) (d := d) (k := 16) (by omega) hW q2.1 q2.2.1 (by omega)
      rw [show ((16 : Nat) : Int) = 16 by omega] at hcM9
      have q10 := qk_trm q2 kq10 (by decide)
      have rq11 := rz_q rq3 kq10 (by decide)
      have row12 := (rr_eq (kq10.2.2 230 (by decide))).trans row4
      have ninerow12 := r9_tr ninerow4 (r9_eq (kq10.2.2 230 (by decide)))
      have e13 : M9 230 = M0 230 := (kq10.2.2 230 (by decide)).trans e5
      refine rr_cV1 pf_288_30 po_288 pc_9_190 (ws_228 hW) po_251 (by decide) rfl hcM9 ?_
      
      refine rr_iconst pf_288_33 ?_
      refine rr_istore_n pf_288_34 (fun y => [.ref 228, .int (iI (l)), .int (iI (n)), .int (iI (y))]) (Nat.le_of_ble_eq_true rfl) (fun _ => rfl) (fun y14 hy14 => ?_)
      obtain ⟨n15, hn15, rfl⟩ : ∃ zz : Nat, zz = 0 ∧ y14 = ((zz : Nat) : Int) := ⟨0, rfl, by omega⟩
      refine lp_R_later_35 (xs := xs) (L := L) (d := d) (by omega) hW hρ hlw hord h999 (by omega) (fun k_16  M17 q18 xrq_M17 xrow_M17 x9_M17 x33_M17 => ?_) _ n15 M9 rfl q10 (rq11) (by omega) (by rw [show n15 = 0 by omega]; exact row12) (ninerow12) (by rfl)
      refine rr_aload_n pf_288_50 rfl ?_
      refine rr_getR pf_288_51 po_288 pg_9_13 rfl (ws_228 hW) (by decide) (wr_228_3 q18.1) ?_
      refine rr_bipush pf_288_54 (by decide) ?_
      refine rr_iload_n pf_288_56 rfl ?_
      refine rr_iadd pf_288_57 ?_
      refine vr_iald (j := 63 + l.toNat) q18 pf_288_58 (ws_230 hW) (by omega) (by omega) (by decide) (fun x19 hx19 rx19 => ?_)
      rw [rr_of xrow_M17 (by omega)] at hx19
      refine rr_istore_n pf_288_59 (fun y => [.ref 228, .int (iI (l)), .int (iI (n)), .int (iI (y))]) (Nat.le_of_ble_eq_true rfl) (fun _ => rfl) (fun y20 hy20 => ?_)
      have ry20 : rg y20 := hy20 ▸ rx19
      refine rr_aload_n pf_288_60 rfl ?_
      refine rr_bipush pf_288_61 (by decide) ?_
      obtain ⟨M21, ⟨kq22, kb_M21⟩, hcM21⟩ := ct_R_putBack (xs := xs) (L := L) (d := d) (k := 16) (by omega) hW q18.1 q18.2.1 (by omega)
      rw [show ((16 : Nat) : Int) = 16 by omega] at hcM21
      have q22 := qk_trm q18 kq22 (by decide)
      have rq23 := rz_q xrq_M17 kq22 (by decide)
      refine rr_cV1 pf_288_63 po_288 pc_9_194 (ws_228 hW) po_177 (by decide) rfl hcM21 ?_
      refine rr_iload_n pf_288_66 rfl ?_
      refine rr_iret pf_288_67 pt_288 ⟨_, M21, rfl, rfl, q22, (by unfold sp_ltr; rw [if_pos (by omega)]; omega), (by
                  funext j
                  rw [kb_M21]
                  by_cases hc : 5 ≤ j ∧ j < 69
                  · rw [if_pos (by omega), x33_M17, ka_M9, if_pos (by omega), show 5 + (64 * 16 + (j - 5) - 64 * 16) = j by omega, e5]
                  · rw [if_neg (by omega)]; by_cases h9 : 109 ≤ j
                    · exact x9_M17 j h9
                    · rw [rr_of xrow_M17 (by omega), (lat_ok hρ h999 n.toNat (by omega)).2.2 j (by omega)]; exact (rr_at (by omega)).symm), (by intro j hj; rw [kq22.2.2 233 (by decide), x33_M17, ka_M9, if_neg (by omega), e6]), (rq23)⟩
    · refine rr_iconst pf_288_25 ?_
      refine rr_iret pf_288_26 pt_288 ⟨_, M1, rfl, rfl, q2, (by unfold sp_ltr; rw [if_neg (by omega)]), (e5), (by intro j hj; rw [e6]), (rq3)⟩
