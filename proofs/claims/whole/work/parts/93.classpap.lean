/-! the class on paper: scrapings, blackness by a law -/
def px_lwL (sh : List (Nat × Nat)) (M : Nat → Nat → Int) (cb : Nat) (l : Int) (lw : List sp_C) : Prop := ((l = -1 ∧ lw = []) ∨ ∃ n t N C : Nat, l = (n : Int) ∧ (n : Int) < M cb 9 ∧ n < 6 ∧ M (cb + 8) n = (t : Int) ∧ px_den sh M t N C lw) ∧ sp_rs lw
theorem lwL_copy {sh : List (Nat × Nat)} {M M2 : Nat → Nat → Int} {cb c2 : Nat} {A : List Nat} {l : Int} {lw : List sp_C} (h : px_lwL sh M c2 l lw) (e4 : M2 cb 10 = l) (e3 : M2 cb 9 = M c2 9) (el : ∀ n, n < 6 → M2 (cb + 8) n = M (c2 + 8) n) (he : px_eo A M M2) (hA : ∀ a ∈ A, a < 264 ∧ (a < 201 ∨ 204 < a)) : px_lw sh M2 cb lw := by
  refine ⟨?_, h.2⟩
  rcases h.1 with ⟨q1, q2⟩ | ⟨n, t, N, C, q1, q2, q3, q4, q5⟩
  · exact Or.inl ⟨e4.trans q1, q2⟩
  · refine Or.inr ⟨n, t, N, C, e4.trans q1, by rw [e3]; exact q2, q3, (el n q3).trans q4, den_eq q5 (fun i hi => he _ (fun z => ?_))⟩
    have h1 := hA _ z
    have h2 := q5.1.2.2.2.2.2.2.2.2.2
    omega
theorem ct_Paper_scrapingsFor {xs : Nat → Int} {L d : Nat} {sh : List (Nat × Nat)} {M0 : Nat → Nat → Int} (hd : 7 ≤ d) (hW : px_W0 <+: sh) (hF : px_Fx M0) (hG : px_RG sh M0)  (hρ : sp_ok (rc M0 3)) {lw : List sp_C} (hlw : px_lw sh M0 3 lw) {s : Nat} (hs8 : s < 8) : ∃ v M, (px_qk sh [2, 13] M0 M ∧ (v = (if 0 < sp_from lw (rc M0 3) (sp_pane (rc M0 3) s) ∧ 0 < sp_from lw (rc M0 3) (sp_pane (rc M0 3) s + 4) then sp_cl1 lw (rc M0 3) (sp_pane (rc M0 3) s) + sp_cl1 lw (rc M0 3) (sp_pane (rc M0 3) s + 4) else -1))) ∧ px_Cl xs L d 142 [.ref 175, .int (iI (((s : Nat) : Int)))] (sh, M0) (some (.int (iI v))) (sh, M) := by
  obtain ⟨d, rfl⟩ : ∃ e, d = e + 1 := ⟨d - 1, by omega⟩
  have q0 : px_qk sh [2, 13] M0 M0 := ⟨hF, hG, eo_rf⟩
  have h5 := hρ.2.2.2.2.2.1
  refine vc_i (Nat.le_of_ble_eq_true rfl) ?_
  show px_R xs L d 142 (0, [.ref 175, .int (iI (((s : Nat) : Int))), px_jk, px_jk, px_jk, px_jk], [], (sh, M0)) (fun r h' => ∃ v M', r = some (.int (iI v)) ∧ h' = (sh, M') ∧ px_qk sh [2, 13] M0 M' ∧ (v = (if 0 < sp_from lw (rc M0 3) (sp_pane (rc M0 3) s) ∧ 0 < sp_from lw (rc M0 3) (sp_pane (rc M0 3) s + 4) then sp_cl1 lw (rc M0 3) (sp_pane (rc M0 3) s) + sp_cl1 lw (rc M0 3) (sp_pane (rc M0 3) s + 4) else -1)))
  refine rr_iconst pf_142_0 ?_
  refine rr_istore_n pf_142_1 (fun y => [.ref 175, .int (iI (((s : Nat) : Int))), .int (iI (y)), px_jk, px_jk, px_jk]) (Nat.le_of_ble_eq_true rfl) (fun _ => rfl) (fun y1 hy1 => ?_)
  refine rr_aload_n pf_142_2 rfl ?_
  refine rr_getR pf_142_3 po_142 pg_2_65 rfl (ws_175 hW) (by decide) (wr_175_3 q0.1) ?_
  refine rr_iload_n pf_142_6 rfl ?_
  have hz2 := ct_Church_upperPaneOf (xs := xs) (L := L) (d := d) (cb := 3) (v := ((s : Nat) : Int)) (by omega) hW q0.1 q0.2.1 (show px_ch 3 by unfold px_ch; decide) (by omega) (show 0 ≤ rc M0 3 5 ∧ rc M0 3 5 ≤ 2000 from (hρ).2.2.2.2.2.1)
  obtain ⟨pu3, hpu3⟩ : ∃ z, z = sp_pane (rc M0 3) s := ⟨_, rfl⟩
  have hbpu3 := sp_pane_b hρ (s := s) (by omega)
  rw [← hpu3] at hbpu3
  rw [show (if ((s : Nat) : Int) < 4 then (0 : Int) else 8) + (((s : Nat) : Int) + M0 (3 + 1) 4) % 4 = ((pu3 : Nat) : Int) from (by rw [hpu3]; exact sp_pane_i hρ)] at hz2
  refine rr_cV1 pf_142_7 po_142 pc_2_163 (ws_3 hW) po_42 (by decide) rfl hz2 ?_
  refine rr_istore_n pf_142_10 (fun y => [.ref 175, .int (iI (((s : Nat) : Int))), .int (iI (y1)), .int (iI (y)), px_jk, px_jk]) (Nat.le_of_ble_eq_true rfl) (fun _ => rfl) (fun y4 hy4 => ?_)
  refine rr_iload_n pf_142_11 rfl ?_
  refine rr_istore pf_142_12 (fun y => [.ref 175, .int (iI (((s : Nat) : Int))), .int (iI (y1)), .int (iI (y4)), .int (iI (y)), px_jk]) (Nat.le_of_ble_eq_true rfl) (fun _ => rfl) (fun y5 hy5 => ?_)
  refine rr_iload pf_142_14 rfl ?_
  refine rr_iload_n pf_142_16 rfl ?_
  refine rr_iconst pf_142_17 ?_
  refine rr_iadd pf_142_18 ?_
  refine rr_icmp_gt 70 pf_142_19 (by decide) (by unfold rg; omega) (by unfold rg; omega) (fun c6 => ?_) (fun c6 => ?_)
  · exfalso; omega
  · refine rr_aload_n pf_142_22 rfl ?_
    refine rr_getR pf_142_23 po_142 pg_2_65 rfl (ws_175 hW) (by decide) (wr_175_3 q0.1) ?_
    refine rr_iload pf_142_26 rfl ?_
    obtain ⟨M7, kq8, hcM7⟩ := ct_Church_blackFrom (xs := xs) (L := L) (d := d) (cb := 3) (p := pu3) (by omega) hW q0.1 q0.2.1 (show px_ch 3 by unfold px_ch; decide) hρ hlw (by omega)
    rw [show ((pu3 : Nat) : Int) = y5 by omega] at hcM7
    have q8 := qk_trm q0 kq8 (by decide)
    refine rr_cV1 pf_142_28 po_142 pc_2_166 (ws_3 hW) po_33 (by decide) rfl hcM7 ?_
    refine rr_istore pf_142_31 (fun y => [.ref 175, .int (iI (((s : Nat) : Int))), .int (iI (y1)), .int (iI (y4)), .int (iI (y5)), .int (iI (y))]) (Nat.le_of_ble_eq_true rfl) (fun _ => rfl) (fun y9 hy9 => ?_)
    have by9 : 0 ≤ y9 ∧ y9 ≤ 300 := by rw [hy9]; exact sp_from_b _ _ _
    have Ey9 : eqI y9 (sp_from lw (rc M0 3) pu3) := hy9
    clear hy9
    refine rr_iload pf_142_33 rfl ?_
    refine rr_if_ne 40 pf_142_35 (by decide) (by unfold rg; omega) (fun c10 => ?_) (fun c10 => ?_)
    · refine rr_iload_n pf_142_40 rfl ?_
      refine rr_iconst pf_142_41 ?_
      refine rr_aload_n pf_142_42 rfl ?_
      refine rr_getR pf_142_43 po_142 pg_2_65 rfl (ws_175 hW) (by decide) (wr_175_3 q8.1) ?_
      refine rr_getR pf_142_46 po_142 pg_2_88 rfl (ws_3 hW) (by decide) (wr_3_0 q8.1) ?_
      refine rr_iload pf_142_49 rfl ?_
      have hz11 := ct_Nave_allHuesOf (xs := xs) (L := L) (d := d) (nb := 4) (p := y5) (by omega) hW q8.1 q8.2.1 (show px_nv 4 by unfold px_nv; decide) (by omega)
      have thz11 : M7 (4 + 1) (y5 * 3).toNat + M7 (4 + 1) (y5 * 3 + 1).toNat + M7 (4 + 1) (y5 * 3 + 2).toNat = sp_sum (rc M0 3) (pu3) := by
        rw [show (y5 * 3).toNat = 3 * (pu3) + 0 by omega, show (y5 * 3 + 1).toNat = 3 * (pu3) + 1 by omega, show (y5 * 3 + 2).toNat = 3 * (pu3) + 2 by omega]
        unfold sp_sum sp_hue
        rw [← rc_eo q8.2.2 (by decide), rc_hue (by omega), rc_hue (by omega), rc_hue (by omega)]
      rw [thz11] at hz11
      refine rr_cV1 pf_142_51 po_142 pc_2_169 (ws_4 hW) po_35 (by decide) rfl hz11 ?_
      have bsm12 := sp_sum_b hρ (p := (pu3)) (by omega)
      obtain ⟨sm12, hsm12⟩ : ∃ z, z = sp_sum (rc M0 3) (pu3) := ⟨_, rfl⟩
      rw [← hsm12] at bsm12 ⊢
      have Esm12 : eqI sm12 (sp_sum (rc M0 3) (pu3)) := hsm12
      clear hsm12
      refine rr_iload pf_142_54 rfl ?_
      refine rr_isub pf_142_56 ?_
      refine rr_iconst pf_142_57 ?_
      refine rr_iadd pf_142_58 ?_
      refine rr_max pf_142_59 po_142 pc_2_139 rfl (by unfold rg; omega) (by unfold rg; omega) ?_
      refine rr_iadd pf_142_62 ?_
      refine rr_istore_n pf_142_63 (fun y => [.ref 175, .int (iI (((s : Nat) : Int))), .int (iI (y)), .int (iI (y4)), .int (iI (y5)), .int (iI (y9))]) (Nat.le_of_ble_eq_true rfl) (fun _ => rfl) (fun y13 hy13 => ?_)
      refine rr_iinc pf_142_64 rfl (fun y => [.ref 175, .int (iI (((s : Nat) : Int))), .int (iI (y13)), .int (iI (y4)), .int (iI (y)), .int (iI (y9))]) (fun _ => rfl) (fun y14 hy14 => ?_)
      refine rr_goto 14 pf_142_67 (by decide) ?_
      refine rr_iload pf_142_14 rfl ?_
      refine rr_iload_n pf_142_16 rfl ?_
      refine rr_iconst pf_142_17 ?_
      refine rr_iadd pf_142_18 ?_
      refine rr_icmp_gt 70 pf_142_19 (by decide) (by unfold rg; omega) (by unfold rg; omega) (fun c15 => ?_) (fun c15 => ?_)
      · exfalso; omega
      · refine rr_aload_n pf_142_22 rfl ?_
        refine rr_getR pf_142_23 po_142 pg_2_65 rfl (ws_175 hW) (by decide) (wr_175_3 q8.1) ?_
        refine rr_iload pf_142_26 rfl ?_
        obtain ⟨M16, kq17, hcM16⟩ := ct_Church_blackFrom (xs := xs) (L := L) (d := d) (cb := 3) (p := 4 + pu3) (by omega) hW q8.1 q8.2.1 (show px_ch 3 by unfold px_ch; decide) (by rw [rc_eo q8.2.2 (by decide)]; exact hρ) (lw_eo hlw q8.2.2 (by decide) (by decide) (by decide)) (by omega)
        rw [show ((4 + pu3 : Nat) : Int) = y14 by omega] at hcM16
        rw [rc_eo q8.2.2 (by decide)] at hcM16
        have q17 := qk_trm q8 kq17 (by decide)
        refine rr_cV1 pf_142_28 po_142 pc_2_166 (ws_3 hW) po_33 (by decide) rfl hcM16 ?_
        refine rr_istore pf_142_31 (fun y => [.ref 175, .int (iI (((s : Nat) : Int))), .int (iI (y13)), .int (iI (y4)), .int (iI (y14)), .int (iI (y))]) (Nat.le_of_ble_eq_true rfl) (fun _ => rfl) (fun y18 hy18 => ?_)
        have by18 : 0 ≤ y18 ∧ y18 ≤ 300 := by rw [hy18]; exact sp_from_b _ _ _
        have Ey18 : eqI y18 (sp_from lw (rc M0 3) (4 + pu3)) := hy18
        clear hy18
        refine rr_iload pf_142_33 rfl ?_
        refine rr_if_ne 40 pf_142_35 (by decide) (by unfold rg; omega) (fun c19 => ?_) (fun c19 => ?_)
        · refine rr_iload_n pf_142_40 rfl ?_
          refine rr_iconst pf_142_41 ?_
          refine rr_aload_n pf_142_42 rfl ?_
          refine rr_getR pf_142_43 po_142 pg_2_65 rfl (ws_175 hW) (by decide) (wr_175_3 q17.1) ?_
          refine rr_getR pf_142_46 po_142 pg_2_88 rfl (ws_3 hW) (by decide) (wr_3_0 q17.1) ?_
          refine rr_iload pf_142_49 rfl ?_
          have hz20 := ct_Nave_allHuesOf (xs := xs) (L := L) (d := d) (nb := 4) (p := y14) (by omega) hW q17.1 q17.2.1 (show px_nv 4 by unfold px_nv; decide) (by omega)
          have thz20 : M16 (4 + 1) (y14 * 3).toNat + M16 (4 + 1) (y14 * 3 + 1).toNat + M16 (4 + 1) (y14 * 3 + 2).toNat = sp_sum (rc M0 3) (4 + pu3) := by
            rw [show (y14 * 3).toNat = 3 * (4 + pu3) + 0 by omega, show (y14 * 3 + 1).toNat = 3 * (4 + pu3) + 1 by omega, show (y14 * 3 + 2).toNat = 3 * (4 + pu3) + 2 by omega]
            unfold sp_sum sp_hue
            rw [← rc_eo q17.2.2 (by decide), rc_hue (by omega), rc_hue (by omega), rc_hue (by omega)]
          rw [thz20] at hz20
          refine rr_cV1 pf_142_51 po_142 pc_2_169 (ws_4 hW) po_35 (by decide) rfl hz20 ?_
          have bsm21 := sp_sum_b hρ (p := (4 + pu3)) (by omega)
          obtain ⟨sm21, hsm21⟩ : ∃ z, z = sp_sum (rc M0 3) (4 + pu3) := ⟨_, rfl⟩
          rw [← hsm21] at bsm21 ⊢
          have Esm21 : eqI sm21 (sp_sum (rc M0 3) (4 + pu3)) := hsm21
          clear hsm21
          refine rr_iload pf_142_54 rfl ?_
          refine rr_isub pf_142_56 ?_
          refine rr_iconst pf_142_57 ?_
          refine rr_iadd pf_142_58 ?_
          refine rr_max pf_142_59 po_142 pc_2_139 rfl (by unfold rg; omega) (by unfold rg; omega) ?_
          refine rr_iadd pf_142_62 ?_
          refine rr_istore_n pf_142_63 (fun y => [.ref 175, .int (iI (((s : Nat) : Int))), .int (iI (y)), .int (iI (y4)), .int (iI (y14)), .int (iI (y18))]) (Nat.le_of_ble_eq_true rfl) (fun _ => rfl) (fun y22 hy22 => ?_)
          refine rr_iinc pf_142_64 rfl (fun y => [.ref 175, .int (iI (((s : Nat) : Int))), .int (iI (y22)), .int (iI (y4)), .int (iI (y)), .int (iI (y18))]) (fun _ => rfl) (fun y23 hy23 => ?_)
          refine rr_goto 14 pf_142_67 (by decide) ?_
          refine rr_iload pf_142_14 rfl ?_
          refine rr_iload_n pf_142_16 rfl ?_
          refine rr_iconst pf_142_17 ?_
          refine rr_iadd pf_142_18 ?_
          refine rr_icmp_gt 70 pf_142_19 (by decide) (by unfold rg; omega) (by unfold rg; omega) (fun c24 => ?_) (fun c24 => ?_)
          · refine rr_iload_n pf_142_70 rfl ?_
            refine rr_iret pf_142_71 pt_142 ⟨_, M16, rfl, rfl, q17, (by rw [← hpu3]; have y9_ : y9 = sp_from lw (rc M0 3) pu3 := Ey9; have y18_ : y18 = sp_from lw (rc M0 3) (4 + pu3) := Ey18; have sm12_ : sm12 = sp_sum (rc M0 3) (pu3) := Esm12; have sm21_ : sm21 = sp_sum (rc M0 3) (4 + pu3) := Esm21; rw [Nat.add_comm pu3 4, ← y9_, ← y18_, if_pos (by omega)]; unfold sp_cl1; rw [← sm12_, ← sm21_, ← y9_, ← y18_]; clear y9_ y18_ sm12_ sm21_; omega)⟩
          · exfalso; omega
        · refine rr_iconst pf_142_38 ?_
          refine rr_iret pf_142_39 pt_142 ⟨_, M16, rfl, rfl, q17, (by rw [← hpu3]; have y9_ : y9 = sp_from lw (rc M0 3) pu3 := Ey9; have y18_ : y18 = sp_from lw (rc M0 3) (4 + pu3) := Ey18; rw [if_neg (by intro z; have z1 := z.2; rw [Nat.add_comm pu3 4, ← y18_] at z1; omega)])⟩
    · refine rr_iconst pf_142_38 ?_
      refine rr_iret pf_142_39 pt_142 ⟨_, M7, rfl, rfl, q8, (by rw [← hpu3]; have y9_ : y9 = sp_from lw (rc M0 3) pu3 := Ey9; rw [if_neg (by intro z; have z1 := z.1; rw [← y9_] at z1; omega)])⟩
theorem ct_S_cleared {xs : Nat → Int} {L d : Nat} {sh : List (Nat × Nat)} {M0 : Nat → Nat → Int} (hd : 9 ≤ d) (hW : px_W0 <+: sh) (hF : px_Fx M0) (hG : px_RG sh M0)  (hρ : sp_ok (rc M0 3)) {lw : List sp_C} (hlw : px_lw sh M0 3 lw) {s : Int} (hs0 : rg s) : ∃ v M, (px_qk sh [2, 13] M0 M ∧ (v = sp_clr lw (rc M0 3) s)) ∧ px_Cl xs L d 141 [.ref 0, .int (iI (s))] (sh, M0) (some (.int (iI v))) (sh, M) := by
  obtain ⟨d, rfl⟩ : ∃ e, d = e + 1 := ⟨d - 1, by omega⟩
  have q0 : px_qk sh [2, 13] M0 M0 := ⟨hF, hG, eo_rf⟩
  refine vc_i (Nat.le_of_ble_eq_true rfl) ?_
  show px_R xs L d 141 (0, [.ref 0, .int (iI (s))], [], (sh, M0)) (fun r h' => ∃ v M', r = some (.int (iI v)) ∧ h' = (sh, M') ∧ px_qk sh [2, 13] M0 M' ∧ v = sp_clr lw (rc M0 3) s)
  refine rr_iload_n pf_141_0 rfl ?_
  refine rr_cS1 pf_141_1 po_141 pc_8_149 (by decide) rfl (ct_S_isSeat (by omega) hs0) ?_
  refine rr_ifb_eq 18 pf_141_4 (by decide) (fun c1 => ?_) (fun c1 => ?_)
  · refine rr_iconst pf_141_18 ?_
    refine rr_iret pf_141_19 pt_141 ⟨_, M0, rfl, rfl, q0, (by unfold sp_clr; rw [if_neg (by omega)])⟩
  · refine rr_aload_n pf_141_7 rfl ?_
    refine rr_getR pf_141_8 po_141 pg_8_57 rfl (ws_0 hW) (by decide) (wr_0_7 q0.1) ?_
    refine rr_iload_n pf_141_11 rfl ?_
    obtain ⟨r4, M2, ⟨kq3, pv_M2⟩, hcM2⟩ := ct_Paper_scrapingsFor (xs := xs) (L := L) (d := d) (s := s.toNat) (lw := lw) (by omega) hW q0.1 q0.2.1 hρ hlw (by omega)
    rw [show ((s.toNat : Nat) : Int) = s by omega] at hcM2
    have q3 := qk_trm q0 kq3 (by decide)
    refine rr_cV1 pf_141_12 po_141 pc_8_308 (ws_175 hW) po_142 (by decide) rfl hcM2 ?_
    refine rr_goto 19 pf_141_15 (by decide) ?_
    refine rr_iret pf_141_19 pt_141 ⟨_, M2, rfl, rfl, q3, (by unfold sp_clr; rw [if_pos (by omega)]; exact pv_M2)⟩
theorem ct_Paper_blackBy {xs : Nat → Int} {L d : Nat} {sh : List (Nat × Nat)} {M0 : Nat → Nat → Int} (hd : 8 ≤ d) (hW : px_W0 <+: sh) (hF : px_Fx M0) (hG : px_RG sh M0)  (hρ : sp_ok (rc M0 3)) (hok : px_lOK sh M0 3) {l : Int} (hlv : l = -1 ∨ 0 ≤ l ∧ l ≤ rc M0 3 3 - 1) {lw2 : List sp_C} (hlw2 : px_lwL sh M0 3 l lw2) : ∃ v M, (px_qk sh [2, 188, 189, 190, 191, 192, 193, 194, 195, 196, 197, 198] M0 M ∧ (v = sp_nblk lw2 (rc M0 3) 16)) ∧ px_Cl xs L d 162 [.ref 175, .int (iI (l))] (sh, M0) (some (.int (iI v))) (sh, M) := by
  obtain ⟨d, rfl⟩ : ∃ e, d = e + 1 := ⟨d - 1, by omega⟩
  have q0 : px_qk sh [2, 188, 189, 190, 191, 192, 193, 194, 195, 196, 197, 198] M0 M0 := ⟨hF, hG, eo_rf⟩
  have h3 := hρ.2.2.2.1
  refine vc_i (Nat.le_of_ble_eq_true rfl) ?_
  show px_R xs L d 162 (0, [.ref 175, .int (iI (l))], [], (sh, M0)) (fun r h' => ∃ v M', r = some (.int (iI v)) ∧ h' = (sh, M') ∧ px_qk sh [2, 188, 189, 190, 191, 192, 193, 194, 195, 196, 197, 198] M0 M' ∧ v = sp_nblk lw2 (rc M0 3) 16)
  refine rr_aload_n pf_162_0 rfl ?_
  refine rr_getR pf_162_1 po_162 pg_2_74 rfl (ws_175 hW) (by decide) (wr_175_4 q0.1) ?_
  refine rr_aload_n pf_162_4 rfl ?_
  refine rr_getR pf_162_5 po_162 pg_2_65 rfl (ws_175 hW) (by decide) (wr_175_3 q0.1) ?_
  obtain ⟨M1, ⟨kq2, prM1, plM1⟩, hcM1⟩ := ct_Church_copyFrom (xs := xs) (L := L) (d := d) (cb := 188) (c2 := 3) (by omega) hW q0.1 q0.2.1 (show px_ch 188 by unfold px_ch; decide) (show px_ch 3 by unfold px_ch; decide) (by decide) hok
  have q2 := qk_trm q0 kq2 (by decide)
  refine rr_cV1 pf_162_8 po_162 pc_2_190 (ws_188 hW) po_152 (by decide) rfl hcM1 ?_
  refine rr_aload_n pf_162_11 rfl ?_
  refine rr_getR pf_162_12 po_162 pg_2_74 rfl (ws_175 hW) (by decide) (wr_175_4 q2.1) ?_
  refine rr_iload_n pf_162_15 rfl ?_
  refine vr_putI hW q2 pf_162_16 po_162 pg_2_225 (Or.inl rfl) rfl (ws_188 hW) (by decide) (by unfold rg; omega) (by decide) (fun M3 eM3 q4 => ?_)
  have er : rc M3 188 = rup (rc M0 3) 4 l := by rw [eM3, rc_upF10, prM1]
  have hρ1 : sp_ok (rc M3 188) := by rw [er]; exact ok_force hρ (by omega)
  have el : ∀ n, n < 6 → M3 (188 + 8) n = M0 (3 + 8) n := fun n hn => by rw [eM3, ask_ne (by decide)]; exact plM1 n hn
  have hl1 : px_lw sh M3 188 lw2 := lwL_copy hlw2 (by rw [eM3, up_s]) (by rw [eM3, up_ne (by decide)]; exact congrFun prM1 3) el q4.2.2 (by decide)
  refine rr_aload_n pf_162_19 rfl ?_
  refine rr_getR pf_162_20 po_162 pg_2_74 rfl (ws_175 hW) (by decide) (wr_175_4 q4.1) ?_
  obtain ⟨M5, kq6, hcM5⟩ := ct_Church_blackPanes (xs := xs) (L := L) (d := d) (cb := 188) (by omega) hW q4.1 q4.2.1 (show px_ch 188 by unfold px_ch; decide) hρ1 hl1 
  rw [er] at hcM5
  have q6 := qk_trm q4 kq6 (by decide)
  refine rr_cV0 pf_162_23 po_162 pc_2_228 (ws_188 hW) po_99 (by decide) rfl hcM5 ?_
  refine rr_iret pf_162_26 pt_162 ⟨_, M5, rfl, rfl, q6, (nblk_force 16)⟩
theorem ct_S_blackened {xs : Nat → Int} {L d : Nat} {sh : List (Nat × Nat)} {M0 : Nat → Nat → Int} (hd : 9 ≤ d) (hW : px_W0 <+: sh) (hF : px_Fx M0) (hG : px_RG sh M0)  (hρ : sp_ok (rc M0 3)) (hok : px_lOK sh M0 3) {l : Int} (hl0 : rg l) {lw2 : List sp_C} (hlw2 : (l = -1 ∨ 0 ≤ l ∧ l ≤ rc M0 3 3 - 1) → px_lwL sh M0 3 l lw2) : ∃ v M, (px_qk sh [2, 188, 189, 190, 191, 192, 193, 194, 195, 196, 197, 198] M0 M ∧ (v = sp_bln lw2 (rc M0 3) l)) ∧ px_Cl xs L d 161 [.ref 0, .int (iI (l))] (sh, M0) (some (.int (iI v))) (sh, M) := by
  obtain ⟨d, rfl⟩ : ∃ e, d = e + 1 := ⟨d - 1, by omega⟩
  have q0 : px_qk sh [2, 188, 189, 190, 191, 192, 193, 194, 195, 196, 197, 198] M0 M0 := ⟨hF, hG, eo_rf⟩
  have h3 := hρ.2.2.2.1
  refine vc_i (Nat.le_of_ble_eq_true rfl) ?_
  show px_R xs L d 161 (0, [.ref 0, .int (iI (l))], [], (sh, M0)) (fun r h' => ∃ v M', r = some (.int (iI v)) ∧ h' = (sh, M') ∧ px_qk sh [2, 188, 189, 190, 191, 192, 193, 194, 195, 196, 197, 198] M0 M' ∧ v = sp_bln lw2 (rc M0 3) l)
  refine rr_iload_n pf_161_0 rfl ?_
  refine rr_iconst pf_161_1 ?_
  refine rr_icmp_eq 18 pf_161_2 (by decide) hl0 (by unfold rg; omega) (fun c1 => ?_) (fun c1 => ?_)
  · refine rr_aload_n pf_161_18 rfl ?_
    refine rr_getR pf_161_19 po_161 pg_8_57 rfl (ws_0 hW) (by decide) (wr_0_7 q0.1) ?_
    refine rr_iload_n pf_161_22 rfl ?_
    obtain ⟨r4, M2, ⟨kq3, pv_M2⟩, hcM2⟩ := ct_Paper_blackBy (xs := xs) (L := L) (d := d) (l := l) (lw2 := lw2) (by omega) hW q0.1 q0.2.1 hρ hok (by omega) (hlw2 (by omega))
    have q3 := qk_trm q0 kq3 (by decide)
    refine rr_cV1 pf_161_23 po_161 pc_8_337 (ws_175 hW) po_162 (by decide) rfl hcM2 ?_
    refine rr_iret pf_161_26 pt_161 ⟨_, M2, rfl, rfl, q3, (by unfold sp_bln; rw [if_pos (by omega)]; exact pv_M2)⟩
  · refine rr_aload_n pf_161_5 rfl ?_
    refine rr_getR pf_161_6 po_161 pg_8_21 rfl (ws_0 hW) (by decide) (wr_0_1 q0.1) ?_
    refine rr_iload_n pf_161_9 rfl ?_
    refine rr_cV1 pf_161_10 po_161 pc_8_242 (ws_3 hW) po_23 (by decide) rfl (ct_Church_isLawN (xs := xs) (L := L) (d := d) (cb := 3) (v := l) (n := rc M0 3 3) (by omega) hW q0.1 q0.2.1 (show px_ch 3 by unfold px_ch; decide) hl0 rfl hρ.2.2.2.1.1) ?_
    refine rr_ifb_ne 18 pf_161_13 (by decide) (fun c5 => ?_) (fun c5 => ?_)
    · refine rr_aload_n pf_161_18 rfl ?_
      refine rr_getR pf_161_19 po_161 pg_8_57 rfl (ws_0 hW) (by decide) (wr_0_7 q0.1) ?_
      refine rr_iload_n pf_161_22 rfl ?_
      obtain ⟨r8, M6, ⟨kq7, pv_M6⟩, hcM6⟩ := ct_Paper_blackBy (xs := xs) (L := L) (d := d) (l := l) (lw2 := lw2) (by omega) hW q0.1 q0.2.1 hρ hok (by omega) (hlw2 (by omega))
      have q7 := qk_trm q0 kq7 (by decide)
      refine rr_cV1 pf_161_23 po_161 pc_8_337 (ws_175 hW) po_162 (by decide) rfl hcM6 ?_
      refine rr_iret pf_161_26 pt_161 ⟨_, M6, rfl, rfl, q7, (by unfold sp_bln; rw [if_pos (by omega)]; exact pv_M6)⟩
    · refine rr_iconst pf_161_16 ?_
      refine rr_iret pf_161_17 pt_161 ⟨_, M0, rfl, rfl, q0, (by unfold sp_bln; rw [if_neg (by omega)])⟩
