/-! the class on paper: the best place -/
theorem lw_L {sh : List (Nat × Nat)} {M : Nat → Nat → Int} {cb : Nat} {lw : List sp_C} (h : px_lw sh M cb lw) : px_lwL sh M cb (M cb 10) lw := h
theorem rc_pl {M M2 : Nat → Nat → Int} {ρ : Nat → Int} {x : Int} (h : ∀ j, j ≠ 8 → rc M 188 j = ρ j) (e : M2 = px_up M 189 3 x) : rc M2 188 = rup ρ 8 x := by
  rw [e]
  have := rc_upPul (M := M) (cb := 188) x
  rw [show (188 + 1 : Nat) = 189 from rfl] at this
  rw [this]
  funext j
  unfold rup
  by_cases hj : j = 8
  · rw [if_pos hj, if_pos hj]
  · rw [if_neg hj, if_neg hj]; exact h j hj
theorem lp_Paper_bestPlaceFor_38 {xs : Nat → Int} {L d : Nat} {sh : List (Nat × Nat)} (hd : 7 ≤ d) (hW : px_W0 <+: sh) {M0 : Nat → Nat → Int}  (hρ188 : sp_ok (rc M0 188)) {lw : List sp_C} (hlw188 : px_lw sh M0 188 lw) {pane : Nat} (hpn : pane < 16) {best : Int} {p : Nat} {Q : Option Value → px_H → Prop} (kx : ∀ (all : Int) (w : Nat) (M : Nat → Nat → Int), px_qk sh [2, 198] M0 M → (eqI all (sp_plS lw (rc M0 188) pane (rc M0 188 0).toNat)) → (0 ≤ all ∧ all ≤ 160) → px_R xs L d 151 (87, [.ref 175, .int (iI (((pane : Nat) : Int))), .int (iI (best)), .int (iI (((p : Nat) : Int))), .int (iI (all)), .int (iI (((w : Nat) : Int)))], [], (sh, M)) Q)  : ∀ (mz : Nat) (all : Int) (w : Nat) (M : Nat → Nat → Int), (rc M0 188 0).toNat - w = mz → px_qk sh [2, 198] M0 M → ((w : Int) ≤ rc M0 188 0) → (eqI all (sp_plS lw (rc M0 188) pane w)) → (0 ≤ all ∧ all ≤ 20 * (w : Int)) → px_R xs L d 151 (38, [.ref 175, .int (iI (((pane : Nat) : Int))), .int (iI (best)), .int (iI (((p : Nat) : Int))), .int (iI (all)), .int (iI (((w : Nat) : Int)))], [], (sh, M)) Q := by
  intro mz
  induction mz using Nat.strongRecOn with
  | _ mz ih =>
    intro all w M hm hq hw ha hab
    have h08 := hρ188.1
    refine rr_iload pf_151_38 rfl ?_
    refine rr_aload_n pf_151_40 rfl ?_
    refine rr_getR pf_151_41 po_151 pg_2_74 rfl (ws_175 hW) (by decide) (wr_175_4 hq.1) ?_
    refine vr_getI hq pf_151_44 po_151 pg_2_77 rfl (ws_188 hW) (by decide) (fun x1 hx1 rx1 => ?_)
    rw [hq.2.2 188 (by decide)] at hx1
    change x1 = rc M0 188 0 at hx1
    refine rr_icmp_ge 87 pf_151_47 (by decide) (by unfold rg; omega) rx1 (fun c2 => ?_) (fun c2 => ?_)
    · exact kx all w M hq (by rw [show (rc M0 188 0).toNat = w by omega]; exact ha) (by omega)
    · refine rr_iload pf_151_50 rfl ?_
      refine rr_aload_n pf_151_52 rfl ?_
      refine rr_getR pf_151_53 po_151 pg_2_74 rfl (ws_175 hW) (by decide) (wr_175_4 hq.1) ?_
      refine rr_iload pf_151_56 rfl ?_
      obtain ⟨M3, kq4, hcM3⟩ := ct_Church_isBarred (xs := xs) (L := L) (d := d) (cb := 188) (w := w) (by omega) hW hq.1 hq.2.1 (show px_ch 188 by unfold px_ch; decide) (by rw [rc_eo hq.2.2 (by decide)]; exact hρ188) (lw_eo hlw188 hq.2.2 (by decide) (by decide) (by decide)) (by omega)
      rw [rc_eo hq.2.2 (by decide)] at hcM3
      have q4 := qk_trm hq kq4 (by decide)
      refine rr_cV1 pf_151_58 po_151 pc_2_97 (ws_188 hW) po_18 (by decide) rfl hcM3 ?_
      refine rr_ifb_eq 68 pf_151_61 (by decide) (fun c5 => ?_) (fun c5 => ?_)
      · have hbr := c5
        refine rr_aload_n pf_151_68 rfl ?_
        refine rr_getR pf_151_69 po_151 pg_2_74 rfl (ws_175 hW) (by decide) (wr_175_4 q4.1) ?_
        refine rr_iload pf_151_72 rfl ?_
        refine rr_iload_n pf_151_74 rfl ?_
        obtain ⟨M6, kq7, hcM6⟩ := ct_Church_stainOf (xs := xs) (L := L) (d := d) (cb := 188) (w := w) (p := pane) (by omega) hW q4.1 q4.2.1 (show px_ch 188 by unfold px_ch; decide) (by rw [rc_eo q4.2.2 (by decide)]; exact hρ188) (lw_eo hlw188 q4.2.2 (by decide) (by decide) (by decide)) (by omega) (by omega)
        rw [rc_eo q4.2.2 (by decide)] at hcM6
        have q7 := qk_trm q4 kq7 (by decide)
        refine rr_cV2 pf_151_75 po_151 pc_2_80 (ws_188 hW) po_27 (by decide) rfl hcM6 ?_
        have hsb := sp_stain_b lw (rc M0 188) w pane
        refine rr_iadd pf_151_78 ?_
        refine rr_istore pf_151_79 (fun y => [.ref 175, .int (iI (((pane : Nat) : Int))), .int (iI (best)), .int (iI (((p : Nat) : Int))), .int (iI (y)), .int (iI (((w : Nat) : Int)))]) (Nat.le_of_ble_eq_true rfl) (fun _ => rfl) (fun y8 hy8 => ?_)
        refine rr_iinc pf_151_81 rfl (fun y => [.ref 175, .int (iI (((pane : Nat) : Int))), .int (iI (best)), .int (iI (((p : Nat) : Int))), .int (iI (y8)), .int (iI (y))]) (fun _ => rfl) (fun y9 hy9 => ?_)
        refine rr_goto 38 pf_151_84 (by decide) ?_
        obtain ⟨nz10, hnz10, rfl⟩ : ∃ zz : Nat, zz = 1 + w ∧ y9 = ((zz : Nat) : Int) := ⟨1 + w, rfl, by omega⟩
        exact ih _ (by omega) y8 nz10 M6 rfl q7 (by omega) (by show y8 = _; rw [show nz10 = w + 1 by omega, sp_plS, if_neg hbr, ← (show all = _ from ha)]; exact hy8) (by omega)
      · have hbr := c5
        refine rr_iconst pf_151_64 ?_
        refine rr_goto 78 pf_151_65 (by decide) ?_
        refine rr_iadd pf_151_78 ?_
        refine rr_istore pf_151_79 (fun y => [.ref 175, .int (iI (((pane : Nat) : Int))), .int (iI (best)), .int (iI (((p : Nat) : Int))), .int (iI (y)), .int (iI (((w : Nat) : Int)))]) (Nat.le_of_ble_eq_true rfl) (fun _ => rfl) (fun y11 hy11 => ?_)
        refine rr_iinc pf_151_81 rfl (fun y => [.ref 175, .int (iI (((pane : Nat) : Int))), .int (iI (best)), .int (iI (((p : Nat) : Int))), .int (iI (y11)), .int (iI (y))]) (fun _ => rfl) (fun y12 hy12 => ?_)
        refine rr_goto 38 pf_151_84 (by decide) ?_
        obtain ⟨nz13, hnz13, rfl⟩ : ∃ zz : Nat, zz = 1 + w ∧ y12 = ((zz : Nat) : Int) := ⟨1 + w, rfl, by omega⟩
        exact ih _ (by omega) y11 nz13 M3 rfl q4 (by omega) (by show y11 = _; rw [show nz13 = w + 1 by omega, sp_plS, if_pos hbr, ← (show all = _ from ha)]; exact hy11) (by omega)
theorem lp_Paper_bestPlaceFor_15 {xs : Nat → Int} {L d : Nat} {sh : List (Nat × Nat)} (hd : 7 ≤ d) (hW : px_W0 <+: sh) {M0 : Nat → Nat → Int}  (hρ : sp_ok (rc M0 3)) {lw : List sp_C} (hlw : px_lw sh M0 3 lw) (hok : px_lOK sh M0 3) {pane : Nat} (hpn : pane < 16)  {Q : Option Value → px_H → Prop} (kx : ∀ (best : Int) (p : Nat) (v4 : Value) (v5 : Value) (M : Nat → Nat → Int), px_qk sh [2, 175, 188, 189, 190, 191, 192, 193, 194, 195, 196, 197, 198] M0 M → (eqI best (sp_plF lw (rc M0 3) pane 16).1) → (eqI (M 175 2) (sp_plF lw (rc M0 3) pane 16).2) → (-1 ≤ best ∧ best ≤ 16) → px_R xs L d 151 (115, [.ref 175, .int (iI (((pane : Nat) : Int))), .int (iI (best)), .int (iI (((p : Nat) : Int))), v4, v5], [], (sh, M)) Q)  : ∀ (mz : Nat) (best : Int) (p : Nat) (v4 : Value) (v5 : Value) (M : Nat → Nat → Int), 16 - p = mz → px_qk sh [2, 175, 188, 189, 190, 191, 192, 193, 194, 195, 196, 197, 198] M0 M → (p ≤ 16) → (∀ j, j ≠ 8 → rc M 188 j = rc M0 3 j) → (∀ n, n < 6 → M (188 + 8) n = M0 (3 + 8) n) → ((p = 0 ∧ best = -1) ∨ (0 < p ∧ 0 ≤ best)) → (eqI best (sp_plF lw (rc M0 3) pane p).1) → (p ≠ 0 → eqI (M 175 2) (sp_plF lw (rc M0 3) pane p).2) → (best ≤ 16) → px_R xs L d 151 (15, [.ref 175, .int (iI (((pane : Nat) : Int))), .int (iI (best)), .int (iI (((p : Nat) : Int))), v4, v5], [], (sh, M)) Q := by
  intro mz
  induction mz using Nat.strongRecOn with
  | _ mz ih =>
    intro best p v4 v5 M hm hq hp16 hcp hll h01 hB hS hbb
    have h0 := hρ.1
    refine rr_iload_n pf_151_15 rfl ?_
    refine rr_bipush pf_151_16 (by decide) ?_
    refine rr_icmp_ge 115 pf_151_18 (by decide) (by unfold rg; omega) (by unfold rg; omega) (fun c1 => ?_) (fun c1 => ?_)
    · exact kx best p _ _ M hq (by rw [show (16 : Nat) = p by omega]; exact hB) (by rw [show (16 : Nat) = p by omega]; exact hS (by omega)) (by omega)
    · refine rr_aload_n pf_151_21 rfl ?_
      refine rr_getR pf_151_22 po_151 pg_2_74 rfl (ws_175 hW) (by decide) (wr_175_4 hq.1) ?_
      refine rr_getR pf_151_25 po_151 pg_2_88 rfl (ws_188 hW) (by decide) (wr_188_0 hq.1) ?_
      refine rr_iload_n pf_151_28 rfl ?_
      refine vr_putI hW hq pf_151_29 po_151 pg_2_194 (Or.inl rfl) rfl (ws_189 hW) (by decide) (by unfold rg; omega) (by decide) (fun M2 eM2 q3 => ?_)
      have er : rc M2 188 = rup (rc M0 3) 8 ((p : Nat) : Int) := rc_pl hcp eM2
      have hρ188 : sp_ok (rc M2 188) := by rw [er]; exact ok_pul hρ (by omega)
      have el : ∀ n, n < 6 → M2 (188 + 8) n = M0 (3 + 8) n := fun n hn => by rw [eM2, ask_ne (by decide)]; exact hll n hn
      have hlw188 : px_lw sh M2 188 lw := lwL_copy (lw_L hlw) (show rc M2 188 4 = rc M0 3 4 by rw [er, rup_n (by decide)]) (show rc M2 188 3 = rc M0 3 3 by rw [er, rup_n (by decide)]) el q3.2.2 (by decide)
      refine rr_iconst pf_151_32 ?_
      refine rr_istore pf_151_33 (fun y => [.ref 175, .int (iI (((pane : Nat) : Int))), .int (iI (best)), .int (iI (((p : Nat) : Int))), .int (iI (y)), v5]) (Nat.le_of_ble_eq_true rfl) (fun _ => rfl) (fun y4 hy4 => ?_)
      refine rr_iconst pf_151_35 ?_
      refine rr_istore pf_151_36 (fun y => [.ref 175, .int (iI (((pane : Nat) : Int))), .int (iI (best)), .int (iI (((p : Nat) : Int))), .int (iI (y4)), .int (iI (y))]) (Nat.le_of_ble_eq_true rfl) (fun _ => rfl) (fun y5 hy5 => ?_)
      obtain ⟨nz6, hnz6, rfl⟩ : ∃ zz : Nat, zz = 0 ∧ y5 = ((zz : Nat) : Int) := ⟨0, rfl, by omega⟩
      refine lp_Paper_bestPlaceFor_38 (xs := xs) (L := L) (d := d) (by omega) hW hρ188 hlw188 hpn (fun all_7 w_8  M9 q10 xa_M9 xb_M9 => ?_) _ y4 nz6 M2 rfl ⟨q3.1, q3.2.1, eo_rf⟩ (by have := hρ188.1; omega) (by show y4 = _; rw [show nz6 = 0 by omega, sp_plS]; omega) (by omega)
      have q11 := qk_trm q3 q10 (by decide)
      have hV : eqI all_7 (sp_plV lw (rc M0 3) pane p) := by
        have z : all_7 = _ := xa_M9
        rw [er, rup_n (by decide)] at z
        exact z
      have hVb := xb_M9
      have hcp2 : ∀ j, j ≠ 8 → rc M9 188 j = rc M0 3 j := fun j hj => by rw [rc_eo q10.2.2 (by decide), er, rup_n hj]
      have hll2 : ∀ n, n < 6 → M9 (188 + 8) n = M0 (3 + 8) n := fun n hn => by rw [q10.2.2 _ (by decide)]; exact el n hn
      have hms : M9 175 2 = M 175 2 := by rw [q10.2.2 175 (by decide), eM2, ask_ne (by decide)]
      
      refine rr_iload_n pf_151_87 rfl ?_
      refine rr_iconst pf_151_88 ?_
      refine rr_icmp_eq 101 pf_151_89 (by decide) (by unfold rg; omega) (by unfold rg; omega) (fun c12 => ?_) (fun c12 => ?_)
      · refine rr_iload_n pf_151_101 rfl ?_
        refine rr_istore_n pf_151_102 (fun y => [.ref 175, .int (iI (((pane : Nat) : Int))), .int (iI (y)), .int (iI (((p : Nat) : Int))), .int (iI (all_7)), .int (iI (((w_8 : Nat) : Int)))]) (Nat.le_of_ble_eq_true rfl) (fun _ => rfl) (fun y13 hy13 => ?_)
        refine rr_aload_n pf_151_103 rfl ?_
        refine rr_iload pf_151_104 rfl ?_
        refine vr_putI hW q11 pf_151_106 po_151 pg_2_19 (Or.inl rfl) rfl (ws_175 hW) (by decide) (by unfold rg; omega) (by decide) (fun M14 eM14 q15 => ?_)
        refine rr_iinc pf_151_109 rfl (fun y => [.ref 175, .int (iI (((pane : Nat) : Int))), .int (iI (y13)), .int (iI (y)), .int (iI (all_7)), .int (iI (((w_8 : Nat) : Int)))]) (fun _ => rfl) (fun y16 hy16 => ?_)
        refine rr_goto 15 pf_151_112 (by decide) ?_
        obtain ⟨nz17, hnz17, rfl⟩ : ∃ zz : Nat, zz = 1 + p ∧ y16 = ((zz : Nat) : Int) := ⟨1 + p, rfl, by omega⟩
        exact ih _ (by omega) y13 nz17 _ _ M14 rfl q15 (by omega) (by intro j hj; rw [rc_eo (M := M9) (A := [175]) (fun a ha => by rw [eM14, ask_ne (fun z => ha (by rw [z]; exact List.mem_cons_self))]) (by decide)]; exact hcp2 j hj) (by intro n hn; rw [eM14, ask_ne (by decide)]; exact hll2 n hn) (by omega) (by
                      have hVe : all_7 = sp_plV lw (rc M0 3) pane p := hV
                      have hcd : (sp_plF lw (rc M0 3) pane p).2 < sp_plV lw (rc M0 3) pane p := by
                        rw [← hVe]
                        rw [show p = 0 by omega]; show (-1 : Int) < _; omega
                      show y13 = _; rw [show nz17 = p + 1 by omega, sp_plF, if_pos hcd]; exact hy13) (by
                      intro _
                      have hVe : all_7 = sp_plV lw (rc M0 3) pane p := hV
                      have hcd : (sp_plF lw (rc M0 3) pane p).2 < sp_plV lw (rc M0 3) pane p := by
                        rw [← hVe]
                        rw [show p = 0 by omega]; show (-1 : Int) < _; omega
                      show M14 175 2 = _; rw [show nz17 = p + 1 by omega, sp_plF, if_pos hcd, eM14, up_s]; exact hV) (by omega)
      · refine rr_iload pf_151_92 rfl ?_
        refine rr_aload_n pf_151_94 rfl ?_
        refine vr_getI q11 pf_151_95 po_151 pg_2_19 rfl (ws_175 hW) (by decide) (fun x18 hx18 rx18 => ?_)
        rw [hms] at hx18
        refine rr_icmp_le 109 pf_151_98 (by decide) (by unfold rg; omega) rx18 (fun c19 => ?_) (fun c19 => ?_)
        · refine rr_iinc pf_151_109 rfl (fun y => [.ref 175, .int (iI (((pane : Nat) : Int))), .int (iI (best)), .int (iI (y)), .int (iI (all_7)), .int (iI (((w_8 : Nat) : Int)))]) (fun _ => rfl) (fun y20 hy20 => ?_)
          refine rr_goto 15 pf_151_112 (by decide) ?_
          obtain ⟨nz21, hnz21, rfl⟩ : ∃ zz : Nat, zz = 1 + p ∧ y20 = ((zz : Nat) : Int) := ⟨1 + p, rfl, by omega⟩
          exact ih _ (by omega) best nz21 _ _ M9 rfl q11 (by omega) (hcp2) (hll2) (by omega) (by
                          have hVe : all_7 = sp_plV lw (rc M0 3) pane p := hV
                          have hcd : ¬ ((sp_plF lw (rc M0 3) pane p).2 < sp_plV lw (rc M0 3) pane p) := by
                            rw [← hVe, ← (show M 175 2 = _ from hS (by omega))]; omega
                          show best = _; rw [show nz21 = p + 1 by omega, sp_plF, if_neg hcd]; exact hB) (by
                          intro _
                          have hVe : all_7 = sp_plV lw (rc M0 3) pane p := hV
                          have hcd : ¬ ((sp_plF lw (rc M0 3) pane p).2 < sp_plV lw (rc M0 3) pane p) := by
                            rw [← hVe, ← (show M 175 2 = _ from hS (by omega))]; omega
                          show M9 175 2 = _; rw [show nz21 = p + 1 by omega, sp_plF, if_neg hcd, hms]; exact hS (by omega)) (by omega)
        · refine rr_iload_n pf_151_101 rfl ?_
          refine rr_istore_n pf_151_102 (fun y => [.ref 175, .int (iI (((pane : Nat) : Int))), .int (iI (y)), .int (iI (((p : Nat) : Int))), .int (iI (all_7)), .int (iI (((w_8 : Nat) : Int)))]) (Nat.le_of_ble_eq_true rfl) (fun _ => rfl) (fun y22 hy22 => ?_)
          refine rr_aload_n pf_151_103 rfl ?_
          refine rr_iload pf_151_104 rfl ?_
          refine vr_putI hW q11 pf_151_106 po_151 pg_2_19 (Or.inl rfl) rfl (ws_175 hW) (by decide) (by unfold rg; omega) (by decide) (fun M23 eM23 q24 => ?_)
          refine rr_iinc pf_151_109 rfl (fun y => [.ref 175, .int (iI (((pane : Nat) : Int))), .int (iI (y22)), .int (iI (y)), .int (iI (all_7)), .int (iI (((w_8 : Nat) : Int)))]) (fun _ => rfl) (fun y25 hy25 => ?_)
          refine rr_goto 15 pf_151_112 (by decide) ?_
          obtain ⟨nz26, hnz26, rfl⟩ : ∃ zz : Nat, zz = 1 + p ∧ y25 = ((zz : Nat) : Int) := ⟨1 + p, rfl, by omega⟩
          exact ih _ (by omega) y22 nz26 _ _ M23 rfl q24 (by omega) (by intro j hj; rw [rc_eo (M := M9) (A := [175]) (fun a ha => by rw [eM23, ask_ne (fun z => ha (by rw [z]; exact List.mem_cons_self))]) (by decide)]; exact hcp2 j hj) (by intro n hn; rw [eM23, ask_ne (by decide)]; exact hll2 n hn) (by omega) (by
                          have hVe : all_7 = sp_plV lw (rc M0 3) pane p := hV
                          have hcd : (sp_plF lw (rc M0 3) pane p).2 < sp_plV lw (rc M0 3) pane p := by
                            rw [← hVe]
                            rw [← (show M 175 2 = _ from hS (by omega))]; omega
                          show y22 = _; rw [show nz26 = p + 1 by omega, sp_plF, if_pos hcd]; exact hy22) (by
                          intro _
                          have hVe : all_7 = sp_plV lw (rc M0 3) pane p := hV
                          have hcd : (sp_plF lw (rc M0 3) pane p).2 < sp_plV lw (rc M0 3) pane p := by
                            rw [← hVe]
                            rw [← (show M 175 2 = _ from hS (by omega))]; omega
                          show M23 175 2 = _; rw [show nz26 = p + 1 by omega, sp_plF, if_pos hcd, eM23, up_s]; exact hV) (by omega)
theorem ct_Paper_bestPlaceFor {xs : Nat → Int} {L d : Nat} {sh : List (Nat × Nat)} {M0 : Nat → Nat → Int} (hd : 8 ≤ d) (hW : px_W0 <+: sh) (hF : px_Fx M0) (hG : px_RG sh M0)  (hρ : sp_ok (rc M0 3)) {lw : List sp_C} (hlw : px_lw sh M0 3 lw) (hok : px_lOK sh M0 3) {pane : Nat} (hpn : pane < 16) : ∃ v M, (px_qk sh [2, 175, 188, 189, 190, 191, 192, 193, 194, 195, 196, 197, 198] M0 M ∧ (eqI v (sp_plF lw (rc M0 3) pane 16).1) ∧ (eqI (M 175 2) (sp_plF lw (rc M0 3) pane 16).2) ∧ (-1 ≤ v ∧ v ≤ 16)) ∧ px_Cl xs L d 151 [.ref 175, .int (iI (((pane : Nat) : Int)))] (sh, M0) (some (.int (iI v))) (sh, M) := by
  obtain ⟨d, rfl⟩ : ∃ e, d = e + 1 := ⟨d - 1, by omega⟩
  have q0 : px_qk sh [2, 175, 188, 189, 190, 191, 192, 193, 194, 195, 196, 197, 198] M0 M0 := ⟨hF, hG, eo_rf⟩
  refine vc_i (Nat.le_of_ble_eq_true rfl) ?_
  show px_R xs L d 151 (0, [.ref 175, .int (iI (((pane : Nat) : Int))), px_jk, px_jk, px_jk, px_jk], [], (sh, M0)) (fun r h' => ∃ v M', r = some (.int (iI v)) ∧ h' = (sh, M') ∧ px_qk sh [2, 175, 188, 189, 190, 191, 192, 193, 194, 195, 196, 197, 198] M0 M' ∧ eqI v (sp_plF lw (rc M0 3) pane 16).1 ∧ eqI (M' 175 2) (sp_plF lw (rc M0 3) pane 16).2 ∧ (-1 ≤ v ∧ v ≤ 16))
  refine rr_aload_n pf_151_0 rfl ?_
  refine rr_getR pf_151_1 po_151 pg_2_74 rfl (ws_175 hW) (by decide) (wr_175_4 q0.1) ?_
  refine rr_aload_n pf_151_4 rfl ?_
  refine rr_getR pf_151_5 po_151 pg_2_65 rfl (ws_175 hW) (by decide) (wr_175_3 q0.1) ?_
  obtain ⟨M1, ⟨kq2, prM1, plM1⟩, hcM1⟩ := ct_Church_copyFrom (xs := xs) (L := L) (d := d) (cb := 188) (c2 := 3) (by omega) hW q0.1 q0.2.1 (show px_ch 188 by unfold px_ch; decide) (show px_ch 3 by unfold px_ch; decide) (by decide) hok
  have q2 := qk_trm q0 kq2 (by decide)
  refine rr_cV1 pf_151_8 po_151 pc_2_190 (ws_188 hW) po_152 (by decide) rfl hcM1 ?_
  refine rr_iconst pf_151_11 ?_
  refine rr_istore_n pf_151_12 (fun y => [.ref 175, .int (iI (((pane : Nat) : Int))), .int (iI (y)), px_jk, px_jk, px_jk]) (Nat.le_of_ble_eq_true rfl) (fun _ => rfl) (fun y3 hy3 => ?_)
  refine rr_iconst pf_151_13 ?_
  refine rr_istore_n pf_151_14 (fun y => [.ref 175, .int (iI (((pane : Nat) : Int))), .int (iI (y3)), .int (iI (y)), px_jk, px_jk]) (Nat.le_of_ble_eq_true rfl) (fun _ => rfl) (fun y4 hy4 => ?_)
  obtain ⟨nz5, hnz5, rfl⟩ : ∃ zz : Nat, zz = 0 ∧ y4 = ((zz : Nat) : Int) := ⟨0, rfl, by omega⟩
  refine lp_Paper_bestPlaceFor_15 (xs := xs) (L := L) (d := d) (by omega) hW hρ hlw hok hpn (fun best_6 p_7 v10 v11 M8 q9 xB_M8 xS_M8 xbb_M8 => ?_) _ y3 nz5 _ _ M1 rfl q2 (by omega) (by intro j _; rw [prM1]) (plM1) (by omega) (by show y3 = _; rw [show nz5 = 0 by omega, sp_plF]; omega) (by intro z; exfalso; omega) (by omega)
  refine rr_iload_n pf_151_115 rfl ?_
  refine rr_iret pf_151_116 pt_151 ⟨_, M8, rfl, rfl, q9, (xB_M8), (xS_M8), (xbb_M8)⟩
theorem ct_S_place {xs : Nat → Int} {L d : Nat} {sh : List (Nat × Nat)} {M0 : Nat → Nat → Int} (hd : 9 ≤ d) (hW : px_W0 <+: sh) (hF : px_Fx M0) (hG : px_RG sh M0)  (hρ : sp_ok (rc M0 3)) {lw : List sp_C} (hlw : px_lw sh M0 3 lw) (hok : px_lOK sh M0 3) {p u : Int} (hp0 : rg p) (hu0 : rg u) : ∃ v M, (px_qk sh [2, 175, 188, 189, 190, 191, 192, 193, 194, 195, 196, 197, 198] M0 M ∧ (v = sp_plc lw (rc M0 3) p u)) ∧ px_Cl xs L d 150 [.ref 0, .int (iI (p)), .int (iI (u))] (sh, M0) (some (.int (iI v))) (sh, M) := by
  obtain ⟨d, rfl⟩ : ∃ e, d = e + 1 := ⟨d - 1, by omega⟩
  have q0 : px_qk sh [2, 175, 188, 189, 190, 191, 192, 193, 194, 195, 196, 197, 198] M0 M0 := ⟨hF, hG, eo_rf⟩
  refine vc_i (Nat.le_of_ble_eq_true rfl) ?_
  show px_R xs L d 150 (0, [.ref 0, .int (iI (p)), .int (iI (u)), px_jk], [], (sh, M0)) (fun r h' => ∃ v M', r = some (.int (iI v)) ∧ h' = (sh, M') ∧ px_qk sh [2, 175, 188, 189, 190, 191, 192, 193, 194, 195, 196, 197, 198] M0 M' ∧ v = sp_plc lw (rc M0 3) p u)
  refine rr_iload_n pf_150_0 rfl ?_
  refine rr_cS1 pf_150_1 po_150 pc_8_128 (by decide) rfl (ct_S_isPane (by omega) hp0) ?_
  refine rr_ifb_eq 16 pf_150_4 (by decide) (fun c1 => ?_) (fun c1 => ?_)
  · refine rr_iconst pf_150_16 ?_
    refine rr_iret pf_150_17 pt_150 ⟨_, M0, rfl, rfl, q0, (by unfold sp_plc; rw [if_neg (by omega)])⟩
  · refine rr_iload_n pf_150_7 rfl ?_
    refine rr_iconst pf_150_8 ?_
    refine rr_iconst pf_150_9 ?_
    refine rr_cS3 pf_150_10 po_150 pc_8_95 (by decide) rfl (ct_S_within (by omega) hu0 (by unfold rg; omega) (by unfold rg; omega)) ?_
    refine rr_ifb_ne 18 pf_150_13 (by decide) (fun c2 => ?_) (fun c2 => ?_)
    · refine rr_aload_n pf_150_18 rfl ?_
      refine rr_getR pf_150_19 po_150 pg_8_57 rfl (ws_0 hW) (by decide) (wr_0_7 q0.1) ?_
      refine rr_iload_n pf_150_22 rfl ?_
      obtain ⟨r5, M3, ⟨kq4, pv_M3, ps_M3, pb_M3⟩, hcM3⟩ := ct_Paper_bestPlaceFor (xs := xs) (L := L) (d := d) (pane := p.toNat) (lw := lw) (by omega) hW q0.1 q0.2.1 hρ hlw hok (by omega)
      rw [show ((p.toNat : Nat) : Int) = p by omega] at hcM3
      have q4 := qk_trm q0 kq4 (by decide)
      refine rr_cV1 pf_150_23 po_150 pc_8_319 (ws_175 hW) po_151 (by decide) rfl hcM3 ?_
      
      refine rr_istore_n pf_150_26 (fun y => [.ref 0, .int (iI (p)), .int (iI (u)), .int (iI (y))]) (Nat.le_of_ble_eq_true rfl) (fun _ => rfl) (fun y6 hy6 => ?_)
      refine rr_iload_n pf_150_27 rfl ?_
      refine rr_if_ne 35 pf_150_28 (by decide) hu0 (fun c7 => ?_) (fun c7 => ?_)
      · refine rr_aload_n pf_150_35 rfl ?_
        refine rr_getR pf_150_36 po_150 pg_8_57 rfl (ws_0 hW) (by decide) (wr_0_7 q4.1) ?_
        refine vr_getI q4 pf_150_39 po_150 pg_8_322 rfl (ws_175 hW) (by decide) (fun x8 hx8 rx8 => ?_)
        refine rr_iret pf_150_42 pt_150 ⟨_, M3, rfl, rfl, q4, (by unfold sp_plc; rw [if_pos (by omega), if_neg (by omega)]; exact hx8.trans ps_M3)⟩
      · refine rr_iload_n pf_150_31 rfl ?_
        refine rr_goto 42 pf_150_32 (by decide) ?_
        refine rr_iret pf_150_42 pt_150 ⟨_, M3, rfl, rfl, q4, (by unfold sp_plc; rw [if_pos (by omega), if_pos (by omega)]; exact hy6.trans pv_M3)⟩
    · refine rr_iconst pf_150_16 ?_
      refine rr_iret pf_150_17 pt_150 ⟨_, M0, rfl, rfl, q0, (by unfold sp_plc; rw [if_neg (by omega)])⟩
