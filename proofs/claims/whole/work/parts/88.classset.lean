/-! the class: calls that set, calls that tell -/
theorem ct_S_word {xs : Nat → Int} {L d : Nat} {sh : List (Nat × Nat)} {M0 : Nat → Nat → Int} (hd : 9 ≤ d) (hW : px_W0 <+: sh) (hF : px_Fx M0) (hG : px_RG sh M0)  (hρ : sp_ok (rc M0 3)) {lw : List sp_C} (hlw : px_lw sh M0 3 lw) (hrc : ∀ j, j < 5 → 0 ≤ M0 205 j ∧ M0 205 j ≤ 1000000000) (hto : tr_ok M0 27) {h f : Int} (hh0 : rg h) (hf0 : rg f) : ∃ v M, (px_qk sh [0, 3, 8, 9, 27, 205] M0 M ∧ (v = sp_wordV (rc M0 3) h f) ∧ (rc M 3 = sp_wordR (rc M0 3) h f) ∧ (M 0 13 = if v < 0 then v else 0) ∧ (M 205 = bmC (M0 205) v) ∧ (M 27 = if v < 0 then M0 27 else px_up M0 27 3 0 27) ∧ (fk 0 [13] M0 M)) ∧ px_Cl xs L d 10 [.ref 0, .int (iI (h)), .int (iI (f))] (sh, M0) (some (.int (iI v))) (sh, M) := by
  obtain ⟨d, rfl⟩ : ∃ e, d = e + 1 := ⟨d - 1, by omega⟩
  have q0 : px_qk sh [0, 3, 8, 9, 27, 205] M0 M0 := ⟨hF, hG, eo_rf⟩
  have h0 := hρ.1
  have h1 := hρ.2.1
  have h2 := hρ.2.2.1
  have h3 := hρ.2.2.2.1
  have h4 := hρ.2.2.2.2.1
  have h5 := hρ.2.2.2.2.2.1
  have h6 := hρ.2.2.2.2.2.2.1
  have h7 := hρ.2.2.2.2.2.2.2.1
  have h8 := hρ.2.2.2.2.2.2.2.2.1
  refine vc_i (Nat.le_of_ble_eq_true rfl) ?_
  show px_R xs L d 10 (0, [.ref 0, .int (iI (h)), .int (iI (f)), px_jk], [], (sh, M0)) (fun r h' => ∃ v M', r = some (.int (iI v)) ∧ h' = (sh, M') ∧ px_qk sh [0, 3, 8, 9, 27, 205] M0 M' ∧ v = sp_wordV (rc M0 3) h f ∧ rc M' 3 = sp_wordR (rc M0 3) h f ∧ (M' 0 13 = if v < 0 then v else 0) ∧ M' 205 = bmC (M0 205) v ∧ (M' 27 = if v < 0 then M0 27 else px_up M0 27 3 0 27) ∧ fk 0 [13] M0 M')
  refine rr_iload_n pf_10_0 rfl ?_
  refine rr_cS1 pf_10_1 po_10 pc_8_91 (by decide) rfl (ct_S_isHue (by omega) hh0) ?_
  refine rr_ifb_eq 17 pf_10_4 (by decide) (fun c1 => ?_) (fun c1 => ?_)
  · refine rr_aload_n pf_10_17 rfl ?_
    refine rr_iconst pf_10_18 ?_
    obtain ⟨r4, M2, ⟨kq3, pv_M2, p13_M2, p5_M2, pf_M2⟩, hcM2⟩ := ct_S_refuse (xs := xs) (L := L) (d := d) (u := (-1)) (by omega) hW q0.1 q0.2.1 (by omega) hrc
    have q3 := qk_trm q0 kq3 (by decide)
    have rq5 := fk_tr (fk_rf 0 [13] M0) pf_M2 (by decide)
    have cr6 : rc M2 3 = (rc M0 3) := (rc_eo kq3.2.2 (by decide)).trans (rfl : rc M0 3 = rc M0 3)
    have e7 : M2 27 = M0 27 := (kq3.2.2 27 (by decide)).trans (rfl : M0 27 = M0 27)
    have e8 : M2 3 = M0 3 := (kq3.2.2 3 (by decide)).trans (rfl : M0 3 = M0 3)
    have e9 : M2 4 = M0 4 := (kq3.2.2 4 (by decide)).trans (rfl : M0 4 = M0 4)
    refine rr_cV1 pf_10_19 po_10 pc_8_99 (ws_0 hW) po_13 (by decide) rfl hcM2 ?_
    refine rr_iret pf_10_22 pt_10 ⟨_, M2, rfl, rfl, q3, (by rw [pv_M2]; unfold sp_wordV; rw [if_neg (by omega)]), (by unfold sp_wordR; rw [show sp_wordV (rc M0 3) h f = -1 by unfold sp_wordV; rw [if_neg (by omega)], if_neg (by decide)]; exact cr6), (by rw [pv_M2, if_pos (by decide)]; exact p13_M2), (by rw [pv_M2, p5_M2, (rfl : M0 205 = M0 205)]), (by rw [pv_M2, if_pos (by decide)]; exact e7), (rq5)⟩
  · refine rr_iload_n pf_10_7 rfl ?_
    refine rr_iconst pf_10_8 ?_
    refine rr_bipush pf_10_9 (by decide) ?_
    refine rr_cS3 pf_10_11 po_10 pc_8_95 (by decide) rfl (ct_S_within (by omega) hf0 (by unfold rg; omega) (by unfold rg; omega)) ?_
    refine rr_ifb_ne 23 pf_10_14 (by decide) (fun c10 => ?_) (fun c10 => ?_)
    · refine rr_aload_n pf_10_23 rfl ?_
      refine rr_getR pf_10_24 po_10 pg_8_21 rfl (ws_0 hW) (by decide) (wr_0_1 q0.1) ?_
      refine vr_getI q0 pf_10_27 po_10 pg_8_103 rfl (ws_3 hW) (by decide) (fun x11 hx11 rx11 => ?_)
      change x11 = rc M0 3 0 at hx11
      refine rr_bipush pf_10_30 (by decide) ?_
      refine rr_icmp_lt 42 pf_10_32 (by decide) rx11 (by unfold rg; omega) (fun c12 => ?_) (fun c12 => ?_)
      · refine rr_aload_n pf_10_42 rfl ?_
        refine rr_getR pf_10_43 po_10 pg_8_21 rfl (ws_0 hW) (by decide) (wr_0_1 q0.1) ?_
        refine vr_getI q0 pf_10_46 po_10 pg_8_103 rfl (ws_3 hW) (by decide) (fun x13 hx13 rx13 => ?_)
        change x13 = rc M0 3 0 at hx13
        refine rr_istore_n pf_10_49 (fun y => [.ref 0, .int (iI (h)), .int (iI (f)), .int (iI (y))]) (Nat.le_of_ble_eq_true rfl) (fun _ => rfl) (fun y14 hy14 => ?_)
        have ry14 : rg y14 := hy14 ▸ rx13
        refine rr_aload_n pf_10_50 rfl ?_
        refine rr_getR pf_10_51 po_10 pg_8_21 rfl (ws_0 hW) (by decide) (wr_0_1 q0.1) ?_
        refine rr_getR pf_10_54 po_10 pg_8_106 rfl (ws_3 hW) (by decide) (wr_3_1 q0.1) ?_
        refine rr_iload_n pf_10_57 rfl ?_
        refine rr_iload_n pf_10_58 rfl ?_
        refine vr_iast (j := (rc M0 3 0).toNat) hW q0 pf_10_59 (ws_8 hW) (by omega) (by omega) (by decide) hh0 (by decide) (fun M15 eM15 q16 => ?_)
        have rq17 := fk_ne (fk_rf 0 [13] M0) eM15 (by decide)
        have cr18 : rc M15 3 = rup (rc M0 3) (69 + ((rc M0 3 0).toNat)) h := by rw [eM15, r3_a8 (by omega), (rfl : rc M0 3 = rc M0 3)]
        have e19 : M15 205 = M0 205 := (show M15 205 = M0 205 by rw [eM15, ask_ne (by decide)]).trans (rfl : M0 205 = M0 205)
        have e20 : M15 27 = M0 27 := (show M15 27 = M0 27 by rw [eM15, ask_ne (by decide)]).trans (rfl : M0 27 = M0 27)
        have e21 : M15 3 = M0 3 := (show M15 3 = M0 3 by rw [eM15, ask_ne (by decide)]).trans (rfl : M0 3 = M0 3)
        have e22 : M15 4 = M0 4 := (show M15 4 = M0 4 by rw [eM15, ask_ne (by decide)]).trans (rfl : M0 4 = M0 4)
        refine rr_aload_n pf_10_60 rfl ?_
        refine rr_getR pf_10_61 po_10 pg_8_21 rfl (ws_0 hW) (by decide) (wr_0_1 q16.1) ?_
        refine rr_getR pf_10_64 po_10 pg_8_109 rfl (ws_3 hW) (by decide) (wr_3_2 q16.1) ?_
        refine rr_iload_n pf_10_67 rfl ?_
        refine rr_iload_n pf_10_68 rfl ?_
        refine vr_iast (j := (rc M0 3 0).toNat) hW q16 pf_10_69 (ws_9 hW) (by omega) (by omega) (by decide) hf0 (by decide) (fun M23 eM23 q24 => ?_)
        have rq25 := fk_ne rq17 eM23 (by decide)
        have cr26 : rc M23 3 = rup (rup (rc M0 3) (69 + ((rc M0 3 0).toNat)) h) (77 + ((rc M0 3 0).toNat)) f := by rw [eM23, r3_a9 (by omega), cr18]
        have e27 : M23 205 = M0 205 := (show M23 205 = M15 205 by rw [eM23, ask_ne (by decide)]).trans e19
        have e28 : M23 27 = M0 27 := (show M23 27 = M15 27 by rw [eM23, ask_ne (by decide)]).trans e20
        have e29 : M23 3 = M0 3 := (show M23 3 = M15 3 by rw [eM23, ask_ne (by decide)]).trans e21
        have e30 : M23 4 = M0 4 := (show M23 4 = M15 4 by rw [eM23, ask_ne (by decide)]).trans e22
        refine rr_aload_n pf_10_70 rfl ?_
        refine rr_getR pf_10_71 po_10 pg_8_21 rfl (ws_0 hW) (by decide) (wr_0_1 q24.1) ?_
        refine rr_dup pf_10_74 rfl ?_
        refine vr_getI q24 pf_10_75 po_10 pg_8_103 rfl (ws_3 hW) (by decide) (fun x31 hx31 rx31 => ?_)
        rw [e29] at hx31
        change x31 = rc M0 3 0 at hx31
        refine rr_iconst pf_10_78 ?_
        refine rr_iadd pf_10_79 ?_
        refine vr_putI hW q24 pf_10_80 po_10 pg_8_103 (Or.inl rfl) rfl (ws_3 hW) (by decide) (by unfold rg; omega) (by decide) (fun M32 eM32 q33 => ?_)
        have rq34 := fk_ne rq25 eM32 (by decide)
        have cr35 : rc M32 3 = rup (rup (rup (rc M0 3) (69 + ((rc M0 3 0).toNat)) h) (77 + ((rc M0 3 0).toNat)) f) (0) (x31 + 1) := by rw [eM32, r3_f6, cr26]
        have e36 : M32 205 = M0 205 := (show M32 205 = M23 205 by rw [eM32, ask_ne (by decide)]).trans e27
        have e37 : M32 27 = M0 27 := (show M32 27 = M23 27 by rw [eM32, ask_ne (by decide)]).trans e28
        have e38 : M32 4 = M0 4 := (show M32 4 = M23 4 by rw [eM32, ask_ne (by decide)]).trans e30
        refine rr_aload_n pf_10_83 rfl ?_
        refine rr_getR pf_10_84 po_10 pg_8_39 rfl (ws_0 hW) (by decide) (wr_0_5 q33.1) ?_
        obtain ⟨M39, ⟨kq40, eM39⟩, hcM39⟩ := ct_Trail_clear (xs := xs) (L := L) (d := d) (tb := 27) (by omega) hW q33.1 q33.2.1 px_tr27 (by unfold tr_ok; rw [e37]; exact hto)
        have q40 := qk_trm q33 kq40 (by decide)
        have rq41 := fk_ne rq34 eM39 (by decide)
        have cr42 : rc M39 3 = (rup (rup (rup (rc M0 3) (69 + ((rc M0 3 0).toNat)) h) (77 + ((rc M0 3 0).toNat)) f) (0) (x31 + 1)) := (rc_eo (A := [27]) (fun a ha => by rw [eM39, ask_ne (fun z => ha (by rw [z]; exact List.mem_cons_self))]) (by decide)).trans cr35
        have e43 : M39 205 = M0 205 := (show M39 205 = M32 205 by rw [eM39, ask_ne (by decide)]).trans e36
        have e44 : M39 4 = M0 4 := (show M39 4 = M32 4 by rw [eM39, ask_ne (by decide)]).trans e38
        have t27M39 : M39 27 = px_up M0 27 3 0 27 := by rw [eM39, up_self, up_self, e37]
        refine rr_cV0 pf_10_87 po_10 pc_8_112 (ws_27 hW) po_14 (by decide) rfl hcM39 ?_
        refine rr_aload_n pf_10_90 rfl ?_
        refine rr_iload_n pf_10_91 rfl ?_
        obtain ⟨r47, M45, ⟨kq46, pv_M45, p13_M45, pf_M45⟩, hcM45⟩ := ct_S_accept (xs := xs) (L := L) (d := d) (u := y14) (by omega) hW q40.1 q40.2.1 (by unfold rg; omega)
        have q46 := qk_trm q40 kq46 (by decide)
        have rq48 := fk_tr rq41 pf_M45 (by decide)
        have cr49 : rc M45 3 = (rup (rup (rup (rc M0 3) (69 + ((rc M0 3 0).toNat)) h) (77 + ((rc M0 3 0).toNat)) f) (0) (x31 + 1)) := (rc_eo kq46.2.2 (by decide)).trans cr42
        have e50 : M45 205 = M0 205 := (kq46.2.2 205 (by decide)).trans e43
        have e51 : M45 4 = M0 4 := (kq46.2.2 4 (by decide)).trans e44
        have t27M45 : M45 27 = px_up M0 27 3 0 27 := (kq46.2.2 27 (by decide)).trans t27M39
        refine rr_cV1 pf_10_92 po_10 pc_8_115 (ws_0 hW) po_15 (by decide) rfl hcM45 ?_
        refine rr_iret pf_10_95 pt_10 ⟨_, M45, rfl, rfl, q46, (by rw [pv_M45]; unfold sp_wordV; rw [if_pos (by omega), if_neg (by omega)]; omega), (by unfold sp_wordR; rw [show sp_wordV (rc M0 3) h f = rc M0 3 0 by unfold sp_wordV; rw [if_pos (by omega), if_neg (by omega)], if_pos (by omega), cr49]; congr 1; omega), (by rw [if_neg (by omega)]; exact p13_M45), (by unfold bmC; rw [if_neg (by omega)]; exact e50), (by rw [if_neg (by omega)]; exact t27M45), (rq48)⟩
      · refine rr_aload_n pf_10_35 rfl ?_
        refine rr_bipush pf_10_36 (by decide) ?_
        obtain ⟨r54, M52, ⟨kq53, pv_M52, p13_M52, p5_M52, pf_M52⟩, hcM52⟩ := ct_S_refuse (xs := xs) (L := L) (d := d) (u := (-5)) (by omega) hW q0.1 q0.2.1 (by omega) hrc
        have q53 := qk_trm q0 kq53 (by decide)
        have rq55 := fk_tr (fk_rf 0 [13] M0) pf_M52 (by decide)
        have cr56 : rc M52 3 = (rc M0 3) := (rc_eo kq53.2.2 (by decide)).trans (rfl : rc M0 3 = rc M0 3)
        have e57 : M52 27 = M0 27 := (kq53.2.2 27 (by decide)).trans (rfl : M0 27 = M0 27)
        have e58 : M52 3 = M0 3 := (kq53.2.2 3 (by decide)).trans (rfl : M0 3 = M0 3)
        have e59 : M52 4 = M0 4 := (kq53.2.2 4 (by decide)).trans (rfl : M0 4 = M0 4)
        refine rr_cV1 pf_10_38 po_10 pc_8_99 (ws_0 hW) po_13 (by decide) rfl hcM52 ?_
        refine rr_iret pf_10_41 pt_10 ⟨_, M52, rfl, rfl, q53, (by rw [pv_M52]; unfold sp_wordV; rw [if_pos (by omega), if_pos (by omega)]), (by unfold sp_wordR; rw [show sp_wordV (rc M0 3) h f = -5 by unfold sp_wordV; rw [if_pos (by omega), if_pos (by omega)], if_neg (by decide)]; exact cr56), (by rw [pv_M52, if_pos (by decide)]; exact p13_M52), (by rw [pv_M52, p5_M52, (rfl : M0 205 = M0 205)]), (by rw [pv_M52, if_pos (by decide)]; exact e57), (rq55)⟩
    · refine rr_aload_n pf_10_17 rfl ?_
      refine rr_iconst pf_10_18 ?_
      obtain ⟨r62, M60, ⟨kq61, pv_M60, p13_M60, p5_M60, pf_M60⟩, hcM60⟩ := ct_S_refuse (xs := xs) (L := L) (d := d) (u := (-1)) (by omega) hW q0.1 q0.2.1 (by omega) hrc
      have q61 := qk_trm q0 kq61 (by decide)
      have rq63 := fk_tr (fk_rf 0 [13] M0) pf_M60 (by decide)
      have cr64 : rc M60 3 = (rc M0 3) := (rc_eo kq61.2.2 (by decide)).trans (rfl : rc M0 3 = rc M0 3)
      have e65 : M60 27 = M0 27 := (kq61.2.2 27 (by decide)).trans (rfl : M0 27 = M0 27)
      have e66 : M60 3 = M0 3 := (kq61.2.2 3 (by decide)).trans (rfl : M0 3 = M0 3)
      have e67 : M60 4 = M0 4 := (kq61.2.2 4 (by decide)).trans (rfl : M0 4 = M0 4)
      refine rr_cV1 pf_10_19 po_10 pc_8_99 (ws_0 hW) po_13 (by decide) rfl hcM60 ?_
      refine rr_iret pf_10_22 pt_10 ⟨_, M60, rfl, rfl, q61, (by rw [pv_M60]; unfold sp_wordV; rw [if_neg (by omega)]), (by unfold sp_wordR; rw [show sp_wordV (rc M0 3) h f = -1 by unfold sp_wordV; rw [if_neg (by omega)], if_neg (by decide)]; exact cr64), (by rw [pv_M60, if_pos (by decide)]; exact p13_M60), (by rw [pv_M60, p5_M60, (rfl : M0 205 = M0 205)]), (by rw [pv_M60, if_pos (by decide)]; exact e65), (rq63)⟩
theorem ct_S_listener {xs : Nat → Int} {L d : Nat} {sh : List (Nat × Nat)} {M0 : Nat → Nat → Int} (hd : 9 ≤ d) (hW : px_W0 <+: sh) (hF : px_Fx M0) (hG : px_RG sh M0)  (hρ : sp_ok (rc M0 3)) {lw : List sp_C} (hlw : px_lw sh M0 3 lw) (hrc : ∀ j, j < 5 → 0 ≤ M0 205 j ∧ M0 205 j ≤ 1000000000) (hto : tr_ok M0 27) {s p : Int} (hs0 : rg s) (hp0 : rg p) : ∃ v M, (px_qk sh [0, 3, 6, 7, 27, 205] M0 M ∧ (v = sp_lisV (rc M0 3) s p) ∧ (rc M 3 = sp_lisR (rc M0 3) s p) ∧ (M 0 13 = if v < 0 then v else 0) ∧ (M 205 = bmC (M0 205) v) ∧ (M 27 = if v < 0 then M0 27 else px_up M0 27 3 0 27) ∧ (fk 0 [13] M0 M)) ∧ px_Cl xs L d 36 [.ref 0, .int (iI (s)), .int (iI (p))] (sh, M0) (some (.int (iI v))) (sh, M) := by
  obtain ⟨d, rfl⟩ : ∃ e, d = e + 1 := ⟨d - 1, by omega⟩
  have q0 : px_qk sh [0, 3, 6, 7, 27, 205] M0 M0 := ⟨hF, hG, eo_rf⟩
  have h0 := hρ.1
  have h1 := hρ.2.1
  have h2 := hρ.2.2.1
  have h3 := hρ.2.2.2.1
  have h4 := hρ.2.2.2.2.1
  have h5 := hρ.2.2.2.2.2.1
  have h6 := hρ.2.2.2.2.2.2.1
  have h7 := hρ.2.2.2.2.2.2.2.1
  have h8 := hρ.2.2.2.2.2.2.2.2.1
  refine vc_i (Nat.le_of_ble_eq_true rfl) ?_
  show px_R xs L d 36 (0, [.ref 0, .int (iI (s)), .int (iI (p)), px_jk], [], (sh, M0)) (fun r h' => ∃ v M', r = some (.int (iI v)) ∧ h' = (sh, M') ∧ px_qk sh [0, 3, 6, 7, 27, 205] M0 M' ∧ v = sp_lisV (rc M0 3) s p ∧ rc M' 3 = sp_lisR (rc M0 3) s p ∧ (M' 0 13 = if v < 0 then v else 0) ∧ M' 205 = bmC (M0 205) v ∧ (M' 27 = if v < 0 then M0 27 else px_up M0 27 3 0 27) ∧ fk 0 [13] M0 M')
  refine rr_iload_n pf_36_0 rfl ?_
  refine rr_cS1 pf_36_1 po_36 pc_8_149 (by decide) rfl (ct_S_isSeat (by omega) hs0) ?_
  refine rr_ifb_eq 17 pf_36_4 (by decide) (fun c1 => ?_) (fun c1 => ?_)
  · refine rr_aload_n pf_36_17 rfl ?_
    refine rr_iconst pf_36_18 ?_
    obtain ⟨r4, M2, ⟨kq3, pv_M2, p13_M2, p5_M2, pf_M2⟩, hcM2⟩ := ct_S_refuse (xs := xs) (L := L) (d := d) (u := (-1)) (by omega) hW q0.1 q0.2.1 (by omega) hrc
    have q3 := qk_trm q0 kq3 (by decide)
    have rq5 := fk_tr (fk_rf 0 [13] M0) pf_M2 (by decide)
    have cr6 : rc M2 3 = (rc M0 3) := (rc_eo kq3.2.2 (by decide)).trans (rfl : rc M0 3 = rc M0 3)
    have e7 : M2 27 = M0 27 := (kq3.2.2 27 (by decide)).trans (rfl : M0 27 = M0 27)
    have e8 : M2 3 = M0 3 := (kq3.2.2 3 (by decide)).trans (rfl : M0 3 = M0 3)
    have e9 : M2 4 = M0 4 := (kq3.2.2 4 (by decide)).trans (rfl : M0 4 = M0 4)
    refine rr_cV1 pf_36_19 po_36 pc_8_99 (ws_0 hW) po_13 (by decide) rfl hcM2 ?_
    refine rr_iret pf_36_22 pt_36 ⟨_, M2, rfl, rfl, q3, (by rw [pv_M2]; unfold sp_lisV; rw [if_neg (by omega)]), (by unfold sp_lisR; rw [show sp_lisV (rc M0 3) s p = -1 by unfold sp_lisV; rw [if_neg (by omega)], if_neg (by decide)]; exact cr6), (by rw [pv_M2, if_pos (by decide)]; exact p13_M2), (by rw [pv_M2, p5_M2, (rfl : M0 205 = M0 205)]), (by rw [pv_M2, if_pos (by decide)]; exact e7), (rq5)⟩
  · refine rr_iload_n pf_36_7 rfl ?_
    refine rr_iconst pf_36_8 ?_
    refine rr_bipush pf_36_9 (by decide) ?_
    refine rr_cS3 pf_36_11 po_36 pc_8_95 (by decide) rfl (ct_S_within (by omega) hp0 (by unfold rg; omega) (by unfold rg; omega)) ?_
    refine rr_ifb_ne 23 pf_36_14 (by decide) (fun c10 => ?_) (fun c10 => ?_)
    · refine rr_aload_n pf_36_23 rfl ?_
      refine rr_getR pf_36_24 po_36 pg_8_21 rfl (ws_0 hW) (by decide) (wr_0_1 q0.1) ?_
      refine rr_iload_n pf_36_27 rfl ?_
      refine rr_cV1 pf_36_28 po_36 pc_8_152 (ws_3 hW) po_38 (by decide) rfl (ct_Church_isTaken (xs := xs) (L := L) (d := d) (cb := 3) (v := s) (by omega) hW q0.1 q0.2.1 (show px_ch 3 by unfold px_ch; decide) hρ hs0) ?_
      refine rr_ifb_eq 41 pf_36_31 (by decide) (fun c11 => ?_) (fun c11 => ?_)
      · have hTK := c11
        refine rr_aload_n pf_36_41 rfl ?_
        refine rr_getR pf_36_42 po_36 pg_8_21 rfl (ws_0 hW) (by decide) (wr_0_1 q0.1) ?_
        refine vr_getI q0 pf_36_45 po_36 pg_8_155 rfl (ws_3 hW) (by decide) (fun x12 hx12 rx12 => ?_)
        change x12 = rc M0 3 1 at hx12
        refine rr_bipush pf_36_48 (by decide) ?_
        refine rr_icmp_lt 60 pf_36_50 (by decide) rx12 (by unfold rg; omega) (fun c13 => ?_) (fun c13 => ?_)
        · refine rr_aload_n pf_36_60 rfl ?_
          refine rr_getR pf_36_61 po_36 pg_8_21 rfl (ws_0 hW) (by decide) (wr_0_1 q0.1) ?_
          refine vr_getI q0 pf_36_64 po_36 pg_8_155 rfl (ws_3 hW) (by decide) (fun x14 hx14 rx14 => ?_)
          change x14 = rc M0 3 1 at hx14
          refine rr_istore_n pf_36_67 (fun y => [.ref 0, .int (iI (s)), .int (iI (p)), .int (iI (y))]) (Nat.le_of_ble_eq_true rfl) (fun _ => rfl) (fun y15 hy15 => ?_)
          have ry15 : rg y15 := hy15 ▸ rx14
          refine rr_aload_n pf_36_68 rfl ?_
          refine rr_getR pf_36_69 po_36 pg_8_21 rfl (ws_0 hW) (by decide) (wr_0_1 q0.1) ?_
          refine rr_getR pf_36_72 po_36 pg_8_131 rfl (ws_3 hW) (by decide) (wr_3_0 q0.1) ?_
          refine rr_getR pf_36_75 po_36 pg_8_158 rfl (ws_4 hW) (by decide) (wr_4_2 q0.1) ?_
          refine rr_iload_n pf_36_78 rfl ?_
          refine rr_iload_n pf_36_79 rfl ?_
          refine vr_iast (j := (rc M0 3 1).toNat) hW q0 pf_36_80 (ws_7 hW) (by omega) (by omega) (by decide) hs0 (by decide) (fun M16 eM16 q17 => ?_)
          have rq18 := fk_ne (fk_rf 0 [13] M0) eM16 (by decide)
          have cr19 : rc M16 3 = rup (rc M0 3) (57 + ((rc M0 3 1).toNat)) s := by rw [eM16, r3_a7 (by omega), (rfl : rc M0 3 = rc M0 3)]
          have e20 : M16 205 = M0 205 := (show M16 205 = M0 205 by rw [eM16, ask_ne (by decide)]).trans (rfl : M0 205 = M0 205)
          have e21 : M16 27 = M0 27 := (show M16 27 = M0 27 by rw [eM16, ask_ne (by decide)]).trans (rfl : M0 27 = M0 27)
          have e22 : M16 3 = M0 3 := (show M16 3 = M0 3 by rw [eM16, ask_ne (by decide)]).trans (rfl : M0 3 = M0 3)
          have e23 : M16 4 = M0 4 := (show M16 4 = M0 4 by rw [eM16, ask_ne (by decide)]).trans (rfl : M0 4 = M0 4)
          refine rr_aload_n pf_36_81 rfl ?_
          refine rr_getR pf_36_82 po_36 pg_8_21 rfl (ws_0 hW) (by decide) (wr_0_1 q17.1) ?_
          refine rr_getR pf_36_85 po_36 pg_8_131 rfl (ws_3 hW) (by decide) (wr_3_0 q17.1) ?_
          refine rr_getR pf_36_88 po_36 pg_8_161 rfl (ws_4 hW) (by decide) (wr_4_1 q17.1) ?_
          refine rr_iload_n pf_36_91 rfl ?_
          refine rr_iload_n pf_36_92 rfl ?_
          refine vr_iast (j := (rc M0 3 1).toNat) hW q17 pf_36_93 (ws_6 hW) (by omega) (by omega) (by decide) hp0 (by decide) (fun M24 eM24 q25 => ?_)
          have rq26 := fk_ne rq18 eM24 (by decide)
          have cr27 : rc M24 3 = rup (rup (rc M0 3) (57 + ((rc M0 3 1).toNat)) s) (63 + ((rc M0 3 1).toNat)) p := by rw [eM24, r3_a6 (by omega), cr19]
          have e28 : M24 205 = M0 205 := (show M24 205 = M16 205 by rw [eM24, ask_ne (by decide)]).trans e20
          have e29 : M24 27 = M0 27 := (show M24 27 = M16 27 by rw [eM24, ask_ne (by decide)]).trans e21
          have e30 : M24 3 = M0 3 := (show M24 3 = M16 3 by rw [eM24, ask_ne (by decide)]).trans e22
          have e31 : M24 4 = M0 4 := (show M24 4 = M16 4 by rw [eM24, ask_ne (by decide)]).trans e23
          refine rr_aload_n pf_36_94 rfl ?_
          refine rr_getR pf_36_95 po_36 pg_8_21 rfl (ws_0 hW) (by decide) (wr_0_1 q25.1) ?_
          refine rr_dup pf_36_98 rfl ?_
          refine vr_getI q25 pf_36_99 po_36 pg_8_155 rfl (ws_3 hW) (by decide) (fun x32 hx32 rx32 => ?_)
          rw [e30] at hx32
          change x32 = rc M0 3 1 at hx32
          refine rr_iconst pf_36_102 ?_
          refine rr_iadd pf_36_103 ?_
          refine vr_putI hW q25 pf_36_104 po_36 pg_8_155 (Or.inl rfl) rfl (ws_3 hW) (by decide) (by unfold rg; omega) (by decide) (fun M33 eM33 q34 => ?_)
          have rq35 := fk_ne rq26 eM33 (by decide)
          have cr36 : rc M33 3 = rup (rup (rup (rc M0 3) (57 + ((rc M0 3 1).toNat)) s) (63 + ((rc M0 3 1).toNat)) p) (1) (x32 + 1) := by rw [eM33, r3_f7, cr27]
          have e37 : M33 205 = M0 205 := (show M33 205 = M24 205 by rw [eM33, ask_ne (by decide)]).trans e28
          have e38 : M33 27 = M0 27 := (show M33 27 = M24 27 by rw [eM33, ask_ne (by decide)]).trans e29
          have e39 : M33 4 = M0 4 := (show M33 4 = M24 4 by rw [eM33, ask_ne (by decide)]).trans e31
          refine rr_aload_n pf_36_107 rfl ?_
          refine rr_getR pf_36_108 po_36 pg_8_39 rfl (ws_0 hW) (by decide) (wr_0_5 q34.1) ?_
          obtain ⟨M40, ⟨kq41, eM40⟩, hcM40⟩ := ct_Trail_clear (xs := xs) (L := L) (d := d) (tb := 27) (by omega) hW q34.1 q34.2.1 px_tr27 (by unfold tr_ok; rw [e38]; exact hto)
          have q41 := qk_trm q34 kq41 (by decide)
          have rq42 := fk_ne rq35 eM40 (by decide)
          have cr43 : rc M40 3 = (rup (rup (rup (rc M0 3) (57 + ((rc M0 3 1).toNat)) s) (63 + ((rc M0 3 1).toNat)) p) (1) (x32 + 1)) := (rc_eo (A := [27]) (fun a ha => by rw [eM40, ask_ne (fun z => ha (by rw [z]; exact List.mem_cons_self))]) (by decide)).trans cr36
          have e44 : M40 205 = M0 205 := (show M40 205 = M33 205 by rw [eM40, ask_ne (by decide)]).trans e37
          have e45 : M40 4 = M0 4 := (show M40 4 = M33 4 by rw [eM40, ask_ne (by decide)]).trans e39
          have t27M40 : M40 27 = px_up M0 27 3 0 27 := by rw [eM40, up_self, up_self, e38]
          refine rr_cV0 pf_36_111 po_36 pc_8_112 (ws_27 hW) po_14 (by decide) rfl hcM40 ?_
          refine rr_aload_n pf_36_114 rfl ?_
          refine rr_iload_n pf_36_115 rfl ?_
          obtain ⟨r48, M46, ⟨kq47, pv_M46, p13_M46, pf_M46⟩, hcM46⟩ := ct_S_accept (xs := xs) (L := L) (d := d) (u := y15) (by omega) hW q41.1 q41.2.1 (by unfold rg; omega)
          have q47 := qk_trm q41 kq47 (by decide)
          have rq49 := fk_tr rq42 pf_M46 (by decide)
          have cr50 : rc M46 3 = (rup (rup (rup (rc M0 3) (57 + ((rc M0 3 1).toNat)) s) (63 + ((rc M0 3 1).toNat)) p) (1) (x32 + 1)) := (rc_eo kq47.2.2 (by decide)).trans cr43
          have e51 : M46 205 = M0 205 := (kq47.2.2 205 (by decide)).trans e44
          have e52 : M46 4 = M0 4 := (kq47.2.2 4 (by decide)).trans e45
          have t27M46 : M46 27 = px_up M0 27 3 0 27 := (kq47.2.2 27 (by decide)).trans t27M40
          refine rr_cV1 pf_36_116 po_36 pc_8_115 (ws_0 hW) po_15 (by decide) rfl hcM46 ?_
          refine rr_iret pf_36_119 pt_36 ⟨_, M46, rfl, rfl, q47, (by rw [pv_M46]; unfold sp_lisV; rw [if_pos (by omega), if_neg hTK, if_neg (by omega)]; omega), (by unfold sp_lisR; rw [show sp_lisV (rc M0 3) s p = rc M0 3 1 by unfold sp_lisV; rw [if_pos (by omega), if_neg hTK, if_neg (by omega)], if_pos (by omega), cr50]; congr 1; omega), (by rw [if_neg (by omega)]; exact p13_M46), (by unfold bmC; rw [if_neg (by omega)]; exact e51), (by rw [if_neg (by omega)]; exact t27M46), (rq49)⟩
        · refine rr_aload_n pf_36_53 rfl ?_
          refine rr_bipush pf_36_54 (by decide) ?_
          obtain ⟨r55, M53, ⟨kq54, pv_M53, p13_M53, p5_M53, pf_M53⟩, hcM53⟩ := ct_S_refuse (xs := xs) (L := L) (d := d) (u := (-5)) (by omega) hW q0.1 q0.2.1 (by omega) hrc
          have q54 := qk_trm q0 kq54 (by decide)
          have rq56 := fk_tr (fk_rf 0 [13] M0) pf_M53 (by decide)
          have cr57 : rc M53 3 = (rc M0 3) := (rc_eo kq54.2.2 (by decide)).trans (rfl : rc M0 3 = rc M0 3)
          have e58 : M53 27 = M0 27 := (kq54.2.2 27 (by decide)).trans (rfl : M0 27 = M0 27)
          have e59 : M53 3 = M0 3 := (kq54.2.2 3 (by decide)).trans (rfl : M0 3 = M0 3)
          have e60 : M53 4 = M0 4 := (kq54.2.2 4 (by decide)).trans (rfl : M0 4 = M0 4)
          refine rr_cV1 pf_36_56 po_36 pc_8_99 (ws_0 hW) po_13 (by decide) rfl hcM53 ?_
          refine rr_iret pf_36_59 pt_36 ⟨_, M53, rfl, rfl, q54, (by rw [pv_M53]; unfold sp_lisV; rw [if_pos (by omega), if_neg hTK, if_pos (by omega)]), (by unfold sp_lisR; rw [show sp_lisV (rc M0 3) s p = -5 by unfold sp_lisV; rw [if_pos (by omega), if_neg hTK, if_pos (by omega)], if_neg (by decide)]; exact cr57), (by rw [pv_M53, if_pos (by decide)]; exact p13_M53), (by rw [pv_M53, p5_M53, (rfl : M0 205 = M0 205)]), (by rw [pv_M53, if_pos (by decide)]; exact e58), (rq56)⟩
      · have hTK := c11
        refine rr_aload_n pf_36_34 rfl ?_
        refine rr_bipush pf_36_35 (by decide) ?_
        obtain ⟨r63, M61, ⟨kq62, pv_M61, p13_M61, p5_M61, pf_M61⟩, hcM61⟩ := ct_S_refuse (xs := xs) (L := L) (d := d) (u := (-3)) (by omega) hW q0.1 q0.2.1 (by omega) hrc
        have q62 := qk_trm q0 kq62 (by decide)
        have rq64 := fk_tr (fk_rf 0 [13] M0) pf_M61 (by decide)
        have cr65 : rc M61 3 = (rc M0 3) := (rc_eo kq62.2.2 (by decide)).trans (rfl : rc M0 3 = rc M0 3)
        have e66 : M61 27 = M0 27 := (kq62.2.2 27 (by decide)).trans (rfl : M0 27 = M0 27)
        have e67 : M61 3 = M0 3 := (kq62.2.2 3 (by decide)).trans (rfl : M0 3 = M0 3)
        have e68 : M61 4 = M0 4 := (kq62.2.2 4 (by decide)).trans (rfl : M0 4 = M0 4)
        refine rr_cV1 pf_36_37 po_36 pc_8_99 (ws_0 hW) po_13 (by decide) rfl hcM61 ?_
        refine rr_iret pf_36_40 pt_36 ⟨_, M61, rfl, rfl, q62, (by rw [pv_M61]; unfold sp_lisV; rw [if_pos (by omega), if_pos hTK]), (by unfold sp_lisR; rw [show sp_lisV (rc M0 3) s p = -3 by unfold sp_lisV; rw [if_pos (by omega), if_pos hTK], if_neg (by decide)]; exact cr65), (by rw [pv_M61, if_pos (by decide)]; exact p13_M61), (by rw [pv_M61, p5_M61, (rfl : M0 205 = M0 205)]), (by rw [pv_M61, if_pos (by decide)]; exact e66), (rq64)⟩
    · refine rr_aload_n pf_36_17 rfl ?_
      refine rr_iconst pf_36_18 ?_
      obtain ⟨r71, M69, ⟨kq70, pv_M69, p13_M69, p5_M69, pf_M69⟩, hcM69⟩ := ct_S_refuse (xs := xs) (L := L) (d := d) (u := (-1)) (by omega) hW q0.1 q0.2.1 (by omega) hrc
      have q70 := qk_trm q0 kq70 (by decide)
      have rq72 := fk_tr (fk_rf 0 [13] M0) pf_M69 (by decide)
      have cr73 : rc M69 3 = (rc M0 3) := (rc_eo kq70.2.2 (by decide)).trans (rfl : rc M0 3 = rc M0 3)
      have e74 : M69 27 = M0 27 := (kq70.2.2 27 (by decide)).trans (rfl : M0 27 = M0 27)
      have e75 : M69 3 = M0 3 := (kq70.2.2 3 (by decide)).trans (rfl : M0 3 = M0 3)
      have e76 : M69 4 = M0 4 := (kq70.2.2 4 (by decide)).trans (rfl : M0 4 = M0 4)
      refine rr_cV1 pf_36_19 po_36 pc_8_99 (ws_0 hW) po_13 (by decide) rfl hcM69 ?_
      refine rr_iret pf_36_22 pt_36 ⟨_, M69, rfl, rfl, q70, (by rw [pv_M69]; unfold sp_lisV; rw [if_neg (by omega)]), (by unfold sp_lisR; rw [show sp_lisV (rc M0 3) s p = -1 by unfold sp_lisV; rw [if_neg (by omega)], if_neg (by decide)]; exact cr73), (by rw [pv_M69, if_pos (by decide)]; exact p13_M69), (by rw [pv_M69, p5_M69, (rfl : M0 205 = M0 205)]), (by rw [pv_M69, if_pos (by decide)]; exact e74), (rq72)⟩
theorem ct_S_terms {xs : Nat → Int} {L d : Nat} {sh : List (Nat × Nat)} {M0 : Nat → Nat → Int} (hd : 9 ≤ d) (hW : px_W0 <+: sh) (hF : px_Fx M0) (hG : px_RG sh M0)  (hρ : sp_ok (rc M0 3)) {lw : List sp_C} (hlw : px_lw sh M0 3 lw) (hrc : ∀ j, j < 5 → 0 ≤ M0 205 j ∧ M0 205 j ≤ 1000000000) (hto : tr_ok M0 27) {w u : Int} (hw0 : rg w) (hu0 : rg u) : ∃ v M, (px_qk sh [0, 3, 4, 27, 205] M0 M ∧ (v = sp_terV (rc M0 3) w u) ∧ (rc M 3 = sp_terR (rc M0 3) w u) ∧ (M 0 13 = if v < 0 then v else 0) ∧ (M 205 = bmC (M0 205) v) ∧ (M 27 = if v < 0 then M0 27 else px_up M0 27 3 0 27) ∧ (fk 0 [13] M0 M)) ∧ px_Cl xs L d 45 [.ref 0, .int (iI (w)), .int (iI (u))] (sh, M0) (some (.int (iI v))) (sh, M) := by
  obtain ⟨d, rfl⟩ : ∃ e, d = e + 1 := ⟨d - 1, by omega⟩
  have q0 : px_qk sh [0, 3, 4, 27, 205] M0 M0 := ⟨hF, hG, eo_rf⟩
  have h0 := hρ.1
  have h1 := hρ.2.1
  have h2 := hρ.2.2.1
  have h3 := hρ.2.2.2.1
  have h4 := hρ.2.2.2.2.1
  have h5 := hρ.2.2.2.2.2.1
  have h6 := hρ.2.2.2.2.2.2.1
  have h7 := hρ.2.2.2.2.2.2.2.1
  have h8 := hρ.2.2.2.2.2.2.2.2.1
  refine vc_i (Nat.le_of_ble_eq_true rfl) ?_
  show px_R xs L d 45 (0, [.ref 0, .int (iI (w)), .int (iI (u)), px_jk], [], (sh, M0)) (fun r h' => ∃ v M', r = some (.int (iI v)) ∧ h' = (sh, M') ∧ px_qk sh [0, 3, 4, 27, 205] M0 M' ∧ v = sp_terV (rc M0 3) w u ∧ rc M' 3 = sp_terR (rc M0 3) w u ∧ (M' 0 13 = if v < 0 then v else 0) ∧ M' 205 = bmC (M0 205) v ∧ (M' 27 = if v < 0 then M0 27 else px_up M0 27 3 0 27) ∧ fk 0 [13] M0 M')
  refine rr_iload_n pf_45_0 rfl ?_
  refine rr_iconst pf_45_1 ?_
  refine rr_iconst pf_45_2 ?_
  refine rr_cS3 pf_45_3 po_45 pc_8_95 (by decide) rfl (ct_S_within (by omega) hw0 (by unfold rg; omega) (by unfold rg; omega)) ?_
  refine rr_ifb_eq 21 pf_45_6 (by decide) (fun c1 => ?_) (fun c1 => ?_)
  · have hTC : ¬ (0 ≤ w ∧ w ≤ 2 ∧ 0 ≤ u ∧ u ≤ (if w = 0 then 999 else if w = 1 then 10 else 9)) := by
      intro z
      obtain ⟨z1, z2, z3, z4⟩ := z
      omega
    refine rr_aload_n pf_45_21 rfl ?_
    refine rr_iconst pf_45_22 ?_
    obtain ⟨r4, M2, ⟨kq3, pv_M2, p13_M2, p5_M2, pf_M2⟩, hcM2⟩ := ct_S_refuse (xs := xs) (L := L) (d := d) (u := (-1)) (by omega) hW q0.1 q0.2.1 (by omega) hrc
    have q3 := qk_trm q0 kq3 (by decide)
    have rq5 := fk_tr (fk_rf 0 [13] M0) pf_M2 (by decide)
    have cr6 : rc M2 3 = (rc M0 3) := (rc_eo kq3.2.2 (by decide)).trans (rfl : rc M0 3 = rc M0 3)
    have e7 : M2 27 = M0 27 := (kq3.2.2 27 (by decide)).trans (rfl : M0 27 = M0 27)
    have e8 : M2 3 = M0 3 := (kq3.2.2 3 (by decide)).trans (rfl : M0 3 = M0 3)
    have e9 : M2 4 = M0 4 := (kq3.2.2 4 (by decide)).trans (rfl : M0 4 = M0 4)
    refine rr_cV1 pf_45_23 po_45 pc_8_99 (ws_0 hW) po_13 (by decide) rfl hcM2 ?_
    refine rr_iret pf_45_26 pt_45 ⟨_, M2, rfl, rfl, q3, (by rw [pv_M2]; unfold sp_terV; rw [if_neg hTC]), (by unfold sp_terR; rw [show sp_terV (rc M0 3) w u = -1 by unfold sp_terV; rw [if_neg hTC], if_neg (by decide)]; exact cr6), (by rw [pv_M2, if_pos (by decide)]; exact p13_M2), (by rw [pv_M2, p5_M2, (rfl : M0 205 = M0 205)]), (by rw [pv_M2, if_pos (by decide)]; exact e7), (rq5)⟩
  · refine rr_iload_n pf_45_9 rfl ?_
    refine rr_iconst pf_45_10 ?_
    refine rr_iload_n pf_45_11 rfl ?_
    refine rr_cS1 pf_45_12 po_45 pc_8_177 (by decide) rfl (ct_S_highestTerm (by omega) hw0) ?_
    refine rr_cS3 pf_45_15 po_45 pc_8_95 (by decide) rfl (ct_S_within (by omega) hu0 (by unfold rg; omega) (by unfold rg; omega)) ?_
    refine rr_ifb_ne 27 pf_45_18 (by decide) (fun c10 => ?_) (fun c10 => ?_)
    · have hTC : (0 ≤ w ∧ w ≤ 2 ∧ 0 ≤ u ∧ u ≤ (if w = 0 then 999 else if w = 1 then 10 else 9)) := by
        refine ⟨by omega, by omega, by omega, by omega⟩
      refine rr_aload_n pf_45_27 rfl ?_
      refine rr_getR pf_45_28 po_45 pg_8_21 rfl (ws_0 hW) (by decide) (wr_0_1 q0.1) ?_
      refine rr_iload_n pf_45_31 rfl ?_
      have hz11 := ct_Church_termOf (xs := xs) (L := L) (d := d) (cb := 3) (v := w) (by omega) hW q0.1 q0.2.1 (show px_ch 3 by unfold px_ch; decide) hw0
      have thz11 : (if w = 0 then M0 (3 + 1) 4 else if w = 1 then M0 3 11 else M0 3 12) = rc M0 3 (5 + (w).toNat) := by
        rcases (show w = 0 ∨ w = 1 ∨ w = 2 by omega) with z | z | z
        · rw [if_pos z, z]; rfl
        · rw [if_neg (by omega), if_pos z, z]; rfl
        · rw [if_neg (by omega), if_neg (by omega), z]; rfl
      rw [thz11] at hz11
      refine rr_cV1 pf_45_32 po_45 pc_8_180 (ws_3 hW) po_47 (by decide) rfl hz11 ?_
      refine rr_istore_n pf_45_35 (fun y => [.ref 0, .int (iI (w)), .int (iI (u)), .int (iI (y))]) (Nat.le_of_ble_eq_true rfl) (fun _ => rfl) (fun y12 hy12 => ?_)
      have hb5 : 0 ≤ rc M0 3 (5 + w.toNat) ∧ rc M0 3 (5 + w.toNat) ≤ 2000 := by
        rcases (show w = 0 ∨ w = 1 ∨ w = 2 by omega) with rfl | rfl | rfl
        · exact h5
        · exact ⟨h6.1, by have := h6.2; show rc M0 3 6 ≤ 2000; omega⟩
        · exact ⟨h7.1, by have := h7.2; show rc M0 3 7 ≤ 2000; omega⟩
      refine rr_iload_n pf_45_36 rfl ?_
      refine rr_if_ne 54 pf_45_37 (by decide) hw0 (fun c13 => ?_) (fun c13 => ?_)
      · refine rr_iload_n pf_45_54 rfl ?_
        refine rr_iconst pf_45_55 ?_
        refine rr_icmp_ne 70 pf_45_56 (by decide) hw0 (by unfold rg; omega) (fun c14 => ?_) (fun c14 => ?_)
        · refine rr_aload_n pf_45_70 rfl ?_
          refine rr_getR pf_45_71 po_45 pg_8_21 rfl (ws_0 hW) (by decide) (wr_0_1 q0.1) ?_
          refine rr_iload_n pf_45_74 rfl ?_
          refine vr_putI hW q0 pf_45_75 po_45 pg_8_189 (Or.inl rfl) rfl (ws_3 hW) (by decide) hu0 (by decide) (fun M15 eM15 q16 => ?_)
          have rq17 := fk_ne (fk_rf 0 [13] M0) eM15 (by decide)
          have cr18 : rc M15 3 = rup (rc M0 3) (7) u := by rw [eM15, r3_f12, (rfl : rc M0 3 = rc M0 3)]
          have e19 : M15 205 = M0 205 := (show M15 205 = M0 205 by rw [eM15, ask_ne (by decide)]).trans (rfl : M0 205 = M0 205)
          have e20 : M15 27 = M0 27 := (show M15 27 = M0 27 by rw [eM15, ask_ne (by decide)]).trans (rfl : M0 27 = M0 27)
          have e21 : M15 4 = M0 4 := (show M15 4 = M0 4 by rw [eM15, ask_ne (by decide)]).trans (rfl : M0 4 = M0 4)
          refine rr_aload_n pf_45_78 rfl ?_
          refine rr_getR pf_45_79 po_45 pg_8_39 rfl (ws_0 hW) (by decide) (wr_0_5 q16.1) ?_
          obtain ⟨M22, ⟨kq23, eM22⟩, hcM22⟩ := ct_Trail_clear (xs := xs) (L := L) (d := d) (tb := 27) (by omega) hW q16.1 q16.2.1 px_tr27 (by unfold tr_ok; rw [e20]; exact hto)
          have q23 := qk_trm q16 kq23 (by decide)
          have rq24 := fk_ne rq17 eM22 (by decide)
          have cr25 : rc M22 3 = (rup (rc M0 3) (7) u) := (rc_eo (A := [27]) (fun a ha => by rw [eM22, ask_ne (fun z => ha (by rw [z]; exact List.mem_cons_self))]) (by decide)).trans cr18
          have e26 : M22 205 = M0 205 := (show M22 205 = M15 205 by rw [eM22, ask_ne (by decide)]).trans e19
          have e27 : M22 4 = M0 4 := (show M22 4 = M15 4 by rw [eM22, ask_ne (by decide)]).trans e21
          have t27M22 : M22 27 = px_up M0 27 3 0 27 := by rw [eM22, up_self, up_self, e20]
          refine rr_cV0 pf_45_82 po_45 pc_8_112 (ws_27 hW) po_14 (by decide) rfl hcM22 ?_
          refine rr_aload_n pf_45_85 rfl ?_
          refine rr_iload_n pf_45_86 rfl ?_
          obtain ⟨r30, M28, ⟨kq29, pv_M28, p13_M28, pf_M28⟩, hcM28⟩ := ct_S_accept (xs := xs) (L := L) (d := d) (u := y12) (by omega) hW q23.1 q23.2.1 (by unfold rg; omega)
          have q29 := qk_trm q23 kq29 (by decide)
          have rq31 := fk_tr rq24 pf_M28 (by decide)
          have cr32 : rc M28 3 = (rup (rc M0 3) (7) u) := (rc_eo kq29.2.2 (by decide)).trans cr25
          have e33 : M28 205 = M0 205 := (kq29.2.2 205 (by decide)).trans e26
          have e34 : M28 4 = M0 4 := (kq29.2.2 4 (by decide)).trans e27
          have t27M28 : M28 27 = px_up M0 27 3 0 27 := (kq29.2.2 27 (by decide)).trans t27M22
          refine rr_cV1 pf_45_87 po_45 pc_8_115 (ws_0 hW) po_15 (by decide) rfl hcM28 ?_
          refine rr_iret pf_45_90 pt_45 ⟨_, M28, rfl, rfl, q29, (by rw [pv_M28]; unfold sp_terV; rw [if_pos hTC]; omega), (by
                          have hw : w = 2 := by omega
                          unfold sp_terR; rw [show sp_terV (rc M0 3) w u = rc M0 3 (5 + w.toNat) by unfold sp_terV; rw [if_pos hTC], if_pos (by omega), cr32, hw]; rfl), (by rw [if_neg (by omega)]; exact p13_M28), (by unfold bmC; rw [if_neg (by omega)]; exact e33), (by rw [if_neg (by omega)]; exact t27M28), (rq31)⟩
        · refine rr_aload_n pf_45_59 rfl ?_
          refine rr_getR pf_45_60 po_45 pg_8_21 rfl (ws_0 hW) (by decide) (wr_0_1 q0.1) ?_
          refine rr_iload_n pf_45_63 rfl ?_
          refine vr_putI hW q0 pf_45_64 po_45 pg_8_186 (Or.inl rfl) rfl (ws_3 hW) (by decide) hu0 (by decide) (fun M35 eM35 q36 => ?_)
          have rq37 := fk_ne (fk_rf 0 [13] M0) eM35 (by decide)
          have cr38 : rc M35 3 = rup (rc M0 3) (6) u := by rw [eM35, r3_f11, (rfl : rc M0 3 = rc M0 3)]
          have e39 : M35 205 = M0 205 := (show M35 205 = M0 205 by rw [eM35, ask_ne (by decide)]).trans (rfl : M0 205 = M0 205)
          have e40 : M35 27 = M0 27 := (show M35 27 = M0 27 by rw [eM35, ask_ne (by decide)]).trans (rfl : M0 27 = M0 27)
          have e41 : M35 4 = M0 4 := (show M35 4 = M0 4 by rw [eM35, ask_ne (by decide)]).trans (rfl : M0 4 = M0 4)
          refine rr_goto 78 pf_45_67 (by decide) ?_
          refine rr_aload_n pf_45_78 rfl ?_
          refine rr_getR pf_45_79 po_45 pg_8_39 rfl (ws_0 hW) (by decide) (wr_0_5 q36.1) ?_
          obtain ⟨M42, ⟨kq43, eM42⟩, hcM42⟩ := ct_Trail_clear (xs := xs) (L := L) (d := d) (tb := 27) (by omega) hW q36.1 q36.2.1 px_tr27 (by unfold tr_ok; rw [e40]; exact hto)
          have q43 := qk_trm q36 kq43 (by decide)
          have rq44 := fk_ne rq37 eM42 (by decide)
          have cr45 : rc M42 3 = (rup (rc M0 3) (6) u) := (rc_eo (A := [27]) (fun a ha => by rw [eM42, ask_ne (fun z => ha (by rw [z]; exact List.mem_cons_self))]) (by decide)).trans cr38
          have e46 : M42 205 = M0 205 := (show M42 205 = M35 205 by rw [eM42, ask_ne (by decide)]).trans e39
          have e47 : M42 4 = M0 4 := (show M42 4 = M35 4 by rw [eM42, ask_ne (by decide)]).trans e41
          have t27M42 : M42 27 = px_up M0 27 3 0 27 := by rw [eM42, up_self, up_self, e40]
          refine rr_cV0 pf_45_82 po_45 pc_8_112 (ws_27 hW) po_14 (by decide) rfl hcM42 ?_
          refine rr_aload_n pf_45_85 rfl ?_
          refine rr_iload_n pf_45_86 rfl ?_
          obtain ⟨r50, M48, ⟨kq49, pv_M48, p13_M48, pf_M48⟩, hcM48⟩ := ct_S_accept (xs := xs) (L := L) (d := d) (u := y12) (by omega) hW q43.1 q43.2.1 (by unfold rg; omega)
          have q49 := qk_trm q43 kq49 (by decide)
          have rq51 := fk_tr rq44 pf_M48 (by decide)
          have cr52 : rc M48 3 = (rup (rc M0 3) (6) u) := (rc_eo kq49.2.2 (by decide)).trans cr45
          have e53 : M48 205 = M0 205 := (kq49.2.2 205 (by decide)).trans e46
          have e54 : M48 4 = M0 4 := (kq49.2.2 4 (by decide)).trans e47
          have t27M48 : M48 27 = px_up M0 27 3 0 27 := (kq49.2.2 27 (by decide)).trans t27M42
          refine rr_cV1 pf_45_87 po_45 pc_8_115 (ws_0 hW) po_15 (by decide) rfl hcM48 ?_
          refine rr_iret pf_45_90 pt_45 ⟨_, M48, rfl, rfl, q49, (by rw [pv_M48]; unfold sp_terV; rw [if_pos hTC]; omega), (by
                          have hw : w = 1 := by omega
                          unfold sp_terR; rw [show sp_terV (rc M0 3) w u = rc M0 3 (5 + w.toNat) by unfold sp_terV; rw [if_pos hTC], if_pos (by omega), cr52, hw]; rfl), (by rw [if_neg (by omega)]; exact p13_M48), (by unfold bmC; rw [if_neg (by omega)]; exact e53), (by rw [if_neg (by omega)]; exact t27M48), (rq51)⟩
      · refine rr_aload_n pf_45_40 rfl ?_
        refine rr_getR pf_45_41 po_45 pg_8_21 rfl (ws_0 hW) (by decide) (wr_0_1 q0.1) ?_
        refine rr_getR pf_45_44 po_45 pg_8_131 rfl (ws_3 hW) (by decide) (wr_3_0 q0.1) ?_
        refine rr_iload_n pf_45_47 rfl ?_
        refine vr_putI hW q0 pf_45_48 po_45 pg_8_183 (Or.inl rfl) rfl (ws_4 hW) (by decide) hu0 (by decide) (fun M55 eM55 q56 => ?_)
        have rq57 := fk_ne (fk_rf 0 [13] M0) eM55 (by decide)
        have cr58 : rc M55 3 = rup (rc M0 3) (5) u := by rw [eM55, r3_hour, (rfl : rc M0 3 = rc M0 3)]
        have e59 : M55 205 = M0 205 := (show M55 205 = M0 205 by rw [eM55, ask_ne (by decide)]).trans (rfl : M0 205 = M0 205)
        have e60 : M55 27 = M0 27 := (show M55 27 = M0 27 by rw [eM55, ask_ne (by decide)]).trans (rfl : M0 27 = M0 27)
        have e61 : M55 3 = M0 3 := (show M55 3 = M0 3 by rw [eM55, ask_ne (by decide)]).trans (rfl : M0 3 = M0 3)
        refine rr_goto 78 pf_45_51 (by decide) ?_
        refine rr_aload_n pf_45_78 rfl ?_
        refine rr_getR pf_45_79 po_45 pg_8_39 rfl (ws_0 hW) (by decide) (wr_0_5 q56.1) ?_
        obtain ⟨M62, ⟨kq63, eM62⟩, hcM62⟩ := ct_Trail_clear (xs := xs) (L := L) (d := d) (tb := 27) (by omega) hW q56.1 q56.2.1 px_tr27 (by unfold tr_ok; rw [e60]; exact hto)
        have q63 := qk_trm q56 kq63 (by decide)
        have rq64 := fk_ne rq57 eM62 (by decide)
        have cr65 : rc M62 3 = (rup (rc M0 3) (5) u) := (rc_eo (A := [27]) (fun a ha => by rw [eM62, ask_ne (fun z => ha (by rw [z]; exact List.mem_cons_self))]) (by decide)).trans cr58
        have e66 : M62 205 = M0 205 := (show M62 205 = M55 205 by rw [eM62, ask_ne (by decide)]).trans e59
        have e67 : M62 3 = M0 3 := (show M62 3 = M55 3 by rw [eM62, ask_ne (by decide)]).trans e61
        have t27M62 : M62 27 = px_up M0 27 3 0 27 := by rw [eM62, up_self, up_self, e60]
        refine rr_cV0 pf_45_82 po_45 pc_8_112 (ws_27 hW) po_14 (by decide) rfl hcM62 ?_
        refine rr_aload_n pf_45_85 rfl ?_
        refine rr_iload_n pf_45_86 rfl ?_
        obtain ⟨r70, M68, ⟨kq69, pv_M68, p13_M68, pf_M68⟩, hcM68⟩ := ct_S_accept (xs := xs) (L := L) (d := d) (u := y12) (by omega) hW q63.1 q63.2.1 (by unfold rg; omega)
        have q69 := qk_trm q63 kq69 (by decide)
        have rq71 := fk_tr rq64 pf_M68 (by decide)
        have cr72 : rc M68 3 = (rup (rc M0 3) (5) u) := (rc_eo kq69.2.2 (by decide)).trans cr65
        have e73 : M68 205 = M0 205 := (kq69.2.2 205 (by decide)).trans e66
        have e74 : M68 3 = M0 3 := (kq69.2.2 3 (by decide)).trans e67
        have t27M68 : M68 27 = px_up M0 27 3 0 27 := (kq69.2.2 27 (by decide)).trans t27M62
        refine rr_cV1 pf_45_87 po_45 pc_8_115 (ws_0 hW) po_15 (by decide) rfl hcM68 ?_
        refine rr_iret pf_45_90 pt_45 ⟨_, M68, rfl, rfl, q69, (by rw [pv_M68]; unfold sp_terV; rw [if_pos hTC]; omega), (by
                      have hw : w = 0 := by omega
                      unfold sp_terR; rw [show sp_terV (rc M0 3) w u = rc M0 3 (5 + w.toNat) by unfold sp_terV; rw [if_pos hTC], if_pos (by omega), cr72, hw]; rfl), (by rw [if_neg (by omega)]; exact p13_M68), (by unfold bmC; rw [if_neg (by omega)]; exact e73), (by rw [if_neg (by omega)]; exact t27M68), (rq71)⟩
    · have hTC : ¬ (0 ≤ w ∧ w ≤ 2 ∧ 0 ≤ u ∧ u ≤ (if w = 0 then 999 else if w = 1 then 10 else 9)) := by
        intro z
        obtain ⟨z1, z2, z3, z4⟩ := z
        omega
      refine rr_aload_n pf_45_21 rfl ?_
      refine rr_iconst pf_45_22 ?_
      obtain ⟨r77, M75, ⟨kq76, pv_M75, p13_M75, p5_M75, pf_M75⟩, hcM75⟩ := ct_S_refuse (xs := xs) (L := L) (d := d) (u := (-1)) (by omega) hW q0.1 q0.2.1 (by omega) hrc
      have q76 := qk_trm q0 kq76 (by decide)
      have rq78 := fk_tr (fk_rf 0 [13] M0) pf_M75 (by decide)
      have cr79 : rc M75 3 = (rc M0 3) := (rc_eo kq76.2.2 (by decide)).trans (rfl : rc M0 3 = rc M0 3)
      have e80 : M75 27 = M0 27 := (kq76.2.2 27 (by decide)).trans (rfl : M0 27 = M0 27)
      have e81 : M75 3 = M0 3 := (kq76.2.2 3 (by decide)).trans (rfl : M0 3 = M0 3)
      have e82 : M75 4 = M0 4 := (kq76.2.2 4 (by decide)).trans (rfl : M0 4 = M0 4)
      refine rr_cV1 pf_45_23 po_45 pc_8_99 (ws_0 hW) po_13 (by decide) rfl hcM75 ?_
      refine rr_iret pf_45_26 pt_45 ⟨_, M75, rfl, rfl, q76, (by rw [pv_M75]; unfold sp_terV; rw [if_neg hTC]), (by unfold sp_terR; rw [show sp_terV (rc M0 3) w u = -1 by unfold sp_terV; rw [if_neg hTC], if_neg (by decide)]; exact cr79), (by rw [pv_M75, if_pos (by decide)]; exact p13_M75), (by rw [pv_M75, p5_M75, (rfl : M0 205 = M0 205)]), (by rw [pv_M75, if_pos (by decide)]; exact e80), (rq78)⟩
theorem ct_S_told {xs : Nat → Int} {L d : Nat} {sh : List (Nat × Nat)} {M0 : Nat → Nat → Int} (hd : 9 ≤ d) (hW : px_W0 <+: sh) (hF : px_Fx M0) (hG : px_RG sh M0)  (hρ : sp_ok (rc M0 3)) {lw : List sp_C} (hlw : px_lw sh M0 3 lw) (hrc : ∀ j, j < 5 → 0 ≤ M0 205 j ∧ M0 205 j ≤ 1000000000) {p h m : Int} (hp0 : rg p) (hh0 : rg h) (hm0 : rg m) : ∃ v M, (px_qk sh [0, 3, 10, 205] M0 M ∧ (v = sp_tolV (rc M0 3) p h m) ∧ (rc M 3 = sp_tolR (rc M0 3) p h m) ∧ (M 0 13 = if v < 0 then v else 0) ∧ (M 205 = bmC (M0 205) v) ∧ (fk 0 [13] M0 M)) ∧ px_Cl xs L d 125 [.ref 0, .int (iI (p)), .int (iI (h)), .int (iI (m))] (sh, M0) (some (.int (iI v))) (sh, M) := by
  obtain ⟨d, rfl⟩ : ∃ e, d = e + 1 := ⟨d - 1, by omega⟩
  have q0 : px_qk sh [0, 3, 10, 205] M0 M0 := ⟨hF, hG, eo_rf⟩
  have h0 := hρ.1
  have h1 := hρ.2.1
  have h2 := hρ.2.2.1
  have h3 := hρ.2.2.2.1
  have h4 := hρ.2.2.2.2.1
  have h5 := hρ.2.2.2.2.2.1
  have h6 := hρ.2.2.2.2.2.2.1
  have h7 := hρ.2.2.2.2.2.2.2.1
  have h8 := hρ.2.2.2.2.2.2.2.2.1
  refine vc_i (Nat.le_of_ble_eq_true rfl) ?_
  show px_R xs L d 125 (0, [.ref 0, .int (iI (p)), .int (iI (h)), .int (iI (m)), px_jk], [], (sh, M0)) (fun r h' => ∃ v M', r = some (.int (iI v)) ∧ h' = (sh, M') ∧ px_qk sh [0, 3, 10, 205] M0 M' ∧ v = sp_tolV (rc M0 3) p h m ∧ rc M' 3 = sp_tolR (rc M0 3) p h m ∧ (M' 0 13 = if v < 0 then v else 0) ∧ M' 205 = bmC (M0 205) v ∧ fk 0 [13] M0 M')
  refine rr_iload_n pf_125_0 rfl ?_
  refine rr_cS1 pf_125_1 po_125 pc_8_128 (by decide) rfl (ct_S_isPane (by omega) hp0) ?_
  refine rr_ifb_eq 21 pf_125_4 (by decide) (fun c1 => ?_) (fun c1 => ?_)
  · refine rr_aload_n pf_125_21 rfl ?_
    refine rr_iconst pf_125_22 ?_
    obtain ⟨r4, M2, ⟨kq3, pv_M2, p13_M2, p5_M2, pf_M2⟩, hcM2⟩ := ct_S_refuse (xs := xs) (L := L) (d := d) (u := (-1)) (by omega) hW q0.1 q0.2.1 (by omega) hrc
    have q3 := qk_trm q0 kq3 (by decide)
    have rq5 := fk_tr (fk_rf 0 [13] M0) pf_M2 (by decide)
    have cr6 : rc M2 3 = (rc M0 3) := (rc_eo kq3.2.2 (by decide)).trans (rfl : rc M0 3 = rc M0 3)
    have e7 : M2 27 = M0 27 := (kq3.2.2 27 (by decide)).trans (rfl : M0 27 = M0 27)
    have e8 : M2 3 = M0 3 := (kq3.2.2 3 (by decide)).trans (rfl : M0 3 = M0 3)
    have e9 : M2 4 = M0 4 := (kq3.2.2 4 (by decide)).trans (rfl : M0 4 = M0 4)
    refine rr_cV1 pf_125_23 po_125 pc_8_99 (ws_0 hW) po_13 (by decide) rfl hcM2 ?_
    refine rr_iret pf_125_26 pt_125 ⟨_, M2, rfl, rfl, q3, (by rw [pv_M2]; unfold sp_tolV; rw [if_neg (by omega)]), (by unfold sp_tolR; rw [show sp_tolV (rc M0 3) p h m = -1 by unfold sp_tolV; rw [if_neg (by omega)], if_neg (by decide)]; exact cr6), (by rw [pv_M2, if_pos (by decide)]; exact p13_M2), (by rw [pv_M2, p5_M2, (rfl : M0 205 = M0 205)]), (rq5)⟩
  · refine rr_iload_n pf_125_7 rfl ?_
    refine rr_cS1 pf_125_8 po_125 pc_8_91 (by decide) rfl (ct_S_isHue (by omega) hh0) ?_
    refine rr_ifb_eq 21 pf_125_11 (by decide) (fun c10 => ?_) (fun c10 => ?_)
    · refine rr_aload_n pf_125_21 rfl ?_
      refine rr_iconst pf_125_22 ?_
      obtain ⟨r13, M11, ⟨kq12, pv_M11, p13_M11, p5_M11, pf_M11⟩, hcM11⟩ := ct_S_refuse (xs := xs) (L := L) (d := d) (u := (-1)) (by omega) hW q0.1 q0.2.1 (by omega) hrc
      have q12 := qk_trm q0 kq12 (by decide)
      have rq14 := fk_tr (fk_rf 0 [13] M0) pf_M11 (by decide)
      have cr15 : rc M11 3 = (rc M0 3) := (rc_eo kq12.2.2 (by decide)).trans (rfl : rc M0 3 = rc M0 3)
      have e16 : M11 27 = M0 27 := (kq12.2.2 27 (by decide)).trans (rfl : M0 27 = M0 27)
      have e17 : M11 3 = M0 3 := (kq12.2.2 3 (by decide)).trans (rfl : M0 3 = M0 3)
      have e18 : M11 4 = M0 4 := (kq12.2.2 4 (by decide)).trans (rfl : M0 4 = M0 4)
      refine rr_cV1 pf_125_23 po_125 pc_8_99 (ws_0 hW) po_13 (by decide) rfl hcM11 ?_
      refine rr_iret pf_125_26 pt_125 ⟨_, M11, rfl, rfl, q12, (by rw [pv_M11]; unfold sp_tolV; rw [if_neg (by omega)]), (by unfold sp_tolR; rw [show sp_tolV (rc M0 3) p h m = -1 by unfold sp_tolV; rw [if_neg (by omega)], if_neg (by decide)]; exact cr15), (by rw [pv_M11, if_pos (by decide)]; exact p13_M11), (by rw [pv_M11, p5_M11, (rfl : M0 205 = M0 205)]), (rq14)⟩
    · refine rr_iload_n pf_125_14 rfl ?_
      refine rr_cS1 pf_125_15 po_125 pc_8_274 (by decide) rfl (ct_S_isAmount (by omega) hm0) ?_
      refine rr_ifb_ne 27 pf_125_18 (by decide) (fun c19 => ?_) (fun c19 => ?_)
      · refine rr_aload_n pf_125_27 rfl ?_
        refine rr_getR pf_125_28 po_125 pg_8_21 rfl (ws_0 hW) (by decide) (wr_0_1 q0.1) ?_
        refine vr_getI q0 pf_125_31 po_125 pg_8_284 rfl (ws_3 hW) (by decide) (fun x20 hx20 rx20 => ?_)
        change x20 = rc M0 3 2 at hx20
        refine rr_bipush pf_125_34 (by decide) ?_
        refine rr_icmp_lt 46 pf_125_36 (by decide) rx20 (by unfold rg; omega) (fun c21 => ?_) (fun c21 => ?_)
        · refine rr_aload_n pf_125_46 rfl ?_
          refine rr_getR pf_125_47 po_125 pg_8_21 rfl (ws_0 hW) (by decide) (wr_0_1 q0.1) ?_
          refine vr_getI q0 pf_125_50 po_125 pg_8_284 rfl (ws_3 hW) (by decide) (fun x22 hx22 rx22 => ?_)
          change x22 = rc M0 3 2 at hx22
          refine rr_iconst pf_125_53 ?_
          refine rr_imul pf_125_54 ?_
          refine rr_istore pf_125_55 (fun y => [.ref 0, .int (iI (p)), .int (iI (h)), .int (iI (m)), .int (iI (y))]) (Nat.le_of_ble_eq_true rfl) (fun _ => rfl) (fun y23 hy23 => ?_)
          refine rr_aload_n pf_125_57 rfl ?_
          refine rr_getR pf_125_58 po_125 pg_8_21 rfl (ws_0 hW) (by decide) (wr_0_1 q0.1) ?_
          refine rr_getR pf_125_61 po_125 pg_8_287 rfl (ws_3 hW) (by decide) (wr_3_3 q0.1) ?_
          refine rr_iload pf_125_64 rfl ?_
          refine rr_iload_n pf_125_66 rfl ?_
          refine vr_iast (j := 3 * (rc M0 3 2).toNat) hW q0 pf_125_67 (ws_10 hW) (by omega) (by omega) (by decide) hp0 (by decide) (fun M24 eM24 q25 => ?_)
          have rq26 := fk_ne (fk_rf 0 [13] M0) eM24 (by decide)
          have cr27 : rc M24 3 = rup (rc M0 3) (85 + (3 * (rc M0 3 2).toNat)) p := by rw [eM24, r3_a10 (by omega), (rfl : rc M0 3 = rc M0 3)]
          have e28 : M24 205 = M0 205 := (show M24 205 = M0 205 by rw [eM24, ask_ne (by decide)]).trans (rfl : M0 205 = M0 205)
          have e29 : M24 27 = M0 27 := (show M24 27 = M0 27 by rw [eM24, ask_ne (by decide)]).trans (rfl : M0 27 = M0 27)
          have e30 : M24 3 = M0 3 := (show M24 3 = M0 3 by rw [eM24, ask_ne (by decide)]).trans (rfl : M0 3 = M0 3)
          have e31 : M24 4 = M0 4 := (show M24 4 = M0 4 by rw [eM24, ask_ne (by decide)]).trans (rfl : M0 4 = M0 4)
          refine rr_aload_n pf_125_68 rfl ?_
          refine rr_getR pf_125_69 po_125 pg_8_21 rfl (ws_0 hW) (by decide) (wr_0_1 q25.1) ?_
          refine rr_getR pf_125_72 po_125 pg_8_287 rfl (ws_3 hW) (by decide) (wr_3_3 q25.1) ?_
          refine rr_iload pf_125_75 rfl ?_
          refine rr_iconst pf_125_77 ?_
          refine rr_iadd pf_125_78 ?_
          refine rr_iload_n pf_125_79 rfl ?_
          refine vr_iast (j := 3 * (rc M0 3 2).toNat + 1) hW q25 pf_125_80 (ws_10 hW) (by omega) (by omega) (by decide) hh0 (by decide) (fun M32 eM32 q33 => ?_)
          have rq34 := fk_ne rq26 eM32 (by decide)
          have cr35 : rc M32 3 = rup (rup (rc M0 3) (85 + (3 * (rc M0 3 2).toNat)) p) (85 + (3 * (rc M0 3 2).toNat + 1)) h := by rw [eM32, r3_a10 (by omega), cr27]
          have e36 : M32 205 = M0 205 := (show M32 205 = M24 205 by rw [eM32, ask_ne (by decide)]).trans e28
          have e37 : M32 27 = M0 27 := (show M32 27 = M24 27 by rw [eM32, ask_ne (by decide)]).trans e29
          have e38 : M32 3 = M0 3 := (show M32 3 = M24 3 by rw [eM32, ask_ne (by decide)]).trans e30
          have e39 : M32 4 = M0 4 := (show M32 4 = M24 4 by rw [eM32, ask_ne (by decide)]).trans e31
          refine rr_aload_n pf_125_81 rfl ?_
          refine rr_getR pf_125_82 po_125 pg_8_21 rfl (ws_0 hW) (by decide) (wr_0_1 q33.1) ?_
          refine rr_getR pf_125_85 po_125 pg_8_287 rfl (ws_3 hW) (by decide) (wr_3_3 q33.1) ?_
          refine rr_iload pf_125_88 rfl ?_
          refine rr_iconst pf_125_90 ?_
          refine rr_iadd pf_125_91 ?_
          refine rr_iload_n pf_125_92 rfl ?_
          refine vr_iast (j := 3 * (rc M0 3 2).toNat + 2) hW q33 pf_125_93 (ws_10 hW) (by omega) (by omega) (by decide) hm0 (by decide) (fun M40 eM40 q41 => ?_)
          have rq42 := fk_ne rq34 eM40 (by decide)
          have cr43 : rc M40 3 = rup (rup (rup (rc M0 3) (85 + (3 * (rc M0 3 2).toNat)) p) (85 + (3 * (rc M0 3 2).toNat + 1)) h) (85 + (3 * (rc M0 3 2).toNat + 2)) m := by rw [eM40, r3_a10 (by omega), cr35]
          have e44 : M40 205 = M0 205 := (show M40 205 = M32 205 by rw [eM40, ask_ne (by decide)]).trans e36
          have e45 : M40 27 = M0 27 := (show M40 27 = M32 27 by rw [eM40, ask_ne (by decide)]).trans e37
          have e46 : M40 3 = M0 3 := (show M40 3 = M32 3 by rw [eM40, ask_ne (by decide)]).trans e38
          have e47 : M40 4 = M0 4 := (show M40 4 = M32 4 by rw [eM40, ask_ne (by decide)]).trans e39
          refine rr_aload_n pf_125_94 rfl ?_
          refine rr_getR pf_125_95 po_125 pg_8_21 rfl (ws_0 hW) (by decide) (wr_0_1 q41.1) ?_
          refine rr_dup pf_125_98 rfl ?_
          refine vr_getI q41 pf_125_99 po_125 pg_8_284 rfl (ws_3 hW) (by decide) (fun x48 hx48 rx48 => ?_)
          rw [e46] at hx48
          change x48 = rc M0 3 2 at hx48
          refine rr_iconst pf_125_102 ?_
          refine rr_iadd pf_125_103 ?_
          refine vr_putI hW q41 pf_125_104 po_125 pg_8_284 (Or.inl rfl) rfl (ws_3 hW) (by decide) (by unfold rg; omega) (by decide) (fun M49 eM49 q50 => ?_)
          have rq51 := fk_ne rq42 eM49 (by decide)
          have cr52 : rc M49 3 = rup (rup (rup (rup (rc M0 3) (85 + (3 * (rc M0 3 2).toNat)) p) (85 + (3 * (rc M0 3 2).toNat + 1)) h) (85 + (3 * (rc M0 3 2).toNat + 2)) m) (2) (x48 + 1) := by rw [eM49, r3_f8, cr43]
          have e53 : M49 205 = M0 205 := (show M49 205 = M40 205 by rw [eM49, ask_ne (by decide)]).trans e44
          have e54 : M49 27 = M0 27 := (show M49 27 = M40 27 by rw [eM49, ask_ne (by decide)]).trans e45
          have e55 : M49 4 = M0 4 := (show M49 4 = M40 4 by rw [eM49, ask_ne (by decide)]).trans e47
          refine rr_aload_n pf_125_107 rfl ?_
          refine rr_aload_n pf_125_108 rfl ?_
          refine rr_getR pf_125_109 po_125 pg_8_21 rfl (ws_0 hW) (by decide) (wr_0_1 q50.1) ?_
          refine vr_getI q50 pf_125_112 po_125 pg_8_284 rfl (ws_3 hW) (by decide) (fun x56 hx56 rx56 => ?_)
          rw [eM49, up_s] at hx56
          obtain ⟨r59, M57, ⟨kq58, pv_M57, p13_M57, pf_M57⟩, hcM57⟩ := ct_S_accept (xs := xs) (L := L) (d := d) (u := x56) (by omega) hW q50.1 q50.2.1 (by unfold rg; omega)
          have q58 := qk_trm q50 kq58 (by decide)
          have rq60 := fk_tr rq51 pf_M57 (by decide)
          have cr61 : rc M57 3 = (rup (rup (rup (rup (rc M0 3) (85 + (3 * (rc M0 3 2).toNat)) p) (85 + (3 * (rc M0 3 2).toNat + 1)) h) (85 + (3 * (rc M0 3 2).toNat + 2)) m) (2) (x48 + 1)) := (rc_eo kq58.2.2 (by decide)).trans cr52
          have e62 : M57 205 = M0 205 := (kq58.2.2 205 (by decide)).trans e53
          have e63 : M57 27 = M0 27 := (kq58.2.2 27 (by decide)).trans e54
          have e64 : M57 4 = M0 4 := (kq58.2.2 4 (by decide)).trans e55
          refine rr_cV1 pf_125_115 po_125 pc_8_115 (ws_0 hW) po_15 (by decide) rfl hcM57 ?_
          refine rr_iret pf_125_118 pt_125 ⟨_, M57, rfl, rfl, q58, (by rw [pv_M57]; unfold sp_tolV; rw [if_pos (by omega), if_neg (by omega)]; omega), (by unfold sp_tolR; rw [show sp_tolV (rc M0 3) p h m = rc M0 3 2 + 1 by unfold sp_tolV; rw [if_pos (by omega), if_neg (by omega)], if_pos (by omega), cr61]; congr 1; omega), (by rw [if_neg (by omega)]; exact p13_M57), (by unfold bmC; rw [if_neg (by omega)]; exact e62), (rq60)⟩
        · refine rr_aload_n pf_125_39 rfl ?_
          refine rr_bipush pf_125_40 (by decide) ?_
          obtain ⟨r67, M65, ⟨kq66, pv_M65, p13_M65, p5_M65, pf_M65⟩, hcM65⟩ := ct_S_refuse (xs := xs) (L := L) (d := d) (u := (-5)) (by omega) hW q0.1 q0.2.1 (by omega) hrc
          have q66 := qk_trm q0 kq66 (by decide)
          have rq68 := fk_tr (fk_rf 0 [13] M0) pf_M65 (by decide)
          have cr69 : rc M65 3 = (rc M0 3) := (rc_eo kq66.2.2 (by decide)).trans (rfl : rc M0 3 = rc M0 3)
          have e70 : M65 27 = M0 27 := (kq66.2.2 27 (by decide)).trans (rfl : M0 27 = M0 27)
          have e71 : M65 3 = M0 3 := (kq66.2.2 3 (by decide)).trans (rfl : M0 3 = M0 3)
          have e72 : M65 4 = M0 4 := (kq66.2.2 4 (by decide)).trans (rfl : M0 4 = M0 4)
          refine rr_cV1 pf_125_42 po_125 pc_8_99 (ws_0 hW) po_13 (by decide) rfl hcM65 ?_
          refine rr_iret pf_125_45 pt_125 ⟨_, M65, rfl, rfl, q66, (by rw [pv_M65]; unfold sp_tolV; rw [if_pos (by omega), if_pos (by omega)]), (by unfold sp_tolR; rw [show sp_tolV (rc M0 3) p h m = -5 by unfold sp_tolV; rw [if_pos (by omega), if_pos (by omega)], if_neg (by decide)]; exact cr69), (by rw [pv_M65, if_pos (by decide)]; exact p13_M65), (by rw [pv_M65, p5_M65, (rfl : M0 205 = M0 205)]), (rq68)⟩
      · refine rr_aload_n pf_125_21 rfl ?_
        refine rr_iconst pf_125_22 ?_
        obtain ⟨r75, M73, ⟨kq74, pv_M73, p13_M73, p5_M73, pf_M73⟩, hcM73⟩ := ct_S_refuse (xs := xs) (L := L) (d := d) (u := (-1)) (by omega) hW q0.1 q0.2.1 (by omega) hrc
        have q74 := qk_trm q0 kq74 (by decide)
        have rq76 := fk_tr (fk_rf 0 [13] M0) pf_M73 (by decide)
        have cr77 : rc M73 3 = (rc M0 3) := (rc_eo kq74.2.2 (by decide)).trans (rfl : rc M0 3 = rc M0 3)
        have e78 : M73 27 = M0 27 := (kq74.2.2 27 (by decide)).trans (rfl : M0 27 = M0 27)
        have e79 : M73 3 = M0 3 := (kq74.2.2 3 (by decide)).trans (rfl : M0 3 = M0 3)
        have e80 : M73 4 = M0 4 := (kq74.2.2 4 (by decide)).trans (rfl : M0 4 = M0 4)
        refine rr_cV1 pf_125_23 po_125 pc_8_99 (ws_0 hW) po_13 (by decide) rfl hcM73 ?_
        refine rr_iret pf_125_26 pt_125 ⟨_, M73, rfl, rfl, q74, (by rw [pv_M73]; unfold sp_tolV; rw [if_neg (by omega)]), (by unfold sp_tolR; rw [show sp_tolV (rc M0 3) p h m = -1 by unfold sp_tolV; rw [if_neg (by omega)], if_neg (by decide)]; exact cr77), (by rw [pv_M73, if_pos (by decide)]; exact p13_M73), (by rw [pv_M73, p5_M73, (rfl : M0 205 = M0 205)]), (rq76)⟩
theorem ct_S_force {xs : Nat → Int} {L d : Nat} {sh : List (Nat × Nat)} {M0 : Nat → Nat → Int} (hd : 9 ≤ d) (hW : px_W0 <+: sh) (hF : px_Fx M0) (hG : px_RG sh M0)  (hρ : sp_ok (rc M0 3)) (hrc : ∀ j, j < 5 → 0 ≤ M0 205 j ∧ M0 205 j ≤ 1000000000) {l : Int} (hl0 : rg l) : ∃ v M, (px_qk sh [0, 3, 205] M0 M ∧ (v = sp_forV (rc M0 3) l) ∧ (rc M 3 = sp_forR (rc M0 3) l) ∧ (M 0 13 = sp_forS (rc M0 3) l) ∧ (M 205 = bmC (M0 205) (sp_forS (rc M0 3) l)) ∧ (fk 0 [13] M0 M)) ∧ px_Cl xs L d 111 [.ref 0, .int (iI (l))] (sh, M0) (some (.int (iI v))) (sh, M) := by
  obtain ⟨d, rfl⟩ : ∃ e, d = e + 1 := ⟨d - 1, by omega⟩
  have q0 : px_qk sh [0, 3, 205] M0 M0 := ⟨hF, hG, eo_rf⟩
  have h3 := hρ.2.2.2.1
  have h4 := hρ.2.2.2.2.1
  refine vc_i (Nat.le_of_ble_eq_true rfl) ?_
  show px_R xs L d 111 (0, [.ref 0, .int (iI (l)), px_jk], [], (sh, M0)) (fun r h' => ∃ v M', r = some (.int (iI v)) ∧ h' = (sh, M') ∧ px_qk sh [0, 3, 205] M0 M' ∧ v = sp_forV (rc M0 3) l ∧ rc M' 3 = sp_forR (rc M0 3) l ∧ M' 0 13 = sp_forS (rc M0 3) l ∧ M' 205 = bmC (M0 205) (sp_forS (rc M0 3) l) ∧ fk 0 [13] M0 M')
  refine rr_iload_n pf_111_0 rfl ?_
  refine rr_iconst pf_111_1 ?_
  refine rr_icmp_eq 23 pf_111_2 (by decide) hl0 (by unfold rg; omega) (fun c1 => ?_) (fun c1 => ?_)
  · refine rr_aload_n pf_111_23 rfl ?_
    refine rr_getR pf_111_24 po_111 pg_8_21 rfl (ws_0 hW) (by decide) (wr_0_1 q0.1) ?_
    refine vr_getI q0 pf_111_27 po_111 pg_8_245 rfl (ws_3 hW) (by decide) (fun x2 hx2 rx2 => ?_)
    change x2 = rc M0 3 4 at hx2
    refine rr_istore_n pf_111_30 (fun y => [.ref 0, .int (iI (l)), .int (iI (y))]) (Nat.le_of_ble_eq_true rfl) (fun _ => rfl) (fun y3 hy3 => ?_)
    have ry3 : rg y3 := hy3 ▸ rx2
    refine rr_aload_n pf_111_31 rfl ?_
    refine rr_getR pf_111_32 po_111 pg_8_21 rfl (ws_0 hW) (by decide) (wr_0_1 q0.1) ?_
    refine rr_iload_n pf_111_35 rfl ?_
    refine vr_putI hW q0 pf_111_36 po_111 pg_8_245 (Or.inl rfl) rfl (ws_3 hW) (by decide) hl0 (by decide) (fun M4 eM4 q5 => ?_)
    have rq6 := fk_ne (fk_rf 0 [13] M0) eM4 (by decide)
    have cr7 : rc M4 3 = rup (rc M0 3) (4) l := by rw [eM4, r3_f10, (rfl : rc M0 3 = rc M0 3)]
    have e8 : M4 205 = M0 205 := (show M4 205 = M0 205 by rw [eM4, ask_ne (by decide)]).trans (rfl : M0 205 = M0 205)
    refine rr_aload_n pf_111_39 rfl ?_
    refine rr_iload_n pf_111_40 rfl ?_
    obtain ⟨r11, M9, ⟨kq10, pv_M9, p13_M9, pf_M9⟩, hcM9⟩ := ct_S_accept (xs := xs) (L := L) (d := d) (u := y3) (by omega) hW q5.1 q5.2.1 (by unfold rg; omega)
    have q10 := qk_trm q5 kq10 (by decide)
    have rq12 := fk_tr rq6 pf_M9 (by decide)
    have cr13 : rc M9 3 = (rup (rc M0 3) (4) l) := (rc_eo kq10.2.2 (by decide)).trans cr7
    have e14 : M9 205 = M0 205 := (kq10.2.2 205 (by decide)).trans e8
    refine rr_cV1 pf_111_41 po_111 pc_8_115 (ws_0 hW) po_15 (by decide) rfl hcM9 ?_
    refine rr_iret pf_111_44 pt_111 ⟨_, M9, rfl, rfl, q10, (by rw [pv_M9]; unfold sp_forV; rw [if_pos (by omega)]; omega), (by unfold sp_forR; rw [if_pos (by omega), cr13]), (by unfold sp_forS; rw [if_pos (by omega)]; exact p13_M9), (by unfold sp_forS; rw [if_pos (by omega)]; exact e14), (rq12)⟩
  · refine rr_aload_n pf_111_5 rfl ?_
    refine rr_getR pf_111_6 po_111 pg_8_21 rfl (ws_0 hW) (by decide) (wr_0_1 q0.1) ?_
    refine rr_iload_n pf_111_9 rfl ?_
    refine rr_cV1 pf_111_10 po_111 pc_8_242 (ws_3 hW) po_23 (by decide) rfl (ct_Church_isLawN (xs := xs) (L := L) (d := d) (cb := 3) (v := l) (n := rc M0 3 3) (by omega) hW q0.1 q0.2.1 (show px_ch 3 by unfold px_ch; decide) hl0 rfl hρ.2.2.2.1.1) ?_
    refine rr_ifb_ne 23 pf_111_13 (by decide) (fun c15 => ?_) (fun c15 => ?_)
    · refine rr_aload_n pf_111_23 rfl ?_
      refine rr_getR pf_111_24 po_111 pg_8_21 rfl (ws_0 hW) (by decide) (wr_0_1 q0.1) ?_
      refine vr_getI q0 pf_111_27 po_111 pg_8_245 rfl (ws_3 hW) (by decide) (fun x16 hx16 rx16 => ?_)
      change x16 = rc M0 3 4 at hx16
      refine rr_istore_n pf_111_30 (fun y => [.ref 0, .int (iI (l)), .int (iI (y))]) (Nat.le_of_ble_eq_true rfl) (fun _ => rfl) (fun y17 hy17 => ?_)
      have ry17 : rg y17 := hy17 ▸ rx16
      refine rr_aload_n pf_111_31 rfl ?_
      refine rr_getR pf_111_32 po_111 pg_8_21 rfl (ws_0 hW) (by decide) (wr_0_1 q0.1) ?_
      refine rr_iload_n pf_111_35 rfl ?_
      refine vr_putI hW q0 pf_111_36 po_111 pg_8_245 (Or.inl rfl) rfl (ws_3 hW) (by decide) hl0 (by decide) (fun M18 eM18 q19 => ?_)
      have rq20 := fk_ne (fk_rf 0 [13] M0) eM18 (by decide)
      have cr21 : rc M18 3 = rup (rc M0 3) (4) l := by rw [eM18, r3_f10, (rfl : rc M0 3 = rc M0 3)]
      have e22 : M18 205 = M0 205 := (show M18 205 = M0 205 by rw [eM18, ask_ne (by decide)]).trans (rfl : M0 205 = M0 205)
      refine rr_aload_n pf_111_39 rfl ?_
      refine rr_iload_n pf_111_40 rfl ?_
      obtain ⟨r25, M23, ⟨kq24, pv_M23, p13_M23, pf_M23⟩, hcM23⟩ := ct_S_accept (xs := xs) (L := L) (d := d) (u := y17) (by omega) hW q19.1 q19.2.1 (by unfold rg; omega)
      have q24 := qk_trm q19 kq24 (by decide)
      have rq26 := fk_tr rq20 pf_M23 (by decide)
      have cr27 : rc M23 3 = (rup (rc M0 3) (4) l) := (rc_eo kq24.2.2 (by decide)).trans cr21
      have e28 : M23 205 = M0 205 := (kq24.2.2 205 (by decide)).trans e22
      refine rr_cV1 pf_111_41 po_111 pc_8_115 (ws_0 hW) po_15 (by decide) rfl hcM23 ?_
      refine rr_iret pf_111_44 pt_111 ⟨_, M23, rfl, rfl, q24, (by rw [pv_M23]; unfold sp_forV; rw [if_pos (by omega)]; omega), (by unfold sp_forR; rw [if_pos (by omega), cr27]), (by unfold sp_forS; rw [if_pos (by omega)]; exact p13_M23), (by unfold sp_forS; rw [if_pos (by omega)]; exact e28), (rq26)⟩
    · refine rr_aload_n pf_111_16 rfl ?_
      refine rr_bipush pf_111_17 (by decide) ?_
      obtain ⟨r31, M29, ⟨kq30, pv_M29, p13_M29, p5_M29, pf_M29⟩, hcM29⟩ := ct_S_refuse (xs := xs) (L := L) (d := d) (u := (-2)) (by omega) hW q0.1 q0.2.1 (by omega) hrc
      have q30 := qk_trm q0 kq30 (by decide)
      have rq32 := fk_tr (fk_rf 0 [13] M0) pf_M29 (by decide)
      have cr33 : rc M29 3 = (rc M0 3) := (rc_eo kq30.2.2 (by decide)).trans (rfl : rc M0 3 = rc M0 3)
      refine rr_cV1 pf_111_19 po_111 pc_8_99 (ws_0 hW) po_13 (by decide) rfl hcM29 ?_
      refine rr_iret pf_111_22 pt_111 ⟨_, M29, rfl, rfl, q30, (by rw [pv_M29]; unfold sp_forV; rw [if_neg (by omega)]), (by unfold sp_forR; rw [if_neg (by omega), cr33]), (by unfold sp_forS; rw [if_neg (by omega)]; exact p13_M29), (by unfold sp_forS; rw [if_neg (by omega)]; exact p5_M29), (rq32)⟩
theorem ct_S_forget {xs : Nat → Int} {L d : Nat} {sh : List (Nat × Nat)} {M0 : Nat → Nat → Int} (hd : 2 ≤ d) (hW : px_W0 <+: sh) (hF : px_Fx M0) (hG : px_RG sh M0)  (hρ : sp_ok (rc M0 3)) : ∃ v M, (px_qk sh [3] M0 M ∧ (v = rc M0 3 2) ∧ (rc M 3 = rup (rc M0 3) 2 0)) ∧ px_Cl xs L d 126 [.ref 0] (sh, M0) (some (.int (iI v))) (sh, M) := by
  obtain ⟨d, rfl⟩ : ∃ e, d = e + 1 := ⟨d - 1, by omega⟩
  have q0 : px_qk sh [3] M0 M0 := ⟨hF, hG, eo_rf⟩
  have h2 := hρ.2.2.1
  refine vc_i (Nat.le_of_ble_eq_true rfl) ?_
  show px_R xs L d 126 (0, [.ref 0, px_jk], [], (sh, M0)) (fun r h' => ∃ v M', r = some (.int (iI v)) ∧ h' = (sh, M') ∧ px_qk sh [3] M0 M' ∧ v = rc M0 3 2 ∧ rc M' 3 = rup (rc M0 3) 2 0)
  refine rr_aload_n pf_126_0 rfl ?_
  refine rr_getR pf_126_1 po_126 pg_8_21 rfl (ws_0 hW) (by decide) (wr_0_1 q0.1) ?_
  refine vr_getI q0 pf_126_4 po_126 pg_8_284 rfl (ws_3 hW) (by decide) (fun x1 hx1 rx1 => ?_)
  change x1 = rc M0 3 2 at hx1
  refine rr_istore_n pf_126_7 (fun y => [.ref 0, .int (iI (y))]) (Nat.le_of_ble_eq_true rfl) (fun _ => rfl) (fun y2 hy2 => ?_)
  have ry2 : rg y2 := hy2 ▸ rx1
  refine rr_aload_n pf_126_8 rfl ?_
  refine rr_getR pf_126_9 po_126 pg_8_21 rfl (ws_0 hW) (by decide) (wr_0_1 q0.1) ?_
  refine rr_iconst pf_126_12 ?_
  refine vr_putI hW q0 pf_126_13 po_126 pg_8_284 (Or.inl rfl) rfl (ws_3 hW) (by decide) (by unfold rg; omega) (by decide) (fun M3 eM3 q4 => ?_)
  have cr5 : rc M3 3 = rup (rc M0 3) (2) 0 := by rw [eM3, r3_f8, (rfl : rc M0 3 = rc M0 3)]
  refine rr_iload_n pf_126_16 rfl ?_
  refine rr_iret pf_126_17 pt_126 ⟨_, M3, rfl, rfl, q4, (by omega), (cr5)⟩
theorem ct_S_leads {xs : Nat → Int} {L d : Nat} {sh : List (Nat × Nat)} {M0 : Nat → Nat → Int} (hd : 1 ≤ d) (hW : px_W0 <+: sh) (hF : px_Fx M0) (hG : px_RG sh M0)   : ∃ v M, (px_qk sh [] M0 M ∧ (v = M0 0 12)) ∧ px_Cl xs L d 54 [.ref 0] (sh, M0) (some (.int (iI v))) (sh, M) := by
  obtain ⟨d, rfl⟩ : ∃ e, d = e + 1 := ⟨d - 1, by omega⟩
  have q0 : px_qk sh [] M0 M0 := ⟨hF, hG, eo_rf⟩
  refine vc_i (Nat.le_of_ble_eq_true rfl) ?_
  show px_R xs L d 54 (0, [.ref 0], [], (sh, M0)) (fun r h' => ∃ v M', r = some (.int (iI v)) ∧ h' = (sh, M') ∧ px_qk sh [] M0 M' ∧ v = M0 0 12)
  refine rr_aload_n pf_54_0 rfl ?_
  refine vr_getI q0 pf_54_1 po_54 pg_8_81 rfl (ws_0 hW) (by decide) (fun x1 hx1 rx1 => ?_)
  refine rr_iret pf_54_4 pt_54 ⟨_, M0, rfl, rfl, q0, (by assumption)⟩
theorem ct_S_fault {xs : Nat → Int} {L d : Nat} {sh : List (Nat × Nat)} {M0 : Nat → Nat → Int} (hd : 1 ≤ d) (hW : px_W0 <+: sh) (hF : px_Fx M0) (hG : px_RG sh M0)   : ∃ v M, (px_qk sh [] M0 M ∧ (v = M0 200 1)) ∧ px_Cl xs L d 109 [.ref 0] (sh, M0) (some (.int (iI v))) (sh, M) := by
  obtain ⟨d, rfl⟩ : ∃ e, d = e + 1 := ⟨d - 1, by omega⟩
  have q0 : px_qk sh [] M0 M0 := ⟨hF, hG, eo_rf⟩
  refine vc_i (Nat.le_of_ble_eq_true rfl) ?_
  show px_R xs L d 109 (0, [.ref 0], [], (sh, M0)) (fun r h' => ∃ v M', r = some (.int (iI v)) ∧ h' = (sh, M') ∧ px_qk sh [] M0 M' ∧ v = M0 200 1)
  refine rr_aload_n pf_109_0 rfl ?_
  refine rr_getR pf_109_1 po_109 pg_8_70 rfl (ws_0 hW) (by decide) (wr_0_9 q0.1) ?_
  refine vr_getI q0 pf_109_4 po_109 pg_8_239 rfl (ws_200 hW) (by decide) (fun x1 hx1 rx1 => ?_)
  refine rr_iret pf_109_7 pt_109 ⟨_, M0, rfl, rfl, q0, (by assumption)⟩
theorem ct_S_stopped {xs : Nat → Int} {L d : Nat} {sh : List (Nat × Nat)} {M0 : Nat → Nat → Int} (hd : 1 ≤ d) (hW : px_W0 <+: sh) (hF : px_Fx M0) (hG : px_RG sh M0)   : ∃ v M, (px_qk sh [] M0 M ∧ (v = M0 98 0)) ∧ px_Cl xs L d 110 [.ref 0] (sh, M0) (some (.int (iI v))) (sh, M) := by
  obtain ⟨d, rfl⟩ : ∃ e, d = e + 1 := ⟨d - 1, by omega⟩
  have q0 : px_qk sh [] M0 M0 := ⟨hF, hG, eo_rf⟩
  refine vc_i (Nat.le_of_ble_eq_true rfl) ?_
  show px_R xs L d 110 (0, [.ref 0], [], (sh, M0)) (fun r h' => ∃ v M', r = some (.int (iI v)) ∧ h' = (sh, M') ∧ px_qk sh [] M0 M' ∧ v = M0 98 0)
  refine rr_aload_n pf_110_0 rfl ?_
  refine rr_getR pf_110_1 po_110 pg_8_48 rfl (ws_0 hW) (by decide) (wr_0_6 q0.1) ?_
  refine vr_getI q0 pf_110_4 po_110 pg_8_223 rfl (ws_98 hW) (by decide) (fun x1 hx1 rx1 => ?_)
  refine rr_iret pf_110_7 pt_110 ⟨_, M0, rfl, rfl, q0, (by assumption)⟩
theorem ct_S_status {xs : Nat → Int} {L d : Nat} {sh : List (Nat × Nat)} {M0 : Nat → Nat → Int} (hd : 1 ≤ d) (hW : px_W0 <+: sh) (hF : px_Fx M0) (hG : px_RG sh M0)   : ∃ v M, (px_qk sh [] M0 M ∧ (v = M0 0 13)) ∧ px_Cl xs L d 173 [.ref 0] (sh, M0) (some (.int (iI v))) (sh, M) := by
  obtain ⟨d, rfl⟩ : ∃ e, d = e + 1 := ⟨d - 1, by omega⟩
  have q0 : px_qk sh [] M0 M0 := ⟨hF, hG, eo_rf⟩
  refine vc_i (Nat.le_of_ble_eq_true rfl) ?_
  show px_R xs L d 173 (0, [.ref 0], [], (sh, M0)) (fun r h' => ∃ v M', r = some (.int (iI v)) ∧ h' = (sh, M') ∧ px_qk sh [] M0 M' ∧ v = M0 0 13)
  refine rr_aload_n pf_173_0 rfl ?_
  refine vr_getI q0 pf_173_1 po_173 pg_8_84 rfl (ws_0 hW) (by decide) (fun x1 hx1 rx1 => ?_)
  refine rr_iret pf_173_4 pt_173 ⟨_, M0, rfl, rfl, q0, (by assumption)⟩
theorem ct_S_takeTape {xs : Nat → Int} {L d : Nat} {sh : List (Nat × Nat)} {M0 : Nat → Nat → Int} (hd : 1 ≤ d) (hW : px_W0 <+: sh) (hF : px_Fx M0) (hG : px_RG sh M0)   : ∃ v M, (px_qk sh [0] M0 M ∧ (v = M0 0 11) ∧ (M 0 11 = 0) ∧ (fk 0 [11] M0 M)) ∧ px_Cl xs L d 56 [.ref 0] (sh, M0) (some (.int (iI v))) (sh, M) := by
  obtain ⟨d, rfl⟩ : ∃ e, d = e + 1 := ⟨d - 1, by omega⟩
  have q0 : px_qk sh [0] M0 M0 := ⟨hF, hG, eo_rf⟩
  refine vc_i (Nat.le_of_ble_eq_true rfl) ?_
  show px_R xs L d 56 (0, [.ref 0, px_jk], [], (sh, M0)) (fun r h' => ∃ v M', r = some (.int (iI v)) ∧ h' = (sh, M') ∧ px_qk sh [0] M0 M' ∧ v = M0 0 11 ∧ M' 0 11 = 0 ∧ fk 0 [11] M0 M')
  refine rr_aload_n pf_56_0 rfl ?_
  refine vr_getI q0 pf_56_1 po_56 pg_8_77 rfl (ws_0 hW) (by decide) (fun x1 hx1 rx1 => ?_)
  refine rr_istore_n pf_56_4 (fun y => [.ref 0, .int (iI (y))]) (Nat.le_of_ble_eq_true rfl) (fun _ => rfl) (fun y2 hy2 => ?_)
  have ry2 : rg y2 := hy2 ▸ rx1
  refine rr_aload_n pf_56_5 rfl ?_
  refine rr_iconst pf_56_6 ?_
  refine vr_putI hW q0 pf_56_7 po_56 pg_8_77 (Or.inl rfl) rfl (ws_0 hW) (by decide) (by unfold rg; omega) (by decide) (fun M3 eM3 q4 => ?_)
  have rq5 := fk_up (fk_rf 0 [11] M0) eM3 (by decide)
  refine rr_iload_n pf_56_10 rfl ?_
  refine rr_iret pf_56_11 pt_56 ⟨_, M3, rfl, rfl, q4, (by omega), (by rw [eM3, up_s]), (rq5)⟩
theorem ct_S_end {xs : Nat → Int} {L d : Nat} {sh : List (Nat × Nat)} {M0 : Nat → Nat → Int} (hd : 2 ≤ d) (hW : px_W0 <+: sh) (hF : px_Fx M0) (hG : px_RG sh M0)  {n : Int} (hn0 : rg n) : ∃ v M, (px_qk sh [0] M0 M ∧ (v = if 0 ≤ n ∧ n ≤ M0 0 11 then n else -1) ∧ (M 0 11 = if 0 ≤ n ∧ n ≤ M0 0 11 then n else M0 0 11) ∧ (fk 0 [11] M0 M)) ∧ px_Cl xs L d 50 [.ref 0, .int (iI (n))] (sh, M0) (some (.int (iI v))) (sh, M) := by
  obtain ⟨d, rfl⟩ : ∃ e, d = e + 1 := ⟨d - 1, by omega⟩
  have q0 : px_qk sh [0] M0 M0 := ⟨hF, hG, eo_rf⟩
  refine vc_i (Nat.le_of_ble_eq_true rfl) ?_
  show px_R xs L d 50 (0, [.ref 0, .int (iI (n))], [], (sh, M0)) (fun r h' => ∃ v M', r = some (.int (iI v)) ∧ h' = (sh, M') ∧ px_qk sh [0] M0 M' ∧ (v = if 0 ≤ n ∧ n ≤ M0 0 11 then n else -1) ∧ (M' 0 11 = if 0 ≤ n ∧ n ≤ M0 0 11 then n else M0 0 11) ∧ fk 0 [11] M0 M')
  refine rr_iload_n pf_50_0 rfl ?_
  refine rr_iconst pf_50_1 ?_
  refine rr_aload_n pf_50_2 rfl ?_
  refine vr_getI q0 pf_50_3 po_50 pg_8_77 rfl (ws_0 hW) (by decide) (fun x1 hx1 rx1 => ?_)
  refine rr_cS3 pf_50_6 po_50 pc_8_95 (by decide) rfl (ct_S_within (by omega) hn0 (by unfold rg; omega) rx1) ?_
  refine rr_ifb_ne 14 pf_50_9 (by decide) (fun c2 => ?_) (fun c2 => ?_)
  · refine rr_aload_n pf_50_14 rfl ?_
    refine rr_iload_n pf_50_15 rfl ?_
    refine vr_putI hW q0 pf_50_16 po_50 pg_8_77 (Or.inl rfl) rfl (ws_0 hW) (by decide) hn0 (by decide) (fun M3 eM3 q4 => ?_)
    have rq5 := fk_up (fk_rf 0 [11] M0) eM3 (by decide)
    refine rr_iload_n pf_50_19 rfl ?_
    refine rr_iret pf_50_20 pt_50 ⟨_, M3, rfl, rfl, q4, (by rw [if_pos (by omega)]), (by rw [if_pos (by omega), eM3, up_s]), (rq5)⟩
  · refine rr_iconst pf_50_12 ?_
    refine rr_iret pf_50_13 pt_50 ⟨_, M0, rfl, rfl, q0, (by rw [if_neg (by omega)]), (by rw [if_neg (by omega)]), ((fk_rf 0 [11] M0))⟩
