/-! the reference: calls that ask -/
noncomputable def sp_of (lw : List sp_C) (ρ : Nat → Int) (w u : Int) : Int := if (0 ≤ w ∧ w ≤ ρ 0 - 1) ∧ (0 ≤ u ∧ u ≤ 18) then (if u = 0 then ρ (69 + w.toNat) else if u = 1 then ρ (77 + w.toNat) else if u = 2 then bI (sp_barb lw ρ w.toNat = true) else sp_stain lw ρ w.toNat (u - 3).toNat) else -1
noncomputable def sp_at (lw : List sp_C) (ρ : Nat → Int) (p u : Int) : Int := if 0 ≤ p ∧ p ≤ 15 then (if 0 ≤ u ∧ u ≤ 2 then sp_hue ρ p.toNat u.toNat else if u = 3 then sp_from lw ρ p.toNat else if u = 4 then bI (sp_from lw ρ p.toNat ≤ sp_sum ρ p.toNat) else if u = 5 then aw p (ρ 8) else -1) else -1
noncomputable def sp_has (lw : List sp_C) (ρ : Nat → Int) (l u : Int) : Int := if 0 ≤ l ∧ l ≤ ρ 1 - 1 then (if u = 0 then ρ (57 + l.toNat) else if u = 1 then ρ (63 + l.toNat) else if u = 2 then sp_does lw ρ l.toNat (ρ (57 + l.toNat)).toNat else -1000) else -1000
noncomputable def sp_lgt (lw : List sp_C) (ρ : Nat → Int) (s u : Int) : Int := if (0 ≤ s ∧ s ≤ 7) ∧ (0 ≤ u ∧ u ≤ 2) then sp_light lw ρ s.toNat u.toNat else -1
theorem ct_R_of {xs : Nat → Int} {L d : Nat} {sh : List (Nat × Nat)} {M0 : Nat → Nat → Int} (hd : 14 ≤ d) (hW : px_W0 <+: sh) (hF : px_Fx M0) (hG : px_RG sh M0)  (hρ : sp_ok (rr_ M0)) {lw : List sp_C} (hlw : px_lwR M0 lw) (hord : M0 228 20 = 0) {w u : Int} (hw0 : rg w) (hu0 : rg u) : ∃ v M, (px_qk sh [228, 246, 248] M0 M ∧ (v = sp_of lw (rr_ M0) w u) ∧ (rz [] M0 M)) ∧ px_Cl xs L d 184 [.ref 228, .int (iI (w)), .int (iI (u))] (sh, M0) (some (.int (iI v))) (sh, M) := by
  obtain ⟨d, rfl⟩ : ∃ e, d = e + 1 := ⟨d - 1, by omega⟩
  have q0 : px_qk sh [228, 246, 248] M0 M0 := ⟨hF, hG, eo_rf⟩
  refine vc_i (Nat.le_of_ble_eq_true rfl) ?_
  show px_R xs L d 184 (0, [.ref 228, .int (iI (w)), .int (iI (u))], [], (sh, M0)) (fun r h' => ∃ v M', r = some (.int (iI v)) ∧ h' = (sh, M') ∧ px_qk sh [228, 246, 248] M0 M' ∧ v = sp_of lw (rr_ M0) w u ∧ rz [] M0 M')
  refine rr_aload_n pf_184_0 rfl ?_
  refine rr_iconst pf_184_1 ?_
  refine vr_putI hW q0 pf_184_2 po_184 pg_9_177 (Or.inl rfl) rfl (ws_228 hW) (by decide) (by unfold rg; omega) (by decide) (fun M1 eM1 q2 => ?_)
  have rq3 := rz_up (rz_rf [] M0) eM1 (by decide)
  refine rr_aload_n pf_184_5 rfl ?_
  refine rr_iload_n pf_184_6 rfl ?_
  refine rr_cV1 pf_184_7 po_184 pc_9_216 (ws_228 hW) po_185 (by decide) rfl (ct_R_isWord1N (n := rr_ M0 0) (by omega) hW q2.1 q2.2.1 hw0 (by rw [q2.2.2 230 (by decide)]; exact rr_at (by omega))) ?_
  refine rr_ifb_eq 25 pf_184_10 (by decide) (fun c4 => ?_) (fun c4 => ?_)
  · refine rr_iconst pf_184_25 ?_
    refine rr_iret pf_184_26 pt_184 ⟨_, M1, rfl, rfl, q2, (by unfold sp_of; rw [if_neg (by omega)]), (rq3)⟩
  · refine rr_iload_n pf_184_13 rfl ?_
    refine rr_i2l pf_184_14 hu0 ?_
    refine rr_lconst (w := 0) pf_184_15 rfl ?_
    refine rr_ldc2_w pf_184_16 po_184 pl_9_219 ?_
    refine rr_cS3 pf_184_19 po_184 pc_9_197 (by decide) rfl (ct_R_in (by omega) (rl_rg hu0) (by unfold rl; omega) (by unfold rl; omega)) ?_
    refine rr_ifb_ne 27 pf_184_22 (by decide) (fun c5 => ?_) (fun c5 => ?_)
    · have h0 := hρ.1
      refine rr_iload_n pf_184_27 rfl ?_
      rcases (show (u < 0 ∨ 2 < u) ∨ u = 0 ∨ u = 1 ∨ u = 2 by omega) with hsw6 | hsw6 | hsw6 | hsw6
      · refine rr_tsw_out 90 pf_184_28 (by decide) hu0 hsw6 ?_
        refine rr_aload_n pf_184_90 rfl ?_
        refine rr_iload_n pf_184_91 rfl ?_
        refine rr_iload_n pf_184_92 rfl ?_
        refine rr_iconst pf_184_93 ?_
        refine rr_isub pf_184_94 ?_
        obtain ⟨r9, M7, ⟨kq8, pv_M7, pf_M7⟩, hcM7⟩ := ct_R_stainsOf (xs := xs) (L := L) (d := d) (w := (w).toNat) (p := (u - 3).toNat) (lw := lw) (by omega) hW q2.1 q2.2.1 (by rw [rr_q q2 (by decide)]; exact hρ) (lwR_q q2 (by decide) hlw) ((rq3 20 (by decide) (by decide)).trans hord) (by omega) (by omega)
        rw [show (((w).toNat : Nat) : Int) = w by omega] at hcM7
        rw [show (((u - 3).toNat : Nat) : Int) = u - 3 by omega] at hcM7
        have q8 := qk_trm q2 kq8 (by decide)
        rw [rr_q q2 (by decide)] at pv_M7
        have rq10 := rz_rq rq3 pf_M7
        refine rr_cV2 pf_184_95 po_184 pc_9_224 (ws_228 hW) po_194 (by decide) rfl hcM7 ?_
        refine rr_iret pf_184_98 pt_184 ⟨_, M7, rfl, rfl, q8, (by unfold sp_of; rw [if_pos (by omega), if_neg (by omega), if_neg (by omega), if_neg (by omega)]; exact pv_M7), (rq10)⟩
      · refine rr_tsw_in (off := 28) 56 pf_184_28 hu0 (by omega) (by rw [hsw6]; rfl) (by decide) ?_
        refine rr_aload_n pf_184_56 rfl ?_
        refine rr_getR pf_184_57 po_184 pg_9_13 rfl (ws_228 hW) (by decide) (wr_228_3 q2.1) ?_
        refine rr_bipush pf_184_60 (by decide) ?_
        refine rr_iload_n pf_184_62 rfl ?_
        refine rr_iadd pf_184_63 ?_
        refine vr_iald (j := 69 + w.toNat) q2 pf_184_64 (ws_230 hW) (by omega) (by omega) (by decide) (fun x11 hx11 rx11 => ?_)
        rw [q2.2.2 230 (by decide)] at hx11
        rw [rr_at (M := M0) (i := 69 + w.toNat) (by omega)] at hx11
        refine rr_iret pf_184_65 pt_184 ⟨_, M1, rfl, rfl, q2, (by unfold sp_of; rw [if_pos (by omega), if_pos (by omega)]; omega), (rq3)⟩
      · refine rr_tsw_in (off := 38) 66 pf_184_28 hu0 (by omega) (by rw [hsw6]; rfl) (by decide) ?_
        refine rr_aload_n pf_184_66 rfl ?_
        refine rr_getR pf_184_67 po_184 pg_9_13 rfl (ws_228 hW) (by decide) (wr_228_3 q2.1) ?_
        refine rr_bipush pf_184_70 (by decide) ?_
        refine rr_iload_n pf_184_72 rfl ?_
        refine rr_iadd pf_184_73 ?_
        refine vr_iald (j := 77 + w.toNat) q2 pf_184_74 (ws_230 hW) (by omega) (by omega) (by decide) (fun x12 hx12 rx12 => ?_)
        rw [q2.2.2 230 (by decide)] at hx12
        rw [rr_at (M := M0) (i := 77 + w.toNat) (by omega)] at hx12
        refine rr_iret pf_184_75 pt_184 ⟨_, M1, rfl, rfl, q2, (by unfold sp_of; rw [if_pos (by omega), if_neg (by omega), if_pos (by omega)]; omega), (rq3)⟩
      · refine rr_tsw_in (off := 48) 76 pf_184_28 hu0 (by omega) (by rw [hsw6]; rfl) (by decide) ?_
        refine rr_aload_n pf_184_76 rfl ?_
        refine rr_iload_n pf_184_77 rfl ?_
        obtain ⟨M13, ⟨kq14, pf_M13⟩, hcM13⟩ := ct_R_isBarred (xs := xs) (L := L) (d := d) (w := (w).toNat) (lw := lw) (by omega) hW q2.1 q2.2.1 (by rw [rr_q q2 (by decide)]; exact hρ) (lwR_q q2 (by decide) hlw) ((rq3 20 (by decide) (by decide)).trans hord) (by omega)
        rw [show (((w).toNat : Nat) : Int) = w by omega] at hcM13
        rw [rr_q q2 (by decide)] at hcM13
        have q14 := qk_trm q2 kq14 (by decide)
        have rq16 := rz_rq rq3 pf_M13
        refine rr_cV1 pf_184_78 po_184 pc_9_221 (ws_228 hW) po_186 (by decide) rfl hcM13 ?_
        refine rr_ifb_eq 88 pf_184_81 (by decide) (fun c17 => ?_) (fun c17 => ?_)
        · have hbar := c17
          refine rr_iconst pf_184_88 ?_
          refine rr_iret pf_184_89 pt_184 ⟨_, M13, rfl, rfl, q14, (by unfold sp_of; rw [if_pos (by omega), if_neg (by omega), if_neg (by omega), if_pos (by omega), bI_f hbar]), (rq16)⟩
        · have hbar := c17
          refine rr_iconst pf_184_84 ?_
          refine rr_goto 89 pf_184_85 (by decide) ?_
          refine rr_iret pf_184_89 pt_184 ⟨_, M13, rfl, rfl, q14, (by unfold sp_of; rw [if_pos (by omega), if_neg (by omega), if_neg (by omega), if_pos (by omega), bI_t hbar]), (rq16)⟩
    · refine rr_iconst pf_184_25 ?_
      refine rr_iret pf_184_26 pt_184 ⟨_, M1, rfl, rfl, q2, (by unfold sp_of; rw [if_neg (by omega)]), (rq3)⟩
theorem ct_R_at {xs : Nat → Int} {L d : Nat} {sh : List (Nat × Nat)} {M0 : Nat → Nat → Int} (hd : 14 ≤ d) (hW : px_W0 <+: sh) (hF : px_Fx M0) (hG : px_RG sh M0)  (hρ : sp_ok (rr_ M0)) {lw : List sp_C} (hlw : px_lwR M0 lw) (hord : M0 228 20 = 0) {p u : Int} (hp0 : rg p) (hu0 : rg u) : ∃ v M, (px_qk sh [228, 246, 248] M0 M ∧ (v = sp_at lw (rr_ M0) p u) ∧ (rz [] M0 M)) ∧ px_Cl xs L d 198 [.ref 228, .int (iI (p)), .int (iI (u))] (sh, M0) (some (.int (iI v))) (sh, M) := by
  obtain ⟨d, rfl⟩ : ∃ e, d = e + 1 := ⟨d - 1, by omega⟩
  have q0 : px_qk sh [228, 246, 248] M0 M0 := ⟨hF, hG, eo_rf⟩
  refine vc_i (Nat.le_of_ble_eq_true rfl) ?_
  show px_R xs L d 198 (0, [.ref 228, .int (iI (p)), .int (iI (u))], [], (sh, M0)) (fun r h' => ∃ v M', r = some (.int (iI v)) ∧ h' = (sh, M') ∧ px_qk sh [228, 246, 248] M0 M' ∧ v = sp_at lw (rr_ M0) p u ∧ rz [] M0 M')
  refine rr_aload_n pf_198_0 rfl ?_
  refine rr_iconst pf_198_1 ?_
  refine vr_putI hW q0 pf_198_2 po_198 pg_9_177 (Or.inl rfl) rfl (ws_228 hW) (by decide) (by unfold rg; omega) (by decide) (fun M1 eM1 q2 => ?_)
  have rq3 := rz_up (rz_rf [] M0) eM1 (by decide)
  refine rr_iload_n pf_198_5 rfl ?_
  refine rr_cS1 pf_198_6 po_198 pc_9_228 (by decide) rfl (ct_R_isPane (by omega) hp0) ?_
  refine rr_ifb_ne 14 pf_198_9 (by decide) (fun c4 => ?_) (fun c4 => ?_)
  · refine rr_iload_n pf_198_14 rfl ?_
    rcases (show (u < 0 ∨ 5 < u) ∨ u = 0 ∨ u = 1 ∨ u = 2 ∨ u = 3 ∨ u = 4 ∨ u = 5 by omega) with hsw5 | hsw5 | hsw5 | hsw5 | hsw5 | hsw5 | hsw5
    · refine rr_tsw_out 98 pf_198_15 (by decide) hu0 hsw5 ?_
      refine rr_iconst pf_198_98 ?_
      refine rr_iret pf_198_99 pt_198 ⟨_, M1, rfl, rfl, q2, (by unfold sp_at; rw [if_pos (by omega), if_neg (by omega), if_neg (by omega), if_neg (by omega), if_neg (by omega)]), (rq3)⟩
    · refine rr_tsw_in (off := 37) 52 pf_198_15 hu0 (by omega) (by rw [hsw5]; rfl) (by decide) ?_
      refine rr_aload_n pf_198_52 rfl ?_
      refine rr_getR pf_198_53 po_198 pg_9_13 rfl (ws_228 hW) (by decide) (wr_228_3 q2.1) ?_
      refine rr_bipush pf_198_56 (by decide) ?_
      refine rr_iconst pf_198_58 ?_
      refine rr_iload_n pf_198_59 rfl ?_
      refine rr_imul pf_198_60 ?_
      refine rr_iadd pf_198_61 ?_
      refine rr_iload_n pf_198_62 rfl ?_
      refine rr_iadd pf_198_63 ?_
      refine vr_iald (j := 9 + (3 * p.toNat + u.toNat)) q2 pf_198_64 (ws_230 hW) (by omega) (by omega) (by decide) (fun x6 hx6 rx6 => ?_)
      rw [q2.2.2 230 (by decide)] at hx6
      rw [rr_at (M := M0) (i := 9 + (3 * p.toNat + u.toNat)) (by omega)] at hx6
      have hRD := hx6
      refine rr_iret pf_198_65 pt_198 ⟨_, M1, rfl, rfl, q2, (by unfold sp_at; rw [if_pos (by omega), if_pos (by omega)]; unfold sp_hue; exact hRD), (rq3)⟩
    · refine rr_tsw_in (off := 37) 52 pf_198_15 hu0 (by omega) (by rw [hsw5]; rfl) (by decide) ?_
      refine rr_aload_n pf_198_52 rfl ?_
      refine rr_getR pf_198_53 po_198 pg_9_13 rfl (ws_228 hW) (by decide) (wr_228_3 q2.1) ?_
      refine rr_bipush pf_198_56 (by decide) ?_
      refine rr_iconst pf_198_58 ?_
      refine rr_iload_n pf_198_59 rfl ?_
      refine rr_imul pf_198_60 ?_
      refine rr_iadd pf_198_61 ?_
      refine rr_iload_n pf_198_62 rfl ?_
      refine rr_iadd pf_198_63 ?_
      refine vr_iald (j := 9 + (3 * p.toNat + u.toNat)) q2 pf_198_64 (ws_230 hW) (by omega) (by omega) (by decide) (fun x7 hx7 rx7 => ?_)
      rw [q2.2.2 230 (by decide)] at hx7
      rw [rr_at (M := M0) (i := 9 + (3 * p.toNat + u.toNat)) (by omega)] at hx7
      have hRD := hx7
      refine rr_iret pf_198_65 pt_198 ⟨_, M1, rfl, rfl, q2, (by unfold sp_at; rw [if_pos (by omega), if_pos (by omega)]; unfold sp_hue; exact hRD), (rq3)⟩
    · refine rr_tsw_in (off := 37) 52 pf_198_15 hu0 (by omega) (by rw [hsw5]; rfl) (by decide) ?_
      refine rr_aload_n pf_198_52 rfl ?_
      refine rr_getR pf_198_53 po_198 pg_9_13 rfl (ws_228 hW) (by decide) (wr_228_3 q2.1) ?_
      refine rr_bipush pf_198_56 (by decide) ?_
      refine rr_iconst pf_198_58 ?_
      refine rr_iload_n pf_198_59 rfl ?_
      refine rr_imul pf_198_60 ?_
      refine rr_iadd pf_198_61 ?_
      refine rr_iload_n pf_198_62 rfl ?_
      refine rr_iadd pf_198_63 ?_
      refine vr_iald (j := 9 + (3 * p.toNat + u.toNat)) q2 pf_198_64 (ws_230 hW) (by omega) (by omega) (by decide) (fun x8 hx8 rx8 => ?_)
      rw [q2.2.2 230 (by decide)] at hx8
      rw [rr_at (M := M0) (i := 9 + (3 * p.toNat + u.toNat)) (by omega)] at hx8
      have hRD := hx8
      refine rr_iret pf_198_65 pt_198 ⟨_, M1, rfl, rfl, q2, (by unfold sp_at; rw [if_pos (by omega), if_pos (by omega)]; unfold sp_hue; exact hRD), (rq3)⟩
    · refine rr_tsw_in (off := 51) 66 pf_198_15 hu0 (by omega) (by rw [hsw5]; rfl) (by decide) ?_
      refine rr_aload_n pf_198_66 rfl ?_
      refine rr_iload_n pf_198_67 rfl ?_
      obtain ⟨r11, M9, ⟨kq10, pv_M9, pf_M9⟩, hcM9⟩ := ct_R_blacksOf (xs := xs) (L := L) (d := d) (p := (p).toNat) (lw := lw) (by omega) hW q2.1 q2.2.1 (by rw [rr_q q2 (by decide)]; exact hρ) (lwR_q q2 (by decide) hlw) ((rq3 20 (by decide) (by decide)).trans hord) (by omega)
      rw [show (((p).toNat : Nat) : Int) = p by omega] at hcM9
      have q10 := qk_trm q2 kq10 (by decide)
      rw [rr_q q2 (by decide)] at pv_M9
      have rq12 := rz_rq rq3 pf_M9
      refine rr_cV1 pf_198_68 po_198 pc_9_231 (ws_228 hW) po_200 (by decide) rfl hcM9 ?_
      refine rr_iret pf_198_71 pt_198 ⟨_, M9, rfl, rfl, q10, (by unfold sp_at; rw [if_pos (by omega), if_neg (by omega), if_pos (by omega)]; exact pv_M9), (rq12)⟩
    · refine rr_tsw_in (off := 57) 72 pf_198_15 hu0 (by omega) (by rw [hsw5]; rfl) (by decide) ?_
      refine rr_aload_n pf_198_72 rfl ?_
      refine rr_iload_n pf_198_73 rfl ?_
      obtain ⟨M13, ⟨kq14, pf_M13⟩, hcM13⟩ := ct_R_isBlack (xs := xs) (L := L) (d := d) (p := (p).toNat) (lw := lw) (by omega) hW q2.1 q2.2.1 (by rw [rr_q q2 (by decide)]; exact hρ) (lwR_q q2 (by decide) hlw) ((rq3 20 (by decide) (by decide)).trans hord) (by omega)
      rw [show (((p).toNat : Nat) : Int) = p by omega] at hcM13
      rw [rr_q q2 (by decide)] at hcM13
      have q14 := qk_trm q2 kq14 (by decide)
      have rq16 := rz_rq rq3 pf_M13
      refine rr_cV1 pf_198_74 po_198 pc_9_234 (ws_228 hW) po_201 (by decide) rfl hcM13 ?_
      refine rr_ifb_eq 84 pf_198_77 (by decide) (fun c17 => ?_) (fun c17 => ?_)
      · have hbk := c17
        refine rr_iconst pf_198_84 ?_
        refine rr_iret pf_198_85 pt_198 ⟨_, M13, rfl, rfl, q14, (by unfold sp_at; rw [if_pos (by omega), if_neg (by omega), if_neg (by omega), if_pos (by omega), bI_f hbk]), (rq16)⟩
      · have hbk := c17
        refine rr_iconst pf_198_80 ?_
        refine rr_goto 85 pf_198_81 (by decide) ?_
        refine rr_iret pf_198_85 pt_198 ⟨_, M13, rfl, rfl, q14, (by unfold sp_at; rw [if_pos (by omega), if_neg (by omega), if_neg (by omega), if_pos (by omega), bI_t hbk]), (rq16)⟩
    · refine rr_tsw_in (off := 71) 86 pf_198_15 hu0 (by omega) (by rw [hsw5]; rfl) (by decide) ?_
      refine rr_iload_n pf_198_86 rfl ?_
      refine rr_aload_n pf_198_87 rfl ?_
      refine rr_getR pf_198_88 po_198 pg_9_13 rfl (ws_228 hW) (by decide) (wr_228_3 q2.1) ?_
      refine rr_bipush pf_198_91 (by decide) ?_
      refine vr_iald (j := 8) q2 pf_198_93 (ws_230 hW) (by omega) (by omega) (by decide) (fun x18 hx18 rx18 => ?_)
      rw [q2.2.2 230 (by decide)] at hx18
      rw [rr_at (M := M0) (i := 8) (by omega)] at hx18
      have hpul := hρ.2.2.2.2.2.2.2.2.1
      have hRD := hx18
      refine rr_cS2 pf_198_94 po_198 pc_9_237 (by decide) rfl (ct_R_apartOf (by omega) (by omega) (by omega)) ?_
      refine rr_iret pf_198_97 pt_198 ⟨_, M1, rfl, rfl, q2, (by unfold sp_at; rw [if_pos (by omega), if_neg (by omega), if_neg (by omega), if_neg (by omega), if_pos (by omega), ← hRD]), (rq3)⟩
  · refine rr_iconst pf_198_12 ?_
    refine rr_iret pf_198_13 pt_198 ⟨_, M1, rfl, rfl, q2, (by unfold sp_at; rw [if_neg (by omega)]), (rq3)⟩
theorem ct_R_has {xs : Nat → Int} {L d : Nat} {sh : List (Nat × Nat)} {M0 : Nat → Nat → Int} (hd : 14 ≤ d) (hW : px_W0 <+: sh) (hF : px_Fx M0) (hG : px_RG sh M0)  (hρ : sp_ok (rr_ M0)) {lw : List sp_C} (hlw : px_lwR M0 lw) (hord : M0 228 20 = 0) {l u : Int} (hl0 : rg l) (hu0 : rg u) : ∃ v M, (px_qk sh [228, 246, 248] M0 M ∧ (v = sp_has lw (rr_ M0) l u) ∧ (rz [] M0 M)) ∧ px_Cl xs L d 206 [.ref 228, .int (iI (l)), .int (iI (u))] (sh, M0) (some (.int (iI v))) (sh, M) := by
  obtain ⟨d, rfl⟩ : ∃ e, d = e + 1 := ⟨d - 1, by omega⟩
  have q0 : px_qk sh [228, 246, 248] M0 M0 := ⟨hF, hG, eo_rf⟩
  refine vc_i (Nat.le_of_ble_eq_true rfl) ?_
  show px_R xs L d 206 (0, [.ref 228, .int (iI (l)), .int (iI (u))], [], (sh, M0)) (fun r h' => ∃ v M', r = some (.int (iI v)) ∧ h' = (sh, M') ∧ px_qk sh [228, 246, 248] M0 M' ∧ v = sp_has lw (rr_ M0) l u ∧ rz [] M0 M')
  refine rr_aload_n pf_206_0 rfl ?_
  refine rr_iconst pf_206_1 ?_
  refine vr_putI hW q0 pf_206_2 po_206 pg_9_177 (Or.inl rfl) rfl (ws_228 hW) (by decide) (by unfold rg; omega) (by decide) (fun M1 eM1 q2 => ?_)
  have rq3 := rz_up (rz_rf [] M0) eM1 (by decide)
  refine rr_aload_n pf_206_5 rfl ?_
  refine rr_iload_n pf_206_6 rfl ?_
  refine rr_cV1 pf_206_7 po_206 pc_9_248 (ws_228 hW) po_192 (by decide) rfl (ct_R_isListenerN (n := rr_ M0 1) (by omega) hW q2.1 q2.2.1 hl0 (by rw [q2.2.2 230 (by decide)]; exact rr_at (by omega))) ?_
  refine rr_ifb_ne 17 pf_206_10 (by decide) (fun c4 => ?_) (fun c4 => ?_)
  · have h1 := hρ.2.1
    refine rr_iload_n pf_206_17 rfl ?_
    rcases (show (u < 0 ∨ 2 < u) ∨ u = 0 ∨ u = 1 ∨ u = 2 by omega) with hsw5 | hsw5 | hsw5 | hsw5
    · refine rr_tsw_out 79 pf_206_18 (by decide) hu0 hsw5 ?_
      refine rr_sipush pf_206_79 (by decide) ?_
      refine rr_iret pf_206_82 pt_206 ⟨_, M1, rfl, rfl, q2, (by unfold sp_has; rw [if_pos (by omega), if_neg (by omega), if_neg (by omega), if_neg (by omega)]), (rq3)⟩
    · refine rr_tsw_in (off := 26) 44 pf_206_18 hu0 (by omega) (by rw [hsw5]; rfl) (by decide) ?_
      refine rr_aload_n pf_206_44 rfl ?_
      refine rr_getR pf_206_45 po_206 pg_9_13 rfl (ws_228 hW) (by decide) (wr_228_3 q2.1) ?_
      refine rr_bipush pf_206_48 (by decide) ?_
      refine rr_iload_n pf_206_50 rfl ?_
      refine rr_iadd pf_206_51 ?_
      refine vr_iald (j := 57 + l.toNat) q2 pf_206_52 (ws_230 hW) (by omega) (by omega) (by decide) (fun x6 hx6 rx6 => ?_)
      rw [q2.2.2 230 (by decide)] at hx6
      rw [rr_at (M := M0) (i := 57 + l.toNat) (by omega)] at hx6
      refine rr_iret pf_206_53 pt_206 ⟨_, M1, rfl, rfl, q2, (by unfold sp_has; rw [if_pos (by omega), if_pos (by omega)]; omega), (rq3)⟩
    · refine rr_tsw_in (off := 36) 54 pf_206_18 hu0 (by omega) (by rw [hsw5]; rfl) (by decide) ?_
      refine rr_aload_n pf_206_54 rfl ?_
      refine rr_getR pf_206_55 po_206 pg_9_13 rfl (ws_228 hW) (by decide) (wr_228_3 q2.1) ?_
      refine rr_bipush pf_206_58 (by decide) ?_
      refine rr_iload_n pf_206_60 rfl ?_
      refine rr_iadd pf_206_61 ?_
      refine vr_iald (j := 63 + l.toNat) q2 pf_206_62 (ws_230 hW) (by omega) (by omega) (by decide) (fun x7 hx7 rx7 => ?_)
      rw [q2.2.2 230 (by decide)] at hx7
      rw [rr_at (M := M0) (i := 63 + l.toNat) (by omega)] at hx7
      refine rr_iret pf_206_63 pt_206 ⟨_, M1, rfl, rfl, q2, (by unfold sp_has; rw [if_pos (by omega), if_neg (by omega), if_pos (by omega)]; omega), (rq3)⟩
    · refine rr_tsw_in (off := 46) 64 pf_206_18 hu0 (by omega) (by rw [hsw5]; rfl) (by decide) ?_
      refine rr_aload_n pf_206_64 rfl ?_
      refine rr_iload_n pf_206_65 rfl ?_
      refine rr_aload_n pf_206_66 rfl ?_
      refine rr_getR pf_206_67 po_206 pg_9_13 rfl (ws_228 hW) (by decide) (wr_228_3 q2.1) ?_
      refine rr_bipush pf_206_70 (by decide) ?_
      refine rr_iload_n pf_206_72 rfl ?_
      refine rr_iadd pf_206_73 ?_
      refine vr_iald (j := 57 + l.toNat) q2 pf_206_74 (ws_230 hW) (by omega) (by omega) (by decide) (fun x8 hx8 rx8 => ?_)
      rw [q2.2.2 230 (by decide)] at hx8
      rw [rr_at (M := M0) (i := 57 + l.toNat) (by omega)] at hx8
      have hsb := sp_seat_b hρ (l := l.toNat) (by omega)
      obtain ⟨r11, M9, ⟨kq10, pv_M9, pf_M9⟩, hcM9⟩ := ct_R_doesOf (xs := xs) (L := L) (d := d) (l := (l).toNat) (s := (x8).toNat) (lw := lw) (by omega) hW q2.1 q2.2.1 (by rw [rr_q q2 (by decide)]; exact hρ) (lwR_q q2 (by decide) hlw) ((rq3 20 (by decide) (by decide)).trans hord) (by omega) (by omega)
      rw [show (((l).toNat : Nat) : Int) = l by omega] at hcM9
      rw [show (((x8).toNat : Nat) : Int) = x8 by omega] at hcM9
      have q10 := qk_trm q2 kq10 (by decide)
      rw [rr_q q2 (by decide)] at pv_M9
      have rq12 := rz_rq rq3 pf_M9
      refine rr_cV2 pf_206_75 po_206 pc_9_251 (ws_228 hW) po_207 (by decide) rfl hcM9 ?_
      refine rr_iret pf_206_78 pt_206 ⟨_, M9, rfl, rfl, q10, (by unfold sp_has; rw [if_pos (by omega), if_neg (by omega), if_neg (by omega), if_pos (by omega), show (rr_ M0 (57 + l.toNat)).toNat = (x8).toNat by omega]; exact pv_M9), (rq12)⟩
  · refine rr_sipush pf_206_13 (by decide) ?_
    refine rr_iret pf_206_16 pt_206 ⟨_, M1, rfl, rfl, q2, (by unfold sp_has; rw [if_neg (by omega)]), (rq3)⟩
theorem ct_R_light {xs : Nat → Int} {L d : Nat} {sh : List (Nat × Nat)} {M0 : Nat → Nat → Int} (hd : 14 ≤ d) (hW : px_W0 <+: sh) (hF : px_Fx M0) (hG : px_RG sh M0)  (hρ : sp_ok (rr_ M0)) {lw : List sp_C} (hlw : px_lwR M0 lw) (hord : M0 228 20 = 0) {s u : Int} (hs0 : rg s) (hu0 : rg u) : ∃ v M, (px_qk sh [228, 246, 248] M0 M ∧ (v = sp_lgt lw (rr_ M0) s u) ∧ (rz [] M0 M)) ∧ px_Cl xs L d 210 [.ref 228, .int (iI (s)), .int (iI (u))] (sh, M0) (some (.int (iI v))) (sh, M) := by
  obtain ⟨d, rfl⟩ : ∃ e, d = e + 1 := ⟨d - 1, by omega⟩
  have q0 : px_qk sh [228, 246, 248] M0 M0 := ⟨hF, hG, eo_rf⟩
  refine vc_i (Nat.le_of_ble_eq_true rfl) ?_
  show px_R xs L d 210 (0, [.ref 228, .int (iI (s)), .int (iI (u))], [], (sh, M0)) (fun r h' => ∃ v M', r = some (.int (iI v)) ∧ h' = (sh, M') ∧ px_qk sh [228, 246, 248] M0 M' ∧ v = sp_lgt lw (rr_ M0) s u ∧ rz [] M0 M')
  refine rr_aload_n pf_210_0 rfl ?_
  refine rr_iconst pf_210_1 ?_
  refine vr_putI hW q0 pf_210_2 po_210 pg_9_177 (Or.inl rfl) rfl (ws_228 hW) (by decide) (by unfold rg; omega) (by decide) (fun M1 eM1 q2 => ?_)
  have rq3 := rz_up (rz_rf [] M0) eM1 (by decide)
  refine rr_iload_n pf_210_5 rfl ?_
  refine rr_cS1 pf_210_6 po_210 pc_9_240 (by decide) rfl (ct_R_isSeat (by omega) hs0) ?_
  refine rr_ifb_eq 28 pf_210_9 (by decide) (fun c4 => ?_) (fun c4 => ?_)
  · refine rr_iconst pf_210_28 ?_
    refine rr_iret pf_210_29 pt_210 ⟨_, M1, rfl, rfl, q2, (by unfold sp_lgt; rw [if_neg (by omega)]), (rq3)⟩
  · refine rr_iload_n pf_210_12 rfl ?_
    refine rr_cS1 pf_210_13 po_210 pc_9_210 (by decide) rfl (ct_R_isHue (by omega) hu0) ?_
    refine rr_ifb_eq 28 pf_210_16 (by decide) (fun c5 => ?_) (fun c5 => ?_)
    · refine rr_iconst pf_210_28 ?_
      refine rr_iret pf_210_29 pt_210 ⟨_, M1, rfl, rfl, q2, (by unfold sp_lgt; rw [if_neg (by omega)]), (rq3)⟩
    · refine rr_aload_n pf_210_19 rfl ?_
      refine rr_iload_n pf_210_20 rfl ?_
      refine rr_iload_n pf_210_21 rfl ?_
      obtain ⟨r8, M6, ⟨kq7, pv_M6, pf_M6⟩, hcM6⟩ := ct_R_lightOf (xs := xs) (L := L) (d := d) (s := (s).toNat) (h := (u).toNat) (lw := lw) (by omega) hW q2.1 q2.2.1 (by rw [rr_q q2 (by decide)]; exact hρ) (lwR_q q2 (by decide) hlw) ((rq3 20 (by decide) (by decide)).trans hord) (by omega) (by omega)
      rw [show (((s).toNat : Nat) : Int) = s by omega] at hcM6
      rw [show (((u).toNat : Nat) : Int) = u by omega] at hcM6
      have q7 := qk_trm q2 kq7 (by decide)
      rw [rr_q q2 (by decide)] at pv_M6
      have rq9 := rz_rq rq3 pf_M6
      refine rr_cV2 pf_210_22 po_210 pc_9_254 (ws_228 hW) po_208 (by decide) rfl hcM6 ?_
      refine rr_goto 29 pf_210_25 (by decide) ?_
      refine rr_iret pf_210_29 pt_210 ⟨_, M6, rfl, rfl, q7, (by unfold sp_lgt; rw [if_pos (by omega)]; exact pv_M6), (rq9)⟩
noncomputable def sp_cnt (lw : List sp_C) (ρ : Nat → Int) (n8 n13 : Int) (rf : Nat → Int) (u : Int) : Int := if u = 0 then ρ 0 else if u = 1 then ρ 1 else if u = 2 then sp_nblk lw ρ 16 else if u = 3 then ρ 8 else if u = 4 then ρ 2 else if u = 5 then ρ 3 else if u = 6 then n8 else if u = 7 then n13 else if u = 8 then rf 1 else if u = 9 then rf 2 else if u = 10 then rf 3 else if u = 11 then rf 5 else if u = 12 then rf 6 else if u = 13 then ρ 4 else if 14 ≤ u ∧ u ≤ 16 then ρ (5 + (u - 14).toNat) else -1
theorem ct_R_count {xs : Nat → Int} {L d : Nat} {sh : List (Nat × Nat)} {M0 : Nat → Nat → Int} (hd : 14 ≤ d) (hW : px_W0 <+: sh) (hF : px_Fx M0) (hG : px_RG sh M0)  (hρ : sp_ok (rr_ M0)) {lw : List sp_C} (hlw : px_lwR M0 lw) (hord : M0 228 20 = 0) {u : Int} (hu0 : rg u) : ∃ v M, (px_qk sh [228, 246, 248] M0 M ∧ (v = sp_cnt lw (rr_ M0) (M0 228 8) (M0 228 13) (M0 229) u) ∧ (rz [] M0 M)) ∧ px_Cl xs L d 303 [.ref 228, .int (iI (u))] (sh, M0) (some (.int (iI v))) (sh, M) := by
  obtain ⟨d, rfl⟩ : ∃ e, d = e + 1 := ⟨d - 1, by omega⟩
  have q0 : px_qk sh [228, 246, 248] M0 M0 := ⟨hF, hG, eo_rf⟩
  refine vc_i (Nat.le_of_ble_eq_true rfl) ?_
  show px_R xs L d 303 (0, [.ref 228, .int (iI (u))], [], (sh, M0)) (fun r h' => ∃ v M', r = some (.int (iI v)) ∧ h' = (sh, M') ∧ px_qk sh [228, 246, 248] M0 M' ∧ v = sp_cnt lw (rr_ M0) (M0 228 8) (M0 228 13) (M0 229) u ∧ rz [] M0 M')
  refine rr_aload_n pf_303_0 rfl ?_
  refine rr_iconst pf_303_1 ?_
  refine vr_putI hW q0 pf_303_2 po_303 pg_9_177 (Or.inl rfl) rfl (ws_228 hW) (by decide) (by unfold rg; omega) (by decide) (fun M1 eM1 q2 => ?_)
  have rq3 := rz_up (rz_rf [] M0) eM1 (by decide)
  refine rr_iload_n pf_303_5 rfl ?_
  rcases (show (u < 0 ∨ 13 < u) ∨ u = 0 ∨ u = 1 ∨ u = 2 ∨ u = 3 ∨ u = 4 ∨ u = 5 ∨ u = 6 ∨ u = 7 ∨ u = 8 ∨ u = 9 ∨ u = 10 ∨ u = 11 ∨ u = 12 ∨ u = 13 by omega) with hsw4 | hsw4 | hsw4 | hsw4 | hsw4 | hsw4 | hsw4 | hsw4 | hsw4 | hsw4 | hsw4 | hsw4 | hsw4 | hsw4 | hsw4
  · refine rr_tsw_out 170 pf_303_6 (by decide) hu0 hsw4 ?_
    refine rr_iload_n pf_303_170 rfl ?_
    refine rr_i2l pf_303_171 hu0 ?_
    refine rr_ldc2_w pf_303_172 po_303 pl_9_608 ?_
    refine rr_ldc2_w pf_303_175 po_303 pl_9_610 ?_
    refine rr_cS3 pf_303_178 po_303 pc_9_197 (by decide) rfl (ct_R_in (by omega) (rl_rg hu0) (by unfold rl; omega) (by unfold rl; omega)) ?_
    refine rr_ifb_eq 198 pf_303_181 (by decide) (fun c5 => ?_) (fun c5 => ?_)
    · refine rr_iconst pf_303_198 ?_
      refine rr_iret pf_303_199 pt_303 ⟨_, M1, rfl, rfl, q2, (by unfold sp_cnt; rw [if_neg (by omega), if_neg (by omega), if_neg (by omega), if_neg (by omega), if_neg (by omega), if_neg (by omega), if_neg (by omega), if_neg (by omega), if_neg (by omega), if_neg (by omega), if_neg (by omega), if_neg (by omega), if_neg (by omega), if_neg (by omega), if_neg (by omega)]), (rq3)⟩
    · refine rr_aload_n pf_303_184 rfl ?_
      refine rr_getR pf_303_185 po_303 pg_9_13 rfl (ws_228 hW) (by decide) (wr_228_3 q2.1) ?_
      refine rr_iconst pf_303_188 ?_
      refine rr_iload_n pf_303_189 rfl ?_
      refine rr_iadd pf_303_190 ?_
      refine rr_bipush pf_303_191 (by decide) ?_
      refine rr_isub pf_303_193 ?_
      refine vr_iald (j := 5 + (u - 14).toNat) q2 pf_303_194 (ws_230 hW) (by omega) (by omega) (by decide) (fun x6 hx6 rx6 => ?_)
      rw [q2.2.2 230 (by decide)] at hx6
      rw [rr_at (M := M0) (i := 5 + (u - 14).toNat) (by omega)] at hx6
      refine rr_goto 199 pf_303_195 (by decide) ?_
      refine rr_iret pf_303_199 pt_303 ⟨_, M1, rfl, rfl, q2, (by unfold sp_cnt; rw [if_neg (by omega), if_neg (by omega), if_neg (by omega), if_neg (by omega), if_neg (by omega), if_neg (by omega), if_neg (by omega), if_neg (by omega), if_neg (by omega), if_neg (by omega), if_neg (by omega), if_neg (by omega), if_neg (by omega), if_neg (by omega), if_pos (by omega)]; omega), (rq3)⟩
  · refine rr_tsw_in (off := 70) 76 pf_303_6 hu0 (by omega) (by rw [hsw4]; rfl) (by decide) ?_
    refine rr_aload_n pf_303_76 rfl ?_
    refine rr_getR pf_303_77 po_303 pg_9_13 rfl (ws_228 hW) (by decide) (wr_228_3 q2.1) ?_
    refine rr_iconst pf_303_80 ?_
    refine vr_iald (j := 0) q2 pf_303_81 (ws_230 hW) (by omega) (by omega) (by decide) (fun x7 hx7 rx7 => ?_)
    rw [q2.2.2 230 (by decide)] at hx7
    rw [rr_at (M := M0) (i := 0) (by omega)] at hx7
    refine rr_iret pf_303_82 pt_303 ⟨_, M1, rfl, rfl, q2, (by unfold sp_cnt; rw [if_pos (by omega)]; omega), (rq3)⟩
  · refine rr_tsw_in (off := 77) 83 pf_303_6 hu0 (by omega) (by rw [hsw4]; rfl) (by decide) ?_
    refine rr_aload_n pf_303_83 rfl ?_
    refine rr_getR pf_303_84 po_303 pg_9_13 rfl (ws_228 hW) (by decide) (wr_228_3 q2.1) ?_
    refine rr_iconst pf_303_87 ?_
    refine vr_iald (j := 1) q2 pf_303_88 (ws_230 hW) (by omega) (by omega) (by decide) (fun x8 hx8 rx8 => ?_)
    rw [q2.2.2 230 (by decide)] at hx8
    rw [rr_at (M := M0) (i := 1) (by omega)] at hx8
    refine rr_iret pf_303_89 pt_303 ⟨_, M1, rfl, rfl, q2, (by unfold sp_cnt; rw [if_neg (by omega), if_pos (by omega)]; omega), (rq3)⟩
  · refine rr_tsw_in (off := 84) 90 pf_303_6 hu0 (by omega) (by rw [hsw4]; rfl) (by decide) ?_
    refine rr_aload_n pf_303_90 rfl ?_
    obtain ⟨r11, M9, ⟨kq10, pv_M9, pf_M9⟩, hcM9⟩ := ct_R_blackOnes (xs := xs) (L := L) (d := d) (lw := lw) (by omega) hW q2.1 q2.2.1 (by rw [rr_q q2 (by decide)]; exact hρ) (lwR_q q2 (by decide) hlw) ((rq3 20 (by decide) (by decide)).trans hord)
    have q10 := qk_trm q2 kq10 (by decide)
    rw [rr_q q2 (by decide)] at pv_M9
    have rq12 := rz_rq rq3 pf_M9
    refine rr_cV0 pf_303_91 po_303 pc_9_556 (ws_228 hW) po_290 (by decide) rfl hcM9 ?_
    refine rr_iret pf_303_94 pt_303 ⟨_, M9, rfl, rfl, q10, (by unfold sp_cnt; rw [if_neg (by omega), if_neg (by omega), if_pos (by omega)]; exact pv_M9), (rq12)⟩
  · refine rr_tsw_in (off := 89) 95 pf_303_6 hu0 (by omega) (by rw [hsw4]; rfl) (by decide) ?_
    refine rr_aload_n pf_303_95 rfl ?_
    refine rr_getR pf_303_96 po_303 pg_9_13 rfl (ws_228 hW) (by decide) (wr_228_3 q2.1) ?_
    refine rr_bipush pf_303_99 (by decide) ?_
    refine vr_iald (j := 8) q2 pf_303_101 (ws_230 hW) (by omega) (by omega) (by decide) (fun x13 hx13 rx13 => ?_)
    rw [q2.2.2 230 (by decide)] at hx13
    rw [rr_at (M := M0) (i := 8) (by omega)] at hx13
    refine rr_iret pf_303_102 pt_303 ⟨_, M1, rfl, rfl, q2, (by unfold sp_cnt; rw [if_neg (by omega), if_neg (by omega), if_neg (by omega), if_pos (by omega)]; omega), (rq3)⟩
  · refine rr_tsw_in (off := 97) 103 pf_303_6 hu0 (by omega) (by rw [hsw4]; rfl) (by decide) ?_
    refine rr_aload_n pf_303_103 rfl ?_
    refine rr_getR pf_303_104 po_303 pg_9_13 rfl (ws_228 hW) (by decide) (wr_228_3 q2.1) ?_
    refine rr_iconst pf_303_107 ?_
    refine vr_iald (j := 2) q2 pf_303_108 (ws_230 hW) (by omega) (by omega) (by decide) (fun x14 hx14 rx14 => ?_)
    rw [q2.2.2 230 (by decide)] at hx14
    rw [rr_at (M := M0) (i := 2) (by omega)] at hx14
    refine rr_iret pf_303_109 pt_303 ⟨_, M1, rfl, rfl, q2, (by unfold sp_cnt; rw [if_neg (by omega), if_neg (by omega), if_neg (by omega), if_neg (by omega), if_pos (by omega)]; omega), (rq3)⟩
  · refine rr_tsw_in (off := 104) 110 pf_303_6 hu0 (by omega) (by rw [hsw4]; rfl) (by decide) ?_
    refine rr_aload_n pf_303_110 rfl ?_
    refine rr_getR pf_303_111 po_303 pg_9_13 rfl (ws_228 hW) (by decide) (wr_228_3 q2.1) ?_
    refine rr_iconst pf_303_114 ?_
    refine vr_iald (j := 3) q2 pf_303_115 (ws_230 hW) (by omega) (by omega) (by decide) (fun x15 hx15 rx15 => ?_)
    rw [q2.2.2 230 (by decide)] at hx15
    rw [rr_at (M := M0) (i := 3) (by omega)] at hx15
    refine rr_iret pf_303_116 pt_303 ⟨_, M1, rfl, rfl, q2, (by unfold sp_cnt; rw [if_neg (by omega), if_neg (by omega), if_neg (by omega), if_neg (by omega), if_neg (by omega), if_pos (by omega)]; omega), (rq3)⟩
  · refine rr_tsw_in (off := 111) 117 pf_303_6 hu0 (by omega) (by rw [hsw4]; rfl) (by decide) ?_
    refine rr_aload_n pf_303_117 rfl ?_
    refine vr_getI q2 pf_303_118 po_303 pg_9_183 rfl (ws_228 hW) (by decide) (fun x16 hx16 rx16 => ?_)
    rw [rq3 8 (by decide) (by decide)] at hx16
    refine rr_iret pf_303_121 pt_303 ⟨_, M1, rfl, rfl, q2, (by unfold sp_cnt; rw [if_neg (by omega), if_neg (by omega), if_neg (by omega), if_neg (by omega), if_neg (by omega), if_neg (by omega), if_pos (by omega)]; omega), (rq3)⟩
  · refine rr_tsw_in (off := 116) 122 pf_303_6 hu0 (by omega) (by rw [hsw4]; rfl) (by decide) ?_
    refine rr_aload_n pf_303_122 rfl ?_
    refine vr_getI q2 pf_303_123 po_303 pg_9_264 rfl (ws_228 hW) (by decide) (fun x17 hx17 rx17 => ?_)
    rw [rq3 13 (by decide) (by decide)] at hx17
    refine rr_iret pf_303_126 pt_303 ⟨_, M1, rfl, rfl, q2, (by unfold sp_cnt; rw [if_neg (by omega), if_neg (by omega), if_neg (by omega), if_neg (by omega), if_neg (by omega), if_neg (by omega), if_neg (by omega), if_pos (by omega)]; omega), (rq3)⟩
  · refine rr_tsw_in (off := 121) 127 pf_303_6 hu0 (by omega) (by rw [hsw4]; rfl) (by decide) ?_
    refine rr_aload_n pf_303_127 rfl ?_
    refine rr_getR pf_303_128 po_303 pg_9_7 rfl (ws_228 hW) (by decide) (wr_228_2 q2.1) ?_
    refine rr_iconst pf_303_131 ?_
    refine vr_iald (j := 1) q2 pf_303_132 (ws_229 hW) (by omega) (by omega) (by decide) (fun x18 hx18 rx18 => ?_)
    rw [q2.2.2 229 (by decide)] at hx18
    refine rr_iret pf_303_133 pt_303 ⟨_, M1, rfl, rfl, q2, (by unfold sp_cnt; rw [if_neg (by omega), if_neg (by omega), if_neg (by omega), if_neg (by omega), if_neg (by omega), if_neg (by omega), if_neg (by omega), if_neg (by omega), if_pos (by omega)]; omega), (rq3)⟩
  · refine rr_tsw_in (off := 128) 134 pf_303_6 hu0 (by omega) (by rw [hsw4]; rfl) (by decide) ?_
    refine rr_aload_n pf_303_134 rfl ?_
    refine rr_getR pf_303_135 po_303 pg_9_7 rfl (ws_228 hW) (by decide) (wr_228_2 q2.1) ?_
    refine rr_iconst pf_303_138 ?_
    refine vr_iald (j := 2) q2 pf_303_139 (ws_229 hW) (by omega) (by omega) (by decide) (fun x19 hx19 rx19 => ?_)
    rw [q2.2.2 229 (by decide)] at hx19
    refine rr_iret pf_303_140 pt_303 ⟨_, M1, rfl, rfl, q2, (by unfold sp_cnt; rw [if_neg (by omega), if_neg (by omega), if_neg (by omega), if_neg (by omega), if_neg (by omega), if_neg (by omega), if_neg (by omega), if_neg (by omega), if_neg (by omega), if_pos (by omega)]; omega), (rq3)⟩
  · refine rr_tsw_in (off := 135) 141 pf_303_6 hu0 (by omega) (by rw [hsw4]; rfl) (by decide) ?_
    refine rr_aload_n pf_303_141 rfl ?_
    refine rr_getR pf_303_142 po_303 pg_9_7 rfl (ws_228 hW) (by decide) (wr_228_2 q2.1) ?_
    refine rr_iconst pf_303_145 ?_
    refine vr_iald (j := 3) q2 pf_303_146 (ws_229 hW) (by omega) (by omega) (by decide) (fun x20 hx20 rx20 => ?_)
    rw [q2.2.2 229 (by decide)] at hx20
    refine rr_iret pf_303_147 pt_303 ⟨_, M1, rfl, rfl, q2, (by unfold sp_cnt; rw [if_neg (by omega), if_neg (by omega), if_neg (by omega), if_neg (by omega), if_neg (by omega), if_neg (by omega), if_neg (by omega), if_neg (by omega), if_neg (by omega), if_neg (by omega), if_pos (by omega)]; omega), (rq3)⟩
  · refine rr_tsw_in (off := 142) 148 pf_303_6 hu0 (by omega) (by rw [hsw4]; rfl) (by decide) ?_
    refine rr_aload_n pf_303_148 rfl ?_
    refine rr_getR pf_303_149 po_303 pg_9_7 rfl (ws_228 hW) (by decide) (wr_228_2 q2.1) ?_
    refine rr_iconst pf_303_152 ?_
    refine vr_iald (j := 5) q2 pf_303_153 (ws_229 hW) (by omega) (by omega) (by decide) (fun x21 hx21 rx21 => ?_)
    rw [q2.2.2 229 (by decide)] at hx21
    refine rr_iret pf_303_154 pt_303 ⟨_, M1, rfl, rfl, q2, (by unfold sp_cnt; rw [if_neg (by omega), if_neg (by omega), if_neg (by omega), if_neg (by omega), if_neg (by omega), if_neg (by omega), if_neg (by omega), if_neg (by omega), if_neg (by omega), if_neg (by omega), if_neg (by omega), if_pos (by omega)]; omega), (rq3)⟩
  · refine rr_tsw_in (off := 149) 155 pf_303_6 hu0 (by omega) (by rw [hsw4]; rfl) (by decide) ?_
    refine rr_aload_n pf_303_155 rfl ?_
    refine rr_getR pf_303_156 po_303 pg_9_7 rfl (ws_228 hW) (by decide) (wr_228_2 q2.1) ?_
    refine rr_bipush pf_303_159 (by decide) ?_
    refine vr_iald (j := 6) q2 pf_303_161 (ws_229 hW) (by omega) (by omega) (by decide) (fun x22 hx22 rx22 => ?_)
    rw [q2.2.2 229 (by decide)] at hx22
    refine rr_iret pf_303_162 pt_303 ⟨_, M1, rfl, rfl, q2, (by unfold sp_cnt; rw [if_neg (by omega), if_neg (by omega), if_neg (by omega), if_neg (by omega), if_neg (by omega), if_neg (by omega), if_neg (by omega), if_neg (by omega), if_neg (by omega), if_neg (by omega), if_neg (by omega), if_neg (by omega), if_pos (by omega)]; omega), (rq3)⟩
  · refine rr_tsw_in (off := 157) 163 pf_303_6 hu0 (by omega) (by rw [hsw4]; rfl) (by decide) ?_
    refine rr_aload_n pf_303_163 rfl ?_
    refine rr_getR pf_303_164 po_303 pg_9_13 rfl (ws_228 hW) (by decide) (wr_228_3 q2.1) ?_
    refine rr_iconst pf_303_167 ?_
    refine vr_iald (j := 4) q2 pf_303_168 (ws_230 hW) (by omega) (by omega) (by decide) (fun x23 hx23 rx23 => ?_)
    rw [q2.2.2 230 (by decide)] at hx23
    rw [rr_at (M := M0) (i := 4) (by omega)] at hx23
    refine rr_iret pf_303_169 pt_303 ⟨_, M1, rfl, rfl, q2, (by unfold sp_cnt; rw [if_neg (by omega), if_neg (by omega), if_neg (by omega), if_neg (by omega), if_neg (by omega), if_neg (by omega), if_neg (by omega), if_neg (by omega), if_neg (by omega), if_neg (by omega), if_neg (by omega), if_neg (by omega), if_neg (by omega), if_pos (by omega)]; omega), (rq3)⟩
/-- what was drawn: dl listeners (-1: nothing), the row from 5 on -/
def sp_drw (dl : Int) (f : Nat → Int) (k u : Int) : Int := if dl ≠ -1 ∧ (0 ≤ u ∧ u ≤ 3) ∧ 0 ≤ k ∧ k ≤ (if u < 3 then 16 else dl) - 1 then (if u < 3 then f (9 + (3 * k.toNat + u.toNat)) else f (63 + k.toNat)) else -1
theorem ct_R_drawn {xs : Nat → Int} {L d : Nat} {sh : List (Nat × Nat)} {M0 : Nat → Nat → Int} (hd : 2 ≤ d) (hW : px_W0 <+: sh) (hF : px_Fx M0) (hG : px_RG sh M0)  (hdl : -1 ≤ M0 228 61 ∧ M0 228 61 ≤ 6) {k u : Int} (hk0 : rg k) (hu0 : rg u) : ∃ v M, (px_qk sh [228] M0 M ∧ (v = sp_drw (M0 228 61) (fun j => M0 263 (j - 5)) k u) ∧ (rz [] M0 M)) ∧ px_Cl xs L d 302 [.ref 228, .int (iI (k)), .int (iI (u))] (sh, M0) (some (.int (iI v))) (sh, M) := by
  obtain ⟨d, rfl⟩ : ∃ e, d = e + 1 := ⟨d - 1, by omega⟩
  have q0 : px_qk sh [228] M0 M0 := ⟨hF, hG, eo_rf⟩
  refine vc_i (Nat.le_of_ble_eq_true rfl) ?_
  show px_R xs L d 302 (0, [.ref 228, .int (iI (k)), .int (iI (u))], [], (sh, M0)) (fun r h' => ∃ v M', r = some (.int (iI v)) ∧ h' = (sh, M') ∧ px_qk sh [228] M0 M' ∧ v = sp_drw (M0 228 61) (fun j => M0 263 (j - 5)) k u ∧ rz [] M0 M')
  refine rr_aload_n pf_302_0 rfl ?_
  refine rr_iconst pf_302_1 ?_
  refine vr_putI hW q0 pf_302_2 po_302 pg_9_177 (Or.inl rfl) rfl (ws_228 hW) (by decide) (by unfold rg; omega) (by decide) (fun M1 eM1 q2 => ?_)
  have rq3 := rz_up (rz_rf [] M0) eM1 (by decide)
  refine rr_aload_n pf_302_5 rfl ?_
  refine vr_getI q2 pf_302_6 po_302 pg_9_174 rfl (ws_228 hW) (by decide) (fun x4 hx4 rx4 => ?_)
  rw [rq3 61 (by decide) (by decide)] at hx4
  refine rr_iconst pf_302_9 ?_
  refine rr_icmp_eq 51 pf_302_10 (by decide) rx4 (by unfold rg; omega) (fun c5 => ?_) (fun c5 => ?_)
  · refine rr_iconst pf_302_51 ?_
    refine rr_iret pf_302_52 pt_302 ⟨_, M1, rfl, rfl, q2, (by unfold sp_drw; rw [if_neg (by rintro ⟨z1, z2, z3, z4⟩; split at z4 <;> omega)]), (rq3)⟩
  · refine rr_iload_n pf_302_13 rfl ?_
    refine rr_i2l pf_302_14 hu0 ?_
    refine rr_lconst (w := 0) pf_302_15 rfl ?_
    refine rr_ldc2_w pf_302_16 po_302 pl_9_606 ?_
    refine rr_cS3 pf_302_19 po_302 pc_9_197 (by decide) rfl (ct_R_in (by omega) (rl_rg hu0) (by unfold rl; omega) (by unfold rl; omega)) ?_
    refine rr_ifb_eq 51 pf_302_22 (by decide) (fun c6 => ?_) (fun c6 => ?_)
    · refine rr_iconst pf_302_51 ?_
      refine rr_iret pf_302_52 pt_302 ⟨_, M1, rfl, rfl, q2, (by unfold sp_drw; rw [if_neg (by rintro ⟨z1, z2, z3, z4⟩; split at z4 <;> omega)]), (rq3)⟩
    · refine rr_iload_n pf_302_25 rfl ?_
      refine rr_i2l pf_302_26 hk0 ?_
      refine rr_lconst (w := 0) pf_302_27 rfl ?_
      refine rr_iload_n pf_302_28 rfl ?_
      refine rr_iconst pf_302_29 ?_
      refine rr_icmp_ge 38 pf_302_30 (by decide) hu0 (by unfold rg; omega) (fun c7 => ?_) (fun c7 => ?_)
      · refine rr_aload_n pf_302_38 rfl ?_
        refine vr_getI q2 pf_302_39 po_302 pg_9_174 rfl (ws_228 hW) (by decide) (fun x8 hx8 rx8 => ?_)
        rw [rq3 61 (by decide) (by decide)] at hx8
        refine rr_i2l pf_302_42 rx8 ?_
        refine rr_lconst (w := 1) pf_302_43 rfl ?_
        refine rr_lsub pf_302_44 ?_
        refine rr_cS3 pf_302_45 po_302 pc_9_197 (by decide) rfl (ct_R_in (by omega) (rl_rg hk0) (by unfold rl; omega) (by unfold rl; omega)) ?_
        refine rr_ifb_ne 53 pf_302_48 (by decide) (fun c9 => ?_) (fun c9 => ?_)
        · refine rr_aload_n pf_302_53 rfl ?_
          refine rr_getR pf_302_54 po_302 pg_9_171 rfl (ws_228 hW) (by decide) (wr_228_60 q2.1) ?_
          refine rr_iload_n pf_302_57 rfl ?_
          refine rr_iconst pf_302_58 ?_
          refine rr_icmp_ge 73 pf_302_59 (by decide) hu0 (by unfold rg; omega) (fun c10 => ?_) (fun c10 => ?_)
          · refine rr_bipush pf_302_73 (by decide) ?_
            refine rr_iload_n pf_302_75 rfl ?_
            refine rr_iadd pf_302_76 ?_
            refine rr_iconst pf_302_77 ?_
            refine rr_isub pf_302_78 ?_
            refine vr_iald (j := 63 + k.toNat - 5) q2 pf_302_79 (ws_263 hW) (by omega) (by omega) (by decide) (fun x11 hx11 rx11 => ?_)
            rw [q2.2.2 263 (by decide)] at hx11
            refine rr_iret pf_302_80 pt_302 ⟨_, M1, rfl, rfl, q2, (by unfold sp_drw; rw [if_pos (by refine ⟨by omega, by omega, by omega, ?_⟩; split <;> omega), if_neg (by omega)]; omega), (rq3)⟩
          · refine rr_bipush pf_302_62 (by decide) ?_
            refine rr_iconst pf_302_64 ?_
            refine rr_iload_n pf_302_65 rfl ?_
            refine rr_imul pf_302_66 ?_
            refine rr_iadd pf_302_67 ?_
            refine rr_iload_n pf_302_68 rfl ?_
            refine rr_iadd pf_302_69 ?_
            refine rr_goto 77 pf_302_70 (by decide) ?_
            refine rr_iconst pf_302_77 ?_
            refine rr_isub pf_302_78 ?_
            refine vr_iald (j := 9 + (3 * k.toNat + u.toNat) - 5) q2 pf_302_79 (ws_263 hW) (by omega) (by omega) (by decide) (fun x12 hx12 rx12 => ?_)
            rw [q2.2.2 263 (by decide)] at hx12
            refine rr_iret pf_302_80 pt_302 ⟨_, M1, rfl, rfl, q2, (by unfold sp_drw; rw [if_pos (by refine ⟨by omega, by omega, by omega, ?_⟩; split <;> omega), if_neg (by omega)]; omega), (rq3)⟩
        · refine rr_iconst pf_302_51 ?_
          refine rr_iret pf_302_52 pt_302 ⟨_, M1, rfl, rfl, q2, (by unfold sp_drw; rw [if_neg (by rintro ⟨z1, z2, z3, z4⟩; split at z4 <;> omega)]), (rq3)⟩
      · refine rr_bipush pf_302_33 (by decide) ?_
        refine rr_goto 42 pf_302_35 (by decide) ?_
        refine rr_i2l pf_302_42 (by unfold rg; omega) ?_
        refine rr_lconst (w := 1) pf_302_43 rfl ?_
        refine rr_lsub pf_302_44 ?_
        refine rr_cS3 pf_302_45 po_302 pc_9_197 (by decide) rfl (ct_R_in (by omega) (rl_rg hk0) (by unfold rl; omega) (by unfold rl; omega)) ?_
        refine rr_ifb_ne 53 pf_302_48 (by decide) (fun c13 => ?_) (fun c13 => ?_)
        · refine rr_aload_n pf_302_53 rfl ?_
          refine rr_getR pf_302_54 po_302 pg_9_171 rfl (ws_228 hW) (by decide) (wr_228_60 q2.1) ?_
          refine rr_iload_n pf_302_57 rfl ?_
          refine rr_iconst pf_302_58 ?_
          refine rr_icmp_ge 73 pf_302_59 (by decide) hu0 (by unfold rg; omega) (fun c14 => ?_) (fun c14 => ?_)
          · refine rr_bipush pf_302_73 (by decide) ?_
            refine rr_iload_n pf_302_75 rfl ?_
            refine rr_iadd pf_302_76 ?_
            refine rr_iconst pf_302_77 ?_
            refine rr_isub pf_302_78 ?_
            refine vr_iald (j := 63 + k.toNat - 5) q2 pf_302_79 (ws_263 hW) (by omega) (by omega) (by decide) (fun x15 hx15 rx15 => ?_)
            rw [q2.2.2 263 (by decide)] at hx15
            refine rr_iret pf_302_80 pt_302 ⟨_, M1, rfl, rfl, q2, (by unfold sp_drw; rw [if_pos (by refine ⟨by omega, by omega, by omega, ?_⟩; split <;> omega), if_pos (by omega)]; omega), (rq3)⟩
          · refine rr_bipush pf_302_62 (by decide) ?_
            refine rr_iconst pf_302_64 ?_
            refine rr_iload_n pf_302_65 rfl ?_
            refine rr_imul pf_302_66 ?_
            refine rr_iadd pf_302_67 ?_
            refine rr_iload_n pf_302_68 rfl ?_
            refine rr_iadd pf_302_69 ?_
            refine rr_goto 77 pf_302_70 (by decide) ?_
            refine rr_iconst pf_302_77 ?_
            refine rr_isub pf_302_78 ?_
            refine vr_iald (j := 9 + (3 * k.toNat + u.toNat) - 5) q2 pf_302_79 (ws_263 hW) (by omega) (by omega) (by decide) (fun x16 hx16 rx16 => ?_)
            rw [q2.2.2 263 (by decide)] at hx16
            refine rr_iret pf_302_80 pt_302 ⟨_, M1, rfl, rfl, q2, (by unfold sp_drw; rw [if_pos (by refine ⟨by omega, by omega, by omega, ?_⟩; split <;> omega), if_pos (by omega)]; omega), (rq3)⟩
        · refine rr_iconst pf_302_51 ?_
          refine rr_iret pf_302_52 pt_302 ⟨_, M1, rfl, rfl, q2, (by unfold sp_drw; rw [if_neg (by rintro ⟨z1, z2, z3, z4⟩; split at z4 <;> omega)]), (rq3)⟩
noncomputable def sp_bln (lw2 : List sp_C) (ρ : Nat → Int) (l : Int) : Int := if l = -1 ∨ 0 ≤ l ∧ l ≤ ρ 3 - 1 then sp_nblk lw2 ρ 16 else -1
