/-! the class: what it tells -/
theorem byu (v : Int) (s : Nat) (hs : s = 0 ∨ s = 8 ∨ s = 16 ∨ s = 24) : v % 4294967296 / 2 ^ s % 256 = v / 2 ^ s % 256 := by
  rcases hs with rfl | rfl | rfl | rfl <;> omega
theorem ct_S_of {xs : Nat → Int} {L d : Nat} {sh : List (Nat × Nat)} {M0 : Nat → Nat → Int} (hd : 9 ≤ d) (hW : px_W0 <+: sh) (hF : px_Fx M0) (hG : px_RG sh M0)  (hρ : sp_ok (rc M0 3)) {lw : List sp_C} (hlw : px_lw sh M0 3 lw) {w u : Int} (hw0 : rg w) (hu0 : rg u) : ∃ v M, (px_qk sh [2, 13] M0 M ∧ (v = sp_of lw (rc M0 3) w u)) ∧ px_Cl xs L d 16 [.ref 0, .int (iI (w)), .int (iI (u))] (sh, M0) (some (.int (iI v))) (sh, M) := by
  obtain ⟨d, rfl⟩ : ∃ e, d = e + 1 := ⟨d - 1, by omega⟩
  have q0 : px_qk sh [2, 13] M0 M0 := ⟨hF, hG, eo_rf⟩
  have h0 := hρ.1
  have h1 := hρ.2.1
  have h2 := hρ.2.2.1
  have h3 := hρ.2.2.2.1
  have h4 := hρ.2.2.2.2.1
  have h5 := hρ.2.2.2.2.2.1
  have h6 := hρ.2.2.2.2.2.2.1
  have h7 := hρ.2.2.2.2.2.2.2.1
  have h8 := hρ.2.2.2.2.2.2.2.2.1
  refine vc_i (Nat.le_of_ble_eq_true rfl) ?_
  show px_R xs L d 16 (0, [.ref 0, .int (iI (w)), .int (iI (u))], [], (sh, M0)) (fun r h' => ∃ v M', r = some (.int (iI v)) ∧ h' = (sh, M') ∧ px_qk sh [2, 13] M0 M' ∧ v = sp_of lw (rc M0 3) w u)
  refine rr_aload_n pf_16_0 rfl ?_
  refine rr_getR pf_16_1 po_16 pg_8_21 rfl (ws_0 hW) (by decide) (wr_0_1 q0.1) ?_
  refine rr_iload_n pf_16_4 rfl ?_
  refine rr_cV1 pf_16_5 po_16 pc_8_118 (ws_3 hW) po_17 (by decide) rfl (ct_Church_isWordN (xs := xs) (L := L) (d := d) (cb := 3) (v := w) (n := rc M0 3 0) (by omega) hW q0.1 q0.2.1 (show px_ch 3 by unfold px_ch; decide) hw0 rfl hρ.1.1) ?_
  refine rr_ifb_ne 13 pf_16_8 (by decide) (fun c1 => ?_) (fun c1 => ?_)
  · refine rr_iload_n pf_16_13 rfl ?_
    refine rr_if_ne 27 pf_16_14 (by decide) hu0 (fun c2 => ?_) (fun c2 => ?_)
    · refine rr_iload_n pf_16_27 rfl ?_
      refine rr_iconst pf_16_28 ?_
      refine rr_icmp_ne 42 pf_16_29 (by decide) hu0 (by unfold rg; omega) (fun c3 => ?_) (fun c3 => ?_)
      · refine rr_iload_n pf_16_42 rfl ?_
        refine rr_iconst pf_16_43 ?_
        refine rr_icmp_ne 64 pf_16_44 (by decide) hu0 (by unfold rg; omega) (fun c4 => ?_) (fun c4 => ?_)
        · refine rr_iload_n pf_16_64 rfl ?_
          refine rr_iconst pf_16_65 ?_
          refine rr_bipush pf_16_66 (by decide) ?_
          refine rr_cS3 pf_16_68 po_16 pc_8_95 (by decide) rfl (ct_S_within (by omega) hu0 (by unfold rg; omega) (by unfold rg; omega)) ?_
          refine rr_ifb_eq 88 pf_16_71 (by decide) (fun c5 => ?_) (fun c5 => ?_)
          · refine rr_iconst pf_16_88 ?_
            refine rr_iret pf_16_89 pt_16 ⟨_, M0, rfl, rfl, q0, (by unfold sp_of; rw [if_neg (by omega)])⟩
          · refine rr_aload_n pf_16_74 rfl ?_
            refine rr_getR pf_16_75 po_16 pg_8_21 rfl (ws_0 hW) (by decide) (wr_0_1 q0.1) ?_
            refine rr_iload_n pf_16_78 rfl ?_
            refine rr_iload_n pf_16_79 rfl ?_
            refine rr_iconst pf_16_80 ?_
            refine rr_isub pf_16_81 ?_
            obtain ⟨M6, kq7, hcM6⟩ := ct_Church_stainOf (xs := xs) (L := L) (d := d) (cb := 3) (w := w.toNat) (p := (u - 3).toNat) (by omega) hW q0.1 q0.2.1 (show px_ch 3 by unfold px_ch; decide) hρ hlw (by omega) (by omega)
            rw [show ((w.toNat : Nat) : Int) = w by omega] at hcM6
            rw [show (((u - 3).toNat : Nat) : Int) = u - 3 by omega] at hcM6
            have q7 := qk_trm q0 kq7 (by decide)
            refine rr_cV2 pf_16_82 po_16 pc_8_124 (ws_3 hW) po_27 (by decide) rfl hcM6 ?_
            refine rr_goto 89 pf_16_85 (by decide) ?_
            refine rr_iret pf_16_89 pt_16 ⟨_, M6, rfl, rfl, q7, (by unfold sp_of; rw [if_pos (by omega), if_neg (by omega), if_neg (by omega), if_neg (by omega)])⟩
        · refine rr_aload_n pf_16_47 rfl ?_
          refine rr_getR pf_16_48 po_16 pg_8_21 rfl (ws_0 hW) (by decide) (wr_0_1 q0.1) ?_
          refine rr_iload_n pf_16_51 rfl ?_
          obtain ⟨M8, kq9, hcM8⟩ := ct_Church_isBarred (xs := xs) (L := L) (d := d) (cb := 3) (w := w.toNat) (by omega) hW q0.1 q0.2.1 (show px_ch 3 by unfold px_ch; decide) hρ hlw (by omega)
          rw [show ((w.toNat : Nat) : Int) = w by omega] at hcM8
          have q9 := qk_trm q0 kq9 (by decide)
          refine rr_cV1 pf_16_52 po_16 pc_8_121 (ws_3 hW) po_18 (by decide) rfl hcM8 ?_
          refine rr_ifb_eq 62 pf_16_55 (by decide) (fun c10 => ?_) (fun c10 => ?_)
          · have hbr := c10
            refine rr_iconst pf_16_62 ?_
            refine rr_iret pf_16_63 pt_16 ⟨_, M8, rfl, rfl, q9, (by unfold sp_of; rw [if_pos (by omega), if_neg (by omega), if_neg (by omega), if_pos (by omega), bI_f hbr])⟩
          · have hbr := c10
            refine rr_iconst pf_16_58 ?_
            refine rr_goto 63 pf_16_59 (by decide) ?_
            refine rr_iret pf_16_63 pt_16 ⟨_, M8, rfl, rfl, q9, (by unfold sp_of; rw [if_pos (by omega), if_neg (by omega), if_neg (by omega), if_pos (by omega), bI_t hbr])⟩
      · refine rr_aload_n pf_16_32 rfl ?_
        refine rr_getR pf_16_33 po_16 pg_8_21 rfl (ws_0 hW) (by decide) (wr_0_1 q0.1) ?_
        refine rr_getR pf_16_36 po_16 pg_8_109 rfl (ws_3 hW) (by decide) (wr_3_2 q0.1) ?_
        refine rr_iload_n pf_16_39 rfl ?_
        refine vr_iald (j := w.toNat) q0 pf_16_40 (ws_9 hW) (by omega) (by omega) (by decide) (fun x11 hx11 rx11 => ?_)
        rw [c3_9 (M := M0) (i := w.toNat) (by omega)] at hx11
        refine rr_iret pf_16_41 pt_16 ⟨_, M0, rfl, rfl, q0, (by unfold sp_of; rw [if_pos (by omega), if_neg (by omega), if_pos (by omega)]; omega)⟩
    · refine rr_aload_n pf_16_17 rfl ?_
      refine rr_getR pf_16_18 po_16 pg_8_21 rfl (ws_0 hW) (by decide) (wr_0_1 q0.1) ?_
      refine rr_getR pf_16_21 po_16 pg_8_106 rfl (ws_3 hW) (by decide) (wr_3_1 q0.1) ?_
      refine rr_iload_n pf_16_24 rfl ?_
      refine vr_iald (j := w.toNat) q0 pf_16_25 (ws_8 hW) (by omega) (by omega) (by decide) (fun x12 hx12 rx12 => ?_)
      rw [c3_8 (M := M0) (i := w.toNat) (by omega)] at hx12
      refine rr_iret pf_16_26 pt_16 ⟨_, M0, rfl, rfl, q0, (by unfold sp_of; rw [if_pos (by omega), if_pos (by omega)]; omega)⟩
  · refine rr_iconst pf_16_11 ?_
    refine rr_iret pf_16_12 pt_16 ⟨_, M0, rfl, rfl, q0, (by unfold sp_of; rw [if_neg (by omega)])⟩
theorem ct_S_at {xs : Nat → Int} {L d : Nat} {sh : List (Nat × Nat)} {M0 : Nat → Nat → Int} (hd : 9 ≤ d) (hW : px_W0 <+: sh) (hF : px_Fx M0) (hG : px_RG sh M0)  (hρ : sp_ok (rc M0 3)) {lw : List sp_C} (hlw : px_lw sh M0 3 lw) {p u : Int} (hp0 : rg p) (hu0 : rg u) : ∃ v M, (px_qk sh [2, 13] M0 M ∧ (v = sp_at lw (rc M0 3) p u)) ∧ px_Cl xs L d 30 [.ref 0, .int (iI (p)), .int (iI (u))] (sh, M0) (some (.int (iI v))) (sh, M) := by
  obtain ⟨d, rfl⟩ : ∃ e, d = e + 1 := ⟨d - 1, by omega⟩
  have q0 : px_qk sh [2, 13] M0 M0 := ⟨hF, hG, eo_rf⟩
  have h0 := hρ.1
  have h1 := hρ.2.1
  have h2 := hρ.2.2.1
  have h3 := hρ.2.2.2.1
  have h4 := hρ.2.2.2.2.1
  have h5 := hρ.2.2.2.2.2.1
  have h6 := hρ.2.2.2.2.2.2.1
  have h7 := hρ.2.2.2.2.2.2.2.1
  have h8 := hρ.2.2.2.2.2.2.2.2.1
  refine vc_i (Nat.le_of_ble_eq_true rfl) ?_
  show px_R xs L d 30 (0, [.ref 0, .int (iI (p)), .int (iI (u))], [], (sh, M0)) (fun r h' => ∃ v M', r = some (.int (iI v)) ∧ h' = (sh, M') ∧ px_qk sh [2, 13] M0 M' ∧ v = sp_at lw (rc M0 3) p u)
  refine rr_iload_n pf_30_0 rfl ?_
  refine rr_cS1 pf_30_1 po_30 pc_8_128 (by decide) rfl (ct_S_isPane (by omega) hp0) ?_
  refine rr_ifb_ne 9 pf_30_4 (by decide) (fun c1 => ?_) (fun c1 => ?_)
  · refine rr_iload_n pf_30_9 rfl ?_
    refine rr_cS1 pf_30_10 po_30 pc_8_91 (by decide) rfl (ct_S_isHue (by omega) hu0) ?_
    refine rr_ifb_eq 29 pf_30_13 (by decide) (fun c2 => ?_) (fun c2 => ?_)
    · refine rr_iload_n pf_30_29 rfl ?_
      rcases (show (u < 3 ∨ 5 < u) ∨ u = 3 ∨ u = 4 ∨ u = 5 by omega) with hsw3 | hsw3 | hsw3 | hsw3
      · refine rr_tsw_out 91 pf_30_30 (by decide) hu0 hsw3 ?_
        refine rr_iconst pf_30_91 ?_
        refine rr_iret pf_30_92 pt_30 ⟨_, M0, rfl, rfl, q0, (by unfold sp_at; rw [if_pos (by omega), if_neg (by omega), if_neg (by omega), if_neg (by omega), if_neg (by omega)])⟩
      · refine rr_tsw_in (off := 26) 56 pf_30_30 hu0 (by omega) (by rw [hsw3]; rfl) (by decide) ?_
        refine rr_aload_n pf_30_56 rfl ?_
        refine rr_getR pf_30_57 po_30 pg_8_21 rfl (ws_0 hW) (by decide) (wr_0_1 q0.1) ?_
        refine rr_iload_n pf_30_60 rfl ?_
        obtain ⟨M4, kq5, hcM4⟩ := ct_Church_blackFrom (xs := xs) (L := L) (d := d) (cb := 3) (p := p.toNat) (by omega) hW q0.1 q0.2.1 (show px_ch 3 by unfold px_ch; decide) hρ hlw (by omega)
        rw [show ((p.toNat : Nat) : Int) = p by omega] at hcM4
        have q5 := qk_trm q0 kq5 (by decide)
        refine rr_cV1 pf_30_61 po_30 pc_8_140 (ws_3 hW) po_33 (by decide) rfl hcM4 ?_
        refine rr_iret pf_30_64 pt_30 ⟨_, M4, rfl, rfl, q5, (by unfold sp_at; rw [if_pos (by omega), if_neg (by omega), if_pos (by omega)])⟩
      · refine rr_tsw_in (off := 35) 65 pf_30_30 hu0 (by omega) (by rw [hsw3]; rfl) (by decide) ?_
        refine rr_aload_n pf_30_65 rfl ?_
        refine rr_getR pf_30_66 po_30 pg_8_21 rfl (ws_0 hW) (by decide) (wr_0_1 q0.1) ?_
        refine rr_iload_n pf_30_69 rfl ?_
        obtain ⟨M6, kq7, hcM6⟩ := ct_Church_isBlack (xs := xs) (L := L) (d := d) (cb := 3) (p := p.toNat) (by omega) hW q0.1 q0.2.1 (show px_ch 3 by unfold px_ch; decide) hρ hlw (by omega)
        rw [show ((p.toNat : Nat) : Int) = p by omega] at hcM6
        have q7 := qk_trm q0 kq7 (by decide)
        refine rr_cV1 pf_30_70 po_30 pc_8_143 (ws_3 hW) po_34 (by decide) rfl hcM6 ?_
        refine rr_ifb_eq 80 pf_30_73 (by decide) (fun c8 => ?_) (fun c8 => ?_)
        · have hbr := c8
          refine rr_iconst pf_30_80 ?_
          refine rr_iret pf_30_81 pt_30 ⟨_, M6, rfl, rfl, q7, (by unfold sp_at; rw [if_pos (by omega), if_neg (by omega), if_neg (by omega), if_pos (by omega), bI_f hbr])⟩
        · have hbr := c8
          refine rr_iconst pf_30_76 ?_
          refine rr_goto 81 pf_30_77 (by decide) ?_
          refine rr_iret pf_30_81 pt_30 ⟨_, M6, rfl, rfl, q7, (by unfold sp_at; rw [if_pos (by omega), if_neg (by omega), if_neg (by omega), if_pos (by omega), bI_t hbr])⟩
      · refine rr_tsw_in (off := 52) 82 pf_30_30 hu0 (by omega) (by rw [hsw3]; rfl) (by decide) ?_
        refine rr_aload_n pf_30_82 rfl ?_
        refine rr_getR pf_30_83 po_30 pg_8_21 rfl (ws_0 hW) (by decide) (wr_0_1 q0.1) ?_
        refine rr_iload_n pf_30_86 rfl ?_
        have hz9 := ct_Church_awayOf (xs := xs) (L := L) (d := d) (cb := 3) (p := p) (by omega) hW q0.1 q0.2.1 (show px_ch 3 by unfold px_ch; decide) (by omega) (show 0 ≤ rc M0 3 8 ∧ rc M0 3 8 < 16 from (hρ).2.2.2.2.2.2.2.2.1)
        rw [show M0 (3 + 1) 3 = rc M0 3 8 from rfl] at hz9
        refine rr_cV1 pf_30_87 po_30 pc_8_146 (ws_3 hW) po_28 (by decide) rfl hz9 ?_
        refine rr_iret pf_30_90 pt_30 ⟨_, M0, rfl, rfl, q0, (by unfold sp_at; rw [if_pos (by omega), if_neg (by omega), if_neg (by omega), if_neg (by omega), if_pos (by omega)])⟩
    · refine rr_aload_n pf_30_16 rfl ?_
      refine rr_getR pf_30_17 po_30 pg_8_21 rfl (ws_0 hW) (by decide) (wr_0_1 q0.1) ?_
      refine rr_getR pf_30_20 po_30 pg_8_131 rfl (ws_3 hW) (by decide) (wr_3_0 q0.1) ?_
      refine rr_iload_n pf_30_23 rfl ?_
      refine rr_iload_n pf_30_24 rfl ?_
      have hz10 := ct_Nave_hueOf (xs := xs) (L := L) (d := d) (nb := 4) (p := p) (h := u) (by omega) hW q0.1 q0.2.1 (show px_nv 4 by unfold px_nv; decide) (by omega) (by omega)
      rw [show M0 (4 + 1) (p * 3 + u).toNat = rc M0 3 (9 + (p * 3 + u).toNat) from (rc_hue (cb := 3) (by omega)).symm] at hz10
      refine rr_cV2 pf_30_25 po_30 pc_8_135 (ws_4 hW) po_32 (by decide) rfl hz10 ?_
      refine rr_iret pf_30_28 pt_30 ⟨_, M0, rfl, rfl, q0, (by unfold sp_at; rw [if_pos (by omega), if_pos (by omega)]; unfold sp_hue; congr 1; omega)⟩
  · refine rr_iconst pf_30_7 ?_
    refine rr_iret pf_30_8 pt_30 ⟨_, M0, rfl, rfl, q0, (by unfold sp_at; rw [if_neg (by omega)])⟩
theorem ct_S_has {xs : Nat → Int} {L d : Nat} {sh : List (Nat × Nat)} {M0 : Nat → Nat → Int} (hd : 9 ≤ d) (hW : px_W0 <+: sh) (hF : px_Fx M0) (hG : px_RG sh M0)  (hρ : sp_ok (rc M0 3)) {lw : List sp_C} (hlw : px_lw sh M0 3 lw) {l u : Int} (hl0 : rg l) (hu0 : rg u) : ∃ v M, (px_qk sh [2, 12, 13] M0 M ∧ (v = sp_has lw (rc M0 3) l u)) ∧ px_Cl xs L d 39 [.ref 0, .int (iI (l)), .int (iI (u))] (sh, M0) (some (.int (iI v))) (sh, M) := by
  obtain ⟨d, rfl⟩ : ∃ e, d = e + 1 := ⟨d - 1, by omega⟩
  have q0 : px_qk sh [2, 12, 13] M0 M0 := ⟨hF, hG, eo_rf⟩
  have h0 := hρ.1
  have h1 := hρ.2.1
  have h2 := hρ.2.2.1
  have h3 := hρ.2.2.2.1
  have h4 := hρ.2.2.2.2.1
  have h5 := hρ.2.2.2.2.2.1
  have h6 := hρ.2.2.2.2.2.2.1
  have h7 := hρ.2.2.2.2.2.2.2.1
  have h8 := hρ.2.2.2.2.2.2.2.2.1
  refine vc_i (Nat.le_of_ble_eq_true rfl) ?_
  show px_R xs L d 39 (0, [.ref 0, .int (iI (l)), .int (iI (u))], [], (sh, M0)) (fun r h' => ∃ v M', r = some (.int (iI v)) ∧ h' = (sh, M') ∧ px_qk sh [2, 12, 13] M0 M' ∧ v = sp_has lw (rc M0 3) l u)
  refine rr_aload_n pf_39_0 rfl ?_
  refine rr_getR pf_39_1 po_39 pg_8_21 rfl (ws_0 hW) (by decide) (wr_0_1 q0.1) ?_
  refine rr_iload_n pf_39_4 rfl ?_
  refine rr_cV1 pf_39_5 po_39 pc_8_164 (ws_3 hW) po_40 (by decide) rfl (ct_Church_isListenerN (xs := xs) (L := L) (d := d) (cb := 3) (v := l) (n := rc M0 3 1) (by omega) hW q0.1 q0.2.1 (show px_ch 3 by unfold px_ch; decide) hl0 rfl hρ.2.1.1) ?_
  refine rr_ifb_ne 15 pf_39_8 (by decide) (fun c1 => ?_) (fun c1 => ?_)
  · refine rr_iload_n pf_39_15 rfl ?_
    rcases (show (u < 0 ∨ 2 < u) ∨ u = 0 ∨ u = 1 ∨ u = 2 by omega) with hsw2 | hsw2 | hsw2 | hsw2
    · refine rr_tsw_out 98 pf_39_16 (by decide) hu0 hsw2 ?_
      refine rr_sipush pf_39_98 (by decide) ?_
      refine rr_iret pf_39_101 pt_39 ⟨_, M0, rfl, rfl, q0, (by unfold sp_has; rw [if_pos (by omega), if_neg (by omega), if_neg (by omega), if_neg (by omega)])⟩
    · refine rr_tsw_in (off := 28) 44 pf_39_16 hu0 (by omega) (by rw [hsw2]; rfl) (by decide) ?_
      refine rr_aload_n pf_39_44 rfl ?_
      refine rr_getR pf_39_45 po_39 pg_8_21 rfl (ws_0 hW) (by decide) (wr_0_1 q0.1) ?_
      refine rr_getR pf_39_48 po_39 pg_8_131 rfl (ws_3 hW) (by decide) (wr_3_0 q0.1) ?_
      refine rr_getR pf_39_51 po_39 pg_8_158 rfl (ws_4 hW) (by decide) (wr_4_2 q0.1) ?_
      refine rr_iload_n pf_39_54 rfl ?_
      refine vr_iald (j := l.toNat) q0 pf_39_55 (ws_7 hW) (by omega) (by omega) (by decide) (fun x3 hx3 rx3 => ?_)
      rw [c3_7 (M := M0) (i := l.toNat) (by omega)] at hx3
      refine rr_iret pf_39_56 pt_39 ⟨_, M0, rfl, rfl, q0, (by unfold sp_has; rw [if_pos (by omega), if_pos (by omega)]; omega)⟩
    · refine rr_tsw_in (off := 41) 57 pf_39_16 hu0 (by omega) (by rw [hsw2]; rfl) (by decide) ?_
      refine rr_aload_n pf_39_57 rfl ?_
      refine rr_getR pf_39_58 po_39 pg_8_21 rfl (ws_0 hW) (by decide) (wr_0_1 q0.1) ?_
      refine rr_getR pf_39_61 po_39 pg_8_131 rfl (ws_3 hW) (by decide) (wr_3_0 q0.1) ?_
      refine rr_getR pf_39_64 po_39 pg_8_161 rfl (ws_4 hW) (by decide) (wr_4_1 q0.1) ?_
      refine rr_iload_n pf_39_67 rfl ?_
      refine vr_iald (j := l.toNat) q0 pf_39_68 (ws_6 hW) (by omega) (by omega) (by decide) (fun x4 hx4 rx4 => ?_)
      rw [c3_6 (M := M0) (i := l.toNat) (by omega)] at hx4
      refine rr_iret pf_39_69 pt_39 ⟨_, M0, rfl, rfl, q0, (by unfold sp_has; rw [if_pos (by omega), if_neg (by omega), if_pos (by omega)]; omega)⟩
    · refine rr_tsw_in (off := 54) 70 pf_39_16 hu0 (by omega) (by rw [hsw2]; rfl) (by decide) ?_
      refine rr_aload_n pf_39_70 rfl ?_
      refine rr_getR pf_39_71 po_39 pg_8_21 rfl (ws_0 hW) (by decide) (wr_0_1 q0.1) ?_
      refine rr_aload_n pf_39_74 rfl ?_
      refine rr_getR pf_39_75 po_39 pg_8_21 rfl (ws_0 hW) (by decide) (wr_0_1 q0.1) ?_
      refine rr_getR pf_39_78 po_39 pg_8_131 rfl (ws_3 hW) (by decide) (wr_3_0 q0.1) ?_
      refine rr_getR pf_39_81 po_39 pg_8_158 rfl (ws_4 hW) (by decide) (wr_4_2 q0.1) ?_
      refine rr_iload_n pf_39_84 rfl ?_
      refine vr_iald (j := l.toNat) q0 pf_39_85 (ws_7 hW) (by omega) (by omega) (by decide) (fun x5 hx5 rx5 => ?_)
      rw [c3_7 (M := M0) (i := l.toNat) (by omega)] at hx5
      have hsb := sp_seat_b hρ (l := l.toNat) (by omega)
      obtain ⟨M6, ⟨kq7, psh_M6⟩, hcM6⟩ := ct_Church_shine (xs := xs) (L := L) (d := d) (cb := 3) (s := (rc M0 3 (57 + l.toNat)).toNat) (by omega) hW q0.1 q0.2.1 (show px_ch 3 by unfold px_ch; decide) hρ hlw (by omega)
      rw [show (((rc M0 3 (57 + l.toNat)).toNat : Nat) : Int) = x5 by omega] at hcM6
      have q7 := qk_trm q0 kq7 (by decide)
      refine rr_cV1 pf_39_86 po_39 pc_8_167 (ws_3 hW) po_41 (by decide) rfl hcM6 ?_
      
      refine rr_aload_n pf_39_89 rfl ?_
      refine rr_getR pf_39_90 po_39 pg_8_21 rfl (ws_0 hW) (by decide) (wr_0_1 q7.1) ?_
      refine rr_iload_n pf_39_93 rfl ?_
      obtain ⟨M8, kq9, hcM8⟩ := ct_Church_doesTo (xs := xs) (L := L) (d := d) (cb := 3) (l := l.toNat) (f := fun h => sp_light lw (rc M0 3) (rc M0 3 (57 + l.toNat)).toNat h) (by omega) hW q7.1 q7.2.1 (show px_ch 3 by unfold px_ch; decide) (by rw [rc_eo q7.2.2 (by decide)]; exact hρ) (lw_eo hlw q7.2.2 (by decide) (by decide) (by decide)) (by omega) psh_M6 (fun h hh => sp_light_b lw hρ (by omega) hh)
      rw [show ((l.toNat : Nat) : Int) = l by omega] at hcM8
      rw [rc_eo q7.2.2 (by decide)] at hcM8
      rw [show sp_doesF lw (rc M0 3) (l.toNat) (fun h => sp_light lw (rc M0 3) (rc M0 3 (57 + l.toNat)).toNat h) = sp_does lw (rc M0 3) (l.toNat) (rc M0 3 (57 + l.toNat)).toNat from rfl] at hcM8
      have q9 := qk_trm q7 kq9 (by decide)
      have psh10 : ∀ h, h < 3 → M8 12 h = sp_light lw (rc M0 3) (rc M0 3 (57 + l.toNat)).toNat h := by rw [kq9.2.2 12 (by decide)]; exact psh_M6
      refine rr_cV1 pf_39_94 po_39 pc_8_171 (ws_3 hW) po_43 (by decide) rfl hcM8 ?_
      refine rr_iret pf_39_97 pt_39 ⟨_, M8, rfl, rfl, q9, (by unfold sp_has; rw [if_pos (by omega), if_neg (by omega), if_neg (by omega), if_pos (by omega)])⟩
  · refine rr_sipush pf_39_11 (by decide) ?_
    refine rr_iret pf_39_14 pt_39 ⟨_, M0, rfl, rfl, q0, (by unfold sp_has; rw [if_neg (by omega)])⟩
theorem ct_S_light {xs : Nat → Int} {L d : Nat} {sh : List (Nat × Nat)} {M0 : Nat → Nat → Int} (hd : 9 ≤ d) (hW : px_W0 <+: sh) (hF : px_Fx M0) (hG : px_RG sh M0)  (hρ : sp_ok (rc M0 3)) {lw : List sp_C} (hlw : px_lw sh M0 3 lw) {s u : Int} (hs0 : rg s) (hu0 : rg u) : ∃ v M, (px_qk sh [2, 12, 13] M0 M ∧ (v = sp_lgt lw (rc M0 3) s u)) ∧ px_Cl xs L d 44 [.ref 0, .int (iI (s)), .int (iI (u))] (sh, M0) (some (.int (iI v))) (sh, M) := by
  obtain ⟨d, rfl⟩ : ∃ e, d = e + 1 := ⟨d - 1, by omega⟩
  have q0 : px_qk sh [2, 12, 13] M0 M0 := ⟨hF, hG, eo_rf⟩
  have h0 := hρ.1
  have h1 := hρ.2.1
  have h2 := hρ.2.2.1
  have h3 := hρ.2.2.2.1
  have h4 := hρ.2.2.2.2.1
  have h5 := hρ.2.2.2.2.2.1
  have h6 := hρ.2.2.2.2.2.2.1
  have h7 := hρ.2.2.2.2.2.2.2.1
  have h8 := hρ.2.2.2.2.2.2.2.2.1
  refine vc_i (Nat.le_of_ble_eq_true rfl) ?_
  show px_R xs L d 44 (0, [.ref 0, .int (iI (s)), .int (iI (u))], [], (sh, M0)) (fun r h' => ∃ v M', r = some (.int (iI v)) ∧ h' = (sh, M') ∧ px_qk sh [2, 12, 13] M0 M' ∧ v = sp_lgt lw (rc M0 3) s u)
  refine rr_iload_n pf_44_0 rfl ?_
  refine rr_cS1 pf_44_1 po_44 pc_8_149 (by decide) rfl (ct_S_isSeat (by omega) hs0) ?_
  refine rr_ifb_eq 14 pf_44_4 (by decide) (fun c1 => ?_) (fun c1 => ?_)
  · refine rr_iconst pf_44_14 ?_
    refine rr_iret pf_44_15 pt_44 ⟨_, M0, rfl, rfl, q0, (by unfold sp_lgt; rw [if_neg (by omega)])⟩
  · refine rr_iload_n pf_44_7 rfl ?_
    refine rr_cS1 pf_44_8 po_44 pc_8_91 (by decide) rfl (ct_S_isHue (by omega) hu0) ?_
    refine rr_ifb_ne 16 pf_44_11 (by decide) (fun c2 => ?_) (fun c2 => ?_)
    · refine rr_aload_n pf_44_16 rfl ?_
      refine rr_getR pf_44_17 po_44 pg_8_21 rfl (ws_0 hW) (by decide) (wr_0_1 q0.1) ?_
      refine rr_iload_n pf_44_20 rfl ?_
      obtain ⟨M3, ⟨kq4, psh_M3⟩, hcM3⟩ := ct_Church_shine (xs := xs) (L := L) (d := d) (cb := 3) (s := s.toNat) (by omega) hW q0.1 q0.2.1 (show px_ch 3 by unfold px_ch; decide) hρ hlw (by omega)
      rw [show ((s.toNat : Nat) : Int) = s by omega] at hcM3
      have q4 := qk_trm q0 kq4 (by decide)
      refine rr_cV1 pf_44_21 po_44 pc_8_167 (ws_3 hW) po_41 (by decide) rfl hcM3 ?_
      
      refine rr_aload_n pf_44_24 rfl ?_
      refine rr_getR pf_44_25 po_44 pg_8_21 rfl (ws_0 hW) (by decide) (wr_0_1 q4.1) ?_
      refine rr_getR pf_44_28 po_44 pg_8_174 rfl (ws_3 hW) (by decide) (wr_3_5 q4.1) ?_
      refine rr_iload_n pf_44_31 rfl ?_
      refine vr_iald (j := u.toNat) q4 pf_44_32 (ws_12 hW) (by omega) (by omega) (by decide) (fun x5 hx5 rx5 => ?_)
      rw [psh_M3 u.toNat (by omega)] at hx5
      refine rr_iret pf_44_33 pt_44 ⟨_, M3, rfl, rfl, q4, (by unfold sp_lgt; rw [if_pos (by omega)]; omega)⟩
    · refine rr_iconst pf_44_14 ?_
      refine rr_iret pf_44_15 pt_44 ⟨_, M0, rfl, rfl, q0, (by unfold sp_lgt; rw [if_neg (by omega)])⟩
theorem cnt_rf {lw : List sp_C} {ρ : Nat → Int} {n8 n13 : Int} {rf : Nat → Int} {u : Int} (h : 8 ≤ u ∧ u ≤ 12) : sp_cnt lw ρ n8 n13 rf u = rf (if u < 11 then (u - 7).toNat else (u - 6).toNat) := by
  unfold sp_cnt
  rcases (show u = 8 ∨ u = 9 ∨ u = 10 ∨ u = 11 ∨ u = 12 by omega) with rfl | rfl | rfl | rfl | rfl <;> rfl
theorem cnt_tm {lw : List sp_C} {ρ : Nat → Int} {n8 n13 : Int} {rf : Nat → Int} {u : Int} (h : 14 ≤ u ∧ u ≤ 16) : sp_cnt lw ρ n8 n13 rf u = ρ (5 + (u - 14).toNat) := by
  unfold sp_cnt
  rw [if_neg (by omega), if_neg (by omega), if_neg (by omega), if_neg (by omega), if_neg (by omega), if_neg (by omega), if_neg (by omega), if_neg (by omega), if_neg (by omega), if_neg (by omega), if_neg (by omega), if_neg (by omega), if_neg (by omega), if_neg (by omega), if_pos (by omega)]
theorem ct_S_count {xs : Nat → Int} {L d : Nat} {sh : List (Nat × Nat)} {M0 : Nat → Nat → Int} (hd : 9 ≤ d) (hW : px_W0 <+: sh) (hF : px_Fx M0) (hG : px_RG sh M0)  (hρ : sp_ok (rc M0 3)) {lw : List sp_C} (hlw : px_lw sh M0 3 lw) {rf : Nat → Int} (hrfc : ∀ j, j < 5 → M0 205 j = rf (if j < 3 then j + 1 else j + 2)) {u : Int} (hu0 : rg u) : ∃ v M, (px_qk sh [2, 13] M0 M ∧ (v = sp_cnt lw (rc M0 3) (M0 27 3) (M0 0 11) rf u)) ∧ px_Cl xs L d 172 [.ref 0, .int (iI (u))] (sh, M0) (some (.int (iI v))) (sh, M) := by
  obtain ⟨d, rfl⟩ : ∃ e, d = e + 1 := ⟨d - 1, by omega⟩
  have q0 : px_qk sh [2, 13] M0 M0 := ⟨hF, hG, eo_rf⟩
  have h0 := hρ.1
  have h1 := hρ.2.1
  have h2 := hρ.2.2.1
  have h3 := hρ.2.2.2.1
  have h4 := hρ.2.2.2.2.1
  have h5 := hρ.2.2.2.2.2.1
  have h6 := hρ.2.2.2.2.2.2.1
  have h7 := hρ.2.2.2.2.2.2.2.1
  have h8 := hρ.2.2.2.2.2.2.2.2.1
  refine vc_i (Nat.le_of_ble_eq_true rfl) ?_
  show px_R xs L d 172 (0, [.ref 0, .int (iI (u))], [], (sh, M0)) (fun r h' => ∃ v M', r = some (.int (iI v)) ∧ h' = (sh, M') ∧ px_qk sh [2, 13] M0 M' ∧ v = sp_cnt lw (rc M0 3) (M0 27 3) (M0 0 11) rf u)
  refine rr_iload_n pf_172_0 rfl ?_
  refine rr_bipush pf_172_1 (by decide) ?_
  refine rr_bipush pf_172_3 (by decide) ?_
  refine rr_cS3 pf_172_5 po_172 pc_8_95 (by decide) rfl (ct_S_within (by omega) hu0 (by unfold rg; omega) (by unfold rg; omega)) ?_
  refine rr_ifb_eq 21 pf_172_8 (by decide) (fun c1 => ?_) (fun c1 => ?_)
  · refine rr_iload_n pf_172_21 rfl ?_
    refine rr_bipush pf_172_22 (by decide) ?_
    refine rr_bipush pf_172_24 (by decide) ?_
    refine rr_cS3 pf_172_26 po_172 pc_8_95 (by decide) rfl (ct_S_within (by omega) hu0 (by unfold rg; omega) (by unfold rg; omega)) ?_
    refine rr_ifb_eq 44 pf_172_29 (by decide) (fun c2 => ?_) (fun c2 => ?_)
    · refine rr_iload_n pf_172_44 rfl ?_
      rcases (show (u < 0 ∨ 13 < u) ∨ u = 0 ∨ u = 1 ∨ u = 2 ∨ u = 3 ∨ u = 4 ∨ u = 5 ∨ u = 6 ∨ u = 7 ∨ u = 8 ∨ u = 9 ∨ u = 10 ∨ u = 11 ∨ u = 12 ∨ u = 13 by omega) with hsw3 | hsw3 | hsw3 | hsw3 | hsw3 | hsw3 | hsw3 | hsw3 | hsw3 | hsw3 | hsw3 | hsw3 | hsw3 | hsw3 | hsw3
      · refine rr_tsw_out 188 pf_172_45 (by decide) hu0 hsw3 ?_
        refine rr_iconst pf_172_188 ?_
        refine rr_iret pf_172_189 pt_172 ⟨_, M0, rfl, rfl, q0, (by unfold sp_cnt; rw [if_neg (by omega), if_neg (by omega), if_neg (by omega), if_neg (by omega), if_neg (by omega), if_neg (by omega), if_neg (by omega), if_neg (by omega), if_neg (by omega), if_neg (by omega), if_neg (by omega), if_neg (by omega), if_neg (by omega), if_neg (by omega), if_neg (by omega)])⟩
      · refine rr_tsw_in (off := 71) 116 pf_172_45 hu0 (by omega) (by rw [hsw3]; rfl) (by decide) ?_
        refine rr_aload_n pf_172_116 rfl ?_
        refine rr_getR pf_172_117 po_172 pg_8_21 rfl (ws_0 hW) (by decide) (wr_0_1 q0.1) ?_
        refine vr_getI q0 pf_172_120 po_172 pg_8_103 rfl (ws_3 hW) (by decide) (fun x4 hx4 rx4 => ?_)
        change x4 = rc M0 3 0 at hx4
        refine rr_iret pf_172_123 pt_172 ⟨_, M0, rfl, rfl, q0, (by unfold sp_cnt; rw [if_pos (by omega)]; omega)⟩
      · refine rr_tsw_in (off := 79) 124 pf_172_45 hu0 (by omega) (by rw [hsw3]; rfl) (by decide) ?_
        refine rr_aload_n pf_172_124 rfl ?_
        refine rr_getR pf_172_125 po_172 pg_8_21 rfl (ws_0 hW) (by decide) (wr_0_1 q0.1) ?_
        refine vr_getI q0 pf_172_128 po_172 pg_8_155 rfl (ws_3 hW) (by decide) (fun x5 hx5 rx5 => ?_)
        change x5 = rc M0 3 1 at hx5
        refine rr_iret pf_172_131 pt_172 ⟨_, M0, rfl, rfl, q0, (by unfold sp_cnt; rw [if_neg (by omega), if_pos (by omega)]; omega)⟩
      · refine rr_tsw_in (off := 87) 132 pf_172_45 hu0 (by omega) (by rw [hsw3]; rfl) (by decide) ?_
        refine rr_aload_n pf_172_132 rfl ?_
        refine rr_getR pf_172_133 po_172 pg_8_21 rfl (ws_0 hW) (by decide) (wr_0_1 q0.1) ?_
        obtain ⟨M6, kq7, hcM6⟩ := ct_Church_blackPanes (xs := xs) (L := L) (d := d) (cb := 3) (by omega) hW q0.1 q0.2.1 (show px_ch 3 by unfold px_ch; decide) hρ hlw 
        have q7 := qk_trm q0 kq7 (by decide)
        refine rr_cV0 pf_172_136 po_172 pc_8_354 (ws_3 hW) po_99 (by decide) rfl hcM6 ?_
        refine rr_iret pf_172_139 pt_172 ⟨_, M6, rfl, rfl, q7, (by unfold sp_cnt; rw [if_neg (by omega), if_neg (by omega), if_pos (by omega)])⟩
      · refine rr_tsw_in (off := 95) 140 pf_172_45 hu0 (by omega) (by rw [hsw3]; rfl) (by decide) ?_
        refine rr_aload_n pf_172_140 rfl ?_
        refine rr_getR pf_172_141 po_172 pg_8_21 rfl (ws_0 hW) (by decide) (wr_0_1 q0.1) ?_
        refine rr_getR pf_172_144 po_172 pg_8_131 rfl (ws_3 hW) (by decide) (wr_3_0 q0.1) ?_
        refine vr_getI q0 pf_172_147 po_172 pg_8_325 rfl (ws_4 hW) (by decide) (fun x8 hx8 rx8 => ?_)
        change x8 = rc M0 3 8 at hx8
        refine rr_iret pf_172_150 pt_172 ⟨_, M0, rfl, rfl, q0, (by unfold sp_cnt; rw [if_neg (by omega), if_neg (by omega), if_neg (by omega), if_pos (by omega)]; omega)⟩
      · refine rr_tsw_in (off := 106) 151 pf_172_45 hu0 (by omega) (by rw [hsw3]; rfl) (by decide) ?_
        refine rr_aload_n pf_172_151 rfl ?_
        refine rr_getR pf_172_152 po_172 pg_8_21 rfl (ws_0 hW) (by decide) (wr_0_1 q0.1) ?_
        refine vr_getI q0 pf_172_155 po_172 pg_8_284 rfl (ws_3 hW) (by decide) (fun x9 hx9 rx9 => ?_)
        change x9 = rc M0 3 2 at hx9
        refine rr_iret pf_172_158 pt_172 ⟨_, M0, rfl, rfl, q0, (by unfold sp_cnt; rw [if_neg (by omega), if_neg (by omega), if_neg (by omega), if_neg (by omega), if_pos (by omega)]; omega)⟩
      · refine rr_tsw_in (off := 114) 159 pf_172_45 hu0 (by omega) (by rw [hsw3]; rfl) (by decide) ?_
        refine rr_aload_n pf_172_159 rfl ?_
        refine rr_getR pf_172_160 po_172 pg_8_21 rfl (ws_0 hW) (by decide) (wr_0_1 q0.1) ?_
        refine vr_getI q0 pf_172_163 po_172 pg_8_202 rfl (ws_3 hW) (by decide) (fun x10 hx10 rx10 => ?_)
        change x10 = rc M0 3 3 at hx10
        refine rr_iret pf_172_166 pt_172 ⟨_, M0, rfl, rfl, q0, (by unfold sp_cnt; rw [if_neg (by omega), if_neg (by omega), if_neg (by omega), if_neg (by omega), if_neg (by omega), if_pos (by omega)]; omega)⟩
      · refine rr_tsw_in (off := 122) 167 pf_172_45 hu0 (by omega) (by rw [hsw3]; rfl) (by decide) ?_
        refine rr_aload_n pf_172_167 rfl ?_
        refine rr_getR pf_172_168 po_172 pg_8_39 rfl (ws_0 hW) (by decide) (wr_0_5 q0.1) ?_
        refine vr_getI q0 pf_172_171 po_172 pg_8_357 rfl (ws_27 hW) (by decide) (fun x11 hx11 rx11 => ?_)
        refine rr_iret pf_172_174 pt_172 ⟨_, M0, rfl, rfl, q0, (by unfold sp_cnt; rw [if_neg (by omega), if_neg (by omega), if_neg (by omega), if_neg (by omega), if_neg (by omega), if_neg (by omega), if_pos (by omega)]; omega)⟩
      · refine rr_tsw_in (off := 130) 175 pf_172_45 hu0 (by omega) (by rw [hsw3]; rfl) (by decide) ?_
        refine rr_aload_n pf_172_175 rfl ?_
        refine vr_getI q0 pf_172_176 po_172 pg_8_77 rfl (ws_0 hW) (by decide) (fun x12 hx12 rx12 => ?_)
        refine rr_iret pf_172_179 pt_172 ⟨_, M0, rfl, rfl, q0, (by unfold sp_cnt; rw [if_neg (by omega), if_neg (by omega), if_neg (by omega), if_neg (by omega), if_neg (by omega), if_neg (by omega), if_neg (by omega), if_pos (by omega)]; omega)⟩
      · refine rr_tsw_in (off := 143) 188 pf_172_45 hu0 (by omega) (by rw [hsw3]; rfl) (by decide) ?_
        refine rr_iconst pf_172_188 ?_
        refine rr_iret pf_172_189 pt_172 ⟨_, M0, rfl, rfl, q0, (by unfold sp_cnt; rw [if_neg (by omega), if_neg (by omega), if_neg (by omega), if_neg (by omega), if_neg (by omega), if_neg (by omega), if_neg (by omega), if_neg (by omega), if_neg (by omega), if_neg (by omega), if_neg (by omega), if_neg (by omega), if_neg (by omega), if_neg (by omega), if_neg (by omega)])⟩
      · refine rr_tsw_in (off := 143) 188 pf_172_45 hu0 (by omega) (by rw [hsw3]; rfl) (by decide) ?_
        refine rr_iconst pf_172_188 ?_
        refine rr_iret pf_172_189 pt_172 ⟨_, M0, rfl, rfl, q0, (by unfold sp_cnt; rw [if_neg (by omega), if_neg (by omega), if_neg (by omega), if_neg (by omega), if_neg (by omega), if_neg (by omega), if_neg (by omega), if_neg (by omega), if_neg (by omega), if_neg (by omega), if_neg (by omega), if_neg (by omega), if_neg (by omega), if_neg (by omega), if_neg (by omega)])⟩
      · refine rr_tsw_in (off := 143) 188 pf_172_45 hu0 (by omega) (by rw [hsw3]; rfl) (by decide) ?_
        refine rr_iconst pf_172_188 ?_
        refine rr_iret pf_172_189 pt_172 ⟨_, M0, rfl, rfl, q0, (by unfold sp_cnt; rw [if_neg (by omega), if_neg (by omega), if_neg (by omega), if_neg (by omega), if_neg (by omega), if_neg (by omega), if_neg (by omega), if_neg (by omega), if_neg (by omega), if_neg (by omega), if_neg (by omega), if_neg (by omega), if_neg (by omega), if_neg (by omega), if_neg (by omega)])⟩
      · refine rr_tsw_in (off := 143) 188 pf_172_45 hu0 (by omega) (by rw [hsw3]; rfl) (by decide) ?_
        refine rr_iconst pf_172_188 ?_
        refine rr_iret pf_172_189 pt_172 ⟨_, M0, rfl, rfl, q0, (by unfold sp_cnt; rw [if_neg (by omega), if_neg (by omega), if_neg (by omega), if_neg (by omega), if_neg (by omega), if_neg (by omega), if_neg (by omega), if_neg (by omega), if_neg (by omega), if_neg (by omega), if_neg (by omega), if_neg (by omega), if_neg (by omega), if_neg (by omega), if_neg (by omega)])⟩
      · refine rr_tsw_in (off := 143) 188 pf_172_45 hu0 (by omega) (by rw [hsw3]; rfl) (by decide) ?_
        refine rr_iconst pf_172_188 ?_
        refine rr_iret pf_172_189 pt_172 ⟨_, M0, rfl, rfl, q0, (by unfold sp_cnt; rw [if_neg (by omega), if_neg (by omega), if_neg (by omega), if_neg (by omega), if_neg (by omega), if_neg (by omega), if_neg (by omega), if_neg (by omega), if_neg (by omega), if_neg (by omega), if_neg (by omega), if_neg (by omega), if_neg (by omega), if_neg (by omega), if_neg (by omega)])⟩
      · refine rr_tsw_in (off := 135) 180 pf_172_45 hu0 (by omega) (by rw [hsw3]; rfl) (by decide) ?_
        refine rr_aload_n pf_172_180 rfl ?_
        refine rr_getR pf_172_181 po_172 pg_8_21 rfl (ws_0 hW) (by decide) (wr_0_1 q0.1) ?_
        refine vr_getI q0 pf_172_184 po_172 pg_8_245 rfl (ws_3 hW) (by decide) (fun x13 hx13 rx13 => ?_)
        change x13 = rc M0 3 4 at hx13
        refine rr_iret pf_172_187 pt_172 ⟨_, M0, rfl, rfl, q0, (by unfold sp_cnt; rw [if_neg (by omega), if_neg (by omega), if_neg (by omega), if_neg (by omega), if_neg (by omega), if_neg (by omega), if_neg (by omega), if_neg (by omega), if_neg (by omega), if_neg (by omega), if_neg (by omega), if_neg (by omega), if_neg (by omega), if_pos (by omega)]; omega)⟩
    · refine rr_aload_n pf_172_32 rfl ?_
      refine rr_getR pf_172_33 po_172 pg_8_21 rfl (ws_0 hW) (by decide) (wr_0_1 q0.1) ?_
      refine rr_iload_n pf_172_36 rfl ?_
      refine rr_bipush pf_172_37 (by decide) ?_
      refine rr_isub pf_172_39 ?_
      have hz14 := ct_Church_termOf (xs := xs) (L := L) (d := d) (cb := 3) (v := u - 14) (by omega) hW q0.1 q0.2.1 (show px_ch 3 by unfold px_ch; decide) (by unfold rg; omega)
      have thz14 : (if (u - 14) = 0 then M0 (3 + 1) 4 else if (u - 14) = 1 then M0 3 11 else M0 3 12) = rc M0 3 (5 + (u - 14).toNat) := by
        rcases (show u - 14 = 0 ∨ u - 14 = 1 ∨ u - 14 = 2 by omega) with z | z | z
        · rw [if_pos z, z]; rfl
        · rw [if_neg (by omega), if_pos z, z]; rfl
        · rw [if_neg (by omega), if_neg (by omega), z]; rfl
      rw [thz14] at hz14
      refine rr_cV1 pf_172_40 po_172 pc_8_180 (ws_3 hW) po_47 (by decide) rfl hz14 ?_
      refine rr_iret pf_172_43 pt_172 ⟨_, M0, rfl, rfl, q0, (by rw [cnt_tm (by omega)])⟩
  · refine rr_aload_n pf_172_11 rfl ?_
    refine rr_getR pf_172_12 po_172 pg_8_74 rfl (ws_0 hW) (by decide) (wr_0_10 q0.1) ?_
    refine rr_iload_n pf_172_15 rfl ?_
    refine rr_bipush pf_172_16 (by decide) ?_
    refine rr_isub pf_172_18 ?_
    refine vr_iald (j := (u - 8).toNat) q0 pf_172_19 (ws_205 hW) (by omega) (by omega) (by decide) (fun x15 hx15 rx15 => ?_)
    refine rr_iret pf_172_20 pt_172 ⟨_, M0, rfl, rfl, q0, (by rw [cnt_rf (by omega)]; have z := hrfc (u - 8).toNat (by omega); rw [← hx15] at z; rw [z]; congr 1; split <;> split <;> omega)⟩
theorem ct_S_drawn {xs : Nat → Int} {L d : Nat} {sh : List (Nat × Nat)} {M0 : Nat → Nat → Int} (hd : 9 ≤ d) (hW : px_W0 <+: sh) (hF : px_Fx M0) (hG : px_RG sh M0)  {dl : Int} {f : Nat → Int} (hy0 : (M0 0 14 = 0 ∧ dl = -1) ∨ (M0 0 14 = 1 ∧ dl = rc M0 14 1 ∧ 0 ≤ dl ∧ dl ≤ 6)) (hy9 : dl ≠ -1 → ∀ j, j < 48 → rc M0 14 (9 + j) = f (9 + j)) (hy63 : dl ≠ -1 → ∀ j, j < 6 → rc M0 14 (63 + j) = f (63 + j)) {k u : Int} (hk0 : rg k) (hu0 : rg u) : ∃ v M, (px_qk sh [] M0 M ∧ (v = sp_drw dl f k u)) ∧ px_Cl xs L d 169 [.ref 0, .int (iI (k)), .int (iI (u))] (sh, M0) (some (.int (iI v))) (sh, M) := by
  obtain ⟨d, rfl⟩ : ∃ e, d = e + 1 := ⟨d - 1, by omega⟩
  have q0 : px_qk sh [] M0 M0 := ⟨hF, hG, eo_rf⟩
  refine vc_i (Nat.le_of_ble_eq_true rfl) ?_
  show px_R xs L d 169 (0, [.ref 0, .int (iI (k)), .int (iI (u))], [], (sh, M0)) (fun r h' => ∃ v M', r = some (.int (iI v)) ∧ h' = (sh, M') ∧ px_qk sh [] M0 M' ∧ v = sp_drw dl f k u)
  refine rr_aload_n pf_169_0 rfl ?_
  refine vr_getZ q0 pf_169_1 po_169 pg_8_87 rfl (ws_0 hW) (by decide) (fun x1 hx1 rx1 => ?_)
  refine rr_if_ne 9 pf_169_4 (by decide) rx1 (fun c2 => ?_) (fun c2 => ?_)
  · have hy9 := hy9 (by omega)
    have hy63 := hy63 (by omega)
    have hyl : dl = rc M0 14 1 ∧ 0 ≤ dl ∧ dl ≤ 6 := by omega
    refine rr_iload_n pf_169_9 rfl ?_
    refine rr_cS1 pf_169_10 po_169 pc_8_91 (by decide) rfl (ct_S_isHue (by omega) hu0) ?_
    refine rr_ifb_eq 40 pf_169_13 (by decide) (fun c3 => ?_) (fun c3 => ?_)
    · refine rr_iload_n pf_169_40 rfl ?_
      refine rr_iconst pf_169_41 ?_
      refine rr_icmp_ne 71 pf_169_42 (by decide) hu0 (by unfold rg; omega) (fun c4 => ?_) (fun c4 => ?_)
      · refine rr_iconst pf_169_71 ?_
        refine rr_iret pf_169_72 pt_169 ⟨_, M0, rfl, rfl, q0, (by unfold sp_drw; rw [if_neg (by intro z; obtain ⟨z1, z2, z3, z4⟩ := z; split at z4 <;> omega)])⟩
      · refine rr_aload_n pf_169_45 rfl ?_
        refine rr_getR pf_169_46 po_169 pg_8_25 rfl (ws_0 hW) (by decide) (wr_0_2 q0.1) ?_
        refine rr_iload_n pf_169_49 rfl ?_
        refine rr_cV1 pf_169_50 po_169 pc_8_164 (ws_14 hW) po_40 (by decide) rfl (ct_Church_isListenerN (xs := xs) (L := L) (d := d) (cb := 14) (v := k) (n := dl) (by omega) hW q0.1 q0.2.1 (show px_ch 14 by unfold px_ch; decide) hk0 hyl.1.symm hyl.2.1) ?_
        refine rr_ifb_eq 71 pf_169_53 (by decide) (fun c5 => ?_) (fun c5 => ?_)
        · refine rr_iconst pf_169_71 ?_
          refine rr_iret pf_169_72 pt_169 ⟨_, M0, rfl, rfl, q0, (by unfold sp_drw; rw [if_neg (by intro z; obtain ⟨z1, z2, z3, z4⟩ := z; split at z4 <;> omega)])⟩
        · refine rr_aload_n pf_169_56 rfl ?_
          refine rr_getR pf_169_57 po_169 pg_8_25 rfl (ws_0 hW) (by decide) (wr_0_2 q0.1) ?_
          refine rr_getR pf_169_60 po_169 pg_8_131 rfl (ws_14 hW) (by decide) (wr_14_0 q0.1) ?_
          refine rr_getR pf_169_63 po_169 pg_8_161 rfl (ws_15 hW) (by decide) (wr_15_1 q0.1) ?_
          refine rr_iload_n pf_169_66 rfl ?_
          refine vr_iald (j := k.toNat) q0 pf_169_67 (ws_17 hW) (by omega) (by omega) (by decide) (fun x6 hx6 rx6 => ?_)
          rw [show M0 17 k.toNat = rc M0 14 (63 + k.toNat) from (rc_spir (cb := 14) (by omega)).symm] at hx6
          refine rr_goto 72 pf_169_68 (by decide) ?_
          refine rr_iret pf_169_72 pt_169 ⟨_, M0, rfl, rfl, q0, (by unfold sp_drw; rw [if_pos (by refine ⟨by omega, by omega, by omega, ?_⟩; split <;> omega), if_neg (by omega), ← hy63 _ (by omega)]; omega)⟩
    · refine rr_iload_n pf_169_16 rfl ?_
      refine rr_cS1 pf_169_17 po_169 pc_8_128 (by decide) rfl (ct_S_isPane (by omega) hk0) ?_
      refine rr_ifb_eq 38 pf_169_20 (by decide) (fun c7 => ?_) (fun c7 => ?_)
      · refine rr_iconst pf_169_38 ?_
        refine rr_iret pf_169_39 pt_169 ⟨_, M0, rfl, rfl, q0, (by unfold sp_drw; rw [if_neg (by intro z; obtain ⟨z1, z2, z3, z4⟩ := z; split at z4 <;> omega)])⟩
      · refine rr_aload_n pf_169_23 rfl ?_
        refine rr_getR pf_169_24 po_169 pg_8_25 rfl (ws_0 hW) (by decide) (wr_0_2 q0.1) ?_
        refine rr_getR pf_169_27 po_169 pg_8_131 rfl (ws_14 hW) (by decide) (wr_14_0 q0.1) ?_
        refine rr_iload_n pf_169_30 rfl ?_
        refine rr_iload_n pf_169_31 rfl ?_
        have hz8 := ct_Nave_hueOf (xs := xs) (L := L) (d := d) (nb := 15) (p := k) (h := u) (by omega) hW q0.1 q0.2.1 (show px_nv 15 by unfold px_nv; decide) (by omega) (by omega)
        rw [show M0 (15 + 1) (k * 3 + u).toNat = rc M0 14 (9 + (k * 3 + u).toNat) from (rc_hue (cb := 14) (by omega)).symm] at hz8
        refine rr_cV2 pf_169_32 po_169 pc_8_135 (ws_15 hW) po_32 (by decide) rfl hz8 ?_
        refine rr_goto 39 pf_169_35 (by decide) ?_
        refine rr_iret pf_169_39 pt_169 ⟨_, M0, rfl, rfl, q0, (by unfold sp_drw; rw [if_pos (by refine ⟨by omega, by omega, by omega, ?_⟩; split <;> omega), if_pos (by omega), ← hy9 _ (by omega)]; congr 1; omega)⟩
  · refine rr_iconst pf_169_7 ?_
    refine rr_iret pf_169_8 pt_169 ⟨_, M0, rfl, rfl, q0, (by unfold sp_drw; rw [if_neg (by omega)])⟩
theorem ct_S_append {xs : Nat → Int} {L d : Nat} {sh : List (Nat × Nat)} {M0 : Nat → Nat → Int} (hd : 1 ≤ d) (hW : px_W0 <+: sh) (hF : px_Fx M0) (hG : px_RG sh M0)  {tn : Nat} (h11 : M0 0 11 = ((tn : Nat) : Int)) (htn : tn + 4 ≤ 400) {a : Int} (ha0 : rg a) : ∃ M, (px_qk sh [0, 199] M0 M ∧ (M 199 = tp4 tn (M0 199) a) ∧ (M 0 11 = ((tn + 4 : Nat) : Int)) ∧ (fk 0 [11] M0 M)) ∧ px_Cl xs L d 49 [.ref 0, .int (iI (a))] (sh, M0) (none) (sh, M) := by
  obtain ⟨d, rfl⟩ : ∃ e, d = e + 1 := ⟨d - 1, by omega⟩
  have q0 : px_qk sh [0, 199] M0 M0 := ⟨hF, hG, eo_rf⟩
  refine vc_n (Nat.le_of_ble_eq_true rfl) ?_
  show px_R xs L d 49 (0, [.ref 0, .int (iI (a)), px_jk], [], (sh, M0)) (fun r h' => r = none ∧ ∃ M', h' = (sh, M') ∧ px_qk sh [0, 199] M0 M' ∧ M' 199 = tp4 tn (M0 199) a ∧ M' 0 11 = ((tn + 4 : Nat) : Int) ∧ fk 0 [11] M0 M')
  refine rr_bipush pf_49_0 (by decide) ?_
  refine rr_istore_n pf_49_2 (fun y => [.ref 0, .int (iI (a)), .int (iI (y))]) (Nat.le_of_ble_eq_true rfl) (fun _ => rfl) (fun y1 hy1 => ?_)
  refine rr_iload_n pf_49_3 rfl ?_
  refine rr_if_lt 49 pf_49_4 (by decide) (by unfold rg; omega) (fun c2 => ?_) (fun c2 => ?_)
  · exfalso; omega
  · refine rr_aload_n pf_49_7 rfl ?_
    refine vr_getI q0 pf_49_8 po_49 pg_8_77 rfl (ws_0 hW) (by decide) (fun x3 hx3 rx3 => ?_)
    rw [h11] at hx3
    refine rr_sipush pf_49_11 (by decide) ?_
    refine rr_icmp_ge 49 pf_49_14 (by decide) rx3 (by unfold rg; omega) (fun c4 => ?_) (fun c4 => ?_)
    · exfalso; omega
    · refine rr_aload_n pf_49_17 rfl ?_
      refine rr_getR pf_49_18 po_49 pg_8_61 rfl (ws_0 hW) (by decide) (wr_0_8 q0.1) ?_
      refine rr_aload_n pf_49_21 rfl ?_
      refine vr_getI q0 pf_49_22 po_49 pg_8_77 rfl (ws_0 hW) (by decide) (fun x5 hx5 rx5 => ?_)
      rw [h11] at hx5
      refine rr_iload_n pf_49_25 rfl ?_
      refine rr_iload_n pf_49_26 rfl ?_
      refine rr_iushr (a % 4294967296 / 2 ^ 24) pf_49_27 (by rw [show y1 = ((24 : Nat) : Int) by omega]; exact iI_ushr (by decide)) ?_
      refine rr_sipush pf_49_28 (by decide) ?_
      refine rr_iand (a / 2 ^ 24 % 256) pf_49_31 (by rw [← byu _ _ (by omega)]; exact iI_m255) ?_
      refine vr_iast (j := tn + 0) hW q0 pf_49_32 (ws_199 hW) (by omega) (by omega) (by decide) (by unfold rg; omega) (by decide) (fun M6 eM6 q7 => ?_)
      have rq8 := fk_ne (fk_rf 0 [11] M0) eM6 (by decide)
      refine rr_aload_n pf_49_33 rfl ?_
      refine rr_dup pf_49_34 rfl ?_
      refine vr_getI q7 pf_49_35 po_49 pg_8_77 rfl (ws_0 hW) (by decide) (fun x9 hx9 rx9 => ?_)
      rw [eM6, ask_ne (by decide), h11] at hx9
      refine rr_iconst pf_49_38 ?_
      refine rr_iadd pf_49_39 ?_
      refine vr_putI hW q7 pf_49_40 po_49 pg_8_77 (Or.inl rfl) rfl (ws_0 hW) (by decide) (by unfold rg; omega) (by decide) (fun M10 eM10 q11 => ?_)
      have rq12 := fk_up rq8 eM10 (by decide)
      refine rr_iinc pf_49_43 rfl (fun y => [.ref 0, .int (iI (a)), .int (iI (y))]) (fun _ => rfl) (fun y13 hy13 => ?_)
      refine rr_goto 3 pf_49_46 (by decide) ?_
      refine rr_iload_n pf_49_3 rfl ?_
      refine rr_if_lt 49 pf_49_4 (by decide) (by unfold rg; omega) (fun c14 => ?_) (fun c14 => ?_)
      · exfalso; omega
      · refine rr_aload_n pf_49_7 rfl ?_
        refine vr_getI q11 pf_49_8 po_49 pg_8_77 rfl (ws_0 hW) (by decide) (fun x15 hx15 rx15 => ?_)
        rw [eM10, up_s] at hx15
        refine rr_sipush pf_49_11 (by decide) ?_
        refine rr_icmp_ge 49 pf_49_14 (by decide) rx15 (by unfold rg; omega) (fun c16 => ?_) (fun c16 => ?_)
        · exfalso; omega
        · refine rr_aload_n pf_49_17 rfl ?_
          refine rr_getR pf_49_18 po_49 pg_8_61 rfl (ws_0 hW) (by decide) (wr_0_8 q11.1) ?_
          refine rr_aload_n pf_49_21 rfl ?_
          refine vr_getI q11 pf_49_22 po_49 pg_8_77 rfl (ws_0 hW) (by decide) (fun x17 hx17 rx17 => ?_)
          rw [eM10, up_s] at hx17
          refine rr_iload_n pf_49_25 rfl ?_
          refine rr_iload_n pf_49_26 rfl ?_
          refine rr_iushr (a % 4294967296 / 2 ^ 16) pf_49_27 (by rw [show y13 = ((16 : Nat) : Int) by omega]; exact iI_ushr (by decide)) ?_
          refine rr_sipush pf_49_28 (by decide) ?_
          refine rr_iand (a / 2 ^ 16 % 256) pf_49_31 (by rw [← byu _ _ (by omega)]; exact iI_m255) ?_
          refine vr_iast (j := tn + 1) hW q11 pf_49_32 (ws_199 hW) (by omega) (by omega) (by decide) (by unfold rg; omega) (by decide) (fun M18 eM18 q19 => ?_)
          have rq20 := fk_ne rq12 eM18 (by decide)
          refine rr_aload_n pf_49_33 rfl ?_
          refine rr_dup pf_49_34 rfl ?_
          refine vr_getI q19 pf_49_35 po_49 pg_8_77 rfl (ws_0 hW) (by decide) (fun x21 hx21 rx21 => ?_)
          rw [eM18, ask_ne (by decide), eM10, up_s] at hx21
          refine rr_iconst pf_49_38 ?_
          refine rr_iadd pf_49_39 ?_
          refine vr_putI hW q19 pf_49_40 po_49 pg_8_77 (Or.inl rfl) rfl (ws_0 hW) (by decide) (by unfold rg; omega) (by decide) (fun M22 eM22 q23 => ?_)
          have rq24 := fk_up rq20 eM22 (by decide)
          refine rr_iinc pf_49_43 rfl (fun y => [.ref 0, .int (iI (a)), .int (iI (y))]) (fun _ => rfl) (fun y25 hy25 => ?_)
          refine rr_goto 3 pf_49_46 (by decide) ?_
          refine rr_iload_n pf_49_3 rfl ?_
          refine rr_if_lt 49 pf_49_4 (by decide) (by unfold rg; omega) (fun c26 => ?_) (fun c26 => ?_)
          · exfalso; omega
          · refine rr_aload_n pf_49_7 rfl ?_
            refine vr_getI q23 pf_49_8 po_49 pg_8_77 rfl (ws_0 hW) (by decide) (fun x27 hx27 rx27 => ?_)
            rw [eM22, up_s] at hx27
            refine rr_sipush pf_49_11 (by decide) ?_
            refine rr_icmp_ge 49 pf_49_14 (by decide) rx27 (by unfold rg; omega) (fun c28 => ?_) (fun c28 => ?_)
            · exfalso; omega
            · refine rr_aload_n pf_49_17 rfl ?_
              refine rr_getR pf_49_18 po_49 pg_8_61 rfl (ws_0 hW) (by decide) (wr_0_8 q23.1) ?_
              refine rr_aload_n pf_49_21 rfl ?_
              refine vr_getI q23 pf_49_22 po_49 pg_8_77 rfl (ws_0 hW) (by decide) (fun x29 hx29 rx29 => ?_)
              rw [eM22, up_s] at hx29
              refine rr_iload_n pf_49_25 rfl ?_
              refine rr_iload_n pf_49_26 rfl ?_
              refine rr_iushr (a % 4294967296 / 2 ^ 8) pf_49_27 (by rw [show y25 = ((8 : Nat) : Int) by omega]; exact iI_ushr (by decide)) ?_
              refine rr_sipush pf_49_28 (by decide) ?_
              refine rr_iand (a / 2 ^ 8 % 256) pf_49_31 (by rw [← byu _ _ (by omega)]; exact iI_m255) ?_
              refine vr_iast (j := tn + 2) hW q23 pf_49_32 (ws_199 hW) (by omega) (by omega) (by decide) (by unfold rg; omega) (by decide) (fun M30 eM30 q31 => ?_)
              have rq32 := fk_ne rq24 eM30 (by decide)
              refine rr_aload_n pf_49_33 rfl ?_
              refine rr_dup pf_49_34 rfl ?_
              refine vr_getI q31 pf_49_35 po_49 pg_8_77 rfl (ws_0 hW) (by decide) (fun x33 hx33 rx33 => ?_)
              rw [eM30, ask_ne (by decide), eM22, up_s] at hx33
              refine rr_iconst pf_49_38 ?_
              refine rr_iadd pf_49_39 ?_
              refine vr_putI hW q31 pf_49_40 po_49 pg_8_77 (Or.inl rfl) rfl (ws_0 hW) (by decide) (by unfold rg; omega) (by decide) (fun M34 eM34 q35 => ?_)
              have rq36 := fk_up rq32 eM34 (by decide)
              refine rr_iinc pf_49_43 rfl (fun y => [.ref 0, .int (iI (a)), .int (iI (y))]) (fun _ => rfl) (fun y37 hy37 => ?_)
              refine rr_goto 3 pf_49_46 (by decide) ?_
              refine rr_iload_n pf_49_3 rfl ?_
              refine rr_if_lt 49 pf_49_4 (by decide) (by unfold rg; omega) (fun c38 => ?_) (fun c38 => ?_)
              · exfalso; omega
              · refine rr_aload_n pf_49_7 rfl ?_
                refine vr_getI q35 pf_49_8 po_49 pg_8_77 rfl (ws_0 hW) (by decide) (fun x39 hx39 rx39 => ?_)
                rw [eM34, up_s] at hx39
                refine rr_sipush pf_49_11 (by decide) ?_
                refine rr_icmp_ge 49 pf_49_14 (by decide) rx39 (by unfold rg; omega) (fun c40 => ?_) (fun c40 => ?_)
                · exfalso; omega
                · refine rr_aload_n pf_49_17 rfl ?_
                  refine rr_getR pf_49_18 po_49 pg_8_61 rfl (ws_0 hW) (by decide) (wr_0_8 q35.1) ?_
                  refine rr_aload_n pf_49_21 rfl ?_
                  refine vr_getI q35 pf_49_22 po_49 pg_8_77 rfl (ws_0 hW) (by decide) (fun x41 hx41 rx41 => ?_)
                  rw [eM34, up_s] at hx41
                  refine rr_iload_n pf_49_25 rfl ?_
                  refine rr_iload_n pf_49_26 rfl ?_
                  refine rr_iushr (a % 4294967296 / 2 ^ 0) pf_49_27 (by rw [show y37 = ((0 : Nat) : Int) by omega]; exact iI_ushr (by decide)) ?_
                  refine rr_sipush pf_49_28 (by decide) ?_
                  refine rr_iand (a / 2 ^ 0 % 256) pf_49_31 (by rw [← byu _ _ (by omega)]; exact iI_m255) ?_
                  refine vr_iast (j := tn + 3) hW q35 pf_49_32 (ws_199 hW) (by omega) (by omega) (by decide) (by unfold rg; omega) (by decide) (fun M42 eM42 q43 => ?_)
                  have rq44 := fk_ne rq36 eM42 (by decide)
                  refine rr_aload_n pf_49_33 rfl ?_
                  refine rr_dup pf_49_34 rfl ?_
                  refine vr_getI q43 pf_49_35 po_49 pg_8_77 rfl (ws_0 hW) (by decide) (fun x45 hx45 rx45 => ?_)
                  rw [eM42, ask_ne (by decide), eM34, up_s] at hx45
                  refine rr_iconst pf_49_38 ?_
                  refine rr_iadd pf_49_39 ?_
                  refine vr_putI hW q43 pf_49_40 po_49 pg_8_77 (Or.inl rfl) rfl (ws_0 hW) (by decide) (by unfold rg; omega) (by decide) (fun M46 eM46 q47 => ?_)
                  have rq48 := fk_up rq44 eM46 (by decide)
                  refine rr_iinc pf_49_43 rfl (fun y => [.ref 0, .int (iI (a)), .int (iI (y))]) (fun _ => rfl) (fun y49 hy49 => ?_)
                  refine rr_goto 3 pf_49_46 (by decide) ?_
                  refine rr_iload_n pf_49_3 rfl ?_
                  refine rr_if_lt 49 pf_49_4 (by decide) (by unfold rg; omega) (fun c50 => ?_) (fun c50 => ?_)
                  · refine rr_vret pf_49_49 pt_49 ⟨rfl, M46, rfl, q47, by
                      funext j
                      unfold tp4
                      rw [eM46, ask_ne (by decide), eM42, ask_up, eM34, ask_ne (by decide), eM30, ask_up, eM22, ask_ne (by decide), eM18, ask_up, eM10, ask_ne (by decide), eM6, ask_up]
                      by_cases h3 : j = tn + 3
                      · rw [if_pos (by omega), if_pos (by omega), h3, show tn + 3 - tn = 3 by omega]; rfl
                      · rw [if_neg (by omega)]; by_cases h2 : j = tn + 2
                        · rw [if_pos (by omega), if_pos (by omega), h2, show tn + 2 - tn = 2 by omega]; rfl
                        · rw [if_neg (by omega)]; by_cases h1 : j = tn + 1
                          · rw [if_pos (by omega), if_pos (by omega), h1, show tn + 1 - tn = 1 by omega]; rfl
                          · rw [if_neg (by omega)]; by_cases h0 : j = tn
                            · rw [if_pos (by omega), if_pos (by omega), h0, show tn - tn = 0 by omega]; rfl
                            · rw [if_neg (by omega), if_neg (by omega)], by rw [eM46, up_s]; omega, rq48⟩
                  · exfalso; omega
theorem ct_S_feed {xs : Nat → Int} {L d : Nat} {sh : List (Nat × Nat)} {M0 : Nat → Nat → Int} (hd : 2 ≤ d) (hW : px_W0 <+: sh) (hF : px_Fx M0) (hG : px_RG sh M0)  {tn : Nat} (h11 : M0 0 11 = ((tn : Nat) : Int)) (htn : tn ≤ 400) {a b c e f : Int} (ha0 : rg a) (hb0 : rg b) (hc0 : rg c) (he0 : rg e) (hf0 : rg f) : ∃ v M, (px_qk sh [0, 199] M0 M ∧ (v = if tn + 20 ≤ 400 then ((tn + 20 : Nat) : Int) else -1) ∧ (M 199 = if tn + 20 ≤ 400 then tp20 tn (M0 199) a b c e f else M0 199) ∧ (M 0 11 = if tn + 20 ≤ 400 then ((tn + 20 : Nat) : Int) else ((tn : Nat) : Int)) ∧ (fk 0 [11] M0 M)) ∧ px_Cl xs L d 48 [.ref 0, .int (iI (a)), .int (iI (b)), .int (iI (c)), .int (iI (e)), .int (iI (f))] (sh, M0) (some (.int (iI v))) (sh, M) := by
  obtain ⟨d, rfl⟩ : ∃ e, d = e + 1 := ⟨d - 1, by omega⟩
  have q0 : px_qk sh [0, 199] M0 M0 := ⟨hF, hG, eo_rf⟩
  refine vc_i (Nat.le_of_ble_eq_true rfl) ?_
  show px_R xs L d 48 (0, [.ref 0, .int (iI (a)), .int (iI (b)), .int (iI (c)), .int (iI (e)), .int (iI (f))], [], (sh, M0)) (fun r h' => ∃ v M', r = some (.int (iI v)) ∧ h' = (sh, M') ∧ px_qk sh [0, 199] M0 M' ∧ (v = if tn + 20 ≤ 400 then ((tn + 20 : Nat) : Int) else -1) ∧ (M' 199 = if tn + 20 ≤ 400 then tp20 tn (M0 199) a b c e f else M0 199) ∧ (M' 0 11 = if tn + 20 ≤ 400 then ((tn + 20 : Nat) : Int) else ((tn : Nat) : Int)) ∧ fk 0 [11] M0 M')
  refine rr_aload_n pf_48_0 rfl ?_
  refine vr_getI q0 pf_48_1 po_48 pg_8_77 rfl (ws_0 hW) (by decide) (fun x1 hx1 rx1 => ?_)
  rw [h11] at hx1
  refine rr_bipush pf_48_4 (by decide) ?_
  refine rr_iadd pf_48_6 ?_
  refine rr_sipush pf_48_7 (by decide) ?_
  refine rr_icmp_le 15 pf_48_10 (by decide) (by unfold rg; omega) (by unfold rg; omega) (fun c2 => ?_) (fun c2 => ?_)
  · refine rr_aload_n pf_48_15 rfl ?_
    refine rr_iload_n pf_48_16 rfl ?_
    obtain ⟨M3, ⟨kq4, pt_M3, p11_M3, pf_M3⟩, hcM3⟩ := ct_S_append (xs := xs) (L := L) (d := d) (a := a) (tn := tn) (by omega) hW q0.1 q0.2.1 h11 (by omega) ha0
    have q4 := qk_trm q0 kq4 (by decide)
    have rq6 := fk_tr (fk_rf 0 [11] M0) pf_M3 (by decide)
    refine rr_cV1 pf_48_17 po_48 pc_8_192 (ws_0 hW) po_49 (by decide) rfl hcM3 ?_
    
    refine rr_aload_n pf_48_20 rfl ?_
    refine rr_iload_n pf_48_21 rfl ?_
    obtain ⟨M7, ⟨kq8, pt_M7, p11_M7, pf_M7⟩, hcM7⟩ := ct_S_append (xs := xs) (L := L) (d := d) (a := b) (tn := tn + 4) (by omega) hW q4.1 q4.2.1 p11_M3 (by omega) hb0
    have q8 := qk_trm q4 kq8 (by decide)
    have rq10 := fk_tr rq6 pf_M7 (by decide)
    refine rr_cV1 pf_48_22 po_48 pc_8_192 (ws_0 hW) po_49 (by decide) rfl hcM7 ?_
    
    refine rr_aload_n pf_48_25 rfl ?_
    refine rr_iload_n pf_48_26 rfl ?_
    obtain ⟨M11, ⟨kq12, pt_M11, p11_M11, pf_M11⟩, hcM11⟩ := ct_S_append (xs := xs) (L := L) (d := d) (a := c) (tn := tn + 4 + 4) (by omega) hW q8.1 q8.2.1 p11_M7 (by omega) hc0
    have q12 := qk_trm q8 kq12 (by decide)
    have rq14 := fk_tr rq10 pf_M11 (by decide)
    refine rr_cV1 pf_48_27 po_48 pc_8_192 (ws_0 hW) po_49 (by decide) rfl hcM11 ?_
    
    refine rr_aload_n pf_48_30 rfl ?_
    refine rr_iload pf_48_31 rfl ?_
    obtain ⟨M15, ⟨kq16, pt_M15, p11_M15, pf_M15⟩, hcM15⟩ := ct_S_append (xs := xs) (L := L) (d := d) (a := e) (tn := tn + 4 + 4 + 4) (by omega) hW q12.1 q12.2.1 p11_M11 (by omega) he0
    have q16 := qk_trm q12 kq16 (by decide)
    have rq18 := fk_tr rq14 pf_M15 (by decide)
    refine rr_cV1 pf_48_33 po_48 pc_8_192 (ws_0 hW) po_49 (by decide) rfl hcM15 ?_
    
    refine rr_aload_n pf_48_36 rfl ?_
    refine rr_iload pf_48_37 rfl ?_
    obtain ⟨M19, ⟨kq20, pt_M19, p11_M19, pf_M19⟩, hcM19⟩ := ct_S_append (xs := xs) (L := L) (d := d) (a := f) (tn := tn + 4 + 4 + 4 + 4) (by omega) hW q16.1 q16.2.1 p11_M15 (by omega) hf0
    have q20 := qk_trm q16 kq20 (by decide)
    have rq22 := fk_tr rq18 pf_M19 (by decide)
    refine rr_cV1 pf_48_39 po_48 pc_8_192 (ws_0 hW) po_49 (by decide) rfl hcM19 ?_
    
    refine rr_aload_n pf_48_42 rfl ?_
    refine vr_getI q20 pf_48_43 po_48 pg_8_77 rfl (ws_0 hW) (by decide) (fun x23 hx23 rx23 => ?_)
    rw [p11_M19] at hx23
    refine rr_iret pf_48_46 pt_48 ⟨_, M19, rfl, rfl, q20, (by rw [if_pos (by omega)]; omega), (by rw [if_pos (by omega)]; unfold tp20; rw [pt_M19, pt_M15, pt_M11, pt_M7, pt_M3]), (by rw [if_pos (by omega), p11_M19]), (rq22)⟩
  · refine rr_iconst pf_48_13 ?_
    refine rr_iret pf_48_14 pt_48 ⟨_, M0, rfl, rfl, q0, (by rw [if_neg (by omega)]), (by rw [if_neg (by omega)]), (by rw [if_neg (by omega)]; exact h11), ((fk_rf 0 [11] M0))⟩
