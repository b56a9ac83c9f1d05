/-! the reference: more calls that change -/
theorem bI_cs (c : Prop) [Decidable c] : (bI c = 1 ∧ c) ∨ (bI c = 0 ∧ ¬ c) := by
  by_cases h : c
  · exact Or.inl ⟨bI_t h, h⟩
  · exact Or.inr ⟨bI_f h, h⟩
theorem ct_R_change2 {xs : Nat → Int} {L d : Nat} {sh : List (Nat × Nat)} {M0 : Nat → Nat → Int} (hd : 1 ≤ d) (hW : px_W0 <+: sh) (hF : px_Fx M0) (hG : px_RG sh M0)  {a_ : Nat} (ha : a_ < 109) {x : Int} (hx : rg x) : ∃ v M, (px_qk sh [228, 230] M0 M ∧ (v = rr_ M0 a_) ∧ (rr_ M = rup (rr_ M0) a_ x) ∧ (r9 M0 M) ∧ (M 228 = px_up M0 228 1 0 228)) ∧ px_Cl xs L d 212 [.ref 228, .int (iI (((a_ : Nat) : Int))), .int (iI (x))] (sh, M0) (some (.int (iI v))) (sh, M) := by
  obtain ⟨d, rfl⟩ : ∃ e, d = e + 1 := ⟨d - 1, by omega⟩
  have q0 : px_qk sh [228, 230] M0 M0 := ⟨hF, hG, eo_rf⟩
  refine vc_i (Nat.le_of_ble_eq_true rfl) ?_
  show px_R xs L d 212 (0, [.ref 228, .int (iI (((a_ : Nat) : Int))), .int (iI (x)), px_jk], [], (sh, M0)) (fun r h' => ∃ v M', r = some (.int (iI v)) ∧ h' = (sh, M') ∧ px_qk sh [228, 230] M0 M' ∧ v = rr_ M0 a_ ∧ rr_ M' = rup (rr_ M0) a_ x ∧ r9 M0 M' ∧ M' 228 = px_up M0 228 1 0 228)
  refine rr_aload_n pf_212_0 rfl ?_
  refine rr_getR pf_212_1 po_212 pg_9_13 rfl (ws_228 hW) (by decide) (wr_228_3 q0.1) ?_
  refine rr_iload_n pf_212_4 rfl ?_
  refine vr_iald (j := a_) q0 pf_212_5 (ws_230 hW) (by omega) (by omega) (by decide) (fun x1 hx1 rx1 => ?_)
  refine rr_istore_n pf_212_6 (fun y => [.ref 228, .int (iI (((a_ : Nat) : Int))), .int (iI (x)), .int (iI (y))]) (Nat.le_of_ble_eq_true rfl) (fun _ => rfl) (fun y2 hy2 => ?_)
  have ry2 : rg y2 := hy2 ▸ rx1
  refine rr_aload_n pf_212_7 rfl ?_
  refine rr_getR pf_212_8 po_212 pg_9_13 rfl (ws_228 hW) (by decide) (wr_228_3 q0.1) ?_
  refine rr_iload_n pf_212_11 rfl ?_
  refine rr_iload_n pf_212_12 rfl ?_
  refine vr_iast (j := a_) hW q0 pf_212_13 (ws_230 hW) (by omega) (by omega) (by decide) hx (by decide) (fun M3 eM3 q4 => ?_)
  have row5 := rr_w (rfl : rr_ M0 = rr_ M0) eM3 (by omega)
  have ninerow5 := r9_up (r9_rf M0) eM3 (by omega)
  refine rr_aload_n pf_212_14 rfl ?_
  refine rr_iconst pf_212_15 ?_
  refine vr_putI hW q4 pf_212_16 po_212 pg_9_180 (Or.inl rfl) rfl (ws_228 hW) (by decide) (by unfold rg; omega) (by decide) (fun M6 eM6 q7 => ?_)
  have row8 := (rr_eq (M := M3) (M2 := M6) (by rw [eM6, ask_ne (by decide)])).trans row5
  have ninerow8 := r9_tr ninerow5 (r9_eq (M := M3) (M2 := M6) (by rw [eM6, ask_ne (by decide)]))
  refine rr_iload_n pf_212_19 rfl ?_
  refine rr_iret pf_212_20 pt_212 ⟨_, M6, rfl, rfl, q7, (by rw [← rr_at ha]; omega), (row8), (ninerow8), (by rw [eM6, up_self, up_self, eM3, ask_ne (by decide)])⟩
def sp_terC (w v : Int) : Prop := (w = 0 ∧ 0 ≤ v ∧ v ≤ 999) ∨ (w = 1 ∧ 0 ≤ v ∧ v ≤ 10) ∨ (w = 2 ∧ 0 ≤ v ∧ v ≤ 9)
noncomputable def sp_terV (ρ : Nat → Int) (w v : Int) : Int := if 0 ≤ w ∧ w ≤ 2 ∧ 0 ≤ v ∧ v ≤ (if w = 0 then 999 else if w = 1 then 10 else 9) then ρ (5 + w.toNat) else -1
noncomputable def sp_terR (ρ : Nat → Int) (w v : Int) : Nat → Int := if 0 ≤ sp_terV ρ w v then rup ρ (5 + w.toNat) v else ρ
theorem ct_R_terms {xs : Nat → Int} {L d : Nat} {sh : List (Nat × Nat)} {M0 : Nat → Nat → Int} (hd : 14 ≤ d) (hW : px_W0 <+: sh) (hF : px_Fx M0) (hG : px_RG sh M0)  (hρ : sp_ok (rr_ M0)) (hrf : ∀ j, j < 7 → 0 ≤ M0 229 j ∧ M0 229 j ≤ 1000000000) {w u : Int} (hw0 : rg w) (hu0 : rg u) : ∃ v M, (px_qk sh [228, 229, 230] M0 M ∧ (v = sp_terV (rr_ M0) w u) ∧ (rr_ M = sp_terR (rr_ M0) w u) ∧ (r9 M0 M) ∧ (M 228 1 = if v < 0 then v else 0) ∧ (M 229 = bmp (M0 229) v) ∧ (M 228 8 = if v < 0 then M0 228 8 else 0) ∧ (rz [1, 8] M0 M)) ∧ px_Cl xs L d 211 [.ref 228, .int (iI (w)), .int (iI (u))] (sh, M0) (some (.int (iI v))) (sh, M) := by
  obtain ⟨d, rfl⟩ : ∃ e, d = e + 1 := ⟨d - 1, by omega⟩
  have q0 : px_qk sh [228, 229, 230] M0 M0 := ⟨hF, hG, eo_rf⟩
  refine vc_i (Nat.le_of_ble_eq_true rfl) ?_
  show px_R xs L d 211 (0, [.ref 228, .int (iI (w)), .int (iI (u)), px_jk], [], (sh, M0)) (fun r h' => ∃ v M', r = some (.int (iI v)) ∧ h' = (sh, M') ∧ px_qk sh [228, 229, 230] M0 M' ∧ v = sp_terV (rr_ M0) w u ∧ rr_ M' = sp_terR (rr_ M0) w u ∧ r9 M0 M' ∧ (M' 228 1 = if v < 0 then v else 0) ∧ M' 229 = bmp (M0 229) v ∧ (M' 228 8 = if v < 0 then M0 228 8 else 0) ∧ rz [1, 8] M0 M')
  refine rr_aload_n pf_211_0 rfl ?_
  refine rr_iconst pf_211_1 ?_
  refine vr_putI hW q0 pf_211_2 po_211 pg_9_177 (Or.inl rfl) rfl (ws_228 hW) (by decide) (by unfold rg; omega) (by decide) (fun M1 eM1 q2 => ?_)
  have rq3 := rz_up (rz_rf [1, 8] M0) eM1 (by decide)
  have row4 := (rr_eq (M := M0) (M2 := M1) (by rw [eM1, ask_ne (by decide)])).trans (rfl : rr_ M0 = rr_ M0)
  have ninerow4 := r9_tr (r9_rf M0) (r9_eq (M := M0) (M2 := M1) (by rw [eM1, ask_ne (by decide)]))
  have f5 : M1 228 8 = M0 228 8 := (show M1 228 8 = M0 228 8 by rw [eM1, up_ne (by decide)]).trans (rfl : M0 228 8 = M0 228 8)
  have e6 : M1 229 = M0 229 := (show M1 229 = M0 229 by rw [eM1, ask_ne (by decide)]).trans (rfl : M0 229 = M0 229)
  have e7 : M1 230 = M0 230 := (show M1 230 = M0 230 by rw [eM1, ask_ne (by decide)]).trans (rfl : M0 230 = M0 230)
  refine rr_iload_n pf_211_5 rfl ?_
  refine rr_if_ne 21 pf_211_6 (by decide) hw0 (fun c8 => ?_) (fun c8 => ?_)
  · refine rr_iload_n pf_211_21 rfl ?_
    refine rr_iconst pf_211_22 ?_
    refine rr_icmp_ne 38 pf_211_23 (by decide) hw0 (by unfold rg; omega) (fun c9 => ?_) (fun c9 => ?_)
    · refine rr_iload_n pf_211_38 rfl ?_
      refine rr_iconst pf_211_39 ?_
      refine rr_icmp_ne 59 pf_211_40 (by decide) hw0 (by unfold rg; omega) (fun c10 => ?_) (fun c10 => ?_)
      · refine rr_iconst pf_211_59 ?_
        refine rr_istore_n pf_211_60 (fun y => [.ref 228, .int (iI (w)), .int (iI (u)), .int (iI (y))]) (Nat.le_of_ble_eq_true rfl) (fun _ => rfl) (fun y11 hy11 => ?_)
        refine rr_iload_n pf_211_61 rfl ?_
        refine rr_if_ne 71 pf_211_62 (by decide) (by unfold rg; omega) (fun c12 => ?_) (fun c12 => ?_)
        · exfalso; omega
        · have hTC : ¬ (0 ≤ w ∧ w ≤ 2 ∧ 0 ≤ u ∧ u ≤ (if w = 0 then 999 else if w = 1 then 10 else 9)) := by
            intro z
            obtain ⟨z1, z2, z3, z4⟩ := z
            split at z4 <;> (try split at z4) <;> omega
          refine rr_aload_n pf_211_65 rfl ?_
          refine rr_iconst pf_211_66 ?_
          obtain ⟨M13, ⟨kq14, taM13, tbM13⟩, hcM13⟩ := ct_R_tell (xs := xs) (L := L) (d := d) (v := (-1)) (by omega) hW q2.1 q2.2.1 (by unfold rg; omega) (by omega) (by rw [e6]; exact hrf)
          have q14 := qk_trm q2 kq14 (by decide)
          have rq15 := rz_tell rq3 taM13 (by decide)
          have stM13 : M13 228 1 = if ((-1) : Int) < 0 then (-1) else 0 := by rw [taM13, up_s]
          have rfM13 : M13 229 = bmp (M0 229) (-1) := by rw [tbM13, e6]; rfl
          have n8M13 : M13 228 8 = M0 228 8 := by rw [taM13, up_ne (by decide)]; exact f5
          have row16 := (rr_eq (kq14.2.2 230 (by decide))).trans row4
          have ninerow16 := r9_tr ninerow4 (r9_eq (kq14.2.2 230 (by decide)))
          have e17 : M13 230 = M0 230 := (kq14.2.2 230 (by decide)).trans e7
          refine rr_cV1 pf_211_67 po_211 pc_9_186 (ws_228 hW) po_176 (by decide) rfl hcM13 ?_
          refine rr_iret pf_211_70 pt_211 ⟨_, M13, rfl, rfl, q14, (by unfold sp_terV; rw [if_neg hTC]), (by unfold sp_terR; rw [show sp_terV (rr_ M0) w u = -1 by unfold sp_terV; rw [if_neg hTC], if_neg (by omega)]; exact row16), (ninerow16), (stM13), (rfM13), (by rw [if_pos (by omega)]; exact n8M13), (rq15)⟩
      · refine rr_iload_n pf_211_43 rfl ?_
        refine rr_i2l pf_211_44 hu0 ?_
        refine rr_lconst (w := 0) pf_211_45 rfl ?_
        refine rr_ldc2_w pf_211_46 po_211 pl_9_214 ?_
        refine rr_cS3 pf_211_49 po_211 pc_9_197 (by decide) rfl (ct_R_in (by omega) (rl_rg hu0) (by unfold rl; omega) (by unfold rl; omega)) ?_
        refine rr_ifb_eq 59 pf_211_52 (by decide) (fun c18 => ?_) (fun c18 => ?_)
        · refine rr_iconst pf_211_59 ?_
          refine rr_istore_n pf_211_60 (fun y => [.ref 228, .int (iI (w)), .int (iI (u)), .int (iI (y))]) (Nat.le_of_ble_eq_true rfl) (fun _ => rfl) (fun y19 hy19 => ?_)
          refine rr_iload_n pf_211_61 rfl ?_
          refine rr_if_ne 71 pf_211_62 (by decide) (by unfold rg; omega) (fun c20 => ?_) (fun c20 => ?_)
          · exfalso; omega
          · have hTC : ¬ (0 ≤ w ∧ w ≤ 2 ∧ 0 ≤ u ∧ u ≤ (if w = 0 then 999 else if w = 1 then 10 else 9)) := by
              intro z
              obtain ⟨z1, z2, z3, z4⟩ := z
              split at z4 <;> (try split at z4) <;> omega
            refine rr_aload_n pf_211_65 rfl ?_
            refine rr_iconst pf_211_66 ?_
            obtain ⟨M21, ⟨kq22, taM21, tbM21⟩, hcM21⟩ := ct_R_tell (xs := xs) (L := L) (d := d) (v := (-1)) (by omega) hW q2.1 q2.2.1 (by unfold rg; omega) (by omega) (by rw [e6]; exact hrf)
            have q22 := qk_trm q2 kq22 (by decide)
            have rq23 := rz_tell rq3 taM21 (by decide)
            have stM21 : M21 228 1 = if ((-1) : Int) < 0 then (-1) else 0 := by rw [taM21, up_s]
            have rfM21 : M21 229 = bmp (M0 229) (-1) := by rw [tbM21, e6]; rfl
            have n8M21 : M21 228 8 = M0 228 8 := by rw [taM21, up_ne (by decide)]; exact f5
            have row24 := (rr_eq (kq22.2.2 230 (by decide))).trans row4
            have ninerow24 := r9_tr ninerow4 (r9_eq (kq22.2.2 230 (by decide)))
            have e25 : M21 230 = M0 230 := (kq22.2.2 230 (by decide)).trans e7
            refine rr_cV1 pf_211_67 po_211 pc_9_186 (ws_228 hW) po_176 (by decide) rfl hcM21 ?_
            refine rr_iret pf_211_70 pt_211 ⟨_, M21, rfl, rfl, q22, (by unfold sp_terV; rw [if_neg hTC]), (by unfold sp_terR; rw [show sp_terV (rr_ M0) w u = -1 by unfold sp_terV; rw [if_neg hTC], if_neg (by omega)]; exact row24), (ninerow24), (stM21), (rfM21), (by rw [if_pos (by omega)]; exact n8M21), (rq23)⟩
        · refine rr_iconst pf_211_55 ?_
          refine rr_goto 60 pf_211_56 (by decide) ?_
          refine rr_istore_n pf_211_60 (fun y => [.ref 228, .int (iI (w)), .int (iI (u)), .int (iI (y))]) (Nat.le_of_ble_eq_true rfl) (fun _ => rfl) (fun y26 hy26 => ?_)
          refine rr_iload_n pf_211_61 rfl ?_
          refine rr_if_ne 71 pf_211_62 (by decide) (by unfold rg; omega) (fun c27 => ?_) (fun c27 => ?_)
          · have hTC : (0 ≤ w ∧ w ≤ 2 ∧ 0 ≤ u ∧ u ≤ (if w = 0 then 999 else if w = 1 then 10 else 9)) := by
              refine ⟨by omega, by omega, by omega, ?_⟩
              split <;> (try split) <;> omega
            refine rr_aload_n pf_211_71 rfl ?_
            refine rr_iconst pf_211_72 ?_
            refine vr_putI hW q2 pf_211_73 po_211 pg_9_183 (Or.inl rfl) rfl (ws_228 hW) (by decide) (by unfold rg; omega) (by decide) (fun M28 eM28 q29 => ?_)
            have rq30 := rz_up rq3 eM28 (by decide)
            have row31 := (rr_eq (M := M1) (M2 := M28) (by rw [eM28, ask_ne (by decide)])).trans row4
            have ninerow31 := r9_tr ninerow4 (r9_eq (M := M1) (M2 := M28) (by rw [eM28, ask_ne (by decide)]))
            have e33 : M28 229 = M0 229 := (show M28 229 = M1 229 by rw [eM28, ask_ne (by decide)]).trans e6
            have e34 : M28 230 = M0 230 := (show M28 230 = M1 230 by rw [eM28, ask_ne (by decide)]).trans e7
            refine rr_aload_n pf_211_76 rfl ?_
            refine rr_iconst pf_211_77 ?_
            refine rr_iload_n pf_211_78 rfl ?_
            refine rr_iadd pf_211_79 ?_
            refine rr_iload_n pf_211_80 rfl ?_
            obtain ⟨rM35, M35, ⟨kq36, pvM35, prM35, p9M35, p8M35⟩, hcM35⟩ := ct_R_change2 (xs := xs) (L := L) (d := d) (a_ := 5 + w.toNat) (x := u) (by omega) hW q29.1 q29.2.1 (by omega) hu0
            rw [show ((5 + w.toNat : Nat) : Int) = 5 + w by omega] at hcM35
            have q36 := qk_trm q29 kq36 (by decide)
            rw [row31] at prM35 pvM35
            have nnM35 := r9_tr ninerow31 p9M35
            have rq37 := rz_tell rq30 p8M35 (by decide)
            have stM35 : M35 228 1 = 0 := by rw [p8M35, up_s]
            have rfM35 : M35 229 = M0 229 := (kq36.2.2 229 (by decide)).trans e33
            have n8M35 : M35 228 8 = M28 228 8 := by rw [p8M35, up_ne (by decide)]
            refine rr_cV2 pf_211_81 po_211 pc_9_261 (ws_228 hW) po_212 (by decide) rfl hcM35 ?_
            have hwk : w = 0 ∨ w = 1 ∨ w = 2 := by omega
            have hb5 : 0 ≤ rr_ M0 (5 + w.toNat) := by
              have h5 := hρ.2.2.2.2.2.1
              have h6 := hρ.2.2.2.2.2.2.1
              have h7 := hρ.2.2.2.2.2.2.2.1
              rcases hwk with rfl | rfl | rfl
              · exact h5.1
              · exact h6.1
              · exact h7.1
            refine rr_iret pf_211_84 pt_211 ⟨_, M35, rfl, rfl, q36, (by unfold sp_terV; rw [if_pos hTC]; exact pvM35), (by unfold sp_terR; rw [show sp_terV (rr_ M0) w u = rr_ M0 (5 + w.toNat) by unfold sp_terV; rw [if_pos hTC], if_pos (by omega)]; exact prM35), (nnM35), (by rw [if_neg (by omega)]; exact stM35), (by unfold bmp; rw [if_neg (by omega)]; exact rfM35), (by rw [if_neg (by omega), n8M35, eM28, up_s]), (rq37)⟩
          · exfalso; omega
    · refine rr_iload_n pf_211_26 rfl ?_
      refine rr_i2l pf_211_27 hu0 ?_
      refine rr_lconst (w := 0) pf_211_28 rfl ?_
      refine rr_ldc2_w pf_211_29 po_211 pl_9_259 ?_
      refine rr_cS3 pf_211_32 po_211 pc_9_197 (by decide) rfl (ct_R_in (by omega) (rl_rg hu0) (by unfold rl; omega) (by unfold rl; omega)) ?_
      refine rr_goto 60 pf_211_35 (by decide) ?_
      refine rr_istore_n pf_211_60 (fun y => [.ref 228, .int (iI (w)), .int (iI (u)), .int (iI (y))]) (Nat.le_of_ble_eq_true rfl) (fun _ => rfl) (fun y38 hy38 => ?_)
      have ry38 := bI_rg (0 ≤ u ∧ u ≤ (10))
      have ty38 := bI_cs (0 ≤ u ∧ u ≤ (10))
      rw [← hy38] at ty38
      refine rr_iload_n pf_211_61 rfl ?_
      refine rr_if_ne 71 pf_211_62 (by decide) (by unfold rg; omega) (fun c39 => ?_) (fun c39 => ?_)
      · have hTC : (0 ≤ w ∧ w ≤ 2 ∧ 0 ≤ u ∧ u ≤ (if w = 0 then 999 else if w = 1 then 10 else 9)) := by
          refine ⟨by omega, by omega, by omega, ?_⟩
          split <;> (try split) <;> omega
        refine rr_aload_n pf_211_71 rfl ?_
        refine rr_iconst pf_211_72 ?_
        refine vr_putI hW q2 pf_211_73 po_211 pg_9_183 (Or.inl rfl) rfl (ws_228 hW) (by decide) (by unfold rg; omega) (by decide) (fun M40 eM40 q41 => ?_)
        have rq42 := rz_up rq3 eM40 (by decide)
        have row43 := (rr_eq (M := M1) (M2 := M40) (by rw [eM40, ask_ne (by decide)])).trans row4
        have ninerow43 := r9_tr ninerow4 (r9_eq (M := M1) (M2 := M40) (by rw [eM40, ask_ne (by decide)]))
        have e45 : M40 229 = M0 229 := (show M40 229 = M1 229 by rw [eM40, ask_ne (by decide)]).trans e6
        have e46 : M40 230 = M0 230 := (show M40 230 = M1 230 by rw [eM40, ask_ne (by decide)]).trans e7
        refine rr_aload_n pf_211_76 rfl ?_
        refine rr_iconst pf_211_77 ?_
        refine rr_iload_n pf_211_78 rfl ?_
        refine rr_iadd pf_211_79 ?_
        refine rr_iload_n pf_211_80 rfl ?_
        obtain ⟨rM47, M47, ⟨kq48, pvM47, prM47, p9M47, p8M47⟩, hcM47⟩ := ct_R_change2 (xs := xs) (L := L) (d := d) (a_ := 5 + w.toNat) (x := u) (by omega) hW q41.1 q41.2.1 (by omega) hu0
        rw [show ((5 + w.toNat : Nat) : Int) = 5 + w by omega] at hcM47
        have q48 := qk_trm q41 kq48 (by decide)
        rw [row43] at prM47 pvM47
        have nnM47 := r9_tr ninerow43 p9M47
        have rq49 := rz_tell rq42 p8M47 (by decide)
        have stM47 : M47 228 1 = 0 := by rw [p8M47, up_s]
        have rfM47 : M47 229 = M0 229 := (kq48.2.2 229 (by decide)).trans e45
        have n8M47 : M47 228 8 = M40 228 8 := by rw [p8M47, up_ne (by decide)]
        refine rr_cV2 pf_211_81 po_211 pc_9_261 (ws_228 hW) po_212 (by decide) rfl hcM47 ?_
        have hwk : w = 0 ∨ w = 1 ∨ w = 2 := by omega
        have hb5 : 0 ≤ rr_ M0 (5 + w.toNat) := by
          have h5 := hρ.2.2.2.2.2.1
          have h6 := hρ.2.2.2.2.2.2.1
          have h7 := hρ.2.2.2.2.2.2.2.1
          rcases hwk with rfl | rfl | rfl
          · exact h5.1
          · exact h6.1
          · exact h7.1
        refine rr_iret pf_211_84 pt_211 ⟨_, M47, rfl, rfl, q48, (by unfold sp_terV; rw [if_pos hTC]; exact pvM47), (by unfold sp_terR; rw [show sp_terV (rr_ M0) w u = rr_ M0 (5 + w.toNat) by unfold sp_terV; rw [if_pos hTC], if_pos (by omega)]; exact prM47), (nnM47), (by rw [if_neg (by omega)]; exact stM47), (by unfold bmp; rw [if_neg (by omega)]; exact rfM47), (by rw [if_neg (by omega), n8M47, eM40, up_s]), (rq49)⟩
      · have hTC : ¬ (0 ≤ w ∧ w ≤ 2 ∧ 0 ≤ u ∧ u ≤ (if w = 0 then 999 else if w = 1 then 10 else 9)) := by
          intro z
          obtain ⟨z1, z2, z3, z4⟩ := z
          split at z4 <;> (try split at z4) <;> omega
        refine rr_aload_n pf_211_65 rfl ?_
        refine rr_iconst pf_211_66 ?_
        obtain ⟨M50, ⟨kq51, taM50, tbM50⟩, hcM50⟩ := ct_R_tell (xs := xs) (L := L) (d := d) (v := (-1)) (by omega) hW q2.1 q2.2.1 (by unfold rg; omega) (by omega) (by rw [e6]; exact hrf)
        have q51 := qk_trm q2 kq51 (by decide)
        have rq52 := rz_tell rq3 taM50 (by decide)
        have stM50 : M50 228 1 = if ((-1) : Int) < 0 then (-1) else 0 := by rw [taM50, up_s]
        have rfM50 : M50 229 = bmp (M0 229) (-1) := by rw [tbM50, e6]; rfl
        have n8M50 : M50 228 8 = M0 228 8 := by rw [taM50, up_ne (by decide)]; exact f5
        have row53 := (rr_eq (kq51.2.2 230 (by decide))).trans row4
        have ninerow53 := r9_tr ninerow4 (r9_eq (kq51.2.2 230 (by decide)))
        have e54 : M50 230 = M0 230 := (kq51.2.2 230 (by decide)).trans e7
        refine rr_cV1 pf_211_67 po_211 pc_9_186 (ws_228 hW) po_176 (by decide) rfl hcM50 ?_
        refine rr_iret pf_211_70 pt_211 ⟨_, M50, rfl, rfl, q51, (by unfold sp_terV; rw [if_neg hTC]), (by unfold sp_terR; rw [show sp_terV (rr_ M0) w u = -1 by unfold sp_terV; rw [if_neg hTC], if_neg (by omega)]; exact row53), (ninerow53), (stM50), (rfM50), (by rw [if_pos (by omega)]; exact n8M50), (rq52)⟩
  · refine rr_iload_n pf_211_9 rfl ?_
    refine rr_i2l pf_211_10 hu0 ?_
    refine rr_lconst (w := 0) pf_211_11 rfl ?_
    refine rr_ldc2_w pf_211_12 po_211 pl_9_257 ?_
    refine rr_cS3 pf_211_15 po_211 pc_9_197 (by decide) rfl (ct_R_in (by omega) (rl_rg hu0) (by unfold rl; omega) (by unfold rl; omega)) ?_
    refine rr_goto 60 pf_211_18 (by decide) ?_
    refine rr_istore_n pf_211_60 (fun y => [.ref 228, .int (iI (w)), .int (iI (u)), .int (iI (y))]) (Nat.le_of_ble_eq_true rfl) (fun _ => rfl) (fun y55 hy55 => ?_)
    have ry55 := bI_rg (0 ≤ u ∧ u ≤ (999))
    have ty55 := bI_cs (0 ≤ u ∧ u ≤ (999))
    rw [← hy55] at ty55
    refine rr_iload_n pf_211_61 rfl ?_
    refine rr_if_ne 71 pf_211_62 (by decide) (by unfold rg; omega) (fun c56 => ?_) (fun c56 => ?_)
    · have hTC : (0 ≤ w ∧ w ≤ 2 ∧ 0 ≤ u ∧ u ≤ (if w = 0 then 999 else if w = 1 then 10 else 9)) := by
        refine ⟨by omega, by omega, by omega, ?_⟩
        split <;> (try split) <;> omega
      refine rr_aload_n pf_211_71 rfl ?_
      refine rr_iconst pf_211_72 ?_
      refine vr_putI hW q2 pf_211_73 po_211 pg_9_183 (Or.inl rfl) rfl (ws_228 hW) (by decide) (by unfold rg; omega) (by decide) (fun M57 eM57 q58 => ?_)
      have rq59 := rz_up rq3 eM57 (by decide)
      have row60 := (rr_eq (M := M1) (M2 := M57) (by rw [eM57, ask_ne (by decide)])).trans row4
      have ninerow60 := r9_tr ninerow4 (r9_eq (M := M1) (M2 := M57) (by rw [eM57, ask_ne (by decide)]))
      have e62 : M57 229 = M0 229 := (show M57 229 = M1 229 by rw [eM57, ask_ne (by decide)]).trans e6
      have e63 : M57 230 = M0 230 := (show M57 230 = M1 230 by rw [eM57, ask_ne (by decide)]).trans e7
      refine rr_aload_n pf_211_76 rfl ?_
      refine rr_iconst pf_211_77 ?_
      refine rr_iload_n pf_211_78 rfl ?_
      refine rr_iadd pf_211_79 ?_
      refine rr_iload_n pf_211_80 rfl ?_
      obtain ⟨rM64, M64, ⟨kq65, pvM64, prM64, p9M64, p8M64⟩, hcM64⟩ := ct_R_change2 (xs := xs) (L := L) (d := d) (a_ := 5 + w.toNat) (x := u) (by omega) hW q58.1 q58.2.1 (by omega) hu0
      rw [show ((5 + w.toNat : Nat) : Int) = 5 + w by omega] at hcM64
      have q65 := qk_trm q58 kq65 (by decide)
      rw [row60] at prM64 pvM64
      have nnM64 := r9_tr ninerow60 p9M64
      have rq66 := rz_tell rq59 p8M64 (by decide)
      have stM64 : M64 228 1 = 0 := by rw [p8M64, up_s]
      have rfM64 : M64 229 = M0 229 := (kq65.2.2 229 (by decide)).trans e62
      have n8M64 : M64 228 8 = M57 228 8 := by rw [p8M64, up_ne (by decide)]
      refine rr_cV2 pf_211_81 po_211 pc_9_261 (ws_228 hW) po_212 (by decide) rfl hcM64 ?_
      have hwk : w = 0 ∨ w = 1 ∨ w = 2 := by omega
      have hb5 : 0 ≤ rr_ M0 (5 + w.toNat) := by
        have h5 := hρ.2.2.2.2.2.1
        have h6 := hρ.2.2.2.2.2.2.1
        have h7 := hρ.2.2.2.2.2.2.2.1
        rcases hwk with rfl | rfl | rfl
        · exact h5.1
        · exact h6.1
        · exact h7.1
      refine rr_iret pf_211_84 pt_211 ⟨_, M64, rfl, rfl, q65, (by unfold sp_terV; rw [if_pos hTC]; exact pvM64), (by unfold sp_terR; rw [show sp_terV (rr_ M0) w u = rr_ M0 (5 + w.toNat) by unfold sp_terV; rw [if_pos hTC], if_pos (by omega)]; exact prM64), (nnM64), (by rw [if_neg (by omega)]; exact stM64), (by unfold bmp; rw [if_neg (by omega)]; exact rfM64), (by rw [if_neg (by omega), n8M64, eM57, up_s]), (rq66)⟩
    · have hTC : ¬ (0 ≤ w ∧ w ≤ 2 ∧ 0 ≤ u ∧ u ≤ (if w = 0 then 999 else if w = 1 then 10 else 9)) := by
        intro z
        obtain ⟨z1, z2, z3, z4⟩ := z
        split at z4 <;> (try split at z4) <;> omega
      refine rr_aload_n pf_211_65 rfl ?_
      refine rr_iconst pf_211_66 ?_
      obtain ⟨M67, ⟨kq68, taM67, tbM67⟩, hcM67⟩ := ct_R_tell (xs := xs) (L := L) (d := d) (v := (-1)) (by omega) hW q2.1 q2.2.1 (by unfold rg; omega) (by omega) (by rw [e6]; exact hrf)
      have q68 := qk_trm q2 kq68 (by decide)
      have rq69 := rz_tell rq3 taM67 (by decide)
      have stM67 : M67 228 1 = if ((-1) : Int) < 0 then (-1) else 0 := by rw [taM67, up_s]
      have rfM67 : M67 229 = bmp (M0 229) (-1) := by rw [tbM67, e6]; rfl
      have n8M67 : M67 228 8 = M0 228 8 := by rw [taM67, up_ne (by decide)]; exact f5
      have row70 := (rr_eq (kq68.2.2 230 (by decide))).trans row4
      have ninerow70 := r9_tr ninerow4 (r9_eq (kq68.2.2 230 (by decide)))
      have e71 : M67 230 = M0 230 := (kq68.2.2 230 (by decide)).trans e7
      refine rr_cV1 pf_211_67 po_211 pc_9_186 (ws_228 hW) po_176 (by decide) rfl hcM67 ?_
      refine rr_iret pf_211_70 pt_211 ⟨_, M67, rfl, rfl, q68, (by unfold sp_terV; rw [if_neg hTC]), (by unfold sp_terR; rw [show sp_terV (rr_ M0) w u = -1 by unfold sp_terV; rw [if_neg hTC], if_neg (by omega)]; exact row70), (ninerow70), (stM67), (rfM67), (by rw [if_pos (by omega)]; exact n8M67), (rq69)⟩
noncomputable def sp_forV (ρ : Nat → Int) (l : Int) : Int := if l = -1 ∨ 0 ≤ l ∧ l ≤ ρ 3 - 1 then ρ 4 else -2
noncomputable def sp_forR (ρ : Nat → Int) (l : Int) : Nat → Int := if l = -1 ∨ 0 ≤ l ∧ l ≤ ρ 3 - 1 then rup ρ 4 l else ρ
noncomputable def sp_forS (ρ : Nat → Int) (l : Int) : Int := if l = -1 ∨ 0 ≤ l ∧ l ≤ ρ 3 - 1 then 0 else -2
theorem ct_R_force {xs : Nat → Int} {L d : Nat} {sh : List (Nat × Nat)} {M0 : Nat → Nat → Int} (hd : 14 ≤ d) (hW : px_W0 <+: sh) (hF : px_Fx M0) (hG : px_RG sh M0)  (hρ : sp_ok (rr_ M0)) (hrf : ∀ j, j < 7 → 0 ≤ M0 229 j ∧ M0 229 j ≤ 1000000000) {l : Int} (hl0 : rg l) : ∃ v M, (px_qk sh [228, 229, 230] M0 M ∧ (v = sp_forV (rr_ M0) l) ∧ (rr_ M = sp_forR (rr_ M0) l) ∧ (r9 M0 M) ∧ (M 228 1 = sp_forS (rr_ M0) l) ∧ (M 229 = bmp (M0 229) (sp_forS (rr_ M0) l)) ∧ (rz [1] M0 M)) ∧ px_Cl xs L d 246 [.ref 228, .int (iI (l))] (sh, M0) (some (.int (iI v))) (sh, M) := by
  obtain ⟨d, rfl⟩ : ∃ e, d = e + 1 := ⟨d - 1, by omega⟩
  have q0 : px_qk sh [228, 229, 230] M0 M0 := ⟨hF, hG, eo_rf⟩
  refine vc_i (Nat.le_of_ble_eq_true rfl) ?_
  show px_R xs L d 246 (0, [.ref 228, .int (iI (l))], [], (sh, M0)) (fun r h' => ∃ v M', r = some (.int (iI v)) ∧ h' = (sh, M') ∧ px_qk sh [228, 229, 230] M0 M' ∧ v = sp_forV (rr_ M0) l ∧ rr_ M' = sp_forR (rr_ M0) l ∧ r9 M0 M' ∧ M' 228 1 = sp_forS (rr_ M0) l ∧ M' 229 = bmp (M0 229) (sp_forS (rr_ M0) l) ∧ rz [1] M0 M')
  refine rr_aload_n pf_246_0 rfl ?_
  refine rr_iconst pf_246_1 ?_
  refine vr_putI hW q0 pf_246_2 po_246 pg_9_177 (Or.inl rfl) rfl (ws_228 hW) (by decide) (by unfold rg; omega) (by decide) (fun M1 eM1 q2 => ?_)
  have rq3 := rz_up (rz_rf [1] M0) eM1 (by decide)
  have row4 := (rr_eq (M := M0) (M2 := M1) (by rw [eM1, ask_ne (by decide)])).trans (rfl : rr_ M0 = rr_ M0)
  have ninerow4 := r9_tr (r9_rf M0) (r9_eq (M := M0) (M2 := M1) (by rw [eM1, ask_ne (by decide)]))
  have f5 : M1 228 8 = M0 228 8 := (show M1 228 8 = M0 228 8 by rw [eM1, up_ne (by decide)]).trans (rfl : M0 228 8 = M0 228 8)
  have e6 : M1 229 = M0 229 := (show M1 229 = M0 229 by rw [eM1, ask_ne (by decide)]).trans (rfl : M0 229 = M0 229)
  have e7 : M1 230 = M0 230 := (show M1 230 = M0 230 by rw [eM1, ask_ne (by decide)]).trans (rfl : M0 230 = M0 230)
  refine rr_aload_n pf_246_5 rfl ?_
  refine rr_iload_n pf_246_6 rfl ?_
  refine rr_cV1 pf_246_7 po_246 pc_9_424 (ws_228 hW) po_247 (by decide) rfl (ct_R_isLawN (n := rr_ M0 3) (by omega) hW q2.1 q2.2.1 hl0 (by rw [e7]; exact rr_at (by omega))) ?_
  refine rr_ifb_eq 22 pf_246_10 (by decide) (fun c8 => ?_) (fun c8 => ?_)
  · refine rr_aload_n pf_246_22 rfl ?_
    refine rr_bipush pf_246_23 (by decide) ?_
    obtain ⟨M9, ⟨kq10, taM9, tbM9⟩, hcM9⟩ := ct_R_tell (xs := xs) (L := L) (d := d) (v := (-2)) (by omega) hW q2.1 q2.2.1 (by unfold rg; omega) (by omega) (by rw [e6]; exact hrf)
    have q10 := qk_trm q2 kq10 (by decide)
    have rq11 := rz_tell rq3 taM9 (by decide)
    have stM9 : M9 228 1 = if ((-2) : Int) < 0 then (-2) else 0 := by rw [taM9, up_s]
    have rfM9 : M9 229 = bmp (M0 229) (-2) := by rw [tbM9, e6]; rfl
    have n8M9 : M9 228 8 = M0 228 8 := by rw [taM9, up_ne (by decide)]; exact f5
    have row12 := (rr_eq (kq10.2.2 230 (by decide))).trans row4
    have ninerow12 := r9_tr ninerow4 (r9_eq (kq10.2.2 230 (by decide)))
    have e13 : M9 230 = M0 230 := (kq10.2.2 230 (by decide)).trans e7
    refine rr_cV1 pf_246_25 po_246 pc_9_186 (ws_228 hW) po_176 (by decide) rfl hcM9 ?_
    refine rr_iret pf_246_28 pt_246 ⟨_, M9, rfl, rfl, q10, (by unfold sp_forV; rw [if_neg (by omega)]), (by unfold sp_forR; rw [if_neg (by omega)]; exact row12), (ninerow12), (by unfold sp_forS; rw [if_neg (by omega)]; exact stM9), (by unfold sp_forS; rw [if_neg (by omega)]; exact rfM9), (rq11)⟩
  · refine rr_aload_n pf_246_13 rfl ?_
    refine rr_iconst pf_246_14 ?_
    refine rr_iload_n pf_246_15 rfl ?_
    obtain ⟨rM14, M14, ⟨kq15, pvM14, prM14, p9M14, p8M14⟩, hcM14⟩ := ct_R_change2 (xs := xs) (L := L) (d := d) (a_ := 4) (x := l) (by omega) hW q2.1 q2.2.1 (by omega) hl0
    rw [show ((4 : Nat) : Int) = 4 by omega] at hcM14
    have q15 := qk_trm q2 kq15 (by decide)
    rw [row4] at prM14 pvM14
    have nnM14 := r9_tr ninerow4 p9M14
    have rq16 := rz_tell rq3 p8M14 (by decide)
    have stM14 : M14 228 1 = 0 := by rw [p8M14, up_s]
    have rfM14 : M14 229 = M0 229 := (kq15.2.2 229 (by decide)).trans e6
    have n8M14 : M14 228 8 = M1 228 8 := by rw [p8M14, up_ne (by decide)]
    refine rr_cV2 pf_246_16 po_246 pc_9_261 (ws_228 hW) po_212 (by decide) rfl hcM14 ?_
    refine rr_goto 28 pf_246_19 (by decide) ?_
    refine rr_iret pf_246_28 pt_246 ⟨_, M14, rfl, rfl, q15, (by unfold sp_forV; rw [if_pos (by omega)]; exact pvM14), (by unfold sp_forR; rw [if_pos (by omega)]; exact prM14), (nnM14), (by unfold sp_forS; rw [if_pos (by omega)]; exact stM14), (by unfold sp_forS; rw [if_pos (by omega)]; unfold bmp; rw [if_neg (by omega)]; exact rfM14), (rq16)⟩
theorem ct_R_forget {xs : Nat → Int} {L d : Nat} {sh : List (Nat × Nat)} {M0 : Nat → Nat → Int} (hd : 1 ≤ d) (hW : px_W0 <+: sh) (hF : px_Fx M0) (hG : px_RG sh M0)   : ∃ v M, (px_qk sh [228, 230] M0 M ∧ (v = rr_ M0 2) ∧ (rr_ M = rup (rr_ M0) 2 0) ∧ (r9 M0 M) ∧ (rz [] M0 M)) ∧ px_Cl xs L d 268 [.ref 228] (sh, M0) (some (.int (iI v))) (sh, M) := by
  obtain ⟨d, rfl⟩ : ∃ e, d = e + 1 := ⟨d - 1, by omega⟩
  have q0 : px_qk sh [228, 230] M0 M0 := ⟨hF, hG, eo_rf⟩
  refine vc_i (Nat.le_of_ble_eq_true rfl) ?_
  show px_R xs L d 268 (0, [.ref 228, px_jk], [], (sh, M0)) (fun r h' => ∃ v M', r = some (.int (iI v)) ∧ h' = (sh, M') ∧ px_qk sh [228, 230] M0 M' ∧ v = rr_ M0 2 ∧ rr_ M' = rup (rr_ M0) 2 0 ∧ r9 M0 M' ∧ rz [] M0 M')
  refine rr_aload_n pf_268_0 rfl ?_
  refine rr_iconst pf_268_1 ?_
  refine vr_putI hW q0 pf_268_2 po_268 pg_9_177 (Or.inl rfl) rfl (ws_228 hW) (by decide) (by unfold rg; omega) (by decide) (fun M1 eM1 q2 => ?_)
  have rq3 := rz_up (rz_rf [] M0) eM1 (by decide)
  have row4 := (rr_eq (M := M0) (M2 := M1) (by rw [eM1, ask_ne (by decide)])).trans (rfl : rr_ M0 = rr_ M0)
  have ninerow4 := r9_tr (r9_rf M0) (r9_eq (M := M0) (M2 := M1) (by rw [eM1, ask_ne (by decide)]))
  have e5 : M1 229 = M0 229 := (show M1 229 = M0 229 by rw [eM1, ask_ne (by decide)]).trans (rfl : M0 229 = M0 229)
  refine rr_aload_n pf_268_5 rfl ?_
  refine rr_getR pf_268_6 po_268 pg_9_13 rfl (ws_228 hW) (by decide) (wr_228_3 q2.1) ?_
  refine rr_iconst pf_268_9 ?_
  refine vr_iald (j := 2) q2 pf_268_10 (ws_230 hW) (by omega) (by omega) (by decide) (fun x6 hx6 rx6 => ?_)
  rw [eM1, ask_ne (by decide)] at hx6
  refine rr_istore_n pf_268_11 (fun y => [.ref 228, .int (iI (y))]) (Nat.le_of_ble_eq_true rfl) (fun _ => rfl) (fun y7 hy7 => ?_)
  have ry7 : rg y7 := hy7 ▸ rx6
  refine rr_aload_n pf_268_12 rfl ?_
  refine rr_getR pf_268_13 po_268 pg_9_13 rfl (ws_228 hW) (by decide) (wr_228_3 q2.1) ?_
  refine rr_iconst pf_268_16 ?_
  refine rr_iconst pf_268_17 ?_
  refine vr_iast (j := 2) hW q2 pf_268_18 (ws_230 hW) (by omega) (by omega) (by decide) (by unfold rg; omega) (by decide) (fun M8 eM8 q9 => ?_)
  have rq10 := rz_ne rq3 eM8 (by decide)
  have row11 := rr_w row4 eM8 (by omega)
  have ninerow11 := r9_up ninerow4 eM8 (by omega)
  have e12 : M8 229 = M0 229 := (show M8 229 = M1 229 by rw [eM8, ask_ne (by decide)]).trans e5
  refine rr_iload_n pf_268_19 rfl ?_
  refine rr_iret pf_268_20 pt_268 ⟨_, M8, rfl, rfl, q9, (by rw [← rr_at (M := M0) (by omega)]; omega), (row11), (ninerow11), (rq10)⟩
theorem ct_R_end {xs : Nat → Int} {L d : Nat} {sh : List (Nat × Nat)} {M0 : Nat → Nat → Int} (hd : 1 ≤ d) (hW : px_W0 <+: sh) (hF : px_Fx M0) (hG : px_RG sh M0)  {n : Int} (hn0 : rg n) : ∃ v M, (px_qk sh [228] M0 M ∧ (v = if 0 ≤ n ∧ n ≤ M0 228 13 then n else -1) ∧ (M 228 13 = if 0 ≤ n ∧ n ≤ M0 228 13 then n else M0 228 13) ∧ (rz [13] M0 M)) ∧ px_Cl xs L d 217 [.ref 228, .int (iI (n))] (sh, M0) (some (.int (iI v))) (sh, M) := by
  obtain ⟨d, rfl⟩ : ∃ e, d = e + 1 := ⟨d - 1, by omega⟩
  have q0 : px_qk sh [228] M0 M0 := ⟨hF, hG, eo_rf⟩
  refine vc_i (Nat.le_of_ble_eq_true rfl) ?_
  show px_R xs L d 217 (0, [.ref 228, .int (iI (n))], [], (sh, M0)) (fun r h' => ∃ v M', r = some (.int (iI v)) ∧ h' = (sh, M') ∧ px_qk sh [228] M0 M' ∧ (v = if 0 ≤ n ∧ n ≤ M0 228 13 then n else -1) ∧ (M' 228 13 = if 0 ≤ n ∧ n ≤ M0 228 13 then n else M0 228 13) ∧ rz [13] M0 M')
  refine rr_aload_n pf_217_0 rfl ?_
  refine rr_iconst pf_217_1 ?_
  refine vr_putI hW q0 pf_217_2 po_217 pg_9_177 (Or.inl rfl) rfl (ws_228 hW) (by decide) (by unfold rg; omega) (by decide) (fun M1 eM1 q2 => ?_)
  have rq3 := rz_up (rz_rf [13] M0) eM1 (by decide)
  have f4 : M1 228 13 = M0 228 13 := (show M1 228 13 = M0 228 13 by rw [eM1, up_ne (by decide)]).trans (rfl : M0 228 13 = M0 228 13)
  refine rr_iload_n pf_217_5 rfl ?_
  refine rr_if_lt 17 pf_217_6 (by decide) hn0 (fun c5 => ?_) (fun c5 => ?_)
  · refine rr_iconst pf_217_17 ?_
    refine rr_iret pf_217_18 pt_217 ⟨_, M1, rfl, rfl, q2, (by rw [if_neg (by omega)]), (by rw [if_neg (by omega)]; exact f4), (rq3)⟩
  · refine rr_iload_n pf_217_9 rfl ?_
    refine rr_aload_n pf_217_10 rfl ?_
    refine vr_getI q2 pf_217_11 po_217 pg_9_264 rfl (ws_228 hW) (by decide) (fun x6 hx6 rx6 => ?_)
    rw [f4] at hx6
    refine rr_icmp_le 19 pf_217_14 (by decide) hn0 rx6 (fun c7 => ?_) (fun c7 => ?_)
    · refine rr_aload_n pf_217_19 rfl ?_
      refine rr_iload_n pf_217_20 rfl ?_
      refine vr_putI hW q2 pf_217_21 po_217 pg_9_264 (Or.inl rfl) rfl (ws_228 hW) (by decide) hn0 (by decide) (fun M8 eM8 q9 => ?_)
      have rq10 := rz_up rq3 eM8 (by decide)
      refine rr_iload_n pf_217_24 rfl ?_
      refine rr_iret pf_217_25 pt_217 ⟨_, M8, rfl, rfl, q9, (by rw [if_pos (by omega)]), (by rw [if_pos (by omega), eM8, up_s]), (rq10)⟩
    · refine rr_iconst pf_217_17 ?_
      refine rr_iret pf_217_18 pt_217 ⟨_, M1, rfl, rfl, q2, (by rw [if_neg (by omega)]), (by rw [if_neg (by omega)]; exact f4), (rq3)⟩
theorem ct_R_leads {xs : Nat → Int} {L d : Nat} {sh : List (Nat × Nat)} {M0 : Nat → Nat → Int} (hd : 1 ≤ d) (hW : px_W0 <+: sh) (hF : px_Fx M0) (hG : px_RG sh M0)   : ∃ v M, (px_qk sh [228] M0 M ∧ (v = M0 228 11) ∧ (rz [] M0 M)) ∧ px_Cl xs L d 214 [.ref 228] (sh, M0) (some (.int (iI v))) (sh, M) := by
  obtain ⟨d, rfl⟩ : ∃ e, d = e + 1 := ⟨d - 1, by omega⟩
  have q0 : px_qk sh [228] M0 M0 := ⟨hF, hG, eo_rf⟩
  refine vc_i (Nat.le_of_ble_eq_true rfl) ?_
  show px_R xs L d 214 (0, [.ref 228], [], (sh, M0)) (fun r h' => ∃ v M', r = some (.int (iI v)) ∧ h' = (sh, M') ∧ px_qk sh [228] M0 M' ∧ v = M0 228 11 ∧ rz [] M0 M')
  refine rr_aload_n pf_214_0 rfl ?_
  refine rr_iconst pf_214_1 ?_
  refine vr_putI hW q0 pf_214_2 po_214 pg_9_177 (Or.inl rfl) rfl (ws_228 hW) (by decide) (by unfold rg; omega) (by decide) (fun M1 eM1 q2 => ?_)
  have rq3 := rz_up (rz_rf [] M0) eM1 (by decide)
  refine rr_aload_n pf_214_5 rfl ?_
  refine vr_getI q2 pf_214_6 po_214 pg_9_267 rfl (ws_228 hW) (by decide) (fun x4 hx4 rx4 => ?_)
  rw [rq3 11 (by decide) (by decide)] at hx4
  refine rr_iret pf_214_9 pt_214 ⟨_, M1, rfl, rfl, q2, (by omega), (rq3)⟩
theorem ct_R_fault {xs : Nat → Int} {L d : Nat} {sh : List (Nat × Nat)} {M0 : Nat → Nat → Int} (hd : 1 ≤ d) (hW : px_W0 <+: sh) (hF : px_Fx M0) (hG : px_RG sh M0)   : ∃ v M, (px_qk sh [228] M0 M ∧ (v = M0 228 18) ∧ (rz [] M0 M)) ∧ px_Cl xs L d 218 [.ref 228] (sh, M0) (some (.int (iI v))) (sh, M) := by
  obtain ⟨d, rfl⟩ : ∃ e, d = e + 1 := ⟨d - 1, by omega⟩
  have q0 : px_qk sh [228] M0 M0 := ⟨hF, hG, eo_rf⟩
  refine vc_i (Nat.le_of_ble_eq_true rfl) ?_
  show px_R xs L d 218 (0, [.ref 228], [], (sh, M0)) (fun r h' => ∃ v M', r = some (.int (iI v)) ∧ h' = (sh, M') ∧ px_qk sh [228] M0 M' ∧ v = M0 228 18 ∧ rz [] M0 M')
  refine rr_aload_n pf_218_0 rfl ?_
  refine rr_iconst pf_218_1 ?_
  refine vr_putI hW q0 pf_218_2 po_218 pg_9_177 (Or.inl rfl) rfl (ws_228 hW) (by decide) (by unfold rg; omega) (by decide) (fun M1 eM1 q2 => ?_)
  have rq3 := rz_up (rz_rf [] M0) eM1 (by decide)
  refine rr_aload_n pf_218_5 rfl ?_
  refine vr_getI q2 pf_218_6 po_218 pg_9_38 rfl (ws_228 hW) (by decide) (fun x4 hx4 rx4 => ?_)
  rw [rq3 18 (by decide) (by decide)] at hx4
  refine rr_iret pf_218_9 pt_218 ⟨_, M1, rfl, rfl, q2, (by omega), (rq3)⟩
theorem ct_R_stopped {xs : Nat → Int} {L d : Nat} {sh : List (Nat × Nat)} {M0 : Nat → Nat → Int} (hd : 1 ≤ d) (hW : px_W0 <+: sh) (hF : px_Fx M0) (hG : px_RG sh M0)   : ∃ v M, (px_qk sh [228] M0 M ∧ (v = M0 228 57) ∧ (rz [] M0 M)) ∧ px_Cl xs L d 299 [.ref 228] (sh, M0) (some (.int (iI v))) (sh, M) := by
  obtain ⟨d, rfl⟩ : ∃ e, d = e + 1 := ⟨d - 1, by omega⟩
  have q0 : px_qk sh [228] M0 M0 := ⟨hF, hG, eo_rf⟩
  refine vc_i (Nat.le_of_ble_eq_true rfl) ?_
  show px_R xs L d 299 (0, [.ref 228], [], (sh, M0)) (fun r h' => ∃ v M', r = some (.int (iI v)) ∧ h' = (sh, M') ∧ px_qk sh [228] M0 M' ∧ v = M0 228 57 ∧ rz [] M0 M')
  refine rr_aload_n pf_299_0 rfl ?_
  refine rr_iconst pf_299_1 ?_
  refine vr_putI hW q0 pf_299_2 po_299 pg_9_177 (Or.inl rfl) rfl (ws_228 hW) (by decide) (by unfold rg; omega) (by decide) (fun M1 eM1 q2 => ?_)
  have rq3 := rz_up (rz_rf [] M0) eM1 (by decide)
  refine rr_aload_n pf_299_5 rfl ?_
  refine vr_getI q2 pf_299_6 po_299 pg_9_168 rfl (ws_228 hW) (by decide) (fun x4 hx4 rx4 => ?_)
  rw [rq3 57 (by decide) (by decide)] at hx4
  refine rr_iret pf_299_9 pt_299 ⟨_, M1, rfl, rfl, q2, (by omega), (rq3)⟩
theorem ct_R_status {xs : Nat → Int} {L d : Nat} {sh : List (Nat × Nat)} {M0 : Nat → Nat → Int} (hd : 1 ≤ d) (hW : px_W0 <+: sh) (hF : px_Fx M0) (hG : px_RG sh M0)   : ∃ v M, (px_qk sh [228] M0 M ∧ (v = M0 228 1) ∧ (rz [] M0 M)) ∧ px_Cl xs L d 304 [.ref 228] (sh, M0) (some (.int (iI v))) (sh, M) := by
  obtain ⟨d, rfl⟩ : ∃ e, d = e + 1 := ⟨d - 1, by omega⟩
  have q0 : px_qk sh [228] M0 M0 := ⟨hF, hG, eo_rf⟩
  refine vc_i (Nat.le_of_ble_eq_true rfl) ?_
  show px_R xs L d 304 (0, [.ref 228], [], (sh, M0)) (fun r h' => ∃ v M', r = some (.int (iI v)) ∧ h' = (sh, M') ∧ px_qk sh [228] M0 M' ∧ v = M0 228 1 ∧ rz [] M0 M')
  refine rr_aload_n pf_304_0 rfl ?_
  refine rr_iconst pf_304_1 ?_
  refine vr_putI hW q0 pf_304_2 po_304 pg_9_177 (Or.inl rfl) rfl (ws_228 hW) (by decide) (by unfold rg; omega) (by decide) (fun M1 eM1 q2 => ?_)
  have rq3 := rz_up (rz_rf [] M0) eM1 (by decide)
  refine rr_aload_n pf_304_5 rfl ?_
  refine vr_getI q2 pf_304_6 po_304 pg_9_180 rfl (ws_228 hW) (by decide) (fun x4 hx4 rx4 => ?_)
  rw [rq3 1 (by decide) (by decide)] at hx4
  refine rr_iret pf_304_9 pt_304 ⟨_, M1, rfl, rfl, q2, (by omega), (rq3)⟩
theorem preV_b {lw : List sp_C} {ρ : Nat → Int} (h : sp_ok ρ) (w : Int) : -3 ≤ sp_preV lw ρ w ∧ sp_preV lw ρ w ≤ 1000 := by
  have h0 := h.1
  unfold sp_preV
  split
  · split
    · omega
    · have := sp_preA_b (lw := lw) h (w := w.toNat) (by omega) 16 (by omega); omega
  · omega
theorem scrV_b {ρ : Nat → Int} (h : sp_ok ρ) (p i : Int) : -3 ≤ sp_scrV ρ p i ∧ sp_scrV ρ p i ≤ 1000 := by
  unfold sp_scrV
  split
  · have := h.2.2.2.2.2.2.2.2.2.1 (p * 3 + i).toNat (by omega)
    split <;> omega
  · omega
theorem walV_b {ρ : Nat → Int} (h : sp_ok ρ) (p : Int) : -3 ≤ sp_walV ρ p ∧ sp_walV ρ p ≤ 1000 := by
  have := h.2.2.2.2.2.2.2.2.1
  unfold sp_walV
  split <;> omega
theorem sitV_b {ρ : Nat → Int} (h : sp_ok ρ) (l s : Int) : -3 ≤ sp_sitV ρ l s ∧ sp_sitV ρ l s ≤ 1000 := by
  have h1 := h.2.1
  unfold sp_sitV
  split
  · split
    · have := sp_seat_b h (l := l.toNat) (by omega)
      split <;> omega
    · omega
  · omega
theorem pasV_b {ρ : Nat → Int} (h : sp_ok ρ) : -3 ≤ sp_pasV ρ ∧ sp_pasV ρ ≤ 1000 := by
  have := h.2.2.2.2.2.1
  unfold sp_pasV
  split <;> omega
theorem ct_R_preach {xs : Nat → Int} {L d : Nat} {sh : List (Nat × Nat)} {M0 : Nat → Nat → Int} (hd : 14 ≤ d) (hW : px_W0 <+: sh) (hF : px_Fx M0) (hG : px_RG sh M0)  (hρ : sp_ok (rr_ M0)) {lw : List sp_C} (hlw : px_lwR M0 lw) (hord : M0 228 20 = 0) {tl : sp_T} (htl : tlR M0 tl) (hrf : ∀ j, j < 7 → 0 ≤ M0 229 j ∧ M0 229 j ≤ 1000000000) {w : Int} (hw0 : rg w) : ∃ v M, (px_qk sh [228, 229, 230, 233, 234, 246, 248, 249, 250] M0 M ∧ (v = sp_preV lw (rr_ M0) w) ∧ (rr_ M = sp_preW lw (rr_ M0) w) ∧ (r9 M0 M) ∧ (M 228 1 = if v < 0 then v else 0) ∧ (M 229 = bmp (M0 229) v) ∧ (tlR M (if 0 ≤ v then tpush tl (0, rr_ M0) else tl)) ∧ (rz [1, 8] M0 M)) ∧ px_Cl xs L d 248 [.ref 228, .int (iI (w))] (sh, M0) (some (.int (iI v))) (sh, M) := by
  obtain ⟨d, rfl⟩ : ∃ e, d = e + 1 := ⟨d - 1, by omega⟩
  have q0 : px_qk sh [228, 229, 230, 233, 234, 246, 248, 249, 250] M0 M0 := ⟨hF, hG, eo_rf⟩
  refine vc_i (Nat.le_of_ble_eq_true rfl) ?_
  show px_R xs L d 248 (0, [.ref 228, .int (iI (w))], [], (sh, M0)) (fun r h' => ∃ v M', r = some (.int (iI v)) ∧ h' = (sh, M') ∧ px_qk sh [228, 229, 230, 233, 234, 246, 248, 249, 250] M0 M' ∧ v = sp_preV lw (rr_ M0) w ∧ rr_ M' = sp_preW lw (rr_ M0) w ∧ r9 M0 M' ∧ (M' 228 1 = if v < 0 then v else 0) ∧ M' 229 = bmp (M0 229) v ∧ tlR M' (if 0 ≤ v then tpush tl (0, rr_ M0) else tl) ∧ rz [1, 8] M0 M')
  refine rr_aload_n pf_248_0 rfl ?_
  refine rr_iconst pf_248_1 ?_
  refine vr_putI hW q0 pf_248_2 po_248 pg_9_177 (Or.inl rfl) rfl (ws_228 hW) (by decide) (by unfold rg; omega) (by decide) (fun M1 eM1 q2 => ?_)
  have rq3 := rz_up (rz_rf [1, 8] M0) eM1 (by decide)
  have row4 := (rr_eq (M := M0) (M2 := M1) (by rw [eM1, ask_ne (by decide)])).trans (rfl : rr_ M0 = rr_ M0)
  have ninerow4 := r9_tr (r9_rf M0) (r9_eq (M := M0) (M2 := M1) (by rw [eM1, ask_ne (by decide)]))
  have f5 : M1 228 8 = M0 228 8 := (show M1 228 8 = M0 228 8 by rw [eM1, up_ne (by decide)]).trans (rfl : M0 228 8 = M0 228 8)
  have e6 : M1 229 = M0 229 := (show M1 229 = M0 229 by rw [eM1, ask_ne (by decide)]).trans (rfl : M0 229 = M0 229)
  have e7 : M1 230 = M0 230 := (show M1 230 = M0 230 by rw [eM1, ask_ne (by decide)]).trans (rfl : M0 230 = M0 230)
  have e8 : M1 233 = M0 233 := (show M1 233 = M0 233 by rw [eM1, ask_ne (by decide)]).trans (rfl : M0 233 = M0 233)
  have e9 : M1 234 = M0 234 := (show M1 234 = M0 234 by rw [eM1, ask_ne (by decide)]).trans (rfl : M0 234 = M0 234)
  refine rr_aload_n pf_248_5 rfl ?_
  refine rr_aload_n pf_248_6 rfl ?_
  refine rr_iload_n pf_248_7 rfl ?_
  obtain ⟨r12, M10, ⟨kq11, pv_M10, pr_M10, p9_M10, pt_M10, pf_M10⟩, hcM10⟩ := ct_R_preachNow (xs := xs) (L := L) (d := d) (w := w) (lw := lw) (tl := tl) (by omega) hW q2.1 q2.2.1 (by rw [rr_eq e7]; exact hρ) (lwR_eq e7 hlw) ((rq3 20 (by decide) (by decide)).trans hord) (tlR_eq htl f5 e8 e9) hw0
  have q11 := qk_trm q2 kq11 (by decide)
  rw [rr_eq e7] at pv_M10
  rw [rr_eq e7] at pr_M10
  rw [rr_eq e7] at pt_M10
  have rq13 := rz_rs rq3 pf_M10 (by decide)
  have e14 : M10 229 = M0 229 := (kq11.2.2 229 (by decide)).trans e6
  refine rr_cV1 pf_248_8 po_248 pc_9_484 (ws_228 hW) po_249 (by decide) rfl hcM10 ?_
  have nnM10 := r9_tr ninerow4 p9_M10
  have hvb := preV_b (lw := lw) hρ w
  obtain ⟨M15, ⟨kq16, taM15, tbM15⟩, hcM15⟩ := ct_R_tell (xs := xs) (L := L) (d := d) (v := r12) (by omega) hW q11.1 q11.2.1 (by unfold rg; omega) (by omega) (by rw [e14]; exact hrf)
  have q16 := qk_trm q11 kq16 (by decide)
  have rq17 := rz_tell rq13 taM15 (by decide)
  have stM15 : M15 228 1 = if (r12 : Int) < 0 then r12 else 0 := by rw [taM15, up_s]
  have rfM15 : M15 229 = bmp (M0 229) r12 := by rw [tbM15, e14]; rfl
  have row18 := (rr_eq (kq16.2.2 230 (by decide))).trans pr_M10
  have ninerow18 := r9_tr nnM10 (r9_eq (kq16.2.2 230 (by decide)))
  refine rr_cV1 pf_248_11 po_248 pc_9_186 (ws_228 hW) po_176 (by decide) rfl hcM15 ?_
  refine rr_iret pf_248_14 pt_248 ⟨_, M15, rfl, rfl, q16, (pv_M10), (row18), (ninerow18), (stM15), (rfM15), (tlR_eq pt_M10 (by rw [taM15, up_ne (by decide)]) (kq16.2.2 233 (by decide)) (kq16.2.2 234 (by decide))), (rq17)⟩
theorem ct_R_scrape {xs : Nat → Int} {L d : Nat} {sh : List (Nat × Nat)} {M0 : Nat → Nat → Int} (hd : 14 ≤ d) (hW : px_W0 <+: sh) (hF : px_Fx M0) (hG : px_RG sh M0)  (hρ : sp_ok (rr_ M0)) {lw : List sp_C} (hlw : px_lwR M0 lw) (hord : M0 228 20 = 0) {tl : sp_T} (htl : tlR M0 tl) (hrf : ∀ j, j < 7 → 0 ≤ M0 229 j ∧ M0 229 j ≤ 1000000000) {p h : Int} (hp0 : rg p) (hh0 : rg h) : ∃ v M, (px_qk sh [228, 229, 230, 233, 234, 246, 248, 249, 250] M0 M ∧ (v = sp_scrV (rr_ M0) p h) ∧ (rr_ M = sp_scrR (rr_ M0) p h) ∧ (r9 M0 M) ∧ (M 228 1 = if v < 0 then v else 0) ∧ (M 229 = bmp (M0 229) v) ∧ (tlR M (if 0 ≤ v then tpush tl (1, rr_ M0) else tl)) ∧ (rz [1, 8] M0 M)) ∧ px_Cl xs L d 253 [.ref 228, .int (iI (p)), .int (iI (h))] (sh, M0) (some (.int (iI v))) (sh, M) := by
  obtain ⟨d, rfl⟩ : ∃ e, d = e + 1 := ⟨d - 1, by omega⟩
  have q0 : px_qk sh [228, 229, 230, 233, 234, 246, 248, 249, 250] M0 M0 := ⟨hF, hG, eo_rf⟩
  refine vc_i (Nat.le_of_ble_eq_true rfl) ?_
  show px_R xs L d 253 (0, [.ref 228, .int (iI (p)), .int (iI (h))], [], (sh, M0)) (fun r h' => ∃ v M', r = some (.int (iI v)) ∧ h' = (sh, M') ∧ px_qk sh [228, 229, 230, 233, 234, 246, 248, 249, 250] M0 M' ∧ v = sp_scrV (rr_ M0) p h ∧ rr_ M' = sp_scrR (rr_ M0) p h ∧ r9 M0 M' ∧ (M' 228 1 = if v < 0 then v else 0) ∧ M' 229 = bmp (M0 229) v ∧ tlR M' (if 0 ≤ v then tpush tl (1, rr_ M0) else tl) ∧ rz [1, 8] M0 M')
  refine rr_aload_n pf_253_0 rfl ?_
  refine rr_iconst pf_253_1 ?_
  refine vr_putI hW q0 pf_253_2 po_253 pg_9_177 (Or.inl rfl) rfl (ws_228 hW) (by decide) (by unfold rg; omega) (by decide) (fun M1 eM1 q2 => ?_)
  have rq3 := rz_up (rz_rf [1, 8] M0) eM1 (by decide)
  have row4 := (rr_eq (M := M0) (M2 := M1) (by rw [eM1, ask_ne (by decide)])).trans (rfl : rr_ M0 = rr_ M0)
  have ninerow4 := r9_tr (r9_rf M0) (r9_eq (M := M0) (M2 := M1) (by rw [eM1, ask_ne (by decide)]))
  have f5 : M1 228 8 = M0 228 8 := (show M1 228 8 = M0 228 8 by rw [eM1, up_ne (by decide)]).trans (rfl : M0 228 8 = M0 228 8)
  have e6 : M1 229 = M0 229 := (show M1 229 = M0 229 by rw [eM1, ask_ne (by decide)]).trans (rfl : M0 229 = M0 229)
  have e7 : M1 230 = M0 230 := (show M1 230 = M0 230 by rw [eM1, ask_ne (by decide)]).trans (rfl : M0 230 = M0 230)
  have e8 : M1 233 = M0 233 := (show M1 233 = M0 233 by rw [eM1, ask_ne (by decide)]).trans (rfl : M0 233 = M0 233)
  have e9 : M1 234 = M0 234 := (show M1 234 = M0 234 by rw [eM1, ask_ne (by decide)]).trans (rfl : M0 234 = M0 234)
  refine rr_aload_n pf_253_5 rfl ?_
  refine rr_aload_n pf_253_6 rfl ?_
  refine rr_iload_n pf_253_7 rfl ?_
  refine rr_iload_n pf_253_8 rfl ?_
  obtain ⟨r12, M10, ⟨kq11, pv_M10, pr_M10, p9_M10, pt_M10, pf_M10⟩, hcM10⟩ := ct_R_scrapeNow (xs := xs) (L := L) (d := d) (p := p) (h := h) (lw := lw) (tl := tl) (by omega) hW q2.1 q2.2.1 (by rw [rr_eq e7]; exact hρ) (lwR_eq e7 hlw) ((rq3 20 (by decide) (by decide)).trans hord) (tlR_eq htl f5 e8 e9) hp0 hh0
  have q11 := qk_trm q2 kq11 (by decide)
  rw [rr_eq e7] at pv_M10
  rw [rr_eq e7] at pr_M10
  rw [rr_eq e7] at pt_M10
  have rq13 := rz_rs rq3 pf_M10 (by decide)
  have e14 : M10 229 = M0 229 := (kq11.2.2 229 (by decide)).trans e6
  refine rr_cV2 pf_253_9 po_253 pc_9_487 (ws_228 hW) po_254 (by decide) rfl hcM10 ?_
  have nnM10 := r9_tr ninerow4 p9_M10
  have hvb := scrV_b hρ p h
  obtain ⟨M15, ⟨kq16, taM15, tbM15⟩, hcM15⟩ := ct_R_tell (xs := xs) (L := L) (d := d) (v := r12) (by omega) hW q11.1 q11.2.1 (by unfold rg; omega) (by omega) (by rw [e14]; exact hrf)
  have q16 := qk_trm q11 kq16 (by decide)
  have rq17 := rz_tell rq13 taM15 (by decide)
  have stM15 : M15 228 1 = if (r12 : Int) < 0 then r12 else 0 := by rw [taM15, up_s]
  have rfM15 : M15 229 = bmp (M0 229) r12 := by rw [tbM15, e14]; rfl
  have row18 := (rr_eq (kq16.2.2 230 (by decide))).trans pr_M10
  have ninerow18 := r9_tr nnM10 (r9_eq (kq16.2.2 230 (by decide)))
  refine rr_cV1 pf_253_12 po_253 pc_9_186 (ws_228 hW) po_176 (by decide) rfl hcM15 ?_
  refine rr_iret pf_253_15 pt_253 ⟨_, M15, rfl, rfl, q16, (pv_M10), (row18), (ninerow18), (stM15), (rfM15), (tlR_eq pt_M10 (by rw [taM15, up_ne (by decide)]) (kq16.2.2 233 (by decide)) (kq16.2.2 234 (by decide))), (rq17)⟩
theorem ct_R_walk {xs : Nat → Int} {L d : Nat} {sh : List (Nat × Nat)} {M0 : Nat → Nat → Int} (hd : 14 ≤ d) (hW : px_W0 <+: sh) (hF : px_Fx M0) (hG : px_RG sh M0)  (hρ : sp_ok (rr_ M0)) {lw : List sp_C} (hlw : px_lwR M0 lw) (hord : M0 228 20 = 0) {tl : sp_T} (htl : tlR M0 tl) (hrf : ∀ j, j < 7 → 0 ≤ M0 229 j ∧ M0 229 j ≤ 1000000000) {p : Int} (hp0 : rg p) : ∃ v M, (px_qk sh [228, 229, 230, 233, 234, 246, 248, 249, 250] M0 M ∧ (v = sp_walV (rr_ M0) p) ∧ (rr_ M = sp_walR (rr_ M0) p) ∧ (r9 M0 M) ∧ (M 228 1 = if v < 0 then v else 0) ∧ (M 229 = bmp (M0 229) v) ∧ (tlR M (if 0 ≤ v then tpush tl (2, rr_ M0) else tl)) ∧ (rz [1, 8] M0 M)) ∧ px_Cl xs L d 255 [.ref 228, .int (iI (p))] (sh, M0) (some (.int (iI v))) (sh, M) := by
  obtain ⟨d, rfl⟩ : ∃ e, d = e + 1 := ⟨d - 1, by omega⟩
  have q0 : px_qk sh [228, 229, 230, 233, 234, 246, 248, 249, 250] M0 M0 := ⟨hF, hG, eo_rf⟩
  refine vc_i (Nat.le_of_ble_eq_true rfl) ?_
  show px_R xs L d 255 (0, [.ref 228, .int (iI (p))], [], (sh, M0)) (fun r h' => ∃ v M', r = some (.int (iI v)) ∧ h' = (sh, M') ∧ px_qk sh [228, 229, 230, 233, 234, 246, 248, 249, 250] M0 M' ∧ v = sp_walV (rr_ M0) p ∧ rr_ M' = sp_walR (rr_ M0) p ∧ r9 M0 M' ∧ (M' 228 1 = if v < 0 then v else 0) ∧ M' 229 = bmp (M0 229) v ∧ tlR M' (if 0 ≤ v then tpush tl (2, rr_ M0) else tl) ∧ rz [1, 8] M0 M')
  refine rr_aload_n pf_255_0 rfl ?_
  refine rr_iconst pf_255_1 ?_
  refine vr_putI hW q0 pf_255_2 po_255 pg_9_177 (Or.inl rfl) rfl (ws_228 hW) (by decide) (by unfold rg; omega) (by decide) (fun M1 eM1 q2 => ?_)
  have rq3 := rz_up (rz_rf [1, 8] M0) eM1 (by decide)
  have row4 := (rr_eq (M := M0) (M2 := M1) (by rw [eM1, ask_ne (by decide)])).trans (rfl : rr_ M0 = rr_ M0)
  have ninerow4 := r9_tr (r9_rf M0) (r9_eq (M := M0) (M2 := M1) (by rw [eM1, ask_ne (by decide)]))
  have f5 : M1 228 8 = M0 228 8 := (show M1 228 8 = M0 228 8 by rw [eM1, up_ne (by decide)]).trans (rfl : M0 228 8 = M0 228 8)
  have e6 : M1 229 = M0 229 := (show M1 229 = M0 229 by rw [eM1, ask_ne (by decide)]).trans (rfl : M0 229 = M0 229)
  have e7 : M1 230 = M0 230 := (show M1 230 = M0 230 by rw [eM1, ask_ne (by decide)]).trans (rfl : M0 230 = M0 230)
  have e8 : M1 233 = M0 233 := (show M1 233 = M0 233 by rw [eM1, ask_ne (by decide)]).trans (rfl : M0 233 = M0 233)
  have e9 : M1 234 = M0 234 := (show M1 234 = M0 234 by rw [eM1, ask_ne (by decide)]).trans (rfl : M0 234 = M0 234)
  refine rr_aload_n pf_255_5 rfl ?_
  refine rr_aload_n pf_255_6 rfl ?_
  refine rr_iload_n pf_255_7 rfl ?_
  obtain ⟨r12, M10, ⟨kq11, pv_M10, pr_M10, p9_M10, pt_M10, pf_M10⟩, hcM10⟩ := ct_R_walkNow (xs := xs) (L := L) (d := d) (p := p) (lw := lw) (tl := tl) (by omega) hW q2.1 q2.2.1 (by rw [rr_eq e7]; exact hρ) (lwR_eq e7 hlw) ((rq3 20 (by decide) (by decide)).trans hord) (tlR_eq htl f5 e8 e9) hp0
  have q11 := qk_trm q2 kq11 (by decide)
  rw [rr_eq e7] at pv_M10
  rw [rr_eq e7] at pr_M10
  rw [rr_eq e7] at pt_M10
  have rq13 := rz_rs rq3 pf_M10 (by decide)
  have e14 : M10 229 = M0 229 := (kq11.2.2 229 (by decide)).trans e6
  refine rr_cV1 pf_255_8 po_255 pc_9_490 (ws_228 hW) po_256 (by decide) rfl hcM10 ?_
  have nnM10 := r9_tr ninerow4 p9_M10
  have hvb := walV_b hρ p
  obtain ⟨M15, ⟨kq16, taM15, tbM15⟩, hcM15⟩ := ct_R_tell (xs := xs) (L := L) (d := d) (v := r12) (by omega) hW q11.1 q11.2.1 (by unfold rg; omega) (by omega) (by rw [e14]; exact hrf)
  have q16 := qk_trm q11 kq16 (by decide)
  have rq17 := rz_tell rq13 taM15 (by decide)
  have stM15 : M15 228 1 = if (r12 : Int) < 0 then r12 else 0 := by rw [taM15, up_s]
  have rfM15 : M15 229 = bmp (M0 229) r12 := by rw [tbM15, e14]; rfl
  have row18 := (rr_eq (kq16.2.2 230 (by decide))).trans pr_M10
  have ninerow18 := r9_tr nnM10 (r9_eq (kq16.2.2 230 (by decide)))
  refine rr_cV1 pf_255_11 po_255 pc_9_186 (ws_228 hW) po_176 (by decide) rfl hcM15 ?_
  refine rr_iret pf_255_14 pt_255 ⟨_, M15, rfl, rfl, q16, (pv_M10), (row18), (ninerow18), (stM15), (rfM15), (tlR_eq pt_M10 (by rw [taM15, up_ne (by decide)]) (kq16.2.2 233 (by decide)) (kq16.2.2 234 (by decide))), (rq17)⟩
theorem ct_R_sit {xs : Nat → Int} {L d : Nat} {sh : List (Nat × Nat)} {M0 : Nat → Nat → Int} (hd : 14 ≤ d) (hW : px_W0 <+: sh) (hF : px_Fx M0) (hG : px_RG sh M0)  (hρ : sp_ok (rr_ M0)) {lw : List sp_C} (hlw : px_lwR M0 lw) (hord : M0 228 20 = 0) {tl : sp_T} (htl : tlR M0 tl) (hrf : ∀ j, j < 7 → 0 ≤ M0 229 j ∧ M0 229 j ≤ 1000000000) {l s : Int} (hl0 : rg l) (hs0 : rg s) : ∃ v M, (px_qk sh [228, 229, 230, 233, 234, 246, 248, 249, 250] M0 M ∧ (v = sp_sitV (rr_ M0) l s) ∧ (rr_ M = sp_sitR (rr_ M0) l s) ∧ (r9 M0 M) ∧ (M 228 1 = if v < 0 then v else 0) ∧ (M 229 = bmp (M0 229) v) ∧ (tlR M (if 0 ≤ v then tpush tl (3, rr_ M0) else tl)) ∧ (rz [1, 8] M0 M)) ∧ px_Cl xs L d 257 [.ref 228, .int (iI (l)), .int (iI (s))] (sh, M0) (some (.int (iI v))) (sh, M) := by
  obtain ⟨d, rfl⟩ : ∃ e, d = e + 1 := ⟨d - 1, by omega⟩
  have q0 : px_qk sh [228, 229, 230, 233, 234, 246, 248, 249, 250] M0 M0 := ⟨hF, hG, eo_rf⟩
  refine vc_i (Nat.le_of_ble_eq_true rfl) ?_
  show px_R xs L d 257 (0, [.ref 228, .int (iI (l)), .int (iI (s))], [], (sh, M0)) (fun r h' => ∃ v M', r = some (.int (iI v)) ∧ h' = (sh, M') ∧ px_qk sh [228, 229, 230, 233, 234, 246, 248, 249, 250] M0 M' ∧ v = sp_sitV (rr_ M0) l s ∧ rr_ M' = sp_sitR (rr_ M0) l s ∧ r9 M0 M' ∧ (M' 228 1 = if v < 0 then v else 0) ∧ M' 229 = bmp (M0 229) v ∧ tlR M' (if 0 ≤ v then tpush tl (3, rr_ M0) else tl) ∧ rz [1, 8] M0 M')
  refine rr_aload_n pf_257_0 rfl ?_
  refine rr_iconst pf_257_1 ?_
  refine vr_putI hW q0 pf_257_2 po_257 pg_9_177 (Or.inl rfl) rfl (ws_228 hW) (by decide) (by unfold rg; omega) (by decide) (fun M1 eM1 q2 => ?_)
  have rq3 := rz_up (rz_rf [1, 8] M0) eM1 (by decide)
  have row4 := (rr_eq (M := M0) (M2 := M1) (by rw [eM1, ask_ne (by decide)])).trans (rfl : rr_ M0 = rr_ M0)
  have ninerow4 := r9_tr (r9_rf M0) (r9_eq (M := M0) (M2 := M1) (by rw [eM1, ask_ne (by decide)]))
  have f5 : M1 228 8 = M0 228 8 := (show M1 228 8 = M0 228 8 by rw [eM1, up_ne (by decide)]).trans (rfl : M0 228 8 = M0 228 8)
  have e6 : M1 229 = M0 229 := (show M1 229 = M0 229 by rw [eM1, ask_ne (by decide)]).trans (rfl : M0 229 = M0 229)
  have e7 : M1 230 = M0 230 := (show M1 230 = M0 230 by rw [eM1, ask_ne (by decide)]).trans (rfl : M0 230 = M0 230)
  have e8 : M1 233 = M0 233 := (show M1 233 = M0 233 by rw [eM1, ask_ne (by decide)]).trans (rfl : M0 233 = M0 233)
  have e9 : M1 234 = M0 234 := (show M1 234 = M0 234 by rw [eM1, ask_ne (by decide)]).trans (rfl : M0 234 = M0 234)
  refine rr_aload_n pf_257_5 rfl ?_
  refine rr_aload_n pf_257_6 rfl ?_
  refine rr_iload_n pf_257_7 rfl ?_
  refine rr_iload_n pf_257_8 rfl ?_
  obtain ⟨r12, M10, ⟨kq11, pv_M10, pr_M10, p9_M10, pt_M10, pf_M10⟩, hcM10⟩ := ct_R_sitNow (xs := xs) (L := L) (d := d) (l := l) (s := s) (lw := lw) (tl := tl) (by omega) hW q2.1 q2.2.1 (by rw [rr_eq e7]; exact hρ) (lwR_eq e7 hlw) ((rq3 20 (by decide) (by decide)).trans hord) (tlR_eq htl f5 e8 e9) hl0 hs0
  have q11 := qk_trm q2 kq11 (by decide)
  rw [rr_eq e7] at pv_M10
  rw [rr_eq e7] at pr_M10
  rw [rr_eq e7] at pt_M10
  have rq13 := rz_rs rq3 pf_M10 (by decide)
  have e14 : M10 229 = M0 229 := (kq11.2.2 229 (by decide)).trans e6
  refine rr_cV2 pf_257_9 po_257 pc_9_493 (ws_228 hW) po_258 (by decide) rfl hcM10 ?_
  have nnM10 := r9_tr ninerow4 p9_M10
  have hvb := sitV_b hρ l s
  obtain ⟨M15, ⟨kq16, taM15, tbM15⟩, hcM15⟩ := ct_R_tell (xs := xs) (L := L) (d := d) (v := r12) (by omega) hW q11.1 q11.2.1 (by unfold rg; omega) (by omega) (by rw [e14]; exact hrf)
  have q16 := qk_trm q11 kq16 (by decide)
  have rq17 := rz_tell rq13 taM15 (by decide)
  have stM15 : M15 228 1 = if (r12 : Int) < 0 then r12 else 0 := by rw [taM15, up_s]
  have rfM15 : M15 229 = bmp (M0 229) r12 := by rw [tbM15, e14]; rfl
  have row18 := (rr_eq (kq16.2.2 230 (by decide))).trans pr_M10
  have ninerow18 := r9_tr nnM10 (r9_eq (kq16.2.2 230 (by decide)))
  refine rr_cV1 pf_257_12 po_257 pc_9_186 (ws_228 hW) po_176 (by decide) rfl hcM15 ?_
  refine rr_iret pf_257_15 pt_257 ⟨_, M15, rfl, rfl, q16, (pv_M10), (row18), (ninerow18), (stM15), (rfM15), (tlR_eq pt_M10 (by rw [taM15, up_ne (by decide)]) (kq16.2.2 233 (by decide)) (kq16.2.2 234 (by decide))), (rq17)⟩
theorem ct_R_pass {xs : Nat → Int} {L d : Nat} {sh : List (Nat × Nat)} {M0 : Nat → Nat → Int} (hd : 14 ≤ d) (hW : px_W0 <+: sh) (hF : px_Fx M0) (hG : px_RG sh M0)  (hρ : sp_ok (rr_ M0)) {lw : List sp_C} (hlw : px_lwR M0 lw) (hord : M0 228 20 = 0) {tl : sp_T} (htl : tlR M0 tl) (hrf : ∀ j, j < 7 → 0 ≤ M0 229 j ∧ M0 229 j ≤ 1000000000) (h999 : rr_ M0 5 ≤ 999) : ∃ v M, (px_qk sh [228, 229, 230, 233, 234, 246, 248, 249, 250] M0 M ∧ (v = sp_pasV (rr_ M0)) ∧ (rr_ M = sp_pasW lw (rr_ M0)) ∧ (r9 M0 M) ∧ (M 228 1 = if v < 0 then v else 0) ∧ (M 229 = bmp (M0 229) v) ∧ (tlR M (if 0 ≤ v then tpush tl (4, rr_ M0) else tl)) ∧ (rz [1, 8] M0 M)) ∧ px_Cl xs L d 259 [.ref 228] (sh, M0) (some (.int (iI v))) (sh, M) := by
  obtain ⟨d, rfl⟩ : ∃ e, d = e + 1 := ⟨d - 1, by omega⟩
  have q0 : px_qk sh [228, 229, 230, 233, 234, 246, 248, 249, 250] M0 M0 := ⟨hF, hG, eo_rf⟩
  refine vc_i (Nat.le_of_ble_eq_true rfl) ?_
  show px_R xs L d 259 (0, [.ref 228], [], (sh, M0)) (fun r h' => ∃ v M', r = some (.int (iI v)) ∧ h' = (sh, M') ∧ px_qk sh [228, 229, 230, 233, 234, 246, 248, 249, 250] M0 M' ∧ v = sp_pasV (rr_ M0) ∧ rr_ M' = sp_pasW lw (rr_ M0) ∧ r9 M0 M' ∧ (M' 228 1 = if v < 0 then v else 0) ∧ M' 229 = bmp (M0 229) v ∧ tlR M' (if 0 ≤ v then tpush tl (4, rr_ M0) else tl) ∧ rz [1, 8] M0 M')
  refine rr_aload_n pf_259_0 rfl ?_
  refine rr_iconst pf_259_1 ?_
  refine vr_putI hW q0 pf_259_2 po_259 pg_9_177 (Or.inl rfl) rfl (ws_228 hW) (by decide) (by unfold rg; omega) (by decide) (fun M1 eM1 q2 => ?_)
  have rq3 := rz_up (rz_rf [1, 8] M0) eM1 (by decide)
  have row4 := (rr_eq (M := M0) (M2 := M1) (by rw [eM1, ask_ne (by decide)])).trans (rfl : rr_ M0 = rr_ M0)
  have ninerow4 := r9_tr (r9_rf M0) (r9_eq (M := M0) (M2 := M1) (by rw [eM1, ask_ne (by decide)]))
  have f5 : M1 228 8 = M0 228 8 := (show M1 228 8 = M0 228 8 by rw [eM1, up_ne (by decide)]).trans (rfl : M0 228 8 = M0 228 8)
  have e6 : M1 229 = M0 229 := (show M1 229 = M0 229 by rw [eM1, ask_ne (by decide)]).trans (rfl : M0 229 = M0 229)
  have e7 : M1 230 = M0 230 := (show M1 230 = M0 230 by rw [eM1, ask_ne (by decide)]).trans (rfl : M0 230 = M0 230)
  have e8 : M1 233 = M0 233 := (show M1 233 = M0 233 by rw [eM1, ask_ne (by decide)]).trans (rfl : M0 233 = M0 233)
  have e9 : M1 234 = M0 234 := (show M1 234 = M0 234 by rw [eM1, ask_ne (by decide)]).trans (rfl : M0 234 = M0 234)
  refine rr_aload_n pf_259_5 rfl ?_
  refine rr_aload_n pf_259_6 rfl ?_
  obtain ⟨r12, M10, ⟨kq11, pv_M10, pr_M10, p9_M10, pt_M10, pf_M10⟩, hcM10⟩ := ct_R_passNow (xs := xs) (L := L) (d := d) (lw := lw) (tl := tl) (by omega) hW q2.1 q2.2.1 (by rw [rr_eq e7]; exact hρ) (lwR_eq e7 hlw) ((rq3 20 (by decide) (by decide)).trans hord) (tlR_eq htl f5 e8 e9) (by rw [rr_eq e7]; exact h999)
  have q11 := qk_trm q2 kq11 (by decide)
  rw [rr_eq e7] at pv_M10
  rw [rr_eq e7] at pr_M10
  rw [rr_eq e7] at pt_M10
  have rq13 := rz_rs rq3 pf_M10 (by decide)
  have e14 : M10 229 = M0 229 := (kq11.2.2 229 (by decide)).trans e6
  refine rr_cV0 pf_259_7 po_259 pc_9_499 (ws_228 hW) po_260 (by decide) rfl hcM10 ?_
  have nnM10 := r9_tr ninerow4 p9_M10
  have hvb := pasV_b hρ
  obtain ⟨M15, ⟨kq16, taM15, tbM15⟩, hcM15⟩ := ct_R_tell (xs := xs) (L := L) (d := d) (v := r12) (by omega) hW q11.1 q11.2.1 (by unfold rg; omega) (by omega) (by rw [e14]; exact hrf)
  have q16 := qk_trm q11 kq16 (by decide)
  have rq17 := rz_tell rq13 taM15 (by decide)
  have stM15 : M15 228 1 = if (r12 : Int) < 0 then r12 else 0 := by rw [taM15, up_s]
  have rfM15 : M15 229 = bmp (M0 229) r12 := by rw [tbM15, e14]; rfl
  have row18 := (rr_eq (kq16.2.2 230 (by decide))).trans pr_M10
  have ninerow18 := r9_tr nnM10 (r9_eq (kq16.2.2 230 (by decide)))
  refine rr_cV1 pf_259_10 po_259 pc_9_186 (ws_228 hW) po_176 (by decide) rfl hcM15 ?_
  refine rr_iret pf_259_13 pt_259 ⟨_, M15, rfl, rfl, q16, (pv_M10), (row18), (ninerow18), (stM15), (rfM15), (tlR_eq pt_M10 (by rw [taM15, up_ne (by decide)]) (kq16.2.2 233 (by decide)) (kq16.2.2 234 (by decide))), (rq17)⟩
