/-! the reference: undoing, images, the tape -/
theorem ct_R_undo0 {xs : Nat → Int} {L d : Nat} {sh : List (Nat × Nat)} {M0 : Nat → Nat → Int} (hd : 3 ≤ d) (hW : px_W0 <+: sh) (hF : px_Fx M0) (hG : px_RG sh M0)  (hrf : ∀ j, j < 7 → 0 ≤ M0 229 j ∧ M0 229 j ≤ 1000000000) (htl : tlR M0 []) : ∃ v M, (px_qk sh [228, 229, 230] M0 M ∧ (v = -3) ∧ (M 230 = M0 230) ∧ (M 228 1 = -3) ∧ (M 229 = bmp (M0 229) (-3)) ∧ (rz [1] M0 M)) ∧ px_Cl xs L d 175 [.ref 228] (sh, M0) (some (.int (iI v))) (sh, M) := by
  obtain ⟨d, rfl⟩ : ∃ e, d = e + 1 := ⟨d - 1, by omega⟩
  have q0 : px_qk sh [228, 229, 230] M0 M0 := ⟨hF, hG, eo_rf⟩
  refine vc_i (Nat.le_of_ble_eq_true rfl) ?_
  show px_R xs L d 175 (0, [.ref 228], [], (sh, M0)) (fun r h' => ∃ v M', r = some (.int (iI v)) ∧ h' = (sh, M') ∧ px_qk sh [228, 229, 230] M0 M' ∧ v = -3 ∧ M' 230 = M0 230 ∧ M' 228 1 = -3 ∧ M' 229 = bmp (M0 229) (-3) ∧ rz [1] M0 M')
  refine rr_aload_n pf_175_0 rfl ?_
  refine rr_iconst pf_175_1 ?_
  refine vr_putI hW q0 pf_175_2 po_175 pg_9_177 (Or.inl rfl) rfl (ws_228 hW) (by decide) (by unfold rg; omega) (by decide) (fun M1 eM1 q2 => ?_)
  have rq3 := rz_up (rz_rf [1] M0) eM1 (by decide)
  have f4 : M1 228 8 = M0 228 8 := (show M1 228 8 = M0 228 8 by rw [eM1, up_ne (by decide)]).trans (rfl : M0 228 8 = M0 228 8)
  have e5 : M1 229 = M0 229 := (show M1 229 = M0 229 by rw [eM1, ask_ne (by decide)]).trans (rfl : M0 229 = M0 229)
  have e6 : M1 230 = M0 230 := (show M1 230 = M0 230 by rw [eM1, ask_ne (by decide)]).trans (rfl : M0 230 = M0 230)
  refine rr_aload_n pf_175_5 rfl ?_
  refine vr_getI q2 pf_175_6 po_175 pg_9_183 rfl (ws_228 hW) (by decide) (fun x7 hx7 rx7 => ?_)
  rw [rq3 8 (by decide) (by decide)] at hx7
  rw [show M0 228 8 = 0 from htl.1] at hx7
  refine rr_if_ne 19 pf_175_9 (by decide) rx7 (fun c8 => ?_) (fun c8 => ?_)
  · exfalso; omega
  · refine rr_aload_n pf_175_12 rfl ?_
    refine rr_bipush pf_175_13 (by decide) ?_
    obtain ⟨M9, ⟨kq10, taM9, tbM9⟩, hcM9⟩ := ct_R_tell (xs := xs) (L := L) (d := d) (v := (-3)) (by omega) hW q2.1 q2.2.1 (by unfold rg; omega) (by omega) (by rw [e5]; exact hrf)
    have q10 := qk_trm q2 kq10 (by decide)
    have rq11 := rz_tell rq3 taM9 (by decide)
    have stM9 : M9 228 1 = if ((-3) : Int) < 0 then (-3) else 0 := by rw [taM9, up_s]
    have rfM9 : M9 229 = bmp (M0 229) (-3) := by rw [tbM9, e5]; rfl
    have n8M9 : M9 228 8 = M0 228 8 := by rw [taM9, up_ne (by decide)]; exact f4
    have e12 : M9 230 = M0 230 := (kq10.2.2 230 (by decide)).trans e6
    refine rr_cV1 pf_175_15 po_175 pc_9_186 (ws_228 hW) po_176 (by decide) rfl hcM9 ?_
    refine rr_iret pf_175_18 pt_175 ⟨_, M9, rfl, rfl, q10, (by rfl), (e12), (stM9), (rfM9), (rq11)⟩
theorem ct_R_undo1 {xs : Nat → Int} {L d : Nat} {sh : List (Nat × Nat)} {M0 : Nat → Nat → Int} (hd : 3 ≤ d) (hW : px_W0 <+: sh) (hF : px_Fx M0) (hG : px_RG sh M0)  (hrf : ∀ j, j < 7 → 0 ≤ M0 229 j ∧ M0 229 j ≤ 1000000000) {t2 : sp_T} {e : Int × (Nat → Int)} (htl : tlR M0 (t2 ++ [e])) (hk : 0 ≤ e.1 ∧ e.1 ≤ 4) : ∃ v M, (px_qk sh [228, 229, 230] M0 M ∧ (v = e.1) ∧ (rr_ M = fun j => if 5 ≤ j ∧ j < 69 then e.2 j else rr_ M0 j) ∧ (r9 M0 M) ∧ (tlR M t2) ∧ (M 228 1 = 0) ∧ (M 229 = M0 229) ∧ (rz [1, 8] M0 M)) ∧ px_Cl xs L d 175 [.ref 228] (sh, M0) (some (.int (iI v))) (sh, M) := by
  obtain ⟨d, rfl⟩ : ∃ e, d = e + 1 := ⟨d - 1, by omega⟩
  have q0 : px_qk sh [228, 229, 230] M0 M0 := ⟨hF, hG, eo_rf⟩
  have hlen : (t2 ++ [e]).length = t2.length + 1 := by simp
  have h8 := htl.1
  have h16 := htl.2.1
  rw [hlen] at h8 h16
  obtain ⟨e2, he2, hso, hsn⟩ := htl.2.2 t2.length (by rw [hlen]; omega)
  rw [List.getElem?_append_right (Nat.le_refl _), Nat.sub_self] at he2
  obtain rfl : e = e2 := by simpa using he2
  refine vc_i (Nat.le_of_ble_eq_true rfl) ?_
  show px_R xs L d 175 (0, [.ref 228], [], (sh, M0)) (fun r h' => ∃ v M', r = some (.int (iI v)) ∧ h' = (sh, M') ∧ px_qk sh [228, 229, 230] M0 M' ∧ v = e.1 ∧ (rr_ M' = fun j => if 5 ≤ j ∧ j < 69 then e.2 j else rr_ M0 j) ∧ r9 M0 M' ∧ tlR M' t2 ∧ M' 228 1 = 0 ∧ M' 229 = M0 229 ∧ rz [1, 8] M0 M')
  refine rr_aload_n pf_175_0 rfl ?_
  refine rr_iconst pf_175_1 ?_
  refine vr_putI hW q0 pf_175_2 po_175 pg_9_177 (Or.inl rfl) rfl (ws_228 hW) (by decide) (by unfold rg; omega) (by decide) (fun M1 eM1 q2 => ?_)
  have rq3 := rz_up (rz_rf [1, 8] M0) eM1 (by decide)
  have f4 : M1 228 8 = M0 228 8 := (show M1 228 8 = M0 228 8 by rw [eM1, up_ne (by decide)]).trans (rfl : M0 228 8 = M0 228 8)
  have e5 : M1 229 = M0 229 := (show M1 229 = M0 229 by rw [eM1, ask_ne (by decide)]).trans (rfl : M0 229 = M0 229)
  have e6 : M1 230 = M0 230 := (show M1 230 = M0 230 by rw [eM1, ask_ne (by decide)]).trans (rfl : M0 230 = M0 230)
  have e7 : M1 233 = M0 233 := (show M1 233 = M0 233 by rw [eM1, ask_ne (by decide)]).trans (rfl : M0 233 = M0 233)
  have e8 : M1 234 = M0 234 := (show M1 234 = M0 234 by rw [eM1, ask_ne (by decide)]).trans (rfl : M0 234 = M0 234)
  refine rr_aload_n pf_175_5 rfl ?_
  refine vr_getI q2 pf_175_6 po_175 pg_9_183 rfl (ws_228 hW) (by decide) (fun x9 hx9 rx9 => ?_)
  rw [f4, h8] at hx9
  refine rr_if_ne 19 pf_175_9 (by decide) rx9 (fun c10 => ?_) (fun c10 => ?_)
  · refine rr_aload_n pf_175_19 rfl ?_
    refine rr_dup pf_175_20 rfl ?_
    refine vr_getI q2 pf_175_21 po_175 pg_9_183 rfl (ws_228 hW) (by decide) (fun x11 hx11 rx11 => ?_)
    rw [f4, h8] at hx11
    refine rr_iconst pf_175_24 ?_
    refine rr_isub pf_175_25 ?_
    refine vr_putI hW q2 pf_175_26 po_175 pg_9_183 (Or.inl rfl) rfl (ws_228 hW) (by decide) (by unfold rg; omega) (by decide) (fun M12 eM12 q13 => ?_)
    have rq14 := rz_up rq3 eM12 (by decide)
    have e16 : M12 229 = M0 229 := (show M12 229 = M1 229 by rw [eM12, ask_ne (by decide)]).trans e5
    have e17 : M12 230 = M0 230 := (show M12 230 = M1 230 by rw [eM12, ask_ne (by decide)]).trans e6
    have e18 : M12 233 = M0 233 := (show M12 233 = M1 233 by rw [eM12, ask_ne (by decide)]).trans e7
    have e19 : M12 234 = M0 234 := (show M12 234 = M1 234 by rw [eM12, ask_ne (by decide)]).trans e8
    refine rr_aload_n pf_175_29 rfl ?_
    refine rr_aload_n pf_175_30 rfl ?_
    refine vr_getI q13 pf_175_31 po_175 pg_9_183 rfl (ws_228 hW) (by decide) (fun x20 hx20 rx20 => ?_)
    rw [eM12, up_s] at hx20
    obtain ⟨M21, ⟨kq22, kb_M21⟩, hcM21⟩ := ct_R_putBack (xs := xs) (L := L) (d := d) (k := (t2.length)) (by omega) hW q13.1 q13.2.1 (by omega)
    rw [show ((t2.length : Nat) : Int) = x20 by omega] at hcM21
    have q22 := qk_trm q13 kq22 (by decide)
    have rq23 := rz_q rq14 kq22 (by decide)
    have e24 : M21 229 = M0 229 := (kq22.2.2 229 (by decide)).trans e16
    have e25 : M21 233 = M0 233 := (kq22.2.2 233 (by decide)).trans e18
    have e26 : M21 234 = M0 234 := (kq22.2.2 234 (by decide)).trans e19
    refine rr_cV1 pf_175_34 po_175 pc_9_194 (ws_228 hW) po_177 (by decide) rfl hcM21 ?_
    
    refine rr_aload_n pf_175_37 rfl ?_
    refine rr_aload_n pf_175_38 rfl ?_
    refine rr_getR pf_175_39 po_175 pg_9_26 rfl (ws_228 hW) (by decide) (wr_228_7 q22.1) ?_
    refine rr_aload_n pf_175_42 rfl ?_
    refine vr_getI q22 pf_175_43 po_175 pg_9_183 rfl (ws_228 hW) (by decide) (fun x27 hx27 rx27 => ?_)
    rw [kq22.2.2 228 (by decide), eM12, up_s] at hx27
    refine vr_iald (j := t2.length) q22 pf_175_46 (ws_234 hW) (by omega) (by omega) (by decide) (fun x28 hx28 rx28 => ?_)
    rw [q22.2.2 234 (by decide)] at hx28
    rw [hso] at hx28
    obtain ⟨M29, ⟨kq30, taM29, tbM29⟩, hcM29⟩ := ct_R_tell (xs := xs) (L := L) (d := d) (v := x28) (by omega) hW q22.1 q22.2.1 (by unfold rg; omega) (by omega) (by rw [e24]; exact hrf)
    have q30 := qk_trm q22 kq30 (by decide)
    have rq31 := rz_tell rq23 taM29 (by decide)
    have stM29 : M29 228 1 = if (x28 : Int) < 0 then x28 else 0 := by rw [taM29, up_s]
    have rfM29 : M29 229 = bmp (M0 229) x28 := by rw [tbM29, e24]; rfl
    have e32 : M29 233 = M0 233 := (kq30.2.2 233 (by decide)).trans e25
    have e33 : M29 234 = M0 234 := (kq30.2.2 234 (by decide)).trans e26
    refine rr_cV1 pf_175_47 po_175 pc_9_186 (ws_228 hW) po_176 (by decide) rfl hcM29 ?_
    refine rr_iret pf_175_50 pt_175 ⟨_, M29, rfl, rfl, q30, (by omega), (by
              funext j
              unfold rr_
              by_cases hj : j < 109
              · rw [if_pos hj, kq30.2.2 230 (by decide), kb_M21]
                by_cases hc : 5 ≤ j ∧ j < 69
                · rw [if_pos (by omega), if_pos (by omega), e18, show 64 * t2.length + (j - 5) = (j - 5) + 64 * t2.length by omega, hsn (j - 5) (by omega), show 5 + (j - 5) = j by omega]
                · rw [if_neg (by omega), if_neg hc, if_pos hj, e17]
              · rw [if_neg hj, if_neg (by omega), if_neg hj]), (by
              intro j hj
              rw [kq30.2.2 230 (by decide), kb_M21, if_neg (by omega), e17]), (by
              refine ⟨by rw [taM29, up_ne (by decide), kq22.2.2 228 (by decide), eM12, up_s]; omega, by omega, fun k hk2 => ?_⟩
              obtain ⟨e3, a, b, c⟩ := htl.2.2 k (by rw [hlen]; omega)
              rw [List.getElem?_append_left hk2] at a
              exact ⟨e3, a, by rw [e33]; exact b, fun i hi => by rw [e32]; exact c i hi⟩), (by rw [stM29, if_neg (by omega)]), (by rw [rfM29]; unfold bmp; rw [if_neg (by omega)]), (rq31)⟩
  · exfalso; omega
theorem ct_R_imageX {xs : Nat → Int} {L d : Nat} {sh : List (Nat × Nat)} {M0 : Nat → Nat → Int} (hd : 3 ≤ d) (hW : px_W0 <+: sh) (hF : px_Fx M0) (hG : px_RG sh M0)  (hrf : ∀ j, j < 7 → 0 ≤ M0 229 j ∧ M0 229 j ≤ 1000000000) {k : Int} (hk0 : rg k) (hkx : ¬ (0 ≤ k ∧ k ≤ 1)) : ∃ v M, (px_qk sh [228, 229] M0 M ∧ (v = -1) ∧ (M 228 1 = -1) ∧ (M 229 = bmp (M0 229) (-1)) ∧ (rz [1] M0 M)) ∧ px_Cl xs L d 178 [.ref 228, .int (iI (k))] (sh, M0) (some (.int (iI v))) (sh, M) := by
  obtain ⟨d, rfl⟩ : ∃ e, d = e + 1 := ⟨d - 1, by omega⟩
  have q0 : px_qk sh [228, 229] M0 M0 := ⟨hF, hG, eo_rf⟩
  refine vc_i (Nat.le_of_ble_eq_true rfl) ?_
  show px_R xs L d 178 (0, [.ref 228, .int (iI (k)), px_jk], [], (sh, M0)) (fun r h' => ∃ v M', r = some (.int (iI v)) ∧ h' = (sh, M') ∧ px_qk sh [228, 229] M0 M' ∧ v = -1 ∧ M' 228 1 = -1 ∧ M' 229 = bmp (M0 229) (-1) ∧ rz [1] M0 M')
  refine rr_aload_n pf_178_0 rfl ?_
  refine rr_iconst pf_178_1 ?_
  refine vr_putI hW q0 pf_178_2 po_178 pg_9_177 (Or.inl rfl) rfl (ws_228 hW) (by decide) (by unfold rg; omega) (by decide) (fun M1 eM1 q2 => ?_)
  have rq3 := rz_up (rz_rf [1] M0) eM1 (by decide)
  have e4 : M1 229 = M0 229 := (show M1 229 = M0 229 by rw [eM1, ask_ne (by decide)]).trans (rfl : M0 229 = M0 229)
  refine rr_iload_n pf_178_5 rfl ?_
  refine rr_i2l pf_178_6 hk0 ?_
  refine rr_lconst (w := 0) pf_178_7 rfl ?_
  refine rr_lconst (w := 1) pf_178_8 rfl ?_
  refine rr_cS3 pf_178_9 po_178 pc_9_197 (by decide) rfl (ct_R_in (by omega) (rl_rg hk0) (by unfold rl; omega) (by unfold rl; omega)) ?_
  refine rr_ifb_ne 21 pf_178_12 (by decide) (fun c5 => ?_) (fun c5 => ?_)
  · exfalso; omega
  · refine rr_aload_n pf_178_15 rfl ?_
    refine rr_iconst pf_178_16 ?_
    obtain ⟨M6, ⟨kq7, taM6, tbM6⟩, hcM6⟩ := ct_R_tell (xs := xs) (L := L) (d := d) (v := (-1)) (by omega) hW q2.1 q2.2.1 (by unfold rg; omega) (by omega) (by rw [e4]; exact hrf)
    have q7 := qk_trm q2 kq7 (by decide)
    have rq8 := rz_tell rq3 taM6 (by decide)
    have stM6 : M6 228 1 = if ((-1) : Int) < 0 then (-1) else 0 := by rw [taM6, up_s]
    have rfM6 : M6 229 = bmp (M0 229) (-1) := by rw [tbM6, e4]; rfl
    refine rr_cV1 pf_178_17 po_178 pc_9_186 (ws_228 hW) po_176 (by decide) rfl hcM6 ?_
    refine rr_iret pf_178_20 pt_178 ⟨_, M6, rfl, rfl, q7, (by rfl), (stM6), (rfM6), (rq8)⟩
theorem lp_R_image_23 {xs : Nat → Int} {L d : Nat} {sh : List (Nat × Nat)} (hd : 2 ≤ d) (hW : px_W0 <+: sh) {M0 : Nat → Nat → Int}  {k : Nat} (hk : k < 2)  {Q : Option Value → px_H → Prop} (kx : ∀ (i : Nat) (M : Nat → Nat → Int), px_qk sh [231] M0 M → (∀ j, M 231 j = if 5510 * k ≤ j ∧ j < 5510 * k + 5510 then M0 230 (j - 5510 * k) else M0 231 j) → px_R xs L d 178 (54, [.ref 228, .int (iI (((k : Nat) : Int))), .int (iI (((i : Nat) : Int)))], [], (sh, M)) Q)  : ∀ (m : Nat) (i : Nat) (M : Nat → Nat → Int), 5510 - i = m → px_qk sh [231] M0 M → (i ≤ 5510) → (∀ j, M 231 j = if 5510 * k ≤ j ∧ j < 5510 * k + i then M0 230 (j - 5510 * k) else M0 231 j) → px_R xs L d 178 (23, [.ref 228, .int (iI (((k : Nat) : Int))), .int (iI (((i : Nat) : Int)))], [], (sh, M)) Q := by
  intro m
  induction m using Nat.strongRecOn with
  | _ m ih =>
    intro i M hm hq hi hv
    refine rr_iload_n pf_178_23 rfl ?_
    refine rr_sipush pf_178_24 (by decide) ?_
    refine rr_icmp_ge 54 pf_178_27 (by decide) (by unfold rg; omega) (by unfold rg; omega) (fun c1 => ?_) (fun c1 => ?_)
    · exact kx i M hq (by rw [show i = 5510 by omega] at hv; exact hv)
    · refine rr_aload_n pf_178_30 rfl ?_
      refine rr_getR pf_178_31 po_178 pg_9_16 rfl (ws_228 hW) (by decide) (wr_228_4 hq.1) ?_
      refine rr_sipush pf_178_34 (by decide) ?_
      refine rr_iload_n pf_178_37 rfl ?_
      refine rr_imul pf_178_38 ?_
      refine rr_iload_n pf_178_39 rfl ?_
      refine rr_iadd pf_178_40 ?_
      refine rr_aload_n pf_178_41 rfl ?_
      refine rr_getR pf_178_42 po_178 pg_9_13 rfl (ws_228 hW) (by decide) (wr_228_3 hq.1) ?_
      refine rr_iload_n pf_178_45 rfl ?_
      refine vr_iald (j := i) hq pf_178_46 (ws_230 hW) (by omega) (by omega) (by decide) (fun x2 hx2 rx2 => ?_)
      rw [hq.2.2 230 (by decide)] at hx2
      have hx9 := hx2
      refine vr_iast (j := i + 5510 * k) hW hq pf_178_47 (ws_231 hW) (by omega) (by omega) (by decide) rx2 (by decide) (fun M3 eM3 q4 => ?_)
      refine rr_iinc pf_178_48 rfl (fun y => [.ref 228, .int (iI (((k : Nat) : Int))), .int (iI (y))]) (fun _ => rfl) (fun y5 hy5 => ?_)
      refine rr_goto 23 pf_178_51 (by decide) ?_
      obtain ⟨n6, hn6, rfl⟩ : ∃ zz : Nat, zz = 1 + i ∧ y5 = ((zz : Nat) : Int) := ⟨1 + i, rfl, by omega⟩
      exact ih _ (by omega) n6 M3 rfl q4 (by omega) (by
                  intro j; rw [eM3, ask_up]; by_cases hj : j = i + 5510 * k
                  · rw [if_pos hj, if_pos (by omega), hx9]; congr 1; omega
                  · rw [if_neg hj, hv]; by_cases hc : 5510 * k ≤ j ∧ j < 5510 * k + i
                    · rw [if_pos hc, if_pos (by omega)]
                    · rw [if_neg hc, if_neg (by omega)])
theorem ct_R_image {xs : Nat → Int} {L d : Nat} {sh : List (Nat × Nat)} {M0 : Nat → Nat → Int} (hd : 3 ≤ d) (hW : px_W0 <+: sh) (hF : px_Fx M0) (hG : px_RG sh M0)  (hrf : ∀ j, j < 7 → 0 ≤ M0 229 j ∧ M0 229 j ≤ 1000000000) {k : Nat} (hk : k < 2) : ∃ v M, (px_qk sh [228, 229, 231, 232] M0 M ∧ (v = 0) ∧ (∀ j, M 231 j = if 5510 * k ≤ j ∧ j < 5510 * k + 5510 then M0 230 (j - 5510 * k) else M0 231 j) ∧ (M 232 = px_up M0 232 k 1 232) ∧ (M 228 1 = 0) ∧ (M 229 = M0 229) ∧ (rz [1] M0 M)) ∧ px_Cl xs L d 178 [.ref 228, .int (iI (((k : Nat) : Int)))] (sh, M0) (some (.int (iI v))) (sh, M) := by
  obtain ⟨d, rfl⟩ : ∃ e, d = e + 1 := ⟨d - 1, by omega⟩
  have q0 : px_qk sh [228, 229, 231, 232] M0 M0 := ⟨hF, hG, eo_rf⟩
  refine vc_i (Nat.le_of_ble_eq_true rfl) ?_
  show px_R xs L d 178 (0, [.ref 228, .int (iI (((k : Nat) : Int))), px_jk], [], (sh, M0)) (fun r h' => ∃ v M', r = some (.int (iI v)) ∧ h' = (sh, M') ∧ px_qk sh [228, 229, 231, 232] M0 M' ∧ v = 0 ∧ (∀ j, M' 231 j = if 5510 * k ≤ j ∧ j < 5510 * k + 5510 then M0 230 (j - 5510 * k) else M0 231 j) ∧ M' 232 = px_up M0 232 k 1 232 ∧ M' 228 1 = 0 ∧ M' 229 = M0 229 ∧ rz [1] M0 M')
  refine rr_aload_n pf_178_0 rfl ?_
  refine rr_iconst pf_178_1 ?_
  refine vr_putI hW q0 pf_178_2 po_178 pg_9_177 (Or.inl rfl) rfl (ws_228 hW) (by decide) (by unfold rg; omega) (by decide) (fun M1 eM1 q2 => ?_)
  have rq3 := rz_up (rz_rf [1] M0) eM1 (by decide)
  have e4 : M1 229 = M0 229 := (show M1 229 = M0 229 by rw [eM1, ask_ne (by decide)]).trans (rfl : M0 229 = M0 229)
  have e5 : M1 230 = M0 230 := (show M1 230 = M0 230 by rw [eM1, ask_ne (by decide)]).trans (rfl : M0 230 = M0 230)
  have e6 : M1 232 = M0 232 := (show M1 232 = M0 232 by rw [eM1, ask_ne (by decide)]).trans (rfl : M0 232 = M0 232)
  refine rr_iload_n pf_178_5 rfl ?_
  refine rr_i2l pf_178_6 (by unfold rg; omega) ?_
  refine rr_lconst (w := 0) pf_178_7 rfl ?_
  refine rr_lconst (w := 1) pf_178_8 rfl ?_
  refine rr_cS3 pf_178_9 po_178 pc_9_197 (by decide) rfl (ct_R_in (by omega) (by unfold rl; omega) (by unfold rl; omega) (by unfold rl; omega)) ?_
  refine rr_ifb_ne 21 pf_178_12 (by decide) (fun c7 => ?_) (fun c7 => ?_)
  · refine rr_iconst pf_178_21 ?_
    refine rr_istore_n pf_178_22 (fun y => [.ref 228, .int (iI (((k : Nat) : Int))), .int (iI (y))]) (Nat.le_of_ble_eq_true rfl) (fun _ => rfl) (fun y8 hy8 => ?_)
    obtain ⟨n9, hn9, rfl⟩ : ∃ zz : Nat, zz = 0 ∧ y8 = ((zz : Nat) : Int) := ⟨0, rfl, by omega⟩
    refine lp_R_image_23 (xs := xs) (L := L) (d := d) (by omega) hW hk (fun i_10  M11 q12 xv_M11 => ?_) _ n9 M1 rfl ⟨q2.1, q2.2.1, eo_rf⟩ (by omega) (by intro j; rw [if_neg (by omega)])
    have q13 := qk_trm q2 q12 (by decide)
    have rq14 := rz_q rq3 q12 (by decide)
    have e15 : M11 229 = M0 229 := (q12.2.2 229 (by decide)).trans e4
    have e16 : M11 230 = M0 230 := (q12.2.2 230 (by decide)).trans e5
    have e17 : M11 232 = M0 232 := (q12.2.2 232 (by decide)).trans e6
    refine rr_aload_n pf_178_54 rfl ?_
    refine rr_getR pf_178_55 po_178 pg_9_19 rfl (ws_228 hW) (by decide) (wr_228_5 q13.1) ?_
    refine rr_iload_n pf_178_58 rfl ?_
    refine rr_iconst pf_178_59 ?_
    refine vr_bast (j := k) hW q13 pf_178_60 (ws_232 hW) (by omega) (by omega) (by decide) (by omega) (by decide) (fun M18 eM18 q19 => ?_)
    have rq20 := rz_ne rq14 eM18 (by decide)
    have e21 : M18 229 = M0 229 := (show M18 229 = M11 229 by rw [eM18, ask_ne (by decide)]).trans e15
    have e22 : M18 230 = M0 230 := (show M18 230 = M11 230 by rw [eM18, ask_ne (by decide)]).trans e16
    refine rr_aload_n pf_178_61 rfl ?_
    refine rr_iconst pf_178_62 ?_
    obtain ⟨M23, ⟨kq24, taM23, tbM23⟩, hcM23⟩ := ct_R_tell (xs := xs) (L := L) (d := d) (v := 0) (by omega) hW q19.1 q19.2.1 (by unfold rg; omega) (by omega) (by rw [e21]; exact hrf)
    have q24 := qk_trm q19 kq24 (by decide)
    have rq25 := rz_tell rq20 taM23 (by decide)
    have stM23 : M23 228 1 = if (0 : Int) < 0 then 0 else 0 := by rw [taM23, up_s]
    have rfM23 : M23 229 = bmp (M0 229) 0 := by rw [tbM23, e21]; rfl
    have e26 : M23 230 = M0 230 := (kq24.2.2 230 (by decide)).trans e22
    refine rr_cV1 pf_178_63 po_178 pc_9_186 (ws_228 hW) po_176 (by decide) rfl hcM23 ?_
    refine rr_iret pf_178_66 pt_178 ⟨_, M23, rfl, rfl, q24, (by rfl), (by
              intro j
              rw [kq24.2.2 231 (by decide), eM18, ask_ne (by decide), xv_M11 j, eM1, ask_ne (by decide), ask_ne (by decide)]), (by rw [kq24.2.2 232 (by decide), eM18, up_self, up_self, e17]), (stM23), (rfM23), (rq25)⟩
  · exfalso; omega
theorem ct_R_backX {xs : Nat → Int} {L d : Nat} {sh : List (Nat × Nat)} {M0 : Nat → Nat → Int} (hd : 3 ≤ d) (hW : px_W0 <+: sh) (hF : px_Fx M0) (hG : px_RG sh M0)  (hrf : ∀ j, j < 7 → 0 ≤ M0 229 j ∧ M0 229 j ≤ 1000000000) {k : Int} (hk0 : rg k) (hkx : ¬ (0 ≤ k ∧ k ≤ 1)) : ∃ v M, (px_qk sh [228, 229] M0 M ∧ (v = -1) ∧ (M 228 1 = -1) ∧ (M 229 = bmp (M0 229) (-1)) ∧ (rz [1] M0 M)) ∧ px_Cl xs L d 180 [.ref 228, .int (iI (k))] (sh, M0) (some (.int (iI v))) (sh, M) := by
  obtain ⟨d, rfl⟩ : ∃ e, d = e + 1 := ⟨d - 1, by omega⟩
  have q0 : px_qk sh [228, 229] M0 M0 := ⟨hF, hG, eo_rf⟩
  refine vc_i (Nat.le_of_ble_eq_true rfl) ?_
  show px_R xs L d 180 (0, [.ref 228, .int (iI (k)), px_jk], [], (sh, M0)) (fun r h' => ∃ v M', r = some (.int (iI v)) ∧ h' = (sh, M') ∧ px_qk sh [228, 229] M0 M' ∧ v = -1 ∧ M' 228 1 = -1 ∧ M' 229 = bmp (M0 229) (-1) ∧ rz [1] M0 M')
  refine rr_aload_n pf_180_0 rfl ?_
  refine rr_iconst pf_180_1 ?_
  refine vr_putI hW q0 pf_180_2 po_180 pg_9_177 (Or.inl rfl) rfl (ws_228 hW) (by decide) (by unfold rg; omega) (by decide) (fun M1 eM1 q2 => ?_)
  have rq3 := rz_up (rz_rf [1] M0) eM1 (by decide)
  have e4 : M1 229 = M0 229 := (show M1 229 = M0 229 by rw [eM1, ask_ne (by decide)]).trans (rfl : M0 229 = M0 229)
  refine rr_iload_n pf_180_5 rfl ?_
  refine rr_i2l pf_180_6 hk0 ?_
  refine rr_lconst (w := 0) pf_180_7 rfl ?_
  refine rr_lconst (w := 1) pf_180_8 rfl ?_
  refine rr_cS3 pf_180_9 po_180 pc_9_197 (by decide) rfl (ct_R_in (by omega) (rl_rg hk0) (by unfold rl; omega) (by unfold rl; omega)) ?_
  refine rr_ifb_ne 21 pf_180_12 (by decide) (fun c5 => ?_) (fun c5 => ?_)
  · exfalso; omega
  · refine rr_aload_n pf_180_15 rfl ?_
    refine rr_iconst pf_180_16 ?_
    obtain ⟨M6, ⟨kq7, taM6, tbM6⟩, hcM6⟩ := ct_R_tell (xs := xs) (L := L) (d := d) (v := (-1)) (by omega) hW q2.1 q2.2.1 (by unfold rg; omega) (by omega) (by rw [e4]; exact hrf)
    have q7 := qk_trm q2 kq7 (by decide)
    have rq8 := rz_tell rq3 taM6 (by decide)
    have stM6 : M6 228 1 = if ((-1) : Int) < 0 then (-1) else 0 := by rw [taM6, up_s]
    have rfM6 : M6 229 = bmp (M0 229) (-1) := by rw [tbM6, e4]; rfl
    refine rr_cV1 pf_180_17 po_180 pc_9_186 (ws_228 hW) po_176 (by decide) rfl hcM6 ?_
    refine rr_iret pf_180_20 pt_180 ⟨_, M6, rfl, rfl, q7, (by rfl), (stM6), (rfM6), (rq8)⟩
theorem ct_R_back0 {xs : Nat → Int} {L d : Nat} {sh : List (Nat × Nat)} {M0 : Nat → Nat → Int} (hd : 3 ≤ d) (hW : px_W0 <+: sh) (hF : px_Fx M0) (hG : px_RG sh M0)  (hrf : ∀ j, j < 7 → 0 ≤ M0 229 j ∧ M0 229 j ≤ 1000000000) {k : Nat} (hk : k < 2) (h0 : M0 232 k = 0) : ∃ v M, (px_qk sh [228, 229] M0 M ∧ (v = -2) ∧ (M 228 1 = -2) ∧ (M 229 = bmp (M0 229) (-2)) ∧ (rz [1] M0 M)) ∧ px_Cl xs L d 180 [.ref 228, .int (iI (((k : Nat) : Int)))] (sh, M0) (some (.int (iI v))) (sh, M) := by
  obtain ⟨d, rfl⟩ : ∃ e, d = e + 1 := ⟨d - 1, by omega⟩
  have q0 : px_qk sh [228, 229] M0 M0 := ⟨hF, hG, eo_rf⟩
  refine vc_i (Nat.le_of_ble_eq_true rfl) ?_
  show px_R xs L d 180 (0, [.ref 228, .int (iI (((k : Nat) : Int))), px_jk], [], (sh, M0)) (fun r h' => ∃ v M', r = some (.int (iI v)) ∧ h' = (sh, M') ∧ px_qk sh [228, 229] M0 M' ∧ v = -2 ∧ M' 228 1 = -2 ∧ M' 229 = bmp (M0 229) (-2) ∧ rz [1] M0 M')
  refine rr_aload_n pf_180_0 rfl ?_
  refine rr_iconst pf_180_1 ?_
  refine vr_putI hW q0 pf_180_2 po_180 pg_9_177 (Or.inl rfl) rfl (ws_228 hW) (by decide) (by unfold rg; omega) (by decide) (fun M1 eM1 q2 => ?_)
  have rq3 := rz_up (rz_rf [1] M0) eM1 (by decide)
  have e4 : M1 229 = M0 229 := (show M1 229 = M0 229 by rw [eM1, ask_ne (by decide)]).trans (rfl : M0 229 = M0 229)
  refine rr_iload_n pf_180_5 rfl ?_
  refine rr_i2l pf_180_6 (by unfold rg; omega) ?_
  refine rr_lconst (w := 0) pf_180_7 rfl ?_
  refine rr_lconst (w := 1) pf_180_8 rfl ?_
  refine rr_cS3 pf_180_9 po_180 pc_9_197 (by decide) rfl (ct_R_in (by omega) (by unfold rl; omega) (by unfold rl; omega) (by unfold rl; omega)) ?_
  refine rr_ifb_ne 21 pf_180_12 (by decide) (fun c5 => ?_) (fun c5 => ?_)
  · refine rr_aload_n pf_180_21 rfl ?_
    refine rr_getR pf_180_22 po_180 pg_9_19 rfl (ws_228 hW) (by decide) (wr_228_5 q2.1) ?_
    refine rr_iload_n pf_180_25 rfl ?_
    refine vr_bald (j := k) q2 pf_180_26 (ws_232 hW) (by omega) (by omega) (by decide) (fun x6 hx6 rx6 => ?_)
    rw [q2.2.2 232 (by decide)] at hx6
    refine rr_if_ne 37 pf_180_27 (by decide) rx6 (fun c7 => ?_) (fun c7 => ?_)
    · exfalso; omega
    · refine rr_aload_n pf_180_30 rfl ?_
      refine rr_bipush pf_180_31 (by decide) ?_
      obtain ⟨M8, ⟨kq9, taM8, tbM8⟩, hcM8⟩ := ct_R_tell (xs := xs) (L := L) (d := d) (v := (-2)) (by omega) hW q2.1 q2.2.1 (by unfold rg; omega) (by omega) (by rw [e4]; exact hrf)
      have q9 := qk_trm q2 kq9 (by decide)
      have rq10 := rz_tell rq3 taM8 (by decide)
      have stM8 : M8 228 1 = if ((-2) : Int) < 0 then (-2) else 0 := by rw [taM8, up_s]
      have rfM8 : M8 229 = bmp (M0 229) (-2) := by rw [tbM8, e4]; rfl
      refine rr_cV1 pf_180_33 po_180 pc_9_186 (ws_228 hW) po_176 (by decide) rfl hcM8 ?_
      refine rr_iret pf_180_36 pt_180 ⟨_, M8, rfl, rfl, q9, (by rfl), (stM8), (rfM8), (rq10)⟩
  · exfalso; omega
theorem lp_R_back1_39 {xs : Nat → Int} {L d : Nat} {sh : List (Nat × Nat)} (hd : 2 ≤ d) (hW : px_W0 <+: sh) {M0 : Nat → Nat → Int}  {k : Nat} (hk : k < 2)  {Q : Option Value → px_H → Prop} (kx : ∀ (i : Nat) (M : Nat → Nat → Int), px_qk sh [230] M0 M → (∀ j, M 230 j = if j < 5510 then M0 231 (j + 5510 * k) else M0 230 j) → px_R xs L d 180 (70, [.ref 228, .int (iI (((k : Nat) : Int))), .int (iI (((i : Nat) : Int)))], [], (sh, M)) Q)  : ∀ (m : Nat) (i : Nat) (M : Nat → Nat → Int), 5510 - i = m → px_qk sh [230] M0 M → (i ≤ 5510) → (∀ j, M 230 j = if j < i then M0 231 (j + 5510 * k) else M0 230 j) → px_R xs L d 180 (39, [.ref 228, .int (iI (((k : Nat) : Int))), .int (iI (((i : Nat) : Int)))], [], (sh, M)) Q := by
  intro m
  induction m using Nat.strongRecOn with
  | _ m ih =>
    intro i M hm hq hi hv
    refine rr_iload_n pf_180_39 rfl ?_
    refine rr_sipush pf_180_40 (by decide) ?_
    refine rr_icmp_ge 70 pf_180_43 (by decide) (by unfold rg; omega) (by unfold rg; omega) (fun c1 => ?_) (fun c1 => ?_)
    · exact kx i M hq (by rw [show i = 5510 by omega] at hv; exact hv)
    · refine rr_aload_n pf_180_46 rfl ?_
      refine rr_getR pf_180_47 po_180 pg_9_13 rfl (ws_228 hW) (by decide) (wr_228_3 hq.1) ?_
      refine rr_iload_n pf_180_50 rfl ?_
      refine rr_aload_n pf_180_51 rfl ?_
      refine rr_getR pf_180_52 po_180 pg_9_16 rfl (ws_228 hW) (by decide) (wr_228_4 hq.1) ?_
      refine rr_sipush pf_180_55 (by decide) ?_
      refine rr_iload_n pf_180_58 rfl ?_
      refine rr_imul pf_180_59 ?_
      refine rr_iload_n pf_180_60 rfl ?_
      refine rr_iadd pf_180_61 ?_
      refine vr_iald (j := i + 5510 * k) hq pf_180_62 (ws_231 hW) (by omega) (by omega) (by decide) (fun x2 hx2 rx2 => ?_)
      rw [hq.2.2 231 (by decide)] at hx2
      have hx9 := hx2
      refine vr_iast (j := i) hW hq pf_180_63 (ws_230 hW) (by omega) (by omega) (by decide) rx2 (by decide) (fun M3 eM3 q4 => ?_)
      refine rr_iinc pf_180_64 rfl (fun y => [.ref 228, .int (iI (((k : Nat) : Int))), .int (iI (y))]) (fun _ => rfl) (fun y5 hy5 => ?_)
      refine rr_goto 39 pf_180_67 (by decide) ?_
      obtain ⟨n6, hn6, rfl⟩ : ∃ zz : Nat, zz = 1 + i ∧ y5 = ((zz : Nat) : Int) := ⟨1 + i, rfl, by omega⟩
      exact ih _ (by omega) n6 M3 rfl q4 (by omega) (by
                  intro j; rw [eM3, ask_up]; by_cases hj : j = i
                  · rw [if_pos hj, if_pos (by omega), hx9, hj]
                  · rw [if_neg hj, hv]; by_cases hc : j < i
                    · rw [if_pos hc, if_pos (by omega)]
                    · rw [if_neg hc, if_neg (by omega)])
theorem ct_R_back1 {xs : Nat → Int} {L d : Nat} {sh : List (Nat × Nat)} {M0 : Nat → Nat → Int} (hd : 3 ≤ d) (hW : px_W0 <+: sh) (hF : px_Fx M0) (hG : px_RG sh M0)  (hrf : ∀ j, j < 7 → 0 ≤ M0 229 j ∧ M0 229 j ≤ 1000000000) {k : Nat} (hk : k < 2) (h0 : M0 232 k = 1) : ∃ v M, (px_qk sh [228, 229, 230] M0 M ∧ (v = 0) ∧ (∀ j, M 230 j = if j < 5510 then M0 231 (j + 5510 * k) else M0 230 j) ∧ (M 228 8 = 0) ∧ (M 228 1 = 0) ∧ (M 229 = M0 229) ∧ (rz [1, 8] M0 M)) ∧ px_Cl xs L d 180 [.ref 228, .int (iI (((k : Nat) : Int)))] (sh, M0) (some (.int (iI v))) (sh, M) := by
  obtain ⟨d, rfl⟩ : ∃ e, d = e + 1 := ⟨d - 1, by omega⟩
  have q0 : px_qk sh [228, 229, 230] M0 M0 := ⟨hF, hG, eo_rf⟩
  refine vc_i (Nat.le_of_ble_eq_true rfl) ?_
  show px_R xs L d 180 (0, [.ref 228, .int (iI (((k : Nat) : Int))), px_jk], [], (sh, M0)) (fun r h' => ∃ v M', r = some (.int (iI v)) ∧ h' = (sh, M') ∧ px_qk sh [228, 229, 230] M0 M' ∧ v = 0 ∧ (∀ j, M' 230 j = if j < 5510 then M0 231 (j + 5510 * k) else M0 230 j) ∧ M' 228 8 = 0 ∧ M' 228 1 = 0 ∧ M' 229 = M0 229 ∧ rz [1, 8] M0 M')
  refine rr_aload_n pf_180_0 rfl ?_
  refine rr_iconst pf_180_1 ?_
  refine vr_putI hW q0 pf_180_2 po_180 pg_9_177 (Or.inl rfl) rfl (ws_228 hW) (by decide) (by unfold rg; omega) (by decide) (fun M1 eM1 q2 => ?_)
  have rq3 := rz_up (rz_rf [1, 8] M0) eM1 (by decide)
  have f4 : M1 228 8 = M0 228 8 := (show M1 228 8 = M0 228 8 by rw [eM1, up_ne (by decide)]).trans (rfl : M0 228 8 = M0 228 8)
  have e5 : M1 229 = M0 229 := (show M1 229 = M0 229 by rw [eM1, ask_ne (by decide)]).trans (rfl : M0 229 = M0 229)
  refine rr_iload_n pf_180_5 rfl ?_
  refine rr_i2l pf_180_6 (by unfold rg; omega) ?_
  refine rr_lconst (w := 0) pf_180_7 rfl ?_
  refine rr_lconst (w := 1) pf_180_8 rfl ?_
  refine rr_cS3 pf_180_9 po_180 pc_9_197 (by decide) rfl (ct_R_in (by omega) (by unfold rl; omega) (by unfold rl; omega) (by unfold rl; omega)) ?_
  refine rr_ifb_ne 21 pf_180_12 (by decide) (fun c6 => ?_) (fun c6 => ?_)
  · refine rr_aload_n pf_180_21 rfl ?_
    refine rr_getR pf_180_22 po_180 pg_9_19 rfl (ws_228 hW) (by decide) (wr_228_5 q2.1) ?_
    refine rr_iload_n pf_180_25 rfl ?_
    refine vr_bald (j := k) q2 pf_180_26 (ws_232 hW) (by omega) (by omega) (by decide) (fun x7 hx7 rx7 => ?_)
    rw [q2.2.2 232 (by decide)] at hx7
    refine rr_if_ne 37 pf_180_27 (by decide) rx7 (fun c8 => ?_) (fun c8 => ?_)
    · refine rr_iconst pf_180_37 ?_
      refine rr_istore_n pf_180_38 (fun y => [.ref 228, .int (iI (((k : Nat) : Int))), .int (iI (y))]) (Nat.le_of_ble_eq_true rfl) (fun _ => rfl) (fun y9 hy9 => ?_)
      obtain ⟨n10, hn10, rfl⟩ : ∃ zz : Nat, zz = 0 ∧ y9 = ((zz : Nat) : Int) := ⟨0, rfl, by omega⟩
      refine lp_R_back1_39 (xs := xs) (L := L) (d := d) (by omega) hW hk (fun i_11  M12 q13 xv_M12 => ?_) _ n10 M1 rfl ⟨q2.1, q2.2.1, eo_rf⟩ (by omega) (by intro j; rw [if_neg (by omega)])
      have q14 := qk_trm q2 q13 (by decide)
      have rq15 := rz_q rq3 q13 (by decide)
      have f16 : M12 228 8 = M0 228 8 := by rw [q13.2.2 228 (by decide)]; exact f4
      have e17 : M12 229 = M0 229 := (q13.2.2 229 (by decide)).trans e5
      refine rr_aload_n pf_180_70 rfl ?_
      refine rr_iconst pf_180_71 ?_
      obtain ⟨M18, ⟨kq19, taM18, tbM18⟩, hcM18⟩ := ct_R_settled (xs := xs) (L := L) (d := d) (v := 0) (by omega) hW q14.1 q14.2.1 (by unfold rg; omega) (by omega) (by rw [e17]; exact hrf)
      have q19 := qk_trm q14 kq19 (by decide)
      have rq20 := rz_sett rq15 taM18 (by decide) (by decide)
      have stM18 : M18 228 1 = if (0 : Int) < 0 then 0 else 0 := by rw [taM18, up_s]
      have rfM18 : M18 229 = bmp (M0 229) 0 := by rw [tbM18, e17]; rfl
      have n8M18 : M18 228 8 = if (0 : Int) < 0 then M0 228 8 else 0 := by rw [taM18, up_ne (by decide), up_s, f16]
      refine rr_cV1 pf_180_72 po_180 pc_9_201 (ws_228 hW) po_181 (by decide) rfl hcM18 ?_
      refine rr_iret pf_180_75 pt_180 ⟨_, M18, rfl, rfl, q19, (by rfl), (by
                  intro j
                  rw [kq19.2.2 230 (by decide), xv_M12 j, eM1, ask_ne (by decide), ask_ne (by decide)]), (n8M18), (stM18), (rfM18), (rq20)⟩
    · exfalso; omega
  · exfalso; omega
/-- the four bytes of a number, the highest first -/
def byt (v : Int) (i : Nat) : Int := v / 2 ^ (24 - 8 * i) % 256
theorem byt_b (v : Int) (i : Nat) : 0 ≤ byt v i ∧ byt v i ≤ 255 := by unfold byt; omega
def tp4 (tn : Nat) (tb : Nat → Int) (v : Int) : Nat → Int := fun j => if tn ≤ j ∧ j < tn + 4 then byt v (j - tn) else tb j
theorem ct_R_four {xs : Nat → Int} {L d : Nat} {sh : List (Nat × Nat)} {M0 : Nat → Nat → Int} (hd : 1 ≤ d) (hW : px_W0 <+: sh) (hF : px_Fx M0) (hG : px_RG sh M0)  {tn : Nat} (h13 : M0 228 13 = ((tn : Nat) : Int)) (htn : tn + 4 ≤ 400) {a : Int} (ha0 : rg a) : ∃ M, (px_qk sh [228, 237] M0 M ∧ (M 237 = tp4 tn (M0 237) a) ∧ (M 228 13 = ((tn + 4 : Nat) : Int)) ∧ (rz [13] M0 M)) ∧ px_Cl xs L d 216 [.ref 228, .int (iI (a))] (sh, M0) (none) (sh, M) := by
  obtain ⟨d, rfl⟩ : ∃ e, d = e + 1 := ⟨d - 1, by omega⟩
  have q0 : px_qk sh [228, 237] M0 M0 := ⟨hF, hG, eo_rf⟩
  refine vc_n (Nat.le_of_ble_eq_true rfl) ?_
  show px_R xs L d 216 (0, [.ref 228, .int (iI (a)), px_jk], [], (sh, M0)) (fun r h' => r = none ∧ ∃ M', h' = (sh, M') ∧ px_qk sh [228, 237] M0 M' ∧ M' 237 = tp4 tn (M0 237) a ∧ M' 228 13 = ((tn + 4 : Nat) : Int) ∧ rz [13] M0 M')
  refine rr_bipush pf_216_0 (by decide) ?_
  refine rr_istore_n pf_216_2 (fun y => [.ref 228, .int (iI (a)), .int (iI (y))]) (Nat.le_of_ble_eq_true rfl) (fun _ => rfl) (fun y1 hy1 => ?_)
  refine rr_iload_n pf_216_3 rfl ?_
  refine rr_if_lt 39 pf_216_4 (by decide) (by unfold rg; omega) (fun c2 => ?_) (fun c2 => ?_)
  · exfalso; omega
  · refine rr_aload_n pf_216_7 rfl ?_
    refine rr_getR pf_216_8 po_216 pg_9_35 rfl (ws_228 hW) (by decide) (wr_228_12 q0.1) ?_
    refine rr_aload_n pf_216_11 rfl ?_
    refine vr_getI q0 pf_216_12 po_216 pg_9_264 rfl (ws_228 hW) (by decide) (fun x3 hx3 rx3 => ?_)
    rw [h13] at hx3
    refine rr_iload_n pf_216_15 rfl ?_
    refine rr_iload_n pf_216_16 rfl ?_
    refine rr_ishr (a / 2 ^ 24) pf_216_17 (by rw [show y1 = ((24 : Nat) : Int) by omega]; exact iI_shr ha0 (by decide)) ?_
    refine rr_sipush pf_216_18 (by decide) ?_
    refine rr_iand ((a / 2 ^ 24) % 256) pf_216_21 iI_m255 ?_
    refine vr_iast (j := tn + 0) hW q0 pf_216_22 (ws_237 hW) (by omega) (by omega) (by decide) (by unfold rg; omega) (by decide) (fun M4 eM4 q5 => ?_)
    have rq6 := rz_ne (rz_rf [13] M0) eM4 (by decide)
    refine rr_aload_n pf_216_23 rfl ?_
    refine rr_dup pf_216_24 rfl ?_
    refine vr_getI q5 pf_216_25 po_216 pg_9_264 rfl (ws_228 hW) (by decide) (fun x7 hx7 rx7 => ?_)
    rw [eM4, ask_ne (by decide), h13] at hx7
    refine rr_iconst pf_216_28 ?_
    refine rr_iadd pf_216_29 ?_
    refine vr_putI hW q5 pf_216_30 po_216 pg_9_264 (Or.inl rfl) rfl (ws_228 hW) (by decide) (by unfold rg; omega) (by decide) (fun M8 eM8 q9 => ?_)
    have rq10 := rz_up rq6 eM8 (by decide)
    refine rr_iinc pf_216_33 rfl (fun y => [.ref 228, .int (iI (a)), .int (iI (y))]) (fun _ => rfl) (fun y11 hy11 => ?_)
    refine rr_goto 3 pf_216_36 (by decide) ?_
    refine rr_iload_n pf_216_3 rfl ?_
    refine rr_if_lt 39 pf_216_4 (by decide) (by unfold rg; omega) (fun c12 => ?_) (fun c12 => ?_)
    · exfalso; omega
    · refine rr_aload_n pf_216_7 rfl ?_
      refine rr_getR pf_216_8 po_216 pg_9_35 rfl (ws_228 hW) (by decide) (wr_228_12 q9.1) ?_
      refine rr_aload_n pf_216_11 rfl ?_
      refine vr_getI q9 pf_216_12 po_216 pg_9_264 rfl (ws_228 hW) (by decide) (fun x13 hx13 rx13 => ?_)
      rw [eM8, up_s] at hx13
      refine rr_iload_n pf_216_15 rfl ?_
      refine rr_iload_n pf_216_16 rfl ?_
      refine rr_ishr (a / 2 ^ 16) pf_216_17 (by rw [show y11 = ((16 : Nat) : Int) by omega]; exact iI_shr ha0 (by decide)) ?_
      refine rr_sipush pf_216_18 (by decide) ?_
      refine rr_iand ((a / 2 ^ 16) % 256) pf_216_21 iI_m255 ?_
      refine vr_iast (j := tn + 1) hW q9 pf_216_22 (ws_237 hW) (by omega) (by omega) (by decide) (by unfold rg; omega) (by decide) (fun M14 eM14 q15 => ?_)
      have rq16 := rz_ne rq10 eM14 (by decide)
      refine rr_aload_n pf_216_23 rfl ?_
      refine rr_dup pf_216_24 rfl ?_
      refine vr_getI q15 pf_216_25 po_216 pg_9_264 rfl (ws_228 hW) (by decide) (fun x17 hx17 rx17 => ?_)
      rw [eM14, ask_ne (by decide), eM8, up_s] at hx17
      refine rr_iconst pf_216_28 ?_
      refine rr_iadd pf_216_29 ?_
      refine vr_putI hW q15 pf_216_30 po_216 pg_9_264 (Or.inl rfl) rfl (ws_228 hW) (by decide) (by unfold rg; omega) (by decide) (fun M18 eM18 q19 => ?_)
      have rq20 := rz_up rq16 eM18 (by decide)
      refine rr_iinc pf_216_33 rfl (fun y => [.ref 228, .int (iI (a)), .int (iI (y))]) (fun _ => rfl) (fun y21 hy21 => ?_)
      refine rr_goto 3 pf_216_36 (by decide) ?_
      refine rr_iload_n pf_216_3 rfl ?_
      refine rr_if_lt 39 pf_216_4 (by decide) (by unfold rg; omega) (fun c22 => ?_) (fun c22 => ?_)
      · exfalso; omega
      · refine rr_aload_n pf_216_7 rfl ?_
        refine rr_getR pf_216_8 po_216 pg_9_35 rfl (ws_228 hW) (by decide) (wr_228_12 q19.1) ?_
        refine rr_aload_n pf_216_11 rfl ?_
        refine vr_getI q19 pf_216_12 po_216 pg_9_264 rfl (ws_228 hW) (by decide) (fun x23 hx23 rx23 => ?_)
        rw [eM18, up_s] at hx23
        refine rr_iload_n pf_216_15 rfl ?_
        refine rr_iload_n pf_216_16 rfl ?_
        refine rr_ishr (a / 2 ^ 8) pf_216_17 (by rw [show y21 = ((8 : Nat) : Int) by omega]; exact iI_shr ha0 (by decide)) ?_
        refine rr_sipush pf_216_18 (by decide) ?_
        refine rr_iand ((a / 2 ^ 8) % 256) pf_216_21 iI_m255 ?_
        refine vr_iast (j := tn + 2) hW q19 pf_216_22 (ws_237 hW) (by omega) (by omega) (by decide) (by unfold rg; omega) (by decide) (fun M24 eM24 q25 => ?_)
        have rq26 := rz_ne rq20 eM24 (by decide)
        refine rr_aload_n pf_216_23 rfl ?_
        refine rr_dup pf_216_24 rfl ?_
        refine vr_getI q25 pf_216_25 po_216 pg_9_264 rfl (ws_228 hW) (by decide) (fun x27 hx27 rx27 => ?_)
        rw [eM24, ask_ne (by decide), eM18, up_s] at hx27
        refine rr_iconst pf_216_28 ?_
        refine rr_iadd pf_216_29 ?_
        refine vr_putI hW q25 pf_216_30 po_216 pg_9_264 (Or.inl rfl) rfl (ws_228 hW) (by decide) (by unfold rg; omega) (by decide) (fun M28 eM28 q29 => ?_)
        have rq30 := rz_up rq26 eM28 (by decide)
        refine rr_iinc pf_216_33 rfl (fun y => [.ref 228, .int (iI (a)), .int (iI (y))]) (fun _ => rfl) (fun y31 hy31 => ?_)
        refine rr_goto 3 pf_216_36 (by decide) ?_
        refine rr_iload_n pf_216_3 rfl ?_
        refine rr_if_lt 39 pf_216_4 (by decide) (by unfold rg; omega) (fun c32 => ?_) (fun c32 => ?_)
        · exfalso; omega
        · refine rr_aload_n pf_216_7 rfl ?_
          refine rr_getR pf_216_8 po_216 pg_9_35 rfl (ws_228 hW) (by decide) (wr_228_12 q29.1) ?_
          refine rr_aload_n pf_216_11 rfl ?_
          refine vr_getI q29 pf_216_12 po_216 pg_9_264 rfl (ws_228 hW) (by decide) (fun x33 hx33 rx33 => ?_)
          rw [eM28, up_s] at hx33
          refine rr_iload_n pf_216_15 rfl ?_
          refine rr_iload_n pf_216_16 rfl ?_
          refine rr_ishr (a / 2 ^ 0) pf_216_17 (by rw [show y31 = ((0 : Nat) : Int) by omega]; exact iI_shr ha0 (by decide)) ?_
          refine rr_sipush pf_216_18 (by decide) ?_
          refine rr_iand ((a / 2 ^ 0) % 256) pf_216_21 iI_m255 ?_
          refine vr_iast (j := tn + 3) hW q29 pf_216_22 (ws_237 hW) (by omega) (by omega) (by decide) (by unfold rg; omega) (by decide) (fun M34 eM34 q35 => ?_)
          have rq36 := rz_ne rq30 eM34 (by decide)
          refine rr_aload_n pf_216_23 rfl ?_
          refine rr_dup pf_216_24 rfl ?_
          refine vr_getI q35 pf_216_25 po_216 pg_9_264 rfl (ws_228 hW) (by decide) (fun x37 hx37 rx37 => ?_)
          rw [eM34, ask_ne (by decide), eM28, up_s] at hx37
          refine rr_iconst pf_216_28 ?_
          refine rr_iadd pf_216_29 ?_
          refine vr_putI hW q35 pf_216_30 po_216 pg_9_264 (Or.inl rfl) rfl (ws_228 hW) (by decide) (by unfold rg; omega) (by decide) (fun M38 eM38 q39 => ?_)
          have rq40 := rz_up rq36 eM38 (by decide)
          refine rr_iinc pf_216_33 rfl (fun y => [.ref 228, .int (iI (a)), .int (iI (y))]) (fun _ => rfl) (fun y41 hy41 => ?_)
          refine rr_goto 3 pf_216_36 (by decide) ?_
          refine rr_iload_n pf_216_3 rfl ?_
          refine rr_if_lt 39 pf_216_4 (by decide) (by unfold rg; omega) (fun c42 => ?_) (fun c42 => ?_)
          · refine rr_vret pf_216_39 pt_216 ⟨rfl, M38, rfl, q39, by
              funext j
              unfold tp4
              rw [eM38, ask_ne (by decide), eM34, ask_up, eM28, ask_ne (by decide), eM24, ask_up, eM18, ask_ne (by decide), eM14, ask_up, eM8, ask_ne (by decide), eM4, ask_up]
              by_cases h3 : j = tn + 3
              · rw [if_pos (by omega), if_pos (by omega), h3, show tn + 3 - tn = 3 by omega]; rfl
              · rw [if_neg (by omega)]; by_cases h2 : j = tn + 2
                · rw [if_pos (by omega), if_pos (by omega), h2, show tn + 2 - tn = 2 by omega]; rfl
                · rw [if_neg (by omega)]; by_cases h1 : j = tn + 1
                  · rw [if_pos (by omega), if_pos (by omega), h1, show tn + 1 - tn = 1 by omega]; rfl
                  · rw [if_neg (by omega)]; by_cases h0 : j = tn
                    · rw [if_pos (by omega), if_pos (by omega), h0, show tn - tn = 0 by omega]; rfl
                    · rw [if_neg (by omega), if_neg (by omega)], by rw [eM38, up_s]; omega, rq40⟩
          · exfalso; omega
def tp20 (tn : Nat) (tb : Nat → Int) (a b c d e : Int) : Nat → Int := tp4 (tn + 4 + 4 + 4 + 4) (tp4 (tn + 4 + 4 + 4) (tp4 (tn + 4 + 4) (tp4 (tn + 4) (tp4 tn tb a) b) c) d) e
theorem ct_R_feed {xs : Nat → Int} {L d : Nat} {sh : List (Nat × Nat)} {M0 : Nat → Nat → Int} (hd : 2 ≤ d) (hW : px_W0 <+: sh) (hF : px_Fx M0) (hG : px_RG sh M0)  {tn : Nat} (h13 : M0 228 13 = ((tn : Nat) : Int)) (htn : tn ≤ 400) {a b c e f : Int} (ha0 : rg a) (hb0 : rg b) (hc0 : rg c) (he0 : rg e) (hf0 : rg f) : ∃ v M, (px_qk sh [228, 237] M0 M ∧ (v = if tn + 20 ≤ 400 then ((tn + 20 : Nat) : Int) else -1) ∧ (M 237 = if tn + 20 ≤ 400 then tp20 tn (M0 237) a b c e f else M0 237) ∧ (M 228 13 = if tn + 20 ≤ 400 then ((tn + 20 : Nat) : Int) else ((tn : Nat) : Int)) ∧ (rz [13] M0 M)) ∧ px_Cl xs L d 215 [.ref 228, .int (iI (a)), .int (iI (b)), .int (iI (c)), .int (iI (e)), .int (iI (f))] (sh, M0) (some (.int (iI v))) (sh, M) := by
  obtain ⟨d, rfl⟩ : ∃ e, d = e + 1 := ⟨d - 1, by omega⟩
  have q0 : px_qk sh [228, 237] M0 M0 := ⟨hF, hG, eo_rf⟩
  refine vc_i (Nat.le_of_ble_eq_true rfl) ?_
  show px_R xs L d 215 (0, [.ref 228, .int (iI (a)), .int (iI (b)), .int (iI (c)), .int (iI (e)), .int (iI (f))], [], (sh, M0)) (fun r h' => ∃ v M', r = some (.int (iI v)) ∧ h' = (sh, M') ∧ px_qk sh [228, 237] M0 M' ∧ (v = if tn + 20 ≤ 400 then ((tn + 20 : Nat) : Int) else -1) ∧ (M' 237 = if tn + 20 ≤ 400 then tp20 tn (M0 237) a b c e f else M0 237) ∧ (M' 228 13 = if tn + 20 ≤ 400 then ((tn + 20 : Nat) : Int) else ((tn : Nat) : Int)) ∧ rz [13] M0 M')
  refine rr_aload_n pf_215_0 rfl ?_
  refine rr_iconst pf_215_1 ?_
  refine vr_putI hW q0 pf_215_2 po_215 pg_9_177 (Or.inl rfl) rfl (ws_228 hW) (by decide) (by unfold rg; omega) (by decide) (fun M1 eM1 q2 => ?_)
  have rq3 := rz_up (rz_rf [13] M0) eM1 (by decide)
  refine rr_aload_n pf_215_5 rfl ?_
  refine vr_getI q2 pf_215_6 po_215 pg_9_264 rfl (ws_228 hW) (by decide) (fun x4 hx4 rx4 => ?_)
  rw [eM1, up_ne (by decide), h13] at hx4
  refine rr_bipush pf_215_9 (by decide) ?_
  refine rr_iadd pf_215_11 ?_
  refine rr_sipush pf_215_12 (by decide) ?_
  refine rr_icmp_le 20 pf_215_15 (by decide) (by unfold rg; omega) (by unfold rg; omega) (fun c5 => ?_) (fun c5 => ?_)
  · refine rr_aload_n pf_215_20 rfl ?_
    refine rr_iload_n pf_215_21 rfl ?_
    obtain ⟨M6, ⟨kq7, pt_M6, p13_M6, pf_M6⟩, hcM6⟩ := ct_R_four (xs := xs) (L := L) (d := d) (a := a) (tn := tn) (by omega) hW q2.1 q2.2.1 (by rw [eM1, up_ne (by decide), h13]) (by omega) ha0
    have q7 := qk_trm q2 kq7 (by decide)
    have rq9 := rz_tr rq3 pf_M6 (by decide)
    refine rr_cV1 pf_215_22 po_215 pc_9_270 (ws_228 hW) po_216 (by decide) rfl hcM6 ?_
    
    refine rr_aload_n pf_215_25 rfl ?_
    refine rr_iload_n pf_215_26 rfl ?_
    obtain ⟨M10, ⟨kq11, pt_M10, p13_M10, pf_M10⟩, hcM10⟩ := ct_R_four (xs := xs) (L := L) (d := d) (a := b) (tn := tn + 4) (by omega) hW q7.1 q7.2.1 p13_M6 (by omega) hb0
    have q11 := qk_trm q7 kq11 (by decide)
    have rq13 := rz_tr rq9 pf_M10 (by decide)
    refine rr_cV1 pf_215_27 po_215 pc_9_270 (ws_228 hW) po_216 (by decide) rfl hcM10 ?_
    
    refine rr_aload_n pf_215_30 rfl ?_
    refine rr_iload_n pf_215_31 rfl ?_
    obtain ⟨M14, ⟨kq15, pt_M14, p13_M14, pf_M14⟩, hcM14⟩ := ct_R_four (xs := xs) (L := L) (d := d) (a := c) (tn := tn + 4 + 4) (by omega) hW q11.1 q11.2.1 p13_M10 (by omega) hc0
    have q15 := qk_trm q11 kq15 (by decide)
    have rq17 := rz_tr rq13 pf_M14 (by decide)
    refine rr_cV1 pf_215_32 po_215 pc_9_270 (ws_228 hW) po_216 (by decide) rfl hcM14 ?_
    
    refine rr_aload_n pf_215_35 rfl ?_
    refine rr_iload pf_215_36 rfl ?_
    obtain ⟨M18, ⟨kq19, pt_M18, p13_M18, pf_M18⟩, hcM18⟩ := ct_R_four (xs := xs) (L := L) (d := d) (a := e) (tn := tn + 4 + 4 + 4) (by omega) hW q15.1 q15.2.1 p13_M14 (by omega) he0
    have q19 := qk_trm q15 kq19 (by decide)
    have rq21 := rz_tr rq17 pf_M18 (by decide)
    refine rr_cV1 pf_215_38 po_215 pc_9_270 (ws_228 hW) po_216 (by decide) rfl hcM18 ?_
    
    refine rr_aload_n pf_215_41 rfl ?_
    refine rr_iload pf_215_42 rfl ?_
    obtain ⟨M22, ⟨kq23, pt_M22, p13_M22, pf_M22⟩, hcM22⟩ := ct_R_four (xs := xs) (L := L) (d := d) (a := f) (tn := tn + 4 + 4 + 4 + 4) (by omega) hW q19.1 q19.2.1 p13_M18 (by omega) hf0
    have q23 := qk_trm q19 kq23 (by decide)
    have rq25 := rz_tr rq21 pf_M22 (by decide)
    refine rr_cV1 pf_215_44 po_215 pc_9_270 (ws_228 hW) po_216 (by decide) rfl hcM22 ?_
    
    refine rr_aload_n pf_215_47 rfl ?_
    refine vr_getI q23 pf_215_48 po_215 pg_9_264 rfl (ws_228 hW) (by decide) (fun x26 hx26 rx26 => ?_)
    rw [p13_M22] at hx26
    refine rr_iret pf_215_51 pt_215 ⟨_, M22, rfl, rfl, q23, (by rw [if_pos (by omega)]; omega), (by rw [if_pos (by omega)]; unfold tp20; rw [pt_M22, pt_M18, pt_M14, pt_M10, pt_M6, eM1, ask_ne (by decide)]), (by rw [if_pos (by omega), p13_M22]), (rq25)⟩
  · refine rr_iconst pf_215_18 ?_
    refine rr_iret pf_215_19 pt_215 ⟨_, M1, rfl, rfl, q2, (by rw [if_neg (by omega)]), (by rw [if_neg (by omega), eM1, ask_ne (by decide)]), (by rw [if_neg (by omega), eM1, up_ne (by decide), h13]), (rq3)⟩
