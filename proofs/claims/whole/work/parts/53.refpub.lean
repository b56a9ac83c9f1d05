/-! the reference: calls that change -/
def bmp (f : Nat → Int) (v : Int) : Nat → Int := if v < 0 then (fun j => if j = (-v).toNat then f j + 1 else f j) else f
theorem rz_tell {X : List Nat} {M M2 M3 : Nat → Nat → Int} {x : Int} (h : rz X M M2) (e : M3 228 = px_up M2 228 1 x 228) (hX : 1 ∈ X) : rz X M M3 := fun j h8 hj => by
  rw [e, up_ne (fun z => hj (by rw [z]; exact hX))]; exact h j h8 hj
theorem rz_sett {X : List Nat} {M M2 M3 : Nat → Nat → Int} {x y : Int} (h : rz X M M2) (e : M3 228 = px_up (px_up M2 228 8 y) 228 1 x 228) (hX : 1 ∈ X) (hY : 8 ∈ X) : rz X M M3 := fun j h8 hj => by
  rw [e, up_ne (fun z => hj (by rw [z]; exact hX)), up_ne (fun z => hj (by rw [z]; exact hY))]; exact h j h8 hj
def sp_wordV (ρ : Nat → Int) (h f : Int) : Int := if (0 ≤ h ∧ h ≤ 2) ∧ (1 ≤ f ∧ f ≤ 9) then (if ρ 0 = 8 then -5 else ρ 0) else -1
def sp_wordR (ρ : Nat → Int) (h f : Int) : Nat → Int := if 0 ≤ sp_wordV ρ h f then rup (rup (rup ρ (69 + (ρ 0).toNat) h) (77 + (ρ 0).toNat) f) 0 (ρ 0 + 1) else ρ
theorem ct_R_word {xs : Nat → Int} {L d : Nat} {sh : List (Nat × Nat)} {M0 : Nat → Nat → Int} (hd : 14 ≤ d) (hW : px_W0 <+: sh) (hF : px_Fx M0) (hG : px_RG sh M0)  (hρ : sp_ok (rr_ M0)) (hrf : ∀ j, j < 7 → 0 ≤ M0 229 j ∧ M0 229 j ≤ 1000000000) {h f : Int} (hh0 : rg h) (hf0 : rg f) : ∃ v M, (px_qk sh [228, 229, 230] M0 M ∧ (v = sp_wordV (rr_ M0) h f) ∧ (rr_ M = sp_wordR (rr_ M0) h f) ∧ (r9 M0 M) ∧ (M 228 1 = if v < 0 then v else 0) ∧ (M 229 = bmp (M0 229) v) ∧ (M 228 8 = if v < 0 then M0 228 8 else 0) ∧ (rz [1, 8] M0 M)) ∧ px_Cl xs L d 182 [.ref 228, .int (iI (h)), .int (iI (f))] (sh, M0) (some (.int (iI v))) (sh, M) := by
  obtain ⟨d, rfl⟩ : ∃ e, d = e + 1 := ⟨d - 1, by omega⟩
  have q0 : px_qk sh [228, 229, 230] M0 M0 := ⟨hF, hG, eo_rf⟩
  refine vc_i (Nat.le_of_ble_eq_true rfl) ?_
  show px_R xs L d 182 (0, [.ref 228, .int (iI (h)), .int (iI (f)), px_jk], [], (sh, M0)) (fun r h' => ∃ v M', r = some (.int (iI v)) ∧ h' = (sh, M') ∧ px_qk sh [228, 229, 230] M0 M' ∧ v = sp_wordV (rr_ M0) h f ∧ rr_ M' = sp_wordR (rr_ M0) h f ∧ r9 M0 M' ∧ (M' 228 1 = if v < 0 then v else 0) ∧ M' 229 = bmp (M0 229) v ∧ (M' 228 8 = if v < 0 then M0 228 8 else 0) ∧ rz [1, 8] M0 M')
  refine rr_aload_n pf_182_0 rfl ?_
  refine rr_iconst pf_182_1 ?_
  refine vr_putI hW q0 pf_182_2 po_182 pg_9_177 (Or.inl rfl) rfl (ws_228 hW) (by decide) (by unfold rg; omega) (by decide) (fun M1 eM1 q2 => ?_)
  have rq3 := rz_up (rz_rf [1, 8] M0) eM1 (by decide)
  have row4 := (rr_eq (M := M0) (M2 := M1) (by rw [eM1, ask_ne (by decide)])).trans (rfl : rr_ M0 = rr_ M0)
  have ninerow4 := r9_tr (r9_rf M0) (r9_eq (M := M0) (M2 := M1) (by rw [eM1, ask_ne (by decide)]))
  have f5 : M1 228 8 = M0 228 8 := (show M1 228 8 = M0 228 8 by rw [eM1, up_ne (by decide)]).trans (rfl : M0 228 8 = M0 228 8)
  have e6 : M1 229 = M0 229 := (show M1 229 = M0 229 by rw [eM1, ask_ne (by decide)]).trans (rfl : M0 229 = M0 229)
  have e7 : M1 230 = M0 230 := (show M1 230 = M0 230 by rw [eM1, ask_ne (by decide)]).trans (rfl : M0 230 = M0 230)
  refine rr_iload_n pf_182_5 rfl ?_
  refine rr_cS1 pf_182_6 po_182 pc_9_210 (by decide) rfl (ct_R_isHue (by omega) hh0) ?_
  refine rr_ifb_eq 24 pf_182_9 (by decide) (fun c8 => ?_) (fun c8 => ?_)
  · refine rr_aload_n pf_182_24 rfl ?_
    refine rr_iconst pf_182_25 ?_
    obtain ⟨M9, ⟨kq10, taM9, tbM9⟩, hcM9⟩ := ct_R_tell (xs := xs) (L := L) (d := d) (v := (-1)) (by omega) hW q2.1 q2.2.1 (by unfold rg; omega) (by omega) (by rw [e6]; exact hrf)
    have q10 := qk_trm q2 kq10 (by decide)
    have rq11 := rz_tell rq3 taM9 (by decide)
    have stM9 : M9 228 1 = if ((-1) : Int) < 0 then (-1) else 0 := by rw [taM9, up_s]
    have rfM9 : M9 229 = bmp (M0 229) (-1) := by rw [tbM9, e6]; rfl
    have n8M9 : M9 228 8 = M0 228 8 := by rw [taM9, up_ne (by decide)]; exact f5
    have row12 := (rr_eq (kq10.2.2 230 (by decide))).trans row4
    have ninerow12 := r9_tr ninerow4 (r9_eq (kq10.2.2 230 (by decide)))
    have e13 : M9 230 = M0 230 := (kq10.2.2 230 (by decide)).trans e7
    refine rr_cV1 pf_182_26 po_182 pc_9_186 (ws_228 hW) po_176 (by decide) rfl hcM9 ?_
    refine rr_iret pf_182_29 pt_182 ⟨_, M9, rfl, rfl, q10, (by unfold sp_wordV; rw [if_neg (by omega)]), (by unfold sp_wordR; rw [show sp_wordV (rr_ M0) h f = -1 by unfold sp_wordV; rw [if_neg (by omega)], if_neg (by omega)]; exact row12), (ninerow12), (stM9), (rfM9), (by rw [if_pos (by omega)]; exact n8M9), (rq11)⟩
  · refine rr_iload_n pf_182_12 rfl ?_
    refine rr_i2l pf_182_13 hf0 ?_
    refine rr_lconst (w := 1) pf_182_14 rfl ?_
    refine rr_ldc2_w pf_182_15 po_182 pl_9_214 ?_
    refine rr_cS3 pf_182_18 po_182 pc_9_197 (by decide) rfl (ct_R_in (by omega) (rl_rg hf0) (by unfold rl; omega) (by unfold rl; omega)) ?_
    refine rr_ifb_ne 30 pf_182_21 (by decide) (fun c14 => ?_) (fun c14 => ?_)
    · refine rr_aload_n pf_182_30 rfl ?_
      refine rr_getR pf_182_31 po_182 pg_9_13 rfl (ws_228 hW) (by decide) (wr_228_3 q2.1) ?_
      refine rr_iconst pf_182_34 ?_
      refine vr_iald (j := 0) q2 pf_182_35 (ws_230 hW) (by omega) (by omega) (by decide) (fun x15 hx15 rx15 => ?_)
      rw [e7] at hx15
      rw [rr_at (M := M0) (i := 0) (by omega)] at hx15
      have h0 := hρ.1
      refine rr_istore_n pf_182_36 (fun y => [.ref 228, .int (iI (h)), .int (iI (f)), .int (iI (y))]) (Nat.le_of_ble_eq_true rfl) (fun _ => rfl) (fun y16 hy16 => ?_)
      have ry16 : rg y16 := hy16 ▸ rx15
      refine rr_iload_n pf_182_37 rfl ?_
      refine rr_bipush pf_182_38 (by decide) ?_
      refine rr_icmp_ne 50 pf_182_40 (by decide) ry16 (by unfold rg; omega) (fun c17 => ?_) (fun c17 => ?_)
      · refine rr_aload_n pf_182_50 rfl ?_
        refine rr_getR pf_182_51 po_182 pg_9_13 rfl (ws_228 hW) (by decide) (wr_228_3 q2.1) ?_
        refine rr_bipush pf_182_54 (by decide) ?_
        refine rr_iload_n pf_182_56 rfl ?_
        refine rr_iadd pf_182_57 ?_
        refine rr_iload_n pf_182_58 rfl ?_
        refine vr_iast (j := 69 + (rr_ M0 0).toNat) hW q2 pf_182_59 (ws_230 hW) (by omega) (by omega) (by decide) hh0 (by decide) (fun M18 eM18 q19 => ?_)
        have rq20 := rz_ne rq3 eM18 (by decide)
        have row21 := rr_w row4 eM18 (by omega)
        have ninerow21 := r9_up ninerow4 eM18 (by omega)
        have f22 : M18 228 8 = M0 228 8 := (show M18 228 8 = M1 228 8 by rw [eM18, ask_ne (by decide)]).trans f5
        have e23 : M18 229 = M0 229 := (show M18 229 = M1 229 by rw [eM18, ask_ne (by decide)]).trans e6
        refine rr_aload_n pf_182_60 rfl ?_
        refine rr_getR pf_182_61 po_182 pg_9_13 rfl (ws_228 hW) (by decide) (wr_228_3 q19.1) ?_
        refine rr_bipush pf_182_64 (by decide) ?_
        refine rr_iload_n pf_182_66 rfl ?_
        refine rr_iadd pf_182_67 ?_
        refine rr_iload_n pf_182_68 rfl ?_
        refine vr_iast (j := 77 + (rr_ M0 0).toNat) hW q19 pf_182_69 (ws_230 hW) (by omega) (by omega) (by decide) hf0 (by decide) (fun M24 eM24 q25 => ?_)
        have rq26 := rz_ne rq20 eM24 (by decide)
        have row27 := rr_w row21 eM24 (by omega)
        have ninerow27 := r9_up ninerow21 eM24 (by omega)
        have f28 : M24 228 8 = M0 228 8 := (show M24 228 8 = M18 228 8 by rw [eM24, ask_ne (by decide)]).trans f22
        have e29 : M24 229 = M0 229 := (show M24 229 = M18 229 by rw [eM24, ask_ne (by decide)]).trans e23
        refine rr_aload_n pf_182_70 rfl ?_
        refine rr_getR pf_182_71 po_182 pg_9_13 rfl (ws_228 hW) (by decide) (wr_228_3 q25.1) ?_
        refine rr_iconst pf_182_74 ?_
        refine rr_dup2 pf_182_75 rfl rfl ?_
        refine vr_iald (j := 0) q25 pf_182_76 (ws_230 hW) (by omega) (by omega) (by decide) (fun x30 hx30 rx30 => ?_)
        rw [rr_of row27 (by omega), rup_n (by omega), rup_n (by omega)] at hx30
        refine rr_iconst pf_182_77 ?_
        refine rr_iadd pf_182_78 ?_
        refine vr_iast (j := 0) hW q25 pf_182_79 (ws_230 hW) (by omega) (by omega) (by decide) (by unfold rg; omega) (by decide) (fun M31 eM31 q32 => ?_)
        have rq33 := rz_ne rq26 eM31 (by decide)
        have row34 := rr_w row27 eM31 (by omega)
        have ninerow34 := r9_up ninerow27 eM31 (by omega)
        have f35 : M31 228 8 = M0 228 8 := (show M31 228 8 = M24 228 8 by rw [eM31, ask_ne (by decide)]).trans f28
        have e36 : M31 229 = M0 229 := (show M31 229 = M24 229 by rw [eM31, ask_ne (by decide)]).trans e29
        refine rr_aload_n pf_182_80 rfl ?_
        refine rr_iload_n pf_182_81 rfl ?_
        obtain ⟨M37, ⟨kq38, taM37, tbM37⟩, hcM37⟩ := ct_R_settled (xs := xs) (L := L) (d := d) (v := y16) (by omega) hW q32.1 q32.2.1 (by unfold rg; omega) (by omega) (by rw [e36]; exact hrf)
        have q38 := qk_trm q32 kq38 (by decide)
        have rq39 := rz_sett rq33 taM37 (by decide) (by decide)
        have stM37 : M37 228 1 = if (y16 : Int) < 0 then y16 else 0 := by rw [taM37, up_s]
        have rfM37 : M37 229 = bmp (M0 229) y16 := by rw [tbM37, e36]; rfl
        have n8M37 : M37 228 8 = if (y16 : Int) < 0 then M0 228 8 else 0 := by rw [taM37, up_ne (by decide), up_s, f35]
        have row40 := (rr_eq (kq38.2.2 230 (by decide))).trans row34
        have ninerow40 := r9_tr ninerow34 (r9_eq (kq38.2.2 230 (by decide)))
        refine rr_cV1 pf_182_82 po_182 pc_9_201 (ws_228 hW) po_181 (by decide) rfl hcM37 ?_
        refine rr_iret pf_182_85 pt_182 ⟨_, M37, rfl, rfl, q38, (by unfold sp_wordV; rw [if_pos (by omega), if_neg (by omega)]; omega), (by unfold sp_wordR; rw [show sp_wordV (rr_ M0) h f = rr_ M0 0 by unfold sp_wordV; rw [if_pos (by omega), if_neg (by omega)], if_pos (by omega)]; rw [row40, show x30 = rr_ M0 0 by omega]), (ninerow40), (stM37), (rfM37), (n8M37), (rq39)⟩
      · refine rr_aload_n pf_182_43 rfl ?_
        refine rr_bipush pf_182_44 (by decide) ?_
        obtain ⟨M41, ⟨kq42, taM41, tbM41⟩, hcM41⟩ := ct_R_tell (xs := xs) (L := L) (d := d) (v := (-5)) (by omega) hW q2.1 q2.2.1 (by unfold rg; omega) (by omega) (by rw [e6]; exact hrf)
        have q42 := qk_trm q2 kq42 (by decide)
        have rq43 := rz_tell rq3 taM41 (by decide)
        have stM41 : M41 228 1 = if ((-5) : Int) < 0 then (-5) else 0 := by rw [taM41, up_s]
        have rfM41 : M41 229 = bmp (M0 229) (-5) := by rw [tbM41, e6]; rfl
        have n8M41 : M41 228 8 = M0 228 8 := by rw [taM41, up_ne (by decide)]; exact f5
        have row44 := (rr_eq (kq42.2.2 230 (by decide))).trans row4
        have ninerow44 := r9_tr ninerow4 (r9_eq (kq42.2.2 230 (by decide)))
        have e45 : M41 230 = M0 230 := (kq42.2.2 230 (by decide)).trans e7
        refine rr_cV1 pf_182_46 po_182 pc_9_186 (ws_228 hW) po_176 (by decide) rfl hcM41 ?_
        refine rr_iret pf_182_49 pt_182 ⟨_, M41, rfl, rfl, q42, (by unfold sp_wordV; rw [if_pos (by omega), if_pos (by omega)]), (by unfold sp_wordR; rw [show sp_wordV (rr_ M0) h f = -5 by unfold sp_wordV; rw [if_pos (by omega), if_pos (by omega)], if_neg (by omega)]; exact row44), (ninerow44), (stM41), (rfM41), (by rw [if_pos (by omega)]; exact n8M41), (rq43)⟩
    · refine rr_aload_n pf_182_24 rfl ?_
      refine rr_iconst pf_182_25 ?_
      obtain ⟨M46, ⟨kq47, taM46, tbM46⟩, hcM46⟩ := ct_R_tell (xs := xs) (L := L) (d := d) (v := (-1)) (by omega) hW q2.1 q2.2.1 (by unfold rg; omega) (by omega) (by rw [e6]; exact hrf)
      have q47 := qk_trm q2 kq47 (by decide)
      have rq48 := rz_tell rq3 taM46 (by decide)
      have stM46 : M46 228 1 = if ((-1) : Int) < 0 then (-1) else 0 := by rw [taM46, up_s]
      have rfM46 : M46 229 = bmp (M0 229) (-1) := by rw [tbM46, e6]; rfl
      have n8M46 : M46 228 8 = M0 228 8 := by rw [taM46, up_ne (by decide)]; exact f5
      have row49 := (rr_eq (kq47.2.2 230 (by decide))).trans row4
      have ninerow49 := r9_tr ninerow4 (r9_eq (kq47.2.2 230 (by decide)))
      have e50 : M46 230 = M0 230 := (kq47.2.2 230 (by decide)).trans e7
      refine rr_cV1 pf_182_26 po_182 pc_9_186 (ws_228 hW) po_176 (by decide) rfl hcM46 ?_
      refine rr_iret pf_182_29 pt_182 ⟨_, M46, rfl, rfl, q47, (by unfold sp_wordV; rw [if_neg (by omega)]), (by unfold sp_wordR; rw [show sp_wordV (rr_ M0) h f = -1 by unfold sp_wordV; rw [if_neg (by omega)], if_neg (by omega)]; exact row49), (ninerow49), (stM46), (rfM46), (by rw [if_pos (by omega)]; exact n8M46), (rq48)⟩
def sp_lisV (ρ : Nat → Int) (s p : Int) : Int := if (0 ≤ s ∧ s ≤ 7) ∧ (0 ≤ p ∧ p ≤ 99) then (if sp_taken ρ s (ρ 1).toNat = true then -3 else if ρ 1 = 6 then -5 else ρ 1) else -1
def sp_lisR (ρ : Nat → Int) (s p : Int) : Nat → Int := if 0 ≤ sp_lisV ρ s p then rup (rup (rup ρ (57 + (ρ 1).toNat) s) (63 + (ρ 1).toNat) p) 1 (ρ 1 + 1) else ρ
theorem ct_R_listener {xs : Nat → Int} {L d : Nat} {sh : List (Nat × Nat)} {M0 : Nat → Nat → Int} (hd : 14 ≤ d) (hW : px_W0 <+: sh) (hF : px_Fx M0) (hG : px_RG sh M0)  (hρ : sp_ok (rr_ M0)) (hrf : ∀ j, j < 7 → 0 ≤ M0 229 j ∧ M0 229 j ≤ 1000000000) {s p : Int} (hs0 : rg s) (hp0 : rg p) : ∃ v M, (px_qk sh [228, 229, 230] M0 M ∧ (v = sp_lisV (rr_ M0) s p) ∧ (rr_ M = sp_lisR (rr_ M0) s p) ∧ (r9 M0 M) ∧ (M 228 1 = if v < 0 then v else 0) ∧ (M 229 = bmp (M0 229) v) ∧ (M 228 8 = if v < 0 then M0 228 8 else 0) ∧ (rz [1, 8] M0 M)) ∧ px_Cl xs L d 203 [.ref 228, .int (iI (s)), .int (iI (p))] (sh, M0) (some (.int (iI v))) (sh, M) := by
  obtain ⟨d, rfl⟩ : ∃ e, d = e + 1 := ⟨d - 1, by omega⟩
  have q0 : px_qk sh [228, 229, 230] M0 M0 := ⟨hF, hG, eo_rf⟩
  refine vc_i (Nat.le_of_ble_eq_true rfl) ?_
  show px_R xs L d 203 (0, [.ref 228, .int (iI (s)), .int (iI (p)), px_jk], [], (sh, M0)) (fun r h' => ∃ v M', r = some (.int (iI v)) ∧ h' = (sh, M') ∧ px_qk sh [228, 229, 230] M0 M' ∧ v = sp_lisV (rr_ M0) s p ∧ rr_ M' = sp_lisR (rr_ M0) s p ∧ r9 M0 M' ∧ (M' 228 1 = if v < 0 then v else 0) ∧ M' 229 = bmp (M0 229) v ∧ (M' 228 8 = if v < 0 then M0 228 8 else 0) ∧ rz [1, 8] M0 M')
  refine rr_aload_n pf_203_0 rfl ?_
  refine rr_iconst pf_203_1 ?_
  refine vr_putI hW q0 pf_203_2 po_203 pg_9_177 (Or.inl rfl) rfl (ws_228 hW) (by decide) (by unfold rg; omega) (by decide) (fun M1 eM1 q2 => ?_)
  have rq3 := rz_up (rz_rf [1, 8] M0) eM1 (by decide)
  have row4 := (rr_eq (M := M0) (M2 := M1) (by rw [eM1, ask_ne (by decide)])).trans (rfl : rr_ M0 = rr_ M0)
  have ninerow4 := r9_tr (r9_rf M0) (r9_eq (M := M0) (M2 := M1) (by rw [eM1, ask_ne (by decide)]))
  have f5 : M1 228 8 = M0 228 8 := (show M1 228 8 = M0 228 8 by rw [eM1, up_ne (by decide)]).trans (rfl : M0 228 8 = M0 228 8)
  have e6 : M1 229 = M0 229 := (show M1 229 = M0 229 by rw [eM1, ask_ne (by decide)]).trans (rfl : M0 229 = M0 229)
  have e7 : M1 230 = M0 230 := (show M1 230 = M0 230 by rw [eM1, ask_ne (by decide)]).trans (rfl : M0 230 = M0 230)
  refine rr_iload_n pf_203_5 rfl ?_
  refine rr_cS1 pf_203_6 po_203 pc_9_240 (by decide) rfl (ct_R_isSeat (by omega) hs0) ?_
  refine rr_ifb_eq 24 pf_203_9 (by decide) (fun c8 => ?_) (fun c8 => ?_)
  · refine rr_aload_n pf_203_24 rfl ?_
    refine rr_iconst pf_203_25 ?_
    obtain ⟨M9, ⟨kq10, taM9, tbM9⟩, hcM9⟩ := ct_R_tell (xs := xs) (L := L) (d := d) (v := (-1)) (by omega) hW q2.1 q2.2.1 (by unfold rg; omega) (by omega) (by rw [e6]; exact hrf)
    have q10 := qk_trm q2 kq10 (by decide)
    have rq11 := rz_tell rq3 taM9 (by decide)
    have stM9 : M9 228 1 = if ((-1) : Int) < 0 then (-1) else 0 := by rw [taM9, up_s]
    have rfM9 : M9 229 = bmp (M0 229) (-1) := by rw [tbM9, e6]; rfl
    have n8M9 : M9 228 8 = M0 228 8 := by rw [taM9, up_ne (by decide)]; exact f5
    have row12 := (rr_eq (kq10.2.2 230 (by decide))).trans row4
    have ninerow12 := r9_tr ninerow4 (r9_eq (kq10.2.2 230 (by decide)))
    have e13 : M9 230 = M0 230 := (kq10.2.2 230 (by decide)).trans e7
    refine rr_cV1 pf_203_26 po_203 pc_9_186 (ws_228 hW) po_176 (by decide) rfl hcM9 ?_
    refine rr_iret pf_203_29 pt_203 ⟨_, M9, rfl, rfl, q10, (by unfold sp_lisV; rw [if_neg (by omega)]), (by unfold sp_lisR; rw [show sp_lisV (rr_ M0) s p = -1 by unfold sp_lisV; rw [if_neg (by omega)], if_neg (by omega)]; exact row12), (ninerow12), (stM9), (rfM9), (by rw [if_pos (by omega)]; exact n8M9), (rq11)⟩
  · refine rr_iload_n pf_203_12 rfl ?_
    refine rr_i2l pf_203_13 hp0 ?_
    refine rr_lconst (w := 0) pf_203_14 rfl ?_
    refine rr_ldc2_w pf_203_15 po_203 pl_9_243 ?_
    refine rr_cS3 pf_203_18 po_203 pc_9_197 (by decide) rfl (ct_R_in (by omega) (rl_rg hp0) (by unfold rl; omega) (by unfold rl; omega)) ?_
    refine rr_ifb_ne 30 pf_203_21 (by decide) (fun c14 => ?_) (fun c14 => ?_)
    · refine rr_aload_n pf_203_30 rfl ?_
      refine rr_iload_n pf_203_31 rfl ?_
      obtain ⟨r17, M15, ⟨kq16, pv_M15, pb_M15⟩, hcM15⟩ := ct_R_onSeat (xs := xs) (L := L) (d := d) (s := s) (by omega) hW q2.1 q2.2.1 (by rw [rr_eq e7]; exact hρ) hs0
      obtain rfl := qk_nil kq16
      rw [rr_eq e7] at pv_M15
      refine rr_cV1 pf_203_32 po_203 pc_9_245 (ws_228 hW) po_205 (by decide) rfl hcM15 ?_
      have hpb := pb_M15
      refine rr_iconst pf_203_35 ?_
      refine rr_icmp_eq 46 pf_203_36 (by decide) (by unfold rg; omega) (by unfold rg; omega) (fun c18 => ?_) (fun c18 => ?_)
      · have hTK := pv_M15.mp (by omega)
        refine rr_aload_n pf_203_46 rfl ?_
        refine rr_getR pf_203_47 po_203 pg_9_13 rfl (ws_228 hW) (by decide) (wr_228_3 q2.1) ?_
        refine rr_iconst pf_203_50 ?_
        refine vr_iald (j := 1) q2 pf_203_51 (ws_230 hW) (by omega) (by omega) (by decide) (fun x19 hx19 rx19 => ?_)
        rw [e7] at hx19
        rw [rr_at (M := M0) (i := 1) (by omega)] at hx19
        have h1 := hρ.2.1
        refine rr_istore_n pf_203_52 (fun y => [.ref 228, .int (iI (s)), .int (iI (p)), .int (iI (y))]) (Nat.le_of_ble_eq_true rfl) (fun _ => rfl) (fun y20 hy20 => ?_)
        have ry20 : rg y20 := hy20 ▸ rx19
        refine rr_iload_n pf_203_53 rfl ?_
        refine rr_bipush pf_203_54 (by decide) ?_
        refine rr_icmp_ne 66 pf_203_56 (by decide) ry20 (by unfold rg; omega) (fun c21 => ?_) (fun c21 => ?_)
        · refine rr_aload_n pf_203_66 rfl ?_
          refine rr_getR pf_203_67 po_203 pg_9_13 rfl (ws_228 hW) (by decide) (wr_228_3 q2.1) ?_
          refine rr_bipush pf_203_70 (by decide) ?_
          refine rr_iload_n pf_203_72 rfl ?_
          refine rr_iadd pf_203_73 ?_
          refine rr_iload_n pf_203_74 rfl ?_
          refine vr_iast (j := 57 + (rr_ M0 1).toNat) hW q2 pf_203_75 (ws_230 hW) (by omega) (by omega) (by decide) hs0 (by decide) (fun M22 eM22 q23 => ?_)
          have rq24 := rz_ne rq3 eM22 (by decide)
          have row25 := rr_w row4 eM22 (by omega)
          have ninerow25 := r9_up ninerow4 eM22 (by omega)
          have f26 : M22 228 8 = M0 228 8 := (show M22 228 8 = M1 228 8 by rw [eM22, ask_ne (by decide)]).trans f5
          have e27 : M22 229 = M0 229 := (show M22 229 = M1 229 by rw [eM22, ask_ne (by decide)]).trans e6
          refine rr_aload_n pf_203_76 rfl ?_
          refine rr_getR pf_203_77 po_203 pg_9_13 rfl (ws_228 hW) (by decide) (wr_228_3 q23.1) ?_
          refine rr_bipush pf_203_80 (by decide) ?_
          refine rr_iload_n pf_203_82 rfl ?_
          refine rr_iadd pf_203_83 ?_
          refine rr_iload_n pf_203_84 rfl ?_
          refine vr_iast (j := 63 + (rr_ M0 1).toNat) hW q23 pf_203_85 (ws_230 hW) (by omega) (by omega) (by decide) hp0 (by decide) (fun M28 eM28 q29 => ?_)
          have rq30 := rz_ne rq24 eM28 (by decide)
          have row31 := rr_w row25 eM28 (by omega)
          have ninerow31 := r9_up ninerow25 eM28 (by omega)
          have f32 : M28 228 8 = M0 228 8 := (show M28 228 8 = M22 228 8 by rw [eM28, ask_ne (by decide)]).trans f26
          have e33 : M28 229 = M0 229 := (show M28 229 = M22 229 by rw [eM28, ask_ne (by decide)]).trans e27
          refine rr_aload_n pf_203_86 rfl ?_
          refine rr_getR pf_203_87 po_203 pg_9_13 rfl (ws_228 hW) (by decide) (wr_228_3 q29.1) ?_
          refine rr_iconst pf_203_90 ?_
          refine rr_dup2 pf_203_91 rfl rfl ?_
          refine vr_iald (j := 1) q29 pf_203_92 (ws_230 hW) (by omega) (by omega) (by decide) (fun x34 hx34 rx34 => ?_)
          rw [rr_of row31 (by omega), rup_n (by omega), rup_n (by omega)] at hx34
          refine rr_iconst pf_203_93 ?_
          refine rr_iadd pf_203_94 ?_
          refine vr_iast (j := 1) hW q29 pf_203_95 (ws_230 hW) (by omega) (by omega) (by decide) (by unfold rg; omega) (by decide) (fun M35 eM35 q36 => ?_)
          have rq37 := rz_ne rq30 eM35 (by decide)
          have row38 := rr_w row31 eM35 (by omega)
          have ninerow38 := r9_up ninerow31 eM35 (by omega)
          have f39 : M35 228 8 = M0 228 8 := (show M35 228 8 = M28 228 8 by rw [eM35, ask_ne (by decide)]).trans f32
          have e40 : M35 229 = M0 229 := (show M35 229 = M28 229 by rw [eM35, ask_ne (by decide)]).trans e33
          refine rr_aload_n pf_203_96 rfl ?_
          refine rr_iload_n pf_203_97 rfl ?_
          obtain ⟨M41, ⟨kq42, taM41, tbM41⟩, hcM41⟩ := ct_R_settled (xs := xs) (L := L) (d := d) (v := y20) (by omega) hW q36.1 q36.2.1 (by unfold rg; omega) (by omega) (by rw [e40]; exact hrf)
          have q42 := qk_trm q36 kq42 (by decide)
          have rq43 := rz_sett rq37 taM41 (by decide) (by decide)
          have stM41 : M41 228 1 = if (y20 : Int) < 0 then y20 else 0 := by rw [taM41, up_s]
          have rfM41 : M41 229 = bmp (M0 229) y20 := by rw [tbM41, e40]; rfl
          have n8M41 : M41 228 8 = if (y20 : Int) < 0 then M0 228 8 else 0 := by rw [taM41, up_ne (by decide), up_s, f39]
          have row44 := (rr_eq (kq42.2.2 230 (by decide))).trans row38
          have ninerow44 := r9_tr ninerow38 (r9_eq (kq42.2.2 230 (by decide)))
          refine rr_cV1 pf_203_98 po_203 pc_9_201 (ws_228 hW) po_181 (by decide) rfl hcM41 ?_
          refine rr_iret pf_203_101 pt_203 ⟨_, M41, rfl, rfl, q42, (by unfold sp_lisV; rw [if_pos (by omega), if_neg hTK, if_neg (by omega)]; omega), (by unfold sp_lisR; rw [show sp_lisV (rr_ M0) s p = rr_ M0 1 by unfold sp_lisV; rw [if_pos (by omega), if_neg hTK, if_neg (by omega)], if_pos (by omega)]; rw [row44, show x34 = rr_ M0 1 by omega]), (ninerow44), (stM41), (rfM41), (n8M41), (rq43)⟩
        · refine rr_aload_n pf_203_59 rfl ?_
          refine rr_bipush pf_203_60 (by decide) ?_
          obtain ⟨M45, ⟨kq46, taM45, tbM45⟩, hcM45⟩ := ct_R_tell (xs := xs) (L := L) (d := d) (v := (-5)) (by omega) hW q2.1 q2.2.1 (by unfold rg; omega) (by omega) (by rw [e6]; exact hrf)
          have q46 := qk_trm q2 kq46 (by decide)
          have rq47 := rz_tell rq3 taM45 (by decide)
          have stM45 : M45 228 1 = if ((-5) : Int) < 0 then (-5) else 0 := by rw [taM45, up_s]
          have rfM45 : M45 229 = bmp (M0 229) (-5) := by rw [tbM45, e6]; rfl
          have n8M45 : M45 228 8 = M0 228 8 := by rw [taM45, up_ne (by decide)]; exact f5
          have row48 := (rr_eq (kq46.2.2 230 (by decide))).trans row4
          have ninerow48 := r9_tr ninerow4 (r9_eq (kq46.2.2 230 (by decide)))
          have e49 : M45 230 = M0 230 := (kq46.2.2 230 (by decide)).trans e7
          refine rr_cV1 pf_203_62 po_203 pc_9_186 (ws_228 hW) po_176 (by decide) rfl hcM45 ?_
          refine rr_iret pf_203_65 pt_203 ⟨_, M45, rfl, rfl, q46, (by unfold sp_lisV; rw [if_pos (by omega), if_neg hTK, if_pos (by omega)]), (by unfold sp_lisR; rw [show sp_lisV (rr_ M0) s p = -5 by unfold sp_lisV; rw [if_pos (by omega), if_neg hTK, if_pos (by omega)], if_neg (by omega)]; exact row48), (ninerow48), (stM45), (rfM45), (by rw [if_pos (by omega)]; exact n8M45), (rq47)⟩
      · have hTK : sp_taken (rr_ M0) s (rr_ M0 1).toNat = true := Decidable.byContradiction (fun z => by have := pv_M15.mpr z; omega)
        refine rr_aload_n pf_203_39 rfl ?_
        refine rr_bipush pf_203_40 (by decide) ?_
        obtain ⟨M50, ⟨kq51, taM50, tbM50⟩, hcM50⟩ := ct_R_tell (xs := xs) (L := L) (d := d) (v := (-3)) (by omega) hW q2.1 q2.2.1 (by unfold rg; omega) (by omega) (by rw [e6]; exact hrf)
        have q51 := qk_trm q2 kq51 (by decide)
        have rq52 := rz_tell rq3 taM50 (by decide)
        have stM50 : M50 228 1 = if ((-3) : Int) < 0 then (-3) else 0 := by rw [taM50, up_s]
        have rfM50 : M50 229 = bmp (M0 229) (-3) := by rw [tbM50, e6]; rfl
        have n8M50 : M50 228 8 = M0 228 8 := by rw [taM50, up_ne (by decide)]; exact f5
        have row53 := (rr_eq (kq51.2.2 230 (by decide))).trans row4
        have ninerow53 := r9_tr ninerow4 (r9_eq (kq51.2.2 230 (by decide)))
        have e54 : M50 230 = M0 230 := (kq51.2.2 230 (by decide)).trans e7
        refine rr_cV1 pf_203_42 po_203 pc_9_186 (ws_228 hW) po_176 (by decide) rfl hcM50 ?_
        refine rr_iret pf_203_45 pt_203 ⟨_, M50, rfl, rfl, q51, (by unfold sp_lisV; rw [if_pos (by omega), if_pos hTK]), (by unfold sp_lisR; rw [show sp_lisV (rr_ M0) s p = -3 by unfold sp_lisV; rw [if_pos (by omega), if_pos hTK], if_neg (by omega)]; exact row53), (ninerow53), (stM50), (rfM50), (by rw [if_pos (by omega)]; exact n8M50), (rq52)⟩
    · refine rr_aload_n pf_203_24 rfl ?_
      refine rr_iconst pf_203_25 ?_
      obtain ⟨M55, ⟨kq56, taM55, tbM55⟩, hcM55⟩ := ct_R_tell (xs := xs) (L := L) (d := d) (v := (-1)) (by omega) hW q2.1 q2.2.1 (by unfold rg; omega) (by omega) (by rw [e6]; exact hrf)
      have q56 := qk_trm q2 kq56 (by decide)
      have rq57 := rz_tell rq3 taM55 (by decide)
      have stM55 : M55 228 1 = if ((-1) : Int) < 0 then (-1) else 0 := by rw [taM55, up_s]
      have rfM55 : M55 229 = bmp (M0 229) (-1) := by rw [tbM55, e6]; rfl
      have n8M55 : M55 228 8 = M0 228 8 := by rw [taM55, up_ne (by decide)]; exact f5
      have row58 := (rr_eq (kq56.2.2 230 (by decide))).trans row4
      have ninerow58 := r9_tr ninerow4 (r9_eq (kq56.2.2 230 (by decide)))
      have e59 : M55 230 = M0 230 := (kq56.2.2 230 (by decide)).trans e7
      refine rr_cV1 pf_203_26 po_203 pc_9_186 (ws_228 hW) po_176 (by decide) rfl hcM55 ?_
      refine rr_iret pf_203_29 pt_203 ⟨_, M55, rfl, rfl, q56, (by unfold sp_lisV; rw [if_neg (by omega)]), (by unfold sp_lisR; rw [show sp_lisV (rr_ M0) s p = -1 by unfold sp_lisV; rw [if_neg (by omega)], if_neg (by omega)]; exact row58), (ninerow58), (stM55), (rfM55), (by rw [if_pos (by omega)]; exact n8M55), (rq57)⟩
def sp_tolV (ρ : Nat → Int) (p h m : Int) : Int := if (0 ≤ p ∧ p ≤ 15) ∧ (0 ≤ h ∧ h ≤ 2) ∧ (0 ≤ m ∧ m ≤ 99) then (if ρ 2 = 8 then -5 else ρ 2 + 1) else -1
def sp_tolR (ρ : Nat → Int) (p h m : Int) : Nat → Int := if 0 ≤ sp_tolV ρ p h m then rup (rup (rup (rup ρ (85 + 3 * (ρ 2).toNat) p) (85 + 3 * (ρ 2).toNat + 1) h) (85 + 3 * (ρ 2).toNat + 2) m) 2 (ρ 2 + 1) else ρ
theorem ct_R_told {xs : Nat → Int} {L d : Nat} {sh : List (Nat × Nat)} {M0 : Nat → Nat → Int} (hd : 14 ≤ d) (hW : px_W0 <+: sh) (hF : px_Fx M0) (hG : px_RG sh M0)  (hρ : sp_ok (rr_ M0)) (hrf : ∀ j, j < 7 → 0 ≤ M0 229 j ∧ M0 229 j ≤ 1000000000) {p h m : Int} (hp0 : rg p) (hh0 : rg h) (hm0 : rg m) : ∃ v M, (px_qk sh [228, 229, 230] M0 M ∧ (v = sp_tolV (rr_ M0) p h m) ∧ (rr_ M = sp_tolR (rr_ M0) p h m) ∧ (r9 M0 M) ∧ (M 228 1 = if v < 0 then v else 0) ∧ (M 229 = bmp (M0 229) v) ∧ (rz [1] M0 M)) ∧ px_Cl xs L d 267 [.ref 228, .int (iI (p)), .int (iI (h)), .int (iI (m))] (sh, M0) (some (.int (iI v))) (sh, M) := by
  obtain ⟨d, rfl⟩ : ∃ e, d = e + 1 := ⟨d - 1, by omega⟩
  have q0 : px_qk sh [228, 229, 230] M0 M0 := ⟨hF, hG, eo_rf⟩
  refine vc_i (Nat.le_of_ble_eq_true rfl) ?_
  show px_R xs L d 267 (0, [.ref 228, .int (iI (p)), .int (iI (h)), .int (iI (m)), px_jk], [], (sh, M0)) (fun r h' => ∃ v M', r = some (.int (iI v)) ∧ h' = (sh, M') ∧ px_qk sh [228, 229, 230] M0 M' ∧ v = sp_tolV (rr_ M0) p h m ∧ rr_ M' = sp_tolR (rr_ M0) p h m ∧ r9 M0 M' ∧ (M' 228 1 = if v < 0 then v else 0) ∧ M' 229 = bmp (M0 229) v ∧ rz [1] M0 M')
  refine rr_aload_n pf_267_0 rfl ?_
  refine rr_iconst pf_267_1 ?_
  refine vr_putI hW q0 pf_267_2 po_267 pg_9_177 (Or.inl rfl) rfl (ws_228 hW) (by decide) (by unfold rg; omega) (by decide) (fun M1 eM1 q2 => ?_)
  have rq3 := rz_up (rz_rf [1] M0) eM1 (by decide)
  have row4 := (rr_eq (M := M0) (M2 := M1) (by rw [eM1, ask_ne (by decide)])).trans (rfl : rr_ M0 = rr_ M0)
  have ninerow4 := r9_tr (r9_rf M0) (r9_eq (M := M0) (M2 := M1) (by rw [eM1, ask_ne (by decide)]))
  have f5 : M1 228 8 = M0 228 8 := (show M1 228 8 = M0 228 8 by rw [eM1, up_ne (by decide)]).trans (rfl : M0 228 8 = M0 228 8)
  have e6 : M1 229 = M0 229 := (show M1 229 = M0 229 by rw [eM1, ask_ne (by decide)]).trans (rfl : M0 229 = M0 229)
  have e7 : M1 230 = M0 230 := (show M1 230 = M0 230 by rw [eM1, ask_ne (by decide)]).trans (rfl : M0 230 = M0 230)
  refine rr_iload_n pf_267_5 rfl ?_
  refine rr_cS1 pf_267_6 po_267 pc_9_228 (by decide) rfl (ct_R_isPane (by omega) hp0) ?_
  refine rr_ifb_eq 31 pf_267_9 (by decide) (fun c8 => ?_) (fun c8 => ?_)
  · refine rr_aload_n pf_267_31 rfl ?_
    refine rr_iconst pf_267_32 ?_
    obtain ⟨M9, ⟨kq10, taM9, tbM9⟩, hcM9⟩ := ct_R_tell (xs := xs) (L := L) (d := d) (v := (-1)) (by omega) hW q2.1 q2.2.1 (by unfold rg; omega) (by omega) (by rw [e6]; exact hrf)
    have q10 := qk_trm q2 kq10 (by decide)
    have rq11 := rz_tell rq3 taM9 (by decide)
    have stM9 : M9 228 1 = if ((-1) : Int) < 0 then (-1) else 0 := by rw [taM9, up_s]
    have rfM9 : M9 229 = bmp (M0 229) (-1) := by rw [tbM9, e6]; rfl
    have n8M9 : M9 228 8 = M0 228 8 := by rw [taM9, up_ne (by decide)]; exact f5
    have row12 := (rr_eq (kq10.2.2 230 (by decide))).trans row4
    have ninerow12 := r9_tr ninerow4 (r9_eq (kq10.2.2 230 (by decide)))
    have e13 : M9 230 = M0 230 := (kq10.2.2 230 (by decide)).trans e7
    refine rr_cV1 pf_267_33 po_267 pc_9_186 (ws_228 hW) po_176 (by decide) rfl hcM9 ?_
    refine rr_iret pf_267_36 pt_267 ⟨_, M9, rfl, rfl, q10, (by unfold sp_tolV; rw [if_neg (by omega)]), (by unfold sp_tolR; rw [show sp_tolV (rr_ M0) p h m = -1 by unfold sp_tolV; rw [if_neg (by omega)], if_neg (by omega)]; exact row12), (ninerow12), (stM9), (rfM9), (rq11)⟩
  · refine rr_iload_n pf_267_12 rfl ?_
    refine rr_cS1 pf_267_13 po_267 pc_9_210 (by decide) rfl (ct_R_isHue (by omega) hh0) ?_
    refine rr_ifb_eq 31 pf_267_16 (by decide) (fun c14 => ?_) (fun c14 => ?_)
    · refine rr_aload_n pf_267_31 rfl ?_
      refine rr_iconst pf_267_32 ?_
      obtain ⟨M15, ⟨kq16, taM15, tbM15⟩, hcM15⟩ := ct_R_tell (xs := xs) (L := L) (d := d) (v := (-1)) (by omega) hW q2.1 q2.2.1 (by unfold rg; omega) (by omega) (by rw [e6]; exact hrf)
      have q16 := qk_trm q2 kq16 (by decide)
      have rq17 := rz_tell rq3 taM15 (by decide)
      have stM15 : M15 228 1 = if ((-1) : Int) < 0 then (-1) else 0 := by rw [taM15, up_s]
      have rfM15 : M15 229 = bmp (M0 229) (-1) := by rw [tbM15, e6]; rfl
      have n8M15 : M15 228 8 = M0 228 8 := by rw [taM15, up_ne (by decide)]; exact f5
      have row18 := (rr_eq (kq16.2.2 230 (by decide))).trans row4
      have ninerow18 := r9_tr ninerow4 (r9_eq (kq16.2.2 230 (by decide)))
      have e19 : M15 230 = M0 230 := (kq16.2.2 230 (by decide)).trans e7
      refine rr_cV1 pf_267_33 po_267 pc_9_186 (ws_228 hW) po_176 (by decide) rfl hcM15 ?_
      refine rr_iret pf_267_36 pt_267 ⟨_, M15, rfl, rfl, q16, (by unfold sp_tolV; rw [if_neg (by omega)]), (by unfold sp_tolR; rw [show sp_tolV (rr_ M0) p h m = -1 by unfold sp_tolV; rw [if_neg (by omega)], if_neg (by omega)]; exact row18), (ninerow18), (stM15), (rfM15), (rq17)⟩
    · refine rr_iload_n pf_267_19 rfl ?_
      refine rr_i2l pf_267_20 hm0 ?_
      refine rr_lconst (w := 0) pf_267_21 rfl ?_
      refine rr_ldc2_w pf_267_22 po_267 pl_9_243 ?_
      refine rr_cS3 pf_267_25 po_267 pc_9_197 (by decide) rfl (ct_R_in (by omega) (rl_rg hm0) (by unfold rl; omega) (by unfold rl; omega)) ?_
      refine rr_ifb_ne 37 pf_267_28 (by decide) (fun c20 => ?_) (fun c20 => ?_)
      · refine rr_aload_n pf_267_37 rfl ?_
        refine rr_getR pf_267_38 po_267 pg_9_13 rfl (ws_228 hW) (by decide) (wr_228_3 q2.1) ?_
        refine rr_iconst pf_267_41 ?_
        refine vr_iald (j := 2) q2 pf_267_42 (ws_230 hW) (by omega) (by omega) (by decide) (fun x21 hx21 rx21 => ?_)
        rw [e7] at hx21
        rw [rr_at (M := M0) (i := 2) (by omega)] at hx21
        have h2 := hρ.2.2.1
        refine rr_istore pf_267_43 (fun y => [.ref 228, .int (iI (p)), .int (iI (h)), .int (iI (m)), .int (iI (y))]) (Nat.le_of_ble_eq_true rfl) (fun _ => rfl) (fun y22 hy22 => ?_)
        have ry22 : rg y22 := hy22 ▸ rx21
        refine rr_iload pf_267_45 rfl ?_
        refine rr_bipush pf_267_47 (by decide) ?_
        refine rr_icmp_ne 59 pf_267_49 (by decide) ry22 (by unfold rg; omega) (fun c23 => ?_) (fun c23 => ?_)
        · refine rr_aload_n pf_267_59 rfl ?_
          refine rr_getR pf_267_60 po_267 pg_9_13 rfl (ws_228 hW) (by decide) (wr_228_3 q2.1) ?_
          refine rr_bipush pf_267_63 (by decide) ?_
          refine rr_iconst pf_267_65 ?_
          refine rr_iload pf_267_66 rfl ?_
          refine rr_imul pf_267_68 ?_
          refine rr_iadd pf_267_69 ?_
          refine rr_iload_n pf_267_70 rfl ?_
          refine vr_iast (j := 85 + 3 * (rr_ M0 2).toNat) hW q2 pf_267_71 (ws_230 hW) (by omega) (by omega) (by decide) hp0 (by decide) (fun M24 eM24 q25 => ?_)
          have rq26 := rz_ne rq3 eM24 (by decide)
          have row27 := rr_w row4 eM24 (by omega)
          have ninerow27 := r9_up ninerow4 eM24 (by omega)
          have f28 : M24 228 8 = M0 228 8 := (show M24 228 8 = M1 228 8 by rw [eM24, ask_ne (by decide)]).trans f5
          have e29 : M24 229 = M0 229 := (show M24 229 = M1 229 by rw [eM24, ask_ne (by decide)]).trans e6
          refine rr_aload_n pf_267_72 rfl ?_
          refine rr_getR pf_267_73 po_267 pg_9_13 rfl (ws_228 hW) (by decide) (wr_228_3 q25.1) ?_
          refine rr_bipush pf_267_76 (by decide) ?_
          refine rr_iconst pf_267_78 ?_
          refine rr_iload pf_267_79 rfl ?_
          refine rr_imul pf_267_81 ?_
          refine rr_iadd pf_267_82 ?_
          refine rr_iconst pf_267_83 ?_
          refine rr_iadd pf_267_84 ?_
          refine rr_iload_n pf_267_85 rfl ?_
          refine vr_iast (j := 85 + 3 * (rr_ M0 2).toNat + 1) hW q25 pf_267_86 (ws_230 hW) (by omega) (by omega) (by decide) hh0 (by decide) (fun M30 eM30 q31 => ?_)
          have rq32 := rz_ne rq26 eM30 (by decide)
          have row33 := rr_w row27 eM30 (by omega)
          have ninerow33 := r9_up ninerow27 eM30 (by omega)
          have f34 : M30 228 8 = M0 228 8 := (show M30 228 8 = M24 228 8 by rw [eM30, ask_ne (by decide)]).trans f28
          have e35 : M30 229 = M0 229 := (show M30 229 = M24 229 by rw [eM30, ask_ne (by decide)]).trans e29
          refine rr_aload_n pf_267_87 rfl ?_
          refine rr_getR pf_267_88 po_267 pg_9_13 rfl (ws_228 hW) (by decide) (wr_228_3 q31.1) ?_
          refine rr_bipush pf_267_91 (by decide) ?_
          refine rr_iconst pf_267_93 ?_
          refine rr_iload pf_267_94 rfl ?_
          refine rr_imul pf_267_96 ?_
          refine rr_iadd pf_267_97 ?_
          refine rr_iconst pf_267_98 ?_
          refine rr_iadd pf_267_99 ?_
          refine rr_iload_n pf_267_100 rfl ?_
          refine vr_iast (j := 85 + 3 * (rr_ M0 2).toNat + 2) hW q31 pf_267_101 (ws_230 hW) (by omega) (by omega) (by decide) hm0 (by decide) (fun M36 eM36 q37 => ?_)
          have rq38 := rz_ne rq32 eM36 (by decide)
          have row39 := rr_w row33 eM36 (by omega)
          have ninerow39 := r9_up ninerow33 eM36 (by omega)
          have f40 : M36 228 8 = M0 228 8 := (show M36 228 8 = M30 228 8 by rw [eM36, ask_ne (by decide)]).trans f34
          have e41 : M36 229 = M0 229 := (show M36 229 = M30 229 by rw [eM36, ask_ne (by decide)]).trans e35
          refine rr_aload_n pf_267_102 rfl ?_
          refine rr_getR pf_267_103 po_267 pg_9_13 rfl (ws_228 hW) (by decide) (wr_228_3 q37.1) ?_
          refine rr_iconst pf_267_106 ?_
          refine rr_dup2 pf_267_107 rfl rfl ?_
          refine vr_iald (j := 2) q37 pf_267_108 (ws_230 hW) (by omega) (by omega) (by decide) (fun x42 hx42 rx42 => ?_)
          rw [rr_of row39 (by omega), rup_n (by omega), rup_n (by omega), rup_n (by omega)] at hx42
          refine rr_iconst pf_267_109 ?_
          refine rr_iadd pf_267_110 ?_
          refine vr_iast (j := 2) hW q37 pf_267_111 (ws_230 hW) (by omega) (by omega) (by decide) (by unfold rg; omega) (by decide) (fun M43 eM43 q44 => ?_)
          have rq45 := rz_ne rq38 eM43 (by decide)
          have row46 := rr_w row39 eM43 (by omega)
          have ninerow46 := r9_up ninerow39 eM43 (by omega)
          have f47 : M43 228 8 = M0 228 8 := (show M43 228 8 = M36 228 8 by rw [eM43, ask_ne (by decide)]).trans f40
          have e48 : M43 229 = M0 229 := (show M43 229 = M36 229 by rw [eM43, ask_ne (by decide)]).trans e41
          refine rr_aload_n pf_267_112 rfl ?_
          refine rr_iload pf_267_113 rfl ?_
          refine rr_iconst pf_267_115 ?_
          refine rr_iadd pf_267_116 ?_
          obtain ⟨M49, ⟨kq50, taM49, tbM49⟩, hcM49⟩ := ct_R_tell (xs := xs) (L := L) (d := d) (v := y22 + 1) (by omega) hW q44.1 q44.2.1 (by unfold rg; omega) (by omega) (by rw [e48]; exact hrf)
          have q50 := qk_trm q44 kq50 (by decide)
          have rq51 := rz_tell rq45 taM49 (by decide)
          have stM49 : M49 228 1 = if (y22 + 1 : Int) < 0 then y22 + 1 else 0 := by rw [taM49, up_s]
          have rfM49 : M49 229 = bmp (M0 229) (y22 + 1) := by rw [tbM49, e48]; rfl
          have n8M49 : M49 228 8 = M0 228 8 := by rw [taM49, up_ne (by decide)]; exact f47
          have row52 := (rr_eq (kq50.2.2 230 (by decide))).trans row46
          have ninerow52 := r9_tr ninerow46 (r9_eq (kq50.2.2 230 (by decide)))
          refine rr_cV1 pf_267_117 po_267 pc_9_186 (ws_228 hW) po_176 (by decide) rfl hcM49 ?_
          refine rr_iret pf_267_120 pt_267 ⟨_, M49, rfl, rfl, q50, (by unfold sp_tolV; rw [if_pos (by omega), if_neg (by omega)]; omega), (by unfold sp_tolR; rw [show sp_tolV (rr_ M0) p h m = rr_ M0 2 + 1 by unfold sp_tolV; rw [if_pos (by omega), if_neg (by omega)], if_pos (by omega)]; rw [row52, show x42 = rr_ M0 2 by omega]), (ninerow52), (stM49), (rfM49), (rq51)⟩
        · refine rr_aload_n pf_267_52 rfl ?_
          refine rr_bipush pf_267_53 (by decide) ?_
          obtain ⟨M53, ⟨kq54, taM53, tbM53⟩, hcM53⟩ := ct_R_tell (xs := xs) (L := L) (d := d) (v := (-5)) (by omega) hW q2.1 q2.2.1 (by unfold rg; omega) (by omega) (by rw [e6]; exact hrf)
          have q54 := qk_trm q2 kq54 (by decide)
          have rq55 := rz_tell rq3 taM53 (by decide)
          have stM53 : M53 228 1 = if ((-5) : Int) < 0 then (-5) else 0 := by rw [taM53, up_s]
          have rfM53 : M53 229 = bmp (M0 229) (-5) := by rw [tbM53, e6]; rfl
          have n8M53 : M53 228 8 = M0 228 8 := by rw [taM53, up_ne (by decide)]; exact f5
          have row56 := (rr_eq (kq54.2.2 230 (by decide))).trans row4
          have ninerow56 := r9_tr ninerow4 (r9_eq (kq54.2.2 230 (by decide)))
          have e57 : M53 230 = M0 230 := (kq54.2.2 230 (by decide)).trans e7
          refine rr_cV1 pf_267_55 po_267 pc_9_186 (ws_228 hW) po_176 (by decide) rfl hcM53 ?_
          refine rr_iret pf_267_58 pt_267 ⟨_, M53, rfl, rfl, q54, (by unfold sp_tolV; rw [if_pos (by omega), if_pos (by omega)]), (by unfold sp_tolR; rw [show sp_tolV (rr_ M0) p h m = -5 by unfold sp_tolV; rw [if_pos (by omega), if_pos (by omega)], if_neg (by omega)]; exact row56), (ninerow56), (stM53), (rfM53), (rq55)⟩
      · refine rr_aload_n pf_267_31 rfl ?_
        refine rr_iconst pf_267_32 ?_
        obtain ⟨M58, ⟨kq59, taM58, tbM58⟩, hcM58⟩ := ct_R_tell (xs := xs) (L := L) (d := d) (v := (-1)) (by omega) hW q2.1 q2.2.1 (by unfold rg; omega) (by omega) (by rw [e6]; exact hrf)
        have q59 := qk_trm q2 kq59 (by decide)
        have rq60 := rz_tell rq3 taM58 (by decide)
        have stM58 : M58 228 1 = if ((-1) : Int) < 0 then (-1) else 0 := by rw [taM58, up_s]
        have rfM58 : M58 229 = bmp (M0 229) (-1) := by rw [tbM58, e6]; rfl
        have n8M58 : M58 228 8 = M0 228 8 := by rw [taM58, up_ne (by decide)]; exact f5
        have row61 := (rr_eq (kq59.2.2 230 (by decide))).trans row4
        have ninerow61 := r9_tr ninerow4 (r9_eq (kq59.2.2 230 (by decide)))
        have e62 : M58 230 = M0 230 := (kq59.2.2 230 (by decide)).trans e7
        refine rr_cV1 pf_267_33 po_267 pc_9_186 (ws_228 hW) po_176 (by decide) rfl hcM58 ?_
        refine rr_iret pf_267_36 pt_267 ⟨_, M58, rfl, rfl, q59, (by unfold sp_tolV; rw [if_neg (by omega)]), (by unfold sp_tolR; rw [show sp_tolV (rr_ M0) p h m = -1 by unfold sp_tolV; rw [if_neg (by omega)], if_neg (by omega)]; exact row61), (ninerow61), (stM58), (rfM58), (rq60)⟩
