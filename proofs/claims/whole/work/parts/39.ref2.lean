/-! the reference: panes of a seat, telling -/
theorem ct_R_paneOf {xs : Nat → Int} {L d : Nat} {sh : List (Nat × Nat)} {M : Nat → Nat → Int} (hd : 1 ≤ d) (hW : px_W0 <+: sh) (hF : px_Fx M) (hG : px_RG sh M) (hρ : sp_ok (rr_ M)) {s : Nat} (hs : s < 8) : px_Cl xs L d 209 [.ref 228, .int (iI (((s : Nat) : Int)))] (sh, M) (some (.int (iI ((sp_pane (rr_ M) s : Nat) : Int)))) (sh, M) := by
  obtain ⟨d, rfl⟩ : ∃ e, d = e + 1 := ⟨d - 1, by omega⟩
  refine px_Cl_intro (Nat.le_of_ble_eq_true rfl) ?_
  show px_R xs L d 209 (0, [.ref 228, .int (iI (((s : Nat) : Int)))], [], (sh, M)) _
  have h5 : M 230 (5 : Int).toNat = rr_ M 5 := rr_at (i := 5) (by omega)
  have h6 := hρ.2.2.2.2.2.1
  refine rr_iload_n pf_209_0 rfl ?_
  refine rr_aload_n pf_209_1 rfl ?_
  refine rr_getR pf_209_2 po_209 pg_9_13 rfl (ws_228 hW) (by decide) (wr_228_3 hF) ?_
  refine rr_iconst pf_209_5 ?_
  refine rr_iald pf_209_6 (ws_230 hW) (by omega) (by omega) (by simp only [rg, rl] at *; omega) ?_
  refine rr_iadd pf_209_7 ?_
  refine rr_iconst pf_209_8 ?_
  refine rr_iremP pf_209_9 (by simp only [rg, rl] at *; omega) (by simp only [rg, rl] at *; omega) (by omega) (by omega) ?_
  refine rr_iload_n pf_209_10 rfl ?_
  refine rr_iconst pf_209_11 ?_
  refine rr_icmp_ge 19 pf_209_12 (by decide) (by simp only [rg, rl] at *; omega) (by simp only [rg, rl] at *; omega) (fun c1 => ?_) (fun c1 => ?_)
  · refine rr_bipush pf_209_19 (by decide) ?_
    refine rr_iadd pf_209_21 ?_
    refine rr_iret pf_209_22 pt_209 ⟨by rw [← sp_pane_i hρ, h5]; congr 3; split <;> omega, rfl⟩
  · refine rr_iconst pf_209_15 ?_
    refine rr_goto 21 pf_209_16 (by decide) ?_
    refine rr_iadd pf_209_21 ?_
    refine rr_iret pf_209_22 pt_209 ⟨by rw [← sp_pane_i hρ, h5]; congr 3; split <;> omega, rfl⟩
theorem ct_R_tell {xs : Nat → Int} {L d : Nat} {sh : List (Nat × Nat)} {M : Nat → Nat → Int} (hd : 1 ≤ d) (hW : px_W0 <+: sh) (hF : px_Fx M) (hG : px_RG sh M) {v : Int} (hv : rg v) (hv6 : -6 ≤ v) (hb : ∀ j, j < 7 → 0 ≤ M 229 j ∧ M 229 j ≤ 1000000000) : ∃ M', (px_qk sh [228, 229] M M' ∧ M' 228 = px_up M 228 1 (if v < 0 then v else 0) 228 ∧ M' 229 = (if v < 0 then (fun j => if j = (-v).toNat then M 229 j + 1 else M 229 j) else M 229)) ∧ px_Cl xs L d 176 [.ref 228, .int (iI (v))] (sh, M) (some (.int (iI v))) (sh, M') := by
  obtain ⟨d, rfl⟩ : ∃ e, d = e + 1 := ⟨d - 1, by omega⟩

  refine px_Cl_m (Nat.le_of_ble_eq_true rfl) ?_
  show px_R xs L d 176 (0, [.ref 228, .int (iI (v))], [], (sh, M)) _
  refine rr_aload_n pf_176_0 rfl ?_
  refine rr_iload_n pf_176_1 rfl ?_
  refine rr_if_ge 9 pf_176_2 (by decide) hv (fun c1 => ?_) (fun c1 => ?_)
  · refine rr_iconst pf_176_9 ?_
    refine rr_putI pf_176_10 po_176 pg_9_180 (Or.inl rfl) rfl (ws_228 hW) (by decide) (by simp only [rg, rl] at *; omega) (fun M2 eM2 => ?_)
    have hE3 : px_eo [228, 229] M M2 := eo_tr eo_rf (by rw [eM2]; exact eo_up (by simp))
    have hF4 : px_Fx M2 := by rw [eM2]; exact fx_up hW hF (ws_228 hW) (Or.inl (by decide))
    have hG5 : px_RG sh M2 := by rw [eM2]; exact rg_up hG (ws_228 hW) (by decide) (by simp only [rg, rl] at *; omega)
    refine rr_iload_n pf_176_13 rfl ?_
    refine rr_if_ge 28 pf_176_14 (by decide) hv (fun c6 => ?_) (fun c6 => ?_)
    · refine rr_iload_n pf_176_28 rfl ?_
      refine rr_iret pf_176_29 pt_176 ⟨rfl, _, rfl, ⟨hF4, hG5, hE3⟩, by rw [eM2, if_neg (by omega)], by rw [if_neg (by omega), eM2, ask_ne (by omega)]⟩
    · exfalso; omega
  · refine rr_iload_n pf_176_5 rfl ?_
    refine rr_goto 10 pf_176_6 (by decide) ?_
    refine rr_putI pf_176_10 po_176 pg_9_180 (Or.inl rfl) rfl (ws_228 hW) (by decide) hv (fun M7 eM7 => ?_)
    have hE8 : px_eo [228, 229] M M7 := eo_tr eo_rf (by rw [eM7]; exact eo_up (by simp))
    have hF9 : px_Fx M7 := by rw [eM7]; exact fx_up hW hF (ws_228 hW) (Or.inl (by decide))
    have hG10 : px_RG sh M7 := by rw [eM7]; exact rg_up hG (ws_228 hW) (by decide) hv
    refine rr_iload_n pf_176_13 rfl ?_
    refine rr_if_ge 28 pf_176_14 (by decide) hv (fun c11 => ?_) (fun c11 => ?_)
    · exfalso; omega
    · refine rr_aload_n pf_176_17 rfl ?_
      refine rr_getR pf_176_18 po_176 pg_9_7 rfl (ws_228 hW) (by decide) (wr_228_2 hF9) ?_
      refine rr_iload_n pf_176_21 rfl ?_
      refine rr_ineg pf_176_22 ?_
      refine rr_dup2 pf_176_23 rfl rfl ?_
      refine rr_iald pf_176_24 (ws_229 hW) (by omega) (by omega) (by simp only [rg, rl] at *; omega) ?_
      have hcn : 0 ≤ M7 229 (-v).toNat ∧ M7 229 (-v).toNat ≤ 1000000000 := by rw [eM7, ask_ne (by omega)]; exact hb _ (by omega)
      refine rr_iconst pf_176_25 ?_
      refine rr_iadd pf_176_26 ?_
      refine rr_iast pf_176_27 (ws_229 hW) (by omega) (by omega) (by simp only [rg, rl] at *; omega) (by simp only [rg, rl] at *; omega) (fun M12 eM12 => ?_)
      have hE13 : px_eo [228, 229] M M12 := eo_tr hE8 (by rw [eM12]; exact eo_up (by simp))
      have hF14 : px_Fx M12 := by rw [eM12]; exact fx_up hW hF9 (ws_229 hW) (Or.inl (by rw [px_ty10]; decide))
      have hG15 : px_RG sh M12 := by rw [eM12]; exact rg_up hG10 (ws_229 hW) (by rw [px_ty10]; decide) (by simp only [rg, rl] at *; omega)
      refine rr_iload_n pf_176_28 rfl ?_
      refine rr_iret pf_176_29 pt_176 ⟨rfl, _, rfl, ⟨hF14, hG15, hE13⟩, by rw [eM12, ask_ne (by omega), eM7, if_pos (by omega)], by rw [if_pos (by omega), eM12]; funext j; rw [ask_up, eM7, ask_ne (by omega)]; split <;> (try subst_vars) <;> rfl⟩
