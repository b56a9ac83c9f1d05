/-! the reference: settled -/
theorem ct_R_settled {xs : Nat → Int} {L d : Nat} {sh : List (Nat × Nat)} {M : Nat → Nat → Int} (hd : 2 ≤ d) (hW : px_W0 <+: sh) (hF : px_Fx M) (hG : px_RG sh M) {v : Int} (hv : rg v) (hv6 : -6 ≤ v) (hb : ∀ j, j < 7 → 0 ≤ M 229 j ∧ M 229 j ≤ 1000000000) : ∃ M', (px_qk sh [228, 229] M M' ∧ M' 228 = px_up (px_up M 228 8 (if v < 0 then M 228 8 else 0)) 228 1 (if v < 0 then v else 0) 228 ∧ M' 229 = (if v < 0 then (fun j => if j = (-v).toNat then M 229 j + 1 else M 229 j) else M 229)) ∧ px_Cl xs L d 181 [.ref 228, .int (iI (v))] (sh, M) (some (.int (iI v))) (sh, M') := by
  obtain ⟨d, rfl⟩ : ∃ e, d = e + 1 := ⟨d - 1, by omega⟩

  refine px_Cl_m (Nat.le_of_ble_eq_true rfl) ?_
  show px_R xs L d 181 (0, [.ref 228, .int (iI (v))], [], (sh, M)) _
  refine rr_aload_n pf_181_0 rfl ?_
  refine rr_iload_n pf_181_1 rfl ?_
  refine rr_if_ge 12 pf_181_2 (by decide) hv (fun c1 => ?_) (fun c1 => ?_)
  · refine rr_iconst pf_181_12 ?_
    refine rr_putI pf_181_13 po_181 pg_9_183 (Or.inl rfl) rfl (ws_228 hW) (by decide) (by simp only [rg, rl] at *; omega) (fun M2 eM2 => ?_)
    have hE3 : px_eo [228, 229] M M2 := eo_tr eo_rf (by rw [eM2]; exact eo_up (by simp))
    have hF4 : px_Fx M2 := by rw [eM2]; exact fx_up hW hF (ws_228 hW) (Or.inl (by decide))
    have hG5 : px_RG sh M2 := by rw [eM2]; exact rg_up hG (ws_228 hW) (by decide) (by simp only [rg, rl] at *; omega)
    refine rr_aload_n pf_181_16 rfl ?_
    refine rr_iload_n pf_181_17 rfl ?_
    obtain ⟨M6, ⟨qM6, aM6, bM6⟩, hcM6⟩ := ct_R_tell (xs := xs) (L := L) (d := d) (by omega) hW hF4 hG5 (v := v) hv hv6 (by rw [eM2, ask_ne (by omega)]; exact hb)
    refine rr_cV1 pf_181_18 po_181 pc_9_186 (ws_228 hW) po_176 (by decide) rfl hcM6 ?_
    have hE7 : px_eo [228, 229] M M6 := eo_tr hE3 qM6.2.2
    refine rr_iret pf_181_21 pt_181 ⟨rfl, _, rfl, ⟨qM6.1, qM6.2.1, hE7⟩, by rw [aM6, eM2, if_neg (c := v < 0) (t := M 228 8) (e := 0) (by omega)], by rw [bM6, eM2, ask_ne (by omega)]⟩
  · refine rr_aload_n pf_181_5 rfl ?_
    refine rr_getI pf_181_6 po_181 pg_9_183 rfl (ws_228 hW) (by decide) ?_
    refine rr_goto 13 pf_181_9 (by decide) ?_
    refine rr_putI pf_181_13 po_181 pg_9_183 (Or.inl rfl) rfl (ws_228 hW) (by decide) (rg_at hG (ws_228 hW) (by decide)) (fun M8 eM8 => ?_)
    have hE9 : px_eo [228, 229] M M8 := eo_tr eo_rf (by rw [eM8]; exact eo_up (by simp))
    have hF10 : px_Fx M8 := by rw [eM8]; exact fx_up hW hF (ws_228 hW) (Or.inl (by decide))
    have hG11 : px_RG sh M8 := by rw [eM8]; exact rg_up hG (ws_228 hW) (by decide) (rg_at hG (ws_228 hW) (by decide))
    refine rr_aload_n pf_181_16 rfl ?_
    refine rr_iload_n pf_181_17 rfl ?_
    obtain ⟨M12, ⟨qM12, aM12, bM12⟩, hcM12⟩ := ct_R_tell (xs := xs) (L := L) (d := d) (by omega) hW hF10 hG11 (v := v) hv hv6 (by rw [eM8, ask_ne (by omega)]; exact hb)
    refine rr_cV1 pf_181_18 po_181 pc_9_186 (ws_228 hW) po_176 (by decide) rfl hcM12 ?_
    have hE13 : px_eo [228, 229] M M12 := eo_tr hE9 qM12.2.2
    refine rr_iret pf_181_21 pt_181 ⟨rfl, _, rfl, ⟨qM12.1, qM12.2.1, hE13⟩, by rw [aM12, eM8, if_pos (c := v < 0) (t := M 228 8) (e := 0) (by omega)], by rw [bM12, eM8, ask_ne (by omega)]⟩
