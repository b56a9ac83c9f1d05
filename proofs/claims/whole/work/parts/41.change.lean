/-! the reference: changes of its row -/
theorem rr_up {M : Nat → Nat → Int} {i : Nat} (hi : i < 109) (x : Int) : rr_ (px_up M 230 i x) = rup (rr_ M) i x := by
  funext j
  unfold rr_ rup
  show (if j < 109 then px_up M 230 i x 230 j else 0) = if j = i then x else if j < 109 then M 230 j else 0
  by_cases h : j < 109
  · rw [if_pos h, if_pos h, ask_up]
  · rw [if_neg h, if_neg h, if_neg (by omega)]
theorem rr_eq {M M2 : Nat → Nat → Int} (h : M2 230 = M 230) : rr_ M2 = rr_ M := by
  funext j
  unfold rr_
  rw [h]
theorem ct_R_change {xs : Nat → Int} {L d : Nat} {sh : List (Nat × Nat)} {M : Nat → Nat → Int} (hd : 1 ≤ d) (hW : px_W0 <+: sh) (hF : px_Fx M) (hG : px_RG sh M) {at_ : Nat} (hat : at_ < 109) {x : Int} (hx : rg x) : ∃ M', (px_qk sh [228, 230] M M' ∧ rr_ M' = rup (rr_ M) at_ x ∧ M' 228 = px_up M 228 1 0 228) ∧ px_Cl xs L d 212 [.ref 228, .int (iI (((at_ : Nat) : Int))), .int (iI (x))] (sh, M) (some (.int (iI (rr_ M at_)))) (sh, M') := by
  obtain ⟨d, rfl⟩ : ∃ e, d = e + 1 := ⟨d - 1, by omega⟩

  refine px_Cl_m (Nat.le_of_ble_eq_true rfl) ?_
  show px_R xs L d 212 (0, [.ref 228, .int (iI (((at_ : Nat) : Int))), .int (iI (x)), px_jk], [], (sh, M)) _
  refine rr_aload_n pf_212_0 rfl ?_
  refine rr_getR pf_212_1 po_212 pg_9_13 rfl (ws_228 hW) (by decide) (wr_228_3 hF) ?_
  refine rr_iload_n pf_212_4 rfl ?_
  refine rr_iald pf_212_5 (ws_230 hW) (by omega) (by omega) (by simp only [rg, rl] at *; omega) ?_
  refine rr_istore_n pf_212_6 (fun y => [.ref 228, .int (iI (((at_ : Nat) : Int))), .int (iI (x)), .int (iI (y))]) (Nat.le_of_ble_eq_true rfl) (fun _ => rfl) (fun y1 hy1 => ?_)
  refine rr_aload_n pf_212_7 rfl ?_
  refine rr_getR pf_212_8 po_212 pg_9_13 rfl (ws_228 hW) (by decide) (wr_228_3 hF) ?_
  refine rr_iload_n pf_212_11 rfl ?_
  refine rr_iload_n pf_212_12 rfl ?_
  refine rr_iast pf_212_13 (ws_230 hW) (by omega) (by omega) (by simp only [rg, rl] at *; omega) hx (fun M2 eM2 => ?_)
  have hE3 : px_eo [228, 230] M M2 := eo_tr eo_rf (by rw [eM2]; exact eo_up (by simp))
  have hF4 : px_Fx M2 := by rw [eM2]; exact fx_up hW hF (ws_230 hW) (Or.inl (by rw [px_ty10]; decide))
  have hG5 : px_RG sh M2 := by rw [eM2]; exact rg_up hG (ws_230 hW) (by rw [px_ty10]; decide) hx
  refine rr_aload_n pf_212_14 rfl ?_
  refine rr_iconst pf_212_15 ?_
  refine rr_putI pf_212_16 po_212 pg_9_180 (Or.inl rfl) rfl (ws_228 hW) (by decide) (by simp only [rg, rl] at *; omega) (fun M6 eM6 => ?_)
  have hE7 : px_eo [228, 230] M M6 := eo_tr hE3 (by rw [eM6]; exact eo_up (by simp))
  have hF8 : px_Fx M6 := by rw [eM6]; exact fx_up hW hF4 (ws_228 hW) (Or.inl (by decide))
  have hG9 : px_RG sh M6 := by rw [eM6]; exact rg_up hG5 (ws_228 hW) (by decide) (by simp only [rg, rl] at *; omega)
  refine rr_iload_n pf_212_19 rfl ?_
  refine rr_iret pf_212_20 pt_212 ⟨by subst_vars; rw [Int.toNat_natCast, rr_at (M := M) hat], _, rfl, ⟨hF8, hG9, hE7⟩, by rw [rr_eq (M := M2) (by rw [eM6, ask_ne (by omega)]), eM2, Int.toNat_natCast, rr_up hat], by rw [eM6]; funext j; rw [ask_up, ask_up, eM2, ask_ne (by omega)]⟩
