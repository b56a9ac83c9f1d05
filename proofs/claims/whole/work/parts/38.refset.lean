/-! the reference: what a law is asked -/
def stE (M : Nat → Nat → Int) (v : Nat → Int) : Prop := ∀ j, j < 12 → M 246 (j + 1) = v j
theorem stE_of {M : Nat → Nat → Int} {v : Nat → Int} (h : ∀ j, 1 ≤ j → j < 13 → M 246 j = v (j - 1)) : stE M v := fun j hj => by rw [h (j + 1) (by omega) (by omega)]; rfl
theorem ct_R_setNone {xs : Nat → Int} {L d : Nat} {sh : List (Nat × Nat)} {M : Nat → Nat → Int} (hd : 1 ≤ d) (hW : px_W0 <+: sh) (hF : px_Fx M) (hG : px_RG sh M) : ∃ M', (px_qk sh [246] M M' ∧ stE M' (sp_envD (rr_ M) (-1) (-1) (-1) (-1))) ∧ px_Cl xs L d 187 [.ref 228] (sh, M) (none) (sh, M') := by
  obtain ⟨d, rfl⟩ : ∃ e, d = e + 1 := ⟨d - 1, by omega⟩

  refine px_Cl_m (Nat.le_of_ble_eq_true rfl) ?_
  show px_R xs L d 187 (0, [.ref 228, px_jk], [], (sh, M)) _
  refine rr_iconst pf_187_0 ?_
  refine rr_istore_n pf_187_1 (fun y => [.ref 228, .int (iI (y))]) (Nat.le_of_ble_eq_true rfl) (fun _ => rfl) (fun y1 hy1 => ?_)
  refine rr_iload_n pf_187_2 rfl ?_
  refine rr_bipush pf_187_3 (by decide) ?_
  refine rr_icmp_ge 23 pf_187_5 (by decide) (by simp only [rg, rl] at *; omega) (by simp only [rg, rl] at *; omega) (fun c2 => ?_) (fun c2 => ?_)
  · exfalso; omega
  · refine rr_aload_n pf_187_8 rfl ?_
    refine rr_getR pf_187_9 po_187 pg_9_107 rfl (ws_228 hW) (by decide) (wr_228_35 hF) ?_
    refine rr_iload_n pf_187_12 rfl ?_
    refine rr_ldc2_w pf_187_13 po_187 pl_9_303 ?_
    refine rr_last pf_187_16 (ws_246 hW) (by omega) (by omega) (by simp only [rg, rl] at *; omega) (by simp only [rg, rl] at *; omega) (fun M3 eM3 => ?_)
    have hE4 : px_eo [246] M M3 := eo_tr eo_rf (by rw [eM3]; exact eo_up (by simp))
    have hF5 : px_Fx M3 := by rw [eM3]; exact fx_up hW hF (ws_246 hW) (Or.inl (by rw [px_ty12]; decide))
    have hG6 : px_RG sh M3 := by rw [eM3]; exact rg_upL hG (ws_246 hW) rfl (by simp only [rg, rl] at *; omega)
    refine rr_iinc pf_187_17 rfl (fun y => [.ref 228, .int (iI (y))]) (fun _ => rfl) (fun y7 hy7 => ?_)
    refine rr_goto 2 pf_187_20 (by decide) ?_
    refine rr_iload_n pf_187_2 rfl ?_
    refine rr_bipush pf_187_3 (by decide) ?_
    refine rr_icmp_ge 23 pf_187_5 (by decide) (by simp only [rg, rl] at *; omega) (by simp only [rg, rl] at *; omega) (fun c8 => ?_) (fun c8 => ?_)
    · exfalso; omega
    · refine rr_aload_n pf_187_8 rfl ?_
      refine rr_getR pf_187_9 po_187 pg_9_107 rfl (ws_228 hW) (by decide) (wr_228_35 hF5) ?_
      refine rr_iload_n pf_187_12 rfl ?_
      refine rr_ldc2_w pf_187_13 po_187 pl_9_303 ?_
      refine rr_last pf_187_16 (ws_246 hW) (by omega) (by omega) (by simp only [rg, rl] at *; omega) (by simp only [rg, rl] at *; omega) (fun M9 eM9 => ?_)
      have hE10 : px_eo [246] M M9 := eo_tr hE4 (by rw [eM9]; exact eo_up (by simp))
      have hF11 : px_Fx M9 := by rw [eM9]; exact fx_up hW hF5 (ws_246 hW) (Or.inl (by rw [px_ty12]; decide))
      have hG12 : px_RG sh M9 := by rw [eM9]; exact rg_upL hG6 (ws_246 hW) rfl (by simp only [rg, rl] at *; omega)
      refine rr_iinc pf_187_17 rfl (fun y => [.ref 228, .int (iI (y))]) (fun _ => rfl) (fun y13 hy13 => ?_)
      refine rr_goto 2 pf_187_20 (by decide) ?_
      refine rr_iload_n pf_187_2 rfl ?_
      refine rr_bipush pf_187_3 (by decide) ?_
      refine rr_icmp_ge 23 pf_187_5 (by decide) (by simp only [rg, rl] at *; omega) (by simp only [rg, rl] at *; omega) (fun c14 => ?_) (fun c14 => ?_)
      · exfalso; omega
      · refine rr_aload_n pf_187_8 rfl ?_
        refine rr_getR pf_187_9 po_187 pg_9_107 rfl (ws_228 hW) (by decide) (wr_228_35 hF11) ?_
        refine rr_iload_n pf_187_12 rfl ?_
        refine rr_ldc2_w pf_187_13 po_187 pl_9_303 ?_
        refine rr_last pf_187_16 (ws_246 hW) (by omega) (by omega) (by simp only [rg, rl] at *; omega) (by simp only [rg, rl] at *; omega) (fun M15 eM15 => ?_)
        have hE16 : px_eo [246] M M15 := eo_tr hE10 (by rw [eM15]; exact eo_up (by simp))
        have hF17 : px_Fx M15 := by rw [eM15]; exact fx_up hW hF11 (ws_246 hW) (Or.inl (by rw [px_ty12]; decide))
        have hG18 : px_RG sh M15 := by rw [eM15]; exact rg_upL hG12 (ws_246 hW) rfl (by simp only [rg, rl] at *; omega)
        refine rr_iinc pf_187_17 rfl (fun y => [.ref 228, .int (iI (y))]) (fun _ => rfl) (fun y19 hy19 => ?_)
        refine rr_goto 2 pf_187_20 (by decide) ?_
        refine rr_iload_n pf_187_2 rfl ?_
        refine rr_bipush pf_187_3 (by decide) ?_
        refine rr_icmp_ge 23 pf_187_5 (by decide) (by simp only [rg, rl] at *; omega) (by simp only [rg, rl] at *; omega) (fun c20 => ?_) (fun c20 => ?_)
        · exfalso; omega
        · refine rr_aload_n pf_187_8 rfl ?_
          refine rr_getR pf_187_9 po_187 pg_9_107 rfl (ws_228 hW) (by decide) (wr_228_35 hF17) ?_
          refine rr_iload_n pf_187_12 rfl ?_
          refine rr_ldc2_w pf_187_13 po_187 pl_9_303 ?_
          refine rr_last pf_187_16 (ws_246 hW) (by omega) (by omega) (by simp only [rg, rl] at *; omega) (by simp only [rg, rl] at *; omega) (fun M21 eM21 => ?_)
          have hE22 : px_eo [246] M M21 := eo_tr hE16 (by rw [eM21]; exact eo_up (by simp))
          have hF23 : px_Fx M21 := by rw [eM21]; exact fx_up hW hF17 (ws_246 hW) (Or.inl (by rw [px_ty12]; decide))
          have hG24 : px_RG sh M21 := by rw [eM21]; exact rg_upL hG18 (ws_246 hW) rfl (by simp only [rg, rl] at *; omega)
          refine rr_iinc pf_187_17 rfl (fun y => [.ref 228, .int (iI (y))]) (fun _ => rfl) (fun y25 hy25 => ?_)
          refine rr_goto 2 pf_187_20 (by decide) ?_
          refine rr_iload_n pf_187_2 rfl ?_
          refine rr_bipush pf_187_3 (by decide) ?_
          refine rr_icmp_ge 23 pf_187_5 (by decide) (by simp only [rg, rl] at *; omega) (by simp only [rg, rl] at *; omega) (fun c26 => ?_) (fun c26 => ?_)
          · exfalso; omega
          · refine rr_aload_n pf_187_8 rfl ?_
            refine rr_getR pf_187_9 po_187 pg_9_107 rfl (ws_228 hW) (by decide) (wr_228_35 hF23) ?_
            refine rr_iload_n pf_187_12 rfl ?_
            refine rr_ldc2_w pf_187_13 po_187 pl_9_303 ?_
            refine rr_last pf_187_16 (ws_246 hW) (by omega) (by omega) (by simp only [rg, rl] at *; omega) (by simp only [rg, rl] at *; omega) (fun M27 eM27 => ?_)
            have hE28 : px_eo [246] M M27 := eo_tr hE22 (by rw [eM27]; exact eo_up (by simp))
            have hF29 : px_Fx M27 := by rw [eM27]; exact fx_up hW hF23 (ws_246 hW) (Or.inl (by rw [px_ty12]; decide))
            have hG30 : px_RG sh M27 := by rw [eM27]; exact rg_upL hG24 (ws_246 hW) rfl (by simp only [rg, rl] at *; omega)
            refine rr_iinc pf_187_17 rfl (fun y => [.ref 228, .int (iI (y))]) (fun _ => rfl) (fun y31 hy31 => ?_)
            refine rr_goto 2 pf_187_20 (by decide) ?_
            refine rr_iload_n pf_187_2 rfl ?_
            refine rr_bipush pf_187_3 (by decide) ?_
            refine rr_icmp_ge 23 pf_187_5 (by decide) (by simp only [rg, rl] at *; omega) (by simp only [rg, rl] at *; omega) (fun c32 => ?_) (fun c32 => ?_)
            · exfalso; omega
            · refine rr_aload_n pf_187_8 rfl ?_
              refine rr_getR pf_187_9 po_187 pg_9_107 rfl (ws_228 hW) (by decide) (wr_228_35 hF29) ?_
              refine rr_iload_n pf_187_12 rfl ?_
              refine rr_ldc2_w pf_187_13 po_187 pl_9_303 ?_
              refine rr_last pf_187_16 (ws_246 hW) (by omega) (by omega) (by simp only [rg, rl] at *; omega) (by simp only [rg, rl] at *; omega) (fun M33 eM33 => ?_)
              have hE34 : px_eo [246] M M33 := eo_tr hE28 (by rw [eM33]; exact eo_up (by simp))
              have hF35 : px_Fx M33 := by rw [eM33]; exact fx_up hW hF29 (ws_246 hW) (Or.inl (by rw [px_ty12]; decide))
              have hG36 : px_RG sh M33 := by rw [eM33]; exact rg_upL hG30 (ws_246 hW) rfl (by simp only [rg, rl] at *; omega)
              refine rr_iinc pf_187_17 rfl (fun y => [.ref 228, .int (iI (y))]) (fun _ => rfl) (fun y37 hy37 => ?_)
              refine rr_goto 2 pf_187_20 (by decide) ?_
              refine rr_iload_n pf_187_2 rfl ?_
              refine rr_bipush pf_187_3 (by decide) ?_
              refine rr_icmp_ge 23 pf_187_5 (by decide) (by simp only [rg, rl] at *; omega) (by simp only [rg, rl] at *; omega) (fun c38 => ?_) (fun c38 => ?_)
              · exfalso; omega
              · refine rr_aload_n pf_187_8 rfl ?_
                refine rr_getR pf_187_9 po_187 pg_9_107 rfl (ws_228 hW) (by decide) (wr_228_35 hF35) ?_
                refine rr_iload_n pf_187_12 rfl ?_
                refine rr_ldc2_w pf_187_13 po_187 pl_9_303 ?_
                refine rr_last pf_187_16 (ws_246 hW) (by omega) (by omega) (by simp only [rg, rl] at *; omega) (by simp only [rg, rl] at *; omega) (fun M39 eM39 => ?_)
                have hE40 : px_eo [246] M M39 := eo_tr hE34 (by rw [eM39]; exact eo_up (by simp))
                have hF41 : px_Fx M39 := by rw [eM39]; exact fx_up hW hF35 (ws_246 hW) (Or.inl (by rw [px_ty12]; decide))
                have hG42 : px_RG sh M39 := by rw [eM39]; exact rg_upL hG36 (ws_246 hW) rfl (by simp only [rg, rl] at *; omega)
                refine rr_iinc pf_187_17 rfl (fun y => [.ref 228, .int (iI (y))]) (fun _ => rfl) (fun y43 hy43 => ?_)
                refine rr_goto 2 pf_187_20 (by decide) ?_
                refine rr_iload_n pf_187_2 rfl ?_
                refine rr_bipush pf_187_3 (by decide) ?_
                refine rr_icmp_ge 23 pf_187_5 (by decide) (by simp only [rg, rl] at *; omega) (by simp only [rg, rl] at *; omega) (fun c44 => ?_) (fun c44 => ?_)
                · exfalso; omega
                · refine rr_aload_n pf_187_8 rfl ?_
                  refine rr_getR pf_187_9 po_187 pg_9_107 rfl (ws_228 hW) (by decide) (wr_228_35 hF41) ?_
                  refine rr_iload_n pf_187_12 rfl ?_
                  refine rr_ldc2_w pf_187_13 po_187 pl_9_303 ?_
                  refine rr_last pf_187_16 (ws_246 hW) (by omega) (by omega) (by simp only [rg, rl] at *; omega) (by simp only [rg, rl] at *; omega) (fun M45 eM45 => ?_)
                  have hE46 : px_eo [246] M M45 := eo_tr hE40 (by rw [eM45]; exact eo_up (by simp))
                  have hF47 : px_Fx M45 := by rw [eM45]; exact fx_up hW hF41 (ws_246 hW) (Or.inl (by rw [px_ty12]; decide))
                  have hG48 : px_RG sh M45 := by rw [eM45]; exact rg_upL hG42 (ws_246 hW) rfl (by simp only [rg, rl] at *; omega)
                  refine rr_iinc pf_187_17 rfl (fun y => [.ref 228, .int (iI (y))]) (fun _ => rfl) (fun y49 hy49 => ?_)
                  refine rr_goto 2 pf_187_20 (by decide) ?_
                  refine rr_iload_n pf_187_2 rfl ?_
                  refine rr_bipush pf_187_3 (by decide) ?_
                  refine rr_icmp_ge 23 pf_187_5 (by decide) (by simp only [rg, rl] at *; omega) (by simp only [rg, rl] at *; omega) (fun c50 => ?_) (fun c50 => ?_)
                  · exfalso; omega
                  · refine rr_aload_n pf_187_8 rfl ?_
                    refine rr_getR pf_187_9 po_187 pg_9_107 rfl (ws_228 hW) (by decide) (wr_228_35 hF47) ?_
                    refine rr_iload_n pf_187_12 rfl ?_
                    refine rr_ldc2_w pf_187_13 po_187 pl_9_303 ?_
                    refine rr_last pf_187_16 (ws_246 hW) (by omega) (by omega) (by simp only [rg, rl] at *; omega) (by simp only [rg, rl] at *; omega) (fun M51 eM51 => ?_)
                    have hE52 : px_eo [246] M M51 := eo_tr hE46 (by rw [eM51]; exact eo_up (by simp))
                    have hF53 : px_Fx M51 := by rw [eM51]; exact fx_up hW hF47 (ws_246 hW) (Or.inl (by rw [px_ty12]; decide))
                    have hG54 : px_RG sh M51 := by rw [eM51]; exact rg_upL hG48 (ws_246 hW) rfl (by simp only [rg, rl] at *; omega)
                    refine rr_iinc pf_187_17 rfl (fun y => [.ref 228, .int (iI (y))]) (fun _ => rfl) (fun y55 hy55 => ?_)
                    refine rr_goto 2 pf_187_20 (by decide) ?_
                    refine rr_iload_n pf_187_2 rfl ?_
                    refine rr_bipush pf_187_3 (by decide) ?_
                    refine rr_icmp_ge 23 pf_187_5 (by decide) (by simp only [rg, rl] at *; omega) (by simp only [rg, rl] at *; omega) (fun c56 => ?_) (fun c56 => ?_)
                    · exfalso; omega
                    · refine rr_aload_n pf_187_8 rfl ?_
                      refine rr_getR pf_187_9 po_187 pg_9_107 rfl (ws_228 hW) (by decide) (wr_228_35 hF53) ?_
                      refine rr_iload_n pf_187_12 rfl ?_
                      refine rr_ldc2_w pf_187_13 po_187 pl_9_303 ?_
                      refine rr_last pf_187_16 (ws_246 hW) (by omega) (by omega) (by simp only [rg, rl] at *; omega) (by simp only [rg, rl] at *; omega) (fun M57 eM57 => ?_)
                      have hE58 : px_eo [246] M M57 := eo_tr hE52 (by rw [eM57]; exact eo_up (by simp))
                      have hF59 : px_Fx M57 := by rw [eM57]; exact fx_up hW hF53 (ws_246 hW) (Or.inl (by rw [px_ty12]; decide))
                      have hG60 : px_RG sh M57 := by rw [eM57]; exact rg_upL hG54 (ws_246 hW) rfl (by simp only [rg, rl] at *; omega)
                      refine rr_iinc pf_187_17 rfl (fun y => [.ref 228, .int (iI (y))]) (fun _ => rfl) (fun y61 hy61 => ?_)
                      refine rr_goto 2 pf_187_20 (by decide) ?_
                      refine rr_iload_n pf_187_2 rfl ?_
                      refine rr_bipush pf_187_3 (by decide) ?_
                      refine rr_icmp_ge 23 pf_187_5 (by decide) (by simp only [rg, rl] at *; omega) (by simp only [rg, rl] at *; omega) (fun c62 => ?_) (fun c62 => ?_)
                      · refine rr_aload_n pf_187_23 rfl ?_
                        refine rr_getR pf_187_24 po_187 pg_9_107 rfl (ws_228 hW) (by decide) (wr_228_35 hF59) ?_
                        refine rr_bipush pf_187_27 (by decide) ?_
                        refine rr_aload_n pf_187_29 rfl ?_
                        refine rr_getR pf_187_30 po_187 pg_9_13 rfl (ws_228 hW) (by decide) (wr_228_3 hF59) ?_
                        refine rr_iconst pf_187_33 ?_
                        refine rr_iald pf_187_34 (ws_230 hW) (by omega) (by omega) (by simp only [rg, rl] at *; omega) ?_
                        refine rr_i2l pf_187_35 (rg_at hG60 (ws_230 hW) (by rw [px_ty10]; decide)) ?_
                        refine rr_last pf_187_36 (ws_246 hW) (by omega) (by omega) (by simp only [rg, rl] at *; omega) (rl_rg (rg_at hG60 (ws_230 hW) (by rw [px_ty10]; decide))) (fun M63 eM63 => ?_)
                        have hE64 : px_eo [246] M M63 := eo_tr hE58 (by rw [eM63]; exact eo_up (by simp))
                        have hF65 : px_Fx M63 := by rw [eM63]; exact fx_up hW hF59 (ws_246 hW) (Or.inl (by rw [px_ty12]; decide))
                        have hG66 : px_RG sh M63 := by rw [eM63]; exact rg_upL hG60 (ws_246 hW) rfl (rl_rg (rg_at hG60 (ws_230 hW) (by rw [px_ty10]; decide)))
                        refine rr_aload_n pf_187_37 rfl ?_
                        refine rr_getR pf_187_38 po_187 pg_9_107 rfl (ws_228 hW) (by decide) (wr_228_35 hF65) ?_
                        refine rr_bipush pf_187_41 (by decide) ?_
                        refine rr_aload_n pf_187_43 rfl ?_
                        refine rr_getR pf_187_44 po_187 pg_9_13 rfl (ws_228 hW) (by decide) (wr_228_3 hF65) ?_
                        refine rr_bipush pf_187_47 (by decide) ?_
                        refine rr_iald pf_187_49 (ws_230 hW) (by omega) (by omega) (by simp only [rg, rl] at *; omega) ?_
                        refine rr_i2l pf_187_50 (rg_at hG66 (ws_230 hW) (by rw [px_ty10]; decide)) ?_
                        refine rr_last pf_187_51 (ws_246 hW) (by omega) (by omega) (by simp only [rg, rl] at *; omega) (rl_rg (rg_at hG66 (ws_230 hW) (by rw [px_ty10]; decide))) (fun M67 eM67 => ?_)
                        have hE68 : px_eo [246] M M67 := eo_tr hE64 (by rw [eM67]; exact eo_up (by simp))
                        have hF69 : px_Fx M67 := by rw [eM67]; exact fx_up hW hF65 (ws_246 hW) (Or.inl (by rw [px_ty12]; decide))
                        have hG70 : px_RG sh M67 := by rw [eM67]; exact rg_upL hG66 (ws_246 hW) rfl (rl_rg (rg_at hG66 (ws_230 hW) (by rw [px_ty10]; decide)))
                        refine rr_vret pf_187_52 pt_187 ⟨rfl, _, rfl, ⟨hF69, hG70, hE68⟩, by unfold stE sp_envD; exact sp_env_eq (f := fun j => M67 246 (j + 1)) (by rw [eM67, ask_up, if_neg (by omega), eM63, ask_up, if_neg (by omega), eM57, ask_up, if_neg (by omega), eM51, ask_up, if_neg (by omega), eM45, ask_up, if_neg (by omega), eM39, ask_up, if_neg (by omega), eM33, ask_up, if_neg (by omega), eM27, ask_up, if_neg (by omega), eM21, ask_up, if_neg (by omega), eM15, ask_up, if_neg (by omega), eM9, ask_up, if_neg (by omega), eM3, ask_up, if_pos (by omega)]) (by rw [eM67, ask_up, if_neg (by omega), eM63, ask_up, if_neg (by omega), eM57, ask_up, if_neg (by omega), eM51, ask_up, if_neg (by omega), eM45, ask_up, if_neg (by omega), eM39, ask_up, if_neg (by omega), eM33, ask_up, if_neg (by omega), eM27, ask_up, if_neg (by omega), eM21, ask_up, if_neg (by omega), eM15, ask_up, if_neg (by omega), eM9, ask_up, if_pos (by omega)]) (by rw [eM67, ask_up, if_neg (by omega), eM63, ask_up, if_neg (by omega), eM57, ask_up, if_neg (by omega), eM51, ask_up, if_neg (by omega), eM45, ask_up, if_neg (by omega), eM39, ask_up, if_neg (by omega), eM33, ask_up, if_neg (by omega), eM27, ask_up, if_neg (by omega), eM21, ask_up, if_neg (by omega), eM15, ask_up, if_pos (by omega)]) (by rw [eM67, ask_up, if_neg (by omega), eM63, ask_up, if_neg (by omega), eM57, ask_up, if_neg (by omega), eM51, ask_up, if_neg (by omega), eM45, ask_up, if_neg (by omega), eM39, ask_up, if_neg (by omega), eM33, ask_up, if_neg (by omega), eM27, ask_up, if_neg (by omega), eM21, ask_up, if_pos (by omega)]) (by rw [eM67, ask_up, if_neg (by omega), eM63, ask_up, if_neg (by omega), eM57, ask_up, if_neg (by omega), eM51, ask_up, if_neg (by omega), eM45, ask_up, if_neg (by omega), eM39, ask_up, if_neg (by omega), eM33, ask_up, if_neg (by omega), eM27, ask_up, if_pos (by omega)]) (by rw [eM67, ask_up, if_neg (by omega), eM63, ask_up, if_neg (by omega), eM57, ask_up, if_neg (by omega), eM51, ask_up, if_neg (by omega), eM45, ask_up, if_neg (by omega), eM39, ask_up, if_neg (by omega), eM33, ask_up, if_pos (by omega)]) (by rw [eM67, ask_up, if_neg (by omega), eM63, ask_up, if_neg (by omega), eM57, ask_up, if_neg (by omega), eM51, ask_up, if_neg (by omega), eM45, ask_up, if_neg (by omega), eM39, ask_up, if_pos (by omega)]) (by rw [eM67, ask_up, if_neg (by omega), eM63, ask_up, if_neg (by omega), eM57, ask_up, if_neg (by omega), eM51, ask_up, if_neg (by omega), eM45, ask_up, if_pos (by omega)]) (by rw [eM67, ask_up, if_neg (by omega), eM63, ask_up, if_neg (by omega), eM57, ask_up, if_neg (by omega), eM51, ask_up, if_pos (by omega)]) (by rw [eM67, ask_up, if_neg (by omega), eM63, ask_up, if_neg (by omega), eM57, ask_up, if_pos (by omega)]) (by rw [eM67, ask_up, if_neg (by omega), eM63, ask_up, if_pos (by omega), hE58 230 (by simp)]; exact rr_at (i := 5) (by omega)) (by rw [eM67, ask_up, if_pos (by omega), hE64 230 (by simp)]; exact rr_at (i := 7) (by omega))⟩
                      · exfalso; omega
theorem ct_R_setWord {xs : Nat → Int} {L d : Nat} {sh : List (Nat × Nat)} {M : Nat → Nat → Int} (hd : 1 ≤ d) (hW : px_W0 <+: sh) (hF : px_Fx M) (hG : px_RG sh M) {w : Nat} (hw : w < 8) : ∃ M', (px_qk sh [246] M M' ∧ ∀ j, M' 246 j = if j = 1 then ((w : Nat) : Int) else if j = 2 then rr_ M (69 + w) else if j = 3 then rr_ M (77 + w) else M 246 j) ∧ px_Cl xs L d 188 [.ref 228, .int (iI (((w : Nat) : Int)))] (sh, M) (none) (sh, M') := by
  obtain ⟨d, rfl⟩ : ∃ e, d = e + 1 := ⟨d - 1, by omega⟩

  refine px_Cl_m (Nat.le_of_ble_eq_true rfl) ?_
  show px_R xs L d 188 (0, [.ref 228, .int (iI (((w : Nat) : Int)))], [], (sh, M)) _
  refine rr_aload_n pf_188_0 rfl ?_
  refine rr_getR pf_188_1 po_188 pg_9_107 rfl (ws_228 hW) (by decide) (wr_228_35 hF) ?_
  refine rr_iconst pf_188_4 ?_
  refine rr_iload_n pf_188_5 rfl ?_
  refine rr_i2l pf_188_6 (by simp only [rg, rl] at *; omega) ?_
  refine rr_last pf_188_7 (ws_246 hW) (by omega) (by omega) (by simp only [rg, rl] at *; omega) (by simp only [rg, rl] at *; omega) (fun M1 eM1 => ?_)
  have hE2 : px_eo [246] M M1 := eo_tr eo_rf (by rw [eM1]; exact eo_up (by simp))
  have hF3 : px_Fx M1 := by rw [eM1]; exact fx_up hW hF (ws_246 hW) (Or.inl (by rw [px_ty12]; decide))
  have hG4 : px_RG sh M1 := by rw [eM1]; exact rg_upL hG (ws_246 hW) rfl (by simp only [rg, rl] at *; omega)
  refine rr_aload_n pf_188_8 rfl ?_
  refine rr_getR pf_188_9 po_188 pg_9_107 rfl (ws_228 hW) (by decide) (wr_228_35 hF3) ?_
  refine rr_iconst pf_188_12 ?_
  refine rr_aload_n pf_188_13 rfl ?_
  refine rr_getR pf_188_14 po_188 pg_9_13 rfl (ws_228 hW) (by decide) (wr_228_3 hF3) ?_
  refine rr_bipush pf_188_17 (by decide) ?_
  refine rr_iload_n pf_188_19 rfl ?_
  refine rr_iadd pf_188_20 ?_
  refine rr_iald pf_188_21 (ws_230 hW) (by omega) (by omega) (by simp only [rg, rl] at *; omega) ?_
  refine rr_i2l pf_188_22 (rg_at hG4 (ws_230 hW) (by rw [px_ty10]; decide)) ?_
  refine rr_last pf_188_23 (ws_246 hW) (by omega) (by omega) (by simp only [rg, rl] at *; omega) (rl_rg (rg_at hG4 (ws_230 hW) (by rw [px_ty10]; decide))) (fun M5 eM5 => ?_)
  have hE6 : px_eo [246] M M5 := eo_tr hE2 (by rw [eM5]; exact eo_up (by simp))
  have hF7 : px_Fx M5 := by rw [eM5]; exact fx_up hW hF3 (ws_246 hW) (Or.inl (by rw [px_ty12]; decide))
  have hG8 : px_RG sh M5 := by rw [eM5]; exact rg_upL hG4 (ws_246 hW) rfl (rl_rg (rg_at hG4 (ws_230 hW) (by rw [px_ty10]; decide)))
  refine rr_aload_n pf_188_24 rfl ?_
  refine rr_getR pf_188_25 po_188 pg_9_107 rfl (ws_228 hW) (by decide) (wr_228_35 hF7) ?_
  refine rr_iconst pf_188_28 ?_
  refine rr_aload_n pf_188_29 rfl ?_
  refine rr_getR pf_188_30 po_188 pg_9_13 rfl (ws_228 hW) (by decide) (wr_228_3 hF7) ?_
  refine rr_bipush pf_188_33 (by decide) ?_
  refine rr_iload_n pf_188_35 rfl ?_
  refine rr_iadd pf_188_36 ?_
  refine rr_iald pf_188_37 (ws_230 hW) (by omega) (by omega) (by simp only [rg, rl] at *; omega) ?_
  refine rr_i2l pf_188_38 (rg_at hG8 (ws_230 hW) (by rw [px_ty10]; decide)) ?_
  refine rr_last pf_188_39 (ws_246 hW) (by omega) (by omega) (by simp only [rg, rl] at *; omega) (rl_rg (rg_at hG8 (ws_230 hW) (by rw [px_ty10]; decide))) (fun M9 eM9 => ?_)
  have hE10 : px_eo [246] M M9 := eo_tr hE6 (by rw [eM9]; exact eo_up (by simp))
  have hF11 : px_Fx M9 := by rw [eM9]; exact fx_up hW hF7 (ws_246 hW) (Or.inl (by rw [px_ty12]; decide))
  have hG12 : px_RG sh M9 := by rw [eM9]; exact rg_upL hG8 (ws_246 hW) rfl (rl_rg (rg_at hG8 (ws_230 hW) (by rw [px_ty10]; decide)))
  have g : ∀ j, M9 246 j = if j = 1 then ((w : Nat) : Int) else if j = 2 then rr_ M (69 + w) else if j = 3 then rr_ M (77 + w) else M 246 j := by
    intro j
    have z2 : M1 230 (69 + ((w : Nat) : Int)).toNat = rr_ M (69 + w) := by rw [hE2 230 (by simp), show (69 + ((w : Nat) : Int)).toNat = 69 + w by omega]; exact rr_at (by omega)
    have z3 : M5 230 (77 + ((w : Nat) : Int)).toNat = rr_ M (77 + w) := by rw [hE6 230 (by simp), show (77 + ((w : Nat) : Int)).toNat = 77 + w by omega]; exact rr_at (by omega)
    rw [eM9, ask_up, z3, eM5, ask_up, z2, eM1, ask_up]
    rcases (show j = 1 ∨ j = 2 ∨ j = 3 ∨ (j ≠ 1 ∧ j ≠ 2 ∧ j ≠ 3) by omega) with rfl | rfl | rfl | ⟨a, b, c⟩
    · rfl
    · rfl
    · rfl
    · simp [a, b, c]
  refine rr_vret pf_188_40 pt_188 ⟨rfl, _, rfl, ⟨hF11, hG12, hE10⟩, g⟩
theorem ct_R_setPane {xs : Nat → Int} {L d : Nat} {sh : List (Nat × Nat)} {M : Nat → Nat → Int} (hd : 2 ≤ d) (hW : px_W0 <+: sh) (hF : px_Fx M) (hG : px_RG sh M) (hρ : sp_ok (rr_ M)) {p : Nat} (hp : p < 16) : ∃ M', (px_qk sh [246] M M' ∧ (∀ j, (j < 4 ∨ 9 < j) → M' 246 j = M 246 j) ∧ M' 246 4 = sp_away (rr_ M) p ∧ M' 246 5 = ((p : Nat) : Int) / 4 ∧ M' 246 6 = ((p : Nat) : Int) % 4 ∧ M' 246 7 = sp_hue (rr_ M) p 0 ∧ M' 246 8 = sp_hue (rr_ M) p 1 ∧ M' 246 9 = sp_hue (rr_ M) p 2) ∧ px_Cl xs L d 195 [.ref 228, .int (iI (((p : Nat) : Int)))] (sh, M) (none) (sh, M') := by
  obtain ⟨d, rfl⟩ : ∃ e, d = e + 1 := ⟨d - 1, by omega⟩
  have hpul : 0 ≤ M 230 (8 : Int).toNat ∧ M 230 (8 : Int).toNat < 16 := by rw [show M 230 (8 : Int).toNat = rr_ M 8 from rr_at (i := 8) (by omega)]; exact hρ.2.2.2.2.2.2.2.2.1
  refine px_Cl_m (Nat.le_of_ble_eq_true rfl) ?_
  show px_R xs L d 195 (0, [.ref 228, .int (iI (((p : Nat) : Int))), px_jk], [], (sh, M)) _
  refine rr_aload_n pf_195_0 rfl ?_
  refine rr_getR pf_195_1 po_195 pg_9_107 rfl (ws_228 hW) (by decide) (wr_228_35 hF) ?_
  refine rr_iconst pf_195_4 ?_
  refine rr_iload_n pf_195_5 rfl ?_
  refine rr_aload_n pf_195_6 rfl ?_
  refine rr_getR pf_195_7 po_195 pg_9_13 rfl (ws_228 hW) (by decide) (wr_228_3 hF) ?_
  refine rr_bipush pf_195_10 (by decide) ?_
  refine rr_iald pf_195_12 (ws_230 hW) (by omega) (by omega) (by simp only [rg, rl] at *; omega) ?_
  refine rr_cS2 pf_195_13 po_195 pc_9_237 (by decide) rfl (ct_R_apartOf (by omega) (by omega) (by omega)) ?_
  have haw := aw_rg (p := (p : Int)) ⟨by omega, by omega⟩ hpul
  refine rr_i2l pf_195_16 (by simp only [rg, rl] at *; omega) ?_
  refine rr_last pf_195_17 (ws_246 hW) (by omega) (by omega) (by simp only [rg, rl] at *; omega) (by simp only [rg, rl] at *; omega) (fun M1 eM1 => ?_)
  have hE2 : px_eo [246] M M1 := eo_tr eo_rf (by rw [eM1]; exact eo_up (by simp))
  have hF3 : px_Fx M1 := by rw [eM1]; exact fx_up hW hF (ws_246 hW) (Or.inl (by rw [px_ty12]; decide))
  have hG4 : px_RG sh M1 := by rw [eM1]; exact rg_upL hG (ws_246 hW) rfl (by simp only [rg, rl] at *; omega)
  refine rr_aload_n pf_195_18 rfl ?_
  refine rr_getR pf_195_19 po_195 pg_9_107 rfl (ws_228 hW) (by decide) (wr_228_35 hF3) ?_
  refine rr_iconst pf_195_22 ?_
  refine rr_iload_n pf_195_23 rfl ?_
  refine rr_iconst pf_195_24 ?_
  refine rr_idivP pf_195_25 (by simp only [rg, rl] at *; omega) (by simp only [rg, rl] at *; omega) (by omega) (by omega) ?_
  refine rr_i2l pf_195_26 (by simp only [rg, rl] at *; omega) ?_
  refine rr_last pf_195_27 (ws_246 hW) (by omega) (by omega) (by simp only [rg, rl] at *; omega) (by simp only [rg, rl] at *; omega) (fun M5 eM5 => ?_)
  have hE6 : px_eo [246] M M5 := eo_tr hE2 (by rw [eM5]; exact eo_up (by simp))
  have hF7 : px_Fx M5 := by rw [eM5]; exact fx_up hW hF3 (ws_246 hW) (Or.inl (by rw [px_ty12]; decide))
  have hG8 : px_RG sh M5 := by rw [eM5]; exact rg_upL hG4 (ws_246 hW) rfl (by simp only [rg, rl] at *; omega)
  refine rr_aload_n pf_195_28 rfl ?_
  refine rr_getR pf_195_29 po_195 pg_9_107 rfl (ws_228 hW) (by decide) (wr_228_35 hF7) ?_
  refine rr_bipush pf_195_32 (by decide) ?_
  refine rr_iload_n pf_195_34 rfl ?_
  refine rr_iconst pf_195_35 ?_
  refine rr_iremP pf_195_36 (by simp only [rg, rl] at *; omega) (by simp only [rg, rl] at *; omega) (by omega) (by omega) ?_
  refine rr_i2l pf_195_37 (by simp only [rg, rl] at *; omega) ?_
  refine rr_last pf_195_38 (ws_246 hW) (by omega) (by omega) (by simp only [rg, rl] at *; omega) (by simp only [rg, rl] at *; omega) (fun M9 eM9 => ?_)
  have hE10 : px_eo [246] M M9 := eo_tr hE6 (by rw [eM9]; exact eo_up (by simp))
  have hF11 : px_Fx M9 := by rw [eM9]; exact fx_up hW hF7 (ws_246 hW) (Or.inl (by rw [px_ty12]; decide))
  have hG12 : px_RG sh M9 := by rw [eM9]; exact rg_upL hG8 (ws_246 hW) rfl (by simp only [rg, rl] at *; omega)
  refine rr_iconst pf_195_39 ?_
  refine rr_istore_n pf_195_40 (fun y => [.ref 228, .int (iI (((p : Nat) : Int))), .int (iI (y))]) (Nat.le_of_ble_eq_true rfl) (fun _ => rfl) (fun y13 hy13 => ?_)
  refine rr_iload_n pf_195_41 rfl ?_
  refine rr_iconst pf_195_42 ?_
  refine rr_icmp_ge 75 pf_195_43 (by decide) (by simp only [rg, rl] at *; omega) (by simp only [rg, rl] at *; omega) (fun c14 => ?_) (fun c14 => ?_)
  · exfalso; omega
  · refine rr_aload_n pf_195_46 rfl ?_
    refine rr_getR pf_195_47 po_195 pg_9_107 rfl (ws_228 hW) (by decide) (wr_228_35 hF11) ?_
    refine rr_bipush pf_195_50 (by decide) ?_
    refine rr_iload_n pf_195_52 rfl ?_
    refine rr_iadd pf_195_53 ?_
    refine rr_aload_n pf_195_54 rfl ?_
    refine rr_getR pf_195_55 po_195 pg_9_13 rfl (ws_228 hW) (by decide) (wr_228_3 hF11) ?_
    refine rr_bipush pf_195_58 (by decide) ?_
    refine rr_iconst pf_195_60 ?_
    refine rr_iload_n pf_195_61 rfl ?_
    refine rr_imul pf_195_62 ?_
    refine rr_iadd pf_195_63 ?_
    refine rr_iload_n pf_195_64 rfl ?_
    refine rr_iadd pf_195_65 ?_
    refine rr_iald pf_195_66 (ws_230 hW) (by omega) (by omega) (by simp only [rg, rl] at *; omega) ?_
    refine rr_i2l pf_195_67 (rg_at hG12 (ws_230 hW) (by rw [px_ty10]; decide)) ?_
    refine rr_last pf_195_68 (ws_246 hW) (by omega) (by omega) (by simp only [rg, rl] at *; omega) (rl_rg (rg_at hG12 (ws_230 hW) (by rw [px_ty10]; decide))) (fun M15 eM15 => ?_)
    have hE16 : px_eo [246] M M15 := eo_tr hE10 (by rw [eM15]; exact eo_up (by simp))
    have hF17 : px_Fx M15 := by rw [eM15]; exact fx_up hW hF11 (ws_246 hW) (Or.inl (by rw [px_ty12]; decide))
    have hG18 : px_RG sh M15 := by rw [eM15]; exact rg_upL hG12 (ws_246 hW) rfl (rl_rg (rg_at hG12 (ws_230 hW) (by rw [px_ty10]; decide)))
    refine rr_iinc pf_195_69 rfl (fun y => [.ref 228, .int (iI (((p : Nat) : Int))), .int (iI (y))]) (fun _ => rfl) (fun y19 hy19 => ?_)
    refine rr_goto 41 pf_195_72 (by decide) ?_
    refine rr_iload_n pf_195_41 rfl ?_
    refine rr_iconst pf_195_42 ?_
    refine rr_icmp_ge 75 pf_195_43 (by decide) (by simp only [rg, rl] at *; omega) (by simp only [rg, rl] at *; omega) (fun c20 => ?_) (fun c20 => ?_)
    · exfalso; omega
    · refine rr_aload_n pf_195_46 rfl ?_
      refine rr_getR pf_195_47 po_195 pg_9_107 rfl (ws_228 hW) (by decide) (wr_228_35 hF17) ?_
      refine rr_bipush pf_195_50 (by decide) ?_
      refine rr_iload_n pf_195_52 rfl ?_
      refine rr_iadd pf_195_53 ?_
      refine rr_aload_n pf_195_54 rfl ?_
      refine rr_getR pf_195_55 po_195 pg_9_13 rfl (ws_228 hW) (by decide) (wr_228_3 hF17) ?_
      refine rr_bipush pf_195_58 (by decide) ?_
      refine rr_iconst pf_195_60 ?_
      refine rr_iload_n pf_195_61 rfl ?_
      refine rr_imul pf_195_62 ?_
      refine rr_iadd pf_195_63 ?_
      refine rr_iload_n pf_195_64 rfl ?_
      refine rr_iadd pf_195_65 ?_
      refine rr_iald pf_195_66 (ws_230 hW) (by omega) (by omega) (by simp only [rg, rl] at *; omega) ?_
      refine rr_i2l pf_195_67 (rg_at hG18 (ws_230 hW) (by rw [px_ty10]; decide)) ?_
      refine rr_last pf_195_68 (ws_246 hW) (by omega) (by omega) (by simp only [rg, rl] at *; omega) (rl_rg (rg_at hG18 (ws_230 hW) (by rw [px_ty10]; decide))) (fun M21 eM21 => ?_)
      have hE22 : px_eo [246] M M21 := eo_tr hE16 (by rw [eM21]; exact eo_up (by simp))
      have hF23 : px_Fx M21 := by rw [eM21]; exact fx_up hW hF17 (ws_246 hW) (Or.inl (by rw [px_ty12]; decide))
      have hG24 : px_RG sh M21 := by rw [eM21]; exact rg_upL hG18 (ws_246 hW) rfl (rl_rg (rg_at hG18 (ws_230 hW) (by rw [px_ty10]; decide)))
      refine rr_iinc pf_195_69 rfl (fun y => [.ref 228, .int (iI (((p : Nat) : Int))), .int (iI (y))]) (fun _ => rfl) (fun y25 hy25 => ?_)
      refine rr_goto 41 pf_195_72 (by decide) ?_
      refine rr_iload_n pf_195_41 rfl ?_
      refine rr_iconst pf_195_42 ?_
      refine rr_icmp_ge 75 pf_195_43 (by decide) (by simp only [rg, rl] at *; omega) (by simp only [rg, rl] at *; omega) (fun c26 => ?_) (fun c26 => ?_)
      · exfalso; omega
      · refine rr_aload_n pf_195_46 rfl ?_
        refine rr_getR pf_195_47 po_195 pg_9_107 rfl (ws_228 hW) (by decide) (wr_228_35 hF23) ?_
        refine rr_bipush pf_195_50 (by decide) ?_
        refine rr_iload_n pf_195_52 rfl ?_
        refine rr_iadd pf_195_53 ?_
        refine rr_aload_n pf_195_54 rfl ?_
        refine rr_getR pf_195_55 po_195 pg_9_13 rfl (ws_228 hW) (by decide) (wr_228_3 hF23) ?_
        refine rr_bipush pf_195_58 (by decide) ?_
        refine rr_iconst pf_195_60 ?_
        refine rr_iload_n pf_195_61 rfl ?_
        refine rr_imul pf_195_62 ?_
        refine rr_iadd pf_195_63 ?_
        refine rr_iload_n pf_195_64 rfl ?_
        refine rr_iadd pf_195_65 ?_
        refine rr_iald pf_195_66 (ws_230 hW) (by omega) (by omega) (by simp only [rg, rl] at *; omega) ?_
        refine rr_i2l pf_195_67 (rg_at hG24 (ws_230 hW) (by rw [px_ty10]; decide)) ?_
        refine rr_last pf_195_68 (ws_246 hW) (by omega) (by omega) (by simp only [rg, rl] at *; omega) (rl_rg (rg_at hG24 (ws_230 hW) (by rw [px_ty10]; decide))) (fun M27 eM27 => ?_)
        have hE28 : px_eo [246] M M27 := eo_tr hE22 (by rw [eM27]; exact eo_up (by simp))
        have hF29 : px_Fx M27 := by rw [eM27]; exact fx_up hW hF23 (ws_246 hW) (Or.inl (by rw [px_ty12]; decide))
        have hG30 : px_RG sh M27 := by rw [eM27]; exact rg_upL hG24 (ws_246 hW) rfl (rl_rg (rg_at hG24 (ws_230 hW) (by rw [px_ty10]; decide)))
        refine rr_iinc pf_195_69 rfl (fun y => [.ref 228, .int (iI (((p : Nat) : Int))), .int (iI (y))]) (fun _ => rfl) (fun y31 hy31 => ?_)
        refine rr_goto 41 pf_195_72 (by decide) ?_
        refine rr_iload_n pf_195_41 rfl ?_
        refine rr_iconst pf_195_42 ?_
        refine rr_icmp_ge 75 pf_195_43 (by decide) (by simp only [rg, rl] at *; omega) (by simp only [rg, rl] at *; omega) (fun c32 => ?_) (fun c32 => ?_)
        · refine rr_vret pf_195_75 pt_195 ⟨rfl, _, rfl, ⟨hF29, hG30, hE28⟩, fun j hj => by rw [eM27, ask_up, if_neg (by omega), eM21, ask_up, if_neg (by omega), eM15, ask_up, if_neg (by omega), eM9, ask_up, if_neg (by omega), eM5, ask_up, if_neg (by omega), eM1, ask_up, if_neg (by omega)], by rw [eM27, ask_up, if_neg (by omega), eM21, ask_up, if_neg (by omega), eM15, ask_up, if_neg (by omega), eM9, ask_up, if_neg (by omega), eM5, ask_up, if_neg (by omega), eM1, ask_up, if_pos (by omega)]; rfl, by rw [eM27, ask_up, if_neg (by omega), eM21, ask_up, if_neg (by omega), eM15, ask_up, if_neg (by omega), eM9, ask_up, if_neg (by omega), eM5, ask_up, if_pos (by omega)], by rw [eM27, ask_up, if_neg (by omega), eM21, ask_up, if_neg (by omega), eM15, ask_up, if_neg (by omega), eM9, ask_up, if_pos (by omega)], by rw [eM27, ask_up, if_neg (by omega), eM21, ask_up, if_neg (by omega), eM15, ask_up, if_pos (by omega), hE10 230 (by simp)]; unfold sp_hue; rw [← rr_at (by omega)]; congr 1; omega, by rw [eM27, ask_up, if_neg (by omega), eM21, ask_up, if_pos (by omega), hE16 230 (by simp)]; unfold sp_hue; rw [← rr_at (by omega)]; congr 1; omega, by rw [eM27, ask_up, if_pos (by omega), hE22 230 (by simp)]; unfold sp_hue; rw [← rr_at (by omega)]; congr 1; omega⟩
        · exfalso; omega
