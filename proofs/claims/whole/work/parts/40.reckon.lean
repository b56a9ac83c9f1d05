/-! the reference: reckoning -/
def sp_rkV (op a b : Int) : Int := if op = 20 then a + b else if op = 21 then a - b else if op = 22 then a * b else if op = 23 then (if b = 0 then 0 else a.tdiv b) else if op = 24 then (if b = 0 then 0 else a.tmod b) else if op = 25 then (if a < b then 1 else 0) else if op = 26 then (if b < a then 1 else 0) else (if a = b then 1 else 0)
theorem ct_R_reckon {xs : Nat → Int} {L d : Nat} {sh : List (Nat × Nat)} {M : Nat → Nat → Int} (hd : 1 ≤ d) (hW : px_W0 <+: sh) (hF : px_Fx M) (hG : px_RG sh M) {op a b : Int} (ho : rg op) (ha : rg a) (hb : rg b) : ∃ M', (px_qk sh [228] M M' ∧ M' = (if op = 23 ∨ op = 24 then px_up M 228 38 (if b = 0 then 1 else 0) else M)) ∧ px_Cl xs L d 193 [.ref 228, .int (iI (op)), .long (lI (a)), .long (lI (b))] (sh, M) (some (.long (lI (sp_rkV op a b)))) (sh, M') := by
  obtain ⟨d, rfl⟩ : ∃ e, d = e + 1 := ⟨d - 1, by omega⟩

  refine px_Cl_m (Nat.le_of_ble_eq_true rfl) ?_
  show px_R xs L d 193 (0, [.ref 228, .int (iI (op)), .long (lI (a)), px_jk, .long (lI (b)), px_jk], [], (sh, M)) _
  refine rr_iload_n pf_193_0 rfl ?_
  rcases (show (op < 20 ∨ 26 < op) ∨ op = 20 ∨ op = 21 ∨ op = 22 ∨ op = 23 ∨ op = 24 ∨ op = 25 ∨ op = 26 by omega) with hsw1 | hsw1 | hsw1 | hsw1 | hsw1 | hsw1 | hsw1 | hsw1
  · refine rr_tsw_out 149 pf_193_1 (by decide) ho hsw1 ?_
    refine rr_lload_n pf_193_149 rfl ?_
    refine rr_lload pf_193_150 rfl ?_
    refine rr_lcmp pf_193_152 (by simp only [rg, rl] at *; omega) (by simp only [rg, rl] at *; omega) ?_
    refine rr_ifc_ne 160 pf_193_153 (by decide) (fun c2 => ?_) (fun c2 => ?_)
    · refine rr_lconst (w := 0) pf_193_160 rfl ?_
      refine rr_lret pf_193_161 pt_193 ⟨by unfold sp_rkV; repeat (first | rw [if_pos (by omega)] | rw [if_neg (by omega)]), M, rfl, ⟨hF, hG, eo_rf⟩, by first | rw [if_neg (by omega)] | (rw [if_neg]; omega)⟩
    · refine rr_lconst (w := 1) pf_193_156 rfl ?_
      refine rr_goto 161 pf_193_157 (by decide) ?_
      refine rr_lret pf_193_161 pt_193 ⟨by unfold sp_rkV; repeat (first | rw [if_pos (by omega)] | rw [if_neg (by omega)]), M, rfl, ⟨hF, hG, eo_rf⟩, by first | rw [if_neg (by omega)] | (rw [if_neg]; omega)⟩
  · refine rr_tsw_in (off := 43) 44 pf_193_1 ho (by omega) (by rw [hsw1]; rfl) (by decide) ?_
    refine rr_lload_n pf_193_44 rfl ?_
    refine rr_lload pf_193_45 rfl ?_
    refine rr_ladd pf_193_47 ?_
    refine rr_lret pf_193_48 pt_193 ⟨by unfold sp_rkV; repeat (first | rw [if_pos (by omega)] | rw [if_neg (by omega)]), M, rfl, ⟨hF, hG, eo_rf⟩, by first | rw [if_neg (by omega)] | (rw [if_neg]; omega)⟩
  · refine rr_tsw_in (off := 48) 49 pf_193_1 ho (by omega) (by rw [hsw1]; rfl) (by decide) ?_
    refine rr_lload_n pf_193_49 rfl ?_
    refine rr_lload pf_193_50 rfl ?_
    refine rr_lsub pf_193_52 ?_
    refine rr_lret pf_193_53 pt_193 ⟨by unfold sp_rkV; repeat (first | rw [if_pos (by omega)] | rw [if_neg (by omega)]), M, rfl, ⟨hF, hG, eo_rf⟩, by first | rw [if_neg (by omega)] | (rw [if_neg]; omega)⟩
  · refine rr_tsw_in (off := 53) 54 pf_193_1 ho (by omega) (by rw [hsw1]; rfl) (by decide) ?_
    refine rr_lload_n pf_193_54 rfl ?_
    refine rr_lload pf_193_55 rfl ?_
    refine rr_lmul pf_193_57 ?_
    have hmr := mul_rl ha hb
    refine rr_lret pf_193_58 pt_193 ⟨by unfold sp_rkV; repeat (first | rw [if_pos (by omega)] | rw [if_neg (by omega)]), M, rfl, ⟨hF, hG, eo_rf⟩, by first | rw [if_neg (by omega)] | (rw [if_neg]; omega)⟩
  · refine rr_tsw_in (off := 58) 59 pf_193_1 ho (by omega) (by rw [hsw1]; rfl) (by decide) ?_
    refine rr_aload_n pf_193_59 rfl ?_
    refine rr_lload pf_193_60 rfl ?_
    refine rr_lconst (w := 0) pf_193_62 rfl ?_
    refine rr_lcmp pf_193_63 (by simp only [rg, rl] at *; omega) (by simp only [rg, rl] at *; omega) ?_
    refine rr_ifc_ne 71 pf_193_64 (by decide) (fun c3 => ?_) (fun c3 => ?_)
    · refine rr_iconst pf_193_71 ?_
      refine rr_putZ pf_193_72 po_193 pg_9_427 (Or.inl rfl) rfl (ws_228 hW) (by decide) (by omega) (fun M4 eM4 => ?_)
      have hE5 : px_eo [228] M M4 := eo_tr eo_rf (by rw [eM4]; exact eo_up (by simp))
      have hF6 : px_Fx M4 := by rw [eM4]; exact fx_up hW hF (ws_228 hW) (Or.inl (by decide))
      have hG7 : px_RG sh M4 := by rw [eM4]; exact rg_up hG (ws_228 hW) (by decide) (by unfold rg; omega)
      refine rr_aload_n pf_193_75 rfl ?_
      refine rr_getZ pf_193_76 po_193 pg_9_427 rfl (ws_228 hW) (by decide) ?_
      have hz : M4 228 38 = 0 := by rw [eM4, ask_up, if_pos rfl]
      refine rr_if_eq 86 pf_193_79 (by decide) (rg_at hG7 (ws_228 hW) (by decide)) (fun c8 => ?_) (fun c8 => ?_)
      · refine rr_lload_n pf_193_86 rfl ?_
        refine rr_lload pf_193_87 rfl ?_
        refine rr_ldiv pf_193_89 (by simp only [rg, rl] at *; omega) (by simp only [rg, rl] at *; omega) (by omega) ?_
        refine rr_lret pf_193_90 pt_193 ⟨by unfold sp_rkV; repeat (first | rw [if_pos (by omega)] | rw [if_neg (by omega)]), M4, rfl, ⟨hF6, hG7, hE5⟩, by rw [if_pos (by omega), eM4]; congr 1; first | (rw [if_pos (by omega)]; done) | (rw [if_neg (by omega)])⟩
      · exfalso; omega
    · refine rr_iconst pf_193_67 ?_
      refine rr_goto 72 pf_193_68 (by decide) ?_
      refine rr_putZ pf_193_72 po_193 pg_9_427 (Or.inl rfl) rfl (ws_228 hW) (by decide) (by omega) (fun M9 eM9 => ?_)
      have hE10 : px_eo [228] M M9 := eo_tr eo_rf (by rw [eM9]; exact eo_up (by simp))
      have hF11 : px_Fx M9 := by rw [eM9]; exact fx_up hW hF (ws_228 hW) (Or.inl (by decide))
      have hG12 : px_RG sh M9 := by rw [eM9]; exact rg_up hG (ws_228 hW) (by decide) (by unfold rg; omega)
      refine rr_aload_n pf_193_75 rfl ?_
      refine rr_getZ pf_193_76 po_193 pg_9_427 rfl (ws_228 hW) (by decide) ?_
      have hz : M9 228 38 = 1 := by rw [eM9, ask_up, if_pos rfl]
      refine rr_if_eq 86 pf_193_79 (by decide) (rg_at hG12 (ws_228 hW) (by decide)) (fun c13 => ?_) (fun c13 => ?_)
      · exfalso; omega
      · refine rr_lconst (w := 0) pf_193_82 rfl ?_
        refine rr_goto 90 pf_193_83 (by decide) ?_
        refine rr_lret pf_193_90 pt_193 ⟨by unfold sp_rkV; repeat (first | rw [if_pos (by omega)] | rw [if_neg (by omega)]), M9, rfl, ⟨hF11, hG12, hE10⟩, by rw [if_pos (by omega), eM9]; congr 1; first | (rw [if_pos (by omega)]; done) | (rw [if_neg (by omega)])⟩
  · refine rr_tsw_in (off := 90) 91 pf_193_1 ho (by omega) (by rw [hsw1]; rfl) (by decide) ?_
    refine rr_aload_n pf_193_91 rfl ?_
    refine rr_lload pf_193_92 rfl ?_
    refine rr_lconst (w := 0) pf_193_94 rfl ?_
    refine rr_lcmp pf_193_95 (by simp only [rg, rl] at *; omega) (by simp only [rg, rl] at *; omega) ?_
    refine rr_ifc_ne 103 pf_193_96 (by decide) (fun c14 => ?_) (fun c14 => ?_)
    · refine rr_iconst pf_193_103 ?_
      refine rr_putZ pf_193_104 po_193 pg_9_427 (Or.inl rfl) rfl (ws_228 hW) (by decide) (by omega) (fun M15 eM15 => ?_)
      have hE16 : px_eo [228] M M15 := eo_tr eo_rf (by rw [eM15]; exact eo_up (by simp))
      have hF17 : px_Fx M15 := by rw [eM15]; exact fx_up hW hF (ws_228 hW) (Or.inl (by decide))
      have hG18 : px_RG sh M15 := by rw [eM15]; exact rg_up hG (ws_228 hW) (by decide) (by unfold rg; omega)
      refine rr_aload_n pf_193_107 rfl ?_
      refine rr_getZ pf_193_108 po_193 pg_9_427 rfl (ws_228 hW) (by decide) ?_
      have hz : M15 228 38 = 0 := by rw [eM15, ask_up, if_pos rfl]
      refine rr_if_eq 118 pf_193_111 (by decide) (rg_at hG18 (ws_228 hW) (by decide)) (fun c19 => ?_) (fun c19 => ?_)
      · refine rr_lload_n pf_193_118 rfl ?_
        refine rr_lload pf_193_119 rfl ?_
        refine rr_lrem pf_193_121 (by simp only [rg, rl] at *; omega) (by simp only [rg, rl] at *; omega) (by omega) ?_
        refine rr_lret pf_193_122 pt_193 ⟨by unfold sp_rkV; repeat (first | rw [if_pos (by omega)] | rw [if_neg (by omega)]), M15, rfl, ⟨hF17, hG18, hE16⟩, by rw [if_pos (by omega), eM15]; congr 1; first | (rw [if_pos (by omega)]; done) | (rw [if_neg (by omega)])⟩
      · exfalso; omega
    · refine rr_iconst pf_193_99 ?_
      refine rr_goto 104 pf_193_100 (by decide) ?_
      refine rr_putZ pf_193_104 po_193 pg_9_427 (Or.inl rfl) rfl (ws_228 hW) (by decide) (by omega) (fun M20 eM20 => ?_)
      have hE21 : px_eo [228] M M20 := eo_tr eo_rf (by rw [eM20]; exact eo_up (by simp))
      have hF22 : px_Fx M20 := by rw [eM20]; exact fx_up hW hF (ws_228 hW) (Or.inl (by decide))
      have hG23 : px_RG sh M20 := by rw [eM20]; exact rg_up hG (ws_228 hW) (by decide) (by unfold rg; omega)
      refine rr_aload_n pf_193_107 rfl ?_
      refine rr_getZ pf_193_108 po_193 pg_9_427 rfl (ws_228 hW) (by decide) ?_
      have hz : M20 228 38 = 1 := by rw [eM20, ask_up, if_pos rfl]
      refine rr_if_eq 118 pf_193_111 (by decide) (rg_at hG23 (ws_228 hW) (by decide)) (fun c24 => ?_) (fun c24 => ?_)
      · exfalso; omega
      · refine rr_lconst (w := 0) pf_193_114 rfl ?_
        refine rr_goto 122 pf_193_115 (by decide) ?_
        refine rr_lret pf_193_122 pt_193 ⟨by unfold sp_rkV; repeat (first | rw [if_pos (by omega)] | rw [if_neg (by omega)]), M20, rfl, ⟨hF22, hG23, hE21⟩, by rw [if_pos (by omega), eM20]; congr 1; first | (rw [if_pos (by omega)]; done) | (rw [if_neg (by omega)])⟩
  · refine rr_tsw_in (off := 122) 123 pf_193_1 ho (by omega) (by rw [hsw1]; rfl) (by decide) ?_
    refine rr_lload_n pf_193_123 rfl ?_
    refine rr_lload pf_193_124 rfl ?_
    refine rr_lcmp pf_193_126 (by simp only [rg, rl] at *; omega) (by simp only [rg, rl] at *; omega) ?_
    refine rr_ifc_ge 134 pf_193_127 (by decide) (fun c25 => ?_) (fun c25 => ?_)
    · refine rr_lconst (w := 0) pf_193_134 rfl ?_
      refine rr_lret pf_193_135 pt_193 ⟨by unfold sp_rkV; repeat (first | rw [if_pos (by omega)] | rw [if_neg (by omega)]), M, rfl, ⟨hF, hG, eo_rf⟩, by first | rw [if_neg (by omega)] | (rw [if_neg]; omega)⟩
    · refine rr_lconst (w := 1) pf_193_130 rfl ?_
      refine rr_goto 135 pf_193_131 (by decide) ?_
      refine rr_lret pf_193_135 pt_193 ⟨by unfold sp_rkV; repeat (first | rw [if_pos (by omega)] | rw [if_neg (by omega)]), M, rfl, ⟨hF, hG, eo_rf⟩, by first | rw [if_neg (by omega)] | (rw [if_neg]; omega)⟩
  · refine rr_tsw_in (off := 135) 136 pf_193_1 ho (by omega) (by rw [hsw1]; rfl) (by decide) ?_
    refine rr_lload_n pf_193_136 rfl ?_
    refine rr_lload pf_193_137 rfl ?_
    refine rr_lcmp pf_193_139 (by simp only [rg, rl] at *; omega) (by simp only [rg, rl] at *; omega) ?_
    refine rr_ifc_le 147 pf_193_140 (by decide) (fun c26 => ?_) (fun c26 => ?_)
    · refine rr_lconst (w := 0) pf_193_147 rfl ?_
      refine rr_lret pf_193_148 pt_193 ⟨by unfold sp_rkV; repeat (first | rw [if_pos (by omega)] | rw [if_neg (by omega)]), M, rfl, ⟨hF, hG, eo_rf⟩, by first | rw [if_neg (by omega)] | (rw [if_neg]; omega)⟩
    · refine rr_lconst (w := 1) pf_193_143 rfl ?_
      refine rr_goto 148 pf_193_144 (by decide) ?_
      refine rr_lret pf_193_148 pt_193 ⟨by unfold sp_rkV; repeat (first | rw [if_pos (by omega)] | rw [if_neg (by omega)]), M, rfl, ⟨hF, hG, eo_rf⟩, by first | rw [if_neg (by omega)] | (rw [if_neg]; omega)⟩
