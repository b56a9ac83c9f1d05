/-! the reference: small ones -/
/-- the reference's row, cut at 109 -/
def rr_ (M : Nat → Nat → Int) (i : Nat) : Int := if i < 109 then M 230 i else 0
theorem rr_at {M : Nat → Nat → Int} {i : Nat} (h : i < 109) : M 230 i = rr_ M i := by unfold rr_; rw [if_pos h]
theorem ct_R_in {xs : Nat → Int} {L d : Nat} {sh : List (Nat × Nat)} {M : Nat → Nat → Int} (hd : 1 ≤ d) {v lo hi : Int} (hv : rl v) (hlo : rl lo) (hhi : rl hi) : px_Cl xs L d 179 [.long (lI (v)), .long (lI (lo)), .long (lI (hi))] (sh, M) (some (.int (iI (bI (lo ≤ v ∧ v ≤ hi))))) (sh, M) := by
  obtain ⟨d, rfl⟩ : ∃ e, d = e + 1 := ⟨d - 1, by omega⟩
  refine px_Cl_intro (Nat.le_of_ble_eq_true rfl) ?_
  show px_R xs L d 179 (0, [.long (lI (v)), px_jk, .long (lI (lo)), px_jk, .long (lI (hi)), px_jk], [], (sh, M)) _
  refine rr_lload_n pf_179_0 rfl ?_
  refine rr_lload_n pf_179_1 rfl ?_
  refine rr_lcmp pf_179_2 (by simp only [rg, rl] at *; omega) (by simp only [rg, rl] at *; omega) ?_
  refine rr_ifc_lt 17 pf_179_3 (by decide) (fun c1 => ?_) (fun c1 => ?_)
  · refine rr_iconst pf_179_17 ?_
    refine rr_zret pf_179_18 pt_179 (by first | exact Or.inl rfl | exact Or.inr rfl | omega) ⟨by rw [bI_f (by omega)], rfl⟩
  · refine rr_lload_n pf_179_6 rfl ?_
    refine rr_lload pf_179_7 rfl ?_
    refine rr_lcmp pf_179_9 (by simp only [rg, rl] at *; omega) (by simp only [rg, rl] at *; omega) ?_
    refine rr_ifc_gt 17 pf_179_10 (by decide) (fun c2 => ?_) (fun c2 => ?_)
    · refine rr_iconst pf_179_17 ?_
      refine rr_zret pf_179_18 pt_179 (by first | exact Or.inl rfl | exact Or.inr rfl | omega) ⟨by rw [bI_f (by omega)], rfl⟩
    · refine rr_iconst pf_179_13 ?_
      refine rr_goto 18 pf_179_14 (by decide) ?_
      refine rr_zret pf_179_18 pt_179 (by first | exact Or.inl rfl | exact Or.inr rfl | omega) ⟨by rw [bI_t (by omega)], rfl⟩
theorem ct_R_isPane {xs : Nat → Int} {L d : Nat} {sh : List (Nat × Nat)} {M : Nat → Nat → Int} (hd : 2 ≤ d) {v : Int} (hv : rg v) : px_Cl xs L d 199 [.int (iI (v))] (sh, M) (some (.int (iI (bI (0 ≤ v ∧ v ≤ 15))))) (sh, M) := by
  obtain ⟨d, rfl⟩ : ∃ e, d = e + 1 := ⟨d - 1, by omega⟩
  refine px_Cl_intro (Nat.le_of_ble_eq_true rfl) ?_
  show px_R xs L d 199 (0, [.int (iI (v))], [], (sh, M)) _
  refine rr_iload_n pf_199_0 rfl ?_
  refine rr_i2l pf_199_1 hv ?_
  refine rr_lconst (w := 0) pf_199_2 rfl ?_
  refine rr_ldc2_w pf_199_3 po_199 pl_9_204 ?_
  refine rr_cS3 pf_199_6 po_199 pc_9_197 (by decide) rfl (ct_R_in (by omega) (by simp only [rg, rl] at *; omega) (by simp only [rg, rl] at *; omega) (by simp only [rg, rl] at *; omega)) ?_
  refine rr_zret pf_199_9 pt_199 (by have := bI_rg (0 ≤ v ∧ v ≤ (15)); omega) ⟨rfl, rfl⟩
theorem ct_R_isHue {xs : Nat → Int} {L d : Nat} {sh : List (Nat × Nat)} {M : Nat → Nat → Int} (hd : 2 ≤ d) {v : Int} (hv : rg v) : px_Cl xs L d 183 [.int (iI (v))] (sh, M) (some (.int (iI (bI (0 ≤ v ∧ v ≤ 2))))) (sh, M) := by
  obtain ⟨d, rfl⟩ : ∃ e, d = e + 1 := ⟨d - 1, by omega⟩
  refine px_Cl_intro (Nat.le_of_ble_eq_true rfl) ?_
  show px_R xs L d 183 (0, [.int (iI (v))], [], (sh, M)) _
  refine rr_iload_n pf_183_0 rfl ?_
  refine rr_i2l pf_183_1 hv ?_
  refine rr_lconst (w := 0) pf_183_2 rfl ?_
  refine rr_ldc2_w pf_183_3 po_183 pl_9_208 ?_
  refine rr_cS3 pf_183_6 po_183 pc_9_197 (by decide) rfl (ct_R_in (by omega) (by simp only [rg, rl] at *; omega) (by simp only [rg, rl] at *; omega) (by simp only [rg, rl] at *; omega)) ?_
  refine rr_zret pf_183_9 pt_183 (by have := bI_rg (0 ≤ v ∧ v ≤ (2)); omega) ⟨rfl, rfl⟩
theorem ct_R_isSeat {xs : Nat → Int} {L d : Nat} {sh : List (Nat × Nat)} {M : Nat → Nat → Int} (hd : 2 ≤ d) {v : Int} (hv : rg v) : px_Cl xs L d 204 [.int (iI (v))] (sh, M) (some (.int (iI (bI (0 ≤ v ∧ v ≤ 7))))) (sh, M) := by
  obtain ⟨d, rfl⟩ : ∃ e, d = e + 1 := ⟨d - 1, by omega⟩
  refine px_Cl_intro (Nat.le_of_ble_eq_true rfl) ?_
  show px_R xs L d 204 (0, [.int (iI (v))], [], (sh, M)) _
  refine rr_iload_n pf_204_0 rfl ?_
  refine rr_i2l pf_204_1 hv ?_
  refine rr_lconst (w := 0) pf_204_2 rfl ?_
  refine rr_ldc2_w pf_204_3 po_204 pl_9_206 ?_
  refine rr_cS3 pf_204_6 po_204 pc_9_197 (by decide) rfl (ct_R_in (by omega) (by simp only [rg, rl] at *; omega) (by simp only [rg, rl] at *; omega) (by simp only [rg, rl] at *; omega)) ?_
  refine rr_zret pf_204_9 pt_204 (by have := bI_rg (0 ≤ v ∧ v ≤ (7)); omega) ⟨rfl, rfl⟩
theorem ct_R_within {xs : Nat → Int} {L d : Nat} {sh : List (Nat × Nat)} {M : Nat → Nat → Int} (hd : 1 ≤ d) {v lo hi : Int} (hv : rl v) (hlo : rg lo) (hhi : rg hi) (hlh : lo ≤ hi) : px_Cl xs L d 197 [.long (lI (v)), .int (iI (lo)), .int (iI (hi))] (sh, M) (some (.int (iI (max lo (min hi v))))) (sh, M) := by
  obtain ⟨d, rfl⟩ : ∃ e, d = e + 1 := ⟨d - 1, by omega⟩
  refine px_Cl_intro (Nat.le_of_ble_eq_true rfl) ?_
  show px_R xs L d 197 (0, [.long (lI (v)), px_jk, .int (iI (lo)), .int (iI (hi))], [], (sh, M)) _
  refine rr_lload_n pf_197_0 rfl ?_
  refine rr_iload_n pf_197_1 rfl ?_
  refine rr_i2l pf_197_2 hlo ?_
  refine rr_lcmp pf_197_3 (by simp only [rg, rl] at *; omega) (by simp only [rg, rl] at *; omega) ?_
  refine rr_ifc_ge 11 pf_197_4 (by decide) (fun c1 => ?_) (fun c1 => ?_)
  · refine rr_lload_n pf_197_11 rfl ?_
    refine rr_iload_n pf_197_12 rfl ?_
    refine rr_i2l pf_197_13 hhi ?_
    refine rr_lcmp pf_197_14 (by simp only [rg, rl] at *; omega) (by simp only [rg, rl] at *; omega) ?_
    refine rr_ifc_le 22 pf_197_15 (by decide) (fun c2 => ?_) (fun c2 => ?_)
    · refine rr_lload_n pf_197_22 rfl ?_
      refine rr_l2i pf_197_23 (by simp only [rg, rl] at *; omega) ?_
      refine rr_iret pf_197_24 pt_197 ⟨by congr 3; omega, rfl⟩
    · refine rr_iload_n pf_197_18 rfl ?_
      refine rr_goto 24 pf_197_19 (by decide) ?_
      refine rr_iret pf_197_24 pt_197 ⟨by congr 3; omega, rfl⟩
  · refine rr_iload_n pf_197_7 rfl ?_
    refine rr_goto 24 pf_197_8 (by decide) ?_
    refine rr_iret pf_197_24 pt_197 ⟨by congr 3; omega, rfl⟩
theorem ct_R_isWord1 {xs : Nat → Int} {L d : Nat} {sh : List (Nat × Nat)} {M : Nat → Nat → Int} (hd : 2 ≤ d) (hW : px_W0 <+: sh) (hF : px_Fx M) (hG : px_RG sh M) {v : Int} (hv : rg v) : px_Cl xs L d 185 [.ref 228, .int (iI (v))] (sh, M) (some (.int (iI (bI (0 ≤ v ∧ v ≤ M 230 0 - 1))))) (sh, M) := by
  obtain ⟨d, rfl⟩ : ∃ e, d = e + 1 := ⟨d - 1, by omega⟩
  refine px_Cl_intro (Nat.le_of_ble_eq_true rfl) ?_
  show px_R xs L d 185 (0, [.ref 228, .int (iI (v))], [], (sh, M)) _
  have hr : rg (M 230 0) := rg_at hG (ws_230 hW) (by rw [px_ty10]; decide)
  have hr2 : rg (M 230 (0 : Int).toNat) := hr
  refine rr_iload_n pf_185_0 rfl ?_
  refine rr_i2l pf_185_1 hv ?_
  refine rr_lconst (w := 0) pf_185_2 rfl ?_
  refine rr_aload_n pf_185_3 rfl ?_
  refine rr_getR pf_185_4 po_185 pg_9_13 rfl (ws_228 hW) (by decide) (wr_228_3 hF) ?_
  refine rr_iconst pf_185_7 ?_
  refine rr_iald pf_185_8 (ws_230 hW) (by omega) (by omega) (by simp only [rg, rl] at *; omega) ?_
  refine rr_i2l pf_185_9 (rg_at hG (ws_230 hW) (by rw [px_ty10]; decide)) ?_
  refine rr_lconst (w := 1) pf_185_10 rfl ?_
  refine rr_lsub pf_185_11 ?_
  refine rr_cS3 pf_185_12 po_185 pc_9_197 (by decide) rfl (ct_R_in (by omega) (by simp only [rg, rl] at *; omega) (by simp only [rg, rl] at *; omega) (by simp only [rg, rl] at *; omega)) ?_
  refine rr_zret pf_185_15 pt_185 (by have := bI_rg (0 ≤ v ∧ v ≤ ((M 230 (0 : Int).toNat) - 1)); omega) ⟨rfl, rfl⟩
theorem ct_R_isListener {xs : Nat → Int} {L d : Nat} {sh : List (Nat × Nat)} {M : Nat → Nat → Int} (hd : 2 ≤ d) (hW : px_W0 <+: sh) (hF : px_Fx M) (hG : px_RG sh M) {v : Int} (hv : rg v) : px_Cl xs L d 192 [.ref 228, .int (iI (v))] (sh, M) (some (.int (iI (bI (0 ≤ v ∧ v ≤ M 230 1 - 1))))) (sh, M) := by
  obtain ⟨d, rfl⟩ : ∃ e, d = e + 1 := ⟨d - 1, by omega⟩
  refine px_Cl_intro (Nat.le_of_ble_eq_true rfl) ?_
  show px_R xs L d 192 (0, [.ref 228, .int (iI (v))], [], (sh, M)) _
  have hr : rg (M 230 1) := rg_at hG (ws_230 hW) (by rw [px_ty10]; decide)
  have hr2 : rg (M 230 (1 : Int).toNat) := hr
  refine rr_iload_n pf_192_0 rfl ?_
  refine rr_i2l pf_192_1 hv ?_
  refine rr_lconst (w := 0) pf_192_2 rfl ?_
  refine rr_aload_n pf_192_3 rfl ?_
  refine rr_getR pf_192_4 po_192 pg_9_13 rfl (ws_228 hW) (by decide) (wr_228_3 hF) ?_
  refine rr_iconst pf_192_7 ?_
  refine rr_iald pf_192_8 (ws_230 hW) (by omega) (by omega) (by simp only [rg, rl] at *; omega) ?_
  refine rr_i2l pf_192_9 (rg_at hG (ws_230 hW) (by rw [px_ty10]; decide)) ?_
  refine rr_lconst (w := 1) pf_192_10 rfl ?_
  refine rr_lsub pf_192_11 ?_
  refine rr_cS3 pf_192_12 po_192 pc_9_197 (by decide) rfl (ct_R_in (by omega) (by simp only [rg, rl] at *; omega) (by simp only [rg, rl] at *; omega) (by simp only [rg, rl] at *; omega)) ?_
  refine rr_zret pf_192_15 pt_192 (by have := bI_rg (0 ≤ v ∧ v ≤ ((M 230 (1 : Int).toNat) - 1)); omega) ⟨rfl, rfl⟩
theorem ct_R_isLaw {xs : Nat → Int} {L d : Nat} {sh : List (Nat × Nat)} {M : Nat → Nat → Int} (hd : 2 ≤ d) (hW : px_W0 <+: sh) (hF : px_Fx M) (hG : px_RG sh M) {v : Int} (hv : rg v) : px_Cl xs L d 247 [.ref 228, .int (iI (v))] (sh, M) (some (.int (iI (bI (v = -1 ∨ 0 ≤ v ∧ v ≤ M 230 3 - 1))))) (sh, M) := by
  obtain ⟨d, rfl⟩ : ∃ e, d = e + 1 := ⟨d - 1, by omega⟩
  refine px_Cl_intro (Nat.le_of_ble_eq_true rfl) ?_
  show px_R xs L d 247 (0, [.ref 228, .int (iI (v))], [], (sh, M)) _
  have hr : rg (M 230 3) := rg_at hG (ws_230 hW) (by rw [px_ty10]; decide)
  have hr2 : M 230 (3 : Int).toNat = M 230 3 := rfl
  refine rr_iload_n pf_247_0 rfl ?_
  refine rr_iconst pf_247_1 ?_
  refine rr_icmp_eq 23 pf_247_2 (by decide) hv (by simp only [rg, rl] at *; omega) (fun c1 => ?_) (fun c1 => ?_)
  · refine rr_iconst pf_247_23 ?_
    refine rr_goto 28 pf_247_24 (by decide) ?_
    refine rr_zret pf_247_28 pt_247 (by first | exact Or.inl rfl | exact Or.inr rfl | omega) ⟨by rw [bI_t (by omega)], rfl⟩
  · refine rr_iload_n pf_247_5 rfl ?_
    refine rr_i2l pf_247_6 hv ?_
    refine rr_lconst (w := 0) pf_247_7 rfl ?_
    refine rr_aload_n pf_247_8 rfl ?_
    refine rr_getR pf_247_9 po_247 pg_9_13 rfl (ws_228 hW) (by decide) (wr_228_3 hF) ?_
    refine rr_iconst pf_247_12 ?_
    refine rr_iald pf_247_13 (ws_230 hW) (by omega) (by omega) (by simp only [rg, rl] at *; omega) ?_
    refine rr_i2l pf_247_14 (rg_at hG (ws_230 hW) (by rw [px_ty10]; decide)) ?_
    refine rr_lconst (w := 1) pf_247_15 rfl ?_
    refine rr_lsub pf_247_16 ?_
    refine rr_cS3 pf_247_17 po_247 pc_9_197 (by decide) rfl (ct_R_in (by omega) (by simp only [rg, rl] at *; omega) (by simp only [rg, rl] at *; omega) (by simp only [rg, rl] at *; omega)) ?_
    refine rr_ifb_eq 27 pf_247_20 (by decide) (fun c2 => ?_) (fun c2 => ?_)
    · refine rr_iconst pf_247_27 ?_
      refine rr_zret pf_247_28 pt_247 (by first | exact Or.inl rfl | exact Or.inr rfl | omega) ⟨by rw [bI_f (by omega)], rfl⟩
    · refine rr_iconst pf_247_23 ?_
      refine rr_goto 28 pf_247_24 (by decide) ?_
      refine rr_zret pf_247_28 pt_247 (by first | exact Or.inl rfl | exact Or.inr rfl | omega) ⟨by rw [bI_t (by omega)], rfl⟩
theorem ct_R_apartOf {xs : Nat → Int} {L d : Nat} {sh : List (Nat × Nat)} {M : Nat → Nat → Int} (hd : 1 ≤ d) {p q : Int} (hp : 0 ≤ p ∧ p < 16) (hq : 0 ≤ q ∧ q < 16) : px_Cl xs L d 196 [.int (iI (p)), .int (iI (q))] (sh, M) (some (.int (iI (aw p q)))) (sh, M) := by
  obtain ⟨d, rfl⟩ : ∃ e, d = e + 1 := ⟨d - 1, by omega⟩
  refine px_Cl_intro (Nat.le_of_ble_eq_true rfl) ?_
  show px_R xs L d 196 (0, [.int (iI (p)), .int (iI (q)), px_jk, px_jk], [], (sh, M)) _
  refine rr_iload_n pf_196_0 rfl ?_
  refine rr_iconst pf_196_1 ?_
  refine rr_idivP pf_196_2 (by simp only [rg, rl] at *; omega) (by simp only [rg, rl] at *; omega) (by omega) (by omega) ?_
  refine rr_iload_n pf_196_3 rfl ?_
  refine rr_iconst pf_196_4 ?_
  refine rr_idivP pf_196_5 (by simp only [rg, rl] at *; omega) (by simp only [rg, rl] at *; omega) (by omega) (by omega) ?_
  refine rr_isub pf_196_6 ?_
  refine rr_istore_n pf_196_7 (fun y => [.int (iI (p)), .int (iI (q)), .int (iI (y)), px_jk]) (Nat.le_of_ble_eq_true rfl) (fun _ => rfl) (fun y1 hy1 => ?_)
  refine rr_iload_n pf_196_8 rfl ?_
  refine rr_iconst pf_196_9 ?_
  refine rr_iremP pf_196_10 (by simp only [rg, rl] at *; omega) (by simp only [rg, rl] at *; omega) (by omega) (by omega) ?_
  refine rr_iload_n pf_196_11 rfl ?_
  refine rr_iconst pf_196_12 ?_
  refine rr_iremP pf_196_13 (by simp only [rg, rl] at *; omega) (by simp only [rg, rl] at *; omega) (by omega) (by omega) ?_
  refine rr_isub pf_196_14 ?_
  refine rr_istore_n pf_196_15 (fun y => [.int (iI (p)), .int (iI (q)), .int (iI (y1)), .int (iI (y))]) (Nat.le_of_ble_eq_true rfl) (fun _ => rfl) (fun y2 hy2 => ?_)
  refine rr_iload_n pf_196_16 rfl ?_
  refine rr_if_ge 25 pf_196_17 (by decide) (by simp only [rg, rl] at *; omega) (fun c3 => ?_) (fun c3 => ?_)
  · refine rr_iload_n pf_196_25 rfl ?_
    refine rr_iload_n pf_196_26 rfl ?_
    refine rr_if_ge 35 pf_196_27 (by decide) (by simp only [rg, rl] at *; omega) (fun c4 => ?_) (fun c4 => ?_)
    · refine rr_iload_n pf_196_35 rfl ?_
      refine rr_iadd pf_196_36 ?_
      refine rr_iret pf_196_37 pt_196 ⟨by subst_vars; unfold aw; congr 3; omega, rfl⟩
    · refine rr_iload_n pf_196_30 rfl ?_
      refine rr_ineg pf_196_31 ?_
      refine rr_goto 36 pf_196_32 (by decide) ?_
      refine rr_iadd pf_196_36 ?_
      refine rr_iret pf_196_37 pt_196 ⟨by subst_vars; unfold aw; congr 3; omega, rfl⟩
  · refine rr_iload_n pf_196_20 rfl ?_
    refine rr_ineg pf_196_21 ?_
    refine rr_goto 26 pf_196_22 (by decide) ?_
    refine rr_iload_n pf_196_26 rfl ?_
    refine rr_if_ge 35 pf_196_27 (by decide) (by simp only [rg, rl] at *; omega) (fun c5 => ?_) (fun c5 => ?_)
    · refine rr_iload_n pf_196_35 rfl ?_
      refine rr_iadd pf_196_36 ?_
      refine rr_iret pf_196_37 pt_196 ⟨by subst_vars; unfold aw; congr 3; omega, rfl⟩
    · refine rr_iload_n pf_196_30 rfl ?_
      refine rr_ineg pf_196_31 ?_
      refine rr_goto 36 pf_196_32 (by decide) ?_
      refine rr_iadd pf_196_36 ?_
      refine rr_iret pf_196_37 pt_196 ⟨by subst_vars; unfold aw; congr 3; omega, rfl⟩
theorem ct_R_sumOf1 {xs : Nat → Int} {L d : Nat} {sh : List (Nat × Nat)} {M : Nat → Nat → Int} (hd : 1 ≤ d) (hW : px_W0 <+: sh) (hF : px_Fx M) (hG : px_RG sh M) {p : Nat} (hp : p < 16) : px_Cl xs L d 202 [.ref 228, .int (iI (((p : Nat) : Int)))] (sh, M) (some (.int (iI (sp_sum (rr_ M) p)))) (sh, M) := by
  obtain ⟨d, rfl⟩ : ∃ e, d = e + 1 := ⟨d - 1, by omega⟩
  refine px_Cl_intro (Nat.le_of_ble_eq_true rfl) ?_
  show px_R xs L d 202 (0, [.ref 228, .int (iI (((p : Nat) : Int)))], [], (sh, M)) _
  refine rr_aload_n pf_202_0 rfl ?_
  refine rr_getR pf_202_1 po_202 pg_9_13 rfl (ws_228 hW) (by decide) (wr_228_3 hF) ?_
  refine rr_bipush pf_202_4 (by decide) ?_
  refine rr_iconst pf_202_6 ?_
  refine rr_iload_n pf_202_7 rfl ?_
  refine rr_imul pf_202_8 ?_
  refine rr_iadd pf_202_9 ?_
  refine rr_iald pf_202_10 (ws_230 hW) (by omega) (by omega) (by simp only [rg, rl] at *; omega) ?_
  refine rr_aload_n pf_202_11 rfl ?_
  refine rr_getR pf_202_12 po_202 pg_9_13 rfl (ws_228 hW) (by decide) (wr_228_3 hF) ?_
  refine rr_bipush pf_202_15 (by decide) ?_
  refine rr_iconst pf_202_17 ?_
  refine rr_iload_n pf_202_18 rfl ?_
  refine rr_imul pf_202_19 ?_
  refine rr_iadd pf_202_20 ?_
  refine rr_iconst pf_202_21 ?_
  refine rr_iadd pf_202_22 ?_
  refine rr_iald pf_202_23 (ws_230 hW) (by omega) (by omega) (by simp only [rg, rl] at *; omega) ?_
  refine rr_iadd pf_202_24 ?_
  refine rr_aload_n pf_202_25 rfl ?_
  refine rr_getR pf_202_26 po_202 pg_9_13 rfl (ws_228 hW) (by decide) (wr_228_3 hF) ?_
  refine rr_bipush pf_202_29 (by decide) ?_
  refine rr_iconst pf_202_31 ?_
  refine rr_iload_n pf_202_32 rfl ?_
  refine rr_imul pf_202_33 ?_
  refine rr_iadd pf_202_34 ?_
  refine rr_iconst pf_202_35 ?_
  refine rr_iadd pf_202_36 ?_
  refine rr_iald pf_202_37 (ws_230 hW) (by omega) (by omega) (by simp only [rg, rl] at *; omega) ?_
  refine rr_iadd pf_202_38 ?_
  refine rr_iret pf_202_39 pt_202 ⟨by unfold sp_sum sp_hue; rw [← rr_at (by omega), ← rr_at (by omega), ← rr_at (by omega)]; congr 4 <;> (try congr 1) <;> omega, rfl⟩
