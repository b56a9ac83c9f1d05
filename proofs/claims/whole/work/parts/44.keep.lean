/-! the reference: keeping a nave, putting it back -/
theorem lp_R_keepAll {xs : Nat → Int} {L d : Nat} {sh : List (Nat × Nat)} (hW : px_W0 <+: sh) {M0 : Nat → Nat → Int} {k : Nat} (hk : k < 18) : ∀ (m i : Nat) (M : Nat → Nat → Int), i + m = 64 → px_qk sh [233] M0 M → (∀ j, M 233 j = if 64 * k ≤ j ∧ j < 64 * k + i then M0 230 (5 + (j - 64 * k)) else M0 233 j) → px_R xs L d 251 (2, [.ref 228, .int (iI (((k : Nat) : Int))), .int (iI (((i : Nat) : Int)))], [], (sh, M)) (fun r h' => r = none ∧ ∃ M', h' = (sh, M') ∧ px_qk sh [233] M0 M' ∧ ∀ j, M' 233 j = if 64 * k ≤ j ∧ j < 64 * k + 64 then M0 230 (5 + (j - 64 * k)) else M0 233 j) := by
  intro m
  induction m with
  | zero =>
    intro i M hi hq hv
    refine rr_iload_n pf_251_2 rfl ?_
    refine rr_bipush pf_251_3 (by decide) ?_
    refine rr_icmp_ge 33 pf_251_5 (by decide) (by simp only [rg, rl] at *; omega) (by simp only [rg, rl] at *; omega) (fun c1 => ?_) (fun c1 => ?_)
    · refine rr_vret pf_251_33 pt_251 ⟨rfl, M, rfl, hq, fun j => by rw [hv j, show i = 64 by omega]⟩
    · exfalso; omega
  | succ m ih =>
    intro i M hi hq hv
    refine rr_iload_n pf_251_2 rfl ?_
    refine rr_bipush pf_251_3 (by decide) ?_
    refine rr_icmp_ge 33 pf_251_5 (by decide) (by simp only [rg, rl] at *; omega) (by simp only [rg, rl] at *; omega) (fun c1 => ?_) (fun c1 => ?_)
    · exfalso; omega
    · refine rr_aload_n pf_251_8 rfl ?_
      refine rr_getR pf_251_9 po_251 pg_9_23 rfl (ws_228 hW) (by decide) (wr_228_6 hq.1) ?_
      refine rr_bipush pf_251_12 (by decide) ?_
      refine rr_iload_n pf_251_14 rfl ?_
      refine rr_imul pf_251_15 ?_
      refine rr_iload_n pf_251_16 rfl ?_
      refine rr_iadd pf_251_17 ?_
      refine rr_aload_n pf_251_18 rfl ?_
      refine rr_getR pf_251_19 po_251 pg_9_13 rfl (ws_228 hW) (by decide) (wr_228_3 hq.1) ?_
      refine rr_iconst pf_251_22 ?_
      refine rr_iload_n pf_251_23 rfl ?_
      refine rr_iadd pf_251_24 ?_
      refine rr_iald pf_251_25 (ws_230 hW) (by omega) (by omega) (by simp only [rg, rl] at *; omega) ?_
      refine rr_iast pf_251_26 (ws_233 hW) (by omega) (by omega) (by simp only [rg, rl] at *; omega) (rg_at hq.2.1 (ws_230 hW) (by rw [px_ty10]; decide)) (fun M2 eM2 => ?_)
      have hE3 : px_eo [233] M0 M2 := eo_tr hq.2.2 (by rw [eM2]; exact eo_up (by simp))
      have hF4 : px_Fx M2 := by rw [eM2]; exact fx_up hW hq.1 (ws_233 hW) (Or.inl (by rw [px_ty10]; decide))
      have hG5 : px_RG sh M2 := by rw [eM2]; exact rg_up hq.2.1 (ws_233 hW) (by rw [px_ty10]; decide) (rg_at hq.2.1 (ws_230 hW) (by rw [px_ty10]; decide))
      refine rr_iinc pf_251_27 rfl (fun y => [.ref 228, .int (iI (((k : Nat) : Int))), .int (iI (y))]) (fun _ => rfl) (fun y6 hy6 => ?_)
      refine rr_goto 2 pf_251_30 (by decide) ?_
      obtain rfl : y6 = ((i + 1 : Nat) : Int) := by omega
      refine ih (i + 1) M2 (by omega) ⟨hF4, hG5, hE3⟩ (fun j => ?_)
      rw [eM2, ask_up, hq.2.2 230 (by simp)]
      by_cases hj : j = 64 * k + i
      · rw [if_pos (by omega), if_pos (by omega)]; congr 1; omega
      · rw [if_neg (by omega), hv j]; by_cases hc : 64 * k ≤ j ∧ j < 64 * k + i
        · rw [if_pos hc, if_pos (by omega)]
        · rw [if_neg hc, if_neg (by omega)]
theorem ct_R_keepAll {xs : Nat → Int} {L d : Nat} {sh : List (Nat × Nat)} {M : Nat → Nat → Int} (hd : 1 ≤ d) (hW : px_W0 <+: sh) (hF : px_Fx M) (hG : px_RG sh M) {k : Nat} (hk : k < 18) : ∃ M', (px_qk sh [233] M M' ∧ ∀ j, M' 233 j = if 64 * k ≤ j ∧ j < 64 * k + 64 then M 230 (5 + (j - 64 * k)) else M 233 j) ∧ px_Cl xs L d 251 [.ref 228, .int (iI ((k : Nat) : Int))] (sh, M) none (sh, M') := by
  obtain ⟨d, rfl⟩ : ∃ e, d = e + 1 := ⟨d - 1, by omega⟩
  refine px_Cl_m (Nat.le_of_ble_eq_true rfl) ?_
  show px_R xs L d 251 (0, [.ref 228, .int (iI (((k : Nat) : Int))), px_jk], [], (sh, M)) _
  refine rr_iconst pf_251_0 ?_
  refine rr_istore_n pf_251_1 (fun y => [.ref 228, .int (iI (((k : Nat) : Int))), .int (iI (y))]) (Nat.le_of_ble_eq_true rfl) (fun _ => rfl) (fun y1 hy1 => ?_)
  obtain rfl : y1 = ((0 : Nat) : Int) := by omega
  exact lp_R_keepAll hW hk 64 0 M (by omega) ⟨hF, hG, eo_rf⟩ (fun j => by rw [if_neg (by omega)])
theorem lp_R_putBack {xs : Nat → Int} {L d : Nat} {sh : List (Nat × Nat)} (hW : px_W0 <+: sh) {M0 : Nat → Nat → Int} {k : Nat} (hk : k < 18) : ∀ (m i : Nat) (M : Nat → Nat → Int), i + m = 64 → px_qk sh [230] M0 M → (∀ j, M 230 j = if 5 ≤ j ∧ j < 5 + i then M0 233 (64 * k + (j - 5)) else M0 230 j) → px_R xs L d 177 (2, [.ref 228, .int (iI (((k : Nat) : Int))), .int (iI (((i : Nat) : Int)))], [], (sh, M)) (fun r h' => r = none ∧ ∃ M', h' = (sh, M') ∧ px_qk sh [230] M0 M' ∧ ∀ j, M' 230 j = if 5 ≤ j ∧ j < 5 + 64 then M0 233 (64 * k + (j - 5)) else M0 230 j) := by
  intro m
  induction m with
  | zero =>
    intro i M hi hq hv
    refine rr_iload_n pf_177_2 rfl ?_
    refine rr_bipush pf_177_3 (by decide) ?_
    refine rr_icmp_ge 33 pf_177_5 (by decide) (by simp only [rg, rl] at *; omega) (by simp only [rg, rl] at *; omega) (fun c1 => ?_) (fun c1 => ?_)
    · refine rr_vret pf_177_33 pt_177 ⟨rfl, M, rfl, hq, fun j => by rw [hv j, show i = 64 by omega]⟩
    · exfalso; omega
  | succ m ih =>
    intro i M hi hq hv
    refine rr_iload_n pf_177_2 rfl ?_
    refine rr_bipush pf_177_3 (by decide) ?_
    refine rr_icmp_ge 33 pf_177_5 (by decide) (by simp only [rg, rl] at *; omega) (by simp only [rg, rl] at *; omega) (fun c1 => ?_) (fun c1 => ?_)
    · exfalso; omega
    · refine rr_aload_n pf_177_8 rfl ?_
      refine rr_getR pf_177_9 po_177 pg_9_13 rfl (ws_228 hW) (by decide) (wr_228_3 hq.1) ?_
      refine rr_iconst pf_177_12 ?_
      refine rr_iload_n pf_177_13 rfl ?_
      refine rr_iadd pf_177_14 ?_
      refine rr_aload_n pf_177_15 rfl ?_
      refine rr_getR pf_177_16 po_177 pg_9_23 rfl (ws_228 hW) (by decide) (wr_228_6 hq.1) ?_
      refine rr_bipush pf_177_19 (by decide) ?_
      refine rr_iload_n pf_177_21 rfl ?_
      refine rr_imul pf_177_22 ?_
      refine rr_iload_n pf_177_23 rfl ?_
      refine rr_iadd pf_177_24 ?_
      refine rr_iald pf_177_25 (ws_233 hW) (by omega) (by omega) (by simp only [rg, rl] at *; omega) ?_
      refine rr_iast pf_177_26 (ws_230 hW) (by omega) (by omega) (by simp only [rg, rl] at *; omega) (rg_at hq.2.1 (ws_233 hW) (by rw [px_ty10]; decide)) (fun M2 eM2 => ?_)
      have hE3 : px_eo [230] M0 M2 := eo_tr hq.2.2 (by rw [eM2]; exact eo_up (by simp))
      have hF4 : px_Fx M2 := by rw [eM2]; exact fx_up hW hq.1 (ws_230 hW) (Or.inl (by rw [px_ty10]; decide))
      have hG5 : px_RG sh M2 := by rw [eM2]; exact rg_up hq.2.1 (ws_230 hW) (by rw [px_ty10]; decide) (rg_at hq.2.1 (ws_233 hW) (by rw [px_ty10]; decide))
      refine rr_iinc pf_177_27 rfl (fun y => [.ref 228, .int (iI (((k : Nat) : Int))), .int (iI (y))]) (fun _ => rfl) (fun y6 hy6 => ?_)
      refine rr_goto 2 pf_177_30 (by decide) ?_
      obtain rfl : y6 = ((i + 1 : Nat) : Int) := by omega
      refine ih (i + 1) M2 (by omega) ⟨hF4, hG5, hE3⟩ (fun j => ?_)
      rw [eM2, ask_up, hq.2.2 233 (by simp)]
      by_cases hj : j = 5 + i
      · rw [if_pos (by omega), if_pos (by omega)]; congr 1; omega
      · rw [if_neg (by omega), hv j]; by_cases hc : 5 ≤ j ∧ j < 5 + i
        · rw [if_pos hc, if_pos (by omega)]
        · rw [if_neg hc, if_neg (by omega)]
theorem ct_R_putBack {xs : Nat → Int} {L d : Nat} {sh : List (Nat × Nat)} {M : Nat → Nat → Int} (hd : 1 ≤ d) (hW : px_W0 <+: sh) (hF : px_Fx M) (hG : px_RG sh M) {k : Nat} (hk : k < 18) : ∃ M', (px_qk sh [230] M M' ∧ ∀ j, M' 230 j = if 5 ≤ j ∧ j < 5 + 64 then M 233 (64 * k + (j - 5)) else M 230 j) ∧ px_Cl xs L d 177 [.ref 228, .int (iI ((k : Nat) : Int))] (sh, M) none (sh, M') := by
  obtain ⟨d, rfl⟩ : ∃ e, d = e + 1 := ⟨d - 1, by omega⟩
  refine px_Cl_m (Nat.le_of_ble_eq_true rfl) ?_
  show px_R xs L d 177 (0, [.ref 228, .int (iI (((k : Nat) : Int))), px_jk], [], (sh, M)) _
  refine rr_iconst pf_177_0 ?_
  refine rr_istore_n pf_177_1 (fun y => [.ref 228, .int (iI (((k : Nat) : Int))), .int (iI (y))]) (Nat.le_of_ble_eq_true rfl) (fun _ => rfl) (fun y1 hy1 => ?_)
  obtain rfl : y1 = ((0 : Nat) : Int) := by omega
  exact lp_R_putBack hW hk 64 0 M (by omega) ⟨hF, hG, eo_rf⟩ (fun j => by rw [if_neg (by omega)])
