/-! a church's questions with loops -/
def sp_nblk (lw : List sp_C) (ρ : Nat → Int) : Nat → Int
  | 0 => 0
  | n + 1 => sp_nblk lw ρ n + (if sp_from lw ρ n ≤ sp_sum ρ n then 1 else 0)
theorem sp_nblk_b (lw : List sp_C) (ρ : Nat → Int) (n : Nat) : 0 ≤ sp_nblk lw ρ n ∧ sp_nblk lw ρ n ≤ n := by
  induction n with
  | zero => simp [sp_nblk]
  | succ n ih => simp only [sp_nblk]; split <;> omega
theorem lp_Church_blackPanes {xs : Nat → Int} {L d : Nat} {sh : List (Nat × Nat)} (hd : 6 ≤ d) (hW : px_W0 <+: sh) {M0 : Nat → Nat → Int} {cb : Nat} (hcb : px_ch cb) (hρ : sp_ok (rc M0 cb)) {lw : List sp_C} (hlw : px_lw sh M0 cb lw) : ∀ (m i : Nat) (M : Nat → Nat → Int), i + m = 16 → px_qk sh (px_scr cb) M0 M → px_R xs L d 99 (4, [.ref cb, .int (iI (sp_nblk lw (rc M0 cb) i)), .int (iI (((i : Nat) : Int)))], [], (sh, M)) (fun r h' => r = some (.int (iI (sp_nblk lw (rc M0 cb) 16))) ∧ ∃ M', h' = (sh, M') ∧ px_qk sh (px_scr cb) M0 M') := by
  intro m
  induction m with
  | zero =>
    intro i M hi hq
    have hnb := sp_nblk_b lw (rc M0 cb) i
    refine rr_iload_n pf_99_4 rfl ?_
    refine rr_bipush pf_99_5 (by decide) ?_
    refine rr_icmp_ge 35 pf_99_7 (by decide) (by simp only [rg, rl] at *; omega) (by simp only [rg, rl] at *; omega) (fun c1 => ?_) (fun c1 => ?_)
    · refine rr_iload_n pf_99_35 rfl ?_
      refine rr_iret pf_99_36 pt_99 ⟨by rw [show i = 16 by omega], _, rfl, hq⟩
    · exfalso; omega
  | succ m ih =>
    intro i M hi hq
    have hnb := sp_nblk_b lw (rc M0 cb) i
    refine rr_iload_n pf_99_4 rfl ?_
    refine rr_bipush pf_99_5 (by decide) ?_
    refine rr_icmp_ge 35 pf_99_7 (by decide) (by simp only [rg, rl] at *; omega) (by simp only [rg, rl] at *; omega) (fun c1 => ?_) (fun c1 => ?_)
    · exfalso; omega
    · refine rr_aload_n pf_99_10 rfl ?_
      refine rr_getR pf_99_11 po_99 pg_0_12 rfl (cs_z hW hcb) (by decide) (cf_0_0 hq.1 hcb) ?_
      refine rr_iload_n pf_99_14 rfl ?_
      have hsm := ct_Nave_allHuesOf (xs := xs) (L := L) (d := d) (p := ((i : Nat) : Int)) (by omega) hW hq.1 hq.2.1 (ch_nv hcb) ⟨by omega, by omega⟩
      rw [show cb + 1 + 1 = cb + 2 from rfl, sum_rc (by omega), rc_scr hcb hcb hq.2.2] at hsm
      refine rr_cV1 pf_99_15 po_99 pc_0_109 (cs_1 hW hcb) po_35 (by decide) rfl hsm ?_
      refine rr_aload_n pf_99_18 rfl ?_
      refine rr_iload_n pf_99_19 rfl ?_
      obtain ⟨M2, qM2, hcM2⟩ := ct_Church_blackFrom (xs := xs) (L := L) (d := d) (p := i) (by omega) hW hq.1 hq.2.1 hcb (by rw [rc_scr hcb hcb hq.2.2]; exact hρ) (lw_scr hcb hcb hlw hq.2.2) (by omega)
      rw [rc_scr hcb hcb hq.2.2] at hcM2
      refine rr_cV1 pf_99_20 po_99 pc_0_112 (cs_z hW hcb) po_33 (by decide) rfl hcM2 ?_
      have hE3 : px_eo (px_scr cb) M0 M2 := eo_tr hq.2.2 qM2.2.2
      refine rr_icmp_lt 29 pf_99_23 (by decide) (by have := sp_sum_b hρ (p := i) (by omega); simp only [rg, rl] at *; omega) (by have := sp_from_b lw (rc M0 cb) i; simp only [rg, rl] at *; omega) (fun c4 => ?_) (fun c4 => ?_)
      · refine rr_iinc pf_99_29 rfl (fun y => [.ref cb, .int (iI (sp_nblk lw (rc M0 cb) i)), .int (iI (y))]) (fun _ => rfl) (fun y5 hy5 => ?_)
        refine rr_goto 4 pf_99_32 (by decide) ?_
        have e1 : sp_nblk lw (rc M0 cb) i = sp_nblk lw (rc M0 cb) (i + 1) := by simp only [sp_nblk]; rw [if_neg (by omega)]; omega
        obtain rfl : y5 = ((i + 1 : Nat) : Int) := by omega
        rw [e1]
        exact ih (i + 1) M2 (by omega) ⟨qM2.1, qM2.2.1, hE3⟩
      · refine rr_iinc pf_99_26 rfl (fun y => [.ref cb, .int (iI (y)), .int (iI (((i : Nat) : Int)))]) (fun _ => rfl) (fun y6 hy6 => ?_)
        refine rr_iinc pf_99_29 rfl (fun y => [.ref cb, .int (iI (y6)), .int (iI (y))]) (fun _ => rfl) (fun y7 hy7 => ?_)
        refine rr_goto 4 pf_99_32 (by decide) ?_
        have e1 : y6 = sp_nblk lw (rc M0 cb) (i + 1) := by simp only [sp_nblk]; rw [if_pos (by omega)]; omega
        obtain rfl : y7 = ((i + 1 : Nat) : Int) := by omega
        rw [e1]
        exact ih (i + 1) M2 (by omega) ⟨qM2.1, qM2.2.1, hE3⟩
theorem ct_Church_blackPanes {xs : Nat → Int} {L d : Nat} {sh : List (Nat × Nat)} {M : Nat → Nat → Int} (hd : 7 ≤ d) (hW : px_W0 <+: sh) (hF : px_Fx M) (hG : px_RG sh M) {cb : Nat} (hcb : px_ch cb) (hρ : sp_ok (rc M cb)) {lw : List sp_C} (hlw : px_lw sh M cb lw) : ∃ M', px_qk sh (px_scr cb) M M' ∧ px_Cl xs L d 99 [.ref cb] (sh, M) (some (.int (iI (sp_nblk lw (rc M cb) 16)))) (sh, M') := by
  obtain ⟨d, rfl⟩ : ∃ e, d = e + 1 := ⟨d - 1, by omega⟩
  have hcl := ch_far hcb hcb
  have hpul : 0 ≤ M (cb + 1) 3 ∧ M (cb + 1) 3 < 16 := hρ.2.2.2.2.2.2.2.2.1
  refine px_Cl_m (Nat.le_of_ble_eq_true rfl) ?_
  show px_R xs L d 99 (0, [.ref cb, px_jk, px_jk], [], (sh, M)) _
  refine rr_iconst pf_99_0 ?_
  refine rr_istore_n pf_99_1 (fun y => [.ref cb, .int (iI (y)), px_jk]) (Nat.le_of_ble_eq_true rfl) (fun _ => rfl) (fun y1 hy1 => ?_)
  refine rr_iconst pf_99_2 ?_
  refine rr_istore_n pf_99_3 (fun y => [.ref cb, .int (iI (y1)), .int (iI (y))]) (Nat.le_of_ble_eq_true rfl) (fun _ => rfl) (fun y2 hy2 => ?_)
  obtain rfl : y1 = sp_nblk lw (rc M cb) 0 := by rw [hy1]; rfl
  obtain rfl : y2 = ((0 : Nat) : Int) := by omega
  exact lp_Church_blackPanes (by omega) hW hcb hρ hlw 16 0 M (by omega) ⟨hF, hG, eo_rf⟩
theorem sp_pane_b {ρ : Nat → Int} (h : sp_ok ρ) {s : Nat} (hs : s < 8) : sp_pane ρ s + 4 < 16 := by
  have a := h.2.2.2.2.2.1
  unfold sp_pane
  split <;> omega
theorem sp_pane_i {ρ : Nat → Int} (h : sp_ok ρ) {s : Nat} : (if ((s : Nat) : Int) < 4 then (0 : Int) else 8) + (((s : Nat) : Int) + ρ 5) % 4 = ((sp_pane ρ s : Nat) : Int) := by
  have a := h.2.2.2.2.2.1
  unfold sp_pane
  split <;> split <;> omega
theorem hue_rc {M : Nat → Nat → Int} {cb p h : Nat} (hp : p < 16) (hh : h < 3) : M (cb + 2) (((p : Nat) : Int) * 3 + ((h : Nat) : Int)).toNat = sp_hue (rc M cb) p h := by
  unfold sp_hue
  rw [rc_hue (by omega)]
  congr 1; omega
