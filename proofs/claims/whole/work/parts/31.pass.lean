/-! the passing of an hour -/
noncomputable def sp_sp1 (lw : List sp_C) (ρ : Nat → Int) (l : Nat) : Int := max 0 (min 99 (ρ (63 + l) + sp_does lw ρ l (ρ (57 + l)).toNat))
noncomputable def sp_pasS (lw : List sp_C) (ρ : Nat → Int) (n : Nat) : Nat → Int := fun j => if 63 ≤ j ∧ j < 63 + n then sp_sp1 lw ρ (j - 63) else ρ j
noncomputable def sp_pasR (lw : List sp_C) (ρ : Nat → Int) : Nat → Int := rup (sp_pasS lw ρ (ρ 1).toNat) 5 (ρ 5 + 1)
noncomputable def sp_pasW (lw : List sp_C) (ρ : Nat → Int) : Nat → Int := if ρ 5 < 999 then sp_pasR lw ρ else ρ
def sp_pasV (ρ : Nat → Int) : Int := if ρ 5 < 999 then ρ 5 + 1 else -3
section PA
variable {lw : List sp_C} {ρ : Nat → Int}
theorem sp_sp1_b (l : Nat) : 0 ≤ sp_sp1 lw ρ l ∧ sp_sp1 lw ρ l ≤ 99 := by unfold sp_sp1; omega
theorem sp_pas_0 : sp_pasS lw ρ 0 = ρ := by
  funext j
  unfold sp_pasS
  rw [if_neg (by omega)]
theorem sp_pas_n {n j : Nat} (h : j < 63 ∨ 63 + n ≤ j) : sp_pasS lw ρ n j = ρ j := by
  unfold sp_pasS
  rw [if_neg (by omega)]
theorem sp_light_congr {r : Nat → Int} (h : ∀ j, j < 63 → r j = ρ j) {s : Nat} (hs : s < 8) (h5 : 0 ≤ ρ 5) {i : Nat} (hi : i < 3) : sp_light lw r s i = sp_light lw ρ s i := by
  have hue : ∀ p i, p < 16 → i < 3 → sp_hue r p i = sp_hue ρ p i := fun p i hp hi => h _ (by omega)
  have hB : ∀ p, p < 16 → sp_envB r p = sp_envB ρ p := by
    intro p hp
    unfold sp_envB sp_away
    rw [h 5 (by omega), h 7 (by omega), h 8 (by omega), hue p 0 hp (by omega), hue p 1 hp (by omega), hue p 2 hp (by omega)]
  have l1 : ∀ p, p < 16 → sp_lit1 lw r p i = sp_lit1 lw ρ p i := by
    intro p hp
    unfold sp_lit1 sp_from sp_sum
    rw [hB p hp, hue p 0 hp (by omega), hue p 1 hp (by omega), hue p 2 hp (by omega), hue p i hp hi]
  have pn : sp_pane r s = sp_pane ρ s := by unfold sp_pane; rw [h 5 (by omega)]
  have pb : sp_pane ρ s + 4 < 16 := by unfold sp_pane; split <;> omega
  unfold sp_light
  rw [pn, l1 _ (by omega), l1 _ (by omega)]
theorem sp_does_congr {r : Nat → Int} (h : ∀ j, j < 63 → r j = ρ j) {l s : Nat} (hl : r (63 + l) = ρ (63 + l)) (hs : s < 8) (h5 : 0 ≤ ρ 5) : sp_does lw r l s = sp_does lw ρ l s := by
  unfold sp_does sp_envD
  rw [sp_light_congr h hs h5 (i := 0) (by omega), sp_light_congr h hs h5 (i := 1) (by omega), sp_light_congr h hs h5 (i := 2) (by omega), h 5 (by omega), h 7 (by omega), hl]
theorem sp_pas_1 (h : sp_ok ρ) {n : Nat} (hn : n < 6) : sp_sp1 lw (sp_pasS lw ρ n) n = sp_sp1 lw ρ n := by
  have b := sp_seat_b h hn
  unfold sp_sp1
  rw [sp_pas_n (j := 63 + n) (by omega), sp_pas_n (j := 57 + n) (by omega), sp_does_congr (r := sp_pasS lw ρ n) (ρ := ρ) (lw := lw) (l := n) (fun j hj => sp_pas_n (by omega)) (sp_pas_n (by omega)) (by omega) h.2.2.2.2.2.1.1]
theorem sp_pas_s {n : Nat} : rup (sp_pasS lw ρ n) (63 + n) (sp_sp1 lw ρ n) = sp_pasS lw ρ (n + 1) := by
  funext j
  by_cases e : j = 63 + n
  · rw [e, rup_s]
    unfold sp_pasS
    rw [if_pos (by omega), show 63 + n - 63 = n by omega]
  · rw [rup_n e]
    unfold sp_pasS
    by_cases c : 63 ≤ j ∧ j < 63 + n
    · rw [if_pos c, if_pos (by omega)]
    · rw [if_neg c, if_neg (by omega)]
theorem ok_pasS (h : sp_ok ρ) : ∀ n, n ≤ 6 → sp_ok (sp_pasS lw ρ n) := by
  intro n
  induction n with
  | zero => intro _; rw [sp_pas_0]; exact h
  | succ n ih => intro hn; rw [← sp_pas_s]; exact ok_spir (ih (by omega)) (by omega) (sp_sp1_b n)
end PA
theorem st_Church_passHour {xs : Nat → Int} {L d : Nat} {sh : List (Nat × Nat)} {M : Nat → Nat → Int} (hd : 6 ≤ d) (hW : px_W0 <+: sh) (hF : px_Fx M) (hG : px_RG sh M) {cb : Nat} (hcb : px_ch cb) (hρ : sp_ok (rc M cb)) {lw : List sp_C} (hlw : px_lw sh M cb lw) {i : Nat} (hi : i < 6) {Q : Option Value → px_H → Prop} (k : ∀ (M' : Nat → Nat → Int), px_qk sh (px_stp cb) M M' → rc M' cb = rup (rc M cb) (63 + i) (sp_sp1 lw (rc M cb) i) → px_R xs L d 105 (18, [.ref cb, .int (iI (((i + 1 : Nat) : Int)))], [], (sh, M')) Q) : px_R xs L d 105 (26, [.ref cb, .int (iI (((i : Nat) : Int)))], [], (sh, M)) Q := by
  have hcl := ch_far hcb hcb
  have hsb := sp_seat_b hρ hi
  refine rr_aload_n pf_105_26 rfl ?_
  refine rr_aload_n pf_105_27 rfl ?_
  refine rr_getR pf_105_28 po_105 pg_0_12 rfl (cs_z hW hcb) (by decide) (cf_0_0 hF hcb) ?_
  refine rr_getR pf_105_31 po_105 pg_0_80 rfl (cs_1 hW hcb) (by decide) (cf_1_2 hF hcb) ?_
  refine rr_iload_n pf_105_34 rfl ?_
  refine rr_iald pf_105_35 (cs_4 hW hcb) (by omega) (by omega) (by simp only [rg, rl] at *; omega) ?_
  rw [show M (cb + 4) (((i : Nat) : Int)).toNat = (((rc M cb (57 + i)).toNat : Nat) : Int) by rw [Int.toNat_natCast]; have := rc_seat (M := M) (cb := cb) hi; omega]
  obtain ⟨M1, ⟨qM1, fM1⟩, hcM1⟩ := ct_Church_shine (xs := xs) (L := L) (d := d) (s := (rc M cb (57 + i)).toNat) (by omega) hW hF hG hcb hρ hlw (by omega)
  refine rr_cV1 pf_105_36 po_105 pc_0_181 (cs_z hW hcb) po_41 (by decide) rfl hcM1 ?_
  have hE2 : px_eo (px_stp cb) M M1 := eo_tr eo_rf (eo_mono qM1.2.2 (by simp))
  refine rr_aload_n pf_105_39 rfl ?_
  refine rr_getR pf_105_40 po_105 pg_0_12 rfl (cs_z hW hcb) (by decide) (cf_0_0 qM1.1 hcb) ?_
  refine rr_getR pf_105_43 po_105 pg_0_127 rfl (cs_1 hW hcb) (by decide) (cf_1_1 qM1.1 hcb) ?_
  refine rr_iload_n pf_105_46 rfl ?_
  refine rr_aload_n pf_105_47 rfl ?_
  refine rr_iload_n pf_105_48 rfl ?_
  have eM1r := rc_scl hcb hcb qM1.2.2
  obtain ⟨M3, qM3, hcM3⟩ := ct_Church_spiritAfter (xs := xs) (L := L) (d := d) (l := i) (by omega) hW qM1.1 qM1.2.1 hcb (by rw [eM1r]; exact hρ) (lw_scl hcb hcb hlw qM1.2.2) (by omega) fM1 (fun h hh => sp_light_b lw hρ (by omega) hh)
  rw [eM1r, sp_does_F] at hcM3
  rw [show max 0 (min 99 (rc M cb (63 + i) + sp_does lw (rc M cb) i (rc M cb (57 + i)).toNat)) = sp_sp1 lw (rc M cb) i from rfl] at hcM3
  have hsp := sp_sp1_b (lw := lw) (ρ := rc M cb) i
  refine rr_cV1 pf_105_49 po_105 pc_0_185 (cs_z hW hcb) po_106 (by decide) rfl hcM3 ?_
  have hE4 : px_eo (px_stp cb) M M3 := eo_tr hE2 (eo_mono qM3.2.2 (by simp))
  refine rr_iast pf_105_52 (cs_3 hW hcb) (by omega) (by omega) (by simp only [rg, rl] at *; omega) (by simp only [rg, rl] at *; omega) (fun M5 eM5 => ?_)
  have hE6 : px_eo (px_stp cb) M M5 := eo_tr hE4 (by rw [eM5]; exact eo_up (by simp))
  have hF7 : px_Fx M5 := by rw [eM5]; exact fx_up hW qM3.1 (cs_3 hW hcb) (Or.inl (by rw [px_ty10]; decide))
  have hG8 : px_RG sh M5 := by rw [eM5]; exact rg_up qM3.2.1 (cs_3 hW hcb) (by rw [px_ty10]; decide) (by simp only [rg, rl] at *; omega)
  refine rr_iinc pf_105_53 rfl (fun y => [.ref cb, .int (iI (y))]) (fun _ => rfl) (fun y9 hy9 => ?_)
  refine rr_goto 18 pf_105_56 (by decide) ?_
  obtain rfl : y9 = ((i + 1 : Nat) : Int) := by omega
  refine k M5 ⟨hF7, hG8, hE6⟩ ?_
  rw [eM5, Int.toNat_natCast, rc_upSpir (by omega)]
  congr 1
  exact (by rw [rc_scr hcb hcb qM3.2.2, eM1r])
theorem lp_Church_passHour {xs : Nat → Int} {L d : Nat} {sh : List (Nat × Nat)} (hd : 6 ≤ d) (hW : px_W0 <+: sh) {M0 : Nat → Nat → Int} {cb : Nat} (hcb : px_ch cb) (hρ : sp_ok (rc M0 cb)) {lw : List sp_C} (hlw : px_lw sh M0 cb lw) (h9 : rc M0 cb 5 < 2000) : ∀ (m i : Nat) (M : Nat → Nat → Int), i + m = (rc M0 cb 1).toNat → px_qk sh (px_stp cb) M0 M → rc M cb = sp_pasS lw (rc M0 cb) i → px_R xs L d 105 (18, [.ref cb, .int (iI (((i : Nat) : Int)))], [], (sh, M)) (fun r h' => r = some (.int (iI (rc M0 cb 5 + 1))) ∧ ∃ M', h' = (sh, M') ∧ px_qk sh (px_stp cb) M0 M' ∧ rc M' cb = sp_pasR lw (rc M0 cb)) := by
  have hcl := ch_far hcb hcb
  intro m
  induction m with
  | zero =>
    intro i M hi hq hr
    have h1 : M cb 7 = rc M0 cb 1 := by rw [hq.2.2 cb (by simp <;> omega)]; rfl
    have h2 := hρ.2.1
    have h5 : M (cb + 1) 4 = rc M0 cb 5 := by rw [show M (cb + 1) 4 = rc M cb 5 from rfl, hr]; exact sp_pas_n (by omega)
    have h6 := hρ.2.2.2.2.2.1
    refine rr_iload_n pf_105_18 rfl ?_
    refine rr_aload_n pf_105_19 rfl ?_
    refine rr_getI pf_105_20 po_105 pg_0_41 rfl (cs_z hW hcb) (by decide) ?_
    refine rr_icmp_ge 59 pf_105_23 (by decide) (by simp only [rg, rl] at *; omega) (rg_at hq.2.1 (cs_z hW hcb) (by decide)) (fun c1 => ?_) (fun c1 => ?_)
    · refine rr_aload_n pf_105_59 rfl ?_
      refine rr_getR pf_105_60 po_105 pg_0_12 rfl (cs_z hW hcb) (by decide) (cf_0_0 hq.1 hcb) ?_
      refine rr_dup pf_105_63 rfl ?_
      refine rr_getI pf_105_64 po_105 pg_0_83 rfl (cs_1 hW hcb) (by decide) ?_
      refine rr_iconst pf_105_67 ?_
      refine rr_iadd pf_105_68 ?_
      refine rr_putI pf_105_69 po_105 pg_0_83 (Or.inl rfl) rfl (cs_1 hW hcb) (by decide) (by simp only [rg, rl] at *; omega) (fun M2 eM2 => ?_)
      have hE3 : px_eo (px_stp cb) M0 M2 := eo_tr hq.2.2 (by rw [eM2]; exact eo_up (by simp))
      have hF4 : px_Fx M2 := by rw [eM2]; exact fx_up hW hq.1 (cs_1 hW hcb) (Or.inl (by decide))
      have hG5 : px_RG sh M2 := by rw [eM2]; exact rg_up hq.2.1 (cs_1 hW hcb) (by decide) (by simp only [rg, rl] at *; omega)
      refine rr_aload_n pf_105_72 rfl ?_
      refine rr_getR pf_105_73 po_105 pg_0_12 rfl (cs_z hW hcb) (by decide) (cf_0_0 hF4 hcb) ?_
      refine rr_getI pf_105_76 po_105 pg_0_83 rfl (cs_1 hW hcb) (by decide) ?_
      refine rr_iret pf_105_79 pt_105 ⟨by rw [eM2, ask_up, if_pos rfl, h5], M2, rfl, ⟨hF4, hG5, hE3⟩, by rw [eM2, rc_upHour, h5, hr, show i = (rc M0 cb 1).toNat by omega]; rfl⟩
    · exfalso; omega
  | succ m ih =>
    intro i M hi hq hr
    have h1 : M cb 7 = rc M0 cb 1 := by rw [hq.2.2 cb (by simp <;> omega)]; rfl
    have h2 := hρ.2.1
    have h5 : M (cb + 1) 4 = rc M0 cb 5 := by rw [show M (cb + 1) 4 = rc M cb 5 from rfl, hr]; exact sp_pas_n (by omega)
    have h6 := hρ.2.2.2.2.2.1
    refine rr_iload_n pf_105_18 rfl ?_
    refine rr_aload_n pf_105_19 rfl ?_
    refine rr_getI pf_105_20 po_105 pg_0_41 rfl (cs_z hW hcb) (by decide) ?_
    refine rr_icmp_ge 59 pf_105_23 (by decide) (by simp only [rg, rl] at *; omega) (rg_at hq.2.1 (cs_z hW hcb) (by decide)) (fun c1 => ?_) (fun c1 => ?_)
    · exfalso; omega
    · refine st_Church_passHour (by omega) hW hq.1 hq.2.1 hcb (by rw [hr]; exact ok_pasS hρ i (by omega)) (lw_stp hcb hcb hlw hq.2.2) (by omega) (fun M' q e => ?_)
      refine ih (i + 1) M' (by omega) (qk_tr hq q) ?_
      rw [e, hr, sp_pas_1 hρ (by omega), sp_pas_s]
theorem ct_Church_passHour {xs : Nat → Int} {L d : Nat} {sh : List (Nat × Nat)} {M : Nat → Nat → Int} (hd : 7 ≤ d) (hW : px_W0 <+: sh) (hF : px_Fx M) (hG : px_RG sh M) {cb : Nat} (hcb : px_ch cb) (hρ : sp_ok (rc M cb)) {lw : List sp_C} (hlw : px_lw sh M cb lw) : ∃ M', (px_qk sh (px_stp cb) M M' ∧ rc M' cb = sp_pasW lw (rc M cb)) ∧ px_Cl xs L d 105 [.ref cb] (sh, M) (some (.int (iI (sp_pasV (rc M cb))))) (sh, M') := by
  obtain ⟨d, rfl⟩ : ∃ e, d = e + 1 := ⟨d - 1, by omega⟩
  have h5 : M (cb + 1) 4 = rc M cb 5 := rfl
  have h6 := hρ.2.2.2.2.2.1
  refine px_Cl_m (Nat.le_of_ble_eq_true rfl) ?_
  show px_R xs L d 105 (0, [.ref cb, px_jk], [], (sh, M)) _
  refine rr_aload_n pf_105_0 rfl ?_
  refine rr_getR pf_105_1 po_105 pg_0_12 rfl (cs_z hW hcb) (by decide) (cf_0_0 hF hcb) ?_
  refine rr_getI pf_105_4 po_105 pg_0_83 rfl (cs_1 hW hcb) (by decide) ?_
  refine rr_sipush pf_105_7 (by decide) ?_
  refine rr_icmp_lt 16 pf_105_10 (by decide) (rg_at hG (cs_1 hW hcb) (by decide)) (by simp only [rg, rl] at *; omega) (fun c1 => ?_) (fun c1 => ?_)
  · refine rr_iconst pf_105_16 ?_
    refine rr_istore_n pf_105_17 (fun y => [.ref cb, .int (iI (y))]) (Nat.le_of_ble_eq_true rfl) (fun _ => rfl) (fun y2 hy2 => ?_)
    obtain rfl : y2 = ((0 : Nat) : Int) := by omega
    have hz := lp_Church_passHour (xs := xs) (L := L) (d := d) (by omega) hW hcb hρ hlw (by omega) _ 0 M (Nat.zero_add _) ⟨hF, hG, eo_rf⟩ sp_pas_0.symm
    refine px_R_mono hz (fun r h2 hh => ?_)
    obtain ⟨g1, M5, g2, g3, g4⟩ := hh
    exact ⟨by rw [g1]; unfold sp_pasV; rw [if_pos (by omega)], M5, g2, g3, by rw [g4]; unfold sp_pasW; rw [if_pos (by omega)]⟩
  · refine rr_bipush pf_105_13 (by decide) ?_
    refine rr_iret pf_105_15 pt_105 ⟨by unfold sp_pasV; rw [if_neg (by omega)], M, rfl, ⟨hF, hG, eo_rf⟩, by unfold sp_pasW; rw [if_neg (by omega)]⟩
