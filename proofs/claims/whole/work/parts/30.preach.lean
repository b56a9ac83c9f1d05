/-! preaching; the passing of an hour -/
theorem px_R_mono {xs : Nat → Int} {L d k : Nat} {S : px_S} {Q Q2 : Option Value → px_H → Prop} (h : px_R xs L d k S Q) (f : ∀ r h2, Q r h2 → Q2 r h2) : px_R xs L d k S Q2 := by
  obtain ⟨n, r, h2, a, b⟩ := h
  exact ⟨n, r, h2, a, f r h2 b⟩
def sp_got (lw : List sp_C) (ρ : Nat → Int) (w p : Nat) : Int := min (sp_stain lw ρ w p) (99 - sp_hue ρ p (ρ (69 + w)).toNat)
def sp_preR (lw : List sp_C) (ρ : Nat → Int) (w n : Nat) : Nat → Int := fun j => if 9 ≤ j ∧ j < 9 + 3 * n ∧ (j - 9) % 3 = (ρ (69 + w)).toNat then ρ j + sp_got lw ρ w ((j - 9) / 3) else ρ j
def sp_preA (lw : List sp_C) (ρ : Nat → Int) (w : Nat) : Nat → Int
  | 0 => 0
  | n + 1 => sp_preA lw ρ w n + sp_got lw ρ w n
section PR
variable {lw : List sp_C} {ρ : Nat → Int} {w : Nat}
theorem sp_got_b (h : sp_ok ρ) (hw : w < 8) {p : Nat} (hp : p < 16) : 0 ≤ sp_got lw ρ w p ∧ sp_got lw ρ w p ≤ 20 ∧ sp_hue ρ p (ρ (69 + w)).toNat + sp_got lw ρ w p ≤ 99 := by
  have a := sp_stain_b lw ρ w p
  have b := sp_wh_b h hw
  have c := sp_hue_b h hp (i := (ρ (69 + w)).toNat) (by omega)
  unfold sp_got
  omega
theorem sp_preA_b (h : sp_ok ρ) (hw : w < 8) : ∀ n, n ≤ 16 → 0 ≤ sp_preA lw ρ w n ∧ sp_preA lw ρ w n ≤ 20 * n := by
  intro n
  induction n with
  | zero => intro _; exact ⟨Int.le_refl _, Int.le_refl _⟩
  | succ n ih =>
    intro hn
    have := ih (by omega)
    have := sp_got_b (lw := lw) h hw (p := n) (by omega)
    simp only [sp_preA]
    omega
theorem sp_pre_0 : sp_preR lw ρ w 0 = ρ := by
  funext j
  unfold sp_preR
  rw [if_neg (by omega)]
theorem sp_pre_n {n j : Nat} (h : j < 9 ∨ 9 + 3 * n ≤ j) : sp_preR lw ρ w n j = ρ j := by
  unfold sp_preR
  rw [if_neg (by omega)]
theorem sp_stain_congr {r : Nat → Int} {p : Nat} (h5 : r 5 = ρ 5) (h7 : r 7 = ρ 7) (h8 : r 8 = ρ 8) (hh : r (69 + w) = ρ (69 + w)) (hf : r (77 + w) = ρ (77 + w)) (hp : ∀ i, i < 3 → sp_hue r p i = sp_hue ρ p i) : sp_stain lw r w p = sp_stain lw ρ w p := by
  have e : sp_envS r w p = sp_envS ρ w p := by
    unfold sp_envS sp_away
    rw [h5, h7, h8, hh, hf, hp 0 (by omega), hp 1 (by omega), hp 2 (by omega)]
  unfold sp_stain sp_away
  rw [e, hf, h8]
theorem sp_pre_hue {n i : Nat} : sp_hue (sp_preR lw ρ w n) n i = sp_hue ρ n i := by
  unfold sp_hue
  exact sp_pre_n (by omega)
theorem sp_pre_stain {n : Nat} (hw : w < 8) (hn : n < 16) : sp_stain lw (sp_preR lw ρ w n) w n = sp_stain lw ρ w n :=
  sp_stain_congr (sp_pre_n (by omega)) (sp_pre_n (by omega)) (sp_pre_n (by omega)) (sp_pre_n (by omega)) (sp_pre_n (by omega)) (fun _ _ => sp_pre_hue)
theorem sp_pre_got {n : Nat} (hw : w < 8) (hn : n < 16) : sp_got lw (sp_preR lw ρ w n) w n = sp_got lw ρ w n := by
  unfold sp_got
  rw [sp_pre_stain hw hn, sp_pre_n (j := 69 + w) (by omega), sp_pre_hue]
theorem sp_pre_s (h : sp_ok ρ) (hw : w < 8) {n : Nat} (hn : n < 16) : rup (sp_preR lw ρ w n) (9 + (3 * n + (ρ (69 + w)).toNat)) (sp_hue ρ n (ρ (69 + w)).toNat + sp_got lw ρ w n) = sp_preR lw ρ w (n + 1) := by
  have b := sp_wh_b h hw
  funext j
  by_cases e : j = 9 + (3 * n + (ρ (69 + w)).toNat)
  · rw [e, rup_s]
    unfold sp_preR
    rw [if_pos (by omega), show (9 + (3 * n + (ρ (69 + w)).toNat) - 9) / 3 = n by omega]
    rfl
  · rw [rup_n e]
    unfold sp_preR
    by_cases c : 9 ≤ j ∧ j < 9 + 3 * n ∧ (j - 9) % 3 = (ρ (69 + w)).toNat
    · rw [if_pos c, if_pos (by omega)]
    · rw [if_neg c, if_neg (by omega)]
theorem ok_pre (h : sp_ok ρ) (hw : w < 8) : ∀ n, n ≤ 16 → sp_ok (sp_preR lw ρ w n) := by
  intro n
  induction n with
  | zero => intro _; rw [sp_pre_0]; exact h
  | succ n ih =>
    intro hn
    have b := sp_wh_b h hw
    have g := sp_got_b (lw := lw) h hw (p := n) (by omega)
    have c := sp_hue_b h (p := n) (by omega) (i := (ρ (69 + w)).toNat) (by omega)
    rw [← sp_pre_s h hw (by omega)]
    exact ok_hue (ih (by omega)) (by omega) (by omega)
end PR
theorem st_Church_preachWord {xs : Nat → Int} {L d : Nat} {sh : List (Nat × Nat)} {M : Nat → Nat → Int} (hd : 5 ≤ d) (hW : px_W0 <+: sh) (hF : px_Fx M) (hG : px_RG sh M) {cb : Nat} (hcb : px_ch cb) (hρ : sp_ok (rc M cb)) {lw : List sp_C} (hlw : px_lw sh M cb lw) {w i : Nat} (hw : w < 8) (hi : i < 16) {a : Int} (ha : 0 ≤ a ∧ a ≤ 20 * i) {v4 v5 : Value} {Q : Option Value → px_H → Prop} (k : ∀ (M' : Nat → Nat → Int) (u4 u5 : Value), px_qk sh (px_stp cb) M M' → rc M' cb = rup (rc M cb) (9 + (3 * i + (rc M cb (69 + w)).toNat)) (sp_hue (rc M cb) i (rc M cb (69 + w)).toNat + sp_got lw (rc M cb) w i) → px_R xs L d 101 (26, [.ref cb, .int (iI (((w : Nat) : Int))), .int (iI (a + sp_got lw (rc M cb) w i)), .int (iI (((i + 1 : Nat) : Int))), u4, u5], [], (sh, M')) Q) : px_R xs L d 101 (32, [.ref cb, .int (iI (((w : Nat) : Int))), .int (iI (a)), .int (iI (((i : Nat) : Int))), v4, v5], [], (sh, M)) Q := by
  have hcl := ch_far hcb hcb
  have hwb := sp_wh_b hρ hw
  have hgb := sp_got_b (lw := lw) hρ hw hi
  have hhb := sp_hue_b hρ hi (i := (rc M cb (69 + w)).toNat) (by omega)
  refine rr_iload_n pf_101_32 rfl ?_
  refine rr_iconst pf_101_33 ?_
  refine rr_imul pf_101_34 ?_
  refine rr_aload_n pf_101_35 rfl ?_
  refine rr_getR pf_101_36 po_101 pg_0_18 rfl (cs_z hW hcb) (by decide) (cf_0_1 hF hcb) ?_
  refine rr_iload_n pf_101_39 rfl ?_
  refine rr_iald pf_101_40 (cs_5 hW hcb) (by omega) (by omega) (by simp only [rg, rl] at *; omega) ?_
  have hwh : M (cb + 5) (((w : Nat) : Int)).toNat = rc M cb (69 + w) := by rw [Int.toNat_natCast]; exact (rc_wh hw).symm
  refine rr_iadd pf_101_41 ?_
  refine rr_istore pf_101_42 (fun y => [.ref cb, .int (iI (((w : Nat) : Int))), .int (iI (a)), .int (iI (((i : Nat) : Int))), .int (iI (y)), v5]) (Nat.le_of_ble_eq_true rfl) (fun _ => rfl) (fun y1 hy1 => ?_)
  refine rr_aload_n pf_101_44 rfl ?_
  refine rr_iload_n pf_101_45 rfl ?_
  refine rr_iload_n pf_101_46 rfl ?_
  obtain ⟨M2, qM2, hcM2⟩ := ct_Church_stainOf (xs := xs) (L := L) (d := d) (w := w) (p := i) (by omega) hW hF hG hcb hρ hlw (by omega) (by omega)
  refine rr_cV2 pf_101_47 po_101 pc_0_158 (cs_z hW hcb) po_27 (by decide) rfl hcM2 ?_
  have hE3 : px_eo (px_stp cb) M M2 := eo_tr eo_rf (eo_mono qM2.2.2 (by simp))
  refine rr_bipush pf_101_50 (by decide) ?_
  refine rr_aload_n pf_101_52 rfl ?_
  refine rr_getR pf_101_53 po_101 pg_0_12 rfl (cs_z hW hcb) (by decide) (cf_0_0 qM2.1 hcb) ?_
  refine rr_getR pf_101_56 po_101 pg_0_133 rfl (cs_1 hW hcb) (by decide) (cf_1_0 qM2.1 hcb) ?_
  refine rr_iload pf_101_59 rfl ?_
  refine rr_iald pf_101_61 (cs_2 hW hcb) (by omega) (by omega) (by simp only [rg, rl] at *; omega) ?_
  have hyt : (y1).toNat = 3 * i + (rc M cb (69 + w)).toNat := by omega
  have hvh : M2 (cb + 2) (y1).toNat = sp_hue (rc M cb) i (rc M cb (69 + w)).toNat := by rw [qM2.2.2 (cb + 2) (by simp <;> omega), hyt]; unfold sp_hue; rw [rc_hue (by omega)]
  have hsb := sp_stain_b lw (rc M cb) w i
  skip
  refine rr_isub pf_101_62 ?_
  refine rr_min pf_101_63 po_101 pc_0_161 rfl (by have := sp_stain_b lw (rc M cb) w i; simp only [rg, rl] at *; omega) (by simp only [rg, rl] at *; omega) ?_
  refine rr_istore pf_101_66 (fun y => [.ref cb, .int (iI (((w : Nat) : Int))), .int (iI (a)), .int (iI (((i : Nat) : Int))), .int (iI (y1)), .int (iI (y))]) (Nat.le_of_ble_eq_true rfl) (fun _ => rfl) (fun y4 hy4 => ?_)
  have hgt : y4 = sp_got lw (rc M cb) w i := by rw [hy4, hvh]; rfl
  refine rr_aload_n pf_101_68 rfl ?_
  refine rr_getR pf_101_69 po_101 pg_0_12 rfl (cs_z hW hcb) (by decide) (cf_0_0 qM2.1 hcb) ?_
  refine rr_getR pf_101_72 po_101 pg_0_133 rfl (cs_1 hW hcb) (by decide) (cf_1_0 qM2.1 hcb) ?_
  refine rr_iload pf_101_75 rfl ?_
  refine rr_dup2 pf_101_77 rfl rfl ?_
  refine rr_iald pf_101_78 (cs_2 hW hcb) (by omega) (by omega) (by simp only [rg, rl] at *; omega) ?_
  refine rr_iload pf_101_79 rfl ?_
  refine rr_iadd pf_101_81 ?_
  refine rr_iast pf_101_82 (cs_2 hW hcb) (by omega) (by omega) (by simp only [rg, rl] at *; omega) (by simp only [rg, rl] at *; omega) (fun M5 eM5 => ?_)
  have hE6 : px_eo (px_stp cb) M M5 := eo_tr hE3 (by rw [eM5]; exact eo_up (by simp))
  have hF7 : px_Fx M5 := by rw [eM5]; exact fx_up hW qM2.1 (cs_2 hW hcb) (Or.inl (by rw [px_ty10]; decide))
  have hG8 : px_RG sh M5 := by rw [eM5]; exact rg_up qM2.2.1 (cs_2 hW hcb) (by rw [px_ty10]; decide) (by simp only [rg, rl] at *; omega)
  refine rr_iload_n pf_101_83 rfl ?_
  refine rr_iload pf_101_84 rfl ?_
  refine rr_iadd pf_101_86 ?_
  refine rr_istore_n pf_101_87 (fun y => [.ref cb, .int (iI (((w : Nat) : Int))), .int (iI (y)), .int (iI (((i : Nat) : Int))), .int (iI (y1)), .int (iI (y4))]) (Nat.le_of_ble_eq_true rfl) (fun _ => rfl) (fun y9 hy9 => ?_)
  refine rr_iinc pf_101_88 rfl (fun y => [.ref cb, .int (iI (((w : Nat) : Int))), .int (iI (y9)), .int (iI (y)), .int (iI (y1)), .int (iI (y4))]) (fun _ => rfl) (fun y10 hy10 => ?_)
  refine rr_goto 26 pf_101_91 (by decide) ?_
  obtain rfl : y10 = ((i + 1 : Nat) : Int) := by omega
  have ea : y9 = a + sp_got lw (rc M cb) w i := by omega
  rw [ea]
  refine k M5 _ _ ⟨hF7, hG8, hE6⟩ ?_
  rw [eM5, hyt, rc_upH (by omega), ← hyt, hvh, hgt, hyt, rc_scr hcb hcb qM2.2.2]
theorem lp_Church_preachWord {xs : Nat → Int} {L d : Nat} {sh : List (Nat × Nat)} (hd : 5 ≤ d) (hW : px_W0 <+: sh) {M0 : Nat → Nat → Int} {cb : Nat} (hcb : px_ch cb) (hρ : sp_ok (rc M0 cb)) {lw : List sp_C} (hlw : px_lw sh M0 cb lw) {w : Nat} (hw : w < 8) : ∀ (m i : Nat) (M : Nat → Nat → Int) (v4 v5 : Value), i + m = 16 → px_qk sh (px_stp cb) M0 M → rc M cb = sp_preR lw (rc M0 cb) w i → px_R xs L d 101 (26, [.ref cb, .int (iI (((w : Nat) : Int))), .int (iI (sp_preA lw (rc M0 cb) w i)), .int (iI (((i : Nat) : Int))), v4, v5], [], (sh, M)) (fun r h' => r = some (.int (iI (sp_preA lw (rc M0 cb) w 16))) ∧ ∃ M', h' = (sh, M') ∧ px_qk sh (px_stp cb) M0 M' ∧ rc M' cb = sp_preR lw (rc M0 cb) w 16) := by
  intro m
  induction m with
  | zero =>
    intro i M v4 v5 hi hq hr
    refine rr_iload_n pf_101_26 rfl ?_
    refine rr_bipush pf_101_27 (by decide) ?_
    refine rr_icmp_ge 94 pf_101_29 (by decide) (by simp only [rg, rl] at *; omega) (by simp only [rg, rl] at *; omega) (fun c1 => ?_) (fun c1 => ?_)
    · refine rr_iload_n pf_101_94 rfl ?_
      refine rr_iret pf_101_95 pt_101 ⟨by rw [show i = 16 by omega], M, rfl, hq, by rw [hr, show i = 16 by omega]⟩
    · exfalso; omega
  | succ m ih =>
    intro i M v4 v5 hi hq hr
    have hpb := sp_preA_b (lw := lw) hρ hw i (by omega)
    refine rr_iload_n pf_101_26 rfl ?_
    refine rr_bipush pf_101_27 (by decide) ?_
    refine rr_icmp_ge 94 pf_101_29 (by decide) (by simp only [rg, rl] at *; omega) (by simp only [rg, rl] at *; omega) (fun c1 => ?_) (fun c1 => ?_)
    · exfalso; omega
    · refine st_Church_preachWord (by omega) hW hq.1 hq.2.1 hcb (by rw [hr]; exact ok_pre hρ hw i (by omega)) (lw_stp hcb hcb hlw hq.2.2) hw (by omega) hpb (fun M' u4 u5 q e => ?_)
      rw [hr, sp_pre_got hw (by omega)]
      refine ih (i + 1) M' u4 u5 (by omega) (qk_tr hq q) ?_
      rw [e, hr, sp_pre_got hw (by omega), sp_pre_n (j := 69 + w) (by omega), sp_pre_hue, sp_pre_s hρ hw (by omega)]
def sp_preV (lw : List sp_C) (ρ : Nat → Int) (w : Int) : Int := if 0 ≤ w ∧ w ≤ ρ 0 - 1 then (if sp_barb lw ρ w.toNat = true then -3 else sp_preA lw ρ w.toNat 16) else -2
def sp_preW (lw : List sp_C) (ρ : Nat → Int) (w : Int) : Nat → Int := if 0 ≤ sp_preV lw ρ w then sp_preR lw ρ w.toNat 16 else ρ
theorem ct_Church_preachWord {xs : Nat → Int} {L d : Nat} {sh : List (Nat × Nat)} {M : Nat → Nat → Int} (hd : 6 ≤ d) (hW : px_W0 <+: sh) (hF : px_Fx M) (hG : px_RG sh M) {cb : Nat} (hcb : px_ch cb) (hρ : sp_ok (rc M cb)) {lw : List sp_C} (hlw : px_lw sh M cb lw) {v : Int} (hv : rg v) : ∃ M', (px_qk sh (px_stp cb) M M' ∧ rc M' cb = sp_preW lw (rc M cb) v) ∧ px_Cl xs L d 101 [.ref cb, .int (iI v)] (sh, M) (some (.int (iI (sp_preV lw (rc M cb) v)))) (sh, M') := by
  obtain ⟨d, rfl⟩ : ∃ e, d = e + 1 := ⟨d - 1, by omega⟩
  have hcl := ch_far hcb hcb
  have h0 : M cb 6 = rc M cb 0 := rfl
  have hwb := hρ.1
  refine px_Cl_m (Nat.le_of_ble_eq_true rfl) ?_
  by_cases hvv : 0 ≤ v ∧ v ≤ rc M cb 0 - 1
  · obtain ⟨w, rfl⟩ := Int.eq_ofNat_of_zero_le hvv.1
    show px_R xs L d 101 (0, [.ref cb, .int (iI (((w : Nat) : Int))), px_jk, px_jk, px_jk, px_jk], [], (sh, M)) _
    refine rr_aload_n pf_101_0 rfl ?_
    refine rr_iload_n pf_101_1 rfl ?_
    refine rr_cV1 pf_101_2 po_101 pc_0_152 (cs_z hW hcb) po_17 (by decide) rfl (ct_Church_isWord (by omega) hW hF hG hcb (by simp only [rg, rl] at *; omega) (by omega)) ?_
    refine rr_ifb_ne 11 pf_101_5 (by decide) (fun c1 => ?_) (fun c1 => ?_)
    · refine rr_aload_n pf_101_11 rfl ?_
      refine rr_iload_n pf_101_12 rfl ?_
      obtain ⟨M2, qM2, hcM2⟩ := ct_Church_isBarred (xs := xs) (L := L) (d := d) (w := w) (by omega) hW hF hG hcb hρ hlw (by omega)
      refine rr_cV1 pf_101_13 po_101 pc_0_155 (cs_z hW hcb) po_18 (by decide) rfl hcM2 ?_
      have hE3 : px_eo (px_stp cb) M M2 := eo_tr eo_rf (eo_mono qM2.2.2 (by simp))
      refine rr_ifb_eq 22 pf_101_16 (by decide) (fun c4 => ?_) (fun c4 => ?_)
      · refine rr_iconst pf_101_22 ?_
        refine rr_istore_n pf_101_23 (fun y => [.ref cb, .int (iI (((w : Nat) : Int))), .int (iI (y)), px_jk, px_jk, px_jk]) (Nat.le_of_ble_eq_true rfl) (fun _ => rfl) (fun y5 hy5 => ?_)
        refine rr_iconst pf_101_24 ?_
        refine rr_istore_n pf_101_25 (fun y => [.ref cb, .int (iI (((w : Nat) : Int))), .int (iI (y5)), .int (iI (y)), px_jk, px_jk]) (Nat.le_of_ble_eq_true rfl) (fun _ => rfl) (fun y6 hy6 => ?_)
        obtain rfl : y5 = sp_preA lw (rc M cb) w 0 := by rw [hy5]; rfl
        obtain rfl : y6 = ((0 : Nat) : Int) := by omega
        have e0 := rc_scr hcb hcb qM2.2.2
        have hz := lp_Church_preachWord (xs := xs) (L := L) (d := d) (by omega) hW hcb (by rw [e0]; exact hρ) (lw_scr hcb hcb hlw qM2.2.2) (w := w) (by omega) 16 0 M2 px_jk px_jk (by omega) ⟨qM2.1, qM2.2.1, eo_rf⟩ (by rw [sp_pre_0])
        rw [e0] at hz
        refine px_R_mono hz (fun r h2 hh => ?_)
        obtain ⟨g1, M5, g2, g3, g4⟩ := hh
        have gb := sp_preA_b (lw := lw) hρ (w := w) (by omega) 16 (by omega)
        exact ⟨by rw [g1]; unfold sp_preV; rw [if_pos (by omega), Int.toNat_natCast, if_neg (by assumption)], M5, g2, qk_tr ⟨qM2.1, qM2.2.1, hE3⟩ g3, by rw [g4]; unfold sp_preW; rw [if_pos (by unfold sp_preV; rw [if_pos (by omega), Int.toNat_natCast, if_neg (by assumption)]; omega), Int.toNat_natCast]⟩
      · refine rr_bipush pf_101_19 (by decide) ?_
        refine rr_iret pf_101_21 pt_101 ⟨by unfold sp_preV; rw [if_pos (by omega), Int.toNat_natCast, if_pos (by assumption)], _, rfl, ⟨qM2.1, qM2.2.1, hE3⟩, by unfold sp_preW; rw [if_neg (by unfold sp_preV; rw [if_pos (by omega), Int.toNat_natCast, if_pos (by assumption)]; decide), rc_scr hcb hcb qM2.2.2]⟩
    · exfalso; omega
  · show px_R xs L d 101 (0, [.ref cb, .int (iI (v)), px_jk, px_jk, px_jk, px_jk], [], (sh, M)) _
    refine rr_aload_n pf_101_0 rfl ?_
    refine rr_iload_n pf_101_1 rfl ?_
    refine rr_cV1 pf_101_2 po_101 pc_0_152 (cs_z hW hcb) po_17 (by decide) rfl (ct_Church_isWord (by omega) hW hF hG hcb hv (by omega)) ?_
    refine rr_ifb_ne 11 pf_101_5 (by decide) (fun c1 => ?_) (fun c1 => ?_)
    · exfalso; omega
    · refine rr_bipush pf_101_8 (by decide) ?_
      refine rr_iret pf_101_10 pt_101 ⟨by unfold sp_preV; rw [if_neg (by omega)], M, rfl, ⟨hF, hG, eo_rf⟩, by unfold sp_preW; rw [if_neg (by unfold sp_preV; rw [if_neg (by omega)]; decide)]⟩
