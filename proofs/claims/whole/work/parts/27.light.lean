/-! light, and what it does -/
abbrev px_scl (cb : Nat) : List Nat := [2, cb + 9, cb + 10]
theorem rc_scl {M M2 : Nat → Nat → Int} {cb c2 : Nat} (h1 : px_ch cb) (h2 : px_ch c2) (h : px_eo (px_scl c2) M M2) : rc M2 cb = rc M cb := by
  have := ch_far h1 h2
  refine rc_eo h (fun a ha => ?_)
  simp only [List.mem_cons, List.not_mem_nil, or_false] at ha
  omega
theorem lw_scl {sh : List (Nat × Nat)} {M M2 : Nat → Nat → Int} {cb c2 : Nat} {lw : List sp_C} (h1 : px_ch cb) (h2 : px_ch c2) (h : px_lw sh M cb lw) (he : px_eo (px_scl c2) M M2) : px_lw sh M2 cb lw := by
  have f := ch_far h1 h2
  have g := ch_far h2 h1
  refine lw_eo h he (by simp <;> omega) (by simp <;> omega) (fun a ha => ?_)
  simp only [List.mem_cons, List.not_mem_nil, or_false] at ha
  omega
theorem sp_lit1_b {ρ : Nat → Int} (lw : List sp_C) (h : sp_ok ρ) {p i : Nat} (hp : p < 16) (hi : i < 3) : 0 ≤ sp_lit1 lw ρ p i ∧ sp_lit1 lw ρ p i ≤ 99 := by
  have := sp_hue_b h hp hi
  unfold sp_lit1
  split <;> omega
theorem sp_light_b {ρ : Nat → Int} (lw : List sp_C) (h : sp_ok ρ) {s i : Nat} (hs : s < 8) (hi : i < 3) : 0 ≤ sp_light lw ρ s i ∧ sp_light lw ρ s i ≤ 198 := by
  have b := sp_pane_b h hs
  have x := sp_lit1_b lw h (p := sp_pane ρ s) (by omega) hi
  have y := sp_lit1_b lw h (p := sp_pane ρ s + 4) (by omega) hi
  unfold sp_light
  omega
theorem st_Church_shine {xs : Nat → Int} {L d : Nat} {sh : List (Nat × Nat)} (hd : 5 ≤ d) (hW : px_W0 <+: sh) {M0 : Nat → Nat → Int} {cb : Nat} (hcb : px_ch cb) (hρ : sp_ok (rc M0 cb)) {lw : List sp_C} (hlw : px_lw sh M0 cb lw) {M : Nat → Nat → Int} {s u p : Nat} (hp : p < 16) {v4 : Value} (hq : px_qk sh (px_scl cb) M0 M) {e : Nat → Int} (hb : ∀ h, h < 3 → 0 ≤ e h ∧ e h ≤ 99) (he : ∀ h, h < 3 → M (cb + 9) h = e h) {Q : Option Value → px_H → Prop} (k : ∀ (M' : Nat → Nat → Int) (v : Value), px_qk sh (px_scl cb) M0 M' → (∀ h, h < 3 → M' (cb + 9) h = e h + sp_lit1 lw (rc M0 cb) p h) → px_R xs L d 41 (16, [.ref cb, .int (iI (((s : Nat) : Int))), .int (iI (((u : Nat) : Int))), .int (iI (((p + 4 : Nat) : Int))), v], [], (sh, M')) Q) : px_R xs L d 41 (23, [.ref cb, .int (iI (((s : Nat) : Int))), .int (iI (((u : Nat) : Int))), .int (iI (((p : Nat) : Int))), v4], [], (sh, M)) Q := by
  have hcl := ch_far hcb hcb
  have b0 := hb 0 (by omega)
  have b1 := hb 1 (by omega)
  have b2 := hb 2 (by omega)
  refine rr_aload_n pf_41_23 rfl ?_
  refine rr_getR pf_41_24 po_41 pg_0_12 rfl (cs_z hW hcb) (by decide) (cf_0_0 hq.1 hcb) ?_
  refine rr_iload_n pf_41_27 rfl ?_
  have hsm := ct_Nave_allHuesOf (xs := xs) (L := L) (d := d) (p := ((p : Nat) : Int)) (by omega) hW hq.1 hq.2.1 (ch_nv hcb) ⟨by omega, by omega⟩
  rw [show cb + 1 + 1 = cb + 2 from rfl, sum_rc (by omega), rc_scl hcb hcb hq.2.2] at hsm
  refine rr_cV1 pf_41_28 po_41 pc_0_109 (cs_1 hW hcb) po_35 (by decide) rfl hsm ?_
  refine rr_aload_n pf_41_31 rfl ?_
  refine rr_iload_n pf_41_32 rfl ?_
  obtain ⟨M1, qM1, hcM1⟩ := ct_Church_blackFrom (xs := xs) (L := L) (d := d) (p := p) (by omega) hW hq.1 hq.2.1 hcb (by rw [rc_scl hcb hcb hq.2.2]; exact hρ) (lw_scl hcb hcb hlw hq.2.2) (by omega)
  rw [rc_scl hcb hcb hq.2.2] at hcM1
  refine rr_cV1 pf_41_33 po_41 pc_0_112 (cs_z hW hcb) po_33 (by decide) rfl hcM1 ?_
  have hE2 : px_eo (px_scl cb) M0 M1 := eo_tr hq.2.2 (eo_mono qM1.2.2 (by simp))
  have f0 : M1 (cb + 9) 0 = e 0 := by rw [qM1.2.2 (cb + 9) (by simp <;> omega)]; exact he 0 (by omega)
  have f1 : M1 (cb + 9) 1 = e 1 := by rw [qM1.2.2 (cb + 9) (by simp <;> omega)]; exact he 1 (by omega)
  have f2 : M1 (cb + 9) 2 = e 2 := by rw [qM1.2.2 (cb + 9) (by simp <;> omega)]; exact he 2 (by omega)
  refine rr_icmp_ge 74 pf_41_36 (by decide) (by have := sp_sum_b hρ (p := p) (by omega); simp only [rg, rl] at *; omega) (by have := sp_from_b lw (rc M0 cb) p; simp only [rg, rl] at *; omega) (fun c3 => ?_) (fun c3 => ?_)
  · refine rr_iinc pf_41_74 rfl (fun y => [.ref cb, .int (iI (((s : Nat) : Int))), .int (iI (((u : Nat) : Int))), .int (iI (y)), v4]) (fun _ => rfl) (fun y4 hy4 => ?_)
    refine rr_goto 16 pf_41_77 (by decide) ?_
    obtain rfl : y4 = ((p + 4 : Nat) : Int) := by omega
    refine k M1 _ ⟨qM1.1, qM1.2.1, hE2⟩ (fun h hh => ?_)
    unfold sp_lit1
    rw [if_pos (by omega)]
    rcases (show h = 0 ∨ h = 1 ∨ h = 2 by omega) with rfl | rfl | rfl
    · rw [f0]; omega
    · rw [f1]; omega
    · rw [f2]; omega
  · refine rr_iconst pf_41_39 ?_
    refine rr_istore pf_41_40 (fun y => [.ref cb, .int (iI (((s : Nat) : Int))), .int (iI (((u : Nat) : Int))), .int (iI (((p : Nat) : Int))), .int (iI (y))]) (Nat.le_of_ble_eq_true rfl) (fun _ => rfl) (fun y5 hy5 => ?_)
    refine rr_iload pf_41_42 rfl ?_
    refine rr_iconst pf_41_44 ?_
    refine rr_icmp_ge 74 pf_41_45 (by decide) (by simp only [rg, rl] at *; omega) (by simp only [rg, rl] at *; omega) (fun c6 => ?_) (fun c6 => ?_)
    · exfalso; omega
    · refine rr_aload_n pf_41_48 rfl ?_
      refine rr_getR pf_41_49 po_41 pg_0_34 rfl (cs_z hW hcb) (by decide) (cf_0_5 qM1.1 hcb) ?_
      refine rr_iload pf_41_52 rfl ?_
      refine rr_dup2 pf_41_54 rfl rfl ?_
      refine rr_iald pf_41_55 (cs_9 hW hcb) (by omega) (by omega) (by simp only [rg, rl] at *; omega) ?_
      refine rr_aload_n pf_41_56 rfl ?_
      refine rr_getR pf_41_57 po_41 pg_0_12 rfl (cs_z hW hcb) (by decide) (cf_0_0 qM1.1 hcb) ?_
      refine rr_iload_n pf_41_60 rfl ?_
      refine rr_iload pf_41_61 rfl ?_
      have hhu := ct_Nave_hueOf (xs := xs) (L := L) (d := d) (p := ((p : Nat) : Int)) (h := y5) (by omega) hW qM1.1 qM1.2.1 (ch_nv hcb) ⟨by omega, by omega⟩ ⟨by omega, by omega⟩
      rw [show (y5 : Int) = ((0 : Nat) : Int) by omega, show cb + 1 + 1 = cb + 2 from rfl, hue_rc (M := M1) (cb := cb) (p := p) (h := 0) (by omega) (by omega), rc_scl hcb hcb hE2] at hhu
      rw [show (y5 : Int) = ((0 : Nat) : Int) by omega]
      have hhb := sp_hue_b hρ (p := p) (i := 0) (by omega) (by omega)
      refine rr_cV2 pf_41_63 po_41 pc_0_124 (cs_1 hW hcb) po_32 (by decide) rfl hhu ?_
      refine rr_iadd pf_41_66 ?_
      have hat : M1 (cb + 9) (((0 : Nat) : Int)).toNat = e 0 := by rw [Int.toNat_natCast]; exact f0
      refine rr_iast pf_41_67 (cs_9 hW hcb) (by omega) (by omega) (by simp only [rg, rl] at *; omega) (by simp only [rg, rl] at *; omega) (fun M7 eM7 => ?_)
      have hE8 : px_eo (px_scl cb) M0 M7 := eo_tr hE2 (by rw [eM7]; exact eo_up (by simp))
      have hF9 : px_Fx M7 := by rw [eM7]; exact fx_up hW qM1.1 (cs_9 hW hcb) (Or.inl (by rw [px_ty10]; decide))
      have hG10 : px_RG sh M7 := by rw [eM7]; exact rg_up qM1.2.1 (cs_9 hW hcb) (by rw [px_ty10]; decide) (by simp only [rg, rl] at *; omega)
      have f11 : M7 (cb + 9) 0 = e 0 + sp_hue (rc M0 cb) p 0 := by rw [eM7, ask_up, if_pos (by omega), hat]
      have f12 : M7 (cb + 9) 1 = e 1 := by rw [eM7, ask_up, if_neg (by omega)]; exact f1
      have f13 : M7 (cb + 9) 2 = e 2 := by rw [eM7, ask_up, if_neg (by omega)]; exact f2
      refine rr_iinc pf_41_68 rfl (fun y => [.ref cb, .int (iI (((s : Nat) : Int))), .int (iI (((u : Nat) : Int))), .int (iI (((p : Nat) : Int))), .int (iI (y))]) (fun _ => rfl) (fun y14 hy14 => ?_)
      refine rr_goto 42 pf_41_71 (by decide) ?_
      refine rr_iload pf_41_42 rfl ?_
      refine rr_iconst pf_41_44 ?_
      refine rr_icmp_ge 74 pf_41_45 (by decide) (by simp only [rg, rl] at *; omega) (by simp only [rg, rl] at *; omega) (fun c15 => ?_) (fun c15 => ?_)
      · exfalso; omega
      · refine rr_aload_n pf_41_48 rfl ?_
        refine rr_getR pf_41_49 po_41 pg_0_34 rfl (cs_z hW hcb) (by decide) (cf_0_5 hF9 hcb) ?_
        refine rr_iload pf_41_52 rfl ?_
        refine rr_dup2 pf_41_54 rfl rfl ?_
        refine rr_iald pf_41_55 (cs_9 hW hcb) (by omega) (by omega) (by simp only [rg, rl] at *; omega) ?_
        refine rr_aload_n pf_41_56 rfl ?_
        refine rr_getR pf_41_57 po_41 pg_0_12 rfl (cs_z hW hcb) (by decide) (cf_0_0 hF9 hcb) ?_
        refine rr_iload_n pf_41_60 rfl ?_
        refine rr_iload pf_41_61 rfl ?_
        have hhu := ct_Nave_hueOf (xs := xs) (L := L) (d := d) (p := ((p : Nat) : Int)) (h := y14) (by omega) hW hF9 hG10 (ch_nv hcb) ⟨by omega, by omega⟩ ⟨by omega, by omega⟩
        rw [show (y14 : Int) = ((1 : Nat) : Int) by omega, show cb + 1 + 1 = cb + 2 from rfl, hue_rc (M := M7) (cb := cb) (p := p) (h := 1) (by omega) (by omega), rc_scl hcb hcb hE8] at hhu
        rw [show (y14 : Int) = ((1 : Nat) : Int) by omega]
        have hhb := sp_hue_b hρ (p := p) (i := 1) (by omega) (by omega)
        refine rr_cV2 pf_41_63 po_41 pc_0_124 (cs_1 hW hcb) po_32 (by decide) rfl hhu ?_
        refine rr_iadd pf_41_66 ?_
        have hat : M7 (cb + 9) (((1 : Nat) : Int)).toNat = e 1 := by rw [Int.toNat_natCast]; exact f12
        refine rr_iast pf_41_67 (cs_9 hW hcb) (by omega) (by omega) (by simp only [rg, rl] at *; omega) (by simp only [rg, rl] at *; omega) (fun M16 eM16 => ?_)
        have hE17 : px_eo (px_scl cb) M0 M16 := eo_tr hE8 (by rw [eM16]; exact eo_up (by simp))
        have hF18 : px_Fx M16 := by rw [eM16]; exact fx_up hW hF9 (cs_9 hW hcb) (Or.inl (by rw [px_ty10]; decide))
        have hG19 : px_RG sh M16 := by rw [eM16]; exact rg_up hG10 (cs_9 hW hcb) (by rw [px_ty10]; decide) (by simp only [rg, rl] at *; omega)
        have f20 : M16 (cb + 9) 0 = e 0 + sp_hue (rc M0 cb) p 0 := by rw [eM16, ask_up, if_neg (by omega)]; exact f11
        have f21 : M16 (cb + 9) 1 = e 1 + sp_hue (rc M0 cb) p 1 := by rw [eM16, ask_up, if_pos (by omega), hat]
        have f22 : M16 (cb + 9) 2 = e 2 := by rw [eM16, ask_up, if_neg (by omega)]; exact f13
        refine rr_iinc pf_41_68 rfl (fun y => [.ref cb, .int (iI (((s : Nat) : Int))), .int (iI (((u : Nat) : Int))), .int (iI (((p : Nat) : Int))), .int (iI (y))]) (fun _ => rfl) (fun y23 hy23 => ?_)
        refine rr_goto 42 pf_41_71 (by decide) ?_
        refine rr_iload pf_41_42 rfl ?_
        refine rr_iconst pf_41_44 ?_
        refine rr_icmp_ge 74 pf_41_45 (by decide) (by simp only [rg, rl] at *; omega) (by simp only [rg, rl] at *; omega) (fun c24 => ?_) (fun c24 => ?_)
        · exfalso; omega
        · refine rr_aload_n pf_41_48 rfl ?_
          refine rr_getR pf_41_49 po_41 pg_0_34 rfl (cs_z hW hcb) (by decide) (cf_0_5 hF18 hcb) ?_
          refine rr_iload pf_41_52 rfl ?_
          refine rr_dup2 pf_41_54 rfl rfl ?_
          refine rr_iald pf_41_55 (cs_9 hW hcb) (by omega) (by omega) (by simp only [rg, rl] at *; omega) ?_
          refine rr_aload_n pf_41_56 rfl ?_
          refine rr_getR pf_41_57 po_41 pg_0_12 rfl (cs_z hW hcb) (by decide) (cf_0_0 hF18 hcb) ?_
          refine rr_iload_n pf_41_60 rfl ?_
          refine rr_iload pf_41_61 rfl ?_
          have hhu := ct_Nave_hueOf (xs := xs) (L := L) (d := d) (p := ((p : Nat) : Int)) (h := y23) (by omega) hW hF18 hG19 (ch_nv hcb) ⟨by omega, by omega⟩ ⟨by omega, by omega⟩
          rw [show (y23 : Int) = ((2 : Nat) : Int) by omega, show cb + 1 + 1 = cb + 2 from rfl, hue_rc (M := M16) (cb := cb) (p := p) (h := 2) (by omega) (by omega), rc_scl hcb hcb hE17] at hhu
          rw [show (y23 : Int) = ((2 : Nat) : Int) by omega]
          have hhb := sp_hue_b hρ (p := p) (i := 2) (by omega) (by omega)
          refine rr_cV2 pf_41_63 po_41 pc_0_124 (cs_1 hW hcb) po_32 (by decide) rfl hhu ?_
          refine rr_iadd pf_41_66 ?_
          have hat : M16 (cb + 9) (((2 : Nat) : Int)).toNat = e 2 := by rw [Int.toNat_natCast]; exact f22
          refine rr_iast pf_41_67 (cs_9 hW hcb) (by omega) (by omega) (by simp only [rg, rl] at *; omega) (by simp only [rg, rl] at *; omega) (fun M25 eM25 => ?_)
          have hE26 : px_eo (px_scl cb) M0 M25 := eo_tr hE17 (by rw [eM25]; exact eo_up (by simp))
          have hF27 : px_Fx M25 := by rw [eM25]; exact fx_up hW hF18 (cs_9 hW hcb) (Or.inl (by rw [px_ty10]; decide))
          have hG28 : px_RG sh M25 := by rw [eM25]; exact rg_up hG19 (cs_9 hW hcb) (by rw [px_ty10]; decide) (by simp only [rg, rl] at *; omega)
          have f29 : M25 (cb + 9) 0 = e 0 + sp_hue (rc M0 cb) p 0 := by rw [eM25, ask_up, if_neg (by omega)]; exact f20
          have f30 : M25 (cb + 9) 1 = e 1 + sp_hue (rc M0 cb) p 1 := by rw [eM25, ask_up, if_neg (by omega)]; exact f21
          have f31 : M25 (cb + 9) 2 = e 2 + sp_hue (rc M0 cb) p 2 := by rw [eM25, ask_up, if_pos (by omega), hat]
          refine rr_iinc pf_41_68 rfl (fun y => [.ref cb, .int (iI (((s : Nat) : Int))), .int (iI (((u : Nat) : Int))), .int (iI (((p : Nat) : Int))), .int (iI (y))]) (fun _ => rfl) (fun y32 hy32 => ?_)
          refine rr_goto 42 pf_41_71 (by decide) ?_
          refine rr_iload pf_41_42 rfl ?_
          refine rr_iconst pf_41_44 ?_
          refine rr_icmp_ge 74 pf_41_45 (by decide) (by simp only [rg, rl] at *; omega) (by simp only [rg, rl] at *; omega) (fun c33 => ?_) (fun c33 => ?_)
          · refine rr_iinc pf_41_74 rfl (fun y => [.ref cb, .int (iI (((s : Nat) : Int))), .int (iI (((u : Nat) : Int))), .int (iI (y)), .int (iI (y32))]) (fun _ => rfl) (fun y34 hy34 => ?_)
            refine rr_goto 16 pf_41_77 (by decide) ?_
            obtain rfl : y34 = ((p + 4 : Nat) : Int) := by omega
            refine k M25 _ ⟨hF27, hG28, hE26⟩ (fun h hh => ?_)
            unfold sp_lit1
            rw [if_neg (by omega)]
            rcases (show h = 0 ∨ h = 1 ∨ h = 2 by omega) with rfl | rfl | rfl
            · rw [f29]
            · rw [f30]
            · rw [f31]
          · exfalso; omega
theorem ct_Church_shine {xs : Nat → Int} {L d : Nat} {sh : List (Nat × Nat)} {M : Nat → Nat → Int} (hd : 6 ≤ d) (hW : px_W0 <+: sh) (hF : px_Fx M) (hG : px_RG sh M) {cb : Nat} (hcb : px_ch cb) (hρ : sp_ok (rc M cb)) {lw : List sp_C} (hlw : px_lw sh M cb lw) {s : Nat} (hs : s < 8) : ∃ M', (px_qk sh (px_scl cb) M M' ∧ ∀ h, h < 3 → M' (cb + 9) h = sp_light lw (rc M cb) s h) ∧ px_Cl xs L d 41 [.ref cb, .int (iI ((s : Nat) : Int))] (sh, M) none (sh, M') := by
  obtain ⟨d, rfl⟩ : ∃ e, d = e + 1 := ⟨d - 1, by omega⟩
  have hcl := ch_far hcb hcb
  refine px_Cl_m (Nat.le_of_ble_eq_true rfl) ?_
  show px_R xs L d 41 (0, [.ref cb, .int (iI (((s : Nat) : Int))), px_jk, px_jk, px_jk], [], (sh, M)) _
  refine rr_aload_n pf_41_0 rfl ?_
  refine rr_getR pf_41_1 po_41 pg_0_34 rfl (cs_z hW hcb) (by decide) (cf_0_5 hF hcb) ?_
  refine rr_iconst pf_41_4 ?_
  obtain ⟨M1, eM1⟩ : ∃ m, m = px_cl M (cb + 9) (fun j => if j < 3 then 0 else M (cb + 9) j) := ⟨_, rfl⟩
  have hcM1 : px_Cl xs L d 20 [.ref (cb + 9), .int (iI (0))] (sh, M) none (sh, M1) := by rw [eM1]; exact ct_Arrays_fillI (by omega) (cs_9 hW hcb) (by decide) (by simp only [rg, rl] at *; omega)
  refine rr_cS2 pf_41_5 po_41 pc_0_115 (by decide) rfl hcM1 ?_
  have hF2 : px_Fx M1 := by rw [eM1]; exact fx_cl hW hF (cs_9 hW hcb) (by decide)
  have hG3 : px_RG sh M1 := by rw [eM1]; exact rg_cl hG (cs_9 hW hcb) (fun j => by split; exact (by simp only [rg, rl] at *; omega); exact rg_at hG (cs_9 hW hcb) (by rw [px_ty10]; decide))
  have hE4 : px_eo (px_scl cb) M M1 := eo_tr eo_rf (by rw [eM1]; exact eo_cl (by simp))
  refine rr_aload_n pf_41_8 rfl ?_
  refine rr_iload_n pf_41_9 rfl ?_
  have h4 : M1 (cb + 1) 4 = rc M cb 5 := by rw [hE4 (cb + 1) (by simp <;> omega)]; rfl
  have h45 := hρ.2.2.2.2.2.1
  have hup := ct_Church_upperPaneOf (xs := xs) (L := L) (d := d) (v := ((s : Nat) : Int)) (by omega) hW hF2 hG3 hcb (by omega) (by omega)
  rw [h4, sp_pane_i hρ] at hup
  have hpb := sp_pane_b hρ (s := s) (by omega)
  refine rr_cV1 pf_41_10 po_41 pc_0_121 (cs_z hW hcb) po_42 (by decide) rfl hup ?_
  refine rr_istore_n pf_41_13 (fun y => [.ref cb, .int (iI (((s : Nat) : Int))), .int (iI (y)), px_jk, px_jk]) (Nat.le_of_ble_eq_true rfl) (fun _ => rfl) (fun y5 hy5 => ?_)
  refine rr_iload_n pf_41_14 rfl ?_
  refine rr_istore_n pf_41_15 (fun y => [.ref cb, .int (iI (((s : Nat) : Int))), .int (iI (y5)), .int (iI (y)), px_jk]) (Nat.le_of_ble_eq_true rfl) (fun _ => rfl) (fun y6 hy6 => ?_)
  obtain rfl : y6 = (((sp_pane (rc M cb) s) : Nat) : Int) := by omega
  obtain rfl : y5 = (((sp_pane (rc M cb) s) : Nat) : Int) := by omega
  have f : ∀ h, h < 3 → M1 (cb + 9) h = (fun _ => (0 : Int)) h := fun h hh => by rw [eM1, ask_cl]; simp only; rw [if_pos hh]
  have q0 : px_qk sh (px_scl cb) M M1 := ⟨hF2, hG3, hE4⟩
  refine rr_iload_n pf_41_16 rfl ?_
  refine rr_iload_n pf_41_17 rfl ?_
  refine rr_iconst pf_41_18 ?_
  refine rr_iadd pf_41_19 ?_
  refine rr_icmp_gt 80 pf_41_20 (by decide) (by simp only [rg, rl] at *; omega) (by simp only [rg, rl] at *; omega) (fun c1 => ?_) (fun c1 => ?_)
  · exfalso; omega
  · refine st_Church_shine (by omega) hW hcb hρ hlw (by omega) q0 (fun h hh => ⟨by omega, by omega⟩) f (fun M4 v4 q4 f4 => ?_)
    simp only [Int.zero_add] at f4
    refine rr_iload_n pf_41_16 rfl ?_
    refine rr_iload_n pf_41_17 rfl ?_
    refine rr_iconst pf_41_18 ?_
    refine rr_iadd pf_41_19 ?_
    refine rr_icmp_gt 80 pf_41_20 (by decide) (by simp only [rg, rl] at *; omega) (by simp only [rg, rl] at *; omega) (fun c1 => ?_) (fun c1 => ?_)
    · exfalso; omega
    · refine st_Church_shine (by omega) hW hcb hρ hlw (by omega) q4 (fun h hh => sp_lit1_b lw hρ (by omega) hh) f4 (fun M5 v5 q5 f5 => ?_)
      refine rr_iload_n pf_41_16 rfl ?_
      refine rr_iload_n pf_41_17 rfl ?_
      refine rr_iconst pf_41_18 ?_
      refine rr_iadd pf_41_19 ?_
      refine rr_icmp_gt 80 pf_41_20 (by decide) (by simp only [rg, rl] at *; omega) (by simp only [rg, rl] at *; omega) (fun c1 => ?_) (fun c1 => ?_)
      · refine rr_vret pf_41_80 pt_41 ⟨rfl, _, rfl, q5, f5⟩
      · exfalso; omega
