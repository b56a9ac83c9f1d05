/-! the class's law, refused -/
theorem ct_S_law5 {xs : Nat → Int} {L d : Nat} {sh : List (Nat × Nat)} {M0 : Nat → Nat → Int} (hd : 3 ≤ d) (hW : px_W0 <+: sh) (hF : px_Fx M0) (hG : px_RG sh M0)  {ρ : Nat → Int} (hR : rc M0 3 = ρ) (hρ : sp_ok ρ) {tl : sp_T} (hctl : ctlR M0 27 tl) (hrc : ∀ j, j < 5 → 0 ≤ M0 205 j ∧ M0 205 j ≤ 1000000000) (h6 : M0 3 9 = 6) (ht11 : 0 ≤ M0 0 11 ∧ M0 0 11 ≤ 400) : ∃ v M, (px_qk sh [0, 205] M0 M ∧ (v = -5) ∧ (rc M 3 = ρ) ∧ (ctlR M 27 tl) ∧ (M 0 11 = 0) ∧ (M 0 13 = -5) ∧ (M 205 = bmC (M0 205) (-5)) ∧ (fk 0 [11, 13] M0 M)) ∧ px_Cl xs L d 55 [.ref 0] (sh, M0) (some (.int (iI v))) (sh, M) := by
  obtain ⟨d, rfl⟩ : ∃ e, d = e + 1 := ⟨d - 1, by omega⟩
  have q0 : px_qk sh [0, 205] M0 M0 := ⟨hF, hG, eo_rf⟩
  refine vc_i (Nat.le_of_ble_eq_true rfl) ?_
  show px_R xs L d 55 (0, [.ref 0, px_jk, px_jk], [], (sh, M0)) (fun r h' => ∃ v M', r = some (.int (iI v)) ∧ h' = (sh, M') ∧ px_qk sh [0, 205] M0 M' ∧ v = -5 ∧ rc M' 3 = ρ ∧ ctlR M' 27 tl ∧ M' 0 11 = 0 ∧ M' 0 13 = -5 ∧ M' 205 = bmC (M0 205) (-5) ∧ fk 0 [11, 13] M0 M')
  refine rr_aload_n pf_55_0 rfl ?_
  obtain ⟨tv, M1, ⟨kq2, ptv, p11, ptf⟩, hcM1⟩ := ct_S_takeTape (xs := xs) (L := L) (d := d) (by omega) hW q0.1 q0.2.1
  have f1 : ∀ a, a ≠ 0 → M1 a = M0 a := fun a h1 => kq2.2.2 a (by simp only [List.mem_cons, List.not_mem_nil, or_false]; exact h1)
  have j205 : M1 205 = M0 205 := f1 205 (by decide)
  have j11 : M1 0 11 = 0 := p11
  have j0 : ∀ j, j ≠ 11 → M1 0 j = M0 0 j := fun j hj => ptf j (by simp only [List.mem_cons, List.not_mem_nil, or_false]; exact hj)
  have q2 := qk_trm q0 kq2 (by decide +kernel)
  refine rr_cV0 pf_55_1 po_55 pc_8_198 (ws_0 hW) po_56 (by decide) rfl hcM1 ?_
  refine rr_istore_n pf_55_4 (fun y => [.ref 0, .int (iI (y)), px_jk]) (Nat.le_of_ble_eq_true rfl) (fun _ => rfl) (fun y3 hy3 => ?_)
  refine rr_aload_n pf_55_5 rfl ?_
  refine rr_getR pf_55_6 po_55 pg_8_21 rfl (ws_0 hW) (by decide) (wr_0_1 q2.1) ?_
  refine vr_getI q2 pf_55_9 po_55 pg_8_202 rfl (ws_3 hW) (by decide) (fun x4 hx4 rx4 => ?_)
  rw [q2.2.2 3 (by decide)] at hx4
  rw [h6] at hx4
  refine rr_bipush pf_55_12 (by decide) ?_
  refine rr_icmp_lt 24 pf_55_14 (by decide) rx4 (by unfold rg; omega) (fun c5 => ?_) (fun c5 => ?_)
  · exfalso; omega
  · refine rr_aload_n pf_55_17 rfl ?_
    refine rr_bipush pf_55_18 (by decide) ?_
    obtain ⟨rv, M6, ⟨kq7, prv, pr13, pr205, prf⟩, hcM6⟩ := ct_S_refuse (xs := xs) (L := L) (d := d) (u := -5) (by omega) hW q2.1 q2.2.1 (by omega) (by rw [j205]; exact hrc)
    have q7 := qk_trm q2 kq7 (by decide +kernel)
    have hrvr : rg rv := by rw [prv]; unfold rg; omega
    refine rr_cV1 pf_55_20 po_55 pc_8_99 (ws_0 hW) po_13 (by decide) rfl hcM6 ?_
    refine rr_iret pf_55_23 pt_55 ⟨_, M6, rfl, rfl, q7, (prv), ((rc_eo q7.2.2 (by decide)).trans hR), (by exact ctl_eq hctl (fun a h1 h2 => q7.2.2 a (by simp only [List.mem_cons, List.not_mem_nil, or_false]; omega))), (by rw [prf 11 (by decide)]; exact j11), (pr13), (by rw [pr205, j205]), (by intro j hj; simp only [List.mem_cons, List.not_mem_nil, or_false, not_or] at hj; rw [prf j (by simp only [List.mem_cons, List.not_mem_nil, or_false]; exact hj.2)]; exact j0 j hj.1)⟩
theorem ct_S_lawX {xs : Nat → Int} {L d : Nat} {sh : List (Nat × Nat)} {M0 : Nat → Nat → Int} (hd : 44 ≤ d) (hW : px_W0 <+: sh) (hF : px_Fx M0) (hG : px_RG sh M0)  {ρ : Nat → Int} (hR : rc M0 3 = ρ) (hρ : sp_ok ρ) {tl : sp_T} (hctl : ctlR M0 27 tl) (hrc : ∀ j, j < 5 → 0 ≤ M0 205 j ∧ M0 205 j ≤ 1000000000) {E : rdE} (hE3 : E.tn ≤ 400) (hE1 : M0 199 = E.tb) (hE4 : ∀ j, 0 ≤ E.tb j ∧ E.tb j ≤ 255) (hod0 : E.od = 0) (h11 : M0 0 11 = ((E.tn : Nat) : Int)) {n : Nat} (hn9 : M0 3 9 = ((n : Nat) : Int)) (hn6 : n < 6) {R : cR} (hRd : R = cRead E (M0 202) (M0 203) (M0 204)) (hRf : R.1 = false) : ∃ v M, (px_qk sh [0, 200, 201, 202, 203, 204, 205] M0 M ∧ (v = -6) ∧ (rc M 3 = ρ) ∧ (ctlR M 27 tl) ∧ (M 0 11 = 0) ∧ (M 0 13 = -6) ∧ (M 205 = bmC (M0 205) (-6)) ∧ (fk 0 [11, 13] M0 M) ∧ (M 200 1 = R.2.1.flt) ∧ (M 202 = R.2.1.o ∧ M 203 = R.2.1.a)) ∧ px_Cl xs L d 55 [.ref 0] (sh, M0) (some (.int (iI v))) (sh, M) := by
  obtain ⟨d, rfl⟩ : ∃ e, d = e + 1 := ⟨d - 1, by omega⟩
  have q0 : px_qk sh [0, 200, 201, 202, 203, 204, 205] M0 M0 := ⟨hF, hG, eo_rf⟩
  refine vc_i (Nat.le_of_ble_eq_true rfl) ?_
  show px_R xs L d 55 (0, [.ref 0, px_jk, px_jk], [], (sh, M0)) (fun r h' => ∃ v M', r = some (.int (iI v)) ∧ h' = (sh, M') ∧ px_qk sh [0, 200, 201, 202, 203, 204, 205] M0 M' ∧ v = -6 ∧ rc M' 3 = ρ ∧ ctlR M' 27 tl ∧ M' 0 11 = 0 ∧ M' 0 13 = -6 ∧ M' 205 = bmC (M0 205) (-6) ∧ fk 0 [11, 13] M0 M' ∧ M' 200 1 = R.2.1.flt ∧ (M' 202 = R.2.1.o ∧ M' 203 = R.2.1.a))
  refine rr_aload_n pf_55_0 rfl ?_
  obtain ⟨tv, M1, ⟨kq2, ptv, p11, ptf⟩, hcM1⟩ := ct_S_takeTape (xs := xs) (L := L) (d := d) (by omega) hW q0.1 q0.2.1
  rw [show tv = ((E.tn : Nat) : Int) by rw [ptv]; exact h11] at hcM1
  have f1 : ∀ a, a ≠ 0 → M1 a = M0 a := fun a h1 => kq2.2.2 a (by simp only [List.mem_cons, List.not_mem_nil, or_false]; exact h1)
  have j205 : M1 205 = M0 205 := f1 205 (by decide)
  have j11 : M1 0 11 = 0 := p11
  have j0 : ∀ j, j ≠ 11 → M1 0 j = M0 0 j := fun j hj => ptf j (by simp only [List.mem_cons, List.not_mem_nil, or_false]; exact hj)
  have q2 := qk_trm q0 kq2 (by decide +kernel)
  refine rr_cV0 pf_55_1 po_55 pc_8_198 (ws_0 hW) po_56 (by decide) rfl hcM1 ?_
  refine rr_istore_n pf_55_4 (fun y => [.ref 0, .int (iI (y)), px_jk]) (Nat.le_of_ble_eq_true rfl) (fun _ => rfl) (fun y3 hy3 => ?_)
  refine rr_aload_n pf_55_5 rfl ?_
  refine rr_getR pf_55_6 po_55 pg_8_21 rfl (ws_0 hW) (by decide) (wr_0_1 q2.1) ?_
  refine vr_getI q2 pf_55_9 po_55 pg_8_202 rfl (ws_3 hW) (by decide) (fun x4 hx4 rx4 => ?_)
  rw [q2.2.2 3 (by decide)] at hx4
  rw [hn9] at hx4
  refine rr_bipush pf_55_12 (by decide) ?_
  refine rr_icmp_lt 24 pf_55_14 (by decide) rx4 (by unfold rg; omega) (fun c5 => ?_) (fun c5 => ?_)
  · refine rr_aload_n pf_55_24 rfl ?_
    refine rr_getR pf_55_25 po_55 pg_8_70 rfl (ws_0 hW) (by decide) (wr_0_9 q2.1) ?_
    refine rr_iload_n pf_55_28 rfl ?_
    refine rr_iconst pf_55_29 ?_
    obtain ⟨M6, ⟨kq7, pS, pg, pc12⟩, hcM6⟩ := ct_CS_reads (xs := xs) (L := L) (d := d) (E := E) (asd := 0) (by omega) hW q2.1 q2.2.1 hE3 ((f1 199 (by decide)).trans hE1) hE4 (Or.inl hod0) hod0.symm
    rw [f1 202 (by decide), f1 203 (by decide), f1 204 (by decide), ← hRd] at pS pg pc12 hcM6
    rw [show ((E.tn : Nat) : Int) = y3 by omega] at hcM6
    obtain ⟨yb, hyb⟩ : ∃ y, y = bI (R.1 = true) := ⟨_, rfl⟩
    rw [← hyb] at hcM6
    have hy01 : 0 ≤ yb ∧ yb ≤ 1 := by rw [hyb]; exact bI_rg _
    have hyv : yb = 0 := by rw [hyb, bI_f (by rw [hRf]; decide)]
    have i205 : M6 205 = M0 205 := (kq7.2.2 205 (by decide)).trans j205
    have i11 : M6 0 11 = 0 := by rw [kq7.2.2 0 (by decide)]; exact j11
    have i0 : ∀ j, j ≠ 11 → M6 0 j = M0 0 j := fun j hj => by rw [kq7.2.2 0 (by decide)]; exact j0 j hj
    have q7 := qk_trm q2 kq7 (by decide +kernel)
    refine rr_cV2 pf_55_30 po_55 pc_8_205 (ws_200 hW) po_57 (by decide) rfl hcM6 ?_
    refine rr_if_ne 43 pf_55_33 (by decide) (by unfold rg; omega) (fun c8 => ?_) (fun c8 => ?_)
    · exfalso; omega
    · refine rr_aload_n pf_55_36 rfl ?_
      refine rr_bipush pf_55_37 (by decide) ?_
      obtain ⟨rv, M9, ⟨kq10, prv, pr13, pr205, prf⟩, hcM9⟩ := ct_S_refuse (xs := xs) (L := L) (d := d) (u := -6) (by omega) hW q7.1 q7.2.1 (by omega) (by rw [i205]; exact hrc)
      have q10 := qk_trm q7 kq10 (by decide +kernel)
      have hrvr : rg rv := by rw [prv]; unfold rg; omega
      refine rr_cV1 pf_55_39 po_55 pc_8_99 (ws_0 hW) po_13 (by decide) rfl hcM9 ?_
      refine rr_iret pf_55_42 pt_55 ⟨_, M9, rfl, rfl, q10, (prv), ((rc_eo q10.2.2 (by decide)).trans hR), (by exact ctl_eq hctl (fun a h1 h2 => q10.2.2 a (by simp only [List.mem_cons, List.not_mem_nil, or_false]; omega))), (by rw [prf 11 (by decide)]; exact i11), (pr13), (by rw [pr205, i205]), (by intro j hj; simp only [List.mem_cons, List.not_mem_nil, or_false, not_or] at hj; rw [prf j (by simp only [List.mem_cons, List.not_mem_nil, or_false]; exact hj.2)]; exact i0 j hj.1), (by rw [kq10.2.2 200 (by decide)]; exact pS.2.2.2.2.2.2.2.2.1), (by rw [kq10.2.2 202 (by decide), kq10.2.2 203 (by decide)]; exact ⟨pS.2.2.2.2.2.1, pS.2.2.2.2.2.2.1⟩)⟩
  · exfalso; omega
