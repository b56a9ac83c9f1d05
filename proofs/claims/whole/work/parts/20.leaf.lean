theorem cs_z {sh : List (Nat × Nat)} {cb : Nat} (hW : px_W0 <+: sh) (h : px_ch cb) : sh[cb]? = some (0, 15) := cs_0 hW h
theorem ns_z {sh : List (Nat × Nat)} {nb : Nat} (hW : px_W0 <+: sh) (h : px_nv nb) : sh[nb]? = some (1, 5) := ns_0 hW h
theorem ct_S_within {xs : Nat → Int} {L d : Nat} {sh : List (Nat × Nat)} {M : Nat → Nat → Int} (hd : 1 ≤ d) {v lo hi : Int} (hv : rg v) (hlo : rg lo) (hhi : rg hi) : px_Cl xs L d 12 [.int (iI (v)), .int (iI (lo)), .int (iI (hi))] (sh, M) (some (.int (iI (bI (lo ≤ v ∧ v ≤ hi))))) (sh, M) := by
  obtain ⟨d, rfl⟩ : ∃ e, d = e + 1 := ⟨d - 1, by omega⟩
  refine px_Cl_intro (Nat.le_of_ble_eq_true rfl) ?_
  show px_R xs L d 12 (0, [.int (iI (v)), .int (iI (lo)), .int (iI (hi))], [], (sh, M)) _
  refine rr_iload_n pf_12_0 rfl ?_
  refine rr_iload_n pf_12_1 rfl ?_
  refine rr_icmp_lt 14 pf_12_2 (by decide) hv hlo (fun c1 => ?_) (fun c1 => ?_)
  · refine rr_iconst pf_12_14 ?_
    refine rr_zret pf_12_15 pt_12 (by first | exact Or.inl rfl | exact Or.inr rfl | omega) ⟨by rw [bI_f (by omega)], rfl⟩
  · refine rr_iload_n pf_12_5 rfl ?_
    refine rr_iload_n pf_12_6 rfl ?_
    refine rr_icmp_gt 14 pf_12_7 (by decide) hv hhi (fun c2 => ?_) (fun c2 => ?_)
    · refine rr_iconst pf_12_14 ?_
      refine rr_zret pf_12_15 pt_12 (by first | exact Or.inl rfl | exact Or.inr rfl | omega) ⟨by rw [bI_f (by omega)], rfl⟩
    · refine rr_iconst pf_12_10 ?_
      refine rr_goto 15 pf_12_11 (by decide) ?_
      refine rr_zret pf_12_15 pt_12 (by first | exact Or.inl rfl | exact Or.inr rfl | omega) ⟨by rw [bI_t (by omega)], rfl⟩
theorem ct_S_isPane {xs : Nat → Int} {L d : Nat} {sh : List (Nat × Nat)} {M : Nat → Nat → Int} (hd : 2 ≤ d) {v : Int} (hv : rg v) : px_Cl xs L d 31 [.int (iI (v))] (sh, M) (some (.int (iI (bI (0 ≤ v ∧ v ≤ 15))))) (sh, M) := by
  obtain ⟨d, rfl⟩ : ∃ e, d = e + 1 := ⟨d - 1, by omega⟩
  refine px_Cl_intro (Nat.le_of_ble_eq_true rfl) ?_
  show px_R xs L d 31 (0, [.int (iI (v))], [], (sh, M)) _
  refine rr_iload_n pf_31_0 rfl ?_
  refine rr_iconst pf_31_1 ?_
  refine rr_bipush pf_31_2 (by decide) ?_
  refine rr_cS3 pf_31_4 po_31 pc_8_95 (by decide) rfl (ct_S_within (by omega) hv (by simp only [rg, rl] at *; omega) (by simp only [rg, rl] at *; omega)) ?_
  refine rr_zret pf_31_7 pt_31 (by have := bI_rg (0 ≤ v ∧ v ≤ 15); omega) ⟨rfl, rfl⟩
theorem ct_S_isHue {xs : Nat → Int} {L d : Nat} {sh : List (Nat × Nat)} {M : Nat → Nat → Int} (hd : 2 ≤ d) {v : Int} (hv : rg v) : px_Cl xs L d 11 [.int (iI (v))] (sh, M) (some (.int (iI (bI (0 ≤ v ∧ v ≤ 2))))) (sh, M) := by
  obtain ⟨d, rfl⟩ : ∃ e, d = e + 1 := ⟨d - 1, by omega⟩
  refine px_Cl_intro (Nat.le_of_ble_eq_true rfl) ?_
  show px_R xs L d 11 (0, [.int (iI (v))], [], (sh, M)) _
  refine rr_iload_n pf_11_0 rfl ?_
  refine rr_iconst pf_11_1 ?_
  refine rr_iconst pf_11_2 ?_
  refine rr_cS3 pf_11_3 po_11 pc_8_95 (by decide) rfl (ct_S_within (by omega) hv (by simp only [rg, rl] at *; omega) (by simp only [rg, rl] at *; omega)) ?_
  refine rr_zret pf_11_6 pt_11 (by have := bI_rg (0 ≤ v ∧ v ≤ 2); omega) ⟨rfl, rfl⟩
theorem ct_S_isSeat {xs : Nat → Int} {L d : Nat} {sh : List (Nat × Nat)} {M : Nat → Nat → Int} (hd : 2 ≤ d) {v : Int} (hv : rg v) : px_Cl xs L d 37 [.int (iI (v))] (sh, M) (some (.int (iI (bI (0 ≤ v ∧ v ≤ 7))))) (sh, M) := by
  obtain ⟨d, rfl⟩ : ∃ e, d = e + 1 := ⟨d - 1, by omega⟩
  refine px_Cl_intro (Nat.le_of_ble_eq_true rfl) ?_
  show px_R xs L d 37 (0, [.int (iI (v))], [], (sh, M)) _
  refine rr_iload_n pf_37_0 rfl ?_
  refine rr_iconst pf_37_1 ?_
  refine rr_bipush pf_37_2 (by decide) ?_
  refine rr_cS3 pf_37_4 po_37 pc_8_95 (by decide) rfl (ct_S_within (by omega) hv (by simp only [rg, rl] at *; omega) (by simp only [rg, rl] at *; omega)) ?_
  refine rr_zret pf_37_7 pt_37 (by have := bI_rg (0 ≤ v ∧ v ≤ 7); omega) ⟨rfl, rfl⟩
theorem ct_S_isAmount {xs : Nat → Int} {L d : Nat} {sh : List (Nat × Nat)} {M : Nat → Nat → Int} (hd : 2 ≤ d) {v : Int} (hv : rg v) : px_Cl xs L d 53 [.int (iI (v))] (sh, M) (some (.int (iI (bI (0 ≤ v ∧ v ≤ 99))))) (sh, M) := by
  obtain ⟨d, rfl⟩ : ∃ e, d = e + 1 := ⟨d - 1, by omega⟩
  refine px_Cl_intro (Nat.le_of_ble_eq_true rfl) ?_
  show px_R xs L d 53 (0, [.int (iI (v))], [], (sh, M)) _
  refine rr_iload_n pf_53_0 rfl ?_
  refine rr_iconst pf_53_1 ?_
  refine rr_bipush pf_53_2 (by decide) ?_
  refine rr_cS3 pf_53_4 po_53 pc_8_95 (by decide) rfl (ct_S_within (by omega) hv (by simp only [rg, rl] at *; omega) (by simp only [rg, rl] at *; omega)) ?_
  refine rr_zret pf_53_7 pt_53 (by have := bI_rg (0 ≤ v ∧ v ≤ 99); omega) ⟨rfl, rfl⟩
theorem ct_S_nearest {xs : Nat → Int} {L d : Nat} {sh : List (Nat × Nat)} {M : Nat → Nat → Int} (hd : 1 ≤ d) {v lo hi : Int} (hv : rg v) (hlo : rg lo) (hhi : rg hi) : px_Cl xs L d 29 [.int (iI (v)), .int (iI (lo)), .int (iI (hi))] (sh, M) (some (.int (iI (max lo (min hi v))))) (sh, M) := by
  obtain ⟨d, rfl⟩ : ∃ e, d = e + 1 := ⟨d - 1, by omega⟩
  refine px_Cl_intro (Nat.le_of_ble_eq_true rfl) ?_
  show px_R xs L d 29 (0, [.int (iI (v)), .int (iI (lo)), .int (iI (hi))], [], (sh, M)) _
  refine rr_iload_n pf_29_0 rfl ?_
  refine rr_iload_n pf_29_1 rfl ?_
  refine rr_iload_n pf_29_2 rfl ?_
  refine rr_min pf_29_3 po_29 pc_8_372 rfl hhi hv ?_
  refine rr_max pf_29_6 po_29 pc_8_377 rfl hlo (by simp only [rg, rl] at *; omega) ?_
  refine rr_iret pf_29_9 pt_29 ⟨rfl, rfl⟩
theorem ct_S_distance {xs : Nat → Int} {L d : Nat} {sh : List (Nat × Nat)} {M : Nat → Nat → Int} (hd : 1 ≤ d) {p q : Int} (hp : 0 ≤ p ∧ p < 16) (hq : 0 ≤ q ∧ q < 16) : px_Cl xs L d 21 [.int (iI (p)), .int (iI (q))] (sh, M) (some (.int (iI (aw p q)))) (sh, M) := by
  obtain ⟨d, rfl⟩ : ∃ e, d = e + 1 := ⟨d - 1, by omega⟩
  refine px_Cl_intro (Nat.le_of_ble_eq_true rfl) ?_
  show px_R xs L d 21 (0, [.int (iI (p)), .int (iI (q))], [], (sh, M)) _
  refine rr_iload_n pf_21_0 rfl ?_
  refine rr_iconst pf_21_1 ?_
  refine rr_idivP pf_21_2 (by simp only [rg, rl] at *; omega) (by simp only [rg, rl] at *; omega) (by omega) (by omega) ?_
  refine rr_iload_n pf_21_3 rfl ?_
  refine rr_iconst pf_21_4 ?_
  refine rr_idivP pf_21_5 (by simp only [rg, rl] at *; omega) (by simp only [rg, rl] at *; omega) (by omega) (by omega) ?_
  refine rr_isub pf_21_6 ?_
  refine rr_abs pf_21_7 po_21 pc_8_380 rfl (by simp only [rg, rl] at *; omega) ?_
  refine rr_iload_n pf_21_10 rfl ?_
  refine rr_iconst pf_21_11 ?_
  refine rr_iremP pf_21_12 (by simp only [rg, rl] at *; omega) (by simp only [rg, rl] at *; omega) (by omega) (by omega) ?_
  refine rr_iload_n pf_21_13 rfl ?_
  refine rr_iconst pf_21_14 ?_
  refine rr_iremP pf_21_15 (by simp only [rg, rl] at *; omega) (by simp only [rg, rl] at *; omega) (by omega) (by omega) ?_
  refine rr_isub pf_21_16 ?_
  refine rr_abs pf_21_17 po_21 pc_8_380 rfl (by simp only [rg, rl] at *; omega) ?_
  refine rr_iadd pf_21_20 ?_
  refine rr_iret pf_21_21 pt_21 ⟨rfl, rfl⟩
theorem ct_S_highestTerm {xs : Nat → Int} {L d : Nat} {sh : List (Nat × Nat)} {M : Nat → Nat → Int} (hd : 1 ≤ d) {v : Int} (hv : rg v) : px_Cl xs L d 46 [.int (iI (v))] (sh, M) (some (.int (iI (if v = 0 then 999 else if v = 1 then 10 else 9)))) (sh, M) := by
  obtain ⟨d, rfl⟩ : ∃ e, d = e + 1 := ⟨d - 1, by omega⟩
  refine px_Cl_intro (Nat.le_of_ble_eq_true rfl) ?_
  show px_R xs L d 46 (0, [.int (iI (v))], [], (sh, M)) _
  refine rr_iload_n pf_46_0 rfl ?_
  refine rr_if_ne 8 pf_46_1 (by decide) hv (fun c1 => ?_) (fun c1 => ?_)
  · refine rr_iload_n pf_46_8 rfl ?_
    refine rr_iconst pf_46_9 ?_
    refine rr_icmp_ne 18 pf_46_10 (by decide) hv (by simp only [rg, rl] at *; omega) (fun c2 => ?_) (fun c2 => ?_)
    · refine rr_bipush pf_46_18 (by decide) ?_
      refine rr_iret pf_46_20 pt_46 ⟨by congr 3; split <;> (try split) <;> omega, rfl⟩
    · refine rr_bipush pf_46_13 (by decide) ?_
      refine rr_goto 20 pf_46_15 (by decide) ?_
      refine rr_iret pf_46_20 pt_46 ⟨by congr 3; split <;> (try split) <;> omega, rfl⟩
  · refine rr_sipush pf_46_4 (by decide) ?_
    refine rr_iret pf_46_7 pt_46 ⟨by congr 3; split <;> (try split) <;> omega, rfl⟩
theorem ct_Nave_hueOf {xs : Nat → Int} {L d : Nat} {sh : List (Nat × Nat)} {M : Nat → Nat → Int} (hd : 1 ≤ d) (hW : px_W0 <+: sh) (hF : px_Fx M) (hG : px_RG sh M) {nb : Nat} (hnb : px_nv nb) {p h : Int} (hp : 0 ≤ p ∧ p < 16) (hh : 0 ≤ h ∧ h < 3) : px_Cl xs L d 32 [.ref nb, .int (iI (p)), .int (iI (h))] (sh, M) (some (.int (iI (M (nb + 1) (p * 3 + h).toNat)))) (sh, M) := by
  obtain ⟨d, rfl⟩ : ∃ e, d = e + 1 := ⟨d - 1, by omega⟩
  refine px_Cl_intro (Nat.le_of_ble_eq_true rfl) ?_
  show px_R xs L d 32 (0, [.ref nb, .int (iI (p)), .int (iI (h))], [], (sh, M)) _
  refine rr_aload_n pf_32_0 rfl ?_
  refine rr_getR pf_32_1 po_32 pg_1_9 rfl (ns_z hW hnb) (by decide) (nf_0 hF hnb) ?_
  refine rr_iload_n pf_32_4 rfl ?_
  refine rr_iconst pf_32_5 ?_
  refine rr_imul pf_32_6 ?_
  refine rr_iload_n pf_32_7 rfl ?_
  refine rr_iadd pf_32_8 ?_
  refine rr_iald pf_32_9 (ns_1 hW hnb) (by omega) (by omega) (by simp only [rg, rl] at *; omega) ?_
  refine rr_iret pf_32_10 pt_32 ⟨rfl, rfl⟩
theorem ct_Nave_allHuesOf {xs : Nat → Int} {L d : Nat} {sh : List (Nat × Nat)} {M : Nat → Nat → Int} (hd : 1 ≤ d) (hW : px_W0 <+: sh) (hF : px_Fx M) (hG : px_RG sh M) {nb : Nat} (hnb : px_nv nb) {p : Int} (hp : 0 ≤ p ∧ p < 16) : px_Cl xs L d 35 [.ref nb, .int (iI (p))] (sh, M) (some (.int (iI (M (nb + 1) (p * 3).toNat + M (nb + 1) (p * 3 + 1).toNat + M (nb + 1) (p * 3 + 2).toNat)))) (sh, M) := by
  obtain ⟨d, rfl⟩ : ∃ e, d = e + 1 := ⟨d - 1, by omega⟩
  refine px_Cl_intro (Nat.le_of_ble_eq_true rfl) ?_
  show px_R xs L d 35 (0, [.ref nb, .int (iI (p)), px_jk], [], (sh, M)) _
  refine rr_iload_n pf_35_0 rfl ?_
  refine rr_iconst pf_35_1 ?_
  refine rr_imul pf_35_2 ?_
  refine rr_istore_n pf_35_3 (fun y => [.ref nb, .int (iI (p)), .int (iI (y))]) (Nat.le_of_ble_eq_true rfl) (fun _ => rfl) (fun y1 hy1 => ?_)
  refine rr_aload_n pf_35_4 rfl ?_
  refine rr_getR pf_35_5 po_35 pg_1_9 rfl (ns_z hW hnb) (by decide) (nf_0 hF hnb) ?_
  refine rr_iload_n pf_35_8 rfl ?_
  refine rr_iald pf_35_9 (ns_1 hW hnb) (by omega) (by omega) (by simp only [rg, rl] at *; omega) ?_
  refine rr_aload_n pf_35_10 rfl ?_
  refine rr_getR pf_35_11 po_35 pg_1_9 rfl (ns_z hW hnb) (by decide) (nf_0 hF hnb) ?_
  refine rr_iload_n pf_35_14 rfl ?_
  refine rr_iconst pf_35_15 ?_
  refine rr_iadd pf_35_16 ?_
  refine rr_iald pf_35_17 (ns_1 hW hnb) (by omega) (by omega) (by simp only [rg, rl] at *; omega) ?_
  refine rr_iadd pf_35_18 ?_
  refine rr_aload_n pf_35_19 rfl ?_
  refine rr_getR pf_35_20 po_35 pg_1_9 rfl (ns_z hW hnb) (by decide) (nf_0 hF hnb) ?_
  refine rr_iload_n pf_35_23 rfl ?_
  refine rr_iconst pf_35_24 ?_
  refine rr_iadd pf_35_25 ?_
  refine rr_iald pf_35_26 (ns_1 hW hnb) (by omega) (by omega) (by simp only [rg, rl] at *; omega) ?_
  refine rr_iadd pf_35_27 ?_
  refine rr_iret pf_35_28 pt_35 ⟨by subst hy1; rfl, rfl⟩
