/-! the birth, part 2 -/
theorem bC_4_79_201 {xs : Nat → Int} {L d : Nat} (hd : 1 ≤ d) : px_Cl xs L d 4 [.ref 78] (bS 79, bM 201) none (bS 82, bM 209) := by
  obtain ⟨d, rfl⟩ : ∃ e, d = e + 1 := ⟨d - 1, by omega⟩
  refine px_Cl_intro (Nat.le_of_ble_eq_true rfl) ?_
  show px_R xs L d 4 (0, [.ref 78], [], (bS 79, bM 201)) _
  exact bk_4_79_201_e (by omega) ⟨rfl, rfl⟩
theorem bk_4_83_211_e {xs : Nat → Int} {L d : Nat} {Q : Option Value → px_H → Prop} (hd : 0 ≤ d) (G : Q none (bS 86, bM 219)) : px_R xs L d 4 (0, [.ref 82], [], (bS 83, bM 211)) Q := by
  refine rr_aload_n pf_4_0 rfl ?_
  refine rr_objI pf_4_1 po_4 pc_1_3 (by decide) ?_
  refine rr_aload_n pf_4_4 rfl ?_
  refine rr_bipush pf_4_5 (by decide) ?_
  refine rr_newa 10 pf_4_7 (by simp) (by decide) (fun M2 e => ?_)
  rw [bz_l (by decide : 83 ≤ 264)] at e ⊢
  rw [e.trans (bz_c (by decide +kernel) (rfl : 211 + 1 = 212))]
  rw [bz_n (by decide +kernel) (rfl : 83 + 1 = 84)]
  refine rr_putR pf_4_9 po_4 pg_1_9 (Or.inr ⟨by decide +kernel, rfl⟩) rfl (bz_s (x := (1, 5)) (by decide +kernel)) (by decide) (fun M2 e => ?_)
  rw [e.trans (bz_u (by decide +kernel) (rfl : 212 + 1 = 213))]
  refine rr_aload_n pf_4_12 rfl ?_
  refine rr_bipush pf_4_13 (by decide) ?_
  refine rr_newa 10 pf_4_15 (by simp) (by decide) (fun M2 e => ?_)
  rw [bz_l (by decide : 84 ≤ 264)] at e ⊢
  rw [e.trans (bz_c (by decide +kernel) (rfl : 213 + 1 = 214))]
  rw [bz_n (by decide +kernel) (rfl : 84 + 1 = 85)]
  refine rr_putR pf_4_17 po_4 pg_1_15 (Or.inr ⟨by decide +kernel, rfl⟩) rfl (bz_s (x := (1, 5)) (by decide +kernel)) (by decide) (fun M2 e => ?_)
  rw [e.trans (bz_u (by decide +kernel) (rfl : 214 + 1 = 215))]
  refine rr_aload_n pf_4_20 rfl ?_
  refine rr_bipush pf_4_21 (by decide) ?_
  refine rr_newa 10 pf_4_23 (by simp) (by decide) (fun M2 e => ?_)
  rw [bz_l (by decide : 85 ≤ 264)] at e ⊢
  rw [e.trans (bz_c (by decide +kernel) (rfl : 215 + 1 = 216))]
  rw [bz_n (by decide +kernel) (rfl : 85 + 1 = 86)]
  refine rr_putR pf_4_25 po_4 pg_1_18 (Or.inr ⟨by decide +kernel, rfl⟩) rfl (bz_s (x := (1, 5)) (by decide +kernel)) (by decide) (fun M2 e => ?_)
  rw [e.trans (bz_u (by decide +kernel) (rfl : 216 + 1 = 217))]
  refine rr_aload_n pf_4_28 rfl ?_
  refine rr_iconst pf_4_29 ?_
  refine rr_putI pf_4_30 po_4 pg_1_21 (Or.inr ⟨by decide +kernel, rfl⟩) rfl (bz_s (x := (1, 5)) (by decide +kernel)) (by decide) (by unfold rg; omega) (fun M2 e => ?_)
  rw [e.trans (bz_u (by decide +kernel) (rfl : 217 + 1 = 218))]
  refine rr_aload_n pf_4_33 rfl ?_
  refine rr_iconst pf_4_34 ?_
  refine rr_putI pf_4_35 po_4 pg_1_25 (Or.inr ⟨by decide +kernel, rfl⟩) rfl (bz_s (x := (1, 5)) (by decide +kernel)) (by decide) (by unfold rg; omega) (fun M2 e => ?_)
  rw [e.trans (bz_u (by decide +kernel) (rfl : 218 + 1 = 219))]
  exact rr_vret pf_4_38 pt_4 G
theorem bC_4_83_211 {xs : Nat → Int} {L d : Nat} (hd : 1 ≤ d) : px_Cl xs L d 4 [.ref 82] (bS 83, bM 211) none (bS 86, bM 219) := by
  obtain ⟨d, rfl⟩ : ∃ e, d = e + 1 := ⟨d - 1, by omega⟩
  refine px_Cl_intro (Nat.le_of_ble_eq_true rfl) ?_
  show px_R xs L d 4 (0, [.ref 82], [], (bS 83, bM 211)) _
  exact bk_4_83_211_e (by omega) ⟨rfl, rfl⟩
theorem bk_5_28_74_5 {xs : Nat → Int} {L d : Nat} {Q : Option Value → px_H → Prop} (hd : 1 ≤ d) (G : px_R xs L d 5 (40, [.ref 27, .int (iI (14))], [.ref 27], (bS 86, bM 220)) Q) : px_R xs L d 5 (47, [.ref 27, .int (iI (11))], [.ref 74, .int (iI (11)), .ref 28], (bS 75, bM 191)) Q := by
  refine rr_dup pf_5_47 rfl ?_
  refine rr_cI0 pf_5_48 po_5 pc_7_28 (by decide) rfl (bC_4_75_191 (Nat.le_trans (by decide) hd)) ?_
  refine rr_aast pf_5_51 (bz_s (x := (14, 17)) (by decide +kernel)) (by decide) (by decide) (by unfold rg; omega) (by decide) (by decide +kernel) (fun M2 e => ?_)
  rw [e.trans (bz_u (by decide +kernel) (rfl : 199 + 1 = 200))]
  refine rr_iinc (x := 11) pf_5_52 rfl (fun y => [.ref 27, .int (iI y)]) (fun _ => rfl) (fun y ey => ?_)
  obtain rfl : y = 12 := ey
  refine rr_goto 33 pf_5_55 (by decide) ?_
  refine rr_iload_n pf_5_33 rfl ?_
  refine rr_bipush pf_5_34 (by decide) ?_
  refine rr_icmp_ge 58 pf_5_36 (by decide) (by unfold rg; omega) (by unfold rg; omega) (fun z => absurd z (by decide)) (fun _ => ?_)
  refine rr_aload_n pf_5_39 rfl ?_
  refine rr_getR (q := 28) pf_5_40 po_5 pg_7_13 rfl (bz_s (x := (7, 4)) (by decide +kernel)) (by decide) (by decide +kernel) ?_
  refine rr_iload_n pf_5_43 rfl ?_
  refine rr_new pf_5_44 po_5 pn_7_11 (by decide) rfl (fun M2 e => ?_)
  rw [bz_l (by decide : 78 ≤ 264)] at e ⊢
  rw [e.trans (bz_o (by decide +kernel) (rfl : 200 + 1 = 201))]
  rw [bz_n (by decide +kernel) (rfl : 78 + 1 = 79)]
  refine rr_dup pf_5_47 rfl ?_
  refine rr_cI0 pf_5_48 po_5 pc_7_28 (by decide) rfl (bC_4_79_201 (Nat.le_trans (by decide) hd)) ?_
  refine rr_aast pf_5_51 (bz_s (x := (14, 17)) (by decide +kernel)) (by decide) (by decide) (by unfold rg; omega) (by decide) (by decide +kernel) (fun M2 e => ?_)
  rw [e.trans (bz_u (by decide +kernel) (rfl : 209 + 1 = 210))]
  refine rr_iinc (x := 12) pf_5_52 rfl (fun y => [.ref 27, .int (iI y)]) (fun _ => rfl) (fun y ey => ?_)
  obtain rfl : y = 13 := ey
  refine rr_goto 33 pf_5_55 (by decide) ?_
  refine rr_iload_n pf_5_33 rfl ?_
  refine rr_bipush pf_5_34 (by decide) ?_
  refine rr_icmp_ge 58 pf_5_36 (by decide) (by unfold rg; omega) (by unfold rg; omega) (fun z => absurd z (by decide)) (fun _ => ?_)
  refine rr_aload_n pf_5_39 rfl ?_
  refine rr_getR (q := 28) pf_5_40 po_5 pg_7_13 rfl (bz_s (x := (7, 4)) (by decide +kernel)) (by decide) (by decide +kernel) ?_
  refine rr_iload_n pf_5_43 rfl ?_
  refine rr_new pf_5_44 po_5 pn_7_11 (by decide) rfl (fun M2 e => ?_)
  rw [bz_l (by decide : 82 ≤ 264)] at e ⊢
  rw [e.trans (bz_o (by decide +kernel) (rfl : 210 + 1 = 211))]
  rw [bz_n (by decide +kernel) (rfl : 82 + 1 = 83)]
  refine rr_dup pf_5_47 rfl ?_
  refine rr_cI0 pf_5_48 po_5 pc_7_28 (by decide) rfl (bC_4_83_211 (Nat.le_trans (by decide) hd)) ?_
  refine rr_aast pf_5_51 (bz_s (x := (14, 17)) (by decide +kernel)) (by decide) (by decide) (by unfold rg; omega) (by decide) (by decide +kernel) (fun M2 e => ?_)
  rw [e.trans (bz_u (by decide +kernel) (rfl : 219 + 1 = 220))]
  refine rr_iinc (x := 13) pf_5_52 rfl (fun y => [.ref 27, .int (iI y)]) (fun _ => rfl) (fun y ey => ?_)
  obtain rfl : y = 14 := ey
  refine rr_goto 33 pf_5_55 (by decide) ?_
  refine rr_iload_n pf_5_33 rfl ?_
  refine rr_bipush pf_5_34 (by decide) ?_
  refine rr_icmp_ge 58 pf_5_36 (by decide) (by unfold rg; omega) (by unfold rg; omega) (fun z => absurd z (by decide)) (fun _ => ?_)
  refine rr_aload_n pf_5_39 rfl ?_
  exact G
theorem bk_4_87_221_e {xs : Nat → Int} {L d : Nat} {Q : Option Value → px_H → Prop} (hd : 0 ≤ d) (G : Q none (bS 90, bM 229)) : px_R xs L d 4 (0, [.ref 86], [], (bS 87, bM 221)) Q := by
  refine rr_aload_n pf_4_0 rfl ?_
  refine rr_objI pf_4_1 po_4 pc_1_3 (by decide) ?_
  refine rr_aload_n pf_4_4 rfl ?_
  refine rr_bipush pf_4_5 (by decide) ?_
  refine rr_newa 10 pf_4_7 (by simp) (by decide) (fun M2 e => ?_)
  rw [bz_l (by decide : 87 ≤ 264)] at e ⊢
  rw [e.trans (bz_c (by decide +kernel) (rfl : 221 + 1 = 222))]
  rw [bz_n (by decide +kernel) (rfl : 87 + 1 = 88)]
  refine rr_putR pf_4_9 po_4 pg_1_9 (Or.inr ⟨by decide +kernel, rfl⟩) rfl (bz_s (x := (1, 5)) (by decide +kernel)) (by decide) (fun M2 e => ?_)
  rw [e.trans (bz_u (by decide +kernel) (rfl : 222 + 1 = 223))]
  refine rr_aload_n pf_4_12 rfl ?_
  refine rr_bipush pf_4_13 (by decide) ?_
  refine rr_newa 10 pf_4_15 (by simp) (by decide) (fun M2 e => ?_)
  rw [bz_l (by decide : 88 ≤ 264)] at e ⊢
  rw [e.trans (bz_c (by decide +kernel) (rfl : 223 + 1 = 224))]
  rw [bz_n (by decide +kernel) (rfl : 88 + 1 = 89)]
  refine rr_putR pf_4_17 po_4 pg_1_15 (Or.inr ⟨by decide +kernel, rfl⟩) rfl (bz_s (x := (1, 5)) (by decide +kernel)) (by decide) (fun M2 e => ?_)
  rw [e.trans (bz_u (by decide +kernel) (rfl : 224 + 1 = 225))]
  refine rr_aload_n pf_4_20 rfl ?_
  refine rr_bipush pf_4_21 (by decide) ?_
  refine rr_newa 10 pf_4_23 (by simp) (by decide) (fun M2 e => ?_)
  rw [bz_l (by decide : 89 ≤ 264)] at e ⊢
  rw [e.trans (bz_c (by decide +kernel) (rfl : 225 + 1 = 226))]
  rw [bz_n (by decide +kernel) (rfl : 89 + 1 = 90)]
  refine rr_putR pf_4_25 po_4 pg_1_18 (Or.inr ⟨by decide +kernel, rfl⟩) rfl (bz_s (x := (1, 5)) (by decide +kernel)) (by decide) (fun M2 e => ?_)
  rw [e.trans (bz_u (by decide +kernel) (rfl : 226 + 1 = 227))]
  refine rr_aload_n pf_4_28 rfl ?_
  refine rr_iconst pf_4_29 ?_
  refine rr_putI pf_4_30 po_4 pg_1_21 (Or.inr ⟨by decide +kernel, rfl⟩) rfl (bz_s (x := (1, 5)) (by decide +kernel)) (by decide) (by unfold rg; omega) (fun M2 e => ?_)
  rw [e.trans (bz_u (by decide +kernel) (rfl : 227 + 1 = 228))]
  refine rr_aload_n pf_4_33 rfl ?_
  refine rr_iconst pf_4_34 ?_
  refine rr_putI pf_4_35 po_4 pg_1_25 (Or.inr ⟨by decide +kernel, rfl⟩) rfl (bz_s (x := (1, 5)) (by decide +kernel)) (by decide) (by unfold rg; omega) (fun M2 e => ?_)
  rw [e.trans (bz_u (by decide +kernel) (rfl : 228 + 1 = 229))]
  exact rr_vret pf_4_38 pt_4 G
theorem bC_4_87_221 {xs : Nat → Int} {L d : Nat} (hd : 1 ≤ d) : px_Cl xs L d 4 [.ref 86] (bS 87, bM 221) none (bS 90, bM 229) := by
  obtain ⟨d, rfl⟩ : ∃ e, d = e + 1 := ⟨d - 1, by omega⟩
  refine px_Cl_intro (Nat.le_of_ble_eq_true rfl) ?_
  show px_R xs L d 4 (0, [.ref 86], [], (bS 87, bM 221)) _
  exact bk_4_87_221_e (by omega) ⟨rfl, rfl⟩
theorem bk_4_91_231_e {xs : Nat → Int} {L d : Nat} {Q : Option Value → px_H → Prop} (hd : 0 ≤ d) (G : Q none (bS 94, bM 239)) : px_R xs L d 4 (0, [.ref 90], [], (bS 91, bM 231)) Q := by
  refine rr_aload_n pf_4_0 rfl ?_
  refine rr_objI pf_4_1 po_4 pc_1_3 (by decide) ?_
  refine rr_aload_n pf_4_4 rfl ?_
  refine rr_bipush pf_4_5 (by decide) ?_
  refine rr_newa 10 pf_4_7 (by simp) (by decide) (fun M2 e => ?_)
  rw [bz_l (by decide : 91 ≤ 264)] at e ⊢
  rw [e.trans (bz_c (by decide +kernel) (rfl : 231 + 1 = 232))]
  rw [bz_n (by decide +kernel) (rfl : 91 + 1 = 92)]
  refine rr_putR pf_4_9 po_4 pg_1_9 (Or.inr ⟨by decide +kernel, rfl⟩) rfl (bz_s (x := (1, 5)) (by decide +kernel)) (by decide) (fun M2 e => ?_)
  rw [e.trans (bz_u (by decide +kernel) (rfl : 232 + 1 = 233))]
  refine rr_aload_n pf_4_12 rfl ?_
  refine rr_bipush pf_4_13 (by decide) ?_
  refine rr_newa 10 pf_4_15 (by simp) (by decide) (fun M2 e => ?_)
  rw [bz_l (by decide : 92 ≤ 264)] at e ⊢
  rw [e.trans (bz_c (by decide +kernel) (rfl : 233 + 1 = 234))]
  rw [bz_n (by decide +kernel) (rfl : 92 + 1 = 93)]
  refine rr_putR pf_4_17 po_4 pg_1_15 (Or.inr ⟨by decide +kernel, rfl⟩) rfl (bz_s (x := (1, 5)) (by decide +kernel)) (by decide) (fun M2 e => ?_)
  rw [e.trans (bz_u (by decide +kernel) (rfl : 234 + 1 = 235))]
  refine rr_aload_n pf_4_20 rfl ?_
  refine rr_bipush pf_4_21 (by decide) ?_
  refine rr_newa 10 pf_4_23 (by simp) (by decide) (fun M2 e => ?_)
  rw [bz_l (by decide : 93 ≤ 264)] at e ⊢
  rw [e.trans (bz_c (by decide +kernel) (rfl : 235 + 1 = 236))]
  rw [bz_n (by decide +kernel) (rfl : 93 + 1 = 94)]
  refine rr_putR pf_4_25 po_4 pg_1_18 (Or.inr ⟨by decide +kernel, rfl⟩) rfl (bz_s (x := (1, 5)) (by decide +kernel)) (by decide) (fun M2 e => ?_)
  rw [e.trans (bz_u (by decide +kernel) (rfl : 236 + 1 = 237))]
  refine rr_aload_n pf_4_28 rfl ?_
  refine rr_iconst pf_4_29 ?_
  refine rr_putI pf_4_30 po_4 pg_1_21 (Or.inr ⟨by decide +kernel, rfl⟩) rfl (bz_s (x := (1, 5)) (by decide +kernel)) (by decide) (by unfold rg; omega) (fun M2 e => ?_)
  rw [e.trans (bz_u (by decide +kernel) (rfl : 237 + 1 = 238))]
  refine rr_aload_n pf_4_33 rfl ?_
  refine rr_iconst pf_4_34 ?_
  refine rr_putI pf_4_35 po_4 pg_1_25 (Or.inr ⟨by decide +kernel, rfl⟩) rfl (bz_s (x := (1, 5)) (by decide +kernel)) (by decide) (by unfold rg; omega) (fun M2 e => ?_)
  rw [e.trans (bz_u (by decide +kernel) (rfl : 238 + 1 = 239))]
  exact rr_vret pf_4_38 pt_4 G
theorem bC_4_91_231 {xs : Nat → Int} {L d : Nat} (hd : 1 ≤ d) : px_Cl xs L d 4 [.ref 90] (bS 91, bM 231) none (bS 94, bM 239) := by
  obtain ⟨d, rfl⟩ : ∃ e, d = e + 1 := ⟨d - 1, by omega⟩
  refine px_Cl_intro (Nat.le_of_ble_eq_true rfl) ?_
  show px_R xs L d 4 (0, [.ref 90], [], (bS 91, bM 231)) _
  exact bk_4_91_231_e (by omega) ⟨rfl, rfl⟩
theorem bk_4_95_241_e {xs : Nat → Int} {L d : Nat} {Q : Option Value → px_H → Prop} (hd : 0 ≤ d) (G : Q none (bS 98, bM 249)) : px_R xs L d 4 (0, [.ref 94], [], (bS 95, bM 241)) Q := by
  refine rr_aload_n pf_4_0 rfl ?_
  refine rr_objI pf_4_1 po_4 pc_1_3 (by decide) ?_
  refine rr_aload_n pf_4_4 rfl ?_
  refine rr_bipush pf_4_5 (by decide) ?_
  refine rr_newa 10 pf_4_7 (by simp) (by decide) (fun M2 e => ?_)
  rw [bz_l (by decide : 95 ≤ 264)] at e ⊢
  rw [e.trans (bz_c (by decide +kernel) (rfl : 241 + 1 = 242))]
  rw [bz_n (by decide +kernel) (rfl : 95 + 1 = 96)]
  refine rr_putR pf_4_9 po_4 pg_1_9 (Or.inr ⟨by decide +kernel, rfl⟩) rfl (bz_s (x := (1, 5)) (by decide +kernel)) (by decide) (fun M2 e => ?_)
  rw [e.trans (bz_u (by decide +kernel) (rfl : 242 + 1 = 243))]
  refine rr_aload_n pf_4_12 rfl ?_
  refine rr_bipush pf_4_13 (by decide) ?_
  refine rr_newa 10 pf_4_15 (by simp) (by decide) (fun M2 e => ?_)
  rw [bz_l (by decide : 96 ≤ 264)] at e ⊢
  rw [e.trans (bz_c (by decide +kernel) (rfl : 243 + 1 = 244))]
  rw [bz_n (by decide +kernel) (rfl : 96 + 1 = 97)]
  refine rr_putR pf_4_17 po_4 pg_1_15 (Or.inr ⟨by decide +kernel, rfl⟩) rfl (bz_s (x := (1, 5)) (by decide +kernel)) (by decide) (fun M2 e => ?_)
  rw [e.trans (bz_u (by decide +kernel) (rfl : 244 + 1 = 245))]
  refine rr_aload_n pf_4_20 rfl ?_
  refine rr_bipush pf_4_21 (by decide) ?_
  refine rr_newa 10 pf_4_23 (by simp) (by decide) (fun M2 e => ?_)
  rw [bz_l (by decide : 97 ≤ 264)] at e ⊢
  rw [e.trans (bz_c (by decide +kernel) (rfl : 245 + 1 = 246))]
  rw [bz_n (by decide +kernel) (rfl : 97 + 1 = 98)]
  refine rr_putR pf_4_25 po_4 pg_1_18 (Or.inr ⟨by decide +kernel, rfl⟩) rfl (bz_s (x := (1, 5)) (by decide +kernel)) (by decide) (fun M2 e => ?_)
  rw [e.trans (bz_u (by decide +kernel) (rfl : 246 + 1 = 247))]
  refine rr_aload_n pf_4_28 rfl ?_
  refine rr_iconst pf_4_29 ?_
  refine rr_putI pf_4_30 po_4 pg_1_21 (Or.inr ⟨by decide +kernel, rfl⟩) rfl (bz_s (x := (1, 5)) (by decide +kernel)) (by decide) (by unfold rg; omega) (fun M2 e => ?_)
  rw [e.trans (bz_u (by decide +kernel) (rfl : 247 + 1 = 248))]
  refine rr_aload_n pf_4_33 rfl ?_
  refine rr_iconst pf_4_34 ?_
  refine rr_putI pf_4_35 po_4 pg_1_25 (Or.inr ⟨by decide +kernel, rfl⟩) rfl (bz_s (x := (1, 5)) (by decide +kernel)) (by decide) (by unfold rg; omega) (fun M2 e => ?_)
  rw [e.trans (bz_u (by decide +kernel) (rfl : 248 + 1 = 249))]
  exact rr_vret pf_4_38 pt_4 G
theorem bC_4_95_241 {xs : Nat → Int} {L d : Nat} (hd : 1 ≤ d) : px_Cl xs L d 4 [.ref 94] (bS 95, bM 241) none (bS 98, bM 249) := by
  obtain ⟨d, rfl⟩ : ∃ e, d = e + 1 := ⟨d - 1, by omega⟩
  refine px_Cl_intro (Nat.le_of_ble_eq_true rfl) ?_
  show px_R xs L d 4 (0, [.ref 94], [], (bS 95, bM 241)) _
  exact bk_4_95_241_e (by omega) ⟨rfl, rfl⟩
theorem bk_5_28_74_6 {xs : Nat → Int} {L d : Nat} {Q : Option Value → px_H → Prop} (hd : 1 ≤ d) (G : px_R xs L d 5 (55, [.ref 27, .int (iI (17))], [], (bS 98, bM 250)) Q) : px_R xs L d 5 (40, [.ref 27, .int (iI (14))], [.ref 27], (bS 86, bM 220)) Q := by
  refine rr_getR (q := 28) pf_5_40 po_5 pg_7_13 rfl (bz_s (x := (7, 4)) (by decide +kernel)) (by decide) (by decide +kernel) ?_
  refine rr_iload_n pf_5_43 rfl ?_
  refine rr_new pf_5_44 po_5 pn_7_11 (by decide) rfl (fun M2 e => ?_)
  rw [bz_l (by decide : 86 ≤ 264)] at e ⊢
  rw [e.trans (bz_o (by decide +kernel) (rfl : 220 + 1 = 221))]
  rw [bz_n (by decide +kernel) (rfl : 86 + 1 = 87)]
  refine rr_dup pf_5_47 rfl ?_
  refine rr_cI0 pf_5_48 po_5 pc_7_28 (by decide) rfl (bC_4_87_221 (Nat.le_trans (by decide) hd)) ?_
  refine rr_aast pf_5_51 (bz_s (x := (14, 17)) (by decide +kernel)) (by decide) (by decide) (by unfold rg; omega) (by decide) (by decide +kernel) (fun M2 e => ?_)
  rw [e.trans (bz_u (by decide +kernel) (rfl : 229 + 1 = 230))]
  refine rr_iinc (x := 14) pf_5_52 rfl (fun y => [.ref 27, .int (iI y)]) (fun _ => rfl) (fun y ey => ?_)
  obtain rfl : y = 15 := ey
  refine rr_goto 33 pf_5_55 (by decide) ?_
  refine rr_iload_n pf_5_33 rfl ?_
  refine rr_bipush pf_5_34 (by decide) ?_
  refine rr_icmp_ge 58 pf_5_36 (by decide) (by unfold rg; omega) (by unfold rg; omega) (fun z => absurd z (by decide)) (fun _ => ?_)
  refine rr_aload_n pf_5_39 rfl ?_
  refine rr_getR (q := 28) pf_5_40 po_5 pg_7_13 rfl (bz_s (x := (7, 4)) (by decide +kernel)) (by decide) (by decide +kernel) ?_
  refine rr_iload_n pf_5_43 rfl ?_
  refine rr_new pf_5_44 po_5 pn_7_11 (by decide) rfl (fun M2 e => ?_)
  rw [bz_l (by decide : 90 ≤ 264)] at e ⊢
  rw [e.trans (bz_o (by decide +kernel) (rfl : 230 + 1 = 231))]
  rw [bz_n (by decide +kernel) (rfl : 90 + 1 = 91)]
  refine rr_dup pf_5_47 rfl ?_
  refine rr_cI0 pf_5_48 po_5 pc_7_28 (by decide) rfl (bC_4_91_231 (Nat.le_trans (by decide) hd)) ?_
  refine rr_aast pf_5_51 (bz_s (x := (14, 17)) (by decide +kernel)) (by decide) (by decide) (by unfold rg; omega) (by decide) (by decide +kernel) (fun M2 e => ?_)
  rw [e.trans (bz_u (by decide +kernel) (rfl : 239 + 1 = 240))]
  refine rr_iinc (x := 15) pf_5_52 rfl (fun y => [.ref 27, .int (iI y)]) (fun _ => rfl) (fun y ey => ?_)
  obtain rfl : y = 16 := ey
  refine rr_goto 33 pf_5_55 (by decide) ?_
  refine rr_iload_n pf_5_33 rfl ?_
  refine rr_bipush pf_5_34 (by decide) ?_
  refine rr_icmp_ge 58 pf_5_36 (by decide) (by unfold rg; omega) (by unfold rg; omega) (fun z => absurd z (by decide)) (fun _ => ?_)
  refine rr_aload_n pf_5_39 rfl ?_
  refine rr_getR (q := 28) pf_5_40 po_5 pg_7_13 rfl (bz_s (x := (7, 4)) (by decide +kernel)) (by decide) (by decide +kernel) ?_
  refine rr_iload_n pf_5_43 rfl ?_
  refine rr_new pf_5_44 po_5 pn_7_11 (by decide) rfl (fun M2 e => ?_)
  rw [bz_l (by decide : 94 ≤ 264)] at e ⊢
  rw [e.trans (bz_o (by decide +kernel) (rfl : 240 + 1 = 241))]
  rw [bz_n (by decide +kernel) (rfl : 94 + 1 = 95)]
  refine rr_dup pf_5_47 rfl ?_
  refine rr_cI0 pf_5_48 po_5 pc_7_28 (by decide) rfl (bC_4_95_241 (Nat.le_trans (by decide) hd)) ?_
  refine rr_aast pf_5_51 (bz_s (x := (14, 17)) (by decide +kernel)) (by decide) (by decide) (by unfold rg; omega) (by decide) (by decide +kernel) (fun M2 e => ?_)
  rw [e.trans (bz_u (by decide +kernel) (rfl : 249 + 1 = 250))]
  refine rr_iinc (x := 16) pf_5_52 rfl (fun y => [.ref 27, .int (iI y)]) (fun _ => rfl) (fun y ey => ?_)
  obtain rfl : y = 17 := ey
  exact G
theorem bk_5_28_74_e {xs : Nat → Int} {L d : Nat} {Q : Option Value → px_H → Prop} (hd : 1 ≤ d) (G : Q none (bS 98, bM 250)) : px_R xs L d 5 (55, [.ref 27, .int (iI (17))], [], (bS 98, bM 250)) Q := by
  refine rr_goto 33 pf_5_55 (by decide) ?_
  refine rr_iload_n pf_5_33 rfl ?_
  refine rr_bipush pf_5_34 (by decide) ?_
  refine rr_icmp_ge 58 pf_5_36 (by decide) (by unfold rg; omega) (by unfold rg; omega) (fun _ => ?_) (fun z => absurd z (by decide))
  exact rr_vret pf_5_58 pt_5 G
theorem bC_5_28_74 {xs : Nat → Int} {L d : Nat} (hd : 2 ≤ d) : px_Cl xs L d 5 [.ref 27] (bS 28, bM 74) none (bS 98, bM 250) := by
  obtain ⟨d, rfl⟩ : ∃ e, d = e + 1 := ⟨d - 1, by omega⟩
  refine px_Cl_intro (Nat.le_of_ble_eq_true rfl) ?_
  show px_R xs L d 5 (0, [.ref 27, px_jk], [], (bS 28, bM 74)) _
  refine bk_5_28_74_0 (by omega) ?_
  refine bk_5_28_74_1 (by omega) ?_
  refine bk_5_28_74_2 (by omega) ?_
  refine bk_5_28_74_3 (by omega) ?_
  refine bk_5_28_74_4 (by omega) ?_
  refine bk_5_28_74_5 (by omega) ?_
  refine bk_5_28_74_6 (by omega) ?_
  exact bk_5_28_74_e (by omega) ⟨rfl, rfl⟩
theorem bk_4_100_254_e {xs : Nat → Int} {L d : Nat} {Q : Option Value → px_H → Prop} (hd : 0 ≤ d) (G : Q none (bS 103, bM 262)) : px_R xs L d 4 (0, [.ref 99], [], (bS 100, bM 254)) Q := by
  refine rr_aload_n pf_4_0 rfl ?_
  refine rr_objI pf_4_1 po_4 pc_1_3 (by decide) ?_
  refine rr_aload_n pf_4_4 rfl ?_
  refine rr_bipush pf_4_5 (by decide) ?_
  refine rr_newa 10 pf_4_7 (by simp) (by decide) (fun M2 e => ?_)
  rw [bz_l (by decide : 100 ≤ 264)] at e ⊢
  rw [e.trans (bz_c (by decide +kernel) (rfl : 254 + 1 = 255))]
  rw [bz_n (by decide +kernel) (rfl : 100 + 1 = 101)]
  refine rr_putR pf_4_9 po_4 pg_1_9 (Or.inr ⟨by decide +kernel, rfl⟩) rfl (bz_s (x := (1, 5)) (by decide +kernel)) (by decide) (fun M2 e => ?_)
  rw [e.trans (bz_u (by decide +kernel) (rfl : 255 + 1 = 256))]
  refine rr_aload_n pf_4_12 rfl ?_
  refine rr_bipush pf_4_13 (by decide) ?_
  refine rr_newa 10 pf_4_15 (by simp) (by decide) (fun M2 e => ?_)
  rw [bz_l (by decide : 101 ≤ 264)] at e ⊢
  rw [e.trans (bz_c (by decide +kernel) (rfl : 256 + 1 = 257))]
  rw [bz_n (by decide +kernel) (rfl : 101 + 1 = 102)]
  refine rr_putR pf_4_17 po_4 pg_1_15 (Or.inr ⟨by decide +kernel, rfl⟩) rfl (bz_s (x := (1, 5)) (by decide +kernel)) (by decide) (fun M2 e => ?_)
  rw [e.trans (bz_u (by decide +kernel) (rfl : 257 + 1 = 258))]
  refine rr_aload_n pf_4_20 rfl ?_
  refine rr_bipush pf_4_21 (by decide) ?_
  refine rr_newa 10 pf_4_23 (by simp) (by decide) (fun M2 e => ?_)
  rw [bz_l (by decide : 102 ≤ 264)] at e ⊢
  rw [e.trans (bz_c (by decide +kernel) (rfl : 258 + 1 = 259))]
  rw [bz_n (by decide +kernel) (rfl : 102 + 1 = 103)]
  refine rr_putR pf_4_25 po_4 pg_1_18 (Or.inr ⟨by decide +kernel, rfl⟩) rfl (bz_s (x := (1, 5)) (by decide +kernel)) (by decide) (fun M2 e => ?_)
  rw [e.trans (bz_u (by decide +kernel) (rfl : 259 + 1 = 260))]
  refine rr_aload_n pf_4_28 rfl ?_
  refine rr_iconst pf_4_29 ?_
  refine rr_putI pf_4_30 po_4 pg_1_21 (Or.inr ⟨by decide +kernel, rfl⟩) rfl (bz_s (x := (1, 5)) (by decide +kernel)) (by decide) (by unfold rg; omega) (fun M2 e => ?_)
  rw [e.trans (bz_u (by decide +kernel) (rfl : 260 + 1 = 261))]
  refine rr_aload_n pf_4_33 rfl ?_
  refine rr_iconst pf_4_34 ?_
  refine rr_putI pf_4_35 po_4 pg_1_25 (Or.inr ⟨by decide +kernel, rfl⟩) rfl (bz_s (x := (1, 5)) (by decide +kernel)) (by decide) (by unfold rg; omega) (fun M2 e => ?_)
  rw [e.trans (bz_u (by decide +kernel) (rfl : 261 + 1 = 262))]
  exact rr_vret pf_4_38 pt_4 G
theorem bC_4_100_254 {xs : Nat → Int} {L d : Nat} (hd : 1 ≤ d) : px_Cl xs L d 4 [.ref 99] (bS 100, bM 254) none (bS 103, bM 262) := by
  obtain ⟨d, rfl⟩ : ∃ e, d = e + 1 := ⟨d - 1, by omega⟩
  refine px_Cl_intro (Nat.le_of_ble_eq_true rfl) ?_
  show px_R xs L d 4 (0, [.ref 99], [], (bS 100, bM 254)) _
  exact bk_4_100_254_e (by omega) ⟨rfl, rfl⟩
theorem bk_4_107_271_e {xs : Nat → Int} {L d : Nat} {Q : Option Value → px_H → Prop} (hd : 0 ≤ d) (G : Q none (bS 110, bM 279)) : px_R xs L d 4 (0, [.ref 106], [], (bS 107, bM 271)) Q := by
  refine rr_aload_n pf_4_0 rfl ?_
  refine rr_objI pf_4_1 po_4 pc_1_3 (by decide) ?_
  refine rr_aload_n pf_4_4 rfl ?_
  refine rr_bipush pf_4_5 (by decide) ?_
  refine rr_newa 10 pf_4_7 (by simp) (by decide) (fun M2 e => ?_)
  rw [bz_l (by decide : 107 ≤ 264)] at e ⊢
  rw [e.trans (bz_c (by decide +kernel) (rfl : 271 + 1 = 272))]
  rw [bz_n (by decide +kernel) (rfl : 107 + 1 = 108)]
  refine rr_putR pf_4_9 po_4 pg_1_9 (Or.inr ⟨by decide +kernel, rfl⟩) rfl (bz_s (x := (1, 5)) (by decide +kernel)) (by decide) (fun M2 e => ?_)
  rw [e.trans (bz_u (by decide +kernel) (rfl : 272 + 1 = 273))]
  refine rr_aload_n pf_4_12 rfl ?_
  refine rr_bipush pf_4_13 (by decide) ?_
  refine rr_newa 10 pf_4_15 (by simp) (by decide) (fun M2 e => ?_)
  rw [bz_l (by decide : 108 ≤ 264)] at e ⊢
  rw [e.trans (bz_c (by decide +kernel) (rfl : 273 + 1 = 274))]
  rw [bz_n (by decide +kernel) (rfl : 108 + 1 = 109)]
  refine rr_putR pf_4_17 po_4 pg_1_15 (Or.inr ⟨by decide +kernel, rfl⟩) rfl (bz_s (x := (1, 5)) (by decide +kernel)) (by decide) (fun M2 e => ?_)
  rw [e.trans (bz_u (by decide +kernel) (rfl : 274 + 1 = 275))]
  refine rr_aload_n pf_4_20 rfl ?_
  refine rr_bipush pf_4_21 (by decide) ?_
  refine rr_newa 10 pf_4_23 (by simp) (by decide) (fun M2 e => ?_)
  rw [bz_l (by decide : 109 ≤ 264)] at e ⊢
  rw [e.trans (bz_c (by decide +kernel) (rfl : 275 + 1 = 276))]
  rw [bz_n (by decide +kernel) (rfl : 109 + 1 = 110)]
  refine rr_putR pf_4_25 po_4 pg_1_18 (Or.inr ⟨by decide +kernel, rfl⟩) rfl (bz_s (x := (1, 5)) (by decide +kernel)) (by decide) (fun M2 e => ?_)
  rw [e.trans (bz_u (by decide +kernel) (rfl : 276 + 1 = 277))]
  refine rr_aload_n pf_4_28 rfl ?_
  refine rr_iconst pf_4_29 ?_
  refine rr_putI pf_4_30 po_4 pg_1_21 (Or.inr ⟨by decide +kernel, rfl⟩) rfl (bz_s (x := (1, 5)) (by decide +kernel)) (by decide) (by unfold rg; omega) (fun M2 e => ?_)
  rw [e.trans (bz_u (by decide +kernel) (rfl : 277 + 1 = 278))]
  refine rr_aload_n pf_4_33 rfl ?_
  refine rr_iconst pf_4_34 ?_
  refine rr_putI pf_4_35 po_4 pg_1_25 (Or.inr ⟨by decide +kernel, rfl⟩) rfl (bz_s (x := (1, 5)) (by decide +kernel)) (by decide) (by unfold rg; omega) (fun M2 e => ?_)
  rw [e.trans (bz_u (by decide +kernel) (rfl : 278 + 1 = 279))]
  exact rr_vret pf_4_38 pt_4 G
theorem bC_4_107_271 {xs : Nat → Int} {L d : Nat} (hd : 1 ≤ d) : px_Cl xs L d 4 [.ref 106] (bS 107, bM 271) none (bS 110, bM 279) := by
  obtain ⟨d, rfl⟩ : ∃ e, d = e + 1 := ⟨d - 1, by omega⟩
  refine px_Cl_intro (Nat.le_of_ble_eq_true rfl) ?_
  show px_R xs L d 4 (0, [.ref 106], [], (bS 107, bM 271)) _
  exact bk_4_107_271_e (by omega) ⟨rfl, rfl⟩
theorem bk_5_104_264_0 {xs : Nat → Int} {L d : Nat} {Q : Option Value → px_H → Prop} (hd : 1 ≤ d) (G : px_R xs L d 5 (55, [.ref 103, .int (iI (1))], [], (bS 110, bM 280)) Q) : px_R xs L d 5 (0, [.ref 103, px_jk], [], (bS 104, bM 264)) Q := by
  refine rr_aload_n pf_5_0 rfl ?_
  refine rr_objI pf_5_1 po_5 pc_7_3 (by decide) ?_
  refine rr_aload_n pf_5_4 rfl ?_
  refine rr_bipush pf_5_5 (by decide) ?_
  refine rr_anewa 14 pf_5_7 po_5 pn_7_11 (by simp) (by decide) (fun M2 e => ?_)
  rw [bz_l (by decide : 104 ≤ 264)] at e ⊢
  rw [e.trans (bz_c (by decide +kernel) (rfl : 264 + 1 = 265))]
  rw [bz_n (by decide +kernel) (rfl : 104 + 1 = 105)]
  refine rr_putR pf_5_10 po_5 pg_7_13 (Or.inr ⟨by decide +kernel, rfl⟩) rfl (bz_s (x := (7, 4)) (by decide +kernel)) (by decide) (fun M2 e => ?_)
  rw [e.trans (bz_u (by decide +kernel) (rfl : 265 + 1 = 266))]
  refine rr_aload_n pf_5_13 rfl ?_
  refine rr_bipush pf_5_14 (by decide) ?_
  refine rr_newa 10 pf_5_16 (by simp) (by decide) (fun M2 e => ?_)
  rw [bz_l (by decide : 105 ≤ 264)] at e ⊢
  rw [e.trans (bz_c (by decide +kernel) (rfl : 266 + 1 = 267))]
  rw [bz_n (by decide +kernel) (rfl : 105 + 1 = 106)]
  refine rr_putR pf_5_18 po_5 pg_7_17 (Or.inr ⟨by decide +kernel, rfl⟩) rfl (bz_s (x := (7, 4)) (by decide +kernel)) (by decide) (fun M2 e => ?_)
  rw [e.trans (bz_u (by decide +kernel) (rfl : 267 + 1 = 268))]
  refine rr_aload_n pf_5_21 rfl ?_
  refine rr_iconst pf_5_22 ?_
  refine rr_putI pf_5_23 po_5 pg_7_21 (Or.inr ⟨by decide +kernel, rfl⟩) rfl (bz_s (x := (7, 4)) (by decide +kernel)) (by decide) (by unfold rg; omega) (fun M2 e => ?_)
  rw [e.trans (bz_u (by decide +kernel) (rfl : 268 + 1 = 269))]
  refine rr_aload_n pf_5_26 rfl ?_
  refine rr_iconst pf_5_27 ?_
  refine rr_putI pf_5_28 po_5 pg_7_25 (Or.inr ⟨by decide +kernel, rfl⟩) rfl (bz_s (x := (7, 4)) (by decide +kernel)) (by decide) (by unfold rg; omega) (fun M2 e => ?_)
  rw [e.trans (bz_u (by decide +kernel) (rfl : 269 + 1 = 270))]
  refine rr_iconst pf_5_31 ?_
  refine rr_istore_n pf_5_32 (fun y => [.ref 103, .int (iI y)]) (by decide) (fun _ => rfl) (fun y ey => ?_)
  subst ey
  refine rr_iload_n pf_5_33 rfl ?_
  refine rr_bipush pf_5_34 (by decide) ?_
  refine rr_icmp_ge 58 pf_5_36 (by decide) (by unfold rg; omega) (by unfold rg; omega) (fun z => absurd z (by decide)) (fun _ => ?_)
  refine rr_aload_n pf_5_39 rfl ?_
  refine rr_getR (q := 104) pf_5_40 po_5 pg_7_13 rfl (bz_s (x := (7, 4)) (by decide +kernel)) (by decide) (by decide +kernel) ?_
  refine rr_iload_n pf_5_43 rfl ?_
  refine rr_new pf_5_44 po_5 pn_7_11 (by decide) rfl (fun M2 e => ?_)
  rw [bz_l (by decide : 106 ≤ 264)] at e ⊢
  rw [e.trans (bz_o (by decide +kernel) (rfl : 270 + 1 = 271))]
  rw [bz_n (by decide +kernel) (rfl : 106 + 1 = 107)]
  refine rr_dup pf_5_47 rfl ?_
  refine rr_cI0 pf_5_48 po_5 pc_7_28 (by decide) rfl (bC_4_107_271 (Nat.le_trans (by decide) hd)) ?_
  refine rr_aast pf_5_51 (bz_s (x := (14, 17)) (by decide +kernel)) (by decide) (by decide) (by unfold rg; omega) (by decide) (by decide +kernel) (fun M2 e => ?_)
  rw [e.trans (bz_u (by decide +kernel) (rfl : 279 + 1 = 280))]
  refine rr_iinc (x := 0) pf_5_52 rfl (fun y => [.ref 103, .int (iI y)]) (fun _ => rfl) (fun y ey => ?_)
  obtain rfl : y = 1 := ey
  exact G
theorem bk_4_111_281_e {xs : Nat → Int} {L d : Nat} {Q : Option Value → px_H → Prop} (hd : 0 ≤ d) (G : Q none (bS 114, bM 289)) : px_R xs L d 4 (0, [.ref 110], [], (bS 111, bM 281)) Q := by
  refine rr_aload_n pf_4_0 rfl ?_
  refine rr_objI pf_4_1 po_4 pc_1_3 (by decide) ?_
  refine rr_aload_n pf_4_4 rfl ?_
  refine rr_bipush pf_4_5 (by decide) ?_
  refine rr_newa 10 pf_4_7 (by simp) (by decide) (fun M2 e => ?_)
  rw [bz_l (by decide : 111 ≤ 264)] at e ⊢
  rw [e.trans (bz_c (by decide +kernel) (rfl : 281 + 1 = 282))]
  rw [bz_n (by decide +kernel) (rfl : 111 + 1 = 112)]
  refine rr_putR pf_4_9 po_4 pg_1_9 (Or.inr ⟨by decide +kernel, rfl⟩) rfl (bz_s (x := (1, 5)) (by decide +kernel)) (by decide) (fun M2 e => ?_)
  rw [e.trans (bz_u (by decide +kernel) (rfl : 282 + 1 = 283))]
  refine rr_aload_n pf_4_12 rfl ?_
  refine rr_bipush pf_4_13 (by decide) ?_
  refine rr_newa 10 pf_4_15 (by simp) (by decide) (fun M2 e => ?_)
  rw [bz_l (by decide : 112 ≤ 264)] at e ⊢
  rw [e.trans (bz_c (by decide +kernel) (rfl : 283 + 1 = 284))]
  rw [bz_n (by decide +kernel) (rfl : 112 + 1 = 113)]
  refine rr_putR pf_4_17 po_4 pg_1_15 (Or.inr ⟨by decide +kernel, rfl⟩) rfl (bz_s (x := (1, 5)) (by decide +kernel)) (by decide) (fun M2 e => ?_)
  rw [e.trans (bz_u (by decide +kernel) (rfl : 284 + 1 = 285))]
  refine rr_aload_n pf_4_20 rfl ?_
  refine rr_bipush pf_4_21 (by decide) ?_
  refine rr_newa 10 pf_4_23 (by simp) (by decide) (fun M2 e => ?_)
  rw [bz_l (by decide : 113 ≤ 264)] at e ⊢
  rw [e.trans (bz_c (by decide +kernel) (rfl : 285 + 1 = 286))]
  rw [bz_n (by decide +kernel) (rfl : 113 + 1 = 114)]
  refine rr_putR pf_4_25 po_4 pg_1_18 (Or.inr ⟨by decide +kernel, rfl⟩) rfl (bz_s (x := (1, 5)) (by decide +kernel)) (by decide) (fun M2 e => ?_)
  rw [e.trans (bz_u (by decide +kernel) (rfl : 286 + 1 = 287))]
  refine rr_aload_n pf_4_28 rfl ?_
  refine rr_iconst pf_4_29 ?_
  refine rr_putI pf_4_30 po_4 pg_1_21 (Or.inr ⟨by decide +kernel, rfl⟩) rfl (bz_s (x := (1, 5)) (by decide +kernel)) (by decide) (by unfold rg; omega) (fun M2 e => ?_)
  rw [e.trans (bz_u (by decide +kernel) (rfl : 287 + 1 = 288))]
  refine rr_aload_n pf_4_33 rfl ?_
  refine rr_iconst pf_4_34 ?_
  refine rr_putI pf_4_35 po_4 pg_1_25 (Or.inr ⟨by decide +kernel, rfl⟩) rfl (bz_s (x := (1, 5)) (by decide +kernel)) (by decide) (by unfold rg; omega) (fun M2 e => ?_)
  rw [e.trans (bz_u (by decide +kernel) (rfl : 288 + 1 = 289))]
  exact rr_vret pf_4_38 pt_4 G
theorem bC_4_111_281 {xs : Nat → Int} {L d : Nat} (hd : 1 ≤ d) : px_Cl xs L d 4 [.ref 110] (bS 111, bM 281) none (bS 114, bM 289) := by
  obtain ⟨d, rfl⟩ : ∃ e, d = e + 1 := ⟨d - 1, by omega⟩
  refine px_Cl_intro (Nat.le_of_ble_eq_true rfl) ?_
  show px_R xs L d 4 (0, [.ref 110], [], (bS 111, bM 281)) _
  exact bk_4_111_281_e (by omega) ⟨rfl, rfl⟩
theorem bk_4_115_291_e {xs : Nat → Int} {L d : Nat} {Q : Option Value → px_H → Prop} (hd : 0 ≤ d) (G : Q none (bS 118, bM 299)) : px_R xs L d 4 (0, [.ref 114], [], (bS 115, bM 291)) Q := by
  refine rr_aload_n pf_4_0 rfl ?_
  refine rr_objI pf_4_1 po_4 pc_1_3 (by decide) ?_
  refine rr_aload_n pf_4_4 rfl ?_
  refine rr_bipush pf_4_5 (by decide) ?_
  refine rr_newa 10 pf_4_7 (by simp) (by decide) (fun M2 e => ?_)
  rw [bz_l (by decide : 115 ≤ 264)] at e ⊢
  rw [e.trans (bz_c (by decide +kernel) (rfl : 291 + 1 = 292))]
  rw [bz_n (by decide +kernel) (rfl : 115 + 1 = 116)]
  refine rr_putR pf_4_9 po_4 pg_1_9 (Or.inr ⟨by decide +kernel, rfl⟩) rfl (bz_s (x := (1, 5)) (by decide +kernel)) (by decide) (fun M2 e => ?_)
  rw [e.trans (bz_u (by decide +kernel) (rfl : 292 + 1 = 293))]
  refine rr_aload_n pf_4_12 rfl ?_
  refine rr_bipush pf_4_13 (by decide) ?_
  refine rr_newa 10 pf_4_15 (by simp) (by decide) (fun M2 e => ?_)
  rw [bz_l (by decide : 116 ≤ 264)] at e ⊢
  rw [e.trans (bz_c (by decide +kernel) (rfl : 293 + 1 = 294))]
  rw [bz_n (by decide +kernel) (rfl : 116 + 1 = 117)]
  refine rr_putR pf_4_17 po_4 pg_1_15 (Or.inr ⟨by decide +kernel, rfl⟩) rfl (bz_s (x := (1, 5)) (by decide +kernel)) (by decide) (fun M2 e => ?_)
  rw [e.trans (bz_u (by decide +kernel) (rfl : 294 + 1 = 295))]
  refine rr_aload_n pf_4_20 rfl ?_
  refine rr_bipush pf_4_21 (by decide) ?_
  refine rr_newa 10 pf_4_23 (by simp) (by decide) (fun M2 e => ?_)
  rw [bz_l (by decide : 117 ≤ 264)] at e ⊢
  rw [e.trans (bz_c (by decide +kernel) (rfl : 295 + 1 = 296))]
  rw [bz_n (by decide +kernel) (rfl : 117 + 1 = 118)]
  refine rr_putR pf_4_25 po_4 pg_1_18 (Or.inr ⟨by decide +kernel, rfl⟩) rfl (bz_s (x := (1, 5)) (by decide +kernel)) (by decide) (fun M2 e => ?_)
  rw [e.trans (bz_u (by decide +kernel) (rfl : 296 + 1 = 297))]
  refine rr_aload_n pf_4_28 rfl ?_
  refine rr_iconst pf_4_29 ?_
  refine rr_putI pf_4_30 po_4 pg_1_21 (Or.inr ⟨by decide +kernel, rfl⟩) rfl (bz_s (x := (1, 5)) (by decide +kernel)) (by decide) (by unfold rg; omega) (fun M2 e => ?_)
  rw [e.trans (bz_u (by decide +kernel) (rfl : 297 + 1 = 298))]
  refine rr_aload_n pf_4_33 rfl ?_
  refine rr_iconst pf_4_34 ?_
  refine rr_putI pf_4_35 po_4 pg_1_25 (Or.inr ⟨by decide +kernel, rfl⟩) rfl (bz_s (x := (1, 5)) (by decide +kernel)) (by decide) (by unfold rg; omega) (fun M2 e => ?_)
  rw [e.trans (bz_u (by decide +kernel) (rfl : 298 + 1 = 299))]
  exact rr_vret pf_4_38 pt_4 G
theorem bC_4_115_291 {xs : Nat → Int} {L d : Nat} (hd : 1 ≤ d) : px_Cl xs L d 4 [.ref 114] (bS 115, bM 291) none (bS 118, bM 299) := by
  obtain ⟨d, rfl⟩ : ∃ e, d = e + 1 := ⟨d - 1, by omega⟩
  refine px_Cl_intro (Nat.le_of_ble_eq_true rfl) ?_
  show px_R xs L d 4 (0, [.ref 114], [], (bS 115, bM 291)) _
  exact bk_4_115_291_e (by omega) ⟨rfl, rfl⟩
theorem bk_5_104_264_1 {xs : Nat → Int} {L d : Nat} {Q : Option Value → px_H → Prop} (hd : 1 ≤ d) (G : px_R xs L d 5 (47, [.ref 103, .int (iI (3))], [.ref 118, .int (iI (3)), .ref 104], (bS 119, bM 301)) Q) : px_R xs L d 5 (55, [.ref 103, .int (iI (1))], [], (bS 110, bM 280)) Q := by
  refine rr_goto 33 pf_5_55 (by decide) ?_
  refine rr_iload_n pf_5_33 rfl ?_
  refine rr_bipush pf_5_34 (by decide) ?_
  refine rr_icmp_ge 58 pf_5_36 (by decide) (by unfold rg; omega) (by unfold rg; omega) (fun z => absurd z (by decide)) (fun _ => ?_)
  refine rr_aload_n pf_5_39 rfl ?_
  refine rr_getR (q := 104) pf_5_40 po_5 pg_7_13 rfl (bz_s (x := (7, 4)) (by decide +kernel)) (by decide) (by decide +kernel) ?_
  refine rr_iload_n pf_5_43 rfl ?_
  refine rr_new pf_5_44 po_5 pn_7_11 (by decide) rfl (fun M2 e => ?_)
  rw [bz_l (by decide : 110 ≤ 264)] at e ⊢
  rw [e.trans (bz_o (by decide +kernel) (rfl : 280 + 1 = 281))]
  rw [bz_n (by decide +kernel) (rfl : 110 + 1 = 111)]
  refine rr_dup pf_5_47 rfl ?_
  refine rr_cI0 pf_5_48 po_5 pc_7_28 (by decide) rfl (bC_4_111_281 (Nat.le_trans (by decide) hd)) ?_
  refine rr_aast pf_5_51 (bz_s (x := (14, 17)) (by decide +kernel)) (by decide) (by decide) (by unfold rg; omega) (by decide) (by decide +kernel) (fun M2 e => ?_)
  rw [e.trans (bz_u (by decide +kernel) (rfl : 289 + 1 = 290))]
  refine rr_iinc (x := 1) pf_5_52 rfl (fun y => [.ref 103, .int (iI y)]) (fun _ => rfl) (fun y ey => ?_)
  obtain rfl : y = 2 := ey
  refine rr_goto 33 pf_5_55 (by decide) ?_
  refine rr_iload_n pf_5_33 rfl ?_
  refine rr_bipush pf_5_34 (by decide) ?_
  refine rr_icmp_ge 58 pf_5_36 (by decide) (by unfold rg; omega) (by unfold rg; omega) (fun z => absurd z (by decide)) (fun _ => ?_)
  refine rr_aload_n pf_5_39 rfl ?_
  refine rr_getR (q := 104) pf_5_40 po_5 pg_7_13 rfl (bz_s (x := (7, 4)) (by decide +kernel)) (by decide) (by decide +kernel) ?_
  refine rr_iload_n pf_5_43 rfl ?_
  refine rr_new pf_5_44 po_5 pn_7_11 (by decide) rfl (fun M2 e => ?_)
  rw [bz_l (by decide : 114 ≤ 264)] at e ⊢
  rw [e.trans (bz_o (by decide +kernel) (rfl : 290 + 1 = 291))]
  rw [bz_n (by decide +kernel) (rfl : 114 + 1 = 115)]
  refine rr_dup pf_5_47 rfl ?_
  refine rr_cI0 pf_5_48 po_5 pc_7_28 (by decide) rfl (bC_4_115_291 (Nat.le_trans (by decide) hd)) ?_
  refine rr_aast pf_5_51 (bz_s (x := (14, 17)) (by decide +kernel)) (by decide) (by decide) (by unfold rg; omega) (by decide) (by decide +kernel) (fun M2 e => ?_)
  rw [e.trans (bz_u (by decide +kernel) (rfl : 299 + 1 = 300))]
  refine rr_iinc (x := 2) pf_5_52 rfl (fun y => [.ref 103, .int (iI y)]) (fun _ => rfl) (fun y ey => ?_)
  obtain rfl : y = 3 := ey
  refine rr_goto 33 pf_5_55 (by decide) ?_
  refine rr_iload_n pf_5_33 rfl ?_
  refine rr_bipush pf_5_34 (by decide) ?_
  refine rr_icmp_ge 58 pf_5_36 (by decide) (by unfold rg; omega) (by unfold rg; omega) (fun z => absurd z (by decide)) (fun _ => ?_)
  refine rr_aload_n pf_5_39 rfl ?_
  refine rr_getR (q := 104) pf_5_40 po_5 pg_7_13 rfl (bz_s (x := (7, 4)) (by decide +kernel)) (by decide) (by decide +kernel) ?_
  refine rr_iload_n pf_5_43 rfl ?_
  refine rr_new pf_5_44 po_5 pn_7_11 (by decide) rfl (fun M2 e => ?_)
  rw [bz_l (by decide : 118 ≤ 264)] at e ⊢
  rw [e.trans (bz_o (by decide +kernel) (rfl : 300 + 1 = 301))]
  rw [bz_n (by decide +kernel) (rfl : 118 + 1 = 119)]
  exact G
theorem bk_4_119_301_e {xs : Nat → Int} {L d : Nat} {Q : Option Value → px_H → Prop} (hd : 0 ≤ d) (G : Q none (bS 122, bM 309)) : px_R xs L d 4 (0, [.ref 118], [], (bS 119, bM 301)) Q := by
  refine rr_aload_n pf_4_0 rfl ?_
  refine rr_objI pf_4_1 po_4 pc_1_3 (by decide) ?_
  refine rr_aload_n pf_4_4 rfl ?_
  refine rr_bipush pf_4_5 (by decide) ?_
  refine rr_newa 10 pf_4_7 (by simp) (by decide) (fun M2 e => ?_)
  rw [bz_l (by decide : 119 ≤ 264)] at e ⊢
  rw [e.trans (bz_c (by decide +kernel) (rfl : 301 + 1 = 302))]
  rw [bz_n (by decide +kernel) (rfl : 119 + 1 = 120)]
  refine rr_putR pf_4_9 po_4 pg_1_9 (Or.inr ⟨by decide +kernel, rfl⟩) rfl (bz_s (x := (1, 5)) (by decide +kernel)) (by decide) (fun M2 e => ?_)
  rw [e.trans (bz_u (by decide +kernel) (rfl : 302 + 1 = 303))]
  refine rr_aload_n pf_4_12 rfl ?_
  refine rr_bipush pf_4_13 (by decide) ?_
  refine rr_newa 10 pf_4_15 (by simp) (by decide) (fun M2 e => ?_)
  rw [bz_l (by decide : 120 ≤ 264)] at e ⊢
  rw [e.trans (bz_c (by decide +kernel) (rfl : 303 + 1 = 304))]
  rw [bz_n (by decide +kernel) (rfl : 120 + 1 = 121)]
  refine rr_putR pf_4_17 po_4 pg_1_15 (Or.inr ⟨by decide +kernel, rfl⟩) rfl (bz_s (x := (1, 5)) (by decide +kernel)) (by decide) (fun M2 e => ?_)
  rw [e.trans (bz_u (by decide +kernel) (rfl : 304 + 1 = 305))]
  refine rr_aload_n pf_4_20 rfl ?_
  refine rr_bipush pf_4_21 (by decide) ?_
  refine rr_newa 10 pf_4_23 (by simp) (by decide) (fun M2 e => ?_)
  rw [bz_l (by decide : 121 ≤ 264)] at e ⊢
  rw [e.trans (bz_c (by decide +kernel) (rfl : 305 + 1 = 306))]
  rw [bz_n (by decide +kernel) (rfl : 121 + 1 = 122)]
  refine rr_putR pf_4_25 po_4 pg_1_18 (Or.inr ⟨by decide +kernel, rfl⟩) rfl (bz_s (x := (1, 5)) (by decide +kernel)) (by decide) (fun M2 e => ?_)
  rw [e.trans (bz_u (by decide +kernel) (rfl : 306 + 1 = 307))]
  refine rr_aload_n pf_4_28 rfl ?_
  refine rr_iconst pf_4_29 ?_
  refine rr_putI pf_4_30 po_4 pg_1_21 (Or.inr ⟨by decide +kernel, rfl⟩) rfl (bz_s (x := (1, 5)) (by decide +kernel)) (by decide) (by unfold rg; omega) (fun M2 e => ?_)
  rw [e.trans (bz_u (by decide +kernel) (rfl : 307 + 1 = 308))]
  refine rr_aload_n pf_4_33 rfl ?_
  refine rr_iconst pf_4_34 ?_
  refine rr_putI pf_4_35 po_4 pg_1_25 (Or.inr ⟨by decide +kernel, rfl⟩) rfl (bz_s (x := (1, 5)) (by decide +kernel)) (by decide) (by unfold rg; omega) (fun M2 e => ?_)
  rw [e.trans (bz_u (by decide +kernel) (rfl : 308 + 1 = 309))]
  exact rr_vret pf_4_38 pt_4 G
theorem bC_4_119_301 {xs : Nat → Int} {L d : Nat} (hd : 1 ≤ d) : px_Cl xs L d 4 [.ref 118] (bS 119, bM 301) none (bS 122, bM 309) := by
  obtain ⟨d, rfl⟩ : ∃ e, d = e + 1 := ⟨d - 1, by omega⟩
  refine px_Cl_intro (Nat.le_of_ble_eq_true rfl) ?_
  show px_R xs L d 4 (0, [.ref 118], [], (bS 119, bM 301)) _
  exact bk_4_119_301_e (by omega) ⟨rfl, rfl⟩
theorem bk_4_123_311_e {xs : Nat → Int} {L d : Nat} {Q : Option Value → px_H → Prop} (hd : 0 ≤ d) (G : Q none (bS 126, bM 319)) : px_R xs L d 4 (0, [.ref 122], [], (bS 123, bM 311)) Q := by
  refine rr_aload_n pf_4_0 rfl ?_
  refine rr_objI pf_4_1 po_4 pc_1_3 (by decide) ?_
  refine rr_aload_n pf_4_4 rfl ?_
  refine rr_bipush pf_4_5 (by decide) ?_
  refine rr_newa 10 pf_4_7 (by simp) (by decide) (fun M2 e => ?_)
  rw [bz_l (by decide : 123 ≤ 264)] at e ⊢
  rw [e.trans (bz_c (by decide +kernel) (rfl : 311 + 1 = 312))]
  rw [bz_n (by decide +kernel) (rfl : 123 + 1 = 124)]
  refine rr_putR pf_4_9 po_4 pg_1_9 (Or.inr ⟨by decide +kernel, rfl⟩) rfl (bz_s (x := (1, 5)) (by decide +kernel)) (by decide) (fun M2 e => ?_)
  rw [e.trans (bz_u (by decide +kernel) (rfl : 312 + 1 = 313))]
  refine rr_aload_n pf_4_12 rfl ?_
  refine rr_bipush pf_4_13 (by decide) ?_
  refine rr_newa 10 pf_4_15 (by simp) (by decide) (fun M2 e => ?_)
  rw [bz_l (by decide : 124 ≤ 264)] at e ⊢
  rw [e.trans (bz_c (by decide +kernel) (rfl : 313 + 1 = 314))]
  rw [bz_n (by decide +kernel) (rfl : 124 + 1 = 125)]
  refine rr_putR pf_4_17 po_4 pg_1_15 (Or.inr ⟨by decide +kernel, rfl⟩) rfl (bz_s (x := (1, 5)) (by decide +kernel)) (by decide) (fun M2 e => ?_)
  rw [e.trans (bz_u (by decide +kernel) (rfl : 314 + 1 = 315))]
  refine rr_aload_n pf_4_20 rfl ?_
  refine rr_bipush pf_4_21 (by decide) ?_
  refine rr_newa 10 pf_4_23 (by simp) (by decide) (fun M2 e => ?_)
  rw [bz_l (by decide : 125 ≤ 264)] at e ⊢
  rw [e.trans (bz_c (by decide +kernel) (rfl : 315 + 1 = 316))]
  rw [bz_n (by decide +kernel) (rfl : 125 + 1 = 126)]
  refine rr_putR pf_4_25 po_4 pg_1_18 (Or.inr ⟨by decide +kernel, rfl⟩) rfl (bz_s (x := (1, 5)) (by decide +kernel)) (by decide) (fun M2 e => ?_)
  rw [e.trans (bz_u (by decide +kernel) (rfl : 316 + 1 = 317))]
  refine rr_aload_n pf_4_28 rfl ?_
  refine rr_iconst pf_4_29 ?_
  refine rr_putI pf_4_30 po_4 pg_1_21 (Or.inr ⟨by decide +kernel, rfl⟩) rfl (bz_s (x := (1, 5)) (by decide +kernel)) (by decide) (by unfold rg; omega) (fun M2 e => ?_)
  rw [e.trans (bz_u (by decide +kernel) (rfl : 317 + 1 = 318))]
  refine rr_aload_n pf_4_33 rfl ?_
  refine rr_iconst pf_4_34 ?_
  refine rr_putI pf_4_35 po_4 pg_1_25 (Or.inr ⟨by decide +kernel, rfl⟩) rfl (bz_s (x := (1, 5)) (by decide +kernel)) (by decide) (by unfold rg; omega) (fun M2 e => ?_)
  rw [e.trans (bz_u (by decide +kernel) (rfl : 318 + 1 = 319))]
  exact rr_vret pf_4_38 pt_4 G
theorem bC_4_123_311 {xs : Nat → Int} {L d : Nat} (hd : 1 ≤ d) : px_Cl xs L d 4 [.ref 122] (bS 123, bM 311) none (bS 126, bM 319) := by
  obtain ⟨d, rfl⟩ : ∃ e, d = e + 1 := ⟨d - 1, by omega⟩
  refine px_Cl_intro (Nat.le_of_ble_eq_true rfl) ?_
  show px_R xs L d 4 (0, [.ref 122], [], (bS 123, bM 311)) _
  exact bk_4_123_311_e (by omega) ⟨rfl, rfl⟩
theorem bk_4_127_321_e {xs : Nat → Int} {L d : Nat} {Q : Option Value → px_H → Prop} (hd : 0 ≤ d) (G : Q none (bS 130, bM 329)) : px_R xs L d 4 (0, [.ref 126], [], (bS 127, bM 321)) Q := by
  refine rr_aload_n pf_4_0 rfl ?_
  refine rr_objI pf_4_1 po_4 pc_1_3 (by decide) ?_
  refine rr_aload_n pf_4_4 rfl ?_
  refine rr_bipush pf_4_5 (by decide) ?_
  refine rr_newa 10 pf_4_7 (by simp) (by decide) (fun M2 e => ?_)
  rw [bz_l (by decide : 127 ≤ 264)] at e ⊢
  rw [e.trans (bz_c (by decide +kernel) (rfl : 321 + 1 = 322))]
  rw [bz_n (by decide +kernel) (rfl : 127 + 1 = 128)]
  refine rr_putR pf_4_9 po_4 pg_1_9 (Or.inr ⟨by decide +kernel, rfl⟩) rfl (bz_s (x := (1, 5)) (by decide +kernel)) (by decide) (fun M2 e => ?_)
  rw [e.trans (bz_u (by decide +kernel) (rfl : 322 + 1 = 323))]
  refine rr_aload_n pf_4_12 rfl ?_
  refine rr_bipush pf_4_13 (by decide) ?_
  refine rr_newa 10 pf_4_15 (by simp) (by decide) (fun M2 e => ?_)
  rw [bz_l (by decide : 128 ≤ 264)] at e ⊢
  rw [e.trans (bz_c (by decide +kernel) (rfl : 323 + 1 = 324))]
  rw [bz_n (by decide +kernel) (rfl : 128 + 1 = 129)]
  refine rr_putR pf_4_17 po_4 pg_1_15 (Or.inr ⟨by decide +kernel, rfl⟩) rfl (bz_s (x := (1, 5)) (by decide +kernel)) (by decide) (fun M2 e => ?_)
  rw [e.trans (bz_u (by decide +kernel) (rfl : 324 + 1 = 325))]
  refine rr_aload_n pf_4_20 rfl ?_
  refine rr_bipush pf_4_21 (by decide) ?_
  refine rr_newa 10 pf_4_23 (by simp) (by decide) (fun M2 e => ?_)
  rw [bz_l (by decide : 129 ≤ 264)] at e ⊢
  rw [e.trans (bz_c (by decide +kernel) (rfl : 325 + 1 = 326))]
  rw [bz_n (by decide +kernel) (rfl : 129 + 1 = 130)]
  refine rr_putR pf_4_25 po_4 pg_1_18 (Or.inr ⟨by decide +kernel, rfl⟩) rfl (bz_s (x := (1, 5)) (by decide +kernel)) (by decide) (fun M2 e => ?_)
  rw [e.trans (bz_u (by decide +kernel) (rfl : 326 + 1 = 327))]
  refine rr_aload_n pf_4_28 rfl ?_
  refine rr_iconst pf_4_29 ?_
  refine rr_putI pf_4_30 po_4 pg_1_21 (Or.inr ⟨by decide +kernel, rfl⟩) rfl (bz_s (x := (1, 5)) (by decide +kernel)) (by decide) (by unfold rg; omega) (fun M2 e => ?_)
  rw [e.trans (bz_u (by decide +kernel) (rfl : 327 + 1 = 328))]
  refine rr_aload_n pf_4_33 rfl ?_
  refine rr_iconst pf_4_34 ?_
  refine rr_putI pf_4_35 po_4 pg_1_25 (Or.inr ⟨by decide +kernel, rfl⟩) rfl (bz_s (x := (1, 5)) (by decide +kernel)) (by decide) (by unfold rg; omega) (fun M2 e => ?_)
  rw [e.trans (bz_u (by decide +kernel) (rfl : 328 + 1 = 329))]
  exact rr_vret pf_4_38 pt_4 G
theorem bC_4_127_321 {xs : Nat → Int} {L d : Nat} (hd : 1 ≤ d) : px_Cl xs L d 4 [.ref 126] (bS 127, bM 321) none (bS 130, bM 329) := by
  obtain ⟨d, rfl⟩ : ∃ e, d = e + 1 := ⟨d - 1, by omega⟩
  refine px_Cl_intro (Nat.le_of_ble_eq_true rfl) ?_
  show px_R xs L d 4 (0, [.ref 126], [], (bS 127, bM 321)) _
  exact bk_4_127_321_e (by omega) ⟨rfl, rfl⟩
theorem bk_5_104_264_2 {xs : Nat → Int} {L d : Nat} {Q : Option Value → px_H → Prop} (hd : 1 ≤ d) (G : px_R xs L d 5 (40, [.ref 103, .int (iI (6))], [.ref 103], (bS 130, bM 330)) Q) : px_R xs L d 5 (47, [.ref 103, .int (iI (3))], [.ref 118, .int (iI (3)), .ref 104], (bS 119, bM 301)) Q := by
  refine rr_dup pf_5_47 rfl ?_
  refine rr_cI0 pf_5_48 po_5 pc_7_28 (by decide) rfl (bC_4_119_301 (Nat.le_trans (by decide) hd)) ?_
  refine rr_aast pf_5_51 (bz_s (x := (14, 17)) (by decide +kernel)) (by decide) (by decide) (by unfold rg; omega) (by decide) (by decide +kernel) (fun M2 e => ?_)
  rw [e.trans (bz_u (by decide +kernel) (rfl : 309 + 1 = 310))]
  refine rr_iinc (x := 3) pf_5_52 rfl (fun y => [.ref 103, .int (iI y)]) (fun _ => rfl) (fun y ey => ?_)
  obtain rfl : y = 4 := ey
  refine rr_goto 33 pf_5_55 (by decide) ?_
  refine rr_iload_n pf_5_33 rfl ?_
  refine rr_bipush pf_5_34 (by decide) ?_
  refine rr_icmp_ge 58 pf_5_36 (by decide) (by unfold rg; omega) (by unfold rg; omega) (fun z => absurd z (by decide)) (fun _ => ?_)
  refine rr_aload_n pf_5_39 rfl ?_
  refine rr_getR (q := 104) pf_5_40 po_5 pg_7_13 rfl (bz_s (x := (7, 4)) (by decide +kernel)) (by decide) (by decide +kernel) ?_
  refine rr_iload_n pf_5_43 rfl ?_
  refine rr_new pf_5_44 po_5 pn_7_11 (by decide) rfl (fun M2 e => ?_)
  rw [bz_l (by decide : 122 ≤ 264)] at e ⊢
  rw [e.trans (bz_o (by decide +kernel) (rfl : 310 + 1 = 311))]
  rw [bz_n (by decide +kernel) (rfl : 122 + 1 = 123)]
  refine rr_dup pf_5_47 rfl ?_
  refine rr_cI0 pf_5_48 po_5 pc_7_28 (by decide) rfl (bC_4_123_311 (Nat.le_trans (by decide) hd)) ?_
  refine rr_aast pf_5_51 (bz_s (x := (14, 17)) (by decide +kernel)) (by decide) (by decide) (by unfold rg; omega) (by decide) (by decide +kernel) (fun M2 e => ?_)
  rw [e.trans (bz_u (by decide +kernel) (rfl : 319 + 1 = 320))]
  refine rr_iinc (x := 4) pf_5_52 rfl (fun y => [.ref 103, .int (iI y)]) (fun _ => rfl) (fun y ey => ?_)
  obtain rfl : y = 5 := ey
  refine rr_goto 33 pf_5_55 (by decide) ?_
  refine rr_iload_n pf_5_33 rfl ?_
  refine rr_bipush pf_5_34 (by decide) ?_
  refine rr_icmp_ge 58 pf_5_36 (by decide) (by unfold rg; omega) (by unfold rg; omega) (fun z => absurd z (by decide)) (fun _ => ?_)
  refine rr_aload_n pf_5_39 rfl ?_
  refine rr_getR (q := 104) pf_5_40 po_5 pg_7_13 rfl (bz_s (x := (7, 4)) (by decide +kernel)) (by decide) (by decide +kernel) ?_
  refine rr_iload_n pf_5_43 rfl ?_
  refine rr_new pf_5_44 po_5 pn_7_11 (by decide) rfl (fun M2 e => ?_)
  rw [bz_l (by decide : 126 ≤ 264)] at e ⊢
  rw [e.trans (bz_o (by decide +kernel) (rfl : 320 + 1 = 321))]
  rw [bz_n (by decide +kernel) (rfl : 126 + 1 = 127)]
  refine rr_dup pf_5_47 rfl ?_
  refine rr_cI0 pf_5_48 po_5 pc_7_28 (by decide) rfl (bC_4_127_321 (Nat.le_trans (by decide) hd)) ?_
  refine rr_aast pf_5_51 (bz_s (x := (14, 17)) (by decide +kernel)) (by decide) (by decide) (by unfold rg; omega) (by decide) (by decide +kernel) (fun M2 e => ?_)
  rw [e.trans (bz_u (by decide +kernel) (rfl : 329 + 1 = 330))]
  refine rr_iinc (x := 5) pf_5_52 rfl (fun y => [.ref 103, .int (iI y)]) (fun _ => rfl) (fun y ey => ?_)
  obtain rfl : y = 6 := ey
  refine rr_goto 33 pf_5_55 (by decide) ?_
  refine rr_iload_n pf_5_33 rfl ?_
  refine rr_bipush pf_5_34 (by decide) ?_
  refine rr_icmp_ge 58 pf_5_36 (by decide) (by unfold rg; omega) (by unfold rg; omega) (fun z => absurd z (by decide)) (fun _ => ?_)
  refine rr_aload_n pf_5_39 rfl ?_
  exact G
theorem bk_4_131_331_e {xs : Nat → Int} {L d : Nat} {Q : Option Value → px_H → Prop} (hd : 0 ≤ d) (G : Q none (bS 134, bM 339)) : px_R xs L d 4 (0, [.ref 130], [], (bS 131, bM 331)) Q := by
  refine rr_aload_n pf_4_0 rfl ?_
  refine rr_objI pf_4_1 po_4 pc_1_3 (by decide) ?_
  refine rr_aload_n pf_4_4 rfl ?_
  refine rr_bipush pf_4_5 (by decide) ?_
  refine rr_newa 10 pf_4_7 (by simp) (by decide) (fun M2 e => ?_)
  rw [bz_l (by decide : 131 ≤ 264)] at e ⊢
  rw [e.trans (bz_c (by decide +kernel) (rfl : 331 + 1 = 332))]
  rw [bz_n (by decide +kernel) (rfl : 131 + 1 = 132)]
  refine rr_putR pf_4_9 po_4 pg_1_9 (Or.inr ⟨by decide +kernel, rfl⟩) rfl (bz_s (x := (1, 5)) (by decide +kernel)) (by decide) (fun M2 e => ?_)
  rw [e.trans (bz_u (by decide +kernel) (rfl : 332 + 1 = 333))]
  refine rr_aload_n pf_4_12 rfl ?_
  refine rr_bipush pf_4_13 (by decide) ?_
  refine rr_newa 10 pf_4_15 (by simp) (by decide) (fun M2 e => ?_)
  rw [bz_l (by decide : 132 ≤ 264)] at e ⊢
  rw [e.trans (bz_c (by decide +kernel) (rfl : 333 + 1 = 334))]
  rw [bz_n (by decide +kernel) (rfl : 132 + 1 = 133)]
  refine rr_putR pf_4_17 po_4 pg_1_15 (Or.inr ⟨by decide +kernel, rfl⟩) rfl (bz_s (x := (1, 5)) (by decide +kernel)) (by decide) (fun M2 e => ?_)
  rw [e.trans (bz_u (by decide +kernel) (rfl : 334 + 1 = 335))]
  refine rr_aload_n pf_4_20 rfl ?_
  refine rr_bipush pf_4_21 (by decide) ?_
  refine rr_newa 10 pf_4_23 (by simp) (by decide) (fun M2 e => ?_)
  rw [bz_l (by decide : 133 ≤ 264)] at e ⊢
  rw [e.trans (bz_c (by decide +kernel) (rfl : 335 + 1 = 336))]
  rw [bz_n (by decide +kernel) (rfl : 133 + 1 = 134)]
  refine rr_putR pf_4_25 po_4 pg_1_18 (Or.inr ⟨by decide +kernel, rfl⟩) rfl (bz_s (x := (1, 5)) (by decide +kernel)) (by decide) (fun M2 e => ?_)
  rw [e.trans (bz_u (by decide +kernel) (rfl : 336 + 1 = 337))]
  refine rr_aload_n pf_4_28 rfl ?_
  refine rr_iconst pf_4_29 ?_
  refine rr_putI pf_4_30 po_4 pg_1_21 (Or.inr ⟨by decide +kernel, rfl⟩) rfl (bz_s (x := (1, 5)) (by decide +kernel)) (by decide) (by unfold rg; omega) (fun M2 e => ?_)
  rw [e.trans (bz_u (by decide +kernel) (rfl : 337 + 1 = 338))]
  refine rr_aload_n pf_4_33 rfl ?_
  refine rr_iconst pf_4_34 ?_
  refine rr_putI pf_4_35 po_4 pg_1_25 (Or.inr ⟨by decide +kernel, rfl⟩) rfl (bz_s (x := (1, 5)) (by decide +kernel)) (by decide) (by unfold rg; omega) (fun M2 e => ?_)
  rw [e.trans (bz_u (by decide +kernel) (rfl : 338 + 1 = 339))]
  exact rr_vret pf_4_38 pt_4 G
theorem bC_4_131_331 {xs : Nat → Int} {L d : Nat} (hd : 1 ≤ d) : px_Cl xs L d 4 [.ref 130] (bS 131, bM 331) none (bS 134, bM 339) := by
  obtain ⟨d, rfl⟩ : ∃ e, d = e + 1 := ⟨d - 1, by omega⟩
  refine px_Cl_intro (Nat.le_of_ble_eq_true rfl) ?_
  show px_R xs L d 4 (0, [.ref 130], [], (bS 131, bM 331)) _
  exact bk_4_131_331_e (by omega) ⟨rfl, rfl⟩
theorem bk_4_135_341_e {xs : Nat → Int} {L d : Nat} {Q : Option Value → px_H → Prop} (hd : 0 ≤ d) (G : Q none (bS 138, bM 349)) : px_R xs L d 4 (0, [.ref 134], [], (bS 135, bM 341)) Q := by
  refine rr_aload_n pf_4_0 rfl ?_
  refine rr_objI pf_4_1 po_4 pc_1_3 (by decide) ?_
  refine rr_aload_n pf_4_4 rfl ?_
  refine rr_bipush pf_4_5 (by decide) ?_
  refine rr_newa 10 pf_4_7 (by simp) (by decide) (fun M2 e => ?_)
  rw [bz_l (by decide : 135 ≤ 264)] at e ⊢
  rw [e.trans (bz_c (by decide +kernel) (rfl : 341 + 1 = 342))]
  rw [bz_n (by decide +kernel) (rfl : 135 + 1 = 136)]
  refine rr_putR pf_4_9 po_4 pg_1_9 (Or.inr ⟨by decide +kernel, rfl⟩) rfl (bz_s (x := (1, 5)) (by decide +kernel)) (by decide) (fun M2 e => ?_)
  rw [e.trans (bz_u (by decide +kernel) (rfl : 342 + 1 = 343))]
  refine rr_aload_n pf_4_12 rfl ?_
  refine rr_bipush pf_4_13 (by decide) ?_
  refine rr_newa 10 pf_4_15 (by simp) (by decide) (fun M2 e => ?_)
  rw [bz_l (by decide : 136 ≤ 264)] at e ⊢
  rw [e.trans (bz_c (by decide +kernel) (rfl : 343 + 1 = 344))]
  rw [bz_n (by decide +kernel) (rfl : 136 + 1 = 137)]
  refine rr_putR pf_4_17 po_4 pg_1_15 (Or.inr ⟨by decide +kernel, rfl⟩) rfl (bz_s (x := (1, 5)) (by decide +kernel)) (by decide) (fun M2 e => ?_)
  rw [e.trans (bz_u (by decide +kernel) (rfl : 344 + 1 = 345))]
  refine rr_aload_n pf_4_20 rfl ?_
  refine rr_bipush pf_4_21 (by decide) ?_
  refine rr_newa 10 pf_4_23 (by simp) (by decide) (fun M2 e => ?_)
  rw [bz_l (by decide : 137 ≤ 264)] at e ⊢
  rw [e.trans (bz_c (by decide +kernel) (rfl : 345 + 1 = 346))]
  rw [bz_n (by decide +kernel) (rfl : 137 + 1 = 138)]
  refine rr_putR pf_4_25 po_4 pg_1_18 (Or.inr ⟨by decide +kernel, rfl⟩) rfl (bz_s (x := (1, 5)) (by decide +kernel)) (by decide) (fun M2 e => ?_)
  rw [e.trans (bz_u (by decide +kernel) (rfl : 346 + 1 = 347))]
  refine rr_aload_n pf_4_28 rfl ?_
  refine rr_iconst pf_4_29 ?_
  refine rr_putI pf_4_30 po_4 pg_1_21 (Or.inr ⟨by decide +kernel, rfl⟩) rfl (bz_s (x := (1, 5)) (by decide +kernel)) (by decide) (by unfold rg; omega) (fun M2 e => ?_)
  rw [e.trans (bz_u (by decide +kernel) (rfl : 347 + 1 = 348))]
  refine rr_aload_n pf_4_33 rfl ?_
  refine rr_iconst pf_4_34 ?_
  refine rr_putI pf_4_35 po_4 pg_1_25 (Or.inr ⟨by decide +kernel, rfl⟩) rfl (bz_s (x := (1, 5)) (by decide +kernel)) (by decide) (by unfold rg; omega) (fun M2 e => ?_)
  rw [e.trans (bz_u (by decide +kernel) (rfl : 348 + 1 = 349))]
  exact rr_vret pf_4_38 pt_4 G
theorem bC_4_135_341 {xs : Nat → Int} {L d : Nat} (hd : 1 ≤ d) : px_Cl xs L d 4 [.ref 134] (bS 135, bM 341) none (bS 138, bM 349) := by
  obtain ⟨d, rfl⟩ : ∃ e, d = e + 1 := ⟨d - 1, by omega⟩
  refine px_Cl_intro (Nat.le_of_ble_eq_true rfl) ?_
  show px_R xs L d 4 (0, [.ref 134], [], (bS 135, bM 341)) _
  exact bk_4_135_341_e (by omega) ⟨rfl, rfl⟩
theorem bk_4_139_351_e {xs : Nat → Int} {L d : Nat} {Q : Option Value → px_H → Prop} (hd : 0 ≤ d) (G : Q none (bS 142, bM 359)) : px_R xs L d 4 (0, [.ref 138], [], (bS 139, bM 351)) Q := by
  refine rr_aload_n pf_4_0 rfl ?_
  refine rr_objI pf_4_1 po_4 pc_1_3 (by decide) ?_
  refine rr_aload_n pf_4_4 rfl ?_
  refine rr_bipush pf_4_5 (by decide) ?_
  refine rr_newa 10 pf_4_7 (by simp) (by decide) (fun M2 e => ?_)
  rw [bz_l (by decide : 139 ≤ 264)] at e ⊢
  rw [e.trans (bz_c (by decide +kernel) (rfl : 351 + 1 = 352))]
  rw [bz_n (by decide +kernel) (rfl : 139 + 1 = 140)]
  refine rr_putR pf_4_9 po_4 pg_1_9 (Or.inr ⟨by decide +kernel, rfl⟩) rfl (bz_s (x := (1, 5)) (by decide +kernel)) (by decide) (fun M2 e => ?_)
  rw [e.trans (bz_u (by decide +kernel) (rfl : 352 + 1 = 353))]
  refine rr_aload_n pf_4_12 rfl ?_
  refine rr_bipush pf_4_13 (by decide) ?_
  refine rr_newa 10 pf_4_15 (by simp) (by decide) (fun M2 e => ?_)
  rw [bz_l (by decide : 140 ≤ 264)] at e ⊢
  rw [e.trans (bz_c (by decide +kernel) (rfl : 353 + 1 = 354))]
  rw [bz_n (by decide +kernel) (rfl : 140 + 1 = 141)]
  refine rr_putR pf_4_17 po_4 pg_1_15 (Or.inr ⟨by decide +kernel, rfl⟩) rfl (bz_s (x := (1, 5)) (by decide +kernel)) (by decide) (fun M2 e => ?_)
  rw [e.trans (bz_u (by decide +kernel) (rfl : 354 + 1 = 355))]
  refine rr_aload_n pf_4_20 rfl ?_
  refine rr_bipush pf_4_21 (by decide) ?_
  refine rr_newa 10 pf_4_23 (by simp) (by decide) (fun M2 e => ?_)
  rw [bz_l (by decide : 141 ≤ 264)] at e ⊢
  rw [e.trans (bz_c (by decide +kernel) (rfl : 355 + 1 = 356))]
  rw [bz_n (by decide +kernel) (rfl : 141 + 1 = 142)]
  refine rr_putR pf_4_25 po_4 pg_1_18 (Or.inr ⟨by decide +kernel, rfl⟩) rfl (bz_s (x := (1, 5)) (by decide +kernel)) (by decide) (fun M2 e => ?_)
  rw [e.trans (bz_u (by decide +kernel) (rfl : 356 + 1 = 357))]
  refine rr_aload_n pf_4_28 rfl ?_
  refine rr_iconst pf_4_29 ?_
  refine rr_putI pf_4_30 po_4 pg_1_21 (Or.inr ⟨by decide +kernel, rfl⟩) rfl (bz_s (x := (1, 5)) (by decide +kernel)) (by decide) (by unfold rg; omega) (fun M2 e => ?_)
  rw [e.trans (bz_u (by decide +kernel) (rfl : 357 + 1 = 358))]
  refine rr_aload_n pf_4_33 rfl ?_
  refine rr_iconst pf_4_34 ?_
  refine rr_putI pf_4_35 po_4 pg_1_25 (Or.inr ⟨by decide +kernel, rfl⟩) rfl (bz_s (x := (1, 5)) (by decide +kernel)) (by decide) (by unfold rg; omega) (fun M2 e => ?_)
  rw [e.trans (bz_u (by decide +kernel) (rfl : 358 + 1 = 359))]
  exact rr_vret pf_4_38 pt_4 G
theorem bC_4_139_351 {xs : Nat → Int} {L d : Nat} (hd : 1 ≤ d) : px_Cl xs L d 4 [.ref 138] (bS 139, bM 351) none (bS 142, bM 359) := by
  obtain ⟨d, rfl⟩ : ∃ e, d = e + 1 := ⟨d - 1, by omega⟩
  refine px_Cl_intro (Nat.le_of_ble_eq_true rfl) ?_
  show px_R xs L d 4 (0, [.ref 138], [], (bS 139, bM 351)) _
  exact bk_4_139_351_e (by omega) ⟨rfl, rfl⟩
theorem bk_5_104_264_3 {xs : Nat → Int} {L d : Nat} {Q : Option Value → px_H → Prop} (hd : 1 ≤ d) (G : px_R xs L d 5 (55, [.ref 103, .int (iI (9))], [], (bS 142, bM 360)) Q) : px_R xs L d 5 (40, [.ref 103, .int (iI (6))], [.ref 103], (bS 130, bM 330)) Q := by
  refine rr_getR (q := 104) pf_5_40 po_5 pg_7_13 rfl (bz_s (x := (7, 4)) (by decide +kernel)) (by decide) (by decide +kernel) ?_
  refine rr_iload_n pf_5_43 rfl ?_
  refine rr_new pf_5_44 po_5 pn_7_11 (by decide) rfl (fun M2 e => ?_)
  rw [bz_l (by decide : 130 ≤ 264)] at e ⊢
  rw [e.trans (bz_o (by decide +kernel) (rfl : 330 + 1 = 331))]
  rw [bz_n (by decide +kernel) (rfl : 130 + 1 = 131)]
  refine rr_dup pf_5_47 rfl ?_
  refine rr_cI0 pf_5_48 po_5 pc_7_28 (by decide) rfl (bC_4_131_331 (Nat.le_trans (by decide) hd)) ?_
  refine rr_aast pf_5_51 (bz_s (x := (14, 17)) (by decide +kernel)) (by decide) (by decide) (by unfold rg; omega) (by decide) (by decide +kernel) (fun M2 e => ?_)
  rw [e.trans (bz_u (by decide +kernel) (rfl : 339 + 1 = 340))]
  refine rr_iinc (x := 6) pf_5_52 rfl (fun y => [.ref 103, .int (iI y)]) (fun _ => rfl) (fun y ey => ?_)
  obtain rfl : y = 7 := ey
  refine rr_goto 33 pf_5_55 (by decide) ?_
  refine rr_iload_n pf_5_33 rfl ?_
  refine rr_bipush pf_5_34 (by decide) ?_
  refine rr_icmp_ge 58 pf_5_36 (by decide) (by unfold rg; omega) (by unfold rg; omega) (fun z => absurd z (by decide)) (fun _ => ?_)
  refine rr_aload_n pf_5_39 rfl ?_
  refine rr_getR (q := 104) pf_5_40 po_5 pg_7_13 rfl (bz_s (x := (7, 4)) (by decide +kernel)) (by decide) (by decide +kernel) ?_
  refine rr_iload_n pf_5_43 rfl ?_
  refine rr_new pf_5_44 po_5 pn_7_11 (by decide) rfl (fun M2 e => ?_)
  rw [bz_l (by decide : 134 ≤ 264)] at e ⊢
  rw [e.trans (bz_o (by decide +kernel) (rfl : 340 + 1 = 341))]
  rw [bz_n (by decide +kernel) (rfl : 134 + 1 = 135)]
  refine rr_dup pf_5_47 rfl ?_
  refine rr_cI0 pf_5_48 po_5 pc_7_28 (by decide) rfl (bC_4_135_341 (Nat.le_trans (by decide) hd)) ?_
  refine rr_aast pf_5_51 (bz_s (x := (14, 17)) (by decide +kernel)) (by decide) (by decide) (by unfold rg; omega) (by decide) (by decide +kernel) (fun M2 e => ?_)
  rw [e.trans (bz_u (by decide +kernel) (rfl : 349 + 1 = 350))]
  refine rr_iinc (x := 7) pf_5_52 rfl (fun y => [.ref 103, .int (iI y)]) (fun _ => rfl) (fun y ey => ?_)
  obtain rfl : y = 8 := ey
  refine rr_goto 33 pf_5_55 (by decide) ?_
  refine rr_iload_n pf_5_33 rfl ?_
  refine rr_bipush pf_5_34 (by decide) ?_
  refine rr_icmp_ge 58 pf_5_36 (by decide) (by unfold rg; omega) (by unfold rg; omega) (fun z => absurd z (by decide)) (fun _ => ?_)
  refine rr_aload_n pf_5_39 rfl ?_
  refine rr_getR (q := 104) pf_5_40 po_5 pg_7_13 rfl (bz_s (x := (7, 4)) (by decide +kernel)) (by decide) (by decide +kernel) ?_
  refine rr_iload_n pf_5_43 rfl ?_
  refine rr_new pf_5_44 po_5 pn_7_11 (by decide) rfl (fun M2 e => ?_)
  rw [bz_l (by decide : 138 ≤ 264)] at e ⊢
  rw [e.trans (bz_o (by decide +kernel) (rfl : 350 + 1 = 351))]
  rw [bz_n (by decide +kernel) (rfl : 138 + 1 = 139)]
  refine rr_dup pf_5_47 rfl ?_
  refine rr_cI0 pf_5_48 po_5 pc_7_28 (by decide) rfl (bC_4_139_351 (Nat.le_trans (by decide) hd)) ?_
  refine rr_aast pf_5_51 (bz_s (x := (14, 17)) (by decide +kernel)) (by decide) (by decide) (by unfold rg; omega) (by decide) (by decide +kernel) (fun M2 e => ?_)
  rw [e.trans (bz_u (by decide +kernel) (rfl : 359 + 1 = 360))]
  refine rr_iinc (x := 8) pf_5_52 rfl (fun y => [.ref 103, .int (iI y)]) (fun _ => rfl) (fun y ey => ?_)
  obtain rfl : y = 9 := ey
  exact G
theorem bk_4_143_361_e {xs : Nat → Int} {L d : Nat} {Q : Option Value → px_H → Prop} (hd : 0 ≤ d) (G : Q none (bS 146, bM 369)) : px_R xs L d 4 (0, [.ref 142], [], (bS 143, bM 361)) Q := by
  refine rr_aload_n pf_4_0 rfl ?_
  refine rr_objI pf_4_1 po_4 pc_1_3 (by decide) ?_
  refine rr_aload_n pf_4_4 rfl ?_
  refine rr_bipush pf_4_5 (by decide) ?_
  refine rr_newa 10 pf_4_7 (by simp) (by decide) (fun M2 e => ?_)
  rw [bz_l (by decide : 143 ≤ 264)] at e ⊢
  rw [e.trans (bz_c (by decide +kernel) (rfl : 361 + 1 = 362))]
  rw [bz_n (by decide +kernel) (rfl : 143 + 1 = 144)]
  refine rr_putR pf_4_9 po_4 pg_1_9 (Or.inr ⟨by decide +kernel, rfl⟩) rfl (bz_s (x := (1, 5)) (by decide +kernel)) (by decide) (fun M2 e => ?_)
  rw [e.trans (bz_u (by decide +kernel) (rfl : 362 + 1 = 363))]
  refine rr_aload_n pf_4_12 rfl ?_
  refine rr_bipush pf_4_13 (by decide) ?_
  refine rr_newa 10 pf_4_15 (by simp) (by decide) (fun M2 e => ?_)
  rw [bz_l (by decide : 144 ≤ 264)] at e ⊢
  rw [e.trans (bz_c (by decide +kernel) (rfl : 363 + 1 = 364))]
  rw [bz_n (by decide +kernel) (rfl : 144 + 1 = 145)]
  refine rr_putR pf_4_17 po_4 pg_1_15 (Or.inr ⟨by decide +kernel, rfl⟩) rfl (bz_s (x := (1, 5)) (by decide +kernel)) (by decide) (fun M2 e => ?_)
  rw [e.trans (bz_u (by decide +kernel) (rfl : 364 + 1 = 365))]
  refine rr_aload_n pf_4_20 rfl ?_
  refine rr_bipush pf_4_21 (by decide) ?_
  refine rr_newa 10 pf_4_23 (by simp) (by decide) (fun M2 e => ?_)
  rw [bz_l (by decide : 145 ≤ 264)] at e ⊢
  rw [e.trans (bz_c (by decide +kernel) (rfl : 365 + 1 = 366))]
  rw [bz_n (by decide +kernel) (rfl : 145 + 1 = 146)]
  refine rr_putR pf_4_25 po_4 pg_1_18 (Or.inr ⟨by decide +kernel, rfl⟩) rfl (bz_s (x := (1, 5)) (by decide +kernel)) (by decide) (fun M2 e => ?_)
  rw [e.trans (bz_u (by decide +kernel) (rfl : 366 + 1 = 367))]
  refine rr_aload_n pf_4_28 rfl ?_
  refine rr_iconst pf_4_29 ?_
  refine rr_putI pf_4_30 po_4 pg_1_21 (Or.inr ⟨by decide +kernel, rfl⟩) rfl (bz_s (x := (1, 5)) (by decide +kernel)) (by decide) (by unfold rg; omega) (fun M2 e => ?_)
  rw [e.trans (bz_u (by decide +kernel) (rfl : 367 + 1 = 368))]
  refine rr_aload_n pf_4_33 rfl ?_
  refine rr_iconst pf_4_34 ?_
  refine rr_putI pf_4_35 po_4 pg_1_25 (Or.inr ⟨by decide +kernel, rfl⟩) rfl (bz_s (x := (1, 5)) (by decide +kernel)) (by decide) (by unfold rg; omega) (fun M2 e => ?_)
  rw [e.trans (bz_u (by decide +kernel) (rfl : 368 + 1 = 369))]
  exact rr_vret pf_4_38 pt_4 G
theorem bC_4_143_361 {xs : Nat → Int} {L d : Nat} (hd : 1 ≤ d) : px_Cl xs L d 4 [.ref 142] (bS 143, bM 361) none (bS 146, bM 369) := by
  obtain ⟨d, rfl⟩ : ∃ e, d = e + 1 := ⟨d - 1, by omega⟩
  refine px_Cl_intro (Nat.le_of_ble_eq_true rfl) ?_
  show px_R xs L d 4 (0, [.ref 142], [], (bS 143, bM 361)) _
  exact bk_4_143_361_e (by omega) ⟨rfl, rfl⟩
theorem bk_4_147_371_e {xs : Nat → Int} {L d : Nat} {Q : Option Value → px_H → Prop} (hd : 0 ≤ d) (G : Q none (bS 150, bM 379)) : px_R xs L d 4 (0, [.ref 146], [], (bS 147, bM 371)) Q := by
  refine rr_aload_n pf_4_0 rfl ?_
  refine rr_objI pf_4_1 po_4 pc_1_3 (by decide) ?_
  refine rr_aload_n pf_4_4 rfl ?_
  refine rr_bipush pf_4_5 (by decide) ?_
  refine rr_newa 10 pf_4_7 (by simp) (by decide) (fun M2 e => ?_)
  rw [bz_l (by decide : 147 ≤ 264)] at e ⊢
  rw [e.trans (bz_c (by decide +kernel) (rfl : 371 + 1 = 372))]
  rw [bz_n (by decide +kernel) (rfl : 147 + 1 = 148)]
  refine rr_putR pf_4_9 po_4 pg_1_9 (Or.inr ⟨by decide +kernel, rfl⟩) rfl (bz_s (x := (1, 5)) (by decide +kernel)) (by decide) (fun M2 e => ?_)
  rw [e.trans (bz_u (by decide +kernel) (rfl : 372 + 1 = 373))]
  refine rr_aload_n pf_4_12 rfl ?_
  refine rr_bipush pf_4_13 (by decide) ?_
  refine rr_newa 10 pf_4_15 (by simp) (by decide) (fun M2 e => ?_)
  rw [bz_l (by decide : 148 ≤ 264)] at e ⊢
  rw [e.trans (bz_c (by decide +kernel) (rfl : 373 + 1 = 374))]
  rw [bz_n (by decide +kernel) (rfl : 148 + 1 = 149)]
  refine rr_putR pf_4_17 po_4 pg_1_15 (Or.inr ⟨by decide +kernel, rfl⟩) rfl (bz_s (x := (1, 5)) (by decide +kernel)) (by decide) (fun M2 e => ?_)
  rw [e.trans (bz_u (by decide +kernel) (rfl : 374 + 1 = 375))]
  refine rr_aload_n pf_4_20 rfl ?_
  refine rr_bipush pf_4_21 (by decide) ?_
  refine rr_newa 10 pf_4_23 (by simp) (by decide) (fun M2 e => ?_)
  rw [bz_l (by decide : 149 ≤ 264)] at e ⊢
  rw [e.trans (bz_c (by decide +kernel) (rfl : 375 + 1 = 376))]
  rw [bz_n (by decide +kernel) (rfl : 149 + 1 = 150)]
  refine rr_putR pf_4_25 po_4 pg_1_18 (Or.inr ⟨by decide +kernel, rfl⟩) rfl (bz_s (x := (1, 5)) (by decide +kernel)) (by decide) (fun M2 e => ?_)
  rw [e.trans (bz_u (by decide +kernel) (rfl : 376 + 1 = 377))]
  refine rr_aload_n pf_4_28 rfl ?_
  refine rr_iconst pf_4_29 ?_
  refine rr_putI pf_4_30 po_4 pg_1_21 (Or.inr ⟨by decide +kernel, rfl⟩) rfl (bz_s (x := (1, 5)) (by decide +kernel)) (by decide) (by unfold rg; omega) (fun M2 e => ?_)
  rw [e.trans (bz_u (by decide +kernel) (rfl : 377 + 1 = 378))]
  refine rr_aload_n pf_4_33 rfl ?_
  refine rr_iconst pf_4_34 ?_
  refine rr_putI pf_4_35 po_4 pg_1_25 (Or.inr ⟨by decide +kernel, rfl⟩) rfl (bz_s (x := (1, 5)) (by decide +kernel)) (by decide) (by unfold rg; omega) (fun M2 e => ?_)
  rw [e.trans (bz_u (by decide +kernel) (rfl : 378 + 1 = 379))]
  exact rr_vret pf_4_38 pt_4 G
theorem bC_4_147_371 {xs : Nat → Int} {L d : Nat} (hd : 1 ≤ d) : px_Cl xs L d 4 [.ref 146] (bS 147, bM 371) none (bS 150, bM 379) := by
  obtain ⟨d, rfl⟩ : ∃ e, d = e + 1 := ⟨d - 1, by omega⟩
  refine px_Cl_intro (Nat.le_of_ble_eq_true rfl) ?_
  show px_R xs L d 4 (0, [.ref 146], [], (bS 147, bM 371)) _
  exact bk_4_147_371_e (by omega) ⟨rfl, rfl⟩
theorem bk_5_104_264_4 {xs : Nat → Int} {L d : Nat} {Q : Option Value → px_H → Prop} (hd : 1 ≤ d) (G : px_R xs L d 5 (47, [.ref 103, .int (iI (11))], [.ref 150, .int (iI (11)), .ref 104], (bS 151, bM 381)) Q) : px_R xs L d 5 (55, [.ref 103, .int (iI (9))], [], (bS 142, bM 360)) Q := by
  refine rr_goto 33 pf_5_55 (by decide) ?_
  refine rr_iload_n pf_5_33 rfl ?_
  refine rr_bipush pf_5_34 (by decide) ?_
  refine rr_icmp_ge 58 pf_5_36 (by decide) (by unfold rg; omega) (by unfold rg; omega) (fun z => absurd z (by decide)) (fun _ => ?_)
  refine rr_aload_n pf_5_39 rfl ?_
  refine rr_getR (q := 104) pf_5_40 po_5 pg_7_13 rfl (bz_s (x := (7, 4)) (by decide +kernel)) (by decide) (by decide +kernel) ?_
  refine rr_iload_n pf_5_43 rfl ?_
  refine rr_new pf_5_44 po_5 pn_7_11 (by decide) rfl (fun M2 e => ?_)
  rw [bz_l (by decide : 142 ≤ 264)] at e ⊢
  rw [e.trans (bz_o (by decide +kernel) (rfl : 360 + 1 = 361))]
  rw [bz_n (by decide +kernel) (rfl : 142 + 1 = 143)]
  refine rr_dup pf_5_47 rfl ?_
  refine rr_cI0 pf_5_48 po_5 pc_7_28 (by decide) rfl (bC_4_143_361 (Nat.le_trans (by decide) hd)) ?_
  refine rr_aast pf_5_51 (bz_s (x := (14, 17)) (by decide +kernel)) (by decide) (by decide) (by unfold rg; omega) (by decide) (by decide +kernel) (fun M2 e => ?_)
  rw [e.trans (bz_u (by decide +kernel) (rfl : 369 + 1 = 370))]
  refine rr_iinc (x := 9) pf_5_52 rfl (fun y => [.ref 103, .int (iI y)]) (fun _ => rfl) (fun y ey => ?_)
  obtain rfl : y = 10 := ey
  refine rr_goto 33 pf_5_55 (by decide) ?_
  refine rr_iload_n pf_5_33 rfl ?_
  refine rr_bipush pf_5_34 (by decide) ?_
  refine rr_icmp_ge 58 pf_5_36 (by decide) (by unfold rg; omega) (by unfold rg; omega) (fun z => absurd z (by decide)) (fun _ => ?_)
  refine rr_aload_n pf_5_39 rfl ?_
  refine rr_getR (q := 104) pf_5_40 po_5 pg_7_13 rfl (bz_s (x := (7, 4)) (by decide +kernel)) (by decide) (by decide +kernel) ?_
  refine rr_iload_n pf_5_43 rfl ?_
  refine rr_new pf_5_44 po_5 pn_7_11 (by decide) rfl (fun M2 e => ?_)
  rw [bz_l (by decide : 146 ≤ 264)] at e ⊢
  rw [e.trans (bz_o (by decide +kernel) (rfl : 370 + 1 = 371))]
  rw [bz_n (by decide +kernel) (rfl : 146 + 1 = 147)]
  refine rr_dup pf_5_47 rfl ?_
  refine rr_cI0 pf_5_48 po_5 pc_7_28 (by decide) rfl (bC_4_147_371 (Nat.le_trans (by decide) hd)) ?_
  refine rr_aast pf_5_51 (bz_s (x := (14, 17)) (by decide +kernel)) (by decide) (by decide) (by unfold rg; omega) (by decide) (by decide +kernel) (fun M2 e => ?_)
  rw [e.trans (bz_u (by decide +kernel) (rfl : 379 + 1 = 380))]
  refine rr_iinc (x := 10) pf_5_52 rfl (fun y => [.ref 103, .int (iI y)]) (fun _ => rfl) (fun y ey => ?_)
  obtain rfl : y = 11 := ey
  refine rr_goto 33 pf_5_55 (by decide) ?_
  refine rr_iload_n pf_5_33 rfl ?_
  refine rr_bipush pf_5_34 (by decide) ?_
  refine rr_icmp_ge 58 pf_5_36 (by decide) (by unfold rg; omega) (by unfold rg; omega) (fun z => absurd z (by decide)) (fun _ => ?_)
  refine rr_aload_n pf_5_39 rfl ?_
  refine rr_getR (q := 104) pf_5_40 po_5 pg_7_13 rfl (bz_s (x := (7, 4)) (by decide +kernel)) (by decide) (by decide +kernel) ?_
  refine rr_iload_n pf_5_43 rfl ?_
  refine rr_new pf_5_44 po_5 pn_7_11 (by decide) rfl (fun M2 e => ?_)
  rw [bz_l (by decide : 150 ≤ 264)] at e ⊢
  rw [e.trans (bz_o (by decide +kernel) (rfl : 380 + 1 = 381))]
  rw [bz_n (by decide +kernel) (rfl : 150 + 1 = 151)]
  exact G
theorem bk_4_151_381_e {xs : Nat → Int} {L d : Nat} {Q : Option Value → px_H → Prop} (hd : 0 ≤ d) (G : Q none (bS 154, bM 389)) : px_R xs L d 4 (0, [.ref 150], [], (bS 151, bM 381)) Q := by
  refine rr_aload_n pf_4_0 rfl ?_
  refine rr_objI pf_4_1 po_4 pc_1_3 (by decide) ?_
  refine rr_aload_n pf_4_4 rfl ?_
  refine rr_bipush pf_4_5 (by decide) ?_
  refine rr_newa 10 pf_4_7 (by simp) (by decide) (fun M2 e => ?_)
  rw [bz_l (by decide : 151 ≤ 264)] at e ⊢
  rw [e.trans (bz_c (by decide +kernel) (rfl : 381 + 1 = 382))]
  rw [bz_n (by decide +kernel) (rfl : 151 + 1 = 152)]
  refine rr_putR pf_4_9 po_4 pg_1_9 (Or.inr ⟨by decide +kernel, rfl⟩) rfl (bz_s (x := (1, 5)) (by decide +kernel)) (by decide) (fun M2 e => ?_)
  rw [e.trans (bz_u (by decide +kernel) (rfl : 382 + 1 = 383))]
  refine rr_aload_n pf_4_12 rfl ?_
  refine rr_bipush pf_4_13 (by decide) ?_
  refine rr_newa 10 pf_4_15 (by simp) (by decide) (fun M2 e => ?_)
  rw [bz_l (by decide : 152 ≤ 264)] at e ⊢
  rw [e.trans (bz_c (by decide +kernel) (rfl : 383 + 1 = 384))]
  rw [bz_n (by decide +kernel) (rfl : 152 + 1 = 153)]
  refine rr_putR pf_4_17 po_4 pg_1_15 (Or.inr ⟨by decide +kernel, rfl⟩) rfl (bz_s (x := (1, 5)) (by decide +kernel)) (by decide) (fun M2 e => ?_)
  rw [e.trans (bz_u (by decide +kernel) (rfl : 384 + 1 = 385))]
  refine rr_aload_n pf_4_20 rfl ?_
  refine rr_bipush pf_4_21 (by decide) ?_
  refine rr_newa 10 pf_4_23 (by simp) (by decide) (fun M2 e => ?_)
  rw [bz_l (by decide : 153 ≤ 264)] at e ⊢
  rw [e.trans (bz_c (by decide +kernel) (rfl : 385 + 1 = 386))]
  rw [bz_n (by decide +kernel) (rfl : 153 + 1 = 154)]
  refine rr_putR pf_4_25 po_4 pg_1_18 (Or.inr ⟨by decide +kernel, rfl⟩) rfl (bz_s (x := (1, 5)) (by decide +kernel)) (by decide) (fun M2 e => ?_)
  rw [e.trans (bz_u (by decide +kernel) (rfl : 386 + 1 = 387))]
  refine rr_aload_n pf_4_28 rfl ?_
  refine rr_iconst pf_4_29 ?_
  refine rr_putI pf_4_30 po_4 pg_1_21 (Or.inr ⟨by decide +kernel, rfl⟩) rfl (bz_s (x := (1, 5)) (by decide +kernel)) (by decide) (by unfold rg; omega) (fun M2 e => ?_)
  rw [e.trans (bz_u (by decide +kernel) (rfl : 387 + 1 = 388))]
  refine rr_aload_n pf_4_33 rfl ?_
  refine rr_iconst pf_4_34 ?_
  refine rr_putI pf_4_35 po_4 pg_1_25 (Or.inr ⟨by decide +kernel, rfl⟩) rfl (bz_s (x := (1, 5)) (by decide +kernel)) (by decide) (by unfold rg; omega) (fun M2 e => ?_)
  rw [e.trans (bz_u (by decide +kernel) (rfl : 388 + 1 = 389))]
  exact rr_vret pf_4_38 pt_4 G
theorem bC_4_151_381 {xs : Nat → Int} {L d : Nat} (hd : 1 ≤ d) : px_Cl xs L d 4 [.ref 150] (bS 151, bM 381) none (bS 154, bM 389) := by
  obtain ⟨d, rfl⟩ : ∃ e, d = e + 1 := ⟨d - 1, by omega⟩
  refine px_Cl_intro (Nat.le_of_ble_eq_true rfl) ?_
  show px_R xs L d 4 (0, [.ref 150], [], (bS 151, bM 381)) _
  exact bk_4_151_381_e (by omega) ⟨rfl, rfl⟩
theorem bk_4_155_391_e {xs : Nat → Int} {L d : Nat} {Q : Option Value → px_H → Prop} (hd : 0 ≤ d) (G : Q none (bS 158, bM 399)) : px_R xs L d 4 (0, [.ref 154], [], (bS 155, bM 391)) Q := by
  refine rr_aload_n pf_4_0 rfl ?_
  refine rr_objI pf_4_1 po_4 pc_1_3 (by decide) ?_
  refine rr_aload_n pf_4_4 rfl ?_
  refine rr_bipush pf_4_5 (by decide) ?_
  refine rr_newa 10 pf_4_7 (by simp) (by decide) (fun M2 e => ?_)
  rw [bz_l (by decide : 155 ≤ 264)] at e ⊢
  rw [e.trans (bz_c (by decide +kernel) (rfl : 391 + 1 = 392))]
  rw [bz_n (by decide +kernel) (rfl : 155 + 1 = 156)]
  refine rr_putR pf_4_9 po_4 pg_1_9 (Or.inr ⟨by decide +kernel, rfl⟩) rfl (bz_s (x := (1, 5)) (by decide +kernel)) (by decide) (fun M2 e => ?_)
  rw [e.trans (bz_u (by decide +kernel) (rfl : 392 + 1 = 393))]
  refine rr_aload_n pf_4_12 rfl ?_
  refine rr_bipush pf_4_13 (by decide) ?_
  refine rr_newa 10 pf_4_15 (by simp) (by decide) (fun M2 e => ?_)
  rw [bz_l (by decide : 156 ≤ 264)] at e ⊢
  rw [e.trans (bz_c (by decide +kernel) (rfl : 393 + 1 = 394))]
  rw [bz_n (by decide +kernel) (rfl : 156 + 1 = 157)]
  refine rr_putR pf_4_17 po_4 pg_1_15 (Or.inr ⟨by decide +kernel, rfl⟩) rfl (bz_s (x := (1, 5)) (by decide +kernel)) (by decide) (fun M2 e => ?_)
  rw [e.trans (bz_u (by decide +kernel) (rfl : 394 + 1 = 395))]
  refine rr_aload_n pf_4_20 rfl ?_
  refine rr_bipush pf_4_21 (by decide) ?_
  refine rr_newa 10 pf_4_23 (by simp) (by decide) (fun M2 e => ?_)
  rw [bz_l (by decide : 157 ≤ 264)] at e ⊢
  rw [e.trans (bz_c (by decide +kernel) (rfl : 395 + 1 = 396))]
  rw [bz_n (by decide +kernel) (rfl : 157 + 1 = 158)]
  refine rr_putR pf_4_25 po_4 pg_1_18 (Or.inr ⟨by decide +kernel, rfl⟩) rfl (bz_s (x := (1, 5)) (by decide +kernel)) (by decide) (fun M2 e => ?_)
  rw [e.trans (bz_u (by decide +kernel) (rfl : 396 + 1 = 397))]
  refine rr_aload_n pf_4_28 rfl ?_
  refine rr_iconst pf_4_29 ?_
  refine rr_putI pf_4_30 po_4 pg_1_21 (Or.inr ⟨by decide +kernel, rfl⟩) rfl (bz_s (x := (1, 5)) (by decide +kernel)) (by decide) (by unfold rg; omega) (fun M2 e => ?_)
  rw [e.trans (bz_u (by decide +kernel) (rfl : 397 + 1 = 398))]
  refine rr_aload_n pf_4_33 rfl ?_
  refine rr_iconst pf_4_34 ?_
  refine rr_putI pf_4_35 po_4 pg_1_25 (Or.inr ⟨by decide +kernel, rfl⟩) rfl (bz_s (x := (1, 5)) (by decide +kernel)) (by decide) (by unfold rg; omega) (fun M2 e => ?_)
  rw [e.trans (bz_u (by decide +kernel) (rfl : 398 + 1 = 399))]
  exact rr_vret pf_4_38 pt_4 G
theorem bC_4_155_391 {xs : Nat → Int} {L d : Nat} (hd : 1 ≤ d) : px_Cl xs L d 4 [.ref 154] (bS 155, bM 391) none (bS 158, bM 399) := by
  obtain ⟨d, rfl⟩ : ∃ e, d = e + 1 := ⟨d - 1, by omega⟩
  refine px_Cl_intro (Nat.le_of_ble_eq_true rfl) ?_
  show px_R xs L d 4 (0, [.ref 154], [], (bS 155, bM 391)) _
  exact bk_4_155_391_e (by omega) ⟨rfl, rfl⟩
