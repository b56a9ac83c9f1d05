/-! the birth, part 3 -/
theorem bk_4_159_401_e {xs : Nat → Int} {L d : Nat} {Q : Option Value → px_H → Prop} (hd : 0 ≤ d) (G : Q none (bS 162, bM 409)) : px_R xs L d 4 (0, [.ref 158], [], (bS 159, bM 401)) Q := by
  refine rr_aload_n pf_4_0 rfl ?_
  refine rr_objI pf_4_1 po_4 pc_1_3 (by decide) ?_
  refine rr_aload_n pf_4_4 rfl ?_
  refine rr_bipush pf_4_5 (by decide) ?_
  refine rr_newa 10 pf_4_7 (by simp) (by decide) (fun M2 e => ?_)
  rw [bz_l (by decide : 159 ≤ 264)] at e ⊢
  rw [e.trans (bz_c (by decide +kernel) (rfl : 401 + 1 = 402))]
  rw [bz_n (by decide +kernel) (rfl : 159 + 1 = 160)]
  refine rr_putR pf_4_9 po_4 pg_1_9 (Or.inr ⟨by decide +kernel, rfl⟩) rfl (bz_s (x := (1, 5)) (by decide +kernel)) (by decide) (fun M2 e => ?_)
  rw [e.trans (bz_u (by decide +kernel) (rfl : 402 + 1 = 403))]
  refine rr_aload_n pf_4_12 rfl ?_
  refine rr_bipush pf_4_13 (by decide) ?_
  refine rr_newa 10 pf_4_15 (by simp) (by decide) (fun M2 e => ?_)
  rw [bz_l (by decide : 160 ≤ 264)] at e ⊢
  rw [e.trans (bz_c (by decide +kernel) (rfl : 403 + 1 = 404))]
  rw [bz_n (by decide +kernel) (rfl : 160 + 1 = 161)]
  refine rr_putR pf_4_17 po_4 pg_1_15 (Or.inr ⟨by decide +kernel, rfl⟩) rfl (bz_s (x := (1, 5)) (by decide +kernel)) (by decide) (fun M2 e => ?_)
  rw [e.trans (bz_u (by decide +kernel) (rfl : 404 + 1 = 405))]
  refine rr_aload_n pf_4_20 rfl ?_
  refine rr_bipush pf_4_21 (by decide) ?_
  refine rr_newa 10 pf_4_23 (by simp) (by decide) (fun M2 e => ?_)
  rw [bz_l (by decide : 161 ≤ 264)] at e ⊢
  rw [e.trans (bz_c (by decide +kernel) (rfl : 405 + 1 = 406))]
  rw [bz_n (by decide +kernel) (rfl : 161 + 1 = 162)]
  refine rr_putR pf_4_25 po_4 pg_1_18 (Or.inr ⟨by decide +kernel, rfl⟩) rfl (bz_s (x := (1, 5)) (by decide +kernel)) (by decide) (fun M2 e => ?_)
  rw [e.trans (bz_u (by decide +kernel) (rfl : 406 + 1 = 407))]
  refine rr_aload_n pf_4_28 rfl ?_
  refine rr_iconst pf_4_29 ?_
  refine rr_putI pf_4_30 po_4 pg_1_21 (Or.inr ⟨by decide +kernel, rfl⟩) rfl (bz_s (x := (1, 5)) (by decide +kernel)) (by decide) (by unfold rg; omega) (fun M2 e => ?_)
  rw [e.trans (bz_u (by decide +kernel) (rfl : 407 + 1 = 408))]
  refine rr_aload_n pf_4_33 rfl ?_
  refine rr_iconst pf_4_34 ?_
  refine rr_putI pf_4_35 po_4 pg_1_25 (Or.inr ⟨by decide +kernel, rfl⟩) rfl (bz_s (x := (1, 5)) (by decide +kernel)) (by decide) (by unfold rg; omega) (fun M2 e => ?_)
  rw [e.trans (bz_u (by decide +kernel) (rfl : 408 + 1 = 409))]
  exact rr_vret pf_4_38 pt_4 G
theorem bC_4_159_401 {xs : Nat → Int} {L d : Nat} (hd : 1 ≤ d) : px_Cl xs L d 4 [.ref 158] (bS 159, bM 401) none (bS 162, bM 409) := by
  obtain ⟨d, rfl⟩ : ∃ e, d = e + 1 := ⟨d - 1, by omega⟩
  refine px_Cl_intro (Nat.le_of_ble_eq_true rfl) ?_
  show px_R xs L d 4 (0, [.ref 158], [], (bS 159, bM 401)) _
  exact bk_4_159_401_e (by omega) ⟨rfl, rfl⟩
theorem bk_5_104_264_5 {xs : Nat → Int} {L d : Nat} {Q : Option Value → px_H → Prop} (hd : 1 ≤ d) (G : px_R xs L d 5 (40, [.ref 103, .int (iI (14))], [.ref 103], (bS 162, bM 410)) Q) : px_R xs L d 5 (47, [.ref 103, .int (iI (11))], [.ref 150, .int (iI (11)), .ref 104], (bS 151, bM 381)) Q := by
  refine rr_dup pf_5_47 rfl ?_
  refine rr_cI0 pf_5_48 po_5 pc_7_28 (by decide) rfl (bC_4_151_381 (Nat.le_trans (by decide) hd)) ?_
  refine rr_aast pf_5_51 (bz_s (x := (14, 17)) (by decide +kernel)) (by decide) (by decide) (by unfold rg; omega) (by decide) (by decide +kernel) (fun M2 e => ?_)
  rw [e.trans (bz_u (by decide +kernel) (rfl : 389 + 1 = 390))]
  refine rr_iinc (x := 11) pf_5_52 rfl (fun y => [.ref 103, .int (iI y)]) (fun _ => rfl) (fun y ey => ?_)
  obtain rfl : y = 12 := ey
  refine rr_goto 33 pf_5_55 (by decide) ?_
  refine rr_iload_n pf_5_33 rfl ?_
  refine rr_bipush pf_5_34 (by decide) ?_
  refine rr_icmp_ge 58 pf_5_36 (by decide) (by unfold rg; omega) (by unfold rg; omega) (fun z => absurd z (by decide)) (fun _ => ?_)
  refine rr_aload_n pf_5_39 rfl ?_
  refine rr_getR (q := 104) pf_5_40 po_5 pg_7_13 rfl (bz_s (x := (7, 4)) (by decide +kernel)) (by decide) (by decide +kernel) ?_
  refine rr_iload_n pf_5_43 rfl ?_
  refine rr_new pf_5_44 po_5 pn_7_11 (by decide) rfl (fun M2 e => ?_)
  rw [bz_l (by decide : 154 ≤ 264)] at e ⊢
  rw [e.trans (bz_o (by decide +kernel) (rfl : 390 + 1 = 391))]
  rw [bz_n (by decide +kernel) (rfl : 154 + 1 = 155)]
  refine rr_dup pf_5_47 rfl ?_
  refine rr_cI0 pf_5_48 po_5 pc_7_28 (by decide) rfl (bC_4_155_391 (Nat.le_trans (by decide) hd)) ?_
  refine rr_aast pf_5_51 (bz_s (x := (14, 17)) (by decide +kernel)) (by decide) (by decide) (by unfold rg; omega) (by decide) (by decide +kernel) (fun M2 e => ?_)
  rw [e.trans (bz_u (by decide +kernel) (rfl : 399 + 1 = 400))]
  refine rr_iinc (x := 12) pf_5_52 rfl (fun y => [.ref 103, .int (iI y)]) (fun _ => rfl) (fun y ey => ?_)
  obtain rfl : y = 13 := ey
  refine rr_goto 33 pf_5_55 (by decide) ?_
  refine rr_iload_n pf_5_33 rfl ?_
  refine rr_bipush pf_5_34 (by decide) ?_
  refine rr_icmp_ge 58 pf_5_36 (by decide) (by unfold rg; omega) (by unfold rg; omega) (fun z => absurd z (by decide)) (fun _ => ?_)
  refine rr_aload_n pf_5_39 rfl ?_
  refine rr_getR (q := 104) pf_5_40 po_5 pg_7_13 rfl (bz_s (x := (7, 4)) (by decide +kernel)) (by decide) (by decide +kernel) ?_
  refine rr_iload_n pf_5_43 rfl ?_
  refine rr_new pf_5_44 po_5 pn_7_11 (by decide) rfl (fun M2 e => ?_)
  rw [bz_l (by decide : 158 ≤ 264)] at e ⊢
  rw [e.trans (bz_o (by decide +kernel) (rfl : 400 + 1 = 401))]
  rw [bz_n (by decide +kernel) (rfl : 158 + 1 = 159)]
  refine rr_dup pf_5_47 rfl ?_
  refine rr_cI0 pf_5_48 po_5 pc_7_28 (by decide) rfl (bC_4_159_401 (Nat.le_trans (by decide) hd)) ?_
  refine rr_aast pf_5_51 (bz_s (x := (14, 17)) (by decide +kernel)) (by decide) (by decide) (by unfold rg; omega) (by decide) (by decide +kernel) (fun M2 e => ?_)
  rw [e.trans (bz_u (by decide +kernel) (rfl : 409 + 1 = 410))]
  refine rr_iinc (x := 13) pf_5_52 rfl (fun y => [.ref 103, .int (iI y)]) (fun _ => rfl) (fun y ey => ?_)
  obtain rfl : y = 14 := ey
  refine rr_goto 33 pf_5_55 (by decide) ?_
  refine rr_iload_n pf_5_33 rfl ?_
  refine rr_bipush pf_5_34 (by decide) ?_
  refine rr_icmp_ge 58 pf_5_36 (by decide) (by unfold rg; omega) (by unfold rg; omega) (fun z => absurd z (by decide)) (fun _ => ?_)
  refine rr_aload_n pf_5_39 rfl ?_
  exact G
theorem bk_4_163_411_e {xs : Nat → Int} {L d : Nat} {Q : Option Value → px_H → Prop} (hd : 0 ≤ d) (G : Q none (bS 166, bM 419)) : px_R xs L d 4 (0, [.ref 162], [], (bS 163, bM 411)) Q := by
  refine rr_aload_n pf_4_0 rfl ?_
  refine rr_objI pf_4_1 po_4 pc_1_3 (by decide) ?_
  refine rr_aload_n pf_4_4 rfl ?_
  refine rr_bipush pf_4_5 (by decide) ?_
  refine rr_newa 10 pf_4_7 (by simp) (by decide) (fun M2 e => ?_)
  rw [bz_l (by decide : 163 ≤ 264)] at e ⊢
  rw [e.trans (bz_c (by decide +kernel) (rfl : 411 + 1 = 412))]
  rw [bz_n (by decide +kernel) (rfl : 163 + 1 = 164)]
  refine rr_putR pf_4_9 po_4 pg_1_9 (Or.inr ⟨by decide +kernel, rfl⟩) rfl (bz_s (x := (1, 5)) (by decide +kernel)) (by decide) (fun M2 e => ?_)
  rw [e.trans (bz_u (by decide +kernel) (rfl : 412 + 1 = 413))]
  refine rr_aload_n pf_4_12 rfl ?_
  refine rr_bipush pf_4_13 (by decide) ?_
  refine rr_newa 10 pf_4_15 (by simp) (by decide) (fun M2 e => ?_)
  rw [bz_l (by decide : 164 ≤ 264)] at e ⊢
  rw [e.trans (bz_c (by decide +kernel) (rfl : 413 + 1 = 414))]
  rw [bz_n (by decide +kernel) (rfl : 164 + 1 = 165)]
  refine rr_putR pf_4_17 po_4 pg_1_15 (Or.inr ⟨by decide +kernel, rfl⟩) rfl (bz_s (x := (1, 5)) (by decide +kernel)) (by decide) (fun M2 e => ?_)
  rw [e.trans (bz_u (by decide +kernel) (rfl : 414 + 1 = 415))]
  refine rr_aload_n pf_4_20 rfl ?_
  refine rr_bipush pf_4_21 (by decide) ?_
  refine rr_newa 10 pf_4_23 (by simp) (by decide) (fun M2 e => ?_)
  rw [bz_l (by decide : 165 ≤ 264)] at e ⊢
  rw [e.trans (bz_c (by decide +kernel) (rfl : 415 + 1 = 416))]
  rw [bz_n (by decide +kernel) (rfl : 165 + 1 = 166)]
  refine rr_putR pf_4_25 po_4 pg_1_18 (Or.inr ⟨by decide +kernel, rfl⟩) rfl (bz_s (x := (1, 5)) (by decide +kernel)) (by decide) (fun M2 e => ?_)
  rw [e.trans (bz_u (by decide +kernel) (rfl : 416 + 1 = 417))]
  refine rr_aload_n pf_4_28 rfl ?_
  refine rr_iconst pf_4_29 ?_
  refine rr_putI pf_4_30 po_4 pg_1_21 (Or.inr ⟨by decide +kernel, rfl⟩) rfl (bz_s (x := (1, 5)) (by decide +kernel)) (by decide) (by unfold rg; omega) (fun M2 e => ?_)
  rw [e.trans (bz_u (by decide +kernel) (rfl : 417 + 1 = 418))]
  refine rr_aload_n pf_4_33 rfl ?_
  refine rr_iconst pf_4_34 ?_
  refine rr_putI pf_4_35 po_4 pg_1_25 (Or.inr ⟨by decide +kernel, rfl⟩) rfl (bz_s (x := (1, 5)) (by decide +kernel)) (by decide) (by unfold rg; omega) (fun M2 e => ?_)
  rw [e.trans (bz_u (by decide +kernel) (rfl : 418 + 1 = 419))]
  exact rr_vret pf_4_38 pt_4 G
theorem bC_4_163_411 {xs : Nat → Int} {L d : Nat} (hd : 1 ≤ d) : px_Cl xs L d 4 [.ref 162] (bS 163, bM 411) none (bS 166, bM 419) := by
  obtain ⟨d, rfl⟩ : ∃ e, d = e + 1 := ⟨d - 1, by omega⟩
  refine px_Cl_intro (Nat.le_of_ble_eq_true rfl) ?_
  show px_R xs L d 4 (0, [.ref 162], [], (bS 163, bM 411)) _
  exact bk_4_163_411_e (by omega) ⟨rfl, rfl⟩
theorem bk_4_167_421_e {xs : Nat → Int} {L d : Nat} {Q : Option Value → px_H → Prop} (hd : 0 ≤ d) (G : Q none (bS 170, bM 429)) : px_R xs L d 4 (0, [.ref 166], [], (bS 167, bM 421)) Q := by
  refine rr_aload_n pf_4_0 rfl ?_
  refine rr_objI pf_4_1 po_4 pc_1_3 (by decide) ?_
  refine rr_aload_n pf_4_4 rfl ?_
  refine rr_bipush pf_4_5 (by decide) ?_
  refine rr_newa 10 pf_4_7 (by simp) (by decide) (fun M2 e => ?_)
  rw [bz_l (by decide : 167 ≤ 264)] at e ⊢
  rw [e.trans (bz_c (by decide +kernel) (rfl : 421 + 1 = 422))]
  rw [bz_n (by decide +kernel) (rfl : 167 + 1 = 168)]
  refine rr_putR pf_4_9 po_4 pg_1_9 (Or.inr ⟨by decide +kernel, rfl⟩) rfl (bz_s (x := (1, 5)) (by decide +kernel)) (by decide) (fun M2 e => ?_)
  rw [e.trans (bz_u (by decide +kernel) (rfl : 422 + 1 = 423))]
  refine rr_aload_n pf_4_12 rfl ?_
  refine rr_bipush pf_4_13 (by decide) ?_
  refine rr_newa 10 pf_4_15 (by simp) (by decide) (fun M2 e => ?_)
  rw [bz_l (by decide : 168 ≤ 264)] at e ⊢
  rw [e.trans (bz_c (by decide +kernel) (rfl : 423 + 1 = 424))]
  rw [bz_n (by decide +kernel) (rfl : 168 + 1 = 169)]
  refine rr_putR pf_4_17 po_4 pg_1_15 (Or.inr ⟨by decide +kernel, rfl⟩) rfl (bz_s (x := (1, 5)) (by decide +kernel)) (by decide) (fun M2 e => ?_)
  rw [e.trans (bz_u (by decide +kernel) (rfl : 424 + 1 = 425))]
  refine rr_aload_n pf_4_20 rfl ?_
  refine rr_bipush pf_4_21 (by decide) ?_
  refine rr_newa 10 pf_4_23 (by simp) (by decide) (fun M2 e => ?_)
  rw [bz_l (by decide : 169 ≤ 264)] at e ⊢
  rw [e.trans (bz_c (by decide +kernel) (rfl : 425 + 1 = 426))]
  rw [bz_n (by decide +kernel) (rfl : 169 + 1 = 170)]
  refine rr_putR pf_4_25 po_4 pg_1_18 (Or.inr ⟨by decide +kernel, rfl⟩) rfl (bz_s (x := (1, 5)) (by decide +kernel)) (by decide) (fun M2 e => ?_)
  rw [e.trans (bz_u (by decide +kernel) (rfl : 426 + 1 = 427))]
  refine rr_aload_n pf_4_28 rfl ?_
  refine rr_iconst pf_4_29 ?_
  refine rr_putI pf_4_30 po_4 pg_1_21 (Or.inr ⟨by decide +kernel, rfl⟩) rfl (bz_s (x := (1, 5)) (by decide +kernel)) (by decide) (by unfold rg; omega) (fun M2 e => ?_)
  rw [e.trans (bz_u (by decide +kernel) (rfl : 427 + 1 = 428))]
  refine rr_aload_n pf_4_33 rfl ?_
  refine rr_iconst pf_4_34 ?_
  refine rr_putI pf_4_35 po_4 pg_1_25 (Or.inr ⟨by decide +kernel, rfl⟩) rfl (bz_s (x := (1, 5)) (by decide +kernel)) (by decide) (by unfold rg; omega) (fun M2 e => ?_)
  rw [e.trans (bz_u (by decide +kernel) (rfl : 428 + 1 = 429))]
  exact rr_vret pf_4_38 pt_4 G
theorem bC_4_167_421 {xs : Nat → Int} {L d : Nat} (hd : 1 ≤ d) : px_Cl xs L d 4 [.ref 166] (bS 167, bM 421) none (bS 170, bM 429) := by
  obtain ⟨d, rfl⟩ : ∃ e, d = e + 1 := ⟨d - 1, by omega⟩
  refine px_Cl_intro (Nat.le_of_ble_eq_true rfl) ?_
  show px_R xs L d 4 (0, [.ref 166], [], (bS 167, bM 421)) _
  exact bk_4_167_421_e (by omega) ⟨rfl, rfl⟩
theorem bk_4_171_431_e {xs : Nat → Int} {L d : Nat} {Q : Option Value → px_H → Prop} (hd : 0 ≤ d) (G : Q none (bS 174, bM 439)) : px_R xs L d 4 (0, [.ref 170], [], (bS 171, bM 431)) Q := by
  refine rr_aload_n pf_4_0 rfl ?_
  refine rr_objI pf_4_1 po_4 pc_1_3 (by decide) ?_
  refine rr_aload_n pf_4_4 rfl ?_
  refine rr_bipush pf_4_5 (by decide) ?_
  refine rr_newa 10 pf_4_7 (by simp) (by decide) (fun M2 e => ?_)
  rw [bz_l (by decide : 171 ≤ 264)] at e ⊢
  rw [e.trans (bz_c (by decide +kernel) (rfl : 431 + 1 = 432))]
  rw [bz_n (by decide +kernel) (rfl : 171 + 1 = 172)]
  refine rr_putR pf_4_9 po_4 pg_1_9 (Or.inr ⟨by decide +kernel, rfl⟩) rfl (bz_s (x := (1, 5)) (by decide +kernel)) (by decide) (fun M2 e => ?_)
  rw [e.trans (bz_u (by decide +kernel) (rfl : 432 + 1 = 433))]
  refine rr_aload_n pf_4_12 rfl ?_
  refine rr_bipush pf_4_13 (by decide) ?_
  refine rr_newa 10 pf_4_15 (by simp) (by decide) (fun M2 e => ?_)
  rw [bz_l (by decide : 172 ≤ 264)] at e ⊢
  rw [e.trans (bz_c (by decide +kernel) (rfl : 433 + 1 = 434))]
  rw [bz_n (by decide +kernel) (rfl : 172 + 1 = 173)]
  refine rr_putR pf_4_17 po_4 pg_1_15 (Or.inr ⟨by decide +kernel, rfl⟩) rfl (bz_s (x := (1, 5)) (by decide +kernel)) (by decide) (fun M2 e => ?_)
  rw [e.trans (bz_u (by decide +kernel) (rfl : 434 + 1 = 435))]
  refine rr_aload_n pf_4_20 rfl ?_
  refine rr_bipush pf_4_21 (by decide) ?_
  refine rr_newa 10 pf_4_23 (by simp) (by decide) (fun M2 e => ?_)
  rw [bz_l (by decide : 173 ≤ 264)] at e ⊢
  rw [e.trans (bz_c (by decide +kernel) (rfl : 435 + 1 = 436))]
  rw [bz_n (by decide +kernel) (rfl : 173 + 1 = 174)]
  refine rr_putR pf_4_25 po_4 pg_1_18 (Or.inr ⟨by decide +kernel, rfl⟩) rfl (bz_s (x := (1, 5)) (by decide +kernel)) (by decide) (fun M2 e => ?_)
  rw [e.trans (bz_u (by decide +kernel) (rfl : 436 + 1 = 437))]
  refine rr_aload_n pf_4_28 rfl ?_
  refine rr_iconst pf_4_29 ?_
  refine rr_putI pf_4_30 po_4 pg_1_21 (Or.inr ⟨by decide +kernel, rfl⟩) rfl (bz_s (x := (1, 5)) (by decide +kernel)) (by decide) (by unfold rg; omega) (fun M2 e => ?_)
  rw [e.trans (bz_u (by decide +kernel) (rfl : 437 + 1 = 438))]
  refine rr_aload_n pf_4_33 rfl ?_
  refine rr_iconst pf_4_34 ?_
  refine rr_putI pf_4_35 po_4 pg_1_25 (Or.inr ⟨by decide +kernel, rfl⟩) rfl (bz_s (x := (1, 5)) (by decide +kernel)) (by decide) (by unfold rg; omega) (fun M2 e => ?_)
  rw [e.trans (bz_u (by decide +kernel) (rfl : 438 + 1 = 439))]
  exact rr_vret pf_4_38 pt_4 G
theorem bC_4_171_431 {xs : Nat → Int} {L d : Nat} (hd : 1 ≤ d) : px_Cl xs L d 4 [.ref 170] (bS 171, bM 431) none (bS 174, bM 439) := by
  obtain ⟨d, rfl⟩ : ∃ e, d = e + 1 := ⟨d - 1, by omega⟩
  refine px_Cl_intro (Nat.le_of_ble_eq_true rfl) ?_
  show px_R xs L d 4 (0, [.ref 170], [], (bS 171, bM 431)) _
  exact bk_4_171_431_e (by omega) ⟨rfl, rfl⟩
theorem bk_5_104_264_6 {xs : Nat → Int} {L d : Nat} {Q : Option Value → px_H → Prop} (hd : 1 ≤ d) (G : px_R xs L d 5 (55, [.ref 103, .int (iI (17))], [], (bS 174, bM 440)) Q) : px_R xs L d 5 (40, [.ref 103, .int (iI (14))], [.ref 103], (bS 162, bM 410)) Q := by
  refine rr_getR (q := 104) pf_5_40 po_5 pg_7_13 rfl (bz_s (x := (7, 4)) (by decide +kernel)) (by decide) (by decide +kernel) ?_
  refine rr_iload_n pf_5_43 rfl ?_
  refine rr_new pf_5_44 po_5 pn_7_11 (by decide) rfl (fun M2 e => ?_)
  rw [bz_l (by decide : 162 ≤ 264)] at e ⊢
  rw [e.trans (bz_o (by decide +kernel) (rfl : 410 + 1 = 411))]
  rw [bz_n (by decide +kernel) (rfl : 162 + 1 = 163)]
  refine rr_dup pf_5_47 rfl ?_
  refine rr_cI0 pf_5_48 po_5 pc_7_28 (by decide) rfl (bC_4_163_411 (Nat.le_trans (by decide) hd)) ?_
  refine rr_aast pf_5_51 (bz_s (x := (14, 17)) (by decide +kernel)) (by decide) (by decide) (by unfold rg; omega) (by decide) (by decide +kernel) (fun M2 e => ?_)
  rw [e.trans (bz_u (by decide +kernel) (rfl : 419 + 1 = 420))]
  refine rr_iinc (x := 14) pf_5_52 rfl (fun y => [.ref 103, .int (iI y)]) (fun _ => rfl) (fun y ey => ?_)
  obtain rfl : y = 15 := ey
  refine rr_goto 33 pf_5_55 (by decide) ?_
  refine rr_iload_n pf_5_33 rfl ?_
  refine rr_bipush pf_5_34 (by decide) ?_
  refine rr_icmp_ge 58 pf_5_36 (by decide) (by unfold rg; omega) (by unfold rg; omega) (fun z => absurd z (by decide)) (fun _ => ?_)
  refine rr_aload_n pf_5_39 rfl ?_
  refine rr_getR (q := 104) pf_5_40 po_5 pg_7_13 rfl (bz_s (x := (7, 4)) (by decide +kernel)) (by decide) (by decide +kernel) ?_
  refine rr_iload_n pf_5_43 rfl ?_
  refine rr_new pf_5_44 po_5 pn_7_11 (by decide) rfl (fun M2 e => ?_)
  rw [bz_l (by decide : 166 ≤ 264)] at e ⊢
  rw [e.trans (bz_o (by decide +kernel) (rfl : 420 + 1 = 421))]
  rw [bz_n (by decide +kernel) (rfl : 166 + 1 = 167)]
  refine rr_dup pf_5_47 rfl ?_
  refine rr_cI0 pf_5_48 po_5 pc_7_28 (by decide) rfl (bC_4_167_421 (Nat.le_trans (by decide) hd)) ?_
  refine rr_aast pf_5_51 (bz_s (x := (14, 17)) (by decide +kernel)) (by decide) (by decide) (by unfold rg; omega) (by decide) (by decide +kernel) (fun M2 e => ?_)
  rw [e.trans (bz_u (by decide +kernel) (rfl : 429 + 1 = 430))]
  refine rr_iinc (x := 15) pf_5_52 rfl (fun y => [.ref 103, .int (iI y)]) (fun _ => rfl) (fun y ey => ?_)
  obtain rfl : y = 16 := ey
  refine rr_goto 33 pf_5_55 (by decide) ?_
  refine rr_iload_n pf_5_33 rfl ?_
  refine rr_bipush pf_5_34 (by decide) ?_
  refine rr_icmp_ge 58 pf_5_36 (by decide) (by unfold rg; omega) (by unfold rg; omega) (fun z => absurd z (by decide)) (fun _ => ?_)
  refine rr_aload_n pf_5_39 rfl ?_
  refine rr_getR (q := 104) pf_5_40 po_5 pg_7_13 rfl (bz_s (x := (7, 4)) (by decide +kernel)) (by decide) (by decide +kernel) ?_
  refine rr_iload_n pf_5_43 rfl ?_
  refine rr_new pf_5_44 po_5 pn_7_11 (by decide) rfl (fun M2 e => ?_)
  rw [bz_l (by decide : 170 ≤ 264)] at e ⊢
  rw [e.trans (bz_o (by decide +kernel) (rfl : 430 + 1 = 431))]
  rw [bz_n (by decide +kernel) (rfl : 170 + 1 = 171)]
  refine rr_dup pf_5_47 rfl ?_
  refine rr_cI0 pf_5_48 po_5 pc_7_28 (by decide) rfl (bC_4_171_431 (Nat.le_trans (by decide) hd)) ?_
  refine rr_aast pf_5_51 (bz_s (x := (14, 17)) (by decide +kernel)) (by decide) (by decide) (by unfold rg; omega) (by decide) (by decide +kernel) (fun M2 e => ?_)
  rw [e.trans (bz_u (by decide +kernel) (rfl : 439 + 1 = 440))]
  refine rr_iinc (x := 16) pf_5_52 rfl (fun y => [.ref 103, .int (iI y)]) (fun _ => rfl) (fun y ey => ?_)
  obtain rfl : y = 17 := ey
  exact G
theorem bk_5_104_264_e {xs : Nat → Int} {L d : Nat} {Q : Option Value → px_H → Prop} (hd : 1 ≤ d) (G : Q none (bS 174, bM 440)) : px_R xs L d 5 (55, [.ref 103, .int (iI (17))], [], (bS 174, bM 440)) Q := by
  refine rr_goto 33 pf_5_55 (by decide) ?_
  refine rr_iload_n pf_5_33 rfl ?_
  refine rr_bipush pf_5_34 (by decide) ?_
  refine rr_icmp_ge 58 pf_5_36 (by decide) (by unfold rg; omega) (by unfold rg; omega) (fun _ => ?_) (fun z => absurd z (by decide))
  exact rr_vret pf_5_58 pt_5 G
theorem bC_5_104_264 {xs : Nat → Int} {L d : Nat} (hd : 2 ≤ d) : px_Cl xs L d 5 [.ref 103] (bS 104, bM 264) none (bS 174, bM 440) := by
  obtain ⟨d, rfl⟩ : ∃ e, d = e + 1 := ⟨d - 1, by omega⟩
  refine px_Cl_intro (Nat.le_of_ble_eq_true rfl) ?_
  show px_R xs L d 5 (0, [.ref 103, px_jk], [], (bS 104, bM 264)) _
  refine bk_5_104_264_0 (by omega) ?_
  refine bk_5_104_264_1 (by omega) ?_
  refine bk_5_104_264_2 (by omega) ?_
  refine bk_5_104_264_3 (by omega) ?_
  refine bk_5_104_264_4 (by omega) ?_
  refine bk_5_104_264_5 (by omega) ?_
  refine bk_5_104_264_6 (by omega) ?_
  exact bk_5_104_264_e (by omega) ⟨rfl, rfl⟩
theorem bk_6_99_252_0 {xs : Nat → Int} {L d : Nat} {Q : Option Value → px_H → Prop} (hd : 2 ≤ d) (G : px_R xs L d 6 (55, [.ref 98, .ref 3, .ref 27, .ref 1], [.ref 98], (bS 175, bM 446)) Q) : px_R xs L d 6 (0, [.ref 98, .ref 3, .ref 27, .ref 1], [], (bS 99, bM 252)) Q := by
  refine rr_aload_n pf_6_0 rfl ?_
  refine rr_objI pf_6_1 po_6 pc_4_3 (by decide) ?_
  refine rr_aload_n pf_6_4 rfl ?_
  refine rr_iconst pf_6_5 ?_
  refine rr_putI pf_6_6 po_6 pg_4_9 (Or.inr ⟨by decide +kernel, rfl⟩) rfl (bz_s (x := (4, 9)) (by decide +kernel)) (by decide) (by unfold rg; omega) (fun M2 e => ?_)
  rw [e.trans (bz_u (by decide +kernel) (rfl : 252 + 1 = 253))]
  refine rr_aload_n pf_6_9 rfl ?_
  refine rr_new pf_6_10 po_6 pn_4_15 (by decide) rfl (fun M2 e => ?_)
  rw [bz_l (by decide : 99 ≤ 264)] at e ⊢
  rw [e.trans (bz_o (by decide +kernel) (rfl : 253 + 1 = 254))]
  rw [bz_n (by decide +kernel) (rfl : 99 + 1 = 100)]
  refine rr_dup pf_6_13 rfl ?_
  refine rr_cI0 pf_6_14 po_6 pc_4_17 (by decide) rfl (bC_4_100_254 (Nat.le_trans (by decide) hd)) ?_
  refine rr_putR pf_6_17 po_6 pg_4_18 (Or.inr ⟨by decide +kernel, rfl⟩) rfl (bz_s (x := (4, 9)) (by decide +kernel)) (by decide) (fun M2 e => ?_)
  rw [e.trans (bz_u (by decide +kernel) (rfl : 262 + 1 = 263))]
  refine rr_aload_n pf_6_20 rfl ?_
  refine rr_new pf_6_21 po_6 pn_4_22 (by decide) rfl (fun M2 e => ?_)
  rw [bz_l (by decide : 103 ≤ 264)] at e ⊢
  rw [e.trans (bz_o (by decide +kernel) (rfl : 263 + 1 = 264))]
  rw [bz_n (by decide +kernel) (rfl : 103 + 1 = 104)]
  refine rr_dup pf_6_24 rfl ?_
  refine rr_cI0 pf_6_25 po_6 pc_4_24 (by decide) rfl (bC_5_104_264 (Nat.le_trans (by decide) hd)) ?_
  refine rr_putR pf_6_28 po_6 pg_4_25 (Or.inr ⟨by decide +kernel, rfl⟩) rfl (bz_s (x := (4, 9)) (by decide +kernel)) (by decide) (fun M2 e => ?_)
  rw [e.trans (bz_u (by decide +kernel) (rfl : 440 + 1 = 441))]
  refine rr_aload_n pf_6_31 rfl ?_
  refine rr_bipush pf_6_32 (by decide) ?_
  refine rr_newa 10 pf_6_34 (by simp) (by decide) (fun M2 e => ?_)
  rw [bz_l (by decide : 174 ≤ 264)] at e ⊢
  rw [e.trans (bz_c (by decide +kernel) (rfl : 441 + 1 = 442))]
  rw [bz_n (by decide +kernel) (rfl : 174 + 1 = 175)]
  refine rr_putR pf_6_36 po_6 pg_4_29 (Or.inr ⟨by decide +kernel, rfl⟩) rfl (bz_s (x := (4, 9)) (by decide +kernel)) (by decide) (fun M2 e => ?_)
  rw [e.trans (bz_u (by decide +kernel) (rfl : 442 + 1 = 443))]
  refine rr_aload_n pf_6_39 rfl ?_
  refine rr_iconst pf_6_40 ?_
  refine rr_putI pf_6_41 po_6 pg_4_33 (Or.inr ⟨by decide +kernel, rfl⟩) rfl (bz_s (x := (4, 9)) (by decide +kernel)) (by decide) (by unfold rg; omega) (fun M2 e => ?_)
  rw [e.trans (bz_u (by decide +kernel) (rfl : 443 + 1 = 444))]
  refine rr_aload_n pf_6_44 rfl ?_
  refine rr_iconst pf_6_45 ?_
  refine rr_putI pf_6_46 po_6 pg_4_36 (Or.inr ⟨by decide +kernel, rfl⟩) rfl (bz_s (x := (4, 9)) (by decide +kernel)) (by decide) (by unfold rg; omega) (fun M2 e => ?_)
  rw [e.trans (bz_u (by decide +kernel) (rfl : 444 + 1 = 445))]
  refine rr_aload_n pf_6_49 rfl ?_
  refine rr_aload_n pf_6_50 rfl ?_
  refine rr_putR pf_6_51 po_6 pg_4_39 (Or.inr ⟨by decide +kernel, rfl⟩) rfl (bz_s (x := (4, 9)) (by decide +kernel)) (by decide) (fun M2 e => ?_)
  rw [e.trans (bz_u (by decide +kernel) (rfl : 445 + 1 = 446))]
  refine rr_aload_n pf_6_54 rfl ?_
  exact G
theorem bk_6_99_252_e {xs : Nat → Int} {L d : Nat} {Q : Option Value → px_H → Prop} (hd : 2 ≤ d) (G : Q none (bS 175, bM 448)) : px_R xs L d 6 (55, [.ref 98, .ref 3, .ref 27, .ref 1], [.ref 98], (bS 175, bM 446)) Q := by
  refine rr_aload_n pf_6_55 rfl ?_
  refine rr_putR pf_6_56 po_6 pg_4_43 (Or.inr ⟨by decide +kernel, rfl⟩) rfl (bz_s (x := (4, 9)) (by decide +kernel)) (by decide) (fun M2 e => ?_)
  rw [e.trans (bz_u (by decide +kernel) (rfl : 446 + 1 = 447))]
  refine rr_aload_n pf_6_59 rfl ?_
  refine rr_aload_n pf_6_60 rfl ?_
  refine rr_putR pf_6_61 po_6 pg_4_46 (Or.inr ⟨by decide +kernel, rfl⟩) rfl (bz_s (x := (4, 9)) (by decide +kernel)) (by decide) (fun M2 e => ?_)
  rw [e.trans (bz_u (by decide +kernel) (rfl : 447 + 1 = 448))]
  exact rr_vret pf_6_64 pt_6 G
theorem bC_6_99_252 {xs : Nat → Int} {L d : Nat} (hd : 3 ≤ d) : px_Cl xs L d 6 [.ref 98, .ref 3, .ref 27, .ref 1] (bS 99, bM 252) none (bS 175, bM 448) := by
  obtain ⟨d, rfl⟩ : ∃ e, d = e + 1 := ⟨d - 1, by omega⟩
  refine px_Cl_intro (Nat.le_of_ble_eq_true rfl) ?_
  show px_R xs L d 6 (0, [.ref 98, .ref 3, .ref 27, .ref 1], [], (bS 99, bM 252)) _
  refine bk_6_99_252_0 (by omega) ?_
  exact bk_6_99_252_e (by omega) ⟨rfl, rfl⟩
theorem bk_7_176_450_0 {xs : Nat → Int} {L d : Nat} {Q : Option Value → px_H → Prop} (hd : 0 ≤ d) (G : px_R xs L d 7 (54, [.ref 175, .ref 3, .ref 1], [.ref 180, .ref 175], (bS 181, bM 461)) Q) : px_R xs L d 7 (0, [.ref 175, .ref 3, .ref 1], [], (bS 176, bM 450)) Q := by
  refine rr_aload_n pf_7_0 rfl ?_
  refine rr_objI pf_7_1 po_7 pc_2_3 (by decide) ?_
  refine rr_aload_n pf_7_4 rfl ?_
  refine rr_sipush pf_7_5 (by decide) ?_
  refine rr_newa 10 pf_7_8 (by simp) (by decide) (fun M2 e => ?_)
  rw [bz_l (by decide : 176 ≤ 264)] at e ⊢
  rw [e.trans (bz_c (by decide +kernel) (rfl : 450 + 1 = 451))]
  rw [bz_n (by decide +kernel) (rfl : 176 + 1 = 177)]
  refine rr_putR pf_7_10 po_7 pg_2_11 (Or.inr ⟨by decide +kernel, rfl⟩) rfl (bz_s (x := (2, 19)) (by decide +kernel)) (by decide) (fun M2 e => ?_)
  rw [e.trans (bz_u (by decide +kernel) (rfl : 451 + 1 = 452))]
  refine rr_aload_n pf_7_13 rfl ?_
  refine rr_iconst pf_7_14 ?_
  refine rr_putI pf_7_15 po_7 pg_2_15 (Or.inr ⟨by decide +kernel, rfl⟩) rfl (bz_s (x := (2, 19)) (by decide +kernel)) (by decide) (by unfold rg; omega) (fun M2 e => ?_)
  rw [e.trans (bz_u (by decide +kernel) (rfl : 452 + 1 = 453))]
  refine rr_aload_n pf_7_18 rfl ?_
  refine rr_iconst pf_7_19 ?_
  refine rr_putI pf_7_20 po_7 pg_2_19 (Or.inr ⟨by decide +kernel, rfl⟩) rfl (bz_s (x := (2, 19)) (by decide +kernel)) (by decide) (by unfold rg; omega) (fun M2 e => ?_)
  rw [e.trans (bz_u (by decide +kernel) (rfl : 453 + 1 = 454))]
  refine rr_aload_n pf_7_23 rfl ?_
  refine rr_sipush pf_7_24 (by decide) ?_
  refine rr_newa 10 pf_7_27 (by simp) (by decide) (fun M2 e => ?_)
  rw [bz_l (by decide : 177 ≤ 264)] at e ⊢
  rw [e.trans (bz_c (by decide +kernel) (rfl : 454 + 1 = 455))]
  rw [bz_n (by decide +kernel) (rfl : 177 + 1 = 178)]
  refine rr_putR pf_7_29 po_7 pg_2_22 (Or.inr ⟨by decide +kernel, rfl⟩) rfl (bz_s (x := (2, 19)) (by decide +kernel)) (by decide) (fun M2 e => ?_)
  rw [e.trans (bz_u (by decide +kernel) (rfl : 455 + 1 = 456))]
  refine rr_aload_n pf_7_32 rfl ?_
  refine rr_iconst pf_7_33 ?_
  refine rr_newa 10 pf_7_34 (by simp) (by decide) (fun M2 e => ?_)
  rw [bz_l (by decide : 178 ≤ 264)] at e ⊢
  rw [e.trans (bz_c (by decide +kernel) (rfl : 456 + 1 = 457))]
  rw [bz_n (by decide +kernel) (rfl : 178 + 1 = 179)]
  refine rr_putR pf_7_36 po_7 pg_2_25 (Or.inr ⟨by decide +kernel, rfl⟩) rfl (bz_s (x := (2, 19)) (by decide +kernel)) (by decide) (fun M2 e => ?_)
  rw [e.trans (bz_u (by decide +kernel) (rfl : 457 + 1 = 458))]
  refine rr_aload_n pf_7_39 rfl ?_
  refine rr_sipush pf_7_40 (by decide) ?_
  refine rr_newa 10 pf_7_43 (by simp) (by decide) (fun M2 e => ?_)
  rw [bz_l (by decide : 179 ≤ 264)] at e ⊢
  rw [e.trans (bz_c (by decide +kernel) (rfl : 458 + 1 = 459))]
  rw [bz_n (by decide +kernel) (rfl : 179 + 1 = 180)]
  refine rr_putR pf_7_45 po_7 pg_2_28 (Or.inr ⟨by decide +kernel, rfl⟩) rfl (bz_s (x := (2, 19)) (by decide +kernel)) (by decide) (fun M2 e => ?_)
  rw [e.trans (bz_u (by decide +kernel) (rfl : 459 + 1 = 460))]
  refine rr_aload_n pf_7_48 rfl ?_
  refine rr_sipush pf_7_49 (by decide) ?_
  refine rr_newa 10 pf_7_52 (by simp) (by decide) (fun M2 e => ?_)
  rw [bz_l (by decide : 180 ≤ 264)] at e ⊢
  rw [e.trans (bz_c (by decide +kernel) (rfl : 460 + 1 = 461))]
  rw [bz_n (by decide +kernel) (rfl : 180 + 1 = 181)]
  exact G
theorem bk_7_176_450_1 {xs : Nat → Int} {L d : Nat} {Q : Option Value → px_H → Prop} (hd : 0 ≤ d) (G : px_R xs L d 7 (104, [.ref 175, .ref 3, .ref 1], [.ref 186, .ref 175], (bS 187, bM 473)) Q) : px_R xs L d 7 (54, [.ref 175, .ref 3, .ref 1], [.ref 180, .ref 175], (bS 181, bM 461)) Q := by
  refine rr_putR pf_7_54 po_7 pg_2_31 (Or.inr ⟨by decide +kernel, rfl⟩) rfl (bz_s (x := (2, 19)) (by decide +kernel)) (by decide) (fun M2 e => ?_)
  rw [e.trans (bz_u (by decide +kernel) (rfl : 461 + 1 = 462))]
  refine rr_aload_n pf_7_57 rfl ?_
  refine rr_sipush pf_7_58 (by decide) ?_
  refine rr_newa 10 pf_7_61 (by simp) (by decide) (fun M2 e => ?_)
  rw [bz_l (by decide : 181 ≤ 264)] at e ⊢
  rw [e.trans (bz_c (by decide +kernel) (rfl : 462 + 1 = 463))]
  rw [bz_n (by decide +kernel) (rfl : 181 + 1 = 182)]
  refine rr_putR pf_7_63 po_7 pg_2_34 (Or.inr ⟨by decide +kernel, rfl⟩) rfl (bz_s (x := (2, 19)) (by decide +kernel)) (by decide) (fun M2 e => ?_)
  rw [e.trans (bz_u (by decide +kernel) (rfl : 463 + 1 = 464))]
  refine rr_aload_n pf_7_66 rfl ?_
  refine rr_bipush pf_7_67 (by decide) ?_
  refine rr_newa 10 pf_7_69 (by simp) (by decide) (fun M2 e => ?_)
  rw [bz_l (by decide : 182 ≤ 264)] at e ⊢
  rw [e.trans (bz_c (by decide +kernel) (rfl : 464 + 1 = 465))]
  rw [bz_n (by decide +kernel) (rfl : 182 + 1 = 183)]
  refine rr_putR pf_7_71 po_7 pg_2_37 (Or.inr ⟨by decide +kernel, rfl⟩) rfl (bz_s (x := (2, 19)) (by decide +kernel)) (by decide) (fun M2 e => ?_)
  rw [e.trans (bz_u (by decide +kernel) (rfl : 465 + 1 = 466))]
  refine rr_aload_n pf_7_74 rfl ?_
  refine rr_sipush pf_7_75 (by decide) ?_
  refine rr_newa 10 pf_7_78 (by simp) (by decide) (fun M2 e => ?_)
  rw [bz_l (by decide : 183 ≤ 264)] at e ⊢
  rw [e.trans (bz_c (by decide +kernel) (rfl : 466 + 1 = 467))]
  rw [bz_n (by decide +kernel) (rfl : 183 + 1 = 184)]
  refine rr_putR pf_7_80 po_7 pg_2_40 (Or.inr ⟨by decide +kernel, rfl⟩) rfl (bz_s (x := (2, 19)) (by decide +kernel)) (by decide) (fun M2 e => ?_)
  rw [e.trans (bz_u (by decide +kernel) (rfl : 467 + 1 = 468))]
  refine rr_aload_n pf_7_83 rfl ?_
  refine rr_bipush pf_7_84 (by decide) ?_
  refine rr_newa 10 pf_7_86 (by simp) (by decide) (fun M2 e => ?_)
  rw [bz_l (by decide : 184 ≤ 264)] at e ⊢
  rw [e.trans (bz_c (by decide +kernel) (rfl : 468 + 1 = 469))]
  rw [bz_n (by decide +kernel) (rfl : 184 + 1 = 185)]
  refine rr_putR pf_7_88 po_7 pg_2_43 (Or.inr ⟨by decide +kernel, rfl⟩) rfl (bz_s (x := (2, 19)) (by decide +kernel)) (by decide) (fun M2 e => ?_)
  rw [e.trans (bz_u (by decide +kernel) (rfl : 469 + 1 = 470))]
  refine rr_aload_n pf_7_91 rfl ?_
  refine rr_bipush pf_7_92 (by decide) ?_
  refine rr_newa 10 pf_7_94 (by simp) (by decide) (fun M2 e => ?_)
  rw [bz_l (by decide : 185 ≤ 264)] at e ⊢
  rw [e.trans (bz_c (by decide +kernel) (rfl : 470 + 1 = 471))]
  rw [bz_n (by decide +kernel) (rfl : 185 + 1 = 186)]
  refine rr_putR pf_7_96 po_7 pg_2_46 (Or.inr ⟨by decide +kernel, rfl⟩) rfl (bz_s (x := (2, 19)) (by decide +kernel)) (by decide) (fun M2 e => ?_)
  rw [e.trans (bz_u (by decide +kernel) (rfl : 471 + 1 = 472))]
  refine rr_aload_n pf_7_99 rfl ?_
  refine rr_bipush pf_7_100 (by decide) ?_
  refine rr_newa 10 pf_7_102 (by simp) (by decide) (fun M2 e => ?_)
  rw [bz_l (by decide : 186 ≤ 264)] at e ⊢
  rw [e.trans (bz_c (by decide +kernel) (rfl : 472 + 1 = 473))]
  rw [bz_n (by decide +kernel) (rfl : 186 + 1 = 187)]
  exact G
theorem bk_4_190_482_e {xs : Nat → Int} {L d : Nat} {Q : Option Value → px_H → Prop} (hd : 0 ≤ d) (G : Q none (bS 193, bM 490)) : px_R xs L d 4 (0, [.ref 189], [], (bS 190, bM 482)) Q := by
  refine rr_aload_n pf_4_0 rfl ?_
  refine rr_objI pf_4_1 po_4 pc_1_3 (by decide) ?_
  refine rr_aload_n pf_4_4 rfl ?_
  refine rr_bipush pf_4_5 (by decide) ?_
  refine rr_newa 10 pf_4_7 (by simp) (by decide) (fun M2 e => ?_)
  rw [bz_l (by decide : 190 ≤ 264)] at e ⊢
  rw [e.trans (bz_c (by decide +kernel) (rfl : 482 + 1 = 483))]
  rw [bz_n (by decide +kernel) (rfl : 190 + 1 = 191)]
  refine rr_putR pf_4_9 po_4 pg_1_9 (Or.inr ⟨by decide +kernel, rfl⟩) rfl (bz_s (x := (1, 5)) (by decide +kernel)) (by decide) (fun M2 e => ?_)
  rw [e.trans (bz_u (by decide +kernel) (rfl : 483 + 1 = 484))]
  refine rr_aload_n pf_4_12 rfl ?_
  refine rr_bipush pf_4_13 (by decide) ?_
  refine rr_newa 10 pf_4_15 (by simp) (by decide) (fun M2 e => ?_)
  rw [bz_l (by decide : 191 ≤ 264)] at e ⊢
  rw [e.trans (bz_c (by decide +kernel) (rfl : 484 + 1 = 485))]
  rw [bz_n (by decide +kernel) (rfl : 191 + 1 = 192)]
  refine rr_putR pf_4_17 po_4 pg_1_15 (Or.inr ⟨by decide +kernel, rfl⟩) rfl (bz_s (x := (1, 5)) (by decide +kernel)) (by decide) (fun M2 e => ?_)
  rw [e.trans (bz_u (by decide +kernel) (rfl : 485 + 1 = 486))]
  refine rr_aload_n pf_4_20 rfl ?_
  refine rr_bipush pf_4_21 (by decide) ?_
  refine rr_newa 10 pf_4_23 (by simp) (by decide) (fun M2 e => ?_)
  rw [bz_l (by decide : 192 ≤ 264)] at e ⊢
  rw [e.trans (bz_c (by decide +kernel) (rfl : 486 + 1 = 487))]
  rw [bz_n (by decide +kernel) (rfl : 192 + 1 = 193)]
  refine rr_putR pf_4_25 po_4 pg_1_18 (Or.inr ⟨by decide +kernel, rfl⟩) rfl (bz_s (x := (1, 5)) (by decide +kernel)) (by decide) (fun M2 e => ?_)
  rw [e.trans (bz_u (by decide +kernel) (rfl : 487 + 1 = 488))]
  refine rr_aload_n pf_4_28 rfl ?_
  refine rr_iconst pf_4_29 ?_
  refine rr_putI pf_4_30 po_4 pg_1_21 (Or.inr ⟨by decide +kernel, rfl⟩) rfl (bz_s (x := (1, 5)) (by decide +kernel)) (by decide) (by unfold rg; omega) (fun M2 e => ?_)
  rw [e.trans (bz_u (by decide +kernel) (rfl : 488 + 1 = 489))]
  refine rr_aload_n pf_4_33 rfl ?_
  refine rr_iconst pf_4_34 ?_
  refine rr_putI pf_4_35 po_4 pg_1_25 (Or.inr ⟨by decide +kernel, rfl⟩) rfl (bz_s (x := (1, 5)) (by decide +kernel)) (by decide) (by unfold rg; omega) (fun M2 e => ?_)
  rw [e.trans (bz_u (by decide +kernel) (rfl : 489 + 1 = 490))]
  exact rr_vret pf_4_38 pt_4 G
theorem bC_4_190_482 {xs : Nat → Int} {L d : Nat} (hd : 1 ≤ d) : px_Cl xs L d 4 [.ref 189] (bS 190, bM 482) none (bS 193, bM 490) := by
  obtain ⟨d, rfl⟩ : ∃ e, d = e + 1 := ⟨d - 1, by omega⟩
  refine px_Cl_intro (Nat.le_of_ble_eq_true rfl) ?_
  show px_R xs L d 4 (0, [.ref 189], [], (bS 190, bM 482)) _
  exact bk_4_190_482_e (by omega) ⟨rfl, rfl⟩
theorem bk_3_189_481_0 {xs : Nat → Int} {L d : Nat} {Q : Option Value → px_H → Prop} (hd : 1 ≤ d) (G : px_R xs L d 3 (50, [.ref 188, .ref 1], [.int (iI (3)), .ref 188], (bS 197, bM 499)) Q) : px_R xs L d 3 (0, [.ref 188, .ref 1], [], (bS 189, bM 481)) Q := by
  refine rr_aload_n pf_3_0 rfl ?_
  refine rr_objI pf_3_1 po_3 pc_0_3 (by decide) ?_
  refine rr_aload_n pf_3_4 rfl ?_
  refine rr_new pf_3_5 po_3 pn_0_9 (by decide) rfl (fun M2 e => ?_)
  rw [bz_l (by decide : 189 ≤ 264)] at e ⊢
  rw [e.trans (bz_o (by decide +kernel) (rfl : 481 + 1 = 482))]
  rw [bz_n (by decide +kernel) (rfl : 189 + 1 = 190)]
  refine rr_dup pf_3_8 rfl ?_
  refine rr_cI0 pf_3_9 po_3 pc_0_11 (by decide) rfl (bC_4_190_482 (Nat.le_trans (by decide) hd)) ?_
  refine rr_putR pf_3_12 po_3 pg_0_12 (Or.inr ⟨by decide +kernel, rfl⟩) rfl (bz_s (x := (0, 15)) (by decide +kernel)) (by decide) (fun M2 e => ?_)
  rw [e.trans (bz_u (by decide +kernel) (rfl : 490 + 1 = 491))]
  refine rr_aload_n pf_3_15 rfl ?_
  refine rr_bipush pf_3_16 (by decide) ?_
  refine rr_newa 10 pf_3_18 (by simp) (by decide) (fun M2 e => ?_)
  rw [bz_l (by decide : 193 ≤ 264)] at e ⊢
  rw [e.trans (bz_c (by decide +kernel) (rfl : 491 + 1 = 492))]
  rw [bz_n (by decide +kernel) (rfl : 193 + 1 = 194)]
  refine rr_putR pf_3_20 po_3 pg_0_18 (Or.inr ⟨by decide +kernel, rfl⟩) rfl (bz_s (x := (0, 15)) (by decide +kernel)) (by decide) (fun M2 e => ?_)
  rw [e.trans (bz_u (by decide +kernel) (rfl : 492 + 1 = 493))]
  refine rr_aload_n pf_3_23 rfl ?_
  refine rr_bipush pf_3_24 (by decide) ?_
  refine rr_newa 10 pf_3_26 (by simp) (by decide) (fun M2 e => ?_)
  rw [bz_l (by decide : 194 ≤ 264)] at e ⊢
  rw [e.trans (bz_c (by decide +kernel) (rfl : 493 + 1 = 494))]
  rw [bz_n (by decide +kernel) (rfl : 194 + 1 = 195)]
  refine rr_putR pf_3_28 po_3 pg_0_22 (Or.inr ⟨by decide +kernel, rfl⟩) rfl (bz_s (x := (0, 15)) (by decide +kernel)) (by decide) (fun M2 e => ?_)
  rw [e.trans (bz_u (by decide +kernel) (rfl : 494 + 1 = 495))]
  refine rr_aload_n pf_3_31 rfl ?_
  refine rr_bipush pf_3_32 (by decide) ?_
  refine rr_newa 10 pf_3_34 (by simp) (by decide) (fun M2 e => ?_)
  rw [bz_l (by decide : 195 ≤ 264)] at e ⊢
  rw [e.trans (bz_c (by decide +kernel) (rfl : 495 + 1 = 496))]
  rw [bz_n (by decide +kernel) (rfl : 195 + 1 = 196)]
  refine rr_putR pf_3_36 po_3 pg_0_25 (Or.inr ⟨by decide +kernel, rfl⟩) rfl (bz_s (x := (0, 15)) (by decide +kernel)) (by decide) (fun M2 e => ?_)
  rw [e.trans (bz_u (by decide +kernel) (rfl : 496 + 1 = 497))]
  refine rr_aload_n pf_3_39 rfl ?_
  refine rr_bipush pf_3_40 (by decide) ?_
  refine rr_anewa 13 pf_3_42 po_3 pn_0_28 (by simp) (by decide) (fun M2 e => ?_)
  rw [bz_l (by decide : 196 ≤ 264)] at e ⊢
  rw [e.trans (bz_c (by decide +kernel) (rfl : 497 + 1 = 498))]
  rw [bz_n (by decide +kernel) (rfl : 196 + 1 = 197)]
  refine rr_putR pf_3_45 po_3 pg_0_30 (Or.inr ⟨by decide +kernel, rfl⟩) rfl (bz_s (x := (0, 15)) (by decide +kernel)) (by decide) (fun M2 e => ?_)
  rw [e.trans (bz_u (by decide +kernel) (rfl : 498 + 1 = 499))]
  refine rr_aload_n pf_3_48 rfl ?_
  refine rr_iconst pf_3_49 ?_
  exact G
theorem bk_3_189_481_1 {xs : Nat → Int} {L d : Nat} {Q : Option Value → px_H → Prop} (hd : 1 ≤ d) (G : px_R xs L d 3 (103, [.ref 188, .ref 1], [], (bS 199, bM 511)) Q) : px_R xs L d 3 (50, [.ref 188, .ref 1], [.int (iI (3)), .ref 188], (bS 197, bM 499)) Q := by
  refine rr_newa 10 pf_3_50 (by simp) (by decide) (fun M2 e => ?_)
  rw [bz_l (by decide : 197 ≤ 264)] at e ⊢
  rw [e.trans (bz_c (by decide +kernel) (rfl : 499 + 1 = 500))]
  rw [bz_n (by decide +kernel) (rfl : 197 + 1 = 198)]
  refine rr_putR pf_3_52 po_3 pg_0_34 (Or.inr ⟨by decide +kernel, rfl⟩) rfl (bz_s (x := (0, 15)) (by decide +kernel)) (by decide) (fun M2 e => ?_)
  rw [e.trans (bz_u (by decide +kernel) (rfl : 500 + 1 = 501))]
  refine rr_aload_n pf_3_55 rfl ?_
  refine rr_iconst pf_3_56 ?_
  refine rr_putI pf_3_57 po_3 pg_0_37 (Or.inr ⟨by decide +kernel, rfl⟩) rfl (bz_s (x := (0, 15)) (by decide +kernel)) (by decide) (by unfold rg; omega) (fun M2 e => ?_)
  rw [e.trans (bz_u (by decide +kernel) (rfl : 501 + 1 = 502))]
  refine rr_aload_n pf_3_60 rfl ?_
  refine rr_iconst pf_3_61 ?_
  refine rr_putI pf_3_62 po_3 pg_0_41 (Or.inr ⟨by decide +kernel, rfl⟩) rfl (bz_s (x := (0, 15)) (by decide +kernel)) (by decide) (by unfold rg; omega) (fun M2 e => ?_)
  rw [e.trans (bz_u (by decide +kernel) (rfl : 502 + 1 = 503))]
  refine rr_aload_n pf_3_65 rfl ?_
  refine rr_iconst pf_3_66 ?_
  refine rr_putI pf_3_67 po_3 pg_0_44 (Or.inr ⟨by decide +kernel, rfl⟩) rfl (bz_s (x := (0, 15)) (by decide +kernel)) (by decide) (by unfold rg; omega) (fun M2 e => ?_)
  rw [e.trans (bz_u (by decide +kernel) (rfl : 503 + 1 = 504))]
  refine rr_aload_n pf_3_70 rfl ?_
  refine rr_iconst pf_3_71 ?_
  refine rr_putI pf_3_72 po_3 pg_0_47 (Or.inr ⟨by decide +kernel, rfl⟩) rfl (bz_s (x := (0, 15)) (by decide +kernel)) (by decide) (by unfold rg; omega) (fun M2 e => ?_)
  rw [e.trans (bz_u (by decide +kernel) (rfl : 504 + 1 = 505))]
  refine rr_aload_n pf_3_75 rfl ?_
  refine rr_iconst pf_3_76 ?_
  refine rr_putI pf_3_77 po_3 pg_0_50 (Or.inr ⟨by decide +kernel, rfl⟩) rfl (bz_s (x := (0, 15)) (by decide +kernel)) (by decide) (by unfold rg; omega) (fun M2 e => ?_)
  rw [e.trans (bz_u (by decide +kernel) (rfl : 505 + 1 = 506))]
  refine rr_aload_n pf_3_80 rfl ?_
  refine rr_iconst pf_3_81 ?_
  refine rr_putI pf_3_82 po_3 pg_0_53 (Or.inr ⟨by decide +kernel, rfl⟩) rfl (bz_s (x := (0, 15)) (by decide +kernel)) (by decide) (by unfold rg; omega) (fun M2 e => ?_)
  rw [e.trans (bz_u (by decide +kernel) (rfl : 506 + 1 = 507))]
  refine rr_aload_n pf_3_85 rfl ?_
  refine rr_iconst pf_3_86 ?_
  refine rr_putI pf_3_87 po_3 pg_0_56 (Or.inr ⟨by decide +kernel, rfl⟩) rfl (bz_s (x := (0, 15)) (by decide +kernel)) (by decide) (by unfold rg; omega) (fun M2 e => ?_)
  rw [e.trans (bz_u (by decide +kernel) (rfl : 507 + 1 = 508))]
  refine rr_aload_n pf_3_90 rfl ?_
  refine rr_bipush pf_3_91 (by decide) ?_
  refine rr_newa 10 pf_3_93 (by simp) (by decide) (fun M2 e => ?_)
  rw [bz_l (by decide : 198 ≤ 264)] at e ⊢
  rw [e.trans (bz_c (by decide +kernel) (rfl : 508 + 1 = 509))]
  rw [bz_n (by decide +kernel) (rfl : 198 + 1 = 199)]
  refine rr_putR pf_3_95 po_3 pg_0_59 (Or.inr ⟨by decide +kernel, rfl⟩) rfl (bz_s (x := (0, 15)) (by decide +kernel)) (by decide) (fun M2 e => ?_)
  rw [e.trans (bz_u (by decide +kernel) (rfl : 509 + 1 = 510))]
  refine rr_aload_n pf_3_98 rfl ?_
  refine rr_aload_n pf_3_99 rfl ?_
  refine rr_putR pf_3_100 po_3 pg_0_62 (Or.inr ⟨by decide +kernel, rfl⟩) rfl (bz_s (x := (0, 15)) (by decide +kernel)) (by decide) (fun M2 e => ?_)
  rw [e.trans (bz_u (by decide +kernel) (rfl : 510 + 1 = 511))]
  exact G
theorem bk_3_189_481_e {xs : Nat → Int} {L d : Nat} {Q : Option Value → px_H → Prop} (hd : 1 ≤ d) (G : Q none (bS 199, bM 511)) : px_R xs L d 3 (103, [.ref 188, .ref 1], [], (bS 199, bM 511)) Q := by
  exact rr_vret pf_3_103 pt_3 G
theorem bC_3_189_481 {xs : Nat → Int} {L d : Nat} (hd : 2 ≤ d) : px_Cl xs L d 3 [.ref 188, .ref 1] (bS 189, bM 481) none (bS 199, bM 511) := by
  obtain ⟨d, rfl⟩ : ∃ e, d = e + 1 := ⟨d - 1, by omega⟩
  refine px_Cl_intro (Nat.le_of_ble_eq_true rfl) ?_
  show px_R xs L d 3 (0, [.ref 188, .ref 1], [], (bS 189, bM 481)) _
  refine bk_3_189_481_0 (by omega) ?_
  refine bk_3_189_481_1 (by omega) ?_
  exact bk_3_189_481_e (by omega) ⟨rfl, rfl⟩
theorem bk_7_176_450_e {xs : Nat → Int} {L d : Nat} {Q : Option Value → px_H → Prop} (hd : 2 ≤ d) (G : Q none (bS 199, bM 512)) : px_R xs L d 7 (104, [.ref 175, .ref 3, .ref 1], [.ref 186, .ref 175], (bS 187, bM 473)) Q := by
  refine rr_putR pf_7_104 po_7 pg_2_49 (Or.inr ⟨by decide +kernel, rfl⟩) rfl (bz_s (x := (2, 19)) (by decide +kernel)) (by decide) (fun M2 e => ?_)
  rw [e.trans (bz_u (by decide +kernel) (rfl : 473 + 1 = 474))]
  refine rr_aload_n pf_7_107 rfl ?_
  refine rr_bipush pf_7_108 (by decide) ?_
  refine rr_newa 12 pf_7_110 (by simp) (by decide) (fun M2 e => ?_)
  rw [bz_l (by decide : 187 ≤ 264)] at e ⊢
  rw [e.trans (bz_c (by decide +kernel) (rfl : 474 + 1 = 475))]
  rw [bz_n (by decide +kernel) (rfl : 187 + 1 = 188)]
  refine rr_putR pf_7_112 po_7 pg_2_52 (Or.inr ⟨by decide +kernel, rfl⟩) rfl (bz_s (x := (2, 19)) (by decide +kernel)) (by decide) (fun M2 e => ?_)
  rw [e.trans (bz_u (by decide +kernel) (rfl : 475 + 1 = 476))]
  refine rr_aload_n pf_7_115 rfl ?_
  refine rr_iconst pf_7_116 ?_
  refine rr_putI pf_7_117 po_7 pg_2_56 (Or.inr ⟨by decide +kernel, rfl⟩) rfl (bz_s (x := (2, 19)) (by decide +kernel)) (by decide) (by unfold rg; omega) (fun M2 e => ?_)
  rw [e.trans (bz_u (by decide +kernel) (rfl : 476 + 1 = 477))]
  refine rr_aload_n pf_7_120 rfl ?_
  refine rr_iconst pf_7_121 ?_
  refine rr_putI pf_7_122 po_7 pg_2_59 (Or.inr ⟨by decide +kernel, rfl⟩) rfl (bz_s (x := (2, 19)) (by decide +kernel)) (by decide) (by unfold rg; omega) (fun M2 e => ?_)
  rw [e.trans (bz_u (by decide +kernel) (rfl : 477 + 1 = 478))]
  refine rr_aload_n pf_7_125 rfl ?_
  refine rr_iconst pf_7_126 ?_
  refine rr_putI pf_7_127 po_7 pg_2_62 (Or.inr ⟨by decide +kernel, rfl⟩) rfl (bz_s (x := (2, 19)) (by decide +kernel)) (by decide) (by unfold rg; omega) (fun M2 e => ?_)
  rw [e.trans (bz_u (by decide +kernel) (rfl : 478 + 1 = 479))]
  refine rr_aload_n pf_7_130 rfl ?_
  refine rr_aload_n pf_7_131 rfl ?_
  refine rr_putR pf_7_132 po_7 pg_2_65 (Or.inr ⟨by decide +kernel, rfl⟩) rfl (bz_s (x := (2, 19)) (by decide +kernel)) (by decide) (fun M2 e => ?_)
  rw [e.trans (bz_u (by decide +kernel) (rfl : 479 + 1 = 480))]
  refine rr_aload_n pf_7_135 rfl ?_
  refine rr_new pf_7_136 po_7 pn_2_69 (by decide) rfl (fun M2 e => ?_)
  rw [bz_l (by decide : 188 ≤ 264)] at e ⊢
  rw [e.trans (bz_o (by decide +kernel) (rfl : 480 + 1 = 481))]
  rw [bz_n (by decide +kernel) (rfl : 188 + 1 = 189)]
  refine rr_dup pf_7_139 rfl ?_
  refine rr_aload_n pf_7_140 rfl ?_
  refine rr_cI1 pf_7_141 po_7 pc_2_71 (by decide) rfl (bC_3_189_481 (Nat.le_trans (by decide) hd)) ?_
  refine rr_putR pf_7_144 po_7 pg_2_74 (Or.inr ⟨by decide +kernel, rfl⟩) rfl (bz_s (x := (2, 19)) (by decide +kernel)) (by decide) (fun M2 e => ?_)
  rw [e.trans (bz_u (by decide +kernel) (rfl : 511 + 1 = 512))]
  exact rr_vret pf_7_147 pt_7 G
theorem bC_7_176_450 {xs : Nat → Int} {L d : Nat} (hd : 3 ≤ d) : px_Cl xs L d 7 [.ref 175, .ref 3, .ref 1] (bS 176, bM 450) none (bS 199, bM 512) := by
  obtain ⟨d, rfl⟩ : ∃ e, d = e + 1 := ⟨d - 1, by omega⟩
  refine px_Cl_intro (Nat.le_of_ble_eq_true rfl) ?_
  show px_R xs L d 7 (0, [.ref 175, .ref 3, .ref 1], [], (bS 176, bM 450)) _
  refine bk_7_176_450_0 (by omega) ?_
  refine bk_7_176_450_1 (by omega) ?_
  exact bk_7_176_450_e (by omega) ⟨rfl, rfl⟩
theorem bk_1_1_1_1 {xs : Nat → Int} {L d : Nat} {Q : Option Value → px_H → Prop} (hd : 3 ≤ d) (G : px_R xs L d 1 (119, [.ref 0, px_jk], [.ref 199, .ref 0], (bS 200, bM 514)) Q) : px_R xs L d 1 (57, [.ref 0, px_jk], [.ref 26, .ref 0], (bS 27, bM 72)) Q := by
  refine rr_putR pf_1_57 po_1 pg_8_32 (Or.inr ⟨by decide +kernel, rfl⟩) rfl (bz_s (x := (8, 15)) (by decide +kernel)) (by decide) (fun M2 e => ?_)
  rw [e.trans (bz_u (by decide +kernel) (rfl : 72 + 1 = 73))]
  refine rr_aload_n pf_1_60 rfl ?_
  refine rr_new pf_1_61 po_1 pn_8_36 (by decide) rfl (fun M2 e => ?_)
  rw [bz_l (by decide : 27 ≤ 264)] at e ⊢
  rw [e.trans (bz_o (by decide +kernel) (rfl : 73 + 1 = 74))]
  rw [bz_n (by decide +kernel) (rfl : 27 + 1 = 28)]
  refine rr_dup pf_1_64 rfl ?_
  refine rr_cI0 pf_1_65 po_1 pc_8_38 (by decide) rfl (bC_5_28_74 (Nat.le_trans (by decide) hd)) ?_
  refine rr_putR pf_1_68 po_1 pg_8_39 (Or.inr ⟨by decide +kernel, rfl⟩) rfl (bz_s (x := (8, 15)) (by decide +kernel)) (by decide) (fun M2 e => ?_)
  rw [e.trans (bz_u (by decide +kernel) (rfl : 250 + 1 = 251))]
  refine rr_aload_n pf_1_71 rfl ?_
  refine rr_new pf_1_72 po_1 pn_8_43 (by decide) rfl (fun M2 e => ?_)
  rw [bz_l (by decide : 98 ≤ 264)] at e ⊢
  rw [e.trans (bz_o (by decide +kernel) (rfl : 251 + 1 = 252))]
  rw [bz_n (by decide +kernel) (rfl : 98 + 1 = 99)]
  refine rr_dup pf_1_75 rfl ?_
  refine rr_aload_n pf_1_76 rfl ?_
  refine rr_getR (q := 3) pf_1_77 po_1 pg_8_21 rfl (bz_s (x := (8, 15)) (by decide +kernel)) (by decide) (by decide +kernel) ?_
  refine rr_aload_n pf_1_80 rfl ?_
  refine rr_getR (q := 27) pf_1_81 po_1 pg_8_39 rfl (bz_s (x := (8, 15)) (by decide +kernel)) (by decide) (by decide +kernel) ?_
  refine rr_aload_n pf_1_84 rfl ?_
  refine rr_getR (q := 1) pf_1_85 po_1 pg_8_12 rfl (bz_s (x := (8, 15)) (by decide +kernel)) (by decide) (by decide +kernel) ?_
  refine rr_cI3 pf_1_88 po_1 pc_8_45 (by decide) rfl (bC_6_99_252 (Nat.le_trans (by decide) hd)) ?_
  refine rr_putR pf_1_91 po_1 pg_8_48 (Or.inr ⟨by decide +kernel, rfl⟩) rfl (bz_s (x := (8, 15)) (by decide +kernel)) (by decide) (fun M2 e => ?_)
  rw [e.trans (bz_u (by decide +kernel) (rfl : 448 + 1 = 449))]
  refine rr_aload_n pf_1_94 rfl ?_
  refine rr_new pf_1_95 po_1 pn_8_52 (by decide) rfl (fun M2 e => ?_)
  rw [bz_l (by decide : 175 ≤ 264)] at e ⊢
  rw [e.trans (bz_o (by decide +kernel) (rfl : 449 + 1 = 450))]
  rw [bz_n (by decide +kernel) (rfl : 175 + 1 = 176)]
  refine rr_dup pf_1_98 rfl ?_
  refine rr_aload_n pf_1_99 rfl ?_
  refine rr_getR (q := 3) pf_1_100 po_1 pg_8_21 rfl (bz_s (x := (8, 15)) (by decide +kernel)) (by decide) (by decide +kernel) ?_
  refine rr_aload_n pf_1_103 rfl ?_
  refine rr_getR (q := 1) pf_1_104 po_1 pg_8_12 rfl (bz_s (x := (8, 15)) (by decide +kernel)) (by decide) (by decide +kernel) ?_
  refine rr_cI2 pf_1_107 po_1 pc_8_54 (by decide) rfl (bC_7_176_450 (Nat.le_trans (by decide) hd)) ?_
  refine rr_putR pf_1_110 po_1 pg_8_57 (Or.inr ⟨by decide +kernel, rfl⟩) rfl (bz_s (x := (8, 15)) (by decide +kernel)) (by decide) (fun M2 e => ?_)
  rw [e.trans (bz_u (by decide +kernel) (rfl : 512 + 1 = 513))]
  refine rr_aload_n pf_1_113 rfl ?_
  refine rr_sipush pf_1_114 (by decide) ?_
  refine rr_newa 10 pf_1_117 (by simp) (by decide) (fun M2 e => ?_)
  rw [bz_l (by decide : 199 ≤ 264)] at e ⊢
  rw [e.trans (bz_c (by decide +kernel) (rfl : 513 + 1 = 514))]
  rw [bz_n (by decide +kernel) (rfl : 199 + 1 = 200)]
  exact G
theorem bk_9_202_517_0 {xs : Nat → Int} {L d : Nat} {Q : Option Value → px_H → Prop} (hd : 0 ≤ d) (G : px_R xs L d 9 (52, [.ref 201, .int (iI (400)), .int (iI (12))], [.ref 204, .ref 201], (bS 205, bM 525)) Q) : px_R xs L d 9 (0, [.ref 201, .int (iI (400)), .int (iI (12))], [], (bS 202, bM 517)) Q := by
  refine rr_aload_n pf_9_0 rfl ?_
  refine rr_objI pf_9_1 po_9 pc_6_1 (by decide) ?_
  refine rr_aload_n pf_9_4 rfl ?_
  refine rr_iconst pf_9_5 ?_
  refine rr_putI pf_9_6 po_9 pg_6_7 (Or.inr ⟨by decide +kernel, rfl⟩) rfl (bz_s (x := (6, 6)) (by decide +kernel)) (by decide) (by unfold rg; omega) (fun M2 e => ?_)
  rw [e.trans (bz_u (by decide +kernel) (rfl : 517 + 1 = 518))]
  refine rr_aload_n pf_9_9 rfl ?_
  refine rr_iconst pf_9_10 ?_
  refine rr_putI pf_9_11 po_9 pg_6_13 (Or.inr ⟨by decide +kernel, rfl⟩) rfl (bz_s (x := (6, 6)) (by decide +kernel)) (by decide) (by unfold rg; omega) (fun M2 e => ?_)
  rw [e.trans (bz_u (by decide +kernel) (rfl : 518 + 1 = 519))]
  refine rr_aload_n pf_9_14 rfl ?_
  refine rr_iconst pf_9_15 ?_
  refine rr_putZ pf_9_16 po_9 pg_6_16 (Or.inr ⟨by decide +kernel, rfl⟩) rfl (bz_s (x := (6, 6)) (by decide +kernel)) (by decide) (by decide) (fun M2 e => ?_)
  rw [e.trans (bz_u (by decide +kernel) (rfl : 519 + 1 = 520))]
  refine rr_aload_n pf_9_19 rfl ?_
  refine rr_iconst pf_9_20 ?_
  refine rr_iload_n pf_9_21 rfl ?_
  refine rr_max pf_9_22 po_9 pc_6_20 rfl (by unfold rg; omega) (by unfold rg; omega) ?_
  show px_R xs L d 9 (25, [.ref 201, .int (iI (400)), .int (iI (12))], [.int (iI (400)), .ref 201], (bS 202, bM 520)) Q
  refine rr_newa 10 pf_9_25 (by simp) (by decide) (fun M2 e => ?_)
  rw [bz_l (by decide : 202 ≤ 264)] at e ⊢
  rw [e.trans (bz_c (by decide +kernel) (rfl : 520 + 1 = 521))]
  rw [bz_n (by decide +kernel) (rfl : 202 + 1 = 203)]
  refine rr_putR pf_9_27 po_9 pg_6_26 (Or.inr ⟨by decide +kernel, rfl⟩) rfl (bz_s (x := (6, 6)) (by decide +kernel)) (by decide) (fun M2 e => ?_)
  rw [e.trans (bz_u (by decide +kernel) (rfl : 521 + 1 = 522))]
  refine rr_aload_n pf_9_30 rfl ?_
  refine rr_iconst pf_9_31 ?_
  refine rr_iload_n pf_9_32 rfl ?_
  refine rr_max pf_9_33 po_9 pc_6_20 rfl (by unfold rg; omega) (by unfold rg; omega) ?_
  show px_R xs L d 9 (36, [.ref 201, .int (iI (400)), .int (iI (12))], [.int (iI (400)), .ref 201], (bS 203, bM 522)) Q
  refine rr_newa 10 pf_9_36 (by simp) (by decide) (fun M2 e => ?_)
  rw [bz_l (by decide : 203 ≤ 264)] at e ⊢
  rw [e.trans (bz_c (by decide +kernel) (rfl : 522 + 1 = 523))]
  rw [bz_n (by decide +kernel) (rfl : 203 + 1 = 204)]
  refine rr_putR pf_9_38 po_9 pg_6_30 (Or.inr ⟨by decide +kernel, rfl⟩) rfl (bz_s (x := (6, 6)) (by decide +kernel)) (by decide) (fun M2 e => ?_)
  rw [e.trans (bz_u (by decide +kernel) (rfl : 523 + 1 = 524))]
  refine rr_aload_n pf_9_41 rfl ?_
  refine rr_iconst pf_9_42 ?_
  refine rr_iload_n pf_9_43 rfl ?_
  refine rr_max pf_9_44 po_9 pc_6_20 rfl (by unfold rg; omega) (by unfold rg; omega) ?_
  show px_R xs L d 9 (47, [.ref 201, .int (iI (400)), .int (iI (12))], [.int (iI (12)), .ref 201], (bS 204, bM 524)) Q
  refine rr_bipush pf_9_47 (by decide) ?_
  refine rr_imul pf_9_49 ?_
  show px_R xs L d 9 (50, [.ref 201, .int (iI (400)), .int (iI (12))], [.int (iI (96)), .ref 201], (bS 204, bM 524)) Q
  refine rr_newa 10 pf_9_50 (by simp) (by decide) (fun M2 e => ?_)
  rw [bz_l (by decide : 204 ≤ 264)] at e ⊢
  rw [e.trans (bz_c (by decide +kernel) (rfl : 524 + 1 = 525))]
  rw [bz_n (by decide +kernel) (rfl : 204 + 1 = 205)]
  exact G
theorem bk_9_202_517_e {xs : Nat → Int} {L d : Nat} {Q : Option Value → px_H → Prop} (hd : 0 ≤ d) (G : Q none (bS 205, bM 526)) : px_R xs L d 9 (52, [.ref 201, .int (iI (400)), .int (iI (12))], [.ref 204, .ref 201], (bS 205, bM 525)) Q := by
  refine rr_putR pf_9_52 po_9 pg_6_33 (Or.inr ⟨by decide +kernel, rfl⟩) rfl (bz_s (x := (6, 6)) (by decide +kernel)) (by decide) (fun M2 e => ?_)
  rw [e.trans (bz_u (by decide +kernel) (rfl : 525 + 1 = 526))]
  exact rr_vret pf_9_55 pt_9 G
theorem bC_9_202_517 {xs : Nat → Int} {L d : Nat} (hd : 1 ≤ d) : px_Cl xs L d 9 [.ref 201, .int (iI (400)), .int (iI (12))] (bS 202, bM 517) none (bS 205, bM 526) := by
  obtain ⟨d, rfl⟩ : ∃ e, d = e + 1 := ⟨d - 1, by omega⟩
  refine px_Cl_intro (Nat.le_of_ble_eq_true rfl) ?_
  show px_R xs L d 9 (0, [.ref 201, .int (iI (400)), .int (iI (12))], [], (bS 202, bM 517)) _
  refine bk_9_202_517_0 (by omega) ?_
  exact bk_9_202_517_e (by omega) ⟨rfl, rfl⟩
theorem bk_8_201_516_0 {xs : Nat → Int} {L d : Nat} {Q : Option Value → px_H → Prop} (hd : 1 ≤ d) (G : px_R xs L d 8 (60, [.ref 200, .ref 199], [], (bS 205, bM 535)) Q) : px_R xs L d 8 (0, [.ref 200, .ref 199], [], (bS 201, bM 516)) Q := by
  refine rr_aload_n pf_8_0 rfl ?_
  refine rr_objI pf_8_1 po_8 pc_3_3 (by decide) ?_
  refine rr_aload_n pf_8_4 rfl ?_
  refine rr_new pf_8_5 po_8 pn_3_9 (by decide) rfl (fun M2 e => ?_)
  rw [bz_l (by decide : 201 ≤ 264)] at e ⊢
  rw [e.trans (bz_o (by decide +kernel) (rfl : 516 + 1 = 517))]
  rw [bz_n (by decide +kernel) (rfl : 201 + 1 = 202)]
  refine rr_dup pf_8_8 rfl ?_
  refine rr_sipush pf_8_9 (by decide) ?_
  refine rr_bipush pf_8_12 (by decide) ?_
  refine rr_cI2 pf_8_14 po_8 pc_3_11 (by decide) rfl (bC_9_202_517 (Nat.le_trans (by decide) hd)) ?_
  refine rr_putR pf_8_17 po_8 pg_3_14 (Or.inr ⟨by decide +kernel, rfl⟩) rfl (bz_s (x := (3, 10)) (by decide +kernel)) (by decide) (fun M2 e => ?_)
  rw [e.trans (bz_u (by decide +kernel) (rfl : 526 + 1 = 527))]
  refine rr_aload_n pf_8_20 rfl ?_
  refine rr_iconst pf_8_21 ?_
  refine rr_putI pf_8_22 po_8 pg_3_20 (Or.inr ⟨by decide +kernel, rfl⟩) rfl (bz_s (x := (3, 10)) (by decide +kernel)) (by decide) (by unfold rg; omega) (fun M2 e => ?_)
  rw [e.trans (bz_u (by decide +kernel) (rfl : 527 + 1 = 528))]
  refine rr_aload_n pf_8_25 rfl ?_
  refine rr_iconst pf_8_26 ?_
  refine rr_putI pf_8_27 po_8 pg_3_24 (Or.inr ⟨by decide +kernel, rfl⟩) rfl (bz_s (x := (3, 10)) (by decide +kernel)) (by decide) (by unfold rg; omega) (fun M2 e => ?_)
  rw [e.trans (bz_u (by decide +kernel) (rfl : 528 + 1 = 529))]
  refine rr_aload_n pf_8_30 rfl ?_
  refine rr_iconst pf_8_31 ?_
  refine rr_putZ pf_8_32 po_8 pg_3_27 (Or.inr ⟨by decide +kernel, rfl⟩) rfl (bz_s (x := (3, 10)) (by decide +kernel)) (by decide) (by decide) (fun M2 e => ?_)
  rw [e.trans (bz_u (by decide +kernel) (rfl : 529 + 1 = 530))]
  refine rr_aload_n pf_8_35 rfl ?_
  refine rr_iconst pf_8_36 ?_
  refine rr_putI pf_8_37 po_8 pg_3_31 (Or.inr ⟨by decide +kernel, rfl⟩) rfl (bz_s (x := (3, 10)) (by decide +kernel)) (by decide) (by unfold rg; omega) (fun M2 e => ?_)
  rw [e.trans (bz_u (by decide +kernel) (rfl : 530 + 1 = 531))]
  refine rr_aload_n pf_8_40 rfl ?_
  refine rr_iconst pf_8_41 ?_
  refine rr_putI pf_8_42 po_8 pg_3_34 (Or.inr ⟨by decide +kernel, rfl⟩) rfl (bz_s (x := (3, 10)) (by decide +kernel)) (by decide) (by unfold rg; omega) (fun M2 e => ?_)
  rw [e.trans (bz_u (by decide +kernel) (rfl : 531 + 1 = 532))]
  refine rr_aload_n pf_8_45 rfl ?_
  refine rr_iconst pf_8_46 ?_
  refine rr_putI pf_8_47 po_8 pg_3_37 (Or.inr ⟨by decide +kernel, rfl⟩) rfl (bz_s (x := (3, 10)) (by decide +kernel)) (by decide) (by unfold rg; omega) (fun M2 e => ?_)
  rw [e.trans (bz_u (by decide +kernel) (rfl : 532 + 1 = 533))]
  refine rr_aload_n pf_8_50 rfl ?_
  refine rr_iconst pf_8_51 ?_
  refine rr_putI pf_8_52 po_8 pg_3_40 (Or.inr ⟨by decide +kernel, rfl⟩) rfl (bz_s (x := (3, 10)) (by decide +kernel)) (by decide) (by unfold rg; omega) (fun M2 e => ?_)
  rw [e.trans (bz_u (by decide +kernel) (rfl : 533 + 1 = 534))]
  refine rr_aload_n pf_8_55 rfl ?_
  refine rr_iconst pf_8_56 ?_
  refine rr_putI pf_8_57 po_8 pg_3_43 (Or.inr ⟨by decide +kernel, rfl⟩) rfl (bz_s (x := (3, 10)) (by decide +kernel)) (by decide) (by unfold rg; omega) (fun M2 e => ?_)
  rw [e.trans (bz_u (by decide +kernel) (rfl : 534 + 1 = 535))]
  exact G
theorem bk_8_201_516_e {xs : Nat → Int} {L d : Nat} {Q : Option Value → px_H → Prop} (hd : 1 ≤ d) (G : Q none (bS 205, bM 536)) : px_R xs L d 8 (60, [.ref 200, .ref 199], [], (bS 205, bM 535)) Q := by
  refine rr_aload_n pf_8_60 rfl ?_
  refine rr_aload_n pf_8_61 rfl ?_
  refine rr_putR pf_8_62 po_8 pg_3_46 (Or.inr ⟨by decide +kernel, rfl⟩) rfl (bz_s (x := (3, 10)) (by decide +kernel)) (by decide) (fun M2 e => ?_)
  rw [e.trans (bz_u (by decide +kernel) (rfl : 535 + 1 = 536))]
  exact rr_vret pf_8_65 pt_8 G
theorem bC_8_201_516 {xs : Nat → Int} {L d : Nat} (hd : 2 ≤ d) : px_Cl xs L d 8 [.ref 200, .ref 199] (bS 201, bM 516) none (bS 205, bM 536) := by
  obtain ⟨d, rfl⟩ : ∃ e, d = e + 1 := ⟨d - 1, by omega⟩
  refine px_Cl_intro (Nat.le_of_ble_eq_true rfl) ?_
  show px_R xs L d 8 (0, [.ref 200, .ref 199], [], (bS 201, bM 516)) _
  refine bk_8_201_516_0 (by omega) ?_
  exact bk_8_201_516_e (by omega) ⟨rfl, rfl⟩
theorem bk_1_1_1_2 {xs : Nat → Int} {L d : Nat} {Q : Option Value → px_H → Prop} (hd : 3 ≤ d) (G : px_R xs L d 1 (175, [.ref 0, .int (iI (0))], [.ref 25], (bS 206, bM 543)) Q) : px_R xs L d 1 (119, [.ref 0, px_jk], [.ref 199, .ref 0], (bS 200, bM 514)) Q := by
  refine rr_putR pf_1_119 po_1 pg_8_61 (Or.inr ⟨by decide +kernel, rfl⟩) rfl (bz_s (x := (8, 15)) (by decide +kernel)) (by decide) (fun M2 e => ?_)
  rw [e.trans (bz_u (by decide +kernel) (rfl : 514 + 1 = 515))]
  refine rr_aload_n pf_1_122 rfl ?_
  refine rr_new pf_1_123 po_1 pn_8_65 (by decide) rfl (fun M2 e => ?_)
  rw [bz_l (by decide : 200 ≤ 264)] at e ⊢
  rw [e.trans (bz_o (by decide +kernel) (rfl : 515 + 1 = 516))]
  rw [bz_n (by decide +kernel) (rfl : 200 + 1 = 201)]
  refine rr_dup pf_1_126 rfl ?_
  refine rr_aload_n pf_1_127 rfl ?_
  refine rr_getR (q := 199) pf_1_128 po_1 pg_8_61 rfl (bz_s (x := (8, 15)) (by decide +kernel)) (by decide) (by decide +kernel) ?_
  refine rr_cI1 pf_1_131 po_1 pc_8_67 (by decide) rfl (bC_8_201_516 (Nat.le_trans (by decide) hd)) ?_
  refine rr_putR pf_1_134 po_1 pg_8_70 (Or.inr ⟨by decide +kernel, rfl⟩) rfl (bz_s (x := (8, 15)) (by decide +kernel)) (by decide) (fun M2 e => ?_)
  rw [e.trans (bz_u (by decide +kernel) (rfl : 536 + 1 = 537))]
  refine rr_aload_n pf_1_137 rfl ?_
  refine rr_iconst pf_1_138 ?_
  refine rr_newa 10 pf_1_139 (by simp) (by decide) (fun M2 e => ?_)
  rw [bz_l (by decide : 205 ≤ 264)] at e ⊢
  rw [e.trans (bz_c (by decide +kernel) (rfl : 537 + 1 = 538))]
  rw [bz_n (by decide +kernel) (rfl : 205 + 1 = 206)]
  refine rr_putR pf_1_141 po_1 pg_8_74 (Or.inr ⟨by decide +kernel, rfl⟩) rfl (bz_s (x := (8, 15)) (by decide +kernel)) (by decide) (fun M2 e => ?_)
  rw [e.trans (bz_u (by decide +kernel) (rfl : 538 + 1 = 539))]
  refine rr_aload_n pf_1_144 rfl ?_
  refine rr_iconst pf_1_145 ?_
  refine rr_putI pf_1_146 po_1 pg_8_77 (Or.inr ⟨by decide +kernel, rfl⟩) rfl (bz_s (x := (8, 15)) (by decide +kernel)) (by decide) (by unfold rg; omega) (fun M2 e => ?_)
  rw [e.trans (bz_u (by decide +kernel) (rfl : 539 + 1 = 540))]
  refine rr_aload_n pf_1_149 rfl ?_
  refine rr_iconst pf_1_150 ?_
  refine rr_putI pf_1_151 po_1 pg_8_81 (Or.inr ⟨by decide +kernel, rfl⟩) rfl (bz_s (x := (8, 15)) (by decide +kernel)) (by decide) (by unfold rg; omega) (fun M2 e => ?_)
  rw [e.trans (bz_u (by decide +kernel) (rfl : 540 + 1 = 541))]
  refine rr_aload_n pf_1_154 rfl ?_
  refine rr_iconst pf_1_155 ?_
  refine rr_putI pf_1_156 po_1 pg_8_84 (Or.inr ⟨by decide +kernel, rfl⟩) rfl (bz_s (x := (8, 15)) (by decide +kernel)) (by decide) (by unfold rg; omega) (fun M2 e => ?_)
  rw [e.trans (bz_u (by decide +kernel) (rfl : 541 + 1 = 542))]
  refine rr_aload_n pf_1_159 rfl ?_
  refine rr_iconst pf_1_160 ?_
  refine rr_putZ pf_1_161 po_1 pg_8_87 (Or.inr ⟨by decide +kernel, rfl⟩) rfl (bz_s (x := (8, 15)) (by decide +kernel)) (by decide) (by decide) (fun M2 e => ?_)
  rw [e.trans (bz_u (by decide +kernel) (rfl : 542 + 1 = 543))]
  refine rr_iconst pf_1_164 ?_
  refine rr_istore_n pf_1_165 (fun y => [.ref 0, .int (iI y)]) (by decide) (fun _ => rfl) (fun y ey => ?_)
  subst ey
  refine rr_iload_n pf_1_166 rfl ?_
  refine rr_iconst pf_1_167 ?_
  refine rr_icmp_ge 194 pf_1_168 (by decide) (by unfold rg; omega) (by unfold rg; omega) (fun z => absurd z (by decide)) (fun _ => ?_)
  refine rr_aload_n pf_1_171 rfl ?_
  refine rr_getR (q := 25) pf_1_172 po_1 pg_8_28 rfl (bz_s (x := (8, 15)) (by decide +kernel)) (by decide) (by decide +kernel) ?_
  exact G
theorem bk_4_208_545_e {xs : Nat → Int} {L d : Nat} {Q : Option Value → px_H → Prop} (hd : 0 ≤ d) (G : Q none (bS 211, bM 553)) : px_R xs L d 4 (0, [.ref 207], [], (bS 208, bM 545)) Q := by
  refine rr_aload_n pf_4_0 rfl ?_
  refine rr_objI pf_4_1 po_4 pc_1_3 (by decide) ?_
  refine rr_aload_n pf_4_4 rfl ?_
  refine rr_bipush pf_4_5 (by decide) ?_
  refine rr_newa 10 pf_4_7 (by simp) (by decide) (fun M2 e => ?_)
  rw [bz_l (by decide : 208 ≤ 264)] at e ⊢
  rw [e.trans (bz_c (by decide +kernel) (rfl : 545 + 1 = 546))]
  rw [bz_n (by decide +kernel) (rfl : 208 + 1 = 209)]
  refine rr_putR pf_4_9 po_4 pg_1_9 (Or.inr ⟨by decide +kernel, rfl⟩) rfl (bz_s (x := (1, 5)) (by decide +kernel)) (by decide) (fun M2 e => ?_)
  rw [e.trans (bz_u (by decide +kernel) (rfl : 546 + 1 = 547))]
  refine rr_aload_n pf_4_12 rfl ?_
  refine rr_bipush pf_4_13 (by decide) ?_
  refine rr_newa 10 pf_4_15 (by simp) (by decide) (fun M2 e => ?_)
  rw [bz_l (by decide : 209 ≤ 264)] at e ⊢
  rw [e.trans (bz_c (by decide +kernel) (rfl : 547 + 1 = 548))]
  rw [bz_n (by decide +kernel) (rfl : 209 + 1 = 210)]
  refine rr_putR pf_4_17 po_4 pg_1_15 (Or.inr ⟨by decide +kernel, rfl⟩) rfl (bz_s (x := (1, 5)) (by decide +kernel)) (by decide) (fun M2 e => ?_)
  rw [e.trans (bz_u (by decide +kernel) (rfl : 548 + 1 = 549))]
  refine rr_aload_n pf_4_20 rfl ?_
  refine rr_bipush pf_4_21 (by decide) ?_
  refine rr_newa 10 pf_4_23 (by simp) (by decide) (fun M2 e => ?_)
  rw [bz_l (by decide : 210 ≤ 264)] at e ⊢
  rw [e.trans (bz_c (by decide +kernel) (rfl : 549 + 1 = 550))]
  rw [bz_n (by decide +kernel) (rfl : 210 + 1 = 211)]
  refine rr_putR pf_4_25 po_4 pg_1_18 (Or.inr ⟨by decide +kernel, rfl⟩) rfl (bz_s (x := (1, 5)) (by decide +kernel)) (by decide) (fun M2 e => ?_)
  rw [e.trans (bz_u (by decide +kernel) (rfl : 550 + 1 = 551))]
  refine rr_aload_n pf_4_28 rfl ?_
  refine rr_iconst pf_4_29 ?_
  refine rr_putI pf_4_30 po_4 pg_1_21 (Or.inr ⟨by decide +kernel, rfl⟩) rfl (bz_s (x := (1, 5)) (by decide +kernel)) (by decide) (by unfold rg; omega) (fun M2 e => ?_)
  rw [e.trans (bz_u (by decide +kernel) (rfl : 551 + 1 = 552))]
  refine rr_aload_n pf_4_33 rfl ?_
  refine rr_iconst pf_4_34 ?_
  refine rr_putI pf_4_35 po_4 pg_1_25 (Or.inr ⟨by decide +kernel, rfl⟩) rfl (bz_s (x := (1, 5)) (by decide +kernel)) (by decide) (by unfold rg; omega) (fun M2 e => ?_)
  rw [e.trans (bz_u (by decide +kernel) (rfl : 552 + 1 = 553))]
  exact rr_vret pf_4_38 pt_4 G
theorem bC_4_208_545 {xs : Nat → Int} {L d : Nat} (hd : 1 ≤ d) : px_Cl xs L d 4 [.ref 207] (bS 208, bM 545) none (bS 211, bM 553) := by
  obtain ⟨d, rfl⟩ : ∃ e, d = e + 1 := ⟨d - 1, by omega⟩
  refine px_Cl_intro (Nat.le_of_ble_eq_true rfl) ?_
  show px_R xs L d 4 (0, [.ref 207], [], (bS 208, bM 545)) _
  exact bk_4_208_545_e (by omega) ⟨rfl, rfl⟩
theorem bk_3_207_544_0 {xs : Nat → Int} {L d : Nat} {Q : Option Value → px_H → Prop} (hd : 1 ≤ d) (G : px_R xs L d 3 (50, [.ref 206, .ref 1], [.int (iI (3)), .ref 206], (bS 215, bM 562)) Q) : px_R xs L d 3 (0, [.ref 206, .ref 1], [], (bS 207, bM 544)) Q := by
  refine rr_aload_n pf_3_0 rfl ?_
  refine rr_objI pf_3_1 po_3 pc_0_3 (by decide) ?_
  refine rr_aload_n pf_3_4 rfl ?_
  refine rr_new pf_3_5 po_3 pn_0_9 (by decide) rfl (fun M2 e => ?_)
  rw [bz_l (by decide : 207 ≤ 264)] at e ⊢
  rw [e.trans (bz_o (by decide +kernel) (rfl : 544 + 1 = 545))]
  rw [bz_n (by decide +kernel) (rfl : 207 + 1 = 208)]
  refine rr_dup pf_3_8 rfl ?_
  refine rr_cI0 pf_3_9 po_3 pc_0_11 (by decide) rfl (bC_4_208_545 (Nat.le_trans (by decide) hd)) ?_
  refine rr_putR pf_3_12 po_3 pg_0_12 (Or.inr ⟨by decide +kernel, rfl⟩) rfl (bz_s (x := (0, 15)) (by decide +kernel)) (by decide) (fun M2 e => ?_)
  rw [e.trans (bz_u (by decide +kernel) (rfl : 553 + 1 = 554))]
  refine rr_aload_n pf_3_15 rfl ?_
  refine rr_bipush pf_3_16 (by decide) ?_
  refine rr_newa 10 pf_3_18 (by simp) (by decide) (fun M2 e => ?_)
  rw [bz_l (by decide : 211 ≤ 264)] at e ⊢
  rw [e.trans (bz_c (by decide +kernel) (rfl : 554 + 1 = 555))]
  rw [bz_n (by decide +kernel) (rfl : 211 + 1 = 212)]
  refine rr_putR pf_3_20 po_3 pg_0_18 (Or.inr ⟨by decide +kernel, rfl⟩) rfl (bz_s (x := (0, 15)) (by decide +kernel)) (by decide) (fun M2 e => ?_)
  rw [e.trans (bz_u (by decide +kernel) (rfl : 555 + 1 = 556))]
  refine rr_aload_n pf_3_23 rfl ?_
  refine rr_bipush pf_3_24 (by decide) ?_
  refine rr_newa 10 pf_3_26 (by simp) (by decide) (fun M2 e => ?_)
  rw [bz_l (by decide : 212 ≤ 264)] at e ⊢
  rw [e.trans (bz_c (by decide +kernel) (rfl : 556 + 1 = 557))]
  rw [bz_n (by decide +kernel) (rfl : 212 + 1 = 213)]
  refine rr_putR pf_3_28 po_3 pg_0_22 (Or.inr ⟨by decide +kernel, rfl⟩) rfl (bz_s (x := (0, 15)) (by decide +kernel)) (by decide) (fun M2 e => ?_)
  rw [e.trans (bz_u (by decide +kernel) (rfl : 557 + 1 = 558))]
  refine rr_aload_n pf_3_31 rfl ?_
  refine rr_bipush pf_3_32 (by decide) ?_
  refine rr_newa 10 pf_3_34 (by simp) (by decide) (fun M2 e => ?_)
  rw [bz_l (by decide : 213 ≤ 264)] at e ⊢
  rw [e.trans (bz_c (by decide +kernel) (rfl : 558 + 1 = 559))]
  rw [bz_n (by decide +kernel) (rfl : 213 + 1 = 214)]
  refine rr_putR pf_3_36 po_3 pg_0_25 (Or.inr ⟨by decide +kernel, rfl⟩) rfl (bz_s (x := (0, 15)) (by decide +kernel)) (by decide) (fun M2 e => ?_)
  rw [e.trans (bz_u (by decide +kernel) (rfl : 559 + 1 = 560))]
  refine rr_aload_n pf_3_39 rfl ?_
  refine rr_bipush pf_3_40 (by decide) ?_
  refine rr_anewa 13 pf_3_42 po_3 pn_0_28 (by simp) (by decide) (fun M2 e => ?_)
  rw [bz_l (by decide : 214 ≤ 264)] at e ⊢
  rw [e.trans (bz_c (by decide +kernel) (rfl : 560 + 1 = 561))]
  rw [bz_n (by decide +kernel) (rfl : 214 + 1 = 215)]
  refine rr_putR pf_3_45 po_3 pg_0_30 (Or.inr ⟨by decide +kernel, rfl⟩) rfl (bz_s (x := (0, 15)) (by decide +kernel)) (by decide) (fun M2 e => ?_)
  rw [e.trans (bz_u (by decide +kernel) (rfl : 561 + 1 = 562))]
  refine rr_aload_n pf_3_48 rfl ?_
  refine rr_iconst pf_3_49 ?_
  exact G
theorem bk_3_207_544_1 {xs : Nat → Int} {L d : Nat} {Q : Option Value → px_H → Prop} (hd : 1 ≤ d) (G : px_R xs L d 3 (103, [.ref 206, .ref 1], [], (bS 217, bM 574)) Q) : px_R xs L d 3 (50, [.ref 206, .ref 1], [.int (iI (3)), .ref 206], (bS 215, bM 562)) Q := by
  refine rr_newa 10 pf_3_50 (by simp) (by decide) (fun M2 e => ?_)
  rw [bz_l (by decide : 215 ≤ 264)] at e ⊢
  rw [e.trans (bz_c (by decide +kernel) (rfl : 562 + 1 = 563))]
  rw [bz_n (by decide +kernel) (rfl : 215 + 1 = 216)]
  refine rr_putR pf_3_52 po_3 pg_0_34 (Or.inr ⟨by decide +kernel, rfl⟩) rfl (bz_s (x := (0, 15)) (by decide +kernel)) (by decide) (fun M2 e => ?_)
  rw [e.trans (bz_u (by decide +kernel) (rfl : 563 + 1 = 564))]
  refine rr_aload_n pf_3_55 rfl ?_
  refine rr_iconst pf_3_56 ?_
  refine rr_putI pf_3_57 po_3 pg_0_37 (Or.inr ⟨by decide +kernel, rfl⟩) rfl (bz_s (x := (0, 15)) (by decide +kernel)) (by decide) (by unfold rg; omega) (fun M2 e => ?_)
  rw [e.trans (bz_u (by decide +kernel) (rfl : 564 + 1 = 565))]
  refine rr_aload_n pf_3_60 rfl ?_
  refine rr_iconst pf_3_61 ?_
  refine rr_putI pf_3_62 po_3 pg_0_41 (Or.inr ⟨by decide +kernel, rfl⟩) rfl (bz_s (x := (0, 15)) (by decide +kernel)) (by decide) (by unfold rg; omega) (fun M2 e => ?_)
  rw [e.trans (bz_u (by decide +kernel) (rfl : 565 + 1 = 566))]
  refine rr_aload_n pf_3_65 rfl ?_
  refine rr_iconst pf_3_66 ?_
  refine rr_putI pf_3_67 po_3 pg_0_44 (Or.inr ⟨by decide +kernel, rfl⟩) rfl (bz_s (x := (0, 15)) (by decide +kernel)) (by decide) (by unfold rg; omega) (fun M2 e => ?_)
  rw [e.trans (bz_u (by decide +kernel) (rfl : 566 + 1 = 567))]
  refine rr_aload_n pf_3_70 rfl ?_
  refine rr_iconst pf_3_71 ?_
  refine rr_putI pf_3_72 po_3 pg_0_47 (Or.inr ⟨by decide +kernel, rfl⟩) rfl (bz_s (x := (0, 15)) (by decide +kernel)) (by decide) (by unfold rg; omega) (fun M2 e => ?_)
  rw [e.trans (bz_u (by decide +kernel) (rfl : 567 + 1 = 568))]
  refine rr_aload_n pf_3_75 rfl ?_
  refine rr_iconst pf_3_76 ?_
  refine rr_putI pf_3_77 po_3 pg_0_50 (Or.inr ⟨by decide +kernel, rfl⟩) rfl (bz_s (x := (0, 15)) (by decide +kernel)) (by decide) (by unfold rg; omega) (fun M2 e => ?_)
  rw [e.trans (bz_u (by decide +kernel) (rfl : 568 + 1 = 569))]
  refine rr_aload_n pf_3_80 rfl ?_
  refine rr_iconst pf_3_81 ?_
  refine rr_putI pf_3_82 po_3 pg_0_53 (Or.inr ⟨by decide +kernel, rfl⟩) rfl (bz_s (x := (0, 15)) (by decide +kernel)) (by decide) (by unfold rg; omega) (fun M2 e => ?_)
  rw [e.trans (bz_u (by decide +kernel) (rfl : 569 + 1 = 570))]
  refine rr_aload_n pf_3_85 rfl ?_
  refine rr_iconst pf_3_86 ?_
  refine rr_putI pf_3_87 po_3 pg_0_56 (Or.inr ⟨by decide +kernel, rfl⟩) rfl (bz_s (x := (0, 15)) (by decide +kernel)) (by decide) (by unfold rg; omega) (fun M2 e => ?_)
  rw [e.trans (bz_u (by decide +kernel) (rfl : 570 + 1 = 571))]
  refine rr_aload_n pf_3_90 rfl ?_
  refine rr_bipush pf_3_91 (by decide) ?_
  refine rr_newa 10 pf_3_93 (by simp) (by decide) (fun M2 e => ?_)
  rw [bz_l (by decide : 216 ≤ 264)] at e ⊢
  rw [e.trans (bz_c (by decide +kernel) (rfl : 571 + 1 = 572))]
  rw [bz_n (by decide +kernel) (rfl : 216 + 1 = 217)]
  refine rr_putR pf_3_95 po_3 pg_0_59 (Or.inr ⟨by decide +kernel, rfl⟩) rfl (bz_s (x := (0, 15)) (by decide +kernel)) (by decide) (fun M2 e => ?_)
  rw [e.trans (bz_u (by decide +kernel) (rfl : 572 + 1 = 573))]
  refine rr_aload_n pf_3_98 rfl ?_
  refine rr_aload_n pf_3_99 rfl ?_
  refine rr_putR pf_3_100 po_3 pg_0_62 (Or.inr ⟨by decide +kernel, rfl⟩) rfl (bz_s (x := (0, 15)) (by decide +kernel)) (by decide) (fun M2 e => ?_)
  rw [e.trans (bz_u (by decide +kernel) (rfl : 573 + 1 = 574))]
  exact G
theorem bk_3_207_544_e {xs : Nat → Int} {L d : Nat} {Q : Option Value → px_H → Prop} (hd : 1 ≤ d) (G : Q none (bS 217, bM 574)) : px_R xs L d 3 (103, [.ref 206, .ref 1], [], (bS 217, bM 574)) Q := by
  exact rr_vret pf_3_103 pt_3 G
theorem bC_3_207_544 {xs : Nat → Int} {L d : Nat} (hd : 2 ≤ d) : px_Cl xs L d 3 [.ref 206, .ref 1] (bS 207, bM 544) none (bS 217, bM 574) := by
  obtain ⟨d, rfl⟩ : ∃ e, d = e + 1 := ⟨d - 1, by omega⟩
  refine px_Cl_intro (Nat.le_of_ble_eq_true rfl) ?_
  show px_R xs L d 3 (0, [.ref 206, .ref 1], [], (bS 207, bM 544)) _
  refine bk_3_207_544_0 (by omega) ?_
  refine bk_3_207_544_1 (by omega) ?_
  exact bk_3_207_544_e (by omega) ⟨rfl, rfl⟩
theorem bk_4_219_577_e {xs : Nat → Int} {L d : Nat} {Q : Option Value → px_H → Prop} (hd : 0 ≤ d) (G : Q none (bS 222, bM 585)) : px_R xs L d 4 (0, [.ref 218], [], (bS 219, bM 577)) Q := by
  refine rr_aload_n pf_4_0 rfl ?_
  refine rr_objI pf_4_1 po_4 pc_1_3 (by decide) ?_
  refine rr_aload_n pf_4_4 rfl ?_
  refine rr_bipush pf_4_5 (by decide) ?_
  refine rr_newa 10 pf_4_7 (by simp) (by decide) (fun M2 e => ?_)
  rw [bz_l (by decide : 219 ≤ 264)] at e ⊢
  rw [e.trans (bz_c (by decide +kernel) (rfl : 577 + 1 = 578))]
  rw [bz_n (by decide +kernel) (rfl : 219 + 1 = 220)]
  refine rr_putR pf_4_9 po_4 pg_1_9 (Or.inr ⟨by decide +kernel, rfl⟩) rfl (bz_s (x := (1, 5)) (by decide +kernel)) (by decide) (fun M2 e => ?_)
  rw [e.trans (bz_u (by decide +kernel) (rfl : 578 + 1 = 579))]
  refine rr_aload_n pf_4_12 rfl ?_
  refine rr_bipush pf_4_13 (by decide) ?_
  refine rr_newa 10 pf_4_15 (by simp) (by decide) (fun M2 e => ?_)
  rw [bz_l (by decide : 220 ≤ 264)] at e ⊢
  rw [e.trans (bz_c (by decide +kernel) (rfl : 579 + 1 = 580))]
  rw [bz_n (by decide +kernel) (rfl : 220 + 1 = 221)]
  refine rr_putR pf_4_17 po_4 pg_1_15 (Or.inr ⟨by decide +kernel, rfl⟩) rfl (bz_s (x := (1, 5)) (by decide +kernel)) (by decide) (fun M2 e => ?_)
  rw [e.trans (bz_u (by decide +kernel) (rfl : 580 + 1 = 581))]
  refine rr_aload_n pf_4_20 rfl ?_
  refine rr_bipush pf_4_21 (by decide) ?_
  refine rr_newa 10 pf_4_23 (by simp) (by decide) (fun M2 e => ?_)
  rw [bz_l (by decide : 221 ≤ 264)] at e ⊢
  rw [e.trans (bz_c (by decide +kernel) (rfl : 581 + 1 = 582))]
  rw [bz_n (by decide +kernel) (rfl : 221 + 1 = 222)]
  refine rr_putR pf_4_25 po_4 pg_1_18 (Or.inr ⟨by decide +kernel, rfl⟩) rfl (bz_s (x := (1, 5)) (by decide +kernel)) (by decide) (fun M2 e => ?_)
  rw [e.trans (bz_u (by decide +kernel) (rfl : 582 + 1 = 583))]
  refine rr_aload_n pf_4_28 rfl ?_
  refine rr_iconst pf_4_29 ?_
  refine rr_putI pf_4_30 po_4 pg_1_21 (Or.inr ⟨by decide +kernel, rfl⟩) rfl (bz_s (x := (1, 5)) (by decide +kernel)) (by decide) (by unfold rg; omega) (fun M2 e => ?_)
  rw [e.trans (bz_u (by decide +kernel) (rfl : 583 + 1 = 584))]
  refine rr_aload_n pf_4_33 rfl ?_
  refine rr_iconst pf_4_34 ?_
  refine rr_putI pf_4_35 po_4 pg_1_25 (Or.inr ⟨by decide +kernel, rfl⟩) rfl (bz_s (x := (1, 5)) (by decide +kernel)) (by decide) (by unfold rg; omega) (fun M2 e => ?_)
  rw [e.trans (bz_u (by decide +kernel) (rfl : 584 + 1 = 585))]
  exact rr_vret pf_4_38 pt_4 G
theorem bC_4_219_577 {xs : Nat → Int} {L d : Nat} (hd : 1 ≤ d) : px_Cl xs L d 4 [.ref 218] (bS 219, bM 577) none (bS 222, bM 585) := by
  obtain ⟨d, rfl⟩ : ∃ e, d = e + 1 := ⟨d - 1, by omega⟩
  refine px_Cl_intro (Nat.le_of_ble_eq_true rfl) ?_
  show px_R xs L d 4 (0, [.ref 218], [], (bS 219, bM 577)) _
  exact bk_4_219_577_e (by omega) ⟨rfl, rfl⟩
theorem bk_3_218_576_0 {xs : Nat → Int} {L d : Nat} {Q : Option Value → px_H → Prop} (hd : 1 ≤ d) (G : px_R xs L d 3 (50, [.ref 217, .ref 1], [.int (iI (3)), .ref 217], (bS 226, bM 594)) Q) : px_R xs L d 3 (0, [.ref 217, .ref 1], [], (bS 218, bM 576)) Q := by
  refine rr_aload_n pf_3_0 rfl ?_
  refine rr_objI pf_3_1 po_3 pc_0_3 (by decide) ?_
  refine rr_aload_n pf_3_4 rfl ?_
  refine rr_new pf_3_5 po_3 pn_0_9 (by decide) rfl (fun M2 e => ?_)
  rw [bz_l (by decide : 218 ≤ 264)] at e ⊢
  rw [e.trans (bz_o (by decide +kernel) (rfl : 576 + 1 = 577))]
  rw [bz_n (by decide +kernel) (rfl : 218 + 1 = 219)]
  refine rr_dup pf_3_8 rfl ?_
  refine rr_cI0 pf_3_9 po_3 pc_0_11 (by decide) rfl (bC_4_219_577 (Nat.le_trans (by decide) hd)) ?_
  refine rr_putR pf_3_12 po_3 pg_0_12 (Or.inr ⟨by decide +kernel, rfl⟩) rfl (bz_s (x := (0, 15)) (by decide +kernel)) (by decide) (fun M2 e => ?_)
  rw [e.trans (bz_u (by decide +kernel) (rfl : 585 + 1 = 586))]
  refine rr_aload_n pf_3_15 rfl ?_
  refine rr_bipush pf_3_16 (by decide) ?_
  refine rr_newa 10 pf_3_18 (by simp) (by decide) (fun M2 e => ?_)
  rw [bz_l (by decide : 222 ≤ 264)] at e ⊢
  rw [e.trans (bz_c (by decide +kernel) (rfl : 586 + 1 = 587))]
  rw [bz_n (by decide +kernel) (rfl : 222 + 1 = 223)]
  refine rr_putR pf_3_20 po_3 pg_0_18 (Or.inr ⟨by decide +kernel, rfl⟩) rfl (bz_s (x := (0, 15)) (by decide +kernel)) (by decide) (fun M2 e => ?_)
  rw [e.trans (bz_u (by decide +kernel) (rfl : 587 + 1 = 588))]
  refine rr_aload_n pf_3_23 rfl ?_
  refine rr_bipush pf_3_24 (by decide) ?_
  refine rr_newa 10 pf_3_26 (by simp) (by decide) (fun M2 e => ?_)
  rw [bz_l (by decide : 223 ≤ 264)] at e ⊢
  rw [e.trans (bz_c (by decide +kernel) (rfl : 588 + 1 = 589))]
  rw [bz_n (by decide +kernel) (rfl : 223 + 1 = 224)]
  refine rr_putR pf_3_28 po_3 pg_0_22 (Or.inr ⟨by decide +kernel, rfl⟩) rfl (bz_s (x := (0, 15)) (by decide +kernel)) (by decide) (fun M2 e => ?_)
  rw [e.trans (bz_u (by decide +kernel) (rfl : 589 + 1 = 590))]
  refine rr_aload_n pf_3_31 rfl ?_
  refine rr_bipush pf_3_32 (by decide) ?_
  refine rr_newa 10 pf_3_34 (by simp) (by decide) (fun M2 e => ?_)
  rw [bz_l (by decide : 224 ≤ 264)] at e ⊢
  rw [e.trans (bz_c (by decide +kernel) (rfl : 590 + 1 = 591))]
  rw [bz_n (by decide +kernel) (rfl : 224 + 1 = 225)]
  refine rr_putR pf_3_36 po_3 pg_0_25 (Or.inr ⟨by decide +kernel, rfl⟩) rfl (bz_s (x := (0, 15)) (by decide +kernel)) (by decide) (fun M2 e => ?_)
  rw [e.trans (bz_u (by decide +kernel) (rfl : 591 + 1 = 592))]
  refine rr_aload_n pf_3_39 rfl ?_
  refine rr_bipush pf_3_40 (by decide) ?_
  refine rr_anewa 13 pf_3_42 po_3 pn_0_28 (by simp) (by decide) (fun M2 e => ?_)
  rw [bz_l (by decide : 225 ≤ 264)] at e ⊢
  rw [e.trans (bz_c (by decide +kernel) (rfl : 592 + 1 = 593))]
  rw [bz_n (by decide +kernel) (rfl : 225 + 1 = 226)]
  refine rr_putR pf_3_45 po_3 pg_0_30 (Or.inr ⟨by decide +kernel, rfl⟩) rfl (bz_s (x := (0, 15)) (by decide +kernel)) (by decide) (fun M2 e => ?_)
  rw [e.trans (bz_u (by decide +kernel) (rfl : 593 + 1 = 594))]
  refine rr_aload_n pf_3_48 rfl ?_
  refine rr_iconst pf_3_49 ?_
  exact G
