/-! the birth, part 4 -/
theorem bk_3_218_576_1 {xs : Nat → Int} {L d : Nat} {Q : Option Value → px_H → Prop} (hd : 1 ≤ d) (G : px_R xs L d 3 (103, [.ref 217, .ref 1], [], (bS 228, bM 606)) Q) : px_R xs L d 3 (50, [.ref 217, .ref 1], [.int (iI (3)), .ref 217], (bS 226, bM 594)) Q := by
  refine rr_newa 10 pf_3_50 (by simp) (by decide) (fun M2 e => ?_)
  rw [bz_l (by decide : 226 ≤ 264)] at e ⊢
  rw [e.trans (bz_c (by decide +kernel) (rfl : 594 + 1 = 595))]
  rw [bz_n (by decide +kernel) (rfl : 226 + 1 = 227)]
  refine rr_putR pf_3_52 po_3 pg_0_34 (Or.inr ⟨by decide +kernel, rfl⟩) rfl (bz_s (x := (0, 15)) (by decide +kernel)) (by decide) (fun M2 e => ?_)
  rw [e.trans (bz_u (by decide +kernel) (rfl : 595 + 1 = 596))]
  refine rr_aload_n pf_3_55 rfl ?_
  refine rr_iconst pf_3_56 ?_
  refine rr_putI pf_3_57 po_3 pg_0_37 (Or.inr ⟨by decide +kernel, rfl⟩) rfl (bz_s (x := (0, 15)) (by decide +kernel)) (by decide) (by unfold rg; omega) (fun M2 e => ?_)
  rw [e.trans (bz_u (by decide +kernel) (rfl : 596 + 1 = 597))]
  refine rr_aload_n pf_3_60 rfl ?_
  refine rr_iconst pf_3_61 ?_
  refine rr_putI pf_3_62 po_3 pg_0_41 (Or.inr ⟨by decide +kernel, rfl⟩) rfl (bz_s (x := (0, 15)) (by decide +kernel)) (by decide) (by unfold rg; omega) (fun M2 e => ?_)
  rw [e.trans (bz_u (by decide +kernel) (rfl : 597 + 1 = 598))]
  refine rr_aload_n pf_3_65 rfl ?_
  refine rr_iconst pf_3_66 ?_
  refine rr_putI pf_3_67 po_3 pg_0_44 (Or.inr ⟨by decide +kernel, rfl⟩) rfl (bz_s (x := (0, 15)) (by decide +kernel)) (by decide) (by unfold rg; omega) (fun M2 e => ?_)
  rw [e.trans (bz_u (by decide +kernel) (rfl : 598 + 1 = 599))]
  refine rr_aload_n pf_3_70 rfl ?_
  refine rr_iconst pf_3_71 ?_
  refine rr_putI pf_3_72 po_3 pg_0_47 (Or.inr ⟨by decide +kernel, rfl⟩) rfl (bz_s (x := (0, 15)) (by decide +kernel)) (by decide) (by unfold rg; omega) (fun M2 e => ?_)
  rw [e.trans (bz_u (by decide +kernel) (rfl : 599 + 1 = 600))]
  refine rr_aload_n pf_3_75 rfl ?_
  refine rr_iconst pf_3_76 ?_
  refine rr_putI pf_3_77 po_3 pg_0_50 (Or.inr ⟨by decide +kernel, rfl⟩) rfl (bz_s (x := (0, 15)) (by decide +kernel)) (by decide) (by unfold rg; omega) (fun M2 e => ?_)
  rw [e.trans (bz_u (by decide +kernel) (rfl : 600 + 1 = 601))]
  refine rr_aload_n pf_3_80 rfl ?_
  refine rr_iconst pf_3_81 ?_
  refine rr_putI pf_3_82 po_3 pg_0_53 (Or.inr ⟨by decide +kernel, rfl⟩) rfl (bz_s (x := (0, 15)) (by decide +kernel)) (by decide) (by unfold rg; omega) (fun M2 e => ?_)
  rw [e.trans (bz_u (by decide +kernel) (rfl : 601 + 1 = 602))]
  refine rr_aload_n pf_3_85 rfl ?_
  refine rr_iconst pf_3_86 ?_
  refine rr_putI pf_3_87 po_3 pg_0_56 (Or.inr ⟨by decide +kernel, rfl⟩) rfl (bz_s (x := (0, 15)) (by decide +kernel)) (by decide) (by unfold rg; omega) (fun M2 e => ?_)
  rw [e.trans (bz_u (by decide +kernel) (rfl : 602 + 1 = 603))]
  refine rr_aload_n pf_3_90 rfl ?_
  refine rr_bipush pf_3_91 (by decide) ?_
  refine rr_newa 10 pf_3_93 (by simp) (by decide) (fun M2 e => ?_)
  rw [bz_l (by decide : 227 ≤ 264)] at e ⊢
  rw [e.trans (bz_c (by decide +kernel) (rfl : 603 + 1 = 604))]
  rw [bz_n (by decide +kernel) (rfl : 227 + 1 = 228)]
  refine rr_putR pf_3_95 po_3 pg_0_59 (Or.inr ⟨by decide +kernel, rfl⟩) rfl (bz_s (x := (0, 15)) (by decide +kernel)) (by decide) (fun M2 e => ?_)
  rw [e.trans (bz_u (by decide +kernel) (rfl : 604 + 1 = 605))]
  refine rr_aload_n pf_3_98 rfl ?_
  refine rr_aload_n pf_3_99 rfl ?_
  refine rr_putR pf_3_100 po_3 pg_0_62 (Or.inr ⟨by decide +kernel, rfl⟩) rfl (bz_s (x := (0, 15)) (by decide +kernel)) (by decide) (fun M2 e => ?_)
  rw [e.trans (bz_u (by decide +kernel) (rfl : 605 + 1 = 606))]
  exact G
theorem bk_3_218_576_e {xs : Nat → Int} {L d : Nat} {Q : Option Value → px_H → Prop} (hd : 1 ≤ d) (G : Q none (bS 228, bM 606)) : px_R xs L d 3 (103, [.ref 217, .ref 1], [], (bS 228, bM 606)) Q := by
  exact rr_vret pf_3_103 pt_3 G
theorem bC_3_218_576 {xs : Nat → Int} {L d : Nat} (hd : 2 ≤ d) : px_Cl xs L d 3 [.ref 217, .ref 1] (bS 218, bM 576) none (bS 228, bM 606) := by
  obtain ⟨d, rfl⟩ : ∃ e, d = e + 1 := ⟨d - 1, by omega⟩
  refine px_Cl_intro (Nat.le_of_ble_eq_true rfl) ?_
  show px_R xs L d 3 (0, [.ref 217, .ref 1], [], (bS 218, bM 576)) _
  refine bk_3_218_576_0 (by omega) ?_
  refine bk_3_218_576_1 (by omega) ?_
  exact bk_3_218_576_e (by omega) ⟨rfl, rfl⟩
theorem bk_1_1_1_e {xs : Nat → Int} {L d : Nat} {Q : Option Value → px_H → Prop} (hd : 3 ≤ d) (G : Q none (bS 228, bM 607)) : px_R xs L d 1 (175, [.ref 0, .int (iI (0))], [.ref 25], (bS 206, bM 543)) Q := by
  refine rr_iload_n pf_1_175 rfl ?_
  refine rr_new pf_1_176 po_1 pn_8_16 (by decide) rfl (fun M2 e => ?_)
  rw [bz_l (by decide : 206 ≤ 264)] at e ⊢
  rw [e.trans (bz_o (by decide +kernel) (rfl : 543 + 1 = 544))]
  rw [bz_n (by decide +kernel) (rfl : 206 + 1 = 207)]
  refine rr_dup pf_1_179 rfl ?_
  refine rr_aload_n pf_1_180 rfl ?_
  refine rr_getR (q := 1) pf_1_181 po_1 pg_8_12 rfl (bz_s (x := (8, 15)) (by decide +kernel)) (by decide) (by decide +kernel) ?_
  refine rr_cI1 pf_1_184 po_1 pc_8_18 (by decide) rfl (bC_3_207_544 (Nat.le_trans (by decide) hd)) ?_
  refine rr_aast pf_1_187 (bz_s (x := (15, 2)) (by decide +kernel)) (by decide) (by decide) (by unfold rg; omega) (by decide) (by decide +kernel) (fun M2 e => ?_)
  rw [e.trans (bz_u (by decide +kernel) (rfl : 574 + 1 = 575))]
  refine rr_iinc (x := 0) pf_1_188 rfl (fun y => [.ref 0, .int (iI y)]) (fun _ => rfl) (fun y ey => ?_)
  obtain rfl : y = 1 := ey
  refine rr_goto 166 pf_1_191 (by decide) ?_
  refine rr_iload_n pf_1_166 rfl ?_
  refine rr_iconst pf_1_167 ?_
  refine rr_icmp_ge 194 pf_1_168 (by decide) (by unfold rg; omega) (by unfold rg; omega) (fun z => absurd z (by decide)) (fun _ => ?_)
  refine rr_aload_n pf_1_171 rfl ?_
  refine rr_getR (q := 25) pf_1_172 po_1 pg_8_28 rfl (bz_s (x := (8, 15)) (by decide +kernel)) (by decide) (by decide +kernel) ?_
  refine rr_iload_n pf_1_175 rfl ?_
  refine rr_new pf_1_176 po_1 pn_8_16 (by decide) rfl (fun M2 e => ?_)
  rw [bz_l (by decide : 217 ≤ 264)] at e ⊢
  rw [e.trans (bz_o (by decide +kernel) (rfl : 575 + 1 = 576))]
  rw [bz_n (by decide +kernel) (rfl : 217 + 1 = 218)]
  refine rr_dup pf_1_179 rfl ?_
  refine rr_aload_n pf_1_180 rfl ?_
  refine rr_getR (q := 1) pf_1_181 po_1 pg_8_12 rfl (bz_s (x := (8, 15)) (by decide +kernel)) (by decide) (by decide +kernel) ?_
  refine rr_cI1 pf_1_184 po_1 pc_8_18 (by decide) rfl (bC_3_218_576 (Nat.le_trans (by decide) hd)) ?_
  refine rr_aast pf_1_187 (bz_s (x := (15, 2)) (by decide +kernel)) (by decide) (by decide) (by unfold rg; omega) (by decide) (by decide +kernel) (fun M2 e => ?_)
  rw [e.trans (bz_u (by decide +kernel) (rfl : 606 + 1 = 607))]
  refine rr_iinc (x := 1) pf_1_188 rfl (fun y => [.ref 0, .int (iI y)]) (fun _ => rfl) (fun y ey => ?_)
  obtain rfl : y = 2 := ey
  refine rr_goto 166 pf_1_191 (by decide) ?_
  refine rr_iload_n pf_1_166 rfl ?_
  refine rr_iconst pf_1_167 ?_
  refine rr_icmp_ge 194 pf_1_168 (by decide) (by unfold rg; omega) (by unfold rg; omega) (fun _ => ?_) (fun z => absurd z (by decide))
  exact rr_vret pf_1_194 pt_1 G
theorem bC_1_1_1 {xs : Nat → Int} {L d : Nat} (hd : 4 ≤ d) : px_Cl xs L d 1 [.ref 0] (bS 1, bM 1) none (bS 228, bM 607) := by
  obtain ⟨d, rfl⟩ : ∃ e, d = e + 1 := ⟨d - 1, by omega⟩
  refine px_Cl_intro (Nat.le_of_ble_eq_true rfl) ?_
  show px_R xs L d 1 (0, [.ref 0, px_jk], [], (bS 1, bM 1)) _
  refine bk_1_1_1_0 (by omega) ?_
  refine bk_1_1_1_1 (by omega) ?_
  refine bk_1_1_1_2 (by omega) ?_
  exact bk_1_1_1_e (by omega) ⟨rfl, rfl⟩
theorem bk_174_229_608_0 {xs : Nat → Int} {L d : Nat} {Q : Option Value → px_H → Prop} (hd : 0 ≤ d) (G : px_R xs L d 174 (51, [.ref 228], [.ref 234, .ref 228], (bS 235, bM 619)) Q) : px_R xs L d 174 (0, [.ref 228], [], (bS 229, bM 608)) Q := by
  refine rr_aload_n pf_174_0 rfl ?_
  refine rr_objI pf_174_1 po_174 pc_9_1 (by decide) ?_
  refine rr_aload_n pf_174_4 rfl ?_
  refine rr_bipush pf_174_5 (by decide) ?_
  refine rr_newa 10 pf_174_7 (by simp) (by decide) (fun M2 e => ?_)
  rw [bz_l (by decide : 229 ≤ 264)] at e ⊢
  rw [e.trans (bz_c (by decide +kernel) (rfl : 608 + 1 = 609))]
  rw [bz_n (by decide +kernel) (rfl : 229 + 1 = 230)]
  refine rr_putR pf_174_9 po_174 pg_9_7 (Or.inr ⟨by decide +kernel, rfl⟩) rfl (bz_s (x := (9, 62)) (by decide +kernel)) (by decide) (fun M2 e => ?_)
  rw [e.trans (bz_u (by decide +kernel) (rfl : 609 + 1 = 610))]
  refine rr_aload_n pf_174_12 rfl ?_
  refine rr_sipush pf_174_13 (by decide) ?_
  refine rr_newa 10 pf_174_16 (by simp) (by decide) (fun M2 e => ?_)
  rw [bz_l (by decide : 230 ≤ 264)] at e ⊢
  rw [e.trans (bz_c (by decide +kernel) (rfl : 610 + 1 = 611))]
  rw [bz_n (by decide +kernel) (rfl : 230 + 1 = 231)]
  refine rr_putR pf_174_18 po_174 pg_9_13 (Or.inr ⟨by decide +kernel, rfl⟩) rfl (bz_s (x := (9, 62)) (by decide +kernel)) (by decide) (fun M2 e => ?_)
  rw [e.trans (bz_u (by decide +kernel) (rfl : 611 + 1 = 612))]
  refine rr_aload_n pf_174_21 rfl ?_
  refine rr_sipush pf_174_22 (by decide) ?_
  refine rr_newa 10 pf_174_25 (by simp) (by decide) (fun M2 e => ?_)
  rw [bz_l (by decide : 231 ≤ 264)] at e ⊢
  rw [e.trans (bz_c (by decide +kernel) (rfl : 612 + 1 = 613))]
  rw [bz_n (by decide +kernel) (rfl : 231 + 1 = 232)]
  refine rr_putR pf_174_27 po_174 pg_9_16 (Or.inr ⟨by decide +kernel, rfl⟩) rfl (bz_s (x := (9, 62)) (by decide +kernel)) (by decide) (fun M2 e => ?_)
  rw [e.trans (bz_u (by decide +kernel) (rfl : 613 + 1 = 614))]
  refine rr_aload_n pf_174_30 rfl ?_
  refine rr_iconst pf_174_31 ?_
  refine rr_newa 11 pf_174_32 (by simp) (by decide) (fun M2 e => ?_)
  rw [bz_l (by decide : 232 ≤ 264)] at e ⊢
  rw [e.trans (bz_c (by decide +kernel) (rfl : 614 + 1 = 615))]
  rw [bz_n (by decide +kernel) (rfl : 232 + 1 = 233)]
  refine rr_putR pf_174_34 po_174 pg_9_19 (Or.inr ⟨by decide +kernel, rfl⟩) rfl (bz_s (x := (9, 62)) (by decide +kernel)) (by decide) (fun M2 e => ?_)
  rw [e.trans (bz_u (by decide +kernel) (rfl : 615 + 1 = 616))]
  refine rr_aload_n pf_174_37 rfl ?_
  refine rr_sipush pf_174_38 (by decide) ?_
  refine rr_newa 10 pf_174_41 (by simp) (by decide) (fun M2 e => ?_)
  rw [bz_l (by decide : 233 ≤ 264)] at e ⊢
  rw [e.trans (bz_c (by decide +kernel) (rfl : 616 + 1 = 617))]
  rw [bz_n (by decide +kernel) (rfl : 233 + 1 = 234)]
  refine rr_putR pf_174_43 po_174 pg_9_23 (Or.inr ⟨by decide +kernel, rfl⟩) rfl (bz_s (x := (9, 62)) (by decide +kernel)) (by decide) (fun M2 e => ?_)
  rw [e.trans (bz_u (by decide +kernel) (rfl : 617 + 1 = 618))]
  refine rr_aload_n pf_174_46 rfl ?_
  refine rr_bipush pf_174_47 (by decide) ?_
  refine rr_newa 10 pf_174_49 (by simp) (by decide) (fun M2 e => ?_)
  rw [bz_l (by decide : 234 ≤ 264)] at e ⊢
  rw [e.trans (bz_c (by decide +kernel) (rfl : 618 + 1 = 619))]
  rw [bz_n (by decide +kernel) (rfl : 234 + 1 = 235)]
  exact G
theorem bk_174_229_608_1 {xs : Nat → Int} {L d : Nat} {Q : Option Value → px_H → Prop} (hd : 0 ≤ d) (G : px_R xs L d 174 (102, [.ref 228], [], (bS 240, bM 631)) Q) : px_R xs L d 174 (51, [.ref 228], [.ref 234, .ref 228], (bS 235, bM 619)) Q := by
  refine rr_putR pf_174_51 po_174 pg_9_26 (Or.inr ⟨by decide +kernel, rfl⟩) rfl (bz_s (x := (9, 62)) (by decide +kernel)) (by decide) (fun M2 e => ?_)
  rw [e.trans (bz_u (by decide +kernel) (rfl : 619 + 1 = 620))]
  refine rr_aload_n pf_174_54 rfl ?_
  refine rr_sipush pf_174_55 (by decide) ?_
  refine rr_newa 10 pf_174_58 (by simp) (by decide) (fun M2 e => ?_)
  rw [bz_l (by decide : 235 ≤ 264)] at e ⊢
  rw [e.trans (bz_c (by decide +kernel) (rfl : 620 + 1 = 621))]
  rw [bz_n (by decide +kernel) (rfl : 235 + 1 = 236)]
  refine rr_putR pf_174_60 po_174 pg_9_29 (Or.inr ⟨by decide +kernel, rfl⟩) rfl (bz_s (x := (9, 62)) (by decide +kernel)) (by decide) (fun M2 e => ?_)
  rw [e.trans (bz_u (by decide +kernel) (rfl : 621 + 1 = 622))]
  refine rr_aload_n pf_174_63 rfl ?_
  refine rr_bipush pf_174_64 (by decide) ?_
  refine rr_newa 10 pf_174_66 (by simp) (by decide) (fun M2 e => ?_)
  rw [bz_l (by decide : 236 ≤ 264)] at e ⊢
  rw [e.trans (bz_c (by decide +kernel) (rfl : 622 + 1 = 623))]
  rw [bz_n (by decide +kernel) (rfl : 236 + 1 = 237)]
  refine rr_putR pf_174_68 po_174 pg_9_32 (Or.inr ⟨by decide +kernel, rfl⟩) rfl (bz_s (x := (9, 62)) (by decide +kernel)) (by decide) (fun M2 e => ?_)
  rw [e.trans (bz_u (by decide +kernel) (rfl : 623 + 1 = 624))]
  refine rr_aload_n pf_174_71 rfl ?_
  refine rr_sipush pf_174_72 (by decide) ?_
  refine rr_newa 10 pf_174_75 (by simp) (by decide) (fun M2 e => ?_)
  rw [bz_l (by decide : 237 ≤ 264)] at e ⊢
  rw [e.trans (bz_c (by decide +kernel) (rfl : 624 + 1 = 625))]
  rw [bz_n (by decide +kernel) (rfl : 237 + 1 = 238)]
  refine rr_putR pf_174_77 po_174 pg_9_35 (Or.inr ⟨by decide +kernel, rfl⟩) rfl (bz_s (x := (9, 62)) (by decide +kernel)) (by decide) (fun M2 e => ?_)
  rw [e.trans (bz_u (by decide +kernel) (rfl : 625 + 1 = 626))]
  refine rr_aload_n pf_174_80 rfl ?_
  refine rr_iconst pf_174_81 ?_
  refine rr_putI pf_174_82 po_174 pg_9_38 (Or.inr ⟨by decide +kernel, rfl⟩) rfl (bz_s (x := (9, 62)) (by decide +kernel)) (by decide) (by unfold rg; omega) (fun M2 e => ?_)
  rw [e.trans (bz_u (by decide +kernel) (rfl : 626 + 1 = 627))]
  refine rr_aload_n pf_174_85 rfl ?_
  refine rr_bipush pf_174_86 (by decide) ?_
  refine rr_newa 10 pf_174_88 (by simp) (by decide) (fun M2 e => ?_)
  rw [bz_l (by decide : 238 ≤ 264)] at e ⊢
  rw [e.trans (bz_c (by decide +kernel) (rfl : 627 + 1 = 628))]
  rw [bz_n (by decide +kernel) (rfl : 238 + 1 = 239)]
  refine rr_putR pf_174_90 po_174 pg_9_42 (Or.inr ⟨by decide +kernel, rfl⟩) rfl (bz_s (x := (9, 62)) (by decide +kernel)) (by decide) (fun M2 e => ?_)
  rw [e.trans (bz_u (by decide +kernel) (rfl : 628 + 1 = 629))]
  refine rr_aload_n pf_174_93 rfl ?_
  refine rr_sipush pf_174_94 (by decide) ?_
  refine rr_newa 10 pf_174_97 (by simp) (by decide) (fun M2 e => ?_)
  rw [bz_l (by decide : 239 ≤ 264)] at e ⊢
  rw [e.trans (bz_c (by decide +kernel) (rfl : 629 + 1 = 630))]
  rw [bz_n (by decide +kernel) (rfl : 239 + 1 = 240)]
  refine rr_putR pf_174_99 po_174 pg_9_45 (Or.inr ⟨by decide +kernel, rfl⟩) rfl (bz_s (x := (9, 62)) (by decide +kernel)) (by decide) (fun M2 e => ?_)
  rw [e.trans (bz_u (by decide +kernel) (rfl : 630 + 1 = 631))]
  exact G
theorem bk_174_229_608_2 {xs : Nat → Int} {L d : Nat} {Q : Option Value → px_H → Prop} (hd : 0 ≤ d) (G : px_R xs L d 174 (152, [.ref 228], [.ref 243, .ref 228], (bS 244, bM 641)) Q) : px_R xs L d 174 (102, [.ref 228], [], (bS 240, bM 631)) Q := by
  refine rr_aload_n pf_174_102 rfl ?_
  refine rr_sipush pf_174_103 (by decide) ?_
  refine rr_newa 10 pf_174_106 (by simp) (by decide) (fun M2 e => ?_)
  rw [bz_l (by decide : 240 ≤ 264)] at e ⊢
  rw [e.trans (bz_c (by decide +kernel) (rfl : 631 + 1 = 632))]
  rw [bz_n (by decide +kernel) (rfl : 240 + 1 = 241)]
  refine rr_putR pf_174_108 po_174 pg_9_48 (Or.inr ⟨by decide +kernel, rfl⟩) rfl (bz_s (x := (9, 62)) (by decide +kernel)) (by decide) (fun M2 e => ?_)
  rw [e.trans (bz_u (by decide +kernel) (rfl : 632 + 1 = 633))]
  refine rr_aload_n pf_174_111 rfl ?_
  refine rr_sipush pf_174_112 (by decide) ?_
  refine rr_newa 10 pf_174_115 (by simp) (by decide) (fun M2 e => ?_)
  rw [bz_l (by decide : 241 ≤ 264)] at e ⊢
  rw [e.trans (bz_c (by decide +kernel) (rfl : 633 + 1 = 634))]
  rw [bz_n (by decide +kernel) (rfl : 241 + 1 = 242)]
  refine rr_putR pf_174_117 po_174 pg_9_51 (Or.inr ⟨by decide +kernel, rfl⟩) rfl (bz_s (x := (9, 62)) (by decide +kernel)) (by decide) (fun M2 e => ?_)
  rw [e.trans (bz_u (by decide +kernel) (rfl : 634 + 1 = 635))]
  refine rr_aload_n pf_174_120 rfl ?_
  refine rr_sipush pf_174_121 (by decide) ?_
  refine rr_newa 10 pf_174_124 (by simp) (by decide) (fun M2 e => ?_)
  rw [bz_l (by decide : 242 ≤ 264)] at e ⊢
  rw [e.trans (bz_c (by decide +kernel) (rfl : 635 + 1 = 636))]
  rw [bz_n (by decide +kernel) (rfl : 242 + 1 = 243)]
  refine rr_putR pf_174_126 po_174 pg_9_54 (Or.inr ⟨by decide +kernel, rfl⟩) rfl (bz_s (x := (9, 62)) (by decide +kernel)) (by decide) (fun M2 e => ?_)
  rw [e.trans (bz_u (by decide +kernel) (rfl : 636 + 1 = 637))]
  refine rr_aload_n pf_174_129 rfl ?_
  refine rr_bipush pf_174_130 (by decide) ?_
  refine rr_newa 12 pf_174_132 (by simp) (by decide) (fun M2 e => ?_)
  rw [bz_l (by decide : 243 ≤ 264)] at e ⊢
  rw [e.trans (bz_c (by decide +kernel) (rfl : 637 + 1 = 638))]
  rw [bz_n (by decide +kernel) (rfl : 243 + 1 = 244)]
  refine rr_dup pf_174_134 rfl ?_
  refine rr_iconst pf_174_135 ?_
  refine rr_ldc2_w pf_174_136 po_174 pl_9_57 ?_
  refine rr_last pf_174_139 (bz_s (x := (12, 12)) (by decide +kernel)) (by decide) (by decide) (by unfold rg; omega) (by unfold rl; omega) (fun M2 e => ?_)
  rw [e.trans (bz_u (by decide +kernel) (rfl : 638 + 1 = 639))]
  refine rr_dup pf_174_140 rfl ?_
  refine rr_iconst pf_174_141 ?_
  refine rr_ldc2_w pf_174_142 po_174 pl_9_59 ?_
  refine rr_last pf_174_145 (bz_s (x := (12, 12)) (by decide +kernel)) (by decide) (by decide) (by unfold rg; omega) (by unfold rl; omega) (fun M2 e => ?_)
  rw [e.trans (bz_u (by decide +kernel) (rfl : 639 + 1 = 640))]
  refine rr_dup pf_174_146 rfl ?_
  refine rr_iconst pf_174_147 ?_
  refine rr_ldc2_w pf_174_148 po_174 pl_9_61 ?_
  refine rr_last pf_174_151 (bz_s (x := (12, 12)) (by decide +kernel)) (by decide) (by decide) (by unfold rg; omega) (by unfold rl; omega) (fun M2 e => ?_)
  rw [e.trans (bz_u (by decide +kernel) (rfl : 640 + 1 = 641))]
  exact G
theorem bk_174_229_608_3 {xs : Nat → Int} {L d : Nat} {Q : Option Value → px_H → Prop} (hd : 0 ≤ d) (G : px_R xs L d 174 (212, [.ref 228], [.ref 243, .ref 228], (bS 244, bM 650)) Q) : px_R xs L d 174 (152, [.ref 228], [.ref 243, .ref 228], (bS 244, bM 641)) Q := by
  refine rr_dup pf_174_152 rfl ?_
  refine rr_iconst pf_174_153 ?_
  refine rr_ldc2_w pf_174_154 po_174 pl_9_63 ?_
  refine rr_last pf_174_157 (bz_s (x := (12, 12)) (by decide +kernel)) (by decide) (by decide) (by unfold rg; omega) (by unfold rl; omega) (fun M2 e => ?_)
  rw [e.trans (bz_u (by decide +kernel) (rfl : 641 + 1 = 642))]
  refine rr_dup pf_174_158 rfl ?_
  refine rr_iconst pf_174_159 ?_
  refine rr_ldc2_w pf_174_160 po_174 pl_9_65 ?_
  refine rr_last pf_174_163 (bz_s (x := (12, 12)) (by decide +kernel)) (by decide) (by decide) (by unfold rg; omega) (by unfold rl; omega) (fun M2 e => ?_)
  rw [e.trans (bz_u (by decide +kernel) (rfl : 642 + 1 = 643))]
  refine rr_dup pf_174_164 rfl ?_
  refine rr_iconst pf_174_165 ?_
  refine rr_ldc2_w pf_174_166 po_174 pl_9_67 ?_
  refine rr_last pf_174_169 (bz_s (x := (12, 12)) (by decide +kernel)) (by decide) (by decide) (by unfold rg; omega) (by unfold rl; omega) (fun M2 e => ?_)
  rw [e.trans (bz_u (by decide +kernel) (rfl : 643 + 1 = 644))]
  refine rr_dup pf_174_170 rfl ?_
  refine rr_bipush pf_174_171 (by decide) ?_
  refine rr_ldc2_w pf_174_173 po_174 pl_9_69 ?_
  refine rr_last pf_174_176 (bz_s (x := (12, 12)) (by decide +kernel)) (by decide) (by decide) (by unfold rg; omega) (by unfold rl; omega) (fun M2 e => ?_)
  rw [e.trans (bz_u (by decide +kernel) (rfl : 644 + 1 = 645))]
  refine rr_dup pf_174_177 rfl ?_
  refine rr_bipush pf_174_178 (by decide) ?_
  refine rr_ldc2_w pf_174_180 po_174 pl_9_71 ?_
  refine rr_last pf_174_183 (bz_s (x := (12, 12)) (by decide +kernel)) (by decide) (by decide) (by unfold rg; omega) (by unfold rl; omega) (fun M2 e => ?_)
  rw [e.trans (bz_u (by decide +kernel) (rfl : 645 + 1 = 646))]
  refine rr_dup pf_174_184 rfl ?_
  refine rr_bipush pf_174_185 (by decide) ?_
  refine rr_ldc2_w pf_174_187 po_174 pl_9_73 ?_
  refine rr_last pf_174_190 (bz_s (x := (12, 12)) (by decide +kernel)) (by decide) (by decide) (by unfold rg; omega) (by unfold rl; omega) (fun M2 e => ?_)
  rw [e.trans (bz_u (by decide +kernel) (rfl : 646 + 1 = 647))]
  refine rr_dup pf_174_191 rfl ?_
  refine rr_bipush pf_174_192 (by decide) ?_
  refine rr_ldc2_w pf_174_194 po_174 pl_9_75 ?_
  refine rr_last pf_174_197 (bz_s (x := (12, 12)) (by decide +kernel)) (by decide) (by decide) (by unfold rg; omega) (by unfold rl; omega) (fun M2 e => ?_)
  rw [e.trans (bz_u (by decide +kernel) (rfl : 647 + 1 = 648))]
  refine rr_dup pf_174_198 rfl ?_
  refine rr_bipush pf_174_199 (by decide) ?_
  refine rr_ldc2_w pf_174_201 po_174 pl_9_77 ?_
  refine rr_last pf_174_204 (bz_s (x := (12, 12)) (by decide +kernel)) (by decide) (by decide) (by unfold rg; omega) (by unfold rl; omega) (fun M2 e => ?_)
  rw [e.trans (bz_u (by decide +kernel) (rfl : 648 + 1 = 649))]
  refine rr_dup pf_174_205 rfl ?_
  refine rr_bipush pf_174_206 (by decide) ?_
  refine rr_ldc2_w pf_174_208 po_174 pl_9_79 ?_
  refine rr_last pf_174_211 (bz_s (x := (12, 12)) (by decide +kernel)) (by decide) (by decide) (by unfold rg; omega) (by unfold rl; omega) (fun M2 e => ?_)
  rw [e.trans (bz_u (by decide +kernel) (rfl : 649 + 1 = 650))]
  exact G
theorem bk_174_229_608_4 {xs : Nat → Int} {L d : Nat} {Q : Option Value → px_H → Prop} (hd : 0 ≤ d) (G : px_R xs L d 174 (266, [.ref 228], [.int (iI (7)), .ref 244, .ref 244, .ref 228], (bS 245, bM 659)) Q) : px_R xs L d 174 (212, [.ref 228], [.ref 243, .ref 228], (bS 244, bM 650)) Q := by
  refine rr_putR pf_174_212 po_174 pg_9_81 (Or.inr ⟨by decide +kernel, rfl⟩) rfl (bz_s (x := (9, 62)) (by decide +kernel)) (by decide) (fun M2 e => ?_)
  rw [e.trans (bz_u (by decide +kernel) (rfl : 650 + 1 = 651))]
  refine rr_aload_n pf_174_215 rfl ?_
  refine rr_bipush pf_174_216 (by decide) ?_
  refine rr_newa 12 pf_174_218 (by simp) (by decide) (fun M2 e => ?_)
  rw [bz_l (by decide : 244 ≤ 264)] at e ⊢
  rw [e.trans (bz_c (by decide +kernel) (rfl : 651 + 1 = 652))]
  rw [bz_n (by decide +kernel) (rfl : 244 + 1 = 245)]
  refine rr_dup pf_174_220 rfl ?_
  refine rr_iconst pf_174_221 ?_
  refine rr_ldc2_w pf_174_222 po_174 pl_9_77 ?_
  refine rr_last pf_174_225 (bz_s (x := (12, 9)) (by decide +kernel)) (by decide) (by decide) (by unfold rg; omega) (by unfold rl; omega) (fun M2 e => ?_)
  rw [e.trans (bz_u (by decide +kernel) (rfl : 652 + 1 = 653))]
  refine rr_dup pf_174_226 rfl ?_
  refine rr_iconst pf_174_227 ?_
  refine rr_ldc2_w pf_174_228 po_174 pl_9_85 ?_
  refine rr_last pf_174_231 (bz_s (x := (12, 9)) (by decide +kernel)) (by decide) (by decide) (by unfold rg; omega) (by unfold rl; omega) (fun M2 e => ?_)
  rw [e.trans (bz_u (by decide +kernel) (rfl : 653 + 1 = 654))]
  refine rr_dup pf_174_232 rfl ?_
  refine rr_iconst pf_174_233 ?_
  refine rr_ldc2_w pf_174_234 po_174 pl_9_87 ?_
  refine rr_last pf_174_237 (bz_s (x := (12, 9)) (by decide +kernel)) (by decide) (by decide) (by unfold rg; omega) (by unfold rl; omega) (fun M2 e => ?_)
  rw [e.trans (bz_u (by decide +kernel) (rfl : 654 + 1 = 655))]
  refine rr_dup pf_174_238 rfl ?_
  refine rr_iconst pf_174_239 ?_
  refine rr_ldc2_w pf_174_240 po_174 pl_9_89 ?_
  refine rr_last pf_174_243 (bz_s (x := (12, 9)) (by decide +kernel)) (by decide) (by decide) (by unfold rg; omega) (by unfold rl; omega) (fun M2 e => ?_)
  rw [e.trans (bz_u (by decide +kernel) (rfl : 655 + 1 = 656))]
  refine rr_dup pf_174_244 rfl ?_
  refine rr_iconst pf_174_245 ?_
  refine rr_ldc2_w pf_174_246 po_174 pl_9_91 ?_
  refine rr_last pf_174_249 (bz_s (x := (12, 9)) (by decide +kernel)) (by decide) (by decide) (by unfold rg; omega) (by unfold rl; omega) (fun M2 e => ?_)
  rw [e.trans (bz_u (by decide +kernel) (rfl : 656 + 1 = 657))]
  refine rr_dup pf_174_250 rfl ?_
  refine rr_iconst pf_174_251 ?_
  refine rr_ldc2_w pf_174_252 po_174 pl_9_69 ?_
  refine rr_last pf_174_255 (bz_s (x := (12, 9)) (by decide +kernel)) (by decide) (by decide) (by unfold rg; omega) (by unfold rl; omega) (fun M2 e => ?_)
  rw [e.trans (bz_u (by decide +kernel) (rfl : 657 + 1 = 658))]
  refine rr_dup pf_174_256 rfl ?_
  refine rr_bipush pf_174_257 (by decide) ?_
  refine rr_ldc2_w pf_174_259 po_174 pl_9_71 ?_
  refine rr_last pf_174_262 (bz_s (x := (12, 9)) (by decide +kernel)) (by decide) (by decide) (by unfold rg; omega) (by unfold rl; omega) (fun M2 e => ?_)
  rw [e.trans (bz_u (by decide +kernel) (rfl : 658 + 1 = 659))]
  refine rr_dup pf_174_263 rfl ?_
  refine rr_bipush pf_174_264 (by decide) ?_
  exact G
theorem bk_174_229_608_5 {xs : Nat → Int} {L d : Nat} {Q : Option Value → px_H → Prop} (hd : 0 ≤ d) (G : px_R xs L d 174 (319, [.ref 228], [], (bS 247, bM 670)) Q) : px_R xs L d 174 (266, [.ref 228], [.int (iI (7)), .ref 244, .ref 244, .ref 228], (bS 245, bM 659)) Q := by
  refine rr_ldc2_w pf_174_266 po_174 pl_9_73 ?_
  refine rr_last pf_174_269 (bz_s (x := (12, 9)) (by decide +kernel)) (by decide) (by decide) (by unfold rg; omega) (by unfold rl; omega) (fun M2 e => ?_)
  rw [e.trans (bz_u (by decide +kernel) (rfl : 659 + 1 = 660))]
  refine rr_dup pf_174_270 rfl ?_
  refine rr_bipush pf_174_271 (by decide) ?_
  refine rr_ldc2_w pf_174_273 po_174 pl_9_75 ?_
  refine rr_last pf_174_276 (bz_s (x := (12, 9)) (by decide +kernel)) (by decide) (by decide) (by unfold rg; omega) (by unfold rl; omega) (fun M2 e => ?_)
  rw [e.trans (bz_u (by decide +kernel) (rfl : 660 + 1 = 661))]
  refine rr_putR pf_174_277 po_174 pg_9_93 (Or.inr ⟨by decide +kernel, rfl⟩) rfl (bz_s (x := (9, 62)) (by decide +kernel)) (by decide) (fun M2 e => ?_)
  rw [e.trans (bz_u (by decide +kernel) (rfl : 661 + 1 = 662))]
  refine rr_aload_n pf_174_280 rfl ?_
  refine rr_iconst pf_174_281 ?_
  refine rr_newa 12 pf_174_282 (by simp) (by decide) (fun M2 e => ?_)
  rw [bz_l (by decide : 245 ≤ 264)] at e ⊢
  rw [e.trans (bz_c (by decide +kernel) (rfl : 662 + 1 = 663))]
  rw [bz_n (by decide +kernel) (rfl : 245 + 1 = 246)]
  refine rr_dup pf_174_284 rfl ?_
  refine rr_iconst pf_174_285 ?_
  refine rr_ldc2_w pf_174_286 po_174 pl_9_96 ?_
  refine rr_last pf_174_289 (bz_s (x := (12, 4)) (by decide +kernel)) (by decide) (by decide) (by unfold rg; omega) (by unfold rl; omega) (fun M2 e => ?_)
  rw [e.trans (bz_u (by decide +kernel) (rfl : 663 + 1 = 664))]
  refine rr_dup pf_174_290 rfl ?_
  refine rr_iconst pf_174_291 ?_
  refine rr_ldc2_w pf_174_292 po_174 pl_9_98 ?_
  refine rr_last pf_174_295 (bz_s (x := (12, 4)) (by decide +kernel)) (by decide) (by decide) (by unfold rg; omega) (by unfold rl; omega) (fun M2 e => ?_)
  rw [e.trans (bz_u (by decide +kernel) (rfl : 664 + 1 = 665))]
  refine rr_dup pf_174_296 rfl ?_
  refine rr_iconst pf_174_297 ?_
  refine rr_ldc2_w pf_174_298 po_174 pl_9_100 ?_
  refine rr_last pf_174_301 (bz_s (x := (12, 4)) (by decide +kernel)) (by decide) (by decide) (by unfold rg; omega) (by unfold rl; omega) (fun M2 e => ?_)
  rw [e.trans (bz_u (by decide +kernel) (rfl : 665 + 1 = 666))]
  refine rr_dup pf_174_302 rfl ?_
  refine rr_iconst pf_174_303 ?_
  refine rr_ldc2_w pf_174_304 po_174 pl_9_102 ?_
  refine rr_last pf_174_307 (bz_s (x := (12, 4)) (by decide +kernel)) (by decide) (by decide) (by unfold rg; omega) (by unfold rl; omega) (fun M2 e => ?_)
  rw [e.trans (bz_u (by decide +kernel) (rfl : 666 + 1 = 667))]
  refine rr_putR pf_174_308 po_174 pg_9_104 (Or.inr ⟨by decide +kernel, rfl⟩) rfl (bz_s (x := (9, 62)) (by decide +kernel)) (by decide) (fun M2 e => ?_)
  rw [e.trans (bz_u (by decide +kernel) (rfl : 667 + 1 = 668))]
  refine rr_aload_n pf_174_311 rfl ?_
  refine rr_bipush pf_174_312 (by decide) ?_
  refine rr_newa 12 pf_174_314 (by simp) (by decide) (fun M2 e => ?_)
  rw [bz_l (by decide : 246 ≤ 264)] at e ⊢
  rw [e.trans (bz_c (by decide +kernel) (rfl : 668 + 1 = 669))]
  rw [bz_n (by decide +kernel) (rfl : 246 + 1 = 247)]
  refine rr_putR pf_174_316 po_174 pg_9_107 (Or.inr ⟨by decide +kernel, rfl⟩) rfl (bz_s (x := (9, 62)) (by decide +kernel)) (by decide) (fun M2 e => ?_)
  rw [e.trans (bz_u (by decide +kernel) (rfl : 669 + 1 = 670))]
  exact G
theorem bk_174_229_608_6 {xs : Nat → Int} {L d : Nat} {Q : Option Value → px_H → Prop} (hd : 0 ≤ d) (G : px_R xs L d 174 (365, [.ref 228], [.ref 252, .ref 228], (bS 253, bM 681)) Q) : px_R xs L d 174 (319, [.ref 228], [], (bS 247, bM 670)) Q := by
  refine rr_aload_n pf_174_319 rfl ?_
  refine rr_bipush pf_174_320 (by decide) ?_
  refine rr_newa 12 pf_174_322 (by simp) (by decide) (fun M2 e => ?_)
  rw [bz_l (by decide : 247 ≤ 264)] at e ⊢
  rw [e.trans (bz_c (by decide +kernel) (rfl : 670 + 1 = 671))]
  rw [bz_n (by decide +kernel) (rfl : 247 + 1 = 248)]
  refine rr_putR pf_174_324 po_174 pg_9_110 (Or.inr ⟨by decide +kernel, rfl⟩) rfl (bz_s (x := (9, 62)) (by decide +kernel)) (by decide) (fun M2 e => ?_)
  rw [e.trans (bz_u (by decide +kernel) (rfl : 671 + 1 = 672))]
  refine rr_aload_n pf_174_327 rfl ?_
  refine rr_sipush pf_174_328 (by decide) ?_
  refine rr_newa 12 pf_174_331 (by simp) (by decide) (fun M2 e => ?_)
  rw [bz_l (by decide : 248 ≤ 264)] at e ⊢
  rw [e.trans (bz_c (by decide +kernel) (rfl : 672 + 1 = 673))]
  rw [bz_n (by decide +kernel) (rfl : 248 + 1 = 249)]
  refine rr_putR pf_174_333 po_174 pg_9_113 (Or.inr ⟨by decide +kernel, rfl⟩) rfl (bz_s (x := (9, 62)) (by decide +kernel)) (by decide) (fun M2 e => ?_)
  rw [e.trans (bz_u (by decide +kernel) (rfl : 673 + 1 = 674))]
  refine rr_aload_n pf_174_336 rfl ?_
  refine rr_bipush pf_174_337 (by decide) ?_
  refine rr_newa 10 pf_174_339 (by simp) (by decide) (fun M2 e => ?_)
  rw [bz_l (by decide : 249 ≤ 264)] at e ⊢
  rw [e.trans (bz_c (by decide +kernel) (rfl : 674 + 1 = 675))]
  rw [bz_n (by decide +kernel) (rfl : 249 + 1 = 250)]
  refine rr_putR pf_174_341 po_174 pg_9_116 (Or.inr ⟨by decide +kernel, rfl⟩) rfl (bz_s (x := (9, 62)) (by decide +kernel)) (by decide) (fun M2 e => ?_)
  rw [e.trans (bz_u (by decide +kernel) (rfl : 675 + 1 = 676))]
  refine rr_aload_n pf_174_344 rfl ?_
  refine rr_bipush pf_174_345 (by decide) ?_
  refine rr_newa 10 pf_174_347 (by simp) (by decide) (fun M2 e => ?_)
  rw [bz_l (by decide : 250 ≤ 264)] at e ⊢
  rw [e.trans (bz_c (by decide +kernel) (rfl : 676 + 1 = 677))]
  rw [bz_n (by decide +kernel) (rfl : 250 + 1 = 251)]
  refine rr_putR pf_174_349 po_174 pg_9_119 (Or.inr ⟨by decide +kernel, rfl⟩) rfl (bz_s (x := (9, 62)) (by decide +kernel)) (by decide) (fun M2 e => ?_)
  rw [e.trans (bz_u (by decide +kernel) (rfl : 677 + 1 = 678))]
  refine rr_aload_n pf_174_352 rfl ?_
  refine rr_sipush pf_174_353 (by decide) ?_
  refine rr_newa 10 pf_174_356 (by simp) (by decide) (fun M2 e => ?_)
  rw [bz_l (by decide : 251 ≤ 264)] at e ⊢
  rw [e.trans (bz_c (by decide +kernel) (rfl : 678 + 1 = 679))]
  rw [bz_n (by decide +kernel) (rfl : 251 + 1 = 252)]
  refine rr_putR pf_174_358 po_174 pg_9_122 (Or.inr ⟨by decide +kernel, rfl⟩) rfl (bz_s (x := (9, 62)) (by decide +kernel)) (by decide) (fun M2 e => ?_)
  rw [e.trans (bz_u (by decide +kernel) (rfl : 679 + 1 = 680))]
  refine rr_aload_n pf_174_361 rfl ?_
  refine rr_iconst pf_174_362 ?_
  refine rr_newa 10 pf_174_363 (by simp) (by decide) (fun M2 e => ?_)
  rw [bz_l (by decide : 252 ≤ 264)] at e ⊢
  rw [e.trans (bz_c (by decide +kernel) (rfl : 680 + 1 = 681))]
  rw [bz_n (by decide +kernel) (rfl : 252 + 1 = 253)]
  exact G
theorem bk_174_229_608_7 {xs : Nat → Int} {L d : Nat} {Q : Option Value → px_H → Prop} (hd : 0 ≤ d) (G : px_R xs L d 174 (415, [.ref 228], [.ref 258, .ref 228], (bS 259, bM 693)) Q) : px_R xs L d 174 (365, [.ref 228], [.ref 252, .ref 228], (bS 253, bM 681)) Q := by
  refine rr_putR pf_174_365 po_174 pg_9_125 (Or.inr ⟨by decide +kernel, rfl⟩) rfl (bz_s (x := (9, 62)) (by decide +kernel)) (by decide) (fun M2 e => ?_)
  rw [e.trans (bz_u (by decide +kernel) (rfl : 681 + 1 = 682))]
  refine rr_aload_n pf_174_368 rfl ?_
  refine rr_sipush pf_174_369 (by decide) ?_
  refine rr_newa 10 pf_174_372 (by simp) (by decide) (fun M2 e => ?_)
  rw [bz_l (by decide : 253 ≤ 264)] at e ⊢
  rw [e.trans (bz_c (by decide +kernel) (rfl : 682 + 1 = 683))]
  rw [bz_n (by decide +kernel) (rfl : 253 + 1 = 254)]
  refine rr_putR pf_174_374 po_174 pg_9_128 (Or.inr ⟨by decide +kernel, rfl⟩) rfl (bz_s (x := (9, 62)) (by decide +kernel)) (by decide) (fun M2 e => ?_)
  rw [e.trans (bz_u (by decide +kernel) (rfl : 683 + 1 = 684))]
  refine rr_aload_n pf_174_377 rfl ?_
  refine rr_sipush pf_174_378 (by decide) ?_
  refine rr_newa 10 pf_174_381 (by simp) (by decide) (fun M2 e => ?_)
  rw [bz_l (by decide : 254 ≤ 264)] at e ⊢
  rw [e.trans (bz_c (by decide +kernel) (rfl : 684 + 1 = 685))]
  rw [bz_n (by decide +kernel) (rfl : 254 + 1 = 255)]
  refine rr_putR pf_174_383 po_174 pg_9_131 (Or.inr ⟨by decide +kernel, rfl⟩) rfl (bz_s (x := (9, 62)) (by decide +kernel)) (by decide) (fun M2 e => ?_)
  rw [e.trans (bz_u (by decide +kernel) (rfl : 685 + 1 = 686))]
  refine rr_aload_n pf_174_386 rfl ?_
  refine rr_bipush pf_174_387 (by decide) ?_
  refine rr_newa 10 pf_174_389 (by simp) (by decide) (fun M2 e => ?_)
  rw [bz_l (by decide : 255 ≤ 264)] at e ⊢
  rw [e.trans (bz_c (by decide +kernel) (rfl : 686 + 1 = 687))]
  rw [bz_n (by decide +kernel) (rfl : 255 + 1 = 256)]
  refine rr_putR pf_174_391 po_174 pg_9_134 (Or.inr ⟨by decide +kernel, rfl⟩) rfl (bz_s (x := (9, 62)) (by decide +kernel)) (by decide) (fun M2 e => ?_)
  rw [e.trans (bz_u (by decide +kernel) (rfl : 687 + 1 = 688))]
  refine rr_aload_n pf_174_394 rfl ?_
  refine rr_bipush pf_174_395 (by decide) ?_
  refine rr_newa 10 pf_174_397 (by simp) (by decide) (fun M2 e => ?_)
  rw [bz_l (by decide : 256 ≤ 264)] at e ⊢
  rw [e.trans (bz_c (by decide +kernel) (rfl : 688 + 1 = 689))]
  rw [bz_n (by decide +kernel) (rfl : 256 + 1 = 257)]
  refine rr_putR pf_174_399 po_174 pg_9_137 (Or.inr ⟨by decide +kernel, rfl⟩) rfl (bz_s (x := (9, 62)) (by decide +kernel)) (by decide) (fun M2 e => ?_)
  rw [e.trans (bz_u (by decide +kernel) (rfl : 689 + 1 = 690))]
  refine rr_aload_n pf_174_402 rfl ?_
  refine rr_bipush pf_174_403 (by decide) ?_
  refine rr_newa 10 pf_174_405 (by simp) (by decide) (fun M2 e => ?_)
  rw [bz_l (by decide : 257 ≤ 264)] at e ⊢
  rw [e.trans (bz_c (by decide +kernel) (rfl : 690 + 1 = 691))]
  rw [bz_n (by decide +kernel) (rfl : 257 + 1 = 258)]
  refine rr_putR pf_174_407 po_174 pg_9_140 (Or.inr ⟨by decide +kernel, rfl⟩) rfl (bz_s (x := (9, 62)) (by decide +kernel)) (by decide) (fun M2 e => ?_)
  rw [e.trans (bz_u (by decide +kernel) (rfl : 691 + 1 = 692))]
  refine rr_aload_n pf_174_410 rfl ?_
  refine rr_bipush pf_174_411 (by decide) ?_
  refine rr_newa 10 pf_174_413 (by simp) (by decide) (fun M2 e => ?_)
  rw [bz_l (by decide : 258 ≤ 264)] at e ⊢
  rw [e.trans (bz_c (by decide +kernel) (rfl : 692 + 1 = 693))]
  rw [bz_n (by decide +kernel) (rfl : 258 + 1 = 259)]
  exact G
theorem bk_174_229_608_8 {xs : Nat → Int} {L d : Nat} {Q : Option Value → px_H → Prop} (hd : 0 ≤ d) (G : px_R xs L d 174 (463, [.ref 228], [.ref 261, .ref 261, .ref 228], (bS 262, bM 703)) Q) : px_R xs L d 174 (415, [.ref 228], [.ref 258, .ref 228], (bS 259, bM 693)) Q := by
  refine rr_putR pf_174_415 po_174 pg_9_143 (Or.inr ⟨by decide +kernel, rfl⟩) rfl (bz_s (x := (9, 62)) (by decide +kernel)) (by decide) (fun M2 e => ?_)
  rw [e.trans (bz_u (by decide +kernel) (rfl : 693 + 1 = 694))]
  refine rr_aload_n pf_174_418 rfl ?_
  refine rr_bipush pf_174_419 (by decide) ?_
  refine rr_newa 10 pf_174_421 (by simp) (by decide) (fun M2 e => ?_)
  rw [bz_l (by decide : 259 ≤ 264)] at e ⊢
  rw [e.trans (bz_c (by decide +kernel) (rfl : 694 + 1 = 695))]
  rw [bz_n (by decide +kernel) (rfl : 259 + 1 = 260)]
  refine rr_putR pf_174_423 po_174 pg_9_146 (Or.inr ⟨by decide +kernel, rfl⟩) rfl (bz_s (x := (9, 62)) (by decide +kernel)) (by decide) (fun M2 e => ?_)
  rw [e.trans (bz_u (by decide +kernel) (rfl : 695 + 1 = 696))]
  refine rr_aload_n pf_174_426 rfl ?_
  refine rr_bipush pf_174_427 (by decide) ?_
  refine rr_newa 12 pf_174_429 (by simp) (by decide) (fun M2 e => ?_)
  rw [bz_l (by decide : 260 ≤ 264)] at e ⊢
  rw [e.trans (bz_c (by decide +kernel) (rfl : 696 + 1 = 697))]
  rw [bz_n (by decide +kernel) (rfl : 260 + 1 = 261)]
  refine rr_putR pf_174_431 po_174 pg_9_149 (Or.inr ⟨by decide +kernel, rfl⟩) rfl (bz_s (x := (9, 62)) (by decide +kernel)) (by decide) (fun M2 e => ?_)
  rw [e.trans (bz_u (by decide +kernel) (rfl : 697 + 1 = 698))]
  refine rr_aload_n pf_174_434 rfl ?_
  refine rr_iconst pf_174_435 ?_
  refine rr_newa 12 pf_174_436 (by simp) (by decide) (fun M2 e => ?_)
  rw [bz_l (by decide : 261 ≤ 264)] at e ⊢
  rw [e.trans (bz_c (by decide +kernel) (rfl : 698 + 1 = 699))]
  rw [bz_n (by decide +kernel) (rfl : 261 + 1 = 262)]
  refine rr_dup pf_174_438 rfl ?_
  refine rr_iconst pf_174_439 ?_
  refine rr_ldc2_w pf_174_440 po_174 pl_9_152 ?_
  refine rr_last pf_174_443 (bz_s (x := (12, 5)) (by decide +kernel)) (by decide) (by decide) (by unfold rg; omega) (by unfold rl; omega) (fun M2 e => ?_)
  rw [e.trans (bz_u (by decide +kernel) (rfl : 699 + 1 = 700))]
  refine rr_dup pf_174_444 rfl ?_
  refine rr_iconst pf_174_445 ?_
  refine rr_ldc2_w pf_174_446 po_174 pl_9_154 ?_
  refine rr_last pf_174_449 (bz_s (x := (12, 5)) (by decide +kernel)) (by decide) (by decide) (by unfold rg; omega) (by unfold rl; omega) (fun M2 e => ?_)
  rw [e.trans (bz_u (by decide +kernel) (rfl : 700 + 1 = 701))]
  refine rr_dup pf_174_450 rfl ?_
  refine rr_iconst pf_174_451 ?_
  refine rr_ldc2_w pf_174_452 po_174 pl_9_156 ?_
  refine rr_last pf_174_455 (bz_s (x := (12, 5)) (by decide +kernel)) (by decide) (by decide) (by unfold rg; omega) (by unfold rl; omega) (fun M2 e => ?_)
  rw [e.trans (bz_u (by decide +kernel) (rfl : 701 + 1 = 702))]
  refine rr_dup pf_174_456 rfl ?_
  refine rr_iconst pf_174_457 ?_
  refine rr_ldc2_w pf_174_458 po_174 pl_9_158 ?_
  refine rr_last pf_174_461 (bz_s (x := (12, 5)) (by decide +kernel)) (by decide) (by decide) (by unfold rg; omega) (by unfold rl; omega) (fun M2 e => ?_)
  rw [e.trans (bz_u (by decide +kernel) (rfl : 702 + 1 = 703))]
  refine rr_dup pf_174_462 rfl ?_
  exact G
theorem bk_174_229_608_e {xs : Nat → Int} {L d : Nat} {Q : Option Value → px_H → Prop} (hd : 0 ≤ d) (G : Q none (bS 264, bM 713)) : px_R xs L d 174 (463, [.ref 228], [.ref 261, .ref 261, .ref 228], (bS 262, bM 703)) Q := by
  refine rr_iconst pf_174_463 ?_
  refine rr_ldc2_w pf_174_464 po_174 pl_9_160 ?_
  refine rr_last pf_174_467 (bz_s (x := (12, 5)) (by decide +kernel)) (by decide) (by decide) (by unfold rg; omega) (by unfold rl; omega) (fun M2 e => ?_)
  rw [e.trans (bz_u (by decide +kernel) (rfl : 703 + 1 = 704))]
  refine rr_putR pf_174_468 po_174 pg_9_162 (Or.inr ⟨by decide +kernel, rfl⟩) rfl (bz_s (x := (9, 62)) (by decide +kernel)) (by decide) (fun M2 e => ?_)
  rw [e.trans (bz_u (by decide +kernel) (rfl : 704 + 1 = 705))]
  refine rr_aload_n pf_174_471 rfl ?_
  refine rr_bipush pf_174_472 (by decide) ?_
  refine rr_newa 10 pf_174_474 (by simp) (by decide) (fun M2 e => ?_)
  rw [bz_l (by decide : 262 ≤ 264)] at e ⊢
  rw [e.trans (bz_c (by decide +kernel) (rfl : 705 + 1 = 706))]
  rw [bz_n (by decide +kernel) (rfl : 262 + 1 = 263)]
  refine rr_putR pf_174_476 po_174 pg_9_165 (Or.inr ⟨by decide +kernel, rfl⟩) rfl (bz_s (x := (9, 62)) (by decide +kernel)) (by decide) (fun M2 e => ?_)
  rw [e.trans (bz_u (by decide +kernel) (rfl : 706 + 1 = 707))]
  refine rr_aload_n pf_174_479 rfl ?_
  refine rr_iconst pf_174_480 ?_
  refine rr_putI pf_174_481 po_174 pg_9_168 (Or.inr ⟨by decide +kernel, rfl⟩) rfl (bz_s (x := (9, 62)) (by decide +kernel)) (by decide) (by unfold rg; omega) (fun M2 e => ?_)
  rw [e.trans (bz_u (by decide +kernel) (rfl : 707 + 1 = 708))]
  refine rr_aload_n pf_174_484 rfl ?_
  refine rr_bipush pf_174_485 (by decide) ?_
  refine rr_newa 10 pf_174_487 (by simp) (by decide) (fun M2 e => ?_)
  rw [bz_l (by decide : 263 ≤ 264)] at e ⊢
  rw [e.trans (bz_c (by decide +kernel) (rfl : 708 + 1 = 709))]
  rw [bz_n (by decide +kernel) (rfl : 263 + 1 = 264)]
  refine rr_putR pf_174_489 po_174 pg_9_171 (Or.inr ⟨by decide +kernel, rfl⟩) rfl (bz_s (x := (9, 62)) (by decide +kernel)) (by decide) (fun M2 e => ?_)
  rw [e.trans (bz_u (by decide +kernel) (rfl : 709 + 1 = 710))]
  refine rr_aload_n pf_174_492 rfl ?_
  refine rr_iconst pf_174_493 ?_
  refine rr_putI pf_174_494 po_174 pg_9_174 (Or.inr ⟨by decide +kernel, rfl⟩) rfl (bz_s (x := (9, 62)) (by decide +kernel)) (by decide) (by unfold rg; omega) (fun M2 e => ?_)
  rw [e.trans (bz_u (by decide +kernel) (rfl : 710 + 1 = 711))]
  refine rr_aload_n pf_174_497 rfl ?_
  refine rr_getR (q := 230) pf_174_498 po_174 pg_9_13 rfl (bz_s (x := (9, 62)) (by decide +kernel)) (by decide) (by decide +kernel) ?_
  refine rr_iconst pf_174_501 ?_
  refine rr_iconst pf_174_502 ?_
  refine rr_iast pf_174_503 (bz_s (x := (10, 5510)) (by decide +kernel)) (by decide) (by decide) (by unfold rg; omega) (by unfold rg; omega) (fun M2 e => ?_)
  rw [e.trans (bz_u (by decide +kernel) (rfl : 711 + 1 = 712))]
  refine rr_aload_n pf_174_504 rfl ?_
  refine rr_getR (q := 230) pf_174_505 po_174 pg_9_13 rfl (bz_s (x := (9, 62)) (by decide +kernel)) (by decide) (by decide +kernel) ?_
  refine rr_bipush pf_174_508 (by decide) ?_
  refine rr_iconst pf_174_510 ?_
  refine rr_iast pf_174_511 (bz_s (x := (10, 5510)) (by decide +kernel)) (by decide) (by decide) (by unfold rg; omega) (by unfold rg; omega) (fun M2 e => ?_)
  rw [e.trans (bz_u (by decide +kernel) (rfl : 712 + 1 = 713))]
  exact rr_vret pf_174_512 pt_174 G
theorem bC_174_229_608 {xs : Nat → Int} {L d : Nat} (hd : 1 ≤ d) : px_Cl xs L d 174 [.ref 228] (bS 229, bM 608) none (bS 264, bM 713) := by
  obtain ⟨d, rfl⟩ : ∃ e, d = e + 1 := ⟨d - 1, by omega⟩
  refine px_Cl_intro (Nat.le_of_ble_eq_true rfl) ?_
  show px_R xs L d 174 (0, [.ref 228], [], (bS 229, bM 608)) _
  refine bk_174_229_608_0 (by omega) ?_
  refine bk_174_229_608_1 (by omega) ?_
  refine bk_174_229_608_2 (by omega) ?_
  refine bk_174_229_608_3 (by omega) ?_
  refine bk_174_229_608_4 (by omega) ?_
  refine bk_174_229_608_5 (by omega) ?_
  refine bk_174_229_608_6 (by omega) ?_
  refine bk_174_229_608_7 (by omega) ?_
  refine bk_174_229_608_8 (by omega) ?_
  exact bk_174_229_608_e (by omega) ⟨rfl, rfl⟩
theorem bk_0_0_0_0 {xs : Nat → Int} {L d : Nat} {Q : Option Value → px_H → Prop} (hd : 4 ≤ d) (G : px_R xs L d 0 (18, [.retAddr 0, .ref 0, .ref 228, .int (iI (0))], [], (bS 264, bM 713)) Q) : px_R xs L d 0 (0, [.retAddr 0, px_jk, px_jk, px_jk], [], (bS 0, bM 0)) Q := by
  refine rr_new pf_0_0 po_0 pn_25_7 (by decide) rfl (fun M2 e => ?_)
  rw [bz_l (by decide : 0 ≤ 264)] at e ⊢
  rw [e.trans (bz_o (by decide +kernel) (rfl : 0 + 1 = 1))]
  rw [bz_n (by decide +kernel) (rfl : 0 + 1 = 1)]
  refine rr_dup pf_0_3 rfl ?_
  refine rr_cI0 pf_0_4 po_0 pc_25_9 (by decide) rfl (bC_1_1_1 (Nat.le_trans (by decide) hd)) ?_
  refine rr_astore_n pf_0_7 [.retAddr 0, .ref 0, px_jk, px_jk] (by decide) rfl ?_
  refine rr_new pf_0_8 po_0 pn_25_10 (by decide) rfl (fun M2 e => ?_)
  rw [bz_l (by decide : 228 ≤ 264)] at e ⊢
  rw [e.trans (bz_o (by decide +kernel) (rfl : 607 + 1 = 608))]
  rw [bz_n (by decide +kernel) (rfl : 228 + 1 = 229)]
  refine rr_dup pf_0_11 rfl ?_
  refine rr_cI0 pf_0_12 po_0 pc_25_12 (by decide) rfl (bC_174_229_608 (Nat.le_trans (by decide) hd)) ?_
  refine rr_astore_n pf_0_15 [.retAddr 0, .ref 0, .ref 228, px_jk] (by decide) rfl ?_
  refine rr_iconst pf_0_16 ?_
  refine rr_istore_n pf_0_17 (fun y => [.retAddr 0, .ref 0, .ref 228, .int (iI y)]) (by decide) (fun _ => rfl) (fun y ey => ?_)
  subst ey
  exact G
theorem b_start {xs : Nat → Int} {L d : Nat} {Q : Option Value → px_H → Prop} (hd : 4 ≤ d) (G : px_R xs L d 0 (18, [.retAddr 0, .ref 0, .ref 228, .int (iI (0))], [], (bS 264, bM 713)) Q) : px_R xs L d 0 (0, [.retAddr 0, px_jk, px_jk, px_jk], [], ([], fun _ _ => 0)) Q := by
  show px_R xs L d 0 (0, [.retAddr 0, px_jk, px_jk, px_jk], [], (bS 0, bM 0)) Q
  refine bk_0_0_0_0 hd ?_
  exact G
