/-! the reference's reader: a part -/
theorem rLeaf_nc {E : rdE} {u x y : Int} {s : rdS} (h : (rLeaf E u x y s).flt = 0) : 1 ≤ (rLeaf E u x y s).nc := by
  unfold rLeaf at h ⊢
  by_cases z : u = 1 ∧ s.lv < 50
  · rw [if_pos z]; show 1 ≤ s.nc + 1; omega
  · rw [if_neg z] at h
    exact absurd h (by show ¬ ((1 : Int) = 0); decide)
theorem rLf_nc {E : rdE} {s : rdS} (h : (rLf E s).flt = 0) : 1 ≤ (rLf E s).nc := rLeaf_nc h
theorem rNb_nc (E : rdE) (lo hi_ : Int) (s : rdS) : (rNb E lo hi_ s).nc = s.nc := by unfold rNb; split <;> rfl
theorem rNb_i {E : rdE} {lo hi_ : Int} {s : rdS} (h : s.i ≤ E.tn) : s.i ≤ (rNb E lo hi_ s).i := by
  unfold rNb
  have a := tkS_b (tb := E.tb) h
  have a2 := tkE_b (tb := E.tb) h
  split
  · show s.i ≤ tkE E.tn E.tb s.i; omega
  · exact Nat.le_refl _
theorem ct_R_readPart {xs : Nat → Int} {L d : Nat} {sh : List (Nat × Nat)} {M0 : Nat → Nat → Int} (hd : 5 ≤ d) (hW : px_W0 <+: sh) (hF : px_Fx M0) (hG : px_RG sh M0)  {E : rdE} {s : rdS} (hs : RS M0 E s.i s) (hf : s.flt = 0)  : ∃ v M, (px_qk sh [228, 239, 240, 241, 242] M0 M ∧ (v = rPartV E s) ∧ (RS M E (rPart E s).i (rPart E s)) ∧ (fz [14, 15, 16, 17, 18, 19, 23, 26, 29, 30] M0 M)) ∧ px_Cl xs L d 233 [.ref 228] (sh, M0) (some (.int (iI v))) (sh, M) := by
  obtain ⟨d, rfl⟩ : ∃ e, d = e + 1 := ⟨d - 1, by omega⟩
  have q0 : px_qk sh [228, 239, 240, 241, 242] M0 M0 := ⟨hF, hG, eo_rf⟩
  have hop := hs.hop
  have hi := hs.hi
  have htn := hs.htn
  have hE2 := (tkE_b (tb := E.tb) hs.hi).2
  have hlv := hs.hlv
  have hnb := hs.hnb
  have hod := hs.hod
  have hb1 := pAt_b E.f (rK E s) (rW E s) 12
  have hb2 := pAt_b E.g (rK E s) (rW E s) 9
  refine vc_i (Nat.le_of_ble_eq_true rfl) ?_
  show px_R xs L d 233 (0, [.ref 228, px_jk, px_jk, px_jk], [], (sh, M0)) (fun r h' => ∃ v M', r = some (.int (iI v)) ∧ h' = (sh, M') ∧ px_qk sh [228, 239, 240, 241, 242] M0 M' ∧ v = rPartV E s ∧ RS M' E (rPart E s).i (rPart E s) ∧ fz [14, 15, 16, 17, 18, 19, 23, 26, 29, 30] M0 M')
  refine rr_aload_n pf_233_0 rfl ?_
  refine rr_bipush pf_233_1 (by decide) ?_
  obtain ⟨M1, kq2, hcM1⟩ := ct_RS_isSign (xs := xs) (L := L) (d := d) (u := 91) (E := E) (s := s) (b := s.i) (by omega) hW q0.1 q0.2.1 hs (by unfold rg; omega)
  obtain rfl := qk_nil kq2
  refine rr_cV1 pf_233_3 po_233 pc_9_347 (ws_228 hW) po_231 (by decide) rfl hcM1 ?_
  refine rr_ifb_eq 17 pf_233_6 (by decide) (fun c4 => ?_) (fun c4 => ?_)
  · refine rr_aload_n pf_233_17 rfl ?_
    refine vr_getZ q0 pf_233_18 po_233 pg_9_353 rfl (ws_228 hW) (by decide) (fun x5 hx5 rx5 => ?_)
    rw [hs.h20] at hx5
    change x5 = E.od at hx5
    refine rr_if_eq 31 pf_233_21 (by decide) rx5 (fun c6 => ?_) (fun c6 => ?_)
    · refine rr_aload_n pf_233_31 rfl ?_
      obtain ⟨r9, M7, ⟨kq8, pv_M7⟩, hcM7⟩ := ct_RS_partAt (xs := xs) (L := L) (d := d) (E := E) (s := s) (b := s.i) (by omega) hW q0.1 q0.2.1 hs
      obtain rfl := qk_nil kq8
      refine rr_cV0 pf_233_32 po_233 pc_9_360 (ws_228 hW) po_235 (by decide) rfl hcM7 ?_
      refine rr_istore_n pf_233_35 (fun y => [.ref 228, .int (iI (y)), px_jk, px_jk]) (Nat.le_of_ble_eq_true rfl) (fun _ => rfl) (fun y10 hy10 => ?_)
      have hA : rAt E s = y10 := by unfold rAt; rw [if_neg (by omega)]; omega
      refine rr_aload_n pf_233_36 rfl ?_
      refine vr_getI q0 pf_233_37 po_233 pg_9_296 rfl (ws_228 hW) (by decide) (fun x11 hx11 rx11 => ?_)
      rw [hs.hlx.2.2.1] at hx11
      change x11 = ((rK E s : Nat) : Int) at hx11
      refine rr_iconst pf_233_40 ?_
      refine rr_icmp_ne 59 pf_233_41 (by decide) rx11 (by unfold rg; omega) (fun c12 => ?_) (fun c12 => ?_)
      · refine rr_iconst pf_233_59 ?_
        refine rr_istore_n pf_233_60 (fun y => [.ref 228, .int (iI (y10)), .int (iI (y)), px_jk]) (Nat.le_of_ble_eq_true rfl) (fun _ => rfl) (fun y13 hy13 => ?_)
        refine rr_aload_n pf_233_61 rfl ?_
        refine rr_iload_n pf_233_62 rfl ?_
        refine rr_iconst pf_233_63 ?_
        refine rr_icmp_ne 71 pf_233_64 (by decide) (by unfold rg; omega) (by unfold rg; omega) (fun c14 => ?_) (fun c14 => ?_)
        · have hne : pAt E.f (rK E s) (rW E s) 12 ≠ -1 := by omega
          have hk1 : rK E s = 1 := pAt_k _ hne
          refine rr_iconst pf_233_71 ?_
          refine rr_goto 76 pf_233_72 (by decide) ?_
          refine rr_iload_n pf_233_76 rfl ?_
          refine rr_iconst pf_233_77 ?_
          refine rr_icmp_ne 85 pf_233_78 (by decide) (by unfold rg; omega) (by unfold rg; omega) (fun c15 => ?_) (fun c15 => ?_)
          · refine rr_iload_n pf_233_85 rfl ?_
            refine rr_iload_n pf_233_86 rfl ?_
            refine rr_if_eq 98 pf_233_87 (by decide) (by unfold rg; omega) (fun c16 => ?_) (fun c16 => ?_)
            · refine rr_iconst pf_233_98 ?_
              obtain ⟨M17, ⟨kq18, pS_M17, pf_M17⟩, hcM17⟩ := ct_R_leaf (xs := xs) (L := L) (d := d) (u := 1) (x_ := y10) (y_ := 0) (E := E) (s := s) (by omega) hW q0.1 q0.2.1 hs hf (by omega) (fun _ => by omega) (by unfold rg; omega) (by unfold rg; omega)
              have q18 := qk_trm q0 kq18 (by decide)
              have rq20 := fz_tr (fz_rf [14, 15, 16, 17, 18, 19, 23, 26, 29, 30] M0) pf_M17 (by decide)
              refine rr_cV3 pf_233_99 po_233 pc_9_365 (ws_228 hW) po_236 (by decide) rfl hcM17 ?_
              have hlf : rLeaf E 1 y10 0 s = rLf E s := by
                unfold rLf; rw [hA, if_pos (show y10 ≠ -1 ∨ (rK E s = 2 ∧ rW E s ≤ 1000) by omega), if_neg (show ¬ (y10 = -1) by omega), if_neg (show ¬ (rK E s = 2 ∧ rW E s ≤ 1000) by omega)]
              rw [hlf] at pS_M17
              have hnb1 := pS_M17.hnb
              have hi1 := pS_M17.hi
              refine rr_aload_n pf_233_102 rfl ?_
              refine vr_getZ q18 pf_233_103 po_233 pg_9_353 rfl (ws_228 hW) (by decide) (fun x21 hx21 rx21 => ?_)
              rw [rq20 20 (by decide)] at hx21
              rw [hs.h20] at hx21
              refine rr_if_eq 155 pf_233_106 (by decide) rx21 (fun c22 => ?_) (fun c22 => ?_)
              · refine rr_iconst pf_233_155 ?_
                refine rr_iret pf_233_156 pt_233 ⟨_, M17, rfl, rfl, q18, (by unfold rPartV; rw [if_neg (by omega)]), (by unfold rPart; rw [if_neg (by omega), if_neg (by omega)]; exact pS_M17), (rq20)⟩
              · exfalso; omega
            · exfalso; omega
          · exfalso; omega
        · refine rr_iload_n pf_233_67 rfl ?_
          refine rr_if_eq 75 pf_233_68 (by decide) (by unfold rg; omega) (fun c23 => ?_) (fun c23 => ?_)
          · refine rr_iconst pf_233_75 ?_
            refine rr_iload_n pf_233_76 rfl ?_
            refine rr_iconst pf_233_77 ?_
            refine rr_icmp_ne 85 pf_233_78 (by decide) (by unfold rg; omega) (by unfold rg; omega) (fun c24 => ?_) (fun c24 => ?_)
            · exfalso; omega
            · refine rr_iconst pf_233_81 ?_
              refine rr_goto 86 pf_233_82 (by decide) ?_
              refine rr_iload_n pf_233_86 rfl ?_
              refine rr_if_eq 98 pf_233_87 (by decide) (by unfold rg; omega) (fun c25 => ?_) (fun c25 => ?_)
              · refine rr_iconst pf_233_98 ?_
                obtain ⟨M26, ⟨kq27, pS_M26, pf_M26⟩, hcM26⟩ := ct_R_leaf (xs := xs) (L := L) (d := d) (u := 0) (x_ := 0) (y_ := 0) (E := E) (s := s) (by omega) hW q0.1 q0.2.1 hs hf (by omega) (fun _ => by omega) (by unfold rg; omega) (by unfold rg; omega)
                have q27 := qk_trm q0 kq27 (by decide)
                have rq29 := fz_tr (fz_rf [14, 15, 16, 17, 18, 19, 23, 26, 29, 30] M0) pf_M26 (by decide)
                refine rr_cV3 pf_233_99 po_233 pc_9_365 (ws_228 hW) po_236 (by decide) rfl hcM26 ?_
                have hlf : rLeaf E 0 0 0 s = rLf E s := by
                  unfold rLf; rw [hA, if_neg (show ¬ (y10 ≠ -1 ∨ (rK E s = 2 ∧ rW E s ≤ 1000)) by omega), if_pos (show y10 = -1 by omega), if_neg (show ¬ (rK E s = 2 ∧ rW E s ≤ 1000) by omega)]
                rw [hlf] at pS_M26
                have hnb1 := pS_M26.hnb
                have hi1 := pS_M26.hi
                refine rr_aload_n pf_233_102 rfl ?_
                refine vr_getZ q27 pf_233_103 po_233 pg_9_353 rfl (ws_228 hW) (by decide) (fun x30 hx30 rx30 => ?_)
                rw [rq29 20 (by decide)] at hx30
                rw [hs.h20] at hx30
                refine rr_if_eq 155 pf_233_106 (by decide) rx30 (fun c31 => ?_) (fun c31 => ?_)
                · refine rr_iconst pf_233_155 ?_
                  refine rr_iret pf_233_156 pt_233 ⟨_, M26, rfl, rfl, q27, (by unfold rPartV; rw [if_neg (by omega)]), (by unfold rPart; rw [if_neg (by omega), if_neg (by omega)]; exact pS_M26), (rq29)⟩
                · exfalso; omega
              · exfalso; omega
          · exfalso; omega
      · refine rr_aload_n pf_233_44 rfl ?_
        refine vr_getL q0 pf_233_45 po_233 pg_9_286 rfl (ws_228 hW) (by decide) (fun x32 hx32 rx32 => ?_)
        rw [hs.hlx.2.2.2] at hx32
        change x32 = rW E s at hx32
        refine rr_ldc2_w pf_233_48 po_233 pl_9_363 ?_
        refine rr_lcmp pf_233_51 rx32 (by unfold rl; omega) ?_
        refine rr_ifc_gt 59 pf_233_52 (by decide) (fun c33 => ?_) (fun c33 => ?_)
        · refine rr_iconst pf_233_59 ?_
          refine rr_istore_n pf_233_60 (fun y => [.ref 228, .int (iI (y10)), .int (iI (y)), px_jk]) (Nat.le_of_ble_eq_true rfl) (fun _ => rfl) (fun y34 hy34 => ?_)
          refine rr_aload_n pf_233_61 rfl ?_
          refine rr_iload_n pf_233_62 rfl ?_
          refine rr_iconst pf_233_63 ?_
          refine rr_icmp_ne 71 pf_233_64 (by decide) (by unfold rg; omega) (by unfold rg; omega) (fun c35 => ?_) (fun c35 => ?_)
          · have hne : pAt E.f (rK E s) (rW E s) 12 ≠ -1 := by omega
            have hk1 : rK E s = 1 := pAt_k _ hne
            refine rr_iconst pf_233_71 ?_
            refine rr_goto 76 pf_233_72 (by decide) ?_
            refine rr_iload_n pf_233_76 rfl ?_
            refine rr_iconst pf_233_77 ?_
            refine rr_icmp_ne 85 pf_233_78 (by decide) (by unfold rg; omega) (by unfold rg; omega) (fun c36 => ?_) (fun c36 => ?_)
            · refine rr_iload_n pf_233_85 rfl ?_
              refine rr_iload_n pf_233_86 rfl ?_
              refine rr_if_eq 98 pf_233_87 (by decide) (by unfold rg; omega) (fun c37 => ?_) (fun c37 => ?_)
              · refine rr_iconst pf_233_98 ?_
                obtain ⟨M38, ⟨kq39, pS_M38, pf_M38⟩, hcM38⟩ := ct_R_leaf (xs := xs) (L := L) (d := d) (u := 1) (x_ := y10) (y_ := 0) (E := E) (s := s) (by omega) hW q0.1 q0.2.1 hs hf (by omega) (fun _ => by omega) (by unfold rg; omega) (by unfold rg; omega)
                have q39 := qk_trm q0 kq39 (by decide)
                have rq41 := fz_tr (fz_rf [14, 15, 16, 17, 18, 19, 23, 26, 29, 30] M0) pf_M38 (by decide)
                refine rr_cV3 pf_233_99 po_233 pc_9_365 (ws_228 hW) po_236 (by decide) rfl hcM38 ?_
                have hlf : rLeaf E 1 y10 0 s = rLf E s := by
                  unfold rLf; rw [hA, if_pos (show y10 ≠ -1 ∨ (rK E s = 2 ∧ rW E s ≤ 1000) by omega), if_neg (show ¬ (y10 = -1) by omega), if_neg (show ¬ (rK E s = 2 ∧ rW E s ≤ 1000) by omega)]
                rw [hlf] at pS_M38
                have hnb1 := pS_M38.hnb
                have hi1 := pS_M38.hi
                refine rr_aload_n pf_233_102 rfl ?_
                refine vr_getZ q39 pf_233_103 po_233 pg_9_353 rfl (ws_228 hW) (by decide) (fun x42 hx42 rx42 => ?_)
                rw [rq41 20 (by decide)] at hx42
                rw [hs.h20] at hx42
                refine rr_if_eq 155 pf_233_106 (by decide) rx42 (fun c43 => ?_) (fun c43 => ?_)
                · refine rr_iconst pf_233_155 ?_
                  refine rr_iret pf_233_156 pt_233 ⟨_, M38, rfl, rfl, q39, (by unfold rPartV; rw [if_neg (by omega)]), (by unfold rPart; rw [if_neg (by omega), if_neg (by omega)]; exact pS_M38), (rq41)⟩
                · exfalso; omega
              · exfalso; omega
            · exfalso; omega
          · refine rr_iload_n pf_233_67 rfl ?_
            refine rr_if_eq 75 pf_233_68 (by decide) (by unfold rg; omega) (fun c44 => ?_) (fun c44 => ?_)
            · refine rr_iconst pf_233_75 ?_
              refine rr_iload_n pf_233_76 rfl ?_
              refine rr_iconst pf_233_77 ?_
              refine rr_icmp_ne 85 pf_233_78 (by decide) (by unfold rg; omega) (by unfold rg; omega) (fun c45 => ?_) (fun c45 => ?_)
              · exfalso; omega
              · refine rr_iconst pf_233_81 ?_
                refine rr_goto 86 pf_233_82 (by decide) ?_
                refine rr_iload_n pf_233_86 rfl ?_
                refine rr_if_eq 98 pf_233_87 (by decide) (by unfold rg; omega) (fun c46 => ?_) (fun c46 => ?_)
                · refine rr_iconst pf_233_98 ?_
                  obtain ⟨M47, ⟨kq48, pS_M47, pf_M47⟩, hcM47⟩ := ct_R_leaf (xs := xs) (L := L) (d := d) (u := 0) (x_ := 0) (y_ := 0) (E := E) (s := s) (by omega) hW q0.1 q0.2.1 hs hf (by omega) (fun _ => by omega) (by unfold rg; omega) (by unfold rg; omega)
                  have q48 := qk_trm q0 kq48 (by decide)
                  have rq50 := fz_tr (fz_rf [14, 15, 16, 17, 18, 19, 23, 26, 29, 30] M0) pf_M47 (by decide)
                  refine rr_cV3 pf_233_99 po_233 pc_9_365 (ws_228 hW) po_236 (by decide) rfl hcM47 ?_
                  have hlf : rLeaf E 0 0 0 s = rLf E s := by
                    unfold rLf; rw [hA, if_neg (show ¬ (y10 ≠ -1 ∨ (rK E s = 2 ∧ rW E s ≤ 1000)) by omega), if_pos (show y10 = -1 by omega), if_neg (show ¬ (rK E s = 2 ∧ rW E s ≤ 1000) by omega)]
                  rw [hlf] at pS_M47
                  have hnb1 := pS_M47.hnb
                  have hi1 := pS_M47.hi
                  refine rr_aload_n pf_233_102 rfl ?_
                  refine vr_getZ q48 pf_233_103 po_233 pg_9_353 rfl (ws_228 hW) (by decide) (fun x51 hx51 rx51 => ?_)
                  rw [rq50 20 (by decide)] at hx51
                  rw [hs.h20] at hx51
                  refine rr_if_eq 155 pf_233_106 (by decide) rx51 (fun c52 => ?_) (fun c52 => ?_)
                  · refine rr_iconst pf_233_155 ?_
                    refine rr_iret pf_233_156 pt_233 ⟨_, M47, rfl, rfl, q48, (by unfold rPartV; rw [if_neg (by omega)]), (by unfold rPart; rw [if_neg (by omega), if_neg (by omega)]; exact pS_M47), (rq50)⟩
                  · exfalso; omega
                · exfalso; omega
            · exfalso; omega
        · have hw2 : 0 ≤ rW E s ∧ rW E s ≤ 10000009 := tkW_2 (show tkK E.tn E.tb s.i = 2 from (by omega : rK E s = 2))
          refine rr_iconst pf_233_55 ?_
          refine rr_goto 60 pf_233_56 (by decide) ?_
          refine rr_istore_n pf_233_60 (fun y => [.ref 228, .int (iI (y10)), .int (iI (y)), px_jk]) (Nat.le_of_ble_eq_true rfl) (fun _ => rfl) (fun y53 hy53 => ?_)
          refine rr_aload_n pf_233_61 rfl ?_
          refine rr_iload_n pf_233_62 rfl ?_
          refine rr_iconst pf_233_63 ?_
          refine rr_icmp_ne 71 pf_233_64 (by decide) (by unfold rg; omega) (by unfold rg; omega) (fun c54 => ?_) (fun c54 => ?_)
          · have hne : pAt E.f (rK E s) (rW E s) 12 ≠ -1 := by omega
            have hk1 : rK E s = 1 := pAt_k _ hne
            refine rr_iconst pf_233_71 ?_
            refine rr_goto 76 pf_233_72 (by decide) ?_
            refine rr_iload_n pf_233_76 rfl ?_
            refine rr_iconst pf_233_77 ?_
            refine rr_icmp_ne 85 pf_233_78 (by decide) (by unfold rg; omega) (by unfold rg; omega) (fun c55 => ?_) (fun c55 => ?_)
            · refine rr_iload_n pf_233_85 rfl ?_
              refine rr_iload_n pf_233_86 rfl ?_
              refine rr_if_eq 98 pf_233_87 (by decide) (by unfold rg; omega) (fun c56 => ?_) (fun c56 => ?_)
              · exfalso; omega
              · refine rr_aload_n pf_233_90 rfl ?_
                refine vr_getL q0 pf_233_91 po_233 pg_9_286 rfl (ws_228 hW) (by decide) (fun x57 hx57 rx57 => ?_)
                rw [hs.hlx.2.2.2] at hx57
                change x57 = rW E s at hx57
                refine rr_l2i pf_233_94 rx57 ?_
                refine rr_goto 99 pf_233_95 (by decide) ?_
                obtain ⟨M58, ⟨kq59, pS_M58, pf_M58⟩, hcM58⟩ := ct_R_leaf (xs := xs) (L := L) (d := d) (u := 1) (x_ := y10) (y_ := x57) (E := E) (s := s) (by omega) hW q0.1 q0.2.1 hs hf (by omega) (fun _ => by omega) (by unfold rg; omega) (by unfold rg; omega)
                have q59 := qk_trm q0 kq59 (by decide)
                have rq61 := fz_tr (fz_rf [14, 15, 16, 17, 18, 19, 23, 26, 29, 30] M0) pf_M58 (by decide)
                refine rr_cV3 pf_233_99 po_233 pc_9_365 (ws_228 hW) po_236 (by decide) rfl hcM58 ?_
                have hlf : rLeaf E 1 y10 x57 s = rLf E s := by
                  unfold rLf; rw [hA, if_pos (show y10 ≠ -1 ∨ (rK E s = 2 ∧ rW E s ≤ 1000) by omega), if_neg (show ¬ (y10 = -1) by omega), if_pos (show rK E s = 2 ∧ rW E s ≤ 1000 by omega), hx57]
                rw [hlf] at pS_M58
                have hnb1 := pS_M58.hnb
                have hi1 := pS_M58.hi
                refine rr_aload_n pf_233_102 rfl ?_
                refine vr_getZ q59 pf_233_103 po_233 pg_9_353 rfl (ws_228 hW) (by decide) (fun x62 hx62 rx62 => ?_)
                rw [rq61 20 (by decide)] at hx62
                rw [hs.h20] at hx62
                refine rr_if_eq 155 pf_233_106 (by decide) rx62 (fun c63 => ?_) (fun c63 => ?_)
                · refine rr_iconst pf_233_155 ?_
                  refine rr_iret pf_233_156 pt_233 ⟨_, M58, rfl, rfl, q59, (by unfold rPartV; rw [if_neg (by omega)]), (by unfold rPart; rw [if_neg (by omega), if_neg (by omega)]; exact pS_M58), (rq61)⟩
                · exfalso; omega
            · exfalso; omega
          · refine rr_iload_n pf_233_67 rfl ?_
            refine rr_if_eq 75 pf_233_68 (by decide) (by unfold rg; omega) (fun c64 => ?_) (fun c64 => ?_)
            · exfalso; omega
            · refine rr_iconst pf_233_71 ?_
              refine rr_goto 76 pf_233_72 (by decide) ?_
              refine rr_iload_n pf_233_76 rfl ?_
              refine rr_iconst pf_233_77 ?_
              refine rr_icmp_ne 85 pf_233_78 (by decide) (by unfold rg; omega) (by unfold rg; omega) (fun c65 => ?_) (fun c65 => ?_)
              · exfalso; omega
              · refine rr_iconst pf_233_81 ?_
                refine rr_goto 86 pf_233_82 (by decide) ?_
                refine rr_iload_n pf_233_86 rfl ?_
                refine rr_if_eq 98 pf_233_87 (by decide) (by unfold rg; omega) (fun c66 => ?_) (fun c66 => ?_)
                · exfalso; omega
                · refine rr_aload_n pf_233_90 rfl ?_
                  refine vr_getL q0 pf_233_91 po_233 pg_9_286 rfl (ws_228 hW) (by decide) (fun x67 hx67 rx67 => ?_)
                  rw [hs.hlx.2.2.2] at hx67
                  change x67 = rW E s at hx67
                  refine rr_l2i pf_233_94 rx67 ?_
                  refine rr_goto 99 pf_233_95 (by decide) ?_
                  obtain ⟨M68, ⟨kq69, pS_M68, pf_M68⟩, hcM68⟩ := ct_R_leaf (xs := xs) (L := L) (d := d) (u := 1) (x_ := 0) (y_ := x67) (E := E) (s := s) (by omega) hW q0.1 q0.2.1 hs hf (by omega) (fun _ => by omega) (by unfold rg; omega) (by unfold rg; omega)
                  have q69 := qk_trm q0 kq69 (by decide)
                  have rq71 := fz_tr (fz_rf [14, 15, 16, 17, 18, 19, 23, 26, 29, 30] M0) pf_M68 (by decide)
                  refine rr_cV3 pf_233_99 po_233 pc_9_365 (ws_228 hW) po_236 (by decide) rfl hcM68 ?_
                  have hlf : rLeaf E 1 0 x67 s = rLf E s := by
                    unfold rLf; rw [hA, if_pos (show y10 ≠ -1 ∨ (rK E s = 2 ∧ rW E s ≤ 1000) by omega), if_pos (show y10 = -1 by omega), if_pos (show rK E s = 2 ∧ rW E s ≤ 1000 by omega), hx67]
                  rw [hlf] at pS_M68
                  have hnb1 := pS_M68.hnb
                  have hi1 := pS_M68.hi
                  refine rr_aload_n pf_233_102 rfl ?_
                  refine vr_getZ q69 pf_233_103 po_233 pg_9_353 rfl (ws_228 hW) (by decide) (fun x72 hx72 rx72 => ?_)
                  rw [rq71 20 (by decide)] at hx72
                  rw [hs.h20] at hx72
                  refine rr_if_eq 155 pf_233_106 (by decide) rx72 (fun c73 => ?_) (fun c73 => ?_)
                  · refine rr_iconst pf_233_155 ?_
                    refine rr_iret pf_233_156 pt_233 ⟨_, M68, rfl, rfl, q69, (by unfold rPartV; rw [if_neg (by omega)]), (by unfold rPart; rw [if_neg (by omega), if_neg (by omega)]; exact pS_M68), (rq71)⟩
                  · exfalso; omega
    · refine rr_aload_n pf_233_24 rfl ?_
      obtain ⟨r76, M74, ⟨kq75, pv_M74⟩, hcM74⟩ := ct_RS_orderPartAt (xs := xs) (L := L) (d := d) (E := E) (s := s) (b := s.i) (by omega) hW q0.1 q0.2.1 hs
      obtain rfl := qk_nil kq75
      refine rr_cV0 pf_233_25 po_233 pc_9_356 (ws_228 hW) po_234 (by decide) rfl hcM74 ?_
      refine rr_goto 35 pf_233_28 (by decide) ?_
      refine rr_istore_n pf_233_35 (fun y => [.ref 228, .int (iI (y)), px_jk, px_jk]) (Nat.le_of_ble_eq_true rfl) (fun _ => rfl) (fun y77 hy77 => ?_)
      have hA : rAt E s = y77 := by unfold rAt; rw [if_pos (by omega)]; omega
      refine rr_aload_n pf_233_36 rfl ?_
      refine vr_getI q0 pf_233_37 po_233 pg_9_296 rfl (ws_228 hW) (by decide) (fun x78 hx78 rx78 => ?_)
      rw [hs.hlx.2.2.1] at hx78
      change x78 = ((rK E s : Nat) : Int) at hx78
      refine rr_iconst pf_233_40 ?_
      refine rr_icmp_ne 59 pf_233_41 (by decide) rx78 (by unfold rg; omega) (fun c79 => ?_) (fun c79 => ?_)
      · refine rr_iconst pf_233_59 ?_
        refine rr_istore_n pf_233_60 (fun y => [.ref 228, .int (iI (y77)), .int (iI (y)), px_jk]) (Nat.le_of_ble_eq_true rfl) (fun _ => rfl) (fun y80 hy80 => ?_)
        refine rr_aload_n pf_233_61 rfl ?_
        refine rr_iload_n pf_233_62 rfl ?_
        refine rr_iconst pf_233_63 ?_
        refine rr_icmp_ne 71 pf_233_64 (by decide) (by unfold rg; omega) (by unfold rg; omega) (fun c81 => ?_) (fun c81 => ?_)
        · have hne : pAt E.g (rK E s) (rW E s) 9 ≠ -1 := by omega
          have hk1 : rK E s = 1 := pAt_k _ hne
          refine rr_iconst pf_233_71 ?_
          refine rr_goto 76 pf_233_72 (by decide) ?_
          refine rr_iload_n pf_233_76 rfl ?_
          refine rr_iconst pf_233_77 ?_
          refine rr_icmp_ne 85 pf_233_78 (by decide) (by unfold rg; omega) (by unfold rg; omega) (fun c82 => ?_) (fun c82 => ?_)
          · refine rr_iload_n pf_233_85 rfl ?_
            refine rr_iload_n pf_233_86 rfl ?_
            refine rr_if_eq 98 pf_233_87 (by decide) (by unfold rg; omega) (fun c83 => ?_) (fun c83 => ?_)
            · refine rr_iconst pf_233_98 ?_
              obtain ⟨M84, ⟨kq85, pS_M84, pf_M84⟩, hcM84⟩ := ct_R_leaf (xs := xs) (L := L) (d := d) (u := 1) (x_ := y77) (y_ := 0) (E := E) (s := s) (by omega) hW q0.1 q0.2.1 hs hf (by omega) (fun _ => by omega) (by unfold rg; omega) (by unfold rg; omega)
              have q85 := qk_trm q0 kq85 (by decide)
              have rq87 := fz_tr (fz_rf [14, 15, 16, 17, 18, 19, 23, 26, 29, 30] M0) pf_M84 (by decide)
              refine rr_cV3 pf_233_99 po_233 pc_9_365 (ws_228 hW) po_236 (by decide) rfl hcM84 ?_
              have hlf : rLeaf E 1 y77 0 s = rLf E s := by
                unfold rLf; rw [hA, if_pos (show y77 ≠ -1 ∨ (rK E s = 2 ∧ rW E s ≤ 1000) by omega), if_neg (show ¬ (y77 = -1) by omega), if_neg (show ¬ (rK E s = 2 ∧ rW E s ≤ 1000) by omega)]
              rw [hlf] at pS_M84
              have hnb1 := pS_M84.hnb
              have hi1 := pS_M84.hi
              refine rr_aload_n pf_233_102 rfl ?_
              refine vr_getZ q85 pf_233_103 po_233 pg_9_353 rfl (ws_228 hW) (by decide) (fun x88 hx88 rx88 => ?_)
              rw [rq87 20 (by decide)] at hx88
              rw [hs.h20] at hx88
              refine rr_if_eq 155 pf_233_106 (by decide) rx88 (fun c89 => ?_) (fun c89 => ?_)
              · exfalso; omega
              · refine rr_iload_n pf_233_109 rfl ?_
                refine rr_bipush pf_233_110 (by decide) ?_
                refine rr_icmp_lt 155 pf_233_112 (by decide) (by unfold rg; omega) (by unfold rg; omega) (fun c90 => ?_) (fun c90 => ?_)
                · refine rr_iconst pf_233_155 ?_
                  refine rr_iret pf_233_156 pt_233 ⟨_, M84, rfl, rfl, q85, (by unfold rPartV; rw [if_neg (by omega)]), (by unfold rPart; rw [if_neg (by omega), if_neg (by omega)]; exact pS_M84), (rq87)⟩
                · refine rr_aload_n pf_233_115 rfl ?_
                  refine vr_getZ q85 pf_233_116 po_233 pg_9_276 rfl (ws_228 hW) (by decide) (fun x91 hx91 rx91 => ?_)
                  rw [pS_M84.h19] at hx91
                  change x91 = (rLf E s).flt at hx91
                  refine rr_if_ne 155 pf_233_119 (by decide) rx91 (fun c92 => ?_) (fun c92 => ?_)
                  · refine rr_iconst pf_233_155 ?_
                    refine rr_iret pf_233_156 pt_233 ⟨_, M84, rfl, rfl, q85, (by unfold rPartV; rw [if_neg (by omega)]), (by unfold rPart; rw [if_neg (by omega), if_neg (by omega)]; exact pS_M84), (rq87)⟩
                  · have hfl0 : (rLf E s).flt = 0 := by omega
                    have hnc := rLf_nc hfl0
                    refine rr_aload_n pf_233_122 rfl ?_
                    refine vr_getI q85 pf_233_123 po_233 pg_9_313 rfl (ws_228 hW) (by decide) (fun x93 hx93 rx93 => ?_)
                    rw [pS_M84.h23] at hx93
                    change x93 = (((rLf E s).nc : Nat) : Int) at hx93
                    refine rr_iconst pf_233_126 ?_
                    refine rr_isub pf_233_127 ?_
                    refine rr_istore_n pf_233_128 (fun y => [.ref 228, .int (iI (y77)), .int (iI (y80)), .int (iI (y))]) (Nat.le_of_ble_eq_true rfl) (fun _ => rfl) (fun y94 hy94 => ?_)
                    refine rr_aload_n pf_233_129 rfl ?_
                    refine rr_getR pf_233_130 po_233 pg_9_48 rfl (ws_228 hW) (by decide) (wr_228_25 q85.1) ?_
                    refine rr_iload_n pf_233_133 rfl ?_
                    refine rr_aload_n pf_233_134 rfl ?_
                    refine rr_lconst (w := 0) pf_233_135 rfl ?_
                    refine rr_iload_n pf_233_136 rfl ?_
                    refine rr_bipush pf_233_137 (by decide) ?_
                    refine rr_icmp_ne 148 pf_233_139 (by decide) (by unfold rg; omega) (by unfold rg; omega) (fun c95 => ?_) (fun c95 => ?_)
                    · refine rr_ldc2_w pf_233_148 po_233 pl_9_204 ?_
                      obtain ⟨r98, M96, ⟨kq97, pv_M96, pS_M96, pf_M96⟩, hcM96⟩ := ct_RS_number (xs := xs) (L := L) (d := d) (lo := 0) (hi_ := (15)) (E := E) (s := (rLf E s)) (b := (rLf E s).i) (by omega) hW q85.1 q85.2.1 pS_M84 hfl0 (by unfold rl; omega) (by unfold rl; omega)
                      have q97 := qk_trm q85 kq97 (by decide)
                      have rq99 := fz_tr rq87 pf_M96 (by decide)
                      refine rr_cV2 pf_233_151 po_233 pc_9_371 (ws_228 hW) po_238 (by decide) rfl hcM96 ?_
                      
                      rw [← iI_wrp r98]
                      refine vr_iast (j := ((rLf E s).nc - 1)) hW q97 pf_233_154 (ws_240 hW) (by omega) (by omega) (by decide) (wrp_rg _) (by decide) (fun M100 eM100 q101 => ?_)
                      have rq102 := fz_ne rq99 eM100 (by decide)
                      have hsM100 := RS_ast pS_M96 eM100 (by rw [rNb_nc])
                      refine rr_iconst pf_233_155 ?_
                      refine rr_iret pf_233_156 pt_233 ⟨_, M100, rfl, rfl, q101, (by unfold rPartV; rw [if_neg (by omega)]), (by unfold rPart; rw [if_neg (by omega), if_pos ⟨by omega, by omega, hfl0⟩, if_neg (by omega), ← pv_M96]; exact RS_b hsM100 (Nat.le_trans hsM100.hnb (rNb_i hi1)) (Nat.le_trans hsM100.hi htn)), (rq102)⟩
                    · refine rr_ldc2_w pf_233_142 po_233 pl_9_369 ?_
                      refine rr_goto 151 pf_233_145 (by decide) ?_
                      obtain ⟨r105, M103, ⟨kq104, pv_M103, pS_M103, pf_M103⟩, hcM103⟩ := ct_RS_number (xs := xs) (L := L) (d := d) (lo := 0) (hi_ := (5)) (E := E) (s := (rLf E s)) (b := (rLf E s).i) (by omega) hW q85.1 q85.2.1 pS_M84 hfl0 (by unfold rl; omega) (by unfold rl; omega)
                      have q104 := qk_trm q85 kq104 (by decide)
                      have rq106 := fz_tr rq87 pf_M103 (by decide)
                      refine rr_cV2 pf_233_151 po_233 pc_9_371 (ws_228 hW) po_238 (by decide) rfl hcM103 ?_
                      
                      rw [← iI_wrp r105]
                      refine vr_iast (j := ((rLf E s).nc - 1)) hW q104 pf_233_154 (ws_240 hW) (by omega) (by omega) (by decide) (wrp_rg _) (by decide) (fun M107 eM107 q108 => ?_)
                      have rq109 := fz_ne rq106 eM107 (by decide)
                      have hsM107 := RS_ast pS_M103 eM107 (by rw [rNb_nc])
                      refine rr_iconst pf_233_155 ?_
                      refine rr_iret pf_233_156 pt_233 ⟨_, M107, rfl, rfl, q108, (by unfold rPartV; rw [if_neg (by omega)]), (by unfold rPart; rw [if_neg (by omega), if_pos ⟨by omega, by omega, hfl0⟩, if_pos (by omega), ← pv_M103]; exact RS_b hsM107 (Nat.le_trans hsM107.hnb (rNb_i hi1)) (Nat.le_trans hsM107.hi htn)), (rq109)⟩
            · exfalso; omega
          · exfalso; omega
        · refine rr_iload_n pf_233_67 rfl ?_
          refine rr_if_eq 75 pf_233_68 (by decide) (by unfold rg; omega) (fun c110 => ?_) (fun c110 => ?_)
          · refine rr_iconst pf_233_75 ?_
            refine rr_iload_n pf_233_76 rfl ?_
            refine rr_iconst pf_233_77 ?_
            refine rr_icmp_ne 85 pf_233_78 (by decide) (by unfold rg; omega) (by unfold rg; omega) (fun c111 => ?_) (fun c111 => ?_)
            · exfalso; omega
            · refine rr_iconst pf_233_81 ?_
              refine rr_goto 86 pf_233_82 (by decide) ?_
              refine rr_iload_n pf_233_86 rfl ?_
              refine rr_if_eq 98 pf_233_87 (by decide) (by unfold rg; omega) (fun c112 => ?_) (fun c112 => ?_)
              · refine rr_iconst pf_233_98 ?_
                obtain ⟨M113, ⟨kq114, pS_M113, pf_M113⟩, hcM113⟩ := ct_R_leaf (xs := xs) (L := L) (d := d) (u := 0) (x_ := 0) (y_ := 0) (E := E) (s := s) (by omega) hW q0.1 q0.2.1 hs hf (by omega) (fun _ => by omega) (by unfold rg; omega) (by unfold rg; omega)
                have q114 := qk_trm q0 kq114 (by decide)
                have rq116 := fz_tr (fz_rf [14, 15, 16, 17, 18, 19, 23, 26, 29, 30] M0) pf_M113 (by decide)
                refine rr_cV3 pf_233_99 po_233 pc_9_365 (ws_228 hW) po_236 (by decide) rfl hcM113 ?_
                have hlf : rLeaf E 0 0 0 s = rLf E s := by
                  unfold rLf; rw [hA, if_neg (show ¬ (y77 ≠ -1 ∨ (rK E s = 2 ∧ rW E s ≤ 1000)) by omega), if_pos (show y77 = -1 by omega), if_neg (show ¬ (rK E s = 2 ∧ rW E s ≤ 1000) by omega)]
                rw [hlf] at pS_M113
                have hnb1 := pS_M113.hnb
                have hi1 := pS_M113.hi
                refine rr_aload_n pf_233_102 rfl ?_
                refine vr_getZ q114 pf_233_103 po_233 pg_9_353 rfl (ws_228 hW) (by decide) (fun x117 hx117 rx117 => ?_)
                rw [rq116 20 (by decide)] at hx117
                rw [hs.h20] at hx117
                refine rr_if_eq 155 pf_233_106 (by decide) rx117 (fun c118 => ?_) (fun c118 => ?_)
                · exfalso; omega
                · refine rr_iload_n pf_233_109 rfl ?_
                  refine rr_bipush pf_233_110 (by decide) ?_
                  refine rr_icmp_lt 155 pf_233_112 (by decide) (by unfold rg; omega) (by unfold rg; omega) (fun c119 => ?_) (fun c119 => ?_)
                  · refine rr_iconst pf_233_155 ?_
                    refine rr_iret pf_233_156 pt_233 ⟨_, M113, rfl, rfl, q114, (by unfold rPartV; rw [if_neg (by omega)]), (by unfold rPart; rw [if_neg (by omega), if_neg (by omega)]; exact pS_M113), (rq116)⟩
                  · refine rr_aload_n pf_233_115 rfl ?_
                    refine vr_getZ q114 pf_233_116 po_233 pg_9_276 rfl (ws_228 hW) (by decide) (fun x120 hx120 rx120 => ?_)
                    rw [pS_M113.h19] at hx120
                    change x120 = (rLf E s).flt at hx120
                    refine rr_if_ne 155 pf_233_119 (by decide) rx120 (fun c121 => ?_) (fun c121 => ?_)
                    · refine rr_iconst pf_233_155 ?_
                      refine rr_iret pf_233_156 pt_233 ⟨_, M113, rfl, rfl, q114, (by unfold rPartV; rw [if_neg (by omega)]), (by unfold rPart; rw [if_neg (by omega), if_neg (by omega)]; exact pS_M113), (rq116)⟩
                    · have hfl0 : (rLf E s).flt = 0 := by omega
                      have hnc := rLf_nc hfl0
                      refine rr_aload_n pf_233_122 rfl ?_
                      refine vr_getI q114 pf_233_123 po_233 pg_9_313 rfl (ws_228 hW) (by decide) (fun x122 hx122 rx122 => ?_)
                      rw [pS_M113.h23] at hx122
                      change x122 = (((rLf E s).nc : Nat) : Int) at hx122
                      refine rr_iconst pf_233_126 ?_
                      refine rr_isub pf_233_127 ?_
                      refine rr_istore_n pf_233_128 (fun y => [.ref 228, .int (iI (y77)), .int (iI (y80)), .int (iI (y))]) (Nat.le_of_ble_eq_true rfl) (fun _ => rfl) (fun y123 hy123 => ?_)
                      refine rr_aload_n pf_233_129 rfl ?_
                      refine rr_getR pf_233_130 po_233 pg_9_48 rfl (ws_228 hW) (by decide) (wr_228_25 q114.1) ?_
                      refine rr_iload_n pf_233_133 rfl ?_
                      refine rr_aload_n pf_233_134 rfl ?_
                      refine rr_lconst (w := 0) pf_233_135 rfl ?_
                      refine rr_iload_n pf_233_136 rfl ?_
                      refine rr_bipush pf_233_137 (by decide) ?_
                      refine rr_icmp_ne 148 pf_233_139 (by decide) (by unfold rg; omega) (by unfold rg; omega) (fun c124 => ?_) (fun c124 => ?_)
                      · refine rr_ldc2_w pf_233_148 po_233 pl_9_204 ?_
                        obtain ⟨r127, M125, ⟨kq126, pv_M125, pS_M125, pf_M125⟩, hcM125⟩ := ct_RS_number (xs := xs) (L := L) (d := d) (lo := 0) (hi_ := (15)) (E := E) (s := (rLf E s)) (b := (rLf E s).i) (by omega) hW q114.1 q114.2.1 pS_M113 hfl0 (by unfold rl; omega) (by unfold rl; omega)
                        have q126 := qk_trm q114 kq126 (by decide)
                        have rq128 := fz_tr rq116 pf_M125 (by decide)
                        refine rr_cV2 pf_233_151 po_233 pc_9_371 (ws_228 hW) po_238 (by decide) rfl hcM125 ?_
                        
                        rw [← iI_wrp r127]
                        refine vr_iast (j := ((rLf E s).nc - 1)) hW q126 pf_233_154 (ws_240 hW) (by omega) (by omega) (by decide) (wrp_rg _) (by decide) (fun M129 eM129 q130 => ?_)
                        have rq131 := fz_ne rq128 eM129 (by decide)
                        have hsM129 := RS_ast pS_M125 eM129 (by rw [rNb_nc])
                        refine rr_iconst pf_233_155 ?_
                        refine rr_iret pf_233_156 pt_233 ⟨_, M129, rfl, rfl, q130, (by unfold rPartV; rw [if_neg (by omega)]), (by unfold rPart; rw [if_neg (by omega), if_pos ⟨by omega, by omega, hfl0⟩, if_neg (by omega), ← pv_M125]; exact RS_b hsM129 (Nat.le_trans hsM129.hnb (rNb_i hi1)) (Nat.le_trans hsM129.hi htn)), (rq131)⟩
                      · refine rr_ldc2_w pf_233_142 po_233 pl_9_369 ?_
                        refine rr_goto 151 pf_233_145 (by decide) ?_
                        obtain ⟨r134, M132, ⟨kq133, pv_M132, pS_M132, pf_M132⟩, hcM132⟩ := ct_RS_number (xs := xs) (L := L) (d := d) (lo := 0) (hi_ := (5)) (E := E) (s := (rLf E s)) (b := (rLf E s).i) (by omega) hW q114.1 q114.2.1 pS_M113 hfl0 (by unfold rl; omega) (by unfold rl; omega)
                        have q133 := qk_trm q114 kq133 (by decide)
                        have rq135 := fz_tr rq116 pf_M132 (by decide)
                        refine rr_cV2 pf_233_151 po_233 pc_9_371 (ws_228 hW) po_238 (by decide) rfl hcM132 ?_
                        
                        rw [← iI_wrp r134]
                        refine vr_iast (j := ((rLf E s).nc - 1)) hW q133 pf_233_154 (ws_240 hW) (by omega) (by omega) (by decide) (wrp_rg _) (by decide) (fun M136 eM136 q137 => ?_)
                        have rq138 := fz_ne rq135 eM136 (by decide)
                        have hsM136 := RS_ast pS_M132 eM136 (by rw [rNb_nc])
                        refine rr_iconst pf_233_155 ?_
                        refine rr_iret pf_233_156 pt_233 ⟨_, M136, rfl, rfl, q137, (by unfold rPartV; rw [if_neg (by omega)]), (by unfold rPart; rw [if_neg (by omega), if_pos ⟨by omega, by omega, hfl0⟩, if_pos (by omega), ← pv_M132]; exact RS_b hsM136 (Nat.le_trans hsM136.hnb (rNb_i hi1)) (Nat.le_trans hsM136.hi htn)), (rq138)⟩
              · exfalso; omega
          · exfalso; omega
      · refine rr_aload_n pf_233_44 rfl ?_
        refine vr_getL q0 pf_233_45 po_233 pg_9_286 rfl (ws_228 hW) (by decide) (fun x139 hx139 rx139 => ?_)
        rw [hs.hlx.2.2.2] at hx139
        change x139 = rW E s at hx139
        refine rr_ldc2_w pf_233_48 po_233 pl_9_363 ?_
        refine rr_lcmp pf_233_51 rx139 (by unfold rl; omega) ?_
        refine rr_ifc_gt 59 pf_233_52 (by decide) (fun c140 => ?_) (fun c140 => ?_)
        · refine rr_iconst pf_233_59 ?_
          refine rr_istore_n pf_233_60 (fun y => [.ref 228, .int (iI (y77)), .int (iI (y)), px_jk]) (Nat.le_of_ble_eq_true rfl) (fun _ => rfl) (fun y141 hy141 => ?_)
          refine rr_aload_n pf_233_61 rfl ?_
          refine rr_iload_n pf_233_62 rfl ?_
          refine rr_iconst pf_233_63 ?_
          refine rr_icmp_ne 71 pf_233_64 (by decide) (by unfold rg; omega) (by unfold rg; omega) (fun c142 => ?_) (fun c142 => ?_)
          · have hne : pAt E.g (rK E s) (rW E s) 9 ≠ -1 := by omega
            have hk1 : rK E s = 1 := pAt_k _ hne
            refine rr_iconst pf_233_71 ?_
            refine rr_goto 76 pf_233_72 (by decide) ?_
            refine rr_iload_n pf_233_76 rfl ?_
            refine rr_iconst pf_233_77 ?_
            refine rr_icmp_ne 85 pf_233_78 (by decide) (by unfold rg; omega) (by unfold rg; omega) (fun c143 => ?_) (fun c143 => ?_)
            · refine rr_iload_n pf_233_85 rfl ?_
              refine rr_iload_n pf_233_86 rfl ?_
              refine rr_if_eq 98 pf_233_87 (by decide) (by unfold rg; omega) (fun c144 => ?_) (fun c144 => ?_)
              · refine rr_iconst pf_233_98 ?_
                obtain ⟨M145, ⟨kq146, pS_M145, pf_M145⟩, hcM145⟩ := ct_R_leaf (xs := xs) (L := L) (d := d) (u := 1) (x_ := y77) (y_ := 0) (E := E) (s := s) (by omega) hW q0.1 q0.2.1 hs hf (by omega) (fun _ => by omega) (by unfold rg; omega) (by unfold rg; omega)
                have q146 := qk_trm q0 kq146 (by decide)
                have rq148 := fz_tr (fz_rf [14, 15, 16, 17, 18, 19, 23, 26, 29, 30] M0) pf_M145 (by decide)
                refine rr_cV3 pf_233_99 po_233 pc_9_365 (ws_228 hW) po_236 (by decide) rfl hcM145 ?_
                have hlf : rLeaf E 1 y77 0 s = rLf E s := by
                  unfold rLf; rw [hA, if_pos (show y77 ≠ -1 ∨ (rK E s = 2 ∧ rW E s ≤ 1000) by omega), if_neg (show ¬ (y77 = -1) by omega), if_neg (show ¬ (rK E s = 2 ∧ rW E s ≤ 1000) by omega)]
                rw [hlf] at pS_M145
                have hnb1 := pS_M145.hnb
                have hi1 := pS_M145.hi
                refine rr_aload_n pf_233_102 rfl ?_
                refine vr_getZ q146 pf_233_103 po_233 pg_9_353 rfl (ws_228 hW) (by decide) (fun x149 hx149 rx149 => ?_)
                rw [rq148 20 (by decide)] at hx149
                rw [hs.h20] at hx149
                refine rr_if_eq 155 pf_233_106 (by decide) rx149 (fun c150 => ?_) (fun c150 => ?_)
                · exfalso; omega
                · refine rr_iload_n pf_233_109 rfl ?_
                  refine rr_bipush pf_233_110 (by decide) ?_
                  refine rr_icmp_lt 155 pf_233_112 (by decide) (by unfold rg; omega) (by unfold rg; omega) (fun c151 => ?_) (fun c151 => ?_)
                  · refine rr_iconst pf_233_155 ?_
                    refine rr_iret pf_233_156 pt_233 ⟨_, M145, rfl, rfl, q146, (by unfold rPartV; rw [if_neg (by omega)]), (by unfold rPart; rw [if_neg (by omega), if_neg (by omega)]; exact pS_M145), (rq148)⟩
                  · refine rr_aload_n pf_233_115 rfl ?_
                    refine vr_getZ q146 pf_233_116 po_233 pg_9_276 rfl (ws_228 hW) (by decide) (fun x152 hx152 rx152 => ?_)
                    rw [pS_M145.h19] at hx152
                    change x152 = (rLf E s).flt at hx152
                    refine rr_if_ne 155 pf_233_119 (by decide) rx152 (fun c153 => ?_) (fun c153 => ?_)
                    · refine rr_iconst pf_233_155 ?_
                      refine rr_iret pf_233_156 pt_233 ⟨_, M145, rfl, rfl, q146, (by unfold rPartV; rw [if_neg (by omega)]), (by unfold rPart; rw [if_neg (by omega), if_neg (by omega)]; exact pS_M145), (rq148)⟩
                    · have hfl0 : (rLf E s).flt = 0 := by omega
                      have hnc := rLf_nc hfl0
                      refine rr_aload_n pf_233_122 rfl ?_
                      refine vr_getI q146 pf_233_123 po_233 pg_9_313 rfl (ws_228 hW) (by decide) (fun x154 hx154 rx154 => ?_)
                      rw [pS_M145.h23] at hx154
                      change x154 = (((rLf E s).nc : Nat) : Int) at hx154
                      refine rr_iconst pf_233_126 ?_
                      refine rr_isub pf_233_127 ?_
                      refine rr_istore_n pf_233_128 (fun y => [.ref 228, .int (iI (y77)), .int (iI (y141)), .int (iI (y))]) (Nat.le_of_ble_eq_true rfl) (fun _ => rfl) (fun y155 hy155 => ?_)
                      refine rr_aload_n pf_233_129 rfl ?_
                      refine rr_getR pf_233_130 po_233 pg_9_48 rfl (ws_228 hW) (by decide) (wr_228_25 q146.1) ?_
                      refine rr_iload_n pf_233_133 rfl ?_
                      refine rr_aload_n pf_233_134 rfl ?_
                      refine rr_lconst (w := 0) pf_233_135 rfl ?_
                      refine rr_iload_n pf_233_136 rfl ?_
                      refine rr_bipush pf_233_137 (by decide) ?_
                      refine rr_icmp_ne 148 pf_233_139 (by decide) (by unfold rg; omega) (by unfold rg; omega) (fun c156 => ?_) (fun c156 => ?_)
                      · refine rr_ldc2_w pf_233_148 po_233 pl_9_204 ?_
                        obtain ⟨r159, M157, ⟨kq158, pv_M157, pS_M157, pf_M157⟩, hcM157⟩ := ct_RS_number (xs := xs) (L := L) (d := d) (lo := 0) (hi_ := (15)) (E := E) (s := (rLf E s)) (b := (rLf E s).i) (by omega) hW q146.1 q146.2.1 pS_M145 hfl0 (by unfold rl; omega) (by unfold rl; omega)
                        have q158 := qk_trm q146 kq158 (by decide)
                        have rq160 := fz_tr rq148 pf_M157 (by decide)
                        refine rr_cV2 pf_233_151 po_233 pc_9_371 (ws_228 hW) po_238 (by decide) rfl hcM157 ?_
                        
                        rw [← iI_wrp r159]
                        refine vr_iast (j := ((rLf E s).nc - 1)) hW q158 pf_233_154 (ws_240 hW) (by omega) (by omega) (by decide) (wrp_rg _) (by decide) (fun M161 eM161 q162 => ?_)
                        have rq163 := fz_ne rq160 eM161 (by decide)
                        have hsM161 := RS_ast pS_M157 eM161 (by rw [rNb_nc])
                        refine rr_iconst pf_233_155 ?_
                        refine rr_iret pf_233_156 pt_233 ⟨_, M161, rfl, rfl, q162, (by unfold rPartV; rw [if_neg (by omega)]), (by unfold rPart; rw [if_neg (by omega), if_pos ⟨by omega, by omega, hfl0⟩, if_neg (by omega), ← pv_M157]; exact RS_b hsM161 (Nat.le_trans hsM161.hnb (rNb_i hi1)) (Nat.le_trans hsM161.hi htn)), (rq163)⟩
                      · refine rr_ldc2_w pf_233_142 po_233 pl_9_369 ?_
                        refine rr_goto 151 pf_233_145 (by decide) ?_
                        obtain ⟨r166, M164, ⟨kq165, pv_M164, pS_M164, pf_M164⟩, hcM164⟩ := ct_RS_number (xs := xs) (L := L) (d := d) (lo := 0) (hi_ := (5)) (E := E) (s := (rLf E s)) (b := (rLf E s).i) (by omega) hW q146.1 q146.2.1 pS_M145 hfl0 (by unfold rl; omega) (by unfold rl; omega)
                        have q165 := qk_trm q146 kq165 (by decide)
                        have rq167 := fz_tr rq148 pf_M164 (by decide)
                        refine rr_cV2 pf_233_151 po_233 pc_9_371 (ws_228 hW) po_238 (by decide) rfl hcM164 ?_
                        
                        rw [← iI_wrp r166]
                        refine vr_iast (j := ((rLf E s).nc - 1)) hW q165 pf_233_154 (ws_240 hW) (by omega) (by omega) (by decide) (wrp_rg _) (by decide) (fun M168 eM168 q169 => ?_)
                        have rq170 := fz_ne rq167 eM168 (by decide)
                        have hsM168 := RS_ast pS_M164 eM168 (by rw [rNb_nc])
                        refine rr_iconst pf_233_155 ?_
                        refine rr_iret pf_233_156 pt_233 ⟨_, M168, rfl, rfl, q169, (by unfold rPartV; rw [if_neg (by omega)]), (by unfold rPart; rw [if_neg (by omega), if_pos ⟨by omega, by omega, hfl0⟩, if_pos (by omega), ← pv_M164]; exact RS_b hsM168 (Nat.le_trans hsM168.hnb (rNb_i hi1)) (Nat.le_trans hsM168.hi htn)), (rq170)⟩
              · exfalso; omega
            · exfalso; omega
          · refine rr_iload_n pf_233_67 rfl ?_
            refine rr_if_eq 75 pf_233_68 (by decide) (by unfold rg; omega) (fun c171 => ?_) (fun c171 => ?_)
            · refine rr_iconst pf_233_75 ?_
              refine rr_iload_n pf_233_76 rfl ?_
              refine rr_iconst pf_233_77 ?_
              refine rr_icmp_ne 85 pf_233_78 (by decide) (by unfold rg; omega) (by unfold rg; omega) (fun c172 => ?_) (fun c172 => ?_)
              · exfalso; omega
              · refine rr_iconst pf_233_81 ?_
                refine rr_goto 86 pf_233_82 (by decide) ?_
                refine rr_iload_n pf_233_86 rfl ?_
                refine rr_if_eq 98 pf_233_87 (by decide) (by unfold rg; omega) (fun c173 => ?_) (fun c173 => ?_)
                · refine rr_iconst pf_233_98 ?_
                  obtain ⟨M174, ⟨kq175, pS_M174, pf_M174⟩, hcM174⟩ := ct_R_leaf (xs := xs) (L := L) (d := d) (u := 0) (x_ := 0) (y_ := 0) (E := E) (s := s) (by omega) hW q0.1 q0.2.1 hs hf (by omega) (fun _ => by omega) (by unfold rg; omega) (by unfold rg; omega)
                  have q175 := qk_trm q0 kq175 (by decide)
                  have rq177 := fz_tr (fz_rf [14, 15, 16, 17, 18, 19, 23, 26, 29, 30] M0) pf_M174 (by decide)
                  refine rr_cV3 pf_233_99 po_233 pc_9_365 (ws_228 hW) po_236 (by decide) rfl hcM174 ?_
                  have hlf : rLeaf E 0 0 0 s = rLf E s := by
                    unfold rLf; rw [hA, if_neg (show ¬ (y77 ≠ -1 ∨ (rK E s = 2 ∧ rW E s ≤ 1000)) by omega), if_pos (show y77 = -1 by omega), if_neg (show ¬ (rK E s = 2 ∧ rW E s ≤ 1000) by omega)]
                  rw [hlf] at pS_M174
                  have hnb1 := pS_M174.hnb
                  have hi1 := pS_M174.hi
                  refine rr_aload_n pf_233_102 rfl ?_
                  refine vr_getZ q175 pf_233_103 po_233 pg_9_353 rfl (ws_228 hW) (by decide) (fun x178 hx178 rx178 => ?_)
                  rw [rq177 20 (by decide)] at hx178
                  rw [hs.h20] at hx178
                  refine rr_if_eq 155 pf_233_106 (by decide) rx178 (fun c179 => ?_) (fun c179 => ?_)
                  · exfalso; omega
                  · refine rr_iload_n pf_233_109 rfl ?_
                    refine rr_bipush pf_233_110 (by decide) ?_
                    refine rr_icmp_lt 155 pf_233_112 (by decide) (by unfold rg; omega) (by unfold rg; omega) (fun c180 => ?_) (fun c180 => ?_)
                    · refine rr_iconst pf_233_155 ?_
                      refine rr_iret pf_233_156 pt_233 ⟨_, M174, rfl, rfl, q175, (by unfold rPartV; rw [if_neg (by omega)]), (by unfold rPart; rw [if_neg (by omega), if_neg (by omega)]; exact pS_M174), (rq177)⟩
                    · refine rr_aload_n pf_233_115 rfl ?_
                      refine vr_getZ q175 pf_233_116 po_233 pg_9_276 rfl (ws_228 hW) (by decide) (fun x181 hx181 rx181 => ?_)
                      rw [pS_M174.h19] at hx181
                      change x181 = (rLf E s).flt at hx181
                      refine rr_if_ne 155 pf_233_119 (by decide) rx181 (fun c182 => ?_) (fun c182 => ?_)
                      · refine rr_iconst pf_233_155 ?_
                        refine rr_iret pf_233_156 pt_233 ⟨_, M174, rfl, rfl, q175, (by unfold rPartV; rw [if_neg (by omega)]), (by unfold rPart; rw [if_neg (by omega), if_neg (by omega)]; exact pS_M174), (rq177)⟩
                      · have hfl0 : (rLf E s).flt = 0 := by omega
                        have hnc := rLf_nc hfl0
                        refine rr_aload_n pf_233_122 rfl ?_
                        refine vr_getI q175 pf_233_123 po_233 pg_9_313 rfl (ws_228 hW) (by decide) (fun x183 hx183 rx183 => ?_)
                        rw [pS_M174.h23] at hx183
                        change x183 = (((rLf E s).nc : Nat) : Int) at hx183
                        refine rr_iconst pf_233_126 ?_
                        refine rr_isub pf_233_127 ?_
                        refine rr_istore_n pf_233_128 (fun y => [.ref 228, .int (iI (y77)), .int (iI (y141)), .int (iI (y))]) (Nat.le_of_ble_eq_true rfl) (fun _ => rfl) (fun y184 hy184 => ?_)
                        refine rr_aload_n pf_233_129 rfl ?_
                        refine rr_getR pf_233_130 po_233 pg_9_48 rfl (ws_228 hW) (by decide) (wr_228_25 q175.1) ?_
                        refine rr_iload_n pf_233_133 rfl ?_
                        refine rr_aload_n pf_233_134 rfl ?_
                        refine rr_lconst (w := 0) pf_233_135 rfl ?_
                        refine rr_iload_n pf_233_136 rfl ?_
                        refine rr_bipush pf_233_137 (by decide) ?_
                        refine rr_icmp_ne 148 pf_233_139 (by decide) (by unfold rg; omega) (by unfold rg; omega) (fun c185 => ?_) (fun c185 => ?_)
                        · refine rr_ldc2_w pf_233_148 po_233 pl_9_204 ?_
                          obtain ⟨r188, M186, ⟨kq187, pv_M186, pS_M186, pf_M186⟩, hcM186⟩ := ct_RS_number (xs := xs) (L := L) (d := d) (lo := 0) (hi_ := (15)) (E := E) (s := (rLf E s)) (b := (rLf E s).i) (by omega) hW q175.1 q175.2.1 pS_M174 hfl0 (by unfold rl; omega) (by unfold rl; omega)
                          have q187 := qk_trm q175 kq187 (by decide)
                          have rq189 := fz_tr rq177 pf_M186 (by decide)
                          refine rr_cV2 pf_233_151 po_233 pc_9_371 (ws_228 hW) po_238 (by decide) rfl hcM186 ?_
                          
                          rw [← iI_wrp r188]
                          refine vr_iast (j := ((rLf E s).nc - 1)) hW q187 pf_233_154 (ws_240 hW) (by omega) (by omega) (by decide) (wrp_rg _) (by decide) (fun M190 eM190 q191 => ?_)
                          have rq192 := fz_ne rq189 eM190 (by decide)
                          have hsM190 := RS_ast pS_M186 eM190 (by rw [rNb_nc])
                          refine rr_iconst pf_233_155 ?_
                          refine rr_iret pf_233_156 pt_233 ⟨_, M190, rfl, rfl, q191, (by unfold rPartV; rw [if_neg (by omega)]), (by unfold rPart; rw [if_neg (by omega), if_pos ⟨by omega, by omega, hfl0⟩, if_neg (by omega), ← pv_M186]; exact RS_b hsM190 (Nat.le_trans hsM190.hnb (rNb_i hi1)) (Nat.le_trans hsM190.hi htn)), (rq192)⟩
                        · refine rr_ldc2_w pf_233_142 po_233 pl_9_369 ?_
                          refine rr_goto 151 pf_233_145 (by decide) ?_
                          obtain ⟨r195, M193, ⟨kq194, pv_M193, pS_M193, pf_M193⟩, hcM193⟩ := ct_RS_number (xs := xs) (L := L) (d := d) (lo := 0) (hi_ := (5)) (E := E) (s := (rLf E s)) (b := (rLf E s).i) (by omega) hW q175.1 q175.2.1 pS_M174 hfl0 (by unfold rl; omega) (by unfold rl; omega)
                          have q194 := qk_trm q175 kq194 (by decide)
                          have rq196 := fz_tr rq177 pf_M193 (by decide)
                          refine rr_cV2 pf_233_151 po_233 pc_9_371 (ws_228 hW) po_238 (by decide) rfl hcM193 ?_
                          
                          rw [← iI_wrp r195]
                          refine vr_iast (j := ((rLf E s).nc - 1)) hW q194 pf_233_154 (ws_240 hW) (by omega) (by omega) (by decide) (wrp_rg _) (by decide) (fun M197 eM197 q198 => ?_)
                          have rq199 := fz_ne rq196 eM197 (by decide)
                          have hsM197 := RS_ast pS_M193 eM197 (by rw [rNb_nc])
                          refine rr_iconst pf_233_155 ?_
                          refine rr_iret pf_233_156 pt_233 ⟨_, M197, rfl, rfl, q198, (by unfold rPartV; rw [if_neg (by omega)]), (by unfold rPart; rw [if_neg (by omega), if_pos ⟨by omega, by omega, hfl0⟩, if_pos (by omega), ← pv_M193]; exact RS_b hsM197 (Nat.le_trans hsM197.hnb (rNb_i hi1)) (Nat.le_trans hsM197.hi htn)), (rq199)⟩
                · exfalso; omega
            · exfalso; omega
        · have hw2 : 0 ≤ rW E s ∧ rW E s ≤ 10000009 := tkW_2 (show tkK E.tn E.tb s.i = 2 from (by omega : rK E s = 2))
          refine rr_iconst pf_233_55 ?_
          refine rr_goto 60 pf_233_56 (by decide) ?_
          refine rr_istore_n pf_233_60 (fun y => [.ref 228, .int (iI (y77)), .int (iI (y)), px_jk]) (Nat.le_of_ble_eq_true rfl) (fun _ => rfl) (fun y200 hy200 => ?_)
          refine rr_aload_n pf_233_61 rfl ?_
          refine rr_iload_n pf_233_62 rfl ?_
          refine rr_iconst pf_233_63 ?_
          refine rr_icmp_ne 71 pf_233_64 (by decide) (by unfold rg; omega) (by unfold rg; omega) (fun c201 => ?_) (fun c201 => ?_)
          · have hne : pAt E.g (rK E s) (rW E s) 9 ≠ -1 := by omega
            have hk1 : rK E s = 1 := pAt_k _ hne
            refine rr_iconst pf_233_71 ?_
            refine rr_goto 76 pf_233_72 (by decide) ?_
            refine rr_iload_n pf_233_76 rfl ?_
            refine rr_iconst pf_233_77 ?_
            refine rr_icmp_ne 85 pf_233_78 (by decide) (by unfold rg; omega) (by unfold rg; omega) (fun c202 => ?_) (fun c202 => ?_)
            · refine rr_iload_n pf_233_85 rfl ?_
              refine rr_iload_n pf_233_86 rfl ?_
              refine rr_if_eq 98 pf_233_87 (by decide) (by unfold rg; omega) (fun c203 => ?_) (fun c203 => ?_)
              · exfalso; omega
              · refine rr_aload_n pf_233_90 rfl ?_
                refine vr_getL q0 pf_233_91 po_233 pg_9_286 rfl (ws_228 hW) (by decide) (fun x204 hx204 rx204 => ?_)
                rw [hs.hlx.2.2.2] at hx204
                change x204 = rW E s at hx204
                refine rr_l2i pf_233_94 rx204 ?_
                refine rr_goto 99 pf_233_95 (by decide) ?_
                obtain ⟨M205, ⟨kq206, pS_M205, pf_M205⟩, hcM205⟩ := ct_R_leaf (xs := xs) (L := L) (d := d) (u := 1) (x_ := y77) (y_ := x204) (E := E) (s := s) (by omega) hW q0.1 q0.2.1 hs hf (by omega) (fun _ => by omega) (by unfold rg; omega) (by unfold rg; omega)
                have q206 := qk_trm q0 kq206 (by decide)
                have rq208 := fz_tr (fz_rf [14, 15, 16, 17, 18, 19, 23, 26, 29, 30] M0) pf_M205 (by decide)
                refine rr_cV3 pf_233_99 po_233 pc_9_365 (ws_228 hW) po_236 (by decide) rfl hcM205 ?_
                have hlf : rLeaf E 1 y77 x204 s = rLf E s := by
                  unfold rLf; rw [hA, if_pos (show y77 ≠ -1 ∨ (rK E s = 2 ∧ rW E s ≤ 1000) by omega), if_neg (show ¬ (y77 = -1) by omega), if_pos (show rK E s = 2 ∧ rW E s ≤ 1000 by omega), hx204]
                rw [hlf] at pS_M205
                have hnb1 := pS_M205.hnb
                have hi1 := pS_M205.hi
                refine rr_aload_n pf_233_102 rfl ?_
                refine vr_getZ q206 pf_233_103 po_233 pg_9_353 rfl (ws_228 hW) (by decide) (fun x209 hx209 rx209 => ?_)
                rw [rq208 20 (by decide)] at hx209
                rw [hs.h20] at hx209
                refine rr_if_eq 155 pf_233_106 (by decide) rx209 (fun c210 => ?_) (fun c210 => ?_)
                · exfalso; omega
                · refine rr_iload_n pf_233_109 rfl ?_
                  refine rr_bipush pf_233_110 (by decide) ?_
                  refine rr_icmp_lt 155 pf_233_112 (by decide) (by unfold rg; omega) (by unfold rg; omega) (fun c211 => ?_) (fun c211 => ?_)
                  · refine rr_iconst pf_233_155 ?_
                    refine rr_iret pf_233_156 pt_233 ⟨_, M205, rfl, rfl, q206, (by unfold rPartV; rw [if_neg (by omega)]), (by unfold rPart; rw [if_neg (by omega), if_neg (by omega)]; exact pS_M205), (rq208)⟩
                  · refine rr_aload_n pf_233_115 rfl ?_
                    refine vr_getZ q206 pf_233_116 po_233 pg_9_276 rfl (ws_228 hW) (by decide) (fun x212 hx212 rx212 => ?_)
                    rw [pS_M205.h19] at hx212
                    change x212 = (rLf E s).flt at hx212
                    refine rr_if_ne 155 pf_233_119 (by decide) rx212 (fun c213 => ?_) (fun c213 => ?_)
                    · refine rr_iconst pf_233_155 ?_
                      refine rr_iret pf_233_156 pt_233 ⟨_, M205, rfl, rfl, q206, (by unfold rPartV; rw [if_neg (by omega)]), (by unfold rPart; rw [if_neg (by omega), if_neg (by omega)]; exact pS_M205), (rq208)⟩
                    · have hfl0 : (rLf E s).flt = 0 := by omega
                      have hnc := rLf_nc hfl0
                      refine rr_aload_n pf_233_122 rfl ?_
                      refine vr_getI q206 pf_233_123 po_233 pg_9_313 rfl (ws_228 hW) (by decide) (fun x214 hx214 rx214 => ?_)
                      rw [pS_M205.h23] at hx214
                      change x214 = (((rLf E s).nc : Nat) : Int) at hx214
                      refine rr_iconst pf_233_126 ?_
                      refine rr_isub pf_233_127 ?_
                      refine rr_istore_n pf_233_128 (fun y => [.ref 228, .int (iI (y77)), .int (iI (y200)), .int (iI (y))]) (Nat.le_of_ble_eq_true rfl) (fun _ => rfl) (fun y215 hy215 => ?_)
                      refine rr_aload_n pf_233_129 rfl ?_
                      refine rr_getR pf_233_130 po_233 pg_9_48 rfl (ws_228 hW) (by decide) (wr_228_25 q206.1) ?_
                      refine rr_iload_n pf_233_133 rfl ?_
                      refine rr_aload_n pf_233_134 rfl ?_
                      refine rr_lconst (w := 0) pf_233_135 rfl ?_
                      refine rr_iload_n pf_233_136 rfl ?_
                      refine rr_bipush pf_233_137 (by decide) ?_
                      refine rr_icmp_ne 148 pf_233_139 (by decide) (by unfold rg; omega) (by unfold rg; omega) (fun c216 => ?_) (fun c216 => ?_)
                      · refine rr_ldc2_w pf_233_148 po_233 pl_9_204 ?_
                        obtain ⟨r219, M217, ⟨kq218, pv_M217, pS_M217, pf_M217⟩, hcM217⟩ := ct_RS_number (xs := xs) (L := L) (d := d) (lo := 0) (hi_ := (15)) (E := E) (s := (rLf E s)) (b := (rLf E s).i) (by omega) hW q206.1 q206.2.1 pS_M205 hfl0 (by unfold rl; omega) (by unfold rl; omega)
                        have q218 := qk_trm q206 kq218 (by decide)
                        have rq220 := fz_tr rq208 pf_M217 (by decide)
                        refine rr_cV2 pf_233_151 po_233 pc_9_371 (ws_228 hW) po_238 (by decide) rfl hcM217 ?_
                        
                        rw [← iI_wrp r219]
                        refine vr_iast (j := ((rLf E s).nc - 1)) hW q218 pf_233_154 (ws_240 hW) (by omega) (by omega) (by decide) (wrp_rg _) (by decide) (fun M221 eM221 q222 => ?_)
                        have rq223 := fz_ne rq220 eM221 (by decide)
                        have hsM221 := RS_ast pS_M217 eM221 (by rw [rNb_nc])
                        refine rr_iconst pf_233_155 ?_
                        refine rr_iret pf_233_156 pt_233 ⟨_, M221, rfl, rfl, q222, (by unfold rPartV; rw [if_neg (by omega)]), (by unfold rPart; rw [if_neg (by omega), if_pos ⟨by omega, by omega, hfl0⟩, if_neg (by omega), ← pv_M217]; exact RS_b hsM221 (Nat.le_trans hsM221.hnb (rNb_i hi1)) (Nat.le_trans hsM221.hi htn)), (rq223)⟩
                      · refine rr_ldc2_w pf_233_142 po_233 pl_9_369 ?_
                        refine rr_goto 151 pf_233_145 (by decide) ?_
                        obtain ⟨r226, M224, ⟨kq225, pv_M224, pS_M224, pf_M224⟩, hcM224⟩ := ct_RS_number (xs := xs) (L := L) (d := d) (lo := 0) (hi_ := (5)) (E := E) (s := (rLf E s)) (b := (rLf E s).i) (by omega) hW q206.1 q206.2.1 pS_M205 hfl0 (by unfold rl; omega) (by unfold rl; omega)
                        have q225 := qk_trm q206 kq225 (by decide)
                        have rq227 := fz_tr rq208 pf_M224 (by decide)
                        refine rr_cV2 pf_233_151 po_233 pc_9_371 (ws_228 hW) po_238 (by decide) rfl hcM224 ?_
                        
                        rw [← iI_wrp r226]
                        refine vr_iast (j := ((rLf E s).nc - 1)) hW q225 pf_233_154 (ws_240 hW) (by omega) (by omega) (by decide) (wrp_rg _) (by decide) (fun M228 eM228 q229 => ?_)
                        have rq230 := fz_ne rq227 eM228 (by decide)
                        have hsM228 := RS_ast pS_M224 eM228 (by rw [rNb_nc])
                        refine rr_iconst pf_233_155 ?_
                        refine rr_iret pf_233_156 pt_233 ⟨_, M228, rfl, rfl, q229, (by unfold rPartV; rw [if_neg (by omega)]), (by unfold rPart; rw [if_neg (by omega), if_pos ⟨by omega, by omega, hfl0⟩, if_pos (by omega), ← pv_M224]; exact RS_b hsM228 (Nat.le_trans hsM228.hnb (rNb_i hi1)) (Nat.le_trans hsM228.hi htn)), (rq230)⟩
            · exfalso; omega
          · refine rr_iload_n pf_233_67 rfl ?_
            refine rr_if_eq 75 pf_233_68 (by decide) (by unfold rg; omega) (fun c231 => ?_) (fun c231 => ?_)
            · exfalso; omega
            · refine rr_iconst pf_233_71 ?_
              refine rr_goto 76 pf_233_72 (by decide) ?_
              refine rr_iload_n pf_233_76 rfl ?_
              refine rr_iconst pf_233_77 ?_
              refine rr_icmp_ne 85 pf_233_78 (by decide) (by unfold rg; omega) (by unfold rg; omega) (fun c232 => ?_) (fun c232 => ?_)
              · exfalso; omega
              · refine rr_iconst pf_233_81 ?_
                refine rr_goto 86 pf_233_82 (by decide) ?_
                refine rr_iload_n pf_233_86 rfl ?_
                refine rr_if_eq 98 pf_233_87 (by decide) (by unfold rg; omega) (fun c233 => ?_) (fun c233 => ?_)
                · exfalso; omega
                · refine rr_aload_n pf_233_90 rfl ?_
                  refine vr_getL q0 pf_233_91 po_233 pg_9_286 rfl (ws_228 hW) (by decide) (fun x234 hx234 rx234 => ?_)
                  rw [hs.hlx.2.2.2] at hx234
                  change x234 = rW E s at hx234
                  refine rr_l2i pf_233_94 rx234 ?_
                  refine rr_goto 99 pf_233_95 (by decide) ?_
                  obtain ⟨M235, ⟨kq236, pS_M235, pf_M235⟩, hcM235⟩ := ct_R_leaf (xs := xs) (L := L) (d := d) (u := 1) (x_ := 0) (y_ := x234) (E := E) (s := s) (by omega) hW q0.1 q0.2.1 hs hf (by omega) (fun _ => by omega) (by unfold rg; omega) (by unfold rg; omega)
                  have q236 := qk_trm q0 kq236 (by decide)
                  have rq238 := fz_tr (fz_rf [14, 15, 16, 17, 18, 19, 23, 26, 29, 30] M0) pf_M235 (by decide)
                  refine rr_cV3 pf_233_99 po_233 pc_9_365 (ws_228 hW) po_236 (by decide) rfl hcM235 ?_
                  have hlf : rLeaf E 1 0 x234 s = rLf E s := by
                    unfold rLf; rw [hA, if_pos (show y77 ≠ -1 ∨ (rK E s = 2 ∧ rW E s ≤ 1000) by omega), if_pos (show y77 = -1 by omega), if_pos (show rK E s = 2 ∧ rW E s ≤ 1000 by omega), hx234]
                  rw [hlf] at pS_M235
                  have hnb1 := pS_M235.hnb
                  have hi1 := pS_M235.hi
                  refine rr_aload_n pf_233_102 rfl ?_
                  refine vr_getZ q236 pf_233_103 po_233 pg_9_353 rfl (ws_228 hW) (by decide) (fun x239 hx239 rx239 => ?_)
                  rw [rq238 20 (by decide)] at hx239
                  rw [hs.h20] at hx239
                  refine rr_if_eq 155 pf_233_106 (by decide) rx239 (fun c240 => ?_) (fun c240 => ?_)
                  · exfalso; omega
                  · refine rr_iload_n pf_233_109 rfl ?_
                    refine rr_bipush pf_233_110 (by decide) ?_
                    refine rr_icmp_lt 155 pf_233_112 (by decide) (by unfold rg; omega) (by unfold rg; omega) (fun c241 => ?_) (fun c241 => ?_)
                    · refine rr_iconst pf_233_155 ?_
                      refine rr_iret pf_233_156 pt_233 ⟨_, M235, rfl, rfl, q236, (by unfold rPartV; rw [if_neg (by omega)]), (by unfold rPart; rw [if_neg (by omega), if_neg (by omega)]; exact pS_M235), (rq238)⟩
                    · refine rr_aload_n pf_233_115 rfl ?_
                      refine vr_getZ q236 pf_233_116 po_233 pg_9_276 rfl (ws_228 hW) (by decide) (fun x242 hx242 rx242 => ?_)
                      rw [pS_M235.h19] at hx242
                      change x242 = (rLf E s).flt at hx242
                      refine rr_if_ne 155 pf_233_119 (by decide) rx242 (fun c243 => ?_) (fun c243 => ?_)
                      · refine rr_iconst pf_233_155 ?_
                        refine rr_iret pf_233_156 pt_233 ⟨_, M235, rfl, rfl, q236, (by unfold rPartV; rw [if_neg (by omega)]), (by unfold rPart; rw [if_neg (by omega), if_neg (by omega)]; exact pS_M235), (rq238)⟩
                      · have hfl0 : (rLf E s).flt = 0 := by omega
                        have hnc := rLf_nc hfl0
                        refine rr_aload_n pf_233_122 rfl ?_
                        refine vr_getI q236 pf_233_123 po_233 pg_9_313 rfl (ws_228 hW) (by decide) (fun x244 hx244 rx244 => ?_)
                        rw [pS_M235.h23] at hx244
                        change x244 = (((rLf E s).nc : Nat) : Int) at hx244
                        refine rr_iconst pf_233_126 ?_
                        refine rr_isub pf_233_127 ?_
                        refine rr_istore_n pf_233_128 (fun y => [.ref 228, .int (iI (y77)), .int (iI (y200)), .int (iI (y))]) (Nat.le_of_ble_eq_true rfl) (fun _ => rfl) (fun y245 hy245 => ?_)
                        refine rr_aload_n pf_233_129 rfl ?_
                        refine rr_getR pf_233_130 po_233 pg_9_48 rfl (ws_228 hW) (by decide) (wr_228_25 q236.1) ?_
                        refine rr_iload_n pf_233_133 rfl ?_
                        refine rr_aload_n pf_233_134 rfl ?_
                        refine rr_lconst (w := 0) pf_233_135 rfl ?_
                        refine rr_iload_n pf_233_136 rfl ?_
                        refine rr_bipush pf_233_137 (by decide) ?_
                        refine rr_icmp_ne 148 pf_233_139 (by decide) (by unfold rg; omega) (by unfold rg; omega) (fun c246 => ?_) (fun c246 => ?_)
                        · refine rr_ldc2_w pf_233_148 po_233 pl_9_204 ?_
                          obtain ⟨r249, M247, ⟨kq248, pv_M247, pS_M247, pf_M247⟩, hcM247⟩ := ct_RS_number (xs := xs) (L := L) (d := d) (lo := 0) (hi_ := (15)) (E := E) (s := (rLf E s)) (b := (rLf E s).i) (by omega) hW q236.1 q236.2.1 pS_M235 hfl0 (by unfold rl; omega) (by unfold rl; omega)
                          have q248 := qk_trm q236 kq248 (by decide)
                          have rq250 := fz_tr rq238 pf_M247 (by decide)
                          refine rr_cV2 pf_233_151 po_233 pc_9_371 (ws_228 hW) po_238 (by decide) rfl hcM247 ?_
                          
                          rw [← iI_wrp r249]
                          refine vr_iast (j := ((rLf E s).nc - 1)) hW q248 pf_233_154 (ws_240 hW) (by omega) (by omega) (by decide) (wrp_rg _) (by decide) (fun M251 eM251 q252 => ?_)
                          have rq253 := fz_ne rq250 eM251 (by decide)
                          have hsM251 := RS_ast pS_M247 eM251 (by rw [rNb_nc])
                          refine rr_iconst pf_233_155 ?_
                          refine rr_iret pf_233_156 pt_233 ⟨_, M251, rfl, rfl, q252, (by unfold rPartV; rw [if_neg (by omega)]), (by unfold rPart; rw [if_neg (by omega), if_pos ⟨by omega, by omega, hfl0⟩, if_neg (by omega), ← pv_M247]; exact RS_b hsM251 (Nat.le_trans hsM251.hnb (rNb_i hi1)) (Nat.le_trans hsM251.hi htn)), (rq253)⟩
                        · refine rr_ldc2_w pf_233_142 po_233 pl_9_369 ?_
                          refine rr_goto 151 pf_233_145 (by decide) ?_
                          obtain ⟨r256, M254, ⟨kq255, pv_M254, pS_M254, pf_M254⟩, hcM254⟩ := ct_RS_number (xs := xs) (L := L) (d := d) (lo := 0) (hi_ := (5)) (E := E) (s := (rLf E s)) (b := (rLf E s).i) (by omega) hW q236.1 q236.2.1 pS_M235 hfl0 (by unfold rl; omega) (by unfold rl; omega)
                          have q255 := qk_trm q236 kq255 (by decide)
                          have rq257 := fz_tr rq238 pf_M254 (by decide)
                          refine rr_cV2 pf_233_151 po_233 pc_9_371 (ws_228 hW) po_238 (by decide) rfl hcM254 ?_
                          
                          rw [← iI_wrp r256]
                          refine vr_iast (j := ((rLf E s).nc - 1)) hW q255 pf_233_154 (ws_240 hW) (by omega) (by omega) (by decide) (wrp_rg _) (by decide) (fun M258 eM258 q259 => ?_)
                          have rq260 := fz_ne rq257 eM258 (by decide)
                          have hsM258 := RS_ast pS_M254 eM258 (by rw [rNb_nc])
                          refine rr_iconst pf_233_155 ?_
                          refine rr_iret pf_233_156 pt_233 ⟨_, M258, rfl, rfl, q259, (by unfold rPartV; rw [if_neg (by omega)]), (by unfold rPart; rw [if_neg (by omega), if_pos ⟨by omega, by omega, hfl0⟩, if_pos (by omega), ← pv_M254]; exact RS_b hsM258 (Nat.le_trans hsM258.hnb (rNb_i hi1)) (Nat.le_trans hsM258.hi htn)), (rq260)⟩
  · refine rr_aload_n pf_233_9 rfl ?_
    refine rr_bipush pf_233_10 (by decide) ?_
    obtain ⟨M261, ⟨kq262, pS_M261, pf_M261⟩, hcM261⟩ := ct_R_openBracket (xs := xs) (L := L) (d := d) (u := 32) (E := E) (s := s) (by omega) hW q0.1 q0.2.1 hs hf (by omega) (by omega)
    have q262 := qk_trm q0 kq262 (by decide)
    have rq264 := fz_tr (fz_rf [14, 15, 16, 17, 18, 19, 23, 26, 29, 30] M0) pf_M261 (by decide)
    refine rr_cV1 pf_233_12 po_233 pc_9_350 (ws_228 hW) po_232 (by decide) rfl hcM261 ?_
    refine rr_iconst pf_233_15 ?_
    refine rr_iret pf_233_16 pt_233 ⟨_, M261, rfl, rfl, q262, (by unfold rPartV; rw [if_pos (by omega)]), (by unfold rPart; rw [if_pos (by omega)]; exact pS_M261), (rq264)⟩
