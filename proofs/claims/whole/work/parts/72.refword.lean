/-! the reference: what stands on the pile, which word -/
theorem lex_q {sh : List (Nat × Nat)} {A : List Nat} {M M2 : Nat → Nat → Int} {tn : Nat} {tb : Nat → Int} {i : Nat} (q : px_qk sh A M M2) (h : lex M tn tb i) : 228 ∉ A → lex M2 tn tb i := fun ha => by unfold lex; rw [q.2.2 228 ha]; exact h
theorem lp_R_inner_4 {xs : Nat → Int} {L d : Nat} {sh : List (Nat × Nat)}  (hW : px_W0 <+: sh) {M0 : Nat → Nat → Int}  {n : Nat} (h29 : M0 228 29 = ((n : Nat) : Int)) (hn : n ≤ 400)  {Q : Option Value → px_H → Prop} (kx : ∀ (its : Int) (k : Nat) (M : Nat → Nat → Int), px_qk sh [] M0 M → (its = innF (M0 241) n) → (rg its) → px_R xs L d 242 (40, [.ref 228, .int (iI (its)), .int (iI (((k : Nat) : Int)))], [], (sh, M)) Q)  : ∀ (mz : Nat) (its : Int) (k : Nat) (M : Nat → Nat → Int), n - k = mz → px_qk sh [] M0 M → (k ≤ n) → (rg its) → (its = innF (M0 241) k) → px_R xs L d 242 (4, [.ref 228, .int (iI (its)), .int (iI (((k : Nat) : Int)))], [], (sh, M)) Q := by
  intro mz
  induction mz using Nat.strongRecOn with
  | _ mz ih =>
    intro its k M hm hq hk hr hI
    have hgk := rg_at hq.2.1 (ws_241 hW) (j := k) (by rw [px_ty10]; decide)
    refine rr_iload_n pf_242_4 rfl ?_
    refine rr_aload_n pf_242_5 rfl ?_
    refine vr_getI hq pf_242_6 po_242 pg_9_316 rfl (ws_228 hW) (by decide) (fun x1 hx1 rx1 => ?_)
    rw [hq.2.2 228 (by decide)] at hx1
    rw [h29] at hx1
    refine rr_icmp_ge 40 pf_242_9 (by decide) (by unfold rg; omega) rx1 (fun c2 => ?_) (fun c2 => ?_)
    · exact kx its k M hq (by rw [hI, show k = n by omega]) (hr)
    · refine rr_aload_n pf_242_12 rfl ?_
      refine rr_getR pf_242_13 po_242 pg_9_51 rfl (ws_228 hW) (by decide) (wr_228_27 hq.1) ?_
      refine rr_iload_n pf_242_16 rfl ?_
      refine vr_iald (j := k) hq pf_242_17 (ws_241 hW) (by omega) (by omega) (by decide) (fun x3 hx3 rx3 => ?_)
      rw [hq.2.2 241 (by decide)] at hx3
      refine rr_bipush pf_242_18 (by decide) ?_
      refine rr_icmp_lt 32 pf_242_20 (by decide) rx3 (by unfold rg; omega) (fun c4 => ?_) (fun c4 => ?_)
      · refine rr_iload_n pf_242_32 rfl ?_
        refine rr_istore_n pf_242_33 (fun y => [.ref 228, .int (iI (y)), .int (iI (((k : Nat) : Int)))]) (Nat.le_of_ble_eq_true rfl) (fun _ => rfl) (fun y5 hy5 => ?_)
        refine rr_iinc pf_242_34 rfl (fun y => [.ref 228, .int (iI (y5)), .int (iI (y))]) (fun _ => rfl) (fun y6 hy6 => ?_)
        refine rr_goto 4 pf_242_37 (by decide) ?_
        obtain ⟨nz7, hnz7, rfl⟩ : ∃ zz : Nat, zz = 1 + k ∧ y6 = ((zz : Nat) : Int) := ⟨1 + k, rfl, by omega⟩
        exact ih _ (by omega) y5 nz7 M rfl hq (by omega) (by unfold rg at *; omega) (by rw [show nz7 = k + 1 by omega, innF, if_neg (by omega)]; omega)
      · refine rr_aload_n pf_242_23 rfl ?_
        refine rr_getR pf_242_24 po_242 pg_9_51 rfl (ws_228 hW) (by decide) (wr_228_27 hq.1) ?_
        refine rr_iload_n pf_242_27 rfl ?_
        refine vr_iald (j := k) hq pf_242_28 (ws_241 hW) (by omega) (by omega) (by decide) (fun x8 hx8 rx8 => ?_)
        rw [hq.2.2 241 (by decide)] at hx8
        refine rr_goto 33 pf_242_29 (by decide) ?_
        refine rr_istore_n pf_242_33 (fun y => [.ref 228, .int (iI (y)), .int (iI (((k : Nat) : Int)))]) (Nat.le_of_ble_eq_true rfl) (fun _ => rfl) (fun y9 hy9 => ?_)
        have ry9 : rg y9 := hy9 ▸ rx8
        refine rr_iinc pf_242_34 rfl (fun y => [.ref 228, .int (iI (y9)), .int (iI (y))]) (fun _ => rfl) (fun y10 hy10 => ?_)
        refine rr_goto 4 pf_242_37 (by decide) ?_
        obtain ⟨nz11, hnz11, rfl⟩ : ∃ zz : Nat, zz = 1 + k ∧ y10 = ((zz : Nat) : Int) := ⟨1 + k, rfl, by omega⟩
        exact ih _ (by omega) y9 nz11 M rfl hq (by omega) (by unfold rg at *; omega) (by rw [show nz11 = k + 1 by omega, innF, if_pos (by omega)]; omega)
theorem ct_R_inner {xs : Nat → Int} {L d : Nat} {sh : List (Nat × Nat)} {M0 : Nat → Nat → Int} (hd : 1 ≤ d) (hW : px_W0 <+: sh) (hF : px_Fx M0) (hG : px_RG sh M0)  {n : Nat} (h29 : M0 228 29 = ((n : Nat) : Int)) (hn : n ≤ 400) : ∃ v M, (px_qk sh [] M0 M ∧ (v = innF (M0 241) n) ∧ (rg v)) ∧ px_Cl xs L d 242 [.ref 228] (sh, M0) (some (.int (iI v))) (sh, M) := by
  obtain ⟨d, rfl⟩ : ∃ e, d = e + 1 := ⟨d - 1, by omega⟩
  have q0 : px_qk sh [] M0 M0 := ⟨hF, hG, eo_rf⟩
  refine vc_i (Nat.le_of_ble_eq_true rfl) ?_
  show px_R xs L d 242 (0, [.ref 228, px_jk, px_jk], [], (sh, M0)) (fun r h' => ∃ v M', r = some (.int (iI v)) ∧ h' = (sh, M') ∧ px_qk sh [] M0 M' ∧ v = innF (M0 241) n ∧ rg v)
  refine rr_iconst pf_242_0 ?_
  refine rr_istore_n pf_242_1 (fun y => [.ref 228, .int (iI (y)), px_jk]) (Nat.le_of_ble_eq_true rfl) (fun _ => rfl) (fun y1 hy1 => ?_)
  refine rr_iconst pf_242_2 ?_
  refine rr_istore_n pf_242_3 (fun y => [.ref 228, .int (iI (y1)), .int (iI (y))]) (Nat.le_of_ble_eq_true rfl) (fun _ => rfl) (fun y2 hy2 => ?_)
  obtain ⟨nz3, hnz3, rfl⟩ : ∃ zz : Nat, zz = 0 ∧ y2 = ((zz : Nat) : Int) := ⟨0, rfl, by omega⟩
  refine lp_R_inner_4 (xs := xs) (L := L) (d := d)  hW h29 hn (fun its_4 k_5  M6 q7 xI_M6 xr_M6 => ?_) _ y1 nz3 M0 rfl q0 (by omega) (by unfold rg; omega) (by rw [show nz3 = 0 by omega]; exact hy1)
  refine rr_iload_n pf_242_40 rfl ?_
  refine rr_iret pf_242_41 pt_242 ⟨_, M6, rfl, rfl, q7, (xI_M6), (xr_M6)⟩
theorem lp_R_isCompared_7 {xs : Nat → Int} {L d : Nat} {sh : List (Nat × Nat)} (hd : 1 ≤ d) (hW : px_W0 <+: sh) {M0 : Nat → Nat → Int}  {n : Nat} (h29 : M0 228 29 = ((n : Nat) : Int)) (hn : n ≤ 400)  {Q : Option Value → px_H → Prop} (kx : ∀ (k : Int) (M : Nat → Nat → Int), px_qk sh [] M0 M → (-1 ≤ k ∧ k < n) → (cmpF (M0 241) n = if k < 0 then false else decide (25 ≤ M0 241 k.toNat ∧ M0 241 k.toNat ≤ 27)) → px_R xs L d 243 (36, [.ref 228, .int (iI (k))], [], (sh, M)) Q)  : ∀ (mz : Nat) (k : Int) (M : Nat → Nat → Int), (k + 1).toNat = mz → px_qk sh [] M0 M → (-1 ≤ k ∧ k < n) → (cmpF (M0 241) n = cmpF (M0 241) (k + 1).toNat) → px_R xs L d 243 (7, [.ref 228, .int (iI (k))], [], (sh, M)) Q := by
  intro mz
  induction mz using Nat.strongRecOn with
  | _ mz ih =>
    intro k M hm hq hk hc
    refine rr_iload_n pf_243_7 rfl ?_
    refine rr_if_lt 36 pf_243_8 (by decide) (by unfold rg; omega) (fun c1 => ?_) (fun c1 => ?_)
    · exact kx k M hq (hk) (by rw [hc]; rw [show (k + 1).toNat = 0 by omega, if_pos (by omega)]; rfl)
    · refine rr_aload_n pf_243_11 rfl ?_
      refine rr_getR pf_243_12 po_243 pg_9_51 rfl (ws_228 hW) (by decide) (wr_228_27 hq.1) ?_
      refine rr_iload_n pf_243_15 rfl ?_
      refine vr_iald (j := (k).toNat) hq pf_243_16 (ws_241 hW) (by omega) (by omega) (by decide) (fun x2 hx2 rx2 => ?_)
      rw [hq.2.2 241 (by decide)] at hx2
      refine rr_i2l pf_243_17 rx2 ?_
      refine rr_ldc2_w pf_243_18 po_243 pl_9_326 ?_
      refine rr_ldc2_w pf_243_21 po_243 pl_9_328 ?_
      refine rr_cS3 pf_243_24 po_243 pc_9_197 (by decide) rfl (ct_R_in (by omega) (rl_rg rx2) (by unfold rl; omega) (by unfold rl; omega)) ?_
      refine rr_ifb_eq 36 pf_243_27 (by decide) (fun c3 => ?_) (fun c3 => ?_)
      · exact kx k M hq (hk) (by rw [hc]; rw [show (k + 1).toNat = k.toNat + 1 by omega, cmpF, if_neg (by omega), if_neg (by omega)])
      · refine rr_iinc pf_243_30 rfl (fun y => [.ref 228, .int (iI (y))]) (fun _ => rfl) (fun y4 hy4 => ?_)
        refine rr_goto 7 pf_243_33 (by decide) ?_
        exact ih _ (by omega) y4 M rfl hq (by omega) (by rw [hc, show (k + 1).toNat = k.toNat + 1 by omega, cmpF, if_pos (by omega), show (y4 + 1).toNat = k.toNat by omega])
theorem ct_R_isCompared {xs : Nat → Int} {L d : Nat} {sh : List (Nat × Nat)} {M0 : Nat → Nat → Int} (hd : 2 ≤ d) (hW : px_W0 <+: sh) (hF : px_Fx M0) (hG : px_RG sh M0)  {n : Nat} (h29 : M0 228 29 = ((n : Nat) : Int)) (hn : n ≤ 400) : ∃ M, (px_qk sh [] M0 M) ∧ px_Cl xs L d 243 [.ref 228] (sh, M0) (some (.int (iI (bI (cmpF (M0 241) n = true))))) (sh, M) := by
  obtain ⟨d, rfl⟩ : ∃ e, d = e + 1 := ⟨d - 1, by omega⟩
  have q0 : px_qk sh [] M0 M0 := ⟨hF, hG, eo_rf⟩
  refine vc_n (Nat.le_of_ble_eq_true rfl) ?_
  show px_R xs L d 243 (0, [.ref 228, px_jk], [], (sh, M0)) (fun r h' => r = some (.int (iI (bI (cmpF (M0 241) n = true)))) ∧ ∃ M', h' = (sh, M') ∧ px_qk sh [] M0 M')
  refine rr_aload_n pf_243_0 rfl ?_
  refine vr_getI q0 pf_243_1 po_243 pg_9_316 rfl (ws_228 hW) (by decide) (fun x1 hx1 rx1 => ?_)
  rw [h29] at hx1
  refine rr_iconst pf_243_4 ?_
  refine rr_isub pf_243_5 ?_
  refine rr_istore_n pf_243_6 (fun y => [.ref 228, .int (iI (y))]) (Nat.le_of_ble_eq_true rfl) (fun _ => rfl) (fun y2 hy2 => ?_)
  refine lp_R_isCompared_7 (xs := xs) (L := L) (d := d) (by omega) hW h29 hn (fun k_3  M4 q5 xk_M4 xc_M4 => ?_) _ y2 M0 rfl q0 (by omega) (by rw [show (y2 + 1).toNat = n by omega])
  have hxc := xc_M4
  have hxk := xk_M4
  refine rr_iload_n pf_243_36 rfl ?_
  refine rr_if_lt 63 pf_243_37 (by decide) (by unfold rg; omega) (fun c6 => ?_) (fun c6 => ?_)
  · refine rr_iconst pf_243_63 ?_
    refine rr_zret pf_243_64 pt_243 (by first | exact Or.inl rfl | exact Or.inr rfl | omega) ⟨by rw [bI_f (by rw [hxc]; intro z; split at z <;> first | exact absurd z (by decide) | (have := of_decide_eq_true z; omega))], M4, rfl, q5⟩
  · refine rr_aload_n pf_243_40 rfl ?_
    refine rr_getR pf_243_41 po_243 pg_9_51 rfl (ws_228 hW) (by decide) (wr_228_27 q5.1) ?_
    refine rr_iload_n pf_243_44 rfl ?_
    refine vr_iald (j := (k_3).toNat) q5 pf_243_45 (ws_241 hW) (by omega) (by omega) (by decide) (fun x7 hx7 rx7 => ?_)
    rw [q5.2.2 241 (by decide)] at hx7
    refine rr_i2l pf_243_46 rx7 ?_
    refine rr_ldc2_w pf_243_47 po_243 pl_9_330 ?_
    refine rr_ldc2_w pf_243_50 po_243 pl_9_332 ?_
    refine rr_cS3 pf_243_53 po_243 pc_9_197 (by decide) rfl (ct_R_in (by omega) (rl_rg rx7) (by unfold rl; omega) (by unfold rl; omega)) ?_
    refine rr_ifb_eq 63 pf_243_56 (by decide) (fun c8 => ?_) (fun c8 => ?_)
    · refine rr_iconst pf_243_63 ?_
      refine rr_zret pf_243_64 pt_243 (by first | exact Or.inl rfl | exact Or.inr rfl | omega) ⟨by rw [bI_f (by rw [hxc]; intro z; split at z <;> first | exact absurd z (by decide) | (have := of_decide_eq_true z; omega))], M4, rfl, q5⟩
    · refine rr_iconst pf_243_59 ?_
      refine rr_goto 64 pf_243_60 (by decide) ?_
      refine rr_zret pf_243_64 pt_243 (by first | exact Or.inl rfl | exact Or.inr rfl | omega) ⟨by rw [bI_t (by rw [hxc, if_neg (by omega)]; exact decide_eq_true (by omega))], M4, rfl, q5⟩
theorem ct_R_number {xs : Nat → Int} {L d : Nat} {sh : List (Nat × Nat)} {M0 : Nat → Nat → Int} (hd : 4 ≤ d) (hW : px_W0 <+: sh) (hF : px_Fx M0) (hG : px_RG sh M0)  {tn : Nat} (h13 : M0 228 13 = ((tn : Nat) : Int)) (htn : tn ≤ 400) (htb : ∀ j, 0 ≤ M0 237 j ∧ M0 237 j ≤ 255) {i : Nat} (hi : i ≤ tn) (hlx : lex M0 tn (M0 237) i) (h19 : M0 228 19 = 0) {lo hi_ : Int} (hlo : rl lo) (hhi : rl hi_) (hwl : rl (tkW tn (M0 237) i)) : ∃ v M, (px_qk sh [228] M0 M ∧ (v = tkW tn (M0 237) i) ∧ (((tkK tn (M0 237) i = 2 ∧ lo ≤ tkW tn (M0 237) i ∧ tkW tn (M0 237) i ≤ hi_) ∧ M 228 19 = 0 ∧ M 228 18 = M0 228 18 ∧ lex M tn (M0 237) (tkE tn (M0 237) i)) ∨ (¬ (tkK tn (M0 237) i = 2 ∧ lo ≤ tkW tn (M0 237) i ∧ tkW tn (M0 237) i ≤ hi_) ∧ M 228 19 = 1 ∧ M 228 18 = ((tkS tn (M0 237) i : Nat) : Int) ∧ lex M tn (M0 237) i)) ∧ (fz [14, 15, 16, 17, 18, 19] M0 M)) ∧ px_Cl xs L d 238 [.ref 228, .long (lI (lo)), .long (lI (hi_))] (sh, M0) (some (.int (iI v))) (sh, M) := by
  obtain ⟨d, rfl⟩ : ∃ e, d = e + 1 := ⟨d - 1, by omega⟩
  have q0 : px_qk sh [228] M0 M0 := ⟨hF, hG, eo_rf⟩
  have hkb := tkK_b tn (M0 237) i
  refine vc_i (Nat.le_of_ble_eq_true rfl) ?_
  show px_R xs L d 238 (0, [.ref 228, .long (lI (lo)), px_jk, .long (lI (hi_)), px_jk, px_jk], [], (sh, M0)) (fun r h' => ∃ v M', r = some (.int (iI v)) ∧ h' = (sh, M') ∧ px_qk sh [228] M0 M' ∧ v = tkW tn (M0 237) i ∧ (((tkK tn (M0 237) i = 2 ∧ lo ≤ tkW tn (M0 237) i ∧ tkW tn (M0 237) i ≤ hi_) ∧ M' 228 19 = 0 ∧ M' 228 18 = M0 228 18 ∧ lex M' tn (M0 237) (tkE tn (M0 237) i)) ∨ (¬ (tkK tn (M0 237) i = 2 ∧ lo ≤ tkW tn (M0 237) i ∧ tkW tn (M0 237) i ≤ hi_) ∧ M' 228 19 = 1 ∧ M' 228 18 = ((tkS tn (M0 237) i : Nat) : Int) ∧ lex M' tn (M0 237) i)) ∧ fz [14, 15, 16, 17, 18, 19] M0 M')
  refine rr_aload_n pf_238_0 rfl ?_
  refine vr_getL q0 pf_238_1 po_238 pg_9_286 rfl (ws_228 hW) (by decide) (fun x1 hx1 rx1 => ?_)
  rw [hlx.2.2.2] at hx1
  refine rr_l2i pf_238_4 rx1 ?_
  refine rr_istore pf_238_5 (fun y => [.ref 228, .long (lI (lo)), px_jk, .long (lI (hi_)), px_jk, .int (iI (y))]) (Nat.le_of_ble_eq_true rfl) (fun _ => rfl) (fun y2 hy2 => ?_)
  refine rr_aload_n pf_238_7 rfl ?_
  refine rr_aload_n pf_238_8 rfl ?_
  refine vr_getI q0 pf_238_9 po_238 pg_9_296 rfl (ws_228 hW) (by decide) (fun x3 hx3 rx3 => ?_)
  rw [hlx.2.2.1] at hx3
  refine rr_iconst pf_238_12 ?_
  refine rr_icmp_ne 32 pf_238_13 (by decide) rx3 (by unfold rg; omega) (fun c4 => ?_) (fun c4 => ?_)
  · refine rr_iconst pf_238_32 ?_
    obtain ⟨M5, ⟨kq6, p19_M5, p18_M5, pl_M5, pf_M5⟩, hcM5⟩ := ct_R_must0 (xs := xs) (L := L) (d := d) (u := 0) (tn := tn) (i := i) (by omega) hW q0.1 q0.2.1 h13 htn htb hi hlx h19 (by omega)
    have q6 := qk_trm q0 kq6 (by decide)
    have rq8 := fz_tr (fz_rf [14, 15, 16, 17, 18, 19] M0) pf_M5 (by decide)
    refine rr_cV1 pf_238_33 po_238 pc_9_309 (ws_228 hW) po_227 (by decide) rfl hcM5 ?_
    refine rr_iload pf_238_36 rfl ?_
    refine rr_iret pf_238_38 pt_238 ⟨_, M5, rfl, rfl, q6, (by omega), (by
              right; refine ⟨by omega, ?_, ?_, ?_⟩
              · rw [p19_M5, if_neg (by decide)]
              · rw [p18_M5, if_neg (by decide)]
              · have z := pl_M5; rw [if_neg (by decide)] at z; exact z), (rq8)⟩
  · refine rr_aload_n pf_238_16 rfl ?_
    refine vr_getL q0 pf_238_17 po_238 pg_9_286 rfl (ws_228 hW) (by decide) (fun x9 hx9 rx9 => ?_)
    rw [hlx.2.2.2] at hx9
    refine rr_lload_n pf_238_20 rfl ?_
    refine rr_lload_n pf_238_21 rfl ?_
    refine rr_cS3 pf_238_22 po_238 pc_9_197 (by decide) rfl (ct_R_in (by omega) rx9 hlo hhi) ?_
    refine rr_ifb_eq 32 pf_238_25 (by decide) (fun c10 => ?_) (fun c10 => ?_)
    · refine rr_iconst pf_238_32 ?_
      obtain ⟨M11, ⟨kq12, p19_M11, p18_M11, pl_M11, pf_M11⟩, hcM11⟩ := ct_R_must0 (xs := xs) (L := L) (d := d) (u := 0) (tn := tn) (i := i) (by omega) hW q0.1 q0.2.1 h13 htn htb hi hlx h19 (by omega)
      have q12 := qk_trm q0 kq12 (by decide)
      have rq14 := fz_tr (fz_rf [14, 15, 16, 17, 18, 19] M0) pf_M11 (by decide)
      refine rr_cV1 pf_238_33 po_238 pc_9_309 (ws_228 hW) po_227 (by decide) rfl hcM11 ?_
      refine rr_iload pf_238_36 rfl ?_
      refine rr_iret pf_238_38 pt_238 ⟨_, M11, rfl, rfl, q12, (by omega), (by
                  right; refine ⟨by omega, ?_, ?_, ?_⟩
                  · rw [p19_M11, if_neg (by decide)]
                  · rw [p18_M11, if_neg (by decide)]
                  · have z := pl_M11; rw [if_neg (by decide)] at z; exact z), (rq14)⟩
    · refine rr_iconst pf_238_28 ?_
      refine rr_goto 33 pf_238_29 (by decide) ?_
      obtain ⟨M15, ⟨kq16, p19_M15, p18_M15, pl_M15, pf_M15⟩, hcM15⟩ := ct_R_must0 (xs := xs) (L := L) (d := d) (u := 1) (tn := tn) (i := i) (by omega) hW q0.1 q0.2.1 h13 htn htb hi hlx h19 (by omega)
      have q16 := qk_trm q0 kq16 (by decide)
      have rq18 := fz_tr (fz_rf [14, 15, 16, 17, 18, 19] M0) pf_M15 (by decide)
      refine rr_cV1 pf_238_33 po_238 pc_9_309 (ws_228 hW) po_227 (by decide) rfl hcM15 ?_
      refine rr_iload pf_238_36 rfl ?_
      refine rr_iret pf_238_38 pt_238 ⟨_, M15, rfl, rfl, q16, (by omega), (by
                  left; refine ⟨by omega, ?_, ?_, ?_⟩
                  · rw [p19_M15, if_pos rfl]
                  · rw [p18_M15, if_pos rfl]
                  · have z := pl_M15; rw [if_pos rfl] at z; exact z), (rq18)⟩
theorem ct_R_begin {xs : Nat → Int} {L d : Nat} {sh : List (Nat × Nat)} {M0 : Nat → Nat → Int} (hd : 3 ≤ d) (hW : px_W0 <+: sh) (hF : px_Fx M0) (hG : px_RG sh M0)  {tn : Nat} (h13 : M0 228 13 = ((tn : Nat) : Int)) (htn : tn ≤ 400) (htb : ∀ j, 0 ≤ M0 237 j ∧ M0 237 j ≤ 255) : ∃ M, (px_qk sh [228] M0 M ∧ (lex M tn (M0 237) 0) ∧ (M 228 19 = 0) ∧ (M 228 18 = -1) ∧ (fz [14, 15, 16, 17, 18, 19] M0 M)) ∧ px_Cl xs L d 221 [.ref 228] (sh, M0) (none) (sh, M) := by
  obtain ⟨d, rfl⟩ : ∃ e, d = e + 1 := ⟨d - 1, by omega⟩
  have q0 : px_qk sh [228] M0 M0 := ⟨hF, hG, eo_rf⟩
  refine vc_n (Nat.le_of_ble_eq_true rfl) ?_
  show px_R xs L d 221 (0, [.ref 228], [], (sh, M0)) (fun r h' => r = none ∧ ∃ M', h' = (sh, M') ∧ px_qk sh [228] M0 M' ∧ lex M' tn (M0 237) 0 ∧ M' 228 19 = 0 ∧ M' 228 18 = -1 ∧ fz [14, 15, 16, 17, 18, 19] M0 M')
  refine rr_aload_n pf_221_0 rfl ?_
  refine rr_iconst pf_221_1 ?_
  refine vr_putI hW q0 pf_221_2 po_221 pg_9_273 (Or.inl rfl) rfl (ws_228 hW) (by decide) (by unfold rg; omega) (by decide) (fun M1 eM1 q2 => ?_)
  have rq3 := fz_up (fz_rf [14, 15, 16, 17, 18, 19] M0) eM1 (by decide)
  refine rr_aload_n pf_221_5 rfl ?_
  refine rr_iconst pf_221_6 ?_
  refine vr_putZ hW q2 pf_221_7 po_221 pg_9_276 (Or.inl rfl) rfl (ws_228 hW) (by decide) (by omega) (by decide) (fun M4 eM4 q5 => ?_)
  have rq6 := fz_up rq3 eM4 (by decide)
  refine rr_aload_n pf_221_10 rfl ?_
  refine rr_iconst pf_221_11 ?_
  refine vr_putI hW q5 pf_221_12 po_221 pg_9_38 (Or.inl rfl) rfl (ws_228 hW) (by decide) (by unfold rg; omega) (by decide) (fun M7 eM7 q8 => ?_)
  have rq9 := fz_up rq6 eM7 (by decide)
  refine rr_aload_n pf_221_15 rfl ?_
  obtain ⟨M10, ⟨kq11, p14_M10, p15_M10, p16_M10, p17_M10, pf_M10⟩, hcM10⟩ := ct_R_next (xs := xs) (L := L) (d := d) (tn := tn) (i := 0) (by omega) hW q8.1 q8.2.1 (by rw [rq9 13 (by decide)]; exact h13) htn (by rw [q8.2.2 237 (by decide)]; exact htb) (by rw [eM7, up_ne (by decide), eM4, up_ne (by decide), eM1, up_s]; rfl) (by omega)
  have q11 := qk_trm q8 kq11 (by decide)
  have rq13 := fz_tr rq9 pf_M10 (by decide)
  refine rr_cV0 pf_221_16 po_221 pc_9_280 (ws_228 hW) po_222 (by decide) rfl hcM10 ?_
  rw [(q8.2.2 237 (by decide))] at p14_M10 p15_M10 p16_M10 p17_M10
  refine rr_vret pf_221_19 pt_221 ⟨rfl, M10, rfl, q11, (⟨p14_M10, p15_M10, p16_M10, p17_M10⟩), (by rw [pf_M10 19 (by decide), eM7, up_ne (by decide), eM4, up_s]), (by rw [pf_M10 18 (by decide), eM7, up_s]), (rq13)⟩
theorem lp_R_partAt_4 {xs : Nat → Int} {L d : Nat} {sh : List (Nat × Nat)} (hd : 1 ≤ d) (hW : px_W0 <+: sh) {M0 : Nat → Nat → Int}  {tn : Nat} {tb : Nat → Int} {i : Nat} (hlx : lex M0 tn tb i) {f : Nat → Int} (hf : ∀ k, k < 12 → M0 243 k = f k ∧ 0 ≤ f k ∧ f k ≤ 1125899906842624)  {Q : Option Value → px_H → Prop} (kx : ∀ (its : Int) (k : Nat) (M : Nat → Nat → Int), px_qk sh [] M0 M → (its = pAt f (tkK tn tb i) (tkW tn tb i) 12) → px_R xs L d 235 (37, [.ref 228, .int (iI (its)), .int (iI (((k : Nat) : Int)))], [], (sh, M)) Q)  : ∀ (mz : Nat) (its : Int) (k : Nat) (M : Nat → Nat → Int), 12 - k = mz → px_qk sh [] M0 M → (k ≤ 12) → (its = pAt f (tkK tn tb i) (tkW tn tb i) k) → px_R xs L d 235 (4, [.ref 228, .int (iI (its)), .int (iI (((k : Nat) : Int)))], [], (sh, M)) Q := by
  intro mz
  induction mz using Nat.strongRecOn with
  | _ mz ih =>
    intro its k M hm hq hk hI
    have hpb := pAt_b f (tkK tn tb i) (tkW tn tb i) k
    refine rr_iload_n pf_235_4 rfl ?_
    refine rr_bipush pf_235_5 (by decide) ?_
    refine rr_icmp_ge 37 pf_235_7 (by decide) (by unfold rg; omega) (by unfold rg; omega) (fun c1 => ?_) (fun c1 => ?_)
    · exact kx its k M hq (by rw [hI, show k = 12 by omega])
    · refine rr_aload_n pf_235_10 rfl ?_
      refine rr_aload_n pf_235_11 rfl ?_
      refine rr_getR pf_235_12 po_235 pg_9_81 rfl (ws_228 hW) (by decide) (wr_228_31 hq.1) ?_
      refine rr_iload_n pf_235_15 rfl ?_
      refine vr_lald (j := k) hq pf_235_16 (ws_243 hW) (by omega) (by omega) (by decide) (fun x2 hx2 rx2 => ?_)
      rw [hq.2.2 243 (by decide)] at hx2
      rw [(hf k (by omega)).1] at hx2
      have hfb := (hf k (by omega)).2
      obtain ⟨M3, kq4, hcM3⟩ := ct_R_isWord (xs := xs) (L := L) (d := d) (u := x2) (tn := tn) (tb := tb) (i := i) (by omega) hW hq.1 hq.2.1 (lex_q hq hlx (by decide)) (by unfold rl; omega)
      obtain rfl := qk_nil kq4
      refine rr_cV1 pf_235_17 po_235 pc_9_334 (ws_228 hW) po_226 (by decide) rfl hcM3 ?_
      refine rr_ifb_eq 29 pf_235_20 (by decide) (fun c6 => ?_) (fun c6 => ?_)
      · have hcw := c6
        refine rr_iload_n pf_235_29 rfl ?_
        refine rr_istore_n pf_235_30 (fun y => [.ref 228, .int (iI (y)), .int (iI (((k : Nat) : Int)))]) (Nat.le_of_ble_eq_true rfl) (fun _ => rfl) (fun y7 hy7 => ?_)
        refine rr_iinc pf_235_31 rfl (fun y => [.ref 228, .int (iI (y7)), .int (iI (y))]) (fun _ => rfl) (fun y8 hy8 => ?_)
        refine rr_goto 4 pf_235_34 (by decide) ?_
        obtain ⟨nz9, hnz9, rfl⟩ : ∃ zz : Nat, zz = 1 + k ∧ y8 = ((zz : Nat) : Int) := ⟨1 + k, rfl, by omega⟩
        exact ih _ (by omega) y7 nz9 M rfl hq (by omega) (by rw [show nz9 = k + 1 by omega, pAt, if_neg (by omega)]; omega)
      · have hcw := c6
        refine rr_iload_n pf_235_23 rfl ?_
        refine rr_iconst pf_235_24 ?_
        refine rr_iadd pf_235_25 ?_
        refine rr_goto 30 pf_235_26 (by decide) ?_
        refine rr_istore_n pf_235_30 (fun y => [.ref 228, .int (iI (y)), .int (iI (((k : Nat) : Int)))]) (Nat.le_of_ble_eq_true rfl) (fun _ => rfl) (fun y10 hy10 => ?_)
        refine rr_iinc pf_235_31 rfl (fun y => [.ref 228, .int (iI (y10)), .int (iI (y))]) (fun _ => rfl) (fun y11 hy11 => ?_)
        refine rr_goto 4 pf_235_34 (by decide) ?_
        obtain ⟨nz12, hnz12, rfl⟩ : ∃ zz : Nat, zz = 1 + k ∧ y11 = ((zz : Nat) : Int) := ⟨1 + k, rfl, by omega⟩
        exact ih _ (by omega) y10 nz12 M rfl hq (by omega) (by rw [show nz12 = k + 1 by omega, pAt, if_pos (by omega)]; omega)
theorem ct_R_partAt {xs : Nat → Int} {L d : Nat} {sh : List (Nat × Nat)} {M0 : Nat → Nat → Int} (hd : 2 ≤ d) (hW : px_W0 <+: sh) (hF : px_Fx M0) (hG : px_RG sh M0)  {tn : Nat} {tb : Nat → Int} {i : Nat} (hlx : lex M0 tn tb i) {f : Nat → Int} (hf : ∀ k, k < 12 → M0 243 k = f k ∧ 0 ≤ f k ∧ f k ≤ 1125899906842624) : ∃ v M, (px_qk sh [] M0 M ∧ (v = pAt f (tkK tn tb i) (tkW tn tb i) 12)) ∧ px_Cl xs L d 235 [.ref 228] (sh, M0) (some (.int (iI v))) (sh, M) := by
  obtain ⟨d, rfl⟩ : ∃ e, d = e + 1 := ⟨d - 1, by omega⟩
  have q0 : px_qk sh [] M0 M0 := ⟨hF, hG, eo_rf⟩
  refine vc_i (Nat.le_of_ble_eq_true rfl) ?_
  show px_R xs L d 235 (0, [.ref 228, px_jk, px_jk], [], (sh, M0)) (fun r h' => ∃ v M', r = some (.int (iI v)) ∧ h' = (sh, M') ∧ px_qk sh [] M0 M' ∧ v = pAt f (tkK tn tb i) (tkW tn tb i) 12)
  refine rr_iconst pf_235_0 ?_
  refine rr_istore_n pf_235_1 (fun y => [.ref 228, .int (iI (y)), px_jk]) (Nat.le_of_ble_eq_true rfl) (fun _ => rfl) (fun y1 hy1 => ?_)
  refine rr_iconst pf_235_2 ?_
  refine rr_istore_n pf_235_3 (fun y => [.ref 228, .int (iI (y1)), .int (iI (y))]) (Nat.le_of_ble_eq_true rfl) (fun _ => rfl) (fun y2 hy2 => ?_)
  obtain ⟨nz3, hnz3, rfl⟩ : ∃ zz : Nat, zz = 0 ∧ y2 = ((zz : Nat) : Int) := ⟨0, rfl, by omega⟩
  refine lp_R_partAt_4 (xs := xs) (L := L) (d := d) (by omega) hW hlx hf (fun its_4 k_5  M6 q7 xI_M6 => ?_) _ y1 nz3 M0 rfl q0 (by omega) (by rw [show nz3 = 0 by omega]; exact hy1)
  refine rr_iload_n pf_235_37 rfl ?_
  refine rr_iret pf_235_38 pt_235 ⟨_, M6, rfl, rfl, q7, (xI_M6)⟩
theorem lp_R_orderPartAt_4 {xs : Nat → Int} {L d : Nat} {sh : List (Nat × Nat)} (hd : 1 ≤ d) (hW : px_W0 <+: sh) {M0 : Nat → Nat → Int}  {tn : Nat} {tb : Nat → Int} {i : Nat} (hlx : lex M0 tn tb i) {f : Nat → Int} (hf : ∀ k, k < 9 → M0 244 k = f k ∧ 0 ≤ f k ∧ f k ≤ 1125899906842624)  {Q : Option Value → px_H → Prop} (kx : ∀ (its : Int) (k : Nat) (M : Nat → Nat → Int), px_qk sh [] M0 M → (its = pAt f (tkK tn tb i) (tkW tn tb i) 9) → px_R xs L d 234 (37, [.ref 228, .int (iI (its)), .int (iI (((k : Nat) : Int)))], [], (sh, M)) Q)  : ∀ (mz : Nat) (its : Int) (k : Nat) (M : Nat → Nat → Int), 9 - k = mz → px_qk sh [] M0 M → (k ≤ 9) → (its = pAt f (tkK tn tb i) (tkW tn tb i) k) → px_R xs L d 234 (4, [.ref 228, .int (iI (its)), .int (iI (((k : Nat) : Int)))], [], (sh, M)) Q := by
  intro mz
  induction mz using Nat.strongRecOn with
  | _ mz ih =>
    intro its k M hm hq hk hI
    have hpb := pAt_b f (tkK tn tb i) (tkW tn tb i) k
    refine rr_iload_n pf_234_4 rfl ?_
    refine rr_bipush pf_234_5 (by decide) ?_
    refine rr_icmp_ge 37 pf_234_7 (by decide) (by unfold rg; omega) (by unfold rg; omega) (fun c1 => ?_) (fun c1 => ?_)
    · exact kx its k M hq (by rw [hI, show k = 9 by omega])
    · refine rr_aload_n pf_234_10 rfl ?_
      refine rr_aload_n pf_234_11 rfl ?_
      refine rr_getR pf_234_12 po_234 pg_9_93 rfl (ws_228 hW) (by decide) (wr_228_32 hq.1) ?_
      refine rr_iload_n pf_234_15 rfl ?_
      refine vr_lald (j := k) hq pf_234_16 (ws_244 hW) (by omega) (by omega) (by decide) (fun x2 hx2 rx2 => ?_)
      rw [hq.2.2 244 (by decide)] at hx2
      rw [(hf k (by omega)).1] at hx2
      have hfb := (hf k (by omega)).2
      obtain ⟨M3, kq4, hcM3⟩ := ct_R_isWord (xs := xs) (L := L) (d := d) (u := x2) (tn := tn) (tb := tb) (i := i) (by omega) hW hq.1 hq.2.1 (lex_q hq hlx (by decide)) (by unfold rl; omega)
      obtain rfl := qk_nil kq4
      refine rr_cV1 pf_234_17 po_234 pc_9_334 (ws_228 hW) po_226 (by decide) rfl hcM3 ?_
      refine rr_ifb_eq 29 pf_234_20 (by decide) (fun c6 => ?_) (fun c6 => ?_)
      · have hcw := c6
        refine rr_iload_n pf_234_29 rfl ?_
        refine rr_istore_n pf_234_30 (fun y => [.ref 228, .int (iI (y)), .int (iI (((k : Nat) : Int)))]) (Nat.le_of_ble_eq_true rfl) (fun _ => rfl) (fun y7 hy7 => ?_)
        refine rr_iinc pf_234_31 rfl (fun y => [.ref 228, .int (iI (y7)), .int (iI (y))]) (fun _ => rfl) (fun y8 hy8 => ?_)
        refine rr_goto 4 pf_234_34 (by decide) ?_
        obtain ⟨nz9, hnz9, rfl⟩ : ∃ zz : Nat, zz = 1 + k ∧ y8 = ((zz : Nat) : Int) := ⟨1 + k, rfl, by omega⟩
        exact ih _ (by omega) y7 nz9 M rfl hq (by omega) (by rw [show nz9 = k + 1 by omega, pAt, if_neg (by omega)]; omega)
      · have hcw := c6
        refine rr_iload_n pf_234_23 rfl ?_
        refine rr_iconst pf_234_24 ?_
        refine rr_iadd pf_234_25 ?_
        refine rr_goto 30 pf_234_26 (by decide) ?_
        refine rr_istore_n pf_234_30 (fun y => [.ref 228, .int (iI (y)), .int (iI (((k : Nat) : Int)))]) (Nat.le_of_ble_eq_true rfl) (fun _ => rfl) (fun y10 hy10 => ?_)
        refine rr_iinc pf_234_31 rfl (fun y => [.ref 228, .int (iI (y10)), .int (iI (y))]) (fun _ => rfl) (fun y11 hy11 => ?_)
        refine rr_goto 4 pf_234_34 (by decide) ?_
        obtain ⟨nz12, hnz12, rfl⟩ : ∃ zz : Nat, zz = 1 + k ∧ y11 = ((zz : Nat) : Int) := ⟨1 + k, rfl, by omega⟩
        exact ih _ (by omega) y10 nz12 M rfl hq (by omega) (by rw [show nz12 = k + 1 by omega, pAt, if_pos (by omega)]; omega)
theorem ct_R_orderPartAt {xs : Nat → Int} {L d : Nat} {sh : List (Nat × Nat)} {M0 : Nat → Nat → Int} (hd : 2 ≤ d) (hW : px_W0 <+: sh) (hF : px_Fx M0) (hG : px_RG sh M0)  {tn : Nat} {tb : Nat → Int} {i : Nat} (hlx : lex M0 tn tb i) {f : Nat → Int} (hf : ∀ k, k < 9 → M0 244 k = f k ∧ 0 ≤ f k ∧ f k ≤ 1125899906842624) : ∃ v M, (px_qk sh [] M0 M ∧ (v = pAt f (tkK tn tb i) (tkW tn tb i) 9)) ∧ px_Cl xs L d 234 [.ref 228] (sh, M0) (some (.int (iI v))) (sh, M) := by
  obtain ⟨d, rfl⟩ : ∃ e, d = e + 1 := ⟨d - 1, by omega⟩
  have q0 : px_qk sh [] M0 M0 := ⟨hF, hG, eo_rf⟩
  refine vc_i (Nat.le_of_ble_eq_true rfl) ?_
  show px_R xs L d 234 (0, [.ref 228, px_jk, px_jk], [], (sh, M0)) (fun r h' => ∃ v M', r = some (.int (iI v)) ∧ h' = (sh, M') ∧ px_qk sh [] M0 M' ∧ v = pAt f (tkK tn tb i) (tkW tn tb i) 9)
  refine rr_iconst pf_234_0 ?_
  refine rr_istore_n pf_234_1 (fun y => [.ref 228, .int (iI (y)), px_jk]) (Nat.le_of_ble_eq_true rfl) (fun _ => rfl) (fun y1 hy1 => ?_)
  refine rr_iconst pf_234_2 ?_
  refine rr_istore_n pf_234_3 (fun y => [.ref 228, .int (iI (y1)), .int (iI (y))]) (Nat.le_of_ble_eq_true rfl) (fun _ => rfl) (fun y2 hy2 => ?_)
  obtain ⟨nz3, hnz3, rfl⟩ : ∃ zz : Nat, zz = 0 ∧ y2 = ((zz : Nat) : Int) := ⟨0, rfl, by omega⟩
  refine lp_R_orderPartAt_4 (xs := xs) (L := L) (d := d) (by omega) hW hlx hf (fun its_4 k_5  M6 q7 xI_M6 => ?_) _ y1 nz3 M0 rfl q0 (by omega) (by rw [show nz3 = 0 by omega]; exact hy1)
  refine rr_iload_n pf_234_37 rfl ?_
  refine rr_iret pf_234_38 pt_234 ⟨_, M6, rfl, rfl, q7, (xI_M6)⟩
