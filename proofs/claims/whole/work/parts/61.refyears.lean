/-! the reference: years -/
theorem ct_R_draw {xs : Nat → Int} {L d : Nat} {sh : List (Nat × Nat)} {M0 : Nat → Nat → Int} (hd : 1 ≤ d) (hW : px_W0 <+: sh) (hF : px_Fx M0) (hG : px_RG sh M0)  {st : Int} (hst : M0 228 59 = st) (hsb : 0 ≤ st ∧ st ≤ 1000003) {n : Int} (hn : 1 ≤ n ∧ n ≤ 16) : ∃ v M, (px_qk sh [228] M0 M ∧ (v = nx st % n) ∧ (M 228 59 = nx st) ∧ (rz [] M0 M) ∧ (∀ j, j ≠ 59 → M 228 j = M0 228 j)) ∧ px_Cl xs L d 301 [.ref 228, .int (iI (n))] (sh, M0) (some (.int (iI v))) (sh, M) := by
  obtain ⟨d, rfl⟩ : ∃ e, d = e + 1 := ⟨d - 1, by omega⟩
  have q0 : px_qk sh [228] M0 M0 := ⟨hF, hG, eo_rf⟩
  refine vc_i (Nat.le_of_ble_eq_true rfl) ?_
  show px_R xs L d 301 (0, [.ref 228, .int (iI (n))], [], (sh, M0)) (fun r h' => ∃ v M', r = some (.int (iI v)) ∧ h' = (sh, M') ∧ px_qk sh [228] M0 M' ∧ v = nx st % n ∧ M' 228 59 = nx st ∧ rz [] M0 M' ∧ (∀ j, j ≠ 59 → M' 228 j = M0 228 j))
  refine rr_aload_n pf_301_0 rfl ?_
  refine rr_aload_n pf_301_1 rfl ?_
  refine vr_getL q0 pf_301_2 po_301 pg_9_594 rfl (ws_228 hW) (by decide) (fun x1 hx1 rx1 => ?_)
  rw [hst] at hx1
  refine rr_ldc2_w pf_301_5 po_301 pl_9_597 ?_
  refine rr_lmul pf_301_8 ?_
  refine rr_ldc2_w pf_301_9 po_301 pl_9_599 ?_
  refine rr_ladd pf_301_12 ?_
  refine rr_ldc2_w pf_301_13 po_301 pl_9_601 ?_
  refine rr_lremP pf_301_16 (by unfold rl; omega) (by unfold rl; omega) (by omega) (by omega) ?_
  refine vr_putL hW q0 pf_301_17 po_301 pg_9_594 (Or.inl rfl) rfl (ws_228 hW) (by decide) (by unfold rl; omega) (by decide) (fun M2 eM2 q3 => ?_)
  have rq4 := rz_up (rz_rf [] M0) eM2 (by decide)
  refine rr_aload_n pf_301_20 rfl ?_
  refine vr_getL q3 pf_301_21 po_301 pg_9_594 rfl (ws_228 hW) (by decide) (fun x5 hx5 rx5 => ?_)
  rw [eM2, up_s] at hx5
  have hnb := nx_b st
  have hnx : x5 = nx st := by rw [hx5]; subst_vars; rfl
  refine rr_iload_n pf_301_24 rfl ?_
  refine rr_i2l pf_301_25 (by unfold rg; omega) ?_
  refine rr_lremP pf_301_26 rx5 (by unfold rl; omega) (by omega) (by omega) ?_
  have hm1 := Int.emod_nonneg x5 (show n ≠ 0 by omega)
  have hm2 := Int.emod_lt_of_pos x5 (show 0 < n by omega)
  refine rr_l2i pf_301_27 (by unfold rl; omega) ?_
  refine rr_iret pf_301_28 pt_301 ⟨_, M2, rfl, rfl, q3, (by subst_vars; rfl), (by rw [eM2, up_s]; subst_vars; rfl), (rq4), (by intro j hj; rw [eM2, up_ne hj])⟩
theorem pre_em {lw : List sp_C} {ρ : Nat → Int} (h : sp_ok ρ) {w : Nat} (hw : (w : Int) < ρ 0) : (sp_barb lw ρ w = true → sp_preW lw ρ ((w : Nat) : Int) = ρ ∧ sp_preV lw ρ ((w : Nat) : Int) < 0) ∧ (¬ sp_barb lw ρ w = true → sp_preW lw ρ ((w : Nat) : Int) = sp_preR lw ρ w 16 ∧ 0 ≤ sp_preV lw ρ ((w : Nat) : Int)) := by
  have h0 := h.1
  constructor
  · intro hb
    have hv : sp_preV lw ρ ((w : Nat) : Int) = -3 := by unfold sp_preV; rw [if_pos (by omega), Int.toNat_natCast, if_pos hb]
    exact ⟨by unfold sp_preW; rw [hv, if_neg (by omega)], by omega⟩
  · intro hb
    have hA := sp_preA_b (lw := lw) h (w := w) (by omega) 16 (by omega)
    have hv : sp_preV lw ρ ((w : Nat) : Int) = sp_preA lw ρ w 16 := by unfold sp_preV; rw [if_pos (by omega), Int.toNat_natCast, if_neg hb]
    exact ⟨by unfold sp_preW; rw [hv, if_pos (by omega), Int.toNat_natCast], by omega⟩
theorem lvR_fix {lw : List sp_C} {ρ : Nat → Int} {s : Int} (h : sp_ok ρ) {j : Nat} (hj : j < 5 ∨ 69 ≤ j) : sp_lvR lw ρ s j = ρ j := by
  have a := h.2.1
  unfold sp_lvR
  rw [pasW_n (by rw [lvA_n (by omega)]; omega) (by omega)]
  exact lvA_n (by omega)
theorem lvA_5 {lw : List sp_C} {ρ : Nat → Int} {s : Int} : sp_lvA lw ρ s 5 = ρ 5 := lvA_n (by omega)
theorem lvR_ok5 {lw : List sp_C} {ρ : Nat → Int} {s : Int} (h5 : ρ 5 < 999) : sp_lvR lw ρ s 5 ≤ 999 := by
  unfold sp_lvR sp_pasW
  rw [lvA_5, if_pos h5]
  unfold sp_pasR
  rw [rup_s, lvA_5]
  omega
theorem lp_R_years1_175 {xs : Nat → Int} {L d : Nat} {sh : List (Nat × Nat)} (hd : 13 ≤ d) (hW : px_W0 <+: sh) {M0 : Nat → Nat → Int}   {s n v : Int} {Q : Option Value → px_H → Prop} (kx : ∀ (i : Nat) (v5 : Value) (v6 : Value) (v7 : Value) (M : Nat → Nat → Int), px_qk sh [263] M0 M → (∀ j, j < 64 → M 263 j = M0 230 (5 + j)) → px_R xs L d 300 (204, [.ref 228, .int (iI (s)), .int (iI (n)), .int (iI (v)), .int (iI (((i : Nat) : Int))), v5, v6, v7], [], (sh, M)) Q)  : ∀ (mz : Nat) (i : Nat) (v5 : Value) (v6 : Value) (v7 : Value) (M : Nat → Nat → Int), 64 - i = mz → px_qk sh [263] M0 M → (i ≤ 64) → (∀ j, j < i → M 263 j = M0 230 (5 + j)) → px_R xs L d 300 (175, [.ref 228, .int (iI (s)), .int (iI (n)), .int (iI (v)), .int (iI (((i : Nat) : Int))), v5, v6, v7], [], (sh, M)) Q := by
  intro mz
  induction mz using Nat.strongRecOn with
  | _ mz ih =>
    intro i v5 v6 v7 M hm hq hi hv
    refine rr_iload pf_300_175 rfl ?_
    refine rr_bipush pf_300_177 (by decide) ?_
    refine rr_icmp_ge 204 pf_300_179 (by decide) (by unfold rg; omega) (by unfold rg; omega) (fun c1 => ?_) (fun c1 => ?_)
    · exact kx i _ _ _ M hq (by intro j hj; exact hv j (by omega))
    · refine rr_aload_n pf_300_182 rfl ?_
      refine rr_getR pf_300_183 po_300 pg_9_171 rfl (ws_228 hW) (by decide) (wr_228_60 hq.1) ?_
      refine rr_iload pf_300_186 rfl ?_
      refine rr_aload_n pf_300_188 rfl ?_
      refine rr_getR pf_300_189 po_300 pg_9_13 rfl (ws_228 hW) (by decide) (wr_228_3 hq.1) ?_
      refine rr_iconst pf_300_192 ?_
      refine rr_iload pf_300_193 rfl ?_
      refine rr_iadd pf_300_195 ?_
      refine vr_iald (j := 5 + i) hq pf_300_196 (ws_230 hW) (by omega) (by omega) (by decide) (fun x2 hx2 rx2 => ?_)
      rw [hq.2.2 230 (by decide)] at hx2
      have hx9 := hx2
      refine vr_iast (j := i) hW hq pf_300_197 (ws_263 hW) (by omega) (by omega) (by decide) rx2 (by decide) (fun M3 eM3 q4 => ?_)
      refine rr_iinc pf_300_198 rfl (fun y => [.ref 228, .int (iI (s)), .int (iI (n)), .int (iI (v)), .int (iI (y)), v5, v6, v7]) (fun _ => rfl) (fun y5 hy5 => ?_)
      refine rr_goto 175 pf_300_201 (by decide) ?_
      obtain ⟨n6, hn6, rfl⟩ : ∃ zz : Nat, zz = 1 + i ∧ y5 = ((zz : Nat) : Int) := ⟨1 + i, rfl, by omega⟩
      exact ih _ (by omega) n6 _ _ _ M3 rfl q4 (by omega) (by
                  intro j hj; rw [eM3, ask_up]; by_cases hc : j = i
                  · rw [if_pos hc, hc, hx9]
                  · rw [if_neg hc]; exact hv j (by omega))
theorem lp_R_years1_68 {xs : Nat → Int} {L d : Nat} {sh : List (Nat × Nat)} (hd : 13 ≤ d) (hW : px_W0 <+: sh) {M0 : Nat → Nat → Int}  (hρ : sp_ok (rr_ M0)) {lw : List sp_C} (hlw : px_lwR M0 lw) (hord : M0 228 20 = 0) (h0w : 0 < rr_ M0 0) {s n : Int} (hn0 : 1 ≤ n ∧ n ≤ 60) {Mk : Nat → Nat → Int} {Q : Option Value → px_H → Prop} (kx : ∀ (rc_ : Nat → Int) (st : Int) (v : Int) (k : Nat) (v5 : Value) (v6 : Value) (v7 : Value) (M : Nat → Nat → Int), px_qk sh [228, 229, 230, 233, 246, 248, 249, 250, 263] M0 M → (rz [1, 61] M0 M) → ((rr_ M, v) = sp_live lw n.toNat s (rr_ M0) 0) → (rr_ M = rc_) → (∀ j, (j < 5 ∨ 69 ≤ j) → rc_ j = rr_ M0 j) → (r9 M0 M) → (0 ≤ v ∧ v ≤ 60) → (M 233 = Mk 233) → (M 229 = M0 229) → px_R xs L d 300 (172, [.ref 228, .int (iI (s)), .int (iI (n)), .int (iI (v)), .int (iI (((k : Nat) : Int))), v5, v6, v7], [], (sh, M)) Q)  : ∀ (mz : Nat) (rc_ : Nat → Int) (st : Int) (v : Int) (k : Nat) (v5 : Value) (v6 : Value) (v7 : Value) (M : Nat → Nat → Int), n.toNat - k = mz → px_qk sh [228, 229, 230, 233, 246, 248, 249, 250, 263] M0 M → (rz [1, 61] M0 M) → ((k : Int) ≤ n) → (rr_ M = rc_) → (sp_ok rc_) → (∀ j, (j < 5 ∨ 69 ≤ j) → rc_ j = rr_ M0 j) → (rc_ 5 ≤ 999) → (r9 M0 M) → (M 228 59 = st ∧ 0 ≤ st ∧ st ≤ 1000003) → (0 ≤ v ∧ v ≤ k) → (sp_live lw (n.toNat - k) st rc_ v = sp_live lw n.toNat s (rr_ M0) 0) → (M 233 = Mk 233) → (M 229 = M0 229) → px_R xs L d 300 (68, [.ref 228, .int (iI (s)), .int (iI (n)), .int (iI (v)), .int (iI (((k : Nat) : Int))), v5, v6, v7], [], (sh, M)) Q := by
  intro mz
  induction mz using Nat.strongRecOn with
  | _ mz ih =>
    intro rc_ st v k v5 v6 v7 M hm hq hrq hk hrow hok hfix h999 hr9 h59 hvb hlv h33 h29
    refine rr_iload pf_300_68 rfl ?_
    refine rr_iload_n pf_300_70 rfl ?_
    refine rr_icmp_ge 172 pf_300_71 (by decide) (by unfold rg; omega) (by unfold rg; omega) (fun c1 => ?_) (fun c1 => ?_)
    · exact kx rc_ st v k _ _ _ M hq (hrq) (by rw [← hlv, hrow]; rw [show n.toNat - k = 0 by omega]; rfl) (hrow) (hfix) (hr9) (by omega) (h33) (h29)
    · refine rr_aload_n pf_300_74 rfl ?_
      refine rr_getR pf_300_75 po_300 pg_9_13 rfl (ws_228 hW) (by decide) (wr_228_3 hq.1) ?_
      refine rr_iconst pf_300_78 ?_
      refine vr_iald (j := 5) hq pf_300_79 (ws_230 hW) (by omega) (by omega) (by decide) (fun x2 hx2 rx2 => ?_)
      rw [rr_of hrow (by omega)] at hx2
      have h5 := hok.2.2.2.2.2.1
      refine rr_sipush pf_300_80 (by decide) ?_
      refine rr_icmp_ge 172 pf_300_83 (by decide) rx2 (by unfold rg; omega) (fun c3 => ?_) (fun c3 => ?_)
      · exact kx rc_ st v k _ _ _ M hq (hrq) (by rw [← hlv, hrow]; rw [show n.toNat - k = (n.toNat - k - 1) + 1 by omega, sp_live, if_neg (by omega)]) (hrow) (hfix) (hr9) (by omega) (h33) (h29)
      · refine rr_aload_n pf_300_86 rfl ?_
        refine rr_aload_n pf_300_87 rfl ?_
        refine rr_getR pf_300_88 po_300 pg_9_13 rfl (ws_228 hW) (by decide) (wr_228_3 hq.1) ?_
        refine rr_iconst pf_300_91 ?_
        refine vr_iald (j := 0) hq pf_300_92 (ws_230 hW) (by omega) (by omega) (by decide) (fun x4 hx4 rx4 => ?_)
        rw [rr_of hrow (by omega), hfix 0 (by omega)] at hx4
        have h0 := hρ.1
        obtain ⟨r7, M5, ⟨kq6, pv_M5, p59_M5, pf_M5, pg_M5⟩, hcM5⟩ := ct_R_draw (xs := xs) (L := L) (d := d) (n := x4) (st := st) (by omega) hW hq.1 hq.2.1 h59.1 (by omega) (by omega)
        have q6 := qk_trm hq kq6 (by decide)
        have rq8 := rz_tr hrq pf_M5 (by decide)
        refine rr_cV1 pf_300_93 po_300 pc_9_603 (ws_228 hW) po_301 (by decide) rfl hcM5 ?_
        have g9r : rr_ M5 = rc_ := (rr_eq (kq6.2.2 230 (by decide))).trans hrow
        have g99 := r9_tr hr9 (r9_eq (kq6.2.2 230 (by decide)))
        have g93 : M5 233 = Mk 233 := (kq6.2.2 233 (by decide)).trans h33
        have g92 : M5 229 = M0 229 := (kq6.2.2 229 (by decide)).trans h29
        
        refine rr_istore pf_300_96 (fun y => [.ref 228, .int (iI (s)), .int (iI (n)), .int (iI (v)), .int (iI (((k : Nat) : Int))), .int (iI (y)), v6, v7]) (Nat.le_of_ble_eq_true rfl) (fun _ => rfl) (fun y10 hy10 => ?_)
        refine rr_aload_n pf_300_98 rfl ?_
        refine rr_bipush pf_300_99 (by decide) ?_
        obtain ⟨r13, M11, ⟨kq12, pv_M11, p59_M11, pf_M11, pg_M11⟩, hcM11⟩ := ct_R_draw (xs := xs) (L := L) (d := d) (n := 16) (st := nx st) (by omega) hW q6.1 q6.2.1 p59_M5 (by have := nx_b st; omega) (by omega)
        have q12 := qk_trm q6 kq12 (by decide)
        have rq14 := rz_tr rq8 pf_M11 (by decide)
        refine rr_cV1 pf_300_101 po_300 pc_9_603 (ws_228 hW) po_301 (by decide) rfl hcM11 ?_
        have g15r : rr_ M11 = rc_ := (rr_eq (kq12.2.2 230 (by decide))).trans g9r
        have g159 := r9_tr g99 (r9_eq (kq12.2.2 230 (by decide)))
        have g153 : M11 233 = Mk 233 := (kq12.2.2 233 (by decide)).trans g93
        have g152 : M11 229 = M0 229 := (kq12.2.2 229 (by decide)).trans g92
        
        refine rr_istore pf_300_104 (fun y => [.ref 228, .int (iI (s)), .int (iI (n)), .int (iI (v)), .int (iI (((k : Nat) : Int))), .int (iI (y10)), .int (iI (y)), v7]) (Nat.le_of_ble_eq_true rfl) (fun _ => rfl) (fun y16 hy16 => ?_)
        refine rr_aload_n pf_300_106 rfl ?_
        refine rr_iconst pf_300_107 ?_
        obtain ⟨r19, M17, ⟨kq18, pv_M17, p59_M17, pf_M17, pg_M17⟩, hcM17⟩ := ct_R_draw (xs := xs) (L := L) (d := d) (n := 3) (st := nx (nx st)) (by omega) hW q12.1 q12.2.1 p59_M11 (by have := nx_b (nx st); omega) (by omega)
        have q18 := qk_trm q12 kq18 (by decide)
        have rq20 := rz_tr rq14 pf_M17 (by decide)
        refine rr_cV1 pf_300_108 po_300 pc_9_603 (ws_228 hW) po_301 (by decide) rfl hcM17 ?_
        have g21r : rr_ M17 = rc_ := (rr_eq (kq18.2.2 230 (by decide))).trans g15r
        have g219 := r9_tr g159 (r9_eq (kq18.2.2 230 (by decide)))
        have g213 : M17 233 = Mk 233 := (kq18.2.2 233 (by decide)).trans g153
        have g212 : M17 229 = M0 229 := (kq18.2.2 229 (by decide)).trans g152
        
        refine rr_istore pf_300_111 (fun y => [.ref 228, .int (iI (s)), .int (iI (n)), .int (iI (v)), .int (iI (((k : Nat) : Int))), .int (iI (y10)), .int (iI (y16)), .int (iI (y))]) (Nat.le_of_ble_eq_true rfl) (fun _ => rfl) (fun y22 hy22 => ?_)
        have hnb1 := nx_b st
        have hnb2 := nx_b (nx st)
        have hnb3 := nx_b (nx (nx st))
        have h00 := hfix 0 (by omega)
        have hwv : y10 = nx st % rc_ 0 := by rw [hy10, pv_M5, hx4, h00]
        have hwb : 0 ≤ y10 ∧ y10 < rc_ 0 := by rw [hwv]; exact ⟨Int.emod_nonneg _ (by omega), Int.emod_lt_of_pos _ (by omega)⟩
        obtain ⟨w0, hw0⟩ : ∃ z : Nat, y10 = ((z : Nat) : Int) := ⟨(y10).toNat, by omega⟩
        have hpe := pre_em (lw := lw) hok (w := w0) (by omega)
        have hpl : y16 = nx (nx st) % 16 := by omega
        have hhw : y22 = nx (nx (nx st)) % 3 := by omega
        rw [show ((w0 : Nat) : Int) = nx st % rc_ 0 by omega] at hpe
        have hok0 := hok.1
        refine rr_iload pf_300_113 rfl ?_
        refine rr_if_ne 137 pf_300_115 (by decide) (by unfold rg; omega) (fun c23 => ?_) (fun c23 => ?_)
        · have hCC : ¬ (nx (nx (nx st)) % 3 = 0 ∧ 0 ≤ sp_preV lw rc_ (nx st % rc_ 0)) := fun z => by have := z.1; omega
          refine rr_aload_n pf_300_137 rfl ?_
          refine rr_getR pf_300_138 po_300 pg_9_13 rfl (ws_228 hW) (by decide) (wr_228_3 q18.1) ?_
          refine rr_bipush pf_300_141 (by decide) ?_
          refine rr_iload pf_300_143 rfl ?_
          refine rr_iconst pf_300_145 ?_
          refine rr_icmp_ne 154 pf_300_146 (by decide) (by unfold rg; omega) (by unfold rg; omega) (fun c24 => ?_) (fun c24 => ?_)
          · refine rr_aload_n pf_300_154 rfl ?_
            refine rr_getR pf_300_155 po_300 pg_9_13 rfl (ws_228 hW) (by decide) (wr_228_3 q18.1) ?_
            refine rr_bipush pf_300_158 (by decide) ?_
            refine vr_iald (j := 8) q18 pf_300_160 (ws_230 hW) (by omega) (by omega) (by decide) (fun x25 hx25 rx25 => ?_)
            refine vr_iast (j := 8) hW q18 pf_300_161 (ws_230 hW) (by omega) (by omega) (by decide) rx25 (by decide) (fun M26 eM26 q27 => ?_)
            have rq28 := rz_ne rq20 eM26 (by decide)
            have hA : rr_ M26 = sp_lvA lw rc_ st := by
              unfold sp_lvA; rw [if_neg (by omega), if_neg (by omega), rr_w g21r eM26 (by omega), hx25, rr_of g21r (by omega)]
              exact rup_id
            have hA9 := r9_up g219 eM26 (by omega)
            have hA3 : M26 233 = Mk 233 := (show M26 233 = M17 233 by rw [eM26, ask_ne (by decide)]).trans g213
            have hA2 : M26 229 = M0 229 := (show M26 229 = M17 229 by rw [eM26, ask_ne (by decide)]).trans g212
            have hA5 := (show M26 228 59 = M17 228 59 by rw [eM26, ask_ne (by decide)]).trans p59_M17
            refine rr_aload_n pf_300_162 rfl ?_
            obtain ⟨M29, ⟨kq30, pr_M29, p9_M29, pf_M29⟩, hcM29⟩ := ct_R_passIt (xs := xs) (L := L) (d := d) (lw := lw) (by omega) hW q27.1 q27.2.1 (by rw [hA]; exact ok_lvA hok st) (lwR_r9 hlw hA9 (by rw [rr_of hA (by omega), lvA_n (by omega)]; exact (hfix 4 (by omega)).trans (rr_at (by omega)).symm)) ((rq28 20 (by decide) (by decide)).trans hord) (by rw [hA, lvA_5]; omega)
            have q30 := qk_trm q27 kq30 (by decide)
            rw [hA] at pr_M29
            have rq32 := rz_rq rq28 pf_M29
            refine rr_cV0 pf_300_163 po_300 pc_9_496 (ws_228 hW) po_261 (by decide) rfl hcM29 ?_
            have hRW : rr_ M29 = sp_lvR lw rc_ st := by rw [pr_M29]; unfold sp_lvR sp_pasW; rw [lvA_5, if_pos (by omega)]
            have hN9 := r9_tr hA9 p9_M29
            have h33n : M29 233 = Mk 233 := (kq30.2.2 233 (by decide)).trans hA3
            have h29n : M29 229 = M0 229 := (kq30.2.2 229 (by decide)).trans hA2
            have h59n := (pf_M29 59 (by decide)).trans hA5
            refine rr_iinc pf_300_166 rfl (fun y => [.ref 228, .int (iI (s)), .int (iI (n)), .int (iI (v)), .int (iI (y)), .int (iI (y10)), .int (iI (y16)), .int (iI (y22))]) (fun _ => rfl) (fun y33 hy33 => ?_)
            refine rr_goto 68 pf_300_169 (by decide) ?_
            obtain ⟨n34, hn34, rfl⟩ : ∃ zz : Nat, zz = 1 + k ∧ y33 = ((zz : Nat) : Int) := ⟨1 + k, rfl, by omega⟩
            exact ih _ (by omega) (sp_lvR lw rc_ st) (nx (nx (nx st))) v n34 _ _ _ M29 rfl q30 (rq32) (by omega) (hRW) (ok_lvR hok st) (by intro j hj; rw [lvR_fix hok hj]; exact hfix j hj) (lvR_ok5 (by omega)) (hN9) (by exact ⟨h59n, by have := nx_b (nx (nx st)); omega, by have := nx_b (nx (nx st)); omega⟩) (by omega) (by rw [← hlv, show n.toNat - k = (n.toNat - n34) + 1 by omega, sp_live, if_pos (by omega)]; congr 1; unfold sp_lvC; rw [if_neg hCC]; omega) (h33n) (h29n)
          · refine rr_iload pf_300_149 rfl ?_
            refine rr_goto 161 pf_300_151 (by decide) ?_
            refine vr_iast (j := 8) hW q18 pf_300_161 (ws_230 hW) (by omega) (by omega) (by decide) (by unfold rg; omega) (by decide) (fun M35 eM35 q36 => ?_)
            have rq37 := rz_ne rq20 eM35 (by decide)
            have hA : rr_ M35 = sp_lvA lw rc_ st := by
              unfold sp_lvA; rw [if_neg (by omega), if_pos (by omega), rr_w g21r eM35 (by omega), hpl]
            have hA9 := r9_up g219 eM35 (by omega)
            have hA3 : M35 233 = Mk 233 := (show M35 233 = M17 233 by rw [eM35, ask_ne (by decide)]).trans g213
            have hA2 : M35 229 = M0 229 := (show M35 229 = M17 229 by rw [eM35, ask_ne (by decide)]).trans g212
            have hA5 := (show M35 228 59 = M17 228 59 by rw [eM35, ask_ne (by decide)]).trans p59_M17
            refine rr_aload_n pf_300_162 rfl ?_
            obtain ⟨M38, ⟨kq39, pr_M38, p9_M38, pf_M38⟩, hcM38⟩ := ct_R_passIt (xs := xs) (L := L) (d := d) (lw := lw) (by omega) hW q36.1 q36.2.1 (by rw [hA]; exact ok_lvA hok st) (lwR_r9 hlw hA9 (by rw [rr_of hA (by omega), lvA_n (by omega)]; exact (hfix 4 (by omega)).trans (rr_at (by omega)).symm)) ((rq37 20 (by decide) (by decide)).trans hord) (by rw [hA, lvA_5]; omega)
            have q39 := qk_trm q36 kq39 (by decide)
            rw [hA] at pr_M38
            have rq41 := rz_rq rq37 pf_M38
            refine rr_cV0 pf_300_163 po_300 pc_9_496 (ws_228 hW) po_261 (by decide) rfl hcM38 ?_
            have hRW : rr_ M38 = sp_lvR lw rc_ st := by rw [pr_M38]; unfold sp_lvR sp_pasW; rw [lvA_5, if_pos (by omega)]
            have hN9 := r9_tr hA9 p9_M38
            have h33n : M38 233 = Mk 233 := (kq39.2.2 233 (by decide)).trans hA3
            have h29n : M38 229 = M0 229 := (kq39.2.2 229 (by decide)).trans hA2
            have h59n := (pf_M38 59 (by decide)).trans hA5
            refine rr_iinc pf_300_166 rfl (fun y => [.ref 228, .int (iI (s)), .int (iI (n)), .int (iI (v)), .int (iI (y)), .int (iI (y10)), .int (iI (y16)), .int (iI (y22))]) (fun _ => rfl) (fun y42 hy42 => ?_)
            refine rr_goto 68 pf_300_169 (by decide) ?_
            obtain ⟨n43, hn43, rfl⟩ : ∃ zz : Nat, zz = 1 + k ∧ y42 = ((zz : Nat) : Int) := ⟨1 + k, rfl, by omega⟩
            exact ih _ (by omega) (sp_lvR lw rc_ st) (nx (nx (nx st))) v n43 _ _ _ M38 rfl q39 (rq41) (by omega) (hRW) (ok_lvR hok st) (by intro j hj; rw [lvR_fix hok hj]; exact hfix j hj) (lvR_ok5 (by omega)) (hN9) (by exact ⟨h59n, by have := nx_b (nx (nx st)); omega, by have := nx_b (nx (nx st)); omega⟩) (by omega) (by rw [← hlv, show n.toNat - k = (n.toNat - n43) + 1 by omega, sp_live, if_pos (by omega)]; congr 1; unfold sp_lvC; rw [if_neg hCC]; omega) (h33n) (h29n)
        · refine rr_aload_n pf_300_118 rfl ?_
          refine rr_iload pf_300_119 rfl ?_
          obtain ⟨M44, ⟨kq45, pf_M44⟩, hcM44⟩ := ct_R_isBarred (xs := xs) (L := L) (d := d) (w := w0) (lw := lw) (by omega) hW q18.1 q18.2.1 (by rw [g21r]; exact hok) (lwR_r9 hlw g219 (by rw [rr_of g21r (by omega)]; exact (hfix 4 (by omega)).trans (rr_at (by omega)).symm)) ((rq20 20 (by decide) (by decide)).trans hord) (by omega)
          rw [show ((w0 : Nat) : Int) = y10 by omega] at hcM44
          rw [g21r] at hcM44
          have q45 := qk_trm q18 kq45 (by decide)
          have rq47 := rz_rq rq20 pf_M44
          refine rr_cV1 pf_300_121 po_300 pc_9_221 (ws_228 hW) po_186 (by decide) rfl hcM44 ?_
          have g48r : rr_ M44 = rc_ := (rr_eq (kq45.2.2 230 (by decide))).trans g21r
          have g489 := r9_tr g219 (r9_eq (kq45.2.2 230 (by decide)))
          have g483 : M44 233 = Mk 233 := (kq45.2.2 233 (by decide)).trans g213
          have g482 : M44 229 = M0 229 := (kq45.2.2 229 (by decide)).trans g212
          have g485 := (pf_M44 59 (by decide)).trans p59_M17
          
          refine rr_ifb_ne 137 pf_300_124 (by decide) (fun c49 => ?_) (fun c49 => ?_)
          · have hbar := c49
            have hCC : ¬ (nx (nx (nx st)) % 3 = 0 ∧ 0 ≤ sp_preV lw rc_ (nx st % rc_ 0)) := fun z => by have := z.2; have := (hpe.1 hbar).2; omega
            refine rr_aload_n pf_300_137 rfl ?_
            refine rr_getR pf_300_138 po_300 pg_9_13 rfl (ws_228 hW) (by decide) (wr_228_3 q45.1) ?_
            refine rr_bipush pf_300_141 (by decide) ?_
            refine rr_iload pf_300_143 rfl ?_
            refine rr_iconst pf_300_145 ?_
            refine rr_icmp_ne 154 pf_300_146 (by decide) (by unfold rg; omega) (by unfold rg; omega) (fun c50 => ?_) (fun c50 => ?_)
            · refine rr_aload_n pf_300_154 rfl ?_
              refine rr_getR pf_300_155 po_300 pg_9_13 rfl (ws_228 hW) (by decide) (wr_228_3 q45.1) ?_
              refine rr_bipush pf_300_158 (by decide) ?_
              refine vr_iald (j := 8) q45 pf_300_160 (ws_230 hW) (by omega) (by omega) (by decide) (fun x51 hx51 rx51 => ?_)
              refine vr_iast (j := 8) hW q45 pf_300_161 (ws_230 hW) (by omega) (by omega) (by decide) rx51 (by decide) (fun M52 eM52 q53 => ?_)
              have rq54 := rz_ne rq47 eM52 (by decide)
              have hA : rr_ M52 = sp_lvA lw rc_ st := by
                unfold sp_lvA; rw [if_pos (by omega), (hpe.1 hbar).1, rr_w g48r eM52 (by omega), hx51, rr_of g48r (by omega)]
                exact rup_id
              have hA9 := r9_up g489 eM52 (by omega)
              have hA3 : M52 233 = Mk 233 := (show M52 233 = M44 233 by rw [eM52, ask_ne (by decide)]).trans g483
              have hA2 : M52 229 = M0 229 := (show M52 229 = M44 229 by rw [eM52, ask_ne (by decide)]).trans g482
              have hA5 := (show M52 228 59 = M44 228 59 by rw [eM52, ask_ne (by decide)]).trans g485
              refine rr_aload_n pf_300_162 rfl ?_
              obtain ⟨M55, ⟨kq56, pr_M55, p9_M55, pf_M55⟩, hcM55⟩ := ct_R_passIt (xs := xs) (L := L) (d := d) (lw := lw) (by omega) hW q53.1 q53.2.1 (by rw [hA]; exact ok_lvA hok st) (lwR_r9 hlw hA9 (by rw [rr_of hA (by omega), lvA_n (by omega)]; exact (hfix 4 (by omega)).trans (rr_at (by omega)).symm)) ((rq54 20 (by decide) (by decide)).trans hord) (by rw [hA, lvA_5]; omega)
              have q56 := qk_trm q53 kq56 (by decide)
              rw [hA] at pr_M55
              have rq58 := rz_rq rq54 pf_M55
              refine rr_cV0 pf_300_163 po_300 pc_9_496 (ws_228 hW) po_261 (by decide) rfl hcM55 ?_
              have hRW : rr_ M55 = sp_lvR lw rc_ st := by rw [pr_M55]; unfold sp_lvR sp_pasW; rw [lvA_5, if_pos (by omega)]
              have hN9 := r9_tr hA9 p9_M55
              have h33n : M55 233 = Mk 233 := (kq56.2.2 233 (by decide)).trans hA3
              have h29n : M55 229 = M0 229 := (kq56.2.2 229 (by decide)).trans hA2
              have h59n := (pf_M55 59 (by decide)).trans hA5
              refine rr_iinc pf_300_166 rfl (fun y => [.ref 228, .int (iI (s)), .int (iI (n)), .int (iI (v)), .int (iI (y)), .int (iI (y10)), .int (iI (y16)), .int (iI (y22))]) (fun _ => rfl) (fun y59 hy59 => ?_)
              refine rr_goto 68 pf_300_169 (by decide) ?_
              obtain ⟨n60, hn60, rfl⟩ : ∃ zz : Nat, zz = 1 + k ∧ y59 = ((zz : Nat) : Int) := ⟨1 + k, rfl, by omega⟩
              exact ih _ (by omega) (sp_lvR lw rc_ st) (nx (nx (nx st))) v n60 _ _ _ M55 rfl q56 (rq58) (by omega) (hRW) (ok_lvR hok st) (by intro j hj; rw [lvR_fix hok hj]; exact hfix j hj) (lvR_ok5 (by omega)) (hN9) (by exact ⟨h59n, by have := nx_b (nx (nx st)); omega, by have := nx_b (nx (nx st)); omega⟩) (by omega) (by rw [← hlv, show n.toNat - k = (n.toNat - n60) + 1 by omega, sp_live, if_pos (by omega)]; congr 1; unfold sp_lvC; rw [if_neg hCC]; omega) (h33n) (h29n)
            · exfalso; omega
          · have hbar := c49
            refine rr_aload_n pf_300_127 rfl ?_
            refine rr_iload pf_300_128 rfl ?_
            obtain ⟨r63, M61, ⟨kq62, pv_M61, pr_M61, p9_M61, pf_M61⟩, hcM61⟩ := ct_R_preachIt (xs := xs) (L := L) (d := d) (w := w0) (lw := lw) (by omega) hW q45.1 q45.2.1 (by rw [g48r]; exact hok) (lwR_r9 hlw g489 (by rw [rr_of g48r (by omega)]; exact (hfix 4 (by omega)).trans (rr_at (by omega)).symm)) ((rq47 20 (by decide) (by decide)).trans hord) (by omega)
            rw [show ((w0 : Nat) : Int) = y10 by omega] at hcM61
            have q62 := qk_trm q45 kq62 (by decide)
            rw [g48r] at pv_M61
            rw [g48r] at pr_M61
            have rq64 := rz_rq rq47 pf_M61
            refine rr_cV1 pf_300_130 po_300 pc_9_481 (ws_228 hW) po_252 (by decide) rfl hcM61 ?_
            have g65r : rr_ M61 = sp_preR lw rc_ w0 16 := pr_M61
            have g659 := r9_tr g489 p9_M61
            have g653 : M61 233 = Mk 233 := (kq62.2.2 233 (by decide)).trans g483
            have g652 : M61 229 = M0 229 := (kq62.2.2 229 (by decide)).trans g482
            have g655 := (pf_M61 59 (by decide)).trans g485
            
            refine rr_pop pf_300_133 rfl ?_
            refine rr_iinc pf_300_134 rfl (fun y => [.ref 228, .int (iI (s)), .int (iI (n)), .int (iI (y)), .int (iI (((k : Nat) : Int))), .int (iI (y10)), .int (iI (y16)), .int (iI (y22))]) (fun _ => rfl) (fun y66 hy66 => ?_)
            have hCC : nx (nx (nx st)) % 3 = 0 ∧ 0 ≤ sp_preV lw rc_ (nx st % rc_ 0) := ⟨by omega, (hpe.2 hbar).2⟩
            refine rr_aload_n pf_300_137 rfl ?_
            refine rr_getR pf_300_138 po_300 pg_9_13 rfl (ws_228 hW) (by decide) (wr_228_3 q62.1) ?_
            refine rr_bipush pf_300_141 (by decide) ?_
            refine rr_iload pf_300_143 rfl ?_
            refine rr_iconst pf_300_145 ?_
            refine rr_icmp_ne 154 pf_300_146 (by decide) (by unfold rg; omega) (by unfold rg; omega) (fun c67 => ?_) (fun c67 => ?_)
            · refine rr_aload_n pf_300_154 rfl ?_
              refine rr_getR pf_300_155 po_300 pg_9_13 rfl (ws_228 hW) (by decide) (wr_228_3 q62.1) ?_
              refine rr_bipush pf_300_158 (by decide) ?_
              refine vr_iald (j := 8) q62 pf_300_160 (ws_230 hW) (by omega) (by omega) (by decide) (fun x68 hx68 rx68 => ?_)
              refine vr_iast (j := 8) hW q62 pf_300_161 (ws_230 hW) (by omega) (by omega) (by decide) rx68 (by decide) (fun M69 eM69 q70 => ?_)
              have rq71 := rz_ne rq64 eM69 (by decide)
              have hA : rr_ M69 = sp_lvA lw rc_ st := by
                unfold sp_lvA; rw [if_pos (by omega), (hpe.2 hbar).1, rr_w g65r eM69 (by omega), hx68, rr_of g65r (by omega)]
                exact rup_id
              have hA9 := r9_up g659 eM69 (by omega)
              have hA3 : M69 233 = Mk 233 := (show M69 233 = M61 233 by rw [eM69, ask_ne (by decide)]).trans g653
              have hA2 : M69 229 = M0 229 := (show M69 229 = M61 229 by rw [eM69, ask_ne (by decide)]).trans g652
              have hA5 := (show M69 228 59 = M61 228 59 by rw [eM69, ask_ne (by decide)]).trans g655
              refine rr_aload_n pf_300_162 rfl ?_
              obtain ⟨M72, ⟨kq73, pr_M72, p9_M72, pf_M72⟩, hcM72⟩ := ct_R_passIt (xs := xs) (L := L) (d := d) (lw := lw) (by omega) hW q70.1 q70.2.1 (by rw [hA]; exact ok_lvA hok st) (lwR_r9 hlw hA9 (by rw [rr_of hA (by omega), lvA_n (by omega)]; exact (hfix 4 (by omega)).trans (rr_at (by omega)).symm)) ((rq71 20 (by decide) (by decide)).trans hord) (by rw [hA, lvA_5]; omega)
              have q73 := qk_trm q70 kq73 (by decide)
              rw [hA] at pr_M72
              have rq75 := rz_rq rq71 pf_M72
              refine rr_cV0 pf_300_163 po_300 pc_9_496 (ws_228 hW) po_261 (by decide) rfl hcM72 ?_
              have hRW : rr_ M72 = sp_lvR lw rc_ st := by rw [pr_M72]; unfold sp_lvR sp_pasW; rw [lvA_5, if_pos (by omega)]
              have hN9 := r9_tr hA9 p9_M72
              have h33n : M72 233 = Mk 233 := (kq73.2.2 233 (by decide)).trans hA3
              have h29n : M72 229 = M0 229 := (kq73.2.2 229 (by decide)).trans hA2
              have h59n := (pf_M72 59 (by decide)).trans hA5
              refine rr_iinc pf_300_166 rfl (fun y => [.ref 228, .int (iI (s)), .int (iI (n)), .int (iI (y66)), .int (iI (y)), .int (iI (y10)), .int (iI (y16)), .int (iI (y22))]) (fun _ => rfl) (fun y76 hy76 => ?_)
              refine rr_goto 68 pf_300_169 (by decide) ?_
              obtain ⟨n77, hn77, rfl⟩ : ∃ zz : Nat, zz = 1 + k ∧ y76 = ((zz : Nat) : Int) := ⟨1 + k, rfl, by omega⟩
              exact ih _ (by omega) (sp_lvR lw rc_ st) (nx (nx (nx st))) y66 n77 _ _ _ M72 rfl q73 (rq75) (by omega) (hRW) (ok_lvR hok st) (by intro j hj; rw [lvR_fix hok hj]; exact hfix j hj) (lvR_ok5 (by omega)) (hN9) (by exact ⟨h59n, by have := nx_b (nx (nx st)); omega, by have := nx_b (nx (nx st)); omega⟩) (by omega) (by rw [← hlv, show n.toNat - k = (n.toNat - n77) + 1 by omega, sp_live, if_pos (by omega)]; congr 1; unfold sp_lvC; rw [if_pos hCC]; omega) (h33n) (h29n)
            · exfalso; omega
theorem ct_R_years1 {xs : Nat → Int} {L d : Nat} {sh : List (Nat × Nat)} {M0 : Nat → Nat → Int} (hd : 14 ≤ d) (hW : px_W0 <+: sh) (hF : px_Fx M0) (hG : px_RG sh M0)  (hρ : sp_ok (rr_ M0)) {lw : List sp_C} (hlw : px_lwR M0 lw) (hord : M0 228 20 = 0) (hrf : ∀ j, j < 7 → 0 ≤ M0 229 j ∧ M0 229 j ≤ 1000000000) (h999 : rr_ M0 5 ≤ 999) (h0w : 0 < rr_ M0 0) {s n : Int} (hs0 : 0 ≤ s ∧ s ≤ 1000000) (hn0 : 1 ≤ n ∧ n ≤ 60) : ∃ v M, (px_qk sh [228, 229, 230, 233, 246, 248, 249, 250, 263] M0 M ∧ (v = (sp_live lw n.toNat s (rr_ M0) 0).2) ∧ (M 230 = M0 230) ∧ (∀ j, j < 1024 → M 233 j = M0 233 j) ∧ (∀ j, j < 64 → M 263 j = (sp_live lw n.toNat s (rr_ M0) 0).1 (5 + j)) ∧ (M 228 61 = rr_ M0 1) ∧ (M 228 1 = 0) ∧ (M 229 = M0 229) ∧ (rz [1, 61] M0 M)) ∧ px_Cl xs L d 300 [.ref 228, .int (iI (s)), .int (iI (n))] (sh, M0) (some (.int (iI v))) (sh, M) := by
  obtain ⟨d, rfl⟩ : ∃ e, d = e + 1 := ⟨d - 1, by omega⟩
  have q0 : px_qk sh [228, 229, 230, 233, 246, 248, 249, 250, 263] M0 M0 := ⟨hF, hG, eo_rf⟩
  refine vc_i (Nat.le_of_ble_eq_true rfl) ?_
  show px_R xs L d 300 (0, [.ref 228, .int (iI (s)), .int (iI (n)), px_jk, px_jk, px_jk, px_jk, px_jk], [], (sh, M0)) (fun r h' => ∃ v M', r = some (.int (iI v)) ∧ h' = (sh, M') ∧ px_qk sh [228, 229, 230, 233, 246, 248, 249, 250, 263] M0 M' ∧ v = (sp_live lw n.toNat s (rr_ M0) 0).2 ∧ M' 230 = M0 230 ∧ (∀ j, j < 1024 → M' 233 j = M0 233 j) ∧ (∀ j, j < 64 → M' 263 j = (sp_live lw n.toNat s (rr_ M0) 0).1 (5 + j)) ∧ M' 228 61 = rr_ M0 1 ∧ M' 228 1 = 0 ∧ M' 229 = M0 229 ∧ rz [1, 61] M0 M')
  refine rr_aload_n pf_300_0 rfl ?_
  refine rr_iconst pf_300_1 ?_
  refine vr_putI hW q0 pf_300_2 po_300 pg_9_177 (Or.inl rfl) rfl (ws_228 hW) (by decide) (by unfold rg; omega) (by decide) (fun M1 eM1 q2 => ?_)
  have rq3 := rz_up (rz_rf [1, 61] M0) eM1 (by decide)
  have row4 := (rr_eq (M := M0) (M2 := M1) (by rw [eM1, ask_ne (by decide)])).trans (rfl : rr_ M0 = rr_ M0)
  have ninerow4 := r9_tr (r9_rf M0) (r9_eq (M := M0) (M2 := M1) (by rw [eM1, ask_ne (by decide)]))
  have e5 : M1 229 = M0 229 := (show M1 229 = M0 229 by rw [eM1, ask_ne (by decide)]).trans (rfl : M0 229 = M0 229)
  have e6 : M1 230 = M0 230 := (show M1 230 = M0 230 by rw [eM1, ask_ne (by decide)]).trans (rfl : M0 230 = M0 230)
  have e7 : M1 233 = M0 233 := (show M1 233 = M0 233 by rw [eM1, ask_ne (by decide)]).trans (rfl : M0 233 = M0 233)
  refine rr_iload_n pf_300_5 rfl ?_
  refine rr_i2l pf_300_6 (by unfold rg; omega) ?_
  refine rr_lconst (w := 0) pf_300_7 rfl ?_
  refine rr_ldc2_w pf_300_8 po_300 pl_9_305 ?_
  refine rr_cS3 pf_300_11 po_300 pc_9_197 (by decide) rfl (ct_R_in (by omega) (by unfold rl; omega) (by unfold rl; omega) (by unfold rl; omega)) ?_
  refine rr_ifb_eq 29 pf_300_14 (by decide) (fun c8 => ?_) (fun c8 => ?_)
  · exfalso; omega
  · refine rr_iload_n pf_300_17 rfl ?_
    refine rr_i2l pf_300_18 (by unfold rg; omega) ?_
    refine rr_lconst (w := 1) pf_300_19 rfl ?_
    refine rr_ldc2_w pf_300_20 po_300 pl_9_470 ?_
    refine rr_cS3 pf_300_23 po_300 pc_9_197 (by decide) rfl (ct_R_in (by omega) (by unfold rl; omega) (by unfold rl; omega) (by unfold rl; omega)) ?_
    refine rr_ifb_ne 35 pf_300_26 (by decide) (fun c9 => ?_) (fun c9 => ?_)
    · refine rr_aload_n pf_300_35 rfl ?_
      refine rr_getR pf_300_36 po_300 pg_9_13 rfl (ws_228 hW) (by decide) (wr_228_3 q2.1) ?_
      refine rr_iconst pf_300_39 ?_
      refine vr_iald (j := 0) q2 pf_300_40 (ws_230 hW) (by omega) (by omega) (by decide) (fun x10 hx10 rx10 => ?_)
      rw [e6] at hx10
      rw [rr_at (M := M0) (i := 0) (by omega)] at hx10
      refine rr_if_ne 51 pf_300_41 (by decide) rx10 (fun c11 => ?_) (fun c11 => ?_)
      · refine rr_aload_n pf_300_51 rfl ?_
        refine rr_bipush pf_300_52 (by decide) ?_
        obtain ⟨M12, ⟨kq13, ka_M12⟩, hcM12⟩ := ct_R_keepAll (xs := xs) (L := L) (d := d) (k := 16) (by omega) hW q2.1 q2.2.1 (by omega)
        rw [show ((16 : Nat) : Int) = 16 by omega] at hcM12
        have q13 := qk_trm q2 kq13 (by decide)
        have rq14 := rz_q rq3 kq13 (by decide)
        have row15 := (rr_eq (kq13.2.2 230 (by decide))).trans row4
        have ninerow15 := r9_tr ninerow4 (r9_eq (kq13.2.2 230 (by decide)))
        have e16 : M12 229 = M0 229 := (kq13.2.2 229 (by decide)).trans e5
        have e17 : M12 230 = M0 230 := (kq13.2.2 230 (by decide)).trans e6
        refine rr_cV1 pf_300_54 po_300 pc_9_190 (ws_228 hW) po_251 (by decide) rfl hcM12 ?_
        
        refine rr_aload_n pf_300_57 rfl ?_
        refine rr_iload_n pf_300_58 rfl ?_
        refine rr_i2l pf_300_59 (by unfold rg; omega) ?_
        refine vr_putL hW q13 pf_300_60 po_300 pg_9_594 (Or.inl rfl) rfl (ws_228 hW) (by decide) (by unfold rl; omega) (by decide) (fun M18 eM18 q19 => ?_)
        have rq20 := rz_up rq14 eM18 (by decide)
        have row21 := (rr_eq (M := M12) (M2 := M18) (by rw [eM18, ask_ne (by decide)])).trans row15
        have ninerow21 := r9_tr ninerow15 (r9_eq (M := M12) (M2 := M18) (by rw [eM18, ask_ne (by decide)]))
        have e22 : M18 229 = M0 229 := (show M18 229 = M12 229 by rw [eM18, ask_ne (by decide)]).trans e16
        have e23 : M18 230 = M0 230 := (show M18 230 = M12 230 by rw [eM18, ask_ne (by decide)]).trans e17
        refine rr_iconst pf_300_63 ?_
        refine rr_istore_n pf_300_64 (fun y => [.ref 228, .int (iI (s)), .int (iI (n)), .int (iI (y)), px_jk, px_jk, px_jk, px_jk]) (Nat.le_of_ble_eq_true rfl) (fun _ => rfl) (fun y24 hy24 => ?_)
        refine rr_iconst pf_300_65 ?_
        refine rr_istore pf_300_66 (fun y => [.ref 228, .int (iI (s)), .int (iI (n)), .int (iI (y24)), .int (iI (y)), px_jk, px_jk, px_jk]) (Nat.le_of_ble_eq_true rfl) (fun _ => rfl) (fun y25 hy25 => ?_)
        obtain ⟨n26, hn26, rfl⟩ : ∃ zz : Nat, zz = 0 ∧ y25 = ((zz : Nat) : Int) := ⟨0, rfl, by omega⟩
        refine lp_R_years1_68 (xs := xs) (L := L) (d := d) (by omega) hW hρ hlw hord h0w (by omega) (Mk := M12) (fun rc__27 st_28 v_29 k_30 v33 v34 v35 M31 q32 xrq_M31 xlv_M31 xrow_M31 xfix_M31 x9_M31 xvb_M31 x33_M31 x29_M31 => ?_) _ (rr_ M0) s y24 n26 _ _ _ M18 rfl q19 (rq20) (by omega) (row21) (hρ) (by intro j _; rfl) (h999) (ninerow21) (⟨by rw [eM18, up_s], by omega, by omega⟩) (by omega) (by rw [show n26 = 0 by omega, show (y24 : Int) = 0 by omega, Nat.sub_zero]) (by rw [eM18, ask_ne (by decide)]) (e22)
        refine rr_iconst pf_300_172 ?_
        refine rr_istore pf_300_173 (fun y => [.ref 228, .int (iI (s)), .int (iI (n)), .int (iI (v_29)), .int (iI (y)), v33, v34, v35]) (Nat.le_of_ble_eq_true rfl) (fun _ => rfl) (fun y36 hy36 => ?_)
        obtain ⟨n37, hn37, rfl⟩ : ∃ zz : Nat, zz = 0 ∧ y36 = ((zz : Nat) : Int) := ⟨0, rfl, by omega⟩
        refine lp_R_years1_175 (xs := xs) (L := L) (d := d) (by omega) hW (fun i_38 v41 v42 v43 M39 q40 xd_M39 => ?_) _ n37 _ _ _ M31 rfl ⟨q32.1, q32.2.1, eo_rf⟩ (by omega) (by intro j hj; exfalso; omega)
        have q44 := qk_trm q32 q40 (by decide)
        have rq45 := rz_q xrq_M31 q40 (by decide)
        have e46 : M39 229 = M0 229 := (q40.2.2 229 (by decide)).trans x29_M31
        refine rr_aload_n pf_300_204 rfl ?_
        refine rr_aload_n pf_300_205 rfl ?_
        refine rr_getR pf_300_206 po_300 pg_9_13 rfl (ws_228 hW) (by decide) (wr_228_3 q44.1) ?_
        refine rr_iconst pf_300_209 ?_
        refine vr_iald (j := 1) q44 pf_300_210 (ws_230 hW) (by omega) (by omega) (by decide) (fun x47 hx47 rx47 => ?_)
        rw [q40.2.2 230 (by decide), rr_of xrow_M31 (by omega), xfix_M31 1 (by omega)] at hx47
        refine vr_putI hW q44 pf_300_211 po_300 pg_9_174 (Or.inl rfl) rfl (ws_228 hW) (by decide) rx47 (by decide) (fun M48 eM48 q49 => ?_)
        have rq50 := rz_up rq45 eM48 (by decide)
        have e51 : M48 229 = M0 229 := (show M48 229 = M39 229 by rw [eM48, ask_ne (by decide)]).trans e46
        refine rr_aload_n pf_300_214 rfl ?_
        refine rr_bipush pf_300_215 (by decide) ?_
        obtain ⟨M52, ⟨kq53, kb_M52⟩, hcM52⟩ := ct_R_putBack (xs := xs) (L := L) (d := d) (k := 16) (by omega) hW q49.1 q49.2.1 (by omega)
        rw [show ((16 : Nat) : Int) = 16 by omega] at hcM52
        have q53 := qk_trm q49 kq53 (by decide)
        have rq54 := rz_q rq50 kq53 (by decide)
        have e55 : M52 229 = M0 229 := (kq53.2.2 229 (by decide)).trans e51
        refine rr_cV1 pf_300_217 po_300 pc_9_194 (ws_228 hW) po_177 (by decide) rfl hcM52 ?_
        
        refine rr_aload_n pf_300_220 rfl ?_
        refine rr_iload_n pf_300_221 rfl ?_
        obtain ⟨M56, ⟨kq57, taM56, tbM56⟩, hcM56⟩ := ct_R_tell (xs := xs) (L := L) (d := d) (v := v_29) (by omega) hW q53.1 q53.2.1 (by unfold rg; omega) (by omega) (by rw [e55]; exact hrf)
        have q57 := qk_trm q53 kq57 (by decide)
        have rq58 := rz_tell rq54 taM56 (by decide)
        have stM56 : M56 228 1 = if (v_29 : Int) < 0 then v_29 else 0 := by rw [taM56, up_s]
        have rfM56 : M56 229 = bmp (M0 229) v_29 := by rw [tbM56, e55]; rfl
        refine rr_cV1 pf_300_222 po_300 pc_9_186 (ws_228 hW) po_176 (by decide) rfl hcM56 ?_
        refine rr_iret pf_300_225 pt_300 ⟨_, M56, rfl, rfl, q57, (by rw [← xlv_M31]), (by
                      rw [kq57.2.2 230 (by decide)]; funext j; rw [kb_M52]; by_cases hc : 5 ≤ j ∧ j < 69
                      · rw [if_pos (by omega), eM48, ask_ne (by decide), q40.2.2 233 (by decide), x33_M31, ka_M12, if_pos (by omega), show 5 + (64 * 16 + (j - 5) - 64 * 16) = j by omega, e6]
                      · rw [if_neg (by omega), eM48, ask_ne (by decide), q40.2.2 230 (by decide)]; by_cases h9 : 109 ≤ j
                        · exact x9_M31 j h9
                        · rw [rr_of xrow_M31 (by omega), xfix_M31 j (by omega)]; exact (rr_at (by omega)).symm), (by intro j hj; rw [kq57.2.2 233 (by decide), kq53.2.2 233 (by decide), eM48, ask_ne (by decide), q40.2.2 233 (by decide), x33_M31, ka_M12, if_neg (by omega), e7]), (by intro j hj; rw [kq57.2.2 263 (by decide), kq53.2.2 263 (by decide), eM48, ask_ne (by decide), xd_M39 j hj, rr_at (M := M31) (by omega), ← xlv_M31]), (by rw [taM56, up_ne (by decide), kq53.2.2 228 (by decide), eM48, up_s]; omega), (by rw [stM56, if_neg (by omega)]), (by rw [rfM56]; unfold bmp; rw [if_neg (by omega)]), (rq58)⟩
      · exfalso; omega
    · exfalso; omega
theorem ct_R_yearsX {xs : Nat → Int} {L d : Nat} {sh : List (Nat × Nat)} {M0 : Nat → Nat → Int} (hd : 4 ≤ d) (hW : px_W0 <+: sh) (hF : px_Fx M0) (hG : px_RG sh M0)  (hrf : ∀ j, j < 7 → 0 ≤ M0 229 j ∧ M0 229 j ≤ 1000000000) {s n : Int} (hs0 : rg s) (hn0 : rg n) (hx : ¬ ((0 ≤ s ∧ s ≤ 1000000) ∧ 1 ≤ n ∧ n ≤ 60)) : ∃ v M, (px_qk sh [228, 229] M0 M ∧ (v = -1) ∧ (M 228 1 = -1) ∧ (M 229 = bmp (M0 229) (-1)) ∧ (rz [1] M0 M)) ∧ px_Cl xs L d 300 [.ref 228, .int (iI (s)), .int (iI (n))] (sh, M0) (some (.int (iI v))) (sh, M) := by
  obtain ⟨d, rfl⟩ : ∃ e, d = e + 1 := ⟨d - 1, by omega⟩
  have q0 : px_qk sh [228, 229] M0 M0 := ⟨hF, hG, eo_rf⟩
  refine vc_i (Nat.le_of_ble_eq_true rfl) ?_
  show px_R xs L d 300 (0, [.ref 228, .int (iI (s)), .int (iI (n)), px_jk, px_jk, px_jk, px_jk, px_jk], [], (sh, M0)) (fun r h' => ∃ v M', r = some (.int (iI v)) ∧ h' = (sh, M') ∧ px_qk sh [228, 229] M0 M' ∧ v = -1 ∧ M' 228 1 = -1 ∧ M' 229 = bmp (M0 229) (-1) ∧ rz [1] M0 M')
  refine rr_aload_n pf_300_0 rfl ?_
  refine rr_iconst pf_300_1 ?_
  refine vr_putI hW q0 pf_300_2 po_300 pg_9_177 (Or.inl rfl) rfl (ws_228 hW) (by decide) (by unfold rg; omega) (by decide) (fun M1 eM1 q2 => ?_)
  have rq3 := rz_up (rz_rf [1] M0) eM1 (by decide)
  have e4 : M1 229 = M0 229 := (show M1 229 = M0 229 by rw [eM1, ask_ne (by decide)]).trans (rfl : M0 229 = M0 229)
  refine rr_iload_n pf_300_5 rfl ?_
  refine rr_i2l pf_300_6 hs0 ?_
  refine rr_lconst (w := 0) pf_300_7 rfl ?_
  refine rr_ldc2_w pf_300_8 po_300 pl_9_305 ?_
  refine rr_cS3 pf_300_11 po_300 pc_9_197 (by decide) rfl (ct_R_in (by omega) (rl_rg hs0) (by unfold rl; omega) (by unfold rl; omega)) ?_
  refine rr_ifb_eq 29 pf_300_14 (by decide) (fun c5 => ?_) (fun c5 => ?_)
  · refine rr_aload_n pf_300_29 rfl ?_
    refine rr_iconst pf_300_30 ?_
    obtain ⟨M6, ⟨kq7, taM6, tbM6⟩, hcM6⟩ := ct_R_tell (xs := xs) (L := L) (d := d) (v := (-1)) (by omega) hW q2.1 q2.2.1 (by unfold rg; omega) (by omega) (by rw [e4]; exact hrf)
    have q7 := qk_trm q2 kq7 (by decide)
    have rq8 := rz_tell rq3 taM6 (by decide)
    have stM6 : M6 228 1 = if ((-1) : Int) < 0 then (-1) else 0 := by rw [taM6, up_s]
    have rfM6 : M6 229 = bmp (M0 229) (-1) := by rw [tbM6, e4]; rfl
    refine rr_cV1 pf_300_31 po_300 pc_9_186 (ws_228 hW) po_176 (by decide) rfl hcM6 ?_
    refine rr_iret pf_300_34 pt_300 ⟨_, M6, rfl, rfl, q7, (by rfl), (stM6), (rfM6), (rq8)⟩
  · refine rr_iload_n pf_300_17 rfl ?_
    refine rr_i2l pf_300_18 hn0 ?_
    refine rr_lconst (w := 1) pf_300_19 rfl ?_
    refine rr_ldc2_w pf_300_20 po_300 pl_9_470 ?_
    refine rr_cS3 pf_300_23 po_300 pc_9_197 (by decide) rfl (ct_R_in (by omega) (rl_rg hn0) (by unfold rl; omega) (by unfold rl; omega)) ?_
    refine rr_ifb_ne 35 pf_300_26 (by decide) (fun c9 => ?_) (fun c9 => ?_)
    · exfalso; omega
    · refine rr_aload_n pf_300_29 rfl ?_
      refine rr_iconst pf_300_30 ?_
      obtain ⟨M10, ⟨kq11, taM10, tbM10⟩, hcM10⟩ := ct_R_tell (xs := xs) (L := L) (d := d) (v := (-1)) (by omega) hW q2.1 q2.2.1 (by unfold rg; omega) (by omega) (by rw [e4]; exact hrf)
      have q11 := qk_trm q2 kq11 (by decide)
      have rq12 := rz_tell rq3 taM10 (by decide)
      have stM10 : M10 228 1 = if ((-1) : Int) < 0 then (-1) else 0 := by rw [taM10, up_s]
      have rfM10 : M10 229 = bmp (M0 229) (-1) := by rw [tbM10, e4]; rfl
      refine rr_cV1 pf_300_31 po_300 pc_9_186 (ws_228 hW) po_176 (by decide) rfl hcM10 ?_
      refine rr_iret pf_300_34 pt_300 ⟨_, M10, rfl, rfl, q11, (by rfl), (stM10), (rfM10), (rq12)⟩
theorem ct_R_years0 {xs : Nat → Int} {L d : Nat} {sh : List (Nat × Nat)} {M0 : Nat → Nat → Int} (hd : 4 ≤ d) (hW : px_W0 <+: sh) (hF : px_Fx M0) (hG : px_RG sh M0)  (hrf : ∀ j, j < 7 → 0 ≤ M0 229 j ∧ M0 229 j ≤ 1000000000) {s n : Int} (hs0 : 0 ≤ s ∧ s ≤ 1000000) (hn0 : 1 ≤ n ∧ n ≤ 60) (h0w : rr_ M0 0 = 0) : ∃ v M, (px_qk sh [228, 229] M0 M ∧ (v = -3) ∧ (M 228 1 = -3) ∧ (M 229 = bmp (M0 229) (-3)) ∧ (rz [1] M0 M)) ∧ px_Cl xs L d 300 [.ref 228, .int (iI (s)), .int (iI (n))] (sh, M0) (some (.int (iI v))) (sh, M) := by
  obtain ⟨d, rfl⟩ : ∃ e, d = e + 1 := ⟨d - 1, by omega⟩
  have q0 : px_qk sh [228, 229] M0 M0 := ⟨hF, hG, eo_rf⟩
  refine vc_i (Nat.le_of_ble_eq_true rfl) ?_
  show px_R xs L d 300 (0, [.ref 228, .int (iI (s)), .int (iI (n)), px_jk, px_jk, px_jk, px_jk, px_jk], [], (sh, M0)) (fun r h' => ∃ v M', r = some (.int (iI v)) ∧ h' = (sh, M') ∧ px_qk sh [228, 229] M0 M' ∧ v = -3 ∧ M' 228 1 = -3 ∧ M' 229 = bmp (M0 229) (-3) ∧ rz [1] M0 M')
  refine rr_aload_n pf_300_0 rfl ?_
  refine rr_iconst pf_300_1 ?_
  refine vr_putI hW q0 pf_300_2 po_300 pg_9_177 (Or.inl rfl) rfl (ws_228 hW) (by decide) (by unfold rg; omega) (by decide) (fun M1 eM1 q2 => ?_)
  have rq3 := rz_up (rz_rf [1] M0) eM1 (by decide)
  have e4 : M1 229 = M0 229 := (show M1 229 = M0 229 by rw [eM1, ask_ne (by decide)]).trans (rfl : M0 229 = M0 229)
  refine rr_iload_n pf_300_5 rfl ?_
  refine rr_i2l pf_300_6 (by unfold rg; omega) ?_
  refine rr_lconst (w := 0) pf_300_7 rfl ?_
  refine rr_ldc2_w pf_300_8 po_300 pl_9_305 ?_
  refine rr_cS3 pf_300_11 po_300 pc_9_197 (by decide) rfl (ct_R_in (by omega) (by unfold rl; omega) (by unfold rl; omega) (by unfold rl; omega)) ?_
  refine rr_ifb_eq 29 pf_300_14 (by decide) (fun c5 => ?_) (fun c5 => ?_)
  · exfalso; omega
  · refine rr_iload_n pf_300_17 rfl ?_
    refine rr_i2l pf_300_18 (by unfold rg; omega) ?_
    refine rr_lconst (w := 1) pf_300_19 rfl ?_
    refine rr_ldc2_w pf_300_20 po_300 pl_9_470 ?_
    refine rr_cS3 pf_300_23 po_300 pc_9_197 (by decide) rfl (ct_R_in (by omega) (by unfold rl; omega) (by unfold rl; omega) (by unfold rl; omega)) ?_
    refine rr_ifb_ne 35 pf_300_26 (by decide) (fun c6 => ?_) (fun c6 => ?_)
    · refine rr_aload_n pf_300_35 rfl ?_
      refine rr_getR pf_300_36 po_300 pg_9_13 rfl (ws_228 hW) (by decide) (wr_228_3 q2.1) ?_
      refine rr_iconst pf_300_39 ?_
      refine vr_iald (j := 0) q2 pf_300_40 (ws_230 hW) (by omega) (by omega) (by decide) (fun x7 hx7 rx7 => ?_)
      rw [q2.2.2 230 (by decide)] at hx7
      rw [rr_at (M := M0) (i := 0) (by omega)] at hx7
      refine rr_if_ne 51 pf_300_41 (by decide) rx7 (fun c8 => ?_) (fun c8 => ?_)
      · exfalso; omega
      · refine rr_aload_n pf_300_44 rfl ?_
        refine rr_bipush pf_300_45 (by decide) ?_
        obtain ⟨M9, ⟨kq10, taM9, tbM9⟩, hcM9⟩ := ct_R_tell (xs := xs) (L := L) (d := d) (v := (-3)) (by omega) hW q2.1 q2.2.1 (by unfold rg; omega) (by omega) (by rw [e4]; exact hrf)
        have q10 := qk_trm q2 kq10 (by decide)
        have rq11 := rz_tell rq3 taM9 (by decide)
        have stM9 : M9 228 1 = if ((-3) : Int) < 0 then (-3) else 0 := by rw [taM9, up_s]
        have rfM9 : M9 229 = bmp (M0 229) (-3) := by rw [tbM9, e4]; rfl
        refine rr_cV1 pf_300_47 po_300 pc_9_186 (ws_228 hW) po_176 (by decide) rfl hcM9 ?_
        refine rr_iret pf_300_50 pt_300 ⟨_, M9, rfl, rfl, q10, (by rfl), (stM9), (rfM9), (rq11)⟩
    · exfalso; omega
