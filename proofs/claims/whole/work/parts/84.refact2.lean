/-! the reference: steps once more, with what they leave of what was kept ahead of orders -/
theorem lp_R_remember2_41 {xs : Nat → Int} {L d : Nat} {sh : List (Nat × Nat)} (hd : 1 ≤ d) (hW : px_W0 <+: sh) {M0 : Nat → Nat → Int}  {kd : Int} (hkd : rg kd) {Ma : Nat → Nat → Int} {Q : Option Value → px_H → Prop} (kx : ∀ (i : Nat) (M : Nat → Nat → Int), px_qk sh [228, 233, 234] M0 M → (∀ j, M 234 j = if j < 15 then M0 234 (j + 1) else M0 234 j) → (M 233 = Ma 233 ∧ M 228 = M0 228) → px_R xs L d 250 (67, [.ref 228, .int (iI (kd)), .int (iI (((i : Nat) : Int)))], [], (sh, M)) Q)  : ∀ (mz : Nat) (i : Nat) (M : Nat → Nat → Int), 15 - i = mz → px_qk sh [228, 233, 234] M0 M → (i ≤ 15) → (∀ j, M 234 j = if j < i then M0 234 (j + 1) else M0 234 j) → (M 233 = Ma 233 ∧ M 228 = M0 228) → px_R xs L d 250 (41, [.ref 228, .int (iI (kd)), .int (iI (((i : Nat) : Int)))], [], (sh, M)) Q := by
  intro mz
  induction mz using Nat.strongRecOn with
  | _ mz ih =>
    intro i M hm hq hi h1 h2
    refine rr_iload_n pf_250_41 rfl ?_
    refine rr_bipush pf_250_42 (by decide) ?_
    refine rr_icmp_ge 67 pf_250_44 (by decide) (by unfold rg; omega) (by unfold rg; omega) (fun c1 => ?_) (fun c1 => ?_)
    · exact kx i M hq (by rw [show i = 15 by omega] at h1; exact h1) (h2)
    · refine rr_aload_n pf_250_47 rfl ?_
      refine rr_getR pf_250_48 po_250 pg_9_26 rfl (ws_228 hW) (by decide) (wr_228_7 hq.1) ?_
      refine rr_iload_n pf_250_51 rfl ?_
      refine rr_aload_n pf_250_52 rfl ?_
      refine rr_getR pf_250_53 po_250 pg_9_26 rfl (ws_228 hW) (by decide) (wr_228_7 hq.1) ?_
      refine rr_iload_n pf_250_56 rfl ?_
      refine rr_iconst pf_250_57 ?_
      refine rr_iadd pf_250_58 ?_
      refine vr_iald (j := 1 + i) hq pf_250_59 (ws_234 hW) (by omega) (by omega) (by decide) (fun x2 hx2 rx2 => ?_)
      have hx9 := hx2
      refine vr_iast (j := i) hW hq pf_250_60 (ws_234 hW) (by omega) (by omega) (by decide) rx2 (by decide) (fun M3 eM3 q4 => ?_)
      refine rr_iinc pf_250_61 rfl (fun y => [.ref 228, .int (iI (kd)), .int (iI (y))]) (fun _ => rfl) (fun y5 hy5 => ?_)
      refine rr_goto 41 pf_250_64 (by decide) ?_
      obtain ⟨nz6, hnz6, rfl⟩ : ∃ zz : Nat, zz = 1 + i ∧ y5 = ((zz : Nat) : Int) := ⟨1 + i, rfl, by omega⟩
      exact ih _ (by omega) nz6 M3 rfl q4 (by omega) (by
                  intro j; rw [eM3, ask_up]; by_cases hj : j = i
                  · rw [if_pos hj, if_pos (by omega), hx9, h1, if_neg (by omega), hj, Nat.add_comm]
                  · rw [if_neg hj, h1]; by_cases hc : j < i
                    · rw [if_pos hc, if_pos (by omega)]
                    · rw [if_neg hc, if_neg (by omega)]) (by exact ⟨by rw [eM3, ask_ne (by decide)]; exact h2.1, by rw [eM3, ask_ne (by decide)]; exact h2.2⟩)
theorem lp_R_remember2_11 {xs : Nat → Int} {L d : Nat} {sh : List (Nat × Nat)} (hd : 1 ≤ d) (hW : px_W0 <+: sh) {M0 : Nat → Nat → Int}  {kd : Int} (hkd : rg kd)  {Q : Option Value → px_H → Prop} (kx : ∀ (i : Nat) (M : Nat → Nat → Int), px_qk sh [228, 233, 234] M0 M → (∀ j, M 233 j = if j < 960 then M0 233 (j + 64) else M0 233 j) → (M 234 = M0 234 ∧ M 228 = M0 228) → px_R xs L d 250 (39, [.ref 228, .int (iI (kd)), .int (iI (((i : Nat) : Int)))], [], (sh, M)) Q)  : ∀ (mz : Nat) (i : Nat) (M : Nat → Nat → Int), 960 - i = mz → px_qk sh [228, 233, 234] M0 M → (i ≤ 960) → (∀ j, M 233 j = if j < i then M0 233 (j + 64) else M0 233 j) → (M 234 = M0 234 ∧ M 228 = M0 228) → px_R xs L d 250 (11, [.ref 228, .int (iI (kd)), .int (iI (((i : Nat) : Int)))], [], (sh, M)) Q := by
  intro mz
  induction mz using Nat.strongRecOn with
  | _ mz ih =>
    intro i M hm hq hi h1 h2
    refine rr_iload_n pf_250_11 rfl ?_
    refine rr_sipush pf_250_12 (by decide) ?_
    refine rr_icmp_ge 39 pf_250_15 (by decide) (by unfold rg; omega) (by unfold rg; omega) (fun c1 => ?_) (fun c1 => ?_)
    · exact kx i M hq (by rw [show i = 960 by omega] at h1; exact h1) (h2)
    · refine rr_aload_n pf_250_18 rfl ?_
      refine rr_getR pf_250_19 po_250 pg_9_23 rfl (ws_228 hW) (by decide) (wr_228_6 hq.1) ?_
      refine rr_iload_n pf_250_22 rfl ?_
      refine rr_aload_n pf_250_23 rfl ?_
      refine rr_getR pf_250_24 po_250 pg_9_23 rfl (ws_228 hW) (by decide) (wr_228_6 hq.1) ?_
      refine rr_iload_n pf_250_27 rfl ?_
      refine rr_bipush pf_250_28 (by decide) ?_
      refine rr_iadd pf_250_30 ?_
      refine vr_iald (j := 64 + i) hq pf_250_31 (ws_233 hW) (by omega) (by omega) (by decide) (fun x2 hx2 rx2 => ?_)
      have hx9 := hx2
      refine vr_iast (j := i) hW hq pf_250_32 (ws_233 hW) (by omega) (by omega) (by decide) rx2 (by decide) (fun M3 eM3 q4 => ?_)
      refine rr_iinc pf_250_33 rfl (fun y => [.ref 228, .int (iI (kd)), .int (iI (y))]) (fun _ => rfl) (fun y5 hy5 => ?_)
      refine rr_goto 11 pf_250_36 (by decide) ?_
      obtain ⟨nz6, hnz6, rfl⟩ : ∃ zz : Nat, zz = 1 + i ∧ y5 = ((zz : Nat) : Int) := ⟨1 + i, rfl, by omega⟩
      exact ih _ (by omega) nz6 M3 rfl q4 (by omega) (by
                  intro j; rw [eM3, ask_up]; by_cases hj : j = i
                  · rw [if_pos hj, if_pos (by omega), hx9, h1, if_neg (by omega), hj, Nat.add_comm]
                  · rw [if_neg hj, h1]; by_cases hc : j < i
                    · rw [if_pos hc, if_pos (by omega)]
                    · rw [if_neg hc, if_neg (by omega)]) (by exact ⟨by rw [eM3, ask_ne (by decide)]; exact h2.1, by rw [eM3, ask_ne (by decide)]; exact h2.2⟩)
theorem ct_R_remember2 {xs : Nat → Int} {L d : Nat} {sh : List (Nat × Nat)} {M0 : Nat → Nat → Int} (hd : 2 ≤ d) (hW : px_W0 <+: sh) (hF : px_Fx M0) (hG : px_RG sh M0)  {tl : sp_T} (htl : tlR M0 tl) {kd : Int} (hkd : rg kd) : ∃ M, (px_qk sh [228, 233, 234] M0 M ∧ (tlR M (tpush tl (kd, rr_ M0))) ∧ (rs M0 M) ∧ (∀ j, 1024 ≤ j → M 233 j = M0 233 j)) ∧ px_Cl xs L d 250 [.ref 228, .int (iI (kd))] (sh, M0) (none) (sh, M) := by
  obtain ⟨d, rfl⟩ : ∃ e, d = e + 1 := ⟨d - 1, by omega⟩
  have q0 : px_qk sh [228, 233, 234] M0 M0 := ⟨hF, hG, eo_rf⟩
  have h8 := htl.1
  have h16 := htl.2.1
  refine vc_n (Nat.le_of_ble_eq_true rfl) ?_
  show px_R xs L d 250 (0, [.ref 228, .int (iI (kd)), px_jk], [], (sh, M0)) (fun r h' => r = none ∧ ∃ M', h' = (sh, M') ∧ px_qk sh [228, 233, 234] M0 M' ∧ tlR M' (tpush tl (kd, rr_ M0)) ∧ rs M0 M' ∧ (∀ j, 1024 ≤ j → M' 233 j = M0 233 j))
  refine rr_aload_n pf_250_0 rfl ?_
  refine vr_getI q0 pf_250_1 po_250 pg_9_183 rfl (ws_228 hW) (by decide) (fun x1 hx1 rx1 => ?_)
  rw [h8] at hx1
  refine rr_bipush pf_250_4 (by decide) ?_
  refine rr_icmp_ne 77 pf_250_6 (by decide) rx1 (by unfold rg; omega) (fun c2 => ?_) (fun c2 => ?_)
  · refine rr_aload_n pf_250_77 rfl ?_
    refine rr_aload_n pf_250_78 rfl ?_
    refine vr_getI q0 pf_250_79 po_250 pg_9_183 rfl (ws_228 hW) (by decide) (fun x3 hx3 rx3 => ?_)
    rw [h8] at hx3
    obtain ⟨M4, ⟨kq5, ka_M4⟩, hcM4⟩ := ct_R_keepAll (xs := xs) (L := L) (d := d) (k := (tl.length)) (by omega) hW q0.1 q0.2.1 (by omega)
    rw [show ((tl.length : Nat) : Int) = x3 by omega] at hcM4
    have q5 := qk_trm q0 kq5 (by decide)
    refine rr_cV1 pf_250_82 po_250 pc_9_190 (ws_228 hW) po_251 (by decide) rfl hcM4 ?_
    
    refine rr_aload_n pf_250_85 rfl ?_
    refine rr_getR pf_250_86 po_250 pg_9_26 rfl (ws_228 hW) (by decide) (wr_228_7 q5.1) ?_
    refine rr_aload_n pf_250_89 rfl ?_
    refine vr_getI q5 pf_250_90 po_250 pg_9_183 rfl (ws_228 hW) (by decide) (fun x6 hx6 rx6 => ?_)
    rw [kq5.2.2 228 (by decide), h8] at hx6
    refine rr_iload_n pf_250_93 rfl ?_
    refine vr_iast (j := tl.length) hW q5 pf_250_94 (ws_234 hW) (by omega) (by omega) (by decide) hkd (by decide) (fun M7 eM7 q8 => ?_)
    refine rr_aload_n pf_250_95 rfl ?_
    refine rr_dup pf_250_96 rfl ?_
    refine vr_getI q8 pf_250_97 po_250 pg_9_183 rfl (ws_228 hW) (by decide) (fun x9 hx9 rx9 => ?_)
    rw [eM7, ask_ne (by decide), kq5.2.2 228 (by decide), h8] at hx9
    refine rr_iconst pf_250_100 ?_
    refine rr_iadd pf_250_101 ?_
    refine vr_putI hW q8 pf_250_102 po_250 pg_9_183 (Or.inl rfl) rfl (ws_228 hW) (by decide) (by unfold rg; omega) (by decide) (fun M10 eM10 q11 => ?_)
    refine rr_vret pf_250_105 pt_250 ⟨rfl, M10, rfl, q11, tlR_push htl (s := 0) (by omega) (by rw [eM10, up_s]; omega) (fun k i hk hi => by rw [eM10, ask_ne (by decide), eM7, ask_ne (by decide), ka_M4, if_neg (by omega)]; rfl) (fun k hk => by rw [eM10, ask_ne (by decide), eM7, up_ne (by omega), (kq5.2.2 234 (by decide))]; rfl) (fun i hi => by rw [eM10, ask_ne (by decide), eM7, ask_ne (by decide), ka_M4, if_pos (by omega)]; congr 1; omega) (by rw [eM10, ask_ne (by decide), eM7, show tl.length - 0 = tl.length by omega, up_s]), fun j h8 hj => by rw [eM10, up_ne h8, eM7, ask_ne (by decide), (kq5.2.2 228 (by decide))], fun j hj => by rw [eM10, ask_ne (by decide), eM7, ask_ne (by decide), ka_M4, if_neg (by omega)]⟩
  · refine rr_iconst pf_250_9 ?_
    refine rr_istore_n pf_250_10 (fun y => [.ref 228, .int (iI (kd)), .int (iI (y))]) (Nat.le_of_ble_eq_true rfl) (fun _ => rfl) (fun y12 hy12 => ?_)
    obtain ⟨nz13, hnz13, rfl⟩ : ∃ zz : Nat, zz = 0 ∧ y12 = ((zz : Nat) : Int) := ⟨0, rfl, by omega⟩
    refine lp_R_remember2_11 (xs := xs) (L := L) (d := d) (by omega) hW hkd (fun i_14  M15 q16 x1_M15 x2_M15 => ?_) _ nz13 M0 rfl q0 (by omega) (by intro j; rw [if_neg (by omega)]) (⟨rfl, rfl⟩)
    refine rr_iconst pf_250_39 ?_
    refine rr_istore_n pf_250_40 (fun y => [.ref 228, .int (iI (kd)), .int (iI (y))]) (Nat.le_of_ble_eq_true rfl) (fun _ => rfl) (fun y17 hy17 => ?_)
    obtain ⟨nz18, hnz18, rfl⟩ : ∃ zz : Nat, zz = 0 ∧ y17 = ((zz : Nat) : Int) := ⟨0, rfl, by omega⟩
    refine lp_R_remember2_41 (xs := xs) (L := L) (d := d) (by omega) hW hkd (fun i_19  M20 q21 x1b_M20 x2b_M20 => ?_) _ nz18 M15 rfl q16 (by omega) (by intro j; rw [if_neg (by omega), x2_M15.1]) (⟨rfl, x2_M15.2⟩)
    refine rr_aload_n pf_250_67 rfl ?_
    refine rr_dup pf_250_68 rfl ?_
    refine vr_getI q21 pf_250_69 po_250 pg_9_183 rfl (ws_228 hW) (by decide) (fun x22 hx22 rx22 => ?_)
    rw [x2b_M20.2, h8] at hx22
    refine rr_iconst pf_250_72 ?_
    refine rr_isub pf_250_73 ?_
    refine vr_putI hW q21 pf_250_74 po_250 pg_9_183 (Or.inl rfl) rfl (ws_228 hW) (by decide) (by unfold rg; omega) (by decide) (fun M23 eM23 q24 => ?_)
    refine rr_aload_n pf_250_77 rfl ?_
    refine rr_aload_n pf_250_78 rfl ?_
    refine vr_getI q24 pf_250_79 po_250 pg_9_183 rfl (ws_228 hW) (by decide) (fun x25 hx25 rx25 => ?_)
    rw [eM23, up_s] at hx25
    obtain ⟨M26, ⟨kq27, ka_M26⟩, hcM26⟩ := ct_R_keepAll (xs := xs) (L := L) (d := d) (k := 15) (by omega) hW q24.1 q24.2.1 (by omega)
    rw [show ((15 : Nat) : Int) = x25 by omega] at hcM26
    have q27 := qk_trm q24 kq27 (by decide)
    refine rr_cV1 pf_250_82 po_250 pc_9_190 (ws_228 hW) po_251 (by decide) rfl hcM26 ?_
    
    refine rr_aload_n pf_250_85 rfl ?_
    refine rr_getR pf_250_86 po_250 pg_9_26 rfl (ws_228 hW) (by decide) (wr_228_7 q27.1) ?_
    refine rr_aload_n pf_250_89 rfl ?_
    refine vr_getI q27 pf_250_90 po_250 pg_9_183 rfl (ws_228 hW) (by decide) (fun x28 hx28 rx28 => ?_)
    rw [kq27.2.2 228 (by decide), eM23, up_s] at hx28
    refine rr_iload_n pf_250_93 rfl ?_
    refine vr_iast (j := 15) hW q27 pf_250_94 (ws_234 hW) (by omega) (by omega) (by decide) hkd (by decide) (fun M29 eM29 q30 => ?_)
    refine rr_aload_n pf_250_95 rfl ?_
    refine rr_dup pf_250_96 rfl ?_
    refine vr_getI q30 pf_250_97 po_250 pg_9_183 rfl (ws_228 hW) (by decide) (fun x31 hx31 rx31 => ?_)
    rw [eM29, ask_ne (by decide), kq27.2.2 228 (by decide), eM23, up_s] at hx31
    refine rr_iconst pf_250_100 ?_
    refine rr_iadd pf_250_101 ?_
    refine vr_putI hW q30 pf_250_102 po_250 pg_9_183 (Or.inl rfl) rfl (ws_228 hW) (by decide) (by unfold rg; omega) (by decide) (fun M32 eM32 q33 => ?_)
    refine rr_vret pf_250_105 pt_250 ⟨rfl, M32, rfl, q33, tlR_push htl (s := 1) (by omega) (by rw [eM32, up_s]; omega) (fun k i hk hi => by rw [eM32, ask_ne (by decide), eM29, ask_ne (by decide), ka_M26, if_neg (by omega), eM23, ask_ne (by decide), x2b_M20.1, x1_M15, if_pos (by omega), show i + 64 * k + 64 = i + 64 * (k + 1) by omega]) (fun k hk => by rw [eM32, ask_ne (by decide), eM29, up_ne (by omega), (kq27.2.2 234 (by decide)), eM23, ask_ne (by decide), x1b_M20, if_pos (by omega)]) (fun i hi => by rw [eM32, ask_ne (by decide), eM29, ask_ne (by decide), ka_M26, if_pos (by omega), show 5 + (i + 64 * (tl.length - 1) - 64 * 15) = 5 + i by omega, q24.2.2 230 (by decide)]) (by rw [eM32, ask_ne (by decide), eM29, show tl.length - 1 = 15 by omega, up_s]), fun j h8 hj => by rw [eM32, up_ne h8, eM29, ask_ne (by decide), (kq27.2.2 228 (by decide)), eM23, up_ne h8, x2b_M20.2], fun j hj => by rw [eM32, ask_ne (by decide), eM29, ask_ne (by decide), ka_M26, if_neg (by omega), eM23, ask_ne (by decide), x2b_M20.1, x1_M15, if_neg (by omega)]⟩
theorem ct_R_preachNow2 {xs : Nat → Int} {L d : Nat} {sh : List (Nat × Nat)} {M0 : Nat → Nat → Int} (hd : 12 ≤ d) (hW : px_W0 <+: sh) (hF : px_Fx M0) (hG : px_RG sh M0)  (hρ : sp_ok (rr_ M0)) {lw : List sp_C} (hlw : px_lwR M0 lw) (hord : M0 228 20 = 0) {tl : sp_T} (htl : tlR M0 tl) {w : Int} (hw0 : rg w) : ∃ v M, (px_qk sh [228, 230, 233, 234, 246, 248, 249, 250] M0 M ∧ (v = sp_preV lw (rr_ M0) w) ∧ (rr_ M = sp_preW lw (rr_ M0) w) ∧ (r9 M0 M) ∧ (tlR M (if 0 ≤ v then tpush tl (0, rr_ M0) else tl)) ∧ (∀ j, 1024 ≤ j → M 233 j = M0 233 j) ∧ (rs M0 M)) ∧ px_Cl xs L d 249 [.ref 228, .int (iI (w))] (sh, M0) (some (.int (iI v))) (sh, M) := by
  obtain ⟨d, rfl⟩ : ∃ e, d = e + 1 := ⟨d - 1, by omega⟩
  have q0 : px_qk sh [228, 230, 233, 234, 246, 248, 249, 250] M0 M0 := ⟨hF, hG, eo_rf⟩
  refine vc_i (Nat.le_of_ble_eq_true rfl) ?_
  show px_R xs L d 249 (0, [.ref 228, .int (iI (w))], [], (sh, M0)) (fun r h' => ∃ v M', r = some (.int (iI v)) ∧ h' = (sh, M') ∧ px_qk sh [228, 230, 233, 234, 246, 248, 249, 250] M0 M' ∧ v = sp_preV lw (rr_ M0) w ∧ rr_ M' = sp_preW lw (rr_ M0) w ∧ r9 M0 M' ∧ tlR M' (if 0 ≤ v then tpush tl (0, rr_ M0) else tl) ∧ (∀ j, 1024 ≤ j → M' 233 j = M0 233 j) ∧ rs M0 M')
  refine rr_aload_n pf_249_0 rfl ?_
  refine rr_iload_n pf_249_1 rfl ?_
  refine rr_cV1 pf_249_2 po_249 pc_9_216 (ws_228 hW) po_185 (by decide) rfl (ct_R_isWord1N (n := rr_ M0 0) (by omega) hW q0.1 q0.2.1 hw0 (rr_at (by omega))) ?_
  refine rr_ifb_ne 11 pf_249_5 (by decide) (fun c1 => ?_) (fun c1 => ?_)
  · have h0 := hρ.1
    refine rr_aload_n pf_249_11 rfl ?_
    refine rr_iload_n pf_249_12 rfl ?_
    obtain ⟨M2, ⟨kq3, pf_M2⟩, hcM2⟩ := ct_R_isBarred (xs := xs) (L := L) (d := d) (w := (w).toNat) (lw := lw) (by omega) hW q0.1 q0.2.1 hρ hlw hord (by omega)
    rw [show (((w).toNat : Nat) : Int) = w by omega] at hcM2
    have q3 := qk_trm q0 kq3 (by decide)
    have rq5 := rs_tr (rs_rf M0) (rs_rq pf_M2)
    have e6 : M2 230 = M0 230 := (kq3.2.2 230 (by decide)).trans (rfl : M0 230 = M0 230)
    have e7 : M2 233 = M0 233 := (kq3.2.2 233 (by decide)).trans (rfl : M0 233 = M0 233)
    refine rr_cV1 pf_249_13 po_249 pc_9_221 (ws_228 hW) po_186 (by decide) rfl hcM2 ?_
    
    refine rr_ifb_eq 22 pf_249_16 (by decide) (fun c8 => ?_) (fun c8 => ?_)
    · have hbar := c8
      refine rr_aload_n pf_249_22 rfl ?_
      refine rr_iconst pf_249_23 ?_
      obtain ⟨M9, ⟨kq10, pt_M9, pf_M9, p24_M9⟩, hcM9⟩ := ct_R_remember2 (xs := xs) (L := L) (d := d) (kd := 0) (tl := tl) (by omega) hW q3.1 q3.2.1 (tl_q htl kq3 (pf_M2 8 (by decide)) (by decide) (by decide)) (by unfold rg; omega)
      have q10 := qk_trm q3 kq10 (by decide)
      rw [rr_eq e6] at pt_M9
      have rq12 := rs_tr rq5 pf_M9
      have e13 : M9 230 = M0 230 := (kq10.2.2 230 (by decide)).trans e6
      refine rr_cV1 pf_249_24 po_249 pc_9_478 (ws_228 hW) po_250 (by decide) rfl hcM9 ?_
      have r24M9 : ∀ j, 1024 ≤ j → M9 233 j = M0 233 j := fun j hj => by rw [p24_M9 j hj, e7]
      
      refine rr_aload_n pf_249_27 rfl ?_
      have h0 := hρ.1
      refine rr_iload_n pf_249_28 rfl ?_
      obtain ⟨r16, M14, ⟨kq15, pv_M14, pr_M14, p9_M14, pf_M14⟩, hcM14⟩ := ct_R_preachIt (xs := xs) (L := L) (d := d) (w := (w).toNat) (lw := lw) (by omega) hW q10.1 q10.2.1 (by rw [rr_eq e13]; exact hρ) (lwR_eq e13 hlw) ((rq12 20 (by decide) (by decide)).trans hord) (by omega)
      rw [show (((w).toNat : Nat) : Int) = w by omega] at hcM14
      have q15 := qk_trm q10 kq15 (by decide)
      rw [rr_eq e13] at pv_M14
      rw [rr_eq e13] at pr_M14
      have rq17 := rs_tr rq12 (rs_rq pf_M14)
      refine rr_cV1 pf_249_29 po_249 pc_9_481 (ws_228 hW) po_252 (by decide) rfl hcM14 ?_
      have hAb := sp_preA_b (lw := lw) hρ (w := w.toNat) (by omega) 16 (by omega)
      refine rr_iret pf_249_32 pt_249 ⟨_, M14, rfl, rfl, q15, (by rw [pv_M14]; unfold sp_preV; rw [if_pos (by omega), if_neg hbar]), (by rw [pr_M14]; unfold sp_preW; rw [show sp_preV lw (rr_ M0) w = sp_preA lw (rr_ M0) w.toNat 16 by unfold sp_preV; rw [if_pos (by omega), if_neg hbar], if_pos (by omega)]), (r9_tr (r9_eq e13) p9_M14), (by rw [if_pos (by omega)]; exact tl_q pt_M9 kq15 (pf_M14 8 (by decide)) (by decide) (by decide)), (by intro j hj; rw [kq15.2.2 233 (by decide)]; exact r24M9 j hj), (rq17)⟩
    · have hbar := c8
      refine rr_bipush pf_249_19 (by decide) ?_
      refine rr_iret pf_249_21 pt_249 ⟨_, M2, rfl, rfl, q3, (by unfold sp_preV; rw [if_pos (by omega), if_pos hbar]), (by unfold sp_preW; rw [show sp_preV lw (rr_ M0) w = -3 by unfold sp_preV; rw [if_pos (by omega), if_pos hbar], if_neg (by omega)]; exact rr_eq e6), (r9_eq e6), (by rw [if_neg (by omega)]; exact tl_q htl kq3 (pf_M2 8 (by decide)) (by decide) (by decide)), (by intro j hj; rw [e7]), (rq5)⟩
  · refine rr_bipush pf_249_8 (by decide) ?_
    refine rr_iret pf_249_10 pt_249 ⟨_, M0, rfl, rfl, q0, (by unfold sp_preV; rw [if_neg (by omega)]), (by unfold sp_preW; rw [show sp_preV lw (rr_ M0) w = -2 by unfold sp_preV; rw [if_neg (by omega)], if_neg (by omega)]), (r9_eq (rfl : M0 230 = M0 230)), (by rw [if_neg (by omega)]; exact htl), (by intro j hj; rw [(rfl : M0 233 = M0 233)]), ((rs_rf M0))⟩
theorem ct_R_scrapeNow2 {xs : Nat → Int} {L d : Nat} {sh : List (Nat × Nat)} {M0 : Nat → Nat → Int} (hd : 12 ≤ d) (hW : px_W0 <+: sh) (hF : px_Fx M0) (hG : px_RG sh M0)  (hρ : sp_ok (rr_ M0)) {lw : List sp_C} (hlw : px_lwR M0 lw) (hord : M0 228 20 = 0) {tl : sp_T} (htl : tlR M0 tl) {p h : Int} (hp0 : rg p) (hh0 : rg h) : ∃ v M, (px_qk sh [228, 230, 233, 234, 246, 248, 249, 250] M0 M ∧ (v = sp_scrV (rr_ M0) p h) ∧ (rr_ M = sp_scrR (rr_ M0) p h) ∧ (r9 M0 M) ∧ (tlR M (if 0 ≤ v then tpush tl (1, rr_ M0) else tl)) ∧ (∀ j, 1024 ≤ j → M 233 j = M0 233 j) ∧ (rs M0 M)) ∧ px_Cl xs L d 254 [.ref 228, .int (iI (p)), .int (iI (h))] (sh, M0) (some (.int (iI v))) (sh, M) := by
  obtain ⟨d, rfl⟩ : ∃ e, d = e + 1 := ⟨d - 1, by omega⟩
  have q0 : px_qk sh [228, 230, 233, 234, 246, 248, 249, 250] M0 M0 := ⟨hF, hG, eo_rf⟩
  refine vc_i (Nat.le_of_ble_eq_true rfl) ?_
  show px_R xs L d 254 (0, [.ref 228, .int (iI (p)), .int (iI (h))], [], (sh, M0)) (fun r h' => ∃ v M', r = some (.int (iI v)) ∧ h' = (sh, M') ∧ px_qk sh [228, 230, 233, 234, 246, 248, 249, 250] M0 M' ∧ v = sp_scrV (rr_ M0) p h ∧ rr_ M' = sp_scrR (rr_ M0) p h ∧ r9 M0 M' ∧ tlR M' (if 0 ≤ v then tpush tl (1, rr_ M0) else tl) ∧ (∀ j, 1024 ≤ j → M' 233 j = M0 233 j) ∧ rs M0 M')
  refine rr_iload_n pf_254_0 rfl ?_
  refine rr_cS1 pf_254_1 po_254 pc_9_228 (by decide) rfl (ct_R_isPane (by omega) hp0) ?_
  refine rr_ifb_eq 14 pf_254_4 (by decide) (fun c1 => ?_) (fun c1 => ?_)
  · refine rr_iconst pf_254_14 ?_
    refine rr_iret pf_254_15 pt_254 ⟨_, M0, rfl, rfl, q0, (by unfold sp_scrV; rw [if_neg (by omega)]), (by unfold sp_scrR; rw [show sp_scrV (rr_ M0) p h = -1 by unfold sp_scrV; rw [if_neg (by omega)], if_neg (by omega)]), (r9_eq (rfl : M0 230 = M0 230)), (by rw [if_neg (by omega)]; exact htl), (by intro j hj; rw [(rfl : M0 233 = M0 233)]), ((rs_rf M0))⟩
  · refine rr_iload_n pf_254_7 rfl ?_
    refine rr_cS1 pf_254_8 po_254 pc_9_210 (by decide) rfl (ct_R_isHue (by omega) hh0) ?_
    refine rr_ifb_ne 16 pf_254_11 (by decide) (fun c2 => ?_) (fun c2 => ?_)
    · refine rr_aload_n pf_254_16 rfl ?_
      refine rr_getR pf_254_17 po_254 pg_9_13 rfl (ws_228 hW) (by decide) (wr_228_3 q0.1) ?_
      refine rr_bipush pf_254_20 (by decide) ?_
      refine rr_iconst pf_254_22 ?_
      refine rr_iload_n pf_254_23 rfl ?_
      refine rr_imul pf_254_24 ?_
      refine rr_iadd pf_254_25 ?_
      refine rr_iload_n pf_254_26 rfl ?_
      refine rr_iadd pf_254_27 ?_
      refine vr_iald (j := 9 + (p * 3 + h).toNat) q0 pf_254_28 (ws_230 hW) (by omega) (by omega) (by decide) (fun x3 hx3 rx3 => ?_)
      rw [rr_at (M := M0) (i := 9 + (p * 3 + h).toNat) (by omega)] at hx3
      have hhb := hρ.2.2.2.2.2.2.2.2.2.1 (p * 3 + h).toNat (by omega)
      refine rr_if_ne 35 pf_254_29 (by decide) rx3 (fun c4 => ?_) (fun c4 => ?_)
      · refine rr_aload_n pf_254_35 rfl ?_
        refine rr_iconst pf_254_36 ?_
        obtain ⟨M5, ⟨kq6, pt_M5, pf_M5, p24_M5⟩, hcM5⟩ := ct_R_remember2 (xs := xs) (L := L) (d := d) (kd := 1) (tl := tl) (by omega) hW q0.1 q0.2.1 htl (by unfold rg; omega)
        have q6 := qk_trm q0 kq6 (by decide)
        have rq8 := rs_tr (rs_rf M0) pf_M5
        have e9 : M5 230 = M0 230 := (kq6.2.2 230 (by decide)).trans (rfl : M0 230 = M0 230)
        refine rr_cV1 pf_254_37 po_254 pc_9_478 (ws_228 hW) po_250 (by decide) rfl hcM5 ?_
        have r24M5 : ∀ j, 1024 ≤ j → M5 233 j = M0 233 j := fun j hj => by rw [p24_M5 j hj, (rfl : M0 233 = M0 233)]
        
        refine rr_aload_n pf_254_40 rfl ?_
        refine rr_getR pf_254_41 po_254 pg_9_13 rfl (ws_228 hW) (by decide) (wr_228_3 q6.1) ?_
        refine rr_bipush pf_254_44 (by decide) ?_
        refine rr_iconst pf_254_46 ?_
        refine rr_iload_n pf_254_47 rfl ?_
        refine rr_imul pf_254_48 ?_
        refine rr_iadd pf_254_49 ?_
        refine rr_iload_n pf_254_50 rfl ?_
        refine rr_iadd pf_254_51 ?_
        refine rr_dup2 pf_254_52 rfl rfl ?_
        refine vr_iald (j := 9 + (p * 3 + h).toNat) q6 pf_254_53 (ws_230 hW) (by omega) (by omega) (by decide) (fun x10 hx10 rx10 => ?_)
        rw [e9] at hx10
        rw [rr_at (M := M0) (i := 9 + (p * 3 + h).toNat) (by omega)] at hx10
        have hhb := hρ.2.2.2.2.2.2.2.2.2.1 (p * 3 + h).toNat (by omega)
        refine rr_iconst pf_254_54 ?_
        refine rr_isub pf_254_55 ?_
        refine vr_iast (j := 9 + (p * 3 + h).toNat) hW q6 pf_254_56 (ws_230 hW) (by omega) (by omega) (by decide) (by unfold rg; omega) (by decide) (fun M11 eM11 q12 => ?_)
        have rq13 := rs_ne rq8 eM11 (by decide)
        refine rr_aload_n pf_254_57 rfl ?_
        refine rr_getR pf_254_58 po_254 pg_9_13 rfl (ws_228 hW) (by decide) (wr_228_3 q12.1) ?_
        refine rr_bipush pf_254_61 (by decide) ?_
        refine rr_iconst pf_254_63 ?_
        refine rr_iload_n pf_254_64 rfl ?_
        refine rr_imul pf_254_65 ?_
        refine rr_iadd pf_254_66 ?_
        refine rr_iload_n pf_254_67 rfl ?_
        refine rr_iadd pf_254_68 ?_
        refine vr_iald (j := 9 + (p * 3 + h).toNat) q12 pf_254_69 (ws_230 hW) (by omega) (by omega) (by decide) (fun x14 hx14 rx14 => ?_)
        rw [eM11, up_s] at hx14
        refine rr_iret pf_254_70 pt_254 ⟨_, M11, rfl, rfl, q12, (by unfold sp_scrV; rw [if_pos (by omega), if_neg (by omega)]; omega), (by unfold sp_scrR; rw [show sp_scrV (rr_ M0) p h = rr_ M0 (9 + (p * 3 + h).toNat) - 1 by unfold sp_scrV; rw [if_pos (by omega), if_neg (by omega)], if_pos (by omega), rr_w (rr_eq e9) eM11 (by omega)]; congr 1; omega), (r9_up (r9_eq e9) eM11 (by omega)), (by rw [if_pos (by omega)]; exact tlR_eq pt_M5 (by rw [eM11, ask_ne (by decide)]) (by rw [eM11, ask_ne (by decide)]) (by rw [eM11, ask_ne (by decide)])), (by intro j hj; rw [eM11, ask_ne (by decide)]; exact r24M5 j hj), (rq13)⟩
      · refine rr_bipush pf_254_32 (by decide) ?_
        refine rr_iret pf_254_34 pt_254 ⟨_, M0, rfl, rfl, q0, (by unfold sp_scrV; rw [if_pos (by omega), if_pos (by omega)]), (by unfold sp_scrR; rw [show sp_scrV (rr_ M0) p h = -3 by unfold sp_scrV; rw [if_pos (by omega), if_pos (by omega)], if_neg (by omega)]), (r9_eq (rfl : M0 230 = M0 230)), (by rw [if_neg (by omega)]; exact htl), (by intro j hj; rw [(rfl : M0 233 = M0 233)]), ((rs_rf M0))⟩
    · refine rr_iconst pf_254_14 ?_
      refine rr_iret pf_254_15 pt_254 ⟨_, M0, rfl, rfl, q0, (by unfold sp_scrV; rw [if_neg (by omega)]), (by unfold sp_scrR; rw [show sp_scrV (rr_ M0) p h = -1 by unfold sp_scrV; rw [if_neg (by omega)], if_neg (by omega)]), (r9_eq (rfl : M0 230 = M0 230)), (by rw [if_neg (by omega)]; exact htl), (by intro j hj; rw [(rfl : M0 233 = M0 233)]), ((rs_rf M0))⟩
theorem ct_R_walkNow2 {xs : Nat → Int} {L d : Nat} {sh : List (Nat × Nat)} {M0 : Nat → Nat → Int} (hd : 12 ≤ d) (hW : px_W0 <+: sh) (hF : px_Fx M0) (hG : px_RG sh M0)  (hρ : sp_ok (rr_ M0)) {lw : List sp_C} (hlw : px_lwR M0 lw) (hord : M0 228 20 = 0) {tl : sp_T} (htl : tlR M0 tl) {p : Int} (hp0 : rg p) : ∃ v M, (px_qk sh [228, 230, 233, 234, 246, 248, 249, 250] M0 M ∧ (v = sp_walV (rr_ M0) p) ∧ (rr_ M = sp_walR (rr_ M0) p) ∧ (r9 M0 M) ∧ (tlR M (if 0 ≤ v then tpush tl (2, rr_ M0) else tl)) ∧ (∀ j, 1024 ≤ j → M 233 j = M0 233 j) ∧ (rs M0 M)) ∧ px_Cl xs L d 256 [.ref 228, .int (iI (p))] (sh, M0) (some (.int (iI v))) (sh, M) := by
  obtain ⟨d, rfl⟩ : ∃ e, d = e + 1 := ⟨d - 1, by omega⟩
  have q0 : px_qk sh [228, 230, 233, 234, 246, 248, 249, 250] M0 M0 := ⟨hF, hG, eo_rf⟩
  refine vc_i (Nat.le_of_ble_eq_true rfl) ?_
  show px_R xs L d 256 (0, [.ref 228, .int (iI (p)), px_jk], [], (sh, M0)) (fun r h' => ∃ v M', r = some (.int (iI v)) ∧ h' = (sh, M') ∧ px_qk sh [228, 230, 233, 234, 246, 248, 249, 250] M0 M' ∧ v = sp_walV (rr_ M0) p ∧ rr_ M' = sp_walR (rr_ M0) p ∧ r9 M0 M' ∧ tlR M' (if 0 ≤ v then tpush tl (2, rr_ M0) else tl) ∧ (∀ j, 1024 ≤ j → M' 233 j = M0 233 j) ∧ rs M0 M')
  refine rr_aload_n pf_256_0 rfl ?_
  refine rr_getR pf_256_1 po_256 pg_9_13 rfl (ws_228 hW) (by decide) (wr_228_3 q0.1) ?_
  refine rr_bipush pf_256_4 (by decide) ?_
  refine vr_iald (j := 8) q0 pf_256_6 (ws_230 hW) (by omega) (by omega) (by decide) (fun x1 hx1 rx1 => ?_)
  rw [rr_at (M := M0) (i := 8) (by omega)] at hx1
  have hpul := hρ.2.2.2.2.2.2.2.2.1
  refine rr_istore_n pf_256_7 (fun y => [.ref 228, .int (iI (p)), .int (iI (y))]) (Nat.le_of_ble_eq_true rfl) (fun _ => rfl) (fun y2 hy2 => ?_)
  have ry2 : rg y2 := hy2 ▸ rx1
  refine rr_iload_n pf_256_8 rfl ?_
  refine rr_cS1 pf_256_9 po_256 pc_9_228 (by decide) rfl (ct_R_isPane (by omega) hp0) ?_
  refine rr_ifb_eq 20 pf_256_12 (by decide) (fun c3 => ?_) (fun c3 => ?_)
  · refine rr_iconst pf_256_20 ?_
    refine rr_iret pf_256_21 pt_256 ⟨_, M0, rfl, rfl, q0, (by unfold sp_walV; rw [if_neg (by omega)]), (by unfold sp_walR; rw [if_neg (by omega)]), (r9_eq (rfl : M0 230 = M0 230)), (by rw [if_neg (by omega)]; exact htl), (by intro j hj; rw [(rfl : M0 233 = M0 233)]), ((rs_rf M0))⟩
  · refine rr_iload_n pf_256_15 rfl ?_
    refine rr_iload_n pf_256_16 rfl ?_
    refine rr_icmp_ne 22 pf_256_17 (by decide) hp0 ry2 (fun c4 => ?_) (fun c4 => ?_)
    · refine rr_aload_n pf_256_22 rfl ?_
      refine rr_iconst pf_256_23 ?_
      obtain ⟨M5, ⟨kq6, pt_M5, pf_M5, p24_M5⟩, hcM5⟩ := ct_R_remember2 (xs := xs) (L := L) (d := d) (kd := 2) (tl := tl) (by omega) hW q0.1 q0.2.1 htl (by unfold rg; omega)
      have q6 := qk_trm q0 kq6 (by decide)
      have rq8 := rs_tr (rs_rf M0) pf_M5
      have e9 : M5 230 = M0 230 := (kq6.2.2 230 (by decide)).trans (rfl : M0 230 = M0 230)
      refine rr_cV1 pf_256_24 po_256 pc_9_478 (ws_228 hW) po_250 (by decide) rfl hcM5 ?_
      have r24M5 : ∀ j, 1024 ≤ j → M5 233 j = M0 233 j := fun j hj => by rw [p24_M5 j hj, (rfl : M0 233 = M0 233)]
      
      refine rr_aload_n pf_256_27 rfl ?_
      refine rr_getR pf_256_28 po_256 pg_9_13 rfl (ws_228 hW) (by decide) (wr_228_3 q6.1) ?_
      refine rr_bipush pf_256_31 (by decide) ?_
      refine rr_iload_n pf_256_33 rfl ?_
      refine vr_iast (j := 8) hW q6 pf_256_34 (ws_230 hW) (by omega) (by omega) (by decide) hp0 (by decide) (fun M10 eM10 q11 => ?_)
      have rq12 := rs_ne rq8 eM10 (by decide)
      refine rr_iload_n pf_256_35 rfl ?_
      refine rr_iret pf_256_36 pt_256 ⟨_, M10, rfl, rfl, q11, (by unfold sp_walV; rw [if_pos (by omega)]; omega), (by unfold sp_walR; rw [if_pos (by omega), rr_w (rr_eq e9) eM10 (by omega)]), (r9_up (r9_eq e9) eM10 (by omega)), (by rw [if_pos (by omega)]; exact tlR_eq pt_M5 (by rw [eM10, ask_ne (by decide)]) (by rw [eM10, ask_ne (by decide)]) (by rw [eM10, ask_ne (by decide)])), (by intro j hj; rw [eM10, ask_ne (by decide)]; exact r24M5 j hj), (rq12)⟩
    · refine rr_iconst pf_256_20 ?_
      refine rr_iret pf_256_21 pt_256 ⟨_, M0, rfl, rfl, q0, (by unfold sp_walV; rw [if_neg (by omega)]), (by unfold sp_walR; rw [if_neg (by omega)]), (r9_eq (rfl : M0 230 = M0 230)), (by rw [if_neg (by omega)]; exact htl), (by intro j hj; rw [(rfl : M0 233 = M0 233)]), ((rs_rf M0))⟩
theorem ct_R_sitNow2 {xs : Nat → Int} {L d : Nat} {sh : List (Nat × Nat)} {M0 : Nat → Nat → Int} (hd : 12 ≤ d) (hW : px_W0 <+: sh) (hF : px_Fx M0) (hG : px_RG sh M0)  (hρ : sp_ok (rr_ M0)) {lw : List sp_C} (hlw : px_lwR M0 lw) (hord : M0 228 20 = 0) {tl : sp_T} (htl : tlR M0 tl) {l s : Int} (hl0 : rg l) (hs0 : rg s) : ∃ v M, (px_qk sh [228, 230, 233, 234, 246, 248, 249, 250] M0 M ∧ (v = sp_sitV (rr_ M0) l s) ∧ (rr_ M = sp_sitR (rr_ M0) l s) ∧ (r9 M0 M) ∧ (tlR M (if 0 ≤ v then tpush tl (3, rr_ M0) else tl)) ∧ (∀ j, 1024 ≤ j → M 233 j = M0 233 j) ∧ (rs M0 M)) ∧ px_Cl xs L d 258 [.ref 228, .int (iI (l)), .int (iI (s))] (sh, M0) (some (.int (iI v))) (sh, M) := by
  obtain ⟨d, rfl⟩ : ∃ e, d = e + 1 := ⟨d - 1, by omega⟩
  have q0 : px_qk sh [228, 230, 233, 234, 246, 248, 249, 250] M0 M0 := ⟨hF, hG, eo_rf⟩
  refine vc_i (Nat.le_of_ble_eq_true rfl) ?_
  show px_R xs L d 258 (0, [.ref 228, .int (iI (l)), .int (iI (s)), px_jk], [], (sh, M0)) (fun r h' => ∃ v M', r = some (.int (iI v)) ∧ h' = (sh, M') ∧ px_qk sh [228, 230, 233, 234, 246, 248, 249, 250] M0 M' ∧ v = sp_sitV (rr_ M0) l s ∧ rr_ M' = sp_sitR (rr_ M0) l s ∧ r9 M0 M' ∧ tlR M' (if 0 ≤ v then tpush tl (3, rr_ M0) else tl) ∧ (∀ j, 1024 ≤ j → M' 233 j = M0 233 j) ∧ rs M0 M')
  refine rr_iload_n pf_258_0 rfl ?_
  refine rr_cS1 pf_258_1 po_258 pc_9_240 (by decide) rfl (ct_R_isSeat (by omega) hs0) ?_
  refine rr_ifb_ne 9 pf_258_4 (by decide) (fun c1 => ?_) (fun c1 => ?_)
  · refine rr_aload_n pf_258_9 rfl ?_
    refine rr_iload_n pf_258_10 rfl ?_
    refine rr_cV1 pf_258_11 po_258 pc_9_248 (ws_228 hW) po_192 (by decide) rfl (ct_R_isListenerN (n := rr_ M0 1) (by omega) hW q0.1 q0.2.1 hl0 (rr_at (by omega))) ?_
    refine rr_ifb_ne 20 pf_258_14 (by decide) (fun c2 => ?_) (fun c2 => ?_)
    · have h1 := hρ.2.1
      refine rr_aload_n pf_258_20 rfl ?_
      refine rr_iload_n pf_258_21 rfl ?_
      obtain ⟨r5, M3, ⟨kq4, pv_M3, pb_M3⟩, hcM3⟩ := ct_R_onSeat (xs := xs) (L := L) (d := d) (s := s) (by omega) hW q0.1 q0.2.1 hρ hs0
      obtain rfl := qk_nil kq4
      refine rr_cV1 pf_258_22 po_258 pc_9_245 (ws_228 hW) po_205 (by decide) rfl hcM3 ?_
      have hpb := pb_M3
      refine rr_iconst pf_258_25 ?_
      refine rr_icmp_eq 32 pf_258_26 (by decide) (by unfold rg; omega) (by unfold rg; omega) (fun c6 => ?_) (fun c6 => ?_)
      · have hTK := pv_M3.mp (by omega)
        refine rr_aload_n pf_258_32 rfl ?_
        refine rr_iconst pf_258_33 ?_
        obtain ⟨M7, ⟨kq8, pt_M7, pf_M7, p24_M7⟩, hcM7⟩ := ct_R_remember2 (xs := xs) (L := L) (d := d) (kd := 3) (tl := tl) (by omega) hW q0.1 q0.2.1 htl (by unfold rg; omega)
        have q8 := qk_trm q0 kq8 (by decide)
        have rq10 := rs_tr (rs_rf M0) pf_M7
        have e11 : M7 230 = M0 230 := (kq8.2.2 230 (by decide)).trans (rfl : M0 230 = M0 230)
        refine rr_cV1 pf_258_34 po_258 pc_9_478 (ws_228 hW) po_250 (by decide) rfl hcM7 ?_
        have r24M7 : ∀ j, 1024 ≤ j → M7 233 j = M0 233 j := fun j hj => by rw [p24_M7 j hj, (rfl : M0 233 = M0 233)]
        
        refine rr_aload_n pf_258_37 rfl ?_
        refine rr_getR pf_258_38 po_258 pg_9_13 rfl (ws_228 hW) (by decide) (wr_228_3 q8.1) ?_
        refine rr_bipush pf_258_41 (by decide) ?_
        refine rr_iload_n pf_258_43 rfl ?_
        refine rr_iadd pf_258_44 ?_
        refine vr_iald (j := 57 + l.toNat) q8 pf_258_45 (ws_230 hW) (by omega) (by omega) (by decide) (fun x12 hx12 rx12 => ?_)
        rw [e11] at hx12
        rw [rr_at (M := M0) (i := 57 + l.toNat) (by omega)] at hx12
        have hsb := sp_seat_b hρ (l := l.toNat) (by omega)
        refine rr_istore_n pf_258_46 (fun y => [.ref 228, .int (iI (l)), .int (iI (s)), .int (iI (y))]) (Nat.le_of_ble_eq_true rfl) (fun _ => rfl) (fun y13 hy13 => ?_)
        have ry13 : rg y13 := hy13 ▸ rx12
        refine rr_aload_n pf_258_47 rfl ?_
        refine rr_getR pf_258_48 po_258 pg_9_13 rfl (ws_228 hW) (by decide) (wr_228_3 q8.1) ?_
        refine rr_bipush pf_258_51 (by decide) ?_
        refine rr_iload_n pf_258_53 rfl ?_
        refine rr_iadd pf_258_54 ?_
        refine rr_iload_n pf_258_55 rfl ?_
        refine vr_iast (j := 57 + l.toNat) hW q8 pf_258_56 (ws_230 hW) (by omega) (by omega) (by decide) hs0 (by decide) (fun M14 eM14 q15 => ?_)
        have rq16 := rs_ne rq10 eM14 (by decide)
        refine rr_iload_n pf_258_57 rfl ?_
        refine rr_iret pf_258_58 pt_258 ⟨_, M14, rfl, rfl, q15, (by unfold sp_sitV; rw [if_pos (by omega), if_pos (by omega), if_neg hTK]; omega), (by unfold sp_sitR; rw [show sp_sitV (rr_ M0) l s = rr_ M0 (57 + l.toNat) by unfold sp_sitV; rw [if_pos (by omega), if_pos (by omega), if_neg hTK], if_pos (by omega), rr_w (rr_eq e11) eM14 (by omega)]), (r9_up (r9_eq e11) eM14 (by omega)), (by rw [if_pos (by omega)]; exact tlR_eq pt_M7 (by rw [eM14, ask_ne (by decide)]) (by rw [eM14, ask_ne (by decide)]) (by rw [eM14, ask_ne (by decide)])), (by intro j hj; rw [eM14, ask_ne (by decide)]; exact r24M7 j hj), (rq16)⟩
      · have hTK : sp_taken (rr_ M0) s (rr_ M0 1).toNat = true := Decidable.byContradiction (fun z => by have := pv_M3.mpr z; omega)
        refine rr_bipush pf_258_29 (by decide) ?_
        refine rr_iret pf_258_31 pt_258 ⟨_, M0, rfl, rfl, q0, (by unfold sp_sitV; rw [if_pos (by omega), if_pos (by omega), if_pos hTK]), (by unfold sp_sitR; rw [show sp_sitV (rr_ M0) l s = -3 by unfold sp_sitV; rw [if_pos (by omega), if_pos (by omega), if_pos hTK], if_neg (by omega)]), (r9_eq (rfl : M0 230 = M0 230)), (by rw [if_neg (by omega)]; exact htl), (by intro j hj; rw [(rfl : M0 233 = M0 233)]), ((rs_rf M0))⟩
    · refine rr_bipush pf_258_17 (by decide) ?_
      refine rr_iret pf_258_19 pt_258 ⟨_, M0, rfl, rfl, q0, (by unfold sp_sitV; rw [if_pos (by omega), if_neg (by omega)]), (by unfold sp_sitR; rw [show sp_sitV (rr_ M0) l s = -2 by unfold sp_sitV; rw [if_pos (by omega), if_neg (by omega)], if_neg (by omega)]), (r9_eq (rfl : M0 230 = M0 230)), (by rw [if_neg (by omega)]; exact htl), (by intro j hj; rw [(rfl : M0 233 = M0 233)]), ((rs_rf M0))⟩
  · refine rr_iconst pf_258_7 ?_
    refine rr_iret pf_258_8 pt_258 ⟨_, M0, rfl, rfl, q0, (by unfold sp_sitV; rw [if_neg (by omega)]), (by unfold sp_sitR; rw [show sp_sitV (rr_ M0) l s = -1 by unfold sp_sitV; rw [if_neg (by omega)], if_neg (by omega)]), (r9_eq (rfl : M0 230 = M0 230)), (by rw [if_neg (by omega)]; exact htl), (by intro j hj; rw [(rfl : M0 233 = M0 233)]), ((rs_rf M0))⟩
theorem ct_R_passNow2 {xs : Nat → Int} {L d : Nat} {sh : List (Nat × Nat)} {M0 : Nat → Nat → Int} (hd : 12 ≤ d) (hW : px_W0 <+: sh) (hF : px_Fx M0) (hG : px_RG sh M0)  (hρ : sp_ok (rr_ M0)) {lw : List sp_C} (hlw : px_lwR M0 lw) (hord : M0 228 20 = 0) {tl : sp_T} (htl : tlR M0 tl) (h999 : rr_ M0 5 ≤ 999) : ∃ v M, (px_qk sh [228, 230, 233, 234, 246, 248, 249, 250] M0 M ∧ (v = sp_pasV (rr_ M0)) ∧ (rr_ M = sp_pasW lw (rr_ M0)) ∧ (r9 M0 M) ∧ (tlR M (if 0 ≤ v then tpush tl (4, rr_ M0) else tl)) ∧ (∀ j, 1024 ≤ j → M 233 j = M0 233 j) ∧ (rs M0 M)) ∧ px_Cl xs L d 260 [.ref 228] (sh, M0) (some (.int (iI v))) (sh, M) := by
  obtain ⟨d, rfl⟩ : ∃ e, d = e + 1 := ⟨d - 1, by omega⟩
  have q0 : px_qk sh [228, 230, 233, 234, 246, 248, 249, 250] M0 M0 := ⟨hF, hG, eo_rf⟩
  refine vc_i (Nat.le_of_ble_eq_true rfl) ?_
  show px_R xs L d 260 (0, [.ref 228], [], (sh, M0)) (fun r h' => ∃ v M', r = some (.int (iI v)) ∧ h' = (sh, M') ∧ px_qk sh [228, 230, 233, 234, 246, 248, 249, 250] M0 M' ∧ v = sp_pasV (rr_ M0) ∧ rr_ M' = sp_pasW lw (rr_ M0) ∧ r9 M0 M' ∧ tlR M' (if 0 ≤ v then tpush tl (4, rr_ M0) else tl) ∧ (∀ j, 1024 ≤ j → M' 233 j = M0 233 j) ∧ rs M0 M')
  refine rr_aload_n pf_260_0 rfl ?_
  refine rr_getR pf_260_1 po_260 pg_9_13 rfl (ws_228 hW) (by decide) (wr_228_3 q0.1) ?_
  refine rr_iconst pf_260_4 ?_
  refine vr_iald (j := 5) q0 pf_260_5 (ws_230 hW) (by omega) (by omega) (by decide) (fun x1 hx1 rx1 => ?_)
  rw [rr_at (M := M0) (i := 5) (by omega)] at hx1
  have h5 := hρ.2.2.2.2.2.1
  refine rr_sipush pf_260_6 (by decide) ?_
  refine rr_icmp_ne 15 pf_260_9 (by decide) rx1 (by unfold rg; omega) (fun c2 => ?_) (fun c2 => ?_)
  · refine rr_aload_n pf_260_15 rfl ?_
    refine rr_iconst pf_260_16 ?_
    obtain ⟨M3, ⟨kq4, pt_M3, pf_M3, p24_M3⟩, hcM3⟩ := ct_R_remember2 (xs := xs) (L := L) (d := d) (kd := 4) (tl := tl) (by omega) hW q0.1 q0.2.1 htl (by unfold rg; omega)
    have q4 := qk_trm q0 kq4 (by decide)
    have rq6 := rs_tr (rs_rf M0) pf_M3
    have e7 : M3 230 = M0 230 := (kq4.2.2 230 (by decide)).trans (rfl : M0 230 = M0 230)
    refine rr_cV1 pf_260_17 po_260 pc_9_478 (ws_228 hW) po_250 (by decide) rfl hcM3 ?_
    have r24M3 : ∀ j, 1024 ≤ j → M3 233 j = M0 233 j := fun j hj => by rw [p24_M3 j hj, (rfl : M0 233 = M0 233)]
    
    refine rr_aload_n pf_260_20 rfl ?_
    obtain ⟨M8, ⟨kq9, pr_M8, p9_M8, pf_M8⟩, hcM8⟩ := ct_R_passIt (xs := xs) (L := L) (d := d) (lw := lw) (by omega) hW q4.1 q4.2.1 (by rw [rr_eq e7]; exact hρ) (lwR_eq e7 hlw) ((rq6 20 (by decide) (by decide)).trans hord) (by rw [rr_eq e7]; omega)
    have q9 := qk_trm q4 kq9 (by decide)
    rw [rr_eq e7] at pr_M8
    have rq11 := rs_tr rq6 (rs_rq pf_M8)
    refine rr_cV0 pf_260_21 po_260 pc_9_496 (ws_228 hW) po_261 (by decide) rfl hcM8 ?_
    
    refine rr_aload_n pf_260_24 rfl ?_
    refine rr_getR pf_260_25 po_260 pg_9_13 rfl (ws_228 hW) (by decide) (wr_228_3 q9.1) ?_
    refine rr_iconst pf_260_28 ?_
    refine vr_iald (j := 5) q9 pf_260_29 (ws_230 hW) (by omega) (by omega) (by decide) (fun x12 hx12 rx12 => ?_)
    rw [rr_of pr_M8 (by omega), show sp_pasR lw (rr_ M0) 5 = rr_ M0 5 + 1 from by unfold sp_pasR; exact rup_s _ _ _] at hx12
    refine rr_iret pf_260_30 pt_260 ⟨_, M8, rfl, rfl, q9, (by unfold sp_pasV; rw [if_pos (by omega)]; omega), (by rw [pr_M8]; unfold sp_pasW; rw [if_pos (by omega)]), (r9_tr (r9_eq e7) p9_M8), (by rw [if_pos (by omega)]; exact tl_q pt_M3 kq9 (pf_M8 8 (by decide)) (by decide) (by decide)), (by intro j hj; rw [kq9.2.2 233 (by decide)]; exact r24M3 j hj), (rq11)⟩
  · refine rr_bipush pf_260_12 (by decide) ?_
    refine rr_iret pf_260_14 pt_260 ⟨_, M0, rfl, rfl, q0, (by unfold sp_pasV; rw [if_neg (by omega)]), (by unfold sp_pasW; rw [if_neg (by omega)]), (r9_eq (rfl : M0 230 = M0 230)), (by rw [if_neg (by omega)]; exact htl), (by intro j hj; rw [(rfl : M0 233 = M0 233)]), ((rs_rf M0))⟩
theorem ct_R_act {xs : Nat → Int} {L d : Nat} {sh : List (Nat × Nat)} {M0 : Nat → Nat → Int} (hd : 13 ≤ d) (hW : px_W0 <+: sh) (hF : px_Fx M0) (hG : px_RG sh M0)  (hρ : sp_ok (rr_ M0)) {lw : List sp_C} (hlw : px_lwR M0 lw) (hord : M0 228 20 = 0) {tl : sp_T} (htl : tlR M0 tl) {k u : Int} (hk : (u = 0 ∧ k = 1) ∨ (u = 1 ∧ k = 3) ∨ (u = 2 ∧ k = 0) ∨ (u = 3 ∧ k = 2) ∨ (u = 4 ∧ k = 4)) {a b : Int} (ha0 : rg a) (hb0 : rg b) (h999 : rr_ M0 5 ≤ 999) : ∃ v M, (px_qk sh [228, 230, 233, 234, 246, 248, 249, 250] M0 M ∧ (v = od_V lw (rr_ M0) k a b) ∧ (rr_ M = od_R lw (rr_ M0) k a b) ∧ (r9 M0 M) ∧ (tlR M (if 0 ≤ v then tpush tl (k, rr_ M0) else tl)) ∧ (∀ j, 1024 ≤ j → M 233 j = M0 233 j) ∧ (rs M0 M)) ∧ px_Cl xs L d 297 [.ref 228, .int (iI (u)), .int (iI (a)), .int (iI (b))] (sh, M0) (some (.int (iI v))) (sh, M) := by
  obtain ⟨d, rfl⟩ : ∃ e, d = e + 1 := ⟨d - 1, by omega⟩
  have q0 : px_qk sh [228, 230, 233, 234, 246, 248, 249, 250] M0 M0 := ⟨hF, hG, eo_rf⟩
  refine vc_i (Nat.le_of_ble_eq_true rfl) ?_
  show px_R xs L d 297 (0, [.ref 228, .int (iI (u)), .int (iI (a)), .int (iI (b))], [], (sh, M0)) (fun r h' => ∃ v M', r = some (.int (iI v)) ∧ h' = (sh, M') ∧ px_qk sh [228, 230, 233, 234, 246, 248, 249, 250] M0 M' ∧ v = od_V lw (rr_ M0) k a b ∧ rr_ M' = od_R lw (rr_ M0) k a b ∧ r9 M0 M' ∧ tlR M' (if 0 ≤ v then tpush tl (k, rr_ M0) else tl) ∧ (∀ j, 1024 ≤ j → M' 233 j = M0 233 j) ∧ rs M0 M')
  refine rr_iload_n pf_297_0 rfl ?_
  rcases (show (u < 0 ∨ 3 < u) ∨ u = 0 ∨ u = 1 ∨ u = 2 ∨ u = 3 by omega) with hsw1 | hsw1 | hsw1 | hsw1 | hsw1
  · refine rr_tsw_out 58 pf_297_1 (by decide) (by unfold rg; omega) hsw1 ?_
    refine rr_aload_n pf_297_58 rfl ?_
    obtain ⟨r4, M2, ⟨kq3, pv_M2, pr_M2, p9_M2, pt_M2, p24_M2, pf_M2⟩, hcM2⟩ := ct_R_passNow2 (xs := xs) (L := L) (d := d) (lw := lw) (tl := tl) (by omega) hW q0.1 q0.2.1 hρ hlw hord htl (by omega)
    have q3 := qk_trm q0 kq3 (by decide)
    have rq5 := rs_tr (rs_rf M0) pf_M2
    refine rr_cV0 pf_297_59 po_297 pc_9_499 (ws_228 hW) po_260 (by decide) rfl hcM2 ?_
    refine rr_iret pf_297_62 pt_297 ⟨_, M2, rfl, rfl, q3, (by
              obtain rfl : k = 4 := by omega
              unfold od_V; rw [if_neg (by decide), if_neg (by decide), if_neg (by decide), if_neg (by decide)]; exact pv_M2), (by
              obtain rfl : k = 4 := by omega
              unfold od_R; rw [if_neg (by decide), if_neg (by decide), if_neg (by decide), if_neg (by decide)]; exact pr_M2), (p9_M2), (by
              obtain rfl : k = 4 := by omega
              exact pt_M2), (p24_M2), (rq5)⟩
  · refine rr_tsw_in (off := 31) 32 pf_297_1 (by unfold rg; omega) (by omega) (by rw [hsw1]; rfl) (by decide) ?_
    refine rr_aload_n pf_297_32 rfl ?_
    refine rr_iload_n pf_297_33 rfl ?_
    refine rr_iload_n pf_297_34 rfl ?_
    obtain ⟨r8, M6, ⟨kq7, pv_M6, pr_M6, p9_M6, pt_M6, p24_M6, pf_M6⟩, hcM6⟩ := ct_R_scrapeNow2 (xs := xs) (L := L) (d := d) (p := a) (h := b) (lw := lw) (tl := tl) (by omega) hW q0.1 q0.2.1 hρ hlw hord htl (by omega) (by omega)
    have q7 := qk_trm q0 kq7 (by decide)
    have rq9 := rs_tr (rs_rf M0) pf_M6
    refine rr_cV2 pf_297_35 po_297 pc_9_487 (ws_228 hW) po_254 (by decide) rfl hcM6 ?_
    refine rr_iret pf_297_38 pt_297 ⟨_, M6, rfl, rfl, q7, (by
              obtain rfl : k = 1 := by omega
              unfold od_V; rw [if_neg (by decide), if_pos rfl]; exact pv_M6), (by
              obtain rfl : k = 1 := by omega
              unfold od_R; rw [if_neg (by decide), if_pos rfl]; exact pr_M6), (p9_M6), (by
              obtain rfl : k = 1 := by omega
              exact pt_M6), (p24_M6), (rq9)⟩
  · refine rr_tsw_in (off := 38) 39 pf_297_1 (by unfold rg; omega) (by omega) (by rw [hsw1]; rfl) (by decide) ?_
    refine rr_aload_n pf_297_39 rfl ?_
    refine rr_iload_n pf_297_40 rfl ?_
    refine rr_iload_n pf_297_41 rfl ?_
    obtain ⟨r12, M10, ⟨kq11, pv_M10, pr_M10, p9_M10, pt_M10, p24_M10, pf_M10⟩, hcM10⟩ := ct_R_sitNow2 (xs := xs) (L := L) (d := d) (l := a) (s := b) (lw := lw) (tl := tl) (by omega) hW q0.1 q0.2.1 hρ hlw hord htl (by omega) (by omega)
    have q11 := qk_trm q0 kq11 (by decide)
    have rq13 := rs_tr (rs_rf M0) pf_M10
    refine rr_cV2 pf_297_42 po_297 pc_9_493 (ws_228 hW) po_258 (by decide) rfl hcM10 ?_
    refine rr_iret pf_297_45 pt_297 ⟨_, M10, rfl, rfl, q11, (by
              obtain rfl : k = 3 := by omega
              unfold od_V; rw [if_neg (by decide), if_neg (by decide), if_neg (by decide), if_pos rfl]; exact pv_M10), (by
              obtain rfl : k = 3 := by omega
              unfold od_R; rw [if_neg (by decide), if_neg (by decide), if_neg (by decide), if_pos rfl]; exact pr_M10), (p9_M10), (by
              obtain rfl : k = 3 := by omega
              exact pt_M10), (p24_M10), (rq13)⟩
  · refine rr_tsw_in (off := 45) 46 pf_297_1 (by unfold rg; omega) (by omega) (by rw [hsw1]; rfl) (by decide) ?_
    refine rr_aload_n pf_297_46 rfl ?_
    refine rr_iload_n pf_297_47 rfl ?_
    obtain ⟨r16, M14, ⟨kq15, pv_M14, pr_M14, p9_M14, pt_M14, p24_M14, pf_M14⟩, hcM14⟩ := ct_R_preachNow2 (xs := xs) (L := L) (d := d) (w := a) (lw := lw) (tl := tl) (by omega) hW q0.1 q0.2.1 hρ hlw hord htl (by omega)
    have q15 := qk_trm q0 kq15 (by decide)
    have rq17 := rs_tr (rs_rf M0) pf_M14
    refine rr_cV1 pf_297_48 po_297 pc_9_484 (ws_228 hW) po_249 (by decide) rfl hcM14 ?_
    refine rr_iret pf_297_51 pt_297 ⟨_, M14, rfl, rfl, q15, (by
              obtain rfl : k = 0 := by omega
              unfold od_V; rw [if_pos rfl]; exact pv_M14), (by
              obtain rfl : k = 0 := by omega
              unfold od_R; rw [if_pos rfl]; exact pr_M14), (p9_M14), (by
              obtain rfl : k = 0 := by omega
              exact pt_M14), (p24_M14), (rq17)⟩
  · refine rr_tsw_in (off := 51) 52 pf_297_1 (by unfold rg; omega) (by omega) (by rw [hsw1]; rfl) (by decide) ?_
    refine rr_aload_n pf_297_52 rfl ?_
    refine rr_iload_n pf_297_53 rfl ?_
    obtain ⟨r20, M18, ⟨kq19, pv_M18, pr_M18, p9_M18, pt_M18, p24_M18, pf_M18⟩, hcM18⟩ := ct_R_walkNow2 (xs := xs) (L := L) (d := d) (p := a) (lw := lw) (tl := tl) (by omega) hW q0.1 q0.2.1 hρ hlw hord htl (by omega)
    have q19 := qk_trm q0 kq19 (by decide)
    have rq21 := rs_tr (rs_rf M0) pf_M18
    refine rr_cV1 pf_297_54 po_297 pc_9_490 (ws_228 hW) po_256 (by decide) rfl hcM18 ?_
    refine rr_iret pf_297_57 pt_297 ⟨_, M18, rfl, rfl, q19, (by
              obtain rfl : k = 2 := by omega
              unfold od_V; rw [if_neg (by decide), if_neg (by decide), if_pos rfl]; exact pv_M18), (by
              obtain rfl : k = 2 := by omega
              unfold od_R; rw [if_neg (by decide), if_neg (by decide), if_pos rfl]; exact pr_M18), (p9_M18), (by
              obtain rfl : k = 2 := by omega
              exact pt_M18), (p24_M18), (rq21)⟩
