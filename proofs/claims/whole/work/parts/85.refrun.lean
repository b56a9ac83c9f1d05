/-! the reference: an order, once -/
theorem eqI_lt {a b : Int} (h : eqI a b) (h2 : a < 0) : b < 0 := by have e : a = b := h; rw [← e]; exact h2
theorem eqI_ge {a b : Int} (h : eqI a b) (h2 : 0 ≤ a) : 0 ≤ b := by have e : a = b := h; rw [← e]; exact h2
theorem roM_b {o a g : Nat → Int} {p : Nat} {f : sp_E → Option Int} {df : Int} (h : roM o a g p f df) (hdf : -1 ≤ df ∧ df ≤ 1) {v : Nat → Int} (hv : od_bnd v) {z : Int} (hz : f v = some z) : -1000000000 ≤ z ∧ z ≤ 1000000001 := by
  obtain ⟨x, y, -, -, h1, -, h2⟩ := h
  obtain ⟨h3, h4⟩ := h2 v hv
  by_cases e : x = y
  · have := (h3 e).symm.trans hz
    have := Option.some.inj this
    omega
  · obtain ⟨_, _, _, h5⟩ := h4 (by omega)
    rcases h5 with ⟨h6, _⟩ | ⟨z2, _, h6, _, _, h7⟩
    · rw [hz] at h6; cases h6
    · rw [hz] at h6; cases h6; exact h7
theorem od_V_b {lw : List sp_C} {ρ : Nat → Int} (h : sp_ok ρ) {k : Int} (hk : 0 ≤ k ∧ k ≤ 4) (a b : Int) : -3 ≤ od_V lw ρ k a b ∧ od_V lw ρ k a b ≤ 1000 := by
  unfold od_V
  split
  · exact preV_b h a
  · split
    · exact scrV_b h a b
    · split
      · exact walV_b h a
      · split
        · exact sitV_b h a b
        · exact pasV_b h
theorem od_R_no {lw : List sp_C} {ρ : Nat → Int} {k a b : Int} (hρ : sp_ok ρ) (h : od_V lw ρ k a b < 0) : od_R lw ρ k a b = ρ := by
  unfold od_V at h
  unfold od_R
  split
  · rename_i hk; rw [if_pos hk] at h; unfold sp_preW; rw [if_neg (by omega)]
  · rename_i hk; rw [if_neg hk] at h
    split
    · rename_i hk; rw [if_pos hk] at h; unfold sp_scrR; rw [if_neg (by omega)]
    · rename_i hk; rw [if_neg hk] at h
      split
      · rename_i hk; rw [if_pos hk] at h
        have h8 := hρ.2.2.2.2.2.2.2.2.1
        unfold sp_walV at h
        unfold sp_walR
        split at h
        · omega
        · rename_i hc; rw [if_neg hc]
      · rename_i hk; rw [if_neg hk] at h
        split
        · rename_i hk; rw [if_pos hk] at h; unfold sp_sitR; rw [if_neg (by omega)]
        · unfold sp_pasV at h
          have h5 := hρ.2.2.2.2.2.1
          unfold sp_pasW
          by_cases hc : ρ 5 < 999
          · rw [if_pos hc] at h; omega
          · rw [if_neg hc]
theorem ct_R_run_no {xs : Nat → Int} {L d : Nat} {sh : List (Nat × Nat)} {M0 : Nat → Nat → Int} (hd : 14 ≤ d) (hW : px_W0 <+: sh) (hF : px_Fx M0) (hG : px_RG sh M0)  (hρ : sp_ok (rr_ M0)) {lw : List sp_C} (hlw : px_lwR M0 lw) (hord : M0 228 20 = 0) {tl : sp_T} (htl : tlR M0 tl) {c : Nat} (hc : c < 12) {x : od_C} (hx : ro_cl (M0 262) (M0 239) (M0 240) c x) {dn lt : Int} (h55 : M0 228 55 = dn) (h56 : M0 228 56 = lt) (hdn : 0 ≤ dn ∧ dn ≤ 999) (hlt : -1 ≤ lt ∧ lt ≤ 1000) (h999 : rr_ M0 5 ≤ 999) (hno : x.2.2.1 (od_env lw (rr_ M0) dn lt) ≠ some 1) : ∃ v M, (px_qk sh [228, 230, 233, 234, 246, 247, 248, 249, 250] M0 M ∧ (v = 0) ∧ (rr_ M = rr_ M0) ∧ (tlR M tl) ∧ (M 228 55 = dn) ∧ (M 228 56 = lt) ∧ (M 228 20 = 0) ∧ (∀ j, 1024 ≤ j → M 233 j = M0 233 j) ∧ (r9 M0 M) ∧ (fz [8, 20, 34, 38, 39, 40, 55, 56, 58] M0 M)) ∧ px_Cl xs L d 295 [.ref 228, .int (iI (((8 * c : Nat) : Int)))] (sh, M0) (some (.int (iI v))) (sh, M) := by
  obtain ⟨d, rfl⟩ : ∃ e, d = e + 1 := ⟨d - 1, by omega⟩
  have q0 : px_qk sh [228, 230, 233, 234, 246, 247, 248, 249, 250] M0 M0 := ⟨hF, hG, eo_rf⟩
  have hbd : od_bnd (od_env lw (rr_ M0) dn lt) := od_env_b (lw := lw) hρ (by omega) hlt
  obtain ⟨hk0, hg0, hg7, h20b, hT5, h01, hT1, hT3⟩ := id hx
  obtain ⟨a5, b5, ga5, gb5, hab5, hb54, hm5⟩ := hT5
  have hm5 := hm5 _ hbd
  have hB1 := fun z => roM_b hT1 (by omega) hbd (z := z)
  have hB3 := fun z => roM_b hT3 (by omega) hbd (z := z)
  obtain ⟨a1, b1, ga1, gb1, hab1, hb14, hm1⟩ := hT1
  have hm1 := hm1 _ hbd
  obtain ⟨a3, b3, ga3, gb3, hab3, hb34, hm3⟩ := hT3
  have hm3 := hm3 _ hbd
  have h01 := h01 (od_env lw (rr_ M0) dn lt)
  have hkd := rkd_c hk0
  have hk2 : (rkd x.1 = 2 ∧ x.1 = 0) ∨ (rkd x.1 ≠ 2 ∧ x.1 ≠ 0) := by omega
  have h5lt : a5 < b5 := by
      rcases Nat.lt_or_ge a5 b5 with h | h
      · exact h
      · exact absurd (hm5.1 (by omega)) hno
  refine vc_i (Nat.le_of_ble_eq_true rfl) ?_
  show px_R xs L d 295 (0, [.ref 228, .int (iI (((8 * c : Nat) : Int))), px_jk, px_jk, px_jk], [], (sh, M0)) (fun r h' => ∃ v M', r = some (.int (iI v)) ∧ h' = (sh, M') ∧ px_qk sh [228, 230, 233, 234, 246, 247, 248, 249, 250] M0 M' ∧ v = 0 ∧ rr_ M' = rr_ M0 ∧ tlR M' tl ∧ M' 228 55 = dn ∧ M' 228 56 = lt ∧ M' 228 20 = 0 ∧ (∀ j, 1024 ≤ j → M' 233 j = M0 233 j) ∧ r9 M0 M' ∧ fz [8, 20, 34, 38, 39, 40, 55, 56, 58] M0 M')
  refine rr_aload_n pf_295_0 rfl ?_
  refine rr_getR pf_295_1 po_295 pg_9_110 rfl (ws_228 hW) (by decide) (wr_228_36 q0.1) ?_
  refine rr_iconst pf_295_4 ?_
  refine rr_aload_n pf_295_5 rfl ?_
  refine rr_getR pf_295_6 po_295 pg_9_13 rfl (ws_228 hW) (by decide) (wr_228_3 q0.1) ?_
  refine rr_iconst pf_295_9 ?_
  refine vr_iald (j := 5) q0 pf_295_10 (ws_230 hW) (by omega) (by omega) (by decide) (fun x1 hx1 rx1 => ?_)
  rw [rr_at (M := M0) (i := 5) (by omega)] at hx1
  refine rr_i2l pf_295_11 rx1 ?_
  refine vr_last (j := 1) hW q0 pf_295_12 (ws_247 hW) (by omega) (by omega) (by decide) (rl_rg rx1) (by decide) (fun M2 eM2 q3 => ?_)
  have rq4 := fz_ne (fz_rf [8, 20, 34, 38, 39, 40, 55, 56, 58] M0) eM2 (by decide)
  have f5 : M2 228 8 = M0 228 8 := (show M2 228 8 = M0 228 8 by rw [eM2, ask_ne (by decide)]).trans (rfl : M0 228 8 = M0 228 8)
  have f6 : M2 228 55 = M0 228 55 := (show M2 228 55 = M0 228 55 by rw [eM2, ask_ne (by decide)]).trans (rfl : M0 228 55 = M0 228 55)
  have f7 : M2 228 56 = M0 228 56 := (show M2 228 56 = M0 228 56 by rw [eM2, ask_ne (by decide)]).trans (rfl : M0 228 56 = M0 228 56)
  have e8 : M2 230 = M0 230 := (show M2 230 = M0 230 by rw [eM2, ask_ne (by decide)]).trans (rfl : M0 230 = M0 230)
  have e9 : M2 233 = M0 233 := (show M2 233 = M0 233 by rw [eM2, ask_ne (by decide)]).trans (rfl : M0 233 = M0 233)
  have e10 : M2 234 = M0 234 := (show M2 234 = M0 234 by rw [eM2, ask_ne (by decide)]).trans (rfl : M0 234 = M0 234)
  refine rr_aload_n pf_295_13 rfl ?_
  refine rr_getR pf_295_14 po_295 pg_9_110 rfl (ws_228 hW) (by decide) (wr_228_36 q3.1) ?_
  refine rr_iconst pf_295_17 ?_
  refine rr_aload_n pf_295_18 rfl ?_
  refine vr_getI q3 pf_295_19 po_295 pg_9_573 rfl (ws_228 hW) (by decide) (fun x11 hx11 rx11 => ?_)
  rw [eM2, ask_ne (by decide), h55] at hx11
  refine rr_i2l pf_295_22 rx11 ?_
  refine vr_last (j := 2) hW q3 pf_295_23 (ws_247 hW) (by omega) (by omega) (by decide) (rl_rg rx11) (by decide) (fun M12 eM12 q13 => ?_)
  have rq14 := fz_ne rq4 eM12 (by decide)
  have f15 : M12 228 8 = M0 228 8 := (show M12 228 8 = M2 228 8 by rw [eM12, ask_ne (by decide)]).trans f5
  have f16 : M12 228 55 = M0 228 55 := (show M12 228 55 = M2 228 55 by rw [eM12, ask_ne (by decide)]).trans f6
  have f17 : M12 228 56 = M0 228 56 := (show M12 228 56 = M2 228 56 by rw [eM12, ask_ne (by decide)]).trans f7
  have e18 : M12 230 = M0 230 := (show M12 230 = M2 230 by rw [eM12, ask_ne (by decide)]).trans e8
  have e19 : M12 233 = M0 233 := (show M12 233 = M2 233 by rw [eM12, ask_ne (by decide)]).trans e9
  have e20 : M12 234 = M0 234 := (show M12 234 = M2 234 by rw [eM12, ask_ne (by decide)]).trans e10
  refine rr_aload_n pf_295_24 rfl ?_
  refine rr_getR pf_295_25 po_295 pg_9_110 rfl (ws_228 hW) (by decide) (wr_228_36 q13.1) ?_
  refine rr_iconst pf_295_28 ?_
  refine rr_aload_n pf_295_29 rfl ?_
  refine vr_getI q13 pf_295_30 po_295 pg_9_576 rfl (ws_228 hW) (by decide) (fun x21 hx21 rx21 => ?_)
  rw [eM12, ask_ne (by decide), eM2, ask_ne (by decide), h56] at hx21
  refine rr_i2l pf_295_33 rx21 ?_
  refine vr_last (j := 3) hW q13 pf_295_34 (ws_247 hW) (by omega) (by omega) (by decide) (rl_rg rx21) (by decide) (fun M22 eM22 q23 => ?_)
  have rq24 := fz_ne rq14 eM22 (by decide)
  have f25 : M22 228 8 = M0 228 8 := (show M22 228 8 = M12 228 8 by rw [eM22, ask_ne (by decide)]).trans f15
  have f26 : M22 228 55 = M0 228 55 := (show M22 228 55 = M12 228 55 by rw [eM22, ask_ne (by decide)]).trans f16
  have f27 : M22 228 56 = M0 228 56 := (show M22 228 56 = M12 228 56 by rw [eM22, ask_ne (by decide)]).trans f17
  have e28 : M22 230 = M0 230 := (show M22 230 = M12 230 by rw [eM22, ask_ne (by decide)]).trans e18
  have e29 : M22 233 = M0 233 := (show M22 233 = M12 233 by rw [eM22, ask_ne (by decide)]).trans e19
  have e30 : M22 234 = M0 234 := (show M22 234 = M12 234 by rw [eM22, ask_ne (by decide)]).trans e20
  refine rr_aload_n pf_295_35 rfl ?_
  refine rr_getR pf_295_36 po_295 pg_9_110 rfl (ws_228 hW) (by decide) (wr_228_36 q23.1) ?_
  refine rr_iconst pf_295_39 ?_
  refine rr_aload_n pf_295_40 rfl ?_
  refine rr_getR pf_295_41 po_295 pg_9_13 rfl (ws_228 hW) (by decide) (wr_228_3 q23.1) ?_
  refine rr_bipush pf_295_44 (by decide) ?_
  refine vr_iald (j := 8) q23 pf_295_46 (ws_230 hW) (by omega) (by omega) (by decide) (fun x31 hx31 rx31 => ?_)
  rw [e28] at hx31
  rw [rr_at (M := M0) (i := 8) (by omega)] at hx31
  refine rr_i2l pf_295_47 rx31 ?_
  refine vr_last (j := 4) hW q23 pf_295_48 (ws_247 hW) (by omega) (by omega) (by decide) (rl_rg rx31) (by decide) (fun M32 eM32 q33 => ?_)
  have rq34 := fz_ne rq24 eM32 (by decide)
  have f35 : M32 228 8 = M0 228 8 := (show M32 228 8 = M22 228 8 by rw [eM32, ask_ne (by decide)]).trans f25
  have f36 : M32 228 55 = M0 228 55 := (show M32 228 55 = M22 228 55 by rw [eM32, ask_ne (by decide)]).trans f26
  have f37 : M32 228 56 = M0 228 56 := (show M32 228 56 = M22 228 56 by rw [eM32, ask_ne (by decide)]).trans f27
  have e38 : M32 230 = M0 230 := (show M32 230 = M22 230 by rw [eM32, ask_ne (by decide)]).trans e28
  have e39 : M32 233 = M0 233 := (show M32 233 = M22 233 by rw [eM32, ask_ne (by decide)]).trans e29
  have e40 : M32 234 = M0 234 := (show M32 234 = M22 234 by rw [eM32, ask_ne (by decide)]).trans e30
  refine rr_aload_n pf_295_49 rfl ?_
  refine rr_getR pf_295_50 po_295 pg_9_110 rfl (ws_228 hW) (by decide) (wr_228_36 q33.1) ?_
  refine rr_iconst pf_295_53 ?_
  refine rr_aload_n pf_295_54 rfl ?_
  obtain ⟨r43, M41, ⟨kq42, pv_M41, pf_M41⟩, hcM41⟩ := ct_R_blackOnes (xs := xs) (L := L) (d := d) (lw := lw) (by omega) hW q33.1 q33.2.1 (by rw [rr_eq e38]; exact hρ) (lwR_eq e38 hlw) (by rw [eM32, ask_ne (by decide), eM22, ask_ne (by decide), eM12, ask_ne (by decide), eM2, ask_ne (by decide)]; exact hord)
  have q42 := qk_trm q33 kq42 (by decide)
  rw [rr_eq e38] at pv_M41
  have rq44 := fz_rq rq34 pf_M41 (by decide)
  have f45 : M41 228 8 = M0 228 8 := (pf_M41 8 (by decide)).trans f35
  have f46 : M41 228 55 = M0 228 55 := (pf_M41 55 (by decide)).trans f36
  have f47 : M41 228 56 = M0 228 56 := (pf_M41 56 (by decide)).trans f37
  have e48 : M41 230 = M0 230 := (kq42.2.2 230 (by decide)).trans e38
  have e49 : M41 233 = M0 233 := (kq42.2.2 233 (by decide)).trans e39
  have e50 : M41 234 = M0 234 := (kq42.2.2 234 (by decide)).trans e40
  refine rr_cV0 pf_295_55 po_295 pc_9_556 (ws_228 hW) po_290 (by decide) rfl hcM41 ?_
  have hnb : 0 ≤ r43 ∧ r43 ≤ 16 := by rw [pv_M41]; exact nblk_b lw (rr_ M0) 16
  have hpvb : eqI r43 (sp_nblk lw (rr_ M0) 16) := pv_M41
  clear pv_M41
  
  refine rr_i2l pf_295_58 (by unfold rg; omega) ?_
  refine vr_last (j := 5) hW q42 pf_295_59 (ws_247 hW) (by omega) (by omega) (by decide) (by unfold rl; omega) (by decide) (fun M51 eM51 q52 => ?_)
  have rq53 := fz_ne rq44 eM51 (by decide)
  have f54 : M51 228 8 = M0 228 8 := (show M51 228 8 = M41 228 8 by rw [eM51, ask_ne (by decide)]).trans f45
  have f55 : M51 228 55 = M0 228 55 := (show M51 228 55 = M41 228 55 by rw [eM51, ask_ne (by decide)]).trans f46
  have f56 : M51 228 56 = M0 228 56 := (show M51 228 56 = M41 228 56 by rw [eM51, ask_ne (by decide)]).trans f47
  have e57 : M51 230 = M0 230 := (show M51 230 = M41 230 by rw [eM51, ask_ne (by decide)]).trans e48
  have e58 : M51 233 = M0 233 := (show M51 233 = M41 233 by rw [eM51, ask_ne (by decide)]).trans e49
  have e59 : M51 234 = M0 234 := (show M51 234 = M41 234 by rw [eM51, ask_ne (by decide)]).trans e50
  refine rr_aload_n pf_295_60 rfl ?_
  refine rr_iconst pf_295_61 ?_
  refine vr_putZ hW q52 pf_295_62 po_295 pg_9_570 (Or.inl rfl) rfl (ws_228 hW) (by decide) (by omega) (by decide) (fun M60 eM60 q61 => ?_)
  have rq62 := fz_up rq53 eM60 (by decide)
  have f63 : M60 228 8 = M0 228 8 := (show M60 228 8 = M51 228 8 by rw [eM60, up_ne (by decide)]).trans f54
  have f64 : M60 228 55 = M0 228 55 := (show M60 228 55 = M51 228 55 by rw [eM60, up_ne (by decide)]).trans f55
  have f65 : M60 228 56 = M0 228 56 := (show M60 228 56 = M51 228 56 by rw [eM60, up_ne (by decide)]).trans f56
  have e66 : M60 230 = M0 230 := (show M60 230 = M51 230 by rw [eM60, ask_ne (by decide)]).trans e57
  have e67 : M60 233 = M0 233 := (show M60 233 = M51 233 by rw [eM60, ask_ne (by decide)]).trans e58
  have e68 : M60 234 = M0 234 := (show M60 234 = M51 234 by rw [eM60, ask_ne (by decide)]).trans e59
  have h247 : ∀ j, j < 5 → M60 247 (j + 1) = (od_env lw (rr_ M0) dn lt) j := by
    intro j hj
    have hj5 : j = 0 ∨ j = 1 ∨ j = 2 ∨ j = 3 ∨ j = 4 := by omega
    rcases hj5 with rfl | rfl | rfl | rfl | rfl
    · rw [eM60, ask_ne (by decide), eM51, up_ne (by decide), kq42.2.2 247 (by decide), eM32, up_ne (by decide), eM22, up_ne (by decide), eM12, up_ne (by decide), eM2, up_s]
      unfold od_env
      rw [if_pos rfl]; exact hx1
    · rw [eM60, ask_ne (by decide), eM51, up_ne (by decide), kq42.2.2 247 (by decide), eM32, up_ne (by decide), eM22, up_ne (by decide), eM12, up_s]
      unfold od_env
      rw [if_neg (by decide), if_pos rfl]; exact hx11
    · rw [eM60, ask_ne (by decide), eM51, up_ne (by decide), kq42.2.2 247 (by decide), eM32, up_ne (by decide), eM22, up_s]
      unfold od_env
      rw [if_neg (by decide), if_neg (by decide), if_pos rfl]; exact hx21
    · rw [eM60, ask_ne (by decide), eM51, up_ne (by decide), kq42.2.2 247 (by decide), eM32, up_s]
      unfold od_env
      rw [if_neg (by decide), if_neg (by decide), if_neg (by decide), if_pos rfl]; exact hx31
    · rw [eM60, ask_ne (by decide), eM51, up_s]
      unfold od_env
      rw [if_neg (by decide), if_neg (by decide), if_neg (by decide), if_neg (by decide), if_pos rfl]; exact hpvb
  have h580 : M60 228 58 = 0 := by rw [eM60, up_s]
  have h20z : M60 228 20 = 0 := by rw [eM60, up_ne (by decide), eM51, ask_ne (by decide), pf_M41 20 (by decide), eM32, ask_ne (by decide), eM22, ask_ne (by decide), eM12, ask_ne (by decide), eM2, ask_ne (by decide)]; exact hord
  refine rr_aload_n pf_295_65 rfl ?_
  refine rr_getR pf_295_66 po_295 pg_9_165 rfl (ws_228 hW) (by decide) (wr_228_54 q61.1) ?_
  refine rr_iload_n pf_295_69 rfl ?_
  refine rr_iconst pf_295_70 ?_
  refine rr_iadd pf_295_71 ?_
  refine vr_iald (j := (8 * c + 5)) q61 pf_295_72 (ws_262 hW) (by omega) (by omega) (by decide) (fun x69 hx69 rx69 => ?_)
  rw [q61.2.2 262 (by decide)] at hx69
  rw [ga5] at hx69
  refine rr_aload_n pf_295_73 rfl ?_
  refine rr_getR pf_295_74 po_295 pg_9_165 rfl (ws_228 hW) (by decide) (wr_228_54 q61.1) ?_
  refine rr_iload_n pf_295_77 rfl ?_
  refine rr_bipush pf_295_78 (by decide) ?_
  refine rr_iadd pf_295_80 ?_
  refine vr_iald (j := (8 * c + 5 + 1)) q61 pf_295_81 (ws_262 hW) (by omega) (by omega) (by decide) (fun x70 hx70 rx70 => ?_)
  rw [q61.2.2 262 (by decide)] at hx70
  rw [gb5] at hx70
  refine rr_icmp_ge 106 pf_295_82 (by decide) rx69 rx70 (fun c71 => ?_) (fun c71 => ?_)
  · exfalso; omega
  · refine rr_aload_n pf_295_85 rfl ?_
    refine rr_iload_n pf_295_86 rfl ?_
    refine rr_iconst pf_295_87 ?_
    refine rr_iadd pf_295_88 ?_
    obtain ⟨r74, M72, ⟨kq73, ps_M72, p20_M72, pf_M72⟩, hcM72⟩ := ct_R_sumOf (xs := xs) (L := L) (d := d) (p := 5 + 8 * c) (a := a5) (b := b5) (lf := lfO (od_env lw (rr_ M0) dn lt)) (y := x.2.2.1 (od_env lw (rr_ M0) dn lt)) (by omega) hW q61.1 q61.2.1 (by omega) (by rw [q61.2.2 262 (by decide), show 5 + 8 * c = 8 * c + 5 by omega]; exact ga5) (by rw [q61.2.2 262 (by decide), show 5 + 8 * c = 8 * c + 5 by omega]; exact gb5) hab5 hb54 (Or.inl h580) h20z (lfO_ok (lw := lw) (ρ := rr_ M0) (dn := dn) (lt := lt) h247 (rr_eq e66) hbd) (by rw [q61.2.2 239 (by decide), q61.2.2 240 (by decide)]; exact hm5.2) (by intro hz; exfalso; omega)
    rw [show ((5 + 8 * c : Nat) : Int) = ((8 * c : Nat) : Int) + 5 by omega] at hcM72
    have q73 := qk_trm q61 kq73 (by decide)
    have rq75 := fz_tr rq62 pf_M72 (by decide)
    have f76 : M72 228 8 = M0 228 8 := (pf_M72 8 (by decide)).trans f63
    have f77 : M72 228 55 = M0 228 55 := (pf_M72 55 (by decide)).trans f64
    have f78 : M72 228 56 = M0 228 56 := (pf_M72 56 (by decide)).trans f65
    have e79 : M72 230 = M0 230 := (kq73.2.2 230 (by decide)).trans e66
    have e80 : M72 233 = M0 233 := (kq73.2.2 233 (by decide)).trans e67
    have e81 : M72 234 = M0 234 := (kq73.2.2 234 (by decide)).trans e68
    refine rr_cV1 pf_295_89 po_295 pc_9_579 (ws_228 hW) po_296 (by decide) rfl hcM72 ?_
    have hw82 : ∀ j, j < 5 → M72 247 (j + 1) = (od_env lw (rr_ M0) dn lt) j := by rw [kq73.2.2 247 (by decide)]; exact h247
    have hps : M72 228 58 = 1 ∨ (r74 = 0 ∧ M72 228 58 = 0) := by
      rcases ps_M72 with ⟨h, _⟩ | ⟨_, ⟨h1, h2⟩ | ⟨z, h1, h2, h3⟩⟩
      · omega
      · exact Or.inl h2
      · refine Or.inr ⟨?_, h3⟩
        have hz1 : z ≠ 1 := fun e => hno (by rw [h1, e])
        have := h01 z hbd h1
        omega
    
    refine rr_istore_n pf_295_92 (fun y => [.ref 228, .int (iI (((8 * c : Nat) : Int))), .int (iI (y)), px_jk, px_jk]) (Nat.le_of_ble_eq_true rfl) (fun _ => rfl) (fun y83 hy83 => ?_)
    refine rr_aload_n pf_295_93 rfl ?_
    refine vr_getZ q73 pf_295_94 po_295 pg_9_570 rfl (ws_228 hW) (by decide) (fun x84 hx84 rx84 => ?_)
    refine rr_if_ne 104 pf_295_97 (by decide) rx84 (fun c85 => ?_) (fun c85 => ?_)
    · refine rr_iconst pf_295_104 ?_
      refine rr_iret pf_295_105 pt_295 ⟨_, M72, rfl, rfl, q73, (by rfl), (rr_eq e79), (tlR_eq htl f76 e80 e81), (f77.trans h55), (f78.trans h56), (p20_M72), (by intro j hj; rw [e80]), (r9_eq e79), (rq75)⟩
    · refine rr_iload_n pf_295_100 rfl ?_
      refine rr_if_ne 106 pf_295_101 (by decide) (by unfold rg; omega) (fun c86 => ?_) (fun c86 => ?_)
      · exfalso; omega
      · refine rr_iconst pf_295_104 ?_
        refine rr_iret pf_295_105 pt_295 ⟨_, M72, rfl, rfl, q73, (by rfl), (rr_eq e79), (tlR_eq htl f76 e80 e81), (f77.trans h55), (f78.trans h56), (p20_M72), (by intro j hj; rw [e80]), (r9_eq e79), (rq75)⟩
theorem ct_R_run_brk {xs : Nat → Int} {L d : Nat} {sh : List (Nat × Nat)} {M0 : Nat → Nat → Int} (hd : 14 ≤ d) (hW : px_W0 <+: sh) (hF : px_Fx M0) (hG : px_RG sh M0)  (hρ : sp_ok (rr_ M0)) {lw : List sp_C} (hlw : px_lwR M0 lw) (hord : M0 228 20 = 0) {tl : sp_T} (htl : tlR M0 tl) {c : Nat} (hc : c < 12) {x : od_C} (hx : ro_cl (M0 262) (M0 239) (M0 240) c x) {dn lt : Int} (h55 : M0 228 55 = dn) (h56 : M0 228 56 = lt) (hdn : 0 ≤ dn ∧ dn ≤ 999) (hlt : -1 ≤ lt ∧ lt ≤ 1000) (h999 : rr_ M0 5 ≤ 999) (hso : x.2.2.1 (od_env lw (rr_ M0) dn lt) = some 1) (hbk : x.2.2.2.1 (od_env lw (rr_ M0) dn lt) = none ∨ x.2.2.2.2 (od_env lw (rr_ M0) dn lt) = none) : ∃ v M, (px_qk sh [228, 230, 233, 234, 246, 247, 248, 249, 250] M0 M ∧ (v = -3) ∧ (rr_ M = rr_ M0) ∧ (M 228 20 = 0) ∧ (∀ j, 1024 ≤ j → M 233 j = M0 233 j) ∧ (r9 M0 M) ∧ (fz [8, 20, 34, 38, 39, 40, 55, 56, 58] M0 M)) ∧ px_Cl xs L d 295 [.ref 228, .int (iI (((8 * c : Nat) : Int)))] (sh, M0) (some (.int (iI v))) (sh, M) := by
  obtain ⟨d, rfl⟩ : ∃ e, d = e + 1 := ⟨d - 1, by omega⟩
  have q0 : px_qk sh [228, 230, 233, 234, 246, 247, 248, 249, 250] M0 M0 := ⟨hF, hG, eo_rf⟩
  have hbd : od_bnd (od_env lw (rr_ M0) dn lt) := od_env_b (lw := lw) hρ (by omega) hlt
  obtain ⟨hk0, hg0, hg7, h20b, hT5, h01, hT1, hT3⟩ := id hx
  obtain ⟨a5, b5, ga5, gb5, hab5, hb54, hm5⟩ := hT5
  have hm5 := hm5 _ hbd
  have hB1 := fun z => roM_b hT1 (by omega) hbd (z := z)
  have hB3 := fun z => roM_b hT3 (by omega) hbd (z := z)
  obtain ⟨a1, b1, ga1, gb1, hab1, hb14, hm1⟩ := hT1
  have hm1 := hm1 _ hbd
  obtain ⟨a3, b3, ga3, gb3, hab3, hb34, hm3⟩ := hT3
  have hm3 := hm3 _ hbd
  have h01 := h01 (od_env lw (rr_ M0) dn lt)
  have hkd := rkd_c hk0
  have hk2 : (rkd x.1 = 2 ∧ x.1 = 0) ∨ (rkd x.1 ≠ 2 ∧ x.1 ≠ 0) := by omega
  refine vc_i (Nat.le_of_ble_eq_true rfl) ?_
  show px_R xs L d 295 (0, [.ref 228, .int (iI (((8 * c : Nat) : Int))), px_jk, px_jk, px_jk], [], (sh, M0)) (fun r h' => ∃ v M', r = some (.int (iI v)) ∧ h' = (sh, M') ∧ px_qk sh [228, 230, 233, 234, 246, 247, 248, 249, 250] M0 M' ∧ v = -3 ∧ rr_ M' = rr_ M0 ∧ M' 228 20 = 0 ∧ (∀ j, 1024 ≤ j → M' 233 j = M0 233 j) ∧ r9 M0 M' ∧ fz [8, 20, 34, 38, 39, 40, 55, 56, 58] M0 M')
  refine rr_aload_n pf_295_0 rfl ?_
  refine rr_getR pf_295_1 po_295 pg_9_110 rfl (ws_228 hW) (by decide) (wr_228_36 q0.1) ?_
  refine rr_iconst pf_295_4 ?_
  refine rr_aload_n pf_295_5 rfl ?_
  refine rr_getR pf_295_6 po_295 pg_9_13 rfl (ws_228 hW) (by decide) (wr_228_3 q0.1) ?_
  refine rr_iconst pf_295_9 ?_
  refine vr_iald (j := 5) q0 pf_295_10 (ws_230 hW) (by omega) (by omega) (by decide) (fun x1 hx1 rx1 => ?_)
  rw [rr_at (M := M0) (i := 5) (by omega)] at hx1
  refine rr_i2l pf_295_11 rx1 ?_
  refine vr_last (j := 1) hW q0 pf_295_12 (ws_247 hW) (by omega) (by omega) (by decide) (rl_rg rx1) (by decide) (fun M2 eM2 q3 => ?_)
  have rq4 := fz_ne (fz_rf [8, 20, 34, 38, 39, 40, 55, 56, 58] M0) eM2 (by decide)
  have f5 : M2 228 8 = M0 228 8 := (show M2 228 8 = M0 228 8 by rw [eM2, ask_ne (by decide)]).trans (rfl : M0 228 8 = M0 228 8)
  have f6 : M2 228 55 = M0 228 55 := (show M2 228 55 = M0 228 55 by rw [eM2, ask_ne (by decide)]).trans (rfl : M0 228 55 = M0 228 55)
  have f7 : M2 228 56 = M0 228 56 := (show M2 228 56 = M0 228 56 by rw [eM2, ask_ne (by decide)]).trans (rfl : M0 228 56 = M0 228 56)
  have e8 : M2 230 = M0 230 := (show M2 230 = M0 230 by rw [eM2, ask_ne (by decide)]).trans (rfl : M0 230 = M0 230)
  have e9 : M2 233 = M0 233 := (show M2 233 = M0 233 by rw [eM2, ask_ne (by decide)]).trans (rfl : M0 233 = M0 233)
  have e10 : M2 234 = M0 234 := (show M2 234 = M0 234 by rw [eM2, ask_ne (by decide)]).trans (rfl : M0 234 = M0 234)
  refine rr_aload_n pf_295_13 rfl ?_
  refine rr_getR pf_295_14 po_295 pg_9_110 rfl (ws_228 hW) (by decide) (wr_228_36 q3.1) ?_
  refine rr_iconst pf_295_17 ?_
  refine rr_aload_n pf_295_18 rfl ?_
  refine vr_getI q3 pf_295_19 po_295 pg_9_573 rfl (ws_228 hW) (by decide) (fun x11 hx11 rx11 => ?_)
  rw [eM2, ask_ne (by decide), h55] at hx11
  refine rr_i2l pf_295_22 rx11 ?_
  refine vr_last (j := 2) hW q3 pf_295_23 (ws_247 hW) (by omega) (by omega) (by decide) (rl_rg rx11) (by decide) (fun M12 eM12 q13 => ?_)
  have rq14 := fz_ne rq4 eM12 (by decide)
  have f15 : M12 228 8 = M0 228 8 := (show M12 228 8 = M2 228 8 by rw [eM12, ask_ne (by decide)]).trans f5
  have f16 : M12 228 55 = M0 228 55 := (show M12 228 55 = M2 228 55 by rw [eM12, ask_ne (by decide)]).trans f6
  have f17 : M12 228 56 = M0 228 56 := (show M12 228 56 = M2 228 56 by rw [eM12, ask_ne (by decide)]).trans f7
  have e18 : M12 230 = M0 230 := (show M12 230 = M2 230 by rw [eM12, ask_ne (by decide)]).trans e8
  have e19 : M12 233 = M0 233 := (show M12 233 = M2 233 by rw [eM12, ask_ne (by decide)]).trans e9
  have e20 : M12 234 = M0 234 := (show M12 234 = M2 234 by rw [eM12, ask_ne (by decide)]).trans e10
  refine rr_aload_n pf_295_24 rfl ?_
  refine rr_getR pf_295_25 po_295 pg_9_110 rfl (ws_228 hW) (by decide) (wr_228_36 q13.1) ?_
  refine rr_iconst pf_295_28 ?_
  refine rr_aload_n pf_295_29 rfl ?_
  refine vr_getI q13 pf_295_30 po_295 pg_9_576 rfl (ws_228 hW) (by decide) (fun x21 hx21 rx21 => ?_)
  rw [eM12, ask_ne (by decide), eM2, ask_ne (by decide), h56] at hx21
  refine rr_i2l pf_295_33 rx21 ?_
  refine vr_last (j := 3) hW q13 pf_295_34 (ws_247 hW) (by omega) (by omega) (by decide) (rl_rg rx21) (by decide) (fun M22 eM22 q23 => ?_)
  have rq24 := fz_ne rq14 eM22 (by decide)
  have f25 : M22 228 8 = M0 228 8 := (show M22 228 8 = M12 228 8 by rw [eM22, ask_ne (by decide)]).trans f15
  have f26 : M22 228 55 = M0 228 55 := (show M22 228 55 = M12 228 55 by rw [eM22, ask_ne (by decide)]).trans f16
  have f27 : M22 228 56 = M0 228 56 := (show M22 228 56 = M12 228 56 by rw [eM22, ask_ne (by decide)]).trans f17
  have e28 : M22 230 = M0 230 := (show M22 230 = M12 230 by rw [eM22, ask_ne (by decide)]).trans e18
  have e29 : M22 233 = M0 233 := (show M22 233 = M12 233 by rw [eM22, ask_ne (by decide)]).trans e19
  have e30 : M22 234 = M0 234 := (show M22 234 = M12 234 by rw [eM22, ask_ne (by decide)]).trans e20
  refine rr_aload_n pf_295_35 rfl ?_
  refine rr_getR pf_295_36 po_295 pg_9_110 rfl (ws_228 hW) (by decide) (wr_228_36 q23.1) ?_
  refine rr_iconst pf_295_39 ?_
  refine rr_aload_n pf_295_40 rfl ?_
  refine rr_getR pf_295_41 po_295 pg_9_13 rfl (ws_228 hW) (by decide) (wr_228_3 q23.1) ?_
  refine rr_bipush pf_295_44 (by decide) ?_
  refine vr_iald (j := 8) q23 pf_295_46 (ws_230 hW) (by omega) (by omega) (by decide) (fun x31 hx31 rx31 => ?_)
  rw [e28] at hx31
  rw [rr_at (M := M0) (i := 8) (by omega)] at hx31
  refine rr_i2l pf_295_47 rx31 ?_
  refine vr_last (j := 4) hW q23 pf_295_48 (ws_247 hW) (by omega) (by omega) (by decide) (rl_rg rx31) (by decide) (fun M32 eM32 q33 => ?_)
  have rq34 := fz_ne rq24 eM32 (by decide)
  have f35 : M32 228 8 = M0 228 8 := (show M32 228 8 = M22 228 8 by rw [eM32, ask_ne (by decide)]).trans f25
  have f36 : M32 228 55 = M0 228 55 := (show M32 228 55 = M22 228 55 by rw [eM32, ask_ne (by decide)]).trans f26
  have f37 : M32 228 56 = M0 228 56 := (show M32 228 56 = M22 228 56 by rw [eM32, ask_ne (by decide)]).trans f27
  have e38 : M32 230 = M0 230 := (show M32 230 = M22 230 by rw [eM32, ask_ne (by decide)]).trans e28
  have e39 : M32 233 = M0 233 := (show M32 233 = M22 233 by rw [eM32, ask_ne (by decide)]).trans e29
  have e40 : M32 234 = M0 234 := (show M32 234 = M22 234 by rw [eM32, ask_ne (by decide)]).trans e30
  refine rr_aload_n pf_295_49 rfl ?_
  refine rr_getR pf_295_50 po_295 pg_9_110 rfl (ws_228 hW) (by decide) (wr_228_36 q33.1) ?_
  refine rr_iconst pf_295_53 ?_
  refine rr_aload_n pf_295_54 rfl ?_
  obtain ⟨r43, M41, ⟨kq42, pv_M41, pf_M41⟩, hcM41⟩ := ct_R_blackOnes (xs := xs) (L := L) (d := d) (lw := lw) (by omega) hW q33.1 q33.2.1 (by rw [rr_eq e38]; exact hρ) (lwR_eq e38 hlw) (by rw [eM32, ask_ne (by decide), eM22, ask_ne (by decide), eM12, ask_ne (by decide), eM2, ask_ne (by decide)]; exact hord)
  have q42 := qk_trm q33 kq42 (by decide)
  rw [rr_eq e38] at pv_M41
  have rq44 := fz_rq rq34 pf_M41 (by decide)
  have f45 : M41 228 8 = M0 228 8 := (pf_M41 8 (by decide)).trans f35
  have f46 : M41 228 55 = M0 228 55 := (pf_M41 55 (by decide)).trans f36
  have f47 : M41 228 56 = M0 228 56 := (pf_M41 56 (by decide)).trans f37
  have e48 : M41 230 = M0 230 := (kq42.2.2 230 (by decide)).trans e38
  have e49 : M41 233 = M0 233 := (kq42.2.2 233 (by decide)).trans e39
  have e50 : M41 234 = M0 234 := (kq42.2.2 234 (by decide)).trans e40
  refine rr_cV0 pf_295_55 po_295 pc_9_556 (ws_228 hW) po_290 (by decide) rfl hcM41 ?_
  have hnb : 0 ≤ r43 ∧ r43 ≤ 16 := by rw [pv_M41]; exact nblk_b lw (rr_ M0) 16
  have hpvb : eqI r43 (sp_nblk lw (rr_ M0) 16) := pv_M41
  clear pv_M41
  
  refine rr_i2l pf_295_58 (by unfold rg; omega) ?_
  refine vr_last (j := 5) hW q42 pf_295_59 (ws_247 hW) (by omega) (by omega) (by decide) (by unfold rl; omega) (by decide) (fun M51 eM51 q52 => ?_)
  have rq53 := fz_ne rq44 eM51 (by decide)
  have f54 : M51 228 8 = M0 228 8 := (show M51 228 8 = M41 228 8 by rw [eM51, ask_ne (by decide)]).trans f45
  have f55 : M51 228 55 = M0 228 55 := (show M51 228 55 = M41 228 55 by rw [eM51, ask_ne (by decide)]).trans f46
  have f56 : M51 228 56 = M0 228 56 := (show M51 228 56 = M41 228 56 by rw [eM51, ask_ne (by decide)]).trans f47
  have e57 : M51 230 = M0 230 := (show M51 230 = M41 230 by rw [eM51, ask_ne (by decide)]).trans e48
  have e58 : M51 233 = M0 233 := (show M51 233 = M41 233 by rw [eM51, ask_ne (by decide)]).trans e49
  have e59 : M51 234 = M0 234 := (show M51 234 = M41 234 by rw [eM51, ask_ne (by decide)]).trans e50
  refine rr_aload_n pf_295_60 rfl ?_
  refine rr_iconst pf_295_61 ?_
  refine vr_putZ hW q52 pf_295_62 po_295 pg_9_570 (Or.inl rfl) rfl (ws_228 hW) (by decide) (by omega) (by decide) (fun M60 eM60 q61 => ?_)
  have rq62 := fz_up rq53 eM60 (by decide)
  have f63 : M60 228 8 = M0 228 8 := (show M60 228 8 = M51 228 8 by rw [eM60, up_ne (by decide)]).trans f54
  have f64 : M60 228 55 = M0 228 55 := (show M60 228 55 = M51 228 55 by rw [eM60, up_ne (by decide)]).trans f55
  have f65 : M60 228 56 = M0 228 56 := (show M60 228 56 = M51 228 56 by rw [eM60, up_ne (by decide)]).trans f56
  have e66 : M60 230 = M0 230 := (show M60 230 = M51 230 by rw [eM60, ask_ne (by decide)]).trans e57
  have e67 : M60 233 = M0 233 := (show M60 233 = M51 233 by rw [eM60, ask_ne (by decide)]).trans e58
  have e68 : M60 234 = M0 234 := (show M60 234 = M51 234 by rw [eM60, ask_ne (by decide)]).trans e59
  have h247 : ∀ j, j < 5 → M60 247 (j + 1) = (od_env lw (rr_ M0) dn lt) j := by
    intro j hj
    have hj5 : j = 0 ∨ j = 1 ∨ j = 2 ∨ j = 3 ∨ j = 4 := by omega
    rcases hj5 with rfl | rfl | rfl | rfl | rfl
    · rw [eM60, ask_ne (by decide), eM51, up_ne (by decide), kq42.2.2 247 (by decide), eM32, up_ne (by decide), eM22, up_ne (by decide), eM12, up_ne (by decide), eM2, up_s]
      unfold od_env
      rw [if_pos rfl]; exact hx1
    · rw [eM60, ask_ne (by decide), eM51, up_ne (by decide), kq42.2.2 247 (by decide), eM32, up_ne (by decide), eM22, up_ne (by decide), eM12, up_s]
      unfold od_env
      rw [if_neg (by decide), if_pos rfl]; exact hx11
    · rw [eM60, ask_ne (by decide), eM51, up_ne (by decide), kq42.2.2 247 (by decide), eM32, up_ne (by decide), eM22, up_s]
      unfold od_env
      rw [if_neg (by decide), if_neg (by decide), if_pos rfl]; exact hx21
    · rw [eM60, ask_ne (by decide), eM51, up_ne (by decide), kq42.2.2 247 (by decide), eM32, up_s]
      unfold od_env
      rw [if_neg (by decide), if_neg (by decide), if_neg (by decide), if_pos rfl]; exact hx31
    · rw [eM60, ask_ne (by decide), eM51, up_s]
      unfold od_env
      rw [if_neg (by decide), if_neg (by decide), if_neg (by decide), if_neg (by decide), if_pos rfl]; exact hpvb
  have h580 : M60 228 58 = 0 := by rw [eM60, up_s]
  have h20z : M60 228 20 = 0 := by rw [eM60, up_ne (by decide), eM51, ask_ne (by decide), pf_M41 20 (by decide), eM32, ask_ne (by decide), eM22, ask_ne (by decide), eM12, ask_ne (by decide), eM2, ask_ne (by decide)]; exact hord
  refine rr_aload_n pf_295_65 rfl ?_
  refine rr_getR pf_295_66 po_295 pg_9_165 rfl (ws_228 hW) (by decide) (wr_228_54 q61.1) ?_
  refine rr_iload_n pf_295_69 rfl ?_
  refine rr_iconst pf_295_70 ?_
  refine rr_iadd pf_295_71 ?_
  refine vr_iald (j := (8 * c + 5)) q61 pf_295_72 (ws_262 hW) (by omega) (by omega) (by decide) (fun x69 hx69 rx69 => ?_)
  rw [q61.2.2 262 (by decide)] at hx69
  rw [ga5] at hx69
  refine rr_aload_n pf_295_73 rfl ?_
  refine rr_getR pf_295_74 po_295 pg_9_165 rfl (ws_228 hW) (by decide) (wr_228_54 q61.1) ?_
  refine rr_iload_n pf_295_77 rfl ?_
  refine rr_bipush pf_295_78 (by decide) ?_
  refine rr_iadd pf_295_80 ?_
  refine vr_iald (j := (8 * c + 5 + 1)) q61 pf_295_81 (ws_262 hW) (by omega) (by omega) (by decide) (fun x70 hx70 rx70 => ?_)
  rw [q61.2.2 262 (by decide)] at hx70
  rw [gb5] at hx70
  refine rr_icmp_ge 106 pf_295_82 (by decide) rx69 rx70 (fun c71 => ?_) (fun c71 => ?_)
  · refine rr_aload_n pf_295_106 rfl ?_
    refine rr_iload_n pf_295_107 rfl ?_
    refine rr_iconst pf_295_108 ?_
    refine rr_iadd pf_295_109 ?_
    obtain ⟨r74, M72, ⟨kq73, ps_M72, p20_M72, pf_M72⟩, hcM72⟩ := ct_R_sumOf (xs := xs) (L := L) (d := d) (p := 1 + 8 * c) (a := a1) (b := b1) (lf := lfO (od_env lw (rr_ M0) dn lt)) (y := x.2.2.2.1 (od_env lw (rr_ M0) dn lt)) (by omega) hW q61.1 q61.2.1 (by omega) (by rw [q61.2.2 262 (by decide), show 1 + 8 * c = 8 * c + 1 by omega]; exact ga1) (by rw [q61.2.2 262 (by decide), show 1 + 8 * c = 8 * c + 1 by omega]; exact gb1) hab1 hb14 (Or.inl h580) h20z (lfO_ok (lw := lw) (ρ := rr_ M0) (dn := dn) (lt := lt) h247 (rr_eq e66) hbd) (by rw [q61.2.2 239 (by decide), q61.2.2 240 (by decide)]; exact hm1.2) hm1.1
    rw [show ((1 + 8 * c : Nat) : Int) = ((8 * c : Nat) : Int) + 1 by omega] at hcM72
    have q73 := qk_trm q61 kq73 (by decide)
    have rq75 := fz_tr rq62 pf_M72 (by decide)
    have f76 : M72 228 8 = M0 228 8 := (pf_M72 8 (by decide)).trans f63
    have f77 : M72 228 55 = M0 228 55 := (pf_M72 55 (by decide)).trans f64
    have f78 : M72 228 56 = M0 228 56 := (pf_M72 56 (by decide)).trans f65
    have e79 : M72 230 = M0 230 := (kq73.2.2 230 (by decide)).trans e66
    have e80 : M72 233 = M0 233 := (kq73.2.2 233 (by decide)).trans e67
    have e81 : M72 234 = M0 234 := (kq73.2.2 234 (by decide)).trans e68
    refine rr_cV1 pf_295_110 po_295 pc_9_579 (ws_228 hW) po_296 (by decide) rfl hcM72 ?_
    have hw82 : ∀ j, j < 5 → M72 247 (j + 1) = (od_env lw (rr_ M0) dn lt) j := by rw [kq73.2.2 247 (by decide)]; exact h247
    have hp1 : (x.2.2.2.1 (od_env lw (rr_ M0) dn lt) = none ∧ M72 228 58 = 1) ∨ (x.2.2.2.1 (od_env lw (rr_ M0) dn lt) ≠ none ∧ M72 228 58 = 0) := by
      rcases ps_M72 with ⟨h, _⟩ | ⟨_, ⟨h1, h2⟩ | ⟨z, h1, h2, h3⟩⟩
      · omega
      · exact Or.inl ⟨h1, h2⟩
      · exact Or.inr ⟨(fun z => by rw [h1] at z; cases z), h3⟩
    have hp1d : M72 228 58 = 0 ∨ M72 228 58 = 1 := hp1.elim (fun z => Or.inr z.2) (fun z => Or.inl z.2)
    
    refine rr_istore_n pf_295_113 (fun y => [.ref 228, .int (iI (((8 * c : Nat) : Int))), .int (iI (y)), px_jk, px_jk]) (Nat.le_of_ble_eq_true rfl) (fun _ => rfl) (fun y83 hy83 => ?_)
    refine rr_aload_n pf_295_114 rfl ?_
    refine rr_iload_n pf_295_115 rfl ?_
    refine rr_iconst pf_295_116 ?_
    refine rr_iadd pf_295_117 ?_
    obtain ⟨r86, M84, ⟨kq85, ps_M84, p20_M84, pf_M84⟩, hcM84⟩ := ct_R_sumOf (xs := xs) (L := L) (d := d) (p := 3 + 8 * c) (a := a3) (b := b3) (lf := lfO (od_env lw (rr_ M0) dn lt)) (y := x.2.2.2.2 (od_env lw (rr_ M0) dn lt)) (by omega) hW q73.1 q73.2.1 (by omega) (by rw [q73.2.2 262 (by decide), show 3 + 8 * c = 8 * c + 3 by omega]; exact ga3) (by rw [q73.2.2 262 (by decide), show 3 + 8 * c = 8 * c + 3 by omega]; exact gb3) hab3 hb34 hp1d p20_M72 (lfO_ok (lw := lw) (ρ := rr_ M0) (dn := dn) (lt := lt) hw82 (rr_eq e79) hbd) (by rw [q73.2.2 239 (by decide), q73.2.2 240 (by decide)]; exact hm3.2) hm3.1
    rw [show ((3 + 8 * c : Nat) : Int) = ((8 * c : Nat) : Int) + 3 by omega] at hcM84
    have q85 := qk_trm q73 kq85 (by decide)
    have rq87 := fz_tr rq75 pf_M84 (by decide)
    have f88 : M84 228 8 = M0 228 8 := (pf_M84 8 (by decide)).trans f76
    have f89 : M84 228 55 = M0 228 55 := (pf_M84 55 (by decide)).trans f77
    have f90 : M84 228 56 = M0 228 56 := (pf_M84 56 (by decide)).trans f78
    have e91 : M84 230 = M0 230 := (kq85.2.2 230 (by decide)).trans e79
    have e92 : M84 233 = M0 233 := (kq85.2.2 233 (by decide)).trans e80
    have e93 : M84 234 = M0 234 := (kq85.2.2 234 (by decide)).trans e81
    refine rr_cV1 pf_295_118 po_295 pc_9_579 (ws_228 hW) po_296 (by decide) rfl hcM84 ?_
    have hw94 : ∀ j, j < 5 → M84 247 (j + 1) = (od_env lw (rr_ M0) dn lt) j := by rw [kq85.2.2 247 (by decide)]; exact hw82
    have hp3 : M84 228 58 = 1 := by
      rcases ps_M84 with ⟨_, h⟩ | ⟨h0, ⟨h1, h2⟩ | ⟨z, h1, h2, h3⟩⟩
      · exact h
      · exact h2
      · rcases hp1 with ⟨g1, g2⟩ | ⟨g1, g2⟩
        · omega
        · rcases hbk with g | g
          · exact absurd g g1
          · rw [g] at h1; cases h1
    
    refine rr_istore_n pf_295_121 (fun y => [.ref 228, .int (iI (((8 * c : Nat) : Int))), .int (iI (y83)), .int (iI (y)), px_jk]) (Nat.le_of_ble_eq_true rfl) (fun _ => rfl) (fun y95 hy95 => ?_)
    refine rr_aload_n pf_295_122 rfl ?_
    refine vr_getZ q85 pf_295_123 po_295 pg_9_570 rfl (ws_228 hW) (by decide) (fun x96 hx96 rx96 => ?_)
    refine rr_if_eq 132 pf_295_126 (by decide) rx96 (fun c97 => ?_) (fun c97 => ?_)
    · exfalso; omega
    · refine rr_bipush pf_295_129 (by decide) ?_
      refine rr_iret pf_295_131 pt_295 ⟨_, M84, rfl, rfl, q85, (by rfl), (rr_eq e91), (p20_M84), (by intro j hj; rw [e92]), (r9_eq e91), (rq87)⟩
  · refine rr_aload_n pf_295_85 rfl ?_
    refine rr_iload_n pf_295_86 rfl ?_
    refine rr_iconst pf_295_87 ?_
    refine rr_iadd pf_295_88 ?_
    obtain ⟨r100, M98, ⟨kq99, ps_M98, p20_M98, pf_M98⟩, hcM98⟩ := ct_R_sumOf (xs := xs) (L := L) (d := d) (p := 5 + 8 * c) (a := a5) (b := b5) (lf := lfO (od_env lw (rr_ M0) dn lt)) (y := x.2.2.1 (od_env lw (rr_ M0) dn lt)) (by omega) hW q61.1 q61.2.1 (by omega) (by rw [q61.2.2 262 (by decide), show 5 + 8 * c = 8 * c + 5 by omega]; exact ga5) (by rw [q61.2.2 262 (by decide), show 5 + 8 * c = 8 * c + 5 by omega]; exact gb5) hab5 hb54 (Or.inl h580) h20z (lfO_ok (lw := lw) (ρ := rr_ M0) (dn := dn) (lt := lt) h247 (rr_eq e66) hbd) (by rw [q61.2.2 239 (by decide), q61.2.2 240 (by decide)]; exact hm5.2) (by intro hz; exfalso; omega)
    rw [show ((5 + 8 * c : Nat) : Int) = ((8 * c : Nat) : Int) + 5 by omega] at hcM98
    have q99 := qk_trm q61 kq99 (by decide)
    have rq101 := fz_tr rq62 pf_M98 (by decide)
    have f102 : M98 228 8 = M0 228 8 := (pf_M98 8 (by decide)).trans f63
    have f103 : M98 228 55 = M0 228 55 := (pf_M98 55 (by decide)).trans f64
    have f104 : M98 228 56 = M0 228 56 := (pf_M98 56 (by decide)).trans f65
    have e105 : M98 230 = M0 230 := (kq99.2.2 230 (by decide)).trans e66
    have e106 : M98 233 = M0 233 := (kq99.2.2 233 (by decide)).trans e67
    have e107 : M98 234 = M0 234 := (kq99.2.2 234 (by decide)).trans e68
    refine rr_cV1 pf_295_89 po_295 pc_9_579 (ws_228 hW) po_296 (by decide) rfl hcM98 ?_
    have hw108 : ∀ j, j < 5 → M98 247 (j + 1) = (od_env lw (rr_ M0) dn lt) j := by rw [kq99.2.2 247 (by decide)]; exact h247
    have hps : r100 = 1 ∧ M98 228 58 = 0 := by
      rcases ps_M98 with ⟨h, _⟩ | ⟨_, ⟨h1, h2⟩ | ⟨z, h1, h2, h3⟩⟩
      · omega
      · rw [hso] at h1; cases h1
      · rw [hso] at h1; cases h1; exact ⟨h2, h3⟩
    
    refine rr_istore_n pf_295_92 (fun y => [.ref 228, .int (iI (((8 * c : Nat) : Int))), .int (iI (y)), px_jk, px_jk]) (Nat.le_of_ble_eq_true rfl) (fun _ => rfl) (fun y109 hy109 => ?_)
    refine rr_aload_n pf_295_93 rfl ?_
    refine vr_getZ q99 pf_295_94 po_295 pg_9_570 rfl (ws_228 hW) (by decide) (fun x110 hx110 rx110 => ?_)
    refine rr_if_ne 104 pf_295_97 (by decide) rx110 (fun c111 => ?_) (fun c111 => ?_)
    · exfalso; omega
    · refine rr_iload_n pf_295_100 rfl ?_
      refine rr_if_ne 106 pf_295_101 (by decide) (by unfold rg; omega) (fun c112 => ?_) (fun c112 => ?_)
      · refine rr_aload_n pf_295_106 rfl ?_
        refine rr_iload_n pf_295_107 rfl ?_
        refine rr_iconst pf_295_108 ?_
        refine rr_iadd pf_295_109 ?_
        obtain ⟨r115, M113, ⟨kq114, ps_M113, p20_M113, pf_M113⟩, hcM113⟩ := ct_R_sumOf (xs := xs) (L := L) (d := d) (p := 1 + 8 * c) (a := a1) (b := b1) (lf := lfO (od_env lw (rr_ M0) dn lt)) (y := x.2.2.2.1 (od_env lw (rr_ M0) dn lt)) (by omega) hW q99.1 q99.2.1 (by omega) (by rw [q99.2.2 262 (by decide), show 1 + 8 * c = 8 * c + 1 by omega]; exact ga1) (by rw [q99.2.2 262 (by decide), show 1 + 8 * c = 8 * c + 1 by omega]; exact gb1) hab1 hb14 (Or.inl hps.2) p20_M98 (lfO_ok (lw := lw) (ρ := rr_ M0) (dn := dn) (lt := lt) hw108 (rr_eq e105) hbd) (by rw [q99.2.2 239 (by decide), q99.2.2 240 (by decide)]; exact hm1.2) hm1.1
        rw [show ((1 + 8 * c : Nat) : Int) = ((8 * c : Nat) : Int) + 1 by omega] at hcM113
        have q114 := qk_trm q99 kq114 (by decide)
        have rq116 := fz_tr rq101 pf_M113 (by decide)
        have f117 : M113 228 8 = M0 228 8 := (pf_M113 8 (by decide)).trans f102
        have f118 : M113 228 55 = M0 228 55 := (pf_M113 55 (by decide)).trans f103
        have f119 : M113 228 56 = M0 228 56 := (pf_M113 56 (by decide)).trans f104
        have e120 : M113 230 = M0 230 := (kq114.2.2 230 (by decide)).trans e105
        have e121 : M113 233 = M0 233 := (kq114.2.2 233 (by decide)).trans e106
        have e122 : M113 234 = M0 234 := (kq114.2.2 234 (by decide)).trans e107
        refine rr_cV1 pf_295_110 po_295 pc_9_579 (ws_228 hW) po_296 (by decide) rfl hcM113 ?_
        have hw123 : ∀ j, j < 5 → M113 247 (j + 1) = (od_env lw (rr_ M0) dn lt) j := by rw [kq114.2.2 247 (by decide)]; exact hw108
        have hp1 : (x.2.2.2.1 (od_env lw (rr_ M0) dn lt) = none ∧ M113 228 58 = 1) ∨ (x.2.2.2.1 (od_env lw (rr_ M0) dn lt) ≠ none ∧ M113 228 58 = 0) := by
          rcases ps_M113 with ⟨h, _⟩ | ⟨_, ⟨h1, h2⟩ | ⟨z, h1, h2, h3⟩⟩
          · omega
          · exact Or.inl ⟨h1, h2⟩
          · exact Or.inr ⟨(fun z => by rw [h1] at z; cases z), h3⟩
        have hp1d : M113 228 58 = 0 ∨ M113 228 58 = 1 := hp1.elim (fun z => Or.inr z.2) (fun z => Or.inl z.2)
        
        refine rr_istore_n pf_295_113 (fun y => [.ref 228, .int (iI (((8 * c : Nat) : Int))), .int (iI (y)), px_jk, px_jk]) (Nat.le_of_ble_eq_true rfl) (fun _ => rfl) (fun y124 hy124 => ?_)
        refine rr_aload_n pf_295_114 rfl ?_
        refine rr_iload_n pf_295_115 rfl ?_
        refine rr_iconst pf_295_116 ?_
        refine rr_iadd pf_295_117 ?_
        obtain ⟨r127, M125, ⟨kq126, ps_M125, p20_M125, pf_M125⟩, hcM125⟩ := ct_R_sumOf (xs := xs) (L := L) (d := d) (p := 3 + 8 * c) (a := a3) (b := b3) (lf := lfO (od_env lw (rr_ M0) dn lt)) (y := x.2.2.2.2 (od_env lw (rr_ M0) dn lt)) (by omega) hW q114.1 q114.2.1 (by omega) (by rw [q114.2.2 262 (by decide), show 3 + 8 * c = 8 * c + 3 by omega]; exact ga3) (by rw [q114.2.2 262 (by decide), show 3 + 8 * c = 8 * c + 3 by omega]; exact gb3) hab3 hb34 hp1d p20_M113 (lfO_ok (lw := lw) (ρ := rr_ M0) (dn := dn) (lt := lt) hw123 (rr_eq e120) hbd) (by rw [q114.2.2 239 (by decide), q114.2.2 240 (by decide)]; exact hm3.2) hm3.1
        rw [show ((3 + 8 * c : Nat) : Int) = ((8 * c : Nat) : Int) + 3 by omega] at hcM125
        have q126 := qk_trm q114 kq126 (by decide)
        have rq128 := fz_tr rq116 pf_M125 (by decide)
        have f129 : M125 228 8 = M0 228 8 := (pf_M125 8 (by decide)).trans f117
        have f130 : M125 228 55 = M0 228 55 := (pf_M125 55 (by decide)).trans f118
        have f131 : M125 228 56 = M0 228 56 := (pf_M125 56 (by decide)).trans f119
        have e132 : M125 230 = M0 230 := (kq126.2.2 230 (by decide)).trans e120
        have e133 : M125 233 = M0 233 := (kq126.2.2 233 (by decide)).trans e121
        have e134 : M125 234 = M0 234 := (kq126.2.2 234 (by decide)).trans e122
        refine rr_cV1 pf_295_118 po_295 pc_9_579 (ws_228 hW) po_296 (by decide) rfl hcM125 ?_
        have hw135 : ∀ j, j < 5 → M125 247 (j + 1) = (od_env lw (rr_ M0) dn lt) j := by rw [kq126.2.2 247 (by decide)]; exact hw123
        have hp3 : M125 228 58 = 1 := by
          rcases ps_M125 with ⟨_, h⟩ | ⟨h0, ⟨h1, h2⟩ | ⟨z, h1, h2, h3⟩⟩
          · exact h
          · exact h2
          · rcases hp1 with ⟨g1, g2⟩ | ⟨g1, g2⟩
            · omega
            · rcases hbk with g | g
              · exact absurd g g1
              · rw [g] at h1; cases h1
        
        refine rr_istore_n pf_295_121 (fun y => [.ref 228, .int (iI (((8 * c : Nat) : Int))), .int (iI (y124)), .int (iI (y)), px_jk]) (Nat.le_of_ble_eq_true rfl) (fun _ => rfl) (fun y136 hy136 => ?_)
        refine rr_aload_n pf_295_122 rfl ?_
        refine vr_getZ q126 pf_295_123 po_295 pg_9_570 rfl (ws_228 hW) (by decide) (fun x137 hx137 rx137 => ?_)
        refine rr_if_eq 132 pf_295_126 (by decide) rx137 (fun c138 => ?_) (fun c138 => ?_)
        · exfalso; omega
        · refine rr_bipush pf_295_129 (by decide) ?_
          refine rr_iret pf_295_131 pt_295 ⟨_, M125, rfl, rfl, q126, (by rfl), (rr_eq e132), (p20_M125), (by intro j hj; rw [e133]), (r9_eq e132), (rq128)⟩
      · exfalso; omega
theorem lp_R_run_act_132 {xs : Nat → Int} {L d : Nat} {sh : List (Nat × Nat)} (hd : 13 ≤ d) (hW : px_W0 <+: sh) {M0 : Nat → Nat → Int}  (hρ : sp_ok (rr_ M0)) {lw : List sp_C} (hlw : px_lwR M0 lw) (hord : M0 228 20 = 0) {tl : sp_T} (htl : tlR M0 tl) {c : Nat} (hc : c < 12) {x : od_C} (hx : ro_cl (M0 262) (M0 239) (M0 240) c x) {dn lt : Int} (h55 : M0 228 55 = dn) (h56 : M0 228 56 = lt) (hdn : 0 ≤ dn ∧ dn ≤ 999) (hlt : -1 ≤ lt ∧ lt ≤ 1000) (h999 : rr_ M0 5 ≤ 999) (hso : x.2.2.1 (od_env lw (rr_ M0) dn lt) = some 1) {a b : Int} (ha1 : x.2.2.2.1 (od_env lw (rr_ M0) dn lt) = some a) (hb1 : x.2.2.2.2 (od_env lw (rr_ M0) dn lt) = some b)  {Q : Option Value → px_H → Prop} (kx : ∀ (v4 : Value) (M : Nat → Nat → Int), px_qk sh [228, 230, 233, 234, 246, 247, 248, 249, 250] M0 M → (fz [8, 20, 34, 38, 39, 40, 55, 56, 58] M0 M) → (0 ≤ od_V lw (rr_ M0) x.1 a b ∧ rr_ M = od_R lw (rr_ M0) x.1 a b ∧ tlR M (tpush tl (x.1, rr_ M0)) ∧ M 228 55 = dn + 1 ∧ M 228 56 = (if x.1 = 0 then od_V lw (rr_ M0) x.1 a b else lt)) → (M 228 20 = 0) → (∀ j, 1024 ≤ j → M 233 j = M0 233 j) → (r9 M0 M) → px_R xs L d 295 (187, [.ref 228, .int (iI (((8 * c : Nat) : Int))), .int (iI (a)), .int (iI (b)), v4], [], (sh, M)) Q) (hQ : ∀ r h', (fun r h' => ∃ v M', r = some (.int (iI v)) ∧ h' = (sh, M') ∧ px_qk sh [228, 230, 233, 234, 246, 247, 248, 249, 250] M0 M' ∧ ((od_V lw (rr_ M0) x.1 a b < 0 ∧ v = -3 ∧ rr_ M' = rr_ M0) ∨ (0 ≤ od_V lw (rr_ M0) x.1 a b ∧ v = 0 ∧ rr_ M' = od_R lw (rr_ M0) x.1 a b ∧ tlR M' (tpush tl (x.1, rr_ M0)) ∧ M' 228 55 = dn + 1 ∧ M' 228 56 = (if x.1 = 0 then od_V lw (rr_ M0) x.1 a b else lt))) ∧ M' 228 20 = 0 ∧ (∀ j, 1024 ≤ j → M' 233 j = M0 233 j) ∧ r9 M0 M' ∧ fz [8, 20, 34, 38, 39, 40, 55, 56, 58] M0 M') r h' → Q r h') : ∀ (mz : Nat) (v4 : Value) (M : Nat → Nat → Int), 0 = mz → px_qk sh [228, 230, 233, 234, 246, 247, 248, 249, 250] M0 M → (fz [8, 20, 34, 38, 39, 40, 55, 56, 58] M0 M) → (M 228 20 = 0) → (M 230 = M0 230) → (M 233 = M0 233) → (M 234 = M0 234) → (M 228 8 = M0 228 8) → (M 228 55 = dn) → (M 228 56 = lt) → px_R xs L d 295 (132, [.ref 228, .int (iI (((8 * c : Nat) : Int))), .int (iI (a)), .int (iI (b)), v4], [], (sh, M)) Q := by
  intro mz
  induction mz using Nat.strongRecOn with
  | _ mz ih =>
    intro v4 M hm hq hrq h20z k230 k233 k234 k8 k55 k56
    have hbd : od_bnd (od_env lw (rr_ M0) dn lt) := od_env_b (lw := lw) hρ (by omega) hlt
    obtain ⟨hk0, hg0, -, -, -, -, hT1, hT3⟩ := hx
    have ha0 := roM_b hT1 (by omega) hbd ha1
    have hb0 := roM_b hT3 (by omega) hbd hb1
    have hkd := rkd_c hk0
    have hk2 : (rkd x.1 = 2 ∧ x.1 = 0) ∨ (rkd x.1 ≠ 2 ∧ x.1 ≠ 0) := by omega
    clear hT1 hT3 hbd
    refine rr_aload_n pf_295_132 rfl ?_
    refine rr_aload_n pf_295_133 rfl ?_
    refine rr_getR pf_295_134 po_295 pg_9_165 rfl (ws_228 hW) (by decide) (wr_228_54 hq.1) ?_
    refine rr_iload_n pf_295_137 rfl ?_
    refine vr_iald (j := (8 * c)) hq pf_295_138 (ws_262 hW) (by omega) (by omega) (by decide) (fun x1 hx1 rx1 => ?_)
    rw [hq.2.2 262 (by decide)] at hx1
    rw [hg0] at hx1
    refine rr_iload_n pf_295_139 rfl ?_
    refine rr_iload_n pf_295_140 rfl ?_
    obtain ⟨r4, M2, ⟨kq3, pv_M2, pr_M2, p9_M2, pt_M2, p24_M2, pf_M2⟩, hcM2⟩ := ct_R_act (xs := xs) (L := L) (d := d) (u := x1) (a := a) (b := b) (lw := lw) (tl := tl) (k := x.1) (by omega) hW hq.1 hq.2.1 (by rw [rr_eq k230]; exact hρ) (lwR_eq k230 hlw) h20z (tlR_eq htl k8 k233 k234) (by rw [hx1]; exact hkd) (by unfold rg; omega) (by unfold rg; omega) (by rw [rr_eq k230]; exact h999)
    have q3 := qk_trm hq kq3 (by decide)
    rw [rr_eq k230] at pv_M2
    rw [rr_eq k230] at pr_M2
    rw [rr_eq k230] at pt_M2
    have rq5 := fz_rs hrq pf_M2 (by decide)
    refine rr_cV3 pf_295_141 po_295 pc_9_582 (ws_228 hW) po_297 (by decide) rfl hcM2 ?_
    have r24a : ∀ j, 1024 ≤ j → M2 233 j = M0 233 j := fun j hj => (p24_M2 j hj).trans (by rw [k233])
    have r9a := r9_tr (r9_eq k230) p9_M2
    have hVb : -3 ≤ r4 ∧ r4 ≤ 1000 := by rw [pv_M2]; exact od_V_b (lw := lw) hρ hk0 a b
    have hpV : eqI r4 (od_V lw (rr_ M0) x.1 a b) := pv_M2
    clear pv_M2
    have g55 : M2 228 55 = dn := (pf_M2 55 (by decide) (by decide)).trans k55
    have g56 : M2 228 56 = lt := (pf_M2 56 (by decide) (by decide)).trans k56
    have g20 : M2 228 20 = 0 := (pf_M2 20 (by decide) (by decide)).trans h20z
    
    refine rr_istore pf_295_144 (fun y => [.ref 228, .int (iI (((8 * c : Nat) : Int))), .int (iI (a)), .int (iI (b)), .int (iI (y))]) (Nat.le_of_ble_eq_true rfl) (fun _ => rfl) (fun y6 hy6 => ?_)
    refine rr_iload pf_295_146 rfl ?_
    refine rr_if_ge 154 pf_295_148 (by decide) (by unfold rg; omega) (fun c7 => ?_) (fun c7 => ?_)
    · refine rr_aload_n pf_295_154 rfl ?_
      refine rr_aload_n pf_295_155 rfl ?_
      refine rr_getR pf_295_156 po_295 pg_9_165 rfl (ws_228 hW) (by decide) (wr_228_54 q3.1) ?_
      refine rr_iload_n pf_295_159 rfl ?_
      refine vr_iald (j := (8 * c)) q3 pf_295_160 (ws_262 hW) (by omega) (by omega) (by decide) (fun x8 hx8 rx8 => ?_)
      rw [q3.2.2 262 (by decide)] at hx8
      rw [hg0] at hx8
      refine rr_iconst pf_295_161 ?_
      refine rr_icmp_ne 170 pf_295_162 (by decide) rx8 (by unfold rg; omega) (fun c9 => ?_) (fun c9 => ?_)
      · have c160 := c9
        refine rr_aload_n pf_295_170 rfl ?_
        refine vr_getI q3 pf_295_171 po_295 pg_9_576 rfl (ws_228 hW) (by decide) (fun x10 hx10 rx10 => ?_)
        rw [g56] at hx10
        refine vr_putI hW q3 pf_295_174 po_295 pg_9_576 (Or.inl rfl) rfl (ws_228 hW) (by decide) rx10 (by decide) (fun M11 eM11 q12 => ?_)
        have rq13 := fz_up rq5 eM11 (by decide)
        refine rr_aload_n pf_295_177 rfl ?_
        refine rr_dup pf_295_178 rfl ?_
        refine vr_getI q12 pf_295_179 po_295 pg_9_573 rfl (ws_228 hW) (by decide) (fun x14 hx14 rx14 => ?_)
        rw [eM11, up_ne (by decide), g55] at hx14
        refine rr_iconst pf_295_182 ?_
        refine rr_iadd pf_295_183 ?_
        refine vr_putI hW q12 pf_295_184 po_295 pg_9_573 (Or.inl rfl) rfl (ws_228 hW) (by decide) (by unfold rg; omega) (by decide) (fun M15 eM15 q16 => ?_)
        have rq17 := fz_up rq13 eM15 (by decide)
        exact kx _ M15 q16 (rq17) (by
                      refine ⟨eqI_ge hpV (by omega), ?_, ?_, ?_, ?_⟩
                      · rw [rr_eq (show M15 230 = M2 230 by rw [eM15, ask_ne (by decide), eM11, ask_ne (by decide)])]; exact pr_M2
                      · have z := pt_M2
                        rw [if_pos (by omega)] at z
                        exact tlR_eq z (by rw [eM15, up_ne (by decide), eM11, up_ne (by decide)]) (by rw [eM15, ask_ne (by decide), eM11, ask_ne (by decide)]) (by rw [eM15, ask_ne (by decide), eM11, ask_ne (by decide)])
                      · rw [eM15, up_s]; omega
                      · rw [eM15, up_ne (by decide), eM11, up_s]; rw [if_neg (hk2.elim (fun z => absurd (hx8.trans z.1) c160) (fun z => z.2))]; exact hx10) (by rw [eM15, up_ne (by decide), eM11, up_ne (by decide)]; exact g20) (by intro j hj; rw [eM15, ask_ne (by decide), eM11, ask_ne (by decide)]; exact r24a j hj) (r9_tr r9a (r9_eq (by rw [eM15, ask_ne (by decide), eM11, ask_ne (by decide)])))
      · have c160 := Decidable.not_not.mp c9
        refine rr_iload pf_295_165 rfl ?_
        refine rr_goto 174 pf_295_167 (by decide) ?_
        refine vr_putI hW q3 pf_295_174 po_295 pg_9_576 (Or.inl rfl) rfl (ws_228 hW) (by decide) (by unfold rg; omega) (by decide) (fun M18 eM18 q19 => ?_)
        have rq20 := fz_up rq5 eM18 (by decide)
        refine rr_aload_n pf_295_177 rfl ?_
        refine rr_dup pf_295_178 rfl ?_
        refine vr_getI q19 pf_295_179 po_295 pg_9_573 rfl (ws_228 hW) (by decide) (fun x21 hx21 rx21 => ?_)
        rw [eM18, up_ne (by decide), g55] at hx21
        refine rr_iconst pf_295_182 ?_
        refine rr_iadd pf_295_183 ?_
        refine vr_putI hW q19 pf_295_184 po_295 pg_9_573 (Or.inl rfl) rfl (ws_228 hW) (by decide) (by unfold rg; omega) (by decide) (fun M22 eM22 q23 => ?_)
        have rq24 := fz_up rq20 eM22 (by decide)
        exact kx _ M22 q23 (rq24) (by
                      refine ⟨eqI_ge hpV (by omega), ?_, ?_, ?_, ?_⟩
                      · rw [rr_eq (show M22 230 = M2 230 by rw [eM22, ask_ne (by decide), eM18, ask_ne (by decide)])]; exact pr_M2
                      · have z := pt_M2
                        rw [if_pos (by omega)] at z
                        exact tlR_eq z (by rw [eM22, up_ne (by decide), eM18, up_ne (by decide)]) (by rw [eM22, ask_ne (by decide), eM18, ask_ne (by decide)]) (by rw [eM22, ask_ne (by decide), eM18, ask_ne (by decide)])
                      · rw [eM22, up_s]; omega
                      · rw [eM22, up_ne (by decide), eM18, up_s]; rw [if_pos (hk2.elim (fun z => z.2) (fun z => absurd (hx8.symm.trans c160) z.1))]; exact hy6.trans hpV) (by rw [eM22, up_ne (by decide), eM18, up_ne (by decide)]; exact g20) (by intro j hj; rw [eM22, ask_ne (by decide), eM18, ask_ne (by decide)]; exact r24a j hj) (r9_tr r9a (r9_eq (by rw [eM22, ask_ne (by decide), eM18, ask_ne (by decide)])))
    · refine rr_bipush pf_295_151 (by decide) ?_
      refine rr_iret pf_295_153 pt_295 (hQ _ _ ⟨_, M2, rfl, rfl, q3, (by
                  have hng : od_V lw (rr_ M0) x.1 a b < 0 := eqI_lt hpV (by omega)
                  exact Or.inl ⟨hng, rfl, pr_M2.trans (od_R_no hρ hng)⟩), (g20), (r24a), (r9a), (rq5)⟩)
theorem ct_R_run_act {xs : Nat → Int} {L d : Nat} {sh : List (Nat × Nat)} {M0 : Nat → Nat → Int} (hd : 14 ≤ d) (hW : px_W0 <+: sh) (hF : px_Fx M0) (hG : px_RG sh M0)  (hρ : sp_ok (rr_ M0)) {lw : List sp_C} (hlw : px_lwR M0 lw) (hord : M0 228 20 = 0) {tl : sp_T} (htl : tlR M0 tl) {c : Nat} (hc : c < 12) {x : od_C} (hx : ro_cl (M0 262) (M0 239) (M0 240) c x) {dn lt : Int} (h55 : M0 228 55 = dn) (h56 : M0 228 56 = lt) (hdn : 0 ≤ dn ∧ dn ≤ 999) (hlt : -1 ≤ lt ∧ lt ≤ 1000) (h999 : rr_ M0 5 ≤ 999) (hso : x.2.2.1 (od_env lw (rr_ M0) dn lt) = some 1) {a b : Int} (ha1 : x.2.2.2.1 (od_env lw (rr_ M0) dn lt) = some a) (hb1 : x.2.2.2.2 (od_env lw (rr_ M0) dn lt) = some b) : ∃ v M, (px_qk sh [228, 230, 233, 234, 246, 247, 248, 249, 250] M0 M ∧ ((od_V lw (rr_ M0) x.1 a b < 0 ∧ v = -3 ∧ rr_ M = rr_ M0) ∨ (0 ≤ od_V lw (rr_ M0) x.1 a b ∧ v = 0 ∧ rr_ M = od_R lw (rr_ M0) x.1 a b ∧ tlR M (tpush tl (x.1, rr_ M0)) ∧ M 228 55 = dn + 1 ∧ M 228 56 = (if x.1 = 0 then od_V lw (rr_ M0) x.1 a b else lt))) ∧ (M 228 20 = 0) ∧ (∀ j, 1024 ≤ j → M 233 j = M0 233 j) ∧ (r9 M0 M) ∧ (fz [8, 20, 34, 38, 39, 40, 55, 56, 58] M0 M)) ∧ px_Cl xs L d 295 [.ref 228, .int (iI (((8 * c : Nat) : Int)))] (sh, M0) (some (.int (iI v))) (sh, M) := by
  obtain ⟨d, rfl⟩ : ∃ e, d = e + 1 := ⟨d - 1, by omega⟩
  have q0 : px_qk sh [228, 230, 233, 234, 246, 247, 248, 249, 250] M0 M0 := ⟨hF, hG, eo_rf⟩
  have hbd : od_bnd (od_env lw (rr_ M0) dn lt) := od_env_b (lw := lw) hρ (by omega) hlt
  obtain ⟨hk0, hg0, hg7, h20b, hT5, h01, hT1, hT3⟩ := id hx
  obtain ⟨a5, b5, ga5, gb5, hab5, hb54, hm5⟩ := hT5
  have hm5 := hm5 _ hbd
  have hB1 := fun z => roM_b hT1 (by omega) hbd (z := z)
  have hB3 := fun z => roM_b hT3 (by omega) hbd (z := z)
  obtain ⟨a1, b1, ga1, gb1, hab1, hb14, hm1⟩ := hT1
  have hm1 := hm1 _ hbd
  obtain ⟨a3, b3, ga3, gb3, hab3, hb34, hm3⟩ := hT3
  have hm3 := hm3 _ hbd
  have h01 := h01 (od_env lw (rr_ M0) dn lt)
  have hkd := rkd_c hk0
  have hk2 : (rkd x.1 = 2 ∧ x.1 = 0) ∨ (rkd x.1 ≠ 2 ∧ x.1 ≠ 0) := by omega
  have ha0 := hB1 _ ha1
  have hb0 := hB3 _ hb1
  refine vc_i (Nat.le_of_ble_eq_true rfl) ?_
  show px_R xs L d 295 (0, [.ref 228, .int (iI (((8 * c : Nat) : Int))), px_jk, px_jk, px_jk], [], (sh, M0)) (fun r h' => ∃ v M', r = some (.int (iI v)) ∧ h' = (sh, M') ∧ px_qk sh [228, 230, 233, 234, 246, 247, 248, 249, 250] M0 M' ∧ ((od_V lw (rr_ M0) x.1 a b < 0 ∧ v = -3 ∧ rr_ M' = rr_ M0) ∨ (0 ≤ od_V lw (rr_ M0) x.1 a b ∧ v = 0 ∧ rr_ M' = od_R lw (rr_ M0) x.1 a b ∧ tlR M' (tpush tl (x.1, rr_ M0)) ∧ M' 228 55 = dn + 1 ∧ M' 228 56 = (if x.1 = 0 then od_V lw (rr_ M0) x.1 a b else lt))) ∧ M' 228 20 = 0 ∧ (∀ j, 1024 ≤ j → M' 233 j = M0 233 j) ∧ r9 M0 M' ∧ fz [8, 20, 34, 38, 39, 40, 55, 56, 58] M0 M')
  refine rr_aload_n pf_295_0 rfl ?_
  refine rr_getR pf_295_1 po_295 pg_9_110 rfl (ws_228 hW) (by decide) (wr_228_36 q0.1) ?_
  refine rr_iconst pf_295_4 ?_
  refine rr_aload_n pf_295_5 rfl ?_
  refine rr_getR pf_295_6 po_295 pg_9_13 rfl (ws_228 hW) (by decide) (wr_228_3 q0.1) ?_
  refine rr_iconst pf_295_9 ?_
  refine vr_iald (j := 5) q0 pf_295_10 (ws_230 hW) (by omega) (by omega) (by decide) (fun x1 hx1 rx1 => ?_)
  rw [rr_at (M := M0) (i := 5) (by omega)] at hx1
  refine rr_i2l pf_295_11 rx1 ?_
  refine vr_last (j := 1) hW q0 pf_295_12 (ws_247 hW) (by omega) (by omega) (by decide) (rl_rg rx1) (by decide) (fun M2 eM2 q3 => ?_)
  have rq4 := fz_ne (fz_rf [8, 20, 34, 38, 39, 40, 55, 56, 58] M0) eM2 (by decide)
  have f5 : M2 228 8 = M0 228 8 := (show M2 228 8 = M0 228 8 by rw [eM2, ask_ne (by decide)]).trans (rfl : M0 228 8 = M0 228 8)
  have f6 : M2 228 55 = M0 228 55 := (show M2 228 55 = M0 228 55 by rw [eM2, ask_ne (by decide)]).trans (rfl : M0 228 55 = M0 228 55)
  have f7 : M2 228 56 = M0 228 56 := (show M2 228 56 = M0 228 56 by rw [eM2, ask_ne (by decide)]).trans (rfl : M0 228 56 = M0 228 56)
  have e8 : M2 230 = M0 230 := (show M2 230 = M0 230 by rw [eM2, ask_ne (by decide)]).trans (rfl : M0 230 = M0 230)
  have e9 : M2 233 = M0 233 := (show M2 233 = M0 233 by rw [eM2, ask_ne (by decide)]).trans (rfl : M0 233 = M0 233)
  have e10 : M2 234 = M0 234 := (show M2 234 = M0 234 by rw [eM2, ask_ne (by decide)]).trans (rfl : M0 234 = M0 234)
  refine rr_aload_n pf_295_13 rfl ?_
  refine rr_getR pf_295_14 po_295 pg_9_110 rfl (ws_228 hW) (by decide) (wr_228_36 q3.1) ?_
  refine rr_iconst pf_295_17 ?_
  refine rr_aload_n pf_295_18 rfl ?_
  refine vr_getI q3 pf_295_19 po_295 pg_9_573 rfl (ws_228 hW) (by decide) (fun x11 hx11 rx11 => ?_)
  rw [eM2, ask_ne (by decide), h55] at hx11
  refine rr_i2l pf_295_22 rx11 ?_
  refine vr_last (j := 2) hW q3 pf_295_23 (ws_247 hW) (by omega) (by omega) (by decide) (rl_rg rx11) (by decide) (fun M12 eM12 q13 => ?_)
  have rq14 := fz_ne rq4 eM12 (by decide)
  have f15 : M12 228 8 = M0 228 8 := (show M12 228 8 = M2 228 8 by rw [eM12, ask_ne (by decide)]).trans f5
  have f16 : M12 228 55 = M0 228 55 := (show M12 228 55 = M2 228 55 by rw [eM12, ask_ne (by decide)]).trans f6
  have f17 : M12 228 56 = M0 228 56 := (show M12 228 56 = M2 228 56 by rw [eM12, ask_ne (by decide)]).trans f7
  have e18 : M12 230 = M0 230 := (show M12 230 = M2 230 by rw [eM12, ask_ne (by decide)]).trans e8
  have e19 : M12 233 = M0 233 := (show M12 233 = M2 233 by rw [eM12, ask_ne (by decide)]).trans e9
  have e20 : M12 234 = M0 234 := (show M12 234 = M2 234 by rw [eM12, ask_ne (by decide)]).trans e10
  refine rr_aload_n pf_295_24 rfl ?_
  refine rr_getR pf_295_25 po_295 pg_9_110 rfl (ws_228 hW) (by decide) (wr_228_36 q13.1) ?_
  refine rr_iconst pf_295_28 ?_
  refine rr_aload_n pf_295_29 rfl ?_
  refine vr_getI q13 pf_295_30 po_295 pg_9_576 rfl (ws_228 hW) (by decide) (fun x21 hx21 rx21 => ?_)
  rw [eM12, ask_ne (by decide), eM2, ask_ne (by decide), h56] at hx21
  refine rr_i2l pf_295_33 rx21 ?_
  refine vr_last (j := 3) hW q13 pf_295_34 (ws_247 hW) (by omega) (by omega) (by decide) (rl_rg rx21) (by decide) (fun M22 eM22 q23 => ?_)
  have rq24 := fz_ne rq14 eM22 (by decide)
  have f25 : M22 228 8 = M0 228 8 := (show M22 228 8 = M12 228 8 by rw [eM22, ask_ne (by decide)]).trans f15
  have f26 : M22 228 55 = M0 228 55 := (show M22 228 55 = M12 228 55 by rw [eM22, ask_ne (by decide)]).trans f16
  have f27 : M22 228 56 = M0 228 56 := (show M22 228 56 = M12 228 56 by rw [eM22, ask_ne (by decide)]).trans f17
  have e28 : M22 230 = M0 230 := (show M22 230 = M12 230 by rw [eM22, ask_ne (by decide)]).trans e18
  have e29 : M22 233 = M0 233 := (show M22 233 = M12 233 by rw [eM22, ask_ne (by decide)]).trans e19
  have e30 : M22 234 = M0 234 := (show M22 234 = M12 234 by rw [eM22, ask_ne (by decide)]).trans e20
  refine rr_aload_n pf_295_35 rfl ?_
  refine rr_getR pf_295_36 po_295 pg_9_110 rfl (ws_228 hW) (by decide) (wr_228_36 q23.1) ?_
  refine rr_iconst pf_295_39 ?_
  refine rr_aload_n pf_295_40 rfl ?_
  refine rr_getR pf_295_41 po_295 pg_9_13 rfl (ws_228 hW) (by decide) (wr_228_3 q23.1) ?_
  refine rr_bipush pf_295_44 (by decide) ?_
  refine vr_iald (j := 8) q23 pf_295_46 (ws_230 hW) (by omega) (by omega) (by decide) (fun x31 hx31 rx31 => ?_)
  rw [e28] at hx31
  rw [rr_at (M := M0) (i := 8) (by omega)] at hx31
  refine rr_i2l pf_295_47 rx31 ?_
  refine vr_last (j := 4) hW q23 pf_295_48 (ws_247 hW) (by omega) (by omega) (by decide) (rl_rg rx31) (by decide) (fun M32 eM32 q33 => ?_)
  have rq34 := fz_ne rq24 eM32 (by decide)
  have f35 : M32 228 8 = M0 228 8 := (show M32 228 8 = M22 228 8 by rw [eM32, ask_ne (by decide)]).trans f25
  have f36 : M32 228 55 = M0 228 55 := (show M32 228 55 = M22 228 55 by rw [eM32, ask_ne (by decide)]).trans f26
  have f37 : M32 228 56 = M0 228 56 := (show M32 228 56 = M22 228 56 by rw [eM32, ask_ne (by decide)]).trans f27
  have e38 : M32 230 = M0 230 := (show M32 230 = M22 230 by rw [eM32, ask_ne (by decide)]).trans e28
  have e39 : M32 233 = M0 233 := (show M32 233 = M22 233 by rw [eM32, ask_ne (by decide)]).trans e29
  have e40 : M32 234 = M0 234 := (show M32 234 = M22 234 by rw [eM32, ask_ne (by decide)]).trans e30
  refine rr_aload_n pf_295_49 rfl ?_
  refine rr_getR pf_295_50 po_295 pg_9_110 rfl (ws_228 hW) (by decide) (wr_228_36 q33.1) ?_
  refine rr_iconst pf_295_53 ?_
  refine rr_aload_n pf_295_54 rfl ?_
  obtain ⟨r43, M41, ⟨kq42, pv_M41, pf_M41⟩, hcM41⟩ := ct_R_blackOnes (xs := xs) (L := L) (d := d) (lw := lw) (by omega) hW q33.1 q33.2.1 (by rw [rr_eq e38]; exact hρ) (lwR_eq e38 hlw) (by rw [eM32, ask_ne (by decide), eM22, ask_ne (by decide), eM12, ask_ne (by decide), eM2, ask_ne (by decide)]; exact hord)
  have q42 := qk_trm q33 kq42 (by decide)
  rw [rr_eq e38] at pv_M41
  have rq44 := fz_rq rq34 pf_M41 (by decide)
  have f45 : M41 228 8 = M0 228 8 := (pf_M41 8 (by decide)).trans f35
  have f46 : M41 228 55 = M0 228 55 := (pf_M41 55 (by decide)).trans f36
  have f47 : M41 228 56 = M0 228 56 := (pf_M41 56 (by decide)).trans f37
  have e48 : M41 230 = M0 230 := (kq42.2.2 230 (by decide)).trans e38
  have e49 : M41 233 = M0 233 := (kq42.2.2 233 (by decide)).trans e39
  have e50 : M41 234 = M0 234 := (kq42.2.2 234 (by decide)).trans e40
  refine rr_cV0 pf_295_55 po_295 pc_9_556 (ws_228 hW) po_290 (by decide) rfl hcM41 ?_
  have hnb : 0 ≤ r43 ∧ r43 ≤ 16 := by rw [pv_M41]; exact nblk_b lw (rr_ M0) 16
  have hpvb : eqI r43 (sp_nblk lw (rr_ M0) 16) := pv_M41
  clear pv_M41
  
  refine rr_i2l pf_295_58 (by unfold rg; omega) ?_
  refine vr_last (j := 5) hW q42 pf_295_59 (ws_247 hW) (by omega) (by omega) (by decide) (by unfold rl; omega) (by decide) (fun M51 eM51 q52 => ?_)
  have rq53 := fz_ne rq44 eM51 (by decide)
  have f54 : M51 228 8 = M0 228 8 := (show M51 228 8 = M41 228 8 by rw [eM51, ask_ne (by decide)]).trans f45
  have f55 : M51 228 55 = M0 228 55 := (show M51 228 55 = M41 228 55 by rw [eM51, ask_ne (by decide)]).trans f46
  have f56 : M51 228 56 = M0 228 56 := (show M51 228 56 = M41 228 56 by rw [eM51, ask_ne (by decide)]).trans f47
  have e57 : M51 230 = M0 230 := (show M51 230 = M41 230 by rw [eM51, ask_ne (by decide)]).trans e48
  have e58 : M51 233 = M0 233 := (show M51 233 = M41 233 by rw [eM51, ask_ne (by decide)]).trans e49
  have e59 : M51 234 = M0 234 := (show M51 234 = M41 234 by rw [eM51, ask_ne (by decide)]).trans e50
  refine rr_aload_n pf_295_60 rfl ?_
  refine rr_iconst pf_295_61 ?_
  refine vr_putZ hW q52 pf_295_62 po_295 pg_9_570 (Or.inl rfl) rfl (ws_228 hW) (by decide) (by omega) (by decide) (fun M60 eM60 q61 => ?_)
  have rq62 := fz_up rq53 eM60 (by decide)
  have f63 : M60 228 8 = M0 228 8 := (show M60 228 8 = M51 228 8 by rw [eM60, up_ne (by decide)]).trans f54
  have f64 : M60 228 55 = M0 228 55 := (show M60 228 55 = M51 228 55 by rw [eM60, up_ne (by decide)]).trans f55
  have f65 : M60 228 56 = M0 228 56 := (show M60 228 56 = M51 228 56 by rw [eM60, up_ne (by decide)]).trans f56
  have e66 : M60 230 = M0 230 := (show M60 230 = M51 230 by rw [eM60, ask_ne (by decide)]).trans e57
  have e67 : M60 233 = M0 233 := (show M60 233 = M51 233 by rw [eM60, ask_ne (by decide)]).trans e58
  have e68 : M60 234 = M0 234 := (show M60 234 = M51 234 by rw [eM60, ask_ne (by decide)]).trans e59
  have h247 : ∀ j, j < 5 → M60 247 (j + 1) = (od_env lw (rr_ M0) dn lt) j := by
    intro j hj
    have hj5 : j = 0 ∨ j = 1 ∨ j = 2 ∨ j = 3 ∨ j = 4 := by omega
    rcases hj5 with rfl | rfl | rfl | rfl | rfl
    · rw [eM60, ask_ne (by decide), eM51, up_ne (by decide), kq42.2.2 247 (by decide), eM32, up_ne (by decide), eM22, up_ne (by decide), eM12, up_ne (by decide), eM2, up_s]
      unfold od_env
      rw [if_pos rfl]; exact hx1
    · rw [eM60, ask_ne (by decide), eM51, up_ne (by decide), kq42.2.2 247 (by decide), eM32, up_ne (by decide), eM22, up_ne (by decide), eM12, up_s]
      unfold od_env
      rw [if_neg (by decide), if_pos rfl]; exact hx11
    · rw [eM60, ask_ne (by decide), eM51, up_ne (by decide), kq42.2.2 247 (by decide), eM32, up_ne (by decide), eM22, up_s]
      unfold od_env
      rw [if_neg (by decide), if_neg (by decide), if_pos rfl]; exact hx21
    · rw [eM60, ask_ne (by decide), eM51, up_ne (by decide), kq42.2.2 247 (by decide), eM32, up_s]
      unfold od_env
      rw [if_neg (by decide), if_neg (by decide), if_neg (by decide), if_pos rfl]; exact hx31
    · rw [eM60, ask_ne (by decide), eM51, up_s]
      unfold od_env
      rw [if_neg (by decide), if_neg (by decide), if_neg (by decide), if_neg (by decide), if_pos rfl]; exact hpvb
  have h580 : M60 228 58 = 0 := by rw [eM60, up_s]
  have h20z : M60 228 20 = 0 := by rw [eM60, up_ne (by decide), eM51, ask_ne (by decide), pf_M41 20 (by decide), eM32, ask_ne (by decide), eM22, ask_ne (by decide), eM12, ask_ne (by decide), eM2, ask_ne (by decide)]; exact hord
  refine rr_aload_n pf_295_65 rfl ?_
  refine rr_getR pf_295_66 po_295 pg_9_165 rfl (ws_228 hW) (by decide) (wr_228_54 q61.1) ?_
  refine rr_iload_n pf_295_69 rfl ?_
  refine rr_iconst pf_295_70 ?_
  refine rr_iadd pf_295_71 ?_
  refine vr_iald (j := (8 * c + 5)) q61 pf_295_72 (ws_262 hW) (by omega) (by omega) (by decide) (fun x69 hx69 rx69 => ?_)
  rw [q61.2.2 262 (by decide)] at hx69
  rw [ga5] at hx69
  refine rr_aload_n pf_295_73 rfl ?_
  refine rr_getR pf_295_74 po_295 pg_9_165 rfl (ws_228 hW) (by decide) (wr_228_54 q61.1) ?_
  refine rr_iload_n pf_295_77 rfl ?_
  refine rr_bipush pf_295_78 (by decide) ?_
  refine rr_iadd pf_295_80 ?_
  refine vr_iald (j := (8 * c + 5 + 1)) q61 pf_295_81 (ws_262 hW) (by omega) (by omega) (by decide) (fun x70 hx70 rx70 => ?_)
  rw [q61.2.2 262 (by decide)] at hx70
  rw [gb5] at hx70
  refine rr_icmp_ge 106 pf_295_82 (by decide) rx69 rx70 (fun c71 => ?_) (fun c71 => ?_)
  · refine rr_aload_n pf_295_106 rfl ?_
    refine rr_iload_n pf_295_107 rfl ?_
    refine rr_iconst pf_295_108 ?_
    refine rr_iadd pf_295_109 ?_
    obtain ⟨r74, M72, ⟨kq73, ps_M72, p20_M72, pf_M72⟩, hcM72⟩ := ct_R_sumOf (xs := xs) (L := L) (d := d) (p := 1 + 8 * c) (a := a1) (b := b1) (lf := lfO (od_env lw (rr_ M0) dn lt)) (y := x.2.2.2.1 (od_env lw (rr_ M0) dn lt)) (by omega) hW q61.1 q61.2.1 (by omega) (by rw [q61.2.2 262 (by decide), show 1 + 8 * c = 8 * c + 1 by omega]; exact ga1) (by rw [q61.2.2 262 (by decide), show 1 + 8 * c = 8 * c + 1 by omega]; exact gb1) hab1 hb14 (Or.inl h580) h20z (lfO_ok (lw := lw) (ρ := rr_ M0) (dn := dn) (lt := lt) h247 (rr_eq e66) hbd) (by rw [q61.2.2 239 (by decide), q61.2.2 240 (by decide)]; exact hm1.2) hm1.1
    rw [show ((1 + 8 * c : Nat) : Int) = ((8 * c : Nat) : Int) + 1 by omega] at hcM72
    have q73 := qk_trm q61 kq73 (by decide)
    have rq75 := fz_tr rq62 pf_M72 (by decide)
    have f76 : M72 228 8 = M0 228 8 := (pf_M72 8 (by decide)).trans f63
    have f77 : M72 228 55 = M0 228 55 := (pf_M72 55 (by decide)).trans f64
    have f78 : M72 228 56 = M0 228 56 := (pf_M72 56 (by decide)).trans f65
    have e79 : M72 230 = M0 230 := (kq73.2.2 230 (by decide)).trans e66
    have e80 : M72 233 = M0 233 := (kq73.2.2 233 (by decide)).trans e67
    have e81 : M72 234 = M0 234 := (kq73.2.2 234 (by decide)).trans e68
    refine rr_cV1 pf_295_110 po_295 pc_9_579 (ws_228 hW) po_296 (by decide) rfl hcM72 ?_
    have hw82 : ∀ j, j < 5 → M72 247 (j + 1) = (od_env lw (rr_ M0) dn lt) j := by rw [kq73.2.2 247 (by decide)]; exact h247
    have hp1 : r74 = a ∧ M72 228 58 = 0 := by
      rcases ps_M72 with ⟨h, _⟩ | ⟨_, ⟨h1, h2⟩ | ⟨z, h1, h2, h3⟩⟩
      · omega
      · rw [ha1] at h1; cases h1
      · rw [ha1] at h1; cases h1; exact ⟨h2, h3⟩
    
    refine rr_istore_n pf_295_113 (fun y => [.ref 228, .int (iI (((8 * c : Nat) : Int))), .int (iI (y)), px_jk, px_jk]) (Nat.le_of_ble_eq_true rfl) (fun _ => rfl) (fun y83 hy83 => ?_)
    refine rr_aload_n pf_295_114 rfl ?_
    refine rr_iload_n pf_295_115 rfl ?_
    refine rr_iconst pf_295_116 ?_
    refine rr_iadd pf_295_117 ?_
    obtain ⟨r86, M84, ⟨kq85, ps_M84, p20_M84, pf_M84⟩, hcM84⟩ := ct_R_sumOf (xs := xs) (L := L) (d := d) (p := 3 + 8 * c) (a := a3) (b := b3) (lf := lfO (od_env lw (rr_ M0) dn lt)) (y := x.2.2.2.2 (od_env lw (rr_ M0) dn lt)) (by omega) hW q73.1 q73.2.1 (by omega) (by rw [q73.2.2 262 (by decide), show 3 + 8 * c = 8 * c + 3 by omega]; exact ga3) (by rw [q73.2.2 262 (by decide), show 3 + 8 * c = 8 * c + 3 by omega]; exact gb3) hab3 hb34 (Or.inl hp1.2) p20_M72 (lfO_ok (lw := lw) (ρ := rr_ M0) (dn := dn) (lt := lt) hw82 (rr_eq e79) hbd) (by rw [q73.2.2 239 (by decide), q73.2.2 240 (by decide)]; exact hm3.2) hm3.1
    rw [show ((3 + 8 * c : Nat) : Int) = ((8 * c : Nat) : Int) + 3 by omega] at hcM84
    have q85 := qk_trm q73 kq85 (by decide)
    have rq87 := fz_tr rq75 pf_M84 (by decide)
    have f88 : M84 228 8 = M0 228 8 := (pf_M84 8 (by decide)).trans f76
    have f89 : M84 228 55 = M0 228 55 := (pf_M84 55 (by decide)).trans f77
    have f90 : M84 228 56 = M0 228 56 := (pf_M84 56 (by decide)).trans f78
    have e91 : M84 230 = M0 230 := (kq85.2.2 230 (by decide)).trans e79
    have e92 : M84 233 = M0 233 := (kq85.2.2 233 (by decide)).trans e80
    have e93 : M84 234 = M0 234 := (kq85.2.2 234 (by decide)).trans e81
    refine rr_cV1 pf_295_118 po_295 pc_9_579 (ws_228 hW) po_296 (by decide) rfl hcM84 ?_
    have hw94 : ∀ j, j < 5 → M84 247 (j + 1) = (od_env lw (rr_ M0) dn lt) j := by rw [kq85.2.2 247 (by decide)]; exact hw82
    have hp3 : r86 = b ∧ M84 228 58 = 0 := by
      rcases ps_M84 with ⟨h, _⟩ | ⟨_, ⟨h1, h2⟩ | ⟨z, h1, h2, h3⟩⟩
      · omega
      · rw [hb1] at h1; cases h1
      · rw [hb1] at h1; cases h1; exact ⟨h2, h3⟩
    
    refine rr_istore_n pf_295_121 (fun y => [.ref 228, .int (iI (((8 * c : Nat) : Int))), .int (iI (y83)), .int (iI (y)), px_jk]) (Nat.le_of_ble_eq_true rfl) (fun _ => rfl) (fun y95 hy95 => ?_)
    refine rr_aload_n pf_295_122 rfl ?_
    refine vr_getZ q85 pf_295_123 po_295 pg_9_570 rfl (ws_228 hW) (by decide) (fun x96 hx96 rx96 => ?_)
    refine rr_if_eq 132 pf_295_126 (by decide) rx96 (fun c97 => ?_) (fun c97 => ?_)
    · obtain rfl : a = y83 := by omega
      obtain rfl : b = y95 := by omega
      refine lp_R_run_act_132 (xs := xs) (L := L) (d := d) (by omega) hW hρ hlw hord htl hc hx h55 h56 hdn hlt h999 hso ha1 hb1 (fun  v100 M98 q99 xrq_M98 xA_M98 x20_M98 x24_M98 x9_M98 => ?_) (fun _ _ h => h) _ _ M84 rfl q85 (rq87) (p20_M84) (e91) (e92) (e93) (f88) (f89.trans h55) (f90.trans h56)
      
      refine rr_iconst pf_295_187 ?_
      refine rr_iret pf_295_188 pt_295 ⟨_, M98, rfl, rfl, q99, (Or.inr ⟨xA_M98.1, rfl, xA_M98.2⟩), (x20_M98), (x24_M98), (x9_M98), (xrq_M98)⟩
    · exfalso; omega
  · refine rr_aload_n pf_295_85 rfl ?_
    refine rr_iload_n pf_295_86 rfl ?_
    refine rr_iconst pf_295_87 ?_
    refine rr_iadd pf_295_88 ?_
    obtain ⟨r103, M101, ⟨kq102, ps_M101, p20_M101, pf_M101⟩, hcM101⟩ := ct_R_sumOf (xs := xs) (L := L) (d := d) (p := 5 + 8 * c) (a := a5) (b := b5) (lf := lfO (od_env lw (rr_ M0) dn lt)) (y := x.2.2.1 (od_env lw (rr_ M0) dn lt)) (by omega) hW q61.1 q61.2.1 (by omega) (by rw [q61.2.2 262 (by decide), show 5 + 8 * c = 8 * c + 5 by omega]; exact ga5) (by rw [q61.2.2 262 (by decide), show 5 + 8 * c = 8 * c + 5 by omega]; exact gb5) hab5 hb54 (Or.inl h580) h20z (lfO_ok (lw := lw) (ρ := rr_ M0) (dn := dn) (lt := lt) h247 (rr_eq e66) hbd) (by rw [q61.2.2 239 (by decide), q61.2.2 240 (by decide)]; exact hm5.2) (by intro hz; exfalso; omega)
    rw [show ((5 + 8 * c : Nat) : Int) = ((8 * c : Nat) : Int) + 5 by omega] at hcM101
    have q102 := qk_trm q61 kq102 (by decide)
    have rq104 := fz_tr rq62 pf_M101 (by decide)
    have f105 : M101 228 8 = M0 228 8 := (pf_M101 8 (by decide)).trans f63
    have f106 : M101 228 55 = M0 228 55 := (pf_M101 55 (by decide)).trans f64
    have f107 : M101 228 56 = M0 228 56 := (pf_M101 56 (by decide)).trans f65
    have e108 : M101 230 = M0 230 := (kq102.2.2 230 (by decide)).trans e66
    have e109 : M101 233 = M0 233 := (kq102.2.2 233 (by decide)).trans e67
    have e110 : M101 234 = M0 234 := (kq102.2.2 234 (by decide)).trans e68
    refine rr_cV1 pf_295_89 po_295 pc_9_579 (ws_228 hW) po_296 (by decide) rfl hcM101 ?_
    have hw111 : ∀ j, j < 5 → M101 247 (j + 1) = (od_env lw (rr_ M0) dn lt) j := by rw [kq102.2.2 247 (by decide)]; exact h247
    have hps : r103 = 1 ∧ M101 228 58 = 0 := by
      rcases ps_M101 with ⟨h, _⟩ | ⟨_, ⟨h1, h2⟩ | ⟨z, h1, h2, h3⟩⟩
      · omega
      · rw [hso] at h1; cases h1
      · rw [hso] at h1; cases h1; exact ⟨h2, h3⟩
    
    refine rr_istore_n pf_295_92 (fun y => [.ref 228, .int (iI (((8 * c : Nat) : Int))), .int (iI (y)), px_jk, px_jk]) (Nat.le_of_ble_eq_true rfl) (fun _ => rfl) (fun y112 hy112 => ?_)
    refine rr_aload_n pf_295_93 rfl ?_
    refine vr_getZ q102 pf_295_94 po_295 pg_9_570 rfl (ws_228 hW) (by decide) (fun x113 hx113 rx113 => ?_)
    refine rr_if_ne 104 pf_295_97 (by decide) rx113 (fun c114 => ?_) (fun c114 => ?_)
    · exfalso; omega
    · refine rr_iload_n pf_295_100 rfl ?_
      refine rr_if_ne 106 pf_295_101 (by decide) (by unfold rg; omega) (fun c115 => ?_) (fun c115 => ?_)
      · refine rr_aload_n pf_295_106 rfl ?_
        refine rr_iload_n pf_295_107 rfl ?_
        refine rr_iconst pf_295_108 ?_
        refine rr_iadd pf_295_109 ?_
        obtain ⟨r118, M116, ⟨kq117, ps_M116, p20_M116, pf_M116⟩, hcM116⟩ := ct_R_sumOf (xs := xs) (L := L) (d := d) (p := 1 + 8 * c) (a := a1) (b := b1) (lf := lfO (od_env lw (rr_ M0) dn lt)) (y := x.2.2.2.1 (od_env lw (rr_ M0) dn lt)) (by omega) hW q102.1 q102.2.1 (by omega) (by rw [q102.2.2 262 (by decide), show 1 + 8 * c = 8 * c + 1 by omega]; exact ga1) (by rw [q102.2.2 262 (by decide), show 1 + 8 * c = 8 * c + 1 by omega]; exact gb1) hab1 hb14 (Or.inl hps.2) p20_M101 (lfO_ok (lw := lw) (ρ := rr_ M0) (dn := dn) (lt := lt) hw111 (rr_eq e108) hbd) (by rw [q102.2.2 239 (by decide), q102.2.2 240 (by decide)]; exact hm1.2) hm1.1
        rw [show ((1 + 8 * c : Nat) : Int) = ((8 * c : Nat) : Int) + 1 by omega] at hcM116
        have q117 := qk_trm q102 kq117 (by decide)
        have rq119 := fz_tr rq104 pf_M116 (by decide)
        have f120 : M116 228 8 = M0 228 8 := (pf_M116 8 (by decide)).trans f105
        have f121 : M116 228 55 = M0 228 55 := (pf_M116 55 (by decide)).trans f106
        have f122 : M116 228 56 = M0 228 56 := (pf_M116 56 (by decide)).trans f107
        have e123 : M116 230 = M0 230 := (kq117.2.2 230 (by decide)).trans e108
        have e124 : M116 233 = M0 233 := (kq117.2.2 233 (by decide)).trans e109
        have e125 : M116 234 = M0 234 := (kq117.2.2 234 (by decide)).trans e110
        refine rr_cV1 pf_295_110 po_295 pc_9_579 (ws_228 hW) po_296 (by decide) rfl hcM116 ?_
        have hw126 : ∀ j, j < 5 → M116 247 (j + 1) = (od_env lw (rr_ M0) dn lt) j := by rw [kq117.2.2 247 (by decide)]; exact hw111
        have hp1 : r118 = a ∧ M116 228 58 = 0 := by
          rcases ps_M116 with ⟨h, _⟩ | ⟨_, ⟨h1, h2⟩ | ⟨z, h1, h2, h3⟩⟩
          · omega
          · rw [ha1] at h1; cases h1
          · rw [ha1] at h1; cases h1; exact ⟨h2, h3⟩
        
        refine rr_istore_n pf_295_113 (fun y => [.ref 228, .int (iI (((8 * c : Nat) : Int))), .int (iI (y)), px_jk, px_jk]) (Nat.le_of_ble_eq_true rfl) (fun _ => rfl) (fun y127 hy127 => ?_)
        refine rr_aload_n pf_295_114 rfl ?_
        refine rr_iload_n pf_295_115 rfl ?_
        refine rr_iconst pf_295_116 ?_
        refine rr_iadd pf_295_117 ?_
        obtain ⟨r130, M128, ⟨kq129, ps_M128, p20_M128, pf_M128⟩, hcM128⟩ := ct_R_sumOf (xs := xs) (L := L) (d := d) (p := 3 + 8 * c) (a := a3) (b := b3) (lf := lfO (od_env lw (rr_ M0) dn lt)) (y := x.2.2.2.2 (od_env lw (rr_ M0) dn lt)) (by omega) hW q117.1 q117.2.1 (by omega) (by rw [q117.2.2 262 (by decide), show 3 + 8 * c = 8 * c + 3 by omega]; exact ga3) (by rw [q117.2.2 262 (by decide), show 3 + 8 * c = 8 * c + 3 by omega]; exact gb3) hab3 hb34 (Or.inl hp1.2) p20_M116 (lfO_ok (lw := lw) (ρ := rr_ M0) (dn := dn) (lt := lt) hw126 (rr_eq e123) hbd) (by rw [q117.2.2 239 (by decide), q117.2.2 240 (by decide)]; exact hm3.2) hm3.1
        rw [show ((3 + 8 * c : Nat) : Int) = ((8 * c : Nat) : Int) + 3 by omega] at hcM128
        have q129 := qk_trm q117 kq129 (by decide)
        have rq131 := fz_tr rq119 pf_M128 (by decide)
        have f132 : M128 228 8 = M0 228 8 := (pf_M128 8 (by decide)).trans f120
        have f133 : M128 228 55 = M0 228 55 := (pf_M128 55 (by decide)).trans f121
        have f134 : M128 228 56 = M0 228 56 := (pf_M128 56 (by decide)).trans f122
        have e135 : M128 230 = M0 230 := (kq129.2.2 230 (by decide)).trans e123
        have e136 : M128 233 = M0 233 := (kq129.2.2 233 (by decide)).trans e124
        have e137 : M128 234 = M0 234 := (kq129.2.2 234 (by decide)).trans e125
        refine rr_cV1 pf_295_118 po_295 pc_9_579 (ws_228 hW) po_296 (by decide) rfl hcM128 ?_
        have hw138 : ∀ j, j < 5 → M128 247 (j + 1) = (od_env lw (rr_ M0) dn lt) j := by rw [kq129.2.2 247 (by decide)]; exact hw126
        have hp3 : r130 = b ∧ M128 228 58 = 0 := by
          rcases ps_M128 with ⟨h, _⟩ | ⟨_, ⟨h1, h2⟩ | ⟨z, h1, h2, h3⟩⟩
          · omega
          · rw [hb1] at h1; cases h1
          · rw [hb1] at h1; cases h1; exact ⟨h2, h3⟩
        
        refine rr_istore_n pf_295_121 (fun y => [.ref 228, .int (iI (((8 * c : Nat) : Int))), .int (iI (y127)), .int (iI (y)), px_jk]) (Nat.le_of_ble_eq_true rfl) (fun _ => rfl) (fun y139 hy139 => ?_)
        refine rr_aload_n pf_295_122 rfl ?_
        refine vr_getZ q129 pf_295_123 po_295 pg_9_570 rfl (ws_228 hW) (by decide) (fun x140 hx140 rx140 => ?_)
        refine rr_if_eq 132 pf_295_126 (by decide) rx140 (fun c141 => ?_) (fun c141 => ?_)
        · obtain rfl : a = y127 := by omega
          obtain rfl : b = y139 := by omega
          refine lp_R_run_act_132 (xs := xs) (L := L) (d := d) (by omega) hW hρ hlw hord htl hc hx h55 h56 hdn hlt h999 hso ha1 hb1 (fun  v144 M142 q143 xrq_M142 xA_M142 x20_M142 x24_M142 x9_M142 => ?_) (fun _ _ h => h) _ _ M128 rfl q129 (rq131) (p20_M128) (e135) (e136) (e137) (f132) (f133.trans h55) (f134.trans h56)
          
          refine rr_iconst pf_295_187 ?_
          refine rr_iret pf_295_188 pt_295 ⟨_, M142, rfl, rfl, q143, (Or.inr ⟨xA_M142.1, rfl, xA_M142.2⟩), (x20_M142), (x24_M142), (x9_M142), (xrq_M142)⟩
        · exfalso; omega
      · exfalso; omega
theorem ct_R_run {xs : Nat → Int} {L d : Nat} {sh : List (Nat × Nat)} {M0 : Nat → Nat → Int} (hd : 14 ≤ d) (hW : px_W0 <+: sh) (hF : px_Fx M0) (hG : px_RG sh M0) (hρ : sp_ok (rr_ M0)) {lw : List sp_C} (hlw : px_lwR M0 lw) (hord : M0 228 20 = 0) {tl : sp_T} (htl : tlR M0 tl) {c : Nat} (hc : c < 12) {x : od_C} (hx : ro_cl (M0 262) (M0 239) (M0 240) c x) {dn lt : Int} (h55 : M0 228 55 = dn) (h56 : M0 228 56 = lt) (hdn : 0 ≤ dn ∧ dn ≤ 999) (hlt : -1 ≤ lt ∧ lt ≤ 1000) (h999 : rr_ M0 5 ≤ 999) : ∃ v M, (px_qk sh [228, 230, 233, 234, 246, 247, 248, 249, 250] M0 M ∧ ((od_1 lw x (rr_ M0, tl, dn, lt) = none ∧ v = -3 ∧ rr_ M = rr_ M0) ∨ (∃ y, od_1 lw x (rr_ M0, tl, dn, lt) = some y ∧ v = 0 ∧ rr_ M = y.1 ∧ tlR M y.2.1 ∧ M 228 55 = y.2.2.1 ∧ M 228 56 = y.2.2.2)) ∧ M 228 20 = 0 ∧ (∀ j, 1024 ≤ j → M 233 j = M0 233 j) ∧ r9 M0 M ∧ fz [8, 20, 34, 38, 39, 40, 55, 56, 58] M0 M) ∧ px_Cl xs L d 295 [.ref 228, .int (iI (((8 * c : Nat) : Int)))] (sh, M0) (some (.int (iI v))) (sh, M) := by
  by_cases h1 : x.2.2.1 (od_env lw (rr_ M0) dn lt) = some 1
  · cases h2 : x.2.2.2.1 (od_env lw (rr_ M0) dn lt) with
    | none =>
      obtain ⟨v, M, ⟨k, pv, prw, p20, p24, p9, pf⟩, hc2⟩ := ct_R_run_brk (xs := xs) (L := L) hd hW hF hG hρ hlw hord htl hc hx h55 h56 hdn hlt h999 h1 (Or.inl h2)
      refine ⟨v, M, ⟨k, Or.inl ⟨?_, pv, prw⟩, p20, p24, p9, pf⟩, hc2⟩
      unfold od_1; rw [if_pos h1]; simp only [h2]
    | some a =>
      cases h3 : x.2.2.2.2 (od_env lw (rr_ M0) dn lt) with
      | none =>
        obtain ⟨v, M, ⟨k, pv, prw, p20, p24, p9, pf⟩, hc2⟩ := ct_R_run_brk (xs := xs) (L := L) hd hW hF hG hρ hlw hord htl hc hx h55 h56 hdn hlt h999 h1 (Or.inr h3)
        refine ⟨v, M, ⟨k, Or.inl ⟨?_, pv, prw⟩, p20, p24, p9, pf⟩, hc2⟩
        unfold od_1; rw [if_pos h1]; simp only [h2, h3]
      | some b =>
        obtain ⟨v, M, ⟨k, pa, p20, p24, p9, pf⟩, hc2⟩ := ct_R_run_act (xs := xs) (L := L) hd hW hF hG hρ hlw hord htl hc hx h55 h56 hdn hlt h999 h1 h2 h3
        refine ⟨v, M, ⟨k, ?_, p20, p24, p9, pf⟩, hc2⟩
        rcases pa with ⟨g1, g2, g2b⟩ | ⟨g1, g2, g3, g4, g5, g6⟩
        · refine Or.inl ⟨?_, g2, g2b⟩
          unfold od_1; rw [if_pos h1]; simp only [h2, h3]; rw [if_pos g1]
        · refine Or.inr ⟨(od_R lw (rr_ M0) x.1 a b, tpush tl (x.1, rr_ M0), dn + 1, if x.1 = 0 then od_V lw (rr_ M0) x.1 a b else lt), ?_, g2, g3, g4, g5, g6⟩
          unfold od_1; rw [if_pos h1]; simp only [h2, h3]; rw [if_neg (by omega)]
  · obtain ⟨v, M, ⟨k, pv, pr, pt, p55, p56, p20, p24, p9, pf⟩, hc2⟩ := ct_R_run_no (xs := xs) (L := L) hd hW hF hG hρ hlw hord htl hc hx h55 h56 hdn hlt h999 h1
    refine ⟨v, M, ⟨k, Or.inr ⟨(rr_ M0, tl, dn, lt), ?_, pv, pr, pt, p55, p56⟩, p20, p24, p9, pf⟩, hc2⟩
    unfold od_1; rw [if_neg h1]
