/-! the reference: all orders -/
theorem od_R_fix {lw : List sp_C} {ρ : Nat → Int} (h : sp_ok ρ) (k a b : Int) {j : Nat} (hj : j < 5 ∨ 69 ≤ j) (hv : 0 ≤ od_V lw ρ k a b) : od_R lw ρ k a b j = ρ j := by
  unfold od_R
  unfold od_V at hv
  split
  · rename_i hk
    rw [if_pos hk] at hv
    unfold sp_preW; rw [if_pos hv]
    unfold sp_preR; rw [if_neg (by omega)]
  · rename_i hk
    rw [if_neg hk] at hv
    split
    · rename_i hk
      rw [if_pos hk] at hv
      unfold sp_scrR; rw [if_pos hv]
      unfold sp_scrV at hv
      split at hv
      · unfold rup; rw [if_neg (by omega)]
      · omega
    · rename_i hk
      rw [if_neg hk] at hv
      split
      · unfold sp_walR
        split
        · unfold rup; rw [if_neg (by omega)]
        · rfl
      · rename_i hk
        rw [if_neg hk] at hv
        split
        · rename_i hk
          rw [if_pos hk] at hv
          unfold sp_sitR; rw [if_pos hv]
          unfold sp_sitV at hv
          split at hv
          · split at hv
            · have := h.2.1
              unfold rup; rw [if_neg (by omega)]
            · omega
          · omega
        · unfold sp_pasW
          split
          · have := h.2.1
            unfold sp_pasR rup
            rw [if_neg (by omega)]
            unfold sp_pasS
            rw [if_neg (by omega)]
          · rfl
theorem od_R_ok {lw : List sp_C} {ρ : Nat → Int} (h : sp_ok ρ) (k a b : Int) (hv : 0 ≤ od_V lw ρ k a b) : sp_ok (od_R lw ρ k a b) := by
  unfold od_R
  unfold od_V at hv
  split
  · exact ok_preW h a
  · rename_i hk
    rw [if_neg hk] at hv
    split
    · rename_i hk
      rw [if_pos hk] at hv
      unfold sp_scrR; rw [if_pos hv]
      unfold sp_scrV at hv
      split at hv
      · rename_i hc
        have hb := h.2.2.2.2.2.2.2.2.2.1 (a * 3 + b).toNat (by omega)
        split at hv
        · omega
        · exact ok_hue h (by omega) (by omega)
      · omega
    · rename_i hk
      rw [if_neg hk] at hv
      split
      · unfold sp_walR
        split
        · exact ok_pul h (by omega)
        · exact h
      · rename_i hk
        rw [if_neg hk] at hv
        split
        · rename_i hk
          rw [if_pos hk] at hv
          unfold sp_sitR; rw [if_pos hv]
          unfold sp_sitV at hv
          split at hv
          · split at hv
            · have := h.2.1
              exact ok_seat h (by omega) (by omega)
            · omega
          · omega
        · exact ok_pasW h
theorem od_R_5 {lw : List sp_C} {ρ : Nat → Int} (h : sp_ok ρ) (k a b : Int) (hv : 0 ≤ od_V lw ρ k a b) (h5 : ρ 5 ≤ 999) : od_R lw ρ k a b 5 ≤ 999 := by
  unfold od_R
  unfold od_V at hv
  split
  · rename_i hk
    rw [if_pos hk] at hv
    unfold sp_preW; rw [if_pos hv]
    unfold sp_preR; rw [if_neg (by omega)]; exact h5
  · rename_i hk
    rw [if_neg hk] at hv
    split
    · unfold sp_scrR
      split
      · unfold rup; rw [if_neg (by omega)]; exact h5
      · exact h5
    · split
      · unfold sp_walR
        split
        · unfold rup; rw [if_neg (by omega)]; exact h5
        · exact h5
      · split
        · unfold sp_sitR
          split
          · unfold rup; rw [if_neg (by omega)]; exact h5
          · exact h5
        · unfold sp_pasW
          split
          · unfold sp_pasR rup
            rw [if_pos rfl]; omega
          · exact h5
/-- the state of a run of orders: y behind n steps -/
def odI (ρ : Nat → Int) (n : Nat) (y : od_S) : Prop := sp_ok y.1 ∧ y.1 5 ≤ 999 ∧ (∀ j, (j < 5 ∨ 69 ≤ j) → y.1 j = ρ j) ∧ (0 ≤ y.2.2.1 ∧ y.2.2.1 ≤ n) ∧ (-1 ≤ y.2.2.2 ∧ y.2.2.2 ≤ 1000)
theorem odI_1 {lw : List sp_C} {ρ : Nat → Int} {n : Nat} {c : od_C} {y z : od_S} (hc : 0 ≤ c.1 ∧ c.1 ≤ 4) (h : odI ρ n y) (e : od_1 lw c y = some z) : odI ρ (n + 1) z := by
  obtain ⟨h1, h2, h3, h4, h5⟩ := h
  unfold od_1 at e
  split at e
  · split at e
    · rename_i a b _ _
      split at e
      · cases e
      · rename_i hv
        cases e
        refine ⟨od_R_ok h1 _ a b (by omega), od_R_5 h1 _ a b (by omega) h2, fun j hj => ?_, ?_, ?_⟩
        · show od_R lw y.1 c.1 a b j = ρ j
          rw [od_R_fix h1 _ a b hj (by omega)]; exact h3 j hj
        · show 0 ≤ y.2.2.1 + 1 ∧ y.2.2.1 + 1 ≤ ((n + 1 : Nat) : Int)
          omega
        · show -1 ≤ (if c.1 = 0 then od_V lw y.1 c.1 a b else y.2.2.2) ∧ (if c.1 = 0 then od_V lw y.1 c.1 a b else y.2.2.2) ≤ 1000
          have hb := od_V_b (lw := lw) h1 hc a b
          split <;> omega
    · cases e
  · cases e
    exact ⟨h1, h2, h3, ⟨h4.1, by omega⟩, h5⟩
noncomputable def odK (lw : List sp_C) (r : List od_C) (x : od_C) (c k : Nat) (y : od_S) : od_S ⊕ Nat := match od_n lw x k y with
  | none => .inr c
  | some z => od_L lw r (c + 1) z
theorem odK_n {lw : List sp_C} {r : List od_C} {x : od_C} {c k : Nat} {y : od_S} (h : od_1 lw x y = none) : odK lw r x c (k + 1) y = .inr c := by
  unfold odK
  rw [od_n, h]
theorem odK_s {lw : List sp_C} {r : List od_C} {x : od_C} {c k : Nat} {y z : od_S} (h : od_1 lw x y = some z) : odK lw r x c (k + 1) y = odK lw r x c k z := by
  unfold odK
  rw [od_n, h]
theorem od_L_x {lw : List sp_C} {ol : List od_C} {c : Nat} {x : od_C} (h : ol[c]? = some x) (y : od_S) : od_L lw (ol.drop c) c y = odK lw (ol.drop (c + 1)) x c x.2.1 y := by
  have e : ol.drop c = x :: ol.drop (c + 1) := by
    obtain ⟨hc, e2⟩ := List.getElem?_eq_some_iff.mp h
    rw [← e2]; exact List.drop_eq_getElem_cons hc
  rw [e, od_L]
  rfl
/-- what a run of orders keeps of memory -/
def odM (M0 M : Nat → Nat → Int) (Z : lwQ) (y : od_S) : Prop := rr_ M = y.1 ∧ tlR M y.2.1 ∧ M 228 55 = y.2.2.1 ∧ M 228 56 = y.2.2.2 ∧ M 228 20 = 0 ∧ r9 M0 M ∧ (∀ j, j < 64 → M 233 (1088 + j) = M0 230 (5 + j)) ∧ (∀ j, j < 1024 → M 235 j = M0 233 j) ∧ (∀ j, j < 16 → M 236 j = M0 234 j) ∧ M 262 = Z.2.2 ∧ M 239 = Z.1.o ∧ M 240 = Z.1.a ∧ M 228 21 = ((Z.2.1 : Nat) : Int) ∧ M 229 = M0 229
theorem odM_1 {sh : List (Nat × Nat)} {M0 M M2 : Nat → Nat → Int} {Z : lwQ} {y z : od_S} (h : odM M0 M Z y) (q : px_qk sh [228, 230, 233, 234, 246, 247, 248, 249, 250] M M2) (h1 : rr_ M2 = z.1) (h2 : tlR M2 z.2.1) (h3 : M2 228 55 = z.2.2.1) (h4 : M2 228 56 = z.2.2.2) (h5 : M2 228 20 = 0) (h6 : ∀ j, 1024 ≤ j → M2 233 j = M 233 j) (h7 : r9 M M2) (h8 : fz [8, 20, 34, 38, 39, 40, 55, 56, 58] M M2) : odM M0 M2 Z z := by
  obtain ⟨a1, a2, a3, a4, a5, a6, a7, a8, a9, b1, b2, b3, b4, b5⟩ := h
  exact ⟨h1, h2, h3, h4, h5, r9_tr a6 h7, fun j hj => by rw [h6 _ (by omega)]; exact a7 j hj, by rw [q.2.2 235 (by decide)]; exact a8, by rw [q.2.2 236 (by decide)]; exact a9, by rw [q.2.2 262 (by decide)]; exact b1, by rw [q.2.2 239 (by decide)]; exact b2, by rw [q.2.2 240 (by decide)]; exact b3, by rw [h8 21 (by decide)]; exact b4, by rw [q.2.2 229 (by decide)]; exact b5⟩
theorem odM_4 {M0 M : Nat → Nat → Int} {Z : lwQ} {y : od_S} {n : Nat} (h : odM M0 M Z y) (hI : odI (rr_ M0) n y) : M 230 4 = M0 230 4 := by
  have e1 := h.1
  have e2 := hI.2.2.1 4 (by omega)
  rw [← e1] at e2
  unfold rr_ at e2
  rw [if_pos (by omega), if_pos (by omega)] at e2
  exact e2
def odP (M0 M : Nat → Nat → Int) (lw : List sp_C) (tl : sp_T) (v : Int) (R : od_S ⊕ Nat) : Prop := match R with
  | .inl y => v = y.2.2.1 ∧ rr_ M = y.1 ∧ tlR M y.2.1 ∧ M 228 57 = -1
  | .inr i => v = -3 ∧ rr_ M = rr_ M0 ∧ tlR M tl ∧ M 228 57 = ((i : Nat) : Int)
theorem lp_R_giveBack_35 {xs : Nat → Int} {L d : Nat} {sh : List (Nat × Nat)} (hd : 1 ≤ d) (hW : px_W0 <+: sh) {M0 : Nat → Nat → Int}  {u : Int}  {Q : Option Value → px_H → Prop} (kx : ∀ (i : Nat) (M : Nat → Nat → Int), px_qk sh [234] M0 M → (∀ j, M 234 j = if j < 16 then M0 236 j else M0 234 j) → px_R xs L d 298 (59, [.ref 228, .int (iI (u)), .int (iI (((i : Nat) : Int)))], [], (sh, M)) Q)  : ∀ (mz : Nat) (i : Nat) (M : Nat → Nat → Int), 16 - i = mz → px_qk sh [234] M0 M → (i ≤ 16) → (∀ j, M 234 j = if j < i then M0 236 j else M0 234 j) → px_R xs L d 298 (35, [.ref 228, .int (iI (u)), .int (iI (((i : Nat) : Int)))], [], (sh, M)) Q := by
  intro mz
  induction mz using Nat.strongRecOn with
  | _ mz ih =>
    intro i M hm hq hi h1
    refine rr_iload_n pf_298_35 rfl ?_
    refine rr_bipush pf_298_36 (by decide) ?_
    refine rr_icmp_ge 59 pf_298_38 (by decide) (by unfold rg; omega) (by unfold rg; omega) (fun c1 => ?_) (fun c1 => ?_)
    · exact kx i M hq (by rw [show i = 16 by omega] at h1; exact h1)
    · refine rr_aload_n pf_298_41 rfl ?_
      refine rr_getR pf_298_42 po_298 pg_9_26 rfl (ws_228 hW) (by decide) (wr_228_7 hq.1) ?_
      refine rr_iload_n pf_298_45 rfl ?_
      refine rr_aload_n pf_298_46 rfl ?_
      refine rr_getR pf_298_47 po_298 pg_9_32 rfl (ws_228 hW) (by decide) (wr_228_10 hq.1) ?_
      refine rr_iload_n pf_298_50 rfl ?_
      refine vr_iald (j := i) hq pf_298_51 (ws_236 hW) (by omega) (by omega) (by decide) (fun x2 hx2 rx2 => ?_)
      rw [hq.2.2 236 (by decide)] at hx2
      have hx9 := hx2
      refine vr_iast (j := i) hW hq pf_298_52 (ws_234 hW) (by omega) (by omega) (by decide) rx2 (by decide) (fun M3 eM3 q4 => ?_)
      refine rr_iinc pf_298_53 rfl (fun y => [.ref 228, .int (iI (u)), .int (iI (y))]) (fun _ => rfl) (fun y5 hy5 => ?_)
      refine rr_goto 35 pf_298_56 (by decide) ?_
      obtain ⟨nz6, hnz6, rfl⟩ : ∃ zz : Nat, zz = 1 + i ∧ y5 = ((zz : Nat) : Int) := ⟨1 + i, rfl, by omega⟩
      exact ih _ (by omega) nz6 M3 rfl q4 (by omega) (by
                  intro j; rw [eM3, ask_up]; by_cases hj : j = i
                  · rw [if_pos hj, if_pos (by omega), hx9, hj]
                  · rw [if_neg hj, h1]; by_cases hc : j < i
                    · rw [if_pos hc, if_pos (by omega)]
                    · rw [if_neg hc, if_neg (by omega)])
theorem lp_R_giveBack_8 {xs : Nat → Int} {L d : Nat} {sh : List (Nat × Nat)} (hd : 1 ≤ d) (hW : px_W0 <+: sh) {M0 : Nat → Nat → Int}  {u : Int}  {Q : Option Value → px_H → Prop} (kx : ∀ (i : Nat) (M : Nat → Nat → Int), px_qk sh [233] M0 M → (∀ j, M 233 j = if j < 1024 then M0 235 j else M0 233 j) → px_R xs L d 298 (33, [.ref 228, .int (iI (u)), .int (iI (((i : Nat) : Int)))], [], (sh, M)) Q)  : ∀ (mz : Nat) (i : Nat) (M : Nat → Nat → Int), 1024 - i = mz → px_qk sh [233] M0 M → (i ≤ 1024) → (∀ j, M 233 j = if j < i then M0 235 j else M0 233 j) → px_R xs L d 298 (8, [.ref 228, .int (iI (u)), .int (iI (((i : Nat) : Int)))], [], (sh, M)) Q := by
  intro mz
  induction mz using Nat.strongRecOn with
  | _ mz ih =>
    intro i M hm hq hi h1
    refine rr_iload_n pf_298_8 rfl ?_
    refine rr_sipush pf_298_9 (by decide) ?_
    refine rr_icmp_ge 33 pf_298_12 (by decide) (by unfold rg; omega) (by unfold rg; omega) (fun c1 => ?_) (fun c1 => ?_)
    · exact kx i M hq (by rw [show i = 1024 by omega] at h1; exact h1)
    · refine rr_aload_n pf_298_15 rfl ?_
      refine rr_getR pf_298_16 po_298 pg_9_23 rfl (ws_228 hW) (by decide) (wr_228_6 hq.1) ?_
      refine rr_iload_n pf_298_19 rfl ?_
      refine rr_aload_n pf_298_20 rfl ?_
      refine rr_getR pf_298_21 po_298 pg_9_29 rfl (ws_228 hW) (by decide) (wr_228_9 hq.1) ?_
      refine rr_iload_n pf_298_24 rfl ?_
      refine vr_iald (j := i) hq pf_298_25 (ws_235 hW) (by omega) (by omega) (by decide) (fun x2 hx2 rx2 => ?_)
      rw [hq.2.2 235 (by decide)] at hx2
      have hx9 := hx2
      refine vr_iast (j := i) hW hq pf_298_26 (ws_233 hW) (by omega) (by omega) (by decide) rx2 (by decide) (fun M3 eM3 q4 => ?_)
      refine rr_iinc pf_298_27 rfl (fun y => [.ref 228, .int (iI (u)), .int (iI (y))]) (fun _ => rfl) (fun y5 hy5 => ?_)
      refine rr_goto 8 pf_298_30 (by decide) ?_
      obtain ⟨nz6, hnz6, rfl⟩ : ∃ zz : Nat, zz = 1 + i ∧ y5 = ((zz : Nat) : Int) := ⟨1 + i, rfl, by omega⟩
      exact ih _ (by omega) nz6 M3 rfl q4 (by omega) (by
                  intro j; rw [eM3, ask_up]; by_cases hj : j = i
                  · rw [if_pos hj, if_pos (by omega), hx9, hj]
                  · rw [if_neg hj, h1]; by_cases hc : j < i
                    · rw [if_pos hc, if_pos (by omega)]
                    · rw [if_neg hc, if_neg (by omega)])
theorem ct_R_giveBack {xs : Nat → Int} {L d : Nat} {sh : List (Nat × Nat)} {M0 : Nat → Nat → Int} (hd : 2 ≤ d) (hW : px_W0 <+: sh) (hF : px_Fx M0) (hG : px_RG sh M0)  {n : Nat} (hn : n ≤ 16) : ∃ M, (px_qk sh [228, 230, 233, 234] M0 M ∧ (∀ j, M 230 j = if 5 ≤ j ∧ j < 69 then M0 233 (1088 + (j - 5)) else M0 230 j) ∧ (∀ j, j < 1024 → M 233 j = M0 235 j) ∧ (∀ j, j < 16 → M 234 j = M0 236 j) ∧ (M 228 8 = ((n : Nat) : Int)) ∧ (fz [8] M0 M)) ∧ px_Cl xs L d 298 [.ref 228, .int (iI (((n : Nat) : Int)))] (sh, M0) (none) (sh, M) := by
  obtain ⟨d, rfl⟩ : ∃ e, d = e + 1 := ⟨d - 1, by omega⟩
  have q0 : px_qk sh [228, 230, 233, 234] M0 M0 := ⟨hF, hG, eo_rf⟩
  refine vc_n (Nat.le_of_ble_eq_true rfl) ?_
  show px_R xs L d 298 (0, [.ref 228, .int (iI (((n : Nat) : Int))), px_jk], [], (sh, M0)) (fun r h' => r = none ∧ ∃ M', h' = (sh, M') ∧ px_qk sh [228, 230, 233, 234] M0 M' ∧ (∀ j, M' 230 j = if 5 ≤ j ∧ j < 69 then M0 233 (1088 + (j - 5)) else M0 230 j) ∧ (∀ j, j < 1024 → M' 233 j = M0 235 j) ∧ (∀ j, j < 16 → M' 234 j = M0 236 j) ∧ M' 228 8 = ((n : Nat) : Int) ∧ fz [8] M0 M')
  refine rr_aload_n pf_298_0 rfl ?_
  refine rr_bipush pf_298_1 (by decide) ?_
  obtain ⟨M1, ⟨kq2, kb_M1⟩, hcM1⟩ := ct_R_putBack (xs := xs) (L := L) (d := d) (k := 17) (by omega) hW q0.1 q0.2.1 (by omega)
  rw [show ((17 : Nat) : Int) = 17 by omega] at hcM1
  have q2 := qk_trm q0 kq2 (by decide)
  have rq3 := fz_q (fz_rf [8] M0) kq2 (by decide)
  refine rr_cV1 pf_298_3 po_298 pc_9_194 (ws_228 hW) po_177 (by decide) rfl hcM1 ?_
  
  refine rr_iconst pf_298_6 ?_
  refine rr_istore_n pf_298_7 (fun y => [.ref 228, .int (iI (((n : Nat) : Int))), .int (iI (y))]) (Nat.le_of_ble_eq_true rfl) (fun _ => rfl) (fun y4 hy4 => ?_)
  obtain ⟨nz5, hnz5, rfl⟩ : ∃ zz : Nat, zz = 0 ∧ y4 = ((zz : Nat) : Int) := ⟨0, rfl, by omega⟩
  refine lp_R_giveBack_8 (xs := xs) (L := L) (d := d) (by omega) hW (fun i_6  M7 q8 x1_M7 => ?_) _ nz5 M1 rfl ⟨q2.1, q2.2.1, eo_rf⟩ (by omega) (by intro j; rw [if_neg (by omega)])
  have q9 := qk_trm q2 q8 (by decide)
  have rq10 := fz_q rq3 q8 (by decide)
  
  refine rr_iconst pf_298_33 ?_
  refine rr_istore_n pf_298_34 (fun y => [.ref 228, .int (iI (((n : Nat) : Int))), .int (iI (y))]) (Nat.le_of_ble_eq_true rfl) (fun _ => rfl) (fun y11 hy11 => ?_)
  obtain ⟨nz12, hnz12, rfl⟩ : ∃ zz : Nat, zz = 0 ∧ y11 = ((zz : Nat) : Int) := ⟨0, rfl, by omega⟩
  refine lp_R_giveBack_35 (xs := xs) (L := L) (d := d) (by omega) hW (fun i_13  M14 q15 x1_M14 => ?_) _ nz12 M7 rfl ⟨q9.1, q9.2.1, eo_rf⟩ (by omega) (by intro j; rw [if_neg (by omega)])
  have q16 := qk_trm q9 q15 (by decide)
  have rq17 := fz_q rq10 q15 (by decide)
  
  refine rr_aload_n pf_298_59 rfl ?_
  refine rr_iload_n pf_298_60 rfl ?_
  refine vr_putI hW q16 pf_298_61 po_298 pg_9_183 (Or.inl rfl) rfl (ws_228 hW) (by decide) (by unfold rg; omega) (by decide) (fun M18 eM18 q19 => ?_)
  have rq20 := fz_up rq17 eM18 (by decide)
  refine rr_vret pf_298_64 pt_298 ⟨rfl, M18, rfl, q19, (by intro j; rw [eM18, ask_ne (by decide), q15.2.2 230 (by decide), q8.2.2 230 (by decide)]; exact kb_M1 j), (by intro j hj; rw [eM18, ask_ne (by decide), q15.2.2 233 (by decide), x1_M7, if_pos hj, kq2.2.2 235 (by decide)]), (by intro j hj; rw [eM18, ask_ne (by decide), x1_M14, if_pos hj, q8.2.2 236 (by decide), kq2.2.2 236 (by decide)]), (by rw [eM18, up_s]), (rq20)⟩
theorem odM_bk2 {sh : List (Nat × Nat)} {M0 M M1 M2 : Nat → Nat → Int} {Z : lwQ} {y : od_S} {n : Nat} {tl : sp_T} (h : odM M0 M Z y) (hI : odI (rr_ M0) n y) (ht : tlR M0 tl) (q : px_qk sh [228, 230, 233, 234, 246, 247, 248, 249, 250] M M1) (h6 : ∀ j, 1024 ≤ j → M1 233 j = M 233 j) (h7 : r9 M M1) (h0 : rr_ M1 = y.1) (h230 : ∀ j, M2 230 j = if 5 ≤ j ∧ j < 69 then M1 233 (1088 + (j - 5)) else M1 230 j) (h233 : ∀ j, j < 1024 → M2 233 j = M1 235 j) (h234 : ∀ j, j < 16 → M2 234 j = M1 236 j) (h8 : M2 228 8 = ((tl.length : Nat) : Int)) : rr_ M2 = rr_ M0 ∧ tlR M2 tl ∧ r9 M0 M2 := by
  obtain ⟨a1, a2, a3, a4, a5, a6, a7, a8, a9, b1, b2, b3, b4, b5⟩ := h
  refine ⟨?_, ?_, ?_⟩
  · funext j
    unfold rr_
    split
    · rw [h230]
      split
      · rw [h6 _ (by omega), a7 _ (by omega)]; congr 1; omega
      · have e := hI.2.2.1 j (by omega)
        rw [← h0] at e
        unfold rr_ at e
        rw [if_pos (by omega), if_pos (by omega)] at e
        exact e
    · rfl
  · obtain ⟨c1, c2, c3⟩ := ht
    refine ⟨h8, c2, fun k hk => ?_⟩
    obtain ⟨e, g1, g2, g3⟩ := c3 k hk
    refine ⟨e, g1, by rw [h234 k (by omega), q.2.2 236 (by decide), a9 k (by omega)]; exact g2, fun i hi => by rw [h233 _ (by omega), q.2.2 235 (by decide), a8 _ (by omega)]; exact g3 i hi⟩
  · intro j hj
    rw [h230, if_neg (by omega), h7 j hj]
    exact a6 j hj
theorem lp_R_orders_19 {xs : Nat → Int} {L d : Nat} {sh : List (Nat × Nat)} (hd : 15 ≤ d) (hW : px_W0 <+: sh) {M0 : Nat → Nat → Int}  {E : rdE} {lw : Nat → Int} (hlwB : ∀ k, k < 5 → M0 261 k = lw k ∧ 0 ≤ lw k ∧ lw k ≤ 1125899906842624) {R : lwQ} {Q : Option Value → px_H → Prop} (kx : ∀ (z : lwQ) (n : Nat) (v1 : Value) (v2 : Value) (v3 : Value) (M : Nat → Nat → Int), px_qk sh [228, 239, 240, 241, 242, 262] M0 M → (fz [0, 1, 8, 13, 14, 15, 16, 17, 18, 19, 20, 21, 23, 26, 29, 30, 34, 38, 39, 40, 55, 56, 57, 58] M0 M) → (RT M E R.1.i R.1) → (M 228 21 = ((R.2.1 : Nat) : Int)) → (M 262 = R.2.2) → (R.2.1 ≤ 12) → (R.1.flt = 0 ∨ R.1.flt = 1) → (M 228 8 = M0 228 8 ∧ M 228 57 = M0 228 57) → px_R xs L d 292 (46, [.ref 228, v1, v2, v3], [], (sh, M)) Q)  : ∀ (mz : Nat) (z : lwQ) (n : Nat) (v1 : Value) (v2 : Value) (v3 : Value) (M : Nat → Nat → Int), n = mz → px_qk sh [228, 239, 240, 241, 242, 262] M0 M → (fz [0, 1, 8, 13, 14, 15, 16, 17, 18, 19, 20, 21, 23, 26, 29, 30, 34, 38, 39, 40, 55, 56, 57, 58] M0 M) → (RT M E z.1.i z.1) → (M 228 21 = ((z.2.1 : Nat) : Int)) → (M 262 = z.2.2) → (z.2.1 ≤ 12) → (z.1.flt = 0 ∨ z.1.flt = 1) → (z.1.flt = 0 → E.tn + 1 ≤ n + z.1.i) → (lwR E (odT E lw) n z = R) → (M 228 8 = M0 228 8 ∧ M 228 57 = M0 228 57) → px_R xs L d 292 (19, [.ref 228, v1, v2, v3], [], (sh, M)) Q := by
  intro mz
  induction mz using Nat.strongRecOn with
  | _ mz ih =>
    intro z n v1 v2 v3 M hm hq hrq hS h21 hC hnl hf1 hn hR h857
    refine rr_aload_n pf_292_19 rfl ?_
    refine vr_getZ hq pf_292_20 po_292 pg_9_276 rfl (ws_228 hW) (by decide) (fun x1 hx1 rx1 => ?_)
    rw [hS.h19] at hx1
    refine rr_if_ne 46 pf_292_23 (by decide) rx1 (fun c2 => ?_) (fun c2 => ?_)
    · exact kx z n _ _ _ M hq (hrq) (by rw [← hR, lwR_e (by omega)]; exact hS) (by rw [← hR, lwR_e (by omega)]; exact h21) (by rw [← hR, lwR_e (by omega)]; exact hC) (by rw [← hR, lwR_e (by omega)]; exact hnl) (by rw [← hR, lwR_e (by omega)]; exact hf1) (h857)
    · refine rr_aload_n pf_292_26 rfl ?_
      refine rr_bipush pf_292_27 (by decide) ?_
      obtain ⟨M3, kq4, hcM3⟩ := ct_RT_isSign (xs := xs) (L := L) (d := d) (u := 59) (E := E) (s := z.1) (b := z.1.i) (by omega) hW hq.1 hq.2.1 hS (by unfold rg; omega)
      obtain rfl := qk_nil kq4
      refine rr_cV1 pf_292_29 po_292 pc_9_347 (ws_228 hW) po_231 (by decide) rfl hcM3 ?_
      refine rr_ifb_eq 46 pf_292_32 (by decide) (fun c6 => ?_) (fun c6 => ?_)
      · exact kx z n _ _ _ M hq (hrq) (by rw [← hR, lwR_e (by omega)]; exact hS) (by rw [← hR, lwR_e (by omega)]; exact h21) (by rw [← hR, lwR_e (by omega)]; exact hC) (by rw [← hR, lwR_e (by omega)]; exact hnl) (by rw [← hR, lwR_e (by omega)]; exact hf1) (h857)
      · have hfz : z.1.flt = 0 := by omega
        have hsemi : z.1.flt = 0 ∧ rK E z.1 = 3 ∧ rW E z.1 = 59 := by omega
        refine rr_aload_n pf_292_35 rfl ?_
        obtain ⟨M7, ⟨kq8, pS_M7, pf_M7⟩, hcM7⟩ := ct_RT_next (xs := xs) (L := L) (d := d) (E := E) (s := z.1) (b := z.1.i) (by omega) hW hq.1 hq.2.1 hS
        have q8 := qk_trm hq kq8 (by decide)
        have rq10 := fz_tr hrq pf_M7 (by decide)
        refine rr_cV0 pf_292_36 po_292 pc_9_280 (ws_228 hW) po_222 (by decide) rfl hcM7 ?_
        have hsn := RT_nb hS.hi hS.hnb pS_M7
        have hk21 : M7 228 21 = ((z.2.1 : Nat) : Int) := (pf_M7 21 (by decide)).trans h21
        have hkC : M7 262 = z.2.2 := (kq8.2.2 262 (by decide)).trans hC
        
        refine rr_aload_n pf_292_39 rfl ?_
        obtain ⟨M11, ⟨kq12, pS_M11, p21_M11, pC_M11, pf_M11⟩, hcM11⟩ := ct_R_readOrder (xs := xs) (L := L) (d := d) (E := E) (s := (nxS E z.1)) (nl := z.2.1) (lw := lw) (by omega) hW q8.1 q8.2.1 hsn hfz hk21 hnl (by rw [q8.2.2 261 (by decide)]; exact hlwB)
        have q12 := qk_trm q8 kq12 (by decide)
        have rq14 := fz_tr rq10 pf_M11 (by decide)
        refine rr_cV0 pf_292_40 po_292 pc_9_585 (ws_228 hW) po_293 (by decide) rfl hcM11 ?_
        have hSn : RT M11 E (odT E lw (lwN E z)).1.i (odT E lw (lwN E z)).1 := pS_M11
        have h21n : M11 228 21 = (((odT E lw (lwN E z)).2.1 : Nat) : Int) := p21_M11
        have hCn : M11 262 = (odT E lw (lwN E z)).2.2 := by rw [pC_M11, hkC]; rfl
        have hpz := p2_odT (E := E) (lw := lw) (z := lwN E z) hsn.hi
        have hf1n : (odT E lw (lwN E z)).1.flt = 0 ∨ (odT E lw (lwN E z)).1.flt = 1 := by
          rcases hpz.2.2 with h | h
          · exact Or.inl (h.trans hfz)
          · exact Or.inr h
        obtain ⟨n2, rfl⟩ : ∃ y, n = y + 1 := ⟨n - 1, by have := hn hfz; have := hS.hi; omega⟩
        have hRn : lwR E (odT E lw) n2 (odT E lw (lwN E z)) = R := by rw [lwR, if_pos hsemi] at hR; exact hR
        have hnn : E.tn + 1 ≤ n2 + (odT E lw (lwN E z)).1.i := by have h1 := hn hfz; have h2 := hpz.1; have h3 : z.1.i + 1 ≤ (nxS E z.1).i := tkE_1 hS.hi (show rK E z.1 ≠ 0 by omega); have h4 : (lwN E z).1.i = (nxS E z.1).i := rfl; omega
        
        refine rr_goto 19 pf_292_43 (by decide) ?_
        exact ih _ (by omega) (odT E lw (lwN E z)) n2 _ _ _ M11 rfl q12 (rq14) (hSn) (h21n) (hCn) (odT_n hnl) (hf1n) (fun _ => hnn) (hRn) (⟨(pf_M11 8 (by decide)).trans ((pf_M7 8 (by decide)).trans h857.1), (pf_M11 57 (by decide)).trans ((pf_M7 57 (by decide)).trans h857.2)⟩)
theorem lp_R_orders_77 {xs : Nat → Int} {L d : Nat} {sh : List (Nat × Nat)} (hd : 15 ≤ d) (hW : px_W0 <+: sh) {M0 : Nat → Nat → Int}  {u : Int}  {Q : Option Value → px_H → Prop} (kx : ∀ (i : Nat) (v3 : Value) (M : Nat → Nat → Int), px_qk sh [235] M0 M → (∀ j, M 235 j = if j < 1024 then M0 233 j else M0 235 j) → px_R xs L d 292 (102, [.ref 228, .int (iI (u)), .int (iI (((i : Nat) : Int))), v3], [], (sh, M)) Q)  : ∀ (mz : Nat) (i : Nat) (v3 : Value) (M : Nat → Nat → Int), 1024 - i = mz → px_qk sh [235] M0 M → (i ≤ 1024) → (∀ j, M 235 j = if j < i then M0 233 j else M0 235 j) → px_R xs L d 292 (77, [.ref 228, .int (iI (u)), .int (iI (((i : Nat) : Int))), v3], [], (sh, M)) Q := by
  intro mz
  induction mz using Nat.strongRecOn with
  | _ mz ih =>
    intro i v3 M hm hq hi h1
    refine rr_iload_n pf_292_77 rfl ?_
    refine rr_sipush pf_292_78 (by decide) ?_
    refine rr_icmp_ge 102 pf_292_81 (by decide) (by unfold rg; omega) (by unfold rg; omega) (fun c1 => ?_) (fun c1 => ?_)
    · exact kx i _ M hq (by rw [show i = 1024 by omega] at h1; exact h1)
    · refine rr_aload_n pf_292_84 rfl ?_
      refine rr_getR pf_292_85 po_292 pg_9_29 rfl (ws_228 hW) (by decide) (wr_228_9 hq.1) ?_
      refine rr_iload_n pf_292_88 rfl ?_
      refine rr_aload_n pf_292_89 rfl ?_
      refine rr_getR pf_292_90 po_292 pg_9_23 rfl (ws_228 hW) (by decide) (wr_228_6 hq.1) ?_
      refine rr_iload_n pf_292_93 rfl ?_
      refine vr_iald (j := i) hq pf_292_94 (ws_233 hW) (by omega) (by omega) (by decide) (fun x2 hx2 rx2 => ?_)
      rw [hq.2.2 233 (by decide)] at hx2
      have hx9 := hx2
      refine vr_iast (j := i) hW hq pf_292_95 (ws_235 hW) (by omega) (by omega) (by decide) rx2 (by decide) (fun M3 eM3 q4 => ?_)
      refine rr_iinc pf_292_96 rfl (fun y => [.ref 228, .int (iI (u)), .int (iI (y)), v3]) (fun _ => rfl) (fun y5 hy5 => ?_)
      refine rr_goto 77 pf_292_99 (by decide) ?_
      obtain ⟨nz6, hnz6, rfl⟩ : ∃ zz : Nat, zz = 1 + i ∧ y5 = ((zz : Nat) : Int) := ⟨1 + i, rfl, by omega⟩
      exact ih _ (by omega) nz6 _ M3 rfl q4 (by omega) (by
                  intro j; rw [eM3, ask_up]; by_cases hj : j = i
                  · rw [if_pos hj, if_pos (by omega), hx9, hj]
                  · rw [if_neg hj, h1]; by_cases hc : j < i
                    · rw [if_pos hc, if_pos (by omega)]
                    · rw [if_neg hc, if_neg (by omega)])
theorem lp_R_orders_104 {xs : Nat → Int} {L d : Nat} {sh : List (Nat × Nat)} (hd : 15 ≤ d) (hW : px_W0 <+: sh) {M0 : Nat → Nat → Int}  {u : Int}  {Q : Option Value → px_H → Prop} (kx : ∀ (i : Nat) (v3 : Value) (M : Nat → Nat → Int), px_qk sh [236] M0 M → (∀ j, M 236 j = if j < 16 then M0 234 j else M0 236 j) → px_R xs L d 292 (128, [.ref 228, .int (iI (u)), .int (iI (((i : Nat) : Int))), v3], [], (sh, M)) Q)  : ∀ (mz : Nat) (i : Nat) (v3 : Value) (M : Nat → Nat → Int), 16 - i = mz → px_qk sh [236] M0 M → (i ≤ 16) → (∀ j, M 236 j = if j < i then M0 234 j else M0 236 j) → px_R xs L d 292 (104, [.ref 228, .int (iI (u)), .int (iI (((i : Nat) : Int))), v3], [], (sh, M)) Q := by
  intro mz
  induction mz using Nat.strongRecOn with
  | _ mz ih =>
    intro i v3 M hm hq hi h1
    refine rr_iload_n pf_292_104 rfl ?_
    refine rr_bipush pf_292_105 (by decide) ?_
    refine rr_icmp_ge 128 pf_292_107 (by decide) (by unfold rg; omega) (by unfold rg; omega) (fun c1 => ?_) (fun c1 => ?_)
    · exact kx i _ M hq (by rw [show i = 16 by omega] at h1; exact h1)
    · refine rr_aload_n pf_292_110 rfl ?_
      refine rr_getR pf_292_111 po_292 pg_9_32 rfl (ws_228 hW) (by decide) (wr_228_10 hq.1) ?_
      refine rr_iload_n pf_292_114 rfl ?_
      refine rr_aload_n pf_292_115 rfl ?_
      refine rr_getR pf_292_116 po_292 pg_9_26 rfl (ws_228 hW) (by decide) (wr_228_7 hq.1) ?_
      refine rr_iload_n pf_292_119 rfl ?_
      refine vr_iald (j := i) hq pf_292_120 (ws_234 hW) (by omega) (by omega) (by decide) (fun x2 hx2 rx2 => ?_)
      rw [hq.2.2 234 (by decide)] at hx2
      have hx9 := hx2
      refine vr_iast (j := i) hW hq pf_292_121 (ws_236 hW) (by omega) (by omega) (by decide) rx2 (by decide) (fun M3 eM3 q4 => ?_)
      refine rr_iinc pf_292_122 rfl (fun y => [.ref 228, .int (iI (u)), .int (iI (y)), v3]) (fun _ => rfl) (fun y5 hy5 => ?_)
      refine rr_goto 104 pf_292_125 (by decide) ?_
      obtain ⟨nz6, hnz6, rfl⟩ : ∃ zz : Nat, zz = 1 + i ∧ y5 = ((zz : Nat) : Int) := ⟨1 + i, rfl, by omega⟩
      exact ih _ (by omega) nz6 _ M3 rfl q4 (by omega) (by
                  intro j; rw [eM3, ask_up]; by_cases hj : j = i
                  · rw [if_pos hj, if_pos (by omega), hx9, hj]
                  · rw [if_neg hj, h1]; by_cases hc : j < i
                    · rw [if_pos hc, if_pos (by omega)]
                    · rw [if_neg hc, if_neg (by omega)])
theorem lp_R_orders_150 {xs : Nat → Int} {L d : Nat} {sh : List (Nat × Nat)} (hd : 15 ≤ d) (hW : px_W0 <+: sh) {M0 : Nat → Nat → Int}  {E : rdE} (h13 : M0 228 13 = ((E.tn : Nat) : Int)) (htn : E.tn ≤ 400) (h237 : M0 237 = E.tb) (htb : ∀ j, 0 ≤ E.tb j ∧ E.tb j ≤ 255) (hod : E.od = 0 ∨ E.od = 1) (h243 : ∀ k, k < 12 → M0 243 k = E.f k ∧ 0 ≤ E.f k ∧ E.f k ≤ 1125899906842624) (h244 : ∀ k, k < 9 → M0 244 k = E.g k ∧ 0 ≤ E.g k ∧ E.g k ≤ 1125899906842624) (hod0 : E.od = 1) (hrf : ∀ j, j < 7 → 0 ≤ M0 229 j ∧ M0 229 j ≤ 1000000000) (hρ : sp_ok (rr_ M0)) {lw : List sp_C} (hlw : px_lwR M0 lw) {tl : sp_T} (htl : tlR M0 tl) (h999 : rr_ M0 5 ≤ 999) {lo : Nat → Int} (hlo : ∀ k, k < 5 → M0 261 k = lo k ∧ 0 ≤ lo k ∧ lo k ≤ 1125899906842624) {Z : lwQ} (hZ : Z = lwR E (odT E lo) 401 (odT E lo (rB0 (M0 239) (M0 240), 0, M0 262))) {ol : List od_C} (hol : Z.1.flt = 0 ∧ rK E Z.1 = 0 → Z.2.1 = ol.length ∧ ∀ c x, ol[c]? = some x → ro_cl Z.2.2 Z.1.o Z.1.a c x) {n0 c : Nat} (hn0 : n0 = tl.length) (hok : Z.1.flt = 0 ∧ rK E Z.1 = 0) {x : od_C} (hx : ol[c]? = some x) (hcl : c < 12) {Q : Option Value → px_H → Prop} (kx : ∀ (t : Nat) (y : od_S) (M : Nat → Nat → Int), px_qk sh [228, 229, 230, 233, 234, 235, 236, 239, 240, 241, 242, 246, 247, 248, 249, 250, 262] M0 M → (fz [0, 1, 8, 13, 14, 15, 16, 17, 18, 19, 20, 21, 23, 26, 29, 30, 34, 38, 39, 40, 55, 56, 57, 58] M0 M) → (odM M0 M Z y) → (odI (rr_ M0) (20 * c + 20) y) → (od_L lw ol 0 (rr_ M0, tl, 0, -1) = od_L lw (ol.drop (c + 1)) (c + 1) y) → (M 228 13 = 0) → (M 228 18 = (if Z.1.flt = 0 ∧ rK E Z.1 ≠ 0 then ((tkS E.tn E.tb Z.1.i : Nat) : Int) else Z.1.bad)) → (M 228 57 = -1) → px_R xs L d 292 (200, [.ref 228, .int (iI (((n0 : Nat) : Int))), .int (iI (((c : Nat) : Int))), .int (iI (((t : Nat) : Int)))], [], (sh, M)) Q) (hQ : ∀ r h', (fun r h' => ∃ v M', r = some (.int (iI v)) ∧ h' = (sh, M') ∧ px_qk sh [228, 229, 230, 233, 234, 235, 236, 239, 240, 241, 242, 246, 247, 248, 249, 250, 262] M0 M' ∧ ((¬ (Z.1.flt = 0 ∧ rK E Z.1 = 0) → v = -6 ∧ rr_ M' = rr_ M0 ∧ tlR M' tl ∧ M' 228 57 = -1) ∧ (Z.1.flt = 0 ∧ rK E Z.1 = 0 → odP M0 M' lw tl v (od_L lw ol 0 (rr_ M0, tl, 0, -1)))) ∧ (M' 228 18 = (if Z.1.flt = 0 ∧ rK E Z.1 ≠ 0 then ((tkS E.tn E.tb Z.1.i : Nat) : Int) else Z.1.bad)) ∧ M' 228 13 = 0 ∧ M' 228 20 = 0 ∧ r9 M0 M' ∧ (M' 228 1 = if v < 0 then v else 0) ∧ M' 229 = bmp (M0 229) v ∧ fz [0, 1, 8, 13, 14, 15, 16, 17, 18, 19, 20, 21, 23, 26, 29, 30, 34, 38, 39, 40, 55, 56, 57, 58] M0 M') r h' → Q r h') : ∀ (mz : Nat) (t : Nat) (y : od_S) (M : Nat → Nat → Int), 20 - t = mz → px_qk sh [228, 229, 230, 233, 234, 235, 236, 239, 240, 241, 242, 246, 247, 248, 249, 250, 262] M0 M → (fz [0, 1, 8, 13, 14, 15, 16, 17, 18, 19, 20, 21, 23, 26, 29, 30, 34, 38, 39, 40, 55, 56, 57, 58] M0 M) → (t ≤ x.2.1) → (odM M0 M Z y) → (odI (rr_ M0) (20 * c + t) y) → (od_L lw ol 0 (rr_ M0, tl, 0, -1) = odK lw (ol.drop (c + 1)) x c (x.2.1 - t) y) → (M 228 13 = 0) → (M 228 18 = (if Z.1.flt = 0 ∧ rK E Z.1 ≠ 0 then ((tkS E.tn E.tb Z.1.i : Nat) : Int) else Z.1.bad)) → (M 228 57 = -1) → px_R xs L d 292 (150, [.ref 228, .int (iI (((n0 : Nat) : Int))), .int (iI (((c : Nat) : Int))), .int (iI (((t : Nat) : Int)))], [], (sh, M)) Q := by
  intro mz
  induction mz using Nat.strongRecOn with
  | _ mz ih =>
    intro t y M hm hq hrq ht oM oI hE2 hF13 hF18 hF57
    have hol2 := hol hok
    have hxc := hol2.2 c x hx
    have hx20 := hxc.2.2.2.1
    refine rr_iload_n pf_292_150 rfl ?_
    refine rr_aload_n pf_292_151 rfl ?_
    refine rr_getR pf_292_152 po_292 pg_9_165 rfl (ws_228 hW) (by decide) (wr_228_54 hq.1) ?_
    refine rr_bipush pf_292_155 (by decide) ?_
    refine rr_iload_n pf_292_157 rfl ?_
    refine rr_imul pf_292_158 ?_
    refine rr_bipush pf_292_159 (by decide) ?_
    refine rr_iadd pf_292_161 ?_
    refine vr_iald (j := (8 * c + 7)) hq pf_292_162 (ws_262 hW) (by omega) (by omega) (by decide) (fun x1 hx1 rx1 => ?_)
    rw [oM.2.2.2.2.2.2.2.2.2.1, hxc.2.2.1] at hx1
    refine rr_icmp_ge 200 pf_292_163 (by decide) (by unfold rg; omega) rx1 (fun c2 => ?_) (fun c2 => ?_)
    · exact kx t y M hq (hrq) (oM) (by obtain ⟨z1, z2, z3, z4, z5⟩ := oI; exact ⟨z1, z2, z3, ⟨z4.1, by omega⟩, z5⟩) (by rw [hE2, show x.2.1 - t = 0 by omega]; rfl) (hF13) (hF18) (hF57)
    · refine rr_aload_n pf_292_166 rfl ?_
      refine rr_bipush pf_292_167 (by decide) ?_
      refine rr_iload_n pf_292_169 rfl ?_
      refine rr_imul pf_292_170 ?_
      obtain ⟨r5, M3, ⟨kq4, poM3, p20M3, p24M3, p9M3, pfM3⟩, hcM3⟩ := ct_R_run (xs := xs) (L := L) (d := d) (lw := lw) (tl := y.2.1) (c := c) (x := x) (dn := y.2.2.1) (lt := y.2.2.2) (by omega) hW hq.1 hq.2.1 (by rw [oM.1]; exact oI.1) (lwR_r9 hlw oM.2.2.2.2.2.1 (odM_4 oM oI)) oM.2.2.2.2.1 oM.2.1 hcl (by rw [oM.2.2.2.2.2.2.2.2.2.1, oM.2.2.2.2.2.2.2.2.2.2.1, oM.2.2.2.2.2.2.2.2.2.2.2.1]; exact hxc) oM.2.2.1 oM.2.2.2.1 (by have := oI.2.2.2.1; omega) oI.2.2.2.2 (by rw [oM.1]; exact oI.2.1)
      rw [show ((8 * c : Nat) : Int) = 8 * ((c : Nat) : Int) by omega] at hcM3
      rw [oM.1] at poM3
      have q4 := qk_trm hq kq4 (by decide)
      have rq6 := fz_tr hrq pfM3 (by decide)
      have hvb : r5 = 0 ∨ r5 = -3 := by
        rcases poM3 with ⟨_, h, _⟩ | ⟨_, _, h, _⟩
        · exact Or.inr h
        · exact Or.inl h
      refine rr_cV1 pf_292_171 po_292 pc_9_588 (ws_228 hW) po_295 (by decide) rfl hcM3 ?_
      refine rr_if_ge 194 pf_292_174 (by decide) (by unfold rg; omega) (fun c7 => ?_) (fun c7 => ?_)
      · obtain ⟨y2, hy1, -, hy3, hy4, hy5, hy6⟩ := poM3.resolve_left (fun z => by have := z.2.1; omega)
        have hoM2 := odM_1 oM kq4 hy3 hy4 hy5 hy6 p20M3 p24M3 p9M3 pfM3
        have hoI2 := odI_1 hxc.1 oI hy1
        have hE3 : od_L lw ol 0 (rr_ M0, tl, 0, -1) = odK lw (ol.drop (c + 1)) x c (x.2.1 - (t + 1)) y2 := by rw [hE2, show x.2.1 - t = (x.2.1 - (t + 1)) + 1 by omega, odK_s hy1]
        refine rr_iinc pf_292_194 rfl (fun y => [.ref 228, .int (iI (((n0 : Nat) : Int))), .int (iI (((c : Nat) : Int))), .int (iI (y))]) (fun _ => rfl) (fun y8 hy8 => ?_)
        refine rr_goto 150 pf_292_197 (by decide) ?_
        obtain ⟨nz9, hnz9, rfl⟩ : ∃ zz : Nat, zz = 1 + t ∧ y8 = ((zz : Nat) : Int) := ⟨1 + t, rfl, by omega⟩
        exact ih _ (by omega) nz9 y2 M3 rfl q4 (rq6) (by omega) (hoM2) (by rw [show nz9 = t + 1 by omega]; exact hoI2) (by rw [show nz9 = t + 1 by omega]; exact hE3) (by rw [pfM3 13 (by decide)]; exact hF13) (by rw [pfM3 18 (by decide)]; exact hF18) (by rw [pfM3 57 (by decide)]; exact hF57)
      · have hone : od_1 lw x y = none := by
          rcases poM3 with ⟨h, _, _⟩ | ⟨_, _, h, _⟩
          · exact h
          · omega
        have hE2 : od_L lw ol 0 (rr_ M0, tl, 0, -1) = odK lw (ol.drop (c + 1)) x c ((x.2.1 - (t + 1)) + 1) y := by rw [hE2, show x.2.1 - t = (x.2.1 - (t + 1)) + 1 by omega]
        have htl16 := htl.2.1
        have hrw : rr_ M3 = rr_ M := by
          rcases poM3 with ⟨_, _, h⟩ | ⟨_, _, h, _⟩
          · rw [oM.1]; exact h
          · omega
        refine rr_aload_n pf_292_177 rfl ?_
        refine rr_iload_n pf_292_178 rfl ?_
        obtain ⟨M10, ⟨kq11, p230_M10, p233_M10, p234_M10, p8_M10, pf_M10⟩, hcM10⟩ := ct_R_giveBack (xs := xs) (L := L) (d := d) (n := n0) (by omega) hW q4.1 q4.2.1 (by omega)
        have q11 := qk_trm q4 kq11 (by decide)
        have rq13 := fz_tr rq6 pf_M10 (by decide)
        refine rr_cV1 pf_292_179 po_292 pc_9_591 (ws_228 hW) po_298 (by decide) rfl hcM10 ?_
        
        have hbk := odM_bk2 oM oI htl kq4 p24M3 p9M3 (hrw.trans oM.1) p230_M10 p233_M10 p234_M10 (by rw [p8_M10, hn0])
        
        refine rr_aload_n pf_292_182 rfl ?_
        refine rr_iload_n pf_292_183 rfl ?_
        refine vr_putI hW q11 pf_292_184 po_292 pg_9_168 (Or.inl rfl) rfl (ws_228 hW) (by decide) (by unfold rg; omega) (by decide) (fun M14 eM14 q15 => ?_)
        have rq16 := fz_up rq13 eM14 (by decide)
        have e229b : M14 229 = M0 229 := by rw [eM14, ask_ne (by decide), kq11.2.2 229 (by decide), kq4.2.2 229 (by decide)]; exact oM.2.2.2.2.2.2.2.2.2.2.2.2.2
        refine rr_aload_n pf_292_187 rfl ?_
        refine rr_bipush pf_292_188 (by decide) ?_
        obtain ⟨M17, ⟨kq18, taM17, tbM17⟩, hcM17⟩ := ct_R_tell (xs := xs) (L := L) (d := d) (v := (-3)) (by omega) hW q15.1 q15.2.1 (by unfold rg; omega) (by omega) (by rw [e229b]; exact hrf)
        have q18 := qk_trm q15 kq18 (by decide)
        have rq19 := fz_tell rq16 taM17 (by decide)
        have stM17 : M17 228 1 = if ((-3) : Int) < 0 then (-3) else 0 := by rw [taM17, up_s]
        have rfM17 : M17 229 = bmp (M0 229) (-3) := by rw [tbM17, e229b]; rfl
        refine rr_cV1 pf_292_190 po_292 pc_9_186 (ws_228 hW) po_176 (by decide) rfl hcM17 ?_
        refine rr_iret pf_292_193 pt_292 (hQ _ _ ⟨_, M17, rfl, rfl, q18, (by
                      refine ⟨fun h => absurd hok h, fun _ => ?_⟩
                      rw [hE2, odK_n hone]
                      exact ⟨rfl, by rw [rr_eq (show M17 230 = M10 230 by rw [kq18.2.2 230 (by decide), eM14, ask_ne (by decide)])]; exact hbk.1, tlR_eq hbk.2.1 (by rw [taM17, up_ne (by decide), eM14, up_ne (by decide)]) (by rw [kq18.2.2 233 (by decide), eM14, ask_ne (by decide)]) (by rw [kq18.2.2 234 (by decide), eM14, ask_ne (by decide)]), by rw [taM17, up_ne (by decide), eM14, up_s]⟩), (by rw [taM17, up_ne (by decide), eM14, up_ne (by decide), pf_M10 18 (by decide), pfM3 18 (by decide)]; exact hF18), (by rw [taM17, up_ne (by decide), eM14, up_ne (by decide), pf_M10 13 (by decide), pfM3 13 (by decide)]; exact hF13), (by rw [taM17, up_ne (by decide), eM14, up_ne (by decide), pf_M10 20 (by decide)]; exact p20M3), (r9_tr hbk.2.2 (r9_eq (by rw [kq18.2.2 230 (by decide), eM14, ask_ne (by decide)]))), (stM17), (rfM17), (rq19)⟩)
theorem lp_R_orders_140 {xs : Nat → Int} {L d : Nat} {sh : List (Nat × Nat)} (hd : 15 ≤ d) (hW : px_W0 <+: sh) {M0 : Nat → Nat → Int}  {E : rdE} (h13 : M0 228 13 = ((E.tn : Nat) : Int)) (htn : E.tn ≤ 400) (h237 : M0 237 = E.tb) (htb : ∀ j, 0 ≤ E.tb j ∧ E.tb j ≤ 255) (hod : E.od = 0 ∨ E.od = 1) (h243 : ∀ k, k < 12 → M0 243 k = E.f k ∧ 0 ≤ E.f k ∧ E.f k ≤ 1125899906842624) (h244 : ∀ k, k < 9 → M0 244 k = E.g k ∧ 0 ≤ E.g k ∧ E.g k ≤ 1125899906842624) (hod0 : E.od = 1) (hrf : ∀ j, j < 7 → 0 ≤ M0 229 j ∧ M0 229 j ≤ 1000000000) (hρ : sp_ok (rr_ M0)) {lw : List sp_C} (hlw : px_lwR M0 lw) {tl : sp_T} (htl : tlR M0 tl) (h999 : rr_ M0 5 ≤ 999) {lo : Nat → Int} (hlo : ∀ k, k < 5 → M0 261 k = lo k ∧ 0 ≤ lo k ∧ lo k ≤ 1125899906842624) {Z : lwQ} (hZ : Z = lwR E (odT E lo) 401 (odT E lo (rB0 (M0 239) (M0 240), 0, M0 262))) {ol : List od_C} (hol : Z.1.flt = 0 ∧ rK E Z.1 = 0 → Z.2.1 = ol.length ∧ ∀ c x, ol[c]? = some x → ro_cl Z.2.2 Z.1.o Z.1.a c x) {n0 : Nat} (hn0 : n0 = tl.length) (hok : Z.1.flt = 0 ∧ rK E Z.1 = 0) (hl12 : ol.length ≤ 12) {Q : Option Value → px_H → Prop} (kx : ∀ (c : Nat) (y : od_S) (v3 : Value) (M : Nat → Nat → Int), px_qk sh [228, 229, 230, 233, 234, 235, 236, 239, 240, 241, 242, 246, 247, 248, 249, 250, 262] M0 M → (fz [0, 1, 8, 13, 14, 15, 16, 17, 18, 19, 20, 21, 23, 26, 29, 30, 34, 38, 39, 40, 55, 56, 57, 58] M0 M) → (odM M0 M Z y) → (ol.length ≤ c) → (od_L lw ol 0 (rr_ M0, tl, 0, -1) = od_L lw (ol.drop c) c y) → (odI (rr_ M0) (20 * c) y) → (c ≤ 12) → (M 228 13 = 0) → (M 228 18 = (if Z.1.flt = 0 ∧ rK E Z.1 ≠ 0 then ((tkS E.tn E.tb Z.1.i : Nat) : Int) else Z.1.bad)) → (M 228 57 = -1) → px_R xs L d 292 (206, [.ref 228, .int (iI (((n0 : Nat) : Int))), .int (iI (((c : Nat) : Int))), v3], [], (sh, M)) Q) (hQ : ∀ r h', (fun r h' => ∃ v M', r = some (.int (iI v)) ∧ h' = (sh, M') ∧ px_qk sh [228, 229, 230, 233, 234, 235, 236, 239, 240, 241, 242, 246, 247, 248, 249, 250, 262] M0 M' ∧ ((¬ (Z.1.flt = 0 ∧ rK E Z.1 = 0) → v = -6 ∧ rr_ M' = rr_ M0 ∧ tlR M' tl ∧ M' 228 57 = -1) ∧ (Z.1.flt = 0 ∧ rK E Z.1 = 0 → odP M0 M' lw tl v (od_L lw ol 0 (rr_ M0, tl, 0, -1)))) ∧ (M' 228 18 = (if Z.1.flt = 0 ∧ rK E Z.1 ≠ 0 then ((tkS E.tn E.tb Z.1.i : Nat) : Int) else Z.1.bad)) ∧ M' 228 13 = 0 ∧ M' 228 20 = 0 ∧ r9 M0 M' ∧ (M' 228 1 = if v < 0 then v else 0) ∧ M' 229 = bmp (M0 229) v ∧ fz [0, 1, 8, 13, 14, 15, 16, 17, 18, 19, 20, 21, 23, 26, 29, 30, 34, 38, 39, 40, 55, 56, 57, 58] M0 M') r h' → Q r h') : ∀ (mz : Nat) (c : Nat) (y : od_S) (v3 : Value) (M : Nat → Nat → Int), ol.length - c = mz → px_qk sh [228, 229, 230, 233, 234, 235, 236, 239, 240, 241, 242, 246, 247, 248, 249, 250, 262] M0 M → (fz [0, 1, 8, 13, 14, 15, 16, 17, 18, 19, 20, 21, 23, 26, 29, 30, 34, 38, 39, 40, 55, 56, 57, 58] M0 M) → (c ≤ ol.length) → (odM M0 M Z y) → (odI (rr_ M0) (20 * c) y) → (od_L lw ol 0 (rr_ M0, tl, 0, -1) = od_L lw (ol.drop c) c y) → (M 228 13 = 0) → (M 228 18 = (if Z.1.flt = 0 ∧ rK E Z.1 ≠ 0 then ((tkS E.tn E.tb Z.1.i : Nat) : Int) else Z.1.bad)) → (M 228 57 = -1) → px_R xs L d 292 (140, [.ref 228, .int (iI (((n0 : Nat) : Int))), .int (iI (((c : Nat) : Int))), v3], [], (sh, M)) Q := by
  intro mz
  induction mz using Nat.strongRecOn with
  | _ mz ih =>
    intro c y v3 M hm hq hrq hc oM oI hE hF13 hF18 hF57
    have hol2 := hol hok
    have hzl := hol2.1
    refine rr_iload_n pf_292_140 rfl ?_
    refine rr_aload_n pf_292_141 rfl ?_
    refine vr_getI hq pf_292_142 po_292 pg_9_407 rfl (ws_228 hW) (by decide) (fun x1 hx1 rx1 => ?_)
    rw [oM.2.2.2.2.2.2.2.2.2.2.2.2.1, hzl] at hx1
    refine rr_icmp_ge 206 pf_292_145 (by decide) (by unfold rg; omega) rx1 (fun c2 => ?_) (fun c2 => ?_)
    · exact kx c y _ M hq (hrq) (oM) (by omega) (hE) (oI) (by omega) (hF13) (hF18) (hF57)
    · refine rr_iconst pf_292_148 ?_
      refine rr_istore_n pf_292_149 (fun y => [.ref 228, .int (iI (((n0 : Nat) : Int))), .int (iI (((c : Nat) : Int))), .int (iI (y))]) (Nat.le_of_ble_eq_true rfl) (fun _ => rfl) (fun y3 hy3 => ?_)
      obtain ⟨nz4, hnz4, rfl⟩ : ∃ zz : Nat, zz = 0 ∧ y3 = ((zz : Nat) : Int) := ⟨0, rfl, by omega⟩
      obtain ⟨x, hx0⟩ : ∃ x, ol[c]? = some x := ⟨_, List.getElem?_eq_getElem (by omega)⟩
      have hc12 : c < 12 := by omega
      refine lp_R_orders_150 (xs := xs) (L := L) (d := d) (by omega) hW h13 htn h237 htb hod h243 h244 hod0 hrf hρ hlw htl h999 hlo hZ hol hn0 hok hx0 hc12 (fun t_5 y_6  M7 q8 xrq_M7 xM_M7 xI_M7 xE_M7 xF13_M7 xF18_M7 xF57_M7 => ?_) hQ _ nz4 y M rfl hq (hrq) (by omega) (oM) (by rw [show nz4 = 0 by omega]; exact oI) (by rw [show nz4 = 0 by omega, hE, od_L_x hx0]; rfl) (hF13) (hF18) (hF57)
      
      refine rr_iinc pf_292_200 rfl (fun y => [.ref 228, .int (iI (((n0 : Nat) : Int))), .int (iI (y)), .int (iI (((t_5 : Nat) : Int)))]) (fun _ => rfl) (fun y9 hy9 => ?_)
      refine rr_goto 140 pf_292_203 (by decide) ?_
      obtain ⟨nz10, hnz10, rfl⟩ : ∃ zz : Nat, zz = 1 + c ∧ y9 = ((zz : Nat) : Int) := ⟨1 + c, rfl, by omega⟩
      exact ih _ (by omega) nz10 y_6 _ M7 rfl q8 (xrq_M7) (by omega) (xM_M7) (by have z := xI_M7; obtain ⟨z1, z2, z3, z4, z5⟩ := z; exact ⟨z1, z2, z3, ⟨z4.1, by omega⟩, z5⟩) (by rw [show nz10 = c + 1 by omega]; exact xE_M7) (xF13_M7) (xF18_M7) (xF57_M7)
theorem ct_R_orders {xs : Nat → Int} {L d : Nat} {sh : List (Nat × Nat)} {M0 : Nat → Nat → Int} (hd : 16 ≤ d) (hW : px_W0 <+: sh) (hF : px_Fx M0) (hG : px_RG sh M0)  {E : rdE} (h13 : M0 228 13 = ((E.tn : Nat) : Int)) (htn : E.tn ≤ 400) (h237 : M0 237 = E.tb) (htb : ∀ j, 0 ≤ E.tb j ∧ E.tb j ≤ 255) (hod : E.od = 0 ∨ E.od = 1) (h243 : ∀ k, k < 12 → M0 243 k = E.f k ∧ 0 ≤ E.f k ∧ E.f k ≤ 1125899906842624) (h244 : ∀ k, k < 9 → M0 244 k = E.g k ∧ 0 ≤ E.g k ∧ E.g k ≤ 1125899906842624) (hod0 : E.od = 1) (hrf : ∀ j, j < 7 → 0 ≤ M0 229 j ∧ M0 229 j ≤ 1000000000) (hρ : sp_ok (rr_ M0)) {lw : List sp_C} (hlw : px_lwR M0 lw) {tl : sp_T} (htl : tlR M0 tl) (h999 : rr_ M0 5 ≤ 999) {lo : Nat → Int} (hlo : ∀ k, k < 5 → M0 261 k = lo k ∧ 0 ≤ lo k ∧ lo k ≤ 1125899906842624) {Z : lwQ} (hZ : Z = lwR E (odT E lo) 401 (odT E lo (rB0 (M0 239) (M0 240), 0, M0 262))) {ol : List od_C} (hol : Z.1.flt = 0 ∧ rK E Z.1 = 0 → Z.2.1 = ol.length ∧ ∀ c x, ol[c]? = some x → ro_cl Z.2.2 Z.1.o Z.1.a c x) : ∃ v M, (px_qk sh [228, 229, 230, 233, 234, 235, 236, 239, 240, 241, 242, 246, 247, 248, 249, 250, 262] M0 M ∧ ((¬ (Z.1.flt = 0 ∧ rK E Z.1 = 0) → v = -6 ∧ rr_ M = rr_ M0 ∧ tlR M tl ∧ M 228 57 = -1) ∧ (Z.1.flt = 0 ∧ rK E Z.1 = 0 → odP M0 M lw tl v (od_L lw ol 0 (rr_ M0, tl, 0, -1)))) ∧ (M 228 18 = (if Z.1.flt = 0 ∧ rK E Z.1 ≠ 0 then ((tkS E.tn E.tb Z.1.i : Nat) : Int) else Z.1.bad)) ∧ (M 228 13 = 0) ∧ (M 228 20 = 0) ∧ (r9 M0 M) ∧ (M 228 1 = if v < 0 then v else 0) ∧ (M 229 = bmp (M0 229) v) ∧ (fz [0, 1, 8, 13, 14, 15, 16, 17, 18, 19, 20, 21, 23, 26, 29, 30, 34, 38, 39, 40, 55, 56, 57, 58] M0 M)) ∧ px_Cl xs L d 292 [.ref 228] (sh, M0) (some (.int (iI v))) (sh, M) := by
  obtain ⟨d, rfl⟩ : ∃ e, d = e + 1 := ⟨d - 1, by omega⟩
  have q0 : px_qk sh [228, 229, 230, 233, 234, 235, 236, 239, 240, 241, 242, 246, 247, 248, 249, 250, 262] M0 M0 := ⟨hF, hG, eo_rf⟩
  have htl16 := htl.2.1
  refine vc_i (Nat.le_of_ble_eq_true rfl) ?_
  show px_R xs L d 292 (0, [.ref 228, px_jk, px_jk, px_jk], [], (sh, M0)) (fun r h' => ∃ v M', r = some (.int (iI v)) ∧ h' = (sh, M') ∧ px_qk sh [228, 229, 230, 233, 234, 235, 236, 239, 240, 241, 242, 246, 247, 248, 249, 250, 262] M0 M' ∧ ((¬ (Z.1.flt = 0 ∧ rK E Z.1 = 0) → v = -6 ∧ rr_ M' = rr_ M0 ∧ tlR M' tl ∧ M' 228 57 = -1) ∧ (Z.1.flt = 0 ∧ rK E Z.1 = 0 → odP M0 M' lw tl v (od_L lw ol 0 (rr_ M0, tl, 0, -1)))) ∧ (M' 228 18 = (if Z.1.flt = 0 ∧ rK E Z.1 ≠ 0 then ((tkS E.tn E.tb Z.1.i : Nat) : Int) else Z.1.bad)) ∧ M' 228 13 = 0 ∧ M' 228 20 = 0 ∧ r9 M0 M' ∧ (M' 228 1 = if v < 0 then v else 0) ∧ M' 229 = bmp (M0 229) v ∧ fz [0, 1, 8, 13, 14, 15, 16, 17, 18, 19, 20, 21, 23, 26, 29, 30, 34, 38, 39, 40, 55, 56, 57, 58] M0 M')
  refine rr_aload_n pf_292_0 rfl ?_
  refine rr_iconst pf_292_1 ?_
  refine vr_putI hW q0 pf_292_2 po_292 pg_9_177 (Or.inl rfl) rfl (ws_228 hW) (by decide) (by unfold rg; omega) (by decide) (fun M1 eM1 q2 => ?_)
  have rq3 := fz_up (fz_rf [0, 1, 8, 13, 14, 15, 16, 17, 18, 19, 20, 21, 23, 26, 29, 30, 34, 38, 39, 40, 55, 56, 57, 58] M0) eM1 (by decide)
  have f4 : M1 228 8 = M0 228 8 := (show M1 228 8 = M0 228 8 by rw [eM1, up_ne (by decide)]).trans (rfl : M0 228 8 = M0 228 8)
  have e5 : M1 229 = M0 229 := (show M1 229 = M0 229 by rw [eM1, ask_ne (by decide)]).trans (rfl : M0 229 = M0 229)
  have e6 : M1 230 = M0 230 := (show M1 230 = M0 230 by rw [eM1, ask_ne (by decide)]).trans (rfl : M0 230 = M0 230)
  have e7 : M1 233 = M0 233 := (show M1 233 = M0 233 by rw [eM1, ask_ne (by decide)]).trans (rfl : M0 233 = M0 233)
  have e8 : M1 234 = M0 234 := (show M1 234 = M0 234 by rw [eM1, ask_ne (by decide)]).trans (rfl : M0 234 = M0 234)
  refine rr_aload_n pf_292_5 rfl ?_
  refine rr_iconst pf_292_6 ?_
  refine vr_putI hW q2 pf_292_7 po_292 pg_9_168 (Or.inl rfl) rfl (ws_228 hW) (by decide) (by unfold rg; omega) (by decide) (fun M9 eM9 q10 => ?_)
  have rq11 := fz_up rq3 eM9 (by decide)
  have f12 : M9 228 8 = M0 228 8 := (show M9 228 8 = M1 228 8 by rw [eM9, up_ne (by decide)]).trans f4
  have e13 : M9 229 = M0 229 := (show M9 229 = M1 229 by rw [eM9, ask_ne (by decide)]).trans e5
  have e14 : M9 230 = M0 230 := (show M9 230 = M1 230 by rw [eM9, ask_ne (by decide)]).trans e6
  have e15 : M9 233 = M0 233 := (show M9 233 = M1 233 by rw [eM9, ask_ne (by decide)]).trans e7
  have e16 : M9 234 = M0 234 := (show M9 234 = M1 234 by rw [eM9, ask_ne (by decide)]).trans e8
  have f57a : M9 228 57 = -1 := by rw [eM9, up_s]
  refine rr_aload_n pf_292_10 rfl ?_
  refine rr_iconst pf_292_11 ?_
  obtain ⟨M17, ⟨kq18, pS_M17, p21_M17, pf_M17⟩, hcM17⟩ := ct_R_beginText (xs := xs) (L := L) (d := d) (u := 1) (E := E) (by omega) hW q10.1 q10.2.1 (by rw [eM9, up_ne (by decide), eM1, up_ne (by decide)]; exact h13) htn (by rw [q10.2.2 237 (by decide)]; exact h237) htb (by omega) (by rw [q10.2.2 243 (by decide)]; exact h243) (by rw [q10.2.2 244 (by decide)]; exact h244) (by omega)
  have q18 := qk_trm q10 kq18 (by decide)
  have rq20 := fz_tr rq11 pf_M17 (by decide)
  have f21 : M17 228 8 = M0 228 8 := (pf_M17 8 (by decide)).trans f12
  have e22 : M17 229 = M0 229 := (kq18.2.2 229 (by decide)).trans e13
  have e23 : M17 230 = M0 230 := (kq18.2.2 230 (by decide)).trans e14
  have e24 : M17 233 = M0 233 := (kq18.2.2 233 (by decide)).trans e15
  have e25 : M17 234 = M0 234 := (kq18.2.2 234 (by decide)).trans e16
  refine rr_cV1 pf_292_12 po_292 pc_9_415 (ws_228 hW) po_220 (by decide) rfl hcM17 ?_
  rw [eM9, ask_ne (by decide), ask_ne (by decide), eM1, ask_ne (by decide), ask_ne (by decide)] at pS_M17
  have hk262 : M17 262 = M0 262 := by rw [kq18.2.2 262 (by decide), eM9, ask_ne (by decide), eM1, ask_ne (by decide)]
  
  have f57M17 : M17 228 57 = -1 := (pf_M17 57 (by decide)).trans f57a
  
  refine rr_aload_n pf_292_15 rfl ?_
  obtain ⟨M26, ⟨kq27, pS_M26, p21_M26, pC_M26, pf_M26⟩, hcM26⟩ := ct_R_readOrder (xs := xs) (L := L) (d := d) (E := E) (s := (rB0 (M0 239) (M0 240))) (nl := 0) (lw := lo) (by omega) hW q18.1 q18.2.1 pS_M17 rfl p21_M17 (by decide) (by rw [q18.2.2 261 (by decide)]; exact hlo)
  have q27 := qk_trm q18 kq27 (by decide)
  have rq29 := fz_tr rq20 pf_M26 (by decide)
  have f30 : M26 228 8 = M0 228 8 := (pf_M26 8 (by decide)).trans f21
  have e31 : M26 229 = M0 229 := (kq27.2.2 229 (by decide)).trans e22
  have e32 : M26 230 = M0 230 := (kq27.2.2 230 (by decide)).trans e23
  have e33 : M26 233 = M0 233 := (kq27.2.2 233 (by decide)).trans e24
  have e34 : M26 234 = M0 234 := (kq27.2.2 234 (by decide)).trans e25
  refine rr_cV0 pf_292_16 po_292 pc_9_585 (ws_228 hW) po_293 (by decide) rfl hcM26 ?_
  have hs0 : RT M26 E (odT E lo (rB0 (M0 239) (M0 240), 0, M0 262)).1.i (odT E lo (rB0 (M0 239) (M0 240), 0, M0 262)).1 := pS_M26
  have h210 : M26 228 21 = (((odT E lo (rB0 (M0 239) (M0 240), 0, M0 262)).2.1 : Nat) : Int) := p21_M26
  have hC0 : M26 262 = (odT E lo (rB0 (M0 239) (M0 240), 0, M0 262)).2.2 := by rw [pC_M26, hk262]; rfl
  have hnl0 : (odT E lo (rB0 (M0 239) (M0 240), 0, M0 262)).2.1 ≤ 12 := odT_n (Nat.zero_le _)
  have hf0 : (odT E lo (rB0 (M0 239) (M0 240), 0, M0 262)).1.flt = 0 ∨ (odT E lo (rB0 (M0 239) (M0 240), 0, M0 262)).1.flt = 1 := by
    rcases (p2_odT (E := E) (lw := lo) (z := (rB0 (M0 239) (M0 240), 0, M0 262)) (Nat.zero_le _)).2.2 with h | h
    · exact Or.inl h
    · exact Or.inr h
  obtain ⟨Z0, hZ0⟩ : ∃ y, y = odT E lo (rB0 (M0 239) (M0 240), 0, M0 262) := ⟨_, rfl⟩
  rw [← hZ0] at hs0 h210 hC0 hnl0 hf0
  
  have f57M26 : M26 228 57 = -1 := (pf_M26 57 (by decide)).trans f57M17
  
  have hlwB : ∀ k, k < 5 → M26 261 k = lo k ∧ 0 ≤ lo k ∧ lo k ≤ 1125899906842624 := by rw [q27.2.2 261 (by decide)]; exact hlo
  refine lp_R_orders_19 (xs := xs) (L := L) (d := d) (by omega) hW hlwB (fun z_35 n_36 v39 v40 v41 M37 q38 xrq_M37 xS_M37 x21_M37 xC_M37 xn_M37 xf_M37 x857_M37 => ?_) _ Z0 401 _ _ _ M26 rfl ⟨q27.1, q27.2.1, eo_rf⟩ ((fz_rf [0, 1, 8, 13, 14, 15, 16, 17, 18, 19, 20, 21, 23, 26, 29, 30, 34, 38, 39, 40, 55, 56, 57, 58] _)) (hs0) (h210) (hC0) (hnl0) (hf0) (by intro _; have := hs0.htn; omega) (by rfl) (⟨rfl, rfl⟩)
  have q42 := qk_trm q27 q38 (by decide)
  have rq43 := fz_tr rq29 xrq_M37 (by decide)
  have e44 : M37 229 = M0 229 := (q38.2.2 229 (by decide)).trans e31
  have e45 : M37 230 = M0 230 := (q38.2.2 230 (by decide)).trans e32
  have e46 : M37 233 = M0 233 := (q38.2.2 233 (by decide)).trans e33
  have e47 : M37 234 = M0 234 := (q38.2.2 234 (by decide)).trans e34
  rw [show lwR E (odT E lo) 401 Z0 = Z by rw [hZ, hZ0]] at xS_M37 x21_M37 xC_M37 xn_M37 xf_M37
  have f8b := x857_M37.1.trans f30
  have f57b := x857_M37.2.trans f57M26
  
  refine rr_aload_n pf_292_46 rfl ?_
  obtain ⟨M48, ⟨kq49, p19_M48, p18_M48, p13_M48, p20_M48, pf_M48⟩, hcM48⟩ := ct_R_endText (xs := xs) (L := L) (d := d) (E := E) (s := Z.1) (by omega) hW q42.1 q42.2.1 xS_M37 xf_M37
  have q49 := qk_trm q42 kq49 (by decide)
  have rq51 := fz_tr rq43 pf_M48 (by decide)
  have f52 : M48 228 8 = M0 228 8 := (pf_M48 8 (by decide)).trans f8b
  have e53 : M48 229 = M0 229 := (kq49.2.2 229 (by decide)).trans e44
  have e54 : M48 230 = M0 230 := (kq49.2.2 230 (by decide)).trans e45
  have e55 : M48 233 = M0 233 := (kq49.2.2 233 (by decide)).trans e46
  have e56 : M48 234 = M0 234 := (kq49.2.2 234 (by decide)).trans e47
  refine rr_cV0 pf_292_47 po_292 pc_9_421 (ws_228 hW) po_245 (by decide) rfl hcM48 ?_
  have hk21 : M48 228 21 = ((Z.2.1 : Nat) : Int) := (pf_M48 21 (by decide)).trans x21_M37
  have hkC : M48 262 = Z.2.2 := (kq49.2.2 262 (by decide)).trans xC_M37
  have hko : M48 239 = Z.1.o := (kq49.2.2 239 (by decide)).trans xS_M37.h239
  have hka : M48 240 = Z.1.a := (kq49.2.2 240 (by decide)).trans xS_M37.h240
  have hnl2 := xn_M37
  have hzf := xf_M37
  
  have f57M48 : M48 228 57 = -1 := (pf_M48 57 (by decide)).trans f57b
  
  refine rr_aload_n pf_292_50 rfl ?_
  refine vr_getZ q49 pf_292_51 po_292 pg_9_276 rfl (ws_228 hW) (by decide) (fun x57 hx57 rx57 => ?_)
  rw [p19_M48] at hx57
  have hb19 : (Z.1.flt = 0 ∧ rK E Z.1 = 0) ∨ ¬ (Z.1.flt = 0 ∧ rK E Z.1 = 0) := Decidable.em _
  refine rr_if_eq 64 pf_292_54 (by decide) rx57 (fun c58 => ?_) (fun c58 => ?_)
  · refine rr_aload_n pf_292_64 rfl ?_
    refine rr_bipush pf_292_65 (by decide) ?_
    obtain ⟨M59, ⟨kq60, ka_M59⟩, hcM59⟩ := ct_R_keepAll (xs := xs) (L := L) (d := d) (k := 17) (by omega) hW q49.1 q49.2.1 (by omega)
    rw [show ((17 : Nat) : Int) = 17 by omega] at hcM59
    have q60 := qk_trm q49 kq60 (by decide)
    have rq61 := fz_q rq51 kq60 (by decide)
    have f62 : M59 228 8 = M0 228 8 := by rw [kq60.2.2 228 (by decide)]; exact f52
    have e63 : M59 229 = M0 229 := (kq60.2.2 229 (by decide)).trans e53
    have e64 : M59 230 = M0 230 := (kq60.2.2 230 (by decide)).trans e54
    have e65 : M59 234 = M0 234 := (kq60.2.2 234 (by decide)).trans e56
    refine rr_cV1 pf_292_67 po_292 pc_9_190 (ws_228 hW) po_251 (by decide) rfl hcM59 ?_
    
    refine rr_aload_n pf_292_70 rfl ?_
    refine vr_getI q60 pf_292_71 po_292 pg_9_183 rfl (ws_228 hW) (by decide) (fun x66 hx66 rx66 => ?_)
    rw [kq60.2.2 228 (by decide), f52, htl.1] at hx66
    refine rr_istore_n pf_292_74 (fun y => [.ref 228, .int (iI (y)), v40, v41]) (Nat.le_of_ble_eq_true rfl) (fun _ => rfl) (fun y67 hy67 => ?_)
    have ry67 : rg y67 := hy67 ▸ rx66
    obtain rfl : y67 = ((tl.length : Nat) : Int) := by omega
    refine rr_iconst pf_292_75 ?_
    refine rr_istore_n pf_292_76 (fun y => [.ref 228, .int (iI (((tl.length : Nat) : Int))), .int (iI (y)), v41]) (Nat.le_of_ble_eq_true rfl) (fun _ => rfl) (fun y68 hy68 => ?_)
    obtain ⟨nz69, hnz69, rfl⟩ : ∃ zz : Nat, zz = 0 ∧ y68 = ((zz : Nat) : Int) := ⟨0, rfl, by omega⟩
    refine lp_R_orders_77 (xs := xs) (L := L) (d := d) (by omega) hW (fun i_70 v73 M71 q72 x1_M71 => ?_) _ nz69 _ M59 rfl ⟨q60.1, q60.2.1, eo_rf⟩ (by omega) (by intro j; rw [if_neg (by omega)])
    have q74 := qk_trm q60 q72 (by decide)
    have rq75 := fz_q rq61 q72 (by decide)
    have f76 : M71 228 8 = M0 228 8 := by rw [q72.2.2 228 (by decide)]; exact f62
    have e77 : M71 229 = M0 229 := (q72.2.2 229 (by decide)).trans e63
    have e78 : M71 230 = M0 230 := (q72.2.2 230 (by decide)).trans e64
    have e79 : M71 234 = M0 234 := (q72.2.2 234 (by decide)).trans e65
    
    refine rr_iconst pf_292_102 ?_
    refine rr_istore_n pf_292_103 (fun y => [.ref 228, .int (iI (((tl.length : Nat) : Int))), .int (iI (y)), v73]) (Nat.le_of_ble_eq_true rfl) (fun _ => rfl) (fun y80 hy80 => ?_)
    obtain ⟨nz81, hnz81, rfl⟩ : ∃ zz : Nat, zz = 0 ∧ y80 = ((zz : Nat) : Int) := ⟨0, rfl, by omega⟩
    refine lp_R_orders_104 (xs := xs) (L := L) (d := d) (by omega) hW (fun i_82 v85 M83 q84 x1_M83 => ?_) _ nz81 _ M71 rfl ⟨q74.1, q74.2.1, eo_rf⟩ (by omega) (by intro j; rw [if_neg (by omega)])
    have q86 := qk_trm q74 q84 (by decide)
    have rq87 := fz_q rq75 q84 (by decide)
    have f88 : M83 228 8 = M0 228 8 := by rw [q84.2.2 228 (by decide)]; exact f76
    have e89 : M83 229 = M0 229 := (q84.2.2 229 (by decide)).trans e77
    have e90 : M83 230 = M0 230 := (q84.2.2 230 (by decide)).trans e78
    have e91 : M83 234 = M0 234 := (q84.2.2 234 (by decide)).trans e79
    
    refine rr_aload_n pf_292_128 rfl ?_
    refine rr_iconst pf_292_129 ?_
    refine vr_putI hW q86 pf_292_130 po_292 pg_9_573 (Or.inl rfl) rfl (ws_228 hW) (by decide) (by unfold rg; omega) (by decide) (fun M92 eM92 q93 => ?_)
    have rq94 := fz_up rq87 eM92 (by decide)
    have f95 : M92 228 8 = M0 228 8 := (show M92 228 8 = M83 228 8 by rw [eM92, up_ne (by decide)]).trans f88
    have e96 : M92 229 = M0 229 := (show M92 229 = M83 229 by rw [eM92, ask_ne (by decide)]).trans e89
    have e97 : M92 230 = M0 230 := (show M92 230 = M83 230 by rw [eM92, ask_ne (by decide)]).trans e90
    have e98 : M92 234 = M0 234 := (show M92 234 = M83 234 by rw [eM92, ask_ne (by decide)]).trans e91
    refine rr_aload_n pf_292_133 rfl ?_
    refine rr_iconst pf_292_134 ?_
    refine vr_putI hW q93 pf_292_135 po_292 pg_9_576 (Or.inl rfl) rfl (ws_228 hW) (by decide) (by unfold rg; omega) (by decide) (fun M99 eM99 q100 => ?_)
    have rq101 := fz_up rq94 eM99 (by decide)
    have f102 : M99 228 8 = M0 228 8 := (show M99 228 8 = M92 228 8 by rw [eM99, up_ne (by decide)]).trans f95
    have e103 : M99 229 = M0 229 := (show M99 229 = M92 229 by rw [eM99, ask_ne (by decide)]).trans e96
    have e104 : M99 230 = M0 230 := (show M99 230 = M92 230 by rw [eM99, ask_ne (by decide)]).trans e97
    have e105 : M99 234 = M0 234 := (show M99 234 = M92 234 by rw [eM99, ask_ne (by decide)]).trans e98
    refine rr_iconst pf_292_138 ?_
    refine rr_istore_n pf_292_139 (fun y => [.ref 228, .int (iI (((tl.length : Nat) : Int))), .int (iI (y)), v85]) (Nat.le_of_ble_eq_true rfl) (fun _ => rfl) (fun y106 hy106 => ?_)
    have hok : Z.1.flt = 0 ∧ rK E Z.1 = 0 := by omega
    have hol2 := hol hok
    have hzl := hol2.1
    have oM0 : odM M0 M99 Z (rr_ M0, tl, 0, -1) := by
      have c230 : M99 230 = M0 230 := e104
      refine ⟨rr_eq c230, ?_, ?_, ?_, ?_, r9_eq c230, ?_, ?_, ?_, ?_, ?_, ?_, ?_, e103⟩
      · obtain ⟨z1, z2, z3⟩ := htl
        refine ⟨by rw [eM99, up_ne (by decide), eM92, up_ne (by decide), q84.2.2 228 (by decide), q72.2.2 228 (by decide), kq60.2.2 228 (by decide)]; rw [f52]; exact z1, z2, fun k hk => ?_⟩
        obtain ⟨e, g1, g2, g3⟩ := z3 k hk
        refine ⟨e, g1, ?_, fun i hi => ?_⟩
        · rw [eM99, ask_ne (by decide), eM92, ask_ne (by decide), q84.2.2 234 (by decide), q72.2.2 234 (by decide), kq60.2.2 234 (by decide)]; rw [e56]; exact g2
        · have hk : k < tl.length := hk
          rw [eM99, ask_ne (by decide), eM92, ask_ne (by decide), q84.2.2 233 (by decide), q72.2.2 233 (by decide), ka_M59, if_neg (by omega), e55]; exact g3 i hi
      · rw [eM99, up_ne (by decide), eM92, up_s]
      · rw [eM99, up_s]
      · rw [eM99, up_ne (by decide), eM92, up_ne (by decide), q84.2.2 228 (by decide), q72.2.2 228 (by decide), kq60.2.2 228 (by decide)]; exact p20_M48
      · intro j hj
        rw [eM99, ask_ne (by decide), eM92, ask_ne (by decide), q84.2.2 233 (by decide), q72.2.2 233 (by decide), ka_M59, if_pos (by omega), e54, show 5 + (1088 + j - 64 * 17) = 5 + j by omega]
      · intro j hj
        rw [eM99, ask_ne (by decide), eM92, ask_ne (by decide), q84.2.2 235 (by decide), x1_M71, if_pos hj, ka_M59, if_neg (by omega), e55]
      · intro j hj
        rw [eM99, ask_ne (by decide), eM92, ask_ne (by decide), x1_M83, if_pos hj, q72.2.2 234 (by decide), kq60.2.2 234 (by decide), e56]
      · rw [eM99, ask_ne (by decide), eM92, ask_ne (by decide), q84.2.2 262 (by decide), q72.2.2 262 (by decide), kq60.2.2 262 (by decide)]; exact hkC
      · rw [eM99, ask_ne (by decide), eM92, ask_ne (by decide), q84.2.2 239 (by decide), q72.2.2 239 (by decide), kq60.2.2 239 (by decide)]; exact hko
      · rw [eM99, ask_ne (by decide), eM92, ask_ne (by decide), q84.2.2 240 (by decide), q72.2.2 240 (by decide), kq60.2.2 240 (by decide)]; exact hka
      · rw [eM99, up_ne (by decide), eM92, up_ne (by decide), q84.2.2 228 (by decide), q72.2.2 228 (by decide), kq60.2.2 228 (by decide)]; exact hk21
    have oI0 : odI (rr_ M0) (20 * 0) (rr_ M0, tl, 0, -1) := ⟨hρ, h999, fun _ _ => rfl, ⟨by show (0 : Int) ≤ 0; omega, by show (0 : Int) ≤ ((20 * 0 : Nat) : Int); omega⟩, ⟨by show (-1 : Int) ≤ -1; omega, by show (-1 : Int) ≤ 1000; omega⟩⟩
    have hF13i : M99 228 13 = 0 := by rw [eM99, up_ne (by decide), eM92, up_ne (by decide), q84.2.2 228 (by decide), q72.2.2 228 (by decide), kq60.2.2 228 (by decide)]; exact p13_M48
    have hF18i : M99 228 18 = (if Z.1.flt = 0 ∧ rK E Z.1 ≠ 0 then ((tkS E.tn E.tb Z.1.i : Nat) : Int) else Z.1.bad) := by rw [eM99, up_ne (by decide), eM92, up_ne (by decide), q84.2.2 228 (by decide), q72.2.2 228 (by decide), kq60.2.2 228 (by decide)]; exact p18_M48
    have hF57i : M99 228 57 = -1 := by rw [eM99, up_ne (by decide), eM92, up_ne (by decide), q84.2.2 228 (by decide), q72.2.2 228 (by decide), kq60.2.2 228 (by decide)]; rw [f57M48]
    have hl12 : ol.length ≤ 12 := by omega
    have hn0 : tl.length = tl.length := rfl
    obtain ⟨nz107, hnz107, rfl⟩ : ∃ zz : Nat, zz = 0 ∧ y106 = ((zz : Nat) : Int) := ⟨0, rfl, by omega⟩
    refine lp_R_orders_140 (xs := xs) (L := L) (d := d) (by omega) hW h13 htn h237 htb hod h243 h244 hod0 hrf hρ hlw htl h999 hlo hZ hol hn0 hok hl12 (fun c_108 y_109 v112 M110 q111 xrq_M110 xM_M110 xc_M110 xE_M110 xI_M110 xl_M110 xF13_M110 xF18_M110 xF57_M110 => ?_) (fun _ _ h => h) _ nz107 (rr_ M0, tl, 0, -1) _ M99 rfl q100 (rq101) (by omega) (oM0) (by rw [show nz107 = 0 by omega]; exact oI0) (by rw [show nz107 = 0 by omega]; rfl) (hF13i) (hF18i) (hF57i)
    have hE := xE_M110
    have hcF := xc_M110
    have hI9 := xI_M110
    obtain ⟨_, _, _, hd9, _⟩ := hI9
    have hc9 := xl_M110
    have hd8 := xM_M110.2.2.1
    have e229c : M110 229 = M0 229 := xM_M110.2.2.2.2.2.2.2.2.2.2.2.2.2
    refine rr_aload_n pf_292_206 rfl ?_
    refine rr_aload_n pf_292_207 rfl ?_
    refine vr_getI q111 pf_292_208 po_292 pg_9_573 rfl (ws_228 hW) (by decide) (fun x113 hx113 rx113 => ?_)
    obtain ⟨M114, ⟨kq115, taM114, tbM114⟩, hcM114⟩ := ct_R_tell (xs := xs) (L := L) (d := d) (v := x113) (by omega) hW q111.1 q111.2.1 (by unfold rg; omega) (by omega) (by rw [e229c]; exact hrf)
    have q115 := qk_trm q111 kq115 (by decide)
    have rq116 := fz_tell xrq_M110 taM114 (by decide)
    have stM114 : M114 228 1 = if (x113 : Int) < 0 then x113 else 0 := by rw [taM114, up_s]
    have rfM114 : M114 229 = bmp (M0 229) x113 := by rw [tbM114, e229c]; rfl
    refine rr_cV1 pf_292_211 po_292 pc_9_186 (ws_228 hW) po_176 (by decide) rfl hcM114 ?_
    refine rr_iret pf_292_214 pt_292 ⟨_, M114, rfl, rfl, q115, (by
              refine ⟨fun h => absurd hok h, fun _ => ?_⟩
              rw [hE, show ol.drop c_108 = [] from List.drop_eq_nil_of_le (by omega), od_L]
              refine ⟨?_, ?_, ?_, ?_⟩
              · rw [← xM_M110.2.2.1]; exact hx113
              · rw [rr_eq (kq115.2.2 230 (by decide))]; exact xM_M110.1
              · exact tl_q xM_M110.2.1 kq115 (by rw [taM114, up_ne (by decide)]) (by decide) (by decide)
              · rw [taM114, up_ne (by decide)]; exact xF57_M110), (by rw [taM114, up_ne (by decide)]; exact xF18_M110), (by rw [taM114, up_ne (by decide)]; exact xF13_M110), (by rw [taM114, up_ne (by decide)]; exact xM_M110.2.2.2.2.1), (r9_tr xM_M110.2.2.2.2.2.1 (r9_eq (kq115.2.2 230 (by decide)))), (stM114), (rfM114), (rq116)⟩
  · refine rr_aload_n pf_292_57 rfl ?_
    refine rr_bipush pf_292_58 (by decide) ?_
    obtain ⟨M117, ⟨kq118, taM117, tbM117⟩, hcM117⟩ := ct_R_tell (xs := xs) (L := L) (d := d) (v := (-6)) (by omega) hW q49.1 q49.2.1 (by unfold rg; omega) (by omega) (by rw [e53]; exact hrf)
    have q118 := qk_trm q49 kq118 (by decide)
    have rq119 := fz_tell rq51 taM117 (by decide)
    have stM117 : M117 228 1 = if ((-6) : Int) < 0 then (-6) else 0 := by rw [taM117, up_s]
    have rfM117 : M117 229 = bmp (M0 229) (-6) := by rw [tbM117, e53]; rfl
    have e230M117 : M117 230 = M0 230 := (kq118.2.2 230 (by decide)).trans e54
    have e233M117 : M117 233 = M0 233 := (kq118.2.2 233 (by decide)).trans e55
    have e234M117 : M117 234 = M0 234 := (kq118.2.2 234 (by decide)).trans e56
    refine rr_cV1 pf_292_60 po_292 pc_9_186 (ws_228 hW) po_176 (by decide) rfl hcM117 ?_
    have hok : ¬ (Z.1.flt = 0 ∧ rK E Z.1 = 0) := by omega
    refine rr_iret pf_292_63 pt_292 ⟨_, M117, rfl, rfl, q118, (by
              refine ⟨fun _ => ⟨rfl, rr_eq e230M117, tlR_eq htl ?_ e233M117 e234M117, ?_⟩, fun h => absurd h hok⟩
              · rw [taM117, up_ne (by decide)]; exact f52
              · rw [taM117, up_ne (by decide)]; exact f57M48), (by rw [taM117, up_ne (by decide)]; exact p18_M48), (by rw [taM117, up_ne (by decide)]; exact p13_M48), (by rw [taM117, up_ne (by decide)]; exact p20_M48), (r9_eq e230M117), (stM117), (rfM117), (rq119)⟩
