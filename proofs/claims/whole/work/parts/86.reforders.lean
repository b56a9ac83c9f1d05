/-! the reference: all orders -/
theorem od_R_fix {lw : List sp_C} {ρ : Nat → Int} (h : sp_ok ρ) (k a b : Int) {j : Nat} (hj : j < 5 ∨ 69 ≤ j) (hv : 0 ≤ od_V lw ρ k a b) : od_R lw ρ k a b j = ρ j := by
  unfold od_R
  unfold od_V at hv
  split
  · rename_i hk
    rw [if_pos hk] at hv
    unfold sp_preW; rw [if_pos hv]
    unfold sp_preR; rw [if_neg (by omega)]
  · rename_i hk
    rw [if_neg hk] at hv
    split
    · rename_i hk
      rw [if_pos hk] at hv
      unfold sp_scrR; rw [if_pos hv]
      unfold sp_scrV at hv
      split at hv
      · unfold rup; rw [if_neg (by omega)]
      · omega
    · rename_i hk
      rw [if_neg hk] at hv
      split
      · unfold sp_walR
        split
        · unfold rup; rw [if_neg (by omega)]
        · rfl
      · rename_i hk
        rw [if_neg hk] at hv
        split
        · rename_i hk
          rw [if_pos hk] at hv
          unfold sp_sitR; rw [if_pos hv]
          unfold sp_sitV at hv
          split at hv
          · split at hv
            · have := h.2.1
              unfold rup; rw [if_neg (by omega)]
            · omega
          · omega
        · unfold sp_pasW
          split
          · have := h.2.1
            unfold sp_pasR rup
            rw [if_neg (by omega)]
            unfold sp_pasS
            rw [if_neg (by omega)]
          · rfl
theorem od_R_ok {lw : List sp_C} {ρ : Nat → Int} (h : sp_ok ρ) (k a b : Int) (hv : 0 ≤ od_V lw ρ k a b) : sp_ok (od_R lw ρ k a b) := by
  unfold od_R
  unfold od_V at hv
  split
  · exact ok_preW h a
  · rename_i hk
    rw [if_neg hk] at hv
    split
    · rename_i hk
      rw [if_pos hk] at hv
      unfold sp_scrR; rw [if_pos hv]
      unfold sp_scrV at hv
      split at hv
      · rename_i hc
        have hb := h.2.2.2.2.2.2.2.2.2.1 (a * 3 + b).toNat (by omega)
        split at hv
        · omega
        · exact ok_hue h (by omega) (by omega)
      · omega
    · rename_i hk
      rw [if_neg hk] at hv
      split
      · unfold sp_walR
        split
        · exact ok_pul h (by omega)
        · exact h
      · rename_i hk
        rw [if_neg hk] at hv
        split
        · rename_i hk
          rw [if_pos hk] at hv
          unfold sp_sitR; rw [if_pos hv]
          unfold sp_sitV at hv
          split at hv
          · split at hv
            · have := h.2.1
              exact ok_seat h (by omega) (by omega)
            · omega
          · omega
        · exact ok_pasW h
theorem od_R_5 {lw : List sp_C} {ρ : Nat → Int} (h : sp_ok ρ) (k a b : Int) (hv : 0 ≤ od_V lw ρ k a b) (h5 : ρ 5 ≤ 999) : od_R lw ρ k a b 5 ≤ 999 := by
  unfold od_R
  unfold od_V at hv
  split
  · rename_i hk
    rw [if_pos hk] at hv
    unfold sp_preW; rw [if_pos hv]
    unfold sp_preR; rw [if_neg (by omega)]; exact h5
  · rename_i hk
    rw [if_neg hk] at hv
    split
    · unfold sp_scrR
      split
      · unfold rup; rw [if_neg (by omega)]; exact h5
      · exact h5
    · split
      · unfold sp_walR
        split
        · unfold rup; rw [if_neg (by omega)]; exact h5
        · exact h5
      · split
        · unfold sp_sitR
          split
          · unfold rup; rw [if_neg (by omega)]; exact h5
          · exact h5
        · unfold sp_pasW
          split
          · unfold sp_pasR rup
            rw [if_pos rfl]; omega
          · exact h5
/-- the state of a run of orders: y behind n steps -/
def odI (ρ : Nat → Int) (n : Nat) (y : od_S) : Prop := sp_ok y.1 ∧ y.1 5 ≤ 999 ∧ (∀ j, (j < 5 ∨ 69 ≤ j) → y.1 j = ρ j) ∧ (0 ≤ y.2.2.1 ∧ y.2.2.1 ≤ n) ∧ (-1 ≤ y.2.2.2 ∧ y.2.2.2 ≤ 1000)
theorem odI_1 {lw : List sp_C} {ρ : Nat → Int} {n : Nat} {c : od_C} {y z : od_S} (hc : 0 ≤ c.1 ∧ c.1 ≤ 4) (h : odI ρ n y) (e : od_1 lw c y = some z) : odI ρ (n + 1) z := by
  obtain ⟨h1, h2, h3, h4, h5⟩ := h
  unfold od_1 at e
  split at e
  · split at e
    · rename_i a b _ _
      split at e
      · cases e
      · rename_i hv
        cases e
        refine ⟨od_R_ok h1 _ a b (by omega), od_R_5 h1 _ a b (by omega) h2, fun j hj => ?_, ?_, ?_⟩
        · show od_R lw y.1 c.1 a b j = ρ j
          rw [od_R_fix h1 _ a b hj (by omega)]; exact h3 j hj
        · show 0 ≤ y.2.2.1 + 1 ∧ y.2.2.1 + 1 ≤ ((n + 1 : Nat) : Int)
          omega
        · show -1 ≤ (if c.1 = 0 then od_V lw y.1 c.1 a b else y.2.2.2) ∧ (if c.1 = 0 then od_V lw y.1 c.1 a b else y.2.2.2) ≤ 1000
          have hb := od_V_b (lw := lw) h1 hc a b
          split <;> omega
    · cases e
  · cases e
    exact ⟨h1, h2, h3, ⟨h4.1, by omega⟩, h5⟩
noncomputable def odK (lw : List sp_C) (r : List od_C) (x : od_C) (c k : Nat) (y : od_S) : od_S ⊕ Nat := match od_n lw x k y with
  | none => .inr c
  | some z => od_L lw r (c + 1) z
theorem odK_n {lw : List sp_C} {r : List od_C} {x : od_C} {c k : Nat} {y : od_S} (h : od_1 lw x y = none) : odK lw r x c (k + 1) y = .inr c := by
  unfold odK
  rw [od_n, h]
theorem odK_s {lw : List sp_C} {r : List od_C} {x : od_C} {c k : Nat} {y z : od_S} (h : od_1 lw x y = some z) : odK lw r x c (k + 1) y = odK lw r x c k z := by
  unfold odK
  rw [od_n, h]
theorem od_L_x {lw : List sp_C} {ol : List od_C} {c : Nat} {x : od_C} (h : ol[c]? = some x) (y : od_S) : od_L lw (ol.drop c) c y = odK lw (ol.drop (c + 1)) x c x.2.1 y := by
  have e : ol.drop c = x :: ol.drop (c + 1) := by
    obtain ⟨hc, e2⟩ := List.getElem?_eq_some_iff.mp h
    rw [← e2]; exact List.drop_eq_getElem_cons hc
  rw [e, od_L]
  rfl
/-- what a run of orders keeps of memory -/
def odM (M0 M : Nat → Nat → Int) (Z : lwQ) (y : od_S) : Prop := rr_ M = y.1 ∧ tlR M y.2.1 ∧ M 228 55 = y.2.2.1 ∧ M 228 56 = y.2.2.2 ∧ M 228 20 = 0 ∧ r9 M0 M ∧ (∀ j, j < 64 → M 233 (1088 + j) = M0 230 (5 + j)) ∧ (∀ j, j < 1024 → M 235 j = M0 233 j) ∧ (∀ j, j < 16 → M 236 j = M0 234 j) ∧ M 262 = Z.2.2 ∧ M 239 = Z.1.o ∧ M 240 = Z.1.a ∧ M 228 21 = ((Z.2.1 : Nat) : Int) ∧ M 229 = M0 229
theorem odM_1 {sh : List (Nat × Nat)} {M0 M M2 : Nat → Nat → Int} {Z : lwQ} {y z : od_S} (h : odM M0 M Z y) (q : px_qk sh [228, 230, 233, 234, 246, 247, 248, 249, 250] M M2) (h1 : rr_ M2 = z.1) (h2 : tlR M2 z.2.1) (h3 : M2 228 55 = z.2.2.1) (h4 : M2 228 56 = z.2.2.2) (h5 : M2 228 20 = 0) (h6 : ∀ j, 1024 ≤ j → M2 233 j = M 233 j) (h7 : r9 M M2) (h8 : fz [8, 20, 34, 38, 39, 40, 55, 56, 58] M M2) : odM M0 M2 Z z := by
  obtain ⟨a1, a2, a3, a4, a5, a6, a7, a8, a9, b1, b2, b3, b4, b5⟩ := h
  exact ⟨h1, h2, h3, h4, h5, r9_tr a6 h7, fun j hj => by rw [h6 _ (by omega)]; exact a7 j hj, by rw [q.2.2 235 (by decide)]; exact a8, by rw [q.2.2 236 (by decide)]; exact a9, by rw [q.2.2 262 (by decide)]; exact b1, by rw [q.2.2 239 (by decide)]; exact b2, by rw [q.2.2 240 (by decide)]; exact b3, by rw [h8 21 (by decide)]; exact b4, by rw [q.2.2 229 (by decide)]; exact b5⟩
theorem odM_4 {M0 M : Nat → Nat → Int} {Z : lwQ} {y : od_S} {n : Nat} (h : odM M0 M Z y) (hI : odI (rr_ M0) n y) : M 230 4 = M0 230 4 := by
  have e1 := h.1
  have e2 := hI.2.2.1 4 (by omega)
  rw [← e1] at e2
  unfold rr_ at e2
  rw [if_pos (by omega), if_pos (by omega)] at e2
  exact e2
theorem odM_bk {M0 M M2 M3 : Nat → Nat → Int} {Z : lwQ} {y : od_S} {n : Nat} {tl : sp_T} (h : odM M0 M Z y) (hI : odI (rr_ M0) n y) (ht : tlR M0 tl) (h230 : ∀ j, M2 230 j = if 5 ≤ j ∧ j < 69 then M 233 (1088 + (j - 5)) else M 230 j) (h233 : ∀ j, j < 1024 → M2 233 j = M 235 j) (h234 : ∀ j, j < 16 → M2 234 j = M 236 j) (h8 : M2 228 8 = ((tl.length : Nat) : Int)) : rr_ M2 = rr_ M0 ∧ tlR M2 tl ∧ r9 M0 M2 := by
  obtain ⟨a1, a2, a3, a4, a5, a6, a7, a8, a9, b1, b2, b3, b4, b5⟩ := h
  refine ⟨?_, ?_, ?_⟩
  · funext j
    unfold rr_
    split
    · rw [h230]
      split
      · rw [a7 _ (by omega)]; congr 1; omega
      · have e := hI.2.2.1 j (by omega)
        rw [← a1] at e
        unfold rr_ at e
        rw [if_pos (by omega), if_pos (by omega)] at e
        exact e
    · rfl
  · obtain ⟨c1, c2, c3⟩ := ht
    refine ⟨h8, c2, fun k hk => ?_⟩
    obtain ⟨e, g1, g2, g3⟩ := c3 k hk
    refine ⟨e, g1, by rw [h234 k (by omega), a9 k (by omega)]; exact g2, fun i hi => by rw [h233 _ (by omega), a8 _ (by omega)]; exact g3 i hi⟩
  · intro j hj
    rw [h230, if_neg (by omega)]
    exact a6 j hj
def odP (M0 M : Nat → Nat → Int) (lw : List sp_C) (tl : sp_T) (v : Int) (R : od_S ⊕ Nat) : Prop := match R with
  | .inl y => v = y.2.2.1 ∧ rr_ M = y.1 ∧ tlR M y.2.1 ∧ M 228 57 = -1
  | .inr i => v = -3 ∧ rr_ M = rr_ M0 ∧ tlR M tl ∧ M 228 57 = ((i : Nat) : Int)
theorem lp_R_giveBack_35 {xs : Nat → Int} {L d : Nat} {sh : List (Nat × Nat)} (hd : 1 ≤ d) (hW : px_W0 <+: sh) {M0 : Nat → Nat → Int}  {u : Int}  {Q : Option Value → px_H → Prop} (kx : ∀ (i : Nat) (M : Nat → Nat → Int), px_qk sh [234] M0 M → (∀ j, M 234 j = if j < 16 then M0 236 j else M0 234 j) → px_R xs L d 298 (59, [.ref 228, .int (iI (u)), .int (iI (((i : Nat) : Int)))], [], (sh, M)) Q)  : ∀ (mz : Nat) (i : Nat) (M : Nat → Nat → Int), 16 - i = mz → px_qk sh [234] M0 M → (i ≤ 16) → (∀ j, M 234 j = if j < i then M0 236 j else M0 234 j) → px_R xs L d 298 (35, [.ref 228, .int (iI (u)), .int (iI (((i : Nat) : Int)))], [], (sh, M)) Q := by
  intro mz
  induction mz using Nat.strongRecOn with
  | _ mz ih =>
    intro i M hm hq hi h1
    refine rr_iload_n pf_298_35 rfl ?_
    refine rr_bipush pf_298_36 (by decide) ?_
    refine rr_icmp_ge 59 pf_298_38 (by decide) (by unfold rg; omega) (by unfold rg; omega) (fun c1 => ?_) (fun c1 => ?_)
    · exact kx i M hq (by rw [show i = 16 by omega] at h1; exact h1)
    · refine rr_aload_n pf_298_41 rfl ?_
      refine rr_getR pf_298_42 po_298 pg_9_26 rfl (ws_228 hW) (by decide) (wr_228_7 hq.1) ?_
      refine rr_iload_n pf_298_45 rfl ?_
      refine rr_aload_n pf_298_46 rfl ?_
      refine rr_getR pf_298_47 po_298 pg_9_32 rfl (ws_228 hW) (by decide) (wr_228_10 hq.1) ?_
      refine rr_iload_n pf_298_50 rfl ?_
      refine vr_iald (j := i) hq pf_298_51 (ws_236 hW) (by omega) (by omega) (by decide) (fun x2 hx2 rx2 => ?_)
      rw [hq.2.2 236 (by decide)] at hx2
      refine vr_iast (j := i) hW hq pf_298_52 (ws_234 hW) (by omega) (by omega) (by decide) rx2 (by decide) (fun M3 eM3 q4 => ?_)
      refine rr_iinc pf_298_53 rfl (fun y => [.ref 228, .int (iI (u)), .int (iI (y))]) (fun _ => rfl) (fun y5 hy5 => ?_)
      refine rr_goto 35 pf_298_56 (by decide) ?_
      obtain ⟨nz6, hnz6, rfl⟩ : ∃ zz : Nat, zz = 1 + i ∧ y5 = ((zz : Nat) : Int) := ⟨1 + i, rfl, by omega⟩
      exact ih _ (by omega) nz6 M3 rfl q4 (by omega) (by
                  intro j; rw [eM3, ask_up]; by_cases hj : j = i
                  · rw [if_pos hj, if_pos (by omega), hx9, hj]
                  · rw [if_neg hj, h1]; by_cases hc : j < i
                    · rw [if_pos hc, if_pos (by omega)]
                    · rw [if_neg hc, if_neg (by omega)])
theorem lp_R_giveBack_8 {xs : Nat → Int} {L d : Nat} {sh : List (Nat × Nat)} (hd : 1 ≤ d) (hW : px_W0 <+: sh) {M0 : Nat → Nat → Int}  {u : Int}  {Q : Option Value → px_H → Prop} (kx : ∀ (i : Nat) (M : Nat → Nat → Int), px_qk sh [233] M0 M → (∀ j, M 233 j = if j < 1024 then M0 235 j else M0 233 j) → px_R xs L d 298 (33, [.ref 228, .int (iI (u)), .int (iI (((i : Nat) : Int)))], [], (sh, M)) Q)  : ∀ (mz : Nat) (i : Nat) (M : Nat → Nat → Int), 1024 - i = mz → px_qk sh [233] M0 M → (i ≤ 1024) → (∀ j, M 233 j = if j < i then M0 235 j else M0 233 j) → px_R xs L d 298 (8, [.ref 228, .int (iI (u)), .int (iI (((i : Nat) : Int)))], [], (sh, M)) Q := by
  intro mz
  induction mz using Nat.strongRecOn with
  | _ mz ih =>
    intro i M hm hq hi h1
    refine rr_iload_n pf_298_8 rfl ?_
    refine rr_sipush pf_298_9 (by decide) ?_
    refine rr_icmp_ge 33 pf_298_12 (by decide) (by unfold rg; omega) (by unfold rg; omega) (fun c1 => ?_) (fun c1 => ?_)
    · exact kx i M hq (by rw [show i = 1024 by omega] at h1; exact h1)
    · refine rr_aload_n pf_298_15 rfl ?_
      refine rr_getR pf_298_16 po_298 pg_9_23 rfl (ws_228 hW) (by decide) (wr_228_6 hq.1) ?_
      refine rr_iload_n pf_298_19 rfl ?_
      refine rr_aload_n pf_298_20 rfl ?_
      refine rr_getR pf_298_21 po_298 pg_9_29 rfl (ws_228 hW) (by decide) (wr_228_9 hq.1) ?_
      refine rr_iload_n pf_298_24 rfl ?_
      refine vr_iald (j := i) hq pf_298_25 (ws_235 hW) (by omega) (by omega) (by decide) (fun x2 hx2 rx2 => ?_)
      rw [hq.2.2 235 (by decide)] at hx2
      have hx9 := hx2
      refine vr_iast (j := i) hW hq pf_298_26 (ws_233 hW) (by omega) (by omega) (by decide) rx2 (by decide) (fun M3 eM3 q4 => ?_)
      refine rr_iinc pf_298_27 rfl (fun y => [.ref 228, .int (iI (u)), .int (iI (y))]) (fun _ => rfl) (fun y5 hy5 => ?_)
      refine rr_goto 8 pf_298_30 (by decide) ?_
      obtain ⟨nz6, hnz6, rfl⟩ : ∃ zz : Nat, zz = 1 + i ∧ y5 = ((zz : Nat) : Int) := ⟨1 + i, rfl, by omega⟩
      exact ih _ (by omega) nz6 M3 rfl q4 (by omega) (by
                  intro j; rw [eM3, ask_up]; by_cases hj : j = i
                  · rw [if_pos hj, if_pos (by omega), hx9, hj]
                  · rw [if_neg hj, h1]; by_cases hc : j < i
                    · rw [if_pos hc, if_pos (by omega)]
                    · rw [if_neg hc, if_neg (by omega)])
theorem ct_R_giveBack {xs : Nat → Int} {L d : Nat} {sh : List (Nat × Nat)} {M0 : Nat → Nat → Int} (hd : 2 ≤ d) (hW : px_W0 <+: sh) (hF : px_Fx M0) (hG : px_RG sh M0)  {n : Nat} (hn : n ≤ 16) : ∃ M, (px_qk sh [228, 230, 233, 234] M0 M ∧ (∀ j, M 230 j = if 5 ≤ j ∧ j < 69 then M0 233 (1088 + (j - 5)) else M0 230 j) ∧ (∀ j, j < 1024 → M 233 j = M0 235 j) ∧ (∀ j, j < 16 → M 234 j = M0 236 j) ∧ (M 228 8 = ((n : Nat) : Int)) ∧ (fz [8] M0 M)) ∧ px_Cl xs L d 298 [.ref 228, .int (iI (((n : Nat) : Int)))] (sh, M0) (none) (sh, M) := by
  obtain ⟨d, rfl⟩ : ∃ e, d = e + 1 := ⟨d - 1, by omega⟩
  have q0 : px_qk sh [228, 230, 233, 234] M0 M0 := ⟨hF, hG, eo_rf⟩
  refine vc_n (Nat.le_of_ble_eq_true rfl) ?_
  show px_R xs L d 298 (0, [.ref 228, .int (iI (((n : Nat) : Int))), px_jk], [], (sh, M0)) (fun r h' => r = none ∧ ∃ M', h' = (sh, M') ∧ px_qk sh [228, 230, 233, 234] M0 M' ∧ (∀ j, M' 230 j = if 5 ≤ j ∧ j < 69 then M0 233 (1088 + (j - 5)) else M0 230 j) ∧ (∀ j, j < 1024 → M' 233 j = M0 235 j) ∧ (∀ j, j < 16 → M' 234 j = M0 236 j) ∧ M' 228 8 = ((n : Nat) : Int) ∧ fz [8] M0 M')
  refine rr_aload_n pf_298_0 rfl ?_
  refine rr_bipush pf_298_1 (by decide) ?_
  obtain ⟨M1, ⟨kq2, kb_M1⟩, hcM1⟩ := ct_R_putBack (xs := xs) (L := L) (d := d) (k := 17) (by omega) hW q0.1 q0.2.1 (by omega)
  rw [show ((17 : Nat) : Int) = 17 by omega] at hcM1
  have q2 := qk_trm q0 kq2 (by decide)
  have rq3 := fz_q (fz_rf [8] M0) kq2 (by decide)
  refine rr_cV1 pf_298_3 po_298 pc_9_194 (ws_228 hW) po_177 (by decide) rfl hcM1 ?_
  
  refine rr_iconst pf_298_6 ?_
  refine rr_istore_n pf_298_7 (fun y => [.ref 228, .int (iI (((n : Nat) : Int))), .int (iI (y))]) (Nat.le_of_ble_eq_true rfl) (fun _ => rfl) (fun y4 hy4 => ?_)
  obtain ⟨nz5, hnz5, rfl⟩ : ∃ zz : Nat, zz = 0 ∧ y4 = ((zz : Nat) : Int) := ⟨0, rfl, by omega⟩
  refine lp_R_giveBack_8 (xs := xs) (L := L) (d := d) (by omega) hW (fun i_6  M7 q8 x1_M7 => ?_) _ nz5 M1 rfl ⟨q2.1, q2.2.1, eo_rf⟩ (by omega) (by intro j; rw [if_neg (by omega)])
  have q9 := qk_trm q2 q8 (by decide)
  have rq10 := fz_q rq3 q8 (by decide)
  
  refine rr_iconst pf_298_33 ?_
  refine rr_istore_n pf_298_34 (fun y => [.ref 228, .int (iI (((n : Nat) : Int))), .int (iI (y))]) (Nat.le_of_ble_eq_true rfl) (fun _ => rfl) (fun y11 hy11 => ?_)
  obtain ⟨nz12, hnz12, rfl⟩ : ∃ zz : Nat, zz = 0 ∧ y11 = ((zz : Nat) : Int) := ⟨0, rfl, by omega⟩
  refine lp_R_giveBack_35 (xs := xs) (L := L) (d := d) (by omega) hW (fun i_13  M14 q15 x1_M14 => ?_) _ nz12 M7 rfl ⟨q9.1, q9.2.1, eo_rf⟩ (by omega) (by intro j; rw [if_neg (by omega)])
  have q16 := qk_trm q9 q15 (by decide)
  have rq17 := fz_q rq10 q15 (by decide)
  
  refine rr_aload_n pf_298_59 rfl ?_
  refine rr_iload_n pf_298_60 rfl ?_
  refine vr_putI hW q16 pf_298_61 po_298 pg_9_183 (Or.inl rfl) rfl (ws_228 hW) (by decide) (by unfold rg; omega) (by decide) (fun M18 eM18 q19 => ?_)
  have rq20 := fz_up rq17 eM18 (by decide)
  refine rr_vret pf_298_64 pt_298 ⟨rfl, M18, rfl, q19, (by intro j; rw [eM18, ask_ne (by decide), q15.2.2 230 (by decide), q8.2.2 230 (by decide)]; exact kb_M1 j), (by intro j hj; rw [eM18, ask_ne (by decide), q15.2.2 233 (by decide), x1_M7, if_pos hj, kq2.2.2 235 (by decide)]), (by intro j hj; rw [eM18, ask_ne (by decide), x1_M14, if_pos hj, q8.2.2 236 (by decide), kq2.2.2 236 (by decide)]), (by rw [eM18, up_s]), (rq20)⟩
theorem odM_bk2 {sh : List (Nat × Nat)} {M0 M M1 M2 : Nat → Nat → Int} {Z : lwQ} {y : od_S} {n : Nat} {tl : sp_T} (h : odM M0 M Z y) (hI : odI (rr_ M0) n y) (ht : tlR M0 tl) (q : px_qk sh [228, 230, 233, 234, 246, 247, 248, 249, 250] M M1) (h6 : ∀ j, 1024 ≤ j → M1 233 j = M 233 j) (h7 : r9 M M1) (h0 : ∀ j, (j < 5 ∨ 69 ≤ j) → j < 109 → M1 230 j = M0 230 j) (h230 : ∀ j, M2 230 j = if 5 ≤ j ∧ j < 69 then M1 233 (1088 + (j - 5)) else M1 230 j) (h233 : ∀ j, j < 1024 → M2 233 j = M1 235 j) (h234 : ∀ j, j < 16 → M2 234 j = M1 236 j) (h8 : M2 228 8 = ((tl.length : Nat) : Int)) : rr_ M2 = rr_ M0 ∧ tlR M2 tl ∧ r9 M0 M2 := by
  obtain ⟨a1, a2, a3, a4, a5, a6, a7, a8, a9, b1, b2, b3, b4, b5⟩ := h
  refine ⟨?_, ?_, ?_⟩
  · funext j
    unfold rr_
    split
    · rw [h230]
      split
      · rw [h6 _ (by omega), a7 _ (by omega)]; congr 1; omega
      · exact h0 j (by omega) (by omega)
    · rfl
  · obtain ⟨c1, c2, c3⟩ := ht
    refine ⟨h8, c2, fun k hk => ?_⟩
    obtain ⟨e, g1, g2, g3⟩ := c3 k hk
    refine ⟨e, g1, by rw [h234 k (by omega), q.2.2 236 (by decide), a9 k (by omega)]; exact g2, fun i hi => by rw [h233 _ (by omega), q.2.2 235 (by decide), a8 _ (by omega)]; exact g3 i hi⟩
  · intro j hj
    rw [h230, if_neg (by omega), h7 j hj]
    exact a6 j hj
