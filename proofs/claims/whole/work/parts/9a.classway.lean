/-! the class on paper: ways -/
theorem aw_comm (p q : Int) : aw p q = aw q p := by unfold aw; omega
theorem fnW_b {f : Nat → Int} {l : Int} {p g : Nat} : ∀ m, fnW f l p g m = -1 ∨ ∃ a : Nat, a < m ∧ fnW f l p g m = ((a : Nat) : Int) ∧ stepB p a g = true := by
  intro m
  induction m with
  | zero => exact Or.inl rfl
  | succ m ih =>
    simp only [fnW]
    rcases ih with h | ⟨a, h1, h2, h3⟩
    · rw [if_pos h]
      by_cases hc : stepB p m g = true ∧ f m = l
      · rw [if_pos hc]; exact Or.inr ⟨m, by omega, rfl, hc.1⟩
      · rw [if_neg hc]; exact Or.inl rfl
    · rw [if_neg (by omega)]; exact Or.inr ⟨a, by omega, h2, h3⟩
theorem fnW_f {f : Nat → Int} {l : Int} {p g m : Nat} (h : fnW f l p g m ≠ -1) : ∀ j, fnW f l p g (m + j) = fnW f l p g m := by
  intro j
  induction j with
  | zero => rfl
  | succ j ih => rw [← Nat.add_assoc, fnW, ih, if_neg h]
theorem ct_Paper_isStepOn {xs : Nat → Int} {L d : Nat} {sh : List (Nat × Nat)} {M0 : Nat → Nat → Int} (hd : 2 ≤ d) (hW : px_W0 <+: sh) (hF : px_Fx M0) (hG : px_RG sh M0)  {g : Nat} (hg : g < 16) (hdst : M0 175 18 = ((g : Nat) : Int)) {p q : Nat} (hp6 : p < 16) (hq6 : q < 16) : ∃ M, (px_qk sh [] M0 M) ∧ px_Cl xs L d 156 [.ref 175, .int (iI (((p : Nat) : Int))), .int (iI (((q : Nat) : Int)))] (sh, M0) (some (.int (iI (bI (stepB p q g = true))))) (sh, M) := by
  obtain ⟨d, rfl⟩ : ∃ e, d = e + 1 := ⟨d - 1, by omega⟩
  have q0 : px_qk sh [] M0 M0 := ⟨hF, hG, eo_rf⟩
  have a1 := aw_rg (p := (p : Int)) (q := (q : Int)) (by omega) (by omega)
  have a2 := aw_rg (p := (q : Int)) (q := (g : Int)) (by omega) (by omega)
  have a3 := aw_rg (p := (p : Int)) (q := (g : Int)) (by omega) (by omega)
  have hsd := step_d p hp6 q hq6 g hg
  have hsu : stepB p q g = true ↔ (aw p q = 1 ∧ aw q g < aw p g) := by unfold stepB; exact decide_eq_true_iff
  refine vc_n (Nat.le_of_ble_eq_true rfl) ?_
  show px_R xs L d 156 (0, [.ref 175, .int (iI (((p : Nat) : Int))), .int (iI (((q : Nat) : Int)))], [], (sh, M0)) (fun r h' => r = some (.int (iI (bI (stepB p q g = true)))) ∧ ∃ M', h' = (sh, M') ∧ px_qk sh [] M0 M')
  refine rr_iload_n pf_156_0 rfl ?_
  refine rr_iload_n pf_156_1 rfl ?_
  refine rr_cS2 pf_156_2 po_156 pc_2_200 (by decide) rfl (ct_S_distance (by omega) (by omega) (by omega)) ?_
  refine rr_iconst pf_156_5 ?_
  refine rr_icmp_ne 34 pf_156_6 (by decide) (by unfold rg; omega) (by unfold rg; omega) (fun c1 => ?_) (fun c1 => ?_)
  · refine rr_iconst pf_156_34 ?_
    refine rr_zret pf_156_35 pt_156 (by first | exact Or.inl rfl | exact Or.inr rfl | omega) ⟨by rw [bI_f (by intro z; have z1 := hsu.mp z; have z2 := hsd z; omega)], M0, rfl, q0⟩
  · refine rr_iload_n pf_156_9 rfl ?_
    refine rr_aload_n pf_156_10 rfl ?_
    refine vr_getI q0 pf_156_11 po_156 pg_2_62 rfl (ws_175 hW) (by decide) (fun x2 hx2 rx2 => ?_)
    rw [hdst] at hx2
    subst hx2
    refine rr_cS2 pf_156_14 po_156 pc_2_200 (by decide) rfl (ct_S_distance (by omega) (by omega) (by omega)) ?_
    refine rr_iload_n pf_156_17 rfl ?_
    refine rr_aload_n pf_156_18 rfl ?_
    refine vr_getI q0 pf_156_19 po_156 pg_2_62 rfl (ws_175 hW) (by decide) (fun x3 hx3 rx3 => ?_)
    rw [hdst] at hx3
    subst hx3
    refine rr_cS2 pf_156_22 po_156 pc_2_200 (by decide) rfl (ct_S_distance (by omega) (by omega) (by omega)) ?_
    refine rr_iconst pf_156_25 ?_
    refine rr_isub pf_156_26 ?_
    refine rr_icmp_ne 34 pf_156_27 (by decide) (by unfold rg; omega) (by unfold rg; omega) (fun c4 => ?_) (fun c4 => ?_)
    · refine rr_iconst pf_156_34 ?_
      refine rr_zret pf_156_35 pt_156 (by first | exact Or.inl rfl | exact Or.inr rfl | omega) ⟨by rw [bI_f (by intro z; have z1 := hsu.mp z; have z2 := hsd z; omega)], M0, rfl, q0⟩
    · refine rr_iconst pf_156_30 ?_
      refine rr_goto 35 pf_156_31 (by decide) ?_
      refine rr_zret pf_156_35 pt_156 (by first | exact Or.inl rfl | exact Or.inr rfl | omega) ⟨by rw [bI_t (by exact hsu.mpr ⟨by omega, by omega⟩)], M0, rfl, q0⟩
theorem lp_Paper_fewestBlackAhead_5 {xs : Nat → Int} {L d : Nat} {sh : List (Nat × Nat)} (hd : 2 ≤ d) (hW : px_W0 <+: sh) {M0 : Nat → Nat → Int}  {g : Nat} (hg : g < 16) (hdst : M0 175 18 = ((g : Nat) : Int)) {p : Nat} (hp6 : p < 16) (hlb : ∀ q, q < 16 → (0 ≤ M0 186 q ∧ M0 186 q ≤ 1000000) ∧ (0 ≤ M0 185 q ∧ M0 185 q ≤ 1))  {Q : Option Value → px_H → Prop} (kx : ∀ (le : Int) (q : Nat) (M : Nat → Nat → Int), px_qk sh [] M0 M → (le = lsF (fun q => M0 186 q + M0 185 q) p g 16) → (0 ≤ le ∧ le ≤ 1000000) → px_R xs L d 155 (44, [.ref 175, .int (iI (((p : Nat) : Int))), .int (iI (le)), .int (iI (((q : Nat) : Int)))], [], (sh, M)) Q)  : ∀ (mz : Nat) (le : Int) (q : Nat) (M : Nat → Nat → Int), 16 - q = mz → px_qk sh [] M0 M → (q ≤ 16) → (0 ≤ le ∧ le ≤ 1000000) → (le = lsF (fun q => M0 186 q + M0 185 q) p g q) → px_R xs L d 155 (5, [.ref 175, .int (iI (((p : Nat) : Int))), .int (iI (le)), .int (iI (((q : Nat) : Int)))], [], (sh, M)) Q := by
  intro mz
  induction mz using Nat.strongRecOn with
  | _ mz ih =>
    intro le q M hm hq hq6 hb hl
    refine rr_iload_n pf_155_5 rfl ?_
    refine rr_bipush pf_155_6 (by decide) ?_
    refine rr_icmp_ge 44 pf_155_8 (by decide) (by unfold rg; omega) (by unfold rg; omega) (fun c1 => ?_) (fun c1 => ?_)
    · exact kx le q M hq (by rw [hl, show q = 16 by omega]) (hb)
    · refine rr_aload_n pf_155_11 rfl ?_
      refine rr_iload_n pf_155_12 rfl ?_
      refine rr_iload_n pf_155_13 rfl ?_
      obtain ⟨M2, kq3, hcM2⟩ := ct_Paper_isStepOn (xs := xs) (L := L) (d := d) (p := p) (q := q) (g := g) (by omega) hW hq.1 hq.2.1 hg (by rw [hq.2.2 175 (by decide)]; exact hdst) hp6 (by omega)
      obtain rfl := qk_nil kq3
      refine rr_cV2 pf_155_14 po_155 pc_2_206 (ws_175 hW) po_156 (by decide) rfl hcM2 ?_
      refine rr_ifb_eq 38 pf_155_17 (by decide) (fun c5 => ?_) (fun c5 => ?_)
      · have hst := c5
        refine rr_iinc pf_155_38 rfl (fun y => [.ref 175, .int (iI (((p : Nat) : Int))), .int (iI (le)), .int (iI (y))]) (fun _ => rfl) (fun y6 hy6 => ?_)
        refine rr_goto 5 pf_155_41 (by decide) ?_
        obtain ⟨nz7, hnz7, rfl⟩ : ∃ zz : Nat, zz = 1 + q ∧ y6 = ((zz : Nat) : Int) := ⟨1 + q, rfl, by omega⟩
        exact ih _ (by omega) le nz7 M rfl hq (by omega) (by omega) (by rw [show nz7 = q + 1 by omega, lsF, if_neg hst]; exact hl)
      · have hst := c5
        have hlq := hlb q (by omega)
        refine rr_iload_n pf_155_20 rfl ?_
        refine rr_aload_n pf_155_21 rfl ?_
        refine rr_getR pf_155_22 po_155 pg_2_49 rfl (ws_175 hW) (by decide) (wr_175_14 hq.1) ?_
        refine rr_iload_n pf_155_25 rfl ?_
        refine vr_iald (j := q) hq pf_155_26 (ws_186 hW) (by omega) (by omega) (by decide) (fun x8 hx8 rx8 => ?_)
        rw [hq.2.2 186 (by decide)] at hx8
        refine rr_aload_n pf_155_27 rfl ?_
        refine rr_getR pf_155_28 po_155 pg_2_46 rfl (ws_175 hW) (by decide) (wr_175_13 hq.1) ?_
        refine rr_iload_n pf_155_31 rfl ?_
        refine vr_iald (j := q) hq pf_155_32 (ws_185 hW) (by omega) (by omega) (by decide) (fun x9 hx9 rx9 => ?_)
        rw [hq.2.2 185 (by decide)] at hx9
        refine rr_iadd pf_155_33 ?_
        refine rr_min pf_155_34 po_155 pc_2_109 rfl (by unfold rg; omega) (by unfold rg; omega) ?_
        refine rr_istore_n pf_155_37 (fun y => [.ref 175, .int (iI (((p : Nat) : Int))), .int (iI (y)), .int (iI (((q : Nat) : Int)))]) (Nat.le_of_ble_eq_true rfl) (fun _ => rfl) (fun y10 hy10 => ?_)
        refine rr_iinc pf_155_38 rfl (fun y => [.ref 175, .int (iI (((p : Nat) : Int))), .int (iI (y10)), .int (iI (y))]) (fun _ => rfl) (fun y11 hy11 => ?_)
        refine rr_goto 5 pf_155_41 (by decide) ?_
        obtain ⟨nz12, hnz12, rfl⟩ : ∃ zz : Nat, zz = 1 + q ∧ y11 = ((zz : Nat) : Int) := ⟨1 + q, rfl, by omega⟩
        exact ih _ (by omega) y10 nz12 M rfl hq (by omega) (by omega) (by rw [show nz12 = q + 1 by omega, lsF, if_pos hst]; omega)
theorem ct_Paper_fewestBlackAhead {xs : Nat → Int} {L d : Nat} {sh : List (Nat × Nat)} {M0 : Nat → Nat → Int} (hd : 3 ≤ d) (hW : px_W0 <+: sh) (hF : px_Fx M0) (hG : px_RG sh M0)  {g : Nat} (hg : g < 16) (hdst : M0 175 18 = ((g : Nat) : Int)) {p : Nat} (hp6 : p < 16) (hlb : ∀ q, q < 16 → (0 ≤ M0 186 q ∧ M0 186 q ≤ 1000000) ∧ (0 ≤ M0 185 q ∧ M0 185 q ≤ 1)) : ∃ v M, (px_qk sh [] M0 M ∧ (v = lsF (fun q => M0 186 q + M0 185 q) p g 16) ∧ (0 ≤ v ∧ v ≤ 1000000)) ∧ px_Cl xs L d 155 [.ref 175, .int (iI (((p : Nat) : Int)))] (sh, M0) (some (.int (iI v))) (sh, M) := by
  obtain ⟨d, rfl⟩ : ∃ e, d = e + 1 := ⟨d - 1, by omega⟩
  have q0 : px_qk sh [] M0 M0 := ⟨hF, hG, eo_rf⟩
  refine vc_i (Nat.le_of_ble_eq_true rfl) ?_
  show px_R xs L d 155 (0, [.ref 175, .int (iI (((p : Nat) : Int))), px_jk, px_jk], [], (sh, M0)) (fun r h' => ∃ v M', r = some (.int (iI v)) ∧ h' = (sh, M') ∧ px_qk sh [] M0 M' ∧ v = lsF (fun q => M0 186 q + M0 185 q) p g 16 ∧ (0 ≤ v ∧ v ≤ 1000000))
  refine rr_ldc pf_155_0 po_155 pk_2_105 ?_
  refine rr_istore_n pf_155_2 (fun y => [.ref 175, .int (iI (((p : Nat) : Int))), .int (iI (y)), px_jk]) (Nat.le_of_ble_eq_true rfl) (fun _ => rfl) (fun y1 hy1 => ?_)
  refine rr_iconst pf_155_3 ?_
  refine rr_istore_n pf_155_4 (fun y => [.ref 175, .int (iI (((p : Nat) : Int))), .int (iI (y1)), .int (iI (y))]) (Nat.le_of_ble_eq_true rfl) (fun _ => rfl) (fun y2 hy2 => ?_)
  obtain ⟨nz3, hnz3, rfl⟩ : ∃ zz : Nat, zz = 0 ∧ y2 = ((zz : Nat) : Int) := ⟨0, rfl, by omega⟩
  refine lp_Paper_fewestBlackAhead_5 (xs := xs) (L := L) (d := d) (by omega) hW hg hdst hp6 hlb (fun le_4 q_5  M6 q7 xl_M6 xb_M6 => ?_) _ y1 nz3 M0 rfl q0 (by omega) (by omega) (by rw [show nz3 = 0 by omega]; exact hy1)
  refine rr_iload_n pf_155_44 rfl ?_
  refine rr_iret pf_155_45 pt_155 ⟨_, M6, rfl, rfl, q7, (xl_M6), (xb_M6)⟩
theorem lp_Paper_nextOfWay_2 {xs : Nat → Int} {L d : Nat} {sh : List (Nat × Nat)} (hd : 2 ≤ d) (hW : px_W0 <+: sh) {M0 : Nat → Nat → Int}  {g : Nat} (hg : g < 16) (hdst : M0 175 18 = ((g : Nat) : Int)) {p : Nat} (hp6 : p < 16) (hlb : ∀ q, q < 16 → (0 ≤ M0 186 q ∧ M0 186 q ≤ 1000000) ∧ (0 ≤ M0 185 q ∧ M0 185 q ≤ 1))  {Q : Option Value → px_H → Prop} (kx : ∀ (q : Nat) (M : Nat → Nat → Int), px_qk sh [] M0 M → (fnW (fun q => M0 186 q + M0 185 q) (M0 186 p) p g 16 = -1) → px_R xs L d 158 (47, [.ref 175, .int (iI (((p : Nat) : Int))), .int (iI (((q : Nat) : Int)))], [], (sh, M)) Q) (hQ : ∀ r h', (fun r h' => ∃ v M', r = some (.int (iI v)) ∧ h' = (sh, M') ∧ px_qk sh [] M0 M' ∧ (v = if fnW (fun q => M0 186 q + M0 185 q) (M0 186 p) p g 16 = -1 then ((p : Nat) : Int) else fnW (fun q => M0 186 q + M0 185 q) (M0 186 p) p g 16)) r h' → Q r h') : ∀ (mz : Nat) (q : Nat) (M : Nat → Nat → Int), 16 - q = mz → px_qk sh [] M0 M → (q ≤ 16) → (fnW (fun q => M0 186 q + M0 185 q) (M0 186 p) p g q = -1) → px_R xs L d 158 (2, [.ref 175, .int (iI (((p : Nat) : Int))), .int (iI (((q : Nat) : Int)))], [], (sh, M)) Q := by
  intro mz
  induction mz using Nat.strongRecOn with
  | _ mz ih =>
    intro q M hm hq hq6 hl
    refine rr_iload_n pf_158_2 rfl ?_
    refine rr_bipush pf_158_3 (by decide) ?_
    refine rr_icmp_ge 47 pf_158_5 (by decide) (by unfold rg; omega) (by unfold rg; omega) (fun c1 => ?_) (fun c1 => ?_)
    · exact kx q M hq (by
                  have e : q = 16 := by omega
                  rw [e] at hl; exact hl)
    · refine rr_aload_n pf_158_8 rfl ?_
      refine rr_iload_n pf_158_9 rfl ?_
      refine rr_iload_n pf_158_10 rfl ?_
      obtain ⟨M2, kq3, hcM2⟩ := ct_Paper_isStepOn (xs := xs) (L := L) (d := d) (p := p) (q := q) (g := g) (by omega) hW hq.1 hq.2.1 hg (by rw [hq.2.2 175 (by decide)]; exact hdst) hp6 (by omega)
      obtain rfl := qk_nil kq3
      refine rr_cV2 pf_158_11 po_158 pc_2_206 (ws_175 hW) po_156 (by decide) rfl hcM2 ?_
      refine rr_ifb_eq 41 pf_158_14 (by decide) (fun c5 => ?_) (fun c5 => ?_)
      · have hst := c5
        refine rr_iinc pf_158_41 rfl (fun y => [.ref 175, .int (iI (((p : Nat) : Int))), .int (iI (y))]) (fun _ => rfl) (fun y6 hy6 => ?_)
        refine rr_goto 2 pf_158_44 (by decide) ?_
        obtain ⟨nz7, hnz7, rfl⟩ : ∃ zz : Nat, zz = 1 + q ∧ y6 = ((zz : Nat) : Int) := ⟨1 + q, rfl, by omega⟩
        exact ih _ (by omega) nz7 M rfl hq (by omega) (by rw [show nz7 = q + 1 by omega, fnW, if_pos hl, if_neg (fun z => hst z.1)])
      · have hst := c5
        have hlq := hlb q (by omega)
        refine rr_aload_n pf_158_17 rfl ?_
        refine rr_getR pf_158_18 po_158 pg_2_49 rfl (ws_175 hW) (by decide) (wr_175_14 hq.1) ?_
        refine rr_iload_n pf_158_21 rfl ?_
        refine vr_iald (j := q) hq pf_158_22 (ws_186 hW) (by omega) (by omega) (by decide) (fun x8 hx8 rx8 => ?_)
        rw [hq.2.2 186 (by decide)] at hx8
        refine rr_aload_n pf_158_23 rfl ?_
        refine rr_getR pf_158_24 po_158 pg_2_46 rfl (ws_175 hW) (by decide) (wr_175_13 hq.1) ?_
        refine rr_iload_n pf_158_27 rfl ?_
        refine vr_iald (j := q) hq pf_158_28 (ws_185 hW) (by omega) (by omega) (by decide) (fun x9 hx9 rx9 => ?_)
        rw [hq.2.2 185 (by decide)] at hx9
        refine rr_iadd pf_158_29 ?_
        refine rr_aload_n pf_158_30 rfl ?_
        refine rr_getR pf_158_31 po_158 pg_2_49 rfl (ws_175 hW) (by decide) (wr_175_14 hq.1) ?_
        refine rr_iload_n pf_158_34 rfl ?_
        refine vr_iald (j := p) hq pf_158_35 (ws_186 hW) (by omega) (by omega) (by decide) (fun x10 hx10 rx10 => ?_)
        rw [hq.2.2 186 (by decide)] at hx10
        refine rr_icmp_ne 41 pf_158_36 (by decide) (by unfold rg; omega) rx10 (fun c11 => ?_) (fun c11 => ?_)
        · refine rr_iinc pf_158_41 rfl (fun y => [.ref 175, .int (iI (((p : Nat) : Int))), .int (iI (y))]) (fun _ => rfl) (fun y12 hy12 => ?_)
          refine rr_goto 2 pf_158_44 (by decide) ?_
          obtain ⟨nz13, hnz13, rfl⟩ : ∃ zz : Nat, zz = 1 + q ∧ y12 = ((zz : Nat) : Int) := ⟨1 + q, rfl, by omega⟩
          exact ih _ (by omega) nz13 M rfl hq (by omega) (by rw [show nz13 = q + 1 by omega, fnW, if_pos hl, if_neg (fun z => by have := z.2; omega)])
        · refine rr_iload_n pf_158_39 rfl ?_
          refine rr_iret pf_158_40 pt_158 (hQ _ _ ⟨_, M, rfl, rfl, hq, (by
                          have e1 : fnW (fun q => M0 186 q + M0 185 q) (M0 186 p) p g (q + 1) = ((q : Nat) : Int) := by rw [fnW, if_pos hl, if_pos ⟨hst, by omega⟩]
                          have e2 := fnW_f (f := (fun q => M0 186 q + M0 185 q)) (l := M0 186 p) (p := p) (g := g) (m := q + 1) (by rw [e1]; omega) (16 - (q + 1))
                          rw [show q + 1 + (16 - (q + 1)) = 16 by omega, e1] at e2
                          rw [e2, if_neg (by omega)])⟩)
theorem ct_Paper_nextOfWay {xs : Nat → Int} {L d : Nat} {sh : List (Nat × Nat)} {M0 : Nat → Nat → Int} (hd : 3 ≤ d) (hW : px_W0 <+: sh) (hF : px_Fx M0) (hG : px_RG sh M0)  {g : Nat} (hg : g < 16) (hdst : M0 175 18 = ((g : Nat) : Int)) {p : Nat} (hp6 : p < 16) (hlb : ∀ q, q < 16 → (0 ≤ M0 186 q ∧ M0 186 q ≤ 1000000) ∧ (0 ≤ M0 185 q ∧ M0 185 q ≤ 1)) : ∃ v M, (px_qk sh [] M0 M ∧ (v = if fnW (fun q => M0 186 q + M0 185 q) (M0 186 p) p g 16 = -1 then ((p : Nat) : Int) else fnW (fun q => M0 186 q + M0 185 q) (M0 186 p) p g 16)) ∧ px_Cl xs L d 158 [.ref 175, .int (iI (((p : Nat) : Int)))] (sh, M0) (some (.int (iI v))) (sh, M) := by
  obtain ⟨d, rfl⟩ : ∃ e, d = e + 1 := ⟨d - 1, by omega⟩
  have q0 : px_qk sh [] M0 M0 := ⟨hF, hG, eo_rf⟩
  refine vc_i (Nat.le_of_ble_eq_true rfl) ?_
  show px_R xs L d 158 (0, [.ref 175, .int (iI (((p : Nat) : Int))), px_jk], [], (sh, M0)) (fun r h' => ∃ v M', r = some (.int (iI v)) ∧ h' = (sh, M') ∧ px_qk sh [] M0 M' ∧ (v = if fnW (fun q => M0 186 q + M0 185 q) (M0 186 p) p g 16 = -1 then ((p : Nat) : Int) else fnW (fun q => M0 186 q + M0 185 q) (M0 186 p) p g 16))
  refine rr_iconst pf_158_0 ?_
  refine rr_istore_n pf_158_1 (fun y => [.ref 175, .int (iI (((p : Nat) : Int))), .int (iI (y))]) (Nat.le_of_ble_eq_true rfl) (fun _ => rfl) (fun y1 hy1 => ?_)
  obtain ⟨nz2, hnz2, rfl⟩ : ∃ zz : Nat, zz = 0 ∧ y1 = ((zz : Nat) : Int) := ⟨0, rfl, by omega⟩
  refine lp_Paper_nextOfWay_2 (xs := xs) (L := L) (d := d) (by omega) hW hg hdst hp6 hlb (fun q_3  M4 q5 xl_M4 => ?_) (fun _ _ h => h) _ nz2 M0 rfl q0 (by omega) (by rw [show nz2 = 0 by omega]; rfl)
  refine rr_iload_n pf_158_47 rfl ?_
  refine rr_iret pf_158_48 pt_158 ⟨_, M4, rfl, rfl, q5, (by rw [if_pos xl_M4])⟩
theorem lp_Paper_placeOfWay_13 {xs : Nat → Int} {L d : Nat} {sh : List (Nat × Nat)} (hd : 3 ≤ d) (hW : px_W0 <+: sh) {M0 : Nat → Nat → Int}  {ρ : Nat → Int} (hR : rc M0 3 = ρ) (hρ : sp_ok ρ) {lw : List sp_C} {g : Nat} (hg : g < 16) (hdst : M0 175 18 = ((g : Nat) : Int)) {p0 : Nat} (hp0 : ρ 8 = ((p0 : Nat) : Int)) (hp16 : p0 < 16) (hbk : ∀ q, q < 16 → M0 185 q = if q = g then 0 else sp_bk lw ρ q) (hah : ∀ q : Nat, q < 16 → (aw q g ≤ aw p0 g → M0 186 q = wls (sp_bk lw ρ) g q) ∧ (0 ≤ M0 186 q ∧ M0 186 q ≤ 1000000)) {i : Nat} (hi : (i : Int) < aw p0 g)  {Q : Option Value → px_H → Prop} (kx : ∀ (p : Nat) (k : Nat) (M : Nat → Nat → Int), px_qk sh [] M0 M → (p = wyP (sp_bk lw ρ) g p0 (i + 1)) → (p < 16) → px_R xs L d 157 (30, [.ref 175, .int (iI (((i : Nat) : Int))), .int (iI (((p : Nat) : Int))), .int (iI (((k : Nat) : Int)))], [], (sh, M)) Q)  : ∀ (mz : Nat) (p : Nat) (k : Nat) (M : Nat → Nat → Int), i + 1 - k = mz → px_qk sh [] M0 M → (k ≤ i + 1) → (p < 16) → (p = wyP (sp_bk lw ρ) g p0 k) → (aw p g = aw p0 g - k) → px_R xs L d 157 (13, [.ref 175, .int (iI (((i : Nat) : Int))), .int (iI (((p : Nat) : Int))), .int (iI (((k : Nat) : Int)))], [], (sh, M)) Q := by
  intro mz
  induction mz using Nat.strongRecOn with
  | _ mz ih =>
    intro p k M hm hq hk hp6 hpw hd
    have hbb := bk_b lw ρ
    have a6 := aw_rg (p := (p0 : Int)) (q := (g : Int)) (by omega) (by omega)
    refine rr_iload_n pf_157_13 rfl ?_
    refine rr_iload_n pf_157_14 rfl ?_
    refine rr_icmp_gt 30 pf_157_15 (by decide) (by unfold rg; omega) (by unfold rg; omega) (fun c1 => ?_) (fun c1 => ?_)
    · exact kx p k M hq (by rw [hpw, show i + 1 = k by omega]) (hp6)
    · refine rr_aload_n pf_157_18 rfl ?_
      refine rr_iload_n pf_157_19 rfl ?_
      obtain ⟨r4, M2, ⟨kq3, pv_M2⟩, hcM2⟩ := ct_Paper_nextOfWay (xs := xs) (L := L) (d := d) (p := p) (g := g) (by omega) hW hq.1 hq.2.1 hg (by rw [hq.2.2 175 (by decide)]; exact hdst) hp6 (fun q hq6 => by rw [hq.2.2 186 (by decide), hq.2.2 185 (by decide)]; refine ⟨(hah q hq6).2, ?_⟩; rw [hbk q hq6]; have := bk_b lw ρ q; split <;> omega)
      obtain rfl := qk_nil kq3
      refine rr_cV1 pf_157_20 po_157 pc_2_210 (ws_175 hW) po_158 (by decide) rfl hcM2 ?_
      have hne : p ≠ g := fun z => by have := (aw_0 p hp6 g hg).mpr z; omega
      have hwl : M0 186 p = wls (sp_bk lw ρ) g p := (hah p hp6).1 (by omega)
      have hcg : fnW (fun q => M 186 q + M 185 q) (M 186 p) p g 16 = fnW (wlv (sp_bk lw ρ) g) (wls (sp_bk lw ρ) g p) p g 16 := by
        rw [hq.2.2 186 (by decide), hq.2.2 185 (by decide), hwl]
        refine fnW_congr 16 (fun q hq6 hs => ?_)
        have hs2 := step_d p hp6 q hq6 g hg hs
        show M0 186 q + M0 185 q = _
        rw [(hah q hq6).1 (by omega), hbk q hq6]
        unfold wlv wls
        rfl
      obtain ⟨a, ha6, hsa, hPN⟩ : ∃ a : Nat, a < 16 ∧ stepB p a g = true ∧ fnW (wlv (sp_bk lw ρ) g) (wls (sp_bk lw ρ) g p) p g 16 = ((a : Nat) : Int) := by
        obtain ⟨a, z1, z2, z3, z4⟩ := wy_step hbb hp6 hg hne
        rcases z4 with ⟨z5, z6⟩ | ⟨z5, b, z6, z7, z8, z9⟩
        · exact ⟨a, z1, z2, z6⟩
        · exact ⟨b, z6, z7, z9⟩
      rw [hcg, hPN, if_neg (by omega)] at pv_M2
      refine rr_istore_n pf_157_23 (fun y => [.ref 175, .int (iI (((i : Nat) : Int))), .int (iI (y)), .int (iI (((k : Nat) : Int)))]) (Nat.le_of_ble_eq_true rfl) (fun _ => rfl) (fun y5 hy5 => ?_)
      refine rr_iinc pf_157_24 rfl (fun y => [.ref 175, .int (iI (((i : Nat) : Int))), .int (iI (y5)), .int (iI (y))]) (fun _ => rfl) (fun y6 hy6 => ?_)
      refine rr_goto 13 pf_157_27 (by decide) ?_
      obtain ⟨nz7, hnz7, rfl⟩ : ∃ zz : Nat, zz = y5.toNat ∧ y5 = ((zz : Nat) : Int) := ⟨y5.toNat, rfl, by omega⟩
      obtain ⟨nz8, hnz8, rfl⟩ : ∃ zz : Nat, zz = 1 + k ∧ y6 = ((zz : Nat) : Int) := ⟨1 + k, rfl, by omega⟩
      exact ih _ (by omega) nz7 nz8 M rfl hq (by omega) (by omega) (by rw [show nz8 = k + 1 by omega, wyP, ← hpw, hPN]; omega) (by rw [show nz7 = a by omega]; have := step_d p hp6 a ha6 g hg hsa; omega)
theorem ct_Paper_placeOfWay {xs : Nat → Int} {L d : Nat} {sh : List (Nat × Nat)} {M0 : Nat → Nat → Int} (hd : 4 ≤ d) (hW : px_W0 <+: sh) (hF : px_Fx M0) (hG : px_RG sh M0)  {ρ : Nat → Int} (hR : rc M0 3 = ρ) (hρ : sp_ok ρ) {lw : List sp_C} {g : Nat} (hg : g < 16) (hdst : M0 175 18 = ((g : Nat) : Int)) {p0 : Nat} (hp0 : ρ 8 = ((p0 : Nat) : Int)) (hp16 : p0 < 16) (hbk : ∀ q, q < 16 → M0 185 q = if q = g then 0 else sp_bk lw ρ q) (hah : ∀ q : Nat, q < 16 → (aw q g ≤ aw p0 g → M0 186 q = wls (sp_bk lw ρ) g q) ∧ (0 ≤ M0 186 q ∧ M0 186 q ≤ 1000000)) {i : Nat} (hi : (i : Int) < aw p0 g) : ∃ v M, (px_qk sh [] M0 M ∧ (v = ((wyP (sp_bk lw ρ) g p0 (i + 1) : Nat) : Int))) ∧ px_Cl xs L d 157 [.ref 175, .int (iI (((i : Nat) : Int)))] (sh, M0) (some (.int (iI v))) (sh, M) := by
  obtain ⟨d, rfl⟩ : ∃ e, d = e + 1 := ⟨d - 1, by omega⟩
  have q0 : px_qk sh [] M0 M0 := ⟨hF, hG, eo_rf⟩
  have a6 := aw_rg (p := (p0 : Int)) (q := (g : Int)) (by omega) (by omega)
  refine vc_i (Nat.le_of_ble_eq_true rfl) ?_
  show px_R xs L d 157 (0, [.ref 175, .int (iI (((i : Nat) : Int))), px_jk, px_jk], [], (sh, M0)) (fun r h' => ∃ v M', r = some (.int (iI v)) ∧ h' = (sh, M') ∧ px_qk sh [] M0 M' ∧ v = ((wyP (sp_bk lw ρ) g p0 (i + 1) : Nat) : Int))
  refine rr_aload_n pf_157_0 rfl ?_
  refine rr_getR pf_157_1 po_157 pg_2_65 rfl (ws_175 hW) (by decide) (wr_175_3 q0.1) ?_
  refine rr_getR pf_157_4 po_157 pg_2_88 rfl (ws_3 hW) (by decide) (wr_3_0 q0.1) ?_
  refine vr_getI q0 pf_157_7 po_157 pg_2_194 rfl (ws_4 hW) (by decide) (fun x1 hx1 rx1 => ?_)
  change x1 = rc M0 3 8 at hx1
  rw [hR, hp0] at hx1
  refine rr_istore_n pf_157_10 (fun y => [.ref 175, .int (iI (((i : Nat) : Int))), .int (iI (y)), px_jk]) (Nat.le_of_ble_eq_true rfl) (fun _ => rfl) (fun y2 hy2 => ?_)
  have ry2 : rg y2 := hy2 ▸ rx1
  refine rr_iconst pf_157_11 ?_
  refine rr_istore_n pf_157_12 (fun y => [.ref 175, .int (iI (((i : Nat) : Int))), .int (iI (y2)), .int (iI (y))]) (Nat.le_of_ble_eq_true rfl) (fun _ => rfl) (fun y3 hy3 => ?_)
  obtain ⟨nz4, hnz4, rfl⟩ : ∃ zz : Nat, zz = y2.toNat ∧ y2 = ((zz : Nat) : Int) := ⟨y2.toNat, rfl, by omega⟩
  obtain ⟨nz5, hnz5, rfl⟩ : ∃ zz : Nat, zz = 0 ∧ y3 = ((zz : Nat) : Int) := ⟨0, rfl, by omega⟩
  refine lp_Paper_placeOfWay_13 (xs := xs) (L := L) (d := d) (by omega) hW hR hρ hg hdst hp0 hp16 hbk hah hi (fun p_6 k_7  M8 q9 xp_M8 x6_M8 => ?_) _ nz4 nz5 M0 rfl q0 (by omega) (by omega) (by rw [show nz5 = 0 by omega, show nz4 = p0 by omega]; rfl) (by rw [show nz4 = p0 by omega]; omega)
  refine rr_iload_n pf_157_30 rfl ?_
  refine rr_iret pf_157_31 pt_157 ⟨_, M8, rfl, rfl, q9, (by rw [← xp_M8])⟩
theorem lp_Paper_prepareWay_7 {xs : Nat → Int} {L d : Nat} {sh : List (Nat × Nat)} (hd : 8 ≤ d) (hW : px_W0 <+: sh) {M0 : Nat → Nat → Int}  {ρ : Nat → Int} (hR : rc M0 3 = ρ) (hρ : sp_ok ρ) {lw : List sp_C} (hlw : px_lw sh M0 3 lw) {g : Nat} (hg : g < 16) {p0 : Nat} (hp0 : ρ 8 = ((p0 : Nat) : Int)) (hp16 : p0 < 16)  {Q : Option Value → px_H → Prop} (kx : ∀ (p : Nat) (v3 : Value) (v4 : Value) (M : Nat → Nat → Int), px_qk sh [2, 13, 175, 185, 186] M0 M → (fk 175 [18] M0 M) → (∀ q, q < 16 → M 185 q = if q = g then 0 else sp_bk lw ρ q) → (M 175 18 = ((g : Nat) : Int)) → px_R xs L d 154 (46, [.ref 175, .int (iI (((g : Nat) : Int))), .int (iI (((p : Nat) : Int))), v3, v4], [], (sh, M)) Q)  : ∀ (mz : Nat) (p : Nat) (v3 : Value) (v4 : Value) (M : Nat → Nat → Int), 16 - p = mz → px_qk sh [2, 13, 175, 185, 186] M0 M → (fk 175 [18] M0 M) → (p ≤ 16) → (M 175 18 = ((g : Nat) : Int)) → (∀ q, q < p → M 185 q = if q = g then 0 else sp_bk lw ρ q) → px_R xs L d 154 (7, [.ref 175, .int (iI (((g : Nat) : Int))), .int (iI (((p : Nat) : Int))), v3, v4], [], (sh, M)) Q := by
  intro mz
  induction mz using Nat.strongRecOn with
  | _ mz ih =>
    intro p v3 v4 M hm hq hrq hp6 hdst hbk
    refine rr_iload_n pf_154_7 rfl ?_
    refine rr_bipush pf_154_8 (by decide) ?_
    refine rr_icmp_ge 46 pf_154_10 (by decide) (by unfold rg; omega) (by unfold rg; omega) (fun c1 => ?_) (fun c1 => ?_)
    · exact kx p _ _ M hq (hrq) (by intro q hq6; exact hbk q (by omega)) (hdst)
    · refine rr_aload_n pf_154_13 rfl ?_
      refine rr_getR pf_154_14 po_154 pg_2_46 rfl (ws_175 hW) (by decide) (wr_175_13 hq.1) ?_
      refine rr_iload_n pf_154_17 rfl ?_
      refine rr_iload_n pf_154_18 rfl ?_
      refine rr_iload_n pf_154_19 rfl ?_
      refine rr_icmp_eq 38 pf_154_20 (by decide) (by unfold rg; omega) (by unfold rg; omega) (fun c2 => ?_) (fun c2 => ?_)
      · refine rr_iconst pf_154_38 ?_
        refine vr_iast (j := p) hW hq pf_154_39 (ws_185 hW) (by omega) (by omega) (by decide) (by unfold rg; omega) (by decide) (fun M3 eM3 q4 => ?_)
        have rq5 := fk_ne hrq eM3 (by decide)
        refine rr_iinc pf_154_40 rfl (fun y => [.ref 175, .int (iI (((g : Nat) : Int))), .int (iI (y)), v3, v4]) (fun _ => rfl) (fun y6 hy6 => ?_)
        refine rr_goto 7 pf_154_43 (by decide) ?_
        obtain ⟨nz7, hnz7, rfl⟩ : ∃ zz : Nat, zz = 1 + p ∧ y6 = ((zz : Nat) : Int) := ⟨1 + p, rfl, by omega⟩
        exact ih _ (by omega) nz7 _ _ M3 rfl q4 (rq5) (by omega) (by rw [eM3, ask_ne (by decide)]; exact hdst) (by
                      intro q hq6; rw [eM3, ask_up]; by_cases hz : q = p
                      · rw [if_pos hz, hz, if_pos (by omega)]
                      · rw [if_neg hz, hbk q (by omega)])
      · refine rr_aload_n pf_154_23 rfl ?_
        refine rr_getR pf_154_24 po_154 pg_2_65 rfl (ws_175 hW) (by decide) (wr_175_3 hq.1) ?_
        refine rr_iload_n pf_154_27 rfl ?_
        obtain ⟨M8, kq9, hcM8⟩ := ct_Church_isBlack (xs := xs) (L := L) (d := d) (cb := 3) (p := p) (by omega) hW hq.1 hq.2.1 (show px_ch 3 by unfold px_ch; decide) (show sp_ok (rc M 3) from by rw [((rc_eo hq.2.2 (by decide)).trans hR)]; exact hρ) (lw_eo hlw hq.2.2 (by decide) (by decide) (by decide)) (by omega)
        rw [((rc_eo hq.2.2 (by decide)).trans hR)] at hcM8
        have q9 := qk_trm hq kq9 (by decide)
        have rq10 := fk_q hrq kq9 (by decide)
        refine rr_cV1 pf_154_28 po_154 pc_2_197 (ws_3 hW) po_34 (by decide) rfl hcM8 ?_
        refine rr_ifb_eq 38 pf_154_31 (by decide) (fun c11 => ?_) (fun c11 => ?_)
        · have hbl := c11
          refine rr_iconst pf_154_38 ?_
          refine vr_iast (j := p) hW q9 pf_154_39 (ws_185 hW) (by omega) (by omega) (by decide) (by unfold rg; omega) (by decide) (fun M12 eM12 q13 => ?_)
          have rq14 := fk_ne rq10 eM12 (by decide)
          refine rr_iinc pf_154_40 rfl (fun y => [.ref 175, .int (iI (((g : Nat) : Int))), .int (iI (y)), v3, v4]) (fun _ => rfl) (fun y15 hy15 => ?_)
          refine rr_goto 7 pf_154_43 (by decide) ?_
          obtain ⟨nz16, hnz16, rfl⟩ : ∃ zz : Nat, zz = 1 + p ∧ y15 = ((zz : Nat) : Int) := ⟨1 + p, rfl, by omega⟩
          exact ih _ (by omega) nz16 _ _ M12 rfl q13 (rq14) (by omega) (by rw [eM12, ask_ne (by decide), kq9.2.2 175 (by decide)]; exact hdst) (by
                          intro q hq6; rw [eM12, ask_up]; by_cases hz : q = p
                          · rw [if_pos hz, hz, if_neg (by omega)]; unfold sp_bk; rw [if_neg hbl]
                          · rw [if_neg hz, kq9.2.2 185 (by decide), hbk q (by omega)])
        · have hbl := c11
          refine rr_iconst pf_154_34 ?_
          refine rr_goto 39 pf_154_35 (by decide) ?_
          refine vr_iast (j := p) hW q9 pf_154_39 (ws_185 hW) (by omega) (by omega) (by decide) (by unfold rg; omega) (by decide) (fun M17 eM17 q18 => ?_)
          have rq19 := fk_ne rq10 eM17 (by decide)
          refine rr_iinc pf_154_40 rfl (fun y => [.ref 175, .int (iI (((g : Nat) : Int))), .int (iI (y)), v3, v4]) (fun _ => rfl) (fun y20 hy20 => ?_)
          refine rr_goto 7 pf_154_43 (by decide) ?_
          obtain ⟨nz21, hnz21, rfl⟩ : ∃ zz : Nat, zz = 1 + p ∧ y20 = ((zz : Nat) : Int) := ⟨1 + p, rfl, by omega⟩
          exact ih _ (by omega) nz21 _ _ M17 rfl q18 (rq19) (by omega) (by rw [eM17, ask_ne (by decide), kq9.2.2 175 (by decide)]; exact hdst) (by
                          intro q hq6; rw [eM17, ask_up]; by_cases hz : q = p
                          · rw [if_pos hz, hz, if_neg (by omega)]; unfold sp_bk; rw [if_pos hbl]
                          · rw [if_neg hz, kq9.2.2 185 (by decide), hbk q (by omega)])
theorem lp_Paper_prepareWay_87 {xs : Nat → Int} {L d : Nat} {sh : List (Nat × Nat)} (hd : 8 ≤ d) (hW : px_W0 <+: sh) {M0 : Nat → Nat → Int}  {ρ : Nat → Int} (hR : rc M0 3 = ρ) (hρ : sp_ok ρ) {lw : List sp_C} (hlw : px_lw sh M0 3 lw) {g : Nat} (hg : g < 16) {p0 : Nat} (hp0 : ρ 8 = ((p0 : Nat) : Int)) (hp16 : p0 < 16) {sp far : Nat} (hf1 : 1 ≤ far ∧ far ≤ 6) {Q : Option Value → px_H → Prop} (kx : ∀ (p : Nat) (M : Nat → Nat → Int), px_qk sh [2, 13, 175, 185, 186] M0 M → (fk 175 [18] M0 M) → (∀ q, q < 16 → M 185 q = if q = g then 0 else sp_bk lw ρ q) → (M 175 18 = ((g : Nat) : Int)) → (∀ q : Nat, q < 16 → (aw q g < far + 1 → M 186 q = wls (sp_bk lw ρ) g q) ∧ (0 ≤ M 186 q ∧ M 186 q ≤ 1000000)) → px_R xs L d 154 (123, [.ref 175, .int (iI (((g : Nat) : Int))), .int (iI (((sp : Nat) : Int))), .int (iI (((far : Nat) : Int))), .int (iI (((p : Nat) : Int)))], [], (sh, M)) Q)  : ∀ (mz : Nat) (p : Nat) (M : Nat → Nat → Int), 16 - p = mz → px_qk sh [2, 13, 175, 185, 186] M0 M → (fk 175 [18] M0 M) → (p ≤ 16) → (∀ q, q < 16 → M 185 q = if q = g then 0 else sp_bk lw ρ q) → (M 175 18 = ((g : Nat) : Int)) → (∀ q : Nat, q < 16 → (aw q g < far ∨ (aw q g = far ∧ q < p) → M 186 q = wls (sp_bk lw ρ) g q) ∧ (0 ≤ M 186 q ∧ M 186 q ≤ 1000000)) → px_R xs L d 154 (87, [.ref 175, .int (iI (((g : Nat) : Int))), .int (iI (((sp : Nat) : Int))), .int (iI (((far : Nat) : Int))), .int (iI (((p : Nat) : Int)))], [], (sh, M)) Q := by
  intro mz
  induction mz using Nat.strongRecOn with
  | _ mz ih =>
    intro p M hm hq hrq hp6 hbk hdst hah
    have hap := fun (h : p < 16) => aw_rg (p := (p : Int)) (q := (g : Int)) (by omega) (by omega)
    refine rr_iload pf_154_87 rfl ?_
    refine rr_bipush pf_154_89 (by decide) ?_
    refine rr_icmp_ge 123 pf_154_91 (by decide) (by unfold rg; omega) (by unfold rg; omega) (fun c1 => ?_) (fun c1 => ?_)
    · exact kx p M hq (hrq) (hbk) (hdst) (by intro q hq6; exact ⟨fun z => (hah q hq6).1 (by omega), (hah q hq6).2⟩)
    · have hap := hap (by omega)
      refine rr_iload pf_154_94 rfl ?_
      refine rr_iload_n pf_154_96 rfl ?_
      refine rr_cS2 pf_154_97 po_154 pc_2_200 (by decide) rfl (ct_S_distance (by omega) (by omega) (by omega)) ?_
      refine rr_iload_n pf_154_100 rfl ?_
      refine rr_icmp_ne 117 pf_154_101 (by decide) (by unfold rg; omega) (by unfold rg; omega) (fun c2 => ?_) (fun c2 => ?_)
      · refine rr_iinc pf_154_117 rfl (fun y => [.ref 175, .int (iI (((g : Nat) : Int))), .int (iI (((sp : Nat) : Int))), .int (iI (((far : Nat) : Int))), .int (iI (y))]) (fun _ => rfl) (fun y3 hy3 => ?_)
        refine rr_goto 87 pf_154_120 (by decide) ?_
        obtain ⟨nz4, hnz4, rfl⟩ : ∃ zz : Nat, zz = 1 + p ∧ y3 = ((zz : Nat) : Int) := ⟨1 + p, rfl, by omega⟩
        exact ih _ (by omega) nz4 M rfl hq (hrq) (by omega) (hbk) (hdst) (by
                      intro q hq6; refine ⟨fun z => (hah q hq6).1 ?_, (hah q hq6).2⟩; rcases (show q = p ∨ q ≠ p by omega) with y | y
                      · subst y; left; omega
                      · omega)
      · have hpg : p ≠ g := fun z => by have := (aw_0 p (by omega) g hg).mpr z; omega
        refine rr_aload_n pf_154_104 rfl ?_
        refine rr_getR pf_154_105 po_154 pg_2_49 rfl (ws_175 hW) (by decide) (wr_175_14 hq.1) ?_
        refine rr_iload pf_154_108 rfl ?_
        refine rr_aload_n pf_154_110 rfl ?_
        refine rr_iload pf_154_111 rfl ?_
        obtain ⟨r7, M5, ⟨kq6, pv_M5, pb_M5⟩, hcM5⟩ := ct_Paper_fewestBlackAhead (xs := xs) (L := L) (d := d) (p := p) (g := g) (by omega) hW hq.1 hq.2.1 hg hdst (by omega) (fun q hq6 => ⟨(hah q hq6).2, by rw [hbk q hq6]; have := bk_b lw ρ q; split <;> omega⟩)
        obtain rfl := qk_nil kq6
        refine rr_cV1 pf_154_113 po_154 pc_2_203 (ws_175 hW) po_155 (by decide) rfl hcM5 ?_
        refine vr_iast (j := p) hW hq pf_154_116 (ws_186 hW) (by omega) (by omega) (by decide) (by unfold rg; omega) (by decide) (fun M8 eM8 q9 => ?_)
        have rq10 := fk_ne hrq eM8 (by decide)
        refine rr_iinc pf_154_117 rfl (fun y => [.ref 175, .int (iI (((g : Nat) : Int))), .int (iI (((sp : Nat) : Int))), .int (iI (((far : Nat) : Int))), .int (iI (y))]) (fun _ => rfl) (fun y11 hy11 => ?_)
        refine rr_goto 87 pf_154_120 (by decide) ?_
        obtain ⟨nz12, hnz12, rfl⟩ : ∃ zz : Nat, zz = 1 + p ∧ y11 = ((zz : Nat) : Int) := ⟨1 + p, rfl, by omega⟩
        exact ih _ (by omega) nz12 M8 rfl q9 (rq10) (by omega) (by intro q hq6; rw [eM8, ask_ne (by decide)]; exact hbk q hq6) (by rw [eM8, ask_ne (by decide)]; exact hdst) (by
                      intro q hq6
                      rw [eM8, ask_up]
                      by_cases hz : q = p
                      · rw [if_pos hz, hz]
                        refine ⟨fun _ => ?_, by omega⟩
                        rw [wls_eq (by omega) hg hpg, pv_M5]
                        refine lsF_congr 16 (fun q2 hq2 hs => ?_)
                        have hs2 := step_d p (by omega) q2 hq2 g hg hs
                        show M 186 q2 + M 185 q2 = _
                        rw [(hah q2 hq2).1 (by omega), hbk q2 hq2]
                        unfold wlv wls
                        rfl
                      · rw [if_neg hz]
                        exact ⟨fun z => (hah q hq6).1 (by omega), (hah q hq6).2⟩)
theorem lp_Paper_prepareWay_79 {xs : Nat → Int} {L d : Nat} {sh : List (Nat × Nat)} (hd : 8 ≤ d) (hW : px_W0 <+: sh) {M0 : Nat → Nat → Int}  {ρ : Nat → Int} (hR : rc M0 3 = ρ) (hρ : sp_ok ρ) {lw : List sp_C} (hlw : px_lw sh M0 3 lw) {g : Nat} (hg : g < 16) {p0 : Nat} (hp0 : ρ 8 = ((p0 : Nat) : Int)) (hp16 : p0 < 16) {sp : Nat} (hsp : ((sp : Nat) : Int) = aw p0 g) {Q : Option Value → px_H → Prop} (kx : ∀ (far : Nat) (v4 : Value) (M : Nat → Nat → Int), px_qk sh [2, 13, 175, 185, 186] M0 M → (fk 175 [18] M0 M) → (∀ q, q < 16 → M 185 q = if q = g then 0 else sp_bk lw ρ q) → (M 175 18 = ((g : Nat) : Int)) → (∀ q : Nat, q < 16 → (aw q g ≤ aw p0 g → M 186 q = wls (sp_bk lw ρ) g q) ∧ (0 ≤ M 186 q ∧ M 186 q ≤ 1000000)) → px_R xs L d 154 (129, [.ref 175, .int (iI (((g : Nat) : Int))), .int (iI (((sp : Nat) : Int))), .int (iI (((far : Nat) : Int))), v4], [], (sh, M)) Q)  : ∀ (mz : Nat) (far : Nat) (v4 : Value) (M : Nat → Nat → Int), 7 - far = mz → px_qk sh [2, 13, 175, 185, 186] M0 M → (fk 175 [18] M0 M) → (1 ≤ far ∧ far ≤ sp + 1) → (∀ q, q < 16 → M 185 q = if q = g then 0 else sp_bk lw ρ q) → (M 175 18 = ((g : Nat) : Int)) → (∀ q : Nat, q < 16 → (aw q g < far → M 186 q = wls (sp_bk lw ρ) g q) ∧ (0 ≤ M 186 q ∧ M 186 q ≤ 1000000)) → px_R xs L d 154 (79, [.ref 175, .int (iI (((g : Nat) : Int))), .int (iI (((sp : Nat) : Int))), .int (iI (((far : Nat) : Int))), v4], [], (sh, M)) Q := by
  intro mz
  induction mz using Nat.strongRecOn with
  | _ mz ih =>
    intro far v4 M hm hq hrq hf hbk hdst hah
    have hsr := aw_rg (p := (p0 : Int)) (q := (g : Int)) (by omega) (by omega)
    refine rr_iload_n pf_154_79 rfl ?_
    refine rr_iload_n pf_154_80 rfl ?_
    refine rr_icmp_gt 129 pf_154_81 (by decide) (by unfold rg; omega) (by unfold rg; omega) (fun c1 => ?_) (fun c1 => ?_)
    · exact kx far _ M hq (hrq) (hbk) (hdst) (by intro q hq6; exact ⟨fun z => (hah q hq6).1 (by omega), (hah q hq6).2⟩)
    · refine rr_iconst pf_154_84 ?_
      refine rr_istore pf_154_85 (fun y => [.ref 175, .int (iI (((g : Nat) : Int))), .int (iI (((sp : Nat) : Int))), .int (iI (((far : Nat) : Int))), .int (iI (y))]) (Nat.le_of_ble_eq_true rfl) (fun _ => rfl) (fun y2 hy2 => ?_)
      obtain ⟨nz3, hnz3, rfl⟩ : ∃ zz : Nat, zz = 0 ∧ y2 = ((zz : Nat) : Int) := ⟨0, rfl, by omega⟩
      refine lp_Paper_prepareWay_87 (xs := xs) (L := L) (d := d) (by omega) hW hR hρ hlw hg hp0 hp16 (by omega) (fun p_4  M5 q6 xrq_M5 xbk_M5 xdst_M5 xah_M5 => ?_) _ nz3 M rfl hq (hrq) (by omega) (hbk) (hdst) (by intro q hq6; exact ⟨fun z => (hah q hq6).1 (by omega), (hah q hq6).2⟩)
      refine rr_iinc pf_154_123 rfl (fun y => [.ref 175, .int (iI (((g : Nat) : Int))), .int (iI (((sp : Nat) : Int))), .int (iI (y)), .int (iI (((p_4 : Nat) : Int)))]) (fun _ => rfl) (fun y7 hy7 => ?_)
      refine rr_goto 79 pf_154_126 (by decide) ?_
      obtain ⟨nz8, hnz8, rfl⟩ : ∃ zz : Nat, zz = 1 + far ∧ y7 = ((zz : Nat) : Int) := ⟨1 + far, rfl, by omega⟩
      exact ih _ (by omega) nz8 _ M5 rfl q6 (xrq_M5) (by omega) (xbk_M5) (xdst_M5) (by intro q hq6; exact ⟨fun z => (xah_M5 q hq6).1 (by omega), (xah_M5 q hq6).2⟩)
theorem ct_Paper_prepareWay {xs : Nat → Int} {L d : Nat} {sh : List (Nat × Nat)} {M0 : Nat → Nat → Int} (hd : 9 ≤ d) (hW : px_W0 <+: sh) (hF : px_Fx M0) (hG : px_RG sh M0)  {ρ : Nat → Int} (hR : rc M0 3 = ρ) (hρ : sp_ok ρ) {lw : List sp_C} (hlw : px_lw sh M0 3 lw) {g : Nat} (hg : g < 16) {p0 : Nat} (hp0 : ρ 8 = ((p0 : Nat) : Int)) (hp16 : p0 < 16) : ∃ v M, (px_qk sh [2, 13, 175, 185, 186] M0 M ∧ (v = wls (sp_bk lw ρ) g p0) ∧ (∀ q, q < 16 → M 185 q = if q = g then 0 else sp_bk lw ρ q) ∧ (M 175 18 = ((g : Nat) : Int)) ∧ (∀ q : Nat, q < 16 → (aw q g ≤ aw p0 g → M 186 q = wls (sp_bk lw ρ) g q) ∧ (0 ≤ M 186 q ∧ M 186 q ≤ 1000000)) ∧ (fk 175 [18] M0 M)) ∧ px_Cl xs L d 154 [.ref 175, .int (iI (((g : Nat) : Int)))] (sh, M0) (some (.int (iI v))) (sh, M) := by
  obtain ⟨d, rfl⟩ : ∃ e, d = e + 1 := ⟨d - 1, by omega⟩
  have q0 : px_qk sh [2, 13, 175, 185, 186] M0 M0 := ⟨hF, hG, eo_rf⟩
  refine vc_i (Nat.le_of_ble_eq_true rfl) ?_
  show px_R xs L d 154 (0, [.ref 175, .int (iI (((g : Nat) : Int))), px_jk, px_jk, px_jk], [], (sh, M0)) (fun r h' => ∃ v M', r = some (.int (iI v)) ∧ h' = (sh, M') ∧ px_qk sh [2, 13, 175, 185, 186] M0 M' ∧ v = wls (sp_bk lw ρ) g p0 ∧ (∀ q, q < 16 → M' 185 q = if q = g then 0 else sp_bk lw ρ q) ∧ M' 175 18 = ((g : Nat) : Int) ∧ (∀ q : Nat, q < 16 → (aw q g ≤ aw p0 g → M' 186 q = wls (sp_bk lw ρ) g q) ∧ (0 ≤ M' 186 q ∧ M' 186 q ≤ 1000000)) ∧ fk 175 [18] M0 M')
  refine rr_aload_n pf_154_0 rfl ?_
  refine rr_iload_n pf_154_1 rfl ?_
  refine vr_putI hW q0 pf_154_2 po_154 pg_2_62 (Or.inl rfl) rfl (ws_175 hW) (by decide) (by unfold rg; omega) (by decide) (fun M1 eM1 q2 => ?_)
  have rq3 := fk_up (fk_rf 175 [18] M0) eM1 (by decide)
  refine rr_iconst pf_154_5 ?_
  refine rr_istore_n pf_154_6 (fun y => [.ref 175, .int (iI (((g : Nat) : Int))), .int (iI (y)), px_jk, px_jk]) (Nat.le_of_ble_eq_true rfl) (fun _ => rfl) (fun y4 hy4 => ?_)
  obtain ⟨nz5, hnz5, rfl⟩ : ∃ zz : Nat, zz = 0 ∧ y4 = ((zz : Nat) : Int) := ⟨0, rfl, by omega⟩
  refine lp_Paper_prepareWay_7 (xs := xs) (L := L) (d := d) (by omega) hW hR hρ hlw hg hp0 hp16 (fun p_6 v9 v10 M7 q8 xrq_M7 xbk_M7 xdst_M7 => ?_) _ nz5 _ _ M1 rfl q2 (rq3) (by omega) (by rw [eM1, up_s]) (by intro q hq6; exfalso; omega)
  refine rr_aload_n pf_154_46 rfl ?_
  refine rr_getR pf_154_47 po_154 pg_2_65 rfl (ws_175 hW) (by decide) (wr_175_3 q8.1) ?_
  refine rr_getR pf_154_50 po_154 pg_2_88 rfl (ws_3 hW) (by decide) (wr_3_0 q8.1) ?_
  refine vr_getI q8 pf_154_53 po_154 pg_2_194 rfl (ws_4 hW) (by decide) (fun x11 hx11 rx11 => ?_)
  rw [q8.2.2 4 (by decide)] at hx11
  change x11 = rc M0 3 8 at hx11
  rw [hR, hp0] at hx11
  subst hx11
  refine rr_iload_n pf_154_56 rfl ?_
  refine rr_cS2 pf_154_57 po_154 pc_2_200 (by decide) rfl (ct_S_distance (by omega) (by omega) (by omega)) ?_
  refine rr_istore_n pf_154_60 (fun y => [.ref 175, .int (iI (((g : Nat) : Int))), .int (iI (y)), v9, v10]) (Nat.le_of_ble_eq_true rfl) (fun _ => rfl) (fun y12 hy12 => ?_)
  refine rr_aload_n pf_154_61 rfl ?_
  refine rr_getR pf_154_62 po_154 pg_2_49 rfl (ws_175 hW) (by decide) (wr_175_14 q8.1) ?_
  refine rr_ldc pf_154_65 po_154 pk_2_105 ?_
  have hcF15 := ct_Arrays_fillI (xs := xs) (L := L) (d := d) (a := 186) (n := 16) (M := M7) (v := (1000000)) (by omega) (ws_186 hW) (by decide) (by unfold rg; omega)
  have q14 := qk_fillI hW q8 (x := (1000000)) (ws_186 hW) (by unfold rg; omega) (by decide)
  obtain ⟨M13, eM13⟩ : ∃ z, z = px_cl M7 186 (fun j => if j < 16 then (1000000) else M7 186 j) := ⟨_, rfl⟩
  rw [← eM13] at hcF15 q14
  have fM13 : ∀ j, j < 16 → M13 186 j = (1000000) := fun j hj => by rw [eM13]; unfold px_cl; rw [if_pos rfl]; exact if_pos hj
  have gM13 : ∀ b, b ≠ 186 → M13 b = M7 b := fun b hb => by rw [eM13]; unfold px_cl; funext j; rw [if_neg hb]
  have rq16 : fk 175 [18] M0 M13 := fun j hj => by rw [gM13 _ (by decide)]; exact xrq_M7 j hj
  refine rr_cS2 pf_154_67 po_154 pc_2_133 (by decide) rfl hcF15 ?_
  refine rr_aload_n pf_154_70 rfl ?_
  refine rr_getR pf_154_71 po_154 pg_2_49 rfl (ws_175 hW) (by decide) (wr_175_14 q14.1) ?_
  refine rr_iload_n pf_154_74 rfl ?_
  refine rr_iconst pf_154_75 ?_
  refine vr_iast (j := g) hW q14 pf_154_76 (ws_186 hW) (by omega) (by omega) (by decide) (by unfold rg; omega) (by decide) (fun M17 eM17 q18 => ?_)
  have rq19 := fk_ne rq16 eM17 (by decide)
  refine rr_iconst pf_154_77 ?_
  refine rr_istore_n pf_154_78 (fun y => [.ref 175, .int (iI (((g : Nat) : Int))), .int (iI (y12)), .int (iI (y)), v10]) (Nat.le_of_ble_eq_true rfl) (fun _ => rfl) (fun y20 hy20 => ?_)
  have hsr := aw_rg (p := (p0 : Int)) (q := (g : Int)) (by omega) (by omega)
  obtain ⟨sp, rfl⟩ : ∃ z : Nat, y12 = ((z : Nat) : Int) := ⟨y12.toNat, by omega⟩
  have hspx : ((sp : Nat) : Int) = aw p0 g := by omega
  obtain ⟨nz21, hnz21, rfl⟩ : ∃ zz : Nat, zz = 1 ∧ y20 = ((zz : Nat) : Int) := ⟨1, rfl, by omega⟩
  refine lp_Paper_prepareWay_79 (xs := xs) (L := L) (d := d) (by omega) hW hR hρ hlw hg hp0 hp16 hspx (fun far_22 v25 M23 q24 xrq_M23 xbk_M23 xdst_M23 xah_M23 => ?_) _ nz21 _ M17 rfl q18 (rq19) (by omega) (by intro q hq6; rw [eM17, ask_ne (by decide), gM13 185 (by decide)]; exact xbk_M7 q hq6) (by rw [eM17, ask_ne (by decide), gM13 175 (by decide)]; exact xdst_M7) (by
          intro q hq6; rw [eM17, ask_up]; by_cases hz : q = g
          · rw [if_pos hz, hz]; refine ⟨fun _ => ?_, by omega⟩; unfold wls; rw [(aw_0 g hg g hg).mpr rfl]; rfl
          · rw [if_neg hz, fM13 q hq6]; refine ⟨fun z => ?_, by omega⟩; exfalso; have := (aw_0 q hq6 g hg).mp (by have := aw_rg (p := (q : Int)) (q := (g : Int)) (by omega) (by omega); omega); omega)
  refine rr_aload_n pf_154_129 rfl ?_
  refine rr_getR pf_154_130 po_154 pg_2_49 rfl (ws_175 hW) (by decide) (wr_175_14 q24.1) ?_
  refine rr_aload_n pf_154_133 rfl ?_
  refine rr_getR pf_154_134 po_154 pg_2_65 rfl (ws_175 hW) (by decide) (wr_175_3 q24.1) ?_
  refine rr_getR pf_154_137 po_154 pg_2_88 rfl (ws_3 hW) (by decide) (wr_3_0 q24.1) ?_
  refine vr_getI q24 pf_154_140 po_154 pg_2_194 rfl (ws_4 hW) (by decide) (fun x26 hx26 rx26 => ?_)
  rw [q24.2.2 4 (by decide)] at hx26
  change x26 = rc M0 3 8 at hx26
  rw [hR, hp0] at hx26
  refine vr_iald (j := p0) q24 pf_154_143 (ws_186 hW) (by omega) (by omega) (by decide) (fun x27 hx27 rx27 => ?_)
  refine rr_iret pf_154_144 pt_154 ⟨_, M23, rfl, rfl, q24, (by rw [hx27, (xah_M23 p0 hp16).1 (Int.le_refl _)]), (xbk_M23), (xdst_M23), (xah_M23), (xrq_M23)⟩
theorem ct_S_way {xs : Nat → Int} {L d : Nat} {sh : List (Nat × Nat)} {M0 : Nat → Nat → Int} (hd : 10 ≤ d) (hW : px_W0 <+: sh) (hF : px_Fx M0) (hG : px_RG sh M0)  {ρ : Nat → Int} (hR : rc M0 3 = ρ) (hρ : sp_ok ρ) {lw : List sp_C} (hlw : px_lw sh M0 3 lw) {p0 : Nat} (hp0 : ρ 8 = ((p0 : Nat) : Int)) (hp16 : p0 < 16) {gi i : Int} (hg0 : rg gi) (hi0 : rg i) : ∃ v M, (px_qk sh [2, 13, 175, 185, 186] M0 M ∧ (v = sp_way lw ρ gi i) ∧ (fk 175 [18] M0 M)) ∧ px_Cl xs L d 153 [.ref 0, .int (iI (gi)), .int (iI (i))] (sh, M0) (some (.int (iI v))) (sh, M) := by
  obtain ⟨d, rfl⟩ : ∃ e, d = e + 1 := ⟨d - 1, by omega⟩
  have q0 : px_qk sh [2, 13, 175, 185, 186] M0 M0 := ⟨hF, hG, eo_rf⟩
  refine vc_i (Nat.le_of_ble_eq_true rfl) ?_
  show px_R xs L d 153 (0, [.ref 0, .int (iI (gi)), .int (iI (i)), px_jk], [], (sh, M0)) (fun r h' => ∃ v M', r = some (.int (iI v)) ∧ h' = (sh, M') ∧ px_qk sh [2, 13, 175, 185, 186] M0 M' ∧ v = sp_way lw ρ gi i ∧ fk 175 [18] M0 M')
  refine rr_iload_n pf_153_0 rfl ?_
  refine rr_cS1 pf_153_1 po_153 pc_8_128 (by decide) rfl (ct_S_isPane (by omega) hg0) ?_
  refine rr_ifb_eq 21 pf_153_4 (by decide) (fun c1 => ?_) (fun c1 => ?_)
  · refine rr_iconst pf_153_21 ?_
    refine rr_iret pf_153_22 pt_153 ⟨_, M0, rfl, rfl, q0, (by unfold sp_way; rw [if_neg (by omega)]), ((fk_rf 175 [18] M0))⟩
  · refine rr_iload_n pf_153_7 rfl ?_
    refine rr_aload_n pf_153_8 rfl ?_
    refine rr_getR pf_153_9 po_153 pg_8_21 rfl (ws_0 hW) (by decide) (wr_0_1 q0.1) ?_
    refine rr_getR pf_153_12 po_153 pg_8_131 rfl (ws_3 hW) (by decide) (wr_3_0 q0.1) ?_
    refine vr_getI q0 pf_153_15 po_153 pg_8_325 rfl (ws_4 hW) (by decide) (fun x2 hx2 rx2 => ?_)
    change x2 = rc M0 3 8 at hx2
    rw [hR, hp0] at hx2
    refine rr_icmp_ne 23 pf_153_18 (by decide) hg0 rx2 (fun c3 => ?_) (fun c3 => ?_)
    · obtain ⟨g, rfl⟩ : ∃ z : Nat, gi = ((z : Nat) : Int) := ⟨gi.toNat, by omega⟩
      refine rr_aload_n pf_153_23 rfl ?_
      refine rr_getR pf_153_24 po_153 pg_8_57 rfl (ws_0 hW) (by decide) (wr_0_7 q0.1) ?_
      refine rr_iload_n pf_153_27 rfl ?_
      obtain ⟨r6, M4, ⟨kq5, pv_M4, pbk_M4, pdst_M4, pah_M4, pf_M4⟩, hcM4⟩ := ct_Paper_prepareWay (xs := xs) (L := L) (d := d) (g := g) (lw := lw) (by omega) hW q0.1 q0.2.1 hR hρ hlw (by omega) hp0 hp16
      have q5 := qk_trm q0 kq5 (by decide)
      have rq7 := fk_tr (fk_rf 175 [18] M0) pf_M4 (by decide)
      refine rr_cV1 pf_153_28 po_153 pc_8_328 (ws_175 hW) po_154 (by decide) rfl hcM4 ?_
      have hwb := bA_7 (bk_b lw ρ) (p := p0) (g := g) hp16 (by omega)
      refine rr_istore_n pf_153_31 (fun y => [.ref 0, .int (iI (((g : Nat) : Int))), .int (iI (i)), .int (iI (y))]) (Nat.le_of_ble_eq_true rfl) (fun _ => rfl) (fun y8 hy8 => ?_)
      refine rr_iload_n pf_153_32 rfl ?_
      refine rr_iconst pf_153_33 ?_
      refine rr_icmp_ne 39 pf_153_34 (by decide) hi0 (by unfold rg; omega) (fun c9 => ?_) (fun c9 => ?_)
      · refine rr_iload_n pf_153_39 rfl ?_
        refine rr_iconst pf_153_40 ?_
        refine rr_aload_n pf_153_41 rfl ?_
        refine rr_getR pf_153_42 po_153 pg_8_21 rfl (ws_0 hW) (by decide) (wr_0_1 q5.1) ?_
        refine rr_iload_n pf_153_45 rfl ?_
        have hz10 := ct_Church_awayOf (xs := xs) (L := L) (d := d) (cb := 3) (p := ((g : Nat) : Int)) (by omega) hW q5.1 q5.2.1 (show px_ch 3 by unfold px_ch; decide) (by omega) (show 0 ≤ rc M4 3 8 ∧ rc M4 3 8 < 16 from ((show sp_ok (rc M4 3) from by rw [((rc_eo q5.2.2 (by decide)).trans hR)]; exact hρ)).2.2.2.2.2.2.2.2.1)
        rw [show M4 (3 + 1) 3 = rc M0 3 8 from congrFun (rc_eo q5.2.2 (by decide)) 8] at hz10
        rw [hR] at hz10
        refine rr_cV1 pf_153_46 po_153 pc_8_146 (ws_3 hW) po_28 (by decide) rfl hz10 ?_
        have hac : aw ((g : Nat) : Int) (ρ 8) = aw p0 g := by rw [hp0]; exact aw_comm _ _
        have a6 := aw_rg (p := (p0 : Int)) (q := (g : Int)) (by omega) (by omega)
        refine rr_iconst pf_153_49 ?_
        refine rr_isub pf_153_50 ?_
        refine rr_cS3 pf_153_51 po_153 pc_8_95 (by decide) rfl (ct_S_within (by omega) hi0 (by unfold rg; omega) (by unfold rg; omega)) ?_
        refine rr_ifb_eq 68 pf_153_54 (by decide) (fun c11 => ?_) (fun c11 => ?_)
        · refine rr_iconst pf_153_68 ?_
          refine rr_iret pf_153_69 pt_153 ⟨_, M4, rfl, rfl, q5, (by
                          unfold sp_way; rw [hp0]; repeat' split
                          all_goals first | rfl | (exfalso; omega)), (rq7)⟩
        · refine rr_aload_n pf_153_57 rfl ?_
          refine rr_getR pf_153_58 po_153 pg_8_57 rfl (ws_0 hW) (by decide) (wr_0_7 q5.1) ?_
          refine rr_iload_n pf_153_61 rfl ?_
          obtain ⟨r14, M12, ⟨kq13, pv_M12⟩, hcM12⟩ := ct_Paper_placeOfWay (xs := xs) (L := L) (d := d) (i := i.toNat) (lw := lw) (g := g) (p0 := p0) (by omega) hW q5.1 q5.2.1 ((rc_eo q5.2.2 (by decide)).trans hR) hρ (by omega) pdst_M4 hp0 hp16 pbk_M4 pah_M4 (by omega)
          rw [show ((i.toNat : Nat) : Int) = i by omega] at hcM12
          obtain rfl := qk_nil kq13
          refine rr_cV1 pf_153_62 po_153 pc_8_331 (ws_175 hW) po_157 (by decide) rfl hcM12 ?_
          refine rr_goto 69 pf_153_65 (by decide) ?_
          refine rr_iret pf_153_69 pt_153 ⟨_, M4, rfl, rfl, q5, (by unfold sp_way; rw [hp0, show (((p0 : Nat) : Int)).toNat = p0 from Int.toNat_natCast _, show (((g : Nat) : Int)).toNat = g from Int.toNat_natCast _, if_pos (by omega), if_neg (by omega), if_pos (by omega), show (i + 1).toNat = i.toNat + 1 by omega]; exact pv_M12), (rq7)⟩
      · refine rr_iload_n pf_153_37 rfl ?_
        refine rr_iret pf_153_38 pt_153 ⟨_, M4, rfl, rfl, q5, (by unfold sp_way; rw [hp0, show (((p0 : Nat) : Int)).toNat = p0 from Int.toNat_natCast _, show (((g : Nat) : Int)).toNat = g from Int.toNat_natCast _, if_pos (by omega), if_pos (by omega)]; rw [← pv_M4]; assumption), (rq7)⟩
    · refine rr_iconst pf_153_21 ?_
      refine rr_iret pf_153_22 pt_153 ⟨_, M0, rfl, rfl, q0, (by unfold sp_way; rw [if_neg (by omega)]), ((fk_rf 175 [18] M0))⟩
