/-! sets of words -/
theorem tb_iff (s k : Nat) : ((s : Nat) : Int) / 2 ^ k % 2 = 1 ↔ s.testBit k = true := by
  rw [Nat.testBit_eq_decide_div_mod_eq, decide_eq_true_eq]
  have e : ((s : Nat) : Int) / 2 ^ k % 2 = ((s / 2 ^ k % 2 : Nat) : Int) := by simp
  rw [e]
  omega
theorem tb_01 (s k : Nat) : 0 ≤ ((s : Nat) : Int) / 2 ^ k % 2 ∧ ((s : Nat) : Int) / 2 ^ k % 2 ≤ 1 := by omega
def sp_gv (lw : List sp_C) (ρ : Nat → Int) (s p : Nat) (h : Int) : Nat → Int
  | 0 => 0
  | w + 1 => sp_gv lw ρ s p h w + (if s.testBit w = true ∧ (h = -1 ∨ ρ (69 + w) = h) then sp_stain lw ρ w p else 0)
theorem gv_b (lw : List sp_C) (ρ : Nat → Int) (s p : Nat) (h : Int) : ∀ n, 0 ≤ sp_gv lw ρ s p h n ∧ sp_gv lw ρ s p h n ≤ 20 * n := by
  intro n
  induction n with
  | zero => simp [sp_gv]
  | succ n ih => have := sp_stain_b lw ρ n p; simp only [sp_gv]; split <;> omega
def sp_fitN (lw : List sp_C) (ρ : Nat → Int) (n s : Nat) : Nat → Bool
  | 0 => true
  | k + 1 => sp_fitN lw ρ n s k && decide (sp_gv lw ρ s (ρ (85 + 3 * k)).toNat (ρ (85 + 3 * k + 1)) n = ρ (85 + 3 * k + 2))
theorem fit_f {lw : List sp_C} {ρ : Nat → Int} {n s k : Nat} (h : sp_fitN lw ρ n s k = false) : ∀ j, sp_fitN lw ρ n s (k + j) = false := by
  intro j
  induction j with
  | zero => exact h
  | succ j ih => rw [← Nat.add_assoc, sp_fitN, ih, Bool.false_and]
def sp_fit (lw : List sp_C) (ρ : Nat → Int) (n s : Nat) : Bool := sp_fitN lw ρ n s (ρ 2).toNat
def pcN (lw : List sp_C) (ρ : Nat → Int) (n : Nat) : Nat → Nat
  | 0 => 0
  | m + 1 => pcN lw ρ n m + (if sp_fit lw ρ n m = true then 1 else 0)
def pcI (lw : List sp_C) (ρ : Nat → Int) (n : Nat) (i : Int) : Nat → Int
  | 0 => -1
  | m + 1 => if sp_fit lw ρ n m = true ∧ ((pcN lw ρ n m : Nat) : Int) = i then ((m : Nat) : Int) else pcI lw ρ n i m
theorem pcN_le (lw : List sp_C) (ρ : Nat → Int) (n : Nat) : ∀ m, pcN lw ρ n m ≤ m := by
  intro m
  induction m with
  | zero => simp [pcN]
  | succ m ih => simp only [pcN]; split <;> omega
theorem pcI_b (lw : List sp_C) (ρ : Nat → Int) (n : Nat) (i : Int) : ∀ m, -1 ≤ pcI lw ρ n i m ∧ pcI lw ρ n i m < m := by
  intro m
  induction m with
  | zero => simp [pcI]
  | succ m ih => simp only [pcI]; split <;> omega
def sp_pch (lw : List sp_C) (ρ : Nat → Int) (i : Int) : Int := if i = -1 then ((pcN lw ρ (ρ 0).toNat (2 ^ (ρ 0).toNat) : Nat) : Int) else pcI lw ρ (ρ 0).toNat i (2 ^ (ρ 0).toNat)
theorem p2_b {n : Nat} (h : n ≤ 8) : 1 ≤ 2 ^ n ∧ 2 ^ n ≤ 256 := ⟨Nat.one_le_two_pow, Nat.pow_le_pow_right (by decide) h⟩
theorem ct_R_is {xs : Nat → Int} {L d : Nat} {sh : List (Nat × Nat)} {M0 : Nat → Nat → Int} (hd : 1 ≤ d) (hW : px_W0 <+: sh) (hF : px_Fx M0) (hG : px_RG sh M0)  {s k : Nat} (hs : s < 65536) (hk : k < 32) : ∃ M, (px_qk sh [] M0 M) ∧ px_Cl xs L d 273 [.int (iI (((s : Nat) : Int))), .int (iI (((k : Nat) : Int)))] (sh, M0) (some (.int (iI (bI (s.testBit k = true))))) (sh, M) := by
  obtain ⟨d, rfl⟩ : ∃ e, d = e + 1 := ⟨d - 1, by omega⟩
  have q0 : px_qk sh [] M0 M0 := ⟨hF, hG, eo_rf⟩
  refine vc_n (Nat.le_of_ble_eq_true rfl) ?_
  show px_R xs L d 273 (0, [.int (iI (((s : Nat) : Int))), .int (iI (((k : Nat) : Int)))], [], (sh, M0)) (fun r h' => r = some (.int (iI (bI (s.testBit k = true)))) ∧ ∃ M', h' = (sh, M') ∧ px_qk sh [] M0 M')
  refine rr_iload_n pf_273_0 rfl ?_
  refine rr_iload_n pf_273_1 rfl ?_
  refine rr_ishr (((s : Nat) : Int) / 2 ^ k) pf_273_2 (iI_shr (by unfold rg; omega) hk) ?_
  refine rr_iconst pf_273_3 ?_
  refine rr_iand (((s : Nat) : Int) / 2 ^ k % 2) pf_273_4 iI_m1 ?_
  have h01 := tb_01 s k
  have hti := tb_iff s k
  refine rr_iconst pf_273_5 ?_
  refine rr_icmp_ne 13 pf_273_6 (by decide) (by unfold rg; omega) (by unfold rg; omega) (fun c1 => ?_) (fun c1 => ?_)
  · refine rr_iconst pf_273_13 ?_
    refine rr_zret pf_273_14 pt_273 (by first | exact Or.inl rfl | exact Or.inr rfl | omega) ⟨by rw [bI_f (by exact fun z => absurd (hti.mpr z) (by omega))], M0, rfl, q0⟩
  · refine rr_iconst pf_273_9 ?_
    refine rr_goto 14 pf_273_10 (by decide) ?_
    refine rr_zret pf_273_14 pt_273 (by first | exact Or.inl rfl | exact Or.inr rfl | omega) ⟨by rw [bI_t (by exact hti.mp (by omega))], M0, rfl, q0⟩
theorem lp_R_layAll_14 {xs : Nat → Int} {L d : Nat} {sh : List (Nat × Nat)} (hd : 7 ≤ d) (hW : px_W0 <+: sh) {M0 : Nat → Nat → Int}  (hρ : sp_ok (rr_ M0)) {lw : List sp_C} (hlw : px_lwR M0 lw) (hord : M0 228 20 = 0) {n : Nat} (hn : rr_ M0 0 = ((n : Nat) : Int)) (hn8 : n ≤ 8) {w : Nat} (hw : w < n) {Q : Option Value → px_H → Prop} (kx : ∀ (p : Nat) (M : Nat → Nat → Int), px_qk sh [228, 246, 248, 253] M0 M → (rq M0 M) → (∀ j, j < 16 + 16 * w → M 253 j = sp_stain lw (rr_ M0) (j / 16) (j % 16)) → px_R xs L d 270 (43, [.ref 228, .int (iI (((w : Nat) : Int))), .int (iI (((p : Nat) : Int)))], [], (sh, M)) Q)  : ∀ (mz : Nat) (p : Nat) (M : Nat → Nat → Int), 16 - p = mz → px_qk sh [228, 246, 248, 253] M0 M → (rq M0 M) → (p ≤ 16) → (∀ j, j < p + 16 * w → M 253 j = sp_stain lw (rr_ M0) (j / 16) (j % 16)) → px_R xs L d 270 (14, [.ref 228, .int (iI (((w : Nat) : Int))), .int (iI (((p : Nat) : Int)))], [], (sh, M)) Q := by
  intro mz
  induction mz using Nat.strongRecOn with
  | _ mz ih =>
    intro p M hm hq hrq hp hv
    refine rr_iload_n pf_270_14 rfl ?_
    refine rr_bipush pf_270_15 (by decide) ?_
    refine rr_icmp_ge 43 pf_270_17 (by decide) (by unfold rg; omega) (by unfold rg; omega) (fun c1 => ?_) (fun c1 => ?_)
    · exact kx p M hq (hrq) (by intro j hj; exact hv j (by omega))
    · refine rr_aload_n pf_270_20 rfl ?_
      refine rr_getR pf_270_21 po_270 pg_9_128 rfl (ws_228 hW) (by decide) (wr_228_45 hq.1) ?_
      refine rr_bipush pf_270_24 (by decide) ?_
      refine rr_iload_n pf_270_26 rfl ?_
      refine rr_imul pf_270_27 ?_
      refine rr_iload_n pf_270_28 rfl ?_
      refine rr_iadd pf_270_29 ?_
      refine rr_aload_n pf_270_30 rfl ?_
      refine rr_iload_n pf_270_31 rfl ?_
      refine rr_iload_n pf_270_32 rfl ?_
      obtain ⟨r4, M2, ⟨kq3, pv_M2, pf_M2⟩, hcM2⟩ := ct_R_stainsOf (xs := xs) (L := L) (d := d) (w := w) (p := p) (lw := lw) (by omega) hW hq.1 hq.2.1 (by rw [rr_q hq (by decide)]; exact hρ) (lwR_q hq (by decide) hlw) ((hrq 20 (by decide)).trans hord) (by omega) (by omega)
      have q3 := qk_trm hq kq3 (by decide)
      rw [rr_q hq (by decide)] at pv_M2
      have rq5 := rq_tr hrq pf_M2
      refine rr_cV2 pf_270_33 po_270 pc_9_224 (ws_228 hW) po_194 (by decide) rfl hcM2 ?_
      have hsb := sp_stain_b lw (rr_ M0) w p
      refine vr_iast (j := p + 16 * w) hW q3 pf_270_36 (ws_253 hW) (by omega) (by omega) (by decide) (by unfold rg; omega) (by decide) (fun M6 eM6 q7 => ?_)
      have rq8 := rq_ne rq5 eM6 (by decide)
      refine rr_iinc pf_270_37 rfl (fun y => [.ref 228, .int (iI (((w : Nat) : Int))), .int (iI (y))]) (fun _ => rfl) (fun y9 hy9 => ?_)
      refine rr_goto 14 pf_270_40 (by decide) ?_
      obtain ⟨n10, hn10, rfl⟩ : ∃ zz : Nat, zz = 1 + p ∧ y9 = ((zz : Nat) : Int) := ⟨1 + p, rfl, by omega⟩
      exact ih _ (by omega) n10 M6 rfl q7 (rq8) (by omega) (by
                  intro j hj; rw [eM6, ask_up]; by_cases hc : j = p + 16 * w
                  · rw [if_pos (by omega), hc, show (p + 16 * w) / 16 = w by omega, show (p + 16 * w) % 16 = p by omega]; exact pv_M2
                  · rw [if_neg (by omega), kq3.2.2 253 (by decide)]; exact hv j (by omega))
theorem lp_R_layAll_2 {xs : Nat → Int} {L d : Nat} {sh : List (Nat × Nat)} (hd : 7 ≤ d) (hW : px_W0 <+: sh) {M0 : Nat → Nat → Int}  (hρ : sp_ok (rr_ M0)) {lw : List sp_C} (hlw : px_lwR M0 lw) (hord : M0 228 20 = 0) {n : Nat} (hn : rr_ M0 0 = ((n : Nat) : Int)) (hn8 : n ≤ 8)  {Q : Option Value → px_H → Prop} (kx : ∀ (w : Nat) (v2 : Value) (M : Nat → Nat → Int), px_qk sh [228, 246, 248, 253] M0 M → (rq M0 M) → (∀ j, j < 16 * n → M 253 j = sp_stain lw (rr_ M0) (j / 16) (j % 16)) → px_R xs L d 270 (49, [.ref 228, .int (iI (((w : Nat) : Int))), v2], [], (sh, M)) Q)  : ∀ (mz : Nat) (w : Nat) (v2 : Value) (M : Nat → Nat → Int), 8 - w = mz → px_qk sh [228, 246, 248, 253] M0 M → (rq M0 M) → (w ≤ n) → (∀ j, j < 16 * w → M 253 j = sp_stain lw (rr_ M0) (j / 16) (j % 16)) → px_R xs L d 270 (2, [.ref 228, .int (iI (((w : Nat) : Int))), v2], [], (sh, M)) Q := by
  intro mz
  induction mz using Nat.strongRecOn with
  | _ mz ih =>
    intro w v2 M hm hq hrq hw hv
    refine rr_iload_n pf_270_2 rfl ?_
    refine rr_aload_n pf_270_3 rfl ?_
    refine rr_getR pf_270_4 po_270 pg_9_13 rfl (ws_228 hW) (by decide) (wr_228_3 hq.1) ?_
    refine rr_iconst pf_270_7 ?_
    refine vr_iald (j := 0) hq pf_270_8 (ws_230 hW) (by omega) (by omega) (by decide) (fun x1 hx1 rx1 => ?_)
    rw [hq.2.2 230 (by decide)] at hx1
    rw [rr_at (M := M0) (i := 0) (by omega), hn] at hx1
    refine rr_icmp_ge 49 pf_270_9 (by decide) (by unfold rg; omega) rx1 (fun c2 => ?_) (fun c2 => ?_)
    · exact kx w _ M hq (hrq) (by intro j hj; exact hv j (by omega))
    · refine rr_iconst pf_270_12 ?_
      refine rr_istore_n pf_270_13 (fun y => [.ref 228, .int (iI (((w : Nat) : Int))), .int (iI (y))]) (Nat.le_of_ble_eq_true rfl) (fun _ => rfl) (fun y3 hy3 => ?_)
      obtain ⟨n4, hn4, rfl⟩ : ∃ zz : Nat, zz = 0 ∧ y3 = ((zz : Nat) : Int) := ⟨0, rfl, by omega⟩
      refine lp_R_layAll_14 (xs := xs) (L := L) (d := d) (by omega) hW hρ hlw hord hn hn8 (by omega) (fun p_5  M6 q7 xrq_M6 xi_M6 => ?_) _ n4 M rfl hq (hrq) (by omega) (by intro j hj; exact hv j (by omega))
      refine rr_iinc pf_270_43 rfl (fun y => [.ref 228, .int (iI (y)), .int (iI (((p_5 : Nat) : Int)))]) (fun _ => rfl) (fun y8 hy8 => ?_)
      refine rr_goto 2 pf_270_46 (by decide) ?_
      obtain ⟨n9, hn9, rfl⟩ : ∃ zz : Nat, zz = 1 + w ∧ y8 = ((zz : Nat) : Int) := ⟨1 + w, rfl, by omega⟩
      exact ih _ (by omega) n9 _ M6 rfl q7 (xrq_M6) (by omega) (by intro j hj; exact xi_M6 j (by omega))
theorem ct_R_layAll {xs : Nat → Int} {L d : Nat} {sh : List (Nat × Nat)} {M0 : Nat → Nat → Int} (hd : 8 ≤ d) (hW : px_W0 <+: sh) (hF : px_Fx M0) (hG : px_RG sh M0)  (hρ : sp_ok (rr_ M0)) {lw : List sp_C} (hlw : px_lwR M0 lw) (hord : M0 228 20 = 0) {n : Nat} (hn : rr_ M0 0 = ((n : Nat) : Int)) (hn8 : n ≤ 8) : ∃ M, (px_qk sh [228, 246, 248, 253] M0 M ∧ (∀ j, j < 16 * n → M 253 j = sp_stain lw (rr_ M0) (j / 16) (j % 16)) ∧ (rq M0 M)) ∧ px_Cl xs L d 270 [.ref 228] (sh, M0) (none) (sh, M) := by
  obtain ⟨d, rfl⟩ : ∃ e, d = e + 1 := ⟨d - 1, by omega⟩
  have q0 : px_qk sh [228, 246, 248, 253] M0 M0 := ⟨hF, hG, eo_rf⟩
  refine vc_n (Nat.le_of_ble_eq_true rfl) ?_
  show px_R xs L d 270 (0, [.ref 228, px_jk, px_jk], [], (sh, M0)) (fun r h' => r = none ∧ ∃ M', h' = (sh, M') ∧ px_qk sh [228, 246, 248, 253] M0 M' ∧ (∀ j, j < 16 * n → M' 253 j = sp_stain lw (rr_ M0) (j / 16) (j % 16)) ∧ rq M0 M')
  refine rr_iconst pf_270_0 ?_
  refine rr_istore_n pf_270_1 (fun y => [.ref 228, .int (iI (y)), px_jk]) (Nat.le_of_ble_eq_true rfl) (fun _ => rfl) (fun y1 hy1 => ?_)
  obtain ⟨n2, hn2, rfl⟩ : ∃ zz : Nat, zz = 0 ∧ y1 = ((zz : Nat) : Int) := ⟨0, rfl, by omega⟩
  refine lp_R_layAll_2 (xs := xs) (L := L) (d := d) (by omega) hW hρ hlw hord hn hn8 (fun w_3 v6 M4 q5 xrq_M4 xv_M4 => ?_) _ n2 _ M0 rfl q0 ((rq_rf M0)) (by omega) (by intro j hj; exfalso; omega)
  refine rr_vret pf_270_49 pt_270 ⟨rfl, M4, rfl, q5, (xv_M4), (xrq_M4)⟩
theorem lp_R_givenBy_6 {xs : Nat → Int} {L d : Nat} {sh : List (Nat × Nat)} (hd : 1 ≤ d) (hW : px_W0 <+: sh) {M0 : Nat → Nat → Int}  (hρ : sp_ok (rr_ M0)) {lw : List sp_C} {n : Nat} (hn : rr_ M0 0 = ((n : Nat) : Int)) (hn8 : n ≤ 8) (hall : ∀ j, j < 16 * n → M0 253 j = sp_stain lw (rr_ M0) (j / 16) (j % 16)) {s p : Nat} (hs : s < 65536) (hp : p < 16) {h : Int} (hh : rg h)  {Q : Option Value → px_H → Prop} (kx : ∀ (v : Int) (w : Nat) (M : Nat → Nat → Int), px_qk sh [] M0 M → (v = sp_gv lw (rr_ M0) s p h n) → px_R xs L d 272 (72, [.ref 228, .int (iI (((s : Nat) : Int))), .int (iI (((p : Nat) : Int))), .int (iI (h)), .int (iI (v)), .int (iI (((w : Nat) : Int)))], [], (sh, M)) Q)  : ∀ (mz : Nat) (v : Int) (w : Nat) (M : Nat → Nat → Int), 8 - w = mz → px_qk sh [] M0 M → (w ≤ n) → (v = sp_gv lw (rr_ M0) s p h w) → px_R xs L d 272 (6, [.ref 228, .int (iI (((s : Nat) : Int))), .int (iI (((p : Nat) : Int))), .int (iI (h)), .int (iI (v)), .int (iI (((w : Nat) : Int)))], [], (sh, M)) Q := by
  intro mz
  induction mz using Nat.strongRecOn with
  | _ mz ih =>
    intro v w M hm hq hw hv
    have hgb := gv_b lw (rr_ M0) s p h w
    refine rr_iload pf_272_6 rfl ?_
    refine rr_aload_n pf_272_8 rfl ?_
    refine rr_getR pf_272_9 po_272 pg_9_13 rfl (ws_228 hW) (by decide) (wr_228_3 hq.1) ?_
    refine rr_iconst pf_272_12 ?_
    refine vr_iald (j := 0) hq pf_272_13 (ws_230 hW) (by omega) (by omega) (by decide) (fun x1 hx1 rx1 => ?_)
    rw [hq.2.2 230 (by decide)] at hx1
    rw [rr_at (M := M0) (i := 0) (by omega), hn] at hx1
    refine rr_icmp_ge 72 pf_272_14 (by decide) (by unfold rg; omega) rx1 (fun c2 => ?_) (fun c2 => ?_)
    · exact kx v w M hq (by rw [hv, show w = n by omega])
    · refine rr_iload pf_272_17 rfl ?_
      refine rr_iload_n pf_272_19 rfl ?_
      refine rr_iload pf_272_20 rfl ?_
      obtain ⟨M3, kq4, hcM3⟩ := ct_R_is (xs := xs) (L := L) (d := d) (s := s) (k := w) (by omega) hW hq.1 hq.2.1 hs (by omega)
      obtain rfl := qk_nil kq4
      refine rr_cS2 pf_272_22 po_272 pc_9_517 (by decide) rfl hcM3 ?_
      refine rr_ifb_eq 62 pf_272_25 (by decide) (fun c6 => ?_) (fun c6 => ?_)
      · have hbt := c6
        refine rr_iconst pf_272_62 ?_
        refine rr_iadd pf_272_63 ?_
        refine rr_istore pf_272_64 (fun y => [.ref 228, .int (iI (((s : Nat) : Int))), .int (iI (((p : Nat) : Int))), .int (iI (h)), .int (iI (y)), .int (iI (((w : Nat) : Int)))]) (Nat.le_of_ble_eq_true rfl) (fun _ => rfl) (fun y7 hy7 => ?_)
        refine rr_iinc pf_272_66 rfl (fun y => [.ref 228, .int (iI (((s : Nat) : Int))), .int (iI (((p : Nat) : Int))), .int (iI (h)), .int (iI (y7)), .int (iI (y))]) (fun _ => rfl) (fun y8 hy8 => ?_)
        refine rr_goto 6 pf_272_69 (by decide) ?_
        obtain ⟨n9, hn9, rfl⟩ : ∃ zz : Nat, zz = 1 + w ∧ y8 = ((zz : Nat) : Int) := ⟨1 + w, rfl, by omega⟩
        exact ih _ (by omega) y7 n9 M rfl hq (by omega) (by rw [show n9 = w + 1 by omega, sp_gv, if_neg (fun z => hbt z.1)]; omega)
      · have hbt := c6
        refine rr_iload_n pf_272_28 rfl ?_
        refine rr_iconst pf_272_29 ?_
        refine rr_icmp_eq 47 pf_272_30 (by decide) hh (by unfold rg; omega) (fun c10 => ?_) (fun c10 => ?_)
        · refine rr_aload_n pf_272_47 rfl ?_
          refine rr_getR pf_272_48 po_272 pg_9_128 rfl (ws_228 hW) (by decide) (wr_228_45 hq.1) ?_
          refine rr_bipush pf_272_51 (by decide) ?_
          refine rr_iload pf_272_53 rfl ?_
          refine rr_imul pf_272_55 ?_
          refine rr_iload_n pf_272_56 rfl ?_
          refine rr_iadd pf_272_57 ?_
          refine vr_iald (j := p + 16 * w) hq pf_272_58 (ws_253 hW) (by omega) (by omega) (by decide) (fun x11 hx11 rx11 => ?_)
          rw [hq.2.2 253 (by decide)] at hx11
          rw [hall _ (by omega), show (p + 16 * w) / 16 = w by omega, show (p + 16 * w) % 16 = p by omega] at hx11
          have hsb := sp_stain_b lw (rr_ M0) w p
          refine rr_goto 63 pf_272_59 (by decide) ?_
          refine rr_iadd pf_272_63 ?_
          refine rr_istore pf_272_64 (fun y => [.ref 228, .int (iI (((s : Nat) : Int))), .int (iI (((p : Nat) : Int))), .int (iI (h)), .int (iI (y)), .int (iI (((w : Nat) : Int)))]) (Nat.le_of_ble_eq_true rfl) (fun _ => rfl) (fun y12 hy12 => ?_)
          refine rr_iinc pf_272_66 rfl (fun y => [.ref 228, .int (iI (((s : Nat) : Int))), .int (iI (((p : Nat) : Int))), .int (iI (h)), .int (iI (y12)), .int (iI (y))]) (fun _ => rfl) (fun y13 hy13 => ?_)
          refine rr_goto 6 pf_272_69 (by decide) ?_
          obtain ⟨n14, hn14, rfl⟩ : ∃ zz : Nat, zz = 1 + w ∧ y13 = ((zz : Nat) : Int) := ⟨1 + w, rfl, by omega⟩
          exact ih _ (by omega) y12 n14 M rfl hq (by omega) (by rw [show n14 = w + 1 by omega, sp_gv, if_pos ⟨hbt, by omega⟩]; omega)
        · refine rr_aload_n pf_272_33 rfl ?_
          refine rr_getR pf_272_34 po_272 pg_9_13 rfl (ws_228 hW) (by decide) (wr_228_3 hq.1) ?_
          refine rr_bipush pf_272_37 (by decide) ?_
          refine rr_iload pf_272_39 rfl ?_
          refine rr_iadd pf_272_41 ?_
          refine vr_iald (j := 69 + w) hq pf_272_42 (ws_230 hW) (by omega) (by omega) (by decide) (fun x15 hx15 rx15 => ?_)
          rw [hq.2.2 230 (by decide)] at hx15
          rw [rr_at (M := M0) (i := 69 + w) (by omega)] at hx15
          refine rr_iload_n pf_272_43 rfl ?_
          refine rr_icmp_ne 62 pf_272_44 (by decide) rx15 hh (fun c16 => ?_) (fun c16 => ?_)
          · refine rr_iconst pf_272_62 ?_
            refine rr_iadd pf_272_63 ?_
            refine rr_istore pf_272_64 (fun y => [.ref 228, .int (iI (((s : Nat) : Int))), .int (iI (((p : Nat) : Int))), .int (iI (h)), .int (iI (y)), .int (iI (((w : Nat) : Int)))]) (Nat.le_of_ble_eq_true rfl) (fun _ => rfl) (fun y17 hy17 => ?_)
            refine rr_iinc pf_272_66 rfl (fun y => [.ref 228, .int (iI (((s : Nat) : Int))), .int (iI (((p : Nat) : Int))), .int (iI (h)), .int (iI (y17)), .int (iI (y))]) (fun _ => rfl) (fun y18 hy18 => ?_)
            refine rr_goto 6 pf_272_69 (by decide) ?_
            obtain ⟨n19, hn19, rfl⟩ : ∃ zz : Nat, zz = 1 + w ∧ y18 = ((zz : Nat) : Int) := ⟨1 + w, rfl, by omega⟩
            exact ih _ (by omega) y17 n19 M rfl hq (by omega) (by rw [show n19 = w + 1 by omega, sp_gv, if_neg (fun z => by have := z.2; omega)]; omega)
          · refine rr_aload_n pf_272_47 rfl ?_
            refine rr_getR pf_272_48 po_272 pg_9_128 rfl (ws_228 hW) (by decide) (wr_228_45 hq.1) ?_
            refine rr_bipush pf_272_51 (by decide) ?_
            refine rr_iload pf_272_53 rfl ?_
            refine rr_imul pf_272_55 ?_
            refine rr_iload_n pf_272_56 rfl ?_
            refine rr_iadd pf_272_57 ?_
            refine vr_iald (j := p + 16 * w) hq pf_272_58 (ws_253 hW) (by omega) (by omega) (by decide) (fun x20 hx20 rx20 => ?_)
            rw [hq.2.2 253 (by decide)] at hx20
            rw [hall _ (by omega), show (p + 16 * w) / 16 = w by omega, show (p + 16 * w) % 16 = p by omega] at hx20
            have hsb := sp_stain_b lw (rr_ M0) w p
            refine rr_goto 63 pf_272_59 (by decide) ?_
            refine rr_iadd pf_272_63 ?_
            refine rr_istore pf_272_64 (fun y => [.ref 228, .int (iI (((s : Nat) : Int))), .int (iI (((p : Nat) : Int))), .int (iI (h)), .int (iI (y)), .int (iI (((w : Nat) : Int)))]) (Nat.le_of_ble_eq_true rfl) (fun _ => rfl) (fun y21 hy21 => ?_)
            refine rr_iinc pf_272_66 rfl (fun y => [.ref 228, .int (iI (((s : Nat) : Int))), .int (iI (((p : Nat) : Int))), .int (iI (h)), .int (iI (y21)), .int (iI (y))]) (fun _ => rfl) (fun y22 hy22 => ?_)
            refine rr_goto 6 pf_272_69 (by decide) ?_
            obtain ⟨n23, hn23, rfl⟩ : ∃ zz : Nat, zz = 1 + w ∧ y22 = ((zz : Nat) : Int) := ⟨1 + w, rfl, by omega⟩
            exact ih _ (by omega) y21 n23 M rfl hq (by omega) (by rw [show n23 = w + 1 by omega, sp_gv, if_pos ⟨hbt, by omega⟩]; omega)
theorem ct_R_givenBy {xs : Nat → Int} {L d : Nat} {sh : List (Nat × Nat)} {M0 : Nat → Nat → Int} (hd : 2 ≤ d) (hW : px_W0 <+: sh) (hF : px_Fx M0) (hG : px_RG sh M0)  (hρ : sp_ok (rr_ M0)) {lw : List sp_C} {n : Nat} (hn : rr_ M0 0 = ((n : Nat) : Int)) (hn8 : n ≤ 8) (hall : ∀ j, j < 16 * n → M0 253 j = sp_stain lw (rr_ M0) (j / 16) (j % 16)) {s p : Nat} (hs : s < 65536) (hp : p < 16) {h : Int} (hh : rg h) : ∃ v M, (px_qk sh [] M0 M ∧ (v = sp_gv lw (rr_ M0) s p h n)) ∧ px_Cl xs L d 272 [.ref 228, .int (iI (((s : Nat) : Int))), .int (iI (((p : Nat) : Int))), .int (iI (h))] (sh, M0) (some (.int (iI v))) (sh, M) := by
  obtain ⟨d, rfl⟩ : ∃ e, d = e + 1 := ⟨d - 1, by omega⟩
  have q0 : px_qk sh [] M0 M0 := ⟨hF, hG, eo_rf⟩
  refine vc_i (Nat.le_of_ble_eq_true rfl) ?_
  show px_R xs L d 272 (0, [.ref 228, .int (iI (((s : Nat) : Int))), .int (iI (((p : Nat) : Int))), .int (iI (h)), px_jk, px_jk], [], (sh, M0)) (fun r h' => ∃ v M', r = some (.int (iI v)) ∧ h' = (sh, M') ∧ px_qk sh [] M0 M' ∧ v = sp_gv lw (rr_ M0) s p h n)
  refine rr_iconst pf_272_0 ?_
  refine rr_istore pf_272_1 (fun y => [.ref 228, .int (iI (((s : Nat) : Int))), .int (iI (((p : Nat) : Int))), .int (iI (h)), .int (iI (y)), px_jk]) (Nat.le_of_ble_eq_true rfl) (fun _ => rfl) (fun y1 hy1 => ?_)
  refine rr_iconst pf_272_3 ?_
  refine rr_istore pf_272_4 (fun y => [.ref 228, .int (iI (((s : Nat) : Int))), .int (iI (((p : Nat) : Int))), .int (iI (h)), .int (iI (y1)), .int (iI (y))]) (Nat.le_of_ble_eq_true rfl) (fun _ => rfl) (fun y2 hy2 => ?_)
  obtain ⟨n3, hn3, rfl⟩ : ∃ zz : Nat, zz = 0 ∧ y2 = ((zz : Nat) : Int) := ⟨0, rfl, by omega⟩
  refine lp_R_givenBy_6 (xs := xs) (L := L) (d := d) (by omega) hW hρ hn hn8 hall hs hp hh (fun v_4 w_5  M6 q7 xv_M6 => ?_) _ y1 n3 M0 rfl q0 (by omega) (by rw [show n3 = 0 by omega]; exact hy1)
  refine rr_iload pf_272_72 rfl ?_
  refine rr_iret pf_272_74 pt_272 ⟨_, M6, rfl, rfl, q7, (xv_M6)⟩
theorem lp_R_canBe_4 {xs : Nat → Int} {L d : Nat} {sh : List (Nat × Nat)} (hd : 2 ≤ d) (hW : px_W0 <+: sh) {M0 : Nat → Nat → Int}  (hρ : sp_ok (rr_ M0)) {lw : List sp_C} {n : Nat} (hn : rr_ M0 0 = ((n : Nat) : Int)) (hn8 : n ≤ 8) (hall : ∀ j, j < 16 * n → M0 253 j = sp_stain lw (rr_ M0) (j / 16) (j % 16)) {s : Nat} (hs : s < 65536)  {Q : Option Value → px_H → Prop} (kx : ∀ (so : Int) (k : Nat) (M : Nat → Nat → Int), px_qk sh [] M0 M → ((so = 1 ∧ sp_fit lw (rr_ M0) n s = true) ∨ (so = 0 ∧ sp_fit lw (rr_ M0) n s = false)) → px_R xs L d 271 (75, [.ref 228, .int (iI (((s : Nat) : Int))), .int (iI (so)), .int (iI (((k : Nat) : Int)))], [], (sh, M)) Q)  : ∀ (mz : Nat) (so : Int) (k : Nat) (M : Nat → Nat → Int), 9 - k = mz → px_qk sh [] M0 M → ((k : Int) ≤ rr_ M0 2) → ((so = 1 ∧ sp_fitN lw (rr_ M0) n s k = true) ∨ (so = 0 ∧ sp_fitN lw (rr_ M0) n s k = false)) → px_R xs L d 271 (4, [.ref 228, .int (iI (((s : Nat) : Int))), .int (iI (so)), .int (iI (((k : Nat) : Int)))], [], (sh, M)) Q := by
  intro mz
  induction mz using Nat.strongRecOn with
  | _ mz ih =>
    intro so k M hm hq hk hf
    have h2 := hρ.2.2.1
    have hgb := fun p h => gv_b lw (rr_ M0) s p h n
    refine rr_iload_n pf_271_4 rfl ?_
    refine rr_aload_n pf_271_5 rfl ?_
    refine rr_getR pf_271_6 po_271 pg_9_13 rfl (ws_228 hW) (by decide) (wr_228_3 hq.1) ?_
    refine rr_iconst pf_271_9 ?_
    refine vr_iald (j := 2) hq pf_271_10 (ws_230 hW) (by omega) (by omega) (by decide) (fun x1 hx1 rx1 => ?_)
    rw [hq.2.2 230 (by decide)] at hx1
    rw [rr_at (M := M0) (i := 2) (by omega)] at hx1
    refine rr_icmp_ge 75 pf_271_11 (by decide) (by unfold rg; omega) rx1 (fun c2 => ?_) (fun c2 => ?_)
    · exact kx so k M hq (by unfold sp_fit; rw [show (rr_ M0 2).toNat = k by omega]; exact hf)
    · refine rr_iload_n pf_271_14 rfl ?_
      refine rr_if_eq 75 pf_271_15 (by decide) (by unfold rg; omega) (fun c3 => ?_) (fun c3 => ?_)
      · exact kx so k M hq (by unfold sp_fit; right; refine ⟨by omega, ?_⟩; have hz := (hf.resolve_left (fun z => by omega)).2; rw [show (rr_ M0 2).toNat = k + ((rr_ M0 2).toNat - k) by omega]; exact fit_f hz _)
      · refine rr_aload_n pf_271_18 rfl ?_
        refine rr_iload_n pf_271_19 rfl ?_
        refine rr_aload_n pf_271_20 rfl ?_
        refine rr_getR pf_271_21 po_271 pg_9_13 rfl (ws_228 hW) (by decide) (wr_228_3 hq.1) ?_
        refine rr_bipush pf_271_24 (by decide) ?_
        refine rr_iconst pf_271_26 ?_
        refine rr_iload_n pf_271_27 rfl ?_
        refine rr_imul pf_271_28 ?_
        refine rr_iadd pf_271_29 ?_
        refine vr_iald (j := 85 + 3 * k) hq pf_271_30 (ws_230 hW) (by omega) (by omega) (by decide) (fun x4 hx4 rx4 => ?_)
        rw [hq.2.2 230 (by decide)] at hx4
        rw [rr_at (M := M0) (i := 85 + 3 * k) (by omega)] at hx4
        have htb := hρ.2.2.2.2.2.2.2.2.2.2.2.2.2.2 k (by omega)
        refine rr_aload_n pf_271_31 rfl ?_
        refine rr_getR pf_271_32 po_271 pg_9_13 rfl (ws_228 hW) (by decide) (wr_228_3 hq.1) ?_
        refine rr_bipush pf_271_35 (by decide) ?_
        refine rr_iconst pf_271_37 ?_
        refine rr_iload_n pf_271_38 rfl ?_
        refine rr_imul pf_271_39 ?_
        refine rr_iadd pf_271_40 ?_
        refine rr_iconst pf_271_41 ?_
        refine rr_iadd pf_271_42 ?_
        refine vr_iald (j := 85 + 3 * k + 1) hq pf_271_43 (ws_230 hW) (by omega) (by omega) (by decide) (fun x5 hx5 rx5 => ?_)
        rw [hq.2.2 230 (by decide)] at hx5
        rw [rr_at (M := M0) (i := 85 + 3 * k + 1) (by omega)] at hx5
        have htb := hρ.2.2.2.2.2.2.2.2.2.2.2.2.2.2 k (by omega)
        obtain ⟨r8, M6, ⟨kq7, pv_M6⟩, hcM6⟩ := ct_R_givenBy (xs := xs) (L := L) (d := d) (s := s) (p := (rr_ M0 (85 + 3 * k)).toNat) (h := x5) (lw := lw) (n := n) (by omega) hW hq.1 hq.2.1 (by rw [rr_q hq (by decide)]; exact hρ) (by rw [rr_q hq (by decide)]; exact hn) hn8 (by intro j hj; rw [hq.2.2 253 (by decide), rr_q hq (by decide)]; exact hall j hj) hs (by omega) (by unfold rg; omega)
        rw [show (((rr_ M0 (85 + 3 * k)).toNat : Nat) : Int) = x4 by omega] at hcM6
        obtain rfl := qk_nil kq7
        rw [rr_q hq (by decide)] at pv_M6
        refine rr_cV3 pf_271_44 po_271 pc_9_521 (ws_228 hW) po_272 (by decide) rfl hcM6 ?_
        have hgb2 := hgb (rr_ M0 (85 + 3 * k)).toNat (x5)
        rw [hx5] at hgb2 pv_M6
        refine rr_aload_n pf_271_47 rfl ?_
        refine rr_getR pf_271_48 po_271 pg_9_13 rfl (ws_228 hW) (by decide) (wr_228_3 hq.1) ?_
        refine rr_bipush pf_271_51 (by decide) ?_
        refine rr_iconst pf_271_53 ?_
        refine rr_iload_n pf_271_54 rfl ?_
        refine rr_imul pf_271_55 ?_
        refine rr_iadd pf_271_56 ?_
        refine rr_iconst pf_271_57 ?_
        refine rr_iadd pf_271_58 ?_
        refine vr_iald (j := 85 + 3 * k + 2) hq pf_271_59 (ws_230 hW) (by omega) (by omega) (by decide) (fun x9 hx9 rx9 => ?_)
        rw [hq.2.2 230 (by decide)] at hx9
        rw [rr_at (M := M0) (i := 85 + 3 * k + 2) (by omega)] at hx9
        have htb := hρ.2.2.2.2.2.2.2.2.2.2.2.2.2.2 k (by omega)
        refine rr_icmp_ne 67 pf_271_60 (by decide) (by unfold rg; omega) rx9 (fun c10 => ?_) (fun c10 => ?_)
        · refine rr_iconst pf_271_67 ?_
          refine rr_istore_n pf_271_68 (fun y => [.ref 228, .int (iI (((s : Nat) : Int))), .int (iI (y)), .int (iI (((k : Nat) : Int)))]) (Nat.le_of_ble_eq_true rfl) (fun _ => rfl) (fun y11 hy11 => ?_)
          refine rr_iinc pf_271_69 rfl (fun y => [.ref 228, .int (iI (((s : Nat) : Int))), .int (iI (y11)), .int (iI (y))]) (fun _ => rfl) (fun y12 hy12 => ?_)
          refine rr_goto 4 pf_271_72 (by decide) ?_
          obtain ⟨n13, hn13, rfl⟩ : ∃ zz : Nat, zz = 1 + k ∧ y12 = ((zz : Nat) : Int) := ⟨1 + k, rfl, by omega⟩
          exact ih _ (by omega) y11 n13 M rfl hq (by omega) (by
                          have ht := (hf.resolve_right (fun z => by omega)).2
                          rw [show n13 = k + 1 by omega, sp_fitN, ht, Bool.true_and]
                          right; exact ⟨by omega, decide_eq_false (by omega)⟩)
        · refine rr_iconst pf_271_63 ?_
          refine rr_goto 68 pf_271_64 (by decide) ?_
          refine rr_istore_n pf_271_68 (fun y => [.ref 228, .int (iI (((s : Nat) : Int))), .int (iI (y)), .int (iI (((k : Nat) : Int)))]) (Nat.le_of_ble_eq_true rfl) (fun _ => rfl) (fun y14 hy14 => ?_)
          refine rr_iinc pf_271_69 rfl (fun y => [.ref 228, .int (iI (((s : Nat) : Int))), .int (iI (y14)), .int (iI (y))]) (fun _ => rfl) (fun y15 hy15 => ?_)
          refine rr_goto 4 pf_271_72 (by decide) ?_
          obtain ⟨n16, hn16, rfl⟩ : ∃ zz : Nat, zz = 1 + k ∧ y15 = ((zz : Nat) : Int) := ⟨1 + k, rfl, by omega⟩
          exact ih _ (by omega) y14 n16 M rfl hq (by omega) (by
                          have ht := (hf.resolve_right (fun z => by omega)).2
                          rw [show n16 = k + 1 by omega, sp_fitN, ht, Bool.true_and]
                          left; exact ⟨by omega, decide_eq_true (by omega)⟩)
theorem ct_R_canBe {xs : Nat → Int} {L d : Nat} {sh : List (Nat × Nat)} {M0 : Nat → Nat → Int} (hd : 3 ≤ d) (hW : px_W0 <+: sh) (hF : px_Fx M0) (hG : px_RG sh M0)  (hρ : sp_ok (rr_ M0)) {lw : List sp_C} {n : Nat} (hn : rr_ M0 0 = ((n : Nat) : Int)) (hn8 : n ≤ 8) (hall : ∀ j, j < 16 * n → M0 253 j = sp_stain lw (rr_ M0) (j / 16) (j % 16)) {s : Nat} (hs : s < 65536) : ∃ M, (px_qk sh [] M0 M) ∧ px_Cl xs L d 271 [.ref 228, .int (iI (((s : Nat) : Int)))] (sh, M0) (some (.int (iI (bI (sp_fit lw (rr_ M0) n s = true))))) (sh, M) := by
  obtain ⟨d, rfl⟩ : ∃ e, d = e + 1 := ⟨d - 1, by omega⟩
  have q0 : px_qk sh [] M0 M0 := ⟨hF, hG, eo_rf⟩
  have h2 := hρ.2.2.1
  refine vc_n (Nat.le_of_ble_eq_true rfl) ?_
  show px_R xs L d 271 (0, [.ref 228, .int (iI (((s : Nat) : Int))), px_jk, px_jk], [], (sh, M0)) (fun r h' => r = some (.int (iI (bI (sp_fit lw (rr_ M0) n s = true)))) ∧ ∃ M', h' = (sh, M') ∧ px_qk sh [] M0 M')
  refine rr_iconst pf_271_0 ?_
  refine rr_istore_n pf_271_1 (fun y => [.ref 228, .int (iI (((s : Nat) : Int))), .int (iI (y)), px_jk]) (Nat.le_of_ble_eq_true rfl) (fun _ => rfl) (fun y1 hy1 => ?_)
  refine rr_iconst pf_271_2 ?_
  refine rr_istore_n pf_271_3 (fun y => [.ref 228, .int (iI (((s : Nat) : Int))), .int (iI (y1)), .int (iI (y))]) (Nat.le_of_ble_eq_true rfl) (fun _ => rfl) (fun y2 hy2 => ?_)
  obtain ⟨n3, hn3, rfl⟩ : ∃ zz : Nat, zz = 0 ∧ y2 = ((zz : Nat) : Int) := ⟨0, rfl, by omega⟩
  refine lp_R_canBe_4 (xs := xs) (L := L) (d := d) (by omega) hW hρ hn hn8 hall hs (fun so_4 k_5  M6 q7 xf_M6 => ?_) _ y1 n3 M0 rfl q0 (by omega) (by rw [show n3 = 0 by omega]; exact Or.inl ⟨by omega, rfl⟩)
  have hxf := xf_M6
  have hso : so_4 = 0 ∨ so_4 = 1 := by rcases hxf with z | z <;> omega
  have hsf : so_4 = bI (sp_fit lw (rr_ M0) n s = true) := by
    rcases hxf with ⟨z1, z2⟩ | ⟨z1, z2⟩
    · rw [bI_t z2]; exact z1
    · rw [bI_f (by rw [z2]; decide)]; exact z1
  refine rr_iload_n pf_271_75 rfl ?_
  refine rr_zret pf_271_76 pt_271 (by first | exact Or.inl rfl | exact Or.inr rfl | omega) ⟨by congr 3; try exact hsf, M6, rfl, q7⟩
theorem lp_R_preached_16 {xs : Nat → Int} {L d : Nat} {sh : List (Nat × Nat)} (hd : 9 ≤ d) (hW : px_W0 <+: sh) {M0 : Nat → Nat → Int}  (hρ : sp_ok (rr_ M0)) {lw : List sp_C} {n : Nat} (hn : rr_ M0 0 = ((n : Nat) : Int)) (hn8 : n ≤ 8) {i : Int} (hi0 : rg i)  {Q : Option Value → px_H → Prop} (kx : ∀ (c : Nat) (its : Int) (s : Nat) (M : Nat → Nat → Int), px_qk sh [228, 246, 248, 253] M0 M → (rz [] M0 M) → (c = pcN lw (rr_ M0) n (2 ^ n)) → (its = pcI lw (rr_ M0) n i (2 ^ n)) → px_R xs L d 269 (59, [.ref 228, .int (iI (i)), .int (iI (((c : Nat) : Int))), .int (iI (its)), .int (iI (((s : Nat) : Int)))], [], (sh, M)) Q)  : ∀ (mz : Nat) (c : Nat) (its : Int) (s : Nat) (M : Nat → Nat → Int), 2 ^ n - s = mz → px_qk sh [228, 246, 248, 253] M0 M → (rz [] M0 M) → (∀ j, j < 16 * n → M 253 j = sp_stain lw (rr_ M0) (j / 16) (j % 16)) → (s ≤ 2 ^ n) → (c = pcN lw (rr_ M0) n s) → (its = pcI lw (rr_ M0) n i s) → px_R xs L d 269 (16, [.ref 228, .int (iI (i)), .int (iI (((c : Nat) : Int))), .int (iI (its)), .int (iI (((s : Nat) : Int)))], [], (sh, M)) Q := by
  intro mz
  induction mz using Nat.strongRecOn with
  | _ mz ih =>
    intro c its s M hm hq hrq hAL hs hc hI
    have h2n := p2_b hn8
    refine rr_iload pf_269_16 rfl ?_
    refine rr_iconst pf_269_18 ?_
    refine rr_aload_n pf_269_19 rfl ?_
    refine rr_getR pf_269_20 po_269 pg_9_13 rfl (ws_228 hW) (by decide) (wr_228_3 hq.1) ?_
    refine rr_iconst pf_269_23 ?_
    refine vr_iald (j := 0) hq pf_269_24 (ws_230 hW) (by omega) (by omega) (by decide) (fun x1 hx1 rx1 => ?_)
    rw [hq.2.2 230 (by decide)] at hx1
    rw [rr_at (M := M0) (i := 0) (by omega), hn] at hx1
    refine rr_ishl (((2 ^ n : Nat) : Int)) pf_269_25 (by rw [hx1]; exact iI_shl1 n (by omega)) ?_
    refine rr_icmp_ge 59 pf_269_26 (by decide) (by unfold rg; omega) (by unfold rg; omega) (fun c2 => ?_) (fun c2 => ?_)
    · exact kx c its s M hq (hrq) (by rw [hc, show s = 2 ^ n by omega]) (by rw [hI, show s = 2 ^ n by omega])
    · refine rr_aload_n pf_269_29 rfl ?_
      refine rr_iload pf_269_30 rfl ?_
      obtain ⟨M3, kq4, hcM3⟩ := ct_R_canBe (xs := xs) (L := L) (d := d) (s := s) (lw := lw) (n := n) (by omega) hW hq.1 hq.2.1 (by rw [rr_q hq (by decide)]; exact hρ) (by rw [rr_q hq (by decide)]; exact hn) hn8 (by rw [rr_q hq (by decide)]; exact hAL) (by omega)
      rw [rr_q hq (by decide)] at hcM3
      obtain rfl := qk_nil kq4
      refine rr_cV1 pf_269_32 po_269 pc_9_527 (ws_228 hW) po_271 (by decide) rfl hcM3 ?_
      refine rr_ifb_eq 53 pf_269_35 (by decide) (fun c6 => ?_) (fun c6 => ?_)
      · have hft := c6
        refine rr_iinc pf_269_53 rfl (fun y => [.ref 228, .int (iI (i)), .int (iI (((c : Nat) : Int))), .int (iI (its)), .int (iI (y))]) (fun _ => rfl) (fun y7 hy7 => ?_)
        refine rr_goto 16 pf_269_56 (by decide) ?_
        obtain ⟨n8, hn8, rfl⟩ : ∃ zz : Nat, zz = 1 + s ∧ y7 = ((zz : Nat) : Int) := ⟨1 + s, rfl, by omega⟩
        exact ih _ (by omega) c its n8 M rfl hq (hrq) (hAL) (by omega) (by rw [show n8 = s + 1 by omega, pcN, if_neg hft]; omega) (by rw [show n8 = s + 1 by omega, pcI, if_neg (fun z => hft z.1)]; omega)
      · have hft := c6
        have hcb := pcN_le lw (rr_ M0) n s
        refine rr_iload_n pf_269_38 rfl ?_
        refine rr_iload_n pf_269_39 rfl ?_
        refine rr_icmp_ne 48 pf_269_40 (by decide) (by unfold rg; omega) hi0 (fun c9 => ?_) (fun c9 => ?_)
        · refine rr_iload_n pf_269_48 rfl ?_
          refine rr_istore_n pf_269_49 (fun y => [.ref 228, .int (iI (i)), .int (iI (((c : Nat) : Int))), .int (iI (y)), .int (iI (((s : Nat) : Int)))]) (Nat.le_of_ble_eq_true rfl) (fun _ => rfl) (fun y10 hy10 => ?_)
          refine rr_iinc pf_269_50 rfl (fun y => [.ref 228, .int (iI (i)), .int (iI (y)), .int (iI (y10)), .int (iI (((s : Nat) : Int)))]) (fun _ => rfl) (fun y11 hy11 => ?_)
          refine rr_iinc pf_269_53 rfl (fun y => [.ref 228, .int (iI (i)), .int (iI (y11)), .int (iI (y10)), .int (iI (y))]) (fun _ => rfl) (fun y12 hy12 => ?_)
          refine rr_goto 16 pf_269_56 (by decide) ?_
          obtain ⟨n13, hn13, rfl⟩ : ∃ zz : Nat, zz = 1 + c ∧ y11 = ((zz : Nat) : Int) := ⟨1 + c, rfl, by omega⟩
          obtain ⟨n14, hn14, rfl⟩ : ∃ zz : Nat, zz = 1 + s ∧ y12 = ((zz : Nat) : Int) := ⟨1 + s, rfl, by omega⟩
          exact ih _ (by omega) n13 y10 n14 M rfl hq (hrq) (hAL) (by omega) (by rw [show n14 = s + 1 by omega, pcN, if_pos hft]; omega) (by rw [show n14 = s + 1 by omega, pcI, if_neg (fun z => by have := z.2; omega)]; omega)
        · refine rr_iload pf_269_43 rfl ?_
          refine rr_goto 49 pf_269_45 (by decide) ?_
          refine rr_istore_n pf_269_49 (fun y => [.ref 228, .int (iI (i)), .int (iI (((c : Nat) : Int))), .int (iI (y)), .int (iI (((s : Nat) : Int)))]) (Nat.le_of_ble_eq_true rfl) (fun _ => rfl) (fun y15 hy15 => ?_)
          refine rr_iinc pf_269_50 rfl (fun y => [.ref 228, .int (iI (i)), .int (iI (y)), .int (iI (y15)), .int (iI (((s : Nat) : Int)))]) (fun _ => rfl) (fun y16 hy16 => ?_)
          refine rr_iinc pf_269_53 rfl (fun y => [.ref 228, .int (iI (i)), .int (iI (y16)), .int (iI (y15)), .int (iI (y))]) (fun _ => rfl) (fun y17 hy17 => ?_)
          refine rr_goto 16 pf_269_56 (by decide) ?_
          obtain ⟨n18, hn18, rfl⟩ : ∃ zz : Nat, zz = 1 + c ∧ y16 = ((zz : Nat) : Int) := ⟨1 + c, rfl, by omega⟩
          obtain ⟨n19, hn19, rfl⟩ : ∃ zz : Nat, zz = 1 + s ∧ y17 = ((zz : Nat) : Int) := ⟨1 + s, rfl, by omega⟩
          exact ih _ (by omega) n18 y15 n19 M rfl hq (hrq) (hAL) (by omega) (by rw [show n19 = s + 1 by omega, pcN, if_pos hft]; omega) (by rw [show n19 = s + 1 by omega, pcI, if_pos ⟨hft, by omega⟩]; omega)
theorem ct_R_preached {xs : Nat → Int} {L d : Nat} {sh : List (Nat × Nat)} {M0 : Nat → Nat → Int} (hd : 10 ≤ d) (hW : px_W0 <+: sh) (hF : px_Fx M0) (hG : px_RG sh M0)  (hρ : sp_ok (rr_ M0)) {lw : List sp_C} (hlw : px_lwR M0 lw) (hord : M0 228 20 = 0) {n : Nat} (hn : rr_ M0 0 = ((n : Nat) : Int)) (hn8 : n ≤ 8) {i : Int} (hi0 : rg i) : ∃ v M, (px_qk sh [228, 246, 248, 253] M0 M ∧ (v = sp_pch lw (rr_ M0) i) ∧ (rz [] M0 M)) ∧ px_Cl xs L d 269 [.ref 228, .int (iI (i))] (sh, M0) (some (.int (iI v))) (sh, M) := by
  obtain ⟨d, rfl⟩ : ∃ e, d = e + 1 := ⟨d - 1, by omega⟩
  have q0 : px_qk sh [228, 246, 248, 253] M0 M0 := ⟨hF, hG, eo_rf⟩
  have h2n := p2_b hn8
  refine vc_i (Nat.le_of_ble_eq_true rfl) ?_
  show px_R xs L d 269 (0, [.ref 228, .int (iI (i)), px_jk, px_jk, px_jk], [], (sh, M0)) (fun r h' => ∃ v M', r = some (.int (iI v)) ∧ h' = (sh, M') ∧ px_qk sh [228, 246, 248, 253] M0 M' ∧ v = sp_pch lw (rr_ M0) i ∧ rz [] M0 M')
  refine rr_aload_n pf_269_0 rfl ?_
  refine rr_iconst pf_269_1 ?_
  refine vr_putI hW q0 pf_269_2 po_269 pg_9_177 (Or.inl rfl) rfl (ws_228 hW) (by decide) (by unfold rg; omega) (by decide) (fun M1 eM1 q2 => ?_)
  have rq3 := rz_up (rz_rf [] M0) eM1 (by decide)
  refine rr_aload_n pf_269_5 rfl ?_
  obtain ⟨M4, ⟨kq5, pa_M4, pf_M4⟩, hcM4⟩ := ct_R_layAll (xs := xs) (L := L) (d := d) (lw := lw) (n := n) (by omega) hW q2.1 q2.2.1 (by rw [rr_q q2 (by decide)]; exact hρ) (lwR_q q2 (by decide) hlw) ((rq3 20 (by decide) (by decide)).trans hord) (by rw [rr_q q2 (by decide)]; exact hn) hn8
  have q5 := qk_trm q2 kq5 (by decide)
  rw [rr_q q2 (by decide)] at pa_M4
  have rq7 := rz_rq rq3 pf_M4
  refine rr_cV0 pf_269_6 po_269 pc_9_524 (ws_228 hW) po_270 (by decide) rfl hcM4 ?_
  
  refine rr_iconst pf_269_9 ?_
  refine rr_istore_n pf_269_10 (fun y => [.ref 228, .int (iI (i)), .int (iI (y)), px_jk, px_jk]) (Nat.le_of_ble_eq_true rfl) (fun _ => rfl) (fun y8 hy8 => ?_)
  refine rr_iconst pf_269_11 ?_
  refine rr_istore_n pf_269_12 (fun y => [.ref 228, .int (iI (i)), .int (iI (y8)), .int (iI (y)), px_jk]) (Nat.le_of_ble_eq_true rfl) (fun _ => rfl) (fun y9 hy9 => ?_)
  refine rr_iconst pf_269_13 ?_
  refine rr_istore pf_269_14 (fun y => [.ref 228, .int (iI (i)), .int (iI (y8)), .int (iI (y9)), .int (iI (y))]) (Nat.le_of_ble_eq_true rfl) (fun _ => rfl) (fun y10 hy10 => ?_)
  obtain ⟨n11, hn11, rfl⟩ : ∃ zz : Nat, zz = 0 ∧ y8 = ((zz : Nat) : Int) := ⟨0, rfl, by omega⟩
  obtain ⟨n12, hn12, rfl⟩ : ∃ zz : Nat, zz = 0 ∧ y10 = ((zz : Nat) : Int) := ⟨0, rfl, by omega⟩
  refine lp_R_preached_16 (xs := xs) (L := L) (d := d) (by omega) hW hρ hn hn8 hi0 (fun c_13 its_14 s_15  M16 q17 xrq_M16 xc_M16 xI_M16 => ?_) _ n11 y9 n12 M4 rfl q5 (rq7) (pa_M4) (by omega) (by rw [show n11 = 0 by omega, show n12 = 0 by omega]; rfl) (by rw [show n12 = 0 by omega]; exact hy9)
  have h2n := p2_b hn8
  have hcb := pcN_le lw (rr_ M0) n (2 ^ n)
  have hxc := xc_M16
  have hxI := xI_M16
  have hIb := pcI_b lw (rr_ M0) n i (2 ^ n)
  refine rr_iload_n pf_269_59 rfl ?_
  refine rr_iconst pf_269_60 ?_
  refine rr_icmp_ne 68 pf_269_61 (by decide) hi0 (by unfold rg; omega) (fun c18 => ?_) (fun c18 => ?_)
  · refine rr_iload_n pf_269_68 rfl ?_
    refine rr_iret pf_269_69 pt_269 ⟨_, M16, rfl, rfl, q17, (by unfold sp_pch; rw [show (rr_ M0 0).toNat = n by omega, if_neg (by omega)]; omega), (xrq_M16)⟩
  · refine rr_iload_n pf_269_64 rfl ?_
    refine rr_goto 69 pf_269_65 (by decide) ?_
    refine rr_iret pf_269_69 pt_269 ⟨_, M16, rfl, rfl, q17, (by unfold sp_pch; rw [show (rr_ M0 0).toNat = n by omega, if_pos (by omega)]; omega), (xrq_M16)⟩
