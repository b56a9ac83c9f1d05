theorem px_up_of (M : Nat → Nat → Int) (a j : Nat) (f : Nat → Int) (x : Int) : px_up (px_cl M a f) a j x = px_cl M a (fun i => if i = j then x else f i) := by
  funext a2 j2
  unfold px_up px_cl
  by_cases h : a2 = a
  · simp only [if_pos h]
  · simp only [if_neg h]
theorem px_cl_id (M : Nat → Nat → Int) (a : Nat) : px_cl M a (M a) = M := by
  funext a2 j2
  unfold px_cl
  split
  · rename_i h; rw [h]
  · rfl
theorem px_cl_congr {M : Nat → Nat → Int} {a : Nat} {f g : Nat → Int} (h : ∀ j, f j = g j) : px_cl M a f = px_cl M a g := by rw [funext h]
theorem px_cl_cl (M : Nat → Nat → Int) (a : Nat) (f g : Nat → Int) : px_cl (px_cl M a f) a g = px_cl M a g := by
  funext a2 j2
  unfold px_cl
  split <;> rfl
theorem lp_Arrays_fillI {xs : Nat → Int} {L d a n : Nat} {sh : List (Nat × Nat)} {M0 : Nat → Nat → Int} {v : Int} (hs : sh[a]? = some (10, n)) (hn : n < 2147483648) (hv : rg v) : ∀ (m i : Nat), i + m = n → ∀ M, M = px_cl M0 a (fun j => if j < i then v else M0 a j) → px_R xs L d 20 (5, [.ref a, .int (iI (v)), .int (iI ((i : Int))), .int (iI ((n : Int)))], [], (sh, M)) (fun r h => r = none ∧ h = (sh, px_cl M0 a (fun j => if j < n then v else M0 a j))) := by
  intro m
  induction m with
  | zero =>
    intro i hi M hM
    refine rr_iload_n pf_20_5 rfl ?_
    refine rr_iload_n pf_20_6 rfl ?_
    refine rr_icmp_ge 20 pf_20_7 (by decide) (by simp only [rg, rl] at *; omega) (by simp only [rg, rl] at *; omega) (fun c1 => ?_) (fun c1 => ?_)
    · refine rr_vret pf_20_20 pt_20 ⟨rfl, by rw [hM, show i = n by omega]⟩
    · exfalso; omega
  | succ m ih =>
    intro i hi M hM
    refine rr_iload_n pf_20_5 rfl ?_
    refine rr_iload_n pf_20_6 rfl ?_
    refine rr_icmp_ge 20 pf_20_7 (by decide) (by simp only [rg, rl] at *; omega) (by simp only [rg, rl] at *; omega) (fun c1 => ?_) (fun c1 => ?_)
    · exfalso; omega
    · refine rr_aload_n pf_20_10 rfl ?_
      refine rr_iload_n pf_20_11 rfl ?_
      refine rr_iload_n pf_20_12 rfl ?_
      refine rr_iast pf_20_13 hs (by omega) (by omega) (by simp only [rg, rl] at *; omega) hv (fun M2 eM2 => ?_)
      refine rr_iinc pf_20_14 rfl (fun y => [.ref a, .int (iI (v)), .int (iI (y)), .int (iI ((n : Int)))]) (fun _ => rfl) (fun y3 hy3 => ?_)
      refine rr_goto 5 pf_20_17 (by decide) ?_
      obtain rfl : y3 = ((i + 1 : Nat) : Int) := by omega
      refine ih (i + 1) (by omega) M2 ?_
      rw [eM2, hM, px_up_of]
      refine px_cl_congr (fun j => ?_)
      by_cases q1 : j = (i : Int).toNat
      · rw [if_pos q1, if_pos (by omega)]
      · rw [if_neg q1]; by_cases q2 : j < i
        · rw [if_pos q2, if_pos (by omega)]
        · rw [if_neg q2, if_neg (by omega)]
theorem ct_Arrays_fillI {xs : Nat → Int} {L d a n : Nat} {sh : List (Nat × Nat)} {M : Nat → Nat → Int} (hd : 1 ≤ d) {v : Int} (hs : sh[a]? = some (10, n)) (hn : n < 2147483648) (hv : rg v) : px_Cl xs L d 20 [.ref a, .int (iI v)] (sh, M) none (sh, px_cl M a (fun j => if j < n then v else M a j)) := by
  obtain ⟨d, rfl⟩ : ∃ e, d = e + 1 := ⟨d - 1, by omega⟩
  refine px_Cl_intro (Nat.le_of_ble_eq_true rfl) ?_
  show px_R xs L d 20 (0, [.ref a, .int (iI (v)), px_jk, px_jk], [], (sh, M)) _
  refine rr_iconst pf_20_0 ?_
  refine rr_istore_n pf_20_1 (fun y => [.ref a, .int (iI (v)), .int (iI (y)), px_jk]) (Nat.le_of_ble_eq_true rfl) (fun _ => rfl) (fun y1 hy1 => ?_)
  refine rr_aload_n pf_20_2 rfl ?_
  refine rr_alen pf_20_3 hs (by decide) ?_
  refine rr_istore_n pf_20_4 (fun y => [.ref a, .int (iI (v)), .int (iI (y1)), .int (iI (y))]) (Nat.le_of_ble_eq_true rfl) (fun _ => rfl) (fun y2 hy2 => ?_)
  obtain rfl : y1 = ((0 : Nat) : Int) := by omega
  obtain rfl : y2 = ((n : Nat) : Int) := by omega
  exact lp_Arrays_fillI hs hn hv n 0 (by omega) M (by rw [show (fun j => if j < 0 then v else M a j) = M a from funext (fun j => if_neg (by omega)), px_cl_id])
theorem lp_Arrays_fillJ {xs : Nat → Int} {L d a n : Nat} {sh : List (Nat × Nat)} {M0 : Nat → Nat → Int} {v : Int} (hs : sh[a]? = some (12, n)) (hn : n < 2147483648) (hv : rl v) : ∀ (m i : Nat), i + m = n → ∀ M, M = px_cl M0 a (fun j => if j < i then v else M0 a j) → px_R xs L d 165 (6, [.ref a, .long (lI (v)), px_jk, .int (iI ((i : Int))), .int (iI ((n : Int)))], [], (sh, M)) (fun r h => r = none ∧ h = (sh, px_cl M0 a (fun j => if j < n then v else M0 a j))) := by
  intro m
  induction m with
  | zero =>
    intro i hi M hM
    refine rr_iload_n pf_165_6 rfl ?_
    refine rr_iload pf_165_7 rfl ?_
    refine rr_icmp_ge 22 pf_165_9 (by decide) (by simp only [rg, rl] at *; omega) (by simp only [rg, rl] at *; omega) (fun c1 => ?_) (fun c1 => ?_)
    · refine rr_vret pf_165_22 pt_165 ⟨rfl, by rw [hM, show i = n by omega]⟩
    · exfalso; omega
  | succ m ih =>
    intro i hi M hM
    refine rr_iload_n pf_165_6 rfl ?_
    refine rr_iload pf_165_7 rfl ?_
    refine rr_icmp_ge 22 pf_165_9 (by decide) (by simp only [rg, rl] at *; omega) (by simp only [rg, rl] at *; omega) (fun c1 => ?_) (fun c1 => ?_)
    · exfalso; omega
    · refine rr_aload_n pf_165_12 rfl ?_
      refine rr_iload_n pf_165_13 rfl ?_
      refine rr_lload_n pf_165_14 rfl ?_
      refine rr_last pf_165_15 hs (by omega) (by omega) (by simp only [rg, rl] at *; omega) (by simp only [rg, rl] at *; omega) (fun M2 eM2 => ?_)
      refine rr_iinc pf_165_16 rfl (fun y => [.ref a, .long (lI (v)), px_jk, .int (iI (y)), .int (iI ((n : Int)))]) (fun _ => rfl) (fun y3 hy3 => ?_)
      refine rr_goto 6 pf_165_19 (by decide) ?_
      obtain rfl : y3 = ((i + 1 : Nat) : Int) := by omega
      refine ih (i + 1) (by omega) M2 ?_
      rw [eM2, hM, px_up_of]
      refine px_cl_congr (fun j => ?_)
      by_cases q1 : j = (i : Int).toNat
      · rw [if_pos q1, if_pos (by omega)]
      · rw [if_neg q1]; by_cases q2 : j < i
        · rw [if_pos q2, if_pos (by omega)]
        · rw [if_neg q2, if_neg (by omega)]
theorem ct_Arrays_fillJ {xs : Nat → Int} {L d a n : Nat} {sh : List (Nat × Nat)} {M : Nat → Nat → Int} (hd : 1 ≤ d) {v : Int} (hs : sh[a]? = some (12, n)) (hn : n < 2147483648) (hv : rl v) : px_Cl xs L d 165 [.ref a, .long (lI v)] (sh, M) none (sh, px_cl M a (fun j => if j < n then v else M a j)) := by
  obtain ⟨d, rfl⟩ : ∃ e, d = e + 1 := ⟨d - 1, by omega⟩
  refine px_Cl_intro (Nat.le_of_ble_eq_true rfl) ?_
  show px_R xs L d 165 (0, [.ref a, .long (lI (v)), px_jk, px_jk, px_jk], [], (sh, M)) _
  refine rr_iconst pf_165_0 ?_
  refine rr_istore_n pf_165_1 (fun y => [.ref a, .long (lI (v)), px_jk, .int (iI (y)), px_jk]) (Nat.le_of_ble_eq_true rfl) (fun _ => rfl) (fun y1 hy1 => ?_)
  refine rr_aload_n pf_165_2 rfl ?_
  refine rr_alen pf_165_3 hs (by decide) ?_
  refine rr_istore pf_165_4 (fun y => [.ref a, .long (lI (v)), px_jk, .int (iI (y1)), .int (iI (y))]) (Nat.le_of_ble_eq_true rfl) (fun _ => rfl) (fun y2 hy2 => ?_)
  obtain rfl : y1 = ((0 : Nat) : Int) := by omega
  obtain rfl : y2 = ((n : Nat) : Int) := by omega
  exact lp_Arrays_fillJ hs hn hv n 0 (by omega) M (by rw [show (fun j => if j < 0 then v else M a j) = M a from funext (fun j => if_neg (by omega)), px_cl_id])
theorem ct_Church_isWord {xs : Nat → Int} {L d : Nat} {sh : List (Nat × Nat)} {M : Nat → Nat → Int} (hd : 2 ≤ d) (hW : px_W0 <+: sh) (hF : px_Fx M) (hG : px_RG sh M) {cb : Nat} (hcb : px_ch cb) {v : Int} (hv : rg v) (hb : 0 ≤ M cb 6) : px_Cl xs L d 17 [.ref cb, .int (iI (v))] (sh, M) (some (.int (iI (bI (0 ≤ v ∧ v ≤ M cb 6 - 1))))) (sh, M) := by
  obtain ⟨d, rfl⟩ : ∃ e, d = e + 1 := ⟨d - 1, by omega⟩
  refine px_Cl_intro (Nat.le_of_ble_eq_true rfl) ?_
  show px_R xs L d 17 (0, [.ref cb, .int (iI (v))], [], (sh, M)) _
  have hr := rg_at hG (cs_z hW hcb) (j := 6) (by decide)
  refine rr_iload_n pf_17_0 rfl ?_
  refine rr_iconst pf_17_1 ?_
  refine rr_aload_n pf_17_2 rfl ?_
  refine rr_getI pf_17_3 po_17 pg_0_37 rfl (cs_z hW hcb) (by decide) ?_
  refine rr_iconst pf_17_6 ?_
  refine rr_isub pf_17_7 ?_
  refine rr_cS3 pf_17_8 po_17 pc_0_76 (by decide) rfl (ct_S_within (by omega) hv (by simp only [rg, rl] at *; omega) (by simp only [rg, rl] at *; omega)) ?_
  refine rr_zret pf_17_11 pt_17 (by have := bI_rg (0 ≤ v ∧ v ≤ ((M cb 6) - 1)); omega) ⟨rfl, rfl⟩
theorem ct_Church_isListener {xs : Nat → Int} {L d : Nat} {sh : List (Nat × Nat)} {M : Nat → Nat → Int} (hd : 2 ≤ d) (hW : px_W0 <+: sh) (hF : px_Fx M) (hG : px_RG sh M) {cb : Nat} (hcb : px_ch cb) {v : Int} (hv : rg v) (hb : 0 ≤ M cb 7) : px_Cl xs L d 40 [.ref cb, .int (iI (v))] (sh, M) (some (.int (iI (bI (0 ≤ v ∧ v ≤ M cb 7 - 1))))) (sh, M) := by
  obtain ⟨d, rfl⟩ : ∃ e, d = e + 1 := ⟨d - 1, by omega⟩
  refine px_Cl_intro (Nat.le_of_ble_eq_true rfl) ?_
  show px_R xs L d 40 (0, [.ref cb, .int (iI (v))], [], (sh, M)) _
  have hr := rg_at hG (cs_z hW hcb) (j := 7) (by decide)
  refine rr_iload_n pf_40_0 rfl ?_
  refine rr_iconst pf_40_1 ?_
  refine rr_aload_n pf_40_2 rfl ?_
  refine rr_getI pf_40_3 po_40 pg_0_41 rfl (cs_z hW hcb) (by decide) ?_
  refine rr_iconst pf_40_6 ?_
  refine rr_isub pf_40_7 ?_
  refine rr_cS3 pf_40_8 po_40 pc_0_76 (by decide) rfl (ct_S_within (by omega) hv (by simp only [rg, rl] at *; omega) (by simp only [rg, rl] at *; omega)) ?_
  refine rr_zret pf_40_11 pt_40 (by have := bI_rg (0 ≤ v ∧ v ≤ ((M cb 7) - 1)); omega) ⟨rfl, rfl⟩
theorem ct_Church_isLaw {xs : Nat → Int} {L d : Nat} {sh : List (Nat × Nat)} {M : Nat → Nat → Int} (hd : 2 ≤ d) (hW : px_W0 <+: sh) (hF : px_Fx M) (hG : px_RG sh M) {cb : Nat} (hcb : px_ch cb) {v : Int} (hv : rg v) (hb : 0 ≤ M cb 9) : px_Cl xs L d 23 [.ref cb, .int (iI (v))] (sh, M) (some (.int (iI (bI (0 ≤ v ∧ v ≤ M cb 9 - 1))))) (sh, M) := by
  obtain ⟨d, rfl⟩ : ∃ e, d = e + 1 := ⟨d - 1, by omega⟩
  refine px_Cl_intro (Nat.le_of_ble_eq_true rfl) ?_
  show px_R xs L d 23 (0, [.ref cb, .int (iI (v))], [], (sh, M)) _
  have hr := rg_at hG (cs_z hW hcb) (j := 9) (by decide)
  refine rr_iload_n pf_23_0 rfl ?_
  refine rr_iconst pf_23_1 ?_
  refine rr_aload_n pf_23_2 rfl ?_
  refine rr_getI pf_23_3 po_23 pg_0_47 rfl (cs_z hW hcb) (by decide) ?_
  refine rr_iconst pf_23_6 ?_
  refine rr_isub pf_23_7 ?_
  refine rr_cS3 pf_23_8 po_23 pc_0_76 (by decide) rfl (ct_S_within (by omega) hv (by simp only [rg, rl] at *; omega) (by simp only [rg, rl] at *; omega)) ?_
  refine rr_zret pf_23_11 pt_23 (by have := bI_rg (0 ≤ v ∧ v ≤ ((M cb 9) - 1)); omega) ⟨rfl, rfl⟩
theorem ct_Church_awayOf {xs : Nat → Int} {L d : Nat} {sh : List (Nat × Nat)} {M : Nat → Nat → Int} (hd : 2 ≤ d) (hW : px_W0 <+: sh) (hF : px_Fx M) (hG : px_RG sh M) {cb : Nat} (hcb : px_ch cb) {p : Int} (hp : 0 ≤ p ∧ p < 16) (hq : 0 ≤ M (cb + 1) 3 ∧ M (cb + 1) 3 < 16) : px_Cl xs L d 28 [.ref cb, .int (iI (p))] (sh, M) (some (.int (iI (aw p (M (cb + 1) 3))))) (sh, M) := by
  obtain ⟨d, rfl⟩ : ∃ e, d = e + 1 := ⟨d - 1, by omega⟩
  refine px_Cl_intro (Nat.le_of_ble_eq_true rfl) ?_
  show px_R xs L d 28 (0, [.ref cb, .int (iI (p))], [], (sh, M)) _
  refine rr_iload_n pf_28_0 rfl ?_
  refine rr_aload_n pf_28_1 rfl ?_
  refine rr_getR pf_28_2 po_28 pg_0_12 rfl (cs_z hW hcb) (by decide) (cf_0_0 hF hcb) ?_
  refine rr_getI pf_28_5 po_28 pg_0_86 rfl (cs_1 hW hcb) (by decide) ?_
  refine rr_cS2 pf_28_8 po_28 pc_0_89 (by decide) rfl (ct_S_distance (by omega) (by omega) (by omega)) ?_
  refine rr_iret pf_28_11 pt_28 ⟨rfl, rfl⟩
theorem ct_Church_termOf {xs : Nat → Int} {L d : Nat} {sh : List (Nat × Nat)} {M : Nat → Nat → Int} (hd : 1 ≤ d) (hW : px_W0 <+: sh) (hF : px_Fx M) (hG : px_RG sh M) {cb : Nat} (hcb : px_ch cb) {v : Int} (hv : rg v) : px_Cl xs L d 47 [.ref cb, .int (iI (v))] (sh, M) (some (.int (iI (if v = 0 then M (cb + 1) 4 else if v = 1 then M cb 11 else M cb 12)))) (sh, M) := by
  obtain ⟨d, rfl⟩ : ∃ e, d = e + 1 := ⟨d - 1, by omega⟩
  refine px_Cl_intro (Nat.le_of_ble_eq_true rfl) ?_
  show px_R xs L d 47 (0, [.ref cb, .int (iI (v))], [], (sh, M)) _
  refine rr_iload_n pf_47_0 rfl ?_
  refine rr_if_ne 12 pf_47_1 (by decide) hv (fun c1 => ?_) (fun c1 => ?_)
  · refine rr_iload_n pf_47_12 rfl ?_
    refine rr_iconst pf_47_13 ?_
    refine rr_icmp_ne 24 pf_47_14 (by decide) hv (by simp only [rg, rl] at *; omega) (fun c2 => ?_) (fun c2 => ?_)
    · refine rr_aload_n pf_47_24 rfl ?_
      refine rr_getI pf_47_25 po_47 pg_0_56 rfl (cs_z hW hcb) (by decide) ?_
      refine rr_iret pf_47_28 pt_47 ⟨by congr 3; split <;> (try split) <;> first | rfl | omega, rfl⟩
    · refine rr_aload_n pf_47_17 rfl ?_
      refine rr_getI pf_47_18 po_47 pg_0_53 rfl (cs_z hW hcb) (by decide) ?_
      refine rr_goto 28 pf_47_21 (by decide) ?_
      refine rr_iret pf_47_28 pt_47 ⟨by congr 3; split <;> (try split) <;> first | rfl | omega, rfl⟩
  · refine rr_aload_n pf_47_4 rfl ?_
    refine rr_getR pf_47_5 po_47 pg_0_12 rfl (cs_z hW hcb) (by decide) (cf_0_0 hF hcb) ?_
    refine rr_getI pf_47_8 po_47 pg_0_83 rfl (cs_1 hW hcb) (by decide) ?_
    refine rr_iret pf_47_11 pt_47 ⟨by congr 3; split <;> (try split) <;> first | rfl | omega, rfl⟩
theorem ct_Church_upperPaneOf {xs : Nat → Int} {L d : Nat} {sh : List (Nat × Nat)} {M : Nat → Nat → Int} (hd : 1 ≤ d) (hW : px_W0 <+: sh) (hF : px_Fx M) (hG : px_RG sh M) {cb : Nat} (hcb : px_ch cb) {v : Int} (hv : 0 ≤ v ∧ v < 8) (hh : 0 ≤ M (cb + 1) 4 ∧ M (cb + 1) 4 ≤ 2000) : px_Cl xs L d 42 [.ref cb, .int (iI (v))] (sh, M) (some (.int (iI ((if v < 4 then 0 else 8) + (v + M (cb + 1) 4) % 4)))) (sh, M) := by
  obtain ⟨d, rfl⟩ : ∃ e, d = e + 1 := ⟨d - 1, by omega⟩
  refine px_Cl_intro (Nat.le_of_ble_eq_true rfl) ?_
  show px_R xs L d 42 (0, [.ref cb, .int (iI (v)), px_jk], [], (sh, M)) _
  refine rr_iload_n pf_42_0 rfl ?_
  refine rr_aload_n pf_42_1 rfl ?_
  refine rr_getR pf_42_2 po_42 pg_0_12 rfl (cs_z hW hcb) (by decide) (cf_0_0 hF hcb) ?_
  refine rr_getI pf_42_5 po_42 pg_0_83 rfl (cs_1 hW hcb) (by decide) ?_
  refine rr_iadd pf_42_8 ?_
  refine rr_iconst pf_42_9 ?_
  refine rr_iremP pf_42_10 (by simp only [rg, rl] at *; omega) (by simp only [rg, rl] at *; omega) (by omega) (by omega) ?_
  refine rr_istore_n pf_42_11 (fun y => [.ref cb, .int (iI (v)), .int (iI (y))]) (Nat.le_of_ble_eq_true rfl) (fun _ => rfl) (fun y1 hy1 => ?_)
  refine rr_iload_n pf_42_12 rfl ?_
  refine rr_iconst pf_42_13 ?_
  refine rr_icmp_ge 21 pf_42_14 (by decide) (by simp only [rg, rl] at *; omega) (by simp only [rg, rl] at *; omega) (fun c2 => ?_) (fun c2 => ?_)
  · refine rr_bipush pf_42_21 (by decide) ?_
    refine rr_iload_n pf_42_23 rfl ?_
    refine rr_iadd pf_42_24 ?_
    refine rr_iret pf_42_25 pt_42 ⟨by congr 3; split <;> omega, rfl⟩
  · refine rr_iconst pf_42_17 ?_
    refine rr_goto 23 pf_42_18 (by decide) ?_
    refine rr_iload_n pf_42_23 rfl ?_
    refine rr_iadd pf_42_24 ?_
    refine rr_iret pf_42_25 pt_42 ⟨by congr 3; split <;> omega, rfl⟩
