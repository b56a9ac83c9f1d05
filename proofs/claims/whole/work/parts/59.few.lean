/-! few, place, rows -/
def fw (c : Int) : Nat → Nat → Int
  | 0, i => if i = 0 then 1000000000000 else 0
  | n + 1, 0 => fw c n 0 * (10 - c) / 10
  | n + 1, i + 1 => fw c n (i + 1) * (10 - c) / 10 + fw c n i * c / 10
def fwS (c : Int) (n : Nat) : Nat → Int
  | 0 => 0
  | k + 1 => fwS c n k + fw c n k
theorem fw_nn {c : Int} (hc : 0 ≤ c ∧ c ≤ 10) : ∀ n i, 0 ≤ fw c n i := by
  intro n
  induction n with
  | zero => intro i; unfold fw; split <;> omega
  | succ n ih =>
    intro i
    cases i with
    | zero => exact Int.ediv_nonneg (Int.mul_nonneg (ih 0) (by omega)) (by decide)
    | succ i =>
      have a := Int.ediv_nonneg (Int.mul_nonneg (ih (i + 1)) (show (0 : Int) ≤ 10 - c by omega)) (show (0 : Int) ≤ 10 by decide)
      have b := Int.ediv_nonneg (Int.mul_nonneg (ih i) (show (0 : Int) ≤ c by omega)) (show (0 : Int) ≤ 10 by decide)
      simp only [fw]
      omega
theorem fw_split {c a : Int} : a * (10 - c) / 10 + a * c / 10 ≤ a := by
  have h : a * (10 - c) = 10 * a - a * c := by rw [Int.mul_sub]; omega
  omega
theorem fwS_le {c : Int} (hc : 0 ≤ c ∧ c ≤ 10) : ∀ n k, fwS c n k ≤ 1000000000000 := by
  intro n
  induction n with
  | zero =>
    intro k
    have : ∀ k, fwS c 0 (k + 1) = 1000000000000 := by
      intro k
      induction k with
      | zero => simp [fwS, fw]
      | succ k ih => rw [fwS, ih]; simp [fw]
    cases k with
    | zero => simp [fwS]
    | succ k => rw [this k]; omega
  | succ n ih =>
    have key : ∀ k, fwS c (n + 1) (k + 1) + fw c n k * c / 10 ≤ fwS c n (k + 1) := by
      intro k
      induction k with
      | zero =>
        have := fw_split (c := c) (a := fw c n 0)
        simp only [fwS, fw]
        omega
      | succ k ihk =>
        have := fw_split (c := c) (a := fw c n (k + 1))
        rw [fwS, show fwS c n (k + 1 + 1) = fwS c n (k + 1) + fw c n (k + 1) from rfl]
        simp only [fw]
        omega
    intro k
    cases k with
    | zero => simp [fwS]
    | succ k =>
      have a := key k
      have b := ih (k + 1)
      have e := Int.ediv_nonneg (Int.mul_nonneg (fw_nn hc n k) (show (0 : Int) ≤ c by omega)) (show (0 : Int) ≤ 10 by decide)
      omega
theorem fwS_nn {c : Int} (hc : 0 ≤ c ∧ c ≤ 10) : ∀ n k, 0 ≤ fwS c n k := by
  intro n k
  induction k with
  | zero => simp [fwS]
  | succ k ih => have := fw_nn hc n k; simp only [fwS]; omega
theorem fw_le {c : Int} (hc : 0 ≤ c ∧ c ≤ 10) (n i : Nat) : fw c n i ≤ 1000000000000 := by
  have a := fwS_le hc n (i + 1)
  have b := fwS_nn hc n i
  simp only [fwS] at a
  omega
def sp_few (ρ : Nat → Int) (k n : Int) : Int := if (1 ≤ k ∧ k ≤ 20) ∧ 0 ≤ n ∧ n ≤ 99 then fwS (ρ 6) n.toNat k.toNat else -1
theorem mul10 {a c : Int} (ha : 0 ≤ a ∧ a ≤ 1000000000000) (hc : 0 ≤ c ∧ c ≤ 10) : 0 ≤ a * c ∧ a * c ≤ 10000000000000 := by
  refine ⟨Int.mul_nonneg ha.1 hc.1, ?_⟩
  have h1 : a * c ≤ a * 10 := Int.mul_le_mul_of_nonneg_left hc.2 ha.1
  omega
theorem lp_R_few1_35 {xs : Nat → Int} {L d : Nat} {sh : List (Nat × Nat)} (hd : 1 ≤ d) (hW : px_W0 <+: sh) {M0 : Nat → Nat → Int}  (hρ : sp_ok (rr_ M0)) {k n : Int} (hk0 : 1 ≤ k ∧ k ≤ 20) (hn0 : 0 ≤ n ∧ n ≤ 99)  {Q : Option Value → px_H → Prop} (kx : ∀ (i : Nat) (v4 : Value) (v5 : Value) (v6 : Value) (v7 : Value) (M : Nat → Nat → Int), px_qk sh [228, 260] M0 M → (rz [] M0 M) → (∀ j, j < 21 → M 260 j = fw (rr_ M0 6) 0 j) → px_R xs L d 291 (64, [.ref 228, .int (iI (k)), .int (iI (n)), .int (iI (((i : Nat) : Int))), v4, v5, v6, v7], [], (sh, M)) Q)  : ∀ (mz : Nat) (i : Nat) (v4 : Value) (v5 : Value) (v6 : Value) (v7 : Value) (M : Nat → Nat → Int), 21 - i = mz → px_qk sh [228, 260] M0 M → (rz [] M0 M) → (i ≤ 21) → (∀ j, j < i → M 260 j = fw (rr_ M0 6) 0 j) → px_R xs L d 291 (35, [.ref 228, .int (iI (k)), .int (iI (n)), .int (iI (((i : Nat) : Int))), v4, v5, v6, v7], [], (sh, M)) Q := by
  intro mz
  induction mz using Nat.strongRecOn with
  | _ mz ih =>
    intro i v4 v5 v6 v7 M hm hq hrq hi hv
    refine rr_iload_n pf_291_35 rfl ?_
    refine rr_bipush pf_291_36 (by decide) ?_
    refine rr_icmp_ge 64 pf_291_38 (by decide) (by unfold rg; omega) (by unfold rg; omega) (fun c1 => ?_) (fun c1 => ?_)
    · exact kx i _ _ _ _ M hq (hrq) (by intro j hj; exact hv j (by omega))
    · refine rr_aload_n pf_291_41 rfl ?_
      refine rr_getR pf_291_42 po_291 pg_9_149 rfl (ws_228 hW) (by decide) (wr_228_52 hq.1) ?_
      refine rr_iload_n pf_291_45 rfl ?_
      refine rr_iload_n pf_291_46 rfl ?_
      refine rr_if_ne 56 pf_291_47 (by decide) (by unfold rg; omega) (fun c2 => ?_) (fun c2 => ?_)
      · refine rr_lconst (w := 0) pf_291_56 rfl ?_
        refine vr_last (j := i) hW hq pf_291_57 (ws_260 hW) (by omega) (by omega) (by decide) (by unfold rl; omega) (by decide) (fun M3 eM3 q4 => ?_)
        have rq5 := rz_ne hrq eM3 (by decide)
        refine rr_iinc pf_291_58 rfl (fun y => [.ref 228, .int (iI (k)), .int (iI (n)), .int (iI (y)), v4, v5, v6, v7]) (fun _ => rfl) (fun y6 hy6 => ?_)
        refine rr_goto 35 pf_291_61 (by decide) ?_
        obtain ⟨n7, hn7, rfl⟩ : ∃ zz : Nat, zz = 1 + i ∧ y6 = ((zz : Nat) : Int) := ⟨1 + i, rfl, by omega⟩
        exact ih _ (by omega) n7 _ _ _ _ M3 rfl q4 (rq5) (by omega) (by
                      intro j hj; rw [eM3, ask_up]; by_cases hc : j = i
                      · rw [if_pos hc, hc]; unfold fw; rw [if_neg (by omega)]
                      · rw [if_neg hc]; exact hv j (by omega))
      · refine rr_ldc2_w pf_291_50 po_291 pl_9_559 ?_
        refine rr_goto 57 pf_291_53 (by decide) ?_
        refine vr_last (j := i) hW hq pf_291_57 (ws_260 hW) (by omega) (by omega) (by decide) (by unfold rl; omega) (by decide) (fun M8 eM8 q9 => ?_)
        have rq10 := rz_ne hrq eM8 (by decide)
        refine rr_iinc pf_291_58 rfl (fun y => [.ref 228, .int (iI (k)), .int (iI (n)), .int (iI (y)), v4, v5, v6, v7]) (fun _ => rfl) (fun y11 hy11 => ?_)
        refine rr_goto 35 pf_291_61 (by decide) ?_
        obtain ⟨n12, hn12, rfl⟩ : ∃ zz : Nat, zz = 1 + i ∧ y11 = ((zz : Nat) : Int) := ⟨1 + i, rfl, by omega⟩
        exact ih _ (by omega) n12 _ _ _ _ M8 rfl q9 (rq10) (by omega) (by
                      intro j hj; rw [eM8, ask_up]; by_cases hc : j = i
                      · rw [if_pos hc, hc]; unfold fw; rw [if_pos (by omega)]
                      · rw [if_neg hc]; exact hv j (by omega))
theorem lp_R_few1_86 {xs : Nat → Int} {L d : Nat} {sh : List (Nat × Nat)} (hd : 1 ≤ d) (hW : px_W0 <+: sh) {M0 : Nat → Nat → Int}  (hρ : sp_ok (rr_ M0)) {k n : Int} (hk0 : 1 ≤ k ∧ k ≤ 20) (hn0 : 0 ≤ n ∧ n ≤ 99) {m : Nat} (hm2 : (m : Int) < n) {Q : Option Value → px_H → Prop} (kx : ∀ (i : Int) (v6 : Value) (v7 : Value) (M : Nat → Nat → Int), px_qk sh [228, 260] M0 M → (rz [] M0 M) → (0 ≤ M 260 k.toNat ∧ M 260 k.toNat ≤ 1000000000000 * ((m : Int) + 1)) → (∀ j : Nat, (j : Int) < k → M 260 j = fw (rr_ M0 6) (m + 1) j) → px_R xs L d 291 (146, [.ref 228, .int (iI (k)), .int (iI (n)), .int (iI (rr_ M0 6)), .int (iI (((m : Nat) : Int))), .int (iI (i)), v6, v7], [], (sh, M)) Q)  : ∀ (mz : Nat) (i : Int) (v6 : Value) (v7 : Value) (M : Nat → Nat → Int), (i + 1).toNat = mz → px_qk sh [228, 260] M0 M → (rz [] M0 M) → (-1 ≤ i ∧ i < k) → (0 ≤ M 260 k.toNat ∧ M 260 k.toNat ≤ 1000000000000 * (m : Int) + 1000000000000 ∧ (i = k - 1 → M 260 k.toNat ≤ 1000000000000 * (m : Int))) → (∀ j : Nat, (j : Int) < k → M 260 j = if (j : Int) ≤ i then fw (rr_ M0 6) m j else if (j : Int) = i + 1 then fw (rr_ M0 6) m j * (10 - rr_ M0 6) / 10 else fw (rr_ M0 6) (m + 1) j) → px_R xs L d 291 (86, [.ref 228, .int (iI (k)), .int (iI (n)), .int (iI (rr_ M0 6)), .int (iI (((m : Nat) : Int))), .int (iI (i)), v6, v7], [], (sh, M)) Q := by
  intro mz
  induction mz using Nat.strongRecOn with
  | _ mz ih =>
    intro i v6 v7 M hm hq hrq hi hg hv
    have hcm := hρ.2.2.2.2.2.2.1
    refine rr_iload pf_291_86 rfl ?_
    refine rr_if_lt 146 pf_291_88 (by decide) (by unfold rg; omega) (fun c1 => ?_) (fun c1 => ?_)
    · exact kx i _ _ M hq (hrq) (by omega) (by
                  intro j hj; rw [hv j hj, if_neg (by omega)]; by_cases h0 : j = 0
                  · rw [if_pos (by omega), h0]; rfl
                  · rw [if_neg (by omega)])
    · refine rr_aload_n pf_291_91 rfl ?_
      refine rr_getR pf_291_92 po_291 pg_9_149 rfl (ws_228 hW) (by decide) (wr_228_52 hq.1) ?_
      refine rr_iload pf_291_95 rfl ?_
      refine vr_lald (j := i.toNat) hq pf_291_97 (ws_260 hW) (by omega) (by omega) (by decide) (fun x2 hx2 rx2 => ?_)
      rw [hv i.toNat (by omega), if_pos (by omega)] at hx2
      have hfb := fw_nn hcm m i.toNat
      have hfl := fw_le hcm m i.toNat
      refine rr_lstore pf_291_98 (fun y => [.ref 228, .int (iI (k)), .int (iI (n)), .int (iI (rr_ M0 6)), .int (iI (((m : Nat) : Int))), .int (iI (i)), .long (lI (y)), px_jk]) (Nat.le_of_ble_eq_true rfl) (fun _ => rfl) (fun y3 hy3 => ?_)
      have ry3 : rl y3 := hy3 ▸ rx2
      have hmA := mul10 (a := y3) (c := 10 - rr_ M0 6) (by omega) (by omega)
      have hmB := mul10 (a := y3) (c := rr_ M0 6) (by omega) (by omega)
      refine rr_aload_n pf_291_100 rfl ?_
      refine rr_getR pf_291_101 po_291 pg_9_149 rfl (ws_228 hW) (by decide) (wr_228_52 hq.1) ?_
      refine rr_iload pf_291_104 rfl ?_
      refine rr_lload pf_291_106 rfl ?_
      refine rr_bipush pf_291_108 (by decide) ?_
      refine rr_iload_n pf_291_110 rfl ?_
      refine rr_isub pf_291_111 ?_
      refine rr_i2l pf_291_112 (by unfold rg; omega) ?_
      refine rr_lmul pf_291_113 ?_
      refine rr_ldc2_w pf_291_114 po_291 pl_9_259 ?_
      refine rr_ldivP pf_291_117 (by unfold rl; omega) (by unfold rl; omega) (by omega) (by omega) ?_
      refine vr_last (j := i.toNat) hW hq pf_291_118 (ws_260 hW) (by omega) (by omega) (by decide) (by unfold rl; omega) (by decide) (fun M4 eM4 q5 => ?_)
      have rq6 := rz_ne hrq eM4 (by decide)
      refine rr_aload_n pf_291_119 rfl ?_
      refine rr_getR pf_291_120 po_291 pg_9_149 rfl (ws_228 hW) (by decide) (wr_228_52 q5.1) ?_
      refine rr_iload pf_291_123 rfl ?_
      refine rr_iconst pf_291_125 ?_
      refine rr_iadd pf_291_126 ?_
      refine rr_dup2 pf_291_127 rfl rfl ?_
      refine vr_lald (j := i.toNat + 1) q5 pf_291_128 (ws_260 hW) (by omega) (by omega) (by decide) (fun x7 hx7 rx7 => ?_)
      have hb28 : 0 ≤ x7 ∧ x7 ≤ 100000000000000 := by
        by_cases hz : k.toNat = i.toNat + 1
        · rw [hx7, eM4, up_ne (by omega), ← hz]; omega
        · rw [hx7, eM4, up_ne (by omega), hv _ (by omega), if_neg (by omega), if_pos (by omega)]
          have z1 := fw_nn hcm m (i.toNat + 1)
          have z2 := fw_le hcm m (i.toNat + 1)
          have z3 := mul10 (a := fw (rr_ M0 6) m (i.toNat + 1)) (c := 10 - rr_ M0 6) (by omega) (by omega)
          omega
      have hw28 : (i + 1 < k → x7 = fw (rr_ M0 6) m (i.toNat + 1) * (10 - rr_ M0 6) / 10) := by
        intro hik
        rw [hx7, eM4, up_ne (by omega), hv _ (by omega), if_neg (by omega), if_pos (by omega)]
      refine rr_lload pf_291_129 rfl ?_
      refine rr_iload_n pf_291_131 rfl ?_
      refine rr_i2l pf_291_132 (by unfold rg; omega) ?_
      refine rr_lmul pf_291_133 ?_
      refine rr_ldc2_w pf_291_134 po_291 pl_9_259 ?_
      refine rr_ldivP pf_291_137 (by unfold rl; omega) (by unfold rl; omega) (by omega) (by omega) ?_
      refine rr_ladd pf_291_138 ?_
      refine vr_last (j := i.toNat + 1) hW q5 pf_291_139 (ws_260 hW) (by omega) (by omega) (by decide) (by unfold rl; omega) (by decide) (fun M8 eM8 q9 => ?_)
      have rq10 := rz_ne rq6 eM8 (by decide)
      refine rr_iinc pf_291_140 rfl (fun y => [.ref 228, .int (iI (k)), .int (iI (n)), .int (iI (rr_ M0 6)), .int (iI (((m : Nat) : Int))), .int (iI (y)), .long (lI (y3)), px_jk]) (fun _ => rfl) (fun y11 hy11 => ?_)
      refine rr_goto 86 pf_291_143 (by decide) ?_
      exact ih _ (by omega) y11 _ _ M8 rfl q9 (rq10) (by omega) (by
                  rw [eM8, ask_up]; by_cases hz : k.toNat = i.toNat + 1
                  · rw [if_pos hz]; have hx28 : x7 = M 260 k.toNat := by rw [hx7, eM4, up_ne (by omega), hz]
                    omega
                  · rw [if_neg hz, eM4, up_ne (by omega)]; omega) (by
                  intro j hj
                  obtain ⟨q, rfl⟩ : ∃ q : Nat, i = (q : Int) := ⟨i.toNat, by omega⟩
                  rw [eM8, ask_up]
                  by_cases h1 : j = q + 1
                  · rw [if_pos (by omega), if_neg (by omega), if_neg (by omega), h1]
                    show _ = fw (rr_ M0 6) m (q + 1) * (10 - rr_ M0 6) / 10 + fw (rr_ M0 6) m q * rr_ M0 6 / 10
                    subst_vars; simp only [Int.toNat_natCast] at *
                    omega
                  · rw [if_neg (by omega), eM4, ask_up]; by_cases h2 : j = q
                    · rw [if_pos (by omega), if_neg (by omega), if_pos (by omega), h2]; subst_vars; simp only [Int.toNat_natCast] at *
                    · rw [if_neg (by omega), hv j hj]; by_cases h3 : (j : Int) ≤ (q : Int)
                      · rw [if_pos h3, if_pos (by omega)]
                      · rw [if_neg h3, if_neg (by omega), if_neg (by omega), if_neg (by omega)])
theorem lp_R_few1_75 {xs : Nat → Int} {L d : Nat} {sh : List (Nat × Nat)} (hd : 1 ≤ d) (hW : px_W0 <+: sh) {M0 : Nat → Nat → Int}  (hρ : sp_ok (rr_ M0)) {k n : Int} (hk0 : 1 ≤ k ∧ k ≤ 20) (hn0 : 0 ≤ n ∧ n ≤ 99)  {Q : Option Value → px_H → Prop} (kx : ∀ (m : Nat) (v5 : Value) (v6 : Value) (v7 : Value) (M : Nat → Nat → Int), px_qk sh [228, 260] M0 M → (rz [] M0 M) → (∀ j : Nat, (j : Int) < k → M 260 j = fw (rr_ M0 6) n.toNat j) → px_R xs L d 291 (152, [.ref 228, .int (iI (k)), .int (iI (n)), .int (iI (rr_ M0 6)), .int (iI (((m : Nat) : Int))), v5, v6, v7], [], (sh, M)) Q)  : ∀ (mz : Nat) (m : Nat) (v5 : Value) (v6 : Value) (v7 : Value) (M : Nat → Nat → Int), n.toNat - m = mz → px_qk sh [228, 260] M0 M → (rz [] M0 M) → ((m : Int) ≤ n) → (0 ≤ M 260 k.toNat ∧ M 260 k.toNat ≤ 1000000000000 * (m : Int)) → (∀ j : Nat, (j : Int) < k → M 260 j = fw (rr_ M0 6) m j) → px_R xs L d 291 (75, [.ref 228, .int (iI (k)), .int (iI (n)), .int (iI (rr_ M0 6)), .int (iI (((m : Nat) : Int))), v5, v6, v7], [], (sh, M)) Q := by
  intro mz
  induction mz using Nat.strongRecOn with
  | _ mz ih =>
    intro m v5 v6 v7 M hm hq hrq hm2 hg hv
    refine rr_iload pf_291_75 rfl ?_
    refine rr_iload_n pf_291_77 rfl ?_
    refine rr_icmp_ge 152 pf_291_78 (by decide) (by unfold rg; omega) (by unfold rg; omega) (fun c1 => ?_) (fun c1 => ?_)
    · exact kx m _ _ _ M hq (hrq) (by intro j hj; rw [show n.toNat = m by omega]; exact hv j hj)
    · refine rr_iload_n pf_291_81 rfl ?_
      refine rr_iconst pf_291_82 ?_
      refine rr_isub pf_291_83 ?_
      refine rr_istore pf_291_84 (fun y => [.ref 228, .int (iI (k)), .int (iI (n)), .int (iI (rr_ M0 6)), .int (iI (((m : Nat) : Int))), .int (iI (y)), v6, v7]) (Nat.le_of_ble_eq_true rfl) (fun _ => rfl) (fun y2 hy2 => ?_)
      refine lp_R_few1_86 (xs := xs) (L := L) (d := d) (by omega) hW hρ hk0 hn0 (by omega) (fun i_3 v6 v7 M4 q5 xrq_M4 xg_M4 xw_M4 => ?_) _ y2 _ _ M rfl hq (hrq) (by omega) (by omega) (by intro j hj; rw [if_pos (by omega)]; exact hv j hj)
      refine rr_iinc pf_291_146 rfl (fun y => [.ref 228, .int (iI (k)), .int (iI (n)), .int (iI (rr_ M0 6)), .int (iI (y)), .int (iI (i_3)), v6, v7]) (fun _ => rfl) (fun y8 hy8 => ?_)
      refine rr_goto 75 pf_291_149 (by decide) ?_
      obtain ⟨n9, hn9, rfl⟩ : ∃ zz : Nat, zz = 1 + m ∧ y8 = ((zz : Nat) : Int) := ⟨1 + m, rfl, by omega⟩
      exact ih _ (by omega) n9 _ _ _ M4 rfl q5 (xrq_M4) (by omega) (by have := xg_M4; omega) (by intro j hj; rw [show n9 = m + 1 by omega]; exact xw_M4 j hj)
theorem lp_R_few1_158 {xs : Nat → Int} {L d : Nat} {sh : List (Nat × Nat)} (hd : 1 ≤ d) (hW : px_W0 <+: sh) {M0 : Nat → Nat → Int}  (hρ : sp_ok (rr_ M0)) {k n : Int} (hk0 : 1 ≤ k ∧ k ≤ 20) (hn0 : 0 ≤ n ∧ n ≤ 99) {Mf : Nat → Nat → Int} (hf : ∀ j : Nat, (j : Int) < k → Mf 260 j = fw (rr_ M0 6) n.toNat j) {Q : Option Value → px_H → Prop} (kx : ∀ (v : Int) (i : Nat) (v7 : Value) (M : Nat → Nat → Int), px_qk sh [228, 260] M0 M → (rz [] M0 M) → (v = fwS (rr_ M0 6) n.toNat k.toNat) → px_R xs L d 291 (182, [.ref 228, .int (iI (k)), .int (iI (n)), .int (iI (rr_ M0 6)), .long (lI (v)), px_jk, .int (iI (((i : Nat) : Int))), v7], [], (sh, M)) Q)  : ∀ (mz : Nat) (v : Int) (i : Nat) (v7 : Value) (M : Nat → Nat → Int), k.toNat - i = mz → px_qk sh [228, 260] M0 M → (rz [] M0 M) → ((i : Int) ≤ k) → (M 260 = Mf 260) → (v = fwS (rr_ M0 6) n.toNat i) → px_R xs L d 291 (158, [.ref 228, .int (iI (k)), .int (iI (n)), .int (iI (rr_ M0 6)), .long (lI (v)), px_jk, .int (iI (((i : Nat) : Int))), v7], [], (sh, M)) Q := by
  intro mz
  induction mz using Nat.strongRecOn with
  | _ mz ih =>
    intro v i v7 M hm hq hrq hi he hs
    have hcm := hρ.2.2.2.2.2.2.1
    refine rr_iload pf_291_158 rfl ?_
    refine rr_iload_n pf_291_160 rfl ?_
    refine rr_icmp_ge 182 pf_291_161 (by decide) (by unfold rg; omega) (by unfold rg; omega) (fun c1 => ?_) (fun c1 => ?_)
    · exact kx v i _ M hq (hrq) (by rw [hs, show k.toNat = i by omega])
    · refine rr_lload pf_291_164 rfl ?_
      refine rr_aload_n pf_291_166 rfl ?_
      refine rr_getR pf_291_167 po_291 pg_9_149 rfl (ws_228 hW) (by decide) (wr_228_52 hq.1) ?_
      refine rr_iload pf_291_170 rfl ?_
      refine vr_lald (j := i) hq pf_291_172 (ws_260 hW) (by omega) (by omega) (by decide) (fun x2 hx2 rx2 => ?_)
      rw [he, hf i (by omega)] at hx2
      have hfb := fw_nn hcm n.toNat i
      have hfl := fw_le hcm n.toNat i
      have hS1 := fwS_nn hcm n.toNat i
      have hS2 := fwS_le hcm n.toNat i
      refine rr_ladd pf_291_173 ?_
      refine rr_lstore pf_291_174 (fun y => [.ref 228, .int (iI (k)), .int (iI (n)), .int (iI (rr_ M0 6)), .long (lI (y)), px_jk, .int (iI (((i : Nat) : Int))), v7]) (Nat.le_of_ble_eq_true rfl) (fun _ => rfl) (fun y3 hy3 => ?_)
      refine rr_iinc pf_291_176 rfl (fun y => [.ref 228, .int (iI (k)), .int (iI (n)), .int (iI (rr_ M0 6)), .long (lI (y3)), px_jk, .int (iI (y)), v7]) (fun _ => rfl) (fun y4 hy4 => ?_)
      refine rr_goto 158 pf_291_179 (by decide) ?_
      obtain ⟨n5, hn5, rfl⟩ : ∃ zz : Nat, zz = 1 + i ∧ y4 = ((zz : Nat) : Int) := ⟨1 + i, rfl, by omega⟩
      exact ih _ (by omega) y3 n5 _ M rfl hq (hrq) (by omega) (he) (by rw [show n5 = i + 1 by omega, fwS]; omega)
theorem ct_R_few1 {xs : Nat → Int} {L d : Nat} {sh : List (Nat × Nat)} {M0 : Nat → Nat → Int} (hd : 2 ≤ d) (hW : px_W0 <+: sh) (hF : px_Fx M0) (hG : px_RG sh M0)  (hρ : sp_ok (rr_ M0)) {k n : Int} (hk0 : 1 ≤ k ∧ k ≤ 20) (hn0 : 0 ≤ n ∧ n ≤ 99) : ∃ v M, (px_qk sh [228, 260] M0 M ∧ (v = sp_few (rr_ M0) k n) ∧ (rz [] M0 M)) ∧ px_Cl xs L d 291 [.ref 228, .int (iI (k)), .int (iI (n))] (sh, M0) (some (.long (lI v))) (sh, M) := by
  obtain ⟨d, rfl⟩ : ∃ e, d = e + 1 := ⟨d - 1, by omega⟩
  have q0 : px_qk sh [228, 260] M0 M0 := ⟨hF, hG, eo_rf⟩
  refine vc_l (Nat.le_of_ble_eq_true rfl) ?_
  show px_R xs L d 291 (0, [.ref 228, .int (iI (k)), .int (iI (n)), px_jk, px_jk, px_jk, px_jk, px_jk], [], (sh, M0)) (fun r h' => ∃ v M', r = some (.long (lI v)) ∧ h' = (sh, M') ∧ px_qk sh [228, 260] M0 M' ∧ v = sp_few (rr_ M0) k n ∧ rz [] M0 M')
  refine rr_aload_n pf_291_0 rfl ?_
  refine rr_iconst pf_291_1 ?_
  refine vr_putI hW q0 pf_291_2 po_291 pg_9_177 (Or.inl rfl) rfl (ws_228 hW) (by decide) (by unfold rg; omega) (by decide) (fun M1 eM1 q2 => ?_)
  have rq3 := rz_up (rz_rf [] M0) eM1 (by decide)
  refine rr_iload_n pf_291_5 rfl ?_
  refine rr_i2l pf_291_6 (by unfold rg; omega) ?_
  refine rr_lconst (w := 1) pf_291_7 rfl ?_
  refine rr_ldc2_w pf_291_8 po_291 pl_9_326 ?_
  refine rr_cS3 pf_291_11 po_291 pc_9_197 (by decide) rfl (ct_R_in (by omega) (by unfold rl; omega) (by unfold rl; omega) (by unfold rl; omega)) ?_
  refine rr_ifb_eq 29 pf_291_14 (by decide) (fun c4 => ?_) (fun c4 => ?_)
  · exfalso; omega
  · refine rr_iload_n pf_291_17 rfl ?_
    refine rr_i2l pf_291_18 (by unfold rg; omega) ?_
    refine rr_lconst (w := 0) pf_291_19 rfl ?_
    refine rr_ldc2_w pf_291_20 po_291 pl_9_243 ?_
    refine rr_cS3 pf_291_23 po_291 pc_9_197 (by decide) rfl (ct_R_in (by omega) (by unfold rl; omega) (by unfold rl; omega) (by unfold rl; omega)) ?_
    refine rr_ifb_ne 33 pf_291_26 (by decide) (fun c5 => ?_) (fun c5 => ?_)
    · refine rr_iconst pf_291_33 ?_
      refine rr_istore_n pf_291_34 (fun y => [.ref 228, .int (iI (k)), .int (iI (n)), .int (iI (y)), px_jk, px_jk, px_jk, px_jk]) (Nat.le_of_ble_eq_true rfl) (fun _ => rfl) (fun y6 hy6 => ?_)
      obtain ⟨n7, hn7, rfl⟩ : ∃ zz : Nat, zz = 0 ∧ y6 = ((zz : Nat) : Int) := ⟨0, rfl, by omega⟩
      refine lp_R_few1_35 (xs := xs) (L := L) (d := d) (by omega) hW hρ hk0 hn0 (fun i_8 v11 v12 v13 v14 M9 q10 xrq_M9 xv_M9 => ?_) _ n7 _ _ _ _ M1 rfl q2 (rq3) (by omega) (by intro j hj; exfalso; omega)
      refine rr_aload_n pf_291_64 rfl ?_
      refine rr_getR pf_291_65 po_291 pg_9_13 rfl (ws_228 hW) (by decide) (wr_228_3 q10.1) ?_
      refine rr_bipush pf_291_68 (by decide) ?_
      refine vr_iald (j := 6) q10 pf_291_70 (ws_230 hW) (by omega) (by omega) (by decide) (fun x15 hx15 rx15 => ?_)
      rw [q10.2.2 230 (by decide)] at hx15
      rw [rr_at (M := M0) (i := 6) (by omega)] at hx15; subst hx15
      have hcm := hρ.2.2.2.2.2.2.1
      refine rr_istore_n pf_291_71 (fun y => [.ref 228, .int (iI (k)), .int (iI (n)), .int (iI (y)), v11, v12, v13, v14]) (Nat.le_of_ble_eq_true rfl) (fun _ => rfl) (fun y16 hy16 => ?_)
      have ry16 : rg y16 := hy16 ▸ rx15
      refine rr_iconst pf_291_72 ?_
      refine rr_istore pf_291_73 (fun y => [.ref 228, .int (iI (k)), .int (iI (n)), .int (iI (y16)), .int (iI (y)), v12, v13, v14]) (Nat.le_of_ble_eq_true rfl) (fun _ => rfl) (fun y17 hy17 => ?_)
      obtain rfl : y16 = rr_ M0 6 := by omega
      obtain ⟨n18, hn18, rfl⟩ : ∃ zz : Nat, zz = 0 ∧ y17 = ((zz : Nat) : Int) := ⟨0, rfl, by omega⟩
      refine lp_R_few1_75 (xs := xs) (L := L) (d := d) (by omega) hW hρ hk0 hn0 (fun m_19 v22 v23 v24 M20 q21 xrq_M20 xf_M20 => ?_) _ n18 _ _ _ M9 rfl q10 (xrq_M9) (by omega) (by rw [xv_M9 k.toNat (by omega)]; unfold fw; rw [if_neg (by omega)]; omega) (by intro j hj; rw [show n18 = 0 by omega]; exact xv_M9 j (by omega))
      refine rr_lconst (w := 0) pf_291_152 rfl ?_
      refine rr_lstore pf_291_153 (fun y => [.ref 228, .int (iI (k)), .int (iI (n)), .int (iI (rr_ M0 6)), .long (lI (y)), px_jk, v23, v24]) (Nat.le_of_ble_eq_true rfl) (fun _ => rfl) (fun y25 hy25 => ?_)
      refine rr_iconst pf_291_155 ?_
      refine rr_istore pf_291_156 (fun y => [.ref 228, .int (iI (k)), .int (iI (n)), .int (iI (rr_ M0 6)), .long (lI (y25)), px_jk, .int (iI (y)), v24]) (Nat.le_of_ble_eq_true rfl) (fun _ => rfl) (fun y26 hy26 => ?_)
      obtain ⟨n27, hn27, rfl⟩ : ∃ zz : Nat, zz = 0 ∧ y26 = ((zz : Nat) : Int) := ⟨0, rfl, by omega⟩
      refine lp_R_few1_158 (xs := xs) (L := L) (d := d) (by omega) hW hρ hk0 hn0 xf_M20 (fun v_28 i_29 v32 M30 q31 xrq_M30 xs_M30 => ?_) _ y25 n27 _ M20 rfl q21 (xrq_M20) (by omega) (by rfl) (by rw [show n27 = 0 by omega]; exact hy25)
      refine rr_lload pf_291_182 rfl ?_
      refine rr_lret pf_291_184 pt_291 ⟨_, M30, rfl, rfl, q31, (by unfold sp_few; rw [if_pos (by omega)]; exact xs_M30), (xrq_M30)⟩
    · exfalso; omega
theorem ct_R_few0 {xs : Nat → Int} {L d : Nat} {sh : List (Nat × Nat)} {M0 : Nat → Nat → Int} (hd : 2 ≤ d) (hW : px_W0 <+: sh) (hF : px_Fx M0) (hG : px_RG sh M0)  {k n : Int} (hk0 : rg k) (hn0 : rg n) (hx : ¬ ((1 ≤ k ∧ k ≤ 20) ∧ 0 ≤ n ∧ n ≤ 99)) : ∃ v M, (px_qk sh [228] M0 M ∧ (v = -1) ∧ (rz [] M0 M)) ∧ px_Cl xs L d 291 [.ref 228, .int (iI (k)), .int (iI (n))] (sh, M0) (some (.long (lI v))) (sh, M) := by
  obtain ⟨d, rfl⟩ : ∃ e, d = e + 1 := ⟨d - 1, by omega⟩
  have q0 : px_qk sh [228] M0 M0 := ⟨hF, hG, eo_rf⟩
  refine vc_l (Nat.le_of_ble_eq_true rfl) ?_
  show px_R xs L d 291 (0, [.ref 228, .int (iI (k)), .int (iI (n)), px_jk, px_jk, px_jk, px_jk, px_jk], [], (sh, M0)) (fun r h' => ∃ v M', r = some (.long (lI v)) ∧ h' = (sh, M') ∧ px_qk sh [228] M0 M' ∧ v = -1 ∧ rz [] M0 M')
  refine rr_aload_n pf_291_0 rfl ?_
  refine rr_iconst pf_291_1 ?_
  refine vr_putI hW q0 pf_291_2 po_291 pg_9_177 (Or.inl rfl) rfl (ws_228 hW) (by decide) (by unfold rg; omega) (by decide) (fun M1 eM1 q2 => ?_)
  have rq3 := rz_up (rz_rf [] M0) eM1 (by decide)
  refine rr_iload_n pf_291_5 rfl ?_
  refine rr_i2l pf_291_6 hk0 ?_
  refine rr_lconst (w := 1) pf_291_7 rfl ?_
  refine rr_ldc2_w pf_291_8 po_291 pl_9_326 ?_
  refine rr_cS3 pf_291_11 po_291 pc_9_197 (by decide) rfl (ct_R_in (by omega) (rl_rg hk0) (by unfold rl; omega) (by unfold rl; omega)) ?_
  refine rr_ifb_eq 29 pf_291_14 (by decide) (fun c4 => ?_) (fun c4 => ?_)
  · refine rr_ldc2_w pf_291_29 po_291 pl_9_303 ?_
    refine rr_lret pf_291_32 pt_291 ⟨_, M1, rfl, rfl, q2, (by rfl), (rq3)⟩
  · refine rr_iload_n pf_291_17 rfl ?_
    refine rr_i2l pf_291_18 hn0 ?_
    refine rr_lconst (w := 0) pf_291_19 rfl ?_
    refine rr_ldc2_w pf_291_20 po_291 pl_9_243 ?_
    refine rr_cS3 pf_291_23 po_291 pc_9_197 (by decide) rfl (ct_R_in (by omega) (rl_rg hn0) (by unfold rl; omega) (by unfold rl; omega)) ?_
    refine rr_ifb_ne 33 pf_291_26 (by decide) (fun c5 => ?_) (fun c5 => ?_)
    · exfalso; omega
    · refine rr_ldc2_w pf_291_29 po_291 pl_9_303 ?_
      refine rr_lret pf_291_32 pt_291 ⟨_, M1, rfl, rfl, q2, (by rfl), (rq3)⟩
noncomputable def sp_plS (lw : List sp_C) (ρ : Nat → Int) (pane : Nat) : Nat → Int
  | 0 => 0
  | w + 1 => sp_plS lw ρ pane w + (if sp_barb lw ρ w = true then 0 else sp_stain lw ρ w pane)
theorem plS_b {lw : List sp_C} {ρ : Nat → Int} {pane : Nat} : ∀ n, 0 ≤ sp_plS lw ρ pane n ∧ sp_plS lw ρ pane n ≤ 20 * n := by
  intro n
  induction n with
  | zero => simp [sp_plS]
  | succ n ih => have := sp_stain_b lw ρ n pane; simp only [sp_plS]; split <;> omega
noncomputable def sp_plV (lw : List sp_C) (ρ : Nat → Int) (pane p : Nat) : Int := sp_plS lw (rup ρ 8 ((p : Nat) : Int)) pane (ρ 0).toNat
noncomputable def sp_plF (lw : List sp_C) (ρ : Nat → Int) (pane : Nat) : Nat → Int × Int
  | 0 => (-1, -1)
  | p + 1 => if (sp_plF lw ρ pane p).2 < sp_plV lw ρ pane p then (((p : Nat) : Int), sp_plV lw ρ pane p) else sp_plF lw ρ pane p
theorem plF_b {lw : List sp_C} {ρ : Nat → Int} {pane : Nat} (h : sp_ok ρ) : ∀ n, -1 ≤ (sp_plF lw ρ pane n).1 ∧ (sp_plF lw ρ pane n).1 ≤ n ∧ -1 ≤ (sp_plF lw ρ pane n).2 ∧ (sp_plF lw ρ pane n).2 ≤ 160 := by
  intro n
  induction n with
  | zero => simp [sp_plF]
  | succ n ih =>
    have h0 := h.1
    have b := plS_b (lw := lw) (ρ := rup ρ 8 ((n : Nat) : Int)) (pane := pane) (ρ 0).toNat
    simp only [sp_plF]
    unfold sp_plV
    split
    · dsimp only; omega
    · omega
noncomputable def sp_plc (lw : List sp_C) (ρ : Nat → Int) (p u : Int) : Int := if (0 ≤ p ∧ p ≤ 15) ∧ (0 ≤ u ∧ u ≤ 1) then (if u = 0 then (sp_plF lw ρ p.toNat 16).1 else (sp_plF lw ρ p.toNat 16).2) else -1
theorem lwR_8 {M M2 : Nat → Nat → Int} {lw : List sp_C} (h : px_lwR M lw) (e : ∀ j, j ≠ 8 → M2 230 j = M 230 j) : px_lwR M2 lw := lwR_r9 h (fun j hj => e j (by omega)) (e 4 (by omega))
theorem lp_R_place1_63 {xs : Nat → Int} {L d : Nat} {sh : List (Nat × Nat)} (hd : 13 ≤ d) (hW : px_W0 <+: sh) {M0 : Nat → Nat → Int}  (hρ : sp_ok (rr_ M0)) {lw : List sp_C} (hlw : px_lwR M0 lw) (hord : M0 228 20 = 0) {p u : Int} (hp0 : 0 ≤ p ∧ p ≤ 15) (hu0 : 0 ≤ u ∧ u ≤ 1) {mo its : Int} {i : Nat} (hi : i < 16) {Q : Option Value → px_H → Prop} (kx : ∀ (v : Int) (k : Nat) (M : Nat → Nat → Int), px_qk sh [228, 230, 246, 248] M0 M → (rz [] M0 M) → (0 ≤ v ∧ v ≤ 160) → (v = sp_plV lw (rr_ M0) p.toNat i) → (∀ j, j ≠ 8 → M 230 j = M0 230 j) → px_R xs L d 283 (105, [.ref 228, .int (iI (p)), .int (iI (u)), .int (iI (rr_ M0 8)), .int (iI (mo)), .int (iI (its)), .int (iI (((i : Nat) : Int))), .int (iI (v)), .int (iI (((k : Nat) : Int)))], [], (sh, M)) Q)  : ∀ (mz : Nat) (v : Int) (k : Nat) (M : Nat → Nat → Int), 8 - k = mz → px_qk sh [228, 230, 246, 248] M0 M → (rz [] M0 M) → ((k : Int) ≤ rr_ M0 0) → (v = sp_plS lw (rup (rr_ M0) 8 ((i : Nat) : Int)) p.toNat k) → (rr_ M = rup (rr_ M0) 8 ((i : Nat) : Int)) → (∀ j, j ≠ 8 → M 230 j = M0 230 j) → px_R xs L d 283 (63, [.ref 228, .int (iI (p)), .int (iI (u)), .int (iI (rr_ M0 8)), .int (iI (mo)), .int (iI (its)), .int (iI (((i : Nat) : Int))), .int (iI (v)), .int (iI (((k : Nat) : Int)))], [], (sh, M)) Q := by
  intro mz
  induction mz using Nat.strongRecOn with
  | _ mz ih =>
    intro v k M hm hq hrq hk hv hrow h8
    have hSb := plS_b (lw := lw) (ρ := rup (rr_ M0) 8 ((i : Nat) : Int)) (pane := p.toNat) k
    have h0 := hρ.1
    refine rr_iload pf_283_63 rfl ?_
    refine rr_aload_n pf_283_65 rfl ?_
    refine rr_getR pf_283_66 po_283 pg_9_13 rfl (ws_228 hW) (by decide) (wr_228_3 hq.1) ?_
    refine rr_iconst pf_283_69 ?_
    refine vr_iald (j := 0) hq pf_283_70 (ws_230 hW) (by omega) (by omega) (by decide) (fun x1 hx1 rx1 => ?_)
    rw [rr_of hrow (by omega), rup_n (by omega)] at hx1
    refine rr_icmp_ge 105 pf_283_71 (by decide) (by unfold rg; omega) rx1 (fun c2 => ?_) (fun c2 => ?_)
    · exact kx v k M hq (hrq) (by omega) (by rw [hv]; unfold sp_plV; rw [show (rr_ M0 0).toNat = k by omega]) (h8)
    · refine rr_iload pf_283_74 rfl ?_
      refine rr_aload_n pf_283_76 rfl ?_
      refine rr_iload pf_283_77 rfl ?_
      obtain ⟨M3, ⟨kq4, pf_M3⟩, hcM3⟩ := ct_R_isBarred (xs := xs) (L := L) (d := d) (w := k) (lw := lw) (by omega) hW hq.1 hq.2.1 (by rw [hrow]; exact ok_pul hρ (by omega)) (lwR_8 hlw (fun j hj => by exact h8 j hj)) ((hrq 20 (by decide) (by decide)).trans hord) (by omega)
      rw [hrow] at hcM3
      have q4 := qk_trm hq kq4 (by decide)
      have rq6 := rz_rq hrq pf_M3
      refine rr_cV1 pf_283_79 po_283 pc_9_221 (ws_228 hW) po_186 (by decide) rfl hcM3 ?_
      
      refine rr_ifb_eq 89 pf_283_82 (by decide) (fun c7 => ?_) (fun c7 => ?_)
      · have hbar := c7
        refine rr_aload_n pf_283_89 rfl ?_
        refine rr_iload pf_283_90 rfl ?_
        refine rr_iload_n pf_283_92 rfl ?_
        obtain ⟨r10, M8, ⟨kq9, pv_M8, pf_M8⟩, hcM8⟩ := ct_R_stainsOf (xs := xs) (L := L) (d := d) (w := k) (p := (p).toNat) (lw := lw) (by omega) hW q4.1 q4.2.1 (by rw [(rr_eq (kq4.2.2 230 (by decide))).trans hrow]; exact ok_pul hρ (by omega)) (lwR_8 hlw (fun j hj => by rw [kq4.2.2 230 (by decide)]; exact h8 j hj)) ((rq6 20 (by decide) (by decide)).trans hord) (by omega) (by omega)
        rw [show (((p).toNat : Nat) : Int) = p by omega] at hcM8
        have q9 := qk_trm q4 kq9 (by decide)
        rw [(rr_eq (kq4.2.2 230 (by decide))).trans hrow] at pv_M8
        have rq11 := rz_rq rq6 pf_M8
        refine rr_cV2 pf_283_93 po_283 pc_9_224 (ws_228 hW) po_194 (by decide) rfl hcM8 ?_
        refine rr_iadd pf_283_96 ?_
        refine rr_istore pf_283_97 (fun y => [.ref 228, .int (iI (p)), .int (iI (u)), .int (iI (rr_ M0 8)), .int (iI (mo)), .int (iI (its)), .int (iI (((i : Nat) : Int))), .int (iI (y)), .int (iI (((k : Nat) : Int)))]) (Nat.le_of_ble_eq_true rfl) (fun _ => rfl) (fun y12 hy12 => ?_)
        refine rr_iinc pf_283_99 rfl (fun y => [.ref 228, .int (iI (p)), .int (iI (u)), .int (iI (rr_ M0 8)), .int (iI (mo)), .int (iI (its)), .int (iI (((i : Nat) : Int))), .int (iI (y12)), .int (iI (y))]) (fun _ => rfl) (fun y13 hy13 => ?_)
        refine rr_goto 63 pf_283_102 (by decide) ?_
        obtain ⟨n14, hn14, rfl⟩ : ∃ zz : Nat, zz = 1 + k ∧ y13 = ((zz : Nat) : Int) := ⟨1 + k, rfl, by omega⟩
        exact ih _ (by omega) y12 n14 M8 rfl q9 (rq11) (by omega) (by rw [show n14 = k + 1 by omega, sp_plS, if_neg hbar]; omega) ((rr_eq (kq9.2.2 230 (by decide))).trans ((rr_eq (kq4.2.2 230 (by decide))).trans hrow)) (by intro j hj; rw [kq9.2.2 230 (by decide), kq4.2.2 230 (by decide)]; exact h8 j hj)
      · have hbar := c7
        refine rr_iconst pf_283_85 ?_
        refine rr_goto 96 pf_283_86 (by decide) ?_
        refine rr_iadd pf_283_96 ?_
        refine rr_istore pf_283_97 (fun y => [.ref 228, .int (iI (p)), .int (iI (u)), .int (iI (rr_ M0 8)), .int (iI (mo)), .int (iI (its)), .int (iI (((i : Nat) : Int))), .int (iI (y)), .int (iI (((k : Nat) : Int)))]) (Nat.le_of_ble_eq_true rfl) (fun _ => rfl) (fun y15 hy15 => ?_)
        refine rr_iinc pf_283_99 rfl (fun y => [.ref 228, .int (iI (p)), .int (iI (u)), .int (iI (rr_ M0 8)), .int (iI (mo)), .int (iI (its)), .int (iI (((i : Nat) : Int))), .int (iI (y15)), .int (iI (y))]) (fun _ => rfl) (fun y16 hy16 => ?_)
        refine rr_goto 63 pf_283_102 (by decide) ?_
        obtain ⟨n17, hn17, rfl⟩ : ∃ zz : Nat, zz = 1 + k ∧ y16 = ((zz : Nat) : Int) := ⟨1 + k, rfl, by omega⟩
        exact ih _ (by omega) y15 n17 M3 rfl q4 (rq6) (by omega) (by rw [show n17 = k + 1 by omega, sp_plS, if_pos hbar]; omega) ((rr_eq (kq4.2.2 230 (by decide))).trans hrow) (by intro j hj; rw [kq4.2.2 230 (by decide)]; exact h8 j hj)
theorem lp_R_place1_41 {xs : Nat → Int} {L d : Nat} {sh : List (Nat × Nat)} (hd : 13 ≤ d) (hW : px_W0 <+: sh) {M0 : Nat → Nat → Int}  (hρ : sp_ok (rr_ M0)) {lw : List sp_C} (hlw : px_lwR M0 lw) (hord : M0 228 20 = 0) {p u : Int} (hp0 : 0 ≤ p ∧ p ≤ 15) (hu0 : 0 ≤ u ∧ u ≤ 1)  {Q : Option Value → px_H → Prop} (kx : ∀ (mo : Int) (its : Int) (i : Nat) (v7 : Value) (v8 : Value) (M : Nat → Nat → Int), px_qk sh [228, 230, 246, 248] M0 M → (rz [] M0 M) → ((its, mo) = sp_plF lw (rr_ M0) p.toNat 16) → (∀ j, j ≠ 8 → M 230 j = M0 230 j) → px_R xs L d 283 (143, [.ref 228, .int (iI (p)), .int (iI (u)), .int (iI (rr_ M0 8)), .int (iI (mo)), .int (iI (its)), .int (iI (((i : Nat) : Int))), v7, v8], [], (sh, M)) Q)  : ∀ (mz : Nat) (mo : Int) (its : Int) (i : Nat) (v7 : Value) (v8 : Value) (M : Nat → Nat → Int), 16 - i = mz → px_qk sh [228, 230, 246, 248] M0 M → (rz [] M0 M) → (i ≤ 16) → ((its, mo) = sp_plF lw (rr_ M0) p.toNat i) → (∀ j, j ≠ 8 → M 230 j = M0 230 j) → px_R xs L d 283 (41, [.ref 228, .int (iI (p)), .int (iI (u)), .int (iI (rr_ M0 8)), .int (iI (mo)), .int (iI (its)), .int (iI (((i : Nat) : Int))), v7, v8], [], (sh, M)) Q := by
  intro mz
  induction mz using Nat.strongRecOn with
  | _ mz ih =>
    intro mo its i v7 v8 M hm hq hrq hi hF h8
    have hPb := plF_b (lw := lw) (pane := p.toNat) hρ i
    have h0 := hρ.1
    refine rr_iload pf_283_41 rfl ?_
    refine rr_bipush pf_283_43 (by decide) ?_
    refine rr_icmp_ge 143 pf_283_45 (by decide) (by unfold rg; omega) (by unfold rg; omega) (fun c1 => ?_) (fun c1 => ?_)
    · exact kx mo its i _ _ M hq (hrq) (by rw [hF, show i = 16 by omega]) (h8)
    · refine rr_aload_n pf_283_48 rfl ?_
      rw [← hF] at hPb
      dsimp only at hPb
      refine rr_getR pf_283_49 po_283 pg_9_13 rfl (ws_228 hW) (by decide) (wr_228_3 hq.1) ?_
      refine rr_bipush pf_283_52 (by decide) ?_
      refine rr_iload pf_283_54 rfl ?_
      refine vr_iast (j := 8) hW hq pf_283_56 (ws_230 hW) (by omega) (by omega) (by decide) (by unfold rg; omega) (by decide) (fun M2 eM2 q3 => ?_)
      have rq4 := rz_ne hrq eM2 (by decide)
      have hn8 : ∀ j, j ≠ 8 → M2 230 j = M0 230 j := fun j hj => by rw [eM2, up_ne hj]; exact h8 j hj
      have hrw8 : rr_ M2 = rup (rr_ M0) 8 ((i : Nat) : Int) := by
        funext j
        unfold rr_ rup
        by_cases hj : j = 8
        · rw [hj, if_pos (by omega), if_pos rfl, eM2, up_s]
        · rw [if_neg hj, hn8 j hj]
      refine rr_iconst pf_283_57 ?_
      refine rr_istore pf_283_58 (fun y => [.ref 228, .int (iI (p)), .int (iI (u)), .int (iI (rr_ M0 8)), .int (iI (mo)), .int (iI (its)), .int (iI (((i : Nat) : Int))), .int (iI (y)), v8]) (Nat.le_of_ble_eq_true rfl) (fun _ => rfl) (fun y5 hy5 => ?_)
      refine rr_iconst pf_283_60 ?_
      refine rr_istore pf_283_61 (fun y => [.ref 228, .int (iI (p)), .int (iI (u)), .int (iI (rr_ M0 8)), .int (iI (mo)), .int (iI (its)), .int (iI (((i : Nat) : Int))), .int (iI (y5)), .int (iI (y))]) (Nat.le_of_ble_eq_true rfl) (fun _ => rfl) (fun y6 hy6 => ?_)
      obtain ⟨n7, hn7, rfl⟩ : ∃ zz : Nat, zz = 0 ∧ y6 = ((zz : Nat) : Int) := ⟨0, rfl, by omega⟩
      refine lp_R_place1_63 (xs := xs) (L := L) (d := d) (by omega) hW hρ hlw hord hp0 hu0 (by omega) (fun v_8 k_9  M10 q11 xrq_M10 xvb_M10 xv_M10 x8_M10 => ?_) _ y5 n7 M2 rfl q3 (rq4) (by omega) (by rw [show n7 = 0 by omega]; exact hy5) (hrw8) (hn8)
      refine rr_iload pf_283_105 rfl ?_
      refine rr_iload pf_283_107 rfl ?_
      refine rr_icmp_le 117 pf_283_109 (by decide) (by unfold rg; omega) (by unfold rg; omega) (fun c12 => ?_) (fun c12 => ?_)
      · refine rr_iload pf_283_117 rfl ?_
        refine rr_istore pf_283_119 (fun y => [.ref 228, .int (iI (p)), .int (iI (u)), .int (iI (rr_ M0 8)), .int (iI (mo)), .int (iI (y)), .int (iI (((i : Nat) : Int))), .int (iI (v_8)), .int (iI (((k_9 : Nat) : Int)))]) (Nat.le_of_ble_eq_true rfl) (fun _ => rfl) (fun y13 hy13 => ?_)
        refine rr_iload pf_283_121 rfl ?_
        refine rr_iload pf_283_123 rfl ?_
        refine rr_icmp_le 133 pf_283_125 (by decide) (by unfold rg; omega) (by unfold rg; omega) (fun c14 => ?_) (fun c14 => ?_)
        · refine rr_iload pf_283_133 rfl ?_
          refine rr_istore pf_283_135 (fun y => [.ref 228, .int (iI (p)), .int (iI (u)), .int (iI (rr_ M0 8)), .int (iI (y)), .int (iI (y13)), .int (iI (((i : Nat) : Int))), .int (iI (v_8)), .int (iI (((k_9 : Nat) : Int)))]) (Nat.le_of_ble_eq_true rfl) (fun _ => rfl) (fun y15 hy15 => ?_)
          refine rr_iinc pf_283_137 rfl (fun y => [.ref 228, .int (iI (p)), .int (iI (u)), .int (iI (rr_ M0 8)), .int (iI (y15)), .int (iI (y13)), .int (iI (y)), .int (iI (v_8)), .int (iI (((k_9 : Nat) : Int)))]) (fun _ => rfl) (fun y16 hy16 => ?_)
          refine rr_goto 41 pf_283_140 (by decide) ?_
          obtain ⟨n17, hn17, rfl⟩ : ∃ zz : Nat, zz = 1 + i ∧ y16 = ((zz : Nat) : Int) := ⟨1 + i, rfl, by omega⟩
          exact ih _ (by omega) y15 y13 n17 _ _ M10 rfl q11 (xrq_M10) (by omega) (by rw [show n17 = i + 1 by omega, sp_plF, ← hF]; dsimp only; rw [if_neg (by omega)]; congr 1) (x8_M10)
        · exfalso; omega
      · have := hPb
        refine rr_iload pf_283_112 rfl ?_
        refine rr_goto 119 pf_283_114 (by decide) ?_
        refine rr_istore pf_283_119 (fun y => [.ref 228, .int (iI (p)), .int (iI (u)), .int (iI (rr_ M0 8)), .int (iI (mo)), .int (iI (y)), .int (iI (((i : Nat) : Int))), .int (iI (v_8)), .int (iI (((k_9 : Nat) : Int)))]) (Nat.le_of_ble_eq_true rfl) (fun _ => rfl) (fun y18 hy18 => ?_)
        refine rr_iload pf_283_121 rfl ?_
        refine rr_iload pf_283_123 rfl ?_
        refine rr_icmp_le 133 pf_283_125 (by decide) (by unfold rg; omega) (by unfold rg; omega) (fun c19 => ?_) (fun c19 => ?_)
        · exfalso; omega
        · refine rr_iload pf_283_128 rfl ?_
          refine rr_goto 135 pf_283_130 (by decide) ?_
          refine rr_istore pf_283_135 (fun y => [.ref 228, .int (iI (p)), .int (iI (u)), .int (iI (rr_ M0 8)), .int (iI (y)), .int (iI (y18)), .int (iI (((i : Nat) : Int))), .int (iI (v_8)), .int (iI (((k_9 : Nat) : Int)))]) (Nat.le_of_ble_eq_true rfl) (fun _ => rfl) (fun y20 hy20 => ?_)
          refine rr_iinc pf_283_137 rfl (fun y => [.ref 228, .int (iI (p)), .int (iI (u)), .int (iI (rr_ M0 8)), .int (iI (y20)), .int (iI (y18)), .int (iI (y)), .int (iI (v_8)), .int (iI (((k_9 : Nat) : Int)))]) (fun _ => rfl) (fun y21 hy21 => ?_)
          refine rr_goto 41 pf_283_140 (by decide) ?_
          obtain ⟨n22, hn22, rfl⟩ : ∃ zz : Nat, zz = 1 + i ∧ y21 = ((zz : Nat) : Int) := ⟨1 + i, rfl, by omega⟩
          exact ih _ (by omega) y20 y18 n22 _ _ M10 rfl q11 (xrq_M10) (by omega) (by rw [show n22 = i + 1 by omega, sp_plF, ← hF]; dsimp only; rw [if_pos (by omega)]; congr 1; omega) (x8_M10)
theorem ct_R_place1 {xs : Nat → Int} {L d : Nat} {sh : List (Nat × Nat)} {M0 : Nat → Nat → Int} (hd : 14 ≤ d) (hW : px_W0 <+: sh) (hF : px_Fx M0) (hG : px_RG sh M0)  (hρ : sp_ok (rr_ M0)) {lw : List sp_C} (hlw : px_lwR M0 lw) (hord : M0 228 20 = 0) {p u : Int} (hp0 : 0 ≤ p ∧ p ≤ 15) (hu0 : 0 ≤ u ∧ u ≤ 1) : ∃ v M, (px_qk sh [228, 230, 246, 248] M0 M ∧ (v = sp_plc lw (rr_ M0) p u) ∧ (M 230 = M0 230) ∧ (rz [] M0 M)) ∧ px_Cl xs L d 283 [.ref 228, .int (iI (p)), .int (iI (u))] (sh, M0) (some (.int (iI v))) (sh, M) := by
  obtain ⟨d, rfl⟩ : ∃ e, d = e + 1 := ⟨d - 1, by omega⟩
  have q0 : px_qk sh [228, 230, 246, 248] M0 M0 := ⟨hF, hG, eo_rf⟩
  refine vc_i (Nat.le_of_ble_eq_true rfl) ?_
  show px_R xs L d 283 (0, [.ref 228, .int (iI (p)), .int (iI (u)), px_jk, px_jk, px_jk, px_jk, px_jk, px_jk], [], (sh, M0)) (fun r h' => ∃ v M', r = some (.int (iI v)) ∧ h' = (sh, M') ∧ px_qk sh [228, 230, 246, 248] M0 M' ∧ v = sp_plc lw (rr_ M0) p u ∧ M' 230 = M0 230 ∧ rz [] M0 M')
  refine rr_aload_n pf_283_0 rfl ?_
  refine rr_iconst pf_283_1 ?_
  refine vr_putI hW q0 pf_283_2 po_283 pg_9_177 (Or.inl rfl) rfl (ws_228 hW) (by decide) (by unfold rg; omega) (by decide) (fun M1 eM1 q2 => ?_)
  have rq3 := rz_up (rz_rf [] M0) eM1 (by decide)
  have e4 : M1 230 = M0 230 := (show M1 230 = M0 230 by rw [eM1, ask_ne (by decide)]).trans (rfl : M0 230 = M0 230)
  refine rr_iload_n pf_283_5 rfl ?_
  refine rr_cS1 pf_283_6 po_283 pc_9_228 (by decide) rfl (ct_R_isPane (by omega) (by unfold rg; omega)) ?_
  refine rr_ifb_eq 22 pf_283_9 (by decide) (fun c5 => ?_) (fun c5 => ?_)
  · exfalso; omega
  · refine rr_iload_n pf_283_12 rfl ?_
    refine rr_i2l pf_283_13 (by unfold rg; omega) ?_
    refine rr_lconst (w := 0) pf_283_14 rfl ?_
    refine rr_lconst (w := 1) pf_283_15 rfl ?_
    refine rr_cS3 pf_283_16 po_283 pc_9_197 (by decide) rfl (ct_R_in (by omega) (by unfold rl; omega) (by unfold rl; omega) (by unfold rl; omega)) ?_
    refine rr_ifb_ne 24 pf_283_19 (by decide) (fun c6 => ?_) (fun c6 => ?_)
    · refine rr_aload_n pf_283_24 rfl ?_
      refine rr_getR pf_283_25 po_283 pg_9_13 rfl (ws_228 hW) (by decide) (wr_228_3 q2.1) ?_
      refine rr_bipush pf_283_28 (by decide) ?_
      refine vr_iald (j := 8) q2 pf_283_30 (ws_230 hW) (by omega) (by omega) (by decide) (fun x7 hx7 rx7 => ?_)
      rw [e4] at hx7
      rw [rr_at (M := M0) (i := 8) (by omega)] at hx7
      have hpul := hρ.2.2.2.2.2.2.2.2.1
      refine rr_istore_n pf_283_31 (fun y => [.ref 228, .int (iI (p)), .int (iI (u)), .int (iI (y)), px_jk, px_jk, px_jk, px_jk, px_jk]) (Nat.le_of_ble_eq_true rfl) (fun _ => rfl) (fun y8 hy8 => ?_)
      have ry8 : rg y8 := hy8 ▸ rx7
      refine rr_iconst pf_283_32 ?_
      refine rr_istore pf_283_33 (fun y => [.ref 228, .int (iI (p)), .int (iI (u)), .int (iI (y8)), .int (iI (y)), px_jk, px_jk, px_jk, px_jk]) (Nat.le_of_ble_eq_true rfl) (fun _ => rfl) (fun y9 hy9 => ?_)
      refine rr_iconst pf_283_35 ?_
      refine rr_istore pf_283_36 (fun y => [.ref 228, .int (iI (p)), .int (iI (u)), .int (iI (y8)), .int (iI (y9)), .int (iI (y)), px_jk, px_jk, px_jk]) (Nat.le_of_ble_eq_true rfl) (fun _ => rfl) (fun y10 hy10 => ?_)
      refine rr_iconst pf_283_38 ?_
      refine rr_istore pf_283_39 (fun y => [.ref 228, .int (iI (p)), .int (iI (u)), .int (iI (y8)), .int (iI (y9)), .int (iI (y10)), .int (iI (y)), px_jk, px_jk]) (Nat.le_of_ble_eq_true rfl) (fun _ => rfl) (fun y11 hy11 => ?_)
      obtain rfl : y8 = rr_ M0 8 := by omega
      obtain ⟨n12, hn12, rfl⟩ : ∃ zz : Nat, zz = 0 ∧ y11 = ((zz : Nat) : Int) := ⟨0, rfl, by omega⟩
      refine lp_R_place1_41 (xs := xs) (L := L) (d := d) (by omega) hW hρ hlw hord hp0 hu0 (fun mo_13 its_14 i_15 v18 v19 M16 q17 xrq_M16 xF_M16 x8_M16 => ?_) _ y9 y10 n12 _ _ M1 rfl q2 (rq3) (by omega) (by rw [show n12 = 0 by omega]; simp only [sp_plF]; congr 1) (by intro j _; rw [e4])
      refine rr_aload_n pf_283_143 rfl ?_
      have hPb := plF_b (lw := lw) (pane := p.toNat) hρ 16
      have hpul := hρ.2.2.2.2.2.2.2.2.1
      refine rr_getR pf_283_144 po_283 pg_9_13 rfl (ws_228 hW) (by decide) (wr_228_3 q17.1) ?_
      refine rr_bipush pf_283_147 (by decide) ?_
      refine rr_iload_n pf_283_149 rfl ?_
      refine vr_iast (j := 8) hW q17 pf_283_150 (ws_230 hW) (by omega) (by omega) (by decide) (by unfold rg; omega) (by decide) (fun M20 eM20 q21 => ?_)
      have rq22 := rz_ne xrq_M16 eM20 (by decide)
      rw [← xF_M16] at hPb; dsimp only at hPb
      refine rr_iload_n pf_283_151 rfl ?_
      refine rr_if_ne 160 pf_283_152 (by decide) (by unfold rg; omega) (fun c23 => ?_) (fun c23 => ?_)
      · refine rr_iload pf_283_160 rfl ?_
        refine rr_iret pf_283_162 pt_283 ⟨_, M20, rfl, rfl, q21, (by unfold sp_plc; rw [if_pos (by omega), if_neg (by omega), ← xF_M16]), (by
                      rw [eM20]; funext j; rw [ask_up]; split
                      · rename_i hj; rw [hj]; exact (rr_at (by omega)).symm
                      · rename_i hj; exact x8_M16 j hj), (rq22)⟩
      · refine rr_iload pf_283_155 rfl ?_
        refine rr_goto 162 pf_283_157 (by decide) ?_
        refine rr_iret pf_283_162 pt_283 ⟨_, M20, rfl, rfl, q21, (by unfold sp_plc; rw [if_pos (by omega), if_pos (by omega), ← xF_M16]), (by
                      rw [eM20]; funext j; rw [ask_up]; split
                      · rename_i hj; rw [hj]; exact (rr_at (by omega)).symm
                      · rename_i hj; exact x8_M16 j hj), (rq22)⟩
    · exfalso; omega
theorem ct_R_place0 {xs : Nat → Int} {L d : Nat} {sh : List (Nat × Nat)} {M0 : Nat → Nat → Int} (hd : 3 ≤ d) (hW : px_W0 <+: sh) (hF : px_Fx M0) (hG : px_RG sh M0)  {p u : Int} (hp0 : rg p) (hu0 : rg u) (hx : ¬ ((0 ≤ p ∧ p ≤ 15) ∧ (0 ≤ u ∧ u ≤ 1))) : ∃ v M, (px_qk sh [228] M0 M ∧ (v = -1) ∧ (rz [] M0 M)) ∧ px_Cl xs L d 283 [.ref 228, .int (iI (p)), .int (iI (u))] (sh, M0) (some (.int (iI v))) (sh, M) := by
  obtain ⟨d, rfl⟩ : ∃ e, d = e + 1 := ⟨d - 1, by omega⟩
  have q0 : px_qk sh [228] M0 M0 := ⟨hF, hG, eo_rf⟩
  refine vc_i (Nat.le_of_ble_eq_true rfl) ?_
  show px_R xs L d 283 (0, [.ref 228, .int (iI (p)), .int (iI (u)), px_jk, px_jk, px_jk, px_jk, px_jk, px_jk], [], (sh, M0)) (fun r h' => ∃ v M', r = some (.int (iI v)) ∧ h' = (sh, M') ∧ px_qk sh [228] M0 M' ∧ v = -1 ∧ rz [] M0 M')
  refine rr_aload_n pf_283_0 rfl ?_
  refine rr_iconst pf_283_1 ?_
  refine vr_putI hW q0 pf_283_2 po_283 pg_9_177 (Or.inl rfl) rfl (ws_228 hW) (by decide) (by unfold rg; omega) (by decide) (fun M1 eM1 q2 => ?_)
  have rq3 := rz_up (rz_rf [] M0) eM1 (by decide)
  refine rr_iload_n pf_283_5 rfl ?_
  refine rr_cS1 pf_283_6 po_283 pc_9_228 (by decide) rfl (ct_R_isPane (by omega) hp0) ?_
  refine rr_ifb_eq 22 pf_283_9 (by decide) (fun c4 => ?_) (fun c4 => ?_)
  · refine rr_iconst pf_283_22 ?_
    refine rr_iret pf_283_23 pt_283 ⟨_, M1, rfl, rfl, q2, (by rfl), (rq3)⟩
  · refine rr_iload_n pf_283_12 rfl ?_
    refine rr_i2l pf_283_13 hu0 ?_
    refine rr_lconst (w := 0) pf_283_14 rfl ?_
    refine rr_lconst (w := 1) pf_283_15 rfl ?_
    refine rr_cS3 pf_283_16 po_283 pc_9_197 (by decide) rfl (ct_R_in (by omega) (rl_rg hu0) (by unfold rl; omega) (by unfold rl; omega)) ?_
    refine rr_ifb_ne 24 pf_283_19 (by decide) (fun c5 => ?_) (fun c5 => ?_)
    · exfalso; omega
    · refine rr_iconst pf_283_22 ?_
      refine rr_iret pf_283_23 pt_283 ⟨_, M1, rfl, rfl, q2, (by rfl), (rq3)⟩
