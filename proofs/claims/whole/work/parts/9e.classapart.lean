/-! the class on paper: panes that tell words apart -/
theorem iI_and2 {a b : Nat} (ha : a < 2 ^ 32) (hb : b < 2 ^ 32) : iI ((a : Nat) : Int) &&& iI ((b : Nat) : Int) = iI ((a &&& b : Nat) : Int) := by
  refine iI_ext ?_ (Nat.and_lt_two_pow _ hb)
  rw [Int32.toBitVec_and, BitVec.toNat_and, iI_nat ha, iI_nat hb]
theorem iI_ushrN {n s : Nat} (hn : n < 2 ^ 32) (hs : s < 32) : ((iI ((n : Nat) : Int)).toUInt32 >>> ((iI ((s : Nat) : Int)).toUInt32 &&& Int32.toUInt32 31)).toInt32 = iI ((n / 2 ^ s : Nat) : Int) := by
  rw [iI_ushr hs]
  congr 1
  rw [Int.emod_eq_of_lt (by omega) (by omega)]
  simp
theorem iI_low {s : Nat} (hs : s < 65536) : iI ((s : Nat) : Int) &&& iI (-((s : Nat) : Int)) = iI ((loB s : Nat) : Int) := by
  by_cases h0 : s = 0
  · subst h0; decide
  · refine iI_ext ?_ (Nat.lt_of_le_of_lt Nat.and_le_left (by omega))
    rw [Int32.toBitVec_and, BitVec.toNat_and, iI_nat (by omega)]
    unfold loB
    congr 1
    rw [iI_bv, BitVec.toNat_ofInt]
    omega
theorem loB_le (s : Nat) : loB s ≤ s := Nat.and_le_left
theorem bc_st {s : Nat} (hs : s < 65536) : bc1 s ≤ s ∧ bc2 (bc1 s) < 131072 ∧ bc3 (bc2 (bc1 s)) < 262144 ∧ bc4 (bc3 (bc2 (bc1 s))) < 524288 ∧ bc5 (bc4 (bc3 (bc2 (bc1 s)))) < 1048576 := by
  have a1 : bc1 s ≤ s := Nat.sub_le _ _
  have a2 : bc2 (bc1 s) < 131072 := by
    have x1 : bc1 s &&& 858993459 ≤ bc1 s := Nat.and_le_left
    have x2 : (bc1 s / 4) &&& 858993459 ≤ bc1 s / 4 := Nat.and_le_left
    unfold bc2; omega
  have a3 : bc3 (bc2 (bc1 s)) < 262144 := by
    have x1 : (bc2 (bc1 s) + bc2 (bc1 s) / 16) &&& 252645135 ≤ bc2 (bc1 s) + bc2 (bc1 s) / 16 := Nat.and_le_left
    unfold bc3; omega
  have a4 : bc4 (bc3 (bc2 (bc1 s))) < 524288 := by
    show bc3 (bc2 (bc1 s)) + bc3 (bc2 (bc1 s)) / 256 < 524288; omega
  exact ⟨a1, a2, a3, a4, by show bc4 (bc3 (bc2 (bc1 s))) + bc4 (bc3 (bc2 (bc1 s))) / 65536 < 1048576; omega⟩
theorem nxF_b {s : Nat} (hs : s < 65536) : nxF s < 131072 := by
  have hl := loB_le s
  unfold nxF
  split
  · omega
  · have h1 : s + loB s < 2 ^ 17 := by omega
    have h2 : s ^^^ (s + loB s) < 2 ^ 17 := Nat.xor_lt_two_pow (by omega) h1
    have h3 : (s ^^^ (s + loB s)) / loB s / 4 ≤ s ^^^ (s + loB s) := Nat.le_trans (Nat.div_le_self _ _) (Nat.div_le_self _ _)
    exact Nat.or_lt_two_pow h1 (by omega)
theorem ct_Integer_bitCount {xs : Nat → Int} {L d : Nat} {sh : List (Nat × Nat)} {M0 : Nat → Nat → Int} (hd : 1 ≤ d) (hW : px_W0 <+: sh) (hF : px_Fx M0) (hG : px_RG sh M0)  {s : Nat} (hs6 : s < 65536) : ∃ v M, (px_qk sh [] M0 M ∧ (v = ((bcF s : Nat) : Int))) ∧ px_Cl xs L d 137 [.int (iI (((s : Nat) : Int)))] (sh, M0) (some (.int (iI v))) (sh, M) := by
  obtain ⟨d, rfl⟩ : ∃ e, d = e + 1 := ⟨d - 1, by omega⟩
  have q0 : px_qk sh [] M0 M0 := ⟨hF, hG, eo_rf⟩
  obtain ⟨u1, u2, u3, u4, u5⟩ := bc_st hs6
  refine vc_i (Nat.le_of_ble_eq_true rfl) ?_
  show px_R xs L d 137 (0, [.int (iI (((s : Nat) : Int)))], [], (sh, M0)) (fun r h' => ∃ v M', r = some (.int (iI v)) ∧ h' = (sh, M') ∧ px_qk sh [] M0 M' ∧ v = ((bcF s : Nat) : Int))
  refine rr_iload_n pf_137_0 rfl ?_
  refine rr_iload_n pf_137_1 rfl ?_
  refine rr_iconst pf_137_2 ?_
  refine rr_iushr (((s / 2 ^ 1 : Nat) : Int)) pf_137_3 (iI_ushrN (n := s) (s := 1) (by omega) (by decide)) ?_
  refine rr_ldc_w pf_137_4 po_137 pk_23_265 ?_
  refine rr_iand ((((s / 2 ^ 1) &&& 1431655765 : Nat) : Int)) pf_137_7 (iI_and2 (a := (s / 2 ^ 1)) (b := 1431655765) (by omega) (by decide)) ?_
  have hle : (s / 2 ^ 1) &&& 1431655765 ≤ s / 2 ^ 1 := Nat.and_le_left
  refine rr_isub pf_137_8 ?_
  refine rr_istore_n pf_137_9 (fun y => [.int (iI (y))]) (Nat.le_of_ble_eq_true rfl) (fun _ => rfl) (fun y1 hy1 => ?_)
  obtain ⟨a1, ha1⟩ : ∃ z : Nat, z = bc1 s := ⟨_, rfl⟩
  obtain rfl : y1 = ((a1 : Nat) : Int) := by rw [hy1, ha1]; show _ = ((s - ((s / 2 ^ 1) &&& 1431655765) : Nat) : Int); omega
  rw [← ha1] at u1 u2 u3 u4 u5
  have ba1 : a1 < 1048576 := by omega
  refine rr_iload_n pf_137_10 rfl ?_
  refine rr_ldc_w pf_137_11 po_137 pk_23_266 ?_
  refine rr_iand (((a1 &&& 858993459 : Nat) : Int)) pf_137_14 (iI_and2 (a := a1) (b := 858993459) (by omega) (by decide)) ?_
  refine rr_iload_n pf_137_15 rfl ?_
  refine rr_iconst pf_137_16 ?_
  refine rr_iushr (((a1 / 2 ^ 2 : Nat) : Int)) pf_137_17 (iI_ushrN (n := a1) (s := 2) (by omega) (by decide)) ?_
  refine rr_ldc_w pf_137_18 po_137 pk_23_266 ?_
  refine rr_iand ((((a1 / 2 ^ 2) &&& 858993459 : Nat) : Int)) pf_137_21 (iI_and2 (a := (a1 / 2 ^ 2)) (b := 858993459) (by omega) (by decide)) ?_
  refine rr_iadd pf_137_22 ?_
  refine rr_istore_n pf_137_23 (fun y => [.int (iI (y))]) (Nat.le_of_ble_eq_true rfl) (fun _ => rfl) (fun y2 hy2 => ?_)
  obtain ⟨a2, ha2⟩ : ∃ z : Nat, z = bc2 a1 := ⟨_, rfl⟩
  obtain rfl : y2 = ((a2 : Nat) : Int) := by rw [hy2, ha2]; rfl
  rw [← ha2] at u2 u3 u4 u5
  have ba2 : a2 < 1048576 := by omega
  refine rr_iload_n pf_137_24 rfl ?_
  refine rr_iload_n pf_137_25 rfl ?_
  refine rr_iconst pf_137_26 ?_
  refine rr_iushr (((a2 / 2 ^ 4 : Nat) : Int)) pf_137_27 (iI_ushrN (n := a2) (s := 4) (by omega) (by decide)) ?_
  refine rr_iadd pf_137_28 ?_
  refine rr_ldc_w pf_137_29 po_137 pk_23_267 ?_
  refine rr_iand ((((a2 + a2 / 2 ^ 4) &&& 252645135 : Nat) : Int)) pf_137_32 (by rw [show ((a2 : Nat) : Int) + ((a2 / 2 ^ 4 : Nat) : Int) = ((a2 + a2 / 2 ^ 4 : Nat) : Int) from rfl]; exact iI_and2 (a := a2 + a2 / 2 ^ 4) (b := 252645135) (by omega) (by decide)) ?_
  refine rr_istore_n pf_137_33 (fun y => [.int (iI (y))]) (Nat.le_of_ble_eq_true rfl) (fun _ => rfl) (fun y3 hy3 => ?_)
  obtain ⟨a3, ha3⟩ : ∃ z : Nat, z = bc3 a2 := ⟨_, rfl⟩
  obtain rfl : y3 = ((a3 : Nat) : Int) := by rw [hy3, ha3]; rfl
  rw [← ha3] at u3 u4 u5
  have ba3 : a3 < 1048576 := by omega
  refine rr_iload_n pf_137_34 rfl ?_
  refine rr_iload_n pf_137_35 rfl ?_
  refine rr_bipush pf_137_36 (by decide) ?_
  refine rr_iushr (((a3 / 2 ^ 8 : Nat) : Int)) pf_137_38 (iI_ushrN (n := a3) (s := 8) (by omega) (by decide)) ?_
  refine rr_iadd pf_137_39 ?_
  refine rr_istore_n pf_137_40 (fun y => [.int (iI (y))]) (Nat.le_of_ble_eq_true rfl) (fun _ => rfl) (fun y4 hy4 => ?_)
  obtain ⟨a4, ha4⟩ : ∃ z : Nat, z = bc4 a3 := ⟨_, rfl⟩
  obtain rfl : y4 = ((a4 : Nat) : Int) := by rw [hy4, ha4]; rfl
  rw [← ha4] at u4 u5
  have ba4 : a4 < 1048576 := by omega
  refine rr_iload_n pf_137_41 rfl ?_
  refine rr_iload_n pf_137_42 rfl ?_
  refine rr_bipush pf_137_43 (by decide) ?_
  refine rr_iushr (((a4 / 2 ^ 16 : Nat) : Int)) pf_137_45 (iI_ushrN (n := a4) (s := 16) (by omega) (by decide)) ?_
  refine rr_iadd pf_137_46 ?_
  refine rr_istore_n pf_137_47 (fun y => [.int (iI (y))]) (Nat.le_of_ble_eq_true rfl) (fun _ => rfl) (fun y5 hy5 => ?_)
  obtain ⟨a5, ha5⟩ : ∃ z : Nat, z = bc5 a4 := ⟨_, rfl⟩
  obtain rfl : y5 = ((a5 : Nat) : Int) := by rw [hy5, ha5]; rfl
  rw [← ha5] at u5
  have ba5 : a5 < 1048576 := by omega
  refine rr_iload_n pf_137_48 rfl ?_
  refine rr_bipush pf_137_49 (by decide) ?_
  refine rr_iand (((a5 &&& 63 : Nat) : Int)) pf_137_51 (iI_and2 (a := a5) (b := 63) (by omega) (by decide)) ?_
  have hle5 : a5 &&& 63 ≤ 63 := Nat.and_le_right
  refine rr_iret pf_137_52 pt_137 ⟨_, M0, rfl, rfl, q0, (by unfold bcF; rw [ha5, ha4, ha3, ha2, ha1])⟩
theorem ct_Paper_nextOfSize {xs : Nat → Int} {L d : Nat} {sh : List (Nat × Nat)} {M0 : Nat → Nat → Int} (hd : 1 ≤ d) (hW : px_W0 <+: sh) (hF : px_Fx M0) (hG : px_RG sh M0)  {s : Nat} (hs6 : s < 65536) : ∃ v M, (px_qk sh [] M0 M ∧ (v = ((nxF s : Nat) : Int))) ∧ px_Cl xs L d 149 [.int (iI (((s : Nat) : Int)))] (sh, M0) (some (.int (iI v))) (sh, M) := by
  obtain ⟨d, rfl⟩ : ∃ e, d = e + 1 := ⟨d - 1, by omega⟩
  have q0 : px_qk sh [] M0 M0 := ⟨hF, hG, eo_rf⟩
  have hll := loB_le s
  refine vc_i (Nat.le_of_ble_eq_true rfl) ?_
  show px_R xs L d 149 (0, [.int (iI (((s : Nat) : Int))), px_jk, px_jk], [], (sh, M0)) (fun r h' => ∃ v M', r = some (.int (iI v)) ∧ h' = (sh, M') ∧ px_qk sh [] M0 M' ∧ v = ((nxF s : Nat) : Int))
  refine rr_iload_n pf_149_0 rfl ?_
  refine rr_iload_n pf_149_1 rfl ?_
  refine rr_ineg pf_149_2 ?_
  refine rr_iand (((loB s : Nat) : Int)) pf_149_3 (iI_low hs6) ?_
  refine rr_istore_n pf_149_4 (fun y => [.int (iI (((s : Nat) : Int))), .int (iI (y)), px_jk]) (Nat.le_of_ble_eq_true rfl) (fun _ => rfl) (fun y1 hy1 => ?_)
  refine rr_iload_n pf_149_5 rfl ?_
  refine rr_if_ne 12 pf_149_6 (by decide) (by unfold rg; omega) (fun c2 => ?_) (fun c2 => ?_)
  · obtain ⟨lo, hlo⟩ : ∃ z : Nat, z = loB s := ⟨_, rfl⟩
    rw [← hlo] at hll
    obtain rfl : y1 = ((lo : Nat) : Int) := by rw [hlo]; omega
    refine rr_iload_n pf_149_12 rfl ?_
    refine rr_iload_n pf_149_13 rfl ?_
    refine rr_iadd pf_149_14 ?_
    refine rr_istore_n pf_149_15 (fun y => [.int (iI (((s : Nat) : Int))), .int (iI (((lo : Nat) : Int))), .int (iI (y))]) (Nat.le_of_ble_eq_true rfl) (fun _ => rfl) (fun y3 hy3 => ?_)
    obtain ⟨c, hc⟩ : ∃ z : Nat, z = s + lo := ⟨_, rfl⟩
    obtain rfl : y3 = ((c : Nat) : Int) := by omega
    have hx17 : s ^^^ c < 2 ^ 17 := Nat.xor_lt_two_pow (by omega) (by omega)
    have hd1 : (s ^^^ c) / lo ≤ s ^^^ c := Nat.div_le_self _ _
    obtain ⟨dv, hdv⟩ : ∃ z : Nat, z = (s ^^^ c) / lo := ⟨_, rfl⟩
    rw [← hdv] at hd1
    refine rr_iload_n pf_149_16 rfl ?_
    refine rr_iload_n pf_149_17 rfl ?_
    refine rr_iload_n pf_149_18 rfl ?_
    refine rr_ixor (((s ^^^ c : Nat) : Int)) pf_149_19 (iI_xor (by omega) (by omega)) ?_
    refine rr_iload_n pf_149_20 rfl ?_
    refine rr_idivP pf_149_21 (by unfold rg; omega) (by unfold rg; omega) (by omega) (by omega) ?_
    refine rr_iconst pf_149_22 ?_
    refine rr_ishr (((dv / 4 : Nat) : Int)) pf_149_23 (by rw [show ((s ^^^ c : Nat) : Int) / ((lo : Nat) : Int) = ((dv : Nat) : Int) from by rw [hdv]; rfl]; exact iI_shr (x := ((dv : Nat) : Int)) (s := 2) (by unfold rg; omega) (by decide)) ?_
    refine rr_ior (((c ||| dv / 4 : Nat) : Int)) pf_149_24 (iI_or (by omega) (by omega)) ?_
    have hor : c ||| dv / 4 < 2 ^ 17 := Nat.or_lt_two_pow (by omega) (by omega)
    refine rr_iret pf_149_25 pt_149 ⟨_, M0, rfl, rfl, q0, (by unfold nxF; rw [← hlo, if_neg (by omega), ← hc, ← hdv])⟩
  · refine rr_ldc pf_149_9 po_149 pk_2_182 ?_
    refine rr_iret pf_149_11 pt_149 ⟨_, M0, rfl, rfl, q0, (by unfold nxF; rw [if_pos (by omega)]; rfl)⟩
def cpL : Nat → List (Nat × Nat)
  | 0 => []
  | a + 1 => cpL a ++ (List.range a).map (fun j => (a, j))
theorem cpL_mem : ∀ v a b, (a, b) ∈ cpL v ↔ a < v ∧ b < a := by
  intro v
  induction v with
  | zero => intro a b; simp [cpL]
  | succ v ih =>
    intro a b
    simp only [cpL, List.mem_append, List.mem_map, List.mem_range, Prod.mk.injEq]
    rw [ih]
    constructor
    · rintro (⟨h1, h2⟩ | ⟨j, hj, rfl, rfl⟩)
      · exact ⟨by omega, h2⟩
      · exact ⟨by omega, hj⟩
    · rintro ⟨h1, h2⟩
      by_cases e : a < v
      · exact Or.inl ⟨e, h2⟩
      · exact Or.inr ⟨b, by omega, by omega, rfl⟩
theorem cpL_len : ∀ n, n < 9 → ∀ a, a < n → ∀ b, b < a → (cpL a).length + b < 28 := by decide +kernel
theorem cpL_len2 : ∀ n, n < 9 → (cpL n).length ≤ 28 := by decide +kernel
theorem hit_mem {lw : List sp_C} {ρ : Nat → Int} {L : List (Nat × Nat)} {s : Nat} : hitL (ulL lw ρ L) s = true ↔ ∀ a b, (a, b) ∈ L → s &&& ulk lw ρ a b 16 ≠ 0 := by
  unfold hitL ulL
  rw [List.all_eq_true]
  constructor
  · intro h a b hm
    exact of_decide_eq_true (h _ (List.mem_map.mpr ⟨(a, b), hm, rfl⟩))
  · intro h x hx
    obtain ⟨⟨a, b⟩, hm, rfl⟩ := List.mem_map.mp hx
    exact decide_eq_true (h a b hm)
theorem hit_cp {lw : List sp_C} {ρ : Nat → Int} {n s : Nat} : hitL (ulL lw ρ (cpL n)) s = hitL (ulL lw ρ (prL n n)) s := by
  rw [Bool.eq_iff_iff, hit_mem, hit_mem]
  constructor
  · intro h a b hm
    rw [prL_mem n (Nat.le_refl _)] at hm
    rw [ulk_comm]
    exact h b a ((cpL_mem n b a).mpr ⟨hm.2.2, hm.2.1⟩)
  · intro h a b hm
    rw [cpL_mem] at hm
    rw [ulk_comm]
    exact h b a ((prL_mem n (Nat.le_refl _) b a).mpr ⟨by omega, hm.2, hm.1⟩)
theorem apF_congr {L L2 : List Nat} : ∀ m, (∀ s, s < m → hitL L s = hitL L2 s) → apF L m = apF L2 m := by
  intro m
  induction m with
  | zero => intro _; rfl
  | succ m ih => intro h; simp only [apF]; rw [ih (fun s hs => h s (by omega)), h m (by omega)]
theorem ap_first {L : List Nat} {s : Nat} (hs : s < 65536) (hh : hitL L s = true) (h1 : ∀ t, t < 65536 → bcF t < bcF s → ¬ hitL L t = true) (h2 : ∀ t, t < s → bcF t = bcF s → ¬ hitL L t = true) : ∀ m, m ≤ 65536 → (m ≤ s → opc s 16 < (apF L m).2) ∧ (s < m → apF L m = (((s : Nat) : Int), opc s 16)) := by
  intro m
  have hb := bc_16 hs
  induction m with
  | zero =>
    intro _
    have := opc_b s 16
    exact ⟨fun _ => by show opc s 16 < (100000000 : Int); omega, fun h => by omega⟩
  | succ m ih =>
    intro hm
    obtain ⟨i1, i2⟩ := ih (by omega)
    have hbm := bc_16 (s := m) (by omega)
    simp only [apF]
    rcases (show m < s ∨ m = s ∨ s < m by omega) with z | z | z
    · refine ⟨fun _ => ?_, fun h => by omega⟩
      have i3 := i1 (by omega)
      split
      · rename_i hc
        have a1 : ¬ bcF m < bcF s := fun y => h1 m (by omega) y hc.2
        have a2 : ¬ bcF m = bcF s := fun y => h2 m z y hc.2
        show opc s 16 < opc m 16
        omega
      · exact i3
    · subst z
      refine ⟨fun h => by omega, fun _ => ?_⟩
      rw [if_pos ⟨i1 (Nat.le_refl _), hh⟩]
    · refine ⟨fun h => by omega, fun _ => ?_⟩
      have i3 := i2 z
      rw [i3, if_neg]
      intro hc
      have hc1 : opc m 16 < opc s 16 := hc.1
      exact h1 m (by omega) (by omega) hc.2
theorem ap_none {L : List Nat} (h : ∀ t, t < 65536 → ¬ hitL L t = true) : ∀ m, m ≤ 65536 → apF L m = (-1, 100000000) := by
  intro m
  induction m with
  | zero => intro _; rfl
  | succ m ih =>
    intro hm
    rw [apF, ih (by omega), if_neg (fun z => h m (by omega) z.2)]
theorem ap_pop {L : List Nat} : ∀ m, (apF L m).1 = -1 ∨ (0 ≤ (apF L m).1 ∧ (apF L m).1 < m ∧ (apF L m).2 = opc (apF L m).1.toNat 16) := by
  intro m
  induction m with
  | zero => exact Or.inl rfl
  | succ m ih =>
    simp only [apF]
    split
    · exact Or.inr ⟨by show (0 : Int) ≤ ((m : Nat) : Int); omega, by show ((m : Nat) : Int) < _; omega, by show opc m 16 = opc (((m : Nat) : Int).toNat) 16; rw [Int.toNat_natCast]⟩
    · rcases ih with z | ⟨z1, z2, z3⟩
      · exact Or.inl z
      · exact Or.inr ⟨z1, by omega, z3⟩
theorem hit_all {L : List Nat} (hb : ∀ x ∈ L, x < 65536) {s : Nat} (h : hitL L s = true) : hitL L 65535 = true := by
  unfold hitL at h ⊢
  rw [List.all_eq_true] at h ⊢
  intro x hx
  have h1 := of_decide_eq_true (h x hx)
  refine decide_eq_true ?_
  rw [Nat.and_comm, show 65535 = 2 ^ 16 - 1 from rfl, Nat.and_two_pow_sub_one_eq_mod, Nat.mod_eq_of_lt (hb x hx)]
  intro z
  rw [z] at h1
  simp at h1
theorem ulL_b {lw : List sp_C} {ρ : Nat → Int} {L : List (Nat × Nat)} : ∀ x ∈ ulL lw ρ L, x < 65536 := by
  intro x hx
  unfold ulL at hx
  obtain ⟨y, _, rfl⟩ := List.mem_map.mp hx
  exact ulk_16 lw ρ _ _ (Nat.le_refl 16)
theorem ct_Paper_isUnlike {xs : Nat → Int} {L d : Nat} {sh : List (Nat × Nat)} {M0 : Nat → Nat → Int} (hd : 2 ≤ d) (hW : px_W0 <+: sh) (hF : px_Fx M0) (hG : px_RG sh M0)  {ρ : Nat → Int} (hR : rc M0 3 = ρ) (hρ : sp_ok ρ) {lw : List sp_C} {n : Nat} (hn : ρ 0 = ((n : Nat) : Int)) (hn8 : n ≤ 8) (hall : ∀ j : Nat, ((j / 16 : Nat) : Int) < ρ 0 → M0 177 j = sp_stain lw ρ (j / 16) (j % 16)) {a b p : Nat} (ha : a < n) (hb : b < n) (hp6 : p < 16) : ∃ M, (px_qk sh [] M0 M) ∧ px_Cl xs L d 147 [.ref 175, .int (iI (((a : Nat) : Int))), .int (iI (((b : Nat) : Int))), .int (iI (((p : Nat) : Int)))] (sh, M0) (some (.int (iI (bI (ulC lw ρ a b p = true))))) (sh, M) := by
  obtain ⟨d, rfl⟩ : ∃ e, d = e + 1 := ⟨d - 1, by omega⟩
  have q0 : px_qk sh [] M0 M0 := ⟨hF, hG, eo_rf⟩
  have hsa := sp_stain_b lw ρ a p
  have hsb := sp_stain_b lw ρ b p
  refine vc_n (Nat.le_of_ble_eq_true rfl) ?_
  show px_R xs L d 147 (0, [.ref 175, .int (iI (((a : Nat) : Int))), .int (iI (((b : Nat) : Int))), .int (iI (((p : Nat) : Int))), px_jk], [], (sh, M0)) (fun r h' => r = some (.int (iI (bI (ulC lw ρ a b p = true)))) ∧ ∃ M', h' = (sh, M') ∧ px_qk sh [] M0 M')
  refine rr_aload_n pf_147_0 rfl ?_
  refine rr_iload_n pf_147_1 rfl ?_
  refine rr_iload_n pf_147_2 rfl ?_
  obtain ⟨r3, M1, ⟨kq2, pv_M1⟩, hcM1⟩ := ct_Paper_stain (xs := xs) (L := L) (d := d) (w := a) (p := p) (by omega) hW q0.1 q0.2.1 (by omega) (by omega)
  obtain rfl := qk_nil kq2
  refine rr_cV2 pf_147_3 po_147 pc_2_127 (ws_175 hW) po_131 (by decide) rfl hcM1 ?_
  rw [hall (16 * a + p) (by omega), show (16 * a + p) / 16 = a by omega, show (16 * a + p) % 16 = p by omega] at pv_M1
  refine rr_istore pf_147_6 (fun y => [.ref 175, .int (iI (((a : Nat) : Int))), .int (iI (((b : Nat) : Int))), .int (iI (((p : Nat) : Int))), .int (iI (y))]) (Nat.le_of_ble_eq_true rfl) (fun _ => rfl) (fun y4 hy4 => ?_)
  refine rr_iload pf_147_8 rfl ?_
  refine rr_aload_n pf_147_10 rfl ?_
  refine rr_iload_n pf_147_11 rfl ?_
  refine rr_iload_n pf_147_12 rfl ?_
  obtain ⟨r7, M5, ⟨kq6, pv_M5⟩, hcM5⟩ := ct_Paper_stain (xs := xs) (L := L) (d := d) (w := b) (p := p) (by omega) hW q0.1 q0.2.1 (by omega) (by omega)
  obtain rfl := qk_nil kq6
  refine rr_cV2 pf_147_13 po_147 pc_2_127 (ws_175 hW) po_131 (by decide) rfl hcM5 ?_
  rw [hall (16 * b + p) (by omega), show (16 * b + p) / 16 = b by omega, show (16 * b + p) % 16 = p by omega] at pv_M5
  refine rr_icmp_ne 45 pf_147_16 (by decide) (by unfold rg; omega) (by unfold rg; omega) (fun c8 => ?_) (fun c8 => ?_)
  · refine rr_iconst pf_147_45 ?_
    refine rr_goto 50 pf_147_46 (by decide) ?_
    refine rr_zret pf_147_50 pt_147 (by first | exact Or.inl rfl | exact Or.inr rfl | omega) ⟨by rw [bI_t (by exact decide_eq_true (by omega))], M0, rfl, q0⟩
  · refine rr_iload pf_147_19 rfl ?_
    refine rr_if_eq 49 pf_147_21 (by decide) (by unfold rg; omega) (fun c9 => ?_) (fun c9 => ?_)
    · refine rr_iconst pf_147_49 ?_
      refine rr_zret pf_147_50 pt_147 (by first | exact Or.inl rfl | exact Or.inr rfl | omega) ⟨by rw [bI_f (by intro z; have := of_decide_eq_true z; omega)], M0, rfl, q0⟩
    · refine rr_aload_n pf_147_24 rfl ?_
      refine rr_getR pf_147_25 po_147 pg_2_65 rfl (ws_175 hW) (by decide) (wr_175_3 q0.1) ?_
      refine rr_getR pf_147_28 po_147 pg_2_106 rfl (ws_3 hW) (by decide) (wr_3_1 q0.1) ?_
      refine rr_iload_n pf_147_31 rfl ?_
      refine vr_iald (j := a) q0 pf_147_32 (ws_8 hW) (by omega) (by omega) (by decide) (fun x10 hx10 rx10 => ?_)
      rw [c3_8 (M := M0) (i := a) (by omega), hR] at hx10
      refine rr_aload_n pf_147_33 rfl ?_
      refine rr_getR pf_147_34 po_147 pg_2_65 rfl (ws_175 hW) (by decide) (wr_175_3 q0.1) ?_
      refine rr_getR pf_147_37 po_147 pg_2_106 rfl (ws_3 hW) (by decide) (wr_3_1 q0.1) ?_
      refine rr_iload_n pf_147_40 rfl ?_
      refine vr_iald (j := b) q0 pf_147_41 (ws_8 hW) (by omega) (by omega) (by decide) (fun x11 hx11 rx11 => ?_)
      rw [c3_8 (M := M0) (i := b) (by omega), hR] at hx11
      refine rr_icmp_eq 49 pf_147_42 (by decide) rx10 rx11 (fun c12 => ?_) (fun c12 => ?_)
      · refine rr_iconst pf_147_49 ?_
        refine rr_zret pf_147_50 pt_147 (by first | exact Or.inl rfl | exact Or.inr rfl | omega) ⟨by rw [bI_f (by intro z; have := of_decide_eq_true z; omega)], M0, rfl, q0⟩
      · refine rr_iconst pf_147_45 ?_
        refine rr_goto 50 pf_147_46 (by decide) ?_
        refine rr_zret pf_147_50 pt_147 (by first | exact Or.inl rfl | exact Or.inr rfl | omega) ⟨by rw [bI_t (by exact decide_eq_true (by omega))], M0, rfl, q0⟩
theorem lp_Paper_tellsApart_2 {xs : Nat → Int} {L d : Nat} {sh : List (Nat × Nat)}  (hW : px_W0 <+: sh) {M0 : Nat → Nat → Int}  {LU : List Nat} (hct : M0 175 17 = ((LU.length : Nat) : Int)) (hlen : LU.length ≤ 28) (hmh : mhR (M0 184) LU) (hLb : ∀ x ∈ LU, x < 65536) {s : Nat} (hs6 : s < 65536)  {Q : Option Value → px_H → Prop} (kx : ∀ (k : Nat) (M : Nat → Nat → Int), px_qk sh [] M0 M → (hitL LU s = true) → px_R xs L d 148 (29, [.ref 175, .int (iI (((s : Nat) : Int))), .int (iI (((k : Nat) : Int)))], [], (sh, M)) Q) (hQ : ∀ r h', (fun r h' => r = some (.int (iI (bI (hitL LU s = true)))) ∧ ∃ M', h' = (sh, M') ∧ px_qk sh [] M0 M') r h' → Q r h') : ∀ (mz : Nat) (k : Nat) (M : Nat → Nat → Int), 29 - k = mz → px_qk sh [] M0 M → (k ≤ LU.length) → (∀ x ∈ LU.take k, s &&& x ≠ 0) → px_R xs L d 148 (2, [.ref 175, .int (iI (((s : Nat) : Int))), .int (iI (((k : Nat) : Int)))], [], (sh, M)) Q := by
  intro mz
  induction mz using Nat.strongRecOn with
  | _ mz ih =>
    intro k M hm hq hk hh
    refine rr_iload_n pf_148_2 rfl ?_
    refine rr_aload_n pf_148_3 rfl ?_
    refine vr_getI hq pf_148_4 po_148 pg_2_59 rfl (ws_175 hW) (by decide) (fun x1 hx1 rx1 => ?_)
    rw [hq.2.2 175 (by decide)] at hx1
    rw [hct] at hx1
    refine rr_icmp_ge 29 pf_148_7 (by decide) (by unfold rg; omega) rx1 (fun c2 => ?_) (fun c2 => ?_)
    · exact kx k M hq (by unfold hitL; rw [List.all_eq_true]; intro x hx; refine decide_eq_true (hh x ?_); rw [List.take_of_length_le (by omega)]; exact hx)
    · refine rr_aload_n pf_148_10 rfl ?_
      refine rr_getR pf_148_11 po_148 pg_2_43 rfl (ws_175 hW) (by decide) (wr_175_12 hq.1) ?_
      refine rr_iload_n pf_148_14 rfl ?_
      refine vr_iald (j := k) hq pf_148_15 (ws_184 hW) (by omega) (by omega) (by decide) (fun x3 hx3 rx3 => ?_)
      rw [hq.2.2 184 (by decide)] at hx3
      obtain ⟨xk, hxk⟩ : ∃ y, LU[k]? = some y := ⟨_, List.getElem?_eq_getElem (by omega)⟩
      rw [hmh k xk hxk] at hx3
      have hxb := hLb xk (List.mem_of_getElem? hxk)
      refine rr_iload_n pf_148_16 rfl ?_
      refine rr_iand (((xk &&& s : Nat) : Int)) pf_148_17 (by rw [hx3]; exact iI_and (by omega) (by omega)) ?_
      have hle : xk &&& s ≤ s := Nat.and_le_right
      refine rr_if_ne 23 pf_148_18 (by decide) (by unfold rg; omega) (fun c4 => ?_) (fun c4 => ?_)
      · refine rr_iinc pf_148_23 rfl (fun y => [.ref 175, .int (iI (((s : Nat) : Int))), .int (iI (y))]) (fun _ => rfl) (fun y5 hy5 => ?_)
        refine rr_goto 2 pf_148_26 (by decide) ?_
        obtain ⟨nz6, hnz6, rfl⟩ : ∃ zz : Nat, zz = 1 + k ∧ y5 = ((zz : Nat) : Int) := ⟨1 + k, rfl, by omega⟩
        exact ih _ (by omega) nz6 M rfl hq (by omega) (by
                      rw [show nz6 = k + 1 by omega, List.take_succ, hxk]
                      intro x hx
                      rcases List.mem_append.mp hx with h1 | h1
                      · exact hh x h1
                      · simp at h1; subst h1; rw [Nat.and_comm]; omega)
      · refine rr_iconst pf_148_21 ?_
        refine rr_zret pf_148_22 pt_148 (by first | exact Or.inl rfl | exact Or.inr rfl | omega) (hQ _ _ ⟨by rw [bI_f (by intro z; unfold hitL at z; rw [List.all_eq_true] at z; have z1 := of_decide_eq_true (z xk (List.mem_of_getElem? hxk)); rw [Nat.and_comm] at z1; omega)], M, rfl, hq⟩)
theorem ct_Paper_tellsApart {xs : Nat → Int} {L d : Nat} {sh : List (Nat × Nat)} {M0 : Nat → Nat → Int} (hd : 1 ≤ d) (hW : px_W0 <+: sh) (hF : px_Fx M0) (hG : px_RG sh M0)  {LU : List Nat} (hct : M0 175 17 = ((LU.length : Nat) : Int)) (hlen : LU.length ≤ 28) (hmh : mhR (M0 184) LU) (hLb : ∀ x ∈ LU, x < 65536) {s : Nat} (hs6 : s < 65536) : ∃ M, (px_qk sh [] M0 M) ∧ px_Cl xs L d 148 [.ref 175, .int (iI (((s : Nat) : Int)))] (sh, M0) (some (.int (iI (bI (hitL LU s = true))))) (sh, M) := by
  obtain ⟨d, rfl⟩ : ∃ e, d = e + 1 := ⟨d - 1, by omega⟩
  have q0 : px_qk sh [] M0 M0 := ⟨hF, hG, eo_rf⟩
  refine vc_n (Nat.le_of_ble_eq_true rfl) ?_
  show px_R xs L d 148 (0, [.ref 175, .int (iI (((s : Nat) : Int))), px_jk], [], (sh, M0)) (fun r h' => r = some (.int (iI (bI (hitL LU s = true)))) ∧ ∃ M', h' = (sh, M') ∧ px_qk sh [] M0 M')
  refine rr_iconst pf_148_0 ?_
  refine rr_istore_n pf_148_1 (fun y => [.ref 175, .int (iI (((s : Nat) : Int))), .int (iI (y))]) (Nat.le_of_ble_eq_true rfl) (fun _ => rfl) (fun y1 hy1 => ?_)
  obtain ⟨nz2, hnz2, rfl⟩ : ∃ zz : Nat, zz = 0 ∧ y1 = ((zz : Nat) : Int) := ⟨0, rfl, by omega⟩
  refine lp_Paper_tellsApart_2 (xs := xs) (L := L) (d := d)  hW hct hlen hmh hLb hs6 (fun k_3  M4 q5 xh_M4 => ?_) (fun _ _ h => h) _ nz2 M0 rfl q0 (by omega) (by rw [show nz2 = 0 by omega]; simp)
  have hyes := xh_M4
  refine rr_iconst pf_148_29 ?_
  refine rr_zret pf_148_30 pt_148 (by first | exact Or.inl rfl | exact Or.inr rfl | omega) ⟨by rw [bI_t (by exact hyes)], M4, rfl, q5⟩
theorem lp_Paper_fillUnlike_30 {xs : Nat → Int} {L d : Nat} {sh : List (Nat × Nat)} (hd : 2 ≤ d) (hW : px_W0 <+: sh) {M0 : Nat → Nat → Int}  {ρ : Nat → Int} (hR : rc M0 3 = ρ) (hρ : sp_ok ρ) {lw : List sp_C} {n : Nat} (hn : ρ 0 = ((n : Nat) : Int)) (hn8 : n ≤ 8) (hall : ∀ j : Nat, ((j / 16 : Nat) : Int) < ρ 0 → M0 177 j = sp_stain lw ρ (j / 16) (j % 16)) {a b : Nat} (ha : a < n) (hb : b < a) {Q : Option Value → px_H → Prop} (kx : ∀ (u : Nat) (p : Nat) (M : Nat → Nat → Int), px_qk sh [175, 184] M0 M → (fk 175 [17] M0 M) → (u = ulk lw ρ a b 16) → (M 175 17 = (((cpL a).length + b : Nat) : Int)) → (mhR (M 184) (ulL lw ρ (cpL a ++ (List.range b).map (fun j => (a, j))))) → px_R xs L d 146 (65, [.ref 175, .int (iI (((a : Nat) : Int))), .int (iI (((b : Nat) : Int))), .int (iI (((u : Nat) : Int))), .int (iI (((p : Nat) : Int)))], [], (sh, M)) Q)  : ∀ (mz : Nat) (u : Nat) (p : Nat) (M : Nat → Nat → Int), 16 - p = mz → px_qk sh [175, 184] M0 M → (fk 175 [17] M0 M) → (p ≤ 16) → (u = ulk lw ρ a b p) → (M 175 17 = (((cpL a).length + b : Nat) : Int)) → (mhR (M 184) (ulL lw ρ (cpL a ++ (List.range b).map (fun j => (a, j))))) → px_R xs L d 146 (30, [.ref 175, .int (iI (((a : Nat) : Int))), .int (iI (((b : Nat) : Int))), .int (iI (((u : Nat) : Int))), .int (iI (((p : Nat) : Int)))], [], (sh, M)) Q := by
  intro mz
  induction mz using Nat.strongRecOn with
  | _ mz ih =>
    intro u p M hm hq hrq hp hu hc hm
    have hub := fun (h : p ≤ 16) => ulk_16 lw ρ a b h
    have hpp := fun (h : p < 16) => (show 2 ^ p ≤ 2 ^ 15 from Nat.pow_le_pow_right (by decide) (by omega))
    refine rr_iload pf_146_30 rfl ?_
    refine rr_bipush pf_146_32 (by decide) ?_
    refine rr_icmp_ge 65 pf_146_34 (by decide) (by unfold rg; omega) (by unfold rg; omega) (fun c1 => ?_) (fun c1 => ?_)
    · exact kx u p M hq (hrq) (by rw [hu, show p = 16 by omega]) (hc) (hm)
    · have hub := hub hp
      have hpp := hpp (by omega)
      refine rr_iload_n pf_146_37 rfl ?_
      refine rr_aload_n pf_146_38 rfl ?_
      refine rr_iload_n pf_146_39 rfl ?_
      refine rr_iload_n pf_146_40 rfl ?_
      refine rr_iload pf_146_41 rfl ?_
      obtain ⟨M2, kq3, hcM2⟩ := ct_Paper_isUnlike (xs := xs) (L := L) (d := d) (a := a) (b := b) (p := p) (lw := lw) (n := n) (by omega) hW hq.1 hq.2.1 ((rc_eo hq.2.2 (by decide)).trans hR) hρ hn hn8 (by rw [hq.2.2 177 (by decide)]; exact hall) (by omega) (by omega) (by omega)
      obtain rfl := qk_nil kq3
      refine rr_cV3 pf_146_43 po_146 pc_2_186 (ws_175 hW) po_147 (by decide) rfl hcM2 ?_
      refine rr_ifb_eq 56 pf_146_46 (by decide) (fun c5 => ?_) (fun c5 => ?_)
      · have hC := c5
        refine rr_iconst pf_146_56 ?_
        refine rr_ior (((u : Nat) : Int)) pf_146_57 (by rw [show (0 : Int) = ((0 : Nat) : Int) from rfl, iI_or (by omega) (by omega), Nat.or_zero]) ?_
        refine rr_istore_n pf_146_58 (fun y => [.ref 175, .int (iI (((a : Nat) : Int))), .int (iI (((b : Nat) : Int))), .int (iI (y)), .int (iI (((p : Nat) : Int)))]) (Nat.le_of_ble_eq_true rfl) (fun _ => rfl) (fun y6 hy6 => ?_)
        refine rr_iinc pf_146_59 rfl (fun y => [.ref 175, .int (iI (((a : Nat) : Int))), .int (iI (((b : Nat) : Int))), .int (iI (y6)), .int (iI (y))]) (fun _ => rfl) (fun y7 hy7 => ?_)
        refine rr_goto 30 pf_146_62 (by decide) ?_
        obtain ⟨nz8, hnz8, rfl⟩ : ∃ zz : Nat, zz = u ∧ y6 = ((zz : Nat) : Int) := ⟨u, rfl, by omega⟩
        obtain ⟨nz9, hnz9, rfl⟩ : ∃ zz : Nat, zz = 1 + p ∧ y7 = ((zz : Nat) : Int) := ⟨1 + p, rfl, by omega⟩
        exact ih _ (by omega) nz8 nz9 M rfl hq (hrq) (by omega) (by rw [show nz9 = p + 1 by omega, ulk, ← hu, if_neg hC, Nat.or_zero]; omega) (hc) (hm)
      · have hC := c5
        refine rr_iconst pf_146_49 ?_
        refine rr_iload pf_146_50 rfl ?_
        refine rr_ishl (((2 ^ p : Nat) : Int)) pf_146_52 (iI_shl1 p (by omega)) ?_
        refine rr_goto 57 pf_146_53 (by decide) ?_
        refine rr_ior (((u ||| 2 ^ p : Nat) : Int)) pf_146_57 (iI_or (by omega) (by omega)) ?_
        refine rr_istore_n pf_146_58 (fun y => [.ref 175, .int (iI (((a : Nat) : Int))), .int (iI (((b : Nat) : Int))), .int (iI (y)), .int (iI (((p : Nat) : Int)))]) (Nat.le_of_ble_eq_true rfl) (fun _ => rfl) (fun y10 hy10 => ?_)
        refine rr_iinc pf_146_59 rfl (fun y => [.ref 175, .int (iI (((a : Nat) : Int))), .int (iI (((b : Nat) : Int))), .int (iI (y10)), .int (iI (y))]) (fun _ => rfl) (fun y11 hy11 => ?_)
        refine rr_goto 30 pf_146_62 (by decide) ?_
        obtain ⟨nz12, hnz12, rfl⟩ : ∃ zz : Nat, zz = y10.toNat ∧ y10 = ((zz : Nat) : Int) := ⟨y10.toNat, rfl, by omega⟩
        obtain ⟨nz13, hnz13, rfl⟩ : ∃ zz : Nat, zz = 1 + p ∧ y11 = ((zz : Nat) : Int) := ⟨1 + p, rfl, by omega⟩
        exact ih _ (by omega) nz12 nz13 M rfl hq (hrq) (by omega) (by rw [show nz13 = p + 1 by omega, ulk, ← hu, if_pos hC]; omega) (hc) (hm)
theorem lp_Paper_fillUnlike_20 {xs : Nat → Int} {L d : Nat} {sh : List (Nat × Nat)} (hd : 2 ≤ d) (hW : px_W0 <+: sh) {M0 : Nat → Nat → Int}  {ρ : Nat → Int} (hR : rc M0 3 = ρ) (hρ : sp_ok ρ) {lw : List sp_C} {n : Nat} (hn : ρ 0 = ((n : Nat) : Int)) (hn8 : n ≤ 8) (hall : ∀ j : Nat, ((j / 16 : Nat) : Int) < ρ 0 → M0 177 j = sp_stain lw ρ (j / 16) (j % 16)) {a : Nat} (ha : a < n) {Q : Option Value → px_H → Prop} (kx : ∀ (b : Nat) (v3 : Value) (v4 : Value) (M : Nat → Nat → Int), px_qk sh [175, 184] M0 M → (fk 175 [17] M0 M) → (M 175 17 = (((cpL (a + 1)).length : Nat) : Int)) → (mhR (M 184) (ulL lw ρ (cpL (a + 1)))) → px_R xs L d 146 (91, [.ref 175, .int (iI (((a : Nat) : Int))), .int (iI (((b : Nat) : Int))), v3, v4], [], (sh, M)) Q)  : ∀ (mz : Nat) (b : Nat) (v3 : Value) (v4 : Value) (M : Nat → Nat → Int), 9 - b = mz → px_qk sh [175, 184] M0 M → (fk 175 [17] M0 M) → (b ≤ a) → (M 175 17 = (((cpL a).length + b : Nat) : Int)) → (mhR (M 184) (ulL lw ρ (cpL a ++ (List.range b).map (fun j => (a, j))))) → px_R xs L d 146 (20, [.ref 175, .int (iI (((a : Nat) : Int))), .int (iI (((b : Nat) : Int))), v3, v4], [], (sh, M)) Q := by
  intro mz
  induction mz using Nat.strongRecOn with
  | _ mz ih =>
    intro b v3 v4 M hm hq hrq hb hc hm
    refine rr_iload_n pf_146_20 rfl ?_
    refine rr_iload_n pf_146_21 rfl ?_
    refine rr_icmp_ge 91 pf_146_22 (by decide) (by unfold rg; omega) (by unfold rg; omega) (fun c1 => ?_) (fun c1 => ?_)
    · exact kx b _ _ M hq (hrq) (by rw [hc, cpL, List.length_append, List.length_map, List.length_range]; omega) (by
                  have e : b = a := by omega
                  rw [e] at hm; exact hm)
    · refine rr_iconst pf_146_25 ?_
      refine rr_istore_n pf_146_26 (fun y => [.ref 175, .int (iI (((a : Nat) : Int))), .int (iI (((b : Nat) : Int))), .int (iI (y)), v4]) (Nat.le_of_ble_eq_true rfl) (fun _ => rfl) (fun y2 hy2 => ?_)
      refine rr_iconst pf_146_27 ?_
      refine rr_istore pf_146_28 (fun y => [.ref 175, .int (iI (((a : Nat) : Int))), .int (iI (((b : Nat) : Int))), .int (iI (y2)), .int (iI (y))]) (Nat.le_of_ble_eq_true rfl) (fun _ => rfl) (fun y3 hy3 => ?_)
      obtain ⟨nz4, hnz4, rfl⟩ : ∃ zz : Nat, zz = 0 ∧ y2 = ((zz : Nat) : Int) := ⟨0, rfl, by omega⟩
      obtain ⟨nz5, hnz5, rfl⟩ : ∃ zz : Nat, zz = 0 ∧ y3 = ((zz : Nat) : Int) := ⟨0, rfl, by omega⟩
      refine lp_Paper_fillUnlike_30 (xs := xs) (L := L) (d := d) (by omega) hW hR hρ hn hn8 hall (by omega) (by omega) (fun u_6 p_7  M8 q9 xrq_M8 xu_M8 xc_M8 xm_M8 => ?_) _ nz4 nz5 M rfl hq (hrq) (by omega) (by rw [show nz4 = 0 by omega, show nz5 = 0 by omega]; rfl) (hc) (hm)
      have hub := ulk_16 lw ρ a b (Nat.le_refl 16)
      rw [← xu_M8] at hub
      refine rr_aload_n pf_146_65 rfl ?_
      refine rr_getR pf_146_66 po_146 pg_2_43 rfl (ws_175 hW) (by decide) (wr_175_12 q9.1) ?_
      refine rr_aload_n pf_146_69 rfl ?_
      refine vr_getI q9 pf_146_70 po_146 pg_2_59 rfl (ws_175 hW) (by decide) (fun x10 hx10 rx10 => ?_)
      rw [xc_M8] at hx10
      have hcl := cpL_len n (by omega) a (by omega) b (by omega)
      refine rr_iload_n pf_146_73 rfl ?_
      refine vr_iast (j := ((cpL a).length + b)) hW q9 pf_146_74 (ws_184 hW) (by omega) (by omega) (by decide) (by unfold rg; omega) (by decide) (fun M11 eM11 q12 => ?_)
      have rq13 := fk_ne xrq_M8 eM11 (by decide)
      refine rr_aload_n pf_146_75 rfl ?_
      refine rr_dup pf_146_76 rfl ?_
      refine vr_getI q12 pf_146_77 po_146 pg_2_59 rfl (ws_175 hW) (by decide) (fun x14 hx14 rx14 => ?_)
      rw [eM11, ask_ne (by decide)] at hx14
      rw [xc_M8] at hx14
      have hcl := cpL_len n (by omega) a (by omega) b (by omega)
      refine rr_iconst pf_146_80 ?_
      refine rr_iadd pf_146_81 ?_
      refine vr_putI hW q12 pf_146_82 po_146 pg_2_59 (Or.inl rfl) rfl (ws_175 hW) (by decide) (by unfold rg; omega) (by decide) (fun M15 eM15 q16 => ?_)
      have rq17 := fk_up rq13 eM15 (by decide)
      refine rr_iinc pf_146_85 rfl (fun y => [.ref 175, .int (iI (((a : Nat) : Int))), .int (iI (y)), .int (iI (((u_6 : Nat) : Int))), .int (iI (((p_7 : Nat) : Int)))]) (fun _ => rfl) (fun y18 hy18 => ?_)
      refine rr_goto 20 pf_146_88 (by decide) ?_
      obtain ⟨nz19, hnz19, rfl⟩ : ∃ zz : Nat, zz = 1 + b ∧ y18 = ((zz : Nat) : Int) := ⟨1 + b, rfl, by omega⟩
      exact ih _ (by omega) nz19 _ _ M15 rfl q16 (rq17) (by omega) (by rw [eM15, up_s, show nz19 = b + 1 by omega]; omega) (by
                  rw [show nz19 = b + 1 by omega, List.range_succ, List.map_append, ← List.append_assoc]
                  unfold ulL
                  rw [List.map_append]
                  refine mhR_push xm_M8 ?_ ?_
                  · rw [List.length_map, List.length_append, List.length_map, List.length_range, eM15, ask_ne (by decide), eM11, up_s, xu_M8]
                  · intro j hj; rw [List.length_map, List.length_append, List.length_map, List.length_range] at hj; rw [eM15, ask_ne (by decide), eM11, up_ne (by omega)])
theorem lp_Paper_fillUnlike_7 {xs : Nat → Int} {L d : Nat} {sh : List (Nat × Nat)} (hd : 2 ≤ d) (hW : px_W0 <+: sh) {M0 : Nat → Nat → Int}  {ρ : Nat → Int} (hR : rc M0 3 = ρ) (hρ : sp_ok ρ) {lw : List sp_C} {n : Nat} (hn : ρ 0 = ((n : Nat) : Int)) (hn8 : n ≤ 8) (hall : ∀ j : Nat, ((j / 16 : Nat) : Int) < ρ 0 → M0 177 j = sp_stain lw ρ (j / 16) (j % 16))  {Q : Option Value → px_H → Prop} (kx : ∀ (a : Nat) (v2 : Value) (v3 : Value) (v4 : Value) (M : Nat → Nat → Int), px_qk sh [175, 184] M0 M → (fk 175 [17] M0 M) → (M 175 17 = (((cpL n).length : Nat) : Int)) → (mhR (M 184) (ulL lw ρ (cpL n))) → px_R xs L d 146 (97, [.ref 175, .int (iI (((a : Nat) : Int))), v2, v3, v4], [], (sh, M)) Q)  : ∀ (mz : Nat) (a : Nat) (v2 : Value) (v3 : Value) (v4 : Value) (M : Nat → Nat → Int), 9 - a = mz → px_qk sh [175, 184] M0 M → (fk 175 [17] M0 M) → (a ≤ n) → (M 175 17 = (((cpL a).length : Nat) : Int)) → (mhR (M 184) (ulL lw ρ (cpL a))) → px_R xs L d 146 (7, [.ref 175, .int (iI (((a : Nat) : Int))), v2, v3, v4], [], (sh, M)) Q := by
  intro mz
  induction mz using Nat.strongRecOn with
  | _ mz ih =>
    intro a v2 v3 v4 M hm hq hrq ha hc hm
    refine rr_iload_n pf_146_7 rfl ?_
    refine rr_aload_n pf_146_8 rfl ?_
    refine rr_getR pf_146_9 po_146 pg_2_65 rfl (ws_175 hW) (by decide) (wr_175_3 hq.1) ?_
    refine vr_getI hq pf_146_12 po_146 pg_2_77 rfl (ws_3 hW) (by decide) (fun x1 hx1 rx1 => ?_)
    rw [hq.2.2 3 (by decide)] at hx1
    change x1 = rc M0 3 0 at hx1
    rw [hR] at hx1
    refine rr_icmp_ge 97 pf_146_15 (by decide) (by unfold rg; omega) rx1 (fun c2 => ?_) (fun c2 => ?_)
    · exact kx a _ _ _ M hq (hrq) (by rw [hc, show a = n by omega]) (by
                  have e : a = n := by omega
                  rw [e] at hm; exact hm)
    · refine rr_iconst pf_146_18 ?_
      refine rr_istore_n pf_146_19 (fun y => [.ref 175, .int (iI (((a : Nat) : Int))), .int (iI (y)), v3, v4]) (Nat.le_of_ble_eq_true rfl) (fun _ => rfl) (fun y3 hy3 => ?_)
      obtain ⟨nz4, hnz4, rfl⟩ : ∃ zz : Nat, zz = 0 ∧ y3 = ((zz : Nat) : Int) := ⟨0, rfl, by omega⟩
      refine lp_Paper_fillUnlike_20 (xs := xs) (L := L) (d := d) (by omega) hW hR hρ hn hn8 hall (by omega) (fun b_5 v8 v9 M6 q7 xrq_M6 xc_M6 xm_M6 => ?_) _ nz4 _ _ M rfl hq (hrq) (by omega) (by rw [show nz4 = 0 by omega, Nat.add_zero]; exact hc) (by rw [show nz4 = 0 by omega]; simpa using hm)
      refine rr_iinc pf_146_91 rfl (fun y => [.ref 175, .int (iI (y)), .int (iI (((b_5 : Nat) : Int))), v8, v9]) (fun _ => rfl) (fun y10 hy10 => ?_)
      refine rr_goto 7 pf_146_94 (by decide) ?_
      obtain ⟨nz11, hnz11, rfl⟩ : ∃ zz : Nat, zz = 1 + a ∧ y10 = ((zz : Nat) : Int) := ⟨1 + a, rfl, by omega⟩
      exact ih _ (by omega) nz11 _ _ _ M6 rfl q7 (xrq_M6) (by omega) (by rw [show nz11 = a + 1 by omega]; exact xc_M6) (by rw [show nz11 = a + 1 by omega]; exact xm_M6)
theorem ct_Paper_fillUnlike {xs : Nat → Int} {L d : Nat} {sh : List (Nat × Nat)} {M0 : Nat → Nat → Int} (hd : 3 ≤ d) (hW : px_W0 <+: sh) (hF : px_Fx M0) (hG : px_RG sh M0)  {ρ : Nat → Int} (hR : rc M0 3 = ρ) (hρ : sp_ok ρ) {lw : List sp_C} {n : Nat} (hn : ρ 0 = ((n : Nat) : Int)) (hn8 : n ≤ 8) (hall : ∀ j : Nat, ((j / 16 : Nat) : Int) < ρ 0 → M0 177 j = sp_stain lw ρ (j / 16) (j % 16)) : ∃ M, (px_qk sh [175, 184] M0 M ∧ (M 175 17 = (((cpL n).length : Nat) : Int)) ∧ (mhR (M 184) (ulL lw ρ (cpL n))) ∧ (fk 175 [17] M0 M)) ∧ px_Cl xs L d 146 [.ref 175] (sh, M0) (none) (sh, M) := by
  obtain ⟨d, rfl⟩ : ∃ e, d = e + 1 := ⟨d - 1, by omega⟩
  have q0 : px_qk sh [175, 184] M0 M0 := ⟨hF, hG, eo_rf⟩
  refine vc_n (Nat.le_of_ble_eq_true rfl) ?_
  show px_R xs L d 146 (0, [.ref 175, px_jk, px_jk, px_jk, px_jk], [], (sh, M0)) (fun r h' => r = none ∧ ∃ M', h' = (sh, M') ∧ px_qk sh [175, 184] M0 M' ∧ M' 175 17 = (((cpL n).length : Nat) : Int) ∧ mhR (M' 184) (ulL lw ρ (cpL n)) ∧ fk 175 [17] M0 M')
  refine rr_aload_n pf_146_0 rfl ?_
  refine rr_iconst pf_146_1 ?_
  refine vr_putI hW q0 pf_146_2 po_146 pg_2_59 (Or.inl rfl) rfl (ws_175 hW) (by decide) (by unfold rg; omega) (by decide) (fun M1 eM1 q2 => ?_)
  have rq3 := fk_up (fk_rf 175 [17] M0) eM1 (by decide)
  refine rr_iconst pf_146_5 ?_
  refine rr_istore_n pf_146_6 (fun y => [.ref 175, .int (iI (y)), px_jk, px_jk, px_jk]) (Nat.le_of_ble_eq_true rfl) (fun _ => rfl) (fun y4 hy4 => ?_)
  obtain ⟨nz5, hnz5, rfl⟩ : ∃ zz : Nat, zz = 0 ∧ y4 = ((zz : Nat) : Int) := ⟨0, rfl, by omega⟩
  refine lp_Paper_fillUnlike_7 (xs := xs) (L := L) (d := d) (by omega) hW hR hρ hn hn8 hall (fun a_6 v9 v10 v11 M7 q8 xrq_M7 xc_M7 xm_M7 => ?_) _ nz5 _ _ _ M1 rfl q2 (rq3) (by omega) (by rw [show nz5 = 0 by omega, eM1, up_s]; rfl) (by rw [show nz5 = 0 by omega]; intro k x hx; cases k <;> simp [ulL, cpL] at hx)
  refine rr_vret pf_146_97 pt_146 ⟨rfl, M7, rfl, q8, (xc_M7), (xm_M7), (xrq_M7)⟩
theorem lp_Paper_fewestPanesApart_35 {xs : Nat → Int} {L d : Nat} {sh : List (Nat × Nat)} (hd : 7 ≤ d) (hW : px_W0 <+: sh) {M0 : Nat → Nat → Int}  {ρ : Nat → Int} (hR : rc M0 3 = ρ) (hρ : sp_ok ρ) {lw : List sp_C} (hlw : px_lw sh M0 3 lw) {n : Nat} (hn : ρ 0 = ((n : Nat) : Int)) (hn8 : n ≤ 8) {z : Nat} (hz : z ≤ 16) (hno : ∀ t, t < 65536 → bcF t < z → ¬ hitL (ulL lw ρ (cpL n)) t = true) {Q : Option Value → px_H → Prop} (kx : ∀ (s : Nat) (k : Nat) (M : Nat → Nat → Int), px_qk sh [2, 13, 175, 177, 184] M0 M → (fk 175 [17] M0 M) → (M 175 17 = (((ulL lw ρ (cpL n)).length : Nat) : Int)) → (mhR (M 184) (ulL lw ρ (cpL n))) → (∀ t, t < 65536 → bcF t = z → ¬ hitL (ulL lw ρ (cpL n)) t = true) → px_R xs L d 144 (68, [.ref 175, .int (iI (((z : Nat) : Int))), .int (iI (((s : Nat) : Int))), .int (iI (((k : Nat) : Int)))], [], (sh, M)) Q) (hQ : ∀ r h', (fun r h' => ∃ v M', r = some (.int (iI v)) ∧ h' = (sh, M') ∧ px_qk sh [2, 13, 175, 177, 184] M0 M' ∧ v = (apF (ulL lw ρ (prL n n)) 65536).1 ∧ fk 175 [17] M0 M') r h' → Q r h') : ∀ (mz : Nat) (s : Nat) (k : Nat) (M : Nat → Nat → Int), 131072 - s = mz → px_qk sh [2, 13, 175, 177, 184] M0 M → (fk 175 [17] M0 M) → (s < 131072) → (k ≤ s) → (M 175 17 = (((ulL lw ρ (cpL n)).length : Nat) : Int)) → (mhR (M 184) (ulL lw ρ (cpL n))) → (s < 65536 → bcF s = z) → (∀ t, t < 65536 → t < s → bcF t = z → ¬ hitL (ulL lw ρ (cpL n)) t = true) → px_R xs L d 144 (35, [.ref 175, .int (iI (((z : Nat) : Int))), .int (iI (((s : Nat) : Int))), .int (iI (((k : Nat) : Int)))], [], (sh, M)) Q := by
  intro mz
  induction mz using Nat.strongRecOn with
  | _ mz ih =>
    intro s k M hm hq hrq hsb hk hct hm hpop hlo
    refine rr_iload_n pf_144_35 rfl ?_
    refine rr_ldc pf_144_36 po_144 pk_2_182 ?_
    refine rr_icmp_ge 68 pf_144_38 (by decide) (by unfold rg; omega) (by unfold rg; omega) (fun c1 => ?_) (fun c1 => ?_)
    · exact kx s k M hq (hrq) (hct) (hm) (by intro t ht; exact hlo t ht (by omega))
    · refine rr_iload_n pf_144_41 rfl ?_
      refine rr_ldc pf_144_42 po_144 pk_2_182 ?_
      refine rr_icmp_ge 68 pf_144_44 (by decide) (by unfold rg; omega) (by unfold rg; omega) (fun c2 => ?_) (fun c2 => ?_)
      · exact kx s k M hq (hrq) (hct) (hm) (by intro t ht; exact hlo t ht (by omega))
      · refine rr_aload_n pf_144_47 rfl ?_
        refine rr_iload_n pf_144_48 rfl ?_
        have hz1 := hpop (by omega)
        obtain ⟨M3, kq4, hcM3⟩ := ct_Paper_tellsApart (xs := xs) (L := L) (d := d) (s := s) (LU := (ulL lw ρ (cpL n))) (by omega) hW hq.1 hq.2.1 hct (by unfold ulL; rw [List.length_map]; exact cpL_len2 n (by omega)) hm ulL_b (by omega)
        obtain rfl := qk_nil kq4
        refine rr_cV1 pf_144_49 po_144 pc_2_179 (ws_175 hW) po_148 (by decide) rfl hcM3 ?_
        refine rr_ifb_eq 57 pf_144_52 (by decide) (fun c6 => ?_) (fun c6 => ?_)
        · have hhit := c6
          refine rr_iload_n pf_144_57 rfl ?_
          obtain ⟨r9, M7, ⟨kq8, pv_M7⟩, hcM7⟩ := ct_Paper_nextOfSize (xs := xs) (L := L) (d := d) (s := s) (by omega) hW hq.1 hq.2.1 (by omega)
          obtain rfl := qk_nil kq8
          refine rr_cS1 pf_144_58 po_144 pc_2_183 (by decide) rfl hcM7 ?_
          have hgp := nx_gap (s := s) (by omega)
          have hnb := nxF_b (s := s) (by omega)
          refine rr_istore_n pf_144_61 (fun y => [.ref 175, .int (iI (((z : Nat) : Int))), .int (iI (y)), .int (iI (((k : Nat) : Int)))]) (Nat.le_of_ble_eq_true rfl) (fun _ => rfl) (fun y10 hy10 => ?_)
          refine rr_iinc pf_144_62 rfl (fun y => [.ref 175, .int (iI (((z : Nat) : Int))), .int (iI (y10)), .int (iI (y))]) (fun _ => rfl) (fun y11 hy11 => ?_)
          refine rr_goto 35 pf_144_65 (by decide) ?_
          obtain ⟨nz12, hnz12, rfl⟩ : ∃ zz : Nat, zz = y10.toNat ∧ y10 = ((zz : Nat) : Int) := ⟨y10.toNat, rfl, by omega⟩
          obtain ⟨nz13, hnz13, rfl⟩ : ∃ zz : Nat, zz = 1 + k ∧ y11 = ((zz : Nat) : Int) := ⟨1 + k, rfl, by omega⟩
          exact ih _ (by omega) nz12 nz13 M rfl hq (hrq) (by omega) (by omega) (hct) (hm) (by intro hz2; rw [show nz12 = nxF s by omega] at hz2 ⊢; rw [hgp.2.1 hz2]; exact hpop (by omega)) (by
                          intro t ht h1 h2
                          rcases (show t < s ∨ t = s ∨ s < t by omega) with y | y | y
                          · exact hlo t ht y h2
                          · rw [y]; exact hhit
                          · exfalso; exact hgp.2.2 t y ht (by omega) (h2.trans (hpop (by omega)).symm))
        · have hhit := c6
          refine rr_iload_n pf_144_55 rfl ?_
          refine rr_iret pf_144_56 pt_144 (hQ _ _ ⟨_, M, rfl, rfl, hq, (by
                          have hz1 := hpop (by omega)
                          have hapf := (ap_first (L := (ulL lw ρ (cpL n))) (s := s) (by omega) hhit (fun t ht h1 => hno t ht (by omega)) (fun t ht h2 => hlo t (by omega) ht (by omega)) 65536 (Nat.le_refl _)).2 (by omega)
                          rw [← apF_congr 65536 (fun s _ => hit_cp (lw := lw) (ρ := ρ) (n := n)), hapf]), (hrq)⟩)
theorem lp_Paper_fewestPanesApart_21 {xs : Nat → Int} {L d : Nat} {sh : List (Nat × Nat)} (hd : 7 ≤ d) (hW : px_W0 <+: sh) {M0 : Nat → Nat → Int}  {ρ : Nat → Int} (hR : rc M0 3 = ρ) (hρ : sp_ok ρ) {lw : List sp_C} (hlw : px_lw sh M0 3 lw) {n : Nat} (hn : ρ 0 = ((n : Nat) : Int)) (hn8 : n ≤ 8)  {Q : Option Value → px_H → Prop} (kx : ∀ (z : Nat) (v2 : Value) (v3 : Value) (M : Nat → Nat → Int), px_qk sh [2, 13, 175, 177, 184] M0 M → (fk 175 [17] M0 M) → (∀ t, t < 65536 → ¬ hitL (ulL lw ρ (cpL n)) t = true) → px_R xs L d 144 (74, [.ref 175, .int (iI (((z : Nat) : Int))), v2, v3], [], (sh, M)) Q) (hQ : ∀ r h', (fun r h' => ∃ v M', r = some (.int (iI v)) ∧ h' = (sh, M') ∧ px_qk sh [2, 13, 175, 177, 184] M0 M' ∧ v = (apF (ulL lw ρ (prL n n)) 65536).1 ∧ fk 175 [17] M0 M') r h' → Q r h') : ∀ (mz : Nat) (z : Nat) (v2 : Value) (v3 : Value) (M : Nat → Nat → Int), 17 - z = mz → px_qk sh [2, 13, 175, 177, 184] M0 M → (fk 175 [17] M0 M) → (z ≤ 17) → (M 175 17 = (((ulL lw ρ (cpL n)).length : Nat) : Int)) → (mhR (M 184) (ulL lw ρ (cpL n))) → (∀ t, t < 65536 → bcF t < z → ¬ hitL (ulL lw ρ (cpL n)) t = true) → px_R xs L d 144 (21, [.ref 175, .int (iI (((z : Nat) : Int))), v2, v3], [], (sh, M)) Q := by
  intro mz
  induction mz using Nat.strongRecOn with
  | _ mz ih =>
    intro z v2 v3 M hm hq hrq hz hct hm hno
    refine rr_iload_n pf_144_21 rfl ?_
    refine rr_bipush pf_144_22 (by decide) ?_
    refine rr_icmp_gt 74 pf_144_24 (by decide) (by unfold rg; omega) (by unfold rg; omega) (fun c1 => ?_) (fun c1 => ?_)
    · exact kx z _ _ M hq (hrq) (by intro t ht; exact hno t ht (by have := bc_b ht; omega))
    · have hbf := bc_first (z := z) (by omega)
      have hp1 : 1 ≤ 2 ^ z := Nat.one_le_two_pow
      have hp16 : 2 ^ z ≤ 2 ^ 16 := Nat.pow_le_pow_right (by decide) (by omega)
      refine rr_iconst pf_144_27 ?_
      refine rr_iload_n pf_144_28 rfl ?_
      refine rr_ishl (((2 ^ z : Nat) : Int)) pf_144_29 (iI_shl1 z (by omega)) ?_
      refine rr_iconst pf_144_30 ?_
      refine rr_isub pf_144_31 ?_
      refine rr_istore_n pf_144_32 (fun y => [.ref 175, .int (iI (((z : Nat) : Int))), .int (iI (y)), v3]) (Nat.le_of_ble_eq_true rfl) (fun _ => rfl) (fun y2 hy2 => ?_)
      refine rr_iconst pf_144_33 ?_
      refine rr_istore_n pf_144_34 (fun y => [.ref 175, .int (iI (((z : Nat) : Int))), .int (iI (y2)), .int (iI (y))]) (Nat.le_of_ble_eq_true rfl) (fun _ => rfl) (fun y3 hy3 => ?_)
      obtain ⟨nz4, hnz4, rfl⟩ : ∃ zz : Nat, zz = y2.toNat ∧ y2 = ((zz : Nat) : Int) := ⟨y2.toNat, rfl, by omega⟩
      obtain ⟨nz5, hnz5, rfl⟩ : ∃ zz : Nat, zz = 0 ∧ y3 = ((zz : Nat) : Int) := ⟨0, rfl, by omega⟩
      refine lp_Paper_fewestPanesApart_35 (xs := xs) (L := L) (d := d) (by omega) hW hR hρ hlw hn hn8 (by omega) hno (fun s_6 k_7  M8 q9 xrq_M8 xct_M8 xm_M8 xno_M8 => ?_) hQ _ nz4 nz5 M rfl hq (hrq) (by omega) (by omega) (hct) (hm) (by intro _; rw [show nz4 = 2 ^ z - 1 by omega]; exact hbf.1) (by intro t ht h1 h2; exfalso; exact hbf.2 t (by omega) h2)
      refine rr_iinc pf_144_68 rfl (fun y => [.ref 175, .int (iI (y)), .int (iI (((s_6 : Nat) : Int))), .int (iI (((k_7 : Nat) : Int)))]) (fun _ => rfl) (fun y10 hy10 => ?_)
      refine rr_goto 21 pf_144_71 (by decide) ?_
      obtain ⟨nz11, hnz11, rfl⟩ : ∃ zz : Nat, zz = 1 + z ∧ y10 = ((zz : Nat) : Int) := ⟨1 + z, rfl, by omega⟩
      exact ih _ (by omega) nz11 _ _ M8 rfl q9 (xrq_M8) (by omega) (xct_M8) (xm_M8) (by
                  intro t ht hz2; rcases (show bcF t < z ∨ bcF t = z by omega) with y | y
                  · exact hno t ht y
                  · exact xno_M8 t ht y)
theorem ct_Paper_fewestPanesApart {xs : Nat → Int} {L d : Nat} {sh : List (Nat × Nat)} {M0 : Nat → Nat → Int} (hd : 8 ≤ d) (hW : px_W0 <+: sh) (hF : px_Fx M0) (hG : px_RG sh M0)  {ρ : Nat → Int} (hR : rc M0 3 = ρ) (hρ : sp_ok ρ) {lw : List sp_C} (hlw : px_lw sh M0 3 lw) {n : Nat} (hn : ρ 0 = ((n : Nat) : Int)) (hn8 : n ≤ 8) : ∃ v M, (px_qk sh [2, 13, 175, 177, 184] M0 M ∧ (v = (apF (ulL lw ρ (prL n n)) 65536).1) ∧ (fk 175 [17] M0 M)) ∧ px_Cl xs L d 144 [.ref 175] (sh, M0) (some (.int (iI v))) (sh, M) := by
  obtain ⟨d, rfl⟩ : ∃ e, d = e + 1 := ⟨d - 1, by omega⟩
  have q0 : px_qk sh [2, 13, 175, 177, 184] M0 M0 := ⟨hF, hG, eo_rf⟩
  refine vc_i (Nat.le_of_ble_eq_true rfl) ?_
  show px_R xs L d 144 (0, [.ref 175, px_jk, px_jk, px_jk], [], (sh, M0)) (fun r h' => ∃ v M', r = some (.int (iI v)) ∧ h' = (sh, M') ∧ px_qk sh [2, 13, 175, 177, 184] M0 M' ∧ v = (apF (ulL lw ρ (prL n n)) 65536).1 ∧ fk 175 [17] M0 M')
  refine rr_aload_n pf_144_0 rfl ?_
  obtain ⟨M1, ⟨kq2, pz_M1⟩, hcM1⟩ := ct_Paper_fillAllStains (xs := xs) (L := L) (d := d) (lw := lw) (by omega) hW q0.1 q0.2.1 (by rw [hR]; exact hρ) hlw
  have q2 := qk_trm q0 kq2 (by decide)
  have rq4 := fk_q (fk_rf 175 [17] M0) kq2 (by decide)
  refine rr_cV0 pf_144_1 po_144 pc_2_172 (ws_175 hW) po_145 (by decide) rfl hcM1 ?_
  refine rr_aload_n pf_144_4 rfl ?_
  obtain ⟨M5, ⟨kq6, pc_M5, pm_M5, pf_M5⟩, hcM5⟩ := ct_Paper_fillUnlike (xs := xs) (L := L) (d := d) (lw := lw) (n := n) (by omega) hW q2.1 q2.2.1 ((rc_eo q2.2.2 (by decide)).trans hR) hρ hn hn8 (by rw [hR] at pz_M1; exact pz_M1)
  have q6 := qk_trm q2 kq6 (by decide)
  have rq8 := fk_tr rq4 pf_M5 (by decide)
  refine rr_cV0 pf_144_5 po_144 pc_2_175 (ws_175 hW) po_146 (by decide) rfl hcM5 ?_
  have hctx : M5 175 17 = (((ulL lw ρ (cpL n)).length : Nat) : Int) := by unfold ulL; rw [List.length_map]; exact pc_M5
  have hmx := pm_M5
  refine rr_aload_n pf_144_8 rfl ?_
  refine rr_ldc pf_144_9 po_144 pk_2_178 ?_
  obtain ⟨M9, kq10, hcM9⟩ := ct_Paper_tellsApart (xs := xs) (L := L) (d := d) (s := 65535) (LU := (ulL lw ρ (cpL n))) (by omega) hW q6.1 q6.2.1 hctx (by unfold ulL; rw [List.length_map]; exact cpL_len2 n (by omega)) hmx ulL_b (by omega)
  rw [show ((65535 : Nat) : Int) = (65535) by omega] at hcM9
  obtain rfl := qk_nil kq10
  refine rr_cV1 pf_144_11 po_144 pc_2_179 (ws_175 hW) po_148 (by decide) rfl hcM9 ?_
  refine rr_ifb_ne 19 pf_144_14 (by decide) (fun c12 => ?_) (fun c12 => ?_)
  · have hall0 := c12
    refine rr_iconst pf_144_19 ?_
    refine rr_istore_n pf_144_20 (fun y => [.ref 175, .int (iI (y)), px_jk, px_jk]) (Nat.le_of_ble_eq_true rfl) (fun _ => rfl) (fun y13 hy13 => ?_)
    obtain ⟨nz14, hnz14, rfl⟩ : ∃ zz : Nat, zz = 0 ∧ y13 = ((zz : Nat) : Int) := ⟨0, rfl, by omega⟩
    refine lp_Paper_fewestPanesApart_21 (xs := xs) (L := L) (d := d) (by omega) hW hR hρ hlw hn hn8 (fun z_15 v18 v19 M16 q17 xrq_M16 xno_M16 => ?_) (fun _ _ h => h) _ nz14 _ _ M5 rfl q6 (rq8) (by omega) (hctx) (hmx) (by intro t ht hz; exfalso; omega)
    refine rr_iconst pf_144_74 ?_
    refine rr_iret pf_144_75 pt_144 ⟨_, M16, rfl, rfl, q17, (by exfalso; exact xno_M16 65535 (by omega) hall0), (xrq_M16)⟩
  · have hall0 := c12
    refine rr_iconst pf_144_17 ?_
    refine rr_iret pf_144_18 pt_144 ⟨_, M5, rfl, rfl, q6, (by rw [← apF_congr 65536 (fun s _ => hit_cp (lw := lw) (ρ := ρ) (n := n)), ap_none (fun t ht hh => hall0 (hit_all ulL_b hh)) 65536 (Nat.le_refl _)]), (rq8)⟩
theorem ct_S_apart {xs : Nat → Int} {L d : Nat} {sh : List (Nat × Nat)} {M0 : Nat → Nat → Int} (hd : 9 ≤ d) (hW : px_W0 <+: sh) (hF : px_Fx M0) (hG : px_RG sh M0)  {ρ : Nat → Int} (hR : rc M0 3 = ρ) (hρ : sp_ok ρ) {lw : List sp_C} (hlw : px_lw sh M0 3 lw) {n : Nat} (hn : ρ 0 = ((n : Nat) : Int)) (hn8 : n ≤ 8) {u : Int} (hu0 : rg u) : ∃ v M, (px_qk sh [2, 13, 175, 177, 184] M0 M ∧ (v = sp_apa lw ρ u) ∧ (fk 175 [17] M0 M)) ∧ px_Cl xs L d 143 [.ref 0, .int (iI (u))] (sh, M0) (some (.int (iI v))) (sh, M) := by
  obtain ⟨d, rfl⟩ : ∃ e, d = e + 1 := ⟨d - 1, by omega⟩
  have q0 : px_qk sh [2, 13, 175, 177, 184] M0 M0 := ⟨hF, hG, eo_rf⟩
  have hap := ap_pop (L := ulL lw ρ (prL n n)) 65536
  have hapb := apF_b (ulL lw ρ (prL n n)) 65536
  refine vc_i (Nat.le_of_ble_eq_true rfl) ?_
  show px_R xs L d 143 (0, [.ref 0, .int (iI (u)), px_jk], [], (sh, M0)) (fun r h' => ∃ v M', r = some (.int (iI v)) ∧ h' = (sh, M') ∧ px_qk sh [2, 13, 175, 177, 184] M0 M' ∧ v = sp_apa lw ρ u ∧ fk 175 [17] M0 M')
  refine rr_iload_n pf_143_0 rfl ?_
  refine rr_iconst pf_143_1 ?_
  refine rr_iconst pf_143_2 ?_
  refine rr_cS3 pf_143_3 po_143 pc_8_95 (by decide) rfl (ct_S_within (by omega) hu0 (by unfold rg; omega) (by unfold rg; omega)) ?_
  refine rr_ifb_ne 11 pf_143_6 (by decide) (fun c1 => ?_) (fun c1 => ?_)
  · refine rr_aload_n pf_143_11 rfl ?_
    refine rr_getR pf_143_12 po_143 pg_8_57 rfl (ws_0 hW) (by decide) (wr_0_7 q0.1) ?_
    obtain ⟨r4, M2, ⟨kq3, pv_M2, pf_M2⟩, hcM2⟩ := ct_Paper_fewestPanesApart (xs := xs) (L := L) (d := d) (lw := lw) (n := n) (by omega) hW q0.1 q0.2.1 hR hρ hlw hn hn8
    have q3 := qk_trm q0 kq3 (by decide)
    have rq5 := fk_tr (fk_rf 175 [17] M0) pf_M2 (by decide)
    refine rr_cV0 pf_143_15 po_143 pc_8_311 (ws_175 hW) po_144 (by decide) rfl hcM2 ?_
    
    refine rr_istore_n pf_143_18 (fun y => [.ref 0, .int (iI (u)), .int (iI (y))]) (Nat.le_of_ble_eq_true rfl) (fun _ => rfl) (fun y6 hy6 => ?_)
    refine rr_iload_n pf_143_19 rfl ?_
    refine rr_iconst pf_143_20 ?_
    refine rr_icmp_ne 26 pf_143_21 (by decide) (by unfold rg; omega) (by unfold rg; omega) (fun c7 => ?_) (fun c7 => ?_)
    · refine rr_iload_n pf_143_26 rfl ?_
      refine rr_if_ne 37 pf_143_27 (by decide) hu0 (fun c8 => ?_) (fun c8 => ?_)
      · refine rr_iload_n pf_143_37 rfl ?_
        refine rr_iret pf_143_38 pt_143 ⟨_, M2, rfl, rfl, q3, (by unfold sp_apa; rw [show (ρ 0).toNat = n by omega, if_pos (by omega), if_pos (by omega)]; omega), (rq5)⟩
      · refine rr_iload_n pf_143_30 rfl ?_
        obtain ⟨r11, M9, ⟨kq10, pv_M9⟩, hcM9⟩ := ct_Integer_bitCount (xs := xs) (L := L) (d := d) (s := (y6).toNat) (by omega) hW q3.1 q3.2.1 (by omega)
        rw [show (((y6).toNat : Nat) : Int) = y6 by omega] at hcM9
        obtain rfl := qk_nil kq10
        refine rr_cS1 pf_143_31 po_143 pc_8_314 (by decide) rfl hcM9 ?_
        refine rr_goto 38 pf_143_34 (by decide) ?_
        refine rr_iret pf_143_38 pt_143 ⟨_, M2, rfl, rfl, q3, (by
                      unfold sp_apa; rw [show (ρ 0).toNat = n by omega, if_pos (by omega), if_neg (by omega)]; rcases hap with z | ⟨z1, z2, z3⟩
                      · exfalso; omega
                      · rw [z3, pv_M9, bc_16 (by omega), hy6, pv_M2]), (rq5)⟩
    · refine rr_iconst pf_143_24 ?_
      refine rr_iret pf_143_25 pt_143 ⟨_, M2, rfl, rfl, q3, (by unfold sp_apa; rw [show (ρ 0).toNat = n by omega, if_pos (by omega), if_pos (Or.inl (by omega))]; omega), (rq5)⟩
  · refine rr_iconst pf_143_9 ?_
    refine rr_iret pf_143_10 pt_143 ⟨_, M0, rfl, rfl, q0, (by unfold sp_apa; rw [if_neg (by omega)]), ((fk_rf 175 [17] M0))⟩
