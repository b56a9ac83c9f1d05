/-! the copy of a trail -/
def px_trA (tb : Nat) : List Nat := (List.range 71).map (fun i => tb + i)
theorem trA_iff {tb a : Nat} : a ∈ px_trA tb ↔ tb ≤ a ∧ a < tb + 71 := by
  unfold px_trA
  rw [List.mem_map]
  constructor
  · rintro ⟨i, h, rfl⟩
    rw [List.mem_range] at h
    omega
  · intro h
    exact ⟨a - tb, List.mem_range.mpr (by omega), by omega⟩
theorem nnEq_keep {M M' : Nat → Nat → Int} {a b : Nat} (h : ∀ i, i < 4 → M' (a + i) = M (a + i)) : nnEq M' M a a := fun j _ => nn_eq h j
theorem lp_Trail_copyFrom {xs : Nat → Int} {L d : Nat} {sh : List (Nat × Nat)} (hd : 1 ≤ d) (hW : px_W0 <+: sh) {M0 : Nat → Nat → Int} {tb t2 : Nat} (htb : px_tr tb) (ht2 : px_tr t2) (hne : tb ≠ t2) (hto : tr_ok M0 t2) : ∀ (m i : Nat) (M : Nat → Nat → Int) (v3 : Value), i + m = (M0 t2 3).toNat → px_qk sh (px_trA tb) M0 M → (M tb 2 = M0 t2 2 ∧ M tb 3 = M0 t2 3 ∧ (∀ j, j < 17 → M (tb + 2) j = M0 (t2 + 2) j) ∧ ∀ j, j < i → nnEq M M0 (tb + 3 + 4 * tr_sl M0 t2 j) (t2 + 3 + 4 * tr_sl M0 t2 j)) → px_R xs L d 95 (33, [.ref tb, .ref t2, .int (iI (((i : Nat) : Int))), v3], [], (sh, M)) (fun r h' => r = none ∧ ∃ M', h' = (sh, M') ∧ px_qk sh (px_trA tb) M0 M' ∧ (M' tb 2 = M0 t2 2 ∧ M' tb 3 = M0 t2 3 ∧ (∀ j, j < 17 → M' (tb + 2) j = M0 (t2 + 2) j) ∧ ∀ j : Nat, (j : Int) < M0 t2 3 → nnEq M' M0 (tb + 3 + 4 * tr_sl M0 t2 j) (t2 + 3 + 4 * tr_sl M0 t2 j))) := by
  have hor := tr_or htb
  have hor2 := tr_or ht2
  obtain ⟨⟨o1, o2⟩, o3, o4⟩ := hto
  intro m
  induction m with
  | zero =>
    intro i M v3 hi hq ⟨i2, i3, ik, il⟩
    refine rr_iload_n pf_95_33 rfl ?_
    refine rr_aload_n pf_95_34 rfl ?_
    refine rr_getI pf_95_35 po_95 pg_7_25 rfl (ts_0 hW htb) (by decide) ?_
    refine rr_icmp_ge 72 pf_95_38 (by decide) (by simp only [rg, rl] at *; omega) (rg_at hq.2.1 (ts_0 hW htb) (by decide)) (fun c1 => ?_) (fun c1 => ?_)
    · refine rr_vret pf_95_72 pt_95 ⟨rfl, M, rfl, hq, i2, i3, ik, fun j hj => il j (by omega)⟩
    · exfalso; omega
  | succ m ih =>
    intro i M v3 hi hq ⟨i2, i3, ik, il⟩
    have hsl : tr_sl M0 t2 i < 17 := by unfold tr_sl; omega
    obtain ⟨sb, esb⟩ : ∃ s, s = tb + 3 + 4 * tr_sl M0 t2 i := ⟨_, rfl⟩
    have hsb := tr_nv htb hsl
    rw [← esb] at hsb
    obtain ⟨s2, es2⟩ : ∃ s, s = t2 + 3 + 4 * tr_sl M0 t2 i := ⟨_, rfl⟩
    have hs2 := tr_nv ht2 hsl
    rw [← es2] at hs2
    refine rr_iload_n pf_95_33 rfl ?_
    refine rr_aload_n pf_95_34 rfl ?_
    refine rr_getI pf_95_35 po_95 pg_7_25 rfl (ts_0 hW htb) (by decide) ?_
    refine rr_icmp_ge 72 pf_95_38 (by decide) (by simp only [rg, rl] at *; omega) (rg_at hq.2.1 (ts_0 hW htb) (by decide)) (fun c1 => ?_) (fun c1 => ?_)
    · exfalso; omega
    · refine rr_aload_n pf_95_41 rfl ?_
      refine rr_getI pf_95_42 po_95 pg_7_21 rfl (ts_0 hW htb) (by decide) ?_
      refine rr_iload_n pf_95_45 rfl ?_
      refine rr_iadd pf_95_46 ?_
      refine rr_bipush pf_95_47 (by decide) ?_
      refine rr_iremP pf_95_49 (by simp only [rg, rl] at *; omega) (by simp only [rg, rl] at *; omega) (by omega) (by omega) ?_
      refine rr_istore_n pf_95_50 (fun y => [.ref tb, .ref t2, .int (iI (((i : Nat) : Int))), .int (iI (y))]) (Nat.le_of_ble_eq_true rfl) (fun _ => rfl) (fun y2 hy2 => ?_)
      refine rr_aload_n pf_95_51 rfl ?_
      refine rr_getR pf_95_52 po_95 pg_7_13 rfl (ts_0 hW htb) (by decide) (tf_0 hq.1 htb) ?_
      refine rr_iload_n pf_95_55 rfl ?_
      have hsn : (y2).toNat = tr_sl M0 t2 i := by rw [hy2, i2]; unfold tr_sl; omega
      have hasb : M (tb + 1) (y2).toNat = ((sb : Nat) : Int) := by rw [hsn, tr_ah hq.1 htb hsl, esb]
      refine rr_aald pf_95_56 (ts_1 hW htb) (by omega) (by omega) (by simp only [rg, rl] at *; omega) (by decide) hasb ?_
      refine rr_aload_n pf_95_57 rfl ?_
      refine rr_getR pf_95_58 po_95 pg_7_13 rfl (ts_0 hW ht2) (by decide) (tf_0 hq.1 ht2) ?_
      refine rr_iload_n pf_95_61 rfl ?_
      have has2 : M (t2 + 1) (y2).toNat = ((s2 : Nat) : Int) := by rw [hsn, tr_ah hq.1 ht2 hsl, es2]
      refine rr_aald pf_95_62 (ts_1 hW ht2) (by omega) (by omega) (by simp only [rg, rl] at *; omega) (by decide) has2 ?_
      obtain ⟨M3, ⟨qM3, zM3⟩, hcM3⟩ := ct_Nave_copyFrom (xs := xs) (L := L) (d := d) (by omega) hW hq.1 hq.2.1 hsb hs2 (by omega)
      refine rr_cV1 pf_95_63 po_95 pc_7_29 (ns_z hW hsb) po_94 (by decide) rfl hcM3 ?_
      have hE4 : px_eo (px_trA tb) M0 M3 := eo_tr hq.2.2 (eo_mono qM3.2.2 (by intro a ha; simp only [List.mem_cons, List.not_mem_nil, or_false] at ha; exact trA_iff.mpr (by omega)))
      refine rr_iinc pf_95_66 rfl (fun y => [.ref tb, .ref t2, .int (iI (y)), .int (iI (y2))]) (fun _ => rfl) (fun y5 hy5 => ?_)
      refine rr_goto 33 pf_95_69 (by decide) ?_
      obtain rfl : y5 = ((i + 1 : Nat) : Int) := by omega
      refine ih (i + 1) M3 _ (by omega) ⟨qM3.1, qM3.2.1, hE4⟩ ⟨?_, ?_, ?_, ?_⟩
      · rw [qM3.2.2 tb (by simp <;> omega)]; exact i2
      · rw [qM3.2.2 tb (by simp <;> omega)]; exact i3
      · intro j hj; rw [qM3.2.2 (tb + 2) (by simp <;> omega)]; exact ik j hj
      · intro j hj
        rcases (show j = i ∨ j < i by omega) with rfl | hj2
        · rw [← esb, ← es2]; intro u hu; exact (zM3 u hu).trans (nn_eq (fun x hx => hq.2.2 (s2 + x) (fun g => by have := trA_iff.mp g; omega)) u)
        · have hd3 : tr_sl M0 t2 j ≠ tr_sl M0 t2 i ∧ tr_sl M0 t2 j < 17 := by unfold tr_sl; omega
          intro u hu
          exact (nn_eq (fun x hx => qM3.2.2 _ (by simp <;> omega)) u).trans (il j hj2 u hu)
theorem ct_Trail_copyFrom {xs : Nat → Int} {L d : Nat} {sh : List (Nat × Nat)} {M : Nat → Nat → Int} (hd : 2 ≤ d) (hW : px_W0 <+: sh) (hF : px_Fx M) (hG : px_RG sh M) {tb t2 : Nat} (htb : px_tr tb) (ht2 : px_tr t2) (hne : tb ≠ t2) (hto : tr_ok M t2) : ∃ M', (px_qk sh (px_trA tb) M M' ∧ (M' tb 2 = M t2 2 ∧ M' tb 3 = M t2 3 ∧ (∀ j, j < 17 → M' (tb + 2) j = M (t2 + 2) j) ∧ ∀ j : Nat, (j : Int) < M t2 3 → nnEq M' M (tb + 3 + 4 * tr_sl M t2 j) (t2 + 3 + 4 * tr_sl M t2 j))) ∧ px_Cl xs L d 95 [.ref tb, .ref t2] (sh, M) none (sh, M') := by
  obtain ⟨d, rfl⟩ : ∃ e, d = e + 1 := ⟨d - 1, by omega⟩
  have hor := tr_or htb
  have hor2 := tr_or ht2
  refine px_Cl_m (Nat.le_of_ble_eq_true rfl) ?_
  show px_R xs L d 95 (0, [.ref tb, .ref t2, px_jk, px_jk], [], (sh, M)) _
  refine rr_aload_n pf_95_0 rfl ?_
  refine rr_aload_n pf_95_1 rfl ?_
  refine rr_getI pf_95_2 po_95 pg_7_21 rfl (ts_0 hW ht2) (by decide) ?_
  refine rr_putI pf_95_5 po_95 pg_7_21 (Or.inl rfl) rfl (ts_0 hW htb) (by decide) (rg_at hG (ts_0 hW ht2) (by decide)) (fun M1 eM1 => ?_)
  have hE2 : px_eo (px_trA tb) M M1 := eo_tr eo_rf (by rw [eM1]; exact eo_up (by exact trA_iff.mpr (by omega)))
  have hF3 : px_Fx M1 := by rw [eM1]; exact fx_up hW hF (ts_0 hW htb) (Or.inl (by decide))
  have hG4 : px_RG sh M1 := by rw [eM1]; exact rg_up hG (ts_0 hW htb) (by decide) (rg_at hG (ts_0 hW ht2) (by decide))
  refine rr_aload_n pf_95_8 rfl ?_
  refine rr_aload_n pf_95_9 rfl ?_
  refine rr_getI pf_95_10 po_95 pg_7_25 rfl (ts_0 hW ht2) (by decide) ?_
  refine rr_putI pf_95_13 po_95 pg_7_25 (Or.inl rfl) rfl (ts_0 hW htb) (by decide) (rg_at hG4 (ts_0 hW ht2) (by decide)) (fun M5 eM5 => ?_)
  have hE6 : px_eo (px_trA tb) M M5 := eo_tr hE2 (by rw [eM5]; exact eo_up (by exact trA_iff.mpr (by omega)))
  have hF7 : px_Fx M5 := by rw [eM5]; exact fx_up hW hF3 (ts_0 hW htb) (Or.inl (by decide))
  have hG8 : px_RG sh M5 := by rw [eM5]; exact rg_up hG4 (ts_0 hW htb) (by decide) (rg_at hG4 (ts_0 hW ht2) (by decide))
  refine rr_aload_n pf_95_16 rfl ?_
  refine rr_getR pf_95_17 po_95 pg_7_17 rfl (ts_0 hW ht2) (by decide) (tf_1 hF7 ht2) ?_
  refine rr_iconst pf_95_20 ?_
  refine rr_aload_n pf_95_21 rfl ?_
  refine rr_getR pf_95_22 po_95 pg_7_17 rfl (ts_0 hW htb) (by decide) (tf_1 hF7 htb) ?_
  refine rr_iconst pf_95_25 ?_
  refine rr_bipush pf_95_26 (by decide) ?_
  refine rr_copy pf_95_28 po_95 pc_7_33 rfl (ts_2 hW ht2) (ts_2 hW htb) (by omega) (by omega) (by omega) (by omega) (by omega) ⟨by unfold rg; omega, by unfold rg; omega, by unfold rg; omega⟩ (fun M9 eM9 => ?_)
  have hF10 : px_Fx M9 := by rw [eM9]; exact fx_cl hW hF7 (ts_2 hW htb) (by decide)
  have hG11 : px_RG sh M9 := by rw [eM9]; exact rg_copy hG8 (ts_2 hW ht2) (ts_2 hW htb)
  have hE12 : px_eo (px_trA tb) M M9 := eo_tr hE6 (by rw [eM9]; exact eo_cl (by exact trA_iff.mpr (by omega)))
  refine rr_iconst pf_95_31 ?_
  refine rr_istore_n pf_95_32 (fun y => [.ref tb, .ref t2, .int (iI (y)), px_jk]) (Nat.le_of_ble_eq_true rfl) (fun _ => rfl) (fun y13 hy13 => ?_)
  obtain rfl : y13 = ((0 : Nat) : Int) := by omega
  refine px_R_mono (lp_Trail_copyFrom (M0 := M) (by omega) hW htb ht2 hne hto _ 0 M9 px_jk (Nat.zero_add _) ⟨hF10, hG11, hE12⟩ ⟨?_, ?_, ?_, fun j hj => absurd hj (by omega)⟩) (fun r h2 hh => hh)
  · rw [eM9, cp_ne (by omega), eM5, ask_up, if_neg (by decide), eM1, ask_up, if_pos rfl]
  · rw [eM9, cp_ne (by omega), eM5, ask_up, if_pos rfl, eM1, ask_ne (by omega)]
  · intro j hj; rw [eM9, ask_cp, if_pos (by omega), eM5, ask_ne (by omega), eM1, ask_ne (by omega)]; congr 1; omega
