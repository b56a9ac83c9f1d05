/-! the single steps -/
def rup (ρ : Nat → Int) (i : Nat) (x : Int) : Nat → Int := fun j => if j = i then x else ρ j
theorem rup_s (ρ : Nat → Int) (i : Nat) (x : Int) : rup ρ i x i = x := by unfold rup; rw [if_pos rfl]
theorem rup_n {ρ : Nat → Int} {i j : Nat} {x : Int} (h : j ≠ i) : rup ρ i x j = ρ j := by unfold rup; rw [if_neg h]
abbrev px_stp (cb : Nat) : List Nat := [2, cb + 1, cb + 2, cb + 3, cb + 4, cb + 9, cb + 10]
theorem lw_stp {sh : List (Nat × Nat)} {M M2 : Nat → Nat → Int} {cb c2 : Nat} {lw : List sp_C} (h1 : px_ch cb) (h2 : px_ch c2) (h : px_lw sh M cb lw) (he : px_eo (px_stp c2) M M2) : px_lw sh M2 cb lw := by
  have f := ch_far h1 h2
  have g := ch_far h2 h1
  refine lw_eo h he (by simp <;> omega) (by simp <;> omega) (fun a ha => ?_)
  simp only [List.mem_cons, List.not_mem_nil, or_false] at ha
  omega
section RU
variable {M : Nat → Nat → Int} {cb : Nat}
theorem up_at (a i : Nat) (x : Int) (b j : Nat) : px_up M a i x b j = if b = a ∧ j = i then x else M b j := by
  unfold px_up
  by_cases h : b = a <;> by_cases g : j = i <;> simp [h, g]
theorem ite_c {c : Prop} [Decidable c] {a b a' b' : Int} (h1 : c → a = a') (h2 : ¬ c → b = b') : (if c then a else b) = if c then a' else b' := by
  by_cases h : c
  · rw [if_pos h, if_pos h]; exact h1 h
  · rw [if_neg h, if_neg h]; exact h2 h
theorem rc_upH {i : Nat} (hi : i < 48) (x : Int) : rc (px_up M (cb + 2) i x) cb = rup (rc M cb) (9 + i) x := by
  funext j
  by_cases e : j = 9 + i
  · rw [e, rup_s, rc_hue hi, up_at, if_pos ⟨rfl, rfl⟩]
  · rw [rup_n e]
    unfold rc
    repeat' (refine ite_c (fun _ => ?_) (fun _ => ?_))
    all_goals first | rfl | rw [up_at, if_neg (by omega)]
theorem rc_upSeat {i : Nat} (hi : i < 6) (x : Int) : rc (px_up M (cb + 4) i x) cb = rup (rc M cb) (57 + i) x := by
  funext j
  by_cases e : j = 57 + i
  · rw [e, rup_s, rc_seat hi, up_at, if_pos ⟨rfl, rfl⟩]
  · rw [rup_n e]
    unfold rc
    repeat' (refine ite_c (fun _ => ?_) (fun _ => ?_))
    all_goals first | rfl | rw [up_at, if_neg (by omega)]
theorem rc_upSpir {i : Nat} (hi : i < 6) (x : Int) : rc (px_up M (cb + 3) i x) cb = rup (rc M cb) (63 + i) x := by
  funext j
  by_cases e : j = 63 + i
  · rw [e, rup_s, rc_spir hi, up_at, if_pos ⟨rfl, rfl⟩]
  · rw [rup_n e]
    unfold rc
    repeat' (refine ite_c (fun _ => ?_) (fun _ => ?_))
    all_goals first | rfl | rw [up_at, if_neg (by omega)]
theorem rc_upPul (x : Int) : rc (px_up M (cb + 1) 3 x) cb = rup (rc M cb) 8 x := by
  funext j
  by_cases e : j = 8
  · rw [e, rup_s, rc_8, up_at, if_pos ⟨rfl, rfl⟩]
  · rw [rup_n e]
    unfold rc
    repeat' (refine ite_c (fun _ => ?_) (fun _ => ?_))
    all_goals first | rfl | rw [up_at, if_neg (by omega)]
theorem rc_upHour (x : Int) : rc (px_up M (cb + 1) 4 x) cb = rup (rc M cb) 5 x := by
  funext j
  by_cases e : j = 5
  · rw [e, rup_s, rc_5, up_at, if_pos ⟨rfl, rfl⟩]
  · rw [rup_n e]
    unfold rc
    repeat' (refine ite_c (fun _ => ?_) (fun _ => ?_))
    all_goals first | rfl | rw [up_at, if_neg (by omega)]
end RU
section OKU
variable {ρ : Nat → Int}
theorem ok_hue (h : sp_ok ρ) {i : Nat} (hi : i < 48) {x : Int} (hx : 0 ≤ x ∧ x ≤ 99) : sp_ok (rup ρ (9 + i) x) := by
  obtain ⟨h0, h1, h2, h3, h4, h5, h6, h7, h8, h9, h10, h11, h12, h13, h14⟩ := h
  refine ⟨?_, ?_, ?_, ?_, ?_, ?_, ?_, ?_, ?_, fun j hj => ?_, fun j hj => ?_, fun j hj => ?_, fun j hj => ?_, fun j hj => ?_, fun j hj => ⟨?_, ?_, ?_⟩⟩
  all_goals try (repeat rw [rup_n (by omega)])
  all_goals first | assumption | skip
  · by_cases e : 9 + j = 9 + i
    · rw [e, rup_s]; exact hx
    · rw [rup_n e]; exact h9 j hj
  · exact h10 j hj
  · exact h11 j hj
  · exact h12 j hj
  · exact h13 j hj
  · exact (h14 j hj).1
  · exact (h14 j hj).2.1
  · exact (h14 j hj).2.2
theorem ok_seat (h : sp_ok ρ) {i : Nat} (hi : i < 6) {x : Int} (hx : 0 ≤ x ∧ x ≤ 7) : sp_ok (rup ρ (57 + i) x) := by
  obtain ⟨h0, h1, h2, h3, h4, h5, h6, h7, h8, h9, h10, h11, h12, h13, h14⟩ := h
  refine ⟨?_, ?_, ?_, ?_, ?_, ?_, ?_, ?_, ?_, fun j hj => ?_, fun j hj => ?_, fun j hj => ?_, fun j hj => ?_, fun j hj => ?_, fun j hj => ⟨?_, ?_, ?_⟩⟩
  all_goals try (repeat rw [rup_n (by omega)])
  all_goals first | assumption | skip
  · exact h9 j hj
  · by_cases e : 57 + j = 57 + i
    · rw [e, rup_s]; exact hx
    · rw [rup_n e]; exact h10 j hj
  · exact h11 j hj
  · exact h12 j hj
  · exact h13 j hj
  · exact (h14 j hj).1
  · exact (h14 j hj).2.1
  · exact (h14 j hj).2.2
theorem ok_spir (h : sp_ok ρ) {i : Nat} (hi : i < 6) {x : Int} (hx : 0 ≤ x ∧ x ≤ 99) : sp_ok (rup ρ (63 + i) x) := by
  obtain ⟨h0, h1, h2, h3, h4, h5, h6, h7, h8, h9, h10, h11, h12, h13, h14⟩ := h
  refine ⟨?_, ?_, ?_, ?_, ?_, ?_, ?_, ?_, ?_, fun j hj => ?_, fun j hj => ?_, fun j hj => ?_, fun j hj => ?_, fun j hj => ?_, fun j hj => ⟨?_, ?_, ?_⟩⟩
  all_goals try (repeat rw [rup_n (by omega)])
  all_goals first | assumption | skip
  · exact h9 j hj
  · exact h10 j hj
  · by_cases e : 63 + j = 63 + i
    · rw [e, rup_s]; exact hx
    · rw [rup_n e]; exact h11 j hj
  · exact h12 j hj
  · exact h13 j hj
  · exact (h14 j hj).1
  · exact (h14 j hj).2.1
  · exact (h14 j hj).2.2
theorem ok_pul (h : sp_ok ρ) {x : Int} (hx : 0 ≤ x ∧ x < 16) : sp_ok (rup ρ 8 x) := by
  obtain ⟨h0, h1, h2, h3, h4, h5, h6, h7, h8, h9, h10, h11, h12, h13, h14⟩ := h
  refine ⟨?_, ?_, ?_, ?_, ?_, ?_, ?_, ?_, ?_, fun j hj => ?_, fun j hj => ?_, fun j hj => ?_, fun j hj => ?_, fun j hj => ?_, fun j hj => ⟨?_, ?_, ?_⟩⟩
  all_goals try (repeat rw [rup_n (by omega)])
  all_goals first | assumption | skip
  · exact h9 j hj
  · exact h10 j hj
  · exact h11 j hj
  · exact h12 j hj
  · exact h13 j hj
  · exact (h14 j hj).1
  · exact (h14 j hj).2.1
  · exact (h14 j hj).2.2
theorem ok_hour (h : sp_ok ρ) {x : Int} (hx : 0 ≤ x ∧ x ≤ 2000) : sp_ok (rup ρ 5 x) := by
  obtain ⟨h0, h1, h2, h3, h4, h5, h6, h7, h8, h9, h10, h11, h12, h13, h14⟩ := h
  refine ⟨?_, ?_, ?_, ?_, ?_, ?_, ?_, ?_, ?_, fun j hj => ?_, fun j hj => ?_, fun j hj => ?_, fun j hj => ?_, fun j hj => ?_, fun j hj => ⟨?_, ?_, ?_⟩⟩
  all_goals try (repeat rw [rup_n (by omega)])
  all_goals first | assumption | skip
  · exact h9 j hj
  · exact h10 j hj
  · exact h11 j hj
  · exact h12 j hj
  · exact h13 j hj
  · exact (h14 j hj).1
  · exact (h14 j hj).2.1
  · exact (h14 j hj).2.2
end OKU
def sp_scrV (ρ : Nat → Int) (p h : Int) : Int := if 0 ≤ p ∧ p ≤ 15 ∧ 0 ≤ h ∧ h ≤ 2 then (if ρ (9 + (p * 3 + h).toNat) = 0 then -3 else ρ (9 + (p * 3 + h).toNat) - 1) else -1
def sp_scrR (ρ : Nat → Int) (p h : Int) : Nat → Int := if 0 ≤ sp_scrV ρ p h then rup ρ (9 + (p * 3 + h).toNat) (ρ (9 + (p * 3 + h).toNat) - 1) else ρ
theorem rc_hue' {M : Nat → Nat → Int} {cb : Nat} {i : Int} (h : i.toNat < 48) : M (cb + 2) i.toNat = rc M cb (9 + i.toNat) := (rc_hue h).symm
theorem ct_Church_scrapeOne {xs : Nat → Int} {L d : Nat} {sh : List (Nat × Nat)} {M : Nat → Nat → Int} (hd : 3 ≤ d) (hW : px_W0 <+: sh) (hF : px_Fx M) (hG : px_RG sh M) {cb : Nat} (hcb : px_ch cb) (hρ : sp_ok (rc M cb)) {p h : Int} (hp : rg p) (hh : rg h) : ∃ M', (px_qk sh (px_stp cb) M M' ∧ rc M' cb = sp_scrR (rc M cb) p h) ∧ px_Cl xs L d 102 [.ref cb, .int (iI (p)), .int (iI (h))] (sh, M) (some (.int (iI (sp_scrV (rc M cb) p h)))) (sh, M') := by
  obtain ⟨d, rfl⟩ : ∃ e, d = e + 1 := ⟨d - 1, by omega⟩
  have hcl := ch_far hcb hcb
  refine px_Cl_m (Nat.le_of_ble_eq_true rfl) ?_
  show px_R xs L d 102 (0, [.ref cb, .int (iI (p)), .int (iI (h)), px_jk], [], (sh, M)) _
  refine rr_iload_n pf_102_0 rfl ?_
  refine rr_cS1 pf_102_1 po_102 pc_0_166 (by decide) rfl (ct_S_isPane (by omega) hp) ?_
  refine rr_ifb_eq 14 pf_102_4 (by decide) (fun c1 => ?_) (fun c1 => ?_)
  · refine rr_iconst pf_102_14 ?_
    refine rr_iret pf_102_15 pt_102 ⟨by unfold sp_scrV; rw [if_neg (by omega)], M, rfl, ⟨hF, hG, eo_rf⟩, by unfold sp_scrR; rw [if_neg (by unfold sp_scrV; rw [if_neg (by omega)]; decide)]⟩
  · refine rr_iload_n pf_102_7 rfl ?_
    refine rr_cS1 pf_102_8 po_102 pc_0_169 (by decide) rfl (ct_S_isHue (by omega) hh) ?_
    refine rr_ifb_ne 16 pf_102_11 (by decide) (fun c2 => ?_) (fun c2 => ?_)
    · refine rr_iload_n pf_102_16 rfl ?_
      refine rr_iconst pf_102_17 ?_
      refine rr_imul pf_102_18 ?_
      refine rr_iload_n pf_102_19 rfl ?_
      refine rr_iadd pf_102_20 ?_
      refine rr_istore_n pf_102_21 (fun y => [.ref cb, .int (iI (p)), .int (iI (h)), .int (iI (y))]) (Nat.le_of_ble_eq_true rfl) (fun _ => rfl) (fun y3 hy3 => ?_)
      have hv9 : M (cb + 2) (y3).toNat = rc M cb (9 + (p * 3 + h).toNat) := by rw [hy3]; exact rc_hue' (by omega)
      have hvb := hρ.2.2.2.2.2.2.2.2.2.1 (p * 3 + h).toNat (by omega)
      have hy : y3 = p * 3 + h := hy3
      skip
      refine rr_aload_n pf_102_22 rfl ?_
      refine rr_getR pf_102_23 po_102 pg_0_12 rfl (cs_z hW hcb) (by decide) (cf_0_0 hF hcb) ?_
      refine rr_getR pf_102_26 po_102 pg_0_133 rfl (cs_1 hW hcb) (by decide) (cf_1_0 hF hcb) ?_
      refine rr_iload_n pf_102_29 rfl ?_
      refine rr_iald pf_102_30 (cs_2 hW hcb) (by omega) (by omega) (by simp only [rg, rl] at *; omega) ?_
      refine rr_if_ne 37 pf_102_31 (by decide) (rg_at hG (cs_2 hW hcb) (by rw [px_ty10]; decide)) (fun c4 => ?_) (fun c4 => ?_)
      · refine rr_aload_n pf_102_37 rfl ?_
        refine rr_getR pf_102_38 po_102 pg_0_12 rfl (cs_z hW hcb) (by decide) (cf_0_0 hF hcb) ?_
        refine rr_getR pf_102_41 po_102 pg_0_133 rfl (cs_1 hW hcb) (by decide) (cf_1_0 hF hcb) ?_
        refine rr_iload_n pf_102_44 rfl ?_
        refine rr_dup2 pf_102_45 rfl rfl ?_
        refine rr_iald pf_102_46 (cs_2 hW hcb) (by omega) (by omega) (by simp only [rg, rl] at *; omega) ?_
        refine rr_iconst pf_102_47 ?_
        refine rr_isub pf_102_48 ?_
        refine rr_iast pf_102_49 (cs_2 hW hcb) (by omega) (by omega) (by simp only [rg, rl] at *; omega) (by simp only [rg, rl] at *; omega) (fun M5 eM5 => ?_)
        have hE6 : px_eo (px_stp cb) M M5 := eo_tr eo_rf (by rw [eM5]; exact eo_up (by simp))
        have hF7 : px_Fx M5 := by rw [eM5]; exact fx_up hW hF (cs_2 hW hcb) (Or.inl (by rw [px_ty10]; decide))
        have hG8 : px_RG sh M5 := by rw [eM5]; exact rg_up hG (cs_2 hW hcb) (by rw [px_ty10]; decide) (by simp only [rg, rl] at *; omega)
        refine rr_aload_n pf_102_50 rfl ?_
        refine rr_getR pf_102_51 po_102 pg_0_12 rfl (cs_z hW hcb) (by decide) (cf_0_0 hF7 hcb) ?_
        refine rr_getR pf_102_54 po_102 pg_0_133 rfl (cs_1 hW hcb) (by decide) (cf_1_0 hF7 hcb) ?_
        refine rr_iload_n pf_102_57 rfl ?_
        refine rr_iald pf_102_58 (cs_2 hW hcb) (by omega) (by omega) (by simp only [rg, rl] at *; omega) ?_
        refine rr_iret pf_102_59 pt_102 ⟨by unfold sp_scrV; rw [if_pos (by omega), if_neg (by omega), eM5, ask_up, if_pos rfl, hv9], M5, rfl, ⟨hF7, hG8, hE6⟩, by unfold sp_scrR; rw [if_pos (by unfold sp_scrV; rw [if_pos (by omega), if_neg (by omega)]; omega), eM5, rc_upH (by omega), hv9, hy]⟩
      · refine rr_bipush pf_102_34 (by decide) ?_
        refine rr_iret pf_102_36 pt_102 ⟨by unfold sp_scrV; rw [if_pos (by omega), if_pos (by omega)], M, rfl, ⟨hF, hG, eo_rf⟩, by unfold sp_scrR; rw [if_neg (by unfold sp_scrV; rw [if_pos (by omega), if_pos (by omega)]; decide)]⟩
    · refine rr_iconst pf_102_14 ?_
      refine rr_iret pf_102_15 pt_102 ⟨by unfold sp_scrV; rw [if_neg (by omega)], M, rfl, ⟨hF, hG, eo_rf⟩, by unfold sp_scrR; rw [if_neg (by unfold sp_scrV; rw [if_neg (by omega)]; decide)]⟩
def sp_walV (ρ : Nat → Int) (p : Int) : Int := if (0 ≤ p ∧ p ≤ 15) ∧ p ≠ ρ 8 then ρ 8 else -1
def sp_walR (ρ : Nat → Int) (p : Int) : Nat → Int := if (0 ≤ p ∧ p ≤ 15) ∧ p ≠ ρ 8 then rup ρ 8 p else ρ
theorem ct_Church_walkTo {xs : Nat → Int} {L d : Nat} {sh : List (Nat × Nat)} {M : Nat → Nat → Int} (hd : 3 ≤ d) (hW : px_W0 <+: sh) (hF : px_Fx M) (hG : px_RG sh M) {cb : Nat} (hcb : px_ch cb) (hρ : sp_ok (rc M cb)) {p : Int} (hp : rg p) : ∃ M', (px_qk sh (px_stp cb) M M' ∧ rc M' cb = sp_walR (rc M cb) p) ∧ px_Cl xs L d 103 [.ref cb, .int (iI (p))] (sh, M) (some (.int (iI (sp_walV (rc M cb) p)))) (sh, M') := by
  obtain ⟨d, rfl⟩ : ∃ e, d = e + 1 := ⟨d - 1, by omega⟩
  have hcl := ch_far hcb hcb
  have h8 : M (cb + 1) 3 = rc M cb 8 := rfl
  have hpb := hρ.2.2.2.2.2.2.2.2.1
  refine px_Cl_m (Nat.le_of_ble_eq_true rfl) ?_
  show px_R xs L d 103 (0, [.ref cb, .int (iI (p)), px_jk], [], (sh, M)) _
  refine rr_iload_n pf_103_0 rfl ?_
  refine rr_cS1 pf_103_1 po_103 pc_0_166 (by decide) rfl (ct_S_isPane (by omega) hp) ?_
  refine rr_ifb_eq 18 pf_103_4 (by decide) (fun c1 => ?_) (fun c1 => ?_)
  · refine rr_iconst pf_103_18 ?_
    refine rr_iret pf_103_19 pt_103 ⟨by unfold sp_walV; rw [if_neg (by omega)], M, rfl, ⟨hF, hG, eo_rf⟩, by unfold sp_walR; rw [if_neg (by omega)]⟩
  · refine rr_iload_n pf_103_7 rfl ?_
    refine rr_aload_n pf_103_8 rfl ?_
    refine rr_getR pf_103_9 po_103 pg_0_12 rfl (cs_z hW hcb) (by decide) (cf_0_0 hF hcb) ?_
    refine rr_getI pf_103_12 po_103 pg_0_86 rfl (cs_1 hW hcb) (by decide) ?_
    refine rr_icmp_ne 20 pf_103_15 (by decide) hp (rg_at hG (cs_1 hW hcb) (by decide)) (fun c2 => ?_) (fun c2 => ?_)
    · refine rr_aload_n pf_103_20 rfl ?_
      refine rr_getR pf_103_21 po_103 pg_0_12 rfl (cs_z hW hcb) (by decide) (cf_0_0 hF hcb) ?_
      refine rr_getI pf_103_24 po_103 pg_0_86 rfl (cs_1 hW hcb) (by decide) ?_
      refine rr_istore_n pf_103_27 (fun y => [.ref cb, .int (iI (p)), .int (iI (y))]) (Nat.le_of_ble_eq_true rfl) (fun _ => rfl) (fun y3 hy3 => ?_)
      refine rr_aload_n pf_103_28 rfl ?_
      refine rr_getR pf_103_29 po_103 pg_0_12 rfl (cs_z hW hcb) (by decide) (cf_0_0 hF hcb) ?_
      refine rr_iload_n pf_103_32 rfl ?_
      refine rr_putI pf_103_33 po_103 pg_0_86 (Or.inl rfl) rfl (cs_1 hW hcb) (by decide) hp (fun M4 eM4 => ?_)
      have hE5 : px_eo (px_stp cb) M M4 := eo_tr eo_rf (by rw [eM4]; exact eo_up (by simp))
      have hF6 : px_Fx M4 := by rw [eM4]; exact fx_up hW hF (cs_1 hW hcb) (Or.inl (by decide))
      have hG7 : px_RG sh M4 := by rw [eM4]; exact rg_up hG (cs_1 hW hcb) (by decide) hp
      refine rr_iload_n pf_103_36 rfl ?_
      refine rr_iret pf_103_37 pt_103 ⟨by unfold sp_walV; rw [if_pos (by omega)]; subst_vars; rfl, M4, rfl, ⟨hF6, hG7, hE5⟩, by unfold sp_walR; rw [if_pos (by omega), eM4, rc_upPul]⟩
    · refine rr_iconst pf_103_18 ?_
      refine rr_iret pf_103_19 pt_103 ⟨by unfold sp_walV; rw [if_neg (by omega)], M, rfl, ⟨hF, hG, eo_rf⟩, by unfold sp_walR; rw [if_neg (by omega)]⟩
def sp_sitV (ρ : Nat → Int) (l s : Int) : Int := if 0 ≤ s ∧ s ≤ 7 then (if 0 ≤ l ∧ l ≤ ρ 1 - 1 then (if sp_taken ρ s (ρ 1).toNat = true then -3 else ρ (57 + l.toNat)) else -2) else -1
def sp_sitR (ρ : Nat → Int) (l s : Int) : Nat → Int := if 0 ≤ sp_sitV ρ l s then rup ρ (57 + l.toNat) s else ρ
theorem ct_Church_seatAt {xs : Nat → Int} {L d : Nat} {sh : List (Nat × Nat)} {M : Nat → Nat → Int} (hd : 3 ≤ d) (hW : px_W0 <+: sh) (hF : px_Fx M) (hG : px_RG sh M) {cb : Nat} (hcb : px_ch cb) (hρ : sp_ok (rc M cb)) {l s : Int} (hl : rg l) (hs : rg s) : ∃ M', (px_qk sh (px_stp cb) M M' ∧ rc M' cb = sp_sitR (rc M cb) l s) ∧ px_Cl xs L d 104 [.ref cb, .int (iI (l)), .int (iI (s))] (sh, M) (some (.int (iI (sp_sitV (rc M cb) l s)))) (sh, M') := by
  obtain ⟨d, rfl⟩ : ∃ e, d = e + 1 := ⟨d - 1, by omega⟩
  have hcl := ch_far hcb hcb
  have h1 : M cb 7 = rc M cb 1 := rfl
  have hlb := hρ.2.1
  refine px_Cl_m (Nat.le_of_ble_eq_true rfl) ?_
  show px_R xs L d 104 (0, [.ref cb, .int (iI (l)), .int (iI (s)), px_jk], [], (sh, M)) _
  refine rr_iload_n pf_104_0 rfl ?_
  refine rr_cS1 pf_104_1 po_104 pc_0_172 (by decide) rfl (ct_S_isSeat (by omega) hs) ?_
  refine rr_ifb_ne 9 pf_104_4 (by decide) (fun c1 => ?_) (fun c1 => ?_)
  · refine rr_aload_n pf_104_9 rfl ?_
    refine rr_iload_n pf_104_10 rfl ?_
    refine rr_cV1 pf_104_11 po_104 pc_0_175 (cs_z hW hcb) po_40 (by decide) rfl (ct_Church_isListener (by omega) hW hF hG hcb hl (by omega)) ?_
    refine rr_ifb_ne 20 pf_104_14 (by decide) (fun c2 => ?_) (fun c2 => ?_)
    · refine rr_aload_n pf_104_20 rfl ?_
      refine rr_iload_n pf_104_21 rfl ?_
      refine rr_cV1 pf_104_22 po_104 pc_0_178 (cs_z hW hcb) po_38 (by decide) rfl (ct_Church_isTaken (by omega) hW hF hG hcb hρ hs) ?_
      refine rr_ifb_eq 31 pf_104_25 (by decide) (fun c3 => ?_) (fun c3 => ?_)
      · have hlt : l.toNat < 6 := by omega
        have hsb := sp_seat_b hρ hlt
        skip
        refine rr_aload_n pf_104_31 rfl ?_
        refine rr_getR pf_104_32 po_104 pg_0_12 rfl (cs_z hW hcb) (by decide) (cf_0_0 hF hcb) ?_
        refine rr_getR pf_104_35 po_104 pg_0_80 rfl (cs_1 hW hcb) (by decide) (cf_1_2 hF hcb) ?_
        refine rr_iload_n pf_104_38 rfl ?_
        refine rr_iald pf_104_39 (cs_4 hW hcb) (by omega) (by omega) hl ?_
        refine rr_istore_n pf_104_40 (fun y => [.ref cb, .int (iI (l)), .int (iI (s)), .int (iI (y))]) (Nat.le_of_ble_eq_true rfl) (fun _ => rfl) (fun y4 hy4 => ?_)
        refine rr_aload_n pf_104_41 rfl ?_
        refine rr_getR pf_104_42 po_104 pg_0_12 rfl (cs_z hW hcb) (by decide) (cf_0_0 hF hcb) ?_
        refine rr_getR pf_104_45 po_104 pg_0_80 rfl (cs_1 hW hcb) (by decide) (cf_1_2 hF hcb) ?_
        refine rr_iload_n pf_104_48 rfl ?_
        refine rr_iload_n pf_104_49 rfl ?_
        refine rr_iast pf_104_50 (cs_4 hW hcb) (by omega) (by omega) hl hs (fun M5 eM5 => ?_)
        have hE6 : px_eo (px_stp cb) M M5 := eo_tr eo_rf (by rw [eM5]; exact eo_up (by simp))
        have hF7 : px_Fx M5 := by rw [eM5]; exact fx_up hW hF (cs_4 hW hcb) (Or.inl (by rw [px_ty10]; decide))
        have hG8 : px_RG sh M5 := by rw [eM5]; exact rg_up hG (cs_4 hW hcb) (by rw [px_ty10]; decide) hs
        refine rr_iload_n pf_104_51 rfl ?_
        refine rr_iret pf_104_52 pt_104 ⟨by unfold sp_sitV; rw [if_pos (by omega), if_pos (by omega), if_neg (by assumption)]; subst_vars; rw [rc_seat (by omega)], M5, rfl, ⟨hF7, hG8, hE6⟩, by unfold sp_sitR; rw [if_pos (by unfold sp_sitV; rw [if_pos (by omega), if_pos (by omega), if_neg (by assumption)]; omega), eM5, rc_upSeat (by omega)]⟩
      · refine rr_bipush pf_104_28 (by decide) ?_
        refine rr_iret pf_104_30 pt_104 ⟨by unfold sp_sitV; rw [if_pos (by omega), if_pos (by omega), if_pos (by assumption)], M, rfl, ⟨hF, hG, eo_rf⟩, by unfold sp_sitR; rw [if_neg (by unfold sp_sitV; rw [if_pos (by omega), if_pos (by omega), if_pos (by assumption)]; decide)]⟩
    · refine rr_bipush pf_104_17 (by decide) ?_
      refine rr_iret pf_104_19 pt_104 ⟨by unfold sp_sitV; rw [if_pos (by omega), if_neg (by omega)], M, rfl, ⟨hF, hG, eo_rf⟩, by unfold sp_sitR; rw [if_neg (by unfold sp_sitV; rw [if_pos (by omega), if_neg (by omega)]; decide)]⟩
  · refine rr_iconst pf_104_7 ?_
    refine rr_iret pf_104_8 pt_104 ⟨by unfold sp_sitV; rw [if_neg (by omega)], M, rfl, ⟨hF, hG, eo_rf⟩, by unfold sp_sitR; rw [if_neg (by unfold sp_sitV; rw [if_neg (by omega)]; decide)]⟩
