/-! the class's reader: texts, tokens -/
section TX
variable {xs : Nat → Int} {L d k pc : Nat} {ls st r : List Value} {sh : List (Nat × Nat)} {M : Nat → Nat → Int} {Q : Option Value → px_H → Prop}
theorem rr_tv {b : Nat} (hf : px_fetch k pc = some (.getfield 9, 3)) (ho : px_own k = 20) (hb : 1 ≤ b ∧ b ≤ 14) (G : px_R xs L d k (pc + 3, ls, .retAddr (99 + b) :: st, (sh, M)) Q) : px_R xs L d k (pc, ls, .retAddr b :: st, (sh, M)) Q := by
  refine px_R_step (fun cf => px_step_of hf ?_) G
  simp [px_exec, px_getf, px_n, ho, hb.1, hb.2]
theorem rr_tc {b : Nat} (hf : px_fetch k pc = some (.getfield 15, 3)) (ho : px_own k = 20) (hb : 1 ≤ b ∧ b ≤ 14) (G : px_R xs L d k (pc + 3, ls, .int (iI 0) :: st, (sh, M)) Q) : px_R xs L d k (pc, ls, .retAddr b :: st, (sh, M)) Q := by
  refine px_R_step (fun cf => px_step_of hf ?_) G
  simp [px_exec, px_getf, px_n, ho, hb.1, hb.2]
theorem rr_gs38 (hf : px_fetch k pc = some (.getstatic 38, 3)) (ho : px_own k = 20) (G : px_R xs L d k (pc + 3, ls, .int (iI 1) :: st, (sh, M)) Q) : px_R xs L d k (pc, ls, st, (sh, M)) Q := by
  refine px_R_step (fun cf => px_step_of hf ?_) G
  simp [px_exec, px_n, ho]
theorem rr_gs1053 (hf : px_fetch k pc = some (.getstatic 1053, 3)) (ho : px_own k = 20) (G : px_R xs L d k (pc + 3, ls, .retAddr 999 :: st, (sh, M)) Q) : px_R xs L d k (pc, ls, st, (sh, M)) Q := by
  refine px_R_step (fun cf => px_step_of hf ?_) G
  simp [px_exec, px_n, ho]
theorem rr_tlen {b : Nat} (hf : px_fetch k pc = some (.arraylength, 1)) (hb : 100 ≤ b ∧ b < 114) (G : px_R xs L d k (pc + 1, ls, .int (iI (((px_txt (b - 100)).length : Nat) : Int)) :: st, (sh, M)) Q) : px_R xs L d k (pc, ls, .retAddr b :: st, (sh, M)) Q := by
  refine px_R_step (fun cf => px_step_of hf ?_) G
  simp [px_exec, px_n, hb.1, hb.2, show ¬ b = 0 by omega]
theorem rr_tald {b i : Nat} (hf : px_fetch k pc = some (.baload, 1)) (hb : 100 ≤ b ∧ b < 114) (hi : i < (px_txt (b - 100)).length) (hi2 : i < 1000) (G : px_R xs L d k (pc + 1, ls, .int (iI ((((px_txt (b - 100)).getD i 'a').toNat : Nat) : Int)) :: st, (sh, M)) Q) : px_R xs L d k (pc, ls, .int (iI ((i : Nat) : Int)) :: .retAddr b :: st, (sh, M)) Q := by
  have e := iI_toInt (x := ((i : Nat) : Int)) (by unfold rg; omega)
  refine px_R_step (fun cf => px_step_of hf ?_) G
  simp only [px_exec, px_n, e, if_true, Int.toNat_natCast]
  rw [if_pos ⟨hb.1, hb.2, by omega, by omega⟩]
theorem rr_bret {x : Int} (hf : px_fetch k pc = some (.ireturn, 1)) (hr : px_ret k = some .byte) (hx : x = 0) (hq : Q (some (.int (iI x))) (sh, M)) : px_R xs L d k (pc, ls, [.int (iI x)], (sh, M)) Q := by
  refine px_R_ret (fun cf => px_step_of hf ?_) hq
  subst hx
  simp [px_exec, hr, px_fin, show iI 0 = 0 from rfl]
theorem rr_cret {x : Nat} (hf : px_fetch k pc = some (.ireturn, 1)) (hr : px_ret k = some .char) (hx : x < 256) (hq : Q (some (.int (iI ((x : Nat) : Int)))) (sh, M)) : px_R xs L d k (pc, ls, [.int (iI ((x : Nat) : Int))], (sh, M)) Q := by
  have e := iI_toInt (x := ((x : Nat) : Int)) (by unfold rg; omega)
  refine px_R_ret (fun cf => px_step_of hf ?_) hq
  simp [px_exec, hr, px_fin]
  refine ⟨Int32.le_iff_toInt_le.mpr ?_, Int32.lt_iff_toInt_lt.mpr ?_⟩
  · rw [e]; show (0 : Int) ≤ ((x : Nat) : Int); omega
  · rw [e]; show ((x : Nat) : Int) < (256 : Int); omega
theorem rr_aload2 {i : Fin 4} {x : Nat} (hf : px_fetch k pc = some (.aload_n i, 1)) (hl : ls[(i : Nat)]? = some (.retAddr x)) (hx : ¬ x = 999) (G : px_R xs L d k (pc + 1, ls, .retAddr x :: st, (sh, M)) Q) : px_R xs L d k (pc, ls, st, (sh, M)) Q := rr_aload_nT hf hl hx G
end TX
section ST
variable {xs : Nat → Int} {L d : Nat} {sh : List (Nat × Nat)} {M : Nat → Nat → Int}
theorem txt_ok : ∀ t, t < 14 → (px_txt t).length < 100 ∧ ∀ i, i < (px_txt t).length → ((px_txt t).getD i 'a').toNat < 128 := by decide +kernel
theorem ct_coder {t : Nat} (hd : 1 ≤ d) (ht : t < 14) : px_Cl xs L d 64 [.retAddr (t + 1)] (sh, M) (some (.int (iI 0))) (sh, M) := by
  obtain ⟨d, rfl⟩ : ∃ e, d = e + 1 := ⟨d - 1, by omega⟩
  refine px_Cl_intro (Nat.le_of_ble_eq_true rfl) ?_
  show px_R xs L d 64 (0, [.retAddr (t + 1)], [], (sh, M)) _
  refine rr_gs38 pf_64_0 po_64 ?_
  refine rr_if_eq 13 pf_64_3 (by decide) (by unfold rg; omega) (fun c => ?_) (fun c => ?_)
  · exfalso; omega
  · refine rr_aload_nT pf_64_6 rfl (by omega) ?_
    refine rr_tc pf_64_7 po_64 (by omega) ?_
    refine rr_goto 14 pf_64_10 (by decide) ?_
    exact rr_bret pf_64_14 pt_64 rfl ⟨rfl, rfl⟩
theorem ct_String_length {t : Nat} (hd : 2 ≤ d) (ht : t < 14) : px_Cl xs L d 63 [.retAddr (t + 1)] (sh, M) (some (.int (iI (((px_txt t).length : Nat) : Int)))) (sh, M) := by
  obtain ⟨d, rfl⟩ : ∃ e, d = e + 1 := ⟨d - 1, by omega⟩
  have hl := (txt_ok t ht).1
  refine px_Cl_intro (Nat.le_of_ble_eq_true rfl) ?_
  show px_R xs L d 63 (0, [.retAddr (t + 1)], [], (sh, M)) _
  refine rr_aload_nT pf_63_0 rfl (by omega) ?_
  refine rr_tv pf_63_1 po_63 (by omega) ?_
  refine rr_tlen pf_63_4 (by omega) ?_
  refine rr_aload_nT pf_63_5 rfl (by omega) ?_
  refine rr_cT0 pf_63_6 po_63 pc_20_335 po_64 (by omega) rfl (ct_coder (t := t) (by omega) ht) ?_
  refine rr_ishr (((px_txt t).length : Nat) : Int) pf_63_9 ?_ ?_
  · rw [show 99 + (t + 1) - 100 = t by omega]
    have := iI_shr (x := (((px_txt t).length : Nat) : Int)) (s := 0) (by unfold rg; omega) (by decide)
    simpa using this
  · exact rr_iret pf_63_10 pt_63 ⟨rfl, rfl⟩
theorem ct_isLatin1 {t : Nat} (hd : 1 ≤ d) (ht : t < 14) : px_Cl xs L d 66 [.retAddr (t + 1)] (sh, M) (some (.int (iI 1))) (sh, M) := by
  obtain ⟨d, rfl⟩ : ∃ e, d = e + 1 := ⟨d - 1, by omega⟩
  refine px_Cl_intro (Nat.le_of_ble_eq_true rfl) ?_
  show px_R xs L d 66 (0, [.retAddr (t + 1)], [], (sh, M)) _
  refine rr_gs38 pf_66_0 po_66 ?_
  refine rr_if_eq 17 pf_66_3 (by decide) (by unfold rg; omega) (fun c => ?_) (fun c => ?_)
  · exfalso; omega
  · refine rr_aload_nT pf_66_6 rfl (by omega) ?_
    refine rr_tc pf_66_7 po_66 (by omega) ?_
    refine rr_if_ne 17 pf_66_10 (by decide) (by unfold rg; omega) (fun c => ?_) (fun c => ?_)
    · exfalso; omega
    · refine rr_iconst pf_66_13 ?_
      refine rr_goto 18 pf_66_14 (by decide) ?_
      exact rr_zret pf_66_18 pt_66 (Or.inr rfl) ⟨rfl, rfl⟩
theorem ct_checkIndex3 {i n : Nat} (hd : 1 ≤ d) (hi : i < n) (hn : n < 1000) : px_Cl xs L d 69 [.int (iI ((i : Nat) : Int)), .int (iI ((n : Nat) : Int)), .retAddr 999] (sh, M) (some (.int (iI ((i : Nat) : Int)))) (sh, M) := by
  obtain ⟨d, rfl⟩ : ∃ e, d = e + 1 := ⟨d - 1, by omega⟩
  refine px_Cl_intro (Nat.le_of_ble_eq_true rfl) ?_
  show px_R xs L d 69 (0, [.int (iI ((i : Nat) : Int)), .int (iI ((n : Nat) : Int)), .retAddr 999], [], (sh, M)) _
  refine rr_iload_n pf_69_0 rfl ?_
  refine rr_if_lt 9 pf_69_1 (by decide) (by unfold rg; omega) (fun c => ?_) (fun c => ?_)
  · exfalso; omega
  · refine rr_iload_n pf_69_4 rfl ?_
    refine rr_iload_n pf_69_5 rfl ?_
    refine rr_icmp_lt 16 pf_69_6 (by decide) (by unfold rg; omega) (by unfold rg; omega) (fun c => ?_) (fun c => ?_)
    · refine rr_iload_n pf_69_16 rfl ?_
      exact rr_iret pf_69_17 pt_69 ⟨rfl, rfl⟩
    · exfalso; omega
theorem ct_checkIndex {i n : Nat} (hd : 2 ≤ d) (hi : i < n) (hn : n < 1000) : px_Cl xs L d 68 [.int (iI ((i : Nat) : Int)), .int (iI ((n : Nat) : Int))] (sh, M) none (sh, M) := by
  obtain ⟨d, rfl⟩ : ∃ e, d = e + 1 := ⟨d - 1, by omega⟩
  refine px_Cl_intro (Nat.le_of_ble_eq_true rfl) ?_
  show px_R xs L d 68 (0, [.int (iI ((i : Nat) : Int)), .int (iI ((n : Nat) : Int))], [], (sh, M)) _
  refine rr_iload_n pf_68_0 rfl ?_
  refine rr_iload_n pf_68_1 rfl ?_
  refine rr_gs1053 pf_68_2 po_68 ?_
  refine rr_cS3 pf_68_5 po_68 pc_20_1059 (by decide) rfl (ct_checkIndex3 (by omega) hi hn) ?_
  refine rr_pop pf_68_8 rfl ?_
  exact rr_vret pf_68_9 pt_68 ⟨rfl, rfl⟩
theorem ct_charAtL {t i : Nat} (hd : 3 ≤ d) (ht : t < 14) (hi : i < (px_txt t).length) : px_Cl xs L d 67 [.retAddr (99 + (t + 1)), .int (iI ((i : Nat) : Int))] (sh, M) (some (.int (iI ((((px_txt t).getD i 'a').toNat : Nat) : Int)))) (sh, M) := by
  obtain ⟨d, rfl⟩ : ∃ e, d = e + 1 := ⟨d - 1, by omega⟩
  have hl := (txt_ok t ht).1
  have hc := (txt_ok t ht).2 i hi
  refine px_Cl_intro (Nat.le_of_ble_eq_true rfl) ?_
  show px_R xs L d 67 (0, [.retAddr (99 + (t + 1)), .int (iI ((i : Nat) : Int))], [], (sh, M)) _
  refine rr_iload_n pf_67_0 rfl ?_
  refine rr_aload_nT pf_67_1 rfl (by omega) ?_
  refine rr_tlen pf_67_2 (by omega) ?_
  rw [show 99 + (t + 1) - 100 = t by omega]
  refine rr_cS2 pf_67_3 po_67 pc_21_9 (by decide) rfl (ct_checkIndex (by omega) hi (by omega)) ?_
  refine rr_aload_nT pf_67_6 rfl (by omega) ?_
  refine rr_iload_n pf_67_7 rfl ?_
  refine rr_tald pf_67_8 (by omega) (by rw [show 99 + (t + 1) - 100 = t by omega]; exact hi) (by omega) ?_
  rw [show 99 + (t + 1) - 100 = t by omega]
  refine rr_sipush pf_67_9 (by decide) ?_
  refine rr_iand ((((px_txt t).getD i 'a').toNat : Nat) : Int) pf_67_12 ?_ ?_
  · have := iI_m255 (x := ((((px_txt t).getD i 'a').toNat : Nat) : Int))
    rw [this, Int.emod_eq_of_lt (by omega) (by omega)]
  · refine rr_i2c pf_67_13 (by omega) ?_
    exact rr_cret pf_67_14 pt_67 (by omega) ⟨rfl, rfl⟩
theorem ct_String_charAt {t i : Nat} (hd : 4 ≤ d) (ht : t < 14) (hi : i < (px_txt t).length) : px_Cl xs L d 65 [.retAddr (t + 1), .int (iI ((i : Nat) : Int))] (sh, M) (some (.int (iI ((((px_txt t).getD i 'a').toNat : Nat) : Int)))) (sh, M) := by
  obtain ⟨d, rfl⟩ : ∃ e, d = e + 1 := ⟨d - 1, by omega⟩
  have hc := (txt_ok t ht).2 i hi
  refine px_Cl_intro (Nat.le_of_ble_eq_true rfl) ?_
  show px_R xs L d 65 (0, [.retAddr (t + 1), .int (iI ((i : Nat) : Int))], [], (sh, M)) _
  refine rr_aload_nT pf_65_0 rfl (by omega) ?_
  refine rr_cT0 pf_65_1 po_65 pc_20_492 po_66 (by omega) rfl (ct_isLatin1 (t := t) (by omega) ht) ?_
  refine rr_if_eq 16 pf_65_4 (by decide) (by unfold rg; omega) (fun c => ?_) (fun c => ?_)
  · exfalso; omega
  · refine rr_aload_nT pf_65_7 rfl (by omega) ?_
    refine rr_tv pf_65_8 po_65 (by omega) ?_
    refine rr_iload_n pf_65_11 rfl ?_
    refine rr_cS2 pf_65_12 po_65 pc_20_495 (by decide) rfl (ct_charAtL (by omega) ht hi) ?_
    exact rr_cret pf_65_15 pt_65 (by omega) ⟨rfl, rfl⟩
end ST
/-- the class's lexed token -/
def cnm (tn : Nat) (tb : Nat → Int) (i : Nat) : Int := if tkK tn tb i = 2 then min 1001 (tkW tn tb i) else 0
def clx (M : Nat → Nat → Int) (tn : Nat) (tb : Nat → Int) (i : Nat) : Prop := (M 200 3 = ((tn : Nat) : Int)) ∧ tn ≤ 400 ∧ M 199 = tb ∧ (∀ j, 0 ≤ tb j ∧ tb j ≤ 255) ∧ i ≤ tn ∧ M 200 7 = ((tkS tn tb i : Nat) : Int) ∧ M 200 8 = ((tkE tn tb i : Nat) : Int) ∧ M 200 6 = ((tkK tn tb i : Nat) : Int) ∧ M 200 9 = cnm tn tb i
theorem dgt_min {tb : Nat → Int} {s n : Nat} (h : ∀ j, j < n + 1 → 48 ≤ tb (s + j) ∧ tb (s + j) ≤ 57) (hb : 0 ≤ dgt tb s n) : min (min 1001 (dgt tb s n) * 10 + tb (s + n) - 48) 1001 = min 1001 (dgt tb s (n + 1)) := by
  have h1 := h n (by omega)
  rw [dgt]
  split <;> omega
theorem cnm_b {tn : Nat} {tb : Nat → Int} {i : Nat} (h : 0 ≤ tkW tn tb i ∨ tkK tn tb i ≠ 2) : 0 ≤ cnm tn tb i ∧ cnm tn tb i ≤ 1001 := by
  unfold cnm
  split
  · rename_i h2; rcases h with h | h
    · omega
    · exact absurd h2 h
  · omega
theorem ct_Reader_tokenOf {xs : Nat → Int} {L d : Nat} {sh : List (Nat × Nat)} {M0 : Nat → Nat → Int} (hd : 1 ≤ d) (hW : px_W0 <+: sh) (hF : px_Fx M0) (hG : px_RG sh M0)  {b : Int} (hb0 : rg b) : ∃ v M, (px_qk sh [] M0 M ∧ (v = ((tkd b : Nat) : Int))) ∧ px_Cl xs L d 60 [.int (iI (b))] (sh, M0) (some (.int (iI v))) (sh, M) := by
  obtain ⟨d, rfl⟩ : ∃ e, d = e + 1 := ⟨d - 1, by omega⟩
  have q0 : px_qk sh [] M0 M0 := ⟨hF, hG, eo_rf⟩
  refine vc_i (Nat.le_of_ble_eq_true rfl) ?_
  show px_R xs L d 60 (0, [.int (iI (b))], [], (sh, M0)) (fun r h' => ∃ v M', r = some (.int (iI v)) ∧ h' = (sh, M') ∧ px_qk sh [] M0 M' ∧ v = ((tkd b : Nat) : Int))
  refine rr_iload_n pf_60_0 rfl ?_
  refine rr_bipush pf_60_1 (by decide) ?_
  refine rr_icmp_lt 14 pf_60_3 (by decide) hb0 (by unfold rg; omega) (fun c1 => ?_) (fun c1 => ?_)
  · refine rr_iload_n pf_60_14 rfl ?_
    refine rr_bipush pf_60_15 (by decide) ?_
    refine rr_icmp_lt 30 pf_60_17 (by decide) hb0 (by unfold rg; omega) (fun c2 => ?_) (fun c2 => ?_)
    · refine rr_iconst pf_60_30 ?_
      refine rr_iret pf_60_31 pt_60 ⟨_, M0, rfl, rfl, q0, (by
                  unfold tkd; repeat' split
                  all_goals first | rfl | (exfalso; omega))⟩
    · refine rr_iload_n pf_60_20 rfl ?_
      refine rr_bipush pf_60_21 (by decide) ?_
      refine rr_icmp_gt 30 pf_60_23 (by decide) hb0 (by unfold rg; omega) (fun c3 => ?_) (fun c3 => ?_)
      · refine rr_iconst pf_60_30 ?_
        refine rr_iret pf_60_31 pt_60 ⟨_, M0, rfl, rfl, q0, (by
                      unfold tkd; repeat' split
                      all_goals first | rfl | (exfalso; omega))⟩
      · refine rr_iconst pf_60_26 ?_
        refine rr_goto 31 pf_60_27 (by decide) ?_
        refine rr_iret pf_60_31 pt_60 ⟨_, M0, rfl, rfl, q0, (by
                      unfold tkd; repeat' split
                      all_goals first | rfl | (exfalso; omega))⟩
  · refine rr_iload_n pf_60_6 rfl ?_
    refine rr_bipush pf_60_7 (by decide) ?_
    refine rr_icmp_gt 14 pf_60_9 (by decide) hb0 (by unfold rg; omega) (fun c4 => ?_) (fun c4 => ?_)
    · refine rr_iload_n pf_60_14 rfl ?_
      refine rr_bipush pf_60_15 (by decide) ?_
      refine rr_icmp_lt 30 pf_60_17 (by decide) hb0 (by unfold rg; omega) (fun c5 => ?_) (fun c5 => ?_)
      · refine rr_iconst pf_60_30 ?_
        refine rr_iret pf_60_31 pt_60 ⟨_, M0, rfl, rfl, q0, (by
                      unfold tkd; repeat' split
                      all_goals first | rfl | (exfalso; omega))⟩
      · refine rr_iload_n pf_60_20 rfl ?_
        refine rr_bipush pf_60_21 (by decide) ?_
        refine rr_icmp_gt 30 pf_60_23 (by decide) hb0 (by unfold rg; omega) (fun c6 => ?_) (fun c6 => ?_)
        · refine rr_iconst pf_60_30 ?_
          refine rr_iret pf_60_31 pt_60 ⟨_, M0, rfl, rfl, q0, (by
                          unfold tkd; repeat' split
                          all_goals first | rfl | (exfalso; omega))⟩
        · refine rr_iconst pf_60_26 ?_
          refine rr_goto 31 pf_60_27 (by decide) ?_
          refine rr_iret pf_60_31 pt_60 ⟨_, M0, rfl, rfl, q0, (by
                          unfold tkd; repeat' split
                          all_goals first | rfl | (exfalso; omega))⟩
    · refine rr_iconst pf_60_12 ?_
      refine rr_iret pf_60_13 pt_60 ⟨_, M0, rfl, rfl, q0, (by
                  unfold tkd; repeat' split
                  all_goals first | rfl | (exfalso; omega))⟩
theorem lp_Reader_next_5 {xs : Nat → Int} {L d : Nat} {sh : List (Nat × Nat)} (hd : 1 ≤ d) (hW : px_W0 <+: sh) {M0 : Nat → Nat → Int}  {tn : Nat} {tb : Nat → Int} (h3 : M0 200 3 = ((tn : Nat) : Int)) (htn : tn ≤ 400) (h199 : M0 199 = tb) (htb : ∀ j, 0 ≤ tb j ∧ tb j ≤ 255) {i : Nat} (hi : i ≤ tn) (h8 : M0 200 8 = ((i : Nat) : Int))  {Q : Option Value → px_H → Prop} (kx : ∀ (j : Nat) (M : Nat → Nat → Int), px_qk sh [200] M0 M → (fk 200 [6, 7, 8, 9] M0 M) → (tkS tn tb i = j) → (i ≤ j ∧ j ≤ tn) → px_R xs L d 59 (30, [.ref 200, .int (iI (((j : Nat) : Int)))], [], (sh, M)) Q)  : ∀ (mz : Nat) (j : Nat) (M : Nat → Nat → Int), tn - j = mz → px_qk sh [200] M0 M → (fk 200 [6, 7, 8, 9] M0 M) → (i ≤ j ∧ j ≤ tn) → (tkS tn tb i = skp tn tb (tn - j) j) → px_R xs L d 59 (5, [.ref 200, .int (iI (((j : Nat) : Int)))], [], (sh, M)) Q := by
  intro mz
  induction mz using Nat.strongRecOn with
  | _ mz ih =>
    intro j M hm hq hrq hj hs
    refine rr_iload_n pf_59_5 rfl ?_
    refine rr_aload_n pf_59_6 rfl ?_
    refine vr_getI hq pf_59_7 po_59 pg_3_24 rfl (ws_200 hW) (by decide) (fun x1 hx1 rx1 => ?_)
    rw [hrq 3 (by decide)] at hx1
    rw [h3] at hx1
    refine rr_icmp_ge 30 pf_59_10 (by decide) (by unfold rg; omega) rx1 (fun c2 => ?_) (fun c2 => ?_)
    · exact kx j M hq (hrq) (by rw [hs]; exact skp_e (by omega)) (hj)
    · refine rr_aload_n pf_59_13 rfl ?_
      refine rr_getR pf_59_14 po_59 pg_3_46 rfl (ws_200 hW) (by decide) (wr_200_2 hq.1) ?_
      refine rr_iload_n pf_59_17 rfl ?_
      refine vr_iald (j := j) hq pf_59_18 (ws_199 hW) (by omega) (by omega) (by decide) (fun x3 hx3 rx3 => ?_)
      rw [hq.2.2 199 (by decide)] at hx3
      rw [h199] at hx3
      refine rr_bipush pf_59_19 (by decide) ?_
      refine rr_icmp_ne 30 pf_59_21 (by decide) rx3 (by unfold rg; omega) (fun c4 => ?_) (fun c4 => ?_)
      · exact kx j M hq (hrq) (by rw [hs]; exact skp_e (by omega)) (hj)
      · refine rr_iinc pf_59_24 rfl (fun y => [.ref 200, .int (iI (y))]) (fun _ => rfl) (fun y5 hy5 => ?_)
        refine rr_goto 5 pf_59_27 (by decide) ?_
        obtain ⟨nz6, hnz6, rfl⟩ : ∃ zz : Nat, zz = 1 + j ∧ y5 = ((zz : Nat) : Int) := ⟨1 + j, rfl, by omega⟩
        exact ih _ (by omega) nz6 M rfl hq (hrq) (by omega) (by rw [hs, show nz6 = j + 1 by omega]; exact skp_s (by omega) (by omega))
theorem lp_Reader_next_76 {xs : Nat → Int} {L d : Nat} {sh : List (Nat × Nat)} (hd : 1 ≤ d) (hW : px_W0 <+: sh) {M0 : Nat → Nat → Int}  {tn : Nat} {tb : Nat → Int} (h3 : M0 200 3 = ((tn : Nat) : Int)) (htn : tn ≤ 400) (h199 : M0 199 = tb) (htb : ∀ j, 0 ≤ tb j ∧ tb j ≤ 255) {i : Nat} (hi : i ≤ tn) (h8 : M0 200 8 = ((i : Nat) : Int)) {s K : Nat} (hs : s ≤ tn) (hK : K ≤ 3) (hK0 : K = 0 → s = tn) {Q : Option Value → px_H → Prop} (kx : ∀ (j : Nat) (M : Nat → Nat → Int), px_qk sh [200] M0 M → (fk 200 [6, 7, 8, 9] M0 M) → (M 200 6 = ((K : Nat) : Int)) → (M 200 7 = ((s : Nat) : Int)) → (K ≠ 3 → K ≠ 0 → rnn tn tb K (tn - s) s = j) → (K = 3 → j = s + 1) → (K = 0 → j = s) → (M 200 9 = if K = 2 then min 1001 (dgt tb s (j - s)) else 0) → (j ≤ tn) → px_R xs L d 59 (153, [.ref 200, .int (iI (((j : Nat) : Int)))], [], (sh, M)) Q)  : ∀ (mz : Nat) (j : Nat) (M : Nat → Nat → Int), tn - j = mz → px_qk sh [200] M0 M → (fk 200 [6, 7, 8, 9] M0 M) → (s ≤ j ∧ j ≤ tn ∨ (K = 3 ∧ j = s + 1 ∧ j ≤ tn)) → (M 200 6 = ((K : Nat) : Int)) → (M 200 7 = ((s : Nat) : Int)) → (K ≠ 3 → K ≠ 0 → rnn tn tb K (tn - s) s = rnn tn tb K (tn - j) j ∧ ∀ u, u < j - s → tkd (tb (s + u)) = K) → (M 200 9 = if K = 2 then min 1001 (dgt tb s (j - s)) else 0) → (K = 3 → j = s + 1) → px_R xs L d 59 (76, [.ref 200, .int (iI (((j : Nat) : Int)))], [], (sh, M)) Q := by
  intro mz
  induction mz using Nat.strongRecOn with
  | _ mz ih =>
    intro j M hm hq hrq hj g6 g7 hr h9 hjs
    refine rr_iload_n pf_59_76 rfl ?_
    refine rr_aload_n pf_59_77 rfl ?_
    refine vr_getI hq pf_59_78 po_59 pg_3_24 rfl (ws_200 hW) (by decide) (fun x1 hx1 rx1 => ?_)
    rw [hrq 3 (by decide)] at hx1
    rw [h3] at hx1
    refine rr_icmp_ge 153 pf_59_81 (by decide) (by unfold rg; omega) rx1 (fun c2 => ?_) (fun c2 => ?_)
    · exact kx j M hq (hrq) (g6) (g7) (by intro z1 z2; rw [(hr z1 z2).1]; exact rnn_e (by omega)) (hjs) (by intro z; have := hK0 z; omega) (h9) (by omega)
    · refine rr_aload_n pf_59_84 rfl ?_
      refine vr_getI hq pf_59_85 po_59 pg_3_34 rfl (ws_200 hW) (by decide) (fun x3 hx3 rx3 => ?_)
      rw [g6] at hx3
      refine rr_iconst pf_59_88 ?_
      refine rr_icmp_eq 153 pf_59_89 (by decide) rx3 (by unfold rg; omega) (fun c4 => ?_) (fun c4 => ?_)
      · exact kx j M hq (hrq) (g6) (g7) (by intro z1 z2; rw [(hr z1 z2).1]; exact rnn_e (by omega)) (hjs) (by intro z; have := hK0 z; omega) (h9) (by omega)
      · refine rr_aload_n pf_59_92 rfl ?_
        refine rr_getR pf_59_93 po_59 pg_3_46 rfl (ws_200 hW) (by decide) (wr_200_2 hq.1) ?_
        refine rr_iload_n pf_59_96 rfl ?_
        refine vr_iald (j := j) hq pf_59_97 (ws_199 hW) (by omega) (by omega) (by decide) (fun x5 hx5 rx5 => ?_)
        rw [hq.2.2 199 (by decide)] at hx5
        rw [h199] at hx5
        have htj := htb j
        obtain ⟨r8, M6, ⟨kq7, pv_M6⟩, hcM6⟩ := ct_Reader_tokenOf (xs := xs) (L := L) (d := d) (b := x5) (by omega) hW hq.1 hq.2.1 (by unfold rg; omega)
        obtain rfl := qk_nil kq7
        refine rr_cS1 pf_59_98 po_59 pc_3_177 (by decide) rfl hcM6 ?_
        have htk := tkd_b (tb j)
        rw [hx5] at pv_M6
        refine rr_aload_n pf_59_101 rfl ?_
        refine vr_getI hq pf_59_102 po_59 pg_3_34 rfl (ws_200 hW) (by decide) (fun x9 hx9 rx9 => ?_)
        rw [g6] at hx9
        refine rr_icmp_ne 153 pf_59_105 (by decide) (by unfold rg; omega) rx9 (fun c10 => ?_) (fun c10 => ?_)
        · exact kx j M hq (hrq) (g6) (g7) (by intro z1 z2; rw [(hr z1 z2).1]; exact rnn_e (by omega)) (hjs) (by intro z; have := hK0 z; omega) (h9) (by omega)
        · refine rr_aload_n pf_59_108 rfl ?_
          refine rr_aload_n pf_59_109 rfl ?_
          refine vr_getI hq pf_59_110 po_59 pg_3_34 rfl (ws_200 hW) (by decide) (fun x11 hx11 rx11 => ?_)
          rw [g6] at hx11
          refine rr_iconst pf_59_113 ?_
          refine rr_icmp_ne 143 pf_59_114 (by decide) rx11 (by unfold rg; omega) (fun c12 => ?_) (fun c12 => ?_)
          · refine rr_iconst pf_59_143 ?_
            refine vr_putI hW hq pf_59_144 po_59 pg_3_43 (Or.inl rfl) rfl (ws_200 hW) (by decide) (by unfold rg; omega) (by decide) (fun M13 eM13 q14 => ?_)
            have rq15 := fk_up hrq eM13 (by decide)
            refine rr_iinc pf_59_147 rfl (fun y => [.ref 200, .int (iI (y))]) (fun _ => rfl) (fun y16 hy16 => ?_)
            refine rr_goto 76 pf_59_150 (by decide) ?_
            obtain ⟨nz17, hnz17, rfl⟩ : ∃ zz : Nat, zz = 1 + j ∧ y16 = ((zz : Nat) : Int) := ⟨1 + j, rfl, by omega⟩
            exact ih _ (by omega) nz17 M13 rfl q14 (rq15) (by omega) (by rw [eM13, up_ne (by decide)]; exact g6) (by rw [eM13, up_ne (by decide)]; exact g7) (by
                              intro z1 z2; obtain ⟨z3, z4⟩ := hr z1 z2; rw [show nz17 = j + 1 by omega]; refine ⟨z3.trans (rnn_s (by omega) (by omega)), fun u hu => ?_⟩
                              rcases (show u < j - s ∨ u = j - s by omega) with z5 | z5
                              · exact z4 u z5
                              · rw [z5, show s + (j - s) = j by omega]; omega) (by rw [eM13, up_s, if_neg (by omega)]) (by omega)
          · have hdg := dgt_b (tb := tb) (s := s) (j - s) (fun u hu => tkd_2.mp (by rw [(hr (by omega) (by omega)).2 u hu]; omega))
            refine rr_aload_n pf_59_117 rfl ?_
            refine vr_getI hq pf_59_118 po_59 pg_3_43 rfl (ws_200 hW) (by decide) (fun x18 hx18 rx18 => ?_)
            rw [h9, if_pos (by omega)] at hx18
            refine rr_bipush pf_59_121 (by decide) ?_
            refine rr_imul pf_59_123 ?_
            refine rr_aload_n pf_59_124 rfl ?_
            refine rr_getR pf_59_125 po_59 pg_3_46 rfl (ws_200 hW) (by decide) (wr_200_2 hq.1) ?_
            refine rr_iload_n pf_59_128 rfl ?_
            refine vr_iald (j := j) hq pf_59_129 (ws_199 hW) (by omega) (by omega) (by decide) (fun x19 hx19 rx19 => ?_)
            rw [hq.2.2 199 (by decide)] at hx19
            rw [h199] at hx19
            refine rr_iadd pf_59_130 ?_
            refine rr_bipush pf_59_131 (by decide) ?_
            refine rr_isub pf_59_133 ?_
            refine rr_sipush pf_59_134 (by decide) ?_
            refine rr_min pf_59_137 po_59 pc_3_181 rfl (by unfold rg; omega) (by unfold rg; omega) ?_
            refine rr_goto 144 pf_59_140 (by decide) ?_
            refine vr_putI hW hq pf_59_144 po_59 pg_3_43 (Or.inl rfl) rfl (ws_200 hW) (by decide) (by unfold rg; omega) (by decide) (fun M20 eM20 q21 => ?_)
            have rq22 := fk_up hrq eM20 (by decide)
            refine rr_iinc pf_59_147 rfl (fun y => [.ref 200, .int (iI (y))]) (fun _ => rfl) (fun y23 hy23 => ?_)
            refine rr_goto 76 pf_59_150 (by decide) ?_
            obtain ⟨nz24, hnz24, rfl⟩ : ∃ zz : Nat, zz = 1 + j ∧ y23 = ((zz : Nat) : Int) := ⟨1 + j, rfl, by omega⟩
            exact ih _ (by omega) nz24 M20 rfl q21 (rq22) (by omega) (by rw [eM20, up_ne (by decide)]; exact g6) (by rw [eM20, up_ne (by decide)]; exact g7) (by
                              intro z1 z2; obtain ⟨z3, z4⟩ := hr z1 z2; rw [show nz24 = j + 1 by omega]; refine ⟨z3.trans (rnn_s (by omega) (by omega)), fun u hu => ?_⟩
                              rcases (show u < j - s ∨ u = j - s by omega) with z5 | z5
                              · exact z4 u z5
                              · rw [z5, show s + (j - s) = j by omega]; omega) (by
                              rw [eM20, up_s, if_pos (by omega), show nz24 - s = (j - s) + 1 by omega, ← dgt_min (fun u hu => ?_) hdg.1, show s + (j - s) = j by omega]
                              · have h9b := h9; rw [if_pos (by omega)] at h9b; omega
                              · have hd2 : ∀ u, u < j - s → 48 ≤ tb (s + u) ∧ tb (s + u) ≤ 57 := fun u hu => tkd_2.mp (by rw [(hr (by omega) (by omega)).2 u hu]; omega)
                                rcases (show u < j - s ∨ u = j - s by omega) with z5 | z5
                                · exact hd2 u z5
                                · rw [z5, show s + (j - s) = j by omega]; exact tkd_2.mp (by omega)) (by omega)
theorem ct_Reader_next {xs : Nat → Int} {L d : Nat} {sh : List (Nat × Nat)} {M0 : Nat → Nat → Int} (hd : 2 ≤ d) (hW : px_W0 <+: sh) (hF : px_Fx M0) (hG : px_RG sh M0)  {tn : Nat} {tb : Nat → Int} (h3 : M0 200 3 = ((tn : Nat) : Int)) (htn : tn ≤ 400) (h199 : M0 199 = tb) (htb : ∀ j, 0 ≤ tb j ∧ tb j ≤ 255) {i : Nat} (hi : i ≤ tn) (h8 : M0 200 8 = ((i : Nat) : Int)) : ∃ M, (px_qk sh [200] M0 M ∧ (M 200 7 = ((tkS tn tb i : Nat) : Int)) ∧ (M 200 8 = ((tkE tn tb i : Nat) : Int)) ∧ (M 200 6 = ((tkK tn tb i : Nat) : Int)) ∧ (M 200 9 = cnm tn tb i) ∧ (fk 200 [6, 7, 8, 9] M0 M)) ∧ px_Cl xs L d 59 [.ref 200] (sh, M0) (none) (sh, M) := by
  obtain ⟨d, rfl⟩ : ∃ e, d = e + 1 := ⟨d - 1, by omega⟩
  have q0 : px_qk sh [200] M0 M0 := ⟨hF, hG, eo_rf⟩
  refine vc_n (Nat.le_of_ble_eq_true rfl) ?_
  show px_R xs L d 59 (0, [.ref 200, px_jk], [], (sh, M0)) (fun r h' => r = none ∧ ∃ M', h' = (sh, M') ∧ px_qk sh [200] M0 M' ∧ M' 200 7 = ((tkS tn tb i : Nat) : Int) ∧ M' 200 8 = ((tkE tn tb i : Nat) : Int) ∧ M' 200 6 = ((tkK tn tb i : Nat) : Int) ∧ M' 200 9 = cnm tn tb i ∧ fk 200 [6, 7, 8, 9] M0 M')
  refine rr_aload_n pf_59_0 rfl ?_
  refine vr_getI q0 pf_59_1 po_59 pg_3_40 rfl (ws_200 hW) (by decide) (fun x1 hx1 rx1 => ?_)
  rw [h8] at hx1
  refine rr_istore_n pf_59_4 (fun y => [.ref 200, .int (iI (y))]) (Nat.le_of_ble_eq_true rfl) (fun _ => rfl) (fun y2 hy2 => ?_)
  have ry2 : rg y2 := hy2 ▸ rx1
  obtain ⟨nz3, hnz3, rfl⟩ : ∃ zz : Nat, zz = y2.toNat ∧ y2 = ((zz : Nat) : Int) := ⟨y2.toNat, rfl, by omega⟩
  refine lp_Reader_next_5 (xs := xs) (L := L) (d := d) (by omega) hW h3 htn h199 htb hi h8 (fun j_4  M5 q6 xrq_M5 xs__M5 xj_M5 => ?_) _ nz3 M0 rfl q0 ((fk_rf 200 [6, 7, 8, 9] M0)) (by omega) (by rw [show nz3 = i by omega]; rfl)
  have hxj := xj_M5
  refine rr_aload_n pf_59_30 rfl ?_
  refine rr_iload_n pf_59_31 rfl ?_
  refine vr_putI hW q6 pf_59_32 po_59 pg_3_37 (Or.inl rfl) rfl (ws_200 hW) (by decide) (by unfold rg; omega) (by decide) (fun M7 eM7 q8 => ?_)
  have rq9 := fk_up xrq_M5 eM7 (by decide)
  refine rr_aload_n pf_59_35 rfl ?_
  refine rr_iload_n pf_59_36 rfl ?_
  refine rr_aload_n pf_59_37 rfl ?_
  refine vr_getI q8 pf_59_38 po_59 pg_3_24 rfl (ws_200 hW) (by decide) (fun x10 hx10 rx10 => ?_)
  rw [rq9 3 (by decide)] at hx10
  rw [h3] at hx10
  refine rr_icmp_ge 56 pf_59_41 (by decide) (by unfold rg; omega) rx10 (fun c11 => ?_) (fun c11 => ?_)
  · refine rr_iconst pf_59_56 ?_
    refine vr_putI hW q8 pf_59_57 po_59 pg_3_34 (Or.inl rfl) rfl (ws_200 hW) (by decide) (by unfold rg; omega) (by decide) (fun M12 eM12 q13 => ?_)
    have rq14 := fk_up rq9 eM12 (by decide)
    refine rr_aload_n pf_59_60 rfl ?_
    refine rr_iconst pf_59_61 ?_
    refine vr_putI hW q13 pf_59_62 po_59 pg_3_43 (Or.inl rfl) rfl (ws_200 hW) (by decide) (by unfold rg; omega) (by decide) (fun M15 eM15 q16 => ?_)
    have rq17 := fk_up rq14 eM15 (by decide)
    refine rr_aload_n pf_59_65 rfl ?_
    refine vr_getI q16 pf_59_66 po_59 pg_3_34 rfl (ws_200 hW) (by decide) (fun x18 hx18 rx18 => ?_)
    rw [eM15, up_ne (by decide), eM12, up_s] at hx18
    refine rr_iconst pf_59_69 ?_
    refine rr_icmp_ne 76 pf_59_70 (by decide) rx18 (by unfold rg; omega) (fun c19 => ?_) (fun c19 => ?_)
    · obtain ⟨s, hsd⟩ : ∃ z : Nat, z = j_4 := ⟨_, rfl⟩
      obtain ⟨K, hKd⟩ : ∃ z : Nat, z = 0 := ⟨_, rfl⟩
      have hsx : s ≤ tn := by omega
      have hKx : K ≤ 3 := by omega
      have hK0x : K = 0 → s = tn := fun _ => by omega
      have g6x : M15 200 6 = ((K : Nat) : Int) := by rw [hKd, eM15, up_ne (by decide), eM12, up_s]; rfl
      have g7x : M15 200 7 = ((s : Nat) : Int) := by rw [hsd, eM15, up_ne (by decide), eM12, up_ne (by decide), eM7, up_s]
      have g9x : M15 200 9 = 0 := by rw [eM15, up_s]
      skip
      refine lp_Reader_next_76 (xs := xs) (L := L) (d := d) (by omega) hW h3 htn h199 htb hi h8 (K := K) hsx hKx hK0x (fun j_20  M21 q22 xrq_M21 x6_M21 x7_M21 xr_M21 x3_M21 x0_M21 x9_M21 xj_M21 => ?_) _ j_4 M15 rfl q16 (rq17) (by omega) (g6x) (g7x) (by intro z1 z2; rw [show j_4 = s by omega]; exact ⟨rfl, fun u hu => by omega⟩) (by
                  by_cases hk2 : K = 2
                  · rw [if_pos hk2, show j_4 = s by omega, Nat.sub_self, dgt]; exact g9x
                  · rw [if_neg hk2]; exact g9x) (by omega)
      have hxj2 := xj_M21
      refine rr_aload_n pf_59_153 rfl ?_
      refine rr_iload_n pf_59_154 rfl ?_
      refine vr_putI hW q22 pf_59_155 po_59 pg_3_40 (Or.inl rfl) rfl (ws_200 hW) (by decide) (by unfold rg; omega) (by decide) (fun M23 eM23 q24 => ?_)
      have rq25 := fk_up xrq_M21 eM23 (by decide)
      refine rr_vret pf_59_158 pt_59 ⟨rfl, M23, rfl, q24, (by
                  have hS : tkS tn tb i = s := xs__M5.trans hsd.symm
                  have hk : tkK tn tb i = K := by unfold tkK; rw [hS, if_neg (by omega), hKd]
                  have he : tkE tn tb i = j_20 := by
                    unfold tkE; rw [hS, if_neg (by omega)]
                    exact (x0_M21 hKd).symm
                  rw [hS, eM23, up_ne (by decide)]; exact x7_M21), (by
                  have hS : tkS tn tb i = s := xs__M5.trans hsd.symm
                  have hk : tkK tn tb i = K := by unfold tkK; rw [hS, if_neg (by omega), hKd]
                  have he : tkE tn tb i = j_20 := by
                    unfold tkE; rw [hS, if_neg (by omega)]
                    exact (x0_M21 hKd).symm
                  rw [he, eM23, up_s]), (by
                  have hS : tkS tn tb i = s := xs__M5.trans hsd.symm
                  have hk : tkK tn tb i = K := by unfold tkK; rw [hS, if_neg (by omega), hKd]
                  have he : tkE tn tb i = j_20 := by
                    unfold tkE; rw [hS, if_neg (by omega)]
                    exact (x0_M21 hKd).symm
                  rw [hk, eM23, up_ne (by decide)]; exact x6_M21), (by
                  have hS : tkS tn tb i = s := xs__M5.trans hsd.symm
                  have hk : tkK tn tb i = K := by unfold tkK; rw [hS, if_neg (by omega), hKd]
                  have he : tkE tn tb i = j_20 := by
                    unfold tkE; rw [hS, if_neg (by omega)]
                    exact (x0_M21 hKd).symm
                  unfold cnm; rw [hk, eM23, up_ne (by decide), x9_M21]; by_cases hk2 : K = 2
                  · rw [if_pos hk2, if_pos hk2]; unfold tkW; rw [hk, hS, he, if_neg (by omega), if_pos hk2]
                  · rw [if_neg hk2, if_neg hk2]), (rq25)⟩
    · refine rr_iinc pf_59_73 rfl (fun y => [.ref 200, .int (iI (y))]) (fun _ => rfl) (fun y26 hy26 => ?_)
      obtain ⟨s, hsd⟩ : ∃ z : Nat, z = j_4 := ⟨_, rfl⟩
      obtain ⟨K, hKd⟩ : ∃ z : Nat, z = 0 := ⟨_, rfl⟩
      have hsx : s ≤ tn := by omega
      have hKx : K ≤ 3 := by omega
      have hK0x : K = 0 → s = tn := fun _ => by omega
      have g6x : M15 200 6 = ((K : Nat) : Int) := by rw [hKd, eM15, up_ne (by decide), eM12, up_s]; rfl
      have g7x : M15 200 7 = ((s : Nat) : Int) := by rw [hsd, eM15, up_ne (by decide), eM12, up_ne (by decide), eM7, up_s]
      have g9x : M15 200 9 = 0 := by rw [eM15, up_s]
      skip
      obtain ⟨nz27, hnz27, rfl⟩ : ∃ zz : Nat, zz = 1 + j_4 ∧ y26 = ((zz : Nat) : Int) := ⟨1 + j_4, rfl, by omega⟩
      refine lp_Reader_next_76 (xs := xs) (L := L) (d := d) (by omega) hW h3 htn h199 htb hi h8 (K := K) hsx hKx hK0x (fun j_28  M29 q30 xrq_M29 x6_M29 x7_M29 xr_M29 x3_M29 x0_M29 x9_M29 xj_M29 => ?_) _ nz27 M15 rfl q16 (rq17) (by omega) (g6x) (g7x) (by intro z1 z2; rw [show nz27 = s by omega]; exact ⟨rfl, fun u hu => by omega⟩) (by
                  by_cases hk2 : K = 2
                  · rw [if_pos hk2, show nz27 = s by omega, Nat.sub_self, dgt]; exact g9x
                  · rw [if_neg hk2]; exact g9x) (by omega)
      have hxj2 := xj_M29
      refine rr_aload_n pf_59_153 rfl ?_
      refine rr_iload_n pf_59_154 rfl ?_
      refine vr_putI hW q30 pf_59_155 po_59 pg_3_40 (Or.inl rfl) rfl (ws_200 hW) (by decide) (by unfold rg; omega) (by decide) (fun M31 eM31 q32 => ?_)
      have rq33 := fk_up xrq_M29 eM31 (by decide)
      refine rr_vret pf_59_158 pt_59 ⟨rfl, M31, rfl, q32, (by
                  have hS : tkS tn tb i = s := xs__M5.trans hsd.symm
                  have hk : tkK tn tb i = K := by unfold tkK; rw [hS, if_neg (by omega), hKd]
                  have he : tkE tn tb i = j_28 := by
                    unfold tkE; rw [hS, if_neg (by omega)]
                    exact (x0_M29 hKd).symm
                  rw [hS, eM31, up_ne (by decide)]; exact x7_M29), (by
                  have hS : tkS tn tb i = s := xs__M5.trans hsd.symm
                  have hk : tkK tn tb i = K := by unfold tkK; rw [hS, if_neg (by omega), hKd]
                  have he : tkE tn tb i = j_28 := by
                    unfold tkE; rw [hS, if_neg (by omega)]
                    exact (x0_M29 hKd).symm
                  rw [he, eM31, up_s]), (by
                  have hS : tkS tn tb i = s := xs__M5.trans hsd.symm
                  have hk : tkK tn tb i = K := by unfold tkK; rw [hS, if_neg (by omega), hKd]
                  have he : tkE tn tb i = j_28 := by
                    unfold tkE; rw [hS, if_neg (by omega)]
                    exact (x0_M29 hKd).symm
                  rw [hk, eM31, up_ne (by decide)]; exact x6_M29), (by
                  have hS : tkS tn tb i = s := xs__M5.trans hsd.symm
                  have hk : tkK tn tb i = K := by unfold tkK; rw [hS, if_neg (by omega), hKd]
                  have he : tkE tn tb i = j_28 := by
                    unfold tkE; rw [hS, if_neg (by omega)]
                    exact (x0_M29 hKd).symm
                  unfold cnm; rw [hk, eM31, up_ne (by decide), x9_M29]; by_cases hk2 : K = 2
                  · rw [if_pos hk2, if_pos hk2]; unfold tkW; rw [hk, hS, he, if_neg (by omega), if_pos hk2]
                  · rw [if_neg hk2, if_neg hk2]), (rq33)⟩
  · have htj := htb j_4
    refine rr_aload_n pf_59_44 rfl ?_
    refine rr_getR pf_59_45 po_59 pg_3_46 rfl (ws_200 hW) (by decide) (wr_200_2 q8.1) ?_
    refine rr_iload_n pf_59_48 rfl ?_
    refine vr_iald (j := j_4) q8 pf_59_49 (ws_199 hW) (by omega) (by omega) (by decide) (fun x34 hx34 rx34 => ?_)
    rw [q8.2.2 199 (by decide)] at hx34
    rw [h199] at hx34
    obtain ⟨r37, M35, ⟨kq36, pv_M35⟩, hcM35⟩ := ct_Reader_tokenOf (xs := xs) (L := L) (d := d) (b := x34) (by omega) hW q8.1 q8.2.1 (by unfold rg; omega)
    obtain rfl := qk_nil kq36
    refine rr_cS1 pf_59_50 po_59 pc_3_177 (by decide) rfl hcM35 ?_
    have htk := tkd_b (tb j_4)
    rw [hx34] at pv_M35
    refine rr_goto 57 pf_59_53 (by decide) ?_
    refine vr_putI hW q8 pf_59_57 po_59 pg_3_34 (Or.inl rfl) rfl (ws_200 hW) (by decide) (by unfold rg; omega) (by decide) (fun M38 eM38 q39 => ?_)
    have rq40 := fk_up rq9 eM38 (by decide)
    refine rr_aload_n pf_59_60 rfl ?_
    refine rr_iconst pf_59_61 ?_
    refine vr_putI hW q39 pf_59_62 po_59 pg_3_43 (Or.inl rfl) rfl (ws_200 hW) (by decide) (by unfold rg; omega) (by decide) (fun M41 eM41 q42 => ?_)
    have rq43 := fk_up rq40 eM41 (by decide)
    refine rr_aload_n pf_59_65 rfl ?_
    refine vr_getI q42 pf_59_66 po_59 pg_3_34 rfl (ws_200 hW) (by decide) (fun x44 hx44 rx44 => ?_)
    rw [eM41, up_ne (by decide), eM38, up_s] at hx44
    refine rr_iconst pf_59_69 ?_
    refine rr_icmp_ne 76 pf_59_70 (by decide) rx44 (by unfold rg; omega) (fun c45 => ?_) (fun c45 => ?_)
    · obtain ⟨s, hsd⟩ : ∃ z : Nat, z = j_4 := ⟨_, rfl⟩
      obtain ⟨K, hKd⟩ : ∃ z : Nat, z = tkd (tb j_4) := ⟨_, rfl⟩
      have hsx : s ≤ tn := by omega
      have hKx : K ≤ 3 := by rw [hKd]; exact (tkd_b _).2
      have hK0x : K = 0 → s = tn := fun z => by have := tkd_b (tb j_4); omega
      have g6x : M41 200 6 = ((K : Nat) : Int) := by rw [hKd, eM41, up_ne (by decide), eM38, up_s]; exact pv_M35
      have g7x : M41 200 7 = ((s : Nat) : Int) := by rw [hsd, eM41, up_ne (by decide), eM38, up_ne (by decide), eM7, up_s]
      have g9x : M41 200 9 = 0 := by rw [eM41, up_s]
      rw [← hKd] at pv_M35
      rw [← hsd] at hKd
      refine lp_Reader_next_76 (xs := xs) (L := L) (d := d) (by omega) hW h3 htn h199 htb hi h8 (K := K) hsx hKx hK0x (fun j_46  M47 q48 xrq_M47 x6_M47 x7_M47 xr_M47 x3_M47 x0_M47 x9_M47 xj_M47 => ?_) _ j_4 M41 rfl q42 (rq43) (by omega) (g6x) (g7x) (by intro z1 z2; rw [show j_4 = s by omega]; exact ⟨rfl, fun u hu => by omega⟩) (by
                  by_cases hk2 : K = 2
                  · rw [if_pos hk2, show j_4 = s by omega, Nat.sub_self, dgt]; exact g9x
                  · rw [if_neg hk2]; exact g9x) (by omega)
      have hxj2 := xj_M47
      refine rr_aload_n pf_59_153 rfl ?_
      refine rr_iload_n pf_59_154 rfl ?_
      refine vr_putI hW q48 pf_59_155 po_59 pg_3_40 (Or.inl rfl) rfl (ws_200 hW) (by decide) (by unfold rg; omega) (by decide) (fun M49 eM49 q50 => ?_)
      have rq51 := fk_up xrq_M47 eM49 (by decide)
      refine rr_vret pf_59_158 pt_59 ⟨rfl, M49, rfl, q50, (by
                  have hS : tkS tn tb i = s := xs__M5.trans hsd.symm
                  have hk : tkK tn tb i = K := by unfold tkK; rw [hS, if_pos (by omega), hKd]
                  have he : tkE tn tb i = j_46 := by
                    unfold tkE; rw [hS, if_pos (by omega), ← hKd]
                    by_cases h3k : K = 3
                    · rw [if_pos h3k]; exact (x3_M47 h3k).symm
                    · rw [if_neg h3k]; exact xr_M47 h3k (by have := tkd_b (tb s); omega)
                  rw [hS, eM49, up_ne (by decide)]; exact x7_M47), (by
                  have hS : tkS tn tb i = s := xs__M5.trans hsd.symm
                  have hk : tkK tn tb i = K := by unfold tkK; rw [hS, if_pos (by omega), hKd]
                  have he : tkE tn tb i = j_46 := by
                    unfold tkE; rw [hS, if_pos (by omega), ← hKd]
                    by_cases h3k : K = 3
                    · rw [if_pos h3k]; exact (x3_M47 h3k).symm
                    · rw [if_neg h3k]; exact xr_M47 h3k (by have := tkd_b (tb s); omega)
                  rw [he, eM49, up_s]), (by
                  have hS : tkS tn tb i = s := xs__M5.trans hsd.symm
                  have hk : tkK tn tb i = K := by unfold tkK; rw [hS, if_pos (by omega), hKd]
                  have he : tkE tn tb i = j_46 := by
                    unfold tkE; rw [hS, if_pos (by omega), ← hKd]
                    by_cases h3k : K = 3
                    · rw [if_pos h3k]; exact (x3_M47 h3k).symm
                    · rw [if_neg h3k]; exact xr_M47 h3k (by have := tkd_b (tb s); omega)
                  rw [hk, eM49, up_ne (by decide)]; exact x6_M47), (by
                  have hS : tkS tn tb i = s := xs__M5.trans hsd.symm
                  have hk : tkK tn tb i = K := by unfold tkK; rw [hS, if_pos (by omega), hKd]
                  have he : tkE tn tb i = j_46 := by
                    unfold tkE; rw [hS, if_pos (by omega), ← hKd]
                    by_cases h3k : K = 3
                    · rw [if_pos h3k]; exact (x3_M47 h3k).symm
                    · rw [if_neg h3k]; exact xr_M47 h3k (by have := tkd_b (tb s); omega)
                  unfold cnm; rw [hk, eM49, up_ne (by decide), x9_M47]; by_cases hk2 : K = 2
                  · rw [if_pos hk2, if_pos hk2]; unfold tkW; rw [hk, hS, he, if_neg (by omega), if_pos hk2]
                  · rw [if_neg hk2, if_neg hk2]), (rq51)⟩
    · refine rr_iinc pf_59_73 rfl (fun y => [.ref 200, .int (iI (y))]) (fun _ => rfl) (fun y52 hy52 => ?_)
      obtain ⟨s, hsd⟩ : ∃ z : Nat, z = j_4 := ⟨_, rfl⟩
      obtain ⟨K, hKd⟩ : ∃ z : Nat, z = tkd (tb j_4) := ⟨_, rfl⟩
      have hsx : s ≤ tn := by omega
      have hKx : K ≤ 3 := by rw [hKd]; exact (tkd_b _).2
      have hK0x : K = 0 → s = tn := fun z => by have := tkd_b (tb j_4); omega
      have g6x : M41 200 6 = ((K : Nat) : Int) := by rw [hKd, eM41, up_ne (by decide), eM38, up_s]; exact pv_M35
      have g7x : M41 200 7 = ((s : Nat) : Int) := by rw [hsd, eM41, up_ne (by decide), eM38, up_ne (by decide), eM7, up_s]
      have g9x : M41 200 9 = 0 := by rw [eM41, up_s]
      rw [← hKd] at pv_M35
      rw [← hsd] at hKd
      obtain ⟨nz53, hnz53, rfl⟩ : ∃ zz : Nat, zz = 1 + j_4 ∧ y52 = ((zz : Nat) : Int) := ⟨1 + j_4, rfl, by omega⟩
      refine lp_Reader_next_76 (xs := xs) (L := L) (d := d) (by omega) hW h3 htn h199 htb hi h8 (K := K) hsx hKx hK0x (fun j_54  M55 q56 xrq_M55 x6_M55 x7_M55 xr_M55 x3_M55 x0_M55 x9_M55 xj_M55 => ?_) _ nz53 M41 rfl q42 (rq43) (by omega) (g6x) (g7x) (by intro z1 z2; rw [show nz53 = s by omega]; exact ⟨rfl, fun u hu => by omega⟩) (by
                  by_cases hk2 : K = 2
                  · rw [if_pos hk2, show nz53 = s by omega, Nat.sub_self, dgt]; exact g9x
                  · rw [if_neg hk2]; exact g9x) (by omega)
      have hxj2 := xj_M55
      refine rr_aload_n pf_59_153 rfl ?_
      refine rr_iload_n pf_59_154 rfl ?_
      refine vr_putI hW q56 pf_59_155 po_59 pg_3_40 (Or.inl rfl) rfl (ws_200 hW) (by decide) (by unfold rg; omega) (by decide) (fun M57 eM57 q58 => ?_)
      have rq59 := fk_up xrq_M55 eM57 (by decide)
      refine rr_vret pf_59_158 pt_59 ⟨rfl, M57, rfl, q58, (by
                  have hS : tkS tn tb i = s := xs__M5.trans hsd.symm
                  have hk : tkK tn tb i = K := by unfold tkK; rw [hS, if_pos (by omega), hKd]
                  have he : tkE tn tb i = j_54 := by
                    unfold tkE; rw [hS, if_pos (by omega), ← hKd]
                    by_cases h3k : K = 3
                    · rw [if_pos h3k]; exact (x3_M55 h3k).symm
                    · rw [if_neg h3k]; exact xr_M55 h3k (by have := tkd_b (tb s); omega)
                  rw [hS, eM57, up_ne (by decide)]; exact x7_M55), (by
                  have hS : tkS tn tb i = s := xs__M5.trans hsd.symm
                  have hk : tkK tn tb i = K := by unfold tkK; rw [hS, if_pos (by omega), hKd]
                  have he : tkE tn tb i = j_54 := by
                    unfold tkE; rw [hS, if_pos (by omega), ← hKd]
                    by_cases h3k : K = 3
                    · rw [if_pos h3k]; exact (x3_M55 h3k).symm
                    · rw [if_neg h3k]; exact xr_M55 h3k (by have := tkd_b (tb s); omega)
                  rw [he, eM57, up_s]), (by
                  have hS : tkS tn tb i = s := xs__M5.trans hsd.symm
                  have hk : tkK tn tb i = K := by unfold tkK; rw [hS, if_pos (by omega), hKd]
                  have he : tkE tn tb i = j_54 := by
                    unfold tkE; rw [hS, if_pos (by omega), ← hKd]
                    by_cases h3k : K = 3
                    · rw [if_pos h3k]; exact (x3_M55 h3k).symm
                    · rw [if_neg h3k]; exact xr_M55 h3k (by have := tkd_b (tb s); omega)
                  rw [hk, eM57, up_ne (by decide)]; exact x6_M55), (by
                  have hS : tkS tn tb i = s := xs__M5.trans hsd.symm
                  have hk : tkK tn tb i = K := by unfold tkK; rw [hS, if_pos (by omega), hKd]
                  have he : tkE tn tb i = j_54 := by
                    unfold tkE; rw [hS, if_pos (by omega), ← hKd]
                    by_cases h3k : K = 3
                    · rw [if_pos h3k]; exact (x3_M55 h3k).symm
                    · rw [if_neg h3k]; exact xr_M55 h3k (by have := tkd_b (tb s); omega)
                  unfold cnm; rw [hk, eM57, up_ne (by decide), x9_M55]; by_cases hk2 : K = 2
                  · rw [if_pos hk2, if_pos hk2]; unfold tkW; rw [hk, hS, he, if_neg (by omega), if_pos hk2]
                  · rw [if_neg hk2, if_neg hk2]), (rq59)⟩
