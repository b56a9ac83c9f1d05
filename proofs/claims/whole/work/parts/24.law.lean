theorem ct_Text_kindOf {xs : Nat → Int} {L d : Nat} {sh : List (Nat × Nat)} {M : Nat → Nat → Int} (hd : 1 ≤ d) (hW : px_W0 <+: sh) (hF : px_Fx M) (hG : px_RG sh M) {t N C c : Nat} (hT : px_tx sh M t N C) (hc : c < C) : px_Cl xs L d 24 [.ref t, .int (iI (((c : Nat) : Int)))] (sh, M) (some (.int (iI (M (t + 3) (c * 8 + 0))))) (sh, M) := by
  obtain ⟨d, rfl⟩ : ∃ e, d = e + 1 := ⟨d - 1, by omega⟩
  refine px_Cl_intro (Nat.le_of_ble_eq_true rfl) ?_
  show px_R xs L d 24 (0, [.ref t, .int (iI (((c : Nat) : Int)))], [], (sh, M)) _
  have hC := hT.2.2.2.2.2.2.2.2.1
  refine rr_aload_n pf_24_0 rfl ?_
  refine rr_getR pf_24_1 po_24 pg_6_33 rfl (tx_s0 hT) (by decide) (tx_f2 hT) ?_
  refine rr_iload_n pf_24_4 rfl ?_
  refine rr_bipush pf_24_5 (by decide) ?_
  refine rr_imul pf_24_7 ?_
  refine rr_iconst pf_24_8 ?_
  refine rr_iadd pf_24_9 ?_
  refine rr_iald pf_24_10 (tx_s3 hT) (by omega) (by omega) (by simp only [rg, rl] at *; omega) ?_
  refine rr_iret pf_24_11 pt_24 ⟨by congr 4 <;> omega, rfl⟩
theorem ct_Text_oftenOf {xs : Nat → Int} {L d : Nat} {sh : List (Nat × Nat)} {M : Nat → Nat → Int} (hd : 1 ≤ d) (hW : px_W0 <+: sh) (hF : px_Fx M) (hG : px_RG sh M) {t N C c : Nat} (hT : px_tx sh M t N C) (hc : c < C) : px_Cl xs L d 97 [.ref t, .int (iI (((c : Nat) : Int)))] (sh, M) (some (.int (iI (M (t + 3) (c * 8 + 1))))) (sh, M) := by
  obtain ⟨d, rfl⟩ : ∃ e, d = e + 1 := ⟨d - 1, by omega⟩
  refine px_Cl_intro (Nat.le_of_ble_eq_true rfl) ?_
  show px_R xs L d 97 (0, [.ref t, .int (iI (((c : Nat) : Int)))], [], (sh, M)) _
  have hC := hT.2.2.2.2.2.2.2.2.1
  refine rr_aload_n pf_97_0 rfl ?_
  refine rr_getR pf_97_1 po_97 pg_6_33 rfl (tx_s0 hT) (by decide) (tx_f2 hT) ?_
  refine rr_iload_n pf_97_4 rfl ?_
  refine rr_bipush pf_97_5 (by decide) ?_
  refine rr_imul pf_97_7 ?_
  refine rr_iconst pf_97_8 ?_
  refine rr_iadd pf_97_9 ?_
  refine rr_iald pf_97_10 (tx_s3 hT) (by omega) (by omega) (by simp only [rg, rl] at *; omega) ?_
  refine rr_iret pf_97_11 pt_97 ⟨by congr 4 <;> omega, rfl⟩
/-! laws -/
def oI (q : Option Int) : Int := q.getD (-2000000000)
def px_bnd (v : Nat → Int) : Prop := ∀ j, j < 12 → -1000000000 ≤ v j ∧ v j ≤ 1000000000
/-- the text at t means the clauses lw -/
def px_den (sh : List (Nat × Nat)) (M : Nat → Nat → Int) (t N C : Nat) (lw : List sp_C) : Prop :=
  px_tx sh M t N C ∧ M t 4 = (lw.length : Int) ∧ lw.length ≤ C ∧ (∀ i, i < N → 0 ≤ M (t + 2) i ∧ M (t + 2) i ≤ 1000000000) ∧ (∀ i, i < N → 0 ≤ M (t + 1) i) ∧
  ∀ c, c < lw.length → ∃ x, lw[c]? = some x ∧ M (t + 3) (c * 8 + 0) = x.1 ∧ (∃ fr to : Nat, M (t + 3) (c * 8 + 6) = (fr : Int) ∧ M (t + 3) (c * 8 + 6 + 1) = (to : Int) ∧ fr ≤ to ∧ to ≤ N ∧ ∀ v, px_bnd v → wC (M (t + 1)) (M (t + 2)) v 12 fr to = oI (x.2.1 v) ∧ ∀ y, x.2.1 v = some y → -1000000000 ≤ y ∧ y ≤ 1000000001)
    ∧ (∃ fr to : Nat, M (t + 3) (c * 8 + 2) = (fr : Int) ∧ M (t + 3) (c * 8 + 2 + 1) = (to : Int) ∧ fr ≤ to ∧ to ≤ N ∧ ∀ v, px_bnd v → wC (M (t + 1)) (M (t + 2)) v 12 fr to = oI (x.2.2 v) ∧ ∀ y, x.2.2 v = some y → -1000000000 ≤ y ∧ y ≤ 1000000001)
theorem den_eq {sh : List (Nat × Nat)} {M M2 : Nat → Nat → Int} {t N C : Nat} {lw : List sp_C} (h : px_den sh M t N C lw) (e : ∀ i, i < 4 → M2 (t + i) = M (t + i)) : px_den sh M2 t N C lw := by
  obtain ⟨h1, h2, h3, h4, h5, h6⟩ := h
  have e0 : M2 t = M t := e 0 (by omega)
  have e1 := e 1 (by omega)
  have e2 := e 2 (by omega)
  have e3 := e 3 (by omega)
  unfold px_den
  rw [e0, e1, e2, e3]
  exact ⟨tx_eq h1 e0, h2, h3, h4, h5, h6⟩
/-- the law in force of the church at cb means lw -/
def sp_rs (lw : List sp_C) : Prop := ∀ x ∈ lw, ∀ v w : Nat → Int, (∀ j, j < 12 → v j = w j) → x.2.1 v = x.2.1 w ∧ x.2.2 v = x.2.2 w
theorem sp_tell_congr {lw : List sp_C} (h : sp_rs lw) {kd : Int} {v w : Nat → Int} (e : ∀ j, j < 12 → v j = w j) : sp_tell lw kd v = sp_tell lw kd w := by
  unfold sp_tell
  have key : ∀ l : List sp_C, (∀ x ∈ l, x ∈ lw) → l.findSome? (fun c => sp_hold c kd v) = l.findSome? (fun c => sp_hold c kd w) := by
    intro l
    induction l with
    | nil => intro _; rfl
    | cons x l ih =>
      intro hl
      have hx := h x (hl x List.mem_cons_self) v w e
      have e1 : sp_hold x kd v = sp_hold x kd w := by unfold sp_hold; rw [hx.1, hx.2]
      rw [List.findSome?_cons, List.findSome?_cons, e1, ih (fun y hy => hl y (List.mem_cons_of_mem _ hy))]
  exact key _ (fun x hx => List.mem_reverse.mp hx)
def px_lw (sh : List (Nat × Nat)) (M : Nat → Nat → Int) (cb : Nat) (lw : List sp_C) : Prop := ((M cb 10 = -1 ∧ lw = []) ∨ ∃ n t N C : Nat, M cb 10 = (n : Int) ∧ (n : Int) < M cb 9 ∧ n < 6 ∧ M (cb + 8) n = (t : Int) ∧ px_den sh M t N C lw) ∧ sp_rs lw
theorem tell_b {sh : List (Nat × Nat)} {M : Nat → Nat → Int} {cb : Nat} {lw : List sp_C} (h : px_lw sh M cb lw) {kd : Int} {v : Nat → Int} (hv : px_bnd v) {y : Int} (hy : sp_tell lw kd v = some y) : -1000000000 ≤ y ∧ y ≤ 1000000001 := by
  rcases h.1 with ⟨q1, rfl⟩ | ⟨n, t, N, C, q1, q2, q3, q4, q5⟩
  · cases hy
  · unfold sp_tell at hy
    obtain ⟨x, hx, hh⟩ := List.exists_of_findSome?_eq_some hy
    have hx := List.mem_reverse.mp hx
    obtain ⟨c, hc⟩ := List.getElem?_of_mem hx
    obtain ⟨x2, e, -, -, ⟨fr, to, -, -, -, -, hb⟩⟩ := q5.2.2.2.2.2 c (List.getElem?_eq_some_iff.mp hc).1
    cases hc.symm.trans e
    unfold sp_hold at hh
    split at hh
    · exact (hb v hv).2 y hh
    · cases hh
theorem lw_eo {sh : List (Nat × Nat)} {M M2 : Nat → Nat → Int} {cb : Nat} {lw : List sp_C} {A : List Nat} (h : px_lw sh M cb lw) (he : px_eo A M M2) (h1 : cb ∉ A) (h2 : cb + 8 ∉ A) (hA : ∀ a ∈ A, a < 264 ∧ (a < 201 ∨ 204 < a)) : px_lw sh M2 cb lw := by
  refine ⟨?_, h.2⟩
  rcases h.1 with ⟨q1, q2⟩ | ⟨n, t, N, C, q1, q2, q3, q4, q5⟩
  · exact Or.inl ⟨by rw [he cb h1]; exact q1, q2⟩
  · refine Or.inr ⟨n, t, N, C, by rw [he cb h1]; exact q1, by rw [he cb h1]; exact q2, q3, by rw [he (cb + 8) h2]; exact q4, den_eq q5 (fun i hi => he _ (fun q => ?_))⟩
    have a := hA _ q
    have b := q5.1.2.2.2.2.2.2.2.2.2
    omega
theorem ch_far {cb c2 : Nat} (h1 : px_ch cb) (h2 : px_ch c2) : 3 ≤ cb ∧ cb + 11 ≤ 264 ∧ (cb + 11 ≤ 201 ∨ 204 < cb) ∧ (c2 + 11 ≤ cb ∨ cb + 11 ≤ c2 ∨ cb = c2) := (show ∀ c ∈ px_chL, ∀ e ∈ px_chL, 3 ≤ c ∧ c + 11 ≤ 264 ∧ (c + 11 ≤ 201 ∨ 204 < c) ∧ (e + 11 ≤ c ∨ c + 11 ≤ e ∨ c = e) by decide +kernel) cb h1 c2 h2
theorem lw_scr {sh : List (Nat × Nat)} {M M2 : Nat → Nat → Int} {cb c2 : Nat} {lw : List sp_C} (h1 : px_ch cb) (h2 : px_ch c2) (h : px_lw sh M cb lw) (he : px_eo (px_scr c2) M M2) : px_lw sh M2 cb lw := by
  have f := ch_far h1 h2
  have g := ch_far h2 h1
  refine lw_eo h he (by simp <;> omega) (by simp <;> omega) (fun a ha => ?_)
  simp only [List.mem_cons, List.not_mem_nil, or_false] at ha
  omega
theorem qk_mono {sh : List (Nat × Nat)} {A B : List Nat} {M M2 : Nat → Nat → Int} (h : px_qk sh A M M2) (hs : ∀ a ∈ A, a ∈ B) : px_qk sh B M M2 := ⟨h.1, h.2.1, eo_mono h.2.2 hs⟩
theorem lp_Church_lastTold {xs : Nat → Int} {L d : Nat} {sh : List (Nat × Nat)} (hd : 2 ≤ d) (hW : px_W0 <+: sh) {M0 : Nat → Nat → Int} {cb t N C : Nat} (hcb : px_ch cb) {kd : Int} (hkd : rg kd) {lw : List sp_C} (hden : px_den sh M0 t N C lw) (hbn : px_bnd (M0 (cb + 10))) : ∀ (m : Nat) (M : Nat → Nat → Int) (v4 : Value), m ≤ lw.length → px_Fx M → px_RG sh M → px_eo [2] M0 M → px_R xs L d 22 (39, [.ref cb, .int (iI (kd)), .ref t, .int (iI ((m : Int) - 1)), v4], [], (sh, M)) (fun r h' => r = some (.int (iI (oI (sp_tell (lw.take m) kd (M0 (cb + 10)))))) ∧ ∃ M', h' = (sh, M') ∧ px_qk sh [2] M0 M') := by
  have ht2 := hden.1.2.2.2.2.2.2.2.2.2
  have hC := hden.1.2.2.2.2.2.2.2.2.1
  have hl := hden.2.2.1
  have hcf := ch_far hcb hcb
  intro m
  induction m with
  | zero =>
    intro M v4 hm hF hG hE
    have hT : px_tx sh M t N C := tx_eq hden.1 (hE t (by simp <;> omega))
    refine rr_iload_n pf_22_39 rfl ?_
    refine rr_if_lt 103 pf_22_40 (by decide) (by simp only [rg, rl] at *; omega) (fun c1 => ?_) (fun c1 => ?_)
    · refine rr_ldc pf_22_103 po_22 pk_0_101 ?_
      refine rr_iret pf_22_105 pt_22 ⟨rfl, _, rfl, hF, hG, hE⟩
    · exfalso; omega
  | succ m ih =>
    intro M v4 hm hF hG hE
    have hT : px_tx sh M t N C := tx_eq hden.1 (hE t (by simp <;> omega))
    have hm1 : M (t + 1) = M0 (t + 1) := hE _ (by simp <;> omega)
    have hm2 : M (t + 2) = M0 (t + 2) := hE _ (by simp <;> omega)
    have hm3 : M (t + 3) = M0 (t + 3) := hE _ (by simp <;> omega)
    have hma : M (cb + 10) = M0 (cb + 10) := hE _ (by simp <;> omega)
    obtain ⟨x, hxl, hxk, ⟨fr1, to1, hx6⟩, ⟨fr2, to2, hx2⟩⟩ := hden.2.2.2.2.2 m (by omega)
    have htk : lw.take (m + 1) = lw.take m ++ [x] := by rw [List.take_succ, hxl]; rfl
    have hr6 : rg (oI (x.2.1 (M0 (cb + 10)))) := by
      unfold oI
      cases h : x.2.1 (M0 (cb + 10)) with
      | none => unfold rg; simp
      | some y => have := (hx6.2.2.2.2 _ hbn).2 y h; unfold rg; simp; omega
    have hr2 : rg (oI (x.2.2 (M0 (cb + 10)))) := by
      unfold oI
      cases h : x.2.2 (M0 (cb + 10)) with
      | none => unfold rg; simp
      | some y => have := (hx2.2.2.2.2 _ hbn).2 y h; unfold rg; simp; omega
    have hxr : rg x.1 := by rw [← hxk, ← hm3]; exact rg_at hG (tx_s3 hT) (by rw [px_ty10]; decide)
    rw [show ((m + 1 : Nat) : Int) - 1 = (m : Int) by omega]
    by_cases hke : x.1 = kd
    · by_cases ht1 : x.2.1 (M0 (cb + 10)) = some 1
      · have ht3 : oI (x.2.1 (M0 (cb + 10))) = 1 := by rw [ht1]; rfl
        cases hs0 : x.2.2 (M0 (cb + 10)) with
        | none =>
          have hs1 : oI (x.2.2 (M0 (cb + 10))) = -2000000000 := by rw [hs0]; rfl
          refine rr_iload_n pf_22_39 rfl ?_
          refine rr_if_lt 103 pf_22_40 (by decide) (by simp only [rg, rl] at *; omega) (fun c1 => ?_) (fun c1 => ?_)
          · exfalso; omega
          · refine rr_aload_n pf_22_43 rfl ?_
            refine rr_iload_n pf_22_44 rfl ?_
            refine rr_cV1 pf_22_45 po_22 pc_0_143 (tx_s0 hT) po_24 (by decide) rfl (ct_Text_kindOf (c := m) (by omega) hW hF hG hT (by omega)) ?_
            rw [hm3, hxk]
            refine rr_iload_n pf_22_48 rfl ?_
            refine rr_icmp_ne 97 pf_22_49 (by decide) (by simp only [rg, rl] at *; omega) hkd (fun c2 => ?_) (fun c2 => ?_)
            · exfalso; omega
            · refine rr_aload_n pf_22_52 rfl ?_
              refine rr_getR pf_22_53 po_22 pg_0_62 rfl (cs_z hW hcb) (by decide) (cf_0_14 hF hcb) ?_
              refine rr_aload_n pf_22_56 rfl ?_
              refine rr_iload_n pf_22_57 rfl ?_
              refine rr_bipush pf_22_58 (by decide) ?_
              refine rr_aload_n pf_22_60 rfl ?_
              refine rr_getR pf_22_61 po_22 pg_0_59 rfl (cs_z hW hcb) (by decide) (cf_0_13 hF hcb) ?_
              obtain ⟨M3, qM3, hcM3⟩ := ct_Sums_worth (xs := xs) (L := L) (d := d) (by omega) hW hF hG (cl := m) (pt := 6) (fr := fr1) (to := to1) hT (cs_10 hW hcb) (by omega) (by decide) (by omega) (by decide) (by rw [hm3]; exact hx6.1) (by rw [hm3]; exact hx6.2.1) hx6.2.2.1 hx6.2.2.2.1 (by rw [hm2]; exact hden.2.2.2.1) (by rw [hma]; exact hbn) (by rw [hm1]; exact hden.2.2.2.2.1)
              rw [hm1, hm2, hma, (hx6.2.2.2.2 _ hbn).1] at hcM3
              refine rr_cV4 pf_22_64 po_22 pc_0_146 (ws_1 hW) po_25 (by decide) rfl hcM3 ?_
              have hE4 : px_eo [2] M0 M3 := eo_tr hE qM3.2.2
              have hn1 : M3 (t + 1) = M0 (t + 1) := hE4 _ (by simp <;> omega)
              have hn2 : M3 (t + 2) = M0 (t + 2) := hE4 _ (by simp <;> omega)
              have hn3 : M3 (t + 3) = M0 (t + 3) := hE4 _ (by simp <;> omega)
              have hna : M3 (cb + 10) = M0 (cb + 10) := hE4 _ (by simp <;> omega)
              have hTx : px_tx sh M3 t N C := tx_eq hden.1 (hE4 t (by simp <;> omega))
              refine rr_iconst pf_22_67 ?_
              refine rr_icmp_ne 97 pf_22_68 (by decide) hr6 (by simp only [rg, rl] at *; omega) (fun c5 => ?_) (fun c5 => ?_)
              · exfalso; omega
              · refine rr_aload_n pf_22_71 rfl ?_
                refine rr_getR pf_22_72 po_22 pg_0_62 rfl (cs_z hW hcb) (by decide) (cf_0_14 qM3.1 hcb) ?_
                refine rr_aload_n pf_22_75 rfl ?_
                refine rr_iload_n pf_22_76 rfl ?_
                refine rr_iconst pf_22_77 ?_
                refine rr_aload_n pf_22_78 rfl ?_
                refine rr_getR pf_22_79 po_22 pg_0_59 rfl (cs_z hW hcb) (by decide) (cf_0_13 qM3.1 hcb) ?_
                obtain ⟨M6, qM6, hcM6⟩ := ct_Sums_worth (xs := xs) (L := L) (d := d) (by omega) hW qM3.1 qM3.2.1 (cl := m) (pt := 2) (fr := fr2) (to := to2) hTx (cs_10 hW hcb) (by omega) (by decide) (by omega) (by decide) (by rw [hn3]; exact hx2.1) (by rw [hn3]; exact hx2.2.1) hx2.2.2.1 hx2.2.2.2.1 (by rw [hn2]; exact hden.2.2.2.1) (by rw [hna]; exact hbn) (by rw [hn1]; exact hden.2.2.2.2.1)
                rw [hn1, hn2, hna, (hx2.2.2.2.2 _ hbn).1] at hcM6
                refine rr_cV4 pf_22_82 po_22 pc_0_146 (ws_1 hW) po_25 (by decide) rfl hcM6 ?_
                have hE7 : px_eo [2] M0 M6 := eo_tr hE4 qM6.2.2
                refine rr_istore pf_22_85 (fun y => [.ref cb, .int (iI (kd)), .ref t, .int (iI ((m : Int))), .int (iI (y))]) (Nat.le_of_ble_eq_true rfl) (fun _ => rfl) (fun y8 hy8 => ?_)
                refine rr_iload pf_22_87 rfl ?_
                refine rr_ldc pf_22_89 po_22 pk_0_101 ?_
                refine rr_icmp_eq 97 pf_22_91 (by decide) (by simp only [rg, rl] at *; omega) (by simp only [rg, rl] at *; omega) (fun c9 => ?_) (fun c9 => ?_)
                · refine rr_iinc pf_22_97 rfl (fun y => [.ref cb, .int (iI (kd)), .ref t, .int (iI (y)), .int (iI (y8))]) (fun _ => rfl) (fun y10 hy10 => ?_)
                  refine rr_goto 39 pf_22_100 (by decide) ?_
                  obtain rfl : y10 = (m : Int) - 1 := by omega
                  rw [htk, sp_tell_snoc, show sp_hold x kd (M0 (cb + 10)) = none from by unfold sp_hold; split; exact hs0; rfl]
                  exact ih M6 _ (by omega) qM6.1 qM6.2.1 hE7
                · exfalso; omega
        | some y =>
          have hyb := (hx2.2.2.2.2 _ hbn).2 y hs0
          have hs1 : oI (x.2.2 (M0 (cb + 10))) = y := by rw [hs0]; rfl
          refine rr_iload_n pf_22_39 rfl ?_
          refine rr_if_lt 103 pf_22_40 (by decide) (by simp only [rg, rl] at *; omega) (fun c1 => ?_) (fun c1 => ?_)
          · exfalso; omega
          · refine rr_aload_n pf_22_43 rfl ?_
            refine rr_iload_n pf_22_44 rfl ?_
            refine rr_cV1 pf_22_45 po_22 pc_0_143 (tx_s0 hT) po_24 (by decide) rfl (ct_Text_kindOf (c := m) (by omega) hW hF hG hT (by omega)) ?_
            rw [hm3, hxk]
            refine rr_iload_n pf_22_48 rfl ?_
            refine rr_icmp_ne 97 pf_22_49 (by decide) (by simp only [rg, rl] at *; omega) hkd (fun c2 => ?_) (fun c2 => ?_)
            · exfalso; omega
            · refine rr_aload_n pf_22_52 rfl ?_
              refine rr_getR pf_22_53 po_22 pg_0_62 rfl (cs_z hW hcb) (by decide) (cf_0_14 hF hcb) ?_
              refine rr_aload_n pf_22_56 rfl ?_
              refine rr_iload_n pf_22_57 rfl ?_
              refine rr_bipush pf_22_58 (by decide) ?_
              refine rr_aload_n pf_22_60 rfl ?_
              refine rr_getR pf_22_61 po_22 pg_0_59 rfl (cs_z hW hcb) (by decide) (cf_0_13 hF hcb) ?_
              obtain ⟨M3, qM3, hcM3⟩ := ct_Sums_worth (xs := xs) (L := L) (d := d) (by omega) hW hF hG (cl := m) (pt := 6) (fr := fr1) (to := to1) hT (cs_10 hW hcb) (by omega) (by decide) (by omega) (by decide) (by rw [hm3]; exact hx6.1) (by rw [hm3]; exact hx6.2.1) hx6.2.2.1 hx6.2.2.2.1 (by rw [hm2]; exact hden.2.2.2.1) (by rw [hma]; exact hbn) (by rw [hm1]; exact hden.2.2.2.2.1)
              rw [hm1, hm2, hma, (hx6.2.2.2.2 _ hbn).1] at hcM3
              refine rr_cV4 pf_22_64 po_22 pc_0_146 (ws_1 hW) po_25 (by decide) rfl hcM3 ?_
              have hE4 : px_eo [2] M0 M3 := eo_tr hE qM3.2.2
              have hn1 : M3 (t + 1) = M0 (t + 1) := hE4 _ (by simp <;> omega)
              have hn2 : M3 (t + 2) = M0 (t + 2) := hE4 _ (by simp <;> omega)
              have hn3 : M3 (t + 3) = M0 (t + 3) := hE4 _ (by simp <;> omega)
              have hna : M3 (cb + 10) = M0 (cb + 10) := hE4 _ (by simp <;> omega)
              have hTx : px_tx sh M3 t N C := tx_eq hden.1 (hE4 t (by simp <;> omega))
              refine rr_iconst pf_22_67 ?_
              refine rr_icmp_ne 97 pf_22_68 (by decide) hr6 (by simp only [rg, rl] at *; omega) (fun c5 => ?_) (fun c5 => ?_)
              · exfalso; omega
              · refine rr_aload_n pf_22_71 rfl ?_
                refine rr_getR pf_22_72 po_22 pg_0_62 rfl (cs_z hW hcb) (by decide) (cf_0_14 qM3.1 hcb) ?_
                refine rr_aload_n pf_22_75 rfl ?_
                refine rr_iload_n pf_22_76 rfl ?_
                refine rr_iconst pf_22_77 ?_
                refine rr_aload_n pf_22_78 rfl ?_
                refine rr_getR pf_22_79 po_22 pg_0_59 rfl (cs_z hW hcb) (by decide) (cf_0_13 qM3.1 hcb) ?_
                obtain ⟨M6, qM6, hcM6⟩ := ct_Sums_worth (xs := xs) (L := L) (d := d) (by omega) hW qM3.1 qM3.2.1 (cl := m) (pt := 2) (fr := fr2) (to := to2) hTx (cs_10 hW hcb) (by omega) (by decide) (by omega) (by decide) (by rw [hn3]; exact hx2.1) (by rw [hn3]; exact hx2.2.1) hx2.2.2.1 hx2.2.2.2.1 (by rw [hn2]; exact hden.2.2.2.1) (by rw [hna]; exact hbn) (by rw [hn1]; exact hden.2.2.2.2.1)
                rw [hn1, hn2, hna, (hx2.2.2.2.2 _ hbn).1] at hcM6
                refine rr_cV4 pf_22_82 po_22 pc_0_146 (ws_1 hW) po_25 (by decide) rfl hcM6 ?_
                have hE7 : px_eo [2] M0 M6 := eo_tr hE4 qM6.2.2
                refine rr_istore pf_22_85 (fun y => [.ref cb, .int (iI (kd)), .ref t, .int (iI ((m : Int))), .int (iI (y))]) (Nat.le_of_ble_eq_true rfl) (fun _ => rfl) (fun y8 hy8 => ?_)
                refine rr_iload pf_22_87 rfl ?_
                refine rr_ldc pf_22_89 po_22 pk_0_101 ?_
                refine rr_icmp_eq 97 pf_22_91 (by decide) (by simp only [rg, rl] at *; omega) (by simp only [rg, rl] at *; omega) (fun c9 => ?_) (fun c9 => ?_)
                · exfalso; omega
                · refine rr_iload pf_22_94 rfl ?_
                  refine rr_iret pf_22_96 pt_22 ⟨by rw [htk, sp_tell_snoc, show sp_hold x kd (M0 (cb + 10)) = some y from by unfold sp_hold; rw [if_pos ⟨hke, ht1⟩]; exact hs0]; simp only [Option.some_or]; congr 3; rw [hs0] at *; assumption, _, rfl, qM6.1, qM6.2.1, hE7⟩
      · have ht3 : oI (x.2.1 (M0 (cb + 10))) ≠ 1 := by
          intro q
          unfold oI at q
          cases h : x.2.1 (M0 (cb + 10)) with
          | none => rw [h] at q; simp at q
          | some z => rw [h] at q; simp at q; exact ht1 (by rw [h, q])
        refine rr_iload_n pf_22_39 rfl ?_
        refine rr_if_lt 103 pf_22_40 (by decide) (by simp only [rg, rl] at *; omega) (fun c1 => ?_) (fun c1 => ?_)
        · exfalso; omega
        · refine rr_aload_n pf_22_43 rfl ?_
          refine rr_iload_n pf_22_44 rfl ?_
          refine rr_cV1 pf_22_45 po_22 pc_0_143 (tx_s0 hT) po_24 (by decide) rfl (ct_Text_kindOf (c := m) (by omega) hW hF hG hT (by omega)) ?_
          rw [hm3, hxk]
          refine rr_iload_n pf_22_48 rfl ?_
          refine rr_icmp_ne 97 pf_22_49 (by decide) (by simp only [rg, rl] at *; omega) hkd (fun c2 => ?_) (fun c2 => ?_)
          · exfalso; omega
          · refine rr_aload_n pf_22_52 rfl ?_
            refine rr_getR pf_22_53 po_22 pg_0_62 rfl (cs_z hW hcb) (by decide) (cf_0_14 hF hcb) ?_
            refine rr_aload_n pf_22_56 rfl ?_
            refine rr_iload_n pf_22_57 rfl ?_
            refine rr_bipush pf_22_58 (by decide) ?_
            refine rr_aload_n pf_22_60 rfl ?_
            refine rr_getR pf_22_61 po_22 pg_0_59 rfl (cs_z hW hcb) (by decide) (cf_0_13 hF hcb) ?_
            obtain ⟨M3, qM3, hcM3⟩ := ct_Sums_worth (xs := xs) (L := L) (d := d) (by omega) hW hF hG (cl := m) (pt := 6) (fr := fr1) (to := to1) hT (cs_10 hW hcb) (by omega) (by decide) (by omega) (by decide) (by rw [hm3]; exact hx6.1) (by rw [hm3]; exact hx6.2.1) hx6.2.2.1 hx6.2.2.2.1 (by rw [hm2]; exact hden.2.2.2.1) (by rw [hma]; exact hbn) (by rw [hm1]; exact hden.2.2.2.2.1)
            rw [hm1, hm2, hma, (hx6.2.2.2.2 _ hbn).1] at hcM3
            refine rr_cV4 pf_22_64 po_22 pc_0_146 (ws_1 hW) po_25 (by decide) rfl hcM3 ?_
            have hE4 : px_eo [2] M0 M3 := eo_tr hE qM3.2.2
            have hn1 : M3 (t + 1) = M0 (t + 1) := hE4 _ (by simp <;> omega)
            have hn2 : M3 (t + 2) = M0 (t + 2) := hE4 _ (by simp <;> omega)
            have hn3 : M3 (t + 3) = M0 (t + 3) := hE4 _ (by simp <;> omega)
            have hna : M3 (cb + 10) = M0 (cb + 10) := hE4 _ (by simp <;> omega)
            have hTx : px_tx sh M3 t N C := tx_eq hden.1 (hE4 t (by simp <;> omega))
            refine rr_iconst pf_22_67 ?_
            refine rr_icmp_ne 97 pf_22_68 (by decide) hr6 (by simp only [rg, rl] at *; omega) (fun c5 => ?_) (fun c5 => ?_)
            · refine rr_iinc pf_22_97 rfl (fun y => [.ref cb, .int (iI (kd)), .ref t, .int (iI (y)), v4]) (fun _ => rfl) (fun y6 hy6 => ?_)
              refine rr_goto 39 pf_22_100 (by decide) ?_
              obtain rfl : y6 = (m : Int) - 1 := by omega
              rw [htk, sp_tell_snoc, show sp_hold x kd (M0 (cb + 10)) = none from by unfold sp_hold; rw [if_neg (fun q => ht1 q.2)]]
              exact ih M3 _ (by omega) qM3.1 qM3.2.1 hE4
            · exfalso; omega
    · have hkn := hke
      refine rr_iload_n pf_22_39 rfl ?_
      refine rr_if_lt 103 pf_22_40 (by decide) (by simp only [rg, rl] at *; omega) (fun c1 => ?_) (fun c1 => ?_)
      · exfalso; omega
      · refine rr_aload_n pf_22_43 rfl ?_
        refine rr_iload_n pf_22_44 rfl ?_
        refine rr_cV1 pf_22_45 po_22 pc_0_143 (tx_s0 hT) po_24 (by decide) rfl (ct_Text_kindOf (c := m) (by omega) hW hF hG hT (by omega)) ?_
        rw [hm3, hxk]
        refine rr_iload_n pf_22_48 rfl ?_
        refine rr_icmp_ne 97 pf_22_49 (by decide) (by simp only [rg, rl] at *; omega) hkd (fun c2 => ?_) (fun c2 => ?_)
        · refine rr_iinc pf_22_97 rfl (fun y => [.ref cb, .int (iI (kd)), .ref t, .int (iI (y)), v4]) (fun _ => rfl) (fun y3 hy3 => ?_)
          refine rr_goto 39 pf_22_100 (by decide) ?_
          obtain rfl : y3 = (m : Int) - 1 := by omega
          rw [htk, sp_tell_snoc, show sp_hold x kd (M0 (cb + 10)) = none from by unfold sp_hold; rw [if_neg (fun q => hkn q.1)]]
          exact ih M _ (by omega) hF hG hE
        · exfalso; omega
