/-! the class: its row as calls change it; the fields of a cell -/
section RU2
variable {M : Nat → Nat → Int} {cb : Nat}
theorem rc_upWH {i : Nat} (hi : i < 8) (x : Int) : rc (px_up M (cb + 5) i x) cb = rup (rc M cb) (69 + i) x := by
  funext j
  by_cases e : j = 69 + i
  · rw [e, rup_s, rc_wh hi, up_at, if_pos ⟨rfl, rfl⟩]
  · rw [rup_n e]
    unfold rc
    repeat' (refine ite_c (fun _ => ?_) (fun _ => ?_))
    all_goals first | rfl | rw [up_at, if_neg (by omega)]
theorem rc_upWF {i : Nat} (hi : i < 8) (x : Int) : rc (px_up M (cb + 6) i x) cb = rup (rc M cb) (77 + i) x := by
  funext j
  by_cases e : j = 77 + i
  · rw [e, rup_s, rc_wf hi, up_at, if_pos ⟨rfl, rfl⟩]
  · rw [rup_n e]
    unfold rc
    repeat' (refine ite_c (fun _ => ?_) (fun _ => ?_))
    all_goals first | rfl | rw [up_at, if_neg (by omega)]
theorem rc_upTO {i : Nat} (hi : i < 24) (x : Int) : rc (px_up M (cb + 7) i x) cb = rup (rc M cb) (85 + i) x := by
  funext j
  by_cases e : j = 85 + i
  · rw [e, rup_s, rc_told hi, up_at, if_pos ⟨rfl, rfl⟩]
  · rw [rup_n e]
    unfold rc
    repeat' (refine ite_c (fun _ => ?_) (fun _ => ?_))
    all_goals first | rfl | rw [up_at, if_neg (by omega)]
theorem rc_upF6 (x : Int) : rc (px_up M (cb) 6 x) cb = rup (rc M cb) (0) x := by
  funext j
  by_cases e : j = 0
  · rw [e, rup_s, rc_0, up_at, if_pos ⟨rfl, rfl⟩]
  · rw [rup_n e]
    unfold rc
    repeat' (refine ite_c (fun _ => ?_) (fun _ => ?_))
    all_goals first | rfl | rw [up_at, if_neg (by omega)]
theorem rc_upF7 (x : Int) : rc (px_up M (cb) 7 x) cb = rup (rc M cb) (1) x := by
  funext j
  by_cases e : j = 1
  · rw [e, rup_s, rc_1, up_at, if_pos ⟨rfl, rfl⟩]
  · rw [rup_n e]
    unfold rc
    repeat' (refine ite_c (fun _ => ?_) (fun _ => ?_))
    all_goals first | rfl | rw [up_at, if_neg (by omega)]
theorem rc_upF8 (x : Int) : rc (px_up M (cb) 8 x) cb = rup (rc M cb) (2) x := by
  funext j
  by_cases e : j = 2
  · rw [e, rup_s, rc_2, up_at, if_pos ⟨rfl, rfl⟩]
  · rw [rup_n e]
    unfold rc
    repeat' (refine ite_c (fun _ => ?_) (fun _ => ?_))
    all_goals first | rfl | rw [up_at, if_neg (by omega)]
theorem rc_upF9 (x : Int) : rc (px_up M (cb) 9 x) cb = rup (rc M cb) (3) x := by
  funext j
  by_cases e : j = 3
  · rw [e, rup_s, rc_3, up_at, if_pos ⟨rfl, rfl⟩]
  · rw [rup_n e]
    unfold rc
    repeat' (refine ite_c (fun _ => ?_) (fun _ => ?_))
    all_goals first | rfl | rw [up_at, if_neg (by omega)]
theorem rc_upF10 (x : Int) : rc (px_up M (cb) 10 x) cb = rup (rc M cb) (4) x := by
  funext j
  by_cases e : j = 4
  · rw [e, rup_s, rc_4, up_at, if_pos ⟨rfl, rfl⟩]
  · rw [rup_n e]
    unfold rc
    repeat' (refine ite_c (fun _ => ?_) (fun _ => ?_))
    all_goals first | rfl | rw [up_at, if_neg (by omega)]
theorem rc_upF11 (x : Int) : rc (px_up M (cb) 11 x) cb = rup (rc M cb) (6) x := by
  funext j
  by_cases e : j = 6
  · rw [e, rup_s, rc_6, up_at, if_pos ⟨rfl, rfl⟩]
  · rw [rup_n e]
    unfold rc
    repeat' (refine ite_c (fun _ => ?_) (fun _ => ?_))
    all_goals first | rfl | rw [up_at, if_neg (by omega)]
theorem rc_upF12 (x : Int) : rc (px_up M (cb) 12 x) cb = rup (rc M cb) (7) x := by
  funext j
  by_cases e : j = 7
  · rw [e, rup_s, rc_7, up_at, if_pos ⟨rfl, rfl⟩]
  · rw [rup_n e]
    unfold rc
    repeat' (refine ite_c (fun _ => ?_) (fun _ => ?_))
    all_goals first | rfl | rw [up_at, if_neg (by omega)]
end RU2
section R3
variable {M : Nat → Nat → Int}
theorem r3_f6 (x : Int) : rc (px_up M 3 6 x) 3 = rup (rc M 3) 0 x := rc_upF6 x
theorem r3_f7 (x : Int) : rc (px_up M 3 7 x) 3 = rup (rc M 3) 1 x := rc_upF7 x
theorem r3_f8 (x : Int) : rc (px_up M 3 8 x) 3 = rup (rc M 3) 2 x := rc_upF8 x
theorem r3_f9 (x : Int) : rc (px_up M 3 9 x) 3 = rup (rc M 3) 3 x := rc_upF9 x
theorem r3_f10 (x : Int) : rc (px_up M 3 10 x) 3 = rup (rc M 3) 4 x := rc_upF10 x
theorem r3_f11 (x : Int) : rc (px_up M 3 11 x) 3 = rup (rc M 3) 6 x := rc_upF11 x
theorem r3_f12 (x : Int) : rc (px_up M 3 12 x) 3 = rup (rc M 3) 7 x := rc_upF12 x
theorem r3_pul (x : Int) : rc (px_up M 4 3 x) 3 = rup (rc M 3) 8 x := rc_upPul (cb := 3) x
theorem r3_hour (x : Int) : rc (px_up M 4 4 x) 3 = rup (rc M 3) 5 x := rc_upHour (cb := 3) x
theorem r3_a5 {i : Nat} (hi : i < 48) {x : Int} : rc (px_up M 5 i x) 3 = rup (rc M 3) (9 + i) x := rc_upH (cb := 3) hi x
theorem r3_a6 {i : Nat} (hi : i < 6) {x : Int} : rc (px_up M 6 i x) 3 = rup (rc M 3) (63 + i) x := rc_upSpir (cb := 3) hi x
theorem r3_a7 {i : Nat} (hi : i < 6) {x : Int} : rc (px_up M 7 i x) 3 = rup (rc M 3) (57 + i) x := rc_upSeat (cb := 3) hi x
theorem r3_a8 {i : Nat} (hi : i < 8) {x : Int} : rc (px_up M 8 i x) 3 = rup (rc M 3) (69 + i) x := rc_upWH (cb := 3) hi x
theorem r3_a9 {i : Nat} (hi : i < 8) {x : Int} : rc (px_up M 9 i x) 3 = rup (rc M 3) (77 + i) x := rc_upWF (cb := 3) hi x
theorem r3_a10 {i : Nat} (hi : i < 24) {x : Int} : rc (px_up M 10 i x) 3 = rup (rc M 3) (85 + i) x := rc_upTO (cb := 3) hi x
theorem c3_5 {i : Nat} (hi : i < 48) : M 5 i = rc M 3 (9 + i) := (rc_hue (cb := 3) hi).symm
theorem c3_6 {i : Nat} (hi : i < 6) : M 6 i = rc M 3 (63 + i) := (rc_spir (cb := 3) hi).symm
theorem c3_7 {i : Nat} (hi : i < 6) : M 7 i = rc M 3 (57 + i) := (rc_seat (cb := 3) hi).symm
theorem c3_8 {i : Nat} (hi : i < 8) : M 8 i = rc M 3 (69 + i) := (rc_wh (cb := 3) hi).symm
theorem c3_9 {i : Nat} (hi : i < 8) : M 9 i = rc M 3 (77 + i) := (rc_wf (cb := 3) hi).symm
theorem c3_10 {i : Nat} (hi : i < 24) : M 10 i = rc M 3 (85 + i) := (rc_told (cb := 3) hi).symm
end R3
theorem px_ch3 : px_ch 3 := by unfold px_ch; decide
theorem px_tr27 : px_tr 27 := by unfold px_tr; decide
def fk (c : Nat) (X : List Nat) (M M2 : Nat → Nat → Int) : Prop := ∀ j, j ∉ X → M2 c j = M c j
theorem fk_rf (c : Nat) (X : List Nat) (M : Nat → Nat → Int) : fk c X M M := fun _ _ => rfl
theorem fk_ne {c : Nat} {X : List Nat} {M M2 M3 : Nat → Nat → Int} {a i : Nat} {x : Int} (h : fk c X M M2) (e : M3 = px_up M2 a i x) (ha : c ≠ a) : fk c X M M3 := fun j hj => by rw [e, ask_ne ha]; exact h j hj
theorem fk_up {c : Nat} {X : List Nat} {M M2 M3 : Nat → Nat → Int} {i : Nat} {x : Int} (h : fk c X M M2) (e : M3 = px_up M2 c i x) (ha : i ∈ X) : fk c X M M3 := fun j hj => by rw [e, up_ne (fun z => hj (by rw [z]; exact ha))]; exact h j hj
theorem fk_q {c : Nat} {X : List Nat} {sh : List (Nat × Nat)} {A : List Nat} {M M2 M3 : Nat → Nat → Int} (h : fk c X M M2) (q : px_qk sh A M2 M3) (ha : c ∉ A) : fk c X M M3 := fun j hj => by rw [q.2.2 c ha]; exact h j hj
theorem fk_tr {c : Nat} {X Y : List Nat} {M M2 M3 : Nat → Nat → Int} (h1 : fk c X M M2) (h2 : fk c Y M2 M3) (hs : ∀ j ∈ Y, j ∈ X) : fk c X M M3 := fun j hj => (h2 j (fun z => hj (hs j z))).trans (h1 j hj)
/-- the class's counts of refused calls: slot of a refusal -/
def rsl (v : Int) : Nat := if -3 ≤ v then (-v - 1).toNat else (-v - 2).toNat
def bmC (f : Nat → Int) (v : Int) : Nat → Int := if v < 0 then (fun j => if j = rsl v then f j + 1 else f j) else f
theorem ct_Church_isWordN {xs : Nat → Int} {L d : Nat} {sh : List (Nat × Nat)} {M : Nat → Nat → Int} (hd : 2 ≤ d) (hW : px_W0 <+: sh) (hF : px_Fx M) (hG : px_RG sh M) {cb : Nat} (hcb : px_ch cb) {v n : Int} (hv : rg v) (hn : M cb 6 = n) (h0 : 0 ≤ n) : px_Cl xs L d 17 [.ref cb, .int (iI (v))] (sh, M) (some (.int (iI (bI (0 ≤ v ∧ v ≤ n - 1))))) (sh, M) := by
  subst hn
  exact ct_Church_isWord hd hW hF hG hcb hv h0
theorem ct_Church_isListenerN {xs : Nat → Int} {L d : Nat} {sh : List (Nat × Nat)} {M : Nat → Nat → Int} (hd : 2 ≤ d) (hW : px_W0 <+: sh) (hF : px_Fx M) (hG : px_RG sh M) {cb : Nat} (hcb : px_ch cb) {v n : Int} (hv : rg v) (hn : M cb 7 = n) (h0 : 0 ≤ n) : px_Cl xs L d 40 [.ref cb, .int (iI (v))] (sh, M) (some (.int (iI (bI (0 ≤ v ∧ v ≤ n - 1))))) (sh, M) := by
  subst hn
  exact ct_Church_isListener hd hW hF hG hcb hv h0
theorem ct_Church_isLawN {xs : Nat → Int} {L d : Nat} {sh : List (Nat × Nat)} {M : Nat → Nat → Int} (hd : 2 ≤ d) (hW : px_W0 <+: sh) (hF : px_Fx M) (hG : px_RG sh M) {cb : Nat} (hcb : px_ch cb) {v n : Int} (hv : rg v) (hn : M cb 9 = n) (h0 : 0 ≤ n) : px_Cl xs L d 23 [.ref cb, .int (iI (v))] (sh, M) (some (.int (iI (bI (0 ≤ v ∧ v ≤ n - 1))))) (sh, M) := by
  subst hn
  exact ct_Church_isLaw hd hW hF hG hcb hv h0
theorem ct_S_accept {xs : Nat → Int} {L d : Nat} {sh : List (Nat × Nat)} {M0 : Nat → Nat → Int} (hd : 1 ≤ d) (hW : px_W0 <+: sh) (hF : px_Fx M0) (hG : px_RG sh M0)  {u : Int} (hu0 : rg u) : ∃ v M, (px_qk sh [0] M0 M ∧ (v = u) ∧ (M 0 13 = 0) ∧ (fk 0 [13] M0 M)) ∧ px_Cl xs L d 15 [.ref 0, .int (iI (u))] (sh, M0) (some (.int (iI v))) (sh, M) := by
  obtain ⟨d, rfl⟩ : ∃ e, d = e + 1 := ⟨d - 1, by omega⟩
  have q0 : px_qk sh [0] M0 M0 := ⟨hF, hG, eo_rf⟩
  refine vc_i (Nat.le_of_ble_eq_true rfl) ?_
  show px_R xs L d 15 (0, [.ref 0, .int (iI (u))], [], (sh, M0)) (fun r h' => ∃ v M', r = some (.int (iI v)) ∧ h' = (sh, M') ∧ px_qk sh [0] M0 M' ∧ v = u ∧ M' 0 13 = 0 ∧ fk 0 [13] M0 M')
  refine rr_aload_n pf_15_0 rfl ?_
  refine rr_iconst pf_15_1 ?_
  refine vr_putI hW q0 pf_15_2 po_15 pg_8_84 (Or.inl rfl) rfl (ws_0 hW) (by decide) (by unfold rg; omega) (by decide) (fun M1 eM1 q2 => ?_)
  have rq3 := fk_up (fk_rf 0 [13] M0) eM1 (by decide)
  refine rr_iload_n pf_15_5 rfl ?_
  refine rr_iret pf_15_6 pt_15 ⟨_, M1, rfl, rfl, q2, (by rfl), (by rw [eM1, up_s]), (rq3)⟩
theorem ct_S_refuse {xs : Nat → Int} {L d : Nat} {sh : List (Nat × Nat)} {M0 : Nat → Nat → Int} (hd : 2 ≤ d) (hW : px_W0 <+: sh) (hF : px_Fx M0) (hG : px_RG sh M0)  {u : Int} (hrfu : -6 ≤ u ∧ u < 0 ∧ u ≠ -4) (hrc : ∀ j, j < 5 → 0 ≤ M0 205 j ∧ M0 205 j ≤ 1000000000) : ∃ v M, (px_qk sh [0, 205] M0 M ∧ (v = u) ∧ (M 0 13 = u) ∧ (M 205 = bmC (M0 205) u) ∧ (fk 0 [13] M0 M)) ∧ px_Cl xs L d 13 [.ref 0, .int (iI (u))] (sh, M0) (some (.int (iI v))) (sh, M) := by
  obtain ⟨d, rfl⟩ : ∃ e, d = e + 1 := ⟨d - 1, by omega⟩
  have q0 : px_qk sh [0, 205] M0 M0 := ⟨hF, hG, eo_rf⟩
  refine vc_i (Nat.le_of_ble_eq_true rfl) ?_
  show px_R xs L d 13 (0, [.ref 0, .int (iI (u)), px_jk], [], (sh, M0)) (fun r h' => ∃ v M', r = some (.int (iI v)) ∧ h' = (sh, M') ∧ px_qk sh [0, 205] M0 M' ∧ v = u ∧ M' 0 13 = u ∧ M' 205 = bmC (M0 205) u ∧ fk 0 [13] M0 M')
  refine rr_aload_n pf_13_0 rfl ?_
  refine rr_iload_n pf_13_1 rfl ?_
  refine vr_putI hW q0 pf_13_2 po_13 pg_8_84 (Or.inl rfl) rfl (ws_0 hW) (by decide) (by unfold rg; omega) (by decide) (fun M1 eM1 q2 => ?_)
  have rq3 := fk_up (fk_rf 0 [13] M0) eM1 (by decide)
  refine rr_iload_n pf_13_5 rfl ?_
  refine rr_bipush pf_13_6 (by decide) ?_
  refine rr_icmp_lt 18 pf_13_8 (by decide) (by unfold rg; omega) (by unfold rg; omega) (fun c4 => ?_) (fun c4 => ?_)
  · refine rr_iload_n pf_13_18 rfl ?_
    refine rr_ineg pf_13_19 ?_
    refine rr_iconst pf_13_20 ?_
    refine rr_isub pf_13_21 ?_
    refine rr_istore_n pf_13_22 (fun y => [.ref 0, .int (iI (u)), .int (iI (y))]) (Nat.le_of_ble_eq_true rfl) (fun _ => rfl) (fun y5 hy5 => ?_)
    refine rr_iload_n pf_13_23 rfl ?_
    refine rr_iconst pf_13_24 ?_
    refine rr_iconst pf_13_25 ?_
    refine rr_cS3 pf_13_26 po_13 pc_8_95 (by decide) rfl (ct_S_within (by omega) (by unfold rg; omega) (by unfold rg; omega) (by unfold rg; omega)) ?_
    refine rr_ifb_eq 42 pf_13_29 (by decide) (fun c6 => ?_) (fun c6 => ?_)
    · exfalso; omega
    · refine rr_aload_n pf_13_32 rfl ?_
      refine rr_getR pf_13_33 po_13 pg_8_74 rfl (ws_0 hW) (by decide) (wr_0_10 q2.1) ?_
      refine rr_iload_n pf_13_36 rfl ?_
      refine rr_dup2 pf_13_37 rfl rfl ?_
      refine vr_iald (j := (y5).toNat) q2 pf_13_38 (ws_205 hW) (by omega) (by omega) (by decide) (fun x7 hx7 rx7 => ?_)
      have hbx := hrc (y5).toNat (by omega)
      rw [eM1, ask_ne (by decide)] at hx7
      refine rr_iconst pf_13_39 ?_
      refine rr_iadd pf_13_40 ?_
      refine vr_iast (j := (y5).toNat) hW q2 pf_13_41 (ws_205 hW) (by omega) (by omega) (by decide) (by unfold rg; omega) (by decide) (fun M8 eM8 q9 => ?_)
      have rq10 := fk_ne rq3 eM8 (by decide)
      refine rr_iload_n pf_13_42 rfl ?_
      refine rr_iret pf_13_43 pt_13 ⟨_, M8, rfl, rfl, q9, (by rfl), (by rw [eM8, ask_ne (by decide), eM1, up_s]), (by
                  have hk : rsl u = (y5).toNat := by unfold rsl; rw [if_neg (by omega)]; omega
                  rw [up_fup eM8]; unfold bmC fup; rw [if_pos (by omega), hk]; funext j; by_cases hj : j = (y5).toNat
                  · rw [if_pos hj, if_pos hj, hx7, hj]
                  · rw [if_neg hj, if_neg hj, eM1, ask_ne (by decide)]), (rq10)⟩
  · refine rr_iload_n pf_13_11 rfl ?_
    refine rr_ineg pf_13_12 ?_
    refine rr_iconst pf_13_13 ?_
    refine rr_isub pf_13_14 ?_
    refine rr_goto 22 pf_13_15 (by decide) ?_
    refine rr_istore_n pf_13_22 (fun y => [.ref 0, .int (iI (u)), .int (iI (y))]) (Nat.le_of_ble_eq_true rfl) (fun _ => rfl) (fun y11 hy11 => ?_)
    refine rr_iload_n pf_13_23 rfl ?_
    refine rr_iconst pf_13_24 ?_
    refine rr_iconst pf_13_25 ?_
    refine rr_cS3 pf_13_26 po_13 pc_8_95 (by decide) rfl (ct_S_within (by omega) (by unfold rg; omega) (by unfold rg; omega) (by unfold rg; omega)) ?_
    refine rr_ifb_eq 42 pf_13_29 (by decide) (fun c12 => ?_) (fun c12 => ?_)
    · exfalso; omega
    · refine rr_aload_n pf_13_32 rfl ?_
      refine rr_getR pf_13_33 po_13 pg_8_74 rfl (ws_0 hW) (by decide) (wr_0_10 q2.1) ?_
      refine rr_iload_n pf_13_36 rfl ?_
      refine rr_dup2 pf_13_37 rfl rfl ?_
      refine vr_iald (j := (y11).toNat) q2 pf_13_38 (ws_205 hW) (by omega) (by omega) (by decide) (fun x13 hx13 rx13 => ?_)
      have hbx := hrc (y11).toNat (by omega)
      rw [eM1, ask_ne (by decide)] at hx13
      refine rr_iconst pf_13_39 ?_
      refine rr_iadd pf_13_40 ?_
      refine vr_iast (j := (y11).toNat) hW q2 pf_13_41 (ws_205 hW) (by omega) (by omega) (by decide) (by unfold rg; omega) (by decide) (fun M14 eM14 q15 => ?_)
      have rq16 := fk_ne rq3 eM14 (by decide)
      refine rr_iload_n pf_13_42 rfl ?_
      refine rr_iret pf_13_43 pt_13 ⟨_, M14, rfl, rfl, q15, (by rfl), (by rw [eM14, ask_ne (by decide), eM1, up_s]), (by
                  have hk : rsl u = (y11).toNat := by unfold rsl; rw [if_pos (by omega)]; omega
                  rw [up_fup eM14]; unfold bmC fup; rw [if_pos (by omega), hk]; funext j; by_cases hj : j = (y11).toNat
                  · rw [if_pos hj, if_pos hj, hx13, hj]
                  · rw [if_neg hj, if_neg hj, eM1, ask_ne (by decide)]), (rq16)⟩
