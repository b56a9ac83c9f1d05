/-! the reference: steps -/
def r9 (M M2 : Nat → Nat → Int) : Prop := ∀ j, 109 ≤ j → M2 230 j = M 230 j
theorem r9_rf (M : Nat → Nat → Int) : r9 M M := fun _ _ => rfl
theorem r9_tr {M M2 M3 : Nat → Nat → Int} (h1 : r9 M M2) (h2 : r9 M2 M3) : r9 M M3 := fun j hj => (h2 j hj).trans (h1 j hj)
theorem r9_eq {M M2 : Nat → Nat → Int} (h : M2 230 = M 230) : r9 M M2 := fun j _ => by rw [h]
theorem r9_up {M M2 M3 : Nat → Nat → Int} {i : Nat} {x : Int} (h : r9 M M2) (e : M3 = px_up M2 230 i x) (hi : i < 109) : r9 M M3 := fun j hj => by rw [e, up_ne (by omega)]; exact h j hj
theorem rr_of {M : Nat → Nat → Int} {ρ : Nat → Int} (h : rr_ M = ρ) {i : Nat} (hi : i < 109) : M 230 i = ρ i := by rw [rr_at (M := M) hi, h]
theorem rr_w {M M2 : Nat → Nat → Int} {ρ : Nat → Int} (h : rr_ M = ρ) {i : Nat} {x : Int} (e : M2 = px_up M 230 i x) (hi : i < 109) : rr_ M2 = rup ρ i x := by rw [e, rr_up hi, h]
/-- undone steps, the oldest first: a kind, and the row ahead -/
abbrev sp_T : Type := List (Int × (Nat → Int))
def tlR (M : Nat → Nat → Int) (tl : sp_T) : Prop := M 228 8 = ((tl.length : Nat) : Int) ∧ tl.length ≤ 16 ∧ ∀ k, k < tl.length → ∃ e, tl[k]? = some e ∧ M 234 k = e.1 ∧ ∀ i, i < 64 → M 233 (i + 64 * k) = e.2 (5 + i)
def tpush (tl : sp_T) (e : Int × (Nat → Int)) : sp_T := tl.drop (tl.length - 15) ++ [e]
theorem tpush_len {tl : sp_T} {e : Int × (Nat → Int)} (h : tl.length ≤ 16) : (tpush tl e).length = (if tl.length = 16 then 15 else tl.length) + 1 := by
  unfold tpush
  rw [List.length_append, List.length_drop]
  simp only [List.length_cons, List.length_nil]
  split <;> omega
theorem tlR_eq {M M2 : Nat → Nat → Int} {tl : sp_T} (h : tlR M tl) (h8 : M2 228 8 = M 228 8) (h3 : M2 233 = M 233) (h4 : M2 234 = M 234) : tlR M2 tl := by
  unfold tlR
  rw [h8, h3, h4]
  exact h
/-- what steps leave of the reference's fields -/
def rs (M M2 : Nat → Nat → Int) : Prop := ∀ j, j ≠ 8 → (j < 34 ∨ (34 < j ∧ j < 38) ∨ 40 < j) → M2 228 j = M 228 j
theorem rs_rq {M M2 : Nat → Nat → Int} (h : rq M M2) : rs M M2 := fun j _ hj => h j hj
theorem rs_tr {M M2 M3 : Nat → Nat → Int} (h1 : rs M M2) (h2 : rs M2 M3) : rs M M3 := fun j h hj => (h2 j h hj).trans (h1 j h hj)
theorem lp_R_onSeat_4 {xs : Nat → Int} {L d : Nat} {sh : List (Nat × Nat)}  (hW : px_W0 <+: sh) {M0 : Nat → Nat → Int}  (hρ : sp_ok (rr_ M0)) {s : Int} (hs : rg s)  {Q : Option Value → px_H → Prop} (kx : ∀ (its : Int) (l : Nat) (M : Nat → Nat → Int), px_qk sh [] M0 M → (-1 ≤ its ∧ its < 6) → (its = -1 ↔ ¬ sp_taken (rr_ M0) s (rr_ M0 1).toNat = true) → px_R xs L d 205 (39, [.ref 228, .int (iI (s)), .int (iI (its)), .int (iI (((l : Nat) : Int)))], [], (sh, M)) Q)  : ∀ (m : Nat) (its : Int) (l : Nat) (M : Nat → Nat → Int), 6 - l = m → px_qk sh [] M0 M → ((l : Int) ≤ rr_ M0 1) → (-1 ≤ its ∧ its < 6) → (its = -1 ↔ ¬ sp_taken (rr_ M0) s l = true) → px_R xs L d 205 (4, [.ref 228, .int (iI (s)), .int (iI (its)), .int (iI (((l : Nat) : Int)))], [], (sh, M)) Q := by
  intro m
  induction m using Nat.strongRecOn with
  | _ m ih =>
    intro its l M hm hq hl hb hi
    have h1 := hρ.2.1
    refine rr_iload_n pf_205_4 rfl ?_
    refine rr_aload_n pf_205_5 rfl ?_
    refine rr_getR pf_205_6 po_205 pg_9_13 rfl (ws_228 hW) (by decide) (wr_228_3 hq.1) ?_
    refine rr_iconst pf_205_9 ?_
    refine vr_iald (j := 1) hq pf_205_10 (ws_230 hW) (by omega) (by omega) (by decide) (fun x1 hx1 rx1 => ?_)
    rw [hq.2.2 230 (by decide)] at hx1
    rw [rr_at (M := M0) (i := 1) (by omega)] at hx1
    refine rr_icmp_ge 39 pf_205_11 (by decide) (by unfold rg; omega) rx1 (fun c2 => ?_) (fun c2 => ?_)
    · exact kx its l M hq (by omega) (by rw [show (rr_ M0 1).toNat = l by omega]; exact hi)
    · refine rr_aload_n pf_205_14 rfl ?_
      refine rr_getR pf_205_15 po_205 pg_9_13 rfl (ws_228 hW) (by decide) (wr_228_3 hq.1) ?_
      refine rr_bipush pf_205_18 (by decide) ?_
      refine rr_iload_n pf_205_20 rfl ?_
      refine rr_iadd pf_205_21 ?_
      refine vr_iald (j := 57 + l) hq pf_205_22 (ws_230 hW) (by omega) (by omega) (by decide) (fun x3 hx3 rx3 => ?_)
      rw [hq.2.2 230 (by decide)] at hx3
      rw [rr_at (M := M0) (i := 57 + l) (by omega)] at hx3
      refine rr_iload_n pf_205_23 rfl ?_
      refine rr_icmp_ne 31 pf_205_24 (by decide) rx3 hs (fun c4 => ?_) (fun c4 => ?_)
      · refine rr_iload_n pf_205_31 rfl ?_
        refine rr_istore_n pf_205_32 (fun y => [.ref 228, .int (iI (s)), .int (iI (y)), .int (iI (((l : Nat) : Int)))]) (Nat.le_of_ble_eq_true rfl) (fun _ => rfl) (fun y5 hy5 => ?_)
        refine rr_iinc pf_205_33 rfl (fun y => [.ref 228, .int (iI (s)), .int (iI (y5)), .int (iI (y))]) (fun _ => rfl) (fun y6 hy6 => ?_)
        refine rr_goto 4 pf_205_36 (by decide) ?_
        obtain ⟨n7, hn7, rfl⟩ : ∃ zz : Nat, zz = 1 + l ∧ y6 = ((zz : Nat) : Int) := ⟨1 + l, rfl, by omega⟩
        exact ih _ (by omega) y5 n7 M rfl hq (by omega) (by omega) (by
                      rw [show n7 = l + 1 by omega, sp_taken, Bool.or_eq_true, decide_eq_true_eq]; constructor
                      · intro z z2; rcases z2 with z2 | z2
                        · exact hi.mp (by omega) z2
                        · omega
                      · intro z; have := hi.mpr (fun z2 => z (Or.inl z2)); omega)
      · refine rr_iload_n pf_205_27 rfl ?_
        refine rr_goto 32 pf_205_28 (by decide) ?_
        refine rr_istore_n pf_205_32 (fun y => [.ref 228, .int (iI (s)), .int (iI (y)), .int (iI (((l : Nat) : Int)))]) (Nat.le_of_ble_eq_true rfl) (fun _ => rfl) (fun y8 hy8 => ?_)
        refine rr_iinc pf_205_33 rfl (fun y => [.ref 228, .int (iI (s)), .int (iI (y8)), .int (iI (y))]) (fun _ => rfl) (fun y9 hy9 => ?_)
        refine rr_goto 4 pf_205_36 (by decide) ?_
        obtain ⟨n10, hn10, rfl⟩ : ∃ zz : Nat, zz = 1 + l ∧ y9 = ((zz : Nat) : Int) := ⟨1 + l, rfl, by omega⟩
        exact ih _ (by omega) y8 n10 M rfl hq (by omega) (by omega) (by
                      rw [show n10 = l + 1 by omega, sp_taken, Bool.or_eq_true, decide_eq_true_eq]; constructor
                      · intro z; exfalso; omega
                      · intro z; exact absurd (Or.inr (by omega)) z)
theorem ct_R_onSeat {xs : Nat → Int} {L d : Nat} {sh : List (Nat × Nat)} {M0 : Nat → Nat → Int} (hd : 1 ≤ d) (hW : px_W0 <+: sh) (hF : px_Fx M0) (hG : px_RG sh M0)  (hρ : sp_ok (rr_ M0)) {s : Int} (hs : rg s) : ∃ v M, (px_qk sh [] M0 M ∧ ((v = -1 ↔ ¬ sp_taken (rr_ M0) s (rr_ M0 1).toNat = true)) ∧ (-1 ≤ v ∧ v < 6)) ∧ px_Cl xs L d 205 [.ref 228, .int (iI (s))] (sh, M0) (some (.int (iI v))) (sh, M) := by
  obtain ⟨d, rfl⟩ : ∃ e, d = e + 1 := ⟨d - 1, by omega⟩
  have q0 : px_qk sh [] M0 M0 := ⟨hF, hG, eo_rf⟩
  have h1 := hρ.2.1
  refine vc_i (Nat.le_of_ble_eq_true rfl) ?_
  show px_R xs L d 205 (0, [.ref 228, .int (iI (s)), px_jk, px_jk], [], (sh, M0)) (fun r h' => ∃ v M', r = some (.int (iI v)) ∧ h' = (sh, M') ∧ px_qk sh [] M0 M' ∧ (v = -1 ↔ ¬ sp_taken (rr_ M0) s (rr_ M0 1).toNat = true) ∧ (-1 ≤ v ∧ v < 6))
  refine rr_iconst pf_205_0 ?_
  refine rr_istore_n pf_205_1 (fun y => [.ref 228, .int (iI (s)), .int (iI (y)), px_jk]) (Nat.le_of_ble_eq_true rfl) (fun _ => rfl) (fun y1 hy1 => ?_)
  refine rr_iconst pf_205_2 ?_
  refine rr_istore_n pf_205_3 (fun y => [.ref 228, .int (iI (s)), .int (iI (y1)), .int (iI (y))]) (Nat.le_of_ble_eq_true rfl) (fun _ => rfl) (fun y2 hy2 => ?_)
  obtain ⟨n3, hn3, rfl⟩ : ∃ zz : Nat, zz = 0 ∧ y2 = ((zz : Nat) : Int) := ⟨0, rfl, by omega⟩
  refine lp_R_onSeat_4 (xs := xs) (L := L) (d := d)  hW hρ hs (fun its_4 l_5  M6 q7 xb_M6 xi_M6 => ?_) _ y1 n3 M0 rfl q0 (by omega) (by omega) (by rw [show n3 = 0 by omega]; simp [sp_taken]; omega)
  refine rr_iload_n pf_205_39 rfl ?_
  refine rr_iret pf_205_40 pt_205 ⟨_, M6, rfl, rfl, q7, (xi_M6), (xb_M6)⟩
theorem tlR_push {M0 M : Nat → Nat → Int} {tl : sp_T} {kd : Int} (h : tlR M0 tl) {s : Nat} (hs : s = tl.length - 15) (h8 : M 228 8 = ((tl.length - s + 1 : Nat) : Int)) (h3 : ∀ k i, k < tl.length - s → i < 64 → M 233 (i + 64 * k) = M0 233 (i + 64 * (k + s))) (h4 : ∀ k, k < tl.length - s → M 234 k = M0 234 (k + s)) (h3b : ∀ i, i < 64 → M 233 (i + 64 * (tl.length - s)) = M0 230 (5 + i)) (h4b : M 234 (tl.length - s) = kd) : tlR M (tpush tl (kd, rr_ M0)) := by
  obtain ⟨a, b, c⟩ := h
  have hl : (tpush tl (kd, rr_ M0)).length = tl.length - s + 1 := by
    rw [tpush_len b]; split <;> omega
  refine ⟨by rw [h8, hl], by rw [hl]; omega, ?_⟩
  intro k hk
  rw [hl] at hk
  by_cases e : k = tl.length - s
  · subst e
    refine ⟨(kd, rr_ M0), ?_, h4b, fun i hi => by rw [h3b i hi]; exact rr_at (by omega)⟩
    unfold tpush
    rw [← hs, List.getElem?_append_right (by rw [List.length_drop]; omega), List.length_drop]
    simp
  · obtain ⟨e2, p1, p2, p3⟩ := c (k + s) (by omega)
    refine ⟨e2, ?_, by rw [h4 k (by omega)]; exact p2, fun i hi => by rw [h3 k i (by omega) hi]; exact p3 i hi⟩
    unfold tpush
    rw [← hs, List.getElem?_append_left (by rw [List.length_drop]; omega), List.getElem?_drop, Nat.add_comm]
    exact p1
theorem lp_R_remember_41 {xs : Nat → Int} {L d : Nat} {sh : List (Nat × Nat)} (hd : 1 ≤ d) (hW : px_W0 <+: sh) {M0 : Nat → Nat → Int}  {kd : Int} (hkd : rg kd) {Ma : Nat → Nat → Int} {Q : Option Value → px_H → Prop} (kx : ∀ (i : Nat) (M : Nat → Nat → Int), px_qk sh [228, 233, 234] M0 M → (∀ j, M 234 j = if j < 15 then M0 234 (j + 1) else M0 234 j) → (M 233 = Ma 233 ∧ M 228 = M0 228) → px_R xs L d 250 (67, [.ref 228, .int (iI (kd)), .int (iI (((i : Nat) : Int)))], [], (sh, M)) Q)  : ∀ (m : Nat) (i : Nat) (M : Nat → Nat → Int), 15 - i = m → px_qk sh [228, 233, 234] M0 M → (i ≤ 15) → (∀ j, M 234 j = if j < i then M0 234 (j + 1) else M0 234 j) → (M 233 = Ma 233 ∧ M 228 = M0 228) → px_R xs L d 250 (41, [.ref 228, .int (iI (kd)), .int (iI (((i : Nat) : Int)))], [], (sh, M)) Q := by
  intro m
  induction m using Nat.strongRecOn with
  | _ m ih =>
    intro i M hm hq hi h1 h2
    refine rr_iload_n pf_250_41 rfl ?_
    refine rr_bipush pf_250_42 (by decide) ?_
    refine rr_icmp_ge 67 pf_250_44 (by decide) (by unfold rg; omega) (by unfold rg; omega) (fun c1 => ?_) (fun c1 => ?_)
    · exact kx i M hq (by rw [show i = 15 by omega] at h1; exact h1) (h2)
    · refine rr_aload_n pf_250_47 rfl ?_
      refine rr_getR pf_250_48 po_250 pg_9_26 rfl (ws_228 hW) (by decide) (wr_228_7 hq.1) ?_
      refine rr_iload_n pf_250_51 rfl ?_
      refine rr_aload_n pf_250_52 rfl ?_
      refine rr_getR pf_250_53 po_250 pg_9_26 rfl (ws_228 hW) (by decide) (wr_228_7 hq.1) ?_
      refine rr_iload_n pf_250_56 rfl ?_
      refine rr_iconst pf_250_57 ?_
      refine rr_iadd pf_250_58 ?_
      refine vr_iald (j := 1 + i) hq pf_250_59 (ws_234 hW) (by omega) (by omega) (by decide) (fun x2 hx2 rx2 => ?_)
      have hx9 := hx2
      refine vr_iast (j := i) hW hq pf_250_60 (ws_234 hW) (by omega) (by omega) (by decide) rx2 (by decide) (fun M3 eM3 q4 => ?_)
      refine rr_iinc pf_250_61 rfl (fun y => [.ref 228, .int (iI (kd)), .int (iI (y))]) (fun _ => rfl) (fun y5 hy5 => ?_)
      refine rr_goto 41 pf_250_64 (by decide) ?_
      obtain ⟨n6, hn6, rfl⟩ : ∃ zz : Nat, zz = 1 + i ∧ y5 = ((zz : Nat) : Int) := ⟨1 + i, rfl, by omega⟩
      exact ih _ (by omega) n6 M3 rfl q4 (by omega) (by
                  intro j; rw [eM3, ask_up]; by_cases hj : j = i
                  · rw [if_pos hj, if_pos (by omega), hx9, h1, if_neg (by omega), hj, Nat.add_comm]
                  · rw [if_neg hj, h1]; by_cases hc : j < i
                    · rw [if_pos hc, if_pos (by omega)]
                    · rw [if_neg hc, if_neg (by omega)]) (by exact ⟨by rw [eM3, ask_ne (by decide)]; exact h2.1, by rw [eM3, ask_ne (by decide)]; exact h2.2⟩)
theorem lp_R_remember_11 {xs : Nat → Int} {L d : Nat} {sh : List (Nat × Nat)} (hd : 1 ≤ d) (hW : px_W0 <+: sh) {M0 : Nat → Nat → Int}  {kd : Int} (hkd : rg kd)  {Q : Option Value → px_H → Prop} (kx : ∀ (i : Nat) (M : Nat → Nat → Int), px_qk sh [228, 233, 234] M0 M → (∀ j, M 233 j = if j < 960 then M0 233 (j + 64) else M0 233 j) → (M 234 = M0 234 ∧ M 228 = M0 228) → px_R xs L d 250 (39, [.ref 228, .int (iI (kd)), .int (iI (((i : Nat) : Int)))], [], (sh, M)) Q)  : ∀ (m : Nat) (i : Nat) (M : Nat → Nat → Int), 960 - i = m → px_qk sh [228, 233, 234] M0 M → (i ≤ 960) → (∀ j, M 233 j = if j < i then M0 233 (j + 64) else M0 233 j) → (M 234 = M0 234 ∧ M 228 = M0 228) → px_R xs L d 250 (11, [.ref 228, .int (iI (kd)), .int (iI (((i : Nat) : Int)))], [], (sh, M)) Q := by
  intro m
  induction m using Nat.strongRecOn with
  | _ m ih =>
    intro i M hm hq hi h1 h2
    refine rr_iload_n pf_250_11 rfl ?_
    refine rr_sipush pf_250_12 (by decide) ?_
    refine rr_icmp_ge 39 pf_250_15 (by decide) (by unfold rg; omega) (by unfold rg; omega) (fun c1 => ?_) (fun c1 => ?_)
    · exact kx i M hq (by rw [show i = 960 by omega] at h1; exact h1) (h2)
    · refine rr_aload_n pf_250_18 rfl ?_
      refine rr_getR pf_250_19 po_250 pg_9_23 rfl (ws_228 hW) (by decide) (wr_228_6 hq.1) ?_
      refine rr_iload_n pf_250_22 rfl ?_
      refine rr_aload_n pf_250_23 rfl ?_
      refine rr_getR pf_250_24 po_250 pg_9_23 rfl (ws_228 hW) (by decide) (wr_228_6 hq.1) ?_
      refine rr_iload_n pf_250_27 rfl ?_
      refine rr_bipush pf_250_28 (by decide) ?_
      refine rr_iadd pf_250_30 ?_
      refine vr_iald (j := 64 + i) hq pf_250_31 (ws_233 hW) (by omega) (by omega) (by decide) (fun x2 hx2 rx2 => ?_)
      have hx9 := hx2
      refine vr_iast (j := i) hW hq pf_250_32 (ws_233 hW) (by omega) (by omega) (by decide) rx2 (by decide) (fun M3 eM3 q4 => ?_)
      refine rr_iinc pf_250_33 rfl (fun y => [.ref 228, .int (iI (kd)), .int (iI (y))]) (fun _ => rfl) (fun y5 hy5 => ?_)
      refine rr_goto 11 pf_250_36 (by decide) ?_
      obtain ⟨n6, hn6, rfl⟩ : ∃ zz : Nat, zz = 1 + i ∧ y5 = ((zz : Nat) : Int) := ⟨1 + i, rfl, by omega⟩
      exact ih _ (by omega) n6 M3 rfl q4 (by omega) (by
                  intro j; rw [eM3, ask_up]; by_cases hj : j = i
                  · rw [if_pos hj, if_pos (by omega), hx9, h1, if_neg (by omega), hj, Nat.add_comm]
                  · rw [if_neg hj, h1]; by_cases hc : j < i
                    · rw [if_pos hc, if_pos (by omega)]
                    · rw [if_neg hc, if_neg (by omega)]) (by exact ⟨by rw [eM3, ask_ne (by decide)]; exact h2.1, by rw [eM3, ask_ne (by decide)]; exact h2.2⟩)
theorem ct_R_remember {xs : Nat → Int} {L d : Nat} {sh : List (Nat × Nat)} {M0 : Nat → Nat → Int} (hd : 2 ≤ d) (hW : px_W0 <+: sh) (hF : px_Fx M0) (hG : px_RG sh M0)  {tl : sp_T} (htl : tlR M0 tl) {kd : Int} (hkd : rg kd) : ∃ M, (px_qk sh [228, 233, 234] M0 M ∧ (tlR M (tpush tl (kd, rr_ M0))) ∧ (rs M0 M)) ∧ px_Cl xs L d 250 [.ref 228, .int (iI (kd))] (sh, M0) (none) (sh, M) := by
  obtain ⟨d, rfl⟩ : ∃ e, d = e + 1 := ⟨d - 1, by omega⟩
  have q0 : px_qk sh [228, 233, 234] M0 M0 := ⟨hF, hG, eo_rf⟩
  have h8 := htl.1
  have h16 := htl.2.1
  refine vc_n (Nat.le_of_ble_eq_true rfl) ?_
  show px_R xs L d 250 (0, [.ref 228, .int (iI (kd)), px_jk], [], (sh, M0)) (fun r h' => r = none ∧ ∃ M', h' = (sh, M') ∧ px_qk sh [228, 233, 234] M0 M' ∧ tlR M' (tpush tl (kd, rr_ M0)) ∧ rs M0 M')
  refine rr_aload_n pf_250_0 rfl ?_
  refine vr_getI q0 pf_250_1 po_250 pg_9_183 rfl (ws_228 hW) (by decide) (fun x1 hx1 rx1 => ?_)
  rw [h8] at hx1
  refine rr_bipush pf_250_4 (by decide) ?_
  refine rr_icmp_ne 77 pf_250_6 (by decide) rx1 (by unfold rg; omega) (fun c2 => ?_) (fun c2 => ?_)
  · refine rr_aload_n pf_250_77 rfl ?_
    refine rr_aload_n pf_250_78 rfl ?_
    refine vr_getI q0 pf_250_79 po_250 pg_9_183 rfl (ws_228 hW) (by decide) (fun x3 hx3 rx3 => ?_)
    rw [h8] at hx3
    obtain ⟨M4, ⟨kq5, ka_M4⟩, hcM4⟩ := ct_R_keepAll (xs := xs) (L := L) (d := d) (k := (tl.length)) (by omega) hW q0.1 q0.2.1 (by omega)
    rw [show ((tl.length : Nat) : Int) = x3 by omega] at hcM4
    have q5 := qk_trm q0 kq5 (by decide)
    refine rr_cV1 pf_250_82 po_250 pc_9_190 (ws_228 hW) po_251 (by decide) rfl hcM4 ?_
    
    refine rr_aload_n pf_250_85 rfl ?_
    refine rr_getR pf_250_86 po_250 pg_9_26 rfl (ws_228 hW) (by decide) (wr_228_7 q5.1) ?_
    refine rr_aload_n pf_250_89 rfl ?_
    refine vr_getI q5 pf_250_90 po_250 pg_9_183 rfl (ws_228 hW) (by decide) (fun x6 hx6 rx6 => ?_)
    rw [kq5.2.2 228 (by decide), h8] at hx6
    refine rr_iload_n pf_250_93 rfl ?_
    refine vr_iast (j := tl.length) hW q5 pf_250_94 (ws_234 hW) (by omega) (by omega) (by decide) hkd (by decide) (fun M7 eM7 q8 => ?_)
    refine rr_aload_n pf_250_95 rfl ?_
    refine rr_dup pf_250_96 rfl ?_
    refine vr_getI q8 pf_250_97 po_250 pg_9_183 rfl (ws_228 hW) (by decide) (fun x9 hx9 rx9 => ?_)
    rw [eM7, ask_ne (by decide), kq5.2.2 228 (by decide), h8] at hx9
    refine rr_iconst pf_250_100 ?_
    refine rr_iadd pf_250_101 ?_
    refine vr_putI hW q8 pf_250_102 po_250 pg_9_183 (Or.inl rfl) rfl (ws_228 hW) (by decide) (by unfold rg; omega) (by decide) (fun M10 eM10 q11 => ?_)
    refine rr_vret pf_250_105 pt_250 ⟨rfl, M10, rfl, q11, tlR_push htl (s := 0) (by omega) (by rw [eM10, up_s]; omega) (fun k i hk hi => by rw [eM10, ask_ne (by decide), eM7, ask_ne (by decide), ka_M4, if_neg (by omega)]; rfl) (fun k hk => by rw [eM10, ask_ne (by decide), eM7, up_ne (by omega), (kq5.2.2 234 (by decide))]; rfl) (fun i hi => by rw [eM10, ask_ne (by decide), eM7, ask_ne (by decide), ka_M4, if_pos (by omega)]; congr 1; omega) (by rw [eM10, ask_ne (by decide), eM7, show tl.length - 0 = tl.length by omega, up_s]), fun j h8 hj => by rw [eM10, up_ne h8, eM7, ask_ne (by decide), (kq5.2.2 228 (by decide))]⟩
  · refine rr_iconst pf_250_9 ?_
    refine rr_istore_n pf_250_10 (fun y => [.ref 228, .int (iI (kd)), .int (iI (y))]) (Nat.le_of_ble_eq_true rfl) (fun _ => rfl) (fun y12 hy12 => ?_)
    obtain ⟨n13, hn13, rfl⟩ : ∃ zz : Nat, zz = 0 ∧ y12 = ((zz : Nat) : Int) := ⟨0, rfl, by omega⟩
    refine lp_R_remember_11 (xs := xs) (L := L) (d := d) (by omega) hW hkd (fun i_14  M15 q16 x1_M15 x2_M15 => ?_) _ n13 M0 rfl q0 (by omega) (by intro j; rw [if_neg (by omega)]) (⟨rfl, rfl⟩)
    refine rr_iconst pf_250_39 ?_
    refine rr_istore_n pf_250_40 (fun y => [.ref 228, .int (iI (kd)), .int (iI (y))]) (Nat.le_of_ble_eq_true rfl) (fun _ => rfl) (fun y17 hy17 => ?_)
    obtain ⟨n18, hn18, rfl⟩ : ∃ zz : Nat, zz = 0 ∧ y17 = ((zz : Nat) : Int) := ⟨0, rfl, by omega⟩
    refine lp_R_remember_41 (xs := xs) (L := L) (d := d) (by omega) hW hkd (fun i_19  M20 q21 x1b_M20 x2b_M20 => ?_) _ n18 M15 rfl q16 (by omega) (by intro j; rw [if_neg (by omega), x2_M15.1]) (⟨rfl, x2_M15.2⟩)
    refine rr_aload_n pf_250_67 rfl ?_
    refine rr_dup pf_250_68 rfl ?_
    refine vr_getI q21 pf_250_69 po_250 pg_9_183 rfl (ws_228 hW) (by decide) (fun x22 hx22 rx22 => ?_)
    rw [x2b_M20.2, h8] at hx22
    refine rr_iconst pf_250_72 ?_
    refine rr_isub pf_250_73 ?_
    refine vr_putI hW q21 pf_250_74 po_250 pg_9_183 (Or.inl rfl) rfl (ws_228 hW) (by decide) (by unfold rg; omega) (by decide) (fun M23 eM23 q24 => ?_)
    refine rr_aload_n pf_250_77 rfl ?_
    refine rr_aload_n pf_250_78 rfl ?_
    refine vr_getI q24 pf_250_79 po_250 pg_9_183 rfl (ws_228 hW) (by decide) (fun x25 hx25 rx25 => ?_)
    rw [eM23, up_s] at hx25
    obtain ⟨M26, ⟨kq27, ka_M26⟩, hcM26⟩ := ct_R_keepAll (xs := xs) (L := L) (d := d) (k := 15) (by omega) hW q24.1 q24.2.1 (by omega)
    rw [show ((15 : Nat) : Int) = x25 by omega] at hcM26
    have q27 := qk_trm q24 kq27 (by decide)
    refine rr_cV1 pf_250_82 po_250 pc_9_190 (ws_228 hW) po_251 (by decide) rfl hcM26 ?_
    
    refine rr_aload_n pf_250_85 rfl ?_
    refine rr_getR pf_250_86 po_250 pg_9_26 rfl (ws_228 hW) (by decide) (wr_228_7 q27.1) ?_
    refine rr_aload_n pf_250_89 rfl ?_
    refine vr_getI q27 pf_250_90 po_250 pg_9_183 rfl (ws_228 hW) (by decide) (fun x28 hx28 rx28 => ?_)
    rw [kq27.2.2 228 (by decide), eM23, up_s] at hx28
    refine rr_iload_n pf_250_93 rfl ?_
    refine vr_iast (j := 15) hW q27 pf_250_94 (ws_234 hW) (by omega) (by omega) (by decide) hkd (by decide) (fun M29 eM29 q30 => ?_)
    refine rr_aload_n pf_250_95 rfl ?_
    refine rr_dup pf_250_96 rfl ?_
    refine vr_getI q30 pf_250_97 po_250 pg_9_183 rfl (ws_228 hW) (by decide) (fun x31 hx31 rx31 => ?_)
    rw [eM29, ask_ne (by decide), kq27.2.2 228 (by decide), eM23, up_s] at hx31
    refine rr_iconst pf_250_100 ?_
    refine rr_iadd pf_250_101 ?_
    refine vr_putI hW q30 pf_250_102 po_250 pg_9_183 (Or.inl rfl) rfl (ws_228 hW) (by decide) (by unfold rg; omega) (by decide) (fun M32 eM32 q33 => ?_)
    refine rr_vret pf_250_105 pt_250 ⟨rfl, M32, rfl, q33, tlR_push htl (s := 1) (by omega) (by rw [eM32, up_s]; omega) (fun k i hk hi => by rw [eM32, ask_ne (by decide), eM29, ask_ne (by decide), ka_M26, if_neg (by omega), eM23, ask_ne (by decide), x2b_M20.1, x1_M15, if_pos (by omega), show i + 64 * k + 64 = i + 64 * (k + 1) by omega]) (fun k hk => by rw [eM32, ask_ne (by decide), eM29, up_ne (by omega), (kq27.2.2 234 (by decide)), eM23, ask_ne (by decide), x1b_M20, if_pos (by omega)]) (fun i hi => by rw [eM32, ask_ne (by decide), eM29, ask_ne (by decide), ka_M26, if_pos (by omega), show 5 + (i + 64 * (tl.length - 1) - 64 * 15) = 5 + i by omega, q24.2.2 230 (by decide)]) (by rw [eM32, ask_ne (by decide), eM29, show tl.length - 1 = 15 by omega, up_s]), fun j h8 hj => by rw [eM32, up_ne h8, eM29, ask_ne (by decide), (kq27.2.2 228 (by decide)), eM23, up_ne h8, x2b_M20.2]⟩
