/-! the class's orders: a clause after the stop -/
theorem ct_Runner_runClauseX {xs : Nat → Int} {L d : Nat} {sh : List (Nat × Nat)} {M0 : Nat → Nat → Int} (hd : 2 ≤ d) (hW : px_W0 <+: sh) (hF : px_Fx M0) (hG : px_RG sh M0)  (hst : M0 98 0 ≠ -1) {c : Nat} (hc12 : c < 12) {x : od_C} {ab : Int} (hx : co_cl (M0 202) (M0 203) (M0 204) ab c x) : ∃ M, (px_qk sh [] M0 M) ∧ px_Cl xs L d 96 [.ref 98, .ref 201, .int (iI (((c : Nat) : Int)))] (sh, M0) (none) (sh, M) := by
  obtain ⟨d, rfl⟩ : ∃ e, d = e + 1 := ⟨d - 1, by omega⟩
  have q0 : px_qk sh [] M0 M0 := ⟨hF, hG, eo_rf⟩
  refine vc_n (Nat.le_of_ble_eq_true rfl) ?_
  show px_R xs L d 96 (0, [.ref 98, .ref 201, .int (iI (((c : Nat) : Int))), px_jk, px_jk, px_jk, px_jk, px_jk], [], (sh, M0)) (fun r h' => r = none ∧ ∃ M', h' = (sh, M') ∧ px_qk sh [] M0 M')
  have hx1 := hx.1
  have hx20 := hx.2.2.2.1
  refine rr_aload_n pf_96_0 rfl ?_
  refine rr_iload_n pf_96_1 rfl ?_
  have hz1 := ct_Text_kindOf (xs := xs) (L := L) (d := d) (t := 201) (N := 400) (C := 12) (c := c) (by omega) hW q0.1 q0.2.1 (tx201 hW q0.1) hc12
  rw [show M0 (201 + 3) (c * 8 + 0) = x.1 from hx.2.1] at hz1
  refine rr_cV1 pf_96_2 po_96 pc_4_62 (ws_201 hW) po_24 (by decide) rfl hz1 ?_
  refine rr_istore_n pf_96_5 (fun y => [.ref 98, .ref 201, .int (iI (((c : Nat) : Int))), .int (iI (y)), px_jk, px_jk, px_jk, px_jk]) (Nat.le_of_ble_eq_true rfl) (fun _ => rfl) (fun y2 hy2 => ?_)
  refine rr_iconst pf_96_6 ?_
  refine rr_istore pf_96_7 (fun y => [.ref 98, .ref 201, .int (iI (((c : Nat) : Int))), .int (iI (y2)), .int (iI (y)), px_jk, px_jk, px_jk]) (Nat.le_of_ble_eq_true rfl) (fun _ => rfl) (fun y3 hy3 => ?_)
  refine rr_iload pf_96_9 rfl ?_
  refine rr_aload_n pf_96_11 rfl ?_
  refine rr_iload_n pf_96_12 rfl ?_
  have hz4 := ct_Text_oftenOf (xs := xs) (L := L) (d := d) (t := 201) (N := 400) (C := 12) (c := c) (by omega) hW q0.1 q0.2.1 (tx201 hW q0.1) hc12
  rw [show M0 (201 + 3) (c * 8 + 1) = ((x.2.1 : Nat) : Int) from (congrFun (q0.2.2 204 (by decide +kernel)) _).trans hx.2.2.1] at hz4
  refine rr_cV1 pf_96_13 po_96 pc_4_68 (ws_201 hW) po_97 (by decide) rfl hz4 ?_
  refine rr_icmp_ge 275 pf_96_16 (by decide) (by unfold rg; omega) (by unfold rg; omega) (fun c5 => ?_) (fun c5 => ?_)
  · refine rr_vret pf_96_275 pt_96 ⟨rfl, M0, rfl, q0⟩
  · refine rr_aload_n pf_96_19 rfl ?_
    refine vr_getI q0 pf_96_20 po_96 pg_4_9 rfl (ws_98 hW) (by decide) (fun x6 hx6 rx6 => ?_)
    refine rr_iconst pf_96_23 ?_
    refine rr_icmp_ne 275 pf_96_24 (by decide) rx6 (by unfold rg; omega) (fun c7 => ?_) (fun c7 => ?_)
    · refine rr_vret pf_96_275 pt_96 ⟨rfl, M0, rfl, q0⟩
    · exfalso; omega
/-- how far the orders have come: on, or stopped -/
def orJ (lw : List sp_C) (ol : List od_C) (ρ : Nat → Int) (tl : sp_T) (M : Nat → Nat → Int) (c : Nat) (y : od_S) : Prop := (M 98 0 = -1 ∧ (rc M 3 = y.1 ∧ ctlR M 27 y.2.1 ∧ M 98 7 = y.2.2.1 ∧ M 98 8 = y.2.2.2 ∧ odI ρ (20 * c) y) ∧ od_L lw ol 0 (ρ, tl, 0, -1) = od_L lw (ol.drop c) c y) ∨ (∃ i : Nat, M 98 0 = ((i : Nat) : Int) ∧ od_L lw ol 0 (ρ, tl, 0, -1) = .inr i)
theorem ct_run_any {xs : Nat → Int} {L d : Nat} {sh : List (Nat × Nat)} {M0 : Nat → Nat → Int} (hd : 10 ≤ d) (hW : px_W0 <+: sh) (hF : px_Fx M0) (hG : px_RG sh M0) {ρ : Nat → Int} {lw : List sp_C} (hlw : px_lw sh M0 3 lw) {tl : sp_T} {ol : List od_C} {c : Nat} {y : od_S} (hJ : orJ lw ol ρ tl M0 c y) (hc : c < ol.length) (h12 : ol.length ≤ 12) (hA : coA (M0 202) (M0 203)) {ab : Int} (hab : M0 201 5 = ab) (hab01 : ab = 0 ∨ ab = 1) (hx : ∀ c x, ol[c]? = some x → co_cl (M0 202) (M0 203) (M0 204) ab c x) : ∃ M, (px_qk sh rnA M0 M ∧ (∃ y2, orJ lw ol ρ tl M (c + 1) y2) ∧ fk 98 [0, 7, 8] M0 M) ∧ px_Cl xs L d 96 [.ref 98, .ref 201, .int (iI (((c : Nat) : Int)))] (sh, M0) (none) (sh, M) := by
  have hxc : ol[c]? = some ol[c] := List.getElem?_eq_getElem hc
  have hcx := hx c _ hxc
  rcases hJ with ⟨h1, ⟨h2, h3, h4, h5, h6⟩, h7⟩ | ⟨i, h1, h2⟩
  · obtain ⟨M, ⟨k1, ⟨y2, k2⟩, k3⟩, k4⟩ := ct_Runner_runClause (xs := xs) (L := L) (d := d) (ρ0 := ρ) (ρ := y.1) (lw := lw) (tl := y.2.1) (dn := y.2.2.1) (lt := y.2.2.2) (n := 20 * c) (c := c) (x := ol[c]) (ab := ab) hd hW hF hG h2 h6.1 hlw h3 h6 (by omega) h4 h5 h1 (by omega) hA hab hab01 hcx
    refine ⟨M, ⟨k1, ⟨y2, ?_⟩, k3⟩, k4⟩
    rw [List.drop_eq_getElem_cons hc, od_L] at h7
    rcases k2 with ⟨a1, ⟨a2, a3, a4, a5, a6⟩, a7⟩ | ⟨a1, a2⟩
    · left
      rw [show od_n lw ol[c] ol[c].2.1 y = some y2 from a7] at h7
      exact ⟨a1, ⟨a2, a3, a4, a5, by rw [show 20 * (c + 1) = 20 * c + 20 by omega]; exact a6⟩, h7⟩
    · right
      rw [show od_n lw ol[c] ol[c].2.1 y = none from a2] at h7
      exact ⟨c, a1, h7⟩
  · obtain ⟨M, k1, k4⟩ := ct_Runner_runClauseX (xs := xs) (L := L) (d := d) (c := c) (x := ol[c]) (ab := ab) (by omega) hW hF hG (by omega) (by omega) hcx
    have e98 : M 98 = M0 98 := k1.2.2 98 (by decide)
    exact ⟨M, ⟨qk_mono k1 (fun a ha => absurd ha (by decide +revert)), ⟨y, Or.inr ⟨i, by rw [e98]; exact h1, h2⟩⟩, fun j _ => by rw [e98]⟩, k4⟩
