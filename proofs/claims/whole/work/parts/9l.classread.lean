/-! the class's reader as functions over a state: place, parts, size, code, does it ask for black, fault -/
abbrev cS : Type := Nat × Nat × Nat × (Nat → Int) × (Nat → Int) × Int × Int
def cS.i (s : cS) : Nat := s.1
def cS.pa (s : cS) : Nat := s.2.1
def cS.sz (s : cS) : Nat := s.2.2.1
def cS.o (s : cS) : Nat → Int := s.2.2.2.1
def cS.a (s : cS) : Nat → Int := s.2.2.2.2.1
def cS.ab (s : cS) : Int := s.2.2.2.2.2.1
def cS.flt (s : cS) : Int := s.2.2.2.2.2.2
def CS (M : Nat → Nat → Int) (E : rdE) (cl : Nat) (s : cS) : Prop := clx M E.tn E.tb s.i ∧ M 200 4 = E.od ∧ (E.od = 0 ∨ E.od = 1) ∧ M 200 5 = ((s.pa : Nat) : Int) ∧ M 201 3 = ((s.sz : Nat) : Int) ∧ M 202 = s.o ∧ M 203 = s.a ∧ M 201 5 = s.ab ∧ M 200 1 = s.flt ∧ s.pa ≤ 50 ∧ s.sz ≤ 400 ∧ M 201 4 = ((cl : Nat) : Int) ∧ (s.ab = 0 ∨ s.ab = 1)
def cK (E : rdE) (s : cS) : Nat := tkK E.tn E.tb s.i
def cW (E : rdE) (s : cS) : Int := tkW E.tn E.tb s.i
def cnx (E : rdE) (s : cS) : cS := (tkE E.tn E.tb s.i, s.pa, s.sz, s.o, s.a, s.ab, s.flt)
def cfl (E : rdE) (s : cS) : cS := (s.i, s.pa, s.sz, s.o, s.a, s.ab, ((tkS E.tn E.tb s.i : Nat) : Int))
def cad (op arg : Int) (s : cS) : cS := if s.sz < 400 then (s.i, s.pa, s.sz + 1, fup s.o s.sz op, fup s.a s.sz arg, s.ab, s.flt) else s
def aim (dc : Nat) (s : cS) : cS := if dc < s.sz then (s.i, s.pa, s.sz, s.o, fup s.a dc ((s.sz : Nat) : Int), s.ab, s.flt) else s
def cpi (s : cS) : cS := (s.i, s.pa + 1, s.sz, s.o, s.a, s.ab, s.flt)
def cbk (k : Int) (s : cS) : cS := (s.i, s.pa, s.sz, s.o, s.a, if s.ab = 1 ∨ k = 4 then 1 else 0, s.flt)
abbrev csg (E : rdE) (c : Int) (s : cS) : Prop := cK E s = 3 ∧ cW E s = c
abbrev cwd (E : rdE) (t : Nat) (s : cS) : Prop := cK E s = 1 ∧ cW E s = hw t 0
section CSs
variable {M M2 : Nat → Nat → Int} {E : rdE} {cl : Nat} {s : cS}
theorem CS.lx (h : CS M E cl s) : clx M E.tn E.tb s.i := h.1
theorem CS.p (h : CS M E cl s) : M 200 5 = ((s.pa : Nat) : Int) := h.2.2.2.1
theorem CS.z (h : CS M E cl s) : M 201 3 = ((s.sz : Nat) : Int) := h.2.2.2.2.1
theorem CS.b (h : CS M E cl s) : M 201 5 = s.ab := h.2.2.2.2.2.2.2.1
theorem CS.pb (h : CS M E cl s) : s.pa ≤ 50 := h.2.2.2.2.2.2.2.2.2.1
theorem CS.zb (h : CS M E cl s) : s.sz ≤ 400 := h.2.2.2.2.2.2.2.2.2.2.1
theorem CS.ab01 (h : CS M E cl s) : s.ab = 0 ∨ s.ab = 1 := h.2.2.2.2.2.2.2.2.2.2.2.2
theorem CS_q {sh : List (Nat × Nat)} {A : List Nat} (h : CS M E cl s) (q : px_qk sh A M M2) (h1 : 199 ∉ A) (h2 : 200 ∉ A) (h3 : 201 ∉ A) (h4 : 202 ∉ A) (h5 : 203 ∉ A) : CS M2 E cl s := by
  unfold CS clx at *
  rw [q.2.2 199 h1, q.2.2 200 h2, q.2.2 201 h3, q.2.2 202 h4, q.2.2 203 h5]
  exact h
theorem CS_next {sh : List (Nat × Nat)} (h : CS M E cl s) (q : px_qk sh [200] M M2) (p7 : M2 200 7 = ((tkS E.tn E.tb (tkE E.tn E.tb s.i) : Nat) : Int)) (p8 : M2 200 8 = ((tkE E.tn E.tb (tkE E.tn E.tb s.i) : Nat) : Int)) (p6 : M2 200 6 = ((tkK E.tn E.tb (tkE E.tn E.tb s.i) : Nat) : Int)) (p9 : M2 200 9 = cnm E.tn E.tb (tkE E.tn E.tb s.i)) (f : fk 200 [6, 7, 8, 9] M M2) : CS M2 E cl (cnx E s) := by
  obtain ⟨⟨a1, a2, a3, a4, a5, a6, a7, a8, a9⟩, b2, b3, b4, b5, b6, b7, b8, b9, c1, c2, c3, c4⟩ := h
  refine ⟨⟨(f 3 (by decide)).trans a1, a2, (q.2.2 199 (by decide)).trans a3, a4, (tkE_b a5).2, p7, p8, p6, p9⟩, (f 4 (by decide)).trans b2, b3, (f 5 (by decide)).trans b4, ?_, (q.2.2 202 (by decide)).trans b6, (q.2.2 203 (by decide)).trans b7, ?_, (f 1 (by decide)).trans b9, c1, c2, ?_, c4⟩
  · rw [q.2.2 201 (by decide)]; exact b5
  · rw [q.2.2 201 (by decide)]; exact b8
  · rw [q.2.2 201 (by decide)]; exact c3
theorem CS_fail {sh : List (Nat × Nat)} (h : CS M E cl s) (q : px_qk sh [200] M M2) (p1 : M2 200 1 = ((tkS E.tn E.tb s.i : Nat) : Int)) (f : fk 200 [1] M M2) : CS M2 E cl (cfl E s) := by
  obtain ⟨⟨a1, a2, a3, a4, a5, a6, a7, a8, a9⟩, b2, b3, b4, b5, b6, b7, b8, b9, c1, c2, c3, c4⟩ := h
  refine ⟨⟨(f 3 (by decide)).trans a1, a2, (q.2.2 199 (by decide)).trans a3, a4, a5, (f 7 (by decide)).trans a6, (f 8 (by decide)).trans a7, (f 6 (by decide)).trans a8, (f 9 (by decide)).trans a9⟩, (f 4 (by decide)).trans b2, b3, (f 5 (by decide)).trans b4, ?_, (q.2.2 202 (by decide)).trans b6, (q.2.2 203 (by decide)).trans b7, ?_, p1, c1, c2, ?_, c4⟩
  · rw [q.2.2 201 (by decide)]; exact b5
  · rw [q.2.2 201 (by decide)]; exact b8
  · rw [q.2.2 201 (by decide)]; exact c3
theorem CS_pi (h : CS M E cl s) (e : M2 = px_up M 200 5 (((s.pa : Nat) : Int) + 1)) (hp : s.pa < 50) : CS M2 E cl (cpi s) := by
  obtain ⟨⟨a1, a2, a3, a4, a5, a6, a7, a8, a9⟩, b2, b3, b4, b5, b6, b7, b8, b9, c1, c2, c3, c4⟩ := h
  subst e
  refine ⟨⟨?_, a2, ?_, a4, a5, ?_, ?_, ?_, ?_⟩, ?_, b3, ?_, ?_, ?_, ?_, ?_, ?_, hp, c2, ?_, c4⟩
  all_goals first | (rw [up_ne (by decide)]; assumption) | (rw [ask_ne (by decide)]; assumption) | skip
  rw [up_s]; show _ = ((s.pa + 1 : Nat) : Int); omega
theorem CS_bk (h : CS M E cl s) {x k : Int} (e : M2 = px_up M 201 5 x) (hx : x = if s.ab = 1 ∨ k = 4 then 1 else 0) : CS M2 E cl (cbk k s) := by
  obtain ⟨⟨a1, a2, a3, a4, a5, a6, a7, a8, a9⟩, b2, b3, b4, b5, b6, b7, b8, b9, c1, c2, c3, c4⟩ := h
  subst e
  refine ⟨⟨?_, a2, ?_, a4, a5, ?_, ?_, ?_, ?_⟩, ?_, b3, ?_, ?_, ?_, ?_, ?_, ?_, c1, c2, ?_, ?_⟩
  all_goals first | (rw [up_ne (by decide)]; assumption) | (rw [ask_ne (by decide)]; assumption) | skip
  · rw [up_s]; exact hx
  · show (if s.ab = 1 ∨ k = 4 then (1 : Int) else 0) = 0 ∨ (if s.ab = 1 ∨ k = 4 then (1 : Int) else 0) = 1
    split <;> omega
theorem CS_ad {Ma Mb : Nat → Nat → Int} (h : CS M E cl s) {op arg : Int} (hz : s.sz < 400) (e1 : Ma = px_up M 202 s.sz op) (e2 : Mb = px_up Ma 203 s.sz arg) (e3 : M2 = px_up Mb 201 3 (((s.sz : Nat) : Int) + 1)) : CS M2 E cl (cad op arg s) := by
  obtain ⟨⟨a1, a2, a3, a4, a5, a6, a7, a8, a9⟩, b2, b3, b4, b5, b6, b7, b8, b9, c1, c2, c3, c4⟩ := h
  have k : ∀ a, a ≠ 201 → a ≠ 202 → a ≠ 203 → M2 a = M a := fun a n1 n2 n3 => by rw [e3, ask_ne n1, e2, ask_ne n3, e1, ask_ne n2]
  have k1 : ∀ j, j ≠ 3 → M2 201 j = M 201 j := fun j hj => by rw [e3, up_ne hj, e2, ask_ne (by decide), e1, ask_ne (by decide)]
  unfold cad
  rw [if_pos hz]
  refine ⟨⟨?_, a2, ?_, a4, a5, ?_, ?_, ?_, ?_⟩, ?_, b3, ?_, ?_, ?_, ?_, ?_, ?_, c1, hz, ?_, c4⟩
  · rw [k 200 (by decide) (by decide) (by decide)]; exact a1
  · rw [k 199 (by decide) (by decide) (by decide)]; exact a3
  · rw [k 200 (by decide) (by decide) (by decide)]; exact a6
  · rw [k 200 (by decide) (by decide) (by decide)]; exact a7
  · rw [k 200 (by decide) (by decide) (by decide)]; exact a8
  · rw [k 200 (by decide) (by decide) (by decide)]; exact a9
  · rw [k 200 (by decide) (by decide) (by decide)]; exact b2
  · rw [k 200 (by decide) (by decide) (by decide)]; exact b4
  · rw [e3, up_s]; show _ = ((s.sz + 1 : Nat) : Int); omega
  · show M2 202 = fup s.o s.sz op
    rw [e3, ask_ne (by decide), e2, ask_ne (by decide), up_fup e1, b6]
  · show M2 203 = fup s.a s.sz arg
    rw [e3, ask_ne (by decide), up_fup e2, e1, ask_ne (by decide), b7]
  · rw [k1 5 (by decide)]; exact b8
  · rw [k 200 (by decide) (by decide) (by decide)]; exact b9
  · rw [k1 4 (by decide)]; exact c3
theorem CS_aim (h : CS M E cl s) {dc : Nat} (hz : dc < s.sz) (e : M2 = px_up M 203 dc ((s.sz : Nat) : Int)) : CS M2 E cl (aim dc s) := by
  obtain ⟨⟨a1, a2, a3, a4, a5, a6, a7, a8, a9⟩, b2, b3, b4, b5, b6, b7, b8, b9, c1, c2, c3, c4⟩ := h
  unfold aim
  rw [if_pos hz]
  have e9 := up_fup e
  subst e
  refine ⟨⟨?_, a2, ?_, a4, a5, ?_, ?_, ?_, ?_⟩, ?_, b3, ?_, ?_, ?_, ?_, ?_, ?_, c1, c2, ?_, c4⟩
  all_goals first | (rw [ask_ne (by decide)]; assumption) | skip
  show _ = fup s.a dc ((s.sz : Nat) : Int)
  rw [e9, b7]
end CSs
theorem ct_CS_next {xs : Nat → Int} {L d : Nat} {sh : List (Nat × Nat)} {M0 : Nat → Nat → Int} {E : rdE} {cl : Nat} {s : cS} (hd : 2 ≤ d) (hW : px_W0 <+: sh) (hF : px_Fx M0) (hG : px_RG sh M0) (hs : CS M0 E cl s) : ∃ M, (px_qk sh [200] M0 M ∧ CS M E cl (cnx E s)) ∧ px_Cl xs L d 59 [.ref 200] (sh, M0) none (sh, M) := by
  obtain ⟨g3, htn, g199, htb, hi, g7, g8, g6, g9⟩ := hs.lx
  obtain ⟨M, ⟨k, p7, p8, p6, p9, f⟩, hc⟩ := ct_Reader_next (xs := xs) (L := L) (d := d) hd hW hF hG g3 htn g199 htb (tkE_b hi).2 g8
  exact ⟨M, ⟨k, CS_next hs k p7 p8 p6 p9 f⟩, hc⟩
theorem ct_CS_fail {xs : Nat → Int} {L d : Nat} {sh : List (Nat × Nat)} {M0 : Nat → Nat → Int} {E : rdE} {cl : Nat} {s : cS} (hd : 1 ≤ d) (hW : px_W0 <+: sh) (hF : px_Fx M0) (hG : px_RG sh M0) (hs : CS M0 E cl s) : ∃ M, (px_qk sh [200] M0 M ∧ CS M E cl (cfl E s)) ∧ px_Cl xs L d 70 [.ref 200] (sh, M0) (some (.int (iI (bI False)))) (sh, M) := by
  obtain ⟨M, ⟨k, p1, f⟩, hc⟩ := ct_Reader_fail (xs := xs) (L := L) (d := d) hd hW hF hG hs.lx
  exact ⟨M, ⟨k, CS_fail hs k p1 f⟩, hc⟩
theorem ct_CS_isSign {xs : Nat → Int} {L d : Nat} {sh : List (Nat × Nat)} {M0 : Nat → Nat → Int} {E : rdE} {cl : Nat} {s : cS} {c : Int} (hd : 1 ≤ d) (hW : px_W0 <+: sh) (hF : px_Fx M0) (hG : px_RG sh M0) (hs : CS M0 E cl s) (hc9 : 0 ≤ c ∧ c ≤ 255) : ∃ M, (px_qk sh [] M0 M ∧ CS M E cl s) ∧ px_Cl xs L d 77 [.ref 200, .int (iI c)] (sh, M0) (some (.int (iI (bI (csg E c s))))) (sh, M) := by
  obtain ⟨M, k, hc⟩ := ct_Reader_isSign (xs := xs) (L := L) (d := d) hd hW hF hG hs.lx hc9
  obtain rfl := qk_nil k
  exact ⟨M0, ⟨k, hs⟩, hc⟩
theorem wn_1 : wn 6 = 1 ∧ wn 7 = 1 ∧ wn 8 = 1 ∧ wn 9 = 1 ∧ wn 10 = 1 ∧ wn 12 = 1 ∧ wn 13 = 1 ∧ wn 2 = 9 ∧ wn 3 = 12 ∧ wn 0 = 5 ∧ wn 1 = 4 := by decide +kernel
theorem kAt_1 {f : Nat → Int} {k0 : Nat} {w : Int} : kAt f k0 w 1 = 0 ↔ (k0 = 1 ∧ w = f 0) := by
  rw [kAt]
  split
  · rename_i h; exact ⟨fun _ => h, fun _ => rfl⟩
  · rename_i h; exact ⟨fun z => by rw [kAt] at z; omega, fun z => absurd z h⟩
theorem ct_CS_isWord {xs : Nat → Int} {L d : Nat} {sh : List (Nat × Nat)} {M0 : Nat → Nat → Int} (hd : 6 ≤ d) (hW : px_W0 <+: sh) (hF : px_Fx M0) (hG : px_RG sh M0)  {E : rdE} {cl : Nat} {s : cS} (hs : CS M0 E cl s) {t : Nat} (ht : t < 14) (hlw : wLet t) (hdw : hwD t) (hone : wn t = 1) : ∃ M, (px_qk sh [] M0 M ∧ (CS M E cl s)) ∧ px_Cl xs L d 85 [.ref 200, .retAddr (t + 1)] (sh, M0) (some (.int (iI (bI (cwd E t s))))) (sh, M) := by
  obtain ⟨d, rfl⟩ : ∃ e, d = e + 1 := ⟨d - 1, by omega⟩
  have q0 : px_qk sh [] M0 M0 := ⟨hF, hG, eo_rf⟩
  refine vc_n (Nat.le_of_ble_eq_true rfl) ?_
  show px_R xs L d 85 (0, [.ref 200, .retAddr (t + 1)], [], (sh, M0)) (fun r h' => r = some (.int (iI (bI (cwd E t s)))) ∧ ∃ M', h' = (sh, M') ∧ px_qk sh [] M0 M' ∧ CS M' E cl s)
  refine rr_aload_n pf_85_0 rfl ?_
  refine rr_aload_nT pf_85_1 rfl (by omega) ?_
  obtain ⟨r3, M1, ⟨kq2, pvM1⟩, hcM1⟩ := ct_Reader_indexIn (xs := xs) (L := L) (d := d) (t := t) (by omega) hW q0.1 q0.2.1 hs.lx ht hlw hdw
  obtain rfl := qk_nil kq2
  have hkbr3 := kAt_b (hw t) (tkK E.tn E.tb (s).i) (tkW E.tn E.tb (s).i) (wn t)
  refine rr_cV1 pf_85_2 po_85 pc_3_78 (ws_200 hW) po_62 (by decide) rfl hcM1 ?_
  rw [hone] at pvM1
  have hk1 := kAt_1 (f := hw t) (k0 := tkK E.tn E.tb s.i) (w := tkW E.tn E.tb s.i)
  rw [hone] at hkbr3
  refine rr_if_ne 12 pf_85_5 (by decide) (by unfold rg; omega) (fun c4 => ?_) (fun c4 => ?_)
  · refine rr_iconst pf_85_12 ?_
    refine rr_zret pf_85_13 pt_85 (by first | exact Or.inl rfl | exact Or.inr rfl | omega) ⟨by rw [bI_f (by intro z; have := hk1.mpr z; omega)], M0, rfl, q0, (hs)⟩
  · refine rr_iconst pf_85_8 ?_
    refine rr_goto 13 pf_85_9 (by decide) ?_
    refine rr_zret pf_85_13 pt_85 (by first | exact Or.inl rfl | exact Or.inr rfl | omega) ⟨by rw [bI_t (by exact hk1.mp (by omega))], M0, rfl, q0, (hs)⟩
theorem ct_CS_opened {xs : Nat → Int} {L d : Nat} {sh : List (Nat × Nat)} {M0 : Nat → Nat → Int} (hd : 3 ≤ d) (hW : px_W0 <+: sh) (hF : px_Fx M0) (hG : px_RG sh M0)  {E : rdE} {cl : Nat} {s : cS} (hs : CS M0 E cl s) {dp : Nat} (hdp : dp ≤ 100) : ∃ M, (px_qk sh [200] M0 M ∧ (CS M E cl (if dp < 8 then cnx E s else cfl E s))) ∧ px_Cl xs L d 78 [.ref 200, .int (iI (((dp : Nat) : Int)))] (sh, M0) (some (.int (iI (bI (dp < 8))))) (sh, M) := by
  obtain ⟨d, rfl⟩ : ∃ e, d = e + 1 := ⟨d - 1, by omega⟩
  have q0 : px_qk sh [200] M0 M0 := ⟨hF, hG, eo_rf⟩
  refine vc_n (Nat.le_of_ble_eq_true rfl) ?_
  show px_R xs L d 78 (0, [.ref 200, .int (iI (((dp : Nat) : Int)))], [], (sh, M0)) (fun r h' => r = some (.int (iI (bI (dp < 8)))) ∧ ∃ M', h' = (sh, M') ∧ px_qk sh [200] M0 M' ∧ CS M' E cl (if dp < 8 then cnx E s else cfl E s))
  refine rr_iload_n pf_78_0 rfl ?_
  refine rr_bipush pf_78_1 (by decide) ?_
  refine rr_icmp_lt 11 pf_78_3 (by decide) (by unfold rg; omega) (by unfold rg; omega) (fun c1 => ?_) (fun c1 => ?_)
  · refine rr_aload_n pf_78_11 rfl ?_
    obtain ⟨M2, ⟨kq3, pSM2⟩, hcM2⟩ := ct_CS_next (xs := xs) (L := L) (d := d) (E := E) (cl := cl) (s := s) (by omega) hW q0.1 q0.2.1 hs 
    have q3 := qk_trm q0 kq3 (by decide)
    refine rr_cV0 pf_78_12 po_78 pc_3_57 (ws_200 hW) po_59 (by decide) rfl hcM2 ?_
    refine rr_iconst pf_78_15 ?_
    refine rr_zret pf_78_16 pt_78 (by first | exact Or.inl rfl | exact Or.inr rfl | omega) ⟨by rw [bI_t (by omega)], M2, rfl, q3, (by rw [if_pos (by omega)]; exact pSM2)⟩
  · refine rr_aload_n pf_78_6 rfl ?_
    obtain ⟨M4, ⟨kq5, pSM4⟩, hcM4⟩ := ct_CS_fail (xs := xs) (L := L) (d := d) (E := E) (cl := cl) (s := s) (by omega) hW q0.1 q0.2.1 hs 
    have q5 := qk_trm q0 kq5 (by decide)
    refine rr_cV0 pf_78_7 po_78 pc_3_71 (ws_200 hW) po_70 (by decide) rfl hcM4 ?_
    refine rr_zret pf_78_10 pt_78 (by have := bI_rg (False); omega) ⟨by congr 3; exact bI_c (by constructor <;> intro z <;> first | exact absurd z id | (exfalso; omega)), M4, rfl, q5, (by rw [if_neg (by omega)]; exact pSM4)⟩
theorem ct_CS_closed {xs : Nat → Int} {L d : Nat} {sh : List (Nat × Nat)} {M0 : Nat → Nat → Int} (hd : 3 ≤ d) (hW : px_W0 <+: sh) (hF : px_Fx M0) (hG : px_RG sh M0)  {E : rdE} {cl : Nat} {s : cS} (hs : CS M0 E cl s) {c : Int} (hc9 : 0 ≤ c ∧ c ≤ 255) : ∃ M, (px_qk sh [200] M0 M ∧ (CS M E cl (if csg E c s then cnx E s else cfl E s))) ∧ px_Cl xs L d 79 [.ref 200, .int (iI (c))] (sh, M0) (some (.int (iI (bI (csg E c s))))) (sh, M) := by
  obtain ⟨d, rfl⟩ : ∃ e, d = e + 1 := ⟨d - 1, by omega⟩
  have q0 : px_qk sh [200] M0 M0 := ⟨hF, hG, eo_rf⟩
  refine vc_n (Nat.le_of_ble_eq_true rfl) ?_
  show px_R xs L d 79 (0, [.ref 200, .int (iI (c))], [], (sh, M0)) (fun r h' => r = some (.int (iI (bI (csg E c s)))) ∧ ∃ M', h' = (sh, M') ∧ px_qk sh [200] M0 M' ∧ CS M' E cl (if csg E c s then cnx E s else cfl E s))
  refine rr_aload_n pf_79_0 rfl ?_
  refine rr_iload_n pf_79_1 rfl ?_
  obtain ⟨M1, ⟨kq2, pSM1⟩, hcM1⟩ := ct_CS_isSign (xs := xs) (L := L) (d := d) (E := E) (cl := cl) (s := s) (c := c) (by omega) hW q0.1 q0.2.1 hs (by omega)
  obtain rfl := qk_nil kq2
  refine rr_cV1 pf_79_2 po_79 pc_3_64 (ws_200 hW) po_77 (by decide) rfl hcM1 ?_
  refine rr_ifb_ne 13 pf_79_5 (by decide) (fun c3 => ?_) (fun c3 => ?_)
  · have hcs := c3
    refine rr_aload_n pf_79_13 rfl ?_
    obtain ⟨M4, ⟨kq5, pSM4⟩, hcM4⟩ := ct_CS_next (xs := xs) (L := L) (d := d) (E := E) (cl := cl) (s := (s)) (by omega) hW q0.1 q0.2.1 pSM1 
    have q5 := qk_trm q0 kq5 (by decide)
    refine rr_cV0 pf_79_14 po_79 pc_3_57 (ws_200 hW) po_59 (by decide) rfl hcM4 ?_
    refine rr_iconst pf_79_17 ?_
    refine rr_zret pf_79_18 pt_79 (by first | exact Or.inl rfl | exact Or.inr rfl | omega) ⟨by rw [bI_t (by first | exact hcs | exact Decidable.not_not.mp hcs)], M4, rfl, q5, (by rw [if_pos hcs]; exact pSM4)⟩
  · have hcs := c3
    refine rr_aload_n pf_79_8 rfl ?_
    obtain ⟨M6, ⟨kq7, pSM6⟩, hcM6⟩ := ct_CS_fail (xs := xs) (L := L) (d := d) (E := E) (cl := cl) (s := (s)) (by omega) hW q0.1 q0.2.1 pSM1 
    have q7 := qk_trm q0 kq7 (by decide)
    refine rr_cV0 pf_79_9 po_79 pc_3_71 (ws_200 hW) po_70 (by decide) rfl hcM6 ?_
    refine rr_zret pf_79_12 pt_79 (by have := bI_rg (False); omega) ⟨by congr 3; exact bI_c (by constructor <;> intro z <;> first | exact absurd z id | exact absurd z hcs), M6, rfl, q7, (by rw [if_neg hcs]; exact pSM6)⟩
theorem ct_CS_wanted {xs : Nat → Int} {L d : Nat} {sh : List (Nat × Nat)} {M0 : Nat → Nat → Int} (hd : 7 ≤ d) (hW : px_W0 <+: sh) (hF : px_Fx M0) (hG : px_RG sh M0)  {E : rdE} {cl : Nat} {s : cS} (hs : CS M0 E cl s) {t : Nat} (ht : t < 14) (hlw : wLet t) (hdw : hwD t) (hone : wn t = 1) : ∃ M, (px_qk sh [200] M0 M ∧ (CS M E cl (if cwd E t s then cnx E s else cfl E s))) ∧ px_Cl xs L d 84 [.ref 200, .retAddr (t + 1)] (sh, M0) (some (.int (iI (bI (cwd E t s))))) (sh, M) := by
  obtain ⟨d, rfl⟩ : ∃ e, d = e + 1 := ⟨d - 1, by omega⟩
  have q0 : px_qk sh [200] M0 M0 := ⟨hF, hG, eo_rf⟩
  refine vc_n (Nat.le_of_ble_eq_true rfl) ?_
  show px_R xs L d 84 (0, [.ref 200, .retAddr (t + 1)], [], (sh, M0)) (fun r h' => r = some (.int (iI (bI (cwd E t s)))) ∧ ∃ M', h' = (sh, M') ∧ px_qk sh [200] M0 M' ∧ CS M' E cl (if cwd E t s then cnx E s else cfl E s))
  refine rr_aload_n pf_84_0 rfl ?_
  refine rr_aload_nT pf_84_1 rfl (by omega) ?_
  obtain ⟨M1, ⟨kq2, pSM1⟩, hcM1⟩ := ct_CS_isWord (xs := xs) (L := L) (d := d) (E := E) (cl := cl) (s := s) (t := t) (by omega) hW q0.1 q0.2.1 hs ht hlw hdw hone
  obtain rfl := qk_nil kq2
  refine rr_cV1 pf_84_2 po_84 pc_3_100 (ws_200 hW) po_85 (by decide) rfl hcM1 ?_
  refine rr_ifb_ne 13 pf_84_5 (by decide) (fun c3 => ?_) (fun c3 => ?_)
  · have hcs := c3
    refine rr_aload_n pf_84_13 rfl ?_
    obtain ⟨M4, ⟨kq5, pSM4⟩, hcM4⟩ := ct_CS_next (xs := xs) (L := L) (d := d) (E := E) (cl := cl) (s := (s)) (by omega) hW q0.1 q0.2.1 pSM1 
    have q5 := qk_trm q0 kq5 (by decide)
    refine rr_cV0 pf_84_14 po_84 pc_3_57 (ws_200 hW) po_59 (by decide) rfl hcM4 ?_
    refine rr_iconst pf_84_17 ?_
    refine rr_zret pf_84_18 pt_84 (by first | exact Or.inl rfl | exact Or.inr rfl | omega) ⟨by rw [bI_t (by first | exact hcs | exact Decidable.not_not.mp hcs)], M4, rfl, q5, (by rw [if_pos hcs]; exact pSM4)⟩
  · have hcs := c3
    refine rr_aload_n pf_84_8 rfl ?_
    obtain ⟨M6, ⟨kq7, pSM6⟩, hcM6⟩ := ct_CS_fail (xs := xs) (L := L) (d := d) (E := E) (cl := cl) (s := (s)) (by omega) hW q0.1 q0.2.1 pSM1 
    have q7 := qk_trm q0 kq7 (by decide)
    refine rr_cV0 pf_84_9 po_84 pc_3_71 (ws_200 hW) po_70 (by decide) rfl hcM6 ?_
    refine rr_zret pf_84_12 pt_84 (by have := bI_rg (False); omega) ⟨by congr 3; exact bI_c (by constructor <;> intro z <;> first | exact absurd z id | exact absurd z hcs), M6, rfl, q7, (by rw [if_neg hcs]; exact pSM6)⟩
