/-! the reference's reader: a bracket, a part -/
theorem mst0 (E : rdE) (s : rdS) : mst E 0 s = fl E s := if_neg (by decide)
theorem mst1 (E : rdE) (s : rdS) : mst E 1 s = nxS E s := if_pos rfl
theorem pAt_k {f : Nat → Int} {k0 : Nat} {w : Int} : ∀ n, pAt f k0 w n ≠ -1 → k0 = 1 := by
  intro n
  induction n with
  | zero => intro h; exact absurd rfl h
  | succ n ih =>
    intro h
    rw [pAt] at h
    split at h
    · rename_i z; exact z.1
    · exact ih h
theorem rnn_a {tn : Nat} {tb : Nat → Int} {k : Nat} : ∀ f i j, i ≤ j → j < rnn tn tb k f i → tkd (tb j) = k := by
  intro f
  induction f with
  | zero => intro i j h1 h2; rw [rnn] at h2; omega
  | succ f ih =>
    intro i j h1 h2
    rw [rnn] at h2
    split at h2
    · rename_i z
      by_cases hz : j = i
      · rw [hz]; exact z.2
      · exact ih (i + 1) j (by omega) h2
    · omega
theorem tkW_2 {tn : Nat} {tb : Nat → Int} {i : Nat} (hk : tkK tn tb i = 2) : 0 ≤ tkW tn tb i ∧ tkW tn tb i ≤ 10000009 := by
  have hd : tkS tn tb i < tn ∧ tkd (tb (tkS tn tb i)) = 2 := by
    unfold tkK at hk
    split at hk
    · exact ⟨by assumption, hk⟩
    · exact absurd hk (by decide)
  unfold tkW
  rw [if_neg (by omega), if_pos hk]
  refine dgt_b _ (fun j hj => tkd_2.mp ?_)
  unfold tkE at hj
  rw [if_pos hd.1, if_neg (by omega), hd.2] at hj
  exact rnn_a (tn := tn) (tn - tkS tn tb i) (tkS tn tb i) _ (by omega) (by omega)
def rOpen (E : rdE) (u : Int) (s : rdS) : rdS := if s.op < 8 then psh u 0 (opn 1 (nxS E s)) else fl E s
def rLeaf (E : rdE) (u x y : Int) (s : rdS) : rdS := if u = 1 ∧ s.lv < 50 then lvn (emt x y (nxS E s)) else fl E s
def rAt (E : rdE) (s : rdS) : Int := if E.od = 1 then pAt E.g (rK E s) (rW E s) 9 else pAt E.f (rK E s) (rW E s) 12
def rLf (E : rdE) (s : rdS) : rdS := rLeaf E (if rAt E s ≠ -1 ∨ (rK E s = 2 ∧ rW E s ≤ 1000) then 1 else 0) (if rAt E s = -1 then 0 else rAt E s) (if rK E s = 2 ∧ rW E s ≤ 1000 then rW E s else 0) s
def rNb (E : rdE) (lo hi_ : Int) (s : rdS) : rdS := if rK E s = 2 ∧ lo ≤ rW E s ∧ rW E s ≤ hi_ then nxS E s else fl E s
def rPart (E : rdE) (s : rdS) : rdS := if rK E s = 3 ∧ rW E s = 91 then rOpen E 32 s else if E.od = 1 ∧ 6 ≤ rAt E s ∧ (rLf E s).flt = 0 then ast (wrp (rW E (rLf E s))) (rNb E 0 (if rAt E s = 9 then 5 else 15) (rLf E s)) else rLf E s
def rPartV (E : rdE) (s : rdS) : Int := if rK E s = 3 ∧ rW E s = 91 then 1 else 3
section RSD
variable {xs : Nat → Int} {L d : Nat} {sh : List (Nat × Nat)} {M0 : Nat → Nat → Int}
theorem ct_RS_number (hd : 4 ≤ d) (hW : px_W0 <+: sh) (hF : px_Fx M0) (hG : px_RG sh M0) {E : rdE} {b : Nat} {s : rdS} (hs : RS M0 E b s) (hf : s.flt = 0) {lo hi_ : Int} (hlo : rl lo) (hhi : rl hi_) : ∃ v M, (px_qk sh [228] M0 M ∧ v = rW E s ∧ RS M E b (rNb E lo hi_ s) ∧ fz [14, 15, 16, 17, 18, 19] M0 M) ∧ px_Cl xs L d 238 [.ref 228, .long (lI (lo)), .long (lI (hi_))] (sh, M0) (some (.int (iI v))) (sh, M) := by
  have hwl : rl (tkW E.tn (M0 237) s.i) := by
    have z := rg_atL hG (ws_228 hW) (j := 17) rfl
    rw [hs.hlx.2.2.2] at z
    rw [hs.h237]; exact z
  obtain ⟨v, M, ⟨k, pv, pn, pf⟩, hc⟩ := ct_R_number (xs := xs) (L := L) hd hW hF hG (tn := E.tn) hs.h13 hs.htn (by rw [hs.h237]; exact hs.htb) (i := s.i) hs.hi (by rw [hs.h237]; exact hs.hlx) (by rw [hs.h19, hf]) hlo hhi hwl
  rw [hs.h237] at pv pn
  refine ⟨v, M, ⟨k, pv, ?_, pf⟩, hc⟩
  have a := tkS_b (tb := E.tb) hs.hi
  have a2 := tkE_b (tb := E.tb) hs.hi
  rcases pn with ⟨c, p19, p18, pl⟩ | ⟨c, p19, p18, pl⟩
  · rw [show rNb E lo hi_ s = nxS E s from if_pos c]
    exact RS_tok hs pf k.2.2 pl (p18.trans hs.h18) (p19.trans hf.symm) ⟨by omega, by omega⟩
  · rw [show rNb E lo hi_ s = fl E s from if_neg c]
    exact RS_tok hs pf k.2.2 pl p18 p19 ⟨Nat.le_refl _, hs.hi⟩
theorem ct_RS_partAt (hd : 2 ≤ d) (hW : px_W0 <+: sh) (hF : px_Fx M0) (hG : px_RG sh M0) {E : rdE} {b : Nat} {s : rdS} (hs : RS M0 E b s) : ∃ v M, (px_qk sh [] M0 M ∧ v = pAt E.f (rK E s) (rW E s) 12) ∧ px_Cl xs L d 235 [.ref 228] (sh, M0) (some (.int (iI v))) (sh, M) := ct_R_partAt hd hW hF hG hs.hlx hs.h243
theorem ct_RS_orderPartAt (hd : 2 ≤ d) (hW : px_W0 <+: sh) (hF : px_Fx M0) (hG : px_RG sh M0) {E : rdE} {b : Nat} {s : rdS} (hs : RS M0 E b s) : ∃ v M, (px_qk sh [] M0 M ∧ v = pAt E.g (rK E s) (rW E s) 9) ∧ px_Cl xs L d 234 [.ref 228] (sh, M0) (some (.int (iI v))) (sh, M) := ct_R_orderPartAt hd hW hF hG hs.hlx hs.h244
end RSD
theorem ct_R_openBracket {xs : Nat → Int} {L d : Nat} {sh : List (Nat × Nat)} {M0 : Nat → Nat → Int} (hd : 4 ≤ d) (hW : px_W0 <+: sh) (hF : px_Fx M0) (hG : px_RG sh M0)  {E : rdE} {s : rdS} (hs : RS M0 E s.i s) (hf : s.flt = 0) (hK : rK E s ≠ 0) {u : Int} (hu : 31 ≤ u ∧ u ≤ 32) : ∃ M, (px_qk sh [228, 239, 240, 241, 242] M0 M ∧ (RS M E (rOpen E u s).i (rOpen E u s)) ∧ (fz [14, 15, 16, 17, 18, 19, 23, 26, 29, 30] M0 M)) ∧ px_Cl xs L d 232 [.ref 228, .int (iI (u))] (sh, M0) (none) (sh, M) := by
  obtain ⟨d, rfl⟩ : ∃ e, d = e + 1 := ⟨d - 1, by omega⟩
  have q0 : px_qk sh [228, 239, 240, 241, 242] M0 M0 := ⟨hF, hG, eo_rf⟩
  have hop := hs.hop
  have hi := hs.hi
  have htn := hs.htn
  have hE2 := (tkE_b (tb := E.tb) hs.hi).2
  have hlv := hs.hlv
  have hnb := hs.hnb
  have hE1 := tkE_1 hs.hi hK
  refine vc_n (Nat.le_of_ble_eq_true rfl) ?_
  show px_R xs L d 232 (0, [.ref 228, .int (iI (u))], [], (sh, M0)) (fun r h' => r = none ∧ ∃ M', h' = (sh, M') ∧ px_qk sh [228, 239, 240, 241, 242] M0 M' ∧ RS M' E (rOpen E u s).i (rOpen E u s) ∧ fz [14, 15, 16, 17, 18, 19, 23, 26, 29, 30] M0 M')
  refine rr_aload_n pf_232_0 rfl ?_
  refine rr_aload_n pf_232_1 rfl ?_
  refine vr_getI q0 pf_232_2 po_232 pg_9_338 rfl (ws_228 hW) (by decide) (fun x1 hx1 rx1 => ?_)
  rw [hs.h30] at hx1
  change x1 = s.op at hx1
  refine rr_bipush pf_232_5 (by decide) ?_
  refine rr_icmp_ge 14 pf_232_7 (by decide) rx1 (by unfold rg; omega) (fun c2 => ?_) (fun c2 => ?_)
  · refine rr_iconst pf_232_14 ?_
    obtain ⟨M3, ⟨kq4, pS_M3, pf_M3⟩, hcM3⟩ := ct_RS_must (xs := xs) (L := L) (d := d) (u := 0) (E := E) (s := s) (b := s.i) (by omega) hW q0.1 q0.2.1 hs hf (by omega)
    have q4 := qk_trm q0 kq4 (by decide)
    have rq6 := fz_tr (fz_rf [14, 15, 16, 17, 18, 19, 23, 26, 29, 30] M0) pf_M3 (by decide)
    refine rr_cV1 pf_232_15 po_232 pc_9_309 (ws_228 hW) po_227 (by decide) rfl hcM3 ?_
    rw [mst0] at pS_M3
    refine rr_aload_n pf_232_18 rfl ?_
    refine vr_getZ q4 pf_232_19 po_232 pg_9_276 rfl (ws_228 hW) (by decide) (fun x7 hx7 rx7 => ?_)
    rw [pS_M3.h19] at hx7
    change x7 = 1 at hx7
    refine rr_if_ne 41 pf_232_22 (by decide) rx7 (fun c8 => ?_) (fun c8 => ?_)
    · refine rr_vret pf_232_41 pt_232 ⟨rfl, M3, rfl, q4, (by unfold rOpen; rw [if_neg (by omega)]; exact pS_M3), (rq6)⟩
    · exfalso; omega
  · refine rr_iconst pf_232_10 ?_
    refine rr_goto 15 pf_232_11 (by decide) ?_
    obtain ⟨M9, ⟨kq10, pS_M9, pf_M9⟩, hcM9⟩ := ct_RS_must (xs := xs) (L := L) (d := d) (u := 1) (E := E) (s := s) (b := s.i) (by omega) hW q0.1 q0.2.1 hs hf (by omega)
    have q10 := qk_trm q0 kq10 (by decide)
    have rq12 := fz_tr (fz_rf [14, 15, 16, 17, 18, 19, 23, 26, 29, 30] M0) pf_M9 (by decide)
    refine rr_cV1 pf_232_15 po_232 pc_9_309 (ws_228 hW) po_227 (by decide) rfl hcM9 ?_
    rw [mst1] at pS_M9
    refine rr_aload_n pf_232_18 rfl ?_
    refine vr_getZ q10 pf_232_19 po_232 pg_9_276 rfl (ws_228 hW) (by decide) (fun x13 hx13 rx13 => ?_)
    rw [pS_M9.h19] at hx13
    change x13 = s.flt at hx13
    rw [hf] at hx13
    refine rr_if_ne 41 pf_232_22 (by decide) rx13 (fun c14 => ?_) (fun c14 => ?_)
    · exfalso; omega
    · refine rr_aload_n pf_232_25 rfl ?_
      refine rr_dup pf_232_26 rfl ?_
      refine vr_getI q10 pf_232_27 po_232 pg_9_338 rfl (ws_228 hW) (by decide) (fun x15 hx15 rx15 => ?_)
      rw [pS_M9.h30] at hx15
      change x15 = s.op at hx15
      refine rr_iconst pf_232_30 ?_
      refine rr_iadd pf_232_31 ?_
      refine vr_putI hW q10 pf_232_32 po_232 pg_9_338 (Or.inl rfl) rfl (ws_228 hW) (by decide) (by unfold rg; omega) (by decide) (fun M16 eM16 q17 => ?_)
      have rq18 := fz_up rq12 eM16 (by decide)
      have hsM16 := RS_op (k := 1) pS_M9 eM16 (by show _ = s.op + (1); omega) (by show -((tkE E.tn E.tb s.i : Nat) : Int) ≤ s.op + (1) ∧ s.op + (1) ≤ 8; omega)
      refine rr_aload_n pf_232_35 rfl ?_
      refine rr_iload_n pf_232_36 rfl ?_
      refine rr_iconst pf_232_37 ?_
      obtain ⟨M19, ⟨kq20, pS_M19, pf_M19⟩, hcM19⟩ := ct_RS_push (xs := xs) (L := L) (d := d) (a := u) (b_ := 0) (E := E) (s := (opn 1 (nxS E s))) (b := s.i) (by omega) hW q17.1 q17.2.1 hsM16 (by omega) (by omega) (by omega)
      have q20 := qk_trm q17 kq20 (by decide)
      have rq22 := fz_tr rq18 pf_M19 (by decide)
      refine rr_cV2 pf_232_38 po_232 pc_9_341 (ws_228 hW) po_230 (by decide) rfl hcM19 ?_
      refine rr_vret pf_232_41 pt_232 ⟨rfl, M19, rfl, q20, (by unfold rOpen; rw [if_pos (by omega)]; exact RS_b pS_M19 (Nat.le_trans pS_M19.hnb (by show _ ≤ tkE E.tn E.tb s.i; omega)) (by show tkE E.tn E.tb s.i ≤ 400; omega)), (rq22)⟩
theorem ct_R_leaf {xs : Nat → Int} {L d : Nat} {sh : List (Nat × Nat)} {M0 : Nat → Nat → Int} (hd : 4 ≤ d) (hW : px_W0 <+: sh) (hF : px_Fx M0) (hG : px_RG sh M0)  {E : rdE} {s : rdS} (hs : RS M0 E s.i s) (hf : s.flt = 0) {u x_ y_ : Int} (hu : u = 0 ∨ u = 1) (hK : u = 1 → rK E s ≠ 0) (hx_ : rg x_) (hy_ : rg y_) : ∃ M, (px_qk sh [228, 239, 240, 241, 242] M0 M ∧ (RS M E (rLeaf E u x_ y_ s).i (rLeaf E u x_ y_ s)) ∧ (fz [14, 15, 16, 17, 18, 19, 23, 26, 29, 30] M0 M)) ∧ px_Cl xs L d 236 [.ref 228, .int (iI (u)), .int (iI (x_)), .int (iI (y_))] (sh, M0) (none) (sh, M) := by
  obtain ⟨d, rfl⟩ : ∃ e, d = e + 1 := ⟨d - 1, by omega⟩
  have q0 : px_qk sh [228, 239, 240, 241, 242] M0 M0 := ⟨hF, hG, eo_rf⟩
  have hop := hs.hop
  have hi := hs.hi
  have htn := hs.htn
  have hE2 := (tkE_b (tb := E.tb) hs.hi).2
  have hlv := hs.hlv
  have hnb := hs.hnb
  refine vc_n (Nat.le_of_ble_eq_true rfl) ?_
  show px_R xs L d 236 (0, [.ref 228, .int (iI (u)), .int (iI (x_)), .int (iI (y_))], [], (sh, M0)) (fun r h' => r = none ∧ ∃ M', h' = (sh, M') ∧ px_qk sh [228, 239, 240, 241, 242] M0 M' ∧ RS M' E (rLeaf E u x_ y_ s).i (rLeaf E u x_ y_ s) ∧ fz [14, 15, 16, 17, 18, 19, 23, 26, 29, 30] M0 M')
  refine rr_aload_n pf_236_0 rfl ?_
  refine rr_iload_n pf_236_1 rfl ?_
  refine rr_if_eq 18 pf_236_2 (by decide) (by unfold rg; omega) (fun c1 => ?_) (fun c1 => ?_)
  · refine rr_iconst pf_236_18 ?_
    obtain ⟨M2, ⟨kq3, pS_M2, pf_M2⟩, hcM2⟩ := ct_RS_must (xs := xs) (L := L) (d := d) (u := 0) (E := E) (s := s) (b := s.i) (by omega) hW q0.1 q0.2.1 hs hf (by omega)
    have q3 := qk_trm q0 kq3 (by decide)
    have rq5 := fz_tr (fz_rf [14, 15, 16, 17, 18, 19, 23, 26, 29, 30] M0) pf_M2 (by decide)
    refine rr_cV1 pf_236_19 po_236 pc_9_309 (ws_228 hW) po_227 (by decide) rfl hcM2 ?_
    rw [mst0] at pS_M2
    refine rr_aload_n pf_236_22 rfl ?_
    refine vr_getZ q3 pf_236_23 po_236 pg_9_276 rfl (ws_228 hW) (by decide) (fun x6 hx6 rx6 => ?_)
    rw [pS_M2.h19] at hx6
    change x6 = 1 at hx6
    refine rr_if_ne 45 pf_236_26 (by decide) rx6 (fun c7 => ?_) (fun c7 => ?_)
    · refine rr_vret pf_236_45 pt_236 ⟨rfl, M2, rfl, q3, (by unfold rLeaf; rw [if_neg (by omega)]; exact pS_M2), (rq5)⟩
    · exfalso; omega
  · have hE1 := tkE_1 hs.hi (hK (by omega))
    refine rr_aload_n pf_236_5 rfl ?_
    refine vr_getI q0 pf_236_6 po_236 pg_9_344 rfl (ws_228 hW) (by decide) (fun x8 hx8 rx8 => ?_)
    rw [hs.h26] at hx8
    change x8 = ((s.lv : Nat) : Int) at hx8
    refine rr_bipush pf_236_9 (by decide) ?_
    refine rr_icmp_ge 18 pf_236_11 (by decide) rx8 (by unfold rg; omega) (fun c9 => ?_) (fun c9 => ?_)
    · refine rr_iconst pf_236_18 ?_
      obtain ⟨M10, ⟨kq11, pS_M10, pf_M10⟩, hcM10⟩ := ct_RS_must (xs := xs) (L := L) (d := d) (u := 0) (E := E) (s := s) (b := s.i) (by omega) hW q0.1 q0.2.1 hs hf (by omega)
      have q11 := qk_trm q0 kq11 (by decide)
      have rq13 := fz_tr (fz_rf [14, 15, 16, 17, 18, 19, 23, 26, 29, 30] M0) pf_M10 (by decide)
      refine rr_cV1 pf_236_19 po_236 pc_9_309 (ws_228 hW) po_227 (by decide) rfl hcM10 ?_
      rw [mst0] at pS_M10
      refine rr_aload_n pf_236_22 rfl ?_
      refine vr_getZ q11 pf_236_23 po_236 pg_9_276 rfl (ws_228 hW) (by decide) (fun x14 hx14 rx14 => ?_)
      rw [pS_M10.h19] at hx14
      change x14 = 1 at hx14
      refine rr_if_ne 45 pf_236_26 (by decide) rx14 (fun c15 => ?_) (fun c15 => ?_)
      · refine rr_vret pf_236_45 pt_236 ⟨rfl, M10, rfl, q11, (by unfold rLeaf; rw [if_neg (by omega)]; exact pS_M10), (rq13)⟩
      · exfalso; omega
    · refine rr_iconst pf_236_14 ?_
      refine rr_goto 19 pf_236_15 (by decide) ?_
      obtain ⟨M16, ⟨kq17, pS_M16, pf_M16⟩, hcM16⟩ := ct_RS_must (xs := xs) (L := L) (d := d) (u := 1) (E := E) (s := s) (b := s.i) (by omega) hW q0.1 q0.2.1 hs hf (by omega)
      have q17 := qk_trm q0 kq17 (by decide)
      have rq19 := fz_tr (fz_rf [14, 15, 16, 17, 18, 19, 23, 26, 29, 30] M0) pf_M16 (by decide)
      refine rr_cV1 pf_236_19 po_236 pc_9_309 (ws_228 hW) po_227 (by decide) rfl hcM16 ?_
      rw [mst1] at pS_M16
      refine rr_aload_n pf_236_22 rfl ?_
      refine vr_getZ q17 pf_236_23 po_236 pg_9_276 rfl (ws_228 hW) (by decide) (fun x20 hx20 rx20 => ?_)
      rw [pS_M16.h19] at hx20
      change x20 = s.flt at hx20
      rw [hf] at hx20
      refine rr_if_ne 45 pf_236_26 (by decide) rx20 (fun c21 => ?_) (fun c21 => ?_)
      · exfalso; omega
      · refine rr_aload_n pf_236_29 rfl ?_
        refine rr_iload_n pf_236_30 rfl ?_
        refine rr_iload_n pf_236_31 rfl ?_
        obtain ⟨M22, ⟨kq23, pS_M22, pf_M22⟩, hcM22⟩ := ct_RS_emit (xs := xs) (L := L) (d := d) (a := x_) (b_ := y_) (E := E) (s := (nxS E s)) (b := s.i) (by omega) hW q17.1 q17.2.1 pS_M16 (by omega) hx_ hy_
        have q23 := qk_trm q17 kq23 (by decide)
        have rq25 := fz_tr rq19 pf_M22 (by decide)
        refine rr_cV2 pf_236_32 po_236 pc_9_322 (ws_228 hW) po_237 (by decide) rfl hcM22 ?_
        refine rr_aload_n pf_236_35 rfl ?_
        refine rr_dup pf_236_36 rfl ?_
        refine vr_getI q23 pf_236_37 po_236 pg_9_344 rfl (ws_228 hW) (by decide) (fun x26 hx26 rx26 => ?_)
        rw [pS_M22.h26] at hx26
        change x26 = ((s.lv : Nat) : Int) at hx26
        refine rr_iconst pf_236_40 ?_
        refine rr_iadd pf_236_41 ?_
        refine vr_putI hW q23 pf_236_42 po_236 pg_9_344 (Or.inl rfl) rfl (ws_228 hW) (by decide) (by unfold rg; omega) (by decide) (fun M27 eM27 q28 => ?_)
        have rq29 := fz_up rq25 eM27 (by decide)
        have hsM27 := RS_lv pS_M22 eM27 (by show _ = ((s.lv : Nat) : Int) + 1; omega) (by show s.lv < 50; omega)
        refine rr_vret pf_236_45 pt_236 ⟨rfl, M27, rfl, q28, (by unfold rLeaf; rw [if_pos (by omega)]; exact RS_b hsM27 (Nat.le_trans hsM27.hnb (by show _ ≤ tkE E.tn E.tb s.i; omega)) (by show tkE E.tn E.tb s.i ≤ 400; omega)), (rq29)⟩
