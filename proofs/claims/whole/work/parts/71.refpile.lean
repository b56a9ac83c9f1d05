/-! the reference's reader: the pile -/
abbrev rd_P : Type := List (Int × Int)
def plR (M : Nat → Nat → Int) (pl : rd_P) : Prop := lsOK (M 241) (pl.map (fun e => e.1)) ∧ lsOK (M 242) (pl.map (fun e => e.2))
def plB (pl : rd_P) : Prop := ∀ e ∈ pl, (0 ≤ e.1 ∧ e.1 ≤ 40) ∧ 0 ≤ e.2 ∧ e.2 < 400
theorem plR_top {M : Nat → Nat → Int} {e : Int × Int} {r : rd_P} (h : plR M (e :: r)) : M 241 r.length = e.1 ∧ M 242 r.length = e.2 := by
  have a := ls_top (x := e.1) (r := r.map (fun e => e.1)) h.1
  have b := ls_top (x := e.2) (r := r.map (fun e => e.2)) h.2
  rw [List.length_map] at a b
  exact ⟨a, b⟩
theorem plR_pop {M : Nat → Nat → Int} {e : Int × Int} {r : rd_P} (h : plR M (e :: r)) : plR M r := ⟨ls_pop (x := e.1) h.1, ls_pop (x := e.2) h.2⟩
theorem plR_push {M M2 : Nat → Nat → Int} {a b : Int} {r : rd_P} (h : plR M r) (h1 : M2 241 = fup (M 241) r.length a) (h2 : M2 242 = fup (M 242) r.length b) : plR M2 ((a, b) :: r) := by
  refine ⟨ls_push (x := a) (r := r.map (fun e => e.1)) h.1 ?_ ?_, ls_push (x := b) (r := r.map (fun e => e.2)) h.2 ?_ ?_⟩
  · rw [List.length_map, h1, fup_s]
  · intro j hj; rw [List.length_map] at hj; rw [h1, fup_n (by omega)]
  · rw [List.length_map, h2, fup_s]
  · intro j hj; rw [List.length_map] at hj; rw [h2, fup_n (by omega)]
theorem plR_q {M M2 : Nat → Nat → Int} {pl : rd_P} (h : plR M pl) (h1 : M2 241 = M 241) (h2 : M2 242 = M 242) : plR M2 pl := by unfold plR; rw [h1, h2]; exact h
abbrev rd_S : Type := rd_P × Nat × (Nat → Int) × (Nat → Int)
def stl (least : Int) : rd_P → Nat → (Nat → Int) → (Nat → Int) → rd_S
  | [], nc, o, a => ([], nc, o, a)
  | e :: r, nc, o, a => if least ≤ bnd_ e.1 then (if e.1 = 29 ∨ e.1 = 30 then stl least r nc o (fup a e.2.toNat ((nc : Nat) : Int)) else stl least r (nc + 1) (fup o nc e.1) (fup a nc 0)) else (e :: r, nc, o, a)
def innF (g : Nat → Int) : Nat → Int
  | 0 => -1
  | k + 1 => if 31 ≤ g k then g k else innF g k
def cmpF (g : Nat → Int) : Nat → Bool
  | 0 => false
  | k + 1 => if 20 ≤ g k ∧ g k ≤ 24 then cmpF g k else decide (25 ≤ g k ∧ g k ≤ 27)
def pAt (f : Nat → Int) (k0 : Nat) (w : Int) : Nat → Int
  | 0 => -1
  | k + 1 => if k0 = 1 ∧ w = f k then ((k : Nat) : Int) + 1 else pAt f k0 w k
theorem pAt_b (f : Nat → Int) (k0 : Nat) (w : Int) : ∀ k, -1 ≤ pAt f k0 w k ∧ pAt f k0 w k ≤ k := by
  intro k
  induction k with
  | zero => simp [pAt]
  | succ k ih => simp only [pAt]; split <;> omega
theorem lp_R_settle_0 {xs : Nat → Int} {L d : Nat} {sh : List (Nat × Nat)} (hd : 1 ≤ d) (hW : px_W0 <+: sh) {M0 : Nat → Nat → Int}  {le : Int} (hle : rg le) {R : rd_S} {Q : Option Value → px_H → Prop} (kx : ∀ (pl : rd_P) (nc : Nat) (o : Nat → Int) (a : Nat → Int) (M : Nat → Nat → Int), px_qk sh [228, 239, 240] M0 M → (fz [23, 29] M0 M) → (M 228 29 = ((R.1.length : Nat) : Int) ∧ M 228 23 = ((R.2.1 : Nat) : Int) ∧ M 239 = R.2.2.1 ∧ M 240 = R.2.2.2 ∧ plR M R.1 ∧ plB R.1 ∧ R.2.1 + R.1.length ≤ 400) → px_R xs L d 241 (101, [.ref 228, .int (iI (le))], [], (sh, M)) Q)  : ∀ (mz : Nat) (pl : rd_P) (nc : Nat) (o : Nat → Int) (a : Nat → Int) (M : Nat → Nat → Int), pl.length = mz → px_qk sh [228, 239, 240] M0 M → (fz [23, 29] M0 M) → (M 228 29 = ((pl.length : Nat) : Int)) → (M 228 23 = ((nc : Nat) : Int)) → (nc + pl.length ≤ 400) → (plB pl) → (plR M pl) → (M 239 = o) → (M 240 = a) → (stl le pl nc o a = R) → px_R xs L d 241 (0, [.ref 228, .int (iI (le))], [], (sh, M)) Q := by
  intro mz
  induction mz using Nat.strongRecOn with
  | _ mz ih =>
    intro pl nc o a M hm hq hrq h29 h23 hnb hpb hpl ho ha hst
    refine rr_aload_n pf_241_0 rfl ?_
    refine vr_getI hq pf_241_1 po_241 pg_9_316 rfl (ws_228 hW) (by decide) (fun x1 hx1 rx1 => ?_)
    rw [h29] at hx1
    refine rr_if_le 101 pf_241_4 (by decide) rx1 (fun c2 => ?_) (fun c2 => ?_)
    · exact kx pl nc o a M hq (hrq) (by
                  have hR : (pl, nc, o, a) = R := by
                    rw [← hst]; rw [show pl = [] from List.length_eq_zero_iff.mp (by omega)]; rfl
                  rw [← hR]; exact ⟨h29, h23, ho, ha, hpl, hpb, hnb⟩)
    · obtain ⟨e, r, rfl⟩ : ∃ e r, pl = e :: r := by
        cases pl with
        | nil => simp at *; omega
        | cons e r => exact ⟨e, r, rfl⟩
      have hlen : (e :: r).length = r.length + 1 := rfl
      rw [hlen] at h29 hnb hm
      have htop := plR_top hpl
      rw [hq.2.2 241 (by decide), hq.2.2 242 (by decide)] at htop
      have heb := hpb e List.mem_cons_self
      have hbb := bnd_b e.1
      refine rr_aload_n pf_241_7 rfl ?_
      refine rr_getR pf_241_8 po_241 pg_9_51 rfl (ws_228 hW) (by decide) (wr_228_27 hq.1) ?_
      refine rr_aload_n pf_241_11 rfl ?_
      refine vr_getI hq pf_241_12 po_241 pg_9_316 rfl (ws_228 hW) (by decide) (fun x3 hx3 rx3 => ?_)
      rw [h29] at hx3
      refine rr_iconst pf_241_15 ?_
      refine rr_isub pf_241_16 ?_
      refine vr_iald (j := r.length) hq pf_241_17 (ws_241 hW) (by omega) (by omega) (by decide) (fun x4 hx4 rx4 => ?_)
      rw [hq.2.2 241 (by decide)] at hx4
      rw [htop.1] at hx4
      obtain ⟨r7, M5, ⟨kq6, pv_M5⟩, hcM5⟩ := ct_R_binds (xs := xs) (L := L) (d := d) (a := x4) (by omega) hW hq.1 hq.2.1 (by unfold rg; omega)
      obtain rfl := qk_nil kq6
      refine rr_cS1 pf_241_18 po_241 pc_9_319 (by decide) rfl hcM5 ?_
      rw [show x4 = e.1 by omega] at pv_M5
      refine rr_iload_n pf_241_21 rfl ?_
      refine rr_icmp_lt 101 pf_241_22 (by decide) (by unfold rg; omega) hle (fun c8 => ?_) (fun c8 => ?_)
      · exact kx (e :: r) nc o a M hq (hrq) (by
                      have hR : (e :: r, nc, o, a) = R := by
                        rw [← hst]; rw [stl, if_neg (by omega)]
                      rw [← hR]; exact ⟨by rw [hlen]; exact h29, h23, ho, ha, hpl, hpb, by rw [hlen]; exact hnb⟩)
      · refine rr_aload_n pf_241_25 rfl ?_
        refine rr_dup pf_241_26 rfl ?_
        refine vr_getI hq pf_241_27 po_241 pg_9_316 rfl (ws_228 hW) (by decide) (fun x9 hx9 rx9 => ?_)
        rw [h29] at hx9
        refine rr_iconst pf_241_30 ?_
        refine rr_isub pf_241_31 ?_
        refine vr_putI hW hq pf_241_32 po_241 pg_9_316 (Or.inl rfl) rfl (ws_228 hW) (by decide) (by unfold rg; omega) (by decide) (fun M10 eM10 q11 => ?_)
        have rq12 := fz_up hrq eM10 (by decide)
        refine rr_aload_n pf_241_35 rfl ?_
        refine rr_getR pf_241_36 po_241 pg_9_51 rfl (ws_228 hW) (by decide) (wr_228_27 q11.1) ?_
        refine rr_aload_n pf_241_39 rfl ?_
        refine vr_getI q11 pf_241_40 po_241 pg_9_316 rfl (ws_228 hW) (by decide) (fun x13 hx13 rx13 => ?_)
        rw [eM10, up_s] at hx13
        refine vr_iald (j := r.length) q11 pf_241_43 (ws_241 hW) (by omega) (by omega) (by decide) (fun x14 hx14 rx14 => ?_)
        rw [q11.2.2 241 (by decide)] at hx14
        rw [htop.1] at hx14
        refine rr_bipush pf_241_44 (by decide) ?_
        refine rr_icmp_eq 63 pf_241_46 (by decide) rx14 (by unfold rg; omega) (fun c15 => ?_) (fun c15 => ?_)
        · refine rr_aload_n pf_241_63 rfl ?_
          refine rr_getR pf_241_64 po_241 pg_9_48 rfl (ws_228 hW) (by decide) (wr_228_25 q11.1) ?_
          refine rr_aload_n pf_241_67 rfl ?_
          refine rr_getR pf_241_68 po_241 pg_9_54 rfl (ws_228 hW) (by decide) (wr_228_28 q11.1) ?_
          refine rr_aload_n pf_241_71 rfl ?_
          refine vr_getI q11 pf_241_72 po_241 pg_9_316 rfl (ws_228 hW) (by decide) (fun x16 hx16 rx16 => ?_)
          rw [eM10, up_s] at hx16
          refine vr_iald (j := r.length) q11 pf_241_75 (ws_242 hW) (by omega) (by omega) (by decide) (fun x17 hx17 rx17 => ?_)
          rw [q11.2.2 242 (by decide)] at hx17
          rw [htop.2] at hx17
          refine rr_aload_n pf_241_76 rfl ?_
          refine vr_getI q11 pf_241_77 po_241 pg_9_313 rfl (ws_228 hW) (by decide) (fun x18 hx18 rx18 => ?_)
          rw [eM10, up_ne (by decide), h23] at hx18
          refine vr_iast (j := e.2.toNat) hW q11 pf_241_80 (ws_240 hW) (by omega) (by omega) (by decide) rx18 (by decide) (fun M19 eM19 q20 => ?_)
          have rq21 := fz_ne rq12 eM19 (by decide)
          refine rr_goto 0 pf_241_81 (by decide) ?_
          exact ih _ (by omega) r nc o (fup a e.2.toNat ((nc : Nat) : Int)) M19 rfl q20 (rq21) (by rw [eM19, ask_ne (by decide), eM10, up_s]; omega) (by rw [eM19, ask_ne (by decide), eM10, up_ne (by decide)]; exact h23) (by omega) (fun x hx => hpb x (List.mem_cons_of_mem _ hx)) (plR_q (plR_pop hpl) (by rw [eM19, ask_ne (by decide), eM10, ask_ne (by decide)]) (by rw [eM19, ask_ne (by decide), eM10, ask_ne (by decide)])) (by rw [eM19, ask_ne (by decide), eM10, ask_ne (by decide)]; exact ho) (by rw [up_fup eM19, eM10, ask_ne (by decide), ha]; first | (congr 1; done) | (congr 1; omega)) (by rw [stl, if_pos (by omega), if_pos (by omega)] at hst; exact hst)
        · refine rr_aload_n pf_241_49 rfl ?_
          refine rr_getR pf_241_50 po_241 pg_9_51 rfl (ws_228 hW) (by decide) (wr_228_27 q11.1) ?_
          refine rr_aload_n pf_241_53 rfl ?_
          refine vr_getI q11 pf_241_54 po_241 pg_9_316 rfl (ws_228 hW) (by decide) (fun x22 hx22 rx22 => ?_)
          rw [eM10, up_s] at hx22
          refine vr_iald (j := r.length) q11 pf_241_57 (ws_241 hW) (by omega) (by omega) (by decide) (fun x23 hx23 rx23 => ?_)
          rw [q11.2.2 241 (by decide)] at hx23
          rw [htop.1] at hx23
          refine rr_bipush pf_241_58 (by decide) ?_
          refine rr_icmp_ne 84 pf_241_60 (by decide) rx23 (by unfold rg; omega) (fun c24 => ?_) (fun c24 => ?_)
          · refine rr_aload_n pf_241_84 rfl ?_
            refine rr_aload_n pf_241_85 rfl ?_
            refine rr_getR pf_241_86 po_241 pg_9_51 rfl (ws_228 hW) (by decide) (wr_228_27 q11.1) ?_
            refine rr_aload_n pf_241_89 rfl ?_
            refine vr_getI q11 pf_241_90 po_241 pg_9_316 rfl (ws_228 hW) (by decide) (fun x25 hx25 rx25 => ?_)
            rw [eM10, up_s] at hx25
            refine vr_iald (j := r.length) q11 pf_241_93 (ws_241 hW) (by omega) (by omega) (by decide) (fun x26 hx26 rx26 => ?_)
            rw [q11.2.2 241 (by decide)] at hx26
            rw [htop.1] at hx26
            refine rr_iconst pf_241_94 ?_
            obtain ⟨M27, ⟨kq28, pa_M27, pb_M27, pk_M27, pf_M27⟩, hcM27⟩ := ct_R_emit (xs := xs) (L := L) (d := d) (a := x26) (b := 0) (k := nc) (by omega) hW q11.1 q11.2.1 (by rw [eM10, up_ne (by decide)]; exact h23) (by omega) (by unfold rg; omega) (by unfold rg; omega)
            have q28 := qk_trm q11 kq28 (by decide)
            have rq30 := fz_tr rq12 pf_M27 (by decide)
            refine rr_cV2 pf_241_95 po_241 pc_9_322 (ws_228 hW) po_237 (by decide) rfl hcM27 ?_
            refine rr_goto 0 pf_241_98 (by decide) ?_
            exact ih _ (by omega) r (nc + 1) (fup o nc e.1) (fup a nc 0) M27 rfl q28 (rq30) (by rw [pf_M27 29 (by decide), eM10, up_s]; omega) (pk_M27) (by omega) (fun x hx => hpb x (List.mem_cons_of_mem _ hx)) (plR_q (plR_pop hpl) (by rw [kq28.2.2 241 (by decide), eM10, ask_ne (by decide)]) (by rw [kq28.2.2 242 (by decide), eM10, ask_ne (by decide)])) (by rw [pa_M27, eM10, ask_ne (by decide), ho]; first | (congr 1; done) | (congr 1; omega)) (by rw [pb_M27, eM10, ask_ne (by decide), ha]) (by rw [stl, if_pos (by omega), if_neg (by omega)] at hst; exact hst)
          · refine rr_aload_n pf_241_63 rfl ?_
            refine rr_getR pf_241_64 po_241 pg_9_48 rfl (ws_228 hW) (by decide) (wr_228_25 q11.1) ?_
            refine rr_aload_n pf_241_67 rfl ?_
            refine rr_getR pf_241_68 po_241 pg_9_54 rfl (ws_228 hW) (by decide) (wr_228_28 q11.1) ?_
            refine rr_aload_n pf_241_71 rfl ?_
            refine vr_getI q11 pf_241_72 po_241 pg_9_316 rfl (ws_228 hW) (by decide) (fun x31 hx31 rx31 => ?_)
            rw [eM10, up_s] at hx31
            refine vr_iald (j := r.length) q11 pf_241_75 (ws_242 hW) (by omega) (by omega) (by decide) (fun x32 hx32 rx32 => ?_)
            rw [q11.2.2 242 (by decide)] at hx32
            rw [htop.2] at hx32
            refine rr_aload_n pf_241_76 rfl ?_
            refine vr_getI q11 pf_241_77 po_241 pg_9_313 rfl (ws_228 hW) (by decide) (fun x33 hx33 rx33 => ?_)
            rw [eM10, up_ne (by decide), h23] at hx33
            refine vr_iast (j := e.2.toNat) hW q11 pf_241_80 (ws_240 hW) (by omega) (by omega) (by decide) rx33 (by decide) (fun M34 eM34 q35 => ?_)
            have rq36 := fz_ne rq12 eM34 (by decide)
            refine rr_goto 0 pf_241_81 (by decide) ?_
            exact ih _ (by omega) r nc o (fup a e.2.toNat ((nc : Nat) : Int)) M34 rfl q35 (rq36) (by rw [eM34, ask_ne (by decide), eM10, up_s]; omega) (by rw [eM34, ask_ne (by decide), eM10, up_ne (by decide)]; exact h23) (by omega) (fun x hx => hpb x (List.mem_cons_of_mem _ hx)) (plR_q (plR_pop hpl) (by rw [eM34, ask_ne (by decide), eM10, ask_ne (by decide)]) (by rw [eM34, ask_ne (by decide), eM10, ask_ne (by decide)])) (by rw [eM34, ask_ne (by decide), eM10, ask_ne (by decide)]; exact ho) (by rw [up_fup eM34, eM10, ask_ne (by decide), ha]; first | (congr 1; done) | (congr 1; omega)) (by rw [stl, if_pos (by omega), if_pos (by omega)] at hst; exact hst)
theorem ct_R_settle {xs : Nat → Int} {L d : Nat} {sh : List (Nat × Nat)} {M0 : Nat → Nat → Int} (hd : 2 ≤ d) (hW : px_W0 <+: sh) (hF : px_Fx M0) (hG : px_RG sh M0)  {pl : rd_P} (h29 : M0 228 29 = ((pl.length : Nat) : Int)) {nc : Nat} (h23 : M0 228 23 = ((nc : Nat) : Int)) (hnb : nc + pl.length ≤ 400) (hpb : plB pl) (hpl : plR M0 pl) {le : Int} (hle : rg le) : ∃ M, (px_qk sh [228, 239, 240] M0 M ∧ (∃ R, R = stl le pl nc (M0 239) (M0 240) ∧ M 228 29 = ((R.1.length : Nat) : Int) ∧ M 228 23 = ((R.2.1 : Nat) : Int) ∧ M 239 = R.2.2.1 ∧ M 240 = R.2.2.2 ∧ plR M R.1 ∧ plB R.1 ∧ R.2.1 + R.1.length ≤ 400) ∧ (fz [23, 29] M0 M)) ∧ px_Cl xs L d 241 [.ref 228, .int (iI (le))] (sh, M0) (none) (sh, M) := by
  obtain ⟨d, rfl⟩ : ∃ e, d = e + 1 := ⟨d - 1, by omega⟩
  have q0 : px_qk sh [228, 239, 240] M0 M0 := ⟨hF, hG, eo_rf⟩
  refine vc_n (Nat.le_of_ble_eq_true rfl) ?_
  show px_R xs L d 241 (0, [.ref 228, .int (iI (le))], [], (sh, M0)) (fun r h' => r = none ∧ ∃ M', h' = (sh, M') ∧ px_qk sh [228, 239, 240] M0 M' ∧ (∃ R, R = stl le pl nc (M0 239) (M0 240) ∧ M' 228 29 = ((R.1.length : Nat) : Int) ∧ M' 228 23 = ((R.2.1 : Nat) : Int) ∧ M' 239 = R.2.2.1 ∧ M' 240 = R.2.2.2 ∧ plR M' R.1 ∧ plB R.1 ∧ R.2.1 + R.1.length ≤ 400) ∧ fz [23, 29] M0 M')
  refine lp_R_settle_0 (xs := xs) (L := L) (d := d) (by omega) hW hle (fun pl_1 nc_2 o_3 a_4  M5 q6 xrq_M5 xR_M5 => ?_) _ pl nc (M0 239) (M0 240) M0 rfl q0 ((fz_rf [23, 29] M0)) (h29) (h23) (hnb) (hpb) (hpl) (by rfl) (by rfl) (by rfl)
  refine rr_vret pf_241_101 pt_241 ⟨rfl, M5, rfl, q6, (⟨_, rfl, xR_M5⟩), (xrq_M5)⟩
