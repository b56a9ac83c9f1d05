/-! the reference's reader: a law's clause -/
def kAt (f : Nat → Int) (k0 : Nat) (w : Int) : Nat → Int
  | 0 => -1
  | k + 1 => if k0 = 1 ∧ w = f k then ((k : Nat) : Int) else kAt f k0 w k
theorem kAt_b (f : Nat → Int) (k0 : Nat) (w : Int) : ∀ k, -1 ≤ kAt f k0 w k ∧ kAt f k0 w k < k := by
  intro k
  induction k with
  | zero => simp [kAt]
  | succ k ih => simp only [kAt]; split <;> omega
def zr (g : Nat → Int) (p : Nat) : Nat → Nat → Int
  | 0 => g
  | j + 1 => fup (zr g p j) (p + j) 0
section RTD
variable {sh : List (Nat × Nat)} {M M2 : Nat → Nat → Int} {E : rdE} {b : Nat} {s : rdS}
theorem RT_nil (q : px_qk sh [] M M2) (h : RT M E b s) : RT M2 E b s := by rw [← qk_nil q]; exact h
theorem RT_k {A : List Nat} (h : RT M E b s) (q : px_qk sh A M M2) (h8 : 228 ∉ A) (hA : ∀ a ∈ [237, 239, 240, 243, 244], a ∉ A) : RT M2 E b s := RT_fr (X := []) h (fz_q (fz_rf [] M) q h8) (fun _ _ h => absurd h List.not_mem_nil) q.2.2 hA
theorem RT_u {c j : Nat} {x : Int} (h : RT M E b s) (e : M2 = px_up M c j x) (h8 : 228 ≠ c) (hA : ∀ a ∈ [237, 239, 240, 243, 244], a ≠ c) : RT M2 E b s := RT_fr (X := []) (A := [c]) h (fz_ne (fz_rf [] M) e h8) (fun _ _ h => absurd h List.not_mem_nil) (fun a ha => by rw [e, ask_ne (fun z => ha (by rw [z]; exact List.mem_cons_self))]) (fun a ha hb => hA a ha (List.mem_singleton.mp hb))
theorem RT_21 {x : Int} (h : RT M E b s) (e : M2 = px_up M 228 21 x) : RT M2 E b s := RT_fr (X := [21]) (A := [228]) h (fz_up (fz_rf [21] M) e (by decide)) (by decide) (fun a ha => by rw [e, ask_ne (fun z => ha (by rw [z]; exact List.mem_cons_self))]) (by decide)
theorem RT_nb (hi : s.i ≤ E.tn) (h0 : s.nc ≤ s.i) (h : RT M E b (nxS E s)) : RT M E (nxS E s).i (nxS E s) := by
  have a := tkS_b (tb := E.tb) hi
  have a2 := tkE_b (tb := E.tb) hi
  have htn := h.htn
  exact RT_b h (by show s.nc ≤ tkE E.tn E.tb s.i; omega) (by show tkE E.tn E.tb s.i ≤ 400; omega)
end RTD
def eqI (a b : Int) : Prop := a = b
def lw1 (E : rdE) (k : Int) (s : rdS) : rdS := if k = 3 then nxS E s else rExp E 0 (nxS E s)
def lw2 (E : rdE) (s : rdS) : rdS := if s.flt = 0 ∧ rK E s = 1 ∧ rW E s = 294 then rExp E 1 (nxS E s) else s
def lwC (E : rdE) (k : Int) (s : rdS) (nl : Nat) (c : Nat → Int) : Nat → Int := fup (fup (fup (fup (fup (zr c (8 * nl) 8) (8 * nl) k) (8 * nl + 3) (((nxS E s).nc : Nat) : Int)) (8 * nl + 4) (((lw1 E k s).nc : Nat) : Int)) (8 * nl + 5) (((lw1 E k s).nc : Nat) : Int)) (8 * nl + 6) (((lw2 E (lw1 E k s)).nc : Nat) : Int)
theorem lp_R_readLaw_75 {xs : Nat → Int} {L d : Nat} {sh : List (Nat × Nat)} (hd : 7 ≤ d) (hW : px_W0 <+: sh) {M0 : Nat → Nat → Int}  {nl : Nat} (hnl2 : nl < 12) {k_ p_ : Int} (hp_ : p_ = 8 * ((nl : Nat) : Int))  {Q : Option Value → px_H → Prop} (kx : ∀ (j : Nat) (M : Nat → Nat → Int), px_qk sh [238] M0 M → (M 238 = zr (M0 238) (8 * nl) 8) → px_R xs L d 225 (96, [.ref 228, .int (iI (k_)), .int (iI (p_)), .int (iI (((j : Nat) : Int)))], [], (sh, M)) Q)  : ∀ (mz : Nat) (j : Nat) (M : Nat → Nat → Int), 8 - j = mz → px_qk sh [238] M0 M → (j ≤ 8) → (M 238 = zr (M0 238) (8 * nl) j) → px_R xs L d 225 (75, [.ref 228, .int (iI (k_)), .int (iI (p_)), .int (iI (((j : Nat) : Int)))], [], (sh, M)) Q := by
  intro mz
  induction mz using Nat.strongRecOn with
  | _ mz ih =>
    intro j M hm hq hj hz
    refine rr_iload_n pf_225_75 rfl ?_
    refine rr_bipush pf_225_76 (by decide) ?_
    refine rr_icmp_ge 96 pf_225_78 (by decide) (by unfold rg; omega) (by unfold rg; omega) (fun c1 => ?_) (fun c1 => ?_)
    · exact kx j M hq (by rw [hz, show j = 8 by omega])
    · refine rr_aload_n pf_225_81 rfl ?_
      refine rr_getR pf_225_82 po_225 pg_9_42 rfl (ws_228 hW) (by decide) (wr_228_22 hq.1) ?_
      refine rr_iload_n pf_225_85 rfl ?_
      refine rr_iload_n pf_225_86 rfl ?_
      refine rr_iadd pf_225_87 ?_
      refine rr_iconst pf_225_88 ?_
      refine vr_iast (j := (8 * nl + j)) hW hq pf_225_89 (ws_238 hW) (by omega) (by omega) (by decide) (by unfold rg; omega) (by decide) (fun M2 eM2 q3 => ?_)
      refine rr_iinc pf_225_90 rfl (fun y => [.ref 228, .int (iI (k_)), .int (iI (p_)), .int (iI (y))]) (fun _ => rfl) (fun y4 hy4 => ?_)
      refine rr_goto 75 pf_225_93 (by decide) ?_
      obtain ⟨nz5, hnz5, rfl⟩ : ∃ zz : Nat, zz = 1 + j ∧ y4 = ((zz : Nat) : Int) := ⟨1 + j, rfl, by omega⟩
      exact ih _ (by omega) nz5 M2 rfl q3 (by omega) (by rw [show nz5 = j + 1 by omega, zr, ← hz]; exact up_fup eM2)
theorem lp_R_readLaw_4 {xs : Nat → Int} {L d : Nat} {sh : List (Nat × Nat)} (hd : 7 ≤ d) (hW : px_W0 <+: sh) {M0 : Nat → Nat → Int}  {E : rdE} {s : rdS} (hs : RT M0 E s.i s) {lw : Nat → Int} (hlw : ∀ k, k < 4 → M0 245 k = lw k ∧ 0 ≤ lw k ∧ lw k ≤ 1125899906842624)  {Q : Option Value → px_H → Prop} (kx : ∀ (its : Int) (k : Nat) (v3 : Value) (M : Nat → Nat → Int), px_qk sh [] M0 M → (its = kAt lw (rK E s) (rW E s) 4) → px_R xs L d 225 (34, [.ref 228, .int (iI (its)), .int (iI (((k : Nat) : Int))), v3], [], (sh, M)) Q)  : ∀ (mz : Nat) (its : Int) (k : Nat) (v3 : Value) (M : Nat → Nat → Int), 4 - k = mz → px_qk sh [] M0 M → (k ≤ 4) → (its = kAt lw (rK E s) (rW E s) k) → px_R xs L d 225 (4, [.ref 228, .int (iI (its)), .int (iI (((k : Nat) : Int))), v3], [], (sh, M)) Q := by
  intro mz
  induction mz using Nat.strongRecOn with
  | _ mz ih =>
    intro its k v3 M hm hq hk hI
    have hpb := kAt_b lw (rK E s) (rW E s) k
    refine rr_iload_n pf_225_4 rfl ?_
    refine rr_iconst pf_225_5 ?_
    refine rr_icmp_ge 34 pf_225_6 (by decide) (by unfold rg; omega) (by unfold rg; omega) (fun c1 => ?_) (fun c1 => ?_)
    · exact kx its k _ M hq (by rw [hI, show k = 4 by omega])
    · refine rr_aload_n pf_225_9 rfl ?_
      refine rr_aload_n pf_225_10 rfl ?_
      refine rr_getR pf_225_11 po_225 pg_9_104 rfl (ws_228 hW) (by decide) (wr_228_33 hq.1) ?_
      refine rr_iload_n pf_225_14 rfl ?_
      refine vr_lald (j := k) hq pf_225_15 (ws_245 hW) (by omega) (by omega) (by decide) (fun x2 hx2 rx2 => ?_)
      rw [hq.2.2 245 (by decide)] at hx2
      rw [(hlw k (by omega)).1] at hx2
      have hfb := (hlw k (by omega)).2
      obtain ⟨M3, kq4, hcM3⟩ := ct_RT_isWord (xs := xs) (L := L) (d := d) (u := x2) (E := E) (s := s) (b := s.i) (by omega) hW hq.1 hq.2.1 (RT_nil hq hs) (by unfold rl; omega)
      obtain rfl := qk_nil kq4
      refine rr_cV1 pf_225_16 po_225 pc_9_334 (ws_228 hW) po_226 (by decide) rfl hcM3 ?_
      refine rr_ifb_eq 26 pf_225_19 (by decide) (fun c6 => ?_) (fun c6 => ?_)
      · refine rr_iload_n pf_225_26 rfl ?_
        refine rr_istore_n pf_225_27 (fun y => [.ref 228, .int (iI (y)), .int (iI (((k : Nat) : Int))), v3]) (Nat.le_of_ble_eq_true rfl) (fun _ => rfl) (fun y7 hy7 => ?_)
        refine rr_iinc pf_225_28 rfl (fun y => [.ref 228, .int (iI (y7)), .int (iI (y)), v3]) (fun _ => rfl) (fun y8 hy8 => ?_)
        refine rr_goto 4 pf_225_31 (by decide) ?_
        obtain ⟨nz9, hnz9, rfl⟩ : ∃ zz : Nat, zz = 1 + k ∧ y8 = ((zz : Nat) : Int) := ⟨1 + k, rfl, by omega⟩
        exact ih _ (by omega) y7 nz9 _ M rfl hq (by omega) (by rw [show nz9 = k + 1 by omega, kAt, if_neg (by omega)]; omega)
      · refine rr_iload_n pf_225_22 rfl ?_
        refine rr_goto 27 pf_225_23 (by decide) ?_
        refine rr_istore_n pf_225_27 (fun y => [.ref 228, .int (iI (y)), .int (iI (((k : Nat) : Int))), v3]) (Nat.le_of_ble_eq_true rfl) (fun _ => rfl) (fun y10 hy10 => ?_)
        refine rr_iinc pf_225_28 rfl (fun y => [.ref 228, .int (iI (y10)), .int (iI (y)), v3]) (fun _ => rfl) (fun y11 hy11 => ?_)
        refine rr_goto 4 pf_225_31 (by decide) ?_
        obtain ⟨nz12, hnz12, rfl⟩ : ∃ zz : Nat, zz = 1 + k ∧ y11 = ((zz : Nat) : Int) := ⟨1 + k, rfl, by omega⟩
        exact ih _ (by omega) y10 nz12 _ M rfl hq (by omega) (by rw [show nz12 = k + 1 by omega, kAt, if_pos (by omega)]; omega)
theorem ct_R_readLaw {xs : Nat → Int} {L d : Nat} {sh : List (Nat × Nat)} {M0 : Nat → Nat → Int} (hd : 8 ≤ d) (hW : px_W0 <+: sh) (hF : px_Fx M0) (hG : px_RG sh M0)  {E : rdE} {s : rdS} (hs : RT M0 E s.i s) (hf : s.flt = 0) {nl : Nat} (h21 : M0 228 21 = ((nl : Nat) : Int)) (hnl : nl ≤ 12) {lw : Nat → Int} (hlw : ∀ k, k < 4 → M0 245 k = lw k ∧ 0 ≤ lw k ∧ lw k ≤ 1125899906842624) : ∃ M, (px_qk sh [228, 238, 239, 240, 241, 242] M0 M ∧ (RT M E (if kAt lw (rK E s) (rW E s) 4 = -1 ∨ 12 ≤ nl then fl E s else lw2 E (lw1 E (kAt lw (rK E s) (rW E s) 4) s)).i (if kAt lw (rK E s) (rW E s) 4 = -1 ∨ 12 ≤ nl then fl E s else lw2 E (lw1 E (kAt lw (rK E s) (rW E s) 4) s))) ∧ (M 228 21 = (((if kAt lw (rK E s) (rW E s) 4 = -1 ∨ 12 ≤ nl then nl else nl + 1) : Nat) : Int)) ∧ (M 238 = if kAt lw (rK E s) (rW E s) 4 = -1 ∨ 12 ≤ nl then M0 238 else lwC E (kAt lw (rK E s) (rW E s) 4) s nl (M0 238)) ∧ (fz [14, 15, 16, 17, 18, 19, 23, 26, 29, 30, 21] M0 M)) ∧ px_Cl xs L d 225 [.ref 228] (sh, M0) (none) (sh, M) := by
  obtain ⟨d, rfl⟩ : ∃ e, d = e + 1 := ⟨d - 1, by omega⟩
  have q0 : px_qk sh [228, 238, 239, 240, 241, 242] M0 M0 := ⟨hF, hG, eo_rf⟩
  have hi := hs.hi
  have htn := hs.htn
  have hnb := hs.hnb
  refine vc_n (Nat.le_of_ble_eq_true rfl) ?_
  show px_R xs L d 225 (0, [.ref 228, px_jk, px_jk, px_jk], [], (sh, M0)) (fun r h' => r = none ∧ ∃ M', h' = (sh, M') ∧ px_qk sh [228, 238, 239, 240, 241, 242] M0 M' ∧ (RT M' E (if kAt lw (rK E s) (rW E s) 4 = -1 ∨ 12 ≤ nl then fl E s else lw2 E (lw1 E (kAt lw (rK E s) (rW E s) 4) s)).i (if kAt lw (rK E s) (rW E s) 4 = -1 ∨ 12 ≤ nl then fl E s else lw2 E (lw1 E (kAt lw (rK E s) (rW E s) 4) s))) ∧ (M' 228 21 = (((if kAt lw (rK E s) (rW E s) 4 = -1 ∨ 12 ≤ nl then nl else nl + 1) : Nat) : Int)) ∧ (M' 238 = if kAt lw (rK E s) (rW E s) 4 = -1 ∨ 12 ≤ nl then M0 238 else lwC E (kAt lw (rK E s) (rW E s) 4) s nl (M0 238)) ∧ fz [14, 15, 16, 17, 18, 19, 23, 26, 29, 30, 21] M0 M')
  refine rr_iconst pf_225_0 ?_
  refine rr_istore_n pf_225_1 (fun y => [.ref 228, .int (iI (y)), px_jk, px_jk]) (Nat.le_of_ble_eq_true rfl) (fun _ => rfl) (fun y1 hy1 => ?_)
  refine rr_iconst pf_225_2 ?_
  refine rr_istore_n pf_225_3 (fun y => [.ref 228, .int (iI (y1)), .int (iI (y)), px_jk]) (Nat.le_of_ble_eq_true rfl) (fun _ => rfl) (fun y2 hy2 => ?_)
  obtain ⟨nz3, hnz3, rfl⟩ : ∃ zz : Nat, zz = 0 ∧ y2 = ((zz : Nat) : Int) := ⟨0, rfl, by omega⟩
  refine lp_R_readLaw_4 (xs := xs) (L := L) (d := d) (by omega) hW hs hlw (fun its_4 k_5 v8 M6 q7 xI_M6 => ?_) _ y1 nz3 _ M0 rfl ⟨q0.1, q0.2.1, eo_rf⟩ (by omega) (by rw [show nz3 = 0 by omega]; exact hy1)
  have q9 := qk_trm q0 q7 (by decide)
  have rq10 := fz_q (fz_rf [14, 15, 16, 17, 18, 19, 23, 26, 29, 30, 21] M0) q7 (by decide)
  obtain rfl := qk_nil q7
  have hI := xI_M6
  have hkb := kAt_b lw (rK E s) (rW E s) 4
  refine rr_aload_n pf_225_34 rfl ?_
  refine rr_iload_n pf_225_35 rfl ?_
  refine rr_iconst pf_225_36 ?_
  refine rr_icmp_eq 53 pf_225_37 (by decide) (by unfold rg; omega) (by unfold rg; omega) (fun c11 => ?_) (fun c11 => ?_)
  · refine rr_iconst pf_225_53 ?_
    obtain ⟨M12, ⟨kq13, pS_M12, pf_M12⟩, hcM12⟩ := ct_RT_must (xs := xs) (L := L) (d := d) (u := 0) (E := E) (s := s) (b := s.i) (by omega) hW q9.1 q9.2.1 hs hf (by omega)
    have q13 := qk_trm q9 kq13 (by decide)
    have rq15 := fz_tr rq10 pf_M12 (by decide)
    refine rr_cV1 pf_225_54 po_225 pc_9_309 (ws_228 hW) po_227 (by decide) rfl hcM12 ?_
    rw [mst0] at pS_M12
    have cc16 : M12 238 = (M0 238) := by rw [kq13.2.2 238 (by decide), (rfl : M0 238 = M0 238)]
    have hk17 : M12 228 21 = ((nl : Nat) : Int) := (pf_M12 21 (by decide)).trans h21
    have hcond : kAt lw (rK E s) (rW E s) 4 = -1 ∨ 12 ≤ nl := by omega
    have hib : -1 ≤ its_4 ∧ its_4 < 4 := by omega
    have hJ : eqI its_4 (kAt lw (rK E s) (rW E s) 4) := hI
    clear hI hkb xI_M6
    
    refine rr_aload_n pf_225_57 rfl ?_
    refine vr_getZ q13 pf_225_58 po_225 pg_9_276 rfl (ws_228 hW) (by decide) (fun x18 hx18 rx18 => ?_)
    rw [pS_M12.h19] at hx18
    change x18 = 1 at hx18
    refine rr_if_eq 65 pf_225_61 (by decide) rx18 (fun c19 => ?_) (fun c19 => ?_)
    · exfalso; omega
    · refine rr_vret pf_225_64 pt_225 ⟨rfl, M12, rfl, q13, (by rw [if_pos hcond]; exact pS_M12), (by rw [if_pos hcond, pf_M12 21 (by decide)]; exact h21), (by rw [if_pos hcond]; exact cc16), (rq15)⟩
  · refine rr_aload_n pf_225_40 rfl ?_
    refine vr_getI q9 pf_225_41 po_225 pg_9_407 rfl (ws_228 hW) (by decide) (fun x20 hx20 rx20 => ?_)
    rw [h21] at hx20
    refine rr_bipush pf_225_44 (by decide) ?_
    refine rr_icmp_ge 53 pf_225_46 (by decide) rx20 (by unfold rg; omega) (fun c21 => ?_) (fun c21 => ?_)
    · refine rr_iconst pf_225_53 ?_
      obtain ⟨M22, ⟨kq23, pS_M22, pf_M22⟩, hcM22⟩ := ct_RT_must (xs := xs) (L := L) (d := d) (u := 0) (E := E) (s := s) (b := s.i) (by omega) hW q9.1 q9.2.1 hs hf (by omega)
      have q23 := qk_trm q9 kq23 (by decide)
      have rq25 := fz_tr rq10 pf_M22 (by decide)
      refine rr_cV1 pf_225_54 po_225 pc_9_309 (ws_228 hW) po_227 (by decide) rfl hcM22 ?_
      rw [mst0] at pS_M22
      have cc26 : M22 238 = (M0 238) := by rw [kq23.2.2 238 (by decide), (rfl : M0 238 = M0 238)]
      have hk27 : M22 228 21 = ((nl : Nat) : Int) := (pf_M22 21 (by decide)).trans h21
      have hcond : kAt lw (rK E s) (rW E s) 4 = -1 ∨ 12 ≤ nl := by omega
      have hib : -1 ≤ its_4 ∧ its_4 < 4 := by omega
      have hJ : eqI its_4 (kAt lw (rK E s) (rW E s) 4) := hI
      clear hI hkb xI_M6
      
      refine rr_aload_n pf_225_57 rfl ?_
      refine vr_getZ q23 pf_225_58 po_225 pg_9_276 rfl (ws_228 hW) (by decide) (fun x28 hx28 rx28 => ?_)
      rw [pS_M22.h19] at hx28
      change x28 = 1 at hx28
      refine rr_if_eq 65 pf_225_61 (by decide) rx28 (fun c29 => ?_) (fun c29 => ?_)
      · exfalso; omega
      · refine rr_vret pf_225_64 pt_225 ⟨rfl, M22, rfl, q23, (by rw [if_pos hcond]; exact pS_M22), (by rw [if_pos hcond, pf_M22 21 (by decide)]; exact h21), (by rw [if_pos hcond]; exact cc26), (rq25)⟩
    · refine rr_iconst pf_225_49 ?_
      refine rr_goto 54 pf_225_50 (by decide) ?_
      obtain ⟨M30, ⟨kq31, pS_M30, pf_M30⟩, hcM30⟩ := ct_RT_must (xs := xs) (L := L) (d := d) (u := 1) (E := E) (s := s) (b := s.i) (by omega) hW q9.1 q9.2.1 hs hf (by omega)
      have q31 := qk_trm q9 kq31 (by decide)
      have rq33 := fz_tr rq10 pf_M30 (by decide)
      refine rr_cV1 pf_225_54 po_225 pc_9_309 (ws_228 hW) po_227 (by decide) rfl hcM30 ?_
      rw [mst1] at pS_M30
      have cc34 : M30 238 = (M0 238) := by rw [kq31.2.2 238 (by decide), (rfl : M0 238 = M0 238)]
      have hk35 : M30 228 21 = ((nl : Nat) : Int) := (pf_M30 21 (by decide)).trans h21
      have hcond : ¬ (kAt lw (rK E s) (rW E s) 4 = -1 ∨ 12 ≤ nl) := by omega
      have hib : -1 ≤ its_4 ∧ its_4 < 4 := by omega
      have hJ : eqI its_4 (kAt lw (rK E s) (rW E s) 4) := hI
      clear hI hkb xI_M6
      have hsb1 := RT_nb hs.hi hs.hnb pS_M30
      
      refine rr_aload_n pf_225_57 rfl ?_
      refine vr_getZ q31 pf_225_58 po_225 pg_9_276 rfl (ws_228 hW) (by decide) (fun x36 hx36 rx36 => ?_)
      rw [hsb1.h19] at hx36
      change x36 = s.flt at hx36
      refine rr_if_eq 65 pf_225_61 (by decide) rx36 (fun c37 => ?_) (fun c37 => ?_)
      · have hnl2 : nl < 12 := by omega
        refine rr_bipush pf_225_65 (by decide) ?_
        refine rr_aload_n pf_225_67 rfl ?_
        refine vr_getI q31 pf_225_68 po_225 pg_9_407 rfl (ws_228 hW) (by decide) (fun x38 hx38 rx38 => ?_)
        rw [pf_M30 21 (by decide), h21] at hx38
        refine rr_imul pf_225_71 ?_
        refine rr_istore_n pf_225_72 (fun y => [.ref 228, .int (iI (its_4)), .int (iI (y)), v8]) (Nat.le_of_ble_eq_true rfl) (fun _ => rfl) (fun y39 hy39 => ?_)
        refine rr_iconst pf_225_73 ?_
        refine rr_istore_n pf_225_74 (fun y => [.ref 228, .int (iI (its_4)), .int (iI (y39)), .int (iI (y))]) (Nat.le_of_ble_eq_true rfl) (fun _ => rfl) (fun y40 hy40 => ?_)
        have hp_ : y39 = 8 * ((nl : Nat) : Int) := by omega
        obtain ⟨nz41, hnz41, rfl⟩ : ∃ zz : Nat, zz = 0 ∧ y40 = ((zz : Nat) : Int) := ⟨0, rfl, by omega⟩
        refine lp_R_readLaw_75 (xs := xs) (L := L) (d := d) (by omega) hW hnl2 hp_ (fun j_42  M43 q44 xz_M43 => ?_) _ nz41 M30 rfl ⟨q31.1, q31.2.1, eo_rf⟩ (by omega) (by rw [show nz41 = 0 by omega]; rfl)
        have q45 := qk_trm q31 q44 (by decide)
        have rq46 := fz_q rq33 q44 (by decide)
        have hsM43 := RT_k hsb1 q44 (by decide) (by decide)
        have cc47 : M43 238 = zr (M0 238) (8 * nl) 8 := by rw [xz_M43, cc34]
        have hk48 : M43 228 21 = ((nl : Nat) : Int) := by rw [q44.2.2 228 (by decide)]; exact hk35
        
        refine rr_aload_n pf_225_96 rfl ?_
        refine rr_getR pf_225_97 po_225 pg_9_42 rfl (ws_228 hW) (by decide) (wr_228_22 q45.1) ?_
        refine rr_iload_n pf_225_100 rfl ?_
        refine rr_iload_n pf_225_101 rfl ?_
        refine vr_iast (j := (8 * nl)) hW q45 pf_225_102 (ws_238 hW) (by omega) (by omega) (by decide) (by unfold rg; omega) (by decide) (fun M49 eM49 q50 => ?_)
        have rq51 := fz_ne rq46 eM49 (by decide)
        have hsM49 := RT_u hsM43 eM49 (by decide) (by decide)
        have cc52 : M49 238 = fup (zr (M0 238) (8 * nl) 8) ((8 * nl)) its_4 := by rw [up_fup eM49, cc47]
        have hk53 : M49 228 21 = ((nl : Nat) : Int) := by rw [eM49, ask_ne (by decide)]; exact hk48
        refine rr_aload_n pf_225_103 rfl ?_
        refine rr_dup pf_225_104 rfl ?_
        refine vr_getI q50 pf_225_105 po_225 pg_9_407 rfl (ws_228 hW) (by decide) (fun x54 hx54 rx54 => ?_)
        rw [hk53] at hx54
        refine rr_iconst pf_225_108 ?_
        refine rr_iadd pf_225_109 ?_
        refine vr_putI hW q50 pf_225_110 po_225 pg_9_407 (Or.inl rfl) rfl (ws_228 hW) (by decide) (by unfold rg; omega) (by decide) (fun M55 eM55 q56 => ?_)
        have rq57 := fz_up rq51 eM55 (by decide)
        have hsM55 := RT_21 hsM49 eM55
        have cc58 : M55 238 = (fup (zr (M0 238) (8 * nl) 8) ((8 * nl)) its_4) := by rw [eM55, ask_ne (by decide), cc52]
        have hk59 : M55 228 21 = ((nl : Nat) : Int) + 1 := by rw [eM55, up_s]; omega
        refine rr_aload_n pf_225_113 rfl ?_
        refine rr_getR pf_225_114 po_225 pg_9_42 rfl (ws_228 hW) (by decide) (wr_228_22 q56.1) ?_
        refine rr_iload_n pf_225_117 rfl ?_
        refine rr_iconst pf_225_118 ?_
        refine rr_iadd pf_225_119 ?_
        refine rr_aload_n pf_225_120 rfl ?_
        refine vr_getI q56 pf_225_121 po_225 pg_9_313 rfl (ws_228 hW) (by decide) (fun x60 hx60 rx60 => ?_)
        rw [hsM55.h23] at hx60
        refine vr_iast (j := (8 * nl + 3)) hW q56 pf_225_124 (ws_238 hW) (by omega) (by omega) (by decide) rx60 (by decide) (fun M61 eM61 q62 => ?_)
        have rq63 := fz_ne rq57 eM61 (by decide)
        have hsM61 := RT_u hsM55 eM61 (by decide) (by decide)
        have cc64 : M61 238 = fup (fup (zr (M0 238) (8 * nl) 8) ((8 * nl)) its_4) ((8 * nl + 3)) x60 := by rw [up_fup eM61, cc58]
        have hk65 : M61 228 21 = ((nl : Nat) : Int) + 1 := by rw [eM61, ask_ne (by decide)]; exact hk59
        refine rr_iload_n pf_225_125 rfl ?_
        refine rr_iconst pf_225_126 ?_
        refine rr_icmp_eq 135 pf_225_127 (by decide) (by unfold rg; omega) (by unfold rg; omega) (fun c66 => ?_) (fun c66 => ?_)
        · have hl1 : (nxS E s) = lw1 E its_4 s := by unfold lw1; rw [if_pos (by omega)]
          obtain ⟨z1, hz1⟩ : ∃ z, z = lw1 E its_4 s := ⟨_, rfl⟩
          have hsl1 : RT M61 E z1.i z1 := by rw [hz1, ← hl1]; exact hsM61
          refine rr_aload_n pf_225_135 rfl ?_
          refine rr_getR pf_225_136 po_225 pg_9_42 rfl (ws_228 hW) (by decide) (wr_228_22 q62.1) ?_
          refine rr_iload_n pf_225_139 rfl ?_
          refine rr_iconst pf_225_140 ?_
          refine rr_iadd pf_225_141 ?_
          refine rr_aload_n pf_225_142 rfl ?_
          refine vr_getI q62 pf_225_143 po_225 pg_9_313 rfl (ws_228 hW) (by decide) (fun x67 hx67 rx67 => ?_)
          rw [hsl1.h23] at hx67
          refine vr_iast (j := (8 * nl + 4)) hW q62 pf_225_146 (ws_238 hW) (by omega) (by omega) (by decide) rx67 (by decide) (fun M68 eM68 q69 => ?_)
          have rq70 := fz_ne rq63 eM68 (by decide)
          have hsM68 := RT_u hsl1 eM68 (by decide) (by decide)
          have cc71 : M68 238 = fup (fup (fup (zr (M0 238) (8 * nl) 8) ((8 * nl)) its_4) ((8 * nl + 3)) x60) ((8 * nl + 4)) x67 := by rw [up_fup eM68, cc64]
          have hk72 : M68 228 21 = ((nl : Nat) : Int) + 1 := by rw [eM68, ask_ne (by decide)]; exact hk65
          refine rr_aload_n pf_225_147 rfl ?_
          refine rr_getR pf_225_148 po_225 pg_9_42 rfl (ws_228 hW) (by decide) (wr_228_22 q69.1) ?_
          refine rr_iload_n pf_225_151 rfl ?_
          refine rr_iconst pf_225_152 ?_
          refine rr_iadd pf_225_153 ?_
          refine rr_aload_n pf_225_154 rfl ?_
          refine vr_getI q69 pf_225_155 po_225 pg_9_313 rfl (ws_228 hW) (by decide) (fun x73 hx73 rx73 => ?_)
          rw [hsM68.h23] at hx73
          refine vr_iast (j := (8 * nl + 5)) hW q69 pf_225_158 (ws_238 hW) (by omega) (by omega) (by decide) rx73 (by decide) (fun M74 eM74 q75 => ?_)
          have rq76 := fz_ne rq70 eM74 (by decide)
          have hsM74 := RT_u hsM68 eM74 (by decide) (by decide)
          have cc77 : M74 238 = fup (fup (fup (fup (zr (M0 238) (8 * nl) 8) ((8 * nl)) its_4) ((8 * nl + 3)) x60) ((8 * nl + 4)) x67) ((8 * nl + 5)) x73 := by rw [up_fup eM74, cc71]
          have hk78 : M74 228 21 = ((nl : Nat) : Int) + 1 := by rw [eM74, ask_ne (by decide)]; exact hk72
          refine rr_aload_n pf_225_159 rfl ?_
          refine vr_getZ q75 pf_225_160 po_225 pg_9_276 rfl (ws_228 hW) (by decide) (fun x79 hx79 rx79 => ?_)
          rw [hsM74.h19] at hx79
          refine rr_if_ne 185 pf_225_163 (by decide) rx79 (fun c80 => ?_) (fun c80 => ?_)
          · have hl2 : z1 = lw2 E z1 := by unfold lw2; rw [if_neg (by omega)]
            obtain ⟨z2, hz2⟩ : ∃ z, z = lw2 E z1 := ⟨_, rfl⟩
            have hsl2 : RT M74 E z2.i z2 := by rw [hz2, ← hl2]; exact hsM74
            refine rr_aload_n pf_225_185 rfl ?_
            refine rr_getR pf_225_186 po_225 pg_9_42 rfl (ws_228 hW) (by decide) (wr_228_22 q75.1) ?_
            refine rr_iload_n pf_225_189 rfl ?_
            refine rr_bipush pf_225_190 (by decide) ?_
            refine rr_iadd pf_225_192 ?_
            refine rr_aload_n pf_225_193 rfl ?_
            refine vr_getI q75 pf_225_194 po_225 pg_9_313 rfl (ws_228 hW) (by decide) (fun x81 hx81 rx81 => ?_)
            rw [hsl2.h23] at hx81
            refine vr_iast (j := (8 * nl + 6)) hW q75 pf_225_197 (ws_238 hW) (by omega) (by omega) (by decide) rx81 (by decide) (fun M82 eM82 q83 => ?_)
            have rq84 := fz_ne rq76 eM82 (by decide)
            have hsM82 := RT_u hsl2 eM82 (by decide) (by decide)
            have cc85 : M82 238 = fup (fup (fup (fup (fup (zr (M0 238) (8 * nl) 8) ((8 * nl)) its_4) ((8 * nl + 3)) x60) ((8 * nl + 4)) x67) ((8 * nl + 5)) x73) ((8 * nl + 6)) x81 := by rw [up_fup eM82, cc77]
            have hk86 : M82 228 21 = ((nl : Nat) : Int) + 1 := by rw [eM82, ask_ne (by decide)]; exact hk78
            refine rr_vret pf_225_198 pt_225 ⟨rfl, M82, rfl, q83, (by rw [if_neg hcond]; have hI : its_4 = kAt lw (rK E s) (rW E s) 4 := hJ; rw [← hI, ← hz1, ← hz2]; exact hsM82), (by rw [if_neg hcond]; have z := hk86; omega), (by rw [if_neg hcond]; have hI : its_4 = kAt lw (rK E s) (rW E s) 4 := hJ; rw [← hI, cc85]; unfold lwC; rw [← hz1, ← hz2, hx60, hx67, hx73, hx81]), (rq84)⟩
          · refine rr_aload_n pf_225_166 rfl ?_
            refine rr_ldc2_w pf_225_167 po_225 pl_9_413 ?_
            obtain ⟨M87, kq88, hcM87⟩ := ct_RT_isWord (xs := xs) (L := L) (d := d) (u := (294)) (E := E) (s := z1) (b := z1.i) (by omega) hW q75.1 q75.2.1 hsM74 (by unfold rl; omega)
            obtain rfl := qk_nil kq88
            refine rr_cV1 pf_225_170 po_225 pc_9_334 (ws_228 hW) po_226 (by decide) rfl hcM87 ?_
            refine rr_ifb_eq 185 pf_225_173 (by decide) (fun c90 => ?_) (fun c90 => ?_)
            · have hl2 : z1 = lw2 E z1 := by unfold lw2; rw [if_neg (by omega)]
              obtain ⟨z2, hz2⟩ : ∃ z, z = lw2 E z1 := ⟨_, rfl⟩
              have hsl2 : RT M74 E z2.i z2 := by rw [hz2, ← hl2]; exact hsM74
              refine rr_aload_n pf_225_185 rfl ?_
              refine rr_getR pf_225_186 po_225 pg_9_42 rfl (ws_228 hW) (by decide) (wr_228_22 q75.1) ?_
              refine rr_iload_n pf_225_189 rfl ?_
              refine rr_bipush pf_225_190 (by decide) ?_
              refine rr_iadd pf_225_192 ?_
              refine rr_aload_n pf_225_193 rfl ?_
              refine vr_getI q75 pf_225_194 po_225 pg_9_313 rfl (ws_228 hW) (by decide) (fun x91 hx91 rx91 => ?_)
              rw [hsl2.h23] at hx91
              refine vr_iast (j := (8 * nl + 6)) hW q75 pf_225_197 (ws_238 hW) (by omega) (by omega) (by decide) rx91 (by decide) (fun M92 eM92 q93 => ?_)
              have rq94 := fz_ne rq76 eM92 (by decide)
              have hsM92 := RT_u hsl2 eM92 (by decide) (by decide)
              have cc95 : M92 238 = fup (fup (fup (fup (fup (zr (M0 238) (8 * nl) 8) ((8 * nl)) its_4) ((8 * nl + 3)) x60) ((8 * nl + 4)) x67) ((8 * nl + 5)) x73) ((8 * nl + 6)) x91 := by rw [up_fup eM92, cc77]
              have hk96 : M92 228 21 = ((nl : Nat) : Int) + 1 := by rw [eM92, ask_ne (by decide)]; exact hk78
              refine rr_vret pf_225_198 pt_225 ⟨rfl, M92, rfl, q93, (by rw [if_neg hcond]; have hI : its_4 = kAt lw (rK E s) (rW E s) 4 := hJ; rw [← hI, ← hz1, ← hz2]; exact hsM92), (by rw [if_neg hcond]; have z := hk96; omega), (by rw [if_neg hcond]; have hI : its_4 = kAt lw (rK E s) (rW E s) 4 := hJ; rw [← hI, cc95]; unfold lwC; rw [← hz1, ← hz2, hx60, hx67, hx73, hx91]), (rq94)⟩
            · refine rr_aload_n pf_225_176 rfl ?_
              obtain ⟨M97, ⟨kq98, pS_M97, pf_M97⟩, hcM97⟩ := ct_RT_next (xs := xs) (L := L) (d := d) (E := E) (s := z1) (b := z1.i) (by omega) hW q75.1 q75.2.1 hsM74
              have q98 := qk_trm q75 kq98 (by decide)
              have rq100 := fz_tr rq76 pf_M97 (by decide)
              refine rr_cV0 pf_225_177 po_225 pc_9_280 (ws_228 hW) po_222 (by decide) rfl hcM97 ?_
              have cc101 : M97 238 = (fup (fup (fup (fup (zr (M0 238) (8 * nl) 8) ((8 * nl)) its_4) ((8 * nl + 3)) x60) ((8 * nl + 4)) x67) ((8 * nl + 5)) x73) := by rw [kq98.2.2 238 (by decide), cc77]
              have hk102 : M97 228 21 = ((nl : Nat) : Int) + 1 := (pf_M97 21 (by decide)).trans hk78
              have hsb2 := RT_nb hsl1.hi hsl1.hnb pS_M97
              
              refine rr_aload_n pf_225_180 rfl ?_
              refine rr_iconst pf_225_181 ?_
              obtain ⟨M103, ⟨kq104, pS_M103, pf_M103⟩, hcM103⟩ := ct_RT_readExpression (xs := xs) (L := L) (d := d) (u := 1) (E := E) (s := (nxS E z1)) (by omega) hW q98.1 q98.2.1 hsb2 (by omega)
              have q104 := qk_trm q98 kq104 (by decide)
              have rq106 := fz_tr rq100 pf_M103 (by decide)
              refine rr_cV1 pf_225_182 po_225 pc_9_410 (ws_228 hW) po_228 (by decide) rfl hcM103 ?_
              have cc107 : M103 238 = (fup (fup (fup (fup (zr (M0 238) (8 * nl) 8) ((8 * nl)) its_4) ((8 * nl + 3)) x60) ((8 * nl + 4)) x67) ((8 * nl + 5)) x73) := by rw [kq104.2.2 238 (by decide), cc101]
              have hk108 : M103 228 21 = ((nl : Nat) : Int) + 1 := (pf_M103 21 (by decide)).trans hk102
              
              have hl2 : (rExp E 1 (nxS E z1)) = lw2 E z1 := by unfold lw2; rw [if_pos (by omega)]
              obtain ⟨z2, hz2⟩ : ∃ z, z = lw2 E z1 := ⟨_, rfl⟩
              have hsl2 : RT M103 E z2.i z2 := by rw [hz2, ← hl2]; exact pS_M103
              refine rr_aload_n pf_225_185 rfl ?_
              refine rr_getR pf_225_186 po_225 pg_9_42 rfl (ws_228 hW) (by decide) (wr_228_22 q104.1) ?_
              refine rr_iload_n pf_225_189 rfl ?_
              refine rr_bipush pf_225_190 (by decide) ?_
              refine rr_iadd pf_225_192 ?_
              refine rr_aload_n pf_225_193 rfl ?_
              refine vr_getI q104 pf_225_194 po_225 pg_9_313 rfl (ws_228 hW) (by decide) (fun x109 hx109 rx109 => ?_)
              rw [hsl2.h23] at hx109
              refine vr_iast (j := (8 * nl + 6)) hW q104 pf_225_197 (ws_238 hW) (by omega) (by omega) (by decide) rx109 (by decide) (fun M110 eM110 q111 => ?_)
              have rq112 := fz_ne rq106 eM110 (by decide)
              have hsM110 := RT_u hsl2 eM110 (by decide) (by decide)
              have cc113 : M110 238 = fup (fup (fup (fup (fup (zr (M0 238) (8 * nl) 8) ((8 * nl)) its_4) ((8 * nl + 3)) x60) ((8 * nl + 4)) x67) ((8 * nl + 5)) x73) ((8 * nl + 6)) x109 := by rw [up_fup eM110, cc107]
              have hk114 : M110 228 21 = ((nl : Nat) : Int) + 1 := by rw [eM110, ask_ne (by decide)]; exact hk108
              refine rr_vret pf_225_198 pt_225 ⟨rfl, M110, rfl, q111, (by rw [if_neg hcond]; have hI : its_4 = kAt lw (rK E s) (rW E s) 4 := hJ; rw [← hI, ← hz1, ← hz2]; exact hsM110), (by rw [if_neg hcond]; have z := hk114; omega), (by rw [if_neg hcond]; have hI : its_4 = kAt lw (rK E s) (rW E s) 4 := hJ; rw [← hI, cc113]; unfold lwC; rw [← hz1, ← hz2, hx60, hx67, hx73, hx109]), (rq112)⟩
        · refine rr_aload_n pf_225_130 rfl ?_
          refine rr_iconst pf_225_131 ?_
          obtain ⟨M115, ⟨kq116, pS_M115, pf_M115⟩, hcM115⟩ := ct_RT_readExpression (xs := xs) (L := L) (d := d) (u := 0) (E := E) (s := (nxS E s)) (by omega) hW q62.1 q62.2.1 hsM61 (by omega)
          have q116 := qk_trm q62 kq116 (by decide)
          have rq118 := fz_tr rq63 pf_M115 (by decide)
          refine rr_cV1 pf_225_132 po_225 pc_9_410 (ws_228 hW) po_228 (by decide) rfl hcM115 ?_
          have cc119 : M115 238 = (fup (fup (zr (M0 238) (8 * nl) 8) ((8 * nl)) its_4) ((8 * nl + 3)) x60) := by rw [kq116.2.2 238 (by decide), cc64]
          have hk120 : M115 228 21 = ((nl : Nat) : Int) + 1 := (pf_M115 21 (by decide)).trans hk65
          
          have hl1 : (rExp E 0 (nxS E s)) = lw1 E its_4 s := by unfold lw1; rw [if_neg (by omega)]
          obtain ⟨z1, hz1⟩ : ∃ z, z = lw1 E its_4 s := ⟨_, rfl⟩
          have hsl1 : RT M115 E z1.i z1 := by rw [hz1, ← hl1]; exact pS_M115
          refine rr_aload_n pf_225_135 rfl ?_
          refine rr_getR pf_225_136 po_225 pg_9_42 rfl (ws_228 hW) (by decide) (wr_228_22 q116.1) ?_
          refine rr_iload_n pf_225_139 rfl ?_
          refine rr_iconst pf_225_140 ?_
          refine rr_iadd pf_225_141 ?_
          refine rr_aload_n pf_225_142 rfl ?_
          refine vr_getI q116 pf_225_143 po_225 pg_9_313 rfl (ws_228 hW) (by decide) (fun x121 hx121 rx121 => ?_)
          rw [hsl1.h23] at hx121
          refine vr_iast (j := (8 * nl + 4)) hW q116 pf_225_146 (ws_238 hW) (by omega) (by omega) (by decide) rx121 (by decide) (fun M122 eM122 q123 => ?_)
          have rq124 := fz_ne rq118 eM122 (by decide)
          have hsM122 := RT_u hsl1 eM122 (by decide) (by decide)
          have cc125 : M122 238 = fup (fup (fup (zr (M0 238) (8 * nl) 8) ((8 * nl)) its_4) ((8 * nl + 3)) x60) ((8 * nl + 4)) x121 := by rw [up_fup eM122, cc119]
          have hk126 : M122 228 21 = ((nl : Nat) : Int) + 1 := by rw [eM122, ask_ne (by decide)]; exact hk120
          refine rr_aload_n pf_225_147 rfl ?_
          refine rr_getR pf_225_148 po_225 pg_9_42 rfl (ws_228 hW) (by decide) (wr_228_22 q123.1) ?_
          refine rr_iload_n pf_225_151 rfl ?_
          refine rr_iconst pf_225_152 ?_
          refine rr_iadd pf_225_153 ?_
          refine rr_aload_n pf_225_154 rfl ?_
          refine vr_getI q123 pf_225_155 po_225 pg_9_313 rfl (ws_228 hW) (by decide) (fun x127 hx127 rx127 => ?_)
          rw [hsM122.h23] at hx127
          refine vr_iast (j := (8 * nl + 5)) hW q123 pf_225_158 (ws_238 hW) (by omega) (by omega) (by decide) rx127 (by decide) (fun M128 eM128 q129 => ?_)
          have rq130 := fz_ne rq124 eM128 (by decide)
          have hsM128 := RT_u hsM122 eM128 (by decide) (by decide)
          have cc131 : M128 238 = fup (fup (fup (fup (zr (M0 238) (8 * nl) 8) ((8 * nl)) its_4) ((8 * nl + 3)) x60) ((8 * nl + 4)) x121) ((8 * nl + 5)) x127 := by rw [up_fup eM128, cc125]
          have hk132 : M128 228 21 = ((nl : Nat) : Int) + 1 := by rw [eM128, ask_ne (by decide)]; exact hk126
          refine rr_aload_n pf_225_159 rfl ?_
          refine vr_getZ q129 pf_225_160 po_225 pg_9_276 rfl (ws_228 hW) (by decide) (fun x133 hx133 rx133 => ?_)
          rw [hsM128.h19] at hx133
          refine rr_if_ne 185 pf_225_163 (by decide) rx133 (fun c134 => ?_) (fun c134 => ?_)
          · have hl2 : z1 = lw2 E z1 := by unfold lw2; rw [if_neg (by omega)]
            obtain ⟨z2, hz2⟩ : ∃ z, z = lw2 E z1 := ⟨_, rfl⟩
            have hsl2 : RT M128 E z2.i z2 := by rw [hz2, ← hl2]; exact hsM128
            refine rr_aload_n pf_225_185 rfl ?_
            refine rr_getR pf_225_186 po_225 pg_9_42 rfl (ws_228 hW) (by decide) (wr_228_22 q129.1) ?_
            refine rr_iload_n pf_225_189 rfl ?_
            refine rr_bipush pf_225_190 (by decide) ?_
            refine rr_iadd pf_225_192 ?_
            refine rr_aload_n pf_225_193 rfl ?_
            refine vr_getI q129 pf_225_194 po_225 pg_9_313 rfl (ws_228 hW) (by decide) (fun x135 hx135 rx135 => ?_)
            rw [hsl2.h23] at hx135
            refine vr_iast (j := (8 * nl + 6)) hW q129 pf_225_197 (ws_238 hW) (by omega) (by omega) (by decide) rx135 (by decide) (fun M136 eM136 q137 => ?_)
            have rq138 := fz_ne rq130 eM136 (by decide)
            have hsM136 := RT_u hsl2 eM136 (by decide) (by decide)
            have cc139 : M136 238 = fup (fup (fup (fup (fup (zr (M0 238) (8 * nl) 8) ((8 * nl)) its_4) ((8 * nl + 3)) x60) ((8 * nl + 4)) x121) ((8 * nl + 5)) x127) ((8 * nl + 6)) x135 := by rw [up_fup eM136, cc131]
            have hk140 : M136 228 21 = ((nl : Nat) : Int) + 1 := by rw [eM136, ask_ne (by decide)]; exact hk132
            refine rr_vret pf_225_198 pt_225 ⟨rfl, M136, rfl, q137, (by rw [if_neg hcond]; have hI : its_4 = kAt lw (rK E s) (rW E s) 4 := hJ; rw [← hI, ← hz1, ← hz2]; exact hsM136), (by rw [if_neg hcond]; have z := hk140; omega), (by rw [if_neg hcond]; have hI : its_4 = kAt lw (rK E s) (rW E s) 4 := hJ; rw [← hI, cc139]; unfold lwC; rw [← hz1, ← hz2, hx60, hx121, hx127, hx135]), (rq138)⟩
          · refine rr_aload_n pf_225_166 rfl ?_
            refine rr_ldc2_w pf_225_167 po_225 pl_9_413 ?_
            obtain ⟨M141, kq142, hcM141⟩ := ct_RT_isWord (xs := xs) (L := L) (d := d) (u := (294)) (E := E) (s := z1) (b := z1.i) (by omega) hW q129.1 q129.2.1 hsM128 (by unfold rl; omega)
            obtain rfl := qk_nil kq142
            refine rr_cV1 pf_225_170 po_225 pc_9_334 (ws_228 hW) po_226 (by decide) rfl hcM141 ?_
            refine rr_ifb_eq 185 pf_225_173 (by decide) (fun c144 => ?_) (fun c144 => ?_)
            · have hl2 : z1 = lw2 E z1 := by unfold lw2; rw [if_neg (by omega)]
              obtain ⟨z2, hz2⟩ : ∃ z, z = lw2 E z1 := ⟨_, rfl⟩
              have hsl2 : RT M128 E z2.i z2 := by rw [hz2, ← hl2]; exact hsM128
              refine rr_aload_n pf_225_185 rfl ?_
              refine rr_getR pf_225_186 po_225 pg_9_42 rfl (ws_228 hW) (by decide) (wr_228_22 q129.1) ?_
              refine rr_iload_n pf_225_189 rfl ?_
              refine rr_bipush pf_225_190 (by decide) ?_
              refine rr_iadd pf_225_192 ?_
              refine rr_aload_n pf_225_193 rfl ?_
              refine vr_getI q129 pf_225_194 po_225 pg_9_313 rfl (ws_228 hW) (by decide) (fun x145 hx145 rx145 => ?_)
              rw [hsl2.h23] at hx145
              refine vr_iast (j := (8 * nl + 6)) hW q129 pf_225_197 (ws_238 hW) (by omega) (by omega) (by decide) rx145 (by decide) (fun M146 eM146 q147 => ?_)
              have rq148 := fz_ne rq130 eM146 (by decide)
              have hsM146 := RT_u hsl2 eM146 (by decide) (by decide)
              have cc149 : M146 238 = fup (fup (fup (fup (fup (zr (M0 238) (8 * nl) 8) ((8 * nl)) its_4) ((8 * nl + 3)) x60) ((8 * nl + 4)) x121) ((8 * nl + 5)) x127) ((8 * nl + 6)) x145 := by rw [up_fup eM146, cc131]
              have hk150 : M146 228 21 = ((nl : Nat) : Int) + 1 := by rw [eM146, ask_ne (by decide)]; exact hk132
              refine rr_vret pf_225_198 pt_225 ⟨rfl, M146, rfl, q147, (by rw [if_neg hcond]; have hI : its_4 = kAt lw (rK E s) (rW E s) 4 := hJ; rw [← hI, ← hz1, ← hz2]; exact hsM146), (by rw [if_neg hcond]; have z := hk150; omega), (by rw [if_neg hcond]; have hI : its_4 = kAt lw (rK E s) (rW E s) 4 := hJ; rw [← hI, cc149]; unfold lwC; rw [← hz1, ← hz2, hx60, hx121, hx127, hx145]), (rq148)⟩
            · refine rr_aload_n pf_225_176 rfl ?_
              obtain ⟨M151, ⟨kq152, pS_M151, pf_M151⟩, hcM151⟩ := ct_RT_next (xs := xs) (L := L) (d := d) (E := E) (s := z1) (b := z1.i) (by omega) hW q129.1 q129.2.1 hsM128
              have q152 := qk_trm q129 kq152 (by decide)
              have rq154 := fz_tr rq130 pf_M151 (by decide)
              refine rr_cV0 pf_225_177 po_225 pc_9_280 (ws_228 hW) po_222 (by decide) rfl hcM151 ?_
              have cc155 : M151 238 = (fup (fup (fup (fup (zr (M0 238) (8 * nl) 8) ((8 * nl)) its_4) ((8 * nl + 3)) x60) ((8 * nl + 4)) x121) ((8 * nl + 5)) x127) := by rw [kq152.2.2 238 (by decide), cc131]
              have hk156 : M151 228 21 = ((nl : Nat) : Int) + 1 := (pf_M151 21 (by decide)).trans hk132
              have hsb2 := RT_nb hsl1.hi hsl1.hnb pS_M151
              
              refine rr_aload_n pf_225_180 rfl ?_
              refine rr_iconst pf_225_181 ?_
              obtain ⟨M157, ⟨kq158, pS_M157, pf_M157⟩, hcM157⟩ := ct_RT_readExpression (xs := xs) (L := L) (d := d) (u := 1) (E := E) (s := (nxS E z1)) (by omega) hW q152.1 q152.2.1 hsb2 (by omega)
              have q158 := qk_trm q152 kq158 (by decide)
              have rq160 := fz_tr rq154 pf_M157 (by decide)
              refine rr_cV1 pf_225_182 po_225 pc_9_410 (ws_228 hW) po_228 (by decide) rfl hcM157 ?_
              have cc161 : M157 238 = (fup (fup (fup (fup (zr (M0 238) (8 * nl) 8) ((8 * nl)) its_4) ((8 * nl + 3)) x60) ((8 * nl + 4)) x121) ((8 * nl + 5)) x127) := by rw [kq158.2.2 238 (by decide), cc155]
              have hk162 : M157 228 21 = ((nl : Nat) : Int) + 1 := (pf_M157 21 (by decide)).trans hk156
              
              have hl2 : (rExp E 1 (nxS E z1)) = lw2 E z1 := by unfold lw2; rw [if_pos (by omega)]
              obtain ⟨z2, hz2⟩ : ∃ z, z = lw2 E z1 := ⟨_, rfl⟩
              have hsl2 : RT M157 E z2.i z2 := by rw [hz2, ← hl2]; exact pS_M157
              refine rr_aload_n pf_225_185 rfl ?_
              refine rr_getR pf_225_186 po_225 pg_9_42 rfl (ws_228 hW) (by decide) (wr_228_22 q158.1) ?_
              refine rr_iload_n pf_225_189 rfl ?_
              refine rr_bipush pf_225_190 (by decide) ?_
              refine rr_iadd pf_225_192 ?_
              refine rr_aload_n pf_225_193 rfl ?_
              refine vr_getI q158 pf_225_194 po_225 pg_9_313 rfl (ws_228 hW) (by decide) (fun x163 hx163 rx163 => ?_)
              rw [hsl2.h23] at hx163
              refine vr_iast (j := (8 * nl + 6)) hW q158 pf_225_197 (ws_238 hW) (by omega) (by omega) (by decide) rx163 (by decide) (fun M164 eM164 q165 => ?_)
              have rq166 := fz_ne rq160 eM164 (by decide)
              have hsM164 := RT_u hsl2 eM164 (by decide) (by decide)
              have cc167 : M164 238 = fup (fup (fup (fup (fup (zr (M0 238) (8 * nl) 8) ((8 * nl)) its_4) ((8 * nl + 3)) x60) ((8 * nl + 4)) x121) ((8 * nl + 5)) x127) ((8 * nl + 6)) x163 := by rw [up_fup eM164, cc161]
              have hk168 : M164 228 21 = ((nl : Nat) : Int) + 1 := by rw [eM164, ask_ne (by decide)]; exact hk162
              refine rr_vret pf_225_198 pt_225 ⟨rfl, M164, rfl, q165, (by rw [if_neg hcond]; have hI : its_4 = kAt lw (rK E s) (rW E s) 4 := hJ; rw [← hI, ← hz1, ← hz2]; exact hsM164), (by rw [if_neg hcond]; have z := hk168; omega), (by rw [if_neg hcond]; have hI : its_4 = kAt lw (rK E s) (rW E s) 4 := hJ; rw [← hI, cc167]; unfold lwC; rw [← hz1, ← hz2, hx60, hx121, hx127, hx163]), (rq166)⟩
      · exfalso; omega
