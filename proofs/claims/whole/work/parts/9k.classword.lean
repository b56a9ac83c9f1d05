/-! the class's reader: which word, which sign -/
def chr (t i : Nat) : Nat := ((px_txt t).getD i 'a').toNat
def wTab : List (List (Nat × Nat)) := [[(0, 6), (7, 13), (14, 18), (19, 22), (23, 27)], [(0, 6), (7, 11), (12, 18), (19, 23)], [(0, 4), (5, 9), (10, 16), (17, 23), (24, 29), (30, 33), (34, 38), (39, 44), (45, 51)], [(0, 4), (5, 8), (9, 14), (15, 19), (20, 23), (24, 30), (31, 34), (35, 39), (40, 45), (46, 52), (53, 57), (58, 62)], [(0, 3)], [(0, 2)], [(0, 2)], [(0, 2)], [(0, 5)], [(0, 2)], [(0, 3)], [(0, 3)], [(0, 3)], [(0, 2)]]
def wn (t : Nat) : Nat := (wTab.getD t []).length
def wa (t k : Nat) : Nat := ((wTab.getD t []).getD k (0, 0)).1
def wb (t k : Nat) : Nat := ((wTab.getD t []).getD k (0, 0)).2
theorem w_ok : ∀ t, t < 14 → (0 < wn t ∧ wn t ≤ 12) ∧ wa t 0 = 0 ∧ wb t (wn t - 1) = (px_txt t).length ∧ ∀ k, k < wn t → wa t k ≤ wb t k ∧ wb t k ≤ (px_txt t).length ∧ wb t k - wa t k ≤ 10 ∧ (k + 1 < wn t → wa t (k + 1) = wb t k + 1 ∧ wb t k < (px_txt t).length ∧ chr t (wb t k) = 32) := by decide +kernel
theorem w_ch : ∀ t, t < 14 → ∀ k, k < wn t → ∀ j, j < wb t k - wa t k → chr t (wa t k + j) ≠ 32 := by decide +kernel
def wLet (t : Nat) : Prop := ∀ k, k < wn t → ∀ j, j < wb t k - wa t k → 97 ≤ chr t (wa t k + j) ∧ chr t (wa t k + j) ≤ 122
def hw (t k : Nat) : Int := hsh (fun j => ((chr t j : Nat) : Int)) (wa t k) (wb t k - wa t k)
def eqW (tb : Nat → Int) (s e t k : Nat) : Prop := e - s = wb t k - wa t k ∧ ∀ j, j < wb t k - wa t k → tb (s + j) = ((chr t (wa t k + j) : Nat) : Int)
theorem hsh_pos {f : Nat → Int} {a : Nat} : ∀ m, m ≤ 10 → (∀ j, j < m → 97 ≤ f (a + j) ∧ f (a + j) ≤ 122) → 0 ≤ hsh f a m ∧ (0 < m → 0 < hsh f a m) := by
  intro m
  induction m with
  | zero => intro _ _; exact ⟨Int.le_refl _, fun h => by omega⟩
  | succ m ih =>
    intro hm h
    have h1 := ih (by omega) (fun j hj => h j (by omega))
    have h2 := h m (by omega)
    rw [hsh, if_pos (by omega)]
    exact ⟨by omega, fun _ => by omega⟩
theorem hsh_inj {g f : Nat → Int} {s a : Nat} : ∀ m n, m ≤ 10 → (∀ j, j < n → 97 ≤ g (s + j) ∧ g (s + j) ≤ 122) → (∀ j, j < m → 97 ≤ f (a + j) ∧ f (a + j) ≤ 122) → (hsh g s n = hsh f a m ↔ n = m ∧ ∀ j, j < m → g (s + j) = f (a + j)) := by
  intro m
  induction m with
  | zero =>
    intro n _ hg _
    refine ⟨fun h => ⟨?_, fun j hj => by omega⟩, fun h => by rw [h.1]; rfl⟩
    cases n with
    | zero => rfl
    | succ n =>
      exfalso
      by_cases hn : n < 10
      · have := (hsh_pos (f := g) (a := s) (n + 1) (by omega) hg).2 (by omega)
        rw [h] at this
        exact absurd this (by simp [hsh])
      · have e : hsh g s (n + 1) = -1 := by rw [hsh, if_neg hn]
        rw [e] at h
        simp [hsh] at h
  | succ m ih =>
    intro n hm hg hf
    have hfp := (hsh_pos (f := f) (a := a) (m + 1) hm hf)
    cases n with
    | zero =>
      refine ⟨fun h => ?_, fun h => by omega⟩
      exfalso
      have := hfp.2 (by omega)
      rw [← h] at this
      simp [hsh] at this
    | succ n =>
      by_cases hn : n < 10
      · have h1 := hg n (by omega)
        have h2 := hf m (by omega)
        have i := ih n (by omega) (fun j hj => hg j (by omega)) (fun j hj => hf j (by omega))
        rw [hsh, if_pos hn, hsh, if_pos (by omega)]
        constructor
        · intro h
          have e : hsh g s n = hsh f a m := by omega
          obtain ⟨i1, i2⟩ := i.mp e
          refine ⟨by omega, fun j hj => ?_⟩
          rcases (show j < m ∨ j = m by omega) with z | z
          · exact i2 j z
          · rw [z]; subst i1; omega
        · rintro ⟨h3, h4⟩
          have e := i.mpr ⟨by omega, fun j hj => h4 j (by omega)⟩
          have := h4 m (by omega)
          rw [e, show n = m by omega, this]
      · refine ⟨fun h => ?_, fun h => by omega⟩
        exfalso
        have e : hsh g s (n + 1) = -1 := by rw [hsh, if_neg hn]
        rw [e] at h
        have := hfp.1
        omega
theorem eqW_h {tn : Nat} {tb : Nat → Int} {i t k : Nat} (hk1 : tkK tn tb i = 1) (hlt : ∀ j, j < tkE tn tb i - tkS tn tb i → 97 ≤ tb (tkS tn tb i + j) ∧ tb (tkS tn tb i + j) ≤ 122) (ht : t < 14) (hk : k < wn t) (hl : wLet t) : eqW tb (tkS tn tb i) (tkE tn tb i) t k ↔ tkW tn tb i = hw t k := by
  unfold eqW tkW hw
  rw [if_pos hk1]
  have w := (w_ok t ht).2.2.2 k hk
  exact (hsh_inj (f := fun j => ((chr t j : Nat) : Int)) (a := wa t k) (wb t k - wa t k) _ w.2.2.1 hlt (fun j hj => by have := hl k hk j hj; show 97 ≤ ((chr t (wa t k + j) : Nat) : Int) ∧ ((chr t (wa t k + j) : Nat) : Int) ≤ 122; omega)).symm
theorem rnn_k {tn : Nat} {tb : Nat → Int} {k : Nat} : ∀ f i j, i + j < rnn tn tb k f i → tkd (tb (i + j)) = k := by
  intro f
  induction f with
  | zero => intro i j h; simp only [rnn] at h; omega
  | succ f ih =>
    intro i j h
    simp only [rnn] at h
    split at h
    · rename_i hc
      cases j with
      | zero => exact hc.2
      | succ j => have := ih (i + 1) j (by rw [show i + 1 + j = i + (j + 1) by omega]; exact h); rw [show i + 1 + j = i + (j + 1) by omega] at this; exact this
    · omega
theorem tk_let {tn : Nat} {tb : Nat → Int} {i : Nat} (hk1 : tkK tn tb i = 1) : ∀ j, j < tkE tn tb i - tkS tn tb i → 97 ≤ tb (tkS tn tb i + j) ∧ tb (tkS tn tb i + j) ≤ 122 := by
  intro j hj
  have hs : tkS tn tb i < tn := by
    unfold tkK at hk1
    split at hk1
    · assumption
    · omega
  have hkd : tkd (tb (tkS tn tb i)) = 1 := by unfold tkK at hk1; rw [if_pos hs] at hk1; exact hk1
  have he : tkE tn tb i = rnn tn tb 1 (tn - tkS tn tb i) (tkS tn tb i) := by
    unfold tkE
    rw [if_pos hs, if_neg (by omega), hkd]
  refine tkd_1.mp (rnn_k (tn := tn) (tn - tkS tn tb i) (tkS tn tb i) j ?_)
  rw [← he]
  omega
theorem tk_dig {tn : Nat} {tb : Nat → Int} {i : Nat} (hk1 : tkK tn tb i = 2) : 0 ≤ tkW tn tb i := by
  have hs : tkS tn tb i < tn := by
    unfold tkK at hk1
    split at hk1
    · assumption
    · omega
  have hkd : tkd (tb (tkS tn tb i)) = 2 := by unfold tkK at hk1; rw [if_pos hs] at hk1; exact hk1
  have he : tkE tn tb i = rnn tn tb 2 (tn - tkS tn tb i) (tkS tn tb i) := by
    unfold tkE
    rw [if_pos hs, if_neg (by omega), hkd]
  unfold tkW
  rw [hk1, if_neg (by decide), if_pos rfl]
  refine (dgt_b _ (fun j hj => tkd_2.mp (rnn_k (tn := tn) (tn - tkS tn tb i) (tkS tn tb i) j ?_))).1
  rw [← he]
  omega
theorem cnm_ok {tn : Nat} {tb : Nat → Int} {i : Nat} : 0 ≤ cnm tn tb i ∧ cnm tn tb i ≤ 1001 := cnm_b (by
  by_cases h : tkK tn tb i = 2
  · exact Or.inl (tk_dig h)
  · exact Or.inr h)
theorem tkS_lt {tn : Nat} {tb : Nat → Int} {i : Nat} (h : tkK tn tb i ≠ 0) : tkS tn tb i < tn := by
  unfold tkK at h
  split at h
  · assumption
  · exact absurd rfl h
theorem let_0 : wLet 0 := by unfold wLet; decide +kernel
theorem let_1 : wLet 1 := by unfold wLet; decide +kernel
theorem let_2 : wLet 2 := by unfold wLet; decide +kernel
theorem let_3 : wLet 3 := by unfold wLet; decide +kernel
theorem let_6 : wLet 6 := by unfold wLet; decide +kernel
theorem let_7 : wLet 7 := by unfold wLet; decide +kernel
theorem let_8 : wLet 8 := by unfold wLet; decide +kernel
theorem let_9 : wLet 9 := by unfold wLet; decide +kernel
theorem let_10 : wLet 10 := by unfold wLet; decide +kernel
theorem let_12 : wLet 12 := by unfold wLet; decide +kernel
theorem let_13 : wLet 13 := by unfold wLet; decide +kernel
theorem kAt_no {f : Nat → Int} {k0 : Nat} {w : Int} : ∀ n, (∀ k, k < n → ¬ (k0 = 1 ∧ w = f k)) → kAt f k0 w n = -1 := by
  intro n
  induction n with
  | zero => intro _; rfl
  | succ n ih => intro h; rw [kAt, if_neg (h n (by omega))]; exact ih (fun k hk => h k (by omega))
theorem kAt_yes {f : Nat → Int} {w : Int} {k : Nat} (hw : w = f k) : ∀ n, k < n → (∀ j, j < n → j ≠ k → f j ≠ f k) → kAt f 1 w n = ((k : Nat) : Int) := by
  intro n
  induction n with
  | zero => intro h; omega
  | succ n ih =>
    intro h hd
    by_cases e : n = k
    · subst e; rw [kAt, if_pos ⟨rfl, hw⟩]
    · rw [kAt, if_neg (fun z => hd n (by omega) e (z.2.symm.trans hw))]
      exact ih (by omega) (fun j hj => hd j (by omega))
def hwD (t : Nat) : Prop := ∀ k, k < wn t → ∀ j, j < wn t → j ≠ k → hw t j ≠ hw t k
theorem hwD_0 : hwD 0 := by unfold hwD; decide +kernel
theorem hwD_1 : hwD 1 := by unfold hwD; decide +kernel
theorem hwD_2 : hwD 2 := by unfold hwD; decide +kernel
theorem hwD_3 : hwD 3 := by unfold hwD; decide +kernel
theorem hwD_6 : hwD 6 := by unfold hwD; decide +kernel
theorem hwD_7 : hwD 7 := by unfold hwD; decide +kernel
theorem hwD_8 : hwD 8 := by unfold hwD; decide +kernel
theorem hwD_9 : hwD 9 := by unfold hwD; decide +kernel
theorem hwD_10 : hwD 10 := by unfold hwD; decide +kernel
theorem hwD_12 : hwD 12 := by unfold hwD; decide +kernel
theorem hwD_13 : hwD 13 := by unfold hwD; decide +kernel
theorem ct_Reader_isSign {xs : Nat → Int} {L d : Nat} {sh : List (Nat × Nat)} {M0 : Nat → Nat → Int} (hd : 1 ≤ d) (hW : px_W0 <+: sh) (hF : px_Fx M0) (hG : px_RG sh M0)  {tn : Nat} {tb : Nat → Int} {i : Nat} (hcl : clx M0 tn tb i) {c : Int} (hc : 0 ≤ c ∧ c ≤ 255) : ∃ M, (px_qk sh [] M0 M) ∧ px_Cl xs L d 77 [.ref 200, .int (iI (c))] (sh, M0) (some (.int (iI (bI (tkK tn tb i = 3 ∧ tkW tn tb i = c))))) (sh, M) := by
  obtain ⟨d, rfl⟩ : ∃ e, d = e + 1 := ⟨d - 1, by omega⟩
  have q0 : px_qk sh [] M0 M0 := ⟨hF, hG, eo_rf⟩
  obtain ⟨g3, htn, g199, htb, hi, g7, g8, g6, g9⟩ := id hcl
  have hSb := tkS_b (tb := tb) hi
  have hEb := tkE_b (tb := tb) hi
  have hKb := tkK_b tn tb i
  have hS3 := fun (h : tkK tn tb i = 3) => tkS_lt (tn := tn) (tb := tb) (i := i) (by omega)
  have hW3 : tkK tn tb i = 3 → tkW tn tb i = tb (tkS tn tb i) := fun h => by unfold tkW; rw [if_neg (by omega), if_neg (by omega), if_pos h]
  refine vc_n (Nat.le_of_ble_eq_true rfl) ?_
  show px_R xs L d 77 (0, [.ref 200, .int (iI (c))], [], (sh, M0)) (fun r h' => r = some (.int (iI (bI (tkK tn tb i = 3 ∧ tkW tn tb i = c)))) ∧ ∃ M', h' = (sh, M') ∧ px_qk sh [] M0 M')
  refine rr_aload_n pf_77_0 rfl ?_
  refine vr_getI q0 pf_77_1 po_77 pg_3_34 rfl (ws_200 hW) (by decide) (fun x1 hx1 rx1 => ?_)
  rw [g6] at hx1
  refine rr_iconst pf_77_4 ?_
  refine rr_icmp_ne 25 pf_77_5 (by decide) rx1 (by unfold rg; omega) (fun c2 => ?_) (fun c2 => ?_)
  · refine rr_iconst pf_77_25 ?_
    refine rr_zret pf_77_26 pt_77 (by first | exact Or.inl rfl | exact Or.inr rfl | omega) ⟨by rw [bI_f (by omega)], M0, rfl, q0⟩
  · have hS3 := hS3 (by omega)
    have hW3 := hW3 (by omega)
    refine rr_aload_n pf_77_8 rfl ?_
    refine rr_getR pf_77_9 po_77 pg_3_46 rfl (ws_200 hW) (by decide) (wr_200_2 q0.1) ?_
    refine rr_aload_n pf_77_12 rfl ?_
    refine vr_getI q0 pf_77_13 po_77 pg_3_37 rfl (ws_200 hW) (by decide) (fun x3 hx3 rx3 => ?_)
    rw [g7] at hx3
    have htS := htb (tkS tn tb i)
    refine vr_iald (j := (tkS tn tb i)) q0 pf_77_16 (ws_199 hW) (by omega) (by omega) (by decide) (fun x4 hx4 rx4 => ?_)
    rw [g199] at hx4
    refine rr_iload_n pf_77_17 rfl ?_
    refine rr_icmp_ne 25 pf_77_18 (by decide) rx4 (by unfold rg; omega) (fun c5 => ?_) (fun c5 => ?_)
    · refine rr_iconst pf_77_25 ?_
      refine rr_zret pf_77_26 pt_77 (by first | exact Or.inl rfl | exact Or.inr rfl | omega) ⟨by rw [bI_f (by omega)], M0, rfl, q0⟩
    · refine rr_iconst pf_77_21 ?_
      refine rr_goto 26 pf_77_22 (by decide) ?_
      refine rr_zret pf_77_26 pt_77 (by first | exact Or.inl rfl | exact Or.inr rfl | omega) ⟨by rw [bI_t (by omega)], M0, rfl, q0⟩
theorem ct_Reader_fail {xs : Nat → Int} {L d : Nat} {sh : List (Nat × Nat)} {M0 : Nat → Nat → Int} (hd : 1 ≤ d) (hW : px_W0 <+: sh) (hF : px_Fx M0) (hG : px_RG sh M0)  {tn : Nat} {tb : Nat → Int} {i : Nat} (hcl : clx M0 tn tb i) : ∃ M, (px_qk sh [200] M0 M ∧ (M 200 1 = ((tkS tn tb i : Nat) : Int)) ∧ (fk 200 [1] M0 M)) ∧ px_Cl xs L d 70 [.ref 200] (sh, M0) (some (.int (iI (bI (False))))) (sh, M) := by
  obtain ⟨d, rfl⟩ : ∃ e, d = e + 1 := ⟨d - 1, by omega⟩
  have q0 : px_qk sh [200] M0 M0 := ⟨hF, hG, eo_rf⟩
  obtain ⟨g3, htn, g199, htb, hi, g7, g8, g6, g9⟩ := id hcl
  have hSb := tkS_b (tb := tb) hi
  have hEb := tkE_b (tb := tb) hi
  have hKb := tkK_b tn tb i
  refine vc_n (Nat.le_of_ble_eq_true rfl) ?_
  show px_R xs L d 70 (0, [.ref 200], [], (sh, M0)) (fun r h' => r = some (.int (iI (bI (False)))) ∧ ∃ M', h' = (sh, M') ∧ px_qk sh [200] M0 M' ∧ M' 200 1 = ((tkS tn tb i : Nat) : Int) ∧ fk 200 [1] M0 M')
  refine rr_aload_n pf_70_0 rfl ?_
  refine rr_aload_n pf_70_1 rfl ?_
  refine vr_getI q0 pf_70_2 po_70 pg_3_37 rfl (ws_200 hW) (by decide) (fun x1 hx1 rx1 => ?_)
  rw [g7] at hx1
  refine vr_putI hW q0 pf_70_5 po_70 pg_3_20 (Or.inl rfl) rfl (ws_200 hW) (by decide) rx1 (by decide) (fun M2 eM2 q3 => ?_)
  have rq4 := fk_up (fk_rf 200 [1] M0) eM2 (by decide)
  refine rr_iconst pf_70_8 ?_
  refine rr_zret pf_70_9 pt_70 (by first | exact Or.inl rfl | exact Or.inr rfl | omega) ⟨by rw [bI_f (by exact id)], M2, rfl, q3, (by rw [eM2, up_s]; exact hx1), (rq4)⟩
def sgF (t K : Nat) (W fo : Int) : Nat → Nat → Int
  | 0, _ => -1
  | f + 1, j => if K = 3 ∧ W = ((chr t j : Nat) : Int) then fo + ((j : Nat) : Int) else sgF t K W fo f (j + 1)
theorem lp_Reader_signIn_2 {xs : Nat → Int} {L d : Nat} {sh : List (Nat × Nat)} (hd : 4 ≤ d) (hW : px_W0 <+: sh) {M0 : Nat → Nat → Int}  {tn : Nat} {tb : Nat → Int} {i : Nat} (hcl : clx M0 tn tb i) {t : Nat} (ht : t < 14) {fo : Int} (hfo : 0 ≤ fo ∧ fo ≤ 20)  {Q : Option Value → px_H → Prop} (kx : ∀ (j : Nat) (M : Nat → Nat → Int), px_qk sh [] M0 M → (sgF t (tkK tn tb i) (tkW tn tb i) fo (px_txt t).length 0 = -1) → px_R xs L d 83 (32, [.ref 200, .retAddr (t + 1), .int (iI (fo)), .int (iI (((j : Nat) : Int)))], [], (sh, M)) Q) (hQ : ∀ r h', (fun r h' => ∃ v M', r = some (.int (iI v)) ∧ h' = (sh, M') ∧ px_qk sh [] M0 M' ∧ v = sgF t (tkK tn tb i) (tkW tn tb i) fo (px_txt t).length 0) r h' → Q r h') : ∀ (mz : Nat) (j : Nat) (M : Nat → Nat → Int), (px_txt t).length - j = mz → px_qk sh [] M0 M → (j ≤ (px_txt t).length) → (sgF t (tkK tn tb i) (tkW tn tb i) fo (px_txt t).length 0 = sgF t (tkK tn tb i) (tkW tn tb i) fo ((px_txt t).length - j) j) → px_R xs L d 83 (2, [.ref 200, .retAddr (t + 1), .int (iI (fo)), .int (iI (((j : Nat) : Int)))], [], (sh, M)) Q := by
  intro mz
  induction mz using Nat.strongRecOn with
  | _ mz ih =>
    intro j M hm hq hj hs
    refine rr_iload_n pf_83_2 rfl ?_
    refine rr_aload_nT pf_83_3 rfl (by omega) ?_
    have hlt := (txt_ok t ht).1
    refine rr_cT0 pf_83_4 po_83 pc_3_187 po_63 (by omega) rfl (ct_String_length (t := t) (by omega) ht) ?_
    refine rr_icmp_ge 32 pf_83_7 (by decide) (by unfold rg; omega) (by unfold rg; omega) (fun c1 => ?_) (fun c1 => ?_)
    · exact kx j M hq (by rw [hs, show (px_txt t).length - j = 0 by omega]; rfl)
    · refine rr_aload_n pf_83_10 rfl ?_
      refine rr_aload_nT pf_83_11 rfl (by omega) ?_
      refine rr_iload_n pf_83_12 rfl ?_
      have hch2 := ct_String_charAt (xs := xs) (L := L) (d := d) (sh := sh) (M := M) (t := t) (i := j) (by omega) ht (by omega)
      rw [show ((px_txt t).getD (j) (Char.ofNat 97)).toNat = chr t (j) from rfl] at hch2
      rw [show ((j : Nat) : Int) = ((j : Nat) : Int) by omega] at hch2
      have bhch2 : chr t (j) < 128 := (txt_ok t ht).2 (j) (by omega)
      refine rr_cT1 pf_83_13 po_83 pc_3_192 po_65 (by omega) rfl hch2 ?_
      obtain ⟨M3, kq4, hcM3⟩ := ct_Reader_isSign (xs := xs) (L := L) (d := d) (c := ((chr t (j) : Nat) : Int)) (tn := tn) (tb := tb) (i := i) (by omega) hW hq.1 hq.2.1 (by have z := hcl; unfold clx at z ⊢; rw [hq.2.2 200 (by decide), hq.2.2 199 (by decide)]; exact z) (by omega)
      obtain rfl := qk_nil kq4
      refine rr_cV1 pf_83_16 po_83 pc_3_64 (ws_200 hW) po_77 (by decide) rfl hcM3 ?_
      refine rr_ifb_eq 26 pf_83_19 (by decide) (fun c6 => ?_) (fun c6 => ?_)
      · have hns := c6
        refine rr_iinc pf_83_26 rfl (fun y => [.ref 200, .retAddr (t + 1), .int (iI (fo)), .int (iI (y))]) (fun _ => rfl) (fun y7 hy7 => ?_)
        refine rr_goto 2 pf_83_29 (by decide) ?_
        obtain ⟨nz8, hnz8, rfl⟩ : ∃ zz : Nat, zz = 1 + j ∧ y7 = ((zz : Nat) : Int) := ⟨1 + j, rfl, by omega⟩
        exact ih _ (by omega) nz8 M rfl hq (by omega) (by rw [hs, show (px_txt t).length - j = ((px_txt t).length - (j + 1)) + 1 by omega, sgF, if_neg hns, show nz8 = j + 1 by omega])
      · have hns := c6
        refine rr_iload_n pf_83_22 rfl ?_
        refine rr_iload_n pf_83_23 rfl ?_
        refine rr_iadd pf_83_24 ?_
        refine rr_iret pf_83_25 pt_83 (hQ _ _ ⟨_, M, rfl, rfl, hq, (by rw [hs, show (px_txt t).length - j = ((px_txt t).length - (j + 1)) + 1 by omega, sgF, if_pos hns])⟩)
theorem ct_Reader_signIn {xs : Nat → Int} {L d : Nat} {sh : List (Nat × Nat)} {M0 : Nat → Nat → Int} (hd : 5 ≤ d) (hW : px_W0 <+: sh) (hF : px_Fx M0) (hG : px_RG sh M0)  {tn : Nat} {tb : Nat → Int} {i : Nat} (hcl : clx M0 tn tb i) {t : Nat} (ht : t < 14) {fo : Int} (hfo : 0 ≤ fo ∧ fo ≤ 20) : ∃ v M, (px_qk sh [] M0 M ∧ (v = sgF t (tkK tn tb i) (tkW tn tb i) fo (px_txt t).length 0)) ∧ px_Cl xs L d 83 [.ref 200, .retAddr (t + 1), .int (iI (fo))] (sh, M0) (some (.int (iI v))) (sh, M) := by
  obtain ⟨d, rfl⟩ : ∃ e, d = e + 1 := ⟨d - 1, by omega⟩
  have q0 : px_qk sh [] M0 M0 := ⟨hF, hG, eo_rf⟩
  have hlt := (txt_ok t ht).1
  refine vc_i (Nat.le_of_ble_eq_true rfl) ?_
  show px_R xs L d 83 (0, [.ref 200, .retAddr (t + 1), .int (iI (fo)), px_jk], [], (sh, M0)) (fun r h' => ∃ v M', r = some (.int (iI v)) ∧ h' = (sh, M') ∧ px_qk sh [] M0 M' ∧ v = sgF t (tkK tn tb i) (tkW tn tb i) fo (px_txt t).length 0)
  refine rr_iconst pf_83_0 ?_
  refine rr_istore_n pf_83_1 (fun y => [.ref 200, .retAddr (t + 1), .int (iI (fo)), .int (iI (y))]) (Nat.le_of_ble_eq_true rfl) (fun _ => rfl) (fun y1 hy1 => ?_)
  obtain ⟨nz2, hnz2, rfl⟩ : ∃ zz : Nat, zz = 0 ∧ y1 = ((zz : Nat) : Int) := ⟨0, rfl, by omega⟩
  refine lp_Reader_signIn_2 (xs := xs) (L := L) (d := d) (by omega) hW hcl ht hfo (fun j_3  M4 q5 xs__M4 => ?_) (fun _ _ h => h) _ nz2 M0 rfl q0 (by omega) (by rw [show nz2 = 0 by omega]; rfl)
  refine rr_iconst pf_83_32 ?_
  refine rr_iret pf_83_33 pt_83 ⟨_, M4, rfl, rfl, q5, (by rw [xs__M4])⟩
theorem lp_Reader_indexIn_10 {xs : Nat → Int} {L d : Nat} {sh : List (Nat × Nat)} (hd : 4 ≤ d) (hW : px_W0 <+: sh) {M0 : Nat → Nat → Int}  {tn : Nat} {tb : Nat → Int} {i : Nat} (hcl : clx M0 tn tb i) {t : Nat} (ht : t < 14) (hlw : wLet t) (hdw : hwD t)  {Q : Option Value → px_H → Prop} (kx : ∀ (k : Nat) (sm : Nat) (fr : Nat) (j : Nat) (M : Nat → Nat → Int), px_qk sh [] M0 M → (tkK tn tb i = 1 → ∀ k2, k2 < wn t → ¬ eqW tb (tkS tn tb i) (tkE tn tb i) t k2) → px_R xs L d 62 (136, [.ref 200, .retAddr (t + 1), .int (iI (((k : Nat) : Int))), .int (iI (((sm : Nat) : Int))), .int (iI (((fr : Nat) : Int))), .int (iI (((j : Nat) : Int)))], [], (sh, M)) Q) (hQ : ∀ r h', (fun r h' => ∃ v M', r = some (.int (iI v)) ∧ h' = (sh, M') ∧ px_qk sh [] M0 M' ∧ v = kAt (hw t) (tkK tn tb i) (tkW tn tb i) (wn t)) r h' → Q r h') : ∀ (mz : Nat) (k : Nat) (sm : Nat) (fr : Nat) (j : Nat) (M : Nat → Nat → Int), (px_txt t).length + 1 - j = mz → px_qk sh [] M0 M → ((k < wn t ∧ fr = wa t k ∧ wa t k ≤ j ∧ j ≤ wb t k ∧ (sm ≤ j - fr ∧ sm ≤ tkE tn tb i - tkS tn tb i ∧ (∀ j, j < sm → tb (tkS tn tb i + j) = ((chr t (wa t k + j) : Nat) : Int)) ∧ (sm < j - fr → sm = tkE tn tb i - tkS tn tb i ∨ tb (tkS tn tb i + sm) ≠ ((chr t (wa t k + sm) : Nat) : Int)))) ∨ (k = wn t ∧ j = (px_txt t).length + 1)) → (j ≤ (px_txt t).length + 1 ∧ k ≤ 12 ∧ sm ≤ 400 ∧ fr ≤ (px_txt t).length + 1) → (∀ k2, k2 < k → ¬ eqW tb (tkS tn tb i) (tkE tn tb i) t k2) → px_R xs L d 62 (10, [.ref 200, .retAddr (t + 1), .int (iI (((k : Nat) : Int))), .int (iI (((sm : Nat) : Int))), .int (iI (((fr : Nat) : Int))), .int (iI (((j : Nat) : Int)))], [], (sh, M)) Q := by
  intro mz
  induction mz using Nat.strongRecOn with
  | _ mz ih =>
    intro k sm fr j M hm hq hk hjb hno
    obtain ⟨g3, htn, g199, htb, hi, g7, g8, g6, g9⟩ := id hcl
    have hSb := tkS_b (tb := tb) hi
    have hEb := tkE_b (tb := tb) hi
    have hKb := tkK_b tn tb i
    have hlt := (txt_ok t ht).1
    have hwo := w_ok t ht
    refine rr_iload pf_62_10 rfl ?_
    refine rr_aload_nT pf_62_12 rfl (by omega) ?_
    refine rr_cT0 pf_62_13 po_62 pc_3_187 po_63 (by omega) rfl (ct_String_length (t := t) (by omega) ht) ?_
    refine rr_icmp_gt 136 pf_62_16 (by decide) (by unfold rg; omega) (by unfold rg; omega) (fun c1 => ?_) (fun c1 => ?_)
    · exact kx k sm fr j M hq (by
                  intro hk1 k2 hk2; refine hno k2 ?_; rcases hk with z | z
                  · exfalso; have z5 := hwo.2.2.2 k z.1; omega
                  · omega)
    · refine rr_aload_n pf_62_19 rfl ?_
      refine vr_getI hq pf_62_20 po_62 pg_3_34 rfl (ws_200 hW) (by decide) (fun x2 hx2 rx2 => ?_)
      rw [hq.2.2 200 (by decide)] at hx2
      rw [g6] at hx2
      refine rr_iconst pf_62_23 ?_
      refine rr_icmp_ne 136 pf_62_24 (by decide) rx2 (by unfold rg; omega) (fun c3 => ?_) (fun c3 => ?_)
      · exact kx k sm fr j M hq (by intro hk1; exfalso; omega)
      · refine rr_iload pf_62_27 rfl ?_
        refine rr_aload_nT pf_62_29 rfl (by omega) ?_
        refine rr_cT0 pf_62_30 po_62 pc_3_187 po_63 (by omega) rfl (ct_String_length (t := t) (by omega) ht) ?_
        refine rr_icmp_eq 47 pf_62_33 (by decide) (by unfold rg; omega) (by unfold rg; omega) (fun c4 => ?_) (fun c4 => ?_)
        · have hk9 := hk.resolve_right (fun z => by omega)
          refine rr_iload_n pf_62_47 rfl ?_
          refine rr_aload_n pf_62_48 rfl ?_
          refine vr_getI hq pf_62_49 po_62 pg_3_40 rfl (ws_200 hW) (by decide) (fun x5 hx5 rx5 => ?_)
          rw [hq.2.2 200 (by decide)] at hx5
          rw [g8] at hx5
          refine rr_aload_n pf_62_52 rfl ?_
          refine vr_getI hq pf_62_53 po_62 pg_3_37 rfl (ws_200 hW) (by decide) (fun x6 hx6 rx6 => ?_)
          rw [hq.2.2 200 (by decide)] at hx6
          rw [g7] at hx6
          refine rr_isub pf_62_56 ?_
          refine rr_icmp_ne 71 pf_62_57 (by decide) (by unfold rg; omega) (by unfold rg; omega) (fun c7 => ?_) (fun c7 => ?_)
          · refine rr_iinc pf_62_71 rfl (fun y => [.ref 200, .retAddr (t + 1), .int (iI (y)), .int (iI (((sm : Nat) : Int))), .int (iI (((fr : Nat) : Int))), .int (iI (((j : Nat) : Int)))]) (fun _ => rfl) (fun y8 hy8 => ?_)
            refine rr_iconst pf_62_74 ?_
            refine rr_istore_n pf_62_75 (fun y => [.ref 200, .retAddr (t + 1), .int (iI (y8)), .int (iI (y)), .int (iI (((fr : Nat) : Int))), .int (iI (((j : Nat) : Int)))]) (Nat.le_of_ble_eq_true rfl) (fun _ => rfl) (fun y9 hy9 => ?_)
            refine rr_iload pf_62_76 rfl ?_
            refine rr_iconst pf_62_78 ?_
            refine rr_iadd pf_62_79 ?_
            refine rr_istore pf_62_80 (fun y => [.ref 200, .retAddr (t + 1), .int (iI (y8)), .int (iI (y9)), .int (iI (y)), .int (iI (((j : Nat) : Int)))]) (Nat.le_of_ble_eq_true rfl) (fun _ => rfl) (fun y10 hy10 => ?_)
            refine rr_goto 130 pf_62_82 (by decide) ?_
            refine rr_iinc pf_62_130 rfl (fun y => [.ref 200, .retAddr (t + 1), .int (iI (y8)), .int (iI (y9)), .int (iI (y10)), .int (iI (y))]) (fun _ => rfl) (fun y11 hy11 => ?_)
            refine rr_goto 10 pf_62_133 (by decide) ?_
            obtain ⟨nz12, hnz12, rfl⟩ : ∃ zz : Nat, zz = 1 + k ∧ y8 = ((zz : Nat) : Int) := ⟨1 + k, rfl, by omega⟩
            obtain ⟨nz13, hnz13, rfl⟩ : ∃ zz : Nat, zz = 0 ∧ y9 = ((zz : Nat) : Int) := ⟨0, rfl, by omega⟩
            obtain ⟨nz14, hnz14, rfl⟩ : ∃ zz : Nat, zz = 1 + j ∧ y10 = ((zz : Nat) : Int) := ⟨1 + j, rfl, by omega⟩
            obtain ⟨nz15, hnz15, rfl⟩ : ∃ zz : Nat, zz = 1 + j ∧ y11 = ((zz : Nat) : Int) := ⟨1 + j, rfl, by omega⟩
            exact ih _ (by omega) nz12 nz13 nz14 nz15 M rfl hq (by
                              obtain ⟨z1, z2, z3, z4, z5⟩ := hk.resolve_right (fun z => by omega)
                              have y := hwo.2.2.2 k z1
                              have hbe : j = wb t k := by
                                omega
                              by_cases hlast : k + 1 < wn t
                              · have y3 := y.2.2.2 hlast
                                left; rw [show nz12 = k + 1 by omega, show nz13 = 0 by omega, show nz14 = wa t (k + 1) by omega, show nz15 = wa t (k + 1) by omega]
                                have y4 := hwo.2.2.2 (k + 1) hlast
                                exact ⟨hlast, rfl, Nat.le_refl _, y4.1, Nat.zero_le _, Nat.zero_le _, fun j hj => by omega, fun h => by omega⟩
                              · right; have y5 := hwo.2.2.1; rw [show wn t - 1 = k by omega] at y5; omega) (by
                              have z0 := hk.resolve_right (fun z => by omega)
                              have y := hwo.2.2.2 k z0.1
                              have z6 := z0.2.2.2.2.2.1
                              omega) (by
                              intro k2 hk2; rcases (show k2 < k ∨ k2 = k by omega) with u | u
                              · exact hno k2 u
                              · rw [u]; intro heq
                                obtain ⟨z1, z2, z3, z4, z5, z6, z7, z8⟩ := hk.resolve_right (fun z => by omega)
                                obtain ⟨e1, e2⟩ := heq
                                have hbe : j = wb t k := by
                                  rcases (show j < wb t k ∨ j = wb t k by omega) with zz | zz
                                  · have y := hwo.2.2.2 k z1; omega
                                  · exact zz
                                by_cases hsm : sm < j - fr
                                · rcases z8 hsm with u2 | u2
                                  · omega
                                  · exact u2 (e2 sm (by omega))
                                · omega)
          · refine rr_iload_n pf_62_60 rfl ?_
            refine rr_iload pf_62_61 rfl ?_
            refine rr_iload pf_62_63 rfl ?_
            refine rr_isub pf_62_65 ?_
            refine rr_icmp_ne 71 pf_62_66 (by decide) (by unfold rg; omega) (by unfold rg; omega) (fun c16 => ?_) (fun c16 => ?_)
            · refine rr_iinc pf_62_71 rfl (fun y => [.ref 200, .retAddr (t + 1), .int (iI (y)), .int (iI (((sm : Nat) : Int))), .int (iI (((fr : Nat) : Int))), .int (iI (((j : Nat) : Int)))]) (fun _ => rfl) (fun y17 hy17 => ?_)
              refine rr_iconst pf_62_74 ?_
              refine rr_istore_n pf_62_75 (fun y => [.ref 200, .retAddr (t + 1), .int (iI (y17)), .int (iI (y)), .int (iI (((fr : Nat) : Int))), .int (iI (((j : Nat) : Int)))]) (Nat.le_of_ble_eq_true rfl) (fun _ => rfl) (fun y18 hy18 => ?_)
              refine rr_iload pf_62_76 rfl ?_
              refine rr_iconst pf_62_78 ?_
              refine rr_iadd pf_62_79 ?_
              refine rr_istore pf_62_80 (fun y => [.ref 200, .retAddr (t + 1), .int (iI (y17)), .int (iI (y18)), .int (iI (y)), .int (iI (((j : Nat) : Int)))]) (Nat.le_of_ble_eq_true rfl) (fun _ => rfl) (fun y19 hy19 => ?_)
              refine rr_goto 130 pf_62_82 (by decide) ?_
              refine rr_iinc pf_62_130 rfl (fun y => [.ref 200, .retAddr (t + 1), .int (iI (y17)), .int (iI (y18)), .int (iI (y19)), .int (iI (y))]) (fun _ => rfl) (fun y20 hy20 => ?_)
              refine rr_goto 10 pf_62_133 (by decide) ?_
              obtain ⟨nz21, hnz21, rfl⟩ : ∃ zz : Nat, zz = 1 + k ∧ y17 = ((zz : Nat) : Int) := ⟨1 + k, rfl, by omega⟩
              obtain ⟨nz22, hnz22, rfl⟩ : ∃ zz : Nat, zz = 0 ∧ y18 = ((zz : Nat) : Int) := ⟨0, rfl, by omega⟩
              obtain ⟨nz23, hnz23, rfl⟩ : ∃ zz : Nat, zz = 1 + j ∧ y19 = ((zz : Nat) : Int) := ⟨1 + j, rfl, by omega⟩
              obtain ⟨nz24, hnz24, rfl⟩ : ∃ zz : Nat, zz = 1 + j ∧ y20 = ((zz : Nat) : Int) := ⟨1 + j, rfl, by omega⟩
              exact ih _ (by omega) nz21 nz22 nz23 nz24 M rfl hq (by
                                  obtain ⟨z1, z2, z3, z4, z5⟩ := hk.resolve_right (fun z => by omega)
                                  have y := hwo.2.2.2 k z1
                                  have hbe : j = wb t k := by
                                    omega
                                  by_cases hlast : k + 1 < wn t
                                  · have y3 := y.2.2.2 hlast
                                    left; rw [show nz21 = k + 1 by omega, show nz22 = 0 by omega, show nz23 = wa t (k + 1) by omega, show nz24 = wa t (k + 1) by omega]
                                    have y4 := hwo.2.2.2 (k + 1) hlast
                                    exact ⟨hlast, rfl, Nat.le_refl _, y4.1, Nat.zero_le _, Nat.zero_le _, fun j hj => by omega, fun h => by omega⟩
                                  · right; have y5 := hwo.2.2.1; rw [show wn t - 1 = k by omega] at y5; omega) (by
                                  have z0 := hk.resolve_right (fun z => by omega)
                                  have y := hwo.2.2.2 k z0.1
                                  have z6 := z0.2.2.2.2.2.1
                                  omega) (by
                                  intro k2 hk2; rcases (show k2 < k ∨ k2 = k by omega) with u | u
                                  · exact hno k2 u
                                  · rw [u]; intro heq
                                    obtain ⟨z1, z2, z3, z4, z5, z6, z7, z8⟩ := hk.resolve_right (fun z => by omega)
                                    obtain ⟨e1, e2⟩ := heq
                                    have hbe : j = wb t k := by
                                      rcases (show j < wb t k ∨ j = wb t k by omega) with zz | zz
                                      · have y := hwo.2.2.2 k z1; omega
                                      · exact zz
                                    by_cases hsm : sm < j - fr
                                    · rcases z8 hsm with u2 | u2
                                      · omega
                                      · exact u2 (e2 sm (by omega))
                                    · omega)
            · refine rr_iload_n pf_62_69 rfl ?_
              refine rr_iret pf_62_70 pt_62 (hQ _ _ ⟨_, M, rfl, rfl, hq, (by
                                  obtain ⟨z1, z2, z3, z4, z5, z6, z7, z8⟩ := hk.resolve_right (fun z => by omega)
                                  have hk1 : tkK tn tb i = 1 := by omega
                                  have hbe : j = wb t k := by
                                    rcases (show j < wb t k ∨ j = wb t k by omega) with zz | zz
                                    · have y := hwo.2.2.2 k z1; omega
                                    · exact zz
                                  have heq : eqW tb (tkS tn tb i) (tkE tn tb i) t k := ⟨by omega, fun j2 hj2 => z7 j2 (by omega)⟩
                                  rw [hk1]
                                  exact (kAt_yes ((eqW_h hk1 (tk_let hk1) ht z1 hlw).mp heq) _ z1 (fun j2 hj2 hne => hdw k z1 j2 hj2 hne)).symm)⟩)
        · refine rr_aload_nT pf_62_36 rfl (by omega) ?_
          refine rr_iload pf_62_37 rfl ?_
          have hch25 := ct_String_charAt (xs := xs) (L := L) (d := d) (sh := sh) (M := M) (t := t) (i := j) (by omega) ht (by omega)
          rw [show ((px_txt t).getD (j) (Char.ofNat 97)).toNat = chr t (j) from rfl] at hch25
          rw [show ((j : Nat) : Int) = ((j : Nat) : Int) by omega] at hch25
          have bhch25 : chr t (j) < 128 := (txt_ok t ht).2 (j) (by omega)
          refine rr_cT1 pf_62_39 po_62 pc_3_192 po_65 (by omega) rfl hch25 ?_
          refine rr_bipush pf_62_42 (by decide) ?_
          refine rr_icmp_ne 85 pf_62_44 (by decide) (by unfold rg; omega) (by unfold rg; omega) (fun c26 => ?_) (fun c26 => ?_)
          · have hk9 := hk.resolve_right (fun z => by omega)
            refine rr_iload_n pf_62_85 rfl ?_
            refine rr_iload pf_62_86 rfl ?_
            refine rr_iload pf_62_88 rfl ?_
            refine rr_isub pf_62_90 ?_
            refine rr_icmp_ne 130 pf_62_91 (by decide) (by unfold rg; omega) (by unfold rg; omega) (fun c27 => ?_) (fun c27 => ?_)
            · refine rr_iinc pf_62_130 rfl (fun y => [.ref 200, .retAddr (t + 1), .int (iI (((k : Nat) : Int))), .int (iI (((sm : Nat) : Int))), .int (iI (((fr : Nat) : Int))), .int (iI (y))]) (fun _ => rfl) (fun y28 hy28 => ?_)
              refine rr_goto 10 pf_62_133 (by decide) ?_
              obtain ⟨nz29, hnz29, rfl⟩ : ∃ zz : Nat, zz = 1 + j ∧ y28 = ((zz : Nat) : Int) := ⟨1 + j, rfl, by omega⟩
              exact ih _ (by omega) k sm fr nz29 M rfl hq (by
                                  obtain ⟨z1, z2, z3, z4, z5, z6, z7, z8⟩ := hk.resolve_right (fun z => by omega)
                                  have y := hwo.2.2.2 k z1
                                  have hjb : j < wb t k := by
                                    rcases (show j < wb t k ∨ j = wb t k by omega) with zz | zz
                                    · exact zz
                                    · exfalso
                                      by_cases hlast : k + 1 < wn t
                                      · have y3 := y.2.2.2 hlast; rw [← zz] at y3; omega
                                      · have y5 := hwo.2.2.1; rw [show wn t - 1 = k by omega] at y5; omega
                                  left; refine ⟨by omega, by omega, by omega, by omega, by omega, by omega, z7, fun _ => z8 (by omega)⟩) (by
                                  have z0 := hk.resolve_right (fun z => by omega)
                                  have y := hwo.2.2.2 k z0.1
                                  have z6 := z0.2.2.2.2.2.1
                                  omega) (hno)
            · refine rr_aload_n pf_62_94 rfl ?_
              refine vr_getI hq pf_62_95 po_62 pg_3_37 rfl (ws_200 hW) (by decide) (fun x30 hx30 rx30 => ?_)
              rw [hq.2.2 200 (by decide)] at hx30
              rw [g7] at hx30
              refine rr_iload_n pf_62_98 rfl ?_
              refine rr_iadd pf_62_99 ?_
              refine rr_aload_n pf_62_100 rfl ?_
              refine vr_getI hq pf_62_101 po_62 pg_3_40 rfl (ws_200 hW) (by decide) (fun x31 hx31 rx31 => ?_)
              rw [hq.2.2 200 (by decide)] at hx31
              rw [g8] at hx31
              refine rr_icmp_ge 130 pf_62_104 (by decide) (by unfold rg; omega) rx31 (fun c32 => ?_) (fun c32 => ?_)
              · refine rr_iinc pf_62_130 rfl (fun y => [.ref 200, .retAddr (t + 1), .int (iI (((k : Nat) : Int))), .int (iI (((sm : Nat) : Int))), .int (iI (((fr : Nat) : Int))), .int (iI (y))]) (fun _ => rfl) (fun y33 hy33 => ?_)
                refine rr_goto 10 pf_62_133 (by decide) ?_
                obtain ⟨nz34, hnz34, rfl⟩ : ∃ zz : Nat, zz = 1 + j ∧ y33 = ((zz : Nat) : Int) := ⟨1 + j, rfl, by omega⟩
                exact ih _ (by omega) k sm fr nz34 M rfl hq (by
                                      obtain ⟨z1, z2, z3, z4, z5, z6, z7, z8⟩ := hk.resolve_right (fun z => by omega)
                                      have y := hwo.2.2.2 k z1
                                      have hjb : j < wb t k := by
                                        rcases (show j < wb t k ∨ j = wb t k by omega) with zz | zz
                                        · exact zz
                                        · exfalso
                                          by_cases hlast : k + 1 < wn t
                                          · have y3 := y.2.2.2 hlast; rw [← zz] at y3; omega
                                          · have y5 := hwo.2.2.1; rw [show wn t - 1 = k by omega] at y5; omega
                                      left; refine ⟨by omega, by omega, by omega, by omega, by omega, by omega, z7, fun _ => Or.inl (by omega)⟩) (by
                                      have z0 := hk.resolve_right (fun z => by omega)
                                      have y := hwo.2.2.2 k z0.1
                                      have z6 := z0.2.2.2.2.2.1
                                      omega) (hno)
              · refine rr_aload_nT pf_62_107 rfl (by omega) ?_
                refine rr_iload pf_62_108 rfl ?_
                have hch35 := ct_String_charAt (xs := xs) (L := L) (d := d) (sh := sh) (M := M) (t := t) (i := j) (by omega) ht (by omega)
                rw [show ((px_txt t).getD (j) (Char.ofNat 97)).toNat = chr t (j) from rfl] at hch35
                rw [show ((j : Nat) : Int) = ((j : Nat) : Int) by omega] at hch35
                have bhch35 : chr t (j) < 128 := (txt_ok t ht).2 (j) (by omega)
                refine rr_cT1 pf_62_110 po_62 pc_3_192 po_65 (by omega) rfl hch35 ?_
                refine rr_aload_n pf_62_113 rfl ?_
                refine rr_getR pf_62_114 po_62 pg_3_46 rfl (ws_200 hW) (by decide) (wr_200_2 hq.1) ?_
                refine rr_aload_n pf_62_117 rfl ?_
                refine vr_getI hq pf_62_118 po_62 pg_3_37 rfl (ws_200 hW) (by decide) (fun x36 hx36 rx36 => ?_)
                rw [hq.2.2 200 (by decide)] at hx36
                rw [g7] at hx36
                refine rr_iload_n pf_62_121 rfl ?_
                refine rr_iadd pf_62_122 ?_
                have htS := htb (tkS tn tb i + sm)
                refine vr_iald (j := (tkS tn tb i + sm)) hq pf_62_123 (ws_199 hW) (by omega) (by omega) (by decide) (fun x37 hx37 rx37 => ?_)
                rw [hq.2.2 199 (by decide)] at hx37
                rw [g199] at hx37
                refine rr_icmp_ne 130 pf_62_124 (by decide) (by unfold rg; omega) rx37 (fun c38 => ?_) (fun c38 => ?_)
                · refine rr_iinc pf_62_130 rfl (fun y => [.ref 200, .retAddr (t + 1), .int (iI (((k : Nat) : Int))), .int (iI (((sm : Nat) : Int))), .int (iI (((fr : Nat) : Int))), .int (iI (y))]) (fun _ => rfl) (fun y39 hy39 => ?_)
                  refine rr_goto 10 pf_62_133 (by decide) ?_
                  obtain ⟨nz40, hnz40, rfl⟩ : ∃ zz : Nat, zz = 1 + j ∧ y39 = ((zz : Nat) : Int) := ⟨1 + j, rfl, by omega⟩
                  exact ih _ (by omega) k sm fr nz40 M rfl hq (by
                                          obtain ⟨z1, z2, z3, z4, z5, z6, z7, z8⟩ := hk.resolve_right (fun z => by omega)
                                          have y := hwo.2.2.2 k z1
                                          have hjb : j < wb t k := by
                                            rcases (show j < wb t k ∨ j = wb t k by omega) with zz | zz
                                            · exact zz
                                            · exfalso
                                              by_cases hlast : k + 1 < wn t
                                              · have y3 := y.2.2.2 hlast; rw [← zz] at y3; omega
                                              · have y5 := hwo.2.2.1; rw [show wn t - 1 = k by omega] at y5; omega
                                          left; refine ⟨by omega, by omega, by omega, by omega, by omega, by omega, z7, fun _ => Or.inr ?_⟩
                                          rw [show wa t k + sm = j by omega]; omega) (by
                                          have z0 := hk.resolve_right (fun z => by omega)
                                          have y := hwo.2.2.2 k z0.1
                                          have z6 := z0.2.2.2.2.2.1
                                          omega) (hno)
                · refine rr_iinc pf_62_127 rfl (fun y => [.ref 200, .retAddr (t + 1), .int (iI (((k : Nat) : Int))), .int (iI (y)), .int (iI (((fr : Nat) : Int))), .int (iI (((j : Nat) : Int)))]) (fun _ => rfl) (fun y41 hy41 => ?_)
                  refine rr_iinc pf_62_130 rfl (fun y => [.ref 200, .retAddr (t + 1), .int (iI (((k : Nat) : Int))), .int (iI (y41)), .int (iI (((fr : Nat) : Int))), .int (iI (y))]) (fun _ => rfl) (fun y42 hy42 => ?_)
                  refine rr_goto 10 pf_62_133 (by decide) ?_
                  obtain ⟨nz43, hnz43, rfl⟩ : ∃ zz : Nat, zz = 1 + sm ∧ y41 = ((zz : Nat) : Int) := ⟨1 + sm, rfl, by omega⟩
                  obtain ⟨nz44, hnz44, rfl⟩ : ∃ zz : Nat, zz = 1 + j ∧ y42 = ((zz : Nat) : Int) := ⟨1 + j, rfl, by omega⟩
                  exact ih _ (by omega) k nz43 fr nz44 M rfl hq (by
                                          obtain ⟨z1, z2, z3, z4, z5, z6, z7, z8⟩ := hk.resolve_right (fun z => by omega)
                                          have y := hwo.2.2.2 k z1
                                          have hjb : j < wb t k := by
                                            rcases (show j < wb t k ∨ j = wb t k by omega) with zz | zz
                                            · exact zz
                                            · exfalso
                                              by_cases hlast : k + 1 < wn t
                                              · have y3 := y.2.2.2 hlast; rw [← zz] at y3; omega
                                              · have y5 := hwo.2.2.1; rw [show wn t - 1 = k by omega] at y5; omega
                                          left; refine ⟨by omega, by omega, by omega, by omega, by omega, by omega, ?_, fun h => by omega⟩
                                          intro j2 hj2; rcases (show j2 < sm ∨ j2 = sm by omega) with u | u
                                          · exact z7 j2 u
                                          · rw [u, show wa t k + sm = j by omega]; omega) (by
                                          have z0 := hk.resolve_right (fun z => by omega)
                                          have y := hwo.2.2.2 k z0.1
                                          have z6 := z0.2.2.2.2.2.1
                                          omega) (hno)
          · have hk9 := hk.resolve_right (fun z => by omega)
            refine rr_iload_n pf_62_47 rfl ?_
            refine rr_aload_n pf_62_48 rfl ?_
            refine vr_getI hq pf_62_49 po_62 pg_3_40 rfl (ws_200 hW) (by decide) (fun x45 hx45 rx45 => ?_)
            rw [hq.2.2 200 (by decide)] at hx45
            rw [g8] at hx45
            refine rr_aload_n pf_62_52 rfl ?_
            refine vr_getI hq pf_62_53 po_62 pg_3_37 rfl (ws_200 hW) (by decide) (fun x46 hx46 rx46 => ?_)
            rw [hq.2.2 200 (by decide)] at hx46
            rw [g7] at hx46
            refine rr_isub pf_62_56 ?_
            refine rr_icmp_ne 71 pf_62_57 (by decide) (by unfold rg; omega) (by unfold rg; omega) (fun c47 => ?_) (fun c47 => ?_)
            · refine rr_iinc pf_62_71 rfl (fun y => [.ref 200, .retAddr (t + 1), .int (iI (y)), .int (iI (((sm : Nat) : Int))), .int (iI (((fr : Nat) : Int))), .int (iI (((j : Nat) : Int)))]) (fun _ => rfl) (fun y48 hy48 => ?_)
              refine rr_iconst pf_62_74 ?_
              refine rr_istore_n pf_62_75 (fun y => [.ref 200, .retAddr (t + 1), .int (iI (y48)), .int (iI (y)), .int (iI (((fr : Nat) : Int))), .int (iI (((j : Nat) : Int)))]) (Nat.le_of_ble_eq_true rfl) (fun _ => rfl) (fun y49 hy49 => ?_)
              refine rr_iload pf_62_76 rfl ?_
              refine rr_iconst pf_62_78 ?_
              refine rr_iadd pf_62_79 ?_
              refine rr_istore pf_62_80 (fun y => [.ref 200, .retAddr (t + 1), .int (iI (y48)), .int (iI (y49)), .int (iI (y)), .int (iI (((j : Nat) : Int)))]) (Nat.le_of_ble_eq_true rfl) (fun _ => rfl) (fun y50 hy50 => ?_)
              refine rr_goto 130 pf_62_82 (by decide) ?_
              refine rr_iinc pf_62_130 rfl (fun y => [.ref 200, .retAddr (t + 1), .int (iI (y48)), .int (iI (y49)), .int (iI (y50)), .int (iI (y))]) (fun _ => rfl) (fun y51 hy51 => ?_)
              refine rr_goto 10 pf_62_133 (by decide) ?_
              obtain ⟨nz52, hnz52, rfl⟩ : ∃ zz : Nat, zz = 1 + k ∧ y48 = ((zz : Nat) : Int) := ⟨1 + k, rfl, by omega⟩
              obtain ⟨nz53, hnz53, rfl⟩ : ∃ zz : Nat, zz = 0 ∧ y49 = ((zz : Nat) : Int) := ⟨0, rfl, by omega⟩
              obtain ⟨nz54, hnz54, rfl⟩ : ∃ zz : Nat, zz = 1 + j ∧ y50 = ((zz : Nat) : Int) := ⟨1 + j, rfl, by omega⟩
              obtain ⟨nz55, hnz55, rfl⟩ : ∃ zz : Nat, zz = 1 + j ∧ y51 = ((zz : Nat) : Int) := ⟨1 + j, rfl, by omega⟩
              exact ih _ (by omega) nz52 nz53 nz54 nz55 M rfl hq (by
                                  obtain ⟨z1, z2, z3, z4, z5⟩ := hk.resolve_right (fun z => by omega)
                                  have y := hwo.2.2.2 k z1
                                  have hbe : j = wb t k := by
                                    rcases (show j < wb t k ∨ j = wb t k by omega) with zz | zz
                                    · have := w_ch t ht k z1 (j - wa t k) (by omega); rw [show wa t k + (j - wa t k) = j by omega] at this; omega
                                    · exact zz
                                  by_cases hlast : k + 1 < wn t
                                  · have y3 := y.2.2.2 hlast
                                    left; rw [show nz52 = k + 1 by omega, show nz53 = 0 by omega, show nz54 = wa t (k + 1) by omega, show nz55 = wa t (k + 1) by omega]
                                    have y4 := hwo.2.2.2 (k + 1) hlast
                                    exact ⟨hlast, rfl, Nat.le_refl _, y4.1, Nat.zero_le _, Nat.zero_le _, fun j hj => by omega, fun h => by omega⟩
                                  · right; have y5 := hwo.2.2.1; rw [show wn t - 1 = k by omega] at y5; omega) (by
                                  have z0 := hk.resolve_right (fun z => by omega)
                                  have y := hwo.2.2.2 k z0.1
                                  have z6 := z0.2.2.2.2.2.1
                                  omega) (by
                                  intro k2 hk2; rcases (show k2 < k ∨ k2 = k by omega) with u | u
                                  · exact hno k2 u
                                  · rw [u]; intro heq
                                    obtain ⟨z1, z2, z3, z4, z5, z6, z7, z8⟩ := hk.resolve_right (fun z => by omega)
                                    obtain ⟨e1, e2⟩ := heq
                                    have hbe : j = wb t k := by
                                      rcases (show j < wb t k ∨ j = wb t k by omega) with zz | zz
                                      · have := w_ch t ht k z1 (j - wa t k) (by omega); rw [show wa t k + (j - wa t k) = j by omega] at this; omega
                                      · exact zz
                                    by_cases hsm : sm < j - fr
                                    · rcases z8 hsm with u2 | u2
                                      · omega
                                      · exact u2 (e2 sm (by omega))
                                    · omega)
            · refine rr_iload_n pf_62_60 rfl ?_
              refine rr_iload pf_62_61 rfl ?_
              refine rr_iload pf_62_63 rfl ?_
              refine rr_isub pf_62_65 ?_
              refine rr_icmp_ne 71 pf_62_66 (by decide) (by unfold rg; omega) (by unfold rg; omega) (fun c56 => ?_) (fun c56 => ?_)
              · refine rr_iinc pf_62_71 rfl (fun y => [.ref 200, .retAddr (t + 1), .int (iI (y)), .int (iI (((sm : Nat) : Int))), .int (iI (((fr : Nat) : Int))), .int (iI (((j : Nat) : Int)))]) (fun _ => rfl) (fun y57 hy57 => ?_)
                refine rr_iconst pf_62_74 ?_
                refine rr_istore_n pf_62_75 (fun y => [.ref 200, .retAddr (t + 1), .int (iI (y57)), .int (iI (y)), .int (iI (((fr : Nat) : Int))), .int (iI (((j : Nat) : Int)))]) (Nat.le_of_ble_eq_true rfl) (fun _ => rfl) (fun y58 hy58 => ?_)
                refine rr_iload pf_62_76 rfl ?_
                refine rr_iconst pf_62_78 ?_
                refine rr_iadd pf_62_79 ?_
                refine rr_istore pf_62_80 (fun y => [.ref 200, .retAddr (t + 1), .int (iI (y57)), .int (iI (y58)), .int (iI (y)), .int (iI (((j : Nat) : Int)))]) (Nat.le_of_ble_eq_true rfl) (fun _ => rfl) (fun y59 hy59 => ?_)
                refine rr_goto 130 pf_62_82 (by decide) ?_
                refine rr_iinc pf_62_130 rfl (fun y => [.ref 200, .retAddr (t + 1), .int (iI (y57)), .int (iI (y58)), .int (iI (y59)), .int (iI (y))]) (fun _ => rfl) (fun y60 hy60 => ?_)
                refine rr_goto 10 pf_62_133 (by decide) ?_
                obtain ⟨nz61, hnz61, rfl⟩ : ∃ zz : Nat, zz = 1 + k ∧ y57 = ((zz : Nat) : Int) := ⟨1 + k, rfl, by omega⟩
                obtain ⟨nz62, hnz62, rfl⟩ : ∃ zz : Nat, zz = 0 ∧ y58 = ((zz : Nat) : Int) := ⟨0, rfl, by omega⟩
                obtain ⟨nz63, hnz63, rfl⟩ : ∃ zz : Nat, zz = 1 + j ∧ y59 = ((zz : Nat) : Int) := ⟨1 + j, rfl, by omega⟩
                obtain ⟨nz64, hnz64, rfl⟩ : ∃ zz : Nat, zz = 1 + j ∧ y60 = ((zz : Nat) : Int) := ⟨1 + j, rfl, by omega⟩
                exact ih _ (by omega) nz61 nz62 nz63 nz64 M rfl hq (by
                                      obtain ⟨z1, z2, z3, z4, z5⟩ := hk.resolve_right (fun z => by omega)
                                      have y := hwo.2.2.2 k z1
                                      have hbe : j = wb t k := by
                                        rcases (show j < wb t k ∨ j = wb t k by omega) with zz | zz
                                        · have := w_ch t ht k z1 (j - wa t k) (by omega); rw [show wa t k + (j - wa t k) = j by omega] at this; omega
                                        · exact zz
                                      by_cases hlast : k + 1 < wn t
                                      · have y3 := y.2.2.2 hlast
                                        left; rw [show nz61 = k + 1 by omega, show nz62 = 0 by omega, show nz63 = wa t (k + 1) by omega, show nz64 = wa t (k + 1) by omega]
                                        have y4 := hwo.2.2.2 (k + 1) hlast
                                        exact ⟨hlast, rfl, Nat.le_refl _, y4.1, Nat.zero_le _, Nat.zero_le _, fun j hj => by omega, fun h => by omega⟩
                                      · right; have y5 := hwo.2.2.1; rw [show wn t - 1 = k by omega] at y5; omega) (by
                                      have z0 := hk.resolve_right (fun z => by omega)
                                      have y := hwo.2.2.2 k z0.1
                                      have z6 := z0.2.2.2.2.2.1
                                      omega) (by
                                      intro k2 hk2; rcases (show k2 < k ∨ k2 = k by omega) with u | u
                                      · exact hno k2 u
                                      · rw [u]; intro heq
                                        obtain ⟨z1, z2, z3, z4, z5, z6, z7, z8⟩ := hk.resolve_right (fun z => by omega)
                                        obtain ⟨e1, e2⟩ := heq
                                        have hbe : j = wb t k := by
                                          rcases (show j < wb t k ∨ j = wb t k by omega) with zz | zz
                                          · have := w_ch t ht k z1 (j - wa t k) (by omega); rw [show wa t k + (j - wa t k) = j by omega] at this; omega
                                          · exact zz
                                        by_cases hsm : sm < j - fr
                                        · rcases z8 hsm with u2 | u2
                                          · omega
                                          · exact u2 (e2 sm (by omega))
                                        · omega)
              · refine rr_iload_n pf_62_69 rfl ?_
                refine rr_iret pf_62_70 pt_62 (hQ _ _ ⟨_, M, rfl, rfl, hq, (by
                                      obtain ⟨z1, z2, z3, z4, z5, z6, z7, z8⟩ := hk.resolve_right (fun z => by omega)
                                      have hk1 : tkK tn tb i = 1 := by omega
                                      have hbe : j = wb t k := by
                                        rcases (show j < wb t k ∨ j = wb t k by omega) with zz | zz
                                        · have := w_ch t ht k z1 (j - wa t k) (by omega); rw [show wa t k + (j - wa t k) = j by omega] at this; omega
                                        · exact zz
                                      have heq : eqW tb (tkS tn tb i) (tkE tn tb i) t k := ⟨by omega, fun j2 hj2 => z7 j2 (by omega)⟩
                                      rw [hk1]
                                      exact (kAt_yes ((eqW_h hk1 (tk_let hk1) ht z1 hlw).mp heq) _ z1 (fun j2 hj2 hne => hdw k z1 j2 hj2 hne)).symm)⟩)
theorem ct_Reader_indexIn {xs : Nat → Int} {L d : Nat} {sh : List (Nat × Nat)} {M0 : Nat → Nat → Int} (hd : 5 ≤ d) (hW : px_W0 <+: sh) (hF : px_Fx M0) (hG : px_RG sh M0)  {tn : Nat} {tb : Nat → Int} {i : Nat} (hcl : clx M0 tn tb i) {t : Nat} (ht : t < 14) (hlw : wLet t) (hdw : hwD t) : ∃ v M, (px_qk sh [] M0 M ∧ (v = kAt (hw t) (tkK tn tb i) (tkW tn tb i) (wn t))) ∧ px_Cl xs L d 62 [.ref 200, .retAddr (t + 1)] (sh, M0) (some (.int (iI v))) (sh, M) := by
  obtain ⟨d, rfl⟩ : ∃ e, d = e + 1 := ⟨d - 1, by omega⟩
  have q0 : px_qk sh [] M0 M0 := ⟨hF, hG, eo_rf⟩
  have hlt := (txt_ok t ht).1
  have hwo := w_ok t ht
  obtain ⟨g3, htn, g199, htb, hi, g7, g8, g6, g9⟩ := id hcl
  have hSb := tkS_b (tb := tb) hi
  have hEb := tkE_b (tb := tb) hi
  have hKb := tkK_b tn tb i
  refine vc_i (Nat.le_of_ble_eq_true rfl) ?_
  show px_R xs L d 62 (0, [.ref 200, .retAddr (t + 1), px_jk, px_jk, px_jk, px_jk], [], (sh, M0)) (fun r h' => ∃ v M', r = some (.int (iI v)) ∧ h' = (sh, M') ∧ px_qk sh [] M0 M' ∧ v = kAt (hw t) (tkK tn tb i) (tkW tn tb i) (wn t))
  refine rr_iconst pf_62_0 ?_
  refine rr_istore_n pf_62_1 (fun y => [.ref 200, .retAddr (t + 1), .int (iI (y)), px_jk, px_jk, px_jk]) (Nat.le_of_ble_eq_true rfl) (fun _ => rfl) (fun y1 hy1 => ?_)
  refine rr_iconst pf_62_2 ?_
  refine rr_istore_n pf_62_3 (fun y => [.ref 200, .retAddr (t + 1), .int (iI (y1)), .int (iI (y)), px_jk, px_jk]) (Nat.le_of_ble_eq_true rfl) (fun _ => rfl) (fun y2 hy2 => ?_)
  refine rr_iconst pf_62_4 ?_
  refine rr_istore pf_62_5 (fun y => [.ref 200, .retAddr (t + 1), .int (iI (y1)), .int (iI (y2)), .int (iI (y)), px_jk]) (Nat.le_of_ble_eq_true rfl) (fun _ => rfl) (fun y3 hy3 => ?_)
  refine rr_iconst pf_62_7 ?_
  refine rr_istore pf_62_8 (fun y => [.ref 200, .retAddr (t + 1), .int (iI (y1)), .int (iI (y2)), .int (iI (y3)), .int (iI (y))]) (Nat.le_of_ble_eq_true rfl) (fun _ => rfl) (fun y4 hy4 => ?_)
  obtain ⟨nz5, hnz5, rfl⟩ : ∃ zz : Nat, zz = 0 ∧ y1 = ((zz : Nat) : Int) := ⟨0, rfl, by omega⟩
  obtain ⟨nz6, hnz6, rfl⟩ : ∃ zz : Nat, zz = 0 ∧ y2 = ((zz : Nat) : Int) := ⟨0, rfl, by omega⟩
  obtain ⟨nz7, hnz7, rfl⟩ : ∃ zz : Nat, zz = 0 ∧ y3 = ((zz : Nat) : Int) := ⟨0, rfl, by omega⟩
  obtain ⟨nz8, hnz8, rfl⟩ : ∃ zz : Nat, zz = 0 ∧ y4 = ((zz : Nat) : Int) := ⟨0, rfl, by omega⟩
  refine lp_Reader_indexIn_10 (xs := xs) (L := L) (d := d) (by omega) hW hcl ht hlw hdw (fun k_9 sm_10 fr_11 j_12  M13 q14 xno_M13 => ?_) (fun _ _ h => h) _ nz5 nz6 nz7 nz8 M0 rfl q0 (by left; rw [show nz5 = 0 by omega, show nz6 = 0 by omega, show nz7 = 0 by omega, show nz8 = 0 by omega, hwo.2.1]; exact ⟨hwo.1.1, rfl, Nat.le_refl _, Nat.zero_le _, Nat.zero_le _, Nat.zero_le _, fun j hj => by omega, fun h => by omega⟩) (by omega) (by intro k2 hk2; exfalso; omega)
  refine rr_iconst pf_62_136 ?_
  refine rr_iret pf_62_137 pt_62 ⟨_, M13, rfl, rfl, q14, (by
          by_cases hk1 : tkK tn tb i = 1
          · refine (kAt_no _ (fun k2 hk2 z => ?_)).symm
            exact xno_M13 hk1 k2 hk2 ((eqW_h hk1 (tk_let hk1) ht hk2 hlw).mpr z.2)
          · exact (kAt_no _ (fun k2 hk2 z => hk1 z.1)).symm)⟩
