/-! tokens -/
/-- the reference's fields, but for those of X, are as they were -/
def fz (X : List Nat) (M M2 : Nat → Nat → Int) : Prop := ∀ j, j ∉ X → M2 228 j = M 228 j
theorem fz_rf (X : List Nat) (M : Nat → Nat → Int) : fz X M M := fun _ _ => rfl
theorem fz_ne {X : List Nat} {M M2 M3 : Nat → Nat → Int} {a i : Nat} {x : Int} (h : fz X M M2) (e : M3 = px_up M2 a i x) (ha : 228 ≠ a) : fz X M M3 := fun j hj => by rw [e, ask_ne ha]; exact h j hj
theorem fz_up {X : List Nat} {M M2 M3 : Nat → Nat → Int} {i : Nat} {x : Int} (h : fz X M M2) (e : M3 = px_up M2 228 i x) (ha : i ∈ X) : fz X M M3 := fun j hj => by rw [e, up_ne (fun z => hj (by rw [z]; exact ha))]; exact h j hj
theorem fz_q {X : List Nat} {sh : List (Nat × Nat)} {A : List Nat} {M M2 M3 : Nat → Nat → Int} (h : fz X M M2) (q : px_qk sh A M2 M3) (ha : 228 ∉ A) : fz X M M3 := fun j hj => by rw [q.2.2 228 ha]; exact h j hj
theorem fz_tr {X Y : List Nat} {M M2 M3 : Nat → Nat → Int} (h1 : fz X M M2) (h2 : fz Y M2 M3) (hs : ∀ j ∈ Y, j ∈ X) : fz X M M3 := fun j hj => (h2 j (fun z => hj (hs j z))).trans (h1 j hj)
def tkd (b : Int) : Nat := if 97 ≤ b ∧ b ≤ 122 then 1 else if 48 ≤ b ∧ b ≤ 57 then 2 else 3
def skp (tn : Nat) (tb : Nat → Int) : Nat → Nat → Nat
  | 0, i => i
  | f + 1, i => if i < tn ∧ tb i = 32 then skp tn tb f (i + 1) else i
def rnn (tn : Nat) (tb : Nat → Int) (k : Nat) : Nat → Nat → Nat
  | 0, i => i
  | f + 1, i => if i < tn ∧ tkd (tb i) = k then rnn tn tb k f (i + 1) else i
/-- where the token from i on begins, of what kind it is, where it ends -/
def tkS (tn : Nat) (tb : Nat → Int) (i : Nat) : Nat := skp tn tb (tn - i) i
def tkK (tn : Nat) (tb : Nat → Int) (i : Nat) : Nat := if tkS tn tb i < tn then tkd (tb (tkS tn tb i)) else 0
def tkE (tn : Nat) (tb : Nat → Int) (i : Nat) : Nat := if tkS tn tb i < tn then (if tkd (tb (tkS tn tb i)) = 3 then tkS tn tb i + 1 else rnn tn tb (tkd (tb (tkS tn tb i))) (tn - tkS tn tb i) (tkS tn tb i)) else tkS tn tb i
/-- a word's worth, a number's -/
def hsh (tb : Nat → Int) (s : Nat) : Nat → Int
  | 0 => 0
  | n + 1 => if n < 10 then hsh tb s n * 32 + tb (s + n) - 96 else -1
def dgt (tb : Nat → Int) (s : Nat) : Nat → Int
  | 0 => 0
  | n + 1 => if 1000000 < dgt tb s n then dgt tb s n else dgt tb s n * 10 + tb (s + n) - 48
def tkW (tn : Nat) (tb : Nat → Int) (i : Nat) : Int := if tkK tn tb i = 1 then hsh tb (tkS tn tb i) (tkE tn tb i - tkS tn tb i) else if tkK tn tb i = 2 then dgt tb (tkS tn tb i) (tkE tn tb i - tkS tn tb i) else if tkK tn tb i = 3 then tb (tkS tn tb i) else 0
theorem skp_b (tn : Nat) (tb : Nat → Int) : ∀ f i, i ≤ tn → i ≤ skp tn tb f i ∧ skp tn tb f i ≤ tn := by
  intro f
  induction f with
  | zero => intro i h; exact ⟨Nat.le_refl _, h⟩
  | succ f ih =>
    intro i h
    simp only [skp]
    split
    · have := ih (i + 1) (by omega); omega
    · omega
theorem rnn_b (tn : Nat) (tb : Nat → Int) (k : Nat) : ∀ f i, i ≤ tn → i ≤ rnn tn tb k f i ∧ rnn tn tb k f i ≤ tn := by
  intro f
  induction f with
  | zero => intro i h; exact ⟨Nat.le_refl _, h⟩
  | succ f ih =>
    intro i h
    simp only [rnn]
    split
    · have := ih (i + 1) (by omega); omega
    · omega
theorem tkS_b {tn : Nat} {tb : Nat → Int} {i : Nat} (h : i ≤ tn) : i ≤ tkS tn tb i ∧ tkS tn tb i ≤ tn := skp_b tn tb _ i h
theorem tkE_b {tn : Nat} {tb : Nat → Int} {i : Nat} (h : i ≤ tn) : tkS tn tb i ≤ tkE tn tb i ∧ tkE tn tb i ≤ tn := by
  have a := tkS_b (tb := tb) h
  unfold tkE
  split
  · split
    · omega
    · have := rnn_b tn tb (tkd (tb (tkS tn tb i))) (tn - tkS tn tb i) (tkS tn tb i) (by omega); omega
  · omega
theorem tkd_b (b : Int) : 1 ≤ tkd b ∧ tkd b ≤ 3 := by unfold tkd; split; omega; split <;> omega
theorem hsh_b {tb : Nat → Int} {s : Nat} : ∀ n, (∀ j, j < n → tkd (tb (s + j)) = 1) → -1 ≤ hsh tb s n ∧ hsh tb s n < 32 ^ (min n 10) := by
  intro n
  induction n with
  | zero => intro _; simp [hsh]
  | succ n ih =>
    intro h
    have h1 := ih (fun j hj => h j (by omega))
    have h2 := h n (by omega)
    unfold tkd at h2
    have h3 : 97 ≤ tb (s + n) ∧ tb (s + n) ≤ 122 := by
      split at h2
      · assumption
      · split at h2 <;> omega
    simp only [hsh]
    split
    · rename_i hn
      rw [show min n 10 = n by omega] at h1
      rw [show min (n + 1) 10 = n + 1 by omega]
      have hnn : 0 ≤ hsh tb s n := by
        clear h2 h3 ih
        induction n with
        | zero => simp [hsh]
        | succ n ihn =>
          have hz := h n (by omega)
          unfold tkd at hz
          have hz3 : 97 ≤ tb (s + n) := by
            split at hz
            · rename_i q; exact q.1
            · split at hz <;> omega
          have hh : 0 ≤ hsh tb s n := ihn (fun j hj => h j (by omega)) ⟨by
              have : ∀ m, m ≤ n → 0 ≤ hsh tb s m := by
                intro m
                induction m with
                | zero => intro _; simp [hsh]
                | succ m ihm =>
                  intro hm
                  have q := h m (by omega)
                  unfold tkd at q
                  have q3 : 97 ≤ tb (s + m) := by
                    split at q
                    · rename_i z; exact z.1
                    · split at q <;> omega
                  have := ihm (by omega)
                  simp only [hsh]
                  rw [if_pos (by omega)]
                  omega
              have := this n (Nat.le_refl _); omega, by
              have e := h1.2
              simp only [hsh] at e
              rw [if_pos (by omega)] at e
              rw [Int.pow_succ] at e
              omega⟩ (by omega)
          simp only [hsh]
          rw [if_pos (by omega)]
          omega
      rw [Int.pow_succ]
      omega
    · rw [show min (n + 1) 10 = 10 by omega]
      exact ⟨by omega, by decide⟩
theorem ct_R_isSmall {xs : Nat → Int} {L d : Nat} {sh : List (Nat × Nat)} {M0 : Nat → Nat → Int} (hd : 1 ≤ d) (hW : px_W0 <+: sh) (hF : px_Fx M0) (hG : px_RG sh M0)  {b : Int} (hb0 : rg b) : ∃ M, (px_qk sh [] M0 M) ∧ px_Cl xs L d 223 [.int (iI (b))] (sh, M0) (some (.int (iI (bI (97 ≤ b ∧ b ≤ 122))))) (sh, M) := by
  obtain ⟨d, rfl⟩ : ∃ e, d = e + 1 := ⟨d - 1, by omega⟩
  have q0 : px_qk sh [] M0 M0 := ⟨hF, hG, eo_rf⟩
  refine vc_n (Nat.le_of_ble_eq_true rfl) ?_
  show px_R xs L d 223 (0, [.int (iI (b))], [], (sh, M0)) (fun r h' => r = some (.int (iI (bI (97 ≤ b ∧ b ≤ 122)))) ∧ ∃ M', h' = (sh, M') ∧ px_qk sh [] M0 M')
  refine rr_iload_n pf_223_0 rfl ?_
  refine rr_bipush pf_223_1 (by decide) ?_
  refine rr_icmp_lt 16 pf_223_3 (by decide) hb0 (by unfold rg; omega) (fun c1 => ?_) (fun c1 => ?_)
  · refine rr_iconst pf_223_16 ?_
    refine rr_zret pf_223_17 pt_223 (by first | exact Or.inl rfl | exact Or.inr rfl | omega) ⟨by rw [bI_f (by omega)], M0, rfl, q0⟩
  · refine rr_iload_n pf_223_6 rfl ?_
    refine rr_bipush pf_223_7 (by decide) ?_
    refine rr_icmp_gt 16 pf_223_9 (by decide) hb0 (by unfold rg; omega) (fun c2 => ?_) (fun c2 => ?_)
    · refine rr_iconst pf_223_16 ?_
      refine rr_zret pf_223_17 pt_223 (by first | exact Or.inl rfl | exact Or.inr rfl | omega) ⟨by rw [bI_f (by omega)], M0, rfl, q0⟩
    · refine rr_iconst pf_223_12 ?_
      refine rr_goto 17 pf_223_13 (by decide) ?_
      refine rr_zret pf_223_17 pt_223 (by first | exact Or.inl rfl | exact Or.inr rfl | omega) ⟨by rw [bI_t (by omega)], M0, rfl, q0⟩
theorem ct_R_isDigit {xs : Nat → Int} {L d : Nat} {sh : List (Nat × Nat)} {M0 : Nat → Nat → Int} (hd : 1 ≤ d) (hW : px_W0 <+: sh) (hF : px_Fx M0) (hG : px_RG sh M0)  {b : Int} (hb0 : rg b) : ∃ M, (px_qk sh [] M0 M) ∧ px_Cl xs L d 224 [.int (iI (b))] (sh, M0) (some (.int (iI (bI (48 ≤ b ∧ b ≤ 57))))) (sh, M) := by
  obtain ⟨d, rfl⟩ : ∃ e, d = e + 1 := ⟨d - 1, by omega⟩
  have q0 : px_qk sh [] M0 M0 := ⟨hF, hG, eo_rf⟩
  refine vc_n (Nat.le_of_ble_eq_true rfl) ?_
  show px_R xs L d 224 (0, [.int (iI (b))], [], (sh, M0)) (fun r h' => r = some (.int (iI (bI (48 ≤ b ∧ b ≤ 57)))) ∧ ∃ M', h' = (sh, M') ∧ px_qk sh [] M0 M')
  refine rr_iload_n pf_224_0 rfl ?_
  refine rr_bipush pf_224_1 (by decide) ?_
  refine rr_icmp_lt 16 pf_224_3 (by decide) hb0 (by unfold rg; omega) (fun c1 => ?_) (fun c1 => ?_)
  · refine rr_iconst pf_224_16 ?_
    refine rr_zret pf_224_17 pt_224 (by first | exact Or.inl rfl | exact Or.inr rfl | omega) ⟨by rw [bI_f (by omega)], M0, rfl, q0⟩
  · refine rr_iload_n pf_224_6 rfl ?_
    refine rr_bipush pf_224_7 (by decide) ?_
    refine rr_icmp_gt 16 pf_224_9 (by decide) hb0 (by unfold rg; omega) (fun c2 => ?_) (fun c2 => ?_)
    · refine rr_iconst pf_224_16 ?_
      refine rr_zret pf_224_17 pt_224 (by first | exact Or.inl rfl | exact Or.inr rfl | omega) ⟨by rw [bI_f (by omega)], M0, rfl, q0⟩
    · refine rr_iconst pf_224_12 ?_
      refine rr_goto 17 pf_224_13 (by decide) ?_
      refine rr_zret pf_224_17 pt_224 (by first | exact Or.inl rfl | exact Or.inr rfl | omega) ⟨by rw [bI_t (by omega)], M0, rfl, q0⟩
theorem skp_s {tn : Nat} {tb : Nat → Int} {i : Nat} (h : i < tn) (hb : tb i = 32) : skp tn tb (tn - i) i = skp tn tb (tn - (i + 1)) (i + 1) := by
  rw [show tn - i = (tn - (i + 1)) + 1 by omega, skp, if_pos ⟨h, hb⟩]
theorem skp_e {tn : Nat} {tb : Nat → Int} {i : Nat} (h : ¬ (i < tn ∧ tb i = 32)) : skp tn tb (tn - i) i = i := by
  cases hf : tn - i with
  | zero => rfl
  | succ f => rw [skp, if_neg h]
theorem rnn_s {tn : Nat} {tb : Nat → Int} {k i : Nat} (h : i < tn) (hb : tkd (tb i) = k) : rnn tn tb k (tn - i) i = rnn tn tb k (tn - (i + 1)) (i + 1) := by
  rw [show tn - i = (tn - (i + 1)) + 1 by omega, rnn, if_pos ⟨h, hb⟩]
theorem rnn_e {tn : Nat} {tb : Nat → Int} {k i : Nat} (h : ¬ (i < tn ∧ tkd (tb i) = k)) : rnn tn tb k (tn - i) i = i := by
  cases hf : tn - i with
  | zero => rfl
  | succ f => rw [rnn, if_neg h]
theorem p32 {k : Nat} (h : k ≤ 10) : (32 : Int) ^ k ≤ 1125899906842624 := by
  have h2 : 32 ^ k ≤ 32 ^ 10 := Nat.pow_le_pow_right (by decide) h
  have h3 : ((32 ^ k : Nat) : Int) ≤ ((32 ^ 10 : Nat) : Int) := Int.ofNat_le.mpr h2
  have e : (32 : Int) ^ k = ((32 ^ k : Nat) : Int) := by simp
  rw [e]
  exact h3
theorem tkd_1 {b : Int} : tkd b = 1 ↔ 97 ≤ b ∧ b ≤ 122 := by unfold tkd; split; simp [*]; split <;> simp [*]
theorem tkd_2 {b : Int} : tkd b = 2 ↔ 48 ≤ b ∧ b ≤ 57 := by
  unfold tkd
  split
  · constructor
    · intro h; omega
    · intro h; omega
  · split
    · simp [*]
    · constructor
      · intro h; omega
      · intro h; omega
theorem dgt_b {tb : Nat → Int} {s : Nat} : ∀ n, (∀ j, j < n → 48 ≤ tb (s + j) ∧ tb (s + j) ≤ 57) → 0 ≤ dgt tb s n ∧ dgt tb s n ≤ 10000009 := by
  intro n
  induction n with
  | zero => intro _; simp [dgt]
  | succ n ih =>
    intro h
    have h1 := ih (fun j hj => h j (by omega))
    have h2 := h n (by omega)
    simp only [dgt]
    split <;> omega
theorem lp_R_next_243 {xs : Nat → Int} {L d : Nat} {sh : List (Nat × Nat)} (hd : 1 ≤ d) (hW : px_W0 <+: sh) {M0 : Nat → Nat → Int}  {tn : Nat} (h13 : M0 228 13 = ((tn : Nat) : Int)) (htn : tn ≤ 400) (htb : ∀ j, 0 ≤ M0 237 j ∧ M0 237 j ≤ 255) {i s : Nat} (hs : s = tkS tn (M0 237) i) (hsn : s < tn) {Q : Option Value → px_H → Prop} (kx : ∀ (Z : Int) (c : Nat) (M : Nat → Nat → Int), px_qk sh [228] M0 M → (fz [14, 15, 16, 17] M0 M) → (M 228 14 = ((s : Nat) : Int)) → (M 228 16 = 2) → (M 228 15 = ((rnn tn (M0 237) 2 (tn - s) s : Nat) : Int)) → (M 228 17 = dgt (M0 237) s (rnn tn (M0 237) 2 (tn - s) s - s)) → px_R xs L d 222 (335, [.ref 228], [], (sh, M)) Q)  : ∀ (mz : Nat) (Z : Int) (c : Nat) (M : Nat → Nat → Int), tn - c = mz → px_qk sh [228] M0 M → (fz [14, 15, 16, 17] M0 M) → (M 228 14 = ((s : Nat) : Int)) → (M 228 16 = 2) → (s ≤ c ∧ c ≤ tn) → (M 228 15 = ((c : Nat) : Int)) → (M 228 17 = Z) → (∀ j, j < c - s → 48 ≤ M0 237 (s + j) ∧ M0 237 (s + j) ≤ 57) → (Z = dgt (M0 237) s (c - s)) → (rnn tn (M0 237) 2 (tn - c) c = rnn tn (M0 237) 2 (tn - s) s) → px_R xs L d 222 (243, [.ref 228], [], (sh, M)) Q := by
  intro mz
  induction mz using Nat.strongRecOn with
  | _ mz ih =>
    intro Z c M hm hq hrq h14 h16 hc h15 h17 hl hZ hr
    refine rr_aload_n pf_222_243 rfl ?_
    refine vr_getI hq pf_222_244 po_222 pg_9_296 rfl (ws_228 hW) (by decide) (fun x1 hx1 rx1 => ?_)
    rw [h16] at hx1
    refine rr_iconst pf_222_247 ?_
    refine rr_icmp_ne 335 pf_222_248 (by decide) rx1 (by unfold rg; omega) (fun c2 => ?_) (fun c2 => ?_)
    · exfalso; omega
    · refine rr_aload_n pf_222_251 rfl ?_
      refine vr_getI hq pf_222_252 po_222 pg_9_273 rfl (ws_228 hW) (by decide) (fun x3 hx3 rx3 => ?_)
      rw [h15] at hx3
      refine rr_aload_n pf_222_255 rfl ?_
      refine vr_getI hq pf_222_256 po_222 pg_9_264 rfl (ws_228 hW) (by decide) (fun x4 hx4 rx4 => ?_)
      rw [hrq 13 (by decide)] at hx4
      rw [h13] at hx4
      refine rr_icmp_ge 335 pf_222_259 (by decide) rx3 rx4 (fun c5 => ?_) (fun c5 => ?_)
      · exact kx Z c M hq (hrq) (h14) (h16) (by rw [← hr, rnn_e (by omega)]; exact h15) (by rw [← hr, rnn_e (by omega), ← hZ]; exact h17)
      · have htc := htb c
        refine rr_aload_n pf_222_262 rfl ?_
        refine rr_getR pf_222_263 po_222 pg_9_35 rfl (ws_228 hW) (by decide) (wr_228_12 hq.1) ?_
        refine rr_aload_n pf_222_266 rfl ?_
        refine vr_getI hq pf_222_267 po_222 pg_9_273 rfl (ws_228 hW) (by decide) (fun x6 hx6 rx6 => ?_)
        rw [h15] at hx6
        refine vr_iald (j := c) hq pf_222_270 (ws_237 hW) (by omega) (by omega) (by decide) (fun x7 hx7 rx7 => ?_)
        rw [hq.2.2 237 (by decide)] at hx7
        obtain ⟨M8, kq9, hcM8⟩ := ct_R_isDigit (xs := xs) (L := L) (d := d) (b := x7) (by omega) hW hq.1 hq.2.1 (by unfold rg; omega)
        obtain rfl := qk_nil kq9
        refine rr_cS1 pf_222_271 po_222 pc_9_293 (by decide) rfl hcM8 ?_
        refine rr_ifb_eq 335 pf_222_274 (by decide) (fun c11 => ?_) (fun c11 => ?_)
        · exact kx Z c M hq (hrq) (h14) (h16) (by rw [← hr, rnn_e (fun z => by have := tkd_2.mp z.2; omega)]; exact h15) (by rw [← hr, rnn_e (fun z => by have := tkd_2.mp z.2; omega), ← hZ]; exact h17)
        · refine rr_aload_n pf_222_277 rfl ?_
          have hk1 : tkd (M0 237 c) = 2 := tkd_2.mpr (by omega)
          have hkd : 48 ≤ M0 237 c ∧ M0 237 c ≤ 57 := by omega
          have htc := htb c
          refine rr_aload_n pf_222_278 rfl ?_
          refine vr_getL hq pf_222_279 po_222 pg_9_286 rfl (ws_228 hW) (by decide) (fun x12 hx12 rx12 => ?_)
          rw [h17] at hx12
          have hdb := dgt_b (tb := M0 237) (s := s) (c - s) hl
          refine rr_ldc2_w pf_222_282 po_222 pl_9_305 ?_
          refine rr_lcmp pf_222_285 rx12 (by unfold rl; omega) ?_
          refine rr_ifc_le 296 pf_222_286 (by decide) (fun c13 => ?_) (fun c13 => ?_)
          · refine rr_aload_n pf_222_296 rfl ?_
            refine vr_getL hq pf_222_297 po_222 pg_9_286 rfl (ws_228 hW) (by decide) (fun x14 hx14 rx14 => ?_)
            rw [h17] at hx14
            refine rr_ldc2_w pf_222_300 po_222 pl_9_259 ?_
            refine rr_lmul pf_222_303 ?_
            refine rr_aload_n pf_222_304 rfl ?_
            refine rr_getR pf_222_305 po_222 pg_9_35 rfl (ws_228 hW) (by decide) (wr_228_12 hq.1) ?_
            refine rr_aload_n pf_222_308 rfl ?_
            refine vr_getI hq pf_222_309 po_222 pg_9_273 rfl (ws_228 hW) (by decide) (fun x15 hx15 rx15 => ?_)
            rw [h15] at hx15
            refine vr_iald (j := c) hq pf_222_312 (ws_237 hW) (by omega) (by omega) (by decide) (fun x16 hx16 rx16 => ?_)
            rw [hq.2.2 237 (by decide)] at hx16
            refine rr_i2l pf_222_313 rx16 ?_
            refine rr_ladd pf_222_314 ?_
            refine rr_ldc2_w pf_222_315 po_222 pl_9_307 ?_
            refine rr_lsub pf_222_318 ?_
            refine vr_putL hW hq pf_222_319 po_222 pg_9_286 (Or.inl rfl) rfl (ws_228 hW) (by decide) (by unfold rl; omega) (by decide) (fun M17 eM17 q18 => ?_)
            have rq19 := fz_up hrq eM17 (by decide)
            refine rr_aload_n pf_222_322 rfl ?_
            refine rr_dup pf_222_323 rfl ?_
            refine vr_getI q18 pf_222_324 po_222 pg_9_273 rfl (ws_228 hW) (by decide) (fun x20 hx20 rx20 => ?_)
            rw [eM17, up_ne (by decide), h15] at hx20
            refine rr_iconst pf_222_327 ?_
            refine rr_iadd pf_222_328 ?_
            refine vr_putI hW q18 pf_222_329 po_222 pg_9_273 (Or.inl rfl) rfl (ws_228 hW) (by decide) (by unfold rg; omega) (by decide) (fun M21 eM21 q22 => ?_)
            have rq23 := fz_up rq19 eM21 (by decide)
            refine rr_goto 243 pf_222_332 (by decide) ?_
            exact ih _ (by omega) (((x14 * (10)) + x16) - (48)) (c + 1) M21 rfl q22 (rq23) (by rw [eM21, up_ne (by decide), eM17, up_ne (by decide)]; exact h14) (by rw [eM21, up_ne (by decide), eM17, up_ne (by decide)]; exact h16) (by omega) (by rw [eM21, up_s]; omega) (by rw [eM21, up_ne (by decide), eM17, up_s]) (by
                              intro j hj; by_cases hz : j < c - s
                              · exact hl j hz
                              · rw [show s + j = c by omega]; exact hkd) (by rw [show c + 1 - s = (c - s) + 1 by omega, dgt, show s + (c - s) = c by omega, ← hZ]; rw [if_neg (by omega)]; omega) (by rw [← rnn_s (by omega) hk1]; exact hr)
          · refine rr_aload_n pf_222_289 rfl ?_
            refine vr_getL hq pf_222_290 po_222 pg_9_286 rfl (ws_228 hW) (by decide) (fun x24 hx24 rx24 => ?_)
            rw [h17] at hx24
            refine rr_goto 319 pf_222_293 (by decide) ?_
            refine vr_putL hW hq pf_222_319 po_222 pg_9_286 (Or.inl rfl) rfl (ws_228 hW) (by decide) rx24 (by decide) (fun M25 eM25 q26 => ?_)
            have rq27 := fz_up hrq eM25 (by decide)
            refine rr_aload_n pf_222_322 rfl ?_
            refine rr_dup pf_222_323 rfl ?_
            refine vr_getI q26 pf_222_324 po_222 pg_9_273 rfl (ws_228 hW) (by decide) (fun x28 hx28 rx28 => ?_)
            rw [eM25, up_ne (by decide), h15] at hx28
            refine rr_iconst pf_222_327 ?_
            refine rr_iadd pf_222_328 ?_
            refine vr_putI hW q26 pf_222_329 po_222 pg_9_273 (Or.inl rfl) rfl (ws_228 hW) (by decide) (by unfold rg; omega) (by decide) (fun M29 eM29 q30 => ?_)
            have rq31 := fz_up rq27 eM29 (by decide)
            refine rr_goto 243 pf_222_332 (by decide) ?_
            exact ih _ (by omega) x24 (c + 1) M29 rfl q30 (rq31) (by rw [eM29, up_ne (by decide), eM25, up_ne (by decide)]; exact h14) (by rw [eM29, up_ne (by decide), eM25, up_ne (by decide)]; exact h16) (by omega) (by rw [eM29, up_s]; omega) (by rw [eM29, up_ne (by decide), eM25, up_s]) (by
                              intro j hj; by_cases hz : j < c - s
                              · exact hl j hz
                              · rw [show s + j = c by omega]; exact hkd) (by rw [show c + 1 - s = (c - s) + 1 by omega, dgt, show s + (c - s) = c by omega, ← hZ]; rw [if_pos (by omega)]; omega) (by rw [← rnn_s (by omega) hk1]; exact hr)
theorem lp_R_next_149 {xs : Nat → Int} {L d : Nat} {sh : List (Nat × Nat)} (hd : 1 ≤ d) (hW : px_W0 <+: sh) {M0 : Nat → Nat → Int}  {tn : Nat} (h13 : M0 228 13 = ((tn : Nat) : Int)) (htn : tn ≤ 400) (htb : ∀ j, 0 ≤ M0 237 j ∧ M0 237 j ≤ 255) {i s : Nat} (hs : s = tkS tn (M0 237) i) (hsn : s < tn) {Q : Option Value → px_H → Prop} (kx : ∀ (Z : Int) (c : Nat) (M : Nat → Nat → Int), px_qk sh [228] M0 M → (fz [14, 15, 16, 17] M0 M) → (M 228 14 = ((s : Nat) : Int)) → (M 228 16 = 1) → (M 228 15 = ((rnn tn (M0 237) 1 (tn - s) s : Nat) : Int)) → (M 228 17 = hsh (M0 237) s (rnn tn (M0 237) 1 (tn - s) s - s)) → px_R xs L d 222 (243, [.ref 228], [], (sh, M)) Q)  : ∀ (mz : Nat) (Z : Int) (c : Nat) (M : Nat → Nat → Int), tn - c = mz → px_qk sh [228] M0 M → (fz [14, 15, 16, 17] M0 M) → (M 228 14 = ((s : Nat) : Int)) → (M 228 16 = 1) → (s ≤ c ∧ c ≤ tn) → (M 228 15 = ((c : Nat) : Int)) → (M 228 17 = Z) → (∀ j, j < c - s → tkd (M0 237 (s + j)) = 1) → (Z = hsh (M0 237) s (c - s)) → (rnn tn (M0 237) 1 (tn - c) c = rnn tn (M0 237) 1 (tn - s) s) → px_R xs L d 222 (149, [.ref 228], [], (sh, M)) Q := by
  intro mz
  induction mz using Nat.strongRecOn with
  | _ mz ih =>
    intro Z c M hm hq hrq h14 h16 hc h15 h17 hl hZ hr
    refine rr_aload_n pf_222_149 rfl ?_
    refine vr_getI hq pf_222_150 po_222 pg_9_296 rfl (ws_228 hW) (by decide) (fun x1 hx1 rx1 => ?_)
    rw [h16] at hx1
    refine rr_iconst pf_222_153 ?_
    refine rr_icmp_ne 243 pf_222_154 (by decide) rx1 (by unfold rg; omega) (fun c2 => ?_) (fun c2 => ?_)
    · exfalso; omega
    · refine rr_aload_n pf_222_157 rfl ?_
      refine vr_getI hq pf_222_158 po_222 pg_9_273 rfl (ws_228 hW) (by decide) (fun x3 hx3 rx3 => ?_)
      rw [h15] at hx3
      refine rr_aload_n pf_222_161 rfl ?_
      refine vr_getI hq pf_222_162 po_222 pg_9_264 rfl (ws_228 hW) (by decide) (fun x4 hx4 rx4 => ?_)
      rw [hrq 13 (by decide)] at hx4
      rw [h13] at hx4
      refine rr_icmp_ge 243 pf_222_165 (by decide) rx3 rx4 (fun c5 => ?_) (fun c5 => ?_)
      · exact kx Z c M hq (hrq) (h14) (h16) (by rw [← hr, rnn_e (by omega)]; exact h15) (by rw [← hr, rnn_e (by omega), ← hZ]; exact h17)
      · have htc := htb c
        refine rr_aload_n pf_222_168 rfl ?_
        refine rr_getR pf_222_169 po_222 pg_9_35 rfl (ws_228 hW) (by decide) (wr_228_12 hq.1) ?_
        refine rr_aload_n pf_222_172 rfl ?_
        refine vr_getI hq pf_222_173 po_222 pg_9_273 rfl (ws_228 hW) (by decide) (fun x6 hx6 rx6 => ?_)
        rw [h15] at hx6
        refine vr_iald (j := c) hq pf_222_176 (ws_237 hW) (by omega) (by omega) (by decide) (fun x7 hx7 rx7 => ?_)
        rw [hq.2.2 237 (by decide)] at hx7
        obtain ⟨M8, kq9, hcM8⟩ := ct_R_isSmall (xs := xs) (L := L) (d := d) (b := x7) (by omega) hW hq.1 hq.2.1 (by unfold rg; omega)
        obtain rfl := qk_nil kq9
        refine rr_cS1 pf_222_177 po_222 pc_9_290 (by decide) rfl hcM8 ?_
        refine rr_ifb_eq 243 pf_222_180 (by decide) (fun c11 => ?_) (fun c11 => ?_)
        · exact kx Z c M hq (hrq) (h14) (h16) (by rw [← hr, rnn_e (fun z => by have := tkd_1.mp z.2; omega)]; exact h15) (by rw [← hr, rnn_e (fun z => by have := tkd_1.mp z.2; omega), ← hZ]; exact h17)
        · refine rr_aload_n pf_222_183 rfl ?_
          have hk1 : tkd (M0 237 c) = 1 := tkd_1.mpr (by omega)
          have hkd := hk1
          have hhb := hsh_b (tb := M0 237) (s := s) (c - s) hl
          have hpw : (32 : Int) ^ (min (c - s) 10) ≤ 1125899906842624 := p32 (by omega)
          have htc := htb c
          refine rr_aload_n pf_222_184 rfl ?_
          refine vr_getI hq pf_222_185 po_222 pg_9_273 rfl (ws_228 hW) (by decide) (fun x12 hx12 rx12 => ?_)
          rw [h15] at hx12
          refine rr_aload_n pf_222_188 rfl ?_
          refine vr_getI hq pf_222_189 po_222 pg_9_283 rfl (ws_228 hW) (by decide) (fun x13 hx13 rx13 => ?_)
          rw [h14] at hx13
          refine rr_isub pf_222_192 ?_
          refine rr_bipush pf_222_193 (by decide) ?_
          refine rr_icmp_ge 224 pf_222_195 (by decide) (by unfold rg; omega) (by unfold rg; omega) (fun c14 => ?_) (fun c14 => ?_)
          · refine rr_ldc2_w pf_222_224 po_222 pl_9_303 ?_
            refine vr_putL hW hq pf_222_227 po_222 pg_9_286 (Or.inl rfl) rfl (ws_228 hW) (by decide) (by unfold rl; omega) (by decide) (fun M15 eM15 q16 => ?_)
            have rq17 := fz_up hrq eM15 (by decide)
            refine rr_aload_n pf_222_230 rfl ?_
            refine rr_dup pf_222_231 rfl ?_
            refine vr_getI q16 pf_222_232 po_222 pg_9_273 rfl (ws_228 hW) (by decide) (fun x18 hx18 rx18 => ?_)
            rw [eM15, up_ne (by decide), h15] at hx18
            refine rr_iconst pf_222_235 ?_
            refine rr_iadd pf_222_236 ?_
            refine vr_putI hW q16 pf_222_237 po_222 pg_9_273 (Or.inl rfl) rfl (ws_228 hW) (by decide) (by unfold rg; omega) (by decide) (fun M19 eM19 q20 => ?_)
            have rq21 := fz_up rq17 eM19 (by decide)
            refine rr_goto 149 pf_222_240 (by decide) ?_
            exact ih _ (by omega) (-1) (c + 1) M19 rfl q20 (rq21) (by rw [eM19, up_ne (by decide), eM15, up_ne (by decide)]; exact h14) (by rw [eM19, up_ne (by decide), eM15, up_ne (by decide)]; exact h16) (by omega) (by rw [eM19, up_s]; omega) (by rw [eM19, up_ne (by decide), eM15, up_s]) (by
                              intro j hj; by_cases hz : j < c - s
                              · exact hl j hz
                              · rw [show s + j = c by omega]; exact hkd) (by rw [show c + 1 - s = (c - s) + 1 by omega, hsh, show s + (c - s) = c by omega]; rw [if_neg (by omega)]) (by rw [← rnn_s (by omega) hk1]; exact hr)
          · refine rr_aload_n pf_222_198 rfl ?_
            refine vr_getL hq pf_222_199 po_222 pg_9_286 rfl (ws_228 hW) (by decide) (fun x22 hx22 rx22 => ?_)
            rw [h17] at hx22
            refine rr_ldc2_w pf_222_202 po_222 pl_9_299 ?_
            refine rr_lmul pf_222_205 ?_
            refine rr_aload_n pf_222_206 rfl ?_
            refine rr_getR pf_222_207 po_222 pg_9_35 rfl (ws_228 hW) (by decide) (wr_228_12 hq.1) ?_
            refine rr_aload_n pf_222_210 rfl ?_
            refine vr_getI hq pf_222_211 po_222 pg_9_273 rfl (ws_228 hW) (by decide) (fun x23 hx23 rx23 => ?_)
            rw [h15] at hx23
            refine vr_iald (j := c) hq pf_222_214 (ws_237 hW) (by omega) (by omega) (by decide) (fun x24 hx24 rx24 => ?_)
            rw [hq.2.2 237 (by decide)] at hx24
            refine rr_i2l pf_222_215 rx24 ?_
            refine rr_ladd pf_222_216 ?_
            refine rr_ldc2_w pf_222_217 po_222 pl_9_301 ?_
            refine rr_lsub pf_222_220 ?_
            refine rr_goto 227 pf_222_221 (by decide) ?_
            refine vr_putL hW hq pf_222_227 po_222 pg_9_286 (Or.inl rfl) rfl (ws_228 hW) (by decide) (by unfold rl; omega) (by decide) (fun M25 eM25 q26 => ?_)
            have rq27 := fz_up hrq eM25 (by decide)
            refine rr_aload_n pf_222_230 rfl ?_
            refine rr_dup pf_222_231 rfl ?_
            refine vr_getI q26 pf_222_232 po_222 pg_9_273 rfl (ws_228 hW) (by decide) (fun x28 hx28 rx28 => ?_)
            rw [eM25, up_ne (by decide), h15] at hx28
            refine rr_iconst pf_222_235 ?_
            refine rr_iadd pf_222_236 ?_
            refine vr_putI hW q26 pf_222_237 po_222 pg_9_273 (Or.inl rfl) rfl (ws_228 hW) (by decide) (by unfold rg; omega) (by decide) (fun M29 eM29 q30 => ?_)
            have rq31 := fz_up rq27 eM29 (by decide)
            refine rr_goto 149 pf_222_240 (by decide) ?_
            exact ih _ (by omega) (((x22 * (32)) + x24) - (96)) (c + 1) M29 rfl q30 (rq31) (by rw [eM29, up_ne (by decide), eM25, up_ne (by decide)]; exact h14) (by rw [eM29, up_ne (by decide), eM25, up_ne (by decide)]; exact h16) (by omega) (by rw [eM29, up_s]; omega) (by rw [eM29, up_ne (by decide), eM25, up_s]) (by
                              intro j hj; by_cases hz : j < c - s
                              · exact hl j hz
                              · rw [show s + j = c by omega]; exact hkd) (by rw [show c + 1 - s = (c - s) + 1 by omega, hsh, show s + (c - s) = c by omega]; rw [if_pos (by omega), ← hZ]; omega) (by rw [← rnn_s (by omega) hk1]; exact hr)
theorem lp_R_next_8 {xs : Nat → Int} {L d : Nat} {sh : List (Nat × Nat)} (hd : 1 ≤ d) (hW : px_W0 <+: sh) {M0 : Nat → Nat → Int}  {tn : Nat} (h13 : M0 228 13 = ((tn : Nat) : Int)) (htn : tn ≤ 400) (htb : ∀ j, 0 ≤ M0 237 j ∧ M0 237 j ≤ 255) {i : Nat} {Q : Option Value → px_H → Prop} (kx : ∀ (j : Nat) (M : Nat → Nat → Int), px_qk sh [228] M0 M → (fz [14, 15, 16, 17] M0 M) → (M 228 14 = ((tkS tn (M0 237) i : Nat) : Int)) → px_R xs L d 222 (46, [.ref 228], [], (sh, M)) Q)  : ∀ (mz : Nat) (j : Nat) (M : Nat → Nat → Int), tn - j = mz → px_qk sh [228] M0 M → (fz [14, 15, 16, 17] M0 M) → (j ≤ tn) → (M 228 14 = ((j : Nat) : Int)) → (skp tn (M0 237) (tn - j) j = tkS tn (M0 237) i) → px_R xs L d 222 (8, [.ref 228], [], (sh, M)) Q := by
  intro mz
  induction mz using Nat.strongRecOn with
  | _ mz ih =>
    intro j M hm hq hrq hj h14 hsk
    refine rr_aload_n pf_222_8 rfl ?_
    refine vr_getI hq pf_222_9 po_222 pg_9_283 rfl (ws_228 hW) (by decide) (fun x1 hx1 rx1 => ?_)
    rw [h14] at hx1
    refine rr_aload_n pf_222_12 rfl ?_
    refine vr_getI hq pf_222_13 po_222 pg_9_264 rfl (ws_228 hW) (by decide) (fun x2 hx2 rx2 => ?_)
    rw [hrq 13 (by decide)] at hx2
    rw [h13] at hx2
    refine rr_icmp_ge 46 pf_222_16 (by decide) rx1 rx2 (fun c3 => ?_) (fun c3 => ?_)
    · exact kx j M hq (hrq) (by rw [← hsk, skp_e (by omega)]; exact h14)
    · have htbj := htb j
      refine rr_aload_n pf_222_19 rfl ?_
      refine rr_getR pf_222_20 po_222 pg_9_35 rfl (ws_228 hW) (by decide) (wr_228_12 hq.1) ?_
      refine rr_aload_n pf_222_23 rfl ?_
      refine vr_getI hq pf_222_24 po_222 pg_9_283 rfl (ws_228 hW) (by decide) (fun x4 hx4 rx4 => ?_)
      rw [h14] at hx4
      refine vr_iald (j := j) hq pf_222_27 (ws_237 hW) (by omega) (by omega) (by decide) (fun x5 hx5 rx5 => ?_)
      rw [hq.2.2 237 (by decide)] at hx5
      refine rr_bipush pf_222_28 (by decide) ?_
      refine rr_icmp_ne 46 pf_222_30 (by decide) rx5 (by unfold rg; omega) (fun c6 => ?_) (fun c6 => ?_)
      · exact kx j M hq (hrq) (by rw [← hsk, skp_e (by omega)]; exact h14)
      · refine rr_aload_n pf_222_33 rfl ?_
        refine rr_dup pf_222_34 rfl ?_
        refine vr_getI hq pf_222_35 po_222 pg_9_283 rfl (ws_228 hW) (by decide) (fun x7 hx7 rx7 => ?_)
        rw [h14] at hx7
        refine rr_iconst pf_222_38 ?_
        refine rr_iadd pf_222_39 ?_
        refine vr_putI hW hq pf_222_40 po_222 pg_9_283 (Or.inl rfl) rfl (ws_228 hW) (by decide) (by unfold rg; omega) (by decide) (fun M8 eM8 q9 => ?_)
        have rq10 := fz_up hrq eM8 (by decide)
        refine rr_goto 8 pf_222_43 (by decide) ?_
        exact ih _ (by omega) (j + 1) M8 rfl q9 (rq10) (by omega) (by rw [eM8, up_s]; omega) (by rw [← skp_s (by omega) (by omega)]; exact hsk)
theorem ct_R_next {xs : Nat → Int} {L d : Nat} {sh : List (Nat × Nat)} {M0 : Nat → Nat → Int} (hd : 2 ≤ d) (hW : px_W0 <+: sh) (hF : px_Fx M0) (hG : px_RG sh M0)  {tn : Nat} (h13 : M0 228 13 = ((tn : Nat) : Int)) (htn : tn ≤ 400) (htb : ∀ j, 0 ≤ M0 237 j ∧ M0 237 j ≤ 255) {i : Nat} (h15 : M0 228 15 = ((i : Nat) : Int)) (hi : i ≤ tn) : ∃ M, (px_qk sh [228] M0 M ∧ (M 228 14 = ((tkS tn (M0 237) i : Nat) : Int)) ∧ (M 228 15 = ((tkE tn (M0 237) i : Nat) : Int)) ∧ (M 228 16 = ((tkK tn (M0 237) i : Nat) : Int)) ∧ (M 228 17 = tkW tn (M0 237) i) ∧ (fz [14, 15, 16, 17] M0 M)) ∧ px_Cl xs L d 222 [.ref 228] (sh, M0) (none) (sh, M) := by
  obtain ⟨d, rfl⟩ : ∃ e, d = e + 1 := ⟨d - 1, by omega⟩
  have q0 : px_qk sh [228] M0 M0 := ⟨hF, hG, eo_rf⟩
  refine vc_n (Nat.le_of_ble_eq_true rfl) ?_
  show px_R xs L d 222 (0, [.ref 228], [], (sh, M0)) (fun r h' => r = none ∧ ∃ M', h' = (sh, M') ∧ px_qk sh [228] M0 M' ∧ M' 228 14 = ((tkS tn (M0 237) i : Nat) : Int) ∧ M' 228 15 = ((tkE tn (M0 237) i : Nat) : Int) ∧ M' 228 16 = ((tkK tn (M0 237) i : Nat) : Int) ∧ M' 228 17 = tkW tn (M0 237) i ∧ fz [14, 15, 16, 17] M0 M')
  refine rr_aload_n pf_222_0 rfl ?_
  refine rr_aload_n pf_222_1 rfl ?_
  refine vr_getI q0 pf_222_2 po_222 pg_9_273 rfl (ws_228 hW) (by decide) (fun x1 hx1 rx1 => ?_)
  rw [h15] at hx1
  refine vr_putI hW q0 pf_222_5 po_222 pg_9_283 (Or.inl rfl) rfl (ws_228 hW) (by decide) rx1 (by decide) (fun M2 eM2 q3 => ?_)
  have rq4 := fz_up (fz_rf [14, 15, 16, 17] M0) eM2 (by decide)
  refine lp_R_next_8 (xs := xs) (L := L) (d := d) (by omega) hW h13 htn htb (i := i) (fun j_5  M6 q7 xrq_M6 x14_M6 => ?_) _ i M2 rfl q3 (rq4) (by omega) (by rw [eM2, up_s]; omega) (by rfl)
  have hsb := tkS_b (tb := M0 237) (i := i) (by omega)
  have htbs := htb (tkS tn (M0 237) i)
  refine rr_aload_n pf_222_46 rfl ?_
  refine rr_aload_n pf_222_47 rfl ?_
  refine vr_getI q7 pf_222_48 po_222 pg_9_283 rfl (ws_228 hW) (by decide) (fun x8 hx8 rx8 => ?_)
  rw [x14_M6] at hx8
  refine vr_putI hW q7 pf_222_51 po_222 pg_9_273 (Or.inl rfl) rfl (ws_228 hW) (by decide) rx8 (by decide) (fun M9 eM9 q10 => ?_)
  have rq11 := fz_up xrq_M6 eM9 (by decide)
  refine rr_aload_n pf_222_54 rfl ?_
  refine rr_lconst (w := 0) pf_222_55 rfl ?_
  refine vr_putL hW q10 pf_222_56 po_222 pg_9_286 (Or.inl rfl) rfl (ws_228 hW) (by decide) (by unfold rl; omega) (by decide) (fun M12 eM12 q13 => ?_)
  have rq14 := fz_up rq11 eM12 (by decide)
  refine rr_aload_n pf_222_59 rfl ?_
  refine rr_aload_n pf_222_60 rfl ?_
  refine vr_getI q13 pf_222_61 po_222 pg_9_283 rfl (ws_228 hW) (by decide) (fun x15 hx15 rx15 => ?_)
  rw [eM12, up_ne (by decide), eM9, up_ne (by decide), x14_M6] at hx15
  refine rr_aload_n pf_222_64 rfl ?_
  refine vr_getI q13 pf_222_65 po_222 pg_9_264 rfl (ws_228 hW) (by decide) (fun x16 hx16 rx16 => ?_)
  rw [rq14 13 (by decide)] at hx16
  rw [h13] at hx16
  refine rr_icmp_ne 75 pf_222_68 (by decide) rx15 rx16 (fun c17 => ?_) (fun c17 => ?_)
  · refine rr_aload_n pf_222_75 rfl ?_
    refine rr_getR pf_222_76 po_222 pg_9_35 rfl (ws_228 hW) (by decide) (wr_228_12 q13.1) ?_
    refine rr_aload_n pf_222_79 rfl ?_
    refine vr_getI q13 pf_222_80 po_222 pg_9_283 rfl (ws_228 hW) (by decide) (fun x18 hx18 rx18 => ?_)
    rw [eM12, up_ne (by decide), eM9, up_ne (by decide), x14_M6] at hx18
    refine vr_iald (j := tkS tn (M0 237) i) q13 pf_222_83 (ws_237 hW) (by omega) (by omega) (by decide) (fun x19 hx19 rx19 => ?_)
    rw [q13.2.2 237 (by decide)] at hx19
    obtain ⟨M20, kq21, hcM20⟩ := ct_R_isSmall (xs := xs) (L := L) (d := d) (b := x19) (by omega) hW q13.1 q13.2.1 (by unfold rg; omega)
    obtain rfl := qk_nil kq21
    refine rr_cS1 pf_222_84 po_222 pc_9_290 (by decide) rfl hcM20 ?_
    refine rr_ifb_eq 94 pf_222_87 (by decide) (fun c23 => ?_) (fun c23 => ?_)
    · refine rr_aload_n pf_222_94 rfl ?_
      refine rr_getR pf_222_95 po_222 pg_9_35 rfl (ws_228 hW) (by decide) (wr_228_12 q13.1) ?_
      refine rr_aload_n pf_222_98 rfl ?_
      refine vr_getI q13 pf_222_99 po_222 pg_9_283 rfl (ws_228 hW) (by decide) (fun x24 hx24 rx24 => ?_)
      rw [eM12, up_ne (by decide), eM9, up_ne (by decide), x14_M6] at hx24
      refine vr_iald (j := tkS tn (M0 237) i) q13 pf_222_102 (ws_237 hW) (by omega) (by omega) (by decide) (fun x25 hx25 rx25 => ?_)
      rw [q13.2.2 237 (by decide)] at hx25
      obtain ⟨M26, kq27, hcM26⟩ := ct_R_isDigit (xs := xs) (L := L) (d := d) (b := x25) (by omega) hW q13.1 q13.2.1 (by unfold rg; omega)
      obtain rfl := qk_nil kq27
      refine rr_cS1 pf_222_103 po_222 pc_9_293 (by decide) rfl hcM26 ?_
      refine rr_ifb_eq 113 pf_222_106 (by decide) (fun c29 => ?_) (fun c29 => ?_)
      · refine rr_iconst pf_222_113 ?_
        refine vr_putI hW q13 pf_222_114 po_222 pg_9_296 (Or.inl rfl) rfl (ws_228 hW) (by decide) (by unfold rg; omega) (by decide) (fun M30 eM30 q31 => ?_)
        have rq32 := fz_up rq14 eM30 (by decide)
        refine rr_aload_n pf_222_117 rfl ?_
        refine vr_getI q31 pf_222_118 po_222 pg_9_296 rfl (ws_228 hW) (by decide) (fun x33 hx33 rx33 => ?_)
        rw [eM30, up_s] at hx33
        refine rr_iconst pf_222_121 ?_
        refine rr_icmp_ne 149 pf_222_122 (by decide) rx33 (by unfold rg; omega) (fun c34 => ?_) (fun c34 => ?_)
        · exfalso; omega
        · refine rr_aload_n pf_222_125 rfl ?_
          have ka := tkd_b (M0 237 (tkS tn (M0 237) i))
          have kb : tkd (M0 237 (tkS tn (M0 237) i)) ≠ 1 := fun z => by have := tkd_1.mp z; omega
          have kc : tkd (M0 237 (tkS tn (M0 237) i)) ≠ 2 := fun z => by have := tkd_2.mp z; omega
          have hk3 : tkd (M0 237 (tkS tn (M0 237) i)) = 3 := by omega
          refine rr_aload_n pf_222_126 rfl ?_
          refine rr_getR pf_222_127 po_222 pg_9_35 rfl (ws_228 hW) (by decide) (wr_228_12 q31.1) ?_
          refine rr_aload_n pf_222_130 rfl ?_
          refine vr_getI q31 pf_222_131 po_222 pg_9_283 rfl (ws_228 hW) (by decide) (fun x35 hx35 rx35 => ?_)
          rw [eM30, up_ne (by decide), eM12, up_ne (by decide), eM9, up_ne (by decide), x14_M6] at hx35
          refine vr_iald (j := tkS tn (M0 237) i) q31 pf_222_134 (ws_237 hW) (by omega) (by omega) (by decide) (fun x36 hx36 rx36 => ?_)
          rw [q31.2.2 237 (by decide)] at hx36
          refine rr_i2l pf_222_135 rx36 ?_
          refine vr_putL hW q31 pf_222_136 po_222 pg_9_286 (Or.inl rfl) rfl (ws_228 hW) (by decide) (rl_rg rx36) (by decide) (fun M37 eM37 q38 => ?_)
          have rq39 := fz_up rq32 eM37 (by decide)
          refine rr_aload_n pf_222_139 rfl ?_
          refine rr_dup pf_222_140 rfl ?_
          refine vr_getI q38 pf_222_141 po_222 pg_9_273 rfl (ws_228 hW) (by decide) (fun x40 hx40 rx40 => ?_)
          rw [eM37, up_ne (by decide), eM30, up_ne (by decide), eM12, up_ne (by decide), eM9, up_s] at hx40
          refine rr_iconst pf_222_144 ?_
          refine rr_iadd pf_222_145 ?_
          refine vr_putI hW q38 pf_222_146 po_222 pg_9_273 (Or.inl rfl) rfl (ws_228 hW) (by decide) (by unfold rg; omega) (by decide) (fun M41 eM41 q42 => ?_)
          have rq43 := fz_up rq39 eM41 (by decide)
          refine rr_aload_n pf_222_149 rfl ?_
          refine vr_getI q42 pf_222_150 po_222 pg_9_296 rfl (ws_228 hW) (by decide) (fun x44 hx44 rx44 => ?_)
          rw [eM41, up_ne (by decide), eM37, up_ne (by decide), eM30, up_s] at hx44
          refine rr_iconst pf_222_153 ?_
          refine rr_icmp_ne 243 pf_222_154 (by decide) rx44 (by unfold rg; omega) (fun c45 => ?_) (fun c45 => ?_)
          · refine rr_aload_n pf_222_243 rfl ?_
            refine vr_getI q42 pf_222_244 po_222 pg_9_296 rfl (ws_228 hW) (by decide) (fun x46 hx46 rx46 => ?_)
            rw [eM41, up_ne (by decide), eM37, up_ne (by decide), eM30, up_s] at hx46
            refine rr_iconst pf_222_247 ?_
            refine rr_icmp_ne 335 pf_222_248 (by decide) rx46 (by unfold rg; omega) (fun c47 => ?_) (fun c47 => ?_)
            · refine rr_vret pf_222_335 pt_222 ⟨rfl, M41, rfl, q42, (by rw [eM41, up_ne (by decide), eM37, up_ne (by decide), eM30, up_ne (by decide), eM12, up_ne (by decide), eM9, up_ne (by decide), x14_M6]), (by rw [eM41, up_s]; unfold tkE; rw [if_pos (by omega), if_pos hk3]; omega), (by rw [eM41, up_ne (by decide), eM37, up_ne (by decide), eM30, up_s]; unfold tkK; rw [if_pos (by omega), hk3]; rfl), (by
                                  have hK : tkK tn (M0 237) i = 3 := by unfold tkK; rw [if_pos (by omega), hk3]
                                  rw [eM41, up_ne (by decide), eM37, up_s]; unfold tkW; rw [hK, if_neg (by omega), if_neg (by omega), if_pos rfl]; omega), (rq43)⟩
            · exfalso; omega
          · exfalso; omega
      · refine rr_iconst pf_222_109 ?_
        refine rr_goto 114 pf_222_110 (by decide) ?_
        refine vr_putI hW q13 pf_222_114 po_222 pg_9_296 (Or.inl rfl) rfl (ws_228 hW) (by decide) (by unfold rg; omega) (by decide) (fun M48 eM48 q49 => ?_)
        have rq50 := fz_up rq14 eM48 (by decide)
        refine rr_aload_n pf_222_117 rfl ?_
        refine vr_getI q49 pf_222_118 po_222 pg_9_296 rfl (ws_228 hW) (by decide) (fun x51 hx51 rx51 => ?_)
        rw [eM48, up_s] at hx51
        refine rr_iconst pf_222_121 ?_
        refine rr_icmp_ne 149 pf_222_122 (by decide) rx51 (by unfold rg; omega) (fun c52 => ?_) (fun c52 => ?_)
        · refine rr_aload_n pf_222_149 rfl ?_
          refine vr_getI q49 pf_222_150 po_222 pg_9_296 rfl (ws_228 hW) (by decide) (fun x53 hx53 rx53 => ?_)
          rw [eM48, up_s] at hx53
          refine rr_iconst pf_222_153 ?_
          refine rr_icmp_ne 243 pf_222_154 (by decide) rx53 (by unfold rg; omega) (fun c54 => ?_) (fun c54 => ?_)
          · refine lp_R_next_243 (xs := xs) (L := L) (d := d) (by omega) hW h13 htn htb (i := i) rfl (by omega) (fun Z_55 c_56  M57 q58 xrq_M57 x14_M57 x16_M57 x15_M57 x17_M57 => ?_) _ 0 (tkS tn (M0 237) i) M48 rfl q49 (rq50) (by rw [eM48, up_ne (by decide), eM12, up_ne (by decide), eM9, up_ne (by decide), x14_M6]) (by rw [eM48, up_s]) (by omega) (by rw [eM48, up_ne (by decide), eM12, up_ne (by decide), eM9, up_s]; omega) (by rw [eM48, up_ne (by decide), eM12, up_s]) (by intro j hj; exfalso; omega) (by rw [Nat.sub_self]; rfl) (by rfl)
            refine rr_vret pf_222_335 pt_222 ⟨rfl, M57, rfl, q58, (by rw [x14_M57]), (by rw [x15_M57]; unfold tkE; rw [if_pos (by omega), if_neg (by rw [tkd_2.mpr (by omega)]; omega), tkd_2.mpr (by omega)]), (by rw [x16_M57]; unfold tkK; rw [if_pos (by omega), tkd_2.mpr (by omega)]; rfl), (by
                              have hK : tkK tn (M0 237) i = 2 := by unfold tkK; rw [if_pos (by omega), tkd_2.mpr (by omega)]
                              have hE : tkE tn (M0 237) i = rnn tn (M0 237) 2 (tn - tkS tn (M0 237) i) (tkS tn (M0 237) i) := by unfold tkE; rw [if_pos (by omega), if_neg (by rw [tkd_2.mpr (by omega)]; omega), tkd_2.mpr (by omega)]
                              rw [x17_M57]; unfold tkW; rw [hK, hE, if_neg (by omega), if_pos rfl]), (xrq_M57)⟩
          · exfalso; omega
        · exfalso; omega
    · refine rr_iconst pf_222_90 ?_
      refine rr_goto 114 pf_222_91 (by decide) ?_
      refine vr_putI hW q13 pf_222_114 po_222 pg_9_296 (Or.inl rfl) rfl (ws_228 hW) (by decide) (by unfold rg; omega) (by decide) (fun M59 eM59 q60 => ?_)
      have rq61 := fz_up rq14 eM59 (by decide)
      refine rr_aload_n pf_222_117 rfl ?_
      refine vr_getI q60 pf_222_118 po_222 pg_9_296 rfl (ws_228 hW) (by decide) (fun x62 hx62 rx62 => ?_)
      rw [eM59, up_s] at hx62
      refine rr_iconst pf_222_121 ?_
      refine rr_icmp_ne 149 pf_222_122 (by decide) rx62 (by unfold rg; omega) (fun c63 => ?_) (fun c63 => ?_)
      · refine lp_R_next_149 (xs := xs) (L := L) (d := d) (by omega) hW h13 htn htb (i := i) rfl (by omega) (fun Z_64 c_65  M66 q67 xrq_M66 x14_M66 x16_M66 x15_M66 x17_M66 => ?_) _ 0 (tkS tn (M0 237) i) M59 rfl q60 (rq61) (by rw [eM59, up_ne (by decide), eM12, up_ne (by decide), eM9, up_ne (by decide), x14_M6]) (by rw [eM59, up_s]) (by omega) (by rw [eM59, up_ne (by decide), eM12, up_ne (by decide), eM9, up_s]; omega) (by rw [eM59, up_ne (by decide), eM12, up_s]) (by intro j hj; exfalso; omega) (by rw [Nat.sub_self]; rfl) (by rfl)
        refine rr_aload_n pf_222_243 rfl ?_
        refine vr_getI q67 pf_222_244 po_222 pg_9_296 rfl (ws_228 hW) (by decide) (fun x68 hx68 rx68 => ?_)
        rw [x16_M66] at hx68
        refine rr_iconst pf_222_247 ?_
        refine rr_icmp_ne 335 pf_222_248 (by decide) rx68 (by unfold rg; omega) (fun c69 => ?_) (fun c69 => ?_)
        · refine rr_vret pf_222_335 pt_222 ⟨rfl, M66, rfl, q67, (by rw [x14_M66]), (by rw [x15_M66]; unfold tkE; rw [if_pos (by omega), if_neg (by rw [tkd_1.mpr (by omega)]; omega), tkd_1.mpr (by omega)]), (by rw [x16_M66]; unfold tkK; rw [if_pos (by omega), tkd_1.mpr (by omega)]; rfl), (by
                          have hK : tkK tn (M0 237) i = 1 := by unfold tkK; rw [if_pos (by omega), tkd_1.mpr (by omega)]
                          have hE : tkE tn (M0 237) i = rnn tn (M0 237) 1 (tn - tkS tn (M0 237) i) (tkS tn (M0 237) i) := by unfold tkE; rw [if_pos (by omega), if_neg (by rw [tkd_1.mpr (by omega)]; omega), tkd_1.mpr (by omega)]
                          rw [x17_M66]; unfold tkW; rw [hK, hE, if_pos rfl]), (xrq_M66)⟩
        · exfalso; omega
      · exfalso; omega
  · refine rr_iconst pf_222_71 ?_
    refine rr_goto 114 pf_222_72 (by decide) ?_
    refine vr_putI hW q13 pf_222_114 po_222 pg_9_296 (Or.inl rfl) rfl (ws_228 hW) (by decide) (by unfold rg; omega) (by decide) (fun M70 eM70 q71 => ?_)
    have rq72 := fz_up rq14 eM70 (by decide)
    refine rr_aload_n pf_222_117 rfl ?_
    refine vr_getI q71 pf_222_118 po_222 pg_9_296 rfl (ws_228 hW) (by decide) (fun x73 hx73 rx73 => ?_)
    rw [eM70, up_s] at hx73
    refine rr_iconst pf_222_121 ?_
    refine rr_icmp_ne 149 pf_222_122 (by decide) rx73 (by unfold rg; omega) (fun c74 => ?_) (fun c74 => ?_)
    · refine rr_aload_n pf_222_149 rfl ?_
      refine vr_getI q71 pf_222_150 po_222 pg_9_296 rfl (ws_228 hW) (by decide) (fun x75 hx75 rx75 => ?_)
      rw [eM70, up_s] at hx75
      refine rr_iconst pf_222_153 ?_
      refine rr_icmp_ne 243 pf_222_154 (by decide) rx75 (by unfold rg; omega) (fun c76 => ?_) (fun c76 => ?_)
      · refine rr_aload_n pf_222_243 rfl ?_
        refine vr_getI q71 pf_222_244 po_222 pg_9_296 rfl (ws_228 hW) (by decide) (fun x77 hx77 rx77 => ?_)
        rw [eM70, up_s] at hx77
        refine rr_iconst pf_222_247 ?_
        refine rr_icmp_ne 335 pf_222_248 (by decide) rx77 (by unfold rg; omega) (fun c78 => ?_) (fun c78 => ?_)
        · refine rr_vret pf_222_335 pt_222 ⟨rfl, M70, rfl, q71, (by rw [eM70, up_ne (by decide), eM12, up_ne (by decide), eM9, up_ne (by decide), x14_M6]), (by rw [eM70, up_ne (by decide), eM12, up_ne (by decide), eM9, up_s]; unfold tkE; rw [if_neg (by omega)]; omega), (by rw [eM70, up_s]; unfold tkK; rw [if_neg (by omega)]; rfl), (by
                          have hK : tkK tn (M0 237) i = 0 := by unfold tkK; rw [if_neg (by omega)]
                          rw [eM70, up_ne (by decide), eM12, up_s]; unfold tkW; rw [hK]; rfl), (rq72)⟩
        · exfalso; omega
      · exfalso; omega
    · exfalso; omega
