/-! the reference's reader as a machine of its own -/
def wrp (x : Int) : Int := (x + 2147483648) % 4294967296 - 2147483648
theorem wrp_rg (x : Int) : rg (wrp x) := by unfold wrp rg; omega
theorem wrp_id {x : Int} (h : rg x) : wrp x = x := by unfold wrp; unfold rg at h; omega
theorem iI_wrp (x : Int) : iI (wrp x) = iI x := by
  unfold iI Int32.ofInt
  congr 2
  apply BitVec.eq_of_toNat_eq
  rw [BitVec.toNat_ofInt, BitVec.toNat_ofInt]
  unfold wrp
  omega
theorem tkE_s {tn : Nat} {tb : Nat → Int} {i : Nat} (h : i ≤ tn) (hk : tkK tn tb i ≠ 0) : tkS tn tb i + 1 ≤ tkE tn tb i := by
  have a := tkS_b (tb := tb) h
  have hlt : tkS tn tb i < tn := by
    unfold tkK at hk
    split at hk
    · assumption
    · exact absurd rfl hk
  unfold tkE
  rw [if_pos hlt]
  split
  · omega
  · rw [rnn_s hlt rfl]
    have := rnn_b tn tb (tkd (tb (tkS tn tb i))) (tn - (tkS tn tb i + 1)) (tkS tn tb i + 1) (by omega)
    omega
theorem tkE_1 {tn : Nat} {tb : Nat → Int} {i : Nat} (h : i ≤ tn) (hk : tkK tn tb i ≠ 0) : i + 1 ≤ tkE tn tb i := by
  have a := tkS_b (tb := tb) h
  have := tkE_s h hk
  omega
theorem tkE_2 {tn : Nat} {tb : Nat → Int} {i : Nat} (h : i ≤ tn) (hk : tkK tn tb i = 1) (hw : 32 ≤ tkW tn tb i) : i + 2 ≤ tkE tn tb i := by
  have a := tkS_b (tb := tb) h
  have b := tkE_s h (tb := tb) (by omega)
  by_cases hz : tkE tn tb i = tkS tn tb i + 1
  · exfalso
    unfold tkW at hw
    rw [if_pos hk, hz, show tkS tn tb i + 1 - tkS tn tb i = 0 + 1 by omega, hsh, if_pos (by omega), hsh] at hw
    have hd : tkd (tb (tkS tn tb i)) = 1 := by
      unfold tkK at hk
      split at hk
      · exact hk
      · exact absurd hk (by decide)
    have := tkd_1.mp hd
    rw [Nat.add_zero] at hw
    omega
  · omega
abbrev rdE : Type := Nat × (Nat → Int) × Int × (Nat → Int) × (Nat → Int)
abbrev rdS : Type := Nat × Int × Int × rd_P × Int × Nat × Nat × (Nat → Int) × (Nat → Int)
def rdE.tn (E : rdE) : Nat := E.1
def rdE.tb (E : rdE) : Nat → Int := E.2.1
def rdE.od (E : rdE) : Int := E.2.2.1
def rdE.f (E : rdE) : Nat → Int := E.2.2.2.1
def rdE.g (E : rdE) : Nat → Int := E.2.2.2.2
def rdS.i (s : rdS) : Nat := s.1
def rdS.bad (s : rdS) : Int := s.2.1
def rdS.flt (s : rdS) : Int := s.2.2.1
def rdS.pl (s : rdS) : rd_P := s.2.2.2.1
def rdS.op (s : rdS) : Int := s.2.2.2.2.1
def rdS.lv (s : rdS) : Nat := s.2.2.2.2.2.1
def rdS.nc (s : rdS) : Nat := s.2.2.2.2.2.2.1
def rdS.o (s : rdS) : Nat → Int := s.2.2.2.2.2.2.2.1
def rdS.a (s : rdS) : Nat → Int := s.2.2.2.2.2.2.2.2
def RS (M : Nat → Nat → Int) (E : rdE) (b : Nat) (s : rdS) : Prop := (M 228 13 = ((E.tn : Nat) : Int)) ∧ (E.tn ≤ 400) ∧ (M 237 = E.tb) ∧ (∀ j, 0 ≤ E.tb j ∧ E.tb j ≤ 255) ∧ (M 228 20 = E.od) ∧ (E.od = 0 ∨ E.od = 1) ∧ (∀ k, k < 12 → M 243 k = E.f k ∧ 0 ≤ E.f k ∧ E.f k ≤ 1125899906842624) ∧ (∀ k, k < 9 → M 244 k = E.g k ∧ 0 ≤ E.g k ∧ E.g k ≤ 1125899906842624) ∧ (s.i ≤ E.tn) ∧ (lex M E.tn E.tb s.i) ∧ (M 228 18 = s.bad) ∧ (M 228 19 = s.flt) ∧ (M 228 29 = ((s.pl.length : Nat) : Int)) ∧ (M 228 30 = s.op) ∧ (M 228 26 = ((s.lv : Nat) : Int)) ∧ (M 228 23 = ((s.nc : Nat) : Int)) ∧ (M 239 = s.o) ∧ (M 240 = s.a) ∧ (plR M s.pl) ∧ (plB s.pl) ∧ (s.nc + s.pl.length ≤ b) ∧ (b ≤ 400) ∧ (-((s.i : Nat) : Int) ≤ s.op ∧ s.op ≤ 8) ∧ (s.lv ≤ 50)
theorem RS.h13 {M : Nat → Nat → Int} {E : rdE} {b : Nat} {s : rdS} (h : RS M E b s) : M 228 13 = ((E.tn : Nat) : Int) := h.1
theorem RS.htn {M : Nat → Nat → Int} {E : rdE} {b : Nat} {s : rdS} (h : RS M E b s) : E.tn ≤ 400 := h.2.1
theorem RS.h237 {M : Nat → Nat → Int} {E : rdE} {b : Nat} {s : rdS} (h : RS M E b s) : M 237 = E.tb := h.2.2.1
theorem RS.htb {M : Nat → Nat → Int} {E : rdE} {b : Nat} {s : rdS} (h : RS M E b s) : ∀ j, 0 ≤ E.tb j ∧ E.tb j ≤ 255 := h.2.2.2.1
theorem RS.h20 {M : Nat → Nat → Int} {E : rdE} {b : Nat} {s : rdS} (h : RS M E b s) : M 228 20 = E.od := h.2.2.2.2.1
theorem RS.hod {M : Nat → Nat → Int} {E : rdE} {b : Nat} {s : rdS} (h : RS M E b s) : E.od = 0 ∨ E.od = 1 := h.2.2.2.2.2.1
theorem RS.h243 {M : Nat → Nat → Int} {E : rdE} {b : Nat} {s : rdS} (h : RS M E b s) : ∀ k, k < 12 → M 243 k = E.f k ∧ 0 ≤ E.f k ∧ E.f k ≤ 1125899906842624 := h.2.2.2.2.2.2.1
theorem RS.h244 {M : Nat → Nat → Int} {E : rdE} {b : Nat} {s : rdS} (h : RS M E b s) : ∀ k, k < 9 → M 244 k = E.g k ∧ 0 ≤ E.g k ∧ E.g k ≤ 1125899906842624 := h.2.2.2.2.2.2.2.1
theorem RS.hi {M : Nat → Nat → Int} {E : rdE} {b : Nat} {s : rdS} (h : RS M E b s) : s.i ≤ E.tn := h.2.2.2.2.2.2.2.2.1
theorem RS.hlx {M : Nat → Nat → Int} {E : rdE} {b : Nat} {s : rdS} (h : RS M E b s) : lex M E.tn E.tb s.i := h.2.2.2.2.2.2.2.2.2.1
theorem RS.h18 {M : Nat → Nat → Int} {E : rdE} {b : Nat} {s : rdS} (h : RS M E b s) : M 228 18 = s.bad := h.2.2.2.2.2.2.2.2.2.2.1
theorem RS.h19 {M : Nat → Nat → Int} {E : rdE} {b : Nat} {s : rdS} (h : RS M E b s) : M 228 19 = s.flt := h.2.2.2.2.2.2.2.2.2.2.2.1
theorem RS.h29 {M : Nat → Nat → Int} {E : rdE} {b : Nat} {s : rdS} (h : RS M E b s) : M 228 29 = ((s.pl.length : Nat) : Int) := h.2.2.2.2.2.2.2.2.2.2.2.2.1
theorem RS.h30 {M : Nat → Nat → Int} {E : rdE} {b : Nat} {s : rdS} (h : RS M E b s) : M 228 30 = s.op := h.2.2.2.2.2.2.2.2.2.2.2.2.2.1
theorem RS.h26 {M : Nat → Nat → Int} {E : rdE} {b : Nat} {s : rdS} (h : RS M E b s) : M 228 26 = ((s.lv : Nat) : Int) := h.2.2.2.2.2.2.2.2.2.2.2.2.2.2.1
theorem RS.h23 {M : Nat → Nat → Int} {E : rdE} {b : Nat} {s : rdS} (h : RS M E b s) : M 228 23 = ((s.nc : Nat) : Int) := h.2.2.2.2.2.2.2.2.2.2.2.2.2.2.2.1
theorem RS.h239 {M : Nat → Nat → Int} {E : rdE} {b : Nat} {s : rdS} (h : RS M E b s) : M 239 = s.o := h.2.2.2.2.2.2.2.2.2.2.2.2.2.2.2.2.1
theorem RS.h240 {M : Nat → Nat → Int} {E : rdE} {b : Nat} {s : rdS} (h : RS M E b s) : M 240 = s.a := h.2.2.2.2.2.2.2.2.2.2.2.2.2.2.2.2.2.1
theorem RS.hpl {M : Nat → Nat → Int} {E : rdE} {b : Nat} {s : rdS} (h : RS M E b s) : plR M s.pl := h.2.2.2.2.2.2.2.2.2.2.2.2.2.2.2.2.2.2.1
theorem RS.hpb {M : Nat → Nat → Int} {E : rdE} {b : Nat} {s : rdS} (h : RS M E b s) : plB s.pl := h.2.2.2.2.2.2.2.2.2.2.2.2.2.2.2.2.2.2.2.1
theorem RS.hnb {M : Nat → Nat → Int} {E : rdE} {b : Nat} {s : rdS} (h : RS M E b s) : s.nc + s.pl.length ≤ b := h.2.2.2.2.2.2.2.2.2.2.2.2.2.2.2.2.2.2.2.2.1
theorem RS.hb {M : Nat → Nat → Int} {E : rdE} {b : Nat} {s : rdS} (h : RS M E b s) : b ≤ 400 := h.2.2.2.2.2.2.2.2.2.2.2.2.2.2.2.2.2.2.2.2.2.1
theorem RS.hop {M : Nat → Nat → Int} {E : rdE} {b : Nat} {s : rdS} (h : RS M E b s) : -((s.i : Nat) : Int) ≤ s.op ∧ s.op ≤ 8 := h.2.2.2.2.2.2.2.2.2.2.2.2.2.2.2.2.2.2.2.2.2.2.1
theorem RS.hlv {M : Nat → Nat → Int} {E : rdE} {b : Nat} {s : rdS} (h : RS M E b s) : s.lv ≤ 50 := h.2.2.2.2.2.2.2.2.2.2.2.2.2.2.2.2.2.2.2.2.2.2.2
def rK (E : rdE) (s : rdS) : Nat := tkK E.tn E.tb s.i
def rW (E : rdE) (s : rdS) : Int := tkW E.tn E.tb s.i
def nxS (E : rdE) (s : rdS) : rdS := (tkE E.tn E.tb s.i, s.bad, s.flt, s.pl, s.op, s.lv, s.nc, s.o, s.a)
def fl (E : rdE) (s : rdS) : rdS := (s.i, ((tkS E.tn E.tb s.i : Nat) : Int), 1, s.pl, s.op, s.lv, s.nc, s.o, s.a)
def mst (E : rdE) (u : Int) (s : rdS) : rdS := if u = 1 then nxS E s else fl E s
def psh (a b : Int) (s : rdS) : rdS := (s.i, s.bad, s.flt, (a, b) :: s.pl, s.op, s.lv, s.nc, s.o, s.a)
def emt (a b : Int) (s : rdS) : rdS := (s.i, s.bad, s.flt, s.pl, s.op, s.lv, s.nc + 1, fup s.o s.nc a, fup s.a s.nc b)
def stS (le : Int) (s : rdS) : rdS := (s.i, s.bad, s.flt, (stl le s.pl s.nc s.o s.a).1, s.op, s.lv, (stl le s.pl s.nc s.o s.a).2.1, (stl le s.pl s.nc s.o s.a).2.2.1, (stl le s.pl s.nc s.o s.a).2.2.2)
def popS (s : rdS) : rdS := (s.i, s.bad, s.flt, s.pl.tail, s.op, s.lv, s.nc, s.o, s.a)
def opn (k : Int) (s : rdS) : rdS := (s.i, s.bad, s.flt, s.pl, s.op + k, s.lv, s.nc, s.o, s.a)
def lvn (s : rdS) : rdS := (s.i, s.bad, s.flt, s.pl, s.op, s.lv + 1, s.nc, s.o, s.a)
def ast (x : Int) (s : rdS) : rdS := (s.i, s.bad, s.flt, s.pl, s.op, s.lv, s.nc, s.o, fup s.a (s.nc - 1) x)
section RSS
variable {M M2 : Nat → Nat → Int} {E : rdE} {b : Nat} {s : rdS}
theorem RS_b (h : RS M E b s) {b2 : Nat} (h1 : s.nc + s.pl.length ≤ b2) (h2 : b2 ≤ 400) : RS M E b2 s := by
  have z := h
  unfold RS at z ⊢
  exact ⟨h.h13, h.htn, h.h237, h.htb, h.h20, h.hod, h.h243, h.h244, h.hi, h.hlx, h.h18, h.h19, h.h29, h.h30, h.h26, h.h23, h.h239, h.h240, h.hpl, h.hpb, h1, h2, h.hop, h.hlv⟩
theorem RS_tok (h : RS M E b s) (pf : fz [14, 15, 16, 17, 18, 19] M M2) (k : ∀ a, a ∉ [228] → M2 a = M a) {i2 : Nat} {bad2 flt2 : Int} (hl : lex M2 E.tn E.tb i2) (h18 : M2 228 18 = bad2) (h19 : M2 228 19 = flt2) (hi : s.i ≤ i2 ∧ i2 ≤ E.tn) : RS M2 E b (i2, bad2, flt2, s.pl, s.op, s.lv, s.nc, s.o, s.a) := by
  unfold RS
  exact ⟨(pf 13 (by decide)).trans h.h13, h.htn, (k 237 (by decide)).trans h.h237, h.htb, (pf 20 (by decide)).trans h.h20, h.hod, (by rw [k 243 (by decide)]; exact h.h243), (by rw [k 244 (by decide)]; exact h.h244), hi.2, hl, h18, h19, (pf 29 (by decide)).trans h.h29, (pf 30 (by decide)).trans h.h30, (pf 26 (by decide)).trans h.h26, (pf 23 (by decide)).trans h.h23, (k 239 (by decide)).trans h.h239, (k 240 (by decide)).trans h.h240, plR_q h.hpl (k 241 (by decide)) (k 242 (by decide)), h.hpb, h.hnb, h.hb, (by have := h.hop; show -((i2 : Nat) : Int) ≤ s.op ∧ s.op ≤ 8; omega), h.hlv⟩
/-- what stands outside the token: fields 23, 26, 29, 30 and the four arrays -/
theorem RS_out (h : RS M E b s) (pf : fz [23, 26, 29, 30] M M2) (k : ∀ a, a ∉ [228, 239, 240, 241, 242] → M2 a = M a) {s2 : rdS} (hi : s2.i = s.i) (h8 : s2.bad = s.bad) (h9 : s2.flt = s.flt) {b2 : Nat}
    (h29 : M2 228 29 = ((s2.pl.length : Nat) : Int)) (h30 : M2 228 30 = s2.op) (h26 : M2 228 26 = ((s2.lv : Nat) : Int)) (h23 : M2 228 23 = ((s2.nc : Nat) : Int)) (h239 : M2 239 = s2.o) (h240 : M2 240 = s2.a) (hpl : plR M2 s2.pl) (hpb : plB s2.pl) (hnb : s2.nc + s2.pl.length ≤ b2) (hb : b2 ≤ 400) (hop : -((s2.i : Nat) : Int) ≤ s2.op ∧ s2.op ≤ 8) (hlv : s2.lv ≤ 50) : RS M2 E b2 s2 := by
  unfold RS
  exact ⟨(pf 13 (by decide)).trans h.h13, h.htn, (k 237 (by decide)).trans h.h237, h.htb, (pf 20 (by decide)).trans h.h20, h.hod, (by rw [k 243 (by decide)]; exact h.h243), (by rw [k 244 (by decide)]; exact h.h244), (by rw [hi]; exact h.hi), (by rw [hi]; exact lex_fz h.hlx pf (by decide) (by decide) (by decide) (by decide)), (by rw [pf 18 (by decide), h8]; exact h.h18), (by rw [pf 19 (by decide), h9]; exact h.h19), h29, h30, h26, h23, h239, h240, hpl, hpb, hnb, hb, hop, hlv⟩
theorem fz_mo {X Y : List Nat} (h : fz X M M2) (hs : ∀ j ∈ X, j ∈ Y) : fz Y M M2 := fun j hj => h j (fun z => hj (hs j z))
theorem stl_b (le : Int) : ∀ (pl : rd_P) (nc : Nat) (o a : Nat → Int), (stl le pl nc o a).2.1 + (stl le pl nc o a).1.length ≤ nc + pl.length := by
  intro pl
  induction pl with
  | nil => intro nc o a; exact Nat.le_refl _
  | cons e r ih =>
    intro nc o a
    rw [stl]
    split
    · split
      · have := ih nc o (fup a e.2.toNat ((nc : Nat) : Int)); simp only [List.length_cons]; omega
      · have := ih (nc + 1) (fup o nc e.1) (fup a nc 0); simp only [List.length_cons]; omega
    · exact Nat.le_refl _
theorem RS_op (h : RS M E b s) {k x : Int} (e : M2 = px_up M 228 30 x) (hx : x = s.op + k) (hop : -((s.i : Nat) : Int) ≤ s.op + k ∧ s.op + k ≤ 8) : RS M2 E b (opn k s) :=
  RS_out (s2 := opn k s) h (fz_up (fz_rf _ M) e (by decide)) (fun a ha => by rw [e, ask_ne (fun z => ha (by rw [z]; decide))]) rfl rfl rfl (by rw [e, up_ne (by decide)]; exact h.h29) (by rw [e, up_s]; exact hx) (by rw [e, up_ne (by decide)]; exact h.h26) (by rw [e, up_ne (by decide)]; exact h.h23) (by rw [e, ask_ne (by decide)]; exact h.h239) (by rw [e, ask_ne (by decide)]; exact h.h240) (plR_q h.hpl (by rw [e, ask_ne (by decide)]) (by rw [e, ask_ne (by decide)])) h.hpb h.hnb h.hb hop h.hlv
theorem RS_lv (h : RS M E b s) {x : Int} (e : M2 = px_up M 228 26 x) (hx : x = ((s.lv : Nat) : Int) + 1) (hl : s.lv < 50) : RS M2 E b (lvn s) :=
  RS_out (s2 := lvn s) h (fz_up (fz_rf _ M) e (by decide)) (fun a ha => by rw [e, ask_ne (fun z => ha (by rw [z]; decide))]) rfl rfl rfl (by rw [e, up_ne (by decide)]; exact h.h29) (by rw [e, up_ne (by decide)]; exact h.h30) (by rw [e, up_s, hx]; rfl) (by rw [e, up_ne (by decide)]; exact h.h23) (by rw [e, ask_ne (by decide)]; exact h.h239) (by rw [e, ask_ne (by decide)]; exact h.h240) (plR_q h.hpl (by rw [e, ask_ne (by decide)]) (by rw [e, ask_ne (by decide)])) h.hpb h.hnb h.hb h.hop (by show s.lv + 1 ≤ 50; omega)
theorem RS_pop (h : RS M E b s) {x : Int} (e : M2 = px_up M 228 29 x) (hx : x = ((s.pl.length : Nat) : Int) - 1) (hl : s.pl ≠ []) : RS M2 E b (popS s) := by
  cases hp : s.pl with
  | nil => exact absurd hp hl
  | cons e0 r =>
    have ht : (popS s).pl = r := by show s.pl.tail = r; rw [hp]; rfl
    have hpl := h.hpl
    have hpb := h.hpb
    have hnb := h.hnb
    rw [hp] at hx hpl hpb hnb
    simp only [List.length_cons] at hx hnb
    exact RS_out (s2 := popS s) h (fz_up (fz_rf _ M) e (by decide)) (fun a ha => by rw [e, ask_ne (fun z => ha (by rw [z]; decide))]) rfl rfl rfl (by rw [e, up_s, ht]; omega) (by rw [e, up_ne (by decide)]; exact h.h30) (by rw [e, up_ne (by decide)]; exact h.h26) (by rw [e, up_ne (by decide)]; exact h.h23) (by rw [e, ask_ne (by decide)]; exact h.h239) (by rw [e, ask_ne (by decide)]; exact h.h240) (by rw [ht]; exact plR_q (plR_pop hpl) (by rw [e, ask_ne (by decide)]) (by rw [e, ask_ne (by decide)])) (by rw [ht]; exact fun x hx => hpb x (List.mem_cons_of_mem _ hx)) (by rw [ht]; show s.nc + r.length ≤ b; omega) h.hb h.hop h.hlv
theorem RS_ast (h : RS M E b s) {x : Int} {j : Nat} (e : M2 = px_up M 240 j x) (hj : j = s.nc - 1) : RS M2 E b (ast x s) :=
  RS_out (s2 := ast x s) h (fz_ne (fz_rf _ M) e (by decide)) (fun a ha => by rw [e, ask_ne (fun z => ha (by rw [z]; decide))]) rfl rfl rfl (by rw [e, ask_ne (by decide)]; exact h.h29) (by rw [e, ask_ne (by decide)]; exact h.h30) (by rw [e, ask_ne (by decide)]; exact h.h26) (by rw [e, ask_ne (by decide)]; exact h.h23) (by rw [e, ask_ne (by decide)]; exact h.h239) (by rw [up_fup e, h.h240, hj]; rfl) (plR_q h.hpl (by rw [e, ask_ne (by decide)]) (by rw [e, ask_ne (by decide)])) h.hpb h.hnb h.hb h.hop h.hlv
end RSS
section RSC
variable {xs : Nat → Int} {L d : Nat} {sh : List (Nat × Nat)} {M0 : Nat → Nat → Int}
theorem ct_RS_must (hd : 3 ≤ d) (hW : px_W0 <+: sh) (hF : px_Fx M0) (hG : px_RG sh M0) {E : rdE} {b : Nat} {s : rdS} (hs : RS M0 E b s) (hf : s.flt = 0) {u : Int} (hu : u = 0 ∨ u = 1) : ∃ M, (px_qk sh [228] M0 M ∧ RS M E b (mst E u s) ∧ fz [14, 15, 16, 17, 18, 19] M0 M) ∧ px_Cl xs L d 227 [.ref 228, .int (iI (u))] (sh, M0) (none) (sh, M) := by
  obtain ⟨M, ⟨k, p19, p18, pl, pf⟩, hc⟩ := ct_R_must0 (xs := xs) (L := L) hd hW hF hG (tn := E.tn) hs.h13 hs.htn (by rw [hs.h237]; exact hs.htb) (i := s.i) hs.hi (by rw [hs.h237]; exact hs.hlx) (by rw [hs.h19, hf]) hu
  refine ⟨M, ⟨k, ?_, pf⟩, hc⟩
  rw [hs.h237] at p18 pl
  have a := tkS_b (tb := E.tb) hs.hi
  have a2 := tkE_b (tb := E.tb) hs.hi
  unfold mst
  rcases hu with h | h
  · rw [if_neg (by omega)] at p19 p18 pl ⊢
    exact RS_tok hs pf k.2.2 pl p18 p19 ⟨Nat.le_refl _, hs.hi⟩
  · rw [if_pos h] at p19 p18 pl ⊢
    have z := RS_tok hs pf k.2.2 pl (p18.trans hs.h18) (p19.trans hf.symm) ⟨by omega, by omega⟩
    exact z
theorem ct_RS_next (hd : 2 ≤ d) (hW : px_W0 <+: sh) (hF : px_Fx M0) (hG : px_RG sh M0) {E : rdE} {b : Nat} {s : rdS} (hs : RS M0 E b s) : ∃ M, (px_qk sh [228] M0 M ∧ RS M E b (nxS E s) ∧ fz [14, 15, 16, 17] M0 M) ∧ px_Cl xs L d 222 [.ref 228] (sh, M0) (none) (sh, M) := by
  obtain ⟨M, ⟨k, p14, p15, p16, p17, pf⟩, hc⟩ := ct_R_next (xs := xs) (L := L) hd hW hF hG (tn := E.tn) hs.h13 hs.htn (by rw [hs.h237]; exact hs.htb) (i := tkE E.tn E.tb s.i) hs.hlx.2.1 (tkE_b hs.hi).2
  refine ⟨M, ⟨k, ?_, pf⟩, hc⟩
  rw [hs.h237] at p14 p15 p16 p17
  have a := tkS_b (tb := E.tb) hs.hi
  have a2 := tkE_b (tb := E.tb) hs.hi
  have z := RS_tok hs (fz_mo pf (by decide)) k.2.2 ⟨p14, p15, p16, p17⟩ ((pf 18 (by decide)).trans hs.h18) ((pf 19 (by decide)).trans hs.h19) ⟨by omega, by omega⟩
  exact z
theorem ct_RS_emit (hd : 1 ≤ d) (hW : px_W0 <+: sh) (hF : px_Fx M0) (hG : px_RG sh M0) {E : rdE} {b : Nat} {s : rdS} (hs : RS M0 E b s) (hk4 : b < 400) {a b_ : Int} (ha0 : rg a) (hb0 : rg b_) : ∃ M, (px_qk sh [228, 239, 240] M0 M ∧ RS M E (b + 1) (emt a b_ s) ∧ fz [23] M0 M) ∧ px_Cl xs L d 237 [.ref 228, .int (iI (a)), .int (iI (b_))] (sh, M0) (none) (sh, M) := by
  have hn := hs.hnb
  obtain ⟨M, ⟨k, pa, pb, pk, pf⟩, hc⟩ := ct_R_emit (xs := xs) (L := L) hd hW hF hG (k := s.nc) hs.h23 (by omega) ha0 hb0
  refine ⟨M, ⟨k, ?_, pf⟩, hc⟩
  exact RS_out (s2 := emt a b_ s) hs (fz_mo pf (by decide)) (fun x hx => k.2.2 x (fun z => hx ((by decide : ∀ y ∈ ([228, 239, 240] : List Nat), y ∈ [228, 239, 240, 241, 242]) x z))) rfl rfl rfl ((pf 29 (by decide)).trans hs.h29) ((pf 30 (by decide)).trans hs.h30) ((pf 26 (by decide)).trans hs.h26) pk (by rw [pa, hs.h239]; rfl) (by rw [pb, hs.h240]; rfl) (plR_q hs.hpl (k.2.2 241 (by decide)) (k.2.2 242 (by decide))) hs.hpb (by show s.nc + 1 + s.pl.length ≤ b + 1; omega) (by omega) hs.hop hs.hlv
theorem ct_RS_push (hd : 1 ≤ d) (hW : px_W0 <+: sh) (hF : px_Fx M0) (hG : px_RG sh M0) {E : rdE} {b : Nat} {s : rdS} (hs : RS M0 E b s) (hk4 : b < 400) {a b_ : Int} (ha0 : 0 ≤ a ∧ a ≤ 40) (hb0 : 0 ≤ b_ ∧ b_ < 400) : ∃ M, (px_qk sh [228, 241, 242] M0 M ∧ RS M E (b + 1) (psh a b_ s) ∧ fz [29] M0 M) ∧ px_Cl xs L d 230 [.ref 228, .int (iI (a)), .int (iI (b_))] (sh, M0) (none) (sh, M) := by
  have hn := hs.hnb
  obtain ⟨M, ⟨k, pa, pb, pk, pf⟩, hc⟩ := ct_R_push (xs := xs) (L := L) hd hW hF hG (k := s.pl.length) hs.h29 (by omega) (a := a) (b := b_) (by unfold rg; omega) (by unfold rg; omega)
  refine ⟨M, ⟨k, ?_, pf⟩, hc⟩
  refine RS_out (s2 := psh a b_ s) hs (fz_mo pf (by decide)) (fun x hx => k.2.2 x (fun z => hx ((by decide : ∀ y ∈ ([228, 241, 242] : List Nat), y ∈ [228, 239, 240, 241, 242]) x z))) rfl rfl rfl pk ((pf 30 (by decide)).trans hs.h30) ((pf 26 (by decide)).trans hs.h26) ((pf 23 (by decide)).trans hs.h23) ((k.2.2 239 (by decide)).trans hs.h239) ((k.2.2 240 (by decide)).trans hs.h240) (plR_push hs.hpl pa pb) ?_ (by show s.nc + (s.pl.length + 1) ≤ b + 1; omega) (by omega) hs.hop hs.hlv
  intro x hx
  rcases List.mem_cons.mp hx with rfl | hx
  · exact ⟨ha0, hb0⟩
  · exact hs.hpb x hx
theorem ct_RS_settle (hd : 2 ≤ d) (hW : px_W0 <+: sh) (hF : px_Fx M0) (hG : px_RG sh M0) {E : rdE} {b : Nat} {s : rdS} (hs : RS M0 E b s) {le : Int} (hle : rg le) : ∃ M, (px_qk sh [228, 239, 240] M0 M ∧ RS M E b (stS le s) ∧ fz [23, 29] M0 M) ∧ px_Cl xs L d 241 [.ref 228, .int (iI (le))] (sh, M0) (none) (sh, M) := by
  have hn := hs.hnb
  have hb := hs.hb
  obtain ⟨M, ⟨k, ⟨R, hR, r29, r23, ro, ra, rp, rb, rn⟩, pf⟩, hc⟩ := ct_R_settle (xs := xs) (L := L) hd hW hF hG (pl := s.pl) hs.h29 (nc := s.nc) hs.h23 (by omega) hs.hpb hs.hpl hle
  refine ⟨M, ⟨k, ?_, pf⟩, hc⟩
  rw [hs.h239, hs.h240] at hR
  subst hR
  have z := stl_b le s.pl s.nc s.o s.a
  exact RS_out (s2 := stS le s) hs (fz_mo pf (by decide)) (fun x hx => k.2.2 x (fun z => hx ((by decide : ∀ y ∈ ([228, 239, 240] : List Nat), y ∈ [228, 239, 240, 241, 242]) x z))) rfl rfl rfl r29 ((pf 30 (by decide)).trans hs.h30) ((pf 26 (by decide)).trans hs.h26) r23 ro ra rp rb (by show (stl le s.pl s.nc s.o s.a).2.1 + (stl le s.pl s.nc s.o s.a).1.length ≤ b; omega) hb hs.hop hs.hlv
theorem ct_RS_isWord (hd : 1 ≤ d) (hW : px_W0 <+: sh) (hF : px_Fx M0) (hG : px_RG sh M0) {E : rdE} {b : Nat} {s : rdS} (hs : RS M0 E b s) {u : Int} (hu : rl u) : ∃ M, (px_qk sh [] M0 M) ∧ px_Cl xs L d 226 [.ref 228, .long (lI (u))] (sh, M0) (some (.int (iI (bI (rK E s = 1 ∧ rW E s = u))))) (sh, M) := ct_R_isWord hd hW hF hG hs.hlx hu
theorem ct_RS_isSign (hd : 1 ≤ d) (hW : px_W0 <+: sh) (hF : px_Fx M0) (hG : px_RG sh M0) {E : rdE} {b : Nat} {s : rdS} (hs : RS M0 E b s) {u : Int} (hu : rg u) : ∃ M, (px_qk sh [] M0 M) ∧ px_Cl xs L d 231 [.ref 228, .int (iI (u))] (sh, M0) (some (.int (iI (bI (rK E s = 3 ∧ rW E s = u))))) (sh, M) := ct_R_isSign hd hW hF hG hs.hlx hu
end RSC
