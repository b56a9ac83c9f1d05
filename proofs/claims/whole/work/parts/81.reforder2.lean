/-! the reference's reader: an order -/
section RTE
variable {xs : Nat → Int} {L d : Nat} {sh : List (Nat × Nat)} {M0 : Nat → Nat → Int}
theorem ct_RT_number (hd : 4 ≤ d) (hW : px_W0 <+: sh) (hF : px_Fx M0) (hG : px_RG sh M0) {E : rdE} {b : Nat} {s : rdS} (hs : RT M0 E b s) (hf : s.flt = 0) {lo hi_ : Int} (hlo : rl lo) (hhi : rl hi_) : ∃ v M, (px_qk sh [228] M0 M ∧ v = rW E s ∧ RT M E b (rNb E lo hi_ s) ∧ fz [14, 15, 16, 17, 18, 19] M0 M) ∧ px_Cl xs L d 238 [.ref 228, .long (lI (lo)), .long (lI (hi_))] (sh, M0) (some (.int (iI v))) (sh, M) := by
  have hwl : rl (tkW E.tn (M0 237) s.i) := by
    have z := rg_atL hG (ws_228 hW) (j := 17) rfl
    rw [hs.hlx.2.2.2] at z
    rw [hs.h237]; exact z
  obtain ⟨v, M, ⟨k, pv, pn, pf⟩, hc⟩ := ct_R_number (xs := xs) (L := L) hd hW hF hG (tn := E.tn) hs.h13 hs.htn (by rw [hs.h237]; exact hs.htb) (i := s.i) hs.hi (by rw [hs.h237]; exact hs.hlx) (by rw [hs.h19, hf]) hlo hhi hwl
  rw [hs.h237] at pv pn
  refine ⟨v, M, ⟨k, pv, ?_, pf⟩, hc⟩
  have a := tkS_b (tb := E.tb) hs.hi
  have a2 := tkE_b (tb := E.tb) hs.hi
  rcases pn with ⟨c, p19, p18, pl⟩ | ⟨c, p19, p18, pl⟩
  · rw [show rNb E lo hi_ s = nxS E s from if_pos c]
    exact RT_tok hs pf k.2.2 pl (p18.trans hs.h18) (p19.trans hf.symm) ⟨by omega, by omega⟩
  · rw [show rNb E lo hi_ s = fl E s from if_neg c]
    exact RT_tok hs pf k.2.2 pl p18 p19 ⟨Nat.le_refl _, hs.hi⟩
end RTE
/-- an order's ways: the first word's sums, the word between, the number of times, the test -/
def od1 (E : rdE) (k : Int) (s : rdS) : rdS := if k = 4 then s else rSm E s
def od2 (E : rdE) (k : Int) (s : rdS) : rdS := if s.flt ≠ 0 then s else mst E (bI (rK E s = 1 ∧ rW E s = if k = 0 then 486 else 52)) s
def od3 (E : rdE) (k : Int) (s : rdS) : rdS := if 2 ≤ k then s else rSm E (od2 E k s)
def od4 (E : rdE) (s : rdS) : rdS := if s.flt = 0 ∧ rK E s = 1 ∧ rW E s = 21279923 then rNb E 1 20 (nxS E s) else s
def od4v (E : rdE) (s : rdS) : Int := if s.flt = 0 ∧ rK E s = 1 ∧ rW E s = 21279923 then wrp (rW E (nxS E s)) else 1
def od5 (E : rdE) (s : rdS) : rdS := lw2 E s
