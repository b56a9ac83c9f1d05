/-! laws, orders, sermons -/
section CH3
variable {xs : Nat → Int} {L d : Nat} {sh : List (Nat × Nat)} {M : Nat → Nat → Int} {n : Nat}
theorem orA_n {a : Nat} (h : a = 3 ∨ (8 ≤ a ∧ a ≤ 11) ∨ (14 ≤ a ∧ a ≤ 26) ∨ (175 ≤ a ∧ a ≤ 199) ∨ 206 ≤ a) : a ∉ orA := by
  intro z
  rcases List.mem_append.mp z with z | z
  · simp only [List.mem_cons, List.not_mem_nil, or_false] at z; omega
  · rcases List.mem_append.mp z with z | z
    · have := trA_iff.mp z; omega
    · rcases List.mem_append.mp z with z | z
      · have := trA_iff.mp z; omega
      · have := trA_iff.mp z; omega
theorem lwX_lo {g : Nat → Int} {m nl : Nat} {c : Nat → Int} {nc : Nat} {o a : Nat → Int} {j : Nat} (h : j < 900 * m + 111) (h3 : j ≠ 3) : lwX g m nl c nc o a j = g j := by
  unfold lwX fup cpC cpW
  dsimp only
  rw [if_neg h3, if_neg (by omega), if_neg (by omega), if_neg (by omega)]
theorem lwX_3 {g : Nat → Int} {m nl : Nat} {c : Nat → Int} {nc : Nat} {o a : Nat → Int} : lwX g m nl c nc o a 3 = ((m : Nat) : Int) + 1 := by
  unfold lwX fup
  rw [if_pos rfl]
theorem sSl_T {sh : List (Nat × Nat)} {a b : Nat} : sSl (shT sh a b) = sSl sh + (6 + a + a + 8 * b) := by
  unfold sSl shT
  simp only [List.map_append, List.sum_append, List.map_cons, List.map_nil, List.sum_cons, List.sum_nil]
  omega
theorem len_T {sh : List (Nat × Nat)} {a b : Nat} : (shT sh a b).length = sh.length + 4 := by
  unfold shT
  simp only [List.length_append, List.length_cons, List.length_nil]
theorem st_law5 (hd : 44 ≤ d) (h : JJ sh M n) (hn : n < 600) (h6 : M 3 9 = 6)  : AskS xs L d sh M n 55 219 [] := by
  obtain ⟨hn6, ⟨hW, hF, hG, hl1, hl2⟩, x, tl, ld, st, ft, sp, tn, tb, rf, dl, yf, im, hC, hR, hP⟩ := h
  have hI := hP.1
  have hlw := lwT_lw (lw_T hC hI)
  have h36 : x.1 3 = 6 := by rw [← hC.1]; exact h6
  obtain ⟨v, M1, ⟨q1, e1, r1, t1, h1, s1, b1, f1⟩, c1⟩ := ct_S_law5 (xs := xs) (L := L) (d := d) (by omega) hW hF hG hC.1 hI.1 hC.2.2.1 (CC_bd hC.2.2.2.2.2.2.2.2.1 hn6 hP.2.2.2.2.1) h6 (by rw [hC.2.2.2.1]; have := hP.2.2.1; omega)
  have hR1 := RR_fr (M2 := M1) hR (fun a h1 h2 => q1.2.2 a (by first | exact List.not_mem_nil | (simp only [List.mem_cons, List.not_mem_nil, or_false]; omega)))
  obtain ⟨v2, M2, ⟨q2, e2, h2, s2, b2, z2⟩, c2⟩ := ct_R_law5 (xs := xs) (L := L) (d := d) (by omega) hW q1.1 q1.2.1 (by rw [hR1.2.2.2.2.2.2.2.2.1]; exact rf_bd hn6 hP.2.2.2.2.1) (by rw [show M1 230 3 = rr_ M1 3 from rfl, hR1.1]; exact h36)
  have hv : v2 = v := by rw [e2, e1]
  subst hv
  rw [e2] at b2 s2
  have hC1 := CR_all (x := x) (tn2 := 0) (rf2 := bmp rf (-5)) hC (fun a ha => q1.2.2 a (by first | exact List.not_mem_nil | (simp only [List.mem_cons, List.not_mem_nil, or_false]; omega))) (f1 14 (by decide)) r1 t1 h1 ((f1 12 (by decide)).trans hC.2.2.2.2.1.1) s1 ((congrFun (q1.2.2 200 (by decide)) 1).trans hC.2.2.2.2.2.1) ((congrFun (q1.2.2 98 (by decide)) 0).trans hC.2.2.2.2.2.2.1) ((q1.2.2 199 (by decide)).trans hC.2.2.2.2.2.2.2.1) (by rw [b1]; exact CC_b hC.2.2.2.2.2.2.2.2.1 (by omega)) (by rw [q1.2.2 202 (by decide), q1.2.2 203 (by decide)]; exact hC.2.2.2.2.2.2.2.2.2.1)
  have hC2 := CR_q hC1 (fun a ha => q2.2.2 a (by first | exact List.not_mem_nil | (simp only [List.mem_cons, List.not_mem_nil, or_false]; omega)))
  have hR2 := RR_all (x := x) (tn2 := 0) hR1 (fun a ha => q2.2.2 a (by first | exact List.not_mem_nil | (simp only [List.mem_cons, List.not_mem_nil, or_false]; omega))) ((show rr_ M2 = rr_ M1 from funext fun j => by unfold rr_; rw [q2.2.2 230 (by decide)]).trans hR1.1) (fun j _ => by rw [q2.2.2 230 (by decide)]) (tlR_8 hR1.2.2.1 (z2 8 (by decide)) (fun j _ => by rw [q2.2.2 233 (by decide)]) (q2.2.2 234 (by decide))) h2 ((z2 11 (by decide)).trans hR1.2.2.2.2.1.1) s2 ((z2 18 (by decide)).trans hR1.2.2.2.2.2.1) ((z2 57 (by decide)).trans hR1.2.2.2.2.2.2.1) ((q2.2.2 237 (by decide)).trans hR1.2.2.2.2.2.2.2.1) (by rw [b2, hR1.2.2.2.2.2.2.2.2.1]) ((z2 20 (by decide)).trans hR1.2.2.2.2.2.2.2.2.2.1) ((z2 61 (by decide)).trans hR1.2.2.2.2.2.2.2.2.2.2.1.1) ((q2.2.2 263 (by decide)).trans hR1.2.2.2.2.2.2.2.2.2.2.1.2)
  exact ⟨v2, sh, M1, M2, c1, c2, by omega, ⟨hW, q2.1, q2.2.1, by omega, by omega⟩, _, _, _, _, _, _, _, _, _, _, _, _, hC2, hR2, hI, hP.2.1, Nat.zero_le _, hP.2.2.2.1, bmp_b hP.2.2.2.2.1 _, hP.2.2.2.2.2⟩

theorem st_lawX (hd : 44 ≤ d) {x : sp_I} {tl : sp_T} {ld st ft sp : Int} {tn : Nat} {tb rf : Nat → Int} {dl : Int} {yf : Nat → Int} {im : Nat → Option sp_I} (hn6 : n ≤ 600) (hw : JW sh M n) (hC : CR sh M x tl ld st ft sp tn tb rf dl yf im) (hR : RR M x tl ld st ft sp tn tb rf dl yf im) (hP : PO n x tl tn tb rf dl im) {m : Nat} (hm : x.1 3 = ((m : Nat) : Int)) (hm6 : m < 6) (hn : n < 600)  : AskS xs L d sh M n 55 219 [] := by
  obtain ⟨hW, hF, hG, hl1, hl2⟩ := hw
  have hI := hP.1
  have hm9 : M 3 9 = ((m : Nat) : Int) := by rw [← hm, ← hC.1]; rfl
  obtain ⟨E, hE⟩ : ∃ E : rdE, E = (tn, tb, 0, hw 3, hw 2) := ⟨_, rfl⟩
  have E1 : E.tn = tn := by rw [hE]; rfl
  have E2 : E.tb = tb := by rw [hE]; rfl
  have E3 : E.od = 0 := by rw [hE]; rfl
  have E4 : E.f = hw 3 := by rw [hE]; rfl
  have E5 : E.g = hw 2 := by rw [hE]; rfl
  have hEw' : hEw E := ⟨fun k _ => by rw [E4], fun k _ => by rw [E5], Or.inl E3⟩
  obtain ⟨R, hRd⟩ : ∃ R, R = cRead E (M 202) (M 203) (M 204) := ⟨_, rfl⟩
  by_cases hb : R.1 = true
  · obtain ⟨M1, ⟨⟨k1, k2⟩, fr1, m3, m11, ⟨k3, k4, f1⟩, k5, ⟨k6, k7⟩, ⟨k8, k9⟩, kT, kc, ka, kg⟩, c1⟩ := ct_S_law0 (xs := xs) (L := L) (d := d) (E := E) (by omega) hW hF hG (by omega) (by rw [E1]; exact hP.2.2.1) (by rw [E2]; exact hC.2.2.2.2.2.2.2.1) (by rw [E2]; exact hP.2.2.2.1) E3 (by rw [E1]; exact hC.2.2.2.1) (n := m) hm9 hm6 hRd hb
    have hlen := W_len hW
    have hW2 := W_shT hW (sz := R.2.1.sz) (cl := R.2.2.1)
    have hR1 := RR_fr (M2 := M1) hR (fun a h1 h2 => fr1 a (by omega) (by omega) (by omega) (by omega) (by omega))
    obtain ⟨v2, M2, ⟨q2, ⟨Z, hZ, e2, e230, e18, -, -⟩, h2, h20, s2, b2, z2⟩, c2⟩ := ct_R_law0 (xs := xs) (L := L) (d := d) (E := E) (lw := hw 1) (by omega) hW2 k1 k2 (by rw [E1]; exact hR1.2.2.2.1) (by rw [E1]; exact hP.2.2.1) (by rw [E2]; exact hR1.2.2.2.2.2.2.2.1) (by rw [E2]; exact hP.2.2.2.1) (Or.inl E3) (by rw [E4]; exact hR1.2.2.2.2.2.2.2.2.2.2.2.2.1) (by rw [E5]; exact hR1.2.2.2.2.2.2.2.2.2.2.2.2.2.1) E3 (by rw [hR1.2.2.2.2.2.2.2.2.1]; exact rf_bd hn6 hP.2.2.2.2.1) (n := m) (by rw [show M1 230 3 = rr_ M1 3 from rfl, hR1.1]; exact hm) hm6 hR1.2.2.2.2.2.2.2.2.2.2.2.2.2.2.1
    obtain ⟨x1, -, x3, l, hl⟩ := text_laws hEw' E3 (lw := hw 1) (fun _ _ => rfl) (by rw [E1]; exact hP.2.2.1) (M 202) (M 203) (M 204) (M1 239) (M1 240) (M1 238) hRd hZ
    obtain ⟨⟨y1, y2, y3, y4⟩, y5⟩ := hl hb
    have hz := x1.mp hb
    rw [if_pos hz] at e2 e230
    rw [if_neg (fun q => q.2 hz.2)] at e18
    subst e2
    have es : ∀ a y, sh[a]? = some y → (shT sh R.2.1.sz R.2.2.1)[a]? = some y := fun a y hy => shT_o hy
    have eh : ∀ a, 264 ≤ a → a < sh.length → M1 a = M a := fun a h1 h2 => fr1 a h2 (by omega) (by omega) (by omega) (by omega)
    have hx2 : x.2.length = m := by have := hI.2.2.1; omega
    have hrow : rc M1 3 = rup x.1 3 (((m : Nat) : Int) + 1) := by
      rw [← hC.1, ← r3_f9]
      refine rc_eq (fun i hi => ?_)
      by_cases z : i = 0
      · subst z; funext j; show M1 3 j = px_up M 3 9 _ 3 j
        rw [m3]; unfold px_up; rw [if_pos rfl]
      · rw [fr1 (3 + i) (by omega) (by omega) (by omega) (by omega) (by omega), ask_ne (by omega)]
    have hLC : LC (shT sh R.2.1.sz R.2.2.1) M1 3 (x.2 ++ [l.map toL]) := by
      refine ⟨fun k hk => ?_, fun k q hq => ?_⟩
      · show M1 11 k = -1 ∨ ∃ t : Nat, M1 11 k = (t : Int) ∧ t ≤ 600000 ∧ px_eok 13 (.ref t) _ = true
        rw [m11]
        by_cases z : k = m
        · rw [if_pos z]
          refine Or.inr ⟨sh.length, rfl, by omega, ?_⟩
          unfold px_eok; dsimp only; rw [kT.1]; rfl
        · rw [if_neg z]
          rcases hC.2.1.1 k hk with z | ⟨t, z1, z2, z3⟩
          · exact Or.inl z
          · exact Or.inr ⟨t, z1, z2, eok_sh z3 es⟩
      · show ∃ t N C : Nat, M1 11 k = _ ∧ _
        rw [m11]
        by_cases z : k < m
        · rw [List.getElem?_append_left (by omega)] at hq
          obtain ⟨t, N, C, g1, g2, g3⟩ := hC.2.1.2 k q hq
          rw [if_neg (by omega)]
          exact ⟨t, N, C, g1, g2, den_sh g3 eh g2 es⟩
        · rw [List.getElem?_append_right (by omega), hx2] at hq
          have hk : k = m := by
            have := (List.getElem?_eq_some_iff.mp hq).1
            simp only [List.length_cons, List.length_nil] at this
            omega
          subst hk
          rw [Nat.sub_self] at hq
          cases hq
          rw [if_pos rfl]
          exact ⟨sh.length, _, _, rfl, by omega, den_all (E := E) E3 kT (by rw [kc, y1]) (by omega) y4 (by rw [hRd]; exact kA_read hC.2.2.2.2.2.2.2.2.2.1) (Nat.le_refl _) (fun i hi => Or.inl hi) ka (fun j hj => kg j (by omega))⟩
    have hC1 : CR (shT sh R.2.1.sz R.2.2.1) M1 (rup x.1 3 (((m : Nat) : Int) + 1), x.2 ++ [l.map toL]) tl ld 0 (-1) sp 0 tb rf dl yf im := by
      refine ⟨hrow, hLC, ctl_eq hC.2.2.1 (fun a h1 h2 => fr1 a (by omega) (by omega) (by omega) (by omega) (by omega)), k3, ⟨(f1 12 (by decide)).trans hC.2.2.2.2.1.1, k4⟩, k5.trans (x3 hb).1, by rw [fr1 98 (by omega) (by omega) (by omega) (by omega) (by omega)]; exact hC.2.2.2.2.2.2.1, by rw [fr1 199 (by omega) (by omega) (by omega) (by omega) (by omega)]; exact hC.2.2.2.2.2.2.2.1, by rw [fr1 205 (by omega) (by omega) (by omega) (by omega) (by omega)]; exact hC.2.2.2.2.2.2.2.2.1, by rw [k6, k7, hRd]; exact (kA_read hC.2.2.2.2.2.2.2.2.2.1).1, YC_fr hC.2.2.2.2.2.2.2.2.2.2.1 (f1 14 (by decide)) (fun a h1 h2 => fr1 a (by omega) (by omega) (by omega) (by omega) (by omega)), IC_fr hC.2.2.2.2.2.2.2.2.2.2.2 (fr1 26 (by omega) (by omega) (by omega) (by omega) (by omega)) (fun a h1 h2 => fr1 a (by omega) (by omega) (by omega) (by omega) (by omega)) eh es⟩
    have hC2 := CR_q hC1 (fun a ha => q2.2.2 a (by first | exact List.not_mem_nil | (simp only [List.mem_cons, List.not_mem_nil, or_false]; omega)))
    have hR2 : RR M2 (rup x.1 3 (((m : Nat) : Int) + 1), x.2 ++ [l.map toL]) tl ld 0 (-1) sp 0 tb rf dl yf im := by
      have hm0 : ¬ ((m : Nat) : Int) < 0 := by omega
      refine ⟨?_, fun k q hq => ?_, (tlR_8 hR1.2.2.1 (z2 8 (by decide)) (fun j _ => by rw [q2.2.2 233 (by decide)]) (q2.2.2 234 (by decide))), h2, ⟨((z2 11 (by decide)).trans hR1.2.2.2.2.1.1), by rw [s2, if_neg hm0]⟩, e18.trans (x3 hb).2, ((z2 57 (by decide)).trans hR1.2.2.2.2.2.2.1), ((q2.2.2 237 (by decide)).trans hR1.2.2.2.2.2.2.2.1), by rw [b2, bmp, if_neg hm0, hR1.2.2.2.2.2.2.2.2.1], h20, ⟨((z2 61 (by decide)).trans hR1.2.2.2.2.2.2.2.2.2.2.1.1), ((q2.2.2 263 (by decide)).trans hR1.2.2.2.2.2.2.2.2.2.2.1.2)⟩, ?_, ?_⟩
      · rw [← hR1.1]; funext j; unfold rr_ rup; rw [e230]; dsimp only
        by_cases z3 : j = 3
        · rw [if_pos z3, z3, if_pos (by omega), lwX_3]
        · rw [if_neg z3]
          by_cases z : j < 109
          · rw [if_pos z, if_pos z, lwX_lo (by omega) z3]
          · rw [if_neg z, if_neg z]
      · dsimp only at hq
        rw [e230]
        by_cases z : k < m
        · rw [List.getElem?_append_left (by omega)] at hq
          exact rlden_eq (hR1.2.1 k q hq) (fun j h1 h2 => lwX_lo (by omega) (by omega))
        · rw [List.getElem?_append_right (by omega), hx2] at hq
          have hk : k = m := by
            have := (List.getElem?_eq_some_iff.mp hq).1
            simp only [List.length_cons, List.length_nil] at this
            omega
          subst hk
          rw [Nat.sub_self] at hq
          cases hq
          exact y5 _ _
      · unfold IR; rw [q2.2.2 231 (by decide), q2.2.2 232 (by decide)]; exact hR1.2.2.2.2.2.2.2.2.2.2.2.1
      · unfold TB; rw [q2.2.2 243 (by decide), q2.2.2 244 (by decide), q2.2.2 245 (by decide), q2.2.2 261 (by decide)]; exact hR1.2.2.2.2.2.2.2.2.2.2.2.2
    have hok : sp_ok (rup x.1 3 (((m : Nat) : Int) + 1)) := by
      have h4 := hI.1.2.2.2.2.1
      refine ok_rup hI.1 (by omega) (by omega) (by omega) (by omega) (by omega) (by omega) (by omega) (by omega) (by omega) (by omega) (by omega) (by omega) (by omega) (by omega) (by omega) (by omega) (by omega)
    refine ⟨_, _, M1, M2, c1, c2, by omega, ⟨hW2, q2.1, q2.2.1, by rw [len_T]; omega, by rw [sSl_T]; omega⟩, _, _, _, _, _, _, _, _, _, _, _, _, hC2, hR2, ⟨hok, hI.2.1, ?_, fun q hq => ?_⟩, trlOK_eq hP.2.1 rfl rfl, Nat.zero_le _, hP.2.2.2.1, rf_b hP.2.2.2.2.1, hP.2.2.2.2.2⟩
    · show rup x.1 3 (((m : Nat) : Int) + 1) 3 = (((x.2 ++ [l.map toL]).length : Nat) : Int)
      rw [rup_s, List.length_append, hx2]; simp only [List.length_cons, List.length_nil]; omega
    · rcases List.mem_append.mp hq with z | z
      · exact hI.2.2.2 q z
      · rw [List.mem_singleton] at z; rw [z]; exact toL_rs l
  · have hbf : R.1 = false := by cases hq : R.1 with | true => exact absurd hq hb | false => rfl
    obtain ⟨v, M1, ⟨q1, e1, r1, t1, h1, s1, b1, f1, fl1, kA⟩, c1⟩ := ct_S_lawX (xs := xs) (L := L) (d := d) (E := E) (by omega) hW hF hG hC.1 hI.1 hC.2.2.1 (CC_bd hC.2.2.2.2.2.2.2.2.1 hn6 hP.2.2.2.2.1) (by rw [E1]; exact hP.2.2.1) (by rw [E2]; exact hC.2.2.2.2.2.2.2.1) (by rw [E2]; exact hP.2.2.2.1) E3 (by rw [E1]; exact hC.2.2.2.1) (n := m) hm9 hm6 hRd hbf
    have hR1 := RR_fr (M2 := M1) hR (fun a h1 h2 => q1.2.2 a (by first | exact List.not_mem_nil | (simp only [List.mem_cons, List.not_mem_nil, or_false]; omega)))
    obtain ⟨v2, M2, ⟨q2, ⟨Z, hZ, e2, e230, e18, -, -⟩, h2, h20, s2, b2, z2⟩, c2⟩ := ct_R_law0 (xs := xs) (L := L) (d := d) (E := E) (lw := hw 1) (by omega) hW q1.1 q1.2.1 (by rw [E1]; exact hR1.2.2.2.1) (by rw [E1]; exact hP.2.2.1) (by rw [E2]; exact hR1.2.2.2.2.2.2.2.1) (by rw [E2]; exact hP.2.2.2.1) (Or.inl E3) (by rw [E4]; exact hR1.2.2.2.2.2.2.2.2.2.2.2.2.1) (by rw [E5]; exact hR1.2.2.2.2.2.2.2.2.2.2.2.2.2.1) E3 (by rw [hR1.2.2.2.2.2.2.2.2.1]; exact rf_bd hn6 hP.2.2.2.2.1) (n := m) (by rw [show M1 230 3 = rr_ M1 3 from rfl, hR1.1]; exact hm) hm6 hR1.2.2.2.2.2.2.2.2.2.2.2.2.2.2.1
    obtain ⟨x1, x2, -, -⟩ := text_laws hEw' E3 (lw := hw 1) (fun _ _ => rfl) (by rw [E1]; exact hP.2.2.1) (M 202) (M 203) (M 204) (M1 239) (M1 240) (M1 238) hRd hZ
    have hz : ¬ (Z.1.flt = 0 ∧ rK E Z.1 = 0) := fun q => hb (x1.mpr q)
    rw [if_neg hz] at e2 e230
    rw [x2 hbf] at e18
    have hv : v2 = v := by rw [e2, e1]
    subst hv
    rw [e2] at b2 s2
    have hrr : rr_ M2 = rr_ M1 := by funext j; unfold rr_; rw [e230]
    have hC1 := CR_all (x := x) (tn2 := 0) (rf2 := bmp rf (-6)) hC (fun a ha => q1.2.2 a (by first | exact List.not_mem_nil | (simp only [List.mem_cons, List.not_mem_nil, or_false]; omega))) (f1 14 (by decide)) r1 t1 h1 ((f1 12 (by decide)).trans hC.2.2.2.2.1.1) s1 fl1 ((congrFun (q1.2.2 98 (by decide)) 0).trans hC.2.2.2.2.2.2.1) ((q1.2.2 199 (by decide)).trans hC.2.2.2.2.2.2.2.1) (by rw [b1]; exact CC_b hC.2.2.2.2.2.2.2.2.1 (by omega)) (by rw [kA.1, kA.2, hRd]; exact (kA_read hC.2.2.2.2.2.2.2.2.2.1).1)
    have hC2 := CR_q hC1 (fun a ha => q2.2.2 a (by first | exact List.not_mem_nil | (simp only [List.mem_cons, List.not_mem_nil, or_false]; omega)))
    have hR2 := RR_all (x := x) (tn2 := 0) hR1 (fun a ha => q2.2.2 a (by first | exact List.not_mem_nil | (simp only [List.mem_cons, List.not_mem_nil, or_false]; omega))) (hrr.trans hR1.1) (fun j _ => by rw [e230]) (tlR_8 hR1.2.2.1 (z2 8 (by decide)) (fun j _ => by rw [q2.2.2 233 (by decide)]) (q2.2.2 234 (by decide))) h2 ((z2 11 (by decide)).trans hR1.2.2.2.2.1.1) s2 e18 ((z2 57 (by decide)).trans hR1.2.2.2.2.2.2.1) ((q2.2.2 237 (by decide)).trans hR1.2.2.2.2.2.2.2.1) (by rw [b2, hR1.2.2.2.2.2.2.2.2.1]) h20 ((z2 61 (by decide)).trans hR1.2.2.2.2.2.2.2.2.2.2.1.1) ((q2.2.2 263 (by decide)).trans hR1.2.2.2.2.2.2.2.2.2.2.1.2)
    exact ⟨v2, sh, M1, M2, c1, c2, by omega, ⟨hW, q2.1, q2.2.1, by omega, by omega⟩, _, _, _, _, _, _, _, _, _, _, _, _, hC2, hR2, hI, hP.2.1, Nat.zero_le _, hP.2.2.2.1, bmp_b hP.2.2.2.2.1 _, hP.2.2.2.2.2⟩

theorem st_law (hd : 44 ≤ d) (h : JJ sh M n) (hn : n < 600)  : AskS xs L d sh M n 55 219 [] := by
  obtain ⟨hn6, hw, x, tl, ld, st, ft, sp, tn, tb, rf, dl, yf, im, hC, hR, hP⟩ := id h
  have h3 := hP.1.1.2.2.2.1
  by_cases z : x.1 3 = 6
  · exact st_law5 hd h hn (by rw [← z, ← hC.1]; rfl)
  · exact st_lawX hd hn6 hw hC hR hP (m := (x.1 3).toNat) (by omega) (by omega) hn

theorem st_orders (hd : 44 ≤ d) (h : JJ sh M n) (hn : n < 600)  : AskS xs L d sh M n 92 292 [] := by
  obtain ⟨hn6, ⟨hW, hF, hG, hl1, hl2⟩, x, tl, ld, st, ft, sp, tn, tb, rf, dl, yf, im, hC, hR, hP⟩ := h
  have hI := hP.1
  have hlw := lwT_lw (lw_T hC hI)
  obtain ⟨E, hE⟩ : ∃ E : rdE, E = (tn, tb, 1, hw 3, hw 2) := ⟨_, rfl⟩
  have E1 : E.tn = tn := by rw [hE]; rfl
  have E2 : E.tb = tb := by rw [hE]; rfl
  have E3 : E.od = 1 := by rw [hE]; rfl
  have E4 : E.f = hw 3 := by rw [hE]; rfl
  have E5 : E.g = hw 2 := by rw [hE]; rfl
  have hEw' : hEw E := ⟨fun k _ => by rw [E4], fun k _ => by rw [E5], Or.inr E3⟩
  obtain ⟨R, hRd⟩ : ∃ R, R = cRead E (M 202) (M 203) (M 204) := ⟨_, rfl⟩
  obtain ⟨Z, hZ0⟩ : ∃ Z, Z = lwR E (odT E (fun k => hw 0 (lof k))) 401 (odT E (fun k => hw 0 (lof k)) (rB0 (M 239) (M 240), 0, M 262)) := ⟨_, rfl⟩
  obtain ⟨x1, x2, x3, ol, hol⟩ := text_orders hEw' E3 (lo := fun k => hw 0 (lof k)) (fun _ _ => rfl) (by rw [E1]; exact hP.2.2.1) (M 202) (M 203) (M 204) (M 239) (M 240) (M 262) hRd hZ0
  by_cases hb : R.1 = true
  · obtain ⟨⟨o1, o2, o3⟩, o4, o5⟩ := hol hb
    have hz := x1.mp hb
    obtain ⟨v, M1, ⟨q1, e1, fl1, h1, s1, b1, f1, kA⟩, c1⟩ := ct_S_orders0 (xs := xs) (L := L) (d := d) (E := E) (by omega) hW hF hG hC.1 hI.1 (lw_T hC hI) hC.2.2.1 hI.2.1 (by rw [E1]; exact hP.2.2.1) (by rw [E2]; exact hC.2.2.2.2.2.2.2.1) (by rw [E2]; exact hP.2.2.2.1) E3 (by rw [E1]; exact hC.2.2.2.1) hC.2.2.2.2.2.2.2.2.2.1 (CC_bd hC.2.2.2.2.2.2.2.2.1 hn6 hP.2.2.2.2.1) hRd hb ⟨o1, o2, o3⟩
    have hR1 := RR_fr (M2 := M1) hR (fun a h1 h2 => q1.2.2 a (orA_n (by omega)))
    have hZ : Z = lwR E (odT E (fun k => hw 0 (lof k))) 401 (odT E (fun k => hw 0 (lof k)) (rB0 (M1 239) (M1 240), 0, M1 262)) := by
      rw [q1.2.2 239 (orA_n (by omega)), q1.2.2 240 (orA_n (by omega)), q1.2.2 262 (orA_n (by omega))]; exact hZ0
    obtain ⟨v2, M2, ⟨q2, ⟨-, e2⟩, e18, h2, h20, n9, s2, b2, z2⟩, c2⟩ := ct_R_orders (xs := xs) (L := L) (d := d) (E := E) (lw := lwOf x) (tl := tl) (lo := fun k => hw 0 (lof k)) (by omega) hW q1.1 q1.2.1 (by rw [E1]; exact hR1.2.2.2.1) (by rw [E1]; exact hP.2.2.1) (by rw [E2]; exact hR1.2.2.2.2.2.2.2.1) (by rw [E2]; exact hP.2.2.2.1) (Or.inr E3) (by rw [E4]; exact hR1.2.2.2.2.2.2.2.2.2.2.2.2.1) (by rw [E5]; exact hR1.2.2.2.2.2.2.2.2.2.2.2.2.2.1) E3 (by rw [hR1.2.2.2.2.2.2.2.2.1]; exact rf_bd hn6 hP.2.2.2.2.1) (by rw [hR1.1]; exact hI.1) (lw_R hR1 hI) hR1.2.2.1 (by rw [hR1.1]; exact hI.2.1) hR1.2.2.2.2.2.2.2.2.2.2.2.2.2.2.2 hZ (ol := ol) (fun _ => ⟨o4, o5⟩)
    have e2 := e2 hz
    rw [hR1.1] at e2
    rw [if_neg (fun q => q.2 hz.2), (x3 hb).2] at e18
    rw [(x3 hb).1] at fl1
    have hok : ∀ c ∈ ol, 0 ≤ c.1 ∧ c.1 ≤ 4 := fun c hc => by
      obtain ⟨i, hi⟩ := List.getElem?_of_mem hc
      exact (o3 i c hi).1
    have key : ∃ ρ2 tl2 sp2, v2 = v ∧ (-6 ≤ v ∧ v ≠ -4) ∧ rc M1 3 = ρ2 ∧ rr_ M2 = ρ2 ∧ ctlR M1 27 tl2 ∧ tlR M2 tl2 ∧ M1 98 0 = sp2 ∧ M2 228 57 = sp2 ∧ IOK (ρ2, x.2) ∧ trlOK ρ2 tl2 := by
      cases hL : od_L (lwOf x) ol 0 (x.1, tl, 0, -1) with
      | inl y =>
        rw [hL] at e1 e2
        obtain ⟨p1, p2, p3, p4⟩ := e1
        obtain ⟨r1, r2, r3, r4⟩ := e2
        rw [hR1.1] at *
        have hy := oSt_L (ρ := x.1) ol 0 (x.1, tl, 0, -1) y hok ⟨hI.1, hI.2.1, fun _ _ => rfl, hP.2.1, rfl, rfl, by show (0 : Int) ≤ 0; omega⟩ hL
        obtain ⟨g1, g2, g3, g4, g5, g6, g7⟩ := hy
        exact ⟨y.1, y.2.1, -1, by rw [r1, p1], by omega, p2, r2, p3, r3, p4, r4, IOK_up hI g1 g2 (g3 3 (by omega)), g4⟩
      | inr i =>
        rw [hL] at e1 e2
        obtain ⟨p1, p2, p3, p4⟩ := e1
        obtain ⟨r1, r2, r3, r4⟩ := e2
        exact ⟨x.1, tl, _, by rw [r1, p1], by omega, p2, r2.trans hR1.1, p3, r3, p4, r4, hI, hP.2.1⟩
    obtain ⟨ρ2, tl2, sp2, hv, hvb, g1, g2, g3, g4, g5, g6, g7, g8⟩ := key
    subst hv
    have hcc : CC (M1 205) (bmp rf v2) := by
      rw [b1]
      by_cases zv : v2 < 0
      · rw [if_pos zv]; exact CC_b hC.2.2.2.2.2.2.2.2.1 hvb
      · rw [if_neg zv]; unfold bmp; rw [if_neg zv]; exact hC.2.2.2.2.2.2.2.2.1
    have hC1 := CR_all (x := x) (tn2 := 0) (rf2 := bmp rf v2) hC (fun a ha => q1.2.2 a (orA_n (by omega))) (f1 14 (by decide)) g1 g3 h1 ((f1 12 (by decide)).trans hC.2.2.2.2.1.1) s1 fl1 g5 ((q1.2.2 199 (orA_n (by omega))).trans hC.2.2.2.2.2.2.2.1) hcc (by rw [kA.1, kA.2, hRd]; exact (kA_read hC.2.2.2.2.2.2.2.2.2.1).1)
    have hC2 := CR_q hC1 (fun a ha => q2.2.2 a (by first | exact List.not_mem_nil | (simp only [List.mem_cons, List.not_mem_nil, or_false]; omega)))
    have hR2 := RR_all (x := x) (tn2 := 0) hR1 (fun a ha => q2.2.2 a (by first | exact List.not_mem_nil | (simp only [List.mem_cons, List.not_mem_nil, or_false]; omega))) g2 n9 g4 h2 ((z2 11 (by decide)).trans hR1.2.2.2.2.1.1) s2 e18 g6 ((q2.2.2 237 (by decide)).trans hR1.2.2.2.2.2.2.2.1) (by rw [b2, hR1.2.2.2.2.2.2.2.2.1]) h20 ((z2 61 (by decide)).trans hR1.2.2.2.2.2.2.2.2.2.2.1.1) ((q2.2.2 263 (by decide)).trans hR1.2.2.2.2.2.2.2.2.2.2.1.2)
    exact ⟨v2, sh, M1, M2, c1, c2, by omega, ⟨hW, q2.1, q2.2.1, by omega, by omega⟩, _, _, _, _, _, _, _, _, _, _, _, _, hC2, hR2, g7, g8, Nat.zero_le _, hP.2.2.2.1, bmp_b hP.2.2.2.2.1 _, hP.2.2.2.2.2⟩
  · have hbf : R.1 = false := by cases hq : R.1 with | true => exact absurd hq hb | false => rfl
    have hz : ¬ (Z.1.flt = 0 ∧ rK E Z.1 = 0) := fun q => hb (x1.mpr q)
    obtain ⟨v, M1, ⟨q1, e1, r1, t1, s57, fl1, h1, s1, b1, f1, kA⟩, c1⟩ := ct_S_ordersX (xs := xs) (L := L) (d := d) (E := E) (by omega) hW hF hG hC.1 hI.1 hlw hC.2.2.1 hI.2.1 (by rw [E1]; exact hP.2.2.1) (by rw [E2]; exact hC.2.2.2.2.2.2.2.1) (by rw [E2]; exact hP.2.2.2.1) E3 (by rw [E1]; exact hC.2.2.2.1) hC.2.2.2.2.2.2.2.2.2.1 (CC_bd hC.2.2.2.2.2.2.2.2.1 hn6 hP.2.2.2.2.1) hRd hbf
    have hR1 := RR_fr (M2 := M1) hR (fun a h1 h2 => q1.2.2 a (by first | exact List.not_mem_nil | (simp only [List.mem_cons, List.not_mem_nil, or_false]; omega)))
    have hZ : Z = lwR E (odT E (fun k => hw 0 (lof k))) 401 (odT E (fun k => hw 0 (lof k)) (rB0 (M1 239) (M1 240), 0, M1 262)) := by
      rw [q1.2.2 239 (by decide), q1.2.2 240 (by decide), q1.2.2 262 (by decide)]; exact hZ0
    obtain ⟨v2, M2, ⟨q2, ⟨e2, -⟩, e18, h2, h20, n9, s2, b2, z2⟩, c2⟩ := ct_R_orders (xs := xs) (L := L) (d := d) (E := E) (lw := lwOf x) (tl := tl) (lo := fun k => hw 0 (lof k)) (by omega) hW q1.1 q1.2.1 (by rw [E1]; exact hR1.2.2.2.1) (by rw [E1]; exact hP.2.2.1) (by rw [E2]; exact hR1.2.2.2.2.2.2.2.1) (by rw [E2]; exact hP.2.2.2.1) (Or.inr E3) (by rw [E4]; exact hR1.2.2.2.2.2.2.2.2.2.2.2.2.1) (by rw [E5]; exact hR1.2.2.2.2.2.2.2.2.2.2.2.2.2.1) E3 (by rw [hR1.2.2.2.2.2.2.2.2.1]; exact rf_bd hn6 hP.2.2.2.2.1) (by rw [hR1.1]; exact hI.1) (lw_R hR1 hI) hR1.2.2.1 (by rw [hR1.1]; exact hI.2.1) hR1.2.2.2.2.2.2.2.2.2.2.2.2.2.2.2 hZ (ol := []) (fun q => absurd q hz)
    obtain ⟨e2, r2, t2, g57⟩ := e2 hz
    rw [x2 hbf] at e18
    have hv : v2 = v := by rw [e2, e1]
    subst hv
    rw [e2] at b2 s2
    have hC1 := CR_all (x := x) (tn2 := 0) (rf2 := bmp rf (-6)) hC (fun a ha => q1.2.2 a (by first | exact List.not_mem_nil | (simp only [List.mem_cons, List.not_mem_nil, or_false]; omega))) (f1 14 (by decide)) r1 t1 h1 ((f1 12 (by decide)).trans hC.2.2.2.2.1.1) s1 fl1 s57 ((q1.2.2 199 (by decide)).trans hC.2.2.2.2.2.2.2.1) (by rw [b1]; exact CC_b hC.2.2.2.2.2.2.2.2.1 (by omega)) (by rw [kA.1, kA.2, hRd]; exact (kA_read hC.2.2.2.2.2.2.2.2.2.1).1)
    have hC2 := CR_q hC1 (fun a ha => q2.2.2 a (by first | exact List.not_mem_nil | (simp only [List.mem_cons, List.not_mem_nil, or_false]; omega)))
    have hR2 := RR_all (x := x) (tn2 := 0) hR1 (fun a ha => q2.2.2 a (by first | exact List.not_mem_nil | (simp only [List.mem_cons, List.not_mem_nil, or_false]; omega))) (r2.trans hR1.1) n9 t2 h2 ((z2 11 (by decide)).trans hR1.2.2.2.2.1.1) s2 e18 g57 ((q2.2.2 237 (by decide)).trans hR1.2.2.2.2.2.2.2.1) (by rw [b2, hR1.2.2.2.2.2.2.2.2.1]) h20 ((z2 61 (by decide)).trans hR1.2.2.2.2.2.2.2.2.2.2.1.1) ((q2.2.2 263 (by decide)).trans hR1.2.2.2.2.2.2.2.2.2.2.1.2)
    exact ⟨v2, sh, M1, M2, c1, c2, by omega, ⟨hW, q2.1, q2.2.1, by omega, by omega⟩, _, _, _, _, _, _, _, _, _, _, _, _, hC2, hR2, hI, hP.2.1, Nat.zero_le _, hP.2.2.2.1, bmp_b hP.2.2.2.2.1 _, hP.2.2.2.2.2⟩

end CH3
