/-! what a text means, to the class and to the reference -/
def clp (v : Nat → Int) : Nat → Int := fun j => if j < 12 ∧ -1000000000 ≤ v j ∧ v j ≤ 1000000000 then v j else 0
theorem clp_b (v : Nat → Int) : bndE 0 (clp v) := by
  intro j _
  unfold clp
  split <;> omega
theorem clp_v {v : Nat → Int} (h : px_bnd v) {j : Nat} (hj : j < 12) : clp v j = v j := by
  unfold clp
  exact if_pos ⟨hj, h j hj⟩
theorem clp_c {v w : Nat → Int} (h : ∀ j, j < 12 → v j = w j) : clp v = clp w := by
  funext j
  unfold clp
  by_cases hj : j < 12
  · rw [h j hj]
  · rw [if_neg (fun z => hj z.1), if_neg (fun z => hj z.1)]
def fD (F : fnO) (df : Int) (v : sp_E) : Option Int := match F with
  | none => some df
  | some f => f v
def toL (x : tC) : sp_C := (x.1, (fun v => fD x.2.2.2.2 1 (clp v)), fun v => fD x.2.2.1 1 (clp v))
def toO (x : tC) : od_C := (x.1, x.2.1, fD x.2.2.2.2 1, fD x.2.2.1 (-1), fD x.2.2.2.1 (-1))
theorem toL_rs (l : List tC) : sp_rs (l.map toL) := by
  intro x hx v w e
  obtain ⟨y, -, rfl⟩ := List.mem_map.mp hx
  have ec := clp_c e
  exact ⟨by show fD _ 1 (clp v) = fD _ 1 (clp w); rw [ec], by show fD _ 1 (clp v) = fD _ 1 (clp w); rw [ec]⟩
theorem nv_0 : nvE 0 = 12 := rfl
theorem nv_1 : nvE 1 = 59 := rfl
theorem bnd_0 (od : Int) : bndE od (fun _ => 0) := fun j _ => by show -1000000000 ≤ (0 : Int) ∧ (0 : Int) ≤ 1000000000; omega
theorem cM_ev {od ab : Int} {o a : Nat → Int} {x y m : Nat} {f : sp_E → Option Int} (h : cM od ab o a x y m f) (hm : m ≤ 50) {v w : Nat → Int} (hb : bndE od v) (hg : agr od ab v w) : evC o a w (nvE od) (y - x) x 0 [] = (f v).map (fun z => [z]) := by
  have := h.2 o a (fun _ _ _ => ⟨rfl, rfl⟩) v w [] hb hg (by show 0 + m ≤ 51; omega) 0
  rw [Nat.add_zero] at this
  rw [this]
  cases f v <;> rfl
theorem cM_lt {od ab : Int} {o a : Nat → Int} {x y m : Nat} {f : sp_E → Option Int} (h : cM od ab o a x y m f) (hm : m ≤ 50) : x < y := by
  have h1 := h.1
  by_cases e : x = y
  · have := cM_ev h hm (w := fun _ => 0) (bnd_0 od) (fun j _ => Or.inr rfl)
    rw [e, Nat.sub_self] at this
    cases hf : f (fun _ => 0) with
    | none => rw [hf] at this; cases this
    | some z => rw [hf] at this; cases this
  · omega
theorem cM_w {od ab : Int} {o a : Nat → Int} {x y m : Nat} {f : sp_E → Option Int} (h : cM od ab o a x y m f) (hm : m ≤ 50) {v w : Nat → Int} (hb : bndE od v) (hg : agr od ab v w) : wC o a w (nvE od) x y = oI (f v) := by
  unfold wC
  rw [cM_ev h hm hb hg]
  cases f v <;> rfl
theorem rM_lt {od : Int} {o a : Nat → Int} {x y : Nat} {f : sp_E → Option Int} (h : rM od o a x y f) : x < y := by
  have h1 := h.1
  by_cases e : x = y
  · have h2 := h.2 o a (fun _ _ _ => ⟨rfl, rfl⟩) (fun _ => 0) y [] (bnd_0 od) (Nat.le_refl _)
    have hst : ∀ fu st, evS o a (lfE od (fun _ => 0)) y (fu + 1) y st = some (some st) := fun fu st => by rw [evS_s, if_pos (Nat.le_refl _)]
    rw [e] at h2
    have no : ∀ fu res, evS o a (lfE od (fun _ => 0)) y fu y [] = some res → res = some [] := by
      intro fu res hr
      cases fu with
      | zero => cases hr
      | succ fu => rw [hst] at hr; exact (Option.some.inj hr).symm
    cases hf : f (fun _ => 0) with
    | none =>
      rw [hf] at h2
      obtain ⟨fu, h3⟩ := h2
      cases no fu none h3
    | some z =>
      rw [hf] at h2
      obtain ⟨fu, h3⟩ := h2 1 (some [z]) (hst 0 [z])
      cases no fu _ h3
  · omega
theorem rM_rl {od : Int} {o a : Nat → Int} {x y : Nat} {f : sp_E → Option Int} (h : rM od o a x y f) {o2 a2 : Nat → Int} (e : ∀ j, x ≤ j → j < y → o2 j = o j ∧ a2 j = a j) {v : Nat → Int} (hb : bndE od v) (hz : ∀ z, f v = some z → -1000000000 ≤ z ∧ z ≤ 1000000001) : rlM o2 a2 (lfE od v) x y (f v) := by
  have h2 := h.2 o2 a2 e v y [] hb (Nat.le_refl _)
  cases hf : f v with
  | none =>
    rw [hf] at h2
    obtain ⟨fu, h3⟩ := h2
    exact ⟨fu, none, h3, Or.inl ⟨rfl, rfl⟩⟩
  | some z =>
    rw [hf] at h2
    obtain ⟨fu, h3⟩ := h2 1 (some [z]) (by rw [evS_s, if_pos (Nat.le_refl _)])
    exact ⟨fu, some [z], h3, Or.inr ⟨z, [z], rfl, rfl, rfl, hz z hf⟩⟩
theorem okF_b {od : Int} {T : Bool} {f : sp_E → Option Int} (h : okF od T (some f)) {v : Nat → Int} (hb : bndE od v) : ∀ z, f v = some z → -1000000000 ≤ z ∧ z ≤ 1000000001 := by
  intro z hz
  have h1 := h f rfl
  cases T with
  | true => have := (show fT od f from h1) v z hb hz; omega
  | false => have := (show fB od f from h1) v z hb hz; omega
/-- orders: a piece to the class -/
theorem co_pc {E : rdE} (hod : E.od = 1) {c : cS} {g : Nat → Int} {p : Nat} {F : fnO} {T : Bool} {df : Int} (h : pcC E c g p F) (hk : okF E.od T F) (hs : c.sz ≤ 400) : coM c.o c.a g c.ab p (fD F df) df ∧ (F ≠ none → g p < g (p + 1)) := by
  cases F with
  | none =>
    obtain ⟨h1, h2⟩ := h.1 rfl
    exact ⟨⟨0, 0, h1, h2, Nat.le_refl _, by omega, fun v _ => ⟨fun _ => rfl, fun z => by omega⟩⟩, fun z => absurd rfl z⟩
  | some f =>
    obtain ⟨x, y, m, h1, h2, h3, h4, h5⟩ := h.2 f rfl
    have hlt := cM_lt h5 h4
    refine ⟨⟨x, y, h1, h2, by omega, by omega, fun v hb => ⟨fun z => by omega, fun _ w hw_ => ?_⟩⟩, fun _ => by omega⟩
    rw [hod] at h5 hk
    have hb2 : bndE 1 v := hb
    have hg : agr 1 c.ab v w := by
      intro j hj
      by_cases z : j = 4 ∧ c.ab = 0
      · exact Or.inl ⟨z.1, rfl, z.2⟩
      · right
        rw [hw_ j hj]
        unfold vz
        rw [if_neg z]
    exact ⟨cM_w h5 h4 hb2 hg, okF_b hk hb2⟩
theorem co_of {E : rdE} (hod : E.od = 1) {c : cS} {g : Nat → Int} {i : Nat} {x : tC} (h : tcC E c g i x) (hk : tcK E x) (hs : c.sz ≤ 400) : co_cl c.o c.a g c.ab i (toO x) := by
  obtain ⟨h1, h2, h3, h4, h5⟩ := h
  obtain ⟨⟨k1, k2, k3⟩, -, k4⟩ := hk
  obtain ⟨k5, k6, k7, k8⟩ := k4 hod
  have p1 := co_pc hod (df := -1) h3 k1 hs
  have p2 := co_pc hod (df := -1) h4 k2 hs
  have p3 := co_pc hod (df := 1) h5 k3 hs
  rw [Nat.mul_comm 8 i] at h1 h2 p1 p2 p3
  exact ⟨k5, h1, h2, k6.2, p3.1, p1.1, p2.1, fun z => p1.2 (fun t => by have := k7.mp t; have : x.1 ≤ 3 := z; omega), fun z => p2.2 (fun t => k8.mp t z)⟩
theorem ro_pc {E : rdE} (hod : E.od = 1) {s : rdS} {g : Nat → Int} {p : Nat} {F : fnO} {T : Bool} {df : Int} (h : pcR E s g p F) (hk : okF E.od T F) (hs : s.nc ≤ 400) : roM s.o s.a g p (fD F df) df := by
  cases F with
  | none =>
    obtain ⟨x, h1, h2, h3⟩ := h.1 rfl
    exact ⟨x, x, h1, h2, Nat.le_refl _, by omega, fun v _ => ⟨fun _ => rfl, fun z => by omega⟩⟩
  | some f =>
    obtain ⟨x, y, h1, h2, h3, h5⟩ := h.2 f rfl
    have hlt := rM_lt h5
    refine ⟨x, y, h1, h2, by omega, by omega, fun v hb => ⟨fun z => by omega, fun _ => ?_⟩⟩
    rw [hod] at h5 hk
    exact rM_rl h5 (fun _ _ _ => ⟨rfl, rfl⟩) (show bndE 1 v from hb) (okF_b hk (show bndE 1 v from hb))
theorem ro_of {E : rdE} (hod : E.od = 1) {s : rdS} {g : Nat → Int} {i : Nat} {x : tC} (h : tcR E s g i x) (hk : tcK E x) (hs : s.nc ≤ 400) : ro_cl g s.o s.a i (toO x) := by
  obtain ⟨h1, h2, h3, h4, h5⟩ := h.2 hod
  obtain ⟨⟨k1, k2, k3⟩, -, k4⟩ := hk
  obtain ⟨k5, k6, k7, k8⟩ := k4 hod
  refine ⟨k5, h1, h2, k6.2, ro_pc hod h5 k3 hs, fun v y hb hy => ?_, ro_pc hod h3 k1 hs, ro_pc hod h4 k2 hs⟩
  have hy2 : fD x.2.2.2.2 1 v = some y := hy
  cases hF : x.2.2.2.2 with
  | none => rw [hF] at hy2; have := Option.some.inj hy2; omega
  | some f =>
    rw [hF] at hy2
    rw [hod] at k3
    exact (show fT 1 f from k3 f hF) v y hb hy2
/-- laws: a piece to the class -/
theorem lw_pc {E : rdE} (hod : E.od = 0) {c : cS} {g g2 o2 a2 : Nat → Int} {p q N : Nat} {F : fnO} {T : Bool} (h : pcC E c g p F) (hk : okF E.od T F) (e : ∀ j, j < c.sz → o2 j = c.o j ∧ a2 j = c.a j) (e1 : g2 q = g p) (e2 : g2 (q + 1) = g (p + 1)) (hN : c.sz ≤ N) : ∃ fr to : Nat, g2 q = (fr : Int) ∧ g2 (q + 1) = (to : Int) ∧ fr ≤ to ∧ to ≤ N ∧ ∀ v, px_bnd v → wC o2 a2 v 12 fr to = oI (fD F 1 (clp v)) ∧ ∀ y, fD F 1 (clp v) = some y → -1000000000 ≤ y ∧ y ≤ 1000000001 := by
  cases F with
  | none =>
    obtain ⟨h1, h2⟩ := h.1 rfl
    exact ⟨0, 0, e1.trans h1, e2.trans h2, Nat.le_refl _, by omega, fun v _ => ⟨wC_nil, fun y hy => by have := Option.some.inj hy; omega⟩⟩
  | some f =>
    obtain ⟨x, y, m, h1, h2, h3, h4, h5⟩ := h.2 f rfl
    rw [hod] at h5 hk
    have h6 := cM_fr h5 (o2 := o2) (a2 := a2) (fun j j1 j2 => e j (by omega))
    exact ⟨x, y, e1.trans h1, e2.trans h2, h5.1, by omega, fun v hb => ⟨cM_w h6 h4 (clp_b v) (fun j hj => Or.inr (clp_v hb hj).symm), okF_b hk (clp_b v)⟩⟩
theorem den_of {E : rdE} (hod : E.od = 0) {c : cS} {g g2 o2 a2 : Nat → Int} {i N : Nat} {x : tC} (h : tcC E c g i x) (hk : tcK E x) (e : ∀ j, j < c.sz → o2 j = c.o j ∧ a2 j = c.a j) (eg : ∀ j, j < 8 * i + 8 → g2 j = g j) (hN : c.sz ≤ N) : g2 (i * 8 + 0) = (toL x).1 ∧ (∃ fr to : Nat, g2 (i * 8 + 6) = (fr : Int) ∧ g2 (i * 8 + 6 + 1) = (to : Int) ∧ fr ≤ to ∧ to ≤ N ∧ ∀ v, px_bnd v → wC o2 a2 v 12 fr to = oI ((toL x).2.1 v) ∧ ∀ y, (toL x).2.1 v = some y → -1000000000 ≤ y ∧ y ≤ 1000000001) ∧ (∃ fr to : Nat, g2 (i * 8 + 2) = (fr : Int) ∧ g2 (i * 8 + 2 + 1) = (to : Int) ∧ fr ≤ to ∧ to ≤ N ∧ ∀ v, px_bnd v → wC o2 a2 v 12 fr to = oI ((toL x).2.2 v) ∧ ∀ y, (toL x).2.2 v = some y → -1000000000 ≤ y ∧ y ≤ 1000000001) := by
  obtain ⟨h1, h2, h3, h4, h5⟩ := h
  obtain ⟨⟨k1, k2, k3⟩, -, -⟩ := hk
  rw [Nat.mul_comm i 8]
  exact ⟨(eg _ (by omega)).trans h1, lw_pc hod h5 k3 e (eg _ (by omega)) (eg _ (by omega)) hN, lw_pc hod h3 k1 e (eg _ (by omega)) (eg _ (by omega)) hN⟩
theorem lf_clp {v : Nat → Int} (h : px_bnd v) : lfE 0 (clp v) = lfL2 v := by
  funext op arg
  show lfL2 (clp v) op arg = lfL2 v op arg
  unfold lfL2
  by_cases h0 : op = 0
  · rw [if_pos h0, if_pos h0]
  · rw [if_neg h0, if_neg h0]
    by_cases h1 : 1 ≤ op ∧ op ≤ 12
    · rw [if_pos h1, if_pos h1, clp_v h (by omega)]
    · rw [if_neg h1, if_neg h1]
theorem rl_of {E : rdE} (hod : E.od = 0) {s : rdS} {g G : Nat → Int} {i lb : Nat} {x : tC} (h : tcR E s g i x) (hk : tcK E x) (hs : s.nc ≤ 400) (em : ∀ j, j < 8 → G (2 + 8 * i + j + lb) = g (8 * i + j)) (eo : ∀ k, k < s.nc → G (98 + 2 * k + lb) = s.o k ∧ G (99 + 2 * k + lb) = s.a k) : rl_cl G lb i (toL x) := by
  obtain ⟨h1, h2, h3⟩ := h.1 hod
  obtain ⟨⟨k1, k2, k3⟩, k4, -⟩ := hk
  obtain ⟨k5, k6⟩ := k4 hod
  have pc : ∀ (p q : Nat) (F : fnO) (T : Bool), pcR E s g p F → okF E.od T F → G q = g p → G (q + 1) = g (p + 1) → ∃ a b : Nat, G q = ((a : Nat) : Int) ∧ G (q + 1) = ((b : Nat) : Int) ∧ a ≤ b ∧ b ≤ 400 ∧ ∀ v, px_bnd v → (a = b → F = none) ∧ (F ≠ none → rlM (fun k => G (98 + 2 * k + lb)) (fun k => G (99 + 2 * k + lb)) (lfL2 v) a b (fD F 1 (clp v))) ∧ (a < b → F ≠ none) := by
    intro p q F T hp hK e1 e2
    cases F with
    | none =>
      obtain ⟨a, a1, a2, a3⟩ := hp.1 rfl
      exact ⟨a, a, e1.trans a1, e2.trans a2, Nat.le_refl _, by omega, fun v _ => ⟨fun _ => rfl, fun z => absurd rfl z, fun z => by omega⟩⟩
    | some f =>
      obtain ⟨a, b, a1, a2, a3, a4⟩ := hp.2 f rfl
      have hlt := rM_lt a4
      refine ⟨a, b, e1.trans a1, e2.trans a2, by omega, by omega, fun v hb => ⟨fun z => by omega, fun _ => ?_, fun _ z => by cases z⟩⟩
      rw [hod] at a4 hK
      rw [← lf_clp hb]
      exact rM_rl a4 (fun j j1 j2 => eo j (by omega)) (clp_b v) (okF_b hK (clp_b v))
  have m0 := em 0 (by omega)
  have m3 := em 3 (by omega)
  have m4 := em 4 (by omega)
  have m5 := em 5 (by omega)
  have m6 := em 6 (by omega)
  obtain ⟨a, b, a1, a2, a3, a4, a5⟩ := pc (8 * i + 5) (7 + 8 * i + lb) x.2.2.2.2 true h3 k3 (by rw [← m5]; congr 1; omega) (by rw [show 8 * i + 5 + 1 = 8 * i + 6 by omega, ← m6]; congr 1; omega)
  obtain ⟨a', b', c1, c2, c3, c4, c5⟩ := pc (8 * i + 3) (5 + 8 * i + lb) x.2.2.1 false h2 k1 (by rw [← m3]; congr 1; omega) (by rw [show 8 * i + 3 + 1 = 8 * i + 4 by omega, ← m4]; congr 1; omega)
  refine ⟨(by rw [show (toL x).1 = x.1 from rfl, ← h1]; exact m0), k5, ⟨a, b, a1, by rw [← a2]; congr 1; omega, a3, a4, fun v hb => ⟨fun y hy => ?_, fun z => ?_, fun z => (a5 v hb).2.1 ((a5 v hb).2.2 z)⟩⟩, ⟨a', b', c1, by rw [← c2]; congr 1; omega, c3, c4, fun v hb => ⟨fun z => ?_, fun z => (c5 v hb).2.1 (fun t => z (k6.mp t))⟩⟩⟩
  · have hy2 : fD x.2.2.2.2 1 (clp v) = some y := hy
    cases hF : x.2.2.2.2 with
    | none => rw [hF] at hy2; have := Option.some.inj hy2; omega
    | some f =>
      rw [hF] at hy2
      rw [hod] at k3
      exact (show fT 0 f from k3 f hF) (clp v) y (clp_b v) hy2
  · show fD x.2.2.2.2 1 (clp v) = some 1
    rw [(a5 v hb).1 z]; rfl
  · show fD x.2.2.1 1 (clp v) = some 1
    rw [k6.mpr z]; rfl
