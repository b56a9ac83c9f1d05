/-! THE CLAIM OUT OF ONE WALK OF THE LAW'S BODY. Your part is whole_start (and what it stands on); all else here is the same for every law, but numbers. -/
def R_law : String := "SermonPanesLaw"
def lw_P (b : Addr) (xs : List Int32) (args : Array Value) (s : State) : Prop := args = #[.ref b] ∧ s.IntsAt b xs ∧ xs.length ≤ 3072 ∧ (Jvm.Cond.and given_1 narrow_1).before args s = true
def lw_Q (_ : Array Value) (s : State) (o : Outcome) (t : State) : Prop := o = .returned (some (.int 1)) ∧ Framed s o t [] 600000 7302250
def lw_Z (below : List Frame) (a : Array Value) (s : State) : State → Prop := fun t => ∃ o, t.status = .running ∧ Ended t below o ∧ lw_Q a s o t
/-- the law's own end, with 1 on the stack, nothing written that was there before, its room as the claim has it -/
theorem lw_ret {p : Program} {l : Launch} {e : Env} {s : State} {m : MethodId} {below : List Frame} {meth : Method} {c : Code} {b : Nat} (hx : p.tables.exec = Jvm.exec) (hb : c.code = code) (hr : meth.sig.returnType = ret) (hlocks : meth.locks = false) {pc : Nat} {H : Heap} {ls : Array Slot} (hdg : decode code pc = .ok (.ireturn, 1)) : W p l e room_1 s m #[Value.ref b] below meth c H [] 600000 7302250 (lw_Z below #[Value.ref b] s) (F0 m pc ls [.int 1]) := by
  intro T hT X
  obtain ⟨fs, hret, hrun, hended, hW, hframe⟩ := X.leave (v := some (.int 1)) (hlocks := hlocks) (fun h => by rw [hr] at h; cases h)
  have hmeth' : T.vm.method? m = some meth := X.method'
  refine ⟨T.setFrames fs, ?_, .returned (some (.int 1)), hrun, hended, rfl, ⟨_, rfl⟩, hW, hframe⟩
  jvm_step X.here [X.here.top, hx, hb, hdg, hmeth', hr, ret, narrow_b1]
  (try refine ⟨rfl, ?_⟩); (try refine ⟨rfl, ?_⟩)
  first | (intro acts; rw [hret _ acts rfl rfl rfl]) | rw [hret _ _ rfl rfl rfl]
  exact Steps.refl _
/-- what holds at the law's entry: the machine, the code, the tables' words (any of lw_tbl by 'hts w (by decide +kernel)'), the script of L ints xs at the cell b, what the Statement gives of the start (any of its parts by flat_of_before) -/
def lw_At (p : Program) (s : State) (m : MethodId) (meth : Method) (c : Code) (b L : Nat) (xs : Nat → Int32) : Prop :=
  p.tables.exec = Jvm.exec ∧ c.code = code ∧ meth.sig.returnType = ret ∧ c.maxLocals = 4 ∧ s.vm.findClass R_law = some m.cls ∧ (∀ w ∈ lw_tbl, w.before #[Value.ref b] s = true) ∧ va_X b L xs s s.heap ∧ b < s.heap.size ∧ meth.locks = false ∧ (Jvm.Cond.and given_1 narrow_1).before #[Value.ref b] s = true
/-! the start: what the Statement gives -/
def px_fl : List Cond := flatC narrow_1
def px_tm (i : Nat) : Term := .string "SermonPanes$Reader" (((px_stb[i]?).map (fun q => q.2.1)).getD 0)
def px_tf (i : Nat) (f d : String) : Term := .field (px_tm i) "java/lang/String" f d
def px_pEx : List Nat := [37, 68, 96, 153, 222, 233, 244, 256, 269, 286, 301, 318, 336, 355]
def px_pCo : List Nat := [38, 69, 97, 154, 223, 234, 245, 257, 270, 287, 302, 319, 337, 356]
def px_pAr : List Nat := [39, 70, 98, 155, 224, 235, 246, 258, 271, 288, 303, 320, 338, 357]
def px_pLe : List Nat := [40, 71, 99, 156, 225, 236, 247, 259, 272, 289, 304, 321, 339, 358]
def px_pEl : List (List Nat) := [[41, 42, 43, 44, 45, 46, 47, 48, 49, 50, 51, 52, 53, 54, 55, 56, 57, 58, 59, 60, 61, 62, 63, 64, 65, 66, 67], [72, 73, 74, 75, 76, 77, 78, 79, 80, 81, 82, 83, 84, 85, 86, 87, 88, 89, 90, 91, 92, 93, 94], [100, 101, 102, 103, 104, 105, 106, 107, 108, 109, 110, 111, 112, 113, 114, 115, 116, 117, 118, 119, 120, 121, 122, 123, 124, 125, 126, 127, 128, 129, 130, 131, 132, 133, 134, 135, 136, 137, 138, 139, 140, 141, 142, 143, 144, 145, 146, 147, 148, 149, 150], [157, 158, 159, 160, 161, 162, 163, 164, 165, 166, 167, 168, 169, 170, 171, 172, 173, 174, 175, 176, 177, 178, 179, 180, 181, 182, 183, 184, 185, 186, 187, 188, 189, 190, 191, 192, 193, 194, 195, 196, 197, 198, 199, 200, 201, 202, 203, 204, 205, 206, 207, 208, 209, 210, 211, 212, 213, 214, 215, 216, 217, 218], [226, 227, 228], [237, 238], [248, 249], [260, 261], [273, 274, 275, 276, 277], [290, 291], [305, 306, 307], [322, 323, 324], [340, 341, 342], [359, 360]]
def px_pNe : List (List Nat) := [[0, 95, 151, 219, 229, 239, 250, 262, 278, 292, 308, 325, 343, 361], [0, 0, 152, 220, 230, 240, 251, 263, 279, 293, 309, 326, 344, 362], [0, 0, 0, 221, 231, 241, 252, 264, 280, 294, 310, 327, 345, 363], [0, 0, 0, 0, 232, 242, 253, 265, 281, 295, 311, 328, 346, 364], [0, 0, 0, 0, 0, 243, 254, 266, 282, 296, 312, 329, 347, 365], [0, 0, 0, 0, 0, 0, 255, 267, 283, 297, 313, 330, 348, 366], [0, 0, 0, 0, 0, 0, 0, 268, 284, 298, 314, 331, 349, 367], [0, 0, 0, 0, 0, 0, 0, 0, 285, 299, 315, 332, 350, 368], [0, 0, 0, 0, 0, 0, 0, 0, 0, 300, 316, 333, 351, 369], [0, 0, 0, 0, 0, 0, 0, 0, 0, 0, 317, 334, 352, 370], [0, 0, 0, 0, 0, 0, 0, 0, 0, 0, 0, 335, 353, 371], [0, 0, 0, 0, 0, 0, 0, 0, 0, 0, 0, 0, 354, 372], [0, 0, 0, 0, 0, 0, 0, 0, 0, 0, 0, 0, 0, 373], [0, 0, 0, 0, 0, 0, 0, 0, 0, 0, 0, 0, 0, 0]]
set_option maxRecDepth 100000 in
theorem px_k1 : (List.range 14).all (fun i => decide (px_fl[px_pEx.getD i 0]? = some (.exactly (px_tm i) "java/lang/String")) && decide (px_fl[px_pCo.getD i 0]? = some (.eq (px_tf i "coder" "B") (.int 0))) && decide (px_fl[px_pAr.getD i 0]? = some (.arrayOf (px_tf i "value" "[B") .byte)) && decide (px_fl[px_pLe.getD i 0]? = some (.eq (.length (px_tf i "value" "[B")) (.int (Int32.ofNat (px_len.getD i 0))))) && decide (px_len.getD i 0 < 100)) = true := by decide +kernel
set_option maxRecDepth 100000 in
theorem px_k2 : (List.range 14).all (fun i => (List.range (px_len.getD i 0)).all (fun j => decide (px_fl[(px_pEl.getD i []).getD j 0]? = some (.eq (.elem (px_tf i "value" "[B") (.int (Int32.ofNat j))) (.int ((px_byt.getD i []).getD j 0)))))) = true := by decide +kernel
set_option maxRecDepth 100000 in
theorem px_k3 : (List.range 14).all (fun i => (List.range i).all (fun j => decide (px_fl[(px_pNe.getD j []).getD i 0]? = some (.not (.eq (px_tm j) (px_tm i)))))) = true := by decide +kernel

theorem px_start {p : Program} {s : State} {m : MethodId} {meth : Method} {c : Code} {b L : Nat} {xs : Nat → Int32} (hL : L ≤ 3072) (C0 : lw_At p s m meth c b L xs) : ∃ (adK adV : Nat → Nat) (fm : Value) (D : va_G) (cA : Nat → ClassId), px_St s.heap.size b L (fun j => (xs j).toInt) adK adV fm D cA s s.heap := by
  obtain ⟨hx, hb, hr, hml, hown, hts, hX, hbl, hlocks, hgv⟩ := C0
  have htb : ∀ w ∈ tables_1, w.before #[Value.ref b] s = true := fun w hw => hts w (List.mem_append_right _ hw)
  have hgw : ∀ w ∈ px_gw, w.before #[Value.ref b] s = true := fun w hw => hts w (List.mem_filter.mp hw).1
  have hnar : narrow_1.before #[Value.ref b] s = true := by
    rw [Cond.before_and, Bool.and_eq_true] at hgv
    exact hgv.2
  have hfl : ∀ w ∈ px_fl, w.before #[Value.ref b] s = true := flat_of_before _ hnar
  have hA : ∀ a : Nat, a < s.heap.size → ¬ (fun q => s.heap.size ≤ q) a := fun a ha => Nat.not_le.mpr ha
  -- texts
  have t1 : ∀ i, i < 14 → _ := fun i hi => List.all_eq_true.mp px_k1 i (List.mem_range.mpr hi)
  simp only [Bool.and_eq_true, decide_eq_true_eq] at t1
  obtain ⟨adK, adV, hS, hev⟩ := vk_Sof (args := #[Value.ref b]) (s := s) (N := 14) (tm := px_tm) (len := px_len) (byt := px_byt) (A := fun q => s.heap.size ≤ q)
    (fun i hi => by have := (t1 i hi).2; omega) (fun i hi => hfl _ (List.mem_of_getElem? (t1 i hi).1.1.1.1)) (fun i hi => hfl _ (List.mem_of_getElem? (t1 i hi).1.1.1.2)) (fun i hi => hfl _ (List.mem_of_getElem? (t1 i hi).1.1.2)) (fun i hi => hfl _ (List.mem_of_getElem? (t1 i hi).1.2))
    (fun i hi j hj => hfl _ (List.mem_of_getElem? (of_decide_eq_true (List.all_eq_true.mp (List.all_eq_true.mp px_k2 i (List.mem_range.mpr hi)) j (List.mem_range.mpr hj)))))
    (fun i j hi hj hij => by
      rcases Nat.lt_or_gt_of_ne hij with h | h
      · exact Or.inl (hfl _ (List.mem_of_getElem? (of_decide_eq_true (List.all_eq_true.mp (List.all_eq_true.mp px_k3 j (List.mem_range.mpr hj)) i (List.mem_range.mpr h)))))
      · exact Or.inr (hfl _ (List.mem_of_getElem? (of_decide_eq_true (List.all_eq_true.mp (List.all_eq_true.mp px_k3 i (List.mem_range.mpr hi)) j (List.mem_range.mpr h)))))) hA
  -- statics
  have z1 : va_Z "java/lang/String" "COMPACT_STRINGS" "Z" (.int 1) (fun q => s.heap.size ≤ q) s s.heap := va_Zof (htb _ (List.mem_of_getElem? (i := 644) (by decide +kernel))) (htb _ (List.mem_of_getElem? (i := 14) (by decide +kernel))) (va_eqi (hfl _ (List.mem_of_getElem? (i := 2) (by decide +kernel)))) hA
  have z2 : va_Zq "jdk/internal/util/Preconditions" "SIOOBE_FORMATTER" "Ljava/util/function/BiFunction;" (fun q => s.heap.size ≤ q) s s.heap := va_Zqof (htb _ (List.mem_of_getElem? (i := 660) (by decide +kernel))) (htb _ (List.mem_of_getElem? (i := 16) (by decide +kernel))) (hfl _ (List.mem_of_getElem? (i := 3) (by decide +kernel))) hA
  obtain ⟨fm, z3, z4, z5⟩ : ∃ fm, va_Z "jdk/internal/util/Preconditions" "SIOOBE_FORMATTER" "Ljava/util/function/BiFunction;" fm (fun q => s.heap.size ≤ q) s s.heap ∧ (fm = .null ∨ ∃ a, fm = .ref a) ∧ fm.category = 1 := by
    rcases z2 with h | ⟨t, h⟩
    · exact ⟨_, h, Or.inl rfl, rfl⟩
    · exact ⟨_, h, Or.inr ⟨_, rfl⟩, rfl⟩
  -- classes
  have hcl : ∀ ci : Nat, ∃ q : ClassId × (Nat → Nat), ci < 10 → u_Kn s (px_C ci).1 (px_C ci).2.1 (px_C ci).2.2 q.1 q.2 := by
    intro ci
    by_cases hci : ci < 10
    · obtain ⟨c1, -, c3, -⟩ := px_cl_at hci
      obtain ⟨cC, iS, hk⟩ := u_known hgw c1 (hgw _ c3)
      exact ⟨(cC, iS), fun _ => hk⟩
    · exact ⟨(0, fun _ => 0), fun h => absurd h hci⟩
  have a1 : va_AO "SermonPanes$Text" s := va_AO.of (htb (.arrayOver (.object "SermonPanes$Text")) (List.mem_of_getElem? (i := 85) (by decide +kernel)))
  have a2 : va_AO "SermonPanes$Nave" s := va_AO.of (htb (.arrayOver (.object "SermonPanes$Nave")) (List.mem_of_getElem? (i := 162) (by decide +kernel)))
  have a3 : va_AO "SermonPanes$Church" s := va_AO.of (htb (.arrayOver (.object "SermonPanes$Church")) (List.mem_of_getElem? (i := 154) (by decide +kernel)))
  have prim : ∀ ty : FieldType, (Cond.arrayClass ty).before #[Value.ref b] s = true → ∃ cX, ArrOfT s cX ty ∧ s.vm.findClass ("[" ++ ty.toString) = some cX := by
    intro ty h
    obtain ⟨cX, kX, comp, h1, h2, h3⟩ := Cond.arrayClass_spec h
    exact ⟨cX, fun n z => ⟨fun k h => (by cases h), kX, h2, comp, h3⟩, h1⟩
  have obj : ∀ C : String, va_AO C s → ∃ cX, ArrOfT s cX (.object C) ∧ va_RA s cX (.object C) := by
    intro C h
    obtain ⟨comp, cX, k, h1, h2, h3, h4, h5⟩ := Cond.arrayOver_spec h
    exact ⟨cX, fun n z => ⟨fun k h => (by cases h), k, h3, comp, h4⟩, k, comp, h3, h4, h1, h5⟩
  obtain ⟨c0, p0, q0⟩ := prim .int (htb _ (List.mem_of_getElem? (i := 37) (by decide +kernel)))
  obtain ⟨c1, p1, q1⟩ := prim .boolean (htb _ (List.mem_of_getElem? (i := 178) (by decide +kernel)))
  obtain ⟨c2, p2, q2⟩ := prim .long (htb _ (List.mem_of_getElem? (i := 287) (by decide +kernel)))
  obtain ⟨c3, p3, q3⟩ := obj _ a1
  obtain ⟨c4, p4, q4⟩ := obj _ a2
  obtain ⟨c5, p5, q5⟩ := obj _ a3
  refine ⟨adK, adV, fm, (fun ci => (Classical.choose (hcl ci)).1, fun ci => (Classical.choose (hcl ci)).2), fun i => [c0, c1, c2, c3, c4, c5].getD i 0, ⟨fun ci q hq => ?_, fun k q hq => ?_⟩, fun w hw => ?_, fun t q hq => ?_, hS, ?_, hbl, Nat.le_refl _, z1, z3, z4, z5, a1, a2, a3, by omega⟩
  · have hci : ci < 10 := (List.getElem?_eq_some_iff.mp hq).1
    have hz := Classical.choose_spec (hcl ci) hci
    have : q = px_C ci := Option.some.inj (hq.symm.trans (px_C_at hci))
    subst this
    exact hz
  · have hk : k < 6 := (List.getElem?_eq_some_iff.mp hq).1
    match k, hk, hq with
    | 0, _, hq => cases hq; exact ⟨p0, q0⟩
    | 1, _, hq => cases hq; exact ⟨p1, q1⟩
    | 2, _, hq => cases hq; exact ⟨p2, q2⟩
    | 3, _, hq => cases hq; exact ⟨p3, q3⟩
    | 4, _, hq => cases hq; exact ⟨p4, q4⟩
    | 5, _, hq => cases hq; exact ⟨p5, q5⟩
  · obtain ⟨a, i, x, y, rfl⟩ := px_nw_nest hw
    exact va_Nw.of rfl (htb _ (List.mem_filter.mp hw).1)
  · have ht : t < 14 := (List.getElem?_eq_some_iff.mp hq).1
    have h1 := List.all_eq_true.mp px_stb_ok q (List.mem_of_getElem? hq)
    have h2 := hev t ht
    have h3 : px_cn q.1 = "SermonPanes$Reader" := by
      have : px_stb.all (fun q => decide (px_cn q.1 = "SermonPanes$Reader")) = true := by decide +kernel
      exact of_decide_eq_true (List.all_eq_true.mp this q (List.mem_of_getElem? hq))
    refine vk_R.of (htb _ (List.mem_of_getElem? (of_decide_eq_true h1))) ?_
    have h4 : px_tm t = .string (px_cn q.1) q.2.1 := by unfold px_tm; rw [hq, h3]; rfl
    rw [← h4]
    exact h2
  · have : (fun j => iI ((xs j).toInt)) = xs := funext fun j => px_iI_toInt _
    rw [this]
    exact hX

/-- THE CLAIM OUT OF A PURE RUN -/
theorem px_whole {p : Program} {e : Env} {s : State} {m : MethodId} {below : List Frame} {meth : Method} {c : Code} (l : Launch) {b L : Nat} {xs : Nat → Int32} (hL : L ≤ 3072) (C0 : lw_At p s m meth c b L xs)
    (hp : ∃ (n d : Nat) (h2 : px_H), d ≤ 1300 ∧ px_run (fun j => (xs j).toInt) L (px_ev (fun j => (xs j).toInt) L n d) 0 n (0, px_ent [.retAddr 0] 4, [], ([], fun _ _ => 0)) = some (some (.int 1), h2) ∧ h2.1.length ≤ 600000 ∧ px_sl h2 ≤ 7302250) :
    W p l e room_1 s m #[Value.ref b] below meth c s.heap [] 0 0 (lw_Z below #[Value.ref b] s) (entryFrame m ([Value.ref b] : List Value).toArray 4) := by
  obtain ⟨adK, adV, fm, D, cA, hSt⟩ := px_start hL C0
  obtain ⟨hx, hb, hr, hml, hown, hts, hX, hbl, hlocks, hgv⟩ := id C0
  obtain ⟨n, d, h2, hd, hrun, hb1, hb2⟩ := hp
  have hgw : ∀ w ∈ px_gw, w.before #[Value.ref b] s = true := fun w hw => hts w (List.mem_filter.mp hw).1
  have hfm : fm.category = 1 := hSt.2.2.2.2.2.2.2.2.2.2.1
  have F : px_Fr 0 s.heap.size b L (fun j => (xs j).toInt) adK adV fm D cA p s m #[Value.ref b] meth c := ⟨hx, hb, hml, hown, hgw, fun h => absurd h (by decide +kernel), hr, hlocks, Nat.le_refl _, hSt⟩
  have hle : ∀ t as h r h2, px_ev (fun j => (xs j).toInt) L n d t as h = some (r, h2) → px_le h h2 := fun t as h r h2 => px_ev_le d t as h r h2
  have hG := px_sim_run (l := l) (e := e) (R := room_1) (below := below) (sl0 := 0) (Q := lw_Z below #[Value.ref b] s) F (fun t as h r h2 => px_met hfm d t as h r h2) (by show d + 1 ≤ 2048; omega) (by show 60 * (d + 1) ≤ 84000; omega) (rr := some (.int 1)) (hh := h2)
    ⟨by show s.heap.size + h2.1.length ≤ s.heap.size + 600000; omega, by show px_sl h2 ≤ 0 + 7302250; omega⟩
    (fun pc ls st h' ins len hdd hxx => by
      rcases px_exec_le hle hxx with ⟨S3, h3, -⟩ | ⟨h3, r, h4⟩
      · cases h3
      · cases h4
        cases ins <;> simp only [px_isR] at h3 <;> first | (cases h3; done) | skip
        all_goals simp only [px_exec] at hxx
        · repeat' first | (cases hxx; done) | split at hxx
        · split at hxx
          · rename_i hlen
            subst hlen
            split at hxx
            · rename_i x
              split at hxx
              · cases hxx
                intro H locs cells slots ml hR hS hl hc hs
                refine va_forget (fun q hq => hS.2.2 q hq) ?_
                have hc : s.heap.size + cells = s.heap.size + h2.1.length := hc
                have hs : px_sl h2 = 0 + slots := hs
                exact W.widen (k := 600000) (n := 7302250) (by omega) (by omega) (lw_ret hx hb hr hlocks hdd)
              · cases hxx
            · cases hxx
          · cases hxx
        all_goals repeat' first | (cases hxx; done) | split at hxx) n (0, px_ent [.retAddr 0] 4, [], ([], fun _ _ => 0)) hrun
  rw [lg_entry_eq]
  have hR0 : px_Rep s.heap.size cA D ([], fun _ _ => 0) s.heap := ⟨fun k q hq => by simp [px_ws] at hq, ⟨fun i j p q hi => by simp [px_ws] at hi, fun k q hq => by simp [px_ws] at hq⟩, by unfold px_wf; intro a kd n e; simp at e⟩
  have hlv := px_ent_LV (φ := px_phi s.heap.size b adK adV fm) (px_phi_cat hfm) (as := [.retAddr 0]) (n := 4) (by decide)
  exact hG s.heap [] 0 0 _ hR0 va_S.rf hlv rfl rfl
