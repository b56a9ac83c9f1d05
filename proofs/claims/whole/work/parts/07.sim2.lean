/-! instructions that read or write cells -/
theorem px_up_cl (M : Nat → Nat → Int) (a j : Nat) (x : Int) : px_up M a j x = px_cl M a (fun i => if i = j then x else M a i) := by
  funext a' j'
  unfold px_up px_cl
  by_cases h : a' = a
  · subst h; simp
  · simp [h]
theorem px_iI_toInt (z : Int32) : iI z.toInt = z := by unfold iI; exact Int32.ofInt_toInt z
theorem px_lI_toInt (z : Int64) : lI z.toInt = z := by unfold lI; exact Int64.ofInt_toInt z
theorem px_iI_nat (n : Nat) : Int32.ofNat n = iI (n : Int) := by unfold iI; rw [Int32.ofInt_eq_ofNat]
theorem px_fs_at {B kd n j : Nat} {f : Nat → Int} (hj : j < n) : ((List.range n).map (fun j => px_dV B (px_ty kd j) (f j)))[j]? = some (px_dV B (px_ty kd j) (f j)) := by
  rw [List.getElem?_map, List.getElem?_range hj]; rfl
theorem px_fs_set {B kd n j : Nat} {f : Nat → Int} {x : Int} : (List.range n).map (fun i => px_dV B (px_ty kd i) (if i = j then x else f i)) = ((List.range n).map (fun i => px_dV B (px_ty kd i) (f i))).set j (px_dV B (px_ty kd j) x) := by
  apply List.ext_getElem?
  intro i
  by_cases hi : i < n
  · by_cases hij : i = j
    · subst hij
      rw [List.getElem?_set_self (by simp; exact hi), List.getElem?_map, List.getElem?_range hi]
      simp
    · rw [List.getElem?_set_ne (fun q => hij q.symm), List.getElem?_map, List.getElem?_map, List.getElem?_range hi]
      simp [hij]
  · rw [List.getElem?_eq_none (by simp; omega), List.getElem?_eq_none (by simp; omega)]
theorem px_E_obj {B : Nat} {cA : Nat → ClassId} {kd n : Nat} {f : Nat → Int} (h : kd < 10) : px_E B cA kd n f = .inr (kd, (List.range n).map (fun j => px_dV B (px_ty kd j) (f j))) := by unfold px_E; rw [if_pos h]
theorem px_E_int {B : Nat} {cA : Nat → ClassId} {n : Nat} {f : Nat → Int} : px_E B cA 10 n f = .inl (cA 0, n, .inl (fun j => iI (f j))) := rfl
theorem px_E_bool {B : Nat} {cA : Nat → ClassId} {n : Nat} {f : Nat → Int} : px_E B cA 11 n f = .inl (cA 1, n, .inl (fun j => iI (f j))) := rfl
theorem px_E_long {B : Nat} {cA : Nat → ClassId} {n : Nat} {f : Nat → Int} : px_E B cA 12 n f = .inl (cA 2, n, .inr (.inl (fun j => lI (f j)))) := rfl
theorem px_E_ref {B : Nat} {cA : Nat → ClassId} {kd n : Nat} {f : Nat → Int} (h1 : 13 ≤ kd) : px_E B cA kd n f = .inl (cA (kd - 10), n, .inr (.inr (.inr (.inr (fun j => if f j < 0 then none else some (B + (f j).toNat)))))) := by
  unfold px_E
  rw [if_neg (by omega), if_neg (by omega), if_neg (by omega)]
theorem px_enc_fit {B b : Nat} {adK adV : Nat → Nat} {fm : Value} {t : Nat} {ty : FieldType} {v : Value} {x : Int} (h : px_fty t ty = true) (he : px_enc t v = some x) : narrow ty (px_phi B b adK adV fm v) = px_phi B b adK adV fm v ∧ fits ty (px_phi B b adK adV fm v) = true ∧ px_dV B t x = px_phi B b adK adV fm v := by
  unfold px_enc at he
  split at he
  · rename_i z
    split at he
    · rename_i h0
      subst h0
      cases he
      cases ty <;> simp [px_fty] at h
      refine ⟨rfl, rfl, ?_⟩
      unfold px_dV
      simp only [show ¬ (0 : Nat) = 1 by decide, show ¬ (0 : Nat) = 2 by decide, if_false, px_iI_toInt]
      rfl
    · split at he
      · rename_i h0
        subst h0
        split at he
        · rename_i hz
          cases he
          cases ty <;> simp [px_fty] at h
          refine ⟨?_, ?_, ?_⟩
          · show Value.int (z &&& 1) = .int z
            rcases hz with rfl | rfl <;> rfl
          · show (z == 0 || z == 1) = true
            rcases hz with rfl | rfl <;> rfl
          · unfold px_dV
            simp only [show ¬ (3 : Nat) = 1 by decide, show ¬ (3 : Nat) = 2 by decide, if_false, px_iI_toInt]
            rfl
        · cases he
      · cases he
  · rename_i z
    split at he
    · rename_i h0
      subst h0
      cases he
      cases ty <;> simp [px_fty] at h
      refine ⟨rfl, rfl, ?_⟩
      unfold px_dV
      simp only [if_true, px_lI_toInt]
      rfl
    · cases he
  · split at he
    · rename_i h0
      subst h0
      cases he
      cases ty <;> simp [px_fty] at h <;> exact ⟨rfl, rfl, rfl⟩
    · cases he
  · rename_i a
    split at he
    · rename_i h0
      subst h0
      cases he
      have e3 : px_dV B 2 ((a : Nat) : Int) = .ref (B + a) := by
        unfold px_dV
        rw [if_neg (by decide), if_pos rfl, if_neg (by omega)]
        rfl
      cases ty <;> simp [px_fty] at h <;> exact ⟨rfl, rfl, e3⟩
    · cases he
  · cases he
section PXB
variable {p : Program} {l : Launch} {e : Env} {R : Room} {s : State} {m : MethodId} {args : Array Value} {below : List Frame} {meth : Method} {c : Code} {Q : State → Prop}
variable {B b L : Nat} {xs : Nat → Int} {adK adV : Nat → Nat} {fm : Value} {D : va_G} {cA : Nat → ClassId} {sl0 : Nat}
variable {cf : Nat → List Value → px_H → Option (Option Value × px_H)} {k len pc : Nat} {ls st : List Value} {h : px_H} {S2 : px_S}
/-- behind a store into a cell -/
theorem px_Rep_set {H1 : Heap} {a kd n : Nat} {f : Nat → Int} (hw : px_wf h) (e : h.1[a]? = some (kd, n)) {E : va_E} (hE : px_E B cA kd n f = E) (h1 : va_P D vwCl ((px_ws B cA h).set a (B + a, E)) H1) (h2 : va_D (fun q => B ≤ q) ((px_ws B cA h).set a (B + a, E))) : px_Rep B cA D (h.1, px_cl h.2 a f) H1 := by
  subst hE
  rw [px_ws_set e] at h1 h2
  exact ⟨h1, h2, hw⟩

theorem px_s_getfield (F : px_Fr k B b L xs adK adV fm D cA p s m args meth c) {v : Nat} (hd : decode (px_code k) pc = .ok (.getfield v, len)) (he : px_exec xs L cf k (.getfield v) len pc ls st h = some (.inl S2)) (G : px_G p l e R s m args below meth c Q B b adK adV fm D cA sl0 (px_maxL k) S2) : px_G p l e R s m args below meth c Q B b adK adV fm D cA sl0 (px_maxL k) (pc, ls, st, h) := by
  simp only [px_exec] at he
  split at he
  · rename_i hlen
    subst hlen
    unfold px_getf at he
    split at he
    · rename_i a r
      split at he
      · rename_i ci j kd n hf ha
        split at he
        · rename_i hq
          obtain ⟨rfl, hj⟩ := hq
          obtain rfl := px_inl he
          obtain ⟨f1, f2, f3⟩ := px_fr_ok hf
          intro H locs cells slots ml hR hS hl hc hs
          have hg := G H locs cells slots ml hR hS hl hc hs
          have hw := px_ws_at (B := B) (cA := cA) ha
          rw [px_E_obj f3] at hw
          simp only [List.map_cons, px_phi_dec] at hg
          exact va_get F.1 F.2.1 F.2.2.2.2.1 (px_cl_at f3).1 F.2.2.2.1 F.2.2.2.2.2.2.2.2.2.1 hR.1 a hw (px_C_at f3) j f2 (F.2.2.2.2.1 _ f1) (fun _ h9 => h9) (px_fs_at hj) hd hg
        · cases he
      · cases he
    · rename_i bb r
      split at he
      · rename_i hq
        obtain ⟨ho, hb1, hb2⟩ := hq
        obtain ⟨t, rfl⟩ : ∃ t, bb = t + 1 := ⟨bb - 1, by omega⟩
        have hE := F.2.2.2.2.2.2.2.2.2.2.2.2.1.1 t (by omega)
        have e1 : px_phi B b adK adV fm (.retAddr (t + 1)) = .ref (adK t) := by
          show px_ra b adK adV fm (t + 1) = _
          unfold px_ra
          rw [if_neg (by omega), if_pos (by omega)]
          rfl
        have hown : s.vm.findClass "java/lang/String" = some m.cls := by have h0 := F.2.2.2.1; rw [ho] at h0; exact h0
        split at he
        · rename_i h9
          subst h9
          obtain rfl := px_inl he
          intro H locs cells slots ml hR hS hl hc hs
          have hg := G H locs cells slots ml hR hS hl hc hs
          have e2 : px_phi B b adK adV fm (.retAddr (99 + (t + 1))) = .ref (adV t) := by
            show px_ra b adK adV fm (99 + (t + 1)) = _
            unfold px_ra
            rw [if_neg (by omega), if_neg (by omega), if_pos (by omega), show 99 + (t + 1) - 100 = t by omega]
          simp only [List.map_cons, e2] at hg
          simp only [List.map_cons, e1]
          exact vk_getf F.1 F.2.1 hE.2.2.1 hS hown (F.2.2.2.2.1 _ (px_gw_at (i := 1940) (w := .fieldLink "java/lang/String" 9 "java/lang/String" "value" "[B") (by decide +kernel) rfl)) (fun _ h9 => h9) hd hg
        · split at he
          · rename_i h9
            subst h9
            obtain rfl := px_inl he
            intro H locs cells slots ml hR hS hl hc hs
            have hg := G H locs cells slots ml hR hS hl hc hs
            simp only [List.map_cons, e1]
            exact vk_getf F.1 F.2.1 hE.2.1 hS hown (F.2.2.2.2.1 _ (px_gw_at (i := 1941) (w := .fieldLink "java/lang/String" 15 "java/lang/String" "coder" "B") (by decide +kernel) rfl)) (fun _ h9 => h9) hd hg
          · cases he
      · cases he
    · cases he
  · cases he

theorem px_s_putfield (F : px_Fr k B b L xs adK adV fm D cA p s m args meth c) {v : Nat} (hd : decode (px_code k) pc = .ok (.putfield v, len)) (he : px_exec xs L cf k (.putfield v) len pc ls st h = some (.inl S2)) (G : px_G p l e R s m args below meth c Q B b adK adV fm D cA sl0 (px_maxL k) S2) : px_G p l e R s m args below meth c Q B b adK adV fm D cA sl0 (px_maxL k) (pc, ls, st, h) := by
  simp only [px_exec] at he
  split at he
  · rename_i hlen
    subst hlen
    unfold px_putf at he
    split at he
    · rename_i w a r
      split at he
      · rename_i ci j kd n hf ha
        split at he
        · rename_i hq
          obtain ⟨rfl, hj, hfin⟩ := hq
          split at he
          · rename_i x hx
            obtain rfl := px_inl he
            obtain ⟨f1, f2, f3⟩ := px_fr_ok hf
            obtain ⟨t1, t2⟩ := px_Ty_at f3 f2
            obtain ⟨n1, n2, n3⟩ := px_enc_fit (B := B) (b := b) (adK := adK) (adV := adV) (fm := fm) t2 hx
            intro H locs cells slots ml hR hS hl hc hs
            have hw := px_ws_at (B := B) (cA := cA) ha
            rw [px_E_obj f3] at hw
            have key : ∀ (H1 : Heap) (locs1 : List Loc), va_P D vwCl ((px_ws B cA h).set a (B + a, .inr (kd, ((List.range n).map (fun j => px_dV B (px_ty kd j) (h.2 a j))).set j (px_phi B b adK adV fm w)))) H1 → va_D (fun q => B ≤ q) ((px_ws B cA h).set a (B + a, .inr (kd, ((List.range n).map (fun j => px_dV B (px_ty kd j) (h.2 a j))).set j (px_phi B b adK adV fm w)))) → va_S (fun q => B ≤ q) s.heap H1 locs1 → W p l e R s m args below meth c H1 locs1 cells slots Q (F0 m (pc + 3) ml (r.map (px_phi B b adK adV fm))) := by
              intro H1 locs1 h1 h2 h3
              refine G H1 locs1 cells slots ml ?_ h3 hl hc hs
              show px_Rep B cA D (h.1, px_up h.2 a j x) H1
              rw [px_up_cl]
              exact px_Rep_set hR.2.2 ha (by rw [px_E_obj f3, px_fs_set, n3]) h1 h2
            have hlen2 : j < ((List.range n).map (fun j => px_dV B (px_ty kd j) (h.2 a j))).length := by simp; exact hj
            cases hfb : ((px_C kd).2.1 j).2.2.2 with
            | false => exact va_put F.1 F.2.1 F.2.2.2.2.1 (px_cl_at f3).1 (px_Ty kd) (fun i hi => (px_Ty_at f3 hi).1) (px_nm_at f3) F.2.2.2.1 F.2.2.2.2.2.2.2.2.2.1 hR.1 hR.2.1 hS a hw (px_C_at f3) j f2 (F.2.2.2.2.1 _ f1) (fun _ h9 => h9) hfb t1 n1 n2 hlen2 hd key
            | true =>
              obtain ⟨i1, i2⟩ := hfin hfb
              exact va_putF F.1 F.2.1 F.2.2.2.2.1 (px_cl_at f3).1 (px_Ty kd) (fun i hi => (px_Ty_at f3 hi).1) (px_nm_at f3) F.2.2.2.1 F.2.2.2.2.2.2.2.2.2.1 hR.1 hR.2.1 hS a hw (px_C_at f3) j f2 (F.2.2.2.2.1 _ f1) (fun _ h9 => h9) hfb (F.2.2.2.2.2.1 i1) (by rw [px_fin_at f3 f2, i2]) t1 n1 n2 hlen2 hd key
          · cases he
        · cases he
      · cases he
    · cases he
  · cases he

theorem px_s_getstatic (F : px_Fr k B b L xs adK adV fm D cA p s m args meth c) {v : Nat} (hd : decode (px_code k) pc = .ok (.getstatic v, len)) (he : px_exec xs L cf k (.getstatic v) len pc ls st h = some (.inl S2)) (G : px_G p l e R s m args below meth c Q B b adK adV fm D cA sl0 (px_maxL k) S2) : px_G p l e R s m args below meth c Q B b adK adV fm D cA sl0 (px_maxL k) (pc, ls, st, h) := by
  simp only [px_exec] at he
  split at he
  · rename_i hlen
    obtain ⟨rfl, ho⟩ := hlen
    have hown : s.vm.findClass "java/lang/String" = some m.cls := by have h0 := F.2.2.2.1; rw [ho] at h0; exact h0
    split at he
    · rename_i h9
      subst h9
      obtain rfl := px_inl he
      intro H locs cells slots ml hR hS hl hc hs
      exact va_gets F.1 F.2.1 F.2.2.2.2.2.2.2.2.2.2.2.2.2.2.2.2.1 hS hown (F.2.2.2.2.1 _ (px_gw_at (i := 643) (w := .fieldLink "java/lang/String" 38 "java/lang/String" "COMPACT_STRINGS" "Z") (by decide +kernel) rfl)) (fun _ h9 => h9) hd (G H locs cells slots ml hR hS hl hc hs)
    · split at he
      · rename_i h9
        subst h9
        obtain rfl := px_inl he
        intro H locs cells slots ml hR hS hl hc hs
        exact va_gets F.1 F.2.1 F.2.2.2.2.2.2.2.2.2.2.2.2.2.2.2.2.2.1 hS hown (F.2.2.2.2.1 _ (px_gw_at (i := 659) (w := .fieldLink "java/lang/String" 1053 "jdk/internal/util/Preconditions" "SIOOBE_FORMATTER" "Ljava/util/function/BiFunction;") (by decide +kernel) rfl)) (fun _ h9 => h9) hd (G H locs cells slots ml hR hS hl hc hs)
      · cases he
  · cases he

theorem px_s_iaload (F : px_Fr k B b L xs adK adV fm D cA p s m args meth c)  (hd : decode (px_code k) pc = .ok (.iaload, len)) (he : px_exec xs L cf k (.iaload) len pc ls st h = some (.inl S2)) (G : px_G p l e R s m args below meth c Q B b adK adV fm D cA sl0 (px_maxL k) S2) : px_G p l e R s m args below meth c Q B b adK adV fm D cA sl0 (px_maxL k) (pc, ls, st, h) := by
  simp only [px_exec] at he
  split at he
  · rename_i hlen
    subst hlen
    split at he
    · rename_i i r
      split at he
      · rename_i hi
        obtain rfl := px_inl he
        intro H locs cells slots ml hR hS hl hc hs
        have hx := F.2.2.2.2.2.2.2.2.2.2.2.2.2.1
        exact va_sld F.1 F.2.1 hx (by have h1 := F.2.2.2.2.2.2.2.2.2.2.2.2.2.2.1; have h2 := F.2.2.2.2.2.2.2.2.1; omega) (by have h1 := F.2.2.2.2.2.2.2.2.2.2.2.2.2.2.1; show ¬ B ≤ b; omega) hS (vp_in_iff.mpr hi) hd (G H locs cells slots ml hR hS hl hc hs)
      · cases he
    · unfold px_ald at he
      split at he
      · rename_i i a r hno
        split at he
        · rename_i k2 n ha
          split at he
          · rename_i hq
            obtain ⟨rfl, hi1, hi2⟩ := hq
            obtain rfl := px_inl he
            intro H locs cells slots ml hR hS hl hc hs
            have hw := px_ws_at (B := B) (cA := cA) ha
            rw [px_E_int] at hw
            exact va_iald F.1 F.2.1 F.2.2.2.2.2.2.2.2.2.1 hR.1 a 0 hw rfl (vp_in_iff.mpr ⟨hi1, hi2⟩) hd (G H locs cells slots ml hR hS hl hc hs)
          · cases he
        · cases he
      · cases he
  · cases he

theorem px_s_laload (F : px_Fr k B b L xs adK adV fm D cA p s m args meth c)  (hd : decode (px_code k) pc = .ok (.laload, len)) (he : px_exec xs L cf k (.laload) len pc ls st h = some (.inl S2)) (G : px_G p l e R s m args below meth c Q B b adK adV fm D cA sl0 (px_maxL k) S2) : px_G p l e R s m args below meth c Q B b adK adV fm D cA sl0 (px_maxL k) (pc, ls, st, h) := by
  simp only [px_exec] at he
  split at he
  · rename_i hlen
    subst hlen
    unfold px_ald at he
    split at he
    · rename_i i a r
      split at he
      · rename_i k2 n ha
        split at he
        · rename_i hq
          obtain ⟨rfl, hi1, hi2⟩ := hq
          obtain rfl := px_inl he
          intro H locs cells slots ml hR hS hl hc hs
          have hw := px_ws_at (B := B) (cA := cA) ha
          rw [px_E_long] at hw
          exact va_lald F.1 F.2.1 F.2.2.2.2.2.2.2.2.2.1 hR.1 a 2 hw rfl (vp_in_iff.mpr ⟨hi1, hi2⟩) hd (G H locs cells slots ml hR hS hl hc hs)
        · cases he
      · cases he
    · cases he
  · cases he

theorem px_txt_at {t : Nat} (h : t < 14) : px_len.getD t 0 = (px_txt t).length ∧ px_byt.getD t [] = (px_txt t).map (fun c => iI (c.toNat : Int)) := by
  have h1 : px_stb[t]? = some px_stb[t] := List.getElem?_eq_getElem (show t < px_stb.length from h)
  unfold px_len px_byt px_txt
  rw [List.getD_eq_getElem?_getD, List.getD_eq_getElem?_getD, List.getElem?_map, List.getElem?_map, h1]
  exact ⟨rfl, rfl⟩

theorem px_s_baload (F : px_Fr k B b L xs adK adV fm D cA p s m args meth c)  (hd : decode (px_code k) pc = .ok (.baload, len)) (he : px_exec xs L cf k (.baload) len pc ls st h = some (.inl S2)) (G : px_G p l e R s m args below meth c Q B b adK adV fm D cA sl0 (px_maxL k) S2) : px_G p l e R s m args below meth c Q B b adK adV fm D cA sl0 (px_maxL k) (pc, ls, st, h) := by
  simp only [px_exec] at he
  split at he
  · rename_i hlen
    subst hlen
    split at he
    · rename_i i bb r
      split at he
      · rename_i hi
        obtain ⟨b1, b2, i1, i2⟩ := hi
        obtain rfl := px_inl he
        obtain ⟨t, rfl⟩ : ∃ t, bb = t + 100 := ⟨bb - 100, by omega⟩
        rw [show t + 100 - 100 = t by omega] at i2 G
        have hE := F.2.2.2.2.2.2.2.2.2.2.2.2.1.1 t (by omega)
        obtain ⟨l1, l2⟩ := px_txt_at (t := t) (by omega)
        intro H locs cells slots ml hR hS hl hc hs
        have e2 : px_phi B b adK adV fm (.retAddr (t + 100)) = .ref (adV t) := by
          show px_ra b adK adV fm (t + 100) = _
          unfold px_ra
          rw [if_neg (by omega), if_neg (by omega), if_pos (by omega), show t + 100 - 100 = t by omega]
        simp only [List.map_cons, e2]
        refine va_tb F.1 F.2.1 hE.2.2.2 hS (vp_in_iff.mpr ⟨i1, by rw [l1]; exact i2⟩) ?_ hd (G H locs cells slots ml hR hS hl hc hs)
        show Value.int ((px_byt.getD t []).getD i.toInt.toNat 0) = .int (iI _)
        rw [l2, List.getD_eq_getElem?_getD, List.getElem?_map, List.getD_eq_getElem?_getD]
        have hlt : i.toInt.toNat < (px_txt t).length := by omega
        rw [List.getElem?_eq_getElem hlt]
        rfl
      · cases he
    · unfold px_ald at he
      split at he
      · rename_i i a r hno
        split at he
        · rename_i k2 n ha
          split at he
          · rename_i hq
            obtain ⟨rfl, hi1, hi2⟩ := hq
            obtain rfl := px_inl he
            intro H locs cells slots ml hR hS hl hc hs
            have hw := px_ws_at (B := B) (cA := cA) ha
            rw [px_E_bool] at hw
            exact va_zald F.1 F.2.1 F.2.2.2.2.2.2.2.2.2.1 hR.1 a 1 hw rfl (vp_in_iff.mpr ⟨hi1, hi2⟩) hd (G H locs cells slots ml hR hS hl hc hs)
          · cases he
        · cases he
      · cases he
  · cases he

theorem px_rf {B : Nat} (x : Int) : va_rf (if x < 0 then none else some (B + x.toNat)) = px_dV B 2 x := by
  unfold px_dV
  simp only [show ¬ (2 : Nat) = 1 by decide, if_false, if_true]
  split <;> rfl
theorem px_ty_ref {kd : Nat} (h : 13 ≤ kd) : px_ty kd 0 = 2 := by
  unfold px_ty
  rw [if_neg (by omega), if_neg (by omega), if_neg (by omega), if_neg (by omega)]
theorem px_tys_ref {kd : Nat} (h1 : 13 ≤ kd) (h2 : kd ≤ 15) : ∃ C, (px_tys cA)[kd - 10]? = some (cA (kd - 10), .object C) := by
  rcases (show kd = 13 ∨ kd = 14 ∨ kd = 15 by omega) with rfl | rfl | rfl <;> exact ⟨_, rfl⟩

theorem px_s_aaload (F : px_Fr k B b L xs adK adV fm D cA p s m args meth c)  (hd : decode (px_code k) pc = .ok (.aaload, len)) (he : px_exec xs L cf k (.aaload) len pc ls st h = some (.inl S2)) (G : px_G p l e R s m args below meth c Q B b adK adV fm D cA sl0 (px_maxL k) S2) : px_G p l e R s m args below meth c Q B b adK adV fm D cA sl0 (px_maxL k) (pc, ls, st, h) := by
  simp only [px_exec] at he
  split at he
  · rename_i hlen
    subst hlen
    split at he
    · rename_i i0 a0 r0
      split at he
      · rename_i k1 n1 ha1
        split at he
        · rename_i hk
          unfold px_ald at he
          simp only [ha1] at he
          split at he
          · rename_i hq
            obtain ⟨-, hi1, hi2⟩ := hq
            obtain rfl := px_inl he
            intro H locs cells slots ml hR hS hl hc hs
            have hw := px_ws_at (B := B) (cA := cA) ha1
            rw [px_E_ref hk.1] at hw
            obtain ⟨C, hC⟩ := px_tys_ref (cA := cA) hk.1 hk.2
            have hg := G H locs cells slots ml hR hS hl hc hs
            simp only [List.map_cons, px_phi_dec, px_ty_ref hk.1] at hg
            refine va_aldq F.1 F.2.1 F.2.2.2.2.2.2.2.2.2.1 hR.1 a0 (k1 - 10) hw hC (vp_in_iff.mpr ⟨hi1, hi2⟩) hd ?_
            rw [px_rf]
            exact hg
          · cases he
        · cases he
      · cases he
    · cases he
  · cases he

theorem px_s_iastore (F : px_Fr k B b L xs adK adV fm D cA p s m args meth c)  (hd : decode (px_code k) pc = .ok (.iastore, len)) (he : px_exec xs L cf k (.iastore) len pc ls st h = some (.inl S2)) (G : px_G p l e R s m args below meth c Q B b adK adV fm D cA sl0 (px_maxL k) S2) : px_G p l e R s m args below meth c Q B b adK adV fm D cA sl0 (px_maxL k) (pc, ls, st, h) := by
  simp only [px_exec] at he
  split at he
  · rename_i hlen
    subst hlen
    unfold px_ast at he
    split at he
    · rename_i w i a r
      split at he
      · rename_i k2 n ha
        split at he
        · rename_i hq
          obtain ⟨rfl, hi1, hi2⟩ := hq
          split at he
          · rename_i x hx
            obtain rfl := px_inl he
            obtain ⟨z, rfl, rfl⟩ : ∃ z, w = .int z ∧ x = z.toInt := by
              unfold px_enc at hx
              split at hx
              · rename_i z
                have hty : px_ty 10 0 = 0 := rfl
                rw [hty, if_pos rfl] at hx
                exact ⟨z, rfl, (Option.some.inj hx).symm⟩
              all_goals first | (simp [px_ty] at hx; done) | cases hx
            intro H locs cells slots ml hR hS hl hc hs
            have hw := px_ws_at (B := B) (cA := cA) ha
            rw [px_E_int] at hw
            refine va_iast F.1 F.2.1 F.2.2.2.2.2.2.2.2.2.1 hR.1 hR.2.1 hS a 0 hw rfl (vp_in_iff.mpr ⟨hi1, hi2⟩) hd (fun H1 locs1 h1 h2 h3 => ?_)
            refine G H1 locs1 cells slots ml ?_ h3 hl hc hs
            show px_Rep B cA D (h.1, px_up h.2 a i.toInt.toNat z.toInt) H1
            rw [px_up_cl]
            refine px_Rep_set hR.2.2 ha ?_ h1 h2
            rw [px_E_int]
            congr 4
            funext j
            show iI (if j = i.toInt.toNat then z.toInt else h.2 a j) = upd _ i.toNatClampNeg z j
            unfold upd
            by_cases hj : j = i.toInt.toNat
            · rw [if_pos hj, if_pos (show j = i.toNatClampNeg from hj), px_iI_toInt]
            · rw [if_neg hj, if_neg (show ¬ j = i.toNatClampNeg from hj)]
          · cases he
        · cases he
      · cases he
    · cases he
  · cases he

theorem px_s_bastore (F : px_Fr k B b L xs adK adV fm D cA p s m args meth c)  (hd : decode (px_code k) pc = .ok (.bastore, len)) (he : px_exec xs L cf k (.bastore) len pc ls st h = some (.inl S2)) (G : px_G p l e R s m args below meth c Q B b adK adV fm D cA sl0 (px_maxL k) S2) : px_G p l e R s m args below meth c Q B b adK adV fm D cA sl0 (px_maxL k) (pc, ls, st, h) := by
  simp only [px_exec] at he
  split at he
  · rename_i hlen
    subst hlen
    unfold px_ast at he
    split at he
    · rename_i w i a r
      split at he
      · rename_i k2 n ha
        split at he
        · rename_i hq
          obtain ⟨rfl, hi1, hi2⟩ := hq
          split at he
          · rename_i x hx
            obtain rfl := px_inl he
            obtain ⟨z, rfl, rfl, hz⟩ : ∃ z, w = .int z ∧ x = z.toInt ∧ (z = 0 ∨ z = 1) := by
              unfold px_enc at hx
              split at hx
              · rename_i z
                have hty : px_ty 11 0 = 3 := rfl
                rw [hty, if_neg (by decide), if_pos rfl] at hx
                split at hx
                · rename_i hz
                  exact ⟨z, rfl, (Option.some.inj hx).symm, hz⟩
                · cases hx
              all_goals first | (simp [px_ty] at hx; done) | cases hx
            have hnar : vp_nar .boolean z = z := by rcases hz with rfl | rfl <;> rfl
            intro H locs cells slots ml hR hS hl hc hs
            have hw := px_ws_at (B := B) (cA := cA) ha
            rw [px_E_bool] at hw
            refine va_zast F.1 F.2.1 F.2.2.2.2.2.2.2.2.2.1 hR.1 hR.2.1 hS a 1 hw rfl (vp_in_iff.mpr ⟨hi1, hi2⟩) hd (fun H1 locs1 h1 h2 h3 => ?_)
            refine G H1 locs1 cells slots ml ?_ h3 hl hc hs
            show px_Rep B cA D (h.1, px_up h.2 a i.toInt.toNat z.toInt) H1
            rw [px_up_cl]
            refine px_Rep_set hR.2.2 ha ?_ h1 h2
            rw [px_E_bool]
            congr 4
            funext j
            show iI (if j = i.toInt.toNat then z.toInt else h.2 a j) = upd _ i.toNatClampNeg (vp_nar .boolean z) j
            rw [hnar]
            unfold upd
            by_cases hj : j = i.toInt.toNat
            · rw [if_pos hj, if_pos (show j = i.toNatClampNeg from hj), px_iI_toInt]
            · rw [if_neg hj, if_neg (show ¬ j = i.toNatClampNeg from hj)]
          · cases he
        · cases he
      · cases he
    · cases he
  · cases he

theorem px_s_lastore (F : px_Fr k B b L xs adK adV fm D cA p s m args meth c)  (hd : decode (px_code k) pc = .ok (.lastore, len)) (he : px_exec xs L cf k (.lastore) len pc ls st h = some (.inl S2)) (G : px_G p l e R s m args below meth c Q B b adK adV fm D cA sl0 (px_maxL k) S2) : px_G p l e R s m args below meth c Q B b adK adV fm D cA sl0 (px_maxL k) (pc, ls, st, h) := by
  simp only [px_exec] at he
  split at he
  · rename_i hlen
    subst hlen
    unfold px_ast at he
    split at he
    · rename_i w i a r
      split at he
      · rename_i k2 n ha
        split at he
        · rename_i hq
          obtain ⟨rfl, hi1, hi2⟩ := hq
          split at he
          · rename_i x hx
            obtain rfl := px_inl he
            obtain ⟨z, rfl, rfl⟩ : ∃ z, w = .long z ∧ x = z.toInt := by
              unfold px_enc at hx
              split at hx
              · simp [px_ty] at hx
              · rename_i z
                have hty : px_ty 12 0 = 1 := rfl
                rw [hty, if_pos rfl] at hx
                exact ⟨z, rfl, (Option.some.inj hx).symm⟩
              all_goals first | (simp [px_ty] at hx; done) | cases hx
            intro H locs cells slots ml hR hS hl hc hs
            have hw := px_ws_at (B := B) (cA := cA) ha
            rw [px_E_long] at hw
            refine va_last F.1 F.2.1 F.2.2.2.2.2.2.2.2.2.1 hR.1 hR.2.1 hS a 2 hw rfl (vp_in_iff.mpr ⟨hi1, hi2⟩) hd (fun H1 locs1 h1 h2 h3 => ?_)
            refine G H1 locs1 cells slots ml ?_ h3 hl hc hs
            show px_Rep B cA D (h.1, px_up h.2 a i.toInt.toNat z.toInt) H1
            rw [px_up_cl]
            refine px_Rep_set hR.2.2 ha ?_ h1 h2
            rw [px_E_long]
            congr 5
            funext j
            show lI (if j = i.toInt.toNat then z.toInt else h.2 a j) = vp_updL _ i.toNatClampNeg z j
            unfold vp_updL
            by_cases hj : j = i.toInt.toNat
            · rw [if_pos hj, if_pos (show j = i.toNatClampNeg from hj), px_lI_toInt]
            · rw [if_neg hj, if_neg (show ¬ j = i.toNatClampNeg from hj)]
          · cases he
        · cases he
      · cases he
    · cases he
  · cases he

theorem px_s_aastore (F : px_Fr k B b L xs adK adV fm D cA p s m args meth c)  (hd : decode (px_code k) pc = .ok (.aastore, len)) (he : px_exec xs L cf k (.aastore) len pc ls st h = some (.inl S2)) (G : px_G p l e R s m args below meth c Q B b adK adV fm D cA sl0 (px_maxL k) S2) : px_G p l e R s m args below meth c Q B b adK adV fm D cA sl0 (px_maxL k) (pc, ls, st, h) := by
  simp only [px_exec] at he
  split at he
  · rename_i hlen
    subst hlen
    split at he
    · rename_i w i a r
      split at he
      · rename_i k1 n ha
        split at he
        · rename_i hk
          obtain ⟨hk1, hk2, hok⟩ := hk
          unfold px_ast at he
          simp only [ha] at he
          split at he
          · rename_i hq
            obtain ⟨-, hi1, hi2⟩ := hq
            rw [px_ty_ref hk1] at he
            have hw := px_ws_at (B := B) (cA := cA) ha
            rw [px_E_ref hk1] at hw
            unfold px_eok at hok
            split at hok
            · simp only [px_enc, if_true] at he
              obtain rfl := px_inl he
              intro H locs cells slots ml hR hS hl hc hs
              obtain ⟨C, hC⟩ := px_tys_ref (cA := cA) hk1 hk2
              refine va_astqN F.1 F.2.1 F.2.2.2.2.2.2.2.2.2.1 hR.1 hR.2.1 hS a (k1 - 10) hw hC (vp_in_iff.mpr ⟨hi1, hi2⟩) hd (fun H1 locs1 h1 h2 h3 => ?_)
              refine G H1 locs1 cells slots ml ?_ h3 hl hc hs
              show px_Rep B cA D (h.1, px_up h.2 a i.toInt.toNat (-1)) H1
              rw [px_up_cl]
              refine px_Rep_set hR.2.2 ha ?_ h1 h2
              rw [px_E_ref hk1]
              congr 7
              funext j
              show (if (if j = i.toInt.toNat then (-1 : Int) else h.2 a j) < 0 then none else some (B + (if j = i.toInt.toNat then (-1 : Int) else h.2 a j).toNat)) = va_up _ i.toNatClampNeg none j
              unfold va_up
              by_cases hj : j = i.toInt.toNat
              · rw [if_pos hj, if_pos (show j = i.toNatClampNeg from hj)]; rfl
              · rw [if_neg hj, if_neg (show ¬ j = i.toNatClampNeg from hj)]
            · rename_i v
              split at hok
              · rename_i kv nv hv
                simp only [px_enc, if_true] at he
                obtain rfl := px_inl he
                intro H locs cells slots ml hR hS hl hc hs
                have hkv : ∃ C : vw_C, (px_tys cA)[k1 - 10]? = some (cA (k1 - 10), .object C.1) ∧ vwCl[kv]? = some C ∧ kv < 10 := by
                  simp only [Bool.or_eq_true, Bool.and_eq_true, beq_iff_eq] at hok
                  rcases hok with (⟨rfl, rfl⟩ | ⟨rfl, rfl⟩) | ⟨rfl, rfl⟩ <;> exact ⟨_, rfl, rfl, by decide⟩
                obtain ⟨C, hC1, hC2, hC3⟩ := hkv
                have hwv := px_ws_at (B := B) (cA := cA) hv
                rw [px_E_obj hC3] at hwv
                refine va_astq F.1 F.2.1 F.2.2.2.2.2.2.2.2.2.1 hR.1 hR.2.1 hS a (k1 - 10) v kv hw hC1 hwv hC2 (vp_in_iff.mpr ⟨hi1, hi2⟩) hd (fun H1 locs1 h1 h2 h3 => ?_)
                refine G H1 locs1 cells slots ml ?_ h3 hl hc hs
                show px_Rep B cA D (h.1, px_up h.2 a i.toInt.toNat (v : Int)) H1
                rw [px_up_cl]
                refine px_Rep_set hR.2.2 ha ?_ h1 h2
                rw [px_E_ref hk1]
                congr 7
                funext j
                show (if (if j = i.toInt.toNat then (v : Int) else h.2 a j) < 0 then none else some (B + (if j = i.toInt.toNat then (v : Int) else h.2 a j).toNat)) = va_up _ i.toNatClampNeg (some (B + v)) j
                unfold va_up
                by_cases hj : j = i.toInt.toNat
                · rw [if_pos hj, if_pos (show j = i.toNatClampNeg from hj), if_neg (by omega)]; rfl
                · rw [if_neg hj, if_neg (show ¬ j = i.toNatClampNeg from hj)]
              · cases hok
            · cases hok
          · cases he
        · cases he
      · cases he
    · cases he
  · cases he

theorem px_s_arraylength (F : px_Fr k B b L xs adK adV fm D cA p s m args meth c)  (hd : decode (px_code k) pc = .ok (.arraylength, len)) (he : px_exec xs L cf k (.arraylength) len pc ls st h = some (.inl S2)) (G : px_G p l e R s m args below meth c Q B b adK adV fm D cA sl0 (px_maxL k) S2) : px_G p l e R s m args below meth c Q B b adK adV fm D cA sl0 (px_maxL k) (pc, ls, st, h) := by
  simp only [px_exec] at he
  split at he
  · rename_i hlen
    subst hlen
    split at he
    · rename_i a r
      split at he
      · rename_i k2 n ha
        split at he
        · rename_i hk
          obtain rfl := px_inl he
          intro H locs cells slots ml hR hS hl hc hs
          have hw := px_ws_at (B := B) (cA := cA) ha
          rcases (show k2 = 10 ∨ k2 = 11 ∨ k2 = 12 ∨ k2 = 13 ∨ k2 = 14 ∨ k2 = 15 by omega) with rfl | rfl | rfl | rfl | rfl | rfl
          · exact va_alen F.1 F.2.1 F.2.2.2.2.2.2.2.2.2.1 hR.1 a 0 hw rfl (px_iI_nat n) hd (G H locs cells slots ml hR hS hl hc hs)
          · exact va_alen F.1 F.2.1 F.2.2.2.2.2.2.2.2.2.1 hR.1 a 1 hw rfl (px_iI_nat n) hd (G H locs cells slots ml hR hS hl hc hs)
          · exact va_alen F.1 F.2.1 F.2.2.2.2.2.2.2.2.2.1 hR.1 a 2 hw rfl (px_iI_nat n) hd (G H locs cells slots ml hR hS hl hc hs)
          · exact va_alen F.1 F.2.1 F.2.2.2.2.2.2.2.2.2.1 hR.1 a 3 hw rfl (px_iI_nat n) hd (G H locs cells slots ml hR hS hl hc hs)
          · exact va_alen F.1 F.2.1 F.2.2.2.2.2.2.2.2.2.1 hR.1 a 4 hw rfl (px_iI_nat n) hd (G H locs cells slots ml hR hS hl hc hs)
          · exact va_alen F.1 F.2.1 F.2.2.2.2.2.2.2.2.2.1 hR.1 a 5 hw rfl (px_iI_nat n) hd (G H locs cells slots ml hR hS hl hc hs)
        · cases he
      · cases he
    · rename_i bb r
      split at he
      · rename_i hb0
        subst hb0
        obtain rfl := px_inl he
        intro H locs cells slots ml hR hS hl hc hs
        have hx := F.2.2.2.2.2.2.2.2.2.2.2.2.2.1
        have hg := G H locs cells slots ml hR hS hl hc hs
        simp only [List.map_cons] at hg
        refine va_slen F.1 F.2.1 hx (by have h1 := F.2.2.2.2.2.2.2.2.2.2.2.2.2.2.1; have h2 := F.2.2.2.2.2.2.2.2.1; omega) (by have h1 := F.2.2.2.2.2.2.2.2.2.2.2.2.2.2.1; show ¬ B ≤ b; omega) hS hd ?_
        rw [px_iI_nat]
        exact hg
      · split at he
        · rename_i hb0 hb1
          obtain rfl := px_inl he
          obtain ⟨t, rfl⟩ : ∃ t, bb = t + 100 := ⟨bb - 100, by omega⟩
          rw [show t + 100 - 100 = t by omega] at G
          have hE := F.2.2.2.2.2.2.2.2.2.2.2.2.1.1 t (by omega)
          obtain ⟨l1, l2⟩ := px_txt_at (t := t) (by omega)
          intro H locs cells slots ml hR hS hl hc hs
          have e2 : px_phi B b adK adV fm (.retAddr (t + 100)) = .ref (adV t) := by
            show px_ra b adK adV fm (t + 100) = _
            unfold px_ra
            rw [if_neg (by omega), if_neg (by omega), if_pos (by omega), show t + 100 - 100 = t by omega]
          simp only [List.map_cons, e2]
          exact va_tlen F.1 F.2.1 hE.2.2.2 hS (by rw [l1, px_iI_nat]) hd (G H locs cells slots ml hR hS hl hc hs)
        · cases he
    · cases he
  · cases he

end PXB
