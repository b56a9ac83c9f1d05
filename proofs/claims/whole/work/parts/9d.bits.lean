/-! ones of a number; the next higher number of as many ones -/
def frc (n : Nat) (k : Nat → Bool) : Bool := Nat.rec (k 0) (fun m _ => k (Nat.succ m)) n
theorem frc_eq (n : Nat) (k : Nat → Bool) : frc n k = k n := by cases n <;> rfl
def frN (n : Nat) (k : Nat → Nat) : Nat := Nat.rec (k 0) (fun m _ => k (Nat.succ m)) n
theorem frN_eq (n : Nat) (k : Nat → Nat) : frN n k = k n := by cases n <;> rfl
def allB (f : Nat → Bool) : Nat → Bool
  | 0 => true
  | n + 1 => f n && allB f n
theorem allB_at {f : Nat → Bool} : ∀ n, allB f n = true → ∀ i, i < n → f i = true := by
  intro n
  induction n with
  | zero => intro _ i hi; omega
  | succ n ih =>
    intro h i hi
    rw [allB, Bool.and_eq_true] at h
    rcases (show i < n ∨ i = n by omega) with z | z
    · exact ih h.2 i z
    · rw [z]; exact h.1
/-- the ones of a number, as the library reckons them -/
def bc1 (s : Nat) : Nat := s - ((s / 2) &&& 1431655765)
def bc2 (s : Nat) : Nat := (s &&& 858993459) + ((s / 4) &&& 858993459)
def bc3 (s : Nat) : Nat := (s + s / 16) &&& 252645135
def bc4 (s : Nat) : Nat := s + s / 256
def bc5 (s : Nat) : Nat := s + s / 65536
def bcF (s : Nat) : Nat := bc5 (bc4 (bc3 (bc2 (bc1 s)))) &&& 63
def bcK (s : Nat) (k : Nat → Bool) : Bool := frc (bc1 s) (fun a => frc (bc2 a) (fun b => frc (bc3 b) (fun c => frc (bc4 c) (fun d => frc (bc5 d) (fun e => frc (e &&& 63) k)))))
theorem bcK_eq (s : Nat) (k : Nat → Bool) : bcK s k = k (bcF s) := by unfold bcK bcF; simp only [frc_eq]
theorem bc_ck : allB (fun h => allB (fun l => frc (256 * h + l) (fun s => bcK s (fun a => frc (s / 2) (fun t => bcK t (fun b => Nat.beq a (b + s % 2)))))) 256) 256 = true := by decide +kernel
theorem bc_half {s : Nat} (hs : s < 65536) : bcF s = bcF (s / 2) + s % 2 := by
  have h := allB_at _ (allB_at _ bc_ck (s / 256) (by omega)) (s % 256) (by omega)
  simp only [frc_eq, bcK_eq] at h
  rw [show 256 * (s / 256) + s % 256 = s by omega] at h
  exact Nat.eq_of_beq_eq_true h
/-- the next higher of as many ones, as the class reckons it -/
def loB (s : Nat) : Nat := s &&& (4294967296 - s)
def nxF (s : Nat) : Nat := if loB s = 0 then 65536 else (s + loB s) ||| ((s ^^^ (s + loB s)) / loB s / 4)
def nxK (s : Nat) (k : Nat → Nat) : Nat := frN (loB s) (fun lo => Nat.rec (k 65536) (fun _ _ => frN (s + lo) (fun c => frN ((s ^^^ c) / lo / 4) (fun a => frN (c ||| a) k))) lo)
theorem nxK_eq (s : Nat) (k : Nat → Nat) : nxK s k = k (nxF s) := by
  unfold nxK nxF
  simp only [frN_eq]
  generalize loB s = lo
  cases lo with
  | zero => rfl
  | succ lo => rw [if_neg (by omega)]
def bcN (s : Nat) (k : Nat → Nat) : Nat := frN (bc1 s) (fun a => frN (bc2 a) (fun b => frN (bc3 b) (fun c => frN (bc4 c) (fun d => frN (bc5 d) (fun e => frN (e &&& 63) k)))))
theorem bcN_eq (s : Nat) (k : Nat → Nat) : bcN s k = k (bcF s) := by unfold bcN bcF; simp only [frN_eq]
/-- 17 numbers below 131072 in one -/
def pk (f : Nat → Nat) : Nat → Nat
  | 0 => 0
  | n + 1 => pk f n + f n * 131072 ^ n
theorem pkn_lt {f : Nat → Nat} (hf : ∀ i, f i < 131072) : ∀ n, pk f n < 131072 ^ n := by
  intro n
  induction n with
  | zero => simp [pk]
  | succ n ih =>
    have h1 := hf n
    have h2 : f n * 131072 ^ n ≤ 131071 * 131072 ^ n := Nat.mul_le_mul_right _ (by omega)
    rw [pk, Nat.pow_succ]
    omega
theorem pkn_get {f : Nat → Nat} (hf : ∀ i, f i < 131072) {p : Nat} : ∀ n, p < n → pk f n / 131072 ^ p % 131072 = f p := by
  intro n
  induction n with
  | zero => intro h; omega
  | succ n ih =>
    intro h
    have hp : 0 < 131072 ^ p := Nat.pow_pos (by decide)
    rw [pk]
    by_cases e : p = n
    · subst e
      rw [Nat.add_mul_div_right _ _ hp, Nat.div_eq_of_lt (pkn_lt hf p), Nat.zero_add]
      exact Nat.mod_eq_of_lt (hf p)
    · obtain ⟨k, rfl⟩ : ∃ k, n = p + (k + 1) := ⟨n - p - 1, by omega⟩
      rw [Nat.pow_add, ← Nat.mul_assoc, Nat.mul_right_comm, Nat.add_mul_div_right _ _ hp, Nat.pow_succ, ← Nat.mul_assoc, Nat.add_mul_mod_self_right]
      exact ih (by omega)
def nup (f : Nat → Nat) (p v : Nat) : Nat → Nat := fun j => if j = p then v else f j
theorem pkn_up {f : Nat → Nat} {p v : Nat} : ∀ n, (p < n → pk (nup f p v) n + f p * 131072 ^ p = pk f n + v * 131072 ^ p) ∧ (n ≤ p → pk (nup f p v) n = pk f n) := by
  intro n
  induction n with
  | zero => exact ⟨fun h => by omega, fun _ => rfl⟩
  | succ n ih =>
    simp only [pk]
    refine ⟨fun h => ?_, fun h => ?_⟩
    · by_cases e : p = n
      · subst e
        rw [ih.2 (Nat.le_refl _)]
        unfold nup
        rw [if_pos rfl]
        omega
      · have := ih.1 (by omega)
        rw [show nup f p v n = f n from if_neg (by omega)]
        omega
    · rw [ih.2 (by omega), show nup f p v n = f n from if_neg (by omega)]
/-- the lowest from 65536 - d on with p ones; 65536 where there is none -/
def fN (p : Nat) : Nat → Nat
  | 0 => 65536
  | d + 1 => if bcF (65535 - d) = p then 65535 - d else fN p d
theorem fN_b (p : Nat) : ∀ d, d ≤ 65536 → 65536 - d ≤ fN p d ∧ fN p d ≤ 65536 ∧ (fN p d < 65536 → bcF (fN p d) = p) ∧ ∀ t, 65536 - d ≤ t → t < fN p d → bcF t ≠ p := by
  intro d
  induction d with
  | zero => intro _; exact ⟨by simp [fN], by simp [fN], by simp [fN], fun t h1 h2 => by simp [fN] at h2; omega⟩
  | succ d ih =>
    intro hd
    obtain ⟨i1, i2, i3, i4⟩ := ih (by omega)
    simp only [fN]
    split
    · rename_i h
      exact ⟨by omega, by omega, fun _ => h, fun t h1 h2 => by omega⟩
    · rename_i h
      refine ⟨by omega, i2, i3, fun t h1 h2 => ?_⟩
      by_cases e : t = 65535 - d
      · rw [e]; exact h
      · exact i4 t (by omega) h2
def stp (s X : Nat) : Nat := bcN s (fun p => frN (131072 ^ p) (fun B => frN (X / B % 131072) (fun v => nxK s (fun y => Nat.rec 0 (fun _ _ => X + s * B - v * B) (Nat.sub 1 (Nat.sub (Nat.add (Nat.sub (Nat.min y 65536) v) (Nat.sub v (Nat.min y 65536))) 0))))))
def inn (h l : Nat) : Nat → Nat := Nat.rec (fun X => X) (fun l ih X => Nat.rec 0 (fun m _ => ih (Nat.succ m)) (stp (Nat.add (Nat.mul 256 h) l) X)) l
def X0 : Nat := pk (fun _ => 65536) 17
theorem opc_half (s : Nat) : ∀ k, opc s (k + 1) = ((s % 2 : Nat) : Int) + opc (s / 2) k := by
  intro k
  induction k with
  | zero => simp [opc]
  | succ k ih =>
    rw [opc, ih, opc]
    have e : ((s : Nat) : Int) / 2 ^ (k + 1) = ((s / 2 : Nat) : Int) / 2 ^ k := by
      rw [Int.pow_succ, Int.mul_comm, ← Int.ediv_ediv_of_nonneg (by decide)]
      rfl
    rw [e]
    omega
theorem bc_opc : ∀ k, k ≤ 16 → ∀ s, s < 2 ^ k → ((bcF s : Nat) : Int) = opc s k := by
  intro k
  induction k with
  | zero => intro _ s hs; rw [show s = 0 by simpa using hs]; rfl
  | succ k ih =>
    intro hk s hs
    have h16 : 2 ^ (k + 1) ≤ 2 ^ 16 := Nat.pow_le_pow_right (by decide) hk
    rw [Nat.pow_succ] at hs
    rw [Nat.pow_succ] at h16
    rw [bc_half (by omega), opc_half, ← ih (by omega) (s / 2) (by omega)]
    omega
theorem bc_16 {s : Nat} (hs : s < 65536) : ((bcF s : Nat) : Int) = opc s 16 := bc_opc 16 (Nat.le_refl _) s hs
theorem bc_b {s : Nat} (hs : s < 65536) : bcF s ≤ 16 := by have := opc_b s 16; have := bc_16 hs; omega
theorem stp_eq (s X : Nat) : stp s X = if Nat.min (nxF s) 65536 = X / 131072 ^ bcF s % 131072 then X + s * 131072 ^ bcF s - (X / 131072 ^ bcF s % 131072) * 131072 ^ bcF s else 0 := by
  unfold stp
  simp only [bcN_eq, frN_eq, nxK_eq]
  generalize Nat.min (nxF s) 65536 = a
  generalize X / 131072 ^ bcF s % 131072 = v
  by_cases e : a = v
  · subst e
    rw [if_pos rfl, show Nat.sub 1 (Nat.sub (Nat.add (Nat.sub a a) (Nat.sub a a)) 0) = 1 by simp only [Nat.sub_eq, Nat.add_eq]; omega]
    rfl
  · rw [if_neg e, show Nat.sub 1 (Nat.sub (Nat.add (Nat.sub a v) (Nat.sub v a)) 0) = 0 by simp only [Nat.sub_eq, Nat.add_eq]; omega]
    rfl
def scI (m X : Nat) : Prop := X = pk (fun p => fN p (65536 - m)) 17
def scG (s : Nat) : Prop := min (nxF s) 65536 = fN (bcF s) (65535 - s)
theorem fN_lt (p d : Nat) (hd : d ≤ 65536) : fN p d < 131072 := by have := fN_b p d hd; omega
theorem stp_ok {s X : Nat} (hs : s < 65536) (hI : scI (s + 1) X) (h0 : stp s X ≠ 0) : scI s (stp s X) ∧ scG s := by
  have hb := bc_b hs
  have hg : X / 131072 ^ bcF s % 131072 = fN (bcF s) (65535 - s) := by
    rw [hI, show 65536 - (s + 1) = 65535 - s by omega]
    exact pkn_get (f := fun p => fN p (65535 - s)) (fun i => fN_lt i _ (by omega)) 17 (by omega)
  rw [stp_eq] at h0 ⊢
  by_cases hc : Nat.min (nxF s) 65536 = X / 131072 ^ bcF s % 131072
  · rw [if_pos hc]
    refine ⟨?_, ?_⟩
    · unfold scI
      have hu := (pkn_up (f := fun p => fN p (65535 - s)) (p := bcF s) (v := s) 17).1 (by omega)
      have he : (fun p => fN p (65536 - s)) = nup (fun p => fN p (65535 - s)) (bcF s) s := by
        funext p
        unfold nup
        rw [show 65536 - s = 65535 - s + 1 by omega, fN, show 65535 - (65535 - s) = s by omega]
        by_cases e : p = bcF s
        · rw [if_pos e, if_pos e.symm]
        · rw [if_neg e, if_neg (fun z => e z.symm)]
      rw [he, hg]
      rw [hI, show 65536 - (s + 1) = 65535 - s by omega]
      generalize pk (nup (fun p => fN p (65535 - s)) (bcF s) s) 17 = Q at hu ⊢
      generalize pk (fun p => fN p (65535 - s)) 17 = R at hu ⊢
      generalize fN (bcF s) (65535 - s) * 131072 ^ bcF s = U at hu ⊢
      generalize s * 131072 ^ bcF s = W at hu ⊢
      omega
    · unfold scG
      rw [← hg, ← hc]
  · rw [if_neg hc] at h0
    exact absurd rfl h0
theorem inn_ok {h : Nat} (hh : h < 256) : ∀ l, l ≤ 256 → ∀ X, scI (256 * h + l) X → inn h l X ≠ 0 → scI (256 * h) (inn h l X) ∧ ∀ j, j < l → scG (256 * h + j) := by
  intro l
  induction l with
  | zero => intro _ X hI _; exact ⟨hI, fun j hj => by omega⟩
  | succ l ih =>
    intro hl X hI h0
    have e : inn h (l + 1) X = Nat.rec 0 (fun m _ => inn h l (Nat.succ m)) (stp (256 * h + l) X) := rfl
    have h1 : stp (256 * h + l) X ≠ 0 := fun z => by rw [e, z] at h0; exact h0 rfl
    have e2 : inn h (l + 1) X = inn h l (stp (256 * h + l) X) := by
      rw [e]
      cases hz : stp (256 * h + l) X with
      | zero => exact absurd hz h1
      | succ m => rfl
    obtain ⟨a, b⟩ := stp_ok (by omega) (by rw [Nat.add_assoc]; exact hI) h1
    rw [e2] at h0 ⊢
    obtain ⟨c, d⟩ := ih (by omega) _ a h0
    refine ⟨c, fun j hj => ?_⟩
    rcases (show j < l ∨ j = l by omega) with z | z
    · exact d j z
    · rw [z]; exact b
theorem sc_stp {h X Y : Nat} (hh : h < 256) (hc : (Nat.ble 1 Y && Nat.beq (inn h 256 X) Y) = true) (hp : scI (256 * (h + 1)) X ∧ ∀ s, 256 * (h + 1) ≤ s → s < 65536 → scG s) : scI (256 * h) Y ∧ ∀ s, 256 * h ≤ s → s < 65536 → scG s := by
  rw [Bool.and_eq_true] at hc
  have hY := Nat.eq_of_beq_eq_true hc.2
  have h0 := Nat.le_of_ble_eq_true hc.1
  obtain ⟨u, v⟩ := inn_ok hh 256 (Nat.le_refl _) X (by rw [show 256 * h + 256 = 256 * (h + 1) by omega]; exact hp.1) (by omega)
  rw [hY] at u
  refine ⟨u, fun s h1 h2 => ?_⟩
  rcases (show 256 * (h + 1) ≤ s ∨ s < 256 * (h + 1) by omega) with z | z
  · exact hp.2 s z h2
  · have := v (s - 256 * h) (by omega)
    rw [show 256 * h + (s - 256 * h) = s by omega] at this
    exact this
theorem sc_256 : scI (256 * (255 + 1)) 497327030713915013699371043397090898472179113589657208843729691383602792321923038642176 ∧ ∀ s, 256 * (255 + 1) ≤ s → s < 65536 → scG s := ⟨show _ = pk (fun p => fN p (65536 - 256 * (255 + 1))) 17 by decide +kernel, fun s h1 h2 => by omega⟩
theorem sc_255 : scI (256 * 255) 497319434694879750009162905969231958529615446326240876170490479146369921906663913226240 ∧ ∀ s, 256 * 255 ≤ s → s < 65536 → scG s := sc_stp (h := 255) (by decide) (by decide +kernel) sc_256
theorem sc_254 : scI (256 * 254) 497319427284101229406932359041913135330497704647102579317793223881789520168105455714304 ∧ ∀ s, 256 * 254 ≤ s → s < 65536 → scG s := sc_stp (h := 254) (by decide) (by decide +kernel) sc_255
theorem sc_253 : scI (256 * 253) 497319412462600727955588652810466767914983161823695121665083335414140856411691134550016 ∧ ∀ s, 256 * 253 ≤ s → s < 65536 → scG s := sc_stp (h := 253) (by decide) (by decide +kernel) sc_254
theorem sc_252 : scI (256 * 252) 497319412462544188202471265187275488932262221289166927401020685739200914671454119854080 ∧ ∀ s, 256 * 252 ≤ s → s < 65536 → scG s := sc_stp (h := 252) (by decide) (by decide +kernel) sc_253
theorem sc_251 : scI (256 * 251) 497319382819599725052901240347574033083954076176880201167366699944015900368366163001344 ∧ ∀ s, 256 * 251 ≤ s → s < 65536 → scG s := sc_stp (h := 251) (by decide) (by decide +kernel) sc_252
theorem sc_250 : scI (256 * 250) 497319382819543185299783852724382754101233135642352009499452479536489772893377312915456 ∧ ∀ s, 256 * 250 ≤ s → s < 65536 → scG s := sc_stp (h := 250) (by decide) (by decide +kernel) sc_251
theorem sc_249 : scI (256 * 249) 497319382819430106224913160710022467797770798037502587750660573485704955017219503357952 ∧ ∀ s, 256 * 249 ≤ s → s < 65536 → scG s := sc_stp (h := 249) (by decide) (by decide +kernel) sc_250
theorem sc_248 : scI (256 * 248) 497319382819430105793549077478000196135791254573295628764763842227249985477041046224896 ∧ ∀ s, 256 * 248 ≤ s → s < 65536 → scG s := sc_stp (h := 248) (by decide) (by decide +kernel) sc_249
theorem sc_247 : scI (256 * 247) 497319323533597719247526415421788563421895904883250365369221661776992270080605817995264 ∧ ∀ s, 256 * 247 ≤ s → s < 65536 → scG s := sc_stp (h := 247) (by decide) (by decide +kernel) sc_248
theorem sc_246 : scI (256 * 246) 497319323533541179494409027798597284439174964348722173696236838968553224999630155087872 ∧ ∀ s, 256 * 246 ≤ s → s < 65536 → scG s := sc_stp (h := 246) (by decide) (by decide +kernel) sc_247
theorem sc_245 : scI (256 * 245) 497319323533428100419538335784236998135712626743872751947444932917768407123472345530368 ∧ ∀ s, 256 * 245 ≤ s → s < 65536 → scG s := sc_stp (h := 245) (by decide) (by decide +kernel) sc_246
theorem sc_244 : scI (256 * 244) 497319323533428099988174252552214726473733083279665792961587815740570569752090660372480 ∧ ∀ s, 256 * 244 ≤ s → s < 65536 → scG s := sc_stp (h := 244) (by decide) (by decide +kernel) sc_245
theorem sc_243 : scI (256 * 243) 497319323533201942269796951755516425528787951534173908449821506734941639202359954440192 ∧ ∀ s, 256 * 243 ≤ s → s < 65536 → scG s := sc_stp (h := 243) (by decide) (by decide +kernel) sc_244
theorem sc_242 : scI (256 * 242) 497319323533201941838432868523494153866808408069966949463984196598372367915376655269888 ∧ ∀ s, 256 * 242 ≤ s → s < 65536 → scG s := sc_stp (h := 242) (by decide) (by decide +kernel) sc_243
theorem sc_241 : scI (256 * 241) 497319323533201940975707993106227198603393617250130486684582426640593049793902380384256 ∧ ∀ s, 256 * 241 ≤ s → s < 65536 → scG s := sc_stp (h := 241) (by decide) (by decide +kernel) sc_242
theorem sc_240 : scI (256 * 240) 497319323533201940975704702059449610542849321141553031492329420842562799479312858808320 ∧ ∀ s, 256 * 240 ≤ s → s < 65536 → scG s := sc_stp (h := 240) (by decide) (by decide +kernel) sc_241
theorem sc_239 : scI (256 * 239) 497319204961593707636776765570217624097779562295990693773010851082159681896183087824896 ∧ ∀ s, 256 * 239 ≤ s → s < 65536 → scG s := sc_stp (h := 239) (by decide) (by decide +kernel) sc_240
theorem sc_238 : scI (256 * 238) 497319204961537167883659377947026345115058621761462502089884823471894801603233799274496 ∧ ∀ s, 256 * 238 ≤ s → s < 65536 → scG s := sc_stp (h := 238) (by decide) (by decide +kernel) sc_239
theorem sc_237 : scI (256 * 237) 497319204961424088808788685932666058811596284156613080341092917421109983727075989716992 ∧ ∀ s, 256 * 237 ≤ s → s < 65536 → scG s := sc_stp (h := 237) (by decide) (by decide +kernel) sc_238
theorem sc_236 : scI (256 * 236) 497319204961424088377424602700643787149616740692406121355235761558285918687560713961472 ∧ ∀ s, 256 * 236 ≤ s → s < 65536 → scG s := sc_stp (h := 236) (by decide) (by decide +kernel) sc_237
theorem sc_235 : scI (256 * 235) 497319204961197930659047301903945486204671608946914236843469452552656988137830008029184 ∧ ∀ s, 256 * 235 ≤ s → s < 65536 → scG s := sc_stp (h := 235) (by decide) (by decide +kernel) sc_236
theorem sc_234 : scI (256 * 234) 497319204961197930227683218671923214542692065482707277857632142416087716850846708858880 ∧ ∀ s, 256 * 234 ≤ s → s < 65536 → scG s := sc_stp (h := 234) (by decide) (by decide +kernel) sc_235
theorem sc_233 : scI (256 * 233) 497319204961197929364958343254656259279277274662870815078230372458308398729372433973248 ∧ ∀ s, 256 * 233 ≤ s → s < 65536 → scG s := sc_stp (h := 233) (by decide) (by decide +kernel) sc_234
theorem sc_232 : scI (256 * 232) 497319204961197929364955052207878671218732978554293359885977367264741058222097499750400 ∧ ∀ s, 256 * 232 ≤ s → s < 65536 → scG s := sc_stp (h := 232) (by decide) (by decide +kernel) sc_233
theorem sc_231 : scI (256 * 231) 497319204960745614359564533846504340990822258527516549848262252349423902325221001068544 ∧ ∀ s, 256 * 231 ≤ s → s < 65536 → scG s := sc_stp (h := 231) (by decide) (by decide +kernel) sc_232
theorem sc_230 : scI (256 * 230) 497319204960745613928200450614482069328842715063309590862424903527228403370104111300608 ∧ ∀ s, 256 * 230 ≤ s → s < 65536 → scG s := sc_stp (h := 230) (by decide) (by decide +kernel) sc_231
theorem sc_229 : scI (256 * 229) 497319204960745613065475575197215114065427924243473128083023133569449085248629836414976 ∧ ∀ s, 256 * 229 ≤ s → s < 65536 → scG s := sc_stp (h := 229) (by decide) (by decide +kernel) sc_230
theorem sc_228 : scI (256 * 228) 497319204960745613065472284150437526004883628134895672890770128678113199645012195868672 ∧ ∀ s, 256 * 228 ≤ s → s < 65536 → scG s := sc_stp (h := 228) (by decide) (by decide +kernel) sc_229
theorem sc_227 : scI (256 * 227) 497319204960745611340025824362681203538598342603800202524219593351658994102023992967168 ∧ ∀ s, 256 * 227 ≤ s → s < 65536 → scG s := sc_stp (h := 227) (by decide) (by decide +kernel) sc_228
theorem sc_226 : scI (256 * 226) 497319204960745611340022533315903615478054046495222747331966588611438835950234999259136 ∧ ∀ s, 256 * 226 ≤ s → s < 65536 → scG s := sc_stp (h := 226) (by decide) (by decide +kernel) sc_227
theorem sc_225 : scI (256 * 225) 497319204960745611340015951247457133643983738460014466108953440099399973498161928929280 ∧ ∀ s, 256 * 225 ≤ s → s < 65536 → scG s := sc_stp (h := 225) (by decide) (by decide +kernel) sc_226
theorem sc_224 : scI (256 * 224) 497319204960745611340015951222348439356965454278067836947460579282390948259591301955584 ∧ ∀ s, 256 * 224 ≤ s → s < 65536 → scG s := sc_stp (h := 224) (by decide) (by decide +kernel) sc_225
theorem sc_223 : scI (256 * 223) 497318967817585684415277465867075745449546877121471350580589230901697026303072445464576 ∧ ∀ s, 256 * 223 ≤ s → s < 65536 → scG s := sc_stp (h := 223) (by decide) (by decide +kernel) sc_224
theorem sc_222 : scI (256 * 222) 497318967817529144662160078243884466466825936586943158877180793687780475586175905628160 ∧ ∀ s, 256 * 222 ≤ s → s < 65536 → scG s := sc_stp (h := 222) (by decide) (by decide +kernel) sc_223
theorem sc_221 : scI (256 * 221) 497318967817416065587289386229524180163363598982093737128388887636995657710018096070656 ∧ ∀ s, 256 * 221 ≤ s → s < 65536 → scG s := sc_stp (h := 221) (by decide) (by decide +kernel) sc_222
theorem sc_220 : scI (256 * 220) 497318967817416065155925302997501908501384055517886778142531654402919137334235639119872 ∧ ∀ s, 256 * 220 ≤ s → s < 65536 → scG s := sc_stp (h := 220) (by decide) (by decide +kernel) sc_221
theorem sc_219 : scI (256 * 219) 497318967817189907437548002200803607556438923772394893630765345397290206784504933187584 ∧ ∀ s, 256 * 219 ≤ s → s < 65536 → scG s := sc_stp (h := 219) (by decide) (by decide +kernel) sc_220
theorem sc_218 : scI (256 * 218) 497318967817189907006183918968781335894459380308187934644928035260720935497521634017280 ∧ ∀ s, 256 * 218 ≤ s → s < 65536 → scG s := sc_stp (h := 218) (by decide) (by decide +kernel) sc_219
theorem sc_217 : scI (256 * 217) 497318967817189906143459043551514380631044589488351471865526265302941617376047359131648 ∧ ∀ s, 256 * 217 ≤ s → s < 65536 → scG s := sc_stp (h := 217) (by decide) (by decide +kernel) sc_218
theorem sc_216 : scI (256 * 216) 497318967817189906143455752504736792570500293379774016673273260109079128963593072082944 ∧ ∀ s, 256 * 216 ≤ s → s < 65536 → scG s := sc_stp (h := 216) (by decide) (by decide +kernel) sc_217
theorem sc_215 : scI (256 * 215) 497318967816737591138065234143362462342589573352997206635558145193761973066716573401088 ∧ ∀ s, 256 * 215 ≤ s → s < 65536 → scG s := sc_stp (h := 215) (by decide) (by decide +kernel) sc_216
theorem sc_214 : scI (256 * 214) 497318967816737590706701150911340190680610029888790247649720796371566474111599683633152 ∧ ∀ s, 256 * 214 ≤ s → s < 65536 → scG s := sc_stp (h := 214) (by decide) (by decide +kernel) sc_215
theorem sc_213 : scI (256 * 213) 497318967816737589843976275494073235417195239068953784870319026413787155990125408747520 ∧ ∀ s, 256 * 213 ≤ s → s < 65536 → scG s := sc_stp (h := 213) (by decide) (by decide +kernel) sc_214
theorem sc_212 : scI (256 * 212) 497318967816737589843972984447295647356650942960376329678066021522451270386507768201216 ∧ ∀ s, 256 * 212 ≤ s → s < 65536 → scG s := sc_stp (h := 212) (by decide) (by decide +kernel) sc_213
theorem sc_211 : scI (256 * 211) 497318967816737588118526524659539324890365657429280859311515486195997064843519565299712 ∧ ∀ s, 256 * 211 ≤ s → s < 65536 → scG s := sc_stp (h := 211) (by decide) (by decide +kernel) sc_212
theorem sc_210 : scI (256 * 210) 497318967816737588118523233612761736829821361320703404119262481455776906691730571591680 ∧ ∀ s, 256 * 210 ≤ s → s < 65536 → scG s := sc_stp (h := 210) (by decide) (by decide +kernel) sc_211
theorem sc_209 : scI (256 * 209) 497318967816737588118516651544315254995751053285495122896249332943738044239657501261824 ∧ ∀ s, 256 * 209 ≤ s → s < 65536 → scG s := sc_stp (h := 209) (by decide) (by decide +kernel) sc_210
theorem sc_208 : scI (256 * 208) 497318967816737588118516651519206560708732769103548493734756472126738242373123729063936 ∧ ∀ s, 256 * 208 ≤ s → s < 65536 → scG s := sc_stp (h := 208) (by decide) (by decide +kernel) sc_209
theorem sc_207 : scI (256 * 207) 497318967815832958539099698028480171914890872514201832645143745392044635781955644882944 ∧ ∀ s, 256 * 207 ≤ s → s < 65536 → scG s := sc_stp (h := 207) (by decide) (by decide +kernel) sc_208
theorem sc_206 : scI (256 * 206) 497318967815832958107735614796457900252911329049994873659306319198596681490571573919744 ∧ ∀ s, 256 * 206 ≤ s → s < 65536 → scG s := sc_stp (h := 206) (by decide) (by decide +kernel) sc_207
theorem sc_205 : scI (256 * 205) 497318967815832957245010739379190944989496538230158410879904549240817363369097299034112 ∧ ∀ s, 256 * 205 ≤ s → s < 65536 → scG s := sc_stp (h := 205) (by decide) (by decide +kernel) sc_206
theorem sc_204 : scI (256 * 204) 497318967815832957245007448332413356928952242121580955687651544349186329860300305661952 ∧ ∀ s, 256 * 204 ≤ s → s < 65536 → scG s := sc_stp (h := 204) (by decide) (by decide +kernel) sc_205
theorem sc_203 : scI (256 * 203) 497318967815832955519560988544657034462666956590485485321101009022732124317312102760448 ∧ ∀ s, 256 * 203 ≤ s → s < 65536 → scG s := sc_stp (h := 203) (by decide) (by decide +kernel) sc_204
theorem sc_202 : scI (256 * 202) 497318967815832955519557697497879446402122660481908030128848004282511966165523109052416 ∧ ∀ s, 256 * 202 ≤ s → s < 65536 → scG s := sc_stp (h := 202) (by decide) (by decide +kernel) sc_203
theorem sc_201 : scI (256 * 201) 497318967815832955519551115429432964568052352446699748905834855770473103713450038722560 ∧ ∀ s, 256 * 201 ≤ s → s < 65536 → scG s := sc_stp (h := 201) (by decide) (by decide +kernel) sc_202
theorem sc_200 : scI (256 * 200) 497318967815832955519551115404324270281034068264753119744341994953477913532934693912576 ∧ ∀ s, 256 * 200 ≤ s → s < 65536 → scG s := sc_stp (h := 200) (by decide) (by decide +kernel) sc_201
theorem sc_199 : scI (256 * 199) 497318967815832952068661486875589213409007793311139634203493928889673933146918634979328 ∧ ∀ s, 256 * 199 ≤ s → s < 65536 → scG s := sc_stp (h := 199) (by decide) (by decide +kernel) sc_200
theorem sc_198 : scI (256 * 198) 497318967815832952068658195828811625348463497202562179011240924149158627089950288445440 ∧ ∀ s, 256 * 198 ≤ s → s < 65536 → scG s := sc_stp (h := 198) (by decide) (by decide +kernel) sc_199
theorem sc_197 : scI (256 * 197) 497318967815832952068651613760365143514393189167353897788227775637119764637877218115584 ∧ ∀ s, 256 * 197 ≤ s → s < 65536 → scG s := sc_stp (h := 197) (by decide) (by decide +kernel) sc_198
theorem sc_196 : scI (256 * 196) 497318967815832952068651613735256449227374904985407268626734914820126880300371086999552 ∧ ∀ s, 256 * 196 ≤ s → s < 65536 → scG s := sc_stp (h := 196) (by decide) (by decide +kernel) sc_197
theorem sc_195 : scI (256 * 195) 497318967815832952068638449623472179846252573096937335342201478613039733890721863761920 ∧ ∀ s, 256 * 195 ≤ s → s < 65536 → scG s := sc_stp (h := 195) (by decide) (by decide +kernel) sc_196
theorem sc_194 : scI (256 * 194) 497318967815832952068638449598363485559234288914990706180708617796048002474720339492864 ∧ ∀ s, 256 * 194 ≤ s → s < 65536 → scG s := sc_stp (h := 194) (by decide) (by decide +kernel) sc_195
theorem sc_193 : scI (256 * 193) 497318967815832952068638449548146288549332600756512654359715400227471097881348360175616 ∧ ∀ s, 256 * 193 ≤ s → s < 65536 → scG s := sc_stp (h := 193) (by decide) (by decide +kernel) sc_194
theorem sc_192 : scI (256 * 192) 497318967815832952068638449548146096985197720551097447857722896162065694534546734776320 ∧ ∀ s, 256 * 192 ≤ s → s < 65536 → scG s := sc_stp (h := 192) (by decide) (by decide +kernel) sc_193
theorem sc_191 : scI (256 * 191) 497318493529569637972278866460791988153081506772432664195745990540790163831249707270144 ∧ ∀ s, 256 * 191 ≤ s → s < 65536 → scG s := sc_stp (h := 191) (by decide) (by decide +kernel) sc_192
theorem sc_190 : scI (256 * 190) 497318493529513098219161478837600709170360566237904472451772734119570272266458664861696 ∧ ∀ s, 256 * 190 ≤ s → s < 65536 → scG s := sc_stp (h := 190) (by decide) (by decide +kernel) sc_191
theorem sc_189 : scI (256 * 189) 497318493529400019144290786823240422866898228633055050702980828068785454390300855304192 ∧ ∀ s, 256 * 189 ≤ s → s < 65536 → scG s := sc_stp (h := 189) (by decide) (by decide +kernel) sc_190
theorem sc_188 : scI (256 * 188) 497318493529400018712926703591218151204918685168848091717123440092204023341984035962880 ∧ ∀ s, 256 * 188 ≤ s → s < 65536 → scG s := sc_stp (h := 188) (by decide) (by decide +kernel) sc_189
theorem sc_187 : scI (256 * 187) 497318493529173860994549402794519850259973553423356207205357131086575092792253330030592 ∧ ∀ s, 256 * 187 ≤ s → s < 65536 → scG s := sc_stp (h := 187) (by decide) (by decide +kernel) sc_188
theorem sc_186 : scI (256 * 186) 497318493529173860563185319562497578597994009959149248219519820950005821505270030860288 ∧ ∀ s, 256 * 186 ≤ s → s < 65536 → scG s := sc_stp (h := 186) (by decide) (by decide +kernel) sc_187
theorem sc_185 : scI (256 * 185) 497318493529173859700460444145230623334579219139312785440118050992226503383795755974656 ∧ ∀ s, 256 * 185 ≤ s → s < 65536 → scG s := sc_stp (h := 185) (by decide) (by decide +kernel) sc_186
theorem sc_184 : scI (256 * 184) 497318493529173859700457153098453035274034923030735330247865045797773719160982763274240 ∧ ∀ s, 256 * 184 ≤ s → s < 65536 → scG s := sc_stp (h := 184) (by decide) (by decide +kernel) sc_185
theorem sc_183 : scI (256 * 183) 497318493528721544695066634737078705046124203003958520210149930882456563264106264592384 ∧ ∀ s, 256 * 183 ≤ s → s < 65536 → scG s := sc_stp (h := 183) (by decide) (by decide +kernel) sc_184
theorem sc_182 : scI (256 * 182) 497318493528721544263702551505056433384144659539751561224312582060261064308989374824448 ∧ ∀ s, 256 * 182 ≤ s → s < 65536 → scG s := sc_stp (h := 182) (by decide) (by decide +kernel) sc_183
theorem sc_181 : scI (256 * 181) 497318493528721543400977676087789478120729868719915098444910812102481746187515099938816 ∧ ∀ s, 256 * 181 ≤ s → s < 65536 → scG s := sc_stp (h := 181) (by decide) (by decide +kernel) sc_182
theorem sc_180 : scI (256 * 180) 497318493528721543400974385041011890060185572611337643252657807211145860583897459392512 ∧ ∀ s, 256 * 180 ≤ s → s < 65536 → scG s := sc_stp (h := 180) (by decide) (by decide +kernel) sc_181
theorem sc_179 : scI (256 * 179) 497318493528721541675527925253255567593900287080242172886107271884691655040909256491008 ∧ ∀ s, 256 * 179 ≤ s → s < 65536 → scG s := sc_stp (h := 179) (by decide) (by decide +kernel) sc_180
theorem sc_178 : scI (256 * 178) 497318493528721541675524634206477979533355990971664717693854267144471496889120262782976 ∧ ∀ s, 256 * 178 ≤ s → s < 65536 → scG s := sc_stp (h := 178) (by decide) (by decide +kernel) sc_179
theorem sc_177 : scI (256 * 177) 497318493528721541675518052138031497699285682936456436470841118632432634437047192453120 ∧ ∀ s, 256 * 177 ≤ s → s < 65536 → scG s := sc_stp (h := 177) (by decide) (by decide +kernel) sc_178
theorem sc_176 : scI (256 * 176) 497318493528721541675518052112922803412267398754509807309348257815432830318713606569984 ∧ ∀ s, 256 * 176 ≤ s → s < 65536 → scG s := sc_stp (h := 176) (by decide) (by decide +kernel) sc_177
theorem sc_175 : scI (256 * 175) 497318493527816912096101098622196414618425502165163146219735531080739223727545522388992 ∧ ∀ s, 256 * 175 ≤ s → s < 65536 → scG s := sc_stp (h := 175) (by decide) (by decide +kernel) sc_176
theorem sc_174 : scI (256 * 174) 497318493527816911664737015390174142956445958700956187233898104887291269436161451425792 ∧ ∀ s, 256 * 174 ≤ s → s < 65536 → scG s := sc_stp (h := 174) (by decide) (by decide +kernel) sc_175
theorem sc_173 : scI (256 * 173) 497318493527816910802012139972907187693031167881119724454496334929511951314687176540160 ∧ ∀ s, 256 * 173 ≤ s → s < 65536 → scG s := sc_stp (h := 173) (by decide) (by decide +kernel) sc_174
theorem sc_172 : scI (256 * 172) 497318493527816910802008848926129599632486871772542269262243330037880917805890183168000 ∧ ∀ s, 256 * 172 ≤ s → s < 65536 → scG s := sc_stp (h := 172) (by decide) (by decide +kernel) sc_173
theorem sc_171 : scI (256 * 171) 497318493527816909076562389138373277166201586241446798895692794711426712262901980266496 ∧ ∀ s, 256 * 171 ≤ s → s < 65536 → scG s := sc_stp (h := 171) (by decide) (by decide +kernel) sc_172
theorem sc_170 : scI (256 * 170) 497318493527816909076559098091595689105657290132869343703439789971206554111112986558464 ∧ ∀ s, 256 * 170 ≤ s → s < 65536 → scG s := sc_stp (h := 170) (by decide) (by decide +kernel) sc_171
theorem sc_169 : scI (256 * 169) 497318493527816909076552516023149207271586982097661062480426641459167691659039916228608 ∧ ∀ s, 256 * 169 ≤ s → s < 65536 → scG s := sc_stp (h := 169) (by decide) (by decide +kernel) sc_170
theorem sc_168 : scI (256 * 168) 497318493527816909076552515998040512984568697915714433318933780642172501478524571418624 ∧ ∀ s, 256 * 168 ≤ s → s < 65536 → scG s := sc_stp (h := 168) (by decide) (by decide +kernel) sc_169
theorem sc_167 : scI (256 * 167) 497318493527816905625662887469305456112542422962100947778085714578368521092508512485376 ∧ ∀ s, 256 * 167 ≤ s → s < 65536 → scG s := sc_stp (h := 167) (by decide) (by decide +kernel) sc_168
theorem sc_166 : scI (256 * 166) 497318493527816905625659596422527868051998126853523492585832709837853215035540165951488 ∧ ∀ s, 256 * 166 ≤ s → s < 65536 → scG s := sc_stp (h := 166) (by decide) (by decide +kernel) sc_167
theorem sc_165 : scI (256 * 165) 497318493527816905625653014354081386217927818818315211362819561325814352583467095621632 ∧ ∀ s, 256 * 165 ≤ s → s < 65536 → scG s := sc_stp (h := 165) (by decide) (by decide +kernel) sc_166
theorem sc_164 : scI (256 * 164) 497318493527816905625653014328972691930909534636368582201326700508821468245960964505600 ∧ ∀ s, 256 * 164 ≤ s → s < 65536 → scG s := sc_stp (h := 164) (by decide) (by decide +kernel) sc_165
theorem sc_163 : scI (256 * 163) 497318493527816905625639850217188422549787202747898648916793264301734321836311741267968 ∧ ∀ s, 256 * 163 ≤ s → s < 65536 → scG s := sc_stp (h := 163) (by decide) (by decide +kernel) sc_164
theorem sc_162 : scI (256 * 162) 497318493527816905625639850192079728262768918565952019755300403484742590420310216998912 ∧ ∀ s, 256 * 162 ≤ s → s < 65536 → scG s := sc_stp (h := 162) (by decide) (by decide +kernel) sc_163
theorem sc_161 : scI (256 * 161) 497318493527816905625639850141862531252867230407473967934307185916165685826938237681664 ∧ ∀ s, 256 * 161 ≤ s → s < 65536 → scG s := sc_stp (h := 161) (by decide) (by decide +kernel) sc_162
theorem sc_160 : scI (256 * 160) 497318493527816905625639850141862339688732350202058761432314681850760282620874100637696 ∧ ∀ s, 256 * 160 ≤ s → s < 65536 → scG s := sc_stp (h := 160) (by decide) (by decide +kernel) sc_161
theorem sc_159 : scI (256 * 159) 497318493526007646898170026392431833763028100487572398238906731477313774641122845458432 ∧ ∀ s, 256 * 159 ≤ s → s < 65536 → scG s := sc_stp (h := 159) (by decide) (by decide +kernel) sc_160
theorem sc_158 : scI (256 * 158) 497318493526007646466805943160409562101048557023365439253069150541360909677204412104704 ∧ ∀ s, 256 * 158 ≤ s → s < 65536 → scG s := sc_stp (h := 158) (by decide) (by decide +kernel) sc_159
theorem sc_157 : scI (256 * 157) 497318493526007645604081067743142606837633766203528976473667380583581591555730137219072 ∧ ∀ s, 256 * 157 ≤ s → s < 65536 → scG s := sc_stp (h := 157) (by decide) (by decide +kernel) sc_158
theorem sc_156 : scI (256 * 156) 497318493526007645604077776696365018777089470094951521281414375691360262236574438195200 ∧ ∀ s, 256 * 156 ≤ s → s < 65536 → scG s := sc_stp (h := 156) (by decide) (by decide +kernel) sc_157
theorem sc_155 : scI (256 * 155) 497318493526007643878631316908608696310804184563856050914863840364906056693586235293696 ∧ ∀ s, 256 * 155 ≤ s → s < 65536 → scG s := sc_stp (h := 155) (by decide) (by decide +kernel) sc_156
theorem sc_154 : scI (256 * 154) 497318493526007643878628025861831108250259888455278595722610835624685898541797241585664 ∧ ∀ s, 256 * 154 ≤ s → s < 65536 → scG s := sc_stp (h := 154) (by decide) (by decide +kernel) sc_155
theorem sc_153 : scI (256 * 153) 497318493526007643878621443793384626416189580420070314499597687112647036089724171255808 ∧ ∀ s, 256 * 153 ≤ s → s < 65536 → scG s := sc_stp (h := 153) (by decide) (by decide +kernel) sc_154
theorem sc_152 : scI (256 * 152) 497318493526007643878621443768275932129171296238123685338104826295651843657409012760576 ∧ ∀ s, 256 * 152 ≤ s → s < 65536 → scG s := sc_stp (h := 152) (by decide) (by decide +kernel) sc_153
theorem sc_151 : scI (256 * 151) 497318493526007640427731815239540875257145021284510199797256760231847863271392953827328 ∧ ∀ s, 256 * 151 ≤ s → s < 65536 → scG s := sc_stp (h := 151) (by decide) (by decide +kernel) sc_152
theorem sc_150 : scI (256 * 150) 497318493526007640427728524192763287196600725175932744605003755491332557214424607293440 ∧ ∀ s, 256 * 150 ≤ s → s < 65536 → scG s := sc_stp (h := 150) (by decide) (by decide +kernel) sc_151
theorem sc_149 : scI (256 * 149) 497318493526007640427721942124316805362530417140724463381990606979293694762351536963584 ∧ ∀ s, 256 * 149 ≤ s → s < 65536 → scG s := sc_stp (h := 149) (by decide) (by decide +kernel) sc_150
theorem sc_148 : scI (256 * 148) 497318493526007640427721942099208111075512132958777834220497746162300810424845405847552 ∧ ∀ s, 256 * 148 ≤ s → s < 65536 → scG s := sc_stp (h := 148) (by decide) (by decide +kernel) sc_149
theorem sc_147 : scI (256 * 147) 497318493526007640427708777987423841694389801070307900935964309955213664015196182609920 ∧ ∀ s, 256 * 147 ≤ s → s < 65536 → scG s := sc_stp (h := 147) (by decide) (by decide +kernel) sc_148
theorem sc_146 : scI (256 * 146) 497318493526007640427708777962315147407371516888361271774471449138221932599194658340864 ∧ ∀ s, 256 * 146 ≤ s → s < 65536 → scG s := sc_stp (h := 146) (by decide) (by decide +kernel) sc_147
theorem sc_145 : scI (256 * 145) 497318493526007640427708777912097950397469828729883219953478231569645028005822679023616 ∧ ∀ s, 256 * 145 ≤ s → s < 65536 → scG s := sc_stp (h := 145) (by decide) (by decide +kernel) sc_146
theorem sc_144 : scI (256 * 144) 497318493526007640427708777912097758833334948524468013451485727504239624870127286157312 ∧ ∀ s, 256 * 144 ≤ s → s < 65536 → scG s := sc_stp (h := 144) (by decide) (by decide +kernel) sc_145
theorem sc_143 : scI (256 * 143) 497318493526007633525932811901405233149826694725818497562042599965736094798055515160576 ∧ ∀ s, 256 * 143 ≤ s → s < 65536 → scG s := sc_stp (h := 143) (by decide) (by decide +kernel) sc_144
theorem sc_142 : scI (256 * 142) 497318493526007633525929520854627645089282398617241042369789595224630492930728462974976 ∧ ∀ s, 256 * 142 ≤ s → s < 65536 → scG s := sc_stp (h := 142) (by decide) (by decide +kernel) sc_143
theorem sc_141 : scI (256 * 141) 497318493526007633525922938786181163255212090582032761146776446712591630478655392645120 ∧ ∀ s, 256 * 141 ≤ s → s < 65536 → scG s := sc_stp (h := 141) (by decide) (by decide +kernel) sc_142
theorem sc_140 : scI (256 * 140) 497318493526007633525922938761072468968193806400086131985283585895598743889349447843840 ∧ ∀ s, 256 * 140 ≤ s → s < 65536 → scG s := sc_stp (h := 140) (by decide) (by decide +kernel) sc_141
theorem sc_139 : scI (256 * 139) 497318493526007633525909774649288199587071474511616198700750149688511597479700224606208 ∧ ∀ s, 256 * 139 ≤ s → s < 65536 → scG s := sc_stp (h := 139) (by decide) (by decide +kernel) sc_140
theorem sc_138 : scI (256 * 138) 497318493526007633525909774624179505300053190329669569539257288871519866063698700337152 ∧ ∀ s, 256 * 138 ≤ s → s < 65536 → scG s := sc_stp (h := 138) (by decide) (by decide +kernel) sc_139
theorem sc_137 : scI (256 * 137) 497318493526007633525909774573962308290151502171191517718264071302942961470326721019904 ∧ ∀ s, 256 * 137 ≤ s → s < 65536 → scG s := sc_stp (h := 137) (by decide) (by decide +kernel) sc_138
theorem sc_136 : scI (256 * 136) 497318493526007633525909774573962116726016621965776311216271567237537558369815700242432 ∧ ∀ s, 256 * 136 ≤ s → s < 65536 → scG s := sc_stp (h := 136) (by decide) (by decide +kernel) sc_137
theorem sc_135 : scI (256 * 135) 497318493526007633525883446375502272250790242370783073808697555640353844045014171189248 ∧ ∀ s, 256 * 135 ≤ s → s < 65536 → scG s := sc_stp (h := 135) (by decide) (by decide +kernel) sc_136
theorem sc_134 : scI (256 * 134) 497318493526007633525883446350393577963771958188836444647204694823362110377212833234944 ∧ ∀ s, 256 * 134 ≤ s → s < 65536 → scG s := sc_stp (h := 134) (by decide) (by decide +kernel) sc_135
theorem sc_133 : scI (256 * 133) 497318493526007633525883446300176380953870270030358392826211477254785205783840853917696 ∧ ∀ s, 256 * 133 ≤ s → s < 65536 → scG s := sc_stp (h := 133) (by decide) (by decide +kernel) sc_134
theorem sc_132 : scI (256 * 132) 497318493526007633525883446300176189389735389824943186324218973189379802700922019184640 ∧ ∀ s, 256 * 132 ≤ s → s < 65536 → scG s := sc_stp (h := 132) (by decide) (by decide +kernel) sc_133
theorem sc_131 : scI (256 * 131) 497318493526007633525883446199741986934066893713402289184225042117631396579504709238784 ∧ ∀ s, 256 * 131 ≤ s → s < 65536 → scG s := sc_stp (h := 131) (by decide) (by decide +kernel) sc_132
theorem sc_130 : scI (256 * 130) 497318493526007633525883446199741795369932013507987082682232538052225993505381967527936 ∧ ∀ s, 256 * 130 ≤ s → s < 65536 → scG s := sc_stp (h := 130) (by decide) (by decide +kernel) sc_131
theorem sc_129 : scI (256 * 129) 497318493526007633525883446199741412243123771460195346246900651812467932463324217802752 ∧ ∀ s, 256 * 129 ≤ s → s < 65536 → scG s := sc_stp (h := 129) (by decide) (by decide +kernel) sc_130
theorem sc_128 : scI (256 * 128) 497318493526007633525883446199741412241662253097156669678247529921415187365945462030336 ∧ ∀ s, 256 * 128 ≤ s → s < 65536 → scG s := sc_stp (h := 128) (by decide) (by decide +kernel) sc_129
theorem sc_127 : scI (256 * 127) 497317544953537545086281667648224473560150766074355291426059509818976439169092092493824 ∧ ∀ s, 256 * 127 ≤ s → s < 65536 → scG s := sc_stp (h := 127) (by decide) (by decide +kernel) sc_128
theorem sc_126 : scI (256 * 126) 497317544953481005333164280025033194577429825539827099600956614983149865908512044941312 ∧ ∀ s, 256 * 126 ≤ s → s < 65536 → scG s := sc_stp (h := 126) (by decide) (by decide +kernel) sc_127
theorem sc_125 : scI (256 * 125) 497317544953367926258293588010672908273967487934977677852164708932365048032354235383808 ∧ ∀ s, 256 * 125 ≤ s → s < 65536 → scG s := sc_stp (h := 125) (by decide) (by decide +kernel) sc_126
theorem sc_124 : scI (256 * 124) 497317544953367925826929504778650636611987944470770718866307011470773795638968691261440 ∧ ∀ s, 256 * 124 ≤ s → s < 65536 → scG s := sc_stp (h := 124) (by decide) (by decide +kernel) sc_125
theorem sc_123 : scI (256 * 123) 497317544953141768108552203981952335667042812725278834354540702465144865089237985329152 ∧ ∀ s, 256 * 123 ≤ s → s < 65536 → scG s := sc_stp (h := 123) (by decide) (by decide +kernel) sc_124
theorem sc_122 : scI (256 * 122) 497317544953141767677188120749930064005063269261071875368703392328575593802254686158848 ∧ ∀ s, 256 * 122 ≤ s → s < 65536 → scG s := sc_stp (h := 122) (by decide) (by decide +kernel) sc_123
theorem sc_121 : scI (256 * 121) 497317544953141766814463245332663108741648478441235412589301622370796275680780411273216 ∧ ∀ s, 256 * 121 ≤ s → s < 65536 → scG s := sc_stp (h := 121) (by decide) (by decide +kernel) sc_122
theorem sc_120 : scI (256 * 120) 497317544953141766814459954285885520681104182332657957397048617175162899837250007269376 ∧ ∀ s, 256 * 120 ≤ s → s < 65536 → scG s := sc_stp (h := 120) (by decide) (by decide +kernel) sc_121
theorem sc_119 : scI (256 * 119) 497317544952689451809069435924511190453193462305881147359333502259845743940373508587520 ∧ ∀ s, 256 * 119 ≤ s → s < 65536 → scG s := sc_stp (h := 119) (by decide) (by decide +kernel) sc_120
theorem sc_118 : scI (256 * 118) 497317544952689451377705352692488918791213918841674188373496153437650244985256618819584 ∧ ∀ s, 256 * 118 ≤ s → s < 65536 → scG s := sc_stp (h := 118) (by decide) (by decide +kernel) sc_119
theorem sc_117 : scI (256 * 117) 497317544952689450514980477275221963527799128021837725594094383479870926863782343933952 ∧ ∀ s, 256 * 117 ≤ s → s < 65536 → scG s := sc_stp (h := 117) (by decide) (by decide +kernel) sc_118
theorem sc_116 : scI (256 * 116) 497317544952689450514977186228444375467254831913260270401841378588535041260164703387648 ∧ ∀ s, 256 * 116 ≤ s → s < 65536 → scG s := sc_stp (h := 116) (by decide) (by decide +kernel) sc_117
theorem sc_115 : scI (256 * 115) 497317544952689448789530726440688053000969546382164800035290843262080835717176500486144 ∧ ∀ s, 256 * 115 ≤ s → s < 65536 → scG s := sc_stp (h := 115) (by decide) (by decide +kernel) sc_116
theorem sc_114 : scI (256 * 114) 497317544952689448789527435393910464940425250273587344843037838521860677565387506778112 ∧ ∀ s, 256 * 114 ≤ s → s < 65536 → scG s := sc_stp (h := 114) (by decide) (by decide +kernel) sc_115
theorem sc_113 : scI (256 * 113) 497317544952689448789520853325463983106354942238379063620024690009821815113314436448256 ∧ ∀ s, 256 * 113 ≤ s → s < 65536 → scG s := sc_stp (h := 113) (by decide) (by decide +kernel) sc_114
theorem sc_112 : scI (256 * 112) 497317544952689448789520853300355288819336658056432434458531829192822006491381223194624 ∧ ∀ s, 256 * 112 ≤ s → s < 65536 → scG s := sc_stp (h := 112) (by decide) (by decide +kernel) sc_113
theorem sc_111 : scI (256 * 111) 497317544951784819210103899809628900025494761467085773368919102458128399900213139013632 ∧ ∀ s, 256 * 111 ≤ s → s < 65536 → scG s := sc_stp (h := 111) (by decide) (by decide +kernel) sc_112
theorem sc_110 : scI (256 * 110) 497317544951784818778739816577606628363515218002878814383081676264680445608829068050432 ∧ ∀ s, 256 * 110 ≤ s → s < 65536 → scG s := sc_stp (h := 110) (by decide) (by decide +kernel) sc_111
theorem sc_109 : scI (256 * 109) 497317544951784817916014941160339673100100427183042351603679906306901127487354793164800 ∧ ∀ s, 256 * 109 ≤ s → s < 65536 → scG s := sc_stp (h := 109) (by decide) (by decide +kernel) sc_110
theorem sc_108 : scI (256 * 108) 497317544951784817916011650113562085039556131074464896411426901415270093978557799792640 ∧ ∀ s, 256 * 108 ≤ s → s < 65536 → scG s := sc_stp (h := 108) (by decide) (by decide +kernel) sc_109
theorem sc_107 : scI (256 * 107) 497317544951784816190565190325805762573270845543369426044876366088815888435569596891136 ∧ ∀ s, 256 * 107 ≤ s → s < 65536 → scG s := sc_stp (h := 107) (by decide) (by decide +kernel) sc_108
theorem sc_106 : scI (256 * 106) 497317544951784816190561899279028174512726549434791970852623361348595730283780603183104 ∧ ∀ s, 256 * 106 ≤ s → s < 65536 → scG s := sc_stp (h := 106) (by decide) (by decide +kernel) sc_107
theorem sc_105 : scI (256 * 105) 497317544951784816190555317210581692678656241399583689629610212836556867831707532853248 ∧ ∀ s, 256 * 105 ≤ s → s < 65536 → scG s := sc_stp (h := 105) (by decide) (by decide +kernel) sc_106
theorem sc_104 : scI (256 * 104) 497317544951784816190555317185472998391637957217637060468117352019561677651192188043264 ∧ ∀ s, 256 * 104 ≤ s → s < 65536 → scG s := sc_stp (h := 104) (by decide) (by decide +kernel) sc_105
theorem sc_103 : scI (256 * 103) 497317544951784812739665688656737941519611682264023574927269285955757697265176129110016 ∧ ∀ s, 256 * 103 ≤ s → s < 65536 → scG s := sc_stp (h := 103) (by decide) (by decide +kernel) sc_104
theorem sc_102 : scI (256 * 102) 497317544951784812739662397609960353459067386155446119735016281215242391208207782576128 ∧ ∀ s, 256 * 102 ≤ s → s < 65536 → scG s := sc_stp (h := 102) (by decide) (by decide +kernel) sc_103
theorem sc_101 : scI (256 * 101) 497317544951784812739655815541513871624997078120237838512003132703203528756134712246272 ∧ ∀ s, 256 * 101 ≤ s → s < 65536 → scG s := sc_stp (h := 101) (by decide) (by decide +kernel) sc_102
theorem sc_100 : scI (256 * 100) 497317544951784812739655815516405177337978793938291209350510271886210644418628581130240 ∧ ∀ s, 256 * 100 ≤ s → s < 65536 → scG s := sc_stp (h := 100) (by decide) (by decide +kernel) sc_101
theorem sc_99 : scI (256 * 99) 497317544951784812739642651404620907956856462049821276065976835679123498008979357892608 ∧ ∀ s, 256 * 99 ≤ s → s < 65536 → scG s := sc_stp (h := 99) (by decide) (by decide +kernel) sc_100
theorem sc_98 : scI (256 * 98) 497317544951784812739642651379512213669838177867874646904483974862131766592977833623552 ∧ ∀ s, 256 * 98 ≤ s → s < 65536 → scG s := sc_stp (h := 98) (by decide) (by decide +kernel) sc_99
theorem sc_97 : scI (256 * 97) 497317544951784812739642651329295016659936489709396595083490757293554861999605854306304 ∧ ∀ s, 256 * 97 ≤ s → s < 65536 → scG s := sc_stp (h := 97) (by decide) (by decide +kernel) sc_98
theorem sc_96 : scI (256 * 96) 497317544951784812739642651329294825095801609503981388581498253228149458793524537393152 ∧ ∀ s, 256 * 96 ≤ s → s < 65536 → scG s := sc_stp (h := 96) (by decide) (by decide +kernel) sc_97
theorem sc_95 : scI (256 * 95) 497317544949975554012172827579864319170097359789495025388090302854702950813773282213888 ∧ ∀ s, 256 * 95 ≤ s → s < 65536 → scG s := sc_stp (h := 95) (by decide) (by decide +kernel) sc_96
theorem sc_94 : scI (256 * 94) 497317544949975553580808744347842047508117816325288066402252721918750085849854848860160 ∧ ∀ s, 256 * 94 ≤ s → s < 65536 → scG s := sc_stp (h := 94) (by decide) (by decide +kernel) sc_95
theorem sc_93 : scI (256 * 93) 497317544949975552718083868930575092244703025505451603622850951960970767728380573974528 ∧ ∀ s, 256 * 93 ≤ s → s < 65536 → scG s := sc_stp (h := 93) (by decide) (by decide +kernel) sc_94
theorem sc_92 : scI (256 * 92) 497317544949975552718080577883797504184158729396874148430597947068749438409224874950656 ∧ ∀ s, 256 * 92 ≤ s → s < 65536 → scG s := sc_stp (h := 92) (by decide) (by decide +kernel) sc_93
theorem sc_91 : scI (256 * 91) 497317544949975550992634118096041181717873443865778678064047411742295232866236672049152 ∧ ∀ s, 256 * 91 ≤ s → s < 65536 → scG s := sc_stp (h := 91) (by decide) (by decide +kernel) sc_92
theorem sc_90 : scI (256 * 90) 497317544949975550992630827049263593657329147757201222871794407002075074714447678341120 ∧ ∀ s, 256 * 90 ≤ s → s < 65536 → scG s := sc_stp (h := 90) (by decide) (by decide +kernel) sc_91
theorem sc_89 : scI (256 * 89) 497317544949975550992624244980817111823258839721992941648781258490036212262374608011264 ∧ ∀ s, 256 * 89 ≤ s → s < 65536 → scG s := sc_stp (h := 89) (by decide) (by decide +kernel) sc_90
theorem sc_88 : scI (256 * 88) 497317544949975550992624244955708417536240555540046312487288397673041019830059449516032 ∧ ∀ s, 256 * 88 ≤ s → s < 65536 → scG s := sc_stp (h := 88) (by decide) (by decide +kernel) sc_89
theorem sc_87 : scI (256 * 87) 497317544949975547541734616426973360664214280586432826946440331609237039444043390582784 ∧ ∀ s, 256 * 87 ≤ s → s < 65536 → scG s := sc_stp (h := 87) (by decide) (by decide +kernel) sc_88
theorem sc_86 : scI (256 * 86) 497317544949975547541731325380195772603669984477855371754187326868721733387075044048896 ∧ ∀ s, 256 * 86 ≤ s → s < 65536 → scG s := sc_stp (h := 86) (by decide) (by decide +kernel) sc_87
theorem sc_85 : scI (256 * 85) 497317544949975547541724743311749290769599676442647090531174178356682870935001973719040 ∧ ∀ s, 256 * 85 ≤ s → s < 65536 → scG s := sc_stp (h := 85) (by decide) (by decide +kernel) sc_86
theorem sc_84 : scI (256 * 84) 497317544949975547541724743286640596482581392260700461369681317539689986597495842603008 ∧ ∀ s, 256 * 84 ≤ s → s < 65536 → scG s := sc_stp (h := 84) (by decide) (by decide +kernel) sc_85
theorem sc_83 : scI (256 * 83) 497317544949975547541711579174856327101459060372230528085147881332602840187846619365376 ∧ ∀ s, 256 * 83 ≤ s → s < 65536 → scG s := sc_stp (h := 83) (by decide) (by decide +kernel) sc_84
theorem sc_82 : scI (256 * 82) 497317544949975547541711579149747632814440776190283898923655020515611108771845095096320 ∧ ∀ s, 256 * 82 ≤ s → s < 65536 → scG s := sc_stp (h := 82) (by decide) (by decide +kernel) sc_83
theorem sc_81 : scI (256 * 81) 497317544949975547541711579099530435804539088031805847102661802947034204178473115779072 ∧ ∀ s, 256 * 81 ≤ s → s < 65536 → scG s := sc_stp (h := 81) (by decide) (by decide +kernel) sc_82
theorem sc_80 : scI (256 * 80) 497317544949975547541711579099530244240404207826390640600669298881628801042777722912768 ∧ ∀ s, 256 * 80 ≤ s → s < 65536 → scG s := sc_stp (h := 80) (by decide) (by decide +kernel) sc_81
theorem sc_79 : scI (256 * 79) 497317544949975540639935613088837718556895954027741124711226171343125270970705951916032 ∧ ∀ s, 256 * 79 ≤ s → s < 65536 → scG s := sc_stp (h := 79) (by decide) (by decide +kernel) sc_80
theorem sc_78 : scI (256 * 78) 497317544949975540639932322042060130496351657919163669518973166602019669103378899730432 ∧ ∀ s, 256 * 78 ≤ s → s < 65536 → scG s := sc_stp (h := 78) (by decide) (by decide +kernel) sc_79
theorem sc_77 : scI (256 * 77) 497317544949975540639925739973613648662281349883955388295960018089980806651305829400576 ∧ ∀ s, 256 * 77 ≤ s → s < 65536 → scG s := sc_stp (h := 77) (by decide) (by decide +kernel) sc_78
theorem sc_76 : scI (256 * 76) 497317544949975540639925739948504954375263065702008759134467157272987920061999884599296 ∧ ∀ s, 256 * 76 ≤ s → s < 65536 → scG s := sc_stp (h := 76) (by decide) (by decide +kernel) sc_77
theorem sc_75 : scI (256 * 75) 497317544949975540639912575836720684994140733813538825849933721065900773652350661361664 ∧ ∀ s, 256 * 75 ≤ s → s < 65536 → scG s := sc_stp (h := 75) (by decide) (by decide +kernel) sc_76
theorem sc_74 : scI (256 * 74) 497317544949975540639912575811611990707122449631592196688440860248909042236349137092608 ∧ ∀ s, 256 * 74 ≤ s → s < 65536 → scG s := sc_stp (h := 74) (by decide) (by decide +kernel) sc_75
theorem sc_73 : scI (256 * 73) 497317544949975540639912575761394793697220761473114144867447642680332137642977157775360 ∧ ∀ s, 256 * 73 ≤ s → s < 65536 → scG s := sc_stp (h := 73) (by decide) (by decide +kernel) sc_74
theorem sc_72 : scI (256 * 72) 497317544949975540639912575761394602133085881267698938365455138614926734542466136997888 ∧ ∀ s, 256 * 72 ≤ s → s < 65536 → scG s := sc_stp (h := 72) (by decide) (by decide +kernel) sc_73
theorem sc_71 : scI (256 * 71) 497317544949975540639886247562934757657859501672705700957881127017743020217664607944704 ∧ ∀ s, 256 * 71 ≤ s → s < 65536 → scG s := sc_stp (h := 71) (by decide) (by decide +kernel) sc_72
theorem sc_70 : scI (256 * 70) 497317544949975540639886247537826063370841217490759071796388266200751286549863269990400 ∧ ∀ s, 256 * 70 ≤ s → s < 65536 → scG s := sc_stp (h := 70) (by decide) (by decide +kernel) sc_71
theorem sc_69 : scI (256 * 69) 497317544949975540639886247487608866360939529332281019975395048632174381956491290673152 ∧ ∀ s, 256 * 69 ≤ s → s < 65536 → scG s := sc_stp (h := 69) (by decide) (by decide +kernel) sc_70
theorem sc_68 : scI (256 * 68) 497317544949975540639886247487608674796804649126865813473402544566768978873572455940096 ∧ ∀ s, 256 * 68 ≤ s → s < 65536 → scG s := sc_stp (h := 68) (by decide) (by decide +kernel) sc_69
theorem sc_67 : scI (256 * 67) 497317544949975540639886247387174472341136153015324916333408613495020572752155145994240 ∧ ∀ s, 256 * 67 ≤ s → s < 65536 → scG s := sc_stp (h := 67) (by decide) (by decide +kernel) sc_68
theorem sc_66 : scI (256 * 66) 497317544949975540639886247387174280777001272809909709831416109429615169678032404283392 ∧ ∀ s, 256 * 66 ≤ s → s < 65536 → scG s := sc_stp (h := 66) (by decide) (by decide +kernel) sc_67
theorem sc_65 : scI (256 * 65) 497317544949975540639886247387173897650193030762117973396084223189857108635974654558208 ∧ ∀ s, 256 * 65 ≤ s → s < 65536 → scG s := sc_stp (h := 65) (by decide) (by decide +kernel) sc_66
theorem sc_64 : scI (256 * 64) 497317544949975540639886247387173897648731512399079296827431101298804363538598046269440 ∧ ∀ s, 256 * 64 ≤ s → s < 65536 → scG s := sc_stp (h := 64) (by decide) (by decide +kernel) sc_65
theorem sc_63 : scI (256 * 63) 497317544946357023616310683120335157459302556434313529426432703647852052781680449093632 ∧ ∀ s, 256 * 63 ≤ s → s < 65536 → scG s := sc_stp (h := 63) (by decide) (by decide +kernel) sc_64
theorem sc_62 : scI (256 * 62) 497317544946357023184946599888312885797323012970106570440594813226889366472693290958848 ∧ ∀ s, 256 * 62 ≤ s → s < 65536 → scG s := sc_stp (h := 62) (by decide) (by decide +kernel) sc_63
theorem sc_61 : scI (256 * 61) 497317544946357022322221724471045930533908222150270107661193043269110048351219016073216 ∧ ∀ s, 256 * 61 ≤ s → s < 65536 → scG s := sc_stp (h := 61) (by decide) (by decide +kernel) sc_62
theorem sc_60 : scI (256 * 60) 497317544946357022322218433424268342473363926041692652468940038375708127411345905745920 ∧ ∀ s, 256 * 60 ≤ s → s < 65536 → scG s := sc_stp (h := 60) (by decide) (by decide +kernel) sc_61
theorem sc_59 : scI (256 * 59) 497317544946357020596771973636512020007078640510597182102389503049253921868357702844416 ∧ ∀ s, 256 * 59 ≤ s → s < 65536 → scG s := sc_stp (h := 59) (by decide) (by decide +kernel) sc_60
theorem sc_58 : scI (256 * 58) 497317544946357020596768682589734431946534344402019726910136498309033763716568709136384 ∧ ∀ s, 256 * 58 ≤ s → s < 65536 → scG s := sc_stp (h := 58) (by decide) (by decide +kernel) sc_59
theorem sc_57 : scI (256 * 57) 497317544946357020596762100521287950112464036366811445687123349796994901264495638806528 ∧ ∀ s, 256 * 57 ≤ s → s < 65536 → scG s := sc_stp (h := 57) (by decide) (by decide +kernel) sc_58
theorem sc_56 : scI (256 * 56) 497317544946357020596762100496179255825445752184864816525630488979999704328580852940800 ∧ ∀ s, 256 * 56 ≤ s → s < 65536 → scG s := sc_stp (h := 56) (by decide) (by decide +kernel) sc_57
theorem sc_55 : scI (256 * 55) 497317544946357017145872471967444198953419477231251330984782422916195723942564794007552 ∧ ∀ s, 256 * 55 ≤ s → s < 65536 → scG s := sc_stp (h := 55) (by decide) (by decide +kernel) sc_56
theorem sc_54 : scI (256 * 54) 497317544946357017145869180920666610892875181122673875792529418175680417885596447473664 ∧ ∀ s, 256 * 54 ≤ s → s < 65536 → scG s := sc_stp (h := 54) (by decide) (by decide +kernel) sc_55
theorem sc_53 : scI (256 * 53) 497317544946357017145862598852220129058804873087465594569516269663641555433523377143808 ∧ ∀ s, 256 * 53 ≤ s → s < 65536 → scG s := sc_stp (h := 53) (by decide) (by decide +kernel) sc_54
theorem sc_52 : scI (256 * 52) 497317544946357017145862598827111434771786588905518965408023408846648671096017246027776 ∧ ∀ s, 256 * 52 ≤ s → s < 65536 → scG s := sc_stp (h := 52) (by decide) (by decide +kernel) sc_53
theorem sc_51 : scI (256 * 51) 497317544946357017145849434715327165390664257017049032123489972639561524686368022790144 ∧ ∀ s, 256 * 51 ≤ s → s < 65536 → scG s := sc_stp (h := 51) (by decide) (by decide +kernel) sc_52
theorem sc_50 : scI (256 * 50) 497317544946357017145849434690218471103645972835102402961997111822569793270366498521088 ∧ ∀ s, 256 * 50 ≤ s → s < 65536 → scG s := sc_stp (h := 50) (by decide) (by decide +kernel) sc_51
theorem sc_49 : scI (256 * 49) 497317544946357017145849434640001274093744284676624351141003894253992888676994519203840 ∧ ∀ s, 256 * 49 ≤ s → s < 65536 → scG s := sc_stp (h := 49) (by decide) (by decide +kernel) sc_50
theorem sc_48 : scI (256 * 48) 497317544946357017145849434640001082529609404471209144639011390188587485541281946468352 ∧ ∀ s, 256 * 48 ≤ s → s < 65536 → scG s := sc_stp (h := 48) (by decide) (by decide +kernel) sc_49
theorem sc_47 : scI (256 * 47) 497317544946357010244073468629308556846101150672559628749568262650083955469210175471616 ∧ ∀ s, 256 * 47 ≤ s → s < 65536 → scG s := sc_stp (h := 47) (by decide) (by decide +kernel) sc_48
theorem sc_46 : scI (256 * 46) 497317544946357010244070177582530968785556854563982173557315257908978353601883123286016 ∧ ∀ s, 256 * 46 ≤ s → s < 65536 → scG s := sc_stp (h := 46) (by decide) (by decide +kernel) sc_47
theorem sc_45 : scI (256 * 45) 497317544946357010244063595514084486951486546528773892334302109396939491149810052956160 ∧ ∀ s, 256 * 45 ≤ s → s < 65536 → scG s := sc_stp (h := 45) (by decide) (by decide +kernel) sc_46
theorem sc_44 : scI (256 * 44) 497317544946357010244063595488975792664468262346827263172809248579946604560504108154880 ∧ ∀ s, 256 * 44 ≤ s → s < 65536 → scG s := sc_stp (h := 44) (by decide) (by decide +kernel) sc_45
theorem sc_43 : scI (256 * 43) 497317544946357010244050431377191523283345930458357329888275812372859458150854884917248 ∧ ∀ s, 256 * 43 ≤ s → s < 65536 → scG s := sc_stp (h := 43) (by decide) (by decide +kernel) sc_44
theorem sc_42 : scI (256 * 42) 497317544946357010244050431352082828996327646276410700726782951555867726734853360648192 ∧ ∀ s, 256 * 42 ≤ s → s < 65536 → scG s := sc_stp (h := 42) (by decide) (by decide +kernel) sc_43
theorem sc_41 : scI (256 * 41) 497317544946357010244050431301865631986425958117932648905789733987290822141481381330944 ∧ ∀ s, 256 * 41 ≤ s → s < 65536 → scG s := sc_stp (h := 41) (by decide) (by decide +kernel) sc_42
theorem sc_40 : scI (256 * 40) 497317544946357010244050431301865440422291077912517442403797229921885419040970360553472 ∧ ∀ s, 256 * 40 ≤ s → s < 65536 → scG s := sc_stp (h := 40) (by decide) (by decide +kernel) sc_41
theorem sc_39 : scI (256 * 39) 497317544946357010244024103103405595947064698317524204996223218324701704716168831500288 ∧ ∀ s, 256 * 39 ≤ s → s < 65536 → scG s := sc_stp (h := 39) (by decide) (by decide +kernel) sc_40
theorem sc_38 : scI (256 * 38) 497317544946357010244024103078296901660046414135577575834730357507709971048367493545984 ∧ ∀ s, 256 * 38 ≤ s → s < 65536 → scG s := sc_stp (h := 38) (by decide) (by decide +kernel) sc_39
theorem sc_37 : scI (256 * 37) 497317544946357010244024103028079704650144725977099524013737139939133066454995514228736 ∧ ∀ s, 256 * 37 ≤ s → s < 65536 → scG s := sc_stp (h := 37) (by decide) (by decide +kernel) sc_38
theorem sc_36 : scI (256 * 36) 497317544946357010244024103028079513086009845771684317511744635873727663372076679495680 ∧ ∀ s, 256 * 36 ≤ s → s < 65536 → scG s := sc_stp (h := 36) (by decide) (by decide +kernel) sc_37
theorem sc_35 : scI (256 * 35) 497317544946357010244024102927645310630341349660143420371750704801979257250659369549824 ∧ ∀ s, 256 * 35 ≤ s → s < 65536 → scG s := sc_stp (h := 35) (by decide) (by decide +kernel) sc_36
theorem sc_34 : scI (256 * 34) 497317544946357010244024102927645119066206469454728213869758200736573854176536627838976 ∧ ∀ s, 256 * 34 ≤ s → s < 65536 → scG s := sc_stp (h := 34) (by decide) (by decide +kernel) sc_35
theorem sc_33 : scI (256 * 33) 497317544946357010244024102927644735939398227406936477434426314496815793134478878113792 ∧ ∀ s, 256 * 33 ≤ s → s < 65536 → scG s := sc_stp (h := 33) (by decide) (by decide +kernel) sc_34
theorem sc_32 : scI (256 * 32) 497317544946357010244024102927644735937936709043897800865773192605763048037103343566848 ∧ ∀ s, 256 * 32 ≤ s → s < 65536 → scG s := sc_stp (h := 32) (by decide) (by decide +kernel) sc_33
theorem sc_31 : scI (256 * 31) 497317544946356996440475461953037272631464497555176224279139942117860418592920148443136 ∧ ∀ s, 256 * 31 ≤ s → s < 65536 → scG s := sc_stp (h := 31) (by decide) (by decide +kernel) sc_32
theorem sc_30 : scI (256 * 30) 497317544946356996440472170906259684570920201446598769086886937375574225104875684954112 ∧ ∀ s, 256 * 30 ≤ s → s < 65536 → scG s := sc_stp (h := 30) (by decide) (by decide +kernel) sc_31
theorem sc_29 : scI (256 * 29) 497317544946356996440465588837813202736849893411390487863873788863535362652802614624256 ∧ ∀ s, 256 * 29 ≤ s → s < 65536 → scG s := sc_stp (h := 29) (by decide) (by decide +kernel) sc_30
theorem sc_28 : scI (256 * 28) 497317544946356996440465588812704508449831609229443858702380928046542471559897042452480 ∧ ∀ s, 256 * 28 ≤ s → s < 65536 → scG s := sc_stp (h := 28) (by decide) (by decide +kernel) sc_29
theorem sc_27 : scI (256 * 27) 497317544946356996440452424700920239068709277340973925417847491839455325150247819214848 ∧ ∀ s, 256 * 27 ≤ s → s < 65536 → scG s := sc_stp (h := 27) (by decide) (by decide +kernel) sc_28
theorem sc_26 : scI (256 * 26) 497317544946356996440452424675811544781690993159027296256354631022463593734246294945792 ∧ ∀ s, 256 * 26 ≤ s → s < 65536 → scG s := sc_stp (h := 26) (by decide) (by decide +kernel) sc_27
theorem sc_25 : scI (256 * 25) 497317544946356996440452424625594347771789305000549244435361413453886689140874315628544 ∧ ∀ s, 256 * 25 ≤ s → s < 65536 → scG s := sc_stp (h := 25) (by decide) (by decide +kernel) sc_26
theorem sc_24 : scI (256 * 24) 497317544946356996440452424625594156207654424795134037933368909388481286040346114981888 ∧ ∀ s, 256 * 24 ≤ s → s < 65536 → scG s := sc_stp (h := 24) (by decide) (by decide +kernel) sc_25
theorem sc_23 : scI (256 * 23) 497317544946356996440426096427134311732428045200140800525794897791297571715544585928704 ∧ ∀ s, 256 * 23 ≤ s → s < 65536 → scG s := sc_stp (h := 23) (by decide) (by decide +kernel) sc_24
theorem sc_22 : scI (256 * 22) 497317544946356996440426096402025617445409761018194171364302036974305838047743247974400 ∧ ∀ s, 256 * 22 ≤ s → s < 65536 → scG s := sc_stp (h := 22) (by decide) (by decide +kernel) sc_23
theorem sc_21 : scI (256 * 21) 497317544946356996440426096351808420435508072859716119543308819405728933454371268657152 ∧ ∀ s, 256 * 21 ≤ s → s < 65536 → scG s := sc_stp (h := 21) (by decide) (by decide +kernel) sc_22
theorem sc_20 : scI (256 * 20) 497317544946356996440426096351808228871373192654300913041316315340323530371452433924096 ∧ ∀ s, 256 * 20 ≤ s → s < 65536 → scG s := sc_stp (h := 20) (by decide) (by decide +kernel) sc_21
theorem sc_19 : scI (256 * 19) 497317544946356996440426096251374026415704696542760015901322384268575124250035123978240 ∧ ∀ s, 256 * 19 ≤ s → s < 65536 → scG s := sc_stp (h := 19) (by decide) (by decide +kernel) sc_20
theorem sc_18 : scI (256 * 18) 497317544946356996440426096251373834851569816337344809399329880203169721175912382267392 ∧ ∀ s, 256 * 18 ≤ s → s < 65536 → scG s := sc_stp (h := 18) (by decide) (by decide +kernel) sc_19
theorem sc_17 : scI (256 * 17) 497317544946356996440426096251373451724761574289553072963997993963411660133854632542208 ∧ ∀ s, 256 * 17 ≤ s → s < 65536 → scG s := sc_stp (h := 17) (by decide) (by decide +kernel) sc_18
theorem sc_16 : scI (256 * 16) 497317544946356996440426096251373451723300055926514396395344872072358915036479634866176 ∧ ∀ s, 256 * 16 ≤ s → s < 65536 → scG s := sc_stp (h := 16) (by decide) (by decide +kernel) sc_17
theorem sc_15 : scI (256 * 15) 497317544946356996440373439879562457059865580918474550741689709694982064881373494181888 ∧ ∀ s, 256 * 15 ≤ s → s < 65536 → scG s := sc_stp (h := 15) (by decide) (by decide +kernel) sc_16
theorem sc_14 : scI (256 * 14) 497317544946356996440373439854453762772847296736527921580196848877990326709972528857088 ∧ ∀ s, 256 * 14 ≤ s → s < 65536 → scG s := sc_stp (h := 14) (by decide) (by decide +kernel) sc_15
theorem sc_13 : scI (256 * 13) 497317544946356996440373439804236565762945608578049869759203631309413422116600549539840 ∧ ∀ s, 256 * 13 ≤ s → s < 65536 → scG s := sc_stp (h := 13) (by decide) (by decide +kernel) sc_14
theorem sc_12 : scI (256 * 12) 497317544946356996440373439804236374198810728372634663257211127244008019033664534937600 ∧ ∀ s, 256 * 12 ≤ s → s < 65536 → scG s := sc_stp (h := 12) (by decide) (by decide +kernel) sc_13
theorem sc_11 : scI (256 * 11) 497317544946356996440373439703802171743142232261093766117217196172259612912247224991744 ∧ ∀ s, 256 * 11 ≤ s → s < 65536 → scG s := sc_stp (h := 11) (by decide) (by decide +kernel) sc_12
theorem sc_10 : scI (256 * 10) 497317544946356996440373439703801980179007352055678559615224692106854209838124483280896 ∧ ∀ s, 256 * 10 ≤ s → s < 65536 → scG s := sc_stp (h := 10) (by decide) (by decide +kernel) sc_11
theorem sc_9 : scI (256 * 9) 497317544946356996440373439703801597052199110007886823179892805867096148796066733555712 ∧ ∀ s, 256 * 9 ≤ s → s < 65536 → scG s := sc_stp (h := 9) (by decide) (by decide +kernel) sc_10
theorem sc_8 : scI (256 * 8) 497317544946356996440373439703801597050737591644848146611239683976043403698692004315136 ∧ ∀ s, 256 * 8 ≤ s → s < 65536 → scG s := sc_stp (h := 8) (by decide) (by decide +kernel) sc_9
theorem sc_7 : scI (256 * 7) 497317544946356996440373439502933383703535479627181558833244325897951994521184033112064 ∧ ∀ s, 256 * 7 ≤ s → s < 65536 → scG s := sc_stp (h := 7) (by decide) (by decide +kernel) sc_8
theorem sc_6 : scI (256 * 6) 497317544946356996440373439502933192139400599421766352331251821832546591447044111532032 ∧ ∀ s, 256 * 6 ≤ s → s < 65536 → scG s := sc_stp (h := 6) (by decide) (by decide +kernel) sc_7
theorem sc_5 : scI (256 * 5) 497317544946356996440373439502932809012592357373974615895919935592788530404986361806848 ∧ ∀ s, 256 * 5 ≤ s → s < 65536 → scG s := sc_stp (h := 5) (by decide) (by decide +kernel) sc_6
theorem sc_4 : scI (256 * 4) 497317544946356996440373439502932809011130839010935939327266813701735785307611766784000 ∧ ∀ s, 256 * 4 ≤ s → s < 65536 → scG s := sc_stp (h := 4) (by decide) (by decide +kernel) sc_5
theorem sc_3 : scI (256 * 3) 497317544946356996440373439502932042758975873278391143025256163113272408320870728138752 ∧ ∀ s, 256 * 3 ≤ s → s < 65536 → scG s := sc_stp (h := 3) (by decide) (by decide +kernel) sc_4
theorem sc_2 : scI (256 * 2) 497317544946356996440373439502932042757514354915352466456603041222219663223496200224768 ∧ ∀ s, 256 * 2 ≤ s → s < 65536 → scG s := sc_stp (h := 2) (by decide) (by decide +kernel) sc_3
theorem sc_1 : scI (256 * 1) 497317544946356996440373439502932042754591329339775319608027942559757506866218962845696 ∧ ∀ s, 256 * 1 ≤ s → s < 65536 → scG s := sc_stp (h := 1) (by decide) (by decide +kernel) sc_2
theorem sc_0 : scI (256 * 0) 497317544946356996440373439502932042754591318189275113319296797440114173028747211571200 ∧ ∀ s, 256 * 0 ≤ s → s < 65536 → scG s := sc_stp (h := 0) (by decide) (by decide +kernel) sc_1
theorem sc_b0 : allB (fun z => Nat.beq (497317544946356996440373439502932042754591318189275113319296797440114173028747211571200 / 131072 ^ z % 131072) (2 ^ z - 1)) 17 = true := by decide +kernel
theorem nx_gap {s : Nat} (hs : s < 65536) : s < nxF s ∧ (nxF s < 65536 → bcF (nxF s) = bcF s) ∧ ∀ t, s < t → t < 65536 → t < nxF s → bcF t ≠ bcF s := by
  have h := sc_0.2 s (by omega) hs
  unfold scG at h
  obtain ⟨f1, f2, f3, f4⟩ := fN_b (bcF s) (65535 - s) (by omega)
  refine ⟨by omega, fun hn => ?_, fun t h1 h2 h3 => f4 t (by omega) (by omega)⟩
  have e : nxF s = fN (bcF s) (65535 - s) := by omega
  rw [e] at hn ⊢
  exact f3 hn
theorem bc_first {z : Nat} (hz : z ≤ 16) : bcF (2 ^ z - 1) = z ∧ ∀ t, t < 2 ^ z - 1 → bcF t ≠ z := by
  have h2 := Nat.eq_of_beq_eq_true (allB_at _ sc_b0 z (by omega))
  have h3 := pkn_get (f := fun p => fN p 65536) (fun i => fN_lt i _ (Nat.le_refl _)) (p := z) 17 (by omega)
  have e : fN z 65536 = 2 ^ z - 1 := by
    have h4 : 497317544946356996440373439502932042754591318189275113319296797440114173028747211571200 = pk (fun p => fN p 65536) 17 := sc_0.1
    rw [← h4] at h3
    exact h3.symm.trans h2
  obtain ⟨f1, f2, f3, f4⟩ := fN_b z 65536 (Nat.le_refl _)
  have hp : 2 ^ z ≤ 2 ^ 16 := Nat.pow_le_pow_right (by decide) hz
  rw [e] at f2 f3 f4
  exact ⟨f3 (by omega), fun t ht => f4 t (by omega) ht⟩
