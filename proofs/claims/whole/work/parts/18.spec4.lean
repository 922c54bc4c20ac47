theorem sG_2 (σ : Sg) (a : Nat) (i x : Int) (b : Nat) (j : Int) : (sG σ a i x).2 b j = if b = a then (if j = i then x else σ.2 a j) else σ.2 b j := by
  show (if b = a then (fun j => if j = i then x else σ.2 a j) else σ.2 b) j = _
  split <;> rfl
theorem sR_2 (σ : Sg) (a : Nat) (f : Int → Int) (b : Nat) (j : Int) : (sR σ a f).2 b j = if b = a then f j else σ.2 b j := by
  show (if b = a then f else σ.2 b) j = _
  split <;> rfl
theorem IC_ap {σ : Sg} (hI : IC σ) {b : Nat} (hb : b < 5) {L m : Int} (hn : 0 ≤ σ.1 (2 + b) ∧ σ.1 (2 + b) < 16) (hL : 0 ≤ L ∧ L < 2304) (hm : 0 ≤ m ∧ m < 30) : IC (apB σ b L m) := by
  refine ⟨?_, ?_, ?_, fun c hc => ?_, fun c hc j h0 h1 => ?_, fun c hc j h0 h1 => ?_⟩
  · show 0 ≤ (if 0 = 2 + b then _ else σ.1 0) ∧ (if 0 = 2 + b then _ else σ.1 0) ≤ 4
    rw [if_neg (by omega)]
    exact hI.1
  · show 0 ≤ (if 1 = 2 + b then _ else σ.1 1) ∧ (if 1 = 2 + b then _ else σ.1 1) ≤ 9
    rw [if_neg (by omega)]
    exact hI.2.1
  · intro j h0 h1
    show 0 ≤ (sG (sG σ (1 + b) (σ.1 (2 + b)) L) (6 + b) (σ.1 (2 + b)) m).2 0 j ∧ (sG (sG σ (1 + b) (σ.1 (2 + b)) L) (6 + b) (σ.1 (2 + b)) m).2 0 j < 9
    rw [sG_2, if_neg (by omega), sG_2, if_neg (by omega)]
    exact hI.2.2.1 j h0 h1
  · show 0 ≤ (if 2 + c = 2 + b then σ.1 (2 + b) + 1 else σ.1 (2 + c)) ∧ (if 2 + c = 2 + b then σ.1 (2 + b) + 1 else σ.1 (2 + c)) ≤ 16
    split
    · omega
    · exact hI.2.2.2.1 c hc
  · show 0 ≤ (sG (sG σ (1 + b) (σ.1 (2 + b)) L) (6 + b) (σ.1 (2 + b)) m).2 (1 + c) j ∧ (sG (sG σ (1 + b) (σ.1 (2 + b)) L) (6 + b) (σ.1 (2 + b)) m).2 (1 + c) j < 2304
    rw [sG_2, if_neg (by omega), sG_2]
    split
    · split
      · exact hL
      · exact hI.2.2.2.2.1 b hb j h0 h1
    · exact hI.2.2.2.2.1 c hc j h0 h1
  · show 0 ≤ (sG (sG σ (1 + b) (σ.1 (2 + b)) L) (6 + b) (σ.1 (2 + b)) m).2 (6 + c) j ∧ (sG (sG σ (1 + b) (σ.1 (2 + b)) L) (6 + b) (σ.1 (2 + b)) m).2 (6 + c) j < 30
    rw [sG_2]
    split
    · split
      · exact hm
      · rw [sG_2, if_neg (by omega)]
        exact hI.2.2.2.2.2 b hb j h0 h1
    · rw [sG_2, if_neg (by omega)]
      exact hI.2.2.2.2.2 c hc j h0 h1
theorem IC_cp {σ : Sg} (hI : IC σ) {b e : Nat} (hb : b < 5) (he : e < 5) : IC (cpB σ b e) := by
  refine ⟨?_, ?_, ?_, fun c hc => ?_, fun c hc j h0 h1 => ?_, fun c hc j h0 h1 => ?_⟩
  · show 0 ≤ (if 0 = 2 + b then _ else σ.1 0) ∧ (if 0 = 2 + b then _ else σ.1 0) ≤ 4
    rw [if_neg (by omega)]
    exact hI.1
  · show 0 ≤ (if 1 = 2 + b then _ else σ.1 1) ∧ (if 1 = 2 + b then _ else σ.1 1) ≤ 9
    rw [if_neg (by omega)]
    exact hI.2.1
  · intro j h0 h1
    show 0 ≤ (sR (sR σ (1 + b) _) (6 + b) _).2 0 j ∧ (sR (sR σ (1 + b) _) (6 + b) _).2 0 j < 9
    rw [sR_2, if_neg (by omega), sR_2, if_neg (by omega)]
    exact hI.2.2.1 j h0 h1
  · show 0 ≤ (if 2 + c = 2 + b then σ.1 (2 + e) else σ.1 (2 + c)) ∧ (if 2 + c = 2 + b then σ.1 (2 + e) else σ.1 (2 + c)) ≤ 16
    split
    · exact hI.2.2.2.1 e he
    · exact hI.2.2.2.1 c hc
  · show 0 ≤ (sR (sR σ (1 + b) _) (6 + b) _).2 (1 + c) j ∧ (sR (sR σ (1 + b) _) (6 + b) _).2 (1 + c) j < 2304
    rw [sR_2, if_neg (by omega), sR_2]
    split
    · split
      · exact hI.2.2.2.2.1 e he j h0 h1
      · exact hI.2.2.2.2.1 b hb j h0 h1
    · exact hI.2.2.2.2.1 c hc j h0 h1
  · show 0 ≤ (sR (sR σ (1 + b) _) (6 + b) _).2 (6 + c) j ∧ (sR (sR σ (1 + b) _) (6 + b) _).2 (6 + c) j < 30
    rw [sR_2]
    split
    · split
      · rw [sR_2, if_neg (by omega)]
        exact hI.2.2.2.2.2 e he j h0 h1
      · rw [sR_2, if_neg (by omega)]
        exact hI.2.2.2.2.2 b hb j h0 h1
    · rw [sR_2, if_neg (by omega)]
      exact hI.2.2.2.2.2 c hc j h0 h1
/-- a loan, tried -/
abbrev tlOK (σ : Sg) (b : Nat) (s : Int) (e : Nat) : Prop := (σ.1 (2 + e) < 16 ∧ findB σ e (σ.2 (6 + b) s) = -1) ∧ fuB σ e (σ.2 (1 + b) s) ≠ -1
def tlS (σ : Sg) (b : Nat) (s : Int) (e : Nat) : Sg := apB (cpB σ 4 e) 4 (fuB σ e (σ.2 (1 + b) s)) (σ.2 (6 + b) s)
theorem fuB_rg {σ : Sg} {e : Nat} {L : Int} (hL : 0 ≤ L ∧ L < 2304) : fuB σ e L = -1 ∨ (0 ≤ fuB σ e L ∧ fuB σ e L < 2304) := fuF_rg _ _ _ hL 4 0 (by omega)
theorem IC_tl {σ : Sg} (hI : IC σ) {b e : Nat} (hb : b < 5) (he : e < 5) {s : Int} (hs : 0 ≤ s ∧ s < 16) (ht : tlOK σ b s e) : IC (tlS σ b s e) := by
  have h1 := hI.2.2.2.2.1 b hb s hs.1 hs.2
  have h2 := hI.2.2.2.2.2 b hb s hs.1 hs.2
  have h3 := fuB_rg (σ := σ) (e := e) h1
  have h4 := hI.2.2.2.1 e he
  have h5 := ht.1.1
  have h6 := ht.2
  refine IC_ap (IC_cp hI (by decide) he) (by decide) ?_ (by omega) h2
  show 0 ≤ σ.1 (2 + e) ∧ σ.1 (2 + e) < 16
  omega
theorem tlS_1 {σ : Sg} {b e : Nat} {s : Int} {v : Nat} (hv : v ≠ 6) : (tlS σ b s e).1 v = σ.1 v := by
  show (if v = 2 + 4 then _ else (if v = 2 + 4 then _ else σ.1 v)) = σ.1 v
  rw [if_neg (by omega), if_neg (by omega)]
def bbF (b e : Nat) : Nat → Int → Int → Int → Sg → Int × Sg
  | 0, _, fo, _, τ => (fo, τ)
  | d + 1, z, fo, mo, τ => if tlOK τ b z e then (if mo < cuB (tlS τ b z e) 4 b then bbF b e d (z + 1) z (cuB (tlS τ b z e) 4 b) (tlS τ b z e) else bbF b e d (z + 1) fo mo (tlS τ b z e)) else bbF b e d (z + 1) fo mo τ
def bbB (σ : Sg) (a c : Int) : Int × Sg := if a = c then (-1, σ) else bbF a.toNat c.toNat (cN σ a.toNat) 0 (-1) (-1) σ
theorem bbF_IC {b e : Nat} (hb : b < 4) (he : e < 5) : ∀ (d : Nat) (z fo mo : Int) (τ : Sg), IC τ → 0 ≤ z → z + d = τ.1 (2 + b) → -1 ≤ fo → fo < 16 → IC (bbF b e d z fo mo τ).2 ∧ -1 ≤ (bbF b e d z fo mo τ).1 ∧ (bbF b e d z fo mo τ).1 < 16 ∧ ∀ v : Nat, v ≠ 6 → (bbF b e d z fo mo τ).2.1 v = τ.1 v := by
  intro d
  induction d with
  | zero => intro z fo mo τ hI _ _ h1 h2; exact ⟨hI, h1, h2, fun _ _ => rfl⟩
  | succ d ih =>
    intro z fo mo τ hI h0 hz h1 h2
    have hn := hI.2.2.2.1 b (by omega)
    unfold bbF
    by_cases ht : tlOK τ b z e
    · rw [if_pos ht]
      have hI2 := IC_tl hI (b := b) (by omega) he (s := z) (by omega) ht
      have hz2 : z + 1 + (d : Int) = (tlS τ b z e).1 (2 + b) := by rw [tlS_1 (by omega)]; omega
      split
      · have h := ih (z + 1) z (cuB (tlS τ b z e) 4 b) (tlS τ b z e) hI2 (by omega) hz2 (by omega) (by omega)
        exact ⟨h.1, h.2.1, h.2.2.1, fun v hv => (h.2.2.2 v hv).trans (tlS_1 hv)⟩
      · have h := ih (z + 1) fo mo _ hI2 (by omega) hz2 h1 h2
        exact ⟨h.1, h.2.1, h.2.2.1, fun v hv => (h.2.2.2 v hv).trans (tlS_1 hv)⟩
    · rw [if_neg ht]
      exact ih (z + 1) fo mo τ hI (by omega) (by omega) h1 h2
theorem bbB_IC {σ : Sg} (hI : IC σ) {a c : Int} (ha : 0 ≤ a ∧ a < σ.1 0) (hc : 0 ≤ c ∧ c < σ.1 0) : IC (bbB σ a c).2 ∧ -1 ≤ (bbB σ a c).1 ∧ (bbB σ a c).1 < 16 ∧ ∀ v : Nat, v ≠ 6 → (bbB σ a c).2.1 v = σ.1 v := by
  unfold bbB
  have h4 := hI.1
  split
  · exact ⟨hI, by omega, by omega, fun _ _ => rfl⟩
  · exact bbF_IC (by omega) (by omega) (cN σ a.toNat) 0 (-1) (-1) σ hI (by omega) (by have := cN_eq hI (b := a.toNat) (by omega); omega) (by omega) (by omega)
theorem pO_rg (c : Int → Int → Bool) : ∀ (d : Nat) (z a : Int), d ≤ 16 → a ≤ pO c d z a ∧ pO c d z a ≤ a + 16 * d := by
  intro d
  induction d with
  | zero => intro z a _; exact ⟨Int.le_refl _, by simp [pO]⟩
  | succ d ih =>
    intro z a h
    unfold pO
    have h1 := cnt_rg (c z) d (z + 1) a
    have h2 := ih (z + 1) (cnt (c z) d (z + 1) a) (by omega)
    omega
theorem pOB_rg (c : Int → Int → Bool) {σ : Sg} (hI : IC σ) {b : Nat} (hb : b < 5) : 0 ≤ pO c (cN σ b) 0 0 ∧ pO c (cN σ b) 0 0 ≤ 256 := by
  have h1 := cN_eq hI hb
  have h2 := hI.2.2.2.1 b hb
  have h3 := pO_rg c (cN σ b) 0 0 (by omega)
  omega
theorem faB_rg {σ : Sg} (hI : IC σ) {b : Nat} (hb : b < 5) : 0 ≤ faB σ b ∧ faB σ b ≤ 100 := by
  have h1 := cN_eq hI hb
  have h2 := hI.2.2.2.1 b hb
  unfold faB
  split
  · omega
  · refine nbF_rg _ (-1) (cN σ b) 0 100 (fun y h3 h4 => ?_) (by omega) (by omega)
    exact nbB_rg hI hb y (hI.2.2.2.2.1 b hb y h3 (by omega))
theorem snB_rg {σ : Sg} (hI : IC σ) {b : Nat} (hb : b < 5) : -1 ≤ snB σ b ∧ snB σ b ≤ 16 := by
  have h1 := cN_eq hI hb
  have h2 := hI.2.2.2.1 b hb
  exact amF_rg _ (cN σ b) 0 (-1) (-1) (by omega) (by omega) (by omega) (by omega)
theorem tfB_rg {σ : Sg} (hI : IC σ) {b : Nat} (hb : b < 5) {s : Int} (hs : 0 ≤ s ∧ s < 16) : 0 ≤ tfB σ b s ∧ tfB σ b s ≤ 4 := by
  have h1 := hI.2.2.2.2.1 b hb s hs.1 hs.2
  unfold tfB
  split
  · have : lkB σ b s = σ.2 (1 + b) s := rfl
    omega
  · exact amF_rg _ 4 0 0 (-1) (by omega) (by omega) (by omega) (by omega)
/-- all lodges' sums -/
def ajF (σ : Sg) (p q : Int) : Nat → Int → Int → Int
  | 0, _, a => a
  | d + 1, z, a => ajF σ p q d (z + 1) (a + cajB σ z.toNat p q)
def ajB (σ : Sg) (p q : Int) : Int := ajF σ p q (σ.1 0).toNat 0 0
def msF (σ : Sg) : Nat → Int → Int → Int
  | 0, _, a => a
  | d + 1, z, a => msF σ d (z + 1) (a + σ.1 (2 + z.toNat))
def msB (σ : Sg) : UInt64 := if σ.1 0 = 0 then 0 else FP.ddiv (FP.i2d (iI (msF σ (σ.1 0).toNat 0 0))) (FP.i2d (iI (σ.1 0)))
theorem msF_rg {σ : Sg} (hI : IC σ) : ∀ (d : Nat) (z a : Int), 0 ≤ z → z + d ≤ 4 → a ≤ msF σ d z a ∧ msF σ d z a ≤ a + 16 * d := by
  intro d
  induction d with
  | zero => intro z a _ _; exact ⟨Int.le_refl _, by simp [msF]⟩
  | succ d ih =>
    intro z a h0 h
    have h1 := hI.2.2.2.1 z.toNat (by omega)
    have h2 := ih (z + 1) (a + σ.1 (2 + z.toNat)) (by omega) (by omega)
    unfold msF
    omega
theorem dv_a : ∀ x : Fin 65, ∀ y : Fin 5, y.1 = 0 ∨ (FP.ddiv (FP.i2d (Int32.ofNat x.1)) (FP.i2d (Int32.ofNat y.1))) &&& 0x7fffffffffffffff ≤ 0x7ff0000000000000 := by decide +kernel
theorem dv_ok {x y : Int} (hx : 0 ≤ x ∧ x ≤ 64) (hy : 0 < y ∧ y ≤ 4) : vf_n64 (FP.ddiv (FP.i2d (iI x)) (FP.i2d (iI y))) := by
  obtain ⟨x, rfl⟩ := Int.eq_ofNat_of_zero_le hx.1
  obtain ⟨y, rfl⟩ := Int.eq_ofNat_of_zero_le (show 0 ≤ y by omega)
  rcases dv_a ⟨x, by omega⟩ ⟨y, by omega⟩ with h | h
  · have : y = 0 := h
    omega
  · rw [iI_nat, iI_nat]
    exact h
/-- the checksum -/
def mx (d x : Int) : Int := d * 31 + x
def mbB (σ : Sg) (b : Nat) (d : Int) : Int := mx (mx (mx (mx (mx d (σ.1 (2 + b))) (caB σ b)) (ctB σ b)) (faB σ b)) (snB σ b)
def msgF (σ : Sg) (b : Nat) : Nat → Int → Int → Int
  | 0, _, a => a
  | d + 1, z, a => msgF σ b d (z + 1) (mx (mx (mx (mx (mx a (σ.2 (1 + b) z % 16)) (σ.2 (1 + b) z / 16 % 4)) (σ.2 (1 + b) z / 256)) (σ.2 (6 + b) z)) (tfB σ b z))
def dgI (a : Int) : Nat → Int → Int → Sg → Int × Sg
  | 0, _, D, τ => (D, τ)
  | d + 1, z, D, τ => dgI a d (z + 1) (mx (mx (mx D (cuB τ z.toNat a.toNat)) (cmB τ z.toNat a.toNat)) (bbB τ a z).1) (bbB τ a z).2
def dgO : Nat → Int → Int → Sg → Int × Sg
  | 0, _, D, τ => (D, τ)
  | d + 1, z, D, τ => dgO d (z + 1) (msgF (dgI z (τ.1 0).toNat 0 (mbB τ z.toNat D) τ).2 z.toNat (cN (dgI z (τ.1 0).toNat 0 (mbB τ z.toNat D) τ).2 z.toNat) 0 (dgI z (τ.1 0).toNat 0 (mbB τ z.toNat D) τ).1) (dgI z (τ.1 0).toNat 0 (mbB τ z.toNat D) τ).2
def dgB (σ : Sg) : Int × Sg := dgO (σ.1 0).toNat 0 (mx (mx 2099 (σ.1 0)) (σ.1 1)) σ
theorem dgI_IC {a : Int} : ∀ (d : Nat) (z D : Int) (τ : Sg), IC τ → 0 ≤ a → a < τ.1 0 → 0 ≤ z → z + d = τ.1 0 → IC (dgI a d z D τ).2 ∧ ∀ v : Nat, v ≠ 6 → (dgI a d z D τ).2.1 v = τ.1 v := by
  intro d
  induction d with
  | zero => intro z D τ hI _ _ _ _; exact ⟨hI, fun _ _ => rfl⟩
  | succ d ih =>
    intro z D τ hI h0 h1 h2 h3
    have hb := bbB_IC hI (a := a) (c := z) ⟨h0, h1⟩ (by omega)
    have h00 := hb.2.2.2 0 (by decide)
    have h := ih (z + 1) (mx (mx (mx D (cuB τ z.toNat a.toNat)) (cmB τ z.toNat a.toNat)) (bbB τ a z).1) (bbB τ a z).2 hb.1 h0 (by omega) (by omega) (by omega)
    unfold dgI
    exact ⟨h.1, fun v hv => (h.2 v hv).trans (hb.2.2.2 v hv)⟩
theorem dgO_IC : ∀ (d : Nat) (z D : Int) (τ : Sg), IC τ → 0 ≤ z → z + d = τ.1 0 → IC (dgO d z D τ).2 ∧ ∀ v : Nat, v ≠ 6 → (dgO d z D τ).2.1 v = τ.1 v := by
  intro d
  induction d with
  | zero => intro z D τ hI _ _; exact ⟨hI, fun _ _ => rfl⟩
  | succ d ih =>
    intro z D τ hI h0 h1
    have h2 := hI.1
    have hi := dgI_IC (a := z) (τ.1 0).toNat 0 (mbB τ z.toNat D) τ hI h0 (by omega) (by omega) (by omega)
    have h00 := hi.2 0 (by decide)
    unfold dgO
    have h := ih (z + 1) (msgF (dgI z (τ.1 0).toNat 0 (mbB τ z.toNat D) τ).2 z.toNat (cN (dgI z (τ.1 0).toNat 0 (mbB τ z.toNat D) τ).2 z.toNat) 0 (dgI z (τ.1 0).toNat 0 (mbB τ z.toNat D) τ).1) _ hi.1 (by omega) (by omega)
    exact ⟨h.1, fun v hv => (h.2 v hv).trans (hi.2 v hv)⟩
