/-! the reference's last four -/
theorem tbF_IM {a c : Int} (ha : 0 ≤ a ∧ a < 4) (hc : 0 ≤ c ∧ c < 4) : ∀ (d : Nat) (z fo mo : Int) (τ : Sg), IM τ → 0 ≤ z → z + d = τ.2 11 a → -1 ≤ fo → fo < 16 → IM (tbF a c d z fo mo τ).2 ∧ -1 ≤ (tbF a c d z fo mo τ).1 ∧ (tbF a c d z fo mo τ).1 < 16 ∧ (tbF a c d z fo mo τ).2.1 = τ.1 ∧ ∀ l, (tbF a c d z fo mo τ).2.2 11 l = τ.2 11 l := by
  intro d
  induction d with
  | zero => intro z fo mo τ hI _ _ h1 h2; exact ⟨hI, h1, h2, rfl, fun _ => rfl⟩
  | succ d ih =>
    intro z fo mo τ hI h0 hz h1 h2
    have hn := hI.2.2.1 a ha.1 ha.2
    unfold tbF
    split
    · exact ih (z + 1) fo mo τ hI (by omega) (by omega) h1 h2
    · rename_i h
      have hU := IM_tbU hI hc (a := a) (z := z) (by omega) h
      have e1 : (tbU τ a c z).1 = τ.1 := rfl
      have e2 := tbU_11 τ a c z
      have ea := e2 a
      split
      · obtain ⟨i1, i2, i3, i4, i5⟩ := ih (z + 1) z (raM (tbW τ a c z) a c 1) (tbU τ a c z) hU (by omega) (by omega) (by omega) (by omega)
        exact ⟨i1, i2, i3, i4.trans e1, fun l => (i5 l).trans (e2 l)⟩
      · obtain ⟨i1, i2, i3, i4, i5⟩ := ih (z + 1) fo mo (tbU τ a c z) hU (by omega) (by omega) h1 h2
        exact ⟨i1, i2, i3, i4.trans e1, fun l => (i5 l).trans (e2 l)⟩
theorem tbM_IM {σ : Sg} (hI : IM σ) {a c : Int} (ha : 0 ≤ a ∧ a < 4) (hc : 0 ≤ c ∧ c < 4) : IM (tbM σ a c).2 ∧ -1 ≤ (tbM σ a c).1 ∧ (tbM σ a c).1 < 16 ∧ (tbM σ a c).2.1 = σ.1 ∧ ∀ l, (tbM σ a c).2.2 11 l = σ.2 11 l := by
  unfold tbM
  split
  · exact ⟨hI, Int.le_refl _, (show (-1 : Int) < 16 by decide), rfl, fun _ => rfl⟩
  · exact tbF_IM ha hc (nM σ a) 0 (-1) (-1) σ hI (by omega) (by have := nM_eq hI ha; omega) (by omega) (by omega)
theorem pMF_rg (c : Int → Int → Bool) (o : Int) : ∀ (d : Nat) (j a : Int), o ≤ j → j + d ≤ o + 16 → a ≤ pMF c o d j a ∧ pMF c o d j a ≤ a + 16 * d := by
  intro d
  induction d with
  | zero => intro j a _ _; exact ⟨Int.le_refl _, by simp [pMF]⟩
  | succ d ih =>
    intro j a h0 h
    have h1 := cnt_rg (c j) (j - o).toNat o a
    have h2 := ih (j + 1) (cnt (c j) (j - o).toNat o a) (by omega) (by omega)
    unfold pMF
    omega
theorem pMM_rg (c : Int → Int → Bool) {σ : Sg} (hI : IM σ) {l : Int} (hl : 0 ≤ l ∧ l < 4) : 0 ≤ pMF c (16 * l + 0) (nM σ l) (16 * l + 0) 0 ∧ pMF c (16 * l + 0) (nM σ l) (16 * l + 0) 0 ≤ 256 := by
  have h := hI.2.2.1 l hl.1 hl.2
  have h1 := nM_eq hI hl
  have h2 := pMF_rg c (16 * l + 0) (nM σ l) (16 * l + 0) 0 (by omega) (by omega)
  omega
theorem nrO_rg {f : Int → Int → Int} {o : Int} : ∀ (d : Nat) (j a : Int), (∀ x y : Int, o ≤ x → x < j + d → o ≤ y → y < x → 0 ≤ f x y ∧ f x y ≤ 11) → o ≤ j → -1 ≤ a → a ≤ 11 → -1 ≤ nrO f o d j a ∧ nrO f o d j a ≤ 11 := by
  intro d
  induction d with
  | zero => intro j a _ _ h1 h2; exact ⟨h1, h2⟩
  | succ d ih =>
    intro j a hf h0 h1 h2
    have h3 := nrI_rg (f := f j) (j - o).toNat o a (fun y q1 q2 => hf j y h0 (by omega) q1 (by omega)) h1 h2
    unfold nrO
    exact ih (j + 1) _ (fun x y q1 q2 q3 q4 => hf x y q1 (by omega) q3 q4) (by omega) h3.1 h3.2
theorem nsM_rg {σ : Sg} (hI : IM σ) {l : Int} (hl : 0 ≤ l ∧ l < 4) : 0 ≤ nsM σ l ∧ nsM σ l ≤ 11 := by
  have h := hI.2.2.1 l hl.1 hl.2
  have h1 := nM_eq hI hl
  have h2 : -1 ≤ neM σ l ∧ neM σ l ≤ 11 := nrO_rg (nM σ l) (16 * l + 0) (-1) (fun x y q1 q2 q3 q4 => by
    have hx := lkM_rg hI (k := x) (by omega)
    have hy := lkM_rg hI (k := y) (by omega)
    exact dst_rg ⟨hx.1, hx.2, hy.1, hy.2⟩) (by omega) (by omega) (by omega)
  unfold nsM
  split <;> omega
theorem amM_rg (f : Int → Int) (o : Int) {hi : Int} : ∀ (d : Nat) (w fo mo : Int), -1 ≤ fo → fo ≤ hi → o ≤ w → w + d ≤ o + hi + 1 → -1 ≤ amM f o d w fo mo ∧ amM f o d w fo mo ≤ hi := by
  intro d
  induction d with
  | zero => intro w fo mo h1 h2 _ _; exact ⟨h1, h2⟩
  | succ d ih =>
    intro w fo mo h1 h2 h3 h4
    unfold amM
    split
    · exact ih (w + 1) _ _ (by omega) (by omega) (by omega) (by omega)
    · exact ih (w + 1) _ _ h1 h2 (by omega) (by omega)
theorem miM_rg {σ : Sg} (hI : IM σ) {l : Int} (hl : 0 ≤ l ∧ l < 4) : -1 ≤ miM σ l ∧ miM σ l ≤ 15 := by
  have h := hI.2.2.1 l hl.1 hl.2
  have h1 := nM_eq hI hl
  exact amM_rg _ (16 * l + 0) (nM σ l) (16 * l + 0) (-1) (-1) (by omega) (by omega) (by omega) (by omega)
theorem btM_rg {σ : Sg} (hI : IM σ) {l s : Int} (hl : 0 ≤ l ∧ l < 4) (hs : 0 ≤ s ∧ s < 16) : -1 ≤ btM σ l s ∧ btM σ l s ≤ 4 := by
  have h := lkM_in hI (k := 16 * l + s) (by omega)
  unfold btM
  split
  · omega
  · have := amF_rg (fun t => btN σ l (16 * l + s) t) (lo := -1) (hi := 4) 4 0 (-1) (-1) (by omega) (by omega) (by omega) (by omega)
    exact this
/-- the sums -/
def msMF (σ : Sg) : Nat → Int → Int → Int
  | 0, _, a => a
  | d + 1, z, a => msMF σ d (z + 1) (a + σ.2 11 z)
def msM (σ : Sg) : UInt64 := if σ.1 8 = 0 then 0 else FP.ddiv (FP.i2d (iI (msMF σ (σ.1 8).toNat 0 0))) (FP.i2d (iI (σ.1 8)))
theorem msMF_rg {σ : Sg} (hI : IM σ) : ∀ (d : Nat) (z a : Int), 0 ≤ z → z + d ≤ 4 → a ≤ msMF σ d z a ∧ msMF σ d z a ≤ a + 16 * d := by
  intro d
  induction d with
  | zero => intro z a _ _; exact ⟨Int.le_refl _, by simp [msMF]⟩
  | succ d ih =>
    intro z a h0 h
    have h1 := hI.2.2.1 z (by omega) (by omega)
    have h2 := ih (z + 1) (a + σ.2 11 z) (by omega) (by omega)
    unfold msMF
    omega
def caS (σ : Sg) : Nat → Int → Int → Int
  | 0, _, a => a
  | d + 1, z, a => caS σ d (z + 1) (a + caM σ z)
/-- the groups as they were -/
def bkM (τ : Sg) (f : Int → Int) : Sg := sR τ 17 (fun j => if 0 ≤ j ∧ j < (9 : Nat) then f j else τ.2 17 j)
def wrG (σ : Sg) : Int → Int := fun j => if 0 ≤ j ∧ j < ((9 : Nat) : Int) then σ.2 17 j else 0
def ajM (σ : Sg) (a b : Int) : Int × Sg := (caS (jnM σ a b) (σ.1 8).toNat 0 0, bkM (jnM σ a b) (wrG σ))
theorem jnF_1 (x y : Int) : ∀ (d : Nat) (z : Int) (τ : Sg), (jnF x y d z τ).1 = τ.1 := by
  intro d
  induction d with
  | zero => intro z τ; rfl
  | succ d ih =>
    intro z τ
    unfold jnF
    rw [ih]
    split <;> rfl
theorem jnM_1 (σ : Sg) (a b : Int) : (jnM σ a b).1 = σ.1 := jnF_1 _ _ 9 0 σ
/-- five in a row -/
def fiv (f : Int → Int) : Nat → Int → Int → Int
  | 0, _, D => D
  | d + 1, z, D => fiv f d (z + 1) (mx D (f z))
abbrev f5 (a b c d e : Int) : Int → Int := fun j => if j = 4 then e else (fun j => if j = 3 then d else (fun j => if j = 2 then c else (fun j => if j = 1 then b else (fun j => if j = 0 then a else (fun _ => 0) j) j) j) j) j
theorem fiv_f5 (a b c d e D : Int) : fiv (f5 a b c d e) 5 0 D = mx (mx (mx (mx (mx D a) b) c) d) e := rfl
def mbM (σ : Sg) (l D : Int) : Int := mx (mx (mx (mx (mx D (σ.2 11 l)) (caM σ l)) (ctM σ l)) (nsM σ l)) (miM σ l)
def msgM (σ : Sg) (l : Int) : Nat → Int → Int → Int
  | 0, _, D => D
  | d + 1, z, D => msgM σ l d (z + 1) (mx (mx (mx (mx (mx D (σ.2 12 (16 * l + z))) (σ.2 13 (16 * l + z))) (σ.2 14 (16 * l + z))) (σ.2 16 (16 * l + z))) (btM σ l z))
def dgMI (a : Int) : Nat → Int → Int → Sg → Int × Sg
  | 0, _, D, τ => (D, τ)
  | d + 1, z, D, τ => dgMI a d (z + 1) (mx (mx (mx D (raM τ a z 1)) (raM τ a z 0)) (tbM τ a z).1) (tbM τ a z).2
def dgMO : Nat → Int → Int → Sg → Int × Sg
  | 0, _, D, τ => (D, τ)
  | d + 1, z, D, τ => dgMO d (z + 1) (msgM (dgMI z (τ.1 8).toNat 0 (mbM τ z D) τ).2 z (nM (dgMI z (τ.1 8).toNat 0 (mbM τ z D) τ).2 z) 0 (dgMI z (τ.1 8).toNat 0 (mbM τ z D) τ).1) (dgMI z (τ.1 8).toNat 0 (mbM τ z D) τ).2
def dgM (σ : Sg) : Int × Sg := dgMO (σ.1 8).toNat 0 (mx (mx 2099 (σ.1 8)) (agM σ)) σ
theorem dgMI_IM {a : Int} (ha : 0 ≤ a ∧ a < 4) : ∀ (d : Nat) (z D : Int) (τ : Sg), IM τ → 0 ≤ z → z + d ≤ 4 → IM (dgMI a d z D τ).2 ∧ (dgMI a d z D τ).2.1 = τ.1 ∧ ∀ l, (dgMI a d z D τ).2.2 11 l = τ.2 11 l := by
  intro d
  induction d with
  | zero => intro z D τ hI _ _; exact ⟨hI, rfl, fun _ => rfl⟩
  | succ d ih =>
    intro z D τ hI h0 h1
    obtain ⟨b1, -, -, b4, b5⟩ := tbM_IM hI ha (c := z) ⟨h0, by omega⟩
    obtain ⟨i1, i2, i3⟩ := ih (z + 1) (mx (mx (mx D (raM τ a z 1)) (raM τ a z 0)) (tbM τ a z).1) (tbM τ a z).2 b1 (by omega) (by omega)
    exact ⟨i1, i2.trans b4, fun l => (i3 l).trans (b5 l)⟩
