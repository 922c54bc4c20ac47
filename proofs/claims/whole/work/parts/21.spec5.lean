/-! the reference, in the same words -/
def lkM (σ : Sg) (k : Int) : Int := mkL (σ.2 12 k) (σ.2 13 k) (σ.2 14 k) (σ.2 15 k)
abbrev nM (σ : Sg) (l : Int) : Nat := (σ.2 11 l).toNat
def IM (σ : Sg) : Prop := (0 ≤ σ.1 8 ∧ σ.1 8 ≤ 4) ∧ (0 ≤ σ.1 7 ∧ σ.1 7 ≤ 3) ∧ (∀ l : Int, 0 ≤ l → l < 4 → 0 ≤ σ.2 11 l ∧ σ.2 11 l ≤ 16) ∧ (∀ k : Int, 0 ≤ k → k < 64 → 0 ≤ σ.2 12 k ∧ σ.2 12 k < 16) ∧ (∀ k : Int, 0 ≤ k → k < 64 → 0 ≤ σ.2 13 k ∧ σ.2 13 k < 4) ∧ (∀ k : Int, 0 ≤ k → k < 64 → 0 ≤ σ.2 14 k ∧ σ.2 14 k < 9) ∧ (∀ k : Int, 0 ≤ k → k < 64 → 0 ≤ σ.2 15 k ∧ σ.2 15 k < 4) ∧ (∀ k : Int, 0 ≤ k → k < 64 → 0 ≤ σ.2 16 k ∧ σ.2 16 k < 30) ∧ ∀ p : Int, 0 ≤ p → p < 9 → 0 ≤ σ.2 17 p ∧ σ.2 17 p < 9
theorem IM_t {σ : Sg} (hI : IM σ) {x : Int} (hx : 0 ≤ x ∧ x ≤ 3) : IM (sF σ 7 x) := ⟨hI.1, hx, hI.2.2⟩
theorem dst_mk {G : Int → Int} {s t p m s2 t2 p2 m2 : Int} (h : 0 ≤ s ∧ s < 16 ∧ 0 ≤ t ∧ t < 4 ∧ 0 ≤ p ∧ p < 9 ∧ 0 ≤ m ∧ m < 4) (h2 : 0 ≤ s2 ∧ s2 < 16 ∧ 0 ≤ t2 ∧ t2 < 4 ∧ 0 ≤ p2 ∧ p2 < 9 ∧ 0 ≤ m2 ∧ m2 < 4) : dst G (mkL s t p m) (mkL s2 t2 p2 m2) = stp G p p2 + (if t = t2 then 0 else 1) + (if m = m2 then 0 else 2) + pop4 (xr s s2) := by
  have e1 : mkL s t p m % 16 = s := by unfold mkL; omega
  have e2 : mkL s t p m / 16 % 4 = t := by unfold mkL; omega
  have e3 : mkL s t p m / 64 % 4 = m := by unfold mkL; omega
  have e4 : mkL s t p m / 256 = p := by unfold mkL; omega
  have f1 : mkL s2 t2 p2 m2 % 16 = s2 := by unfold mkL; omega
  have f2 : mkL s2 t2 p2 m2 / 16 % 4 = t2 := by unfold mkL; omega
  have f3 : mkL s2 t2 p2 m2 / 64 % 4 = m2 := by unfold mkL; omega
  have f4 : mkL s2 t2 p2 m2 / 256 = p2 := by unfold mkL; omega
  unfold dst
  rw [e1, e2, e3, e4, f1, f2, f3, f4]
  omega
theorem mkL_rg {s t p m : Int} (h : 0 ≤ s ∧ s < 16 ∧ 0 ≤ t ∧ t < 4 ∧ 0 ≤ p ∧ p < 9 ∧ 0 ≤ m ∧ m < 4) : 0 ≤ mkL s t p m ∧ mkL s t p m < 2304 := by
  unfold mkL
  omega
theorem lkM_in {σ : Sg} (hI : IM σ) {k : Int} (hk : 0 ≤ k ∧ k < 64) : 0 ≤ σ.2 12 k ∧ σ.2 12 k < 16 ∧ 0 ≤ σ.2 13 k ∧ σ.2 13 k < 4 ∧ 0 ≤ σ.2 14 k ∧ σ.2 14 k < 9 ∧ 0 ≤ σ.2 15 k ∧ σ.2 15 k < 4 := by
  have h1 := hI.2.2.2.1 k hk.1 hk.2
  have h2 := hI.2.2.2.2.1 k hk.1 hk.2
  have h3 := hI.2.2.2.2.2.1 k hk.1 hk.2
  have h4 := hI.2.2.2.2.2.2.1 k hk.1 hk.2
  omega
theorem lkM_rg {σ : Sg} (hI : IM σ) {k : Int} (hk : 0 ≤ k ∧ k < 64) : 0 ≤ lkM σ k ∧ lkM σ k < 2304 := mkL_rg (lkM_in hI hk)
def popd : Nat → Int → Int
  | 0, _ => 0
  | d + 1, r => r % 2 + popd d (r / 2)
theorem popd_0 : ∀ d : Nat, popd d 0 = 0 := by
  intro d
  induction d with
  | zero => rfl
  | succ d ih =>
    unfold popd
    rw [show (0 : Int) / 2 = 0 by decide, ih]
    decide
theorem popd_4 (r : Int) : popd 4 r = pop4 r := by
  simp only [popd, pop4]
  omega
/-- the reference's loops -/
def frF (f : Int → Int) : Nat → Int → Int → Int
  | 0, _, b => b
  | d + 1, w, b => frF f d (w + 1) (if b = 1 ∧ 0 < f w then 1 else 0)
def tfF (σ : Sg) (j l : Int) : Nat → Int → Int
  | 0, _ => -1
  | d + 1, z => if frF (fun k => dst (σ.2 17) (mkL (σ.2 12 j) ((σ.2 13 j + z) % 4) (σ.2 14 j) (σ.2 15 j)) (lkM σ k)) (nM σ l) (16 * l + 0) 1 = 1 then (σ.2 13 j + z) % 4 else tfF σ j l d (z + 1)
def sgM (σ : Sg) (l x : Int) : Int := fnd (fun z => σ.2 16 (16 * l + z)) x (nM σ l) 0
def tfM (σ : Sg) (j l : Int) : Int := if σ.2 11 l = 16 ∨ sgM σ l (σ.2 16 j) ≠ -1 then -1 else tfF σ j l 4 0
def rdM (σ : Sg) (L l : Int) : Int := mrF (fun k => dst (σ.2 17) L (lkM σ k)) (σ.2 16) (nM σ l) (16 * l + 0) 4 (-1)
def pMF (c : Int → Int → Bool) (o : Int) : Nat → Int → Int → Int
  | 0, _, a => a
  | d + 1, j, a => pMF c o d (j + 1) (cnt (c j) (j - o).toNat o a)
def alM (σ : Sg) : Int → Int → Bool := fun j k => decide (dst (σ.2 17) (lkM σ j) (lkM σ k) = 0)
def thM (σ : Sg) : Int → Int → Bool := fun j k => decide (σ.2 13 j ≠ σ.2 13 k ∧ dst (σ.2 17) (lkM σ j) (lkM σ k) = 1)
def caM (σ : Sg) (l : Int) : Int := pMF (alM σ) (16 * l + 0) (nM σ l) (16 * l + 0) 0
def ctM (σ : Sg) (l : Int) : Int := pMF (thM σ) (16 * l + 0) (nM σ l) (16 * l + 0) 0
def nrI (f : Int → Int) : Nat → Int → Int → Int
  | 0, _, a => a
  | d + 1, w, a => nrI f d (w + 1) (if a = -1 ∨ f w < a then f w else a)
def nrO (f : Int → Int → Int) (o : Int) : Nat → Int → Int → Int
  | 0, _, a => a
  | d + 1, j, a => nrO f o d (j + 1) (nrI (f j) (j - o).toNat o a)
def neM (σ : Sg) (l : Int) : Int := nrO (fun j k => dst (σ.2 17) (lkM σ j) (lkM σ k)) (16 * l + 0) (nM σ l) (16 * l + 0) (-1)
def nsM (σ : Sg) (l : Int) : Int := if neM σ l ≤ 0 then 0 else neM σ l
def nrM (σ : Sg) (j : Int) : Int → Bool := fun k => decide (k ≠ j ∧ dst (σ.2 17) (lkM σ j) (lkM σ k) ≤ 3)
def amM (f : Int → Int) (o : Int) : Nat → Int → Int → Int → Int
  | 0, _, fo, _ => fo
  | d + 1, w, fo, mo => if mo < f w then amM f o d (w + 1) (w - o) (f w) else amM f o d (w + 1) fo mo
def miM (σ : Sg) (l : Int) : Int := amM (fun j => cnt (nrM σ j) (nM σ l) (16 * l + 0) 0) (16 * l + 0) (nM σ l) (16 * l + 0) (-1) (-1)
def btL (σ : Sg) (j t : Int) : Int := mkL (σ.2 12 j) t (σ.2 14 j) (σ.2 15 j)
def btN (σ : Sg) (l j t : Int) : Int := nbF (fun k => dst (σ.2 17) (btL σ j t) (lkM σ k)) j (nM σ l) (16 * l + 0) 99
def btM (σ : Sg) (l s : Int) : Int := if σ.2 11 l = 1 then σ.2 13 (16 * l + s) else amF (fun t => btN σ l (16 * l + s) t) 4 0 (-1) (-1)
def raC (σ : Sg) (t r : Int) : Int → Bool := fun j => decide (rdM σ (lkM σ j) t ≠ -1 ∧ (if rdM σ (lkM σ j) t = σ.2 16 j then 1 else 0) = r)
def raM (σ : Sg) (f t r : Int) : Int := cnt (raC σ t r) (nM σ f) (16 * f + 0) 0
def coM (σ : Sg) (a c : Int) : Int → Bool := fun j => decide (sgM σ c (σ.2 16 j) ≠ -1 ∧ rdM σ (lkM σ j) c = σ.2 16 j ∧ rdM σ (lkM σ (16 * c + sgM σ c (σ.2 16 j))) a = σ.2 16 j)
def cmM (σ : Sg) (a c : Int) : Int := cnt (coM σ a c) (nM σ a) (16 * a + 0) 0
def agC (σ : Sg) : Int → Bool := fun p => decide (σ.2 17 p = p)
def agM (σ : Sg) : Int := cnt (agC σ) 9 0 0
/-- what the reference writes -/
def wrM (σ : Sg) (l s t p m x : Int) : Sg := sG (sG (sG (sG (sG (sG σ 12 (16 * l + σ.2 11 l) s) 13 (16 * l + σ.2 11 l) t) 14 (16 * l + σ.2 11 l) p) 15 (16 * l + σ.2 11 l) m) 16 (16 * l + σ.2 11 l) x) 11 l (σ.2 11 l + 1)
def clF (a : Nat) : Nat → Int → Sg → Sg
  | 0, _, τ => τ
  | d + 1, k, τ => clF a d (k + 1) (sG τ a k (τ.2 a (k + 1)))
def fgM (σ : Sg) (l s : Int) : Sg :=
  let n := (σ.2 11 l - 1 - s).toNat
  sG (clF 16 n (16 * l + s) (clF 15 n (16 * l + s) (clF 14 n (16 * l + s) (clF 13 n (16 * l + s) (clF 12 n (16 * l + s) σ))))) 11 l (σ.2 11 l - 1)
def jnF (x y : Int) : Nat → Int → Sg → Sg
  | 0, _, τ => τ
  | d + 1, z, τ => jnF x y d (z + 1) (if τ.2 17 z = y then sG τ 17 z x else τ)
def jnM (σ : Sg) (a b : Int) : Sg := jnF (if σ.2 17 a ≤ σ.2 17 b then σ.2 17 a else σ.2 17 b) (if σ.2 17 b ≤ σ.2 17 a then σ.2 17 a else σ.2 17 b) 9 0 σ
theorem clF_1 (a : Nat) : ∀ (d : Nat) (k : Int) (τ : Sg), (clF a d k τ).1 = τ.1 := by
  intro d
  induction d with
  | zero => intro k τ; rfl
  | succ d ih => intro k τ; exact (ih (k + 1) _).trans rfl
theorem clF_2 (a : Nat) : ∀ (d : Nat) (k : Int) (τ : Sg) (c : Nat), c ≠ a → (clF a d k τ).2 c = τ.2 c := by
  intro d
  induction d with
  | zero => intro k τ c _; rfl
  | succ d ih =>
    intro k τ c hc
    refine (ih (k + 1) _ c hc).trans ?_
    show (if c = a then _ else τ.2 c) = τ.2 c
    rw [if_neg hc]
theorem sgM_rg {σ : Sg} (hI : IM σ) {l : Int} (hl : 0 ≤ l ∧ l < 4) (x : Int) : sgM σ l x = -1 ∨ (0 ≤ sgM σ l x ∧ sgM σ l x < σ.2 11 l) := by
  have h := hI.2.2.1 l hl.1 hl.2
  rcases fnd_rg (fun z => σ.2 16 (16 * l + z)) x (nM σ l) 0 with q | q
  · exact Or.inl q
  · right
    unfold sgM
    have : ((nM σ l : Nat) : Int) = σ.2 11 l := by show ((σ.2 11 l).toNat : Int) = _; omega
    omega
theorem nM_eq {σ : Sg} (hI : IM σ) {l : Int} (hl : 0 ≤ l ∧ l < 4) : ((nM σ l : Nat) : Int) = σ.2 11 l := by
  have h := hI.2.2.1 l hl.1 hl.2
  show ((σ.2 11 l).toNat : Int) = _
  omega
theorem rdM_rg {σ : Sg} (hI : IM σ) {l : Int} (hl : 0 ≤ l ∧ l < 4) (L : Int) : -1 ≤ rdM σ L l ∧ rdM σ L l < 30 := by
  have h := hI.2.2.1 l hl.1 hl.2
  have h2 := nM_eq hI hl
  exact mrF_rg _ _ (nM σ l) (16 * l + 0) 4 (-1) (fun y h3 h4 => hI.2.2.2.2.2.2.2.1 y (by omega) (by omega)) (by omega) (by omega)
theorem cntM_rg (c : Int → Bool) {σ : Sg} (hI : IM σ) {l : Int} (hl : 0 ≤ l ∧ l < 4) (z : Int) : 0 ≤ cnt c (nM σ l) z 0 ∧ cnt c (nM σ l) z 0 ≤ 16 := by
  have h := cnt_rg c (nM σ l) z 0
  have h2 := nM_eq hI hl
  have h3 := hI.2.2.1 l hl.1 hl.2
  omega
theorem frF_01 (f : Int → Int) : ∀ (d : Nat) (w b : Int), (b = 0 ∨ b = 1) → frF f d w b = 0 ∨ frF f d w b = 1 := by
  intro d
  induction d with
  | zero => intro w b h; exact h
  | succ d ih =>
    intro w b _
    unfold frF
    exact ih (w + 1) _ (by split <;> first | exact Or.inr rfl | exact Or.inl rfl)
theorem tfF_rg {σ : Sg} (hI : IM σ) {j l : Int} (hj : 0 ≤ j ∧ j < 64) : ∀ (d : Nat) (z : Int), 0 ≤ z → tfF σ j l d z = -1 ∨ (0 ≤ tfF σ j l d z ∧ tfF σ j l d z < 4) := by
  intro d
  induction d with
  | zero => intro z _; exact Or.inl rfl
  | succ d ih =>
    intro z hz
    have h := lkM_in hI hj
    unfold tfF
    split
    · right; omega
    · exact ih (z + 1) (by omega)
theorem tfM_rg {σ : Sg} (hI : IM σ) {j l : Int} (hj : 0 ≤ j ∧ j < 64) : tfM σ j l = -1 ∨ (0 ≤ tfM σ j l ∧ tfM σ j l < 4) := by
  unfold tfM
  split
  · exact Or.inl rfl
  · exact tfF_rg hI hj 4 0 (by omega)
theorem nrI_rg {f : Int → Int} : ∀ (d : Nat) (w a : Int), (∀ y : Int, w ≤ y → y < w + d → 0 ≤ f y ∧ f y ≤ 11) → -1 ≤ a → a ≤ 11 → -1 ≤ nrI f d w a ∧ nrI f d w a ≤ 11 := by
  intro d
  induction d with
  | zero => intro w a _ h1 h2; exact ⟨h1, h2⟩
  | succ d ih =>
    intro w a hf h1 h2
    have h3 := hf w (by omega) (by omega)
    unfold nrI
    refine ih (w + 1) _ (fun y hy1 hy2 => hf y (by omega) (by omega)) ?_ ?_ <;> split <;> omega
