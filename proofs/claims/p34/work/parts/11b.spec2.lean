/-! the loops, as they run -/
def fnd (mn : Int → Int) (x : Int) : Nat → Int → Int
  | 0, _ => -1
  | d + 1, z => if mn z = x then z else fnd mn x d (z + 1)
def cnt (c : Int → Bool) : Nat → Int → Int → Int
  | 0, _, a => a
  | d + 1, z, a => cnt c d (z + 1) (if c z = true then a + 1 else a)
def pO (c : Int → Int → Bool) : Nat → Int → Int → Int
  | 0, _, a => a
  | d + 1, z, a => pO c d (z + 1) (cnt (c z) d (z + 1) a)
def hsA (G lk : Int → Int) (L : Int) : Nat → Int → Int
  | 0, _ => 0
  | d + 1, z => if alk G L (lk z) then 1 else hsA G lk L d (z + 1)
def fuF (G lk : Int → Int) (n : Nat) (L : Int) : Nat → Int → Int
  | 0, _ => -1
  | d + 1, z => if hsA G lk (wth L ((L / 16 % 4 + z) % 4)) n 0 = 0 then wth L ((L / 16 % 4 + z) % 4) else fuF G lk n L d (z + 1)
def nbF (f : Int → Int) (s : Int) : Nat → Int → Int → Int
  | 0, _, a => a
  | d + 1, z, a => nbF f s d (z + 1) (if z = s then a else if a ≤ f z then a else f z)
def amF (f : Int → Int) : Nat → Int → Int → Int → Int
  | 0, _, fo, _ => fo
  | d + 1, z, fo, mo => if mo < f z then amF f d (z + 1) z (f z) else amF f d (z + 1) fo mo
def mrF (dd mn : Int → Int) : Nat → Int → Int → Int → Int
  | 0, _, _, m => m
  | d + 1, z, fw, m => if dd z < fw then mrF dd mn d (z + 1) (dd z) (mn z) else if dd z = fw then mrF dd mn d (z + 1) fw (-1) else mrF dd mn d (z + 1) fw m
/-- a book as it is asked -/
abbrev cN (σ : Sg) (b : Nat) : Nat := (σ.1 (2 + b)).toNat
abbrev lkB (σ : Sg) (b : Nat) : Int → Int := σ.2 (1 + b)
abbrev mnB (σ : Sg) (b : Nat) : Int → Int := σ.2 (6 + b)
def findB (σ : Sg) (b : Nat) (x : Int) : Int := fnd (mnB σ b) x (cN σ b) 0
def hsAB (σ : Sg) (b : Nat) (L : Int) : Int := hsA (σ.2 0) (lkB σ b) L (cN σ b) 0
def fuB (σ : Sg) (b : Nat) (L : Int) : Int := fuF (σ.2 0) (lkB σ b) (cN σ b) L 4 0
def alC (G lk : Int → Int) : Int → Int → Bool := fun z w => decide (alk G (lk z) (lk w))
def caB (σ : Sg) (b : Nat) : Int := pO (alC (σ.2 0) (lkB σ b)) (cN σ b) 0 0
def sgI (G : Int → Int) (l r x y : Int) : Bool := decide (G x = G y ∨ (G x = G l ∧ G y = G r) ∨ (G x = G r ∧ G y = G l))
def aiC (G lk : Int → Int) (l r : Int) : Int → Int → Bool := fun z w => decide (lk z % 256 = lk w % 256 ∧ sgI G l r (lk z / 256) (lk w / 256) = true)
def cajB (σ : Sg) (b : Nat) (l r : Int) : Int := pO (aiC (σ.2 0) (lkB σ b) l r) (cN σ b) 0 0
def taC (G lk : Int → Int) : Int → Int → Bool := fun z w => decide (lk z / 16 % 4 ≠ lk w / 16 % 4 ∧ dst G (lk z) (lk w) = 1)
def ctB (σ : Sg) (b : Nat) : Int := pO (taC (σ.2 0) (lkB σ b)) (cN σ b) 0 0
def nbB (σ : Sg) (b : Nat) (s L : Int) : Int := nbF (fun z => dst (σ.2 0) L (lkB σ b z)) s (cN σ b) 0 100
def faB (σ : Sg) (b : Nat) : Int := if σ.1 (2 + b) < 2 then 0 else nbF (fun z => nbB σ b z (lkB σ b z)) (-1) (cN σ b) 0 100
def nrC (G lk : Int → Int) (s : Int) : Int → Bool := fun z => decide (z ≠ s ∧ dst G (lk s) (lk z) ≤ 3)
def cnB (σ : Sg) (b : Nat) (s : Int) : Int := cnt (nrC (σ.2 0) (lkB σ b) s) (cN σ b) 0 0
def snB (σ : Sg) (b : Nat) : Int := amF (fun z => cnB σ b z) (cN σ b) 0 (-1) (-1)
def tfB (σ : Sg) (b : Nat) (s : Int) : Int := if σ.1 (2 + b) < 2 then lkB σ b s / 16 % 4 else amF (fun t => nbB σ b s (wth (lkB σ b s) t)) 4 0 0 (-1)
def mrB (σ : Sg) (b : Nat) (L : Int) : Int := mrF (fun z => dst (σ.2 0) L (lkB σ b z)) (mnB σ b) (cN σ b) 0 4 (-1)
def unC (σ : Sg) (b s : Nat) : Int → Bool := fun z => decide (mrB σ b (lkB σ s z) = mnB σ s z)
def cuB (σ : Sg) (b s : Nat) : Int := cnt (unC σ b s) (cN σ s) 0 0
def miC (σ : Sg) (b s : Nat) : Int → Bool := fun z => decide (mrB σ b (lkB σ s z) ≠ -1 ∧ mrB σ b (lkB σ s z) ≠ mnB σ s z)
def cmB (σ : Sg) (b s : Nat) : Int := cnt (miC σ b s) (cN σ s) 0 0
def coC (σ : Sg) (b s : Nat) : Int → Bool := fun z => decide (findB σ s (mnB σ b z) ≠ -1 ∧ mrB σ s (lkB σ b z) = mnB σ b z ∧ mrB σ b (lkB σ s (findB σ s (mnB σ b z))) = mnB σ b z)
def ccB (σ : Sg) (b s : Nat) : Int := cnt (coC σ b s) (cN σ b) 0 0
theorem fnd_rg (mn : Int → Int) (x : Int) : ∀ (d : Nat) (z : Int), fnd mn x d z = -1 ∨ (z ≤ fnd mn x d z ∧ fnd mn x d z < z + d) := by
  intro d
  induction d with
  | zero => intro z; exact Or.inl rfl
  | succ d ih =>
    intro z
    unfold fnd
    split
    · right; omega
    · rcases ih (z + 1) with h | h
      · exact Or.inl h
      · right; omega
theorem cnt_rg (c : Int → Bool) : ∀ (d : Nat) (z a : Int), a ≤ cnt c d z a ∧ cnt c d z a ≤ a + d := by
  intro d
  induction d with
  | zero => intro z a; exact ⟨Int.le_refl _, by simp [cnt]⟩
  | succ d ih =>
    intro z a
    unfold cnt
    have h := ih (z + 1) (if c z = true then a + 1 else a)
    split at h <;> split <;> first | omega | simp_all | (constructor <;> omega)
theorem hsA_01 (G lk : Int → Int) (L : Int) : ∀ (d : Nat) (z : Int), hsA G lk L d z = 0 ∨ hsA G lk L d z = 1 := by
  intro d
  induction d with
  | zero => intro z; exact Or.inl rfl
  | succ d ih =>
    intro z
    unfold hsA
    split
    · exact Or.inr rfl
    · exact ih (z + 1)
theorem fuF_rg (G lk : Int → Int) (n : Nat) {L : Int} (hL : 0 ≤ L ∧ L < 2304) : ∀ (d : Nat) (z : Int), 0 ≤ z → fuF G lk n L d z = -1 ∨ (0 ≤ fuF G lk n L d z ∧ fuF G lk n L d z < 2304) := by
  intro d
  induction d with
  | zero => intro z _; exact Or.inl rfl
  | succ d ih =>
    intro z hz
    unfold fuF
    split
    · right; exact wth_rg (by omega)
    · exact ih (z + 1) (by omega)
theorem nbF_rg (f : Int → Int) (s : Int) {lo hi : Int} : ∀ (d : Nat) (z a : Int), (∀ y : Int, z ≤ y → y < z + d → lo ≤ f y ∧ f y ≤ hi) → lo ≤ a → a ≤ hi → lo ≤ nbF f s d z a ∧ nbF f s d z a ≤ hi := by
  intro d
  induction d with
  | zero => intro z a _ h1 h2; exact ⟨h1, h2⟩
  | succ d ih =>
    intro z a hf h1 h2
    unfold nbF
    have h3 := hf z (by omega) (by omega)
    refine ih (z + 1) _ (fun y hy1 hy2 => hf y (by omega) (by omega)) ?_ ?_ <;> split <;> first | assumption | (split <;> omega)
theorem amF_rg (f : Int → Int) {lo hi : Int} : ∀ (d : Nat) (z fo mo : Int), lo ≤ fo → fo ≤ hi → lo ≤ z → z + d ≤ hi + 1 → lo ≤ amF f d z fo mo ∧ amF f d z fo mo ≤ hi := by
  intro d
  induction d with
  | zero => intro z fo mo h1 h2 _ _; exact ⟨h1, h2⟩
  | succ d ih =>
    intro z fo mo h1 h2 h3 h4
    unfold amF
    split
    · exact ih (z + 1) z _ h3 (by omega) (by omega) (by omega)
    · exact ih (z + 1) fo mo h1 h2 (by omega) (by omega)
theorem mrF_rg (dd mn : Int → Int) : ∀ (d : Nat) (z fw m : Int), (∀ y : Int, z ≤ y → y < z + d → 0 ≤ mn y ∧ mn y < 30) → -1 ≤ m → m < 30 → -1 ≤ mrF dd mn d z fw m ∧ mrF dd mn d z fw m < 30 := by
  intro d
  induction d with
  | zero => intro z fw m _ h1 h2; exact ⟨h1, h2⟩
  | succ d ih =>
    intro z fw m hf h1 h2
    have h3 := hf z (by omega) (by omega)
    unfold mrF
    split
    · exact ih (z + 1) _ _ (fun y hy1 hy2 => hf y (by omega) (by omega)) (by omega) (by omega)
    · split
      · exact ih (z + 1) _ _ (fun y hy1 hy2 => hf y (by omega) (by omega)) (by omega) (by omega)
      · exact ih (z + 1) _ _ (fun y hy1 hy2 => hf y (by omega) (by omega)) h1 h2
theorem findB_rg {σ : Sg} (hI : IC σ) {b : Nat} (hb : b < 5) (x : Int) : findB σ b x = -1 ∨ (0 ≤ findB σ b x ∧ findB σ b x < σ.1 (2 + b)) := by
  have h := hI.2.2.2.1 b hb
  rcases fnd_rg (mnB σ b) x (cN σ b) 0 with q | q
  · exact Or.inl q
  · right
    unfold findB
    have : ((cN σ b : Nat) : Int) = σ.1 (2 + b) := by show ((σ.1 (2 + b)).toNat : Int) = _; omega
    omega
theorem mrB_rg {σ : Sg} (hI : IC σ) {b : Nat} (hb : b < 5) (L : Int) : -1 ≤ mrB σ b L ∧ mrB σ b L < 30 := by
  have h := hI.2.2.2.1 b hb
  refine mrF_rg _ _ (cN σ b) 0 4 (-1) (fun y h1 h2 => ?_) (by omega) (by omega)
  have : ((cN σ b : Nat) : Int) = σ.1 (2 + b) := by show ((σ.1 (2 + b)).toNat : Int) = _; omega
  exact hI.2.2.2.2.2 b hb y h1 (by omega)
theorem nbB_rg {σ : Sg} (hI : IC σ) {b : Nat} (hb : b < 5) (s : Int) {L : Int} (hL : 0 ≤ L ∧ L < 2304) : 0 ≤ nbB σ b s L ∧ nbB σ b s L ≤ 100 := by
  have h := hI.2.2.2.1 b hb
  refine nbF_rg _ s (cN σ b) 0 100 (fun y h1 h2 => ?_) (by omega) (by omega)
  have : ((cN σ b : Nat) : Int) = σ.1 (2 + b) := by show ((σ.1 (2 + b)).toNat : Int) = _; omega
  have h3 := hI.2.2.2.2.1 b hb y h1 (by omega)
  have h4 := dst_rg (G := σ.2 0) (x := L) (y := lkB σ b y) ⟨hL.1, hL.2, h3.1, h3.2⟩
  show 0 ≤ dst (σ.2 0) L (lkB σ b y) ∧ dst (σ.2 0) L (lkB σ b y) ≤ 100
  omega
theorem cN_eq {σ : Sg} (hI : IC σ) {b : Nat} (hb : b < 5) : ((cN σ b : Nat) : Int) = σ.1 (2 + b) := by
  have h := hI.2.2.2.1 b hb
  show ((σ.1 (2 + b)).toNat : Int) = _
  omega
theorem cnt0_rg (c : Int → Bool) {σ : Sg} (hI : IC σ) {b : Nat} (hb : b < 5) : 0 ≤ cnt c (cN σ b) 0 0 ∧ cnt c (cN σ b) 0 0 ≤ 16 := by
  have h := cnt_rg c (cN σ b) 0 0
  have h2 := cN_eq hI hb
  have h3 := hI.2.2.2.1 b hb
  omega
theorem j_ifb_eq {mc : MC} {g : GG} {k n : Nat} {Q : State → Prop} {pc : Nat} {lv : List (Nat × Value)} {st : List Value} {σ : Sg} {cc : ByteArray} {own : String} {nL : Nat} {ret : Option FieldType} {c : Prop} {dc : Decidable c} (hC : Cx mc g cc own nL ret) {off : Int} {tgt : Nat} (hd : decode cc pc = .ok (.ifCond .eq off, 3)) (ht : (pc : Int) + off = (tgt : Int)) (kt : ¬ c → J mc g k n Q tgt lv st σ) (kf : c → J mc g k n Q (pc + 3) lv st σ) : J mc g k n Q pc lv (vI (@ite Int c dc 1 0) :: st) σ := by
  by_cases h : c
  · rw [if_pos h]
    exact j_if_eq (tgt := tgt) hC hd ht (by omega) (fun q => absurd q (by decide)) (fun _ => kf h)
  · rw [if_neg h]
    exact j_if_eq (tgt := tgt) hC hd ht (by omega) (fun _ => kt h) (fun q => absurd rfl q)
theorem j_ifb_ne {mc : MC} {g : GG} {k n : Nat} {Q : State → Prop} {pc : Nat} {lv : List (Nat × Value)} {st : List Value} {σ : Sg} {cc : ByteArray} {own : String} {nL : Nat} {ret : Option FieldType} {c : Prop} {dc : Decidable c} (hC : Cx mc g cc own nL ret) {off : Int} {tgt : Nat} (hd : decode cc pc = .ok (.ifCond .ne off, 3)) (ht : (pc : Int) + off = (tgt : Int)) (kt : c → J mc g k n Q tgt lv st σ) (kf : ¬ c → J mc g k n Q (pc + 3) lv st σ) : J mc g k n Q pc lv (vI (@ite Int c dc 1 0) :: st) σ := by
  by_cases h : c
  · rw [if_pos h]
    exact j_if_ne (tgt := tgt) hC hd ht (by omega) (fun _ => kt h) (fun q => absurd q (by decide))
  · rw [if_neg h]
    exact j_if_ne (tgt := tgt) hC hd ht (by omega) (fun q => absurd rfl q) (fun _ => kf h)
