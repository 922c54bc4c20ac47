/-! the law's loops over a book, and what the class says of it -/
/-- over all but j -/
def skF (c : Int → Int) (j : Int) : Nat → Int → Int → Int
  | 0, _, a => a
  | d + 1, k, a => skF c j d (k + 1) (if k = j then a else a + c k)
def skO (c : Int → Int → Int) (n : Nat) : Nat → Int → Int → Int
  | 0, _, a => a
  | d + 1, j, a => skO c n d (j + 1) (skF (c j) j n 0 a)
def clO (f : Int → Int → Int) (n : Nat) : Nat → Int → Int → Int
  | 0, _, a => a
  | d + 1, j, a => clO f n d (j + 1) (nbF (f j) j n 0 a)
/-- is j alone: 1, or 0 -/
def aoF (f : Int → Int) (j : Int) : Nat → Int → Int → Int
  | 0, _, b => b
  | d + 1, k, b => aoF f j d (k + 1) (if k = j then b else if b = 1 ∧ 0 < f k then 1 else 0)
theorem skF_cnt (c : Int → Int) (P : Int → Bool) (j : Int) : ∀ (d : Nat) (k a : Int), (∀ y : Int, k ≤ y → y < k + d → (if y = j then 0 else c y) = if P y = true then 1 else 0) → skF c j d k a = cnt P d k a := by
  intro d
  induction d with
  | zero => intro k a _; rfl
  | succ d ih =>
    intro k a h
    have h0 := h k (by omega) (by omega)
    unfold skF cnt
    rw [ih (k + 1) _ (fun y h1 h2 => h y (by omega) (by omega))]
    congr 1
    by_cases e : k = j
    · rw [if_pos e] at h0 ⊢
      by_cases q : P k = true
      · rw [if_pos q] at h0; omega
      · rw [if_neg q]
    · rw [if_neg e] at h0 ⊢
      rw [h0]
      by_cases q : P k = true
      · rw [if_pos q, if_pos q]
      · rw [if_neg q, if_neg q, Int.add_zero]
theorem cnt_cut (P P2 : Int → Bool) (j : Int) : ∀ (d : Nat) (k a : Int), k ≤ j → j ≤ k + d → (∀ y : Int, k ≤ y → y < j → P y = P2 y) → (∀ y : Int, j ≤ y → y < k + d → P y = false) → cnt P d k a = cnt P2 (j - k).toNat k a := by
  intro d
  induction d with
  | zero =>
    intro k a h1 h2 _ _
    rw [show (j - k).toNat = 0 by omega]
    rfl
  | succ d ih =>
    intro k a h1 h2 h3 h4
    by_cases e : k = j
    · rw [show (j - k).toNat = 0 by omega]
      subst e
      have : ∀ (d : Nat) (z a : Int), k ≤ z → z + d ≤ k + (d : Int) + (z - k) → (∀ y : Int, z ≤ y → y < z + d → P y = false) → cnt P d z a = a := by
        intro d
        induction d with
        | zero => intro z a _ _ _; rfl
        | succ d ih2 =>
          intro z a q1 q2 q3
          unfold cnt
          rw [q3 z (by omega) (by omega), if_neg (by decide)]
          exact ih2 (z + 1) a (by omega) (by omega) (fun y w1 w2 => q3 y (by omega) (by omega))
      exact this (d + 1) k a (by omega) (by omega) h4
    · rw [show (j - k).toNat = (j - (k + 1)).toNat + 1 by omega]
      unfold cnt
      rw [h3 k (by omega) (by omega)]
      exact ih (k + 1) _ (by omega) (by omega) (fun y w1 w2 => h3 y (by omega) w2) (fun y w1 w2 => h4 y w1 (by omega))
theorem skO_pMF (c : Int → Int → Int) (P : Int → Int → Bool) (n : Nat) (h : ∀ j k : Int, 0 ≤ j → j < n → 0 ≤ k → k < n → (if k = j then 0 else c j k) = if k < j ∧ P j k = true then 1 else 0) : ∀ (d : Nat) (j a : Int), 0 ≤ j → j + d = n → skO c n d j a = pMF P 0 d j a := by
  intro d
  induction d with
  | zero => intro j a _ _; rfl
  | succ d ih =>
    intro j a h0 h1
    unfold skO
    rw [ih (j + 1) _ (by omega) (by omega), show pMF P 0 (d + 1) j a = pMF P 0 d (j + 1) (cnt (P j) (j - 0).toNat 0 a) from rfl]
    congr 1
    rw [skF_cnt (c j) (fun k => decide (k < j ∧ P j k = true)) j n 0 a (fun y w1 w2 => by
      rw [h j y h0 (by omega) w1 (by omega)]
      by_cases q : y < j ∧ P j y = true
      · rw [if_pos q, if_pos (decide_eq_true q)]
      · rw [if_neg q, if_neg (fun z => q (of_decide_eq_true z))])]
    exact cnt_cut _ _ j n 0 a h0 (by omega) (fun y w1 w2 => by
      show decide (y < j ∧ P j y = true) = P j y
      cases hP : P j y
      · exact decide_eq_false (fun z => by simp at z)
      · exact decide_eq_true ⟨w2, rfl⟩) (fun y w1 w2 => decide_eq_false (fun z => by omega))
/-- the least of all -/
theorem clO_is (f : Int → Int → Int) (n : Nat) : ∀ (d : Nat) (j a : Int), clO f n d j a ≤ a ∧ (∀ x y : Int, j ≤ x → x < j + d → 0 ≤ y → y < n → y ≠ x → clO f n d j a ≤ f x y) ∧ (clO f n d j a = a ∨ ∃ x y : Int, j ≤ x ∧ x < j + d ∧ 0 ≤ y ∧ y < n ∧ y ≠ x ∧ clO f n d j a = f x y) := by
  intro d
  induction d with
  | zero => intro j a; exact ⟨Int.le_refl _, fun x y h1 h2 => by omega, Or.inl rfl⟩
  | succ d ih =>
    intro j a
    obtain ⟨h1, h2, h3⟩ := ih (j + 1) (nbF (f j) j n 0 a)
    obtain ⟨k1, k2, k3⟩ := nbF_is (f j) j n 0 a
    rw [show clO f n (d + 1) j a = clO f n d (j + 1) (nbF (f j) j n 0 a) from rfl]
    generalize clO f n d (j + 1) (nbF (f j) j n 0 a) = r at h1 h2 h3 ⊢
    generalize nbF (f j) j n 0 a = s at h1 k1 k2 k3 h3
    refine ⟨by omega, fun x y q1 q2 q3 q4 q5 => ?_, ?_⟩
    · by_cases e : x = j
      · subst e
        have := k2 y q3 (by omega) q5
        omega
      · exact h2 x y (by omega) (by omega) q3 q4 q5
    · rcases h3 with h3 | ⟨x, y, q1, q2, q3, q4, q5, q6⟩
      · rcases k3 with k3 | ⟨y, q1, q2, q3, q4⟩
        · exact Or.inl (by omega)
        · exact Or.inr ⟨j, y, by omega, by omega, q1, by omega, q3, by omega⟩
      · exact Or.inr ⟨x, y, by omega, by omega, q3, q4, q5, q6⟩
theorem aoF_01 (f : Int → Int) (j : Int) : ∀ (d : Nat) (k b : Int), b = 0 ∨ b = 1 → aoF f j d k b = 0 ∨ aoF f j d k b = 1 := by
  intro d
  induction d with
  | zero => intro k b h; exact h
  | succ d ih =>
    intro k b h
    unfold aoF
    refine ih (k + 1) _ ?_
    split
    · exact h
    · split
      · exact Or.inr rfl
      · exact Or.inl rfl
theorem aoF_is (f : Int → Int) (j : Int) : ∀ (d : Nat) (k b : Int), b = 0 ∨ b = 1 → (aoF f j d k b = 1 ↔ b = 1 ∧ ∀ y : Int, k ≤ y → y < k + d → y ≠ j → 0 < f y) := by
  intro d
  induction d with
  | zero => intro k b _; exact ⟨fun w => ⟨w, fun y h1 h2 => by omega⟩, fun w => w.1⟩
  | succ d ih =>
    intro k b h
    unfold aoF
    by_cases e : k = j
    · rw [if_pos e, ih (k + 1) b h]
      exact ⟨fun w => ⟨w.1, fun y h1 h2 h3 => w.2 y (by omega) (by omega) h3⟩, fun w => ⟨w.1, fun y h1 h2 h3 => w.2 y (by omega) (by omega) h3⟩⟩
    · rw [if_neg e]
      by_cases c : b = 1 ∧ 0 < f k
      · rw [if_pos c, ih (k + 1) 1 (Or.inr rfl)]
        refine ⟨fun w => ⟨c.1, fun y h1 h2 h3 => ?_⟩, fun w => ⟨rfl, fun y h1 h2 h3 => w.2 y (by omega) (by omega) h3⟩⟩
        by_cases q : y = k
        · rw [q]; exact c.2
        · exact w.2 y (by omega) (by omega) h3
      · rw [if_neg c, ih (k + 1) 0 (Or.inl rfl)]
        exact ⟨fun w => absurd w.1 (by decide), fun w => absurd ⟨w.1, w.2 k (by omega) (by omega) e⟩ c⟩
/-! what holds of the class's numbers at any time -/
def DM (σ : Sg) : Prop := ∀ b : Nat, b < 4 → ∀ y z : Int, 0 ≤ y → y < σ.1 (2 + b) → 0 ≤ z → z < σ.1 (2 + b) → σ.2 (6 + b) y = σ.2 (6 + b) z → y = z
def Iv (σ : Sg) : Prop := IC σ ∧ DM σ ∧ σ.1 1 = gcF (σ.2 0) ∧ ∀ b : Nat, σ.1 0 ≤ (b : Int) → b < 4 → σ.1 (2 + b) = 0
section BB
variable {σ : Sg} {b s : Nat}
abbrev dB (σ : Sg) (b : Nat) : Int → Int → Int := fun j k => dst (σ.2 0) (lkB σ b j) (lkB σ b k)
theorem dB_rg (hI : IC σ) (hb : b < 5) {j k : Int} (hj : 0 ≤ j ∧ j < σ.1 (2 + b)) (hk : 0 ≤ k ∧ k < σ.1 (2 + b)) : 0 ≤ dB σ b j k ∧ dB σ b j k ≤ 11 := by
  have h := hI.2.2.2.1 b hb
  have h1 := hI.2.2.2.2.1 b hb j hj.1 (by omega)
  have h2 := hI.2.2.2.2.1 b hb k hk.1 (by omega)
  exact dst_rg ⟨h1.1, h1.2, h2.1, h2.2⟩
theorem dB_self (j : Int) : dB σ b j j = 0 := by
  show dst (σ.2 0) (lkB σ b j) (lkB σ b j) = 0
  unfold dst stp
  rw [if_pos rfl, if_pos rfl, if_pos rfl]
  have : xr (lkB σ b j % 16) (lkB σ b j % 16) = 0 := by unfold xr; rw [Nat.xor_self]; rfl
  rw [this]
  decide
theorem alk_d (hI : IC σ) (hb : b < 5) {j k : Int} (hj : 0 ≤ j ∧ j < σ.1 (2 + b)) (hk : 0 ≤ k ∧ k < σ.1 (2 + b)) : alk (σ.2 0) (lkB σ b j) (lkB σ b k) ↔ dB σ b k j = 0 := by
  have h := hI.2.2.2.1 b hb
  have h1 := hI.2.2.2.2.1 b hb j hj.1 (by omega)
  have h2 := hI.2.2.2.2.1 b hb k hk.1 (by omega)
  show _ ↔ dst (σ.2 0) (lkB σ b k) (lkB σ b j) = 0
  rw [dst_sy]
  exact (dst_0 h1 h2).symm
abbrev alP (σ : Sg) (b : Nat) : Int → Int → Bool := fun j k => decide (dst (σ.2 0) (lkB σ b j) (lkB σ b k) = 0)
abbrev thP (σ : Sg) (b : Nat) : Int → Int → Bool := fun j k => decide (dB σ b j k = 1 ∧ lkB σ b j / 16 % 4 ≠ lkB σ b k / 16 % 4)
theorem caB_p (hI : IC σ) (hb : b < 5) : caB σ b = pMF (alP σ b) 0 (cN σ b) 0 0 := by
  have hn := cN_eq hI hb
  refine pO_pMF _ _ 0 (cN σ b) (fun z w h1 h2 h3 => ?_)
  rw [Int.zero_add, Int.zero_add]
  exact decide_eq_decide.mpr (alk_d hI hb (by omega) (by omega))
theorem ctB_p (hI : IC σ) (hb : b < 5) : ctB σ b = pMF (thP σ b) 0 (cN σ b) 0 0 := by
  have hn := cN_eq hI hb
  refine pO_pMF _ _ 0 (cN σ b) (fun z w h1 h2 h3 => ?_)
  rw [Int.zero_add, Int.zero_add]
  refine decide_eq_decide.mpr ?_
  show lkB σ b z / 16 % 4 ≠ lkB σ b w / 16 % 4 ∧ dst (σ.2 0) (lkB σ b z) (lkB σ b w) = 1 ↔ dst (σ.2 0) (lkB σ b w) (lkB σ b z) = 1 ∧ lkB σ b w / 16 % 4 ≠ lkB σ b z / 16 % 4
  rw [dst_sy]
  exact ⟨fun h => ⟨h.2, fun e => h.1 e.symm⟩, fun h => ⟨fun e => h.2 e.symm, h.1⟩⟩
/-- pairs, as the law counts them -/
abbrev alW (σ : Sg) (b : Nat) : Int → Int → Int := fun j k => if k < j ∧ dB σ b j k = 0 then 1 else 0
abbrev thW (σ : Sg) (b : Nat) : Int → Int → Int := fun j k => if k < j ∧ dB σ b j k = 1 ∧ lkB σ b j / 16 % 4 ≠ lkB σ b k / 16 % 4 then 1 else 0
theorem caB_w (hI : IC σ) (hb : b < 5) : caB σ b = skO (alW σ b) (cN σ b) (cN σ b) 0 0 := by
  rw [caB_p hI hb]
  refine (skO_pMF _ _ _ (fun j k h1 h2 h3 h4 => ?_) (cN σ b) 0 0 (Int.le_refl _) (by omega)).symm
  show (if k = j then 0 else if k < j ∧ dB σ b j k = 0 then 1 else 0) = if k < j ∧ decide (dB σ b j k = 0) = true then 1 else 0
  by_cases e : k = j
  · rw [if_pos e, if_neg (fun z => by omega)]
  · rw [if_neg e]
    by_cases q : k < j ∧ dB σ b j k = 0
    · rw [if_pos q, if_pos ⟨q.1, decide_eq_true q.2⟩]
    · rw [if_neg q, if_neg (fun z => q ⟨z.1, of_decide_eq_true z.2⟩)]
theorem ctB_w (hI : IC σ) (hb : b < 5) : ctB σ b = skO (thW σ b) (cN σ b) (cN σ b) 0 0 := by
  rw [ctB_p hI hb]
  refine (skO_pMF _ _ _ (fun j k h1 h2 h3 h4 => ?_) (cN σ b) 0 0 (Int.le_refl _) (by omega)).symm
  show (if k = j then 0 else if k < j ∧ dB σ b j k = 1 ∧ lkB σ b j / 16 % 4 ≠ lkB σ b k / 16 % 4 then 1 else 0) = if k < j ∧ decide (dB σ b j k = 1 ∧ lkB σ b j / 16 % 4 ≠ lkB σ b k / 16 % 4) = true then 1 else 0
  by_cases e : k = j
  · rw [if_pos e, if_neg (fun z => by omega)]
  · rw [if_neg e]
    by_cases q : k < j ∧ dB σ b j k = 1 ∧ lkB σ b j / 16 % 4 ≠ lkB σ b k / 16 % 4
    · rw [if_pos q, if_pos ⟨q.1, decide_eq_true q.2⟩]
    · rw [if_neg q, if_neg (fun z => q ⟨z.1, of_decide_eq_true z.2⟩)]
theorem cnB_w (hI : IC σ) (hb : b < 5) (j : Int) : cnB σ b j = skF (fun k => if dB σ b j k < 4 then 1 else 0) j (cN σ b) 0 0 := by
  refine (skF_cnt _ _ j (cN σ b) 0 0 (fun y h1 h2 => ?_)).symm
  show (if y = j then 0 else if dB σ b j y < 4 then 1 else 0) = if decide (y ≠ j ∧ dst (σ.2 0) (lkB σ b j) (lkB σ b y) ≤ 3) = true then 1 else 0
  by_cases e : y = j
  · rw [if_pos e, if_neg (fun z => (of_decide_eq_true z).1 e)]
  · rw [if_neg e]
    by_cases q : dB σ b j y < 4
    · have q2 : dst (σ.2 0) (lkB σ b j) (lkB σ b y) < 4 := q
      rw [if_pos q, if_pos (decide_eq_true ⟨e, by omega⟩)]
    · have q2 : ¬ dst (σ.2 0) (lkB σ b j) (lkB σ b y) < 4 := q
      rw [if_neg q, if_neg (fun z => q2 (by have := (of_decide_eq_true z).2; omega))]
/-- the closest two -/
theorem faB_w (hI : IC σ) (hb : b < 5) : faB σ b = if σ.1 (2 + b) < 2 then 0 else clO (dB σ b) (cN σ b) (cN σ b) 0 99 := by
  have hn := cN_eq hI hb
  have h16 := hI.2.2.2.1 b hb
  unfold faB
  by_cases c : σ.1 (2 + b) < 2
  · rw [if_pos c, if_pos c]
  · rw [if_neg c, if_neg c]
    have nb : ∀ z : Int, nbB σ b z (lkB σ b z) = nbF (dB σ b z) z (cN σ b) 0 100 := fun z => rfl
    obtain ⟨a1, a2, a3⟩ := nbF_is (fun z => nbB σ b z (lkB σ b z)) (-1) (cN σ b) 0 100
    obtain ⟨c1, c2, c3⟩ := clO_is (dB σ b) (cN σ b) (cN σ b) 0 99
    have lo : ∀ x y : Int, 0 ≤ x → x < cN σ b → 0 ≤ y → y < cN σ b → y ≠ x → nbF (fun z => nbB σ b z (lkB σ b z)) (-1) (cN σ b) 0 100 ≤ dB σ b x y := fun x y x0 x1 y0 y1 hne => by
      have h1 := a2 x x0 (by omega) (by omega)
      have h2 := (nbF_is (dB σ b x) x (cN σ b) 0 100).2.1 y y0 (by omega) hne
      rw [← nb x] at h2
      omega
    have g0 := dB_rg hI hb (j := 0) (k := 1) (by omega) (by omega)
    have l0 := lo 0 1 (by omega) (by omega) (by omega) (by omega) (by omega)
    have m0 := c2 0 1 (by omega) (by omega) (by omega) (by omega) (by omega)
    generalize nbF (fun z => nbB σ b z (lkB σ b z)) (-1) (cN σ b) 0 100 = p at *
    generalize clO (dB σ b) (cN σ b) (cN σ b) 0 99 = q at *
    have le1 : p ≤ q := by
      rcases c3 with c3 | ⟨x, y, q1, q2, q3, q4, q5, q6⟩
      · omega
      · have := lo x y q1 (by omega) q3 q4 q5
        omega
    have le2 : q ≤ p := by
      rcases a3 with a3 | ⟨z, q1, q2, -, q4⟩
      · omega
      · rw [nb z] at q4
        obtain ⟨d1, d2, d3⟩ := nbF_is (dB σ b z) z (cN σ b) 0 100
        rw [← q4] at d3
        rcases d3 with d3 | ⟨y, e1, e2, e3, e4⟩
        · omega
        · have := c2 z y q1 (by omega) e1 (by omega) e3
          omega
    omega
theorem clO_99 (hI : IC σ) (hb : b < 5) : 0 ≤ clO (dB σ b) (cN σ b) (cN σ b) 0 99 ∧ clO (dB σ b) (cN σ b) (cN σ b) 0 99 ≤ 99 ∧ (clO (dB σ b) (cN σ b) (cN σ b) 0 99 = 99 ↔ σ.1 (2 + b) < 2) := by
  have hn := cN_eq hI hb
  obtain ⟨c1, c2, c3⟩ := clO_is (dB σ b) (cN σ b) (cN σ b) 0 99
  have g := fun (x y : Int) (h1 : 0 ≤ x) (h2 : x < cN σ b) (h3 : 0 ≤ y) (h4 : y < cN σ b) => dB_rg hI hb (j := x) (k := y) (by omega) (by omega)
  by_cases c : σ.1 (2 + b) < 2
  · have e : clO (dB σ b) (cN σ b) (cN σ b) 0 99 = 99 := by
      rcases c3 with c3 | ⟨x, y, q1, q2, q3, q4, q5, q6⟩
      · exact c3
      · omega
    exact ⟨by omega, by omega, fun _ => c, fun _ => e⟩
  · have m0 := c2 0 1 (by omega) (by omega) (by omega) (by omega) (by omega)
    have g0 := g 0 1 (by omega) (by omega) (by omega) (by omega)
    refine ⟨?_, c1, fun w => by omega, fun w => absurd w c⟩
    rcases c3 with c3 | ⟨x, y, q1, q2, q3, q4, q5, q6⟩
    · omega
    · have := g x y q1 (by omega) q3 q4
      omega
/-- common meanings are as many from both sides -/
theorem ccB_le (hI : IC σ) (hD : DM σ) (hb : b < 4) (hs : s < 4) : ccB σ b s = ccB σ s b := by
  have h1 := cN_eq hI (b := b) (by omega)
  have h2 := cN_eq hI (b := s) (by omega)
  have m1 := hI.2.2.2.1 b (by omega)
  have m2 := hI.2.2.2.1 s (by omega)
  have c1 := cnt_mn (mnB σ b) (coC σ b s) (cN σ b) (fun z q1 q2 => hI.2.2.2.2.2 b (by omega) z q1 (by omega)) (fun y z q1 q2 q3 q4 q5 => hD b hb y z q1 (by omega) q3 (by omega) q5)
  have c2 := cnt_mn (mnB σ s) (coC σ s b) (cN σ s) (fun z q1 q2 => hI.2.2.2.2.2 s (by omega) z q1 (by omega)) (fun y z q1 q2 q3 q4 q5 => hD s hs y z q1 (by omega) q3 (by omega) q5)
  unfold ccB
  rw [c1, c2]
  refine cnt_cg _ _ 30 0 0 (fun x _ _ => ?_)
  have mu : fnd (mnB σ b) x (cN σ b) 0 ≠ -1 → mnB σ b (fnd (mnB σ b) x (cN σ b) 0) = x := fun q => fnd_is (mnB σ b) x (cN σ b) 0 q (by omega)
  have mv : fnd (mnB σ s) x (cN σ s) 0 ≠ -1 → mnB σ s (fnd (mnB σ s) x (cN σ s) 0) = x := fun q => fnd_is (mnB σ s) x (cN σ s) 0 q (by omega)
  unfold coC findB
  rw [← Bool.decide_and, ← Bool.decide_and]
  refine decide_eq_decide.mpr ?_
  generalize hu : fnd (mnB σ b) x (cN σ b) 0 = u at *
  generalize hv : fnd (mnB σ s) x (cN σ s) 0 = v at *
  refine ⟨fun h => ?_, fun h => ?_⟩
  · obtain ⟨p1, p2, p3, p4⟩ := h
    rw [mu p1, hv] at p2 p4
    rw [mu p1] at p3
    refine ⟨p2, ?_, ?_, ?_⟩
    · rw [mv p2, hu]; exact p1
    · rw [mv p2]; exact p4
    · rw [mv p2, hu]; exact p3
  · obtain ⟨p1, p2, p3, p4⟩ := h
    rw [mv p1, hu] at p2 p4
    rw [mv p1] at p3
    refine ⟨p2, ?_, ?_, ?_⟩
    · rw [mu p2, hv]; exact p1
    · rw [mu p2]; exact p4
    · rw [mu p2, hv]; exact p3
theorem fnd_at (mn : Int → Int) : ∀ (d : Nat) (z j : Int), z ≤ j → j < z + d → (∀ y : Int, z ≤ y → y < j → mn y ≠ mn j) → fnd mn (mn j) d z = j := by
  intro d
  induction d with
  | zero => intro z j h1 h2; omega
  | succ d ih =>
    intro z j h1 h2 h3
    unfold fnd
    by_cases e : z = j
    · rw [if_pos (by rw [e]), e]
    · rw [if_neg (h3 z (by omega) (by omega))]
      exact ih (z + 1) j (by omega) (by omega) (fun y q1 q2 => h3 y (by omega) q2)
theorem findB_at (hI : IC σ) (hD : DM σ) (hb : b < 4) {j : Int} (hj : 0 ≤ j ∧ j < σ.1 (2 + b)) : findB σ b (σ.2 (6 + b) j) = j := by
  have hn := cN_eq hI (b := b) (by omega)
  refine fnd_at (mnB σ b) (cN σ b) 0 j hj.1 (by omega) (fun y q1 q2 q3 => ?_)
  have := hD b hb y j q1 (by omega) hj.1 hj.2 q3
  omega
end BB
