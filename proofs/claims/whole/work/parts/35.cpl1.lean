/-! counting, finding, least and most: the two programs' loops -/
theorem cnt_add (c : Int → Bool) : ∀ (d : Nat) (z a : Int), cnt c d z a = a + cnt c d z 0 := by
  intro d
  induction d with
  | zero => intro z a; simp [cnt]
  | succ d ih =>
    intro z a
    unfold cnt
    rw [ih (z + 1) (if c z = true then a + 1 else a), ih (z + 1) (if c z = true then 0 + 1 else 0)]
    split <;> omega
theorem cnt_sh (c c' : Int → Bool) (o : Int) : ∀ (d : Nat) (z a : Int), (∀ y : Int, z ≤ y → y < z + d → c (o + y) = c' y) → cnt c d (o + z) a = cnt c' d z a := by
  intro d
  induction d with
  | zero => intro z a _; rfl
  | succ d ih =>
    intro z a h
    have h0 := h z (by omega) (by omega)
    unfold cnt
    rw [h0, Int.add_assoc]
    exact ih (z + 1) _ (fun y h1 h2 => h y (by omega) (by omega))
theorem cnt_cg (c c' : Int → Bool) (d : Nat) (z a : Int) (h : ∀ y : Int, z ≤ y → y < z + d → c y = c' y) : cnt c d z a = cnt c' d z a := by
  have := cnt_sh c c' 0 d z a (fun y h1 h2 => by rw [Int.zero_add]; exact h y h1 h2)
  rwa [Int.zero_add] at this
theorem cnt_last (c : Int → Bool) : ∀ (d : Nat) (z a : Int), cnt c (d + 1) z a = cnt c d z a + (if c (z + d) = true then 1 else 0) := by
  intro d
  induction d with
  | zero =>
    intro z a
    simp only [cnt]
    rw [show z + ((0 : Nat) : Int) = z by omega]
    split <;> omega
  | succ d ih =>
    intro z a
    rw [show cnt c (d + 1 + 1) z a = cnt c (d + 1) (z + 1) (if c z = true then a + 1 else a) from rfl, ih, show cnt c (d + 1) z a = cnt c d (z + 1) (if c z = true then a + 1 else a) from rfl, show z + 1 + (d : Int) = z + ((d + 1 : Nat) : Int) by omega]
theorem cnt_one (c c' : Int → Bool) (x : Int) : ∀ (d : Nat) (z : Int), z ≤ x → x < z + d → (∀ y : Int, z ≤ y → y < z + d → y ≠ x → c y = c' y) → cnt c d z 0 + (if c' x = true then 1 else 0) = cnt c' d z 0 + (if c x = true then 1 else 0) := by
  intro d
  induction d with
  | zero => intro z h1 h2; omega
  | succ d ih =>
    intro z h1 h2 h
    unfold cnt
    rw [cnt_add c d (z + 1), cnt_add c' d (z + 1)]
    by_cases e : z = x
    · subst e
      have := cnt_cg c c' d (z + 1) 0 (fun y q1 q2 => h y (by omega) (by omega) (by omega))
      rw [this]
      split <;> split <;> omega
    · have h0 := h z (by omega) (by omega) e
      have := ih (z + 1) (by omega) (by omega) (fun y q1 q2 q3 => h y (by omega) (by omega) q3)
      rw [h0]
      omega
theorem pO_add (c : Int → Int → Bool) : ∀ (d : Nat) (z a b : Int), pO c d z (a + b) = pO c d z a + b := by
  intro d
  induction d with
  | zero => intro z a b; rfl
  | succ d ih =>
    intro z a b
    unfold pO
    rw [cnt_add, cnt_add (c z) d (z + 1) a, show a + b + cnt (c z) d (z + 1) 0 = (a + cnt (c z) d (z + 1) 0) + b by omega]
    exact ih (z + 1) _ b
theorem pO_last (c : Int → Int → Bool) : ∀ (d : Nat) (z a : Int), pO c (d + 1) z a = pO c d z a + cnt (fun y => c y (z + d)) d z 0 := by
  intro d
  induction d with
  | zero => intro z a; simp [pO, cnt]
  | succ d ih =>
    intro z a
    rw [show pO c (d + 1 + 1) z a = pO c (d + 1) (z + 1) (cnt (c z) (d + 1) (z + 1) a) from rfl, ih (z + 1), cnt_last (c z) d (z + 1) a, pO_add, show pO c (d + 1) z a = pO c d (z + 1) (cnt (c z) d (z + 1) a) from rfl]
    rw [show cnt (fun y => c y (z + ((d + 1 : Nat) : Int))) (d + 1) z 0 = cnt (fun y => c y (z + ((d + 1 : Nat) : Int))) d (z + 1) (if c z (z + ((d + 1 : Nat) : Int)) = true then 0 + 1 else 0) from rfl, cnt_add _ d (z + 1) (if c z (z + ((d + 1 : Nat) : Int)) = true then 0 + 1 else 0), show z + 1 + (d : Int) = z + ((d + 1 : Nat) : Int) by omega]
    split <;> omega
theorem pMF_last (c : Int → Int → Bool) (o : Int) : ∀ (d : Nat) (j a : Int), pMF c o (d + 1) j a = pMF c o d j a + cnt (c (j + d)) (j + d - o).toNat o 0 := by
  intro d
  induction d with
  | zero =>
    intro j a
    simp only [pMF]
    rw [cnt_add, show j + ((0 : Nat) : Int) = j by omega]
  | succ d ih =>
    intro j a
    rw [show pMF c o (d + 1 + 1) j a = pMF c o (d + 1) (j + 1) (cnt (c j) (j - o).toNat o a) from rfl, ih, show pMF c o (d + 1) j a = pMF c o d (j + 1) (cnt (c j) (j - o).toNat o a) from rfl, show j + 1 + (d : Int) = j + ((d + 1 : Nat) : Int) by omega]
theorem pO_pMF (c c' : Int → Int → Bool) (o : Int) : ∀ (n : Nat), (∀ z w : Int, 0 ≤ z → z < w → w < n → c z w = c' (o + w) (o + z)) → pO c n 0 0 = pMF c' o n o 0 := by
  intro n
  induction n with
  | zero => intro _; rfl
  | succ n ih =>
    intro h
    rw [pO_last, pMF_last, ih (fun z w h1 h2 h3 => h z w h1 h2 (by omega)), show (o + (n : Int) - o).toNat = n by omega]
    have := cnt_sh (c' (o + n)) (fun y => c y (0 + n)) o n 0 0 (fun y h1 h2 => by rw [Int.zero_add]; exact (h y n h1 (by omega) (by omega)).symm)
    rw [Int.add_zero] at this
    rw [this]
theorem fnd_cg (f f' : Int → Int) (x : Int) : ∀ (d : Nat) (z : Int), (∀ y : Int, z ≤ y → y < z + d → f y = f' y) → fnd f x d z = fnd f' x d z := by
  intro d
  induction d with
  | zero => intro z _; rfl
  | succ d ih =>
    intro z h
    unfold fnd
    rw [h z (by omega) (by omega), ih (z + 1) (fun y h1 h2 => h y (by omega) (by omega))]
theorem fnd_is (f : Int → Int) (x : Int) : ∀ (d : Nat) (z : Int), fnd f x d z ≠ -1 → 0 ≤ z → f (fnd f x d z) = x := by
  intro d
  induction d with
  | zero => intro z h; exact absurd rfl h
  | succ d ih =>
    intro z h h0
    unfold fnd at h ⊢
    split
    · rename_i e; rw [if_pos e] at h; exact e
    · rename_i e; rw [if_neg e] at h; exact ih (z + 1) h (by omega)
theorem fnd_no (f : Int → Int) (x : Int) : ∀ (d : Nat) (z : Int), 0 ≤ z → fnd f x d z = -1 → ∀ y : Int, z ≤ y → y < z + d → f y ≠ x := by
  intro d
  induction d with
  | zero => intro z _ _ y h1 h2; omega
  | succ d ih =>
    intro z h0 h y h1 h2
    unfold fnd at h
    split at h
    · omega
    · rename_i e
      by_cases q : y = z
      · rw [q]; exact e
      · exact ih (z + 1) (by omega) h y (by omega) (by omega)
theorem mrF_sh (dd dd' mn mn' : Int → Int) (o : Int) : ∀ (d : Nat) (z fw m : Int), (∀ y : Int, z ≤ y → y < z + d → dd (o + y) = dd' y ∧ mn (o + y) = mn' y) → mrF dd mn d (o + z) fw m = mrF dd' mn' d z fw m := by
  intro d
  induction d with
  | zero => intro z fw m _; rfl
  | succ d ih =>
    intro z fw m h
    have h0 := h z (by omega) (by omega)
    unfold mrF
    rw [h0.1, h0.2, Int.add_assoc, ih (z + 1) _ _ (fun y h1 h2 => h y (by omega) (by omega)), ih (z + 1) _ _ (fun y h1 h2 => h y (by omega) (by omega)), ih (z + 1) _ _ (fun y h1 h2 => h y (by omega) (by omega))]
theorem nbF_sh (f f' : Int → Int) (o s s' : Int) : ∀ (d : Nat) (z a : Int), s = o + s' → (∀ y : Int, z ≤ y → y < z + d → f (o + y) = f' y) → nbF f s d (o + z) a = nbF f' s' d z a := by
  intro d
  induction d with
  | zero => intro z a _ _; rfl
  | succ d ih =>
    intro z a hs h
    have h0 := h z (by omega) (by omega)
    unfold nbF
    rw [h0, Int.add_assoc, ih (z + 1) _ hs (fun y h1 h2 => h y (by omega) (by omega))]
    congr 1
    by_cases q : z = s'
    · rw [if_pos q, if_pos (by omega)]
    · rw [if_neg q, if_neg (by omega)]
/-- the least of those that aren't s, or a -/
theorem nbF_is (f : Int → Int) (s : Int) : ∀ (d : Nat) (z a : Int), nbF f s d z a ≤ a ∧ (∀ y : Int, z ≤ y → y < z + d → y ≠ s → nbF f s d z a ≤ f y) ∧ (nbF f s d z a = a ∨ ∃ y : Int, z ≤ y ∧ y < z + d ∧ y ≠ s ∧ nbF f s d z a = f y) := by
  intro d
  induction d with
  | zero => intro z a; exact ⟨Int.le_refl _, fun y h1 h2 => by omega, Or.inl rfl⟩
  | succ d ih =>
    intro z a
    obtain ⟨h1, h2, h3⟩ := ih (z + 1) (if z = s then a else if a ≤ f z then a else f z)
    rw [show nbF f s (d + 1) z a = nbF f s d (z + 1) (if z = s then a else if a ≤ f z then a else f z) from rfl]
    generalize nbF f s d (z + 1) (if z = s then a else if a ≤ f z then a else f z) = r at h1 h2 h3 ⊢
    refine ⟨?_, fun y q1 q2 q3 => ?_, ?_⟩
    · split at h1
      · exact h1
      · split at h1 <;> omega
    · by_cases e : y = z
      · subst e
        rw [if_neg q3] at h1
        split at h1 <;> omega
      · exact h2 y (by omega) (by omega) q3
    · rcases h3 with h3 | ⟨y, q1, q2, q3, q4⟩
      · split at h3
        · exact Or.inl h3
        · rename_i e
          split at h3
          · exact Or.inl h3
          · exact Or.inr ⟨z, by omega, by omega, e, h3⟩
      · exact Or.inr ⟨y, by omega, by omega, q3, q4⟩
theorem amF_cg (f f' : Int → Int) : ∀ (d : Nat) (z fo mo : Int), (∀ y : Int, z ≤ y → y < z + d → f y = f' y) → amF f d z fo mo = amF f' d z fo mo := by
  intro d
  induction d with
  | zero => intro z fo mo _; rfl
  | succ d ih =>
    intro z fo mo h
    unfold amF
    rw [h z (by omega) (by omega), ih (z + 1) _ _ (fun y h1 h2 => h y (by omega) (by omega)), ih (z + 1) _ _ (fun y h1 h2 => h y (by omega) (by omega))]
theorem amM_sh (f f' : Int → Int) (o : Int) : ∀ (d : Nat) (z fo mo : Int), (∀ y : Int, z ≤ y → y < z + d → f (o + y) = f' y) → amM f o d (o + z) fo mo = amF f' d z fo mo := by
  intro d
  induction d with
  | zero => intro z fo mo _; rfl
  | succ d ih =>
    intro z fo mo h
    have h0 := h z (by omega) (by omega)
    unfold amM amF
    rw [h0, show o + z - o = z by omega, Int.add_assoc, ih (z + 1) _ _ (fun y h1 h2 => h y (by omega) (by omega)), ih (z + 1) _ _ (fun y h1 h2 => h y (by omega) (by omega))]
/-- counted by what is meant -/
theorem cnt_mn (mn : Int → Int) (P : Int → Bool) : ∀ n : Nat, (∀ z : Int, 0 ≤ z → z < n → 0 ≤ mn z ∧ mn z < 30) → (∀ y z : Int, 0 ≤ y → y < n → 0 ≤ z → z < n → mn y = mn z → y = z) →
    cnt P n 0 0 = cnt (fun x => decide (fnd mn x n 0 ≠ -1) && P (fnd mn x n 0)) 30 0 0 := by
  intro n
  induction n with
  | zero =>
    intro _ _
    rfl
  | succ n ih =>
    intro hr hd
    have fl : ∀ x : Int, fnd mn x (n + 1) 0 = if fnd mn x n 0 ≠ -1 then fnd mn x n 0 else if mn n = x then (n : Int) else -1 := by
      intro x
      have gen : ∀ (d : Nat) (z : Int), 0 ≤ z → fnd mn x (d + 1) z = if fnd mn x d z ≠ -1 then fnd mn x d z else if mn (z + d) = x then z + d else -1 := by
        intro d
        induction d with
        | zero => intro z _; simp [fnd]
        | succ d ihd =>
          intro z hz
          rw [show fnd mn x (d + 1 + 1) z = if mn z = x then z else fnd mn x (d + 1) (z + 1) from rfl, show fnd mn x (d + 1) z = if mn z = x then z else fnd mn x d (z + 1) from rfl, ihd (z + 1) (by omega), show z + 1 + (d : Int) = z + ((d + 1 : Nat) : Int) by omega]
          by_cases e : mn z = x
          · simp only [if_pos e]
            rw [if_pos (by omega)]
          · simp only [if_neg e]
      have := gen n 0 (Int.le_refl _)
      rwa [Int.zero_add] at this
    have hmn := hr n (by omega) (by omega)
    have hno : fnd mn (mn n) n 0 = -1 := by
      by_cases q : fnd mn (mn n) n 0 = -1
      · exact q
      · have h1 := fnd_is mn (mn n) n 0 q (Int.le_refl _)
        have h2 := fnd_rg mn (mn n) n 0
        have := hd (fnd mn (mn n) n 0) n (by omega) (by omega) (by omega) (by omega) h1
        omega
    rw [cnt_last, ih (fun z h1 h2 => hr z h1 (by omega)) (fun y z h1 h2 h3 h4 => hd y z h1 (by omega) h3 (by omega)), Int.zero_add]
    have key := cnt_one (fun x => decide (fnd mn x n 0 ≠ -1) && P (fnd mn x n 0)) (fun x => decide (fnd mn x (n + 1) 0 ≠ -1) && P (fnd mn x (n + 1) 0)) (mn n) 30 0 hmn.1 (by omega) (fun y _ _ hy => by
      show (decide (fnd mn y n 0 ≠ -1) && P (fnd mn y n 0)) = (decide (fnd mn y (n + 1) 0 ≠ -1) && P (fnd mn y (n + 1) 0))
      rw [fl y]
      by_cases q : fnd mn y n 0 ≠ -1
      · rw [if_pos q]
      · rw [if_neg q, if_neg (fun z => hy z.symm)]
        have : fnd mn y n 0 = -1 := Classical.not_not.mp q
        rw [this])
    have e1 : fnd mn (mn n) (n + 1) 0 = n := by rw [fl, if_neg (fun z => z hno), if_pos rfl]
    simp only [hno, e1] at key
    have e2 : decide ((n : Int) ≠ -1) = true := decide_eq_true (by omega)
    rw [e2] at key
    simp only [Bool.true_and, ne_eq, not_true_eq_false, decide_false, Bool.false_and, if_neg Bool.false_ne_true, Int.add_zero] at key
    omega
