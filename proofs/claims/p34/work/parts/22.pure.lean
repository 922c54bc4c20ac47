def pMF (c : Int → Int → Bool) (o : Int) : Nat → Int → Int → Int
  | 0, _, a => a
  | d + 1, j, a => pMF c o d (j + 1) (cnt (c j) (j - o).toNat o a)
/-! counting, finding, least and most: the two programs' loops -/
theorem cnt_add (c : Int → Bool) : ∀ (d : Nat) (z a : Int), cnt c d z a = a + cnt c d z 0 := by
  intro d
  induction d with
  | zero => intro z a; simp [cnt]
  | succ d ih =>
    intro z a
    unfold cnt
    rw [ih (z + 1) (if c z = true then a + 1 else a), ih (z + 1) (if c z = true then 0 + 1 else 0)]
    split <;> omega
theorem cnt_sh (c c' : Int → Bool) (o : Int) : ∀ (d : Nat) (z a : Int), (∀ y : Int, z ≤ y → y < z + d → c (o + y) = c' y) → cnt c d (o + z) a = cnt c' d z a := by
  intro d
  induction d with
  | zero => intro z a _; rfl
  | succ d ih =>
    intro z a h
    have h0 := h z (by omega) (by omega)
    unfold cnt
    rw [h0, Int.add_assoc]
    exact ih (z + 1) _ (fun y h1 h2 => h y (by omega) (by omega))
theorem cnt_cg (c c' : Int → Bool) (d : Nat) (z a : Int) (h : ∀ y : Int, z ≤ y → y < z + d → c y = c' y) : cnt c d z a = cnt c' d z a := by
  have := cnt_sh c c' 0 d z a (fun y h1 h2 => by rw [Int.zero_add]; exact h y h1 h2)
  rwa [Int.zero_add] at this
theorem cnt_last (c : Int → Bool) : ∀ (d : Nat) (z a : Int), cnt c (d + 1) z a = cnt c d z a + (if c (z + d) = true then 1 else 0) := by
  intro d
  induction d with
  | zero =>
    intro z a
    simp only [cnt]
    rw [show z + ((0 : Nat) : Int) = z by omega]
    split <;> omega
  | succ d ih =>
    intro z a
    rw [show cnt c (d + 1 + 1) z a = cnt c (d + 1) (z + 1) (if c z = true then a + 1 else a) from rfl, ih, show cnt c (d + 1) z a = cnt c d (z + 1) (if c z = true then a + 1 else a) from rfl, show z + 1 + (d : Int) = z + ((d + 1 : Nat) : Int) by omega]
theorem cnt_one (c c' : Int → Bool) (x : Int) : ∀ (d : Nat) (z : Int), z ≤ x → x < z + d → (∀ y : Int, z ≤ y → y < z + d → y ≠ x → c y = c' y) → cnt c d z 0 + (if c' x = true then 1 else 0) = cnt c' d z 0 + (if c x = true then 1 else 0) := by
  intro d
  induction d with
  | zero => intro z h1 h2; omega
  | succ d ih =>
    intro z h1 h2 h
    unfold cnt
    rw [cnt_add c d (z + 1), cnt_add c' d (z + 1)]
    by_cases e : z = x
    · subst e
      have := cnt_cg c c' d (z + 1) 0 (fun y q1 q2 => h y (by omega) (by omega) (by omega))
      rw [this]
      split <;> split <;> omega
    · have h0 := h z (by omega) (by omega) e
      have := ih (z + 1) (by omega) (by omega) (fun y q1 q2 q3 => h y (by omega) (by omega) q3)
      rw [h0]
      omega
theorem pO_add (c : Int → Int → Bool) : ∀ (d : Nat) (z a b : Int), pO c d z (a + b) = pO c d z a + b := by
  intro d
  induction d with
  | zero => intro z a b; rfl
  | succ d ih =>
    intro z a b
    unfold pO
    rw [cnt_add, cnt_add (c z) d (z + 1) a, show a + b + cnt (c z) d (z + 1) 0 = (a + cnt (c z) d (z + 1) 0) + b by omega]
    exact ih (z + 1) _ b
theorem pO_last (c : Int → Int → Bool) : ∀ (d : Nat) (z a : Int), pO c (d + 1) z a = pO c d z a + cnt (fun y => c y (z + d)) d z 0 := by
  intro d
  induction d with
  | zero => intro z a; simp [pO, cnt]
  | succ d ih =>
    intro z a
    rw [show pO c (d + 1 + 1) z a = pO c (d + 1) (z + 1) (cnt (c z) (d + 1) (z + 1) a) from rfl, ih (z + 1), cnt_last (c z) d (z + 1) a, pO_add, show pO c (d + 1) z a = pO c d (z + 1) (cnt (c z) d (z + 1) a) from rfl]
    rw [show cnt (fun y => c y (z + ((d + 1 : Nat) : Int))) (d + 1) z 0 = cnt (fun y => c y (z + ((d + 1 : Nat) : Int))) d (z + 1) (if c z (z + ((d + 1 : Nat) : Int)) = true then 0 + 1 else 0) from rfl, cnt_add _ d (z + 1) (if c z (z + ((d + 1 : Nat) : Int)) = true then 0 + 1 else 0), show z + 1 + (d : Int) = z + ((d + 1 : Nat) : Int) by omega]
    split <;> omega
theorem pMF_last (c : Int → Int → Bool) (o : Int) : ∀ (d : Nat) (j a : Int), pMF c o (d + 1) j a = pMF c o d j a + cnt (c (j + d)) (j + d - o).toNat o 0 := by
  intro d
  induction d with
  | zero =>
    intro j a
    simp only [pMF]
    rw [cnt_add, show j + ((0 : Nat) : Int) = j by omega]
  | succ d ih =>
    intro j a
    rw [show pMF c o (d + 1 + 1) j a = pMF c o (d + 1) (j + 1) (cnt (c j) (j - o).toNat o a) from rfl, ih, show pMF c o (d + 1) j a = pMF c o d (j + 1) (cnt (c j) (j - o).toNat o a) from rfl, show j + 1 + (d : Int) = j + ((d + 1 : Nat) : Int) by omega]
theorem pO_pMF (c c' : Int → Int → Bool) (o : Int) : ∀ (n : Nat), (∀ z w : Int, 0 ≤ z → z < w → w < n → c z w = c' (o + w) (o + z)) → pO c n 0 0 = pMF c' o n o 0 := by
  intro n
  induction n with
  | zero => intro _; rfl
  | succ n ih =>
    intro h
    rw [pO_last, pMF_last, ih (fun z w h1 h2 h3 => h z w h1 h2 (by omega)), show (o + (n : Int) - o).toNat = n by omega]
    have := cnt_sh (c' (o + n)) (fun y => c y (0 + n)) o n 0 0 (fun y h1 h2 => by rw [Int.zero_add]; exact (h y n h1 (by omega) (by omega)).symm)
    rw [Int.add_zero] at this
    rw [this]
theorem fnd_cg (f f' : Int → Int) (x : Int) : ∀ (d : Nat) (z : Int), (∀ y : Int, z ≤ y → y < z + d → f y = f' y) → fnd f x d z = fnd f' x d z := by
  intro d
  induction d with
  | zero => intro z _; rfl
  | succ d ih =>
    intro z h
    unfold fnd
    rw [h z (by omega) (by omega), ih (z + 1) (fun y h1 h2 => h y (by omega) (by omega))]
theorem fnd_is (f : Int → Int) (x : Int) : ∀ (d : Nat) (z : Int), fnd f x d z ≠ -1 → 0 ≤ z → f (fnd f x d z) = x := by
  intro d
  induction d with
  | zero => intro z h; exact absurd rfl h
  | succ d ih =>
    intro z h h0
    unfold fnd at h ⊢
    split
    · rename_i e; rw [if_pos e] at h; exact e
    · rename_i e; rw [if_neg e] at h; exact ih (z + 1) h (by omega)
theorem fnd_no (f : Int → Int) (x : Int) : ∀ (d : Nat) (z : Int), 0 ≤ z → fnd f x d z = -1 → ∀ y : Int, z ≤ y → y < z + d → f y ≠ x := by
  intro d
  induction d with
  | zero => intro z _ _ y h1 h2; omega
  | succ d ih =>
    intro z h0 h y h1 h2
    unfold fnd at h
    split at h
    · omega
    · rename_i e
      by_cases q : y = z
      · rw [q]; exact e
      · exact ih (z + 1) (by omega) h y (by omega) (by omega)
theorem mrF_sh (dd dd' mn mn' : Int → Int) (o : Int) : ∀ (d : Nat) (z fw m : Int), (∀ y : Int, z ≤ y → y < z + d → dd (o + y) = dd' y ∧ mn (o + y) = mn' y) → mrF dd mn d (o + z) fw m = mrF dd' mn' d z fw m := by
  intro d
  induction d with
  | zero => intro z fw m _; rfl
  | succ d ih =>
    intro z fw m h
    have h0 := h z (by omega) (by omega)
    unfold mrF
    rw [h0.1, h0.2, Int.add_assoc, ih (z + 1) _ _ (fun y h1 h2 => h y (by omega) (by omega)), ih (z + 1) _ _ (fun y h1 h2 => h y (by omega) (by omega)), ih (z + 1) _ _ (fun y h1 h2 => h y (by omega) (by omega))]
theorem nbF_sh (f f' : Int → Int) (o s s' : Int) : ∀ (d : Nat) (z a : Int), s = o + s' → (∀ y : Int, z ≤ y → y < z + d → f (o + y) = f' y) → nbF f s d (o + z) a = nbF f' s' d z a := by
  intro d
  induction d with
  | zero => intro z a _ _; rfl
  | succ d ih =>
    intro z a hs h
    have h0 := h z (by omega) (by omega)
    unfold nbF
    rw [h0, Int.add_assoc, ih (z + 1) _ hs (fun y h1 h2 => h y (by omega) (by omega))]
    congr 1
    by_cases q : z = s'
    · rw [if_pos q, if_pos (by omega)]
    · rw [if_neg q, if_neg (by omega)]
/-- the least of those that aren't s, or a -/
theorem nbF_is (f : Int → Int) (s : Int) : ∀ (d : Nat) (z a : Int), nbF f s d z a ≤ a ∧ (∀ y : Int, z ≤ y → y < z + d → y ≠ s → nbF f s d z a ≤ f y) ∧ (nbF f s d z a = a ∨ ∃ y : Int, z ≤ y ∧ y < z + d ∧ y ≠ s ∧ nbF f s d z a = f y) := by
  intro d
  induction d with
  | zero => intro z a; exact ⟨Int.le_refl _, fun y h1 h2 => by omega, Or.inl rfl⟩
  | succ d ih =>
    intro z a
    obtain ⟨h1, h2, h3⟩ := ih (z + 1) (if z = s then a else if a ≤ f z then a else f z)
    rw [show nbF f s (d + 1) z a = nbF f s d (z + 1) (if z = s then a else if a ≤ f z then a else f z) from rfl]
    generalize nbF f s d (z + 1) (if z = s then a else if a ≤ f z then a else f z) = r at h1 h2 h3 ⊢
    refine ⟨?_, fun y q1 q2 q3 => ?_, ?_⟩
    · split at h1
      · exact h1
      · split at h1 <;> omega
    · by_cases e : y = z
      · subst e
        rw [if_neg q3] at h1
        split at h1 <;> omega
      · exact h2 y (by omega) (by omega) q3
    · rcases h3 with h3 | ⟨y, q1, q2, q3, q4⟩
      · split at h3
        · exact Or.inl h3
        · rename_i e
          split at h3
          · exact Or.inl h3
          · exact Or.inr ⟨z, by omega, by omega, e, h3⟩
      · exact Or.inr ⟨y, by omega, by omega, q3, q4⟩
theorem amF_cg (f f' : Int → Int) : ∀ (d : Nat) (z fo mo : Int), (∀ y : Int, z ≤ y → y < z + d → f y = f' y) → amF f d z fo mo = amF f' d z fo mo := by
  intro d
  induction d with
  | zero => intro z fo mo _; rfl
  | succ d ih =>
    intro z fo mo h
    unfold amF
    rw [h z (by omega) (by omega), ih (z + 1) _ _ (fun y h1 h2 => h y (by omega) (by omega)), ih (z + 1) _ _ (fun y h1 h2 => h y (by omega) (by omega))]
/-- counted by what is meant -/
theorem cnt_mn (mn : Int → Int) (P : Int → Bool) : ∀ n : Nat, (∀ z : Int, 0 ≤ z → z < n → 0 ≤ mn z ∧ mn z < 30) → (∀ y z : Int, 0 ≤ y → y < n → 0 ≤ z → z < n → mn y = mn z → y = z) →
    cnt P n 0 0 = cnt (fun x => decide (fnd mn x n 0 ≠ -1) && P (fnd mn x n 0)) 30 0 0 := by
  intro n
  induction n with
  | zero =>
    intro _ _
    rfl
  | succ n ih =>
    intro hr hd
    have fl : ∀ x : Int, fnd mn x (n + 1) 0 = if fnd mn x n 0 ≠ -1 then fnd mn x n 0 else if mn n = x then (n : Int) else -1 := by
      intro x
      have gen : ∀ (d : Nat) (z : Int), 0 ≤ z → fnd mn x (d + 1) z = if fnd mn x d z ≠ -1 then fnd mn x d z else if mn (z + d) = x then z + d else -1 := by
        intro d
        induction d with
        | zero => intro z _; simp [fnd]
        | succ d ihd =>
          intro z hz
          rw [show fnd mn x (d + 1 + 1) z = if mn z = x then z else fnd mn x (d + 1) (z + 1) from rfl, show fnd mn x (d + 1) z = if mn z = x then z else fnd mn x d (z + 1) from rfl, ihd (z + 1) (by omega), show z + 1 + (d : Int) = z + ((d + 1 : Nat) : Int) by omega]
          by_cases e : mn z = x
          · simp only [if_pos e]
            rw [if_pos (by omega)]
          · simp only [if_neg e]
      have := gen n 0 (Int.le_refl _)
      rwa [Int.zero_add] at this
    have hmn := hr n (by omega) (by omega)
    have hno : fnd mn (mn n) n 0 = -1 := by
      by_cases q : fnd mn (mn n) n 0 = -1
      · exact q
      · have h1 := fnd_is mn (mn n) n 0 q (Int.le_refl _)
        have h2 := fnd_rg mn (mn n) n 0
        have := hd (fnd mn (mn n) n 0) n (by omega) (by omega) (by omega) (by omega) h1
        omega
    rw [cnt_last, ih (fun z h1 h2 => hr z h1 (by omega)) (fun y z h1 h2 h3 h4 => hd y z h1 (by omega) h3 (by omega)), Int.zero_add]
    have key := cnt_one (fun x => decide (fnd mn x n 0 ≠ -1) && P (fnd mn x n 0)) (fun x => decide (fnd mn x (n + 1) 0 ≠ -1) && P (fnd mn x (n + 1) 0)) (mn n) 30 0 hmn.1 (by omega) (fun y _ _ hy => by
      show (decide (fnd mn y n 0 ≠ -1) && P (fnd mn y n 0)) = (decide (fnd mn y (n + 1) 0 ≠ -1) && P (fnd mn y (n + 1) 0))
      rw [fl y]
      by_cases q : fnd mn y n 0 ≠ -1
      · rw [if_pos q]
      · rw [if_neg q, if_neg (fun z => hy z.symm)]
        have : fnd mn y n 0 = -1 := Classical.not_not.mp q
        rw [this])
    have e1 : fnd mn (mn n) (n + 1) 0 = n := by rw [fl, if_neg (fun z => z hno), if_pos rfl]
    simp only [hno, e1] at key
    have e2 : decide ((n : Int) ≠ -1) = true := decide_eq_true (by omega)
    rw [e2] at key
    simp only [Bool.true_and, ne_eq, not_true_eq_false, decide_false, Bool.false_and, if_neg Bool.false_ne_true, Int.add_zero] at key
    omega
theorem dst_cg {G G' : Int → Int} {x y : Int} (h : G (x / 256) = G (y / 256) ↔ G' (x / 256) = G' (y / 256)) : dst G x y = dst G' x y := by
  unfold dst stp
  simp only [h]
theorem popx_a : ∀ a b : Fin 16, pop4 (xr ((a.1 : Nat) : Int) ((b.1 : Nat) : Int)) = 0 → a.1 = b.1 := by decide +kernel
theorem popx_b : ∀ a : Fin 16, pop4 (xr ((a.1 : Nat) : Int) ((a.1 : Nat) : Int)) = 0 := by decide +kernel
theorem popx_s : ∀ a b : Fin 16, xr ((a.1 : Nat) : Int) ((b.1 : Nat) : Int) = xr ((b.1 : Nat) : Int) ((a.1 : Nat) : Int) := by decide +kernel
theorem popx {a b : Int} (ha : 0 ≤ a ∧ a < 16) (hb : 0 ≤ b ∧ b < 16) : pop4 (xr a b) = 0 ↔ a = b := by
  obtain ⟨a, rfl⟩ := Int.eq_ofNat_of_zero_le ha.1
  obtain ⟨b, rfl⟩ := Int.eq_ofNat_of_zero_le hb.1
  refine ⟨fun h => ?_, fun h => ?_⟩
  · have := popx_a ⟨a, by omega⟩ ⟨b, by omega⟩ h
    exact congrArg Nat.cast this
  · have e : a = b := by omega
    subst e
    exact popx_b ⟨a, by omega⟩
theorem xr_sy {a b : Int} (ha : 0 ≤ a ∧ a < 16) (hb : 0 ≤ b ∧ b < 16) : xr a b = xr b a := by
  obtain ⟨a, rfl⟩ := Int.eq_ofNat_of_zero_le ha.1
  obtain ⟨b, rfl⟩ := Int.eq_ofNat_of_zero_le hb.1
  exact popx_s ⟨a, by omega⟩ ⟨b, by omega⟩
theorem stp_0 {G : Int → Int} {a b : Int} (ha : 0 ≤ a ∧ a < 9) (hb : 0 ≤ b ∧ b < 9) : stp G a b = 0 ↔ G a = G b := by
  unfold stp
  by_cases h : G a = G b
  · rw [if_pos h]
    exact ⟨fun _ => h, fun _ => rfl⟩
  · rw [if_neg h]
    refine ⟨fun q => ?_, fun q => absurd q h⟩
    have : a = b := by
      unfold ab at q
      by_cases c1 : 0 ≤ a / 3 - b / 3
      · rw [if_pos c1] at q
        by_cases c2 : 0 ≤ a % 3 - b % 3
        · rw [if_pos c2] at q; omega
        · rw [if_neg c2] at q; omega
      · rw [if_neg c1] at q
        by_cases c2 : 0 ≤ a % 3 - b % 3
        · rw [if_pos c2] at q; omega
        · rw [if_neg c2] at q; omega
    rw [this]
theorem dst_0 {G : Int → Int} {x y : Int} (hx : 0 ≤ x ∧ x < 2304) (hy : 0 ≤ y ∧ y < 2304) : dst G x y = 0 ↔ alk G x y := by
  have h1 := popx (a := x % 16) (b := y % 16) (by omega) (by omega)
  have h2 := stp_0 (G := G) (a := x / 256) (b := y / 256) (by omega) (by omega)
  have h3 := pop4_rg (r := xr (x % 16) (y % 16))
  have h4 := stp_rg (G := G) (a := x / 256) (b := y / 256) (by omega)
  unfold dst alk
  rw [← h2]
  refine ⟨fun h => ?_, fun h => ?_⟩
  · split at h <;> split at h <;> omega
  · have e := h1.mpr (by omega)
    rw [e, h.2, if_pos (by omega), if_pos (by omega)]
    decide
theorem stp_sy {G : Int → Int} {a b : Int} : stp G a b = stp G b a := by
  unfold stp
  by_cases h : G a = G b
  · rw [if_pos h, if_pos h.symm]
  · rw [if_neg h, if_neg (fun q => h q.symm)]
    unfold ab
    split <;> split <;> split <;> split <;> omega
theorem dst_sy {G : Int → Int} {x y : Int} : dst G x y = dst G y x := by
  unfold dst
  rw [xr_sy (a := x % 16) (b := y % 16) (by omega) (by omega), stp_sy]
  have e1 : (if x / 16 % 4 = y / 16 % 4 then (0 : Int) else 1) = if y / 16 % 4 = x / 16 % 4 then 0 else 1 := by
    by_cases h : x / 16 % 4 = y / 16 % 4
    · rw [if_pos h, if_pos h.symm]
    · rw [if_neg h, if_neg (fun q => h q.symm)]
  have e2 : (if x / 64 % 4 = y / 64 % 4 then (0 : Int) else 2) = if y / 64 % 4 = x / 64 % 4 then 0 else 2 := by
    by_cases h : x / 64 % 4 = y / 64 % 4
    · rw [if_pos h, if_pos h.symm]
    · rw [if_neg h, if_neg (fun q => h q.symm)]
  rw [e1, e2]
theorem wth_mk {s t p m t2 : Int} (h : 0 ≤ s ∧ s < 16 ∧ 0 ≤ t ∧ t < 4 ∧ 0 ≤ p ∧ p < 9 ∧ 0 ≤ m ∧ m < 4) : wth (mkL s t p m) t2 = mkL s t2 p m := by
  unfold wth mkL
  omega
theorem mk_sh {s t p m : Int} (h : 0 ≤ s ∧ s < 16 ∧ 0 ≤ t ∧ t < 4 ∧ 0 ≤ p ∧ p < 9 ∧ 0 ≤ m ∧ m < 4) : mkL s t p m % 16 = s ∧ mkL s t p m / 16 % 4 = t ∧ mkL s t p m / 256 = p ∧ mkL s t p m / 64 % 4 = m := by
  unfold mkL
  omega
/-! the law's own loops, as they run -/
/-- no earlier place is joined with p: 1, or 0 -/
def grI (G : Int → Int) (p : Int) : Nat → Int → Int → Int
  | 0, _, b => b
  | d + 1, q, b => grI G p d (q + 1) (if b = 1 ∧ ¬ G p = G q then 1 else 0)
def grO (G : Int → Int) : Nat → Int → Int → Int
  | 0, _, a => a
  | d + 1, p, a => grO G d (p + 1) (a + (if grI G p p.toNat 0 1 = 1 then 1 else 0))
def gcF (G : Int → Int) : Int := grO G 9 0 0
theorem grI_01 (G : Int → Int) (p : Int) : ∀ (d : Nat) (q b : Int), b = 0 ∨ b = 1 → grI G p d q b = 0 ∨ grI G p d q b = 1 := by
  intro d
  induction d with
  | zero => intro q b h; exact h
  | succ d ih =>
    intro q b _
    unfold grI
    refine ih (q + 1) _ ?_
    split
    · exact Or.inr rfl
    · exact Or.inl rfl
theorem grI_is (G : Int → Int) (p : Int) : ∀ (d : Nat) (q b : Int), b = 0 ∨ b = 1 → (grI G p d q b = 1 ↔ b = 1 ∧ ∀ y : Int, q ≤ y → y < q + d → ¬ G p = G y) := by
  intro d
  induction d with
  | zero =>
    intro q b h
    exact ⟨fun w => ⟨w, fun y h1 h2 => by omega⟩, fun w => w.1⟩
  | succ d ih =>
    intro q b h
    unfold grI
    by_cases c : b = 1 ∧ ¬ G p = G q
    · rw [if_pos c, ih (q + 1) 1 (Or.inr rfl)]
      refine ⟨fun w => ⟨c.1, fun y h1 h2 => ?_⟩, fun w => ⟨rfl, fun y h1 h2 => w.2 y (by omega) (by omega)⟩⟩
      by_cases e : y = q
      · rw [e]; exact c.2
      · exact w.2 y (by omega) (by omega)
    · rw [if_neg c, ih (q + 1) 0 (Or.inl rfl)]
      refine ⟨fun w => absurd w.1 (by decide), fun w => absurd ⟨w.1, w.2 q (Int.le_refl _) (by omega)⟩ c⟩
/-- four fingers -/
def fgS (a b : Int) : Int := (if a / 1 % 2 = b / 1 % 2 then 0 else 1) + (if a / 2 % 2 = b / 2 % 2 then 0 else 1) + (if a / 4 % 2 = b / 4 % 2 then 0 else 1) + (if a / 8 % 2 = b / 8 % 2 then 0 else 1)
theorem fgS_a : ∀ a b : Fin 16, pop4 (xr ((a.1 : Nat) : Int) ((b.1 : Nat) : Int)) = fgS ((a.1 : Nat) : Int) ((b.1 : Nat) : Int) := by decide +kernel
theorem fgS_is {a b : Int} (ha : 0 ≤ a ∧ a < 16) (hb : 0 ≤ b ∧ b < 16) : pop4 (xr a b) = fgS a b := by
  obtain ⟨a, rfl⟩ := Int.eq_ofNat_of_zero_le ha.1
  obtain ⟨b, rfl⟩ := Int.eq_ofNat_of_zero_le hb.1
  exact fgS_a ⟨a, by omega⟩ ⟨b, by omega⟩
def rdS (dd mn : Int → Int) : Nat → Int → Int → Int → Int → Int
  | 0, _, ls, my, its => if my = 1 ∧ ls < 4 then its else -1
  | d + 1, z, ls, my, its => if dd z < ls then rdS dd mn d (z + 1) (dd z) 1 (mn z) else if dd z = ls then rdS dd mn d (z + 1) ls (my + 1) (mn z) else rdS dd mn d (z + 1) ls my its
theorem rdS_is (dd mn : Int → Int) : ∀ (d : Nat) (z ls my its fw m : Int), 1 ≤ my ∨ 4 ≤ ls → (ls < 4 → fw = ls ∧ 1 ≤ my ∧ m = if my = 1 then its else -1) → (4 ≤ ls → fw = 4 ∧ m = -1) → rdS dd mn d z ls my its = mrF dd mn d z fw m := by
  intro d
  induction d with
  | zero =>
    intro z ls my its fw m _ h2 h3
    show (if my = 1 ∧ ls < 4 then its else -1) = m
    by_cases c : ls < 4
    · rw [(h2 c).2.2]
      by_cases e : my = 1
      · rw [if_pos ⟨e, c⟩, if_pos e]
      · rw [if_neg (fun w => e w.1), if_neg e]
    · rw [if_neg (fun w => c w.2), (h3 (by omega)).2]
  | succ d ih =>
    intro z ls my its fw m h1 h2 h3
    unfold rdS mrF
    by_cases c : dd z < ls
    · rw [if_pos c]
      by_cases c2 : dd z < 4
      · have : dd z < fw := by
          by_cases q : ls < 4
          · have := h2 q; omega
          · have := h3 (by omega); omega
        rw [if_pos this]
        exact ih (z + 1) _ _ _ _ _ (Or.inl (by omega)) (fun _ => ⟨rfl, by omega, (if_pos rfl).symm⟩) (fun w => by omega)
      · have f4 := h3 (by omega)
        rw [if_neg (by omega)]
        by_cases q : dd z = fw
        · rw [if_pos q]
          exact ih (z + 1) _ _ _ _ _ (Or.inl (by omega)) (fun w => by omega) (fun _ => ⟨f4.1, rfl⟩)
        · rw [if_neg q]
          exact ih (z + 1) _ _ _ _ _ (Or.inl (by omega)) (fun w => by omega) (fun _ => ⟨f4.1, f4.2⟩)
    · rw [if_neg c]
      by_cases e : dd z = ls
      · rw [if_pos e]
        by_cases q : ls < 4
        · have := h2 q
          rw [if_neg (by omega), if_pos (by omega)]
          exact ih (z + 1) _ _ _ _ _ (Or.inl (by omega)) (fun _ => ⟨this.1, by omega, by rw [if_neg (by omega)]⟩) (fun w => by omega)
        · have f4 := h3 (by omega)
          rw [if_neg (by omega)]
          by_cases q2 : dd z = fw
          · rw [if_pos q2]
            exact ih (z + 1) _ _ _ _ _ (Or.inr (by omega)) (fun w => by omega) (fun _ => ⟨f4.1, rfl⟩)
          · rw [if_neg q2]
            exact ih (z + 1) _ _ _ _ _ (Or.inr (by omega)) (fun w => by omega) (fun _ => ⟨f4.1, f4.2⟩)
      · rw [if_neg e]
        have : ¬ dd z < fw ∧ ¬ dd z = fw := by
          by_cases q : ls < 4
          · have := h2 q; omega
          · have := h3 (by omega); omega
        rw [if_neg this.1, if_neg this.2]
        exact ih (z + 1) _ _ _ _ _ h1 h2 h3
