/-! a sign less -/
theorem rmF_r {b : Nat} (hb : b < 5) : ∀ (d : Nat) (z : Int) (τ : Sg) (r : Nat) (j : Int), (rmF b d z τ).2 r j = if (r = 1 + b ∨ r = 6 + b) ∧ z - 1 ≤ j ∧ j < z - 1 + d then τ.2 r (j + 1) else τ.2 r j := by
  intro d
  induction d with
  | zero => intro z τ r j; rw [if_neg (by omega)]; rfl
  | succ d ih =>
    intro z τ r j
    have st : ∀ (r : Nat) (j : Int), (rmS b z τ).2 r j = if (r = 1 + b ∨ r = 6 + b) ∧ j = z - 1 then τ.2 r z else τ.2 r j := by
      intro r j
      show (sG (sG τ (1 + b) (z - 1) (τ.2 (1 + b) z)) (6 + b) (z - 1) ((sG τ (1 + b) (z - 1) (τ.2 (1 + b) z)).2 (6 + b) z)).2 r j = _
      have e0 : (sG τ (1 + b) (z - 1) (τ.2 (1 + b) z)).2 (6 + b) z = τ.2 (6 + b) z := by rw [sG_2, if_neg (by omega)]
      rw [e0]
      by_cases h1 : r = 1 + b
      · subst h1
        rw [sG_2, if_neg (by omega), sG_2, if_pos rfl]
        by_cases h2 : j = z - 1
        · rw [if_pos h2, if_pos ⟨Or.inl rfl, h2⟩]
        · rw [if_neg h2, if_neg (fun q => h2 q.2)]
      · by_cases h3 : r = 6 + b
        · subst h3
          rw [sG_2, if_pos rfl]
          by_cases h2 : j = z - 1
          · rw [if_pos h2, if_pos ⟨Or.inr rfl, h2⟩]
          · rw [if_neg h2, if_neg (fun q => h2 q.2), sG_2, if_neg h1]
        · rw [sG_2, if_neg h3, sG_2, if_neg h1, if_neg (fun q => q.1.elim h1 h3)]
    rw [show rmF b (d + 1) z τ = rmF b d (z + 1) (rmS b z τ) from rfl, ih, st, st]
    by_cases hr : r = 1 + b ∨ r = 6 + b
    · by_cases h1 : j = z - 1
      · rw [if_neg (by omega), if_pos ⟨hr, h1⟩, if_pos ⟨hr, by omega, by omega⟩, h1, show z - 1 + 1 = z by omega]
      · by_cases h2 : z ≤ j ∧ j < z + d
        · rw [if_pos ⟨hr, by omega, by omega⟩, if_neg (by omega), if_pos ⟨hr, by omega, by omega⟩]
        · rw [if_neg (by omega), if_neg (by omega), if_neg (by omega)]
    · rw [if_neg (fun q => hr q.1), if_neg (fun q => hr q.1), if_neg (fun q => hr q.1)]
theorem clF_r (a : Nat) : ∀ (d : Nat) (k : Int) (τ : Sg) (r : Nat) (j : Int), (clF a d k τ).2 r j = if r = a ∧ k ≤ j ∧ j < k + d then τ.2 r (j + 1) else τ.2 r j := by
  intro d
  induction d with
  | zero => intro k τ r j; rw [if_neg (by omega)]; rfl
  | succ d ih =>
    intro k τ r j
    rw [show clF a (d + 1) k τ = clF a d (k + 1) (sG τ a k (τ.2 a (k + 1))) from rfl, ih, sG_2, sG_2]
    by_cases hr : r = a
    · subst hr
      rw [if_pos rfl, if_pos rfl]
      by_cases h1 : j = k
      · rw [if_neg (by omega), if_pos h1, if_pos ⟨rfl, by omega, by omega⟩, h1]
      · by_cases h2 : k + 1 ≤ j ∧ j < k + 1 + d
        · rw [if_pos ⟨rfl, h2.1, h2.2⟩, if_neg (by omega), if_pos ⟨rfl, by omega, by omega⟩]
        · rw [if_neg (by omega), if_neg (by omega), if_neg (by omega)]
    · rw [if_neg (fun q => hr q.1), if_neg hr, if_neg (fun q => hr q.1)]
theorem fg_r (τ : Sg) (l s : Int) (r : Nat) (h : 12 ≤ r ∧ r ≤ 16) (hn : 0 ≤ s ∧ s < τ.2 11 l) (j : Int) : (fgN τ l s).2 r j = if 16 * l + s ≤ j ∧ j < 16 * l + τ.2 11 l - 1 then τ.2 r (j + 1) else τ.2 r j := by
  show (sG (clA τ l s) 11 l _).2 r j = _
  rw [sG_2, if_neg (by omega)]
  unfold clA
  have hd : (((16 * l + (τ.2 11 l - 1) - (16 * l + s)).toNat : Nat) : Int) = τ.2 11 l - 1 - s := by omega
  rcases (show r = 12 ∨ r = 13 ∨ r = 14 ∨ r = 15 ∨ r = 16 by omega) with q | q | q | q | q
  · subst q
    rw [clF_r 16, if_neg (by omega), clF_r 15, if_neg (by omega), clF_r 14, if_neg (by omega), clF_r 13, if_neg (by omega), clF_r 12, hd]
    by_cases w : 16 * l + s ≤ j ∧ j < 16 * l + τ.2 11 l - 1
    · rw [if_pos w, if_pos (by omega)]
    · rw [if_neg w, if_neg (by omega)]
  · subst q
    rw [clF_r 16, if_neg (by omega), clF_r 15, if_neg (by omega), clF_r 14, if_neg (by omega), clF_r 13, hd]
    by_cases w : 16 * l + s ≤ j ∧ j < 16 * l + τ.2 11 l - 1
    · rw [if_pos w, if_pos (by omega), clF_r 12, if_neg (by omega)]
    · rw [if_neg w, if_neg (by omega), clF_r 12, if_neg (by omega)]
  · subst q
    rw [clF_r 16, if_neg (by omega), clF_r 15, if_neg (by omega), clF_r 14, hd]
    by_cases w : 16 * l + s ≤ j ∧ j < 16 * l + τ.2 11 l - 1
    · rw [if_pos w, if_pos (by omega), clF_r 13, if_neg (by omega), clF_r 12, if_neg (by omega)]
    · rw [if_neg w, if_neg (by omega), clF_r 13, if_neg (by omega), clF_r 12, if_neg (by omega)]
  · subst q
    rw [clF_r 16, if_neg (by omega), clF_r 15, hd]
    by_cases w : 16 * l + s ≤ j ∧ j < 16 * l + τ.2 11 l - 1
    · rw [if_pos w, if_pos (by omega), clF_r 14, if_neg (by omega), clF_r 13, if_neg (by omega), clF_r 12, if_neg (by omega)]
    · rw [if_neg w, if_neg (by omega), clF_r 14, if_neg (by omega), clF_r 13, if_neg (by omega), clF_r 12, if_neg (by omega)]
  · subst q
    rw [clF_r 16, hd]
    by_cases w : 16 * l + s ≤ j ∧ j < 16 * l + τ.2 11 l - 1
    · rw [if_pos w, if_pos (by omega), clF_r 15, if_neg (by omega), clF_r 14, if_neg (by omega), clF_r 13, if_neg (by omega), clF_r 12, if_neg (by omega)]
    · rw [if_neg w, if_neg (by omega), clF_r 15, if_neg (by omega), clF_r 14, if_neg (by omega), clF_r 13, if_neg (by omega), clF_r 12, if_neg (by omega)]
theorem cl_11 (τ : Sg) (l s i : Int) : (clA τ l s).2 11 i = τ.2 11 i := by
  unfold clA
  rw [clF_r 16, if_neg (by omega), clF_r 15, if_neg (by omega), clF_r 14, if_neg (by omega), clF_r 13, if_neg (by omega), clF_r 12, if_neg (by omega)]
theorem fg_11 (τ : Sg) (l s i : Int) : (fgN τ l s).2 11 i = if i = l then τ.2 11 l - 1 else τ.2 11 i := by
  show (sG (clA τ l s) 11 l _).2 11 i = _
  rw [sG_2, if_pos rfl, cl_11, cl_11]
theorem fg_17 (τ : Sg) (l s : Int) : (fgN τ l s).2 17 = τ.2 17 := by
  funext i
  show (sG (clA τ l s) 11 l _).2 17 i = _
  rw [sG_2, if_neg (by decide)]
  unfold clA
  rw [clF_r 16, if_neg (by omega), clF_r 15, if_neg (by omega), clF_r 14, if_neg (by omega), clF_r 13, if_neg (by omega), clF_r 12, if_neg (by omega)]
theorem fg_1 (τ : Sg) (l s : Int) : (fgN τ l s).1 = τ.1 := by
  show (clA τ l s).1 = τ.1
  unfold clA
  rw [clF_1, clF_1, clF_1, clF_1, clF_1]
theorem fg_lk (τ : Sg) (l s : Int) (hn : 0 ≤ s ∧ s < τ.2 11 l) (j : Int) : lkM (fgN τ l s) j = if 16 * l + s ≤ j ∧ j < 16 * l + τ.2 11 l - 1 then lkM τ (j + 1) else lkM τ j := by
  unfold lkM
  rw [fg_r τ l s 12 (by decide) hn, fg_r τ l s 13 (by decide) hn, fg_r τ l s 14 (by decide) hn, fg_r τ l s 15 (by decide) hn]
  split <;> rfl
theorem rm_1 {σ : Sg} {b : Nat} {s : Int} (v : Nat) : (rmB σ b s).1 v = if v = 2 + b then σ.1 (2 + b) - 1 else σ.1 v := by
  show (if v = 2 + b then σ.1 (2 + b) - 1 else (rmF b _ _ σ).1 v) = _
  rw [rmF_1]
theorem rm_r {σ : Sg} {b : Nat} (hb : b < 5) {s : Int} (hs : 0 ≤ s ∧ s < σ.1 (2 + b)) (r : Nat) (j : Int) : (rmB σ b s).2 r j = if (r = 1 + b ∨ r = 6 + b) ∧ s ≤ j ∧ j < σ.1 (2 + b) - 1 then σ.2 r (j + 1) else σ.2 r j := by
  show (rmF b (cN σ b - s.toNat - 1) (s + 1) σ).2 r j = _
  have hd : ((cN σ b - s.toNat - 1 : Nat) : Int) = σ.1 (2 + b) - s - 1 := by
    have : cN σ b = (σ.1 (2 + b)).toNat := rfl
    omega
  rw [rmF_r hb, hd]
  by_cases w : (r = 1 + b ∨ r = 6 + b) ∧ s ≤ j ∧ j < σ.1 (2 + b) - 1
  · rw [if_pos w, if_pos (by omega)]
  · rw [if_neg w, if_neg (by omega)]
theorem RC_fg {σ τ : Sg} (hR : RC σ τ) {b : Nat} (hb : b < 4) {s : Int} (hs : 0 ≤ s ∧ s < τ.2 11 (b : Int)) : RC (rmB σ b s) (fgN τ (b : Int) s) := by
  obtain ⟨r1, r2, r3, r4, r5⟩ := id hR
  have nb := r2.2.2.1 (b : Int) (by omega) (by omega)
  have e1 := (r5 b hb).1
  have hs' : 0 ≤ s ∧ s < σ.1 (2 + b) := by omega
  have rr := rm_r (σ := σ) (b := b) (by omega) hs'
  refine ⟨?_, ?_, GrR_cg r3 ?_ ?_ (fg_17 τ _ s), ?_, fun l hl => ?_⟩
  · obtain ⟨i1, i2, i3, i4, i5, i6⟩ := r1
    refine ⟨?_, ?_, fun j j0 j1 => ?_, fun q hq => ?_, fun q hq j j0 j1 => ?_, fun q hq j j0 j1 => ?_⟩
    · rw [rm_1, if_neg (by omega)]; exact i1
    · rw [rm_1, if_neg (by omega)]; exact i2
    · rw [rr, if_neg (by omega)]; exact i3 j j0 j1
    · rw [rm_1]
      have := i4 q hq
      split <;> omega
    · rw [rr]
      split
      · exact i5 q hq (j + 1) (by omega) (by omega)
      · exact i5 q hq j j0 j1
    · rw [rr]
      split
      · exact i6 q hq (j + 1) (by omega) (by omega)
      · exact i6 q hq j j0 j1
  · obtain ⟨m1, m2, m3, m4, m5, m6, m7, m8, m9⟩ := r2
    refine ⟨by rw [fg_1]; exact m1, by rw [fg_1]; exact m2, fun i i0 i1 => ?_, fun k k0 k1 => ?_, fun k k0 k1 => ?_, fun k k0 k1 => ?_, fun k k0 k1 => ?_, fun k k0 k1 => ?_, by rw [fg_17]; exact m9⟩
    · rw [fg_11]
      have := m3 i i0 i1
      split <;> omega
    · rw [fg_r τ _ s 12 (by decide) hs]
      split
      · exact m4 (k + 1) (by omega) (by omega)
      · exact m4 k k0 k1
    · rw [fg_r τ _ s 13 (by decide) hs]
      split
      · exact m5 (k + 1) (by omega) (by omega)
      · exact m5 k k0 k1
    · rw [fg_r τ _ s 14 (by decide) hs]
      split
      · exact m6 (k + 1) (by omega) (by omega)
      · exact m6 k k0 k1
    · rw [fg_r τ _ s 15 (by decide) hs]
      split
      · exact m7 (k + 1) (by omega) (by omega)
      · exact m7 k k0 k1
    · rw [fg_r τ _ s 16 (by decide) hs]
      split
      · exact m8 (k + 1) (by omega) (by omega)
      · exact m8 k k0 k1
  · funext j
    rw [rr, if_neg (by omega)]
  · rw [rm_1, if_neg (by omega)]
  · rw [rm_1, if_neg (by omega), fg_1]
    exact r4
  · have nl := r2.2.2.1 (l : Int) (by omega) (by omega)
    by_cases q : l = b
    · subst q
      obtain ⟨b1, b2, b3⟩ := r5 l hl
      refine ⟨by rw [rm_1, if_pos rfl, fg_11, if_pos rfl]; omega, fun z z0 z1 => ?_, fun y z y0 y1 z0 z1 h => ?_⟩
      · rw [fg_11, if_pos rfl] at z1
        rw [rr, rr, fg_lk τ _ s hs, fg_r τ _ s 16 (by decide) hs]
        by_cases w : s ≤ z
        · rw [if_pos ⟨Or.inl rfl, w, by omega⟩, if_pos (by omega), if_pos ⟨Or.inr rfl, w, by omega⟩, if_pos (by omega), Int.add_assoc]
          exact b2 (z + 1) (by omega) (by omega)
        · rw [if_neg (by omega), if_neg (by omega), if_neg (by omega), if_neg (by omega)]
          exact b2 z z0 (by omega)
      · rw [fg_11, if_pos rfl] at y1 z1
        rw [fg_r τ _ s 16 (by decide) hs, fg_r τ _ s 16 (by decide) hs] at h
        by_cases w : s ≤ y
        · rw [if_pos (by omega), Int.add_assoc] at h
          by_cases w2 : s ≤ z
          · rw [if_pos (by omega), Int.add_assoc] at h
            have := b3 (y + 1) (z + 1) (by omega) (by omega) (by omega) (by omega) h
            omega
          · rw [if_neg (by omega)] at h
            have := b3 (y + 1) z (by omega) (by omega) (by omega) (by omega) h
            omega
        · rw [if_neg (by omega)] at h
          by_cases w2 : s ≤ z
          · rw [if_pos (by omega), Int.add_assoc] at h
            have := b3 y (z + 1) (by omega) (by omega) (by omega) (by omega) h
            omega
          · rw [if_neg (by omega)] at h
            exact b3 y z (by omega) (by omega) (by omega) (by omega) h
    · refine BkR_keep (r5 l hl) nl ?_ ?_ (fun j _ _ => ?_) (fun j _ _ => ?_) (fun y y0 y1 => ?_) (fun y y0 y1 => ?_)
      · rw [rm_1, if_neg (by omega)]
      · rw [fg_11, if_neg (by omega)]
      · rw [rr, if_neg (by omega)]
      · rw [rr, if_neg (by omega)]
      · rw [fg_lk τ _ s hs, if_neg (by omega)]
      · rw [fg_r τ _ s 16 (by decide) hs, if_neg (by omega)]
