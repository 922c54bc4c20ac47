section BR3
variable {σ τ : Sg} {b : Nat} {l : Int}
/-- the nearest pair: what it is, whichever way it is found -/
theorem nrI_is (f : Int → Int) : ∀ (d : Nat) (w a : Int), (∀ y : Int, w ≤ y → y < w + d → 0 ≤ f y) → (a = -1 ∨ 0 ≤ a) → (nrI f d w a = -1 → a = -1 ∧ d = 0) ∧ (nrI f d w a ≠ -1 → (a = -1 ∨ nrI f d w a ≤ a) ∧ (∀ y : Int, w ≤ y → y < w + d → nrI f d w a ≤ f y) ∧ (nrI f d w a = a ∨ ∃ y : Int, w ≤ y ∧ y < w + d ∧ nrI f d w a = f y)) := by
  intro d
  induction d with
  | zero => intro w a _ _; exact ⟨fun h => ⟨h, rfl⟩, fun _ => ⟨Or.inr (Int.le_refl _), fun y h1 h2 => by omega, Or.inl rfl⟩⟩
  | succ d ih =>
    intro w a hf ha
    have h0 := hf w (by omega) (by omega)
    have hb : (if a = -1 ∨ f w < a then f w else a) = -1 ∨ 0 ≤ (if a = -1 ∨ f w < a then f w else a) := by split <;> omega
    obtain ⟨h1, h2⟩ := ih (w + 1) (if a = -1 ∨ f w < a then f w else a) (fun y q1 q2 => hf y (by omega) (by omega)) hb
    rw [show nrI f (d + 1) w a = nrI f d (w + 1) (if a = -1 ∨ f w < a then f w else a) from rfl]
    generalize nrI f d (w + 1) (if a = -1 ∨ f w < a then f w else a) = r at h1 h2 ⊢
    refine ⟨fun q => ?_, fun q => ?_⟩
    · have := (h1 q).1
      split at this <;> omega
    · obtain ⟨g1, g2, g3⟩ := h2 q
      have k : r ≤ f w ∧ (a = -1 ∨ r ≤ a) := by
        split at g1 <;> omega
      refine ⟨k.2, fun y q1 q2 => ?_, ?_⟩
      · by_cases e : y = w
        · rw [e]; exact k.1
        · exact g2 y (by omega) (by omega)
      · rcases g3 with g3 | ⟨y, q1, q2, q3⟩
        · split at g3
          · exact Or.inr ⟨w, by omega, by omega, g3⟩
          · exact Or.inl g3
        · exact Or.inr ⟨y, by omega, by omega, q3⟩
theorem nrO_is (f : Int → Int → Int) (o : Int) : ∀ (d : Nat) (j a : Int), (∀ x y : Int, o ≤ x → x < j + d → o ≤ y → y < x → 0 ≤ f x y) → o ≤ j → (a = -1 ∨ 0 ≤ a) → (nrO f o d j a = -1 → a = -1 ∧ (d = 0 ∨ j + d ≤ o + 1)) ∧ (nrO f o d j a ≠ -1 → (a = -1 ∨ nrO f o d j a ≤ a) ∧ (∀ x y : Int, j ≤ x → x < j + d → o ≤ y → y < x → nrO f o d j a ≤ f x y) ∧ (nrO f o d j a = a ∨ ∃ x y : Int, j ≤ x ∧ x < j + d ∧ o ≤ y ∧ y < x ∧ nrO f o d j a = f x y)) := by
  intro d
  induction d with
  | zero => intro j a _ _ _; exact ⟨fun h => ⟨h, Or.inl rfl⟩, fun _ => ⟨Or.inr (Int.le_refl _), fun x y h1 h2 => by omega, Or.inl rfl⟩⟩
  | succ d ih =>
    intro j a hf hj ha
    obtain ⟨i1, i2⟩ := nrI_is (f j) (j - o).toNat o a (fun y q1 q2 => hf j y hj (by omega) q1 (by omega)) ha
    have hb : nrI (f j) (j - o).toNat o a = -1 ∨ 0 ≤ nrI (f j) (j - o).toNat o a := by
      by_cases q : nrI (f j) (j - o).toNat o a = -1
      · exact Or.inl q
      · right
        obtain ⟨g1, g2, g3⟩ := i2 q
        rcases g3 with g3 | ⟨y, q1, q2, q3⟩
        · omega
        · have := hf j y hj (by omega) q1 (by omega)
          omega
    obtain ⟨h1, h2⟩ := ih (j + 1) (nrI (f j) (j - o).toNat o a) (fun x y q1 q2 q3 q4 => hf x y q1 (by omega) q3 q4) (by omega) hb
    rw [show nrO f o (d + 1) j a = nrO f o d (j + 1) (nrI (f j) (j - o).toNat o a) from rfl]
    generalize nrO f o d (j + 1) (nrI (f j) (j - o).toNat o a) = r at h1 h2 ⊢
    generalize nrI (f j) (j - o).toNat o a = m at i1 i2 h1 h2 hb
    refine ⟨fun q => ?_, fun q => ?_⟩
    · obtain ⟨g1, g2⟩ := h1 q
      obtain ⟨g3, g4⟩ := i1 g1
      exact ⟨g3, by omega⟩
    · obtain ⟨g1, g2, g3⟩ := h2 q
      refine ⟨?_, fun x y q1 q2 q3 q4 => ?_, ?_⟩
      · by_cases e : m = -1
        · exact Or.inl (i1 e).1
        · have := (i2 e).1
          clear i1 i2 g3 h1 h2
          omega
      · by_cases e : x = j
        · by_cases e2 : m = -1
          · have := (i1 e2).2
            omega
          · have := (i2 e2).2.1 y q3 (by omega)
            rw [e]
            clear i1 i2 g3 h1 h2
            omega
        · exact g2 x y (by omega) (by omega) q3 q4
      · rcases g3 with g3 | ⟨x, y, q1, q2, q3, q4, q5⟩
        · by_cases e : m = -1
          · omega
          · rcases (i2 e).2.2 with g4 | ⟨y, q1, q2, q3⟩
            · exact Or.inl (g3.trans g4)
            · exact Or.inr ⟨j, y, by omega, by omega, q1, by omega, g3.trans q3⟩
        · exact Or.inr ⟨x, y, by omega, by omega, q3, q4, q5⟩
theorem faB_eq (hM : IM τ) (hl : 0 ≤ l ∧ l < 4) (hG : GrR σ τ) (hB : BkR σ b τ l) : faB σ b = nsM τ l := by
  have hn := hM.2.2.1 l hl.1 hl.2
  have hN := nM_eq hM hl
  have e1 := hB.1
  have hc := nn_eq hB
  have rg : ∀ x y : Int, 0 ≤ x → x < τ.2 11 l → 0 ≤ y → y < τ.2 11 l → dst (σ.2 0) (σ.2 (1 + b) x) (σ.2 (1 + b) y) = dst (τ.2 17) (lkM τ (16 * l + x)) (lkM τ (16 * l + y)) ∧ 0 ≤ dst (τ.2 17) (lkM τ (16 * l + x)) (lkM τ (16 * l + y)) ∧ dst (τ.2 17) (lkM τ (16 * l + x)) (lkM τ (16 * l + y)) ≤ 11 := by
    intro x y h1 h2 h3 h4
    have k1 := lkM_rg hM (k := 16 * l + x) (by omega)
    have k2 := lkM_rg hM (k := 16 * l + y) (by omega)
    rw [(lk_eq hB (z := x) h1 (by omega)).1, (lk_eq hB (z := y) h3 (by omega)).1, dst_eq hG k1 k2]
    exact ⟨rfl, dst_rg ⟨k1.1, k1.2, k2.1, k2.2⟩⟩
  obtain ⟨o1, o2⟩ := nrO_is (fun j k => dst (τ.2 17) (lkM τ j) (lkM τ k)) (16 * l + 0) (nM τ l) (16 * l + 0) (-1) (fun x y q1 q2 q3 q4 => by
    have := (rg (x - 16 * l) (y - 16 * l) (by omega) (by omega) (by omega) (by omega)).2.1
    rw [show 16 * l + (x - 16 * l) = x by omega, show 16 * l + (y - 16 * l) = y by omega] at this
    exact this) (Int.le_refl _) (Or.inl rfl)
  have hne : neM τ l = nrO (fun j k => dst (τ.2 17) (lkM τ j) (lkM τ k)) (16 * l + 0) (nM τ l) (16 * l + 0) (-1) := rfl
  rw [← hne] at o1 o2
  unfold faB
  by_cases h2 : σ.1 (2 + b) < 2
  · rw [if_pos h2]
    unfold nsM
    by_cases q : neM τ l = -1
    · rw [if_pos (by omega)]
    · exfalso
      rcases (o2 q).2.2 with g | ⟨x, y, q1, q2, q3, q4, -⟩
      · exact q g
      · omega
  · rw [if_neg h2, hc]
    have q : neM τ l ≠ -1 := fun q => by have := (o1 q).2; omega
    obtain ⟨-, g2, g3⟩ := o2 q
    have g3 : ∃ x y : Int, 16 * l + 0 ≤ x ∧ x < 16 * l + 0 + (nM τ l : Int) ∧ 16 * l + 0 ≤ y ∧ y < x ∧ neM τ l = dst (τ.2 17) (lkM τ x) (lkM τ y) := by
      rcases g3 with g3 | g3
      · exact absurd g3 q
      · exact g3
    obtain ⟨x0, y0, a1, a2, a3, a4, a5⟩ := g3
    have n0 := (rg (x0 - 16 * l) (y0 - 16 * l) (by omega) (by omega) (by omega) (by omega)).2
    rw [show 16 * l + (x0 - 16 * l) = x0 by omega, show 16 * l + (y0 - 16 * l) = y0 by omega] at n0
    have nb : ∀ z : Int, nbB σ b z (lkB σ b z) = nbF (fun w => dst (σ.2 0) (lkB σ b z) (lkB σ b w)) z (nM τ l) 0 100 := fun z => by
      show nbF _ _ (cN σ b) 0 100 = _
      rw [hc]
    obtain ⟨b1, b2, b3⟩ := nbF_is (fun z => nbB σ b z (lkB σ b z)) (-1) (nM τ l) 0 100
    generalize hr : nbF (fun z => nbB σ b z (lkB σ b z)) (-1) (nM τ l) 0 100 = r at b1 b2 b3 ⊢
    have up : r ≤ neM τ l := by
      have u1 := b2 (x0 - 16 * l) (by omega) (by omega) (by omega)
      have u2 := (nbF_is (fun w => dst (σ.2 0) (lkB σ b (x0 - 16 * l)) (lkB σ b w)) (x0 - 16 * l) (nM τ l) 0 100).2.1 (y0 - 16 * l) (by omega) (by omega) (by omega)
      have u3 := (rg (x0 - 16 * l) (y0 - 16 * l) (by omega) (by omega) (by omega) (by omega)).1
      rw [show 16 * l + (x0 - 16 * l) = x0 by omega, show 16 * l + (y0 - 16 * l) = y0 by omega] at u3
      rw [nb] at u1
      have u4 : dst (σ.2 0) (lkB σ b (x0 - 16 * l)) (lkB σ b (y0 - 16 * l)) = neM τ l := u3.trans a5.symm
      omega
    have lo : neM τ l ≤ r := by
      rcases b3 with b3 | ⟨z, c1, c2, -, c4⟩
      · omega
      · rw [nb] at c4
        obtain ⟨d1, d2, d3⟩ := nbF_is (fun w => dst (σ.2 0) (lkB σ b z) (lkB σ b w)) z (nM τ l) 0 100
        rw [← c4] at d3
        rcases d3 with d3 | ⟨w, e2, e3, e4, e5⟩
        · omega
        · have u3 := (rg z w (by omega) (by omega) (by omega) (by omega)).1
          rw [e5]
          show neM τ l ≤ dst (σ.2 0) (σ.2 (1 + b) z) (σ.2 (1 + b) w)
          rw [u3]
          by_cases zw : w < z
          · exact g2 (16 * l + z) (16 * l + w) (by omega) (by omega) (by omega) (by omega)
          · rw [dst_sy]
            exact g2 (16 * l + w) (16 * l + z) (by omega) (by omega) (by omega) (by omega)
    have : r = neM τ l := by omega
    rw [this]
    unfold nsM
    split <;> omega
theorem tfB_eq (hM : IM τ) (hl : 0 ≤ l ∧ l < 4) (hG : GrR σ τ) (hB : BkR σ b τ l) {s : Int} (hs : 0 ≤ s ∧ s < τ.2 11 l) : tfB σ b s = btM τ l s := by
  have hn := hM.2.2.1 l hl.1 hl.2
  have hN := nM_eq hM hl
  have e1 := hB.1
  have hc := nn_eq hB
  have hk := lkM_in hM (k := 16 * l + s) (by omega)
  have es : lkB σ b s = lkM τ (16 * l + s) := (lk_eq hB (z := s) hs.1 (by omega)).1
  unfold tfB btM
  by_cases h2 : σ.1 (2 + b) < 2
  · rw [if_pos h2, if_pos (by omega), es]
    exact (mk_sh hk).2.1
  · rw [if_neg h2, if_neg (by omega)]
    have hf : ∀ t : Int, 0 ≤ t → t < 4 → nbB σ b s (wth (lkB σ b s) t) = btN τ l (16 * l + s) t ∧ 0 ≤ btN τ l (16 * l + s) t := by
      intro t t0 t1
      have hb := btN_rg hM (l := l) (j := 16 * l + s) (t := t) hl (by omega) ⟨t0, t1⟩
      refine ⟨?_, hb.1⟩
      have kL := mkL_rg (s := τ.2 12 (16 * l + s)) (t := t) (p := τ.2 14 (16 * l + s)) (m := τ.2 15 (16 * l + s)) (by omega)
      have eL : wth (lkB σ b s) t = btL τ (16 * l + s) t := by rw [es]; exact wth_mk hk
      have sh := nbF_sh (fun k => dst (τ.2 17) (btL τ (16 * l + s) t) (lkM τ k)) (fun w => dst (σ.2 0) (btL τ (16 * l + s) t) (lkB σ b w)) (16 * l) (16 * l + s) s (nM τ l) 0 99 rfl (fun y q1 q2 => by
        have k2 := lkM_rg hM (k := 16 * l + y) (by omega)
        show dst (τ.2 17) (btL τ (16 * l + s) t) (lkM τ (16 * l + y)) = dst (σ.2 0) (btL τ (16 * l + s) t) (σ.2 (1 + b) y)
        rw [(lk_eq hB (z := y) q1 (by omega)).1]
        exact (dst_eq hG kL k2).symm)
      have bt : btN τ l (16 * l + s) t = nbF (fun w => dst (σ.2 0) (btL τ (16 * l + s) t) (lkB σ b w)) s (nM τ l) 0 99 := sh
      rw [bt, eL]
      show nbF (fun z => dst (σ.2 0) (btL τ (16 * l + s) t) (lkB σ b z)) s (cN σ b) 0 100 = _
      rw [hc]
      have rg : ∀ y : Int, 0 ≤ y → y < nM τ l → dst (σ.2 0) (btL τ (16 * l + s) t) (lkB σ b y) ≤ 11 := by
        intro y q1 q2
        have k2 := lkM_rg hM (k := 16 * l + y) (by omega)
        rw [show lkB σ b y = lkM τ (16 * l + y) from (lk_eq hB (z := y) q1 (by omega)).1]
        exact (dst_rg ⟨kL.1, kL.2, k2.1, k2.2⟩).2
      obtain ⟨a1, a2, a3⟩ := nbF_is (fun w => dst (σ.2 0) (btL τ (16 * l + s) t) (lkB σ b w)) s (nM τ l) 0 100
      obtain ⟨b1, b2, b3⟩ := nbF_is (fun w => dst (σ.2 0) (btL τ (16 * l + s) t) (lkB σ b w)) s (nM τ l) 0 99
      -- another one
      obtain ⟨w, w0, w1, w2⟩ : ∃ w : Int, 0 ≤ w ∧ w < nM τ l ∧ w ≠ s := by
        by_cases q : s = 0
        · exact ⟨1, by omega, by omega, by omega⟩
        · exact ⟨0, by omega, by omega, by omega⟩
      have r1 := a2 w w0 (by omega) w2
      have r2 := b2 w w0 (by omega) w2
      have r3 := rg w w0 w1
      generalize nbF (fun w => dst (σ.2 0) (btL τ (16 * l + s) t) (lkB σ b w)) s (nM τ l) 0 100 = p at *
      generalize nbF (fun w => dst (σ.2 0) (btL τ (16 * l + s) t) (lkB σ b w)) s (nM τ l) 0 99 = q at *
      rcases a3 with a3 | ⟨y, c1, c2, c3, c4⟩
      · omega
      · rcases b3 with b3 | ⟨y', c1', c2', c3', c4'⟩
        · omega
        · have g1 := b2 y c1 c2 c3
          have g2 := a2 y' c1' c2' c3'
          omega
    have f0 := hf 0 (by omega) (by omega)
    rw [show amF (fun t => nbB σ b s (wth (lkB σ b s) t)) 4 0 0 (-1) = if -1 < nbB σ b s (wth (lkB σ b s) 0) then amF (fun t => nbB σ b s (wth (lkB σ b s) t)) 3 1 0 (nbB σ b s (wth (lkB σ b s) 0)) else amF (fun t => nbB σ b s (wth (lkB σ b s) t)) 3 1 0 (-1) from rfl]
    rw [show amF (fun t => btN τ l (16 * l + s) t) 4 0 (-1) (-1) = if -1 < btN τ l (16 * l + s) 0 then amF (fun t => btN τ l (16 * l + s) t) 3 1 0 (btN τ l (16 * l + s) 0) else amF (fun t => btN τ l (16 * l + s) t) 3 1 (-1) (-1) from rfl]
    rw [f0.1, if_pos (by omega), if_pos (by omega)]
    exact amF_cg _ _ 3 1 0 _ (fun y q1 q2 => (hf y (by omega) (by omega)).1)
end BR3
