/-! a book of the class and a lodge of the reference -/
def BkR (σ : Sg) (b : Nat) (τ : Sg) (l : Int) : Prop := σ.1 (2 + b) = τ.2 11 l ∧ (∀ z : Int, 0 ≤ z → z < τ.2 11 l → σ.2 (1 + b) z = lkM τ (16 * l + z) ∧ σ.2 (6 + b) z = τ.2 16 (16 * l + z)) ∧ ∀ y z : Int, 0 ≤ y → y < τ.2 11 l → 0 ≤ z → z < τ.2 11 l → τ.2 16 (16 * l + y) = τ.2 16 (16 * l + z) → y = z
def GrR (σ τ : Sg) : Prop := (∀ p q : Int, 0 ≤ p → p < 9 → 0 ≤ q → q < 9 → (σ.2 0 p = σ.2 0 q ↔ τ.2 17 p = τ.2 17 q)) ∧ (∀ p : Int, 0 ≤ p → p < 9 → 0 ≤ τ.2 17 p ∧ τ.2 17 p ≤ p ∧ τ.2 17 (τ.2 17 p) = τ.2 17 p) ∧ σ.1 1 = agM τ
theorem dst_cg {G G' : Int → Int} {x y : Int} (h : G (x / 256) = G (y / 256) ↔ G' (x / 256) = G' (y / 256)) : dst G x y = dst G' x y := by
  unfold dst stp
  simp only [h]
theorem dst_eq {σ τ : Sg} (hG : GrR σ τ) {x y : Int} (hx : 0 ≤ x ∧ x < 2304) (hy : 0 ≤ y ∧ y < 2304) : dst (σ.2 0) x y = dst (τ.2 17) x y := dst_cg (hG.1 _ _ (by omega) (by omega) (by omega) (by omega))
theorem popx_a : ∀ a b : Fin 16, pop4 (xr ((a.1 : Nat) : Int) ((b.1 : Nat) : Int)) = 0 → a.1 = b.1 := by decide +kernel
theorem popx_b : ∀ a : Fin 16, pop4 (xr ((a.1 : Nat) : Int) ((a.1 : Nat) : Int)) = 0 := by decide +kernel
theorem popx_s : ∀ a b : Fin 16, xr ((a.1 : Nat) : Int) ((b.1 : Nat) : Int) = xr ((b.1 : Nat) : Int) ((a.1 : Nat) : Int) := by decide +kernel
theorem popx {a b : Int} (ha : 0 ≤ a ∧ a < 16) (hb : 0 ≤ b ∧ b < 16) : pop4 (xr a b) = 0 ↔ a = b := by
  obtain ⟨a, rfl⟩ := Int.eq_ofNat_of_zero_le ha.1
  obtain ⟨b, rfl⟩ := Int.eq_ofNat_of_zero_le hb.1
  refine ⟨fun h => ?_, fun h => ?_⟩
  · have := popx_a ⟨a, by omega⟩ ⟨b, by omega⟩ h
    exact congrArg Nat.cast this
  · have e : a = b := by omega
    subst e
    exact popx_b ⟨a, by omega⟩
theorem xr_sy {a b : Int} (ha : 0 ≤ a ∧ a < 16) (hb : 0 ≤ b ∧ b < 16) : xr a b = xr b a := by
  obtain ⟨a, rfl⟩ := Int.eq_ofNat_of_zero_le ha.1
  obtain ⟨b, rfl⟩ := Int.eq_ofNat_of_zero_le hb.1
  exact popx_s ⟨a, by omega⟩ ⟨b, by omega⟩
theorem stp_0 {G : Int → Int} {a b : Int} (ha : 0 ≤ a ∧ a < 9) (hb : 0 ≤ b ∧ b < 9) : stp G a b = 0 ↔ G a = G b := by
  unfold stp
  by_cases h : G a = G b
  · rw [if_pos h]
    exact ⟨fun _ => h, fun _ => rfl⟩
  · rw [if_neg h]
    refine ⟨fun q => ?_, fun q => absurd q h⟩
    have : a = b := by
      unfold ab at q
      by_cases c1 : 0 ≤ a / 3 - b / 3
      · rw [if_pos c1] at q
        by_cases c2 : 0 ≤ a % 3 - b % 3
        · rw [if_pos c2] at q; omega
        · rw [if_neg c2] at q; omega
      · rw [if_neg c1] at q
        by_cases c2 : 0 ≤ a % 3 - b % 3
        · rw [if_pos c2] at q; omega
        · rw [if_neg c2] at q; omega
    rw [this]
theorem dst_0 {G : Int → Int} {x y : Int} (hx : 0 ≤ x ∧ x < 2304) (hy : 0 ≤ y ∧ y < 2304) : dst G x y = 0 ↔ alk G x y := by
  have h1 := popx (a := x % 16) (b := y % 16) (by omega) (by omega)
  have h2 := stp_0 (G := G) (a := x / 256) (b := y / 256) (by omega) (by omega)
  have h3 := pop4_rg (r := xr (x % 16) (y % 16))
  have h4 := stp_rg (G := G) (a := x / 256) (b := y / 256) (by omega)
  unfold dst alk
  rw [← h2]
  refine ⟨fun h => ?_, fun h => ?_⟩
  · split at h <;> split at h <;> omega
  · have e := h1.mpr (by omega)
    rw [e, h.2, if_pos (by omega), if_pos (by omega)]
    decide
theorem stp_sy {G : Int → Int} {a b : Int} : stp G a b = stp G b a := by
  unfold stp
  by_cases h : G a = G b
  · rw [if_pos h, if_pos h.symm]
  · rw [if_neg h, if_neg (fun q => h q.symm)]
    unfold ab
    split <;> split <;> split <;> split <;> omega
theorem dst_sy {G : Int → Int} {x y : Int} : dst G x y = dst G y x := by
  unfold dst
  rw [xr_sy (a := x % 16) (b := y % 16) (by omega) (by omega), stp_sy]
  have e1 : (if x / 16 % 4 = y / 16 % 4 then (0 : Int) else 1) = if y / 16 % 4 = x / 16 % 4 then 0 else 1 := by
    by_cases h : x / 16 % 4 = y / 16 % 4
    · rw [if_pos h, if_pos h.symm]
    · rw [if_neg h, if_neg (fun q => h q.symm)]
  have e2 : (if x / 64 % 4 = y / 64 % 4 then (0 : Int) else 2) = if y / 64 % 4 = x / 64 % 4 then 0 else 2 := by
    by_cases h : x / 64 % 4 = y / 64 % 4
    · rw [if_pos h, if_pos h.symm]
    · rw [if_neg h, if_neg (fun q => h q.symm)]
  rw [e1, e2]
theorem wth_mk {s t p m t2 : Int} (h : 0 ≤ s ∧ s < 16 ∧ 0 ≤ t ∧ t < 4 ∧ 0 ≤ p ∧ p < 9 ∧ 0 ≤ m ∧ m < 4) : wth (mkL s t p m) t2 = mkL s t2 p m := by
  unfold wth mkL
  omega
theorem mk_sh {s t p m : Int} (h : 0 ≤ s ∧ s < 16 ∧ 0 ≤ t ∧ t < 4 ∧ 0 ≤ p ∧ p < 9 ∧ 0 ≤ m ∧ m < 4) : mkL s t p m % 16 = s ∧ mkL s t p m / 16 % 4 = t ∧ mkL s t p m / 256 = p ∧ mkL s t p m / 64 % 4 = m := by
  unfold mkL
  omega
section BR
variable {σ τ : Sg} {b : Nat} {l : Int}
theorem nn_eq (hB : BkR σ b τ l) : cN σ b = nM τ l := by
  show (σ.1 (2 + b)).toNat = (τ.2 11 l).toNat
  rw [hB.1]
theorem lk_eq (hB : BkR σ b τ l) {z : Int} (h0 : 0 ≤ z) (h1 : z < nM τ l) : σ.2 (1 + b) z = lkM τ (16 * l + z) ∧ σ.2 (6 + b) z = τ.2 16 (16 * l + z) := hB.2.1 z h0 (by have e : ((nM τ l : Nat) : Int) = ((τ.2 11 l).toNat : Nat) := rfl; omega)
theorem findB_eq (hB : BkR σ b τ l) (x : Int) : findB σ b x = sgM τ l x := by
  unfold findB sgM
  rw [nn_eq hB]
  exact fnd_cg _ _ x _ 0 (fun y h1 h2 => (lk_eq hB h1 (by omega)).2)
theorem mrB_eq (hM : IM τ) (hl : 0 ≤ l ∧ l < 4) (hG : GrR σ τ) (hB : BkR σ b τ l) {L : Int} (hL : 0 ≤ L ∧ L < 2304) : mrB σ b L = rdM τ L l := by
  have hn := hM.2.2.1 l hl.1 hl.2
  have hN := nM_eq hM hl
  unfold mrB rdM
  rw [nn_eq hB]
  exact (mrF_sh _ _ _ _ (16 * l) (nM τ l) 0 4 (-1) (fun y h1 h2 => by
    have e := lk_eq hB h1 (by omega)
    have hk := lkM_rg hM (k := 16 * l + y) (by omega)
    refine ⟨?_, e.2.symm⟩
    show dst (τ.2 17) L (lkM τ (16 * l + y)) = dst (σ.2 0) L (σ.2 (1 + b) y)
    rw [e.1, dst_eq hG hL hk])).symm
theorem caB_eq (hM : IM τ) (hl : 0 ≤ l ∧ l < 4) (hG : GrR σ τ) (hB : BkR σ b τ l) : caB σ b = caM τ l := by
  have hn := hM.2.2.1 l hl.1 hl.2
  have hN := nM_eq hM hl
  unfold caB caM
  rw [nn_eq hB]
  have h := pO_pMF (alC (σ.2 0) (lkB σ b)) (alM τ) (16 * l + 0) (nM τ l) (fun z w h1 h2 h3 => by
    have e1 := lk_eq hB (z := z) h1 (by omega)
    have e2 := lk_eq hB (z := w) (by omega) h3
    have k1 := lkM_rg hM (k := 16 * l + z) (by omega)
    have k2 := lkM_rg hM (k := 16 * l + w) (by omega)
    show decide (alk (σ.2 0) (σ.2 (1 + b) z) (σ.2 (1 + b) w)) = decide (dst (τ.2 17) (lkM τ (16 * l + 0 + w)) (lkM τ (16 * l + 0 + z)) = 0)
    rw [show 16 * l + 0 + w = 16 * l + w by omega, show 16 * l + 0 + z = 16 * l + z by omega]
    refine decide_eq_decide.mpr ?_
    rw [e1.1, e2.1, dst_sy, ← dst_eq hG k1 k2]
    exact (dst_0 k1 k2).symm)
  exact h
theorem ctB_eq (hM : IM τ) (hl : 0 ≤ l ∧ l < 4) (hG : GrR σ τ) (hB : BkR σ b τ l) : ctB σ b = ctM τ l := by
  have hn := hM.2.2.1 l hl.1 hl.2
  have hN := nM_eq hM hl
  unfold ctB ctM
  rw [nn_eq hB]
  have h := pO_pMF (taC (σ.2 0) (lkB σ b)) (thM τ) (16 * l + 0) (nM τ l) (fun z w h1 h2 h3 => by
    have e1 := lk_eq hB (z := z) h1 (by omega)
    have e2 := lk_eq hB (z := w) (by omega) h3
    have k1 := lkM_rg hM (k := 16 * l + z) (by omega)
    have k2 := lkM_rg hM (k := 16 * l + w) (by omega)
    have m1 := (mk_sh (lkM_in hM (k := 16 * l + z) (by omega))).2.1
    have m2 := (mk_sh (lkM_in hM (k := 16 * l + w) (by omega))).2.1
    show decide (σ.2 (1 + b) z / 16 % 4 ≠ σ.2 (1 + b) w / 16 % 4 ∧ dst (σ.2 0) (σ.2 (1 + b) z) (σ.2 (1 + b) w) = 1) = decide (τ.2 13 (16 * l + 0 + w) ≠ τ.2 13 (16 * l + 0 + z) ∧ dst (τ.2 17) (lkM τ (16 * l + 0 + w)) (lkM τ (16 * l + 0 + z)) = 1)
    rw [show 16 * l + 0 + w = 16 * l + w by omega, show 16 * l + 0 + z = 16 * l + z by omega]
    refine decide_eq_decide.mpr ?_
    rw [e1.1, e2.1, dst_sy (x := lkM τ (16 * l + w)), ← dst_eq hG k1 k2]
    unfold lkM at m1 m2 ⊢
    rw [m1, m2]
    exact ⟨fun q => ⟨fun z => q.1 z.symm, q.2⟩, fun q => ⟨fun z => q.1 z.symm, q.2⟩⟩)
  exact h
theorem snB_eq (hM : IM τ) (hl : 0 ≤ l ∧ l < 4) (hG : GrR σ τ) (hB : BkR σ b τ l) : snB σ b = miM τ l := by
  have hn := hM.2.2.1 l hl.1 hl.2
  have hN := nM_eq hM hl
  unfold snB miM
  rw [nn_eq hB]
  have h := amM_sh (fun j => cnt (nrM τ j) (nM τ l) (16 * l + 0) 0) (fun z => cnB σ b z) (16 * l + 0) (nM τ l) 0 (-1) (-1) (fun y h1 h2 => by
    show cnt (nrM τ (16 * l + 0 + y)) (nM τ l) (16 * l + 0) 0 = cnt (nrC (σ.2 0) (lkB σ b) y) (cN σ b) 0 0
    rw [nn_eq hB]
    exact cnt_sh _ _ (16 * l) (nM τ l) 0 0 (fun w q1 q2 => by
      have e1 := lk_eq hB (z := y) h1 (by omega)
      have e2 := lk_eq hB (z := w) q1 (by omega)
      have k1 := lkM_rg hM (k := 16 * l + y) (by omega)
      have k2 := lkM_rg hM (k := 16 * l + w) (by omega)
      show decide (16 * l + w ≠ 16 * l + 0 + y ∧ dst (τ.2 17) (lkM τ (16 * l + 0 + y)) (lkM τ (16 * l + w)) ≤ 3) = decide (w ≠ y ∧ dst (σ.2 0) (σ.2 (1 + b) y) (σ.2 (1 + b) w) ≤ 3)
      rw [show 16 * l + 0 + y = 16 * l + y by omega, e1.1, e2.1, dst_eq hG k1 k2]
      exact decide_eq_decide.mpr ⟨fun q => ⟨fun z => q.1 (by rw [z]), q.2⟩, fun q => ⟨fun z => q.1 (by omega), q.2⟩⟩))
  rw [show (16 * l + 0 + 0 : Int) = 16 * l + 0 by omega] at h
  exact h.symm
end BR
