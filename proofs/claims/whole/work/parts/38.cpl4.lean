theorem frF0 (f : Int → Int) : ∀ (d : Nat) (w : Int), frF f d w 0 = 0 := by
  intro d
  induction d with
  | zero => intro w; rfl
  | succ d ih =>
    intro w
    rw [show frF f (d + 1) w 0 = frF f d (w + 1) (if (0 : Int) = 1 ∧ 0 < f w then 1 else 0) from rfl, if_neg (by omega)]
    exact ih (w + 1)
theorem hs_fr {G lk f : Int → Int} {L o : Int} : ∀ (d : Nat) (z : Int), (∀ y : Int, z ≤ y → y < z + d → (alk G L (lk y) ↔ ¬ 0 < f (o + y))) → (frF f d (o + z) 1 = 1 ↔ hsA G lk L d z = 0) := by
  intro d
  induction d with
  | zero => intro z _; exact ⟨fun _ => rfl, fun _ => rfl⟩
  | succ d ih =>
    intro z h
    have h0 := h z (by omega) (by omega)
    rw [show frF f (d + 1) (o + z) 1 = frF f d (o + z + 1) (if (1 : Int) = 1 ∧ 0 < f (o + z) then 1 else 0) from rfl, show hsA G lk L (d + 1) z = if alk G L (lk z) then 1 else hsA G lk L d (z + 1) from rfl]
    by_cases q : alk G L (lk z)
    · rw [if_pos q, if_neg (fun w => h0.mp q w.2), frF0]
      exact ⟨fun w => by omega, fun w => by omega⟩
    · have q2 : 0 < f (o + z) := Classical.not_not.mp (fun w => q (h0.mpr w))
      rw [if_neg q, if_pos ⟨rfl, q2⟩, Int.add_assoc]
      exact ih (z + 1) (fun y h1 h2 => h y (by omega) (by omega))
section BR4
variable {σ τ : Sg} {b s : Nat} {l m : Int}
theorem fu_eq (hM : IM τ) (hl : 0 ≤ l ∧ l < 4) (hG : GrR σ τ) (hB : BkR σ b τ l) {j : Int} (hj : 0 ≤ j ∧ j < 64) : ∀ (d : Nat) (z : Int), 0 ≤ z → fuF (σ.2 0) (lkB σ b) (cN σ b) (lkM τ j) d z = if tfF τ j l d z = -1 then -1 else wth (lkM τ j) (tfF τ j l d z) := by
  have hn := hM.2.2.1 l hl.1 hl.2
  have hN := nM_eq hM hl
  have hk := lkM_in hM hj
  have ht := (mk_sh hk).2.1
  intro d
  induction d with
  | zero => intro z _; rfl
  | succ d ih =>
    intro z hz
    have key : frF (fun k => dst (τ.2 17) (mkL (τ.2 12 j) ((τ.2 13 j + z) % 4) (τ.2 14 j) (τ.2 15 j)) (lkM τ k)) (nM τ l) (16 * l + 0) 1 = 1 ↔ hsA (σ.2 0) (lkB σ b) (wth (lkM τ j) ((lkM τ j / 16 % 4 + z) % 4)) (cN σ b) 0 = 0 := by
      rw [nn_eq hB]
      refine hs_fr (nM τ l) 0 (fun y h1 h2 => ?_)
      have k2 := lkM_rg hM (k := 16 * l + y) (by omega)
      have kL := mkL_rg (s := τ.2 12 j) (t := (τ.2 13 j + z) % 4) (p := τ.2 14 j) (m := τ.2 15 j) (by omega)
      have eL : wth (lkM τ j) ((lkM τ j / 16 % 4 + z) % 4) = mkL (τ.2 12 j) ((τ.2 13 j + z) % 4) (τ.2 14 j) (τ.2 15 j) := by
        rw [show lkM τ j / 16 % 4 = τ.2 13 j from ht]
        exact wth_mk hk
      have hr := dst_rg (G := τ.2 17) ⟨kL.1, kL.2, k2.1, k2.2⟩
      rw [eL, show lkB σ b y = lkM τ (16 * l + y) from (lk_eq hB h1 (by omega)).1, ← dst_0 kL k2, dst_eq hG kL k2]
      omega
    rw [show fuF (σ.2 0) (lkB σ b) (cN σ b) (lkM τ j) (d + 1) z = if hsA (σ.2 0) (lkB σ b) (wth (lkM τ j) ((lkM τ j / 16 % 4 + z) % 4)) (cN σ b) 0 = 0 then wth (lkM τ j) ((lkM τ j / 16 % 4 + z) % 4) else fuF (σ.2 0) (lkB σ b) (cN σ b) (lkM τ j) d (z + 1) from rfl]
    rw [show tfF τ j l (d + 1) z = if frF (fun k => dst (τ.2 17) (mkL (τ.2 12 j) ((τ.2 13 j + z) % 4) (τ.2 14 j) (τ.2 15 j)) (lkM τ k)) (nM τ l) (16 * l + 0) 1 = 1 then (τ.2 13 j + z) % 4 else tfF τ j l d (z + 1) from rfl]
    by_cases q : hsA (σ.2 0) (lkB σ b) (wth (lkM τ j) ((lkM τ j / 16 % 4 + z) % 4)) (cN σ b) 0 = 0
    · rw [if_pos q, if_pos (key.mpr q), if_neg (by omega), show lkM τ j / 16 % 4 = τ.2 13 j from ht]
    · rw [if_neg q, if_neg (fun w => q (key.mp w))]
      exact ih (z + 1) (by omega)
/-- can it be borrowed, and how -/
theorem tl_iff (hM : IM τ) (hl : 0 ≤ l ∧ l < 4) (hm : 0 ≤ m ∧ m < 4) (hG : GrR σ τ) (hB : BkR σ b τ l) (hS : BkR σ s τ m) {z : Int} (h0 : 0 ≤ z) (h1 : z < τ.2 11 m) :
    (tlOK σ s z b ↔ tfM τ (16 * m + z) l ≠ -1) ∧ (tfM τ (16 * m + z) l ≠ -1 → fuB σ b (σ.2 (1 + s) z) = wth (lkM τ (16 * m + z)) (tfM τ (16 * m + z) l)) := by
  have hn := hM.2.2.1 l hl.1 hl.2
  have hn2 := hM.2.2.1 m hm.1 hm.2
  have hN := nM_eq hM hm
  have e := lk_eq hS (z := z) h0 (by omega)
  have hf := fu_eq hM hl hG hB (j := 16 * m + z) (by omega) 4 0 (by omega)
  have hk := lkM_in hM (k := 16 * m + z) (by omega)
  have eb := hB.1
  have ef := findB_eq hB (σ.2 (6 + s) z)
  have fu : fuB σ b (σ.2 (1 + s) z) = if tfF τ (16 * m + z) l 4 0 = -1 then -1 else wth (lkM τ (16 * m + z)) (tfF τ (16 * m + z) l 4 0) := by
    unfold fuB
    rw [e.1]
    exact hf
  have wr : ∀ t : Int, 0 ≤ t → t < 4 → 0 ≤ wth (lkM τ (16 * m + z)) t := by
    intro t t0 t1
    have := (mkL_rg (s := τ.2 12 (16 * m + z)) (t := t) (p := τ.2 14 (16 * m + z)) (m := τ.2 15 (16 * m + z)) (by omega)).1
    rw [show wth (lkM τ (16 * m + z)) t = mkL (τ.2 12 (16 * m + z)) t (τ.2 14 (16 * m + z)) (τ.2 15 (16 * m + z)) from wth_mk hk]
    exact this
  have tr := tfF_rg hM (j := 16 * m + z) (l := l) (by omega) 4 0 (by omega)
  unfold tfM tlOK
  rw [fu, ef, e.2, eb]
  by_cases q : τ.2 11 l = 16 ∨ sgM τ l (τ.2 16 (16 * m + z)) ≠ -1
  · rw [if_pos q]
    exact ⟨⟨fun w => by omega, fun w => absurd rfl w⟩, fun w => absurd rfl w⟩
  · rw [if_neg q]
    by_cases q2 : tfF τ (16 * m + z) l 4 0 = -1
    · rw [if_pos q2]
      exact ⟨⟨fun w => absurd rfl w.2, fun w => absurd q2 w⟩, fun w => absurd q2 w⟩
    · rw [if_neg q2]
      have := wr (tfF τ (16 * m + z) l 4 0) (by omega) (by omega)
      exact ⟨⟨fun _ => q2, fun _ => ⟨by omega, by omega⟩⟩, fun _ => rfl⟩
theorem cuB_eq (hM : IM τ) (hl : 0 ≤ l ∧ l < 4) (hm : 0 ≤ m ∧ m < 4) (hG : GrR σ τ) (hB : BkR σ b τ l) (hS : BkR σ s τ m) : cuB σ b s = raM τ m l 1 := by
  have hn2 := hM.2.2.1 m hm.1 hm.2
  have hN := nM_eq hM hm
  unfold cuB raM
  rw [nn_eq hS]
  exact (cnt_sh _ _ (16 * m) (nM τ m) 0 0 (fun y h1 h2 => by
    have e := lk_eq hS (z := y) h1 (by omega)
    have k := lkM_rg hM (k := 16 * m + y) (by omega)
    have mn := hM.2.2.2.2.2.2.2.1 (16 * m + y) (by omega) (by omega)
    show decide (rdM τ (lkM τ (16 * m + y)) l ≠ -1 ∧ (if rdM τ (lkM τ (16 * m + y)) l = τ.2 16 (16 * m + y) then (1 : Int) else 0) = 1) = decide (mrB σ b (σ.2 (1 + s) y) = σ.2 (6 + s) y)
    rw [e.1, e.2, mrB_eq hM hl hG hB k]
    refine decide_eq_decide.mpr ⟨fun q => ?_, fun q => ?_⟩
    · by_cases w : rdM τ (lkM τ (16 * m + y)) l = τ.2 16 (16 * m + y)
      · exact w
      · rw [if_neg w] at q; exact absurd q.2 (by decide)
    · rw [if_pos q]
      exact ⟨by omega, rfl⟩)).symm
theorem cmB_eq (hM : IM τ) (hl : 0 ≤ l ∧ l < 4) (hm : 0 ≤ m ∧ m < 4) (hG : GrR σ τ) (hB : BkR σ b τ l) (hS : BkR σ s τ m) : cmB σ b s = raM τ m l 0 := by
  have hn2 := hM.2.2.1 m hm.1 hm.2
  have hN := nM_eq hM hm
  unfold cmB raM
  rw [nn_eq hS]
  exact (cnt_sh _ _ (16 * m) (nM τ m) 0 0 (fun y h1 h2 => by
    have e := lk_eq hS (z := y) h1 (by omega)
    have k := lkM_rg hM (k := 16 * m + y) (by omega)
    show decide (rdM τ (lkM τ (16 * m + y)) l ≠ -1 ∧ (if rdM τ (lkM τ (16 * m + y)) l = τ.2 16 (16 * m + y) then (1 : Int) else 0) = 0) = decide (mrB σ b (σ.2 (1 + s) y) ≠ -1 ∧ mrB σ b (σ.2 (1 + s) y) ≠ σ.2 (6 + s) y)
    rw [e.1, e.2, mrB_eq hM hl hG hB k]
    refine decide_eq_decide.mpr ⟨fun q => ⟨q.1, fun w => ?_⟩, fun q => ?_⟩
    · rw [if_pos w] at q; exact absurd q.2 (by decide)
    · rw [if_neg q.2]
      exact ⟨q.1, rfl⟩)).symm
theorem ccB_eq (hM : IM τ) (hl : 0 ≤ l ∧ l < 4) (hm : 0 ≤ m ∧ m < 4) (hG : GrR σ τ) (hB : BkR σ b τ l) (hS : BkR σ s τ m) : ccB σ b s = cmM τ m l := by
  have hn := hM.2.2.1 l hl.1 hl.2
  have hN1 := nM_eq hM hl
  have hn2 := hM.2.2.1 m hm.1 hm.2
  have hN := nM_eq hM hm
  have sh := cnt_sh (coM τ m l) (fun z => coM τ m l (16 * m + z)) (16 * m) (nM τ m) 0 0 (fun _ _ _ => rfl)
  have c1 := cnt_mn (fun z => τ.2 16 (16 * m + z)) (fun z => coM τ m l (16 * m + z)) (nM τ m) (fun z h1 h2 => hM.2.2.2.2.2.2.2.1 (16 * m + z) (by omega) (by omega)) (fun y z h1 h2 h3 h4 h5 => hS.2.2 y z h1 (by omega) h3 (by omega) h5)
  have c2 := cnt_mn (mnB σ b) (coC σ b s) (cN σ b) (fun z h1 h2 => by
    rw [nn_eq hB] at h2
    show 0 ≤ σ.2 (6 + b) z ∧ σ.2 (6 + b) z < 30
    rw [(lk_eq hB h1 h2).2]
    exact hM.2.2.2.2.2.2.2.1 (16 * l + z) (by omega) (by omega)) (fun y z h1 h2 h3 h4 h5 => by
    rw [nn_eq hB] at h2 h4
    refine hB.2.2 y z h1 (by omega) h3 (by omega) ?_
    rw [← (lk_eq hB h1 h2).2, ← (lk_eq hB h3 h4).2]
    exact h5)
  unfold ccB cmM
  rw [show (16 * m + 0 : Int) = 16 * m + 0 from rfl, sh, c1, c2]
  refine cnt_cg _ _ 30 0 0 (fun x _ _ => ?_)
  have eu : fnd (mnB σ b) x (cN σ b) 0 = sgM τ l x := findB_eq hB x
  have ev : fnd (fun z => τ.2 16 (16 * m + z)) x (nM τ m) 0 = sgM τ m x := rfl
  have ru := sgM_rg hM hl x
  have rv := sgM_rg hM hm x
  have mu : sgM τ l x ≠ -1 → τ.2 16 (16 * l + sgM τ l x) = x := fun q => fnd_is (fun z => τ.2 16 (16 * l + z)) x (nM τ l) 0 q (by omega)
  have mv : sgM τ m x ≠ -1 → τ.2 16 (16 * m + sgM τ m x) = x := fun q => fnd_is (fun z => τ.2 16 (16 * m + z)) x (nM τ m) 0 q (by omega)
  show (decide (fnd (mnB σ b) x (cN σ b) 0 ≠ -1) && coC σ b s (fnd (mnB σ b) x (cN σ b) 0)) = (decide (fnd (fun z => τ.2 16 (16 * m + z)) x (nM τ m) 0 ≠ -1) && coM τ m l (16 * m + fnd (fun z => τ.2 16 (16 * m + z)) x (nM τ m) 0))
  rw [eu, ev]
  unfold coC coM
  rw [← Bool.decide_and, ← Bool.decide_and]
  refine decide_eq_decide.mpr ?_
  by_cases qu : sgM τ l x = -1
  · refine ⟨fun h => absurd qu h.1, fun h => ?_⟩
    rw [mv h.1] at h
    exact absurd qu h.2.1
  · have ku := lk_eq hB (z := sgM τ l x) (by omega) (by omega)
    have e1 : mnB σ b (sgM τ l x) = x := ku.2.trans (mu qu)
    rw [e1, findB_eq hS x]
    by_cases qv : sgM τ m x = -1
    · exact ⟨fun h => absurd qv h.2.1, fun h => absurd qv h.1⟩
    · have kv := lk_eq hS (z := sgM τ m x) (by omega) (by omega)
      rw [mv qv]
      have k1 := lkM_rg hM (k := 16 * l + sgM τ l x) (by omega)
      have k2 := lkM_rg hM (k := 16 * m + sgM τ m x) (by omega)
      rw [show lkB σ b (sgM τ l x) = lkM τ (16 * l + sgM τ l x) from ku.1, show lkB σ s (sgM τ m x) = lkM τ (16 * m + sgM τ m x) from kv.1, mrB_eq hM hm hG hS k1, mrB_eq hM hl hG hB k2]
      exact ⟨fun h => ⟨qv, qu, h.2.2.2, h.2.2.1⟩, fun h => ⟨qu, qv, h.2.2.2, h.2.2.1⟩⟩
end BR4
