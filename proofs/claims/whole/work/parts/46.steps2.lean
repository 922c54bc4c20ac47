theorem sgM_cg {τ τ' : Sg} (h : eqM τ τ') {l x : Int} : sgM τ l x = sgM τ' l x := by
  unfold sgM nM
  rw [h.2 11 (by decide), h.2 16 (by decide)]
theorem tfM_cg (j l : Int) {σ : Sg} : ∀ τ, eqM σ τ → tfM τ j l = tfM σ j l := by
  intro τ h
  have hf : ∀ (d : Nat) (z : Int), tfF τ j l d z = tfF σ j l d z := by
    intro d
    induction d with
    | zero => intro z; rfl
    | succ d ih =>
      intro z
      have e : (fun k => dst (τ.2 17) (mkL (τ.2 12 j) ((τ.2 13 j + z) % 4) (τ.2 14 j) (τ.2 15 j)) (lkM τ k)) = (fun k => dst (σ.2 17) (mkL (σ.2 12 j) ((σ.2 13 j + z) % 4) (σ.2 14 j) (σ.2 15 j)) (lkM σ k)) := by
        funext k
        rw [← lkM_cg h, ← h.2 17 (by decide), ← h.2 12 (by decide), ← h.2 13 (by decide), ← h.2 14 (by decide), ← h.2 15 (by decide)]
      unfold tfF
      rw [e, ih, show nM τ l = nM σ l by unfold nM; rw [← h.2 11 (by decide)], ← h.2 13 (by decide)]
  unfold tfM
  rw [hf, ← sgM_cg h, ← h.2 11 (by decide), ← h.2 16 (by decide)]
set_option maxHeartbeats 4000000 in
set_option maxRecDepth 100000 in
theorem st_addLodge {l : Launch} (hl : l.stackTraces = false) (g : GG) {σ : Sg} (hR : RC σ σ) : StepP R32 (fun k9 n9 c9 τ9 => CW l yL_addLodge cL_addLodge 3 [(0, 8, 11, 13)] 7 110 k9 n9 g [.ref (gd g (0)), .ref (gd g (27))] σ (pt (some (vI c9)) τ9)) (fun τ9 k9 n9 r9 t9 => CN l yX4_addLodge cX4_addLodge 1 (some .int) 1 21 k9 n9 g [.ref (gd g (19))] τ9 (pt (some (vI r9)) t9)) := by
  have hI := hR.1
  have hM := hR.2.1
  have e0 := hR.2.2.2.1
  have hG := hR.2.2.1
  have h8 := hM.1
  by_cases h : σ.1 0 < 4
  · have hRX := RX hR (eqM_sF (σ := σ) (v := 0) (x := σ.1 0 + 1) (by decide)) (σ.1 0)
    have hal := RC_al hRX (show σ.1 8 < 4 by omega)
    refine step_1 (k2 := 0) (n2 := 0) (r := σ.1 0) (by decide) ?_ ?_ (wk_addLodge hl g σ _ _ (c_X3_addLodge hl g σ hI h) ?_) (c_X4_addLodge_ok hl g (sF (sF σ 0 (σ.1 0 + 1)) 9 (σ.1 0)) (IX hR (eqM_sF (by decide)) rfl _) ?_) rfl rfl hal (eqC_sF (by decide))
    · exact e0.symm
    · show _ ∧ _; omega
    · show _ ∧ _; omega
    · show σ.1 8 ≠ 4
      omega
  · exact step_x hR 1 (by decide) (by decide) (wx1_addLodge hl g σ (x1_X3_addLodge hl g σ hI h)) (c_X4_addLodge_b1 hl g σ hM (by omega)) rfl qc7 qm7
set_option maxHeartbeats 4000000 in
set_option maxRecDepth 100000 in
theorem st_addSign {l : Launch} (hl : l.stackTraces = false) (g : GG) {σ : Sg} (hR : RC σ σ) (a sh th pl mv x : Int) (ra : R32 a) (rsh : R32 sh) (rth : R32 th) (rpl : R32 pl) (rmv : R32 mv) (rx : R32 x) : StepP R32 (fun k9 n9 c9 τ9 => CW l yL_addSign cL_addSign 9 [(0, 18, 21, 19), (0, 18, 25, 21), (0, 18, 29, 13)] 8 140 k9 n9 g [.ref (gd g (0)), vI (a), vI (sh), vI (th), vI (pl), vI (mv), vI (x), .ref (gd g (27))] σ (pt (some (vI c9)) τ9)) (fun τ9 k9 n9 r9 t9 => CN l yX4_addSign cX4_addSign 7 (some .int) 3 65 k9 n9 g [.ref (gd g (19)), vI (a), vI (sh), vI (th), vI (pl), vI (mv), vI (x)] τ9 (pt (some (vI r9)) t9)) := by
  have hI := hR.1
  have hM := hR.2.1
  have e0 := hR.2.2.2.1
  have hG := hR.2.2.1
  have h8 := hM.1
  by_cases h : 0 ≤ a ∧ a < σ.1 0
  · have h4 : 0 ≤ a ∧ a < 4 := by omega
    have hB := RC_bk hR h4
    have hn := hM.2.2.1 a h4.1 h4.2
    have ec := hB.1
    by_cases hp : 0 ≤ sh ∧ sh < 16 ∧ 0 ≤ th ∧ th < 4 ∧ 0 ≤ pl ∧ pl < 9 ∧ 0 ≤ mv ∧ mv < 4
    · by_cases hx : 0 ≤ x ∧ x < 30
      · have ef := findB_eq hB x
        by_cases hm : σ.1 (2 + a.toNat) < 16 ∧ findB σ a.toNat x = -1
        · have q := eqM_ap (σ := σ) (b := a.toNat) (by omega) (L := mkL sh th pl mv) (m := x)
          have hRX := RX hR q (σ.1 (2 + a.toNat))
          have q11 := q.2 11 (by decide)
          have q16 := q.2 16 (by decide)
          have e8 : (apB σ a.toNat (mkL sh th pl mv) x).1 8 = σ.1 8 := by rw [ap_1, if_neg (by omega)]
          have e7 : (apB σ a.toNat (mkL sh th pl mv) x).1 7 = σ.1 7 := by rw [ap_1, if_neg (by omega)]
          have esg : sgM (apB σ a.toNat (mkL sh th pl mv) x) a x = sgM σ a x := by
            unfold sgM
            rw [show nM (apB σ a.toNat (mkL sh th pl mv) x) a = nM σ a by show (_ : Int).toNat = (_ : Int).toNat; rw [← q11], ← q16]
          have hap := RC_ap hRX (b := a.toNat) (by omega) (s := sh) (t := th) (p := pl) (m := mv) (x := x) (by rw [Int.toNat_of_nonneg h4.1]; show (apB σ a.toNat (mkL sh th pl mv) x).2 11 a < 16; rw [← q11]; omega) hp hx (by rw [Int.toNat_of_nonneg h4.1]; show sgM (apB σ a.toNat (mkL sh th pl mv) x) a x = -1; rw [esg]; omega)
          rw [Int.toNat_of_nonneg h4.1] at hap
          refine step_1 (k2 := 0) (n2 := 0) (r := σ.1 (2 + a.toNat)) (by decide) ?_ ?_ (wk_addSign hl g σ _ a sh th pl mv x _ (c_X3_addSign hl g σ hI a sh th pl mv x h hp hx hm) ?_) (c_X4_addSign_ok hl g (sF (apB σ a.toNat (mkL sh th pl mv) x) 9 (σ.1 (2 + a.toNat))) (IX hR q e7 _) a sh th pl mv x ⟨ra.1, ra.2, rsh.1, rsh.2, rth.1, rth.2, rpl.1, rpl.2, rmv.1, rmv.2, rx⟩ ?_ hp hx ?_) rfl rfl hap eqC_wr
          · show (apB σ a.toNat (mkL sh th pl mv) x).2 11 a = _
            rw [← q11]
            exact ec.symm
          · show _ ∧ _; omega
          · show _ ∧ _; omega
          · show 0 ≤ a ∧ a < (apB σ a.toNat (mkL sh th pl mv) x).1 8
            omega
          · show ¬ ((apB σ a.toNat (mkL sh th pl mv) x).2 11 a = 16 ∨ sgM (apB σ a.toNat (mkL sh th pl mv) x) a x ≠ -1)
            rw [← q11, esg]
            omega
        · exact step_x hR 3 (by decide) (by decide) (wx3_addSign hl g σ a sh th pl mv x (x4_X3_addSign hl g σ hI a sh th pl mv x h hp hx hm)) (c_X4_addSign_b3 hl g σ hM a sh th pl mv x ⟨ra.1, ra.2, rsh.1, rsh.2, rth.1, rth.2, rpl.1, rpl.2, rmv.1, rmv.2, rx⟩ (e0 ▸ h) hp hx (by omega)) rfl qc7 qm7
      · exact step_x hR 2 (by decide) (by decide) (wx2_addSign hl g σ a sh th pl mv x (x3_X3_addSign hl g σ hI a sh th pl mv x rx h hp hx)) (c_X4_addSign_b2 hl g σ hM a sh th pl mv x ⟨ra.1, ra.2, rsh.1, rsh.2, rth.1, rth.2, rpl.1, rpl.2, rmv.1, rmv.2, rx⟩ (e0 ▸ h) (fun w => hx w.2)) rfl qc7 qm7
    · exact step_x hR 2 (by decide) (by decide) (wx2_addSign hl g σ a sh th pl mv x (x2_X3_addSign hl g σ hI a sh th pl mv x ⟨rsh.1, rsh.2, rth.1, rth.2, rpl.1, rpl.2, rmv⟩ h hp)) (c_X4_addSign_b2 hl g σ hM a sh th pl mv x ⟨ra.1, ra.2, rsh.1, rsh.2, rth.1, rth.2, rpl.1, rpl.2, rmv.1, rmv.2, rx⟩ (e0 ▸ h) (fun w => hp w.1)) rfl qc7 qm7
  · exact step_x hR 1 (by decide) (by decide) (wx1_addSign hl g σ a sh th pl mv x (x1_X3_addSign hl g σ hI a sh th pl mv x ra h)) (c_X4_addSign_b1 hl g σ hM a sh th pl mv x ⟨ra.1, ra.2, rsh.1, rsh.2, rth.1, rth.2, rpl.1, rpl.2, rmv.1, rmv.2, rx⟩ (e0 ▸ h)) rfl qc7 qm7
set_option maxHeartbeats 4000000 in
set_option maxRecDepth 100000 in
theorem st_setThumb {l : Launch} (hl : l.stackTraces = false) (g : GG) {σ : Sg} (hR : RC σ σ) (a s t : Int) (ra : R32 a) (rs : R32 s) (rt : R32 t) : StepP R32 (fun k9 n9 c9 τ9 => CW l yL_setThumb cL_setThumb 6 [(0, 12, 15, 19), (0, 12, 19, 21)] 8 136 k9 n9 g [.ref (gd g (0)), vI (a), vI (s), vI (t), .ref (gd g (27))] σ (pt (some (vI c9)) τ9)) (fun τ9 k9 n9 r9 t9 => CN l yX4_setThumb cX4_setThumb 5 (some .int) 3 65 k9 n9 g [.ref (gd g (19)), vI (a), vI (s), vI (t)] τ9 (pt (some (vI r9)) t9)) := by
  have hI := hR.1
  have hM := hR.2.1
  have e0 := hR.2.2.2.1
  have hG := hR.2.2.1
  have h8 := hM.1
  by_cases h : 0 ≤ a ∧ a < σ.1 0
  · have h4 : 0 ≤ a ∧ a < 4 := by omega
    have hB := RC_bk hR h4
    have hn := hM.2.2.1 a h4.1 h4.2
    have ec := hB.1
    by_cases hs : 0 ≤ s ∧ s < σ.1 (2 + a.toNat)
    · have eb := hB.2.1 s hs.1 (by omega)
      have hk := mk_sh (lkM_in hM (k := 16 * a + s) (by omega))
      have hlk := hI.2.2.2.2.1 a.toNat (by omega) s hs.1 (by omega)
      by_cases ht : 0 ≤ t ∧ t < 4
      · have q := eqM_sG (σ := σ) (r := 1 + a.toNat) (i := s) (x := wth (σ.2 (1 + a.toNat) s) t) (by omega)
        have hRX := RX hR q (σ.2 (1 + a.toNat) s / 16 % 4)
        have q11 := q.2 11 (by decide)
        have q13 := q.2 13 (by decide)
        have hth := RC_th hRX (b := a.toNat) (by omega) (s := s) (t := t) (by rw [Int.toNat_of_nonneg h4.1]; show 0 ≤ s ∧ s < (sG σ (1 + a.toNat) s (wth (σ.2 (1 + a.toNat) s) t)).2 11 a; rw [← q11]; omega) ht
        rw [Int.toNat_of_nonneg h4.1] at hth
        refine step_1 (k2 := 0) (n2 := 0) (r := σ.2 (1 + a.toNat) s / 16 % 4) (by decide) ?_ ?_ (wk_setThumb hl g σ _ a s t _ (c_X3_setThumb hl g σ hI a s t h hs ht) ?_) (c_X4_setThumb_ok hl g (sF (sG σ (1 + a.toNat) s (wth (σ.2 (1 + a.toNat) s) t)) 9 (σ.2 (1 + a.toNat) s / 16 % 4)) (IX hR q rfl _) a s t ⟨ra.1, ra.2, rs.1, rs.2, rt⟩ ⟨?_, ?_⟩ ht) rfl rfl hth (eqC_sG (by decide))
        · show (sG σ (1 + a.toNat) s (wth (σ.2 (1 + a.toNat) s) t)).2 13 (16 * a + s) = _
          rw [← q13, eb.1]
          exact hk.2.1.symm
        · show _ ∧ _; omega
        · show _ ∧ _; omega
        · show 0 ≤ a ∧ a < σ.1 8
          omega
        · show 0 ≤ s ∧ s < (sG σ (1 + a.toNat) s (wth (σ.2 (1 + a.toNat) s) t)).2 11 a
          rw [← q11]
          omega
      · exact step_x hR 2 (by decide) (by decide) (wx2_setThumb hl g σ a s t (x3_X3_setThumb hl g σ hI a s t rt h hs ht)) (c_X4_setThumb_b2 hl g σ hM a s t ⟨ra.1, ra.2, rs.1, rs.2, rt⟩ ⟨e0 ▸ h, ec ▸ hs⟩ ht) rfl qc7 qm7
    · exact step_x hR 1 (by decide) (by decide) (wx1_setThumb hl g σ a s t (x2_X3_setThumb hl g σ hI a s t rs h hs)) (c_X4_setThumb_b1 hl g σ hM a s t ⟨ra.1, ra.2, rs.1, rs.2, rt⟩ (fun w => hs (ec ▸ w.2))) rfl qc7 qm7
  · exact step_x hR 1 (by decide) (by decide) (wx1_setThumb hl g σ a s t (x1_X3_setThumb hl g σ hI a s t ra h)) (c_X4_setThumb_b1 hl g σ hM a s t ⟨ra.1, ra.2, rs.1, rs.2, rt⟩ (fun w => h (e0 ▸ w.1))) rfl qc7 qm7
set_option maxHeartbeats 4000000 in
set_option maxRecDepth 100000 in
theorem st_borrow {l : Launch} (hl : l.stackTraces = false) (g : GG) {σ : Sg} (hR : RC σ σ) (a s c : Int) (ra : R32 a) (rs : R32 s) (rc : R32 c) : StepP R32 (fun k9 n9 c9 τ9 => CW l yL_borrow cL_borrow 6 [(0, 12, 15, 19), (0, 12, 19, 21), (0, 12, 23, 13)] 8 138 k9 n9 g [.ref (gd g (0)), vI (a), vI (s), vI (c), .ref (gd g (27))] σ (pt (some (vI c9)) τ9)) (fun τ9 k9 n9 r9 t9 => CN l yX4_borrow cX4_borrow 6 (some .int) 4 95 k9 n9 g [.ref (gd g (19)), vI (a), vI (s), vI (c)] τ9 (pt (some (vI r9)) t9)) := by
  have hI := hR.1
  have hM := hR.2.1
  have e0 := hR.2.2.2.1
  have hG := hR.2.2.1
  have h8 := hM.1
  by_cases h : 0 ≤ a ∧ a < σ.1 0
  · have h4 : 0 ≤ a ∧ a < 4 := by omega
    have hB := RC_bk hR h4
    have hn := hM.2.2.1 a h4.1 h4.2
    have ec := hB.1
    by_cases hc : 0 ≤ c ∧ c < σ.1 0
    · have h5 : 0 ≤ c ∧ c < 4 := by omega
      have hC := RC_bk hR h5
      have hnc := hM.2.2.1 c h5.1 h5.2
      have ecc := hC.1
      by_cases hs : 0 ≤ s ∧ s < σ.1 (2 + a.toNat)
      · have eb := hB.2.1 s hs.1 (by omega)
        by_cases hne : a = c
        · exact step_x hR 2 (by decide) (by decide) (wx2_borrow hl g σ a s c (x4_X3_borrow hl g σ hI a s c h hc hs hne)) (c_X4_borrow_b2 hl g σ hM a s c ⟨ra.1, ra.2, rs.1, rs.2, rc⟩ (e0 ▸ hc) ⟨e0 ▸ h, ec ▸ hs⟩ hne) rfl qc7 qm7
        · obtain ⟨t1, t2⟩ := tl_iff hM (l := c) (m := a) h5 h4 hG hC hB (z := s) hs.1 (by omega)
          have hk := lkM_in hM (k := 16 * a + s) (by omega)
          by_cases ht : tfM σ (16 * a + s) c = -1
          · by_cases hm : σ.1 (2 + c.toNat) < 16 ∧ findB σ c.toNat (σ.2 (6 + a.toNat) s) = -1
            · by_cases hf : fuB σ c.toNat (σ.2 (1 + a.toNat) s) = -1
              · exact step_x hR 3 (by decide) (by decide) (wx3_borrow hl g σ a s c (x6_X3_borrow hl g σ hI a s c h hc hs hne hm hf)) (c_X4_borrow_b3 hl g σ hM a s c ⟨ra.1, ra.2, rs.1, rs.2, rc⟩ (e0 ▸ hc) ⟨e0 ▸ h, ec ▸ hs⟩ hne ht) rfl qc7 qm7
              · exact absurd ht (t1.mp ⟨hm, hf⟩)
            · exact step_x hR 3 (by decide) (by decide) (wx3_borrow hl g σ a s c (x5_X3_borrow hl g σ hI a s c h hc hs hne hm)) (c_X4_borrow_b3 hl g σ hM a s c ⟨ra.1, ra.2, rs.1, rs.2, rc⟩ (e0 ▸ hc) ⟨e0 ▸ h, ec ▸ hs⟩ hne ht) rfl qc7 qm7
          · have ok := t1.mpr ht
            have fu := (t2 ht).trans (wth_mk hk)
            have tr := tfM_rg hM (j := 16 * a + s) (l := c) (by omega)
            have hmn := hM.2.2.2.2.2.2.2.1 (16 * a + s) (by omega) (by omega)
            have hno := tf_no ht
            have hrm := tfM_room hM (l := c) h5 ht
            have q := eqM_ap (σ := σ) (b := c.toNat) (by omega) (L := (fuB σ c.toNat (σ.2 (1 + a.toNat) s))) (m := σ.2 (6 + a.toNat) s)
            have hRX := RX hR q (σ.1 (2 + c.toNat))
            have q11 := q.2 11 (by decide)
            have e8 : (apB σ c.toNat (fuB σ c.toNat (σ.2 (1 + a.toNat) s)) (σ.2 (6 + a.toNat) s)).1 8 = σ.1 8 := by rw [ap_1, if_neg (by omega)]
            have e7 : (apB σ c.toNat (fuB σ c.toNat (σ.2 (1 + a.toNat) s)) (σ.2 (6 + a.toNat) s)).1 7 = σ.1 7 := by rw [ap_1, if_neg (by omega)]
            have qX : eqM σ (sF (sF (apB σ c.toNat (fuB σ c.toNat (σ.2 (1 + a.toNat) s)) (σ.2 (6 + a.toNat) s)) 9 (σ.1 (2 + c.toNat))) 7 0) := (q.tr (eqM_sF (by decide))).tr (eqM_sF (by decide))
            have etf : ∀ τ, eqM σ τ → tfM τ (16 * a + s) c = tfM σ (16 * a + s) c := tfM_cg _ _
            have esg : sgM (sF (sF (apB σ c.toNat (fuB σ c.toNat (σ.2 (1 + a.toNat) s)) (σ.2 (6 + a.toNat) s)) 9 (σ.1 (2 + c.toNat))) 7 0) c (σ.2 16 (16 * a + s)) = -1 := by rw [sgM_cg qX.sy]; exact hno
            have hap := RC_ap hRX (b := c.toNat) (by omega) (s := σ.2 12 (16 * a + s)) (t := tfM σ (16 * a + s) c) (p := σ.2 14 (16 * a + s)) (m := σ.2 15 (16 * a + s)) (x := σ.2 16 (16 * a + s)) (by rw [Int.toNat_of_nonneg h5.1, ← qX.2 11 (by decide)]; omega) (by omega) hmn (by rw [Int.toNat_of_nonneg h5.1]; exact esg)
            rw [Int.toNat_of_nonneg h5.1] at hap
            have etb : tbW (sF (sF (apB σ c.toNat (fuB σ c.toNat (σ.2 (1 + a.toNat) s)) (σ.2 (6 + a.toNat) s)) 9 (σ.1 (2 + c.toNat))) 7 0) a c s = wrM (sF (sF (apB σ c.toNat (fuB σ c.toNat (σ.2 (1 + a.toNat) s)) (σ.2 (6 + a.toNat) s)) 9 (σ.1 (2 + c.toNat))) 7 0) c (σ.2 12 (16 * a + s)) (tfM σ (16 * a + s) c) (σ.2 14 (16 * a + s)) (σ.2 15 (16 * a + s)) (σ.2 16 (16 * a + s)) := by
              unfold tbW
              rw [etf _ qX, ← qX.2 12 (by decide), ← qX.2 14 (by decide), ← qX.2 15 (by decide), ← qX.2 16 (by decide)]
            have hap2 : RC (apB σ c.toNat (fuB σ c.toNat (σ.2 (1 + a.toNat) s)) (σ.2 (6 + a.toNat) s)) (tbW (sF (sF (apB σ c.toNat (fuB σ c.toNat (σ.2 (1 + a.toNat) s)) (σ.2 (6 + a.toNat) s)) 9 (σ.1 (2 + c.toNat))) 7 0) a c s) := by
              rw [etb, fu, eb.2]
              rw [fu, eb.2] at hap
              exact hap
            refine step_1 (k2 := 0) (n2 := 0) (r := σ.1 (2 + c.toNat)) (by decide) ?_ ?_ (wk_borrow hl g σ _ a s c _ (c_X3_borrow hl g σ hI a s c h hc hs hne ok.1 ok.2) ?_) (c_X4_borrow_ok hl g (sF (apB σ c.toNat (fuB σ c.toNat (σ.2 (1 + a.toNat) s)) (σ.2 (6 + a.toNat) s)) 9 (σ.1 (2 + c.toNat))) (IX hR q e7 _) a s c ⟨ra.1, ra.2, rs.1, rs.2, rc⟩ ?_ ⟨?_, ?_⟩ hne ?_) ?_ ?_ hap2 ?_
            · show (apB σ c.toNat (fuB σ c.toNat (σ.2 (1 + a.toNat) s)) (σ.2 (6 + a.toNat) s)).2 11 c = _
              rw [← q11]
              exact ecc.symm
            · show _ ∧ _; omega
            · show _ ∧ _; omega
            · show 0 ≤ c ∧ c < (apB σ c.toNat (fuB σ c.toNat (σ.2 (1 + a.toNat) s)) (σ.2 (6 + a.toNat) s)).1 8
              omega
            · show 0 ≤ a ∧ a < (apB σ c.toNat (fuB σ c.toNat (σ.2 (1 + a.toNat) s)) (σ.2 (6 + a.toNat) s)).1 8
              omega
            · show 0 ≤ s ∧ s < (apB σ c.toNat (fuB σ c.toNat (σ.2 (1 + a.toNat) s)) (σ.2 (6 + a.toNat) s)).2 11 a
              rw [← q11]
              omega
            · rw [etf _ (q.tr (eqM_sF (by decide)))]
              exact ht
            · rfl
            · rfl
            · rw [etb]
              exact eqC_wr
      · exact step_x hR 1 (by decide) (by decide) (wx1_borrow hl g σ a s c (x3_X3_borrow hl g σ hI a s c rs h hc hs)) (c_X4_borrow_b1 hl g σ hM a s c ⟨ra.1, ra.2, rs.1, rs.2, rc⟩ (fun w => hs (ec ▸ w.2.2))) rfl qc7 qm7
    · exact step_x hR 1 (by decide) (by decide) (wx1_borrow hl g σ a s c (x2_X3_borrow hl g σ hI a s c rc h hc)) (c_X4_borrow_b1 hl g σ hM a s c ⟨ra.1, ra.2, rs.1, rs.2, rc⟩ (fun w => hc (e0 ▸ w.1))) rfl qc7 qm7
  · exact step_x hR 1 (by decide) (by decide) (wx1_borrow hl g σ a s c (x1_X3_borrow hl g σ hI a s c ra h)) (c_X4_borrow_b1 hl g σ hM a s c ⟨ra.1, ra.2, rs.1, rs.2, rc⟩ (fun w => h (e0 ▸ w.2.1))) rfl qc7 qm7
set_option maxHeartbeats 4000000 in
set_option maxRecDepth 100000 in
theorem st_signFor {l : Launch} (hl : l.stackTraces = false) (g : GG) {σ : Sg} (hR : RC σ σ) (a x : Int) (ra : R32 a) (rx : R32 x) : StepP R32 (fun k9 n9 c9 τ9 => CW l yL_signFor cL_signFor 5 [(0, 10, 13, 19)] 8 134 k9 n9 g [.ref (gd g (0)), vI (a), vI (x), .ref (gd g (27))] σ (pt (some (vI c9)) τ9)) (fun τ9 k9 n9 r9 t9 => CN l yX4_signFor cX4_signFor 3 (some .int) 2 44 k9 n9 g [.ref (gd g (19)), vI (a), vI (x)] τ9 (pt (some (vI r9)) t9)) := by
  have hI := hR.1
  have hM := hR.2.1
  have e0 := hR.2.2.2.1
  have hG := hR.2.2.1
  have h8 := hM.1
  by_cases h : 0 ≤ a ∧ a < σ.1 0
  · have h4 : 0 ≤ a ∧ a < 4 := by omega
    have hB := RC_bk hR h4
    by_cases hx : 0 ≤ x ∧ x < 30
    · have hf := findB_rg hI (b := a.toNat) (by omega) x
      have hb := hI.2.2.2.1 a.toNat (by omega)
      refine step_0 hR (r := findB σ a.toNat x) (r' := sgM (sF (sF σ 9 (findB σ a.toNat x)) 7 0) a x) ?_ ?_ (wk_signFor hl g σ σ a x _ (c_X3_signFor hl g σ hI a x h hx) ?_) (c_X4_signFor_ok hl g (sF σ 9 (findB σ a.toNat x)) (IM_9 hM _) a x ⟨ra.1, ra.2, rx⟩ (e0 ▸ h) hx)
      · exact (findB_eq hB x).symm
      · show _ ∧ _; omega
      · show _ ∧ _; omega
    · exact step_x hR 1 (by decide) (by decide) (wx1_signFor hl g σ a x (x2_X3_signFor hl g σ hI a x rx h hx)) (c_X4_signFor_b1 hl g σ hM a x ⟨ra.1, ra.2, rx⟩ (fun w => hx w.2)) rfl qc7 qm7
  · exact step_x hR 1 (by decide) (by decide) (wx1_signFor hl g σ a x (x1_X3_signFor hl g σ hI a x ra h)) (c_X4_signFor_b1 hl g σ hM a x ⟨ra.1, ra.2, rx⟩ (fun w => h (e0 ▸ w.1))) rfl qc7 qm7
set_option maxHeartbeats 4000000 in
set_option maxRecDepth 100000 in
theorem st_apart {l : Launch} (hl : l.stackTraces = false) (g : GG) {σ : Sg} (hR : RC σ σ) (a s t : Int) (ra : R32 a) (rs : R32 s) (rt : R32 t) : StepP R32 (fun k9 n9 c9 τ9 => CW l yL_apart cL_apart 6 [(0, 12, 15, 19)] 8 135 k9 n9 g [.ref (gd g (0)), vI (a), vI (s), vI (t), .ref (gd g (27))] σ (pt (some (vI c9)) τ9)) (fun τ9 k9 n9 r9 t9 => CN l yX4_apart cX4_apart 4 (some .int) 4 91 k9 n9 g [.ref (gd g (19)), vI (a), vI (s), vI (t)] τ9 (pt (some (vI r9)) t9)) := by
  have hI := hR.1
  have hM := hR.2.1
  have e0 := hR.2.2.2.1
  have hG := hR.2.2.1
  have h8 := hM.1
  by_cases h : 0 ≤ a ∧ a < σ.1 0
  · have h4 : 0 ≤ a ∧ a < 4 := by omega
    have hB := RC_bk hR h4
    have hn := hM.2.2.1 a h4.1 h4.2
    have ec := hB.1
    by_cases hs : 0 ≤ s ∧ s < σ.1 (2 + a.toNat)
    · by_cases ht : 0 ≤ t ∧ t < σ.1 (2 + a.toNat)
      · have e1 := hB.2.1 s hs.1 (by omega)
        have e2 := hB.2.1 t ht.1 (by omega)
        have k1 := lkM_rg hM (k := 16 * a + s) (by omega)
        have k2 := lkM_rg hM (k := 16 * a + t) (by omega)
        have hd := dst_rg (G := σ.2 17) (x := lkM σ (16 * a + s)) (y := lkM σ (16 * a + t)) ⟨k1.1, k1.2, k2.1, k2.2⟩
        have hv : dst (σ.2 0) (σ.2 (1 + a.toNat) s) (σ.2 (1 + a.toNat) t) = dst (σ.2 17) (lkM σ (16 * a + s)) (lkM σ (16 * a + t)) := by rw [e1.1, e2.1, dst_eq hG k1 k2]
        refine step_0 hR (r := dst (σ.2 0) (σ.2 (1 + a.toNat) s) (σ.2 (1 + a.toNat) t)) (r' := dst ((sF (sF σ 9 (dst (σ.2 0) (σ.2 (1 + a.toNat) s) (σ.2 (1 + a.toNat) t))) 7 0).2 17) (lkM (sF (sF σ 9 (dst (σ.2 0) (σ.2 (1 + a.toNat) s) (σ.2 (1 + a.toNat) t))) 7 0) (16 * a + s)) (lkM (sF (sF σ 9 (dst (σ.2 0) (σ.2 (1 + a.toNat) s) (σ.2 (1 + a.toNat) t))) 7 0) (16 * a + t))) ?_ ?_ (wk_apart hl g σ σ a s t _ (c_X3_apart hl g σ hI a s t h hs ht) ?_) (c_X4_apart_ok hl g (sF σ 9 (dst (σ.2 0) (σ.2 (1 + a.toNat) s) (σ.2 (1 + a.toNat) t))) (IM_9 hM _) a s t ⟨ra.1, ra.2, rs.1, rs.2, rt⟩ ⟨e0 ▸ h, ec ▸ hs⟩ (ec ▸ ht))
        · exact hv.symm
        · show _ ∧ _; omega
        · show _ ∧ _; omega
      · exact step_x hR 1 (by decide) (by decide) (wx1_apart hl g σ a s t (x3_X3_apart hl g σ hI a s t rt h hs ht)) (c_X4_apart_b1 hl g σ hM a s t ⟨ra.1, ra.2, rs.1, rs.2, rt⟩ (fun w => ht (ec ▸ w.2))) rfl qc7 qm7
    · exact step_x hR 1 (by decide) (by decide) (wx1_apart hl g σ a s t (x2_X3_apart hl g σ hI a s t rs h hs)) (c_X4_apart_b1 hl g σ hM a s t ⟨ra.1, ra.2, rs.1, rs.2, rt⟩ (fun w => hs (ec ▸ w.1.2))) rfl qc7 qm7
  · exact step_x hR 1 (by decide) (by decide) (wx1_apart hl g σ a s t (x1_X3_apart hl g σ hI a s t ra h)) (c_X4_apart_b1 hl g σ hM a s t ⟨ra.1, ra.2, rs.1, rs.2, rt⟩ (fun w => h (e0 ▸ w.1.1))) rfl qc7 qm7
set_option maxHeartbeats 4000000 in
set_option maxRecDepth 100000 in
theorem st_read {l : Launch} (hl : l.stackTraces = false) (g : GG) {σ : Sg} (hR : RC σ σ) (a s c : Int) (ra : R32 a) (rs : R32 s) (rc : R32 c) : StepP R32 (fun k9 n9 c9 τ9 => CW l yL_read cL_read 6 [(0, 12, 15, 19)] 9 158 k9 n9 g [.ref (gd g (0)), vI (a), vI (s), vI (c), .ref (gd g (27))] σ (pt (some (vI c9)) τ9)) (fun τ9 k9 n9 r9 t9 => CN l yX4_read cX4_read 4 (some .int) 5 120 k9 n9 g [.ref (gd g (19)), vI (a), vI (s), vI (c)] τ9 (pt (some (vI r9)) t9)) := by
  have hI := hR.1
  have hM := hR.2.1
  have e0 := hR.2.2.2.1
  have hG := hR.2.2.1
  have h8 := hM.1
  by_cases hc : 0 ≤ c ∧ c < σ.1 0
  · have h5 : 0 ≤ c ∧ c < 4 := by omega
    have hC := RC_bk hR h5
    by_cases h : 0 ≤ a ∧ a < σ.1 0
    · have h4 : 0 ≤ a ∧ a < 4 := by omega
      have hB := RC_bk hR h4
      have hn := hM.2.2.1 a h4.1 h4.2
      have ec := hB.1
      by_cases hs : 0 ≤ s ∧ s < σ.1 (2 + a.toNat)
      · have e1 := hB.2.1 s hs.1 (by omega)
        have k1 := lkM_rg hM (k := 16 * a + s) (by omega)
        have hm := mrB_rg hI (b := c.toNat) (by omega) (σ.2 (1 + a.toNat) s)
        refine step_0 hR (r := mrB σ c.toNat (σ.2 (1 + a.toNat) s)) (r' := rdM (sF (sF σ 9 (mrB σ c.toNat (σ.2 (1 + a.toNat) s))) 7 0) (lkM (sF (sF σ 9 (mrB σ c.toNat (σ.2 (1 + a.toNat) s))) 7 0) (16 * a + s)) c) ?_ ?_ (wk_read hl g σ σ a s c _ (c_X3_read hl g σ hI a s c h hs hc) ?_) (c_X4_read_ok hl g (sF σ 9 (mrB σ c.toNat (σ.2 (1 + a.toNat) s))) (IM_9 hM _) a s c ⟨ra.1, ra.2, rs.1, rs.2, rc⟩ (e0 ▸ hc) ⟨e0 ▸ h, ec ▸ hs⟩)
        · exact (by show rdM σ (lkM σ (16 * a + s)) c = _; rw [e1.1]; exact (mrB_eq hM h5 hG hC k1).symm)
        · show _ ∧ _; omega
        · show _ ∧ _; omega
      · exact step_x hR 1 (by decide) (by decide) (wx1_read hl g σ a s c (x3_X3_read hl g σ hI a s c rs hc h hs)) (c_X4_read_b1 hl g σ hM a s c ⟨ra.1, ra.2, rs.1, rs.2, rc⟩ (fun w => hs (ec ▸ w.1.2))) rfl qc7 qm7
    · exact step_x hR 1 (by decide) (by decide) (wx1_read hl g σ a s c (x2_X3_read hl g σ hI a s c ra hc h)) (c_X4_read_b1 hl g σ hM a s c ⟨ra.1, ra.2, rs.1, rs.2, rc⟩ (fun w => h (e0 ▸ w.1.1))) rfl qc7 qm7
  · exact step_x hR 1 (by decide) (by decide) (wx1_read hl g σ a s c (x1_X3_read hl g σ hI a s c rc hc)) (c_X4_read_b1 hl g σ hM a s c ⟨ra.1, ra.2, rs.1, rs.2, rc⟩ (fun w => hc (e0 ▸ w.2))) rfl qc7 qm7
set_option maxHeartbeats 4000000 in
set_option maxRecDepth 100000 in
theorem st_readShown {l : Launch} (hl : l.stackTraces = false) (g : GG) {σ : Sg} (hR : RC σ σ) (sh th pl mv a : Int) (rsh : R32 sh) (rth : R32 th) (rpl : R32 pl) (rmv : R32 mv) (ra : R32 a) : StepP R32 (fun k9 n9 c9 τ9 => CW l yL_readShown cL_readShown 8 [(0, 16, 19, 19), (0, 16, 23, 21)] 8 139 k9 n9 g [.ref (gd g (0)), vI (sh), vI (th), vI (pl), vI (mv), vI (a), .ref (gd g (27))] σ (pt (some (vI c9)) τ9)) (fun τ9 k9 n9 r9 t9 => CN l yX4_readShown cX4_readShown 6 (some .int) 4 98 k9 n9 g [.ref (gd g (19)), vI (sh), vI (th), vI (pl), vI (mv), vI (a)] τ9 (pt (some (vI r9)) t9)) := by
  have hI := hR.1
  have hM := hR.2.1
  have e0 := hR.2.2.2.1
  have hG := hR.2.2.1
  have h8 := hM.1
  by_cases h : 0 ≤ a ∧ a < σ.1 0
  · have h4 : 0 ≤ a ∧ a < 4 := by omega
    have hB := RC_bk hR h4
    by_cases hp : 0 ≤ sh ∧ sh < 16 ∧ 0 ≤ th ∧ th < 4 ∧ 0 ≤ pl ∧ pl < 9 ∧ 0 ≤ mv ∧ mv < 4
    · have kL := mkL_rg hp
      have hm := mrB_rg hI (b := a.toNat) (by omega) (mkL sh th pl mv)
      refine step_0 hR (r := mrB σ a.toNat (mkL sh th pl mv)) (r' := rdM (sF (sF σ 9 (mrB σ a.toNat (mkL sh th pl mv))) 7 0) (mkL sh th pl mv) a) ?_ ?_ (wk_readShown hl g σ σ sh th pl mv a _ (c_X3_readShown hl g σ hI sh th pl mv a hp h) ?_) (c_X4_readShown_ok hl g (sF σ 9 (mrB σ a.toNat (mkL sh th pl mv))) (IM_9 hM _) sh th pl mv a ⟨rsh.1, rsh.2, rth.1, rth.2, rpl.1, rpl.2, rmv.1, rmv.2, ra⟩ (e0 ▸ h) hp)
      · exact (mrB_eq hM h4 hG hB kL).symm
      · show _ ∧ _; omega
      · show _ ∧ _; omega
    · exact step_x hR 2 (by decide) (by decide) (wx2_readShown hl g σ sh th pl mv a (x2_X3_readShown hl g σ hI sh th pl mv a ⟨rsh.1, rsh.2, rth.1, rth.2, rpl.1, rpl.2, rmv⟩ h hp)) (c_X4_readShown_b2 hl g σ hM sh th pl mv a ⟨rsh.1, rsh.2, rth.1, rth.2, rpl.1, rpl.2, rmv.1, rmv.2, ra⟩ (e0 ▸ h) hp) rfl qc7 qm7
  · exact step_x hR 1 (by decide) (by decide) (wx1_readShown hl g σ sh th pl mv a (x1_X3_readShown hl g σ hI sh th pl mv a ra h)) (c_X4_readShown_b1 hl g σ hM sh th pl mv a ⟨rsh.1, rsh.2, rth.1, rth.2, rpl.1, rpl.2, rmv.1, rmv.2, ra⟩ (e0 ▸ h)) rfl qc7 qm7
