/-! one call of both: what the law asks is so, and both go on alike -/
def StepP (Rg : Int → Prop) (WC : Nat → Nat → Int → Sg → Prop) (MC2 : Sg → Nat → Nat → Int → Sg → Prop) : Prop := ∃ (k1 n1 k2 n2 : Nat) (c r : Int) (τ1 τ2 : Sg), WC k1 n1 c τ1 ∧ MC2 τ1 k2 n2 r τ2 ∧ (k1 + k2 ≤ 68 ∧ n1 + n2 ≤ 340) ∧ (0 ≤ c ∧ c ≤ 3) ∧ τ2.1 7 = c ∧ (c = 0 → τ2.1 9 = r) ∧ Rg r ∧ RC τ2 τ2
theorem b03 : (0 : Int) ≤ 0 ∧ (0 : Int) ≤ 3 := by decide
abbrev R32 (r : Int) : Prop := -2147483648 ≤ r ∧ r < 2147483648
theorem IM_9 {σ : Sg} (hI : IM σ) (r : Int) : IM (sF σ 9 r) := IM_cg (eqM_sF (by decide)) hI.2.1 hI
theorem step_x {Rg : Int → Prop} {WC : Nat → Nat → Int → Sg → Prop} {MC2 : Sg → Nat → Nat → Int → Sg → Prop} {σ τ2 : Sg} (hR : RC σ σ) (c : Int) (hc : 1 ≤ c ∧ c ≤ 3) (h0 : Rg 0) (h1 : WC 1 6 c σ) (h2 : MC2 σ 0 0 0 τ2) (e7 : τ2.1 7 = c) (qc : eqC σ τ2) (qm : eqM σ τ2) : StepP Rg WC MC2 :=
  ⟨1, 6, 0, 0, c, 0, σ, τ2, h1, h2, by decide, by omega, e7, fun h => by omega, h0, RC_cg hR qc qm (by omega)⟩
theorem qc7 {σ : Sg} {c : Int} : eqC σ (sF (sF σ 7 0) 7 c) := (eqC_sF (by decide)).tr (eqC_sF (by decide))
theorem qm7 {σ : Sg} {c : Int} : eqM σ (sF (sF σ 7 0) 7 c) := (eqM_sF (by decide)).tr (eqM_sF (by decide))
theorem step_0 {Rg : Int → Prop} {WC : Nat → Nat → Int → Sg → Prop} {MC2 : Sg → Nat → Nat → Int → Sg → Prop} {σ : Sg} (hR : RC σ σ) {r r' : Int} (hrr : r' = r) (h0 : Rg r) (h1 : WC 0 0 0 (sF σ 9 r)) (h2 : MC2 (sF σ 9 r) 0 0 r' (sF (sF σ 9 r) 7 0)) : StepP Rg WC MC2 :=
  ⟨0, 0, 0, 0, 0, r', _, _, h1, h2, by decide, by decide, rfl, fun _ => hrr.symm, hrr ▸ h0, RC_cg hR ((eqC_sF (by decide)).tr (eqC_sF (by decide))) ((eqM_sF (by decide)).tr (eqM_sF (by decide))) b03⟩
theorem step_1 {Rg : Int → Prop} {WC : Nat → Nat → Int → Sg → Prop} {MC2 : Sg → Nat → Nat → Int → Sg → Prop} {σc τ2 : Sg} {r r' : Int} {k2 n2 : Nat} (hkn : k2 ≤ 68 ∧ n2 ≤ 340) (hrr : r' = r) (h0 : Rg r) (h1 : WC 0 0 0 (sF σc 9 r)) (h2 : MC2 (sF σc 9 r) k2 n2 r' τ2) (e7 : τ2.1 7 = 0) (e9 : τ2.1 9 = r) (hR : RC σc τ2) (qc : eqC (sF (sF σc 9 r) 7 0) τ2) : StepP Rg WC MC2 :=
  ⟨0, 0, k2, n2, 0, r', _, _, h1, h2, by omega, by decide, e7, fun _ => e9.trans hrr.symm, hrr ▸ h0, RC_cg hR (((eqC_sF (by decide)).tr (eqC_sF (by decide))).tr qc) (eqM.rf _) (by omega)⟩
/-- the reference's side of the state in which it is asked -/
theorem RX {σ σc : Sg} (hR : RC σ σ) (q : eqM σ σc) (r : Int) : RC σ (sF (sF σc 9 r) 7 0) := RC_cg hR (eqC.rf σ) ((q.tr (eqM_sF (by decide))).tr (eqM_sF (by decide))) b03
theorem IX {σ σc : Sg} (hR : RC σ σ) (q : eqM σ σc) (e7 : σc.1 7 = σ.1 7) (r : Int) : IM (sF σc 9 r) := IM_cg (q.tr (eqM_sF (by decide))) (by show 0 ≤ σc.1 7 ∧ σc.1 7 ≤ 3; rw [e7]; exact hR.2.1.2.1) hR.2.1
set_option maxHeartbeats 4000000 in
set_option maxRecDepth 100000 in
theorem st_signsOf {l : Launch} (hl : l.stackTraces = false) (g : GG) {σ : Sg} (hR : RC σ σ) (a : Int) (ra : R32 a) : StepP R32 (fun k9 n9 c9 τ9 => CW l yL_signsOf cL_signsOf 4 [(0, 9, 12, 19)] 8 132 k9 n9 g [.ref (gd g (0)), vI (a), .ref (gd g (27))] σ (pt (some (vI c9)) τ9)) (fun τ9 k9 n9 r9 t9 => CN l yX4_signsOf cX4_signsOf 2 (some .int) 2 43 k9 n9 g [.ref (gd g (19)), vI (a)] τ9 (pt (some (vI r9)) t9)) := by
  have hI := hR.1
  have hM := hR.2.1
  have e0 := hR.2.2.2.1
  have hG := hR.2.2.1
  have h8 := hM.1
  by_cases h : 0 ≤ a ∧ a < σ.1 0
  · have h4 : 0 ≤ a ∧ a < 4 := by omega
    have hB := RC_bk hR h4
    refine step_0 hR (r := σ.1 (2 + a.toNat)) (r' := (sF (sF σ 9 (σ.1 (2 + a.toNat))) 7 0).2 11 a) ?_ ?_ (wk_signsOf hl g σ σ a _ (c_X3_signsOf hl g σ hI a h) ?_) (c_X4_signsOf_ok hl g (sF σ 9 (σ.1 (2 + a.toNat))) (IM_9 hM _) a ra (e0 ▸ h))
    · exact hB.1.symm
    · have h := hI.2.2.2.1 a.toNat (by omega); show _ ∧ _; omega
    · have h := hI.2.2.2.1 a.toNat (by omega); show _ ∧ _; omega
  · exact step_x hR 1 (by decide) (by decide) (wx1_signsOf hl g σ a (x1_X3_signsOf hl g σ hI a ra h)) (c_X4_signsOf_b1 hl g σ hM a ra (e0 ▸ h)) rfl qc7 qm7
set_option maxHeartbeats 4000000 in
set_option maxRecDepth 100000 in
theorem st_alikePairs {l : Launch} (hl : l.stackTraces = false) (g : GG) {σ : Sg} (hR : RC σ σ) (a : Int) (ra : R32 a) : StepP R32 (fun k9 n9 c9 τ9 => CW l yL_alikePairs cL_alikePairs 4 [(0, 9, 12, 19)] 8 132 k9 n9 g [.ref (gd g (0)), vI (a), .ref (gd g (27))] σ (pt (some (vI c9)) τ9)) (fun τ9 k9 n9 r9 t9 => CN l yX4_alikePairs cX4_alikePairs 2 (some .int) 5 115 k9 n9 g [.ref (gd g (19)), vI (a)] τ9 (pt (some (vI r9)) t9)) := by
  have hI := hR.1
  have hM := hR.2.1
  have e0 := hR.2.2.2.1
  have hG := hR.2.2.1
  have h8 := hM.1
  by_cases h : 0 ≤ a ∧ a < σ.1 0
  · have h4 : 0 ≤ a ∧ a < 4 := by omega
    have hB := RC_bk hR h4
    refine step_0 hR (r := caB σ a.toNat) (r' := caM (sF (sF σ 9 (caB σ a.toNat)) 7 0) a) ?_ ?_ (wk_alikePairs hl g σ σ a _ (c_X3_alikePairs hl g σ hI a h) ?_) (c_X4_alikePairs_ok hl g (sF σ 9 (caB σ a.toNat)) (IM_9 hM _) a ra (e0 ▸ h))
    · exact (caB_eq hM h4 hG hB).symm
    · have h := pOB_rg (alC (σ.2 0) (lkB σ a.toNat)) hI (b := a.toNat) (by omega); unfold caB; show _ ∧ _; omega
    · have h := pOB_rg (alC (σ.2 0) (lkB σ a.toNat)) hI (b := a.toNat) (by omega); unfold caB; show _ ∧ _; omega
  · exact step_x hR 1 (by decide) (by decide) (wx1_alikePairs hl g σ a (x1_X3_alikePairs hl g σ hI a ra h)) (c_X4_alikePairs_b1 hl g σ hM a ra (e0 ▸ h)) rfl qc7 qm7
set_option maxHeartbeats 4000000 in
set_option maxRecDepth 100000 in
theorem st_thumbPairs {l : Launch} (hl : l.stackTraces = false) (g : GG) {σ : Sg} (hR : RC σ σ) (a : Int) (ra : R32 a) : StepP R32 (fun k9 n9 c9 τ9 => CW l yL_thumbPairs cL_thumbPairs 4 [(0, 9, 12, 19)] 8 132 k9 n9 g [.ref (gd g (0)), vI (a), .ref (gd g (27))] σ (pt (some (vI c9)) τ9)) (fun τ9 k9 n9 r9 t9 => CN l yX4_thumbPairs cX4_thumbPairs 2 (some .int) 5 115 k9 n9 g [.ref (gd g (19)), vI (a)] τ9 (pt (some (vI r9)) t9)) := by
  have hI := hR.1
  have hM := hR.2.1
  have e0 := hR.2.2.2.1
  have hG := hR.2.2.1
  have h8 := hM.1
  by_cases h : 0 ≤ a ∧ a < σ.1 0
  · have h4 : 0 ≤ a ∧ a < 4 := by omega
    have hB := RC_bk hR h4
    refine step_0 hR (r := ctB σ a.toNat) (r' := ctM (sF (sF σ 9 (ctB σ a.toNat)) 7 0) a) ?_ ?_ (wk_thumbPairs hl g σ σ a _ (c_X3_thumbPairs hl g σ hI a h) ?_) (c_X4_thumbPairs_ok hl g (sF σ 9 (ctB σ a.toNat)) (IM_9 hM _) a ra (e0 ▸ h))
    · exact (ctB_eq hM h4 hG hB).symm
    · have h := pOB_rg (taC (σ.2 0) (lkB σ a.toNat)) hI (b := a.toNat) (by omega); unfold ctB; show _ ∧ _; omega
    · have h := pOB_rg (taC (σ.2 0) (lkB σ a.toNat)) hI (b := a.toNat) (by omega); unfold ctB; show _ ∧ _; omega
  · exact step_x hR 1 (by decide) (by decide) (wx1_thumbPairs hl g σ a (x1_X3_thumbPairs hl g σ hI a ra h)) (c_X4_thumbPairs_b1 hl g σ hM a ra (e0 ▸ h)) rfl qc7 qm7
set_option maxHeartbeats 4000000 in
set_option maxRecDepth 100000 in
theorem st_closest {l : Launch} (hl : l.stackTraces = false) (g : GG) {σ : Sg} (hR : RC σ σ) (a : Int) (ra : R32 a) : StepP R32 (fun k9 n9 c9 τ9 => CW l yL_closest cL_closest 4 [(0, 9, 12, 19)] 8 138 k9 n9 g [.ref (gd g (0)), vI (a), .ref (gd g (27))] σ (pt (some (vI c9)) τ9)) (fun τ9 k9 n9 r9 t9 => CN l yX4_closest cX4_closest 2 (some .int) 5 115 k9 n9 g [.ref (gd g (19)), vI (a)] τ9 (pt (some (vI r9)) t9)) := by
  have hI := hR.1
  have hM := hR.2.1
  have e0 := hR.2.2.2.1
  have hG := hR.2.2.1
  have h8 := hM.1
  by_cases h : 0 ≤ a ∧ a < σ.1 0
  · have h4 : 0 ≤ a ∧ a < 4 := by omega
    have hB := RC_bk hR h4
    refine step_0 hR (r := faB σ a.toNat) (r' := nsM (sF (sF σ 9 (faB σ a.toNat)) 7 0) a) ?_ ?_ (wk_closest hl g σ σ a _ (c_X3_closest hl g σ hI a h) ?_) (c_X4_closest_ok hl g (sF σ 9 (faB σ a.toNat)) (IM_9 hM _) a ra (e0 ▸ h))
    · exact (faB_eq hM h4 hG hB).symm
    · have h := faB_rg hI (b := a.toNat) (by omega); show _ ∧ _; omega
    · have h := faB_rg hI (b := a.toNat) (by omega); show _ ∧ _; omega
  · exact step_x hR 1 (by decide) (by decide) (wx1_closest hl g σ a (x1_X3_closest hl g σ hI a ra h)) (c_X4_closest_b1 hl g σ hM a ra (e0 ▸ h)) rfl qc7 qm7
set_option maxHeartbeats 4000000 in
set_option maxRecDepth 100000 in
theorem st_mostMistaken {l : Launch} (hl : l.stackTraces = false) (g : GG) {σ : Sg} (hR : RC σ σ) (a : Int) (ra : R32 a) : StepP R32 (fun k9 n9 c9 τ9 => CW l yL_mostMistaken cL_mostMistaken 4 [(0, 9, 12, 19)] 8 139 k9 n9 g [.ref (gd g (0)), vI (a), .ref (gd g (27))] σ (pt (some (vI c9)) τ9)) (fun τ9 k9 n9 r9 t9 => CN l yX4_mostMistaken cX4_mostMistaken 2 (some .int) 5 117 k9 n9 g [.ref (gd g (19)), vI (a)] τ9 (pt (some (vI r9)) t9)) := by
  have hI := hR.1
  have hM := hR.2.1
  have e0 := hR.2.2.2.1
  have hG := hR.2.2.1
  have h8 := hM.1
  by_cases h : 0 ≤ a ∧ a < σ.1 0
  · have h4 : 0 ≤ a ∧ a < 4 := by omega
    have hB := RC_bk hR h4
    refine step_0 hR (r := snB σ a.toNat) (r' := miM (sF (sF σ 9 (snB σ a.toNat)) 7 0) a) ?_ ?_ (wk_mostMistaken hl g σ σ a _ (c_X3_mostMistaken hl g σ hI a h) ?_) (c_X4_mostMistaken_ok hl g (sF σ 9 (snB σ a.toNat)) (IM_9 hM _) a ra (e0 ▸ h))
    · exact (snB_eq hM h4 hG hB).symm
    · have h := snB_rg hI (b := a.toNat) (by omega); show _ ∧ _; omega
    · have h := snB_rg hI (b := a.toNat) (by omega); show _ ∧ _; omega
  · exact step_x hR 1 (by decide) (by decide) (wx1_mostMistaken hl g σ a (x1_X3_mostMistaken hl g σ hI a ra h)) (c_X4_mostMistaken_b1 hl g σ hM a ra (e0 ▸ h)) rfl qc7 qm7
set_option maxHeartbeats 4000000 in
set_option maxRecDepth 100000 in
theorem st_shapeOf {l : Launch} (hl : l.stackTraces = false) (g : GG) {σ : Sg} (hR : RC σ σ) (a s : Int) (ra : R32 a) (rs : R32 s) : StepP R32 (fun k9 n9 c9 τ9 => CW l yL_shapeOf cL_shapeOf 5 [(0, 10, 13, 19)] 9 156 k9 n9 g [.ref (gd g (0)), vI (a), vI (s), .ref (gd g (27))] σ (pt (some (vI c9)) τ9)) (fun τ9 k9 n9 r9 t9 => CN l yX4_shapeOf cX4_shapeOf 3 (some .int) 4 88 k9 n9 g [.ref (gd g (19)), vI (a), vI (s)] τ9 (pt (some (vI r9)) t9)) := by
  have hI := hR.1
  have hM := hR.2.1
  have e0 := hR.2.2.2.1
  have hG := hR.2.2.1
  have h8 := hM.1
  by_cases h : 0 ≤ a ∧ a < σ.1 0
  · have h4 : 0 ≤ a ∧ a < 4 := by omega
    have hB := RC_bk hR h4
    have hn := hM.2.2.1 a h4.1 h4.2
    have ec := hB.1
    by_cases hs : 0 ≤ s ∧ s < σ.1 (2 + a.toNat)
    · have eb := hB.2.1 s hs.1 (by omega)
      have hk := mk_sh (lkM_in hM (k := 16 * a + s) (by omega))
      have hlk := hI.2.2.2.2.1 a.toNat (by omega) s hs.1 (by omega)
      refine step_0 hR (r := σ.2 (1 + a.toNat) s % 16) (r' := (sF (sF σ 9 (σ.2 (1 + a.toNat) s % 16)) 7 0).2 12 (16 * a + s)) ?_ ?_ (wk_shapeOf hl g σ σ a s _ (c_X3_shapeOf hl g σ hI a s h hs) ?_) (c_X4_shapeOf_ok hl g (sF σ 9 (σ.2 (1 + a.toNat) s % 16)) (IM_9 hM _) a s ⟨ra.1, ra.2, rs⟩ ⟨e0 ▸ h, ec ▸ hs⟩)
      · exact (by show σ.2 12 (16 * a + s) = σ.2 (1 + a.toNat) s % 16; rw [eb.1]; exact hk.1.symm)
      · show _ ∧ _; omega
      · show _ ∧ _; omega
    · exact step_x hR 1 (by decide) (by decide) (wx1_shapeOf hl g σ a s (x2_X3_shapeOf hl g σ hI a s rs h hs)) (c_X4_shapeOf_b1 hl g σ hM a s ⟨ra.1, ra.2, rs⟩ (fun w => hs (ec ▸ w.2))) rfl qc7 qm7
  · exact step_x hR 1 (by decide) (by decide) (wx1_shapeOf hl g σ a s (x1_X3_shapeOf hl g σ hI a s ra h)) (c_X4_shapeOf_b1 hl g σ hM a s ⟨ra.1, ra.2, rs⟩ (fun w => h (e0 ▸ w.1))) rfl qc7 qm7
set_option maxHeartbeats 4000000 in
set_option maxRecDepth 100000 in
theorem st_thumbOf {l : Launch} (hl : l.stackTraces = false) (g : GG) {σ : Sg} (hR : RC σ σ) (a s : Int) (ra : R32 a) (rs : R32 s) : StepP R32 (fun k9 n9 c9 τ9 => CW l yL_thumbOf cL_thumbOf 5 [(0, 10, 13, 19)] 9 156 k9 n9 g [.ref (gd g (0)), vI (a), vI (s), .ref (gd g (27))] σ (pt (some (vI c9)) τ9)) (fun τ9 k9 n9 r9 t9 => CN l yX4_thumbOf cX4_thumbOf 3 (some .int) 4 88 k9 n9 g [.ref (gd g (19)), vI (a), vI (s)] τ9 (pt (some (vI r9)) t9)) := by
  have hI := hR.1
  have hM := hR.2.1
  have e0 := hR.2.2.2.1
  have hG := hR.2.2.1
  have h8 := hM.1
  by_cases h : 0 ≤ a ∧ a < σ.1 0
  · have h4 : 0 ≤ a ∧ a < 4 := by omega
    have hB := RC_bk hR h4
    have hn := hM.2.2.1 a h4.1 h4.2
    have ec := hB.1
    by_cases hs : 0 ≤ s ∧ s < σ.1 (2 + a.toNat)
    · have eb := hB.2.1 s hs.1 (by omega)
      have hk := mk_sh (lkM_in hM (k := 16 * a + s) (by omega))
      have hlk := hI.2.2.2.2.1 a.toNat (by omega) s hs.1 (by omega)
      refine step_0 hR (r := σ.2 (1 + a.toNat) s / 16 % 4) (r' := (sF (sF σ 9 (σ.2 (1 + a.toNat) s / 16 % 4)) 7 0).2 13 (16 * a + s)) ?_ ?_ (wk_thumbOf hl g σ σ a s _ (c_X3_thumbOf hl g σ hI a s h hs) ?_) (c_X4_thumbOf_ok hl g (sF σ 9 (σ.2 (1 + a.toNat) s / 16 % 4)) (IM_9 hM _) a s ⟨ra.1, ra.2, rs⟩ ⟨e0 ▸ h, ec ▸ hs⟩)
      · exact (by show σ.2 13 (16 * a + s) = σ.2 (1 + a.toNat) s / 16 % 4; rw [eb.1]; exact hk.2.1.symm)
      · show _ ∧ _; omega
      · show _ ∧ _; omega
    · exact step_x hR 1 (by decide) (by decide) (wx1_thumbOf hl g σ a s (x2_X3_thumbOf hl g σ hI a s rs h hs)) (c_X4_thumbOf_b1 hl g σ hM a s ⟨ra.1, ra.2, rs⟩ (fun w => hs (ec ▸ w.2))) rfl qc7 qm7
  · exact step_x hR 1 (by decide) (by decide) (wx1_thumbOf hl g σ a s (x1_X3_thumbOf hl g σ hI a s ra h)) (c_X4_thumbOf_b1 hl g σ hM a s ⟨ra.1, ra.2, rs⟩ (fun w => h (e0 ▸ w.1))) rfl qc7 qm7
set_option maxHeartbeats 4000000 in
set_option maxRecDepth 100000 in
theorem st_placeOf {l : Launch} (hl : l.stackTraces = false) (g : GG) {σ : Sg} (hR : RC σ σ) (a s : Int) (ra : R32 a) (rs : R32 s) : StepP R32 (fun k9 n9 c9 τ9 => CW l yL_placeOf cL_placeOf 5 [(0, 10, 13, 19)] 9 156 k9 n9 g [.ref (gd g (0)), vI (a), vI (s), .ref (gd g (27))] σ (pt (some (vI c9)) τ9)) (fun τ9 k9 n9 r9 t9 => CN l yX4_placeOf cX4_placeOf 3 (some .int) 4 88 k9 n9 g [.ref (gd g (19)), vI (a), vI (s)] τ9 (pt (some (vI r9)) t9)) := by
  have hI := hR.1
  have hM := hR.2.1
  have e0 := hR.2.2.2.1
  have hG := hR.2.2.1
  have h8 := hM.1
  by_cases h : 0 ≤ a ∧ a < σ.1 0
  · have h4 : 0 ≤ a ∧ a < 4 := by omega
    have hB := RC_bk hR h4
    have hn := hM.2.2.1 a h4.1 h4.2
    have ec := hB.1
    by_cases hs : 0 ≤ s ∧ s < σ.1 (2 + a.toNat)
    · have eb := hB.2.1 s hs.1 (by omega)
      have hk := mk_sh (lkM_in hM (k := 16 * a + s) (by omega))
      have hlk := hI.2.2.2.2.1 a.toNat (by omega) s hs.1 (by omega)
      refine step_0 hR (r := σ.2 (1 + a.toNat) s / 256) (r' := (sF (sF σ 9 (σ.2 (1 + a.toNat) s / 256)) 7 0).2 14 (16 * a + s)) ?_ ?_ (wk_placeOf hl g σ σ a s _ (c_X3_placeOf hl g σ hI a s h hs) ?_) (c_X4_placeOf_ok hl g (sF σ 9 (σ.2 (1 + a.toNat) s / 256)) (IM_9 hM _) a s ⟨ra.1, ra.2, rs⟩ ⟨e0 ▸ h, ec ▸ hs⟩)
      · exact (by show σ.2 14 (16 * a + s) = σ.2 (1 + a.toNat) s / 256; rw [eb.1]; exact hk.2.2.1.symm)
      · show _ ∧ _; omega
      · show _ ∧ _; omega
    · exact step_x hR 1 (by decide) (by decide) (wx1_placeOf hl g σ a s (x2_X3_placeOf hl g σ hI a s rs h hs)) (c_X4_placeOf_b1 hl g σ hM a s ⟨ra.1, ra.2, rs⟩ (fun w => hs (ec ▸ w.2))) rfl qc7 qm7
  · exact step_x hR 1 (by decide) (by decide) (wx1_placeOf hl g σ a s (x1_X3_placeOf hl g σ hI a s ra h)) (c_X4_placeOf_b1 hl g σ hM a s ⟨ra.1, ra.2, rs⟩ (fun w => h (e0 ▸ w.1))) rfl qc7 qm7
set_option maxHeartbeats 4000000 in
set_option maxRecDepth 100000 in
theorem st_meaningOf {l : Launch} (hl : l.stackTraces = false) (g : GG) {σ : Sg} (hR : RC σ σ) (a s : Int) (ra : R32 a) (rs : R32 s) : StepP R32 (fun k9 n9 c9 τ9 => CW l yL_meaningOf cL_meaningOf 5 [(0, 10, 13, 19)] 8 134 k9 n9 g [.ref (gd g (0)), vI (a), vI (s), .ref (gd g (27))] σ (pt (some (vI c9)) τ9)) (fun τ9 k9 n9 r9 t9 => CN l yX4_meaningOf cX4_meaningOf 3 (some .int) 4 88 k9 n9 g [.ref (gd g (19)), vI (a), vI (s)] τ9 (pt (some (vI r9)) t9)) := by
  have hI := hR.1
  have hM := hR.2.1
  have e0 := hR.2.2.2.1
  have hG := hR.2.2.1
  have h8 := hM.1
  by_cases h : 0 ≤ a ∧ a < σ.1 0
  · have h4 : 0 ≤ a ∧ a < 4 := by omega
    have hB := RC_bk hR h4
    have hn := hM.2.2.1 a h4.1 h4.2
    have ec := hB.1
    by_cases hs : 0 ≤ s ∧ s < σ.1 (2 + a.toNat)
    · have eb := hB.2.1 s hs.1 (by omega)
      have hk := mk_sh (lkM_in hM (k := 16 * a + s) (by omega))
      have hlk := hI.2.2.2.2.1 a.toNat (by omega) s hs.1 (by omega)
      refine step_0 hR (r := σ.2 (6 + a.toNat) s) (r' := (sF (sF σ 9 (σ.2 (6 + a.toNat) s)) 7 0).2 16 (16 * a + s)) ?_ ?_ (wk_meaningOf hl g σ σ a s _ (c_X3_meaningOf hl g σ hI a s h hs) ?_) (c_X4_meaningOf_ok hl g (sF σ 9 (σ.2 (6 + a.toNat) s)) (IM_9 hM _) a s ⟨ra.1, ra.2, rs⟩ ⟨e0 ▸ h, ec ▸ hs⟩)
      · exact eb.2.symm
      · have h := hI.2.2.2.2.2 a.toNat (by omega) s hs.1 (by omega); show _ ∧ _; omega
      · have h := hI.2.2.2.2.2 a.toNat (by omega) s hs.1 (by omega); show _ ∧ _; omega
    · exact step_x hR 1 (by decide) (by decide) (wx1_meaningOf hl g σ a s (x2_X3_meaningOf hl g σ hI a s rs h hs)) (c_X4_meaningOf_b1 hl g σ hM a s ⟨ra.1, ra.2, rs⟩ (fun w => hs (ec ▸ w.2))) rfl qc7 qm7
  · exact step_x hR 1 (by decide) (by decide) (wx1_meaningOf hl g σ a s (x1_X3_meaningOf hl g σ hI a s ra h)) (c_X4_meaningOf_b1 hl g σ hM a s ⟨ra.1, ra.2, rs⟩ (fun w => h (e0 ▸ w.1))) rfl qc7 qm7
set_option maxHeartbeats 4000000 in
set_option maxRecDepth 100000 in
theorem st_bestThumb {l : Launch} (hl : l.stackTraces = false) (g : GG) {σ : Sg} (hR : RC σ σ) (a s : Int) (ra : R32 a) (rs : R32 s) : StepP R32 (fun k9 n9 c9 τ9 => CW l yL_bestThumb cL_bestThumb 5 [(0, 10, 13, 19)] 8 144 k9 n9 g [.ref (gd g (0)), vI (a), vI (s), .ref (gd g (27))] σ (pt (some (vI c9)) τ9)) (fun τ9 k9 n9 r9 t9 => CN l yX4_bestThumb cX4_bestThumb 3 (some .int) 4 97 k9 n9 g [.ref (gd g (19)), vI (a), vI (s)] τ9 (pt (some (vI r9)) t9)) := by
  have hI := hR.1
  have hM := hR.2.1
  have e0 := hR.2.2.2.1
  have hG := hR.2.2.1
  have h8 := hM.1
  by_cases h : 0 ≤ a ∧ a < σ.1 0
  · have h4 : 0 ≤ a ∧ a < 4 := by omega
    have hB := RC_bk hR h4
    have hn := hM.2.2.1 a h4.1 h4.2
    have ec := hB.1
    by_cases hs : 0 ≤ s ∧ s < σ.1 (2 + a.toNat)
    · have eb := hB.2.1 s hs.1 (by omega)
      have hk := mk_sh (lkM_in hM (k := 16 * a + s) (by omega))
      have hlk := hI.2.2.2.2.1 a.toNat (by omega) s hs.1 (by omega)
      refine step_0 hR (r := tfB σ a.toNat s) (r' := btM (sF (sF σ 9 (tfB σ a.toNat s)) 7 0) a s) ?_ ?_ (wk_bestThumb hl g σ σ a s _ (c_X3_bestThumb hl g σ hI a s h hs) ?_) (c_X4_bestThumb_ok hl g (sF σ 9 (tfB σ a.toNat s)) (IM_9 hM _) a s ⟨ra.1, ra.2, rs⟩ ⟨e0 ▸ h, ec ▸ hs⟩)
      · exact (tfB_eq hM h4 hG hB ⟨hs.1, by omega⟩).symm
      · have h := tfB_rg hI (b := a.toNat) (by omega) (s := s) (by omega); show _ ∧ _; omega
      · have h := tfB_rg hI (b := a.toNat) (by omega) (s := s) (by omega); show _ ∧ _; omega
    · exact step_x hR 1 (by decide) (by decide) (wx1_bestThumb hl g σ a s (x2_X3_bestThumb hl g σ hI a s rs h hs)) (c_X4_bestThumb_b1 hl g σ hM a s ⟨ra.1, ra.2, rs⟩ (fun w => hs (ec ▸ w.2))) rfl qc7 qm7
  · exact step_x hR 1 (by decide) (by decide) (wx1_bestThumb hl g σ a s (x1_X3_bestThumb hl g σ hI a s ra h)) (c_X4_bestThumb_b1 hl g σ hM a s ⟨ra.1, ra.2, rs⟩ (fun w => h (e0 ▸ w.1))) rfl qc7 qm7
set_option maxHeartbeats 4000000 in
set_option maxRecDepth 100000 in
theorem st_forget {l : Launch} (hl : l.stackTraces = false) (g : GG) {σ : Sg} (hR : RC σ σ) (a s : Int) (ra : R32 a) (rs : R32 s) : StepP R32 (fun k9 n9 c9 τ9 => CW l yL_forget cL_forget 5 [(0, 10, 13, 19)] 8 134 k9 n9 g [.ref (gd g (0)), vI (a), vI (s), .ref (gd g (27))] σ (pt (some (vI c9)) τ9)) (fun τ9 k9 n9 r9 t9 => CN l yX4_forget cX4_forget 5 (some .int) 3 65 k9 n9 g [.ref (gd g (19)), vI (a), vI (s)] τ9 (pt (some (vI r9)) t9)) := by
  have hI := hR.1
  have hM := hR.2.1
  have e0 := hR.2.2.2.1
  have hG := hR.2.2.1
  have h8 := hM.1
  by_cases h : 0 ≤ a ∧ a < σ.1 0
  · have h4 : 0 ≤ a ∧ a < 4 := by omega
    have hB := RC_bk hR h4
    have hn := hM.2.2.1 a h4.1 h4.2
    have ec := hB.1
    by_cases hs : 0 ≤ s ∧ s < σ.1 (2 + a.toNat)
    · have eb := hB.2.1 s hs.1 (by omega)
      have hk := mk_sh (lkM_in hM (k := 16 * a + s) (by omega))
      have hlk := hI.2.2.2.2.1 a.toNat (by omega) s hs.1 (by omega)
      have hmn := hI.2.2.2.2.2 a.toNat (by omega) s hs.1 (by omega)
      have hRX := RX hR (eqM_rm (σ := σ) (b := a.toNat) (by omega) (s := s)) (σ.2 (6 + a.toNat) s)
      have hfg := RC_fg hRX (b := a.toNat) (by omega) (s := s) (by rw [Int.toNat_of_nonneg h4.1]; show 0 ≤ s ∧ s < (rmB σ a.toNat s).2 11 a; rw [← (eqM_rm (σ := σ) (b := a.toNat) (by omega) (s := s)).2 11 (by decide)]; omega)
      rw [Int.toNat_of_nonneg h4.1] at hfg
      have q11 := (eqM_rm (σ := σ) (b := a.toNat) (by omega) (s := s)).2 11 (by decide)
      refine step_1 (k2 := 0) (n2 := 0) (r := σ.2 (6 + a.toNat) s) (by decide) ?_ ?_ (wk_forget hl g σ _ a s _ (c_X3_forget hl g σ hI a s h hs) ?_) (c_X4_forget_ok hl g (sF (rmB σ a.toNat s) 9 (σ.2 (6 + a.toNat) s)) (IX hR (eqM_rm (by omega)) (by rw [rm_1, if_neg (by omega)]) _) a s ⟨ra.1, ra.2, rs⟩ ⟨?_, ?_⟩) ?_ ?_ hfg eqC_fg
      · show (rmB σ a.toNat s).2 16 (16 * a + s) = _
        rw [← (eqM_rm (σ := σ) (b := a.toNat) (by omega) (s := s)).2 16 (by decide)]
        exact eb.2.symm
      · show _ ∧ _; omega
      · show _ ∧ _; omega
      · show 0 ≤ a ∧ a < (rmB σ a.toNat s).1 8
        rw [rm_1, if_neg (by omega)]
        omega
      · show 0 ≤ s ∧ s < (rmB σ a.toNat s).2 11 a
        rw [← q11]
        omega
      · rw [fg_1]; rfl
      · rw [fg_1]; rfl
    · exact step_x hR 1 (by decide) (by decide) (wx1_forget hl g σ a s (x2_X3_forget hl g σ hI a s rs h hs)) (c_X4_forget_b1 hl g σ hM a s ⟨ra.1, ra.2, rs⟩ (fun w => hs (ec ▸ w.2))) rfl qc7 qm7
  · exact step_x hR 1 (by decide) (by decide) (wx1_forget hl g σ a s (x1_X3_forget hl g σ hI a s ra h)) (c_X4_forget_b1 hl g σ hM a s ⟨ra.1, ra.2, rs⟩ (fun w => h (e0 ▸ w.1))) rfl qc7 qm7
set_option maxHeartbeats 4000000 in
set_option maxRecDepth 100000 in
theorem st_understood {l : Launch} (hl : l.stackTraces = false) (g : GG) {σ : Sg} (hR : RC σ σ) (a c : Int) (ra : R32 a) (rc : R32 c) : StepP R32 (fun k9 n9 c9 τ9 => CW l yL_understood cL_understood 5 [(0, 10, 13, 19)] 8 142 k9 n9 g [.ref (gd g (0)), vI (a), vI (c), .ref (gd g (27))] σ (pt (some (vI c9)) τ9)) (fun τ9 k9 n9 r9 t9 => CN l yX4_understood cX4_understood 3 (some .int) 6 146 k9 n9 g [.ref (gd g (19)), vI (a), vI (c)] τ9 (pt (some (vI r9)) t9)) := by
  have hI := hR.1
  have hM := hR.2.1
  have e0 := hR.2.2.2.1
  have hG := hR.2.2.1
  have h8 := hM.1
  by_cases h : 0 ≤ a ∧ a < σ.1 0
  · have h4 : 0 ≤ a ∧ a < 4 := by omega
    have hB := RC_bk hR h4
    by_cases hc : 0 ≤ c ∧ c < σ.1 0
    · have h5 : 0 ≤ c ∧ c < 4 := by omega
      have hC := RC_bk hR h5
      refine step_0 hR (r := cuB σ c.toNat a.toNat) (r' := raM (sF (sF σ 9 (cuB σ c.toNat a.toNat)) 7 0) a c 1) ?_ ?_ (wk_understood hl g σ σ a c _ (c_X3_understood hl g σ hI a c h hc) ?_) (c_X4_understood_ok hl g (sF σ 9 (cuB σ c.toNat a.toNat)) (IM_9 hM _) a c ⟨ra.1, ra.2, rc⟩ (e0 ▸ h) (e0 ▸ hc))
      · exact (cuB_eq hM h5 h4 hG hC hB).symm
      · have h := cnt0_rg (unC σ c.toNat a.toNat) hI (b := a.toNat) (by omega); unfold cuB; show _ ∧ _; omega
      · have h := cnt0_rg (unC σ c.toNat a.toNat) hI (b := a.toNat) (by omega); unfold cuB; show _ ∧ _; omega
    · exact step_x hR 1 (by decide) (by decide) (wx1_understood hl g σ a c (x2_X3_understood hl g σ hI a c rc h hc)) (c_X4_understood_b1 hl g σ hM a c ⟨ra.1, ra.2, rc⟩ (fun w => hc (e0 ▸ w.2))) rfl qc7 qm7
  · exact step_x hR 1 (by decide) (by decide) (wx1_understood hl g σ a c (x1_X3_understood hl g σ hI a c ra h)) (c_X4_understood_b1 hl g σ hM a c ⟨ra.1, ra.2, rc⟩ (fun w => h (e0 ▸ w.1))) rfl qc7 qm7
set_option maxHeartbeats 4000000 in
set_option maxRecDepth 100000 in
theorem st_misread {l : Launch} (hl : l.stackTraces = false) (g : GG) {σ : Sg} (hR : RC σ σ) (a c : Int) (ra : R32 a) (rc : R32 c) : StepP R32 (fun k9 n9 c9 τ9 => CW l yL_misread cL_misread 5 [(0, 10, 13, 19)] 8 143 k9 n9 g [.ref (gd g (0)), vI (a), vI (c), .ref (gd g (27))] σ (pt (some (vI c9)) τ9)) (fun τ9 k9 n9 r9 t9 => CN l yX4_misread cX4_misread 3 (some .int) 6 146 k9 n9 g [.ref (gd g (19)), vI (a), vI (c)] τ9 (pt (some (vI r9)) t9)) := by
  have hI := hR.1
  have hM := hR.2.1
  have e0 := hR.2.2.2.1
  have hG := hR.2.2.1
  have h8 := hM.1
  by_cases h : 0 ≤ a ∧ a < σ.1 0
  · have h4 : 0 ≤ a ∧ a < 4 := by omega
    have hB := RC_bk hR h4
    by_cases hc : 0 ≤ c ∧ c < σ.1 0
    · have h5 : 0 ≤ c ∧ c < 4 := by omega
      have hC := RC_bk hR h5
      refine step_0 hR (r := cmB σ c.toNat a.toNat) (r' := raM (sF (sF σ 9 (cmB σ c.toNat a.toNat)) 7 0) a c 0) ?_ ?_ (wk_misread hl g σ σ a c _ (c_X3_misread hl g σ hI a c h hc) ?_) (c_X4_misread_ok hl g (sF σ 9 (cmB σ c.toNat a.toNat)) (IM_9 hM _) a c ⟨ra.1, ra.2, rc⟩ (e0 ▸ h) (e0 ▸ hc))
      · exact (cmB_eq hM h5 h4 hG hC hB).symm
      · have h := cnt0_rg (miC σ c.toNat a.toNat) hI (b := a.toNat) (by omega); unfold cmB; show _ ∧ _; omega
      · have h := cnt0_rg (miC σ c.toNat a.toNat) hI (b := a.toNat) (by omega); unfold cmB; show _ ∧ _; omega
    · exact step_x hR 1 (by decide) (by decide) (wx1_misread hl g σ a c (x2_X3_misread hl g σ hI a c rc h hc)) (c_X4_misread_b1 hl g σ hM a c ⟨ra.1, ra.2, rc⟩ (fun w => hc (e0 ▸ w.2))) rfl qc7 qm7
  · exact step_x hR 1 (by decide) (by decide) (wx1_misread hl g σ a c (x1_X3_misread hl g σ hI a c ra h)) (c_X4_misread_b1 hl g σ hM a c ⟨ra.1, ra.2, rc⟩ (fun w => h (e0 ▸ w.1))) rfl qc7 qm7
set_option maxHeartbeats 4000000 in
set_option maxRecDepth 100000 in
theorem st_common {l : Launch} (hl : l.stackTraces = false) (g : GG) {σ : Sg} (hR : RC σ σ) (a c : Int) (ra : R32 a) (rc : R32 c) : StepP R32 (fun k9 n9 c9 τ9 => CW l yL_common cL_common 5 [(0, 10, 13, 19)] 8 144 k9 n9 g [.ref (gd g (0)), vI (a), vI (c), .ref (gd g (27))] σ (pt (some (vI c9)) τ9)) (fun τ9 k9 n9 r9 t9 => CN l yX4_common cX4_common 6 (some .int) 5 120 k9 n9 g [.ref (gd g (19)), vI (a), vI (c)] τ9 (pt (some (vI r9)) t9)) := by
  have hI := hR.1
  have hM := hR.2.1
  have e0 := hR.2.2.2.1
  have hG := hR.2.2.1
  have h8 := hM.1
  by_cases h : 0 ≤ a ∧ a < σ.1 0
  · have h4 : 0 ≤ a ∧ a < 4 := by omega
    have hB := RC_bk hR h4
    by_cases hc : 0 ≤ c ∧ c < σ.1 0
    · have h5 : 0 ≤ c ∧ c < 4 := by omega
      have hC := RC_bk hR h5
      refine step_0 hR (r := ccB σ c.toNat a.toNat) (r' := cmM (sF (sF σ 9 (ccB σ c.toNat a.toNat)) 7 0) a c) ?_ ?_ (wk_common hl g σ σ a c _ (c_X3_common hl g σ hI a c h hc) ?_) (c_X4_common_ok hl g (sF σ 9 (ccB σ c.toNat a.toNat)) (IM_9 hM _) a c ⟨ra.1, ra.2, rc⟩ (e0 ▸ h) (e0 ▸ hc))
      · exact (ccB_eq hM h5 h4 hG hC hB).symm
      · have h := cnt0_rg (coC σ c.toNat a.toNat) hI (b := c.toNat) (by omega); unfold ccB; show _ ∧ _; omega
      · have h := cnt0_rg (coC σ c.toNat a.toNat) hI (b := c.toNat) (by omega); unfold ccB; show _ ∧ _; omega
    · exact step_x hR 1 (by decide) (by decide) (wx1_common hl g σ a c (x2_X3_common hl g σ hI a c rc h hc)) (c_X4_common_b1 hl g σ hM a c ⟨ra.1, ra.2, rc⟩ (fun w => hc (e0 ▸ w.2))) rfl qc7 qm7
  · exact step_x hR 1 (by decide) (by decide) (wx1_common hl g σ a c (x1_X3_common hl g σ hI a c ra h)) (c_X4_common_b1 hl g σ hM a c ⟨ra.1, ra.2, rc⟩ (fun w => h (e0 ▸ w.1))) rfl qc7 qm7
set_option maxHeartbeats 4000000 in
set_option maxRecDepth 100000 in
theorem st_bestToBorrow {l : Launch} (hl : l.stackTraces = false) (g : GG) {σ : Sg} (hR : RC σ σ) (a c : Int) (ra : R32 a) (rc : R32 c) : StepP R32 (fun k9 n9 c9 τ9 => CW l yL_bestToBorrow cL_bestToBorrow 5 [(0, 10, 13, 19)] 8 147 k9 n9 g [.ref (gd g (0)), vI (a), vI (c), .ref (gd g (27))] σ (pt (some (vI c9)) τ9)) (fun τ9 k9 n9 r9 t9 => CN l yX4_bestToBorrow cX4_bestToBorrow 3 (some .int) 7 174 k9 n9 g [.ref (gd g (19)), vI (a), vI (c)] τ9 (pt (some (vI r9)) t9)) := by
  have hI := hR.1
  have hM := hR.2.1
  have e0 := hR.2.2.2.1
  have hG := hR.2.2.1
  have h8 := hM.1
  by_cases h : 0 ≤ a ∧ a < σ.1 0
  · have h4 : 0 ≤ a ∧ a < 4 := by omega
    have hB := RC_bk hR h4
    by_cases hc : 0 ≤ c ∧ c < σ.1 0
    · have h5 : 0 ≤ c ∧ c < 4 := by omega
      have hC := RC_bk hR h5
      have hRX := RX hR (eqM_bb (σ := σ) (a := a) (c := c)) (bbB σ a c).1
      obtain ⟨b1, b2⟩ := RC_bb hRX h4 h5
      have hb := bbB_IC hI h hc
      have ht := tbM_IM (hRX.2.1) h4 h5
      have q8 := (eqM_bb (σ := σ) (a := a) (c := c)).1
      have q7 := hb.2.2.2 7 (by decide)
      refine step_1 (k2 := 0) (n2 := 0) (r := (bbB σ a c).1) (by decide) b1.symm ?_ (wk_bestToBorrow hl g σ _ a c _ (c_X3_bestToBorrow hl g σ hI a c h hc) ?_) (c_X4_bestToBorrow_ok hl g (sF (bbB σ a c).2 9 (bbB σ a c).1) (IX hR eqM_bb q7 _) a c ⟨ra.1, ra.2, rc⟩ ?_ ?_) ?_ ?_ b2 eqC_tb
      · show _ ∧ _; omega
      · show _ ∧ _; omega
      · show 0 ≤ a ∧ a < (bbB σ a c).2.1 8
        omega
      · show 0 ≤ c ∧ c < (bbB σ a c).2.1 8
        omega
      · rw [ht.2.2.2.1]; rfl
      · rw [ht.2.2.2.1]; rfl
    · exact step_x hR 1 (by decide) (by decide) (wx1_bestToBorrow hl g σ a c (x2_X3_bestToBorrow hl g σ hI a c rc h hc)) (c_X4_bestToBorrow_b1 hl g σ hM a c ⟨ra.1, ra.2, rc⟩ (fun w => hc (e0 ▸ w.2))) rfl qc7 qm7
  · exact step_x hR 1 (by decide) (by decide) (wx1_bestToBorrow hl g σ a c (x1_X3_bestToBorrow hl g σ hI a c ra h)) (c_X4_bestToBorrow_b1 hl g σ hM a c ⟨ra.1, ra.2, rc⟩ (fun w => h (e0 ▸ w.1))) rfl qc7 qm7
set_option maxHeartbeats 4000000 in
set_option maxRecDepth 100000 in
theorem st_steps {l : Launch} (hl : l.stackTraces = false) (g : GG) {σ : Sg} (hR : RC σ σ) (p q : Int) (rp : R32 p) (rq : R32 q) : StepP R32 (fun k9 n9 c9 τ9 => CW l yL_steps cL_steps 5 [(0, 10, 13, 19)] 8 132 k9 n9 g [.ref (gd g (0)), vI (p), vI (q), .ref (gd g (27))] σ (pt (some (vI c9)) τ9)) (fun τ9 k9 n9 r9 t9 => CN l yX4_steps cX4_steps 3 (some .int) 2 42 k9 n9 g [.ref (gd g (19)), vI (p), vI (q)] τ9 (pt (some (vI r9)) t9)) := by
  have hI := hR.1
  have hM := hR.2.1
  have e0 := hR.2.2.2.1
  have hG := hR.2.2.1
  have h8 := hM.1
  by_cases hp : 0 ≤ p ∧ p < 9
  · by_cases hq : 0 ≤ q ∧ q < 9
    · have h4 : 0 ≤ p ∧ p < 9 ∧ 0 ≤ q ∧ q < 9 := ⟨hp.1, hp.2, hq.1, hq.2⟩
      have hpq := hG.1 p q hp.1 hp.2 hq.1 hq.2
      refine step_0 hR (r := stp (σ.2 0) p q) (r' := stp ((sF (sF σ 9 (stp (σ.2 0) p q)) 7 0).2 17) p q) ?_ ?_ (wk_steps hl g σ σ p q _ (c_X3_steps hl g σ hI p q h4) ?_) (c_X4_steps_ok hl g (sF σ 9 (stp (σ.2 0) p q)) (IM_9 hM _) p q ⟨rp.1, rp.2, rq⟩ h4)
      · exact (show stp (σ.2 17) p q = stp (σ.2 0) p q by unfold stp; simp only [hpq])
      · have h := stp_rg (G := σ.2 0) h4; show _ ∧ _; omega
      · have h := stp_rg (G := σ.2 0) h4; show _ ∧ _; omega
    · exact step_x hR 1 (by decide) (by decide) (wx1_steps hl g σ p q (x2_X3_steps hl g σ hI p q rq hp hq)) (c_X4_steps_b1 hl g σ hM p q ⟨rp.1, rp.2, rq⟩ (fun w => hq w.2.2)) rfl qc7 qm7
  · exact step_x hR 1 (by decide) (by decide) (wx1_steps hl g σ p q (x1_X3_steps hl g σ hI p q rp hp)) (c_X4_steps_b1 hl g σ hM p q ⟨rp.1, rp.2, rq⟩ (fun w => hp ⟨w.1, w.2.1⟩)) rfl qc7 qm7
set_option maxHeartbeats 4000000 in
set_option maxRecDepth 100000 in
theorem st_areJoined {l : Launch} (hl : l.stackTraces = false) (g : GG) {σ : Sg} (hR : RC σ σ) (p q : Int) (rp : R32 p) (rq : R32 q) : StepP (fun r => r = 0 ∨ r = 1) (fun k9 n9 c9 τ9 => CW l yL_areJoined cL_areJoined 5 [(0, 17, 20, 19)] 8 132 k9 n9 g [.ref (gd g (0)), vI (p), vI (q), .ref (gd g (27))] σ (pt (some (vI c9)) τ9)) (fun τ9 k9 n9 r9 t9 => CN l yX4_areJoined cX4_areJoined 3 (some .boolean) 2 42 k9 n9 g [.ref (gd g (19)), vI (p), vI (q)] τ9 (pt (some (vI r9)) t9)) := by
  have hI := hR.1
  have hM := hR.2.1
  have e0 := hR.2.2.2.1
  have hG := hR.2.2.1
  have h8 := hM.1
  by_cases hp : 0 ≤ p ∧ p < 9
  · by_cases hq : 0 ≤ q ∧ q < 9
    · have h4 : 0 ≤ p ∧ p < 9 ∧ 0 ≤ q ∧ q < 9 := ⟨hp.1, hp.2, hq.1, hq.2⟩
      have hpq := hG.1 p q hp.1 hp.2 hq.1 hq.2
      refine step_0 hR (r := if σ.2 0 p = σ.2 0 q then 1 else 0) (r' := if (sF (sF σ 9 (if σ.2 0 p = σ.2 0 q then 1 else 0)) 7 0).2 17 p = (sF (sF σ 9 (if σ.2 0 p = σ.2 0 q then 1 else 0)) 7 0).2 17 q then 1 else 0) ?_ ?_ (wk_areJoined hl g σ σ p q _ (c_X3_areJoined hl g σ hI p q h4) ?_) (c_X4_areJoined_ok hl g (sF σ 9 (if σ.2 0 p = σ.2 0 q then 1 else 0)) (IM_9 hM _) p q ⟨rp.1, rp.2, rq⟩ h4)
      · exact (show (if σ.2 17 p = σ.2 17 q then (1 : Int) else 0) = if σ.2 0 p = σ.2 0 q then 1 else 0 by simp only [hpq])
      · show _ ∨ _; split <;> decide
      · show _ ∨ _; split <;> decide
    · exact step_x hR 1 (by decide) (Or.inl rfl) (wx1_areJoined hl g σ p q (x2_X3_areJoined hl g σ hI p q rq hp hq)) (c_X4_areJoined_b1 hl g σ hM p q ⟨rp.1, rp.2, rq⟩ (fun w => hq w.2.2)) rfl (eqC_sF (by decide)) (eqM_sF (by decide))
  · exact step_x hR 1 (by decide) (Or.inl rfl) (wx1_areJoined hl g σ p q (x1_X3_areJoined hl g σ hI p q rp hp)) (c_X4_areJoined_b1 hl g σ hM p q ⟨rp.1, rp.2, rq⟩ (fun w => hp ⟨w.1, w.2.1⟩)) rfl (eqC_sF (by decide)) (eqM_sF (by decide))
set_option maxHeartbeats 4000000 in
set_option maxRecDepth 100000 in
theorem st_join {l : Launch} (hl : l.stackTraces = false) (g : GG) {σ : Sg} (hR : RC σ σ) (p q : Int) (rp : R32 p) (rq : R32 q) : StepP R32 (fun k9 n9 c9 τ9 => CW l yL_join cL_join 5 [(0, 10, 13, 19)] 8 132 k9 n9 g [.ref (gd g (0)), vI (p), vI (q), .ref (gd g (27))] σ (pt (some (vI c9)) τ9)) (fun τ9 k9 n9 r9 t9 => CN l yX4_join cX4_join 3 (some .int) 2 46 k9 n9 g [.ref (gd g (19)), vI (p), vI (q)] τ9 (pt (some (vI r9)) t9)) := by
  have hI := hR.1
  have hM := hR.2.1
  have e0 := hR.2.2.2.1
  have hG := hR.2.2.1
  have h8 := hM.1
  by_cases hp : 0 ≤ p ∧ p < 9
  · by_cases hq : 0 ≤ q ∧ q < 9
    · have h4 : 0 ≤ p ∧ p < 9 ∧ 0 ≤ q ∧ q < 9 := ⟨hp.1, hp.2, hq.1, hq.2⟩
      have hpq := hG.1 p q hp.1 hp.2 hq.1 hq.2
      have hRX := RX hR (eqM_un (σ := σ) (a := p) (b := q)) ((unP σ p q).1 1)
      have hJ := RC_jn hRX h4
      have h1 := hJ.1.2.1
      refine step_1 (k2 := 0) (n2 := 0) (r := (unP σ p q).1 1) (by decide) hJ.2.2.1.2.2.symm ?_ (wk_join hl g σ _ p q _ (c_X3_join hl g σ hI p q h4) ?_) (c_X4_join_ok hl g (sF (unP σ p q) 9 ((unP σ p q).1 1)) (IX hR eqM_un (by rw [un_1, if_neg (by omega)]) _) p q ⟨rp.1, rp.2, rq⟩ h4) ?_ ?_ hJ eqC_jn
      · show _ ∧ _; omega
      · show _ ∧ _; omega
      · rw [jnM_1]; rfl
      · rw [jnM_1]; rfl
    · exact step_x hR 1 (by decide) (by decide) (wx1_join hl g σ p q (x2_X3_join hl g σ hI p q rq hp hq)) (c_X4_join_b1 hl g σ hM p q ⟨rp.1, rp.2, rq⟩ (fun w => hq w.2.2)) rfl qc7 qm7
  · exact step_x hR 1 (by decide) (by decide) (wx1_join hl g σ p q (x1_X3_join hl g σ hI p q rp hp)) (c_X4_join_b1 hl g σ hM p q ⟨rp.1, rp.2, rq⟩ (fun w => hp ⟨w.1, w.2.1⟩)) rfl qc7 qm7
set_option maxHeartbeats 4000000 in
set_option maxRecDepth 100000 in
theorem st_alikeIfJoined {l : Launch} (hl : l.stackTraces = false) (g : GG) {σ : Sg} (hR : RC σ σ) (p q : Int) (rp : R32 p) (rq : R32 q) : StepP R32 (fun k9 n9 c9 τ9 => CW l yL_alikeIfJoined cL_alikeIfJoined 5 [(0, 10, 13, 19)] 8 134 k9 n9 g [.ref (gd g (0)), vI (p), vI (q), .ref (gd g (27))] σ (pt (some (vI c9)) τ9)) (fun τ9 k9 n9 r9 t9 => CN l yX4_alikeIfJoined cX4_alikeIfJoined 6 (some .int) 5 115 k9 n9 g [.ref (gd g (19)), vI (p), vI (q)] τ9 (pt (some (vI r9)) t9)) := by
  have hI := hR.1
  have hM := hR.2.1
  have e0 := hR.2.2.2.1
  have hG := hR.2.2.1
  have h8 := hM.1
  by_cases hp : 0 ≤ p ∧ p < 9
  · by_cases hq : 0 ≤ q ∧ q < 9
    · have h4 : 0 ≤ p ∧ p < 9 ∧ 0 ≤ q ∧ q < 9 := ⟨hp.1, hp.2, hq.1, hq.2⟩
      have hpq := hG.1 p q hp.1 hp.2 hq.1 hq.2
      have hRX := RX hR (eqM.rf σ) (ajB σ p q)
      obtain ⟨j1, j2⟩ := aj_eq hRX h4
      have e17 : ∀ v, (ajM (sF (sF σ 9 (ajB σ p q)) 7 0) p q).2.1 v = (sF (sF σ 9 (ajB σ p q)) 7 0).1 v := fun v => congrFun (jnM_1 _ p q) v
      have hr : R32 (ajB σ p q) := by
        have key : ∀ (d : Nat) (z a : Int), 0 ≤ z → z + d ≤ 4 → a ≤ ajF σ p q d z a ∧ ajF σ p q d z a ≤ a + 256 * d := by
          intro d
          induction d with
          | zero => intro z a _ _; exact ⟨Int.le_refl _, by simp [ajF]⟩
          | succ d ih =>
            intro z a z0 z1
            have hc := pOB_rg (aiC (σ.2 0) (lkB σ z.toNat) p q) hI (b := z.toNat) (by omega)
            have h2 := ih (z + 1) (a + cajB σ z.toNat p q) (by omega) (by omega)
            rw [show ajF σ p q (d + 1) z a = ajF σ p q d (z + 1) (a + cajB σ z.toNat p q) from rfl]
            unfold cajB at h2 ⊢
            omega
        have h := key (σ.1 0).toNat 0 0 (by omega) (by omega)
        show _ ∧ _
        unfold ajB
        omega
      refine step_1 (k2 := 1) (n2 := 9) (r := ajB σ p q) (by decide) j1.symm hr (wk_alikeIfJoined hl g σ _ p q _ (c_X3_alikeIfJoined hl g σ hI p q h4) hr) (c_X4_alikeIfJoined_ok hl g (sF σ 9 (ajB σ p q)) (IM_9 hM _) p q ⟨hp, hq⟩) (e17 7) (e17 9) (RC_cg hRX (eqC.rf σ) j2 ?_) eqC_aj
      rw [e17 7]
      exact b03
    · exact step_x hR 1 (by decide) (by decide) (wx1_alikeIfJoined hl g σ p q (x2_X3_alikeIfJoined hl g σ hI p q rq hp hq)) (c_X4_alikeIfJoined_b1 hl g σ hM p q ⟨rp.1, rp.2, rq⟩ (fun w => hq w.2)) rfl qc7 qm7
  · exact step_x hR 1 (by decide) (by decide) (wx1_alikeIfJoined hl g σ p q (x1_X3_alikeIfJoined hl g σ hI p q rp hp)) (c_X4_alikeIfJoined_b1 hl g σ hM p q ⟨rp.1, rp.2, rq⟩ (fun w => hp w.1)) rfl qc7 qm7
