set_option maxHeartbeats 4000000 in
set_option maxRecDepth 100000 in
theorem lp_nearestBut {mc : MC} {g : GG} {σ : Sg} (hC : Cx mc g cX0_nearestBut RX0 5 (some .int)) (hR : mR mc = rmJ 3 71 0 0) (hI : IC σ) {b : Nat} (hb : b < 5) (s x : Int) (hs : -2147483648 ≤ s ∧ s < 2147483648) (hx : 0 ≤ x ∧ x < 2304) : ∀ (d : Nat) (z : Int) (a : Int), (0 ≤ z) → (z + (d : Int) = σ.1 (2 + b)) → (0 ≤ a ∧ a ≤ 100) → J mc g 0 0 (QN mc g (pt (some (vI (nbF (fun z => dst (σ.2 0) x (lkB σ b z)) s d z a))) (σ)) 0 0) 6 [(4, vI (z)), (3, vI (a)), (0, .ref (gd g (4 + b))), (1, vI (s)), (2, vI (x))] [] σ := by
  intro d
  induction d with
  | zero =>
    intro z a h0 hz ha
    have hn := hI.2.2.2.1 b hb
    refine j_iload hC dX0_nearestBut_6 0 rfl ?_
    refine j_aload_n hC dX0_nearestBut_8 2 rfl ?_
    refine j_get hC inX0 rfl (4 + b) (hw_bk g _ hb) 3 (by decide) wd49 rfl dX0_nearestBut_9 ?_
    refine j_icmp_ge (tgt := 47) hC dX0_nearestBut_12 (by decide) (by omega) (fun _ => ?_) (fun h => absurd h (by omega))
    refine j_iload_n hC dX0_nearestBut_47 1 rfl ?_
    exact j_iret hC dX0_nearestBut_48 ⟨rfl, rfl⟩
  | succ d ih =>
    intro z a h0 hz ha
    have hn := hI.2.2.2.1 b hb
    have hk := hI.2.2.2.2.1 b hb z (by omega) (by omega)
    have hd := dst_rg (G := σ.2 0) (x := x) (y := σ.2 (1 + b) z) ⟨hx.1, hx.2, hk.1, hk.2⟩
    rw [show nbF (fun z => dst (σ.2 0) x (lkB σ b z)) s (d + 1) z a = nbF (fun z => dst (σ.2 0) x (lkB σ b z)) s d (z + 1) (if z = s then a else if a ≤ dst (σ.2 0) x (σ.2 (1 + b) z) then a else dst (σ.2 0) x (σ.2 (1 + b) z)) from rfl]
    refine j_iload hC dX0_nearestBut_6 0 rfl ?_
    refine j_aload_n hC dX0_nearestBut_8 2 rfl ?_
    refine j_get hC inX0 rfl (4 + b) (hw_bk g _ hb) 3 (by decide) wd49 rfl dX0_nearestBut_9 ?_
    refine j_icmp_ge (tgt := 47) hC dX0_nearestBut_12 (by decide) (by omega) (fun h => absurd h (by omega)) (fun _ => ?_)
    refine j_iload hC dX0_nearestBut_15 0 rfl ?_
    refine j_iload_n hC dX0_nearestBut_17 3 rfl ?_
    refine j_icmp_eq (tgt := 41) hC dX0_nearestBut_18 (by decide) (by omega) (fun h18 => ?_) (fun h18 => ?_)
    · refine j_iinc hC dX0_nearestBut_41 0 [(4, vI (z + 1)), (3, vI (a)), (0, .ref (gd g (4 + b))), (1, vI (s)), (2, vI (x))] rfl (by decide) rfl ?_
      refine j_goto (tgt := 6) hC dX0_nearestBut_44 (by decide) ?_
      refine j_sub [0, 1, 2, 3, 4] rfl ?_
      first | (rw [if_pos h18]; exact ih (z + 1) a (by omega) (by omega) ha) | (rw [if_neg h18]; exact ih (z + 1) _ (by omega) (by omega) (by split <;> omega))
    · refine j_iload_n hC dX0_nearestBut_21 1 rfl ?_
      refine j_aload_n hC dX0_nearestBut_22 2 rfl ?_
      refine j_get hC inX0 rfl (4 + b) (hw_bk g _ hb) 0 (by decide) wd44 rfl dX0_nearestBut_23 ?_
      refine j_iload_n hC dX0_nearestBut_26 4 rfl ?_
      refine j_aload_n hC dX0_nearestBut_27 2 rfl ?_
      refine j_get hC inX0 rfl (4 + b) (hw_bk g _ hb) 1 (by decide) wd45 rfl dX0_nearestBut_28 ?_
      refine j_iload hC dX0_nearestBut_31 0 rfl ?_
      refine j_iald hC (9 + b) (hw_lk g _ hb) (by omega) dX0_nearestBut_33 ?_
      refine j_callVN1 (ar := 2) hC hR (c_X2_distance (hlJ hC) g σ hI x ((σ).2 (1 + b) z) (by omega)) [vI (a)] rfl 1 rfl rfl rfl (by decide) (by decide +kernel) rfl wd269 wd226 wp7 wd2 wd227 (by first | decide | omega) (Nat.le_of_ble_eq_true rfl) dX0_nearestBut_34 ?_
      refine j_min hC hR wd282 ⟨by decide, Nat.le_of_ble_eq_true rfl⟩ (by first | decide | omega) (by omega) dX0_nearestBut_37 ?_
      refine j_istore_n hC dX0_nearestBut_40 [(3, vI (if a ≤ dst (σ.2 0) x ((σ).2 (1 + b) z) then a else dst (σ.2 0) x ((σ).2 (1 + b) z))), (4, vI (z)), (0, .ref (gd g (4 + b))), (1, vI (s)), (2, vI (x))] (by decide) rfl ?_
      refine j_iinc hC dX0_nearestBut_41 1 [(4, vI (z + 1)), (3, vI (if a ≤ dst (σ.2 0) x ((σ).2 (1 + b) z) then a else dst (σ.2 0) x ((σ).2 (1 + b) z))), (0, .ref (gd g (4 + b))), (1, vI (s)), (2, vI (x))] rfl (by decide) rfl ?_
      refine j_goto (tgt := 6) hC dX0_nearestBut_44 (by decide) ?_
      refine j_sub [0, 1, 2, 3, 4] rfl ?_
      first | (rw [if_pos h18]; exact ih (z + 1) a (by omega) (by omega) ha) | (rw [if_neg h18]; exact ih (z + 1) _ (by omega) (by omega) (by split <;> omega))
set_option maxHeartbeats 4000000 in
set_option maxRecDepth 100000 in
theorem c_X0_nearestBut {l : Launch} (hl : l.stackTraces = false) (g : GG) (σ : Sg) (hI : IC σ) {b : Nat} (hb : b < 5) (s x : Int) (hs : -2147483648 ≤ s ∧ s < 2147483648) (hx : 0 ≤ x ∧ x < 2304) : CN l yX0_nearestBut cX0_nearestBut 5 (some .int) 3 71 0 0 g [.ref (gd g (4 + b)), vI (s), vI (x)] σ (pt (some (vI (nbB σ b s x))) (σ)) := by
  refine CN_of (own := RX0) hl (by decide) rfl (Nat.le_of_ble_eq_true rfl) (fun mc hC _ hR => ?_)
  refine j_lv (lv2 := [(0, .ref (gd g (4 + b))), (1, vI (s)), (2, vI (x))]) rfl ?_
  have hn2 := cN_eq hI hb
  refine j_bipush hC dX0_nearestBut_0 (by decide) ?_
  refine j_istore_n hC dX0_nearestBut_2 [(3, vI (100)), (0, .ref (gd g (4 + b))), (1, vI (s)), (2, vI (x))] (by decide) rfl ?_
  refine j_iconst hC dX0_nearestBut_3 ?_
  refine j_istore hC dX0_nearestBut_4 [(4, vI (0)), (3, vI (100)), (0, .ref (gd g (4 + b))), (1, vI (s)), (2, vI (x))] (by decide) rfl ?_
  refine j_sub [0, 1, 2, 3, 4] rfl ?_
  exact lp_nearestBut hC hR hI hb s x hs hx (cN σ b) 0 100 (by omega) (by omega) (by omega)
set_option maxHeartbeats 4000000 in
set_option maxRecDepth 100000 in
theorem lp_fewestApart {mc : MC} {g : GG} {σ : Sg} (hC : Cx mc g cX0_fewestApart RX0 3 (some .int)) (hR : mR mc = rmJ 4 95 0 0) (hI : IC σ) {b : Nat} (hb : b < 5) : ∀ (d : Nat) (z : Int) (a : Int), (0 ≤ z) → (z + (d : Int) = σ.1 (2 + b)) → (0 ≤ a ∧ a ≤ 100) → J mc g 0 0 (QN mc g (pt (some (vI (nbF (fun z => nbB σ b z (lkB σ b z)) (-1) d z a))) (σ)) 0 0) 15 [(2, vI (z)), (1, vI (a)), (0, .ref (gd g (4 + b)))] [] σ := by
  intro d
  induction d with
  | zero =>
    intro z a h0 hz ha
    have hn := hI.2.2.2.1 b hb
    refine j_iload_n hC dX0_fewestApart_15 0 rfl ?_
    refine j_aload_n hC dX0_fewestApart_16 2 rfl ?_
    refine j_get hC inX0 rfl (4 + b) (hw_bk g _ hb) 3 (by decide) wd49 rfl dX0_fewestApart_17 ?_
    refine j_icmp_ge (tgt := 45) hC dX0_fewestApart_20 (by decide) (by omega) (fun _ => ?_) (fun h => absurd h (by omega))
    refine j_iload_n hC dX0_fewestApart_45 1 rfl ?_
    exact j_iret hC dX0_fewestApart_46 ⟨rfl, rfl⟩
  | succ d ih =>
    intro z a h0 hz ha
    have hn := hI.2.2.2.1 b hb
    have hk := hI.2.2.2.2.1 b hb z (by omega) (by omega)
    rw [show nbF (fun z => nbB σ b z (lkB σ b z)) (-1) (d + 1) z a = nbF (fun z => nbB σ b z (lkB σ b z)) (-1) d (z + 1) (if z = -1 then a else if a ≤ nbB σ b z (σ.2 (1 + b) z) then a else nbB σ b z (σ.2 (1 + b) z)) from rfl, if_neg (show ¬ z = -1 by omega)]
    refine j_iload_n hC dX0_fewestApart_15 0 rfl ?_
    refine j_aload_n hC dX0_fewestApart_16 2 rfl ?_
    refine j_get hC inX0 rfl (4 + b) (hw_bk g _ hb) 3 (by decide) wd49 rfl dX0_fewestApart_17 ?_
    refine j_icmp_ge (tgt := 45) hC dX0_fewestApart_20 (by decide) (by omega) (fun h => absurd h (by omega)) (fun _ => ?_)
    refine j_iload_n hC dX0_fewestApart_23 1 rfl ?_
    refine j_aload_n hC dX0_fewestApart_24 2 rfl ?_
    refine j_iload_n hC dX0_fewestApart_25 0 rfl ?_
    refine j_aload_n hC dX0_fewestApart_26 2 rfl ?_
    refine j_get hC inX0 rfl (4 + b) (hw_bk g _ hb) 1 (by decide) wd45 rfl dX0_fewestApart_27 ?_
    refine j_iload_n hC dX0_fewestApart_30 0 rfl ?_
    refine j_iald hC (9 + b) (hw_lk g _ hb) (by omega) dX0_fewestApart_31 ?_
    refine j_callV1 (ar := 2) hC hR (c_X0_nearestBut (hlJ hC) g σ hI hb z ((σ).2 (1 + b) z) (by omega) (by omega)) [vI (a)] rfl (4 + b) (hw_bk g _ hb) rfl rfl (by decide) (by decide +kernel) rfl wd278 wd280 wp12 wd3 wd281 (by first | decide | omega) (Nat.le_of_ble_eq_true rfl) dX0_fewestApart_32 ?_
    have hf32 := nbB_rg hI hb z (L := ((σ).2 (1 + b) z)) (by omega)
    refine j_min hC hR wd282 ⟨by decide, Nat.le_of_ble_eq_true rfl⟩ (by first | decide | omega) (by omega) dX0_fewestApart_35 ?_
    refine j_istore_n hC dX0_fewestApart_38 [(1, vI (if a ≤ nbB σ b z ((σ).2 (1 + b) z) then a else nbB σ b z ((σ).2 (1 + b) z))), (2, vI (z)), (0, .ref (gd g (4 + b)))] (by decide) rfl ?_
    refine j_iinc hC dX0_fewestApart_39 1 [(2, vI (z + 1)), (1, vI (if a ≤ nbB σ b z ((σ).2 (1 + b) z) then a else nbB σ b z ((σ).2 (1 + b) z))), (0, .ref (gd g (4 + b)))] rfl (by decide) rfl ?_
    refine j_goto (tgt := 15) hC dX0_fewestApart_42 (by decide) ?_
    refine j_sub [0, 1, 2] rfl ?_
    exact ih (z + 1) _ (by omega) (by omega) (by split <;> omega)
set_option maxHeartbeats 4000000 in
set_option maxRecDepth 100000 in
theorem c_X0_fewestApart {l : Launch} (hl : l.stackTraces = false) (g : GG) (σ : Sg) (hI : IC σ) {b : Nat} (hb : b < 5) : CN l yX0_fewestApart cX0_fewestApart 3 (some .int) 4 95 0 0 g [.ref (gd g (4 + b))] σ (pt (some (vI (faB σ b))) (σ)) := by
  refine CN_of (own := RX0) hl (by decide) rfl (Nat.le_of_ble_eq_true rfl) (fun mc hC _ hR => ?_)
  refine j_lv (lv2 := [(0, .ref (gd g (4 + b)))]) rfl ?_
  have hn2 := cN_eq hI hb
  have hn := hI.2.2.2.1 b hb
  refine j_aload_n hC dX0_fewestApart_0 0 rfl ?_
  refine j_get hC inX0 rfl (4 + b) (hw_bk g _ hb) 3 (by decide) wd49 rfl dX0_fewestApart_1 ?_
  refine j_iconst hC dX0_fewestApart_4 ?_
  refine j_icmp_ge (tgt := 10) hC dX0_fewestApart_5 (by decide) (by omega) (fun h5 => ?_) (fun h5 => ?_)
  · refine j_bipush hC dX0_fewestApart_10 (by decide) ?_
    refine j_istore_n hC dX0_fewestApart_12 [(1, vI (100)), (0, .ref (gd g (4 + b)))] (by decide) rfl ?_
    refine j_iconst hC dX0_fewestApart_13 ?_
    refine j_istore_n hC dX0_fewestApart_14 [(2, vI (0)), (1, vI (100)), (0, .ref (gd g (4 + b)))] (by decide) rfl ?_
    refine j_sub [0, 1, 2] rfl ?_
    rw [show faB σ b = nbF (fun z => nbB σ b z (lkB σ b z)) (-1) (cN σ b) 0 100 from if_neg (by omega)]
    exact lp_fewestApart hC hR hI hb (cN σ b) 0 100 (by omega) (by omega) (by omega)
  · refine j_iconst hC dX0_fewestApart_8 ?_
    exact j_iret hC dX0_fewestApart_9 ⟨by unfold faB; rw [if_pos h5], rfl⟩
set_option maxHeartbeats 4000000 in
set_option maxRecDepth 100000 in
theorem lp_countNear {mc : MC} {g : GG} {σ : Sg} (hC : Cx mc g cX0_countNear RX0 4 (some .int)) (hR : mR mc = rmJ 3 71 0 0) (hI : IC σ) {b : Nat} (hb : b < 5) (s : Int) (hs : 0 ≤ s ∧ s < σ.1 (2 + b)) : ∀ (d : Nat) (z : Int) (a : Int), (0 ≤ z) → (z + (d : Int) = σ.1 (2 + b)) → J mc g 0 0 (QN mc g (pt (some (vI (cnt (nrC (σ.2 0) (lkB σ b) s) d z a))) (σ)) 0 0) 4 [(3, vI (z)), (2, vI (a)), (0, .ref (gd g (4 + b))), (1, vI (s))] [] σ := by
  intro d
  induction d with
  | zero =>
    intro z a h0 hz
    have hn := hI.2.2.2.1 b hb
    refine j_iload_n hC dX0_countNear_4 0 rfl ?_
    refine j_aload_n hC dX0_countNear_5 2 rfl ?_
    refine j_get hC inX0 rfl (4 + b) (hw_bk g _ hb) 3 (by decide) wd49 rfl dX0_countNear_6 ?_
    refine j_icmp_ge (tgt := 49) hC dX0_countNear_9 (by decide) (by omega) (fun _ => ?_) (fun h => absurd h (by omega))
    refine j_iload_n hC dX0_countNear_49 1 rfl ?_
    exact j_iret hC dX0_countNear_50 ⟨rfl, rfl⟩
  | succ d ih =>
    intro z a h0 hz
    have hn := hI.2.2.2.1 b hb
    have hk := hI.2.2.2.2.1 b hb z (by omega) (by omega)
    have hk2 := hI.2.2.2.2.1 b hb s (by omega) (by omega)
    have hd := dst_rg (G := σ.2 0) (x := σ.2 (1 + b) s) (y := σ.2 (1 + b) z) ⟨hk2.1, hk2.2, hk.1, hk.2⟩
    rw [show cnt (nrC (σ.2 0) (lkB σ b) s) (d + 1) z a = cnt (nrC (σ.2 0) (lkB σ b) s) d (z + 1) (if nrC (σ.2 0) (lkB σ b) s z = true then a + 1 else a) from rfl]
    refine j_iload_n hC dX0_countNear_4 0 rfl ?_
    refine j_aload_n hC dX0_countNear_5 2 rfl ?_
    refine j_get hC inX0 rfl (4 + b) (hw_bk g _ hb) 3 (by decide) wd49 rfl dX0_countNear_6 ?_
    refine j_icmp_ge (tgt := 49) hC dX0_countNear_9 (by decide) (by omega) (fun h => absurd h (by omega)) (fun _ => ?_)
    refine j_iload_n hC dX0_countNear_12 0 rfl ?_
    refine j_iload_n hC dX0_countNear_13 3 rfl ?_
    refine j_icmp_eq (tgt := 43) hC dX0_countNear_14 (by decide) (by omega) (fun h14 => ?_) (fun h14 => ?_)
    · refine j_iinc hC dX0_countNear_43 0 [(3, vI (z + 1)), (2, vI (a)), (0, .ref (gd g (4 + b))), (1, vI (s))] rfl (by decide) rfl ?_
      refine j_goto (tgt := 4) hC dX0_countNear_46 (by decide) ?_
      refine j_sub [0, 1, 2, 3] rfl ?_
      first | (rw [if_pos (show nrC (σ.2 0) (lkB σ b) s z = true from decide_eq_true ⟨h14, h37⟩)]; exact ih (z + 1) (a + 1) (by omega) (by omega)) | (rw [if_neg (show ¬ (nrC (σ.2 0) (lkB σ b) s z = true) from fun q => (of_decide_eq_true q).1 h14)]; exact ih (z + 1) a (by omega) (by omega)) | (rw [if_neg (show ¬ (nrC (σ.2 0) (lkB σ b) s z = true) from fun q => absurd (show dst (σ.2 0) (σ.2 (1 + b) s) (σ.2 (1 + b) z) ≤ 3 from (of_decide_eq_true q).2) (by omega))]; exact ih (z + 1) a (by omega) (by omega))
    · refine j_aload_n hC dX0_countNear_17 2 rfl ?_
      refine j_get hC inX0 rfl (4 + b) (hw_bk g _ hb) 0 (by decide) wd44 rfl dX0_countNear_18 ?_
      refine j_aload_n hC dX0_countNear_21 2 rfl ?_
      refine j_get hC inX0 rfl (4 + b) (hw_bk g _ hb) 1 (by decide) wd45 rfl dX0_countNear_22 ?_
      refine j_iload_n hC dX0_countNear_25 3 rfl ?_
      refine j_iald hC (9 + b) (hw_lk g _ hb) (by omega) dX0_countNear_26 ?_
      refine j_aload_n hC dX0_countNear_27 2 rfl ?_
      refine j_get hC inX0 rfl (4 + b) (hw_bk g _ hb) 1 (by decide) wd45 rfl dX0_countNear_28 ?_
      refine j_iload_n hC dX0_countNear_31 0 rfl ?_
      refine j_iald hC (9 + b) (hw_lk g _ hb) (by omega) dX0_countNear_32 ?_
      refine j_callVN1 (ar := 2) hC hR (c_X2_distance (hlJ hC) g σ hI ((σ).2 (1 + b) s) ((σ).2 (1 + b) z) (by omega)) [] rfl 1 rfl rfl rfl (by decide) (by decide +kernel) rfl wd269 wd226 wp7 wd2 wd227 (by first | decide | omega) (Nat.le_of_ble_eq_true rfl) dX0_countNear_33 ?_
      refine j_iconst hC dX0_countNear_36 ?_
      refine j_icmp_gt (tgt := 43) hC dX0_countNear_37 (by decide) (by omega) (fun h37 => ?_) (fun h37 => ?_)
      · refine j_iinc hC dX0_countNear_43 0 [(3, vI (z + 1)), (2, vI (a)), (0, .ref (gd g (4 + b))), (1, vI (s))] rfl (by decide) rfl ?_
        refine j_goto (tgt := 4) hC dX0_countNear_46 (by decide) ?_
        refine j_sub [0, 1, 2, 3] rfl ?_
        first | (rw [if_pos (show nrC (σ.2 0) (lkB σ b) s z = true from decide_eq_true ⟨h14, h37⟩)]; exact ih (z + 1) (a + 1) (by omega) (by omega)) | (rw [if_neg (show ¬ (nrC (σ.2 0) (lkB σ b) s z = true) from fun q => (of_decide_eq_true q).1 h14)]; exact ih (z + 1) a (by omega) (by omega)) | (rw [if_neg (show ¬ (nrC (σ.2 0) (lkB σ b) s z = true) from fun q => absurd (show dst (σ.2 0) (σ.2 (1 + b) s) (σ.2 (1 + b) z) ≤ 3 from (of_decide_eq_true q).2) (by omega))]; exact ih (z + 1) a (by omega) (by omega))
      · refine j_iinc hC dX0_countNear_40 1 [(2, vI (a + 1)), (3, vI (z)), (0, .ref (gd g (4 + b))), (1, vI (s))] rfl (by decide) rfl ?_
        refine j_iinc hC dX0_countNear_43 1 [(3, vI (z + 1)), (2, vI (a + 1)), (0, .ref (gd g (4 + b))), (1, vI (s))] rfl (by decide) rfl ?_
        refine j_goto (tgt := 4) hC dX0_countNear_46 (by decide) ?_
        refine j_sub [0, 1, 2, 3] rfl ?_
        first | (rw [if_pos (show nrC (σ.2 0) (lkB σ b) s z = true from decide_eq_true ⟨h14, h37⟩)]; exact ih (z + 1) (a + 1) (by omega) (by omega)) | (rw [if_neg (show ¬ (nrC (σ.2 0) (lkB σ b) s z = true) from fun q => (of_decide_eq_true q).1 h14)]; exact ih (z + 1) a (by omega) (by omega)) | (rw [if_neg (show ¬ (nrC (σ.2 0) (lkB σ b) s z = true) from fun q => absurd (show dst (σ.2 0) (σ.2 (1 + b) s) (σ.2 (1 + b) z) ≤ 3 from (of_decide_eq_true q).2) (by omega))]; exact ih (z + 1) a (by omega) (by omega))
set_option maxHeartbeats 4000000 in
set_option maxRecDepth 100000 in
theorem c_X0_countNear {l : Launch} (hl : l.stackTraces = false) (g : GG) (σ : Sg) (hI : IC σ) {b : Nat} (hb : b < 5) (s : Int) (hs : 0 ≤ s ∧ s < σ.1 (2 + b)) : CN l yX0_countNear cX0_countNear 4 (some .int) 3 71 0 0 g [.ref (gd g (4 + b)), vI (s)] σ (pt (some (vI (cnB σ b s))) (σ)) := by
  refine CN_of (own := RX0) hl (by decide) rfl (Nat.le_of_ble_eq_true rfl) (fun mc hC _ hR => ?_)
  refine j_lv (lv2 := [(0, .ref (gd g (4 + b))), (1, vI (s))]) rfl ?_
  have hn2 := cN_eq hI hb
  refine j_iconst hC dX0_countNear_0 ?_
  refine j_istore_n hC dX0_countNear_1 [(2, vI (0)), (0, .ref (gd g (4 + b))), (1, vI (s))] (by decide) rfl ?_
  refine j_iconst hC dX0_countNear_2 ?_
  refine j_istore_n hC dX0_countNear_3 [(3, vI (0)), (2, vI (0)), (0, .ref (gd g (4 + b))), (1, vI (s))] (by decide) rfl ?_
  refine j_sub [0, 1, 2, 3] rfl ?_
  exact lp_countNear hC hR hI hb s hs (cN σ b) 0 0 (by omega) (by omega)
set_option maxHeartbeats 4000000 in
set_option maxRecDepth 100000 in
theorem lp_signNearMost {mc : MC} {g : GG} {σ : Sg} (hC : Cx mc g cX0_signNearMost RX0 5 (some .int)) (hR : mR mc = rmJ 4 94 0 0) (hI : IC σ) {b : Nat} (hb : b < 5) : ∀ (d : Nat) (z : Int) (fo : Int) (mo : Int), (0 ≤ z) → (z + (d : Int) = σ.1 (2 + b)) → (-1 ≤ mo ∧ mo ≤ 16) → J mc g 0 0 (QN mc g (pt (some (vI (amF (fun z => cnB σ b z) d z fo mo))) (σ)) 0 0) 6 [(3, vI (z)), (1, vI (fo)), (2, vI (mo)), (0, .ref (gd g (4 + b)))] [] σ := by
  intro d
  induction d with
  | zero =>
    intro z fo mo h0 hz hm
    have hn := hI.2.2.2.1 b hb
    refine j_iload_n hC dX0_signNearMost_6 0 rfl ?_
    refine j_aload_n hC dX0_signNearMost_7 3 rfl ?_
    refine j_get hC inX0 rfl (4 + b) (hw_bk g _ hb) 3 (by decide) wd49 rfl dX0_signNearMost_8 ?_
    refine j_icmp_ge (tgt := 38) hC dX0_signNearMost_11 (by decide) (by omega) (fun _ => ?_) (fun h => absurd h (by omega))
    refine j_iload_n hC dX0_signNearMost_38 1 rfl ?_
    exact j_iret hC dX0_signNearMost_39 ⟨rfl, rfl⟩
  | succ d ih =>
    intro z fo mo h0 hz hm
    have hn := hI.2.2.2.1 b hb
    rw [show amF (fun z => cnB σ b z) (d + 1) z fo mo = if mo < cnB σ b z then amF (fun z => cnB σ b z) d (z + 1) z (cnB σ b z) else amF (fun z => cnB σ b z) d (z + 1) fo mo from rfl]
    refine j_iload_n hC dX0_signNearMost_6 0 rfl ?_
    refine j_aload_n hC dX0_signNearMost_7 3 rfl ?_
    refine j_get hC inX0 rfl (4 + b) (hw_bk g _ hb) 3 (by decide) wd49 rfl dX0_signNearMost_8 ?_
    refine j_icmp_ge (tgt := 38) hC dX0_signNearMost_11 (by decide) (by omega) (fun h => absurd h (by omega)) (fun _ => ?_)
    refine j_aload_n hC dX0_signNearMost_14 3 rfl ?_
    refine j_iload_n hC dX0_signNearMost_15 0 rfl ?_
    refine j_callV1 (ar := 1) hC hR (c_X0_countNear (hlJ hC) g σ hI hb z (by omega)) [] rfl (4 + b) (hw_bk g _ hb) rfl rfl (by decide) (by decide +kernel) rfl wd293 wd295 wp14 wd3 wd296 (by first | decide | omega) (Nat.le_of_ble_eq_true rfl) dX0_signNearMost_16 ?_
    have hf16 : 0 ≤ cnB σ b z ∧ cnB σ b z ≤ 16 := cnt0_rg _ hI hb
    refine j_istore hC dX0_signNearMost_19 [(4, vI (cnB σ b z)), (3, vI (z)), (1, vI (fo)), (2, vI (mo)), (0, .ref (gd g (4 + b)))] (by decide) rfl ?_
    refine j_iload hC dX0_signNearMost_21 0 rfl ?_
    refine j_iload_n hC dX0_signNearMost_23 3 rfl ?_
    refine j_icmp_le (tgt := 32) hC dX0_signNearMost_24 (by decide) (by omega) (fun h24 => ?_) (fun h24 => ?_)
    · refine j_iinc hC dX0_signNearMost_32 1 [(3, vI (z + 1)), (4, vI (cnB σ b z)), (1, vI (fo)), (2, vI (mo)), (0, .ref (gd g (4 + b)))] rfl (by decide) rfl ?_
      refine j_goto (tgt := 6) hC dX0_signNearMost_35 (by decide) ?_
      refine j_sub [0, 2, 3, 4] rfl ?_
      first | (rw [if_pos h24]; exact ih (z + 1) z _ (by omega) (by omega) (by omega)) | (rw [if_neg (show ¬ mo < cnB σ b z by omega)]; exact ih (z + 1) fo mo (by omega) (by omega) hm)
    · refine j_iload hC dX0_signNearMost_27 0 rfl ?_
      refine j_istore_n hC dX0_signNearMost_29 [(2, vI (cnB σ b z)), (4, vI (cnB σ b z)), (3, vI (z)), (1, vI (fo)), (0, .ref (gd g (4 + b)))] (by decide) rfl ?_
      refine j_iload_n hC dX0_signNearMost_30 2 rfl ?_
      refine j_istore_n hC dX0_signNearMost_31 [(1, vI (z)), (2, vI (cnB σ b z)), (4, vI (cnB σ b z)), (3, vI (z)), (0, .ref (gd g (4 + b)))] (by decide) rfl ?_
      refine j_iinc hC dX0_signNearMost_32 3 [(3, vI (z + 1)), (1, vI (z)), (2, vI (cnB σ b z)), (4, vI (cnB σ b z)), (0, .ref (gd g (4 + b)))] rfl (by decide) rfl ?_
      refine j_goto (tgt := 6) hC dX0_signNearMost_35 (by decide) ?_
      refine j_sub [0, 1, 2, 4] rfl ?_
      first | (rw [if_pos h24]; exact ih (z + 1) z _ (by omega) (by omega) (by omega)) | (rw [if_neg (show ¬ mo < cnB σ b z by omega)]; exact ih (z + 1) fo mo (by omega) (by omega) hm)
set_option maxHeartbeats 4000000 in
set_option maxRecDepth 100000 in
theorem c_X0_signNearMost {l : Launch} (hl : l.stackTraces = false) (g : GG) (σ : Sg) (hI : IC σ) {b : Nat} (hb : b < 5) : CN l yX0_signNearMost cX0_signNearMost 5 (some .int) 4 94 0 0 g [.ref (gd g (4 + b))] σ (pt (some (vI (snB σ b))) (σ)) := by
  refine CN_of (own := RX0) hl (by decide) rfl (Nat.le_of_ble_eq_true rfl) (fun mc hC _ hR => ?_)
  refine j_lv (lv2 := [(0, .ref (gd g (4 + b)))]) rfl ?_
  have hn2 := cN_eq hI hb
  refine j_iconst hC dX0_signNearMost_0 ?_
  refine j_istore_n hC dX0_signNearMost_1 [(1, vI (-1)), (0, .ref (gd g (4 + b)))] (by decide) rfl ?_
  refine j_iconst hC dX0_signNearMost_2 ?_
  refine j_istore_n hC dX0_signNearMost_3 [(2, vI (-1)), (1, vI (-1)), (0, .ref (gd g (4 + b)))] (by decide) rfl ?_
  refine j_iconst hC dX0_signNearMost_4 ?_
  refine j_istore_n hC dX0_signNearMost_5 [(3, vI (0)), (2, vI (-1)), (1, vI (-1)), (0, .ref (gd g (4 + b)))] (by decide) rfl ?_
  refine j_sub [0, 2, 1, 3] rfl ?_
  exact lp_signNearMost hC hR hI hb (cN σ b) 0 (-1) (-1) (by omega) (by omega) (by omega)
set_option maxHeartbeats 4000000 in
set_option maxRecDepth 100000 in
theorem lp_meaningRead {mc : MC} {g : GG} {σ : Sg} (hC : Cx mc g cX0_meaningRead RX0 6 (some .int)) (hR : mR mc = rmJ 3 71 0 0) (hI : IC σ) {b : Nat} (hb : b < 5) (x : Int) (hx : 0 ≤ x ∧ x < 2304) : ∀ (d : Nat) (z : Int) (fw : Int) (m : Int), (0 ≤ z) → (z + (d : Int) = σ.1 (2 + b)) → (0 ≤ fw ∧ fw ≤ 4) → J mc g 0 0 (QN mc g (pt (some (vI (mrF (fun z => dst (σ.2 0) x (lkB σ b z)) (mnB σ b) d z fw m))) (σ)) 0 0) 7 [(4, vI (z)), (2, vI (fw)), (3, vI (m)), (0, .ref (gd g (4 + b))), (1, vI (x))] [] σ := by
  intro d
  induction d with
  | zero =>
    intro z fw m h0 hz hf
    have hn := hI.2.2.2.1 b hb
    refine j_iload hC dX0_meaningRead_7 0 rfl ?_
    refine j_aload_n hC dX0_meaningRead_9 3 rfl ?_
    refine j_get hC inX0 rfl (4 + b) (hw_bk g _ hb) 3 (by decide) wd49 rfl dX0_meaningRead_10 ?_
    refine j_icmp_ge (tgt := 67) hC dX0_meaningRead_13 (by decide) (by omega) (fun _ => ?_) (fun h => absurd h (by omega))
    refine j_iload_n hC dX0_meaningRead_67 2 rfl ?_
    exact j_iret hC dX0_meaningRead_68 ⟨rfl, rfl⟩
  | succ d ih =>
    intro z fw m h0 hz hf
    have hn := hI.2.2.2.1 b hb
    have hk := hI.2.2.2.2.1 b hb z (by omega) (by omega)
    have hd := dst_rg (G := σ.2 0) (x := x) (y := σ.2 (1 + b) z) ⟨hx.1, hx.2, hk.1, hk.2⟩
    rw [show mrF (fun z => dst (σ.2 0) x (lkB σ b z)) (mnB σ b) (d + 1) z fw m = if dst (σ.2 0) x (σ.2 (1 + b) z) < fw then mrF (fun z => dst (σ.2 0) x (lkB σ b z)) (mnB σ b) d (z + 1) (dst (σ.2 0) x (σ.2 (1 + b) z)) (σ.2 (6 + b) z) else if dst (σ.2 0) x (σ.2 (1 + b) z) = fw then mrF (fun z => dst (σ.2 0) x (lkB σ b z)) (mnB σ b) d (z + 1) fw (-1) else mrF (fun z => dst (σ.2 0) x (lkB σ b z)) (mnB σ b) d (z + 1) fw m from rfl]
    refine j_iload hC dX0_meaningRead_7 0 rfl ?_
    refine j_aload_n hC dX0_meaningRead_9 3 rfl ?_
    refine j_get hC inX0 rfl (4 + b) (hw_bk g _ hb) 3 (by decide) wd49 rfl dX0_meaningRead_10 ?_
    refine j_icmp_ge (tgt := 67) hC dX0_meaningRead_13 (by decide) (by omega) (fun h => absurd h (by omega)) (fun _ => ?_)
    refine j_aload_n hC dX0_meaningRead_16 3 rfl ?_
    refine j_get hC inX0 rfl (4 + b) (hw_bk g _ hb) 0 (by decide) wd44 rfl dX0_meaningRead_17 ?_
    refine j_iload_n hC dX0_meaningRead_20 4 rfl ?_
    refine j_aload_n hC dX0_meaningRead_21 3 rfl ?_
    refine j_get hC inX0 rfl (4 + b) (hw_bk g _ hb) 1 (by decide) wd45 rfl dX0_meaningRead_22 ?_
    refine j_iload hC dX0_meaningRead_25 0 rfl ?_
    refine j_iald hC (9 + b) (hw_lk g _ hb) (by omega) dX0_meaningRead_27 ?_
    refine j_callVN1 (ar := 2) hC hR (c_X2_distance (hlJ hC) g σ hI x ((σ).2 (1 + b) z) (by omega)) [] rfl 1 rfl rfl rfl (by decide) (by decide +kernel) rfl wd269 wd226 wp7 wd2 wd227 (by first | decide | omega) (Nat.le_of_ble_eq_true rfl) dX0_meaningRead_28 ?_
    refine j_istore hC dX0_meaningRead_31 [(5, vI (dst (σ.2 0) x ((σ).2 (1 + b) z))), (4, vI (z)), (2, vI (fw)), (3, vI (m)), (0, .ref (gd g (4 + b))), (1, vI (x))] (by decide) rfl ?_
    refine j_iload hC dX0_meaningRead_33 0 rfl ?_
    refine j_iload_n hC dX0_meaningRead_35 2 rfl ?_
    refine j_icmp_ge (tgt := 53) hC dX0_meaningRead_36 (by decide) (by omega) (fun h36 => ?_) (fun h36 => ?_)
    · refine j_iload hC dX0_meaningRead_53 0 rfl ?_
      refine j_iload_n hC dX0_meaningRead_55 2 rfl ?_
      refine j_icmp_ne (tgt := 61) hC dX0_meaningRead_56 (by decide) (by omega) (fun h56 => ?_) (fun h56 => ?_)
      · refine j_iinc hC dX0_meaningRead_61 1 [(4, vI (z + 1)), (5, vI (dst (σ.2 0) x ((σ).2 (1 + b) z))), (2, vI (fw)), (3, vI (m)), (0, .ref (gd g (4 + b))), (1, vI (x))] rfl (by decide) rfl ?_
        refine j_goto (tgt := 7) hC dX0_meaningRead_64 (by decide) ?_
        refine j_sub [0, 2, 3, 4, 5] rfl ?_
        first | (rw [if_pos h36]; exact ih (z + 1) _ _ (by omega) (by omega) (by omega)) | (rw [if_neg (show ¬ dst (σ.2 0) x (σ.2 (1 + b) z) < fw by omega), if_pos h56]; exact ih (z + 1) fw (-1) (by omega) (by omega) hf) | (rw [if_neg (show ¬ dst (σ.2 0) x (σ.2 (1 + b) z) < fw by omega), if_neg h56]; exact ih (z + 1) fw m (by omega) (by omega) hf)
      · refine j_iconst hC dX0_meaningRead_59 ?_
        refine j_istore_n hC dX0_meaningRead_60 [(3, vI (-1)), (5, vI (dst (σ.2 0) x ((σ).2 (1 + b) z))), (4, vI (z)), (2, vI (fw)), (0, .ref (gd g (4 + b))), (1, vI (x))] (by decide) rfl ?_
        refine j_iinc hC dX0_meaningRead_61 2 [(4, vI (z + 1)), (3, vI (-1)), (5, vI (dst (σ.2 0) x ((σ).2 (1 + b) z))), (2, vI (fw)), (0, .ref (gd g (4 + b))), (1, vI (x))] rfl (by decide) rfl ?_
        refine j_goto (tgt := 7) hC dX0_meaningRead_64 (by decide) ?_
        refine j_sub [0, 3, 1, 4, 5] rfl ?_
        first | (rw [if_pos h36]; exact ih (z + 1) _ _ (by omega) (by omega) (by omega)) | (rw [if_neg (show ¬ dst (σ.2 0) x (σ.2 (1 + b) z) < fw by omega), if_pos h56]; exact ih (z + 1) fw (-1) (by omega) (by omega) hf) | (rw [if_neg (show ¬ dst (σ.2 0) x (σ.2 (1 + b) z) < fw by omega), if_neg h56]; exact ih (z + 1) fw m (by omega) (by omega) hf)
    · refine j_iload hC dX0_meaningRead_39 0 rfl ?_
      refine j_istore_n hC dX0_meaningRead_41 [(2, vI (dst (σ.2 0) x ((σ).2 (1 + b) z))), (5, vI (dst (σ.2 0) x ((σ).2 (1 + b) z))), (4, vI (z)), (3, vI (m)), (0, .ref (gd g (4 + b))), (1, vI (x))] (by decide) rfl ?_
      refine j_aload_n hC dX0_meaningRead_42 4 rfl ?_
      refine j_get hC inX0 rfl (4 + b) (hw_bk g _ hb) 2 (by decide) wd47 rfl dX0_meaningRead_43 ?_
      refine j_iload hC dX0_meaningRead_46 2 rfl ?_
      refine j_iald hC (14 + b) (hw_mn g _ hb) (by omega) dX0_meaningRead_48 ?_
      refine j_istore_n hC dX0_meaningRead_49 [(3, vI ((σ).2 (6 + b) z)), (2, vI (dst (σ.2 0) x ((σ).2 (1 + b) z))), (5, vI (dst (σ.2 0) x ((σ).2 (1 + b) z))), (4, vI (z)), (0, .ref (gd g (4 + b))), (1, vI (x))] (by decide) rfl ?_
      refine j_goto (tgt := 61) hC dX0_meaningRead_50 (by decide) ?_
      refine j_iinc hC dX0_meaningRead_61 3 [(4, vI (z + 1)), (3, vI ((σ).2 (6 + b) z)), (2, vI (dst (σ.2 0) x ((σ).2 (1 + b) z))), (5, vI (dst (σ.2 0) x ((σ).2 (1 + b) z))), (0, .ref (gd g (4 + b))), (1, vI (x))] rfl (by decide) rfl ?_
      refine j_goto (tgt := 7) hC dX0_meaningRead_64 (by decide) ?_
      refine j_sub [0, 2, 1, 4, 5] rfl ?_
      first | (rw [if_pos h36]; exact ih (z + 1) _ _ (by omega) (by omega) (by omega)) | (rw [if_neg (show ¬ dst (σ.2 0) x (σ.2 (1 + b) z) < fw by omega), if_pos h56]; exact ih (z + 1) fw (-1) (by omega) (by omega) hf) | (rw [if_neg (show ¬ dst (σ.2 0) x (σ.2 (1 + b) z) < fw by omega), if_neg h56]; exact ih (z + 1) fw m (by omega) (by omega) hf)
set_option maxHeartbeats 4000000 in
set_option maxRecDepth 100000 in
theorem c_X0_meaningRead {l : Launch} (hl : l.stackTraces = false) (g : GG) (σ : Sg) (hI : IC σ) {b : Nat} (hb : b < 5) (x : Int) (hx : 0 ≤ x ∧ x < 2304) : CN l yX0_meaningRead cX0_meaningRead 6 (some .int) 3 71 0 0 g [.ref (gd g (4 + b)), vI (x)] σ (pt (some (vI (mrB σ b x))) (σ)) := by
  refine CN_of (own := RX0) hl (by decide) rfl (Nat.le_of_ble_eq_true rfl) (fun mc hC _ hR => ?_)
  refine j_lv (lv2 := [(0, .ref (gd g (4 + b))), (1, vI (x))]) rfl ?_
  have hn2 := cN_eq hI hb
  refine j_iconst hC dX0_meaningRead_0 ?_
  refine j_istore_n hC dX0_meaningRead_1 [(2, vI (4)), (0, .ref (gd g (4 + b))), (1, vI (x))] (by decide) rfl ?_
  refine j_iconst hC dX0_meaningRead_2 ?_
  refine j_istore_n hC dX0_meaningRead_3 [(3, vI (-1)), (2, vI (4)), (0, .ref (gd g (4 + b))), (1, vI (x))] (by decide) rfl ?_
  refine j_iconst hC dX0_meaningRead_4 ?_
  refine j_istore hC dX0_meaningRead_5 [(4, vI (0)), (3, vI (-1)), (2, vI (4)), (0, .ref (gd g (4 + b))), (1, vI (x))] (by decide) rfl ?_
  refine j_sub [0, 2, 1, 3, 4] rfl ?_
  exact lp_meaningRead hC hR hI hb x hx (cN σ b) 0 4 (-1) (by omega) (by omega) (by omega)
set_option maxHeartbeats 4000000 in
set_option maxRecDepth 100000 in
theorem lp_countUnderstood {mc : MC} {g : GG} {σ : Sg} (hC : Cx mc g cX0_countUnderstood RX0 4 (some .int)) (hR : mR mc = rmJ 4 96 0 0) (hI : IC σ) {b : Nat} (hb : b < 5) {e : Nat} (he : e < 5) : ∀ (d : Nat) (z : Int) (a : Int), (0 ≤ z) → (z + (d : Int) = σ.1 (2 + e)) → J mc g 0 0 (QN mc g (pt (some (vI (cnt (unC σ b e) d z a))) (σ)) 0 0) 4 [(3, vI (z)), (2, vI (a)), (0, .ref (gd g (4 + b))), (1, .ref (gd g (4 + e)))] [] σ := by
  intro d
  induction d with
  | zero =>
    intro z a h0 hz
    have hn := hI.2.2.2.1 b hb
    have hne := hI.2.2.2.1 e he
    refine j_iload_n hC dX0_countUnderstood_4 0 rfl ?_
    refine j_aload_n hC dX0_countUnderstood_5 3 rfl ?_
    refine j_get hC inX0 rfl (4 + e) (hw_bk g _ he) 3 (by decide) wd49 rfl dX0_countUnderstood_6 ?_
    refine j_icmp_ge (tgt := 40) hC dX0_countUnderstood_9 (by decide) (by omega) (fun _ => ?_) (fun h => absurd h (by omega))
    refine j_iload_n hC dX0_countUnderstood_40 1 rfl ?_
    exact j_iret hC dX0_countUnderstood_41 ⟨rfl, rfl⟩
  | succ d ih =>
    intro z a h0 hz
    have hn := hI.2.2.2.1 b hb
    have hne := hI.2.2.2.1 e he
    have hk := hI.2.2.2.2.1 e he z (by omega) (by omega)
    have hm := hI.2.2.2.2.2 e he z (by omega) (by omega)
    rw [show cnt (unC σ b e) (d + 1) z a = cnt (unC σ b e) d (z + 1) (if unC σ b e z = true then a + 1 else a) from rfl]
    refine j_iload_n hC dX0_countUnderstood_4 0 rfl ?_
    refine j_aload_n hC dX0_countUnderstood_5 3 rfl ?_
    refine j_get hC inX0 rfl (4 + e) (hw_bk g _ he) 3 (by decide) wd49 rfl dX0_countUnderstood_6 ?_
    refine j_icmp_ge (tgt := 40) hC dX0_countUnderstood_9 (by decide) (by omega) (fun h => absurd h (by omega)) (fun _ => ?_)
    refine j_aload_n hC dX0_countUnderstood_12 2 rfl ?_
    refine j_aload_n hC dX0_countUnderstood_13 3 rfl ?_
    refine j_get hC inX0 rfl (4 + e) (hw_bk g _ he) 1 (by decide) wd45 rfl dX0_countUnderstood_14 ?_
    refine j_iload_n hC dX0_countUnderstood_17 0 rfl ?_
    refine j_iald hC (9 + e) (hw_lk g _ he) (by omega) dX0_countUnderstood_18 ?_
    refine j_callV1 (ar := 1) hC hR (c_X0_meaningRead (hlJ hC) g σ hI hb ((σ).2 (1 + e) z) (by omega)) [] rfl (4 + b) (hw_bk g _ hb) rfl rfl (by decide) (by decide +kernel) rfl wd313 wd303 wp15 wd3 wd304 (by first | decide | omega) (Nat.le_of_ble_eq_true rfl) dX0_countUnderstood_19 ?_
    have hf19 := mrB_rg hI hb ((σ).2 (1 + e) z)
    refine j_aload_n hC dX0_countUnderstood_22 3 rfl ?_
    refine j_get hC inX0 rfl (4 + e) (hw_bk g _ he) 2 (by decide) wd47 rfl dX0_countUnderstood_23 ?_
    refine j_iload_n hC dX0_countUnderstood_26 0 rfl ?_
    refine j_iald hC (14 + e) (hw_mn g _ he) (by omega) dX0_countUnderstood_27 ?_
    refine j_icmp_ne (tgt := 34) hC dX0_countUnderstood_28 (by decide) (by omega) (fun h28 => ?_) (fun h28 => ?_)
    · refine j_iinc hC dX0_countUnderstood_34 0 [(3, vI (z + 1)), (2, vI (a)), (0, .ref (gd g (4 + b))), (1, .ref (gd g (4 + e)))] rfl (by decide) rfl ?_
      refine j_goto (tgt := 4) hC dX0_countUnderstood_37 (by decide) ?_
      refine j_sub [0, 1, 2, 3] rfl ?_
      first | (rw [if_pos (show unC σ b e z = true from decide_eq_true h28)]; exact ih (z + 1) (a + 1) (by omega) (by omega)) | (rw [if_neg (show ¬ (unC σ b e z = true) from fun q => h28 (of_decide_eq_true q))]; exact ih (z + 1) a (by omega) (by omega))
    · refine j_iinc hC dX0_countUnderstood_31 1 [(2, vI (a + 1)), (3, vI (z)), (0, .ref (gd g (4 + b))), (1, .ref (gd g (4 + e)))] rfl (by decide) rfl ?_
      refine j_iinc hC dX0_countUnderstood_34 1 [(3, vI (z + 1)), (2, vI (a + 1)), (0, .ref (gd g (4 + b))), (1, .ref (gd g (4 + e)))] rfl (by decide) rfl ?_
      refine j_goto (tgt := 4) hC dX0_countUnderstood_37 (by decide) ?_
      refine j_sub [0, 1, 2, 3] rfl ?_
      first | (rw [if_pos (show unC σ b e z = true from decide_eq_true h28)]; exact ih (z + 1) (a + 1) (by omega) (by omega)) | (rw [if_neg (show ¬ (unC σ b e z = true) from fun q => h28 (of_decide_eq_true q))]; exact ih (z + 1) a (by omega) (by omega))
set_option maxHeartbeats 4000000 in
set_option maxRecDepth 100000 in
theorem c_X0_countUnderstood {l : Launch} (hl : l.stackTraces = false) (g : GG) (σ : Sg) (hI : IC σ) {b : Nat} (hb : b < 5) {e : Nat} (he : e < 5) : CN l yX0_countUnderstood cX0_countUnderstood 4 (some .int) 4 96 0 0 g [.ref (gd g (4 + b)), .ref (gd g (4 + e))] σ (pt (some (vI (cuB σ b e))) (σ)) := by
  refine CN_of (own := RX0) hl (by decide) rfl (Nat.le_of_ble_eq_true rfl) (fun mc hC _ hR => ?_)
  refine j_lv (lv2 := [(0, .ref (gd g (4 + b))), (1, .ref (gd g (4 + e)))]) rfl ?_
  have hn2 := cN_eq hI he
  refine j_iconst hC dX0_countUnderstood_0 ?_
  refine j_istore_n hC dX0_countUnderstood_1 [(2, vI (0)), (0, .ref (gd g (4 + b))), (1, .ref (gd g (4 + e)))] (by decide) rfl ?_
  refine j_iconst hC dX0_countUnderstood_2 ?_
  refine j_istore_n hC dX0_countUnderstood_3 [(3, vI (0)), (2, vI (0)), (0, .ref (gd g (4 + b))), (1, .ref (gd g (4 + e)))] (by decide) rfl ?_
  refine j_sub [0, 1, 2, 3] rfl ?_
  exact lp_countUnderstood hC hR hI hb he (cN σ e) 0 0 (by omega) (by omega)
set_option maxHeartbeats 4000000 in
set_option maxRecDepth 100000 in
theorem lp_countMisread {mc : MC} {g : GG} {σ : Sg} (hC : Cx mc g cX0_countMisread RX0 5 (some .int)) (hR : mR mc = rmJ 4 96 0 0) (hI : IC σ) {b : Nat} (hb : b < 5) {e : Nat} (he : e < 5) : ∀ (d : Nat) (z : Int) (a : Int), (0 ≤ z) → (z + (d : Int) = σ.1 (2 + e)) → J mc g 0 0 (QN mc g (pt (some (vI (cnt (miC σ b e) d z a))) (σ)) 0 0) 4 [(3, vI (z)), (2, vI (a)), (0, .ref (gd g (4 + b))), (1, .ref (gd g (4 + e)))] [] σ := by
  intro d
  induction d with
  | zero =>
    intro z a h0 hz
    have hn := hI.2.2.2.1 b hb
    have hne := hI.2.2.2.1 e he
    refine j_iload_n hC dX0_countMisread_4 0 rfl ?_
    refine j_aload_n hC dX0_countMisread_5 3 rfl ?_
    refine j_get hC inX0 rfl (4 + e) (hw_bk g _ he) 3 (by decide) wd49 rfl dX0_countMisread_6 ?_
    refine j_icmp_ge (tgt := 50) hC dX0_countMisread_9 (by decide) (by omega) (fun _ => ?_) (fun h => absurd h (by omega))
    refine j_iload_n hC dX0_countMisread_50 1 rfl ?_
    exact j_iret hC dX0_countMisread_51 ⟨rfl, rfl⟩
  | succ d ih =>
    intro z a h0 hz
    have hn := hI.2.2.2.1 b hb
    have hne := hI.2.2.2.1 e he
    have hk := hI.2.2.2.2.1 e he z (by omega) (by omega)
    have hm := hI.2.2.2.2.2 e he z (by omega) (by omega)
    rw [show cnt (miC σ b e) (d + 1) z a = cnt (miC σ b e) d (z + 1) (if miC σ b e z = true then a + 1 else a) from rfl]
    refine j_iload_n hC dX0_countMisread_4 0 rfl ?_
    refine j_aload_n hC dX0_countMisread_5 3 rfl ?_
    refine j_get hC inX0 rfl (4 + e) (hw_bk g _ he) 3 (by decide) wd49 rfl dX0_countMisread_6 ?_
    refine j_icmp_ge (tgt := 50) hC dX0_countMisread_9 (by decide) (by omega) (fun h => absurd h (by omega)) (fun _ => ?_)
    refine j_aload_n hC dX0_countMisread_12 2 rfl ?_
    refine j_aload_n hC dX0_countMisread_13 3 rfl ?_
    refine j_get hC inX0 rfl (4 + e) (hw_bk g _ he) 1 (by decide) wd45 rfl dX0_countMisread_14 ?_
    refine j_iload_n hC dX0_countMisread_17 0 rfl ?_
    refine j_iald hC (9 + e) (hw_lk g _ he) (by omega) dX0_countMisread_18 ?_
    refine j_callV1 (ar := 1) hC hR (c_X0_meaningRead (hlJ hC) g σ hI hb ((σ).2 (1 + e) z) (by omega)) [] rfl (4 + b) (hw_bk g _ hb) rfl rfl (by decide) (by decide +kernel) rfl wd313 wd303 wp15 wd3 wd304 (by first | decide | omega) (Nat.le_of_ble_eq_true rfl) dX0_countMisread_19 ?_
    have hf19 := mrB_rg hI hb ((σ).2 (1 + e) z)
    refine j_istore hC dX0_countMisread_22 [(4, vI (mrB σ b ((σ).2 (1 + e) z))), (3, vI (z)), (2, vI (a)), (0, .ref (gd g (4 + b))), (1, .ref (gd g (4 + e)))] (by decide) rfl ?_
    refine j_iload hC dX0_countMisread_24 0 rfl ?_
    refine j_iconst hC dX0_countMisread_26 ?_
    refine j_icmp_eq (tgt := 44) hC dX0_countMisread_27 (by decide) (by omega) (fun h27 => ?_) (fun h27 => ?_)
    · refine j_iinc hC dX0_countMisread_44 1 [(3, vI (z + 1)), (4, vI (mrB σ b ((σ).2 (1 + e) z))), (2, vI (a)), (0, .ref (gd g (4 + b))), (1, .ref (gd g (4 + e)))] rfl (by decide) rfl ?_
      refine j_goto (tgt := 4) hC dX0_countMisread_47 (by decide) ?_
      refine j_sub [0, 2, 3, 4] rfl ?_
      first | (rw [if_pos (show miC σ b e z = true from decide_eq_true ⟨h27, h38⟩)]; exact ih (z + 1) (a + 1) (by omega) (by omega)) | (rw [if_neg (show ¬ (miC σ b e z = true) from fun q => (of_decide_eq_true q).1 h27)]; exact ih (z + 1) a (by omega) (by omega)) | (rw [if_neg (show ¬ (miC σ b e z = true) from fun q => (of_decide_eq_true q).2 h38)]; exact ih (z + 1) a (by omega) (by omega))
    · refine j_iload hC dX0_countMisread_30 0 rfl ?_
      refine j_aload_n hC dX0_countMisread_32 4 rfl ?_
      refine j_get hC inX0 rfl (4 + e) (hw_bk g _ he) 2 (by decide) wd47 rfl dX0_countMisread_33 ?_
      refine j_iload_n hC dX0_countMisread_36 1 rfl ?_
      refine j_iald hC (14 + e) (hw_mn g _ he) (by omega) dX0_countMisread_37 ?_
      refine j_icmp_eq (tgt := 44) hC dX0_countMisread_38 (by decide) (by omega) (fun h38 => ?_) (fun h38 => ?_)
      · refine j_iinc hC dX0_countMisread_44 1 [(3, vI (z + 1)), (4, vI (mrB σ b ((σ).2 (1 + e) z))), (2, vI (a)), (0, .ref (gd g (4 + b))), (1, .ref (gd g (4 + e)))] rfl (by decide) rfl ?_
        refine j_goto (tgt := 4) hC dX0_countMisread_47 (by decide) ?_
        refine j_sub [0, 2, 3, 4] rfl ?_
        first | (rw [if_pos (show miC σ b e z = true from decide_eq_true ⟨h27, h38⟩)]; exact ih (z + 1) (a + 1) (by omega) (by omega)) | (rw [if_neg (show ¬ (miC σ b e z = true) from fun q => (of_decide_eq_true q).1 h27)]; exact ih (z + 1) a (by omega) (by omega)) | (rw [if_neg (show ¬ (miC σ b e z = true) from fun q => (of_decide_eq_true q).2 h38)]; exact ih (z + 1) a (by omega) (by omega))
      · refine j_iinc hC dX0_countMisread_41 2 [(2, vI (a + 1)), (4, vI (mrB σ b ((σ).2 (1 + e) z))), (3, vI (z)), (0, .ref (gd g (4 + b))), (1, .ref (gd g (4 + e)))] rfl (by decide) rfl ?_
        refine j_iinc hC dX0_countMisread_44 2 [(3, vI (z + 1)), (2, vI (a + 1)), (4, vI (mrB σ b ((σ).2 (1 + e) z))), (0, .ref (gd g (4 + b))), (1, .ref (gd g (4 + e)))] rfl (by decide) rfl ?_
        refine j_goto (tgt := 4) hC dX0_countMisread_47 (by decide) ?_
        refine j_sub [0, 1, 3, 4] rfl ?_
        first | (rw [if_pos (show miC σ b e z = true from decide_eq_true ⟨h27, h38⟩)]; exact ih (z + 1) (a + 1) (by omega) (by omega)) | (rw [if_neg (show ¬ (miC σ b e z = true) from fun q => (of_decide_eq_true q).1 h27)]; exact ih (z + 1) a (by omega) (by omega)) | (rw [if_neg (show ¬ (miC σ b e z = true) from fun q => (of_decide_eq_true q).2 h38)]; exact ih (z + 1) a (by omega) (by omega))
set_option maxHeartbeats 4000000 in
set_option maxRecDepth 100000 in
theorem c_X0_countMisread {l : Launch} (hl : l.stackTraces = false) (g : GG) (σ : Sg) (hI : IC σ) {b : Nat} (hb : b < 5) {e : Nat} (he : e < 5) : CN l yX0_countMisread cX0_countMisread 5 (some .int) 4 96 0 0 g [.ref (gd g (4 + b)), .ref (gd g (4 + e))] σ (pt (some (vI (cmB σ b e))) (σ)) := by
  refine CN_of (own := RX0) hl (by decide) rfl (Nat.le_of_ble_eq_true rfl) (fun mc hC _ hR => ?_)
  refine j_lv (lv2 := [(0, .ref (gd g (4 + b))), (1, .ref (gd g (4 + e)))]) rfl ?_
  have hn2 := cN_eq hI he
  refine j_iconst hC dX0_countMisread_0 ?_
  refine j_istore_n hC dX0_countMisread_1 [(2, vI (0)), (0, .ref (gd g (4 + b))), (1, .ref (gd g (4 + e)))] (by decide) rfl ?_
  refine j_iconst hC dX0_countMisread_2 ?_
  refine j_istore_n hC dX0_countMisread_3 [(3, vI (0)), (2, vI (0)), (0, .ref (gd g (4 + b))), (1, .ref (gd g (4 + e)))] (by decide) rfl ?_
  refine j_sub [0, 1, 2, 3] rfl ?_
  exact lp_countMisread hC hR hI hb he (cN σ e) 0 0 (by omega) (by omega)
set_option maxHeartbeats 4000000 in
set_option maxRecDepth 100000 in
theorem lp_countCommon {mc : MC} {g : GG} {σ : Sg} (hC : Cx mc g cX0_countCommon RX0 6 (some .int)) (hR : mR mc = rmJ 4 96 0 0) (hI : IC σ) {b : Nat} (hb : b < 5) {e : Nat} (he : e < 5) : ∀ (d : Nat) (z : Int) (a : Int), (0 ≤ z) → (z + (d : Int) = σ.1 (2 + b)) → J mc g 0 0 (QN mc g (pt (some (vI (cnt (coC σ b e) d z a))) (σ)) 0 0) 4 [(3, vI (z)), (2, vI (a)), (0, .ref (gd g (4 + b))), (1, .ref (gd g (4 + e)))] [] σ := by
  intro d
  induction d with
  | zero =>
    intro z a h0 hz
    have hn := hI.2.2.2.1 b hb
    have hne := hI.2.2.2.1 e he
    refine j_iload_n hC dX0_countCommon_4 0 rfl ?_
    refine j_aload_n hC dX0_countCommon_5 2 rfl ?_
    refine j_get hC inX0 rfl (4 + b) (hw_bk g _ hb) 3 (by decide) wd49 rfl dX0_countCommon_6 ?_
    refine j_icmp_ge (tgt := 74) hC dX0_countCommon_9 (by decide) (by omega) (fun _ => ?_) (fun h => absurd h (by omega))
    refine j_iload_n hC dX0_countCommon_74 1 rfl ?_
    exact j_iret hC dX0_countCommon_75 ⟨rfl, rfl⟩
  | succ d ih =>
    intro z a h0 hz
    have hn := hI.2.2.2.1 b hb
    have hne := hI.2.2.2.1 e he
    have hk := hI.2.2.2.2.1 b hb z (by omega) (by omega)
    have hm := hI.2.2.2.2.2 b hb z (by omega) (by omega)
    have hfe := findB_rg hI he (σ.2 (6 + b) z)
    have hk2 := fun (h : 0 ≤ findB σ e (σ.2 (6 + b) z)) => hI.2.2.2.2.1 e he (findB σ e (σ.2 (6 + b) z)) h (by omega)
    rw [show cnt (coC σ b e) (d + 1) z a = cnt (coC σ b e) d (z + 1) (if coC σ b e z = true then a + 1 else a) from rfl]
    refine j_iload_n hC dX0_countCommon_4 0 rfl ?_
    refine j_aload_n hC dX0_countCommon_5 2 rfl ?_
    refine j_get hC inX0 rfl (4 + b) (hw_bk g _ hb) 3 (by decide) wd49 rfl dX0_countCommon_6 ?_
    refine j_icmp_ge (tgt := 74) hC dX0_countCommon_9 (by decide) (by omega) (fun h => absurd h (by omega)) (fun _ => ?_)
    refine j_aload_n hC dX0_countCommon_12 2 rfl ?_
    refine j_get hC inX0 rfl (4 + b) (hw_bk g _ hb) 2 (by decide) wd47 rfl dX0_countCommon_13 ?_
    refine j_iload_n hC dX0_countCommon_16 0 rfl ?_
    refine j_iald hC (14 + b) (hw_mn g _ hb) (by omega) dX0_countCommon_17 ?_
    refine j_istore hC dX0_countCommon_18 [(4, vI ((σ).2 (6 + b) z)), (3, vI (z)), (2, vI (a)), (0, .ref (gd g (4 + b))), (1, .ref (gd g (4 + e)))] (by decide) rfl ?_
    refine j_aload_n hC dX0_countCommon_20 4 rfl ?_
    refine j_iload hC dX0_countCommon_21 0 rfl ?_
    refine j_callV1 (ar := 1) hC hR (c_X0_find (hlJ hC) g σ hI he ((σ).2 (6 + b) z) (by omega)) [] rfl (4 + e) (hw_bk g _ he) rfl rfl (by decide) (by decide +kernel) rfl wd330 wd218 wp6 wd3 wd219 (by first | decide | omega) (Nat.le_of_ble_eq_true rfl) dX0_countCommon_23 ?_
    have hf23 := findB_rg hI he ((σ).2 (6 + b) z)
    refine j_istore hC dX0_countCommon_26 [(5, vI (findB σ e ((σ).2 (6 + b) z))), (4, vI ((σ).2 (6 + b) z)), (3, vI (z)), (2, vI (a)), (0, .ref (gd g (4 + b))), (1, .ref (gd g (4 + e)))] (by decide) rfl ?_
    refine j_iload hC dX0_countCommon_28 0 rfl ?_
    refine j_iconst hC dX0_countCommon_30 ?_
    refine j_icmp_eq (tgt := 68) hC dX0_countCommon_31 (by decide) (by omega) (fun h31 => ?_) (fun h31 => ?_)
    · refine j_iinc hC dX0_countCommon_68 2 [(3, vI (z + 1)), (5, vI (findB σ e ((σ).2 (6 + b) z))), (4, vI ((σ).2 (6 + b) z)), (2, vI (a)), (0, .ref (gd g (4 + b))), (1, .ref (gd g (4 + e)))] rfl (by decide) rfl ?_
      refine j_goto (tgt := 4) hC dX0_countCommon_71 (by decide) ?_
      refine j_sub [0, 3, 4, 5] rfl ?_
      first | (rw [if_pos (show coC σ b e z = true from decide_eq_true ⟨h31, h46, h62⟩)]; exact ih (z + 1) (a + 1) (by omega) (by omega)) | (rw [if_neg (show ¬ (coC σ b e z = true) from fun q => (of_decide_eq_true q).1 h31)]; exact ih (z + 1) a (by omega) (by omega)) | (rw [if_neg (show ¬ (coC σ b e z = true) from fun q => h46 (of_decide_eq_true q).2.1)]; exact ih (z + 1) a (by omega) (by omega)) | (rw [if_neg (show ¬ (coC σ b e z = true) from fun q => h62 (of_decide_eq_true q).2.2)]; exact ih (z + 1) a (by omega) (by omega))
    · refine j_aload_n hC dX0_countCommon_34 5 rfl ?_
      refine j_aload_n hC dX0_countCommon_35 4 rfl ?_
      refine j_get hC inX0 rfl (4 + b) (hw_bk g _ hb) 1 (by decide) wd45 rfl dX0_countCommon_36 ?_
      refine j_iload_n hC dX0_countCommon_39 2 rfl ?_
      refine j_iald hC (9 + b) (hw_lk g _ hb) (by omega) dX0_countCommon_40 ?_
      refine j_callV1 (ar := 1) hC hR (c_X0_meaningRead (hlJ hC) g σ hI he ((σ).2 (1 + b) z) (by omega)) [] rfl (4 + e) (hw_bk g _ he) rfl rfl (by decide) (by decide +kernel) rfl wd313 wd303 wp15 wd3 wd304 (by first | decide | omega) (Nat.le_of_ble_eq_true rfl) dX0_countCommon_41 ?_
      have hf41 := mrB_rg hI he ((σ).2 (1 + b) z)
      refine j_iload hC dX0_countCommon_44 1 rfl ?_
      refine j_icmp_ne (tgt := 68) hC dX0_countCommon_46 (by decide) (by omega) (fun h46 => ?_) (fun h46 => ?_)
      · refine j_iinc hC dX0_countCommon_68 2 [(3, vI (z + 1)), (5, vI (findB σ e ((σ).2 (6 + b) z))), (4, vI ((σ).2 (6 + b) z)), (2, vI (a)), (0, .ref (gd g (4 + b))), (1, .ref (gd g (4 + e)))] rfl (by decide) rfl ?_
        refine j_goto (tgt := 4) hC dX0_countCommon_71 (by decide) ?_
        refine j_sub [0, 3, 4, 5] rfl ?_
        first | (rw [if_pos (show coC σ b e z = true from decide_eq_true ⟨h31, h46, h62⟩)]; exact ih (z + 1) (a + 1) (by omega) (by omega)) | (rw [if_neg (show ¬ (coC σ b e z = true) from fun q => (of_decide_eq_true q).1 h31)]; exact ih (z + 1) a (by omega) (by omega)) | (rw [if_neg (show ¬ (coC σ b e z = true) from fun q => h46 (of_decide_eq_true q).2.1)]; exact ih (z + 1) a (by omega) (by omega)) | (rw [if_neg (show ¬ (coC σ b e z = true) from fun q => h62 (of_decide_eq_true q).2.2)]; exact ih (z + 1) a (by omega) (by omega))
      · refine j_aload_n hC dX0_countCommon_49 4 rfl ?_
        refine j_aload_n hC dX0_countCommon_50 5 rfl ?_
        refine j_get hC inX0 rfl (4 + e) (hw_bk g _ he) 1 (by decide) wd45 rfl dX0_countCommon_51 ?_
        refine j_iload hC dX0_countCommon_54 0 rfl ?_
        refine j_iald hC (9 + e) (hw_lk g _ he) (by omega) dX0_countCommon_56 ?_
        refine j_callV1 (ar := 1) hC hR (c_X0_meaningRead (hlJ hC) g σ hI hb ((σ).2 (1 + e) (findB σ e ((σ).2 (6 + b) z))) (by omega)) [] rfl (4 + b) (hw_bk g _ hb) rfl rfl (by decide) (by decide +kernel) rfl wd313 wd303 wp15 wd3 wd304 (by first | decide | omega) (Nat.le_of_ble_eq_true rfl) dX0_countCommon_57 ?_
        have hf57 := mrB_rg hI hb ((σ).2 (1 + e) (findB σ e ((σ).2 (6 + b) z)))
        refine j_iload hC dX0_countCommon_60 1 rfl ?_
        refine j_icmp_ne (tgt := 68) hC dX0_countCommon_62 (by decide) (by omega) (fun h62 => ?_) (fun h62 => ?_)
        · refine j_iinc hC dX0_countCommon_68 2 [(3, vI (z + 1)), (5, vI (findB σ e ((σ).2 (6 + b) z))), (4, vI ((σ).2 (6 + b) z)), (2, vI (a)), (0, .ref (gd g (4 + b))), (1, .ref (gd g (4 + e)))] rfl (by decide) rfl ?_
          refine j_goto (tgt := 4) hC dX0_countCommon_71 (by decide) ?_
          refine j_sub [0, 3, 4, 5] rfl ?_
          first | (rw [if_pos (show coC σ b e z = true from decide_eq_true ⟨h31, h46, h62⟩)]; exact ih (z + 1) (a + 1) (by omega) (by omega)) | (rw [if_neg (show ¬ (coC σ b e z = true) from fun q => (of_decide_eq_true q).1 h31)]; exact ih (z + 1) a (by omega) (by omega)) | (rw [if_neg (show ¬ (coC σ b e z = true) from fun q => h46 (of_decide_eq_true q).2.1)]; exact ih (z + 1) a (by omega) (by omega)) | (rw [if_neg (show ¬ (coC σ b e z = true) from fun q => h62 (of_decide_eq_true q).2.2)]; exact ih (z + 1) a (by omega) (by omega))
        · refine j_iinc hC dX0_countCommon_65 3 [(2, vI (a + 1)), (5, vI (findB σ e ((σ).2 (6 + b) z))), (4, vI ((σ).2 (6 + b) z)), (3, vI (z)), (0, .ref (gd g (4 + b))), (1, .ref (gd g (4 + e)))] rfl (by decide) rfl ?_
          refine j_iinc hC dX0_countCommon_68 3 [(3, vI (z + 1)), (2, vI (a + 1)), (5, vI (findB σ e ((σ).2 (6 + b) z))), (4, vI ((σ).2 (6 + b) z)), (0, .ref (gd g (4 + b))), (1, .ref (gd g (4 + e)))] rfl (by decide) rfl ?_
          refine j_goto (tgt := 4) hC dX0_countCommon_71 (by decide) ?_
          refine j_sub [0, 1, 4, 5] rfl ?_
          first | (rw [if_pos (show coC σ b e z = true from decide_eq_true ⟨h31, h46, h62⟩)]; exact ih (z + 1) (a + 1) (by omega) (by omega)) | (rw [if_neg (show ¬ (coC σ b e z = true) from fun q => (of_decide_eq_true q).1 h31)]; exact ih (z + 1) a (by omega) (by omega)) | (rw [if_neg (show ¬ (coC σ b e z = true) from fun q => h46 (of_decide_eq_true q).2.1)]; exact ih (z + 1) a (by omega) (by omega)) | (rw [if_neg (show ¬ (coC σ b e z = true) from fun q => h62 (of_decide_eq_true q).2.2)]; exact ih (z + 1) a (by omega) (by omega))
set_option maxHeartbeats 4000000 in
set_option maxRecDepth 100000 in
theorem c_X0_countCommon {l : Launch} (hl : l.stackTraces = false) (g : GG) (σ : Sg) (hI : IC σ) {b : Nat} (hb : b < 5) {e : Nat} (he : e < 5) : CN l yX0_countCommon cX0_countCommon 6 (some .int) 4 96 0 0 g [.ref (gd g (4 + b)), .ref (gd g (4 + e))] σ (pt (some (vI (ccB σ b e))) (σ)) := by
  refine CN_of (own := RX0) hl (by decide) rfl (Nat.le_of_ble_eq_true rfl) (fun mc hC _ hR => ?_)
  refine j_lv (lv2 := [(0, .ref (gd g (4 + b))), (1, .ref (gd g (4 + e)))]) rfl ?_
  have hn2 := cN_eq hI hb
  refine j_iconst hC dX0_countCommon_0 ?_
  refine j_istore_n hC dX0_countCommon_1 [(2, vI (0)), (0, .ref (gd g (4 + b))), (1, .ref (gd g (4 + e)))] (by decide) rfl ?_
  refine j_iconst hC dX0_countCommon_2 ?_
  refine j_istore_n hC dX0_countCommon_3 [(3, vI (0)), (2, vI (0)), (0, .ref (gd g (4 + b))), (1, .ref (gd g (4 + e)))] (by decide) rfl ?_
  refine j_sub [0, 1, 2, 3] rfl ?_
  exact lp_countCommon hC hR hI hb he (cN σ b) 0 0 (by omega) (by omega)
