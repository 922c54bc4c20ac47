theorem wrM_n (σ : Sg) (l s t p m x : Int) : (wrM σ l s t p m x).2 11 l - 1 = σ.2 11 l := by
  have e : (wrM σ l s t p m x).2 11 l = if l = l then σ.2 11 l + 1 else σ.2 11 l := rfl
  rw [e, if_pos rfl]
  omega
def clA (σ : Sg) (l s : Int) : Sg := clF 16 (16 * l + (σ.2 11 l - 1) - (16 * l + s)).toNat (16 * l + s) (clF 15 (16 * l + (σ.2 11 l - 1) - (16 * l + s)).toNat (16 * l + s) (clF 14 (16 * l + (σ.2 11 l - 1) - (16 * l + s)).toNat (16 * l + s) (clF 13 (16 * l + (σ.2 11 l - 1) - (16 * l + s)).toNat (16 * l + s) (clF 12 (16 * l + (σ.2 11 l - 1) - (16 * l + s)).toNat (16 * l + s) σ))))
def fgN (σ : Sg) (l s : Int) : Sg := sG (clA σ l s) 11 l ((clA σ l s).2 11 l - 1)
set_option maxHeartbeats 4000000 in
set_option maxRecDepth 100000 in
theorem tl_addLodge_ok {mc : MC} {g : GG} {σ : Sg} (hC : Cx mc g cX4_addLodge RX4 1 (some .int)) (hR : mR mc = rmJ 1 21 0 0) (hI : IM σ) (hn : σ.1 8 ≠ 4) : J mc g 0 0 (QN mc g (pt (some (vI (σ.1 8))) (sF σ 8 (σ.1 8 + 1))) 0 0) 5 [(0, .ref (gd g (19)))] [] σ := by
  have hI1 := hI.1
  refine j_aload_n hC dX4_addLodge_5 0 rfl ?_
  refine j_get hC inX4 rfl 19 rfl 1 (by decide) wd583 rfl dX4_addLodge_6 ?_
  refine j_iconst hC dX4_addLodge_9 ?_
  refine j_icmp_ne (tgt := 19) hC dX4_addLodge_10 (by decide) (by omega) (fun _ => ?_) (fun h => absurd h (by omega))
  refine j_aload_n hC dX4_addLodge_19 0 rfl ?_
  refine j_dup hC dX4_addLodge_20 rfl ?_
  refine j_get hC inX4 rfl 19 rfl 1 (by decide) wd583 rfl dX4_addLodge_21 ?_
  refine j_iconst hC dX4_addLodge_24 ?_
  refine j_iadd hC dX4_addLodge_25 ?_
  refine j_put (τ := sF (σ) 8 (((σ).1 8) + 1)) hC inX4 tyX4_ok nmX4 rfl 19 rfl 1 (by decide) wd583 rfl rfl (Nat.le_of_ble_eq_true rfl) rfl dX4_addLodge_26 ?_
  refine j_aload_n hC dX4_addLodge_29 0 rfl ?_
  refine j_get hC inX4 rfl 19 rfl 1 (by decide) wd583 rfl dX4_addLodge_30 ?_
  refine j_iconst hC dX4_addLodge_33 ?_
  refine j_isub hC dX4_addLodge_34 ?_
  exact j_iret hC dX4_addLodge_35 ⟨congrArg (fun z => some (vI z)) (show σ.1 8 + 1 - 1 = σ.1 8 by omega), rfl⟩
set_option maxHeartbeats 4000000 in
set_option maxRecDepth 100000 in
theorem c_X4_addLodge_ok {L0 : Launch} (hL0 : L0.stackTraces = false) (g : GG) (σ : Sg) (hI : IM σ) (hn : σ.1 8 ≠ 4) : CN L0 yX4_addLodge cX4_addLodge 1 (some .int) 1 21 0 0 g [.ref (gd g (19))] σ (pt (some (vI ((sF σ 7 0).1 8))) (sF (sF σ 7 0) 8 ((sF σ 7 0).1 8 + 1))) := by
  refine CN_of (own := RX4) hL0 (by decide) rfl (Nat.le_of_ble_eq_true rfl) (fun mc hC _ hR => ?_)
  refine j_lv (lv2 := [(0, .ref (gd g (19)))]) rfl ?_
  refine j_aload_n hC dX4_addLodge_0 0 rfl ?_
  refine j_iconst hC dX4_addLodge_1 ?_
  refine j_put (τ := sF (σ) 7 (0)) hC inX4 tyX4_ok nmX4 rfl 19 rfl 0 (by decide) wd582 rfl rfl (Nat.le_of_ble_eq_true rfl) rfl dX4_addLodge_2 ?_
  exact tl_addLodge_ok hC hR (IM_t hI (by omega)) hn
set_option maxHeartbeats 4000000 in
set_option maxRecDepth 100000 in
theorem tl_addLodge_b1 {mc : MC} {g : GG} {σ : Sg} (hC : Cx mc g cX4_addLodge RX4 1 (some .int)) (hR : mR mc = rmJ 1 21 0 0) (hI : IM σ) (hn : σ.1 8 = 4) : J mc g 0 0 (QN mc g (pt (some (vI 0)) (sF σ 7 1)) 0 0) 5 [(0, .ref (gd g (19)))] [] σ := by
  have hI1 := hI.1
  refine j_aload_n hC dX4_addLodge_5 0 rfl ?_
  refine j_get hC inX4 rfl 19 rfl 1 (by decide) wd583 rfl dX4_addLodge_6 ?_
  refine j_iconst hC dX4_addLodge_9 ?_
  refine j_icmp_ne (tgt := 19) hC dX4_addLodge_10 (by decide) (by omega) (fun h => absurd h (by omega)) (fun _ => ?_)
  refine j_aload_n hC dX4_addLodge_13 0 rfl ?_
  refine j_iconst hC dX4_addLodge_14 ?_
  refine j_callV1 (ar := 1) hC hR (c_X4_fail (hlJ hC) g σ 1) [] rfl 19 rfl rfl rfl (by decide) (by decide +kernel) rfl wd618 wd620 wp30 wd4 wd621 (by decide) (Nat.le_of_ble_eq_true rfl) dX4_addLodge_15 ?_
  exact j_iret hC dX4_addLodge_18 ⟨rfl, rfl⟩
set_option maxHeartbeats 4000000 in
set_option maxRecDepth 100000 in
theorem c_X4_addLodge_b1 {L0 : Launch} (hL0 : L0.stackTraces = false) (g : GG) (σ : Sg) (hI : IM σ) (hn : σ.1 8 = 4) : CN L0 yX4_addLodge cX4_addLodge 1 (some .int) 1 21 0 0 g [.ref (gd g (19))] σ (pt (some (vI 0)) (sF (sF σ 7 0) 7 1)) := by
  refine CN_of (own := RX4) hL0 (by decide) rfl (Nat.le_of_ble_eq_true rfl) (fun mc hC _ hR => ?_)
  refine j_lv (lv2 := [(0, .ref (gd g (19)))]) rfl ?_
  refine j_aload_n hC dX4_addLodge_0 0 rfl ?_
  refine j_iconst hC dX4_addLodge_1 ?_
  refine j_put (τ := sF (σ) 7 (0)) hC inX4 tyX4_ok nmX4 rfl 19 rfl 0 (by decide) wd582 rfl rfl (Nat.le_of_ble_eq_true rfl) rfl dX4_addLodge_2 ?_
  exact tl_addLodge_b1 hC hR (IM_t hI (by omega)) hn
set_option maxHeartbeats 4000000 in
set_option maxRecDepth 100000 in
theorem tl_addSign_b1 {mc : MC} {g : GG} {σ : Sg} (hC : Cx mc g cX4_addSign RX4 7 (some .int)) (hR : mR mc = rmJ 3 65 0 0) (hI : IM σ) (a sh th pl mv x : Int) (hr : -2147483648 ≤ a ∧ a < 2147483648 ∧ -2147483648 ≤ sh ∧ sh < 2147483648 ∧ -2147483648 ≤ th ∧ th < 2147483648 ∧ -2147483648 ≤ pl ∧ pl < 2147483648 ∧ -2147483648 ≤ mv ∧ mv < 2147483648 ∧ -2147483648 ≤ x ∧ x < 2147483648) (ha : ¬ (0 ≤ a ∧ a < σ.1 8)) : J mc g 0 0 (QN mc g (pt (some (vI 0)) (sF σ 7 1)) 0 0) 5 [(0, .ref (gd g (19))), (1, vI (a)), (2, vI (sh)), (3, vI (th)), (4, vI (pl)), (5, vI (mv)), (6, vI (x))] [] σ := by
  have hI1 := hI.1
  refine j_aload_n hC dX4_addSign_5 0 rfl ?_
  refine j_iload_n hC dX4_addSign_6 1 rfl ?_
  refine j_callV1 (ar := 1) hC hR (c_X4_isLodge (hlJ hC) g σ hI a (by omega)) [] rfl 19 rfl rfl rfl (by decide) (by decide +kernel) rfl wd626 wd628 wp31 wd4 wd629 (by decide) (Nat.le_of_ble_eq_true rfl) dX4_addSign_7 ?_
  refine j_ifb_ne (tgt := 19) hC dX4_addSign_10 (by decide) (fun h => absurd h (by omega)) (fun _ => ?_)
  refine j_aload_n hC dX4_addSign_13 0 rfl ?_
  refine j_iconst hC dX4_addSign_14 ?_
  refine j_callV1 (ar := 1) hC hR (c_X4_fail (hlJ hC) g σ 1) [] rfl 19 rfl rfl rfl (by decide) (by decide +kernel) rfl wd618 wd620 wp30 wd4 wd621 (by decide) (Nat.le_of_ble_eq_true rfl) dX4_addSign_15 ?_
  exact j_iret hC dX4_addSign_18 ⟨rfl, rfl⟩
set_option maxHeartbeats 4000000 in
set_option maxRecDepth 100000 in
theorem c_X4_addSign_b1 {L0 : Launch} (hL0 : L0.stackTraces = false) (g : GG) (σ : Sg) (hI : IM σ) (a sh th pl mv x : Int) (hr : -2147483648 ≤ a ∧ a < 2147483648 ∧ -2147483648 ≤ sh ∧ sh < 2147483648 ∧ -2147483648 ≤ th ∧ th < 2147483648 ∧ -2147483648 ≤ pl ∧ pl < 2147483648 ∧ -2147483648 ≤ mv ∧ mv < 2147483648 ∧ -2147483648 ≤ x ∧ x < 2147483648) (ha : ¬ (0 ≤ a ∧ a < σ.1 8)) : CN L0 yX4_addSign cX4_addSign 7 (some .int) 3 65 0 0 g [.ref (gd g (19)), vI (a), vI (sh), vI (th), vI (pl), vI (mv), vI (x)] σ (pt (some (vI 0)) (sF (sF σ 7 0) 7 1)) := by
  refine CN_of (own := RX4) hL0 (by decide) rfl (Nat.le_of_ble_eq_true rfl) (fun mc hC _ hR => ?_)
  refine j_lv (lv2 := [(0, .ref (gd g (19))), (1, vI (a)), (2, vI (sh)), (3, vI (th)), (4, vI (pl)), (5, vI (mv)), (6, vI (x))]) rfl ?_
  refine j_aload_n hC dX4_addSign_0 0 rfl ?_
  refine j_iconst hC dX4_addSign_1 ?_
  refine j_put (τ := sF (σ) 7 (0)) hC inX4 tyX4_ok nmX4 rfl 19 rfl 0 (by decide) wd582 rfl rfl (Nat.le_of_ble_eq_true rfl) rfl dX4_addSign_2 ?_
  exact tl_addSign_b1 hC hR (IM_t hI (by omega)) a sh th pl mv x hr ha
set_option maxHeartbeats 4000000 in
set_option maxRecDepth 100000 in
theorem tl_addSign_b2 {mc : MC} {g : GG} {σ : Sg} (hC : Cx mc g cX4_addSign RX4 7 (some .int)) (hR : mR mc = rmJ 3 65 0 0) (hI : IM σ) (a sh th pl mv x : Int) (hr : -2147483648 ≤ a ∧ a < 2147483648 ∧ -2147483648 ≤ sh ∧ sh < 2147483648 ∧ -2147483648 ≤ th ∧ th < 2147483648 ∧ -2147483648 ≤ pl ∧ pl < 2147483648 ∧ -2147483648 ≤ mv ∧ mv < 2147483648 ∧ -2147483648 ≤ x ∧ x < 2147483648) (ha : 0 ≤ a ∧ a < σ.1 8) (hp : ¬ ((0 ≤ sh ∧ sh < 16 ∧ 0 ≤ th ∧ th < 4 ∧ 0 ≤ pl ∧ pl < 9 ∧ 0 ≤ mv ∧ mv < 4) ∧ (0 ≤ x ∧ x < 30))) : J mc g 0 0 (QN mc g (pt (some (vI 0)) (sF σ 7 2)) 0 0) 5 [(0, .ref (gd g (19))), (1, vI (a)), (2, vI (sh)), (3, vI (th)), (4, vI (pl)), (5, vI (mv)), (6, vI (x))] [] σ := by
  have hI1 := hI.1
  refine j_aload_n hC dX4_addSign_5 0 rfl ?_
  refine j_iload_n hC dX4_addSign_6 1 rfl ?_
  refine j_callV1 (ar := 1) hC hR (c_X4_isLodge (hlJ hC) g σ hI a (by omega)) [] rfl 19 rfl rfl rfl (by decide) (by decide +kernel) rfl wd626 wd628 wp31 wd4 wd629 (by decide) (Nat.le_of_ble_eq_true rfl) dX4_addSign_7 ?_
  refine j_ifb_ne (tgt := 19) hC dX4_addSign_10 (by decide) (fun _ => ?_) (fun h => (h (by omega)).elim)
  refine j_iload_n hC dX4_addSign_19 2 rfl ?_
  refine j_iload_n hC dX4_addSign_20 3 rfl ?_
  refine j_iload hC dX4_addSign_21 4 rfl ?_
  refine j_iload hC dX4_addSign_23 5 rfl ?_
  refine j_callS1 (ar := 4) hC hR (c_X4_isShown (hlJ hC) g σ sh th pl mv (by omega)) [] rfl (by decide) (by decide +kernel) rfl wd633 wd634 wd4 wd635 (by decide) (Nat.le_of_ble_eq_true rfl) dX4_addSign_25 ?_
  refine j_ifb_eq (tgt := 42) hC dX4_addSign_28 (by decide) (fun h28 => ?_) (fun h28 => ?_)
  · refine j_aload_n hC dX4_addSign_42 0 rfl ?_
    refine j_iconst hC dX4_addSign_43 ?_
    refine j_callV1 (ar := 1) hC hR (c_X4_fail (hlJ hC) g σ 2) [] rfl 19 rfl rfl rfl (by decide) (by decide +kernel) rfl wd618 wd620 wp30 wd4 wd621 (by decide) (Nat.le_of_ble_eq_true rfl) dX4_addSign_44 ?_
    exact j_iret hC dX4_addSign_47 ⟨rfl, rfl⟩
  · refine j_iload hC dX4_addSign_31 6 rfl ?_
    refine j_iconst hC dX4_addSign_33 ?_
    refine j_bipush hC dX4_addSign_34 (by decide) ?_
    refine j_callS1 (ar := 3) hC hR (c_X4_isIn (hlJ hC) g σ x 0 29 (by omega)) [] rfl (by decide) (by decide +kernel) rfl wd630 wd631 wd4 wd632 (by decide) (Nat.le_of_ble_eq_true rfl) dX4_addSign_36 ?_
    refine j_ifb_ne (tgt := 48) hC dX4_addSign_39 (by decide) (fun h => absurd h (by omega)) (fun _ => ?_)
    refine j_aload_n hC dX4_addSign_42 0 rfl ?_
    refine j_iconst hC dX4_addSign_43 ?_
    refine j_callV1 (ar := 1) hC hR (c_X4_fail (hlJ hC) g σ 2) [] rfl 19 rfl rfl rfl (by decide) (by decide +kernel) rfl wd618 wd620 wp30 wd4 wd621 (by decide) (Nat.le_of_ble_eq_true rfl) dX4_addSign_44 ?_
    exact j_iret hC dX4_addSign_47 ⟨rfl, rfl⟩
set_option maxHeartbeats 4000000 in
set_option maxRecDepth 100000 in
theorem c_X4_addSign_b2 {L0 : Launch} (hL0 : L0.stackTraces = false) (g : GG) (σ : Sg) (hI : IM σ) (a sh th pl mv x : Int) (hr : -2147483648 ≤ a ∧ a < 2147483648 ∧ -2147483648 ≤ sh ∧ sh < 2147483648 ∧ -2147483648 ≤ th ∧ th < 2147483648 ∧ -2147483648 ≤ pl ∧ pl < 2147483648 ∧ -2147483648 ≤ mv ∧ mv < 2147483648 ∧ -2147483648 ≤ x ∧ x < 2147483648) (ha : 0 ≤ a ∧ a < σ.1 8) (hp : ¬ ((0 ≤ sh ∧ sh < 16 ∧ 0 ≤ th ∧ th < 4 ∧ 0 ≤ pl ∧ pl < 9 ∧ 0 ≤ mv ∧ mv < 4) ∧ (0 ≤ x ∧ x < 30))) : CN L0 yX4_addSign cX4_addSign 7 (some .int) 3 65 0 0 g [.ref (gd g (19)), vI (a), vI (sh), vI (th), vI (pl), vI (mv), vI (x)] σ (pt (some (vI 0)) (sF (sF σ 7 0) 7 2)) := by
  refine CN_of (own := RX4) hL0 (by decide) rfl (Nat.le_of_ble_eq_true rfl) (fun mc hC _ hR => ?_)
  refine j_lv (lv2 := [(0, .ref (gd g (19))), (1, vI (a)), (2, vI (sh)), (3, vI (th)), (4, vI (pl)), (5, vI (mv)), (6, vI (x))]) rfl ?_
  refine j_aload_n hC dX4_addSign_0 0 rfl ?_
  refine j_iconst hC dX4_addSign_1 ?_
  refine j_put (τ := sF (σ) 7 (0)) hC inX4 tyX4_ok nmX4 rfl 19 rfl 0 (by decide) wd582 rfl rfl (Nat.le_of_ble_eq_true rfl) rfl dX4_addSign_2 ?_
  exact tl_addSign_b2 hC hR (IM_t hI (by omega)) a sh th pl mv x hr ha hp
set_option maxHeartbeats 4000000 in
set_option maxRecDepth 100000 in
theorem tl_addSign_b3 {mc : MC} {g : GG} {σ : Sg} (hC : Cx mc g cX4_addSign RX4 7 (some .int)) (hR : mR mc = rmJ 3 65 0 0) (hI : IM σ) (a sh th pl mv x : Int) (hr : -2147483648 ≤ a ∧ a < 2147483648 ∧ -2147483648 ≤ sh ∧ sh < 2147483648 ∧ -2147483648 ≤ th ∧ th < 2147483648 ∧ -2147483648 ≤ pl ∧ pl < 2147483648 ∧ -2147483648 ≤ mv ∧ mv < 2147483648 ∧ -2147483648 ≤ x ∧ x < 2147483648) (ha : 0 ≤ a ∧ a < σ.1 8) (hp : 0 ≤ sh ∧ sh < 16 ∧ 0 ≤ th ∧ th < 4 ∧ 0 ≤ pl ∧ pl < 9 ∧ 0 ≤ mv ∧ mv < 4) (hx : 0 ≤ x ∧ x < 30) (hb : σ.2 11 a = 16 ∨ sgM σ a x ≠ -1) : J mc g 0 0 (QN mc g (pt (some (vI 0)) (sF σ 7 3)) 0 0) 5 [(0, .ref (gd g (19))), (1, vI (a)), (2, vI (sh)), (3, vI (th)), (4, vI (pl)), (5, vI (mv)), (6, vI (x))] [] σ := by
  have hI1 := hI.1
  have hna := hI.2.2.1 a (by omega) (by omega)
  refine j_aload_n hC dX4_addSign_5 0 rfl ?_
  refine j_iload_n hC dX4_addSign_6 1 rfl ?_
  refine j_callV1 (ar := 1) hC hR (c_X4_isLodge (hlJ hC) g σ hI a (by omega)) [] rfl 19 rfl rfl rfl (by decide) (by decide +kernel) rfl wd626 wd628 wp31 wd4 wd629 (by decide) (Nat.le_of_ble_eq_true rfl) dX4_addSign_7 ?_
  refine j_ifb_ne (tgt := 19) hC dX4_addSign_10 (by decide) (fun _ => ?_) (fun h => (h (by omega)).elim)
  refine j_iload_n hC dX4_addSign_19 2 rfl ?_
  refine j_iload_n hC dX4_addSign_20 3 rfl ?_
  refine j_iload hC dX4_addSign_21 4 rfl ?_
  refine j_iload hC dX4_addSign_23 5 rfl ?_
  refine j_callS1 (ar := 4) hC hR (c_X4_isShown (hlJ hC) g σ sh th pl mv (by omega)) [] rfl (by decide) (by decide +kernel) rfl wd633 wd634 wd4 wd635 (by decide) (Nat.le_of_ble_eq_true rfl) dX4_addSign_25 ?_
  refine j_ifb_eq (tgt := 42) hC dX4_addSign_28 (by decide) (fun h => (h (by omega)).elim) (fun _ => ?_)
  refine j_iload hC dX4_addSign_31 6 rfl ?_
  refine j_iconst hC dX4_addSign_33 ?_
  refine j_bipush hC dX4_addSign_34 (by decide) ?_
  refine j_callS1 (ar := 3) hC hR (c_X4_isIn (hlJ hC) g σ x 0 29 (by omega)) [] rfl (by decide) (by decide +kernel) rfl wd630 wd631 wd4 wd632 (by decide) (Nat.le_of_ble_eq_true rfl) dX4_addSign_36 ?_
  refine j_ifb_ne (tgt := 48) hC dX4_addSign_39 (by decide) (fun _ => ?_) (fun h => (h (by omega)).elim)
  refine j_aload_n hC dX4_addSign_48 0 rfl ?_
  refine j_get hC inX4 rfl 19 rfl 2 (by decide) wd584 rfl dX4_addSign_49 ?_
  refine j_iload_n hC dX4_addSign_52 1 rfl ?_
  refine j_iald hC 20 rfl (by omega) dX4_addSign_53 ?_
  refine j_bipush hC dX4_addSign_54 (by decide) ?_
  refine j_icmp_eq (tgt := 70) hC dX4_addSign_56 (by decide) (by omega) (fun h56 => ?_) (fun h56 => ?_)
  · refine j_aload_n hC dX4_addSign_70 0 rfl ?_
    refine j_iconst hC dX4_addSign_71 ?_
    refine j_callV1 (ar := 1) hC hR (c_X4_fail (hlJ hC) g σ 3) [] rfl 19 rfl rfl rfl (by decide) (by decide +kernel) rfl wd618 wd620 wp30 wd4 wd621 (by decide) (Nat.le_of_ble_eq_true rfl) dX4_addSign_72 ?_
    exact j_iret hC dX4_addSign_75 ⟨rfl, rfl⟩
  · refine j_aload_n hC dX4_addSign_59 0 rfl ?_
    refine j_iload_n hC dX4_addSign_60 1 rfl ?_
    refine j_iload hC dX4_addSign_61 6 rfl ?_
    refine j_callV1 (ar := 2) hC hR (c_X4_signOf (hlJ hC) g σ hI a x (by omega) (by omega)) [] rfl 19 rfl rfl rfl (by decide) (by decide +kernel) rfl wd639 wd641 wp32 wd4 wd642 (by decide) (Nat.le_of_ble_eq_true rfl) dX4_addSign_63 ?_
    have hf63 := sgM_rg hI (l := a) (by omega) x
    refine j_iconst hC dX4_addSign_66 ?_
    refine j_icmp_eq (tgt := 76) hC dX4_addSign_67 (by decide) (by omega) (fun h67 => ?_) (fun h67 => ?_)
    · exact absurd hb (by omega)
    · refine j_aload_n hC dX4_addSign_70 0 rfl ?_
      refine j_iconst hC dX4_addSign_71 ?_
      refine j_callV1 (ar := 1) hC hR (c_X4_fail (hlJ hC) g σ 3) [] rfl 19 rfl rfl rfl (by decide) (by decide +kernel) rfl wd618 wd620 wp30 wd4 wd621 (by decide) (Nat.le_of_ble_eq_true rfl) dX4_addSign_72 ?_
      exact j_iret hC dX4_addSign_75 ⟨rfl, rfl⟩
set_option maxHeartbeats 4000000 in
set_option maxRecDepth 100000 in
theorem c_X4_addSign_b3 {L0 : Launch} (hL0 : L0.stackTraces = false) (g : GG) (σ : Sg) (hI : IM σ) (a sh th pl mv x : Int) (hr : -2147483648 ≤ a ∧ a < 2147483648 ∧ -2147483648 ≤ sh ∧ sh < 2147483648 ∧ -2147483648 ≤ th ∧ th < 2147483648 ∧ -2147483648 ≤ pl ∧ pl < 2147483648 ∧ -2147483648 ≤ mv ∧ mv < 2147483648 ∧ -2147483648 ≤ x ∧ x < 2147483648) (ha : 0 ≤ a ∧ a < σ.1 8) (hp : 0 ≤ sh ∧ sh < 16 ∧ 0 ≤ th ∧ th < 4 ∧ 0 ≤ pl ∧ pl < 9 ∧ 0 ≤ mv ∧ mv < 4) (hx : 0 ≤ x ∧ x < 30) (hb : σ.2 11 a = 16 ∨ sgM σ a x ≠ -1) : CN L0 yX4_addSign cX4_addSign 7 (some .int) 3 65 0 0 g [.ref (gd g (19)), vI (a), vI (sh), vI (th), vI (pl), vI (mv), vI (x)] σ (pt (some (vI 0)) (sF (sF σ 7 0) 7 3)) := by
  refine CN_of (own := RX4) hL0 (by decide) rfl (Nat.le_of_ble_eq_true rfl) (fun mc hC _ hR => ?_)
  refine j_lv (lv2 := [(0, .ref (gd g (19))), (1, vI (a)), (2, vI (sh)), (3, vI (th)), (4, vI (pl)), (5, vI (mv)), (6, vI (x))]) rfl ?_
  refine j_aload_n hC dX4_addSign_0 0 rfl ?_
  refine j_iconst hC dX4_addSign_1 ?_
  refine j_put (τ := sF (σ) 7 (0)) hC inX4 tyX4_ok nmX4 rfl 19 rfl 0 (by decide) wd582 rfl rfl (Nat.le_of_ble_eq_true rfl) rfl dX4_addSign_2 ?_
  exact tl_addSign_b3 hC hR (IM_t hI (by omega)) a sh th pl mv x hr ha hp hx hb
set_option maxHeartbeats 4000000 in
set_option maxRecDepth 100000 in
theorem tl_addSign_ok {mc : MC} {g : GG} {σ : Sg} (hC : Cx mc g cX4_addSign RX4 7 (some .int)) (hR : mR mc = rmJ 3 65 0 0) (hI : IM σ) (a sh th pl mv x : Int) (hr : -2147483648 ≤ a ∧ a < 2147483648 ∧ -2147483648 ≤ sh ∧ sh < 2147483648 ∧ -2147483648 ≤ th ∧ th < 2147483648 ∧ -2147483648 ≤ pl ∧ pl < 2147483648 ∧ -2147483648 ≤ mv ∧ mv < 2147483648 ∧ -2147483648 ≤ x ∧ x < 2147483648) (ha : 0 ≤ a ∧ a < σ.1 8) (hp : 0 ≤ sh ∧ sh < 16 ∧ 0 ≤ th ∧ th < 4 ∧ 0 ≤ pl ∧ pl < 9 ∧ 0 ≤ mv ∧ mv < 4) (hx : 0 ≤ x ∧ x < 30) (hb : ¬ (σ.2 11 a = 16 ∨ sgM σ a x ≠ -1)) : J mc g 0 0 (QN mc g (pt (some (vI (σ.2 11 a))) (wrM σ a sh th pl mv x)) 0 0) 5 [(0, .ref (gd g (19))), (1, vI (a)), (2, vI (sh)), (3, vI (th)), (4, vI (pl)), (5, vI (mv)), (6, vI (x))] [] σ := by
  have hI1 := hI.1
  have hna := hI.2.2.1 a (by omega) (by omega)
  refine j_aload_n hC dX4_addSign_5 0 rfl ?_
  refine j_iload_n hC dX4_addSign_6 1 rfl ?_
  refine j_callV1 (ar := 1) hC hR (c_X4_isLodge (hlJ hC) g σ hI a (by omega)) [] rfl 19 rfl rfl rfl (by decide) (by decide +kernel) rfl wd626 wd628 wp31 wd4 wd629 (by decide) (Nat.le_of_ble_eq_true rfl) dX4_addSign_7 ?_
  refine j_ifb_ne (tgt := 19) hC dX4_addSign_10 (by decide) (fun _ => ?_) (fun h => (h (by omega)).elim)
  refine j_iload_n hC dX4_addSign_19 2 rfl ?_
  refine j_iload_n hC dX4_addSign_20 3 rfl ?_
  refine j_iload hC dX4_addSign_21 4 rfl ?_
  refine j_iload hC dX4_addSign_23 5 rfl ?_
  refine j_callS1 (ar := 4) hC hR (c_X4_isShown (hlJ hC) g σ sh th pl mv (by omega)) [] rfl (by decide) (by decide +kernel) rfl wd633 wd634 wd4 wd635 (by decide) (Nat.le_of_ble_eq_true rfl) dX4_addSign_25 ?_
  refine j_ifb_eq (tgt := 42) hC dX4_addSign_28 (by decide) (fun h => (h (by omega)).elim) (fun _ => ?_)
  refine j_iload hC dX4_addSign_31 6 rfl ?_
  refine j_iconst hC dX4_addSign_33 ?_
  refine j_bipush hC dX4_addSign_34 (by decide) ?_
  refine j_callS1 (ar := 3) hC hR (c_X4_isIn (hlJ hC) g σ x 0 29 (by omega)) [] rfl (by decide) (by decide +kernel) rfl wd630 wd631 wd4 wd632 (by decide) (Nat.le_of_ble_eq_true rfl) dX4_addSign_36 ?_
  refine j_ifb_ne (tgt := 48) hC dX4_addSign_39 (by decide) (fun _ => ?_) (fun h => (h (by omega)).elim)
  refine j_aload_n hC dX4_addSign_48 0 rfl ?_
  refine j_get hC inX4 rfl 19 rfl 2 (by decide) wd584 rfl dX4_addSign_49 ?_
  refine j_iload_n hC dX4_addSign_52 1 rfl ?_
  refine j_iald hC 20 rfl (by omega) dX4_addSign_53 ?_
  refine j_bipush hC dX4_addSign_54 (by decide) ?_
  refine j_icmp_eq (tgt := 70) hC dX4_addSign_56 (by decide) (by omega) (fun h => absurd h (by omega)) (fun _ => ?_)
  refine j_aload_n hC dX4_addSign_59 0 rfl ?_
  refine j_iload_n hC dX4_addSign_60 1 rfl ?_
  refine j_iload hC dX4_addSign_61 6 rfl ?_
  refine j_callV1 (ar := 2) hC hR (c_X4_signOf (hlJ hC) g σ hI a x (by omega) (by omega)) [] rfl 19 rfl rfl rfl (by decide) (by decide +kernel) rfl wd639 wd641 wp32 wd4 wd642 (by decide) (Nat.le_of_ble_eq_true rfl) dX4_addSign_63 ?_
  have hf63 := sgM_rg hI (l := a) (by omega) x
  refine j_iconst hC dX4_addSign_66 ?_
  refine j_icmp_eq (tgt := 76) hC dX4_addSign_67 (by decide) (by omega) (fun _ => ?_) (fun h => absurd h (by omega))
  refine j_aload_n hC dX4_addSign_76 0 rfl ?_
  refine j_iload_n hC dX4_addSign_77 1 rfl ?_
  refine j_iload_n hC dX4_addSign_78 2 rfl ?_
  refine j_iload_n hC dX4_addSign_79 3 rfl ?_
  refine j_iload hC dX4_addSign_80 4 rfl ?_
  refine j_iload hC dX4_addSign_82 5 rfl ?_
  refine j_iload hC dX4_addSign_84 6 rfl ?_
  refine j_callV0 (ar := 6) hC hR (c_X4_write (hlJ hC) g σ a sh th pl mv x (by omega) (by omega)) [] rfl 19 rfl rfl rfl (by decide) (by decide +kernel) rfl wd646 wd648 wp33 wd4 wd649 (by decide) (Nat.le_of_ble_eq_true rfl) dX4_addSign_86 ?_
  refine j_aload_n hC dX4_addSign_89 0 rfl ?_
  refine j_get hC inX4 rfl 19 rfl 2 (by decide) wd584 rfl dX4_addSign_90 ?_
  refine j_iload_n hC dX4_addSign_93 1 rfl ?_
  refine j_iald hC 20 rfl (by omega) dX4_addSign_94 ?_
  refine j_iconst hC dX4_addSign_95 ?_
  refine j_isub hC dX4_addSign_96 ?_
  exact j_iret hC dX4_addSign_97 ⟨congrArg (fun z => some (vI z)) (wrM_n σ a sh th pl mv x), rfl⟩
set_option maxHeartbeats 4000000 in
set_option maxRecDepth 100000 in
theorem c_X4_addSign_ok {L0 : Launch} (hL0 : L0.stackTraces = false) (g : GG) (σ : Sg) (hI : IM σ) (a sh th pl mv x : Int) (hr : -2147483648 ≤ a ∧ a < 2147483648 ∧ -2147483648 ≤ sh ∧ sh < 2147483648 ∧ -2147483648 ≤ th ∧ th < 2147483648 ∧ -2147483648 ≤ pl ∧ pl < 2147483648 ∧ -2147483648 ≤ mv ∧ mv < 2147483648 ∧ -2147483648 ≤ x ∧ x < 2147483648) (ha : 0 ≤ a ∧ a < σ.1 8) (hp : 0 ≤ sh ∧ sh < 16 ∧ 0 ≤ th ∧ th < 4 ∧ 0 ≤ pl ∧ pl < 9 ∧ 0 ≤ mv ∧ mv < 4) (hx : 0 ≤ x ∧ x < 30) (hb : ¬ (σ.2 11 a = 16 ∨ sgM σ a x ≠ -1)) : CN L0 yX4_addSign cX4_addSign 7 (some .int) 3 65 0 0 g [.ref (gd g (19)), vI (a), vI (sh), vI (th), vI (pl), vI (mv), vI (x)] σ (pt (some (vI ((sF σ 7 0).2 11 a))) (wrM (sF σ 7 0) a sh th pl mv x)) := by
  refine CN_of (own := RX4) hL0 (by decide) rfl (Nat.le_of_ble_eq_true rfl) (fun mc hC _ hR => ?_)
  refine j_lv (lv2 := [(0, .ref (gd g (19))), (1, vI (a)), (2, vI (sh)), (3, vI (th)), (4, vI (pl)), (5, vI (mv)), (6, vI (x))]) rfl ?_
  refine j_aload_n hC dX4_addSign_0 0 rfl ?_
  refine j_iconst hC dX4_addSign_1 ?_
  refine j_put (τ := sF (σ) 7 (0)) hC inX4 tyX4_ok nmX4 rfl 19 rfl 0 (by decide) wd582 rfl rfl (Nat.le_of_ble_eq_true rfl) rfl dX4_addSign_2 ?_
  exact tl_addSign_ok hC hR (IM_t hI (by omega)) a sh th pl mv x hr ha hp hx hb
set_option maxHeartbeats 4000000 in
set_option maxRecDepth 100000 in
theorem tl_forget_b1 {mc : MC} {g : GG} {σ : Sg} (hC : Cx mc g cX4_forget RX4 5 (some .int)) (hR : mR mc = rmJ 3 65 0 0) (hI : IM σ) (a s : Int) (hr : -2147483648 ≤ a ∧ a < 2147483648 ∧ -2147483648 ≤ s ∧ s < 2147483648) (hs : ¬ ((0 ≤ a ∧ a < σ.1 8) ∧ (0 ≤ s ∧ s < σ.2 11 a))) : J mc g 0 0 (QN mc g (pt (some (vI 0)) (sF σ 7 1)) 0 0) 5 [(0, .ref (gd g (19))), (1, vI (a)), (2, vI (s))] [] σ := by
  have hI1 := hI.1
  refine j_aload_n hC dX4_forget_5 0 rfl ?_
  refine j_iload_n hC dX4_forget_6 1 rfl ?_
  refine j_iload_n hC dX4_forget_7 2 rfl ?_
  refine j_callV1 (ar := 2) hC hR (c_X4_isSign (hlJ hC) g σ hI a s (by omega)) [] rfl 19 rfl rfl rfl (by decide) (by decide +kernel) rfl wd654 wd656 wp34 wd4 wd657 (by decide) (Nat.le_of_ble_eq_true rfl) dX4_forget_8 ?_
  refine j_ifb_ne (tgt := 20) hC dX4_forget_11 (by decide) (fun h => absurd h (by omega)) (fun _ => ?_)
  refine j_aload_n hC dX4_forget_14 0 rfl ?_
  refine j_iconst hC dX4_forget_15 ?_
  refine j_callV1 (ar := 1) hC hR (c_X4_fail (hlJ hC) g σ 1) [] rfl 19 rfl rfl rfl (by decide) (by decide +kernel) rfl wd618 wd620 wp30 wd4 wd621 (by decide) (Nat.le_of_ble_eq_true rfl) dX4_forget_16 ?_
  exact j_iret hC dX4_forget_19 ⟨rfl, rfl⟩
set_option maxHeartbeats 4000000 in
set_option maxRecDepth 100000 in
theorem c_X4_forget_b1 {L0 : Launch} (hL0 : L0.stackTraces = false) (g : GG) (σ : Sg) (hI : IM σ) (a s : Int) (hr : -2147483648 ≤ a ∧ a < 2147483648 ∧ -2147483648 ≤ s ∧ s < 2147483648) (hs : ¬ ((0 ≤ a ∧ a < σ.1 8) ∧ (0 ≤ s ∧ s < σ.2 11 a))) : CN L0 yX4_forget cX4_forget 5 (some .int) 3 65 0 0 g [.ref (gd g (19)), vI (a), vI (s)] σ (pt (some (vI 0)) (sF (sF σ 7 0) 7 1)) := by
  refine CN_of (own := RX4) hL0 (by decide) rfl (Nat.le_of_ble_eq_true rfl) (fun mc hC _ hR => ?_)
  refine j_lv (lv2 := [(0, .ref (gd g (19))), (1, vI (a)), (2, vI (s))]) rfl ?_
  refine j_aload_n hC dX4_forget_0 0 rfl ?_
  refine j_iconst hC dX4_forget_1 ?_
  refine j_put (τ := sF (σ) 7 (0)) hC inX4 tyX4_ok nmX4 rfl 19 rfl 0 (by decide) wd582 rfl rfl (Nat.le_of_ble_eq_true rfl) rfl dX4_forget_2 ?_
  exact tl_forget_b1 hC hR (IM_t hI (by omega)) a s hr hs
set_option maxHeartbeats 4000000 in
set_option maxRecDepth 100000 in
theorem tl_forget_ok {mc : MC} {g : GG} {σ : Sg} (hC : Cx mc g cX4_forget RX4 5 (some .int)) (hR : mR mc = rmJ 3 65 0 0) (hI : IM σ) (a s : Int) (hr : -2147483648 ≤ a ∧ a < 2147483648 ∧ -2147483648 ≤ s ∧ s < 2147483648) (hs : (0 ≤ a ∧ a < σ.1 8) ∧ (0 ≤ s ∧ s < σ.2 11 a)) : J mc g 0 0 (QN mc g (pt (some (vI (σ.2 16 (16 * a + s)))) (fgN σ a s)) 0 0) 5 [(0, .ref (gd g (19))), (1, vI (a)), (2, vI (s))] [] σ := by
  have hI1 := hI.1
  have hna := hI.2.2.1 a (by omega) (by omega)
  refine j_aload_n hC dX4_forget_5 0 rfl ?_
  refine j_iload_n hC dX4_forget_6 1 rfl ?_
  refine j_iload_n hC dX4_forget_7 2 rfl ?_
  refine j_callV1 (ar := 2) hC hR (c_X4_isSign (hlJ hC) g σ hI a s (by omega)) [] rfl 19 rfl rfl rfl (by decide) (by decide +kernel) rfl wd654 wd656 wp34 wd4 wd657 (by decide) (Nat.le_of_ble_eq_true rfl) dX4_forget_8 ?_
  refine j_ifb_ne (tgt := 20) hC dX4_forget_11 (by decide) (fun _ => ?_) (fun h => (h (by omega)).elim)
  refine j_aload_n hC dX4_forget_20 0 rfl ?_
  refine j_get hC inX4 rfl 19 rfl 7 (by decide) wd589 rfl dX4_forget_21 ?_
  refine j_iload_n hC dX4_forget_24 1 rfl ?_
  refine j_iload_n hC dX4_forget_25 2 rfl ?_
  refine j_callS1 (ar := 2) hC hR (c_X4_at (hlJ hC) g σ a s ) [.ref (gd g (25))] rfl (by decide) (by decide +kernel) rfl wd643 wd644 wd4 wd645 (by decide) (Nat.le_of_ble_eq_true rfl) dX4_forget_26 ?_
  refine j_iald hC 25 rfl (by omega) dX4_forget_29 ?_
  refine j_istore_n hC dX4_forget_30 [(3, vI ((σ).2 16 (16 * a + s))), (0, .ref (gd g (19))), (1, vI (a)), (2, vI (s))] (by decide) rfl ?_
  refine j_iload_n hC dX4_forget_31 2 rfl ?_
  refine j_aload_n hC dX4_forget_32 1 rfl ?_
  refine j_get hC inX4 rfl 19 rfl 2 (by decide) wd584 rfl dX4_forget_33 ?_
  refine j_iload_n hC dX4_forget_36 2 rfl ?_
  refine j_iald hC 20 rfl (by omega) dX4_forget_37 ?_
  refine j_iconst hC dX4_forget_38 ?_
  refine j_isub hC dX4_forget_39 ?_
  refine j_callS1 (ar := 2) hC hR (c_X4_at (hlJ hC) g σ a (((σ).2 11 a) - 1) ) [] rfl (by decide) (by decide +kernel) rfl wd643 wd644 wd4 wd645 (by decide) (Nat.le_of_ble_eq_true rfl) dX4_forget_40 ?_
  refine j_istore hC dX4_forget_43 [(4, vI (16 * a + (((σ).2 11 a) - 1))), (3, vI ((σ).2 16 (16 * a + s))), (0, .ref (gd g (19))), (1, vI (a)), (2, vI (s))] (by decide) rfl ?_
  refine j_aload_n hC dX4_forget_45 2 rfl ?_
  refine j_get hC inX4 rfl 19 rfl 3 (by decide) wd585 rfl dX4_forget_46 ?_
  refine j_iload_n hC dX4_forget_49 3 rfl ?_
  refine j_iload_n hC dX4_forget_50 4 rfl ?_
  refine j_callS1 (ar := 2) hC hR (c_X4_at (hlJ hC) g σ a s ) [.ref (gd g (21))] rfl (by decide) (by decide +kernel) rfl wd643 wd644 wd4 wd645 (by decide) (Nat.le_of_ble_eq_true rfl) dX4_forget_51 ?_
  refine j_iload hC dX4_forget_54 0 rfl ?_
  refine j_callS0 (ar := 3) hC hR (c_X4_close12 (hlJ hC) g σ (16 * a + s) (16 * a + (((σ).2 11 a) - 1)) (by omega)) [] rfl (by decide) (by decide +kernel) rfl wd658 wd659 wd4 wd660 (by decide) (Nat.le_of_ble_eq_true rfl) dX4_forget_56 ?_
  refine j_aload_n hC dX4_forget_59 2 rfl ?_
  refine j_get hC inX4 rfl 19 rfl 4 (by decide) wd586 rfl dX4_forget_60 ?_
  refine j_iload_n hC dX4_forget_63 3 rfl ?_
  refine j_iload_n hC dX4_forget_64 4 rfl ?_
  refine j_callS1 (ar := 2) hC hR (c_X4_at (hlJ hC) g (clF 12 ((16 * a + (((σ).2 11 a) - 1)) - (16 * a + s)).toNat (16 * a + s) σ) a s ) [.ref (gd g (22))] rfl (by decide) (by decide +kernel) rfl wd643 wd644 wd4 wd645 (by decide) (Nat.le_of_ble_eq_true rfl) dX4_forget_65 ?_
  refine j_iload hC dX4_forget_68 0 rfl ?_
  refine j_callS0 (ar := 3) hC hR (c_X4_close13 (hlJ hC) g (clF 12 ((16 * a + (((σ).2 11 a) - 1)) - (16 * a + s)).toNat (16 * a + s) σ) (16 * a + s) (16 * a + (((σ).2 11 a) - 1)) (by omega)) [] rfl (by decide) (by decide +kernel) rfl wd658 wd659 wd4 wd660 (by decide) (Nat.le_of_ble_eq_true rfl) dX4_forget_70 ?_
  refine j_aload_n hC dX4_forget_73 2 rfl ?_
  refine j_get hC inX4 rfl 19 rfl 5 (by decide) wd587 rfl dX4_forget_74 ?_
  refine j_iload_n hC dX4_forget_77 3 rfl ?_
  refine j_iload_n hC dX4_forget_78 4 rfl ?_
  refine j_callS1 (ar := 2) hC hR (c_X4_at (hlJ hC) g (clF 13 ((16 * a + (((σ).2 11 a) - 1)) - (16 * a + s)).toNat (16 * a + s) (clF 12 ((16 * a + (((σ).2 11 a) - 1)) - (16 * a + s)).toNat (16 * a + s) σ)) a s ) [.ref (gd g (23))] rfl (by decide) (by decide +kernel) rfl wd643 wd644 wd4 wd645 (by decide) (Nat.le_of_ble_eq_true rfl) dX4_forget_79 ?_
  refine j_iload hC dX4_forget_82 0 rfl ?_
  refine j_callS0 (ar := 3) hC hR (c_X4_close14 (hlJ hC) g (clF 13 ((16 * a + (((σ).2 11 a) - 1)) - (16 * a + s)).toNat (16 * a + s) (clF 12 ((16 * a + (((σ).2 11 a) - 1)) - (16 * a + s)).toNat (16 * a + s) σ)) (16 * a + s) (16 * a + (((σ).2 11 a) - 1)) (by omega)) [] rfl (by decide) (by decide +kernel) rfl wd658 wd659 wd4 wd660 (by decide) (Nat.le_of_ble_eq_true rfl) dX4_forget_84 ?_
  refine j_aload_n hC dX4_forget_87 2 rfl ?_
  refine j_get hC inX4 rfl 19 rfl 6 (by decide) wd588 rfl dX4_forget_88 ?_
  refine j_iload_n hC dX4_forget_91 3 rfl ?_
  refine j_iload_n hC dX4_forget_92 4 rfl ?_
  refine j_callS1 (ar := 2) hC hR (c_X4_at (hlJ hC) g (clF 14 ((16 * a + (((σ).2 11 a) - 1)) - (16 * a + s)).toNat (16 * a + s) (clF 13 ((16 * a + (((σ).2 11 a) - 1)) - (16 * a + s)).toNat (16 * a + s) (clF 12 ((16 * a + (((σ).2 11 a) - 1)) - (16 * a + s)).toNat (16 * a + s) σ))) a s ) [.ref (gd g (24))] rfl (by decide) (by decide +kernel) rfl wd643 wd644 wd4 wd645 (by decide) (Nat.le_of_ble_eq_true rfl) dX4_forget_93 ?_
  refine j_iload hC dX4_forget_96 0 rfl ?_
  refine j_callS0 (ar := 3) hC hR (c_X4_close15 (hlJ hC) g (clF 14 ((16 * a + (((σ).2 11 a) - 1)) - (16 * a + s)).toNat (16 * a + s) (clF 13 ((16 * a + (((σ).2 11 a) - 1)) - (16 * a + s)).toNat (16 * a + s) (clF 12 ((16 * a + (((σ).2 11 a) - 1)) - (16 * a + s)).toNat (16 * a + s) σ))) (16 * a + s) (16 * a + (((σ).2 11 a) - 1)) (by omega)) [] rfl (by decide) (by decide +kernel) rfl wd658 wd659 wd4 wd660 (by decide) (Nat.le_of_ble_eq_true rfl) dX4_forget_98 ?_
  refine j_aload_n hC dX4_forget_101 2 rfl ?_
  refine j_get hC inX4 rfl 19 rfl 7 (by decide) wd589 rfl dX4_forget_102 ?_
  refine j_iload_n hC dX4_forget_105 3 rfl ?_
  refine j_iload_n hC dX4_forget_106 4 rfl ?_
  refine j_callS1 (ar := 2) hC hR (c_X4_at (hlJ hC) g (clF 15 ((16 * a + (((σ).2 11 a) - 1)) - (16 * a + s)).toNat (16 * a + s) (clF 14 ((16 * a + (((σ).2 11 a) - 1)) - (16 * a + s)).toNat (16 * a + s) (clF 13 ((16 * a + (((σ).2 11 a) - 1)) - (16 * a + s)).toNat (16 * a + s) (clF 12 ((16 * a + (((σ).2 11 a) - 1)) - (16 * a + s)).toNat (16 * a + s) σ)))) a s ) [.ref (gd g (25))] rfl (by decide) (by decide +kernel) rfl wd643 wd644 wd4 wd645 (by decide) (Nat.le_of_ble_eq_true rfl) dX4_forget_107 ?_
  refine j_iload hC dX4_forget_110 0 rfl ?_
  refine j_callS0 (ar := 3) hC hR (c_X4_close16 (hlJ hC) g (clF 15 ((16 * a + (((σ).2 11 a) - 1)) - (16 * a + s)).toNat (16 * a + s) (clF 14 ((16 * a + (((σ).2 11 a) - 1)) - (16 * a + s)).toNat (16 * a + s) (clF 13 ((16 * a + (((σ).2 11 a) - 1)) - (16 * a + s)).toNat (16 * a + s) (clF 12 ((16 * a + (((σ).2 11 a) - 1)) - (16 * a + s)).toNat (16 * a + s) σ)))) (16 * a + s) (16 * a + (((σ).2 11 a) - 1)) (by omega)) [] rfl (by decide) (by decide +kernel) rfl wd658 wd659 wd4 wd660 (by decide) (Nat.le_of_ble_eq_true rfl) dX4_forget_112 ?_
  refine j_aload_n hC dX4_forget_115 2 rfl ?_
  refine j_get hC inX4 rfl 19 rfl 2 (by decide) wd584 rfl dX4_forget_116 ?_
  refine j_iload_n hC dX4_forget_119 3 rfl ?_
  refine j_dup2 hC dX4_forget_120 rfl rfl ?_
  refine j_iald hC 20 rfl (by omega) dX4_forget_121 ?_
  refine j_iconst hC dX4_forget_122 ?_
  refine j_isub hC dX4_forget_123 ?_
  refine j_iast (τ := sG (clF 16 ((16 * a + (((σ).2 11 a) - 1)) - (16 * a + s)).toNat (16 * a + s) (clF 15 ((16 * a + (((σ).2 11 a) - 1)) - (16 * a + s)).toNat (16 * a + s) (clF 14 ((16 * a + (((σ).2 11 a) - 1)) - (16 * a + s)).toNat (16 * a + s) (clF 13 ((16 * a + (((σ).2 11 a) - 1)) - (16 * a + s)).toNat (16 * a + s) (clF 12 ((16 * a + (((σ).2 11 a) - 1)) - (16 * a + s)).toNat (16 * a + s) σ))))) 11 (a) (((clF 16 ((16 * a + (((σ).2 11 a) - 1)) - (16 * a + s)).toNat (16 * a + s) (clF 15 ((16 * a + (((σ).2 11 a) - 1)) - (16 * a + s)).toNat (16 * a + s) (clF 14 ((16 * a + (((σ).2 11 a) - 1)) - (16 * a + s)).toNat (16 * a + s) (clF 13 ((16 * a + (((σ).2 11 a) - 1)) - (16 * a + s)).toNat (16 * a + s) (clF 12 ((16 * a + (((σ).2 11 a) - 1)) - (16 * a + s)).toNat (16 * a + s) σ))))).2 11 a) - 1)) hC 20 rfl rfl (by omega) dX4_forget_124 ?_
  refine j_iload_n hC dX4_forget_125 1 rfl ?_
  exact j_iret hC dX4_forget_126 ⟨rfl, rfl⟩
set_option maxHeartbeats 4000000 in
set_option maxRecDepth 100000 in
theorem c_X4_forget_ok {L0 : Launch} (hL0 : L0.stackTraces = false) (g : GG) (σ : Sg) (hI : IM σ) (a s : Int) (hr : -2147483648 ≤ a ∧ a < 2147483648 ∧ -2147483648 ≤ s ∧ s < 2147483648) (hs : (0 ≤ a ∧ a < σ.1 8) ∧ (0 ≤ s ∧ s < σ.2 11 a)) : CN L0 yX4_forget cX4_forget 5 (some .int) 3 65 0 0 g [.ref (gd g (19)), vI (a), vI (s)] σ (pt (some (vI ((sF σ 7 0).2 16 (16 * a + s)))) (fgN (sF σ 7 0) a s)) := by
  refine CN_of (own := RX4) hL0 (by decide) rfl (Nat.le_of_ble_eq_true rfl) (fun mc hC _ hR => ?_)
  refine j_lv (lv2 := [(0, .ref (gd g (19))), (1, vI (a)), (2, vI (s))]) rfl ?_
  refine j_aload_n hC dX4_forget_0 0 rfl ?_
  refine j_iconst hC dX4_forget_1 ?_
  refine j_put (τ := sF (σ) 7 (0)) hC inX4 tyX4_ok nmX4 rfl 19 rfl 0 (by decide) wd582 rfl rfl (Nat.le_of_ble_eq_true rfl) rfl dX4_forget_2 ?_
  exact tl_forget_ok hC hR (IM_t hI (by omega)) a s hr hs
set_option maxHeartbeats 4000000 in
set_option maxRecDepth 100000 in
theorem tl_setThumb_b1 {mc : MC} {g : GG} {σ : Sg} (hC : Cx mc g cX4_setThumb RX4 5 (some .int)) (hR : mR mc = rmJ 3 65 0 0) (hI : IM σ) (a s t : Int) (hr : -2147483648 ≤ a ∧ a < 2147483648 ∧ -2147483648 ≤ s ∧ s < 2147483648 ∧ -2147483648 ≤ t ∧ t < 2147483648) (hs : ¬ ((0 ≤ a ∧ a < σ.1 8) ∧ (0 ≤ s ∧ s < σ.2 11 a))) : J mc g 0 0 (QN mc g (pt (some (vI 0)) (sF σ 7 1)) 0 0) 5 [(0, .ref (gd g (19))), (1, vI (a)), (2, vI (s)), (3, vI (t))] [] σ := by
  have hI1 := hI.1
  refine j_aload_n hC dX4_setThumb_5 0 rfl ?_
  refine j_iload_n hC dX4_setThumb_6 1 rfl ?_
  refine j_iload_n hC dX4_setThumb_7 2 rfl ?_
  refine j_callV1 (ar := 2) hC hR (c_X4_isSign (hlJ hC) g σ hI a s (by omega)) [] rfl 19 rfl rfl rfl (by decide) (by decide +kernel) rfl wd654 wd656 wp34 wd4 wd657 (by decide) (Nat.le_of_ble_eq_true rfl) dX4_setThumb_8 ?_
  refine j_ifb_ne (tgt := 20) hC dX4_setThumb_11 (by decide) (fun h => absurd h (by omega)) (fun _ => ?_)
  refine j_aload_n hC dX4_setThumb_14 0 rfl ?_
  refine j_iconst hC dX4_setThumb_15 ?_
  refine j_callV1 (ar := 1) hC hR (c_X4_fail (hlJ hC) g σ 1) [] rfl 19 rfl rfl rfl (by decide) (by decide +kernel) rfl wd618 wd620 wp30 wd4 wd621 (by decide) (Nat.le_of_ble_eq_true rfl) dX4_setThumb_16 ?_
  exact j_iret hC dX4_setThumb_19 ⟨rfl, rfl⟩
set_option maxHeartbeats 4000000 in
set_option maxRecDepth 100000 in
theorem c_X4_setThumb_b1 {L0 : Launch} (hL0 : L0.stackTraces = false) (g : GG) (σ : Sg) (hI : IM σ) (a s t : Int) (hr : -2147483648 ≤ a ∧ a < 2147483648 ∧ -2147483648 ≤ s ∧ s < 2147483648 ∧ -2147483648 ≤ t ∧ t < 2147483648) (hs : ¬ ((0 ≤ a ∧ a < σ.1 8) ∧ (0 ≤ s ∧ s < σ.2 11 a))) : CN L0 yX4_setThumb cX4_setThumb 5 (some .int) 3 65 0 0 g [.ref (gd g (19)), vI (a), vI (s), vI (t)] σ (pt (some (vI 0)) (sF (sF σ 7 0) 7 1)) := by
  refine CN_of (own := RX4) hL0 (by decide) rfl (Nat.le_of_ble_eq_true rfl) (fun mc hC _ hR => ?_)
  refine j_lv (lv2 := [(0, .ref (gd g (19))), (1, vI (a)), (2, vI (s)), (3, vI (t))]) rfl ?_
  refine j_aload_n hC dX4_setThumb_0 0 rfl ?_
  refine j_iconst hC dX4_setThumb_1 ?_
  refine j_put (τ := sF (σ) 7 (0)) hC inX4 tyX4_ok nmX4 rfl 19 rfl 0 (by decide) wd582 rfl rfl (Nat.le_of_ble_eq_true rfl) rfl dX4_setThumb_2 ?_
  exact tl_setThumb_b1 hC hR (IM_t hI (by omega)) a s t hr hs
set_option maxHeartbeats 4000000 in
set_option maxRecDepth 100000 in
theorem tl_setThumb_b2 {mc : MC} {g : GG} {σ : Sg} (hC : Cx mc g cX4_setThumb RX4 5 (some .int)) (hR : mR mc = rmJ 3 65 0 0) (hI : IM σ) (a s t : Int) (hr : -2147483648 ≤ a ∧ a < 2147483648 ∧ -2147483648 ≤ s ∧ s < 2147483648 ∧ -2147483648 ≤ t ∧ t < 2147483648) (hs : (0 ≤ a ∧ a < σ.1 8) ∧ (0 ≤ s ∧ s < σ.2 11 a)) (ht : ¬ (0 ≤ t ∧ t < 4)) : J mc g 0 0 (QN mc g (pt (some (vI 0)) (sF σ 7 2)) 0 0) 5 [(0, .ref (gd g (19))), (1, vI (a)), (2, vI (s)), (3, vI (t))] [] σ := by
  have hI1 := hI.1
  have hna := hI.2.2.1 a (by omega) (by omega)
  refine j_aload_n hC dX4_setThumb_5 0 rfl ?_
  refine j_iload_n hC dX4_setThumb_6 1 rfl ?_
  refine j_iload_n hC dX4_setThumb_7 2 rfl ?_
  refine j_callV1 (ar := 2) hC hR (c_X4_isSign (hlJ hC) g σ hI a s (by omega)) [] rfl 19 rfl rfl rfl (by decide) (by decide +kernel) rfl wd654 wd656 wp34 wd4 wd657 (by decide) (Nat.le_of_ble_eq_true rfl) dX4_setThumb_8 ?_
  refine j_ifb_ne (tgt := 20) hC dX4_setThumb_11 (by decide) (fun _ => ?_) (fun h => (h (by omega)).elim)
  refine j_iload_n hC dX4_setThumb_20 3 rfl ?_
  refine j_iconst hC dX4_setThumb_21 ?_
  refine j_iconst hC dX4_setThumb_22 ?_
  refine j_callS1 (ar := 3) hC hR (c_X4_isIn (hlJ hC) g σ t 0 3 (by omega)) [] rfl (by decide) (by decide +kernel) rfl wd630 wd631 wd4 wd632 (by decide) (Nat.le_of_ble_eq_true rfl) dX4_setThumb_23 ?_
  refine j_ifb_ne (tgt := 35) hC dX4_setThumb_26 (by decide) (fun h => absurd h (by omega)) (fun _ => ?_)
  refine j_aload_n hC dX4_setThumb_29 0 rfl ?_
  refine j_iconst hC dX4_setThumb_30 ?_
  refine j_callV1 (ar := 1) hC hR (c_X4_fail (hlJ hC) g σ 2) [] rfl 19 rfl rfl rfl (by decide) (by decide +kernel) rfl wd618 wd620 wp30 wd4 wd621 (by decide) (Nat.le_of_ble_eq_true rfl) dX4_setThumb_31 ?_
  exact j_iret hC dX4_setThumb_34 ⟨rfl, rfl⟩
set_option maxHeartbeats 4000000 in
set_option maxRecDepth 100000 in
theorem c_X4_setThumb_b2 {L0 : Launch} (hL0 : L0.stackTraces = false) (g : GG) (σ : Sg) (hI : IM σ) (a s t : Int) (hr : -2147483648 ≤ a ∧ a < 2147483648 ∧ -2147483648 ≤ s ∧ s < 2147483648 ∧ -2147483648 ≤ t ∧ t < 2147483648) (hs : (0 ≤ a ∧ a < σ.1 8) ∧ (0 ≤ s ∧ s < σ.2 11 a)) (ht : ¬ (0 ≤ t ∧ t < 4)) : CN L0 yX4_setThumb cX4_setThumb 5 (some .int) 3 65 0 0 g [.ref (gd g (19)), vI (a), vI (s), vI (t)] σ (pt (some (vI 0)) (sF (sF σ 7 0) 7 2)) := by
  refine CN_of (own := RX4) hL0 (by decide) rfl (Nat.le_of_ble_eq_true rfl) (fun mc hC _ hR => ?_)
  refine j_lv (lv2 := [(0, .ref (gd g (19))), (1, vI (a)), (2, vI (s)), (3, vI (t))]) rfl ?_
  refine j_aload_n hC dX4_setThumb_0 0 rfl ?_
  refine j_iconst hC dX4_setThumb_1 ?_
  refine j_put (τ := sF (σ) 7 (0)) hC inX4 tyX4_ok nmX4 rfl 19 rfl 0 (by decide) wd582 rfl rfl (Nat.le_of_ble_eq_true rfl) rfl dX4_setThumb_2 ?_
  exact tl_setThumb_b2 hC hR (IM_t hI (by omega)) a s t hr hs ht
set_option maxHeartbeats 4000000 in
set_option maxRecDepth 100000 in
theorem tl_setThumb_ok {mc : MC} {g : GG} {σ : Sg} (hC : Cx mc g cX4_setThumb RX4 5 (some .int)) (hR : mR mc = rmJ 3 65 0 0) (hI : IM σ) (a s t : Int) (hr : -2147483648 ≤ a ∧ a < 2147483648 ∧ -2147483648 ≤ s ∧ s < 2147483648 ∧ -2147483648 ≤ t ∧ t < 2147483648) (hs : (0 ≤ a ∧ a < σ.1 8) ∧ (0 ≤ s ∧ s < σ.2 11 a)) (ht : 0 ≤ t ∧ t < 4) : J mc g 0 0 (QN mc g (pt (some (vI (σ.2 13 (16 * a + s)))) (sG σ 13 (16 * a + s) t)) 0 0) 5 [(0, .ref (gd g (19))), (1, vI (a)), (2, vI (s)), (3, vI (t))] [] σ := by
  have hI1 := hI.1
  have hna := hI.2.2.1 a (by omega) (by omega)
  refine j_aload_n hC dX4_setThumb_5 0 rfl ?_
  refine j_iload_n hC dX4_setThumb_6 1 rfl ?_
  refine j_iload_n hC dX4_setThumb_7 2 rfl ?_
  refine j_callV1 (ar := 2) hC hR (c_X4_isSign (hlJ hC) g σ hI a s (by omega)) [] rfl 19 rfl rfl rfl (by decide) (by decide +kernel) rfl wd654 wd656 wp34 wd4 wd657 (by decide) (Nat.le_of_ble_eq_true rfl) dX4_setThumb_8 ?_
  refine j_ifb_ne (tgt := 20) hC dX4_setThumb_11 (by decide) (fun _ => ?_) (fun h => (h (by omega)).elim)
  refine j_iload_n hC dX4_setThumb_20 3 rfl ?_
  refine j_iconst hC dX4_setThumb_21 ?_
  refine j_iconst hC dX4_setThumb_22 ?_
  refine j_callS1 (ar := 3) hC hR (c_X4_isIn (hlJ hC) g σ t 0 3 (by omega)) [] rfl (by decide) (by decide +kernel) rfl wd630 wd631 wd4 wd632 (by decide) (Nat.le_of_ble_eq_true rfl) dX4_setThumb_23 ?_
  refine j_ifb_ne (tgt := 35) hC dX4_setThumb_26 (by decide) (fun _ => ?_) (fun h => (h (by omega)).elim)
  refine j_aload_n hC dX4_setThumb_35 0 rfl ?_
  refine j_get hC inX4 rfl 19 rfl 4 (by decide) wd586 rfl dX4_setThumb_36 ?_
  refine j_iload_n hC dX4_setThumb_39 1 rfl ?_
  refine j_iload_n hC dX4_setThumb_40 2 rfl ?_
  refine j_callS1 (ar := 2) hC hR (c_X4_at (hlJ hC) g σ a s ) [.ref (gd g (22))] rfl (by decide) (by decide +kernel) rfl wd643 wd644 wd4 wd645 (by decide) (Nat.le_of_ble_eq_true rfl) dX4_setThumb_41 ?_
  refine j_iald hC 22 rfl (by omega) dX4_setThumb_44 ?_
  refine j_istore hC dX4_setThumb_45 [(4, vI ((σ).2 13 (16 * a + s))), (0, .ref (gd g (19))), (1, vI (a)), (2, vI (s)), (3, vI (t))] (by decide) rfl ?_
  refine j_aload_n hC dX4_setThumb_47 1 rfl ?_
  refine j_get hC inX4 rfl 19 rfl 4 (by decide) wd586 rfl dX4_setThumb_48 ?_
  refine j_iload_n hC dX4_setThumb_51 2 rfl ?_
  refine j_iload_n hC dX4_setThumb_52 3 rfl ?_
  refine j_callS1 (ar := 2) hC hR (c_X4_at (hlJ hC) g σ a s ) [.ref (gd g (22))] rfl (by decide) (by decide +kernel) rfl wd643 wd644 wd4 wd645 (by decide) (Nat.le_of_ble_eq_true rfl) dX4_setThumb_53 ?_
  refine j_iload_n hC dX4_setThumb_56 4 rfl ?_
  refine j_iast (τ := sG (σ) 13 (16 * a + s) (t)) hC 22 rfl rfl (by omega) dX4_setThumb_57 ?_
  refine j_iload hC dX4_setThumb_58 0 rfl ?_
  exact j_iret hC dX4_setThumb_60 ⟨rfl, rfl⟩
set_option maxHeartbeats 4000000 in
set_option maxRecDepth 100000 in
theorem c_X4_setThumb_ok {L0 : Launch} (hL0 : L0.stackTraces = false) (g : GG) (σ : Sg) (hI : IM σ) (a s t : Int) (hr : -2147483648 ≤ a ∧ a < 2147483648 ∧ -2147483648 ≤ s ∧ s < 2147483648 ∧ -2147483648 ≤ t ∧ t < 2147483648) (hs : (0 ≤ a ∧ a < σ.1 8) ∧ (0 ≤ s ∧ s < σ.2 11 a)) (ht : 0 ≤ t ∧ t < 4) : CN L0 yX4_setThumb cX4_setThumb 5 (some .int) 3 65 0 0 g [.ref (gd g (19)), vI (a), vI (s), vI (t)] σ (pt (some (vI ((sF σ 7 0).2 13 (16 * a + s)))) (sG (sF σ 7 0) 13 (16 * a + s) t)) := by
  refine CN_of (own := RX4) hL0 (by decide) rfl (Nat.le_of_ble_eq_true rfl) (fun mc hC _ hR => ?_)
  refine j_lv (lv2 := [(0, .ref (gd g (19))), (1, vI (a)), (2, vI (s)), (3, vI (t))]) rfl ?_
  refine j_aload_n hC dX4_setThumb_0 0 rfl ?_
  refine j_iconst hC dX4_setThumb_1 ?_
  refine j_put (τ := sF (σ) 7 (0)) hC inX4 tyX4_ok nmX4 rfl 19 rfl 0 (by decide) wd582 rfl rfl (Nat.le_of_ble_eq_true rfl) rfl dX4_setThumb_2 ?_
  exact tl_setThumb_ok hC hR (IM_t hI (by omega)) a s t hr hs ht
set_option maxHeartbeats 4000000 in
set_option maxRecDepth 100000 in
theorem tl_join_b1 {mc : MC} {g : GG} {σ : Sg} (hC : Cx mc g cX4_join RX4 3 (some .int)) (hR : mR mc = rmJ 2 46 0 0) (hI : IM σ) (p q : Int) (hr : -2147483648 ≤ p ∧ p < 2147483648 ∧ -2147483648 ≤ q ∧ q < 2147483648) (hp : ¬ (0 ≤ p ∧ p < 9 ∧ 0 ≤ q ∧ q < 9)) : J mc g 0 0 (QN mc g (pt (some (vI 0)) (sF σ 7 1)) 0 0) 5 [(0, .ref (gd g (19))), (1, vI (p)), (2, vI (q))] [] σ := by
  refine j_iload_n hC dX4_join_5 1 rfl ?_
  refine j_callS1 (ar := 1) hC hR (c_X4_isPlace (hlJ hC) g σ p (by omega)) [] rfl (by decide) (by decide +kernel) rfl wd636 wd637 wd4 wd638 (by decide) (Nat.le_of_ble_eq_true rfl) dX4_join_6 ?_
  refine j_ifb_eq (tgt := 19) hC dX4_join_9 (by decide) (fun h9 => ?_) (fun h9 => ?_)
  · refine j_aload_n hC dX4_join_19 0 rfl ?_
    refine j_iconst hC dX4_join_20 ?_
    refine j_callV1 (ar := 1) hC hR (c_X4_fail (hlJ hC) g σ 1) [] rfl 19 rfl rfl rfl (by decide) (by decide +kernel) rfl wd618 wd620 wp30 wd4 wd621 (by decide) (Nat.le_of_ble_eq_true rfl) dX4_join_21 ?_
    exact j_iret hC dX4_join_24 ⟨rfl, rfl⟩
  · refine j_iload_n hC dX4_join_12 2 rfl ?_
    refine j_callS1 (ar := 1) hC hR (c_X4_isPlace (hlJ hC) g σ q (by omega)) [] rfl (by decide) (by decide +kernel) rfl wd636 wd637 wd4 wd638 (by decide) (Nat.le_of_ble_eq_true rfl) dX4_join_13 ?_
    refine j_ifb_ne (tgt := 25) hC dX4_join_16 (by decide) (fun h => absurd h (by omega)) (fun _ => ?_)
    refine j_aload_n hC dX4_join_19 0 rfl ?_
    refine j_iconst hC dX4_join_20 ?_
    refine j_callV1 (ar := 1) hC hR (c_X4_fail (hlJ hC) g σ 1) [] rfl 19 rfl rfl rfl (by decide) (by decide +kernel) rfl wd618 wd620 wp30 wd4 wd621 (by decide) (Nat.le_of_ble_eq_true rfl) dX4_join_21 ?_
    exact j_iret hC dX4_join_24 ⟨rfl, rfl⟩
set_option maxHeartbeats 4000000 in
set_option maxRecDepth 100000 in
theorem c_X4_join_b1 {L0 : Launch} (hL0 : L0.stackTraces = false) (g : GG) (σ : Sg) (hI : IM σ) (p q : Int) (hr : -2147483648 ≤ p ∧ p < 2147483648 ∧ -2147483648 ≤ q ∧ q < 2147483648) (hp : ¬ (0 ≤ p ∧ p < 9 ∧ 0 ≤ q ∧ q < 9)) : CN L0 yX4_join cX4_join 3 (some .int) 2 46 0 0 g [.ref (gd g (19)), vI (p), vI (q)] σ (pt (some (vI 0)) (sF (sF σ 7 0) 7 1)) := by
  refine CN_of (own := RX4) hL0 (by decide) rfl (Nat.le_of_ble_eq_true rfl) (fun mc hC _ hR => ?_)
  refine j_lv (lv2 := [(0, .ref (gd g (19))), (1, vI (p)), (2, vI (q))]) rfl ?_
  refine j_aload_n hC dX4_join_0 0 rfl ?_
  refine j_iconst hC dX4_join_1 ?_
  refine j_put (τ := sF (σ) 7 (0)) hC inX4 tyX4_ok nmX4 rfl 19 rfl 0 (by decide) wd582 rfl rfl (Nat.le_of_ble_eq_true rfl) rfl dX4_join_2 ?_
  exact tl_join_b1 hC hR (IM_t hI (by omega)) p q hr hp
set_option maxHeartbeats 4000000 in
set_option maxRecDepth 100000 in
theorem tl_join_ok {mc : MC} {g : GG} {σ : Sg} (hC : Cx mc g cX4_join RX4 3 (some .int)) (hR : mR mc = rmJ 2 46 0 0) (hI : IM σ) (p q : Int) (hr : -2147483648 ≤ p ∧ p < 2147483648 ∧ -2147483648 ≤ q ∧ q < 2147483648) (hp : 0 ≤ p ∧ p < 9 ∧ 0 ≤ q ∧ q < 9) : J mc g 0 0 (QN mc g (pt (some (vI (agM (jnM σ p q)))) (jnM σ p q)) 0 0) 5 [(0, .ref (gd g (19))), (1, vI (p)), (2, vI (q))] [] σ := by
  refine j_iload_n hC dX4_join_5 1 rfl ?_
  refine j_callS1 (ar := 1) hC hR (c_X4_isPlace (hlJ hC) g σ p (by omega)) [] rfl (by decide) (by decide +kernel) rfl wd636 wd637 wd4 wd638 (by decide) (Nat.le_of_ble_eq_true rfl) dX4_join_6 ?_
  refine j_ifb_eq (tgt := 19) hC dX4_join_9 (by decide) (fun h => (h (by omega)).elim) (fun _ => ?_)
  refine j_iload_n hC dX4_join_12 2 rfl ?_
  refine j_callS1 (ar := 1) hC hR (c_X4_isPlace (hlJ hC) g σ q (by omega)) [] rfl (by decide) (by decide +kernel) rfl wd636 wd637 wd4 wd638 (by decide) (Nat.le_of_ble_eq_true rfl) dX4_join_13 ?_
  refine j_ifb_ne (tgt := 25) hC dX4_join_16 (by decide) (fun _ => ?_) (fun h => (h (by omega)).elim)
  refine j_aload_n hC dX4_join_25 0 rfl ?_
  refine j_iload_n hC dX4_join_26 1 rfl ?_
  refine j_iload_n hC dX4_join_27 2 rfl ?_
  refine j_callV0 (ar := 2) hC hR (c_X4_joinNow (hlJ hC) g σ hI p q (by omega)) [] rfl 19 rfl rfl rfl (by decide) (by decide +kernel) rfl wd669 wd671 wp35 wd4 wd672 (by decide) (Nat.le_of_ble_eq_true rfl) dX4_join_28 ?_
  refine j_aload_n hC dX4_join_31 0 rfl ?_
  refine j_callV1 (ar := 0) hC hR (c_X4_allGroups (hlJ hC) g (jnM σ p q) (IM_jn hI (by omega))) [] rfl 19 rfl rfl rfl (by decide) (by decide +kernel) rfl wd677 wd679 wp36 wd4 wd680 (by decide) (Nat.le_of_ble_eq_true rfl) dX4_join_32 ?_
  exact j_iret hC dX4_join_35 ⟨rfl, rfl⟩
set_option maxHeartbeats 4000000 in
set_option maxRecDepth 100000 in
theorem c_X4_join_ok {L0 : Launch} (hL0 : L0.stackTraces = false) (g : GG) (σ : Sg) (hI : IM σ) (p q : Int) (hr : -2147483648 ≤ p ∧ p < 2147483648 ∧ -2147483648 ≤ q ∧ q < 2147483648) (hp : 0 ≤ p ∧ p < 9 ∧ 0 ≤ q ∧ q < 9) : CN L0 yX4_join cX4_join 3 (some .int) 2 46 0 0 g [.ref (gd g (19)), vI (p), vI (q)] σ (pt (some (vI (agM (jnM (sF σ 7 0) p q)))) (jnM (sF σ 7 0) p q)) := by
  refine CN_of (own := RX4) hL0 (by decide) rfl (Nat.le_of_ble_eq_true rfl) (fun mc hC _ hR => ?_)
  refine j_lv (lv2 := [(0, .ref (gd g (19))), (1, vI (p)), (2, vI (q))]) rfl ?_
  refine j_aload_n hC dX4_join_0 0 rfl ?_
  refine j_iconst hC dX4_join_1 ?_
  refine j_put (τ := sF (σ) 7 (0)) hC inX4 tyX4_ok nmX4 rfl 19 rfl 0 (by decide) wd582 rfl rfl (Nat.le_of_ble_eq_true rfl) rfl dX4_join_2 ?_
  exact tl_join_ok hC hR (IM_t hI (by omega)) p q hr hp
set_option maxHeartbeats 4000000 in
set_option maxRecDepth 100000 in
theorem tl_steps_b1 {mc : MC} {g : GG} {σ : Sg} (hC : Cx mc g cX4_steps RX4 3 (some .int)) (hR : mR mc = rmJ 2 42 0 0) (hI : IM σ) (p q : Int) (hr : -2147483648 ≤ p ∧ p < 2147483648 ∧ -2147483648 ≤ q ∧ q < 2147483648) (hp : ¬ (0 ≤ p ∧ p < 9 ∧ 0 ≤ q ∧ q < 9)) : J mc g 0 0 (QN mc g (pt (some (vI 0)) (sF σ 7 1)) 0 0) 5 [(0, .ref (gd g (19))), (1, vI (p)), (2, vI (q))] [] σ := by
  refine j_iload_n hC dX4_steps_5 1 rfl ?_
  refine j_callS1 (ar := 1) hC hR (c_X4_isPlace (hlJ hC) g σ p (by omega)) [] rfl (by decide) (by decide +kernel) rfl wd636 wd637 wd4 wd638 (by decide) (Nat.le_of_ble_eq_true rfl) dX4_steps_6 ?_
  refine j_ifb_eq (tgt := 28) hC dX4_steps_9 (by decide) (fun h9 => ?_) (fun h9 => ?_)
  · refine j_aload_n hC dX4_steps_28 0 rfl ?_
    refine j_iconst hC dX4_steps_29 ?_
    refine j_callV1 (ar := 1) hC hR (c_X4_fail (hlJ hC) g σ 1) [] rfl 19 rfl rfl rfl (by decide) (by decide +kernel) rfl wd618 wd620 wp30 wd4 wd621 (by decide) (Nat.le_of_ble_eq_true rfl) dX4_steps_30 ?_
    exact j_iret hC dX4_steps_33 ⟨rfl, rfl⟩
  · refine j_iload_n hC dX4_steps_12 2 rfl ?_
    refine j_callS1 (ar := 1) hC hR (c_X4_isPlace (hlJ hC) g σ q (by omega)) [] rfl (by decide) (by decide +kernel) rfl wd636 wd637 wd4 wd638 (by decide) (Nat.le_of_ble_eq_true rfl) dX4_steps_13 ?_
    refine j_ifb_eq (tgt := 28) hC dX4_steps_16 (by decide) (fun _ => ?_) (fun h => absurd h (by omega))
    refine j_aload_n hC dX4_steps_28 0 rfl ?_
    refine j_iconst hC dX4_steps_29 ?_
    refine j_callV1 (ar := 1) hC hR (c_X4_fail (hlJ hC) g σ 1) [] rfl 19 rfl rfl rfl (by decide) (by decide +kernel) rfl wd618 wd620 wp30 wd4 wd621 (by decide) (Nat.le_of_ble_eq_true rfl) dX4_steps_30 ?_
    exact j_iret hC dX4_steps_33 ⟨rfl, rfl⟩
set_option maxHeartbeats 4000000 in
set_option maxRecDepth 100000 in
theorem c_X4_steps_b1 {L0 : Launch} (hL0 : L0.stackTraces = false) (g : GG) (σ : Sg) (hI : IM σ) (p q : Int) (hr : -2147483648 ≤ p ∧ p < 2147483648 ∧ -2147483648 ≤ q ∧ q < 2147483648) (hp : ¬ (0 ≤ p ∧ p < 9 ∧ 0 ≤ q ∧ q < 9)) : CN L0 yX4_steps cX4_steps 3 (some .int) 2 42 0 0 g [.ref (gd g (19)), vI (p), vI (q)] σ (pt (some (vI 0)) (sF (sF σ 7 0) 7 1)) := by
  refine CN_of (own := RX4) hL0 (by decide) rfl (Nat.le_of_ble_eq_true rfl) (fun mc hC _ hR => ?_)
  refine j_lv (lv2 := [(0, .ref (gd g (19))), (1, vI (p)), (2, vI (q))]) rfl ?_
  refine j_aload_n hC dX4_steps_0 0 rfl ?_
  refine j_iconst hC dX4_steps_1 ?_
  refine j_put (τ := sF (σ) 7 (0)) hC inX4 tyX4_ok nmX4 rfl 19 rfl 0 (by decide) wd582 rfl rfl (Nat.le_of_ble_eq_true rfl) rfl dX4_steps_2 ?_
  exact tl_steps_b1 hC hR (IM_t hI (by omega)) p q hr hp
set_option maxHeartbeats 4000000 in
set_option maxRecDepth 100000 in
theorem tl_steps_ok {mc : MC} {g : GG} {σ : Sg} (hC : Cx mc g cX4_steps RX4 3 (some .int)) (hR : mR mc = rmJ 2 42 0 0) (hI : IM σ) (p q : Int) (hr : -2147483648 ≤ p ∧ p < 2147483648 ∧ -2147483648 ≤ q ∧ q < 2147483648) (hp : 0 ≤ p ∧ p < 9 ∧ 0 ≤ q ∧ q < 9) : J mc g 0 0 (QN mc g (pt (some (vI (stp (σ.2 17) p q))) (σ)) 0 0) 5 [(0, .ref (gd g (19))), (1, vI (p)), (2, vI (q))] [] σ := by
  refine j_iload_n hC dX4_steps_5 1 rfl ?_
  refine j_callS1 (ar := 1) hC hR (c_X4_isPlace (hlJ hC) g σ p (by omega)) [] rfl (by decide) (by decide +kernel) rfl wd636 wd637 wd4 wd638 (by decide) (Nat.le_of_ble_eq_true rfl) dX4_steps_6 ?_
  refine j_ifb_eq (tgt := 28) hC dX4_steps_9 (by decide) (fun h => (h (by omega)).elim) (fun _ => ?_)
  refine j_iload_n hC dX4_steps_12 2 rfl ?_
  refine j_callS1 (ar := 1) hC hR (c_X4_isPlace (hlJ hC) g σ q (by omega)) [] rfl (by decide) (by decide +kernel) rfl wd636 wd637 wd4 wd638 (by decide) (Nat.le_of_ble_eq_true rfl) dX4_steps_13 ?_
  refine j_ifb_eq (tgt := 28) hC dX4_steps_16 (by decide) (fun h => (h (by omega)).elim) (fun _ => ?_)
  refine j_aload_n hC dX4_steps_19 0 rfl ?_
  refine j_iload_n hC dX4_steps_20 1 rfl ?_
  refine j_iload_n hC dX4_steps_21 2 rfl ?_
  refine j_callV1 (ar := 2) hC hR (c_X4_stepsOf (hlJ hC) g σ hI p q (by omega)) [] rfl 19 rfl rfl rfl (by decide) (by decide +kernel) rfl wd693 wd695 wp39 wd4 wd696 (by decide) (Nat.le_of_ble_eq_true rfl) dX4_steps_22 ?_
  refine j_goto (tgt := 33) hC dX4_steps_25 (by decide) ?_
  exact j_iret hC dX4_steps_33 ⟨rfl, rfl⟩
set_option maxHeartbeats 4000000 in
set_option maxRecDepth 100000 in
theorem c_X4_steps_ok {L0 : Launch} (hL0 : L0.stackTraces = false) (g : GG) (σ : Sg) (hI : IM σ) (p q : Int) (hr : -2147483648 ≤ p ∧ p < 2147483648 ∧ -2147483648 ≤ q ∧ q < 2147483648) (hp : 0 ≤ p ∧ p < 9 ∧ 0 ≤ q ∧ q < 9) : CN L0 yX4_steps cX4_steps 3 (some .int) 2 42 0 0 g [.ref (gd g (19)), vI (p), vI (q)] σ (pt (some (vI (stp ((sF σ 7 0).2 17) p q))) ((sF σ 7 0))) := by
  refine CN_of (own := RX4) hL0 (by decide) rfl (Nat.le_of_ble_eq_true rfl) (fun mc hC _ hR => ?_)
  refine j_lv (lv2 := [(0, .ref (gd g (19))), (1, vI (p)), (2, vI (q))]) rfl ?_
  refine j_aload_n hC dX4_steps_0 0 rfl ?_
  refine j_iconst hC dX4_steps_1 ?_
  refine j_put (τ := sF (σ) 7 (0)) hC inX4 tyX4_ok nmX4 rfl 19 rfl 0 (by decide) wd582 rfl rfl (Nat.le_of_ble_eq_true rfl) rfl dX4_steps_2 ?_
  exact tl_steps_ok hC hR (IM_t hI (by omega)) p q hr hp
set_option maxHeartbeats 4000000 in
set_option maxRecDepth 100000 in
theorem c_X4_areJoined_b1 {L0 : Launch} (hL0 : L0.stackTraces = false) (g : GG) (σ : Sg) (hI : IM σ) (p q : Int) (hr : -2147483648 ≤ p ∧ p < 2147483648 ∧ -2147483648 ≤ q ∧ q < 2147483648) (hp : ¬ (0 ≤ p ∧ p < 9 ∧ 0 ≤ q ∧ q < 9)) : CN L0 yX4_areJoined cX4_areJoined 3 (some .boolean) 2 42 0 0 g [.ref (gd g (19)), vI (p), vI (q)] σ (pt (some (vI 0)) (sF σ 7 1)) := by
  refine CN_of (own := RX4) hL0 (by decide) rfl (Nat.le_of_ble_eq_true rfl) (fun mc hC _ hR => ?_)
  refine j_lv (lv2 := [(0, .ref (gd g (19))), (1, vI (p)), (2, vI (q))]) rfl ?_
  refine j_aload_n hC dX4_areJoined_0 0 rfl ?_
  refine j_iload_n hC dX4_areJoined_1 1 rfl ?_
  refine j_callS1 (ar := 1) hC hR (c_X4_isPlace (hlJ hC) g σ p (by omega)) [.ref (gd g (19))] rfl (by decide) (by decide +kernel) rfl wd636 wd637 wd4 wd638 (by decide) (Nat.le_of_ble_eq_true rfl) dX4_areJoined_2 ?_
  refine j_ifb_eq (tgt := 19) hC dX4_areJoined_5 (by decide) (fun h5 => ?_) (fun h5 => ?_)
  · refine j_iconst hC dX4_areJoined_19 ?_
    refine j_put (τ := sF (σ) 7 (1)) hC inX4 tyX4_ok nmX4 rfl 19 rfl 0 (by decide) wd582 rfl rfl (Nat.le_of_ble_eq_true rfl) rfl dX4_areJoined_20 ?_
    have h7 : (sF σ 7 1).1 7 = 1 := rfl
    refine j_aload_n hC dX4_areJoined_23 0 rfl ?_
    refine j_get hC inX4 rfl 19 rfl 0 (by decide) wd582 rfl dX4_areJoined_24 ?_
    refine j_if_ne (tgt := 49) hC dX4_areJoined_27 (by decide) (by omega) (fun _ => ?_) (fun h => absurd h (by omega))
    refine j_iconst hC dX4_areJoined_49 ?_
    exact j_zret hC (by decide) dX4_areJoined_50 ⟨rfl, rfl⟩
  · refine j_iload_n hC dX4_areJoined_8 2 rfl ?_
    refine j_callS1 (ar := 1) hC hR (c_X4_isPlace (hlJ hC) g σ q (by omega)) [.ref (gd g (19))] rfl (by decide) (by decide +kernel) rfl wd636 wd637 wd4 wd638 (by decide) (Nat.le_of_ble_eq_true rfl) dX4_areJoined_9 ?_
    refine j_ifb_eq (tgt := 19) hC dX4_areJoined_12 (by decide) (fun _ => ?_) (fun h => absurd h (by omega))
    refine j_iconst hC dX4_areJoined_19 ?_
    refine j_put (τ := sF (σ) 7 (1)) hC inX4 tyX4_ok nmX4 rfl 19 rfl 0 (by decide) wd582 rfl rfl (Nat.le_of_ble_eq_true rfl) rfl dX4_areJoined_20 ?_
    have h7 : (sF σ 7 1).1 7 = 1 := rfl
    refine j_aload_n hC dX4_areJoined_23 0 rfl ?_
    refine j_get hC inX4 rfl 19 rfl 0 (by decide) wd582 rfl dX4_areJoined_24 ?_
    refine j_if_ne (tgt := 49) hC dX4_areJoined_27 (by decide) (by omega) (fun _ => ?_) (fun h => absurd h (by omega))
    refine j_iconst hC dX4_areJoined_49 ?_
    exact j_zret hC (by decide) dX4_areJoined_50 ⟨rfl, rfl⟩
set_option maxHeartbeats 4000000 in
set_option maxRecDepth 100000 in
theorem c_X4_areJoined_ok {L0 : Launch} (hL0 : L0.stackTraces = false) (g : GG) (σ : Sg) (hI : IM σ) (p q : Int) (hr : -2147483648 ≤ p ∧ p < 2147483648 ∧ -2147483648 ≤ q ∧ q < 2147483648) (hp : 0 ≤ p ∧ p < 9 ∧ 0 ≤ q ∧ q < 9) : CN L0 yX4_areJoined cX4_areJoined 3 (some .boolean) 2 42 0 0 g [.ref (gd g (19)), vI (p), vI (q)] σ (pt (some (vI (if σ.2 17 p = σ.2 17 q then 1 else 0))) (sF σ 7 0)) := by
  refine CN_of (own := RX4) hL0 (by decide) rfl (Nat.le_of_ble_eq_true rfl) (fun mc hC _ hR => ?_)
  refine j_lv (lv2 := [(0, .ref (gd g (19))), (1, vI (p)), (2, vI (q))]) rfl ?_
  have hg1 := hI.2.2.2.2.2.2.2.2 p (by omega) (by omega)
  have hg2 := hI.2.2.2.2.2.2.2.2 q (by omega) (by omega)
  have hh1 : (sF σ 7 0).2 17 p = σ.2 17 p := rfl
  have hh2 : (sF σ 7 0).2 17 q = σ.2 17 q := rfl
  refine j_aload_n hC dX4_areJoined_0 0 rfl ?_
  refine j_iload_n hC dX4_areJoined_1 1 rfl ?_
  refine j_callS1 (ar := 1) hC hR (c_X4_isPlace (hlJ hC) g σ p (by omega)) [.ref (gd g (19))] rfl (by decide) (by decide +kernel) rfl wd636 wd637 wd4 wd638 (by decide) (Nat.le_of_ble_eq_true rfl) dX4_areJoined_2 ?_
  refine j_ifb_eq (tgt := 19) hC dX4_areJoined_5 (by decide) (fun h => (h (by omega)).elim) (fun _ => ?_)
  refine j_iload_n hC dX4_areJoined_8 2 rfl ?_
  refine j_callS1 (ar := 1) hC hR (c_X4_isPlace (hlJ hC) g σ q (by omega)) [.ref (gd g (19))] rfl (by decide) (by decide +kernel) rfl wd636 wd637 wd4 wd638 (by decide) (Nat.le_of_ble_eq_true rfl) dX4_areJoined_9 ?_
  refine j_ifb_eq (tgt := 19) hC dX4_areJoined_12 (by decide) (fun h => (h (by omega)).elim) (fun _ => ?_)
  refine j_iconst hC dX4_areJoined_15 ?_
  refine j_goto (tgt := 20) hC dX4_areJoined_16 (by decide) ?_
  refine j_put (τ := sF (σ) 7 (0)) hC inX4 tyX4_ok nmX4 rfl 19 rfl 0 (by decide) wd582 rfl rfl (Nat.le_of_ble_eq_true rfl) rfl dX4_areJoined_20 ?_
  have h7 : (sF σ 7 0).1 7 = 0 := rfl
  refine j_aload_n hC dX4_areJoined_23 0 rfl ?_
  refine j_get hC inX4 rfl 19 rfl 0 (by decide) wd582 rfl dX4_areJoined_24 ?_
  refine j_if_ne (tgt := 49) hC dX4_areJoined_27 (by decide) (by omega) (fun h => absurd h (by omega)) (fun _ => ?_)
  refine j_aload_n hC dX4_areJoined_30 0 rfl ?_
  refine j_get hC inX4 rfl 19 rfl 8 (by decide) wd590 rfl dX4_areJoined_31 ?_
  refine j_iload_n hC dX4_areJoined_34 1 rfl ?_
  refine j_iald hC 26 rfl (by omega) dX4_areJoined_35 ?_
  refine j_aload_n hC dX4_areJoined_36 0 rfl ?_
  refine j_get hC inX4 rfl 19 rfl 8 (by decide) wd590 rfl dX4_areJoined_37 ?_
  refine j_iload_n hC dX4_areJoined_40 2 rfl ?_
  refine j_iald hC 26 rfl (by omega) dX4_areJoined_41 ?_
  refine j_icmp_ne (tgt := 49) hC dX4_areJoined_42 (by decide) (by omega) (fun h42 => ?_) (fun h42 => ?_)
  · refine j_iconst hC dX4_areJoined_49 ?_
    exact j_zret hC (by decide) dX4_areJoined_50 ⟨by first | rw [if_pos (by omega)] | rw [if_neg (by omega)], rfl⟩
  · refine j_iconst hC dX4_areJoined_45 ?_
    refine j_goto (tgt := 50) hC dX4_areJoined_46 (by decide) ?_
    exact j_zret hC (by decide) dX4_areJoined_50 ⟨by first | rw [if_pos (by omega)] | rw [if_neg (by omega)], rfl⟩
set_option maxHeartbeats 4000000 in
set_option maxRecDepth 100000 in
theorem tl_borrow_b1 {mc : MC} {g : GG} {σ : Sg} (hC : Cx mc g cX4_borrow RX4 6 (some .int)) (hR : mR mc = rmJ 4 95 0 0) (hI : IM σ) (a s c : Int) (hr : -2147483648 ≤ a ∧ a < 2147483648 ∧ -2147483648 ≤ s ∧ s < 2147483648 ∧ -2147483648 ≤ c ∧ c < 2147483648) (hs : ¬ ((0 ≤ c ∧ c < σ.1 8) ∧ ((0 ≤ a ∧ a < σ.1 8) ∧ (0 ≤ s ∧ s < σ.2 11 a)))) : J mc g 0 0 (QN mc g (pt (some (vI 0)) (sF σ 7 1)) 0 0) 5 [(0, .ref (gd g (19))), (1, vI (a)), (2, vI (s)), (3, vI (c))] [] σ := by
  have hI1 := hI.1
  refine j_aload_n hC dX4_borrow_5 0 rfl ?_
  refine j_iload_n hC dX4_borrow_6 3 rfl ?_
  refine j_callV1 (ar := 1) hC hR (c_X4_isLodge (hlJ hC) g σ hI c (by omega)) [] rfl 19 rfl rfl rfl (by decide) (by decide +kernel) rfl wd626 wd628 wp31 wd4 wd629 (by decide) (Nat.le_of_ble_eq_true rfl) dX4_borrow_7 ?_
  refine j_ifb_eq (tgt := 22) hC dX4_borrow_10 (by decide) (fun h10 => ?_) (fun h10 => ?_)
  · refine j_aload_n hC dX4_borrow_22 0 rfl ?_
    refine j_iconst hC dX4_borrow_23 ?_
    refine j_callV1 (ar := 1) hC hR (c_X4_fail (hlJ hC) g σ 1) [] rfl 19 rfl rfl rfl (by decide) (by decide +kernel) rfl wd618 wd620 wp30 wd4 wd621 (by decide) (Nat.le_of_ble_eq_true rfl) dX4_borrow_24 ?_
    exact j_iret hC dX4_borrow_27 ⟨rfl, rfl⟩
  · refine j_aload_n hC dX4_borrow_13 0 rfl ?_
    refine j_iload_n hC dX4_borrow_14 1 rfl ?_
    refine j_iload_n hC dX4_borrow_15 2 rfl ?_
    refine j_callV1 (ar := 2) hC hR (c_X4_isSign (hlJ hC) g σ hI a s (by omega)) [] rfl 19 rfl rfl rfl (by decide) (by decide +kernel) rfl wd654 wd656 wp34 wd4 wd657 (by decide) (Nat.le_of_ble_eq_true rfl) dX4_borrow_16 ?_
    refine j_ifb_ne (tgt := 28) hC dX4_borrow_19 (by decide) (fun h => absurd h (by omega)) (fun _ => ?_)
    refine j_aload_n hC dX4_borrow_22 0 rfl ?_
    refine j_iconst hC dX4_borrow_23 ?_
    refine j_callV1 (ar := 1) hC hR (c_X4_fail (hlJ hC) g σ 1) [] rfl 19 rfl rfl rfl (by decide) (by decide +kernel) rfl wd618 wd620 wp30 wd4 wd621 (by decide) (Nat.le_of_ble_eq_true rfl) dX4_borrow_24 ?_
    exact j_iret hC dX4_borrow_27 ⟨rfl, rfl⟩
set_option maxHeartbeats 4000000 in
set_option maxRecDepth 100000 in
theorem c_X4_borrow_b1 {L0 : Launch} (hL0 : L0.stackTraces = false) (g : GG) (σ : Sg) (hI : IM σ) (a s c : Int) (hr : -2147483648 ≤ a ∧ a < 2147483648 ∧ -2147483648 ≤ s ∧ s < 2147483648 ∧ -2147483648 ≤ c ∧ c < 2147483648) (hs : ¬ ((0 ≤ c ∧ c < σ.1 8) ∧ ((0 ≤ a ∧ a < σ.1 8) ∧ (0 ≤ s ∧ s < σ.2 11 a)))) : CN L0 yX4_borrow cX4_borrow 6 (some .int) 4 95 0 0 g [.ref (gd g (19)), vI (a), vI (s), vI (c)] σ (pt (some (vI 0)) (sF (sF σ 7 0) 7 1)) := by
  refine CN_of (own := RX4) hL0 (by decide) rfl (Nat.le_of_ble_eq_true rfl) (fun mc hC _ hR => ?_)
  refine j_lv (lv2 := [(0, .ref (gd g (19))), (1, vI (a)), (2, vI (s)), (3, vI (c))]) rfl ?_
  refine j_aload_n hC dX4_borrow_0 0 rfl ?_
  refine j_iconst hC dX4_borrow_1 ?_
  refine j_put (τ := sF (σ) 7 (0)) hC inX4 tyX4_ok nmX4 rfl 19 rfl 0 (by decide) wd582 rfl rfl (Nat.le_of_ble_eq_true rfl) rfl dX4_borrow_2 ?_
  exact tl_borrow_b1 hC hR (IM_t hI (by omega)) a s c hr hs
set_option maxHeartbeats 4000000 in
set_option maxRecDepth 100000 in
theorem tl_borrow_b2 {mc : MC} {g : GG} {σ : Sg} (hC : Cx mc g cX4_borrow RX4 6 (some .int)) (hR : mR mc = rmJ 4 95 0 0) (hI : IM σ) (a s c : Int) (hr : -2147483648 ≤ a ∧ a < 2147483648 ∧ -2147483648 ≤ s ∧ s < 2147483648 ∧ -2147483648 ≤ c ∧ c < 2147483648) (hc : 0 ≤ c ∧ c < σ.1 8) (hs : (0 ≤ a ∧ a < σ.1 8) ∧ (0 ≤ s ∧ s < σ.2 11 a)) (hne : a = c) : J mc g 0 0 (QN mc g (pt (some (vI 0)) (sF σ 7 2)) 0 0) 5 [(0, .ref (gd g (19))), (1, vI (a)), (2, vI (s)), (3, vI (c))] [] σ := by
  have hI1 := hI.1
  have hna := hI.2.2.1 a (by omega) (by omega)
  have hnc := hI.2.2.1 c (by omega) (by omega)
  refine j_aload_n hC dX4_borrow_5 0 rfl ?_
  refine j_iload_n hC dX4_borrow_6 3 rfl ?_
  refine j_callV1 (ar := 1) hC hR (c_X4_isLodge (hlJ hC) g σ hI c (by omega)) [] rfl 19 rfl rfl rfl (by decide) (by decide +kernel) rfl wd626 wd628 wp31 wd4 wd629 (by decide) (Nat.le_of_ble_eq_true rfl) dX4_borrow_7 ?_
  refine j_ifb_eq (tgt := 22) hC dX4_borrow_10 (by decide) (fun h => (h (by omega)).elim) (fun _ => ?_)
  refine j_aload_n hC dX4_borrow_13 0 rfl ?_
  refine j_iload_n hC dX4_borrow_14 1 rfl ?_
  refine j_iload_n hC dX4_borrow_15 2 rfl ?_
  refine j_callV1 (ar := 2) hC hR (c_X4_isSign (hlJ hC) g σ hI a s (by omega)) [] rfl 19 rfl rfl rfl (by decide) (by decide +kernel) rfl wd654 wd656 wp34 wd4 wd657 (by decide) (Nat.le_of_ble_eq_true rfl) dX4_borrow_16 ?_
  refine j_ifb_ne (tgt := 28) hC dX4_borrow_19 (by decide) (fun _ => ?_) (fun h => (h (by omega)).elim)
  refine j_iload_n hC dX4_borrow_28 1 rfl ?_
  refine j_iload_n hC dX4_borrow_29 3 rfl ?_
  refine j_icmp_ne (tgt := 39) hC dX4_borrow_30 (by decide) (by omega) (fun h => absurd h (by omega)) (fun _ => ?_)
  refine j_aload_n hC dX4_borrow_33 0 rfl ?_
  refine j_iconst hC dX4_borrow_34 ?_
  refine j_callV1 (ar := 1) hC hR (c_X4_fail (hlJ hC) g σ 2) [] rfl 19 rfl rfl rfl (by decide) (by decide +kernel) rfl wd618 wd620 wp30 wd4 wd621 (by decide) (Nat.le_of_ble_eq_true rfl) dX4_borrow_35 ?_
  exact j_iret hC dX4_borrow_38 ⟨rfl, rfl⟩
set_option maxHeartbeats 4000000 in
set_option maxRecDepth 100000 in
theorem c_X4_borrow_b2 {L0 : Launch} (hL0 : L0.stackTraces = false) (g : GG) (σ : Sg) (hI : IM σ) (a s c : Int) (hr : -2147483648 ≤ a ∧ a < 2147483648 ∧ -2147483648 ≤ s ∧ s < 2147483648 ∧ -2147483648 ≤ c ∧ c < 2147483648) (hc : 0 ≤ c ∧ c < σ.1 8) (hs : (0 ≤ a ∧ a < σ.1 8) ∧ (0 ≤ s ∧ s < σ.2 11 a)) (hne : a = c) : CN L0 yX4_borrow cX4_borrow 6 (some .int) 4 95 0 0 g [.ref (gd g (19)), vI (a), vI (s), vI (c)] σ (pt (some (vI 0)) (sF (sF σ 7 0) 7 2)) := by
  refine CN_of (own := RX4) hL0 (by decide) rfl (Nat.le_of_ble_eq_true rfl) (fun mc hC _ hR => ?_)
  refine j_lv (lv2 := [(0, .ref (gd g (19))), (1, vI (a)), (2, vI (s)), (3, vI (c))]) rfl ?_
  refine j_aload_n hC dX4_borrow_0 0 rfl ?_
  refine j_iconst hC dX4_borrow_1 ?_
  refine j_put (τ := sF (σ) 7 (0)) hC inX4 tyX4_ok nmX4 rfl 19 rfl 0 (by decide) wd582 rfl rfl (Nat.le_of_ble_eq_true rfl) rfl dX4_borrow_2 ?_
  exact tl_borrow_b2 hC hR (IM_t hI (by omega)) a s c hr hc hs hne
set_option maxHeartbeats 4000000 in
set_option maxRecDepth 100000 in
theorem tl_borrow_b3 {mc : MC} {g : GG} {σ : Sg} (hC : Cx mc g cX4_borrow RX4 6 (some .int)) (hR : mR mc = rmJ 4 95 0 0) (hI : IM σ) (a s c : Int) (hr : -2147483648 ≤ a ∧ a < 2147483648 ∧ -2147483648 ≤ s ∧ s < 2147483648 ∧ -2147483648 ≤ c ∧ c < 2147483648) (hc : 0 ≤ c ∧ c < σ.1 8) (hs : (0 ≤ a ∧ a < σ.1 8) ∧ (0 ≤ s ∧ s < σ.2 11 a)) (hne : a ≠ c) (ht : tfM σ (16 * a + s) c = -1) : J mc g 0 0 (QN mc g (pt (some (vI 0)) (sF σ 7 3)) 0 0) 5 [(0, .ref (gd g (19))), (1, vI (a)), (2, vI (s)), (3, vI (c))] [] σ := by
  have hI1 := hI.1
  have hna := hI.2.2.1 a (by omega) (by omega)
  have hnc := hI.2.2.1 c (by omega) (by omega)
  refine j_aload_n hC dX4_borrow_5 0 rfl ?_
  refine j_iload_n hC dX4_borrow_6 3 rfl ?_
  refine j_callV1 (ar := 1) hC hR (c_X4_isLodge (hlJ hC) g σ hI c (by omega)) [] rfl 19 rfl rfl rfl (by decide) (by decide +kernel) rfl wd626 wd628 wp31 wd4 wd629 (by decide) (Nat.le_of_ble_eq_true rfl) dX4_borrow_7 ?_
  refine j_ifb_eq (tgt := 22) hC dX4_borrow_10 (by decide) (fun h => (h (by omega)).elim) (fun _ => ?_)
  refine j_aload_n hC dX4_borrow_13 0 rfl ?_
  refine j_iload_n hC dX4_borrow_14 1 rfl ?_
  refine j_iload_n hC dX4_borrow_15 2 rfl ?_
  refine j_callV1 (ar := 2) hC hR (c_X4_isSign (hlJ hC) g σ hI a s (by omega)) [] rfl 19 rfl rfl rfl (by decide) (by decide +kernel) rfl wd654 wd656 wp34 wd4 wd657 (by decide) (Nat.le_of_ble_eq_true rfl) dX4_borrow_16 ?_
  refine j_ifb_ne (tgt := 28) hC dX4_borrow_19 (by decide) (fun _ => ?_) (fun h => (h (by omega)).elim)
  refine j_iload_n hC dX4_borrow_28 1 rfl ?_
  refine j_iload_n hC dX4_borrow_29 3 rfl ?_
  refine j_icmp_ne (tgt := 39) hC dX4_borrow_30 (by decide) (by omega) (fun _ => ?_) (fun h => absurd h (by omega))
  refine j_iload_n hC dX4_borrow_39 1 rfl ?_
  refine j_iload_n hC dX4_borrow_40 2 rfl ?_
  refine j_callS1 (ar := 2) hC hR (c_X4_at (hlJ hC) g σ a s ) [] rfl (by decide) (by decide +kernel) rfl wd643 wd644 wd4 wd645 (by decide) (Nat.le_of_ble_eq_true rfl) dX4_borrow_41 ?_
  refine j_istore hC dX4_borrow_44 [(4, vI (16 * a + s)), (0, .ref (gd g (19))), (1, vI (a)), (2, vI (s)), (3, vI (c))] (by decide) rfl ?_
  refine j_aload_n hC dX4_borrow_46 1 rfl ?_
  refine j_iload hC dX4_borrow_47 0 rfl ?_
  refine j_iload_n hC dX4_borrow_49 4 rfl ?_
  refine j_callV1 (ar := 2) hC hR (c_X4_thumbFor (hlJ hC) g σ hI (16 * a + s) c (by omega) (by omega)) [] rfl 19 rfl rfl rfl (by decide) (by decide +kernel) rfl wd685 wd687 wp37 wd4 wd688 (by decide) (Nat.le_of_ble_eq_true rfl) dX4_borrow_50 ?_
  have hf50 := tfM_rg hI (j := (16 * a + s)) (l := c) (by omega)
  refine j_istore hC dX4_borrow_53 [(5, vI (tfM σ (16 * a + s) c)), (4, vI (16 * a + s)), (0, .ref (gd g (19))), (1, vI (a)), (2, vI (s)), (3, vI (c))] (by decide) rfl ?_
  refine j_iload hC dX4_borrow_55 0 rfl ?_
  refine j_iconst hC dX4_borrow_57 ?_
  refine j_icmp_ne (tgt := 67) hC dX4_borrow_58 (by decide) (by omega) (fun h => absurd h (by omega)) (fun _ => ?_)
  refine j_aload_n hC dX4_borrow_61 2 rfl ?_
  refine j_iconst hC dX4_borrow_62 ?_
  refine j_callV1 (ar := 1) hC hR (c_X4_fail (hlJ hC) g σ 3) [] rfl 19 rfl rfl rfl (by decide) (by decide +kernel) rfl wd618 wd620 wp30 wd4 wd621 (by decide) (Nat.le_of_ble_eq_true rfl) dX4_borrow_63 ?_
  exact j_iret hC dX4_borrow_66 ⟨rfl, rfl⟩
set_option maxHeartbeats 4000000 in
set_option maxRecDepth 100000 in
theorem c_X4_borrow_b3 {L0 : Launch} (hL0 : L0.stackTraces = false) (g : GG) (σ : Sg) (hI : IM σ) (a s c : Int) (hr : -2147483648 ≤ a ∧ a < 2147483648 ∧ -2147483648 ≤ s ∧ s < 2147483648 ∧ -2147483648 ≤ c ∧ c < 2147483648) (hc : 0 ≤ c ∧ c < σ.1 8) (hs : (0 ≤ a ∧ a < σ.1 8) ∧ (0 ≤ s ∧ s < σ.2 11 a)) (hne : a ≠ c) (ht : tfM σ (16 * a + s) c = -1) : CN L0 yX4_borrow cX4_borrow 6 (some .int) 4 95 0 0 g [.ref (gd g (19)), vI (a), vI (s), vI (c)] σ (pt (some (vI 0)) (sF (sF σ 7 0) 7 3)) := by
  refine CN_of (own := RX4) hL0 (by decide) rfl (Nat.le_of_ble_eq_true rfl) (fun mc hC _ hR => ?_)
  refine j_lv (lv2 := [(0, .ref (gd g (19))), (1, vI (a)), (2, vI (s)), (3, vI (c))]) rfl ?_
  refine j_aload_n hC dX4_borrow_0 0 rfl ?_
  refine j_iconst hC dX4_borrow_1 ?_
  refine j_put (τ := sF (σ) 7 (0)) hC inX4 tyX4_ok nmX4 rfl 19 rfl 0 (by decide) wd582 rfl rfl (Nat.le_of_ble_eq_true rfl) rfl dX4_borrow_2 ?_
  exact tl_borrow_b3 hC hR (IM_t hI (by omega)) a s c hr hc hs hne ht
set_option maxHeartbeats 4000000 in
set_option maxRecDepth 100000 in
theorem tl_borrow_ok {mc : MC} {g : GG} {σ : Sg} (hC : Cx mc g cX4_borrow RX4 6 (some .int)) (hR : mR mc = rmJ 4 95 0 0) (hI : IM σ) (a s c : Int) (hr : -2147483648 ≤ a ∧ a < 2147483648 ∧ -2147483648 ≤ s ∧ s < 2147483648 ∧ -2147483648 ≤ c ∧ c < 2147483648) (hc : 0 ≤ c ∧ c < σ.1 8) (hs : (0 ≤ a ∧ a < σ.1 8) ∧ (0 ≤ s ∧ s < σ.2 11 a)) (hne : a ≠ c) (ht : ¬ (tfM σ (16 * a + s) c = -1)) : J mc g 0 0 (QN mc g (pt (some (vI (σ.2 11 c))) (tbW σ a c s)) 0 0) 5 [(0, .ref (gd g (19))), (1, vI (a)), (2, vI (s)), (3, vI (c))] [] σ := by
  have hI1 := hI.1
  have hna := hI.2.2.1 a (by omega) (by omega)
  have hnc := hI.2.2.1 c (by omega) (by omega)
  have hro := tfM_room hI (l := c) (by omega) ht
  refine j_aload_n hC dX4_borrow_5 0 rfl ?_
  refine j_iload_n hC dX4_borrow_6 3 rfl ?_
  refine j_callV1 (ar := 1) hC hR (c_X4_isLodge (hlJ hC) g σ hI c (by omega)) [] rfl 19 rfl rfl rfl (by decide) (by decide +kernel) rfl wd626 wd628 wp31 wd4 wd629 (by decide) (Nat.le_of_ble_eq_true rfl) dX4_borrow_7 ?_
  refine j_ifb_eq (tgt := 22) hC dX4_borrow_10 (by decide) (fun h => (h (by omega)).elim) (fun _ => ?_)
  refine j_aload_n hC dX4_borrow_13 0 rfl ?_
  refine j_iload_n hC dX4_borrow_14 1 rfl ?_
  refine j_iload_n hC dX4_borrow_15 2 rfl ?_
  refine j_callV1 (ar := 2) hC hR (c_X4_isSign (hlJ hC) g σ hI a s (by omega)) [] rfl 19 rfl rfl rfl (by decide) (by decide +kernel) rfl wd654 wd656 wp34 wd4 wd657 (by decide) (Nat.le_of_ble_eq_true rfl) dX4_borrow_16 ?_
  refine j_ifb_ne (tgt := 28) hC dX4_borrow_19 (by decide) (fun _ => ?_) (fun h => (h (by omega)).elim)
  refine j_iload_n hC dX4_borrow_28 1 rfl ?_
  refine j_iload_n hC dX4_borrow_29 3 rfl ?_
  refine j_icmp_ne (tgt := 39) hC dX4_borrow_30 (by decide) (by omega) (fun _ => ?_) (fun h => absurd h (by omega))
  refine j_iload_n hC dX4_borrow_39 1 rfl ?_
  refine j_iload_n hC dX4_borrow_40 2 rfl ?_
  refine j_callS1 (ar := 2) hC hR (c_X4_at (hlJ hC) g σ a s ) [] rfl (by decide) (by decide +kernel) rfl wd643 wd644 wd4 wd645 (by decide) (Nat.le_of_ble_eq_true rfl) dX4_borrow_41 ?_
  refine j_istore hC dX4_borrow_44 [(4, vI (16 * a + s)), (0, .ref (gd g (19))), (1, vI (a)), (2, vI (s)), (3, vI (c))] (by decide) rfl ?_
  refine j_aload_n hC dX4_borrow_46 1 rfl ?_
  refine j_iload hC dX4_borrow_47 0 rfl ?_
  refine j_iload_n hC dX4_borrow_49 4 rfl ?_
  refine j_callV1 (ar := 2) hC hR (c_X4_thumbFor (hlJ hC) g σ hI (16 * a + s) c (by omega) (by omega)) [] rfl 19 rfl rfl rfl (by decide) (by decide +kernel) rfl wd685 wd687 wp37 wd4 wd688 (by decide) (Nat.le_of_ble_eq_true rfl) dX4_borrow_50 ?_
  have hf50 := tfM_rg hI (j := (16 * a + s)) (l := c) (by omega)
  refine j_istore hC dX4_borrow_53 [(5, vI (tfM σ (16 * a + s) c)), (4, vI (16 * a + s)), (0, .ref (gd g (19))), (1, vI (a)), (2, vI (s)), (3, vI (c))] (by decide) rfl ?_
  refine j_iload hC dX4_borrow_55 0 rfl ?_
  refine j_iconst hC dX4_borrow_57 ?_
  refine j_icmp_ne (tgt := 67) hC dX4_borrow_58 (by decide) (by omega) (fun _ => ?_) (fun h => absurd h (by omega))
  refine j_aload_n hC dX4_borrow_67 2 rfl ?_
  refine j_iload_n hC dX4_borrow_68 5 rfl ?_
  refine j_aload_n hC dX4_borrow_69 2 rfl ?_
  refine j_get hC inX4 rfl 19 rfl 3 (by decide) wd585 rfl dX4_borrow_70 ?_
  refine j_iload hC dX4_borrow_73 1 rfl ?_
  refine j_iald hC 21 rfl (by omega) dX4_borrow_75 ?_
  refine j_iload hC dX4_borrow_76 0 rfl ?_
  refine j_aload_n hC dX4_borrow_78 2 rfl ?_
  refine j_get hC inX4 rfl 19 rfl 5 (by decide) wd587 rfl dX4_borrow_79 ?_
  refine j_iload hC dX4_borrow_82 1 rfl ?_
  refine j_iald hC 23 rfl (by omega) dX4_borrow_84 ?_
  refine j_aload_n hC dX4_borrow_85 2 rfl ?_
  refine j_get hC inX4 rfl 19 rfl 6 (by decide) wd588 rfl dX4_borrow_86 ?_
  refine j_iload hC dX4_borrow_89 1 rfl ?_
  refine j_iald hC 24 rfl (by omega) dX4_borrow_91 ?_
  refine j_aload_n hC dX4_borrow_92 2 rfl ?_
  refine j_get hC inX4 rfl 19 rfl 7 (by decide) wd589 rfl dX4_borrow_93 ?_
  refine j_iload hC dX4_borrow_96 1 rfl ?_
  refine j_iald hC 25 rfl (by omega) dX4_borrow_98 ?_
  refine j_callV0 (ar := 6) hC hR (c_X4_write (hlJ hC) g σ c ((σ).2 12 (16 * a + s)) (tfM σ (16 * a + s) c) ((σ).2 14 (16 * a + s)) ((σ).2 15 (16 * a + s)) ((σ).2 16 (16 * a + s)) (by omega) (by omega)) [] rfl 19 rfl rfl rfl (by decide) (by decide +kernel) rfl wd646 wd648 wp33 wd4 wd649 (by decide) (Nat.le_of_ble_eq_true rfl) dX4_borrow_99 ?_
  refine j_aload_n hC dX4_borrow_102 2 rfl ?_
  refine j_get hC inX4 rfl 19 rfl 2 (by decide) wd584 rfl dX4_borrow_103 ?_
  refine j_iload_n hC dX4_borrow_106 5 rfl ?_
  refine j_iald hC 20 rfl (by omega) dX4_borrow_107 ?_
  refine j_iconst hC dX4_borrow_108 ?_
  refine j_isub hC dX4_borrow_109 ?_
  exact j_iret hC dX4_borrow_110 ⟨congrArg (fun z => some (vI z)) (wrM_n σ c _ _ _ _ _), rfl⟩
set_option maxHeartbeats 4000000 in
set_option maxRecDepth 100000 in
theorem c_X4_borrow_ok {L0 : Launch} (hL0 : L0.stackTraces = false) (g : GG) (σ : Sg) (hI : IM σ) (a s c : Int) (hr : -2147483648 ≤ a ∧ a < 2147483648 ∧ -2147483648 ≤ s ∧ s < 2147483648 ∧ -2147483648 ≤ c ∧ c < 2147483648) (hc : 0 ≤ c ∧ c < σ.1 8) (hs : (0 ≤ a ∧ a < σ.1 8) ∧ (0 ≤ s ∧ s < σ.2 11 a)) (hne : a ≠ c) (ht : ¬ (tfM σ (16 * a + s) c = -1)) : CN L0 yX4_borrow cX4_borrow 6 (some .int) 4 95 0 0 g [.ref (gd g (19)), vI (a), vI (s), vI (c)] σ (pt (some (vI ((sF σ 7 0).2 11 c))) (tbW (sF σ 7 0) a c s)) := by
  refine CN_of (own := RX4) hL0 (by decide) rfl (Nat.le_of_ble_eq_true rfl) (fun mc hC _ hR => ?_)
  refine j_lv (lv2 := [(0, .ref (gd g (19))), (1, vI (a)), (2, vI (s)), (3, vI (c))]) rfl ?_
  refine j_aload_n hC dX4_borrow_0 0 rfl ?_
  refine j_iconst hC dX4_borrow_1 ?_
  refine j_put (τ := sF (σ) 7 (0)) hC inX4 tyX4_ok nmX4 rfl 19 rfl 0 (by decide) wd582 rfl rfl (Nat.le_of_ble_eq_true rfl) rfl dX4_borrow_2 ?_
  exact tl_borrow_ok hC hR (IM_t hI (by omega)) a s c hr hc hs hne ht
set_option maxHeartbeats 4000000 in
set_option maxRecDepth 100000 in
theorem c_X4_groups {L0 : Launch} (hL0 : L0.stackTraces = false) (g : GG) (σ : Sg) (hI : IM σ) : CN L0 yX4_groups cX4_groups 1 (some .int) 1 22 0 0 g [.ref (gd g (19))] σ (pt (some (vI (agM σ))) (sF σ 7 0)) := by
  refine CN_of (own := RX4) hL0 (by decide) rfl (Nat.le_of_ble_eq_true rfl) (fun mc hC _ hR => ?_)
  refine j_lv (lv2 := [(0, .ref (gd g (19)))]) rfl ?_
  refine j_aload_n hC dX4_groups_0 0 rfl ?_
  refine j_aload_n hC dX4_groups_1 0 rfl ?_
  refine j_callV1 (ar := 0) hC hR (c_X4_allGroups (hlJ hC) g σ hI  ) [.ref (gd g (19))] rfl 19 rfl rfl rfl (by decide) (by decide +kernel) rfl wd677 wd679 wp36 wd4 wd680 (by decide) (Nat.le_of_ble_eq_true rfl) dX4_groups_2 ?_
  have hf2 : 0 ≤ agM σ ∧ agM σ ≤ 9 := by have h := cnt_rg (agC σ) 9 0 0; unfold agM; omega
  refine j_callV1 (ar := 1) hC hR (c_X4_told (hlJ hC) g σ (agM σ)) [] rfl 19 rfl rfl rfl (by decide) (by decide +kernel) rfl wd702 wd704 wp40 wd4 wd705 (by decide) (Nat.le_of_ble_eq_true rfl) dX4_groups_5 ?_
  exact j_iret hC dX4_groups_8 ⟨rfl, rfl⟩
set_option maxHeartbeats 4000000 in
set_option maxRecDepth 100000 in
theorem c_X4_lodges {L0 : Launch} (hL0 : L0.stackTraces = false) (g : GG) (σ : Sg) (hI : IM σ) : CN L0 yX4_lodges cX4_lodges 1 (some .int) 1 21 0 0 g [.ref (gd g (19))] σ (pt (some (vI (σ.1 8))) (sF σ 7 0)) := by
  refine CN_of (own := RX4) hL0 (by decide) rfl (Nat.le_of_ble_eq_true rfl) (fun mc hC _ hR => ?_)
  refine j_lv (lv2 := [(0, .ref (gd g (19)))]) rfl ?_
  refine j_aload_n hC dX4_lodges_0 0 rfl ?_
  refine j_aload_n hC dX4_lodges_1 0 rfl ?_
  refine j_get hC inX4 rfl 19 rfl 1 (by decide) wd583 rfl dX4_lodges_2 ?_
  refine j_callV1 (ar := 1) hC hR (c_X4_told (hlJ hC) g σ ((σ).1 8)) [] rfl 19 rfl rfl rfl (by decide) (by decide +kernel) rfl wd702 wd704 wp40 wd4 wd705 (by decide) (Nat.le_of_ble_eq_true rfl) dX4_lodges_5 ?_
  exact j_iret hC dX4_lodges_8 ⟨rfl, rfl⟩
set_option maxHeartbeats 4000000 in
set_option maxRecDepth 100000 in
theorem tl_signsOf_b1 {mc : MC} {g : GG} {σ : Sg} (hC : Cx mc g cX4_signsOf RX4 2 (some .int)) (hR : mR mc = rmJ 2 43 0 0) (hI : IM σ) (a : Int) (hr : -2147483648 ≤ a ∧ a < 2147483648) (ha : ¬ (0 ≤ a ∧ a < σ.1 8)) : J mc g 0 0 (QN mc g (pt (some (vI 0)) (sF σ 7 1)) 0 0) 5 [(0, .ref (gd g (19))), (1, vI (a))] [] σ := by
  have hI1 := hI.1
  refine j_aload_n hC dX4_signsOf_5 0 rfl ?_
  refine j_iload_n hC dX4_signsOf_6 1 rfl ?_
  refine j_callV1 (ar := 1) hC hR (c_X4_isLodge (hlJ hC) g σ hI a (by omega)) [] rfl 19 rfl rfl rfl (by decide) (by decide +kernel) rfl wd626 wd628 wp31 wd4 wd629 (by decide) (Nat.le_of_ble_eq_true rfl) dX4_signsOf_7 ?_
  refine j_ifb_eq (tgt := 22) hC dX4_signsOf_10 (by decide) (fun _ => ?_) (fun h => absurd h (by omega))
  refine j_aload_n hC dX4_signsOf_22 0 rfl ?_
  refine j_iconst hC dX4_signsOf_23 ?_
  refine j_callV1 (ar := 1) hC hR (c_X4_fail (hlJ hC) g σ 1) [] rfl 19 rfl rfl rfl (by decide) (by decide +kernel) rfl wd618 wd620 wp30 wd4 wd621 (by decide) (Nat.le_of_ble_eq_true rfl) dX4_signsOf_24 ?_
  exact j_iret hC dX4_signsOf_27 ⟨rfl, rfl⟩
set_option maxHeartbeats 4000000 in
set_option maxRecDepth 100000 in
theorem c_X4_signsOf_b1 {L0 : Launch} (hL0 : L0.stackTraces = false) (g : GG) (σ : Sg) (hI : IM σ) (a : Int) (hr : -2147483648 ≤ a ∧ a < 2147483648) (ha : ¬ (0 ≤ a ∧ a < σ.1 8)) : CN L0 yX4_signsOf cX4_signsOf 2 (some .int) 2 43 0 0 g [.ref (gd g (19)), vI (a)] σ (pt (some (vI 0)) (sF (sF σ 7 0) 7 1)) := by
  refine CN_of (own := RX4) hL0 (by decide) rfl (Nat.le_of_ble_eq_true rfl) (fun mc hC _ hR => ?_)
  refine j_lv (lv2 := [(0, .ref (gd g (19))), (1, vI (a))]) rfl ?_
  refine j_aload_n hC dX4_signsOf_0 0 rfl ?_
  refine j_iconst hC dX4_signsOf_1 ?_
  refine j_put (τ := sF (σ) 7 (0)) hC inX4 tyX4_ok nmX4 rfl 19 rfl 0 (by decide) wd582 rfl rfl (Nat.le_of_ble_eq_true rfl) rfl dX4_signsOf_2 ?_
  exact tl_signsOf_b1 hC hR (IM_t hI (by omega)) a hr ha
set_option maxHeartbeats 4000000 in
set_option maxRecDepth 100000 in
theorem tl_signsOf_ok {mc : MC} {g : GG} {σ : Sg} (hC : Cx mc g cX4_signsOf RX4 2 (some .int)) (hR : mR mc = rmJ 2 43 0 0) (hI : IM σ) (a : Int) (hr : -2147483648 ≤ a ∧ a < 2147483648) (ha : 0 ≤ a ∧ a < σ.1 8) : J mc g 0 0 (QN mc g (pt (some (vI (σ.2 11 a))) (σ)) 0 0) 5 [(0, .ref (gd g (19))), (1, vI (a))] [] σ := by
  have hI1 := hI.1
  have hna := hI.2.2.1 a (by omega) (by omega)
  refine j_aload_n hC dX4_signsOf_5 0 rfl ?_
  refine j_iload_n hC dX4_signsOf_6 1 rfl ?_
  refine j_callV1 (ar := 1) hC hR (c_X4_isLodge (hlJ hC) g σ hI a (by omega)) [] rfl 19 rfl rfl rfl (by decide) (by decide +kernel) rfl wd626 wd628 wp31 wd4 wd629 (by decide) (Nat.le_of_ble_eq_true rfl) dX4_signsOf_7 ?_
  refine j_ifb_eq (tgt := 22) hC dX4_signsOf_10 (by decide) (fun h => (h (by omega)).elim) (fun _ => ?_)
  refine j_aload_n hC dX4_signsOf_13 0 rfl ?_
  refine j_get hC inX4 rfl 19 rfl 2 (by decide) wd584 rfl dX4_signsOf_14 ?_
  refine j_iload_n hC dX4_signsOf_17 1 rfl ?_
  refine j_iald hC 20 rfl (by omega) dX4_signsOf_18 ?_
  refine j_goto (tgt := 27) hC dX4_signsOf_19 (by decide) ?_
  exact j_iret hC dX4_signsOf_27 ⟨rfl, rfl⟩
set_option maxHeartbeats 4000000 in
set_option maxRecDepth 100000 in
theorem c_X4_signsOf_ok {L0 : Launch} (hL0 : L0.stackTraces = false) (g : GG) (σ : Sg) (hI : IM σ) (a : Int) (hr : -2147483648 ≤ a ∧ a < 2147483648) (ha : 0 ≤ a ∧ a < σ.1 8) : CN L0 yX4_signsOf cX4_signsOf 2 (some .int) 2 43 0 0 g [.ref (gd g (19)), vI (a)] σ (pt (some (vI ((sF σ 7 0).2 11 a))) ((sF σ 7 0))) := by
  refine CN_of (own := RX4) hL0 (by decide) rfl (Nat.le_of_ble_eq_true rfl) (fun mc hC _ hR => ?_)
  refine j_lv (lv2 := [(0, .ref (gd g (19))), (1, vI (a))]) rfl ?_
  refine j_aload_n hC dX4_signsOf_0 0 rfl ?_
  refine j_iconst hC dX4_signsOf_1 ?_
  refine j_put (τ := sF (σ) 7 (0)) hC inX4 tyX4_ok nmX4 rfl 19 rfl 0 (by decide) wd582 rfl rfl (Nat.le_of_ble_eq_true rfl) rfl dX4_signsOf_2 ?_
  exact tl_signsOf_ok hC hR (IM_t hI (by omega)) a hr ha
set_option maxHeartbeats 4000000 in
set_option maxRecDepth 100000 in
theorem tl_alikePairs_b1 {mc : MC} {g : GG} {σ : Sg} (hC : Cx mc g cX4_alikePairs RX4 2 (some .int)) (hR : mR mc = rmJ 5 115 0 0) (hI : IM σ) (a : Int) (hr : -2147483648 ≤ a ∧ a < 2147483648) (ha : ¬ (0 ≤ a ∧ a < σ.1 8)) : J mc g 0 0 (QN mc g (pt (some (vI 0)) (sF σ 7 1)) 0 0) 5 [(0, .ref (gd g (19))), (1, vI (a))] [] σ := by
  have hI1 := hI.1
  refine j_aload_n hC dX4_alikePairs_5 0 rfl ?_
  refine j_iload_n hC dX4_alikePairs_6 1 rfl ?_
  refine j_callV1 (ar := 1) hC hR (c_X4_isLodge (hlJ hC) g σ hI a (by omega)) [] rfl 19 rfl rfl rfl (by decide) (by decide +kernel) rfl wd626 wd628 wp31 wd4 wd629 (by decide) (Nat.le_of_ble_eq_true rfl) dX4_alikePairs_7 ?_
  refine j_ifb_eq (tgt := 21) hC dX4_alikePairs_10 (by decide) (fun _ => ?_) (fun h => absurd h (by omega))
  refine j_aload_n hC dX4_alikePairs_21 0 rfl ?_
  refine j_iconst hC dX4_alikePairs_22 ?_
  refine j_callV1 (ar := 1) hC hR (c_X4_fail (hlJ hC) g σ 1) [] rfl 19 rfl rfl rfl (by decide) (by decide +kernel) rfl wd618 wd620 wp30 wd4 wd621 (by decide) (Nat.le_of_ble_eq_true rfl) dX4_alikePairs_23 ?_
  exact j_iret hC dX4_alikePairs_26 ⟨rfl, rfl⟩
set_option maxHeartbeats 4000000 in
set_option maxRecDepth 100000 in
theorem c_X4_alikePairs_b1 {L0 : Launch} (hL0 : L0.stackTraces = false) (g : GG) (σ : Sg) (hI : IM σ) (a : Int) (hr : -2147483648 ≤ a ∧ a < 2147483648) (ha : ¬ (0 ≤ a ∧ a < σ.1 8)) : CN L0 yX4_alikePairs cX4_alikePairs 2 (some .int) 5 115 0 0 g [.ref (gd g (19)), vI (a)] σ (pt (some (vI 0)) (sF (sF σ 7 0) 7 1)) := by
  refine CN_of (own := RX4) hL0 (by decide) rfl (Nat.le_of_ble_eq_true rfl) (fun mc hC _ hR => ?_)
  refine j_lv (lv2 := [(0, .ref (gd g (19))), (1, vI (a))]) rfl ?_
  refine j_aload_n hC dX4_alikePairs_0 0 rfl ?_
  refine j_iconst hC dX4_alikePairs_1 ?_
  refine j_put (τ := sF (σ) 7 (0)) hC inX4 tyX4_ok nmX4 rfl 19 rfl 0 (by decide) wd582 rfl rfl (Nat.le_of_ble_eq_true rfl) rfl dX4_alikePairs_2 ?_
  exact tl_alikePairs_b1 hC hR (IM_t hI (by omega)) a hr ha
set_option maxHeartbeats 4000000 in
set_option maxRecDepth 100000 in
theorem tl_alikePairs_ok {mc : MC} {g : GG} {σ : Sg} (hC : Cx mc g cX4_alikePairs RX4 2 (some .int)) (hR : mR mc = rmJ 5 115 0 0) (hI : IM σ) (a : Int) (hr : -2147483648 ≤ a ∧ a < 2147483648) (ha : 0 ≤ a ∧ a < σ.1 8) : J mc g 0 0 (QN mc g (pt (some (vI (caM σ a))) (σ)) 0 0) 5 [(0, .ref (gd g (19))), (1, vI (a))] [] σ := by
  have hI1 := hI.1
  have hna := hI.2.2.1 a (by omega) (by omega)
  refine j_aload_n hC dX4_alikePairs_5 0 rfl ?_
  refine j_iload_n hC dX4_alikePairs_6 1 rfl ?_
  refine j_callV1 (ar := 1) hC hR (c_X4_isLodge (hlJ hC) g σ hI a (by omega)) [] rfl 19 rfl rfl rfl (by decide) (by decide +kernel) rfl wd626 wd628 wp31 wd4 wd629 (by decide) (Nat.le_of_ble_eq_true rfl) dX4_alikePairs_7 ?_
  refine j_ifb_eq (tgt := 21) hC dX4_alikePairs_10 (by decide) (fun h => (h (by omega)).elim) (fun _ => ?_)
  refine j_aload_n hC dX4_alikePairs_13 0 rfl ?_
  refine j_iload_n hC dX4_alikePairs_14 1 rfl ?_
  refine j_callV1 (ar := 1) hC hR (c_X4_alike (hlJ hC) g σ hI a (by omega)) [] rfl 19 rfl rfl rfl (by decide) (by decide +kernel) rfl wd758 wd760 wp43 wd4 wd761 (by decide) (Nat.le_of_ble_eq_true rfl) dX4_alikePairs_15 ?_
  refine j_goto (tgt := 26) hC dX4_alikePairs_18 (by decide) ?_
  exact j_iret hC dX4_alikePairs_26 ⟨rfl, rfl⟩
set_option maxHeartbeats 4000000 in
set_option maxRecDepth 100000 in
theorem c_X4_alikePairs_ok {L0 : Launch} (hL0 : L0.stackTraces = false) (g : GG) (σ : Sg) (hI : IM σ) (a : Int) (hr : -2147483648 ≤ a ∧ a < 2147483648) (ha : 0 ≤ a ∧ a < σ.1 8) : CN L0 yX4_alikePairs cX4_alikePairs 2 (some .int) 5 115 0 0 g [.ref (gd g (19)), vI (a)] σ (pt (some (vI (caM (sF σ 7 0) a))) ((sF σ 7 0))) := by
  refine CN_of (own := RX4) hL0 (by decide) rfl (Nat.le_of_ble_eq_true rfl) (fun mc hC _ hR => ?_)
  refine j_lv (lv2 := [(0, .ref (gd g (19))), (1, vI (a))]) rfl ?_
  refine j_aload_n hC dX4_alikePairs_0 0 rfl ?_
  refine j_iconst hC dX4_alikePairs_1 ?_
  refine j_put (τ := sF (σ) 7 (0)) hC inX4 tyX4_ok nmX4 rfl 19 rfl 0 (by decide) wd582 rfl rfl (Nat.le_of_ble_eq_true rfl) rfl dX4_alikePairs_2 ?_
  exact tl_alikePairs_ok hC hR (IM_t hI (by omega)) a hr ha
set_option maxHeartbeats 4000000 in
set_option maxRecDepth 100000 in
theorem tl_thumbPairs_b1 {mc : MC} {g : GG} {σ : Sg} (hC : Cx mc g cX4_thumbPairs RX4 2 (some .int)) (hR : mR mc = rmJ 5 115 0 0) (hI : IM σ) (a : Int) (hr : -2147483648 ≤ a ∧ a < 2147483648) (ha : ¬ (0 ≤ a ∧ a < σ.1 8)) : J mc g 0 0 (QN mc g (pt (some (vI 0)) (sF σ 7 1)) 0 0) 5 [(0, .ref (gd g (19))), (1, vI (a))] [] σ := by
  have hI1 := hI.1
  refine j_aload_n hC dX4_thumbPairs_5 0 rfl ?_
  refine j_iload_n hC dX4_thumbPairs_6 1 rfl ?_
  refine j_callV1 (ar := 1) hC hR (c_X4_isLodge (hlJ hC) g σ hI a (by omega)) [] rfl 19 rfl rfl rfl (by decide) (by decide +kernel) rfl wd626 wd628 wp31 wd4 wd629 (by decide) (Nat.le_of_ble_eq_true rfl) dX4_thumbPairs_7 ?_
  refine j_ifb_eq (tgt := 21) hC dX4_thumbPairs_10 (by decide) (fun _ => ?_) (fun h => absurd h (by omega))
  refine j_aload_n hC dX4_thumbPairs_21 0 rfl ?_
  refine j_iconst hC dX4_thumbPairs_22 ?_
  refine j_callV1 (ar := 1) hC hR (c_X4_fail (hlJ hC) g σ 1) [] rfl 19 rfl rfl rfl (by decide) (by decide +kernel) rfl wd618 wd620 wp30 wd4 wd621 (by decide) (Nat.le_of_ble_eq_true rfl) dX4_thumbPairs_23 ?_
  exact j_iret hC dX4_thumbPairs_26 ⟨rfl, rfl⟩
set_option maxHeartbeats 4000000 in
set_option maxRecDepth 100000 in
theorem c_X4_thumbPairs_b1 {L0 : Launch} (hL0 : L0.stackTraces = false) (g : GG) (σ : Sg) (hI : IM σ) (a : Int) (hr : -2147483648 ≤ a ∧ a < 2147483648) (ha : ¬ (0 ≤ a ∧ a < σ.1 8)) : CN L0 yX4_thumbPairs cX4_thumbPairs 2 (some .int) 5 115 0 0 g [.ref (gd g (19)), vI (a)] σ (pt (some (vI 0)) (sF (sF σ 7 0) 7 1)) := by
  refine CN_of (own := RX4) hL0 (by decide) rfl (Nat.le_of_ble_eq_true rfl) (fun mc hC _ hR => ?_)
  refine j_lv (lv2 := [(0, .ref (gd g (19))), (1, vI (a))]) rfl ?_
  refine j_aload_n hC dX4_thumbPairs_0 0 rfl ?_
  refine j_iconst hC dX4_thumbPairs_1 ?_
  refine j_put (τ := sF (σ) 7 (0)) hC inX4 tyX4_ok nmX4 rfl 19 rfl 0 (by decide) wd582 rfl rfl (Nat.le_of_ble_eq_true rfl) rfl dX4_thumbPairs_2 ?_
  exact tl_thumbPairs_b1 hC hR (IM_t hI (by omega)) a hr ha
set_option maxHeartbeats 4000000 in
set_option maxRecDepth 100000 in
theorem tl_thumbPairs_ok {mc : MC} {g : GG} {σ : Sg} (hC : Cx mc g cX4_thumbPairs RX4 2 (some .int)) (hR : mR mc = rmJ 5 115 0 0) (hI : IM σ) (a : Int) (hr : -2147483648 ≤ a ∧ a < 2147483648) (ha : 0 ≤ a ∧ a < σ.1 8) : J mc g 0 0 (QN mc g (pt (some (vI (ctM σ a))) (σ)) 0 0) 5 [(0, .ref (gd g (19))), (1, vI (a))] [] σ := by
  have hI1 := hI.1
  have hna := hI.2.2.1 a (by omega) (by omega)
  refine j_aload_n hC dX4_thumbPairs_5 0 rfl ?_
  refine j_iload_n hC dX4_thumbPairs_6 1 rfl ?_
  refine j_callV1 (ar := 1) hC hR (c_X4_isLodge (hlJ hC) g σ hI a (by omega)) [] rfl 19 rfl rfl rfl (by decide) (by decide +kernel) rfl wd626 wd628 wp31 wd4 wd629 (by decide) (Nat.le_of_ble_eq_true rfl) dX4_thumbPairs_7 ?_
  refine j_ifb_eq (tgt := 21) hC dX4_thumbPairs_10 (by decide) (fun h => (h (by omega)).elim) (fun _ => ?_)
  refine j_aload_n hC dX4_thumbPairs_13 0 rfl ?_
  refine j_iload_n hC dX4_thumbPairs_14 1 rfl ?_
  refine j_callV1 (ar := 1) hC hR (c_X4_thumbs (hlJ hC) g σ hI a (by omega)) [] rfl 19 rfl rfl rfl (by decide) (by decide +kernel) rfl wd766 wd768 wp44 wd4 wd769 (by decide) (Nat.le_of_ble_eq_true rfl) dX4_thumbPairs_15 ?_
  refine j_goto (tgt := 26) hC dX4_thumbPairs_18 (by decide) ?_
  exact j_iret hC dX4_thumbPairs_26 ⟨rfl, rfl⟩
set_option maxHeartbeats 4000000 in
set_option maxRecDepth 100000 in
theorem c_X4_thumbPairs_ok {L0 : Launch} (hL0 : L0.stackTraces = false) (g : GG) (σ : Sg) (hI : IM σ) (a : Int) (hr : -2147483648 ≤ a ∧ a < 2147483648) (ha : 0 ≤ a ∧ a < σ.1 8) : CN L0 yX4_thumbPairs cX4_thumbPairs 2 (some .int) 5 115 0 0 g [.ref (gd g (19)), vI (a)] σ (pt (some (vI (ctM (sF σ 7 0) a))) ((sF σ 7 0))) := by
  refine CN_of (own := RX4) hL0 (by decide) rfl (Nat.le_of_ble_eq_true rfl) (fun mc hC _ hR => ?_)
  refine j_lv (lv2 := [(0, .ref (gd g (19))), (1, vI (a))]) rfl ?_
  refine j_aload_n hC dX4_thumbPairs_0 0 rfl ?_
  refine j_iconst hC dX4_thumbPairs_1 ?_
  refine j_put (τ := sF (σ) 7 (0)) hC inX4 tyX4_ok nmX4 rfl 19 rfl 0 (by decide) wd582 rfl rfl (Nat.le_of_ble_eq_true rfl) rfl dX4_thumbPairs_2 ?_
  exact tl_thumbPairs_ok hC hR (IM_t hI (by omega)) a hr ha
set_option maxHeartbeats 4000000 in
set_option maxRecDepth 100000 in
theorem tl_closest_b1 {mc : MC} {g : GG} {σ : Sg} (hC : Cx mc g cX4_closest RX4 2 (some .int)) (hR : mR mc = rmJ 5 115 0 0) (hI : IM σ) (a : Int) (hr : -2147483648 ≤ a ∧ a < 2147483648) (ha : ¬ (0 ≤ a ∧ a < σ.1 8)) : J mc g 0 0 (QN mc g (pt (some (vI 0)) (sF σ 7 1)) 0 0) 5 [(0, .ref (gd g (19))), (1, vI (a))] [] σ := by
  have hI1 := hI.1
  refine j_aload_n hC dX4_closest_5 0 rfl ?_
  refine j_iload_n hC dX4_closest_6 1 rfl ?_
  refine j_callV1 (ar := 1) hC hR (c_X4_isLodge (hlJ hC) g σ hI a (by omega)) [] rfl 19 rfl rfl rfl (by decide) (by decide +kernel) rfl wd626 wd628 wp31 wd4 wd629 (by decide) (Nat.le_of_ble_eq_true rfl) dX4_closest_7 ?_
  refine j_ifb_eq (tgt := 21) hC dX4_closest_10 (by decide) (fun _ => ?_) (fun h => absurd h (by omega))
  refine j_aload_n hC dX4_closest_21 0 rfl ?_
  refine j_iconst hC dX4_closest_22 ?_
  refine j_callV1 (ar := 1) hC hR (c_X4_fail (hlJ hC) g σ 1) [] rfl 19 rfl rfl rfl (by decide) (by decide +kernel) rfl wd618 wd620 wp30 wd4 wd621 (by decide) (Nat.le_of_ble_eq_true rfl) dX4_closest_23 ?_
  exact j_iret hC dX4_closest_26 ⟨rfl, rfl⟩
set_option maxHeartbeats 4000000 in
set_option maxRecDepth 100000 in
theorem c_X4_closest_b1 {L0 : Launch} (hL0 : L0.stackTraces = false) (g : GG) (σ : Sg) (hI : IM σ) (a : Int) (hr : -2147483648 ≤ a ∧ a < 2147483648) (ha : ¬ (0 ≤ a ∧ a < σ.1 8)) : CN L0 yX4_closest cX4_closest 2 (some .int) 5 115 0 0 g [.ref (gd g (19)), vI (a)] σ (pt (some (vI 0)) (sF (sF σ 7 0) 7 1)) := by
  refine CN_of (own := RX4) hL0 (by decide) rfl (Nat.le_of_ble_eq_true rfl) (fun mc hC _ hR => ?_)
  refine j_lv (lv2 := [(0, .ref (gd g (19))), (1, vI (a))]) rfl ?_
  refine j_aload_n hC dX4_closest_0 0 rfl ?_
  refine j_iconst hC dX4_closest_1 ?_
  refine j_put (τ := sF (σ) 7 (0)) hC inX4 tyX4_ok nmX4 rfl 19 rfl 0 (by decide) wd582 rfl rfl (Nat.le_of_ble_eq_true rfl) rfl dX4_closest_2 ?_
  exact tl_closest_b1 hC hR (IM_t hI (by omega)) a hr ha
set_option maxHeartbeats 4000000 in
set_option maxRecDepth 100000 in
theorem tl_closest_ok {mc : MC} {g : GG} {σ : Sg} (hC : Cx mc g cX4_closest RX4 2 (some .int)) (hR : mR mc = rmJ 5 115 0 0) (hI : IM σ) (a : Int) (hr : -2147483648 ≤ a ∧ a < 2147483648) (ha : 0 ≤ a ∧ a < σ.1 8) : J mc g 0 0 (QN mc g (pt (some (vI (nsM σ a))) (σ)) 0 0) 5 [(0, .ref (gd g (19))), (1, vI (a))] [] σ := by
  have hI1 := hI.1
  have hna := hI.2.2.1 a (by omega) (by omega)
  refine j_aload_n hC dX4_closest_5 0 rfl ?_
  refine j_iload_n hC dX4_closest_6 1 rfl ?_
  refine j_callV1 (ar := 1) hC hR (c_X4_isLodge (hlJ hC) g σ hI a (by omega)) [] rfl 19 rfl rfl rfl (by decide) (by decide +kernel) rfl wd626 wd628 wp31 wd4 wd629 (by decide) (Nat.le_of_ble_eq_true rfl) dX4_closest_7 ?_
  refine j_ifb_eq (tgt := 21) hC dX4_closest_10 (by decide) (fun h => (h (by omega)).elim) (fun _ => ?_)
  refine j_aload_n hC dX4_closest_13 0 rfl ?_
  refine j_iload_n hC dX4_closest_14 1 rfl ?_
  refine j_callV1 (ar := 1) hC hR (c_X4_nearest (hlJ hC) g σ hI a (by omega)) [] rfl 19 rfl rfl rfl (by decide) (by decide +kernel) rfl wd774 wd776 wp45 wd4 wd777 (by decide) (Nat.le_of_ble_eq_true rfl) dX4_closest_15 ?_
  refine j_goto (tgt := 26) hC dX4_closest_18 (by decide) ?_
  exact j_iret hC dX4_closest_26 ⟨rfl, rfl⟩
set_option maxHeartbeats 4000000 in
set_option maxRecDepth 100000 in
theorem c_X4_closest_ok {L0 : Launch} (hL0 : L0.stackTraces = false) (g : GG) (σ : Sg) (hI : IM σ) (a : Int) (hr : -2147483648 ≤ a ∧ a < 2147483648) (ha : 0 ≤ a ∧ a < σ.1 8) : CN L0 yX4_closest cX4_closest 2 (some .int) 5 115 0 0 g [.ref (gd g (19)), vI (a)] σ (pt (some (vI (nsM (sF σ 7 0) a))) ((sF σ 7 0))) := by
  refine CN_of (own := RX4) hL0 (by decide) rfl (Nat.le_of_ble_eq_true rfl) (fun mc hC _ hR => ?_)
  refine j_lv (lv2 := [(0, .ref (gd g (19))), (1, vI (a))]) rfl ?_
  refine j_aload_n hC dX4_closest_0 0 rfl ?_
  refine j_iconst hC dX4_closest_1 ?_
  refine j_put (τ := sF (σ) 7 (0)) hC inX4 tyX4_ok nmX4 rfl 19 rfl 0 (by decide) wd582 rfl rfl (Nat.le_of_ble_eq_true rfl) rfl dX4_closest_2 ?_
  exact tl_closest_ok hC hR (IM_t hI (by omega)) a hr ha
set_option maxHeartbeats 4000000 in
set_option maxRecDepth 100000 in
theorem tl_mostMistaken_b1 {mc : MC} {g : GG} {σ : Sg} (hC : Cx mc g cX4_mostMistaken RX4 2 (some .int)) (hR : mR mc = rmJ 5 117 0 0) (hI : IM σ) (a : Int) (hr : -2147483648 ≤ a ∧ a < 2147483648) (ha : ¬ (0 ≤ a ∧ a < σ.1 8)) : J mc g 0 0 (QN mc g (pt (some (vI 0)) (sF σ 7 1)) 0 0) 5 [(0, .ref (gd g (19))), (1, vI (a))] [] σ := by
  have hI1 := hI.1
  refine j_aload_n hC dX4_mostMistaken_5 0 rfl ?_
  refine j_iload_n hC dX4_mostMistaken_6 1 rfl ?_
  refine j_callV1 (ar := 1) hC hR (c_X4_isLodge (hlJ hC) g σ hI a (by omega)) [] rfl 19 rfl rfl rfl (by decide) (by decide +kernel) rfl wd626 wd628 wp31 wd4 wd629 (by decide) (Nat.le_of_ble_eq_true rfl) dX4_mostMistaken_7 ?_
  refine j_ifb_eq (tgt := 21) hC dX4_mostMistaken_10 (by decide) (fun _ => ?_) (fun h => absurd h (by omega))
  refine j_aload_n hC dX4_mostMistaken_21 0 rfl ?_
  refine j_iconst hC dX4_mostMistaken_22 ?_
  refine j_callV1 (ar := 1) hC hR (c_X4_fail (hlJ hC) g σ 1) [] rfl 19 rfl rfl rfl (by decide) (by decide +kernel) rfl wd618 wd620 wp30 wd4 wd621 (by decide) (Nat.le_of_ble_eq_true rfl) dX4_mostMistaken_23 ?_
  exact j_iret hC dX4_mostMistaken_26 ⟨rfl, rfl⟩
set_option maxHeartbeats 4000000 in
set_option maxRecDepth 100000 in
theorem c_X4_mostMistaken_b1 {L0 : Launch} (hL0 : L0.stackTraces = false) (g : GG) (σ : Sg) (hI : IM σ) (a : Int) (hr : -2147483648 ≤ a ∧ a < 2147483648) (ha : ¬ (0 ≤ a ∧ a < σ.1 8)) : CN L0 yX4_mostMistaken cX4_mostMistaken 2 (some .int) 5 117 0 0 g [.ref (gd g (19)), vI (a)] σ (pt (some (vI 0)) (sF (sF σ 7 0) 7 1)) := by
  refine CN_of (own := RX4) hL0 (by decide) rfl (Nat.le_of_ble_eq_true rfl) (fun mc hC _ hR => ?_)
  refine j_lv (lv2 := [(0, .ref (gd g (19))), (1, vI (a))]) rfl ?_
  refine j_aload_n hC dX4_mostMistaken_0 0 rfl ?_
  refine j_iconst hC dX4_mostMistaken_1 ?_
  refine j_put (τ := sF (σ) 7 (0)) hC inX4 tyX4_ok nmX4 rfl 19 rfl 0 (by decide) wd582 rfl rfl (Nat.le_of_ble_eq_true rfl) rfl dX4_mostMistaken_2 ?_
  exact tl_mostMistaken_b1 hC hR (IM_t hI (by omega)) a hr ha
set_option maxHeartbeats 4000000 in
set_option maxRecDepth 100000 in
theorem tl_mostMistaken_ok {mc : MC} {g : GG} {σ : Sg} (hC : Cx mc g cX4_mostMistaken RX4 2 (some .int)) (hR : mR mc = rmJ 5 117 0 0) (hI : IM σ) (a : Int) (hr : -2147483648 ≤ a ∧ a < 2147483648) (ha : 0 ≤ a ∧ a < σ.1 8) : J mc g 0 0 (QN mc g (pt (some (vI (miM σ a))) (σ)) 0 0) 5 [(0, .ref (gd g (19))), (1, vI (a))] [] σ := by
  have hI1 := hI.1
  have hna := hI.2.2.1 a (by omega) (by omega)
  refine j_aload_n hC dX4_mostMistaken_5 0 rfl ?_
  refine j_iload_n hC dX4_mostMistaken_6 1 rfl ?_
  refine j_callV1 (ar := 1) hC hR (c_X4_isLodge (hlJ hC) g σ hI a (by omega)) [] rfl 19 rfl rfl rfl (by decide) (by decide +kernel) rfl wd626 wd628 wp31 wd4 wd629 (by decide) (Nat.le_of_ble_eq_true rfl) dX4_mostMistaken_7 ?_
  refine j_ifb_eq (tgt := 21) hC dX4_mostMistaken_10 (by decide) (fun h => (h (by omega)).elim) (fun _ => ?_)
  refine j_aload_n hC dX4_mostMistaken_13 0 rfl ?_
  refine j_iload_n hC dX4_mostMistaken_14 1 rfl ?_
  refine j_callV1 (ar := 1) hC hR (c_X4_mistaken (hlJ hC) g σ hI a (by omega)) [] rfl 19 rfl rfl rfl (by decide) (by decide +kernel) rfl wd782 wd784 wp46 wd4 wd785 (by decide) (Nat.le_of_ble_eq_true rfl) dX4_mostMistaken_15 ?_
  refine j_goto (tgt := 26) hC dX4_mostMistaken_18 (by decide) ?_
  exact j_iret hC dX4_mostMistaken_26 ⟨rfl, rfl⟩
set_option maxHeartbeats 4000000 in
set_option maxRecDepth 100000 in
theorem c_X4_mostMistaken_ok {L0 : Launch} (hL0 : L0.stackTraces = false) (g : GG) (σ : Sg) (hI : IM σ) (a : Int) (hr : -2147483648 ≤ a ∧ a < 2147483648) (ha : 0 ≤ a ∧ a < σ.1 8) : CN L0 yX4_mostMistaken cX4_mostMistaken 2 (some .int) 5 117 0 0 g [.ref (gd g (19)), vI (a)] σ (pt (some (vI (miM (sF σ 7 0) a))) ((sF σ 7 0))) := by
  refine CN_of (own := RX4) hL0 (by decide) rfl (Nat.le_of_ble_eq_true rfl) (fun mc hC _ hR => ?_)
  refine j_lv (lv2 := [(0, .ref (gd g (19))), (1, vI (a))]) rfl ?_
  refine j_aload_n hC dX4_mostMistaken_0 0 rfl ?_
  refine j_iconst hC dX4_mostMistaken_1 ?_
  refine j_put (τ := sF (σ) 7 (0)) hC inX4 tyX4_ok nmX4 rfl 19 rfl 0 (by decide) wd582 rfl rfl (Nat.le_of_ble_eq_true rfl) rfl dX4_mostMistaken_2 ?_
  exact tl_mostMistaken_ok hC hR (IM_t hI (by omega)) a hr ha
set_option maxHeartbeats 4000000 in
set_option maxRecDepth 100000 in
theorem tl_of12_b1 {mc : MC} {g : GG} {σ : Sg} (hC : Cx mc g cX4_of RX4 4 (some .int)) (hR : mR mc = rmJ 3 65 0 0) (hI : IM σ) (a s : Int) (hr : -2147483648 ≤ a ∧ a < 2147483648 ∧ -2147483648 ≤ s ∧ s < 2147483648) (hs : ¬ ((0 ≤ a ∧ a < σ.1 8) ∧ (0 ≤ s ∧ s < σ.2 11 a))) : J mc g 0 0 (QN mc g (pt (some (vI 0)) (sF σ 7 1)) 0 0) 5 [(0, .ref (gd g (19))), (1, vI (a)), (2, vI (s)), (3, .ref (gd g (21)))] [] σ := by
  have hI1 := hI.1
  refine j_aload_n hC dX4_of_5 0 rfl ?_
  refine j_iload_n hC dX4_of_6 1 rfl ?_
  refine j_iload_n hC dX4_of_7 2 rfl ?_
  refine j_callV1 (ar := 2) hC hR (c_X4_isSign (hlJ hC) g σ hI a s (by omega)) [] rfl 19 rfl rfl rfl (by decide) (by decide +kernel) rfl wd654 wd656 wp34 wd4 wd657 (by decide) (Nat.le_of_ble_eq_true rfl) dX4_of_8 ?_
  refine j_ifb_eq (tgt := 24) hC dX4_of_11 (by decide) (fun _ => ?_) (fun h => absurd h (by omega))
  refine j_aload_n hC dX4_of_24 0 rfl ?_
  refine j_iconst hC dX4_of_25 ?_
  refine j_callV1 (ar := 1) hC hR (c_X4_fail (hlJ hC) g σ 1) [] rfl 19 rfl rfl rfl (by decide) (by decide +kernel) rfl wd618 wd620 wp30 wd4 wd621 (by decide) (Nat.le_of_ble_eq_true rfl) dX4_of_26 ?_
  exact j_iret hC dX4_of_29 ⟨rfl, rfl⟩
set_option maxHeartbeats 4000000 in
set_option maxRecDepth 100000 in
theorem c_X4_of12_b1 {L0 : Launch} (hL0 : L0.stackTraces = false) (g : GG) (σ : Sg) (hI : IM σ) (a s : Int) (hr : -2147483648 ≤ a ∧ a < 2147483648 ∧ -2147483648 ≤ s ∧ s < 2147483648) (hs : ¬ ((0 ≤ a ∧ a < σ.1 8) ∧ (0 ≤ s ∧ s < σ.2 11 a))) : CN L0 yX4_of cX4_of 4 (some .int) 3 65 0 0 g [.ref (gd g (19)), vI (a), vI (s), .ref (gd g (21))] σ (pt (some (vI 0)) (sF (sF σ 7 0) 7 1)) := by
  refine CN_of (own := RX4) hL0 (by decide) rfl (Nat.le_of_ble_eq_true rfl) (fun mc hC _ hR => ?_)
  refine j_lv (lv2 := [(0, .ref (gd g (19))), (1, vI (a)), (2, vI (s)), (3, .ref (gd g (21)))]) rfl ?_
  refine j_aload_n hC dX4_of_0 0 rfl ?_
  refine j_iconst hC dX4_of_1 ?_
  refine j_put (τ := sF (σ) 7 (0)) hC inX4 tyX4_ok nmX4 rfl 19 rfl 0 (by decide) wd582 rfl rfl (Nat.le_of_ble_eq_true rfl) rfl dX4_of_2 ?_
  exact tl_of12_b1 hC hR (IM_t hI (by omega)) a s hr hs
set_option maxHeartbeats 4000000 in
set_option maxRecDepth 100000 in
theorem tl_of12_ok {mc : MC} {g : GG} {σ : Sg} (hC : Cx mc g cX4_of RX4 4 (some .int)) (hR : mR mc = rmJ 3 65 0 0) (hI : IM σ) (a s : Int) (hr : -2147483648 ≤ a ∧ a < 2147483648 ∧ -2147483648 ≤ s ∧ s < 2147483648) (hs : (0 ≤ a ∧ a < σ.1 8) ∧ (0 ≤ s ∧ s < σ.2 11 a)) : J mc g 0 0 (QN mc g (pt (some (vI (σ.2 12 (16 * a + s)))) (σ)) 0 0) 5 [(0, .ref (gd g (19))), (1, vI (a)), (2, vI (s)), (3, .ref (gd g (21)))] [] σ := by
  have hI1 := hI.1
  have hna := hI.2.2.1 a (by omega) (by omega)
  refine j_aload_n hC dX4_of_5 0 rfl ?_
  refine j_iload_n hC dX4_of_6 1 rfl ?_
  refine j_iload_n hC dX4_of_7 2 rfl ?_
  refine j_callV1 (ar := 2) hC hR (c_X4_isSign (hlJ hC) g σ hI a s (by omega)) [] rfl 19 rfl rfl rfl (by decide) (by decide +kernel) rfl wd654 wd656 wp34 wd4 wd657 (by decide) (Nat.le_of_ble_eq_true rfl) dX4_of_8 ?_
  refine j_ifb_eq (tgt := 24) hC dX4_of_11 (by decide) (fun h => (h (by omega)).elim) (fun _ => ?_)
  refine j_aload_n hC dX4_of_14 3 rfl ?_
  refine j_iload_n hC dX4_of_15 1 rfl ?_
  refine j_iload_n hC dX4_of_16 2 rfl ?_
  refine j_callS1 (ar := 2) hC hR (c_X4_at (hlJ hC) g σ a s ) [.ref (gd g (21))] rfl (by decide) (by decide +kernel) rfl wd643 wd644 wd4 wd645 (by decide) (Nat.le_of_ble_eq_true rfl) dX4_of_17 ?_
  refine j_iald hC 21 rfl (by omega) dX4_of_20 ?_
  refine j_goto (tgt := 29) hC dX4_of_21 (by decide) ?_
  exact j_iret hC dX4_of_29 ⟨rfl, rfl⟩
set_option maxHeartbeats 4000000 in
set_option maxRecDepth 100000 in
theorem c_X4_of12_ok {L0 : Launch} (hL0 : L0.stackTraces = false) (g : GG) (σ : Sg) (hI : IM σ) (a s : Int) (hr : -2147483648 ≤ a ∧ a < 2147483648 ∧ -2147483648 ≤ s ∧ s < 2147483648) (hs : (0 ≤ a ∧ a < σ.1 8) ∧ (0 ≤ s ∧ s < σ.2 11 a)) : CN L0 yX4_of cX4_of 4 (some .int) 3 65 0 0 g [.ref (gd g (19)), vI (a), vI (s), .ref (gd g (21))] σ (pt (some (vI ((sF σ 7 0).2 12 (16 * a + s)))) ((sF σ 7 0))) := by
  refine CN_of (own := RX4) hL0 (by decide) rfl (Nat.le_of_ble_eq_true rfl) (fun mc hC _ hR => ?_)
  refine j_lv (lv2 := [(0, .ref (gd g (19))), (1, vI (a)), (2, vI (s)), (3, .ref (gd g (21)))]) rfl ?_
  refine j_aload_n hC dX4_of_0 0 rfl ?_
  refine j_iconst hC dX4_of_1 ?_
  refine j_put (τ := sF (σ) 7 (0)) hC inX4 tyX4_ok nmX4 rfl 19 rfl 0 (by decide) wd582 rfl rfl (Nat.le_of_ble_eq_true rfl) rfl dX4_of_2 ?_
  exact tl_of12_ok hC hR (IM_t hI (by omega)) a s hr hs
set_option maxHeartbeats 4000000 in
set_option maxRecDepth 100000 in
theorem c_X4_shapeOf_b1 {L0 : Launch} (hL0 : L0.stackTraces = false) (g : GG) (σ : Sg) (hI : IM σ) (a s : Int) (hr : -2147483648 ≤ a ∧ a < 2147483648 ∧ -2147483648 ≤ s ∧ s < 2147483648) (hs : ¬ ((0 ≤ a ∧ a < σ.1 8) ∧ (0 ≤ s ∧ s < σ.2 11 a))) : CN L0 yX4_shapeOf cX4_shapeOf 3 (some .int) 4 88 0 0 g [.ref (gd g (19)), vI (a), vI (s)] σ (pt (some (vI 0)) (sF (sF σ 7 0) 7 1)) := by
  refine CN_of (own := RX4) hL0 (by decide) rfl (Nat.le_of_ble_eq_true rfl) (fun mc hC _ hR => ?_)
  refine j_lv (lv2 := [(0, .ref (gd g (19))), (1, vI (a)), (2, vI (s))]) rfl ?_
  refine j_aload_n hC dX4_shapeOf_0 0 rfl ?_
  refine j_iload_n hC dX4_shapeOf_1 1 rfl ?_
  refine j_iload_n hC dX4_shapeOf_2 2 rfl ?_
  refine j_aload_n hC dX4_shapeOf_3 0 rfl ?_
  refine j_get hC inX4 rfl 19 rfl 3 (by decide) wd585 rfl dX4_shapeOf_4 ?_
  refine j_callV1 (ar := 3) hC hR (c_X4_of12_b1 (hlJ hC) g σ hI a s hr hs) [] rfl 19 rfl rfl rfl (by decide) (by decide +kernel) rfl wd726 wd728 wp41 wd4 wd729 (by decide) (Nat.le_of_ble_eq_true rfl) dX4_shapeOf_7 ?_
  exact j_iret hC dX4_shapeOf_10 ⟨rfl, rfl⟩
set_option maxHeartbeats 4000000 in
set_option maxRecDepth 100000 in
theorem c_X4_shapeOf_ok {L0 : Launch} (hL0 : L0.stackTraces = false) (g : GG) (σ : Sg) (hI : IM σ) (a s : Int) (hr : -2147483648 ≤ a ∧ a < 2147483648 ∧ -2147483648 ≤ s ∧ s < 2147483648) (hs : (0 ≤ a ∧ a < σ.1 8) ∧ (0 ≤ s ∧ s < σ.2 11 a)) : CN L0 yX4_shapeOf cX4_shapeOf 3 (some .int) 4 88 0 0 g [.ref (gd g (19)), vI (a), vI (s)] σ (pt (some (vI ((sF σ 7 0).2 12 (16 * a + s)))) (sF σ 7 0)) := by
  refine CN_of (own := RX4) hL0 (by decide) rfl (Nat.le_of_ble_eq_true rfl) (fun mc hC _ hR => ?_)
  refine j_lv (lv2 := [(0, .ref (gd g (19))), (1, vI (a)), (2, vI (s))]) rfl ?_
  refine j_aload_n hC dX4_shapeOf_0 0 rfl ?_
  refine j_iload_n hC dX4_shapeOf_1 1 rfl ?_
  refine j_iload_n hC dX4_shapeOf_2 2 rfl ?_
  refine j_aload_n hC dX4_shapeOf_3 0 rfl ?_
  refine j_get hC inX4 rfl 19 rfl 3 (by decide) wd585 rfl dX4_shapeOf_4 ?_
  refine j_callV1 (ar := 3) hC hR (c_X4_of12_ok (hlJ hC) g σ hI a s hr hs) [] rfl 19 rfl rfl rfl (by decide) (by decide +kernel) rfl wd726 wd728 wp41 wd4 wd729 (by decide) (Nat.le_of_ble_eq_true rfl) dX4_shapeOf_7 ?_
  exact j_iret hC dX4_shapeOf_10 ⟨rfl, rfl⟩
set_option maxHeartbeats 4000000 in
set_option maxRecDepth 100000 in
theorem tl_of13_b1 {mc : MC} {g : GG} {σ : Sg} (hC : Cx mc g cX4_of RX4 4 (some .int)) (hR : mR mc = rmJ 3 65 0 0) (hI : IM σ) (a s : Int) (hr : -2147483648 ≤ a ∧ a < 2147483648 ∧ -2147483648 ≤ s ∧ s < 2147483648) (hs : ¬ ((0 ≤ a ∧ a < σ.1 8) ∧ (0 ≤ s ∧ s < σ.2 11 a))) : J mc g 0 0 (QN mc g (pt (some (vI 0)) (sF σ 7 1)) 0 0) 5 [(0, .ref (gd g (19))), (1, vI (a)), (2, vI (s)), (3, .ref (gd g (22)))] [] σ := by
  have hI1 := hI.1
  refine j_aload_n hC dX4_of_5 0 rfl ?_
  refine j_iload_n hC dX4_of_6 1 rfl ?_
  refine j_iload_n hC dX4_of_7 2 rfl ?_
  refine j_callV1 (ar := 2) hC hR (c_X4_isSign (hlJ hC) g σ hI a s (by omega)) [] rfl 19 rfl rfl rfl (by decide) (by decide +kernel) rfl wd654 wd656 wp34 wd4 wd657 (by decide) (Nat.le_of_ble_eq_true rfl) dX4_of_8 ?_
  refine j_ifb_eq (tgt := 24) hC dX4_of_11 (by decide) (fun _ => ?_) (fun h => absurd h (by omega))
  refine j_aload_n hC dX4_of_24 0 rfl ?_
  refine j_iconst hC dX4_of_25 ?_
  refine j_callV1 (ar := 1) hC hR (c_X4_fail (hlJ hC) g σ 1) [] rfl 19 rfl rfl rfl (by decide) (by decide +kernel) rfl wd618 wd620 wp30 wd4 wd621 (by decide) (Nat.le_of_ble_eq_true rfl) dX4_of_26 ?_
  exact j_iret hC dX4_of_29 ⟨rfl, rfl⟩
set_option maxHeartbeats 4000000 in
set_option maxRecDepth 100000 in
theorem c_X4_of13_b1 {L0 : Launch} (hL0 : L0.stackTraces = false) (g : GG) (σ : Sg) (hI : IM σ) (a s : Int) (hr : -2147483648 ≤ a ∧ a < 2147483648 ∧ -2147483648 ≤ s ∧ s < 2147483648) (hs : ¬ ((0 ≤ a ∧ a < σ.1 8) ∧ (0 ≤ s ∧ s < σ.2 11 a))) : CN L0 yX4_of cX4_of 4 (some .int) 3 65 0 0 g [.ref (gd g (19)), vI (a), vI (s), .ref (gd g (22))] σ (pt (some (vI 0)) (sF (sF σ 7 0) 7 1)) := by
  refine CN_of (own := RX4) hL0 (by decide) rfl (Nat.le_of_ble_eq_true rfl) (fun mc hC _ hR => ?_)
  refine j_lv (lv2 := [(0, .ref (gd g (19))), (1, vI (a)), (2, vI (s)), (3, .ref (gd g (22)))]) rfl ?_
  refine j_aload_n hC dX4_of_0 0 rfl ?_
  refine j_iconst hC dX4_of_1 ?_
  refine j_put (τ := sF (σ) 7 (0)) hC inX4 tyX4_ok nmX4 rfl 19 rfl 0 (by decide) wd582 rfl rfl (Nat.le_of_ble_eq_true rfl) rfl dX4_of_2 ?_
  exact tl_of13_b1 hC hR (IM_t hI (by omega)) a s hr hs
set_option maxHeartbeats 4000000 in
set_option maxRecDepth 100000 in
theorem tl_of13_ok {mc : MC} {g : GG} {σ : Sg} (hC : Cx mc g cX4_of RX4 4 (some .int)) (hR : mR mc = rmJ 3 65 0 0) (hI : IM σ) (a s : Int) (hr : -2147483648 ≤ a ∧ a < 2147483648 ∧ -2147483648 ≤ s ∧ s < 2147483648) (hs : (0 ≤ a ∧ a < σ.1 8) ∧ (0 ≤ s ∧ s < σ.2 11 a)) : J mc g 0 0 (QN mc g (pt (some (vI (σ.2 13 (16 * a + s)))) (σ)) 0 0) 5 [(0, .ref (gd g (19))), (1, vI (a)), (2, vI (s)), (3, .ref (gd g (22)))] [] σ := by
  have hI1 := hI.1
  have hna := hI.2.2.1 a (by omega) (by omega)
  refine j_aload_n hC dX4_of_5 0 rfl ?_
  refine j_iload_n hC dX4_of_6 1 rfl ?_
  refine j_iload_n hC dX4_of_7 2 rfl ?_
  refine j_callV1 (ar := 2) hC hR (c_X4_isSign (hlJ hC) g σ hI a s (by omega)) [] rfl 19 rfl rfl rfl (by decide) (by decide +kernel) rfl wd654 wd656 wp34 wd4 wd657 (by decide) (Nat.le_of_ble_eq_true rfl) dX4_of_8 ?_
  refine j_ifb_eq (tgt := 24) hC dX4_of_11 (by decide) (fun h => (h (by omega)).elim) (fun _ => ?_)
  refine j_aload_n hC dX4_of_14 3 rfl ?_
  refine j_iload_n hC dX4_of_15 1 rfl ?_
  refine j_iload_n hC dX4_of_16 2 rfl ?_
  refine j_callS1 (ar := 2) hC hR (c_X4_at (hlJ hC) g σ a s ) [.ref (gd g (22))] rfl (by decide) (by decide +kernel) rfl wd643 wd644 wd4 wd645 (by decide) (Nat.le_of_ble_eq_true rfl) dX4_of_17 ?_
  refine j_iald hC 22 rfl (by omega) dX4_of_20 ?_
  refine j_goto (tgt := 29) hC dX4_of_21 (by decide) ?_
  exact j_iret hC dX4_of_29 ⟨rfl, rfl⟩
set_option maxHeartbeats 4000000 in
set_option maxRecDepth 100000 in
theorem c_X4_of13_ok {L0 : Launch} (hL0 : L0.stackTraces = false) (g : GG) (σ : Sg) (hI : IM σ) (a s : Int) (hr : -2147483648 ≤ a ∧ a < 2147483648 ∧ -2147483648 ≤ s ∧ s < 2147483648) (hs : (0 ≤ a ∧ a < σ.1 8) ∧ (0 ≤ s ∧ s < σ.2 11 a)) : CN L0 yX4_of cX4_of 4 (some .int) 3 65 0 0 g [.ref (gd g (19)), vI (a), vI (s), .ref (gd g (22))] σ (pt (some (vI ((sF σ 7 0).2 13 (16 * a + s)))) ((sF σ 7 0))) := by
  refine CN_of (own := RX4) hL0 (by decide) rfl (Nat.le_of_ble_eq_true rfl) (fun mc hC _ hR => ?_)
  refine j_lv (lv2 := [(0, .ref (gd g (19))), (1, vI (a)), (2, vI (s)), (3, .ref (gd g (22)))]) rfl ?_
  refine j_aload_n hC dX4_of_0 0 rfl ?_
  refine j_iconst hC dX4_of_1 ?_
  refine j_put (τ := sF (σ) 7 (0)) hC inX4 tyX4_ok nmX4 rfl 19 rfl 0 (by decide) wd582 rfl rfl (Nat.le_of_ble_eq_true rfl) rfl dX4_of_2 ?_
  exact tl_of13_ok hC hR (IM_t hI (by omega)) a s hr hs
set_option maxHeartbeats 4000000 in
set_option maxRecDepth 100000 in
theorem c_X4_thumbOf_b1 {L0 : Launch} (hL0 : L0.stackTraces = false) (g : GG) (σ : Sg) (hI : IM σ) (a s : Int) (hr : -2147483648 ≤ a ∧ a < 2147483648 ∧ -2147483648 ≤ s ∧ s < 2147483648) (hs : ¬ ((0 ≤ a ∧ a < σ.1 8) ∧ (0 ≤ s ∧ s < σ.2 11 a))) : CN L0 yX4_thumbOf cX4_thumbOf 3 (some .int) 4 88 0 0 g [.ref (gd g (19)), vI (a), vI (s)] σ (pt (some (vI 0)) (sF (sF σ 7 0) 7 1)) := by
  refine CN_of (own := RX4) hL0 (by decide) rfl (Nat.le_of_ble_eq_true rfl) (fun mc hC _ hR => ?_)
  refine j_lv (lv2 := [(0, .ref (gd g (19))), (1, vI (a)), (2, vI (s))]) rfl ?_
  refine j_aload_n hC dX4_thumbOf_0 0 rfl ?_
  refine j_iload_n hC dX4_thumbOf_1 1 rfl ?_
  refine j_iload_n hC dX4_thumbOf_2 2 rfl ?_
  refine j_aload_n hC dX4_thumbOf_3 0 rfl ?_
  refine j_get hC inX4 rfl 19 rfl 4 (by decide) wd586 rfl dX4_thumbOf_4 ?_
  refine j_callV1 (ar := 3) hC hR (c_X4_of13_b1 (hlJ hC) g σ hI a s hr hs) [] rfl 19 rfl rfl rfl (by decide) (by decide +kernel) rfl wd726 wd728 wp41 wd4 wd729 (by decide) (Nat.le_of_ble_eq_true rfl) dX4_thumbOf_7 ?_
  exact j_iret hC dX4_thumbOf_10 ⟨rfl, rfl⟩
set_option maxHeartbeats 4000000 in
set_option maxRecDepth 100000 in
theorem c_X4_thumbOf_ok {L0 : Launch} (hL0 : L0.stackTraces = false) (g : GG) (σ : Sg) (hI : IM σ) (a s : Int) (hr : -2147483648 ≤ a ∧ a < 2147483648 ∧ -2147483648 ≤ s ∧ s < 2147483648) (hs : (0 ≤ a ∧ a < σ.1 8) ∧ (0 ≤ s ∧ s < σ.2 11 a)) : CN L0 yX4_thumbOf cX4_thumbOf 3 (some .int) 4 88 0 0 g [.ref (gd g (19)), vI (a), vI (s)] σ (pt (some (vI ((sF σ 7 0).2 13 (16 * a + s)))) (sF σ 7 0)) := by
  refine CN_of (own := RX4) hL0 (by decide) rfl (Nat.le_of_ble_eq_true rfl) (fun mc hC _ hR => ?_)
  refine j_lv (lv2 := [(0, .ref (gd g (19))), (1, vI (a)), (2, vI (s))]) rfl ?_
  refine j_aload_n hC dX4_thumbOf_0 0 rfl ?_
  refine j_iload_n hC dX4_thumbOf_1 1 rfl ?_
  refine j_iload_n hC dX4_thumbOf_2 2 rfl ?_
  refine j_aload_n hC dX4_thumbOf_3 0 rfl ?_
  refine j_get hC inX4 rfl 19 rfl 4 (by decide) wd586 rfl dX4_thumbOf_4 ?_
  refine j_callV1 (ar := 3) hC hR (c_X4_of13_ok (hlJ hC) g σ hI a s hr hs) [] rfl 19 rfl rfl rfl (by decide) (by decide +kernel) rfl wd726 wd728 wp41 wd4 wd729 (by decide) (Nat.le_of_ble_eq_true rfl) dX4_thumbOf_7 ?_
  exact j_iret hC dX4_thumbOf_10 ⟨rfl, rfl⟩
set_option maxHeartbeats 4000000 in
set_option maxRecDepth 100000 in
theorem tl_of14_b1 {mc : MC} {g : GG} {σ : Sg} (hC : Cx mc g cX4_of RX4 4 (some .int)) (hR : mR mc = rmJ 3 65 0 0) (hI : IM σ) (a s : Int) (hr : -2147483648 ≤ a ∧ a < 2147483648 ∧ -2147483648 ≤ s ∧ s < 2147483648) (hs : ¬ ((0 ≤ a ∧ a < σ.1 8) ∧ (0 ≤ s ∧ s < σ.2 11 a))) : J mc g 0 0 (QN mc g (pt (some (vI 0)) (sF σ 7 1)) 0 0) 5 [(0, .ref (gd g (19))), (1, vI (a)), (2, vI (s)), (3, .ref (gd g (23)))] [] σ := by
  have hI1 := hI.1
  refine j_aload_n hC dX4_of_5 0 rfl ?_
  refine j_iload_n hC dX4_of_6 1 rfl ?_
  refine j_iload_n hC dX4_of_7 2 rfl ?_
  refine j_callV1 (ar := 2) hC hR (c_X4_isSign (hlJ hC) g σ hI a s (by omega)) [] rfl 19 rfl rfl rfl (by decide) (by decide +kernel) rfl wd654 wd656 wp34 wd4 wd657 (by decide) (Nat.le_of_ble_eq_true rfl) dX4_of_8 ?_
  refine j_ifb_eq (tgt := 24) hC dX4_of_11 (by decide) (fun _ => ?_) (fun h => absurd h (by omega))
  refine j_aload_n hC dX4_of_24 0 rfl ?_
  refine j_iconst hC dX4_of_25 ?_
  refine j_callV1 (ar := 1) hC hR (c_X4_fail (hlJ hC) g σ 1) [] rfl 19 rfl rfl rfl (by decide) (by decide +kernel) rfl wd618 wd620 wp30 wd4 wd621 (by decide) (Nat.le_of_ble_eq_true rfl) dX4_of_26 ?_
  exact j_iret hC dX4_of_29 ⟨rfl, rfl⟩
set_option maxHeartbeats 4000000 in
set_option maxRecDepth 100000 in
theorem c_X4_of14_b1 {L0 : Launch} (hL0 : L0.stackTraces = false) (g : GG) (σ : Sg) (hI : IM σ) (a s : Int) (hr : -2147483648 ≤ a ∧ a < 2147483648 ∧ -2147483648 ≤ s ∧ s < 2147483648) (hs : ¬ ((0 ≤ a ∧ a < σ.1 8) ∧ (0 ≤ s ∧ s < σ.2 11 a))) : CN L0 yX4_of cX4_of 4 (some .int) 3 65 0 0 g [.ref (gd g (19)), vI (a), vI (s), .ref (gd g (23))] σ (pt (some (vI 0)) (sF (sF σ 7 0) 7 1)) := by
  refine CN_of (own := RX4) hL0 (by decide) rfl (Nat.le_of_ble_eq_true rfl) (fun mc hC _ hR => ?_)
  refine j_lv (lv2 := [(0, .ref (gd g (19))), (1, vI (a)), (2, vI (s)), (3, .ref (gd g (23)))]) rfl ?_
  refine j_aload_n hC dX4_of_0 0 rfl ?_
  refine j_iconst hC dX4_of_1 ?_
  refine j_put (τ := sF (σ) 7 (0)) hC inX4 tyX4_ok nmX4 rfl 19 rfl 0 (by decide) wd582 rfl rfl (Nat.le_of_ble_eq_true rfl) rfl dX4_of_2 ?_
  exact tl_of14_b1 hC hR (IM_t hI (by omega)) a s hr hs
set_option maxHeartbeats 4000000 in
set_option maxRecDepth 100000 in
theorem tl_of14_ok {mc : MC} {g : GG} {σ : Sg} (hC : Cx mc g cX4_of RX4 4 (some .int)) (hR : mR mc = rmJ 3 65 0 0) (hI : IM σ) (a s : Int) (hr : -2147483648 ≤ a ∧ a < 2147483648 ∧ -2147483648 ≤ s ∧ s < 2147483648) (hs : (0 ≤ a ∧ a < σ.1 8) ∧ (0 ≤ s ∧ s < σ.2 11 a)) : J mc g 0 0 (QN mc g (pt (some (vI (σ.2 14 (16 * a + s)))) (σ)) 0 0) 5 [(0, .ref (gd g (19))), (1, vI (a)), (2, vI (s)), (3, .ref (gd g (23)))] [] σ := by
  have hI1 := hI.1
  have hna := hI.2.2.1 a (by omega) (by omega)
  refine j_aload_n hC dX4_of_5 0 rfl ?_
  refine j_iload_n hC dX4_of_6 1 rfl ?_
  refine j_iload_n hC dX4_of_7 2 rfl ?_
  refine j_callV1 (ar := 2) hC hR (c_X4_isSign (hlJ hC) g σ hI a s (by omega)) [] rfl 19 rfl rfl rfl (by decide) (by decide +kernel) rfl wd654 wd656 wp34 wd4 wd657 (by decide) (Nat.le_of_ble_eq_true rfl) dX4_of_8 ?_
  refine j_ifb_eq (tgt := 24) hC dX4_of_11 (by decide) (fun h => (h (by omega)).elim) (fun _ => ?_)
  refine j_aload_n hC dX4_of_14 3 rfl ?_
  refine j_iload_n hC dX4_of_15 1 rfl ?_
  refine j_iload_n hC dX4_of_16 2 rfl ?_
  refine j_callS1 (ar := 2) hC hR (c_X4_at (hlJ hC) g σ a s ) [.ref (gd g (23))] rfl (by decide) (by decide +kernel) rfl wd643 wd644 wd4 wd645 (by decide) (Nat.le_of_ble_eq_true rfl) dX4_of_17 ?_
  refine j_iald hC 23 rfl (by omega) dX4_of_20 ?_
  refine j_goto (tgt := 29) hC dX4_of_21 (by decide) ?_
  exact j_iret hC dX4_of_29 ⟨rfl, rfl⟩
set_option maxHeartbeats 4000000 in
set_option maxRecDepth 100000 in
theorem c_X4_of14_ok {L0 : Launch} (hL0 : L0.stackTraces = false) (g : GG) (σ : Sg) (hI : IM σ) (a s : Int) (hr : -2147483648 ≤ a ∧ a < 2147483648 ∧ -2147483648 ≤ s ∧ s < 2147483648) (hs : (0 ≤ a ∧ a < σ.1 8) ∧ (0 ≤ s ∧ s < σ.2 11 a)) : CN L0 yX4_of cX4_of 4 (some .int) 3 65 0 0 g [.ref (gd g (19)), vI (a), vI (s), .ref (gd g (23))] σ (pt (some (vI ((sF σ 7 0).2 14 (16 * a + s)))) ((sF σ 7 0))) := by
  refine CN_of (own := RX4) hL0 (by decide) rfl (Nat.le_of_ble_eq_true rfl) (fun mc hC _ hR => ?_)
  refine j_lv (lv2 := [(0, .ref (gd g (19))), (1, vI (a)), (2, vI (s)), (3, .ref (gd g (23)))]) rfl ?_
  refine j_aload_n hC dX4_of_0 0 rfl ?_
  refine j_iconst hC dX4_of_1 ?_
  refine j_put (τ := sF (σ) 7 (0)) hC inX4 tyX4_ok nmX4 rfl 19 rfl 0 (by decide) wd582 rfl rfl (Nat.le_of_ble_eq_true rfl) rfl dX4_of_2 ?_
  exact tl_of14_ok hC hR (IM_t hI (by omega)) a s hr hs
set_option maxHeartbeats 4000000 in
set_option maxRecDepth 100000 in
theorem c_X4_placeOf_b1 {L0 : Launch} (hL0 : L0.stackTraces = false) (g : GG) (σ : Sg) (hI : IM σ) (a s : Int) (hr : -2147483648 ≤ a ∧ a < 2147483648 ∧ -2147483648 ≤ s ∧ s < 2147483648) (hs : ¬ ((0 ≤ a ∧ a < σ.1 8) ∧ (0 ≤ s ∧ s < σ.2 11 a))) : CN L0 yX4_placeOf cX4_placeOf 3 (some .int) 4 88 0 0 g [.ref (gd g (19)), vI (a), vI (s)] σ (pt (some (vI 0)) (sF (sF σ 7 0) 7 1)) := by
  refine CN_of (own := RX4) hL0 (by decide) rfl (Nat.le_of_ble_eq_true rfl) (fun mc hC _ hR => ?_)
  refine j_lv (lv2 := [(0, .ref (gd g (19))), (1, vI (a)), (2, vI (s))]) rfl ?_
  refine j_aload_n hC dX4_placeOf_0 0 rfl ?_
  refine j_iload_n hC dX4_placeOf_1 1 rfl ?_
  refine j_iload_n hC dX4_placeOf_2 2 rfl ?_
  refine j_aload_n hC dX4_placeOf_3 0 rfl ?_
  refine j_get hC inX4 rfl 19 rfl 5 (by decide) wd587 rfl dX4_placeOf_4 ?_
  refine j_callV1 (ar := 3) hC hR (c_X4_of14_b1 (hlJ hC) g σ hI a s hr hs) [] rfl 19 rfl rfl rfl (by decide) (by decide +kernel) rfl wd726 wd728 wp41 wd4 wd729 (by decide) (Nat.le_of_ble_eq_true rfl) dX4_placeOf_7 ?_
  exact j_iret hC dX4_placeOf_10 ⟨rfl, rfl⟩
set_option maxHeartbeats 4000000 in
set_option maxRecDepth 100000 in
theorem c_X4_placeOf_ok {L0 : Launch} (hL0 : L0.stackTraces = false) (g : GG) (σ : Sg) (hI : IM σ) (a s : Int) (hr : -2147483648 ≤ a ∧ a < 2147483648 ∧ -2147483648 ≤ s ∧ s < 2147483648) (hs : (0 ≤ a ∧ a < σ.1 8) ∧ (0 ≤ s ∧ s < σ.2 11 a)) : CN L0 yX4_placeOf cX4_placeOf 3 (some .int) 4 88 0 0 g [.ref (gd g (19)), vI (a), vI (s)] σ (pt (some (vI ((sF σ 7 0).2 14 (16 * a + s)))) (sF σ 7 0)) := by
  refine CN_of (own := RX4) hL0 (by decide) rfl (Nat.le_of_ble_eq_true rfl) (fun mc hC _ hR => ?_)
  refine j_lv (lv2 := [(0, .ref (gd g (19))), (1, vI (a)), (2, vI (s))]) rfl ?_
  refine j_aload_n hC dX4_placeOf_0 0 rfl ?_
  refine j_iload_n hC dX4_placeOf_1 1 rfl ?_
  refine j_iload_n hC dX4_placeOf_2 2 rfl ?_
  refine j_aload_n hC dX4_placeOf_3 0 rfl ?_
  refine j_get hC inX4 rfl 19 rfl 5 (by decide) wd587 rfl dX4_placeOf_4 ?_
  refine j_callV1 (ar := 3) hC hR (c_X4_of14_ok (hlJ hC) g σ hI a s hr hs) [] rfl 19 rfl rfl rfl (by decide) (by decide +kernel) rfl wd726 wd728 wp41 wd4 wd729 (by decide) (Nat.le_of_ble_eq_true rfl) dX4_placeOf_7 ?_
  exact j_iret hC dX4_placeOf_10 ⟨rfl, rfl⟩
set_option maxHeartbeats 4000000 in
set_option maxRecDepth 100000 in
theorem tl_of16_b1 {mc : MC} {g : GG} {σ : Sg} (hC : Cx mc g cX4_of RX4 4 (some .int)) (hR : mR mc = rmJ 3 65 0 0) (hI : IM σ) (a s : Int) (hr : -2147483648 ≤ a ∧ a < 2147483648 ∧ -2147483648 ≤ s ∧ s < 2147483648) (hs : ¬ ((0 ≤ a ∧ a < σ.1 8) ∧ (0 ≤ s ∧ s < σ.2 11 a))) : J mc g 0 0 (QN mc g (pt (some (vI 0)) (sF σ 7 1)) 0 0) 5 [(0, .ref (gd g (19))), (1, vI (a)), (2, vI (s)), (3, .ref (gd g (25)))] [] σ := by
  have hI1 := hI.1
  refine j_aload_n hC dX4_of_5 0 rfl ?_
  refine j_iload_n hC dX4_of_6 1 rfl ?_
  refine j_iload_n hC dX4_of_7 2 rfl ?_
  refine j_callV1 (ar := 2) hC hR (c_X4_isSign (hlJ hC) g σ hI a s (by omega)) [] rfl 19 rfl rfl rfl (by decide) (by decide +kernel) rfl wd654 wd656 wp34 wd4 wd657 (by decide) (Nat.le_of_ble_eq_true rfl) dX4_of_8 ?_
  refine j_ifb_eq (tgt := 24) hC dX4_of_11 (by decide) (fun _ => ?_) (fun h => absurd h (by omega))
  refine j_aload_n hC dX4_of_24 0 rfl ?_
  refine j_iconst hC dX4_of_25 ?_
  refine j_callV1 (ar := 1) hC hR (c_X4_fail (hlJ hC) g σ 1) [] rfl 19 rfl rfl rfl (by decide) (by decide +kernel) rfl wd618 wd620 wp30 wd4 wd621 (by decide) (Nat.le_of_ble_eq_true rfl) dX4_of_26 ?_
  exact j_iret hC dX4_of_29 ⟨rfl, rfl⟩
set_option maxHeartbeats 4000000 in
set_option maxRecDepth 100000 in
theorem c_X4_of16_b1 {L0 : Launch} (hL0 : L0.stackTraces = false) (g : GG) (σ : Sg) (hI : IM σ) (a s : Int) (hr : -2147483648 ≤ a ∧ a < 2147483648 ∧ -2147483648 ≤ s ∧ s < 2147483648) (hs : ¬ ((0 ≤ a ∧ a < σ.1 8) ∧ (0 ≤ s ∧ s < σ.2 11 a))) : CN L0 yX4_of cX4_of 4 (some .int) 3 65 0 0 g [.ref (gd g (19)), vI (a), vI (s), .ref (gd g (25))] σ (pt (some (vI 0)) (sF (sF σ 7 0) 7 1)) := by
  refine CN_of (own := RX4) hL0 (by decide) rfl (Nat.le_of_ble_eq_true rfl) (fun mc hC _ hR => ?_)
  refine j_lv (lv2 := [(0, .ref (gd g (19))), (1, vI (a)), (2, vI (s)), (3, .ref (gd g (25)))]) rfl ?_
  refine j_aload_n hC dX4_of_0 0 rfl ?_
  refine j_iconst hC dX4_of_1 ?_
  refine j_put (τ := sF (σ) 7 (0)) hC inX4 tyX4_ok nmX4 rfl 19 rfl 0 (by decide) wd582 rfl rfl (Nat.le_of_ble_eq_true rfl) rfl dX4_of_2 ?_
  exact tl_of16_b1 hC hR (IM_t hI (by omega)) a s hr hs
set_option maxHeartbeats 4000000 in
set_option maxRecDepth 100000 in
theorem tl_of16_ok {mc : MC} {g : GG} {σ : Sg} (hC : Cx mc g cX4_of RX4 4 (some .int)) (hR : mR mc = rmJ 3 65 0 0) (hI : IM σ) (a s : Int) (hr : -2147483648 ≤ a ∧ a < 2147483648 ∧ -2147483648 ≤ s ∧ s < 2147483648) (hs : (0 ≤ a ∧ a < σ.1 8) ∧ (0 ≤ s ∧ s < σ.2 11 a)) : J mc g 0 0 (QN mc g (pt (some (vI (σ.2 16 (16 * a + s)))) (σ)) 0 0) 5 [(0, .ref (gd g (19))), (1, vI (a)), (2, vI (s)), (3, .ref (gd g (25)))] [] σ := by
  have hI1 := hI.1
  have hna := hI.2.2.1 a (by omega) (by omega)
  refine j_aload_n hC dX4_of_5 0 rfl ?_
  refine j_iload_n hC dX4_of_6 1 rfl ?_
  refine j_iload_n hC dX4_of_7 2 rfl ?_
  refine j_callV1 (ar := 2) hC hR (c_X4_isSign (hlJ hC) g σ hI a s (by omega)) [] rfl 19 rfl rfl rfl (by decide) (by decide +kernel) rfl wd654 wd656 wp34 wd4 wd657 (by decide) (Nat.le_of_ble_eq_true rfl) dX4_of_8 ?_
  refine j_ifb_eq (tgt := 24) hC dX4_of_11 (by decide) (fun h => (h (by omega)).elim) (fun _ => ?_)
  refine j_aload_n hC dX4_of_14 3 rfl ?_
  refine j_iload_n hC dX4_of_15 1 rfl ?_
  refine j_iload_n hC dX4_of_16 2 rfl ?_
  refine j_callS1 (ar := 2) hC hR (c_X4_at (hlJ hC) g σ a s ) [.ref (gd g (25))] rfl (by decide) (by decide +kernel) rfl wd643 wd644 wd4 wd645 (by decide) (Nat.le_of_ble_eq_true rfl) dX4_of_17 ?_
  refine j_iald hC 25 rfl (by omega) dX4_of_20 ?_
  refine j_goto (tgt := 29) hC dX4_of_21 (by decide) ?_
  exact j_iret hC dX4_of_29 ⟨rfl, rfl⟩
set_option maxHeartbeats 4000000 in
set_option maxRecDepth 100000 in
theorem c_X4_of16_ok {L0 : Launch} (hL0 : L0.stackTraces = false) (g : GG) (σ : Sg) (hI : IM σ) (a s : Int) (hr : -2147483648 ≤ a ∧ a < 2147483648 ∧ -2147483648 ≤ s ∧ s < 2147483648) (hs : (0 ≤ a ∧ a < σ.1 8) ∧ (0 ≤ s ∧ s < σ.2 11 a)) : CN L0 yX4_of cX4_of 4 (some .int) 3 65 0 0 g [.ref (gd g (19)), vI (a), vI (s), .ref (gd g (25))] σ (pt (some (vI ((sF σ 7 0).2 16 (16 * a + s)))) ((sF σ 7 0))) := by
  refine CN_of (own := RX4) hL0 (by decide) rfl (Nat.le_of_ble_eq_true rfl) (fun mc hC _ hR => ?_)
  refine j_lv (lv2 := [(0, .ref (gd g (19))), (1, vI (a)), (2, vI (s)), (3, .ref (gd g (25)))]) rfl ?_
  refine j_aload_n hC dX4_of_0 0 rfl ?_
  refine j_iconst hC dX4_of_1 ?_
  refine j_put (τ := sF (σ) 7 (0)) hC inX4 tyX4_ok nmX4 rfl 19 rfl 0 (by decide) wd582 rfl rfl (Nat.le_of_ble_eq_true rfl) rfl dX4_of_2 ?_
  exact tl_of16_ok hC hR (IM_t hI (by omega)) a s hr hs
set_option maxHeartbeats 4000000 in
set_option maxRecDepth 100000 in
theorem c_X4_meaningOf_b1 {L0 : Launch} (hL0 : L0.stackTraces = false) (g : GG) (σ : Sg) (hI : IM σ) (a s : Int) (hr : -2147483648 ≤ a ∧ a < 2147483648 ∧ -2147483648 ≤ s ∧ s < 2147483648) (hs : ¬ ((0 ≤ a ∧ a < σ.1 8) ∧ (0 ≤ s ∧ s < σ.2 11 a))) : CN L0 yX4_meaningOf cX4_meaningOf 3 (some .int) 4 88 0 0 g [.ref (gd g (19)), vI (a), vI (s)] σ (pt (some (vI 0)) (sF (sF σ 7 0) 7 1)) := by
  refine CN_of (own := RX4) hL0 (by decide) rfl (Nat.le_of_ble_eq_true rfl) (fun mc hC _ hR => ?_)
  refine j_lv (lv2 := [(0, .ref (gd g (19))), (1, vI (a)), (2, vI (s))]) rfl ?_
  refine j_aload_n hC dX4_meaningOf_0 0 rfl ?_
  refine j_iload_n hC dX4_meaningOf_1 1 rfl ?_
  refine j_iload_n hC dX4_meaningOf_2 2 rfl ?_
  refine j_aload_n hC dX4_meaningOf_3 0 rfl ?_
  refine j_get hC inX4 rfl 19 rfl 7 (by decide) wd589 rfl dX4_meaningOf_4 ?_
  refine j_callV1 (ar := 3) hC hR (c_X4_of16_b1 (hlJ hC) g σ hI a s hr hs) [] rfl 19 rfl rfl rfl (by decide) (by decide +kernel) rfl wd726 wd728 wp41 wd4 wd729 (by decide) (Nat.le_of_ble_eq_true rfl) dX4_meaningOf_7 ?_
  exact j_iret hC dX4_meaningOf_10 ⟨rfl, rfl⟩
set_option maxHeartbeats 4000000 in
set_option maxRecDepth 100000 in
theorem c_X4_meaningOf_ok {L0 : Launch} (hL0 : L0.stackTraces = false) (g : GG) (σ : Sg) (hI : IM σ) (a s : Int) (hr : -2147483648 ≤ a ∧ a < 2147483648 ∧ -2147483648 ≤ s ∧ s < 2147483648) (hs : (0 ≤ a ∧ a < σ.1 8) ∧ (0 ≤ s ∧ s < σ.2 11 a)) : CN L0 yX4_meaningOf cX4_meaningOf 3 (some .int) 4 88 0 0 g [.ref (gd g (19)), vI (a), vI (s)] σ (pt (some (vI ((sF σ 7 0).2 16 (16 * a + s)))) (sF σ 7 0)) := by
  refine CN_of (own := RX4) hL0 (by decide) rfl (Nat.le_of_ble_eq_true rfl) (fun mc hC _ hR => ?_)
  refine j_lv (lv2 := [(0, .ref (gd g (19))), (1, vI (a)), (2, vI (s))]) rfl ?_
  refine j_aload_n hC dX4_meaningOf_0 0 rfl ?_
  refine j_iload_n hC dX4_meaningOf_1 1 rfl ?_
  refine j_iload_n hC dX4_meaningOf_2 2 rfl ?_
  refine j_aload_n hC dX4_meaningOf_3 0 rfl ?_
  refine j_get hC inX4 rfl 19 rfl 7 (by decide) wd589 rfl dX4_meaningOf_4 ?_
  refine j_callV1 (ar := 3) hC hR (c_X4_of16_ok (hlJ hC) g σ hI a s hr hs) [] rfl 19 rfl rfl rfl (by decide) (by decide +kernel) rfl wd726 wd728 wp41 wd4 wd729 (by decide) (Nat.le_of_ble_eq_true rfl) dX4_meaningOf_7 ?_
  exact j_iret hC dX4_meaningOf_10 ⟨rfl, rfl⟩
set_option maxHeartbeats 4000000 in
set_option maxRecDepth 100000 in
theorem tl_signFor_b1 {mc : MC} {g : GG} {σ : Sg} (hC : Cx mc g cX4_signFor RX4 3 (some .int)) (hR : mR mc = rmJ 2 44 0 0) (hI : IM σ) (a x : Int) (hr : -2147483648 ≤ a ∧ a < 2147483648 ∧ -2147483648 ≤ x ∧ x < 2147483648) (ha : ¬ ((0 ≤ a ∧ a < σ.1 8) ∧ (0 ≤ x ∧ x < 30))) : J mc g 0 0 (QN mc g (pt (some (vI 0)) (sF σ 7 1)) 0 0) 5 [(0, .ref (gd g (19))), (1, vI (a)), (2, vI (x))] [] σ := by
  have hI1 := hI.1
  refine j_aload_n hC dX4_signFor_5 0 rfl ?_
  refine j_iload_n hC dX4_signFor_6 1 rfl ?_
  refine j_callV1 (ar := 1) hC hR (c_X4_isLodge (hlJ hC) g σ hI a (by omega)) [] rfl 19 rfl rfl rfl (by decide) (by decide +kernel) rfl wd626 wd628 wp31 wd4 wd629 (by decide) (Nat.le_of_ble_eq_true rfl) dX4_signFor_7 ?_
  refine j_ifb_eq (tgt := 32) hC dX4_signFor_10 (by decide) (fun h10 => ?_) (fun h10 => ?_)
  · refine j_aload_n hC dX4_signFor_32 0 rfl ?_
    refine j_iconst hC dX4_signFor_33 ?_
    refine j_callV1 (ar := 1) hC hR (c_X4_fail (hlJ hC) g σ 1) [] rfl 19 rfl rfl rfl (by decide) (by decide +kernel) rfl wd618 wd620 wp30 wd4 wd621 (by decide) (Nat.le_of_ble_eq_true rfl) dX4_signFor_34 ?_
    exact j_iret hC dX4_signFor_37 ⟨rfl, rfl⟩
  · refine j_iload_n hC dX4_signFor_13 2 rfl ?_
    refine j_iconst hC dX4_signFor_14 ?_
    refine j_bipush hC dX4_signFor_15 (by decide) ?_
    refine j_callS1 (ar := 3) hC hR (c_X4_isIn (hlJ hC) g σ x 0 29 (by omega)) [] rfl (by decide) (by decide +kernel) rfl wd630 wd631 wd4 wd632 (by decide) (Nat.le_of_ble_eq_true rfl) dX4_signFor_17 ?_
    refine j_ifb_eq (tgt := 32) hC dX4_signFor_20 (by decide) (fun _ => ?_) (fun h => absurd h (by omega))
    refine j_aload_n hC dX4_signFor_32 0 rfl ?_
    refine j_iconst hC dX4_signFor_33 ?_
    refine j_callV1 (ar := 1) hC hR (c_X4_fail (hlJ hC) g σ 1) [] rfl 19 rfl rfl rfl (by decide) (by decide +kernel) rfl wd618 wd620 wp30 wd4 wd621 (by decide) (Nat.le_of_ble_eq_true rfl) dX4_signFor_34 ?_
    exact j_iret hC dX4_signFor_37 ⟨rfl, rfl⟩
set_option maxHeartbeats 4000000 in
set_option maxRecDepth 100000 in
theorem c_X4_signFor_b1 {L0 : Launch} (hL0 : L0.stackTraces = false) (g : GG) (σ : Sg) (hI : IM σ) (a x : Int) (hr : -2147483648 ≤ a ∧ a < 2147483648 ∧ -2147483648 ≤ x ∧ x < 2147483648) (ha : ¬ ((0 ≤ a ∧ a < σ.1 8) ∧ (0 ≤ x ∧ x < 30))) : CN L0 yX4_signFor cX4_signFor 3 (some .int) 2 44 0 0 g [.ref (gd g (19)), vI (a), vI (x)] σ (pt (some (vI 0)) (sF (sF σ 7 0) 7 1)) := by
  refine CN_of (own := RX4) hL0 (by decide) rfl (Nat.le_of_ble_eq_true rfl) (fun mc hC _ hR => ?_)
  refine j_lv (lv2 := [(0, .ref (gd g (19))), (1, vI (a)), (2, vI (x))]) rfl ?_
  refine j_aload_n hC dX4_signFor_0 0 rfl ?_
  refine j_iconst hC dX4_signFor_1 ?_
  refine j_put (τ := sF (σ) 7 (0)) hC inX4 tyX4_ok nmX4 rfl 19 rfl 0 (by decide) wd582 rfl rfl (Nat.le_of_ble_eq_true rfl) rfl dX4_signFor_2 ?_
  exact tl_signFor_b1 hC hR (IM_t hI (by omega)) a x hr ha
set_option maxHeartbeats 4000000 in
set_option maxRecDepth 100000 in
theorem tl_signFor_ok {mc : MC} {g : GG} {σ : Sg} (hC : Cx mc g cX4_signFor RX4 3 (some .int)) (hR : mR mc = rmJ 2 44 0 0) (hI : IM σ) (a x : Int) (hr : -2147483648 ≤ a ∧ a < 2147483648 ∧ -2147483648 ≤ x ∧ x < 2147483648) (ha : 0 ≤ a ∧ a < σ.1 8) (hx : 0 ≤ x ∧ x < 30) : J mc g 0 0 (QN mc g (pt (some (vI (sgM σ a x))) (σ)) 0 0) 5 [(0, .ref (gd g (19))), (1, vI (a)), (2, vI (x))] [] σ := by
  have hI1 := hI.1
  have hna := hI.2.2.1 a (by omega) (by omega)
  refine j_aload_n hC dX4_signFor_5 0 rfl ?_
  refine j_iload_n hC dX4_signFor_6 1 rfl ?_
  refine j_callV1 (ar := 1) hC hR (c_X4_isLodge (hlJ hC) g σ hI a (by omega)) [] rfl 19 rfl rfl rfl (by decide) (by decide +kernel) rfl wd626 wd628 wp31 wd4 wd629 (by decide) (Nat.le_of_ble_eq_true rfl) dX4_signFor_7 ?_
  refine j_ifb_eq (tgt := 32) hC dX4_signFor_10 (by decide) (fun h => (h (by omega)).elim) (fun _ => ?_)
  refine j_iload_n hC dX4_signFor_13 2 rfl ?_
  refine j_iconst hC dX4_signFor_14 ?_
  refine j_bipush hC dX4_signFor_15 (by decide) ?_
  refine j_callS1 (ar := 3) hC hR (c_X4_isIn (hlJ hC) g σ x 0 29 (by omega)) [] rfl (by decide) (by decide +kernel) rfl wd630 wd631 wd4 wd632 (by decide) (Nat.le_of_ble_eq_true rfl) dX4_signFor_17 ?_
  refine j_ifb_eq (tgt := 32) hC dX4_signFor_20 (by decide) (fun h => (h (by omega)).elim) (fun _ => ?_)
  refine j_aload_n hC dX4_signFor_23 0 rfl ?_
  refine j_iload_n hC dX4_signFor_24 1 rfl ?_
  refine j_iload_n hC dX4_signFor_25 2 rfl ?_
  refine j_callV1 (ar := 2) hC hR (c_X4_signOf (hlJ hC) g σ hI a x (by omega) (by omega)) [] rfl 19 rfl rfl rfl (by decide) (by decide +kernel) rfl wd639 wd641 wp32 wd4 wd642 (by decide) (Nat.le_of_ble_eq_true rfl) dX4_signFor_26 ?_
  have hf26 := sgM_rg hI (l := a) (by omega) x
  refine j_goto (tgt := 37) hC dX4_signFor_29 (by decide) ?_
  exact j_iret hC dX4_signFor_37 ⟨rfl, rfl⟩
set_option maxHeartbeats 4000000 in
set_option maxRecDepth 100000 in
theorem c_X4_signFor_ok {L0 : Launch} (hL0 : L0.stackTraces = false) (g : GG) (σ : Sg) (hI : IM σ) (a x : Int) (hr : -2147483648 ≤ a ∧ a < 2147483648 ∧ -2147483648 ≤ x ∧ x < 2147483648) (ha : 0 ≤ a ∧ a < σ.1 8) (hx : 0 ≤ x ∧ x < 30) : CN L0 yX4_signFor cX4_signFor 3 (some .int) 2 44 0 0 g [.ref (gd g (19)), vI (a), vI (x)] σ (pt (some (vI (sgM (sF σ 7 0) a x))) ((sF σ 7 0))) := by
  refine CN_of (own := RX4) hL0 (by decide) rfl (Nat.le_of_ble_eq_true rfl) (fun mc hC _ hR => ?_)
  refine j_lv (lv2 := [(0, .ref (gd g (19))), (1, vI (a)), (2, vI (x))]) rfl ?_
  refine j_aload_n hC dX4_signFor_0 0 rfl ?_
  refine j_iconst hC dX4_signFor_1 ?_
  refine j_put (τ := sF (σ) 7 (0)) hC inX4 tyX4_ok nmX4 rfl 19 rfl 0 (by decide) wd582 rfl rfl (Nat.le_of_ble_eq_true rfl) rfl dX4_signFor_2 ?_
  exact tl_signFor_ok hC hR (IM_t hI (by omega)) a x hr ha hx
set_option maxHeartbeats 4000000 in
set_option maxRecDepth 100000 in
theorem tl_apart_b1 {mc : MC} {g : GG} {σ : Sg} (hC : Cx mc g cX4_apart RX4 4 (some .int)) (hR : mR mc = rmJ 4 91 0 0) (hI : IM σ) (a s t : Int) (hr : -2147483648 ≤ a ∧ a < 2147483648 ∧ -2147483648 ≤ s ∧ s < 2147483648 ∧ -2147483648 ≤ t ∧ t < 2147483648) (hs : ¬ (((0 ≤ a ∧ a < σ.1 8) ∧ (0 ≤ s ∧ s < σ.2 11 a)) ∧ (0 ≤ t ∧ t < σ.2 11 a))) : J mc g 0 0 (QN mc g (pt (some (vI 0)) (sF σ 7 1)) 0 0) 5 [(0, .ref (gd g (19))), (1, vI (a)), (2, vI (s)), (3, vI (t))] [] σ := by
  have hI1 := hI.1
  refine j_aload_n hC dX4_apart_5 0 rfl ?_
  refine j_iload_n hC dX4_apart_6 1 rfl ?_
  refine j_iload_n hC dX4_apart_7 2 rfl ?_
  refine j_callV1 (ar := 2) hC hR (c_X4_isSign (hlJ hC) g σ hI a s (by omega)) [] rfl 19 rfl rfl rfl (by decide) (by decide +kernel) rfl wd654 wd656 wp34 wd4 wd657 (by decide) (Nat.le_of_ble_eq_true rfl) dX4_apart_8 ?_
  refine j_ifb_eq (tgt := 40) hC dX4_apart_11 (by decide) (fun h11 => ?_) (fun h11 => ?_)
  · refine j_aload_n hC dX4_apart_40 0 rfl ?_
    refine j_iconst hC dX4_apart_41 ?_
    refine j_callV1 (ar := 1) hC hR (c_X4_fail (hlJ hC) g σ 1) [] rfl 19 rfl rfl rfl (by decide) (by decide +kernel) rfl wd618 wd620 wp30 wd4 wd621 (by decide) (Nat.le_of_ble_eq_true rfl) dX4_apart_42 ?_
    exact j_iret hC dX4_apart_45 ⟨rfl, rfl⟩
  · refine j_aload_n hC dX4_apart_14 0 rfl ?_
    refine j_iload_n hC dX4_apart_15 1 rfl ?_
    refine j_iload_n hC dX4_apart_16 3 rfl ?_
    refine j_callV1 (ar := 2) hC hR (c_X4_isSign (hlJ hC) g σ hI a t (by omega)) [] rfl 19 rfl rfl rfl (by decide) (by decide +kernel) rfl wd654 wd656 wp34 wd4 wd657 (by decide) (Nat.le_of_ble_eq_true rfl) dX4_apart_17 ?_
    refine j_ifb_eq (tgt := 40) hC dX4_apart_20 (by decide) (fun _ => ?_) (fun h => absurd h (by omega))
    refine j_aload_n hC dX4_apart_40 0 rfl ?_
    refine j_iconst hC dX4_apart_41 ?_
    refine j_callV1 (ar := 1) hC hR (c_X4_fail (hlJ hC) g σ 1) [] rfl 19 rfl rfl rfl (by decide) (by decide +kernel) rfl wd618 wd620 wp30 wd4 wd621 (by decide) (Nat.le_of_ble_eq_true rfl) dX4_apart_42 ?_
    exact j_iret hC dX4_apart_45 ⟨rfl, rfl⟩
set_option maxHeartbeats 4000000 in
set_option maxRecDepth 100000 in
theorem c_X4_apart_b1 {L0 : Launch} (hL0 : L0.stackTraces = false) (g : GG) (σ : Sg) (hI : IM σ) (a s t : Int) (hr : -2147483648 ≤ a ∧ a < 2147483648 ∧ -2147483648 ≤ s ∧ s < 2147483648 ∧ -2147483648 ≤ t ∧ t < 2147483648) (hs : ¬ (((0 ≤ a ∧ a < σ.1 8) ∧ (0 ≤ s ∧ s < σ.2 11 a)) ∧ (0 ≤ t ∧ t < σ.2 11 a))) : CN L0 yX4_apart cX4_apart 4 (some .int) 4 91 0 0 g [.ref (gd g (19)), vI (a), vI (s), vI (t)] σ (pt (some (vI 0)) (sF (sF σ 7 0) 7 1)) := by
  refine CN_of (own := RX4) hL0 (by decide) rfl (Nat.le_of_ble_eq_true rfl) (fun mc hC _ hR => ?_)
  refine j_lv (lv2 := [(0, .ref (gd g (19))), (1, vI (a)), (2, vI (s)), (3, vI (t))]) rfl ?_
  refine j_aload_n hC dX4_apart_0 0 rfl ?_
  refine j_iconst hC dX4_apart_1 ?_
  refine j_put (τ := sF (σ) 7 (0)) hC inX4 tyX4_ok nmX4 rfl 19 rfl 0 (by decide) wd582 rfl rfl (Nat.le_of_ble_eq_true rfl) rfl dX4_apart_2 ?_
  exact tl_apart_b1 hC hR (IM_t hI (by omega)) a s t hr hs
set_option maxHeartbeats 4000000 in
set_option maxRecDepth 100000 in
theorem tl_apart_ok {mc : MC} {g : GG} {σ : Sg} (hC : Cx mc g cX4_apart RX4 4 (some .int)) (hR : mR mc = rmJ 4 91 0 0) (hI : IM σ) (a s t : Int) (hr : -2147483648 ≤ a ∧ a < 2147483648 ∧ -2147483648 ≤ s ∧ s < 2147483648 ∧ -2147483648 ≤ t ∧ t < 2147483648) (hs : (0 ≤ a ∧ a < σ.1 8) ∧ (0 ≤ s ∧ s < σ.2 11 a)) (ht : 0 ≤ t ∧ t < σ.2 11 a) : J mc g 0 0 (QN mc g (pt (some (vI (dst (σ.2 17) (lkM σ (16 * a + s)) (lkM σ (16 * a + t))))) (σ)) 0 0) 5 [(0, .ref (gd g (19))), (1, vI (a)), (2, vI (s)), (3, vI (t))] [] σ := by
  have hI1 := hI.1
  have hna := hI.2.2.1 a (by omega) (by omega)
  refine j_aload_n hC dX4_apart_5 0 rfl ?_
  refine j_iload_n hC dX4_apart_6 1 rfl ?_
  refine j_iload_n hC dX4_apart_7 2 rfl ?_
  refine j_callV1 (ar := 2) hC hR (c_X4_isSign (hlJ hC) g σ hI a s (by omega)) [] rfl 19 rfl rfl rfl (by decide) (by decide +kernel) rfl wd654 wd656 wp34 wd4 wd657 (by decide) (Nat.le_of_ble_eq_true rfl) dX4_apart_8 ?_
  refine j_ifb_eq (tgt := 40) hC dX4_apart_11 (by decide) (fun h => (h (by omega)).elim) (fun _ => ?_)
  refine j_aload_n hC dX4_apart_14 0 rfl ?_
  refine j_iload_n hC dX4_apart_15 1 rfl ?_
  refine j_iload_n hC dX4_apart_16 3 rfl ?_
  refine j_callV1 (ar := 2) hC hR (c_X4_isSign (hlJ hC) g σ hI a t (by omega)) [] rfl 19 rfl rfl rfl (by decide) (by decide +kernel) rfl wd654 wd656 wp34 wd4 wd657 (by decide) (Nat.le_of_ble_eq_true rfl) dX4_apart_17 ?_
  refine j_ifb_eq (tgt := 40) hC dX4_apart_20 (by decide) (fun h => (h (by omega)).elim) (fun _ => ?_)
  refine j_aload_n hC dX4_apart_23 0 rfl ?_
  refine j_iload_n hC dX4_apart_24 1 rfl ?_
  refine j_iload_n hC dX4_apart_25 2 rfl ?_
  refine j_callS1 (ar := 2) hC hR (c_X4_at (hlJ hC) g σ a s ) [.ref (gd g (19))] rfl (by decide) (by decide +kernel) rfl wd643 wd644 wd4 wd645 (by decide) (Nat.le_of_ble_eq_true rfl) dX4_apart_26 ?_
  refine j_iload_n hC dX4_apart_29 1 rfl ?_
  refine j_iload_n hC dX4_apart_30 3 rfl ?_
  refine j_callS1 (ar := 2) hC hR (c_X4_at (hlJ hC) g σ a t ) [vI (16 * a + s), .ref (gd g (19))] rfl (by decide) (by decide +kernel) rfl wd643 wd644 wd4 wd645 (by decide) (Nat.le_of_ble_eq_true rfl) dX4_apart_31 ?_
  refine j_callV1 (ar := 2) hC hR (c_X4_far2 (hlJ hC) g σ hI (16 * a + s) (16 * a + t) (by omega)) [] rfl 19 rfl rfl rfl (by decide) (by decide +kernel) rfl wd750 wd752 wp42 wd4 wd753 (by decide) (Nat.le_of_ble_eq_true rfl) dX4_apart_34 ?_
  have hd34 := dst_rg (G := σ.2 17) (x := lkM σ (16 * a + s)) (y := lkM σ (16 * a + t)) ⟨(lkM_rg hI (by omega)).1, (lkM_rg hI (by omega)).2, (lkM_rg hI (by omega)).1, (lkM_rg hI (by omega)).2⟩
  refine j_goto (tgt := 45) hC dX4_apart_37 (by decide) ?_
  exact j_iret hC dX4_apart_45 ⟨rfl, rfl⟩
set_option maxHeartbeats 4000000 in
set_option maxRecDepth 100000 in
theorem c_X4_apart_ok {L0 : Launch} (hL0 : L0.stackTraces = false) (g : GG) (σ : Sg) (hI : IM σ) (a s t : Int) (hr : -2147483648 ≤ a ∧ a < 2147483648 ∧ -2147483648 ≤ s ∧ s < 2147483648 ∧ -2147483648 ≤ t ∧ t < 2147483648) (hs : (0 ≤ a ∧ a < σ.1 8) ∧ (0 ≤ s ∧ s < σ.2 11 a)) (ht : 0 ≤ t ∧ t < σ.2 11 a) : CN L0 yX4_apart cX4_apart 4 (some .int) 4 91 0 0 g [.ref (gd g (19)), vI (a), vI (s), vI (t)] σ (pt (some (vI (dst ((sF σ 7 0).2 17) (lkM (sF σ 7 0) (16 * a + s)) (lkM (sF σ 7 0) (16 * a + t))))) ((sF σ 7 0))) := by
  refine CN_of (own := RX4) hL0 (by decide) rfl (Nat.le_of_ble_eq_true rfl) (fun mc hC _ hR => ?_)
  refine j_lv (lv2 := [(0, .ref (gd g (19))), (1, vI (a)), (2, vI (s)), (3, vI (t))]) rfl ?_
  refine j_aload_n hC dX4_apart_0 0 rfl ?_
  refine j_iconst hC dX4_apart_1 ?_
  refine j_put (τ := sF (σ) 7 (0)) hC inX4 tyX4_ok nmX4 rfl 19 rfl 0 (by decide) wd582 rfl rfl (Nat.le_of_ble_eq_true rfl) rfl dX4_apart_2 ?_
  exact tl_apart_ok hC hR (IM_t hI (by omega)) a s t hr hs ht
set_option maxHeartbeats 4000000 in
set_option maxRecDepth 100000 in
theorem tl_read_b1 {mc : MC} {g : GG} {σ : Sg} (hC : Cx mc g cX4_read RX4 4 (some .int)) (hR : mR mc = rmJ 5 120 0 0) (hI : IM σ) (a s c : Int) (hr : -2147483648 ≤ a ∧ a < 2147483648 ∧ -2147483648 ≤ s ∧ s < 2147483648 ∧ -2147483648 ≤ c ∧ c < 2147483648) (hs : ¬ (((0 ≤ a ∧ a < σ.1 8) ∧ (0 ≤ s ∧ s < σ.2 11 a)) ∧ (0 ≤ c ∧ c < σ.1 8))) : J mc g 0 0 (QN mc g (pt (some (vI 0)) (sF σ 7 1)) 0 0) 5 [(0, .ref (gd g (19))), (1, vI (a)), (2, vI (s)), (3, vI (c))] [] σ := by
  have hI1 := hI.1
  refine j_aload_n hC dX4_read_5 0 rfl ?_
  refine j_iload_n hC dX4_read_6 1 rfl ?_
  refine j_iload_n hC dX4_read_7 2 rfl ?_
  refine j_callV1 (ar := 2) hC hR (c_X4_isSign (hlJ hC) g σ hI a s (by omega)) [] rfl 19 rfl rfl rfl (by decide) (by decide +kernel) rfl wd654 wd656 wp34 wd4 wd657 (by decide) (Nat.le_of_ble_eq_true rfl) dX4_read_8 ?_
  refine j_ifb_eq (tgt := 35) hC dX4_read_11 (by decide) (fun h11 => ?_) (fun h11 => ?_)
  · refine j_aload_n hC dX4_read_35 0 rfl ?_
    refine j_iconst hC dX4_read_36 ?_
    refine j_callV1 (ar := 1) hC hR (c_X4_fail (hlJ hC) g σ 1) [] rfl 19 rfl rfl rfl (by decide) (by decide +kernel) rfl wd618 wd620 wp30 wd4 wd621 (by decide) (Nat.le_of_ble_eq_true rfl) dX4_read_37 ?_
    exact j_iret hC dX4_read_40 ⟨rfl, rfl⟩
  · refine j_aload_n hC dX4_read_14 0 rfl ?_
    refine j_iload_n hC dX4_read_15 3 rfl ?_
    refine j_callV1 (ar := 1) hC hR (c_X4_isLodge (hlJ hC) g σ hI c (by omega)) [] rfl 19 rfl rfl rfl (by decide) (by decide +kernel) rfl wd626 wd628 wp31 wd4 wd629 (by decide) (Nat.le_of_ble_eq_true rfl) dX4_read_16 ?_
    refine j_ifb_eq (tgt := 35) hC dX4_read_19 (by decide) (fun _ => ?_) (fun h => absurd h (by omega))
    refine j_aload_n hC dX4_read_35 0 rfl ?_
    refine j_iconst hC dX4_read_36 ?_
    refine j_callV1 (ar := 1) hC hR (c_X4_fail (hlJ hC) g σ 1) [] rfl 19 rfl rfl rfl (by decide) (by decide +kernel) rfl wd618 wd620 wp30 wd4 wd621 (by decide) (Nat.le_of_ble_eq_true rfl) dX4_read_37 ?_
    exact j_iret hC dX4_read_40 ⟨rfl, rfl⟩
set_option maxHeartbeats 4000000 in
set_option maxRecDepth 100000 in
theorem c_X4_read_b1 {L0 : Launch} (hL0 : L0.stackTraces = false) (g : GG) (σ : Sg) (hI : IM σ) (a s c : Int) (hr : -2147483648 ≤ a ∧ a < 2147483648 ∧ -2147483648 ≤ s ∧ s < 2147483648 ∧ -2147483648 ≤ c ∧ c < 2147483648) (hs : ¬ (((0 ≤ a ∧ a < σ.1 8) ∧ (0 ≤ s ∧ s < σ.2 11 a)) ∧ (0 ≤ c ∧ c < σ.1 8))) : CN L0 yX4_read cX4_read 4 (some .int) 5 120 0 0 g [.ref (gd g (19)), vI (a), vI (s), vI (c)] σ (pt (some (vI 0)) (sF (sF σ 7 0) 7 1)) := by
  refine CN_of (own := RX4) hL0 (by decide) rfl (Nat.le_of_ble_eq_true rfl) (fun mc hC _ hR => ?_)
  refine j_lv (lv2 := [(0, .ref (gd g (19))), (1, vI (a)), (2, vI (s)), (3, vI (c))]) rfl ?_
  refine j_aload_n hC dX4_read_0 0 rfl ?_
  refine j_iconst hC dX4_read_1 ?_
  refine j_put (τ := sF (σ) 7 (0)) hC inX4 tyX4_ok nmX4 rfl 19 rfl 0 (by decide) wd582 rfl rfl (Nat.le_of_ble_eq_true rfl) rfl dX4_read_2 ?_
  exact tl_read_b1 hC hR (IM_t hI (by omega)) a s c hr hs
set_option maxHeartbeats 4000000 in
set_option maxRecDepth 100000 in
theorem tl_read_ok {mc : MC} {g : GG} {σ : Sg} (hC : Cx mc g cX4_read RX4 4 (some .int)) (hR : mR mc = rmJ 5 120 0 0) (hI : IM σ) (a s c : Int) (hr : -2147483648 ≤ a ∧ a < 2147483648 ∧ -2147483648 ≤ s ∧ s < 2147483648 ∧ -2147483648 ≤ c ∧ c < 2147483648) (hc : 0 ≤ c ∧ c < σ.1 8) (hs : (0 ≤ a ∧ a < σ.1 8) ∧ (0 ≤ s ∧ s < σ.2 11 a)) : J mc g 0 0 (QN mc g (pt (some (vI (rdM σ (lkM σ (16 * a + s)) c))) (σ)) 0 0) 5 [(0, .ref (gd g (19))), (1, vI (a)), (2, vI (s)), (3, vI (c))] [] σ := by
  have hI1 := hI.1
  have hna := hI.2.2.1 a (by omega) (by omega)
  have hnc := hI.2.2.1 c (by omega) (by omega)
  refine j_aload_n hC dX4_read_5 0 rfl ?_
  refine j_iload_n hC dX4_read_6 1 rfl ?_
  refine j_iload_n hC dX4_read_7 2 rfl ?_
  refine j_callV1 (ar := 2) hC hR (c_X4_isSign (hlJ hC) g σ hI a s (by omega)) [] rfl 19 rfl rfl rfl (by decide) (by decide +kernel) rfl wd654 wd656 wp34 wd4 wd657 (by decide) (Nat.le_of_ble_eq_true rfl) dX4_read_8 ?_
  refine j_ifb_eq (tgt := 35) hC dX4_read_11 (by decide) (fun h => (h (by omega)).elim) (fun _ => ?_)
  refine j_aload_n hC dX4_read_14 0 rfl ?_
  refine j_iload_n hC dX4_read_15 3 rfl ?_
  refine j_callV1 (ar := 1) hC hR (c_X4_isLodge (hlJ hC) g σ hI c (by omega)) [] rfl 19 rfl rfl rfl (by decide) (by decide +kernel) rfl wd626 wd628 wp31 wd4 wd629 (by decide) (Nat.le_of_ble_eq_true rfl) dX4_read_16 ?_
  refine j_ifb_eq (tgt := 35) hC dX4_read_19 (by decide) (fun h => (h (by omega)).elim) (fun _ => ?_)
  refine j_aload_n hC dX4_read_22 0 rfl ?_
  refine j_iload_n hC dX4_read_23 1 rfl ?_
  refine j_iload_n hC dX4_read_24 2 rfl ?_
  refine j_callS1 (ar := 2) hC hR (c_X4_at (hlJ hC) g σ a s ) [.ref (gd g (19))] rfl (by decide) (by decide +kernel) rfl wd643 wd644 wd4 wd645 (by decide) (Nat.le_of_ble_eq_true rfl) dX4_read_25 ?_
  refine j_iload_n hC dX4_read_28 3 rfl ?_
  refine j_callV1 (ar := 2) hC hR (c_X4_reads2 (hlJ hC) g σ hI (16 * a + s) c (by omega) (by omega)) [] rfl 19 rfl rfl rfl (by decide) (by decide +kernel) rfl wd790 wd792 wp47 wd4 wd793 (by decide) (Nat.le_of_ble_eq_true rfl) dX4_read_29 ?_
  have hf29 := rdM_rg hI (l := c) (by omega) (lkM σ (16 * a + s))
  refine j_goto (tgt := 40) hC dX4_read_32 (by decide) ?_
  exact j_iret hC dX4_read_40 ⟨rfl, rfl⟩
set_option maxHeartbeats 4000000 in
set_option maxRecDepth 100000 in
theorem c_X4_read_ok {L0 : Launch} (hL0 : L0.stackTraces = false) (g : GG) (σ : Sg) (hI : IM σ) (a s c : Int) (hr : -2147483648 ≤ a ∧ a < 2147483648 ∧ -2147483648 ≤ s ∧ s < 2147483648 ∧ -2147483648 ≤ c ∧ c < 2147483648) (hc : 0 ≤ c ∧ c < σ.1 8) (hs : (0 ≤ a ∧ a < σ.1 8) ∧ (0 ≤ s ∧ s < σ.2 11 a)) : CN L0 yX4_read cX4_read 4 (some .int) 5 120 0 0 g [.ref (gd g (19)), vI (a), vI (s), vI (c)] σ (pt (some (vI (rdM (sF σ 7 0) (lkM (sF σ 7 0) (16 * a + s)) c))) ((sF σ 7 0))) := by
  refine CN_of (own := RX4) hL0 (by decide) rfl (Nat.le_of_ble_eq_true rfl) (fun mc hC _ hR => ?_)
  refine j_lv (lv2 := [(0, .ref (gd g (19))), (1, vI (a)), (2, vI (s)), (3, vI (c))]) rfl ?_
  refine j_aload_n hC dX4_read_0 0 rfl ?_
  refine j_iconst hC dX4_read_1 ?_
  refine j_put (τ := sF (σ) 7 (0)) hC inX4 tyX4_ok nmX4 rfl 19 rfl 0 (by decide) wd582 rfl rfl (Nat.le_of_ble_eq_true rfl) rfl dX4_read_2 ?_
  exact tl_read_ok hC hR (IM_t hI (by omega)) a s c hr hc hs
set_option maxHeartbeats 4000000 in
set_option maxRecDepth 100000 in
theorem tl_readShown_b1 {mc : MC} {g : GG} {σ : Sg} (hC : Cx mc g cX4_readShown RX4 6 (some .int)) (hR : mR mc = rmJ 4 98 0 0) (hI : IM σ) (sh th pl mv a : Int) (hr : -2147483648 ≤ sh ∧ sh < 2147483648 ∧ -2147483648 ≤ th ∧ th < 2147483648 ∧ -2147483648 ≤ pl ∧ pl < 2147483648 ∧ -2147483648 ≤ mv ∧ mv < 2147483648 ∧ -2147483648 ≤ a ∧ a < 2147483648) (ha : ¬ (0 ≤ a ∧ a < σ.1 8)) : J mc g 0 0 (QN mc g (pt (some (vI 0)) (sF σ 7 1)) 0 0) 5 [(0, .ref (gd g (19))), (1, vI (sh)), (2, vI (th)), (3, vI (pl)), (4, vI (mv)), (5, vI (a))] [] σ := by
  have hI1 := hI.1
  refine j_aload_n hC dX4_readShown_5 0 rfl ?_
  refine j_iload hC dX4_readShown_6 5 rfl ?_
  refine j_callV1 (ar := 1) hC hR (c_X4_isLodge (hlJ hC) g σ hI a (by omega)) [] rfl 19 rfl rfl rfl (by decide) (by decide +kernel) rfl wd626 wd628 wp31 wd4 wd629 (by decide) (Nat.le_of_ble_eq_true rfl) dX4_readShown_8 ?_
  refine j_ifb_ne (tgt := 20) hC dX4_readShown_11 (by decide) (fun h => absurd h (by omega)) (fun _ => ?_)
  refine j_aload_n hC dX4_readShown_14 0 rfl ?_
  refine j_iconst hC dX4_readShown_15 ?_
  refine j_callV1 (ar := 1) hC hR (c_X4_fail (hlJ hC) g σ 1) [] rfl 19 rfl rfl rfl (by decide) (by decide +kernel) rfl wd618 wd620 wp30 wd4 wd621 (by decide) (Nat.le_of_ble_eq_true rfl) dX4_readShown_16 ?_
  exact j_iret hC dX4_readShown_19 ⟨rfl, rfl⟩
set_option maxHeartbeats 4000000 in
set_option maxRecDepth 100000 in
theorem c_X4_readShown_b1 {L0 : Launch} (hL0 : L0.stackTraces = false) (g : GG) (σ : Sg) (hI : IM σ) (sh th pl mv a : Int) (hr : -2147483648 ≤ sh ∧ sh < 2147483648 ∧ -2147483648 ≤ th ∧ th < 2147483648 ∧ -2147483648 ≤ pl ∧ pl < 2147483648 ∧ -2147483648 ≤ mv ∧ mv < 2147483648 ∧ -2147483648 ≤ a ∧ a < 2147483648) (ha : ¬ (0 ≤ a ∧ a < σ.1 8)) : CN L0 yX4_readShown cX4_readShown 6 (some .int) 4 98 0 0 g [.ref (gd g (19)), vI (sh), vI (th), vI (pl), vI (mv), vI (a)] σ (pt (some (vI 0)) (sF (sF σ 7 0) 7 1)) := by
  refine CN_of (own := RX4) hL0 (by decide) rfl (Nat.le_of_ble_eq_true rfl) (fun mc hC _ hR => ?_)
  refine j_lv (lv2 := [(0, .ref (gd g (19))), (1, vI (sh)), (2, vI (th)), (3, vI (pl)), (4, vI (mv)), (5, vI (a))]) rfl ?_
  refine j_aload_n hC dX4_readShown_0 0 rfl ?_
  refine j_iconst hC dX4_readShown_1 ?_
  refine j_put (τ := sF (σ) 7 (0)) hC inX4 tyX4_ok nmX4 rfl 19 rfl 0 (by decide) wd582 rfl rfl (Nat.le_of_ble_eq_true rfl) rfl dX4_readShown_2 ?_
  exact tl_readShown_b1 hC hR (IM_t hI (by omega)) sh th pl mv a hr ha
set_option maxHeartbeats 4000000 in
set_option maxRecDepth 100000 in
theorem tl_readShown_b2 {mc : MC} {g : GG} {σ : Sg} (hC : Cx mc g cX4_readShown RX4 6 (some .int)) (hR : mR mc = rmJ 4 98 0 0) (hI : IM σ) (sh th pl mv a : Int) (hr : -2147483648 ≤ sh ∧ sh < 2147483648 ∧ -2147483648 ≤ th ∧ th < 2147483648 ∧ -2147483648 ≤ pl ∧ pl < 2147483648 ∧ -2147483648 ≤ mv ∧ mv < 2147483648 ∧ -2147483648 ≤ a ∧ a < 2147483648) (ha : 0 ≤ a ∧ a < σ.1 8) (hp : ¬ (0 ≤ sh ∧ sh < 16 ∧ 0 ≤ th ∧ th < 4 ∧ 0 ≤ pl ∧ pl < 9 ∧ 0 ≤ mv ∧ mv < 4)) : J mc g 0 0 (QN mc g (pt (some (vI 0)) (sF σ 7 2)) 0 0) 5 [(0, .ref (gd g (19))), (1, vI (sh)), (2, vI (th)), (3, vI (pl)), (4, vI (mv)), (5, vI (a))] [] σ := by
  have hI1 := hI.1
  refine j_aload_n hC dX4_readShown_5 0 rfl ?_
  refine j_iload hC dX4_readShown_6 5 rfl ?_
  refine j_callV1 (ar := 1) hC hR (c_X4_isLodge (hlJ hC) g σ hI a (by omega)) [] rfl 19 rfl rfl rfl (by decide) (by decide +kernel) rfl wd626 wd628 wp31 wd4 wd629 (by decide) (Nat.le_of_ble_eq_true rfl) dX4_readShown_8 ?_
  refine j_ifb_ne (tgt := 20) hC dX4_readShown_11 (by decide) (fun _ => ?_) (fun h => (h (by omega)).elim)
  refine j_iload_n hC dX4_readShown_20 1 rfl ?_
  refine j_iload_n hC dX4_readShown_21 2 rfl ?_
  refine j_iload_n hC dX4_readShown_22 3 rfl ?_
  refine j_iload hC dX4_readShown_23 4 rfl ?_
  refine j_callS1 (ar := 4) hC hR (c_X4_isShown (hlJ hC) g σ sh th pl mv (by omega)) [] rfl (by decide) (by decide +kernel) rfl wd633 wd634 wd4 wd635 (by decide) (Nat.le_of_ble_eq_true rfl) dX4_readShown_25 ?_
  refine j_ifb_eq (tgt := 45) hC dX4_readShown_28 (by decide) (fun _ => ?_) (fun h => absurd h (by omega))
  refine j_aload_n hC dX4_readShown_45 0 rfl ?_
  refine j_iconst hC dX4_readShown_46 ?_
  refine j_callV1 (ar := 1) hC hR (c_X4_fail (hlJ hC) g σ 2) [] rfl 19 rfl rfl rfl (by decide) (by decide +kernel) rfl wd618 wd620 wp30 wd4 wd621 (by decide) (Nat.le_of_ble_eq_true rfl) dX4_readShown_47 ?_
  exact j_iret hC dX4_readShown_50 ⟨rfl, rfl⟩
set_option maxHeartbeats 4000000 in
set_option maxRecDepth 100000 in
theorem c_X4_readShown_b2 {L0 : Launch} (hL0 : L0.stackTraces = false) (g : GG) (σ : Sg) (hI : IM σ) (sh th pl mv a : Int) (hr : -2147483648 ≤ sh ∧ sh < 2147483648 ∧ -2147483648 ≤ th ∧ th < 2147483648 ∧ -2147483648 ≤ pl ∧ pl < 2147483648 ∧ -2147483648 ≤ mv ∧ mv < 2147483648 ∧ -2147483648 ≤ a ∧ a < 2147483648) (ha : 0 ≤ a ∧ a < σ.1 8) (hp : ¬ (0 ≤ sh ∧ sh < 16 ∧ 0 ≤ th ∧ th < 4 ∧ 0 ≤ pl ∧ pl < 9 ∧ 0 ≤ mv ∧ mv < 4)) : CN L0 yX4_readShown cX4_readShown 6 (some .int) 4 98 0 0 g [.ref (gd g (19)), vI (sh), vI (th), vI (pl), vI (mv), vI (a)] σ (pt (some (vI 0)) (sF (sF σ 7 0) 7 2)) := by
  refine CN_of (own := RX4) hL0 (by decide) rfl (Nat.le_of_ble_eq_true rfl) (fun mc hC _ hR => ?_)
  refine j_lv (lv2 := [(0, .ref (gd g (19))), (1, vI (sh)), (2, vI (th)), (3, vI (pl)), (4, vI (mv)), (5, vI (a))]) rfl ?_
  refine j_aload_n hC dX4_readShown_0 0 rfl ?_
  refine j_iconst hC dX4_readShown_1 ?_
  refine j_put (τ := sF (σ) 7 (0)) hC inX4 tyX4_ok nmX4 rfl 19 rfl 0 (by decide) wd582 rfl rfl (Nat.le_of_ble_eq_true rfl) rfl dX4_readShown_2 ?_
  exact tl_readShown_b2 hC hR (IM_t hI (by omega)) sh th pl mv a hr ha hp
set_option maxHeartbeats 4000000 in
set_option maxRecDepth 100000 in
theorem tl_readShown_ok {mc : MC} {g : GG} {σ : Sg} (hC : Cx mc g cX4_readShown RX4 6 (some .int)) (hR : mR mc = rmJ 4 98 0 0) (hI : IM σ) (sh th pl mv a : Int) (hr : -2147483648 ≤ sh ∧ sh < 2147483648 ∧ -2147483648 ≤ th ∧ th < 2147483648 ∧ -2147483648 ≤ pl ∧ pl < 2147483648 ∧ -2147483648 ≤ mv ∧ mv < 2147483648 ∧ -2147483648 ≤ a ∧ a < 2147483648) (ha : 0 ≤ a ∧ a < σ.1 8) (hp : 0 ≤ sh ∧ sh < 16 ∧ 0 ≤ th ∧ th < 4 ∧ 0 ≤ pl ∧ pl < 9 ∧ 0 ≤ mv ∧ mv < 4) : J mc g 0 0 (QN mc g (pt (some (vI (rdM σ (mkL sh th pl mv) a))) (σ)) 0 0) 5 [(0, .ref (gd g (19))), (1, vI (sh)), (2, vI (th)), (3, vI (pl)), (4, vI (mv)), (5, vI (a))] [] σ := by
  have hI1 := hI.1
  have hna := hI.2.2.1 a (by omega) (by omega)
  refine j_aload_n hC dX4_readShown_5 0 rfl ?_
  refine j_iload hC dX4_readShown_6 5 rfl ?_
  refine j_callV1 (ar := 1) hC hR (c_X4_isLodge (hlJ hC) g σ hI a (by omega)) [] rfl 19 rfl rfl rfl (by decide) (by decide +kernel) rfl wd626 wd628 wp31 wd4 wd629 (by decide) (Nat.le_of_ble_eq_true rfl) dX4_readShown_8 ?_
  refine j_ifb_ne (tgt := 20) hC dX4_readShown_11 (by decide) (fun _ => ?_) (fun h => (h (by omega)).elim)
  refine j_iload_n hC dX4_readShown_20 1 rfl ?_
  refine j_iload_n hC dX4_readShown_21 2 rfl ?_
  refine j_iload_n hC dX4_readShown_22 3 rfl ?_
  refine j_iload hC dX4_readShown_23 4 rfl ?_
  refine j_callS1 (ar := 4) hC hR (c_X4_isShown (hlJ hC) g σ sh th pl mv (by omega)) [] rfl (by decide) (by decide +kernel) rfl wd633 wd634 wd4 wd635 (by decide) (Nat.le_of_ble_eq_true rfl) dX4_readShown_25 ?_
  refine j_ifb_eq (tgt := 45) hC dX4_readShown_28 (by decide) (fun h => (h (by omega)).elim) (fun _ => ?_)
  refine j_aload_n hC dX4_readShown_31 0 rfl ?_
  refine j_iload_n hC dX4_readShown_32 1 rfl ?_
  refine j_iload_n hC dX4_readShown_33 2 rfl ?_
  refine j_iload_n hC dX4_readShown_34 3 rfl ?_
  refine j_iload hC dX4_readShown_35 4 rfl ?_
  refine j_iload hC dX4_readShown_37 5 rfl ?_
  refine j_callV1 (ar := 5) hC hR (c_X4_reads (hlJ hC) g σ hI sh th pl mv a (by omega) (by omega)) [] rfl 19 rfl rfl rfl (by decide) (by decide +kernel) rfl wd794 wd796 wp48 wd4 wd797 (by decide) (Nat.le_of_ble_eq_true rfl) dX4_readShown_39 ?_
  have hf39 := rdM_rg hI (l := a) (by omega) (mkL sh th pl mv)
  refine j_goto (tgt := 50) hC dX4_readShown_42 (by decide) ?_
  exact j_iret hC dX4_readShown_50 ⟨rfl, rfl⟩
set_option maxHeartbeats 4000000 in
set_option maxRecDepth 100000 in
theorem c_X4_readShown_ok {L0 : Launch} (hL0 : L0.stackTraces = false) (g : GG) (σ : Sg) (hI : IM σ) (sh th pl mv a : Int) (hr : -2147483648 ≤ sh ∧ sh < 2147483648 ∧ -2147483648 ≤ th ∧ th < 2147483648 ∧ -2147483648 ≤ pl ∧ pl < 2147483648 ∧ -2147483648 ≤ mv ∧ mv < 2147483648 ∧ -2147483648 ≤ a ∧ a < 2147483648) (ha : 0 ≤ a ∧ a < σ.1 8) (hp : 0 ≤ sh ∧ sh < 16 ∧ 0 ≤ th ∧ th < 4 ∧ 0 ≤ pl ∧ pl < 9 ∧ 0 ≤ mv ∧ mv < 4) : CN L0 yX4_readShown cX4_readShown 6 (some .int) 4 98 0 0 g [.ref (gd g (19)), vI (sh), vI (th), vI (pl), vI (mv), vI (a)] σ (pt (some (vI (rdM (sF σ 7 0) (mkL sh th pl mv) a))) ((sF σ 7 0))) := by
  refine CN_of (own := RX4) hL0 (by decide) rfl (Nat.le_of_ble_eq_true rfl) (fun mc hC _ hR => ?_)
  refine j_lv (lv2 := [(0, .ref (gd g (19))), (1, vI (sh)), (2, vI (th)), (3, vI (pl)), (4, vI (mv)), (5, vI (a))]) rfl ?_
  refine j_aload_n hC dX4_readShown_0 0 rfl ?_
  refine j_iconst hC dX4_readShown_1 ?_
  refine j_put (τ := sF (σ) 7 (0)) hC inX4 tyX4_ok nmX4 rfl 19 rfl 0 (by decide) wd582 rfl rfl (Nat.le_of_ble_eq_true rfl) rfl dX4_readShown_2 ?_
  exact tl_readShown_ok hC hR (IM_t hI (by omega)) sh th pl mv a hr ha hp
set_option maxHeartbeats 4000000 in
set_option maxRecDepth 100000 in
theorem tl_understood_b1 {mc : MC} {g : GG} {σ : Sg} (hC : Cx mc g cX4_understood RX4 3 (some .int)) (hR : mR mc = rmJ 6 146 0 0) (hI : IM σ) (a c : Int) (hr : -2147483648 ≤ a ∧ a < 2147483648 ∧ -2147483648 ≤ c ∧ c < 2147483648) (ha : ¬ ((0 ≤ a ∧ a < σ.1 8) ∧ (0 ≤ c ∧ c < σ.1 8))) : J mc g 0 0 (QN mc g (pt (some (vI 0)) (sF σ 7 1)) 0 0) 5 [(0, .ref (gd g (19))), (1, vI (a)), (2, vI (c))] [] σ := by
  have hI1 := hI.1
  refine j_aload_n hC dX4_understood_5 0 rfl ?_
  refine j_iload_n hC dX4_understood_6 1 rfl ?_
  refine j_callV1 (ar := 1) hC hR (c_X4_isLodge (hlJ hC) g σ hI a (by omega)) [] rfl 19 rfl rfl rfl (by decide) (by decide +kernel) rfl wd626 wd628 wp31 wd4 wd629 (by decide) (Nat.le_of_ble_eq_true rfl) dX4_understood_7 ?_
  refine j_ifb_eq (tgt := 31) hC dX4_understood_10 (by decide) (fun h10 => ?_) (fun h10 => ?_)
  · refine j_aload_n hC dX4_understood_31 0 rfl ?_
    refine j_iconst hC dX4_understood_32 ?_
    refine j_callV1 (ar := 1) hC hR (c_X4_fail (hlJ hC) g σ 1) [] rfl 19 rfl rfl rfl (by decide) (by decide +kernel) rfl wd618 wd620 wp30 wd4 wd621 (by decide) (Nat.le_of_ble_eq_true rfl) dX4_understood_33 ?_
    exact j_iret hC dX4_understood_36 ⟨rfl, rfl⟩
  · refine j_aload_n hC dX4_understood_13 0 rfl ?_
    refine j_iload_n hC dX4_understood_14 2 rfl ?_
    refine j_callV1 (ar := 1) hC hR (c_X4_isLodge (hlJ hC) g σ hI c (by omega)) [] rfl 19 rfl rfl rfl (by decide) (by decide +kernel) rfl wd626 wd628 wp31 wd4 wd629 (by decide) (Nat.le_of_ble_eq_true rfl) dX4_understood_15 ?_
    refine j_ifb_eq (tgt := 31) hC dX4_understood_18 (by decide) (fun _ => ?_) (fun h => absurd h (by omega))
    refine j_aload_n hC dX4_understood_31 0 rfl ?_
    refine j_iconst hC dX4_understood_32 ?_
    refine j_callV1 (ar := 1) hC hR (c_X4_fail (hlJ hC) g σ 1) [] rfl 19 rfl rfl rfl (by decide) (by decide +kernel) rfl wd618 wd620 wp30 wd4 wd621 (by decide) (Nat.le_of_ble_eq_true rfl) dX4_understood_33 ?_
    exact j_iret hC dX4_understood_36 ⟨rfl, rfl⟩
set_option maxHeartbeats 4000000 in
set_option maxRecDepth 100000 in
theorem c_X4_understood_b1 {L0 : Launch} (hL0 : L0.stackTraces = false) (g : GG) (σ : Sg) (hI : IM σ) (a c : Int) (hr : -2147483648 ≤ a ∧ a < 2147483648 ∧ -2147483648 ≤ c ∧ c < 2147483648) (ha : ¬ ((0 ≤ a ∧ a < σ.1 8) ∧ (0 ≤ c ∧ c < σ.1 8))) : CN L0 yX4_understood cX4_understood 3 (some .int) 6 146 0 0 g [.ref (gd g (19)), vI (a), vI (c)] σ (pt (some (vI 0)) (sF (sF σ 7 0) 7 1)) := by
  refine CN_of (own := RX4) hL0 (by decide) rfl (Nat.le_of_ble_eq_true rfl) (fun mc hC _ hR => ?_)
  refine j_lv (lv2 := [(0, .ref (gd g (19))), (1, vI (a)), (2, vI (c))]) rfl ?_
  refine j_aload_n hC dX4_understood_0 0 rfl ?_
  refine j_iconst hC dX4_understood_1 ?_
  refine j_put (τ := sF (σ) 7 (0)) hC inX4 tyX4_ok nmX4 rfl 19 rfl 0 (by decide) wd582 rfl rfl (Nat.le_of_ble_eq_true rfl) rfl dX4_understood_2 ?_
  exact tl_understood_b1 hC hR (IM_t hI (by omega)) a c hr ha
set_option maxHeartbeats 4000000 in
set_option maxRecDepth 100000 in
theorem tl_understood_ok {mc : MC} {g : GG} {σ : Sg} (hC : Cx mc g cX4_understood RX4 3 (some .int)) (hR : mR mc = rmJ 6 146 0 0) (hI : IM σ) (a c : Int) (hr : -2147483648 ≤ a ∧ a < 2147483648 ∧ -2147483648 ≤ c ∧ c < 2147483648) (ha : 0 ≤ a ∧ a < σ.1 8) (hc : 0 ≤ c ∧ c < σ.1 8) : J mc g 0 0 (QN mc g (pt (some (vI (raM σ a c 1))) (σ)) 0 0) 5 [(0, .ref (gd g (19))), (1, vI (a)), (2, vI (c))] [] σ := by
  have hI1 := hI.1
  have hna := hI.2.2.1 a (by omega) (by omega)
  have hnc := hI.2.2.1 c (by omega) (by omega)
  refine j_aload_n hC dX4_understood_5 0 rfl ?_
  refine j_iload_n hC dX4_understood_6 1 rfl ?_
  refine j_callV1 (ar := 1) hC hR (c_X4_isLodge (hlJ hC) g σ hI a (by omega)) [] rfl 19 rfl rfl rfl (by decide) (by decide +kernel) rfl wd626 wd628 wp31 wd4 wd629 (by decide) (Nat.le_of_ble_eq_true rfl) dX4_understood_7 ?_
  refine j_ifb_eq (tgt := 31) hC dX4_understood_10 (by decide) (fun h => (h (by omega)).elim) (fun _ => ?_)
  refine j_aload_n hC dX4_understood_13 0 rfl ?_
  refine j_iload_n hC dX4_understood_14 2 rfl ?_
  refine j_callV1 (ar := 1) hC hR (c_X4_isLodge (hlJ hC) g σ hI c (by omega)) [] rfl 19 rfl rfl rfl (by decide) (by decide +kernel) rfl wd626 wd628 wp31 wd4 wd629 (by decide) (Nat.le_of_ble_eq_true rfl) dX4_understood_15 ?_
  refine j_ifb_eq (tgt := 31) hC dX4_understood_18 (by decide) (fun h => (h (by omega)).elim) (fun _ => ?_)
  refine j_aload_n hC dX4_understood_21 0 rfl ?_
  refine j_iload_n hC dX4_understood_22 1 rfl ?_
  refine j_iload_n hC dX4_understood_23 2 rfl ?_
  refine j_iconst hC dX4_understood_24 ?_
  refine j_callV1 (ar := 3) hC hR (c_X4_readAs (hlJ hC) g σ hI a c 1 (by omega) (by omega) (by omega)) [] rfl 19 rfl rfl rfl (by decide) (by decide +kernel) rfl wd806 wd808 wp49 wd4 wd809 (by decide) (Nat.le_of_ble_eq_true rfl) dX4_understood_25 ?_
  have hf25 : 0 ≤ raM σ a c 1 ∧ raM σ a c 1 ≤ 16 := cntM_rg _ hI (by omega) _
  refine j_goto (tgt := 36) hC dX4_understood_28 (by decide) ?_
  exact j_iret hC dX4_understood_36 ⟨rfl, rfl⟩
set_option maxHeartbeats 4000000 in
set_option maxRecDepth 100000 in
theorem c_X4_understood_ok {L0 : Launch} (hL0 : L0.stackTraces = false) (g : GG) (σ : Sg) (hI : IM σ) (a c : Int) (hr : -2147483648 ≤ a ∧ a < 2147483648 ∧ -2147483648 ≤ c ∧ c < 2147483648) (ha : 0 ≤ a ∧ a < σ.1 8) (hc : 0 ≤ c ∧ c < σ.1 8) : CN L0 yX4_understood cX4_understood 3 (some .int) 6 146 0 0 g [.ref (gd g (19)), vI (a), vI (c)] σ (pt (some (vI (raM (sF σ 7 0) a c 1))) ((sF σ 7 0))) := by
  refine CN_of (own := RX4) hL0 (by decide) rfl (Nat.le_of_ble_eq_true rfl) (fun mc hC _ hR => ?_)
  refine j_lv (lv2 := [(0, .ref (gd g (19))), (1, vI (a)), (2, vI (c))]) rfl ?_
  refine j_aload_n hC dX4_understood_0 0 rfl ?_
  refine j_iconst hC dX4_understood_1 ?_
  refine j_put (τ := sF (σ) 7 (0)) hC inX4 tyX4_ok nmX4 rfl 19 rfl 0 (by decide) wd582 rfl rfl (Nat.le_of_ble_eq_true rfl) rfl dX4_understood_2 ?_
  exact tl_understood_ok hC hR (IM_t hI (by omega)) a c hr ha hc
set_option maxHeartbeats 4000000 in
set_option maxRecDepth 100000 in
theorem tl_misread_b1 {mc : MC} {g : GG} {σ : Sg} (hC : Cx mc g cX4_misread RX4 3 (some .int)) (hR : mR mc = rmJ 6 146 0 0) (hI : IM σ) (a c : Int) (hr : -2147483648 ≤ a ∧ a < 2147483648 ∧ -2147483648 ≤ c ∧ c < 2147483648) (ha : ¬ ((0 ≤ a ∧ a < σ.1 8) ∧ (0 ≤ c ∧ c < σ.1 8))) : J mc g 0 0 (QN mc g (pt (some (vI 0)) (sF σ 7 1)) 0 0) 5 [(0, .ref (gd g (19))), (1, vI (a)), (2, vI (c))] [] σ := by
  have hI1 := hI.1
  refine j_aload_n hC dX4_misread_5 0 rfl ?_
  refine j_iload_n hC dX4_misread_6 1 rfl ?_
  refine j_callV1 (ar := 1) hC hR (c_X4_isLodge (hlJ hC) g σ hI a (by omega)) [] rfl 19 rfl rfl rfl (by decide) (by decide +kernel) rfl wd626 wd628 wp31 wd4 wd629 (by decide) (Nat.le_of_ble_eq_true rfl) dX4_misread_7 ?_
  refine j_ifb_eq (tgt := 31) hC dX4_misread_10 (by decide) (fun h10 => ?_) (fun h10 => ?_)
  · refine j_aload_n hC dX4_misread_31 0 rfl ?_
    refine j_iconst hC dX4_misread_32 ?_
    refine j_callV1 (ar := 1) hC hR (c_X4_fail (hlJ hC) g σ 1) [] rfl 19 rfl rfl rfl (by decide) (by decide +kernel) rfl wd618 wd620 wp30 wd4 wd621 (by decide) (Nat.le_of_ble_eq_true rfl) dX4_misread_33 ?_
    exact j_iret hC dX4_misread_36 ⟨rfl, rfl⟩
  · refine j_aload_n hC dX4_misread_13 0 rfl ?_
    refine j_iload_n hC dX4_misread_14 2 rfl ?_
    refine j_callV1 (ar := 1) hC hR (c_X4_isLodge (hlJ hC) g σ hI c (by omega)) [] rfl 19 rfl rfl rfl (by decide) (by decide +kernel) rfl wd626 wd628 wp31 wd4 wd629 (by decide) (Nat.le_of_ble_eq_true rfl) dX4_misread_15 ?_
    refine j_ifb_eq (tgt := 31) hC dX4_misread_18 (by decide) (fun _ => ?_) (fun h => absurd h (by omega))
    refine j_aload_n hC dX4_misread_31 0 rfl ?_
    refine j_iconst hC dX4_misread_32 ?_
    refine j_callV1 (ar := 1) hC hR (c_X4_fail (hlJ hC) g σ 1) [] rfl 19 rfl rfl rfl (by decide) (by decide +kernel) rfl wd618 wd620 wp30 wd4 wd621 (by decide) (Nat.le_of_ble_eq_true rfl) dX4_misread_33 ?_
    exact j_iret hC dX4_misread_36 ⟨rfl, rfl⟩
set_option maxHeartbeats 4000000 in
set_option maxRecDepth 100000 in
theorem c_X4_misread_b1 {L0 : Launch} (hL0 : L0.stackTraces = false) (g : GG) (σ : Sg) (hI : IM σ) (a c : Int) (hr : -2147483648 ≤ a ∧ a < 2147483648 ∧ -2147483648 ≤ c ∧ c < 2147483648) (ha : ¬ ((0 ≤ a ∧ a < σ.1 8) ∧ (0 ≤ c ∧ c < σ.1 8))) : CN L0 yX4_misread cX4_misread 3 (some .int) 6 146 0 0 g [.ref (gd g (19)), vI (a), vI (c)] σ (pt (some (vI 0)) (sF (sF σ 7 0) 7 1)) := by
  refine CN_of (own := RX4) hL0 (by decide) rfl (Nat.le_of_ble_eq_true rfl) (fun mc hC _ hR => ?_)
  refine j_lv (lv2 := [(0, .ref (gd g (19))), (1, vI (a)), (2, vI (c))]) rfl ?_
  refine j_aload_n hC dX4_misread_0 0 rfl ?_
  refine j_iconst hC dX4_misread_1 ?_
  refine j_put (τ := sF (σ) 7 (0)) hC inX4 tyX4_ok nmX4 rfl 19 rfl 0 (by decide) wd582 rfl rfl (Nat.le_of_ble_eq_true rfl) rfl dX4_misread_2 ?_
  exact tl_misread_b1 hC hR (IM_t hI (by omega)) a c hr ha
set_option maxHeartbeats 4000000 in
set_option maxRecDepth 100000 in
theorem tl_misread_ok {mc : MC} {g : GG} {σ : Sg} (hC : Cx mc g cX4_misread RX4 3 (some .int)) (hR : mR mc = rmJ 6 146 0 0) (hI : IM σ) (a c : Int) (hr : -2147483648 ≤ a ∧ a < 2147483648 ∧ -2147483648 ≤ c ∧ c < 2147483648) (ha : 0 ≤ a ∧ a < σ.1 8) (hc : 0 ≤ c ∧ c < σ.1 8) : J mc g 0 0 (QN mc g (pt (some (vI (raM σ a c 0))) (σ)) 0 0) 5 [(0, .ref (gd g (19))), (1, vI (a)), (2, vI (c))] [] σ := by
  have hI1 := hI.1
  have hna := hI.2.2.1 a (by omega) (by omega)
  have hnc := hI.2.2.1 c (by omega) (by omega)
  refine j_aload_n hC dX4_misread_5 0 rfl ?_
  refine j_iload_n hC dX4_misread_6 1 rfl ?_
  refine j_callV1 (ar := 1) hC hR (c_X4_isLodge (hlJ hC) g σ hI a (by omega)) [] rfl 19 rfl rfl rfl (by decide) (by decide +kernel) rfl wd626 wd628 wp31 wd4 wd629 (by decide) (Nat.le_of_ble_eq_true rfl) dX4_misread_7 ?_
  refine j_ifb_eq (tgt := 31) hC dX4_misread_10 (by decide) (fun h => (h (by omega)).elim) (fun _ => ?_)
  refine j_aload_n hC dX4_misread_13 0 rfl ?_
  refine j_iload_n hC dX4_misread_14 2 rfl ?_
  refine j_callV1 (ar := 1) hC hR (c_X4_isLodge (hlJ hC) g σ hI c (by omega)) [] rfl 19 rfl rfl rfl (by decide) (by decide +kernel) rfl wd626 wd628 wp31 wd4 wd629 (by decide) (Nat.le_of_ble_eq_true rfl) dX4_misread_15 ?_
  refine j_ifb_eq (tgt := 31) hC dX4_misread_18 (by decide) (fun h => (h (by omega)).elim) (fun _ => ?_)
  refine j_aload_n hC dX4_misread_21 0 rfl ?_
  refine j_iload_n hC dX4_misread_22 1 rfl ?_
  refine j_iload_n hC dX4_misread_23 2 rfl ?_
  refine j_iconst hC dX4_misread_24 ?_
  refine j_callV1 (ar := 3) hC hR (c_X4_readAs (hlJ hC) g σ hI a c 0 (by omega) (by omega) (by omega)) [] rfl 19 rfl rfl rfl (by decide) (by decide +kernel) rfl wd806 wd808 wp49 wd4 wd809 (by decide) (Nat.le_of_ble_eq_true rfl) dX4_misread_25 ?_
  have hf25 : 0 ≤ raM σ a c 0 ∧ raM σ a c 0 ≤ 16 := cntM_rg _ hI (by omega) _
  refine j_goto (tgt := 36) hC dX4_misread_28 (by decide) ?_
  exact j_iret hC dX4_misread_36 ⟨rfl, rfl⟩
set_option maxHeartbeats 4000000 in
set_option maxRecDepth 100000 in
theorem c_X4_misread_ok {L0 : Launch} (hL0 : L0.stackTraces = false) (g : GG) (σ : Sg) (hI : IM σ) (a c : Int) (hr : -2147483648 ≤ a ∧ a < 2147483648 ∧ -2147483648 ≤ c ∧ c < 2147483648) (ha : 0 ≤ a ∧ a < σ.1 8) (hc : 0 ≤ c ∧ c < σ.1 8) : CN L0 yX4_misread cX4_misread 3 (some .int) 6 146 0 0 g [.ref (gd g (19)), vI (a), vI (c)] σ (pt (some (vI (raM (sF σ 7 0) a c 0))) ((sF σ 7 0))) := by
  refine CN_of (own := RX4) hL0 (by decide) rfl (Nat.le_of_ble_eq_true rfl) (fun mc hC _ hR => ?_)
  refine j_lv (lv2 := [(0, .ref (gd g (19))), (1, vI (a)), (2, vI (c))]) rfl ?_
  refine j_aload_n hC dX4_misread_0 0 rfl ?_
  refine j_iconst hC dX4_misread_1 ?_
  refine j_put (τ := sF (σ) 7 (0)) hC inX4 tyX4_ok nmX4 rfl 19 rfl 0 (by decide) wd582 rfl rfl (Nat.le_of_ble_eq_true rfl) rfl dX4_misread_2 ?_
  exact tl_misread_ok hC hR (IM_t hI (by omega)) a c hr ha hc
set_option maxHeartbeats 4000000 in
set_option maxRecDepth 100000 in
theorem tl_bestToBorrow_b1 {mc : MC} {g : GG} {σ : Sg} (hC : Cx mc g cX4_bestToBorrow RX4 3 (some .int)) (hR : mR mc = rmJ 7 174 0 0) (hI : IM σ) (a c : Int) (hr : -2147483648 ≤ a ∧ a < 2147483648 ∧ -2147483648 ≤ c ∧ c < 2147483648) (ha : ¬ ((0 ≤ a ∧ a < σ.1 8) ∧ (0 ≤ c ∧ c < σ.1 8))) : J mc g 0 0 (QN mc g (pt (some (vI 0)) (sF σ 7 1)) 0 0) 5 [(0, .ref (gd g (19))), (1, vI (a)), (2, vI (c))] [] σ := by
  have hI1 := hI.1
  refine j_aload_n hC dX4_bestToBorrow_5 0 rfl ?_
  refine j_iload_n hC dX4_bestToBorrow_6 1 rfl ?_
  refine j_callV1 (ar := 1) hC hR (c_X4_isLodge (hlJ hC) g σ hI a (by omega)) [] rfl 19 rfl rfl rfl (by decide) (by decide +kernel) rfl wd626 wd628 wp31 wd4 wd629 (by decide) (Nat.le_of_ble_eq_true rfl) dX4_bestToBorrow_7 ?_
  refine j_ifb_eq (tgt := 30) hC dX4_bestToBorrow_10 (by decide) (fun h10 => ?_) (fun h10 => ?_)
  · refine j_aload_n hC dX4_bestToBorrow_30 0 rfl ?_
    refine j_iconst hC dX4_bestToBorrow_31 ?_
    refine j_callV1 (ar := 1) hC hR (c_X4_fail (hlJ hC) g σ 1) [] rfl 19 rfl rfl rfl (by decide) (by decide +kernel) rfl wd618 wd620 wp30 wd4 wd621 (by decide) (Nat.le_of_ble_eq_true rfl) dX4_bestToBorrow_32 ?_
    exact j_iret hC dX4_bestToBorrow_35 ⟨rfl, rfl⟩
  · refine j_aload_n hC dX4_bestToBorrow_13 0 rfl ?_
    refine j_iload_n hC dX4_bestToBorrow_14 2 rfl ?_
    refine j_callV1 (ar := 1) hC hR (c_X4_isLodge (hlJ hC) g σ hI c (by omega)) [] rfl 19 rfl rfl rfl (by decide) (by decide +kernel) rfl wd626 wd628 wp31 wd4 wd629 (by decide) (Nat.le_of_ble_eq_true rfl) dX4_bestToBorrow_15 ?_
    refine j_ifb_eq (tgt := 30) hC dX4_bestToBorrow_18 (by decide) (fun _ => ?_) (fun h => absurd h (by omega))
    refine j_aload_n hC dX4_bestToBorrow_30 0 rfl ?_
    refine j_iconst hC dX4_bestToBorrow_31 ?_
    refine j_callV1 (ar := 1) hC hR (c_X4_fail (hlJ hC) g σ 1) [] rfl 19 rfl rfl rfl (by decide) (by decide +kernel) rfl wd618 wd620 wp30 wd4 wd621 (by decide) (Nat.le_of_ble_eq_true rfl) dX4_bestToBorrow_32 ?_
    exact j_iret hC dX4_bestToBorrow_35 ⟨rfl, rfl⟩
set_option maxHeartbeats 4000000 in
set_option maxRecDepth 100000 in
theorem c_X4_bestToBorrow_b1 {L0 : Launch} (hL0 : L0.stackTraces = false) (g : GG) (σ : Sg) (hI : IM σ) (a c : Int) (hr : -2147483648 ≤ a ∧ a < 2147483648 ∧ -2147483648 ≤ c ∧ c < 2147483648) (ha : ¬ ((0 ≤ a ∧ a < σ.1 8) ∧ (0 ≤ c ∧ c < σ.1 8))) : CN L0 yX4_bestToBorrow cX4_bestToBorrow 3 (some .int) 7 174 0 0 g [.ref (gd g (19)), vI (a), vI (c)] σ (pt (some (vI 0)) (sF (sF σ 7 0) 7 1)) := by
  refine CN_of (own := RX4) hL0 (by decide) rfl (Nat.le_of_ble_eq_true rfl) (fun mc hC _ hR => ?_)
  refine j_lv (lv2 := [(0, .ref (gd g (19))), (1, vI (a)), (2, vI (c))]) rfl ?_
  refine j_aload_n hC dX4_bestToBorrow_0 0 rfl ?_
  refine j_iconst hC dX4_bestToBorrow_1 ?_
  refine j_put (τ := sF (σ) 7 (0)) hC inX4 tyX4_ok nmX4 rfl 19 rfl 0 (by decide) wd582 rfl rfl (Nat.le_of_ble_eq_true rfl) rfl dX4_bestToBorrow_2 ?_
  exact tl_bestToBorrow_b1 hC hR (IM_t hI (by omega)) a c hr ha
set_option maxHeartbeats 4000000 in
set_option maxRecDepth 100000 in
theorem tl_bestToBorrow_ok {mc : MC} {g : GG} {σ : Sg} (hC : Cx mc g cX4_bestToBorrow RX4 3 (some .int)) (hR : mR mc = rmJ 7 174 0 0) (hI : IM σ) (a c : Int) (hr : -2147483648 ≤ a ∧ a < 2147483648 ∧ -2147483648 ≤ c ∧ c < 2147483648) (ha : 0 ≤ a ∧ a < σ.1 8) (hc : 0 ≤ c ∧ c < σ.1 8) : J mc g 0 0 (QN mc g (pt (some (vI (tbM σ a c).1)) ((tbM σ a c).2)) 0 0) 5 [(0, .ref (gd g (19))), (1, vI (a)), (2, vI (c))] [] σ := by
  have hI1 := hI.1
  have hna := hI.2.2.1 a (by omega) (by omega)
  have hnc := hI.2.2.1 c (by omega) (by omega)
  refine j_aload_n hC dX4_bestToBorrow_5 0 rfl ?_
  refine j_iload_n hC dX4_bestToBorrow_6 1 rfl ?_
  refine j_callV1 (ar := 1) hC hR (c_X4_isLodge (hlJ hC) g σ hI a (by omega)) [] rfl 19 rfl rfl rfl (by decide) (by decide +kernel) rfl wd626 wd628 wp31 wd4 wd629 (by decide) (Nat.le_of_ble_eq_true rfl) dX4_bestToBorrow_7 ?_
  refine j_ifb_eq (tgt := 30) hC dX4_bestToBorrow_10 (by decide) (fun h => (h (by omega)).elim) (fun _ => ?_)
  refine j_aload_n hC dX4_bestToBorrow_13 0 rfl ?_
  refine j_iload_n hC dX4_bestToBorrow_14 2 rfl ?_
  refine j_callV1 (ar := 1) hC hR (c_X4_isLodge (hlJ hC) g σ hI c (by omega)) [] rfl 19 rfl rfl rfl (by decide) (by decide +kernel) rfl wd626 wd628 wp31 wd4 wd629 (by decide) (Nat.le_of_ble_eq_true rfl) dX4_bestToBorrow_15 ?_
  refine j_ifb_eq (tgt := 30) hC dX4_bestToBorrow_18 (by decide) (fun h => (h (by omega)).elim) (fun _ => ?_)
  refine j_aload_n hC dX4_bestToBorrow_21 0 rfl ?_
  refine j_iload_n hC dX4_bestToBorrow_22 1 rfl ?_
  refine j_iload_n hC dX4_bestToBorrow_23 2 rfl ?_
  refine j_callV1 (ar := 2) hC hR (c_X4_toBorrow (hlJ hC) g σ hI a c (by omega) (by omega)) [] rfl 19 rfl rfl rfl (by decide) (by decide +kernel) rfl wd830 wd832 wp51 wd4 wd833 (by decide) (Nat.le_of_ble_eq_true rfl) dX4_bestToBorrow_24 ?_
  refine j_goto (tgt := 35) hC dX4_bestToBorrow_27 (by decide) ?_
  exact j_iret hC dX4_bestToBorrow_35 ⟨rfl, rfl⟩
set_option maxHeartbeats 4000000 in
set_option maxRecDepth 100000 in
theorem c_X4_bestToBorrow_ok {L0 : Launch} (hL0 : L0.stackTraces = false) (g : GG) (σ : Sg) (hI : IM σ) (a c : Int) (hr : -2147483648 ≤ a ∧ a < 2147483648 ∧ -2147483648 ≤ c ∧ c < 2147483648) (ha : 0 ≤ a ∧ a < σ.1 8) (hc : 0 ≤ c ∧ c < σ.1 8) : CN L0 yX4_bestToBorrow cX4_bestToBorrow 3 (some .int) 7 174 0 0 g [.ref (gd g (19)), vI (a), vI (c)] σ (pt (some (vI (tbM (sF σ 7 0) a c).1)) ((tbM (sF σ 7 0) a c).2)) := by
  refine CN_of (own := RX4) hL0 (by decide) rfl (Nat.le_of_ble_eq_true rfl) (fun mc hC _ hR => ?_)
  refine j_lv (lv2 := [(0, .ref (gd g (19))), (1, vI (a)), (2, vI (c))]) rfl ?_
  refine j_aload_n hC dX4_bestToBorrow_0 0 rfl ?_
  refine j_iconst hC dX4_bestToBorrow_1 ?_
  refine j_put (τ := sF (σ) 7 (0)) hC inX4 tyX4_ok nmX4 rfl 19 rfl 0 (by decide) wd582 rfl rfl (Nat.le_of_ble_eq_true rfl) rfl dX4_bestToBorrow_2 ?_
  exact tl_bestToBorrow_ok hC hR (IM_t hI (by omega)) a c hr ha hc
set_option maxHeartbeats 4000000 in
set_option maxRecDepth 100000 in
theorem tl_bestThumb_b1 {mc : MC} {g : GG} {σ : Sg} (hC : Cx mc g cX4_bestThumb RX4 3 (some .int)) (hR : mR mc = rmJ 4 97 0 0) (hI : IM σ) (a s : Int) (hr : -2147483648 ≤ a ∧ a < 2147483648 ∧ -2147483648 ≤ s ∧ s < 2147483648) (hs : ¬ ((0 ≤ a ∧ a < σ.1 8) ∧ (0 ≤ s ∧ s < σ.2 11 a))) : J mc g 0 0 (QN mc g (pt (some (vI 0)) (sF σ 7 1)) 0 0) 5 [(0, .ref (gd g (19))), (1, vI (a)), (2, vI (s))] [] σ := by
  have hI1 := hI.1
  refine j_aload_n hC dX4_bestThumb_5 0 rfl ?_
  refine j_iload_n hC dX4_bestThumb_6 1 rfl ?_
  refine j_iload_n hC dX4_bestThumb_7 2 rfl ?_
  refine j_callV1 (ar := 2) hC hR (c_X4_isSign (hlJ hC) g σ hI a s (by omega)) [] rfl 19 rfl rfl rfl (by decide) (by decide +kernel) rfl wd654 wd656 wp34 wd4 wd657 (by decide) (Nat.le_of_ble_eq_true rfl) dX4_bestThumb_8 ?_
  refine j_ifb_eq (tgt := 23) hC dX4_bestThumb_11 (by decide) (fun _ => ?_) (fun h => absurd h (by omega))
  refine j_aload_n hC dX4_bestThumb_23 0 rfl ?_
  refine j_iconst hC dX4_bestThumb_24 ?_
  refine j_callV1 (ar := 1) hC hR (c_X4_fail (hlJ hC) g σ 1) [] rfl 19 rfl rfl rfl (by decide) (by decide +kernel) rfl wd618 wd620 wp30 wd4 wd621 (by decide) (Nat.le_of_ble_eq_true rfl) dX4_bestThumb_25 ?_
  exact j_iret hC dX4_bestThumb_28 ⟨rfl, rfl⟩
set_option maxHeartbeats 4000000 in
set_option maxRecDepth 100000 in
theorem c_X4_bestThumb_b1 {L0 : Launch} (hL0 : L0.stackTraces = false) (g : GG) (σ : Sg) (hI : IM σ) (a s : Int) (hr : -2147483648 ≤ a ∧ a < 2147483648 ∧ -2147483648 ≤ s ∧ s < 2147483648) (hs : ¬ ((0 ≤ a ∧ a < σ.1 8) ∧ (0 ≤ s ∧ s < σ.2 11 a))) : CN L0 yX4_bestThumb cX4_bestThumb 3 (some .int) 4 97 0 0 g [.ref (gd g (19)), vI (a), vI (s)] σ (pt (some (vI 0)) (sF (sF σ 7 0) 7 1)) := by
  refine CN_of (own := RX4) hL0 (by decide) rfl (Nat.le_of_ble_eq_true rfl) (fun mc hC _ hR => ?_)
  refine j_lv (lv2 := [(0, .ref (gd g (19))), (1, vI (a)), (2, vI (s))]) rfl ?_
  refine j_aload_n hC dX4_bestThumb_0 0 rfl ?_
  refine j_iconst hC dX4_bestThumb_1 ?_
  refine j_put (τ := sF (σ) 7 (0)) hC inX4 tyX4_ok nmX4 rfl 19 rfl 0 (by decide) wd582 rfl rfl (Nat.le_of_ble_eq_true rfl) rfl dX4_bestThumb_2 ?_
  exact tl_bestThumb_b1 hC hR (IM_t hI (by omega)) a s hr hs
set_option maxHeartbeats 4000000 in
set_option maxRecDepth 100000 in
theorem tl_bestThumb_ok {mc : MC} {g : GG} {σ : Sg} (hC : Cx mc g cX4_bestThumb RX4 3 (some .int)) (hR : mR mc = rmJ 4 97 0 0) (hI : IM σ) (a s : Int) (hr : -2147483648 ≤ a ∧ a < 2147483648 ∧ -2147483648 ≤ s ∧ s < 2147483648) (hs : (0 ≤ a ∧ a < σ.1 8) ∧ (0 ≤ s ∧ s < σ.2 11 a)) : J mc g 0 0 (QN mc g (pt (some (vI (btM σ a s))) (σ)) 0 0) 5 [(0, .ref (gd g (19))), (1, vI (a)), (2, vI (s))] [] σ := by
  have hI1 := hI.1
  have hna := hI.2.2.1 a (by omega) (by omega)
  refine j_aload_n hC dX4_bestThumb_5 0 rfl ?_
  refine j_iload_n hC dX4_bestThumb_6 1 rfl ?_
  refine j_iload_n hC dX4_bestThumb_7 2 rfl ?_
  refine j_callV1 (ar := 2) hC hR (c_X4_isSign (hlJ hC) g σ hI a s (by omega)) [] rfl 19 rfl rfl rfl (by decide) (by decide +kernel) rfl wd654 wd656 wp34 wd4 wd657 (by decide) (Nat.le_of_ble_eq_true rfl) dX4_bestThumb_8 ?_
  refine j_ifb_eq (tgt := 23) hC dX4_bestThumb_11 (by decide) (fun h => (h (by omega)).elim) (fun _ => ?_)
  refine j_aload_n hC dX4_bestThumb_14 0 rfl ?_
  refine j_iload_n hC dX4_bestThumb_15 1 rfl ?_
  refine j_iload_n hC dX4_bestThumb_16 2 rfl ?_
  refine j_callV1 (ar := 2) hC hR (c_X4_bestThumbOf (hlJ hC) g σ hI a s (by omega) (by omega)) [] rfl 19 rfl rfl rfl (by decide) (by decide +kernel) rfl wd822 wd824 wp50 wd4 wd825 (by decide) (Nat.le_of_ble_eq_true rfl) dX4_bestThumb_17 ?_
  refine j_goto (tgt := 28) hC dX4_bestThumb_20 (by decide) ?_
  exact j_iret hC dX4_bestThumb_28 ⟨rfl, rfl⟩
set_option maxHeartbeats 4000000 in
set_option maxRecDepth 100000 in
theorem c_X4_bestThumb_ok {L0 : Launch} (hL0 : L0.stackTraces = false) (g : GG) (σ : Sg) (hI : IM σ) (a s : Int) (hr : -2147483648 ≤ a ∧ a < 2147483648 ∧ -2147483648 ≤ s ∧ s < 2147483648) (hs : (0 ≤ a ∧ a < σ.1 8) ∧ (0 ≤ s ∧ s < σ.2 11 a)) : CN L0 yX4_bestThumb cX4_bestThumb 3 (some .int) 4 97 0 0 g [.ref (gd g (19)), vI (a), vI (s)] σ (pt (some (vI (btM (sF σ 7 0) a s))) ((sF σ 7 0))) := by
  refine CN_of (own := RX4) hL0 (by decide) rfl (Nat.le_of_ble_eq_true rfl) (fun mc hC _ hR => ?_)
  refine j_lv (lv2 := [(0, .ref (gd g (19))), (1, vI (a)), (2, vI (s))]) rfl ?_
  refine j_aload_n hC dX4_bestThumb_0 0 rfl ?_
  refine j_iconst hC dX4_bestThumb_1 ?_
  refine j_put (τ := sF (σ) 7 (0)) hC inX4 tyX4_ok nmX4 rfl 19 rfl 0 (by decide) wd582 rfl rfl (Nat.le_of_ble_eq_true rfl) rfl dX4_bestThumb_2 ?_
  exact tl_bestThumb_ok hC hR (IM_t hI (by omega)) a s hr hs
set_option maxHeartbeats 4000000 in
set_option maxRecDepth 100000 in
theorem lm_common {mc : MC} {g : GG} {σ : Sg} (hC : Cx mc g cX4_common RX4 6 (some .int)) (hR : mR mc = rmJ 5 120 0 0) (hI : IM σ) (a c : Int) (ha4 : 0 ≤ a ∧ a < 4) (hc4 : 0 ≤ c ∧ c < 4) : ∀ (d : Nat) (w : Int) (u : Int), (16 * a ≤ w) → (w + (d : Int) = 16 * a + σ.2 11 a) → J mc g 0 0 (QN mc g (pt (some (vI (cnt (coM σ a c) d w u))) (σ)) 0 0) 36 [(4, vI (w)), (3, vI (u)), (0, .ref (gd g (19))), (1, vI (a)), (2, vI (c))] [] σ := by
  intro d
  induction d with
  | zero =>
    intro w u h0 hw
    have hn := hI.2.2.1 a ha4.1 ha4.2
    refine j_iload hC dX4_common_36 0 rfl ?_
    refine j_iload_n hC dX4_common_38 3 rfl ?_
    refine j_aload_n hC dX4_common_39 2 rfl ?_
    refine j_get hC inX4 rfl 19 rfl 2 (by decide) wd584 rfl dX4_common_40 ?_
    refine j_iload_n hC dX4_common_43 3 rfl ?_
    refine j_iald hC 20 rfl (by omega) dX4_common_44 ?_
    refine j_callS1 (ar := 2) hC hR (c_X4_at (hlJ hC) g σ a ((σ).2 11 a) ) [vI (w)] rfl (by decide) (by decide +kernel) rfl wd643 wd644 wd4 wd645 (by decide) (Nat.le_of_ble_eq_true rfl) dX4_common_45 ?_
    refine j_icmp_ge (tgt := 123) hC dX4_common_48 (by decide) (by omega) (fun _ => ?_) (fun h => absurd h (by omega))
    refine j_iload_n hC dX4_common_123 1 rfl ?_
    exact j_iret hC dX4_common_124 ⟨rfl, rfl⟩
  | succ d ih =>
    intro w u h0 hw
    have hn := hI.2.2.1 a ha4.1 ha4.2
    have hnc := hI.2.2.1 c hc4.1 hc4.2
    have hmw := hI.2.2.2.2.2.2.2.1 w (by omega) (by omega)
    have hsg := sgM_rg hI hc4 (σ.2 16 w)
    rw [show cnt (coM σ a c) (d + 1) w u = cnt (coM σ a c) d (w + 1) (if coM σ a c w = true then u + 1 else u) from rfl]
    refine j_iload hC dX4_common_36 0 rfl ?_
    refine j_iload_n hC dX4_common_38 3 rfl ?_
    refine j_aload_n hC dX4_common_39 2 rfl ?_
    refine j_get hC inX4 rfl 19 rfl 2 (by decide) wd584 rfl dX4_common_40 ?_
    refine j_iload_n hC dX4_common_43 3 rfl ?_
    refine j_iald hC 20 rfl (by omega) dX4_common_44 ?_
    refine j_callS1 (ar := 2) hC hR (c_X4_at (hlJ hC) g σ a ((σ).2 11 a) ) [vI (w)] rfl (by decide) (by decide +kernel) rfl wd643 wd644 wd4 wd645 (by decide) (Nat.le_of_ble_eq_true rfl) dX4_common_45 ?_
    refine j_icmp_ge (tgt := 123) hC dX4_common_48 (by decide) (by omega) (fun h => absurd h (by omega)) (fun _ => ?_)
    refine j_aload_n hC dX4_common_51 2 rfl ?_
    refine j_iload_n hC dX4_common_52 4 rfl ?_
    refine j_aload_n hC dX4_common_53 2 rfl ?_
    refine j_get hC inX4 rfl 19 rfl 7 (by decide) wd589 rfl dX4_common_54 ?_
    refine j_iload hC dX4_common_57 0 rfl ?_
    refine j_iald hC 25 rfl (by omega) dX4_common_59 ?_
    refine j_callV1 (ar := 2) hC hR (c_X4_signOf (hlJ hC) g σ hI c ((σ).2 16 w) (by omega) (by omega)) [] rfl 19 rfl rfl rfl (by decide) (by decide +kernel) rfl wd639 wd641 wp32 wd4 wd642 (by decide) (Nat.le_of_ble_eq_true rfl) dX4_common_60 ?_
    have hf60 := sgM_rg hI (l := c) (by omega) ((σ).2 16 w)
    refine j_istore hC dX4_common_63 [(5, vI (sgM σ c ((σ).2 16 w))), (4, vI (w)), (3, vI (u)), (0, .ref (gd g (19))), (1, vI (a)), (2, vI (c))] (by decide) rfl ?_
    refine j_iload_n hC dX4_common_65 2 rfl ?_
    refine j_iload hC dX4_common_66 0 rfl ?_
    refine j_iconst hC dX4_common_68 ?_
    refine j_icmp_eq (tgt := 114) hC dX4_common_69 (by decide) (by omega) (fun h69 => ?_) (fun h69 => ?_)
    · refine j_iconst hC dX4_common_114 ?_
      refine j_iadd hC dX4_common_115 ?_
      refine j_istore_n hC dX4_common_116 [(3, vI (u + 0)), (5, vI (sgM σ c ((σ).2 16 w))), (4, vI (w)), (0, .ref (gd g (19))), (1, vI (a)), (2, vI (c))] (by decide) rfl ?_
      refine j_iinc hC dX4_common_117 2 [(4, vI (w + 1)), (3, vI (u + 0)), (5, vI (sgM σ c ((σ).2 16 w))), (0, .ref (gd g (19))), (1, vI (a)), (2, vI (c))] rfl (by decide) rfl ?_
      refine j_goto (tgt := 36) hC dX4_common_120 (by decide) ?_
      refine j_sub [0, 1, 3, 4, 5] rfl ?_
      first | (rw [if_pos (show coM σ a c w = true from decide_eq_true ⟨h69, h86, h107⟩)]; exact ih (w + 1) (u + 1) (by omega) (by omega)) | (rw [if_neg (show ¬ (coM σ a c w = true) from fun q => h107 (of_decide_eq_true q).2.2), Int.add_zero u]; exact ih (w + 1) u (by omega) (by omega)) | (rw [if_neg (show ¬ (coM σ a c w = true) from fun q => h86 (of_decide_eq_true q).2.1), Int.add_zero u]; exact ih (w + 1) u (by omega) (by omega)) | (rw [if_neg (show ¬ (coM σ a c w = true) from fun q => (of_decide_eq_true q).1 h69), Int.add_zero u]; exact ih (w + 1) u (by omega) (by omega))
    · refine j_aload_n hC dX4_common_72 3 rfl ?_
      refine j_iload hC dX4_common_73 1 rfl ?_
      refine j_iload_n hC dX4_common_75 5 rfl ?_
      refine j_callV1 (ar := 2) hC hR (c_X4_reads2 (hlJ hC) g σ hI w c (by omega) (by omega)) [vI (u)] rfl 19 rfl rfl rfl (by decide) (by decide +kernel) rfl wd790 wd792 wp47 wd4 wd793 (by decide) (Nat.le_of_ble_eq_true rfl) dX4_common_76 ?_
      have hf76 := rdM_rg hI (l := c) (by omega) (lkM σ w)
      refine j_aload_n hC dX4_common_79 3 rfl ?_
      refine j_get hC inX4 rfl 19 rfl 7 (by decide) wd589 rfl dX4_common_80 ?_
      refine j_iload hC dX4_common_83 1 rfl ?_
      refine j_iald hC 25 rfl (by omega) dX4_common_85 ?_
      refine j_icmp_ne (tgt := 114) hC dX4_common_86 (by decide) (by omega) (fun h86 => ?_) (fun h86 => ?_)
      · refine j_iconst hC dX4_common_114 ?_
        refine j_iadd hC dX4_common_115 ?_
        refine j_istore_n hC dX4_common_116 [(3, vI (u + 0)), (5, vI (sgM σ c ((σ).2 16 w))), (4, vI (w)), (0, .ref (gd g (19))), (1, vI (a)), (2, vI (c))] (by decide) rfl ?_
        refine j_iinc hC dX4_common_117 2 [(4, vI (w + 1)), (3, vI (u + 0)), (5, vI (sgM σ c ((σ).2 16 w))), (0, .ref (gd g (19))), (1, vI (a)), (2, vI (c))] rfl (by decide) rfl ?_
        refine j_goto (tgt := 36) hC dX4_common_120 (by decide) ?_
        refine j_sub [0, 1, 3, 4, 5] rfl ?_
        first | (rw [if_pos (show coM σ a c w = true from decide_eq_true ⟨h69, h86, h107⟩)]; exact ih (w + 1) (u + 1) (by omega) (by omega)) | (rw [if_neg (show ¬ (coM σ a c w = true) from fun q => h107 (of_decide_eq_true q).2.2), Int.add_zero u]; exact ih (w + 1) u (by omega) (by omega)) | (rw [if_neg (show ¬ (coM σ a c w = true) from fun q => h86 (of_decide_eq_true q).2.1), Int.add_zero u]; exact ih (w + 1) u (by omega) (by omega)) | (rw [if_neg (show ¬ (coM σ a c w = true) from fun q => (of_decide_eq_true q).1 h69), Int.add_zero u]; exact ih (w + 1) u (by omega) (by omega))
      · refine j_aload_n hC dX4_common_89 3 rfl ?_
        refine j_iload_n hC dX4_common_90 5 rfl ?_
        refine j_iload hC dX4_common_91 0 rfl ?_
        refine j_callS1 (ar := 2) hC hR (c_X4_at (hlJ hC) g σ c (sgM σ c ((σ).2 16 w)) ) [.ref (gd g (19)), vI (u)] rfl (by decide) (by decide +kernel) rfl wd643 wd644 wd4 wd645 (by decide) (Nat.le_of_ble_eq_true rfl) dX4_common_93 ?_
        refine j_iload_n hC dX4_common_96 4 rfl ?_
        refine j_callV1 (ar := 2) hC hR (c_X4_reads2 (hlJ hC) g σ hI (16 * c + (sgM σ c ((σ).2 16 w))) a (by omega) (by omega)) [vI (u)] rfl 19 rfl rfl rfl (by decide) (by decide +kernel) rfl wd790 wd792 wp47 wd4 wd793 (by decide) (Nat.le_of_ble_eq_true rfl) dX4_common_97 ?_
        have hf97 := rdM_rg hI (l := a) (by omega) (lkM σ (16 * c + (sgM σ c ((σ).2 16 w))))
        refine j_aload_n hC dX4_common_100 3 rfl ?_
        refine j_get hC inX4 rfl 19 rfl 7 (by decide) wd589 rfl dX4_common_101 ?_
        refine j_iload hC dX4_common_104 1 rfl ?_
        refine j_iald hC 25 rfl (by omega) dX4_common_106 ?_
        refine j_icmp_ne (tgt := 114) hC dX4_common_107 (by decide) (by omega) (fun h107 => ?_) (fun h107 => ?_)
        · refine j_iconst hC dX4_common_114 ?_
          refine j_iadd hC dX4_common_115 ?_
          refine j_istore_n hC dX4_common_116 [(3, vI (u + 0)), (5, vI (sgM σ c ((σ).2 16 w))), (4, vI (w)), (0, .ref (gd g (19))), (1, vI (a)), (2, vI (c))] (by decide) rfl ?_
          refine j_iinc hC dX4_common_117 2 [(4, vI (w + 1)), (3, vI (u + 0)), (5, vI (sgM σ c ((σ).2 16 w))), (0, .ref (gd g (19))), (1, vI (a)), (2, vI (c))] rfl (by decide) rfl ?_
          refine j_goto (tgt := 36) hC dX4_common_120 (by decide) ?_
          refine j_sub [0, 1, 3, 4, 5] rfl ?_
          first | (rw [if_pos (show coM σ a c w = true from decide_eq_true ⟨h69, h86, h107⟩)]; exact ih (w + 1) (u + 1) (by omega) (by omega)) | (rw [if_neg (show ¬ (coM σ a c w = true) from fun q => h107 (of_decide_eq_true q).2.2), Int.add_zero u]; exact ih (w + 1) u (by omega) (by omega)) | (rw [if_neg (show ¬ (coM σ a c w = true) from fun q => h86 (of_decide_eq_true q).2.1), Int.add_zero u]; exact ih (w + 1) u (by omega) (by omega)) | (rw [if_neg (show ¬ (coM σ a c w = true) from fun q => (of_decide_eq_true q).1 h69), Int.add_zero u]; exact ih (w + 1) u (by omega) (by omega))
        · refine j_iconst hC dX4_common_110 ?_
          refine j_goto (tgt := 115) hC dX4_common_111 (by decide) ?_
          refine j_iadd hC dX4_common_115 ?_
          refine j_istore_n hC dX4_common_116 [(3, vI (u + 1)), (5, vI (sgM σ c ((σ).2 16 w))), (4, vI (w)), (0, .ref (gd g (19))), (1, vI (a)), (2, vI (c))] (by decide) rfl ?_
          refine j_iinc hC dX4_common_117 2 [(4, vI (w + 1)), (3, vI (u + 1)), (5, vI (sgM σ c ((σ).2 16 w))), (0, .ref (gd g (19))), (1, vI (a)), (2, vI (c))] rfl (by decide) rfl ?_
          refine j_goto (tgt := 36) hC dX4_common_120 (by decide) ?_
          refine j_sub [0, 1, 3, 4, 5] rfl ?_
          first | (rw [if_pos (show coM σ a c w = true from decide_eq_true ⟨h69, h86, h107⟩)]; exact ih (w + 1) (u + 1) (by omega) (by omega)) | (rw [if_neg (show ¬ (coM σ a c w = true) from fun q => h107 (of_decide_eq_true q).2.2), Int.add_zero u]; exact ih (w + 1) u (by omega) (by omega)) | (rw [if_neg (show ¬ (coM σ a c w = true) from fun q => h86 (of_decide_eq_true q).2.1), Int.add_zero u]; exact ih (w + 1) u (by omega) (by omega)) | (rw [if_neg (show ¬ (coM σ a c w = true) from fun q => (of_decide_eq_true q).1 h69), Int.add_zero u]; exact ih (w + 1) u (by omega) (by omega))
set_option maxHeartbeats 4000000 in
set_option maxRecDepth 100000 in
theorem tl_common_b1 {mc : MC} {g : GG} {σ : Sg} (hC : Cx mc g cX4_common RX4 6 (some .int)) (hR : mR mc = rmJ 5 120 0 0) (hI : IM σ) (a c : Int) (hr : -2147483648 ≤ a ∧ a < 2147483648 ∧ -2147483648 ≤ c ∧ c < 2147483648) (ha : ¬ ((0 ≤ a ∧ a < σ.1 8) ∧ (0 ≤ c ∧ c < σ.1 8))) : J mc g 0 0 (QN mc g (pt (some (vI 0)) (sF σ 7 1)) 0 0) 5 [(0, .ref (gd g (19))), (1, vI (a)), (2, vI (c))] [] σ := by
  have hI1 := hI.1
  refine j_aload_n hC dX4_common_5 0 rfl ?_
  refine j_iload_n hC dX4_common_6 1 rfl ?_
  refine j_callV1 (ar := 1) hC hR (c_X4_isLodge (hlJ hC) g σ hI a (by omega)) [] rfl 19 rfl rfl rfl (by decide) (by decide +kernel) rfl wd626 wd628 wp31 wd4 wd629 (by decide) (Nat.le_of_ble_eq_true rfl) dX4_common_7 ?_
  refine j_ifb_eq (tgt := 21) hC dX4_common_10 (by decide) (fun h10 => ?_) (fun h10 => ?_)
  · refine j_aload_n hC dX4_common_21 0 rfl ?_
    refine j_iconst hC dX4_common_22 ?_
    refine j_callV1 (ar := 1) hC hR (c_X4_fail (hlJ hC) g σ 1) [] rfl 19 rfl rfl rfl (by decide) (by decide +kernel) rfl wd618 wd620 wp30 wd4 wd621 (by decide) (Nat.le_of_ble_eq_true rfl) dX4_common_23 ?_
    exact j_iret hC dX4_common_26 ⟨rfl, rfl⟩
  · refine j_aload_n hC dX4_common_13 0 rfl ?_
    refine j_iload_n hC dX4_common_14 2 rfl ?_
    refine j_callV1 (ar := 1) hC hR (c_X4_isLodge (hlJ hC) g σ hI c (by omega)) [] rfl 19 rfl rfl rfl (by decide) (by decide +kernel) rfl wd626 wd628 wp31 wd4 wd629 (by decide) (Nat.le_of_ble_eq_true rfl) dX4_common_15 ?_
    refine j_ifb_ne (tgt := 27) hC dX4_common_18 (by decide) (fun h => absurd h (by omega)) (fun _ => ?_)
    refine j_aload_n hC dX4_common_21 0 rfl ?_
    refine j_iconst hC dX4_common_22 ?_
    refine j_callV1 (ar := 1) hC hR (c_X4_fail (hlJ hC) g σ 1) [] rfl 19 rfl rfl rfl (by decide) (by decide +kernel) rfl wd618 wd620 wp30 wd4 wd621 (by decide) (Nat.le_of_ble_eq_true rfl) dX4_common_23 ?_
    exact j_iret hC dX4_common_26 ⟨rfl, rfl⟩
set_option maxHeartbeats 4000000 in
set_option maxRecDepth 100000 in
theorem c_X4_common_b1 {L0 : Launch} (hL0 : L0.stackTraces = false) (g : GG) (σ : Sg) (hI : IM σ) (a c : Int) (hr : -2147483648 ≤ a ∧ a < 2147483648 ∧ -2147483648 ≤ c ∧ c < 2147483648) (ha : ¬ ((0 ≤ a ∧ a < σ.1 8) ∧ (0 ≤ c ∧ c < σ.1 8))) : CN L0 yX4_common cX4_common 6 (some .int) 5 120 0 0 g [.ref (gd g (19)), vI (a), vI (c)] σ (pt (some (vI 0)) (sF (sF σ 7 0) 7 1)) := by
  refine CN_of (own := RX4) hL0 (by decide) rfl (Nat.le_of_ble_eq_true rfl) (fun mc hC _ hR => ?_)
  refine j_lv (lv2 := [(0, .ref (gd g (19))), (1, vI (a)), (2, vI (c))]) rfl ?_
  refine j_aload_n hC dX4_common_0 0 rfl ?_
  refine j_iconst hC dX4_common_1 ?_
  refine j_put (τ := sF (σ) 7 (0)) hC inX4 tyX4_ok nmX4 rfl 19 rfl 0 (by decide) wd582 rfl rfl (Nat.le_of_ble_eq_true rfl) rfl dX4_common_2 ?_
  exact tl_common_b1 hC hR (IM_t hI (by omega)) a c hr ha
set_option maxHeartbeats 4000000 in
set_option maxRecDepth 100000 in
theorem tl_common_ok {mc : MC} {g : GG} {σ : Sg} (hC : Cx mc g cX4_common RX4 6 (some .int)) (hR : mR mc = rmJ 5 120 0 0) (hI : IM σ) (a c : Int) (hr : -2147483648 ≤ a ∧ a < 2147483648 ∧ -2147483648 ≤ c ∧ c < 2147483648) (ha : 0 ≤ a ∧ a < σ.1 8) (hc : 0 ≤ c ∧ c < σ.1 8) : J mc g 0 0 (QN mc g (pt (some (vI (cmM σ a c))) (σ)) 0 0) 5 [(0, .ref (gd g (19))), (1, vI (a)), (2, vI (c))] [] σ := by
  have hI1 := hI.1
  have hna := hI.2.2.1 a (by omega) (by omega)
  have hnc := hI.2.2.1 c (by omega) (by omega)
  have hn2 := nM_eq hI (l := a) (by omega)
  refine j_aload_n hC dX4_common_5 0 rfl ?_
  refine j_iload_n hC dX4_common_6 1 rfl ?_
  refine j_callV1 (ar := 1) hC hR (c_X4_isLodge (hlJ hC) g σ hI a (by omega)) [] rfl 19 rfl rfl rfl (by decide) (by decide +kernel) rfl wd626 wd628 wp31 wd4 wd629 (by decide) (Nat.le_of_ble_eq_true rfl) dX4_common_7 ?_
  refine j_ifb_eq (tgt := 21) hC dX4_common_10 (by decide) (fun h => (h (by omega)).elim) (fun _ => ?_)
  refine j_aload_n hC dX4_common_13 0 rfl ?_
  refine j_iload_n hC dX4_common_14 2 rfl ?_
  refine j_callV1 (ar := 1) hC hR (c_X4_isLodge (hlJ hC) g σ hI c (by omega)) [] rfl 19 rfl rfl rfl (by decide) (by decide +kernel) rfl wd626 wd628 wp31 wd4 wd629 (by decide) (Nat.le_of_ble_eq_true rfl) dX4_common_15 ?_
  refine j_ifb_ne (tgt := 27) hC dX4_common_18 (by decide) (fun _ => ?_) (fun h => (h (by omega)).elim)
  refine j_iconst hC dX4_common_27 ?_
  refine j_istore_n hC dX4_common_28 [(3, vI (0)), (0, .ref (gd g (19))), (1, vI (a)), (2, vI (c))] (by decide) rfl ?_
  refine j_iload_n hC dX4_common_29 2 rfl ?_
  refine j_iconst hC dX4_common_30 ?_
  refine j_callS1 (ar := 2) hC hR (c_X4_at (hlJ hC) g σ a 0 ) [] rfl (by decide) (by decide +kernel) rfl wd643 wd644 wd4 wd645 (by decide) (Nat.le_of_ble_eq_true rfl) dX4_common_31 ?_
  refine j_istore hC dX4_common_34 [(4, vI (16 * a + 0)), (3, vI (0)), (0, .ref (gd g (19))), (1, vI (a)), (2, vI (c))] (by decide) rfl ?_
  refine j_sub [0, 1, 2, 3, 4] rfl ?_
  exact lm_common hC hR hI a c (by omega) (by omega) (nM σ a) _ 0 (by omega) (by omega)
set_option maxHeartbeats 4000000 in
set_option maxRecDepth 100000 in
theorem c_X4_common_ok {L0 : Launch} (hL0 : L0.stackTraces = false) (g : GG) (σ : Sg) (hI : IM σ) (a c : Int) (hr : -2147483648 ≤ a ∧ a < 2147483648 ∧ -2147483648 ≤ c ∧ c < 2147483648) (ha : 0 ≤ a ∧ a < σ.1 8) (hc : 0 ≤ c ∧ c < σ.1 8) : CN L0 yX4_common cX4_common 6 (some .int) 5 120 0 0 g [.ref (gd g (19)), vI (a), vI (c)] σ (pt (some (vI (cmM (sF σ 7 0) a c))) ((sF σ 7 0))) := by
  refine CN_of (own := RX4) hL0 (by decide) rfl (Nat.le_of_ble_eq_true rfl) (fun mc hC _ hR => ?_)
  refine j_lv (lv2 := [(0, .ref (gd g (19))), (1, vI (a)), (2, vI (c))]) rfl ?_
  refine j_aload_n hC dX4_common_0 0 rfl ?_
  refine j_iconst hC dX4_common_1 ?_
  refine j_put (τ := sF (σ) 7 (0)) hC inX4 tyX4_ok nmX4 rfl 19 rfl 0 (by decide) wd582 rfl rfl (Nat.le_of_ble_eq_true rfl) rfl dX4_common_2 ?_
  exact tl_common_ok hC hR (IM_t hI (by omega)) a c hr ha hc
