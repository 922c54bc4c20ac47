set_option maxHeartbeats 4000000 in
set_option maxRecDepth 100000 in
theorem c_X4_thrown {L0 : Launch} (hL0 : L0.stackTraces = false) (g : GG) (σ : Sg)  : CN L0 yX4_thrown cX4_thrown 1 (some .int) 0 0 0 0 g [.ref (gd g (19))] σ (pt (some (vI (σ.1 7))) (σ)) := by
  refine CN_of (own := RX4) hL0 (by decide) rfl (Nat.le_of_ble_eq_true rfl) (fun mc hC _ hR => ?_)
  refine j_lv (lv2 := [(0, .ref (gd g (19)))]) rfl ?_
  refine j_aload_n hC dX4_thrown_0 0 rfl ?_
  refine j_get hC inX4 rfl 19 rfl 0 (by decide) wd582 rfl dX4_thrown_1 ?_
  exact j_iret hC dX4_thrown_4 ⟨rfl, rfl⟩
set_option maxHeartbeats 4000000 in
set_option maxRecDepth 100000 in
theorem c_X4_fail {L0 : Launch} (hL0 : L0.stackTraces = false) (g : GG) (σ : Sg) (x : Int) : CN L0 yX4_fail cX4_fail 2 (some .int) 0 0 0 0 g [.ref (gd g (19)), vI (x)] σ (pt (some (vI 0)) (sF σ 7 x)) := by
  refine CN_of (own := RX4) hL0 (by decide) rfl (Nat.le_of_ble_eq_true rfl) (fun mc hC _ hR => ?_)
  refine j_lv (lv2 := [(0, .ref (gd g (19))), (1, vI (x))]) rfl ?_
  refine j_aload_n hC dX4_fail_0 0 rfl ?_
  refine j_iload_n hC dX4_fail_1 1 rfl ?_
  refine j_put (τ := sF (σ) 7 (x)) hC inX4 tyX4_ok nmX4 rfl 19 rfl 0 (by decide) wd582 rfl rfl (Nat.le_of_ble_eq_true rfl) rfl dX4_fail_2 ?_
  refine j_iconst hC dX4_fail_5 ?_
  exact j_iret hC dX4_fail_6 ⟨rfl, rfl⟩
set_option maxHeartbeats 4000000 in
set_option maxRecDepth 100000 in
theorem c_X4_told {L0 : Launch} (hL0 : L0.stackTraces = false) (g : GG) (σ : Sg) (x : Int) : CN L0 yX4_told cX4_told 2 (some .int) 0 0 0 0 g [.ref (gd g (19)), vI (x)] σ (pt (some (vI x)) (sF σ 7 0)) := by
  refine CN_of (own := RX4) hL0 (by decide) rfl (Nat.le_of_ble_eq_true rfl) (fun mc hC _ hR => ?_)
  refine j_lv (lv2 := [(0, .ref (gd g (19))), (1, vI (x))]) rfl ?_
  refine j_aload_n hC dX4_told_0 0 rfl ?_
  refine j_iconst hC dX4_told_1 ?_
  refine j_put (τ := sF (σ) 7 (0)) hC inX4 tyX4_ok nmX4 rfl 19 rfl 0 (by decide) wd582 rfl rfl (Nat.le_of_ble_eq_true rfl) rfl dX4_told_2 ?_
  refine j_iload_n hC dX4_told_5 1 rfl ?_
  exact j_iret hC dX4_told_6 ⟨rfl, rfl⟩
set_option maxHeartbeats 4000000 in
set_option maxRecDepth 100000 in
theorem c_X4_isIn {L0 : Launch} (hL0 : L0.stackTraces = false) (g : GG) (σ : Sg) (v a b : Int) (hr : -2147483648 ≤ v ∧ v < 2147483648 ∧ -2147483648 ≤ a ∧ a < 2147483648 ∧ -2147483648 ≤ b ∧ b < 2147483648) : CN L0 yX4_isIn cX4_isIn 3 (some .boolean) 0 0 0 0 g [vI (v), vI (a), vI (b)] σ (pt (some (vI (if a ≤ v ∧ v ≤ b then 1 else 0))) (σ)) := by
  refine CN_of (own := RX4) hL0 (by decide) rfl (Nat.le_of_ble_eq_true rfl) (fun mc hC _ hR => ?_)
  refine j_lv (lv2 := [(0, vI (v)), (1, vI (a)), (2, vI (b))]) rfl ?_
  refine j_iload_n hC dX4_isIn_0 0 rfl ?_
  refine j_iload_n hC dX4_isIn_1 1 rfl ?_
  refine j_icmp_lt (tgt := 14) hC dX4_isIn_2 (by decide) (by omega) (fun h2 => ?_) (fun h2 => ?_)
  · refine j_iconst hC dX4_isIn_14 ?_
    exact j_zret hC (by decide) dX4_isIn_15 ⟨by first | rw [if_pos (by omega)] | rw [if_neg (by omega)], rfl⟩
  · refine j_iload_n hC dX4_isIn_5 0 rfl ?_
    refine j_iload_n hC dX4_isIn_6 2 rfl ?_
    refine j_icmp_gt (tgt := 14) hC dX4_isIn_7 (by decide) (by omega) (fun h7 => ?_) (fun h7 => ?_)
    · refine j_iconst hC dX4_isIn_14 ?_
      exact j_zret hC (by decide) dX4_isIn_15 ⟨by first | rw [if_pos (by omega)] | rw [if_neg (by omega)], rfl⟩
    · refine j_iconst hC dX4_isIn_10 ?_
      refine j_goto (tgt := 15) hC dX4_isIn_11 (by decide) ?_
      exact j_zret hC (by decide) dX4_isIn_15 ⟨by first | rw [if_pos (by omega)] | rw [if_neg (by omega)], rfl⟩
set_option maxHeartbeats 4000000 in
set_option maxRecDepth 100000 in
theorem c_X4_isLodge {L0 : Launch} (hL0 : L0.stackTraces = false) (g : GG) (σ : Sg) (hI : IM σ) (l : Int) (hr : -2147483648 ≤ l ∧ l < 2147483648) : CN L0 yX4_isLodge cX4_isLodge 2 (some .boolean) 1 22 0 0 g [.ref (gd g (19)), vI (l)] σ (pt (some (vI (if 0 ≤ l ∧ l < σ.1 8 then 1 else 0))) (σ)) := by
  refine CN_of (own := RX4) hL0 (by decide) rfl (Nat.le_of_ble_eq_true rfl) (fun mc hC _ hR => ?_)
  refine j_lv (lv2 := [(0, .ref (gd g (19))), (1, vI (l))]) rfl ?_
  have hI1 := hI.1
  refine j_iload_n hC dX4_isLodge_0 1 rfl ?_
  refine j_iconst hC dX4_isLodge_1 ?_
  refine j_aload_n hC dX4_isLodge_2 0 rfl ?_
  refine j_get hC inX4 rfl 19 rfl 1 (by decide) wd583 rfl dX4_isLodge_3 ?_
  refine j_iconst hC dX4_isLodge_6 ?_
  refine j_isub hC dX4_isLodge_7 ?_
  refine j_callS1 (ar := 3) hC hR (c_X4_isIn (hlJ hC) g σ l 0 (((σ).1 8) - 1) (by omega)) [] rfl (by decide) (by decide +kernel) rfl wd630 wd631 wd4 wd632 (by decide) (Nat.le_of_ble_eq_true rfl) dX4_isLodge_8 ?_
  exact j_zret hC (by split <;> omega) dX4_isLodge_11 ⟨congrArg (fun z => some (vI z)) (by by_cases q : 0 ≤ l ∧ l < σ.1 8 <;> first | (rw [if_pos q, if_pos (by omega)]) | (rw [if_neg q, if_neg (by omega)])), rfl⟩
set_option maxHeartbeats 4000000 in
set_option maxRecDepth 100000 in
theorem c_X4_isPlace {L0 : Launch} (hL0 : L0.stackTraces = false) (g : GG) (σ : Sg) (p : Int) (hr : -2147483648 ≤ p ∧ p < 2147483648) : CN L0 yX4_isPlace cX4_isPlace 1 (some .boolean) 1 22 0 0 g [vI (p)] σ (pt (some (vI (if 0 ≤ p ∧ p < 9 then 1 else 0))) (σ)) := by
  refine CN_of (own := RX4) hL0 (by decide) rfl (Nat.le_of_ble_eq_true rfl) (fun mc hC _ hR => ?_)
  refine j_lv (lv2 := [(0, vI (p))]) rfl ?_
  refine j_iload_n hC dX4_isPlace_0 0 rfl ?_
  refine j_iconst hC dX4_isPlace_1 ?_
  refine j_bipush hC dX4_isPlace_2 (by decide) ?_
  refine j_callS1 (ar := 3) hC hR (c_X4_isIn (hlJ hC) g σ p 0 8 (by omega)) [] rfl (by decide) (by decide +kernel) rfl wd630 wd631 wd4 wd632 (by decide) (Nat.le_of_ble_eq_true rfl) dX4_isPlace_4 ?_
  exact j_zret hC (by split <;> omega) dX4_isPlace_7 ⟨congrArg (fun z => some (vI z)) (by by_cases q : 0 ≤ p ∧ p < 9 <;> first | (rw [if_pos q, if_pos (by omega)]) | (rw [if_neg q, if_neg (by omega)])), rfl⟩
set_option maxHeartbeats 4000000 in
set_option maxRecDepth 100000 in
theorem c_X4_isShown {L0 : Launch} (hL0 : L0.stackTraces = false) (g : GG) (σ : Sg) (sh th pl mv : Int) (hr : -2147483648 ≤ sh ∧ sh < 2147483648 ∧ -2147483648 ≤ th ∧ th < 2147483648 ∧ -2147483648 ≤ pl ∧ pl < 2147483648 ∧ -2147483648 ≤ mv ∧ mv < 2147483648) : CN L0 yX4_isShown cX4_isShown 4 (some .boolean) 2 42 0 0 g [vI (sh), vI (th), vI (pl), vI (mv)] σ (pt (some (vI (if 0 ≤ sh ∧ sh < 16 ∧ 0 ≤ th ∧ th < 4 ∧ 0 ≤ pl ∧ pl < 9 ∧ 0 ≤ mv ∧ mv < 4 then 1 else 0))) (σ)) := by
  refine CN_of (own := RX4) hL0 (by decide) rfl (Nat.le_of_ble_eq_true rfl) (fun mc hC _ hR => ?_)
  refine j_lv (lv2 := [(0, vI (sh)), (1, vI (th)), (2, vI (pl)), (3, vI (mv))]) rfl ?_
  refine j_iload_n hC dX4_isShown_0 0 rfl ?_
  refine j_iconst hC dX4_isShown_1 ?_
  refine j_bipush hC dX4_isShown_2 (by decide) ?_
  refine j_callS1 (ar := 3) hC hR (c_X4_isIn (hlJ hC) g σ sh 0 15 (by omega)) [] rfl (by decide) (by decide +kernel) rfl wd630 wd631 wd4 wd632 (by decide) (Nat.le_of_ble_eq_true rfl) dX4_isShown_4 ?_
  refine j_ifb_eq (tgt := 39) hC dX4_isShown_7 (by decide) (fun h7 => ?_) (fun h7 => ?_)
  · refine j_iconst hC dX4_isShown_39 ?_
    exact j_zret hC (by decide) dX4_isShown_40 ⟨by first | rw [if_pos (by omega)] | rw [if_neg (by omega)], rfl⟩
  · refine j_iload_n hC dX4_isShown_10 1 rfl ?_
    refine j_iconst hC dX4_isShown_11 ?_
    refine j_iconst hC dX4_isShown_12 ?_
    refine j_callS1 (ar := 3) hC hR (c_X4_isIn (hlJ hC) g σ th 0 3 (by omega)) [] rfl (by decide) (by decide +kernel) rfl wd630 wd631 wd4 wd632 (by decide) (Nat.le_of_ble_eq_true rfl) dX4_isShown_13 ?_
    refine j_ifb_eq (tgt := 39) hC dX4_isShown_16 (by decide) (fun h16 => ?_) (fun h16 => ?_)
    · refine j_iconst hC dX4_isShown_39 ?_
      exact j_zret hC (by decide) dX4_isShown_40 ⟨by first | rw [if_pos (by omega)] | rw [if_neg (by omega)], rfl⟩
    · refine j_iload_n hC dX4_isShown_19 2 rfl ?_
      refine j_callS1 (ar := 1) hC hR (c_X4_isPlace (hlJ hC) g σ pl (by omega)) [] rfl (by decide) (by decide +kernel) rfl wd636 wd637 wd4 wd638 (by decide) (Nat.le_of_ble_eq_true rfl) dX4_isShown_20 ?_
      refine j_ifb_eq (tgt := 39) hC dX4_isShown_23 (by decide) (fun h23 => ?_) (fun h23 => ?_)
      · refine j_iconst hC dX4_isShown_39 ?_
        exact j_zret hC (by decide) dX4_isShown_40 ⟨by first | rw [if_pos (by omega)] | rw [if_neg (by omega)], rfl⟩
      · refine j_iload_n hC dX4_isShown_26 3 rfl ?_
        refine j_iconst hC dX4_isShown_27 ?_
        refine j_iconst hC dX4_isShown_28 ?_
        refine j_callS1 (ar := 3) hC hR (c_X4_isIn (hlJ hC) g σ mv 0 3 (by omega)) [] rfl (by decide) (by decide +kernel) rfl wd630 wd631 wd4 wd632 (by decide) (Nat.le_of_ble_eq_true rfl) dX4_isShown_29 ?_
        refine j_ifb_eq (tgt := 39) hC dX4_isShown_32 (by decide) (fun h32 => ?_) (fun h32 => ?_)
        · refine j_iconst hC dX4_isShown_39 ?_
          exact j_zret hC (by decide) dX4_isShown_40 ⟨by first | rw [if_pos (by omega)] | rw [if_neg (by omega)], rfl⟩
        · refine j_iconst hC dX4_isShown_35 ?_
          refine j_goto (tgt := 40) hC dX4_isShown_36 (by decide) ?_
          exact j_zret hC (by decide) dX4_isShown_40 ⟨by first | rw [if_pos (by omega)] | rw [if_neg (by omega)], rfl⟩
set_option maxHeartbeats 4000000 in
set_option maxRecDepth 100000 in
theorem c_X4_isSign {L0 : Launch} (hL0 : L0.stackTraces = false) (g : GG) (σ : Sg) (hI : IM σ) (l s : Int) (hr : -2147483648 ≤ l ∧ l < 2147483648 ∧ -2147483648 ≤ s ∧ s < 2147483648) : CN L0 yX4_isSign cX4_isSign 3 (some .boolean) 2 43 0 0 g [.ref (gd g (19)), vI (l), vI (s)] σ (pt (some (vI (if (0 ≤ l ∧ l < σ.1 8) ∧ (0 ≤ s ∧ s < σ.2 11 l) then 1 else 0))) (σ)) := by
  refine CN_of (own := RX4) hL0 (by decide) rfl (Nat.le_of_ble_eq_true rfl) (fun mc hC _ hR => ?_)
  refine j_lv (lv2 := [(0, .ref (gd g (19))), (1, vI (l)), (2, vI (s))]) rfl ?_
  have hI1 := hI.1
  refine j_aload_n hC dX4_isSign_0 0 rfl ?_
  refine j_iload_n hC dX4_isSign_1 1 rfl ?_
  refine j_callV1 (ar := 1) hC hR (c_X4_isLodge (hlJ hC) g σ hI l (by omega)) [] rfl 19 rfl rfl rfl (by decide) (by decide +kernel) rfl wd626 wd628 wp31 wd4 wd629 (by decide) (Nat.le_of_ble_eq_true rfl) dX4_isSign_2 ?_
  refine j_ifb_eq (tgt := 28) hC dX4_isSign_5 (by decide) (fun h5 => ?_) (fun h5 => ?_)
  · refine j_iconst hC dX4_isSign_28 ?_
    exact j_zret hC (by decide) dX4_isSign_29 ⟨by first | rw [if_pos (by omega)] | rw [if_neg (by omega)], rfl⟩
  · have hml := hI.2.2.1 l (by omega) (by omega)
    refine j_iload_n hC dX4_isSign_8 2 rfl ?_
    refine j_iconst hC dX4_isSign_9 ?_
    refine j_aload_n hC dX4_isSign_10 0 rfl ?_
    refine j_get hC inX4 rfl 19 rfl 2 (by decide) wd584 rfl dX4_isSign_11 ?_
    refine j_iload_n hC dX4_isSign_14 1 rfl ?_
    refine j_iald hC 20 rfl (by omega) dX4_isSign_15 ?_
    refine j_iconst hC dX4_isSign_16 ?_
    refine j_isub hC dX4_isSign_17 ?_
    refine j_callS1 (ar := 3) hC hR (c_X4_isIn (hlJ hC) g σ s 0 (((σ).2 11 l) - 1) (by omega)) [] rfl (by decide) (by decide +kernel) rfl wd630 wd631 wd4 wd632 (by decide) (Nat.le_of_ble_eq_true rfl) dX4_isSign_18 ?_
    refine j_ifb_eq (tgt := 28) hC dX4_isSign_21 (by decide) (fun h21 => ?_) (fun h21 => ?_)
    · refine j_iconst hC dX4_isSign_28 ?_
      exact j_zret hC (by decide) dX4_isSign_29 ⟨by first | rw [if_pos (by omega)] | rw [if_neg (by omega)], rfl⟩
    · refine j_iconst hC dX4_isSign_24 ?_
      refine j_goto (tgt := 29) hC dX4_isSign_25 (by decide) ?_
      exact j_zret hC (by decide) dX4_isSign_29 ⟨by first | rw [if_pos (by omega)] | rw [if_neg (by omega)], rfl⟩
set_option maxHeartbeats 4000000 in
set_option maxRecDepth 100000 in
theorem c_X4_at {L0 : Launch} (hL0 : L0.stackTraces = false) (g : GG) (σ : Sg) (l s : Int) : CN L0 yX4_at cX4_at 2 (some .int) 0 0 0 0 g [vI (l), vI (s)] σ (pt (some (vI (16 * l + s))) (σ)) := by
  refine CN_of (own := RX4) hL0 (by decide) rfl (Nat.le_of_ble_eq_true rfl) (fun mc hC _ hR => ?_)
  refine j_lv (lv2 := [(0, vI (l)), (1, vI (s))]) rfl ?_
  refine j_bipush hC dX4_at_0 (by decide) ?_
  refine j_iload_n hC dX4_at_2 0 rfl ?_
  refine j_imul hC dX4_at_3 ?_
  refine j_iload_n hC dX4_at_4 1 rfl ?_
  refine j_iadd hC dX4_at_5 ?_
  exact j_iret hC dX4_at_6 ⟨rfl, rfl⟩
set_option maxHeartbeats 4000000 in
set_option maxRecDepth 100000 in
theorem c_X4_stepsOf {L0 : Launch} (hL0 : L0.stackTraces = false) (g : GG) (σ : Sg) (hI : IM σ) (a b : Int) (hx : 0 ≤ a ∧ a < 9 ∧ 0 ≤ b ∧ b < 9) : CN L0 yX4_stepsOf cX4_stepsOf 3 (some .int) 1 20 0 0 g [.ref (gd g (19)), vI (a), vI (b)] σ (pt (some (vI (stp (σ.2 17) a b))) (σ)) := by
  refine CN_of (own := RX4) hL0 (by decide) rfl (Nat.le_of_ble_eq_true rfl) (fun mc hC _ hR => ?_)
  refine j_lv (lv2 := [(0, .ref (gd g (19))), (1, vI (a)), (2, vI (b))]) rfl ?_
  have hg1 := hI.2.2.2.2.2.2.2.2 a (by omega) (by omega)
  have hg2 := hI.2.2.2.2.2.2.2.2 b (by omega) (by omega)
  refine j_aload_n hC dX4_stepsOf_0 0 rfl ?_
  refine j_get hC inX4 rfl 19 rfl 8 (by decide) wd590 rfl dX4_stepsOf_1 ?_
  refine j_iload_n hC dX4_stepsOf_4 1 rfl ?_
  refine j_iald hC 26 rfl (by omega) dX4_stepsOf_5 ?_
  refine j_aload_n hC dX4_stepsOf_6 0 rfl ?_
  refine j_get hC inX4 rfl 19 rfl 8 (by decide) wd590 rfl dX4_stepsOf_7 ?_
  refine j_iload_n hC dX4_stepsOf_10 2 rfl ?_
  refine j_iald hC 26 rfl (by omega) dX4_stepsOf_11 ?_
  refine j_icmp_ne (tgt := 19) hC dX4_stepsOf_12 (by decide) (by omega) (fun h12 => ?_) (fun h12 => ?_)
  · refine j_iload_n hC dX4_stepsOf_19 1 rfl ?_
    refine j_iconst hC dX4_stepsOf_20 ?_
    refine j_idiv hC dX4_stepsOf_21 (by omega) ?_
    refine j_iload_n hC dX4_stepsOf_22 2 rfl ?_
    refine j_iconst hC dX4_stepsOf_23 ?_
    refine j_idiv hC dX4_stepsOf_24 (by omega) ?_
    refine j_isub hC dX4_stepsOf_25 ?_
    refine j_abs hC hR wd697 ⟨by decide, Nat.le_of_ble_eq_true rfl⟩ (by decide) (by omega) dX4_stepsOf_26 ?_
    refine j_iload_n hC dX4_stepsOf_29 1 rfl ?_
    refine j_iconst hC dX4_stepsOf_30 ?_
    refine j_irem hC dX4_stepsOf_31 (by omega) ?_
    refine j_iload_n hC dX4_stepsOf_32 2 rfl ?_
    refine j_iconst hC dX4_stepsOf_33 ?_
    refine j_irem hC dX4_stepsOf_34 (by omega) ?_
    refine j_isub hC dX4_stepsOf_35 ?_
    refine j_abs hC hR wd697 ⟨by decide, Nat.le_of_ble_eq_true rfl⟩ (by decide) (by omega) dX4_stepsOf_36 ?_
    refine j_iadd hC dX4_stepsOf_39 ?_
    exact j_iret hC dX4_stepsOf_40 ⟨by unfold stp ab; first | rw [if_pos h12] | rw [if_neg h12], rfl⟩
  · refine j_iconst hC dX4_stepsOf_15 ?_
    refine j_goto (tgt := 40) hC dX4_stepsOf_16 (by decide) ?_
    exact j_iret hC dX4_stepsOf_40 ⟨by unfold stp ab; first | rw [if_pos h12] | rw [if_neg h12], rfl⟩
set_option maxHeartbeats 4000000 in
set_option maxRecDepth 100000 in
theorem lp_far {mc : MC} {g : GG} {σ : Sg} (hC : Cx mc g cX4_far RX4 8 (some .int)) (hR : mR mc = rmJ 2 42 0 0) (s t p m k : Int) : ∀ (d : Nat) (r : Int) (a : Int), (0 ≤ r ∧ r < ((2 ^ d : Nat) : Int)) → (d ≤ 4) → J mc g 0 0 (QN mc g (pt (some (vI (a + popd d r))) (σ)) 0 0) 60 [(7, vI (r)), (6, vI (a)), (0, .ref (gd g (19))), (1, vI (s)), (2, vI (t)), (3, vI (p)), (4, vI (m)), (5, vI (k))] [] σ := by
  intro d
  induction d with
  | zero =>
    intro r a hr hd
    have hp : (2 ^ 0 : Nat) = 1 := rfl
    refine j_iload hC dX4_far_60 0 rfl ?_
    refine j_if_le (tgt := 83) hC dX4_far_62 (by decide) (by omega) (fun _ => ?_) (fun h => absurd h (by omega))
    refine j_iload hC dX4_far_83 1 rfl ?_
    exact j_iret hC dX4_far_85 ⟨by rw [show popd 0 r = 0 from rfl, Int.add_zero], rfl⟩
  | succ d ih =>
    intro r a hr hd
    have hp : (2 ^ (d + 1) : Nat) = 2 ^ d * 2 := Nat.pow_succ 2 d
    have hp4 : (2 ^ d : Nat) ≤ 8 := by
      rcases (show d = 0 ∨ d = 1 ∨ d = 2 ∨ d = 3 by omega) with rfl | rfl | rfl | rfl <;> decide
    generalize hP : (2 ^ d : Nat) = P at *
    rw [hp] at hr
    refine j_iload hC dX4_far_60 0 rfl ?_
    refine j_if_le (tgt := 83) hC dX4_far_62 (by decide) (by omega) (fun h62 => ?_) (fun h62 => ?_)
    · refine j_iload hC dX4_far_83 1 rfl ?_
      exact j_iret hC dX4_far_85 ⟨by rw [show r = 0 by omega, popd_0, Int.add_zero], rfl⟩
    · refine j_iload hC dX4_far_65 1 rfl ?_
      refine j_iload hC dX4_far_67 0 rfl ?_
      refine j_iconst hC dX4_far_69 ?_
      refine j_irem hC dX4_far_70 (by omega) ?_
      refine j_iadd hC dX4_far_71 ?_
      refine j_istore hC dX4_far_72 [(6, vI (a + (r % 2))), (7, vI (r)), (0, .ref (gd g (19))), (1, vI (s)), (2, vI (t)), (3, vI (p)), (4, vI (m)), (5, vI (k))] (by decide) rfl ?_
      refine j_iload hC dX4_far_74 1 rfl ?_
      refine j_iconst hC dX4_far_76 ?_
      refine j_idiv hC dX4_far_77 (by omega) ?_
      refine j_istore hC dX4_far_78 [(7, vI (r / 2)), (6, vI (a + (r % 2))), (0, .ref (gd g (19))), (1, vI (s)), (2, vI (t)), (3, vI (p)), (4, vI (m)), (5, vI (k))] (by decide) rfl ?_
      refine j_goto (tgt := 60) hC dX4_far_80 (by decide) ?_
      refine j_sub [0, 1, 2, 3, 4, 5, 6, 7] rfl ?_
      rw [show a + popd (d + 1) r = a + r % 2 + popd d (r / 2) from (Int.add_assoc a (r % 2) (popd d (r / 2))).symm]
      exact ih (r / 2) (a + r % 2) (by omega) (by omega)
set_option maxHeartbeats 4000000 in
set_option maxRecDepth 100000 in
theorem c_X4_far {L0 : Launch} (hL0 : L0.stackTraces = false) (g : GG) (σ : Sg) (hI : IM σ) (s t p m k : Int) (hx : 0 ≤ s ∧ s < 16 ∧ 0 ≤ t ∧ t < 4 ∧ 0 ≤ p ∧ p < 9 ∧ 0 ≤ m ∧ m < 4) (hk : 0 ≤ k ∧ k < 64) : CN L0 yX4_far cX4_far 8 (some .int) 2 42 0 0 g [.ref (gd g (19)), vI (s), vI (t), vI (p), vI (m), vI (k)] σ (pt (some (vI (dst (σ.2 17) (mkL s t p m) (lkM σ k)))) (σ)) := by
  refine CN_of (own := RX4) hL0 (by decide) rfl (Nat.le_of_ble_eq_true rfl) (fun mc hC _ hR => ?_)
  refine j_lv (lv2 := [(0, .ref (gd g (19))), (1, vI (s)), (2, vI (t)), (3, vI (p)), (4, vI (m)), (5, vI (k))]) rfl ?_
  have hm := lkM_in hI hk
  have hxr := xr_rg (a := s) (b := σ.2 12 k) (by omega)
  refine j_aload_n hC dX4_far_0 0 rfl ?_
  refine j_iload_n hC dX4_far_1 3 rfl ?_
  refine j_aload_n hC dX4_far_2 0 rfl ?_
  refine j_get hC inX4 rfl 19 rfl 5 (by decide) wd587 rfl dX4_far_3 ?_
  refine j_iload hC dX4_far_6 5 rfl ?_
  refine j_iald hC 23 rfl (by omega) dX4_far_8 ?_
  refine j_callV1 (ar := 2) hC hR (c_X4_stepsOf (hlJ hC) g σ hI p ((σ).2 14 k) (by omega)) [] rfl 19 rfl rfl rfl (by decide) (by decide +kernel) rfl wd693 wd695 wp39 wd4 wd696 (by decide) (Nat.le_of_ble_eq_true rfl) dX4_far_9 ?_
  refine j_iload_n hC dX4_far_12 2 rfl ?_
  refine j_aload_n hC dX4_far_13 0 rfl ?_
  refine j_get hC inX4 rfl 19 rfl 4 (by decide) wd586 rfl dX4_far_14 ?_
  refine j_iload hC dX4_far_17 5 rfl ?_
  refine j_iald hC 22 rfl (by omega) dX4_far_19 ?_
  suffices K28 : J mc g 0 0 (QN mc g (pt (some (vI (dst (σ.2 17) (mkL s t p m) (lkM σ k)))) (σ)) 0 0) 28 [(0, .ref (gd g (19))), (1, vI (s)), (2, vI (t)), (3, vI (p)), (4, vI (m)), (5, vI (k))] [vI (if t = σ.2 13 k then 0 else 1), vI (stp (σ.2 17) p ((σ).2 14 k))] σ by
    refine j_icmp_ne (tgt := 27) hC dX4_far_20 (by decide) (by omega) (fun h20 => ?_) (fun h20 => ?_)
    · refine j_iconst hC dX4_far_27 ?_
      exact (by first | (rw [if_pos h20] at K28; exact K28) | (rw [if_neg h20] at K28; exact K28) | (rw [if_neg (fun z => h20 z.symm)] at K28; exact K28))
    · refine j_iconst hC dX4_far_23 ?_
      refine j_goto (tgt := 28) hC dX4_far_24 (by decide) ?_
      exact (by first | (rw [if_pos h20] at K28; exact K28) | (rw [if_neg h20] at K28; exact K28) | (rw [if_neg (fun z => h20 z.symm)] at K28; exact K28))
  refine j_iadd hC dX4_far_28 ?_
  refine j_iload hC dX4_far_29 4 rfl ?_
  refine j_aload_n hC dX4_far_31 0 rfl ?_
  refine j_get hC inX4 rfl 19 rfl 6 (by decide) wd588 rfl dX4_far_32 ?_
  refine j_iload hC dX4_far_35 5 rfl ?_
  refine j_iald hC 24 rfl (by omega) dX4_far_37 ?_
  suffices K46 : J mc g 0 0 (QN mc g (pt (some (vI (dst (σ.2 17) (mkL s t p m) (lkM σ k)))) (σ)) 0 0) 46 [(0, .ref (gd g (19))), (1, vI (s)), (2, vI (t)), (3, vI (p)), (4, vI (m)), (5, vI (k))] [vI (if m = σ.2 15 k then 0 else 2), vI ((stp (σ.2 17) p ((σ).2 14 k)) + (if t = σ.2 13 k then 0 else 1))] σ by
    refine j_icmp_ne (tgt := 45) hC dX4_far_38 (by decide) (by omega) (fun h38 => ?_) (fun h38 => ?_)
    · refine j_iconst hC dX4_far_45 ?_
      exact (by first | (rw [if_pos h38] at K46; exact K46) | (rw [if_neg h38] at K46; exact K46) | (rw [if_neg (fun z => h38 z.symm)] at K46; exact K46))
    · refine j_iconst hC dX4_far_41 ?_
      refine j_goto (tgt := 46) hC dX4_far_42 (by decide) ?_
      exact (by first | (rw [if_pos h38] at K46; exact K46) | (rw [if_neg h38] at K46; exact K46) | (rw [if_neg (fun z => h38 z.symm)] at K46; exact K46))
  refine j_iadd hC dX4_far_46 ?_
  refine j_istore hC dX4_far_47 [(6, vI (((stp (σ.2 17) p ((σ).2 14 k)) + (if t = σ.2 13 k then 0 else 1)) + (if m = σ.2 15 k then 0 else 2))), (0, .ref (gd g (19))), (1, vI (s)), (2, vI (t)), (3, vI (p)), (4, vI (m)), (5, vI (k))] (by decide) rfl ?_
  refine j_iload_n hC dX4_far_49 2 rfl ?_
  refine j_aload_n hC dX4_far_50 1 rfl ?_
  refine j_get hC inX4 rfl 19 rfl 3 (by decide) wd585 rfl dX4_far_51 ?_
  refine j_iload hC dX4_far_54 6 rfl ?_
  refine j_iald hC 21 rfl (by omega) dX4_far_56 ?_
  refine j_ixor (r := xr s (σ.2 12 k)) hC dX4_far_57 (xr_iI (by omega)) ?_
  refine j_istore hC dX4_far_58 [(7, vI (xr s (σ.2 12 k))), (6, vI (((stp (σ.2 17) p ((σ).2 14 k)) + (if t = σ.2 13 k then 0 else 1)) + (if m = σ.2 15 k then 0 else 2))), (0, .ref (gd g (19))), (1, vI (s)), (2, vI (t)), (3, vI (p)), (4, vI (m)), (5, vI (k))] (by decide) rfl ?_
  refine j_sub [0, 1, 2, 3, 4, 5, 6, 7] rfl ?_
  have e : dst (σ.2 17) (mkL s t p m) (lkM σ k) = (((stp (σ.2 17) p ((σ).2 14 k)) + (if t = σ.2 13 k then 0 else 1)) + (if m = σ.2 15 k then 0 else 2)) + popd 4 (xr s (σ.2 12 k)) := (dst_mk hx hm).trans (by rw [popd_4])
  rw [e]
  exact lp_far hC hR s t p m k 4 _ _ (by have : ((2 ^ 4 : Nat) : Int) = 16 := rfl; omega) (by omega)
set_option maxHeartbeats 4000000 in
set_option maxRecDepth 100000 in
theorem c_X4_far2 {L0 : Launch} (hL0 : L0.stackTraces = false) (g : GG) (σ : Sg) (hI : IM σ) (j k : Int) (hx : 0 ≤ j ∧ j < 64 ∧ 0 ≤ k ∧ k < 64) : CN L0 yX4_far_ cX4_far_ 3 (some .int) 3 69 0 0 g [.ref (gd g (19)), vI (j), vI (k)] σ (pt (some (vI (dst (σ.2 17) (lkM σ j) (lkM σ k)))) (σ)) := by
  refine CN_of (own := RX4) hL0 (by decide) rfl (Nat.le_of_ble_eq_true rfl) (fun mc hC _ hR => ?_)
  refine j_lv (lv2 := [(0, .ref (gd g (19))), (1, vI (j)), (2, vI (k))]) rfl ?_
  have hj := lkM_in hI (k := j) (by omega)
  refine j_aload_n hC dX4_far__0 0 rfl ?_
  refine j_aload_n hC dX4_far__1 0 rfl ?_
  refine j_get hC inX4 rfl 19 rfl 3 (by decide) wd585 rfl dX4_far__2 ?_
  refine j_iload_n hC dX4_far__5 1 rfl ?_
  refine j_iald hC 21 rfl (by omega) dX4_far__6 ?_
  refine j_aload_n hC dX4_far__7 0 rfl ?_
  refine j_get hC inX4 rfl 19 rfl 4 (by decide) wd586 rfl dX4_far__8 ?_
  refine j_iload_n hC dX4_far__11 1 rfl ?_
  refine j_iald hC 22 rfl (by omega) dX4_far__12 ?_
  refine j_aload_n hC dX4_far__13 0 rfl ?_
  refine j_get hC inX4 rfl 19 rfl 5 (by decide) wd587 rfl dX4_far__14 ?_
  refine j_iload_n hC dX4_far__17 1 rfl ?_
  refine j_iald hC 23 rfl (by omega) dX4_far__18 ?_
  refine j_aload_n hC dX4_far__19 0 rfl ?_
  refine j_get hC inX4 rfl 19 rfl 6 (by decide) wd588 rfl dX4_far__20 ?_
  refine j_iload_n hC dX4_far__23 1 rfl ?_
  refine j_iald hC 24 rfl (by omega) dX4_far__24 ?_
  refine j_iload_n hC dX4_far__25 2 rfl ?_
  refine j_callV1 (ar := 5) hC hR (c_X4_far (hlJ hC) g σ hI ((σ).2 12 j) ((σ).2 13 j) ((σ).2 14 j) ((σ).2 15 j) k (by omega) (by omega)) [] rfl 19 rfl rfl rfl (by decide) (by decide +kernel) rfl wd689 wd691 wp38 wd4 wd692 (by decide) (Nat.le_of_ble_eq_true rfl) dX4_far__26 ?_
  exact j_iret hC dX4_far__29 ⟨rfl, rfl⟩
set_option maxHeartbeats 4000000 in
set_option maxRecDepth 100000 in
theorem lp_signOf {mc : MC} {g : GG} {σ : Sg} (hC : Cx mc g cX4_signOf RX4 4 (some .int)) (hR : mR mc = rmJ 1 21 0 0) (hI : IM σ) (l x : Int) (hl : 0 ≤ l ∧ l < 4) (hx : -2147483648 ≤ x ∧ x < 2147483648) : ∀ (d : Nat) (z : Int), (0 ≤ z) → (z + (d : Int) = σ.2 11 l) → J mc g 0 0 (QN mc g (pt (some (vI (fnd (fun z => σ.2 16 (16 * l + z)) x d z))) (σ)) 0 0) 2 [(3, vI (z)), (0, .ref (gd g (19))), (1, vI (l)), (2, vI (x))] [] σ := by
  intro d
  induction d with
  | zero =>
    intro z h0 hz
    have hn := hI.2.2.1 l hl.1 hl.2
    refine j_iload_n hC dX4_signOf_2 0 rfl ?_
    refine j_aload_n hC dX4_signOf_3 1 rfl ?_
    refine j_get hC inX4 rfl 19 rfl 2 (by decide) wd584 rfl dX4_signOf_4 ?_
    refine j_iload_n hC dX4_signOf_7 2 rfl ?_
    refine j_iald hC 20 rfl (by omega) dX4_signOf_8 ?_
    refine j_icmp_ge (tgt := 34) hC dX4_signOf_9 (by decide) (by omega) (fun _ => ?_) (fun h => absurd h (by omega))
    refine j_iconst hC dX4_signOf_34 ?_
    exact j_iret hC dX4_signOf_35 ⟨rfl, rfl⟩
  | succ d ih =>
    intro z h0 hz
    have hn := hI.2.2.1 l hl.1 hl.2
    have hm := hI.2.2.2.2.2.2.2.1 (16 * l + z) (by omega) (by omega)
    rw [show fnd (fun z => σ.2 16 (16 * l + z)) x (d + 1) z = if σ.2 16 (16 * l + z) = x then z else fnd (fun z => σ.2 16 (16 * l + z)) x d (z + 1) from rfl]
    refine j_iload_n hC dX4_signOf_2 0 rfl ?_
    refine j_aload_n hC dX4_signOf_3 1 rfl ?_
    refine j_get hC inX4 rfl 19 rfl 2 (by decide) wd584 rfl dX4_signOf_4 ?_
    refine j_iload_n hC dX4_signOf_7 2 rfl ?_
    refine j_iald hC 20 rfl (by omega) dX4_signOf_8 ?_
    refine j_icmp_ge (tgt := 34) hC dX4_signOf_9 (by decide) (by omega) (fun h => absurd h (by omega)) (fun _ => ?_)
    refine j_aload_n hC dX4_signOf_12 1 rfl ?_
    refine j_get hC inX4 rfl 19 rfl 7 (by decide) wd589 rfl dX4_signOf_13 ?_
    refine j_iload_n hC dX4_signOf_16 2 rfl ?_
    refine j_iload_n hC dX4_signOf_17 0 rfl ?_
    refine j_callS1 (ar := 2) hC hR (c_X4_at (hlJ hC) g σ l z ) [.ref (gd g (25))] rfl (by decide) (by decide +kernel) rfl wd643 wd644 wd4 wd645 (by decide) (Nat.le_of_ble_eq_true rfl) dX4_signOf_18 ?_
    refine j_iald hC 25 rfl (by omega) dX4_signOf_21 ?_
    refine j_iload_n hC dX4_signOf_22 3 rfl ?_
    refine j_icmp_ne (tgt := 28) hC dX4_signOf_23 (by decide) (by omega) (fun h23 => ?_) (fun h23 => ?_)
    · refine j_iinc hC dX4_signOf_28 0 [(3, vI (z + 1)), (0, .ref (gd g (19))), (1, vI (l)), (2, vI (x))] rfl (by decide) rfl ?_
      refine j_goto (tgt := 2) hC dX4_signOf_31 (by decide) ?_
      refine j_sub [0, 1, 2, 3] rfl ?_
      rw [if_neg h23]
      exact ih (z + 1) (by omega) (by omega)
    · refine j_iload_n hC dX4_signOf_26 0 rfl ?_
      exact j_iret hC dX4_signOf_27 ⟨by rw [if_pos h23], rfl⟩
set_option maxHeartbeats 4000000 in
set_option maxRecDepth 100000 in
theorem c_X4_signOf {L0 : Launch} (hL0 : L0.stackTraces = false) (g : GG) (σ : Sg) (hI : IM σ) (l x : Int) (hl : 0 ≤ l ∧ l < 4) (hx : -2147483648 ≤ x ∧ x < 2147483648) : CN L0 yX4_signOf cX4_signOf 4 (some .int) 1 21 0 0 g [.ref (gd g (19)), vI (l), vI (x)] σ (pt (some (vI (sgM σ l x))) (σ)) := by
  refine CN_of (own := RX4) hL0 (by decide) rfl (Nat.le_of_ble_eq_true rfl) (fun mc hC _ hR => ?_)
  refine j_lv (lv2 := [(0, .ref (gd g (19))), (1, vI (l)), (2, vI (x))]) rfl ?_
  have hn := hI.2.2.1 l hl.1 hl.2
  have hn2 := nM_eq hI hl
  refine j_iconst hC dX4_signOf_0 ?_
  refine j_istore_n hC dX4_signOf_1 [(3, vI (0)), (0, .ref (gd g (19))), (1, vI (l)), (2, vI (x))] (by decide) rfl ?_
  refine j_sub [0, 1, 2, 3] rfl ?_
  exact lp_signOf hC hR hI l x hl hx (nM σ l) 0 (by omega) (by omega)
set_option maxHeartbeats 4000000 in
set_option maxRecDepth 100000 in
theorem lp_reads {mc : MC} {g : GG} {σ : Sg} (hC : Cx mc g cX4_reads RX4 10 (some .int)) (hR : mR mc = rmJ 3 69 0 0) (hI : IM σ) (s t p m l : Int) (hx : 0 ≤ s ∧ s < 16 ∧ 0 ≤ t ∧ t < 4 ∧ 0 ≤ p ∧ p < 9 ∧ 0 ≤ m ∧ m < 4) (hl : 0 ≤ l ∧ l < 4) : ∀ (d : Nat) (w : Int) (fw : Int) (q : Int), (16 * l ≤ w) → (w + (d : Int) = 16 * l + σ.2 11 l) → (0 ≤ fw ∧ fw ≤ 4) → J mc g 0 0 (QN mc g (pt (some (vI (mrF (fun k => dst (σ.2 17) (mkL s t p m) (lkM σ k)) (σ.2 16) d w fw q))) (σ)) 0 0) 14 [(8, vI (w)), (6, vI (fw)), (7, vI (q)), (0, .ref (gd g (19))), (1, vI (s)), (2, vI (t)), (3, vI (p)), (4, vI (m)), (5, vI (l))] [] σ := by
  intro d
  induction d with
  | zero =>
    intro w fw q h0 hz hf
    have hn := hI.2.2.1 l hl.1 hl.2
    refine j_iload hC dX4_reads_14 0 rfl ?_
    refine j_iload hC dX4_reads_16 8 rfl ?_
    refine j_aload_n hC dX4_reads_18 3 rfl ?_
    refine j_get hC inX4 rfl 19 rfl 2 (by decide) wd584 rfl dX4_reads_19 ?_
    refine j_iload hC dX4_reads_22 8 rfl ?_
    refine j_iald hC 20 rfl (by omega) dX4_reads_24 ?_
    refine j_callS1 (ar := 2) hC hR (c_X4_at (hlJ hC) g σ l ((σ).2 11 l) ) [vI (w)] rfl (by decide) (by decide +kernel) rfl wd643 wd644 wd4 wd645 (by decide) (Nat.le_of_ble_eq_true rfl) dX4_reads_25 ?_
    refine j_icmp_ge (tgt := 83) hC dX4_reads_28 (by decide) (by omega) (fun _ => ?_) (fun h => absurd h (by omega))
    refine j_iload hC dX4_reads_83 2 rfl ?_
    exact j_iret hC dX4_reads_85 ⟨rfl, rfl⟩
  | succ d ih =>
    intro w fw q h0 hz hf
    have hn := hI.2.2.1 l hl.1 hl.2
    have hmk := mkL_rg hx
    have hmL := lkM_rg hI (k := w) (by omega)
    have hd := dst_rg (G := σ.2 17) (x := mkL s t p m) (y := lkM σ w) ⟨hmk.1, hmk.2, hmL.1, hmL.2⟩
    rw [show mrF (fun k => dst (σ.2 17) (mkL s t p m) (lkM σ k)) (σ.2 16) (d + 1) w fw q = if dst (σ.2 17) (mkL s t p m) (lkM σ w) < fw then mrF (fun k => dst (σ.2 17) (mkL s t p m) (lkM σ k)) (σ.2 16) d (w + 1) (dst (σ.2 17) (mkL s t p m) (lkM σ w)) (σ.2 16 w) else if dst (σ.2 17) (mkL s t p m) (lkM σ w) = fw then mrF (fun k => dst (σ.2 17) (mkL s t p m) (lkM σ k)) (σ.2 16) d (w + 1) fw (-1) else mrF (fun k => dst (σ.2 17) (mkL s t p m) (lkM σ k)) (σ.2 16) d (w + 1) fw q from rfl]
    refine j_iload hC dX4_reads_14 0 rfl ?_
    refine j_iload hC dX4_reads_16 8 rfl ?_
    refine j_aload_n hC dX4_reads_18 3 rfl ?_
    refine j_get hC inX4 rfl 19 rfl 2 (by decide) wd584 rfl dX4_reads_19 ?_
    refine j_iload hC dX4_reads_22 8 rfl ?_
    refine j_iald hC 20 rfl (by omega) dX4_reads_24 ?_
    refine j_callS1 (ar := 2) hC hR (c_X4_at (hlJ hC) g σ l ((σ).2 11 l) ) [vI (w)] rfl (by decide) (by decide +kernel) rfl wd643 wd644 wd4 wd645 (by decide) (Nat.le_of_ble_eq_true rfl) dX4_reads_25 ?_
    refine j_icmp_ge (tgt := 83) hC dX4_reads_28 (by decide) (by omega) (fun h => absurd h (by omega)) (fun _ => ?_)
    refine j_aload_n hC dX4_reads_31 3 rfl ?_
    refine j_iload_n hC dX4_reads_32 4 rfl ?_
    refine j_iload_n hC dX4_reads_33 5 rfl ?_
    refine j_iload_n hC dX4_reads_34 6 rfl ?_
    refine j_iload hC dX4_reads_35 7 rfl ?_
    refine j_iload hC dX4_reads_37 0 rfl ?_
    refine j_callV1 (ar := 5) hC hR (c_X4_far (hlJ hC) g σ hI s t p m w (by omega) (by omega)) [] rfl 19 rfl rfl rfl (by decide) (by decide +kernel) rfl wd689 wd691 wp38 wd4 wd692 (by decide) (Nat.le_of_ble_eq_true rfl) dX4_reads_39 ?_
    refine j_istore hC dX4_reads_42 [(9, vI (dst (σ.2 17) (mkL s t p m) (lkM σ w))), (8, vI (w)), (6, vI (fw)), (7, vI (q)), (0, .ref (gd g (19))), (1, vI (s)), (2, vI (t)), (3, vI (p)), (4, vI (m)), (5, vI (l))] (by decide) rfl ?_
    refine j_iload hC dX4_reads_44 0 rfl ?_
    refine j_iload hC dX4_reads_46 2 rfl ?_
    refine j_icmp_ne (tgt := 54) hC dX4_reads_48 (by decide) (by omega) (fun h48 => ?_) (fun h48 => ?_)
    · refine j_iload hC dX4_reads_54 0 rfl ?_
      refine j_iload hC dX4_reads_56 2 rfl ?_
      refine j_icmp_lt (tgt := 64) hC dX4_reads_58 (by decide) (by omega) (fun h58 => ?_) (fun h58 => ?_)
      · refine j_iload hC dX4_reads_64 0 rfl ?_
        refine j_istore hC dX4_reads_66 [(6, vI (dst (σ.2 17) (mkL s t p m) (lkM σ w))), (9, vI (dst (σ.2 17) (mkL s t p m) (lkM σ w))), (8, vI (w)), (7, vI (q)), (0, .ref (gd g (19))), (1, vI (s)), (2, vI (t)), (3, vI (p)), (4, vI (m)), (5, vI (l))] (by decide) rfl ?_
        refine j_aload_n hC dX4_reads_68 4 rfl ?_
        refine j_get hC inX4 rfl 19 rfl 7 (by decide) wd589 rfl dX4_reads_69 ?_
        refine j_iload hC dX4_reads_72 2 rfl ?_
        refine j_iald hC 25 rfl (by omega) dX4_reads_74 ?_
        refine j_istore hC dX4_reads_75 [(7, vI ((σ).2 16 w)), (6, vI (dst (σ.2 17) (mkL s t p m) (lkM σ w))), (9, vI (dst (σ.2 17) (mkL s t p m) (lkM σ w))), (8, vI (w)), (0, .ref (gd g (19))), (1, vI (s)), (2, vI (t)), (3, vI (p)), (4, vI (m)), (5, vI (l))] (by decide) rfl ?_
        refine j_iinc hC dX4_reads_77 3 [(8, vI (w + 1)), (7, vI ((σ).2 16 w)), (6, vI (dst (σ.2 17) (mkL s t p m) (lkM σ w))), (9, vI (dst (σ.2 17) (mkL s t p m) (lkM σ w))), (0, .ref (gd g (19))), (1, vI (s)), (2, vI (t)), (3, vI (p)), (4, vI (m)), (5, vI (l))] rfl (by decide) rfl ?_
        refine j_goto (tgt := 14) hC dX4_reads_80 (by decide) ?_
        refine j_sub [0, 2, 1, 4, 5, 6, 7, 8, 9] rfl ?_
        first | (rw [if_pos (show dst (σ.2 17) (mkL s t p m) (lkM σ w) < fw by omega)]; exact ih (w + 1) _ _ (by omega) (by omega) (by omega)) | (rw [if_neg (show ¬ dst (σ.2 17) (mkL s t p m) (lkM σ w) < fw by omega), if_pos h48]; exact ih (w + 1) fw (-1) (by omega) (by omega) hf) | (rw [if_neg (show ¬ dst (σ.2 17) (mkL s t p m) (lkM σ w) < fw by omega), if_neg h48]; exact ih (w + 1) fw q (by omega) (by omega) hf) | (exact absurd h48 (by omega))
      · refine j_goto (tgt := 77) hC dX4_reads_61 (by decide) ?_
        refine j_iinc hC dX4_reads_77 1 [(8, vI (w + 1)), (9, vI (dst (σ.2 17) (mkL s t p m) (lkM σ w))), (6, vI (fw)), (7, vI (q)), (0, .ref (gd g (19))), (1, vI (s)), (2, vI (t)), (3, vI (p)), (4, vI (m)), (5, vI (l))] rfl (by decide) rfl ?_
        refine j_goto (tgt := 14) hC dX4_reads_80 (by decide) ?_
        refine j_sub [0, 2, 3, 4, 5, 6, 7, 8, 9] rfl ?_
        first | (rw [if_pos (show dst (σ.2 17) (mkL s t p m) (lkM σ w) < fw by omega)]; exact ih (w + 1) _ _ (by omega) (by omega) (by omega)) | (rw [if_neg (show ¬ dst (σ.2 17) (mkL s t p m) (lkM σ w) < fw by omega), if_pos h48]; exact ih (w + 1) fw (-1) (by omega) (by omega) hf) | (rw [if_neg (show ¬ dst (σ.2 17) (mkL s t p m) (lkM σ w) < fw by omega), if_neg h48]; exact ih (w + 1) fw q (by omega) (by omega) hf) | (exact absurd h48 (by omega))
    · refine j_iconst hC dX4_reads_51 ?_
      refine j_istore hC dX4_reads_52 [(7, vI (-1)), (9, vI (dst (σ.2 17) (mkL s t p m) (lkM σ w))), (8, vI (w)), (6, vI (fw)), (0, .ref (gd g (19))), (1, vI (s)), (2, vI (t)), (3, vI (p)), (4, vI (m)), (5, vI (l))] (by decide) rfl ?_
      refine j_iload hC dX4_reads_54 1 rfl ?_
      refine j_iload hC dX4_reads_56 3 rfl ?_
      refine j_icmp_lt (tgt := 64) hC dX4_reads_58 (by decide) (by omega) (fun h58 => ?_) (fun h58 => ?_)
      · refine j_iload hC dX4_reads_64 1 rfl ?_
        refine j_istore hC dX4_reads_66 [(6, vI (dst (σ.2 17) (mkL s t p m) (lkM σ w))), (7, vI (-1)), (9, vI (dst (σ.2 17) (mkL s t p m) (lkM σ w))), (8, vI (w)), (0, .ref (gd g (19))), (1, vI (s)), (2, vI (t)), (3, vI (p)), (4, vI (m)), (5, vI (l))] (by decide) rfl ?_
        refine j_aload_n hC dX4_reads_68 4 rfl ?_
        refine j_get hC inX4 rfl 19 rfl 7 (by decide) wd589 rfl dX4_reads_69 ?_
        refine j_iload hC dX4_reads_72 3 rfl ?_
        refine j_iald hC 25 rfl (by omega) dX4_reads_74 ?_
        refine j_istore hC dX4_reads_75 [(7, vI ((σ).2 16 w)), (6, vI (dst (σ.2 17) (mkL s t p m) (lkM σ w))), (9, vI (dst (σ.2 17) (mkL s t p m) (lkM σ w))), (8, vI (w)), (0, .ref (gd g (19))), (1, vI (s)), (2, vI (t)), (3, vI (p)), (4, vI (m)), (5, vI (l))] (by decide) rfl ?_
        refine j_iinc hC dX4_reads_77 3 [(8, vI (w + 1)), (7, vI ((σ).2 16 w)), (6, vI (dst (σ.2 17) (mkL s t p m) (lkM σ w))), (9, vI (dst (σ.2 17) (mkL s t p m) (lkM σ w))), (0, .ref (gd g (19))), (1, vI (s)), (2, vI (t)), (3, vI (p)), (4, vI (m)), (5, vI (l))] rfl (by decide) rfl ?_
        refine j_goto (tgt := 14) hC dX4_reads_80 (by decide) ?_
        refine j_sub [0, 2, 1, 4, 5, 6, 7, 8, 9] rfl ?_
        first | (rw [if_pos (show dst (σ.2 17) (mkL s t p m) (lkM σ w) < fw by omega)]; exact ih (w + 1) _ _ (by omega) (by omega) (by omega)) | (rw [if_neg (show ¬ dst (σ.2 17) (mkL s t p m) (lkM σ w) < fw by omega), if_pos h48]; exact ih (w + 1) fw (-1) (by omega) (by omega) hf) | (rw [if_neg (show ¬ dst (σ.2 17) (mkL s t p m) (lkM σ w) < fw by omega), if_neg h48]; exact ih (w + 1) fw q (by omega) (by omega) hf) | (exact absurd h48 (by omega))
      · refine j_goto (tgt := 77) hC dX4_reads_61 (by decide) ?_
        refine j_iinc hC dX4_reads_77 2 [(8, vI (w + 1)), (7, vI (-1)), (9, vI (dst (σ.2 17) (mkL s t p m) (lkM σ w))), (6, vI (fw)), (0, .ref (gd g (19))), (1, vI (s)), (2, vI (t)), (3, vI (p)), (4, vI (m)), (5, vI (l))] rfl (by decide) rfl ?_
        refine j_goto (tgt := 14) hC dX4_reads_80 (by decide) ?_
        refine j_sub [0, 3, 1, 4, 5, 6, 7, 8, 9] rfl ?_
        first | (rw [if_pos (show dst (σ.2 17) (mkL s t p m) (lkM σ w) < fw by omega)]; exact ih (w + 1) _ _ (by omega) (by omega) (by omega)) | (rw [if_neg (show ¬ dst (σ.2 17) (mkL s t p m) (lkM σ w) < fw by omega), if_pos h48]; exact ih (w + 1) fw (-1) (by omega) (by omega) hf) | (rw [if_neg (show ¬ dst (σ.2 17) (mkL s t p m) (lkM σ w) < fw by omega), if_neg h48]; exact ih (w + 1) fw q (by omega) (by omega) hf) | (exact absurd h48 (by omega))
set_option maxHeartbeats 4000000 in
set_option maxRecDepth 100000 in
theorem c_X4_reads {L0 : Launch} (hL0 : L0.stackTraces = false) (g : GG) (σ : Sg) (hI : IM σ) (s t p m l : Int) (hx : 0 ≤ s ∧ s < 16 ∧ 0 ≤ t ∧ t < 4 ∧ 0 ≤ p ∧ p < 9 ∧ 0 ≤ m ∧ m < 4) (hl : 0 ≤ l ∧ l < 4) : CN L0 yX4_reads cX4_reads 10 (some .int) 3 69 0 0 g [.ref (gd g (19)), vI (s), vI (t), vI (p), vI (m), vI (l)] σ (pt (some (vI (rdM σ (mkL s t p m) l))) (σ)) := by
  refine CN_of (own := RX4) hL0 (by decide) rfl (Nat.le_of_ble_eq_true rfl) (fun mc hC _ hR => ?_)
  refine j_lv (lv2 := [(0, .ref (gd g (19))), (1, vI (s)), (2, vI (t)), (3, vI (p)), (4, vI (m)), (5, vI (l))]) rfl ?_
  have hn := hI.2.2.1 l hl.1 hl.2
  have hn2 := nM_eq hI hl
  refine j_iconst hC dX4_reads_0 ?_
  refine j_istore hC dX4_reads_1 [(6, vI (4)), (0, .ref (gd g (19))), (1, vI (s)), (2, vI (t)), (3, vI (p)), (4, vI (m)), (5, vI (l))] (by decide) rfl ?_
  refine j_iconst hC dX4_reads_3 ?_
  refine j_istore hC dX4_reads_4 [(7, vI (-1)), (6, vI (4)), (0, .ref (gd g (19))), (1, vI (s)), (2, vI (t)), (3, vI (p)), (4, vI (m)), (5, vI (l))] (by decide) rfl ?_
  refine j_iload hC dX4_reads_6 7 rfl ?_
  refine j_iconst hC dX4_reads_8 ?_
  refine j_callS1 (ar := 2) hC hR (c_X4_at (hlJ hC) g σ l 0 ) [] rfl (by decide) (by decide +kernel) rfl wd643 wd644 wd4 wd645 (by decide) (Nat.le_of_ble_eq_true rfl) dX4_reads_9 ?_
  refine j_istore hC dX4_reads_12 [(8, vI (16 * l + 0)), (7, vI (-1)), (6, vI (4)), (0, .ref (gd g (19))), (1, vI (s)), (2, vI (t)), (3, vI (p)), (4, vI (m)), (5, vI (l))] (by decide) rfl ?_
  refine j_sub [0, 2, 1, 3, 4, 5, 6, 7, 8] rfl ?_
  exact lp_reads hC hR hI s t p m l hx hl (nM σ l) _ 4 (-1) (by omega) (by omega) (by omega)
set_option maxHeartbeats 4000000 in
set_option maxRecDepth 100000 in
theorem c_X4_reads2 {L0 : Launch} (hL0 : L0.stackTraces = false) (g : GG) (σ : Sg) (hI : IM σ) (j l : Int) (hj : 0 ≤ j ∧ j < 64) (hl : 0 ≤ l ∧ l < 4) : CN L0 yX4_reads_ cX4_reads_ 3 (some .int) 4 98 0 0 g [.ref (gd g (19)), vI (j), vI (l)] σ (pt (some (vI (rdM σ (lkM σ j) l))) (σ)) := by
  refine CN_of (own := RX4) hL0 (by decide) rfl (Nat.le_of_ble_eq_true rfl) (fun mc hC _ hR => ?_)
  refine j_lv (lv2 := [(0, .ref (gd g (19))), (1, vI (j)), (2, vI (l))]) rfl ?_
  have hm := lkM_in hI hj
  refine j_aload_n hC dX4_reads__0 0 rfl ?_
  refine j_aload_n hC dX4_reads__1 0 rfl ?_
  refine j_get hC inX4 rfl 19 rfl 3 (by decide) wd585 rfl dX4_reads__2 ?_
  refine j_iload_n hC dX4_reads__5 1 rfl ?_
  refine j_iald hC 21 rfl (by omega) dX4_reads__6 ?_
  refine j_aload_n hC dX4_reads__7 0 rfl ?_
  refine j_get hC inX4 rfl 19 rfl 4 (by decide) wd586 rfl dX4_reads__8 ?_
  refine j_iload_n hC dX4_reads__11 1 rfl ?_
  refine j_iald hC 22 rfl (by omega) dX4_reads__12 ?_
  refine j_aload_n hC dX4_reads__13 0 rfl ?_
  refine j_get hC inX4 rfl 19 rfl 5 (by decide) wd587 rfl dX4_reads__14 ?_
  refine j_iload_n hC dX4_reads__17 1 rfl ?_
  refine j_iald hC 23 rfl (by omega) dX4_reads__18 ?_
  refine j_aload_n hC dX4_reads__19 0 rfl ?_
  refine j_get hC inX4 rfl 19 rfl 6 (by decide) wd588 rfl dX4_reads__20 ?_
  refine j_iload_n hC dX4_reads__23 1 rfl ?_
  refine j_iald hC 24 rfl (by omega) dX4_reads__24 ?_
  refine j_iload_n hC dX4_reads__25 2 rfl ?_
  refine j_callV1 (ar := 5) hC hR (c_X4_reads (hlJ hC) g σ hI ((σ).2 12 j) ((σ).2 13 j) ((σ).2 14 j) ((σ).2 15 j) l (by omega) (by omega)) [] rfl 19 rfl rfl rfl (by decide) (by decide +kernel) rfl wd794 wd796 wp48 wd4 wd797 (by decide) (Nat.le_of_ble_eq_true rfl) dX4_reads__26 ?_
  have hf26 := rdM_rg hI (l := l) (by omega) (lkM σ j)
  exact j_iret hC dX4_reads__29 ⟨rfl, rfl⟩
