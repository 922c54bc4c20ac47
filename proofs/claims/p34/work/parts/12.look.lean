set_option maxHeartbeats 4000000 in
set_option maxRecDepth 100000 in
theorem c_X1_shape {l : Launch} (hl : l.stackTraces = false) (g : GG) (σ : Sg) (x : Int) (hx : 0 ≤ x ∧ x < 2304) : CN l yX1_shape cX1_shape 1 (some .int) 0 0 0 0 g [vI (x)] σ (pt (some (vI (x % 16))) (σ)) := by
  refine CN_of (own := RX1) hl (by decide) rfl (Nat.le_of_ble_eq_true rfl) (fun mc hC _ hR => ?_)
  refine j_lv (lv2 := [(0, vI (x))]) rfl ?_
  refine j_iload_n hC dX1_shape_0 0 rfl ?_
  refine j_bipush hC dX1_shape_1 (by decide) ?_
  refine j_iand (r := x % 16) hC dX1_shape_3 (and_iI 4 (by omega) (by omega) (by decide)) ?_
  exact j_iret hC dX1_shape_4 ⟨rfl, rfl⟩
set_option maxHeartbeats 4000000 in
set_option maxRecDepth 100000 in
theorem c_X1_thumb {l : Launch} (hl : l.stackTraces = false) (g : GG) (σ : Sg) (x : Int) (hx : 0 ≤ x ∧ x < 2304) : CN l yX1_thumb cX1_thumb 1 (some .int) 0 0 0 0 g [vI (x)] σ (pt (some (vI (x / 16 % 4))) (σ)) := by
  refine CN_of (own := RX1) hl (by decide) rfl (Nat.le_of_ble_eq_true rfl) (fun mc hC _ hR => ?_)
  refine j_lv (lv2 := [(0, vI (x))]) rfl ?_
  refine j_iload_n hC dX1_thumb_0 0 rfl ?_
  refine j_iconst hC dX1_thumb_1 ?_
  refine j_ishr (r := x / 16) hC dX1_thumb_2 (shr_iI 4 (by omega) (by omega) (by decide)) ?_
  refine j_iconst hC dX1_thumb_3 ?_
  refine j_iand (r := (x / 16) % 4) hC dX1_thumb_4 (and_iI 2 (by omega) (by omega) (by decide)) ?_
  exact j_iret hC dX1_thumb_5 ⟨rfl, rfl⟩
set_option maxHeartbeats 4000000 in
set_option maxRecDepth 100000 in
theorem c_X1_movement {l : Launch} (hl : l.stackTraces = false) (g : GG) (σ : Sg) (x : Int) (hx : 0 ≤ x ∧ x < 2304) : CN l yX1_movement cX1_movement 1 (some .int) 0 0 0 0 g [vI (x)] σ (pt (some (vI (x / 64 % 4))) (σ)) := by
  refine CN_of (own := RX1) hl (by decide) rfl (Nat.le_of_ble_eq_true rfl) (fun mc hC _ hR => ?_)
  refine j_lv (lv2 := [(0, vI (x))]) rfl ?_
  refine j_iload_n hC dX1_movement_0 0 rfl ?_
  refine j_bipush hC dX1_movement_1 (by decide) ?_
  refine j_ishr (r := x / 64) hC dX1_movement_3 (shr_iI 6 (by omega) (by omega) (by decide)) ?_
  refine j_iconst hC dX1_movement_4 ?_
  refine j_iand (r := (x / 64) % 4) hC dX1_movement_5 (and_iI 2 (by omega) (by omega) (by decide)) ?_
  exact j_iret hC dX1_movement_6 ⟨rfl, rfl⟩
set_option maxHeartbeats 4000000 in
set_option maxRecDepth 100000 in
theorem c_X1_place {l : Launch} (hl : l.stackTraces = false) (g : GG) (σ : Sg) (x : Int) (hx : 0 ≤ x ∧ x < 2304) : CN l yX1_place cX1_place 1 (some .int) 0 0 0 0 g [vI (x)] σ (pt (some (vI (x / 256))) (σ)) := by
  refine CN_of (own := RX1) hl (by decide) rfl (Nat.le_of_ble_eq_true rfl) (fun mc hC _ hR => ?_)
  refine j_lv (lv2 := [(0, vI (x))]) rfl ?_
  have e : x / 256 % 16 = x / 256 := by omega
  refine j_iload_n hC dX1_place_0 0 rfl ?_
  refine j_bipush hC dX1_place_1 (by decide) ?_
  refine j_ishr (r := x / 256) hC dX1_place_3 (shr_iI 8 (by omega) (by omega) (by decide)) ?_
  refine j_bipush hC dX1_place_4 (by decide) ?_
  refine j_iand (r := (x / 256) % 16) hC dX1_place_6 (and_iI 4 (by omega) (by omega) (by decide)) ?_
  exact j_iret hC dX1_place_7 ⟨congrArg (fun z => some (vI z)) e, rfl⟩
set_option maxHeartbeats 4000000 in
set_option maxRecDepth 100000 in
theorem c_X1_of {l : Launch} (hl : l.stackTraces = false) (g : GG) (σ : Sg) (sh th pl mv : Int) (hx : 0 ≤ sh ∧ sh < 16 ∧ 0 ≤ th ∧ th < 4 ∧ 0 ≤ pl ∧ pl < 9 ∧ 0 ≤ mv ∧ mv < 4) : CN l yX1_of cX1_of 4 (some .int) 0 0 0 0 g [vI (sh), vI (th), vI (pl), vI (mv)] σ (pt (some (vI (mkL sh th pl mv))) (σ)) := by
  refine CN_of (own := RX1) hl (by decide) rfl (Nat.le_of_ble_eq_true rfl) (fun mc hC _ hR => ?_)
  refine j_lv (lv2 := [(0, vI (sh)), (1, vI (th)), (2, vI (pl)), (3, vI (mv))]) rfl ?_
  refine j_iload_n hC dX1_of_0 0 rfl ?_
  refine j_iload_n hC dX1_of_1 1 rfl ?_
  refine j_iconst hC dX1_of_2 ?_
  refine j_ishl (r := th * (2 ^ 4 : Nat)) hC dX1_of_3 (shl_iI 4 (by omega) (by omega) (by decide)) ?_
  refine j_ior (r := sh + 16 * th) hC dX1_of_4 (or16 (by omega)) ?_
  refine j_iload_n hC dX1_of_5 3 rfl ?_
  refine j_bipush hC dX1_of_6 (by decide) ?_
  refine j_ishl (r := mv * (2 ^ 6 : Nat)) hC dX1_of_8 (shl_iI 6 (by omega) (by omega) (by decide)) ?_
  refine j_ior (r := sh + 16 * th + 64 * mv) hC dX1_of_9 (or64 (by omega)) ?_
  refine j_iload_n hC dX1_of_10 2 rfl ?_
  refine j_bipush hC dX1_of_11 (by decide) ?_
  refine j_ishl (r := pl * (2 ^ 8 : Nat)) hC dX1_of_13 (shl_iI 8 (by omega) (by omega) (by decide)) ?_
  refine j_ior (r := mkL sh th pl mv) hC dX1_of_14 (or256 (by omega)) ?_
  exact j_iret hC dX1_of_15 ⟨rfl, rfl⟩
set_option maxHeartbeats 4000000 in
set_option maxRecDepth 100000 in
theorem c_X1_withThumb {l : Launch} (hl : l.stackTraces = false) (g : GG) (σ : Sg) (x t : Int) (hx : 0 ≤ x ∧ x < 2304 ∧ 0 ≤ t ∧ t < 4) : CN l yX1_withThumb cX1_withThumb 2 (some .int) 0 0 0 0 g [vI (x), vI (t)] σ (pt (some (vI (wth x t))) (σ)) := by
  refine CN_of (own := RX1) hl (by decide) rfl (Nat.le_of_ble_eq_true rfl) (fun mc hC _ hR => ?_)
  refine j_lv (lv2 := [(0, vI (x)), (1, vI (t))]) rfl ?_
  refine j_iload_n hC dX1_withThumb_0 0 rfl ?_
  refine j_bipush hC dX1_withThumb_1 (by decide) ?_
  refine j_iand (r := x - 16 * (x / 16 % 4)) hC dX1_withThumb_3 (and49 (by omega)) ?_
  refine j_iload_n hC dX1_withThumb_4 1 rfl ?_
  refine j_iconst hC dX1_withThumb_5 ?_
  refine j_ishl (r := t * (2 ^ 4 : Nat)) hC dX1_withThumb_6 (shl_iI 4 (by omega) (by omega) (by decide)) ?_
  refine j_ior (r := wth x t) hC dX1_withThumb_7 (orT (by omega)) ?_
  exact j_iret hC dX1_withThumb_8 ⟨rfl, rfl⟩
set_option maxHeartbeats 4000000 in
set_option maxRecDepth 100000 in
theorem c_X1_sameButForPlace {l : Launch} (hl : l.stackTraces = false) (g : GG) (σ : Sg) (x y : Int) (hx : 0 ≤ x ∧ x < 2304 ∧ 0 ≤ y ∧ y < 2304) : CN l yX1_sameButForPlace cX1_sameButForPlace 2 (some .boolean) 0 0 0 0 g [vI (x), vI (y)] σ (pt (some (vI (if x % 256 = y % 256 then 1 else 0))) (σ)) := by
  refine CN_of (own := RX1) hl (by decide) rfl (Nat.le_of_ble_eq_true rfl) (fun mc hC _ hR => ?_)
  refine j_lv (lv2 := [(0, vI (x)), (1, vI (y))]) rfl ?_
  have hs := smp hx
  generalize hw : ((iI x ^^^ iI y) &&& iI (-3841)).toInt = w at hs
  have hw2 : (iI x ^^^ iI y) &&& iI (-3841) = iI w := by rw [← hw]; exact (Int32.ofInt_toInt _).symm
  have hw3 : -2147483648 ≤ w ∧ w < 2147483648 := by rw [← hw]; exact ⟨by have := ((iI x ^^^ iI y) &&& iI (-3841)).le_toInt; omega, by have := ((iI x ^^^ iI y) &&& iI (-3841)).toInt_lt; omega⟩
  refine j_iload_n hC dX1_sameButForPlace_0 0 rfl ?_
  refine j_iload_n hC dX1_sameButForPlace_1 1 rfl ?_
  refine j_ixor (r := (iI x ^^^ iI y).toInt) hC dX1_sameButForPlace_2 (Int32.ofInt_toInt _).symm ?_
  refine j_sipush hC dX1_sameButForPlace_3 (by decide) ?_
  refine j_iand (r := w) hC dX1_sameButForPlace_6 (by rw [show iI (iI x ^^^ iI y).toInt = iI x ^^^ iI y from Int32.ofInt_toInt _]; exact hw2) ?_
  refine j_if_ne (tgt := 14) hC dX1_sameButForPlace_7 (by decide) (by omega) (fun h7 => ?_) (fun h7 => ?_)
  · refine j_iconst hC dX1_sameButForPlace_14 ?_
    exact j_zret hC (by decide) dX1_sameButForPlace_15 (by first | (rw [if_pos (hs.mp h7)]; exact ⟨rfl, rfl⟩) | (rw [if_neg (fun z => h7 (hs.mpr z))]; exact ⟨rfl, rfl⟩))
  · refine j_iconst hC dX1_sameButForPlace_10 ?_
    refine j_goto (tgt := 15) hC dX1_sameButForPlace_11 (by decide) ?_
    exact j_zret hC (by decide) dX1_sameButForPlace_15 (by first | (rw [if_pos (hs.mp h7)]; exact ⟨rfl, rfl⟩) | (rw [if_neg (fun z => h7 (hs.mpr z))]; exact ⟨rfl, rfl⟩))
set_option maxHeartbeats 4000000 in
set_option maxRecDepth 100000 in
theorem c_J6_bitCount_0f7a4 {l : Launch} (hl : l.stackTraces = false) (g : GG) (σ : Sg) (x : Int) (hx : 0 ≤ x ∧ x < 16) : CN l yJ6_bitCount_0f7a4 cJ6_bitCount_0f7a4 1 (some .int) 0 0 0 0 g [vI (x)] σ (pt (some (vI (pop4 x))) (σ)) := by
  refine CN_of (own := RJ6) hl (by decide) rfl (Nat.le_of_ble_eq_true rfl) (fun mc hC _ hR => ?_)
  refine j_lv (lv2 := [(0, vI (x))]) rfl ?_
  refine j_iload_n hC dJ6_bitCount_0f7a4_0 0 rfl ?_
  refine j_iload_n hC dJ6_bitCount_0f7a4_1 0 rfl ?_
  refine j_iconst hC dJ6_bitCount_0f7a4_2 ?_
  refine j_iushr hC dJ6_bitCount_0f7a4_3 rfl ?_
  refine j_ldc_w hC dJ6_bitCount_0f7a4_4 wd234 ?_
  refine j_iandR hC dJ6_bitCount_0f7a4_7 ?_
  refine j_isubR hC dJ6_bitCount_0f7a4_8 ?_
  refine j_gen (fun y0 ey0 => ?_)
  refine j_istore_n hC dJ6_bitCount_0f7a4_9 [(0, .int (y0))] (by decide) rfl ?_
  refine j_iload_n hC dJ6_bitCount_0f7a4_10 0 rfl ?_
  refine j_ldc_w hC dJ6_bitCount_0f7a4_11 wd235 ?_
  refine j_iandR hC dJ6_bitCount_0f7a4_14 ?_
  refine j_iload_n hC dJ6_bitCount_0f7a4_15 0 rfl ?_
  refine j_iconst hC dJ6_bitCount_0f7a4_16 ?_
  refine j_iushr hC dJ6_bitCount_0f7a4_17 rfl ?_
  refine j_ldc_w hC dJ6_bitCount_0f7a4_18 wd235 ?_
  refine j_iandR hC dJ6_bitCount_0f7a4_21 ?_
  refine j_iaddR hC dJ6_bitCount_0f7a4_22 ?_
  refine j_gen (fun y1 ey1 => ?_)
  refine j_istore_n hC dJ6_bitCount_0f7a4_23 [(0, .int (y1))] (by decide) rfl ?_
  refine j_iload_n hC dJ6_bitCount_0f7a4_24 0 rfl ?_
  refine j_iload_n hC dJ6_bitCount_0f7a4_25 0 rfl ?_
  refine j_iconst hC dJ6_bitCount_0f7a4_26 ?_
  refine j_iushr hC dJ6_bitCount_0f7a4_27 rfl ?_
  refine j_iaddR hC dJ6_bitCount_0f7a4_28 ?_
  refine j_ldc_w hC dJ6_bitCount_0f7a4_29 wd236 ?_
  refine j_iandR hC dJ6_bitCount_0f7a4_32 ?_
  refine j_gen (fun y2 ey2 => ?_)
  refine j_istore_n hC dJ6_bitCount_0f7a4_33 [(0, .int (y2))] (by decide) rfl ?_
  refine j_iload_n hC dJ6_bitCount_0f7a4_34 0 rfl ?_
  refine j_iload_n hC dJ6_bitCount_0f7a4_35 0 rfl ?_
  refine j_bipush hC dJ6_bitCount_0f7a4_36 (by decide) ?_
  refine j_iushr hC dJ6_bitCount_0f7a4_38 rfl ?_
  refine j_iaddR hC dJ6_bitCount_0f7a4_39 ?_
  refine j_gen (fun y3 ey3 => ?_)
  refine j_istore_n hC dJ6_bitCount_0f7a4_40 [(0, .int (y3))] (by decide) rfl ?_
  refine j_iload_n hC dJ6_bitCount_0f7a4_41 0 rfl ?_
  refine j_iload_n hC dJ6_bitCount_0f7a4_42 0 rfl ?_
  refine j_bipush hC dJ6_bitCount_0f7a4_43 (by decide) ?_
  refine j_iushr hC dJ6_bitCount_0f7a4_45 rfl ?_
  refine j_iaddR hC dJ6_bitCount_0f7a4_46 ?_
  refine j_gen (fun y4 ey4 => ?_)
  refine j_istore_n hC dJ6_bitCount_0f7a4_47 [(0, .int (y4))] (by decide) rfl ?_
  refine j_iload_n hC dJ6_bitCount_0f7a4_48 0 rfl ?_
  refine j_bipush hC dJ6_bitCount_0f7a4_49 (by decide) ?_
  refine j_iandR hC dJ6_bitCount_0f7a4_51 ?_
  exact j_iret hC dJ6_bitCount_0f7a4_52 (by
    obtain ⟨x, rfl⟩ := Int.eq_ofNat_of_zero_le hx.1
    have h9 := bc_1 ⟨x, by omega⟩
    refine ⟨congrArg (fun z => some (Value.int z)) ?_, rfl⟩
    have e : pop4 (x : Int) = ((x % 2 + x / 2 % 2 + x / 4 % 2 + x / 8 % 2 : Nat) : Int) := by unfold pop4; omega
    rw [e, iI_nat, ← h9, ey4, ey3, ey2, ey1, ey0, iI_nat]
    rfl)
set_option maxHeartbeats 4000000 in
set_option maxRecDepth 100000 in
theorem c_X2_sameGroup {l : Launch} (hl : l.stackTraces = false) (g : GG) (σ : Sg) (hI : IC σ) (a b : Int) (hx : 0 ≤ a ∧ a < 9 ∧ 0 ≤ b ∧ b < 9) : CN l yX2_sameGroup cX2_sameGroup 3 (some .boolean) 0 0 0 0 g [.ref (gd g (1)), vI (a), vI (b)] σ (pt (some (vI (if σ.2 0 a = σ.2 0 b then 1 else 0))) (σ)) := by
  refine CN_of (own := RX2) hl (by decide) rfl (Nat.le_of_ble_eq_true rfl) (fun mc hC _ hR => ?_)
  refine j_lv (lv2 := [(0, .ref (gd g (1))), (1, vI (a)), (2, vI (b))]) rfl ?_
  have hg1 := hI.2.2.1 a (by omega) (by omega)
  have hg2 := hI.2.2.1 b (by omega) (by omega)
  refine j_aload_n hC dX2_sameGroup_0 0 rfl ?_
  refine j_get hC inX2 rfl 1 rfl 0 (by decide) wd28 rfl dX2_sameGroup_1 ?_
  refine j_iload_n hC dX2_sameGroup_4 1 rfl ?_
  refine j_iald hC 2 rfl (by omega) dX2_sameGroup_5 ?_
  refine j_aload_n hC dX2_sameGroup_6 0 rfl ?_
  refine j_get hC inX2 rfl 1 rfl 0 (by decide) wd28 rfl dX2_sameGroup_7 ?_
  refine j_iload_n hC dX2_sameGroup_10 2 rfl ?_
  refine j_iald hC 2 rfl (by omega) dX2_sameGroup_11 ?_
  refine j_icmp_ne (tgt := 19) hC dX2_sameGroup_12 (by decide) (by omega) (fun h12 => ?_) (fun h12 => ?_)
  · refine j_iconst hC dX2_sameGroup_19 ?_
    exact j_zret hC (by decide) dX2_sameGroup_20 (by first | (rw [if_pos h12]; exact ⟨rfl, rfl⟩) | (rw [if_neg h12]; exact ⟨rfl, rfl⟩))
  · refine j_iconst hC dX2_sameGroup_15 ?_
    refine j_goto (tgt := 20) hC dX2_sameGroup_16 (by decide) ?_
    exact j_zret hC (by decide) dX2_sameGroup_20 (by first | (rw [if_pos h12]; exact ⟨rfl, rfl⟩) | (rw [if_neg h12]; exact ⟨rfl, rfl⟩))
set_option maxHeartbeats 4000000 in
set_option maxRecDepth 100000 in
theorem c_X2_stepsBetween {l : Launch} (hl : l.stackTraces = false) (g : GG) (σ : Sg) (hI : IC σ) (a b : Int) (hx : 0 ≤ a ∧ a < 9 ∧ 0 ≤ b ∧ b < 9) : CN l yX2_stepsBetween cX2_stepsBetween 5 (some .int) 1 22 0 0 g [.ref (gd g (1)), vI (a), vI (b)] σ (pt (some (vI (stp (σ.2 0) a b))) (σ)) := by
  refine CN_of (own := RX2) hl (by decide) rfl (Nat.le_of_ble_eq_true rfl) (fun mc hC _ hR => ?_)
  refine j_lv (lv2 := [(0, .ref (gd g (1))), (1, vI (a)), (2, vI (b))]) rfl ?_
  refine j_aload_n hC dX2_stepsBetween_0 0 rfl ?_
  refine j_iload_n hC dX2_stepsBetween_1 1 rfl ?_
  refine j_iload_n hC dX2_stepsBetween_2 2 rfl ?_
  refine j_callV1 (ar := 2) hC hR (c_X2_sameGroup (hlJ hC) g σ hI a b (by omega)) [] rfl 1 rfl rfl rfl (by decide) (by decide +kernel) rfl wd175 wd165 wp2 wd2 wd166 (by first | decide | omega) (Nat.le_of_ble_eq_true rfl) dX2_stepsBetween_3 ?_
  refine j_ifb_eq (tgt := 11) hC dX2_stepsBetween_6 (by decide) (fun h6 => ?_) (fun h6 => ?_)
  · refine j_iload_n hC dX2_stepsBetween_11 1 rfl ?_
    refine j_iconst hC dX2_stepsBetween_12 ?_
    refine j_idiv hC dX2_stepsBetween_13 (by omega) ?_
    refine j_iload_n hC dX2_stepsBetween_14 2 rfl ?_
    refine j_iconst hC dX2_stepsBetween_15 ?_
    refine j_idiv hC dX2_stepsBetween_16 (by omega) ?_
    refine j_isub hC dX2_stepsBetween_17 ?_
    refine j_abs hC hR wd176 ⟨by decide, Nat.le_of_ble_eq_true rfl⟩ (by first | decide | omega) (by omega) dX2_stepsBetween_18 ?_
    have hab1 : ∀ z : Int, (if 0 ≤ z then z else -z) = ab z := fun _ => rfl
    refine j_istore_n hC dX2_stepsBetween_21 [(3, vI (if 0 ≤ (a / 3) - (b / 3) then (a / 3) - (b / 3) else -((a / 3) - (b / 3)))), (0, .ref (gd g (1))), (1, vI (a)), (2, vI (b))] (by decide) rfl ?_
    refine j_iload_n hC dX2_stepsBetween_22 2 rfl ?_
    refine j_iconst hC dX2_stepsBetween_23 ?_
    refine j_irem hC dX2_stepsBetween_24 (by omega) ?_
    refine j_iload_n hC dX2_stepsBetween_25 3 rfl ?_
    refine j_iconst hC dX2_stepsBetween_26 ?_
    refine j_irem hC dX2_stepsBetween_27 (by omega) ?_
    refine j_isub hC dX2_stepsBetween_28 ?_
    refine j_abs hC hR wd176 ⟨by decide, Nat.le_of_ble_eq_true rfl⟩ (by first | decide | omega) (by omega) dX2_stepsBetween_29 ?_
    refine j_istore hC dX2_stepsBetween_32 [(4, vI (if 0 ≤ (a % 3) - (b % 3) then (a % 3) - (b % 3) else -((a % 3) - (b % 3)))), (3, vI (if 0 ≤ (a / 3) - (b / 3) then (a / 3) - (b / 3) else -((a / 3) - (b / 3)))), (0, .ref (gd g (1))), (1, vI (a)), (2, vI (b))] (by decide) rfl ?_
    refine j_iload_n hC dX2_stepsBetween_34 1 rfl ?_
    refine j_iload hC dX2_stepsBetween_35 0 rfl ?_
    refine j_iadd hC dX2_stepsBetween_37 ?_
    exact j_iret hC dX2_stepsBetween_38 ⟨by unfold stp ab; first | rw [if_pos h6] | rw [if_neg h6], rfl⟩
  · refine j_iconst hC dX2_stepsBetween_9 ?_
    exact j_iret hC dX2_stepsBetween_10 ⟨by unfold stp ab; first | rw [if_pos h6] | rw [if_neg h6], rfl⟩
set_option maxHeartbeats 4000000 in
set_option maxRecDepth 100000 in
theorem c_X2_alike {l : Launch} (hl : l.stackTraces = false) (g : GG) (σ : Sg) (hI : IC σ) (x y : Int) (hx : 0 ≤ x ∧ x < 2304 ∧ 0 ≤ y ∧ y < 2304) : CN l yX2_alike cX2_alike 3 (some .boolean) 1 22 0 0 g [.ref (gd g (1)), vI (x), vI (y)] σ (pt (some (vI (if alk (σ.2 0) x y then 1 else 0))) (σ)) := by
  refine CN_of (own := RX2) hl (by decide) rfl (Nat.le_of_ble_eq_true rfl) (fun mc hC _ hR => ?_)
  refine j_lv (lv2 := [(0, .ref (gd g (1))), (1, vI (x)), (2, vI (y))]) rfl ?_
  refine j_iload_n hC dX2_alike_0 1 rfl ?_
  refine j_iload_n hC dX2_alike_1 2 rfl ?_
  refine j_callSN1 (ar := 2) hC hR (c_X1_sameButForPlace (hlJ hC) g σ x y (by omega)) [] rfl (by decide) (by decide +kernel) rfl wd257 wd258 wd11 wd259 (by first | decide | omega) (Nat.le_of_ble_eq_true rfl) dX2_alike_2 ?_
  refine j_ifb_eq (tgt := 27) hC dX2_alike_5 (by decide) (fun h5 => ?_) (fun h5 => ?_)
  · refine j_iconst hC dX2_alike_27 ?_
    exact j_zret hC (by decide) dX2_alike_28 (by first | (rw [if_pos ⟨h5, h20⟩]; exact ⟨rfl, rfl⟩) | (rw [if_neg (fun z => h20 z.2)]; exact ⟨rfl, rfl⟩) | (rw [if_neg (fun z => h5 z.1)]; exact ⟨rfl, rfl⟩))
  · refine j_aload_n hC dX2_alike_8 0 rfl ?_
    refine j_iload_n hC dX2_alike_9 1 rfl ?_
    refine j_callSN1 (ar := 1) hC hR (c_X1_place (hlJ hC) g σ x (by omega)) [.ref (gd g (1))] rfl (by decide) (by decide +kernel) rfl wd241 wd242 wd11 wd243 (by first | decide | omega) (Nat.le_of_ble_eq_true rfl) dX2_alike_10 ?_
    refine j_iload_n hC dX2_alike_13 2 rfl ?_
    refine j_callSN1 (ar := 1) hC hR (c_X1_place (hlJ hC) g σ y (by omega)) [vI (x / 256), .ref (gd g (1))] rfl (by decide) (by decide +kernel) rfl wd241 wd242 wd11 wd243 (by first | decide | omega) (Nat.le_of_ble_eq_true rfl) dX2_alike_14 ?_
    refine j_callV1 (ar := 2) hC hR (c_X2_sameGroup (hlJ hC) g σ hI (x / 256) (y / 256) (by omega)) [] rfl 1 rfl rfl rfl (by decide) (by decide +kernel) rfl wd175 wd165 wp2 wd2 wd166 (by first | decide | omega) (Nat.le_of_ble_eq_true rfl) dX2_alike_17 ?_
    refine j_ifb_eq (tgt := 27) hC dX2_alike_20 (by decide) (fun h20 => ?_) (fun h20 => ?_)
    · refine j_iconst hC dX2_alike_27 ?_
      exact j_zret hC (by decide) dX2_alike_28 (by first | (rw [if_pos ⟨h5, h20⟩]; exact ⟨rfl, rfl⟩) | (rw [if_neg (fun z => h20 z.2)]; exact ⟨rfl, rfl⟩) | (rw [if_neg (fun z => h5 z.1)]; exact ⟨rfl, rfl⟩))
    · refine j_iconst hC dX2_alike_23 ?_
      refine j_goto (tgt := 28) hC dX2_alike_24 (by decide) ?_
      exact j_zret hC (by decide) dX2_alike_28 (by first | (rw [if_pos ⟨h5, h20⟩]; exact ⟨rfl, rfl⟩) | (rw [if_neg (fun z => h20 z.2)]; exact ⟨rfl, rfl⟩) | (rw [if_neg (fun z => h5 z.1)]; exact ⟨rfl, rfl⟩))
set_option maxHeartbeats 4000000 in
set_option maxRecDepth 100000 in
theorem c_X2_distance {l : Launch} (hl : l.stackTraces = false) (g : GG) (σ : Sg) (hI : IC σ) (x y : Int) (hx : 0 ≤ x ∧ x < 2304 ∧ 0 ≤ y ∧ y < 2304) : CN l yX2_distance cX2_distance 6 (some .int) 2 46 0 0 g [.ref (gd g (1)), vI (x), vI (y)] σ (pt (some (vI (dst (σ.2 0) x y))) (σ)) := by
  refine CN_of (own := RX2) hl (by decide) rfl (Nat.le_of_ble_eq_true rfl) (fun mc hC _ hR => ?_)
  refine j_lv (lv2 := [(0, .ref (gd g (1))), (1, vI (x)), (2, vI (y))]) rfl ?_
  have hxr := xr_rg (a := x % 16) (b := y % 16) (by omega)
  refine j_iload_n hC dX2_distance_0 1 rfl ?_
  refine j_callSN1 (ar := 1) hC hR (c_X1_shape (hlJ hC) g σ x (by omega)) [] rfl (by decide) (by decide +kernel) rfl wd228 wd229 wd11 wd230 (by first | decide | omega) (Nat.le_of_ble_eq_true rfl) dX2_distance_1 ?_
  refine j_iload_n hC dX2_distance_4 2 rfl ?_
  refine j_callSN1 (ar := 1) hC hR (c_X1_shape (hlJ hC) g σ y (by omega)) [vI (x % 16)] rfl (by decide) (by decide +kernel) rfl wd228 wd229 wd11 wd230 (by first | decide | omega) (Nat.le_of_ble_eq_true rfl) dX2_distance_5 ?_
  refine j_ixor (r := xr (x % 16) (y % 16)) hC dX2_distance_8 (xr_iI (by omega)) ?_
  refine j_callS1 (ar := 1) hC hR (c_J6_bitCount_0f7a4 (hlJ hC) g σ (xr (x % 16) (y % 16)) (by omega)) [] rfl (by decide) (by decide +kernel) rfl wd231 wd232 wd13 wd233 (by first | decide | omega) (Nat.le_of_ble_eq_true rfl) dX2_distance_9 ?_
  refine j_istore_n hC dX2_distance_12 [(3, vI (pop4 (xr (x % 16) (y % 16)))), (0, .ref (gd g (1))), (1, vI (x)), (2, vI (y))] (by decide) rfl ?_
  refine j_iload_n hC dX2_distance_13 2 rfl ?_
  refine j_callSN1 (ar := 1) hC hR (c_X1_thumb (hlJ hC) g σ x (by omega)) [] rfl (by decide) (by decide +kernel) rfl wd237 wd205 wd11 wd206 (by first | decide | omega) (Nat.le_of_ble_eq_true rfl) dX2_distance_14 ?_
  refine j_iload_n hC dX2_distance_17 3 rfl ?_
  refine j_callSN1 (ar := 1) hC hR (c_X1_thumb (hlJ hC) g σ y (by omega)) [vI (x / 16 % 4)] rfl (by decide) (by decide +kernel) rfl wd237 wd205 wd11 wd206 (by first | decide | omega) (Nat.le_of_ble_eq_true rfl) dX2_distance_18 ?_
  suffices K29 : J mc g 0 0 (QN mc g (pt (some (vI (dst (σ.2 0) x y))) (σ)) 0 0) 29 [(3, vI (pop4 (xr (x % 16) (y % 16)))), (0, .ref (gd g (1))), (1, vI (x)), (2, vI (y))] [vI (if x / 16 % 4 = y / 16 % 4 then 0 else 1)] σ by
    refine j_icmp_ne (tgt := 28) hC dX2_distance_21 (by decide) (by omega) (fun h21 => ?_) (fun h21 => ?_)
    · refine j_iconst hC dX2_distance_28 ?_
      exact (by first | (rw [if_pos h21] at K29; exact K29) | (rw [if_neg h21] at K29; exact K29) | (rw [if_neg (fun z => h21 z.symm)] at K29; exact K29))
    · refine j_iconst hC dX2_distance_24 ?_
      refine j_goto (tgt := 29) hC dX2_distance_25 (by decide) ?_
      exact (by first | (rw [if_pos h21] at K29; exact K29) | (rw [if_neg h21] at K29; exact K29) | (rw [if_neg (fun z => h21 z.symm)] at K29; exact K29))
  refine j_istore hC dX2_distance_29 [(4, vI (if x / 16 % 4 = y / 16 % 4 then 0 else 1)), (3, vI (pop4 (xr (x % 16) (y % 16)))), (0, .ref (gd g (1))), (1, vI (x)), (2, vI (y))] (by decide) rfl ?_
  refine j_iload_n hC dX2_distance_31 3 rfl ?_
  refine j_callSN1 (ar := 1) hC hR (c_X1_movement (hlJ hC) g σ x (by omega)) [] rfl (by decide) (by decide +kernel) rfl wd238 wd239 wd11 wd240 (by first | decide | omega) (Nat.le_of_ble_eq_true rfl) dX2_distance_32 ?_
  refine j_iload_n hC dX2_distance_35 4 rfl ?_
  refine j_callSN1 (ar := 1) hC hR (c_X1_movement (hlJ hC) g σ y (by omega)) [vI (x / 64 % 4)] rfl (by decide) (by decide +kernel) rfl wd238 wd239 wd11 wd240 (by first | decide | omega) (Nat.le_of_ble_eq_true rfl) dX2_distance_36 ?_
  suffices K47 : J mc g 0 0 (QN mc g (pt (some (vI (dst (σ.2 0) x y))) (σ)) 0 0) 47 [(4, vI (if x / 16 % 4 = y / 16 % 4 then 0 else 1)), (3, vI (pop4 (xr (x % 16) (y % 16)))), (0, .ref (gd g (1))), (1, vI (x)), (2, vI (y))] [vI (if x / 64 % 4 = y / 64 % 4 then 0 else 2)] σ by
    refine j_icmp_ne (tgt := 46) hC dX2_distance_39 (by decide) (by omega) (fun h39 => ?_) (fun h39 => ?_)
    · refine j_iconst hC dX2_distance_46 ?_
      exact (by first | (rw [if_pos h39] at K47; exact K47) | (rw [if_neg h39] at K47; exact K47) | (rw [if_neg (fun z => h39 z.symm)] at K47; exact K47))
    · refine j_iconst hC dX2_distance_42 ?_
      refine j_goto (tgt := 47) hC dX2_distance_43 (by decide) ?_
      exact (by first | (rw [if_pos h39] at K47; exact K47) | (rw [if_neg h39] at K47; exact K47) | (rw [if_neg (fun z => h39 z.symm)] at K47; exact K47))
  refine j_istore hC dX2_distance_47 [(5, vI (if x / 64 % 4 = y / 64 % 4 then 0 else 2)), (4, vI (if x / 16 % 4 = y / 16 % 4 then 0 else 1)), (3, vI (pop4 (xr (x % 16) (y % 16)))), (0, .ref (gd g (1))), (1, vI (x)), (2, vI (y))] (by decide) rfl ?_
  refine j_iload_n hC dX2_distance_49 2 rfl ?_
  refine j_iload hC dX2_distance_50 1 rfl ?_
  refine j_iadd hC dX2_distance_52 ?_
  refine j_iload hC dX2_distance_53 0 rfl ?_
  refine j_iadd hC dX2_distance_55 ?_
  refine j_aload_n hC dX2_distance_56 3 rfl ?_
  refine j_iload_n hC dX2_distance_57 4 rfl ?_
  refine j_callSN1 (ar := 1) hC hR (c_X1_place (hlJ hC) g σ x (by omega)) [.ref (gd g (1)), vI (((pop4 (xr (x % 16) (y % 16))) + (if x / 16 % 4 = y / 16 % 4 then 0 else 1)) + (if x / 64 % 4 = y / 64 % 4 then 0 else 2))] rfl (by decide) (by decide +kernel) rfl wd241 wd242 wd11 wd243 (by first | decide | omega) (Nat.le_of_ble_eq_true rfl) dX2_distance_58 ?_
  refine j_iload_n hC dX2_distance_61 5 rfl ?_
  refine j_callSN1 (ar := 1) hC hR (c_X1_place (hlJ hC) g σ y (by omega)) [vI (x / 256), .ref (gd g (1)), vI (((pop4 (xr (x % 16) (y % 16))) + (if x / 16 % 4 = y / 16 % 4 then 0 else 1)) + (if x / 64 % 4 = y / 64 % 4 then 0 else 2))] rfl (by decide) (by decide +kernel) rfl wd241 wd242 wd11 wd243 (by first | decide | omega) (Nat.le_of_ble_eq_true rfl) dX2_distance_62 ?_
  refine j_callV1 (ar := 2) hC hR (c_X2_stepsBetween (hlJ hC) g σ hI (x / 256) (y / 256) (by omega)) [vI (((pop4 (xr (x % 16) (y % 16))) + (if x / 16 % 4 = y / 16 % 4 then 0 else 1)) + (if x / 64 % 4 = y / 64 % 4 then 0 else 2))] rfl 1 rfl rfl rfl (by decide) (by decide +kernel) rfl wd244 wd173 wp3 wd2 wd174 (by first | decide | omega) (Nat.le_of_ble_eq_true rfl) dX2_distance_65 ?_
  refine j_iadd hC dX2_distance_68 ?_
  exact j_iret hC dX2_distance_69 ⟨rfl, rfl⟩
