set_option maxHeartbeats 4000000 in
set_option maxRecDepth 100000 in
theorem c_X3_isBelow {l : Launch} (hl : l.stackTraces = false) (g : GG) (σ : Sg) (x y : Int) (hr : -2147483648 ≤ x ∧ x < 2147483648 ∧ -2147483648 ≤ y ∧ y < 2147483648) : CN l yX3_isBelow cX3_isBelow 2 (some .boolean) 0 0 0 0 g [vI (x), vI (y)] σ (pt (some (vI (if 0 ≤ x ∧ x < y then 1 else 0))) (σ)) := by
  refine CN_of (own := RX3) hl (by decide) rfl (Nat.le_of_ble_eq_true rfl) (fun mc hC _ hR => ?_)
  refine j_lv (lv2 := [(0, vI (x)), (1, vI (y))]) rfl ?_
  refine j_iload_n hC dX3_isBelow_0 0 rfl ?_
  refine j_if_lt (tgt := 13) hC dX3_isBelow_1 (by decide) (by omega) (fun h1 => ?_) (fun h1 => ?_)
  · refine j_iconst hC dX3_isBelow_13 ?_
    exact j_zret hC (by decide) dX3_isBelow_14 ⟨by first | rw [if_pos (by omega)] | rw [if_neg (by omega)], rfl⟩
  · refine j_iload_n hC dX3_isBelow_4 0 rfl ?_
    refine j_iload_n hC dX3_isBelow_5 1 rfl ?_
    refine j_icmp_ge (tgt := 13) hC dX3_isBelow_6 (by decide) (by omega) (fun h6 => ?_) (fun h6 => ?_)
    · refine j_iconst hC dX3_isBelow_13 ?_
      exact j_zret hC (by decide) dX3_isBelow_14 ⟨by first | rw [if_pos (by omega)] | rw [if_neg (by omega)], rfl⟩
    · refine j_iconst hC dX3_isBelow_9 ?_
      refine j_goto (tgt := 14) hC dX3_isBelow_10 (by decide) ?_
      exact j_zret hC (by decide) dX3_isBelow_14 ⟨by first | rw [if_pos (by omega)] | rw [if_neg (by omega)], rfl⟩
set_option maxHeartbeats 4000000 in
set_option maxRecDepth 100000 in
theorem c_X3_bookOf {l : Launch} (hl : l.stackTraces = false) (g : GG) (σ : Sg) (hI : IC σ) (a : Int) (ha : 0 ≤ a ∧ a < σ.1 0) : CN l yX3_bookOf cX3_bookOf 2 (some (.object "SignMasons$Book")) 1 24 0 0 g [.ref (gd g (0)), vI (a)] σ (pt (some (.ref (gd g (4 + a.toNat)))) (σ)) := by
  refine CN_of (own := RX3) hl (by decide) rfl (Nat.le_of_ble_eq_true rfl) (fun mc hC _ hR => ?_)
  refine j_lv (lv2 := [(0, .ref (gd g (0))), (1, vI (a))]) rfl ?_
  have hI1 := hI.1
  refine j_iload_n hC dX3_bookOf_0 1 rfl ?_
  refine j_aload_n hC dX3_bookOf_1 0 rfl ?_
  refine j_get hC inX3 rfl 0 rfl 3 (by decide) wd63 rfl dX3_bookOf_2 ?_
  refine j_callS1 (ar := 2) hC hR (c_X3_isBelow (hlJ hC) g σ a ((σ).1 0) (by omega)) [] rfl (by decide) (by decide +kernel) rfl wd80 wd81 wd1 wd82 (by first | decide | omega) (Nat.le_of_ble_eq_true rfl) dX3_bookOf_5 ?_
  refine j_ifb_ne (tgt := 21) hC dX3_bookOf_8 (by decide) (fun _ => ?_) (fun h => (h (by omega)).elim)
  refine j_aload_n hC dX3_bookOf_21 0 rfl ?_
  refine j_get hC inX3 rfl 0 rfl 1 (by decide) wd61 rfl dX3_bookOf_22 ?_
  refine j_iload_n hC dX3_bookOf_25 1 rfl ?_
  refine j_aald hC (by omega) dX3_bookOf_26 ?_
  exact j_aret hC dX3_bookOf_27 ⟨rfl, rfl⟩
set_option maxHeartbeats 4000000 in
set_option maxRecDepth 100000 in
theorem c_X3_checkSign {l : Launch} (hl : l.stackTraces = false) (g : GG) (σ : Sg) (hI : IC σ) {b : Nat} (hb : b < 5) (s : Int) (hs : 0 ≤ s ∧ s < σ.1 (2 + b)) : CN l yX3_checkSign cX3_checkSign 2 none 1 24 0 0 g [.ref (gd g (4 + b)), vI (s)] σ (pt none (σ)) := by
  refine CN_of (own := RX3) hl (by decide) rfl (Nat.le_of_ble_eq_true rfl) (fun mc hC _ hR => ?_)
  refine j_lv (lv2 := [(0, .ref (gd g (4 + b))), (1, vI (s))]) rfl ?_
  have hn := hI.2.2.2.1 b hb
  refine j_iload_n hC dX3_checkSign_0 1 rfl ?_
  refine j_aload_n hC dX3_checkSign_1 0 rfl ?_
  refine j_getN hC inX0 rfl (4 + b) (hw_bk g _ hb) 3 (by decide) wd50 rfl dX3_checkSign_2 ?_
  refine j_callS1 (ar := 2) hC hR (c_X3_isBelow (hlJ hC) g σ s ((σ).1 (2 + b)) (by omega)) [] rfl (by decide) (by decide +kernel) rfl wd80 wd81 wd1 wd82 (by first | decide | omega) (Nat.le_of_ble_eq_true rfl) dX3_checkSign_5 ?_
  refine j_ifb_ne (tgt := 21) hC dX3_checkSign_8 (by decide) (fun _ => ?_) (fun h => (h (by omega)).elim)
  exact j_vret hC dX3_checkSign_21 ⟨rfl, rfl⟩
set_option maxHeartbeats 4000000 in
set_option maxRecDepth 100000 in
theorem c_X3_checkPlace {l : Launch} (hl : l.stackTraces = false) (g : GG) (σ : Sg) (p : Int) (hp : 0 ≤ p ∧ p < 9) : CN l yX3_checkPlace cX3_checkPlace 1 none 1 24 0 0 g [vI (p)] σ (pt none (σ)) := by
  refine CN_of (own := RX3) hl (by decide) rfl (Nat.le_of_ble_eq_true rfl) (fun mc hC _ hR => ?_)
  refine j_lv (lv2 := [(0, vI (p))]) rfl ?_
  refine j_iload_n hC dX3_checkPlace_0 0 rfl ?_
  refine j_bipush hC dX3_checkPlace_1 (by decide) ?_
  refine j_callS1 (ar := 2) hC hR (c_X3_isBelow (hlJ hC) g σ p 9 (by omega)) [] rfl (by decide) (by decide +kernel) rfl wd80 wd81 wd1 wd82 (by first | decide | omega) (Nat.le_of_ble_eq_true rfl) dX3_checkPlace_3 ?_
  refine j_ifb_ne (tgt := 19) hC dX3_checkPlace_6 (by decide) (fun _ => ?_) (fun h => (h (by omega)).elim)
  exact j_vret hC dX3_checkPlace_19 ⟨rfl, rfl⟩
set_option maxHeartbeats 4000000 in
set_option maxRecDepth 100000 in
theorem c_X3_checkLook {l : Launch} (hl : l.stackTraces = false) (g : GG) (σ : Sg) (sh th pl mv : Int) (hp : 0 ≤ sh ∧ sh < 16 ∧ 0 ≤ th ∧ th < 4 ∧ 0 ≤ pl ∧ pl < 9 ∧ 0 ≤ mv ∧ mv < 4) : CN l yX3_checkLook cX3_checkLook 4 none 1 24 0 0 g [vI (sh), vI (th), vI (pl), vI (mv)] σ (pt none (σ)) := by
  refine CN_of (own := RX3) hl (by decide) rfl (Nat.le_of_ble_eq_true rfl) (fun mc hC _ hR => ?_)
  refine j_lv (lv2 := [(0, vI (sh)), (1, vI (th)), (2, vI (pl)), (3, vI (mv))]) rfl ?_
  refine j_iload_n hC dX3_checkLook_0 0 rfl ?_
  refine j_bipush hC dX3_checkLook_1 (by decide) ?_
  refine j_callS1 (ar := 2) hC hR (c_X3_isBelow (hlJ hC) g σ sh 16 (by omega)) [] rfl (by decide) (by decide +kernel) rfl wd80 wd81 wd1 wd82 (by first | decide | omega) (Nat.le_of_ble_eq_true rfl) dX3_checkLook_3 ?_
  refine j_ifb_ne (tgt := 19) hC dX3_checkLook_6 (by decide) (fun _ => ?_) (fun h => (h (by omega)).elim)
  refine j_iload_n hC dX3_checkLook_19 1 rfl ?_
  refine j_iconst hC dX3_checkLook_20 ?_
  refine j_callS1 (ar := 2) hC hR (c_X3_isBelow (hlJ hC) g σ th 4 (by omega)) [] rfl (by decide) (by decide +kernel) rfl wd80 wd81 wd1 wd82 (by first | decide | omega) (Nat.le_of_ble_eq_true rfl) dX3_checkLook_21 ?_
  refine j_ifb_ne (tgt := 37) hC dX3_checkLook_24 (by decide) (fun _ => ?_) (fun h => (h (by omega)).elim)
  refine j_iload_n hC dX3_checkLook_37 2 rfl ?_
  refine j_bipush hC dX3_checkLook_38 (by decide) ?_
  refine j_callS1 (ar := 2) hC hR (c_X3_isBelow (hlJ hC) g σ pl 9 (by omega)) [] rfl (by decide) (by decide +kernel) rfl wd80 wd81 wd1 wd82 (by first | decide | omega) (Nat.le_of_ble_eq_true rfl) dX3_checkLook_40 ?_
  refine j_ifb_ne (tgt := 56) hC dX3_checkLook_43 (by decide) (fun _ => ?_) (fun h => (h (by omega)).elim)
  refine j_iload_n hC dX3_checkLook_56 3 rfl ?_
  refine j_iconst hC dX3_checkLook_57 ?_
  refine j_callS1 (ar := 2) hC hR (c_X3_isBelow (hlJ hC) g σ mv 4 (by omega)) [] rfl (by decide) (by decide +kernel) rfl wd80 wd81 wd1 wd82 (by first | decide | omega) (Nat.le_of_ble_eq_true rfl) dX3_checkLook_58 ?_
  refine j_ifb_ne (tgt := 74) hC dX3_checkLook_61 (by decide) (fun _ => ?_) (fun h => (h (by omega)).elim)
  exact j_vret hC dX3_checkLook_74 ⟨rfl, rfl⟩
set_option maxHeartbeats 4000000 in
set_option maxRecDepth 100000 in
theorem c_X3_lookOf {l : Launch} (hl : l.stackTraces = false) (g : GG) (σ : Sg) (hI : IC σ) (a s : Int) (ha : 0 ≤ a ∧ a < σ.1 0) (hs : 0 ≤ s ∧ s < σ.1 (2 + a.toNat)) : CN l yX3_lookOf cX3_lookOf 4 (some .int) 2 45 0 0 g [.ref (gd g (0)), vI (a), vI (s)] σ (pt (some (vI (σ.2 (1 + a.toNat) s))) (σ)) := by
  refine CN_of (own := RX3) hl (by decide) rfl (Nat.le_of_ble_eq_true rfl) (fun mc hC _ hR => ?_)
  refine j_lv (lv2 := [(0, .ref (gd g (0))), (1, vI (a)), (2, vI (s))]) rfl ?_
  have hI1 := hI.1
  have ha5 : a.toNat < 5 := by have := hI.1; omega
  have hna := hI.2.2.2.1 a.toNat ha5
  refine j_aload_n hC dX3_lookOf_0 0 rfl ?_
  refine j_iload_n hC dX3_lookOf_1 1 rfl ?_
  refine j_callV1 (ar := 1) hC hR (c_X3_bookOf (hlJ hC) g σ hI a (by omega)) [] rfl 0 rfl rfl rfl (by decide) (by decide +kernel) rfl wd187 wd189 wp4 wd1 wd190 (by first | decide | omega) (Nat.le_of_ble_eq_true rfl) dX3_lookOf_2 ?_
  refine j_astore_n hC dX3_lookOf_5 [(3, .ref (gd g (4 + a.toNat))), (0, .ref (gd g (0))), (1, vI (a)), (2, vI (s))] (by decide) rfl ?_
  refine j_aload_n hC dX3_lookOf_6 0 rfl ?_
  refine j_iload_n hC dX3_lookOf_7 3 rfl ?_
  refine j_callS0 (ar := 2) hC hR (c_X3_checkSign (hlJ hC) g σ hI ha5 s (by omega)) [] rfl (by decide) (by decide +kernel) rfl wd200 wd201 wd1 wd202 (by first | decide | omega) (Nat.le_of_ble_eq_true rfl) dX3_lookOf_8 ?_
  refine j_aload_n hC dX3_lookOf_11 0 rfl ?_
  refine j_getN hC inX0 rfl (4 + a.toNat) (hw_bk g _ ha5) 1 (by decide) wd46 rfl dX3_lookOf_12 ?_
  refine j_iload_n hC dX3_lookOf_15 3 rfl ?_
  refine j_iald hC (9 + a.toNat) (hw_lk g _ ha5) (by omega) dX3_lookOf_16 ?_
  exact j_iret hC dX3_lookOf_17 ⟨rfl, rfl⟩
set_option maxHeartbeats 4000000 in
set_option maxRecDepth 100000 in
theorem c_X3_shapeOf {l : Launch} (hl : l.stackTraces = false) (g : GG) (σ : Sg) (hI : IC σ) (a s : Int) (ha : 0 ≤ a ∧ a < σ.1 0) (hs : 0 ≤ s ∧ s < σ.1 (2 + a.toNat)) : CN l yX3_shapeOf cX3_shapeOf 3 (some .int) 3 68 0 0 g [.ref (gd g (0)), vI (a), vI (s)] σ (pt (some (vI (σ.2 (1 + a.toNat) s % 16))) (σ)) := by
  refine CN_of (own := RX3) hl (by decide) rfl (Nat.le_of_ble_eq_true rfl) (fun mc hC _ hR => ?_)
  refine j_lv (lv2 := [(0, .ref (gd g (0))), (1, vI (a)), (2, vI (s))]) rfl ?_
  have hI1 := hI.1
  have ha5 : a.toNat < 5 := by have := hI.1; omega
  have hna := hI.2.2.2.1 a.toNat ha5
  have hk := hI.2.2.2.2.1 a.toNat ha5 s (by omega) (by omega)
  refine j_aload_n hC dX3_shapeOf_0 0 rfl ?_
  refine j_iload_n hC dX3_shapeOf_1 1 rfl ?_
  refine j_iload_n hC dX3_shapeOf_2 2 rfl ?_
  refine j_callV1 (ar := 2) hC hR (c_X3_lookOf (hlJ hC) g σ hI a s (by omega) (by omega)) [] rfl 0 rfl rfl rfl (by decide) (by decide +kernel) rfl wd196 wd198 wp5 wd1 wd199 (by first | decide | omega) (Nat.le_of_ble_eq_true rfl) dX3_shapeOf_3 ?_
  refine j_callSN1 (ar := 1) hC hR (c_X1_shape (hlJ hC) g σ (σ.2 (1 + a.toNat) s) (by omega)) [] rfl (by decide) (by decide +kernel) rfl wd363 wd229 wd11 wd230 (by first | decide | omega) (Nat.le_of_ble_eq_true rfl) dX3_shapeOf_6 ?_
  exact j_iret hC dX3_shapeOf_9 ⟨rfl, rfl⟩
set_option maxHeartbeats 4000000 in
set_option maxRecDepth 100000 in
theorem c_X3_thumbOf {l : Launch} (hl : l.stackTraces = false) (g : GG) (σ : Sg) (hI : IC σ) (a s : Int) (ha : 0 ≤ a ∧ a < σ.1 0) (hs : 0 ≤ s ∧ s < σ.1 (2 + a.toNat)) : CN l yX3_thumbOf cX3_thumbOf 3 (some .int) 3 68 0 0 g [.ref (gd g (0)), vI (a), vI (s)] σ (pt (some (vI (σ.2 (1 + a.toNat) s / 16 % 4))) (σ)) := by
  refine CN_of (own := RX3) hl (by decide) rfl (Nat.le_of_ble_eq_true rfl) (fun mc hC _ hR => ?_)
  refine j_lv (lv2 := [(0, .ref (gd g (0))), (1, vI (a)), (2, vI (s))]) rfl ?_
  have hI1 := hI.1
  have ha5 : a.toNat < 5 := by have := hI.1; omega
  have hna := hI.2.2.2.1 a.toNat ha5
  have hk := hI.2.2.2.2.1 a.toNat ha5 s (by omega) (by omega)
  refine j_aload_n hC dX3_thumbOf_0 0 rfl ?_
  refine j_iload_n hC dX3_thumbOf_1 1 rfl ?_
  refine j_iload_n hC dX3_thumbOf_2 2 rfl ?_
  refine j_callV1 (ar := 2) hC hR (c_X3_lookOf (hlJ hC) g σ hI a s (by omega) (by omega)) [] rfl 0 rfl rfl rfl (by decide) (by decide +kernel) rfl wd196 wd198 wp5 wd1 wd199 (by first | decide | omega) (Nat.le_of_ble_eq_true rfl) dX3_thumbOf_3 ?_
  refine j_callSN1 (ar := 1) hC hR (c_X1_thumb (hlJ hC) g σ (σ.2 (1 + a.toNat) s) (by omega)) [] rfl (by decide) (by decide +kernel) rfl wd204 wd205 wd11 wd206 (by first | decide | omega) (Nat.le_of_ble_eq_true rfl) dX3_thumbOf_6 ?_
  exact j_iret hC dX3_thumbOf_9 ⟨rfl, rfl⟩
set_option maxHeartbeats 4000000 in
set_option maxRecDepth 100000 in
theorem c_X3_placeOf {l : Launch} (hl : l.stackTraces = false) (g : GG) (σ : Sg) (hI : IC σ) (a s : Int) (ha : 0 ≤ a ∧ a < σ.1 0) (hs : 0 ≤ s ∧ s < σ.1 (2 + a.toNat)) : CN l yX3_placeOf cX3_placeOf 3 (some .int) 3 68 0 0 g [.ref (gd g (0)), vI (a), vI (s)] σ (pt (some (vI (σ.2 (1 + a.toNat) s / 256))) (σ)) := by
  refine CN_of (own := RX3) hl (by decide) rfl (Nat.le_of_ble_eq_true rfl) (fun mc hC _ hR => ?_)
  refine j_lv (lv2 := [(0, .ref (gd g (0))), (1, vI (a)), (2, vI (s))]) rfl ?_
  have hI1 := hI.1
  have ha5 : a.toNat < 5 := by have := hI.1; omega
  have hna := hI.2.2.2.1 a.toNat ha5
  have hk := hI.2.2.2.2.1 a.toNat ha5 s (by omega) (by omega)
  refine j_aload_n hC dX3_placeOf_0 0 rfl ?_
  refine j_iload_n hC dX3_placeOf_1 1 rfl ?_
  refine j_iload_n hC dX3_placeOf_2 2 rfl ?_
  refine j_callV1 (ar := 2) hC hR (c_X3_lookOf (hlJ hC) g σ hI a s (by omega) (by omega)) [] rfl 0 rfl rfl rfl (by decide) (by decide +kernel) rfl wd196 wd198 wp5 wd1 wd199 (by first | decide | omega) (Nat.le_of_ble_eq_true rfl) dX3_placeOf_3 ?_
  refine j_callSN1 (ar := 1) hC hR (c_X1_place (hlJ hC) g σ (σ.2 (1 + a.toNat) s) (by omega)) [] rfl (by decide) (by decide +kernel) rfl wd369 wd242 wd11 wd243 (by first | decide | omega) (Nat.le_of_ble_eq_true rfl) dX3_placeOf_6 ?_
  exact j_iret hC dX3_placeOf_9 ⟨rfl, rfl⟩
set_option maxHeartbeats 4000000 in
set_option maxRecDepth 100000 in
theorem c_X3_meaningOf {l : Launch} (hl : l.stackTraces = false) (g : GG) (σ : Sg) (hI : IC σ) (a s : Int) (ha : 0 ≤ a ∧ a < σ.1 0) (hs : 0 ≤ s ∧ s < σ.1 (2 + a.toNat)) : CN l yX3_meaningOf cX3_meaningOf 4 (some .int) 2 45 0 0 g [.ref (gd g (0)), vI (a), vI (s)] σ (pt (some (vI (σ.2 (6 + a.toNat) s))) (σ)) := by
  refine CN_of (own := RX3) hl (by decide) rfl (Nat.le_of_ble_eq_true rfl) (fun mc hC _ hR => ?_)
  refine j_lv (lv2 := [(0, .ref (gd g (0))), (1, vI (a)), (2, vI (s))]) rfl ?_
  have hI1 := hI.1
  have ha5 : a.toNat < 5 := by have := hI.1; omega
  have hna := hI.2.2.2.1 a.toNat ha5
  have hk := hI.2.2.2.2.1 a.toNat ha5 s (by omega) (by omega)
  refine j_aload_n hC dX3_meaningOf_0 0 rfl ?_
  refine j_iload_n hC dX3_meaningOf_1 1 rfl ?_
  refine j_callV1 (ar := 1) hC hR (c_X3_bookOf (hlJ hC) g σ hI a (by omega)) [] rfl 0 rfl rfl rfl (by decide) (by decide +kernel) rfl wd187 wd189 wp4 wd1 wd190 (by first | decide | omega) (Nat.le_of_ble_eq_true rfl) dX3_meaningOf_2 ?_
  refine j_astore_n hC dX3_meaningOf_5 [(3, .ref (gd g (4 + a.toNat))), (0, .ref (gd g (0))), (1, vI (a)), (2, vI (s))] (by decide) rfl ?_
  refine j_aload_n hC dX3_meaningOf_6 0 rfl ?_
  refine j_iload_n hC dX3_meaningOf_7 3 rfl ?_
  refine j_callS0 (ar := 2) hC hR (c_X3_checkSign (hlJ hC) g σ hI ha5 s (by omega)) [] rfl (by decide) (by decide +kernel) rfl wd200 wd201 wd1 wd202 (by first | decide | omega) (Nat.le_of_ble_eq_true rfl) dX3_meaningOf_8 ?_
  refine j_aload_n hC dX3_meaningOf_11 0 rfl ?_
  refine j_getN hC inX0 rfl (4 + a.toNat) (hw_bk g _ ha5) 2 (by decide) wd48 rfl dX3_meaningOf_12 ?_
  refine j_iload_n hC dX3_meaningOf_15 3 rfl ?_
  refine j_iald hC (14 + a.toNat) (hw_mn g _ ha5) (by omega) dX3_meaningOf_16 ?_
  exact j_iret hC dX3_meaningOf_17 ⟨rfl, rfl⟩
set_option maxHeartbeats 4000000 in
set_option maxRecDepth 100000 in
theorem c_X3_forget {l : Launch} (hl : l.stackTraces = false) (g : GG) (σ : Sg) (hI : IC σ) (a s : Int) (ha : 0 ≤ a ∧ a < σ.1 0) (hs : 0 ≤ s ∧ s < σ.1 (2 + a.toNat)) : CN l yX3_forget cX3_forget 4 (some .int) 2 45 0 0 g [.ref (gd g (0)), vI (a), vI (s)] σ (pt (some (vI (σ.2 (6 + a.toNat) s))) (rmB σ a.toNat s)) := by
  refine CN_of (own := RX3) hl (by decide) rfl (Nat.le_of_ble_eq_true rfl) (fun mc hC _ hR => ?_)
  refine j_lv (lv2 := [(0, .ref (gd g (0))), (1, vI (a)), (2, vI (s))]) rfl ?_
  have hI1 := hI.1
  have ha5 : a.toNat < 5 := by have := hI.1; omega
  have hna := hI.2.2.2.1 a.toNat ha5
  have hk := hI.2.2.2.2.1 a.toNat ha5 s (by omega) (by omega)
  refine j_aload_n hC dX3_forget_0 0 rfl ?_
  refine j_iload_n hC dX3_forget_1 1 rfl ?_
  refine j_callV1 (ar := 1) hC hR (c_X3_bookOf (hlJ hC) g σ hI a (by omega)) [] rfl 0 rfl rfl rfl (by decide) (by decide +kernel) rfl wd187 wd189 wp4 wd1 wd190 (by first | decide | omega) (Nat.le_of_ble_eq_true rfl) dX3_forget_2 ?_
  refine j_astore_n hC dX3_forget_5 [(3, .ref (gd g (4 + a.toNat))), (0, .ref (gd g (0))), (1, vI (a)), (2, vI (s))] (by decide) rfl ?_
  refine j_aload_n hC dX3_forget_6 0 rfl ?_
  refine j_iload_n hC dX3_forget_7 3 rfl ?_
  refine j_callS0 (ar := 2) hC hR (c_X3_checkSign (hlJ hC) g σ hI ha5 s (by omega)) [] rfl (by decide) (by decide +kernel) rfl wd200 wd201 wd1 wd202 (by first | decide | omega) (Nat.le_of_ble_eq_true rfl) dX3_forget_8 ?_
  refine j_aload_n hC dX3_forget_11 0 rfl ?_
  refine j_iload_n hC dX3_forget_12 3 rfl ?_
  refine j_callVN1 (ar := 1) hC hR (c_X0_remove (hlJ hC) g σ hI ha5 s (by omega)) [] rfl (4 + a.toNat) (hw_bk g _ ha5) rfl rfl (by decide) (by decide +kernel) rfl wd490 wd492 wp21 wd3 wd493 (by first | decide | omega) (Nat.le_of_ble_eq_true rfl) dX3_forget_13 ?_
  exact j_iret hC dX3_forget_16 ⟨rfl, rfl⟩
set_option maxHeartbeats 4000000 in
set_option maxRecDepth 100000 in
theorem c_X3_signsOf {l : Launch} (hl : l.stackTraces = false) (g : GG) (σ : Sg) (hI : IC σ) (a : Int) (ha : 0 ≤ a ∧ a < σ.1 0) : CN l yX3_signsOf cX3_signsOf 2 (some .int) 2 45 0 0 g [.ref (gd g (0)), vI (a)] σ (pt (some (vI (σ.1 (2 + a.toNat)))) (σ)) := by
  refine CN_of (own := RX3) hl (by decide) rfl (Nat.le_of_ble_eq_true rfl) (fun mc hC _ hR => ?_)
  refine j_lv (lv2 := [(0, .ref (gd g (0))), (1, vI (a))]) rfl ?_
  have hI1 := hI.1
  have ha5 : a.toNat < 5 := by have := hI.1; omega
  have hna := hI.2.2.2.1 a.toNat ha5
  refine j_aload_n hC dX3_signsOf_0 0 rfl ?_
  refine j_iload_n hC dX3_signsOf_1 1 rfl ?_
  refine j_callV1 (ar := 1) hC hR (c_X3_bookOf (hlJ hC) g σ hI a (by omega)) [] rfl 0 rfl rfl rfl (by decide) (by decide +kernel) rfl wd187 wd189 wp4 wd1 wd190 (by first | decide | omega) (Nat.le_of_ble_eq_true rfl) dX3_signsOf_2 ?_
  refine j_getN hC inX0 rfl (4 + a.toNat) (hw_bk g _ ha5) 3 (by decide) wd50 rfl dX3_signsOf_5 ?_
  exact j_iret hC dX3_signsOf_8 ⟨rfl, rfl⟩
set_option maxHeartbeats 4000000 in
set_option maxRecDepth 100000 in
theorem c_X3_alikePairs {l : Launch} (hl : l.stackTraces = false) (g : GG) (σ : Sg) (hI : IC σ) (a : Int) (ha : 0 ≤ a ∧ a < σ.1 0) : CN l yX3_alikePairs cX3_alikePairs 2 (some .int) 3 67 0 0 g [.ref (gd g (0)), vI (a)] σ (pt (some (vI (caB σ a.toNat))) (σ)) := by
  refine CN_of (own := RX3) hl (by decide) rfl (Nat.le_of_ble_eq_true rfl) (fun mc hC _ hR => ?_)
  refine j_lv (lv2 := [(0, .ref (gd g (0))), (1, vI (a))]) rfl ?_
  have hI1 := hI.1
  have ha5 : a.toNat < 5 := by have := hI.1; omega
  have hna := hI.2.2.2.1 a.toNat ha5
  refine j_aload_n hC dX3_alikePairs_0 0 rfl ?_
  refine j_iload_n hC dX3_alikePairs_1 1 rfl ?_
  refine j_callV1 (ar := 1) hC hR (c_X3_bookOf (hlJ hC) g σ hI a (by omega)) [] rfl 0 rfl rfl rfl (by decide) (by decide +kernel) rfl wd187 wd189 wp4 wd1 wd190 (by first | decide | omega) (Nat.le_of_ble_eq_true rfl) dX3_alikePairs_2 ?_
  refine j_callVN1 (ar := 0) hC hR (c_X0_countAlike (hlJ hC) g σ hI ha5  ) [] rfl (4 + a.toNat) (hw_bk g _ ha5) rfl rfl (by decide) (by decide +kernel) rfl wd249 wd251 wp8 wd3 wd252 (by first | decide | omega) (Nat.le_of_ble_eq_true rfl) dX3_alikePairs_5 ?_
  exact j_iret hC dX3_alikePairs_8 ⟨rfl, rfl⟩
set_option maxHeartbeats 4000000 in
set_option maxRecDepth 100000 in
theorem c_X3_thumbPairs {l : Launch} (hl : l.stackTraces = false) (g : GG) (σ : Sg) (hI : IC σ) (a : Int) (ha : 0 ≤ a ∧ a < σ.1 0) : CN l yX3_thumbPairs cX3_thumbPairs 2 (some .int) 4 94 0 0 g [.ref (gd g (0)), vI (a)] σ (pt (some (vI (ctB σ a.toNat))) (σ)) := by
  refine CN_of (own := RX3) hl (by decide) rfl (Nat.le_of_ble_eq_true rfl) (fun mc hC _ hR => ?_)
  refine j_lv (lv2 := [(0, .ref (gd g (0))), (1, vI (a))]) rfl ?_
  have hI1 := hI.1
  have ha5 : a.toNat < 5 := by have := hI.1; omega
  have hna := hI.2.2.2.1 a.toNat ha5
  refine j_aload_n hC dX3_thumbPairs_0 0 rfl ?_
  refine j_iload_n hC dX3_thumbPairs_1 1 rfl ?_
  refine j_callV1 (ar := 1) hC hR (c_X3_bookOf (hlJ hC) g σ hI a (by omega)) [] rfl 0 rfl rfl rfl (by decide) (by decide +kernel) rfl wd187 wd189 wp4 wd1 wd190 (by first | decide | omega) (Nat.le_of_ble_eq_true rfl) dX3_thumbPairs_2 ?_
  refine j_callVN1 (ar := 0) hC hR (c_X0_countThumbApart (hlJ hC) g σ hI ha5  ) [] rfl (4 + a.toNat) (hw_bk g _ ha5) rfl rfl (by decide) (by decide +kernel) rfl wd264 wd266 wp10 wd3 wd267 (by first | decide | omega) (Nat.le_of_ble_eq_true rfl) dX3_thumbPairs_5 ?_
  exact j_iret hC dX3_thumbPairs_8 ⟨rfl, rfl⟩
set_option maxHeartbeats 4000000 in
set_option maxRecDepth 100000 in
theorem c_X3_closest {l : Launch} (hl : l.stackTraces = false) (g : GG) (σ : Sg) (hI : IC σ) (a : Int) (ha : 0 ≤ a ∧ a < σ.1 0) : CN l yX3_closest cX3_closest 2 (some .int) 5 117 0 0 g [.ref (gd g (0)), vI (a)] σ (pt (some (vI (faB σ a.toNat))) (σ)) := by
  refine CN_of (own := RX3) hl (by decide) rfl (Nat.le_of_ble_eq_true rfl) (fun mc hC _ hR => ?_)
  refine j_lv (lv2 := [(0, .ref (gd g (0))), (1, vI (a))]) rfl ?_
  have hI1 := hI.1
  have ha5 : a.toNat < 5 := by have := hI.1; omega
  have hna := hI.2.2.2.1 a.toNat ha5
  refine j_aload_n hC dX3_closest_0 0 rfl ?_
  refine j_iload_n hC dX3_closest_1 1 rfl ?_
  refine j_callV1 (ar := 1) hC hR (c_X3_bookOf (hlJ hC) g σ hI a (by omega)) [] rfl 0 rfl rfl rfl (by decide) (by decide +kernel) rfl wd187 wd189 wp4 wd1 wd190 (by first | decide | omega) (Nat.le_of_ble_eq_true rfl) dX3_closest_2 ?_
  refine j_callVN1 (ar := 0) hC hR (c_X0_fewestApart (hlJ hC) g σ hI ha5  ) [] rfl (4 + a.toNat) (hw_bk g _ ha5) rfl rfl (by decide) (by decide +kernel) rfl wd274 wd276 wp11 wd3 wd277 (by first | decide | omega) (Nat.le_of_ble_eq_true rfl) dX3_closest_5 ?_
  exact j_iret hC dX3_closest_8 ⟨rfl, rfl⟩
set_option maxHeartbeats 4000000 in
set_option maxRecDepth 100000 in
theorem c_X3_mostMistaken {l : Launch} (hl : l.stackTraces = false) (g : GG) (σ : Sg) (hI : IC σ) (a : Int) (ha : 0 ≤ a ∧ a < σ.1 0) : CN l yX3_mostMistaken cX3_mostMistaken 2 (some .int) 5 118 0 0 g [.ref (gd g (0)), vI (a)] σ (pt (some (vI (snB σ a.toNat))) (σ)) := by
  refine CN_of (own := RX3) hl (by decide) rfl (Nat.le_of_ble_eq_true rfl) (fun mc hC _ hR => ?_)
  refine j_lv (lv2 := [(0, .ref (gd g (0))), (1, vI (a))]) rfl ?_
  have hI1 := hI.1
  have ha5 : a.toNat < 5 := by have := hI.1; omega
  have hna := hI.2.2.2.1 a.toNat ha5
  refine j_aload_n hC dX3_mostMistaken_0 0 rfl ?_
  refine j_iload_n hC dX3_mostMistaken_1 1 rfl ?_
  refine j_callV1 (ar := 1) hC hR (c_X3_bookOf (hlJ hC) g σ hI a (by omega)) [] rfl 0 rfl rfl rfl (by decide) (by decide +kernel) rfl wd187 wd189 wp4 wd1 wd190 (by first | decide | omega) (Nat.le_of_ble_eq_true rfl) dX3_mostMistaken_2 ?_
  refine j_callVN1 (ar := 0) hC hR (c_X0_signNearMost (hlJ hC) g σ hI ha5  ) [] rfl (4 + a.toNat) (hw_bk g _ ha5) rfl rfl (by decide) (by decide +kernel) rfl wd289 wd291 wp13 wd3 wd292 (by first | decide | omega) (Nat.le_of_ble_eq_true rfl) dX3_mostMistaken_5 ?_
  exact j_iret hC dX3_mostMistaken_8 ⟨rfl, rfl⟩
set_option maxHeartbeats 4000000 in
set_option maxRecDepth 100000 in
theorem c_X3_groups {l : Launch} (hl : l.stackTraces = false) (g : GG) (σ : Sg) (hI : IC σ)  : CN l yX3_groups cX3_groups 1 (some .int) 0 0 0 0 g [.ref (gd g (0))] σ (pt (some (vI (σ.1 1))) (σ)) := by
  refine CN_of (own := RX3) hl (by decide) rfl (Nat.le_of_ble_eq_true rfl) (fun mc hC _ hR => ?_)
  refine j_lv (lv2 := [(0, .ref (gd g (0)))]) rfl ?_
  refine j_aload_n hC dX3_groups_0 0 rfl ?_
  refine j_get hC inX3 rfl 0 rfl 0 (by decide) wd60 rfl dX3_groups_1 ?_
  refine j_getN hC inX2 rfl 1 rfl 1 (by decide) wd30 rfl dX3_groups_4 ?_
  exact j_iret hC dX3_groups_7 ⟨rfl, rfl⟩
set_option maxHeartbeats 4000000 in
set_option maxRecDepth 100000 in
theorem c_X3_lodges {l : Launch} (hl : l.stackTraces = false) (g : GG) (σ : Sg) (hI : IC σ)  : CN l yX3_lodges cX3_lodges 1 (some .int) 0 0 0 0 g [.ref (gd g (0))] σ (pt (some (vI (σ.1 0))) (σ)) := by
  refine CN_of (own := RX3) hl (by decide) rfl (Nat.le_of_ble_eq_true rfl) (fun mc hC _ hR => ?_)
  refine j_lv (lv2 := [(0, .ref (gd g (0)))]) rfl ?_
  refine j_aload_n hC dX3_lodges_0 0 rfl ?_
  refine j_get hC inX3 rfl 0 rfl 3 (by decide) wd63 rfl dX3_lodges_1 ?_
  exact j_iret hC dX3_lodges_4 ⟨rfl, rfl⟩
set_option maxHeartbeats 4000000 in
set_option maxRecDepth 100000 in
theorem c_X3_addLodge {l : Launch} (hl : l.stackTraces = false) (g : GG) (σ : Sg) (hI : IC σ) (hn : σ.1 0 < 4) : CN l yX3_addLodge cX3_addLodge 1 (some .int) 1 24 0 0 g [.ref (gd g (0))] σ (pt (some (vI (σ.1 0))) (sF σ 0 (σ.1 0 + 1))) := by
  refine CN_of (own := RX3) hl (by decide) rfl (Nat.le_of_ble_eq_true rfl) (fun mc hC _ hR => ?_)
  refine j_lv (lv2 := [(0, .ref (gd g (0)))]) rfl ?_
  have hI1 := hI.1
  refine j_aload_n hC dX3_addLodge_0 0 rfl ?_
  refine j_get hC inX3 rfl 0 rfl 3 (by decide) wd63 rfl dX3_addLodge_1 ?_
  refine j_iconst hC dX3_addLodge_4 ?_
  refine j_icmp_lt (tgt := 18) hC dX3_addLodge_5 (by decide) (by omega) (fun _ => ?_) (fun h => absurd h (by omega))
  refine j_aload_n hC dX3_addLodge_18 0 rfl ?_
  refine j_dup hC dX3_addLodge_19 rfl ?_
  refine j_get hC inX3 rfl 0 rfl 3 (by decide) wd63 rfl dX3_addLodge_20 ?_
  refine j_iconst hC dX3_addLodge_23 ?_
  refine j_iadd hC dX3_addLodge_24 ?_
  refine j_put (τ := sF (σ) 0 (((σ).1 0) + 1)) hC inX3 tyX3_ok nmX3 rfl 0 rfl 3 (by decide) wd63 rfl rfl (Nat.le_of_ble_eq_true rfl) rfl dX3_addLodge_25 ?_
  refine j_aload_n hC dX3_addLodge_28 0 rfl ?_
  refine j_get hC inX3 rfl 0 rfl 3 (by decide) wd63 rfl dX3_addLodge_29 ?_
  refine j_iconst hC dX3_addLodge_32 ?_
  refine j_isub hC dX3_addLodge_33 ?_
  exact j_iret hC dX3_addLodge_34 ⟨congrArg (fun z => some (vI z)) (show σ.1 0 + 1 - 1 = σ.1 0 by omega), rfl⟩
set_option maxHeartbeats 4000000 in
set_option maxRecDepth 100000 in
theorem c_X3_areJoined {l : Launch} (hl : l.stackTraces = false) (g : GG) (σ : Sg) (hI : IC σ) (p q : Int) (hp : 0 ≤ p ∧ p < 9 ∧ 0 ≤ q ∧ q < 9) : CN l yX3_areJoined cX3_areJoined 3 (some .boolean) 2 44 0 0 g [.ref (gd g (0)), vI (p), vI (q)] σ (pt (some (vI (if σ.2 0 p = σ.2 0 q then 1 else 0))) (σ)) := by
  refine CN_of (own := RX3) hl (by decide) rfl (Nat.le_of_ble_eq_true rfl) (fun mc hC _ hR => ?_)
  refine j_lv (lv2 := [(0, .ref (gd g (0))), (1, vI (p)), (2, vI (q))]) rfl ?_
  refine j_iload_n hC dX3_areJoined_0 1 rfl ?_
  refine j_callS0 (ar := 1) hC hR (c_X3_checkPlace (hlJ hC) g σ p (by omega)) [] rfl (by decide) (by decide +kernel) rfl wd77 wd78 wd1 wd79 (by first | decide | omega) (Nat.le_of_ble_eq_true rfl) dX3_areJoined_1 ?_
  refine j_iload_n hC dX3_areJoined_4 2 rfl ?_
  refine j_callS0 (ar := 1) hC hR (c_X3_checkPlace (hlJ hC) g σ q (by omega)) [] rfl (by decide) (by decide +kernel) rfl wd77 wd78 wd1 wd79 (by first | decide | omega) (Nat.le_of_ble_eq_true rfl) dX3_areJoined_5 ?_
  refine j_aload_n hC dX3_areJoined_8 0 rfl ?_
  refine j_get hC inX3 rfl 0 rfl 0 (by decide) wd60 rfl dX3_areJoined_9 ?_
  refine j_iload_n hC dX3_areJoined_12 1 rfl ?_
  refine j_iload_n hC dX3_areJoined_13 2 rfl ?_
  refine j_callVN1 (ar := 2) hC hR (c_X2_sameGroup (hlJ hC) g σ hI p q (by omega)) [] rfl 1 rfl rfl rfl (by decide) (by decide +kernel) rfl wd163 wd165 wp2 wd2 wd166 (by first | decide | omega) (Nat.le_of_ble_eq_true rfl) dX3_areJoined_14 ?_
  exact j_zret hC (by omega) dX3_areJoined_17 ⟨rfl, rfl⟩
set_option maxHeartbeats 4000000 in
set_option maxRecDepth 100000 in
theorem c_X3_steps {l : Launch} (hl : l.stackTraces = false) (g : GG) (σ : Sg) (hI : IC σ) (p q : Int) (hp : 0 ≤ p ∧ p < 9 ∧ 0 ≤ q ∧ q < 9) : CN l yX3_steps cX3_steps 3 (some .int) 2 46 0 0 g [.ref (gd g (0)), vI (p), vI (q)] σ (pt (some (vI (stp (σ.2 0) p q))) (σ)) := by
  refine CN_of (own := RX3) hl (by decide) rfl (Nat.le_of_ble_eq_true rfl) (fun mc hC _ hR => ?_)
  refine j_lv (lv2 := [(0, .ref (gd g (0))), (1, vI (p)), (2, vI (q))]) rfl ?_
  refine j_iload_n hC dX3_steps_0 1 rfl ?_
  refine j_callS0 (ar := 1) hC hR (c_X3_checkPlace (hlJ hC) g σ p (by omega)) [] rfl (by decide) (by decide +kernel) rfl wd77 wd78 wd1 wd79 (by first | decide | omega) (Nat.le_of_ble_eq_true rfl) dX3_steps_1 ?_
  refine j_iload_n hC dX3_steps_4 2 rfl ?_
  refine j_callS0 (ar := 1) hC hR (c_X3_checkPlace (hlJ hC) g σ q (by omega)) [] rfl (by decide) (by decide +kernel) rfl wd77 wd78 wd1 wd79 (by first | decide | omega) (Nat.le_of_ble_eq_true rfl) dX3_steps_5 ?_
  refine j_aload_n hC dX3_steps_8 0 rfl ?_
  refine j_get hC inX3 rfl 0 rfl 0 (by decide) wd60 rfl dX3_steps_9 ?_
  refine j_iload_n hC dX3_steps_12 1 rfl ?_
  refine j_iload_n hC dX3_steps_13 2 rfl ?_
  refine j_callVN1 (ar := 2) hC hR (c_X2_stepsBetween (hlJ hC) g σ hI p q (by omega)) [] rfl 1 rfl rfl rfl (by decide) (by decide +kernel) rfl wd171 wd173 wp3 wd2 wd174 (by first | decide | omega) (Nat.le_of_ble_eq_true rfl) dX3_steps_14 ?_
  exact j_iret hC dX3_steps_17 ⟨rfl, rfl⟩
set_option maxHeartbeats 4000000 in
set_option maxRecDepth 100000 in
theorem c_X3_join {l : Launch} (hl : l.stackTraces = false) (g : GG) (σ : Sg) (hI : IC σ) (p q : Int) (hp : 0 ≤ p ∧ p < 9 ∧ 0 ≤ q ∧ q < 9) : CN l yX3_join cX3_join 3 (some .int) 2 44 0 0 g [.ref (gd g (0)), vI (p), vI (q)] σ (pt (some (vI ((unP σ p q).1 1))) (unP σ p q)) := by
  refine CN_of (own := RX3) hl (by decide) rfl (Nat.le_of_ble_eq_true rfl) (fun mc hC _ hR => ?_)
  refine j_lv (lv2 := [(0, .ref (gd g (0))), (1, vI (p)), (2, vI (q))]) rfl ?_
  refine j_iload_n hC dX3_join_0 1 rfl ?_
  refine j_callS0 (ar := 1) hC hR (c_X3_checkPlace (hlJ hC) g σ p (by omega)) [] rfl (by decide) (by decide +kernel) rfl wd77 wd78 wd1 wd79 (by first | decide | omega) (Nat.le_of_ble_eq_true rfl) dX3_join_1 ?_
  refine j_iload_n hC dX3_join_4 2 rfl ?_
  refine j_callS0 (ar := 1) hC hR (c_X3_checkPlace (hlJ hC) g σ q (by omega)) [] rfl (by decide) (by decide +kernel) rfl wd77 wd78 wd1 wd79 (by first | decide | omega) (Nat.le_of_ble_eq_true rfl) dX3_join_5 ?_
  refine j_aload_n hC dX3_join_8 0 rfl ?_
  refine j_get hC inX3 rfl 0 rfl 0 (by decide) wd60 rfl dX3_join_9 ?_
  refine j_iload_n hC dX3_join_12 1 rfl ?_
  refine j_iload_n hC dX3_join_13 2 rfl ?_
  refine j_callVN0 (ar := 2) hC hR (c_X2_unite (hlJ hC) g σ hI p q (by omega)) [] rfl 1 rfl rfl rfl (by decide) (by decide +kernel) rfl wd151 wd153 wp1 wd2 wd154 (by first | decide | omega) (Nat.le_of_ble_eq_true rfl) dX3_join_14 ?_
  refine j_aload_n hC dX3_join_17 0 rfl ?_
  refine j_get hC inX3 rfl 0 rfl 0 (by decide) wd60 rfl dX3_join_18 ?_
  refine j_getN hC inX2 rfl 1 rfl 1 (by decide) wd30 rfl dX3_join_21 ?_
  exact j_iret hC dX3_join_24 ⟨rfl, rfl⟩
set_option maxHeartbeats 4000000 in
set_option maxRecDepth 100000 in
theorem c_X3_signFor {l : Launch} (hl : l.stackTraces = false) (g : GG) (σ : Sg) (hI : IC σ) (a x : Int) (ha : 0 ≤ a ∧ a < σ.1 0) (hx : 0 ≤ x ∧ x < 30) : CN l yX3_signFor cX3_signFor 4 (some .int) 2 45 0 0 g [.ref (gd g (0)), vI (a), vI (x)] σ (pt (some (vI (findB σ a.toNat x))) (σ)) := by
  refine CN_of (own := RX3) hl (by decide) rfl (Nat.le_of_ble_eq_true rfl) (fun mc hC _ hR => ?_)
  refine j_lv (lv2 := [(0, .ref (gd g (0))), (1, vI (a)), (2, vI (x))]) rfl ?_
  have hI1 := hI.1
  have ha5 : a.toNat < 5 := by have := hI.1; omega
  have hna := hI.2.2.2.1 a.toNat ha5
  refine j_aload_n hC dX3_signFor_0 0 rfl ?_
  refine j_iload_n hC dX3_signFor_1 1 rfl ?_
  refine j_callV1 (ar := 1) hC hR (c_X3_bookOf (hlJ hC) g σ hI a (by omega)) [] rfl 0 rfl rfl rfl (by decide) (by decide +kernel) rfl wd187 wd189 wp4 wd1 wd190 (by first | decide | omega) (Nat.le_of_ble_eq_true rfl) dX3_signFor_2 ?_
  refine j_astore_n hC dX3_signFor_5 [(3, .ref (gd g (4 + a.toNat))), (0, .ref (gd g (0))), (1, vI (a)), (2, vI (x))] (by decide) rfl ?_
  refine j_iload_n hC dX3_signFor_6 3 rfl ?_
  refine j_bipush hC dX3_signFor_7 (by decide) ?_
  refine j_callS1 (ar := 2) hC hR (c_X3_isBelow (hlJ hC) g σ x 30 (by omega)) [] rfl (by decide) (by decide +kernel) rfl wd80 wd81 wd1 wd82 (by first | decide | omega) (Nat.le_of_ble_eq_true rfl) dX3_signFor_9 ?_
  refine j_ifb_ne (tgt := 25) hC dX3_signFor_12 (by decide) (fun _ => ?_) (fun h => (h (by omega)).elim)
  refine j_aload_n hC dX3_signFor_25 0 rfl ?_
  refine j_iload_n hC dX3_signFor_26 3 rfl ?_
  refine j_callVN1 (ar := 1) hC hR (c_X0_find (hlJ hC) g σ hI ha5 x (by omega)) [] rfl (4 + a.toNat) (hw_bk g _ ha5) rfl rfl (by decide) (by decide +kernel) rfl wd216 wd218 wp6 wd3 wd219 (by first | decide | omega) (Nat.le_of_ble_eq_true rfl) dX3_signFor_27 ?_
  have hf27 := findB_rg hI ha5 x
  exact j_iret hC dX3_signFor_30 ⟨rfl, rfl⟩
set_option maxHeartbeats 4000000 in
set_option maxRecDepth 100000 in
theorem c_X3_apart {l : Launch} (hl : l.stackTraces = false) (g : GG) (σ : Sg) (hI : IC σ) (a s t : Int) (ha : 0 ≤ a ∧ a < σ.1 0) (hs : 0 ≤ s ∧ s < σ.1 (2 + a.toNat)) (ht : 0 ≤ t ∧ t < σ.1 (2 + a.toNat)) : CN l yX3_apart cX3_apart 5 (some .int) 3 71 0 0 g [.ref (gd g (0)), vI (a), vI (s), vI (t)] σ (pt (some (vI (dst (σ.2 0) (σ.2 (1 + a.toNat) s) (σ.2 (1 + a.toNat) t)))) (σ)) := by
  refine CN_of (own := RX3) hl (by decide) rfl (Nat.le_of_ble_eq_true rfl) (fun mc hC _ hR => ?_)
  refine j_lv (lv2 := [(0, .ref (gd g (0))), (1, vI (a)), (2, vI (s)), (3, vI (t))]) rfl ?_
  have hI1 := hI.1
  have ha5 : a.toNat < 5 := by have := hI.1; omega
  have hna := hI.2.2.2.1 a.toNat ha5
  have hk := hI.2.2.2.2.1 a.toNat ha5 s (by omega) (by omega)
  have hk2 := hI.2.2.2.2.1 a.toNat ha5 t (by omega) (by omega)
  refine j_aload_n hC dX3_apart_0 0 rfl ?_
  refine j_iload_n hC dX3_apart_1 1 rfl ?_
  refine j_callV1 (ar := 1) hC hR (c_X3_bookOf (hlJ hC) g σ hI a (by omega)) [] rfl 0 rfl rfl rfl (by decide) (by decide +kernel) rfl wd187 wd189 wp4 wd1 wd190 (by first | decide | omega) (Nat.le_of_ble_eq_true rfl) dX3_apart_2 ?_
  refine j_astore hC dX3_apart_5 [(4, .ref (gd g (4 + a.toNat))), (0, .ref (gd g (0))), (1, vI (a)), (2, vI (s)), (3, vI (t))] (by decide) rfl ?_
  refine j_aload hC dX3_apart_7 0 rfl ?_
  refine j_iload_n hC dX3_apart_9 3 rfl ?_
  refine j_callS0 (ar := 2) hC hR (c_X3_checkSign (hlJ hC) g σ hI ha5 s (by omega)) [] rfl (by decide) (by decide +kernel) rfl wd200 wd201 wd1 wd202 (by first | decide | omega) (Nat.le_of_ble_eq_true rfl) dX3_apart_10 ?_
  refine j_aload hC dX3_apart_13 0 rfl ?_
  refine j_iload_n hC dX3_apart_15 4 rfl ?_
  refine j_callS0 (ar := 2) hC hR (c_X3_checkSign (hlJ hC) g σ hI ha5 t (by omega)) [] rfl (by decide) (by decide +kernel) rfl wd200 wd201 wd1 wd202 (by first | decide | omega) (Nat.le_of_ble_eq_true rfl) dX3_apart_16 ?_
  refine j_aload_n hC dX3_apart_19 1 rfl ?_
  refine j_get hC inX3 rfl 0 rfl 0 (by decide) wd60 rfl dX3_apart_20 ?_
  refine j_aload hC dX3_apart_23 0 rfl ?_
  refine j_getN hC inX0 rfl (4 + a.toNat) (hw_bk g _ ha5) 1 (by decide) wd46 rfl dX3_apart_25 ?_
  refine j_iload_n hC dX3_apart_28 3 rfl ?_
  refine j_iald hC (9 + a.toNat) (hw_lk g _ ha5) (by omega) dX3_apart_29 ?_
  refine j_aload hC dX3_apart_30 0 rfl ?_
  refine j_getN hC inX0 rfl (4 + a.toNat) (hw_bk g _ ha5) 1 (by decide) wd46 rfl dX3_apart_32 ?_
  refine j_iload_n hC dX3_apart_35 4 rfl ?_
  refine j_iald hC (9 + a.toNat) (hw_lk g _ ha5) (by omega) dX3_apart_36 ?_
  refine j_callVN1 (ar := 2) hC hR (c_X2_distance (hlJ hC) g σ hI ((σ).2 (1 + a.toNat) s) ((σ).2 (1 + a.toNat) t) (by omega)) [] rfl 1 rfl rfl rfl (by decide) (by decide +kernel) rfl wd224 wd226 wp7 wd2 wd227 (by first | decide | omega) (Nat.le_of_ble_eq_true rfl) dX3_apart_37 ?_
  exact j_iret hC dX3_apart_40 ⟨rfl, rfl⟩
set_option maxHeartbeats 4000000 in
set_option maxRecDepth 100000 in
theorem c_X3_understood {l : Launch} (hl : l.stackTraces = false) (g : GG) (σ : Sg) (hI : IC σ) (a c : Int) (ha : 0 ≤ a ∧ a < σ.1 0) (hc : 0 ≤ c ∧ c < σ.1 0) : CN l yX3_understood cX3_understood 4 (some .int) 5 119 0 0 g [.ref (gd g (0)), vI (a), vI (c)] σ (pt (some (vI (cuB σ c.toNat a.toNat))) (σ)) := by
  refine CN_of (own := RX3) hl (by decide) rfl (Nat.le_of_ble_eq_true rfl) (fun mc hC _ hR => ?_)
  refine j_lv (lv2 := [(0, .ref (gd g (0))), (1, vI (a)), (2, vI (c))]) rfl ?_
  have hI1 := hI.1
  have ha5 : a.toNat < 5 := by have := hI.1; omega
  have hna := hI.2.2.2.1 a.toNat ha5
  have hc5 : c.toNat < 5 := by have := hI.1; omega
  have hnc := hI.2.2.2.1 c.toNat hc5
  refine j_aload_n hC dX3_understood_0 0 rfl ?_
  refine j_iload_n hC dX3_understood_1 1 rfl ?_
  refine j_callV1 (ar := 1) hC hR (c_X3_bookOf (hlJ hC) g σ hI a (by omega)) [] rfl 0 rfl rfl rfl (by decide) (by decide +kernel) rfl wd187 wd189 wp4 wd1 wd190 (by first | decide | omega) (Nat.le_of_ble_eq_true rfl) dX3_understood_2 ?_
  refine j_astore_n hC dX3_understood_5 [(3, .ref (gd g (4 + a.toNat))), (0, .ref (gd g (0))), (1, vI (a)), (2, vI (c))] (by decide) rfl ?_
  refine j_aload_n hC dX3_understood_6 1 rfl ?_
  refine j_iload_n hC dX3_understood_7 3 rfl ?_
  refine j_callV1 (ar := 1) hC hR (c_X3_bookOf (hlJ hC) g σ hI c (by omega)) [] rfl 0 rfl rfl rfl (by decide) (by decide +kernel) rfl wd187 wd189 wp4 wd1 wd190 (by first | decide | omega) (Nat.le_of_ble_eq_true rfl) dX3_understood_8 ?_
  refine j_aload_n hC dX3_understood_11 0 rfl ?_
  refine j_callVN1 (ar := 1) hC hR (c_X0_countUnderstood (hlJ hC) g σ hI hc5 ha5  ) [] rfl (4 + c.toNat) (hw_bk g _ hc5) rfl rfl (by decide) (by decide +kernel) rfl wd309 wd311 wp16 wd3 wd312 (by first | decide | omega) (Nat.le_of_ble_eq_true rfl) dX3_understood_12 ?_
  have hf12 : 0 ≤ cuB σ c.toNat a.toNat ∧ cuB σ c.toNat a.toNat ≤ 16 := cnt0_rg _ hI ha5
  exact j_iret hC dX3_understood_15 ⟨rfl, rfl⟩
set_option maxHeartbeats 4000000 in
set_option maxRecDepth 100000 in
theorem c_X3_misread {l : Launch} (hl : l.stackTraces = false) (g : GG) (σ : Sg) (hI : IC σ) (a c : Int) (ha : 0 ≤ a ∧ a < σ.1 0) (hc : 0 ≤ c ∧ c < σ.1 0) : CN l yX3_misread cX3_misread 4 (some .int) 5 120 0 0 g [.ref (gd g (0)), vI (a), vI (c)] σ (pt (some (vI (cmB σ c.toNat a.toNat))) (σ)) := by
  refine CN_of (own := RX3) hl (by decide) rfl (Nat.le_of_ble_eq_true rfl) (fun mc hC _ hR => ?_)
  refine j_lv (lv2 := [(0, .ref (gd g (0))), (1, vI (a)), (2, vI (c))]) rfl ?_
  have hI1 := hI.1
  have ha5 : a.toNat < 5 := by have := hI.1; omega
  have hna := hI.2.2.2.1 a.toNat ha5
  have hc5 : c.toNat < 5 := by have := hI.1; omega
  have hnc := hI.2.2.2.1 c.toNat hc5
  refine j_aload_n hC dX3_misread_0 0 rfl ?_
  refine j_iload_n hC dX3_misread_1 1 rfl ?_
  refine j_callV1 (ar := 1) hC hR (c_X3_bookOf (hlJ hC) g σ hI a (by omega)) [] rfl 0 rfl rfl rfl (by decide) (by decide +kernel) rfl wd187 wd189 wp4 wd1 wd190 (by first | decide | omega) (Nat.le_of_ble_eq_true rfl) dX3_misread_2 ?_
  refine j_astore_n hC dX3_misread_5 [(3, .ref (gd g (4 + a.toNat))), (0, .ref (gd g (0))), (1, vI (a)), (2, vI (c))] (by decide) rfl ?_
  refine j_aload_n hC dX3_misread_6 1 rfl ?_
  refine j_iload_n hC dX3_misread_7 3 rfl ?_
  refine j_callV1 (ar := 1) hC hR (c_X3_bookOf (hlJ hC) g σ hI c (by omega)) [] rfl 0 rfl rfl rfl (by decide) (by decide +kernel) rfl wd187 wd189 wp4 wd1 wd190 (by first | decide | omega) (Nat.le_of_ble_eq_true rfl) dX3_misread_8 ?_
  refine j_aload_n hC dX3_misread_11 0 rfl ?_
  refine j_callVN1 (ar := 1) hC hR (c_X0_countMisread (hlJ hC) g σ hI hc5 ha5  ) [] rfl (4 + c.toNat) (hw_bk g _ hc5) rfl rfl (by decide) (by decide +kernel) rfl wd318 wd320 wp17 wd3 wd321 (by first | decide | omega) (Nat.le_of_ble_eq_true rfl) dX3_misread_12 ?_
  exact j_iret hC dX3_misread_15 ⟨rfl, rfl⟩
set_option maxHeartbeats 4000000 in
set_option maxRecDepth 100000 in
theorem c_X3_common {l : Launch} (hl : l.stackTraces = false) (g : GG) (σ : Sg) (hI : IC σ) (a c : Int) (ha : 0 ≤ a ∧ a < σ.1 0) (hc : 0 ≤ c ∧ c < σ.1 0) : CN l yX3_common cX3_common 4 (some .int) 5 121 0 0 g [.ref (gd g (0)), vI (a), vI (c)] σ (pt (some (vI (ccB σ c.toNat a.toNat))) (σ)) := by
  refine CN_of (own := RX3) hl (by decide) rfl (Nat.le_of_ble_eq_true rfl) (fun mc hC _ hR => ?_)
  refine j_lv (lv2 := [(0, .ref (gd g (0))), (1, vI (a)), (2, vI (c))]) rfl ?_
  have hI1 := hI.1
  have ha5 : a.toNat < 5 := by have := hI.1; omega
  have hna := hI.2.2.2.1 a.toNat ha5
  have hc5 : c.toNat < 5 := by have := hI.1; omega
  have hnc := hI.2.2.2.1 c.toNat hc5
  refine j_aload_n hC dX3_common_0 0 rfl ?_
  refine j_iload_n hC dX3_common_1 1 rfl ?_
  refine j_callV1 (ar := 1) hC hR (c_X3_bookOf (hlJ hC) g σ hI a (by omega)) [] rfl 0 rfl rfl rfl (by decide) (by decide +kernel) rfl wd187 wd189 wp4 wd1 wd190 (by first | decide | omega) (Nat.le_of_ble_eq_true rfl) dX3_common_2 ?_
  refine j_astore_n hC dX3_common_5 [(3, .ref (gd g (4 + a.toNat))), (0, .ref (gd g (0))), (1, vI (a)), (2, vI (c))] (by decide) rfl ?_
  refine j_aload_n hC dX3_common_6 1 rfl ?_
  refine j_iload_n hC dX3_common_7 3 rfl ?_
  refine j_callV1 (ar := 1) hC hR (c_X3_bookOf (hlJ hC) g σ hI c (by omega)) [] rfl 0 rfl rfl rfl (by decide) (by decide +kernel) rfl wd187 wd189 wp4 wd1 wd190 (by first | decide | omega) (Nat.le_of_ble_eq_true rfl) dX3_common_8 ?_
  refine j_aload_n hC dX3_common_11 0 rfl ?_
  refine j_callVN1 (ar := 1) hC hR (c_X0_countCommon (hlJ hC) g σ hI hc5 ha5  ) [] rfl (4 + c.toNat) (hw_bk g _ hc5) rfl rfl (by decide) (by decide +kernel) rfl wd326 wd328 wp18 wd3 wd329 (by first | decide | omega) (Nat.le_of_ble_eq_true rfl) dX3_common_12 ?_
  exact j_iret hC dX3_common_15 ⟨rfl, rfl⟩
set_option maxHeartbeats 4000000 in
set_option maxRecDepth 100000 in
theorem c_X3_read {l : Launch} (hl : l.stackTraces = false) (g : GG) (σ : Sg) (hI : IC σ) (a s c : Int) (ha : 0 ≤ a ∧ a < σ.1 0) (hs : 0 ≤ s ∧ s < σ.1 (2 + a.toNat)) (hc : 0 ≤ c ∧ c < σ.1 0) : CN l yX3_read cX3_read 5 (some .int) 4 96 0 0 g [.ref (gd g (0)), vI (a), vI (s), vI (c)] σ (pt (some (vI (mrB σ c.toNat (σ.2 (1 + a.toNat) s)))) (σ)) := by
  refine CN_of (own := RX3) hl (by decide) rfl (Nat.le_of_ble_eq_true rfl) (fun mc hC _ hR => ?_)
  refine j_lv (lv2 := [(0, .ref (gd g (0))), (1, vI (a)), (2, vI (s)), (3, vI (c))]) rfl ?_
  have hI1 := hI.1
  have ha5 : a.toNat < 5 := by have := hI.1; omega
  have hna := hI.2.2.2.1 a.toNat ha5
  have hc5 : c.toNat < 5 := by have := hI.1; omega
  have hnc := hI.2.2.2.1 c.toNat hc5
  have hk := hI.2.2.2.2.1 a.toNat ha5 s (by omega) (by omega)
  refine j_aload_n hC dX3_read_0 0 rfl ?_
  refine j_iload_n hC dX3_read_1 3 rfl ?_
  refine j_callV1 (ar := 1) hC hR (c_X3_bookOf (hlJ hC) g σ hI c (by omega)) [] rfl 0 rfl rfl rfl (by decide) (by decide +kernel) rfl wd187 wd189 wp4 wd1 wd190 (by first | decide | omega) (Nat.le_of_ble_eq_true rfl) dX3_read_2 ?_
  refine j_astore hC dX3_read_5 [(4, .ref (gd g (4 + c.toNat))), (0, .ref (gd g (0))), (1, vI (a)), (2, vI (s)), (3, vI (c))] (by decide) rfl ?_
  refine j_aload hC dX3_read_7 0 rfl ?_
  refine j_aload_n hC dX3_read_9 1 rfl ?_
  refine j_iload_n hC dX3_read_10 2 rfl ?_
  refine j_iload_n hC dX3_read_11 3 rfl ?_
  refine j_callV1 (ar := 2) hC hR (c_X3_lookOf (hlJ hC) g σ hI a s (by omega) (by omega)) [.ref (gd g (4 + c.toNat))] rfl 0 rfl rfl rfl (by decide) (by decide +kernel) rfl wd196 wd198 wp5 wd1 wd199 (by first | decide | omega) (Nat.le_of_ble_eq_true rfl) dX3_read_12 ?_
  refine j_callVN1 (ar := 1) hC hR (c_X0_meaningRead (hlJ hC) g σ hI hc5 (σ.2 (1 + a.toNat) s) (by omega)) [] rfl (4 + c.toNat) (hw_bk g _ hc5) rfl rfl (by decide) (by decide +kernel) rfl wd301 wd303 wp15 wd3 wd304 (by first | decide | omega) (Nat.le_of_ble_eq_true rfl) dX3_read_15 ?_
  have hf15 := mrB_rg hI hc5 (σ.2 (1 + a.toNat) s)
  exact j_iret hC dX3_read_18 ⟨rfl, rfl⟩
set_option maxHeartbeats 4000000 in
set_option maxRecDepth 100000 in
theorem c_X3_setThumb {l : Launch} (hl : l.stackTraces = false) (g : GG) (σ : Sg) (hI : IC σ) (a s t : Int) (ha : 0 ≤ a ∧ a < σ.1 0) (hs : 0 ≤ s ∧ s < σ.1 (2 + a.toNat)) (ht : 0 ≤ t ∧ t < 4) : CN l yX3_setThumb cX3_setThumb 6 (some .int) 2 45 0 0 g [.ref (gd g (0)), vI (a), vI (s), vI (t)] σ (pt (some (vI (σ.2 (1 + a.toNat) s / 16 % 4))) (sG σ (1 + a.toNat) s (wth (σ.2 (1 + a.toNat) s) t))) := by
  refine CN_of (own := RX3) hl (by decide) rfl (Nat.le_of_ble_eq_true rfl) (fun mc hC _ hR => ?_)
  refine j_lv (lv2 := [(0, .ref (gd g (0))), (1, vI (a)), (2, vI (s)), (3, vI (t))]) rfl ?_
  have hI1 := hI.1
  have ha5 : a.toNat < 5 := by have := hI.1; omega
  have hna := hI.2.2.2.1 a.toNat ha5
  have hk := hI.2.2.2.2.1 a.toNat ha5 s (by omega) (by omega)
  refine j_aload_n hC dX3_setThumb_0 0 rfl ?_
  refine j_iload_n hC dX3_setThumb_1 1 rfl ?_
  refine j_callV1 (ar := 1) hC hR (c_X3_bookOf (hlJ hC) g σ hI a (by omega)) [] rfl 0 rfl rfl rfl (by decide) (by decide +kernel) rfl wd187 wd189 wp4 wd1 wd190 (by first | decide | omega) (Nat.le_of_ble_eq_true rfl) dX3_setThumb_2 ?_
  refine j_astore hC dX3_setThumb_5 [(4, .ref (gd g (4 + a.toNat))), (0, .ref (gd g (0))), (1, vI (a)), (2, vI (s)), (3, vI (t))] (by decide) rfl ?_
  refine j_aload hC dX3_setThumb_7 0 rfl ?_
  refine j_iload_n hC dX3_setThumb_9 3 rfl ?_
  refine j_callS0 (ar := 2) hC hR (c_X3_checkSign (hlJ hC) g σ hI ha5 s (by omega)) [] rfl (by decide) (by decide +kernel) rfl wd200 wd201 wd1 wd202 (by first | decide | omega) (Nat.le_of_ble_eq_true rfl) dX3_setThumb_10 ?_
  refine j_iload_n hC dX3_setThumb_13 4 rfl ?_
  refine j_iconst hC dX3_setThumb_14 ?_
  refine j_callS1 (ar := 2) hC hR (c_X3_isBelow (hlJ hC) g σ t 4 (by omega)) [] rfl (by decide) (by decide +kernel) rfl wd80 wd81 wd1 wd82 (by first | decide | omega) (Nat.le_of_ble_eq_true rfl) dX3_setThumb_15 ?_
  refine j_ifb_ne (tgt := 31) hC dX3_setThumb_18 (by decide) (fun _ => ?_) (fun h => (h (by omega)).elim)
  refine j_aload hC dX3_setThumb_31 0 rfl ?_
  refine j_getN hC inX0 rfl (4 + a.toNat) (hw_bk g _ ha5) 1 (by decide) wd46 rfl dX3_setThumb_33 ?_
  refine j_iload_n hC dX3_setThumb_36 3 rfl ?_
  refine j_iald hC (9 + a.toNat) (hw_lk g _ ha5) (by omega) dX3_setThumb_37 ?_
  refine j_callSN1 (ar := 1) hC hR (c_X1_thumb (hlJ hC) g σ ((σ).2 (1 + a.toNat) s) (by omega)) [] rfl (by decide) (by decide +kernel) rfl wd204 wd205 wd11 wd206 (by first | decide | omega) (Nat.le_of_ble_eq_true rfl) dX3_setThumb_38 ?_
  refine j_istore hC dX3_setThumb_41 [(5, vI (((σ).2 (1 + a.toNat) s) / 16 % 4)), (4, .ref (gd g (4 + a.toNat))), (0, .ref (gd g (0))), (1, vI (a)), (2, vI (s)), (3, vI (t))] (by decide) rfl ?_
  refine j_aload hC dX3_setThumb_43 1 rfl ?_
  refine j_getN hC inX0 rfl (4 + a.toNat) (hw_bk g _ ha5) 1 (by decide) wd46 rfl dX3_setThumb_45 ?_
  refine j_iload_n hC dX3_setThumb_48 4 rfl ?_
  refine j_aload hC dX3_setThumb_49 1 rfl ?_
  refine j_getN hC inX0 rfl (4 + a.toNat) (hw_bk g _ ha5) 1 (by decide) wd46 rfl dX3_setThumb_51 ?_
  refine j_iload_n hC dX3_setThumb_54 4 rfl ?_
  refine j_iald hC (9 + a.toNat) (hw_lk g _ ha5) (by omega) dX3_setThumb_55 ?_
  refine j_iload_n hC dX3_setThumb_56 5 rfl ?_
  refine j_callSN1 (ar := 2) hC hR (c_X1_withThumb (hlJ hC) g σ ((σ).2 (1 + a.toNat) s) t (by omega)) [vI (s), .ref (gd g (9 + a.toNat))] rfl (by decide) (by decide +kernel) rfl wd498 wd499 wd11 wd500 (by first | decide | omega) (Nat.le_of_ble_eq_true rfl) dX3_setThumb_57 ?_
  refine j_iast (τ := sG (σ) (1 + a.toNat) (s) (wth ((σ).2 (1 + a.toNat) s) t)) hC (9 + a.toNat) (hw_lk g _ ha5) (hs_lk g _ ha5 _ _) (by omega) dX3_setThumb_60 ?_
  refine j_iload hC dX3_setThumb_61 0 rfl ?_
  exact j_iret hC dX3_setThumb_63 ⟨rfl, rfl⟩
set_option maxHeartbeats 4000000 in
set_option maxRecDepth 100000 in
theorem c_X3_addSign {l : Launch} (hl : l.stackTraces = false) (g : GG) (σ : Sg) (hI : IC σ) (a sh th pl mv x : Int) (ha : 0 ≤ a ∧ a < σ.1 0) (hp : 0 ≤ sh ∧ sh < 16 ∧ 0 ≤ th ∧ th < 4 ∧ 0 ≤ pl ∧ pl < 9 ∧ 0 ≤ mv ∧ mv < 4) (hx : 0 ≤ x ∧ x < 30) (hm : σ.1 (2 + a.toNat) < 16 ∧ findB σ a.toNat x = -1) : CN l yX3_addSign cX3_addSign 8 (some .int) 2 47 0 0 g [.ref (gd g (0)), vI (a), vI (sh), vI (th), vI (pl), vI (mv), vI (x)] σ (pt (some (vI (σ.1 (2 + a.toNat)))) (apB σ a.toNat (mkL sh th pl mv) x)) := by
  refine CN_of (own := RX3) hl (by decide) rfl (Nat.le_of_ble_eq_true rfl) (fun mc hC _ hR => ?_)
  refine j_lv (lv2 := [(0, .ref (gd g (0))), (1, vI (a)), (2, vI (sh)), (3, vI (th)), (4, vI (pl)), (5, vI (mv)), (6, vI (x))]) rfl ?_
  have hI1 := hI.1
  have ha5 : a.toNat < 5 := by have := hI.1; omega
  have hna := hI.2.2.2.1 a.toNat ha5
  have hmk : 0 ≤ mkL sh th pl mv ∧ mkL sh th pl mv < 2304 := by unfold mkL; omega
  refine j_aload_n hC dX3_addSign_0 0 rfl ?_
  refine j_iload_n hC dX3_addSign_1 1 rfl ?_
  refine j_callV1 (ar := 1) hC hR (c_X3_bookOf (hlJ hC) g σ hI a (by omega)) [] rfl 0 rfl rfl rfl (by decide) (by decide +kernel) rfl wd187 wd189 wp4 wd1 wd190 (by first | decide | omega) (Nat.le_of_ble_eq_true rfl) dX3_addSign_2 ?_
  refine j_astore hC dX3_addSign_5 [(7, .ref (gd g (4 + a.toNat))), (0, .ref (gd g (0))), (1, vI (a)), (2, vI (sh)), (3, vI (th)), (4, vI (pl)), (5, vI (mv)), (6, vI (x))] (by decide) rfl ?_
  refine j_iload_n hC dX3_addSign_7 3 rfl ?_
  refine j_iload_n hC dX3_addSign_8 4 rfl ?_
  refine j_iload hC dX3_addSign_9 5 rfl ?_
  refine j_iload hC dX3_addSign_11 6 rfl ?_
  refine j_callS0 (ar := 4) hC hR (c_X3_checkLook (hlJ hC) g σ sh th pl mv (by omega)) [] rfl (by decide) (by decide +kernel) rfl wd449 wd450 wd1 wd451 (by first | decide | omega) (Nat.le_of_ble_eq_true rfl) dX3_addSign_13 ?_
  refine j_iload hC dX3_addSign_16 7 rfl ?_
  refine j_bipush hC dX3_addSign_18 (by decide) ?_
  refine j_callS1 (ar := 2) hC hR (c_X3_isBelow (hlJ hC) g σ x 30 (by omega)) [] rfl (by decide) (by decide +kernel) rfl wd80 wd81 wd1 wd82 (by first | decide | omega) (Nat.le_of_ble_eq_true rfl) dX3_addSign_20 ?_
  refine j_ifb_ne (tgt := 36) hC dX3_addSign_23 (by decide) (fun _ => ?_) (fun h => (h (by omega)).elim)
  refine j_aload hC dX3_addSign_36 0 rfl ?_
  refine j_iload hC dX3_addSign_38 7 rfl ?_
  refine j_callVN1 (ar := 1) hC hR (c_X0_hasRoomFor (hlJ hC) g σ hI ha5 x (by omega)) [] rfl (4 + a.toNat) (hw_bk g _ ha5) rfl rfl (by decide) (by decide +kernel) rfl wd470 wd472 wp19 wd3 wd473 (by first | decide | omega) (Nat.le_of_ble_eq_true rfl) dX3_addSign_40 ?_
  refine j_ifb_ne (tgt := 56) hC dX3_addSign_43 (by decide) (fun _ => ?_) (fun h => (h (by omega)).elim)
  refine j_aload hC dX3_addSign_56 0 rfl ?_
  refine j_iload_n hC dX3_addSign_58 3 rfl ?_
  refine j_iload_n hC dX3_addSign_59 4 rfl ?_
  refine j_iload hC dX3_addSign_60 5 rfl ?_
  refine j_iload hC dX3_addSign_62 6 rfl ?_
  refine j_callSN1 (ar := 4) hC hR (c_X1_of (hlJ hC) g σ sh th pl mv (by omega)) [.ref (gd g (4 + a.toNat))] rfl (by decide) (by decide +kernel) rfl wd475 wd476 wd11 wd477 (by first | decide | omega) (Nat.le_of_ble_eq_true rfl) dX3_addSign_64 ?_
  refine j_iload hC dX3_addSign_67 7 rfl ?_
  refine j_callVN1 (ar := 2) hC hR (c_X0_append (hlJ hC) g σ ha5 (mkL sh th pl mv) x (by omega)) [] rfl (4 + a.toNat) (hw_bk g _ ha5) rfl rfl (by decide) (by decide +kernel) rfl wd478 wd480 wp20 wd3 wd481 (by first | decide | omega) (Nat.le_of_ble_eq_true rfl) dX3_addSign_69 ?_
  exact j_iret hC dX3_addSign_72 ⟨rfl, rfl⟩
set_option maxHeartbeats 4000000 in
set_option maxRecDepth 100000 in
theorem c_X3_borrow {l : Launch} (hl : l.stackTraces = false) (g : GG) (σ : Sg) (hI : IC σ) (a s c : Int) (ha : 0 ≤ a ∧ a < σ.1 0) (hc : 0 ≤ c ∧ c < σ.1 0) (hs : 0 ≤ s ∧ s < σ.1 (2 + a.toNat)) (hne : a ≠ c) (hm : σ.1 (2 + c.toNat) < 16 ∧ findB σ c.toNat (σ.2 (6 + a.toNat) s) = -1) (hf : fuB σ c.toNat (σ.2 (1 + a.toNat) s) ≠ -1) : CN l yX3_borrow cX3_borrow 8 (some .int) 4 90 0 0 g [.ref (gd g (0)), vI (a), vI (s), vI (c)] σ (pt (some (vI (σ.1 (2 + c.toNat)))) (apB σ c.toNat (fuB σ c.toNat (σ.2 (1 + a.toNat) s)) (σ.2 (6 + a.toNat) s))) := by
  refine CN_of (own := RX3) hl (by decide) rfl (Nat.le_of_ble_eq_true rfl) (fun mc hC _ hR => ?_)
  refine j_lv (lv2 := [(0, .ref (gd g (0))), (1, vI (a)), (2, vI (s)), (3, vI (c))]) rfl ?_
  have hI1 := hI.1
  have ha5 : a.toNat < 5 := by have := hI.1; omega
  have hna := hI.2.2.2.1 a.toNat ha5
  have hc5 : c.toNat < 5 := by have := hI.1; omega
  have hnc := hI.2.2.2.1 c.toNat hc5
  have hk := hI.2.2.2.2.1 a.toNat ha5 s (by omega) (by omega)
  have hm := hI.2.2.2.2.2 a.toNat ha5 s (by omega) (by omega)
  have hfu : fuB σ c.toNat (σ.2 (1 + a.toNat) s) = -1 ∨ (0 ≤ fuB σ c.toNat (σ.2 (1 + a.toNat) s) ∧ fuB σ c.toNat (σ.2 (1 + a.toNat) s) < 2304) := fuF_rg _ _ _ (by omega) 4 0 (by omega)
  refine j_aload_n hC dX3_borrow_0 0 rfl ?_
  refine j_iload_n hC dX3_borrow_1 1 rfl ?_
  refine j_callV1 (ar := 1) hC hR (c_X3_bookOf (hlJ hC) g σ hI a (by omega)) [] rfl 0 rfl rfl rfl (by decide) (by decide +kernel) rfl wd187 wd189 wp4 wd1 wd190 (by first | decide | omega) (Nat.le_of_ble_eq_true rfl) dX3_borrow_2 ?_
  refine j_astore hC dX3_borrow_5 [(4, .ref (gd g (4 + a.toNat))), (0, .ref (gd g (0))), (1, vI (a)), (2, vI (s)), (3, vI (c))] (by decide) rfl ?_
  refine j_aload_n hC dX3_borrow_7 1 rfl ?_
  refine j_iload_n hC dX3_borrow_8 4 rfl ?_
  refine j_callV1 (ar := 1) hC hR (c_X3_bookOf (hlJ hC) g σ hI c (by omega)) [] rfl 0 rfl rfl rfl (by decide) (by decide +kernel) rfl wd187 wd189 wp4 wd1 wd190 (by first | decide | omega) (Nat.le_of_ble_eq_true rfl) dX3_borrow_9 ?_
  refine j_astore hC dX3_borrow_12 [(5, .ref (gd g (4 + c.toNat))), (4, .ref (gd g (4 + a.toNat))), (0, .ref (gd g (0))), (1, vI (a)), (2, vI (s)), (3, vI (c))] (by decide) rfl ?_
  refine j_aload hC dX3_borrow_14 1 rfl ?_
  refine j_iload_n hC dX3_borrow_16 4 rfl ?_
  refine j_callS0 (ar := 2) hC hR (c_X3_checkSign (hlJ hC) g σ hI ha5 s (by omega)) [] rfl (by decide) (by decide +kernel) rfl wd200 wd201 wd1 wd202 (by first | decide | omega) (Nat.le_of_ble_eq_true rfl) dX3_borrow_17 ?_
  refine j_iload_n hC dX3_borrow_20 3 rfl ?_
  refine j_iload_n hC dX3_borrow_21 5 rfl ?_
  refine j_icmp_ne (tgt := 35) hC dX3_borrow_22 (by decide) (by omega) (fun _ => ?_) (fun h => absurd h (by omega))
  refine j_aload hC dX3_borrow_35 1 rfl ?_
  refine j_getN hC inX0 rfl (4 + a.toNat) (hw_bk g _ ha5) 2 (by decide) wd48 rfl dX3_borrow_37 ?_
  refine j_iload_n hC dX3_borrow_40 4 rfl ?_
  refine j_iald hC (14 + a.toNat) (hw_mn g _ ha5) (by omega) dX3_borrow_41 ?_
  refine j_istore hC dX3_borrow_42 [(6, vI ((σ).2 (6 + a.toNat) s)), (5, .ref (gd g (4 + c.toNat))), (4, .ref (gd g (4 + a.toNat))), (0, .ref (gd g (0))), (1, vI (a)), (2, vI (s)), (3, vI (c))] (by decide) rfl ?_
  refine j_aload hC dX3_borrow_44 1 rfl ?_
  refine j_iload hC dX3_borrow_46 0 rfl ?_
  refine j_callVN1 (ar := 1) hC hR (c_X0_hasRoomFor (hlJ hC) g σ hI hc5 ((σ).2 (6 + a.toNat) s) (by omega)) [] rfl (4 + c.toNat) (hw_bk g _ hc5) rfl rfl (by decide) (by decide +kernel) rfl wd470 wd472 wp19 wd3 wd473 (by first | decide | omega) (Nat.le_of_ble_eq_true rfl) dX3_borrow_48 ?_
  refine j_ifb_ne (tgt := 64) hC dX3_borrow_51 (by decide) (fun _ => ?_) (fun h => (h (by omega)).elim)
  refine j_aload hC dX3_borrow_64 1 rfl ?_
  refine j_aload hC dX3_borrow_66 2 rfl ?_
  refine j_getN hC inX0 rfl (4 + a.toNat) (hw_bk g _ ha5) 1 (by decide) wd46 rfl dX3_borrow_68 ?_
  refine j_iload_n hC dX3_borrow_71 5 rfl ?_
  refine j_iald hC (9 + a.toNat) (hw_lk g _ ha5) (by omega) dX3_borrow_72 ?_
  refine j_callVN1 (ar := 1) hC hR (c_X0_firstUnlike (hlJ hC) g σ hI hc5 ((σ).2 (1 + a.toNat) s) (by omega)) [] rfl (4 + c.toNat) (hw_bk g _ hc5) rfl rfl (by decide) (by decide +kernel) rfl wd511 wd513 wp22 wd3 wd514 (by first | decide | omega) (Nat.le_of_ble_eq_true rfl) dX3_borrow_73 ?_
  have hf73 : fuB σ c.toNat ((σ).2 (1 + a.toNat) s) = -1 ∨ (0 ≤ fuB σ c.toNat ((σ).2 (1 + a.toNat) s) ∧ fuB σ c.toNat ((σ).2 (1 + a.toNat) s) < 2304) := fuF_rg _ _ _ (by omega) 4 0 (by omega)
  refine j_istore hC dX3_borrow_76 [(7, vI (fuB σ c.toNat ((σ).2 (1 + a.toNat) s))), (6, vI ((σ).2 (6 + a.toNat) s)), (5, .ref (gd g (4 + c.toNat))), (4, .ref (gd g (4 + a.toNat))), (0, .ref (gd g (0))), (1, vI (a)), (2, vI (s)), (3, vI (c))] (by decide) rfl ?_
  refine j_iload hC dX3_borrow_78 0 rfl ?_
  refine j_iconst hC dX3_borrow_80 ?_
  refine j_icmp_ne (tgt := 94) hC dX3_borrow_81 (by decide) (by omega) (fun _ => ?_) (fun h => absurd h (by omega))
  refine j_aload hC dX3_borrow_94 2 rfl ?_
  refine j_iload hC dX3_borrow_96 0 rfl ?_
  refine j_iload hC dX3_borrow_98 1 rfl ?_
  refine j_callVN1 (ar := 2) hC hR (c_X0_append (hlJ hC) g σ hc5 (fuB σ c.toNat ((σ).2 (1 + a.toNat) s)) ((σ).2 (6 + a.toNat) s) (by omega)) [] rfl (4 + c.toNat) (hw_bk g _ hc5) rfl rfl (by decide) (by decide +kernel) rfl wd478 wd480 wp20 wd3 wd481 (by first | decide | omega) (Nat.le_of_ble_eq_true rfl) dX3_borrow_100 ?_
  exact j_iret hC dX3_borrow_103 ⟨rfl, rfl⟩
