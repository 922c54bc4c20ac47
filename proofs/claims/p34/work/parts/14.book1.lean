set_option maxHeartbeats 4000000 in
set_option maxRecDepth 100000 in
theorem lp_find {mc : MC} {g : GG} {σ : Sg} (hC : Cx mc g cX0_find RX0 3 (some .int)) (hR : mR mc = rmJ 0 0 0 0) (hI : IC σ) {b : Nat} (hb : b < 5) (x : Int) (hx : -2147483648 ≤ x ∧ x < 2147483648) : ∀ (d : Nat) (z : Int), (0 ≤ z) → (z + (d : Int) = σ.1 (2 + b)) → J mc g 0 0 (QN mc g (pt (some (vI (fnd (mnB σ b) x d z))) (σ)) 0 0) 2 [(2, vI (z)), (0, .ref (gd g (4 + b))), (1, vI (x))] [] σ := by
  intro d
  induction d with
  | zero =>
    intro z h0 hz
    have hn := hI.2.2.2.1 b hb
    refine j_iload_n hC dX0_find_2 0 rfl ?_
    refine j_aload_n hC dX0_find_3 1 rfl ?_
    refine j_get hC inX0 rfl (4 + b) (hw_bk g _ hb) 3 (by decide) wd49 rfl dX0_find_4 ?_
    refine j_icmp_ge (tgt := 28) hC dX0_find_7 (by decide) (by omega) (fun _ => ?_) (fun h => absurd h (by omega))
    refine j_iconst hC dX0_find_28 ?_
    exact j_iret hC dX0_find_29 ⟨rfl, rfl⟩
  | succ d ih =>
    intro z h0 hz
    have hn := hI.2.2.2.1 b hb
    have hm := hI.2.2.2.2.2 b hb z (by omega) (by omega)
    rw [show fnd (mnB σ b) x (d + 1) z = if mnB σ b z = x then z else fnd (mnB σ b) x d (z + 1) from rfl]
    refine j_iload_n hC dX0_find_2 0 rfl ?_
    refine j_aload_n hC dX0_find_3 1 rfl ?_
    refine j_get hC inX0 rfl (4 + b) (hw_bk g _ hb) 3 (by decide) wd49 rfl dX0_find_4 ?_
    refine j_icmp_ge (tgt := 28) hC dX0_find_7 (by decide) (by omega) (fun h => absurd h (by omega)) (fun _ => ?_)
    refine j_aload_n hC dX0_find_10 1 rfl ?_
    refine j_get hC inX0 rfl (4 + b) (hw_bk g _ hb) 2 (by decide) wd47 rfl dX0_find_11 ?_
    refine j_iload_n hC dX0_find_14 0 rfl ?_
    refine j_iald hC (14 + b) (hw_mn g _ hb) (by omega) dX0_find_15 ?_
    refine j_iload_n hC dX0_find_16 2 rfl ?_
    refine j_icmp_ne (tgt := 22) hC dX0_find_17 (by decide) (by omega) (fun h17 => ?_) (fun h17 => ?_)
    · refine j_iinc hC dX0_find_22 0 [(2, vI (z + 1)), (0, .ref (gd g (4 + b))), (1, vI (x))] rfl (by decide) rfl ?_
      refine j_goto (tgt := 2) hC dX0_find_25 (by decide) ?_
      refine j_sub [0, 1, 2] rfl ?_
      rw [if_neg h17]
      exact ih (z + 1) (by omega) (by omega)
    · refine j_iload_n hC dX0_find_20 0 rfl ?_
      exact j_iret hC dX0_find_21 ⟨by rw [if_pos h17], rfl⟩
set_option maxHeartbeats 4000000 in
set_option maxRecDepth 100000 in
theorem c_X0_find {l : Launch} (hl : l.stackTraces = false) (g : GG) (σ : Sg) (hI : IC σ) {b : Nat} (hb : b < 5) (x : Int) (hx : -2147483648 ≤ x ∧ x < 2147483648) : CN l yX0_find cX0_find 3 (some .int) 0 0 0 0 g [.ref (gd g (4 + b)), vI (x)] σ (pt (some (vI (findB σ b x))) (σ)) := by
  refine CN_of (own := RX0) hl (by decide) rfl (Nat.le_of_ble_eq_true rfl) (fun mc hC _ hR => ?_)
  refine j_lv (lv2 := [(0, .ref (gd g (4 + b))), (1, vI (x))]) rfl ?_
  have hn2 := cN_eq hI hb
  refine j_iconst hC dX0_find_0 ?_
  refine j_istore_n hC dX0_find_1 [(2, vI (0)), (0, .ref (gd g (4 + b))), (1, vI (x))] (by decide) rfl ?_
  refine j_sub [0, 1, 2] rfl ?_
  exact lp_find hC hR hI hb x hx (cN σ b) 0 (by omega) (by omega)
set_option maxHeartbeats 4000000 in
set_option maxRecDepth 100000 in
theorem c_X0_hasRoomFor {l : Launch} (hl : l.stackTraces = false) (g : GG) (σ : Sg) (hI : IC σ) {b : Nat} (hb : b < 5) (x : Int) (hx : -2147483648 ≤ x ∧ x < 2147483648) : CN l yX0_hasRoomFor cX0_hasRoomFor 2 (some .boolean) 1 22 0 0 g [.ref (gd g (4 + b)), vI (x)] σ (pt (some (vI (if σ.1 (2 + b) < 16 ∧ findB σ b x = -1 then 1 else 0))) (σ)) := by
  refine CN_of (own := RX0) hl (by decide) rfl (Nat.le_of_ble_eq_true rfl) (fun mc hC _ hR => ?_)
  refine j_lv (lv2 := [(0, .ref (gd g (4 + b))), (1, vI (x))]) rfl ?_
  have hn := hI.2.2.2.1 b hb
  refine j_aload_n hC dX0_hasRoomFor_0 0 rfl ?_
  refine j_get hC inX0 rfl (4 + b) (hw_bk g _ hb) 3 (by decide) wd49 rfl dX0_hasRoomFor_1 ?_
  refine j_bipush hC dX0_hasRoomFor_4 (by decide) ?_
  refine j_icmp_ge (tgt := 22) hC dX0_hasRoomFor_6 (by decide) (by omega) (fun h6 => ?_) (fun h6 => ?_)
  · refine j_iconst hC dX0_hasRoomFor_22 ?_
    exact j_zret hC (by decide) dX0_hasRoomFor_23 (by first | (rw [if_pos ⟨h6, h15⟩]; exact ⟨rfl, rfl⟩) | (rw [if_neg (fun z => h15 z.2)]; exact ⟨rfl, rfl⟩) | (rw [if_neg (fun z => by omega)]; exact ⟨rfl, rfl⟩))
  · refine j_aload_n hC dX0_hasRoomFor_9 0 rfl ?_
    refine j_iload_n hC dX0_hasRoomFor_10 1 rfl ?_
    refine j_callV1 (ar := 1) hC hR (c_X0_find (hlJ hC) g σ hI hb x (by omega)) [] rfl (4 + b) (hw_bk g _ hb) rfl rfl (by decide) (by decide +kernel) rfl wd330 wd218 wp6 wd3 wd219 (by first | decide | omega) (Nat.le_of_ble_eq_true rfl) dX0_hasRoomFor_11 ?_
    have hf11 := findB_rg hI hb x
    refine j_iconst hC dX0_hasRoomFor_14 ?_
    refine j_icmp_ne (tgt := 22) hC dX0_hasRoomFor_15 (by decide) (by omega) (fun h15 => ?_) (fun h15 => ?_)
    · refine j_iconst hC dX0_hasRoomFor_22 ?_
      exact j_zret hC (by decide) dX0_hasRoomFor_23 (by first | (rw [if_pos ⟨h6, h15⟩]; exact ⟨rfl, rfl⟩) | (rw [if_neg (fun z => h15 z.2)]; exact ⟨rfl, rfl⟩) | (rw [if_neg (fun z => by omega)]; exact ⟨rfl, rfl⟩))
    · refine j_iconst hC dX0_hasRoomFor_18 ?_
      refine j_goto (tgt := 23) hC dX0_hasRoomFor_19 (by decide) ?_
      exact j_zret hC (by decide) dX0_hasRoomFor_23 (by first | (rw [if_pos ⟨h6, h15⟩]; exact ⟨rfl, rfl⟩) | (rw [if_neg (fun z => h15 z.2)]; exact ⟨rfl, rfl⟩) | (rw [if_neg (fun z => by omega)]; exact ⟨rfl, rfl⟩))
set_option maxHeartbeats 4000000 in
set_option maxRecDepth 100000 in
theorem lp_hasAlike {mc : MC} {g : GG} {σ : Sg} (hC : Cx mc g cX0_hasAlike RX0 3 (some .boolean)) (hR : mR mc = rmJ 2 44 0 0) (hI : IC σ) {b : Nat} (hb : b < 5) (x : Int) (hx : 0 ≤ x ∧ x < 2304) : ∀ (d : Nat) (z : Int), (0 ≤ z) → (z + (d : Int) = σ.1 (2 + b)) → J mc g 0 0 (QN mc g (pt (some (vI (hsA (σ.2 0) (lkB σ b) x d z))) (σ)) 0 0) 2 [(2, vI (z)), (0, .ref (gd g (4 + b))), (1, vI (x))] [] σ := by
  intro d
  induction d with
  | zero =>
    intro z h0 hz
    have hn := hI.2.2.2.1 b hb
    refine j_iload_n hC dX0_hasAlike_2 0 rfl ?_
    refine j_aload_n hC dX0_hasAlike_3 1 rfl ?_
    refine j_get hC inX0 rfl (4 + b) (hw_bk g _ hb) 3 (by decide) wd49 rfl dX0_hasAlike_4 ?_
    refine j_icmp_ge (tgt := 35) hC dX0_hasAlike_7 (by decide) (by omega) (fun _ => ?_) (fun h => absurd h (by omega))
    refine j_iconst hC dX0_hasAlike_35 ?_
    exact j_zret hC (by decide) dX0_hasAlike_36 ⟨rfl, rfl⟩
  | succ d ih =>
    intro z h0 hz
    have hn := hI.2.2.2.1 b hb
    have hk := hI.2.2.2.2.1 b hb z (by omega) (by omega)
    rw [show hsA (σ.2 0) (lkB σ b) x (d + 1) z = if alk (σ.2 0) x (lkB σ b z) then 1 else hsA (σ.2 0) (lkB σ b) x d (z + 1) from rfl]
    refine j_iload_n hC dX0_hasAlike_2 0 rfl ?_
    refine j_aload_n hC dX0_hasAlike_3 1 rfl ?_
    refine j_get hC inX0 rfl (4 + b) (hw_bk g _ hb) 3 (by decide) wd49 rfl dX0_hasAlike_4 ?_
    refine j_icmp_ge (tgt := 35) hC dX0_hasAlike_7 (by decide) (by omega) (fun h => absurd h (by omega)) (fun _ => ?_)
    refine j_aload_n hC dX0_hasAlike_10 1 rfl ?_
    refine j_get hC inX0 rfl (4 + b) (hw_bk g _ hb) 0 (by decide) wd44 rfl dX0_hasAlike_11 ?_
    refine j_iload_n hC dX0_hasAlike_14 2 rfl ?_
    refine j_aload_n hC dX0_hasAlike_15 1 rfl ?_
    refine j_get hC inX0 rfl (4 + b) (hw_bk g _ hb) 1 (by decide) wd45 rfl dX0_hasAlike_16 ?_
    refine j_iload_n hC dX0_hasAlike_19 0 rfl ?_
    refine j_iald hC (9 + b) (hw_lk g _ hb) (by omega) dX0_hasAlike_20 ?_
    refine j_callVN1 (ar := 2) hC hR (c_X2_alike (hlJ hC) g σ hI x ((σ).2 (1 + b) z) (by omega)) [] rfl 1 rfl rfl rfl (by decide) (by decide +kernel) rfl wd253 wd255 wp9 wd2 wd256 (by first | decide | omega) (Nat.le_of_ble_eq_true rfl) dX0_hasAlike_21 ?_
    refine j_ifb_eq (tgt := 29) hC dX0_hasAlike_24 (by decide) (fun h24 => ?_) (fun h24 => ?_)
    · refine j_iinc hC dX0_hasAlike_29 0 [(2, vI (z + 1)), (0, .ref (gd g (4 + b))), (1, vI (x))] rfl (by decide) rfl ?_
      refine j_goto (tgt := 2) hC dX0_hasAlike_32 (by decide) ?_
      refine j_sub [0, 1, 2] rfl ?_
      rw [if_neg h24]
      exact ih (z + 1) (by omega) (by omega)
    · refine j_iconst hC dX0_hasAlike_27 ?_
      exact j_zret hC (by decide) dX0_hasAlike_28 ⟨by rw [if_pos h24], rfl⟩
set_option maxHeartbeats 4000000 in
set_option maxRecDepth 100000 in
theorem c_X0_hasAlike {l : Launch} (hl : l.stackTraces = false) (g : GG) (σ : Sg) (hI : IC σ) {b : Nat} (hb : b < 5) (x : Int) (hx : 0 ≤ x ∧ x < 2304) : CN l yX0_hasAlike cX0_hasAlike 3 (some .boolean) 2 44 0 0 g [.ref (gd g (4 + b)), vI (x)] σ (pt (some (vI (hsAB σ b x))) (σ)) := by
  refine CN_of (own := RX0) hl (by decide) rfl (Nat.le_of_ble_eq_true rfl) (fun mc hC _ hR => ?_)
  refine j_lv (lv2 := [(0, .ref (gd g (4 + b))), (1, vI (x))]) rfl ?_
  have hn2 := cN_eq hI hb
  refine j_iconst hC dX0_hasAlike_0 ?_
  refine j_istore_n hC dX0_hasAlike_1 [(2, vI (0)), (0, .ref (gd g (4 + b))), (1, vI (x))] (by decide) rfl ?_
  refine j_sub [0, 1, 2] rfl ?_
  exact lp_hasAlike hC hR hI hb x hx (cN σ b) 0 (by omega) (by omega)
set_option maxHeartbeats 4000000 in
set_option maxRecDepth 100000 in
theorem lp_firstUnlike {mc : MC} {g : GG} {σ : Sg} (hC : Cx mc g cX0_firstUnlike RX0 5 (some .int)) (hR : mR mc = rmJ 3 66 0 0) (hI : IC σ) {b : Nat} (hb : b < 5) (x : Int) (hx : 0 ≤ x ∧ x < 2304) : ∀ (d : Nat) (z : Int), (0 ≤ z) → (z + (d : Int) = 4) → J mc g 0 0 (QN mc g (pt (some (vI (fuF (σ.2 0) (lkB σ b) (cN σ b) x d z))) (σ)) 0 0) 7 [(3, vI (z)), (0, .ref (gd g (4 + b))), (1, vI (x)), (2, vI (x / 16 % 4))] [] σ := by
  intro d
  induction d with
  | zero =>
    intro z h0 hz
    refine j_iload_n hC dX0_firstUnlike_7 0 rfl ?_
    refine j_iconst hC dX0_firstUnlike_8 ?_
    refine j_icmp_ge (tgt := 41) hC dX0_firstUnlike_9 (by decide) (by omega) (fun _ => ?_) (fun h => absurd h (by omega))
    refine j_iconst hC dX0_firstUnlike_41 ?_
    exact j_iret hC dX0_firstUnlike_42 ⟨rfl, rfl⟩
  | succ d ih =>
    intro z h0 hz
    rw [show fuF (σ.2 0) (lkB σ b) (cN σ b) x (d + 1) z = if hsAB σ b (wth x ((x / 16 % 4 + z) % 4)) = 0 then wth x ((x / 16 % 4 + z) % 4) else fuF (σ.2 0) (lkB σ b) (cN σ b) x d (z + 1) from rfl]
    have hw := wth_rg (L := x) (t := (x / 16 % 4 + z) % 4) (by omega)
    refine j_iload_n hC dX0_firstUnlike_7 0 rfl ?_
    refine j_iconst hC dX0_firstUnlike_8 ?_
    refine j_icmp_ge (tgt := 41) hC dX0_firstUnlike_9 (by decide) (by omega) (fun h => absurd h (by omega)) (fun _ => ?_)
    refine j_iload_n hC dX0_firstUnlike_12 2 rfl ?_
    refine j_iload_n hC dX0_firstUnlike_13 3 rfl ?_
    refine j_iload_n hC dX0_firstUnlike_14 0 rfl ?_
    refine j_iadd hC dX0_firstUnlike_15 ?_
    refine j_iconst hC dX0_firstUnlike_16 ?_
    refine j_irem hC dX0_firstUnlike_17 (by omega) ?_
    refine j_callSN1 (ar := 2) hC hR (c_X1_withThumb (hlJ hC) g σ x (((x / 16 % 4) + z) % 4) (by omega)) [] rfl (by decide) (by decide +kernel) rfl wd515 wd499 wd11 wd500 (by first | decide | omega) (Nat.le_of_ble_eq_true rfl) dX0_firstUnlike_18 ?_
    refine j_istore hC dX0_firstUnlike_21 [(4, vI (wth x (((x / 16 % 4) + z) % 4))), (3, vI (z)), (0, .ref (gd g (4 + b))), (1, vI (x)), (2, vI (x / 16 % 4))] (by decide) rfl ?_
    refine j_aload_n hC dX0_firstUnlike_23 2 rfl ?_
    refine j_iload hC dX0_firstUnlike_24 0 rfl ?_
    refine j_callV1 (ar := 1) hC hR (c_X0_hasAlike (hlJ hC) g σ hI hb (wth x (((x / 16 % 4) + z) % 4)) (by omega)) [] rfl (4 + b) (hw_bk g _ hb) rfl rfl (by decide) (by decide +kernel) rfl wd516 wd518 wp23 wd3 wd519 (by first | decide | omega) (Nat.le_of_ble_eq_true rfl) dX0_firstUnlike_26 ?_
    have hf26 : hsAB σ b (wth x (((x / 16 % 4) + z) % 4)) = 0 ∨ hsAB σ b (wth x (((x / 16 % 4) + z) % 4)) = 1 := hsA_01 _ _ _ _ _
    refine j_if_ne (tgt := 35) hC dX0_firstUnlike_29 (by decide) (by omega) (fun h29 => ?_) (fun h29 => ?_)
    · refine j_iinc hC dX0_firstUnlike_35 1 [(3, vI (z + 1)), (4, vI (wth x (((x / 16 % 4) + z) % 4))), (0, .ref (gd g (4 + b))), (1, vI (x)), (2, vI (x / 16 % 4))] rfl (by decide) rfl ?_
      refine j_goto (tgt := 7) hC dX0_firstUnlike_38 (by decide) ?_
      refine j_sub [0, 2, 3, 4] rfl ?_
      rw [if_neg h29]
      exact ih (z + 1) (by omega) (by omega)
    · refine j_iload hC dX0_firstUnlike_32 0 rfl ?_
      exact j_iret hC dX0_firstUnlike_34 ⟨by rw [if_pos h29], rfl⟩
set_option maxHeartbeats 4000000 in
set_option maxRecDepth 100000 in
theorem c_X0_firstUnlike {l : Launch} (hl : l.stackTraces = false) (g : GG) (σ : Sg) (hI : IC σ) {b : Nat} (hb : b < 5) (x : Int) (hx : 0 ≤ x ∧ x < 2304) : CN l yX0_firstUnlike cX0_firstUnlike 5 (some .int) 3 66 0 0 g [.ref (gd g (4 + b)), vI (x)] σ (pt (some (vI (fuB σ b x))) (σ)) := by
  refine CN_of (own := RX0) hl (by decide) rfl (Nat.le_of_ble_eq_true rfl) (fun mc hC _ hR => ?_)
  refine j_lv (lv2 := [(0, .ref (gd g (4 + b))), (1, vI (x))]) rfl ?_
  refine j_iload_n hC dX0_firstUnlike_0 1 rfl ?_
  refine j_callSN1 (ar := 1) hC hR (c_X1_thumb (hlJ hC) g σ x (by omega)) [] rfl (by decide) (by decide +kernel) rfl wd268 wd205 wd11 wd206 (by first | decide | omega) (Nat.le_of_ble_eq_true rfl) dX0_firstUnlike_1 ?_
  refine j_istore_n hC dX0_firstUnlike_4 [(2, vI (x / 16 % 4)), (0, .ref (gd g (4 + b))), (1, vI (x))] (by decide) rfl ?_
  refine j_iconst hC dX0_firstUnlike_5 ?_
  refine j_istore_n hC dX0_firstUnlike_6 [(3, vI (0)), (2, vI (x / 16 % 4)), (0, .ref (gd g (4 + b))), (1, vI (x))] (by decide) rfl ?_
  refine j_sub [0, 2, 3, 1] rfl ?_
  exact lp_firstUnlike hC hR hI hb x hx 4 0 (by omega) (by omega)
set_option maxHeartbeats 4000000 in
set_option maxRecDepth 100000 in
theorem lp_countAlike_i {mc : MC} {g : GG} {σ : Sg} {Q : State → Prop} (hC : Cx mc g cX0_countAlike RX0 4 (some .int)) (hR : mR mc = rmJ 2 44 0 0) (hI : IC σ) {b : Nat} (hb : b < 5) (z : Int) (hz0 : 0 ≤ z ∧ z < σ.1 (2 + b)) : ∀ (d : Nat) (w : Int) (a : Int), (0 ≤ w) → (w + (d : Int) = σ.1 (2 + b)) → (J mc g 0 0 Q 55 [(1, vI (cnt (alC (σ.2 0) (lkB σ b) z) d w a)), (2, vI (z)), (0, .ref (gd g (4 + b)))] [] σ) → J mc g 0 0 Q 16 [(3, vI (w)), (1, vI (a)), (2, vI (z)), (0, .ref (gd g (4 + b)))] [] σ := by
  intro d
  induction d with
  | zero =>
    intro w a h0 hw kx
    have hn := hI.2.2.2.1 b hb
    refine j_iload_n hC dX0_countAlike_16 0 rfl ?_
    refine j_aload_n hC dX0_countAlike_17 3 rfl ?_
    refine j_get hC inX0 rfl (4 + b) (hw_bk g _ hb) 3 (by decide) wd49 rfl dX0_countAlike_18 ?_
    refine j_icmp_ge (tgt := 55) hC dX0_countAlike_21 (by decide) (by omega) (fun _ => ?_) (fun h => absurd h (by omega))
    refine j_sub [1, 2, 3] rfl ?_
    exact kx
  | succ d ih =>
    intro w a h0 hw kx
    have hn := hI.2.2.2.1 b hb
    have hk1 := hI.2.2.2.2.1 b hb z (by omega) (by omega)
    have hk2 := hI.2.2.2.2.1 b hb w (by omega) (by omega)
    rw [show cnt (alC (σ.2 0) (lkB σ b) z) (d + 1) w a = cnt (alC (σ.2 0) (lkB σ b) z) d (w + 1) (if alC (σ.2 0) (lkB σ b) z w = true then a + 1 else a) from rfl] at kx
    refine j_iload_n hC dX0_countAlike_16 0 rfl ?_
    refine j_aload_n hC dX0_countAlike_17 3 rfl ?_
    refine j_get hC inX0 rfl (4 + b) (hw_bk g _ hb) 3 (by decide) wd49 rfl dX0_countAlike_18 ?_
    refine j_icmp_ge (tgt := 55) hC dX0_countAlike_21 (by decide) (by omega) (fun h => absurd h (by omega)) (fun _ => ?_)
    refine j_aload_n hC dX0_countAlike_24 3 rfl ?_
    refine j_get hC inX0 rfl (4 + b) (hw_bk g _ hb) 0 (by decide) wd44 rfl dX0_countAlike_25 ?_
    refine j_aload_n hC dX0_countAlike_28 3 rfl ?_
    refine j_get hC inX0 rfl (4 + b) (hw_bk g _ hb) 1 (by decide) wd45 rfl dX0_countAlike_29 ?_
    refine j_iload_n hC dX0_countAlike_32 2 rfl ?_
    refine j_iald hC (9 + b) (hw_lk g _ hb) (by omega) dX0_countAlike_33 ?_
    refine j_aload_n hC dX0_countAlike_34 3 rfl ?_
    refine j_get hC inX0 rfl (4 + b) (hw_bk g _ hb) 1 (by decide) wd45 rfl dX0_countAlike_35 ?_
    refine j_iload_n hC dX0_countAlike_38 0 rfl ?_
    refine j_iald hC (9 + b) (hw_lk g _ hb) (by omega) dX0_countAlike_39 ?_
    refine j_callVN1 (ar := 2) hC hR (c_X2_alike (hlJ hC) g σ hI ((σ).2 (1 + b) z) ((σ).2 (1 + b) w) (by omega)) [] rfl 1 rfl rfl rfl (by decide) (by decide +kernel) rfl wd253 wd255 wp9 wd2 wd256 (by first | decide | omega) (Nat.le_of_ble_eq_true rfl) dX0_countAlike_40 ?_
    refine j_ifb_eq (tgt := 49) hC dX0_countAlike_43 (by decide) (fun h43 => ?_) (fun h43 => ?_)
    · refine j_iinc hC dX0_countAlike_49 0 [(3, vI (w + 1)), (1, vI (a)), (2, vI (z)), (0, .ref (gd g (4 + b)))] rfl (by decide) rfl ?_
      refine j_goto (tgt := 16) hC dX0_countAlike_52 (by decide) ?_
      refine j_sub [0, 1, 2, 3] rfl ?_
      first | (rw [if_pos (show alC (σ.2 0) (lkB σ b) z w = true from decide_eq_true h43)] at kx; exact ih (w + 1) (a + 1) (by omega) (by omega) kx) | (rw [if_neg (show ¬ (alC (σ.2 0) (lkB σ b) z w = true) from fun q => h43 (of_decide_eq_true q))] at kx; exact ih (w + 1) a (by omega) (by omega) kx)
    · refine j_iinc hC dX0_countAlike_46 1 [(1, vI (a + 1)), (3, vI (w)), (2, vI (z)), (0, .ref (gd g (4 + b)))] rfl (by decide) rfl ?_
      refine j_iinc hC dX0_countAlike_49 1 [(3, vI (w + 1)), (1, vI (a + 1)), (2, vI (z)), (0, .ref (gd g (4 + b)))] rfl (by decide) rfl ?_
      refine j_goto (tgt := 16) hC dX0_countAlike_52 (by decide) ?_
      refine j_sub [0, 1, 2, 3] rfl ?_
      first | (rw [if_pos (show alC (σ.2 0) (lkB σ b) z w = true from decide_eq_true h43)] at kx; exact ih (w + 1) (a + 1) (by omega) (by omega) kx) | (rw [if_neg (show ¬ (alC (σ.2 0) (lkB σ b) z w = true) from fun q => h43 (of_decide_eq_true q))] at kx; exact ih (w + 1) a (by omega) (by omega) kx)
set_option maxHeartbeats 4000000 in
set_option maxRecDepth 100000 in
theorem lp_countAlike_o {mc : MC} {g : GG} {σ : Sg} (hC : Cx mc g cX0_countAlike RX0 4 (some .int)) (hR : mR mc = rmJ 2 44 0 0) (hI : IC σ) {b : Nat} (hb : b < 5) : ∀ (d : Nat) (z : Int) (a : Int), (0 ≤ z) → (z + (d : Int) = σ.1 (2 + b)) → J mc g 0 0 (QN mc g (pt (some (vI (pO (alC (σ.2 0) (lkB σ b)) d z a))) (σ)) 0 0) 4 [(1, vI (a)), (2, vI (z)), (0, .ref (gd g (4 + b)))] [] σ := by
  intro d
  induction d with
  | zero =>
    intro z a h0 hz
    have hn := hI.2.2.2.1 b hb
    refine j_iload_n hC dX0_countAlike_4 1 rfl ?_
    refine j_aload_n hC dX0_countAlike_5 2 rfl ?_
    refine j_get hC inX0 rfl (4 + b) (hw_bk g _ hb) 3 (by decide) wd49 rfl dX0_countAlike_6 ?_
    refine j_icmp_ge (tgt := 61) hC dX0_countAlike_9 (by decide) (by omega) (fun _ => ?_) (fun h => absurd h (by omega))
    refine j_iload_n hC dX0_countAlike_61 0 rfl ?_
    exact j_iret hC dX0_countAlike_62 ⟨rfl, rfl⟩
  | succ d ih =>
    intro z a h0 hz
    have hn := hI.2.2.2.1 b hb
    rw [show pO (alC (σ.2 0) (lkB σ b)) (d + 1) z a = pO (alC (σ.2 0) (lkB σ b)) d (z + 1) (cnt (alC (σ.2 0) (lkB σ b) z) d (z + 1) a) from rfl]
    refine j_iload_n hC dX0_countAlike_4 1 rfl ?_
    refine j_aload_n hC dX0_countAlike_5 2 rfl ?_
    refine j_get hC inX0 rfl (4 + b) (hw_bk g _ hb) 3 (by decide) wd49 rfl dX0_countAlike_6 ?_
    refine j_icmp_ge (tgt := 61) hC dX0_countAlike_9 (by decide) (by omega) (fun h => absurd h (by omega)) (fun _ => ?_)
    refine j_iload_n hC dX0_countAlike_12 1 rfl ?_
    refine j_iconst hC dX0_countAlike_13 ?_
    refine j_iadd hC dX0_countAlike_14 ?_
    refine j_istore_n hC dX0_countAlike_15 [(3, vI (z + 1)), (1, vI (a)), (2, vI (z)), (0, .ref (gd g (4 + b)))] (by decide) rfl ?_
    refine j_sub [0, 1, 2, 3] rfl ?_
    refine lp_countAlike_i hC hR hI hb z (by omega) d (z + 1) a (by omega) (by omega) ?_
    refine j_iinc hC dX0_countAlike_55 1 [(2, vI (z + 1)), (1, vI (cnt (alC (σ.2 0) (lkB σ b) z) d (z + 1) a)), (0, .ref (gd g (4 + b)))] rfl (by decide) rfl ?_
    refine j_goto (tgt := 4) hC dX0_countAlike_58 (by decide) ?_
    refine j_sub [1, 0, 2] rfl ?_
    exact ih (z + 1) _ (by omega) (by omega)
set_option maxHeartbeats 4000000 in
set_option maxRecDepth 100000 in
theorem c_X0_countAlike {l : Launch} (hl : l.stackTraces = false) (g : GG) (σ : Sg) (hI : IC σ) {b : Nat} (hb : b < 5) : CN l yX0_countAlike cX0_countAlike 4 (some .int) 2 44 0 0 g [.ref (gd g (4 + b))] σ (pt (some (vI (caB σ b))) (σ)) := by
  refine CN_of (own := RX0) hl (by decide) rfl (Nat.le_of_ble_eq_true rfl) (fun mc hC _ hR => ?_)
  refine j_lv (lv2 := [(0, .ref (gd g (4 + b)))]) rfl ?_
  have hn2 := cN_eq hI hb
  refine j_iconst hC dX0_countAlike_0 ?_
  refine j_istore_n hC dX0_countAlike_1 [(1, vI (0)), (0, .ref (gd g (4 + b)))] (by decide) rfl ?_
  refine j_iconst hC dX0_countAlike_2 ?_
  refine j_istore_n hC dX0_countAlike_3 [(2, vI (0)), (1, vI (0)), (0, .ref (gd g (4 + b)))] (by decide) rfl ?_
  refine j_sub [1, 0, 2] rfl ?_
  exact lp_countAlike_o hC hR hI hb (cN σ b) 0 0 (by omega) (by omega)
set_option maxHeartbeats 4000000 in
set_option maxRecDepth 100000 in
theorem lp_countThumbApart_i {mc : MC} {g : GG} {σ : Sg} {Q : State → Prop} (hC : Cx mc g cX0_countThumbApart RX0 4 (some .int)) (hR : mR mc = rmJ 3 71 0 0) (hI : IC σ) {b : Nat} (hb : b < 5) (z : Int) (hz0 : 0 ≤ z ∧ z < σ.1 (2 + b)) : ∀ (d : Nat) (w : Int) (a : Int), (0 ≤ w) → (w + (d : Int) = σ.1 (2 + b)) → (J mc g 0 0 Q 77 [(1, vI (cnt (taC (σ.2 0) (lkB σ b) z) d w a)), (2, vI (z)), (0, .ref (gd g (4 + b)))] [] σ) → J mc g 0 0 Q 16 [(3, vI (w)), (1, vI (a)), (2, vI (z)), (0, .ref (gd g (4 + b)))] [] σ := by
  intro d
  induction d with
  | zero =>
    intro w a h0 hw kx
    have hn := hI.2.2.2.1 b hb
    refine j_iload_n hC dX0_countThumbApart_16 0 rfl ?_
    refine j_aload_n hC dX0_countThumbApart_17 3 rfl ?_
    refine j_get hC inX0 rfl (4 + b) (hw_bk g _ hb) 3 (by decide) wd49 rfl dX0_countThumbApart_18 ?_
    refine j_icmp_ge (tgt := 77) hC dX0_countThumbApart_21 (by decide) (by omega) (fun _ => ?_) (fun h => absurd h (by omega))
    refine j_sub [1, 2, 3] rfl ?_
    exact kx
  | succ d ih =>
    intro w a h0 hw kx
    have hn := hI.2.2.2.1 b hb
    have hk1 := hI.2.2.2.2.1 b hb z (by omega) (by omega)
    have hk2 := hI.2.2.2.2.1 b hb w (by omega) (by omega)
    rw [show cnt (taC (σ.2 0) (lkB σ b) z) (d + 1) w a = cnt (taC (σ.2 0) (lkB σ b) z) d (w + 1) (if taC (σ.2 0) (lkB σ b) z w = true then a + 1 else a) from rfl] at kx
    have hd := dst_rg (G := σ.2 0) (x := σ.2 (1 + b) z) (y := σ.2 (1 + b) w) ⟨hk1.1, hk1.2, hk2.1, hk2.2⟩
    refine j_iload_n hC dX0_countThumbApart_16 0 rfl ?_
    refine j_aload_n hC dX0_countThumbApart_17 3 rfl ?_
    refine j_get hC inX0 rfl (4 + b) (hw_bk g _ hb) 3 (by decide) wd49 rfl dX0_countThumbApart_18 ?_
    refine j_icmp_ge (tgt := 77) hC dX0_countThumbApart_21 (by decide) (by omega) (fun h => absurd h (by omega)) (fun _ => ?_)
    refine j_aload_n hC dX0_countThumbApart_24 3 rfl ?_
    refine j_get hC inX0 rfl (4 + b) (hw_bk g _ hb) 1 (by decide) wd45 rfl dX0_countThumbApart_25 ?_
    refine j_iload_n hC dX0_countThumbApart_28 2 rfl ?_
    refine j_iald hC (9 + b) (hw_lk g _ hb) (by omega) dX0_countThumbApart_29 ?_
    refine j_callSN1 (ar := 1) hC hR (c_X1_thumb (hlJ hC) g σ ((σ).2 (1 + b) z) (by omega)) [] rfl (by decide) (by decide +kernel) rfl wd268 wd205 wd11 wd206 (by first | decide | omega) (Nat.le_of_ble_eq_true rfl) dX0_countThumbApart_30 ?_
    refine j_aload_n hC dX0_countThumbApart_33 3 rfl ?_
    refine j_get hC inX0 rfl (4 + b) (hw_bk g _ hb) 1 (by decide) wd45 rfl dX0_countThumbApart_34 ?_
    refine j_iload_n hC dX0_countThumbApart_37 0 rfl ?_
    refine j_iald hC (9 + b) (hw_lk g _ hb) (by omega) dX0_countThumbApart_38 ?_
    refine j_callSN1 (ar := 1) hC hR (c_X1_thumb (hlJ hC) g σ ((σ).2 (1 + b) w) (by omega)) [vI (((σ).2 (1 + b) z) / 16 % 4)] rfl (by decide) (by decide +kernel) rfl wd268 wd205 wd11 wd206 (by first | decide | omega) (Nat.le_of_ble_eq_true rfl) dX0_countThumbApart_39 ?_
    refine j_icmp_eq (tgt := 71) hC dX0_countThumbApart_42 (by decide) (by omega) (fun h42 => ?_) (fun h42 => ?_)
    · refine j_iinc hC dX0_countThumbApart_71 0 [(3, vI (w + 1)), (1, vI (a)), (2, vI (z)), (0, .ref (gd g (4 + b)))] rfl (by decide) rfl ?_
      refine j_goto (tgt := 16) hC dX0_countThumbApart_74 (by decide) ?_
      refine j_sub [0, 1, 2, 3] rfl ?_
      first | (rw [if_pos (show taC (σ.2 0) (lkB σ b) z w = true from decide_eq_true ⟨h42, h65⟩)] at kx; exact ih (w + 1) (a + 1) (by omega) (by omega) kx) | (rw [if_neg (show ¬ (taC (σ.2 0) (lkB σ b) z w = true) from fun q => h65 (of_decide_eq_true q).2)] at kx; exact ih (w + 1) a (by omega) (by omega) kx) | (rw [if_neg (show ¬ (taC (σ.2 0) (lkB σ b) z w = true) from fun q => (of_decide_eq_true q).1 h42)] at kx; exact ih (w + 1) a (by omega) (by omega) kx)
    · refine j_aload_n hC dX0_countThumbApart_45 3 rfl ?_
      refine j_get hC inX0 rfl (4 + b) (hw_bk g _ hb) 0 (by decide) wd44 rfl dX0_countThumbApart_46 ?_
      refine j_aload_n hC dX0_countThumbApart_49 3 rfl ?_
      refine j_get hC inX0 rfl (4 + b) (hw_bk g _ hb) 1 (by decide) wd45 rfl dX0_countThumbApart_50 ?_
      refine j_iload_n hC dX0_countThumbApart_53 2 rfl ?_
      refine j_iald hC (9 + b) (hw_lk g _ hb) (by omega) dX0_countThumbApart_54 ?_
      refine j_aload_n hC dX0_countThumbApart_55 3 rfl ?_
      refine j_get hC inX0 rfl (4 + b) (hw_bk g _ hb) 1 (by decide) wd45 rfl dX0_countThumbApart_56 ?_
      refine j_iload_n hC dX0_countThumbApart_59 0 rfl ?_
      refine j_iald hC (9 + b) (hw_lk g _ hb) (by omega) dX0_countThumbApart_60 ?_
      refine j_callVN1 (ar := 2) hC hR (c_X2_distance (hlJ hC) g σ hI ((σ).2 (1 + b) z) ((σ).2 (1 + b) w) (by omega)) [] rfl 1 rfl rfl rfl (by decide) (by decide +kernel) rfl wd269 wd226 wp7 wd2 wd227 (by first | decide | omega) (Nat.le_of_ble_eq_true rfl) dX0_countThumbApart_61 ?_
      refine j_iconst hC dX0_countThumbApart_64 ?_
      refine j_icmp_ne (tgt := 71) hC dX0_countThumbApart_65 (by decide) (by omega) (fun h65 => ?_) (fun h65 => ?_)
      · refine j_iinc hC dX0_countThumbApart_71 0 [(3, vI (w + 1)), (1, vI (a)), (2, vI (z)), (0, .ref (gd g (4 + b)))] rfl (by decide) rfl ?_
        refine j_goto (tgt := 16) hC dX0_countThumbApart_74 (by decide) ?_
        refine j_sub [0, 1, 2, 3] rfl ?_
        first | (rw [if_pos (show taC (σ.2 0) (lkB σ b) z w = true from decide_eq_true ⟨h42, h65⟩)] at kx; exact ih (w + 1) (a + 1) (by omega) (by omega) kx) | (rw [if_neg (show ¬ (taC (σ.2 0) (lkB σ b) z w = true) from fun q => h65 (of_decide_eq_true q).2)] at kx; exact ih (w + 1) a (by omega) (by omega) kx) | (rw [if_neg (show ¬ (taC (σ.2 0) (lkB σ b) z w = true) from fun q => (of_decide_eq_true q).1 h42)] at kx; exact ih (w + 1) a (by omega) (by omega) kx)
      · refine j_iinc hC dX0_countThumbApart_68 1 [(1, vI (a + 1)), (3, vI (w)), (2, vI (z)), (0, .ref (gd g (4 + b)))] rfl (by decide) rfl ?_
        refine j_iinc hC dX0_countThumbApart_71 1 [(3, vI (w + 1)), (1, vI (a + 1)), (2, vI (z)), (0, .ref (gd g (4 + b)))] rfl (by decide) rfl ?_
        refine j_goto (tgt := 16) hC dX0_countThumbApart_74 (by decide) ?_
        refine j_sub [0, 1, 2, 3] rfl ?_
        first | (rw [if_pos (show taC (σ.2 0) (lkB σ b) z w = true from decide_eq_true ⟨h42, h65⟩)] at kx; exact ih (w + 1) (a + 1) (by omega) (by omega) kx) | (rw [if_neg (show ¬ (taC (σ.2 0) (lkB σ b) z w = true) from fun q => h65 (of_decide_eq_true q).2)] at kx; exact ih (w + 1) a (by omega) (by omega) kx) | (rw [if_neg (show ¬ (taC (σ.2 0) (lkB σ b) z w = true) from fun q => (of_decide_eq_true q).1 h42)] at kx; exact ih (w + 1) a (by omega) (by omega) kx)
set_option maxHeartbeats 4000000 in
set_option maxRecDepth 100000 in
theorem lp_countThumbApart_o {mc : MC} {g : GG} {σ : Sg} (hC : Cx mc g cX0_countThumbApart RX0 4 (some .int)) (hR : mR mc = rmJ 3 71 0 0) (hI : IC σ) {b : Nat} (hb : b < 5) : ∀ (d : Nat) (z : Int) (a : Int), (0 ≤ z) → (z + (d : Int) = σ.1 (2 + b)) → J mc g 0 0 (QN mc g (pt (some (vI (pO (taC (σ.2 0) (lkB σ b)) d z a))) (σ)) 0 0) 4 [(1, vI (a)), (2, vI (z)), (0, .ref (gd g (4 + b)))] [] σ := by
  intro d
  induction d with
  | zero =>
    intro z a h0 hz
    have hn := hI.2.2.2.1 b hb
    refine j_iload_n hC dX0_countThumbApart_4 1 rfl ?_
    refine j_aload_n hC dX0_countThumbApart_5 2 rfl ?_
    refine j_get hC inX0 rfl (4 + b) (hw_bk g _ hb) 3 (by decide) wd49 rfl dX0_countThumbApart_6 ?_
    refine j_icmp_ge (tgt := 83) hC dX0_countThumbApart_9 (by decide) (by omega) (fun _ => ?_) (fun h => absurd h (by omega))
    refine j_iload_n hC dX0_countThumbApart_83 0 rfl ?_
    exact j_iret hC dX0_countThumbApart_84 ⟨rfl, rfl⟩
  | succ d ih =>
    intro z a h0 hz
    have hn := hI.2.2.2.1 b hb
    rw [show pO (taC (σ.2 0) (lkB σ b)) (d + 1) z a = pO (taC (σ.2 0) (lkB σ b)) d (z + 1) (cnt (taC (σ.2 0) (lkB σ b) z) d (z + 1) a) from rfl]
    refine j_iload_n hC dX0_countThumbApart_4 1 rfl ?_
    refine j_aload_n hC dX0_countThumbApart_5 2 rfl ?_
    refine j_get hC inX0 rfl (4 + b) (hw_bk g _ hb) 3 (by decide) wd49 rfl dX0_countThumbApart_6 ?_
    refine j_icmp_ge (tgt := 83) hC dX0_countThumbApart_9 (by decide) (by omega) (fun h => absurd h (by omega)) (fun _ => ?_)
    refine j_iload_n hC dX0_countThumbApart_12 1 rfl ?_
    refine j_iconst hC dX0_countThumbApart_13 ?_
    refine j_iadd hC dX0_countThumbApart_14 ?_
    refine j_istore_n hC dX0_countThumbApart_15 [(3, vI (z + 1)), (1, vI (a)), (2, vI (z)), (0, .ref (gd g (4 + b)))] (by decide) rfl ?_
    refine j_sub [0, 1, 2, 3] rfl ?_
    refine lp_countThumbApart_i hC hR hI hb z (by omega) d (z + 1) a (by omega) (by omega) ?_
    refine j_iinc hC dX0_countThumbApart_77 1 [(2, vI (z + 1)), (1, vI (cnt (taC (σ.2 0) (lkB σ b) z) d (z + 1) a)), (0, .ref (gd g (4 + b)))] rfl (by decide) rfl ?_
    refine j_goto (tgt := 4) hC dX0_countThumbApart_80 (by decide) ?_
    refine j_sub [1, 0, 2] rfl ?_
    exact ih (z + 1) _ (by omega) (by omega)
set_option maxHeartbeats 4000000 in
set_option maxRecDepth 100000 in
theorem c_X0_countThumbApart {l : Launch} (hl : l.stackTraces = false) (g : GG) (σ : Sg) (hI : IC σ) {b : Nat} (hb : b < 5) : CN l yX0_countThumbApart cX0_countThumbApart 4 (some .int) 3 71 0 0 g [.ref (gd g (4 + b))] σ (pt (some (vI (ctB σ b))) (σ)) := by
  refine CN_of (own := RX0) hl (by decide) rfl (Nat.le_of_ble_eq_true rfl) (fun mc hC _ hR => ?_)
  refine j_lv (lv2 := [(0, .ref (gd g (4 + b)))]) rfl ?_
  have hn2 := cN_eq hI hb
  refine j_iconst hC dX0_countThumbApart_0 ?_
  refine j_istore_n hC dX0_countThumbApart_1 [(1, vI (0)), (0, .ref (gd g (4 + b)))] (by decide) rfl ?_
  refine j_iconst hC dX0_countThumbApart_2 ?_
  refine j_istore_n hC dX0_countThumbApart_3 [(2, vI (0)), (1, vI (0)), (0, .ref (gd g (4 + b)))] (by decide) rfl ?_
  refine j_sub [1, 0, 2] rfl ?_
  exact lp_countThumbApart_o hC hR hI hb (cN σ b) 0 0 (by omega) (by omega)
