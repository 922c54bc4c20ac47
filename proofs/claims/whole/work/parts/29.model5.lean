set_option maxHeartbeats 4000000 in
set_option maxRecDepth 100000 in
theorem lm_meanSigns {mc : MC} {g : GG} {σ : Sg} {Q : State → Prop} (hC : Cx mc g cX4_meanSigns RX4 3 (some .double)) (hR : mR mc = rmJ 0 0 0 0) (hI : IM σ) : ∀ (d : Nat) (z : Int) (u : Int), (0 ≤ z) → (z + (d : Int) = σ.1 8) → (J mc g 0 0 Q 32 [(1, vI (msMF σ d z u)), (0, .ref (gd g (19)))] [] σ) → J mc g 0 0 Q 9 [(2, vI (z)), (1, vI (u)), (0, .ref (gd g (19)))] [] σ := by
  intro d
  induction d with
  | zero =>
    intro z u h0 hz kx
    have hI1 := hI.1
    refine j_iload_n hC dX4_meanSigns_9 0 rfl ?_
    refine j_aload_n hC dX4_meanSigns_10 2 rfl ?_
    refine j_get hC inX4 rfl 19 rfl 1 (by decide) wd583 rfl dX4_meanSigns_11 ?_
    refine j_icmp_ge (tgt := 32) hC dX4_meanSigns_14 (by decide) (by omega) (fun _ => ?_) (fun h => absurd h (by omega))
    refine j_sub [1, 2] rfl ?_
    exact kx
  | succ d ih =>
    intro z u h0 hz kx
    have hI1 := hI.1
    rw [show msMF σ (d + 1) z u = msMF σ d (z + 1) (u + σ.2 11 z) from rfl] at kx
    refine j_iload_n hC dX4_meanSigns_9 0 rfl ?_
    refine j_aload_n hC dX4_meanSigns_10 2 rfl ?_
    refine j_get hC inX4 rfl 19 rfl 1 (by decide) wd583 rfl dX4_meanSigns_11 ?_
    refine j_icmp_ge (tgt := 32) hC dX4_meanSigns_14 (by decide) (by omega) (fun h => absurd h (by omega)) (fun _ => ?_)
    refine j_iload_n hC dX4_meanSigns_17 1 rfl ?_
    refine j_aload_n hC dX4_meanSigns_18 2 rfl ?_
    refine j_get hC inX4 rfl 19 rfl 2 (by decide) wd584 rfl dX4_meanSigns_19 ?_
    refine j_iload_n hC dX4_meanSigns_22 0 rfl ?_
    refine j_iald hC 20 rfl (by omega) dX4_meanSigns_23 ?_
    refine j_iadd hC dX4_meanSigns_24 ?_
    refine j_istore_n hC dX4_meanSigns_25 [(1, vI (u + ((σ).2 11 z))), (2, vI (z)), (0, .ref (gd g (19)))] (by decide) rfl ?_
    refine j_iinc hC dX4_meanSigns_26 1 [(2, vI (z + 1)), (1, vI (u + ((σ).2 11 z))), (0, .ref (gd g (19)))] rfl (by decide) rfl ?_
    refine j_goto (tgt := 9) hC dX4_meanSigns_29 (by decide) ?_
    refine j_sub [0, 1, 2] rfl ?_
    exact ih (z + 1) (u + σ.2 11 z) (by omega) (by omega) kx
set_option maxHeartbeats 4000000 in
set_option maxRecDepth 100000 in
theorem tl_meanSigns_ok {mc : MC} {g : GG} {σ : Sg} (hC : Cx mc g cX4_meanSigns RX4 3 (some .double)) (hR : mR mc = rmJ 0 0 0 0) (hI : IM σ)  : J mc g 0 0 (QN mc g (pt (some (.double (msM σ))) (σ)) 0 0) 5 [(0, .ref (gd g (19)))] [] σ := by
  have hI1 := hI.1
  have hr := msMF_rg hI (σ.1 8).toNat 0 0 (by omega) (by omega)
  refine j_iconst hC dX4_meanSigns_5 ?_
  refine j_istore_n hC dX4_meanSigns_6 [(1, vI (0)), (0, .ref (gd g (19)))] (by decide) rfl ?_
  refine j_iconst hC dX4_meanSigns_7 ?_
  refine j_istore_n hC dX4_meanSigns_8 [(2, vI (0)), (1, vI (0)), (0, .ref (gd g (19)))] (by decide) rfl ?_
  refine j_sub [0, 1, 2] rfl ?_
  refine lm_meanSigns hC hR hI (σ.1 8).toNat 0 0 (by omega) (by omega) ?_
  refine j_aload_n hC dX4_meanSigns_32 1 rfl ?_
  refine j_get hC inX4 rfl 19 rfl 1 (by decide) wd583 rfl dX4_meanSigns_33 ?_
  refine j_if_ne (tgt := 43) hC dX4_meanSigns_36 (by decide) (by omega) (fun h36 => ?_) (fun h36 => ?_)
  · refine j_iload_n hC dX4_meanSigns_43 0 rfl ?_
    refine j_i2d hC dX4_meanSigns_44 ?_
    refine j_aload_n hC dX4_meanSigns_45 1 rfl ?_
    refine j_get hC inX4 rfl 19 rfl 1 (by decide) wd583 rfl dX4_meanSigns_46 ?_
    refine j_i2d hC dX4_meanSigns_49 ?_
    have hdv := dv_ok (x := msMF σ (σ.1 8).toNat 0 0) (y := σ.1 8) (by omega) (by omega)
    refine j_ddiv hC dX4_meanSigns_50 hdv ?_
    exact j_dret hC dX4_meanSigns_51 ⟨by unfold msM; first | rw [if_neg h36] | rw [if_pos h36], rfl⟩
  · refine j_dconst0 hC dX4_meanSigns_39 ?_
    refine j_goto (tgt := 51) hC dX4_meanSigns_40 (by decide) ?_
    exact j_dret hC dX4_meanSigns_51 ⟨by unfold msM; first | rw [if_neg h36] | rw [if_pos h36], rfl⟩
set_option maxHeartbeats 4000000 in
set_option maxRecDepth 100000 in
theorem c_X4_meanSigns_ok {L0 : Launch} (hL0 : L0.stackTraces = false) (g : GG) (σ : Sg) (hI : IM σ)  : CN L0 yX4_meanSigns cX4_meanSigns 3 (some .double) 0 0 0 0 g [.ref (gd g (19))] σ (pt (some (.double (msM (sF σ 7 0)))) ((sF σ 7 0))) := by
  refine CN_of (own := RX4) hL0 (by decide) rfl (Nat.le_of_ble_eq_true rfl) (fun mc hC _ hR => ?_)
  refine j_lv (lv2 := [(0, .ref (gd g (19)))]) rfl ?_
  refine j_aload_n hC dX4_meanSigns_0 0 rfl ?_
  refine j_iconst hC dX4_meanSigns_1 ?_
  refine j_put (τ := sF (σ) 7 (0)) hC inX4 tyX4_ok nmX4 rfl 19 rfl 0 (by decide) wd582 rfl rfl (Nat.le_of_ble_eq_true rfl) rfl dX4_meanSigns_2 ?_
  exact tl_meanSigns_ok hC hR (IM_t hI (by omega)) 
set_option maxHeartbeats 4000000 in
set_option maxRecDepth 100000 in
theorem lm_aj {mc : MC} {g : GG} {σ : Sg} {qb : Nat} {Q : State → Prop} (hC : Cx mc g cX4_alikeIfJoined RX4 6 (some .int)) (hR : mR mc = rmJ 5 115 1 9) (hI : IM σ) : ∀ (d : Nat) (z : Int) (u : Int), (0 ≤ z) → (z + (d : Int) = σ.1 8) → (J mc g 1 9 Q 80 [(4, vI (caS σ d z u)), (0, .ref (gd g (19))), (3, .ref qb)] [] σ) → J mc g 1 9 Q 54 [(5, vI (z)), (4, vI (u)), (0, .ref (gd g (19))), (3, .ref qb)] [] σ := by
  intro d
  induction d with
  | zero =>
    intro z u h0 hz kx
    have hI1 := hI.1
    refine j_iload hC dX4_alikeIfJoined_54 0 rfl ?_
    refine j_aload_n hC dX4_alikeIfJoined_56 2 rfl ?_
    refine j_get hC inX4 rfl 19 rfl 1 (by decide) wd583 rfl dX4_alikeIfJoined_57 ?_
    refine j_icmp_ge (tgt := 80) hC dX4_alikeIfJoined_60 (by decide) (by omega) (fun _ => ?_) (fun h => absurd h (by omega))
    refine j_sub [1, 2, 3] rfl ?_
    exact kx
  | succ d ih =>
    intro z u h0 hz kx
    have hI1 := hI.1
    rw [show caS σ (d + 1) z u = caS σ d (z + 1) (u + caM σ z) from rfl] at kx
    refine j_iload hC dX4_alikeIfJoined_54 0 rfl ?_
    refine j_aload_n hC dX4_alikeIfJoined_56 2 rfl ?_
    refine j_get hC inX4 rfl 19 rfl 1 (by decide) wd583 rfl dX4_alikeIfJoined_57 ?_
    refine j_icmp_ge (tgt := 80) hC dX4_alikeIfJoined_60 (by decide) (by omega) (fun h => absurd h (by omega)) (fun _ => ?_)
    refine j_iload hC dX4_alikeIfJoined_63 1 rfl ?_
    refine j_aload_n hC dX4_alikeIfJoined_65 2 rfl ?_
    refine j_iload hC dX4_alikeIfJoined_66 0 rfl ?_
    refine j_callV1 (ar := 1) hC hR (c_X4_alike (hlJ hC) g σ hI z (by omega)) [vI (u)] rfl 19 rfl rfl rfl (by decide) (by decide +kernel) rfl wd758 wd760 wp43 wd4 wd761 (by decide) (Nat.le_of_ble_eq_true rfl) dX4_alikeIfJoined_68 ?_
    refine j_iadd hC dX4_alikeIfJoined_71 ?_
    refine j_istore hC dX4_alikeIfJoined_72 [(4, vI (u + (caM σ z))), (5, vI (z)), (0, .ref (gd g (19))), (3, .ref qb)] (by decide) rfl ?_
    refine j_iinc hC dX4_alikeIfJoined_74 1 [(5, vI (z + 1)), (4, vI (u + (caM σ z))), (0, .ref (gd g (19))), (3, .ref qb)] rfl (by decide) rfl ?_
    refine j_goto (tgt := 54) hC dX4_alikeIfJoined_77 (by decide) ?_
    refine j_sub [0, 1, 2, 3] rfl ?_
    exact ih (z + 1) (u + caM σ z) (by omega) (by omega) kx
set_option maxHeartbeats 4000000 in
set_option maxRecDepth 100000 in
theorem tl_alikeIfJoined_b1 {mc : MC} {g : GG} {σ : Sg} (hC : Cx mc g cX4_alikeIfJoined RX4 6 (some .int)) (hR : mR mc = rmJ 5 115 0 0) (hI : IM σ) (a b : Int) (hr : -2147483648 ≤ a ∧ a < 2147483648 ∧ -2147483648 ≤ b ∧ b < 2147483648) (hp : ¬ ((0 ≤ a ∧ a < 9) ∧ (0 ≤ b ∧ b < 9))) : J mc g 0 0 (QN mc g (pt (some (vI 0)) (sF σ 7 1)) 0 0) 5 [(0, .ref (gd g (19))), (1, vI (a)), (2, vI (b))] [] σ := by
  refine j_iload_n hC dX4_alikeIfJoined_5 1 rfl ?_
  refine j_callS1 (ar := 1) hC hR (c_X4_isPlace (hlJ hC) g σ a (by omega)) [] rfl (by decide) (by decide +kernel) rfl wd636 wd637 wd4 wd638 (by decide) (Nat.le_of_ble_eq_true rfl) dX4_alikeIfJoined_6 ?_
  refine j_ifb_eq (tgt := 19) hC dX4_alikeIfJoined_9 (by decide) (fun h9 => ?_) (fun h9 => ?_)
  · refine j_aload_n hC dX4_alikeIfJoined_19 0 rfl ?_
    refine j_iconst hC dX4_alikeIfJoined_20 ?_
    refine j_callV1 (ar := 1) hC hR (c_X4_fail (hlJ hC) g σ 1) [] rfl 19 rfl rfl rfl (by decide) (by decide +kernel) rfl wd618 wd620 wp30 wd4 wd621 (by decide) (Nat.le_of_ble_eq_true rfl) dX4_alikeIfJoined_21 ?_
    exact j_iret hC dX4_alikeIfJoined_24 ⟨rfl, rfl⟩
  · refine j_iload_n hC dX4_alikeIfJoined_12 2 rfl ?_
    refine j_callS1 (ar := 1) hC hR (c_X4_isPlace (hlJ hC) g σ b (by omega)) [] rfl (by decide) (by decide +kernel) rfl wd636 wd637 wd4 wd638 (by decide) (Nat.le_of_ble_eq_true rfl) dX4_alikeIfJoined_13 ?_
    refine j_ifb_ne (tgt := 25) hC dX4_alikeIfJoined_16 (by decide) (fun h => absurd h (by omega)) (fun _ => ?_)
    refine j_aload_n hC dX4_alikeIfJoined_19 0 rfl ?_
    refine j_iconst hC dX4_alikeIfJoined_20 ?_
    refine j_callV1 (ar := 1) hC hR (c_X4_fail (hlJ hC) g σ 1) [] rfl 19 rfl rfl rfl (by decide) (by decide +kernel) rfl wd618 wd620 wp30 wd4 wd621 (by decide) (Nat.le_of_ble_eq_true rfl) dX4_alikeIfJoined_21 ?_
    exact j_iret hC dX4_alikeIfJoined_24 ⟨rfl, rfl⟩
set_option maxHeartbeats 4000000 in
set_option maxRecDepth 100000 in
theorem c_X4_alikeIfJoined_b1 {L0 : Launch} (hL0 : L0.stackTraces = false) (g : GG) (σ : Sg) (hI : IM σ) (a b : Int) (hr : -2147483648 ≤ a ∧ a < 2147483648 ∧ -2147483648 ≤ b ∧ b < 2147483648) (hp : ¬ ((0 ≤ a ∧ a < 9) ∧ (0 ≤ b ∧ b < 9))) : CN L0 yX4_alikeIfJoined cX4_alikeIfJoined 6 (some .int) 5 115 0 0 g [.ref (gd g (19)), vI (a), vI (b)] σ (pt (some (vI 0)) (sF (sF σ 7 0) 7 1)) := by
  refine CN_of (own := RX4) hL0 (by decide) rfl (Nat.le_of_ble_eq_true rfl) (fun mc hC _ hR => ?_)
  refine j_lv (lv2 := [(0, .ref (gd g (19))), (1, vI (a)), (2, vI (b))]) rfl ?_
  refine j_aload_n hC dX4_alikeIfJoined_0 0 rfl ?_
  refine j_iconst hC dX4_alikeIfJoined_1 ?_
  refine j_put (τ := sF (σ) 7 (0)) hC inX4 tyX4_ok nmX4 rfl 19 rfl 0 (by decide) wd582 rfl rfl (Nat.le_of_ble_eq_true rfl) rfl dX4_alikeIfJoined_2 ?_
  exact tl_alikeIfJoined_b1 hC hR (IM_t hI (by omega)) a b hr hp
set_option maxHeartbeats 4000000 in
set_option maxRecDepth 100000 in
theorem tl_alikeIfJoined_ok {mc : MC} {g : GG} {σ : Sg} (hC : Cx mc g cX4_alikeIfJoined RX4 6 (some .int)) (hR : mR mc = rmJ 5 115 1 9) (hI : IM σ) (a b : Int) (hp : (0 ≤ a ∧ a < 9) ∧ (0 ≤ b ∧ b < 9)) : J mc g 0 0 (QN mc g (pt (some (vI (ajM σ a b).1)) ((ajM σ a b).2)) 1 9) 5 [(0, .ref (gd g (19))), (1, vI (a)), (2, vI (b))] [] σ := by
  have hI1 := hI.1
  have hIj := IM_jn hI (a := a) (b := b) (by omega)
  refine j_iload_n hC dX4_alikeIfJoined_5 1 rfl ?_
  refine j_callS1 (ar := 1) hC hR (c_X4_isPlace (hlJ hC) g σ a (by omega)) [] rfl (by decide) (by decide +kernel) rfl wd636 wd637 wd4 wd638 (by decide) (Nat.le_of_ble_eq_true rfl) dX4_alikeIfJoined_6 ?_
  refine j_ifb_eq (tgt := 19) hC dX4_alikeIfJoined_9 (by decide) (fun h => (h (by omega)).elim) (fun _ => ?_)
  refine j_iload_n hC dX4_alikeIfJoined_12 2 rfl ?_
  refine j_callS1 (ar := 1) hC hR (c_X4_isPlace (hlJ hC) g σ b (by omega)) [] rfl (by decide) (by decide +kernel) rfl wd636 wd637 wd4 wd638 (by decide) (Nat.le_of_ble_eq_true rfl) dX4_alikeIfJoined_13 ?_
  refine j_ifb_ne (tgt := 25) hC dX4_alikeIfJoined_16 (by decide) (fun _ => ?_) (fun h => (h (by omega)).elim)
  refine j_bipush hC dX4_alikeIfJoined_25 (by decide) ?_
  refine j_newE hC hR 9 rfl (by omega) wd37 (by omega) dX4_alikeIfJoined_27 (fun qa hCa => ?_)
  refine j_astore_n hCa dX4_alikeIfJoined_29 [(3, .ref qa), (0, .ref (gd (gP g qa (fun _ => 0) 9) (19))), (1, vI (a)), (2, vI (b))] (by decide) rfl ?_
  refine j_aload_n hCa dX4_alikeIfJoined_30 1 rfl ?_
  refine j_get hCa inX4 rfl 19 rfl 8 (by decide) wd590 rfl dX4_alikeIfJoined_31 ?_
  refine j_iconst hCa dX4_alikeIfJoined_34 ?_
  refine j_aload_n hCa dX4_alikeIfJoined_35 0 rfl ?_
  refine j_iconst hCa dX4_alikeIfJoined_36 ?_
  refine j_bipush hCa dX4_alikeIfJoined_37 (by decide) ?_
  refine j_copyE hCa hR wd838 26 rfl (by decide) ⟨by decide, Nat.le_of_ble_eq_true rfl⟩ dX4_alikeIfJoined_39 (fun hCb => ?_)
  refine j_aload_n hCb dX4_alikeIfJoined_42 1 rfl ?_
  refine j_iload_n hCb dX4_alikeIfJoined_43 2 rfl ?_
  refine j_iload_n hCb dX4_alikeIfJoined_44 3 rfl ?_
  refine j_callV0 (ar := 2) hCb hR (c_X4_joinNow (hlJ hCb) (gP g qa (wrG σ) 9) σ hI a b (by omega)) [] rfl 19 rfl rfl rfl (by decide) (by decide +kernel) rfl wd669 wd671 wp35 wd4 wd672 (by decide) (Nat.le_of_ble_eq_true rfl) dX4_alikeIfJoined_45 ?_
  refine j_iconst hCb dX4_alikeIfJoined_48 ?_
  refine j_istore hCb dX4_alikeIfJoined_49 [(4, vI (0)), (3, .ref qa), (0, .ref (gd (gP g qa (wrG σ) 9) (19))), (1, vI (a)), (2, vI (b))] (by decide) rfl ?_
  refine j_iconst hCb dX4_alikeIfJoined_51 ?_
  refine j_istore hCb dX4_alikeIfJoined_52 [(5, vI (0)), (4, vI (0)), (3, .ref qa), (0, .ref (gd (gP g qa (wrG σ) 9) (19))), (1, vI (a)), (2, vI (b))] (by decide) rfl ?_
  refine j_sub [0, 1, 3, 2] rfl ?_
  refine lm_aj hCb hR hIj (σ.1 8).toNat 0 0 (by omega) (by rw [jnM_1]; omega) ?_
  refine j_aload_n hCb dX4_alikeIfJoined_80 2 rfl ?_
  refine j_iconst hCb dX4_alikeIfJoined_81 ?_
  refine j_aload_n hCb dX4_alikeIfJoined_82 1 rfl ?_
  refine j_get hCb inX4 rfl 19 rfl 8 (by decide) wd590 rfl dX4_alikeIfJoined_83 ?_
  refine j_iconst hCb dX4_alikeIfJoined_86 ?_
  refine j_bipush hCb dX4_alikeIfJoined_87 (by decide) ?_
  refine j_copy (m0 := 9) (τ := bkM (jnM σ a b) (wrG σ)) hCb hR wd838 _ 26 (hw_q g qa (wrG σ) 9 _) rfl (by decide) rfl ⟨by decide, Nat.le_of_ble_eq_true rfl⟩ dX4_alikeIfJoined_89 ?_
  refine j_drop ?_
  refine j_iload hC dX4_alikeIfJoined_92 0 rfl ?_
  exact j_iret hC dX4_alikeIfJoined_94 ⟨rfl, rfl⟩
set_option maxHeartbeats 4000000 in
set_option maxRecDepth 100000 in
theorem c_X4_alikeIfJoined_ok {L0 : Launch} (hL0 : L0.stackTraces = false) (g : GG) (σ : Sg) (hI : IM σ) (a b : Int) (hp : (0 ≤ a ∧ a < 9) ∧ (0 ≤ b ∧ b < 9)) : CN L0 yX4_alikeIfJoined cX4_alikeIfJoined 6 (some .int) 5 115 1 9 g [.ref (gd g (19)), vI (a), vI (b)] σ (pt (some (vI (ajM (sF σ 7 0) a b).1)) ((ajM (sF σ 7 0) a b).2)) := by
  refine CN_of (own := RX4) hL0 (by decide) rfl (Nat.le_of_ble_eq_true rfl) (fun mc hC _ hR => ?_)
  refine j_lv (lv2 := [(0, .ref (gd g (19))), (1, vI (a)), (2, vI (b))]) rfl ?_
  refine j_aload_n hC dX4_alikeIfJoined_0 0 rfl ?_
  refine j_iconst hC dX4_alikeIfJoined_1 ?_
  refine j_put (τ := sF (σ) 7 (0)) hC inX4 tyX4_ok nmX4 rfl 19 rfl 0 (by decide) wd582 rfl rfl (Nat.le_of_ble_eq_true rfl) rfl dX4_alikeIfJoined_2 ?_
  exact tl_alikeIfJoined_ok hC hR (IM_t hI (by omega)) a b hp
