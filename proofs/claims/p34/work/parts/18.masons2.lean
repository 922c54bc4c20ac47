set_option maxHeartbeats 4000000 in
set_option maxRecDepth 100000 in
theorem lp_meanSigns {mc : MC} {g : GG} {σ : Sg} (hC : Cx mc g cX3_meanSigns RX3 3 (some .double)) (hR : mR mc = rmJ 0 0 0 0) (hI : IC σ) (h1 : 0 < σ.1 0) : ∀ (d : Nat) (z : Int) (a : Int), (0 ≤ z) → (z + (d : Int) = σ.1 0) → (0 ≤ a ∧ a ≤ 16 * z) → J mc g 0 0 (QN mc g (pt (some (.double (FP.ddiv (FP.i2d (iI (msF σ d z a))) (FP.i2d (iI (σ.1 0)))))) (σ)) 0 0) 13 [(2, vI (z)), (1, vI (a)), (0, .ref (gd g (0)))] [] σ := by
  intro d
  induction d with
  | zero =>
    intro z a h0 hz ha
    have hI1 := hI.1
    have hdv := dv_ok (x := a) (y := σ.1 0) (by omega) (by omega)
    refine j_iload_n hC dX3_meanSigns_13 0 rfl ?_
    refine j_aload_n hC dX3_meanSigns_14 2 rfl ?_
    refine j_get hC inX3 rfl 0 rfl 3 (by decide) wd63 rfl dX3_meanSigns_15 ?_
    refine j_icmp_ge (tgt := 39) hC dX3_meanSigns_18 (by decide) (by omega) (fun _ => ?_) (fun h => absurd h (by omega))
    refine j_iload_n hC dX3_meanSigns_39 1 rfl ?_
    refine j_i2d hC dX3_meanSigns_40 ?_
    refine j_aload_n hC dX3_meanSigns_41 2 rfl ?_
    refine j_get hC inX3 rfl 0 rfl 3 (by decide) wd63 rfl dX3_meanSigns_42 ?_
    refine j_i2d hC dX3_meanSigns_45 ?_
    refine j_ddiv hC dX3_meanSigns_46 hdv ?_
    exact j_dret hC dX3_meanSigns_47 ⟨rfl, rfl⟩
  | succ d ih =>
    intro z a h0 hz ha
    have hI1 := hI.1
    have hz5 : z.toNat < 5 := by omega
    have hcz := hI.2.2.2.1 z.toNat hz5
    rw [show msF σ (d + 1) z a = msF σ d (z + 1) (a + σ.1 (2 + z.toNat)) from rfl]
    refine j_iload_n hC dX3_meanSigns_13 0 rfl ?_
    refine j_aload_n hC dX3_meanSigns_14 2 rfl ?_
    refine j_get hC inX3 rfl 0 rfl 3 (by decide) wd63 rfl dX3_meanSigns_15 ?_
    refine j_icmp_ge (tgt := 39) hC dX3_meanSigns_18 (by decide) (by omega) (fun h => absurd h (by omega)) (fun _ => ?_)
    refine j_iload_n hC dX3_meanSigns_21 1 rfl ?_
    refine j_aload_n hC dX3_meanSigns_22 2 rfl ?_
    refine j_get hC inX3 rfl 0 rfl 1 (by decide) wd61 rfl dX3_meanSigns_23 ?_
    refine j_iload_n hC dX3_meanSigns_26 0 rfl ?_
    refine j_aald hC (by omega) dX3_meanSigns_27 ?_
    refine j_getN hC inX0 rfl (4 + z.toNat) (hw_bk g _ hz5) 3 (by decide) wd50 rfl dX3_meanSigns_28 ?_
    refine j_iadd hC dX3_meanSigns_31 ?_
    refine j_istore_n hC dX3_meanSigns_32 [(1, vI (a + ((σ).1 (2 + z.toNat)))), (2, vI (z)), (0, .ref (gd g (0)))] (by decide) rfl ?_
    refine j_iinc hC dX3_meanSigns_33 1 [(2, vI (z + 1)), (1, vI (a + ((σ).1 (2 + z.toNat)))), (0, .ref (gd g (0)))] rfl (by decide) rfl ?_
    refine j_goto (tgt := 13) hC dX3_meanSigns_36 (by decide) ?_
    refine j_sub [0, 1, 2] rfl ?_
    exact ih (z + 1) _ (by omega) (by omega) (by omega)
set_option maxHeartbeats 4000000 in
set_option maxRecDepth 100000 in
theorem c_X3_meanSigns {l : Launch} (hl : l.stackTraces = false) (g : GG) (σ : Sg) (hI : IC σ)  : CN l yX3_meanSigns cX3_meanSigns 3 (some .double) 0 0 0 0 g [.ref (gd g (0))] σ (pt (some (.double (msB σ))) (σ)) := by
  refine CN_of (own := RX3) hl (by decide) rfl (Nat.le_of_ble_eq_true rfl) (fun mc hC _ hR => ?_)
  refine j_lv (lv2 := [(0, .ref (gd g (0)))]) rfl ?_
  have hI1 := hI.1
  refine j_aload_n hC dX3_meanSigns_0 0 rfl ?_
  refine j_get hC inX3 rfl 0 rfl 3 (by decide) wd63 rfl dX3_meanSigns_1 ?_
  refine j_if_ne (tgt := 9) hC dX3_meanSigns_4 (by decide) (by omega) (fun h4 => ?_) (fun h4 => ?_)
  · refine j_iconst hC dX3_meanSigns_9 ?_
    refine j_istore_n hC dX3_meanSigns_10 [(1, vI (0)), (0, .ref (gd g (0)))] (by decide) rfl ?_
    refine j_iconst hC dX3_meanSigns_11 ?_
    refine j_istore_n hC dX3_meanSigns_12 [(2, vI (0)), (1, vI (0)), (0, .ref (gd g (0)))] (by decide) rfl ?_
    refine j_sub [0, 1, 2] rfl ?_
    rw [show msB σ = FP.ddiv (FP.i2d (iI (msF σ (σ.1 0).toNat 0 0))) (FP.i2d (iI (σ.1 0))) from if_neg (by omega)]
    exact lp_meanSigns hC hR hI (by omega) (σ.1 0).toNat 0 0 (by omega) (by omega) (by omega)
  · refine j_dconst0 hC dX3_meanSigns_7 ?_
    exact j_dret hC dX3_meanSigns_8 ⟨by unfold msB; rw [if_pos h4], rfl⟩
