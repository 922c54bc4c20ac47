set_option maxHeartbeats 4000000 in
set_option maxRecDepth 100000 in
theorem lm_alike_i {mc : MC} {g : GG} {σ : Sg} {Q : State → Prop} (hC : Cx mc g cX4_alike RX4 5 (some .int)) (hR : mR mc = rmJ 4 91 0 0) (hI : IM σ) (l j : Int) (hl : 0 ≤ l ∧ l < 4) (hj : 16 * l ≤ j ∧ j < 16 * l + σ.2 11 l) : ∀ (d : Nat) (w : Int) (a : Int), (16 * l ≤ w) → (w + (d : Int) = j) → (J mc g 0 0 Q 59 [(2, vI (cnt (alM σ j) d w a)), (3, vI (j)), (0, .ref (gd g (19))), (1, vI (l))] [] σ) → J mc g 0 0 Q 29 [(4, vI (w)), (2, vI (a)), (3, vI (j)), (0, .ref (gd g (19))), (1, vI (l))] [] σ := by
  intro d
  induction d with
  | zero =>
    intro w a h0 hw kx
    have hn := hI.2.2.1 l hl.1 hl.2
    refine j_iload hC dX4_alike_29 0 rfl ?_
    refine j_iload_n hC dX4_alike_31 2 rfl ?_
    refine j_icmp_ge (tgt := 59) hC dX4_alike_32 (by decide) (by omega) (fun _ => ?_) (fun h => absurd h (by omega))
    refine j_sub [1, 2, 3, 4] rfl ?_
    exact kx
  | succ d ih =>
    intro w a h0 hw kx
    have hn := hI.2.2.1 l hl.1 hl.2
    have hd := dst_rg (G := σ.2 17) (x := lkM σ j) (y := lkM σ w) ⟨(lkM_rg hI (by omega)).1, (lkM_rg hI (by omega)).2, (lkM_rg hI (by omega)).1, (lkM_rg hI (by omega)).2⟩
    rw [show cnt (alM σ j) (d + 1) w a = cnt (alM σ j) d (w + 1) (if alM σ j w = true then a + 1 else a) from rfl] at kx
    refine j_iload hC dX4_alike_29 0 rfl ?_
    refine j_iload_n hC dX4_alike_31 2 rfl ?_
    refine j_icmp_ge (tgt := 59) hC dX4_alike_32 (by decide) (by omega) (fun h => absurd h (by omega)) (fun _ => ?_)
    refine j_iload_n hC dX4_alike_35 1 rfl ?_
    refine j_aload_n hC dX4_alike_36 3 rfl ?_
    refine j_iload_n hC dX4_alike_37 2 rfl ?_
    refine j_iload hC dX4_alike_38 0 rfl ?_
    refine j_callV1 (ar := 2) hC hR (c_X4_far2 (hlJ hC) g σ hI j w (by omega)) [vI (a)] rfl 19 rfl rfl rfl (by decide) (by decide +kernel) rfl wd750 wd752 wp42 wd4 wd753 (by decide) (Nat.le_of_ble_eq_true rfl) dX4_alike_40 ?_
    have hd40 := dst_rg (G := σ.2 17) (x := lkM σ j) (y := lkM σ w) ⟨(lkM_rg hI (by omega)).1, (lkM_rg hI (by omega)).2, (lkM_rg hI (by omega)).1, (lkM_rg hI (by omega)).2⟩
    refine j_if_ne (tgt := 50) hC dX4_alike_43 (by decide) (by omega) (fun h43 => ?_) (fun h43 => ?_)
    · refine j_iconst hC dX4_alike_50 ?_
      refine j_iadd hC dX4_alike_51 ?_
      refine j_istore_n hC dX4_alike_52 [(2, vI (a + 0)), (4, vI (w)), (3, vI (j)), (0, .ref (gd g (19))), (1, vI (l))] (by decide) rfl ?_
      refine j_iinc hC dX4_alike_53 1 [(4, vI (w + 1)), (2, vI (a + 0)), (3, vI (j)), (0, .ref (gd g (19))), (1, vI (l))] rfl (by decide) rfl ?_
      refine j_goto (tgt := 29) hC dX4_alike_56 (by decide) ?_
      refine j_sub [0, 1, 2, 3, 4] rfl ?_
      first | (rw [if_pos (show alM σ j w = true from decide_eq_true h43)] at kx; exact ih (w + 1) (a + 1) (by omega) (by omega) kx) | (rw [if_neg (show ¬ (alM σ j w = true) from fun q => h43 (of_decide_eq_true q))] at kx; rw [Int.add_zero a]; exact ih (w + 1) a (by omega) (by omega) kx)
    · refine j_iconst hC dX4_alike_46 ?_
      refine j_goto (tgt := 51) hC dX4_alike_47 (by decide) ?_
      refine j_iadd hC dX4_alike_51 ?_
      refine j_istore_n hC dX4_alike_52 [(2, vI (a + 1)), (4, vI (w)), (3, vI (j)), (0, .ref (gd g (19))), (1, vI (l))] (by decide) rfl ?_
      refine j_iinc hC dX4_alike_53 1 [(4, vI (w + 1)), (2, vI (a + 1)), (3, vI (j)), (0, .ref (gd g (19))), (1, vI (l))] rfl (by decide) rfl ?_
      refine j_goto (tgt := 29) hC dX4_alike_56 (by decide) ?_
      refine j_sub [0, 1, 2, 3, 4] rfl ?_
      first | (rw [if_pos (show alM σ j w = true from decide_eq_true h43)] at kx; exact ih (w + 1) (a + 1) (by omega) (by omega) kx) | (rw [if_neg (show ¬ (alM σ j w = true) from fun q => h43 (of_decide_eq_true q))] at kx; rw [Int.add_zero a]; exact ih (w + 1) a (by omega) (by omega) kx)
set_option maxHeartbeats 4000000 in
set_option maxRecDepth 100000 in
theorem lm_alike_o {mc : MC} {g : GG} {σ : Sg} (hC : Cx mc g cX4_alike RX4 5 (some .int)) (hR : mR mc = rmJ 4 91 0 0) (hI : IM σ) (l : Int) (hl : 0 ≤ l ∧ l < 4) : ∀ (d : Nat) (j : Int) (a : Int), (16 * l ≤ j) → (j + (d : Int) = 16 * l + σ.2 11 l) → J mc g 0 0 (QN mc g (pt (some (vI (pMF (alM σ) (16 * l + 0) d j a))) (σ)) 0 0) 8 [(3, vI (j)), (2, vI (a)), (0, .ref (gd g (19))), (1, vI (l))] [] σ := by
  intro d
  induction d with
  | zero =>
    intro j a h0 hz
    have hn := hI.2.2.1 l hl.1 hl.2
    refine j_iload_n hC dX4_alike_8 0 rfl ?_
    refine j_iload_n hC dX4_alike_9 3 rfl ?_
    refine j_aload_n hC dX4_alike_10 2 rfl ?_
    refine j_get hC inX4 rfl 19 rfl 2 (by decide) wd584 rfl dX4_alike_11 ?_
    refine j_iload_n hC dX4_alike_14 3 rfl ?_
    refine j_iald hC 20 rfl (by omega) dX4_alike_15 ?_
    refine j_callS1 (ar := 2) hC hR (c_X4_at (hlJ hC) g σ l ((σ).2 11 l) ) [vI (j)] rfl (by decide) (by decide +kernel) rfl wd643 wd644 wd4 wd645 (by decide) (Nat.le_of_ble_eq_true rfl) dX4_alike_16 ?_
    refine j_icmp_ge (tgt := 65) hC dX4_alike_19 (by decide) (by omega) (fun _ => ?_) (fun h => absurd h (by omega))
    refine j_iload_n hC dX4_alike_65 1 rfl ?_
    exact j_iret hC dX4_alike_66 ⟨rfl, rfl⟩
  | succ d ih =>
    intro j a h0 hz
    have hn := hI.2.2.1 l hl.1 hl.2
    rw [show pMF (alM σ) (16 * l + 0) (d + 1) j a = pMF (alM σ) (16 * l + 0) d (j + 1) (cnt (alM σ j) (j - (16 * l + 0)).toNat (16 * l + 0) a) from rfl]
    refine j_iload_n hC dX4_alike_8 0 rfl ?_
    refine j_iload_n hC dX4_alike_9 3 rfl ?_
    refine j_aload_n hC dX4_alike_10 2 rfl ?_
    refine j_get hC inX4 rfl 19 rfl 2 (by decide) wd584 rfl dX4_alike_11 ?_
    refine j_iload_n hC dX4_alike_14 3 rfl ?_
    refine j_iald hC 20 rfl (by omega) dX4_alike_15 ?_
    refine j_callS1 (ar := 2) hC hR (c_X4_at (hlJ hC) g σ l ((σ).2 11 l) ) [vI (j)] rfl (by decide) (by decide +kernel) rfl wd643 wd644 wd4 wd645 (by decide) (Nat.le_of_ble_eq_true rfl) dX4_alike_16 ?_
    refine j_icmp_ge (tgt := 65) hC dX4_alike_19 (by decide) (by omega) (fun h => absurd h (by omega)) (fun _ => ?_)
    refine j_iload_n hC dX4_alike_22 3 rfl ?_
    refine j_iconst hC dX4_alike_23 ?_
    refine j_callS1 (ar := 2) hC hR (c_X4_at (hlJ hC) g σ l 0 ) [] rfl (by decide) (by decide +kernel) rfl wd643 wd644 wd4 wd645 (by decide) (Nat.le_of_ble_eq_true rfl) dX4_alike_24 ?_
    refine j_istore hC dX4_alike_27 [(4, vI (16 * l + 0)), (3, vI (j)), (2, vI (a)), (0, .ref (gd g (19))), (1, vI (l))] (by decide) rfl ?_
    refine j_sub [0, 2, 1, 3, 4] rfl ?_
    refine lm_alike_i hC hR hI l j hl (by omega) (j - (16 * l + 0)).toNat (16 * l + 0) a (by omega) (by omega) ?_
    refine j_iinc hC dX4_alike_59 1 [(3, vI (j + 1)), (2, vI (cnt (alM σ j) (j - (16 * l + 0)).toNat (16 * l + 0) a)), (0, .ref (gd g (19))), (1, vI (l))] rfl (by decide) rfl ?_
    refine j_goto (tgt := 8) hC dX4_alike_62 (by decide) ?_
    refine j_sub [0, 1, 2, 3] rfl ?_
    exact ih (j + 1) _ (by omega) (by omega)
set_option maxHeartbeats 4000000 in
set_option maxRecDepth 100000 in
theorem c_X4_alike {L0 : Launch} (hL0 : L0.stackTraces = false) (g : GG) (σ : Sg) (hI : IM σ) (l : Int) (hl : 0 ≤ l ∧ l < 4) : CN L0 yX4_alike cX4_alike 5 (some .int) 4 91 0 0 g [.ref (gd g (19)), vI (l)] σ (pt (some (vI (caM σ l))) (σ)) := by
  refine CN_of (own := RX4) hL0 (by decide) rfl (Nat.le_of_ble_eq_true rfl) (fun mc hC _ hR => ?_)
  refine j_lv (lv2 := [(0, .ref (gd g (19))), (1, vI (l))]) rfl ?_
  have hn := hI.2.2.1 l hl.1 hl.2
  have hn2 := nM_eq hI hl
  refine j_iconst hC dX4_alike_0 ?_
  refine j_istore_n hC dX4_alike_1 [(2, vI (0)), (0, .ref (gd g (19))), (1, vI (l))] (by decide) rfl ?_
  refine j_iload_n hC dX4_alike_2 2 rfl ?_
  refine j_iconst hC dX4_alike_3 ?_
  refine j_callS1 (ar := 2) hC hR (c_X4_at (hlJ hC) g σ l 0 ) [] rfl (by decide) (by decide +kernel) rfl wd643 wd644 wd4 wd645 (by decide) (Nat.le_of_ble_eq_true rfl) dX4_alike_4 ?_
  refine j_istore_n hC dX4_alike_7 [(3, vI (16 * l + 0)), (2, vI (0)), (0, .ref (gd g (19))), (1, vI (l))] (by decide) rfl ?_
  refine j_sub [0, 1, 2, 3] rfl ?_
  exact lm_alike_o hC hR hI l hl (nM σ l) _ 0 (by omega) (by omega)
set_option maxHeartbeats 4000000 in
set_option maxRecDepth 100000 in
theorem lm_thumbs_i {mc : MC} {g : GG} {σ : Sg} {Q : State → Prop} (hC : Cx mc g cX4_thumbs RX4 5 (some .int)) (hR : mR mc = rmJ 4 91 0 0) (hI : IM σ) (l j : Int) (hl : 0 ≤ l ∧ l < 4) (hj : 16 * l ≤ j ∧ j < 16 * l + σ.2 11 l) : ∀ (d : Nat) (w : Int) (a : Int), (16 * l ≤ w) → (w + (d : Int) = j) → (J mc g 0 0 Q 76 [(2, vI (cnt (thM σ j) d w a)), (3, vI (j)), (0, .ref (gd g (19))), (1, vI (l))] [] σ) → J mc g 0 0 Q 29 [(4, vI (w)), (2, vI (a)), (3, vI (j)), (0, .ref (gd g (19))), (1, vI (l))] [] σ := by
  intro d
  induction d with
  | zero =>
    intro w a h0 hw kx
    have hn := hI.2.2.1 l hl.1 hl.2
    refine j_iload hC dX4_thumbs_29 0 rfl ?_
    refine j_iload_n hC dX4_thumbs_31 2 rfl ?_
    refine j_icmp_ge (tgt := 76) hC dX4_thumbs_32 (by decide) (by omega) (fun _ => ?_) (fun h => absurd h (by omega))
    refine j_sub [1, 2, 3, 4] rfl ?_
    exact kx
  | succ d ih =>
    intro w a h0 hw kx
    have hn := hI.2.2.1 l hl.1 hl.2
    have hd := dst_rg (G := σ.2 17) (x := lkM σ j) (y := lkM σ w) ⟨(lkM_rg hI (by omega)).1, (lkM_rg hI (by omega)).2, (lkM_rg hI (by omega)).1, (lkM_rg hI (by omega)).2⟩
    have ht1 := hI.2.2.2.2.1 j (by omega) (by omega)
    have ht2 := hI.2.2.2.2.1 w (by omega) (by omega)
    rw [show cnt (thM σ j) (d + 1) w a = cnt (thM σ j) d (w + 1) (if thM σ j w = true then a + 1 else a) from rfl] at kx
    refine j_iload hC dX4_thumbs_29 0 rfl ?_
    refine j_iload_n hC dX4_thumbs_31 2 rfl ?_
    refine j_icmp_ge (tgt := 76) hC dX4_thumbs_32 (by decide) (by omega) (fun h => absurd h (by omega)) (fun _ => ?_)
    refine j_iload_n hC dX4_thumbs_35 1 rfl ?_
    refine j_aload_n hC dX4_thumbs_36 3 rfl ?_
    refine j_get hC inX4 rfl 19 rfl 4 (by decide) wd586 rfl dX4_thumbs_37 ?_
    refine j_iload_n hC dX4_thumbs_40 2 rfl ?_
    refine j_iald hC 22 rfl (by omega) dX4_thumbs_41 ?_
    refine j_aload_n hC dX4_thumbs_42 3 rfl ?_
    refine j_get hC inX4 rfl 19 rfl 4 (by decide) wd586 rfl dX4_thumbs_43 ?_
    refine j_iload hC dX4_thumbs_46 0 rfl ?_
    refine j_iald hC 22 rfl (by omega) dX4_thumbs_48 ?_
    refine j_icmp_eq (tgt := 67) hC dX4_thumbs_49 (by decide) (by omega) (fun h49 => ?_) (fun h49 => ?_)
    · refine j_iconst hC dX4_thumbs_67 ?_
      refine j_iadd hC dX4_thumbs_68 ?_
      refine j_istore_n hC dX4_thumbs_69 [(2, vI (a + 0)), (4, vI (w)), (3, vI (j)), (0, .ref (gd g (19))), (1, vI (l))] (by decide) rfl ?_
      refine j_iinc hC dX4_thumbs_70 1 [(4, vI (w + 1)), (2, vI (a + 0)), (3, vI (j)), (0, .ref (gd g (19))), (1, vI (l))] rfl (by decide) rfl ?_
      refine j_goto (tgt := 29) hC dX4_thumbs_73 (by decide) ?_
      refine j_sub [0, 1, 2, 3, 4] rfl ?_
      first | (rw [if_pos (show thM σ j w = true from decide_eq_true ⟨h49, h60⟩)] at kx; exact ih (w + 1) (a + 1) (by omega) (by omega) kx) | (rw [if_neg (show ¬ (thM σ j w = true) from fun q => (of_decide_eq_true q).1 h49)] at kx; rw [Int.add_zero a]; exact ih (w + 1) a (by omega) (by omega) kx) | (rw [if_neg (show ¬ (thM σ j w = true) from fun q => h60 (of_decide_eq_true q).2)] at kx; rw [Int.add_zero a]; exact ih (w + 1) a (by omega) (by omega) kx)
    · refine j_aload_n hC dX4_thumbs_52 3 rfl ?_
      refine j_iload_n hC dX4_thumbs_53 2 rfl ?_
      refine j_iload hC dX4_thumbs_54 0 rfl ?_
      refine j_callV1 (ar := 2) hC hR (c_X4_far2 (hlJ hC) g σ hI j w (by omega)) [vI (a)] rfl 19 rfl rfl rfl (by decide) (by decide +kernel) rfl wd750 wd752 wp42 wd4 wd753 (by decide) (Nat.le_of_ble_eq_true rfl) dX4_thumbs_56 ?_
      have hd56 := dst_rg (G := σ.2 17) (x := lkM σ j) (y := lkM σ w) ⟨(lkM_rg hI (by omega)).1, (lkM_rg hI (by omega)).2, (lkM_rg hI (by omega)).1, (lkM_rg hI (by omega)).2⟩
      refine j_iconst hC dX4_thumbs_59 ?_
      refine j_icmp_ne (tgt := 67) hC dX4_thumbs_60 (by decide) (by omega) (fun h60 => ?_) (fun h60 => ?_)
      · refine j_iconst hC dX4_thumbs_67 ?_
        refine j_iadd hC dX4_thumbs_68 ?_
        refine j_istore_n hC dX4_thumbs_69 [(2, vI (a + 0)), (4, vI (w)), (3, vI (j)), (0, .ref (gd g (19))), (1, vI (l))] (by decide) rfl ?_
        refine j_iinc hC dX4_thumbs_70 1 [(4, vI (w + 1)), (2, vI (a + 0)), (3, vI (j)), (0, .ref (gd g (19))), (1, vI (l))] rfl (by decide) rfl ?_
        refine j_goto (tgt := 29) hC dX4_thumbs_73 (by decide) ?_
        refine j_sub [0, 1, 2, 3, 4] rfl ?_
        first | (rw [if_pos (show thM σ j w = true from decide_eq_true ⟨h49, h60⟩)] at kx; exact ih (w + 1) (a + 1) (by omega) (by omega) kx) | (rw [if_neg (show ¬ (thM σ j w = true) from fun q => (of_decide_eq_true q).1 h49)] at kx; rw [Int.add_zero a]; exact ih (w + 1) a (by omega) (by omega) kx) | (rw [if_neg (show ¬ (thM σ j w = true) from fun q => h60 (of_decide_eq_true q).2)] at kx; rw [Int.add_zero a]; exact ih (w + 1) a (by omega) (by omega) kx)
      · refine j_iconst hC dX4_thumbs_63 ?_
        refine j_goto (tgt := 68) hC dX4_thumbs_64 (by decide) ?_
        refine j_iadd hC dX4_thumbs_68 ?_
        refine j_istore_n hC dX4_thumbs_69 [(2, vI (a + 1)), (4, vI (w)), (3, vI (j)), (0, .ref (gd g (19))), (1, vI (l))] (by decide) rfl ?_
        refine j_iinc hC dX4_thumbs_70 1 [(4, vI (w + 1)), (2, vI (a + 1)), (3, vI (j)), (0, .ref (gd g (19))), (1, vI (l))] rfl (by decide) rfl ?_
        refine j_goto (tgt := 29) hC dX4_thumbs_73 (by decide) ?_
        refine j_sub [0, 1, 2, 3, 4] rfl ?_
        first | (rw [if_pos (show thM σ j w = true from decide_eq_true ⟨h49, h60⟩)] at kx; exact ih (w + 1) (a + 1) (by omega) (by omega) kx) | (rw [if_neg (show ¬ (thM σ j w = true) from fun q => (of_decide_eq_true q).1 h49)] at kx; rw [Int.add_zero a]; exact ih (w + 1) a (by omega) (by omega) kx) | (rw [if_neg (show ¬ (thM σ j w = true) from fun q => h60 (of_decide_eq_true q).2)] at kx; rw [Int.add_zero a]; exact ih (w + 1) a (by omega) (by omega) kx)
set_option maxHeartbeats 4000000 in
set_option maxRecDepth 100000 in
theorem lm_thumbs_o {mc : MC} {g : GG} {σ : Sg} (hC : Cx mc g cX4_thumbs RX4 5 (some .int)) (hR : mR mc = rmJ 4 91 0 0) (hI : IM σ) (l : Int) (hl : 0 ≤ l ∧ l < 4) : ∀ (d : Nat) (j : Int) (a : Int), (16 * l ≤ j) → (j + (d : Int) = 16 * l + σ.2 11 l) → J mc g 0 0 (QN mc g (pt (some (vI (pMF (thM σ) (16 * l + 0) d j a))) (σ)) 0 0) 8 [(3, vI (j)), (2, vI (a)), (0, .ref (gd g (19))), (1, vI (l))] [] σ := by
  intro d
  induction d with
  | zero =>
    intro j a h0 hz
    have hn := hI.2.2.1 l hl.1 hl.2
    refine j_iload_n hC dX4_thumbs_8 0 rfl ?_
    refine j_iload_n hC dX4_thumbs_9 3 rfl ?_
    refine j_aload_n hC dX4_thumbs_10 2 rfl ?_
    refine j_get hC inX4 rfl 19 rfl 2 (by decide) wd584 rfl dX4_thumbs_11 ?_
    refine j_iload_n hC dX4_thumbs_14 3 rfl ?_
    refine j_iald hC 20 rfl (by omega) dX4_thumbs_15 ?_
    refine j_callS1 (ar := 2) hC hR (c_X4_at (hlJ hC) g σ l ((σ).2 11 l) ) [vI (j)] rfl (by decide) (by decide +kernel) rfl wd643 wd644 wd4 wd645 (by decide) (Nat.le_of_ble_eq_true rfl) dX4_thumbs_16 ?_
    refine j_icmp_ge (tgt := 82) hC dX4_thumbs_19 (by decide) (by omega) (fun _ => ?_) (fun h => absurd h (by omega))
    refine j_iload_n hC dX4_thumbs_82 1 rfl ?_
    exact j_iret hC dX4_thumbs_83 ⟨rfl, rfl⟩
  | succ d ih =>
    intro j a h0 hz
    have hn := hI.2.2.1 l hl.1 hl.2
    rw [show pMF (thM σ) (16 * l + 0) (d + 1) j a = pMF (thM σ) (16 * l + 0) d (j + 1) (cnt (thM σ j) (j - (16 * l + 0)).toNat (16 * l + 0) a) from rfl]
    refine j_iload_n hC dX4_thumbs_8 0 rfl ?_
    refine j_iload_n hC dX4_thumbs_9 3 rfl ?_
    refine j_aload_n hC dX4_thumbs_10 2 rfl ?_
    refine j_get hC inX4 rfl 19 rfl 2 (by decide) wd584 rfl dX4_thumbs_11 ?_
    refine j_iload_n hC dX4_thumbs_14 3 rfl ?_
    refine j_iald hC 20 rfl (by omega) dX4_thumbs_15 ?_
    refine j_callS1 (ar := 2) hC hR (c_X4_at (hlJ hC) g σ l ((σ).2 11 l) ) [vI (j)] rfl (by decide) (by decide +kernel) rfl wd643 wd644 wd4 wd645 (by decide) (Nat.le_of_ble_eq_true rfl) dX4_thumbs_16 ?_
    refine j_icmp_ge (tgt := 82) hC dX4_thumbs_19 (by decide) (by omega) (fun h => absurd h (by omega)) (fun _ => ?_)
    refine j_iload_n hC dX4_thumbs_22 3 rfl ?_
    refine j_iconst hC dX4_thumbs_23 ?_
    refine j_callS1 (ar := 2) hC hR (c_X4_at (hlJ hC) g σ l 0 ) [] rfl (by decide) (by decide +kernel) rfl wd643 wd644 wd4 wd645 (by decide) (Nat.le_of_ble_eq_true rfl) dX4_thumbs_24 ?_
    refine j_istore hC dX4_thumbs_27 [(4, vI (16 * l + 0)), (3, vI (j)), (2, vI (a)), (0, .ref (gd g (19))), (1, vI (l))] (by decide) rfl ?_
    refine j_sub [0, 2, 1, 3, 4] rfl ?_
    refine lm_thumbs_i hC hR hI l j hl (by omega) (j - (16 * l + 0)).toNat (16 * l + 0) a (by omega) (by omega) ?_
    refine j_iinc hC dX4_thumbs_76 1 [(3, vI (j + 1)), (2, vI (cnt (thM σ j) (j - (16 * l + 0)).toNat (16 * l + 0) a)), (0, .ref (gd g (19))), (1, vI (l))] rfl (by decide) rfl ?_
    refine j_goto (tgt := 8) hC dX4_thumbs_79 (by decide) ?_
    refine j_sub [0, 1, 2, 3] rfl ?_
    exact ih (j + 1) _ (by omega) (by omega)
set_option maxHeartbeats 4000000 in
set_option maxRecDepth 100000 in
theorem c_X4_thumbs {L0 : Launch} (hL0 : L0.stackTraces = false) (g : GG) (σ : Sg) (hI : IM σ) (l : Int) (hl : 0 ≤ l ∧ l < 4) : CN L0 yX4_thumbs cX4_thumbs 5 (some .int) 4 91 0 0 g [.ref (gd g (19)), vI (l)] σ (pt (some (vI (ctM σ l))) (σ)) := by
  refine CN_of (own := RX4) hL0 (by decide) rfl (Nat.le_of_ble_eq_true rfl) (fun mc hC _ hR => ?_)
  refine j_lv (lv2 := [(0, .ref (gd g (19))), (1, vI (l))]) rfl ?_
  have hn := hI.2.2.1 l hl.1 hl.2
  have hn2 := nM_eq hI hl
  refine j_iconst hC dX4_thumbs_0 ?_
  refine j_istore_n hC dX4_thumbs_1 [(2, vI (0)), (0, .ref (gd g (19))), (1, vI (l))] (by decide) rfl ?_
  refine j_iload_n hC dX4_thumbs_2 2 rfl ?_
  refine j_iconst hC dX4_thumbs_3 ?_
  refine j_callS1 (ar := 2) hC hR (c_X4_at (hlJ hC) g σ l 0 ) [] rfl (by decide) (by decide +kernel) rfl wd643 wd644 wd4 wd645 (by decide) (Nat.le_of_ble_eq_true rfl) dX4_thumbs_4 ?_
  refine j_istore_n hC dX4_thumbs_7 [(3, vI (16 * l + 0)), (2, vI (0)), (0, .ref (gd g (19))), (1, vI (l))] (by decide) rfl ?_
  refine j_sub [0, 1, 2, 3] rfl ?_
  exact lm_thumbs_o hC hR hI l hl (nM σ l) _ 0 (by omega) (by omega)
set_option maxHeartbeats 4000000 in
set_option maxRecDepth 100000 in
theorem lm_nearest_i {mc : MC} {g : GG} {σ : Sg} {Q : State → Prop} (hC : Cx mc g cX4_nearest RX4 5 (some .int)) (hR : mR mc = rmJ 4 91 0 0) (hI : IM σ) (l j : Int) (hl : 0 ≤ l ∧ l < 4) (hj : 16 * l ≤ j ∧ j < 16 * l + σ.2 11 l) : ∀ (d : Nat) (w : Int) (a : Int), (16 * l ≤ w) → (w + (d : Int) = j) → (-1 ≤ a ∧ a ≤ 11) → (J mc g 0 0 Q 65 [(2, vI (nrI (fun k => dst (σ.2 17) (lkM σ j) (lkM σ k)) d w a)), (3, vI (j)), (0, .ref (gd g (19))), (1, vI (l))] [] σ) → J mc g 0 0 Q 29 [(4, vI (w)), (2, vI (a)), (3, vI (j)), (0, .ref (gd g (19))), (1, vI (l))] [] σ := by
  intro d
  induction d with
  | zero =>
    intro w a h0 hw ha kx
    have hn := hI.2.2.1 l hl.1 hl.2
    refine j_iload hC dX4_nearest_29 0 rfl ?_
    refine j_iload_n hC dX4_nearest_31 2 rfl ?_
    refine j_icmp_ge (tgt := 65) hC dX4_nearest_32 (by decide) (by omega) (fun _ => ?_) (fun h => absurd h (by omega))
    refine j_sub [1, 2, 3, 4] rfl ?_
    exact kx
  | succ d ih =>
    intro w a h0 hw ha kx
    have hn := hI.2.2.1 l hl.1 hl.2
    have hd := dst_rg (G := σ.2 17) (x := lkM σ j) (y := lkM σ w) ⟨(lkM_rg hI (by omega)).1, (lkM_rg hI (by omega)).2, (lkM_rg hI (by omega)).1, (lkM_rg hI (by omega)).2⟩
    rw [show nrI (fun k => dst (σ.2 17) (lkM σ j) (lkM σ k)) (d + 1) w a = nrI (fun k => dst (σ.2 17) (lkM σ j) (lkM σ k)) d (w + 1) (if a = -1 ∨ dst (σ.2 17) (lkM σ j) (lkM σ w) < a then dst (σ.2 17) (lkM σ j) (lkM σ w) else a) from rfl] at kx
    refine j_iload hC dX4_nearest_29 0 rfl ?_
    refine j_iload_n hC dX4_nearest_31 2 rfl ?_
    refine j_icmp_ge (tgt := 65) hC dX4_nearest_32 (by decide) (by omega) (fun h => absurd h (by omega)) (fun _ => ?_)
    refine j_iload_n hC dX4_nearest_35 1 rfl ?_
    refine j_iconst hC dX4_nearest_36 ?_
    refine j_icmp_eq (tgt := 51) hC dX4_nearest_37 (by decide) (by omega) (fun h37 => ?_) (fun h37 => ?_)
    · refine j_aload_n hC dX4_nearest_51 3 rfl ?_
      refine j_iload_n hC dX4_nearest_52 2 rfl ?_
      refine j_iload hC dX4_nearest_53 0 rfl ?_
      refine j_callV1 (ar := 2) hC hR (c_X4_far2 (hlJ hC) g σ hI j w (by omega)) [] rfl 19 rfl rfl rfl (by decide) (by decide +kernel) rfl wd750 wd752 wp42 wd4 wd753 (by decide) (Nat.le_of_ble_eq_true rfl) dX4_nearest_55 ?_
      have hd55 := dst_rg (G := σ.2 17) (x := lkM σ j) (y := lkM σ w) ⟨(lkM_rg hI (by omega)).1, (lkM_rg hI (by omega)).2, (lkM_rg hI (by omega)).1, (lkM_rg hI (by omega)).2⟩
      refine j_istore_n hC dX4_nearest_58 [(2, vI (dst (σ.2 17) (lkM σ j) (lkM σ w))), (4, vI (w)), (3, vI (j)), (0, .ref (gd g (19))), (1, vI (l))] (by decide) rfl ?_
      refine j_iinc hC dX4_nearest_59 1 [(4, vI (w + 1)), (2, vI (dst (σ.2 17) (lkM σ j) (lkM σ w))), (3, vI (j)), (0, .ref (gd g (19))), (1, vI (l))] rfl (by decide) rfl ?_
      refine j_goto (tgt := 29) hC dX4_nearest_62 (by decide) ?_
      refine j_sub [0, 1, 2, 3, 4] rfl ?_
      first | (rw [if_pos (show a = -1 ∨ dst (σ.2 17) (lkM σ j) (lkM σ w) < a by omega)] at kx; exact ih (w + 1) (dst (σ.2 17) (lkM σ j) (lkM σ w)) (by omega) (by omega) (by omega) kx) | (rw [if_neg (show ¬ (a = -1 ∨ dst (σ.2 17) (lkM σ j) (lkM σ w) < a) by omega)] at kx; exact ih (w + 1) a (by omega) (by omega) ha kx)
    · refine j_aload_n hC dX4_nearest_40 3 rfl ?_
      refine j_iload_n hC dX4_nearest_41 2 rfl ?_
      refine j_iload hC dX4_nearest_42 0 rfl ?_
      refine j_callV1 (ar := 2) hC hR (c_X4_far2 (hlJ hC) g σ hI j w (by omega)) [] rfl 19 rfl rfl rfl (by decide) (by decide +kernel) rfl wd750 wd752 wp42 wd4 wd753 (by decide) (Nat.le_of_ble_eq_true rfl) dX4_nearest_44 ?_
      have hd44 := dst_rg (G := σ.2 17) (x := lkM σ j) (y := lkM σ w) ⟨(lkM_rg hI (by omega)).1, (lkM_rg hI (by omega)).2, (lkM_rg hI (by omega)).1, (lkM_rg hI (by omega)).2⟩
      refine j_iload_n hC dX4_nearest_47 1 rfl ?_
      refine j_icmp_ge (tgt := 59) hC dX4_nearest_48 (by decide) (by omega) (fun h48 => ?_) (fun h48 => ?_)
      · refine j_iinc hC dX4_nearest_59 0 [(4, vI (w + 1)), (2, vI (a)), (3, vI (j)), (0, .ref (gd g (19))), (1, vI (l))] rfl (by decide) rfl ?_
        refine j_goto (tgt := 29) hC dX4_nearest_62 (by decide) ?_
        refine j_sub [0, 1, 2, 3, 4] rfl ?_
        first | (rw [if_pos (show a = -1 ∨ dst (σ.2 17) (lkM σ j) (lkM σ w) < a by omega)] at kx; exact ih (w + 1) (dst (σ.2 17) (lkM σ j) (lkM σ w)) (by omega) (by omega) (by omega) kx) | (rw [if_neg (show ¬ (a = -1 ∨ dst (σ.2 17) (lkM σ j) (lkM σ w) < a) by omega)] at kx; exact ih (w + 1) a (by omega) (by omega) ha kx)
      · refine j_aload_n hC dX4_nearest_51 3 rfl ?_
        refine j_iload_n hC dX4_nearest_52 2 rfl ?_
        refine j_iload hC dX4_nearest_53 0 rfl ?_
        refine j_callV1 (ar := 2) hC hR (c_X4_far2 (hlJ hC) g σ hI j w (by omega)) [] rfl 19 rfl rfl rfl (by decide) (by decide +kernel) rfl wd750 wd752 wp42 wd4 wd753 (by decide) (Nat.le_of_ble_eq_true rfl) dX4_nearest_55 ?_
        have hd55 := dst_rg (G := σ.2 17) (x := lkM σ j) (y := lkM σ w) ⟨(lkM_rg hI (by omega)).1, (lkM_rg hI (by omega)).2, (lkM_rg hI (by omega)).1, (lkM_rg hI (by omega)).2⟩
        refine j_istore_n hC dX4_nearest_58 [(2, vI (dst (σ.2 17) (lkM σ j) (lkM σ w))), (4, vI (w)), (3, vI (j)), (0, .ref (gd g (19))), (1, vI (l))] (by decide) rfl ?_
        refine j_iinc hC dX4_nearest_59 1 [(4, vI (w + 1)), (2, vI (dst (σ.2 17) (lkM σ j) (lkM σ w))), (3, vI (j)), (0, .ref (gd g (19))), (1, vI (l))] rfl (by decide) rfl ?_
        refine j_goto (tgt := 29) hC dX4_nearest_62 (by decide) ?_
        refine j_sub [0, 1, 2, 3, 4] rfl ?_
        first | (rw [if_pos (show a = -1 ∨ dst (σ.2 17) (lkM σ j) (lkM σ w) < a by omega)] at kx; exact ih (w + 1) (dst (σ.2 17) (lkM σ j) (lkM σ w)) (by omega) (by omega) (by omega) kx) | (rw [if_neg (show ¬ (a = -1 ∨ dst (σ.2 17) (lkM σ j) (lkM σ w) < a) by omega)] at kx; exact ih (w + 1) a (by omega) (by omega) ha kx)
set_option maxHeartbeats 4000000 in
set_option maxRecDepth 100000 in
theorem lm_nearest_o {mc : MC} {g : GG} {σ : Sg} (hC : Cx mc g cX4_nearest RX4 5 (some .int)) (hR : mR mc = rmJ 4 91 0 0) (hI : IM σ) (l : Int) (hl : 0 ≤ l ∧ l < 4) : ∀ (d : Nat) (j : Int) (a : Int), (16 * l ≤ j) → (j + (d : Int) = 16 * l + σ.2 11 l) → (-1 ≤ a ∧ a ≤ 11) → J mc g 0 0 (QN mc g (pt (some (vI (if nrO (fun j k => dst (σ.2 17) (lkM σ j) (lkM σ k)) (16 * l + 0) d j a ≤ 0 then 0 else nrO (fun j k => dst (σ.2 17) (lkM σ j) (lkM σ k)) (16 * l + 0) d j a))) (σ)) 0 0) 8 [(3, vI (j)), (2, vI (a)), (0, .ref (gd g (19))), (1, vI (l))] [] σ := by
  intro d
  induction d with
  | zero =>
    intro j a h0 hz ha
    have hn := hI.2.2.1 l hl.1 hl.2
    refine j_iload_n hC dX4_nearest_8 0 rfl ?_
    refine j_iload_n hC dX4_nearest_9 3 rfl ?_
    refine j_aload_n hC dX4_nearest_10 2 rfl ?_
    refine j_get hC inX4 rfl 19 rfl 2 (by decide) wd584 rfl dX4_nearest_11 ?_
    refine j_iload_n hC dX4_nearest_14 3 rfl ?_
    refine j_iald hC 20 rfl (by omega) dX4_nearest_15 ?_
    refine j_callS1 (ar := 2) hC hR (c_X4_at (hlJ hC) g σ l ((σ).2 11 l) ) [vI (j)] rfl (by decide) (by decide +kernel) rfl wd643 wd644 wd4 wd645 (by decide) (Nat.le_of_ble_eq_true rfl) dX4_nearest_16 ?_
    refine j_icmp_ge (tgt := 71) hC dX4_nearest_19 (by decide) (by omega) (fun _ => ?_) (fun h => absurd h (by omega))
    refine j_iconst hC dX4_nearest_71 ?_
    refine j_iload_n hC dX4_nearest_72 1 rfl ?_
    refine j_max hC hR wd674 ⟨by decide, Nat.le_of_ble_eq_true rfl⟩ (by decide) (by omega) dX4_nearest_73 ?_
    exact j_iret hC dX4_nearest_76 ⟨rfl, rfl⟩
  | succ d ih =>
    intro j a h0 hz ha
    have hn := hI.2.2.1 l hl.1 hl.2
    have hlk := fun (y : Int) (q : 0 ≤ y ∧ y < 64) => lkM_rg hI (k := y) q
    rw [show nrO (fun j k => dst (σ.2 17) (lkM σ j) (lkM σ k)) (16 * l + 0) (d + 1) j a = nrO (fun j k => dst (σ.2 17) (lkM σ j) (lkM σ k)) (16 * l + 0) d (j + 1) (nrI (fun k => dst (σ.2 17) (lkM σ j) (lkM σ k)) (j - (16 * l + 0)).toNat (16 * l + 0) a) from rfl]
    refine j_iload_n hC dX4_nearest_8 0 rfl ?_
    refine j_iload_n hC dX4_nearest_9 3 rfl ?_
    refine j_aload_n hC dX4_nearest_10 2 rfl ?_
    refine j_get hC inX4 rfl 19 rfl 2 (by decide) wd584 rfl dX4_nearest_11 ?_
    refine j_iload_n hC dX4_nearest_14 3 rfl ?_
    refine j_iald hC 20 rfl (by omega) dX4_nearest_15 ?_
    refine j_callS1 (ar := 2) hC hR (c_X4_at (hlJ hC) g σ l ((σ).2 11 l) ) [vI (j)] rfl (by decide) (by decide +kernel) rfl wd643 wd644 wd4 wd645 (by decide) (Nat.le_of_ble_eq_true rfl) dX4_nearest_16 ?_
    refine j_icmp_ge (tgt := 71) hC dX4_nearest_19 (by decide) (by omega) (fun h => absurd h (by omega)) (fun _ => ?_)
    refine j_iload_n hC dX4_nearest_22 3 rfl ?_
    refine j_iconst hC dX4_nearest_23 ?_
    refine j_callS1 (ar := 2) hC hR (c_X4_at (hlJ hC) g σ l 0 ) [] rfl (by decide) (by decide +kernel) rfl wd643 wd644 wd4 wd645 (by decide) (Nat.le_of_ble_eq_true rfl) dX4_nearest_24 ?_
    refine j_istore hC dX4_nearest_27 [(4, vI (16 * l + 0)), (3, vI (j)), (2, vI (a)), (0, .ref (gd g (19))), (1, vI (l))] (by decide) rfl ?_
    refine j_sub [0, 2, 1, 3, 4] rfl ?_
    have hq := nrI_rg (f := (fun k => dst (σ.2 17) (lkM σ j) (lkM σ k))) (j - (16 * l + 0)).toNat (16 * l + 0) a (fun y h1 h2 => dst_rg ⟨(hlk j (by omega)).1, (hlk j (by omega)).2, (hlk y (by omega)).1, (hlk y (by omega)).2⟩) ha.1 ha.2
    refine lm_nearest_i hC hR hI l j hl (by omega) (j - (16 * l + 0)).toNat (16 * l + 0) a (by omega) (by omega) ha ?_
    refine j_iinc hC dX4_nearest_65 1 [(3, vI (j + 1)), (2, vI (nrI (fun k => dst (σ.2 17) (lkM σ j) (lkM σ k)) (j - (16 * l + 0)).toNat (16 * l + 0) a)), (0, .ref (gd g (19))), (1, vI (l))] rfl (by decide) rfl ?_
    refine j_goto (tgt := 8) hC dX4_nearest_68 (by decide) ?_
    refine j_sub [0, 1, 2, 3] rfl ?_
    exact ih (j + 1) _ (by omega) (by omega) hq
set_option maxHeartbeats 4000000 in
set_option maxRecDepth 100000 in
theorem c_X4_nearest {L0 : Launch} (hL0 : L0.stackTraces = false) (g : GG) (σ : Sg) (hI : IM σ) (l : Int) (hl : 0 ≤ l ∧ l < 4) : CN L0 yX4_nearest cX4_nearest 5 (some .int) 4 91 0 0 g [.ref (gd g (19)), vI (l)] σ (pt (some (vI (nsM σ l))) (σ)) := by
  refine CN_of (own := RX4) hL0 (by decide) rfl (Nat.le_of_ble_eq_true rfl) (fun mc hC _ hR => ?_)
  refine j_lv (lv2 := [(0, .ref (gd g (19))), (1, vI (l))]) rfl ?_
  have hn := hI.2.2.1 l hl.1 hl.2
  have hn2 := nM_eq hI hl
  refine j_iconst hC dX4_nearest_0 ?_
  refine j_istore_n hC dX4_nearest_1 [(2, vI (-1)), (0, .ref (gd g (19))), (1, vI (l))] (by decide) rfl ?_
  refine j_iload_n hC dX4_nearest_2 2 rfl ?_
  refine j_iconst hC dX4_nearest_3 ?_
  refine j_callS1 (ar := 2) hC hR (c_X4_at (hlJ hC) g σ l 0 ) [] rfl (by decide) (by decide +kernel) rfl wd643 wd644 wd4 wd645 (by decide) (Nat.le_of_ble_eq_true rfl) dX4_nearest_4 ?_
  refine j_istore_n hC dX4_nearest_7 [(3, vI (16 * l + 0)), (2, vI (-1)), (0, .ref (gd g (19))), (1, vI (l))] (by decide) rfl ?_
  refine j_sub [0, 1, 2, 3] rfl ?_
  exact lm_nearest_o hC hR hI l hl (nM σ l) _ (-1) (by omega) (by omega) (by omega)
set_option maxHeartbeats 4000000 in
set_option maxRecDepth 100000 in
theorem lm_mistaken_i {mc : MC} {g : GG} {σ : Sg} {Q : State → Prop} (hC : Cx mc g cX4_mistaken RX4 7 (some .int)) (hR : mR mc = rmJ 4 91 0 0) (hI : IM σ) (l j fo mo : Int) (hl : 0 ≤ l ∧ l < 4) (hj : 16 * l ≤ j ∧ j < 16 * l + σ.2 11 l) : ∀ (d : Nat) (w : Int) (a : Int), (16 * l ≤ w) → (w + (d : Int) = 16 * l + σ.2 11 l) → (J mc g 0 0 Q 86 [(5, vI (cnt (nrM σ j) d w a)), (0, .ref (gd g (19))), (1, vI (l)), (2, vI (fo)), (3, vI (mo)), (4, vI (j))] [] σ) → J mc g 0 0 Q 36 [(6, vI (w)), (5, vI (a)), (0, .ref (gd g (19))), (1, vI (l)), (2, vI (fo)), (3, vI (mo)), (4, vI (j))] [] σ := by
  intro d
  induction d with
  | zero =>
    intro w a h0 hw kx
    have hn := hI.2.2.1 l hl.1 hl.2
    refine j_iload hC dX4_mistaken_36 0 rfl ?_
    refine j_iload_n hC dX4_mistaken_38 3 rfl ?_
    refine j_aload_n hC dX4_mistaken_39 2 rfl ?_
    refine j_get hC inX4 rfl 19 rfl 2 (by decide) wd584 rfl dX4_mistaken_40 ?_
    refine j_iload_n hC dX4_mistaken_43 3 rfl ?_
    refine j_iald hC 20 rfl (by omega) dX4_mistaken_44 ?_
    refine j_callS1 (ar := 2) hC hR (c_X4_at (hlJ hC) g σ l ((σ).2 11 l) ) [vI (w)] rfl (by decide) (by decide +kernel) rfl wd643 wd644 wd4 wd645 (by decide) (Nat.le_of_ble_eq_true rfl) dX4_mistaken_45 ?_
    refine j_icmp_ge (tgt := 86) hC dX4_mistaken_48 (by decide) (by omega) (fun _ => ?_) (fun h => absurd h (by omega))
    refine j_sub [1, 2, 3, 4, 5, 6] rfl ?_
    exact kx
  | succ d ih =>
    intro w a h0 hw kx
    have hn := hI.2.2.1 l hl.1 hl.2
    have hd := dst_rg (G := σ.2 17) (x := lkM σ j) (y := lkM σ w) ⟨(lkM_rg hI (by omega)).1, (lkM_rg hI (by omega)).2, (lkM_rg hI (by omega)).1, (lkM_rg hI (by omega)).2⟩
    rw [show cnt (nrM σ j) (d + 1) w a = cnt (nrM σ j) d (w + 1) (if nrM σ j w = true then a + 1 else a) from rfl] at kx
    refine j_iload hC dX4_mistaken_36 0 rfl ?_
    refine j_iload_n hC dX4_mistaken_38 3 rfl ?_
    refine j_aload_n hC dX4_mistaken_39 2 rfl ?_
    refine j_get hC inX4 rfl 19 rfl 2 (by decide) wd584 rfl dX4_mistaken_40 ?_
    refine j_iload_n hC dX4_mistaken_43 3 rfl ?_
    refine j_iald hC 20 rfl (by omega) dX4_mistaken_44 ?_
    refine j_callS1 (ar := 2) hC hR (c_X4_at (hlJ hC) g σ l ((σ).2 11 l) ) [vI (w)] rfl (by decide) (by decide +kernel) rfl wd643 wd644 wd4 wd645 (by decide) (Nat.le_of_ble_eq_true rfl) dX4_mistaken_45 ?_
    refine j_icmp_ge (tgt := 86) hC dX4_mistaken_48 (by decide) (by omega) (fun h => absurd h (by omega)) (fun _ => ?_)
    refine j_iload hC dX4_mistaken_51 1 rfl ?_
    refine j_iload hC dX4_mistaken_53 0 rfl ?_
    refine j_iload hC dX4_mistaken_55 6 rfl ?_
    refine j_icmp_eq (tgt := 76) hC dX4_mistaken_57 (by decide) (by omega) (fun h57 => ?_) (fun h57 => ?_)
    · refine j_iconst hC dX4_mistaken_76 ?_
      refine j_iadd hC dX4_mistaken_77 ?_
      refine j_istore hC dX4_mistaken_78 [(5, vI (a + 0)), (6, vI (w)), (0, .ref (gd g (19))), (1, vI (l)), (2, vI (fo)), (3, vI (mo)), (4, vI (j))] (by decide) rfl ?_
      refine j_iinc hC dX4_mistaken_80 1 [(6, vI (w + 1)), (5, vI (a + 0)), (0, .ref (gd g (19))), (1, vI (l)), (2, vI (fo)), (3, vI (mo)), (4, vI (j))] rfl (by decide) rfl ?_
      refine j_goto (tgt := 36) hC dX4_mistaken_83 (by decide) ?_
      refine j_sub [0, 1, 2, 3, 4, 5, 6] rfl ?_
      first | (rw [if_pos (show nrM σ j w = true from decide_eq_true ⟨h57, h69⟩)] at kx; exact ih (w + 1) (a + 1) (by omega) (by omega) kx) | (rw [if_neg (show ¬ (nrM σ j w = true) from fun q => (of_decide_eq_true q).1 h57)] at kx; rw [Int.add_zero a]; exact ih (w + 1) a (by omega) (by omega) kx) | (rw [if_neg (show ¬ (nrM σ j w = true) from fun q => absurd (of_decide_eq_true q).2 (by omega))] at kx; rw [Int.add_zero a]; exact ih (w + 1) a (by omega) (by omega) kx)
    · refine j_aload_n hC dX4_mistaken_60 2 rfl ?_
      refine j_iload hC dX4_mistaken_61 6 rfl ?_
      refine j_iload hC dX4_mistaken_63 0 rfl ?_
      refine j_callV1 (ar := 2) hC hR (c_X4_far2 (hlJ hC) g σ hI j w (by omega)) [vI (a)] rfl 19 rfl rfl rfl (by decide) (by decide +kernel) rfl wd750 wd752 wp42 wd4 wd753 (by decide) (Nat.le_of_ble_eq_true rfl) dX4_mistaken_65 ?_
      have hd65 := dst_rg (G := σ.2 17) (x := lkM σ j) (y := lkM σ w) ⟨(lkM_rg hI (by omega)).1, (lkM_rg hI (by omega)).2, (lkM_rg hI (by omega)).1, (lkM_rg hI (by omega)).2⟩
      refine j_iconst hC dX4_mistaken_68 ?_
      refine j_icmp_gt (tgt := 76) hC dX4_mistaken_69 (by decide) (by omega) (fun h69 => ?_) (fun h69 => ?_)
      · refine j_iconst hC dX4_mistaken_76 ?_
        refine j_iadd hC dX4_mistaken_77 ?_
        refine j_istore hC dX4_mistaken_78 [(5, vI (a + 0)), (6, vI (w)), (0, .ref (gd g (19))), (1, vI (l)), (2, vI (fo)), (3, vI (mo)), (4, vI (j))] (by decide) rfl ?_
        refine j_iinc hC dX4_mistaken_80 1 [(6, vI (w + 1)), (5, vI (a + 0)), (0, .ref (gd g (19))), (1, vI (l)), (2, vI (fo)), (3, vI (mo)), (4, vI (j))] rfl (by decide) rfl ?_
        refine j_goto (tgt := 36) hC dX4_mistaken_83 (by decide) ?_
        refine j_sub [0, 1, 2, 3, 4, 5, 6] rfl ?_
        first | (rw [if_pos (show nrM σ j w = true from decide_eq_true ⟨h57, h69⟩)] at kx; exact ih (w + 1) (a + 1) (by omega) (by omega) kx) | (rw [if_neg (show ¬ (nrM σ j w = true) from fun q => (of_decide_eq_true q).1 h57)] at kx; rw [Int.add_zero a]; exact ih (w + 1) a (by omega) (by omega) kx) | (rw [if_neg (show ¬ (nrM σ j w = true) from fun q => absurd (of_decide_eq_true q).2 (by omega))] at kx; rw [Int.add_zero a]; exact ih (w + 1) a (by omega) (by omega) kx)
      · refine j_iconst hC dX4_mistaken_72 ?_
        refine j_goto (tgt := 77) hC dX4_mistaken_73 (by decide) ?_
        refine j_iadd hC dX4_mistaken_77 ?_
        refine j_istore hC dX4_mistaken_78 [(5, vI (a + 1)), (6, vI (w)), (0, .ref (gd g (19))), (1, vI (l)), (2, vI (fo)), (3, vI (mo)), (4, vI (j))] (by decide) rfl ?_
        refine j_iinc hC dX4_mistaken_80 1 [(6, vI (w + 1)), (5, vI (a + 1)), (0, .ref (gd g (19))), (1, vI (l)), (2, vI (fo)), (3, vI (mo)), (4, vI (j))] rfl (by decide) rfl ?_
        refine j_goto (tgt := 36) hC dX4_mistaken_83 (by decide) ?_
        refine j_sub [0, 1, 2, 3, 4, 5, 6] rfl ?_
        first | (rw [if_pos (show nrM σ j w = true from decide_eq_true ⟨h57, h69⟩)] at kx; exact ih (w + 1) (a + 1) (by omega) (by omega) kx) | (rw [if_neg (show ¬ (nrM σ j w = true) from fun q => (of_decide_eq_true q).1 h57)] at kx; rw [Int.add_zero a]; exact ih (w + 1) a (by omega) (by omega) kx) | (rw [if_neg (show ¬ (nrM σ j w = true) from fun q => absurd (of_decide_eq_true q).2 (by omega))] at kx; rw [Int.add_zero a]; exact ih (w + 1) a (by omega) (by omega) kx)
set_option maxHeartbeats 4000000 in
set_option maxRecDepth 100000 in
theorem lm_mistaken_o {mc : MC} {g : GG} {σ : Sg} (hC : Cx mc g cX4_mistaken RX4 7 (some .int)) (hR : mR mc = rmJ 4 91 0 0) (hI : IM σ) (l : Int) (hl : 0 ≤ l ∧ l < 4) : ∀ (d : Nat) (j : Int) (fo : Int) (mo : Int), (16 * l ≤ j) → (j + (d : Int) = 16 * l + σ.2 11 l) → (-1 ≤ mo ∧ mo ≤ 16) → J mc g 0 0 (QN mc g (pt (some (vI (amM (fun j => cnt (nrM σ j) (nM σ l) (16 * l + 0) 0) (16 * l + 0) d j fo mo))) (σ)) 0 0) 11 [(4, vI (j)), (2, vI (fo)), (3, vI (mo)), (0, .ref (gd g (19))), (1, vI (l))] [] σ := by
  intro d
  induction d with
  | zero =>
    intro j fo mo h0 hz hm
    have hn := hI.2.2.1 l hl.1 hl.2
    refine j_iload hC dX4_mistaken_11 0 rfl ?_
    refine j_iload_n hC dX4_mistaken_13 4 rfl ?_
    refine j_aload_n hC dX4_mistaken_14 3 rfl ?_
    refine j_get hC inX4 rfl 19 rfl 2 (by decide) wd584 rfl dX4_mistaken_15 ?_
    refine j_iload_n hC dX4_mistaken_18 4 rfl ?_
    refine j_iald hC 20 rfl (by omega) dX4_mistaken_19 ?_
    refine j_callS1 (ar := 2) hC hR (c_X4_at (hlJ hC) g σ l ((σ).2 11 l) ) [vI (j)] rfl (by decide) (by decide +kernel) rfl wd643 wd644 wd4 wd645 (by decide) (Nat.le_of_ble_eq_true rfl) dX4_mistaken_20 ?_
    refine j_icmp_ge (tgt := 113) hC dX4_mistaken_23 (by decide) (by omega) (fun _ => ?_) (fun h => absurd h (by omega))
    refine j_iload_n hC dX4_mistaken_113 1 rfl ?_
    exact j_iret hC dX4_mistaken_114 ⟨rfl, rfl⟩
  | succ d ih =>
    intro j fo mo h0 hz hm
    have hn := hI.2.2.1 l hl.1 hl.2
    have hn2 := nM_eq hI hl
    have hq := cntM_rg (nrM σ j) hI hl (16 * l + 0)
    rw [show amM (fun j => cnt (nrM σ j) (nM σ l) (16 * l + 0) 0) (16 * l + 0) (d + 1) j fo mo = if mo < cnt (nrM σ j) (nM σ l) (16 * l + 0) 0 then amM (fun j => cnt (nrM σ j) (nM σ l) (16 * l + 0) 0) (16 * l + 0) d (j + 1) (j - (16 * l + 0)) (cnt (nrM σ j) (nM σ l) (16 * l + 0) 0) else amM (fun j => cnt (nrM σ j) (nM σ l) (16 * l + 0) 0) (16 * l + 0) d (j + 1) fo mo from rfl]
    refine j_iload hC dX4_mistaken_11 0 rfl ?_
    refine j_iload_n hC dX4_mistaken_13 4 rfl ?_
    refine j_aload_n hC dX4_mistaken_14 3 rfl ?_
    refine j_get hC inX4 rfl 19 rfl 2 (by decide) wd584 rfl dX4_mistaken_15 ?_
    refine j_iload_n hC dX4_mistaken_18 4 rfl ?_
    refine j_iald hC 20 rfl (by omega) dX4_mistaken_19 ?_
    refine j_callS1 (ar := 2) hC hR (c_X4_at (hlJ hC) g σ l ((σ).2 11 l) ) [vI (j)] rfl (by decide) (by decide +kernel) rfl wd643 wd644 wd4 wd645 (by decide) (Nat.le_of_ble_eq_true rfl) dX4_mistaken_20 ?_
    refine j_icmp_ge (tgt := 113) hC dX4_mistaken_23 (by decide) (by omega) (fun h => absurd h (by omega)) (fun _ => ?_)
    refine j_iconst hC dX4_mistaken_26 ?_
    refine j_istore hC dX4_mistaken_27 [(5, vI (0)), (4, vI (j)), (2, vI (fo)), (3, vI (mo)), (0, .ref (gd g (19))), (1, vI (l))] (by decide) rfl ?_
    refine j_iload_n hC dX4_mistaken_29 5 rfl ?_
    refine j_iconst hC dX4_mistaken_30 ?_
    refine j_callS1 (ar := 2) hC hR (c_X4_at (hlJ hC) g σ l 0 ) [] rfl (by decide) (by decide +kernel) rfl wd643 wd644 wd4 wd645 (by decide) (Nat.le_of_ble_eq_true rfl) dX4_mistaken_31 ?_
    refine j_istore hC dX4_mistaken_34 [(6, vI (16 * l + 0)), (5, vI (0)), (4, vI (j)), (2, vI (fo)), (3, vI (mo)), (0, .ref (gd g (19))), (1, vI (l))] (by decide) rfl ?_
    refine j_sub [0, 1, 5, 6, 3, 4, 2] rfl ?_
    refine lm_mistaken_i hC hR hI l j fo mo hl (by omega) (nM σ l) (16 * l + 0) 0 (by omega) (by omega) ?_
    refine j_iload hC dX4_mistaken_86 0 rfl ?_
    refine j_iload_n hC dX4_mistaken_88 4 rfl ?_
    refine j_icmp_gt (tgt := 95) hC dX4_mistaken_89 (by decide) (by omega) (fun h89 => ?_) (fun h89 => ?_)
    · refine j_iload hC dX4_mistaken_95 5 rfl ?_
      refine j_iload_n hC dX4_mistaken_97 2 rfl ?_
      refine j_iconst hC dX4_mistaken_98 ?_
      refine j_callS1 (ar := 2) hC hR (c_X4_at (hlJ hC) g σ l 0 ) [vI (j)] rfl (by decide) (by decide +kernel) rfl wd643 wd644 wd4 wd645 (by decide) (Nat.le_of_ble_eq_true rfl) dX4_mistaken_99 ?_
      refine j_isub hC dX4_mistaken_102 ?_
      refine j_istore_n hC dX4_mistaken_103 [(2, vI (j - (16 * l + 0))), (5, vI (cnt (nrM σ j) (nM σ l) (16 * l + 0) 0)), (0, .ref (gd g (19))), (1, vI (l)), (3, vI (mo)), (4, vI (j))] (by decide) rfl ?_
      refine j_iload hC dX4_mistaken_104 1 rfl ?_
      refine j_istore_n hC dX4_mistaken_106 [(3, vI (cnt (nrM σ j) (nM σ l) (16 * l + 0) 0)), (2, vI (j - (16 * l + 0))), (5, vI (cnt (nrM σ j) (nM σ l) (16 * l + 0) 0)), (0, .ref (gd g (19))), (1, vI (l)), (4, vI (j))] (by decide) rfl ?_
      refine j_iinc hC dX4_mistaken_107 5 [(4, vI (j + 1)), (3, vI (cnt (nrM σ j) (nM σ l) (16 * l + 0) 0)), (2, vI (j - (16 * l + 0))), (5, vI (cnt (nrM σ j) (nM σ l) (16 * l + 0) 0)), (0, .ref (gd g (19))), (1, vI (l))] rfl (by decide) rfl ?_
      refine j_goto (tgt := 11) hC dX4_mistaken_110 (by decide) ?_
      refine j_sub [0, 2, 1, 4, 5] rfl ?_
      first | (rw [if_pos (show mo < cnt (nrM σ j) (nM σ l) (16 * l + 0) 0 by omega)]; exact ih (j + 1) _ _ (by omega) (by omega) (by omega)) | (rw [if_neg (show ¬ mo < cnt (nrM σ j) (nM σ l) (16 * l + 0) 0 by omega)]; exact ih (j + 1) fo mo (by omega) (by omega) hm)
    · refine j_goto (tgt := 107) hC dX4_mistaken_92 (by decide) ?_
      refine j_iinc hC dX4_mistaken_107 5 [(4, vI (j + 1)), (5, vI (cnt (nrM σ j) (nM σ l) (16 * l + 0) 0)), (0, .ref (gd g (19))), (1, vI (l)), (2, vI (fo)), (3, vI (mo))] rfl (by decide) rfl ?_
      refine j_goto (tgt := 11) hC dX4_mistaken_110 (by decide) ?_
      refine j_sub [0, 4, 5, 2, 3] rfl ?_
      first | (rw [if_pos (show mo < cnt (nrM σ j) (nM σ l) (16 * l + 0) 0 by omega)]; exact ih (j + 1) _ _ (by omega) (by omega) (by omega)) | (rw [if_neg (show ¬ mo < cnt (nrM σ j) (nM σ l) (16 * l + 0) 0 by omega)]; exact ih (j + 1) fo mo (by omega) (by omega) hm)
set_option maxHeartbeats 4000000 in
set_option maxRecDepth 100000 in
theorem c_X4_mistaken {L0 : Launch} (hL0 : L0.stackTraces = false) (g : GG) (σ : Sg) (hI : IM σ) (l : Int) (hl : 0 ≤ l ∧ l < 4) : CN L0 yX4_mistaken cX4_mistaken 7 (some .int) 4 91 0 0 g [.ref (gd g (19)), vI (l)] σ (pt (some (vI (miM σ l))) (σ)) := by
  refine CN_of (own := RX4) hL0 (by decide) rfl (Nat.le_of_ble_eq_true rfl) (fun mc hC _ hR => ?_)
  refine j_lv (lv2 := [(0, .ref (gd g (19))), (1, vI (l))]) rfl ?_
  have hn := hI.2.2.1 l hl.1 hl.2
  have hn2 := nM_eq hI hl
  refine j_iconst hC dX4_mistaken_0 ?_
  refine j_istore_n hC dX4_mistaken_1 [(2, vI (-1)), (0, .ref (gd g (19))), (1, vI (l))] (by decide) rfl ?_
  refine j_iconst hC dX4_mistaken_2 ?_
  refine j_istore_n hC dX4_mistaken_3 [(3, vI (-1)), (2, vI (-1)), (0, .ref (gd g (19))), (1, vI (l))] (by decide) rfl ?_
  refine j_iload_n hC dX4_mistaken_4 3 rfl ?_
  refine j_iconst hC dX4_mistaken_5 ?_
  refine j_callS1 (ar := 2) hC hR (c_X4_at (hlJ hC) g σ l 0 ) [] rfl (by decide) (by decide +kernel) rfl wd643 wd644 wd4 wd645 (by decide) (Nat.le_of_ble_eq_true rfl) dX4_mistaken_6 ?_
  refine j_istore hC dX4_mistaken_9 [(4, vI (16 * l + 0)), (3, vI (-1)), (2, vI (-1)), (0, .ref (gd g (19))), (1, vI (l))] (by decide) rfl ?_
  refine j_sub [0, 2, 1, 3, 4] rfl ?_
  exact lm_mistaken_o hC hR hI l hl (nM σ l) _ (-1) (-1) (by omega) (by omega) (by omega)
set_option maxHeartbeats 4000000 in
set_option maxRecDepth 100000 in
theorem lm_bestThumb_i {mc : MC} {g : GG} {σ : Sg} {Q : State → Prop} (hC : Cx mc g cX4_bestThumbOf RX4 9 (some .int)) (hR : mR mc = rmJ 3 69 0 0) (hI : IM σ) (l s j fo mo t : Int) (hl : 0 ≤ l ∧ l < 4) (hj : 0 ≤ j ∧ j < 64) (ht : 0 ≤ t ∧ t < 4) : ∀ (d : Nat) (w : Int) (a : Int), (16 * l ≤ w) → (w + (d : Int) = 16 * l + σ.2 11 l) → (0 ≤ a ∧ a ≤ 99) → (J mc g 0 0 Q 109 [(7, vI (nbF (fun k => dst (σ.2 17) (btL σ j t) (lkM σ k)) j d w a)), (0, .ref (gd g (19))), (1, vI (l)), (2, vI (s)), (3, vI (j)), (4, vI (fo)), (5, vI (mo)), (6, vI (t))] [] σ) → J mc g 0 0 Q 49 [(8, vI (w)), (7, vI (a)), (0, .ref (gd g (19))), (1, vI (l)), (2, vI (s)), (3, vI (j)), (4, vI (fo)), (5, vI (mo)), (6, vI (t))] [] σ := by
  intro d
  induction d with
  | zero =>
    intro w a h0 hw ha kx
    have hn := hI.2.2.1 l hl.1 hl.2
    refine j_iload hC dX4_bestThumbOf_49 0 rfl ?_
    refine j_iload_n hC dX4_bestThumbOf_51 3 rfl ?_
    refine j_aload_n hC dX4_bestThumbOf_52 2 rfl ?_
    refine j_get hC inX4 rfl 19 rfl 2 (by decide) wd584 rfl dX4_bestThumbOf_53 ?_
    refine j_iload_n hC dX4_bestThumbOf_56 3 rfl ?_
    refine j_iald hC 20 rfl (by omega) dX4_bestThumbOf_57 ?_
    refine j_callS1 (ar := 2) hC hR (c_X4_at (hlJ hC) g σ l ((σ).2 11 l) ) [vI (w)] rfl (by decide) (by decide +kernel) rfl wd643 wd644 wd4 wd645 (by decide) (Nat.le_of_ble_eq_true rfl) dX4_bestThumbOf_58 ?_
    refine j_icmp_ge (tgt := 109) hC dX4_bestThumbOf_61 (by decide) (by omega) (fun _ => ?_) (fun h => absurd h (by omega))
    refine j_sub [1, 2, 3, 4, 5, 6, 7, 8] rfl ?_
    exact kx
  | succ d ih =>
    intro w a h0 hw ha kx
    have hn := hI.2.2.1 l hl.1 hl.2
    have hm := lkM_in hI hj
    have hbt : 0 ≤ btL σ j t ∧ btL σ j t < 2304 := mkL_rg (by omega)
    have hlw := lkM_rg hI (k := w) (by omega)
    have hd : 0 ≤ dst (σ.2 17) (mkL (σ.2 12 j) t (σ.2 14 j) (σ.2 15 j)) (lkM σ w) ∧ dst (σ.2 17) (mkL (σ.2 12 j) t (σ.2 14 j) (σ.2 15 j)) (lkM σ w) ≤ 11 := dst_rg ⟨hbt.1, hbt.2, hlw.1, hlw.2⟩
    rw [show nbF (fun k => dst (σ.2 17) (btL σ j t) (lkM σ k)) j (d + 1) w a = nbF (fun k => dst (σ.2 17) (btL σ j t) (lkM σ k)) j d (w + 1) (if w = j then a else if a ≤ dst (σ.2 17) (mkL (σ.2 12 j) t (σ.2 14 j) (σ.2 15 j)) (lkM σ w) then a else dst (σ.2 17) (mkL (σ.2 12 j) t (σ.2 14 j) (σ.2 15 j)) (lkM σ w)) from rfl] at kx
    refine j_iload hC dX4_bestThumbOf_49 0 rfl ?_
    refine j_iload_n hC dX4_bestThumbOf_51 3 rfl ?_
    refine j_aload_n hC dX4_bestThumbOf_52 2 rfl ?_
    refine j_get hC inX4 rfl 19 rfl 2 (by decide) wd584 rfl dX4_bestThumbOf_53 ?_
    refine j_iload_n hC dX4_bestThumbOf_56 3 rfl ?_
    refine j_iald hC 20 rfl (by omega) dX4_bestThumbOf_57 ?_
    refine j_callS1 (ar := 2) hC hR (c_X4_at (hlJ hC) g σ l ((σ).2 11 l) ) [vI (w)] rfl (by decide) (by decide +kernel) rfl wd643 wd644 wd4 wd645 (by decide) (Nat.le_of_ble_eq_true rfl) dX4_bestThumbOf_58 ?_
    refine j_icmp_ge (tgt := 109) hC dX4_bestThumbOf_61 (by decide) (by omega) (fun h => absurd h (by omega)) (fun _ => ?_)
    refine j_iload hC dX4_bestThumbOf_64 0 rfl ?_
    refine j_iload_n hC dX4_bestThumbOf_66 5 rfl ?_
    refine j_icmp_eq (tgt := 103) hC dX4_bestThumbOf_67 (by decide) (by omega) (fun h67 => ?_) (fun h67 => ?_)
    · refine j_iinc hC dX4_bestThumbOf_103 0 [(8, vI (w + 1)), (7, vI (a)), (0, .ref (gd g (19))), (1, vI (l)), (2, vI (s)), (3, vI (j)), (4, vI (fo)), (5, vI (mo)), (6, vI (t))] rfl (by decide) rfl ?_
      refine j_goto (tgt := 49) hC dX4_bestThumbOf_106 (by decide) ?_
      refine j_sub [0, 1, 2, 3, 4, 5, 6, 7, 8] rfl ?_
      first | (rw [if_pos h67] at kx; exact ih (w + 1) a (by omega) (by omega) ha kx) | (rw [if_neg h67] at kx; exact ih (w + 1) _ (by omega) (by omega) (by split <;> omega) kx)
    · refine j_iload hC dX4_bestThumbOf_70 1 rfl ?_
      refine j_aload_n hC dX4_bestThumbOf_72 2 rfl ?_
      refine j_aload_n hC dX4_bestThumbOf_73 2 rfl ?_
      refine j_get hC inX4 rfl 19 rfl 3 (by decide) wd585 rfl dX4_bestThumbOf_74 ?_
      refine j_iload_n hC dX4_bestThumbOf_77 5 rfl ?_
      refine j_iald hC 21 rfl (by omega) dX4_bestThumbOf_78 ?_
      refine j_iload hC dX4_bestThumbOf_79 8 rfl ?_
      refine j_aload_n hC dX4_bestThumbOf_81 2 rfl ?_
      refine j_get hC inX4 rfl 19 rfl 5 (by decide) wd587 rfl dX4_bestThumbOf_82 ?_
      refine j_iload_n hC dX4_bestThumbOf_85 5 rfl ?_
      refine j_iald hC 23 rfl (by omega) dX4_bestThumbOf_86 ?_
      refine j_aload_n hC dX4_bestThumbOf_87 2 rfl ?_
      refine j_get hC inX4 rfl 19 rfl 6 (by decide) wd588 rfl dX4_bestThumbOf_88 ?_
      refine j_iload_n hC dX4_bestThumbOf_91 5 rfl ?_
      refine j_iald hC 24 rfl (by omega) dX4_bestThumbOf_92 ?_
      refine j_iload hC dX4_bestThumbOf_93 0 rfl ?_
      refine j_callV1 (ar := 5) hC hR (c_X4_far (hlJ hC) g σ hI ((σ).2 12 j) t ((σ).2 14 j) ((σ).2 15 j) w (by omega) (by omega)) [vI (a)] rfl 19 rfl rfl rfl (by decide) (by decide +kernel) rfl wd689 wd691 wp38 wd4 wd692 (by decide) (Nat.le_of_ble_eq_true rfl) dX4_bestThumbOf_95 ?_
      refine j_min hC hR wd673 ⟨by decide, Nat.le_of_ble_eq_true rfl⟩ (by decide) (by omega) dX4_bestThumbOf_98 ?_
      refine j_istore hC dX4_bestThumbOf_101 [(7, vI (if a ≤ dst (σ.2 17) (mkL ((σ).2 12 j) t ((σ).2 14 j) ((σ).2 15 j)) (lkM σ w) then a else dst (σ.2 17) (mkL ((σ).2 12 j) t ((σ).2 14 j) ((σ).2 15 j)) (lkM σ w))), (8, vI (w)), (0, .ref (gd g (19))), (1, vI (l)), (2, vI (s)), (3, vI (j)), (4, vI (fo)), (5, vI (mo)), (6, vI (t))] (by decide) rfl ?_
      refine j_iinc hC dX4_bestThumbOf_103 1 [(8, vI (w + 1)), (7, vI (if a ≤ dst (σ.2 17) (mkL ((σ).2 12 j) t ((σ).2 14 j) ((σ).2 15 j)) (lkM σ w) then a else dst (σ.2 17) (mkL ((σ).2 12 j) t ((σ).2 14 j) ((σ).2 15 j)) (lkM σ w))), (0, .ref (gd g (19))), (1, vI (l)), (2, vI (s)), (3, vI (j)), (4, vI (fo)), (5, vI (mo)), (6, vI (t))] rfl (by decide) rfl ?_
      refine j_goto (tgt := 49) hC dX4_bestThumbOf_106 (by decide) ?_
      refine j_sub [0, 1, 2, 3, 4, 5, 6, 7, 8] rfl ?_
      first | (rw [if_pos h67] at kx; exact ih (w + 1) a (by omega) (by omega) ha kx) | (rw [if_neg h67] at kx; exact ih (w + 1) _ (by omega) (by omega) (by split <;> omega) kx)
theorem btN_rg {σ : Sg} (hI : IM σ) {l j t : Int} (hl : 0 ≤ l ∧ l < 4) (hj : 0 ≤ j ∧ j < 64) (ht : 0 ≤ t ∧ t < 4) : 0 ≤ btN σ l j t ∧ btN σ l j t ≤ 99 := by
  have hn := hI.2.2.1 l hl.1 hl.2
  have hn2 := nM_eq hI hl
  have hm := lkM_in hI hj
  have hbt : 0 ≤ btL σ j t ∧ btL σ j t < 2304 := mkL_rg (by omega)
  refine nbF_rg _ j (nM σ l) (16 * l + 0) 99 (fun y h1 h2 => ?_) (by omega) (by omega)
  have hlw := lkM_rg hI (k := y) (by omega)
  have h := dst_rg (G := σ.2 17) (x := btL σ j t) (y := lkM σ y) ⟨hbt.1, hbt.2, hlw.1, hlw.2⟩
  exact ⟨h.1, by show dst (σ.2 17) (btL σ j t) (lkM σ y) ≤ 99; omega⟩
set_option maxHeartbeats 4000000 in
set_option maxRecDepth 100000 in
theorem lm_bestThumb_o {mc : MC} {g : GG} {σ : Sg} (hC : Cx mc g cX4_bestThumbOf RX4 9 (some .int)) (hR : mR mc = rmJ 3 69 0 0) (hI : IM σ) (l s j : Int) (hl : 0 ≤ l ∧ l < 4) (hj : 0 ≤ j ∧ j < 64) : ∀ (d : Nat) (t : Int) (fo : Int) (mo : Int), (0 ≤ t) → (t + (d : Int) = 4) → (-1 ≤ mo ∧ mo ≤ 99) → J mc g 0 0 (QN mc g (pt (some (vI (amF (fun t => btN σ l j t) d t fo mo))) (σ)) 0 0) 32 [(6, vI (t)), (4, vI (fo)), (5, vI (mo)), (0, .ref (gd g (19))), (1, vI (l)), (2, vI (s)), (3, vI (j))] [] σ := by
  intro d
  induction d with
  | zero =>
    intro t fo mo h0 hz hm
    refine j_iload hC dX4_bestThumbOf_32 0 rfl ?_
    refine j_iconst hC dX4_bestThumbOf_34 ?_
    refine j_icmp_ge (tgt := 133) hC dX4_bestThumbOf_35 (by decide) (by omega) (fun _ => ?_) (fun h => absurd h (by omega))
    refine j_iload hC dX4_bestThumbOf_133 1 rfl ?_
    exact j_iret hC dX4_bestThumbOf_135 ⟨rfl, rfl⟩
  | succ d ih =>
    intro t fo mo h0 hz hm
    have hn := hI.2.2.1 l hl.1 hl.2
    have hn2 := nM_eq hI hl
    have hq := btN_rg hI (t := t) hl hj (by omega)
    rw [show amF (fun t => btN σ l j t) (d + 1) t fo mo = if mo < btN σ l j t then amF (fun t => btN σ l j t) d (t + 1) t (btN σ l j t) else amF (fun t => btN σ l j t) d (t + 1) fo mo from rfl]
    refine j_iload hC dX4_bestThumbOf_32 0 rfl ?_
    refine j_iconst hC dX4_bestThumbOf_34 ?_
    refine j_icmp_ge (tgt := 133) hC dX4_bestThumbOf_35 (by decide) (by omega) (fun h => absurd h (by omega)) (fun _ => ?_)
    refine j_bipush hC dX4_bestThumbOf_38 (by decide) ?_
    refine j_istore hC dX4_bestThumbOf_40 [(7, vI (99)), (6, vI (t)), (4, vI (fo)), (5, vI (mo)), (0, .ref (gd g (19))), (1, vI (l)), (2, vI (s)), (3, vI (j))] (by decide) rfl ?_
    refine j_iload_n hC dX4_bestThumbOf_42 5 rfl ?_
    refine j_iconst hC dX4_bestThumbOf_43 ?_
    refine j_callS1 (ar := 2) hC hR (c_X4_at (hlJ hC) g σ l 0 ) [] rfl (by decide) (by decide +kernel) rfl wd643 wd644 wd4 wd645 (by decide) (Nat.le_of_ble_eq_true rfl) dX4_bestThumbOf_44 ?_
    refine j_istore hC dX4_bestThumbOf_47 [(8, vI (16 * l + 0)), (7, vI (99)), (6, vI (t)), (4, vI (fo)), (5, vI (mo)), (0, .ref (gd g (19))), (1, vI (l)), (2, vI (s)), (3, vI (j))] (by decide) rfl ?_
    refine j_sub [0, 1, 5, 6, 7, 8, 3, 4, 2] rfl ?_
    refine lm_bestThumb_i hC hR hI l s j fo mo t hl hj (by omega) (nM σ l) (16 * l + 0) 99 (by omega) (by omega) (by omega) ?_
    refine j_lv (lv2 := [(7, vI (btN σ l j t)), (0, .ref (gd g (19))), (1, vI (l)), (2, vI (s)), (3, vI (j)), (4, vI (fo)), (5, vI (mo)), (6, vI (t))]) rfl ?_
    refine j_iload hC dX4_bestThumbOf_109 0 rfl ?_
    refine j_iload hC dX4_bestThumbOf_111 6 rfl ?_
    refine j_icmp_gt (tgt := 119) hC dX4_bestThumbOf_113 (by decide) (by omega) (fun h113 => ?_) (fun h113 => ?_)
    · refine j_iload hC dX4_bestThumbOf_119 7 rfl ?_
      refine j_istore hC dX4_bestThumbOf_121 [(4, vI (t)), (7, vI (btN σ l j t)), (0, .ref (gd g (19))), (1, vI (l)), (2, vI (s)), (3, vI (j)), (5, vI (mo)), (6, vI (t))] (by decide) rfl ?_
      refine j_iload hC dX4_bestThumbOf_123 1 rfl ?_
      refine j_istore hC dX4_bestThumbOf_125 [(5, vI (btN σ l j t)), (4, vI (t)), (7, vI (btN σ l j t)), (0, .ref (gd g (19))), (1, vI (l)), (2, vI (s)), (3, vI (j)), (6, vI (t))] (by decide) rfl ?_
      refine j_iinc hC dX4_bestThumbOf_127 7 [(6, vI (t + 1)), (5, vI (btN σ l j t)), (4, vI (t)), (7, vI (btN σ l j t)), (0, .ref (gd g (19))), (1, vI (l)), (2, vI (s)), (3, vI (j))] rfl (by decide) rfl ?_
      refine j_goto (tgt := 32) hC dX4_bestThumbOf_130 (by decide) ?_
      refine j_sub [0, 2, 1, 4, 5, 6, 7] rfl ?_
      first | (rw [if_pos (show mo < btN σ l j t by omega)]; exact ih (t + 1) t _ (by omega) (by omega) (by omega)) | (rw [if_neg (show ¬ mo < btN σ l j t by omega)]; exact ih (t + 1) fo mo (by omega) (by omega) hm)
    · refine j_goto (tgt := 127) hC dX4_bestThumbOf_116 (by decide) ?_
      refine j_iinc hC dX4_bestThumbOf_127 7 [(6, vI (t + 1)), (7, vI (btN σ l j t)), (0, .ref (gd g (19))), (1, vI (l)), (2, vI (s)), (3, vI (j)), (4, vI (fo)), (5, vI (mo))] rfl (by decide) rfl ?_
      refine j_goto (tgt := 32) hC dX4_bestThumbOf_130 (by decide) ?_
      refine j_sub [0, 6, 7, 2, 3, 4, 5] rfl ?_
      first | (rw [if_pos (show mo < btN σ l j t by omega)]; exact ih (t + 1) t _ (by omega) (by omega) (by omega)) | (rw [if_neg (show ¬ mo < btN σ l j t by omega)]; exact ih (t + 1) fo mo (by omega) (by omega) hm)
set_option maxHeartbeats 4000000 in
set_option maxRecDepth 100000 in
theorem c_X4_bestThumbOf {L0 : Launch} (hL0 : L0.stackTraces = false) (g : GG) (σ : Sg) (hI : IM σ) (l s : Int) (hl : 0 ≤ l ∧ l < 4) (hs : 0 ≤ s ∧ s < σ.2 11 l) : CN L0 yX4_bestThumbOf cX4_bestThumbOf 9 (some .int) 3 69 0 0 g [.ref (gd g (19)), vI (l), vI (s)] σ (pt (some (vI (btM σ l s))) (σ)) := by
  refine CN_of (own := RX4) hL0 (by decide) rfl (Nat.le_of_ble_eq_true rfl) (fun mc hC _ hR => ?_)
  refine j_lv (lv2 := [(0, .ref (gd g (19))), (1, vI (l)), (2, vI (s))]) rfl ?_
  have hn := hI.2.2.1 l hl.1 hl.2
  have hn2 := nM_eq hI hl
  refine j_iload_n hC dX4_bestThumbOf_0 1 rfl ?_
  refine j_iload_n hC dX4_bestThumbOf_1 2 rfl ?_
  refine j_callS1 (ar := 2) hC hR (c_X4_at (hlJ hC) g σ l s ) [] rfl (by decide) (by decide +kernel) rfl wd643 wd644 wd4 wd645 (by decide) (Nat.le_of_ble_eq_true rfl) dX4_bestThumbOf_2 ?_
  refine j_istore_n hC dX4_bestThumbOf_5 [(3, vI (16 * l + s)), (0, .ref (gd g (19))), (1, vI (l)), (2, vI (s))] (by decide) rfl ?_
  refine j_aload_n hC dX4_bestThumbOf_6 1 rfl ?_
  refine j_get hC inX4 rfl 19 rfl 2 (by decide) wd584 rfl dX4_bestThumbOf_7 ?_
  refine j_iload_n hC dX4_bestThumbOf_10 2 rfl ?_
  refine j_iald hC 20 rfl (by omega) dX4_bestThumbOf_11 ?_
  refine j_iconst hC dX4_bestThumbOf_12 ?_
  refine j_icmp_ne (tgt := 23) hC dX4_bestThumbOf_13 (by decide) (by omega) (fun h13 => ?_) (fun h13 => ?_)
  · refine j_iconst hC dX4_bestThumbOf_23 ?_
    refine j_istore hC dX4_bestThumbOf_24 [(4, vI (-1)), (3, vI (16 * l + s)), (0, .ref (gd g (19))), (1, vI (l)), (2, vI (s))] (by decide) rfl ?_
    refine j_iconst hC dX4_bestThumbOf_26 ?_
    refine j_istore hC dX4_bestThumbOf_27 [(5, vI (-1)), (4, vI (-1)), (3, vI (16 * l + s)), (0, .ref (gd g (19))), (1, vI (l)), (2, vI (s))] (by decide) rfl ?_
    refine j_iconst hC dX4_bestThumbOf_29 ?_
    refine j_istore hC dX4_bestThumbOf_30 [(6, vI (0)), (5, vI (-1)), (4, vI (-1)), (3, vI (16 * l + s)), (0, .ref (gd g (19))), (1, vI (l)), (2, vI (s))] (by decide) rfl ?_
    refine j_sub [0, 2, 1, 4, 5, 6, 3] rfl ?_
    rw [show btM σ l s = amF (fun t => btN σ l (16 * l + s) t) 4 0 (-1) (-1) from if_neg h13]
    exact lm_bestThumb_o hC hR hI l s _ hl (by omega) 4 0 (-1) (-1) (by omega) (by omega) (by omega)
  · refine j_aload_n hC dX4_bestThumbOf_16 1 rfl ?_
    refine j_get hC inX4 rfl 19 rfl 4 (by decide) wd586 rfl dX4_bestThumbOf_17 ?_
    refine j_iload_n hC dX4_bestThumbOf_20 0 rfl ?_
    refine j_iald hC 22 rfl (by omega) dX4_bestThumbOf_21 ?_
    exact j_iret hC dX4_bestThumbOf_22 ⟨by unfold btM; rw [if_pos h13], rfl⟩
set_option maxHeartbeats 4000000 in
set_option maxRecDepth 100000 in
theorem lm_readAs {mc : MC} {g : GG} {σ : Sg} (hC : Cx mc g cX4_readAs RX4 7 (some .int)) (hR : mR mc = rmJ 5 120 0 0) (hI : IM σ) (f t r : Int) (hf : 0 ≤ f ∧ f < 4) (ht : 0 ≤ t ∧ t < 4) (hr : r = 0 ∨ r = 1) : ∀ (d : Nat) (w : Int) (a : Int), (16 * f ≤ w) → (w + (d : Int) = 16 * f + σ.2 11 f) → J mc g 0 0 (QN mc g (pt (some (vI (cnt (raC σ t r) d w a))) (σ)) 0 0) 10 [(5, vI (w)), (4, vI (a)), (0, .ref (gd g (19))), (1, vI (f)), (2, vI (t)), (3, vI (r))] [] σ := by
  intro d
  induction d with
  | zero =>
    intro w a h0 hw
    have hn := hI.2.2.1 f hf.1 hf.2
    refine j_iload hC dX4_readAs_10 0 rfl ?_
    refine j_iload_n hC dX4_readAs_12 3 rfl ?_
    refine j_aload_n hC dX4_readAs_13 2 rfl ?_
    refine j_get hC inX4 rfl 19 rfl 2 (by decide) wd584 rfl dX4_readAs_14 ?_
    refine j_iload_n hC dX4_readAs_17 3 rfl ?_
    refine j_iald hC 20 rfl (by omega) dX4_readAs_18 ?_
    refine j_callS1 (ar := 2) hC hR (c_X4_at (hlJ hC) g σ f ((σ).2 11 f) ) [vI (w)] rfl (by decide) (by decide +kernel) rfl wd643 wd644 wd4 wd645 (by decide) (Nat.le_of_ble_eq_true rfl) dX4_readAs_19 ?_
    refine j_icmp_ge (tgt := 77) hC dX4_readAs_22 (by decide) (by omega) (fun _ => ?_) (fun h => absurd h (by omega))
    refine j_iload hC dX4_readAs_77 1 rfl ?_
    exact j_iret hC dX4_readAs_79 ⟨rfl, rfl⟩
  | succ d ih =>
    intro w a h0 hw
    have hn := hI.2.2.1 f hf.1 hf.2
    have hmw := hI.2.2.2.2.2.2.2.1 w (by omega) (by omega)
    rw [show cnt (raC σ t r) (d + 1) w a = cnt (raC σ t r) d (w + 1) (if raC σ t r w = true then a + 1 else a) from rfl]
    refine j_iload hC dX4_readAs_10 0 rfl ?_
    refine j_iload_n hC dX4_readAs_12 3 rfl ?_
    refine j_aload_n hC dX4_readAs_13 2 rfl ?_
    refine j_get hC inX4 rfl 19 rfl 2 (by decide) wd584 rfl dX4_readAs_14 ?_
    refine j_iload_n hC dX4_readAs_17 3 rfl ?_
    refine j_iald hC 20 rfl (by omega) dX4_readAs_18 ?_
    refine j_callS1 (ar := 2) hC hR (c_X4_at (hlJ hC) g σ f ((σ).2 11 f) ) [vI (w)] rfl (by decide) (by decide +kernel) rfl wd643 wd644 wd4 wd645 (by decide) (Nat.le_of_ble_eq_true rfl) dX4_readAs_19 ?_
    refine j_icmp_ge (tgt := 77) hC dX4_readAs_22 (by decide) (by omega) (fun h => absurd h (by omega)) (fun _ => ?_)
    refine j_aload_n hC dX4_readAs_25 2 rfl ?_
    refine j_iload hC dX4_readAs_26 0 rfl ?_
    refine j_iload_n hC dX4_readAs_28 4 rfl ?_
    refine j_callV1 (ar := 2) hC hR (c_X4_reads2 (hlJ hC) g σ hI w t (by omega) (by omega)) [] rfl 19 rfl rfl rfl (by decide) (by decide +kernel) rfl wd790 wd792 wp47 wd4 wd793 (by decide) (Nat.le_of_ble_eq_true rfl) dX4_readAs_29 ?_
    have hf29 := rdM_rg hI (l := t) (by omega) (lkM σ w)
    refine j_istore hC dX4_readAs_32 [(6, vI (rdM σ (lkM σ w) t)), (5, vI (w)), (4, vI (a)), (0, .ref (gd g (19))), (1, vI (f)), (2, vI (t)), (3, vI (r))] (by decide) rfl ?_
    refine j_iload hC dX4_readAs_34 2 rfl ?_
    refine j_iload hC dX4_readAs_36 0 rfl ?_
    refine j_iconst hC dX4_readAs_38 ?_
    refine j_icmp_eq (tgt := 67) hC dX4_readAs_39 (by decide) (by omega) (fun h39 => ?_) (fun h39 => ?_)
    · refine j_iconst hC dX4_readAs_67 ?_
      refine j_iadd hC dX4_readAs_68 ?_
      refine j_istore hC dX4_readAs_69 [(4, vI (a + 0)), (6, vI (rdM σ (lkM σ w) t)), (5, vI (w)), (0, .ref (gd g (19))), (1, vI (f)), (2, vI (t)), (3, vI (r))] (by decide) rfl ?_
      refine j_iinc hC dX4_readAs_71 2 [(5, vI (w + 1)), (4, vI (a + 0)), (6, vI (rdM σ (lkM σ w) t)), (0, .ref (gd g (19))), (1, vI (f)), (2, vI (t)), (3, vI (r))] rfl (by decide) rfl ?_
      refine j_goto (tgt := 10) hC dX4_readAs_74 (by decide) ?_
      refine j_sub [0, 1, 3, 4, 5, 6] rfl ?_
      first | (rw [if_pos (show raC σ t r w = true from decide_eq_true ⟨h39, (show (if rdM σ (lkM σ w) t = σ.2 16 w then (1 : Int) else 0) = r by first | (rw [if_pos h51]; omega) | (rw [if_neg h51]; omega))⟩)]; exact ih (w + 1) (a + 1) (by omega) (by omega)) | (rw [if_neg (show ¬ (raC σ t r w = true) from fun q => (of_decide_eq_true q).1 h39), Int.add_zero a]; exact ih (w + 1) a (by omega) (by omega)) | (rw [if_neg (show ¬ (raC σ t r w = true) from fun q => absurd (of_decide_eq_true q).2 (show ¬ ((if rdM σ (lkM σ w) t = σ.2 16 w then (1 : Int) else 0) = r) by first | (rw [if_pos h51]; omega) | (rw [if_neg h51]; omega))), Int.add_zero a]; exact ih (w + 1) a (by omega) (by omega))
    · refine j_iload hC dX4_readAs_42 0 rfl ?_
      refine j_aload_n hC dX4_readAs_44 3 rfl ?_
      refine j_get hC inX4 rfl 19 rfl 7 (by decide) wd589 rfl dX4_readAs_45 ?_
      refine j_iload hC dX4_readAs_48 1 rfl ?_
      refine j_iald hC 25 rfl (by omega) dX4_readAs_50 ?_
      refine j_icmp_ne (tgt := 58) hC dX4_readAs_51 (by decide) (by omega) (fun h51 => ?_) (fun h51 => ?_)
      · refine j_iconst hC dX4_readAs_58 ?_
        refine j_iload_n hC dX4_readAs_59 6 rfl ?_
        refine j_icmp_ne (tgt := 67) hC dX4_readAs_60 (by decide) (by omega) (fun h60 => ?_) (fun h60 => ?_)
        · refine j_iconst hC dX4_readAs_67 ?_
          refine j_iadd hC dX4_readAs_68 ?_
          refine j_istore hC dX4_readAs_69 [(4, vI (a + 0)), (6, vI (rdM σ (lkM σ w) t)), (5, vI (w)), (0, .ref (gd g (19))), (1, vI (f)), (2, vI (t)), (3, vI (r))] (by decide) rfl ?_
          refine j_iinc hC dX4_readAs_71 2 [(5, vI (w + 1)), (4, vI (a + 0)), (6, vI (rdM σ (lkM σ w) t)), (0, .ref (gd g (19))), (1, vI (f)), (2, vI (t)), (3, vI (r))] rfl (by decide) rfl ?_
          refine j_goto (tgt := 10) hC dX4_readAs_74 (by decide) ?_
          refine j_sub [0, 1, 3, 4, 5, 6] rfl ?_
          first | (rw [if_pos (show raC σ t r w = true from decide_eq_true ⟨h39, (show (if rdM σ (lkM σ w) t = σ.2 16 w then (1 : Int) else 0) = r by first | (rw [if_pos h51]; omega) | (rw [if_neg h51]; omega))⟩)]; exact ih (w + 1) (a + 1) (by omega) (by omega)) | (rw [if_neg (show ¬ (raC σ t r w = true) from fun q => (of_decide_eq_true q).1 h39), Int.add_zero a]; exact ih (w + 1) a (by omega) (by omega)) | (rw [if_neg (show ¬ (raC σ t r w = true) from fun q => absurd (of_decide_eq_true q).2 (show ¬ ((if rdM σ (lkM σ w) t = σ.2 16 w then (1 : Int) else 0) = r) by first | (rw [if_pos h51]; omega) | (rw [if_neg h51]; omega))), Int.add_zero a]; exact ih (w + 1) a (by omega) (by omega))
        · refine j_iconst hC dX4_readAs_63 ?_
          refine j_goto (tgt := 68) hC dX4_readAs_64 (by decide) ?_
          refine j_iadd hC dX4_readAs_68 ?_
          refine j_istore hC dX4_readAs_69 [(4, vI (a + 1)), (6, vI (rdM σ (lkM σ w) t)), (5, vI (w)), (0, .ref (gd g (19))), (1, vI (f)), (2, vI (t)), (3, vI (r))] (by decide) rfl ?_
          refine j_iinc hC dX4_readAs_71 2 [(5, vI (w + 1)), (4, vI (a + 1)), (6, vI (rdM σ (lkM σ w) t)), (0, .ref (gd g (19))), (1, vI (f)), (2, vI (t)), (3, vI (r))] rfl (by decide) rfl ?_
          refine j_goto (tgt := 10) hC dX4_readAs_74 (by decide) ?_
          refine j_sub [0, 1, 3, 4, 5, 6] rfl ?_
          first | (rw [if_pos (show raC σ t r w = true from decide_eq_true ⟨h39, (show (if rdM σ (lkM σ w) t = σ.2 16 w then (1 : Int) else 0) = r by first | (rw [if_pos h51]; omega) | (rw [if_neg h51]; omega))⟩)]; exact ih (w + 1) (a + 1) (by omega) (by omega)) | (rw [if_neg (show ¬ (raC σ t r w = true) from fun q => (of_decide_eq_true q).1 h39), Int.add_zero a]; exact ih (w + 1) a (by omega) (by omega)) | (rw [if_neg (show ¬ (raC σ t r w = true) from fun q => absurd (of_decide_eq_true q).2 (show ¬ ((if rdM σ (lkM σ w) t = σ.2 16 w then (1 : Int) else 0) = r) by first | (rw [if_pos h51]; omega) | (rw [if_neg h51]; omega))), Int.add_zero a]; exact ih (w + 1) a (by omega) (by omega))
      · refine j_iconst hC dX4_readAs_54 ?_
        refine j_goto (tgt := 59) hC dX4_readAs_55 (by decide) ?_
        refine j_iload_n hC dX4_readAs_59 6 rfl ?_
        refine j_icmp_ne (tgt := 67) hC dX4_readAs_60 (by decide) (by omega) (fun h60 => ?_) (fun h60 => ?_)
        · refine j_iconst hC dX4_readAs_67 ?_
          refine j_iadd hC dX4_readAs_68 ?_
          refine j_istore hC dX4_readAs_69 [(4, vI (a + 0)), (6, vI (rdM σ (lkM σ w) t)), (5, vI (w)), (0, .ref (gd g (19))), (1, vI (f)), (2, vI (t)), (3, vI (r))] (by decide) rfl ?_
          refine j_iinc hC dX4_readAs_71 2 [(5, vI (w + 1)), (4, vI (a + 0)), (6, vI (rdM σ (lkM σ w) t)), (0, .ref (gd g (19))), (1, vI (f)), (2, vI (t)), (3, vI (r))] rfl (by decide) rfl ?_
          refine j_goto (tgt := 10) hC dX4_readAs_74 (by decide) ?_
          refine j_sub [0, 1, 3, 4, 5, 6] rfl ?_
          first | (rw [if_pos (show raC σ t r w = true from decide_eq_true ⟨h39, (show (if rdM σ (lkM σ w) t = σ.2 16 w then (1 : Int) else 0) = r by first | (rw [if_pos h51]; omega) | (rw [if_neg h51]; omega))⟩)]; exact ih (w + 1) (a + 1) (by omega) (by omega)) | (rw [if_neg (show ¬ (raC σ t r w = true) from fun q => (of_decide_eq_true q).1 h39), Int.add_zero a]; exact ih (w + 1) a (by omega) (by omega)) | (rw [if_neg (show ¬ (raC σ t r w = true) from fun q => absurd (of_decide_eq_true q).2 (show ¬ ((if rdM σ (lkM σ w) t = σ.2 16 w then (1 : Int) else 0) = r) by first | (rw [if_pos h51]; omega) | (rw [if_neg h51]; omega))), Int.add_zero a]; exact ih (w + 1) a (by omega) (by omega))
        · refine j_iconst hC dX4_readAs_63 ?_
          refine j_goto (tgt := 68) hC dX4_readAs_64 (by decide) ?_
          refine j_iadd hC dX4_readAs_68 ?_
          refine j_istore hC dX4_readAs_69 [(4, vI (a + 1)), (6, vI (rdM σ (lkM σ w) t)), (5, vI (w)), (0, .ref (gd g (19))), (1, vI (f)), (2, vI (t)), (3, vI (r))] (by decide) rfl ?_
          refine j_iinc hC dX4_readAs_71 2 [(5, vI (w + 1)), (4, vI (a + 1)), (6, vI (rdM σ (lkM σ w) t)), (0, .ref (gd g (19))), (1, vI (f)), (2, vI (t)), (3, vI (r))] rfl (by decide) rfl ?_
          refine j_goto (tgt := 10) hC dX4_readAs_74 (by decide) ?_
          refine j_sub [0, 1, 3, 4, 5, 6] rfl ?_
          first | (rw [if_pos (show raC σ t r w = true from decide_eq_true ⟨h39, (show (if rdM σ (lkM σ w) t = σ.2 16 w then (1 : Int) else 0) = r by first | (rw [if_pos h51]; omega) | (rw [if_neg h51]; omega))⟩)]; exact ih (w + 1) (a + 1) (by omega) (by omega)) | (rw [if_neg (show ¬ (raC σ t r w = true) from fun q => (of_decide_eq_true q).1 h39), Int.add_zero a]; exact ih (w + 1) a (by omega) (by omega)) | (rw [if_neg (show ¬ (raC σ t r w = true) from fun q => absurd (of_decide_eq_true q).2 (show ¬ ((if rdM σ (lkM σ w) t = σ.2 16 w then (1 : Int) else 0) = r) by first | (rw [if_pos h51]; omega) | (rw [if_neg h51]; omega))), Int.add_zero a]; exact ih (w + 1) a (by omega) (by omega))
set_option maxHeartbeats 4000000 in
set_option maxRecDepth 100000 in
theorem c_X4_readAs {L0 : Launch} (hL0 : L0.stackTraces = false) (g : GG) (σ : Sg) (hI : IM σ) (f t r : Int) (hf : 0 ≤ f ∧ f < 4) (ht : 0 ≤ t ∧ t < 4) (hr : r = 0 ∨ r = 1) : CN L0 yX4_readAs cX4_readAs 7 (some .int) 5 120 0 0 g [.ref (gd g (19)), vI (f), vI (t), vI (r)] σ (pt (some (vI (raM σ f t r))) (σ)) := by
  refine CN_of (own := RX4) hL0 (by decide) rfl (Nat.le_of_ble_eq_true rfl) (fun mc hC _ hR => ?_)
  refine j_lv (lv2 := [(0, .ref (gd g (19))), (1, vI (f)), (2, vI (t)), (3, vI (r))]) rfl ?_
  have hn := hI.2.2.1 f hf.1 hf.2
  have hn2 := nM_eq hI hf
  refine j_iconst hC dX4_readAs_0 ?_
  refine j_istore hC dX4_readAs_1 [(4, vI (0)), (0, .ref (gd g (19))), (1, vI (f)), (2, vI (t)), (3, vI (r))] (by decide) rfl ?_
  refine j_iload_n hC dX4_readAs_3 2 rfl ?_
  refine j_iconst hC dX4_readAs_4 ?_
  refine j_callS1 (ar := 2) hC hR (c_X4_at (hlJ hC) g σ f 0 ) [] rfl (by decide) (by decide +kernel) rfl wd643 wd644 wd4 wd645 (by decide) (Nat.le_of_ble_eq_true rfl) dX4_readAs_5 ?_
  refine j_istore hC dX4_readAs_8 [(5, vI (16 * f + 0)), (4, vI (0)), (0, .ref (gd g (19))), (1, vI (f)), (2, vI (t)), (3, vI (r))] (by decide) rfl ?_
  refine j_sub [0, 1, 2, 3, 4, 5] rfl ?_
  exact lm_readAs hC hR hI f t r hf ht hr (nM σ f) _ 0 (by omega) (by omega)
set_option maxHeartbeats 4000000 in
set_option maxRecDepth 100000 in
theorem lm_allGroups {mc : MC} {g : GG} {σ : Sg} (hC : Cx mc g cX4_allGroups RX4 3 (some .int)) (hR : mR mc = rmJ 0 0 0 0) (hI : IM σ)  : ∀ (d : Nat) (z : Int) (a : Int), (0 ≤ z) → (z + (d : Int) = 9) → J mc g 0 0 (QN mc g (pt (some (vI (cnt (agC σ) d z a))) (σ)) 0 0) 4 [(2, vI (z)), (1, vI (a)), (0, .ref (gd g (19)))] [] σ := by
  intro d
  induction d with
  | zero =>
    intro z a h0 hz
    refine j_iload_n hC dX4_allGroups_4 0 rfl ?_
    refine j_bipush hC dX4_allGroups_5 (by decide) ?_
    refine j_icmp_ge (tgt := 34) hC dX4_allGroups_7 (by decide) (by omega) (fun _ => ?_) (fun h => absurd h (by omega))
    refine j_iload_n hC dX4_allGroups_34 1 rfl ?_
    exact j_iret hC dX4_allGroups_35 ⟨rfl, rfl⟩
  | succ d ih =>
    intro z a h0 hz
    have hg := hI.2.2.2.2.2.2.2.2 z (by omega) (by omega)
    rw [show cnt (agC σ) (d + 1) z a = cnt (agC σ) d (z + 1) (if agC σ z = true then a + 1 else a) from rfl]
    refine j_iload_n hC dX4_allGroups_4 0 rfl ?_
    refine j_bipush hC dX4_allGroups_5 (by decide) ?_
    refine j_icmp_ge (tgt := 34) hC dX4_allGroups_7 (by decide) (by omega) (fun h => absurd h (by omega)) (fun _ => ?_)
    refine j_iload_n hC dX4_allGroups_10 1 rfl ?_
    refine j_aload_n hC dX4_allGroups_11 2 rfl ?_
    refine j_get hC inX4 rfl 19 rfl 8 (by decide) wd590 rfl dX4_allGroups_12 ?_
    refine j_iload_n hC dX4_allGroups_15 0 rfl ?_
    refine j_iald hC 26 rfl (by omega) dX4_allGroups_16 ?_
    refine j_iload_n hC dX4_allGroups_17 0 rfl ?_
    refine j_icmp_ne (tgt := 25) hC dX4_allGroups_18 (by decide) (by omega) (fun h18 => ?_) (fun h18 => ?_)
    · refine j_iconst hC dX4_allGroups_25 ?_
      refine j_iadd hC dX4_allGroups_26 ?_
      refine j_istore_n hC dX4_allGroups_27 [(1, vI (a + 0)), (2, vI (z)), (0, .ref (gd g (19)))] (by decide) rfl ?_
      refine j_iinc hC dX4_allGroups_28 1 [(2, vI (z + 1)), (1, vI (a + 0)), (0, .ref (gd g (19)))] rfl (by decide) rfl ?_
      refine j_goto (tgt := 4) hC dX4_allGroups_31 (by decide) ?_
      refine j_sub [0, 1, 2] rfl ?_
      first | (rw [if_pos (show agC σ z = true from decide_eq_true h18)]; exact ih (z + 1) (a + 1) (by omega) (by omega)) | (rw [if_neg (show ¬ (agC σ z = true) from fun q => h18 (of_decide_eq_true q)), Int.add_zero a]; exact ih (z + 1) a (by omega) (by omega))
    · refine j_iconst hC dX4_allGroups_21 ?_
      refine j_goto (tgt := 26) hC dX4_allGroups_22 (by decide) ?_
      refine j_iadd hC dX4_allGroups_26 ?_
      refine j_istore_n hC dX4_allGroups_27 [(1, vI (a + 1)), (2, vI (z)), (0, .ref (gd g (19)))] (by decide) rfl ?_
      refine j_iinc hC dX4_allGroups_28 1 [(2, vI (z + 1)), (1, vI (a + 1)), (0, .ref (gd g (19)))] rfl (by decide) rfl ?_
      refine j_goto (tgt := 4) hC dX4_allGroups_31 (by decide) ?_
      refine j_sub [0, 1, 2] rfl ?_
      first | (rw [if_pos (show agC σ z = true from decide_eq_true h18)]; exact ih (z + 1) (a + 1) (by omega) (by omega)) | (rw [if_neg (show ¬ (agC σ z = true) from fun q => h18 (of_decide_eq_true q)), Int.add_zero a]; exact ih (z + 1) a (by omega) (by omega))
set_option maxHeartbeats 4000000 in
set_option maxRecDepth 100000 in
theorem c_X4_allGroups {L0 : Launch} (hL0 : L0.stackTraces = false) (g : GG) (σ : Sg) (hI : IM σ)  : CN L0 yX4_allGroups cX4_allGroups 3 (some .int) 0 0 0 0 g [.ref (gd g (19))] σ (pt (some (vI (agM σ))) (σ)) := by
  refine CN_of (own := RX4) hL0 (by decide) rfl (Nat.le_of_ble_eq_true rfl) (fun mc hC _ hR => ?_)
  refine j_lv (lv2 := [(0, .ref (gd g (19)))]) rfl ?_
  refine j_iconst hC dX4_allGroups_0 ?_
  refine j_istore_n hC dX4_allGroups_1 [(1, vI (0)), (0, .ref (gd g (19)))] (by decide) rfl ?_
  refine j_iconst hC dX4_allGroups_2 ?_
  refine j_istore_n hC dX4_allGroups_3 [(2, vI (0)), (1, vI (0)), (0, .ref (gd g (19)))] (by decide) rfl ?_
  refine j_sub [0, 1, 2] rfl ?_
  exact lm_allGroups hC hR hI 9 0 0 (by omega) (by omega)
