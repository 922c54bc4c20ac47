set_option maxHeartbeats 4000000 in
set_option maxRecDepth 100000 in
theorem lm_thumbFor_i {mc : MC} {g : GG} {σ : Sg} {Q : State → Prop} (hC : Cx mc g cX4_thumbFor RX4 7 (some .int)) (hR : mR mc = rmJ 3 69 0 0) (hI : IM σ) (j l : Int) (hj : 0 ≤ j ∧ j < 64) (hl : 0 ≤ l ∧ l < 4) (z t : Int) (ht : 0 ≤ t ∧ t < 4) : ∀ (d : Nat) (w : Int) (b : Int), (16 * l ≤ w) → (w + (d : Int) = 16 * l + σ.2 11 l) → (b = 0 ∨ b = 1) → (J mc g 0 0 Q 119 [(5, vI (frF (fun k => dst (σ.2 17) (mkL (σ.2 12 j) t (σ.2 14 j) (σ.2 15 j)) (lkM σ k)) d w b)), (0, .ref (gd g (19))), (1, vI (j)), (2, vI (l)), (3, vI (z)), (4, vI (t))] [] σ) → J mc g 0 0 Q 57 [(6, vI (w)), (5, vI (b)), (0, .ref (gd g (19))), (1, vI (j)), (2, vI (l)), (3, vI (z)), (4, vI (t))] [] σ := by
  intro d
  induction d with
  | zero =>
    intro w b h0 hw hb kx
    have hn := hI.2.2.1 l hl.1 hl.2
    refine j_iload hC dX4_thumbFor_57 0 rfl ?_
    refine j_iload_n hC dX4_thumbFor_59 4 rfl ?_
    refine j_aload_n hC dX4_thumbFor_60 2 rfl ?_
    refine j_get hC inX4 rfl 19 rfl 2 (by decide) wd584 rfl dX4_thumbFor_61 ?_
    refine j_iload_n hC dX4_thumbFor_64 4 rfl ?_
    refine j_iald hC 20 rfl (by omega) dX4_thumbFor_65 ?_
    refine j_callS1 (ar := 2) hC hR (c_X4_at (hlJ hC) g σ l ((σ).2 11 l) ) [vI (w)] rfl (by decide) (by decide +kernel) rfl wd643 wd644 wd4 wd645 (by decide) (Nat.le_of_ble_eq_true rfl) dX4_thumbFor_66 ?_
    refine j_icmp_ge (tgt := 119) hC dX4_thumbFor_69 (by decide) (by omega) (fun _ => ?_) (fun h => absurd h (by omega))
    refine j_sub [1, 2, 3, 4, 5, 6] rfl ?_
    exact kx
  | succ d ih =>
    intro w b h0 hw hb kx
    have hn := hI.2.2.1 l hl.1 hl.2
    have hm := lkM_in hI hj
    have hbt : 0 ≤ mkL (σ.2 12 j) t (σ.2 14 j) (σ.2 15 j) ∧ mkL (σ.2 12 j) t (σ.2 14 j) (σ.2 15 j) < 2304 := mkL_rg (by omega)
    have hlw := lkM_rg hI (k := w) (by omega)
    have hd := dst_rg (G := σ.2 17) (x := (mkL (σ.2 12 j) t (σ.2 14 j) (σ.2 15 j))) (y := lkM σ w) ⟨hbt.1, hbt.2, hlw.1, hlw.2⟩
    rw [show frF (fun k => dst (σ.2 17) (mkL (σ.2 12 j) t (σ.2 14 j) (σ.2 15 j)) (lkM σ k)) (d + 1) w b = frF (fun k => dst (σ.2 17) (mkL (σ.2 12 j) t (σ.2 14 j) (σ.2 15 j)) (lkM σ k)) d (w + 1) (if b = 1 ∧ 0 < dst (σ.2 17) (mkL (σ.2 12 j) t (σ.2 14 j) (σ.2 15 j)) (lkM σ w) then 1 else 0) from rfl] at kx
    refine j_iload hC dX4_thumbFor_57 0 rfl ?_
    refine j_iload_n hC dX4_thumbFor_59 4 rfl ?_
    refine j_aload_n hC dX4_thumbFor_60 2 rfl ?_
    refine j_get hC inX4 rfl 19 rfl 2 (by decide) wd584 rfl dX4_thumbFor_61 ?_
    refine j_iload_n hC dX4_thumbFor_64 4 rfl ?_
    refine j_iald hC 20 rfl (by omega) dX4_thumbFor_65 ?_
    refine j_callS1 (ar := 2) hC hR (c_X4_at (hlJ hC) g σ l ((σ).2 11 l) ) [vI (w)] rfl (by decide) (by decide +kernel) rfl wd643 wd644 wd4 wd645 (by decide) (Nat.le_of_ble_eq_true rfl) dX4_thumbFor_66 ?_
    refine j_icmp_ge (tgt := 119) hC dX4_thumbFor_69 (by decide) (by omega) (fun h => absurd h (by omega)) (fun _ => ?_)
    refine j_iload hC dX4_thumbFor_72 1 rfl ?_
    refine j_if_eq (tgt := 110) hC dX4_thumbFor_74 (by decide) (by omega) (fun h74 => ?_) (fun h74 => ?_)
    · refine j_iconst hC dX4_thumbFor_110 ?_
      refine j_istore hC dX4_thumbFor_111 [(5, vI (0)), (6, vI (w)), (0, .ref (gd g (19))), (1, vI (j)), (2, vI (l)), (3, vI (z)), (4, vI (t))] (by decide) rfl ?_
      refine j_iinc hC dX4_thumbFor_113 1 [(6, vI (w + 1)), (5, vI (0)), (0, .ref (gd g (19))), (1, vI (j)), (2, vI (l)), (3, vI (z)), (4, vI (t))] rfl (by decide) rfl ?_
      refine j_goto (tgt := 57) hC dX4_thumbFor_116 (by decide) ?_
      refine j_sub [0, 1, 2, 3, 4, 5, 6] rfl ?_
      first | (rw [if_pos (show b = 1 ∧ 0 < dst (σ.2 17) (mkL (σ.2 12 j) t (σ.2 14 j) (σ.2 15 j)) (lkM σ w) by omega)] at kx; exact ih (w + 1) 1 (by omega) (by omega) (by omega) kx) | (rw [if_neg (show ¬ (b = 1 ∧ 0 < dst (σ.2 17) (mkL (σ.2 12 j) t (σ.2 14 j) (σ.2 15 j)) (lkM σ w)) by omega)] at kx; exact ih (w + 1) 0 (by omega) (by omega) (by omega) kx)
    · refine j_aload_n hC dX4_thumbFor_77 2 rfl ?_
      refine j_aload_n hC dX4_thumbFor_78 2 rfl ?_
      refine j_get hC inX4 rfl 19 rfl 3 (by decide) wd585 rfl dX4_thumbFor_79 ?_
      refine j_iload_n hC dX4_thumbFor_82 3 rfl ?_
      refine j_iald hC 21 rfl (by omega) dX4_thumbFor_83 ?_
      refine j_iload hC dX4_thumbFor_84 6 rfl ?_
      refine j_aload_n hC dX4_thumbFor_86 2 rfl ?_
      refine j_get hC inX4 rfl 19 rfl 5 (by decide) wd587 rfl dX4_thumbFor_87 ?_
      refine j_iload_n hC dX4_thumbFor_90 3 rfl ?_
      refine j_iald hC 23 rfl (by omega) dX4_thumbFor_91 ?_
      refine j_aload_n hC dX4_thumbFor_92 2 rfl ?_
      refine j_get hC inX4 rfl 19 rfl 6 (by decide) wd588 rfl dX4_thumbFor_93 ?_
      refine j_iload_n hC dX4_thumbFor_96 3 rfl ?_
      refine j_iald hC 24 rfl (by omega) dX4_thumbFor_97 ?_
      refine j_iload hC dX4_thumbFor_98 0 rfl ?_
      refine j_callV1 (ar := 5) hC hR (c_X4_far (hlJ hC) g σ hI ((σ).2 12 j) t ((σ).2 14 j) ((σ).2 15 j) w (by omega) (by omega)) [] rfl 19 rfl rfl rfl (by decide) (by decide +kernel) rfl wd689 wd691 wp38 wd4 wd692 (by decide) (Nat.le_of_ble_eq_true rfl) dX4_thumbFor_100 ?_
      refine j_if_le (tgt := 110) hC dX4_thumbFor_103 (by decide) (by omega) (fun h103 => ?_) (fun h103 => ?_)
      · refine j_iconst hC dX4_thumbFor_110 ?_
        refine j_istore hC dX4_thumbFor_111 [(5, vI (0)), (6, vI (w)), (0, .ref (gd g (19))), (1, vI (j)), (2, vI (l)), (3, vI (z)), (4, vI (t))] (by decide) rfl ?_
        refine j_iinc hC dX4_thumbFor_113 1 [(6, vI (w + 1)), (5, vI (0)), (0, .ref (gd g (19))), (1, vI (j)), (2, vI (l)), (3, vI (z)), (4, vI (t))] rfl (by decide) rfl ?_
        refine j_goto (tgt := 57) hC dX4_thumbFor_116 (by decide) ?_
        refine j_sub [0, 1, 2, 3, 4, 5, 6] rfl ?_
        first | (rw [if_pos (show b = 1 ∧ 0 < dst (σ.2 17) (mkL (σ.2 12 j) t (σ.2 14 j) (σ.2 15 j)) (lkM σ w) by omega)] at kx; exact ih (w + 1) 1 (by omega) (by omega) (by omega) kx) | (rw [if_neg (show ¬ (b = 1 ∧ 0 < dst (σ.2 17) (mkL (σ.2 12 j) t (σ.2 14 j) (σ.2 15 j)) (lkM σ w)) by omega)] at kx; exact ih (w + 1) 0 (by omega) (by omega) (by omega) kx)
      · refine j_iconst hC dX4_thumbFor_106 ?_
        refine j_goto (tgt := 111) hC dX4_thumbFor_107 (by decide) ?_
        refine j_istore hC dX4_thumbFor_111 [(5, vI (1)), (6, vI (w)), (0, .ref (gd g (19))), (1, vI (j)), (2, vI (l)), (3, vI (z)), (4, vI (t))] (by decide) rfl ?_
        refine j_iinc hC dX4_thumbFor_113 1 [(6, vI (w + 1)), (5, vI (1)), (0, .ref (gd g (19))), (1, vI (j)), (2, vI (l)), (3, vI (z)), (4, vI (t))] rfl (by decide) rfl ?_
        refine j_goto (tgt := 57) hC dX4_thumbFor_116 (by decide) ?_
        refine j_sub [0, 1, 2, 3, 4, 5, 6] rfl ?_
        first | (rw [if_pos (show b = 1 ∧ 0 < dst (σ.2 17) (mkL (σ.2 12 j) t (σ.2 14 j) (σ.2 15 j)) (lkM σ w) by omega)] at kx; exact ih (w + 1) 1 (by omega) (by omega) (by omega) kx) | (rw [if_neg (show ¬ (b = 1 ∧ 0 < dst (σ.2 17) (mkL (σ.2 12 j) t (σ.2 14 j) (σ.2 15 j)) (lkM σ w)) by omega)] at kx; exact ih (w + 1) 0 (by omega) (by omega) (by omega) kx)
set_option maxHeartbeats 4000000 in
set_option maxRecDepth 100000 in
theorem lm_thumbFor_o {mc : MC} {g : GG} {σ : Sg} (hC : Cx mc g cX4_thumbFor RX4 7 (some .int)) (hR : mR mc = rmJ 3 69 0 0) (hI : IM σ) (j l : Int) (hj : 0 ≤ j ∧ j < 64) (hl : 0 ≤ l ∧ l < 4) : ∀ (d : Nat) (z : Int), (0 ≤ z) → (z + (d : Int) = 4) → J mc g 0 0 (QN mc g (pt (some (vI (tfF σ j l d z))) (σ)) 0 0) 30 [(3, vI (z)), (0, .ref (gd g (19))), (1, vI (j)), (2, vI (l))] [] σ := by
  intro d
  induction d with
  | zero =>
    intro z h0 hz
    refine j_iload_n hC dX4_thumbFor_30 0 rfl ?_
    refine j_iconst hC dX4_thumbFor_31 ?_
    refine j_icmp_ge (tgt := 133) hC dX4_thumbFor_32 (by decide) (by omega) (fun _ => ?_) (fun h => absurd h (by omega))
    refine j_iconst hC dX4_thumbFor_133 ?_
    exact j_iret hC dX4_thumbFor_134 ⟨rfl, rfl⟩
  | succ d ih =>
    intro z h0 hz
    have hn := hI.2.2.1 l hl.1 hl.2
    have hn2 := nM_eq hI hl
    have hm := lkM_in hI hj
    have hfr := frF_01 (fun k => dst (σ.2 17) (mkL (σ.2 12 j) ((σ.2 13 j + z) % 4) (σ.2 14 j) (σ.2 15 j)) (lkM σ k)) (nM σ l) (16 * l + 0) 1 (by omega)
    rw [show tfF σ j l (d + 1) z = if frF (fun k => dst (σ.2 17) (mkL (σ.2 12 j) ((σ.2 13 j + z) % 4) (σ.2 14 j) (σ.2 15 j)) (lkM σ k)) (nM σ l) (16 * l + 0) 1 = 1 then (σ.2 13 j + z) % 4 else tfF σ j l d (z + 1) from rfl]
    refine j_iload_n hC dX4_thumbFor_30 0 rfl ?_
    refine j_iconst hC dX4_thumbFor_31 ?_
    refine j_icmp_ge (tgt := 133) hC dX4_thumbFor_32 (by decide) (by omega) (fun h => absurd h (by omega)) (fun _ => ?_)
    refine j_aload_n hC dX4_thumbFor_35 1 rfl ?_
    refine j_get hC inX4 rfl 19 rfl 4 (by decide) wd586 rfl dX4_thumbFor_36 ?_
    refine j_iload_n hC dX4_thumbFor_39 2 rfl ?_
    refine j_iald hC 22 rfl (by omega) dX4_thumbFor_40 ?_
    refine j_iload_n hC dX4_thumbFor_41 0 rfl ?_
    refine j_iadd hC dX4_thumbFor_42 ?_
    refine j_iconst hC dX4_thumbFor_43 ?_
    refine j_irem hC dX4_thumbFor_44 (by omega) ?_
    refine j_istore hC dX4_thumbFor_45 [(4, vI ((((σ).2 13 j) + z) % 4)), (3, vI (z)), (0, .ref (gd g (19))), (1, vI (j)), (2, vI (l))] (by decide) rfl ?_
    refine j_iconst hC dX4_thumbFor_47 ?_
    refine j_istore hC dX4_thumbFor_48 [(5, vI (1)), (4, vI ((((σ).2 13 j) + z) % 4)), (3, vI (z)), (0, .ref (gd g (19))), (1, vI (j)), (2, vI (l))] (by decide) rfl ?_
    refine j_iload_n hC dX4_thumbFor_50 5 rfl ?_
    refine j_iconst hC dX4_thumbFor_51 ?_
    refine j_callS1 (ar := 2) hC hR (c_X4_at (hlJ hC) g σ l 0 ) [] rfl (by decide) (by decide +kernel) rfl wd643 wd644 wd4 wd645 (by decide) (Nat.le_of_ble_eq_true rfl) dX4_thumbFor_52 ?_
    refine j_istore hC dX4_thumbFor_55 [(6, vI (16 * l + 0)), (5, vI (1)), (4, vI ((((σ).2 13 j) + z) % 4)), (3, vI (z)), (0, .ref (gd g (19))), (1, vI (j)), (2, vI (l))] (by decide) rfl ?_
    refine j_sub [0, 1, 4, 5, 6, 3, 2] rfl ?_
    refine lm_thumbFor_i hC hR hI j l hj hl z ((σ.2 13 j + z) % 4) (by omega) (nM σ l) (16 * l + 0) 1 (by omega) (by omega) (by omega) ?_
    refine j_iload hC dX4_thumbFor_119 0 rfl ?_
    refine j_if_eq (tgt := 127) hC dX4_thumbFor_121 (by decide) (by omega) (fun h121 => ?_) (fun h121 => ?_)
    · refine j_iinc hC dX4_thumbFor_127 4 [(3, vI (z + 1)), (5, vI (frF (fun k => dst (σ.2 17) (mkL (σ.2 12 j) ((σ.2 13 j + z) % 4) (σ.2 14 j) (σ.2 15 j)) (lkM σ k)) (nM σ l) (16 * l + 0) 1)), (0, .ref (gd g (19))), (1, vI (j)), (2, vI (l)), (4, vI ((σ.2 13 j + z) % 4))] rfl (by decide) rfl ?_
      refine j_goto (tgt := 30) hC dX4_thumbFor_130 (by decide) ?_
      refine j_sub [0, 2, 3, 4] rfl ?_
      rw [if_neg (show ¬ frF (fun k => dst (σ.2 17) (mkL (σ.2 12 j) ((σ.2 13 j + z) % 4) (σ.2 14 j) (σ.2 15 j)) (lkM σ k)) (nM σ l) (16 * l + 0) 1 = 1 by omega)]
      exact ih (z + 1) (by omega) (by omega)
    · refine j_iload hC dX4_thumbFor_124 5 rfl ?_
      exact j_iret hC dX4_thumbFor_126 ⟨by rw [if_pos (show frF (fun k => dst (σ.2 17) (mkL (σ.2 12 j) ((σ.2 13 j + z) % 4) (σ.2 14 j) (σ.2 15 j)) (lkM σ k)) (nM σ l) (16 * l + 0) 1 = 1 by omega)], rfl⟩
set_option maxHeartbeats 4000000 in
set_option maxRecDepth 100000 in
theorem c_X4_thumbFor {L0 : Launch} (hL0 : L0.stackTraces = false) (g : GG) (σ : Sg) (hI : IM σ) (j l : Int) (hj : 0 ≤ j ∧ j < 64) (hl : 0 ≤ l ∧ l < 4) : CN L0 yX4_thumbFor cX4_thumbFor 7 (some .int) 3 69 0 0 g [.ref (gd g (19)), vI (j), vI (l)] σ (pt (some (vI (tfM σ j l))) (σ)) := by
  refine CN_of (own := RX4) hL0 (by decide) rfl (Nat.le_of_ble_eq_true rfl) (fun mc hC _ hR => ?_)
  refine j_lv (lv2 := [(0, .ref (gd g (19))), (1, vI (j)), (2, vI (l))]) rfl ?_
  have hn := hI.2.2.1 l hl.1 hl.2
  have hmj := hI.2.2.2.2.2.2.2.1 j hj.1 hj.2
  refine j_aload_n hC dX4_thumbFor_0 0 rfl ?_
  refine j_get hC inX4 rfl 19 rfl 2 (by decide) wd584 rfl dX4_thumbFor_1 ?_
  refine j_iload_n hC dX4_thumbFor_4 2 rfl ?_
  refine j_iald hC 20 rfl (by omega) dX4_thumbFor_5 ?_
  refine j_bipush hC dX4_thumbFor_6 (by decide) ?_
  refine j_icmp_eq (tgt := 26) hC dX4_thumbFor_8 (by decide) (by omega) (fun h8 => ?_) (fun h8 => ?_)
  · refine j_iconst hC dX4_thumbFor_26 ?_
    exact j_iret hC dX4_thumbFor_27 ⟨by unfold tfM; rw [if_pos (by omega)], rfl⟩
  · refine j_aload_n hC dX4_thumbFor_11 0 rfl ?_
    refine j_iload_n hC dX4_thumbFor_12 2 rfl ?_
    refine j_aload_n hC dX4_thumbFor_13 0 rfl ?_
    refine j_get hC inX4 rfl 19 rfl 7 (by decide) wd589 rfl dX4_thumbFor_14 ?_
    refine j_iload_n hC dX4_thumbFor_17 1 rfl ?_
    refine j_iald hC 25 rfl (by omega) dX4_thumbFor_18 ?_
    refine j_callV1 (ar := 2) hC hR (c_X4_signOf (hlJ hC) g σ hI l ((σ).2 16 j) (by omega) (by omega)) [] rfl 19 rfl rfl rfl (by decide) (by decide +kernel) rfl wd639 wd641 wp32 wd4 wd642 (by decide) (Nat.le_of_ble_eq_true rfl) dX4_thumbFor_19 ?_
    have hf19 := sgM_rg hI (l := l) (by omega) ((σ).2 16 j)
    refine j_iconst hC dX4_thumbFor_22 ?_
    refine j_icmp_eq (tgt := 28) hC dX4_thumbFor_23 (by decide) (by omega) (fun h23 => ?_) (fun h23 => ?_)
    · refine j_iconst hC dX4_thumbFor_28 ?_
      refine j_istore_n hC dX4_thumbFor_29 [(3, vI (0)), (0, .ref (gd g (19))), (1, vI (j)), (2, vI (l))] (by decide) rfl ?_
      refine j_sub [0, 1, 2, 3] rfl ?_
      rw [show tfM σ j l = tfF σ j l 4 0 from if_neg (by omega)]
      exact lm_thumbFor_o hC hR hI j l hj hl 4 0 (by omega) (by omega)
    · refine j_iconst hC dX4_thumbFor_26 ?_
      exact j_iret hC dX4_thumbFor_27 ⟨by unfold tfM; rw [if_pos (by omega)], rfl⟩
set_option maxHeartbeats 4000000 in
set_option maxRecDepth 100000 in
theorem c_X4_write {L0 : Launch} (hL0 : L0.stackTraces = false) (g : GG) (σ : Sg) (l s t p m x : Int) (hl : 0 ≤ l ∧ l < 4) (hn : 0 ≤ σ.2 11 l ∧ σ.2 11 l < 16) : CN L0 yX4_write cX4_write 8 none 1 21 0 0 g [.ref (gd g (19)), vI (l), vI (s), vI (t), vI (p), vI (m), vI (x)] σ (pt none (wrM σ l s t p m x)) := by
  refine CN_of (own := RX4) hL0 (by decide) rfl (Nat.le_of_ble_eq_true rfl) (fun mc hC _ hR => ?_)
  refine j_lv (lv2 := [(0, .ref (gd g (19))), (1, vI (l)), (2, vI (s)), (3, vI (t)), (4, vI (p)), (5, vI (m)), (6, vI (x))]) rfl ?_
  refine j_iload_n hC dX4_write_0 1 rfl ?_
  refine j_aload_n hC dX4_write_1 0 rfl ?_
  refine j_get hC inX4 rfl 19 rfl 2 (by decide) wd584 rfl dX4_write_2 ?_
  refine j_iload_n hC dX4_write_5 1 rfl ?_
  refine j_iald hC 20 rfl (by omega) dX4_write_6 ?_
  refine j_callS1 (ar := 2) hC hR (c_X4_at (hlJ hC) g σ l ((σ).2 11 l) ) [] rfl (by decide) (by decide +kernel) rfl wd643 wd644 wd4 wd645 (by decide) (Nat.le_of_ble_eq_true rfl) dX4_write_7 ?_
  refine j_istore hC dX4_write_10 [(7, vI (16 * l + ((σ).2 11 l))), (0, .ref (gd g (19))), (1, vI (l)), (2, vI (s)), (3, vI (t)), (4, vI (p)), (5, vI (m)), (6, vI (x))] (by decide) rfl ?_
  refine j_aload_n hC dX4_write_12 1 rfl ?_
  refine j_get hC inX4 rfl 19 rfl 3 (by decide) wd585 rfl dX4_write_13 ?_
  refine j_iload hC dX4_write_16 0 rfl ?_
  refine j_iload_n hC dX4_write_18 3 rfl ?_
  refine j_iast (τ := sG (σ) 12 (16 * l + ((σ).2 11 l)) (s)) hC 21 rfl rfl (by omega) dX4_write_19 ?_
  refine j_aload_n hC dX4_write_20 1 rfl ?_
  refine j_get hC inX4 rfl 19 rfl 4 (by decide) wd586 rfl dX4_write_21 ?_
  refine j_iload hC dX4_write_24 0 rfl ?_
  refine j_iload_n hC dX4_write_26 4 rfl ?_
  refine j_iast (τ := sG (sG (σ) 12 (16 * l + ((σ).2 11 l)) (s)) 13 (16 * l + ((σ).2 11 l)) (t)) hC 22 rfl rfl (by omega) dX4_write_27 ?_
  refine j_aload_n hC dX4_write_28 1 rfl ?_
  refine j_get hC inX4 rfl 19 rfl 5 (by decide) wd587 rfl dX4_write_29 ?_
  refine j_iload hC dX4_write_32 0 rfl ?_
  refine j_iload hC dX4_write_34 5 rfl ?_
  refine j_iast (τ := sG (sG (sG (σ) 12 (16 * l + ((σ).2 11 l)) (s)) 13 (16 * l + ((σ).2 11 l)) (t)) 14 (16 * l + ((σ).2 11 l)) (p)) hC 23 rfl rfl (by omega) dX4_write_36 ?_
  refine j_aload_n hC dX4_write_37 1 rfl ?_
  refine j_get hC inX4 rfl 19 rfl 6 (by decide) wd588 rfl dX4_write_38 ?_
  refine j_iload hC dX4_write_41 0 rfl ?_
  refine j_iload hC dX4_write_43 6 rfl ?_
  refine j_iast (τ := sG (sG (sG (sG (σ) 12 (16 * l + ((σ).2 11 l)) (s)) 13 (16 * l + ((σ).2 11 l)) (t)) 14 (16 * l + ((σ).2 11 l)) (p)) 15 (16 * l + ((σ).2 11 l)) (m)) hC 24 rfl rfl (by omega) dX4_write_45 ?_
  refine j_aload_n hC dX4_write_46 1 rfl ?_
  refine j_get hC inX4 rfl 19 rfl 7 (by decide) wd589 rfl dX4_write_47 ?_
  refine j_iload hC dX4_write_50 0 rfl ?_
  refine j_iload hC dX4_write_52 7 rfl ?_
  refine j_iast (τ := sG (sG (sG (sG (sG (σ) 12 (16 * l + ((σ).2 11 l)) (s)) 13 (16 * l + ((σ).2 11 l)) (t)) 14 (16 * l + ((σ).2 11 l)) (p)) 15 (16 * l + ((σ).2 11 l)) (m)) 16 (16 * l + ((σ).2 11 l)) (x)) hC 25 rfl rfl (by omega) dX4_write_54 ?_
  refine j_aload_n hC dX4_write_55 1 rfl ?_
  refine j_get hC inX4 rfl 19 rfl 2 (by decide) wd584 rfl dX4_write_56 ?_
  refine j_iload_n hC dX4_write_59 2 rfl ?_
  refine j_dup2 hC dX4_write_60 rfl rfl ?_
  refine j_iald hC 20 rfl (by omega) dX4_write_61 ?_
  refine j_iconst hC dX4_write_62 ?_
  refine j_iadd hC dX4_write_63 ?_
  refine j_iast (τ := sG (sG (sG (sG (sG (sG (σ) 12 (16 * l + ((σ).2 11 l)) (s)) 13 (16 * l + ((σ).2 11 l)) (t)) 14 (16 * l + ((σ).2 11 l)) (p)) 15 (16 * l + ((σ).2 11 l)) (m)) 16 (16 * l + ((σ).2 11 l)) (x)) 11 (l) (((sG (sG (sG (sG (sG (σ) 12 (16 * l + ((σ).2 11 l)) (s)) 13 (16 * l + ((σ).2 11 l)) (t)) 14 (16 * l + ((σ).2 11 l)) (p)) 15 (16 * l + ((σ).2 11 l)) (m)) 16 (16 * l + ((σ).2 11 l)) (x)).2 11 l) + 1)) hC 20 rfl rfl (by omega) dX4_write_64 ?_
  exact j_vret hC dX4_write_65 ⟨rfl, rfl⟩
set_option maxHeartbeats 4000000 in
set_option maxRecDepth 100000 in
theorem lm_close12 {mc : MC} {g : GG} (hC : Cx mc g cX4_close RX4 4 none) (hR : mR mc = rmJ 0 0 0 0) (f t : Int) (ht : t < 64) : ∀ (d : Nat) (τ : Sg) (k : Int), (0 ≤ k) → (k + (d : Int) = t) → J mc g 0 0 (QN mc g (pt none (clF 12 d k τ)) 0 0) 2 [(3, vI (k)), (0, .ref (gd g (21))), (1, vI (f)), (2, vI (t))] [] τ := by
  intro d
  induction d with
  | zero =>
    intro τ k h0 hz
    refine j_iload_n hC dX4_close_2 0 rfl ?_
    refine j_iload_n hC dX4_close_3 3 rfl ?_
    refine j_icmp_ge (tgt := 21) hC dX4_close_4 (by decide) (by omega) (fun _ => ?_) (fun h => absurd h (by omega))
    exact j_vret hC dX4_close_21 ⟨rfl, rfl⟩
  | succ d ih =>
    intro τ k h0 hz
    rw [show clF 12 (d + 1) k τ = clF 12 d (k + 1) (sG τ 12 k (τ.2 12 (k + 1))) from rfl]
    refine j_iload_n hC dX4_close_2 0 rfl ?_
    refine j_iload_n hC dX4_close_3 3 rfl ?_
    refine j_icmp_ge (tgt := 21) hC dX4_close_4 (by decide) (by omega) (fun h => absurd h (by omega)) (fun _ => ?_)
    refine j_aload_n hC dX4_close_7 1 rfl ?_
    refine j_iload_n hC dX4_close_8 0 rfl ?_
    refine j_aload_n hC dX4_close_9 1 rfl ?_
    refine j_iload_n hC dX4_close_10 0 rfl ?_
    refine j_iconst hC dX4_close_11 ?_
    refine j_iadd hC dX4_close_12 ?_
    refine j_iald hC 21 rfl (by omega) dX4_close_13 ?_
    refine j_iast (τ := sG (τ) 12 (k) ((τ).2 12 (k + 1))) hC 21 rfl rfl (by omega) dX4_close_14 ?_
    refine j_iinc hC dX4_close_15 0 [(3, vI (k + 1)), (0, .ref (gd g (21))), (1, vI (f)), (2, vI (t))] rfl (by decide) rfl ?_
    refine j_goto (tgt := 2) hC dX4_close_18 (by decide) ?_
    refine j_sub [0, 1, 2, 3] rfl ?_
    exact ih _ (k + 1) (by omega) (by omega)
set_option maxHeartbeats 4000000 in
set_option maxRecDepth 100000 in
theorem c_X4_close12 {L0 : Launch} (hL0 : L0.stackTraces = false) (g : GG) (σ : Sg) (f t : Int) (ht : 0 ≤ f ∧ f ≤ t ∧ t < 64) : CN L0 yX4_close cX4_close 4 none 0 0 0 0 g [.ref (gd g (21)), vI (f), vI (t)] σ (pt none (clF 12 (t - f).toNat f σ)) := by
  refine CN_of (own := RX4) hL0 (by decide) rfl (Nat.le_of_ble_eq_true rfl) (fun mc hC _ hR => ?_)
  refine j_lv (lv2 := [(0, .ref (gd g (21))), (1, vI (f)), (2, vI (t))]) rfl ?_
  refine j_iload_n hC dX4_close_0 1 rfl ?_
  refine j_istore_n hC dX4_close_1 [(3, vI (f)), (0, .ref (gd g (21))), (1, vI (f)), (2, vI (t))] (by decide) rfl ?_
  refine j_sub [0, 1, 2, 3] rfl ?_
  exact lm_close12 hC hR f t (by omega) (t - f).toNat σ f (by omega) (by omega)
set_option maxHeartbeats 4000000 in
set_option maxRecDepth 100000 in
theorem lm_close13 {mc : MC} {g : GG} (hC : Cx mc g cX4_close RX4 4 none) (hR : mR mc = rmJ 0 0 0 0) (f t : Int) (ht : t < 64) : ∀ (d : Nat) (τ : Sg) (k : Int), (0 ≤ k) → (k + (d : Int) = t) → J mc g 0 0 (QN mc g (pt none (clF 13 d k τ)) 0 0) 2 [(3, vI (k)), (0, .ref (gd g (22))), (1, vI (f)), (2, vI (t))] [] τ := by
  intro d
  induction d with
  | zero =>
    intro τ k h0 hz
    refine j_iload_n hC dX4_close_2 0 rfl ?_
    refine j_iload_n hC dX4_close_3 3 rfl ?_
    refine j_icmp_ge (tgt := 21) hC dX4_close_4 (by decide) (by omega) (fun _ => ?_) (fun h => absurd h (by omega))
    exact j_vret hC dX4_close_21 ⟨rfl, rfl⟩
  | succ d ih =>
    intro τ k h0 hz
    rw [show clF 13 (d + 1) k τ = clF 13 d (k + 1) (sG τ 13 k (τ.2 13 (k + 1))) from rfl]
    refine j_iload_n hC dX4_close_2 0 rfl ?_
    refine j_iload_n hC dX4_close_3 3 rfl ?_
    refine j_icmp_ge (tgt := 21) hC dX4_close_4 (by decide) (by omega) (fun h => absurd h (by omega)) (fun _ => ?_)
    refine j_aload_n hC dX4_close_7 1 rfl ?_
    refine j_iload_n hC dX4_close_8 0 rfl ?_
    refine j_aload_n hC dX4_close_9 1 rfl ?_
    refine j_iload_n hC dX4_close_10 0 rfl ?_
    refine j_iconst hC dX4_close_11 ?_
    refine j_iadd hC dX4_close_12 ?_
    refine j_iald hC 22 rfl (by omega) dX4_close_13 ?_
    refine j_iast (τ := sG (τ) 13 (k) ((τ).2 13 (k + 1))) hC 22 rfl rfl (by omega) dX4_close_14 ?_
    refine j_iinc hC dX4_close_15 0 [(3, vI (k + 1)), (0, .ref (gd g (22))), (1, vI (f)), (2, vI (t))] rfl (by decide) rfl ?_
    refine j_goto (tgt := 2) hC dX4_close_18 (by decide) ?_
    refine j_sub [0, 1, 2, 3] rfl ?_
    exact ih _ (k + 1) (by omega) (by omega)
set_option maxHeartbeats 4000000 in
set_option maxRecDepth 100000 in
theorem c_X4_close13 {L0 : Launch} (hL0 : L0.stackTraces = false) (g : GG) (σ : Sg) (f t : Int) (ht : 0 ≤ f ∧ f ≤ t ∧ t < 64) : CN L0 yX4_close cX4_close 4 none 0 0 0 0 g [.ref (gd g (22)), vI (f), vI (t)] σ (pt none (clF 13 (t - f).toNat f σ)) := by
  refine CN_of (own := RX4) hL0 (by decide) rfl (Nat.le_of_ble_eq_true rfl) (fun mc hC _ hR => ?_)
  refine j_lv (lv2 := [(0, .ref (gd g (22))), (1, vI (f)), (2, vI (t))]) rfl ?_
  refine j_iload_n hC dX4_close_0 1 rfl ?_
  refine j_istore_n hC dX4_close_1 [(3, vI (f)), (0, .ref (gd g (22))), (1, vI (f)), (2, vI (t))] (by decide) rfl ?_
  refine j_sub [0, 1, 2, 3] rfl ?_
  exact lm_close13 hC hR f t (by omega) (t - f).toNat σ f (by omega) (by omega)
set_option maxHeartbeats 4000000 in
set_option maxRecDepth 100000 in
theorem lm_close14 {mc : MC} {g : GG} (hC : Cx mc g cX4_close RX4 4 none) (hR : mR mc = rmJ 0 0 0 0) (f t : Int) (ht : t < 64) : ∀ (d : Nat) (τ : Sg) (k : Int), (0 ≤ k) → (k + (d : Int) = t) → J mc g 0 0 (QN mc g (pt none (clF 14 d k τ)) 0 0) 2 [(3, vI (k)), (0, .ref (gd g (23))), (1, vI (f)), (2, vI (t))] [] τ := by
  intro d
  induction d with
  | zero =>
    intro τ k h0 hz
    refine j_iload_n hC dX4_close_2 0 rfl ?_
    refine j_iload_n hC dX4_close_3 3 rfl ?_
    refine j_icmp_ge (tgt := 21) hC dX4_close_4 (by decide) (by omega) (fun _ => ?_) (fun h => absurd h (by omega))
    exact j_vret hC dX4_close_21 ⟨rfl, rfl⟩
  | succ d ih =>
    intro τ k h0 hz
    rw [show clF 14 (d + 1) k τ = clF 14 d (k + 1) (sG τ 14 k (τ.2 14 (k + 1))) from rfl]
    refine j_iload_n hC dX4_close_2 0 rfl ?_
    refine j_iload_n hC dX4_close_3 3 rfl ?_
    refine j_icmp_ge (tgt := 21) hC dX4_close_4 (by decide) (by omega) (fun h => absurd h (by omega)) (fun _ => ?_)
    refine j_aload_n hC dX4_close_7 1 rfl ?_
    refine j_iload_n hC dX4_close_8 0 rfl ?_
    refine j_aload_n hC dX4_close_9 1 rfl ?_
    refine j_iload_n hC dX4_close_10 0 rfl ?_
    refine j_iconst hC dX4_close_11 ?_
    refine j_iadd hC dX4_close_12 ?_
    refine j_iald hC 23 rfl (by omega) dX4_close_13 ?_
    refine j_iast (τ := sG (τ) 14 (k) ((τ).2 14 (k + 1))) hC 23 rfl rfl (by omega) dX4_close_14 ?_
    refine j_iinc hC dX4_close_15 0 [(3, vI (k + 1)), (0, .ref (gd g (23))), (1, vI (f)), (2, vI (t))] rfl (by decide) rfl ?_
    refine j_goto (tgt := 2) hC dX4_close_18 (by decide) ?_
    refine j_sub [0, 1, 2, 3] rfl ?_
    exact ih _ (k + 1) (by omega) (by omega)
set_option maxHeartbeats 4000000 in
set_option maxRecDepth 100000 in
theorem c_X4_close14 {L0 : Launch} (hL0 : L0.stackTraces = false) (g : GG) (σ : Sg) (f t : Int) (ht : 0 ≤ f ∧ f ≤ t ∧ t < 64) : CN L0 yX4_close cX4_close 4 none 0 0 0 0 g [.ref (gd g (23)), vI (f), vI (t)] σ (pt none (clF 14 (t - f).toNat f σ)) := by
  refine CN_of (own := RX4) hL0 (by decide) rfl (Nat.le_of_ble_eq_true rfl) (fun mc hC _ hR => ?_)
  refine j_lv (lv2 := [(0, .ref (gd g (23))), (1, vI (f)), (2, vI (t))]) rfl ?_
  refine j_iload_n hC dX4_close_0 1 rfl ?_
  refine j_istore_n hC dX4_close_1 [(3, vI (f)), (0, .ref (gd g (23))), (1, vI (f)), (2, vI (t))] (by decide) rfl ?_
  refine j_sub [0, 1, 2, 3] rfl ?_
  exact lm_close14 hC hR f t (by omega) (t - f).toNat σ f (by omega) (by omega)
set_option maxHeartbeats 4000000 in
set_option maxRecDepth 100000 in
theorem lm_close15 {mc : MC} {g : GG} (hC : Cx mc g cX4_close RX4 4 none) (hR : mR mc = rmJ 0 0 0 0) (f t : Int) (ht : t < 64) : ∀ (d : Nat) (τ : Sg) (k : Int), (0 ≤ k) → (k + (d : Int) = t) → J mc g 0 0 (QN mc g (pt none (clF 15 d k τ)) 0 0) 2 [(3, vI (k)), (0, .ref (gd g (24))), (1, vI (f)), (2, vI (t))] [] τ := by
  intro d
  induction d with
  | zero =>
    intro τ k h0 hz
    refine j_iload_n hC dX4_close_2 0 rfl ?_
    refine j_iload_n hC dX4_close_3 3 rfl ?_
    refine j_icmp_ge (tgt := 21) hC dX4_close_4 (by decide) (by omega) (fun _ => ?_) (fun h => absurd h (by omega))
    exact j_vret hC dX4_close_21 ⟨rfl, rfl⟩
  | succ d ih =>
    intro τ k h0 hz
    rw [show clF 15 (d + 1) k τ = clF 15 d (k + 1) (sG τ 15 k (τ.2 15 (k + 1))) from rfl]
    refine j_iload_n hC dX4_close_2 0 rfl ?_
    refine j_iload_n hC dX4_close_3 3 rfl ?_
    refine j_icmp_ge (tgt := 21) hC dX4_close_4 (by decide) (by omega) (fun h => absurd h (by omega)) (fun _ => ?_)
    refine j_aload_n hC dX4_close_7 1 rfl ?_
    refine j_iload_n hC dX4_close_8 0 rfl ?_
    refine j_aload_n hC dX4_close_9 1 rfl ?_
    refine j_iload_n hC dX4_close_10 0 rfl ?_
    refine j_iconst hC dX4_close_11 ?_
    refine j_iadd hC dX4_close_12 ?_
    refine j_iald hC 24 rfl (by omega) dX4_close_13 ?_
    refine j_iast (τ := sG (τ) 15 (k) ((τ).2 15 (k + 1))) hC 24 rfl rfl (by omega) dX4_close_14 ?_
    refine j_iinc hC dX4_close_15 0 [(3, vI (k + 1)), (0, .ref (gd g (24))), (1, vI (f)), (2, vI (t))] rfl (by decide) rfl ?_
    refine j_goto (tgt := 2) hC dX4_close_18 (by decide) ?_
    refine j_sub [0, 1, 2, 3] rfl ?_
    exact ih _ (k + 1) (by omega) (by omega)
set_option maxHeartbeats 4000000 in
set_option maxRecDepth 100000 in
theorem c_X4_close15 {L0 : Launch} (hL0 : L0.stackTraces = false) (g : GG) (σ : Sg) (f t : Int) (ht : 0 ≤ f ∧ f ≤ t ∧ t < 64) : CN L0 yX4_close cX4_close 4 none 0 0 0 0 g [.ref (gd g (24)), vI (f), vI (t)] σ (pt none (clF 15 (t - f).toNat f σ)) := by
  refine CN_of (own := RX4) hL0 (by decide) rfl (Nat.le_of_ble_eq_true rfl) (fun mc hC _ hR => ?_)
  refine j_lv (lv2 := [(0, .ref (gd g (24))), (1, vI (f)), (2, vI (t))]) rfl ?_
  refine j_iload_n hC dX4_close_0 1 rfl ?_
  refine j_istore_n hC dX4_close_1 [(3, vI (f)), (0, .ref (gd g (24))), (1, vI (f)), (2, vI (t))] (by decide) rfl ?_
  refine j_sub [0, 1, 2, 3] rfl ?_
  exact lm_close15 hC hR f t (by omega) (t - f).toNat σ f (by omega) (by omega)
set_option maxHeartbeats 4000000 in
set_option maxRecDepth 100000 in
theorem lm_close16 {mc : MC} {g : GG} (hC : Cx mc g cX4_close RX4 4 none) (hR : mR mc = rmJ 0 0 0 0) (f t : Int) (ht : t < 64) : ∀ (d : Nat) (τ : Sg) (k : Int), (0 ≤ k) → (k + (d : Int) = t) → J mc g 0 0 (QN mc g (pt none (clF 16 d k τ)) 0 0) 2 [(3, vI (k)), (0, .ref (gd g (25))), (1, vI (f)), (2, vI (t))] [] τ := by
  intro d
  induction d with
  | zero =>
    intro τ k h0 hz
    refine j_iload_n hC dX4_close_2 0 rfl ?_
    refine j_iload_n hC dX4_close_3 3 rfl ?_
    refine j_icmp_ge (tgt := 21) hC dX4_close_4 (by decide) (by omega) (fun _ => ?_) (fun h => absurd h (by omega))
    exact j_vret hC dX4_close_21 ⟨rfl, rfl⟩
  | succ d ih =>
    intro τ k h0 hz
    rw [show clF 16 (d + 1) k τ = clF 16 d (k + 1) (sG τ 16 k (τ.2 16 (k + 1))) from rfl]
    refine j_iload_n hC dX4_close_2 0 rfl ?_
    refine j_iload_n hC dX4_close_3 3 rfl ?_
    refine j_icmp_ge (tgt := 21) hC dX4_close_4 (by decide) (by omega) (fun h => absurd h (by omega)) (fun _ => ?_)
    refine j_aload_n hC dX4_close_7 1 rfl ?_
    refine j_iload_n hC dX4_close_8 0 rfl ?_
    refine j_aload_n hC dX4_close_9 1 rfl ?_
    refine j_iload_n hC dX4_close_10 0 rfl ?_
    refine j_iconst hC dX4_close_11 ?_
    refine j_iadd hC dX4_close_12 ?_
    refine j_iald hC 25 rfl (by omega) dX4_close_13 ?_
    refine j_iast (τ := sG (τ) 16 (k) ((τ).2 16 (k + 1))) hC 25 rfl rfl (by omega) dX4_close_14 ?_
    refine j_iinc hC dX4_close_15 0 [(3, vI (k + 1)), (0, .ref (gd g (25))), (1, vI (f)), (2, vI (t))] rfl (by decide) rfl ?_
    refine j_goto (tgt := 2) hC dX4_close_18 (by decide) ?_
    refine j_sub [0, 1, 2, 3] rfl ?_
    exact ih _ (k + 1) (by omega) (by omega)
set_option maxHeartbeats 4000000 in
set_option maxRecDepth 100000 in
theorem c_X4_close16 {L0 : Launch} (hL0 : L0.stackTraces = false) (g : GG) (σ : Sg) (f t : Int) (ht : 0 ≤ f ∧ f ≤ t ∧ t < 64) : CN L0 yX4_close cX4_close 4 none 0 0 0 0 g [.ref (gd g (25)), vI (f), vI (t)] σ (pt none (clF 16 (t - f).toNat f σ)) := by
  refine CN_of (own := RX4) hL0 (by decide) rfl (Nat.le_of_ble_eq_true rfl) (fun mc hC _ hR => ?_)
  refine j_lv (lv2 := [(0, .ref (gd g (25))), (1, vI (f)), (2, vI (t))]) rfl ?_
  refine j_iload_n hC dX4_close_0 1 rfl ?_
  refine j_istore_n hC dX4_close_1 [(3, vI (f)), (0, .ref (gd g (25))), (1, vI (f)), (2, vI (t))] (by decide) rfl ?_
  refine j_sub [0, 1, 2, 3] rfl ?_
  exact lm_close16 hC hR f t (by omega) (t - f).toNat σ f (by omega) (by omega)
set_option maxHeartbeats 4000000 in
set_option maxRecDepth 100000 in
theorem lm_joinNow {mc : MC} {g : GG} (hC : Cx mc g cX4_joinNow RX4 6 none) (hR : mR mc = rmJ 1 21 0 0) (a b x y : Int) (hxy : 0 ≤ x ∧ x < 9 ∧ 0 ≤ y ∧ y < 9) : ∀ (d : Nat) (τ : Sg) (z : Int), (0 ≤ z) → (z + (d : Int) = 9) → (∀ p : Int, 0 ≤ p → p < 9 → 0 ≤ τ.2 17 p ∧ τ.2 17 p < 9) → J mc g 0 0 (QN mc g (pt none (jnF x y d z τ)) 0 0) 36 [(5, vI (z)), (3, vI (x)), (4, vI (y)), (0, .ref (gd g (19))), (1, vI (a)), (2, vI (b))] [] τ := by
  intro d
  induction d with
  | zero =>
    intro τ z h0 hz hg
    refine j_iload hC dX4_joinNow_36 0 rfl ?_
    refine j_bipush hC dX4_joinNow_38 (by decide) ?_
    refine j_icmp_ge (tgt := 69) hC dX4_joinNow_40 (by decide) (by omega) (fun _ => ?_) (fun h => absurd h (by omega))
    exact j_vret hC dX4_joinNow_69 ⟨rfl, rfl⟩
  | succ d ih =>
    intro τ z h0 hz hg
    have hgz := hg z (by omega) (by omega)
    rw [show jnF x y (d + 1) z τ = jnF x y d (z + 1) (if τ.2 17 z = y then sG τ 17 z x else τ) from rfl]
    refine j_iload hC dX4_joinNow_36 0 rfl ?_
    refine j_bipush hC dX4_joinNow_38 (by decide) ?_
    refine j_icmp_ge (tgt := 69) hC dX4_joinNow_40 (by decide) (by omega) (fun h => absurd h (by omega)) (fun _ => ?_)
    refine j_aload_n hC dX4_joinNow_43 3 rfl ?_
    refine j_get hC inX4 rfl 19 rfl 8 (by decide) wd590 rfl dX4_joinNow_44 ?_
    refine j_iload hC dX4_joinNow_47 0 rfl ?_
    refine j_iald hC 26 rfl (by omega) dX4_joinNow_49 ?_
    refine j_iload hC dX4_joinNow_50 2 rfl ?_
    refine j_icmp_ne (tgt := 63) hC dX4_joinNow_52 (by decide) (by omega) (fun h52 => ?_) (fun h52 => ?_)
    · refine j_iinc hC dX4_joinNow_63 0 [(5, vI (z + 1)), (3, vI (x)), (4, vI (y)), (0, .ref (gd g (19))), (1, vI (a)), (2, vI (b))] rfl (by decide) rfl ?_
      refine j_goto (tgt := 36) hC dX4_joinNow_66 (by decide) ?_
      refine j_sub [0, 1, 2, 3, 4, 5] rfl ?_
      first | (rw [if_pos h52]; exact ih (sG τ 17 z x) (z + 1) (by omega) (by omega) (fun j q0 q1 => by show 0 ≤ (if j = z then x else τ.2 17 j) ∧ (if j = z then x else τ.2 17 j) < 9; split; exact ⟨hxy.1, hxy.2.1⟩; exact hg j q0 q1)) | (rw [if_neg h52]; exact ih τ (z + 1) (by omega) (by omega) hg)
    · refine j_aload_n hC dX4_joinNow_55 3 rfl ?_
      refine j_get hC inX4 rfl 19 rfl 8 (by decide) wd590 rfl dX4_joinNow_56 ?_
      refine j_iload hC dX4_joinNow_59 0 rfl ?_
      refine j_iload_n hC dX4_joinNow_61 1 rfl ?_
      refine j_iast (τ := sG (τ) 17 (z) (x)) hC 26 rfl rfl (by omega) dX4_joinNow_62 ?_
      refine j_iinc hC dX4_joinNow_63 0 [(5, vI (z + 1)), (3, vI (x)), (4, vI (y)), (0, .ref (gd g (19))), (1, vI (a)), (2, vI (b))] rfl (by decide) rfl ?_
      refine j_goto (tgt := 36) hC dX4_joinNow_66 (by decide) ?_
      refine j_sub [0, 1, 2, 3, 4, 5] rfl ?_
      first | (rw [if_pos h52]; exact ih (sG τ 17 z x) (z + 1) (by omega) (by omega) (fun j q0 q1 => by show 0 ≤ (if j = z then x else τ.2 17 j) ∧ (if j = z then x else τ.2 17 j) < 9; split; exact ⟨hxy.1, hxy.2.1⟩; exact hg j q0 q1)) | (rw [if_neg h52]; exact ih τ (z + 1) (by omega) (by omega) hg)
set_option maxHeartbeats 4000000 in
set_option maxRecDepth 100000 in
theorem c_X4_joinNow {L0 : Launch} (hL0 : L0.stackTraces = false) (g : GG) (σ : Sg) (hI : IM σ) (a b : Int) (hx : 0 ≤ a ∧ a < 9 ∧ 0 ≤ b ∧ b < 9) : CN L0 yX4_joinNow cX4_joinNow 6 none 1 21 0 0 g [.ref (gd g (19)), vI (a), vI (b)] σ (pt none (jnM σ a b)) := by
  refine CN_of (own := RX4) hL0 (by decide) rfl (Nat.le_of_ble_eq_true rfl) (fun mc hC _ hR => ?_)
  refine j_lv (lv2 := [(0, .ref (gd g (19))), (1, vI (a)), (2, vI (b))]) rfl ?_
  have hg1 := hI.2.2.2.2.2.2.2.2 a (by omega) (by omega)
  have hg2 := hI.2.2.2.2.2.2.2.2 b (by omega) (by omega)
  refine j_aload_n hC dX4_joinNow_0 0 rfl ?_
  refine j_get hC inX4 rfl 19 rfl 8 (by decide) wd590 rfl dX4_joinNow_1 ?_
  refine j_iload_n hC dX4_joinNow_4 1 rfl ?_
  refine j_iald hC 26 rfl (by omega) dX4_joinNow_5 ?_
  refine j_aload_n hC dX4_joinNow_6 0 rfl ?_
  refine j_get hC inX4 rfl 19 rfl 8 (by decide) wd590 rfl dX4_joinNow_7 ?_
  refine j_iload_n hC dX4_joinNow_10 2 rfl ?_
  refine j_iald hC 26 rfl (by omega) dX4_joinNow_11 ?_
  refine j_min hC hR wd673 ⟨by decide, Nat.le_of_ble_eq_true rfl⟩ (by decide) (by omega) dX4_joinNow_12 ?_
  refine j_istore_n hC dX4_joinNow_15 [(3, vI (if (σ).2 17 a ≤ (σ).2 17 b then (σ).2 17 a else (σ).2 17 b)), (0, .ref (gd g (19))), (1, vI (a)), (2, vI (b))] (by decide) rfl ?_
  refine j_aload_n hC dX4_joinNow_16 1 rfl ?_
  refine j_get hC inX4 rfl 19 rfl 8 (by decide) wd590 rfl dX4_joinNow_17 ?_
  refine j_iload_n hC dX4_joinNow_20 2 rfl ?_
  refine j_iald hC 26 rfl (by omega) dX4_joinNow_21 ?_
  refine j_aload_n hC dX4_joinNow_22 1 rfl ?_
  refine j_get hC inX4 rfl 19 rfl 8 (by decide) wd590 rfl dX4_joinNow_23 ?_
  refine j_iload_n hC dX4_joinNow_26 3 rfl ?_
  refine j_iald hC 26 rfl (by omega) dX4_joinNow_27 ?_
  refine j_max hC hR wd674 ⟨by decide, Nat.le_of_ble_eq_true rfl⟩ (by decide) (by omega) dX4_joinNow_28 ?_
  refine j_istore hC dX4_joinNow_31 [(4, vI (if (σ).2 17 b ≤ (σ).2 17 a then (σ).2 17 a else (σ).2 17 b)), (3, vI (if (σ).2 17 a ≤ (σ).2 17 b then (σ).2 17 a else (σ).2 17 b)), (0, .ref (gd g (19))), (1, vI (a)), (2, vI (b))] (by decide) rfl ?_
  refine j_iconst hC dX4_joinNow_33 ?_
  refine j_istore hC dX4_joinNow_34 [(5, vI (0)), (4, vI (if (σ).2 17 b ≤ (σ).2 17 a then (σ).2 17 a else (σ).2 17 b)), (3, vI (if (σ).2 17 a ≤ (σ).2 17 b then (σ).2 17 a else (σ).2 17 b)), (0, .ref (gd g (19))), (1, vI (a)), (2, vI (b))] (by decide) rfl ?_
  refine j_sub [0, 2, 1, 3, 4, 5] rfl ?_
  exact lm_joinNow hC hR a b _ _ (by constructor <;> first | omega | (split <;> omega) | (refine ⟨?_, ?_, ?_⟩ <;> split <;> omega)) 9 σ 0 (by omega) (by omega) hI.2.2.2.2.2.2.2.2
set_option maxHeartbeats 4000000 in
set_option maxRecDepth 100000 in
theorem lm_toBorrow {mc : MC} {g : GG} (hC : Cx mc g cX4_toBorrow RX4 9 (some .int)) (hR : mR mc = rmJ 6 146 0 0) (a c : Int) (ha : 0 ≤ a ∧ a < 4) (hc : 0 ≤ c ∧ c < 4) : ∀ (d : Nat) (τ : Sg) (z : Int) (fo : Int) (mo : Int), (IM τ) → (0 ≤ z) → (z + (d : Int) = τ.2 11 a) → (-1 ≤ mo ∧ mo ≤ 16) → J mc g 0 0 (QN mc g (pt (some (vI (tbF a c d z fo mo τ).1)) ((tbF a c d z fo mo τ).2)) 0 0) 15 [(5, vI (z)), (3, vI (fo)), (4, vI (mo)), (0, .ref (gd g (19))), (1, vI (a)), (2, vI (c))] [] τ := by
  intro d
  induction d with
  | zero =>
    intro τ z fo mo hI h0 hz hm
    have hn := hI.2.2.1 a ha.1 ha.2
    refine j_iload hC dX4_toBorrow_15 0 rfl ?_
    refine j_aload_n hC dX4_toBorrow_17 3 rfl ?_
    refine j_get hC inX4 rfl 19 rfl 2 (by decide) wd584 rfl dX4_toBorrow_18 ?_
    refine j_iload_n hC dX4_toBorrow_21 4 rfl ?_
    refine j_iald hC 20 rfl (by omega) dX4_toBorrow_22 ?_
    refine j_icmp_ge (tgt := 129) hC dX4_toBorrow_23 (by decide) (by omega) (fun _ => ?_) (fun h => absurd h (by omega))
    refine j_iload_n hC dX4_toBorrow_129 1 rfl ?_
    exact j_iret hC dX4_toBorrow_130 ⟨rfl, rfl⟩
  | succ d ih =>
    intro τ z fo mo hI h0 hz hm
    have hn := hI.2.2.1 a ha.1 ha.2
    rw [show tbF a c (d + 1) z fo mo τ = if tfM τ (16 * a + z) c = -1 then tbF a c d (z + 1) fo mo τ else (if mo < raM (tbW τ a c z) a c 1 then tbF a c d (z + 1) z (raM (tbW τ a c z) a c 1) (tbU τ a c z) else tbF a c d (z + 1) fo mo (tbU τ a c z)) from rfl]
    refine j_iload hC dX4_toBorrow_15 0 rfl ?_
    refine j_aload_n hC dX4_toBorrow_17 3 rfl ?_
    refine j_get hC inX4 rfl 19 rfl 2 (by decide) wd584 rfl dX4_toBorrow_18 ?_
    refine j_iload_n hC dX4_toBorrow_21 4 rfl ?_
    refine j_iald hC 20 rfl (by omega) dX4_toBorrow_22 ?_
    refine j_icmp_ge (tgt := 129) hC dX4_toBorrow_23 (by decide) (by omega) (fun h => absurd h (by omega)) (fun _ => ?_)
    by_cases htl : tfM τ (16 * a + z) c = -1
    · refine j_iload_n hC dX4_toBorrow_26 4 rfl ?_
      refine j_iload hC dX4_toBorrow_27 0 rfl ?_
      refine j_callS1 (ar := 2) hC hR (c_X4_at (hlJ hC) g τ a z ) [] rfl (by decide) (by decide +kernel) rfl wd643 wd644 wd4 wd645 (by decide) (Nat.le_of_ble_eq_true rfl) dX4_toBorrow_29 ?_
      refine j_istore hC dX4_toBorrow_32 [(6, vI (16 * a + z)), (5, vI (z)), (3, vI (fo)), (4, vI (mo)), (0, .ref (gd g (19))), (1, vI (a)), (2, vI (c))] (by decide) rfl ?_
      refine j_aload_n hC dX4_toBorrow_34 4 rfl ?_
      refine j_iload hC dX4_toBorrow_35 0 rfl ?_
      refine j_iload_n hC dX4_toBorrow_37 6 rfl ?_
      refine j_callV1 (ar := 2) hC hR (c_X4_thumbFor (hlJ hC) g τ hI (16 * a + z) c (by omega) (by omega)) [] rfl 19 rfl rfl rfl (by decide) (by decide +kernel) rfl wd685 wd687 wp37 wd4 wd688 (by decide) (Nat.le_of_ble_eq_true rfl) dX4_toBorrow_38 ?_
      have hf38 := tfM_rg hI (j := (16 * a + z)) (l := c) (by omega)
      refine j_istore hC dX4_toBorrow_41 [(7, vI (tfM τ (16 * a + z) c)), (6, vI (16 * a + z)), (5, vI (z)), (3, vI (fo)), (4, vI (mo)), (0, .ref (gd g (19))), (1, vI (a)), (2, vI (c))] (by decide) rfl ?_
      refine j_iload hC dX4_toBorrow_43 0 rfl ?_
      refine j_iconst hC dX4_toBorrow_45 ?_
      refine j_icmp_ne (tgt := 52) hC dX4_toBorrow_46 (by decide) (by omega) (fun h => absurd h (by omega)) (fun _ => ?_)
      refine j_goto (tgt := 123) hC dX4_toBorrow_49 (by decide) ?_
      refine j_iinc hC dX4_toBorrow_123 2 [(5, vI (z + 1)), (7, vI (tfM τ (16 * a + z) c)), (6, vI (16 * a + z)), (3, vI (fo)), (4, vI (mo)), (0, .ref (gd g (19))), (1, vI (a)), (2, vI (c))] rfl (by decide) rfl ?_
      refine j_goto (tgt := 15) hC dX4_toBorrow_126 (by decide) ?_
      refine j_sub [0, 3, 4, 5, 6, 7] rfl ?_
      rw [if_pos htl]
      exact ih τ (z + 1) fo mo hI (by omega) (by omega) hm
    · rw [if_neg htl]
      have hI2 := IM_tbW hI hc (a := a) (z := z) (by omega) htl
      have hI3 := IM_tbU hI hc (a := a) (z := z) (by omega) htl
      have hro := tfM_room hI hc htl
      have hz2 : z + 1 + (d : Int) = (tbU τ a c z).2 11 a := by rw [tbU_11]; omega
      have hqn := hI2.2.2.1 c hc.1 hc.2
      have hra : 0 ≤ raM (tbW τ a c z) a c 1 ∧ raM (tbW τ a c z) a c 1 ≤ 16 := cntM_rg _ hI2 ha _
      refine j_iload_n hC dX4_toBorrow_26 4 rfl ?_
      refine j_iload hC dX4_toBorrow_27 0 rfl ?_
      refine j_callS1 (ar := 2) hC hR (c_X4_at (hlJ hC) g τ a z ) [] rfl (by decide) (by decide +kernel) rfl wd643 wd644 wd4 wd645 (by decide) (Nat.le_of_ble_eq_true rfl) dX4_toBorrow_29 ?_
      refine j_istore hC dX4_toBorrow_32 [(6, vI (16 * a + z)), (5, vI (z)), (3, vI (fo)), (4, vI (mo)), (0, .ref (gd g (19))), (1, vI (a)), (2, vI (c))] (by decide) rfl ?_
      refine j_aload_n hC dX4_toBorrow_34 4 rfl ?_
      refine j_iload hC dX4_toBorrow_35 0 rfl ?_
      refine j_iload_n hC dX4_toBorrow_37 6 rfl ?_
      refine j_callV1 (ar := 2) hC hR (c_X4_thumbFor (hlJ hC) g τ hI (16 * a + z) c (by omega) (by omega)) [] rfl 19 rfl rfl rfl (by decide) (by decide +kernel) rfl wd685 wd687 wp37 wd4 wd688 (by decide) (Nat.le_of_ble_eq_true rfl) dX4_toBorrow_38 ?_
      have hf38 := tfM_rg hI (j := (16 * a + z)) (l := c) (by omega)
      refine j_istore hC dX4_toBorrow_41 [(7, vI (tfM τ (16 * a + z) c)), (6, vI (16 * a + z)), (5, vI (z)), (3, vI (fo)), (4, vI (mo)), (0, .ref (gd g (19))), (1, vI (a)), (2, vI (c))] (by decide) rfl ?_
      refine j_iload hC dX4_toBorrow_43 0 rfl ?_
      refine j_iconst hC dX4_toBorrow_45 ?_
      refine j_icmp_ne (tgt := 52) hC dX4_toBorrow_46 (by decide) (by omega) (fun _ => ?_) (fun h => absurd h (by omega))
      refine j_aload_n hC dX4_toBorrow_52 5 rfl ?_
      refine j_iload_n hC dX4_toBorrow_53 7 rfl ?_
      refine j_aload_n hC dX4_toBorrow_54 5 rfl ?_
      refine j_get hC inX4 rfl 19 rfl 3 (by decide) wd585 rfl dX4_toBorrow_55 ?_
      refine j_iload hC dX4_toBorrow_58 1 rfl ?_
      refine j_iald hC 21 rfl (by omega) dX4_toBorrow_60 ?_
      refine j_iload hC dX4_toBorrow_61 0 rfl ?_
      refine j_aload_n hC dX4_toBorrow_63 5 rfl ?_
      refine j_get hC inX4 rfl 19 rfl 5 (by decide) wd587 rfl dX4_toBorrow_64 ?_
      refine j_iload hC dX4_toBorrow_67 1 rfl ?_
      refine j_iald hC 23 rfl (by omega) dX4_toBorrow_69 ?_
      refine j_aload_n hC dX4_toBorrow_70 5 rfl ?_
      refine j_get hC inX4 rfl 19 rfl 6 (by decide) wd588 rfl dX4_toBorrow_71 ?_
      refine j_iload hC dX4_toBorrow_74 1 rfl ?_
      refine j_iald hC 24 rfl (by omega) dX4_toBorrow_76 ?_
      refine j_aload_n hC dX4_toBorrow_77 5 rfl ?_
      refine j_get hC inX4 rfl 19 rfl 7 (by decide) wd589 rfl dX4_toBorrow_78 ?_
      refine j_iload hC dX4_toBorrow_81 1 rfl ?_
      refine j_iald hC 25 rfl (by omega) dX4_toBorrow_83 ?_
      refine j_callV0 (ar := 6) hC hR (c_X4_write (hlJ hC) g τ c ((τ).2 12 (16 * a + z)) (tfM τ (16 * a + z) c) ((τ).2 14 (16 * a + z)) ((τ).2 15 (16 * a + z)) ((τ).2 16 (16 * a + z)) (by omega) hro) [] rfl 19 rfl rfl rfl (by decide) (by decide +kernel) rfl wd646 wd648 wp33 wd4 wd649 (by decide) (Nat.le_of_ble_eq_true rfl) dX4_toBorrow_84 ?_
      refine j_aload_n hC dX4_toBorrow_87 5 rfl ?_
      refine j_iload_n hC dX4_toBorrow_88 6 rfl ?_
      refine j_iload_n hC dX4_toBorrow_89 7 rfl ?_
      refine j_iconst hC dX4_toBorrow_90 ?_
      refine j_callV1 (ar := 3) hC hR (c_X4_readAs (hlJ hC) g (tbW τ a c z) hI2 a c 1 ha hc (Or.inr rfl)) [] rfl 19 rfl rfl rfl (by decide) (by decide +kernel) rfl wd806 wd808 wp49 wd4 wd809 (by decide) (Nat.le_of_ble_eq_true rfl) dX4_toBorrow_91 ?_
      refine j_istore hC dX4_toBorrow_94 [(8, vI (raM (tbW τ a c z) a c 1)), (7, vI (tfM τ (16 * a + z) c)), (6, vI (16 * a + z)), (5, vI (z)), (3, vI (fo)), (4, vI (mo)), (0, .ref (gd g (19))), (1, vI (a)), (2, vI (c))] (by decide) rfl ?_
      refine j_aload_n hC dX4_toBorrow_96 6 rfl ?_
      refine j_get hC inX4 rfl 19 rfl 2 (by decide) wd584 rfl dX4_toBorrow_97 ?_
      refine j_iload_n hC dX4_toBorrow_100 8 rfl ?_
      refine j_dup2 hC dX4_toBorrow_101 rfl rfl ?_
      refine j_iald hC 20 rfl (by omega) dX4_toBorrow_102 ?_
      refine j_iconst hC dX4_toBorrow_103 ?_
      refine j_isub hC dX4_toBorrow_104 ?_
      refine j_iast (τ := sG (tbW τ a c z) 11 (c) (((tbW τ a c z).2 11 c) - 1)) hC 20 rfl rfl (by omega) dX4_toBorrow_105 ?_
      refine j_iload hC dX4_toBorrow_106 0 rfl ?_
      refine j_iload hC dX4_toBorrow_108 5 rfl ?_
      refine j_icmp_gt (tgt := 116) hC dX4_toBorrow_110 (by decide) (by omega) (fun h110 => ?_) (fun h110 => ?_)
      · refine j_iload hC dX4_toBorrow_116 3 rfl ?_
        refine j_istore_n hC dX4_toBorrow_118 [(3, vI (z)), (8, vI (raM (tbW τ a c z) a c 1)), (7, vI (tfM τ (16 * a + z) c)), (6, vI (16 * a + z)), (5, vI (z)), (4, vI (mo)), (0, .ref (gd g (19))), (1, vI (a)), (2, vI (c))] (by decide) rfl ?_
        refine j_iload hC dX4_toBorrow_119 1 rfl ?_
        refine j_istore hC dX4_toBorrow_121 [(4, vI (raM (tbW τ a c z) a c 1)), (3, vI (z)), (8, vI (raM (tbW τ a c z) a c 1)), (7, vI (tfM τ (16 * a + z) c)), (6, vI (16 * a + z)), (5, vI (z)), (0, .ref (gd g (19))), (1, vI (a)), (2, vI (c))] (by decide) rfl ?_
        refine j_iinc hC dX4_toBorrow_123 5 [(5, vI (z + 1)), (4, vI (raM (tbW τ a c z) a c 1)), (3, vI (z)), (8, vI (raM (tbW τ a c z) a c 1)), (7, vI (tfM τ (16 * a + z) c)), (6, vI (16 * a + z)), (0, .ref (gd g (19))), (1, vI (a)), (2, vI (c))] rfl (by decide) rfl ?_
        refine j_goto (tgt := 15) hC dX4_toBorrow_126 (by decide) ?_
        refine j_sub [0, 2, 1, 6, 7, 8] rfl ?_
        first | (rw [if_pos (show mo < raM (tbW τ a c z) a c 1 by omega)]; exact ih (tbU τ a c z) (z + 1) z _ hI3 (by omega) hz2 (by omega)) | (rw [if_neg (show ¬ mo < raM (tbW τ a c z) a c 1 by omega)]; exact ih (tbU τ a c z) (z + 1) fo mo hI3 (by omega) hz2 hm)
      · refine j_goto (tgt := 123) hC dX4_toBorrow_113 (by decide) ?_
        refine j_iinc hC dX4_toBorrow_123 3 [(5, vI (z + 1)), (8, vI (raM (tbW τ a c z) a c 1)), (7, vI (tfM τ (16 * a + z) c)), (6, vI (16 * a + z)), (3, vI (fo)), (4, vI (mo)), (0, .ref (gd g (19))), (1, vI (a)), (2, vI (c))] rfl (by decide) rfl ?_
        refine j_goto (tgt := 15) hC dX4_toBorrow_126 (by decide) ?_
        refine j_sub [0, 4, 5, 6, 7, 8] rfl ?_
        first | (rw [if_pos (show mo < raM (tbW τ a c z) a c 1 by omega)]; exact ih (tbU τ a c z) (z + 1) z _ hI3 (by omega) hz2 (by omega)) | (rw [if_neg (show ¬ mo < raM (tbW τ a c z) a c 1 by omega)]; exact ih (tbU τ a c z) (z + 1) fo mo hI3 (by omega) hz2 hm)
set_option maxHeartbeats 4000000 in
set_option maxRecDepth 100000 in
theorem c_X4_toBorrow {L0 : Launch} (hL0 : L0.stackTraces = false) (g : GG) (σ : Sg) (hI : IM σ) (a c : Int) (ha : 0 ≤ a ∧ a < 4) (hc : 0 ≤ c ∧ c < 4) : CN L0 yX4_toBorrow cX4_toBorrow 9 (some .int) 6 146 0 0 g [.ref (gd g (19)), vI (a), vI (c)] σ (pt (some (vI (tbM σ a c).1)) ((tbM σ a c).2)) := by
  refine CN_of (own := RX4) hL0 (by decide) rfl (Nat.le_of_ble_eq_true rfl) (fun mc hC _ hR => ?_)
  refine j_lv (lv2 := [(0, .ref (gd g (19))), (1, vI (a)), (2, vI (c))]) rfl ?_
  have hn := hI.2.2.1 a ha.1 ha.2
  have hn2 := nM_eq hI ha
  refine j_iload_n hC dX4_toBorrow_0 1 rfl ?_
  refine j_iload_n hC dX4_toBorrow_1 2 rfl ?_
  refine j_icmp_ne (tgt := 7) hC dX4_toBorrow_2 (by decide) (by omega) (fun h2 => ?_) (fun h2 => ?_)
  · refine j_iconst hC dX4_toBorrow_7 ?_
    refine j_istore_n hC dX4_toBorrow_8 [(3, vI (-1)), (0, .ref (gd g (19))), (1, vI (a)), (2, vI (c))] (by decide) rfl ?_
    refine j_iconst hC dX4_toBorrow_9 ?_
    refine j_istore hC dX4_toBorrow_10 [(4, vI (-1)), (3, vI (-1)), (0, .ref (gd g (19))), (1, vI (a)), (2, vI (c))] (by decide) rfl ?_
    refine j_iconst hC dX4_toBorrow_12 ?_
    refine j_istore hC dX4_toBorrow_13 [(5, vI (0)), (4, vI (-1)), (3, vI (-1)), (0, .ref (gd g (19))), (1, vI (a)), (2, vI (c))] (by decide) rfl ?_
    refine j_sub [0, 2, 1, 3, 4, 5] rfl ?_
    rw [show tbM σ a c = tbF a c (nM σ a) 0 (-1) (-1) σ from if_neg h2]
    exact lm_toBorrow hC hR a c ha hc (nM σ a) σ 0 (-1) (-1) hI (by omega) (by omega) (by omega)
  · refine j_iconst hC dX4_toBorrow_5 ?_
    exact j_iret hC dX4_toBorrow_6 ⟨by unfold tbM; rw [if_pos h2], by unfold tbM; rw [if_pos h2]⟩
