theorem cnt_st (c : Prop) (hc : Decidable c) {a : Int} : (if decide c = true then a + 1 else a) = a + (if c then 1 else 0) := by
  by_cases h : c
  · rw [if_pos (decide_eq_true h), if_pos h]
  · rw [if_neg (fun q => h (of_decide_eq_true q)), if_neg h, Int.add_zero]
theorem grO_rg (G : Int → Int) : ∀ (d : Nat) (p a : Int), a ≤ grO G d p a ∧ grO G d p a ≤ a + d := by
  intro d
  induction d with
  | zero => intro p a; exact ⟨Int.le_refl _, by simp [grO]⟩
  | succ d ih =>
    intro p a
    unfold grO
    have h := ih (p + 1) (a + (if grI G p p.toNat 0 1 = 1 then 1 else 0))
    split at h <;> split <;> omega
theorem gcF_rg (G : Int → Int) : 0 ≤ gcF G ∧ gcF G ≤ 9 := by
  have := grO_rg G 9 0 0
  unfold gcF
  omega
set_option maxHeartbeats 4000000 in
set_option maxRecDepth 100000 in
theorem c_X4_steps {ll : Launch} (hll : ll.stackTraces = false) (g : GG) (X : va_W) (σ : Sg) {a : Nat} {r : RR} (hr : Rp g X a σ r) (hI : IC σ) (p q : Int) (hx : 0 ≤ p ∧ p < 9 ∧ 0 ≤ q ∧ q < 9) : CN ll yX4_steps cX4_steps 3 (some .int) 1 20 0 0 (gx g X) [.ref a, vI (p), vI (q)] σ (pt (some (vI (stp (σ.2 0) p q))) σ) := by
  refine CN_of (own := RX4) hll (by decide) rfl (Nat.le_of_ble_eq_true rfl) (fun mc hC _ hR => ?_)
  refine j_lv (lv2 := [(0, .ref a), (1, vI (p)), (2, vI (q))]) rfl ?_
  refine j_aload_n hC dX4_steps_0 0 rfl ?_
  refine r_joined hC hr wd532 dX4_steps_1 ?_
  refine j_iload_n hC dX4_steps_4 1 rfl ?_
  refine r_row hC hr (by omega) dX4_steps_5 ?_
  refine j_iload_n hC dX4_steps_6 2 rfl ?_
  refine r_bit hC hr (by omega) (by omega) dX4_steps_7 ?_
  refine j_ifb_eq (tgt := 15) hC dX4_steps_8 (by decide) (fun h8 => ?_) (fun h8 => ?_)
  · refine j_iload_n hC dX4_steps_15 1 rfl ?_
    refine j_iconst hC dX4_steps_16 ?_
    refine j_idiv hC dX4_steps_17 (by omega) ?_
    refine j_iload_n hC dX4_steps_18 2 rfl ?_
    refine j_iconst hC dX4_steps_19 ?_
    refine j_idiv hC dX4_steps_20 (by omega) ?_
    refine j_isub hC dX4_steps_21 ?_
    refine j_abs hC hR wd356 ⟨by decide, Nat.le_of_ble_eq_true rfl⟩ (by first | decide | omega) (by omega) dX4_steps_22 ?_
    refine j_iload_n hC dX4_steps_25 1 rfl ?_
    refine j_iconst hC dX4_steps_26 ?_
    refine j_irem hC dX4_steps_27 (by omega) ?_
    refine j_iload_n hC dX4_steps_28 2 rfl ?_
    refine j_iconst hC dX4_steps_29 ?_
    refine j_irem hC dX4_steps_30 (by omega) ?_
    refine j_isub hC dX4_steps_31 ?_
    refine j_abs hC hR wd356 ⟨by decide, Nat.le_of_ble_eq_true rfl⟩ (by first | decide | omega) (by omega) dX4_steps_32 ?_
    refine j_iadd hC dX4_steps_35 ?_
    exact j_iret hC dX4_steps_36 ⟨by unfold stp ab; first | rw [if_pos h8] | rw [if_neg h8], rfl⟩
  · refine j_iconst hC dX4_steps_11 ?_
    refine j_goto (tgt := 36) hC dX4_steps_12 (by decide) ?_
    exact j_iret hC dX4_steps_36 ⟨by unfold stp ab; first | rw [if_pos h8] | rw [if_neg h8], rfl⟩
set_option maxHeartbeats 4000000 in
set_option maxRecDepth 100000 in
theorem c_X4_far {ll : Launch} (hll : ll.stackTraces = false) (g : GG) (X : va_W) (σ : Sg) {a : Nat} {r : RR} (hr : Rp g X a σ r) (hI : IC σ) {x y : Nat} {L m L2 m2 : Int} (hx : Sn g X x L m) (hy : Sn g X y L2 m2) (hL : 0 ≤ L ∧ L < 2304 ∧ 0 ≤ L2 ∧ L2 < 2304) : CN ll yX4_far cX4_far 5 (some .int) 2 42 0 0 (gx g X) [.ref a, .ref x, .ref y] σ (pt (some (vI (dst (σ.2 0) L L2))) σ) := by
  refine CN_of (own := RX4) hll (by decide) rfl (Nat.le_of_ble_eq_true rfl) (fun mc hC _ hR => ?_)
  refine j_lv (lv2 := [(0, .ref a), (1, .ref x), (2, .ref y)]) rfl ?_
  refine j_aload_n hC dX4_far_0 0 rfl ?_
  refine j_aload_n hC dX4_far_1 1 rfl ?_
  refine j_iconst hC dX4_far_2 ?_
  refine r_num2 hC hx dX4_far_3 ?_
  refine j_aload_n hC dX4_far_4 2 rfl ?_
  refine j_iconst hC dX4_far_5 ?_
  refine r_num2 hC hy dX4_far_6 ?_
  refine x_callV1 (ar := 2) hC hR (c_X4_steps (hlJ hC) g X σ hr hI (L / 256) (L2 / 256) (by omega)) [] rfl hr.1 rfl rfl (by decide) (by decide +kernel) rfl wd352 wd353 wd354 wd4 wd355 (by first | decide | omega) (Nat.le_of_ble_eq_true rfl) dX4_far_7 ?_
  have hs7 := stp_rg (G := σ.2 0) (a := L / 256) (b := L2 / 256) (by omega)
  refine j_istore_n hC dX4_far_10 [(3, vI (stp (σ.2 0) (L / 256) (L2 / 256))), (0, .ref a), (1, .ref x), (2, .ref y)] (by decide) rfl ?_
  refine j_iconst hC dX4_far_11 ?_
  refine j_istore hC dX4_far_12 [(4, vI (1)), (3, vI (stp (σ.2 0) (L / 256) (L2 / 256))), (0, .ref a), (1, .ref x), (2, .ref y)] (by decide) rfl ?_
  refine j_lv (lv2 := [(4, vI (1)), (3, vI (stp (σ.2 0) (L / 256) (L2 / 256))), (0, .ref a), (1, .ref x), (2, .ref y)]) rfl ?_
  refine j_iload hC dX4_far_14 0 rfl ?_
  refine j_bipush hC dX4_far_16 (by decide) ?_
  refine j_icmp_ge (tgt := 53) hC dX4_far_18 (by decide) (by omega) (fun h => absurd h (by omega)) (fun _ => ?_)
  refine j_aload_n hC dX4_far_21 3 rfl ?_
  refine j_iconst hC dX4_far_22 ?_
  refine r_num0 hC hx dX4_far_23 ?_
  refine j_iload hC dX4_far_24 0 rfl ?_
  refine j_idiv hC dX4_far_26 (by omega) ?_
  refine j_iconst hC dX4_far_27 ?_
  refine j_irem hC dX4_far_28 (by omega) ?_
  refine j_aload_n hC dX4_far_29 4 rfl ?_
  refine j_iconst hC dX4_far_30 ?_
  refine r_num0 hC hy dX4_far_31 ?_
  refine j_iload hC dX4_far_32 0 rfl ?_
  refine j_idiv hC dX4_far_34 (by omega) ?_
  refine j_iconst hC dX4_far_35 ?_
  refine j_irem hC dX4_far_36 (by omega) ?_
  suffices K43 : J mc (gx g X) 0 0 (QN mc (gx g X) (pt (some (vI (dst (σ.2 0) L L2))) σ) 0 0) 43 [(3, vI ((stp (σ.2 0) (L / 256) (L2 / 256)) + (if ((L % 16) / 1) % 2 = ((L2 % 16) / 1) % 2 then 0 else 1))), (4, vI (1)), (0, .ref a), (1, .ref x), (2, .ref y)] [] σ by
    refine j_icmp_eq (tgt := 43) hC dX4_far_37 (by decide) (by omega) (fun h37 => ?_) (fun h37 => ?_)
    · refine j_sub [1, 0, 2, 3, 4] rfl ?_
      exact (by first | (rw [show ((if ((L % 16) / 1) % 2 = ((L2 % 16) / 1) % 2 then 0 else 1) : Int) = 0 from if_pos (by omega), Int.add_zero] at K43; exact K43) | (rw [show ((if ((L % 16) / 1) % 2 = ((L2 % 16) / 1) % 2 then 0 else 1) : Int) = 0 from if_pos (by omega), Int.add_zero] at K43 ⊢; exact K43) | (rw [show ((if ((L % 16) / 1) % 2 = ((L2 % 16) / 1) % 2 then 0 else 1) : Int) = 1 from if_neg (by omega)] at K43; exact K43) | (rw [show ((if ((L % 16) / 1) % 2 = ((L2 % 16) / 1) % 2 then 0 else 1) : Int) = 1 from if_neg (by omega)] at K43 ⊢; exact K43))
    · refine j_iinc hC dX4_far_40 1 [(3, vI ((stp (σ.2 0) (L / 256) (L2 / 256)) + 1)), (4, vI (1)), (0, .ref a), (1, .ref x), (2, .ref y)] rfl (by decide) rfl ?_
      exact (by first | (rw [show ((if ((L % 16) / 1) % 2 = ((L2 % 16) / 1) % 2 then 0 else 1) : Int) = 0 from if_pos (by omega), Int.add_zero] at K43; exact K43) | (rw [show ((if ((L % 16) / 1) % 2 = ((L2 % 16) / 1) % 2 then 0 else 1) : Int) = 0 from if_pos (by omega), Int.add_zero] at K43 ⊢; exact K43) | (rw [show ((if ((L % 16) / 1) % 2 = ((L2 % 16) / 1) % 2 then 0 else 1) : Int) = 1 from if_neg (by omega)] at K43; exact K43) | (rw [show ((if ((L % 16) / 1) % 2 = ((L2 % 16) / 1) % 2 then 0 else 1) : Int) = 1 from if_neg (by omega)] at K43 ⊢; exact K43))
  refine j_iload hC dX4_far_43 1 rfl ?_
  refine j_iload hC dX4_far_45 1 rfl ?_
  refine j_iadd hC dX4_far_47 ?_
  refine j_istore hC dX4_far_48 [(4, vI (1 + 1)), (3, vI ((stp (σ.2 0) (L / 256) (L2 / 256)) + (if ((L % 16) / 1) % 2 = ((L2 % 16) / 1) % 2 then 0 else 1))), (0, .ref a), (1, .ref x), (2, .ref y)] (by decide) rfl ?_
  refine j_goto (tgt := 14) hC dX4_far_50 (by decide) ?_
  refine j_lv (lv2 := [(4, vI (2)), (3, vI ((stp (σ.2 0) (L / 256) (L2 / 256)) + (if ((L % 16) / 1) % 2 = ((L2 % 16) / 1) % 2 then 0 else 1))), (0, .ref a), (1, .ref x), (2, .ref y)]) rfl ?_
  refine j_iload hC dX4_far_14 0 rfl ?_
  refine j_bipush hC dX4_far_16 (by decide) ?_
  refine j_icmp_ge (tgt := 53) hC dX4_far_18 (by decide) (by omega) (fun h => absurd h (by omega)) (fun _ => ?_)
  refine j_aload_n hC dX4_far_21 3 rfl ?_
  refine j_iconst hC dX4_far_22 ?_
  refine r_num0 hC hx dX4_far_23 ?_
  refine j_iload hC dX4_far_24 0 rfl ?_
  refine j_idiv hC dX4_far_26 (by omega) ?_
  refine j_iconst hC dX4_far_27 ?_
  refine j_irem hC dX4_far_28 (by omega) ?_
  refine j_aload_n hC dX4_far_29 4 rfl ?_
  refine j_iconst hC dX4_far_30 ?_
  refine r_num0 hC hy dX4_far_31 ?_
  refine j_iload hC dX4_far_32 0 rfl ?_
  refine j_idiv hC dX4_far_34 (by omega) ?_
  refine j_iconst hC dX4_far_35 ?_
  refine j_irem hC dX4_far_36 (by omega) ?_
  suffices K43 : J mc (gx g X) 0 0 (QN mc (gx g X) (pt (some (vI (dst (σ.2 0) L L2))) σ) 0 0) 43 [(3, vI (((stp (σ.2 0) (L / 256) (L2 / 256)) + (if ((L % 16) / 1) % 2 = ((L2 % 16) / 1) % 2 then 0 else 1)) + (if ((L % 16) / 2) % 2 = ((L2 % 16) / 2) % 2 then 0 else 1))), (4, vI (2)), (0, .ref a), (1, .ref x), (2, .ref y)] [] σ by
    refine j_icmp_eq (tgt := 43) hC dX4_far_37 (by decide) (by omega) (fun h37 => ?_) (fun h37 => ?_)
    · refine j_sub [1, 0, 2, 3, 4] rfl ?_
      exact (by first | (rw [show ((if ((L % 16) / 2) % 2 = ((L2 % 16) / 2) % 2 then 0 else 1) : Int) = 0 from if_pos (by omega), Int.add_zero] at K43; exact K43) | (rw [show ((if ((L % 16) / 2) % 2 = ((L2 % 16) / 2) % 2 then 0 else 1) : Int) = 0 from if_pos (by omega), Int.add_zero] at K43 ⊢; exact K43) | (rw [show ((if ((L % 16) / 2) % 2 = ((L2 % 16) / 2) % 2 then 0 else 1) : Int) = 1 from if_neg (by omega)] at K43; exact K43) | (rw [show ((if ((L % 16) / 2) % 2 = ((L2 % 16) / 2) % 2 then 0 else 1) : Int) = 1 from if_neg (by omega)] at K43 ⊢; exact K43))
    · refine j_iinc hC dX4_far_40 1 [(3, vI (((stp (σ.2 0) (L / 256) (L2 / 256)) + (if ((L % 16) / 1) % 2 = ((L2 % 16) / 1) % 2 then 0 else 1)) + 1)), (4, vI (2)), (0, .ref a), (1, .ref x), (2, .ref y)] rfl (by decide) rfl ?_
      exact (by first | (rw [show ((if ((L % 16) / 2) % 2 = ((L2 % 16) / 2) % 2 then 0 else 1) : Int) = 0 from if_pos (by omega), Int.add_zero] at K43; exact K43) | (rw [show ((if ((L % 16) / 2) % 2 = ((L2 % 16) / 2) % 2 then 0 else 1) : Int) = 0 from if_pos (by omega), Int.add_zero] at K43 ⊢; exact K43) | (rw [show ((if ((L % 16) / 2) % 2 = ((L2 % 16) / 2) % 2 then 0 else 1) : Int) = 1 from if_neg (by omega)] at K43; exact K43) | (rw [show ((if ((L % 16) / 2) % 2 = ((L2 % 16) / 2) % 2 then 0 else 1) : Int) = 1 from if_neg (by omega)] at K43 ⊢; exact K43))
  refine j_iload hC dX4_far_43 1 rfl ?_
  refine j_iload hC dX4_far_45 1 rfl ?_
  refine j_iadd hC dX4_far_47 ?_
  refine j_istore hC dX4_far_48 [(4, vI (2 + 2)), (3, vI (((stp (σ.2 0) (L / 256) (L2 / 256)) + (if ((L % 16) / 1) % 2 = ((L2 % 16) / 1) % 2 then 0 else 1)) + (if ((L % 16) / 2) % 2 = ((L2 % 16) / 2) % 2 then 0 else 1))), (0, .ref a), (1, .ref x), (2, .ref y)] (by decide) rfl ?_
  refine j_goto (tgt := 14) hC dX4_far_50 (by decide) ?_
  refine j_lv (lv2 := [(4, vI (4)), (3, vI (((stp (σ.2 0) (L / 256) (L2 / 256)) + (if ((L % 16) / 1) % 2 = ((L2 % 16) / 1) % 2 then 0 else 1)) + (if ((L % 16) / 2) % 2 = ((L2 % 16) / 2) % 2 then 0 else 1))), (0, .ref a), (1, .ref x), (2, .ref y)]) rfl ?_
  refine j_iload hC dX4_far_14 0 rfl ?_
  refine j_bipush hC dX4_far_16 (by decide) ?_
  refine j_icmp_ge (tgt := 53) hC dX4_far_18 (by decide) (by omega) (fun h => absurd h (by omega)) (fun _ => ?_)
  refine j_aload_n hC dX4_far_21 3 rfl ?_
  refine j_iconst hC dX4_far_22 ?_
  refine r_num0 hC hx dX4_far_23 ?_
  refine j_iload hC dX4_far_24 0 rfl ?_
  refine j_idiv hC dX4_far_26 (by omega) ?_
  refine j_iconst hC dX4_far_27 ?_
  refine j_irem hC dX4_far_28 (by omega) ?_
  refine j_aload_n hC dX4_far_29 4 rfl ?_
  refine j_iconst hC dX4_far_30 ?_
  refine r_num0 hC hy dX4_far_31 ?_
  refine j_iload hC dX4_far_32 0 rfl ?_
  refine j_idiv hC dX4_far_34 (by omega) ?_
  refine j_iconst hC dX4_far_35 ?_
  refine j_irem hC dX4_far_36 (by omega) ?_
  suffices K43 : J mc (gx g X) 0 0 (QN mc (gx g X) (pt (some (vI (dst (σ.2 0) L L2))) σ) 0 0) 43 [(3, vI ((((stp (σ.2 0) (L / 256) (L2 / 256)) + (if ((L % 16) / 1) % 2 = ((L2 % 16) / 1) % 2 then 0 else 1)) + (if ((L % 16) / 2) % 2 = ((L2 % 16) / 2) % 2 then 0 else 1)) + (if ((L % 16) / 4) % 2 = ((L2 % 16) / 4) % 2 then 0 else 1))), (4, vI (4)), (0, .ref a), (1, .ref x), (2, .ref y)] [] σ by
    refine j_icmp_eq (tgt := 43) hC dX4_far_37 (by decide) (by omega) (fun h37 => ?_) (fun h37 => ?_)
    · refine j_sub [1, 0, 2, 3, 4] rfl ?_
      exact (by first | (rw [show ((if ((L % 16) / 4) % 2 = ((L2 % 16) / 4) % 2 then 0 else 1) : Int) = 0 from if_pos (by omega), Int.add_zero] at K43; exact K43) | (rw [show ((if ((L % 16) / 4) % 2 = ((L2 % 16) / 4) % 2 then 0 else 1) : Int) = 0 from if_pos (by omega), Int.add_zero] at K43 ⊢; exact K43) | (rw [show ((if ((L % 16) / 4) % 2 = ((L2 % 16) / 4) % 2 then 0 else 1) : Int) = 1 from if_neg (by omega)] at K43; exact K43) | (rw [show ((if ((L % 16) / 4) % 2 = ((L2 % 16) / 4) % 2 then 0 else 1) : Int) = 1 from if_neg (by omega)] at K43 ⊢; exact K43))
    · refine j_iinc hC dX4_far_40 1 [(3, vI ((((stp (σ.2 0) (L / 256) (L2 / 256)) + (if ((L % 16) / 1) % 2 = ((L2 % 16) / 1) % 2 then 0 else 1)) + (if ((L % 16) / 2) % 2 = ((L2 % 16) / 2) % 2 then 0 else 1)) + 1)), (4, vI (4)), (0, .ref a), (1, .ref x), (2, .ref y)] rfl (by decide) rfl ?_
      exact (by first | (rw [show ((if ((L % 16) / 4) % 2 = ((L2 % 16) / 4) % 2 then 0 else 1) : Int) = 0 from if_pos (by omega), Int.add_zero] at K43; exact K43) | (rw [show ((if ((L % 16) / 4) % 2 = ((L2 % 16) / 4) % 2 then 0 else 1) : Int) = 0 from if_pos (by omega), Int.add_zero] at K43 ⊢; exact K43) | (rw [show ((if ((L % 16) / 4) % 2 = ((L2 % 16) / 4) % 2 then 0 else 1) : Int) = 1 from if_neg (by omega)] at K43; exact K43) | (rw [show ((if ((L % 16) / 4) % 2 = ((L2 % 16) / 4) % 2 then 0 else 1) : Int) = 1 from if_neg (by omega)] at K43 ⊢; exact K43))
  refine j_iload hC dX4_far_43 1 rfl ?_
  refine j_iload hC dX4_far_45 1 rfl ?_
  refine j_iadd hC dX4_far_47 ?_
  refine j_istore hC dX4_far_48 [(4, vI (4 + 4)), (3, vI ((((stp (σ.2 0) (L / 256) (L2 / 256)) + (if ((L % 16) / 1) % 2 = ((L2 % 16) / 1) % 2 then 0 else 1)) + (if ((L % 16) / 2) % 2 = ((L2 % 16) / 2) % 2 then 0 else 1)) + (if ((L % 16) / 4) % 2 = ((L2 % 16) / 4) % 2 then 0 else 1))), (0, .ref a), (1, .ref x), (2, .ref y)] (by decide) rfl ?_
  refine j_goto (tgt := 14) hC dX4_far_50 (by decide) ?_
  refine j_lv (lv2 := [(4, vI (8)), (3, vI ((((stp (σ.2 0) (L / 256) (L2 / 256)) + (if ((L % 16) / 1) % 2 = ((L2 % 16) / 1) % 2 then 0 else 1)) + (if ((L % 16) / 2) % 2 = ((L2 % 16) / 2) % 2 then 0 else 1)) + (if ((L % 16) / 4) % 2 = ((L2 % 16) / 4) % 2 then 0 else 1))), (0, .ref a), (1, .ref x), (2, .ref y)]) rfl ?_
  refine j_iload hC dX4_far_14 0 rfl ?_
  refine j_bipush hC dX4_far_16 (by decide) ?_
  refine j_icmp_ge (tgt := 53) hC dX4_far_18 (by decide) (by omega) (fun h => absurd h (by omega)) (fun _ => ?_)
  refine j_aload_n hC dX4_far_21 3 rfl ?_
  refine j_iconst hC dX4_far_22 ?_
  refine r_num0 hC hx dX4_far_23 ?_
  refine j_iload hC dX4_far_24 0 rfl ?_
  refine j_idiv hC dX4_far_26 (by omega) ?_
  refine j_iconst hC dX4_far_27 ?_
  refine j_irem hC dX4_far_28 (by omega) ?_
  refine j_aload_n hC dX4_far_29 4 rfl ?_
  refine j_iconst hC dX4_far_30 ?_
  refine r_num0 hC hy dX4_far_31 ?_
  refine j_iload hC dX4_far_32 0 rfl ?_
  refine j_idiv hC dX4_far_34 (by omega) ?_
  refine j_iconst hC dX4_far_35 ?_
  refine j_irem hC dX4_far_36 (by omega) ?_
  suffices K43 : J mc (gx g X) 0 0 (QN mc (gx g X) (pt (some (vI (dst (σ.2 0) L L2))) σ) 0 0) 43 [(3, vI (((((stp (σ.2 0) (L / 256) (L2 / 256)) + (if ((L % 16) / 1) % 2 = ((L2 % 16) / 1) % 2 then 0 else 1)) + (if ((L % 16) / 2) % 2 = ((L2 % 16) / 2) % 2 then 0 else 1)) + (if ((L % 16) / 4) % 2 = ((L2 % 16) / 4) % 2 then 0 else 1)) + (if ((L % 16) / 8) % 2 = ((L2 % 16) / 8) % 2 then 0 else 1))), (4, vI (8)), (0, .ref a), (1, .ref x), (2, .ref y)] [] σ by
    refine j_icmp_eq (tgt := 43) hC dX4_far_37 (by decide) (by omega) (fun h37 => ?_) (fun h37 => ?_)
    · refine j_sub [1, 0, 2, 3, 4] rfl ?_
      exact (by first | (rw [show ((if ((L % 16) / 8) % 2 = ((L2 % 16) / 8) % 2 then 0 else 1) : Int) = 0 from if_pos (by omega), Int.add_zero] at K43; exact K43) | (rw [show ((if ((L % 16) / 8) % 2 = ((L2 % 16) / 8) % 2 then 0 else 1) : Int) = 0 from if_pos (by omega), Int.add_zero] at K43 ⊢; exact K43) | (rw [show ((if ((L % 16) / 8) % 2 = ((L2 % 16) / 8) % 2 then 0 else 1) : Int) = 1 from if_neg (by omega)] at K43; exact K43) | (rw [show ((if ((L % 16) / 8) % 2 = ((L2 % 16) / 8) % 2 then 0 else 1) : Int) = 1 from if_neg (by omega)] at K43 ⊢; exact K43))
    · refine j_iinc hC dX4_far_40 1 [(3, vI (((((stp (σ.2 0) (L / 256) (L2 / 256)) + (if ((L % 16) / 1) % 2 = ((L2 % 16) / 1) % 2 then 0 else 1)) + (if ((L % 16) / 2) % 2 = ((L2 % 16) / 2) % 2 then 0 else 1)) + (if ((L % 16) / 4) % 2 = ((L2 % 16) / 4) % 2 then 0 else 1)) + 1)), (4, vI (8)), (0, .ref a), (1, .ref x), (2, .ref y)] rfl (by decide) rfl ?_
      exact (by first | (rw [show ((if ((L % 16) / 8) % 2 = ((L2 % 16) / 8) % 2 then 0 else 1) : Int) = 0 from if_pos (by omega), Int.add_zero] at K43; exact K43) | (rw [show ((if ((L % 16) / 8) % 2 = ((L2 % 16) / 8) % 2 then 0 else 1) : Int) = 0 from if_pos (by omega), Int.add_zero] at K43 ⊢; exact K43) | (rw [show ((if ((L % 16) / 8) % 2 = ((L2 % 16) / 8) % 2 then 0 else 1) : Int) = 1 from if_neg (by omega)] at K43; exact K43) | (rw [show ((if ((L % 16) / 8) % 2 = ((L2 % 16) / 8) % 2 then 0 else 1) : Int) = 1 from if_neg (by omega)] at K43 ⊢; exact K43))
  refine j_iload hC dX4_far_43 1 rfl ?_
  refine j_iload hC dX4_far_45 1 rfl ?_
  refine j_iadd hC dX4_far_47 ?_
  refine j_istore hC dX4_far_48 [(4, vI (8 + 8)), (3, vI (((((stp (σ.2 0) (L / 256) (L2 / 256)) + (if ((L % 16) / 1) % 2 = ((L2 % 16) / 1) % 2 then 0 else 1)) + (if ((L % 16) / 2) % 2 = ((L2 % 16) / 2) % 2 then 0 else 1)) + (if ((L % 16) / 4) % 2 = ((L2 % 16) / 4) % 2 then 0 else 1)) + (if ((L % 16) / 8) % 2 = ((L2 % 16) / 8) % 2 then 0 else 1))), (0, .ref a), (1, .ref x), (2, .ref y)] (by decide) rfl ?_
  refine j_goto (tgt := 14) hC dX4_far_50 (by decide) ?_
  refine j_lv (lv2 := [(4, vI (16)), (3, vI (((((stp (σ.2 0) (L / 256) (L2 / 256)) + (if ((L % 16) / 1) % 2 = ((L2 % 16) / 1) % 2 then 0 else 1)) + (if ((L % 16) / 2) % 2 = ((L2 % 16) / 2) % 2 then 0 else 1)) + (if ((L % 16) / 4) % 2 = ((L2 % 16) / 4) % 2 then 0 else 1)) + (if ((L % 16) / 8) % 2 = ((L2 % 16) / 8) % 2 then 0 else 1))), (0, .ref a), (1, .ref x), (2, .ref y)]) rfl ?_
  refine j_iload hC dX4_far_14 0 rfl ?_
  refine j_bipush hC dX4_far_16 (by decide) ?_
  refine j_icmp_ge (tgt := 53) hC dX4_far_18 (by decide) (by omega) (fun _ => ?_) (fun h => absurd h (by omega))
  refine j_aload_n hC dX4_far_53 3 rfl ?_
  refine j_iconst hC dX4_far_54 ?_
  refine r_num1 hC hx dX4_far_55 ?_
  refine j_aload_n hC dX4_far_56 4 rfl ?_
  refine j_iconst hC dX4_far_57 ?_
  refine r_num1 hC hy dX4_far_58 ?_
  suffices K65 : J mc (gx g X) 0 0 (QN mc (gx g X) (pt (some (vI (dst (σ.2 0) L L2))) σ) 0 0) 65 [(3, vI ((((((stp (σ.2 0) (L / 256) (L2 / 256)) + (if ((L % 16) / 1) % 2 = ((L2 % 16) / 1) % 2 then 0 else 1)) + (if ((L % 16) / 2) % 2 = ((L2 % 16) / 2) % 2 then 0 else 1)) + (if ((L % 16) / 4) % 2 = ((L2 % 16) / 4) % 2 then 0 else 1)) + (if ((L % 16) / 8) % 2 = ((L2 % 16) / 8) % 2 then 0 else 1)) + (if L / 16 % 4 = L2 / 16 % 4 then 0 else 1))), (0, .ref a), (1, .ref x), (2, .ref y)] [] σ by
    refine j_icmp_eq (tgt := 65) hC dX4_far_59 (by decide) (by omega) (fun h59 => ?_) (fun h59 => ?_)
    · refine j_sub [1, 2, 3, 4] rfl ?_
      exact (by first | (rw [show ((if L / 16 % 4 = L2 / 16 % 4 then 0 else 1) : Int) = 0 from if_pos (by omega), Int.add_zero] at K65; exact K65) | (rw [show ((if L / 16 % 4 = L2 / 16 % 4 then 0 else 1) : Int) = 0 from if_pos (by omega), Int.add_zero] at K65 ⊢; exact K65) | (rw [show ((if L / 16 % 4 = L2 / 16 % 4 then 0 else 1) : Int) = 1 from if_neg (by omega)] at K65; exact K65) | (rw [show ((if L / 16 % 4 = L2 / 16 % 4 then 0 else 1) : Int) = 1 from if_neg (by omega)] at K65 ⊢; exact K65))
    · refine j_iinc hC dX4_far_62 1 [(3, vI ((((((stp (σ.2 0) (L / 256) (L2 / 256)) + (if ((L % 16) / 1) % 2 = ((L2 % 16) / 1) % 2 then 0 else 1)) + (if ((L % 16) / 2) % 2 = ((L2 % 16) / 2) % 2 then 0 else 1)) + (if ((L % 16) / 4) % 2 = ((L2 % 16) / 4) % 2 then 0 else 1)) + (if ((L % 16) / 8) % 2 = ((L2 % 16) / 8) % 2 then 0 else 1)) + 1)), (4, vI (16)), (0, .ref a), (1, .ref x), (2, .ref y)] rfl (by decide) rfl ?_
      refine j_sub [0, 2, 3, 4] rfl ?_
      exact (by first | (rw [show ((if L / 16 % 4 = L2 / 16 % 4 then 0 else 1) : Int) = 0 from if_pos (by omega), Int.add_zero] at K65; exact K65) | (rw [show ((if L / 16 % 4 = L2 / 16 % 4 then 0 else 1) : Int) = 0 from if_pos (by omega), Int.add_zero] at K65 ⊢; exact K65) | (rw [show ((if L / 16 % 4 = L2 / 16 % 4 then 0 else 1) : Int) = 1 from if_neg (by omega)] at K65; exact K65) | (rw [show ((if L / 16 % 4 = L2 / 16 % 4 then 0 else 1) : Int) = 1 from if_neg (by omega)] at K65 ⊢; exact K65))
  refine j_aload_n hC dX4_far_65 2 rfl ?_
  refine j_iconst hC dX4_far_66 ?_
  refine r_num3 hC hx dX4_far_67 ?_
  refine j_aload_n hC dX4_far_68 3 rfl ?_
  refine j_iconst hC dX4_far_69 ?_
  refine r_num3 hC hy dX4_far_70 ?_
  suffices K77 : J mc (gx g X) 0 0 (QN mc (gx g X) (pt (some (vI (dst (σ.2 0) L L2))) σ) 0 0) 77 [(3, vI (((((((stp (σ.2 0) (L / 256) (L2 / 256)) + (if ((L % 16) / 1) % 2 = ((L2 % 16) / 1) % 2 then 0 else 1)) + (if ((L % 16) / 2) % 2 = ((L2 % 16) / 2) % 2 then 0 else 1)) + (if ((L % 16) / 4) % 2 = ((L2 % 16) / 4) % 2 then 0 else 1)) + (if ((L % 16) / 8) % 2 = ((L2 % 16) / 8) % 2 then 0 else 1)) + (if L / 16 % 4 = L2 / 16 % 4 then 0 else 1)) + (if L / 64 % 4 = L2 / 64 % 4 then 0 else 2))), (0, .ref a), (1, .ref x), (2, .ref y)] [] σ by
    refine j_icmp_eq (tgt := 77) hC dX4_far_71 (by decide) (by omega) (fun h71 => ?_) (fun h71 => ?_)
    · exact (by first | (rw [show ((if L / 64 % 4 = L2 / 64 % 4 then 0 else 2) : Int) = 0 from if_pos (by omega), Int.add_zero] at K77; exact K77) | (rw [show ((if L / 64 % 4 = L2 / 64 % 4 then 0 else 2) : Int) = 0 from if_pos (by omega), Int.add_zero] at K77 ⊢; exact K77) | (rw [show ((if L / 64 % 4 = L2 / 64 % 4 then 0 else 2) : Int) = 2 from if_neg (by omega)] at K77; exact K77) | (rw [show ((if L / 64 % 4 = L2 / 64 % 4 then 0 else 2) : Int) = 2 from if_neg (by omega)] at K77 ⊢; exact K77))
    · refine j_iinc hC dX4_far_74 0 [(3, vI (((((((stp (σ.2 0) (L / 256) (L2 / 256)) + (if ((L % 16) / 1) % 2 = ((L2 % 16) / 1) % 2 then 0 else 1)) + (if ((L % 16) / 2) % 2 = ((L2 % 16) / 2) % 2 then 0 else 1)) + (if ((L % 16) / 4) % 2 = ((L2 % 16) / 4) % 2 then 0 else 1)) + (if ((L % 16) / 8) % 2 = ((L2 % 16) / 8) % 2 then 0 else 1)) + (if L / 16 % 4 = L2 / 16 % 4 then 0 else 1)) + 2)), (0, .ref a), (1, .ref x), (2, .ref y)] rfl (by decide) rfl ?_
      exact (by first | (rw [show ((if L / 64 % 4 = L2 / 64 % 4 then 0 else 2) : Int) = 0 from if_pos (by omega), Int.add_zero] at K77; exact K77) | (rw [show ((if L / 64 % 4 = L2 / 64 % 4 then 0 else 2) : Int) = 0 from if_pos (by omega), Int.add_zero] at K77 ⊢; exact K77) | (rw [show ((if L / 64 % 4 = L2 / 64 % 4 then 0 else 2) : Int) = 2 from if_neg (by omega)] at K77; exact K77) | (rw [show ((if L / 64 % 4 = L2 / 64 % 4 then 0 else 2) : Int) = 2 from if_neg (by omega)] at K77 ⊢; exact K77))
  refine j_iload_n hC dX4_far_77 0 rfl ?_
  exact j_iret hC dX4_far_78 ⟨congrArg (fun z => some (vI z)) (by unfold dst; rw [fgS_is (by omega) (by omega)]; unfold fgS; ac_rfl), rfl⟩
set_option maxHeartbeats 4000000 in
set_option maxRecDepth 100000 in
theorem lp_X4_signFor {mc : MC} {g : GG} {X : va_W} {σ : Sg} {a : Nat} {r : RR} (hr : Rp g X a σ r) (hI : IC σ) (hC : Cx mc (gx g X) cX4_signFor RX4 4 (some .int)) (hR : mR mc = rmJ 0 0 0 0) (l : Int) (hl : 0 ≤ l ∧ l < σ.1 0) (x : Int) (hx : 0 ≤ x ∧ x < 30) : ∀ (d : Nat) (d_z : Int), (0 ≤ d_z) → (d_z + (d : Int) = σ.1 (2 + l.toNat)) → J mc (gx g X) 0 0 (QN mc (gx g X) (pt (some (vI (fnd (mnB σ l.toNat) x d d_z))) σ) 0 0) 2 [(3, vI (d_z)), (0, .ref a), (1, vI (l)), (2, vI (x))] [] σ := by
  intro d
  induction d with
  | zero =>
    intro d_z h0 hz
    have hkn := IC_k hI hl
    have hc0 := IC_n hI
    refine j_iload_n hC dX4_signFor_2 0 rfl ?_
    refine j_aload_n hC dX4_signFor_3 1 rfl ?_
    refine r_books hC hr wd530 dX4_signFor_4 ?_
    refine j_iload_n hC dX4_signFor_7 2 rfl ?_
    refine r_lodge hC hr hI (by omega) dX4_signFor_8 ?_
    refine r_llen hC hr hI (by omega) dX4_signFor_9 ?_
    refine j_icmp_ge (tgt := 35) hC dX4_signFor_10 (by decide) (by omega) (fun _ => ?_) (fun h => absurd h (by omega))
    refine j_iconst hC dX4_signFor_35 ?_
    exact j_iret hC dX4_signFor_36 ⟨rfl, rfl⟩
  | succ d ih =>
    intro d_z h0 hz
    have hkn := IC_k hI hl
    have hc0 := IC_n hI
    have hs := IC_s hI hl (z := d_z) (by omega)
    rw [show fnd (mnB σ l.toNat) x (d + 1) d_z = if mnB σ l.toNat d_z = x then d_z else fnd (mnB σ l.toNat) x d (d_z + 1) from rfl]
    refine j_iload_n hC dX4_signFor_2 0 rfl ?_
    refine j_aload_n hC dX4_signFor_3 1 rfl ?_
    refine r_books hC hr wd530 dX4_signFor_4 ?_
    refine j_iload_n hC dX4_signFor_7 2 rfl ?_
    refine r_lodge hC hr hI (by omega) dX4_signFor_8 ?_
    refine r_llen hC hr hI (by omega) dX4_signFor_9 ?_
    refine j_icmp_ge (tgt := 35) hC dX4_signFor_10 (by decide) (by omega) (fun h => absurd h (by omega)) (fun _ => ?_)
    refine j_aload_n hC dX4_signFor_13 1 rfl ?_
    refine r_books hC hr wd530 dX4_signFor_14 ?_
    refine j_iload_n hC dX4_signFor_17 2 rfl ?_
    refine r_lodge hC hr hI (by omega) dX4_signFor_18 ?_
    refine j_iload_n hC dX4_signFor_19 0 rfl ?_
    refine r_sign hC hr hI (by omega) (by omega) dX4_signFor_20 ?_
    refine j_iconst hC dX4_signFor_21 ?_
    refine r_num4 hC (Rp.sn hr hI (l := l) (z := d_z) (by omega) (by omega)) dX4_signFor_22 ?_
    refine j_iload_n hC dX4_signFor_23 3 rfl ?_
    refine j_icmp_ne (tgt := 29) hC dX4_signFor_24 (by decide) (by omega) (fun h24 => ?_) (fun h24 => ?_)
    · refine j_iinc hC dX4_signFor_29 0 [(3, vI (d_z + 1)), (0, .ref a), (1, vI (l)), (2, vI (x))] rfl (by decide) rfl ?_
      refine j_goto (tgt := 2) hC dX4_signFor_32 (by decide) ?_
      rw [if_neg h24]
      exact ih (d_z + 1) (by omega) (by omega)
    · refine j_iload_n hC dX4_signFor_27 0 rfl ?_
      exact j_iret hC dX4_signFor_28 ⟨by rw [if_pos h24], rfl⟩
set_option maxHeartbeats 4000000 in
set_option maxRecDepth 100000 in
theorem c_X4_signFor {ll : Launch} (hll : ll.stackTraces = false) (g : GG) (X : va_W) (σ : Sg) {a : Nat} {r : RR} (hr : Rp g X a σ r) (hI : IC σ) (l : Int) (hl : 0 ≤ l ∧ l < σ.1 0) (x : Int) (hx : 0 ≤ x ∧ x < 30) : CN ll yX4_signFor cX4_signFor 4 (some .int) 0 0 0 0 (gx g X) [.ref a, vI (l), vI (x)] σ (pt (some (vI (findB σ l.toNat x))) σ) := by
  refine CN_of (own := RX4) hll (by decide) rfl (Nat.le_of_ble_eq_true rfl) (fun mc hC _ hR => ?_)
  refine j_lv (lv2 := [(0, .ref a), (1, vI (l)), (2, vI (x))]) rfl ?_
  have hkn := IC_k hI hl
  have hc0 := IC_n hI
  refine j_iconst hC dX4_signFor_0 ?_
  refine j_istore_n hC dX4_signFor_1 [(3, vI (0)), (0, .ref a), (1, vI (l)), (2, vI (x))] (by decide) rfl ?_
  exact lp_X4_signFor hr hI hC hR l hl x hx (cN σ l.toNat) 0 (by omega) (by omega)
set_option maxHeartbeats 4000000 in
set_option maxRecDepth 100000 in
theorem lp_X4_groups_i {mc : MC} {g : GG} {X : va_W} {σ : Sg} {Q : State → Prop} {a : Nat} {r : RR} (hr : Rp g X a σ r) (hI : IC σ) (hC : Cx mc (gx g X) cX4_groups RX4 5 (some .int)) (hR : mR mc = rmJ 0 0 0 0) (p s : Int) (hp : 0 ≤ p ∧ p < 9) : ∀ (d : Nat) (q : Int) (b : Int), (0 ≤ q) → (q + (d : Int) = p) → (b = 0 ∨ b = 1) → (J mc (gx g X) 0 0 Q 49 [(3, vI (grI (σ.2 0) p d q b)), (1, vI (s)), (2, vI (p)), (0, .ref a)] [] σ) → J mc (gx g X) 0 0 Q 15 [(4, vI (q)), (3, vI (b)), (1, vI (s)), (2, vI (p)), (0, .ref a)] [] σ := by
  intro d
  induction d with
  | zero =>
    intro q b h0 hz hb kx
    refine j_iload hC dX4_groups_15 0 rfl ?_
    refine j_iload_n hC dX4_groups_17 3 rfl ?_
    refine j_icmp_ge (tgt := 49) hC dX4_groups_18 (by decide) (by omega) (fun _ => ?_) (fun h => absurd h (by omega))
    refine j_sub [1, 2, 3, 4] rfl ?_
    exact kx
  | succ d ih =>
    intro q b h0 hz hb kx
    rw [show grI (σ.2 0) p (d + 1) q b = grI (σ.2 0) p d (q + 1) (if b = 1 ∧ ¬ σ.2 0 p = σ.2 0 q then 1 else 0) from rfl] at kx
    refine j_iload hC dX4_groups_15 0 rfl ?_
    refine j_iload_n hC dX4_groups_17 3 rfl ?_
    refine j_icmp_ge (tgt := 49) hC dX4_groups_18 (by decide) (by omega) (fun h => absurd h (by omega)) (fun _ => ?_)
    refine j_iload_n hC dX4_groups_21 1 rfl ?_
    suffices K42 : J mc (gx g X) 0 0 Q 42 [(4, vI (q)), (3, vI (b)), (1, vI (s)), (2, vI (p)), (0, .ref a)] [vI ((if b = 1 ∧ ¬ σ.2 0 p = σ.2 0 q then 1 else 0))] σ by
      refine j_if_eq (tgt := 41) hC dX4_groups_22 (by decide) (by omega) (fun h22 => ?_) (fun h22 => ?_)
      · refine j_iconst hC dX4_groups_41 ?_
        exact (by first | (rw [show ((if b = 1 ∧ ¬ σ.2 0 p = σ.2 0 q then 1 else 0) : Int) = 1 from if_pos (by omega)] at K42; exact K42) | (rw [show ((if b = 1 ∧ ¬ σ.2 0 p = σ.2 0 q then 1 else 0) : Int) = 1 from if_pos (by omega)] at K42 ⊢; exact K42) | (rw [show ((if b = 1 ∧ ¬ σ.2 0 p = σ.2 0 q then 1 else 0) : Int) = 0 from if_neg (by omega)] at K42; exact K42) | (rw [show ((if b = 1 ∧ ¬ σ.2 0 p = σ.2 0 q then 1 else 0) : Int) = 0 from if_neg (by omega)] at K42 ⊢; exact K42))
      · refine j_aload_n hC dX4_groups_25 4 rfl ?_
        refine r_joined hC hr wd532 dX4_groups_26 ?_
        refine j_iload_n hC dX4_groups_29 3 rfl ?_
        refine r_row hC hr (by omega) dX4_groups_30 ?_
        refine j_iload hC dX4_groups_31 0 rfl ?_
        refine r_bit hC hr (by omega) (by omega) dX4_groups_33 ?_
        refine j_ifb_ne (tgt := 41) hC dX4_groups_34 (by decide) (fun h34 => ?_) (fun h34 => ?_)
        · refine j_iconst hC dX4_groups_41 ?_
          exact (by first | (rw [show ((if b = 1 ∧ ¬ σ.2 0 p = σ.2 0 q then 1 else 0) : Int) = 1 from if_pos (by omega)] at K42; exact K42) | (rw [show ((if b = 1 ∧ ¬ σ.2 0 p = σ.2 0 q then 1 else 0) : Int) = 1 from if_pos (by omega)] at K42 ⊢; exact K42) | (rw [show ((if b = 1 ∧ ¬ σ.2 0 p = σ.2 0 q then 1 else 0) : Int) = 0 from if_neg (by omega)] at K42; exact K42) | (rw [show ((if b = 1 ∧ ¬ σ.2 0 p = σ.2 0 q then 1 else 0) : Int) = 0 from if_neg (by omega)] at K42 ⊢; exact K42))
        · refine j_iconst hC dX4_groups_37 ?_
          refine j_goto (tgt := 42) hC dX4_groups_38 (by decide) ?_
          exact (by first | (rw [show ((if b = 1 ∧ ¬ σ.2 0 p = σ.2 0 q then 1 else 0) : Int) = 1 from if_pos (by omega)] at K42; exact K42) | (rw [show ((if b = 1 ∧ ¬ σ.2 0 p = σ.2 0 q then 1 else 0) : Int) = 1 from if_pos (by omega)] at K42 ⊢; exact K42) | (rw [show ((if b = 1 ∧ ¬ σ.2 0 p = σ.2 0 q then 1 else 0) : Int) = 0 from if_neg (by omega)] at K42; exact K42) | (rw [show ((if b = 1 ∧ ¬ σ.2 0 p = σ.2 0 q then 1 else 0) : Int) = 0 from if_neg (by omega)] at K42 ⊢; exact K42))
    refine j_istore_n hC dX4_groups_42 [(3, vI ((if b = 1 ∧ ¬ σ.2 0 p = σ.2 0 q then 1 else 0))), (4, vI (q)), (1, vI (s)), (2, vI (p)), (0, .ref a)] (by decide) rfl ?_
    refine j_iinc hC dX4_groups_43 1 [(4, vI (q + 1)), (3, vI ((if b = 1 ∧ ¬ σ.2 0 p = σ.2 0 q then 1 else 0))), (1, vI (s)), (2, vI (p)), (0, .ref a)] rfl (by decide) rfl ?_
    refine j_goto (tgt := 15) hC dX4_groups_46 (by decide) ?_
    exact ih (q + 1) _ (by omega) (by omega) (by split; exact Or.inr rfl; exact Or.inl rfl) kx
set_option maxHeartbeats 4000000 in
set_option maxRecDepth 100000 in
theorem lp_X4_groups_o {mc : MC} {g : GG} {X : va_W} {σ : Sg} {a : Nat} {r : RR} (hr : Rp g X a σ r) (hI : IC σ) (hC : Cx mc (gx g X) cX4_groups RX4 5 (some .int)) (hR : mR mc = rmJ 0 0 0 0)  : ∀ (d : Nat) (p : Int) (s : Int), (0 ≤ p) → (p + (d : Int) = 9) → (0 ≤ s ∧ s ≤ p) → J mc (gx g X) 0 0 (QN mc (gx g X) (pt (some (vI (grO (σ.2 0) d p s))) σ) 0 0) 4 [(1, vI (s)), (2, vI (p)), (0, .ref a)] [] σ := by
  intro d
  induction d with
  | zero =>
    intro p s h0 hz hs
    refine j_iload_n hC dX4_groups_4 1 rfl ?_
    refine j_bipush hC dX4_groups_5 (by decide) ?_
    refine j_icmp_ge (tgt := 67) hC dX4_groups_7 (by decide) (by omega) (fun _ => ?_) (fun h => absurd h (by omega))
    refine j_iload_n hC dX4_groups_67 0 rfl ?_
    exact j_iret hC dX4_groups_68 ⟨rfl, rfl⟩
  | succ d ih =>
    intro p s h0 hz hs
    rw [show grO (σ.2 0) (d + 1) p s = grO (σ.2 0) d (p + 1) (s + (if grI (σ.2 0) p p.toNat 0 1 = 1 then 1 else 0)) from rfl]
    have hg := grI_01 (σ.2 0) p p.toNat 0 1 (Or.inr rfl)
    refine j_iload_n hC dX4_groups_4 1 rfl ?_
    refine j_bipush hC dX4_groups_5 (by decide) ?_
    refine j_icmp_ge (tgt := 67) hC dX4_groups_7 (by decide) (by omega) (fun h => absurd h (by omega)) (fun _ => ?_)
    refine j_iconst hC dX4_groups_10 ?_
    refine j_istore_n hC dX4_groups_11 [(3, vI (1)), (1, vI (s)), (2, vI (p)), (0, .ref a)] (by decide) rfl ?_
    refine j_iconst hC dX4_groups_12 ?_
    refine j_istore hC dX4_groups_13 [(4, vI (0)), (3, vI (1)), (1, vI (s)), (2, vI (p)), (0, .ref a)] (by decide) rfl ?_
    refine lp_X4_groups_i hr hI hC hR p s (by omega) p.toNat 0 1 (by omega) (by omega) (Or.inr rfl) ?_
    refine j_iload_n hC dX4_groups_49 1 rfl ?_
    refine j_iload_n hC dX4_groups_50 0 rfl ?_
    suffices K59 : J mc (gx g X) 0 0 (QN mc (gx g X) (pt (some (vI (grO (σ.2 0) d (p + 1) (s + (if grI (σ.2 0) p p.toNat 0 1 = 1 then 1 else 0))))) σ) 0 0) 59 [(1, vI (s)), (2, vI (p)), (0, .ref a)] [vI ((if grI (σ.2 0) p p.toNat 0 1 = 1 then 1 else 0)), vI (s)] σ by
      refine j_if_eq (tgt := 58) hC dX4_groups_51 (by decide) (by omega) (fun h51 => ?_) (fun h51 => ?_)
      · refine j_iconst hC dX4_groups_58 ?_
        refine j_sub [1, 2, 3] rfl ?_
        exact (by first | (rw [show ((if grI (σ.2 0) p p.toNat 0 1 = 1 then 1 else 0) : Int) = 1 from if_pos (by omega)] at K59; exact K59) | (rw [show ((if grI (σ.2 0) p p.toNat 0 1 = 1 then 1 else 0) : Int) = 1 from if_pos (by omega)] at K59 ⊢; exact K59) | (rw [show ((if grI (σ.2 0) p p.toNat 0 1 = 1 then 1 else 0) : Int) = 0 from if_neg (by omega)] at K59; exact K59) | (rw [show ((if grI (σ.2 0) p p.toNat 0 1 = 1 then 1 else 0) : Int) = 0 from if_neg (by omega)] at K59 ⊢; exact K59))
      · refine j_iconst hC dX4_groups_54 ?_
        refine j_goto (tgt := 59) hC dX4_groups_55 (by decide) ?_
        refine j_sub [1, 2, 3] rfl ?_
        exact (by first | (rw [show ((if grI (σ.2 0) p p.toNat 0 1 = 1 then 1 else 0) : Int) = 1 from if_pos (by omega)] at K59; exact K59) | (rw [show ((if grI (σ.2 0) p p.toNat 0 1 = 1 then 1 else 0) : Int) = 1 from if_pos (by omega)] at K59 ⊢; exact K59) | (rw [show ((if grI (σ.2 0) p p.toNat 0 1 = 1 then 1 else 0) : Int) = 0 from if_neg (by omega)] at K59; exact K59) | (rw [show ((if grI (σ.2 0) p p.toNat 0 1 = 1 then 1 else 0) : Int) = 0 from if_neg (by omega)] at K59 ⊢; exact K59))
    refine j_iadd hC dX4_groups_59 ?_
    refine j_istore_n hC dX4_groups_60 [(1, vI (s + (if grI (σ.2 0) p p.toNat 0 1 = 1 then 1 else 0))), (2, vI (p)), (0, .ref a)] (by decide) rfl ?_
    refine j_iinc hC dX4_groups_61 1 [(2, vI (p + 1)), (1, vI (s + (if grI (σ.2 0) p p.toNat 0 1 = 1 then 1 else 0))), (0, .ref a)] rfl (by decide) rfl ?_
    refine j_goto (tgt := 4) hC dX4_groups_64 (by decide) ?_
    refine j_sub [1, 0, 2] rfl ?_
    exact ih (p + 1) _ (by omega) (by omega) (by split <;> omega)
set_option maxHeartbeats 4000000 in
set_option maxRecDepth 100000 in
theorem c_X4_groups {ll : Launch} (hll : ll.stackTraces = false) (g : GG) (X : va_W) (σ : Sg) {a : Nat} {r : RR} (hr : Rp g X a σ r) (hI : IC σ) : CN ll yX4_groups cX4_groups 5 (some .int) 0 0 0 0 (gx g X) [.ref a] σ (pt (some (vI (gcF (σ.2 0)))) σ) := by
  refine CN_of (own := RX4) hll (by decide) rfl (Nat.le_of_ble_eq_true rfl) (fun mc hC _ hR => ?_)
  refine j_lv (lv2 := [(0, .ref a)]) rfl ?_
  refine j_iconst hC dX4_groups_0 ?_
  refine j_istore_n hC dX4_groups_1 [(1, vI (0)), (0, .ref a)] (by decide) rfl ?_
  refine j_iconst hC dX4_groups_2 ?_
  refine j_istore_n hC dX4_groups_3 [(2, vI (0)), (1, vI (0)), (0, .ref a)] (by decide) rfl ?_
  refine j_sub [1, 0, 2] rfl ?_
  exact lp_X4_groups_o hr hI hC hR 9 0 0 (by omega) (by omega) (by omega)
set_option maxHeartbeats 4000000 in
set_option maxRecDepth 100000 in
theorem lp_X4_read {mc : MC} {g : GG} {X : va_W} {σ : Sg} {a : Nat} {r : RR} (hr : Rp g X a σ r) (hI : IC σ) (hC : Cx mc (gx g X) cX4_read RX4 11 (some .int)) (hR : mR mc = rmJ 3 66 0 0) (l : Int) (hl : 0 ≤ l ∧ l < σ.1 0) {x : Nat} {L m : Int} (hx : Sn g X x L m) (hL : 0 ≤ L ∧ L < 2304) : ∀ (d : Nat) (z : Int) (ls : Int) (my : Int) (its : Int), (0 ≤ z) → (z + (d : Int) = σ.1 (2 + l.toNat)) → (0 ≤ ls ∧ ls ≤ 99 ∧ 0 ≤ my ∧ my ≤ z ∧ -1 ≤ its ∧ its < 30) → J mc (gx g X) 0 0 (QN mc (gx g X) (pt (some (vI (rdS (fun z => dst (σ.2 0) L (lkB σ l.toNat z)) (mnB σ l.toNat) d z ls my its))) σ) 0 0) 25 [(8, vI (z)), (3, vI (ls)), (4, vI (my)), (5, vI (its)), (0, .ref a), (1, .ref x), (2, vI (l)), (6, .ref (rL r l.toNat)), (7, vI (σ.1 (2 + l.toNat)))] [] σ := by
  intro d
  induction d with
  | zero =>
    intro z ls my its h0 hz hls
    have hkn := IC_k hI hl
    have hc0 := IC_n hI
    refine j_iload hC dX4_read_25 0 rfl ?_
    refine j_iload hC dX4_read_27 8 rfl ?_
    refine j_icmp_ge (tgt := 84) hC dX4_read_29 (by decide) (by omega) (fun _ => ?_) (fun h => absurd h (by omega))
    refine j_iload hC dX4_read_84 2 rfl ?_
    refine j_iconst hC dX4_read_86 ?_
    refine j_icmp_ne (tgt := 100) hC dX4_read_87 (by decide) (by omega) (fun h87 => ?_) (fun h87 => ?_)
    · refine j_iconst hC dX4_read_100 ?_
      exact j_iret hC dX4_read_101 ⟨by first | (show some (vI its) = some (vI (if my = 1 ∧ ls < 4 then its else -1)); rw [if_pos (by omega)]) | (show some (vI (-1)) = some (vI (if my = 1 ∧ ls < 4 then its else -1)); rw [if_neg (by omega)]), rfl⟩
    · refine j_iload_n hC dX4_read_90 1 rfl ?_
      refine j_iconst hC dX4_read_91 ?_
      refine j_icmp_ge (tgt := 100) hC dX4_read_92 (by decide) (by omega) (fun h92 => ?_) (fun h92 => ?_)
      · refine j_iconst hC dX4_read_100 ?_
        exact j_iret hC dX4_read_101 ⟨by first | (show some (vI its) = some (vI (if my = 1 ∧ ls < 4 then its else -1)); rw [if_pos (by omega)]) | (show some (vI (-1)) = some (vI (if my = 1 ∧ ls < 4 then its else -1)); rw [if_neg (by omega)]), rfl⟩
      · refine j_iload hC dX4_read_95 3 rfl ?_
        refine j_goto (tgt := 101) hC dX4_read_97 (by decide) ?_
        exact j_iret hC dX4_read_101 ⟨by first | (show some (vI its) = some (vI (if my = 1 ∧ ls < 4 then its else -1)); rw [if_pos (by omega)]) | (show some (vI (-1)) = some (vI (if my = 1 ∧ ls < 4 then its else -1)); rw [if_neg (by omega)]), rfl⟩
  | succ d ih =>
    intro z ls my its h0 hz hls
    have hkn := IC_k hI hl
    have hc0 := IC_n hI
    have hs := IC_s hI hl (z := z) (by omega)
    rw [show rdS (fun z => dst (σ.2 0) L (lkB σ l.toNat z)) (mnB σ l.toNat) (d + 1) z ls my its = if dst (σ.2 0) L (σ.2 (1 + l.toNat) z) < ls then rdS (fun z => dst (σ.2 0) L (lkB σ l.toNat z)) (mnB σ l.toNat) d (z + 1) (dst (σ.2 0) L (σ.2 (1 + l.toNat) z)) 1 (σ.2 (6 + l.toNat) z) else if dst (σ.2 0) L (σ.2 (1 + l.toNat) z) = ls then rdS (fun z => dst (σ.2 0) L (lkB σ l.toNat z)) (mnB σ l.toNat) d (z + 1) ls (my + 1) (σ.2 (6 + l.toNat) z) else rdS (fun z => dst (σ.2 0) L (lkB σ l.toNat z)) (mnB σ l.toNat) d (z + 1) ls my its from rfl]
    refine j_iload hC dX4_read_25 0 rfl ?_
    refine j_iload hC dX4_read_27 8 rfl ?_
    refine j_icmp_ge (tgt := 84) hC dX4_read_29 (by decide) (by omega) (fun h => absurd h (by omega)) (fun _ => ?_)
    refine j_aload hC dX4_read_32 7 rfl ?_
    refine j_iload hC dX4_read_34 0 rfl ?_
    refine r_sign hC hr hI (by omega) (by omega) dX4_read_36 ?_
    refine j_astore hC dX4_read_37 [(9, .ref (rS r l.toNat z.toNat)), (8, vI (z)), (3, vI (ls)), (4, vI (my)), (5, vI (its)), (0, .ref a), (1, .ref x), (2, vI (l)), (6, .ref (rL r l.toNat)), (7, vI (σ.1 (2 + l.toNat)))] (by decide) rfl ?_
    refine j_aload_n hC dX4_read_39 5 rfl ?_
    refine j_aload_n hC dX4_read_40 6 rfl ?_
    refine j_aload hC dX4_read_41 0 rfl ?_
    refine x_callV1 (ar := 2) hC hR (c_X4_far (hlJ hC) g X σ hr hI hx (Rp.sn hr hI (l := l) (z := z) (by omega) (by omega)) (by omega)) [] rfl hr.1 rfl rfl (by decide) (by decide +kernel) rfl wd348 wd349 wd350 wd4 wd351 (by first | decide | omega) (Nat.le_of_ble_eq_true rfl) dX4_read_43 ?_
    have hd43 := dst_rg (G := σ.2 0) (x := L) (y := σ.2 (1 + l.toNat) z) (by omega)
    refine j_istore hC dX4_read_46 [(10, vI (dst (σ.2 0) L (σ.2 (1 + l.toNat) z))), (9, .ref (rS r l.toNat z.toNat)), (8, vI (z)), (3, vI (ls)), (4, vI (my)), (5, vI (its)), (0, .ref a), (1, .ref x), (2, vI (l)), (6, .ref (rL r l.toNat)), (7, vI (σ.1 (2 + l.toNat)))] (by decide) rfl ?_
    refine j_iload hC dX4_read_48 0 rfl ?_
    refine j_iload_n hC dX4_read_50 3 rfl ?_
    refine j_icmp_ge (tgt := 60) hC dX4_read_51 (by decide) (by omega) (fun h51 => ?_) (fun h51 => ?_)
    · refine j_iload hC dX4_read_60 0 rfl ?_
      refine j_iload_n hC dX4_read_62 3 rfl ?_
      refine j_icmp_le (tgt := 69) hC dX4_read_63 (by decide) (by omega) (fun h63 => ?_) (fun h63 => ?_)
      · refine j_iinc hC dX4_read_69 4 [(4, vI (my + 1)), (10, vI (dst (σ.2 0) L (σ.2 (1 + l.toNat) z))), (9, .ref (rS r l.toNat z.toNat)), (8, vI (z)), (3, vI (ls)), (5, vI (its)), (0, .ref a), (1, .ref x), (2, vI (l)), (6, .ref (rL r l.toNat)), (7, vI (σ.1 (2 + l.toNat)))] rfl (by decide) rfl ?_
        refine j_aload hC dX4_read_72 2 rfl ?_
        refine j_iconst hC dX4_read_74 ?_
        refine r_num4 hC (Rp.sn hr hI (l := l) (z := z) (by omega) (by omega)) dX4_read_75 ?_
        refine j_istore hC dX4_read_76 [(5, vI (σ.2 (6 + l.toNat) z)), (4, vI (my + 1)), (10, vI (dst (σ.2 0) L (σ.2 (1 + l.toNat) z))), (9, .ref (rS r l.toNat z.toNat)), (8, vI (z)), (3, vI (ls)), (0, .ref a), (1, .ref x), (2, vI (l)), (6, .ref (rL r l.toNat)), (7, vI (σ.1 (2 + l.toNat)))] (by decide) rfl ?_
        refine j_iinc hC dX4_read_78 4 [(8, vI (z + 1)), (5, vI (σ.2 (6 + l.toNat) z)), (4, vI (my + 1)), (10, vI (dst (σ.2 0) L (σ.2 (1 + l.toNat) z))), (9, .ref (rS r l.toNat z.toNat)), (3, vI (ls)), (0, .ref a), (1, .ref x), (2, vI (l)), (6, .ref (rL r l.toNat)), (7, vI (σ.1 (2 + l.toNat)))] rfl (by decide) rfl ?_
        refine j_goto (tgt := 25) hC dX4_read_81 (by decide) ?_
        refine j_sub [0, 5, 2, 1, 6, 7, 8, 9, 10] rfl ?_
        first | (exfalso; omega) | (rw [if_pos h51]; exact ih (z + 1) _ _ _ (by omega) (by omega) (by omega)) | (rw [if_neg (show ¬ dst (σ.2 0) L (σ.2 (1 + l.toNat) z) < ls by omega), if_pos (by omega)]; exact ih (z + 1) _ _ _ (by omega) (by omega) (by omega)) | (rw [if_neg (show ¬ dst (σ.2 0) L (σ.2 (1 + l.toNat) z) < ls by omega), if_neg (by omega)]; exact ih (z + 1) _ _ _ (by omega) (by omega) (by omega))
      · refine j_goto (tgt := 78) hC dX4_read_66 (by decide) ?_
        refine j_iinc hC dX4_read_78 2 [(8, vI (z + 1)), (10, vI (dst (σ.2 0) L (σ.2 (1 + l.toNat) z))), (9, .ref (rS r l.toNat z.toNat)), (3, vI (ls)), (4, vI (my)), (5, vI (its)), (0, .ref a), (1, .ref x), (2, vI (l)), (6, .ref (rL r l.toNat)), (7, vI (σ.1 (2 + l.toNat)))] rfl (by decide) rfl ?_
        refine j_goto (tgt := 25) hC dX4_read_81 (by decide) ?_
        refine j_sub [0, 3, 4, 5, 6, 7, 8, 9, 10] rfl ?_
        first | (exfalso; omega) | (rw [if_pos h51]; exact ih (z + 1) _ _ _ (by omega) (by omega) (by omega)) | (rw [if_neg (show ¬ dst (σ.2 0) L (σ.2 (1 + l.toNat) z) < ls by omega), if_pos (by omega)]; exact ih (z + 1) _ _ _ (by omega) (by omega) (by omega)) | (rw [if_neg (show ¬ dst (σ.2 0) L (σ.2 (1 + l.toNat) z) < ls by omega), if_neg (by omega)]; exact ih (z + 1) _ _ _ (by omega) (by omega) (by omega))
    · refine j_iload hC dX4_read_54 0 rfl ?_
      refine j_istore_n hC dX4_read_56 [(3, vI (dst (σ.2 0) L (σ.2 (1 + l.toNat) z))), (10, vI (dst (σ.2 0) L (σ.2 (1 + l.toNat) z))), (9, .ref (rS r l.toNat z.toNat)), (8, vI (z)), (4, vI (my)), (5, vI (its)), (0, .ref a), (1, .ref x), (2, vI (l)), (6, .ref (rL r l.toNat)), (7, vI (σ.1 (2 + l.toNat)))] (by decide) rfl ?_
      refine j_iconst hC dX4_read_57 ?_
      refine j_istore hC dX4_read_58 [(4, vI (0)), (3, vI (dst (σ.2 0) L (σ.2 (1 + l.toNat) z))), (10, vI (dst (σ.2 0) L (σ.2 (1 + l.toNat) z))), (9, .ref (rS r l.toNat z.toNat)), (8, vI (z)), (5, vI (its)), (0, .ref a), (1, .ref x), (2, vI (l)), (6, .ref (rL r l.toNat)), (7, vI (σ.1 (2 + l.toNat)))] (by decide) rfl ?_
      refine j_iload hC dX4_read_60 2 rfl ?_
      refine j_iload_n hC dX4_read_62 1 rfl ?_
      refine j_icmp_le (tgt := 69) hC dX4_read_63 (by decide) (by omega) (fun h63 => ?_) (fun h63 => ?_)
      · refine j_iinc hC dX4_read_69 0 [(4, vI (0 + 1)), (3, vI (dst (σ.2 0) L (σ.2 (1 + l.toNat) z))), (10, vI (dst (σ.2 0) L (σ.2 (1 + l.toNat) z))), (9, .ref (rS r l.toNat z.toNat)), (8, vI (z)), (5, vI (its)), (0, .ref a), (1, .ref x), (2, vI (l)), (6, .ref (rL r l.toNat)), (7, vI (σ.1 (2 + l.toNat)))] rfl (by decide) rfl ?_
        refine j_aload hC dX4_read_72 3 rfl ?_
        refine j_iconst hC dX4_read_74 ?_
        refine r_num4 hC (Rp.sn hr hI (l := l) (z := z) (by omega) (by omega)) dX4_read_75 ?_
        refine j_istore hC dX4_read_76 [(5, vI (σ.2 (6 + l.toNat) z)), (4, vI (0 + 1)), (3, vI (dst (σ.2 0) L (σ.2 (1 + l.toNat) z))), (10, vI (dst (σ.2 0) L (σ.2 (1 + l.toNat) z))), (9, .ref (rS r l.toNat z.toNat)), (8, vI (z)), (0, .ref a), (1, .ref x), (2, vI (l)), (6, .ref (rL r l.toNat)), (7, vI (σ.1 (2 + l.toNat)))] (by decide) rfl ?_
        refine j_iinc hC dX4_read_78 5 [(8, vI (z + 1)), (5, vI (σ.2 (6 + l.toNat) z)), (4, vI (0 + 1)), (3, vI (dst (σ.2 0) L (σ.2 (1 + l.toNat) z))), (10, vI (dst (σ.2 0) L (σ.2 (1 + l.toNat) z))), (9, .ref (rS r l.toNat z.toNat)), (0, .ref a), (1, .ref x), (2, vI (l)), (6, .ref (rL r l.toNat)), (7, vI (σ.1 (2 + l.toNat)))] rfl (by decide) rfl ?_
        refine j_goto (tgt := 25) hC dX4_read_81 (by decide) ?_
        refine j_sub [0, 3, 2, 1, 6, 7, 8, 9, 10] rfl ?_
        first | (exfalso; omega) | (rw [if_pos h51]; exact ih (z + 1) _ _ _ (by omega) (by omega) (by omega)) | (rw [if_neg (show ¬ dst (σ.2 0) L (σ.2 (1 + l.toNat) z) < ls by omega), if_pos (by omega)]; exact ih (z + 1) _ _ _ (by omega) (by omega) (by omega)) | (rw [if_neg (show ¬ dst (σ.2 0) L (σ.2 (1 + l.toNat) z) < ls by omega), if_neg (by omega)]; exact ih (z + 1) _ _ _ (by omega) (by omega) (by omega))
      · refine j_goto (tgt := 78) hC dX4_read_66 (by decide) ?_
        refine j_iinc hC dX4_read_78 4 [(8, vI (z + 1)), (4, vI (0)), (3, vI (dst (σ.2 0) L (σ.2 (1 + l.toNat) z))), (10, vI (dst (σ.2 0) L (σ.2 (1 + l.toNat) z))), (9, .ref (rS r l.toNat z.toNat)), (5, vI (its)), (0, .ref a), (1, .ref x), (2, vI (l)), (6, .ref (rL r l.toNat)), (7, vI (σ.1 (2 + l.toNat)))] rfl (by decide) rfl ?_
        refine j_goto (tgt := 25) hC dX4_read_81 (by decide) ?_
        refine j_sub [0, 2, 1, 5, 6, 7, 8, 9, 10] rfl ?_
        first | (exfalso; omega) | (rw [if_pos h51]; exact ih (z + 1) _ _ _ (by omega) (by omega) (by omega)) | (rw [if_neg (show ¬ dst (σ.2 0) L (σ.2 (1 + l.toNat) z) < ls by omega), if_pos (by omega)]; exact ih (z + 1) _ _ _ (by omega) (by omega) (by omega)) | (rw [if_neg (show ¬ dst (σ.2 0) L (σ.2 (1 + l.toNat) z) < ls by omega), if_neg (by omega)]; exact ih (z + 1) _ _ _ (by omega) (by omega) (by omega))
set_option maxHeartbeats 4000000 in
set_option maxRecDepth 100000 in
theorem c_X4_read {ll : Launch} (hll : ll.stackTraces = false) (g : GG) (X : va_W) (σ : Sg) {a : Nat} {r : RR} (hr : Rp g X a σ r) (hI : IC σ) (l : Int) (hl : 0 ≤ l ∧ l < σ.1 0) {x : Nat} {L m : Int} (hx : Sn g X x L m) (hL : 0 ≤ L ∧ L < 2304) : CN ll yX4_read cX4_read 11 (some .int) 3 66 0 0 (gx g X) [.ref a, .ref x, vI (l)] σ (pt (some (vI (mrB σ l.toNat L))) σ) := by
  refine CN_of (own := RX4) hll (by decide) rfl (Nat.le_of_ble_eq_true rfl) (fun mc hC _ hR => ?_)
  refine j_lv (lv2 := [(0, .ref a), (1, .ref x), (2, vI (l))]) rfl ?_
  have hkn := IC_k hI hl
  have hc0 := IC_n hI
  refine j_bipush hC dX4_read_0 (by decide) ?_
  refine j_istore_n hC dX4_read_2 [(3, vI (99)), (0, .ref a), (1, .ref x), (2, vI (l))] (by decide) rfl ?_
  refine j_iconst hC dX4_read_3 ?_
  refine j_istore hC dX4_read_4 [(4, vI (0)), (3, vI (99)), (0, .ref a), (1, .ref x), (2, vI (l))] (by decide) rfl ?_
  refine j_iconst hC dX4_read_6 ?_
  refine j_istore hC dX4_read_7 [(5, vI (-1)), (4, vI (0)), (3, vI (99)), (0, .ref a), (1, .ref x), (2, vI (l))] (by decide) rfl ?_
  refine j_aload_n hC dX4_read_9 3 rfl ?_
  refine r_books hC hr wd530 dX4_read_10 ?_
  refine j_iload_n hC dX4_read_13 5 rfl ?_
  refine r_lodge hC hr hI (by omega) dX4_read_14 ?_
  refine j_astore hC dX4_read_15 [(6, .ref (rL r l.toNat)), (5, vI (-1)), (4, vI (0)), (3, vI (99)), (0, .ref a), (1, .ref x), (2, vI (l))] (by decide) rfl ?_
  refine j_aload hC dX4_read_17 0 rfl ?_
  refine r_llen hC hr hI (by omega) dX4_read_19 ?_
  refine j_istore hC dX4_read_20 [(7, vI (σ.1 (2 + l.toNat))), (6, .ref (rL r l.toNat)), (5, vI (-1)), (4, vI (0)), (3, vI (99)), (0, .ref a), (1, .ref x), (2, vI (l))] (by decide) rfl ?_
  refine j_iconst hC dX4_read_22 ?_
  refine j_istore hC dX4_read_23 [(8, vI (0)), (7, vI (σ.1 (2 + l.toNat))), (6, .ref (rL r l.toNat)), (5, vI (-1)), (4, vI (0)), (3, vI (99)), (0, .ref a), (1, .ref x), (2, vI (l))] (by decide) rfl ?_
  refine j_sub [0, 5, 4, 3, 6, 7, 8, 2, 1] rfl ?_
  rw [show mrB σ l.toNat L = rdS (fun z => dst (σ.2 0) L (lkB σ l.toNat z)) (mnB σ l.toNat) (cN σ l.toNat) 0 99 0 (-1) from (rdS_is _ _ _ _ _ _ _ _ _ (Or.inr (by decide)) (fun w => by omega) (fun _ => ⟨rfl, rfl⟩)).symm]
  exact lp_X4_read hr hI hC hR l hl hx hL (cN σ l.toNat) 0 99 0 (-1) (by omega) (by omega) (by omega)
set_option maxHeartbeats 4000000 in
set_option maxRecDepth 100000 in
theorem lp_X4_alike_i {mc : MC} {g : GG} {X : va_W} {σ : Sg} {Q : State → Prop} {a : Nat} {r : RR} (hr : Rp g X a σ r) (hI : IC σ) (hC : Cx mc (gx g X) cX4_alike RX4 5 (some .int)) (hR : mR mc = rmJ 3 66 0 0) (l : Int) (hl : 0 ≤ l ∧ l < σ.1 0) (j : Int) (hj : 0 ≤ j ∧ j < σ.1 (2 + l.toNat)) : ∀ (d : Nat) (w : Int) (a9 : Int), (0 ≤ w) → (w + (d : Int) = j) → (J mc (gx g X) 0 0 Q 62 [(2, vI (cnt ((fun j k => decide (dst (σ.2 0) (lkB σ l.toNat j) (lkB σ l.toNat k) = 0)) j) d w a9)), (3, vI (j)), (0, .ref a), (1, vI (l))] [] σ) → J mc (gx g X) 0 0 Q 18 [(4, vI (w)), (2, vI (a9)), (3, vI (j)), (0, .ref a), (1, vI (l))] [] σ := by
  intro d
  induction d with
  | zero =>
    intro w a9 h0 hw kx
    have hkn := IC_k hI hl
    have hc0 := IC_n hI
    refine j_iload hC dX4_alike_18 0 rfl ?_
    refine j_iload_n hC dX4_alike_20 2 rfl ?_
    refine j_icmp_ge (tgt := 62) hC dX4_alike_21 (by decide) (by omega) (fun _ => ?_) (fun h => absurd h (by omega))
    refine j_sub [1, 2, 3, 4] rfl ?_
    exact kx
  | succ d ih =>
    intro w a9 h0 hw kx
    have hkn := IC_k hI hl
    have hc0 := IC_n hI
    have hs := IC_s hI hl (z := j) (by omega)
    have hs2 := IC_s hI hl (z := w) (by omega)
    rw [show cnt ((fun j k => decide (dst (σ.2 0) (lkB σ l.toNat j) (lkB σ l.toNat k) = 0)) j) (d + 1) w a9 = cnt ((fun j k => decide (dst (σ.2 0) (lkB σ l.toNat j) (lkB σ l.toNat k) = 0)) j) d (w + 1) (if (fun j k => decide (dst (σ.2 0) (lkB σ l.toNat j) (lkB σ l.toNat k) = 0)) j w = true then a9 + 1 else a9) from rfl] at kx
    refine j_iload hC dX4_alike_18 0 rfl ?_
    refine j_iload_n hC dX4_alike_20 2 rfl ?_
    refine j_icmp_ge (tgt := 62) hC dX4_alike_21 (by decide) (by omega) (fun h => absurd h (by omega)) (fun _ => ?_)
    refine j_iload_n hC dX4_alike_24 1 rfl ?_
    refine j_aload_n hC dX4_alike_25 3 rfl ?_
    refine j_aload_n hC dX4_alike_26 3 rfl ?_
    refine r_books hC hr wd530 dX4_alike_27 ?_
    refine j_iload_n hC dX4_alike_30 4 rfl ?_
    refine r_lodge hC hr hI (by omega) dX4_alike_31 ?_
    refine j_iload_n hC dX4_alike_32 2 rfl ?_
    refine r_sign hC hr hI (by omega) (by omega) dX4_alike_33 ?_
    refine j_aload_n hC dX4_alike_34 3 rfl ?_
    refine r_books hC hr wd530 dX4_alike_35 ?_
    refine j_iload_n hC dX4_alike_38 4 rfl ?_
    refine r_lodge hC hr hI (by omega) dX4_alike_39 ?_
    refine j_iload hC dX4_alike_40 0 rfl ?_
    refine r_sign hC hr hI (by omega) (by omega) dX4_alike_42 ?_
    refine x_callV1 (ar := 2) hC hR (c_X4_far (hlJ hC) g X σ hr hI (Rp.sn hr hI (l := l) (z := j) (by omega) (by omega)) (Rp.sn hr hI (l := l) (z := w) (by omega) (by omega)) (by omega)) [vI (a9)] rfl hr.1 rfl rfl (by decide) (by decide +kernel) rfl wd348 wd349 wd350 wd4 wd351 (by first | decide | omega) (Nat.le_of_ble_eq_true rfl) dX4_alike_43 ?_
    have hd43 := dst_rg (G := σ.2 0) (x := σ.2 (1 + l.toNat) j) (y := σ.2 (1 + l.toNat) w) (by omega)
    suffices K54 : J mc (gx g X) 0 0 Q 54 [(4, vI (w)), (2, vI (a9)), (3, vI (j)), (0, .ref a), (1, vI (l))] [vI ((if dst (σ.2 0) (σ.2 (1 + l.toNat) j) (σ.2 (1 + l.toNat) w) = 0 then 1 else 0)), vI (a9)] σ by
      refine j_if_ne (tgt := 53) hC dX4_alike_46 (by decide) (by omega) (fun h46 => ?_) (fun h46 => ?_)
      · refine j_iconst hC dX4_alike_53 ?_
        exact (by first | (rw [show ((if dst (σ.2 0) (σ.2 (1 + l.toNat) j) (σ.2 (1 + l.toNat) w) = 0 then 1 else 0) : Int) = 1 from if_pos (by omega)] at K54; exact K54) | (rw [show ((if dst (σ.2 0) (σ.2 (1 + l.toNat) j) (σ.2 (1 + l.toNat) w) = 0 then 1 else 0) : Int) = 1 from if_pos (by omega)] at K54 ⊢; exact K54) | (rw [show ((if dst (σ.2 0) (σ.2 (1 + l.toNat) j) (σ.2 (1 + l.toNat) w) = 0 then 1 else 0) : Int) = 0 from if_neg (by omega)] at K54; exact K54) | (rw [show ((if dst (σ.2 0) (σ.2 (1 + l.toNat) j) (σ.2 (1 + l.toNat) w) = 0 then 1 else 0) : Int) = 0 from if_neg (by omega)] at K54 ⊢; exact K54))
      · refine j_iconst hC dX4_alike_49 ?_
        refine j_goto (tgt := 54) hC dX4_alike_50 (by decide) ?_
        exact (by first | (rw [show ((if dst (σ.2 0) (σ.2 (1 + l.toNat) j) (σ.2 (1 + l.toNat) w) = 0 then 1 else 0) : Int) = 1 from if_pos (by omega)] at K54; exact K54) | (rw [show ((if dst (σ.2 0) (σ.2 (1 + l.toNat) j) (σ.2 (1 + l.toNat) w) = 0 then 1 else 0) : Int) = 1 from if_pos (by omega)] at K54 ⊢; exact K54) | (rw [show ((if dst (σ.2 0) (σ.2 (1 + l.toNat) j) (σ.2 (1 + l.toNat) w) = 0 then 1 else 0) : Int) = 0 from if_neg (by omega)] at K54; exact K54) | (rw [show ((if dst (σ.2 0) (σ.2 (1 + l.toNat) j) (σ.2 (1 + l.toNat) w) = 0 then 1 else 0) : Int) = 0 from if_neg (by omega)] at K54 ⊢; exact K54))
    refine j_iadd hC dX4_alike_54 ?_
    refine j_istore_n hC dX4_alike_55 [(2, vI (a9 + (if dst (σ.2 0) (σ.2 (1 + l.toNat) j) (σ.2 (1 + l.toNat) w) = 0 then 1 else 0))), (4, vI (w)), (3, vI (j)), (0, .ref a), (1, vI (l))] (by decide) rfl ?_
    refine j_iinc hC dX4_alike_56 1 [(4, vI (w + 1)), (2, vI (a9 + (if dst (σ.2 0) (σ.2 (1 + l.toNat) j) (σ.2 (1 + l.toNat) w) = 0 then 1 else 0))), (3, vI (j)), (0, .ref a), (1, vI (l))] rfl (by decide) rfl ?_
    refine j_goto (tgt := 18) hC dX4_alike_59 (by decide) ?_
    rw [show (if (fun j k => decide (dst (σ.2 0) (lkB σ l.toNat j) (lkB σ l.toNat k) = 0)) j w = true then a9 + 1 else a9) = a9 + (if dst (σ.2 0) (σ.2 (1 + l.toNat) j) (σ.2 (1 + l.toNat) w) = 0 then 1 else 0) from cnt_st _ _] at kx
    exact ih (w + 1) _ (by omega) (by omega) kx
set_option maxHeartbeats 4000000 in
set_option maxRecDepth 100000 in
theorem lp_X4_alike_o {mc : MC} {g : GG} {X : va_W} {σ : Sg} {a : Nat} {r : RR} (hr : Rp g X a σ r) (hI : IC σ) (hC : Cx mc (gx g X) cX4_alike RX4 5 (some .int)) (hR : mR mc = rmJ 3 66 0 0) (l : Int) (hl : 0 ≤ l ∧ l < σ.1 0) : ∀ (d : Nat) (j : Int) (a9 : Int), (0 ≤ j) → (j + (d : Int) = σ.1 (2 + l.toNat)) → J mc (gx g X) 0 0 (QN mc (gx g X) (pt (some (vI (pMF (fun j k => decide (dst (σ.2 0) (lkB σ l.toNat j) (lkB σ l.toNat k) = 0)) 0 d j a9))) σ) 0 0) 4 [(2, vI (a9)), (3, vI (j)), (0, .ref a), (1, vI (l))] [] σ := by
  intro d
  induction d with
  | zero =>
    intro j a9 h0 hz
    have hkn := IC_k hI hl
    have hc0 := IC_n hI
    refine j_iload_n hC dX4_alike_4 1 rfl ?_
    refine j_aload_n hC dX4_alike_5 2 rfl ?_
    refine r_books hC hr wd530 dX4_alike_6 ?_
    refine j_iload_n hC dX4_alike_9 3 rfl ?_
    refine r_lodge hC hr hI (by omega) dX4_alike_10 ?_
    refine r_llen hC hr hI (by omega) dX4_alike_11 ?_
    refine j_icmp_ge (tgt := 68) hC dX4_alike_12 (by decide) (by omega) (fun _ => ?_) (fun h => absurd h (by omega))
    refine j_iload_n hC dX4_alike_68 0 rfl ?_
    exact j_iret hC dX4_alike_69 ⟨rfl, rfl⟩
  | succ d ih =>
    intro j a9 h0 hz
    have hkn := IC_k hI hl
    have hc0 := IC_n hI
    rw [show pMF (fun j k => decide (dst (σ.2 0) (lkB σ l.toNat j) (lkB σ l.toNat k) = 0)) 0 (d + 1) j a9 = pMF (fun j k => decide (dst (σ.2 0) (lkB σ l.toNat j) (lkB σ l.toNat k) = 0)) 0 d (j + 1) (cnt ((fun j k => decide (dst (σ.2 0) (lkB σ l.toNat j) (lkB σ l.toNat k) = 0)) j) j.toNat 0 a9) from by rw [show pMF (fun j k => decide (dst (σ.2 0) (lkB σ l.toNat j) (lkB σ l.toNat k) = 0)) 0 (d + 1) j a9 = pMF (fun j k => decide (dst (σ.2 0) (lkB σ l.toNat j) (lkB σ l.toNat k) = 0)) 0 d (j + 1) (cnt ((fun j k => decide (dst (σ.2 0) (lkB σ l.toNat j) (lkB σ l.toNat k) = 0)) j) (j - 0).toNat 0 a9) from rfl, Int.sub_zero]]
    refine j_iload_n hC dX4_alike_4 1 rfl ?_
    refine j_aload_n hC dX4_alike_5 2 rfl ?_
    refine r_books hC hr wd530 dX4_alike_6 ?_
    refine j_iload_n hC dX4_alike_9 3 rfl ?_
    refine r_lodge hC hr hI (by omega) dX4_alike_10 ?_
    refine r_llen hC hr hI (by omega) dX4_alike_11 ?_
    refine j_icmp_ge (tgt := 68) hC dX4_alike_12 (by decide) (by omega) (fun h => absurd h (by omega)) (fun _ => ?_)
    refine j_iconst hC dX4_alike_15 ?_
    refine j_istore hC dX4_alike_16 [(4, vI (0)), (2, vI (a9)), (3, vI (j)), (0, .ref a), (1, vI (l))] (by decide) rfl ?_
    refine lp_X4_alike_i hr hI hC hR l hl j (by omega) j.toNat 0 a9 (by omega) (by omega) ?_
    refine j_iinc hC dX4_alike_62 1 [(3, vI (j + 1)), (2, vI (cnt ((fun j k => decide (dst (σ.2 0) (lkB σ l.toNat j) (lkB σ l.toNat k) = 0)) j) j.toNat 0 a9)), (0, .ref a), (1, vI (l))] rfl (by decide) rfl ?_
    refine j_goto (tgt := 4) hC dX4_alike_65 (by decide) ?_
    refine j_sub [1, 0, 2, 3] rfl ?_
    exact ih (j + 1) _ (by omega) (by omega)
set_option maxHeartbeats 4000000 in
set_option maxRecDepth 100000 in
theorem c_X4_alike {ll : Launch} (hll : ll.stackTraces = false) (g : GG) (X : va_W) (σ : Sg) {a : Nat} {r : RR} (hr : Rp g X a σ r) (hI : IC σ) (l : Int) (hl : 0 ≤ l ∧ l < σ.1 0) : CN ll yX4_alike cX4_alike 5 (some .int) 3 66 0 0 (gx g X) [.ref a, vI (l)] σ (pt (some (vI (pMF (fun j k => decide (dst (σ.2 0) (lkB σ l.toNat j) (lkB σ l.toNat k) = 0)) 0 (cN σ l.toNat) 0 0))) σ) := by
  refine CN_of (own := RX4) hll (by decide) rfl (Nat.le_of_ble_eq_true rfl) (fun mc hC _ hR => ?_)
  refine j_lv (lv2 := [(0, .ref a), (1, vI (l))]) rfl ?_
  have hkn := IC_k hI hl
  have hc0 := IC_n hI
  refine j_iconst hC dX4_alike_0 ?_
  refine j_istore_n hC dX4_alike_1 [(2, vI (0)), (0, .ref a), (1, vI (l))] (by decide) rfl ?_
  refine j_iconst hC dX4_alike_2 ?_
  refine j_istore_n hC dX4_alike_3 [(3, vI (0)), (2, vI (0)), (0, .ref a), (1, vI (l))] (by decide) rfl ?_
  refine j_sub [1, 0, 2, 3] rfl ?_
  exact lp_X4_alike_o hr hI hC hR l hl (cN σ l.toNat) 0 0 (by omega) (by omega)
set_option maxHeartbeats 4000000 in
set_option maxRecDepth 100000 in
theorem lp_X4_understood {mc : MC} {g : GG} {X : va_W} {σ : Sg} {a : Nat} {r : RR} (hr : Rp g X a σ r) (hI : IC σ) (hC : Cx mc (gx g X) cX4_understood RX4 8 (some .int)) (hR : mR mc = rmJ 4 96 0 0) (l t : Int) (hl : 0 ≤ l ∧ l < σ.1 0) (ht : 0 ≤ t ∧ t < σ.1 0) : ∀ (d : Nat) (z : Int) (a9 : Int), (0 ≤ z) → (z + (d : Int) = σ.1 (2 + l.toNat)) → J mc (gx g X) 0 0 (QN mc (gx g X) (pt (some (vI (cnt (fun z => decide (mrB σ t.toNat (lkB σ l.toNat z) = mnB σ l.toNat z)) d z a9))) σ) 0 0) 18 [(6, vI (z)), (3, vI (a9)), (0, .ref a), (1, vI (l)), (2, vI (t)), (4, .ref (rL r l.toNat)), (5, vI (σ.1 (2 + l.toNat)))] [] σ := by
  intro d
  induction d with
  | zero =>
    intro z a9 h0 hz
    have hkn := IC_k hI hl
    have hc0 := IC_n hI
    refine j_iload hC dX4_understood_18 0 rfl ?_
    refine j_iload hC dX4_understood_20 6 rfl ?_
    refine j_icmp_ge (tgt := 60) hC dX4_understood_22 (by decide) (by omega) (fun _ => ?_) (fun h => absurd h (by omega))
    refine j_iload_n hC dX4_understood_60 1 rfl ?_
    exact j_iret hC dX4_understood_61 ⟨rfl, rfl⟩
  | succ d ih =>
    intro z a9 h0 hz
    have hkn := IC_k hI hl
    have hc0 := IC_n hI
    have hs := IC_s hI hl (z := z) (by omega)
    rw [show cnt (fun z => decide (mrB σ t.toNat (lkB σ l.toNat z) = mnB σ l.toNat z)) (d + 1) z a9 = cnt (fun z => decide (mrB σ t.toNat (lkB σ l.toNat z) = mnB σ l.toNat z)) d (z + 1) (if (fun z => decide (mrB σ t.toNat (lkB σ l.toNat z) = mnB σ l.toNat z)) z = true then a9 + 1 else a9) from rfl]
    rw [show (if (fun z => decide (mrB σ t.toNat (lkB σ l.toNat z) = mnB σ l.toNat z)) z = true then a9 + 1 else a9) = a9 + (if mrB σ t.toNat (σ.2 (1 + l.toNat) z) = σ.2 (6 + l.toNat) z then 1 else 0) from cnt_st _ _]
    refine j_iload hC dX4_understood_18 0 rfl ?_
    refine j_iload hC dX4_understood_20 6 rfl ?_
    refine j_icmp_ge (tgt := 60) hC dX4_understood_22 (by decide) (by omega) (fun h => absurd h (by omega)) (fun _ => ?_)
    refine j_aload hC dX4_understood_25 5 rfl ?_
    refine j_iload hC dX4_understood_27 0 rfl ?_
    refine r_sign hC hr hI (by omega) (by omega) dX4_understood_29 ?_
    refine j_astore hC dX4_understood_30 [(7, .ref (rS r l.toNat z.toNat)), (6, vI (z)), (3, vI (a9)), (0, .ref a), (1, vI (l)), (2, vI (t)), (4, .ref (rL r l.toNat)), (5, vI (σ.1 (2 + l.toNat)))] (by decide) rfl ?_
    refine j_iload_n hC dX4_understood_32 2 rfl ?_
    refine j_aload_n hC dX4_understood_33 3 rfl ?_
    refine j_aload hC dX4_understood_34 0 rfl ?_
    refine j_iload_n hC dX4_understood_36 5 rfl ?_
    refine x_callV1 (ar := 2) hC hR (c_X4_read (hlJ hC) g X σ hr hI t (by omega) (Rp.sn hr hI (l := l) (z := z) (by omega) (by omega)) (by omega)) [vI (a9)] rfl hr.1 rfl rfl (by decide) (by decide +kernel) rfl wd381 wd382 wd383 wd4 wd384 (by first | decide | omega) (Nat.le_of_ble_eq_true rfl) dX4_understood_37 ?_
    have hm37 := mrB_rg hI (b := (t).toNat) (by omega) (σ.2 (1 + l.toNat) z)
    refine j_aload hC dX4_understood_40 0 rfl ?_
    refine j_iconst hC dX4_understood_42 ?_
    refine r_num4 hC (Rp.sn hr hI (l := l) (z := z) (by omega) (by omega)) dX4_understood_43 ?_
    suffices K52 : J mc (gx g X) 0 0 (QN mc (gx g X) (pt (some (vI (cnt (fun z => decide (mrB σ t.toNat (lkB σ l.toNat z) = mnB σ l.toNat z)) d (z + 1) (a9 + (if mrB σ t.toNat (σ.2 (1 + l.toNat) z) = σ.2 (6 + l.toNat) z then 1 else 0))))) σ) 0 0) 52 [(6, vI (z)), (3, vI (a9)), (0, .ref a), (1, vI (l)), (2, vI (t)), (4, .ref (rL r l.toNat)), (5, vI (σ.1 (2 + l.toNat)))] [vI ((if mrB σ (t).toNat (σ.2 (1 + l.toNat) z) = σ.2 (6 + l.toNat) z then 1 else 0)), vI (a9)] σ by
      refine j_icmp_ne (tgt := 51) hC dX4_understood_44 (by decide) (by omega) (fun h44 => ?_) (fun h44 => ?_)
      · refine j_iconst hC dX4_understood_51 ?_
        refine j_sub [1, 2, 3, 4, 5, 6, 7] rfl ?_
        exact (by first | (rw [show ((if mrB σ (t).toNat (σ.2 (1 + l.toNat) z) = σ.2 (6 + l.toNat) z then 1 else 0) : Int) = 1 from if_pos (by omega)] at K52; exact K52) | (rw [show ((if mrB σ (t).toNat (σ.2 (1 + l.toNat) z) = σ.2 (6 + l.toNat) z then 1 else 0) : Int) = 1 from if_pos (by omega)] at K52 ⊢; exact K52) | (rw [show ((if mrB σ (t).toNat (σ.2 (1 + l.toNat) z) = σ.2 (6 + l.toNat) z then 1 else 0) : Int) = 0 from if_neg (by omega)] at K52; exact K52) | (rw [show ((if mrB σ (t).toNat (σ.2 (1 + l.toNat) z) = σ.2 (6 + l.toNat) z then 1 else 0) : Int) = 0 from if_neg (by omega)] at K52 ⊢; exact K52))
      · refine j_iconst hC dX4_understood_47 ?_
        refine j_goto (tgt := 52) hC dX4_understood_48 (by decide) ?_
        refine j_sub [1, 2, 3, 4, 5, 6, 7] rfl ?_
        exact (by first | (rw [show ((if mrB σ (t).toNat (σ.2 (1 + l.toNat) z) = σ.2 (6 + l.toNat) z then 1 else 0) : Int) = 1 from if_pos (by omega)] at K52; exact K52) | (rw [show ((if mrB σ (t).toNat (σ.2 (1 + l.toNat) z) = σ.2 (6 + l.toNat) z then 1 else 0) : Int) = 1 from if_pos (by omega)] at K52 ⊢; exact K52) | (rw [show ((if mrB σ (t).toNat (σ.2 (1 + l.toNat) z) = σ.2 (6 + l.toNat) z then 1 else 0) : Int) = 0 from if_neg (by omega)] at K52; exact K52) | (rw [show ((if mrB σ (t).toNat (σ.2 (1 + l.toNat) z) = σ.2 (6 + l.toNat) z then 1 else 0) : Int) = 0 from if_neg (by omega)] at K52 ⊢; exact K52))
    refine j_iadd hC dX4_understood_52 ?_
    refine j_istore_n hC dX4_understood_53 [(3, vI (a9 + (if mrB σ (t).toNat (σ.2 (1 + l.toNat) z) = σ.2 (6 + l.toNat) z then 1 else 0))), (6, vI (z)), (0, .ref a), (1, vI (l)), (2, vI (t)), (4, .ref (rL r l.toNat)), (5, vI (σ.1 (2 + l.toNat)))] (by decide) rfl ?_
    refine j_iinc hC dX4_understood_54 1 [(6, vI (z + 1)), (3, vI (a9 + (if mrB σ (t).toNat (σ.2 (1 + l.toNat) z) = σ.2 (6 + l.toNat) z then 1 else 0))), (0, .ref a), (1, vI (l)), (2, vI (t)), (4, .ref (rL r l.toNat)), (5, vI (σ.1 (2 + l.toNat)))] rfl (by decide) rfl ?_
    refine j_goto (tgt := 18) hC dX4_understood_57 (by decide) ?_
    exact ih (z + 1) _ (by omega) (by omega)
set_option maxHeartbeats 4000000 in
set_option maxRecDepth 100000 in
theorem c_X4_understood {ll : Launch} (hll : ll.stackTraces = false) (g : GG) (X : va_W) (σ : Sg) {a : Nat} {r : RR} (hr : Rp g X a σ r) (hI : IC σ) (l t : Int) (hl : 0 ≤ l ∧ l < σ.1 0) (ht : 0 ≤ t ∧ t < σ.1 0) : CN ll yX4_understood cX4_understood 8 (some .int) 4 96 0 0 (gx g X) [.ref a, vI (l), vI (t)] σ (pt (some (vI (cuB σ t.toNat l.toNat))) σ) := by
  refine CN_of (own := RX4) hll (by decide) rfl (Nat.le_of_ble_eq_true rfl) (fun mc hC _ hR => ?_)
  refine j_lv (lv2 := [(0, .ref a), (1, vI (l)), (2, vI (t))]) rfl ?_
  have hkn := IC_k hI hl
  have hc0 := IC_n hI
  refine j_iconst hC dX4_understood_0 ?_
  refine j_istore_n hC dX4_understood_1 [(3, vI (0)), (0, .ref a), (1, vI (l)), (2, vI (t))] (by decide) rfl ?_
  refine j_aload_n hC dX4_understood_2 1 rfl ?_
  refine r_books hC hr wd530 dX4_understood_3 ?_
  refine j_iload_n hC dX4_understood_6 2 rfl ?_
  refine r_lodge hC hr hI (by omega) dX4_understood_7 ?_
  refine j_astore hC dX4_understood_8 [(4, .ref (rL r l.toNat)), (3, vI (0)), (0, .ref a), (1, vI (l)), (2, vI (t))] (by decide) rfl ?_
  refine j_aload hC dX4_understood_10 0 rfl ?_
  refine r_llen hC hr hI (by omega) dX4_understood_12 ?_
  refine j_istore hC dX4_understood_13 [(5, vI (σ.1 (2 + l.toNat))), (4, .ref (rL r l.toNat)), (3, vI (0)), (0, .ref a), (1, vI (l)), (2, vI (t))] (by decide) rfl ?_
  refine j_iconst hC dX4_understood_15 ?_
  refine j_istore hC dX4_understood_16 [(6, vI (0)), (5, vI (σ.1 (2 + l.toNat))), (4, .ref (rL r l.toNat)), (3, vI (0)), (0, .ref a), (1, vI (l)), (2, vI (t))] (by decide) rfl ?_
  refine j_sub [0, 3, 4, 5, 6, 2, 1] rfl ?_
  exact lp_X4_understood hr hI hC hR l t hl ht (cN σ l.toNat) 0 0 (by omega) (by omega)
