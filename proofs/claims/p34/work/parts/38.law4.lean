set_option maxHeartbeats 4000000 in
set_option maxRecDepth 100000 in
theorem lp_law_t {mc : MC} {g : GG} {a : Nat} {Q : State → Prop} (hR : mR mc = rmJ 12 466 600074 7301550) (k9 n9 : Nat) (hk9 : k9 ≤ 600074 ∧ n9 ≤ 7301550) (hgn : gn g ≤ 260) (kx : ∀ (X : va_W) (σ : Sg) (r : RR), Cx mc (gx g X) cL_law RL 15 (some .boolean) → Rp g X a σ r → Iv σ → J mc (gx g X) k9 n9 Q 891 [(0, .ref (gb g)), (1, .ref (gd g (0))), (2, .ref a)] [] σ) : ∀ (d : Nat) (z : Int) (X : va_W) (σ : Sg) (r : RR) (k n : Nat), (Cx mc (gx g X) cL_law RL 15 (some .boolean)) → (Rp g X a σ r) → (Iv σ) → (0 ≤ z) → (z + (d : Int) = 14) → (k + 100 * d ≤ k9 ∧ n + 1400 * d ≤ n9) → J mc (gx g X) k n Q 22 [(3, vI (z)), (0, .ref (gb g)), (1, .ref (gd g (0))), (2, .ref a)] [] σ := by
  intro d
  induction d with
  | zero =>
    intro z X σ r k n hC hr hv h0 hz hkn
    have hI := hv.1
    have hc0 := IC_n hI
    refine j_iload_n hC dL_law_22 0 rfl ?_
    refine j_bipush hC dL_law_23 (by decide) ?_
    refine j_icmp_ge (tgt := 891) hC dL_law_25 (by decide) (by omega) (fun _ => ?_) (fun h => absurd h (by omega))
    refine j_sub [1, 2, 3] rfl ?_
    refine j_widen (k2 := k9) (n2 := n9) (by omega) (by omega) ?_
    exact kx X σ r hC hr hv
  | succ d ih =>
    intro z X σ r k n hC hr hv h0 hz hkn
    have hI := hv.1
    have hc0 := IC_n hI
    refine j_iload_n hC dL_law_22 0 rfl ?_
    refine j_bipush hC dL_law_23 (by decide) ?_
    refine j_icmp_ge (tgt := 891) hC dL_law_25 (by decide) (by omega) (fun h => absurd h (by omega)) (fun _ => ?_)
    refine j_aload_n hC dL_law_28 1 rfl ?_
    refine j_iload_n hC dL_law_29 0 rfl ?_
    refine j_bipush hC dL_law_30 (by decide) ?_
    refine j_irem hC dL_law_32 (by omega) ?_
    refine j_callS (ar := 2) hC hR (c_L_cell (hlJ hC) (gx g X) σ hgn (z % 16) (by omega)) [] rfl (by decide) (by decide +kernel) rfl wd405 wd406 wd0 wd407 (by first | decide | omega) (Nat.le_of_ble_eq_true rfl) dL_law_33 ?_
    rintro v1 τ1 ⟨⟨w33, hv1⟩, hτ⟩
    replace hτ := hτ.symm; subst hv1; subst hτ
    refine j_st (st2 := [.int (w33)]) rfl ?_
    refine j_iload_n hC dL_law_36 0 rfl ?_
    refine j_bipush hC dL_law_37 (by decide) ?_
    refine j_idiv hC dL_law_39 (by omega) ?_
    refine j_iconst hC dL_law_40 ?_
    refine j_imul hC dL_law_41 ?_
    refine j_ishrX hC dL_law_42 ?_
    refine j_sipush hC dL_law_43 (by decide) ?_
    refine j_iload_n hC dL_law_46 0 rfl ?_
    refine j_imul hC dL_law_47 ?_
    refine j_iaddR hC dL_law_48 ?_
    refine j_istore hC dL_law_49 [(4, .int ((sx w33 ((z / 16) * 3)) + iI (647 * z))), (3, vI (z)), (0, .ref (gb g)), (1, .ref (gd g (0))), (2, .ref a)] (by decide) rfl ?_
    refine j_aload_n hC dL_law_51 3 rfl ?_
    refine j_aload_n hC dL_law_52 4 rfl ?_
    refine j_iload hC dL_law_53 0 rfl ?_
    refine g_callS (ar := 3) hC hR (c_L_act (hlJ hC) g X σ ((sx w33 ((z / 16) * 3)) + iI (647 * z)) hr hv) [] rfl (by decide) (by decide +kernel) rfl wd409 wd410 wd0 wd411 (by omega) (Nat.le_of_ble_eq_true rfl) dL_law_55 ?_
    rintro v1 τ1 Y2 ⟨hv1, hv2, r2, hr2⟩ hC
    subst hv1
    refine j_st (st2 := [vI (1)]) rfl ?_
    refine j_if_ne (tgt := 63) hC dL_law_58 (by decide) (by omega) (fun _ => ?_) (fun h => absurd h (by omega))
    have hI := hv2.1
    have hc0 := IC_n hI
    refine j_aload_n hC dL_law_63 3 rfl ?_
    refine j_callV1 (ar := 0) hC hR (c_X3_lodges (hlJ hC) (gx g Y2) τ1 hI  ) [] rfl 0 rfl rfl rfl (by decide) (by decide +kernel) rfl wd179 wd180 wd181 wd1 wd182 (by first | decide | omega) (Nat.le_of_ble_eq_true rfl) dL_law_64 ?_
    refine j_istore hC dL_law_67 [(5, vI (τ1.1 0)), (4, .int ((sx w33 ((z / 16) * 3)) + iI (647 * z))), (3, vI (z)), (0, .ref (gb g)), (1, .ref (gd g (0))), (2, .ref a)] (by decide) rfl ?_
    refine j_iload hC dL_law_69 0 rfl ?_
    refine x_newR hC hR (nLo τ1) 4 rfl (hX_T hC).2.2.1 hc0.1.symm (by omega) (by omega) wnL83 dL_law_71 (fun q YF hn hC => ?_)
    have hb := hn.sb
    have hf := hn.2.2
    have hfa0 : Fa g YF q τ1 (fun _ => none) 0 := ⟨hn.1, fun b hb => absurd hb (by omega)⟩
    refine j_astore hC dL_law_74 [(6, .ref q), (5, vI (τ1.1 0)), (4, .int ((sx w33 ((z / 16) * 3)) + iI (647 * z))), (3, vI (z)), (0, .ref (gb g)), (1, .ref (gd g (0))), (2, .ref a)] (by decide) rfl ?_
    refine j_iconst hC dL_law_76 ?_
    refine j_istore hC dL_law_77 [(7, vI (0)), (6, .ref q), (5, vI (τ1.1 0)), (4, .int ((sx w33 ((z / 16) * 3)) + iI (647 * z))), (3, vI (z)), (0, .ref (gb g)), (1, .ref (gd g (0))), (2, .ref a)] (by decide) rfl ?_
    refine j_sub [0, 5, 6, 7, 4, 3, 2, 1] rfl ?_
    refine lp_law_l hR (x := ((sx w33 ((z / 16) * 3)) + iI (647 * z))) z hr2 hv2 hf (k + 90) (n + 1300) (by omega) ?_ (nLo τ1) 0 YF _ _ _ hC hb hfa0 (by omega) (by omega) (by omega)
    intro Y f hC hb2 hfa
    have hr3 := hr2.sb hb2
    have hu := Un_of hC
    refine j_iload hC dL_law_728 4 rfl ?_
    refine j_iconst hC dL_law_730 ?_
    refine j_ishrX hC dL_law_731 ?_
    refine j_bipush hC dL_law_732 (by decide) ?_
    refine j_callS1 (ar := 2) hC hR (c_L_below (hlJ hC) (gx g Y) τ1 (sx ((sx w33 ((z / 16) * 3)) + iI (647 * z)) 2) 9 (by omega)) [] rfl (by decide) (by decide +kernel) rfl wd401 wd402 wd0 wd403 (by first | decide | omega) (Nat.le_of_ble_eq_true rfl) dL_law_734 ?_
    have hb734 := bl_rg (sx ((sx w33 ((z / 16) * 3)) + iI (647 * z)) 2) (n := 9) (by omega)
    refine j_istore hC dL_law_737 [(7, vI (bl (sx ((sx w33 ((z / 16) * 3)) + iI (647 * z)) 2) 9)), (0, .ref (gb g)), (1, .ref (gd g (0))), (2, .ref a), (3, vI (z)), (4, .int ((sx w33 ((z / 16) * 3)) + iI (647 * z))), (5, vI (τ1.1 0)), (6, .ref q)] (by decide) rfl ?_
    refine j_iload hC dL_law_739 5 rfl ?_
    refine j_iconst hC dL_law_741 ?_
    refine j_ishrX hC dL_law_742 ?_
    refine j_bipush hC dL_law_743 (by decide) ?_
    refine j_callS1 (ar := 2) hC hR (c_L_below (hlJ hC) (gx g Y) τ1 (sx ((sx w33 ((z / 16) * 3)) + iI (647 * z)) 4) 9 (by omega)) [] rfl (by decide) (by decide +kernel) rfl wd401 wd402 wd0 wd403 (by first | decide | omega) (Nat.le_of_ble_eq_true rfl) dL_law_745 ?_
    have hb745 := bl_rg (sx ((sx w33 ((z / 16) * 3)) + iI (647 * z)) 4) (n := 9) (by omega)
    refine j_istore hC dL_law_748 [(8, vI (bl (sx ((sx w33 ((z / 16) * 3)) + iI (647 * z)) 4) 9)), (7, vI (bl (sx ((sx w33 ((z / 16) * 3)) + iI (647 * z)) 2) 9)), (0, .ref (gb g)), (1, .ref (gd g (0))), (2, .ref a), (3, vI (z)), (4, .int ((sx w33 ((z / 16) * 3)) + iI (647 * z))), (5, vI (τ1.1 0)), (6, .ref q)] (by decide) rfl ?_
    refine j_iload hC dL_law_750 6 rfl ?_
    refine j_iconst hC dL_law_752 ?_
    refine j_callS1 (ar := 2) hC hR (c_L_below (hlJ hC) (gx g Y) τ1 ((sx w33 ((z / 16) * 3)) + iI (647 * z)) 5 (by omega)) [] rfl (by decide) (by decide +kernel) rfl wd401 wd402 wd0 wd403 (by first | decide | omega) (Nat.le_of_ble_eq_true rfl) dL_law_753 ?_
    have hb753 := bl_rg ((sx w33 ((z / 16) * 3)) + iI (647 * z)) (n := 5) (by omega)
    refine j_if_le (tgt := 762) hC dL_law_756 (by decide) (by omega) (fun h756 => ?_) (fun h756 => ?_)
    · refine j_aload_n hC dL_law_762 4 rfl ?_
      refine j_iload hC dL_law_763 1 rfl ?_
      refine j_iload hC dL_law_765 0 rfl ?_
      refine g_callV (ar := 2) hC hR (c_X4_join (hlJ hC) g Y τ1 hr3 hI (bl (sx ((sx w33 ((z / 16) * 3)) + iI (647 * z)) 2) 9) (bl (sx ((sx w33 ((z / 16) * 3)) + iI (647 * z)) 4) 9) (by omega)) [] rfl hr3.1 rfl rfl (by decide) (by decide +kernel) rfl wd331 wd332 wd333 wd4 wd334 (by omega) (Nat.le_of_ble_eq_true rfl) dL_law_767 ?_
      rintro v1 ρ1 Y1 ⟨hv1, hτ, hkp, r2, hr2⟩ hC
      subst hv1; replace hτ := hτ.symm; subst hτ
      refine j_st (st2 := []) rfl ?_
      have hfa4 := hfa.kp hkp hu hr3.1
      refine j_aload_n hC dL_law_770 3 rfl ?_
      refine j_iload hC dL_law_771 1 rfl ?_
      refine j_iload hC dL_law_773 0 rfl ?_
      refine j_callV1 (ar := 2) hC hR (c_X3_join (hlJ hC) (gx g Y1) τ1 hI (bl (sx ((sx w33 ((z / 16) * 3)) + iI (647 * z)) 2) 9) (bl (sx ((sx w33 ((z / 16) * 3)) + iI (647 * z)) 4) 9) (by omega)) [] rfl 0 rfl rfl rfl (by decide) (by decide +kernel) rfl wd73 wd74 wd75 wd1 wd76 (by first | decide | omega) (Nat.le_of_ble_eq_true rfl) dL_law_775 ?_
      have hv3 := Iv_un (a := bl (sx ((sx w33 ((z / 16) * 3)) + iI (647 * z)) 2) 9) (b := bl (sx ((sx w33 ((z / 16) * 3)) + iI (647 * z)) 4) 9) hv2 (by omega)
      have hI := hv3.1
      have hun := un_same τ1 (a := bl (sx ((sx w33 ((z / 16) * 3)) + iI (647 * z)) 2) 9) (b := bl (sx ((sx w33 ((z / 16) * 3)) + iI (647 * z)) 4) 9) (by omega)
      have hst := stp_same hun
      refine j_pop hC dL_law_778 rfl ?_
      refine j_aload_n hC dL_law_779 3 rfl ?_
      refine j_iload hC dL_law_780 1 rfl ?_
      refine j_iload hC dL_law_782 0 rfl ?_
      refine j_callV1 (ar := 2) hC hR (c_X3_steps (hlJ hC) (gx g Y1) (unP τ1 (bl (sx ((sx w33 ((z / 16) * 3)) + iI (647 * z)) 2) 9) (bl (sx ((sx w33 ((z / 16) * 3)) + iI (647 * z)) 4) 9)) hI (bl (sx ((sx w33 ((z / 16) * 3)) + iI (647 * z)) 2) 9) (bl (sx ((sx w33 ((z / 16) * 3)) + iI (647 * z)) 4) 9) (by omega)) [] rfl 0 rfl rfl rfl (by decide) (by decide +kernel) rfl wd167 wd168 wd169 wd1 wd170 (by first | decide | omega) (Nat.le_of_ble_eq_true rfl) dL_law_784 ?_
      have hs784 := stp_rg (G := (unP τ1 (bl (sx ((sx w33 ((z / 16) * 3)) + iI (647 * z)) 2) 9) (bl (sx ((sx w33 ((z / 16) * 3)) + iI (647 * z)) 4) 9)).2 0) (a := bl (sx ((sx w33 ((z / 16) * 3)) + iI (647 * z)) 2) 9) (b := bl (sx ((sx w33 ((z / 16) * 3)) + iI (647 * z)) 4) 9) (by omega)
      refine j_if_ne (tgt := 801) hC dL_law_787 (by decide) (by omega) (fun h => absurd h (by omega)) (fun _ => ?_)
      refine j_aload_n hC dL_law_790 3 rfl ?_
      refine j_iload hC dL_law_791 0 rfl ?_
      refine j_iload hC dL_law_793 1 rfl ?_
      refine j_callV1 (ar := 2) hC hR (c_X3_areJoined (hlJ hC) (gx g Y1) (unP τ1 (bl (sx ((sx w33 ((z / 16) * 3)) + iI (647 * z)) 2) 9) (bl (sx ((sx w33 ((z / 16) * 3)) + iI (647 * z)) 4) 9)) hI (bl (sx ((sx w33 ((z / 16) * 3)) + iI (647 * z)) 4) 9) (bl (sx ((sx w33 ((z / 16) * 3)) + iI (647 * z)) 2) 9) (by omega)) [] rfl 0 rfl rfl rfl (by decide) (by decide +kernel) rfl wd159 wd160 wd161 wd1 wd162 (by first | decide | omega) (Nat.le_of_ble_eq_true rfl) dL_law_795 ?_
      refine j_if_ne (tgt := 803) hC dL_law_798 (by decide) (by omega) (fun _ => ?_) (fun h => absurd h (by omega))
      refine j_iconst hC dL_law_803 ?_
      refine j_istore hC dL_law_804 [(9, vI (0)), (8, vI (bl (sx ((sx w33 ((z / 16) * 3)) + iI (647 * z)) 4) 9)), (7, vI (bl (sx ((sx w33 ((z / 16) * 3)) + iI (647 * z)) 2) 9)), (0, .ref (gb g)), (1, .ref (gd g (0))), (2, .ref a), (3, vI (z)), (4, .int ((sx w33 ((z / 16) * 3)) + iI (647 * z))), (5, vI (τ1.1 0)), (6, .ref q)] (by decide) rfl ?_
      refine j_sub [0, 3, 4, 5, 6, 8, 9] rfl ?_
      refine lp_law_c hR hC z hv2 _ _ hv3 _ _ (by omega) hfa4 ?_ (nLo τ1) 0 (by omega) (by omega)
      refine j_iinc hC dL_law_885 3 [(3, vI (z + 1)), (0, .ref (gb g)), (1, .ref (gd g (0))), (2, .ref a), (5, vI (τ1.1 0)), (6, .ref q)] rfl (by decide) rfl ?_
      refine j_goto (tgt := 22) hC dL_law_888 (by decide) ?_
      refine j_sub [0, 1, 2, 3] rfl ?_
      refine j_widen (k2 := k + 100) (n2 := n + 1400) (by omega) (by omega) ?_
      exact ih (z + 1) _ _ _ _ _ hC hr2 hv3 (by omega) (by omega) (by omega)
    · refine j_goto (tgt := 885) hC dL_law_759 (by decide) ?_
      refine j_iinc hC dL_law_885 5 [(3, vI (z + 1)), (8, vI (bl (sx ((sx w33 ((z / 16) * 3)) + iI (647 * z)) 4) 9)), (7, vI (bl (sx ((sx w33 ((z / 16) * 3)) + iI (647 * z)) 2) 9)), (0, .ref (gb g)), (1, .ref (gd g (0))), (2, .ref a), (4, .int ((sx w33 ((z / 16) * 3)) + iI (647 * z))), (5, vI (τ1.1 0)), (6, .ref q)] rfl (by decide) rfl ?_
      refine j_goto (tgt := 22) hC dL_law_888 (by decide) ?_
      refine j_sub [0, 3, 4, 5] rfl ?_
      refine j_widen (k2 := k + 100) (n2 := n + 1400) (by omega) (by omega) ?_
      exact ih (z + 1) _ _ _ _ _ hC hr3 hv2 (by omega) (by omega) (by omega)
set_option maxHeartbeats 4000000 in
set_option maxRecDepth 100000 in
theorem law_main {mc : MC} {g : GG} {X : va_W} {σ : Sg} {Q : State → Prop} (hR : mR mc = rmJ 12 466 600074 7301550) (hC : Cx mc (gx g X) cL_law RL 15 (some .boolean)) (hgn : gn g ≤ 260) (hv : Iv σ) (h0 : σ.1 0 = 0) (hG : ∀ p j : Int, 0 ≤ p → p < 9 → 0 ≤ j → j < 9 → (σ.2 0 p = σ.2 0 j ↔ p = j)) (kx : ∀ (X : va_W) (σ : Sg), J mc (gx g X) 600074 7301550 Q 896 [] [vI 1] σ) : ∀ k n : Nat, k ≤ 1000 → n ≤ 1000 → J mc (gx g X) k n Q 8 [(1, .ref (gd g (0))), (0, .ref (gb g))] [] σ := by
  intro k n hk hn
  refine j_aload_n hC dL_law_8 0 rfl ?_
  refine j_aload_n hC dL_law_9 1 rfl ?_
  refine g_callS (ar := 2) hC hR (c_L_build (hlJ hC) g X σ hgn hv h0 hG) [] rfl (by decide) (by decide +kernel) rfl wd521 wd522 wd0 wd523 (by omega) (Nat.le_of_ble_eq_true rfl) dL_law_10 ?_
  rintro v1 ρ Y1 ⟨hv2, a, r2, hv1, hr2⟩ hC
  subst hv1
  refine j_st (st2 := [.ref a]) rfl ?_
  refine j_astore_n hC dL_law_13 [(2, .ref a), (1, .ref (gd g (0))), (0, .ref (gb g))] (by decide) rfl ?_
  refine j_aload_n hC dL_law_14 0 rfl ?_
  refine x_ifnonnull (tgt := 20) hC dL_law_15 (by decide) ?_
  refine j_iconst hC dL_law_20 ?_
  refine j_istore_n hC dL_law_21 [(3, vI (0)), (2, .ref a), (1, .ref (gd g (0))), (0, .ref (gb g))] (by decide) rfl ?_
  refine j_sub [0, 3, 2, 1] rfl ?_
  refine lp_law_t hR 600074 7301550 (by omega) hgn ?_ 14 0 _ _ r2 _ _ hC hr2 hv2 (by omega) (by omega) (by omega)
  intro X3 σ3 r3 hC hr hv
  refine j_aload_n hC dL_law_891 2 rfl ?_
  refine j_aload_n hC dL_law_892 1 rfl ?_
  refine x_callV1 (ar := 1) hC hR (c_X4_isSame (hlJ hC) g X3 σ3 hr hv) [] rfl hr.1 rfl rfl (by decide) (by decide +kernel) rfl wd338 wd339 wd340 wd4 wd341 (by first | decide | omega) (Nat.le_of_ble_eq_true rfl) dL_law_893 ?_
  refine j_sub [] rfl ?_
  exact kx X3 σ3
