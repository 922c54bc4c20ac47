set_option maxHeartbeats 4000000 in
set_option maxRecDepth 100000 in
theorem lp_build1 {mc : MC} {g : GG} {a : Nat} {Q : State → Prop} (hR : mR mc = rmJ 6 150 760 7500) (k9 n9 : Nat) (hk9 : k9 ≤ 760 ∧ n9 ≤ 7500) (c : Int) (hc : 0 ≤ c ∧ c ≤ 4) (kx : ∀ (X : va_W) (σ : Sg) (r : RR), Cx mc (gx g X) cL_build RL 6 (some (.object "SignMasonsLaw$Sim")) → Rp g X a σ r → Iv σ → J mc (gx g X) k9 n9 Q 50 [(0, .ref (gd g (0))), (1, .ref (gb g)), (2, .ref a)] [] σ) : ∀ (d : Nat) (z : Int) (X : va_W) (σ : Sg) (r : RR) (k n : Nat), (Cx mc (gx g X) cL_build RL 6 (some (.object "SignMasonsLaw$Sim"))) → (Rp g X a σ r) → (Iv σ) → (σ.1 0 = z) → (z + (d : Int) = c) → (k + 2 * d ≤ k9 ∧ n + 8 * d ≤ n9) → J mc (gx g X) k n Q 23 [(4, vI (z)), (3, vI (c)), (0, .ref (gd g (0))), (1, .ref (gb g)), (2, .ref a)] [] σ := by
  intro d
  induction d with
  | zero =>
    intro z X σ r k n hC hr hv h0 hz hkn
    have hI := hv.1
    have hc0 := IC_n hI
    refine j_iload hC dL_build_23 0 rfl ?_
    refine j_iload_n hC dL_build_25 1 rfl ?_
    refine j_icmp_ge (tgt := 50) hC dL_build_26 (by decide) (by omega) (fun _ => ?_) (fun h => absurd h (by omega))
    refine j_sub [2, 3, 4] rfl ?_
    refine j_widen (k2 := k9) (n2 := n9) (by omega) (by omega) ?_
    exact kx X σ r hC hr hv
  | succ d ih =>
    intro z X σ r k n hC hr hv h0 hz hkn
    have hI := hv.1
    have hc0 := IC_n hI
    refine j_iload hC dL_build_23 0 rfl ?_
    refine j_iload_n hC dL_build_25 1 rfl ?_
    refine j_icmp_ge (tgt := 50) hC dL_build_26 (by decide) (by omega) (fun h => absurd h (by omega)) (fun _ => ?_)
    refine j_aload_n hC dL_build_29 4 rfl ?_
    refine g_callV (ar := 0) hC hR (c_X4_addLodge (hlJ hC) g X σ hr hI (by omega) (hv.2.2.2 _ (by omega) (by omega))) [] rfl hr.1 rfl rfl (by decide) (by decide +kernel) rfl wd412 wd413 wd414 wd4 wd415 (by omega) (Nat.le_of_ble_eq_true rfl) dL_build_30 ?_
    rintro v1 τ1 Y1 ⟨hv1, hτ, r2, hr2⟩ hC
    subst hv1; replace hτ := hτ.symm; subst hτ
    refine j_st (st2 := []) rfl ?_
    refine j_aload_n hC dL_build_33 2 rfl ?_
    refine j_callV1 (ar := 0) hC hR (c_X3_addLodge (hlJ hC) (gx g Y1) σ hI  (by omega)) [] rfl 0 rfl rfl rfl (by decide) (by decide +kernel) rfl wd420 wd421 wd422 wd1 wd423 (by first | decide | omega) (Nat.le_of_ble_eq_true rfl) dL_build_34 ?_
    refine j_iload hC dL_build_37 0 rfl ?_
    refine j_icmp_eq (tgt := 44) hC dL_build_39 (by decide) (by omega) (fun _ => ?_) (fun h => absurd h (by omega))
    refine j_iinc hC dL_build_44 0 [(4, vI (z + 1)), (3, vI (c)), (0, .ref (gd g (0))), (1, .ref (gb g)), (2, .ref a)] rfl (by decide) rfl ?_
    refine j_goto (tgt := 23) hC dL_build_47 (by decide) ?_
    exact ih (z + 1) _ _ r2 _ _ hC hr2 (Iv_al hv (by omega)) (by show (if (0 : Nat) = 0 then σ.1 0 + 1 else σ.1 0) = z + 1; rw [if_pos rfl]; omega) (by omega) (by omega)
set_option maxHeartbeats 4000000 in
set_option maxRecDepth 100000 in
theorem lp_build2 {mc : MC} {g : GG} {a : Nat} {Q : State → Prop} (hR : mR mc = rmJ 6 150 760 7500) (k9 n9 : Nat) (hk9 : k9 ≤ 760 ∧ n9 ≤ 7500) (hgn : gn g ≤ 260) (c : Int) (hc : 0 ≤ c ∧ c ≤ 60) (kx : ∀ (X : va_W) (σ : Sg) (r : RR), Cx mc (gx g X) cL_build RL 6 (some (.object "SignMasonsLaw$Sim")) → Rp g X a σ r → Iv σ → J mc (gx g X) k9 n9 Q 115 [(0, .ref (gd g (0))), (1, .ref (gb g)), (2, .ref a)] [] σ) : ∀ (d : Nat) (z : Int) (X : va_W) (σ : Sg) (r : RR) (k n : Nat), (Cx mc (gx g X) cL_build RL 6 (some (.object "SignMasonsLaw$Sim"))) → (Rp g X a σ r) → (Iv σ) → (0 ≤ z) → (z + (d : Int) = c) → (k + 12 * d ≤ k9 ∧ n + 120 * d ≤ n9) → J mc (gx g X) k n Q 68 [(5, vI (z)), (4, vI (c)), (0, .ref (gd g (0))), (1, .ref (gb g)), (2, .ref a)] [] σ := by
  intro d
  induction d with
  | zero =>
    intro z X σ r k n hC hr hv h0 hz hkn
    have hI := hv.1
    have hc0 := IC_n hI
    refine j_iload hC dL_build_68 0 rfl ?_
    refine j_iload hC dL_build_70 1 rfl ?_
    refine j_icmp_ge (tgt := 115) hC dL_build_72 (by decide) (by omega) (fun _ => ?_) (fun h => absurd h (by omega))
    refine j_sub [2, 3, 4] rfl ?_
    refine j_widen (k2 := k9) (n2 := n9) (by omega) (by omega) ?_
    exact kx X σ r hC hr hv
  | succ d ih =>
    intro z X σ r k n hC hr hv h0 hz hkn
    have hI := hv.1
    have hc0 := IC_n hI
    refine j_iload hC dL_build_68 0 rfl ?_
    refine j_iload hC dL_build_70 1 rfl ?_
    refine j_icmp_ge (tgt := 115) hC dL_build_72 (by decide) (by omega) (fun h => absurd h (by omega)) (fun _ => ?_)
    refine j_aload_n hC dL_build_75 2 rfl ?_
    refine j_aload_n hC dL_build_76 4 rfl ?_
    refine j_aload_n hC dL_build_77 3 rfl ?_
    refine j_iload hC dL_build_78 0 rfl ?_
    refine j_bipush hC dL_build_80 (by decide) ?_
    refine j_irem hC dL_build_82 (by omega) ?_
    refine j_callS (ar := 2) hC hR (c_L_cell (hlJ hC) (gx g X) σ hgn (z % 16) (by omega)) [.ref a, .ref (gd g (0))] rfl (by decide) (by decide +kernel) rfl wd405 wd406 wd0 wd407 (by first | decide | omega) (Nat.le_of_ble_eq_true rfl) dL_build_83 ?_
    rintro v1 τ1 ⟨⟨w83, hv1⟩, hτ⟩
    replace hτ := hτ.symm; subst hv1; subst hτ
    refine j_st (st2 := [.int (w83), .ref a, .ref (gd g (0))]) rfl ?_
    refine j_iload hC dL_build_86 0 rfl ?_
    refine j_bipush hC dL_build_88 (by decide) ?_
    refine j_idiv hC dL_build_90 (by omega) ?_
    refine j_iconst hC dL_build_91 ?_
    refine j_imul hC dL_build_92 ?_
    refine j_ishrX hC dL_build_93 ?_
    refine j_sipush hC dL_build_94 (by decide) ?_
    refine j_iload hC dL_build_97 0 rfl ?_
    refine j_imul hC dL_build_99 ?_
    refine j_iaddR hC dL_build_100 ?_
    refine g_callS (ar := 3) hC hR (c_L_act (hlJ hC) g X σ ((sx w83 ((z / 16) * 3)) + iI (647 * z)) hr hv) [] rfl (by decide) (by decide +kernel) rfl wd409 wd410 wd0 wd411 (by omega) (Nat.le_of_ble_eq_true rfl) dL_build_101 ?_
    rintro v1 τ2 Y2 ⟨hv1, hv2, r2, hr2⟩ hC
    subst hv1
    refine j_st (st2 := [vI (1)]) rfl ?_
    refine j_if_ne (tgt := 109) hC dL_build_104 (by decide) (by omega) (fun _ => ?_) (fun h => absurd h (by omega))
    refine j_iinc hC dL_build_109 0 [(5, vI (z + 1)), (4, vI (c)), (0, .ref (gd g (0))), (1, .ref (gb g)), (2, .ref a)] rfl (by decide) rfl ?_
    refine j_goto (tgt := 68) hC dL_build_112 (by decide) ?_
    exact ih (z + 1) _ _ r2 _ _ hC hr2 hv2 (by omega) (by omega) (by omega)
set_option maxHeartbeats 4000000 in
set_option maxRecDepth 100000 in
theorem c_L_build {ll : Launch} (hll : ll.stackTraces = false) (g : GG) (X : va_W) (σ : Sg) (hgn : gn g ≤ 260) (hv : Iv σ) (h0 : σ.1 0 = 0) (hG : ∀ p j : Int, 0 ≤ p → p < 9 → 0 ≤ j → j < 9 → (σ.2 0 p = σ.2 0 j ↔ p = j)) : CG ll yL_build cL_build 6 (some (.object "SignMasonsLaw$Sim")) 6 150 760 7500 g X [.ref (gd g 0), .ref (gb g)] σ (fun v τ Y => Iv τ ∧ ∃ a r2, v = some (.ref a) ∧ Rp g Y a τ r2) := by
  refine CG_of (own := RL) hll (by decide) rfl (Nat.le_of_ble_eq_true rfl) (fun mc hC _ hR => ?_)
  refine j_lv (lv2 := [(0, .ref (gd g (0))), (1, .ref (gb g))]) rfl ?_
  have hn0 : nLo σ = 0 := by show (σ.1 0).toNat = 0; omega
  refine x_newS hC hR wd524 wd525 wd4 (by omega) dL_build_0 (fun a Y1 hn hC => ?_)
  refine j_dup hC dL_build_3 rfl ?_
  refine g_callI (ar := 0) hC hR (c_X4_init (hlJ hC) g Y1 σ hn.1 hn0 hG) [.ref a] rfl (by decide) (by decide +kernel) rfl rfl wd526 wd527 wd4 wd528 (by omega) (Nat.le_of_ble_eq_true rfl) dL_build_4 ?_
  rintro v1 τ1 Y2 ⟨hv1, hτ, r2, hr2⟩ hC
  replace hτ := hτ.symm; subst hv1; subst hτ
  refine j_st (st2 := [.ref a]) rfl ?_
  refine j_astore_n hC dL_build_7 [(2, .ref a), (0, .ref (gd g (0))), (1, .ref (gb g))] (by decide) rfl ?_
  refine j_iconst hC dL_build_8 ?_
  refine j_aload_n hC dL_build_9 2 rfl ?_
  refine j_iconst hC dL_build_10 ?_
  refine j_callS (ar := 2) hC hR (c_L_cell (hlJ hC) (gx g Y2) σ hgn 1 (by omega)) [vI (1)] rfl (by decide) (by decide +kernel) rfl wd405 wd406 wd0 wd407 (by first | decide | omega) (Nat.le_of_ble_eq_true rfl) dL_build_11 ?_
  rintro v1 τ1 ⟨⟨w11, hv1⟩, hτ⟩
  replace hτ := hτ.symm; subst hv1; subst hτ
  refine j_st (st2 := [.int (w11), vI (1)]) rfl ?_
  refine j_iconst hC dL_build_14 ?_
  refine j_callS1 (ar := 2) hC hR (c_L_below (hlJ hC) (gx g Y2) σ w11 4 (by omega)) [vI (1)] rfl (by decide) (by decide +kernel) rfl wd401 wd402 wd0 wd403 (by first | decide | omega) (Nat.le_of_ble_eq_true rfl) dL_build_15 ?_
  have hb15 := bl_rg w11 (n := 4) (by omega)
  refine j_iadd hC dL_build_18 ?_
  refine j_istore_n hC dL_build_19 [(3, vI (1 + (bl w11 4))), (2, .ref a), (0, .ref (gd g (0))), (1, .ref (gb g))] (by decide) rfl ?_
  refine j_iconst hC dL_build_20 ?_
  refine j_istore hC dL_build_21 [(4, vI (0)), (3, vI (1 + (bl w11 4))), (2, .ref a), (0, .ref (gd g (0))), (1, .ref (gb g))] (by decide) rfl ?_
  refine j_sub [0, 1, 3, 4, 2] rfl ?_
  refine lp_build1 hR 20 140 (by omega) (1 + (bl w11 4)) (by omega) ?_ (1 + (bl w11 4)).toNat 0 _ _ r2 _ _ hC hr2 hv h0 (by omega) (by omega)
  intro X2 σ2 r3 hC hr hv
  refine j_bipush hC dL_build_50 (by decide) ?_
  refine j_aload_n hC dL_build_52 1 rfl ?_
  refine j_iconst hC dL_build_53 ?_
  refine j_callS (ar := 2) hC hR (c_L_cell (hlJ hC) (gx g X2) σ2 hgn 0 (by omega)) [vI (10)] rfl (by decide) (by decide +kernel) rfl wd405 wd406 wd0 wd407 (by first | decide | omega) (Nat.le_of_ble_eq_true rfl) dL_build_54 ?_
  rintro v1 τ1 ⟨⟨w54, hv1⟩, hτ⟩
  replace hτ := hτ.symm; subst hv1; subst hτ
  refine j_st (st2 := [.int (w54), vI (10)]) rfl ?_
  refine j_bipush hC dL_build_57 (by decide) ?_
  refine j_callS1 (ar := 2) hC hR (c_L_below (hlJ hC) (gx g X2) σ2 w54 50 (by omega)) [vI (10)] rfl (by decide) (by decide +kernel) rfl wd401 wd402 wd0 wd403 (by first | decide | omega) (Nat.le_of_ble_eq_true rfl) dL_build_59 ?_
  have hb59 := bl_rg w54 (n := 50) (by omega)
  refine j_iadd hC dL_build_62 ?_
  refine j_istore hC dL_build_63 [(4, vI (10 + (bl w54 50))), (0, .ref (gd g (0))), (1, .ref (gb g)), (2, .ref a)] (by decide) rfl ?_
  refine j_iconst hC dL_build_65 ?_
  refine j_istore hC dL_build_66 [(5, vI (0)), (4, vI (10 + (bl w54 50))), (0, .ref (gd g (0))), (1, .ref (gb g)), (2, .ref a)] (by decide) rfl ?_
  refine lp_build2 hR 760 7500 (by omega) hgn (10 + (bl w54 50)) (by omega) ?_ (10 + (bl w54 50)).toNat 0 _ _ r3 _ _ hC hr hv (by omega) (by omega) (by omega)
  intro X3 σ3 r4 hC hr hv
  refine j_aload_n hC dL_build_115 2 rfl ?_
  exact g_aret hC (Or.inl ⟨_, rfl⟩) (Or.inr ⟨_, rfl⟩) dL_build_116 ⟨hv, _, _, rfl, hr⟩
