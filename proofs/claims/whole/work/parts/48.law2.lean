theorem and31 (x : Int32) : 0 ≤ (x &&& iI 31).toInt ∧ (x &&& iI 31).toInt < 32 := by
  have e : (x &&& iI 31).toBitVec = x.toBitVec &&& 31#32 := rfl
  have h : (x &&& iI 31).toBitVec.toNat ≤ 31 := by
    rw [e, BitVec.toNat_and]
    exact Nat.and_le_right
  have h2 : (x &&& iI 31).toInt = ((x &&& iI 31).toBitVec.toNat : Int) := by
    show (x &&& iI 31).toBitVec.toInt = _
    exact BitVec.toInt_eq_toNat_of_lt (by omega)
  rw [h2]
  omega
set_option maxHeartbeats 4000000 in
set_option maxRecDepth 100000 in
theorem law_loop {mc : MC} {g : GG} {Q : State → Prop} {b L : Nat} {xs : Nat → Int32} (hC : Cx mc g cL_law RL 9 (some .boolean)) (hR : mR mc = rmJ 12 438 667605 7093289) (hX : va_X b L xs (mS mc) (mS mc).heap) (hbl : b < (mS mc).heap.size) (hbA : ¬ gA g b) (hL : L ≤ 3584) (kend : ∀ (k n : Nat) (i : Int) (σ : Sg), k ≤ 667605 → n ≤ 7093289 → J mc g k n Q 2160 [(4, vI (i)), (1, .ref (gd g (0))), (2, .ref (gd g (19))), (3, .ref (gd g (27))), (0, .ref b)] [] σ) : ∀ (d : Nat) (i : Int) (k n : Nat) (σ : Sg), RC σ σ → 0 ≤ i → i ≤ 3591 → (L : Int) < i + 7 * d + 7 → k + 68 * d ≤ 667605 → n + 340 * d ≤ 7093289 → J mc g k n Q 23 [(4, vI (i)), (1, .ref (gd g (0))), (2, .ref (gd g (19))), (3, .ref (gd g (27))), (0, .ref b)] [] σ := by
  intro d
  induction d with
  | zero =>
    intro i k n σ hRR h0 h1 h2 h3 h4
    refine j_iload hC dL_law_23 0 rfl ?_
    refine j_aload_n hC dL_law_25 4 rfl ?_
    refine j_slen hC hX hbl hbA dL_law_26 ?_
    refine j_bipush hC dL_law_27 (by decide) ?_
    refine j_isub hC dL_law_29 ?_
    refine j_icmp_gt (tgt := 2160) hC dL_law_30 (by decide) (by omega) (fun _ => ?_) (fun h => absurd h (by omega))
    refine j_sub [0, 1, 2, 3, 4] rfl ?_
    exact kend k n i σ (by omega) (by omega)
  | succ d ih =>
    intro i k n σ hRR h0 h1 h2 h3 h4
    by_cases hlt : (L : Int) < i + 7
    · refine j_iload hC dL_law_23 0 rfl ?_
      refine j_aload_n hC dL_law_25 4 rfl ?_
      refine j_slen hC hX hbl hbA dL_law_26 ?_
      refine j_bipush hC dL_law_27 (by decide) ?_
      refine j_isub hC dL_law_29 ?_
      refine j_icmp_gt (tgt := 2160) hC dL_law_30 (by decide) (by omega) (fun _ => ?_) (fun h => absurd h (by omega))
      refine j_sub [0, 1, 2, 3, 4] rfl ?_
      exact kend k n i σ (by omega) (by omega)
    · have kx : ∀ τ, RC τ τ → J mc g (k + 68) (n + 340) Q 2154 [(4, vI (i)), (1, .ref (gd g (0))), (2, .ref (gd g (19))), (3, .ref (gd g (27))), (0, .ref b)] [] τ := by
        intro τ hτ
        refine j_iinc hC dL_law_2154 0 [(4, vI (i + 7)), (1, .ref (gd g (0))), (2, .ref (gd g (19))), (3, .ref (gd g (27))), (0, .ref b)] rfl (by decide) rfl ?_
        refine j_goto (tgt := 23) hC dL_law_2157 (by decide) ?_
        refine j_sub [0, 1, 2, 3, 4] rfl ?_
        exact ih (i + 7) (k + 68) (n + 340) τ hτ (by omega) (by omega) (by omega) (by omega) (by omega)
      obtain ⟨z0, a0, b0, e0⟩ := iI_of (xs i.toNat)
      obtain ⟨w, w0, w1, ew⟩ : ∃ w : Int, 0 ≤ w ∧ w < 32 ∧ iI z0 &&& iI 31 = iI w := ⟨(iI z0 &&& iI 31).toInt, (and31 _).1, (and31 _).2, (Int32.ofInt_toInt _).symm⟩
      refine j_iload hC dL_law_23 0 rfl ?_
      refine j_aload_n hC dL_law_25 4 rfl ?_
      refine j_slen hC hX hbl hbA dL_law_26 ?_
      refine j_bipush hC dL_law_27 (by decide) ?_
      refine j_isub hC dL_law_29 ?_
      refine j_icmp_gt (tgt := 2160) hC dL_law_30 (by decide) (by omega) (fun h => absurd h (by omega)) (fun _ => ?_)
      refine j_aload_n hC dL_law_33 4 rfl ?_
      refine j_iload hC dL_law_34 0 rfl ?_
      refine j_sld hC hX hbl hbA (by omega) dL_law_36 ?_
      rw [e0]
      refine j_bipush hC dL_law_37 (by decide) ?_
      refine j_iand (r := w) hC dL_law_39 ew ?_
      refine j_sub [0, 1, 2, 3, 4] rfl ?_
      rcases (show w = 0 ∨ w = 1 ∨ w = 2 ∨ w = 3 ∨ w = 4 ∨ w = 5 ∨ w = 6 ∨ w = 7 ∨ w = 8 ∨ w = 9 ∨ w = 10 ∨ w = 11 ∨ w = 12 ∨ w = 13 ∨ w = 14 ∨ w = 15 ∨ w = 16 ∨ w = 17 ∨ w = 18 ∨ w = 19 ∨ w = 20 ∨ w = 21 ∨ w = 22 ∨ w = 23 ∨ w = 24 ∨ w = 25 ∨ w = 26 ∨ w = 27 ∨ w = 28 ∨ w = 29 ∨ w = 30 ∨ w = 31 by omega) with rfl | rfl | rfl | rfl | rfl | rfl | rfl | rfl | rfl | rfl | rfl | rfl | rfl | rfl | rfl | rfl | rfl | rfl | rfl | rfl | rfl | rfl | rfl | rfl | rfl | rfl | rfl | rfl | rfl | rfl | rfl | rfl
      · exact j_tabIn (tgt := 180) (off := 140) hC (by decide) dL_law_40 (by decide) rfl (by decide) (lc_0 hC hR hX hbl hbA hRR i (by omega) (by omega) kx)
      · exact j_tabIn (tgt := 224) (off := 184) hC (by decide) dL_law_40 (by decide) rfl (by decide) (lc_1 hC hR hX hbl hbA hRR i (by omega) (by omega) kx)
      · exact j_tabIn (tgt := 342) (off := 302) hC (by decide) dL_law_40 (by decide) rfl (by decide) (lc_2 hC hR hX hbl hbA hRR i (by omega) (by omega) kx)
      · exact j_tabIn (tgt := 410) (off := 370) hC (by decide) dL_law_40 (by decide) rfl (by decide) (lc_3 hC hR hX hbl hbA hRR i (by omega) (by omega) kx)
      · exact j_tabIn (tgt := 490) (off := 450) hC (by decide) dL_law_40 (by decide) rfl (by decide) (lc_4 hC hR hX hbl hbA hRR i (by omega) (by omega) kx)
      · exact j_tabIn (tgt := 558) (off := 518) hC (by decide) dL_law_40 (by decide) rfl (by decide) (lc_5 hC hR hX hbl hbA hRR i (by omega) (by omega) kx)
      · exact j_tabIn (tgt := 638) (off := 598) hC (by decide) dL_law_40 (by decide) rfl (by decide) (lc_6 hC hR hX hbl hbA hRR i (by omega) (by omega) kx)
      · exact j_tabIn (tgt := 651) (off := 611) hC (by decide) dL_law_40 (by decide) rfl (by decide) (lc_7 hC hR hX hbl hbA hRR i (by omega) (by omega) kx)
      · exact j_tabIn (tgt := 726) (off := 686) hC (by decide) dL_law_40 (by decide) rfl (by decide) (lc_8 hC hR hX hbl hbA hRR i (by omega) (by omega) kx)
      · exact j_tabIn (tgt := 794) (off := 754) hC (by decide) dL_law_40 (by decide) rfl (by decide) (lc_9 hC hR hX hbl hbA hRR i (by omega) (by omega) kx)
      · exact j_tabIn (tgt := 807) (off := 767) hC (by decide) dL_law_40 (by decide) rfl (by decide) (lc_10 hC hR hX hbl hbA hRR i (by omega) (by omega) kx)
      · exact j_tabIn (tgt := 863) (off := 823) hC (by decide) dL_law_40 (by decide) rfl (by decide) (lc_11 hC hR hX hbl hbA hRR i (by omega) (by omega) kx)
      · exact j_tabIn (tgt := 931) (off := 891) hC (by decide) dL_law_40 (by decide) rfl (by decide) (lc_12 hC hR hX hbl hbA hRR i (by omega) (by omega) kx)
      · exact j_tabIn (tgt := 999) (off := 959) hC (by decide) dL_law_40 (by decide) rfl (by decide) (lc_13 hC hR hX hbl hbA hRR i (by omega) (by omega) kx)
      · exact j_tabIn (tgt := 1067) (off := 1027) hC (by decide) dL_law_40 (by decide) rfl (by decide) (lc_14 hC hR hX hbl hbA hRR i (by omega) (by omega) kx)
      · exact j_tabIn (tgt := 1135) (off := 1095) hC (by decide) dL_law_40 (by decide) rfl (by decide) (lc_15 hC hR hX hbl hbA hRR i (by omega) (by omega) kx)
      · exact j_tabIn (tgt := 1203) (off := 1163) hC (by decide) dL_law_40 (by decide) rfl (by decide) (lc_16 hC hR hX hbl hbA hRR i (by omega) (by omega) kx)
      · exact j_tabIn (tgt := 1283) (off := 1243) hC (by decide) dL_law_40 (by decide) rfl (by decide) (lc_17 hC hR hX hbl hbA hRR i (by omega) (by omega) kx)
      · exact j_tabIn (tgt := 1339) (off := 1299) hC (by decide) dL_law_40 (by decide) rfl (by decide) (lc_18 hC hR hX hbl hbA hRR i (by omega) (by omega) kx)
      · exact j_tabIn (tgt := 1395) (off := 1355) hC (by decide) dL_law_40 (by decide) rfl (by decide) (lc_19 hC hR hX hbl hbA hRR i (by omega) (by omega) kx)
      · exact j_tabIn (tgt := 1451) (off := 1411) hC (by decide) dL_law_40 (by decide) rfl (by decide) (lc_20 hC hR hX hbl hbA hRR i (by omega) (by omega) kx)
      · exact j_tabIn (tgt := 1507) (off := 1467) hC (by decide) dL_law_40 (by decide) rfl (by decide) (lc_21 hC hR hX hbl hbA hRR i (by omega) (by omega) kx)
      · exact j_tabIn (tgt := 1587) (off := 1547) hC (by decide) dL_law_40 (by decide) rfl (by decide) (lc_22 hC hR hX hbl hbA hRR i (by omega) (by omega) kx)
      · exact j_tabIn (tgt := 1691) (off := 1651) hC (by decide) dL_law_40 (by decide) rfl (by decide) (lc_23 hC hR hX hbl hbA hRR i (by omega) (by omega) kx)
      · exact j_tabIn (tgt := 1759) (off := 1719) hC (by decide) dL_law_40 (by decide) rfl (by decide) (lc_24 hC hR hX hbl hbA hRR i (by omega) (by omega) kx)
      · exact j_tabIn (tgt := 1827) (off := 1787) hC (by decide) dL_law_40 (by decide) rfl (by decide) (lc_25 hC hR hX hbl hbA hRR i (by omega) (by omega) kx)
      · exact j_tabIn (tgt := 1895) (off := 1855) hC (by decide) dL_law_40 (by decide) rfl (by decide) (lc_26 hC hR hX hbl hbA hRR i (by omega) (by omega) kx)
      · exact j_tabIn (tgt := 1963) (off := 1923) hC (by decide) dL_law_40 (by decide) rfl (by decide) (lc_27 hC hR hX hbl hbA hRR i (by omega) (by omega) kx)
      · exact j_tabIn (tgt := 2031) (off := 1991) hC (by decide) dL_law_40 (by decide) rfl (by decide) (lc_28 hC hR hX hbl hbA hRR i (by omega) (by omega) kx)
      · exact j_tabIn (tgt := 2099) (off := 2059) hC (by decide) dL_law_40 (by decide) rfl (by decide) (lc_29 hC hR hX hbl hbA hRR i (by omega) (by omega) kx)
      · exact j_tabIn (tgt := 2140) (off := 2100) hC (by decide) dL_law_40 (by decide) rfl (by decide) (lc_30 hC hR hX hbl hbA hRR i (by omega) (by omega) kx)
      · exact j_tabOut (tgt := 2154) hC (by decide) dL_law_40 (by decide) (by decide) (j_widen (by omega) (by omega) (kx σ hRR))
