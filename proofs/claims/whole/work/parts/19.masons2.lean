set_option maxHeartbeats 4000000 in
set_option maxRecDepth 100000 in
theorem c_X3_tryLoan_ok {l : Launch} (hl : l.stackTraces = false) (g : GG) (σ : Sg) (hI : IC σ) {b : Nat} (hb : b < 5) {e : Nat} (he : e < 5) (s : Int) (hs : 0 ≤ s ∧ s < σ.1 (2 + b)) (ht : tlOK σ b s e) : CN l yX3_tryLoan cX3_tryLoan 6 (some .boolean) 4 90 0 0 g [.ref (gd g (0)), .ref (gd g (4 + b)), vI (s), .ref (gd g (4 + e))] σ (pt (some (vI 1)) (tlS σ b s e)) := by
  refine CN_of (own := RX3) hl (by decide) rfl (Nat.le_of_ble_eq_true rfl) (fun mc hC _ hR => ?_)
  refine j_lv (lv2 := [(0, .ref (gd g (0))), (1, .ref (gd g (4 + b))), (2, vI (s)), (3, .ref (gd g (4 + e)))]) rfl ?_
  have hn := hI.2.2.2.1 b hb
  have hne := hI.2.2.2.1 e he
  have hk := hI.2.2.2.2.1 b hb s (by omega) (by omega)
  have hm := hI.2.2.2.2.2 b hb s (by omega) (by omega)
  have hfu := fuB_rg (σ := σ) (e := e) hk
  have ht1 := ht.1
  have ht2 := ht.2
  refine j_aload_n hC dX3_tryLoan_0 1 rfl ?_
  refine j_getN hC inX0 rfl (4 + b) (hw_bk g _ hb) 2 (by decide) wd49 rfl dX3_tryLoan_1 ?_
  refine j_iload_n hC dX3_tryLoan_4 2 rfl ?_
  refine j_iald hC (14 + b) (hw_mn g _ hb) (by omega) dX3_tryLoan_5 ?_
  refine j_istore hC dX3_tryLoan_6 [(4, vI ((σ).2 (6 + b) s)), (0, .ref (gd g (0))), (1, .ref (gd g (4 + b))), (2, vI (s)), (3, .ref (gd g (4 + e)))] (by decide) rfl ?_
  refine j_aload_n hC dX3_tryLoan_8 4 rfl ?_
  refine j_iload hC dX3_tryLoan_9 0 rfl ?_
  refine j_callVN1 (ar := 1) hC hR (c_X0_hasRoomFor (hlJ hC) g σ hI he ((σ).2 (6 + b) s) (by omega)) [] rfl (4 + e) (hw_bk g _ he) rfl rfl (by decide) (by decide +kernel) rfl wd261 wd263 wp16 wd3 wd264 (by decide) (Nat.le_of_ble_eq_true rfl) dX3_tryLoan_11 ?_
  refine j_ifb_ne (tgt := 19) hC dX3_tryLoan_14 (by decide) (fun _ => ?_) (fun h => (h (by omega)).elim)
  refine j_aload_n hC dX3_tryLoan_19 4 rfl ?_
  refine j_aload_n hC dX3_tryLoan_20 2 rfl ?_
  refine j_getN hC inX0 rfl (4 + b) (hw_bk g _ hb) 1 (by decide) wd47 rfl dX3_tryLoan_21 ?_
  refine j_iload_n hC dX3_tryLoan_24 3 rfl ?_
  refine j_iald hC (9 + b) (hw_lk g _ hb) (by omega) dX3_tryLoan_25 ?_
  refine j_callVN1 (ar := 1) hC hR (c_X0_firstUnlike (hlJ hC) g σ hI he ((σ).2 (1 + b) s) (by omega)) [] rfl (4 + e) (hw_bk g _ he) rfl rfl (by decide) (by decide +kernel) rfl wd269 wd271 wp18 wd3 wd272 (by decide) (Nat.le_of_ble_eq_true rfl) dX3_tryLoan_26 ?_
  have hf26 : fuB σ e ((σ).2 (1 + b) s) = -1 ∨ (0 ≤ fuB σ e ((σ).2 (1 + b) s) ∧ fuB σ e ((σ).2 (1 + b) s) < 2304) := fuF_rg _ _ _ (by omega) 4 0 (by omega)
  refine j_istore hC dX3_tryLoan_29 [(5, vI (fuB σ e ((σ).2 (1 + b) s))), (4, vI ((σ).2 (6 + b) s)), (0, .ref (gd g (0))), (1, .ref (gd g (4 + b))), (2, vI (s)), (3, .ref (gd g (4 + e)))] (by decide) rfl ?_
  refine j_iload hC dX3_tryLoan_31 0 rfl ?_
  refine j_iconst hC dX3_tryLoan_33 ?_
  refine j_icmp_ne (tgt := 39) hC dX3_tryLoan_34 (by decide) (by omega) (fun _ => ?_) (fun h => absurd h (by omega))
  refine j_aload_n hC dX3_tryLoan_39 2 rfl ?_
  refine j_get hC inX3 rfl 0 rfl 2 (by decide) wd63 rfl dX3_tryLoan_40 ?_
  refine j_aload_n hC dX3_tryLoan_43 5 rfl ?_
  refine j_callVN0 (ar := 1) hC hR (c_X0_copyFrom (hlJ hC) g σ hI (show 4 < 5 by decide) he) [] rfl 8 rfl rfl rfl (by decide) (by decide +kernel) rfl wd280 wd282 wp20 wd3 wd283 (by decide) (Nat.le_of_ble_eq_true rfl) dX3_tryLoan_44 ?_
  refine j_aload_n hC dX3_tryLoan_47 2 rfl ?_
  refine j_get hC inX3 rfl 0 rfl 2 (by decide) wd63 rfl dX3_tryLoan_48 ?_
  refine j_iload hC dX3_tryLoan_51 0 rfl ?_
  refine j_iload hC dX3_tryLoan_53 1 rfl ?_
  refine j_callVN1 (ar := 2) hC hR (c_X0_append (hlJ hC) g (cpB σ 4 e) (by decide : 4 < 5) (fuB σ e ((σ).2 (1 + b) s)) ((σ).2 (6 + b) s) (by show 0 ≤ σ.1 (2 + e) ∧ σ.1 (2 + e) < 16; omega)) [] rfl 8 rfl rfl rfl (by decide) (by decide +kernel) rfl wd287 wd289 wp21 wd3 wd290 (by decide) (Nat.le_of_ble_eq_true rfl) dX3_tryLoan_55 ?_
  refine j_pop hC dX3_tryLoan_58 rfl ?_
  refine j_iconst hC dX3_tryLoan_59 ?_
  exact j_zret hC (by decide) dX3_tryLoan_60 ⟨rfl, rfl⟩
set_option maxHeartbeats 4000000 in
set_option maxRecDepth 100000 in
theorem c_X3_tryLoan_no {l : Launch} (hl : l.stackTraces = false) (g : GG) (σ : Sg) (hI : IC σ) {b : Nat} (hb : b < 5) {e : Nat} (he : e < 5) (s : Int) (hs : 0 ≤ s ∧ s < σ.1 (2 + b)) (ht : ¬ tlOK σ b s e) : CN l yX3_tryLoan cX3_tryLoan 6 (some .boolean) 4 90 0 0 g [.ref (gd g (0)), .ref (gd g (4 + b)), vI (s), .ref (gd g (4 + e))] σ (pt (some (vI 0)) (σ)) := by
  refine CN_of (own := RX3) hl (by decide) rfl (Nat.le_of_ble_eq_true rfl) (fun mc hC _ hR => ?_)
  refine j_lv (lv2 := [(0, .ref (gd g (0))), (1, .ref (gd g (4 + b))), (2, vI (s)), (3, .ref (gd g (4 + e)))]) rfl ?_
  have hn := hI.2.2.2.1 b hb
  have hne := hI.2.2.2.1 e he
  have hk := hI.2.2.2.2.1 b hb s (by omega) (by omega)
  have hm := hI.2.2.2.2.2 b hb s (by omega) (by omega)
  have hfu := fuB_rg (σ := σ) (e := e) hk
  refine j_aload_n hC dX3_tryLoan_0 1 rfl ?_
  refine j_getN hC inX0 rfl (4 + b) (hw_bk g _ hb) 2 (by decide) wd49 rfl dX3_tryLoan_1 ?_
  refine j_iload_n hC dX3_tryLoan_4 2 rfl ?_
  refine j_iald hC (14 + b) (hw_mn g _ hb) (by omega) dX3_tryLoan_5 ?_
  refine j_istore hC dX3_tryLoan_6 [(4, vI ((σ).2 (6 + b) s)), (0, .ref (gd g (0))), (1, .ref (gd g (4 + b))), (2, vI (s)), (3, .ref (gd g (4 + e)))] (by decide) rfl ?_
  refine j_aload_n hC dX3_tryLoan_8 4 rfl ?_
  refine j_iload hC dX3_tryLoan_9 0 rfl ?_
  refine j_callVN1 (ar := 1) hC hR (c_X0_hasRoomFor (hlJ hC) g σ hI he ((σ).2 (6 + b) s) (by omega)) [] rfl (4 + e) (hw_bk g _ he) rfl rfl (by decide) (by decide +kernel) rfl wd261 wd263 wp16 wd3 wd264 (by decide) (Nat.le_of_ble_eq_true rfl) dX3_tryLoan_11 ?_
  refine j_ifb_ne (tgt := 19) hC dX3_tryLoan_14 (by decide) (fun h14 => ?_) (fun h14 => ?_)
  · refine j_aload_n hC dX3_tryLoan_19 4 rfl ?_
    refine j_aload_n hC dX3_tryLoan_20 2 rfl ?_
    refine j_getN hC inX0 rfl (4 + b) (hw_bk g _ hb) 1 (by decide) wd47 rfl dX3_tryLoan_21 ?_
    refine j_iload_n hC dX3_tryLoan_24 3 rfl ?_
    refine j_iald hC (9 + b) (hw_lk g _ hb) (by omega) dX3_tryLoan_25 ?_
    refine j_callVN1 (ar := 1) hC hR (c_X0_firstUnlike (hlJ hC) g σ hI he ((σ).2 (1 + b) s) (by omega)) [] rfl (4 + e) (hw_bk g _ he) rfl rfl (by decide) (by decide +kernel) rfl wd269 wd271 wp18 wd3 wd272 (by decide) (Nat.le_of_ble_eq_true rfl) dX3_tryLoan_26 ?_
    have hf26 : fuB σ e ((σ).2 (1 + b) s) = -1 ∨ (0 ≤ fuB σ e ((σ).2 (1 + b) s) ∧ fuB σ e ((σ).2 (1 + b) s) < 2304) := fuF_rg _ _ _ (by omega) 4 0 (by omega)
    refine j_istore hC dX3_tryLoan_29 [(5, vI (fuB σ e ((σ).2 (1 + b) s))), (4, vI ((σ).2 (6 + b) s)), (0, .ref (gd g (0))), (1, .ref (gd g (4 + b))), (2, vI (s)), (3, .ref (gd g (4 + e)))] (by decide) rfl ?_
    refine j_iload hC dX3_tryLoan_31 0 rfl ?_
    refine j_iconst hC dX3_tryLoan_33 ?_
    refine j_icmp_ne (tgt := 39) hC dX3_tryLoan_34 (by decide) (by omega) (fun h34 => ?_) (fun h34 => ?_)
    · exact (ht ⟨h14, h34⟩).elim
    · refine j_iconst hC dX3_tryLoan_37 ?_
      exact j_zret hC (by decide) dX3_tryLoan_38 ⟨rfl, rfl⟩
  · refine j_iconst hC dX3_tryLoan_17 ?_
    exact j_zret hC (by decide) dX3_tryLoan_18 ⟨rfl, rfl⟩
set_option maxHeartbeats 4000000 in
set_option maxRecDepth 100000 in
theorem lp_bestToBorrow {mc : MC} {g : GG} (hC : Cx mc g cX3_bestToBorrow RX3 9 (some .int)) (hR : mR mc = rmJ 7 119 0 0) (a c : Int) {b : Nat} (hb : b < 5) (hb4 : b < 4) {e : Nat} (he : e < 5) : ∀ (d : Nat) (τ : Sg) (z : Int) (fo : Int) (mo : Int), (IC τ) → (0 ≤ z) → (z + (d : Int) = τ.1 (2 + b)) → (-1 ≤ mo ∧ mo ≤ 16) → J mc g 0 0 (QN mc g (pt (some (vI (bbF b e d z fo mo τ).1)) ((bbF b e d z fo mo τ).2)) 0 0) 29 [(7, vI (z)), (5, vI (fo)), (6, vI (mo)), (0, .ref (gd g (0))), (1, vI (a)), (2, vI (c)), (3, .ref (gd g (4 + b))), (4, .ref (gd g (4 + e)))] [] τ := by
  intro d
  induction d with
  | zero =>
    intro τ z fo mo hI h0 hz hm
    have hn := hI.2.2.2.1 b hb
    refine j_iload hC dX3_bestToBorrow_29 0 rfl ?_
    refine j_aload_n hC dX3_bestToBorrow_31 6 rfl ?_
    refine j_getN hC inX0 rfl (4 + b) (hw_bk g _ hb) 3 (by decide) wd51 rfl dX3_bestToBorrow_32 ?_
    refine j_icmp_ge (tgt := 81) hC dX3_bestToBorrow_35 (by decide) (by omega) (fun _ => ?_) (fun h => absurd h (by omega))
    refine j_iload hC dX3_bestToBorrow_81 1 rfl ?_
    exact j_iret hC dX3_bestToBorrow_83 ⟨rfl, rfl⟩
  | succ d ih =>
    intro τ z fo mo hI h0 hz hm
    have hn := hI.2.2.2.1 b hb
    rw [show bbF b e (d + 1) z fo mo τ = if tlOK τ b z e then (if mo < cuB (tlS τ b z e) 4 b then bbF b e d (z + 1) z (cuB (tlS τ b z e) 4 b) (tlS τ b z e) else bbF b e d (z + 1) fo mo (tlS τ b z e)) else bbF b e d (z + 1) fo mo τ from rfl]
    refine j_iload hC dX3_bestToBorrow_29 0 rfl ?_
    refine j_aload_n hC dX3_bestToBorrow_31 6 rfl ?_
    refine j_getN hC inX0 rfl (4 + b) (hw_bk g _ hb) 3 (by decide) wd51 rfl dX3_bestToBorrow_32 ?_
    refine j_icmp_ge (tgt := 81) hC dX3_bestToBorrow_35 (by decide) (by omega) (fun h => absurd h (by omega)) (fun _ => ?_)
    by_cases htl : tlOK τ b z e
    · rw [if_pos htl]
      have hI2 := IC_tl hI (b := b) (by omega) he (s := z) (by omega) htl
      have hf55 : 0 ≤ cuB (tlS τ b z e) 4 b ∧ cuB (tlS τ b z e) 4 b ≤ 16 := cnt0_rg _ hI2 hb
      have hz2 : z + 1 + (d : Int) = (tlS τ b z e).1 (2 + b) := by rw [tlS_1 (by omega)]; omega
      refine j_aload_n hC dX3_bestToBorrow_38 3 rfl ?_
      refine j_aload_n hC dX3_bestToBorrow_39 6 rfl ?_
      refine j_iload hC dX3_bestToBorrow_40 0 rfl ?_
      refine j_aload hC dX3_bestToBorrow_42 7 rfl ?_
      refine j_callV1 (ar := 3) hC hR (c_X3_tryLoan_ok (hlJ hC) g τ hI hb he z (by omega) htl) [] rfl 0 rfl rfl rfl (by decide) (by decide +kernel) rfl wd257 wd259 wp15 wd1 wd260 (by decide) (Nat.le_of_ble_eq_true rfl) dX3_bestToBorrow_44 ?_
      refine j_if_eq (tgt := 75) hC dX3_bestToBorrow_47 (by decide) (by omega) (fun h => absurd h (by omega)) (fun _ => ?_)
      refine j_aload_n hC dX3_bestToBorrow_50 3 rfl ?_
      refine j_get hC inX3 rfl 0 rfl 2 (by decide) wd63 rfl dX3_bestToBorrow_51 ?_
      refine j_aload_n hC dX3_bestToBorrow_54 6 rfl ?_
      refine j_callVN1 (ar := 1) hC hR (c_X0_countUnderstood (hlJ hC) g (tlS τ b z e) hI2 (by decide : 4 < 5) hb) [] rfl 8 rfl rfl rfl (by decide) (by decide +kernel) rfl wd166 wd168 wp10 wd3 wd169 (by decide) (Nat.le_of_ble_eq_true rfl) dX3_bestToBorrow_55 ?_
      refine j_istore hC dX3_bestToBorrow_58 [(8, vI (cuB (tlS τ b z e) 4 b)), (7, vI (z)), (5, vI (fo)), (6, vI (mo)), (0, .ref (gd g (0))), (1, vI (a)), (2, vI (c)), (3, .ref (gd g (4 + b))), (4, .ref (gd g (4 + e)))] (by decide) rfl ?_
      refine j_iload hC dX3_bestToBorrow_60 0 rfl ?_
      refine j_iload hC dX3_bestToBorrow_62 3 rfl ?_
      refine j_icmp_le (tgt := 75) hC dX3_bestToBorrow_64 (by decide) (by omega) (fun h64 => ?_) (fun h64 => ?_)
      · refine j_iinc hC dX3_bestToBorrow_75 1 [(7, vI (z + 1)), (8, vI (cuB (tlS τ b z e) 4 b)), (5, vI (fo)), (6, vI (mo)), (0, .ref (gd g (0))), (1, vI (a)), (2, vI (c)), (3, .ref (gd g (4 + b))), (4, .ref (gd g (4 + e)))] rfl (by decide) rfl ?_
        refine j_goto (tgt := 29) hC dX3_bestToBorrow_78 (by decide) ?_
        refine j_sub [0, 2, 3, 4, 5, 6, 7, 8] rfl ?_
        first | (rw [if_pos h64]; exact ih (tlS τ b z e) (z + 1) z _ hI2 (by omega) hz2 (by omega)) | (rw [if_neg (show ¬ mo < cuB (tlS τ b z e) 4 b by omega)]; exact ih (tlS τ b z e) (z + 1) fo mo hI2 (by omega) hz2 hm)
      · refine j_iload hC dX3_bestToBorrow_67 0 rfl ?_
        refine j_istore hC dX3_bestToBorrow_69 [(6, vI (cuB (tlS τ b z e) 4 b)), (8, vI (cuB (tlS τ b z e) 4 b)), (7, vI (z)), (5, vI (fo)), (0, .ref (gd g (0))), (1, vI (a)), (2, vI (c)), (3, .ref (gd g (4 + b))), (4, .ref (gd g (4 + e)))] (by decide) rfl ?_
        refine j_iload hC dX3_bestToBorrow_71 2 rfl ?_
        refine j_istore hC dX3_bestToBorrow_73 [(5, vI (z)), (6, vI (cuB (tlS τ b z e) 4 b)), (8, vI (cuB (tlS τ b z e) 4 b)), (7, vI (z)), (0, .ref (gd g (0))), (1, vI (a)), (2, vI (c)), (3, .ref (gd g (4 + b))), (4, .ref (gd g (4 + e)))] (by decide) rfl ?_
        refine j_iinc hC dX3_bestToBorrow_75 3 [(7, vI (z + 1)), (5, vI (z)), (6, vI (cuB (tlS τ b z e) 4 b)), (8, vI (cuB (tlS τ b z e) 4 b)), (0, .ref (gd g (0))), (1, vI (a)), (2, vI (c)), (3, .ref (gd g (4 + b))), (4, .ref (gd g (4 + e)))] rfl (by decide) rfl ?_
        refine j_goto (tgt := 29) hC dX3_bestToBorrow_78 (by decide) ?_
        refine j_sub [0, 1, 2, 4, 5, 6, 7, 8] rfl ?_
        first | (rw [if_pos h64]; exact ih (tlS τ b z e) (z + 1) z _ hI2 (by omega) hz2 (by omega)) | (rw [if_neg (show ¬ mo < cuB (tlS τ b z e) 4 b by omega)]; exact ih (tlS τ b z e) (z + 1) fo mo hI2 (by omega) hz2 hm)
    · rw [if_neg htl]
      refine j_aload_n hC dX3_bestToBorrow_38 3 rfl ?_
      refine j_aload_n hC dX3_bestToBorrow_39 6 rfl ?_
      refine j_iload hC dX3_bestToBorrow_40 0 rfl ?_
      refine j_aload hC dX3_bestToBorrow_42 7 rfl ?_
      refine j_callV1 (ar := 3) hC hR (c_X3_tryLoan_no (hlJ hC) g τ hI hb he z (by omega) htl) [] rfl 0 rfl rfl rfl (by decide) (by decide +kernel) rfl wd257 wd259 wp15 wd1 wd260 (by decide) (Nat.le_of_ble_eq_true rfl) dX3_bestToBorrow_44 ?_
      refine j_if_eq (tgt := 75) hC dX3_bestToBorrow_47 (by decide) (by omega) (fun _ => ?_) (fun h => absurd h (by omega))
      refine j_iinc hC dX3_bestToBorrow_75 0 [(7, vI (z + 1)), (5, vI (fo)), (6, vI (mo)), (0, .ref (gd g (0))), (1, vI (a)), (2, vI (c)), (3, .ref (gd g (4 + b))), (4, .ref (gd g (4 + e)))] rfl (by decide) rfl ?_
      refine j_goto (tgt := 29) hC dX3_bestToBorrow_78 (by decide) ?_
      refine j_sub [0, 1, 2, 3, 4, 5, 6, 7] rfl ?_
      exact ih τ (z + 1) fo mo hI (by omega) (by omega) hm
set_option maxHeartbeats 4000000 in
set_option maxRecDepth 100000 in
theorem c_X3_bestToBorrow {l : Launch} (hl : l.stackTraces = false) (g : GG) (σ : Sg) (hI : IC σ) (a c : Int) (ha : 0 ≤ a ∧ a < σ.1 0) (hc : 0 ≤ c ∧ c < σ.1 0) : CN l yX3_bestToBorrow cX3_bestToBorrow 9 (some .int) 7 119 0 0 g [.ref (gd g (0)), vI (a), vI (c)] σ (pt (some (vI (bbB σ a c).1)) ((bbB σ a c).2)) := by
  refine CN_of (own := RX3) hl (by decide) rfl (Nat.le_of_ble_eq_true rfl) (fun mc hC _ hR => ?_)
  refine j_lv (lv2 := [(0, .ref (gd g (0))), (1, vI (a)), (2, vI (c))]) rfl ?_
  have hI1 := hI.1
  have ha5 : a.toNat < 5 := by have := hI.1; omega
  have hna := hI.2.2.2.1 a.toNat ha5
  have hc5 : c.toNat < 5 := by have := hI.1; omega
  have hnc := hI.2.2.2.1 c.toNat hc5
  have hn2 := cN_eq hI ha5
  refine j_aload_n hC dX3_bestToBorrow_0 0 rfl ?_
  refine j_iload_n hC dX3_bestToBorrow_1 1 rfl ?_
  refine j_callV1 (ar := 1) hC hR (c_X3_bookOf (hlJ hC) g σ hI a (by omega)) [] rfl 0 rfl rfl rfl (by decide) (by decide +kernel) rfl wd182 wd184 wp13 wd1 wd185 (by decide) (Nat.le_of_ble_eq_true rfl) dX3_bestToBorrow_2 ?_
  refine j_astore_n hC dX3_bestToBorrow_5 [(3, .ref (gd g (4 + a.toNat))), (0, .ref (gd g (0))), (1, vI (a)), (2, vI (c))] (by decide) rfl ?_
  refine j_aload_n hC dX3_bestToBorrow_6 1 rfl ?_
  refine j_iload_n hC dX3_bestToBorrow_7 3 rfl ?_
  refine j_callV1 (ar := 1) hC hR (c_X3_bookOf (hlJ hC) g σ hI c (by omega)) [] rfl 0 rfl rfl rfl (by decide) (by decide +kernel) rfl wd182 wd184 wp13 wd1 wd185 (by decide) (Nat.le_of_ble_eq_true rfl) dX3_bestToBorrow_8 ?_
  refine j_astore hC dX3_bestToBorrow_11 [(4, .ref (gd g (4 + c.toNat))), (3, .ref (gd g (4 + a.toNat))), (0, .ref (gd g (0))), (1, vI (a)), (2, vI (c))] (by decide) rfl ?_
  refine j_iload_n hC dX3_bestToBorrow_13 3 rfl ?_
  refine j_iload_n hC dX3_bestToBorrow_14 4 rfl ?_
  refine j_icmp_ne (tgt := 20) hC dX3_bestToBorrow_15 (by decide) (by omega) (fun h15 => ?_) (fun h15 => ?_)
  · refine j_iconst hC dX3_bestToBorrow_20 ?_
    refine j_istore hC dX3_bestToBorrow_21 [(5, vI (-1)), (4, .ref (gd g (4 + c.toNat))), (3, .ref (gd g (4 + a.toNat))), (0, .ref (gd g (0))), (1, vI (a)), (2, vI (c))] (by decide) rfl ?_
    refine j_iconst hC dX3_bestToBorrow_23 ?_
    refine j_istore hC dX3_bestToBorrow_24 [(6, vI (-1)), (5, vI (-1)), (4, .ref (gd g (4 + c.toNat))), (3, .ref (gd g (4 + a.toNat))), (0, .ref (gd g (0))), (1, vI (a)), (2, vI (c))] (by decide) rfl ?_
    refine j_iconst hC dX3_bestToBorrow_26 ?_
    refine j_istore hC dX3_bestToBorrow_27 [(7, vI (0)), (6, vI (-1)), (5, vI (-1)), (4, .ref (gd g (4 + c.toNat))), (3, .ref (gd g (4 + a.toNat))), (0, .ref (gd g (0))), (1, vI (a)), (2, vI (c))] (by decide) rfl ?_
    refine j_sub [0, 2, 1, 5, 6, 7, 4, 3] rfl ?_
    rw [show bbB σ a c = bbF a.toNat c.toNat (cN σ a.toNat) 0 (-1) (-1) σ from if_neg h15]
    exact lp_bestToBorrow hC hR a c ha5 (by omega) hc5 (cN σ a.toNat) σ 0 (-1) (-1) hI (by omega) (by omega) (by omega)
  · refine j_iconst hC dX3_bestToBorrow_18 ?_
    exact j_iret hC dX3_bestToBorrow_19 ⟨by unfold bbB; rw [if_pos h15], by unfold bbB; rw [if_pos h15]⟩
set_option maxHeartbeats 4000000 in
set_option maxRecDepth 100000 in
theorem x1_X3_bestToBorrow {l : Launch} (hl : l.stackTraces = false) (g : GG) (σ : Sg) (hI : IC σ) (a c : Int) (hr : -2147483648 ≤ a ∧ a < 2147483648) (ha : ¬ (0 ≤ a ∧ a < σ.1 0)) : CX l yX3_bestToBorrow cX3_bestToBorrow 9 (some .int) 7 119 1 6 g [.ref (gd g (0)), vI (a), vI (c)] σ pF (pxE "java/lang/IndexOutOfBoundsException" (σ)) := by
  refine CX_of (own := RX3) hl (by decide) rfl (Nat.le_of_ble_eq_true rfl) (fun mc hC _ hR hE => ?_)
  refine j_lv (lv2 := [(0, .ref (gd g (0))), (1, vI (a)), (2, vI (c))]) rfl ?_
  have hI1 := hI.1
  refine j_aload_n hC dX3_bestToBorrow_0 0 rfl ?_
  refine j_iload_n hC dX3_bestToBorrow_1 1 rfl ?_
  refine j_callVT (ar := 1) hC hR (x_X3_bookOf (hlJ hC) g σ hI a (by omega) (by omega)) [] rfl 0 rfl rfl rfl (by decide) (by decide +kernel) rfl wd182 wd184 wp13 wd1 wd185 (by decide) (Nat.le_of_ble_eq_true rfl) dX3_bestToBorrow_2 hE
set_option maxHeartbeats 4000000 in
set_option maxRecDepth 100000 in
theorem x2_X3_bestToBorrow {l : Launch} (hl : l.stackTraces = false) (g : GG) (σ : Sg) (hI : IC σ) (a c : Int) (hr : -2147483648 ≤ c ∧ c < 2147483648) (ha : 0 ≤ a ∧ a < σ.1 0) (hc : ¬ (0 ≤ c ∧ c < σ.1 0)) : CX l yX3_bestToBorrow cX3_bestToBorrow 9 (some .int) 7 119 1 6 g [.ref (gd g (0)), vI (a), vI (c)] σ pF (pxE "java/lang/IndexOutOfBoundsException" (σ)) := by
  refine CX_of (own := RX3) hl (by decide) rfl (Nat.le_of_ble_eq_true rfl) (fun mc hC _ hR hE => ?_)
  refine j_lv (lv2 := [(0, .ref (gd g (0))), (1, vI (a)), (2, vI (c))]) rfl ?_
  have hI1 := hI.1
  have ha5 : a.toNat < 5 := by have := hI.1; omega
  have hna := hI.2.2.2.1 a.toNat ha5
  refine j_aload_n hC dX3_bestToBorrow_0 0 rfl ?_
  refine j_iload_n hC dX3_bestToBorrow_1 1 rfl ?_
  refine j_callV1 (ar := 1) hC hR (c_X3_bookOf (hlJ hC) g σ hI a (by omega)) [] rfl 0 rfl rfl rfl (by decide) (by decide +kernel) rfl wd182 wd184 wp13 wd1 wd185 (by decide) (Nat.le_of_ble_eq_true rfl) dX3_bestToBorrow_2 ?_
  refine j_astore_n hC dX3_bestToBorrow_5 [(3, .ref (gd g (4 + a.toNat))), (0, .ref (gd g (0))), (1, vI (a)), (2, vI (c))] (by decide) rfl ?_
  refine j_aload_n hC dX3_bestToBorrow_6 1 rfl ?_
  refine j_iload_n hC dX3_bestToBorrow_7 3 rfl ?_
  refine j_callVT (ar := 1) hC hR (x_X3_bookOf (hlJ hC) g σ hI c (by omega) (by omega)) [] rfl 0 rfl rfl rfl (by decide) (by decide +kernel) rfl wd182 wd184 wp13 wd1 wd185 (by decide) (Nat.le_of_ble_eq_true rfl) dX3_bestToBorrow_8 hE
set_option maxHeartbeats 4000000 in
set_option maxRecDepth 100000 in
theorem lp_alikeIfJoined {mc : MC} {g : GG} {σ : Sg} (hC : Cx mc g cX3_alikeIfJoined RX3 5 (some .int)) (hR : mR mc = rmJ 7 110 0 0) (hI : IC σ) (p q : Int) (hp : 0 ≤ p ∧ p < 9 ∧ 0 ≤ q ∧ q < 9) : ∀ (d : Nat) (z : Int) (a : Int), (0 ≤ z) → (z + (d : Int) = σ.1 0) → J mc g 0 0 (QN mc g (pt (some (vI (ajF σ p q d z a))) (σ)) 0 0) 13 [(4, vI (z)), (3, vI (a)), (0, .ref (gd g (0))), (1, vI (p)), (2, vI (q))] [] σ := by
  intro d
  induction d with
  | zero =>
    intro z a h0 hz
    have hI1 := hI.1
    refine j_iload hC dX3_alikeIfJoined_13 0 rfl ?_
    refine j_aload_n hC dX3_alikeIfJoined_15 2 rfl ?_
    refine j_get hC inX3 rfl 0 rfl 3 (by decide) wd64 rfl dX3_alikeIfJoined_16 ?_
    refine j_icmp_ge (tgt := 43) hC dX3_alikeIfJoined_19 (by decide) (by omega) (fun _ => ?_) (fun h => absurd h (by omega))
    refine j_iload_n hC dX3_alikeIfJoined_43 1 rfl ?_
    exact j_iret hC dX3_alikeIfJoined_44 ⟨rfl, rfl⟩
  | succ d ih =>
    intro z a h0 hz
    have hI1 := hI.1
    have hz5 : z.toNat < 5 := by omega
    rw [show ajF σ p q (d + 1) z a = ajF σ p q d (z + 1) (a + cajB σ z.toNat p q) from rfl]
    refine j_iload hC dX3_alikeIfJoined_13 0 rfl ?_
    refine j_aload_n hC dX3_alikeIfJoined_15 2 rfl ?_
    refine j_get hC inX3 rfl 0 rfl 3 (by decide) wd64 rfl dX3_alikeIfJoined_16 ?_
    refine j_icmp_ge (tgt := 43) hC dX3_alikeIfJoined_19 (by decide) (by omega) (fun h => absurd h (by omega)) (fun _ => ?_)
    refine j_iload_n hC dX3_alikeIfJoined_22 1 rfl ?_
    refine j_aload_n hC dX3_alikeIfJoined_23 2 rfl ?_
    refine j_get hC inX3 rfl 0 rfl 1 (by decide) wd62 rfl dX3_alikeIfJoined_24 ?_
    refine j_iload hC dX3_alikeIfJoined_27 0 rfl ?_
    refine j_aald hC (by omega) dX3_alikeIfJoined_29 ?_
    refine j_iload_n hC dX3_alikeIfJoined_30 3 rfl ?_
    refine j_iload_n hC dX3_alikeIfJoined_31 4 rfl ?_
    refine j_callVN1 (ar := 2) hC hR (c_X0_countAlikeIfJoined (hlJ hC) g σ hI hz5 p q (by omega)) [vI (a)] rfl (4 + z.toNat) (hw_bk g _ hz5) rfl rfl (by decide) (by decide +kernel) rfl wd564 wd566 wp27 wd3 wd567 (by decide) (Nat.le_of_ble_eq_true rfl) dX3_alikeIfJoined_32 ?_
    refine j_iadd hC dX3_alikeIfJoined_35 ?_
    refine j_istore_n hC dX3_alikeIfJoined_36 [(3, vI (a + (cajB σ z.toNat p q))), (4, vI (z)), (0, .ref (gd g (0))), (1, vI (p)), (2, vI (q))] (by decide) rfl ?_
    refine j_iinc hC dX3_alikeIfJoined_37 1 [(4, vI (z + 1)), (3, vI (a + (cajB σ z.toNat p q))), (0, .ref (gd g (0))), (1, vI (p)), (2, vI (q))] rfl (by decide) rfl ?_
    refine j_goto (tgt := 13) hC dX3_alikeIfJoined_40 (by decide) ?_
    refine j_sub [0, 1, 2, 3, 4] rfl ?_
    exact ih (z + 1) _ (by omega) (by omega)
set_option maxHeartbeats 4000000 in
set_option maxRecDepth 100000 in
theorem c_X3_alikeIfJoined {l : Launch} (hl : l.stackTraces = false) (g : GG) (σ : Sg) (hI : IC σ) (p q : Int) (hp : 0 ≤ p ∧ p < 9 ∧ 0 ≤ q ∧ q < 9) : CN l yX3_alikeIfJoined cX3_alikeIfJoined 5 (some .int) 7 110 0 0 g [.ref (gd g (0)), vI (p), vI (q)] σ (pt (some (vI (ajB σ p q))) (σ)) := by
  refine CN_of (own := RX3) hl (by decide) rfl (Nat.le_of_ble_eq_true rfl) (fun mc hC _ hR => ?_)
  refine j_lv (lv2 := [(0, .ref (gd g (0))), (1, vI (p)), (2, vI (q))]) rfl ?_
  have hI1 := hI.1
  refine j_iload_n hC dX3_alikeIfJoined_0 1 rfl ?_
  refine j_callS0 (ar := 1) hC hR (c_X3_checkPlace (hlJ hC) g σ p (by omega)) [] rfl (by decide) (by decide +kernel) rfl wd391 wd392 wd1 wd393 (by decide) (Nat.le_of_ble_eq_true rfl) dX3_alikeIfJoined_1 ?_
  refine j_iload_n hC dX3_alikeIfJoined_4 2 rfl ?_
  refine j_callS0 (ar := 1) hC hR (c_X3_checkPlace (hlJ hC) g σ q (by omega)) [] rfl (by decide) (by decide +kernel) rfl wd391 wd392 wd1 wd393 (by decide) (Nat.le_of_ble_eq_true rfl) dX3_alikeIfJoined_5 ?_
  refine j_iconst hC dX3_alikeIfJoined_8 ?_
  refine j_istore_n hC dX3_alikeIfJoined_9 [(3, vI (0)), (0, .ref (gd g (0))), (1, vI (p)), (2, vI (q))] (by decide) rfl ?_
  refine j_iconst hC dX3_alikeIfJoined_10 ?_
  refine j_istore hC dX3_alikeIfJoined_11 [(4, vI (0)), (3, vI (0)), (0, .ref (gd g (0))), (1, vI (p)), (2, vI (q))] (by decide) rfl ?_
  refine j_sub [0, 1, 2, 3, 4] rfl ?_
  exact lp_alikeIfJoined hC hR hI p q hp (σ.1 0).toNat 0 0 (by omega) (by omega)
set_option maxHeartbeats 4000000 in
set_option maxRecDepth 100000 in
theorem x1_X3_alikeIfJoined {l : Launch} (hl : l.stackTraces = false) (g : GG) (σ : Sg) (hI : IC σ) (p q : Int) (hr : -2147483648 ≤ p ∧ p < 2147483648) (hp : ¬ (0 ≤ p ∧ p < 9)) : CX l yX3_alikeIfJoined cX3_alikeIfJoined 5 (some .int) 7 110 1 6 g [.ref (gd g (0)), vI (p), vI (q)] σ pF (pxE "java/lang/IndexOutOfBoundsException" (σ)) := by
  refine CX_of (own := RX3) hl (by decide) rfl (Nat.le_of_ble_eq_true rfl) (fun mc hC _ hR hE => ?_)
  refine j_lv (lv2 := [(0, .ref (gd g (0))), (1, vI (p)), (2, vI (q))]) rfl ?_
  refine j_iload_n hC dX3_alikeIfJoined_0 1 rfl ?_
  refine j_callST (ar := 1) hC hR (x_X3_checkPlace (hlJ hC) g σ p (by omega) (by omega)) [] rfl (by decide) (by decide +kernel) rfl wd391 wd392 wd1 wd393 (by decide) (Nat.le_of_ble_eq_true rfl) dX3_alikeIfJoined_1 hE
set_option maxHeartbeats 4000000 in
set_option maxRecDepth 100000 in
theorem x2_X3_alikeIfJoined {l : Launch} (hl : l.stackTraces = false) (g : GG) (σ : Sg) (hI : IC σ) (p q : Int) (hr : -2147483648 ≤ q ∧ q < 2147483648) (hp : 0 ≤ p ∧ p < 9) (hq : ¬ (0 ≤ q ∧ q < 9)) : CX l yX3_alikeIfJoined cX3_alikeIfJoined 5 (some .int) 7 110 1 6 g [.ref (gd g (0)), vI (p), vI (q)] σ pF (pxE "java/lang/IndexOutOfBoundsException" (σ)) := by
  refine CX_of (own := RX3) hl (by decide) rfl (Nat.le_of_ble_eq_true rfl) (fun mc hC _ hR hE => ?_)
  refine j_lv (lv2 := [(0, .ref (gd g (0))), (1, vI (p)), (2, vI (q))]) rfl ?_
  refine j_iload_n hC dX3_alikeIfJoined_0 1 rfl ?_
  refine j_callS0 (ar := 1) hC hR (c_X3_checkPlace (hlJ hC) g σ p (by omega)) [] rfl (by decide) (by decide +kernel) rfl wd391 wd392 wd1 wd393 (by decide) (Nat.le_of_ble_eq_true rfl) dX3_alikeIfJoined_1 ?_
  refine j_iload_n hC dX3_alikeIfJoined_4 2 rfl ?_
  refine j_callST (ar := 1) hC hR (x_X3_checkPlace (hlJ hC) g σ q (by omega) (by omega)) [] rfl (by decide) (by decide +kernel) rfl wd391 wd392 wd1 wd393 (by decide) (Nat.le_of_ble_eq_true rfl) dX3_alikeIfJoined_5 hE
set_option maxHeartbeats 4000000 in
set_option maxRecDepth 100000 in
theorem lp_meanSigns {mc : MC} {g : GG} {σ : Sg} (hC : Cx mc g cX3_meanSigns RX3 3 (some .double)) (hR : mR mc = rmJ 0 0 0 0) (hI : IC σ) (h1 : 0 < σ.1 0) : ∀ (d : Nat) (z : Int) (a : Int), (0 ≤ z) → (z + (d : Int) = σ.1 0) → (0 ≤ a ∧ a ≤ 16 * z) → J mc g 0 0 (QN mc g (pt (some (.double (FP.ddiv (FP.i2d (iI (msF σ d z a))) (FP.i2d (iI (σ.1 0)))))) (σ)) 0 0) 13 [(2, vI (z)), (1, vI (a)), (0, .ref (gd g (0)))] [] σ := by
  intro d
  induction d with
  | zero =>
    intro z a h0 hz ha
    have hI1 := hI.1
    have hdv := dv_ok (x := a) (y := σ.1 0) (by omega) (by omega)
    refine j_iload_n hC dX3_meanSigns_13 0 rfl ?_
    refine j_aload_n hC dX3_meanSigns_14 2 rfl ?_
    refine j_get hC inX3 rfl 0 rfl 3 (by decide) wd64 rfl dX3_meanSigns_15 ?_
    refine j_icmp_ge (tgt := 39) hC dX3_meanSigns_18 (by decide) (by omega) (fun _ => ?_) (fun h => absurd h (by omega))
    refine j_iload_n hC dX3_meanSigns_39 1 rfl ?_
    refine j_i2d hC dX3_meanSigns_40 ?_
    refine j_aload_n hC dX3_meanSigns_41 2 rfl ?_
    refine j_get hC inX3 rfl 0 rfl 3 (by decide) wd64 rfl dX3_meanSigns_42 ?_
    refine j_i2d hC dX3_meanSigns_45 ?_
    refine j_ddiv hC dX3_meanSigns_46 hdv ?_
    exact j_dret hC dX3_meanSigns_47 ⟨rfl, rfl⟩
  | succ d ih =>
    intro z a h0 hz ha
    have hI1 := hI.1
    have hz5 : z.toNat < 5 := by omega
    have hcz := hI.2.2.2.1 z.toNat hz5
    rw [show msF σ (d + 1) z a = msF σ d (z + 1) (a + σ.1 (2 + z.toNat)) from rfl]
    refine j_iload_n hC dX3_meanSigns_13 0 rfl ?_
    refine j_aload_n hC dX3_meanSigns_14 2 rfl ?_
    refine j_get hC inX3 rfl 0 rfl 3 (by decide) wd64 rfl dX3_meanSigns_15 ?_
    refine j_icmp_ge (tgt := 39) hC dX3_meanSigns_18 (by decide) (by omega) (fun h => absurd h (by omega)) (fun _ => ?_)
    refine j_iload_n hC dX3_meanSigns_21 1 rfl ?_
    refine j_aload_n hC dX3_meanSigns_22 2 rfl ?_
    refine j_get hC inX3 rfl 0 rfl 1 (by decide) wd62 rfl dX3_meanSigns_23 ?_
    refine j_iload_n hC dX3_meanSigns_26 0 rfl ?_
    refine j_aald hC (by omega) dX3_meanSigns_27 ?_
    refine j_getN hC inX0 rfl (4 + z.toNat) (hw_bk g _ hz5) 3 (by decide) wd51 rfl dX3_meanSigns_28 ?_
    refine j_iadd hC dX3_meanSigns_31 ?_
    refine j_istore_n hC dX3_meanSigns_32 [(1, vI (a + ((σ).1 (2 + z.toNat)))), (2, vI (z)), (0, .ref (gd g (0)))] (by decide) rfl ?_
    refine j_iinc hC dX3_meanSigns_33 1 [(2, vI (z + 1)), (1, vI (a + ((σ).1 (2 + z.toNat)))), (0, .ref (gd g (0)))] rfl (by decide) rfl ?_
    refine j_goto (tgt := 13) hC dX3_meanSigns_36 (by decide) ?_
    refine j_sub [0, 1, 2] rfl ?_
    exact ih (z + 1) _ (by omega) (by omega) (by omega)
set_option maxHeartbeats 4000000 in
set_option maxRecDepth 100000 in
theorem c_X3_meanSigns {l : Launch} (hl : l.stackTraces = false) (g : GG) (σ : Sg) (hI : IC σ)  : CN l yX3_meanSigns cX3_meanSigns 3 (some .double) 0 0 0 0 g [.ref (gd g (0))] σ (pt (some (.double (msB σ))) (σ)) := by
  refine CN_of (own := RX3) hl (by decide) rfl (Nat.le_of_ble_eq_true rfl) (fun mc hC _ hR => ?_)
  refine j_lv (lv2 := [(0, .ref (gd g (0)))]) rfl ?_
  have hI1 := hI.1
  refine j_aload_n hC dX3_meanSigns_0 0 rfl ?_
  refine j_get hC inX3 rfl 0 rfl 3 (by decide) wd64 rfl dX3_meanSigns_1 ?_
  refine j_if_ne (tgt := 9) hC dX3_meanSigns_4 (by decide) (by omega) (fun h4 => ?_) (fun h4 => ?_)
  · refine j_iconst hC dX3_meanSigns_9 ?_
    refine j_istore_n hC dX3_meanSigns_10 [(1, vI (0)), (0, .ref (gd g (0)))] (by decide) rfl ?_
    refine j_iconst hC dX3_meanSigns_11 ?_
    refine j_istore_n hC dX3_meanSigns_12 [(2, vI (0)), (1, vI (0)), (0, .ref (gd g (0)))] (by decide) rfl ?_
    refine j_sub [0, 1, 2] rfl ?_
    rw [show msB σ = FP.ddiv (FP.i2d (iI (msF σ (σ.1 0).toNat 0 0))) (FP.i2d (iI (σ.1 0))) from if_neg (by omega)]
    exact lp_meanSigns hC hR hI (by omega) (σ.1 0).toNat 0 0 (by omega) (by omega) (by omega)
  · refine j_dconst0 hC dX3_meanSigns_7 ?_
    exact j_dret hC dX3_meanSigns_8 ⟨by unfold msB; rw [if_pos h4], rfl⟩
set_option maxHeartbeats 4000000 in
set_option maxRecDepth 100000 in
theorem c_X3_mix {l : Launch} (hl : l.stackTraces = false) (g : GG) (σ : Sg) (D x : Int) : CN l yX3_mix cX3_mix 4 (some .long) 0 0 0 0 g [.long (jI (D)), .long (jI (x))] σ (pt (some (.long (jI (mx D x)))) (σ)) := by
  refine CN_of (own := RX3) hl (by decide) rfl (Nat.le_of_ble_eq_true rfl) (fun mc hC _ hR => ?_)
  refine j_lv (lv2 := [(0, .long (jI (D))), (2, .long (jI (x)))]) rfl ?_
  refine j_lload_n hC dX3_mix_0 0 rfl ?_
  refine j_ldc2 (v := jI 31) hC dX3_mix_1 wd94 ?_
  refine j_lmul hC dX3_mix_4 ?_
  refine j_lload_n hC dX3_mix_5 1 rfl ?_
  refine j_ladd hC dX3_mix_6 ?_
  exact j_lret hC dX3_mix_7 ⟨rfl, rfl⟩
set_option maxHeartbeats 4000000 in
set_option maxRecDepth 100000 in
theorem c_X3_mixBook {l : Launch} (hl : l.stackTraces = false) (g : GG) (σ : Sg) (hI : IC σ) {b : Nat} (hb : b < 5) (D : Int) : CN l yX3_mixBook cX3_mixBook 5 (some .long) 5 118 0 0 g [.long (jI (D)), .ref (gd g (4 + b))] σ (pt (some (.long (jI (mbB σ b D)))) (σ)) := by
  refine CN_of (own := RX3) hl (by decide) rfl (Nat.le_of_ble_eq_true rfl) (fun mc hC _ hR => ?_)
  refine j_lv (lv2 := [(0, .long (jI (D))), (2, .ref (gd g (4 + b)))]) rfl ?_
  have hn := hI.2.2.2.1 b hb
  have hq1 : 0 ≤ caB σ b ∧ caB σ b ≤ 256 := pOB_rg _ hI hb
  have hq2 : 0 ≤ ctB σ b ∧ ctB σ b ≤ 256 := pOB_rg _ hI hb
  have hq3 := faB_rg hI hb
  have hq4 := snB_rg hI hb
  refine j_lload_n hC dX3_mixBook_0 0 rfl ?_
  refine j_aload_n hC dX3_mixBook_1 1 rfl ?_
  refine j_getN hC inX0 rfl (4 + b) (hw_bk g _ hb) 3 (by decide) wd51 rfl dX3_mixBook_2 ?_
  refine j_i2l hC dX3_mixBook_5 (by omega) ?_
  refine j_callS1 (ar := 2) hC hR (c_X3_mix (hlJ hC) g σ D ((σ).1 (2 + b))) [] rfl (by decide) (by decide +kernel) rfl wd91 wd92 wd1 wd93 (by decide) (Nat.le_of_ble_eq_true rfl) dX3_mixBook_6 ?_
  refine j_lstore_n hC dX3_mixBook_9 [(3, .long (jI (mx D ((σ).1 (2 + b))))), (0, .long (jI (D))), (2, .ref (gd g (4 + b)))] (by decide) rfl ?_
  refine j_lload_n hC dX3_mixBook_10 0 rfl ?_
  refine j_aload_n hC dX3_mixBook_11 2 rfl ?_
  refine j_callVN1 (ar := 0) hC hR (c_X0_countAlike (hlJ hC) g σ hI hb  ) [.long (jI (mx D ((σ).1 (2 + b))))] rfl (4 + b) (hw_bk g _ hb) rfl rfl (by decide) (by decide +kernel) rfl wd98 wd100 wp0 wd3 wd101 (by decide) (Nat.le_of_ble_eq_true rfl) dX3_mixBook_12 ?_
  refine j_i2l hC dX3_mixBook_15 (by omega) ?_
  refine j_callS1 (ar := 2) hC hR (c_X3_mix (hlJ hC) g σ (mx D ((σ).1 (2 + b))) (caB σ b)) [] rfl (by decide) (by decide +kernel) rfl wd91 wd92 wd1 wd93 (by decide) (Nat.le_of_ble_eq_true rfl) dX3_mixBook_16 ?_
  refine j_lstore_n hC dX3_mixBook_19 [(3, .long (jI (mx (mx D ((σ).1 (2 + b))) (caB σ b)))), (0, .long (jI (D))), (2, .ref (gd g (4 + b)))] (by decide) rfl ?_
  refine j_lload_n hC dX3_mixBook_20 0 rfl ?_
  refine j_aload_n hC dX3_mixBook_21 2 rfl ?_
  refine j_callVN1 (ar := 0) hC hR (c_X0_countThumbApart (hlJ hC) g σ hI hb  ) [.long (jI (mx (mx D ((σ).1 (2 + b))) (caB σ b)))] rfl (4 + b) (hw_bk g _ hb) rfl rfl (by decide) (by decide +kernel) rfl wd116 wd118 wp3 wd3 wd119 (by decide) (Nat.le_of_ble_eq_true rfl) dX3_mixBook_22 ?_
  refine j_i2l hC dX3_mixBook_25 (by omega) ?_
  refine j_callS1 (ar := 2) hC hR (c_X3_mix (hlJ hC) g σ (mx (mx D ((σ).1 (2 + b))) (caB σ b)) (ctB σ b)) [] rfl (by decide) (by decide +kernel) rfl wd91 wd92 wd1 wd93 (by decide) (Nat.le_of_ble_eq_true rfl) dX3_mixBook_26 ?_
  refine j_lstore_n hC dX3_mixBook_29 [(3, .long (jI (mx (mx (mx D ((σ).1 (2 + b))) (caB σ b)) (ctB σ b)))), (0, .long (jI (D))), (2, .ref (gd g (4 + b)))] (by decide) rfl ?_
  refine j_lload_n hC dX3_mixBook_30 0 rfl ?_
  refine j_aload_n hC dX3_mixBook_31 2 rfl ?_
  refine j_callVN1 (ar := 0) hC hR (c_X0_fewestApart (hlJ hC) g σ hI hb  ) [.long (jI (mx (mx (mx D ((σ).1 (2 + b))) (caB σ b)) (ctB σ b)))] rfl (4 + b) (hw_bk g _ hb) rfl rfl (by decide) (by decide +kernel) rfl wd147 wd149 wp6 wd3 wd150 (by decide) (Nat.le_of_ble_eq_true rfl) dX3_mixBook_32 ?_
  refine j_i2l hC dX3_mixBook_35 (by omega) ?_
  refine j_callS1 (ar := 2) hC hR (c_X3_mix (hlJ hC) g σ (mx (mx (mx D ((σ).1 (2 + b))) (caB σ b)) (ctB σ b)) (faB σ b)) [] rfl (by decide) (by decide +kernel) rfl wd91 wd92 wd1 wd93 (by decide) (Nat.le_of_ble_eq_true rfl) dX3_mixBook_36 ?_
  refine j_lstore_n hC dX3_mixBook_39 [(3, .long (jI (mx (mx (mx (mx D ((σ).1 (2 + b))) (caB σ b)) (ctB σ b)) (faB σ b)))), (0, .long (jI (D))), (2, .ref (gd g (4 + b)))] (by decide) rfl ?_
  refine j_lload_n hC dX3_mixBook_40 0 rfl ?_
  refine j_aload_n hC dX3_mixBook_41 2 rfl ?_
  refine j_callVN1 (ar := 0) hC hR (c_X0_signNearMost (hlJ hC) g σ hI hb  ) [.long (jI (mx (mx (mx (mx D ((σ).1 (2 + b))) (caB σ b)) (ctB σ b)) (faB σ b)))] rfl (4 + b) (hw_bk g _ hb) rfl rfl (by decide) (by decide +kernel) rfl wd158 wd160 wp8 wd3 wd161 (by decide) (Nat.le_of_ble_eq_true rfl) dX3_mixBook_42 ?_
  refine j_i2l hC dX3_mixBook_45 (by omega) ?_
  refine j_callS1 (ar := 2) hC hR (c_X3_mix (hlJ hC) g σ (mx (mx (mx (mx D ((σ).1 (2 + b))) (caB σ b)) (ctB σ b)) (faB σ b)) (snB σ b)) [] rfl (by decide) (by decide +kernel) rfl wd91 wd92 wd1 wd93 (by decide) (Nat.le_of_ble_eq_true rfl) dX3_mixBook_46 ?_
  exact j_lret hC dX3_mixBook_49 ⟨rfl, rfl⟩
set_option maxHeartbeats 4000000 in
set_option maxRecDepth 100000 in
theorem lp_mixSigns {mc : MC} {g : GG} {σ : Sg} (hC : Cx mc g cX3_mixSigns RX3 7 (some .long)) (hR : mR mc = rmJ 5 121 0 0) (hI : IC σ) {b : Nat} (hb : b < 5) (D0 : Int) : ∀ (d : Nat) (z : Int) (a : Int), (0 ≤ z) → (z + (d : Int) = σ.1 (2 + b)) → J mc g 0 0 (QN mc g (pt (some (.long (jI (msgF σ b d z a)))) (σ)) 0 0) 5 [(5, vI (z)), (3, .long (jI (a))), (0, .long (jI (D0))), (2, .ref (gd g (4 + b)))] [] σ := by
  intro d
  induction d with
  | zero =>
    intro z a h0 hz
    have hn := hI.2.2.2.1 b hb
    refine j_iload hC dX3_mixSigns_5 0 rfl ?_
    refine j_aload_n hC dX3_mixSigns_7 3 rfl ?_
    refine j_getN hC inX0 rfl (4 + b) (hw_bk g _ hb) 3 (by decide) wd51 rfl dX3_mixSigns_8 ?_
    refine j_icmp_ge (tgt := 87) hC dX3_mixSigns_11 (by decide) (by omega) (fun _ => ?_) (fun h => absurd h (by omega))
    refine j_lload_n hC dX3_mixSigns_87 1 rfl ?_
    exact j_lret hC dX3_mixSigns_88 ⟨rfl, rfl⟩
  | succ d ih =>
    intro z a h0 hz
    have hn := hI.2.2.2.1 b hb
    have hk := hI.2.2.2.2.1 b hb z (by omega) (by omega)
    have hm := hI.2.2.2.2.2 b hb z (by omega) (by omega)
    have hq := tfB_rg hI hb (s := z) (by omega)
    rw [show msgF σ b (d + 1) z a = msgF σ b d (z + 1) (mx (mx (mx (mx (mx a (σ.2 (1 + b) z % 16)) (σ.2 (1 + b) z / 16 % 4)) (σ.2 (1 + b) z / 256)) (σ.2 (6 + b) z)) (tfB σ b z)) from rfl]
    refine j_iload hC dX3_mixSigns_5 0 rfl ?_
    refine j_aload_n hC dX3_mixSigns_7 3 rfl ?_
    refine j_getN hC inX0 rfl (4 + b) (hw_bk g _ hb) 3 (by decide) wd51 rfl dX3_mixSigns_8 ?_
    refine j_icmp_ge (tgt := 87) hC dX3_mixSigns_11 (by decide) (by omega) (fun h => absurd h (by omega)) (fun _ => ?_)
    refine j_aload_n hC dX3_mixSigns_14 3 rfl ?_
    refine j_getN hC inX0 rfl (4 + b) (hw_bk g _ hb) 1 (by decide) wd47 rfl dX3_mixSigns_15 ?_
    refine j_iload hC dX3_mixSigns_18 0 rfl ?_
    refine j_iald hC (9 + b) (hw_lk g _ hb) (by omega) dX3_mixSigns_20 ?_
    refine j_istore hC dX3_mixSigns_21 [(6, vI ((σ).2 (1 + b) z)), (5, vI (z)), (3, .long (jI (a))), (0, .long (jI (D0))), (2, .ref (gd g (4 + b)))] (by decide) rfl ?_
    refine j_lload_n hC dX3_mixSigns_23 2 rfl ?_
    refine j_iload hC dX3_mixSigns_24 0 rfl ?_
    refine j_callSN1 (ar := 1) hC hR (c_X1_shape (hlJ hC) g σ ((σ).2 (1 + b) z) (by omega)) [.long (jI (a))] rfl (by decide) (by decide +kernel) rfl wd294 wd128 wd11 wd129 (by decide) (Nat.le_of_ble_eq_true rfl) dX3_mixSigns_26 ?_
    refine j_i2l hC dX3_mixSigns_29 (by omega) ?_
    refine j_callS1 (ar := 2) hC hR (c_X3_mix (hlJ hC) g σ a (((σ).2 (1 + b) z) % 16)) [] rfl (by decide) (by decide +kernel) rfl wd91 wd92 wd1 wd93 (by decide) (Nat.le_of_ble_eq_true rfl) dX3_mixSigns_30 ?_
    refine j_lstore_n hC dX3_mixSigns_33 [(3, .long (jI (mx a (((σ).2 (1 + b) z) % 16)))), (6, vI ((σ).2 (1 + b) z)), (5, vI (z)), (0, .long (jI (D0))), (2, .ref (gd g (4 + b)))] (by decide) rfl ?_
    refine j_lload_n hC dX3_mixSigns_34 0 rfl ?_
    refine j_iload hC dX3_mixSigns_35 1 rfl ?_
    refine j_callSN1 (ar := 1) hC hR (c_X1_thumb (hlJ hC) g σ ((σ).2 (1 + b) z) (by omega)) [.long (jI (mx a (((σ).2 (1 + b) z) % 16)))] rfl (by decide) (by decide +kernel) rfl wd295 wd121 wd11 wd122 (by decide) (Nat.le_of_ble_eq_true rfl) dX3_mixSigns_37 ?_
    refine j_i2l hC dX3_mixSigns_40 (by omega) ?_
    refine j_callS1 (ar := 2) hC hR (c_X3_mix (hlJ hC) g σ (mx a (((σ).2 (1 + b) z) % 16)) (((σ).2 (1 + b) z) / 16 % 4)) [] rfl (by decide) (by decide +kernel) rfl wd91 wd92 wd1 wd93 (by decide) (Nat.le_of_ble_eq_true rfl) dX3_mixSigns_41 ?_
    refine j_lstore_n hC dX3_mixSigns_44 [(3, .long (jI (mx (mx a (((σ).2 (1 + b) z) % 16)) (((σ).2 (1 + b) z) / 16 % 4)))), (6, vI ((σ).2 (1 + b) z)), (5, vI (z)), (0, .long (jI (D0))), (2, .ref (gd g (4 + b)))] (by decide) rfl ?_
    refine j_lload_n hC dX3_mixSigns_45 0 rfl ?_
    refine j_iload hC dX3_mixSigns_46 1 rfl ?_
    refine j_callSN1 (ar := 1) hC hR (c_X1_place (hlJ hC) g σ ((σ).2 (1 + b) z) (by omega)) [.long (jI (mx (mx a (((σ).2 (1 + b) z) % 16)) (((σ).2 (1 + b) z) / 16 % 4)))] rfl (by decide) (by decide +kernel) rfl wd296 wd110 wd11 wd111 (by decide) (Nat.le_of_ble_eq_true rfl) dX3_mixSigns_48 ?_
    refine j_i2l hC dX3_mixSigns_51 (by omega) ?_
    refine j_callS1 (ar := 2) hC hR (c_X3_mix (hlJ hC) g σ (mx (mx a (((σ).2 (1 + b) z) % 16)) (((σ).2 (1 + b) z) / 16 % 4)) (((σ).2 (1 + b) z) / 256)) [] rfl (by decide) (by decide +kernel) rfl wd91 wd92 wd1 wd93 (by decide) (Nat.le_of_ble_eq_true rfl) dX3_mixSigns_52 ?_
    refine j_lstore_n hC dX3_mixSigns_55 [(3, .long (jI (mx (mx (mx a (((σ).2 (1 + b) z) % 16)) (((σ).2 (1 + b) z) / 16 % 4)) (((σ).2 (1 + b) z) / 256)))), (6, vI ((σ).2 (1 + b) z)), (5, vI (z)), (0, .long (jI (D0))), (2, .ref (gd g (4 + b)))] (by decide) rfl ?_
    refine j_lload_n hC dX3_mixSigns_56 0 rfl ?_
    refine j_aload_n hC dX3_mixSigns_57 4 rfl ?_
    refine j_getN hC inX0 rfl (4 + b) (hw_bk g _ hb) 2 (by decide) wd49 rfl dX3_mixSigns_58 ?_
    refine j_iload hC dX3_mixSigns_61 2 rfl ?_
    refine j_iald hC (14 + b) (hw_mn g _ hb) (by omega) dX3_mixSigns_63 ?_
    refine j_i2l hC dX3_mixSigns_64 (by omega) ?_
    refine j_callS1 (ar := 2) hC hR (c_X3_mix (hlJ hC) g σ (mx (mx (mx a (((σ).2 (1 + b) z) % 16)) (((σ).2 (1 + b) z) / 16 % 4)) (((σ).2 (1 + b) z) / 256)) ((σ).2 (6 + b) z)) [] rfl (by decide) (by decide +kernel) rfl wd91 wd92 wd1 wd93 (by decide) (Nat.le_of_ble_eq_true rfl) dX3_mixSigns_65 ?_
    refine j_lstore_n hC dX3_mixSigns_68 [(3, .long (jI (mx (mx (mx (mx a (((σ).2 (1 + b) z) % 16)) (((σ).2 (1 + b) z) / 16 % 4)) (((σ).2 (1 + b) z) / 256)) ((σ).2 (6 + b) z)))), (6, vI ((σ).2 (1 + b) z)), (5, vI (z)), (0, .long (jI (D0))), (2, .ref (gd g (4 + b)))] (by decide) rfl ?_
    refine j_lload_n hC dX3_mixSigns_69 0 rfl ?_
    refine j_aload_n hC dX3_mixSigns_70 4 rfl ?_
    refine j_iload hC dX3_mixSigns_71 2 rfl ?_
    refine j_callVN1 (ar := 1) hC hR (c_X0_thumbFarthest (hlJ hC) g σ hI hb z (by omega)) [.long (jI (mx (mx (mx (mx a (((σ).2 (1 + b) z) % 16)) (((σ).2 (1 + b) z) / 16 % 4)) (((σ).2 (1 + b) z) / 256)) ((σ).2 (6 + b) z)))] rfl (4 + b) (hw_bk g _ hb) rfl rfl (by decide) (by decide +kernel) rfl wd297 wd299 wp22 wd3 wd300 (by decide) (Nat.le_of_ble_eq_true rfl) dX3_mixSigns_73 ?_
    refine j_i2l hC dX3_mixSigns_76 (by omega) ?_
    refine j_callS1 (ar := 2) hC hR (c_X3_mix (hlJ hC) g σ (mx (mx (mx (mx a (((σ).2 (1 + b) z) % 16)) (((σ).2 (1 + b) z) / 16 % 4)) (((σ).2 (1 + b) z) / 256)) ((σ).2 (6 + b) z)) (tfB σ b z)) [] rfl (by decide) (by decide +kernel) rfl wd91 wd92 wd1 wd93 (by decide) (Nat.le_of_ble_eq_true rfl) dX3_mixSigns_77 ?_
    refine j_lstore_n hC dX3_mixSigns_80 [(3, .long (jI (mx (mx (mx (mx (mx a (((σ).2 (1 + b) z) % 16)) (((σ).2 (1 + b) z) / 16 % 4)) (((σ).2 (1 + b) z) / 256)) ((σ).2 (6 + b) z)) (tfB σ b z)))), (6, vI ((σ).2 (1 + b) z)), (5, vI (z)), (0, .long (jI (D0))), (2, .ref (gd g (4 + b)))] (by decide) rfl ?_
    refine j_iinc hC dX3_mixSigns_81 2 [(5, vI (z + 1)), (3, .long (jI (mx (mx (mx (mx (mx a (((σ).2 (1 + b) z) % 16)) (((σ).2 (1 + b) z) / 16 % 4)) (((σ).2 (1 + b) z) / 256)) ((σ).2 (6 + b) z)) (tfB σ b z)))), (6, vI ((σ).2 (1 + b) z)), (0, .long (jI (D0))), (2, .ref (gd g (4 + b)))] rfl (by decide) rfl ?_
    refine j_goto (tgt := 5) hC dX3_mixSigns_84 (by decide) ?_
    refine j_sub [0, 1, 3, 4] rfl ?_
    exact ih (z + 1) _ (by omega) (by omega)
set_option maxHeartbeats 4000000 in
set_option maxRecDepth 100000 in
theorem c_X3_mixSigns {l : Launch} (hl : l.stackTraces = false) (g : GG) (σ : Sg) (hI : IC σ) {b : Nat} (hb : b < 5) (D : Int) : CN l yX3_mixSigns cX3_mixSigns 7 (some .long) 5 121 0 0 g [.long (jI (D)), .ref (gd g (4 + b))] σ (pt (some (.long (jI (msgF σ b (cN σ b) 0 D)))) (σ)) := by
  refine CN_of (own := RX3) hl (by decide) rfl (Nat.le_of_ble_eq_true rfl) (fun mc hC _ hR => ?_)
  refine j_lv (lv2 := [(0, .long (jI (D))), (2, .ref (gd g (4 + b)))]) rfl ?_
  have hn2 := cN_eq hI hb
  refine j_lload_n hC dX3_mixSigns_0 0 rfl ?_
  refine j_lstore_n hC dX3_mixSigns_1 [(3, .long (jI (D))), (0, .long (jI (D))), (2, .ref (gd g (4 + b)))] (by decide) rfl ?_
  refine j_iconst hC dX3_mixSigns_2 ?_
  refine j_istore hC dX3_mixSigns_3 [(5, vI (0)), (3, .long (jI (D))), (0, .long (jI (D))), (2, .ref (gd g (4 + b)))] (by decide) rfl ?_
  refine j_sub [0, 1, 2, 3] rfl ?_
  exact lp_mixSigns hC hR hI hb D (cN σ b) 0 D (by omega) (by omega)
set_option maxHeartbeats 4000000 in
set_option maxRecDepth 100000 in
theorem lp_digest_i {mc : MC} {g : GG} {Q : State → Prop} (hC : Cx mc g cX3_digest RX3 5 (some .long)) (hR : mR mc = rmJ 8 147 0 0) (a : Int) : ∀ (d : Nat) (τ : Sg) (z : Int) (D : Int), (IC τ) → (0 ≤ z) → (z + (d : Int) = τ.1 0) → (0 ≤ a ∧ a < τ.1 0) → (J mc g 0 0 Q 123 [(1, .long (jI ((dgI a d z D τ).1))), (0, .ref (gd g (0))), (3, vI (a))] [] ((dgI a d z D τ).2)) → J mc g 0 0 Q 51 [(4, vI (z)), (1, .long (jI (D))), (0, .ref (gd g (0))), (3, vI (a))] [] τ := by
  intro d
  induction d with
  | zero =>
    intro τ z D hI h0 hz ha kx
    have hI1 := hI.1
    refine j_iload hC dX3_digest_51 0 rfl ?_
    refine j_aload_n hC dX3_digest_53 2 rfl ?_
    refine j_get hC inX3 rfl 0 rfl 3 (by decide) wd64 rfl dX3_digest_54 ?_
    refine j_icmp_ge (tgt := 123) hC dX3_digest_57 (by decide) (by omega) (fun _ => ?_) (fun h => absurd h (by omega))
    refine j_sub [1, 2, 3] rfl ?_
    exact kx
  | succ d ih =>
    intro τ z D hI h0 hz ha kx
    have hI1 := hI.1
    have hz5 : z.toNat < 5 := by omega
    have ha5 : a.toNat < 5 := by omega
    have hb := bbB_IC hI (a := a) (c := z) ha (by omega)
    have hu : 0 ≤ cuB τ z.toNat a.toNat ∧ cuB τ z.toNat a.toNat ≤ 16 := cnt0_rg _ hI ha5
    have hu2 : 0 ≤ cmB τ z.toNat a.toNat ∧ cmB τ z.toNat a.toNat ≤ 16 := cnt0_rg _ hI ha5
    have h00 := hb.2.2.2 0 (by decide)
    rw [show dgI a (d + 1) z D τ = dgI a d (z + 1) (mx (mx (mx D (cuB τ z.toNat a.toNat)) (cmB τ z.toNat a.toNat)) (bbB τ a z).1) (bbB τ a z).2 from rfl] at kx
    refine j_iload hC dX3_digest_51 0 rfl ?_
    refine j_aload_n hC dX3_digest_53 2 rfl ?_
    refine j_get hC inX3 rfl 0 rfl 3 (by decide) wd64 rfl dX3_digest_54 ?_
    refine j_icmp_ge (tgt := 123) hC dX3_digest_57 (by decide) (by omega) (fun h => absurd h (by omega)) (fun _ => ?_)
    refine j_lload_n hC dX3_digest_60 1 rfl ?_
    refine j_aload_n hC dX3_digest_61 2 rfl ?_
    refine j_get hC inX3 rfl 0 rfl 1 (by decide) wd62 rfl dX3_digest_62 ?_
    refine j_iload hC dX3_digest_65 0 rfl ?_
    refine j_aald hC (by omega) dX3_digest_67 ?_
    refine j_aload_n hC dX3_digest_68 2 rfl ?_
    refine j_get hC inX3 rfl 0 rfl 1 (by decide) wd62 rfl dX3_digest_69 ?_
    refine j_iload_n hC dX3_digest_72 3 rfl ?_
    refine j_aald hC (by omega) dX3_digest_73 ?_
    refine j_callVN1 (ar := 1) hC hR (c_X0_countUnderstood (hlJ hC) g τ hI hz5 ha5  ) [.long (jI (D))] rfl (4 + z.toNat) (hw_bk g _ hz5) rfl rfl (by decide) (by decide +kernel) rfl wd166 wd168 wp10 wd3 wd169 (by decide) (Nat.le_of_ble_eq_true rfl) dX3_digest_74 ?_
    have hf74 : 0 ≤ cuB τ z.toNat a.toNat ∧ cuB τ z.toNat a.toNat ≤ 16 := cnt0_rg _ hI ha5
    refine j_i2l hC dX3_digest_77 (by omega) ?_
    refine j_callS1 (ar := 2) hC hR (c_X3_mix (hlJ hC) g τ D (cuB τ z.toNat a.toNat)) [] rfl (by decide) (by decide +kernel) rfl wd91 wd92 wd1 wd93 (by decide) (Nat.le_of_ble_eq_true rfl) dX3_digest_78 ?_
    refine j_lstore_n hC dX3_digest_81 [(1, .long (jI (mx D (cuB τ z.toNat a.toNat)))), (4, vI (z)), (0, .ref (gd g (0))), (3, vI (a))] (by decide) rfl ?_
    refine j_lload_n hC dX3_digest_82 0 rfl ?_
    refine j_aload_n hC dX3_digest_83 2 rfl ?_
    refine j_get hC inX3 rfl 0 rfl 1 (by decide) wd62 rfl dX3_digest_84 ?_
    refine j_iload hC dX3_digest_87 1 rfl ?_
    refine j_aald hC (by omega) dX3_digest_89 ?_
    refine j_aload_n hC dX3_digest_90 2 rfl ?_
    refine j_get hC inX3 rfl 0 rfl 1 (by decide) wd62 rfl dX3_digest_91 ?_
    refine j_iload_n hC dX3_digest_94 3 rfl ?_
    refine j_aald hC (by omega) dX3_digest_95 ?_
    refine j_callVN1 (ar := 1) hC hR (c_X0_countMisread (hlJ hC) g τ hI hz5 ha5  ) [.long (jI (mx D (cuB τ z.toNat a.toNat)))] rfl (4 + z.toNat) (hw_bk g _ hz5) rfl rfl (by decide) (by decide +kernel) rfl wd174 wd176 wp12 wd3 wd177 (by decide) (Nat.le_of_ble_eq_true rfl) dX3_digest_96 ?_
    refine j_i2l hC dX3_digest_99 (by omega) ?_
    refine j_callS1 (ar := 2) hC hR (c_X3_mix (hlJ hC) g τ (mx D (cuB τ z.toNat a.toNat)) (cmB τ z.toNat a.toNat)) [] rfl (by decide) (by decide +kernel) rfl wd91 wd92 wd1 wd93 (by decide) (Nat.le_of_ble_eq_true rfl) dX3_digest_100 ?_
    refine j_lstore_n hC dX3_digest_103 [(1, .long (jI (mx (mx D (cuB τ z.toNat a.toNat)) (cmB τ z.toNat a.toNat)))), (4, vI (z)), (0, .ref (gd g (0))), (3, vI (a))] (by decide) rfl ?_
    refine j_lload_n hC dX3_digest_104 0 rfl ?_
    refine j_aload_n hC dX3_digest_105 2 rfl ?_
    refine j_iload_n hC dX3_digest_106 3 rfl ?_
    refine j_iload hC dX3_digest_107 1 rfl ?_
    refine j_callV1 (ar := 2) hC hR (c_X3_bestToBorrow (hlJ hC) g τ hI a z (by omega) (by omega)) [.long (jI (mx (mx D (cuB τ z.toNat a.toNat)) (cmB τ z.toNat a.toNat)))] rfl 0 rfl rfl rfl (by decide) (by decide +kernel) rfl wd178 wd179 wd180 wd1 wd181 (by decide) (Nat.le_of_ble_eq_true rfl) dX3_digest_109 ?_
    refine j_i2l hC dX3_digest_112 (by omega) ?_
    refine j_callS1 (ar := 2) hC hR (c_X3_mix (hlJ hC) g ((bbB τ a z).2) (mx (mx D (cuB τ z.toNat a.toNat)) (cmB τ z.toNat a.toNat)) ((bbB τ a z).1)) [] rfl (by decide) (by decide +kernel) rfl wd91 wd92 wd1 wd93 (by decide) (Nat.le_of_ble_eq_true rfl) dX3_digest_113 ?_
    refine j_lstore_n hC dX3_digest_116 [(1, .long (jI (mx (mx (mx D (cuB τ z.toNat a.toNat)) (cmB τ z.toNat a.toNat)) ((bbB τ a z).1)))), (4, vI (z)), (0, .ref (gd g (0))), (3, vI (a))] (by decide) rfl ?_
    refine j_iinc hC dX3_digest_117 1 [(4, vI (z + 1)), (1, .long (jI (mx (mx (mx D (cuB τ z.toNat a.toNat)) (cmB τ z.toNat a.toNat)) ((bbB τ a z).1)))), (0, .ref (gd g (0))), (3, vI (a))] rfl (by decide) rfl ?_
    refine j_goto (tgt := 51) hC dX3_digest_120 (by decide) ?_
    refine j_sub [0, 1, 2, 3] rfl ?_
    exact ih (bbB τ a z).2 (z + 1) _ hb.1 (by omega) (by omega) (by omega) kx
set_option maxHeartbeats 4000000 in
set_option maxRecDepth 100000 in
theorem lp_digest_o {mc : MC} {g : GG} (hC : Cx mc g cX3_digest RX3 5 (some .long)) (hR : mR mc = rmJ 8 147 0 0)  : ∀ (d : Nat) (τ : Sg) (z : Int) (D : Int), (IC τ) → (0 ≤ z) → (z + (d : Int) = τ.1 0) → J mc g 0 0 (QN mc g (pt (some (.long (jI (dgO d z D τ).1))) ((dgO d z D τ).2)) 0 0) 29 [(3, vI (z)), (1, .long (jI (D))), (0, .ref (gd g (0)))] [] τ := by
  intro d
  induction d with
  | zero =>
    intro τ z D hI h0 hz
    have hI1 := hI.1
    refine j_iload_n hC dX3_digest_29 0 rfl ?_
    refine j_aload_n hC dX3_digest_30 2 rfl ?_
    refine j_get hC inX3 rfl 0 rfl 3 (by decide) wd64 rfl dX3_digest_31 ?_
    refine j_icmp_ge (tgt := 140) hC dX3_digest_34 (by decide) (by omega) (fun _ => ?_) (fun h => absurd h (by omega))
    refine j_lload_n hC dX3_digest_140 1 rfl ?_
    exact j_lret hC dX3_digest_141 ⟨rfl, rfl⟩
  | succ d ih =>
    intro τ z D hI h0 hz
    have hI1 := hI.1
    have hz5 : z.toNat < 5 := by omega
    have hi := dgI_IC (a := z) (τ.1 0).toNat 0 (mbB τ z.toNat D) τ hI h0 (by omega) (by omega) (by omega)
    have h00 := hi.2 0 (by decide)
    rw [show dgO (d + 1) z D τ = dgO d (z + 1) (msgF (dgI z (τ.1 0).toNat 0 (mbB τ z.toNat D) τ).2 z.toNat (cN (dgI z (τ.1 0).toNat 0 (mbB τ z.toNat D) τ).2 z.toNat) 0 (dgI z (τ.1 0).toNat 0 (mbB τ z.toNat D) τ).1) (dgI z (τ.1 0).toNat 0 (mbB τ z.toNat D) τ).2 from rfl]
    refine j_iload_n hC dX3_digest_29 0 rfl ?_
    refine j_aload_n hC dX3_digest_30 2 rfl ?_
    refine j_get hC inX3 rfl 0 rfl 3 (by decide) wd64 rfl dX3_digest_31 ?_
    refine j_icmp_ge (tgt := 140) hC dX3_digest_34 (by decide) (by omega) (fun h => absurd h (by omega)) (fun _ => ?_)
    refine j_lload_n hC dX3_digest_37 1 rfl ?_
    refine j_aload_n hC dX3_digest_38 2 rfl ?_
    refine j_get hC inX3 rfl 0 rfl 1 (by decide) wd62 rfl dX3_digest_39 ?_
    refine j_iload_n hC dX3_digest_42 0 rfl ?_
    refine j_aald hC (by omega) dX3_digest_43 ?_
    refine j_callS1 (ar := 2) hC hR (c_X3_mixBook (hlJ hC) g τ hI hz5 D) [] rfl (by decide) (by decide +kernel) rfl wd95 wd96 wd1 wd97 (by decide) (Nat.le_of_ble_eq_true rfl) dX3_digest_44 ?_
    refine j_lstore_n hC dX3_digest_47 [(1, .long (jI (mbB τ z.toNat D))), (3, vI (z)), (0, .ref (gd g (0)))] (by decide) rfl ?_
    refine j_iconst hC dX3_digest_48 ?_
    refine j_istore hC dX3_digest_49 [(4, vI (0)), (1, .long (jI (mbB τ z.toNat D))), (3, vI (z)), (0, .ref (gd g (0)))] (by decide) rfl ?_
    refine j_sub [0, 1, 3, 2] rfl ?_
    refine lp_digest_i hC hR z (τ.1 0).toNat τ 0 (mbB τ z.toNat D) hI (by omega) (by omega) (by omega) ?_
    refine j_lload_n hC dX3_digest_123 0 rfl ?_
    refine j_aload_n hC dX3_digest_124 1 rfl ?_
    refine j_get hC inX3 rfl 0 rfl 1 (by decide) wd62 rfl dX3_digest_125 ?_
    refine j_iload_n hC dX3_digest_128 2 rfl ?_
    refine j_aald hC (by omega) dX3_digest_129 ?_
    refine j_callS1 (ar := 2) hC hR (c_X3_mixSigns (hlJ hC) g (dgI z (τ.1 0).toNat 0 (mbB τ z.toNat D) τ).2 hi.1 hz5 (dgI z (τ.1 0).toNat 0 (mbB τ z.toNat D) τ).1) [] rfl (by decide) (by decide +kernel) rfl wd291 wd292 wd1 wd293 (by decide) (Nat.le_of_ble_eq_true rfl) dX3_digest_130 ?_
    refine j_lstore_n hC dX3_digest_133 [(1, .long (jI (msgF (dgI z (τ.1 0).toNat 0 (mbB τ z.toNat D) τ).2 z.toNat (cN (dgI z (τ.1 0).toNat 0 (mbB τ z.toNat D) τ).2 z.toNat) 0 (dgI z (τ.1 0).toNat 0 (mbB τ z.toNat D) τ).1))), (0, .ref (gd g (0))), (3, vI (z))] (by decide) rfl ?_
    refine j_iinc hC dX3_digest_134 2 [(3, vI (z + 1)), (1, .long (jI (msgF (dgI z (τ.1 0).toNat 0 (mbB τ z.toNat D) τ).2 z.toNat (cN (dgI z (τ.1 0).toNat 0 (mbB τ z.toNat D) τ).2 z.toNat) 0 (dgI z (τ.1 0).toNat 0 (mbB τ z.toNat D) τ).1))), (0, .ref (gd g (0)))] rfl (by decide) rfl ?_
    refine j_goto (tgt := 29) hC dX3_digest_137 (by decide) ?_
    refine j_sub [0, 1, 2] rfl ?_
    exact ih (dgI z (τ.1 0).toNat 0 (mbB τ z.toNat D) τ).2 (z + 1) _ hi.1 (by omega) (by omega)
set_option maxHeartbeats 4000000 in
set_option maxRecDepth 100000 in
theorem c_X3_digest {l : Launch} (hl : l.stackTraces = false) (g : GG) (σ : Sg) (hI : IC σ)  : CN l yX3_digest cX3_digest 5 (some .long) 8 147 0 0 g [.ref (gd g (0))] σ (pt (some (.long (jI (dgB σ).1))) ((dgB σ).2)) := by
  refine CN_of (own := RX3) hl (by decide) rfl (Nat.le_of_ble_eq_true rfl) (fun mc hC _ hR => ?_)
  refine j_lv (lv2 := [(0, .ref (gd g (0)))]) rfl ?_
  have hI1 := hI.1
  have hI2 := hI.2.1
  refine j_ldc2 (v := jI 2099) hC dX3_digest_0 wd90 ?_
  refine j_lstore_n hC dX3_digest_3 [(1, .long (jI (2099))), (0, .ref (gd g (0)))] (by decide) rfl ?_
  refine j_lload_n hC dX3_digest_4 0 rfl ?_
  refine j_aload_n hC dX3_digest_5 1 rfl ?_
  refine j_get hC inX3 rfl 0 rfl 3 (by decide) wd64 rfl dX3_digest_6 ?_
  refine j_i2l hC dX3_digest_9 (by omega) ?_
  refine j_callS1 (ar := 2) hC hR (c_X3_mix (hlJ hC) g σ 2099 ((σ).1 0)) [] rfl (by decide) (by decide +kernel) rfl wd91 wd92 wd1 wd93 (by decide) (Nat.le_of_ble_eq_true rfl) dX3_digest_10 ?_
  refine j_lstore_n hC dX3_digest_13 [(1, .long (jI (mx 2099 ((σ).1 0)))), (0, .ref (gd g (0)))] (by decide) rfl ?_
  refine j_lload_n hC dX3_digest_14 0 rfl ?_
  refine j_aload_n hC dX3_digest_15 1 rfl ?_
  refine j_get hC inX3 rfl 0 rfl 0 (by decide) wd61 rfl dX3_digest_16 ?_
  refine j_getN hC inX2 rfl 1 rfl 1 (by decide) wd31 rfl dX3_digest_19 ?_
  refine j_i2l hC dX3_digest_22 (by omega) ?_
  refine j_callS1 (ar := 2) hC hR (c_X3_mix (hlJ hC) g σ (mx 2099 ((σ).1 0)) ((σ).1 1)) [] rfl (by decide) (by decide +kernel) rfl wd91 wd92 wd1 wd93 (by decide) (Nat.le_of_ble_eq_true rfl) dX3_digest_23 ?_
  refine j_lstore_n hC dX3_digest_26 [(1, .long (jI (mx (mx 2099 ((σ).1 0)) ((σ).1 1)))), (0, .ref (gd g (0)))] (by decide) rfl ?_
  refine j_iconst hC dX3_digest_27 ?_
  refine j_istore_n hC dX3_digest_28 [(3, vI (0)), (1, .long (jI (mx (mx 2099 ((σ).1 0)) ((σ).1 1)))), (0, .ref (gd g (0)))] (by decide) rfl ?_
  refine j_sub [0, 1, 2] rfl ?_
  exact lp_digest_o hC hR (σ.1 0).toNat σ 0 _ hI (by omega) (by omega)
