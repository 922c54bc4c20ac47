set_option maxHeartbeats 4000000 in
set_option maxRecDepth 100000 in
theorem wk_addLodge {l : Launch} (hl : l.stackTraces = false) (g : GG) (σ τ : Sg) (r : Int) (hM : CN l yX3_addLodge cX3_addLodge 1 (some .int) 6 90 0 0 g [.ref (gd g (0))] σ (pt (some (vI (r))) τ)) (hr : -2147483648 ≤ r ∧ r < 2147483648) : CW l yL_addLodge cL_addLodge 3 [(0, 8, 11, 13)] 7 110 0 0 g [.ref (gd g (0)), .ref (gd g (27))] σ (pt (some (vI 0)) (sF τ 9 r)) := by
  refine CW_of (own := RL) hl (by decide) rfl (Nat.le_of_ble_eq_true rfl) (fun mc hC hml hR hT => ?_)
  subst hml
  refine j_lv (lv2 := [(0, .ref (gd g (0))), (1, .ref (gd g (27)))]) rfl ?_
  refine j_aload_n hC dL_addLodge_0 1 rfl ?_
  refine j_iconst hC dL_addLodge_1 ?_
  refine j_aload_n hC dL_addLodge_2 0 rfl ?_
  refine j_callV1 (ar := 0) hC hR (hM) [vI (0), .ref (gd g (27))] rfl 0 rfl rfl rfl (by decide) (by decide +kernel) rfl wd305 wd306 wd307 wd1 wd308 (by decide) (Nat.le_of_ble_eq_true rfl) dL_addLodge_3 ?_
  refine j_i2l hC dL_addLodge_6 (by omega) ?_
  refine j_last0 hC dL_addLodge_7 ?_
  refine j_goto (tgt := 14) hC dL_addLodge_8 (by decide) ?_
  refine j_iconst hC dL_addLodge_14 ?_
  exact j_iret hC dL_addLodge_15 ⟨rfl, rfl⟩
set_option maxHeartbeats 4000000 in
set_option maxRecDepth 100000 in
theorem wx1_addLodge {l : Launch} (hl : l.stackTraces = false) (g : GG) (σ : Sg) (hM : CX l yX3_addLodge cX3_addLodge 1 (some .int) 6 90 1 6 g [.ref (gd g (0))] σ pF (pxE "java/lang/IllegalStateException" (σ))) : CW l yL_addLodge cL_addLodge 3 [(0, 8, 11, 13)] 7 110 1 6 g [.ref (gd g (0)), .ref (gd g (27))] σ (pt (some (vI 1)) σ) := by
  refine CW_of (own := RL) hl (by decide) rfl (Nat.le_of_ble_eq_true rfl) (fun mc hC hml hR hT => ?_)
  subst hml
  refine j_lv (lv2 := [(0, .ref (gd g (0))), (1, .ref (gd g (27)))]) rfl ?_
  refine j_aload_n hC dL_addLodge_0 1 rfl ?_
  refine j_iconst hC dL_addLodge_1 ?_
  refine j_aload_n hC dL_addLodge_2 0 rfl ?_
  refine j_callVC (ar := 0) (hh := [(0, 8, 11, 13)]) hC hR hT hM [vI (0), .ref (gd g (27))] rfl 0 rfl rfl rfl (by decide) (by decide +kernel) rfl wd305 wd306 wd307 wd1 wd308 (by decide) (Nat.le_of_ble_eq_true rfl) dL_addLodge_3 [] ⟨0, 8, 11, 13⟩ [] rfl (fun z hz => absurd hz List.not_mem_nil) (by decide) (by decide) wd304 wd311 (fun q => ?_)
  refine j_astore_n hC dL_addLodge_11 [(2, .ref q), (0, .ref (gd g (0))), (1, .ref (gd g (27)))] (by decide) rfl ?_
  refine j_iconst hC dL_addLodge_12 ?_
  exact j_iret hC dL_addLodge_13 ⟨rfl, rfl⟩
set_option maxHeartbeats 4000000 in
set_option maxRecDepth 100000 in
theorem wk_addSign {l : Launch} (hl : l.stackTraces = false) (g : GG) (σ τ : Sg) (p0 p1 p2 p3 p4 p5 : Int) (r : Int) (hM : CN l yX3_addSign cX3_addSign 8 (some .int) 7 113 0 0 g [.ref (gd g (0)), vI (p0), vI (p1), vI (p2), vI (p3), vI (p4), vI (p5)] σ (pt (some (vI (r))) τ)) (hr : -2147483648 ≤ r ∧ r < 2147483648) : CW l yL_addSign cL_addSign 9 [(0, 18, 21, 19), (0, 18, 25, 21), (0, 18, 29, 13)] 8 140 0 0 g [.ref (gd g (0)), vI (p0), vI (p1), vI (p2), vI (p3), vI (p4), vI (p5), .ref (gd g (27))] σ (pt (some (vI 0)) (sF τ 9 r)) := by
  refine CW_of (own := RL) hl (by decide) rfl (Nat.le_of_ble_eq_true rfl) (fun mc hC hml hR hT => ?_)
  subst hml
  refine j_lv (lv2 := [(0, .ref (gd g (0))), (1, vI (p0)), (2, vI (p1)), (3, vI (p2)), (4, vI (p3)), (5, vI (p4)), (6, vI (p5)), (7, .ref (gd g (27)))]) rfl ?_
  refine j_aload hC dL_addSign_0 7 rfl ?_
  refine j_iconst hC dL_addSign_2 ?_
  refine j_aload_n hC dL_addSign_3 0 rfl ?_
  refine j_iload_n hC dL_addSign_4 1 rfl ?_
  refine j_iload_n hC dL_addSign_5 2 rfl ?_
  refine j_iload_n hC dL_addSign_6 3 rfl ?_
  refine j_iload hC dL_addSign_7 4 rfl ?_
  refine j_iload hC dL_addSign_9 5 rfl ?_
  refine j_iload hC dL_addSign_11 6 rfl ?_
  refine j_callV1 (ar := 6) hC hR (hM) [vI (0), .ref (gd g (27))] rfl 0 rfl rfl rfl (by decide) (by decide +kernel) rfl wd330 wd331 wd332 wd1 wd333 (by decide) (Nat.le_of_ble_eq_true rfl) dL_addSign_13 ?_
  refine j_i2l hC dL_addSign_16 (by omega) ?_
  refine j_last0 hC dL_addSign_17 ?_
  refine j_goto (tgt := 33) hC dL_addSign_18 (by decide) ?_
  refine j_iconst hC dL_addSign_33 ?_
  exact j_iret hC dL_addSign_34 ⟨rfl, rfl⟩
set_option maxHeartbeats 4000000 in
set_option maxRecDepth 100000 in
theorem wx1_addSign {l : Launch} (hl : l.stackTraces = false) (g : GG) (σ : Sg) (p0 p1 p2 p3 p4 p5 : Int) (hM : CX l yX3_addSign cX3_addSign 8 (some .int) 7 113 1 6 g [.ref (gd g (0)), vI (p0), vI (p1), vI (p2), vI (p3), vI (p4), vI (p5)] σ pF (pxE "java/lang/IndexOutOfBoundsException" (σ))) : CW l yL_addSign cL_addSign 9 [(0, 18, 21, 19), (0, 18, 25, 21), (0, 18, 29, 13)] 8 140 1 6 g [.ref (gd g (0)), vI (p0), vI (p1), vI (p2), vI (p3), vI (p4), vI (p5), .ref (gd g (27))] σ (pt (some (vI 1)) σ) := by
  refine CW_of (own := RL) hl (by decide) rfl (Nat.le_of_ble_eq_true rfl) (fun mc hC hml hR hT => ?_)
  subst hml
  refine j_lv (lv2 := [(0, .ref (gd g (0))), (1, vI (p0)), (2, vI (p1)), (3, vI (p2)), (4, vI (p3)), (5, vI (p4)), (6, vI (p5)), (7, .ref (gd g (27)))]) rfl ?_
  refine j_aload hC dL_addSign_0 7 rfl ?_
  refine j_iconst hC dL_addSign_2 ?_
  refine j_aload_n hC dL_addSign_3 0 rfl ?_
  refine j_iload_n hC dL_addSign_4 1 rfl ?_
  refine j_iload_n hC dL_addSign_5 2 rfl ?_
  refine j_iload_n hC dL_addSign_6 3 rfl ?_
  refine j_iload hC dL_addSign_7 4 rfl ?_
  refine j_iload hC dL_addSign_9 5 rfl ?_
  refine j_iload hC dL_addSign_11 6 rfl ?_
  refine j_callVC (ar := 6) (hh := [(0, 18, 21, 19), (0, 18, 25, 21), (0, 18, 29, 13)]) hC hR hT hM [vI (0), .ref (gd g (27))] rfl 0 rfl rfl rfl (by decide) (by decide +kernel) rfl wd330 wd331 wd332 wd1 wd333 (by decide) (Nat.le_of_ble_eq_true rfl) dL_addSign_13 [] ⟨0, 18, 21, 19⟩ [⟨0, 18, 25, 21⟩, ⟨0, 18, 29, 13⟩] rfl (fun z hz => absurd hz List.not_mem_nil) (by decide) (by decide) wd328 wd191 (fun q => ?_)
  refine j_astore hC dL_addSign_21 [(8, .ref q), (0, .ref (gd g (0))), (1, vI (p0)), (2, vI (p1)), (3, vI (p2)), (4, vI (p3)), (5, vI (p4)), (6, vI (p5)), (7, .ref (gd g (27)))] (by decide) rfl ?_
  refine j_iconst hC dL_addSign_23 ?_
  exact j_iret hC dL_addSign_24 ⟨rfl, rfl⟩
set_option maxHeartbeats 4000000 in
set_option maxRecDepth 100000 in
theorem wx2_addSign {l : Launch} (hl : l.stackTraces = false) (g : GG) (σ : Sg) (p0 p1 p2 p3 p4 p5 : Int) (hM : CX l yX3_addSign cX3_addSign 8 (some .int) 7 113 1 6 g [.ref (gd g (0)), vI (p0), vI (p1), vI (p2), vI (p3), vI (p4), vI (p5)] σ pF (pxE "java/lang/IllegalArgumentException" (σ))) : CW l yL_addSign cL_addSign 9 [(0, 18, 21, 19), (0, 18, 25, 21), (0, 18, 29, 13)] 8 140 1 6 g [.ref (gd g (0)), vI (p0), vI (p1), vI (p2), vI (p3), vI (p4), vI (p5), .ref (gd g (27))] σ (pt (some (vI 2)) σ) := by
  refine CW_of (own := RL) hl (by decide) rfl (Nat.le_of_ble_eq_true rfl) (fun mc hC hml hR hT => ?_)
  subst hml
  refine j_lv (lv2 := [(0, .ref (gd g (0))), (1, vI (p0)), (2, vI (p1)), (3, vI (p2)), (4, vI (p3)), (5, vI (p4)), (6, vI (p5)), (7, .ref (gd g (27)))]) rfl ?_
  refine j_aload hC dL_addSign_0 7 rfl ?_
  refine j_iconst hC dL_addSign_2 ?_
  refine j_aload_n hC dL_addSign_3 0 rfl ?_
  refine j_iload_n hC dL_addSign_4 1 rfl ?_
  refine j_iload_n hC dL_addSign_5 2 rfl ?_
  refine j_iload_n hC dL_addSign_6 3 rfl ?_
  refine j_iload hC dL_addSign_7 4 rfl ?_
  refine j_iload hC dL_addSign_9 5 rfl ?_
  refine j_iload hC dL_addSign_11 6 rfl ?_
  refine j_callVC (ar := 6) (hh := [(0, 18, 21, 19), (0, 18, 25, 21), (0, 18, 29, 13)]) hC hR hT hM [vI (0), .ref (gd g (27))] rfl 0 rfl rfl rfl (by decide) (by decide +kernel) rfl wd330 wd331 wd332 wd1 wd333 (by decide) (Nat.le_of_ble_eq_true rfl) dL_addSign_13 [⟨0, 18, 21, 19⟩] ⟨0, 18, 25, 21⟩ [⟨0, 18, 29, 13⟩] rfl (fun z hz => by simp only [List.mem_cons, List.not_mem_nil, or_false] at hz; rcases hz with rfl <;> first | exact ⟨by decide, _, wd328, by decide⟩ | exact ⟨by decide, _, wd329, by decide⟩) (by decide) (by decide) wd329 wd339 (fun q => ?_)
  refine j_astore hC dL_addSign_25 [(8, .ref q), (0, .ref (gd g (0))), (1, vI (p0)), (2, vI (p1)), (3, vI (p2)), (4, vI (p3)), (5, vI (p4)), (6, vI (p5)), (7, .ref (gd g (27)))] (by decide) rfl ?_
  refine j_iconst hC dL_addSign_27 ?_
  exact j_iret hC dL_addSign_28 ⟨rfl, rfl⟩
set_option maxHeartbeats 4000000 in
set_option maxRecDepth 100000 in
theorem wx3_addSign {l : Launch} (hl : l.stackTraces = false) (g : GG) (σ : Sg) (p0 p1 p2 p3 p4 p5 : Int) (hM : CX l yX3_addSign cX3_addSign 8 (some .int) 7 113 1 6 g [.ref (gd g (0)), vI (p0), vI (p1), vI (p2), vI (p3), vI (p4), vI (p5)] σ pF (pxE "java/lang/IllegalStateException" (σ))) : CW l yL_addSign cL_addSign 9 [(0, 18, 21, 19), (0, 18, 25, 21), (0, 18, 29, 13)] 8 140 1 6 g [.ref (gd g (0)), vI (p0), vI (p1), vI (p2), vI (p3), vI (p4), vI (p5), .ref (gd g (27))] σ (pt (some (vI 3)) σ) := by
  refine CW_of (own := RL) hl (by decide) rfl (Nat.le_of_ble_eq_true rfl) (fun mc hC hml hR hT => ?_)
  subst hml
  refine j_lv (lv2 := [(0, .ref (gd g (0))), (1, vI (p0)), (2, vI (p1)), (3, vI (p2)), (4, vI (p3)), (5, vI (p4)), (6, vI (p5)), (7, .ref (gd g (27)))]) rfl ?_
  refine j_aload hC dL_addSign_0 7 rfl ?_
  refine j_iconst hC dL_addSign_2 ?_
  refine j_aload_n hC dL_addSign_3 0 rfl ?_
  refine j_iload_n hC dL_addSign_4 1 rfl ?_
  refine j_iload_n hC dL_addSign_5 2 rfl ?_
  refine j_iload_n hC dL_addSign_6 3 rfl ?_
  refine j_iload hC dL_addSign_7 4 rfl ?_
  refine j_iload hC dL_addSign_9 5 rfl ?_
  refine j_iload hC dL_addSign_11 6 rfl ?_
  refine j_callVC (ar := 6) (hh := [(0, 18, 21, 19), (0, 18, 25, 21), (0, 18, 29, 13)]) hC hR hT hM [vI (0), .ref (gd g (27))] rfl 0 rfl rfl rfl (by decide) (by decide +kernel) rfl wd330 wd331 wd332 wd1 wd333 (by decide) (Nat.le_of_ble_eq_true rfl) dL_addSign_13 [⟨0, 18, 21, 19⟩, ⟨0, 18, 25, 21⟩] ⟨0, 18, 29, 13⟩ [] rfl (fun z hz => by simp only [List.mem_cons, List.not_mem_nil, or_false] at hz; rcases hz with rfl | rfl <;> first | exact ⟨by decide, _, wd328, by decide⟩ | exact ⟨by decide, _, wd329, by decide⟩) (by decide) (by decide) wd304 wd311 (fun q => ?_)
  refine j_astore hC dL_addSign_29 [(8, .ref q), (0, .ref (gd g (0))), (1, vI (p0)), (2, vI (p1)), (3, vI (p2)), (4, vI (p3)), (5, vI (p4)), (6, vI (p5)), (7, .ref (gd g (27)))] (by decide) rfl ?_
  refine j_iconst hC dL_addSign_31 ?_
  exact j_iret hC dL_addSign_32 ⟨rfl, rfl⟩
set_option maxHeartbeats 4000000 in
set_option maxRecDepth 100000 in
theorem wk_alikeIfJoined {l : Launch} (hl : l.stackTraces = false) (g : GG) (σ τ : Sg) (p0 p1 : Int) (r : Int) (hM : CN l yX3_alikeIfJoined cX3_alikeIfJoined 5 (some .int) 7 110 0 0 g [.ref (gd g (0)), vI (p0), vI (p1)] σ (pt (some (vI (r))) τ)) (hr : -2147483648 ≤ r ∧ r < 2147483648) : CW l yL_alikeIfJoined cL_alikeIfJoined 5 [(0, 10, 13, 19)] 8 134 0 0 g [.ref (gd g (0)), vI (p0), vI (p1), .ref (gd g (27))] σ (pt (some (vI 0)) (sF τ 9 r)) := by
  refine CW_of (own := RL) hl (by decide) rfl (Nat.le_of_ble_eq_true rfl) (fun mc hC hml hR hT => ?_)
  subst hml
  refine j_lv (lv2 := [(0, .ref (gd g (0))), (1, vI (p0)), (2, vI (p1)), (3, .ref (gd g (27)))]) rfl ?_
  refine j_aload_n hC dL_alikeIfJoined_0 3 rfl ?_
  refine j_iconst hC dL_alikeIfJoined_1 ?_
  refine j_aload_n hC dL_alikeIfJoined_2 0 rfl ?_
  refine j_iload_n hC dL_alikeIfJoined_3 1 rfl ?_
  refine j_iload_n hC dL_alikeIfJoined_4 2 rfl ?_
  refine j_callV1 (ar := 2) hC hR (hM) [vI (0), .ref (gd g (27))] rfl 0 rfl rfl rfl (by decide) (by decide +kernel) rfl wd560 wd561 wd562 wd1 wd563 (by decide) (Nat.le_of_ble_eq_true rfl) dL_alikeIfJoined_5 ?_
  refine j_i2l hC dL_alikeIfJoined_8 (by omega) ?_
  refine j_last0 hC dL_alikeIfJoined_9 ?_
  refine j_goto (tgt := 17) hC dL_alikeIfJoined_10 (by decide) ?_
  refine j_iconst hC dL_alikeIfJoined_17 ?_
  exact j_iret hC dL_alikeIfJoined_18 ⟨rfl, rfl⟩
set_option maxHeartbeats 4000000 in
set_option maxRecDepth 100000 in
theorem wx1_alikeIfJoined {l : Launch} (hl : l.stackTraces = false) (g : GG) (σ : Sg) (p0 p1 : Int) (hM : CX l yX3_alikeIfJoined cX3_alikeIfJoined 5 (some .int) 7 110 1 6 g [.ref (gd g (0)), vI (p0), vI (p1)] σ pF (pxE "java/lang/IndexOutOfBoundsException" (σ))) : CW l yL_alikeIfJoined cL_alikeIfJoined 5 [(0, 10, 13, 19)] 8 134 1 6 g [.ref (gd g (0)), vI (p0), vI (p1), .ref (gd g (27))] σ (pt (some (vI 1)) σ) := by
  refine CW_of (own := RL) hl (by decide) rfl (Nat.le_of_ble_eq_true rfl) (fun mc hC hml hR hT => ?_)
  subst hml
  refine j_lv (lv2 := [(0, .ref (gd g (0))), (1, vI (p0)), (2, vI (p1)), (3, .ref (gd g (27)))]) rfl ?_
  refine j_aload_n hC dL_alikeIfJoined_0 3 rfl ?_
  refine j_iconst hC dL_alikeIfJoined_1 ?_
  refine j_aload_n hC dL_alikeIfJoined_2 0 rfl ?_
  refine j_iload_n hC dL_alikeIfJoined_3 1 rfl ?_
  refine j_iload_n hC dL_alikeIfJoined_4 2 rfl ?_
  refine j_callVC (ar := 2) (hh := [(0, 10, 13, 19)]) hC hR hT hM [vI (0), .ref (gd g (27))] rfl 0 rfl rfl rfl (by decide) (by decide +kernel) rfl wd560 wd561 wd562 wd1 wd563 (by decide) (Nat.le_of_ble_eq_true rfl) dL_alikeIfJoined_5 [] ⟨0, 10, 13, 19⟩ [] rfl (fun z hz => absurd hz List.not_mem_nil) (by decide) (by decide) wd328 wd191 (fun q => ?_)
  refine j_astore hC dL_alikeIfJoined_13 [(4, .ref q), (0, .ref (gd g (0))), (1, vI (p0)), (2, vI (p1)), (3, .ref (gd g (27)))] (by decide) rfl ?_
  refine j_iconst hC dL_alikeIfJoined_15 ?_
  exact j_iret hC dL_alikeIfJoined_16 ⟨rfl, rfl⟩
set_option maxHeartbeats 4000000 in
set_option maxRecDepth 100000 in
theorem wk_alikePairs {l : Launch} (hl : l.stackTraces = false) (g : GG) (σ τ : Sg) (p0 : Int) (r : Int) (hM : CN l yX3_alikePairs cX3_alikePairs 2 (some .int) 7 111 0 0 g [.ref (gd g (0)), vI (p0)] σ (pt (some (vI (r))) τ)) (hr : -2147483648 ≤ r ∧ r < 2147483648) : CW l yL_alikePairs cL_alikePairs 4 [(0, 9, 12, 19)] 8 132 0 0 g [.ref (gd g (0)), vI (p0), .ref (gd g (27))] σ (pt (some (vI 0)) (sF τ 9 r)) := by
  refine CW_of (own := RL) hl (by decide) rfl (Nat.le_of_ble_eq_true rfl) (fun mc hC hml hR hT => ?_)
  subst hml
  refine j_lv (lv2 := [(0, .ref (gd g (0))), (1, vI (p0)), (2, .ref (gd g (27)))]) rfl ?_
  refine j_aload_n hC dL_alikePairs_0 2 rfl ?_
  refine j_iconst hC dL_alikePairs_1 ?_
  refine j_aload_n hC dL_alikePairs_2 0 rfl ?_
  refine j_iload_n hC dL_alikePairs_3 1 rfl ?_
  refine j_callV1 (ar := 1) hC hR (hM) [vI (0), .ref (gd g (27))] rfl 0 rfl rfl rfl (by decide) (by decide +kernel) rfl wd481 wd482 wd483 wd1 wd484 (by decide) (Nat.le_of_ble_eq_true rfl) dL_alikePairs_4 ?_
  refine j_i2l hC dL_alikePairs_7 (by omega) ?_
  refine j_last0 hC dL_alikePairs_8 ?_
  refine j_goto (tgt := 15) hC dL_alikePairs_9 (by decide) ?_
  refine j_iconst hC dL_alikePairs_15 ?_
  exact j_iret hC dL_alikePairs_16 ⟨rfl, rfl⟩
set_option maxHeartbeats 4000000 in
set_option maxRecDepth 100000 in
theorem wx1_alikePairs {l : Launch} (hl : l.stackTraces = false) (g : GG) (σ : Sg) (p0 : Int) (hM : CX l yX3_alikePairs cX3_alikePairs 2 (some .int) 7 111 1 6 g [.ref (gd g (0)), vI (p0)] σ pF (pxE "java/lang/IndexOutOfBoundsException" (σ))) : CW l yL_alikePairs cL_alikePairs 4 [(0, 9, 12, 19)] 8 132 1 6 g [.ref (gd g (0)), vI (p0), .ref (gd g (27))] σ (pt (some (vI 1)) σ) := by
  refine CW_of (own := RL) hl (by decide) rfl (Nat.le_of_ble_eq_true rfl) (fun mc hC hml hR hT => ?_)
  subst hml
  refine j_lv (lv2 := [(0, .ref (gd g (0))), (1, vI (p0)), (2, .ref (gd g (27)))]) rfl ?_
  refine j_aload_n hC dL_alikePairs_0 2 rfl ?_
  refine j_iconst hC dL_alikePairs_1 ?_
  refine j_aload_n hC dL_alikePairs_2 0 rfl ?_
  refine j_iload_n hC dL_alikePairs_3 1 rfl ?_
  refine j_callVC (ar := 1) (hh := [(0, 9, 12, 19)]) hC hR hT hM [vI (0), .ref (gd g (27))] rfl 0 rfl rfl rfl (by decide) (by decide +kernel) rfl wd481 wd482 wd483 wd1 wd484 (by decide) (Nat.le_of_ble_eq_true rfl) dL_alikePairs_4 [] ⟨0, 9, 12, 19⟩ [] rfl (fun z hz => absurd hz List.not_mem_nil) (by decide) (by decide) wd328 wd191 (fun q => ?_)
  refine j_astore_n hC dL_alikePairs_12 [(3, .ref q), (0, .ref (gd g (0))), (1, vI (p0)), (2, .ref (gd g (27)))] (by decide) rfl ?_
  refine j_iconst hC dL_alikePairs_13 ?_
  exact j_iret hC dL_alikePairs_14 ⟨rfl, rfl⟩
set_option maxHeartbeats 4000000 in
set_option maxRecDepth 100000 in
theorem wk_apart {l : Launch} (hl : l.stackTraces = false) (g : GG) (σ τ : Sg) (p0 p1 p2 : Int) (r : Int) (hM : CN l yX3_apart cX3_apart 5 (some .int) 7 111 0 0 g [.ref (gd g (0)), vI (p0), vI (p1), vI (p2)] σ (pt (some (vI (r))) τ)) (hr : -2147483648 ≤ r ∧ r < 2147483648) : CW l yL_apart cL_apart 6 [(0, 12, 15, 19)] 8 135 0 0 g [.ref (gd g (0)), vI (p0), vI (p1), vI (p2), .ref (gd g (27))] σ (pt (some (vI 0)) (sF τ 9 r)) := by
  refine CW_of (own := RL) hl (by decide) rfl (Nat.le_of_ble_eq_true rfl) (fun mc hC hml hR hT => ?_)
  subst hml
  refine j_lv (lv2 := [(0, .ref (gd g (0))), (1, vI (p0)), (2, vI (p1)), (3, vI (p2)), (4, .ref (gd g (27)))]) rfl ?_
  refine j_aload hC dL_apart_0 4 rfl ?_
  refine j_iconst hC dL_apart_2 ?_
  refine j_aload_n hC dL_apart_3 0 rfl ?_
  refine j_iload_n hC dL_apart_4 1 rfl ?_
  refine j_iload_n hC dL_apart_5 2 rfl ?_
  refine j_iload_n hC dL_apart_6 3 rfl ?_
  refine j_callV1 (ar := 3) hC hR (hM) [vI (0), .ref (gd g (27))] rfl 0 rfl rfl rfl (by decide) (by decide +kernel) rfl wd473 wd474 wd475 wd1 wd476 (by decide) (Nat.le_of_ble_eq_true rfl) dL_apart_7 ?_
  refine j_i2l hC dL_apart_10 (by omega) ?_
  refine j_last0 hC dL_apart_11 ?_
  refine j_goto (tgt := 19) hC dL_apart_12 (by decide) ?_
  refine j_iconst hC dL_apart_19 ?_
  exact j_iret hC dL_apart_20 ⟨rfl, rfl⟩
set_option maxHeartbeats 4000000 in
set_option maxRecDepth 100000 in
theorem wx1_apart {l : Launch} (hl : l.stackTraces = false) (g : GG) (σ : Sg) (p0 p1 p2 : Int) (hM : CX l yX3_apart cX3_apart 5 (some .int) 7 111 1 6 g [.ref (gd g (0)), vI (p0), vI (p1), vI (p2)] σ pF (pxE "java/lang/IndexOutOfBoundsException" (σ))) : CW l yL_apart cL_apart 6 [(0, 12, 15, 19)] 8 135 1 6 g [.ref (gd g (0)), vI (p0), vI (p1), vI (p2), .ref (gd g (27))] σ (pt (some (vI 1)) σ) := by
  refine CW_of (own := RL) hl (by decide) rfl (Nat.le_of_ble_eq_true rfl) (fun mc hC hml hR hT => ?_)
  subst hml
  refine j_lv (lv2 := [(0, .ref (gd g (0))), (1, vI (p0)), (2, vI (p1)), (3, vI (p2)), (4, .ref (gd g (27)))]) rfl ?_
  refine j_aload hC dL_apart_0 4 rfl ?_
  refine j_iconst hC dL_apart_2 ?_
  refine j_aload_n hC dL_apart_3 0 rfl ?_
  refine j_iload_n hC dL_apart_4 1 rfl ?_
  refine j_iload_n hC dL_apart_5 2 rfl ?_
  refine j_iload_n hC dL_apart_6 3 rfl ?_
  refine j_callVC (ar := 3) (hh := [(0, 12, 15, 19)]) hC hR hT hM [vI (0), .ref (gd g (27))] rfl 0 rfl rfl rfl (by decide) (by decide +kernel) rfl wd473 wd474 wd475 wd1 wd476 (by decide) (Nat.le_of_ble_eq_true rfl) dL_apart_7 [] ⟨0, 12, 15, 19⟩ [] rfl (fun z hz => absurd hz List.not_mem_nil) (by decide) (by decide) wd328 wd191 (fun q => ?_)
  refine j_astore hC dL_apart_15 [(5, .ref q), (0, .ref (gd g (0))), (1, vI (p0)), (2, vI (p1)), (3, vI (p2)), (4, .ref (gd g (27)))] (by decide) rfl ?_
  refine j_iconst hC dL_apart_17 ?_
  exact j_iret hC dL_apart_18 ⟨rfl, rfl⟩
set_option maxHeartbeats 4000000 in
set_option maxRecDepth 100000 in
theorem wk_areJoined {l : Launch} (hl : l.stackTraces = false) (g : GG) (σ τ : Sg) (p0 p1 : Int) (r : Int) (hM : CN l yX3_areJoined cX3_areJoined 3 (some .boolean) 7 110 0 0 g [.ref (gd g (0)), vI (p0), vI (p1)] σ (pt (some (vI (r))) τ)) (hr : r = 0 ∨ r = 1) : CW l yL_areJoined cL_areJoined 5 [(0, 17, 20, 19)] 8 132 0 0 g [.ref (gd g (0)), vI (p0), vI (p1), .ref (gd g (27))] σ (pt (some (vI 0)) (sF τ 9 r)) := by
  refine CW_of (own := RL) hl (by decide) rfl (Nat.le_of_ble_eq_true rfl) (fun mc hC hml hR hT => ?_)
  subst hml
  refine j_lv (lv2 := [(0, .ref (gd g (0))), (1, vI (p0)), (2, vI (p1)), (3, .ref (gd g (27)))]) rfl ?_
  rcases hr with rfl | rfl
  · refine j_aload_n hC dL_areJoined_0 3 rfl ?_
    refine j_iconst hC dL_areJoined_1 ?_
    refine j_aload_n hC dL_areJoined_2 0 rfl ?_
    refine j_iload_n hC dL_areJoined_3 1 rfl ?_
    refine j_iload_n hC dL_areJoined_4 2 rfl ?_
    refine j_callV1 (ar := 2) hC hR (hM) [vI (0), .ref (gd g (27))] rfl 0 rfl rfl rfl (by decide) (by decide +kernel) rfl wd410 wd411 wd412 wd1 wd413 (by decide) (Nat.le_of_ble_eq_true rfl) dL_areJoined_5 ?_
    refine j_if_eq (tgt := 15) hC dL_areJoined_8 (by decide) (by omega) (fun _ => ?_) (fun h => absurd h (by omega))
    refine j_lconst (v := jI 0) hC dL_areJoined_15 (by decide) ?_
    refine j_last0 hC dL_areJoined_16 ?_
    refine j_goto (tgt := 24) hC dL_areJoined_17 (by decide) ?_
    refine j_iconst hC dL_areJoined_24 ?_
    exact j_iret hC dL_areJoined_25 ⟨rfl, rfl⟩
  · refine j_aload_n hC dL_areJoined_0 3 rfl ?_
    refine j_iconst hC dL_areJoined_1 ?_
    refine j_aload_n hC dL_areJoined_2 0 rfl ?_
    refine j_iload_n hC dL_areJoined_3 1 rfl ?_
    refine j_iload_n hC dL_areJoined_4 2 rfl ?_
    refine j_callV1 (ar := 2) hC hR (hM) [vI (0), .ref (gd g (27))] rfl 0 rfl rfl rfl (by decide) (by decide +kernel) rfl wd410 wd411 wd412 wd1 wd413 (by decide) (Nat.le_of_ble_eq_true rfl) dL_areJoined_5 ?_
    refine j_if_eq (tgt := 15) hC dL_areJoined_8 (by decide) (by omega) (fun h => absurd h (by omega)) (fun _ => ?_)
    refine j_lconst (v := jI 1) hC dL_areJoined_11 (by decide) ?_
    refine j_goto (tgt := 16) hC dL_areJoined_12 (by decide) ?_
    refine j_last0 hC dL_areJoined_16 ?_
    refine j_goto (tgt := 24) hC dL_areJoined_17 (by decide) ?_
    refine j_iconst hC dL_areJoined_24 ?_
    exact j_iret hC dL_areJoined_25 ⟨rfl, rfl⟩
set_option maxHeartbeats 4000000 in
set_option maxRecDepth 100000 in
theorem wx1_areJoined {l : Launch} (hl : l.stackTraces = false) (g : GG) (σ : Sg) (p0 p1 : Int) (hM : CX l yX3_areJoined cX3_areJoined 3 (some .boolean) 7 110 1 6 g [.ref (gd g (0)), vI (p0), vI (p1)] σ pF (pxE "java/lang/IndexOutOfBoundsException" (σ))) : CW l yL_areJoined cL_areJoined 5 [(0, 17, 20, 19)] 8 132 1 6 g [.ref (gd g (0)), vI (p0), vI (p1), .ref (gd g (27))] σ (pt (some (vI 1)) σ) := by
  refine CW_of (own := RL) hl (by decide) rfl (Nat.le_of_ble_eq_true rfl) (fun mc hC hml hR hT => ?_)
  subst hml
  refine j_lv (lv2 := [(0, .ref (gd g (0))), (1, vI (p0)), (2, vI (p1)), (3, .ref (gd g (27)))]) rfl ?_
  refine j_aload_n hC dL_areJoined_0 3 rfl ?_
  refine j_iconst hC dL_areJoined_1 ?_
  refine j_aload_n hC dL_areJoined_2 0 rfl ?_
  refine j_iload_n hC dL_areJoined_3 1 rfl ?_
  refine j_iload_n hC dL_areJoined_4 2 rfl ?_
  refine j_callVC (ar := 2) (hh := [(0, 17, 20, 19)]) hC hR hT hM [vI (0), .ref (gd g (27))] rfl 0 rfl rfl rfl (by decide) (by decide +kernel) rfl wd410 wd411 wd412 wd1 wd413 (by decide) (Nat.le_of_ble_eq_true rfl) dL_areJoined_5 [] ⟨0, 17, 20, 19⟩ [] rfl (fun z hz => absurd hz List.not_mem_nil) (by decide) (by decide) wd328 wd191 (fun q => ?_)
  refine j_astore hC dL_areJoined_20 [(4, .ref q), (0, .ref (gd g (0))), (1, vI (p0)), (2, vI (p1)), (3, .ref (gd g (27)))] (by decide) rfl ?_
  refine j_iconst hC dL_areJoined_22 ?_
  exact j_iret hC dL_areJoined_23 ⟨rfl, rfl⟩
set_option maxHeartbeats 4000000 in
set_option maxRecDepth 100000 in
theorem wk_bestThumb {l : Launch} (hl : l.stackTraces = false) (g : GG) (σ τ : Sg) (p0 p1 : Int) (r : Int) (hM : CN l yX3_bestThumb cX3_bestThumb 4 (some .int) 7 121 0 0 g [.ref (gd g (0)), vI (p0), vI (p1)] σ (pt (some (vI (r))) τ)) (hr : -2147483648 ≤ r ∧ r < 2147483648) : CW l yL_bestThumb cL_bestThumb 5 [(0, 10, 13, 19)] 8 144 0 0 g [.ref (gd g (0)), vI (p0), vI (p1), .ref (gd g (27))] σ (pt (some (vI 0)) (sF τ 9 r)) := by
  refine CW_of (own := RL) hl (by decide) rfl (Nat.le_of_ble_eq_true rfl) (fun mc hC hml hR hT => ?_)
  subst hml
  refine j_lv (lv2 := [(0, .ref (gd g (0))), (1, vI (p0)), (2, vI (p1)), (3, .ref (gd g (27)))]) rfl ?_
  refine j_aload_n hC dL_bestThumb_0 3 rfl ?_
  refine j_iconst hC dL_bestThumb_1 ?_
  refine j_aload_n hC dL_bestThumb_2 0 rfl ?_
  refine j_iload_n hC dL_bestThumb_3 1 rfl ?_
  refine j_iload_n hC dL_bestThumb_4 2 rfl ?_
  refine j_callV1 (ar := 2) hC hR (hM) [vI (0), .ref (gd g (27))] rfl 0 rfl rfl rfl (by decide) (by decide +kernel) rfl wd549 wd550 wd551 wd1 wd552 (by decide) (Nat.le_of_ble_eq_true rfl) dL_bestThumb_5 ?_
  refine j_i2l hC dL_bestThumb_8 (by omega) ?_
  refine j_last0 hC dL_bestThumb_9 ?_
  refine j_goto (tgt := 17) hC dL_bestThumb_10 (by decide) ?_
  refine j_iconst hC dL_bestThumb_17 ?_
  exact j_iret hC dL_bestThumb_18 ⟨rfl, rfl⟩
set_option maxHeartbeats 4000000 in
set_option maxRecDepth 100000 in
theorem wx1_bestThumb {l : Launch} (hl : l.stackTraces = false) (g : GG) (σ : Sg) (p0 p1 : Int) (hM : CX l yX3_bestThumb cX3_bestThumb 4 (some .int) 7 121 1 6 g [.ref (gd g (0)), vI (p0), vI (p1)] σ pF (pxE "java/lang/IndexOutOfBoundsException" (σ))) : CW l yL_bestThumb cL_bestThumb 5 [(0, 10, 13, 19)] 8 144 1 6 g [.ref (gd g (0)), vI (p0), vI (p1), .ref (gd g (27))] σ (pt (some (vI 1)) σ) := by
  refine CW_of (own := RL) hl (by decide) rfl (Nat.le_of_ble_eq_true rfl) (fun mc hC hml hR hT => ?_)
  subst hml
  refine j_lv (lv2 := [(0, .ref (gd g (0))), (1, vI (p0)), (2, vI (p1)), (3, .ref (gd g (27)))]) rfl ?_
  refine j_aload_n hC dL_bestThumb_0 3 rfl ?_
  refine j_iconst hC dL_bestThumb_1 ?_
  refine j_aload_n hC dL_bestThumb_2 0 rfl ?_
  refine j_iload_n hC dL_bestThumb_3 1 rfl ?_
  refine j_iload_n hC dL_bestThumb_4 2 rfl ?_
  refine j_callVC (ar := 2) (hh := [(0, 10, 13, 19)]) hC hR hT hM [vI (0), .ref (gd g (27))] rfl 0 rfl rfl rfl (by decide) (by decide +kernel) rfl wd549 wd550 wd551 wd1 wd552 (by decide) (Nat.le_of_ble_eq_true rfl) dL_bestThumb_5 [] ⟨0, 10, 13, 19⟩ [] rfl (fun z hz => absurd hz List.not_mem_nil) (by decide) (by decide) wd328 wd191 (fun q => ?_)
  refine j_astore hC dL_bestThumb_13 [(4, .ref q), (0, .ref (gd g (0))), (1, vI (p0)), (2, vI (p1)), (3, .ref (gd g (27)))] (by decide) rfl ?_
  refine j_iconst hC dL_bestThumb_15 ?_
  exact j_iret hC dL_bestThumb_16 ⟨rfl, rfl⟩
set_option maxHeartbeats 4000000 in
set_option maxRecDepth 100000 in
theorem wk_bestToBorrow {l : Launch} (hl : l.stackTraces = false) (g : GG) (σ τ : Sg) (p0 p1 : Int) (r : Int) (hM : CN l yX3_bestToBorrow cX3_bestToBorrow 9 (some .int) 7 119 0 0 g [.ref (gd g (0)), vI (p0), vI (p1)] σ (pt (some (vI (r))) τ)) (hr : -2147483648 ≤ r ∧ r < 2147483648) : CW l yL_bestToBorrow cL_bestToBorrow 5 [(0, 10, 13, 19)] 8 147 0 0 g [.ref (gd g (0)), vI (p0), vI (p1), .ref (gd g (27))] σ (pt (some (vI 0)) (sF τ 9 r)) := by
  refine CW_of (own := RL) hl (by decide) rfl (Nat.le_of_ble_eq_true rfl) (fun mc hC hml hR hT => ?_)
  subst hml
  refine j_lv (lv2 := [(0, .ref (gd g (0))), (1, vI (p0)), (2, vI (p1)), (3, .ref (gd g (27)))]) rfl ?_
  refine j_aload_n hC dL_bestToBorrow_0 3 rfl ?_
  refine j_iconst hC dL_bestToBorrow_1 ?_
  refine j_aload_n hC dL_bestToBorrow_2 0 rfl ?_
  refine j_iload_n hC dL_bestToBorrow_3 1 rfl ?_
  refine j_iload_n hC dL_bestToBorrow_4 2 rfl ?_
  refine j_callV1 (ar := 2) hC hR (hM) [vI (0), .ref (gd g (27))] rfl 0 rfl rfl rfl (by decide) (by decide +kernel) rfl wd556 wd179 wd180 wd1 wd181 (by decide) (Nat.le_of_ble_eq_true rfl) dL_bestToBorrow_5 ?_
  refine j_i2l hC dL_bestToBorrow_8 (by omega) ?_
  refine j_last0 hC dL_bestToBorrow_9 ?_
  refine j_goto (tgt := 17) hC dL_bestToBorrow_10 (by decide) ?_
  refine j_iconst hC dL_bestToBorrow_17 ?_
  exact j_iret hC dL_bestToBorrow_18 ⟨rfl, rfl⟩
set_option maxHeartbeats 4000000 in
set_option maxRecDepth 100000 in
theorem wx1_bestToBorrow {l : Launch} (hl : l.stackTraces = false) (g : GG) (σ : Sg) (p0 p1 : Int) (hM : CX l yX3_bestToBorrow cX3_bestToBorrow 9 (some .int) 7 119 1 6 g [.ref (gd g (0)), vI (p0), vI (p1)] σ pF (pxE "java/lang/IndexOutOfBoundsException" (σ))) : CW l yL_bestToBorrow cL_bestToBorrow 5 [(0, 10, 13, 19)] 8 147 1 6 g [.ref (gd g (0)), vI (p0), vI (p1), .ref (gd g (27))] σ (pt (some (vI 1)) σ) := by
  refine CW_of (own := RL) hl (by decide) rfl (Nat.le_of_ble_eq_true rfl) (fun mc hC hml hR hT => ?_)
  subst hml
  refine j_lv (lv2 := [(0, .ref (gd g (0))), (1, vI (p0)), (2, vI (p1)), (3, .ref (gd g (27)))]) rfl ?_
  refine j_aload_n hC dL_bestToBorrow_0 3 rfl ?_
  refine j_iconst hC dL_bestToBorrow_1 ?_
  refine j_aload_n hC dL_bestToBorrow_2 0 rfl ?_
  refine j_iload_n hC dL_bestToBorrow_3 1 rfl ?_
  refine j_iload_n hC dL_bestToBorrow_4 2 rfl ?_
  refine j_callVC (ar := 2) (hh := [(0, 10, 13, 19)]) hC hR hT hM [vI (0), .ref (gd g (27))] rfl 0 rfl rfl rfl (by decide) (by decide +kernel) rfl wd556 wd179 wd180 wd1 wd181 (by decide) (Nat.le_of_ble_eq_true rfl) dL_bestToBorrow_5 [] ⟨0, 10, 13, 19⟩ [] rfl (fun z hz => absurd hz List.not_mem_nil) (by decide) (by decide) wd328 wd191 (fun q => ?_)
  refine j_astore hC dL_bestToBorrow_13 [(4, .ref q), (0, .ref (gd g (0))), (1, vI (p0)), (2, vI (p1)), (3, .ref (gd g (27)))] (by decide) rfl ?_
  refine j_iconst hC dL_bestToBorrow_15 ?_
  exact j_iret hC dL_bestToBorrow_16 ⟨rfl, rfl⟩
set_option maxHeartbeats 4000000 in
set_option maxRecDepth 100000 in
theorem wk_borrow {l : Launch} (hl : l.stackTraces = false) (g : GG) (σ τ : Sg) (p0 p1 p2 : Int) (r : Int) (hM : CN l yX3_borrow cX3_borrow 8 (some .int) 7 111 0 0 g [.ref (gd g (0)), vI (p0), vI (p1), vI (p2)] σ (pt (some (vI (r))) τ)) (hr : -2147483648 ≤ r ∧ r < 2147483648) : CW l yL_borrow cL_borrow 6 [(0, 12, 15, 19), (0, 12, 19, 21), (0, 12, 23, 13)] 8 138 0 0 g [.ref (gd g (0)), vI (p0), vI (p1), vI (p2), .ref (gd g (27))] σ (pt (some (vI 0)) (sF τ 9 r)) := by
  refine CW_of (own := RL) hl (by decide) rfl (Nat.le_of_ble_eq_true rfl) (fun mc hC hml hR hT => ?_)
  subst hml
  refine j_lv (lv2 := [(0, .ref (gd g (0))), (1, vI (p0)), (2, vI (p1)), (3, vI (p2)), (4, .ref (gd g (27)))]) rfl ?_
  refine j_aload hC dL_borrow_0 4 rfl ?_
  refine j_iconst hC dL_borrow_2 ?_
  refine j_aload_n hC dL_borrow_3 0 rfl ?_
  refine j_iload_n hC dL_borrow_4 1 rfl ?_
  refine j_iload_n hC dL_borrow_5 2 rfl ?_
  refine j_iload_n hC dL_borrow_6 3 rfl ?_
  refine j_callV1 (ar := 3) hC hR (hM) [vI (0), .ref (gd g (27))] rfl 0 rfl rfl rfl (by decide) (by decide +kernel) rfl wd401 wd402 wd403 wd1 wd404 (by decide) (Nat.le_of_ble_eq_true rfl) dL_borrow_7 ?_
  refine j_i2l hC dL_borrow_10 (by omega) ?_
  refine j_last0 hC dL_borrow_11 ?_
  refine j_goto (tgt := 27) hC dL_borrow_12 (by decide) ?_
  refine j_iconst hC dL_borrow_27 ?_
  exact j_iret hC dL_borrow_28 ⟨rfl, rfl⟩
set_option maxHeartbeats 4000000 in
set_option maxRecDepth 100000 in
theorem wx1_borrow {l : Launch} (hl : l.stackTraces = false) (g : GG) (σ : Sg) (p0 p1 p2 : Int) (hM : CX l yX3_borrow cX3_borrow 8 (some .int) 7 111 1 6 g [.ref (gd g (0)), vI (p0), vI (p1), vI (p2)] σ pF (pxE "java/lang/IndexOutOfBoundsException" (σ))) : CW l yL_borrow cL_borrow 6 [(0, 12, 15, 19), (0, 12, 19, 21), (0, 12, 23, 13)] 8 138 1 6 g [.ref (gd g (0)), vI (p0), vI (p1), vI (p2), .ref (gd g (27))] σ (pt (some (vI 1)) σ) := by
  refine CW_of (own := RL) hl (by decide) rfl (Nat.le_of_ble_eq_true rfl) (fun mc hC hml hR hT => ?_)
  subst hml
  refine j_lv (lv2 := [(0, .ref (gd g (0))), (1, vI (p0)), (2, vI (p1)), (3, vI (p2)), (4, .ref (gd g (27)))]) rfl ?_
  refine j_aload hC dL_borrow_0 4 rfl ?_
  refine j_iconst hC dL_borrow_2 ?_
  refine j_aload_n hC dL_borrow_3 0 rfl ?_
  refine j_iload_n hC dL_borrow_4 1 rfl ?_
  refine j_iload_n hC dL_borrow_5 2 rfl ?_
  refine j_iload_n hC dL_borrow_6 3 rfl ?_
  refine j_callVC (ar := 3) (hh := [(0, 12, 15, 19), (0, 12, 19, 21), (0, 12, 23, 13)]) hC hR hT hM [vI (0), .ref (gd g (27))] rfl 0 rfl rfl rfl (by decide) (by decide +kernel) rfl wd401 wd402 wd403 wd1 wd404 (by decide) (Nat.le_of_ble_eq_true rfl) dL_borrow_7 [] ⟨0, 12, 15, 19⟩ [⟨0, 12, 19, 21⟩, ⟨0, 12, 23, 13⟩] rfl (fun z hz => absurd hz List.not_mem_nil) (by decide) (by decide) wd328 wd191 (fun q => ?_)
  refine j_astore hC dL_borrow_15 [(5, .ref q), (0, .ref (gd g (0))), (1, vI (p0)), (2, vI (p1)), (3, vI (p2)), (4, .ref (gd g (27)))] (by decide) rfl ?_
  refine j_iconst hC dL_borrow_17 ?_
  exact j_iret hC dL_borrow_18 ⟨rfl, rfl⟩
set_option maxHeartbeats 4000000 in
set_option maxRecDepth 100000 in
theorem wx2_borrow {l : Launch} (hl : l.stackTraces = false) (g : GG) (σ : Sg) (p0 p1 p2 : Int) (hM : CX l yX3_borrow cX3_borrow 8 (some .int) 7 111 1 6 g [.ref (gd g (0)), vI (p0), vI (p1), vI (p2)] σ pF (pxE "java/lang/IllegalArgumentException" (σ))) : CW l yL_borrow cL_borrow 6 [(0, 12, 15, 19), (0, 12, 19, 21), (0, 12, 23, 13)] 8 138 1 6 g [.ref (gd g (0)), vI (p0), vI (p1), vI (p2), .ref (gd g (27))] σ (pt (some (vI 2)) σ) := by
  refine CW_of (own := RL) hl (by decide) rfl (Nat.le_of_ble_eq_true rfl) (fun mc hC hml hR hT => ?_)
  subst hml
  refine j_lv (lv2 := [(0, .ref (gd g (0))), (1, vI (p0)), (2, vI (p1)), (3, vI (p2)), (4, .ref (gd g (27)))]) rfl ?_
  refine j_aload hC dL_borrow_0 4 rfl ?_
  refine j_iconst hC dL_borrow_2 ?_
  refine j_aload_n hC dL_borrow_3 0 rfl ?_
  refine j_iload_n hC dL_borrow_4 1 rfl ?_
  refine j_iload_n hC dL_borrow_5 2 rfl ?_
  refine j_iload_n hC dL_borrow_6 3 rfl ?_
  refine j_callVC (ar := 3) (hh := [(0, 12, 15, 19), (0, 12, 19, 21), (0, 12, 23, 13)]) hC hR hT hM [vI (0), .ref (gd g (27))] rfl 0 rfl rfl rfl (by decide) (by decide +kernel) rfl wd401 wd402 wd403 wd1 wd404 (by decide) (Nat.le_of_ble_eq_true rfl) dL_borrow_7 [⟨0, 12, 15, 19⟩] ⟨0, 12, 19, 21⟩ [⟨0, 12, 23, 13⟩] rfl (fun z hz => by simp only [List.mem_cons, List.not_mem_nil, or_false] at hz; rcases hz with rfl <;> first | exact ⟨by decide, _, wd328, by decide⟩ | exact ⟨by decide, _, wd329, by decide⟩) (by decide) (by decide) wd329 wd339 (fun q => ?_)
  refine j_astore hC dL_borrow_19 [(5, .ref q), (0, .ref (gd g (0))), (1, vI (p0)), (2, vI (p1)), (3, vI (p2)), (4, .ref (gd g (27)))] (by decide) rfl ?_
  refine j_iconst hC dL_borrow_21 ?_
  exact j_iret hC dL_borrow_22 ⟨rfl, rfl⟩
set_option maxHeartbeats 4000000 in
set_option maxRecDepth 100000 in
theorem wx3_borrow {l : Launch} (hl : l.stackTraces = false) (g : GG) (σ : Sg) (p0 p1 p2 : Int) (hM : CX l yX3_borrow cX3_borrow 8 (some .int) 7 111 1 6 g [.ref (gd g (0)), vI (p0), vI (p1), vI (p2)] σ pF (pxE "java/lang/IllegalStateException" (σ))) : CW l yL_borrow cL_borrow 6 [(0, 12, 15, 19), (0, 12, 19, 21), (0, 12, 23, 13)] 8 138 1 6 g [.ref (gd g (0)), vI (p0), vI (p1), vI (p2), .ref (gd g (27))] σ (pt (some (vI 3)) σ) := by
  refine CW_of (own := RL) hl (by decide) rfl (Nat.le_of_ble_eq_true rfl) (fun mc hC hml hR hT => ?_)
  subst hml
  refine j_lv (lv2 := [(0, .ref (gd g (0))), (1, vI (p0)), (2, vI (p1)), (3, vI (p2)), (4, .ref (gd g (27)))]) rfl ?_
  refine j_aload hC dL_borrow_0 4 rfl ?_
  refine j_iconst hC dL_borrow_2 ?_
  refine j_aload_n hC dL_borrow_3 0 rfl ?_
  refine j_iload_n hC dL_borrow_4 1 rfl ?_
  refine j_iload_n hC dL_borrow_5 2 rfl ?_
  refine j_iload_n hC dL_borrow_6 3 rfl ?_
  refine j_callVC (ar := 3) (hh := [(0, 12, 15, 19), (0, 12, 19, 21), (0, 12, 23, 13)]) hC hR hT hM [vI (0), .ref (gd g (27))] rfl 0 rfl rfl rfl (by decide) (by decide +kernel) rfl wd401 wd402 wd403 wd1 wd404 (by decide) (Nat.le_of_ble_eq_true rfl) dL_borrow_7 [⟨0, 12, 15, 19⟩, ⟨0, 12, 19, 21⟩] ⟨0, 12, 23, 13⟩ [] rfl (fun z hz => by simp only [List.mem_cons, List.not_mem_nil, or_false] at hz; rcases hz with rfl | rfl <;> first | exact ⟨by decide, _, wd328, by decide⟩ | exact ⟨by decide, _, wd329, by decide⟩) (by decide) (by decide) wd304 wd311 (fun q => ?_)
  refine j_astore hC dL_borrow_23 [(5, .ref q), (0, .ref (gd g (0))), (1, vI (p0)), (2, vI (p1)), (3, vI (p2)), (4, .ref (gd g (27)))] (by decide) rfl ?_
  refine j_iconst hC dL_borrow_25 ?_
  exact j_iret hC dL_borrow_26 ⟨rfl, rfl⟩
set_option maxHeartbeats 4000000 in
set_option maxRecDepth 100000 in
theorem wk_closest {l : Launch} (hl : l.stackTraces = false) (g : GG) (σ τ : Sg) (p0 : Int) (r : Int) (hM : CN l yX3_closest cX3_closest 2 (some .int) 7 117 0 0 g [.ref (gd g (0)), vI (p0)] σ (pt (some (vI (r))) τ)) (hr : -2147483648 ≤ r ∧ r < 2147483648) : CW l yL_closest cL_closest 4 [(0, 9, 12, 19)] 8 138 0 0 g [.ref (gd g (0)), vI (p0), .ref (gd g (27))] σ (pt (some (vI 0)) (sF τ 9 r)) := by
  refine CW_of (own := RL) hl (by decide) rfl (Nat.le_of_ble_eq_true rfl) (fun mc hC hml hR hT => ?_)
  subst hml
  refine j_lv (lv2 := [(0, .ref (gd g (0))), (1, vI (p0)), (2, .ref (gd g (27)))]) rfl ?_
  refine j_aload_n hC dL_closest_0 2 rfl ?_
  refine j_iconst hC dL_closest_1 ?_
  refine j_aload_n hC dL_closest_2 0 rfl ?_
  refine j_iload_n hC dL_closest_3 1 rfl ?_
  refine j_callV1 (ar := 1) hC hR (hM) [vI (0), .ref (gd g (27))] rfl 0 rfl rfl rfl (by decide) (by decide +kernel) rfl wd495 wd496 wd497 wd1 wd498 (by decide) (Nat.le_of_ble_eq_true rfl) dL_closest_4 ?_
  refine j_i2l hC dL_closest_7 (by omega) ?_
  refine j_last0 hC dL_closest_8 ?_
  refine j_goto (tgt := 15) hC dL_closest_9 (by decide) ?_
  refine j_iconst hC dL_closest_15 ?_
  exact j_iret hC dL_closest_16 ⟨rfl, rfl⟩
set_option maxHeartbeats 4000000 in
set_option maxRecDepth 100000 in
theorem wx1_closest {l : Launch} (hl : l.stackTraces = false) (g : GG) (σ : Sg) (p0 : Int) (hM : CX l yX3_closest cX3_closest 2 (some .int) 7 117 1 6 g [.ref (gd g (0)), vI (p0)] σ pF (pxE "java/lang/IndexOutOfBoundsException" (σ))) : CW l yL_closest cL_closest 4 [(0, 9, 12, 19)] 8 138 1 6 g [.ref (gd g (0)), vI (p0), .ref (gd g (27))] σ (pt (some (vI 1)) σ) := by
  refine CW_of (own := RL) hl (by decide) rfl (Nat.le_of_ble_eq_true rfl) (fun mc hC hml hR hT => ?_)
  subst hml
  refine j_lv (lv2 := [(0, .ref (gd g (0))), (1, vI (p0)), (2, .ref (gd g (27)))]) rfl ?_
  refine j_aload_n hC dL_closest_0 2 rfl ?_
  refine j_iconst hC dL_closest_1 ?_
  refine j_aload_n hC dL_closest_2 0 rfl ?_
  refine j_iload_n hC dL_closest_3 1 rfl ?_
  refine j_callVC (ar := 1) (hh := [(0, 9, 12, 19)]) hC hR hT hM [vI (0), .ref (gd g (27))] rfl 0 rfl rfl rfl (by decide) (by decide +kernel) rfl wd495 wd496 wd497 wd1 wd498 (by decide) (Nat.le_of_ble_eq_true rfl) dL_closest_4 [] ⟨0, 9, 12, 19⟩ [] rfl (fun z hz => absurd hz List.not_mem_nil) (by decide) (by decide) wd328 wd191 (fun q => ?_)
  refine j_astore_n hC dL_closest_12 [(3, .ref q), (0, .ref (gd g (0))), (1, vI (p0)), (2, .ref (gd g (27)))] (by decide) rfl ?_
  refine j_iconst hC dL_closest_13 ?_
  exact j_iret hC dL_closest_14 ⟨rfl, rfl⟩
set_option maxHeartbeats 4000000 in
set_option maxRecDepth 100000 in
theorem wk_common {l : Launch} (hl : l.stackTraces = false) (g : GG) (σ τ : Sg) (p0 p1 : Int) (r : Int) (hM : CN l yX3_common cX3_common 4 (some .int) 7 121 0 0 g [.ref (gd g (0)), vI (p0), vI (p1)] σ (pt (some (vI (r))) τ)) (hr : -2147483648 ≤ r ∧ r < 2147483648) : CW l yL_common cL_common 5 [(0, 10, 13, 19)] 8 144 0 0 g [.ref (gd g (0)), vI (p0), vI (p1), .ref (gd g (27))] σ (pt (some (vI 0)) (sF τ 9 r)) := by
  refine CW_of (own := RL) hl (by decide) rfl (Nat.le_of_ble_eq_true rfl) (fun mc hC hml hR hT => ?_)
  subst hml
  refine j_lv (lv2 := [(0, .ref (gd g (0))), (1, vI (p0)), (2, vI (p1)), (3, .ref (gd g (27)))]) rfl ?_
  refine j_aload_n hC dL_common_0 3 rfl ?_
  refine j_iconst hC dL_common_1 ?_
  refine j_aload_n hC dL_common_2 0 rfl ?_
  refine j_iload_n hC dL_common_3 1 rfl ?_
  refine j_iload_n hC dL_common_4 2 rfl ?_
  refine j_callV1 (ar := 2) hC hR (hM) [vI (0), .ref (gd g (27))] rfl 0 rfl rfl rfl (by decide) (by decide +kernel) rfl wd538 wd539 wd540 wd1 wd541 (by decide) (Nat.le_of_ble_eq_true rfl) dL_common_5 ?_
  refine j_i2l hC dL_common_8 (by omega) ?_
  refine j_last0 hC dL_common_9 ?_
  refine j_goto (tgt := 17) hC dL_common_10 (by decide) ?_
  refine j_iconst hC dL_common_17 ?_
  exact j_iret hC dL_common_18 ⟨rfl, rfl⟩
set_option maxHeartbeats 4000000 in
set_option maxRecDepth 100000 in
theorem wx1_common {l : Launch} (hl : l.stackTraces = false) (g : GG) (σ : Sg) (p0 p1 : Int) (hM : CX l yX3_common cX3_common 4 (some .int) 7 121 1 6 g [.ref (gd g (0)), vI (p0), vI (p1)] σ pF (pxE "java/lang/IndexOutOfBoundsException" (σ))) : CW l yL_common cL_common 5 [(0, 10, 13, 19)] 8 144 1 6 g [.ref (gd g (0)), vI (p0), vI (p1), .ref (gd g (27))] σ (pt (some (vI 1)) σ) := by
  refine CW_of (own := RL) hl (by decide) rfl (Nat.le_of_ble_eq_true rfl) (fun mc hC hml hR hT => ?_)
  subst hml
  refine j_lv (lv2 := [(0, .ref (gd g (0))), (1, vI (p0)), (2, vI (p1)), (3, .ref (gd g (27)))]) rfl ?_
  refine j_aload_n hC dL_common_0 3 rfl ?_
  refine j_iconst hC dL_common_1 ?_
  refine j_aload_n hC dL_common_2 0 rfl ?_
  refine j_iload_n hC dL_common_3 1 rfl ?_
  refine j_iload_n hC dL_common_4 2 rfl ?_
  refine j_callVC (ar := 2) (hh := [(0, 10, 13, 19)]) hC hR hT hM [vI (0), .ref (gd g (27))] rfl 0 rfl rfl rfl (by decide) (by decide +kernel) rfl wd538 wd539 wd540 wd1 wd541 (by decide) (Nat.le_of_ble_eq_true rfl) dL_common_5 [] ⟨0, 10, 13, 19⟩ [] rfl (fun z hz => absurd hz List.not_mem_nil) (by decide) (by decide) wd328 wd191 (fun q => ?_)
  refine j_astore hC dL_common_13 [(4, .ref q), (0, .ref (gd g (0))), (1, vI (p0)), (2, vI (p1)), (3, .ref (gd g (27)))] (by decide) rfl ?_
  refine j_iconst hC dL_common_15 ?_
  exact j_iret hC dL_common_16 ⟨rfl, rfl⟩
set_option maxHeartbeats 4000000 in
set_option maxRecDepth 100000 in
theorem wk_forget {l : Launch} (hl : l.stackTraces = false) (g : GG) (σ τ : Sg) (p0 p1 : Int) (r : Int) (hM : CN l yX3_forget cX3_forget 4 (some .int) 7 111 0 0 g [.ref (gd g (0)), vI (p0), vI (p1)] σ (pt (some (vI (r))) τ)) (hr : -2147483648 ≤ r ∧ r < 2147483648) : CW l yL_forget cL_forget 5 [(0, 10, 13, 19)] 8 134 0 0 g [.ref (gd g (0)), vI (p0), vI (p1), .ref (gd g (27))] σ (pt (some (vI 0)) (sF τ 9 r)) := by
  refine CW_of (own := RL) hl (by decide) rfl (Nat.le_of_ble_eq_true rfl) (fun mc hC hml hR hT => ?_)
  subst hml
  refine j_lv (lv2 := [(0, .ref (gd g (0))), (1, vI (p0)), (2, vI (p1)), (3, .ref (gd g (27)))]) rfl ?_
  refine j_aload_n hC dL_forget_0 3 rfl ?_
  refine j_iconst hC dL_forget_1 ?_
  refine j_aload_n hC dL_forget_2 0 rfl ?_
  refine j_iload_n hC dL_forget_3 1 rfl ?_
  refine j_iload_n hC dL_forget_4 2 rfl ?_
  refine j_callV1 (ar := 2) hC hR (hM) [vI (0), .ref (gd g (27))] rfl 0 rfl rfl rfl (by decide) (by decide +kernel) rfl wd364 wd365 wd366 wd1 wd367 (by decide) (Nat.le_of_ble_eq_true rfl) dL_forget_5 ?_
  refine j_i2l hC dL_forget_8 (by omega) ?_
  refine j_last0 hC dL_forget_9 ?_
  refine j_goto (tgt := 17) hC dL_forget_10 (by decide) ?_
  refine j_iconst hC dL_forget_17 ?_
  exact j_iret hC dL_forget_18 ⟨rfl, rfl⟩
set_option maxHeartbeats 4000000 in
set_option maxRecDepth 100000 in
theorem wx1_forget {l : Launch} (hl : l.stackTraces = false) (g : GG) (σ : Sg) (p0 p1 : Int) (hM : CX l yX3_forget cX3_forget 4 (some .int) 7 111 1 6 g [.ref (gd g (0)), vI (p0), vI (p1)] σ pF (pxE "java/lang/IndexOutOfBoundsException" (σ))) : CW l yL_forget cL_forget 5 [(0, 10, 13, 19)] 8 134 1 6 g [.ref (gd g (0)), vI (p0), vI (p1), .ref (gd g (27))] σ (pt (some (vI 1)) σ) := by
  refine CW_of (own := RL) hl (by decide) rfl (Nat.le_of_ble_eq_true rfl) (fun mc hC hml hR hT => ?_)
  subst hml
  refine j_lv (lv2 := [(0, .ref (gd g (0))), (1, vI (p0)), (2, vI (p1)), (3, .ref (gd g (27)))]) rfl ?_
  refine j_aload_n hC dL_forget_0 3 rfl ?_
  refine j_iconst hC dL_forget_1 ?_
  refine j_aload_n hC dL_forget_2 0 rfl ?_
  refine j_iload_n hC dL_forget_3 1 rfl ?_
  refine j_iload_n hC dL_forget_4 2 rfl ?_
  refine j_callVC (ar := 2) (hh := [(0, 10, 13, 19)]) hC hR hT hM [vI (0), .ref (gd g (27))] rfl 0 rfl rfl rfl (by decide) (by decide +kernel) rfl wd364 wd365 wd366 wd1 wd367 (by decide) (Nat.le_of_ble_eq_true rfl) dL_forget_5 [] ⟨0, 10, 13, 19⟩ [] rfl (fun z hz => absurd hz List.not_mem_nil) (by decide) (by decide) wd328 wd191 (fun q => ?_)
  refine j_astore hC dL_forget_13 [(4, .ref q), (0, .ref (gd g (0))), (1, vI (p0)), (2, vI (p1)), (3, .ref (gd g (27)))] (by decide) rfl ?_
  refine j_iconst hC dL_forget_15 ?_
  exact j_iret hC dL_forget_16 ⟨rfl, rfl⟩
set_option maxHeartbeats 4000000 in
set_option maxRecDepth 100000 in
theorem wk_join {l : Launch} (hl : l.stackTraces = false) (g : GG) (σ τ : Sg) (p0 p1 : Int) (r : Int) (hM : CN l yX3_join cX3_join 3 (some .int) 7 110 0 0 g [.ref (gd g (0)), vI (p0), vI (p1)] σ (pt (some (vI (r))) τ)) (hr : -2147483648 ≤ r ∧ r < 2147483648) : CW l yL_join cL_join 5 [(0, 10, 13, 19)] 8 132 0 0 g [.ref (gd g (0)), vI (p0), vI (p1), .ref (gd g (27))] σ (pt (some (vI 0)) (sF τ 9 r)) := by
  refine CW_of (own := RL) hl (by decide) rfl (Nat.le_of_ble_eq_true rfl) (fun mc hC hml hR hT => ?_)
  subst hml
  refine j_lv (lv2 := [(0, .ref (gd g (0))), (1, vI (p0)), (2, vI (p1)), (3, .ref (gd g (27)))]) rfl ?_
  refine j_aload_n hC dL_join_0 3 rfl ?_
  refine j_iconst hC dL_join_1 ?_
  refine j_aload_n hC dL_join_2 0 rfl ?_
  refine j_iload_n hC dL_join_3 1 rfl ?_
  refine j_iload_n hC dL_join_4 2 rfl ?_
  refine j_callV1 (ar := 2) hC hR (hM) [vI (0), .ref (gd g (27))] rfl 0 rfl rfl rfl (by decide) (by decide +kernel) rfl wd387 wd388 wd389 wd1 wd390 (by decide) (Nat.le_of_ble_eq_true rfl) dL_join_5 ?_
  refine j_i2l hC dL_join_8 (by omega) ?_
  refine j_last0 hC dL_join_9 ?_
  refine j_goto (tgt := 17) hC dL_join_10 (by decide) ?_
  refine j_iconst hC dL_join_17 ?_
  exact j_iret hC dL_join_18 ⟨rfl, rfl⟩
set_option maxHeartbeats 4000000 in
set_option maxRecDepth 100000 in
theorem wx1_join {l : Launch} (hl : l.stackTraces = false) (g : GG) (σ : Sg) (p0 p1 : Int) (hM : CX l yX3_join cX3_join 3 (some .int) 7 110 1 6 g [.ref (gd g (0)), vI (p0), vI (p1)] σ pF (pxE "java/lang/IndexOutOfBoundsException" (σ))) : CW l yL_join cL_join 5 [(0, 10, 13, 19)] 8 132 1 6 g [.ref (gd g (0)), vI (p0), vI (p1), .ref (gd g (27))] σ (pt (some (vI 1)) σ) := by
  refine CW_of (own := RL) hl (by decide) rfl (Nat.le_of_ble_eq_true rfl) (fun mc hC hml hR hT => ?_)
  subst hml
  refine j_lv (lv2 := [(0, .ref (gd g (0))), (1, vI (p0)), (2, vI (p1)), (3, .ref (gd g (27)))]) rfl ?_
  refine j_aload_n hC dL_join_0 3 rfl ?_
  refine j_iconst hC dL_join_1 ?_
  refine j_aload_n hC dL_join_2 0 rfl ?_
  refine j_iload_n hC dL_join_3 1 rfl ?_
  refine j_iload_n hC dL_join_4 2 rfl ?_
  refine j_callVC (ar := 2) (hh := [(0, 10, 13, 19)]) hC hR hT hM [vI (0), .ref (gd g (27))] rfl 0 rfl rfl rfl (by decide) (by decide +kernel) rfl wd387 wd388 wd389 wd1 wd390 (by decide) (Nat.le_of_ble_eq_true rfl) dL_join_5 [] ⟨0, 10, 13, 19⟩ [] rfl (fun z hz => absurd hz List.not_mem_nil) (by decide) (by decide) wd328 wd191 (fun q => ?_)
  refine j_astore hC dL_join_13 [(4, .ref q), (0, .ref (gd g (0))), (1, vI (p0)), (2, vI (p1)), (3, .ref (gd g (27)))] (by decide) rfl ?_
  refine j_iconst hC dL_join_15 ?_
  exact j_iret hC dL_join_16 ⟨rfl, rfl⟩
set_option maxHeartbeats 4000000 in
set_option maxRecDepth 100000 in
theorem wk_meaningOf {l : Launch} (hl : l.stackTraces = false) (g : GG) (σ τ : Sg) (p0 p1 : Int) (r : Int) (hM : CN l yX3_meaningOf cX3_meaningOf 4 (some .int) 7 111 0 0 g [.ref (gd g (0)), vI (p0), vI (p1)] σ (pt (some (vI (r))) τ)) (hr : -2147483648 ≤ r ∧ r < 2147483648) : CW l yL_meaningOf cL_meaningOf 5 [(0, 10, 13, 19)] 8 134 0 0 g [.ref (gd g (0)), vI (p0), vI (p1), .ref (gd g (27))] σ (pt (some (vI 0)) (sF τ 9 r)) := by
  refine CW_of (own := RL) hl (by decide) rfl (Nat.le_of_ble_eq_true rfl) (fun mc hC hml hR hT => ?_)
  subst hml
  refine j_lv (lv2 := [(0, .ref (gd g (0))), (1, vI (p0)), (2, vI (p1)), (3, .ref (gd g (27)))]) rfl ?_
  refine j_aload_n hC dL_meaningOf_0 3 rfl ?_
  refine j_iconst hC dL_meaningOf_1 ?_
  refine j_aload_n hC dL_meaningOf_2 0 rfl ?_
  refine j_iload_n hC dL_meaningOf_3 1 rfl ?_
  refine j_iload_n hC dL_meaningOf_4 2 rfl ?_
  refine j_callV1 (ar := 2) hC hR (hM) [vI (0), .ref (gd g (27))] rfl 0 rfl rfl rfl (by decide) (by decide +kernel) rfl wd458 wd459 wd460 wd1 wd461 (by decide) (Nat.le_of_ble_eq_true rfl) dL_meaningOf_5 ?_
  refine j_i2l hC dL_meaningOf_8 (by omega) ?_
  refine j_last0 hC dL_meaningOf_9 ?_
  refine j_goto (tgt := 17) hC dL_meaningOf_10 (by decide) ?_
  refine j_iconst hC dL_meaningOf_17 ?_
  exact j_iret hC dL_meaningOf_18 ⟨rfl, rfl⟩
set_option maxHeartbeats 4000000 in
set_option maxRecDepth 100000 in
theorem wx1_meaningOf {l : Launch} (hl : l.stackTraces = false) (g : GG) (σ : Sg) (p0 p1 : Int) (hM : CX l yX3_meaningOf cX3_meaningOf 4 (some .int) 7 111 1 6 g [.ref (gd g (0)), vI (p0), vI (p1)] σ pF (pxE "java/lang/IndexOutOfBoundsException" (σ))) : CW l yL_meaningOf cL_meaningOf 5 [(0, 10, 13, 19)] 8 134 1 6 g [.ref (gd g (0)), vI (p0), vI (p1), .ref (gd g (27))] σ (pt (some (vI 1)) σ) := by
  refine CW_of (own := RL) hl (by decide) rfl (Nat.le_of_ble_eq_true rfl) (fun mc hC hml hR hT => ?_)
  subst hml
  refine j_lv (lv2 := [(0, .ref (gd g (0))), (1, vI (p0)), (2, vI (p1)), (3, .ref (gd g (27)))]) rfl ?_
  refine j_aload_n hC dL_meaningOf_0 3 rfl ?_
  refine j_iconst hC dL_meaningOf_1 ?_
  refine j_aload_n hC dL_meaningOf_2 0 rfl ?_
  refine j_iload_n hC dL_meaningOf_3 1 rfl ?_
  refine j_iload_n hC dL_meaningOf_4 2 rfl ?_
  refine j_callVC (ar := 2) (hh := [(0, 10, 13, 19)]) hC hR hT hM [vI (0), .ref (gd g (27))] rfl 0 rfl rfl rfl (by decide) (by decide +kernel) rfl wd458 wd459 wd460 wd1 wd461 (by decide) (Nat.le_of_ble_eq_true rfl) dL_meaningOf_5 [] ⟨0, 10, 13, 19⟩ [] rfl (fun z hz => absurd hz List.not_mem_nil) (by decide) (by decide) wd328 wd191 (fun q => ?_)
  refine j_astore hC dL_meaningOf_13 [(4, .ref q), (0, .ref (gd g (0))), (1, vI (p0)), (2, vI (p1)), (3, .ref (gd g (27)))] (by decide) rfl ?_
  refine j_iconst hC dL_meaningOf_15 ?_
  exact j_iret hC dL_meaningOf_16 ⟨rfl, rfl⟩
set_option maxHeartbeats 4000000 in
set_option maxRecDepth 100000 in
theorem wk_misread {l : Launch} (hl : l.stackTraces = false) (g : GG) (σ τ : Sg) (p0 p1 : Int) (r : Int) (hM : CN l yX3_misread cX3_misread 4 (some .int) 7 120 0 0 g [.ref (gd g (0)), vI (p0), vI (p1)] σ (pt (some (vI (r))) τ)) (hr : -2147483648 ≤ r ∧ r < 2147483648) : CW l yL_misread cL_misread 5 [(0, 10, 13, 19)] 8 143 0 0 g [.ref (gd g (0)), vI (p0), vI (p1), .ref (gd g (27))] σ (pt (some (vI 0)) (sF τ 9 r)) := by
  refine CW_of (own := RL) hl (by decide) rfl (Nat.le_of_ble_eq_true rfl) (fun mc hC hml hR hT => ?_)
  subst hml
  refine j_lv (lv2 := [(0, .ref (gd g (0))), (1, vI (p0)), (2, vI (p1)), (3, .ref (gd g (27)))]) rfl ?_
  refine j_aload_n hC dL_misread_0 3 rfl ?_
  refine j_iconst hC dL_misread_1 ?_
  refine j_aload_n hC dL_misread_2 0 rfl ?_
  refine j_iload_n hC dL_misread_3 1 rfl ?_
  refine j_iload_n hC dL_misread_4 2 rfl ?_
  refine j_callV1 (ar := 2) hC hR (hM) [vI (0), .ref (gd g (27))] rfl 0 rfl rfl rfl (by decide) (by decide +kernel) rfl wd531 wd532 wd533 wd1 wd534 (by decide) (Nat.le_of_ble_eq_true rfl) dL_misread_5 ?_
  refine j_i2l hC dL_misread_8 (by omega) ?_
  refine j_last0 hC dL_misread_9 ?_
  refine j_goto (tgt := 17) hC dL_misread_10 (by decide) ?_
  refine j_iconst hC dL_misread_17 ?_
  exact j_iret hC dL_misread_18 ⟨rfl, rfl⟩
set_option maxHeartbeats 4000000 in
set_option maxRecDepth 100000 in
theorem wx1_misread {l : Launch} (hl : l.stackTraces = false) (g : GG) (σ : Sg) (p0 p1 : Int) (hM : CX l yX3_misread cX3_misread 4 (some .int) 7 120 1 6 g [.ref (gd g (0)), vI (p0), vI (p1)] σ pF (pxE "java/lang/IndexOutOfBoundsException" (σ))) : CW l yL_misread cL_misread 5 [(0, 10, 13, 19)] 8 143 1 6 g [.ref (gd g (0)), vI (p0), vI (p1), .ref (gd g (27))] σ (pt (some (vI 1)) σ) := by
  refine CW_of (own := RL) hl (by decide) rfl (Nat.le_of_ble_eq_true rfl) (fun mc hC hml hR hT => ?_)
  subst hml
  refine j_lv (lv2 := [(0, .ref (gd g (0))), (1, vI (p0)), (2, vI (p1)), (3, .ref (gd g (27)))]) rfl ?_
  refine j_aload_n hC dL_misread_0 3 rfl ?_
  refine j_iconst hC dL_misread_1 ?_
  refine j_aload_n hC dL_misread_2 0 rfl ?_
  refine j_iload_n hC dL_misread_3 1 rfl ?_
  refine j_iload_n hC dL_misread_4 2 rfl ?_
  refine j_callVC (ar := 2) (hh := [(0, 10, 13, 19)]) hC hR hT hM [vI (0), .ref (gd g (27))] rfl 0 rfl rfl rfl (by decide) (by decide +kernel) rfl wd531 wd532 wd533 wd1 wd534 (by decide) (Nat.le_of_ble_eq_true rfl) dL_misread_5 [] ⟨0, 10, 13, 19⟩ [] rfl (fun z hz => absurd hz List.not_mem_nil) (by decide) (by decide) wd328 wd191 (fun q => ?_)
  refine j_astore hC dL_misread_13 [(4, .ref q), (0, .ref (gd g (0))), (1, vI (p0)), (2, vI (p1)), (3, .ref (gd g (27)))] (by decide) rfl ?_
  refine j_iconst hC dL_misread_15 ?_
  exact j_iret hC dL_misread_16 ⟨rfl, rfl⟩
set_option maxHeartbeats 4000000 in
set_option maxRecDepth 100000 in
theorem wk_mostMistaken {l : Launch} (hl : l.stackTraces = false) (g : GG) (σ τ : Sg) (p0 : Int) (r : Int) (hM : CN l yX3_mostMistaken cX3_mostMistaken 2 (some .int) 7 118 0 0 g [.ref (gd g (0)), vI (p0)] σ (pt (some (vI (r))) τ)) (hr : -2147483648 ≤ r ∧ r < 2147483648) : CW l yL_mostMistaken cL_mostMistaken 4 [(0, 9, 12, 19)] 8 139 0 0 g [.ref (gd g (0)), vI (p0), .ref (gd g (27))] σ (pt (some (vI 0)) (sF τ 9 r)) := by
  refine CW_of (own := RL) hl (by decide) rfl (Nat.le_of_ble_eq_true rfl) (fun mc hC hml hR hT => ?_)
  subst hml
  refine j_lv (lv2 := [(0, .ref (gd g (0))), (1, vI (p0)), (2, .ref (gd g (27)))]) rfl ?_
  refine j_aload_n hC dL_mostMistaken_0 2 rfl ?_
  refine j_iconst hC dL_mostMistaken_1 ?_
  refine j_aload_n hC dL_mostMistaken_2 0 rfl ?_
  refine j_iload_n hC dL_mostMistaken_3 1 rfl ?_
  refine j_callV1 (ar := 1) hC hR (hM) [vI (0), .ref (gd g (27))] rfl 0 rfl rfl rfl (by decide) (by decide +kernel) rfl wd502 wd503 wd504 wd1 wd505 (by decide) (Nat.le_of_ble_eq_true rfl) dL_mostMistaken_4 ?_
  refine j_i2l hC dL_mostMistaken_7 (by omega) ?_
  refine j_last0 hC dL_mostMistaken_8 ?_
  refine j_goto (tgt := 15) hC dL_mostMistaken_9 (by decide) ?_
  refine j_iconst hC dL_mostMistaken_15 ?_
  exact j_iret hC dL_mostMistaken_16 ⟨rfl, rfl⟩
set_option maxHeartbeats 4000000 in
set_option maxRecDepth 100000 in
theorem wx1_mostMistaken {l : Launch} (hl : l.stackTraces = false) (g : GG) (σ : Sg) (p0 : Int) (hM : CX l yX3_mostMistaken cX3_mostMistaken 2 (some .int) 7 118 1 6 g [.ref (gd g (0)), vI (p0)] σ pF (pxE "java/lang/IndexOutOfBoundsException" (σ))) : CW l yL_mostMistaken cL_mostMistaken 4 [(0, 9, 12, 19)] 8 139 1 6 g [.ref (gd g (0)), vI (p0), .ref (gd g (27))] σ (pt (some (vI 1)) σ) := by
  refine CW_of (own := RL) hl (by decide) rfl (Nat.le_of_ble_eq_true rfl) (fun mc hC hml hR hT => ?_)
  subst hml
  refine j_lv (lv2 := [(0, .ref (gd g (0))), (1, vI (p0)), (2, .ref (gd g (27)))]) rfl ?_
  refine j_aload_n hC dL_mostMistaken_0 2 rfl ?_
  refine j_iconst hC dL_mostMistaken_1 ?_
  refine j_aload_n hC dL_mostMistaken_2 0 rfl ?_
  refine j_iload_n hC dL_mostMistaken_3 1 rfl ?_
  refine j_callVC (ar := 1) (hh := [(0, 9, 12, 19)]) hC hR hT hM [vI (0), .ref (gd g (27))] rfl 0 rfl rfl rfl (by decide) (by decide +kernel) rfl wd502 wd503 wd504 wd1 wd505 (by decide) (Nat.le_of_ble_eq_true rfl) dL_mostMistaken_4 [] ⟨0, 9, 12, 19⟩ [] rfl (fun z hz => absurd hz List.not_mem_nil) (by decide) (by decide) wd328 wd191 (fun q => ?_)
  refine j_astore_n hC dL_mostMistaken_12 [(3, .ref q), (0, .ref (gd g (0))), (1, vI (p0)), (2, .ref (gd g (27)))] (by decide) rfl ?_
  refine j_iconst hC dL_mostMistaken_13 ?_
  exact j_iret hC dL_mostMistaken_14 ⟨rfl, rfl⟩
set_option maxHeartbeats 4000000 in
set_option maxRecDepth 100000 in
theorem wk_placeOf {l : Launch} (hl : l.stackTraces = false) (g : GG) (σ τ : Sg) (p0 p1 : Int) (r : Int) (hM : CN l yX3_placeOf cX3_placeOf 3 (some .int) 8 134 0 0 g [.ref (gd g (0)), vI (p0), vI (p1)] σ (pt (some (vI (r))) τ)) (hr : -2147483648 ≤ r ∧ r < 2147483648) : CW l yL_placeOf cL_placeOf 5 [(0, 10, 13, 19)] 9 156 0 0 g [.ref (gd g (0)), vI (p0), vI (p1), .ref (gd g (27))] σ (pt (some (vI 0)) (sF τ 9 r)) := by
  refine CW_of (own := RL) hl (by decide) rfl (Nat.le_of_ble_eq_true rfl) (fun mc hC hml hR hT => ?_)
  subst hml
  refine j_lv (lv2 := [(0, .ref (gd g (0))), (1, vI (p0)), (2, vI (p1)), (3, .ref (gd g (27)))]) rfl ?_
  refine j_aload_n hC dL_placeOf_0 3 rfl ?_
  refine j_iconst hC dL_placeOf_1 ?_
  refine j_aload_n hC dL_placeOf_2 0 rfl ?_
  refine j_iload_n hC dL_placeOf_3 1 rfl ?_
  refine j_iload_n hC dL_placeOf_4 2 rfl ?_
  refine j_callV1 (ar := 2) hC hR (hM) [vI (0), .ref (gd g (27))] rfl 0 rfl rfl rfl (by decide) (by decide +kernel) rfl wd451 wd452 wd453 wd1 wd454 (by decide) (Nat.le_of_ble_eq_true rfl) dL_placeOf_5 ?_
  refine j_i2l hC dL_placeOf_8 (by omega) ?_
  refine j_last0 hC dL_placeOf_9 ?_
  refine j_goto (tgt := 17) hC dL_placeOf_10 (by decide) ?_
  refine j_iconst hC dL_placeOf_17 ?_
  exact j_iret hC dL_placeOf_18 ⟨rfl, rfl⟩
set_option maxHeartbeats 4000000 in
set_option maxRecDepth 100000 in
theorem wx1_placeOf {l : Launch} (hl : l.stackTraces = false) (g : GG) (σ : Sg) (p0 p1 : Int) (hM : CX l yX3_placeOf cX3_placeOf 3 (some .int) 8 134 1 6 g [.ref (gd g (0)), vI (p0), vI (p1)] σ pF (pxE "java/lang/IndexOutOfBoundsException" (σ))) : CW l yL_placeOf cL_placeOf 5 [(0, 10, 13, 19)] 9 156 1 6 g [.ref (gd g (0)), vI (p0), vI (p1), .ref (gd g (27))] σ (pt (some (vI 1)) σ) := by
  refine CW_of (own := RL) hl (by decide) rfl (Nat.le_of_ble_eq_true rfl) (fun mc hC hml hR hT => ?_)
  subst hml
  refine j_lv (lv2 := [(0, .ref (gd g (0))), (1, vI (p0)), (2, vI (p1)), (3, .ref (gd g (27)))]) rfl ?_
  refine j_aload_n hC dL_placeOf_0 3 rfl ?_
  refine j_iconst hC dL_placeOf_1 ?_
  refine j_aload_n hC dL_placeOf_2 0 rfl ?_
  refine j_iload_n hC dL_placeOf_3 1 rfl ?_
  refine j_iload_n hC dL_placeOf_4 2 rfl ?_
  refine j_callVC (ar := 2) (hh := [(0, 10, 13, 19)]) hC hR hT hM [vI (0), .ref (gd g (27))] rfl 0 rfl rfl rfl (by decide) (by decide +kernel) rfl wd451 wd452 wd453 wd1 wd454 (by decide) (Nat.le_of_ble_eq_true rfl) dL_placeOf_5 [] ⟨0, 10, 13, 19⟩ [] rfl (fun z hz => absurd hz List.not_mem_nil) (by decide) (by decide) wd328 wd191 (fun q => ?_)
  refine j_astore hC dL_placeOf_13 [(4, .ref q), (0, .ref (gd g (0))), (1, vI (p0)), (2, vI (p1)), (3, .ref (gd g (27)))] (by decide) rfl ?_
  refine j_iconst hC dL_placeOf_15 ?_
  exact j_iret hC dL_placeOf_16 ⟨rfl, rfl⟩
set_option maxHeartbeats 4000000 in
set_option maxRecDepth 100000 in
theorem wk_read {l : Launch} (hl : l.stackTraces = false) (g : GG) (σ τ : Sg) (p0 p1 p2 : Int) (r : Int) (hM : CN l yX3_read cX3_read 5 (some .int) 8 134 0 0 g [.ref (gd g (0)), vI (p0), vI (p1), vI (p2)] σ (pt (some (vI (r))) τ)) (hr : -2147483648 ≤ r ∧ r < 2147483648) : CW l yL_read cL_read 6 [(0, 12, 15, 19)] 9 158 0 0 g [.ref (gd g (0)), vI (p0), vI (p1), vI (p2), .ref (gd g (27))] σ (pt (some (vI 0)) (sF τ 9 r)) := by
  refine CW_of (own := RL) hl (by decide) rfl (Nat.le_of_ble_eq_true rfl) (fun mc hC hml hR hT => ?_)
  subst hml
  refine j_lv (lv2 := [(0, .ref (gd g (0))), (1, vI (p0)), (2, vI (p1)), (3, vI (p2)), (4, .ref (gd g (27)))]) rfl ?_
  refine j_aload hC dL_read_0 4 rfl ?_
  refine j_iconst hC dL_read_2 ?_
  refine j_aload_n hC dL_read_3 0 rfl ?_
  refine j_iload_n hC dL_read_4 1 rfl ?_
  refine j_iload_n hC dL_read_5 2 rfl ?_
  refine j_iload_n hC dL_read_6 3 rfl ?_
  refine j_callV1 (ar := 3) hC hR (hM) [vI (0), .ref (gd g (27))] rfl 0 rfl rfl rfl (by decide) (by decide +kernel) rfl wd509 wd510 wd511 wd1 wd512 (by decide) (Nat.le_of_ble_eq_true rfl) dL_read_7 ?_
  refine j_i2l hC dL_read_10 (by omega) ?_
  refine j_last0 hC dL_read_11 ?_
  refine j_goto (tgt := 19) hC dL_read_12 (by decide) ?_
  refine j_iconst hC dL_read_19 ?_
  exact j_iret hC dL_read_20 ⟨rfl, rfl⟩
set_option maxHeartbeats 4000000 in
set_option maxRecDepth 100000 in
theorem wx1_read {l : Launch} (hl : l.stackTraces = false) (g : GG) (σ : Sg) (p0 p1 p2 : Int) (hM : CX l yX3_read cX3_read 5 (some .int) 8 134 1 6 g [.ref (gd g (0)), vI (p0), vI (p1), vI (p2)] σ pF (pxE "java/lang/IndexOutOfBoundsException" (σ))) : CW l yL_read cL_read 6 [(0, 12, 15, 19)] 9 158 1 6 g [.ref (gd g (0)), vI (p0), vI (p1), vI (p2), .ref (gd g (27))] σ (pt (some (vI 1)) σ) := by
  refine CW_of (own := RL) hl (by decide) rfl (Nat.le_of_ble_eq_true rfl) (fun mc hC hml hR hT => ?_)
  subst hml
  refine j_lv (lv2 := [(0, .ref (gd g (0))), (1, vI (p0)), (2, vI (p1)), (3, vI (p2)), (4, .ref (gd g (27)))]) rfl ?_
  refine j_aload hC dL_read_0 4 rfl ?_
  refine j_iconst hC dL_read_2 ?_
  refine j_aload_n hC dL_read_3 0 rfl ?_
  refine j_iload_n hC dL_read_4 1 rfl ?_
  refine j_iload_n hC dL_read_5 2 rfl ?_
  refine j_iload_n hC dL_read_6 3 rfl ?_
  refine j_callVC (ar := 3) (hh := [(0, 12, 15, 19)]) hC hR hT hM [vI (0), .ref (gd g (27))] rfl 0 rfl rfl rfl (by decide) (by decide +kernel) rfl wd509 wd510 wd511 wd1 wd512 (by decide) (Nat.le_of_ble_eq_true rfl) dL_read_7 [] ⟨0, 12, 15, 19⟩ [] rfl (fun z hz => absurd hz List.not_mem_nil) (by decide) (by decide) wd328 wd191 (fun q => ?_)
  refine j_astore hC dL_read_15 [(5, .ref q), (0, .ref (gd g (0))), (1, vI (p0)), (2, vI (p1)), (3, vI (p2)), (4, .ref (gd g (27)))] (by decide) rfl ?_
  refine j_iconst hC dL_read_17 ?_
  exact j_iret hC dL_read_18 ⟨rfl, rfl⟩
set_option maxHeartbeats 4000000 in
set_option maxRecDepth 100000 in
theorem wk_readShown {l : Launch} (hl : l.stackTraces = false) (g : GG) (σ τ : Sg) (p0 p1 p2 p3 p4 : Int) (r : Int) (hM : CN l yX3_readShown cX3_readShown 7 (some .int) 7 113 0 0 g [.ref (gd g (0)), vI (p0), vI (p1), vI (p2), vI (p3), vI (p4)] σ (pt (some (vI (r))) τ)) (hr : -2147483648 ≤ r ∧ r < 2147483648) : CW l yL_readShown cL_readShown 8 [(0, 16, 19, 19), (0, 16, 23, 21)] 8 139 0 0 g [.ref (gd g (0)), vI (p0), vI (p1), vI (p2), vI (p3), vI (p4), .ref (gd g (27))] σ (pt (some (vI 0)) (sF τ 9 r)) := by
  refine CW_of (own := RL) hl (by decide) rfl (Nat.le_of_ble_eq_true rfl) (fun mc hC hml hR hT => ?_)
  subst hml
  refine j_lv (lv2 := [(0, .ref (gd g (0))), (1, vI (p0)), (2, vI (p1)), (3, vI (p2)), (4, vI (p3)), (5, vI (p4)), (6, .ref (gd g (27)))]) rfl ?_
  refine j_aload hC dL_readShown_0 6 rfl ?_
  refine j_iconst hC dL_readShown_2 ?_
  refine j_aload_n hC dL_readShown_3 0 rfl ?_
  refine j_iload_n hC dL_readShown_4 1 rfl ?_
  refine j_iload_n hC dL_readShown_5 2 rfl ?_
  refine j_iload_n hC dL_readShown_6 3 rfl ?_
  refine j_iload hC dL_readShown_7 4 rfl ?_
  refine j_iload hC dL_readShown_9 5 rfl ?_
  refine j_callV1 (ar := 5) hC hR (hM) [vI (0), .ref (gd g (27))] rfl 0 rfl rfl rfl (by decide) (by decide +kernel) rfl wd517 wd518 wd519 wd1 wd520 (by decide) (Nat.le_of_ble_eq_true rfl) dL_readShown_11 ?_
  refine j_i2l hC dL_readShown_14 (by omega) ?_
  refine j_last0 hC dL_readShown_15 ?_
  refine j_goto (tgt := 27) hC dL_readShown_16 (by decide) ?_
  refine j_iconst hC dL_readShown_27 ?_
  exact j_iret hC dL_readShown_28 ⟨rfl, rfl⟩
set_option maxHeartbeats 4000000 in
set_option maxRecDepth 100000 in
theorem wx1_readShown {l : Launch} (hl : l.stackTraces = false) (g : GG) (σ : Sg) (p0 p1 p2 p3 p4 : Int) (hM : CX l yX3_readShown cX3_readShown 7 (some .int) 7 113 1 6 g [.ref (gd g (0)), vI (p0), vI (p1), vI (p2), vI (p3), vI (p4)] σ pF (pxE "java/lang/IndexOutOfBoundsException" (σ))) : CW l yL_readShown cL_readShown 8 [(0, 16, 19, 19), (0, 16, 23, 21)] 8 139 1 6 g [.ref (gd g (0)), vI (p0), vI (p1), vI (p2), vI (p3), vI (p4), .ref (gd g (27))] σ (pt (some (vI 1)) σ) := by
  refine CW_of (own := RL) hl (by decide) rfl (Nat.le_of_ble_eq_true rfl) (fun mc hC hml hR hT => ?_)
  subst hml
  refine j_lv (lv2 := [(0, .ref (gd g (0))), (1, vI (p0)), (2, vI (p1)), (3, vI (p2)), (4, vI (p3)), (5, vI (p4)), (6, .ref (gd g (27)))]) rfl ?_
  refine j_aload hC dL_readShown_0 6 rfl ?_
  refine j_iconst hC dL_readShown_2 ?_
  refine j_aload_n hC dL_readShown_3 0 rfl ?_
  refine j_iload_n hC dL_readShown_4 1 rfl ?_
  refine j_iload_n hC dL_readShown_5 2 rfl ?_
  refine j_iload_n hC dL_readShown_6 3 rfl ?_
  refine j_iload hC dL_readShown_7 4 rfl ?_
  refine j_iload hC dL_readShown_9 5 rfl ?_
  refine j_callVC (ar := 5) (hh := [(0, 16, 19, 19), (0, 16, 23, 21)]) hC hR hT hM [vI (0), .ref (gd g (27))] rfl 0 rfl rfl rfl (by decide) (by decide +kernel) rfl wd517 wd518 wd519 wd1 wd520 (by decide) (Nat.le_of_ble_eq_true rfl) dL_readShown_11 [] ⟨0, 16, 19, 19⟩ [⟨0, 16, 23, 21⟩] rfl (fun z hz => absurd hz List.not_mem_nil) (by decide) (by decide) wd328 wd191 (fun q => ?_)
  refine j_astore hC dL_readShown_19 [(7, .ref q), (0, .ref (gd g (0))), (1, vI (p0)), (2, vI (p1)), (3, vI (p2)), (4, vI (p3)), (5, vI (p4)), (6, .ref (gd g (27)))] (by decide) rfl ?_
  refine j_iconst hC dL_readShown_21 ?_
  exact j_iret hC dL_readShown_22 ⟨rfl, rfl⟩
set_option maxHeartbeats 4000000 in
set_option maxRecDepth 100000 in
theorem wx2_readShown {l : Launch} (hl : l.stackTraces = false) (g : GG) (σ : Sg) (p0 p1 p2 p3 p4 : Int) (hM : CX l yX3_readShown cX3_readShown 7 (some .int) 7 113 1 6 g [.ref (gd g (0)), vI (p0), vI (p1), vI (p2), vI (p3), vI (p4)] σ pF (pxE "java/lang/IllegalArgumentException" (σ))) : CW l yL_readShown cL_readShown 8 [(0, 16, 19, 19), (0, 16, 23, 21)] 8 139 1 6 g [.ref (gd g (0)), vI (p0), vI (p1), vI (p2), vI (p3), vI (p4), .ref (gd g (27))] σ (pt (some (vI 2)) σ) := by
  refine CW_of (own := RL) hl (by decide) rfl (Nat.le_of_ble_eq_true rfl) (fun mc hC hml hR hT => ?_)
  subst hml
  refine j_lv (lv2 := [(0, .ref (gd g (0))), (1, vI (p0)), (2, vI (p1)), (3, vI (p2)), (4, vI (p3)), (5, vI (p4)), (6, .ref (gd g (27)))]) rfl ?_
  refine j_aload hC dL_readShown_0 6 rfl ?_
  refine j_iconst hC dL_readShown_2 ?_
  refine j_aload_n hC dL_readShown_3 0 rfl ?_
  refine j_iload_n hC dL_readShown_4 1 rfl ?_
  refine j_iload_n hC dL_readShown_5 2 rfl ?_
  refine j_iload_n hC dL_readShown_6 3 rfl ?_
  refine j_iload hC dL_readShown_7 4 rfl ?_
  refine j_iload hC dL_readShown_9 5 rfl ?_
  refine j_callVC (ar := 5) (hh := [(0, 16, 19, 19), (0, 16, 23, 21)]) hC hR hT hM [vI (0), .ref (gd g (27))] rfl 0 rfl rfl rfl (by decide) (by decide +kernel) rfl wd517 wd518 wd519 wd1 wd520 (by decide) (Nat.le_of_ble_eq_true rfl) dL_readShown_11 [⟨0, 16, 19, 19⟩] ⟨0, 16, 23, 21⟩ [] rfl (fun z hz => by simp only [List.mem_cons, List.not_mem_nil, or_false] at hz; rcases hz with rfl <;> first | exact ⟨by decide, _, wd328, by decide⟩ | exact ⟨by decide, _, wd329, by decide⟩) (by decide) (by decide) wd329 wd339 (fun q => ?_)
  refine j_astore hC dL_readShown_23 [(7, .ref q), (0, .ref (gd g (0))), (1, vI (p0)), (2, vI (p1)), (3, vI (p2)), (4, vI (p3)), (5, vI (p4)), (6, .ref (gd g (27)))] (by decide) rfl ?_
  refine j_iconst hC dL_readShown_25 ?_
  exact j_iret hC dL_readShown_26 ⟨rfl, rfl⟩
set_option maxHeartbeats 4000000 in
set_option maxRecDepth 100000 in
theorem wk_setThumb {l : Launch} (hl : l.stackTraces = false) (g : GG) (σ τ : Sg) (p0 p1 p2 : Int) (r : Int) (hM : CN l yX3_setThumb cX3_setThumb 6 (some .int) 7 111 0 0 g [.ref (gd g (0)), vI (p0), vI (p1), vI (p2)] σ (pt (some (vI (r))) τ)) (hr : -2147483648 ≤ r ∧ r < 2147483648) : CW l yL_setThumb cL_setThumb 6 [(0, 12, 15, 19), (0, 12, 19, 21)] 8 136 0 0 g [.ref (gd g (0)), vI (p0), vI (p1), vI (p2), .ref (gd g (27))] σ (pt (some (vI 0)) (sF τ 9 r)) := by
  refine CW_of (own := RL) hl (by decide) rfl (Nat.le_of_ble_eq_true rfl) (fun mc hC hml hR hT => ?_)
  subst hml
  refine j_lv (lv2 := [(0, .ref (gd g (0))), (1, vI (p0)), (2, vI (p1)), (3, vI (p2)), (4, .ref (gd g (27)))]) rfl ?_
  refine j_aload hC dL_setThumb_0 4 rfl ?_
  refine j_iconst hC dL_setThumb_2 ?_
  refine j_aload_n hC dL_setThumb_3 0 rfl ?_
  refine j_iload_n hC dL_setThumb_4 1 rfl ?_
  refine j_iload_n hC dL_setThumb_5 2 rfl ?_
  refine j_iload_n hC dL_setThumb_6 3 rfl ?_
  refine j_callV1 (ar := 3) hC hR (hM) [vI (0), .ref (gd g (27))] rfl 0 rfl rfl rfl (by decide) (by decide +kernel) rfl wd379 wd380 wd381 wd1 wd382 (by decide) (Nat.le_of_ble_eq_true rfl) dL_setThumb_7 ?_
  refine j_i2l hC dL_setThumb_10 (by omega) ?_
  refine j_last0 hC dL_setThumb_11 ?_
  refine j_goto (tgt := 23) hC dL_setThumb_12 (by decide) ?_
  refine j_iconst hC dL_setThumb_23 ?_
  exact j_iret hC dL_setThumb_24 ⟨rfl, rfl⟩
set_option maxHeartbeats 4000000 in
set_option maxRecDepth 100000 in
theorem wx1_setThumb {l : Launch} (hl : l.stackTraces = false) (g : GG) (σ : Sg) (p0 p1 p2 : Int) (hM : CX l yX3_setThumb cX3_setThumb 6 (some .int) 7 111 1 6 g [.ref (gd g (0)), vI (p0), vI (p1), vI (p2)] σ pF (pxE "java/lang/IndexOutOfBoundsException" (σ))) : CW l yL_setThumb cL_setThumb 6 [(0, 12, 15, 19), (0, 12, 19, 21)] 8 136 1 6 g [.ref (gd g (0)), vI (p0), vI (p1), vI (p2), .ref (gd g (27))] σ (pt (some (vI 1)) σ) := by
  refine CW_of (own := RL) hl (by decide) rfl (Nat.le_of_ble_eq_true rfl) (fun mc hC hml hR hT => ?_)
  subst hml
  refine j_lv (lv2 := [(0, .ref (gd g (0))), (1, vI (p0)), (2, vI (p1)), (3, vI (p2)), (4, .ref (gd g (27)))]) rfl ?_
  refine j_aload hC dL_setThumb_0 4 rfl ?_
  refine j_iconst hC dL_setThumb_2 ?_
  refine j_aload_n hC dL_setThumb_3 0 rfl ?_
  refine j_iload_n hC dL_setThumb_4 1 rfl ?_
  refine j_iload_n hC dL_setThumb_5 2 rfl ?_
  refine j_iload_n hC dL_setThumb_6 3 rfl ?_
  refine j_callVC (ar := 3) (hh := [(0, 12, 15, 19), (0, 12, 19, 21)]) hC hR hT hM [vI (0), .ref (gd g (27))] rfl 0 rfl rfl rfl (by decide) (by decide +kernel) rfl wd379 wd380 wd381 wd1 wd382 (by decide) (Nat.le_of_ble_eq_true rfl) dL_setThumb_7 [] ⟨0, 12, 15, 19⟩ [⟨0, 12, 19, 21⟩] rfl (fun z hz => absurd hz List.not_mem_nil) (by decide) (by decide) wd328 wd191 (fun q => ?_)
  refine j_astore hC dL_setThumb_15 [(5, .ref q), (0, .ref (gd g (0))), (1, vI (p0)), (2, vI (p1)), (3, vI (p2)), (4, .ref (gd g (27)))] (by decide) rfl ?_
  refine j_iconst hC dL_setThumb_17 ?_
  exact j_iret hC dL_setThumb_18 ⟨rfl, rfl⟩
set_option maxHeartbeats 4000000 in
set_option maxRecDepth 100000 in
theorem wx2_setThumb {l : Launch} (hl : l.stackTraces = false) (g : GG) (σ : Sg) (p0 p1 p2 : Int) (hM : CX l yX3_setThumb cX3_setThumb 6 (some .int) 7 111 1 6 g [.ref (gd g (0)), vI (p0), vI (p1), vI (p2)] σ pF (pxE "java/lang/IllegalArgumentException" (σ))) : CW l yL_setThumb cL_setThumb 6 [(0, 12, 15, 19), (0, 12, 19, 21)] 8 136 1 6 g [.ref (gd g (0)), vI (p0), vI (p1), vI (p2), .ref (gd g (27))] σ (pt (some (vI 2)) σ) := by
  refine CW_of (own := RL) hl (by decide) rfl (Nat.le_of_ble_eq_true rfl) (fun mc hC hml hR hT => ?_)
  subst hml
  refine j_lv (lv2 := [(0, .ref (gd g (0))), (1, vI (p0)), (2, vI (p1)), (3, vI (p2)), (4, .ref (gd g (27)))]) rfl ?_
  refine j_aload hC dL_setThumb_0 4 rfl ?_
  refine j_iconst hC dL_setThumb_2 ?_
  refine j_aload_n hC dL_setThumb_3 0 rfl ?_
  refine j_iload_n hC dL_setThumb_4 1 rfl ?_
  refine j_iload_n hC dL_setThumb_5 2 rfl ?_
  refine j_iload_n hC dL_setThumb_6 3 rfl ?_
  refine j_callVC (ar := 3) (hh := [(0, 12, 15, 19), (0, 12, 19, 21)]) hC hR hT hM [vI (0), .ref (gd g (27))] rfl 0 rfl rfl rfl (by decide) (by decide +kernel) rfl wd379 wd380 wd381 wd1 wd382 (by decide) (Nat.le_of_ble_eq_true rfl) dL_setThumb_7 [⟨0, 12, 15, 19⟩] ⟨0, 12, 19, 21⟩ [] rfl (fun z hz => by simp only [List.mem_cons, List.not_mem_nil, or_false] at hz; rcases hz with rfl <;> first | exact ⟨by decide, _, wd328, by decide⟩ | exact ⟨by decide, _, wd329, by decide⟩) (by decide) (by decide) wd329 wd339 (fun q => ?_)
  refine j_astore hC dL_setThumb_19 [(5, .ref q), (0, .ref (gd g (0))), (1, vI (p0)), (2, vI (p1)), (3, vI (p2)), (4, .ref (gd g (27)))] (by decide) rfl ?_
  refine j_iconst hC dL_setThumb_21 ?_
  exact j_iret hC dL_setThumb_22 ⟨rfl, rfl⟩
set_option maxHeartbeats 4000000 in
set_option maxRecDepth 100000 in
theorem wk_shapeOf {l : Launch} (hl : l.stackTraces = false) (g : GG) (σ τ : Sg) (p0 p1 : Int) (r : Int) (hM : CN l yX3_shapeOf cX3_shapeOf 3 (some .int) 8 134 0 0 g [.ref (gd g (0)), vI (p0), vI (p1)] σ (pt (some (vI (r))) τ)) (hr : -2147483648 ≤ r ∧ r < 2147483648) : CW l yL_shapeOf cL_shapeOf 5 [(0, 10, 13, 19)] 9 156 0 0 g [.ref (gd g (0)), vI (p0), vI (p1), .ref (gd g (27))] σ (pt (some (vI 0)) (sF τ 9 r)) := by
  refine CW_of (own := RL) hl (by decide) rfl (Nat.le_of_ble_eq_true rfl) (fun mc hC hml hR hT => ?_)
  subst hml
  refine j_lv (lv2 := [(0, .ref (gd g (0))), (1, vI (p0)), (2, vI (p1)), (3, .ref (gd g (27)))]) rfl ?_
  refine j_aload_n hC dL_shapeOf_0 3 rfl ?_
  refine j_iconst hC dL_shapeOf_1 ?_
  refine j_aload_n hC dL_shapeOf_2 0 rfl ?_
  refine j_iload_n hC dL_shapeOf_3 1 rfl ?_
  refine j_iload_n hC dL_shapeOf_4 2 rfl ?_
  refine j_callV1 (ar := 2) hC hR (hM) [vI (0), .ref (gd g (27))] rfl 0 rfl rfl rfl (by decide) (by decide +kernel) rfl wd433 wd434 wd435 wd1 wd436 (by decide) (Nat.le_of_ble_eq_true rfl) dL_shapeOf_5 ?_
  refine j_i2l hC dL_shapeOf_8 (by omega) ?_
  refine j_last0 hC dL_shapeOf_9 ?_
  refine j_goto (tgt := 17) hC dL_shapeOf_10 (by decide) ?_
  refine j_iconst hC dL_shapeOf_17 ?_
  exact j_iret hC dL_shapeOf_18 ⟨rfl, rfl⟩
set_option maxHeartbeats 4000000 in
set_option maxRecDepth 100000 in
theorem wx1_shapeOf {l : Launch} (hl : l.stackTraces = false) (g : GG) (σ : Sg) (p0 p1 : Int) (hM : CX l yX3_shapeOf cX3_shapeOf 3 (some .int) 8 134 1 6 g [.ref (gd g (0)), vI (p0), vI (p1)] σ pF (pxE "java/lang/IndexOutOfBoundsException" (σ))) : CW l yL_shapeOf cL_shapeOf 5 [(0, 10, 13, 19)] 9 156 1 6 g [.ref (gd g (0)), vI (p0), vI (p1), .ref (gd g (27))] σ (pt (some (vI 1)) σ) := by
  refine CW_of (own := RL) hl (by decide) rfl (Nat.le_of_ble_eq_true rfl) (fun mc hC hml hR hT => ?_)
  subst hml
  refine j_lv (lv2 := [(0, .ref (gd g (0))), (1, vI (p0)), (2, vI (p1)), (3, .ref (gd g (27)))]) rfl ?_
  refine j_aload_n hC dL_shapeOf_0 3 rfl ?_
  refine j_iconst hC dL_shapeOf_1 ?_
  refine j_aload_n hC dL_shapeOf_2 0 rfl ?_
  refine j_iload_n hC dL_shapeOf_3 1 rfl ?_
  refine j_iload_n hC dL_shapeOf_4 2 rfl ?_
  refine j_callVC (ar := 2) (hh := [(0, 10, 13, 19)]) hC hR hT hM [vI (0), .ref (gd g (27))] rfl 0 rfl rfl rfl (by decide) (by decide +kernel) rfl wd433 wd434 wd435 wd1 wd436 (by decide) (Nat.le_of_ble_eq_true rfl) dL_shapeOf_5 [] ⟨0, 10, 13, 19⟩ [] rfl (fun z hz => absurd hz List.not_mem_nil) (by decide) (by decide) wd328 wd191 (fun q => ?_)
  refine j_astore hC dL_shapeOf_13 [(4, .ref q), (0, .ref (gd g (0))), (1, vI (p0)), (2, vI (p1)), (3, .ref (gd g (27)))] (by decide) rfl ?_
  refine j_iconst hC dL_shapeOf_15 ?_
  exact j_iret hC dL_shapeOf_16 ⟨rfl, rfl⟩
set_option maxHeartbeats 4000000 in
set_option maxRecDepth 100000 in
theorem wk_signFor {l : Launch} (hl : l.stackTraces = false) (g : GG) (σ τ : Sg) (p0 p1 : Int) (r : Int) (hM : CN l yX3_signFor cX3_signFor 4 (some .int) 7 111 0 0 g [.ref (gd g (0)), vI (p0), vI (p1)] σ (pt (some (vI (r))) τ)) (hr : -2147483648 ≤ r ∧ r < 2147483648) : CW l yL_signFor cL_signFor 5 [(0, 10, 13, 19)] 8 134 0 0 g [.ref (gd g (0)), vI (p0), vI (p1), .ref (gd g (27))] σ (pt (some (vI 0)) (sF τ 9 r)) := by
  refine CW_of (own := RL) hl (by decide) rfl (Nat.le_of_ble_eq_true rfl) (fun mc hC hml hR hT => ?_)
  subst hml
  refine j_lv (lv2 := [(0, .ref (gd g (0))), (1, vI (p0)), (2, vI (p1)), (3, .ref (gd g (27)))]) rfl ?_
  refine j_aload_n hC dL_signFor_0 3 rfl ?_
  refine j_iconst hC dL_signFor_1 ?_
  refine j_aload_n hC dL_signFor_2 0 rfl ?_
  refine j_iload_n hC dL_signFor_3 1 rfl ?_
  refine j_iload_n hC dL_signFor_4 2 rfl ?_
  refine j_callV1 (ar := 2) hC hR (hM) [vI (0), .ref (gd g (27))] rfl 0 rfl rfl rfl (by decide) (by decide +kernel) rfl wd465 wd466 wd467 wd1 wd468 (by decide) (Nat.le_of_ble_eq_true rfl) dL_signFor_5 ?_
  refine j_i2l hC dL_signFor_8 (by omega) ?_
  refine j_last0 hC dL_signFor_9 ?_
  refine j_goto (tgt := 17) hC dL_signFor_10 (by decide) ?_
  refine j_iconst hC dL_signFor_17 ?_
  exact j_iret hC dL_signFor_18 ⟨rfl, rfl⟩
set_option maxHeartbeats 4000000 in
set_option maxRecDepth 100000 in
theorem wx1_signFor {l : Launch} (hl : l.stackTraces = false) (g : GG) (σ : Sg) (p0 p1 : Int) (hM : CX l yX3_signFor cX3_signFor 4 (some .int) 7 111 1 6 g [.ref (gd g (0)), vI (p0), vI (p1)] σ pF (pxE "java/lang/IndexOutOfBoundsException" (σ))) : CW l yL_signFor cL_signFor 5 [(0, 10, 13, 19)] 8 134 1 6 g [.ref (gd g (0)), vI (p0), vI (p1), .ref (gd g (27))] σ (pt (some (vI 1)) σ) := by
  refine CW_of (own := RL) hl (by decide) rfl (Nat.le_of_ble_eq_true rfl) (fun mc hC hml hR hT => ?_)
  subst hml
  refine j_lv (lv2 := [(0, .ref (gd g (0))), (1, vI (p0)), (2, vI (p1)), (3, .ref (gd g (27)))]) rfl ?_
  refine j_aload_n hC dL_signFor_0 3 rfl ?_
  refine j_iconst hC dL_signFor_1 ?_
  refine j_aload_n hC dL_signFor_2 0 rfl ?_
  refine j_iload_n hC dL_signFor_3 1 rfl ?_
  refine j_iload_n hC dL_signFor_4 2 rfl ?_
  refine j_callVC (ar := 2) (hh := [(0, 10, 13, 19)]) hC hR hT hM [vI (0), .ref (gd g (27))] rfl 0 rfl rfl rfl (by decide) (by decide +kernel) rfl wd465 wd466 wd467 wd1 wd468 (by decide) (Nat.le_of_ble_eq_true rfl) dL_signFor_5 [] ⟨0, 10, 13, 19⟩ [] rfl (fun z hz => absurd hz List.not_mem_nil) (by decide) (by decide) wd328 wd191 (fun q => ?_)
  refine j_astore hC dL_signFor_13 [(4, .ref q), (0, .ref (gd g (0))), (1, vI (p0)), (2, vI (p1)), (3, .ref (gd g (27)))] (by decide) rfl ?_
  refine j_iconst hC dL_signFor_15 ?_
  exact j_iret hC dL_signFor_16 ⟨rfl, rfl⟩
set_option maxHeartbeats 4000000 in
set_option maxRecDepth 100000 in
theorem wk_signsOf {l : Launch} (hl : l.stackTraces = false) (g : GG) (σ τ : Sg) (p0 : Int) (r : Int) (hM : CN l yX3_signsOf cX3_signsOf 2 (some .int) 7 111 0 0 g [.ref (gd g (0)), vI (p0)] σ (pt (some (vI (r))) τ)) (hr : -2147483648 ≤ r ∧ r < 2147483648) : CW l yL_signsOf cL_signsOf 4 [(0, 9, 12, 19)] 8 132 0 0 g [.ref (gd g (0)), vI (p0), .ref (gd g (27))] σ (pt (some (vI 0)) (sF τ 9 r)) := by
  refine CW_of (own := RL) hl (by decide) rfl (Nat.le_of_ble_eq_true rfl) (fun mc hC hml hR hT => ?_)
  subst hml
  refine j_lv (lv2 := [(0, .ref (gd g (0))), (1, vI (p0)), (2, .ref (gd g (27)))]) rfl ?_
  refine j_aload_n hC dL_signsOf_0 2 rfl ?_
  refine j_iconst hC dL_signsOf_1 ?_
  refine j_aload_n hC dL_signsOf_2 0 rfl ?_
  refine j_iload_n hC dL_signsOf_3 1 rfl ?_
  refine j_callV1 (ar := 1) hC hR (hM) [vI (0), .ref (gd g (27))] rfl 0 rfl rfl rfl (by decide) (by decide +kernel) rfl wd426 wd427 wd428 wd1 wd429 (by decide) (Nat.le_of_ble_eq_true rfl) dL_signsOf_4 ?_
  refine j_i2l hC dL_signsOf_7 (by omega) ?_
  refine j_last0 hC dL_signsOf_8 ?_
  refine j_goto (tgt := 15) hC dL_signsOf_9 (by decide) ?_
  refine j_iconst hC dL_signsOf_15 ?_
  exact j_iret hC dL_signsOf_16 ⟨rfl, rfl⟩
set_option maxHeartbeats 4000000 in
set_option maxRecDepth 100000 in
theorem wx1_signsOf {l : Launch} (hl : l.stackTraces = false) (g : GG) (σ : Sg) (p0 : Int) (hM : CX l yX3_signsOf cX3_signsOf 2 (some .int) 7 111 1 6 g [.ref (gd g (0)), vI (p0)] σ pF (pxE "java/lang/IndexOutOfBoundsException" (σ))) : CW l yL_signsOf cL_signsOf 4 [(0, 9, 12, 19)] 8 132 1 6 g [.ref (gd g (0)), vI (p0), .ref (gd g (27))] σ (pt (some (vI 1)) σ) := by
  refine CW_of (own := RL) hl (by decide) rfl (Nat.le_of_ble_eq_true rfl) (fun mc hC hml hR hT => ?_)
  subst hml
  refine j_lv (lv2 := [(0, .ref (gd g (0))), (1, vI (p0)), (2, .ref (gd g (27)))]) rfl ?_
  refine j_aload_n hC dL_signsOf_0 2 rfl ?_
  refine j_iconst hC dL_signsOf_1 ?_
  refine j_aload_n hC dL_signsOf_2 0 rfl ?_
  refine j_iload_n hC dL_signsOf_3 1 rfl ?_
  refine j_callVC (ar := 1) (hh := [(0, 9, 12, 19)]) hC hR hT hM [vI (0), .ref (gd g (27))] rfl 0 rfl rfl rfl (by decide) (by decide +kernel) rfl wd426 wd427 wd428 wd1 wd429 (by decide) (Nat.le_of_ble_eq_true rfl) dL_signsOf_4 [] ⟨0, 9, 12, 19⟩ [] rfl (fun z hz => absurd hz List.not_mem_nil) (by decide) (by decide) wd328 wd191 (fun q => ?_)
  refine j_astore_n hC dL_signsOf_12 [(3, .ref q), (0, .ref (gd g (0))), (1, vI (p0)), (2, .ref (gd g (27)))] (by decide) rfl ?_
  refine j_iconst hC dL_signsOf_13 ?_
  exact j_iret hC dL_signsOf_14 ⟨rfl, rfl⟩
set_option maxHeartbeats 4000000 in
set_option maxRecDepth 100000 in
theorem wk_steps {l : Launch} (hl : l.stackTraces = false) (g : GG) (σ τ : Sg) (p0 p1 : Int) (r : Int) (hM : CN l yX3_steps cX3_steps 3 (some .int) 7 110 0 0 g [.ref (gd g (0)), vI (p0), vI (p1)] σ (pt (some (vI (r))) τ)) (hr : -2147483648 ≤ r ∧ r < 2147483648) : CW l yL_steps cL_steps 5 [(0, 10, 13, 19)] 8 132 0 0 g [.ref (gd g (0)), vI (p0), vI (p1), .ref (gd g (27))] σ (pt (some (vI 0)) (sF τ 9 r)) := by
  refine CW_of (own := RL) hl (by decide) rfl (Nat.le_of_ble_eq_true rfl) (fun mc hC hml hR hT => ?_)
  subst hml
  refine j_lv (lv2 := [(0, .ref (gd g (0))), (1, vI (p0)), (2, vI (p1)), (3, .ref (gd g (27)))]) rfl ?_
  refine j_aload_n hC dL_steps_0 3 rfl ?_
  refine j_iconst hC dL_steps_1 ?_
  refine j_aload_n hC dL_steps_2 0 rfl ?_
  refine j_iload_n hC dL_steps_3 1 rfl ?_
  refine j_iload_n hC dL_steps_4 2 rfl ?_
  refine j_callV1 (ar := 2) hC hR (hM) [vI (0), .ref (gd g (27))] rfl 0 rfl rfl rfl (by decide) (by decide +kernel) rfl wd418 wd419 wd420 wd1 wd421 (by decide) (Nat.le_of_ble_eq_true rfl) dL_steps_5 ?_
  refine j_i2l hC dL_steps_8 (by omega) ?_
  refine j_last0 hC dL_steps_9 ?_
  refine j_goto (tgt := 17) hC dL_steps_10 (by decide) ?_
  refine j_iconst hC dL_steps_17 ?_
  exact j_iret hC dL_steps_18 ⟨rfl, rfl⟩
set_option maxHeartbeats 4000000 in
set_option maxRecDepth 100000 in
theorem wx1_steps {l : Launch} (hl : l.stackTraces = false) (g : GG) (σ : Sg) (p0 p1 : Int) (hM : CX l yX3_steps cX3_steps 3 (some .int) 7 110 1 6 g [.ref (gd g (0)), vI (p0), vI (p1)] σ pF (pxE "java/lang/IndexOutOfBoundsException" (σ))) : CW l yL_steps cL_steps 5 [(0, 10, 13, 19)] 8 132 1 6 g [.ref (gd g (0)), vI (p0), vI (p1), .ref (gd g (27))] σ (pt (some (vI 1)) σ) := by
  refine CW_of (own := RL) hl (by decide) rfl (Nat.le_of_ble_eq_true rfl) (fun mc hC hml hR hT => ?_)
  subst hml
  refine j_lv (lv2 := [(0, .ref (gd g (0))), (1, vI (p0)), (2, vI (p1)), (3, .ref (gd g (27)))]) rfl ?_
  refine j_aload_n hC dL_steps_0 3 rfl ?_
  refine j_iconst hC dL_steps_1 ?_
  refine j_aload_n hC dL_steps_2 0 rfl ?_
  refine j_iload_n hC dL_steps_3 1 rfl ?_
  refine j_iload_n hC dL_steps_4 2 rfl ?_
  refine j_callVC (ar := 2) (hh := [(0, 10, 13, 19)]) hC hR hT hM [vI (0), .ref (gd g (27))] rfl 0 rfl rfl rfl (by decide) (by decide +kernel) rfl wd418 wd419 wd420 wd1 wd421 (by decide) (Nat.le_of_ble_eq_true rfl) dL_steps_5 [] ⟨0, 10, 13, 19⟩ [] rfl (fun z hz => absurd hz List.not_mem_nil) (by decide) (by decide) wd328 wd191 (fun q => ?_)
  refine j_astore hC dL_steps_13 [(4, .ref q), (0, .ref (gd g (0))), (1, vI (p0)), (2, vI (p1)), (3, .ref (gd g (27)))] (by decide) rfl ?_
  refine j_iconst hC dL_steps_15 ?_
  exact j_iret hC dL_steps_16 ⟨rfl, rfl⟩
set_option maxHeartbeats 4000000 in
set_option maxRecDepth 100000 in
theorem wk_thumbOf {l : Launch} (hl : l.stackTraces = false) (g : GG) (σ τ : Sg) (p0 p1 : Int) (r : Int) (hM : CN l yX3_thumbOf cX3_thumbOf 3 (some .int) 8 134 0 0 g [.ref (gd g (0)), vI (p0), vI (p1)] σ (pt (some (vI (r))) τ)) (hr : -2147483648 ≤ r ∧ r < 2147483648) : CW l yL_thumbOf cL_thumbOf 5 [(0, 10, 13, 19)] 9 156 0 0 g [.ref (gd g (0)), vI (p0), vI (p1), .ref (gd g (27))] σ (pt (some (vI 0)) (sF τ 9 r)) := by
  refine CW_of (own := RL) hl (by decide) rfl (Nat.le_of_ble_eq_true rfl) (fun mc hC hml hR hT => ?_)
  subst hml
  refine j_lv (lv2 := [(0, .ref (gd g (0))), (1, vI (p0)), (2, vI (p1)), (3, .ref (gd g (27)))]) rfl ?_
  refine j_aload_n hC dL_thumbOf_0 3 rfl ?_
  refine j_iconst hC dL_thumbOf_1 ?_
  refine j_aload_n hC dL_thumbOf_2 0 rfl ?_
  refine j_iload_n hC dL_thumbOf_3 1 rfl ?_
  refine j_iload_n hC dL_thumbOf_4 2 rfl ?_
  refine j_callV1 (ar := 2) hC hR (hM) [vI (0), .ref (gd g (27))] rfl 0 rfl rfl rfl (by decide) (by decide +kernel) rfl wd444 wd445 wd446 wd1 wd447 (by decide) (Nat.le_of_ble_eq_true rfl) dL_thumbOf_5 ?_
  refine j_i2l hC dL_thumbOf_8 (by omega) ?_
  refine j_last0 hC dL_thumbOf_9 ?_
  refine j_goto (tgt := 17) hC dL_thumbOf_10 (by decide) ?_
  refine j_iconst hC dL_thumbOf_17 ?_
  exact j_iret hC dL_thumbOf_18 ⟨rfl, rfl⟩
set_option maxHeartbeats 4000000 in
set_option maxRecDepth 100000 in
theorem wx1_thumbOf {l : Launch} (hl : l.stackTraces = false) (g : GG) (σ : Sg) (p0 p1 : Int) (hM : CX l yX3_thumbOf cX3_thumbOf 3 (some .int) 8 134 1 6 g [.ref (gd g (0)), vI (p0), vI (p1)] σ pF (pxE "java/lang/IndexOutOfBoundsException" (σ))) : CW l yL_thumbOf cL_thumbOf 5 [(0, 10, 13, 19)] 9 156 1 6 g [.ref (gd g (0)), vI (p0), vI (p1), .ref (gd g (27))] σ (pt (some (vI 1)) σ) := by
  refine CW_of (own := RL) hl (by decide) rfl (Nat.le_of_ble_eq_true rfl) (fun mc hC hml hR hT => ?_)
  subst hml
  refine j_lv (lv2 := [(0, .ref (gd g (0))), (1, vI (p0)), (2, vI (p1)), (3, .ref (gd g (27)))]) rfl ?_
  refine j_aload_n hC dL_thumbOf_0 3 rfl ?_
  refine j_iconst hC dL_thumbOf_1 ?_
  refine j_aload_n hC dL_thumbOf_2 0 rfl ?_
  refine j_iload_n hC dL_thumbOf_3 1 rfl ?_
  refine j_iload_n hC dL_thumbOf_4 2 rfl ?_
  refine j_callVC (ar := 2) (hh := [(0, 10, 13, 19)]) hC hR hT hM [vI (0), .ref (gd g (27))] rfl 0 rfl rfl rfl (by decide) (by decide +kernel) rfl wd444 wd445 wd446 wd1 wd447 (by decide) (Nat.le_of_ble_eq_true rfl) dL_thumbOf_5 [] ⟨0, 10, 13, 19⟩ [] rfl (fun z hz => absurd hz List.not_mem_nil) (by decide) (by decide) wd328 wd191 (fun q => ?_)
  refine j_astore hC dL_thumbOf_13 [(4, .ref q), (0, .ref (gd g (0))), (1, vI (p0)), (2, vI (p1)), (3, .ref (gd g (27)))] (by decide) rfl ?_
  refine j_iconst hC dL_thumbOf_15 ?_
  exact j_iret hC dL_thumbOf_16 ⟨rfl, rfl⟩
set_option maxHeartbeats 4000000 in
set_option maxRecDepth 100000 in
theorem wk_thumbPairs {l : Launch} (hl : l.stackTraces = false) (g : GG) (σ τ : Sg) (p0 : Int) (r : Int) (hM : CN l yX3_thumbPairs cX3_thumbPairs 2 (some .int) 7 111 0 0 g [.ref (gd g (0)), vI (p0)] σ (pt (some (vI (r))) τ)) (hr : -2147483648 ≤ r ∧ r < 2147483648) : CW l yL_thumbPairs cL_thumbPairs 4 [(0, 9, 12, 19)] 8 132 0 0 g [.ref (gd g (0)), vI (p0), .ref (gd g (27))] σ (pt (some (vI 0)) (sF τ 9 r)) := by
  refine CW_of (own := RL) hl (by decide) rfl (Nat.le_of_ble_eq_true rfl) (fun mc hC hml hR hT => ?_)
  subst hml
  refine j_lv (lv2 := [(0, .ref (gd g (0))), (1, vI (p0)), (2, .ref (gd g (27)))]) rfl ?_
  refine j_aload_n hC dL_thumbPairs_0 2 rfl ?_
  refine j_iconst hC dL_thumbPairs_1 ?_
  refine j_aload_n hC dL_thumbPairs_2 0 rfl ?_
  refine j_iload_n hC dL_thumbPairs_3 1 rfl ?_
  refine j_callV1 (ar := 1) hC hR (hM) [vI (0), .ref (gd g (27))] rfl 0 rfl rfl rfl (by decide) (by decide +kernel) rfl wd488 wd489 wd490 wd1 wd491 (by decide) (Nat.le_of_ble_eq_true rfl) dL_thumbPairs_4 ?_
  refine j_i2l hC dL_thumbPairs_7 (by omega) ?_
  refine j_last0 hC dL_thumbPairs_8 ?_
  refine j_goto (tgt := 15) hC dL_thumbPairs_9 (by decide) ?_
  refine j_iconst hC dL_thumbPairs_15 ?_
  exact j_iret hC dL_thumbPairs_16 ⟨rfl, rfl⟩
set_option maxHeartbeats 4000000 in
set_option maxRecDepth 100000 in
theorem wx1_thumbPairs {l : Launch} (hl : l.stackTraces = false) (g : GG) (σ : Sg) (p0 : Int) (hM : CX l yX3_thumbPairs cX3_thumbPairs 2 (some .int) 7 111 1 6 g [.ref (gd g (0)), vI (p0)] σ pF (pxE "java/lang/IndexOutOfBoundsException" (σ))) : CW l yL_thumbPairs cL_thumbPairs 4 [(0, 9, 12, 19)] 8 132 1 6 g [.ref (gd g (0)), vI (p0), .ref (gd g (27))] σ (pt (some (vI 1)) σ) := by
  refine CW_of (own := RL) hl (by decide) rfl (Nat.le_of_ble_eq_true rfl) (fun mc hC hml hR hT => ?_)
  subst hml
  refine j_lv (lv2 := [(0, .ref (gd g (0))), (1, vI (p0)), (2, .ref (gd g (27)))]) rfl ?_
  refine j_aload_n hC dL_thumbPairs_0 2 rfl ?_
  refine j_iconst hC dL_thumbPairs_1 ?_
  refine j_aload_n hC dL_thumbPairs_2 0 rfl ?_
  refine j_iload_n hC dL_thumbPairs_3 1 rfl ?_
  refine j_callVC (ar := 1) (hh := [(0, 9, 12, 19)]) hC hR hT hM [vI (0), .ref (gd g (27))] rfl 0 rfl rfl rfl (by decide) (by decide +kernel) rfl wd488 wd489 wd490 wd1 wd491 (by decide) (Nat.le_of_ble_eq_true rfl) dL_thumbPairs_4 [] ⟨0, 9, 12, 19⟩ [] rfl (fun z hz => absurd hz List.not_mem_nil) (by decide) (by decide) wd328 wd191 (fun q => ?_)
  refine j_astore_n hC dL_thumbPairs_12 [(3, .ref q), (0, .ref (gd g (0))), (1, vI (p0)), (2, .ref (gd g (27)))] (by decide) rfl ?_
  refine j_iconst hC dL_thumbPairs_13 ?_
  exact j_iret hC dL_thumbPairs_14 ⟨rfl, rfl⟩
set_option maxHeartbeats 4000000 in
set_option maxRecDepth 100000 in
theorem wk_understood {l : Launch} (hl : l.stackTraces = false) (g : GG) (σ τ : Sg) (p0 p1 : Int) (r : Int) (hM : CN l yX3_understood cX3_understood 4 (some .int) 7 119 0 0 g [.ref (gd g (0)), vI (p0), vI (p1)] σ (pt (some (vI (r))) τ)) (hr : -2147483648 ≤ r ∧ r < 2147483648) : CW l yL_understood cL_understood 5 [(0, 10, 13, 19)] 8 142 0 0 g [.ref (gd g (0)), vI (p0), vI (p1), .ref (gd g (27))] σ (pt (some (vI 0)) (sF τ 9 r)) := by
  refine CW_of (own := RL) hl (by decide) rfl (Nat.le_of_ble_eq_true rfl) (fun mc hC hml hR hT => ?_)
  subst hml
  refine j_lv (lv2 := [(0, .ref (gd g (0))), (1, vI (p0)), (2, vI (p1)), (3, .ref (gd g (27)))]) rfl ?_
  refine j_aload_n hC dL_understood_0 3 rfl ?_
  refine j_iconst hC dL_understood_1 ?_
  refine j_aload_n hC dL_understood_2 0 rfl ?_
  refine j_iload_n hC dL_understood_3 1 rfl ?_
  refine j_iload_n hC dL_understood_4 2 rfl ?_
  refine j_callV1 (ar := 2) hC hR (hM) [vI (0), .ref (gd g (27))] rfl 0 rfl rfl rfl (by decide) (by decide +kernel) rfl wd524 wd525 wd526 wd1 wd527 (by decide) (Nat.le_of_ble_eq_true rfl) dL_understood_5 ?_
  refine j_i2l hC dL_understood_8 (by omega) ?_
  refine j_last0 hC dL_understood_9 ?_
  refine j_goto (tgt := 17) hC dL_understood_10 (by decide) ?_
  refine j_iconst hC dL_understood_17 ?_
  exact j_iret hC dL_understood_18 ⟨rfl, rfl⟩
set_option maxHeartbeats 4000000 in
set_option maxRecDepth 100000 in
theorem wx1_understood {l : Launch} (hl : l.stackTraces = false) (g : GG) (σ : Sg) (p0 p1 : Int) (hM : CX l yX3_understood cX3_understood 4 (some .int) 7 119 1 6 g [.ref (gd g (0)), vI (p0), vI (p1)] σ pF (pxE "java/lang/IndexOutOfBoundsException" (σ))) : CW l yL_understood cL_understood 5 [(0, 10, 13, 19)] 8 142 1 6 g [.ref (gd g (0)), vI (p0), vI (p1), .ref (gd g (27))] σ (pt (some (vI 1)) σ) := by
  refine CW_of (own := RL) hl (by decide) rfl (Nat.le_of_ble_eq_true rfl) (fun mc hC hml hR hT => ?_)
  subst hml
  refine j_lv (lv2 := [(0, .ref (gd g (0))), (1, vI (p0)), (2, vI (p1)), (3, .ref (gd g (27)))]) rfl ?_
  refine j_aload_n hC dL_understood_0 3 rfl ?_
  refine j_iconst hC dL_understood_1 ?_
  refine j_aload_n hC dL_understood_2 0 rfl ?_
  refine j_iload_n hC dL_understood_3 1 rfl ?_
  refine j_iload_n hC dL_understood_4 2 rfl ?_
  refine j_callVC (ar := 2) (hh := [(0, 10, 13, 19)]) hC hR hT hM [vI (0), .ref (gd g (27))] rfl 0 rfl rfl rfl (by decide) (by decide +kernel) rfl wd524 wd525 wd526 wd1 wd527 (by decide) (Nat.le_of_ble_eq_true rfl) dL_understood_5 [] ⟨0, 10, 13, 19⟩ [] rfl (fun z hz => absurd hz List.not_mem_nil) (by decide) (by decide) wd328 wd191 (fun q => ?_)
  refine j_astore hC dL_understood_13 [(4, .ref q), (0, .ref (gd g (0))), (1, vI (p0)), (2, vI (p1)), (3, .ref (gd g (27)))] (by decide) rfl ?_
  refine j_iconst hC dL_understood_15 ?_
  exact j_iret hC dL_understood_16 ⟨rfl, rfl⟩
