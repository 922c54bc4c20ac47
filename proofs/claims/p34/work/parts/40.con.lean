def g9 : Int → Int := (fun j => if j = 8 then 8 else (fun j => if j = 7 then 7 else (fun j => if j = 6 then 6 else (fun j => if j = 5 then 5 else (fun j => if j = 4 then 4 else (fun j => if j = 3 then 3 else (fun j => if j = 2 then 2 else (fun j => if j = 1 then 1 else (fun j => if j = 0 then 0 else (fun _ => 0) j) j) j) j) j) j) j) j) j)
theorem frX0 : ∀ j, j < 4 → defaultValue (tyX0 j) = vp_V [.null, .null, .null, vI 0] j := by
  intro j hj
  rcases (show j = 0 ∨ j = 1 ∨ j = 2 ∨ j = 3 by omega) with rfl | rfl | rfl | rfl <;> first | rfl | exact congrArg Value.int iI_0.symm
theorem frX2 : ∀ j, j < 2 → defaultValue (tyX2 j) = vp_V [.null, vI 0] j := by
  intro j hj
  rcases (show j = 0 ∨ j = 1 by omega) with rfl | rfl <;> first | rfl | exact congrArg Value.int iI_0.symm
theorem frX3 : ∀ j, j < 4 → defaultValue (tyX3 j) = vp_V [.null, .null, .null, vI 0] j := by
  intro j hj
  rcases (show j = 0 ∨ j = 1 ∨ j = 2 ∨ j = 3 by omega) with rfl | rfl | rfl | rfl <;> first | rfl | exact congrArg Value.int iI_0.symm
set_option maxHeartbeats 4000000 in
set_option maxRecDepth 100000 in
theorem c_X2_init (l : Launch) (g : GG) (w : va_W) (p : Nat) : CI l yX2_init cX2_init 2 1 24 1 9 g [.ref p] (w ++ [(p, .inr (1, [.null, vI 0]))]) (fun ws2 => ∃ q : Nat, ws2 = w ++ [(p, .inr (1, [.ref q, vI 9])), (q, ri g g9 9)]) := by
  refine CI_of (own := RX2) (by decide) rfl (Nat.le_of_ble_eq_true rfl) (fun mc hC hnm hR => ?_)
  refine i_lv (lv2 := [(0, .ref p)]) rfl ?_
  refine i_aload_n hC dX2_init_0 0 rfl ?_
  refine i_obj hC hR wd27 (by decide) dX2_init_1 ?_
  refine i_aload_n hC dX2_init_4 0 rfl ?_
  refine i_bipush hC dX2_init_5 (by decide) ?_
  refine i_newE hC hR 9 rfl (by decide) (by decide) dX2_init_7 (fun q1 => ?_)
  refine i_ws (ws2 := w ++ [(p, .inr (1, [.null, vI 0])), (q1, ri g (fun _ => 0) 9)]) (List.append_assoc w [(p, .inr (1, [.null, vI 0]))] ([(q1, ri g (fun _ => 0) 9)] : va_W)) ?_
  refine i_putF (ws2 := w ++ [(p, .inr (1, [.ref q1, vI 0])), (q1, ri g (fun _ => 0) 9)]) hC hnm inX2 tyX2_ok nmX2 rfl (w.length + 0) ((gk w _ 0).trans rfl) 0 (by decide) wd28 rfl rfl rfl rfl rfl (Nat.le_of_ble_eq_true rfl) ((sk w _ 0 _).trans rfl) dX2_init_9 ?_
  refine i_iconst hC dX2_init_12 ?_
  refine i_istore_n hC dX2_init_13 [(1, vI (0)), (0, .ref p)] (by decide) rfl ?_
  refine i_iload_n hC dX2_init_14 0 rfl ?_
  refine i_bipush hC dX2_init_15 (by decide) ?_
  refine i_icmp_ge (tgt := 33) hC dX2_init_17 (by decide) (by omega) (fun h => absurd h (by omega)) (fun _ => ?_)
  refine i_aload_n hC dX2_init_20 1 rfl ?_
  refine i_get hC inX2 rfl (w.length + 0) ((gk w _ 0).trans rfl) 0 (by decide) wd28 rfl dX2_init_21 ?_
  refine i_iload_n hC dX2_init_24 0 rfl ?_
  refine i_iload_n hC dX2_init_25 0 rfl ?_
  refine i_iast (ws2 := w ++ [(p, .inr (1, [.ref q1, vI 0])), (q1, ri g (fun j => if j = 0 then 0 else (fun _ => 0) j) 9)]) hC (w.length + 1) ((gk w _ 1).trans rfl) ((sk w _ 1 _).trans rfl) (by omega) dX2_init_26 ?_
  refine i_iinc hC dX2_init_27 0 [(1, vI (1)), (0, .ref p)] rfl (by decide) rfl ?_
  refine i_goto (tgt := 14) hC dX2_init_30 (by decide) ?_
  refine i_iload_n hC dX2_init_14 0 rfl ?_
  refine i_bipush hC dX2_init_15 (by decide) ?_
  refine i_icmp_ge (tgt := 33) hC dX2_init_17 (by decide) (by omega) (fun h => absurd h (by omega)) (fun _ => ?_)
  refine i_aload_n hC dX2_init_20 1 rfl ?_
  refine i_get hC inX2 rfl (w.length + 0) ((gk w _ 0).trans rfl) 0 (by decide) wd28 rfl dX2_init_21 ?_
  refine i_iload_n hC dX2_init_24 0 rfl ?_
  refine i_iload_n hC dX2_init_25 0 rfl ?_
  refine i_iast (ws2 := w ++ [(p, .inr (1, [.ref q1, vI 0])), (q1, ri g (fun j => if j = 1 then 1 else (fun j => if j = 0 then 0 else (fun _ => 0) j) j) 9)]) hC (w.length + 1) ((gk w _ 1).trans rfl) ((sk w _ 1 _).trans rfl) (by omega) dX2_init_26 ?_
  refine i_iinc hC dX2_init_27 0 [(1, vI (2)), (0, .ref p)] rfl (by decide) rfl ?_
  refine i_goto (tgt := 14) hC dX2_init_30 (by decide) ?_
  refine i_iload_n hC dX2_init_14 0 rfl ?_
  refine i_bipush hC dX2_init_15 (by decide) ?_
  refine i_icmp_ge (tgt := 33) hC dX2_init_17 (by decide) (by omega) (fun h => absurd h (by omega)) (fun _ => ?_)
  refine i_aload_n hC dX2_init_20 1 rfl ?_
  refine i_get hC inX2 rfl (w.length + 0) ((gk w _ 0).trans rfl) 0 (by decide) wd28 rfl dX2_init_21 ?_
  refine i_iload_n hC dX2_init_24 0 rfl ?_
  refine i_iload_n hC dX2_init_25 0 rfl ?_
  refine i_iast (ws2 := w ++ [(p, .inr (1, [.ref q1, vI 0])), (q1, ri g (fun j => if j = 2 then 2 else (fun j => if j = 1 then 1 else (fun j => if j = 0 then 0 else (fun _ => 0) j) j) j) 9)]) hC (w.length + 1) ((gk w _ 1).trans rfl) ((sk w _ 1 _).trans rfl) (by omega) dX2_init_26 ?_
  refine i_iinc hC dX2_init_27 0 [(1, vI (3)), (0, .ref p)] rfl (by decide) rfl ?_
  refine i_goto (tgt := 14) hC dX2_init_30 (by decide) ?_
  refine i_iload_n hC dX2_init_14 0 rfl ?_
  refine i_bipush hC dX2_init_15 (by decide) ?_
  refine i_icmp_ge (tgt := 33) hC dX2_init_17 (by decide) (by omega) (fun h => absurd h (by omega)) (fun _ => ?_)
  refine i_aload_n hC dX2_init_20 1 rfl ?_
  refine i_get hC inX2 rfl (w.length + 0) ((gk w _ 0).trans rfl) 0 (by decide) wd28 rfl dX2_init_21 ?_
  refine i_iload_n hC dX2_init_24 0 rfl ?_
  refine i_iload_n hC dX2_init_25 0 rfl ?_
  refine i_iast (ws2 := w ++ [(p, .inr (1, [.ref q1, vI 0])), (q1, ri g (fun j => if j = 3 then 3 else (fun j => if j = 2 then 2 else (fun j => if j = 1 then 1 else (fun j => if j = 0 then 0 else (fun _ => 0) j) j) j) j) 9)]) hC (w.length + 1) ((gk w _ 1).trans rfl) ((sk w _ 1 _).trans rfl) (by omega) dX2_init_26 ?_
  refine i_iinc hC dX2_init_27 0 [(1, vI (4)), (0, .ref p)] rfl (by decide) rfl ?_
  refine i_goto (tgt := 14) hC dX2_init_30 (by decide) ?_
  refine i_iload_n hC dX2_init_14 0 rfl ?_
  refine i_bipush hC dX2_init_15 (by decide) ?_
  refine i_icmp_ge (tgt := 33) hC dX2_init_17 (by decide) (by omega) (fun h => absurd h (by omega)) (fun _ => ?_)
  refine i_aload_n hC dX2_init_20 1 rfl ?_
  refine i_get hC inX2 rfl (w.length + 0) ((gk w _ 0).trans rfl) 0 (by decide) wd28 rfl dX2_init_21 ?_
  refine i_iload_n hC dX2_init_24 0 rfl ?_
  refine i_iload_n hC dX2_init_25 0 rfl ?_
  refine i_iast (ws2 := w ++ [(p, .inr (1, [.ref q1, vI 0])), (q1, ri g (fun j => if j = 4 then 4 else (fun j => if j = 3 then 3 else (fun j => if j = 2 then 2 else (fun j => if j = 1 then 1 else (fun j => if j = 0 then 0 else (fun _ => 0) j) j) j) j) j) 9)]) hC (w.length + 1) ((gk w _ 1).trans rfl) ((sk w _ 1 _).trans rfl) (by omega) dX2_init_26 ?_
  refine i_iinc hC dX2_init_27 0 [(1, vI (5)), (0, .ref p)] rfl (by decide) rfl ?_
  refine i_goto (tgt := 14) hC dX2_init_30 (by decide) ?_
  refine i_iload_n hC dX2_init_14 0 rfl ?_
  refine i_bipush hC dX2_init_15 (by decide) ?_
  refine i_icmp_ge (tgt := 33) hC dX2_init_17 (by decide) (by omega) (fun h => absurd h (by omega)) (fun _ => ?_)
  refine i_aload_n hC dX2_init_20 1 rfl ?_
  refine i_get hC inX2 rfl (w.length + 0) ((gk w _ 0).trans rfl) 0 (by decide) wd28 rfl dX2_init_21 ?_
  refine i_iload_n hC dX2_init_24 0 rfl ?_
  refine i_iload_n hC dX2_init_25 0 rfl ?_
  refine i_iast (ws2 := w ++ [(p, .inr (1, [.ref q1, vI 0])), (q1, ri g (fun j => if j = 5 then 5 else (fun j => if j = 4 then 4 else (fun j => if j = 3 then 3 else (fun j => if j = 2 then 2 else (fun j => if j = 1 then 1 else (fun j => if j = 0 then 0 else (fun _ => 0) j) j) j) j) j) j) 9)]) hC (w.length + 1) ((gk w _ 1).trans rfl) ((sk w _ 1 _).trans rfl) (by omega) dX2_init_26 ?_
  refine i_iinc hC dX2_init_27 0 [(1, vI (6)), (0, .ref p)] rfl (by decide) rfl ?_
  refine i_goto (tgt := 14) hC dX2_init_30 (by decide) ?_
  refine i_iload_n hC dX2_init_14 0 rfl ?_
  refine i_bipush hC dX2_init_15 (by decide) ?_
  refine i_icmp_ge (tgt := 33) hC dX2_init_17 (by decide) (by omega) (fun h => absurd h (by omega)) (fun _ => ?_)
  refine i_aload_n hC dX2_init_20 1 rfl ?_
  refine i_get hC inX2 rfl (w.length + 0) ((gk w _ 0).trans rfl) 0 (by decide) wd28 rfl dX2_init_21 ?_
  refine i_iload_n hC dX2_init_24 0 rfl ?_
  refine i_iload_n hC dX2_init_25 0 rfl ?_
  refine i_iast (ws2 := w ++ [(p, .inr (1, [.ref q1, vI 0])), (q1, ri g (fun j => if j = 6 then 6 else (fun j => if j = 5 then 5 else (fun j => if j = 4 then 4 else (fun j => if j = 3 then 3 else (fun j => if j = 2 then 2 else (fun j => if j = 1 then 1 else (fun j => if j = 0 then 0 else (fun _ => 0) j) j) j) j) j) j) j) 9)]) hC (w.length + 1) ((gk w _ 1).trans rfl) ((sk w _ 1 _).trans rfl) (by omega) dX2_init_26 ?_
  refine i_iinc hC dX2_init_27 0 [(1, vI (7)), (0, .ref p)] rfl (by decide) rfl ?_
  refine i_goto (tgt := 14) hC dX2_init_30 (by decide) ?_
  refine i_iload_n hC dX2_init_14 0 rfl ?_
  refine i_bipush hC dX2_init_15 (by decide) ?_
  refine i_icmp_ge (tgt := 33) hC dX2_init_17 (by decide) (by omega) (fun h => absurd h (by omega)) (fun _ => ?_)
  refine i_aload_n hC dX2_init_20 1 rfl ?_
  refine i_get hC inX2 rfl (w.length + 0) ((gk w _ 0).trans rfl) 0 (by decide) wd28 rfl dX2_init_21 ?_
  refine i_iload_n hC dX2_init_24 0 rfl ?_
  refine i_iload_n hC dX2_init_25 0 rfl ?_
  refine i_iast (ws2 := w ++ [(p, .inr (1, [.ref q1, vI 0])), (q1, ri g (fun j => if j = 7 then 7 else (fun j => if j = 6 then 6 else (fun j => if j = 5 then 5 else (fun j => if j = 4 then 4 else (fun j => if j = 3 then 3 else (fun j => if j = 2 then 2 else (fun j => if j = 1 then 1 else (fun j => if j = 0 then 0 else (fun _ => 0) j) j) j) j) j) j) j) j) 9)]) hC (w.length + 1) ((gk w _ 1).trans rfl) ((sk w _ 1 _).trans rfl) (by omega) dX2_init_26 ?_
  refine i_iinc hC dX2_init_27 0 [(1, vI (8)), (0, .ref p)] rfl (by decide) rfl ?_
  refine i_goto (tgt := 14) hC dX2_init_30 (by decide) ?_
  refine i_iload_n hC dX2_init_14 0 rfl ?_
  refine i_bipush hC dX2_init_15 (by decide) ?_
  refine i_icmp_ge (tgt := 33) hC dX2_init_17 (by decide) (by omega) (fun h => absurd h (by omega)) (fun _ => ?_)
  refine i_aload_n hC dX2_init_20 1 rfl ?_
  refine i_get hC inX2 rfl (w.length + 0) ((gk w _ 0).trans rfl) 0 (by decide) wd28 rfl dX2_init_21 ?_
  refine i_iload_n hC dX2_init_24 0 rfl ?_
  refine i_iload_n hC dX2_init_25 0 rfl ?_
  refine i_iast (ws2 := w ++ [(p, .inr (1, [.ref q1, vI 0])), (q1, ri g (fun j => if j = 8 then 8 else (fun j => if j = 7 then 7 else (fun j => if j = 6 then 6 else (fun j => if j = 5 then 5 else (fun j => if j = 4 then 4 else (fun j => if j = 3 then 3 else (fun j => if j = 2 then 2 else (fun j => if j = 1 then 1 else (fun j => if j = 0 then 0 else (fun _ => 0) j) j) j) j) j) j) j) j) j) 9)]) hC (w.length + 1) ((gk w _ 1).trans rfl) ((sk w _ 1 _).trans rfl) (by omega) dX2_init_26 ?_
  refine i_iinc hC dX2_init_27 0 [(1, vI (9)), (0, .ref p)] rfl (by decide) rfl ?_
  refine i_goto (tgt := 14) hC dX2_init_30 (by decide) ?_
  refine i_iload_n hC dX2_init_14 0 rfl ?_
  refine i_bipush hC dX2_init_15 (by decide) ?_
  refine i_icmp_ge (tgt := 33) hC dX2_init_17 (by decide) (by omega) (fun _ => ?_) (fun h => absurd h (by omega))
  refine i_aload_n hC dX2_init_33 1 rfl ?_
  refine i_bipush hC dX2_init_34 (by decide) ?_
  refine i_put (ws2 := w ++ [(p, .inr (1, [.ref q1, vI 9])), (q1, ri g (fun j => if j = 8 then 8 else (fun j => if j = 7 then 7 else (fun j => if j = 6 then 6 else (fun j => if j = 5 then 5 else (fun j => if j = 4 then 4 else (fun j => if j = 3 then 3 else (fun j => if j = 2 then 2 else (fun j => if j = 1 then 1 else (fun j => if j = 0 then 0 else (fun _ => 0) j) j) j) j) j) j) j) j) j) 9)]) hC inX2 tyX2_ok nmX2 rfl (w.length + 0) ((gk w _ 0).trans rfl) 1 (by decide) wd29 rfl rfl (Nat.le_of_ble_eq_true rfl) ((sk w _ 0 _).trans rfl) dX2_init_36 ?_
  exact i_vret hC dX2_init_39 ⟨_, rfl⟩
set_option maxHeartbeats 4000000 in
set_option maxRecDepth 100000 in
theorem c_X0_init (l : Launch) (g : GG) (w : va_W) (b p : Nat) : CI l yX0_init cX0_init 2 1 24 2 32 g [.ref b, .ref p] (w ++ [(b, .inr (0, [.null, .null, .null, vI 0]))]) (fun ws2 => ∃ q r : Nat, ws2 = w ++ [(b, .inr (0, [.ref p, .ref q, .ref r, vI 0])), (q, ri g (fun _ => 0) 16), (r, ri g (fun _ => 0) 16)]) := by
  refine CI_of (own := RX0) (by decide) rfl (Nat.le_of_ble_eq_true rfl) (fun mc hC hnm hR => ?_)
  refine i_lv (lv2 := [(0, .ref b), (1, .ref p)]) rfl ?_
  refine i_aload_n hC dX0_init_0 0 rfl ?_
  refine i_obj hC hR wd43 (by decide) dX0_init_1 ?_
  refine i_aload_n hC dX0_init_4 0 rfl ?_
  refine i_aload_n hC dX0_init_5 1 rfl ?_
  refine i_putF (ws2 := w ++ [(b, .inr (0, [.ref p, .null, .null, vI 0]))]) hC hnm inX0 tyX0_ok nmX0 rfl (w.length + 0) ((gk w _ 0).trans rfl) 0 (by decide) wd44 rfl rfl rfl rfl rfl (Nat.le_of_ble_eq_true rfl) ((sk w _ 0 _).trans rfl) dX0_init_6 ?_
  refine i_aload_n hC dX0_init_9 0 rfl ?_
  refine i_bipush hC dX0_init_10 (by decide) ?_
  refine i_newE hC hR 16 rfl (by decide) (by decide) dX0_init_12 (fun q1 => ?_)
  refine i_ws (ws2 := w ++ [(b, .inr (0, [.ref p, .null, .null, vI 0])), (q1, ri g (fun _ => 0) 16)]) (List.append_assoc w [(b, .inr (0, [.ref p, .null, .null, vI 0]))] ([(q1, ri g (fun _ => 0) 16)] : va_W)) ?_
  refine i_putF (ws2 := w ++ [(b, .inr (0, [.ref p, .ref q1, .null, vI 0])), (q1, ri g (fun _ => 0) 16)]) hC hnm inX0 tyX0_ok nmX0 rfl (w.length + 0) ((gk w _ 0).trans rfl) 1 (by decide) wd45 rfl rfl rfl rfl rfl (Nat.le_of_ble_eq_true rfl) ((sk w _ 0 _).trans rfl) dX0_init_14 ?_
  refine i_aload_n hC dX0_init_17 0 rfl ?_
  refine i_bipush hC dX0_init_18 (by decide) ?_
  refine i_newE hC hR 16 rfl (by decide) (by decide) dX0_init_20 (fun q2 => ?_)
  refine i_ws (ws2 := w ++ [(b, .inr (0, [.ref p, .ref q1, .null, vI 0])), (q1, ri g (fun _ => 0) 16), (q2, ri g (fun _ => 0) 16)]) (List.append_assoc w [(b, .inr (0, [.ref p, .ref q1, .null, vI 0])), (q1, ri g (fun _ => 0) 16)] ([(q2, ri g (fun _ => 0) 16)] : va_W)) ?_
  refine i_putF (ws2 := w ++ [(b, .inr (0, [.ref p, .ref q1, .ref q2, vI 0])), (q1, ri g (fun _ => 0) 16), (q2, ri g (fun _ => 0) 16)]) hC hnm inX0 tyX0_ok nmX0 rfl (w.length + 0) ((gk w _ 0).trans rfl) 2 (by decide) wd47 rfl rfl rfl rfl rfl (Nat.le_of_ble_eq_true rfl) ((sk w _ 0 _).trans rfl) dX0_init_22 ?_
  refine i_aload_n hC dX0_init_25 0 rfl ?_
  refine i_iconst hC dX0_init_26 ?_
  refine i_put (ws2 := w ++ [(b, .inr (0, [.ref p, .ref q1, .ref q2, vI 0])), (q1, ri g (fun _ => 0) 16), (q2, ri g (fun _ => 0) 16)]) hC inX0 tyX0_ok nmX0 rfl (w.length + 0) ((gk w _ 0).trans rfl) 3 (by decide) wd49 rfl rfl (Nat.le_of_ble_eq_true rfl) ((sk w _ 0 _).trans rfl) dX0_init_27 ?_
  exact i_vret hC dX0_init_30 ⟨_, _, rfl⟩
set_option maxHeartbeats 4000000 in
set_option maxRecDepth 100000 in
theorem c_X3_init (l : Launch) (g : GG) (w : va_W) (a : Nat) : CI l yX3_init cX3_init 2 2 45 18 195 g [.ref a] (w ++ [(a, .inr (2, [.null, .null, .null, vI 0]))]) (fun ws2 => ∃ p ga bs b0 l0 m0 b1 l1 m1 b2 l2 m2 b3 l3 m3 b4 l4 m4 : Nat, ws2 = w ++ [(a, .inr (2, [.ref p, .ref bs, .ref b4, vI 0])), (p, .inr (1, [.ref ga, vI 9])), (ga, ri g g9 9), (bs, .inl (gB g, 4, .inr (.inr (.inr (.inr (va_up (va_up (va_up (va_up (fun _ => none) 0 (some b0)) 1 (some b1)) 2 (some b2)) 3 (some b3))))))), (b0, .inr (0, [.ref p, .ref l0, .ref m0, vI 0])), (l0, ri g (fun _ => 0) 16), (m0, ri g (fun _ => 0) 16), (b1, .inr (0, [.ref p, .ref l1, .ref m1, vI 0])), (l1, ri g (fun _ => 0) 16), (m1, ri g (fun _ => 0) 16), (b2, .inr (0, [.ref p, .ref l2, .ref m2, vI 0])), (l2, ri g (fun _ => 0) 16), (m2, ri g (fun _ => 0) 16), (b3, .inr (0, [.ref p, .ref l3, .ref m3, vI 0])), (l3, ri g (fun _ => 0) 16), (m3, ri g (fun _ => 0) 16), (b4, .inr (0, [.ref p, .ref l4, .ref m4, vI 0])), (l4, ri g (fun _ => 0) 16), (m4, ri g (fun _ => 0) 16)]) := by
  refine CI_of (own := RX3) (by decide) rfl (Nat.le_of_ble_eq_true rfl) (fun mc hC hnm hR => ?_)
  refine i_lv (lv2 := [(0, .ref a)]) rfl ?_
  refine i_aload_n hC dX3_init_0 0 rfl ?_
  refine i_obj hC hR wd19 (by decide) dX3_init_1 ?_
  refine i_aload_n hC dX3_init_4 0 rfl ?_
  refine i_new (ci := 1) (fs := [.null, vI 0]) hC hR inX2 tyX2_ok wd22 wd23 wd2 rfl frX2 (by decide) dX3_init_5 (fun q1 => ?_)
  refine i_ws (ws2 := w ++ [(a, .inr (2, [.null, .null, .null, vI 0])), (q1, .inr (1, [.null, vI 0]))]) (List.append_assoc w [(a, .inr (2, [.null, .null, .null, vI 0]))] ([(q1, .inr (1, [.null, vI 0]))] : va_W)) ?_
  refine i_dup hC dX3_init_8 rfl ?_
  refine i_ws (ws2 := (w ++ ([(a, .inr (2, [.null, .null, .null, vI 0]))] : va_W)) ++ ([(q1, .inr (1, [.null, vI 0]))] : va_W)) (List.append_assoc w ([(a, .inr (2, [.null, .null, .null, vI 0]))] : va_W) ([(q1, .inr (1, [.null, vI 0]))] : va_W)).symm ?_
  refine i_callIN (ar := 0) hC hR (c_X2_init (mL mc) g (w ++ ([(a, .inr (2, [.null, .null, .null, vI 0]))] : va_W)) q1) [.ref q1, .ref a] rfl (by decide) (by decide +kernel) rfl rfl wd24 wd25 wd2 wd26 (by decide) (Nat.le_of_ble_eq_true rfl) dX3_init_9 ?_
  rintro ws2 ⟨q2, rfl⟩
  refine i_ws (ws2 := w ++ [(a, .inr (2, [.null, .null, .null, vI 0])), (q1, .inr (1, [.ref q2, vI 9])), (q2, ri g g9 9)]) (List.append_assoc w ([(a, .inr (2, [.null, .null, .null, vI 0]))] : va_W) ([(q1, .inr (1, [.ref q2, vI 9])), (q2, ri g g9 9)] : va_W)) ?_
  refine i_putF (ws2 := w ++ [(a, .inr (2, [.ref q1, .null, .null, vI 0])), (q1, .inr (1, [.ref q2, vI 9])), (q2, ri g g9 9)]) hC hnm inX3 tyX3_ok nmX3 rfl (w.length + 0) ((gk w _ 0).trans rfl) 0 (by decide) wd60 rfl rfl rfl rfl rfl (Nat.le_of_ble_eq_true rfl) ((sk w _ 0 _).trans rfl) dX3_init_12 ?_
  refine i_aload_n hC dX3_init_15 0 rfl ?_
  refine i_iconst hC dX3_init_16 ?_
  refine i_anew hC hR (by decide) wd37 dX3_init_17 (fun q3 => ?_)
  refine i_ws (ws2 := w ++ [(a, .inr (2, [.ref q1, .null, .null, vI 0])), (q1, .inr (1, [.ref q2, vI 9])), (q2, ri g g9 9), (q3, .inl (gB g, 4, .inr (.inr (.inr (.inr (fun _ => none))))))]) (List.append_assoc w [(a, .inr (2, [.ref q1, .null, .null, vI 0])), (q1, .inr (1, [.ref q2, vI 9])), (q2, ri g g9 9)] ([(q3, .inl (gB g, 4, .inr (.inr (.inr (.inr (fun _ => none))))))] : va_W)) ?_
  refine i_putF (ws2 := w ++ [(a, .inr (2, [.ref q1, .ref q3, .null, vI 0])), (q1, .inr (1, [.ref q2, vI 9])), (q2, ri g g9 9), (q3, .inl (gB g, 4, .inr (.inr (.inr (.inr (fun _ => none))))))]) hC hnm inX3 tyX3_ok nmX3 rfl (w.length + 0) ((gk w _ 0).trans rfl) 1 (by decide) wd61 rfl rfl rfl rfl rfl (Nat.le_of_ble_eq_true rfl) ((sk w _ 0 _).trans rfl) dX3_init_20 ?_
  refine i_iconst hC dX3_init_23 ?_
  refine i_istore_n hC dX3_init_24 [(1, vI (0)), (0, .ref a)] (by decide) rfl ?_
  refine i_iload_n hC dX3_init_25 0 rfl ?_
  refine i_iconst hC dX3_init_26 ?_
  refine i_icmp_ge (tgt := 53) hC dX3_init_27 (by decide) (by omega) (fun h => absurd h (by omega)) (fun _ => ?_)
  refine i_aload_n hC dX3_init_30 1 rfl ?_
  refine i_get hC inX3 rfl (w.length + 0) ((gk w _ 0).trans rfl) 1 (by decide) wd61 rfl dX3_init_31 ?_
  refine i_iload_n hC dX3_init_34 0 rfl ?_
  refine i_new (ci := 0) (fs := [.null, .null, .null, vI 0]) hC hR inX0 tyX0_ok wd37 wd39 wd3 rfl frX0 (by decide) dX3_init_35 (fun q4 => ?_)
  refine i_ws (ws2 := w ++ [(a, .inr (2, [.ref q1, .ref q3, .null, vI 0])), (q1, .inr (1, [.ref q2, vI 9])), (q2, ri g g9 9), (q3, .inl (gB g, 4, .inr (.inr (.inr (.inr (fun _ => none)))))), (q4, .inr (0, [.null, .null, .null, vI 0]))]) (List.append_assoc w [(a, .inr (2, [.ref q1, .ref q3, .null, vI 0])), (q1, .inr (1, [.ref q2, vI 9])), (q2, ri g g9 9), (q3, .inl (gB g, 4, .inr (.inr (.inr (.inr (fun _ => none))))))] ([(q4, .inr (0, [.null, .null, .null, vI 0]))] : va_W)) ?_
  refine i_dup hC dX3_init_38 rfl ?_
  refine i_aload_n hC dX3_init_39 1 rfl ?_
  refine i_get hC inX3 rfl (w.length + 0) ((gk w _ 0).trans rfl) 0 (by decide) wd60 rfl dX3_init_40 ?_
  refine i_ws (ws2 := (w ++ ([(a, .inr (2, [.ref q1, .ref q3, .null, vI 0])), (q1, .inr (1, [.ref q2, vI 9])), (q2, ri g g9 9), (q3, .inl (gB g, 4, .inr (.inr (.inr (.inr (fun _ => none))))))] : va_W)) ++ ([(q4, .inr (0, [.null, .null, .null, vI 0]))] : va_W)) (List.append_assoc w ([(a, .inr (2, [.ref q1, .ref q3, .null, vI 0])), (q1, .inr (1, [.ref q2, vI 9])), (q2, ri g g9 9), (q3, .inl (gB g, 4, .inr (.inr (.inr (.inr (fun _ => none))))))] : va_W) ([(q4, .inr (0, [.null, .null, .null, vI 0]))] : va_W)).symm ?_
  refine i_callIN (ar := 1) hC hR (c_X0_init (mL mc) g (w ++ ([(a, .inr (2, [.ref q1, .ref q3, .null, vI 0])), (q1, .inr (1, [.ref q2, vI 9])), (q2, ri g g9 9), (q3, .inl (gB g, 4, .inr (.inr (.inr (.inr (fun _ => none))))))] : va_W)) q4 q1) [.ref q4, vI (0), .ref q3] rfl (by decide) (by decide +kernel) rfl rfl wd40 wd41 wd3 wd42 (by decide) (Nat.le_of_ble_eq_true rfl) dX3_init_43 ?_
  rintro ws2 ⟨q5, q6, rfl⟩
  refine i_ws (ws2 := w ++ [(a, .inr (2, [.ref q1, .ref q3, .null, vI 0])), (q1, .inr (1, [.ref q2, vI 9])), (q2, ri g g9 9), (q3, .inl (gB g, 4, .inr (.inr (.inr (.inr (fun _ => none)))))), (q4, .inr (0, [.ref q1, .ref q5, .ref q6, vI 0])), (q5, ri g (fun _ => 0) 16), (q6, ri g (fun _ => 0) 16)]) (List.append_assoc w ([(a, .inr (2, [.ref q1, .ref q3, .null, vI 0])), (q1, .inr (1, [.ref q2, vI 9])), (q2, ri g g9 9), (q3, .inl (gB g, 4, .inr (.inr (.inr (.inr (fun _ => none))))))] : va_W) ([(q4, .inr (0, [.ref q1, .ref q5, .ref q6, vI 0])), (q5, ri g (fun _ => 0) 16), (q6, ri g (fun _ => 0) 16)] : va_W)) ?_
  refine i_astq (ws2 := w ++ [(a, .inr (2, [.ref q1, .ref q3, .null, vI 0])), (q1, .inr (1, [.ref q2, vI 9])), (q2, ri g g9 9), (q3, .inl (gB g, 4, .inr (.inr (.inr (.inr (va_up (fun _ => none) 0 (some q4))))))), (q4, .inr (0, [.ref q1, .ref q5, .ref q6, vI 0])), (q5, ri g (fun _ => 0) 16), (q6, ri g (fun _ => 0) 16)]) hC (w.length + 3) (w.length + 4) ((gk w _ 3).trans rfl) ((gk w _ 4).trans rfl) ((sk w _ 3 _).trans rfl) (by omega) dX3_init_46 ?_
  refine i_iinc hC dX3_init_47 0 [(1, vI (1)), (0, .ref a)] rfl (by decide) rfl ?_
  refine i_goto (tgt := 25) hC dX3_init_50 (by decide) ?_
  refine i_iload_n hC dX3_init_25 0 rfl ?_
  refine i_iconst hC dX3_init_26 ?_
  refine i_icmp_ge (tgt := 53) hC dX3_init_27 (by decide) (by omega) (fun h => absurd h (by omega)) (fun _ => ?_)
  refine i_aload_n hC dX3_init_30 1 rfl ?_
  refine i_get hC inX3 rfl (w.length + 0) ((gk w _ 0).trans rfl) 1 (by decide) wd61 rfl dX3_init_31 ?_
  refine i_iload_n hC dX3_init_34 0 rfl ?_
  refine i_new (ci := 0) (fs := [.null, .null, .null, vI 0]) hC hR inX0 tyX0_ok wd37 wd39 wd3 rfl frX0 (by decide) dX3_init_35 (fun q7 => ?_)
  refine i_ws (ws2 := w ++ [(a, .inr (2, [.ref q1, .ref q3, .null, vI 0])), (q1, .inr (1, [.ref q2, vI 9])), (q2, ri g g9 9), (q3, .inl (gB g, 4, .inr (.inr (.inr (.inr (va_up (fun _ => none) 0 (some q4))))))), (q4, .inr (0, [.ref q1, .ref q5, .ref q6, vI 0])), (q5, ri g (fun _ => 0) 16), (q6, ri g (fun _ => 0) 16), (q7, .inr (0, [.null, .null, .null, vI 0]))]) (List.append_assoc w [(a, .inr (2, [.ref q1, .ref q3, .null, vI 0])), (q1, .inr (1, [.ref q2, vI 9])), (q2, ri g g9 9), (q3, .inl (gB g, 4, .inr (.inr (.inr (.inr (va_up (fun _ => none) 0 (some q4))))))), (q4, .inr (0, [.ref q1, .ref q5, .ref q6, vI 0])), (q5, ri g (fun _ => 0) 16), (q6, ri g (fun _ => 0) 16)] ([(q7, .inr (0, [.null, .null, .null, vI 0]))] : va_W)) ?_
  refine i_dup hC dX3_init_38 rfl ?_
  refine i_aload_n hC dX3_init_39 1 rfl ?_
  refine i_get hC inX3 rfl (w.length + 0) ((gk w _ 0).trans rfl) 0 (by decide) wd60 rfl dX3_init_40 ?_
  refine i_ws (ws2 := (w ++ ([(a, .inr (2, [.ref q1, .ref q3, .null, vI 0])), (q1, .inr (1, [.ref q2, vI 9])), (q2, ri g g9 9), (q3, .inl (gB g, 4, .inr (.inr (.inr (.inr (va_up (fun _ => none) 0 (some q4))))))), (q4, .inr (0, [.ref q1, .ref q5, .ref q6, vI 0])), (q5, ri g (fun _ => 0) 16), (q6, ri g (fun _ => 0) 16)] : va_W)) ++ ([(q7, .inr (0, [.null, .null, .null, vI 0]))] : va_W)) (List.append_assoc w ([(a, .inr (2, [.ref q1, .ref q3, .null, vI 0])), (q1, .inr (1, [.ref q2, vI 9])), (q2, ri g g9 9), (q3, .inl (gB g, 4, .inr (.inr (.inr (.inr (va_up (fun _ => none) 0 (some q4))))))), (q4, .inr (0, [.ref q1, .ref q5, .ref q6, vI 0])), (q5, ri g (fun _ => 0) 16), (q6, ri g (fun _ => 0) 16)] : va_W) ([(q7, .inr (0, [.null, .null, .null, vI 0]))] : va_W)).symm ?_
  refine i_callIN (ar := 1) hC hR (c_X0_init (mL mc) g (w ++ ([(a, .inr (2, [.ref q1, .ref q3, .null, vI 0])), (q1, .inr (1, [.ref q2, vI 9])), (q2, ri g g9 9), (q3, .inl (gB g, 4, .inr (.inr (.inr (.inr (va_up (fun _ => none) 0 (some q4))))))), (q4, .inr (0, [.ref q1, .ref q5, .ref q6, vI 0])), (q5, ri g (fun _ => 0) 16), (q6, ri g (fun _ => 0) 16)] : va_W)) q7 q1) [.ref q7, vI (1), .ref q3] rfl (by decide) (by decide +kernel) rfl rfl wd40 wd41 wd3 wd42 (by decide) (Nat.le_of_ble_eq_true rfl) dX3_init_43 ?_
  rintro ws2 ⟨q8, q9, rfl⟩
  refine i_ws (ws2 := w ++ [(a, .inr (2, [.ref q1, .ref q3, .null, vI 0])), (q1, .inr (1, [.ref q2, vI 9])), (q2, ri g g9 9), (q3, .inl (gB g, 4, .inr (.inr (.inr (.inr (va_up (fun _ => none) 0 (some q4))))))), (q4, .inr (0, [.ref q1, .ref q5, .ref q6, vI 0])), (q5, ri g (fun _ => 0) 16), (q6, ri g (fun _ => 0) 16), (q7, .inr (0, [.ref q1, .ref q8, .ref q9, vI 0])), (q8, ri g (fun _ => 0) 16), (q9, ri g (fun _ => 0) 16)]) (List.append_assoc w ([(a, .inr (2, [.ref q1, .ref q3, .null, vI 0])), (q1, .inr (1, [.ref q2, vI 9])), (q2, ri g g9 9), (q3, .inl (gB g, 4, .inr (.inr (.inr (.inr (va_up (fun _ => none) 0 (some q4))))))), (q4, .inr (0, [.ref q1, .ref q5, .ref q6, vI 0])), (q5, ri g (fun _ => 0) 16), (q6, ri g (fun _ => 0) 16)] : va_W) ([(q7, .inr (0, [.ref q1, .ref q8, .ref q9, vI 0])), (q8, ri g (fun _ => 0) 16), (q9, ri g (fun _ => 0) 16)] : va_W)) ?_
  refine i_astq (ws2 := w ++ [(a, .inr (2, [.ref q1, .ref q3, .null, vI 0])), (q1, .inr (1, [.ref q2, vI 9])), (q2, ri g g9 9), (q3, .inl (gB g, 4, .inr (.inr (.inr (.inr (va_up (va_up (fun _ => none) 0 (some q4)) 1 (some q7))))))), (q4, .inr (0, [.ref q1, .ref q5, .ref q6, vI 0])), (q5, ri g (fun _ => 0) 16), (q6, ri g (fun _ => 0) 16), (q7, .inr (0, [.ref q1, .ref q8, .ref q9, vI 0])), (q8, ri g (fun _ => 0) 16), (q9, ri g (fun _ => 0) 16)]) hC (w.length + 3) (w.length + 7) ((gk w _ 3).trans rfl) ((gk w _ 7).trans rfl) ((sk w _ 3 _).trans rfl) (by omega) dX3_init_46 ?_
  refine i_iinc hC dX3_init_47 0 [(1, vI (2)), (0, .ref a)] rfl (by decide) rfl ?_
  refine i_goto (tgt := 25) hC dX3_init_50 (by decide) ?_
  refine i_iload_n hC dX3_init_25 0 rfl ?_
  refine i_iconst hC dX3_init_26 ?_
  refine i_icmp_ge (tgt := 53) hC dX3_init_27 (by decide) (by omega) (fun h => absurd h (by omega)) (fun _ => ?_)
  refine i_aload_n hC dX3_init_30 1 rfl ?_
  refine i_get hC inX3 rfl (w.length + 0) ((gk w _ 0).trans rfl) 1 (by decide) wd61 rfl dX3_init_31 ?_
  refine i_iload_n hC dX3_init_34 0 rfl ?_
  refine i_new (ci := 0) (fs := [.null, .null, .null, vI 0]) hC hR inX0 tyX0_ok wd37 wd39 wd3 rfl frX0 (by decide) dX3_init_35 (fun q10 => ?_)
  refine i_ws (ws2 := w ++ [(a, .inr (2, [.ref q1, .ref q3, .null, vI 0])), (q1, .inr (1, [.ref q2, vI 9])), (q2, ri g g9 9), (q3, .inl (gB g, 4, .inr (.inr (.inr (.inr (va_up (va_up (fun _ => none) 0 (some q4)) 1 (some q7))))))), (q4, .inr (0, [.ref q1, .ref q5, .ref q6, vI 0])), (q5, ri g (fun _ => 0) 16), (q6, ri g (fun _ => 0) 16), (q7, .inr (0, [.ref q1, .ref q8, .ref q9, vI 0])), (q8, ri g (fun _ => 0) 16), (q9, ri g (fun _ => 0) 16), (q10, .inr (0, [.null, .null, .null, vI 0]))]) (List.append_assoc w [(a, .inr (2, [.ref q1, .ref q3, .null, vI 0])), (q1, .inr (1, [.ref q2, vI 9])), (q2, ri g g9 9), (q3, .inl (gB g, 4, .inr (.inr (.inr (.inr (va_up (va_up (fun _ => none) 0 (some q4)) 1 (some q7))))))), (q4, .inr (0, [.ref q1, .ref q5, .ref q6, vI 0])), (q5, ri g (fun _ => 0) 16), (q6, ri g (fun _ => 0) 16), (q7, .inr (0, [.ref q1, .ref q8, .ref q9, vI 0])), (q8, ri g (fun _ => 0) 16), (q9, ri g (fun _ => 0) 16)] ([(q10, .inr (0, [.null, .null, .null, vI 0]))] : va_W)) ?_
  refine i_dup hC dX3_init_38 rfl ?_
  refine i_aload_n hC dX3_init_39 1 rfl ?_
  refine i_get hC inX3 rfl (w.length + 0) ((gk w _ 0).trans rfl) 0 (by decide) wd60 rfl dX3_init_40 ?_
  refine i_ws (ws2 := (w ++ ([(a, .inr (2, [.ref q1, .ref q3, .null, vI 0])), (q1, .inr (1, [.ref q2, vI 9])), (q2, ri g g9 9), (q3, .inl (gB g, 4, .inr (.inr (.inr (.inr (va_up (va_up (fun _ => none) 0 (some q4)) 1 (some q7))))))), (q4, .inr (0, [.ref q1, .ref q5, .ref q6, vI 0])), (q5, ri g (fun _ => 0) 16), (q6, ri g (fun _ => 0) 16), (q7, .inr (0, [.ref q1, .ref q8, .ref q9, vI 0])), (q8, ri g (fun _ => 0) 16), (q9, ri g (fun _ => 0) 16)] : va_W)) ++ ([(q10, .inr (0, [.null, .null, .null, vI 0]))] : va_W)) (List.append_assoc w ([(a, .inr (2, [.ref q1, .ref q3, .null, vI 0])), (q1, .inr (1, [.ref q2, vI 9])), (q2, ri g g9 9), (q3, .inl (gB g, 4, .inr (.inr (.inr (.inr (va_up (va_up (fun _ => none) 0 (some q4)) 1 (some q7))))))), (q4, .inr (0, [.ref q1, .ref q5, .ref q6, vI 0])), (q5, ri g (fun _ => 0) 16), (q6, ri g (fun _ => 0) 16), (q7, .inr (0, [.ref q1, .ref q8, .ref q9, vI 0])), (q8, ri g (fun _ => 0) 16), (q9, ri g (fun _ => 0) 16)] : va_W) ([(q10, .inr (0, [.null, .null, .null, vI 0]))] : va_W)).symm ?_
  refine i_callIN (ar := 1) hC hR (c_X0_init (mL mc) g (w ++ ([(a, .inr (2, [.ref q1, .ref q3, .null, vI 0])), (q1, .inr (1, [.ref q2, vI 9])), (q2, ri g g9 9), (q3, .inl (gB g, 4, .inr (.inr (.inr (.inr (va_up (va_up (fun _ => none) 0 (some q4)) 1 (some q7))))))), (q4, .inr (0, [.ref q1, .ref q5, .ref q6, vI 0])), (q5, ri g (fun _ => 0) 16), (q6, ri g (fun _ => 0) 16), (q7, .inr (0, [.ref q1, .ref q8, .ref q9, vI 0])), (q8, ri g (fun _ => 0) 16), (q9, ri g (fun _ => 0) 16)] : va_W)) q10 q1) [.ref q10, vI (2), .ref q3] rfl (by decide) (by decide +kernel) rfl rfl wd40 wd41 wd3 wd42 (by decide) (Nat.le_of_ble_eq_true rfl) dX3_init_43 ?_
  rintro ws2 ⟨q11, q12, rfl⟩
  refine i_ws (ws2 := w ++ [(a, .inr (2, [.ref q1, .ref q3, .null, vI 0])), (q1, .inr (1, [.ref q2, vI 9])), (q2, ri g g9 9), (q3, .inl (gB g, 4, .inr (.inr (.inr (.inr (va_up (va_up (fun _ => none) 0 (some q4)) 1 (some q7))))))), (q4, .inr (0, [.ref q1, .ref q5, .ref q6, vI 0])), (q5, ri g (fun _ => 0) 16), (q6, ri g (fun _ => 0) 16), (q7, .inr (0, [.ref q1, .ref q8, .ref q9, vI 0])), (q8, ri g (fun _ => 0) 16), (q9, ri g (fun _ => 0) 16), (q10, .inr (0, [.ref q1, .ref q11, .ref q12, vI 0])), (q11, ri g (fun _ => 0) 16), (q12, ri g (fun _ => 0) 16)]) (List.append_assoc w ([(a, .inr (2, [.ref q1, .ref q3, .null, vI 0])), (q1, .inr (1, [.ref q2, vI 9])), (q2, ri g g9 9), (q3, .inl (gB g, 4, .inr (.inr (.inr (.inr (va_up (va_up (fun _ => none) 0 (some q4)) 1 (some q7))))))), (q4, .inr (0, [.ref q1, .ref q5, .ref q6, vI 0])), (q5, ri g (fun _ => 0) 16), (q6, ri g (fun _ => 0) 16), (q7, .inr (0, [.ref q1, .ref q8, .ref q9, vI 0])), (q8, ri g (fun _ => 0) 16), (q9, ri g (fun _ => 0) 16)] : va_W) ([(q10, .inr (0, [.ref q1, .ref q11, .ref q12, vI 0])), (q11, ri g (fun _ => 0) 16), (q12, ri g (fun _ => 0) 16)] : va_W)) ?_
  refine i_astq (ws2 := w ++ [(a, .inr (2, [.ref q1, .ref q3, .null, vI 0])), (q1, .inr (1, [.ref q2, vI 9])), (q2, ri g g9 9), (q3, .inl (gB g, 4, .inr (.inr (.inr (.inr (va_up (va_up (va_up (fun _ => none) 0 (some q4)) 1 (some q7)) 2 (some q10))))))), (q4, .inr (0, [.ref q1, .ref q5, .ref q6, vI 0])), (q5, ri g (fun _ => 0) 16), (q6, ri g (fun _ => 0) 16), (q7, .inr (0, [.ref q1, .ref q8, .ref q9, vI 0])), (q8, ri g (fun _ => 0) 16), (q9, ri g (fun _ => 0) 16), (q10, .inr (0, [.ref q1, .ref q11, .ref q12, vI 0])), (q11, ri g (fun _ => 0) 16), (q12, ri g (fun _ => 0) 16)]) hC (w.length + 3) (w.length + 10) ((gk w _ 3).trans rfl) ((gk w _ 10).trans rfl) ((sk w _ 3 _).trans rfl) (by omega) dX3_init_46 ?_
  refine i_iinc hC dX3_init_47 0 [(1, vI (3)), (0, .ref a)] rfl (by decide) rfl ?_
  refine i_goto (tgt := 25) hC dX3_init_50 (by decide) ?_
  refine i_iload_n hC dX3_init_25 0 rfl ?_
  refine i_iconst hC dX3_init_26 ?_
  refine i_icmp_ge (tgt := 53) hC dX3_init_27 (by decide) (by omega) (fun h => absurd h (by omega)) (fun _ => ?_)
  refine i_aload_n hC dX3_init_30 1 rfl ?_
  refine i_get hC inX3 rfl (w.length + 0) ((gk w _ 0).trans rfl) 1 (by decide) wd61 rfl dX3_init_31 ?_
  refine i_iload_n hC dX3_init_34 0 rfl ?_
  refine i_new (ci := 0) (fs := [.null, .null, .null, vI 0]) hC hR inX0 tyX0_ok wd37 wd39 wd3 rfl frX0 (by decide) dX3_init_35 (fun q13 => ?_)
  refine i_ws (ws2 := w ++ [(a, .inr (2, [.ref q1, .ref q3, .null, vI 0])), (q1, .inr (1, [.ref q2, vI 9])), (q2, ri g g9 9), (q3, .inl (gB g, 4, .inr (.inr (.inr (.inr (va_up (va_up (va_up (fun _ => none) 0 (some q4)) 1 (some q7)) 2 (some q10))))))), (q4, .inr (0, [.ref q1, .ref q5, .ref q6, vI 0])), (q5, ri g (fun _ => 0) 16), (q6, ri g (fun _ => 0) 16), (q7, .inr (0, [.ref q1, .ref q8, .ref q9, vI 0])), (q8, ri g (fun _ => 0) 16), (q9, ri g (fun _ => 0) 16), (q10, .inr (0, [.ref q1, .ref q11, .ref q12, vI 0])), (q11, ri g (fun _ => 0) 16), (q12, ri g (fun _ => 0) 16), (q13, .inr (0, [.null, .null, .null, vI 0]))]) (List.append_assoc w [(a, .inr (2, [.ref q1, .ref q3, .null, vI 0])), (q1, .inr (1, [.ref q2, vI 9])), (q2, ri g g9 9), (q3, .inl (gB g, 4, .inr (.inr (.inr (.inr (va_up (va_up (va_up (fun _ => none) 0 (some q4)) 1 (some q7)) 2 (some q10))))))), (q4, .inr (0, [.ref q1, .ref q5, .ref q6, vI 0])), (q5, ri g (fun _ => 0) 16), (q6, ri g (fun _ => 0) 16), (q7, .inr (0, [.ref q1, .ref q8, .ref q9, vI 0])), (q8, ri g (fun _ => 0) 16), (q9, ri g (fun _ => 0) 16), (q10, .inr (0, [.ref q1, .ref q11, .ref q12, vI 0])), (q11, ri g (fun _ => 0) 16), (q12, ri g (fun _ => 0) 16)] ([(q13, .inr (0, [.null, .null, .null, vI 0]))] : va_W)) ?_
  refine i_dup hC dX3_init_38 rfl ?_
  refine i_aload_n hC dX3_init_39 1 rfl ?_
  refine i_get hC inX3 rfl (w.length + 0) ((gk w _ 0).trans rfl) 0 (by decide) wd60 rfl dX3_init_40 ?_
  refine i_ws (ws2 := (w ++ ([(a, .inr (2, [.ref q1, .ref q3, .null, vI 0])), (q1, .inr (1, [.ref q2, vI 9])), (q2, ri g g9 9), (q3, .inl (gB g, 4, .inr (.inr (.inr (.inr (va_up (va_up (va_up (fun _ => none) 0 (some q4)) 1 (some q7)) 2 (some q10))))))), (q4, .inr (0, [.ref q1, .ref q5, .ref q6, vI 0])), (q5, ri g (fun _ => 0) 16), (q6, ri g (fun _ => 0) 16), (q7, .inr (0, [.ref q1, .ref q8, .ref q9, vI 0])), (q8, ri g (fun _ => 0) 16), (q9, ri g (fun _ => 0) 16), (q10, .inr (0, [.ref q1, .ref q11, .ref q12, vI 0])), (q11, ri g (fun _ => 0) 16), (q12, ri g (fun _ => 0) 16)] : va_W)) ++ ([(q13, .inr (0, [.null, .null, .null, vI 0]))] : va_W)) (List.append_assoc w ([(a, .inr (2, [.ref q1, .ref q3, .null, vI 0])), (q1, .inr (1, [.ref q2, vI 9])), (q2, ri g g9 9), (q3, .inl (gB g, 4, .inr (.inr (.inr (.inr (va_up (va_up (va_up (fun _ => none) 0 (some q4)) 1 (some q7)) 2 (some q10))))))), (q4, .inr (0, [.ref q1, .ref q5, .ref q6, vI 0])), (q5, ri g (fun _ => 0) 16), (q6, ri g (fun _ => 0) 16), (q7, .inr (0, [.ref q1, .ref q8, .ref q9, vI 0])), (q8, ri g (fun _ => 0) 16), (q9, ri g (fun _ => 0) 16), (q10, .inr (0, [.ref q1, .ref q11, .ref q12, vI 0])), (q11, ri g (fun _ => 0) 16), (q12, ri g (fun _ => 0) 16)] : va_W) ([(q13, .inr (0, [.null, .null, .null, vI 0]))] : va_W)).symm ?_
  refine i_callIN (ar := 1) hC hR (c_X0_init (mL mc) g (w ++ ([(a, .inr (2, [.ref q1, .ref q3, .null, vI 0])), (q1, .inr (1, [.ref q2, vI 9])), (q2, ri g g9 9), (q3, .inl (gB g, 4, .inr (.inr (.inr (.inr (va_up (va_up (va_up (fun _ => none) 0 (some q4)) 1 (some q7)) 2 (some q10))))))), (q4, .inr (0, [.ref q1, .ref q5, .ref q6, vI 0])), (q5, ri g (fun _ => 0) 16), (q6, ri g (fun _ => 0) 16), (q7, .inr (0, [.ref q1, .ref q8, .ref q9, vI 0])), (q8, ri g (fun _ => 0) 16), (q9, ri g (fun _ => 0) 16), (q10, .inr (0, [.ref q1, .ref q11, .ref q12, vI 0])), (q11, ri g (fun _ => 0) 16), (q12, ri g (fun _ => 0) 16)] : va_W)) q13 q1) [.ref q13, vI (3), .ref q3] rfl (by decide) (by decide +kernel) rfl rfl wd40 wd41 wd3 wd42 (by decide) (Nat.le_of_ble_eq_true rfl) dX3_init_43 ?_
  rintro ws2 ⟨q14, q15, rfl⟩
  refine i_ws (ws2 := w ++ [(a, .inr (2, [.ref q1, .ref q3, .null, vI 0])), (q1, .inr (1, [.ref q2, vI 9])), (q2, ri g g9 9), (q3, .inl (gB g, 4, .inr (.inr (.inr (.inr (va_up (va_up (va_up (fun _ => none) 0 (some q4)) 1 (some q7)) 2 (some q10))))))), (q4, .inr (0, [.ref q1, .ref q5, .ref q6, vI 0])), (q5, ri g (fun _ => 0) 16), (q6, ri g (fun _ => 0) 16), (q7, .inr (0, [.ref q1, .ref q8, .ref q9, vI 0])), (q8, ri g (fun _ => 0) 16), (q9, ri g (fun _ => 0) 16), (q10, .inr (0, [.ref q1, .ref q11, .ref q12, vI 0])), (q11, ri g (fun _ => 0) 16), (q12, ri g (fun _ => 0) 16), (q13, .inr (0, [.ref q1, .ref q14, .ref q15, vI 0])), (q14, ri g (fun _ => 0) 16), (q15, ri g (fun _ => 0) 16)]) (List.append_assoc w ([(a, .inr (2, [.ref q1, .ref q3, .null, vI 0])), (q1, .inr (1, [.ref q2, vI 9])), (q2, ri g g9 9), (q3, .inl (gB g, 4, .inr (.inr (.inr (.inr (va_up (va_up (va_up (fun _ => none) 0 (some q4)) 1 (some q7)) 2 (some q10))))))), (q4, .inr (0, [.ref q1, .ref q5, .ref q6, vI 0])), (q5, ri g (fun _ => 0) 16), (q6, ri g (fun _ => 0) 16), (q7, .inr (0, [.ref q1, .ref q8, .ref q9, vI 0])), (q8, ri g (fun _ => 0) 16), (q9, ri g (fun _ => 0) 16), (q10, .inr (0, [.ref q1, .ref q11, .ref q12, vI 0])), (q11, ri g (fun _ => 0) 16), (q12, ri g (fun _ => 0) 16)] : va_W) ([(q13, .inr (0, [.ref q1, .ref q14, .ref q15, vI 0])), (q14, ri g (fun _ => 0) 16), (q15, ri g (fun _ => 0) 16)] : va_W)) ?_
  refine i_astq (ws2 := w ++ [(a, .inr (2, [.ref q1, .ref q3, .null, vI 0])), (q1, .inr (1, [.ref q2, vI 9])), (q2, ri g g9 9), (q3, .inl (gB g, 4, .inr (.inr (.inr (.inr (va_up (va_up (va_up (va_up (fun _ => none) 0 (some q4)) 1 (some q7)) 2 (some q10)) 3 (some q13))))))), (q4, .inr (0, [.ref q1, .ref q5, .ref q6, vI 0])), (q5, ri g (fun _ => 0) 16), (q6, ri g (fun _ => 0) 16), (q7, .inr (0, [.ref q1, .ref q8, .ref q9, vI 0])), (q8, ri g (fun _ => 0) 16), (q9, ri g (fun _ => 0) 16), (q10, .inr (0, [.ref q1, .ref q11, .ref q12, vI 0])), (q11, ri g (fun _ => 0) 16), (q12, ri g (fun _ => 0) 16), (q13, .inr (0, [.ref q1, .ref q14, .ref q15, vI 0])), (q14, ri g (fun _ => 0) 16), (q15, ri g (fun _ => 0) 16)]) hC (w.length + 3) (w.length + 13) ((gk w _ 3).trans rfl) ((gk w _ 13).trans rfl) ((sk w _ 3 _).trans rfl) (by omega) dX3_init_46 ?_
  refine i_iinc hC dX3_init_47 0 [(1, vI (4)), (0, .ref a)] rfl (by decide) rfl ?_
  refine i_goto (tgt := 25) hC dX3_init_50 (by decide) ?_
  refine i_iload_n hC dX3_init_25 0 rfl ?_
  refine i_iconst hC dX3_init_26 ?_
  refine i_icmp_ge (tgt := 53) hC dX3_init_27 (by decide) (by omega) (fun _ => ?_) (fun h => absurd h (by omega))
  refine i_aload_n hC dX3_init_53 1 rfl ?_
  refine i_new (ci := 0) (fs := [.null, .null, .null, vI 0]) hC hR inX0 tyX0_ok wd37 wd39 wd3 rfl frX0 (by decide) dX3_init_54 (fun q16 => ?_)
  refine i_ws (ws2 := w ++ [(a, .inr (2, [.ref q1, .ref q3, .null, vI 0])), (q1, .inr (1, [.ref q2, vI 9])), (q2, ri g g9 9), (q3, .inl (gB g, 4, .inr (.inr (.inr (.inr (va_up (va_up (va_up (va_up (fun _ => none) 0 (some q4)) 1 (some q7)) 2 (some q10)) 3 (some q13))))))), (q4, .inr (0, [.ref q1, .ref q5, .ref q6, vI 0])), (q5, ri g (fun _ => 0) 16), (q6, ri g (fun _ => 0) 16), (q7, .inr (0, [.ref q1, .ref q8, .ref q9, vI 0])), (q8, ri g (fun _ => 0) 16), (q9, ri g (fun _ => 0) 16), (q10, .inr (0, [.ref q1, .ref q11, .ref q12, vI 0])), (q11, ri g (fun _ => 0) 16), (q12, ri g (fun _ => 0) 16), (q13, .inr (0, [.ref q1, .ref q14, .ref q15, vI 0])), (q14, ri g (fun _ => 0) 16), (q15, ri g (fun _ => 0) 16), (q16, .inr (0, [.null, .null, .null, vI 0]))]) (List.append_assoc w [(a, .inr (2, [.ref q1, .ref q3, .null, vI 0])), (q1, .inr (1, [.ref q2, vI 9])), (q2, ri g g9 9), (q3, .inl (gB g, 4, .inr (.inr (.inr (.inr (va_up (va_up (va_up (va_up (fun _ => none) 0 (some q4)) 1 (some q7)) 2 (some q10)) 3 (some q13))))))), (q4, .inr (0, [.ref q1, .ref q5, .ref q6, vI 0])), (q5, ri g (fun _ => 0) 16), (q6, ri g (fun _ => 0) 16), (q7, .inr (0, [.ref q1, .ref q8, .ref q9, vI 0])), (q8, ri g (fun _ => 0) 16), (q9, ri g (fun _ => 0) 16), (q10, .inr (0, [.ref q1, .ref q11, .ref q12, vI 0])), (q11, ri g (fun _ => 0) 16), (q12, ri g (fun _ => 0) 16), (q13, .inr (0, [.ref q1, .ref q14, .ref q15, vI 0])), (q14, ri g (fun _ => 0) 16), (q15, ri g (fun _ => 0) 16)] ([(q16, .inr (0, [.null, .null, .null, vI 0]))] : va_W)) ?_
  refine i_dup hC dX3_init_57 rfl ?_
  refine i_aload_n hC dX3_init_58 1 rfl ?_
  refine i_get hC inX3 rfl (w.length + 0) ((gk w _ 0).trans rfl) 0 (by decide) wd60 rfl dX3_init_59 ?_
  refine i_ws (ws2 := (w ++ ([(a, .inr (2, [.ref q1, .ref q3, .null, vI 0])), (q1, .inr (1, [.ref q2, vI 9])), (q2, ri g g9 9), (q3, .inl (gB g, 4, .inr (.inr (.inr (.inr (va_up (va_up (va_up (va_up (fun _ => none) 0 (some q4)) 1 (some q7)) 2 (some q10)) 3 (some q13))))))), (q4, .inr (0, [.ref q1, .ref q5, .ref q6, vI 0])), (q5, ri g (fun _ => 0) 16), (q6, ri g (fun _ => 0) 16), (q7, .inr (0, [.ref q1, .ref q8, .ref q9, vI 0])), (q8, ri g (fun _ => 0) 16), (q9, ri g (fun _ => 0) 16), (q10, .inr (0, [.ref q1, .ref q11, .ref q12, vI 0])), (q11, ri g (fun _ => 0) 16), (q12, ri g (fun _ => 0) 16), (q13, .inr (0, [.ref q1, .ref q14, .ref q15, vI 0])), (q14, ri g (fun _ => 0) 16), (q15, ri g (fun _ => 0) 16)] : va_W)) ++ ([(q16, .inr (0, [.null, .null, .null, vI 0]))] : va_W)) (List.append_assoc w ([(a, .inr (2, [.ref q1, .ref q3, .null, vI 0])), (q1, .inr (1, [.ref q2, vI 9])), (q2, ri g g9 9), (q3, .inl (gB g, 4, .inr (.inr (.inr (.inr (va_up (va_up (va_up (va_up (fun _ => none) 0 (some q4)) 1 (some q7)) 2 (some q10)) 3 (some q13))))))), (q4, .inr (0, [.ref q1, .ref q5, .ref q6, vI 0])), (q5, ri g (fun _ => 0) 16), (q6, ri g (fun _ => 0) 16), (q7, .inr (0, [.ref q1, .ref q8, .ref q9, vI 0])), (q8, ri g (fun _ => 0) 16), (q9, ri g (fun _ => 0) 16), (q10, .inr (0, [.ref q1, .ref q11, .ref q12, vI 0])), (q11, ri g (fun _ => 0) 16), (q12, ri g (fun _ => 0) 16), (q13, .inr (0, [.ref q1, .ref q14, .ref q15, vI 0])), (q14, ri g (fun _ => 0) 16), (q15, ri g (fun _ => 0) 16)] : va_W) ([(q16, .inr (0, [.null, .null, .null, vI 0]))] : va_W)).symm ?_
  refine i_callIN (ar := 1) hC hR (c_X0_init (mL mc) g (w ++ ([(a, .inr (2, [.ref q1, .ref q3, .null, vI 0])), (q1, .inr (1, [.ref q2, vI 9])), (q2, ri g g9 9), (q3, .inl (gB g, 4, .inr (.inr (.inr (.inr (va_up (va_up (va_up (va_up (fun _ => none) 0 (some q4)) 1 (some q7)) 2 (some q10)) 3 (some q13))))))), (q4, .inr (0, [.ref q1, .ref q5, .ref q6, vI 0])), (q5, ri g (fun _ => 0) 16), (q6, ri g (fun _ => 0) 16), (q7, .inr (0, [.ref q1, .ref q8, .ref q9, vI 0])), (q8, ri g (fun _ => 0) 16), (q9, ri g (fun _ => 0) 16), (q10, .inr (0, [.ref q1, .ref q11, .ref q12, vI 0])), (q11, ri g (fun _ => 0) 16), (q12, ri g (fun _ => 0) 16), (q13, .inr (0, [.ref q1, .ref q14, .ref q15, vI 0])), (q14, ri g (fun _ => 0) 16), (q15, ri g (fun _ => 0) 16)] : va_W)) q16 q1) [.ref q16, .ref a] rfl (by decide) (by decide +kernel) rfl rfl wd40 wd41 wd3 wd42 (by decide) (Nat.le_of_ble_eq_true rfl) dX3_init_62 ?_
  rintro ws2 ⟨q17, q18, rfl⟩
  refine i_ws (ws2 := w ++ [(a, .inr (2, [.ref q1, .ref q3, .null, vI 0])), (q1, .inr (1, [.ref q2, vI 9])), (q2, ri g g9 9), (q3, .inl (gB g, 4, .inr (.inr (.inr (.inr (va_up (va_up (va_up (va_up (fun _ => none) 0 (some q4)) 1 (some q7)) 2 (some q10)) 3 (some q13))))))), (q4, .inr (0, [.ref q1, .ref q5, .ref q6, vI 0])), (q5, ri g (fun _ => 0) 16), (q6, ri g (fun _ => 0) 16), (q7, .inr (0, [.ref q1, .ref q8, .ref q9, vI 0])), (q8, ri g (fun _ => 0) 16), (q9, ri g (fun _ => 0) 16), (q10, .inr (0, [.ref q1, .ref q11, .ref q12, vI 0])), (q11, ri g (fun _ => 0) 16), (q12, ri g (fun _ => 0) 16), (q13, .inr (0, [.ref q1, .ref q14, .ref q15, vI 0])), (q14, ri g (fun _ => 0) 16), (q15, ri g (fun _ => 0) 16), (q16, .inr (0, [.ref q1, .ref q17, .ref q18, vI 0])), (q17, ri g (fun _ => 0) 16), (q18, ri g (fun _ => 0) 16)]) (List.append_assoc w ([(a, .inr (2, [.ref q1, .ref q3, .null, vI 0])), (q1, .inr (1, [.ref q2, vI 9])), (q2, ri g g9 9), (q3, .inl (gB g, 4, .inr (.inr (.inr (.inr (va_up (va_up (va_up (va_up (fun _ => none) 0 (some q4)) 1 (some q7)) 2 (some q10)) 3 (some q13))))))), (q4, .inr (0, [.ref q1, .ref q5, .ref q6, vI 0])), (q5, ri g (fun _ => 0) 16), (q6, ri g (fun _ => 0) 16), (q7, .inr (0, [.ref q1, .ref q8, .ref q9, vI 0])), (q8, ri g (fun _ => 0) 16), (q9, ri g (fun _ => 0) 16), (q10, .inr (0, [.ref q1, .ref q11, .ref q12, vI 0])), (q11, ri g (fun _ => 0) 16), (q12, ri g (fun _ => 0) 16), (q13, .inr (0, [.ref q1, .ref q14, .ref q15, vI 0])), (q14, ri g (fun _ => 0) 16), (q15, ri g (fun _ => 0) 16)] : va_W) ([(q16, .inr (0, [.ref q1, .ref q17, .ref q18, vI 0])), (q17, ri g (fun _ => 0) 16), (q18, ri g (fun _ => 0) 16)] : va_W)) ?_
  refine i_putF (ws2 := w ++ [(a, .inr (2, [.ref q1, .ref q3, .ref q16, vI 0])), (q1, .inr (1, [.ref q2, vI 9])), (q2, ri g g9 9), (q3, .inl (gB g, 4, .inr (.inr (.inr (.inr (va_up (va_up (va_up (va_up (fun _ => none) 0 (some q4)) 1 (some q7)) 2 (some q10)) 3 (some q13))))))), (q4, .inr (0, [.ref q1, .ref q5, .ref q6, vI 0])), (q5, ri g (fun _ => 0) 16), (q6, ri g (fun _ => 0) 16), (q7, .inr (0, [.ref q1, .ref q8, .ref q9, vI 0])), (q8, ri g (fun _ => 0) 16), (q9, ri g (fun _ => 0) 16), (q10, .inr (0, [.ref q1, .ref q11, .ref q12, vI 0])), (q11, ri g (fun _ => 0) 16), (q12, ri g (fun _ => 0) 16), (q13, .inr (0, [.ref q1, .ref q14, .ref q15, vI 0])), (q14, ri g (fun _ => 0) 16), (q15, ri g (fun _ => 0) 16), (q16, .inr (0, [.ref q1, .ref q17, .ref q18, vI 0])), (q17, ri g (fun _ => 0) 16), (q18, ri g (fun _ => 0) 16)]) hC hnm inX3 tyX3_ok nmX3 rfl (w.length + 0) ((gk w _ 0).trans rfl) 2 (by decide) wd62 rfl rfl rfl rfl rfl (Nat.le_of_ble_eq_true rfl) ((sk w _ 0 _).trans rfl) dX3_init_65 ?_
  refine i_aload_n hC dX3_init_68 1 rfl ?_
  refine i_iconst hC dX3_init_69 ?_
  refine i_put (ws2 := w ++ [(a, .inr (2, [.ref q1, .ref q3, .ref q16, vI 0])), (q1, .inr (1, [.ref q2, vI 9])), (q2, ri g g9 9), (q3, .inl (gB g, 4, .inr (.inr (.inr (.inr (va_up (va_up (va_up (va_up (fun _ => none) 0 (some q4)) 1 (some q7)) 2 (some q10)) 3 (some q13))))))), (q4, .inr (0, [.ref q1, .ref q5, .ref q6, vI 0])), (q5, ri g (fun _ => 0) 16), (q6, ri g (fun _ => 0) 16), (q7, .inr (0, [.ref q1, .ref q8, .ref q9, vI 0])), (q8, ri g (fun _ => 0) 16), (q9, ri g (fun _ => 0) 16), (q10, .inr (0, [.ref q1, .ref q11, .ref q12, vI 0])), (q11, ri g (fun _ => 0) 16), (q12, ri g (fun _ => 0) 16), (q13, .inr (0, [.ref q1, .ref q14, .ref q15, vI 0])), (q14, ri g (fun _ => 0) 16), (q15, ri g (fun _ => 0) 16), (q16, .inr (0, [.ref q1, .ref q17, .ref q18, vI 0])), (q17, ri g (fun _ => 0) 16), (q18, ri g (fun _ => 0) 16)]) hC inX3 tyX3_ok nmX3 rfl (w.length + 0) ((gk w _ 0).trans rfl) 3 (by decide) wd63 rfl rfl (Nat.le_of_ble_eq_true rfl) ((sk w _ 0 _).trans rfl) dX3_init_70 ?_
  exact i_vret hC dX3_init_73 ⟨_, _, _, _, _, _, _, _, _, _, _, _, _, _, _, _, _, _, rfl⟩
