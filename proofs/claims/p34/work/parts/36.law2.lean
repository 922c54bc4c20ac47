set_option maxHeartbeats 4000000 in
set_option maxRecDepth 100000 in
theorem lp_law_i {mc : MC} {g : GG} {Q : State → Prop} (hR : mR mc = rmJ 12 466 600074 7301550) {X : va_W} {σ : Sg} {a : Nat} {x : Int32} (hC : Cx mc (gx g X) cL_law RL 15 (some .boolean)) (t : Int) (hv : Iv σ) (l : Int) (hl : 0 ≤ l ∧ l < σ.1 0) (k n : Nat) (hkn9 : k ≤ 600074 ∧ n ≤ 7301550) {q v : Nat} {rr : Nat → Nat} {f : Nat → Option Nat} (hq : (q, rq (gU g) (nLo σ) f) ∈ X) (hfl : f l.toNat = some v) (hgv : (v, rq (gY g) (cN σ l.toNat) (fun i => if i < cN σ l.toNat then some (rr i) else none)) ∈ X) (hrows : ∀ i : Nat, i < cN σ l.toNat → ∃ f : Int → Int, (rr i, ri g f (cN σ l.toNat)) ∈ X ∧ ∀ j : Int, 0 ≤ j → j < (cN σ l.toNat : Nat) → f j = dB σ l.toNat i j) (al th cl : Int) (j w : Int) (hj : 0 ≤ j ∧ j < σ.1 (2 + l.toNat)) (hw : 0 ≤ w ∧ w < σ.1 (2 + l.toNat)) (kx : J mc (gx g X) k n Q 535 [(12, vI (j)), (13, vI (w)), (0, .ref (gb g)), (1, .ref (gd g (0))), (2, .ref a), (3, vI (t)), (4, .int (x)), (5, vI (σ.1 0)), (6, .ref q), (7, vI (l)), (8, vI (σ.1 (2 + l.toNat))), (9, vI (al)), (10, vI (th)), (11, vI (cl))] [] σ) : ∀ (d : Nat) (i : Int), (0 ≤ i) → (i + (d : Int) = σ.1 (2 + l.toNat)) → J mc (gx g X) k n Q 474 [(14, vI (i)), (12, vI (j)), (13, vI (w)), (0, .ref (gb g)), (1, .ref (gd g (0))), (2, .ref a), (3, vI (t)), (4, .int (x)), (5, vI (σ.1 0)), (6, .ref q), (7, vI (l)), (8, vI (σ.1 (2 + l.toNat))), (9, vI (al)), (10, vI (th)), (11, vI (cl))] [] σ := by
  intro d
  induction d with
  | zero =>
    intro i h0 hz
    have hI := hv.1
    have hc0 := IC_n hI
    have hkn := IC_k hI hl
    refine j_iload hC dL_law_474 0 rfl ?_
    refine j_iload hC dL_law_476 11 rfl ?_
    refine j_icmp_ge (tgt := 535) hC dL_law_478 (by decide) (by omega) (fun _ => ?_) (fun h => absurd h (by omega))
    refine j_sub [1, 2, 3, 4, 5, 6, 7, 8, 9, 10, 11, 12, 13, 14] rfl ?_
    exact kx
  | succ d ih =>
    intro i h0 hz
    have hI := hv.1
    have hc0 := IC_n hI
    have hkn := IC_k hI hl
    have hgc := hv.2.2.1
    have hgr := gcF_rg (σ.2 0)
    have hsj := IC_s hI hl (z := j) (by omega)
    have hsw := IC_s hI hl (z := w) (by omega)
    have hsi := IC_s hI hl (z := i) (by omega)
    have hdjw := dst_rg (G := σ.2 0) (x := σ.2 (1 + l.toNat) j) (y := σ.2 (1 + l.toNat) w) (by omega)
    have hdji := dst_rg (G := σ.2 0) (x := σ.2 (1 + l.toNat) j) (y := σ.2 (1 + l.toNat) i) (by omega)
    have hdiw := dst_rg (G := σ.2 0) (x := σ.2 (1 + l.toNat) i) (y := σ.2 (1 + l.toNat) w) (by omega)
    refine j_iload hC dL_law_474 0 rfl ?_
    refine j_iload hC dL_law_476 11 rfl ?_
    refine j_icmp_ge (tgt := 535) hC dL_law_478 (by decide) (by omega) (fun h => absurd h (by omega)) (fun _ => ?_)
    refine j_aload_n hC dL_law_481 4 rfl ?_
    refine j_callV1 (ar := 0) hC hR (c_X3_groups (hlJ hC) (gx g X) σ hI  ) [] rfl 0 rfl rfl rfl (by decide) (by decide +kernel) rfl wd155 wd156 wd157 wd1 wd158 (by first | decide | omega) (Nat.le_of_ble_eq_true rfl) dL_law_482 ?_
    refine j_bipush hC dL_law_485 (by decide) ?_
    refine j_icmp_ne (tgt := 535) hC dL_law_487 (by decide) (by omega) (fun h487 => ?_) (fun h487 => ?_)
    · refine j_sub [1, 2, 3, 4, 5, 6, 7, 8, 9, 10, 11, 12, 13, 14] rfl ?_
      exact kx
    · have htr := dst_tr (G := σ.2 0) (gc_inj (by omega)) (x := σ.2 (1 + l.toNat) j) (y := σ.2 (1 + l.toNat) i) (z := σ.2 (1 + l.toNat) w) (by omega)
      refine j_aload hC dL_law_490 9 rfl ?_
      refine j_iload hC dL_law_492 10 rfl ?_
      refine x_rald hC hq 4 rfl rfl hfl (by omega) dL_law_494 ?_
      refine j_iload hC dL_law_495 1 rfl ?_
      refine x_rald hC hgv 3 rfl rfl (if_pos (by omega)) (by omega) dL_law_497 ?_
      refine j_iload hC dL_law_498 2 rfl ?_
      refine f_val hC hrows (j := j) (by omega) (by omega) (by omega) dL_law_500 ?_
      refine j_aload hC dL_law_501 9 rfl ?_
      refine j_iload hC dL_law_503 10 rfl ?_
      refine x_rald hC hq 4 rfl rfl hfl (by omega) dL_law_505 ?_
      refine j_iload hC dL_law_506 1 rfl ?_
      refine x_rald hC hgv 3 rfl rfl (if_pos (by omega)) (by omega) dL_law_508 ?_
      refine j_iload hC dL_law_509 0 rfl ?_
      refine f_val hC hrows (j := j) (by omega) (by omega) (by omega) dL_law_511 ?_
      refine j_aload hC dL_law_512 9 rfl ?_
      refine j_iload hC dL_law_514 10 rfl ?_
      refine x_rald hC hq 4 rfl rfl hfl (by omega) dL_law_516 ?_
      refine j_iload hC dL_law_517 0 rfl ?_
      refine x_rald hC hgv 3 rfl rfl (if_pos (by omega)) (by omega) dL_law_519 ?_
      refine j_iload hC dL_law_520 2 rfl ?_
      refine f_val hC hrows (j := i) (by omega) (by omega) (by omega) dL_law_522 ?_
      refine j_iadd hC dL_law_523 ?_
      refine j_icmp_le (tgt := 529) hC dL_law_524 (by decide) (by omega) (fun _ => ?_) (fun h => absurd h (by omega))
      refine j_iinc hC dL_law_529 0 [(14, vI (i + 1)), (12, vI (j)), (13, vI (w)), (0, .ref (gb g)), (1, .ref (gd g (0))), (2, .ref a), (3, vI (t)), (4, .int (x)), (5, vI (σ.1 0)), (6, .ref q), (7, vI (l)), (8, vI (σ.1 (2 + l.toNat))), (9, vI (al)), (10, vI (th)), (11, vI (cl))] rfl (by decide) rfl ?_
      refine j_goto (tgt := 474) hC dL_law_532 (by decide) ?_
      exact ih (i + 1) (by omega) (by omega)
set_option maxHeartbeats 4000000 in
set_option maxRecDepth 100000 in
theorem lp_law_s {mc : MC} {g : GG} {Q : State → Prop} (hR : mR mc = rmJ 12 466 600074 7301550) {X : va_W} {σ : Sg} {a : Nat} {x : Int32} (hC : Cx mc (gx g X) cL_law RL 15 (some .boolean)) (t : Int) (hv : Iv σ) (l : Int) (hl : 0 ≤ l ∧ l < σ.1 0) (k n : Nat) (hkn9 : k ≤ 600074 ∧ n ≤ 7301550) {q v : Nat} {rr : Nat → Nat} {f : Nat → Option Nat} (hq : (q, rq (gU g) (nLo σ) f) ∈ X) (hfl : f l.toNat = some v) (hgv : (v, rq (gY g) (cN σ l.toNat) (fun i => if i < cN σ l.toNat then some (rr i) else none)) ∈ X) (hrows : ∀ i : Nat, i < cN σ l.toNat → ∃ f : Int → Int, (rr i, ri g f (cN σ l.toNat)) ∈ X ∧ ∀ j : Int, 0 ≤ j → j < (cN σ l.toNat : Nat) → f j = dB σ l.toNat i j) (al th cl : Int) (j : Int) (hj : 0 ≤ j ∧ j < σ.1 (2 + l.toNat)) (kx : J mc (gx g X) k n Q 541 [(12, vI (j)), (0, .ref (gb g)), (1, .ref (gd g (0))), (2, .ref a), (3, vI (t)), (4, .int (x)), (5, vI (σ.1 0)), (6, .ref q), (7, vI (l)), (8, vI (σ.1 (2 + l.toNat))), (9, vI (al)), (10, vI (th)), (11, vI (cl))] [] σ) : ∀ (d : Nat) (w : Int), (0 ≤ w) → (w + (d : Int) = σ.1 (2 + l.toNat)) → J mc (gx g X) k n Q 437 [(13, vI (w)), (12, vI (j)), (0, .ref (gb g)), (1, .ref (gd g (0))), (2, .ref a), (3, vI (t)), (4, .int (x)), (5, vI (σ.1 0)), (6, .ref q), (7, vI (l)), (8, vI (σ.1 (2 + l.toNat))), (9, vI (al)), (10, vI (th)), (11, vI (cl))] [] σ := by
  intro d
  induction d with
  | zero =>
    intro w h0 hz
    have hI := hv.1
    have hc0 := IC_n hI
    have hkn := IC_k hI hl
    refine j_iload hC dL_law_437 0 rfl ?_
    refine j_iload hC dL_law_439 10 rfl ?_
    refine j_icmp_ge (tgt := 541) hC dL_law_441 (by decide) (by omega) (fun _ => ?_) (fun h => absurd h (by omega))
    refine j_sub [1, 2, 3, 4, 5, 6, 7, 8, 9, 10, 11, 12, 13] rfl ?_
    exact kx
  | succ d ih =>
    intro w h0 hz
    have hI := hv.1
    have hc0 := IC_n hI
    have hkn := IC_k hI hl
    have hsj := IC_s hI hl (z := j) (by omega)
    have hsw := IC_s hI hl (z := w) (by omega)
    have hdjw := dst_rg (G := σ.2 0) (x := σ.2 (1 + l.toNat) j) (y := σ.2 (1 + l.toNat) w) (by omega)
    have hsy := dst_sy (G := σ.2 0) (x := σ.2 (1 + l.toNat) j) (y := σ.2 (1 + l.toNat) w)
    refine j_iload hC dL_law_437 0 rfl ?_
    refine j_iload hC dL_law_439 10 rfl ?_
    refine j_icmp_ge (tgt := 541) hC dL_law_441 (by decide) (by omega) (fun h => absurd h (by omega)) (fun _ => ?_)
    refine j_aload hC dL_law_444 8 rfl ?_
    refine j_iload hC dL_law_446 9 rfl ?_
    refine x_rald hC hq 4 rfl rfl hfl (by omega) dL_law_448 ?_
    refine j_iload hC dL_law_449 1 rfl ?_
    refine x_rald hC hgv 3 rfl rfl (if_pos (by omega)) (by omega) dL_law_451 ?_
    refine j_iload hC dL_law_452 0 rfl ?_
    refine f_val hC hrows (j := j) (by omega) (by omega) (by omega) dL_law_454 ?_
    refine j_aload hC dL_law_455 8 rfl ?_
    refine j_iload hC dL_law_457 9 rfl ?_
    refine x_rald hC hq 4 rfl rfl hfl (by omega) dL_law_459 ?_
    refine j_iload hC dL_law_460 0 rfl ?_
    refine x_rald hC hgv 3 rfl rfl (if_pos (by omega)) (by omega) dL_law_462 ?_
    refine j_iload hC dL_law_463 1 rfl ?_
    refine f_val hC hrows (j := w) (by omega) (by omega) (by omega) dL_law_465 ?_
    refine j_icmp_eq (tgt := 471) hC dL_law_466 (by decide) (by omega) (fun _ => ?_) (fun h => absurd h (by omega))
    refine j_iconst hC dL_law_471 ?_
    refine j_istore hC dL_law_472 [(14, vI (0)), (13, vI (w)), (12, vI (j)), (0, .ref (gb g)), (1, .ref (gd g (0))), (2, .ref a), (3, vI (t)), (4, .int (x)), (5, vI (σ.1 0)), (6, .ref q), (7, vI (l)), (8, vI (σ.1 (2 + l.toNat))), (9, vI (al)), (10, vI (th)), (11, vI (cl))] (by decide) rfl ?_
    refine j_sub [0, 2, 1, 3, 4, 5, 6, 7, 8, 9, 10, 11, 12, 13, 14] rfl ?_
    refine lp_law_i hR hC t hv l hl _ _ (by omega) hq hfl hgv hrows al th cl j w hj (by omega) ?_ (cN σ l.toNat) 0 (by omega) (by omega)
    refine j_iinc hC dL_law_535 1 [(13, vI (w + 1)), (12, vI (j)), (0, .ref (gb g)), (1, .ref (gd g (0))), (2, .ref a), (3, vI (t)), (4, .int (x)), (5, vI (σ.1 0)), (6, .ref q), (7, vI (l)), (8, vI (σ.1 (2 + l.toNat))), (9, vI (al)), (10, vI (th)), (11, vI (cl))] rfl (by decide) rfl ?_
    refine j_goto (tgt := 437) hC dL_law_538 (by decide) ?_
    exact ih (w + 1) (by omega) (by omega)
set_option maxHeartbeats 4000000 in
set_option maxRecDepth 100000 in
theorem lp_law_r {mc : MC} {g : GG} {Q : State → Prop} (hR : mR mc = rmJ 12 466 600074 7301550) {X : va_W} {σ : Sg} {a : Nat} {x : Int32} (hC : Cx mc (gx g X) cL_law RL 15 (some .boolean)) (t : Int) (hv : Iv σ) (l : Int) (hl : 0 ≤ l ∧ l < σ.1 0) (k n : Nat) (hkn9 : k ≤ 600074 ∧ n ≤ 7301550) {q v : Nat} {rr : Nat → Nat} {f : Nat → Option Nat} (hq : (q, rq (gU g) (nLo σ) f) ∈ X) (hfl : f l.toNat = some v) (hgv : (v, rq (gY g) (cN σ l.toNat) (fun i => if i < cN σ l.toNat then some (rr i) else none)) ∈ X) (hrows : ∀ i : Nat, i < cN σ l.toNat → ∃ f : Int → Int, (rr i, ri g f (cN σ l.toNat)) ∈ X ∧ ∀ j : Int, 0 ≤ j → j < (cN σ l.toNat : Nat) → f j = dB σ l.toNat i j) (al th cl : Int) (kx : J mc (gx g X) k n Q 547 [(0, .ref (gb g)), (1, .ref (gd g (0))), (2, .ref a), (3, vI (t)), (4, .int (x)), (5, vI (σ.1 0)), (6, .ref q), (7, vI (l)), (8, vI (σ.1 (2 + l.toNat))), (9, vI (al)), (10, vI (th)), (11, vI (cl))] [] σ) : ∀ (d : Nat) (j : Int), (0 ≤ j) → (j + (d : Int) = σ.1 (2 + l.toNat)) → J mc (gx g X) k n Q 427 [(12, vI (j)), (0, .ref (gb g)), (1, .ref (gd g (0))), (2, .ref a), (3, vI (t)), (4, .int (x)), (5, vI (σ.1 0)), (6, .ref q), (7, vI (l)), (8, vI (σ.1 (2 + l.toNat))), (9, vI (al)), (10, vI (th)), (11, vI (cl))] [] σ := by
  intro d
  induction d with
  | zero =>
    intro j h0 hz
    have hI := hv.1
    have hc0 := IC_n hI
    have hkn := IC_k hI hl
    refine j_iload hC dL_law_427 0 rfl ?_
    refine j_iload hC dL_law_429 9 rfl ?_
    refine j_icmp_ge (tgt := 547) hC dL_law_431 (by decide) (by omega) (fun _ => ?_) (fun h => absurd h (by omega))
    refine j_sub [1, 2, 3, 4, 5, 6, 7, 8, 9, 10, 11, 12] rfl ?_
    exact kx
  | succ d ih =>
    intro j h0 hz
    have hI := hv.1
    have hc0 := IC_n hI
    have hkn := IC_k hI hl
    refine j_iload hC dL_law_427 0 rfl ?_
    refine j_iload hC dL_law_429 9 rfl ?_
    refine j_icmp_ge (tgt := 547) hC dL_law_431 (by decide) (by omega) (fun h => absurd h (by omega)) (fun _ => ?_)
    refine j_iconst hC dL_law_434 ?_
    refine j_istore hC dL_law_435 [(13, vI (0)), (12, vI (j)), (0, .ref (gb g)), (1, .ref (gd g (0))), (2, .ref a), (3, vI (t)), (4, .int (x)), (5, vI (σ.1 0)), (6, .ref q), (7, vI (l)), (8, vI (σ.1 (2 + l.toNat))), (9, vI (al)), (10, vI (th)), (11, vI (cl))] (by decide) rfl ?_
    refine lp_law_s hR hC t hv l hl _ _ (by omega) hq hfl hgv hrows al th cl j (by omega) ?_ (cN σ l.toNat) 0 (by omega) (by omega)
    refine j_iinc hC dL_law_541 0 [(12, vI (j + 1)), (0, .ref (gb g)), (1, .ref (gd g (0))), (2, .ref a), (3, vI (t)), (4, .int (x)), (5, vI (σ.1 0)), (6, .ref q), (7, vI (l)), (8, vI (σ.1 (2 + l.toNat))), (9, vI (al)), (10, vI (th)), (11, vI (cl))] rfl (by decide) rfl ?_
    refine j_goto (tgt := 427) hC dL_law_544 (by decide) ?_
    exact ih (j + 1) (by omega) (by omega)
set_option maxHeartbeats 4000000 in
set_option maxRecDepth 100000 in
theorem lp_law_m {mc : MC} {g : GG} {Q : State → Prop} (hR : mR mc = rmJ 12 466 600074 7301550) {X : va_W} {σ : Sg} {a : Nat} {x : Int32} (hC : Cx mc (gx g X) cL_law RL 15 (some .boolean)) (t : Int) (hv : Iv σ) (l : Int) (hl : 0 ≤ l ∧ l < σ.1 0) (k n : Nat) (hkn9 : k ≤ 600074 ∧ n ≤ 7301550) {q : Nat} (kx : J mc (gx g X) k n Q 722 [(0, .ref (gb g)), (1, .ref (gd g (0))), (2, .ref a), (3, vI (t)), (4, .int (x)), (5, vI (σ.1 0)), (6, .ref q), (7, vI (l)), (8, vI (σ.1 (2 + l.toNat)))] [] σ) : ∀ (d : Nat) (m : Int), (0 ≤ m) → (m + (d : Int) = σ.1 0) → J mc (gx g X) k n Q 622 [(12, vI (m)), (0, .ref (gb g)), (1, .ref (gd g (0))), (2, .ref a), (3, vI (t)), (4, .int (x)), (5, vI (σ.1 0)), (6, .ref q), (7, vI (l)), (8, vI (σ.1 (2 + l.toNat)))] [] σ := by
  intro d
  induction d with
  | zero =>
    intro m h0 hz
    have hI := hv.1
    have hc0 := IC_n hI
    have hkn := IC_k hI hl
    refine j_iload hC dL_law_622 0 rfl ?_
    refine j_iload hC dL_law_624 6 rfl ?_
    refine j_icmp_ge (tgt := 722) hC dL_law_626 (by decide) (by omega) (fun _ => ?_) (fun h => absurd h (by omega))
    refine j_sub [1, 2, 3, 4, 5, 6, 7, 8, 9] rfl ?_
    exact kx
  | succ d ih =>
    intro m h0 hz
    have hI := hv.1
    have hc0 := IC_n hI
    have hkn := IC_k hI hl
    refine j_iload hC dL_law_622 0 rfl ?_
    refine j_iload hC dL_law_624 6 rfl ?_
    refine j_icmp_ge (tgt := 722) hC dL_law_626 (by decide) (by omega) (fun h => absurd h (by omega)) (fun _ => ?_)
    have hl5 := (IC_l hI hl).2.2
    have hl4 := (IC_l hI hl).2.1
    have hm5 := (IC_l hI (l := m) (by omega)).2.2
    have hm4 := (IC_l hI (l := m) (by omega)).2.1
    have q1 := cu_cm (b := m.toNat) hI hl5
    have q2 := cc_cu (σ := σ) (b := m.toNat) (s := l.toNat)
    have q3 := cc_cu (σ := σ) (b := l.toNat) (s := m.toNat)
    have q4 := ccB_le hI hv.2.1 hm4 hl4
    refine j_aload_n hC dL_law_629 2 rfl ?_
    refine j_iload hC dL_law_630 8 rfl ?_
    refine j_iload hC dL_law_632 0 rfl ?_
    refine j_callV1 (ar := 2) hC hR (c_X3_understood (hlJ hC) (gx g X) σ hI l m (by omega) (by omega) ) [] rfl 0 rfl rfl rfl (by decide) (by decide +kernel) rfl wd305 wd306 wd307 wd1 wd308 (by first | decide | omega) (Nat.le_of_ble_eq_true rfl) dL_law_634 ?_
    have hq634 : 0 ≤ cuB σ m.toNat l.toNat ∧ cuB σ m.toNat l.toNat ≤ 16 := cnt0_rg _ hI (IC_l hI (l := l) (by omega)).2.2
    refine j_istore hC dL_law_637 [(13, vI (cuB σ m.toNat l.toNat)), (12, vI (m)), (0, .ref (gb g)), (1, .ref (gd g (0))), (2, .ref a), (3, vI (t)), (4, .int (x)), (5, vI (σ.1 0)), (6, .ref q), (7, vI (l)), (8, vI (σ.1 (2 + l.toNat)))] (by decide) rfl ?_
    refine j_aload_n hC dL_law_639 3 rfl ?_
    refine j_iload hC dL_law_640 9 rfl ?_
    refine j_iload hC dL_law_642 1 rfl ?_
    refine j_callV1 (ar := 2) hC hR (c_X3_common (hlJ hC) (gx g X) σ hI l m (by omega) (by omega) ) [] rfl 0 rfl rfl rfl (by decide) (by decide +kernel) rfl wd322 wd323 wd324 wd1 wd325 (by first | decide | omega) (Nat.le_of_ble_eq_true rfl) dL_law_644 ?_
    have hq644 : 0 ≤ ccB σ m.toNat l.toNat ∧ ccB σ m.toNat l.toNat ≤ 16 := cnt0_rg _ hI (IC_l hI (l := m) (by omega)).2.2
    refine j_istore hC dL_law_647 [(14, vI (ccB σ m.toNat l.toNat)), (13, vI (cuB σ m.toNat l.toNat)), (12, vI (m)), (0, .ref (gb g)), (1, .ref (gd g (0))), (2, .ref a), (3, vI (t)), (4, .int (x)), (5, vI (σ.1 0)), (6, .ref q), (7, vI (l)), (8, vI (σ.1 (2 + l.toNat)))] (by decide) rfl ?_
    refine j_iload hC dL_law_649 1 rfl ?_
    refine j_if_lt (tgt := 714) hC dL_law_651 (by decide) (by omega) (fun h => absurd h (by omega)) (fun _ => ?_)
    refine j_aload_n hC dL_law_654 4 rfl ?_
    refine j_iload hC dL_law_655 10 rfl ?_
    refine j_iload hC dL_law_657 2 rfl ?_
    refine j_callV1 (ar := 2) hC hR (c_X3_misread (hlJ hC) (gx g X) σ hI l m (by omega) (by omega) ) [] rfl 0 rfl rfl rfl (by decide) (by decide +kernel) rfl wd314 wd315 wd316 wd1 wd317 (by first | decide | omega) (Nat.le_of_ble_eq_true rfl) dL_law_659 ?_
    have hq659 : 0 ≤ cmB σ m.toNat l.toNat ∧ cmB σ m.toNat l.toNat ≤ 16 := cnt0_rg _ hI (IC_l hI (l := l) (by omega)).2.2
    refine j_if_lt (tgt := 714) hC dL_law_662 (by decide) (by omega) (fun h => absurd h (by omega)) (fun _ => ?_)
    refine j_iload hC dL_law_665 1 rfl ?_
    refine j_aload_n hC dL_law_667 4 rfl ?_
    refine j_iload hC dL_law_668 10 rfl ?_
    refine j_iload hC dL_law_670 2 rfl ?_
    refine j_callV1 (ar := 2) hC hR (c_X3_misread (hlJ hC) (gx g X) σ hI l m (by omega) (by omega) ) [vI (cuB σ m.toNat l.toNat)] rfl 0 rfl rfl rfl (by decide) (by decide +kernel) rfl wd314 wd315 wd316 wd1 wd317 (by first | decide | omega) (Nat.le_of_ble_eq_true rfl) dL_law_672 ?_
    have hq672 : 0 ≤ cmB σ m.toNat l.toNat ∧ cmB σ m.toNat l.toNat ≤ 16 := cnt0_rg _ hI (IC_l hI (l := l) (by omega)).2.2
    refine j_iadd hC dL_law_675 ?_
    refine j_iload hC dL_law_676 11 rfl ?_
    refine j_icmp_gt (tgt := 714) hC dL_law_678 (by decide) (by omega) (fun h => absurd h (by omega)) (fun _ => ?_)
    refine j_iload hC dL_law_681 0 rfl ?_
    refine j_iload hC dL_law_683 1 rfl ?_
    refine j_icmp_gt (tgt := 714) hC dL_law_685 (by decide) (by omega) (fun h => absurd h (by omega)) (fun _ => ?_)
    refine j_iload hC dL_law_688 0 rfl ?_
    refine j_aload_n hC dL_law_690 4 rfl ?_
    refine j_iload hC dL_law_691 2 rfl ?_
    refine j_iload hC dL_law_693 10 rfl ?_
    refine j_callV1 (ar := 2) hC hR (c_X3_understood (hlJ hC) (gx g X) σ hI m l (by omega) (by omega) ) [vI (ccB σ m.toNat l.toNat)] rfl 0 rfl rfl rfl (by decide) (by decide +kernel) rfl wd305 wd306 wd307 wd1 wd308 (by first | decide | omega) (Nat.le_of_ble_eq_true rfl) dL_law_695 ?_
    have hq695 : 0 ≤ cuB σ l.toNat m.toNat ∧ cuB σ l.toNat m.toNat ≤ 16 := cnt0_rg _ hI (IC_l hI (l := m) (by omega)).2.2
    refine j_icmp_gt (tgt := 714) hC dL_law_698 (by decide) (by omega) (fun h => absurd h (by omega)) (fun _ => ?_)
    refine j_iload hC dL_law_701 0 rfl ?_
    refine j_aload_n hC dL_law_703 4 rfl ?_
    refine j_iload hC dL_law_704 2 rfl ?_
    refine j_iload hC dL_law_706 10 rfl ?_
    refine j_callV1 (ar := 2) hC hR (c_X3_common (hlJ hC) (gx g X) σ hI m l (by omega) (by omega) ) [vI (ccB σ m.toNat l.toNat)] rfl 0 rfl rfl rfl (by decide) (by decide +kernel) rfl wd322 wd323 wd324 wd1 wd325 (by first | decide | omega) (Nat.le_of_ble_eq_true rfl) dL_law_708 ?_
    have hq708 : 0 ≤ ccB σ l.toNat m.toNat ∧ ccB σ l.toNat m.toNat ≤ 16 := cnt0_rg _ hI (IC_l hI (l := l) (by omega)).2.2
    refine j_icmp_eq (tgt := 716) hC dL_law_711 (by decide) (by omega) (fun _ => ?_) (fun h => absurd h (by omega))
    refine j_iinc hC dL_law_716 2 [(12, vI (m + 1)), (14, vI (ccB σ m.toNat l.toNat)), (13, vI (cuB σ m.toNat l.toNat)), (0, .ref (gb g)), (1, .ref (gd g (0))), (2, .ref a), (3, vI (t)), (4, .int (x)), (5, vI (σ.1 0)), (6, .ref q), (7, vI (l)), (8, vI (σ.1 (2 + l.toNat)))] rfl (by decide) rfl ?_
    refine j_goto (tgt := 622) hC dL_law_719 (by decide) ?_
    refine j_sub [0, 3, 4, 5, 6, 7, 8, 9, 10, 11] rfl ?_
    exact ih (m + 1) (by omega) (by omega)
