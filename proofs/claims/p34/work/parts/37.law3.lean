set_option maxHeartbeats 4000000 in
set_option maxRecDepth 100000 in
theorem lp_law_l {mc : MC} {g : GG} {Q : State → Prop} (hR : mR mc = rmJ 12 466 600074 7301550) {a : Nat} {r : RR} {X0 : va_W} {σ : Sg} {x : Int32} {q : Nat} (t : Int) (hr0 : Rp g X0 a σ r) (hv : Iv σ) (hf : Fr X0 q) (k9 n9 : Nat) (hk9 : k9 ≤ 600074 ∧ n9 ≤ 7301550) (kx : ∀ (Y : va_W) (f : Nat → Option Nat), Cx mc (gx g Y) cL_law RL 15 (some .boolean) → Sb X0 Y → Fa g Y q σ f (σ.1 0) → J mc (gx g Y) k9 n9 Q 728 [(0, .ref (gb g)), (1, .ref (gd g (0))), (2, .ref a), (3, vI (t)), (4, .int (x)), (5, vI (σ.1 0)), (6, .ref q)] [] σ) : ∀ (d : Nat) (l : Int) (X : va_W) (f : Nat → Option Nat) (k : Nat) (n : Nat), (Cx mc (gx g X) cL_law RL 15 (some .boolean)) → (Sb X0 X) → (Fa g X q σ f l) → (0 ≤ l) → (l + (d : Int) = σ.1 0) → (k + 17 * d ≤ k9 ∧ n + 272 * d ≤ n9) → J mc (gx g X) k n Q 79 [(7, vI (l)), (0, .ref (gb g)), (1, .ref (gd g (0))), (2, .ref a), (3, vI (t)), (4, .int (x)), (5, vI (σ.1 0)), (6, .ref q)] [] σ := by
  intro d
  induction d with
  | zero =>
    intro l X f k n hC hb hfa h0 hz hkk
    have hI := hv.1
    have hc0 := IC_n hI
    refine j_iload hC dL_law_79 0 rfl ?_
    refine j_iload hC dL_law_81 6 rfl ?_
    refine j_icmp_ge (tgt := 728) hC dL_law_83 (by decide) (by omega) (fun _ => ?_) (fun h => absurd h (by omega))
    refine j_sub [1, 2, 3, 4, 5, 6, 7] rfl ?_
    refine j_widen (k2 := k9) (n2 := n9) (by omega) (by omega) ?_
    exact kx X f hC hb ((show l = σ.1 0 by omega) ▸ hfa)
  | succ d ih =>
    intro l X f k n hC hb hfa h0 hz hkk
    have hI := hv.1
    have hc0 := IC_n hI
    have hl : 0 ≤ l ∧ l < σ.1 0 := by omega
    have hkn := IC_k hI hl
    have hl5 := (IC_l hI hl).2.2
    have hu := Un_of hC
    have hne := Ne3_of hC
    have hne : Ne3 g := hne
    have hmm : cN σ l.toNat * cN σ l.toNat ≤ 16 * 16 := Nat.mul_le_mul (by omega) (by omega)
    refine j_iload hC dL_law_79 0 rfl ?_
    refine j_iload hC dL_law_81 6 rfl ?_
    refine j_icmp_ge (tgt := 728) hC dL_law_83 (by decide) (by omega) (fun h => absurd h (by omega)) (fun _ => ?_)
    refine j_aload_n hC dL_law_86 2 rfl ?_
    refine j_iload hC dL_law_87 0 rfl ?_
    refine j_callV1 (ar := 1) hC hR (c_X3_signsOf (hlJ hC) (gx g X) σ hI l (by omega) ) [] rfl 0 rfl rfl rfl (by decide) (by decide +kernel) rfl wd183 wd184 wd185 wd1 wd186 (by first | decide | omega) (Nat.le_of_ble_eq_true rfl) dL_law_89 ?_
    refine j_istore hC dL_law_92 [(8, vI (σ.1 (2 + l.toNat))), (7, vI (l)), (0, .ref (gb g)), (1, .ref (gd g (0))), (2, .ref a), (3, vI (t)), (4, .int (x)), (5, vI (σ.1 0)), (6, .ref q)] (by decide) rfl ?_
    refine j_iload hC dL_law_94 0 rfl ?_
    refine j_bipush hC dL_law_96 (by decide) ?_
    refine j_icmp_le (tgt := 103) hC dL_law_98 (by decide) (by omega) (fun _ => ?_) (fun h => absurd h (by omega))
    refine j_aload hC dL_law_103 8 rfl ?_
    refine j_iload hC dL_law_105 1 rfl ?_
    refine j_iload hC dL_law_107 0 rfl ?_
    refine j_iload hC dL_law_109 0 rfl ?_
    refine x_mna hC hR (cN σ l.toNat) (cN σ l.toNat) 3 0 rfl rfl (hX_T hC).2.1 (fun _ h => by cases h) hkn.1.symm hkn.1.symm (by omega) (by show cN σ l.toNat * 4 ≤ 536870912; omega) rfl rfl (hrowI (cN σ l.toNat)) (by omega) wd36 wnL83b dL_law_111 (fun v rr Y1 hn hC => ?_)
    refine x_rast hC (hn.2.2.1 _ hfa.1) hn.1 4 3 rfl rfl (hX_T hC).2.2.1 (fun _ h => by cases h) (by omega) dL_law_115 (fun Y2 hw hC => ?_)
    obtain ⟨XB, hb2, hfr, hXB, hqB, hvB, hrw⟩ := mkXB hn hw hfa.1
    have inj := hn.2.2.2.2.2.1
    have hbX : Sb X0 XB := fun p hp => hXB p (hb p hp) (hf p hp)
    have hrB := hr0.sb hbX
    refine j_iconst hC dL_law_116 ?_
    refine j_istore hC dL_law_117 [(9, vI (0)), (8, vI (σ.1 (2 + l.toNat))), (7, vI (l)), (0, .ref (gb g)), (1, .ref (gd g (0))), (2, .ref a), (3, vI (t)), (4, .int (x)), (5, vI (σ.1 0)), (6, .ref q)] (by decide) rfl ?_
    refine j_iconst hC dL_law_119 ?_
    refine j_istore hC dL_law_120 [(10, vI (0)), (9, vI (0)), (8, vI (σ.1 (2 + l.toNat))), (7, vI (l)), (0, .ref (gb g)), (1, .ref (gd g (0))), (2, .ref a), (3, vI (t)), (4, .int (x)), (5, vI (σ.1 0)), (6, .ref q)] (by decide) rfl ?_
    refine j_bipush hC dL_law_122 (by decide) ?_
    refine j_istore hC dL_law_124 [(11, vI (99)), (10, vI (0)), (9, vI (0)), (8, vI (σ.1 (2 + l.toNat))), (7, vI (l)), (0, .ref (gb g)), (1, .ref (gd g (0))), (2, .ref a), (3, vI (t)), (4, .int (x)), (5, vI (σ.1 0)), (6, .ref q)] (by decide) rfl ?_
    refine j_iconst hC dL_law_126 ?_
    refine j_istore hC dL_law_127 [(12, vI (0)), (11, vI (99)), (10, vI (0)), (9, vI (0)), (8, vI (σ.1 (2 + l.toNat))), (7, vI (l)), (0, .ref (gb g)), (1, .ref (gd g (0))), (2, .ref a), (3, vI (t)), (4, .int (x)), (5, vI (σ.1 0)), (6, .ref q)] (by decide) rfl ?_
    refine j_sub [0, 3, 2, 1, 6, 7, 8, 9, 10, 11, 12, 5, 4] rfl ?_
    refine lp_law_j hR t hrB hv l hl hqB (if_pos rfl) hvB hfr inj _ _ (by omega) (cN σ l.toNat) 0 0 0 99 Y2 (fun _ _ => 0) hC hb2 hrw (fun i w i0 w0 w1 h => by omega) (by omega) (by omega) (by omega) ?_
    intro Y F hC hb3 hrows3 hF3
    have hrF : ∀ i : Nat, i < cN σ l.toNat → ∃ f : Int → Int, (rr i, ri g f (cN σ l.toNat)) ∈ Y ∧ ∀ j : Int, 0 ≤ j → j < (cN σ l.toNat : Nat) → f j = dB σ l.toNat i j := fun i hi => ⟨F i, hrows3 i hi, fun j j0 j1 => hF3 i j hi j0 (by omega) j0⟩
    have hFa : Fa g Y q σ (fun j => if j = l.toNat then some v else f j) (l + 1) := ⟨hb3 _ hqB, fun b hb => by
      by_cases e : b = l.toNat
      · exact ⟨v, if_pos e, by rw [e]; exact ⟨rr, hb3 _ hvB, hrF⟩⟩
      · obtain ⟨v9, h1, h2⟩ := hfa.2 b (by omega)
        exact ⟨v9, (if_neg e).trans h1, (Gd.tr h2 hXB hu hne hfa.1).sb hb3⟩⟩
    refine j_iconst hC dL_law_424 ?_
    refine j_istore hC dL_law_425 [(12, vI (0)), (9, vI (skO (alW σ l.toNat) (cN σ l.toNat) (cN σ l.toNat) 0 0)), (10, vI (skO (thW σ l.toNat) (cN σ l.toNat) (cN σ l.toNat) 0 0)), (11, vI (clO (dB σ l.toNat) (cN σ l.toNat) (cN σ l.toNat) 0 99)), (0, .ref (gb g)), (1, .ref (gd g (0))), (2, .ref a), (3, vI (t)), (4, .int (x)), (5, vI (σ.1 0)), (6, .ref q), (7, vI (l)), (8, vI (σ.1 (2 + l.toNat)))] (by decide) rfl ?_
    refine j_sub [0, 4, 5, 6, 7, 8, 9, 10, 11, 12, 1, 2, 3] rfl ?_
    refine lp_law_r hR hC t hv l hl _ _ (by omega) (hb3 _ hqB) (if_pos rfl) (hb3 _ hvB) hrF _ _ _ ?_ (cN σ l.toNat) 0 (by omega) (by omega)
    have hca := caB_w hI hl5
    have hct := ctB_w hI hl5
    have hfw := faB_w hI hl5
    have hsn := sn_0 hI hl5
    refine j_aload_n hC dL_law_547 1 rfl ?_
    refine j_iload hC dL_law_548 7 rfl ?_
    refine j_callV1 (ar := 1) hC hR (c_X3_alikePairs (hlJ hC) (gx g Y) σ hI l (by omega) ) [] rfl 0 rfl rfl rfl (by decide) (by decide +kernel) rfl wd245 wd246 wd247 wd1 wd248 (by first | decide | omega) (Nat.le_of_ble_eq_true rfl) dL_law_550 ?_
    have hq550 : 0 ≤ caB σ l.toNat ∧ caB σ l.toNat ≤ 256 := pOB_rg _ hI (IC_l hI (l := l) (by omega)).2.2
    refine j_iload hC dL_law_553 9 rfl ?_
    refine j_icmp_ne (tgt := 617) hC dL_law_555 (by decide) (by omega) (fun h => absurd h (by omega)) (fun _ => ?_)
    refine j_aload_n hC dL_law_558 1 rfl ?_
    refine j_iload hC dL_law_559 7 rfl ?_
    refine j_callV1 (ar := 1) hC hR (c_X3_thumbPairs (hlJ hC) (gx g Y) σ hI l (by omega) ) [] rfl 0 rfl rfl rfl (by decide) (by decide +kernel) rfl wd260 wd261 wd262 wd1 wd263 (by first | decide | omega) (Nat.le_of_ble_eq_true rfl) dL_law_561 ?_
    have hq561 : 0 ≤ ctB σ l.toNat ∧ ctB σ l.toNat ≤ 256 := pOB_rg _ hI (IC_l hI (l := l) (by omega)).2.2
    refine j_iload hC dL_law_564 10 rfl ?_
    refine j_icmp_ne (tgt := 617) hC dL_law_566 (by decide) (by omega) (fun h => absurd h (by omega)) (fun _ => ?_)
    refine j_aload_n hC dL_law_569 1 rfl ?_
    refine j_iload hC dL_law_570 7 rfl ?_
    refine j_callV1 (ar := 1) hC hR (c_X3_closest (hlJ hC) (gx g Y) σ hI l (by omega) ) [] rfl 0 rfl rfl rfl (by decide) (by decide +kernel) rfl wd270 wd271 wd272 wd1 wd273 (by first | decide | omega) (Nat.le_of_ble_eq_true rfl) dL_law_572 ?_
    have hq572 := faB_rg hI (IC_l hI (l := l) (by omega)).2.2
    refine j_iload hC dL_law_575 8 rfl ?_
    refine j_iconst hC dL_law_577 ?_
    suffices K587 : J mc (gx g Y) _ _ Q 587 [(0, .ref (gb g)), (1, .ref (gd g (0))), (2, .ref a), (3, vI (t)), (4, .int (x)), (5, vI (σ.1 0)), (6, .ref q), (7, vI (l)), (8, vI (σ.1 (2 + l.toNat))), (9, vI (skO (alW σ l.toNat) (cN σ l.toNat) (cN σ l.toNat) 0 0)), (10, vI (skO (thW σ l.toNat) (cN σ l.toNat) (cN σ l.toNat) 0 0)), (11, vI (clO (dB σ l.toNat) (cN σ l.toNat) (cN σ l.toNat) 0 99))] [vI ((if σ.1 (2 + l.toNat) < 2 then 0 else clO (dB σ l.toNat) (cN σ l.toNat) (cN σ l.toNat) 0 99)), vI (faB σ l.toNat)] σ by
      refine j_icmp_ge (tgt := 585) hC dL_law_578 (by decide) (by omega) (fun h578 => ?_) (fun h578 => ?_)
      · refine j_iload hC dL_law_585 11 rfl ?_
        exact (by first | (rw [show ((if σ.1 (2 + l.toNat) < 2 then 0 else clO (dB σ l.toNat) (cN σ l.toNat) (cN σ l.toNat) 0 99) : Int) = 0 from if_pos (by omega)] at K587; exact K587) | (rw [show ((if σ.1 (2 + l.toNat) < 2 then 0 else clO (dB σ l.toNat) (cN σ l.toNat) (cN σ l.toNat) 0 99) : Int) = 0 from if_pos (by omega)] at K587 ⊢; exact K587) | (rw [show ((if σ.1 (2 + l.toNat) < 2 then 0 else clO (dB σ l.toNat) (cN σ l.toNat) (cN σ l.toNat) 0 99) : Int) = clO (dB σ l.toNat) (cN σ l.toNat) (cN σ l.toNat) 0 99 from if_neg (by omega)] at K587; exact K587) | (rw [show ((if σ.1 (2 + l.toNat) < 2 then 0 else clO (dB σ l.toNat) (cN σ l.toNat) (cN σ l.toNat) 0 99) : Int) = clO (dB σ l.toNat) (cN σ l.toNat) (cN σ l.toNat) 0 99 from if_neg (by omega)] at K587 ⊢; exact K587))
      · refine j_iconst hC dL_law_581 ?_
        refine j_goto (tgt := 587) hC dL_law_582 (by decide) ?_
        exact (by first | (rw [show ((if σ.1 (2 + l.toNat) < 2 then 0 else clO (dB σ l.toNat) (cN σ l.toNat) (cN σ l.toNat) 0 99) : Int) = 0 from if_pos (by omega)] at K587; exact K587) | (rw [show ((if σ.1 (2 + l.toNat) < 2 then 0 else clO (dB σ l.toNat) (cN σ l.toNat) (cN σ l.toNat) 0 99) : Int) = 0 from if_pos (by omega)] at K587 ⊢; exact K587) | (rw [show ((if σ.1 (2 + l.toNat) < 2 then 0 else clO (dB σ l.toNat) (cN σ l.toNat) (cN σ l.toNat) 0 99) : Int) = clO (dB σ l.toNat) (cN σ l.toNat) (cN σ l.toNat) 0 99 from if_neg (by omega)] at K587; exact K587) | (rw [show ((if σ.1 (2 + l.toNat) < 2 then 0 else clO (dB σ l.toNat) (cN σ l.toNat) (cN σ l.toNat) 0 99) : Int) = clO (dB σ l.toNat) (cN σ l.toNat) (cN σ l.toNat) 0 99 from if_neg (by omega)] at K587 ⊢; exact K587))
    refine j_icmp_ne (tgt := 617) hC dL_law_587 (by decide) (by omega) (fun h => absurd h (by omega)) (fun _ => ?_)
    refine j_aload_n hC dL_law_590 1 rfl ?_
    refine j_iload hC dL_law_591 7 rfl ?_
    refine j_callV1 (ar := 1) hC hR (c_X3_mostMistaken (hlJ hC) (gx g Y) σ hI l (by omega) ) [] rfl 0 rfl rfl rfl (by decide) (by decide +kernel) rfl wd285 wd286 wd287 wd1 wd288 (by first | decide | omega) (Nat.le_of_ble_eq_true rfl) dL_law_593 ?_
    have hq593 := snB_rg hI (IC_l hI (l := l) (by omega)).2.2
    suffices K604 : J mc (gx g Y) _ _ Q 604 [(0, .ref (gb g)), (1, .ref (gd g (0))), (2, .ref a), (3, vI (t)), (4, .int (x)), (5, vI (σ.1 0)), (6, .ref q), (7, vI (l)), (8, vI (σ.1 (2 + l.toNat))), (9, vI (skO (alW σ l.toNat) (cN σ l.toNat) (cN σ l.toNat) 0 0)), (10, vI (skO (thW σ l.toNat) (cN σ l.toNat) (cN σ l.toNat) 0 0)), (11, vI (clO (dB σ l.toNat) (cN σ l.toNat) (cN σ l.toNat) 0 99))] [vI ((if snB σ l.toNat < 0 then 1 else 0))] σ by
      refine j_if_ge (tgt := 603) hC dL_law_596 (by decide) (by omega) (fun h596 => ?_) (fun h596 => ?_)
      · refine j_iconst hC dL_law_603 ?_
        exact (by first | (rw [show ((if snB σ l.toNat < 0 then 1 else 0) : Int) = 1 from if_pos (by omega)] at K604; exact K604) | (rw [show ((if snB σ l.toNat < 0 then 1 else 0) : Int) = 1 from if_pos (by omega)] at K604 ⊢; exact K604) | (rw [show ((if snB σ l.toNat < 0 then 1 else 0) : Int) = 0 from if_neg (by omega)] at K604; exact K604) | (rw [show ((if snB σ l.toNat < 0 then 1 else 0) : Int) = 0 from if_neg (by omega)] at K604 ⊢; exact K604))
      · refine j_iconst hC dL_law_599 ?_
        refine j_goto (tgt := 604) hC dL_law_600 (by decide) ?_
        exact (by first | (rw [show ((if snB σ l.toNat < 0 then 1 else 0) : Int) = 1 from if_pos (by omega)] at K604; exact K604) | (rw [show ((if snB σ l.toNat < 0 then 1 else 0) : Int) = 1 from if_pos (by omega)] at K604 ⊢; exact K604) | (rw [show ((if snB σ l.toNat < 0 then 1 else 0) : Int) = 0 from if_neg (by omega)] at K604; exact K604) | (rw [show ((if snB σ l.toNat < 0 then 1 else 0) : Int) = 0 from if_neg (by omega)] at K604 ⊢; exact K604))
    refine j_iload hC dL_law_604 8 rfl ?_
    suffices K614 : J mc (gx g Y) _ _ Q 614 [(0, .ref (gb g)), (1, .ref (gd g (0))), (2, .ref a), (3, vI (t)), (4, .int (x)), (5, vI (σ.1 0)), (6, .ref q), (7, vI (l)), (8, vI (σ.1 (2 + l.toNat))), (9, vI (skO (alW σ l.toNat) (cN σ l.toNat) (cN σ l.toNat) 0 0)), (10, vI (skO (thW σ l.toNat) (cN σ l.toNat) (cN σ l.toNat) 0 0)), (11, vI (clO (dB σ l.toNat) (cN σ l.toNat) (cN σ l.toNat) 0 99))] [vI ((if σ.1 (2 + l.toNat) = 0 then 1 else 0)), vI ((if snB σ l.toNat < 0 then 1 else 0))] σ by
      refine j_if_ne (tgt := 613) hC dL_law_606 (by decide) (by omega) (fun h606 => ?_) (fun h606 => ?_)
      · refine j_iconst hC dL_law_613 ?_
        exact (by first | (rw [show ((if σ.1 (2 + l.toNat) = 0 then 1 else 0) : Int) = 1 from if_pos (by omega)] at K614; exact K614) | (rw [show ((if σ.1 (2 + l.toNat) = 0 then 1 else 0) : Int) = 1 from if_pos (by omega)] at K614 ⊢; exact K614) | (rw [show ((if σ.1 (2 + l.toNat) = 0 then 1 else 0) : Int) = 0 from if_neg (by omega)] at K614; exact K614) | (rw [show ((if σ.1 (2 + l.toNat) = 0 then 1 else 0) : Int) = 0 from if_neg (by omega)] at K614 ⊢; exact K614))
      · refine j_iconst hC dL_law_609 ?_
        refine j_goto (tgt := 614) hC dL_law_610 (by decide) ?_
        exact (by first | (rw [show ((if σ.1 (2 + l.toNat) = 0 then 1 else 0) : Int) = 1 from if_pos (by omega)] at K614; exact K614) | (rw [show ((if σ.1 (2 + l.toNat) = 0 then 1 else 0) : Int) = 1 from if_pos (by omega)] at K614 ⊢; exact K614) | (rw [show ((if σ.1 (2 + l.toNat) = 0 then 1 else 0) : Int) = 0 from if_neg (by omega)] at K614; exact K614) | (rw [show ((if σ.1 (2 + l.toNat) = 0 then 1 else 0) : Int) = 0 from if_neg (by omega)] at K614 ⊢; exact K614))
    refine j_icmp_eq (tgt := 619) hC dL_law_614 (by decide) (by omega) (fun _ => ?_) (fun h => absurd h (by omega))
    refine j_iconst hC dL_law_619 ?_
    refine j_istore hC dL_law_620 [(12, vI (0)), (0, .ref (gb g)), (1, .ref (gd g (0))), (2, .ref a), (3, vI (t)), (4, .int (x)), (5, vI (σ.1 0)), (6, .ref q), (7, vI (l)), (8, vI (σ.1 (2 + l.toNat))), (9, vI (skO (alW σ l.toNat) (cN σ l.toNat) (cN σ l.toNat) 0 0)), (10, vI (skO (thW σ l.toNat) (cN σ l.toNat) (cN σ l.toNat) 0 0)), (11, vI (clO (dB σ l.toNat) (cN σ l.toNat) (cN σ l.toNat) 0 99))] (by decide) rfl ?_
    refine j_sub [0, 1, 2, 3, 4, 5, 6, 7, 8, 9] rfl ?_
    refine lp_law_m hR hC t hv l hl _ _ (by omega) ?_ (nLo σ) 0 (by omega) (by omega)
    refine j_iinc hC dL_law_722 7 [(7, vI (l + 1)), (0, .ref (gb g)), (1, .ref (gd g (0))), (2, .ref a), (3, vI (t)), (4, .int (x)), (5, vI (σ.1 0)), (6, .ref q), (8, vI (σ.1 (2 + l.toNat)))] rfl (by decide) rfl ?_
    refine j_goto (tgt := 79) hC dL_law_725 (by decide) ?_
    refine j_sub [0, 1, 2, 3, 4, 5, 6, 7] rfl ?_
    refine j_widen (k2 := k + 17) (n2 := n + 272) (by omega) (by omega) ?_
    exact ih (l + 1) Y _ _ _ hC (hbX.tr hb3) hFa (by omega) (by omega) (by omega)
set_option maxHeartbeats 4000000 in
set_option maxRecDepth 100000 in
theorem lp_law_a {mc : MC} {g : GG} {Q : State → Prop} (hR : mR mc = rmJ 12 466 600074 7301550) {X : va_W} {σ : Sg} {a : Nat} (hC : Cx mc (gx g X) cL_law RL 15 (some .boolean)) (t : Int) (hv : Iv σ) (b c : Int) (hv2 : Iv (unP σ b c)) (k n : Nat) (hkn9 : k ≤ 600074 ∧ n ≤ 7301550) (l : Int) (hl : 0 ≤ l ∧ l < σ.1 0) {q v : Nat} {rr : Nat → Nat} {f : Nat → Option Nat} (hq : (q, rq (gU g) (nLo σ) f) ∈ X) (hfl : f l.toNat = some v) (hgv : (v, rq (gY g) (cN σ l.toNat) (fun i => if i < cN σ l.toNat then some (rr i) else none)) ∈ X) (hrows : ∀ i : Nat, i < cN σ l.toNat → ∃ f : Int → Int, (rr i, ri g f (cN σ l.toNat)) ∈ X ∧ ∀ j : Int, 0 ≤ j → j < (cN σ l.toNat : Nat) → f j = dB σ l.toNat i j) (j : Int) (hj : 0 ≤ j ∧ j < σ.1 (2 + l.toNat)) (kx : J mc (gx g X) k n Q 873 [(10, vI (j)), (9, vI (l)), (0, .ref (gb g)), (1, .ref (gd g (0))), (2, .ref a), (3, vI (t)), (5, vI (σ.1 0)), (6, .ref q)] [] (unP σ b c)) : ∀ (d : Nat) (w : Int), (0 ≤ w) → (w + (d : Int) = σ.1 (2 + l.toNat)) → J mc (gx g X) k n Q 830 [(11, vI (w)), (10, vI (j)), (9, vI (l)), (0, .ref (gb g)), (1, .ref (gd g (0))), (2, .ref a), (3, vI (t)), (5, vI (σ.1 0)), (6, .ref q)] [] (unP σ b c) := by
  intro d
  induction d with
  | zero =>
    intro w h0 hz
    have hIs := hv.1
    have hI := hv2.1
    have hc0 := IC_n hIs
    have e0 : (unP σ b c).1 0 = σ.1 0 := by rw [un_1, if_neg (by omega)]
    have hkn := IC_k hIs hl
    have e1 : (unP σ b c).1 (2 + l.toNat) = σ.1 (2 + l.toNat) := by rw [un_1, if_neg (by omega)]
    refine j_iload hC dL_law_830 0 rfl ?_
    refine j_aload hC dL_law_832 8 rfl ?_
    refine j_iload hC dL_law_834 2 rfl ?_
    refine x_rald hC hq 4 rfl rfl hfl (by omega) dL_law_836 ?_
    refine x_alen (z := σ.1 (2 + l.toNat)) hC hgv 3 rfl hkn.1 dL_law_837 ?_
    refine j_icmp_ge (tgt := 873) hC dL_law_838 (by decide) (by omega) (fun _ => ?_) (fun h => absurd h (by omega))
    refine j_sub [1, 2, 3, 4, 5, 6, 7, 8] rfl ?_
    exact kx
  | succ d ih =>
    intro w h0 hz
    have hIs := hv.1
    have hI := hv2.1
    have hc0 := IC_n hIs
    have e0 : (unP σ b c).1 0 = σ.1 0 := by rw [un_1, if_neg (by omega)]
    have hkn := IC_k hIs hl
    have e1 : (unP σ b c).1 (2 + l.toNat) = σ.1 (2 + l.toNat) := by rw [un_1, if_neg (by omega)]
    have hsj := IC_s hIs hl (z := j) (by omega)
    have hsw := IC_s hIs hl (z := w) (by omega)
    have huj : (unP σ b c).2 (1 + l.toNat) j = σ.2 (1 + l.toNat) j := by rw [un_lk]
    have huw : (unP σ b c).2 (1 + l.toNat) w = σ.2 (1 + l.toNat) w := by rw [un_lk]
    have hdjw := dst_rg (G := σ.2 0) (x := σ.2 (1 + l.toNat) j) (y := σ.2 (1 + l.toNat) w) (by omega)
    have hdu : dst ((unP σ b c).2 0) ((unP σ b c).2 (1 + l.toNat) j) ((unP σ b c).2 (1 + l.toNat) w) ≤ dst (σ.2 0) (σ.2 (1 + l.toNat) j) (σ.2 (1 + l.toNat) w) := by rw [huj, huw]; exact dst_un σ (by omega)
    refine j_iload hC dL_law_830 0 rfl ?_
    refine j_aload hC dL_law_832 8 rfl ?_
    refine j_iload hC dL_law_834 2 rfl ?_
    refine x_rald hC hq 4 rfl rfl hfl (by omega) dL_law_836 ?_
    refine x_alen (z := σ.1 (2 + l.toNat)) hC hgv 3 rfl hkn.1 dL_law_837 ?_
    refine j_icmp_ge (tgt := 873) hC dL_law_838 (by decide) (by omega) (fun h => absurd h (by omega)) (fun _ => ?_)
    refine j_aload_n hC dL_law_841 4 rfl ?_
    refine j_iload hC dL_law_842 2 rfl ?_
    refine j_iload hC dL_law_844 1 rfl ?_
    refine j_iload hC dL_law_846 0 rfl ?_
    refine j_callV1 (ar := 3) hC hR (c_X3_apart (hlJ hC) (gx g X) (unP σ b c) hI l j w (by omega) (by omega) (by omega) ) [] rfl 0 rfl rfl rfl (by decide) (by decide +kernel) rfl wd220 wd221 wd222 wd1 wd223 (by first | decide | omega) (Nat.le_of_ble_eq_true rfl) dL_law_848 ?_
    have hd848 := dst_rg (G := (unP σ b c).2 0) (x := (unP σ b c).2 (1 + l.toNat) j) (y := (unP σ b c).2 (1 + l.toNat) w) (by omega)
    refine j_aload hC dL_law_851 8 rfl ?_
    refine j_iload hC dL_law_853 2 rfl ?_
    refine x_rald hC hq 4 rfl rfl hfl (by omega) dL_law_855 ?_
    refine j_iload hC dL_law_856 1 rfl ?_
    refine x_rald hC hgv 3 rfl rfl (if_pos (by omega)) (by omega) dL_law_858 ?_
    refine j_iload hC dL_law_859 0 rfl ?_
    refine f_val hC hrows (j := j) (by omega) (by omega) (by omega) dL_law_861 ?_
    refine j_icmp_le (tgt := 867) hC dL_law_862 (by decide) (by omega) (fun _ => ?_) (fun h => absurd h (by omega))
    refine j_iinc hC dL_law_867 0 [(11, vI (w + 1)), (10, vI (j)), (9, vI (l)), (0, .ref (gb g)), (1, .ref (gd g (0))), (2, .ref a), (3, vI (t)), (5, vI (σ.1 0)), (6, .ref q)] rfl (by decide) rfl ?_
    refine j_goto (tgt := 830) hC dL_law_870 (by decide) ?_
    exact ih (w + 1) (by omega) (by omega)
set_option maxHeartbeats 4000000 in
set_option maxRecDepth 100000 in
theorem lp_law_b {mc : MC} {g : GG} {Q : State → Prop} (hR : mR mc = rmJ 12 466 600074 7301550) {X : va_W} {σ : Sg} {a : Nat} (hC : Cx mc (gx g X) cL_law RL 15 (some .boolean)) (t : Int) (hv : Iv σ) (b c : Int) (hv2 : Iv (unP σ b c)) (k n : Nat) (hkn9 : k ≤ 600074 ∧ n ≤ 7301550) (l : Int) (hl : 0 ≤ l ∧ l < σ.1 0) {q v : Nat} {rr : Nat → Nat} {f : Nat → Option Nat} (hq : (q, rq (gU g) (nLo σ) f) ∈ X) (hfl : f l.toNat = some v) (hgv : (v, rq (gY g) (cN σ l.toNat) (fun i => if i < cN σ l.toNat then some (rr i) else none)) ∈ X) (hrows : ∀ i : Nat, i < cN σ l.toNat → ∃ f : Int → Int, (rr i, ri g f (cN σ l.toNat)) ∈ X ∧ ∀ j : Int, 0 ≤ j → j < (cN σ l.toNat : Nat) → f j = dB σ l.toNat i j) (kx : J mc (gx g X) k n Q 879 [(9, vI (l)), (0, .ref (gb g)), (1, .ref (gd g (0))), (2, .ref a), (3, vI (t)), (5, vI (σ.1 0)), (6, .ref q)] [] (unP σ b c)) : ∀ (d : Nat) (j : Int), (0 ≤ j) → (j + (d : Int) = σ.1 (2 + l.toNat)) → J mc (gx g X) k n Q 816 [(10, vI (j)), (9, vI (l)), (0, .ref (gb g)), (1, .ref (gd g (0))), (2, .ref a), (3, vI (t)), (5, vI (σ.1 0)), (6, .ref q)] [] (unP σ b c) := by
  intro d
  induction d with
  | zero =>
    intro j h0 hz
    have hIs := hv.1
    have hI := hv2.1
    have hc0 := IC_n hIs
    have e0 : (unP σ b c).1 0 = σ.1 0 := by rw [un_1, if_neg (by omega)]
    have hkn := IC_k hIs hl
    have e1 : (unP σ b c).1 (2 + l.toNat) = σ.1 (2 + l.toNat) := by rw [un_1, if_neg (by omega)]
    refine j_iload hC dL_law_816 0 rfl ?_
    refine j_aload hC dL_law_818 7 rfl ?_
    refine j_iload hC dL_law_820 1 rfl ?_
    refine x_rald hC hq 4 rfl rfl hfl (by omega) dL_law_822 ?_
    refine x_alen (z := σ.1 (2 + l.toNat)) hC hgv 3 rfl hkn.1 dL_law_823 ?_
    refine j_icmp_ge (tgt := 879) hC dL_law_824 (by decide) (by omega) (fun _ => ?_) (fun h => absurd h (by omega))
    refine j_sub [1, 2, 3, 4, 5, 6, 7] rfl ?_
    exact kx
  | succ d ih =>
    intro j h0 hz
    have hIs := hv.1
    have hI := hv2.1
    have hc0 := IC_n hIs
    have e0 : (unP σ b c).1 0 = σ.1 0 := by rw [un_1, if_neg (by omega)]
    have hkn := IC_k hIs hl
    have e1 : (unP σ b c).1 (2 + l.toNat) = σ.1 (2 + l.toNat) := by rw [un_1, if_neg (by omega)]
    refine j_iload hC dL_law_816 0 rfl ?_
    refine j_aload hC dL_law_818 7 rfl ?_
    refine j_iload hC dL_law_820 1 rfl ?_
    refine x_rald hC hq 4 rfl rfl hfl (by omega) dL_law_822 ?_
    refine x_alen (z := σ.1 (2 + l.toNat)) hC hgv 3 rfl hkn.1 dL_law_823 ?_
    refine j_icmp_ge (tgt := 879) hC dL_law_824 (by decide) (by omega) (fun h => absurd h (by omega)) (fun _ => ?_)
    refine j_iconst hC dL_law_827 ?_
    refine j_istore hC dL_law_828 [(11, vI (0)), (10, vI (j)), (9, vI (l)), (0, .ref (gb g)), (1, .ref (gd g (0))), (2, .ref a), (3, vI (t)), (5, vI (σ.1 0)), (6, .ref q)] (by decide) rfl ?_
    refine lp_law_a hR hC t hv b c hv2 _ _ (by omega) l hl hq hfl hgv hrows j (by omega) ?_ (cN σ l.toNat) 0 (by omega) (by omega)
    refine j_iinc hC dL_law_873 0 [(10, vI (j + 1)), (9, vI (l)), (0, .ref (gb g)), (1, .ref (gd g (0))), (2, .ref a), (3, vI (t)), (5, vI (σ.1 0)), (6, .ref q)] rfl (by decide) rfl ?_
    refine j_goto (tgt := 816) hC dL_law_876 (by decide) ?_
    exact ih (j + 1) (by omega) (by omega)
set_option maxHeartbeats 4000000 in
set_option maxRecDepth 100000 in
theorem lp_law_c {mc : MC} {g : GG} {Q : State → Prop} (hR : mR mc = rmJ 12 466 600074 7301550) {X : va_W} {σ : Sg} {a : Nat} (hC : Cx mc (gx g X) cL_law RL 15 (some .boolean)) (t : Int) (hv : Iv σ) (b c : Int) (hv2 : Iv (unP σ b c)) (k n : Nat) (hkn9 : k ≤ 600074 ∧ n ≤ 7301550) {q : Nat} {f : Nat → Option Nat} (hfa : Fa g X q σ f (σ.1 0)) (kx : J mc (gx g X) k n Q 885 [(0, .ref (gb g)), (1, .ref (gd g (0))), (2, .ref a), (3, vI (t)), (5, vI (σ.1 0)), (6, .ref q)] [] (unP σ b c)) : ∀ (d : Nat) (l : Int), (0 ≤ l) → (l + (d : Int) = σ.1 0) → J mc (gx g X) k n Q 806 [(9, vI (l)), (0, .ref (gb g)), (1, .ref (gd g (0))), (2, .ref a), (3, vI (t)), (5, vI (σ.1 0)), (6, .ref q)] [] (unP σ b c) := by
  intro d
  induction d with
  | zero =>
    intro l h0 hz
    have hIs := hv.1
    have hI := hv2.1
    have hc0 := IC_n hIs
    have e0 : (unP σ b c).1 0 = σ.1 0 := by rw [un_1, if_neg (by omega)]
    refine j_iload hC dL_law_806 0 rfl ?_
    refine j_iload hC dL_law_808 5 rfl ?_
    refine j_icmp_ge (tgt := 885) hC dL_law_810 (by decide) (by omega) (fun _ => ?_) (fun h => absurd h (by omega))
    refine j_sub [1, 2, 3, 4, 5, 6] rfl ?_
    exact kx
  | succ d ih =>
    intro l h0 hz
    have hIs := hv.1
    have hI := hv2.1
    have hc0 := IC_n hIs
    have e0 : (unP σ b c).1 0 = σ.1 0 := by rw [un_1, if_neg (by omega)]
    have hl : 0 ≤ l ∧ l < σ.1 0 := by omega
    have hkn := IC_k hIs hl
    have e1 : (unP σ b c).1 (2 + l.toNat) = σ.1 (2 + l.toNat) := by rw [un_1, if_neg (by omega)]
    obtain ⟨v, hfl, rr, hgv, hrows⟩ := hfa.2 l.toNat (by omega)
    refine j_iload hC dL_law_806 0 rfl ?_
    refine j_iload hC dL_law_808 5 rfl ?_
    refine j_icmp_ge (tgt := 885) hC dL_law_810 (by decide) (by omega) (fun h => absurd h (by omega)) (fun _ => ?_)
    refine j_iconst hC dL_law_813 ?_
    refine j_istore hC dL_law_814 [(10, vI (0)), (9, vI (l)), (0, .ref (gb g)), (1, .ref (gd g (0))), (2, .ref a), (3, vI (t)), (5, vI (σ.1 0)), (6, .ref q)] (by decide) rfl ?_
    refine lp_law_b hR hC t hv b c hv2 _ _ (by omega) l hl hfa.1 hfl hgv hrows ?_ (cN σ l.toNat) 0 (by omega) (by omega)
    refine j_iinc hC dL_law_879 0 [(9, vI (l + 1)), (0, .ref (gb g)), (1, .ref (gd g (0))), (2, .ref a), (3, vI (t)), (5, vI (σ.1 0)), (6, .ref q)] rfl (by decide) rfl ?_
    refine j_goto (tgt := 806) hC dL_law_882 (by decide) ?_
    exact ih (l + 1) (by omega) (by omega)
