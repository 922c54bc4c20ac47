theorem dv_e : ∀ x : Fin 65, ∀ y : Fin 5, y.1 = 0 ∨ Op.cmpValue (FP.dcmp (FP.ddiv (FP.i2d (Int32.ofNat x.1)) (FP.i2d (Int32.ofNat y.1))) (FP.ddiv (FP.i2d (Int32.ofNat x.1)) (FP.i2d (Int32.ofNat y.1)))) .l = 0 := by decide +kernel
theorem dv_eq {x y : Int} (hx : 0 ≤ x ∧ x ≤ 64) (hy : 0 < y ∧ y ≤ 4) : Op.cmpValue (FP.dcmp (FP.ddiv (FP.i2d (iI x)) (FP.i2d (iI y))) (FP.ddiv (FP.i2d (iI x)) (FP.i2d (iI y)))) .l = 0 := by
  obtain ⟨x, rfl⟩ := Int.eq_ofNat_of_zero_le hx.1
  obtain ⟨y, rfl⟩ := Int.eq_ofNat_of_zero_le (show 0 ≤ y by omega)
  rcases dv_e ⟨x, by omega⟩ ⟨y, by omega⟩ with h | h
  · have : y = 0 := h
    omega
  · rw [iI_nat, iI_nat]
    exact h
set_option maxHeartbeats 4000000 in
set_option maxRecDepth 100000 in
theorem lp_same_k {mc : MC} {g : GG} {X : va_W} {σ : Sg} {Q : State → Prop} {a : Nat} {r : RR} (hr : Rp g X a σ r) (hI : IC σ) (hC : Cx mc (gx g X) cX4_isSame RX4 16 (some .boolean)) (hR : mR mc = rmJ 6 144 0 0) (l al mi mo j : Int) (hl : 0 ≤ l ∧ l < σ.1 0) (hj : 0 ≤ j ∧ j < σ.1 (2 + l.toNat)) : ∀ (d : Nat) (k : Int) (ne : Int) (cl : Int) (th : Int), (0 ≤ k) → (k + (d : Int) = σ.1 (2 + l.toNat)) → (0 ≤ cl ∧ cl ≤ 99) → (J mc (gx g X) 0 0 Q 205 [(11, vI (skF (fun k => if dB σ l.toNat j k < 4 then 1 else 0) j d k ne)), (7, vI (nbF (dB σ l.toNat j) j d k cl)), (6, vI (skF (thW σ l.toNat j) j d k th)), (0, .ref a), (1, .ref (gd g (0))), (2, vI (σ.1 0)), (3, vI (al)), (4, vI (l)), (5, .ref (rL r l.toNat)), (8, vI (mi)), (9, vI (mo)), (10, vI (j))] [] σ) → J mc (gx g X) 0 0 Q 83 [(12, vI (k)), (11, vI (ne)), (7, vI (cl)), (6, vI (th)), (0, .ref a), (1, .ref (gd g (0))), (2, vI (σ.1 0)), (3, vI (al)), (4, vI (l)), (5, .ref (rL r l.toNat)), (8, vI (mi)), (9, vI (mo)), (10, vI (j))] [] σ := by
  intro d
  induction d with
  | zero =>
    intro k ne cl th h0 hz hcl kx
    have hkn := IC_k hI hl
    have hc0 := IC_n hI
    refine j_iload hC dX4_isSame_83 0 rfl ?_
    refine j_aload hC dX4_isSame_85 9 rfl ?_
    refine r_llen hC hr hI (by omega) dX4_isSame_87 ?_
    refine j_icmp_ge (tgt := 205) hC dX4_isSame_88 (by decide) (by omega) (fun _ => ?_) (fun h => absurd h (by omega))
    refine j_sub [1, 2, 3, 4, 5, 6, 7, 8, 9, 10, 11, 12] rfl ?_
    exact kx
  | succ d ih =>
    intro k ne cl th h0 hz hcl kx
    have hkn := IC_k hI hl
    have hc0 := IC_n hI
    have hs := IC_s hI hl (z := j) (by omega)
    have hs2 := IC_s hI hl (z := k) (by omega)
    rw [show skF (fun k => if dB σ l.toNat j k < 4 then 1 else 0) j (d + 1) k ne = skF (fun k => if dB σ l.toNat j k < 4 then 1 else 0) j d (k + 1) (if k = j then ne else ne + (if dst (σ.2 0) (σ.2 (1 + l.toNat) j) (σ.2 (1 + l.toNat) k) < 4 then 1 else 0)) from rfl, show nbF (dB σ l.toNat j) j (d + 1) k cl = nbF (dB σ l.toNat j) j d (k + 1) (if k = j then cl else if cl ≤ dst (σ.2 0) (σ.2 (1 + l.toNat) j) (σ.2 (1 + l.toNat) k) then cl else dst (σ.2 0) (σ.2 (1 + l.toNat) j) (σ.2 (1 + l.toNat) k)) from rfl, show skF (thW σ l.toNat j) j (d + 1) k th = skF (thW σ l.toNat j) j d (k + 1) (if k = j then th else th + (if k < j ∧ dst (σ.2 0) (σ.2 (1 + l.toNat) j) (σ.2 (1 + l.toNat) k) = 1 ∧ σ.2 (1 + l.toNat) j / 16 % 4 ≠ σ.2 (1 + l.toNat) k / 16 % 4 then 1 else 0)) from rfl] at kx
    refine j_iload hC dX4_isSame_83 0 rfl ?_
    refine j_aload hC dX4_isSame_85 9 rfl ?_
    refine r_llen hC hr hI (by omega) dX4_isSame_87 ?_
    refine j_icmp_ge (tgt := 205) hC dX4_isSame_88 (by decide) (by omega) (fun h => absurd h (by omega)) (fun _ => ?_)
    refine j_aload_n hC dX4_isSame_91 4 rfl ?_
    refine j_aload hC dX4_isSame_92 9 rfl ?_
    refine j_iload hC dX4_isSame_94 12 rfl ?_
    refine r_sign hC hr hI (by omega) (by omega) dX4_isSame_96 ?_
    refine j_aload hC dX4_isSame_97 9 rfl ?_
    refine j_iload hC dX4_isSame_99 0 rfl ?_
    refine r_sign hC hr hI (by omega) (by omega) dX4_isSame_101 ?_
    refine x_callV1 (ar := 2) hC hR (c_X4_far (hlJ hC) g X σ hr hI (Rp.sn hr hI (l := l) (z := j) (by omega) (by omega)) (Rp.sn hr hI (l := l) (z := k) (by omega) (by omega)) (by omega)) [] rfl hr.1 rfl rfl (by decide) (by decide +kernel) rfl wd348 wd349 wd350 wd4 wd351 (by first | decide | omega) (Nat.le_of_ble_eq_true rfl) dX4_isSame_102 ?_
    have hd102 := dst_rg (G := σ.2 0) (x := σ.2 (1 + l.toNat) j) (y := σ.2 (1 + l.toNat) k) (by omega)
    refine j_istore hC dX4_isSame_105 [(13, vI (dst (σ.2 0) (σ.2 (1 + l.toNat) j) (σ.2 (1 + l.toNat) k))), (12, vI (k)), (11, vI (ne)), (7, vI (cl)), (6, vI (th)), (0, .ref a), (1, .ref (gd g (0))), (2, vI (σ.1 0)), (3, vI (al)), (4, vI (l)), (5, .ref (rL r l.toNat)), (8, vI (mi)), (9, vI (mo)), (10, vI (j))] (by decide) rfl ?_
    refine j_aload_n hC dX4_isSame_107 6 rfl ?_
    refine j_iload hC dX4_isSame_108 9 rfl ?_
    refine j_iload hC dX4_isSame_110 13 rfl ?_
    refine j_iload hC dX4_isSame_112 1 rfl ?_
    refine j_callV1 (ar := 3) hC hR (c_X3_apart (hlJ hC) (gx g X) σ hI l j k (by omega) (by omega) (by omega) ) [] rfl 0 rfl rfl rfl (by decide) (by decide +kernel) rfl wd357 wd221 wd222 wd1 wd223 (by first | decide | omega) (Nat.le_of_ble_eq_true rfl) dX4_isSame_114 ?_
    have hd114 := dst_rg (G := σ.2 0) (x := σ.2 (1 + l.toNat) j) (y := σ.2 (1 + l.toNat) k) (by omega)
    refine j_iload hC dX4_isSame_117 0 rfl ?_
    refine j_icmp_eq (tgt := 124) hC dX4_isSame_119 (by decide) (by omega) (fun _ => ?_) (fun h => absurd h (by omega))
    refine j_iload hC dX4_isSame_124 1 rfl ?_
    refine j_iload hC dX4_isSame_126 13 rfl ?_
    refine j_icmp_ne (tgt := 134) hC dX4_isSame_128 (by decide) (by omega) (fun h128 => ?_) (fun h128 => ?_)
    · refine j_iload hC dX4_isSame_134 2 rfl ?_
      refine j_iload hC dX4_isSame_136 0 rfl ?_
      refine j_iconst hC dX4_isSame_138 ?_
      suffices K147 : J mc (gx g X) 0 0 Q 147 [(13, vI (dst (σ.2 0) (σ.2 (1 + l.toNat) j) (σ.2 (1 + l.toNat) k))), (12, vI (k)), (11, vI (ne)), (7, vI (cl)), (6, vI (th)), (0, .ref a), (1, .ref (gd g (0))), (2, vI (σ.1 0)), (3, vI (al)), (4, vI (l)), (5, .ref (rL r l.toNat)), (8, vI (mi)), (9, vI (mo)), (10, vI (j))] [vI ((if dst (σ.2 0) (σ.2 (1 + l.toNat) j) (σ.2 (1 + l.toNat) k) < 4 then 1 else 0)), vI (ne)] σ by
        refine j_icmp_ge (tgt := 146) hC dX4_isSame_139 (by decide) (by omega) (fun h139 => ?_) (fun h139 => ?_)
        · refine j_iconst hC dX4_isSame_146 ?_
          exact (by first | (rw [show ((if dst (σ.2 0) (σ.2 (1 + l.toNat) j) (σ.2 (1 + l.toNat) k) < 4 then 1 else 0) : Int) = 1 from if_pos (by omega)] at K147; exact K147) | (rw [show ((if dst (σ.2 0) (σ.2 (1 + l.toNat) j) (σ.2 (1 + l.toNat) k) < 4 then 1 else 0) : Int) = 1 from if_pos (by omega)] at K147 ⊢; exact K147) | (rw [show ((if dst (σ.2 0) (σ.2 (1 + l.toNat) j) (σ.2 (1 + l.toNat) k) < 4 then 1 else 0) : Int) = 0 from if_neg (by omega)] at K147; exact K147) | (rw [show ((if dst (σ.2 0) (σ.2 (1 + l.toNat) j) (σ.2 (1 + l.toNat) k) < 4 then 1 else 0) : Int) = 0 from if_neg (by omega)] at K147 ⊢; exact K147))
        · refine j_iconst hC dX4_isSame_142 ?_
          refine j_goto (tgt := 147) hC dX4_isSame_143 (by decide) ?_
          exact (by first | (rw [show ((if dst (σ.2 0) (σ.2 (1 + l.toNat) j) (σ.2 (1 + l.toNat) k) < 4 then 1 else 0) : Int) = 1 from if_pos (by omega)] at K147; exact K147) | (rw [show ((if dst (σ.2 0) (σ.2 (1 + l.toNat) j) (σ.2 (1 + l.toNat) k) < 4 then 1 else 0) : Int) = 1 from if_pos (by omega)] at K147 ⊢; exact K147) | (rw [show ((if dst (σ.2 0) (σ.2 (1 + l.toNat) j) (σ.2 (1 + l.toNat) k) < 4 then 1 else 0) : Int) = 0 from if_neg (by omega)] at K147; exact K147) | (rw [show ((if dst (σ.2 0) (σ.2 (1 + l.toNat) j) (σ.2 (1 + l.toNat) k) < 4 then 1 else 0) : Int) = 0 from if_neg (by omega)] at K147 ⊢; exact K147))
      refine j_iadd hC dX4_isSame_147 ?_
      refine j_istore hC dX4_isSame_148 [(11, vI (ne + (if dst (σ.2 0) (σ.2 (1 + l.toNat) j) (σ.2 (1 + l.toNat) k) < 4 then 1 else 0))), (13, vI (dst (σ.2 0) (σ.2 (1 + l.toNat) j) (σ.2 (1 + l.toNat) k))), (12, vI (k)), (7, vI (cl)), (6, vI (th)), (0, .ref a), (1, .ref (gd g (0))), (2, vI (σ.1 0)), (3, vI (al)), (4, vI (l)), (5, .ref (rL r l.toNat)), (8, vI (mi)), (9, vI (mo)), (10, vI (j))] (by decide) rfl ?_
      refine j_iload hC dX4_isSame_150 3 rfl ?_
      refine j_iload hC dX4_isSame_152 1 rfl ?_
      refine j_min hC hR wd358 ⟨by decide, Nat.le_of_ble_eq_true rfl⟩ (by first | decide | omega) (by omega) dX4_isSame_154 ?_
      refine j_istore hC dX4_isSame_157 [(7, vI (if cl ≤ dst (σ.2 0) (σ.2 (1 + l.toNat) j) (σ.2 (1 + l.toNat) k) then cl else dst (σ.2 0) (σ.2 (1 + l.toNat) j) (σ.2 (1 + l.toNat) k))), (11, vI (ne + (if dst (σ.2 0) (σ.2 (1 + l.toNat) j) (σ.2 (1 + l.toNat) k) < 4 then 1 else 0))), (13, vI (dst (σ.2 0) (σ.2 (1 + l.toNat) j) (σ.2 (1 + l.toNat) k))), (12, vI (k)), (6, vI (th)), (0, .ref a), (1, .ref (gd g (0))), (2, vI (σ.1 0)), (3, vI (al)), (4, vI (l)), (5, .ref (rL r l.toNat)), (8, vI (mi)), (9, vI (mo)), (10, vI (j))] (by decide) rfl ?_
      refine j_iload hC dX4_isSame_159 4 rfl ?_
      refine j_iload hC dX4_isSame_161 3 rfl ?_
      refine j_iload hC dX4_isSame_163 13 rfl ?_
      suffices K196 : J mc (gx g X) 0 0 Q 196 [(7, vI (if cl ≤ dst (σ.2 0) (σ.2 (1 + l.toNat) j) (σ.2 (1 + l.toNat) k) then cl else dst (σ.2 0) (σ.2 (1 + l.toNat) j) (σ.2 (1 + l.toNat) k))), (11, vI (ne + (if dst (σ.2 0) (σ.2 (1 + l.toNat) j) (σ.2 (1 + l.toNat) k) < 4 then 1 else 0))), (13, vI (dst (σ.2 0) (σ.2 (1 + l.toNat) j) (σ.2 (1 + l.toNat) k))), (12, vI (k)), (6, vI (th)), (0, .ref a), (1, .ref (gd g (0))), (2, vI (σ.1 0)), (3, vI (al)), (4, vI (l)), (5, .ref (rL r l.toNat)), (8, vI (mi)), (9, vI (mo)), (10, vI (j))] [vI ((if k < j ∧ dst (σ.2 0) (σ.2 (1 + l.toNat) j) (σ.2 (1 + l.toNat) k) = 1 ∧ σ.2 (1 + l.toNat) j / 16 % 4 ≠ σ.2 (1 + l.toNat) k / 16 % 4 then 1 else 0)), vI (th)] σ by
        refine j_icmp_ge (tgt := 195) hC dX4_isSame_165 (by decide) (by omega) (fun h165 => ?_) (fun h165 => ?_)
        · refine j_iconst hC dX4_isSame_195 ?_
          exact (by first | (rw [show ((if k < j ∧ dst (σ.2 0) (σ.2 (1 + l.toNat) j) (σ.2 (1 + l.toNat) k) = 1 ∧ σ.2 (1 + l.toNat) j / 16 % 4 ≠ σ.2 (1 + l.toNat) k / 16 % 4 then 1 else 0) : Int) = 1 from if_pos (by omega)] at K196; exact K196) | (rw [show ((if k < j ∧ dst (σ.2 0) (σ.2 (1 + l.toNat) j) (σ.2 (1 + l.toNat) k) = 1 ∧ σ.2 (1 + l.toNat) j / 16 % 4 ≠ σ.2 (1 + l.toNat) k / 16 % 4 then 1 else 0) : Int) = 1 from if_pos (by omega)] at K196 ⊢; exact K196) | (rw [show ((if k < j ∧ dst (σ.2 0) (σ.2 (1 + l.toNat) j) (σ.2 (1 + l.toNat) k) = 1 ∧ σ.2 (1 + l.toNat) j / 16 % 4 ≠ σ.2 (1 + l.toNat) k / 16 % 4 then 1 else 0) : Int) = 0 from if_neg (by omega)] at K196; exact K196) | (rw [show ((if k < j ∧ dst (σ.2 0) (σ.2 (1 + l.toNat) j) (σ.2 (1 + l.toNat) k) = 1 ∧ σ.2 (1 + l.toNat) j / 16 % 4 ≠ σ.2 (1 + l.toNat) k / 16 % 4 then 1 else 0) : Int) = 0 from if_neg (by omega)] at K196 ⊢; exact K196))
        · refine j_iload hC dX4_isSame_168 2 rfl ?_
          refine j_iconst hC dX4_isSame_170 ?_
          refine j_icmp_ne (tgt := 195) hC dX4_isSame_171 (by decide) (by omega) (fun h171 => ?_) (fun h171 => ?_)
          · refine j_iconst hC dX4_isSame_195 ?_
            exact (by first | (rw [show ((if k < j ∧ dst (σ.2 0) (σ.2 (1 + l.toNat) j) (σ.2 (1 + l.toNat) k) = 1 ∧ σ.2 (1 + l.toNat) j / 16 % 4 ≠ σ.2 (1 + l.toNat) k / 16 % 4 then 1 else 0) : Int) = 1 from if_pos (by omega)] at K196; exact K196) | (rw [show ((if k < j ∧ dst (σ.2 0) (σ.2 (1 + l.toNat) j) (σ.2 (1 + l.toNat) k) = 1 ∧ σ.2 (1 + l.toNat) j / 16 % 4 ≠ σ.2 (1 + l.toNat) k / 16 % 4 then 1 else 0) : Int) = 1 from if_pos (by omega)] at K196 ⊢; exact K196) | (rw [show ((if k < j ∧ dst (σ.2 0) (σ.2 (1 + l.toNat) j) (σ.2 (1 + l.toNat) k) = 1 ∧ σ.2 (1 + l.toNat) j / 16 % 4 ≠ σ.2 (1 + l.toNat) k / 16 % 4 then 1 else 0) : Int) = 0 from if_neg (by omega)] at K196; exact K196) | (rw [show ((if k < j ∧ dst (σ.2 0) (σ.2 (1 + l.toNat) j) (σ.2 (1 + l.toNat) k) = 1 ∧ σ.2 (1 + l.toNat) j / 16 % 4 ≠ σ.2 (1 + l.toNat) k / 16 % 4 then 1 else 0) : Int) = 0 from if_neg (by omega)] at K196 ⊢; exact K196))
          · refine j_aload hC dX4_isSame_174 10 rfl ?_
            refine j_iload hC dX4_isSame_176 13 rfl ?_
            refine r_sign hC hr hI (by omega) (by omega) dX4_isSame_178 ?_
            refine j_iconst hC dX4_isSame_179 ?_
            refine r_num1 hC (Rp.sn hr hI (l := l) (z := j) (by omega) (by omega)) dX4_isSame_180 ?_
            refine j_aload hC dX4_isSame_181 10 rfl ?_
            refine j_iload hC dX4_isSame_183 3 rfl ?_
            refine r_sign hC hr hI (by omega) (by omega) dX4_isSame_185 ?_
            refine j_iconst hC dX4_isSame_186 ?_
            refine r_num1 hC (Rp.sn hr hI (l := l) (z := k) (by omega) (by omega)) dX4_isSame_187 ?_
            refine j_icmp_eq (tgt := 195) hC dX4_isSame_188 (by decide) (by omega) (fun h188 => ?_) (fun h188 => ?_)
            · refine j_iconst hC dX4_isSame_195 ?_
              exact (by first | (rw [show ((if k < j ∧ dst (σ.2 0) (σ.2 (1 + l.toNat) j) (σ.2 (1 + l.toNat) k) = 1 ∧ σ.2 (1 + l.toNat) j / 16 % 4 ≠ σ.2 (1 + l.toNat) k / 16 % 4 then 1 else 0) : Int) = 1 from if_pos (by omega)] at K196; exact K196) | (rw [show ((if k < j ∧ dst (σ.2 0) (σ.2 (1 + l.toNat) j) (σ.2 (1 + l.toNat) k) = 1 ∧ σ.2 (1 + l.toNat) j / 16 % 4 ≠ σ.2 (1 + l.toNat) k / 16 % 4 then 1 else 0) : Int) = 1 from if_pos (by omega)] at K196 ⊢; exact K196) | (rw [show ((if k < j ∧ dst (σ.2 0) (σ.2 (1 + l.toNat) j) (σ.2 (1 + l.toNat) k) = 1 ∧ σ.2 (1 + l.toNat) j / 16 % 4 ≠ σ.2 (1 + l.toNat) k / 16 % 4 then 1 else 0) : Int) = 0 from if_neg (by omega)] at K196; exact K196) | (rw [show ((if k < j ∧ dst (σ.2 0) (σ.2 (1 + l.toNat) j) (σ.2 (1 + l.toNat) k) = 1 ∧ σ.2 (1 + l.toNat) j / 16 % 4 ≠ σ.2 (1 + l.toNat) k / 16 % 4 then 1 else 0) : Int) = 0 from if_neg (by omega)] at K196 ⊢; exact K196))
            · refine j_iconst hC dX4_isSame_191 ?_
              refine j_goto (tgt := 196) hC dX4_isSame_192 (by decide) ?_
              exact (by first | (rw [show ((if k < j ∧ dst (σ.2 0) (σ.2 (1 + l.toNat) j) (σ.2 (1 + l.toNat) k) = 1 ∧ σ.2 (1 + l.toNat) j / 16 % 4 ≠ σ.2 (1 + l.toNat) k / 16 % 4 then 1 else 0) : Int) = 1 from if_pos (by omega)] at K196; exact K196) | (rw [show ((if k < j ∧ dst (σ.2 0) (σ.2 (1 + l.toNat) j) (σ.2 (1 + l.toNat) k) = 1 ∧ σ.2 (1 + l.toNat) j / 16 % 4 ≠ σ.2 (1 + l.toNat) k / 16 % 4 then 1 else 0) : Int) = 1 from if_pos (by omega)] at K196 ⊢; exact K196) | (rw [show ((if k < j ∧ dst (σ.2 0) (σ.2 (1 + l.toNat) j) (σ.2 (1 + l.toNat) k) = 1 ∧ σ.2 (1 + l.toNat) j / 16 % 4 ≠ σ.2 (1 + l.toNat) k / 16 % 4 then 1 else 0) : Int) = 0 from if_neg (by omega)] at K196; exact K196) | (rw [show ((if k < j ∧ dst (σ.2 0) (σ.2 (1 + l.toNat) j) (σ.2 (1 + l.toNat) k) = 1 ∧ σ.2 (1 + l.toNat) j / 16 % 4 ≠ σ.2 (1 + l.toNat) k / 16 % 4 then 1 else 0) : Int) = 0 from if_neg (by omega)] at K196 ⊢; exact K196))
      refine j_iadd hC dX4_isSame_196 ?_
      refine j_istore hC dX4_isSame_197 [(6, vI (th + (if k < j ∧ dst (σ.2 0) (σ.2 (1 + l.toNat) j) (σ.2 (1 + l.toNat) k) = 1 ∧ σ.2 (1 + l.toNat) j / 16 % 4 ≠ σ.2 (1 + l.toNat) k / 16 % 4 then 1 else 0))), (7, vI (if cl ≤ dst (σ.2 0) (σ.2 (1 + l.toNat) j) (σ.2 (1 + l.toNat) k) then cl else dst (σ.2 0) (σ.2 (1 + l.toNat) j) (σ.2 (1 + l.toNat) k))), (11, vI (ne + (if dst (σ.2 0) (σ.2 (1 + l.toNat) j) (σ.2 (1 + l.toNat) k) < 4 then 1 else 0))), (13, vI (dst (σ.2 0) (σ.2 (1 + l.toNat) j) (σ.2 (1 + l.toNat) k))), (12, vI (k)), (0, .ref a), (1, .ref (gd g (0))), (2, vI (σ.1 0)), (3, vI (al)), (4, vI (l)), (5, .ref (rL r l.toNat)), (8, vI (mi)), (9, vI (mo)), (10, vI (j))] (by decide) rfl ?_
      refine j_iinc hC dX4_isSame_199 4 [(12, vI (k + 1)), (6, vI (th + (if k < j ∧ dst (σ.2 0) (σ.2 (1 + l.toNat) j) (σ.2 (1 + l.toNat) k) = 1 ∧ σ.2 (1 + l.toNat) j / 16 % 4 ≠ σ.2 (1 + l.toNat) k / 16 % 4 then 1 else 0))), (7, vI (if cl ≤ dst (σ.2 0) (σ.2 (1 + l.toNat) j) (σ.2 (1 + l.toNat) k) then cl else dst (σ.2 0) (σ.2 (1 + l.toNat) j) (σ.2 (1 + l.toNat) k))), (11, vI (ne + (if dst (σ.2 0) (σ.2 (1 + l.toNat) j) (σ.2 (1 + l.toNat) k) < 4 then 1 else 0))), (13, vI (dst (σ.2 0) (σ.2 (1 + l.toNat) j) (σ.2 (1 + l.toNat) k))), (0, .ref a), (1, .ref (gd g (0))), (2, vI (σ.1 0)), (3, vI (al)), (4, vI (l)), (5, .ref (rL r l.toNat)), (8, vI (mi)), (9, vI (mo)), (10, vI (j))] rfl (by decide) rfl ?_
      refine j_goto (tgt := 83) hC dX4_isSame_202 (by decide) ?_
      refine j_sub [0, 3, 2, 1, 5, 6, 7, 8, 9, 10, 11, 12, 13] rfl ?_
      first | (rw [if_pos h128, if_pos h128, if_pos h128] at kx; exact ih (k + 1) _ _ _ (by omega) (by omega) hcl kx) | (rw [if_neg h128, if_neg h128, if_neg h128] at kx; exact ih (k + 1) _ _ _ (by omega) (by omega) (by split <;> omega) kx)
    · refine j_goto (tgt := 199) hC dX4_isSame_131 (by decide) ?_
      refine j_iinc hC dX4_isSame_199 1 [(12, vI (k + 1)), (13, vI (dst (σ.2 0) (σ.2 (1 + l.toNat) j) (σ.2 (1 + l.toNat) k))), (11, vI (ne)), (7, vI (cl)), (6, vI (th)), (0, .ref a), (1, .ref (gd g (0))), (2, vI (σ.1 0)), (3, vI (al)), (4, vI (l)), (5, .ref (rL r l.toNat)), (8, vI (mi)), (9, vI (mo)), (10, vI (j))] rfl (by decide) rfl ?_
      refine j_goto (tgt := 83) hC dX4_isSame_202 (by decide) ?_
      refine j_sub [0, 2, 3, 4, 5, 6, 7, 8, 9, 10, 11, 12, 13] rfl ?_
      first | (rw [if_pos h128, if_pos h128, if_pos h128] at kx; exact ih (k + 1) _ _ _ (by omega) (by omega) hcl kx) | (rw [if_neg h128, if_neg h128, if_neg h128] at kx; exact ih (k + 1) _ _ _ (by omega) (by omega) (by split <;> omega) kx)
set_option maxHeartbeats 4000000 in
set_option maxRecDepth 100000 in
theorem lp_same_j {mc : MC} {g : GG} {X : va_W} {σ : Sg} {Q : State → Prop} {a : Nat} {r : RR} (hr : Rp g X a σ r) (hI : IC σ) (hC : Cx mc (gx g X) cX4_isSame RX4 16 (some .boolean)) (hR : mR mc = rmJ 6 144 0 0) (hv : Iv σ) (l al : Int) (hl : 0 ≤ l ∧ l < σ.1 0) : ∀ (d : Nat) (j : Int) (th : Int) (cl : Int) (mi : Int) (mo : Int), (0 ≤ j) → (j + (d : Int) = σ.1 (2 + l.toNat)) → (0 ≤ cl ∧ cl ≤ 99) → (-1 ≤ mo ∧ mo ≤ 16) → (J mc (gx g X) 0 0 Q 318 [(6, vI (skO (thW σ l.toNat) (cN σ l.toNat) d j th)), (7, vI (clO (dB σ l.toNat) (cN σ l.toNat) d j cl)), (8, vI (amF (fun z => cnB σ l.toNat z) d j mi mo)), (0, .ref a), (1, .ref (gd g (0))), (2, vI (σ.1 0)), (3, vI (al)), (4, vI (l)), (5, .ref (rL r l.toNat))] [] σ) → J mc (gx g X) 0 0 Q 69 [(10, vI (j)), (6, vI (th)), (7, vI (cl)), (8, vI (mi)), (9, vI (mo)), (0, .ref a), (1, .ref (gd g (0))), (2, vI (σ.1 0)), (3, vI (al)), (4, vI (l)), (5, .ref (rL r l.toNat))] [] σ := by
  intro d
  induction d with
  | zero =>
    intro j th cl mi mo h0 hz hcl hmo kx
    have hkn := IC_k hI hl
    have hc0 := IC_n hI
    refine j_iload hC dX4_isSame_69 0 rfl ?_
    refine j_aload hC dX4_isSame_71 10 rfl ?_
    refine r_llen hC hr hI (by omega) dX4_isSame_73 ?_
    refine j_icmp_ge (tgt := 318) hC dX4_isSame_74 (by decide) (by omega) (fun _ => ?_) (fun h => absurd h (by omega))
    refine j_sub [1, 2, 3, 5, 6, 7, 8, 9, 10] rfl ?_
    exact kx
  | succ d ih =>
    intro j th cl mi mo h0 hz hcl hmo kx
    have hkn := IC_k hI hl
    have hc0 := IC_n hI
    have hl5 := (IC_l hI hl).2.2
    have hs := IC_s hI hl (z := j) (by omega)
    have hfa := findB_at hI hv.2.1 (IC_l hI hl).2.1 (j := j) (by omega)
    have hnr : 0 ≤ cnB σ l.toNat j ∧ cnB σ l.toNat j ≤ 16 := cnt0_rg _ hI hl5
    have hnb := nbF_rg (dB σ l.toNat j) j (lo := 0) (hi := 99) (cN σ l.toNat) 0 cl (fun y q1 q2 => by have := dB_rg hI hl5 (j := j) (k := y) (by omega) (by omega); omega) hcl.1 hcl.2
    rw [show skO (thW σ l.toNat) (cN σ l.toNat) (d + 1) j th = skO (thW σ l.toNat) (cN σ l.toNat) d (j + 1) (skF (thW σ l.toNat j) j (cN σ l.toNat) 0 th) from rfl, show clO (dB σ l.toNat) (cN σ l.toNat) (d + 1) j cl = clO (dB σ l.toNat) (cN σ l.toNat) d (j + 1) (nbF (dB σ l.toNat j) j (cN σ l.toNat) 0 cl) from rfl, show amF (fun z => cnB σ l.toNat z) (d + 1) j mi mo = if mo < cnB σ l.toNat j then amF (fun z => cnB σ l.toNat z) d (j + 1) j (cnB σ l.toNat j) else amF (fun z => cnB σ l.toNat z) d (j + 1) mi mo from rfl] at kx
    refine j_iload hC dX4_isSame_69 0 rfl ?_
    refine j_aload hC dX4_isSame_71 10 rfl ?_
    refine r_llen hC hr hI (by omega) dX4_isSame_73 ?_
    refine j_icmp_ge (tgt := 318) hC dX4_isSame_74 (by decide) (by omega) (fun h => absurd h (by omega)) (fun _ => ?_)
    refine j_iconst hC dX4_isSame_77 ?_
    refine j_istore hC dX4_isSame_78 [(11, vI (0)), (10, vI (j)), (6, vI (th)), (7, vI (cl)), (8, vI (mi)), (9, vI (mo)), (0, .ref a), (1, .ref (gd g (0))), (2, vI (σ.1 0)), (3, vI (al)), (4, vI (l)), (5, .ref (rL r l.toNat))] (by decide) rfl ?_
    refine j_iconst hC dX4_isSame_80 ?_
    refine j_istore hC dX4_isSame_81 [(12, vI (0)), (11, vI (0)), (10, vI (j)), (6, vI (th)), (7, vI (cl)), (8, vI (mi)), (9, vI (mo)), (0, .ref a), (1, .ref (gd g (0))), (2, vI (σ.1 0)), (3, vI (al)), (4, vI (l)), (5, .ref (rL r l.toNat))] (by decide) rfl ?_
    refine j_sub [0, 1, 4, 3, 7, 8, 9, 10, 11, 12, 5, 6, 2] rfl ?_
    refine lp_same_k hr hI hC hR l al mi mo j hl (by omega) (cN σ l.toNat) 0 0 cl th (by omega) (by omega) hcl ?_
    rw [← cnB_w hI hl5 j]
    refine j_iload hC dX4_isSame_205 0 rfl ?_
    refine j_iload hC dX4_isSame_207 10 rfl ?_
    refine j_icmp_le (tgt := 220) hC dX4_isSame_209 (by decide) (by omega) (fun h209 => ?_) (fun h209 => ?_)
    · refine j_aload_n hC dX4_isSame_220 4 rfl ?_
      refine j_iload hC dX4_isSame_221 7 rfl ?_
      refine j_iload hC dX4_isSame_223 11 rfl ?_
      refine j_callV1 (ar := 2) hC hR (c_X3_shapeOf (hlJ hC) (gx g X) σ hI l j (by omega) (by omega) ) [] rfl 0 rfl rfl rfl (by decide) (by decide +kernel) rfl wd359 wd360 wd361 wd1 wd362 (by first | decide | omega) (Nat.le_of_ble_eq_true rfl) dX4_isSame_225 ?_
      refine j_aload hC dX4_isSame_228 8 rfl ?_
      refine j_iload hC dX4_isSame_230 11 rfl ?_
      refine r_sign hC hr hI (by omega) (by omega) dX4_isSame_232 ?_
      refine j_iconst hC dX4_isSame_233 ?_
      refine r_num0 hC (Rp.sn hr hI (l := l) (z := j) (by omega) (by omega)) dX4_isSame_234 ?_
      refine j_icmp_ne (tgt := 310) hC dX4_isSame_235 (by decide) (by omega) (fun h => absurd h (by omega)) (fun _ => ?_)
      refine j_aload_n hC dX4_isSame_238 4 rfl ?_
      refine j_iload hC dX4_isSame_239 7 rfl ?_
      refine j_iload hC dX4_isSame_241 11 rfl ?_
      refine j_callV1 (ar := 2) hC hR (c_X3_thumbOf (hlJ hC) (gx g X) σ hI l j (by omega) (by omega) ) [] rfl 0 rfl rfl rfl (by decide) (by decide +kernel) rfl wd364 wd193 wd194 wd1 wd195 (by first | decide | omega) (Nat.le_of_ble_eq_true rfl) dX4_isSame_243 ?_
      refine j_aload hC dX4_isSame_246 8 rfl ?_
      refine j_iload hC dX4_isSame_248 11 rfl ?_
      refine r_sign hC hr hI (by omega) (by omega) dX4_isSame_250 ?_
      refine j_iconst hC dX4_isSame_251 ?_
      refine r_num1 hC (Rp.sn hr hI (l := l) (z := j) (by omega) (by omega)) dX4_isSame_252 ?_
      refine j_icmp_ne (tgt := 310) hC dX4_isSame_253 (by decide) (by omega) (fun h => absurd h (by omega)) (fun _ => ?_)
      refine j_aload_n hC dX4_isSame_256 4 rfl ?_
      refine j_iload hC dX4_isSame_257 7 rfl ?_
      refine j_iload hC dX4_isSame_259 11 rfl ?_
      refine j_callV1 (ar := 2) hC hR (c_X3_placeOf (hlJ hC) (gx g X) σ hI l j (by omega) (by omega) ) [] rfl 0 rfl rfl rfl (by decide) (by decide +kernel) rfl wd365 wd366 wd367 wd1 wd368 (by first | decide | omega) (Nat.le_of_ble_eq_true rfl) dX4_isSame_261 ?_
      refine j_aload hC dX4_isSame_264 8 rfl ?_
      refine j_iload hC dX4_isSame_266 11 rfl ?_
      refine r_sign hC hr hI (by omega) (by omega) dX4_isSame_268 ?_
      refine j_iconst hC dX4_isSame_269 ?_
      refine r_num2 hC (Rp.sn hr hI (l := l) (z := j) (by omega) (by omega)) dX4_isSame_270 ?_
      refine j_icmp_ne (tgt := 310) hC dX4_isSame_271 (by decide) (by omega) (fun h => absurd h (by omega)) (fun _ => ?_)
      refine j_aload_n hC dX4_isSame_274 4 rfl ?_
      refine j_iload hC dX4_isSame_275 7 rfl ?_
      refine j_iload hC dX4_isSame_277 11 rfl ?_
      refine j_callV1 (ar := 2) hC hR (c_X3_meaningOf (hlJ hC) (gx g X) σ hI l j (by omega) (by omega) ) [] rfl 0 rfl rfl rfl (by decide) (by decide +kernel) rfl wd370 wd208 wd209 wd1 wd210 (by first | decide | omega) (Nat.le_of_ble_eq_true rfl) dX4_isSame_279 ?_
      refine j_aload hC dX4_isSame_282 8 rfl ?_
      refine j_iload hC dX4_isSame_284 11 rfl ?_
      refine r_sign hC hr hI (by omega) (by omega) dX4_isSame_286 ?_
      refine j_iconst hC dX4_isSame_287 ?_
      refine r_num4 hC (Rp.sn hr hI (l := l) (z := j) (by omega) (by omega)) dX4_isSame_288 ?_
      refine j_icmp_ne (tgt := 310) hC dX4_isSame_289 (by decide) (by omega) (fun h => absurd h (by omega)) (fun _ => ?_)
      refine j_aload_n hC dX4_isSame_292 4 rfl ?_
      refine j_iload hC dX4_isSame_293 7 rfl ?_
      refine j_aload hC dX4_isSame_295 8 rfl ?_
      refine j_iload hC dX4_isSame_297 11 rfl ?_
      refine r_sign hC hr hI (by omega) (by omega) dX4_isSame_299 ?_
      refine j_iconst hC dX4_isSame_300 ?_
      refine r_num4 hC (Rp.sn hr hI (l := l) (z := j) (by omega) (by omega)) dX4_isSame_301 ?_
      refine j_callV1 (ar := 2) hC hR (c_X3_signFor (hlJ hC) (gx g X) σ hI l (σ.2 (6 + l.toNat) j) (by omega) (by omega) ) [] rfl 0 rfl rfl rfl (by decide) (by decide +kernel) rfl wd371 wd212 wd213 wd1 wd214 (by first | decide | omega) (Nat.le_of_ble_eq_true rfl) dX4_isSame_302 ?_
      refine j_iload hC dX4_isSame_305 11 rfl ?_
      refine j_icmp_eq (tgt := 312) hC dX4_isSame_307 (by decide) (by omega) (fun _ => ?_) (fun h => absurd h (by omega))
      refine j_iinc hC dX4_isSame_312 11 [(10, vI (j + 1)), (11, vI (cnB σ l.toNat j)), (7, vI (nbF (dB σ l.toNat j) j (cN σ l.toNat) 0 cl)), (6, vI (skF (thW σ l.toNat j) j (cN σ l.toNat) 0 th)), (0, .ref a), (1, .ref (gd g (0))), (2, vI (σ.1 0)), (3, vI (al)), (4, vI (l)), (5, .ref (rL r l.toNat)), (8, vI (mi)), (9, vI (mo))] rfl (by decide) rfl ?_
      refine j_goto (tgt := 69) hC dX4_isSame_315 (by decide) ?_
      refine j_sub [0, 3, 2, 10, 11, 4, 5, 6, 7, 8, 9] rfl ?_
      first | (rw [if_pos h209] at kx; exact ih (j + 1) _ _ _ _ (by omega) (by omega) hnb (by omega) kx) | (rw [if_neg (show ¬ mo < cnB σ l.toNat j by omega)] at kx; exact ih (j + 1) _ _ _ _ (by omega) (by omega) hnb hmo kx)
    · refine j_iload hC dX4_isSame_212 0 rfl ?_
      refine j_istore hC dX4_isSame_214 [(9, vI (cnB σ l.toNat j)), (11, vI (cnB σ l.toNat j)), (7, vI (nbF (dB σ l.toNat j) j (cN σ l.toNat) 0 cl)), (6, vI (skF (thW σ l.toNat j) j (cN σ l.toNat) 0 th)), (0, .ref a), (1, .ref (gd g (0))), (2, vI (σ.1 0)), (3, vI (al)), (4, vI (l)), (5, .ref (rL r l.toNat)), (8, vI (mi)), (10, vI (j))] (by decide) rfl ?_
      refine j_iload hC dX4_isSame_216 11 rfl ?_
      refine j_istore hC dX4_isSame_218 [(8, vI (j)), (9, vI (cnB σ l.toNat j)), (11, vI (cnB σ l.toNat j)), (7, vI (nbF (dB σ l.toNat j) j (cN σ l.toNat) 0 cl)), (6, vI (skF (thW σ l.toNat j) j (cN σ l.toNat) 0 th)), (0, .ref a), (1, .ref (gd g (0))), (2, vI (σ.1 0)), (3, vI (al)), (4, vI (l)), (5, .ref (rL r l.toNat)), (10, vI (j))] (by decide) rfl ?_
      refine j_aload_n hC dX4_isSame_220 6 rfl ?_
      refine j_iload hC dX4_isSame_221 9 rfl ?_
      refine j_iload hC dX4_isSame_223 11 rfl ?_
      refine j_callV1 (ar := 2) hC hR (c_X3_shapeOf (hlJ hC) (gx g X) σ hI l j (by omega) (by omega) ) [] rfl 0 rfl rfl rfl (by decide) (by decide +kernel) rfl wd359 wd360 wd361 wd1 wd362 (by first | decide | omega) (Nat.le_of_ble_eq_true rfl) dX4_isSame_225 ?_
      refine j_aload hC dX4_isSame_228 10 rfl ?_
      refine j_iload hC dX4_isSame_230 11 rfl ?_
      refine r_sign hC hr hI (by omega) (by omega) dX4_isSame_232 ?_
      refine j_iconst hC dX4_isSame_233 ?_
      refine r_num0 hC (Rp.sn hr hI (l := l) (z := j) (by omega) (by omega)) dX4_isSame_234 ?_
      refine j_icmp_ne (tgt := 310) hC dX4_isSame_235 (by decide) (by omega) (fun h => absurd h (by omega)) (fun _ => ?_)
      refine j_aload_n hC dX4_isSame_238 6 rfl ?_
      refine j_iload hC dX4_isSame_239 9 rfl ?_
      refine j_iload hC dX4_isSame_241 11 rfl ?_
      refine j_callV1 (ar := 2) hC hR (c_X3_thumbOf (hlJ hC) (gx g X) σ hI l j (by omega) (by omega) ) [] rfl 0 rfl rfl rfl (by decide) (by decide +kernel) rfl wd364 wd193 wd194 wd1 wd195 (by first | decide | omega) (Nat.le_of_ble_eq_true rfl) dX4_isSame_243 ?_
      refine j_aload hC dX4_isSame_246 10 rfl ?_
      refine j_iload hC dX4_isSame_248 11 rfl ?_
      refine r_sign hC hr hI (by omega) (by omega) dX4_isSame_250 ?_
      refine j_iconst hC dX4_isSame_251 ?_
      refine r_num1 hC (Rp.sn hr hI (l := l) (z := j) (by omega) (by omega)) dX4_isSame_252 ?_
      refine j_icmp_ne (tgt := 310) hC dX4_isSame_253 (by decide) (by omega) (fun h => absurd h (by omega)) (fun _ => ?_)
      refine j_aload_n hC dX4_isSame_256 6 rfl ?_
      refine j_iload hC dX4_isSame_257 9 rfl ?_
      refine j_iload hC dX4_isSame_259 11 rfl ?_
      refine j_callV1 (ar := 2) hC hR (c_X3_placeOf (hlJ hC) (gx g X) σ hI l j (by omega) (by omega) ) [] rfl 0 rfl rfl rfl (by decide) (by decide +kernel) rfl wd365 wd366 wd367 wd1 wd368 (by first | decide | omega) (Nat.le_of_ble_eq_true rfl) dX4_isSame_261 ?_
      refine j_aload hC dX4_isSame_264 10 rfl ?_
      refine j_iload hC dX4_isSame_266 11 rfl ?_
      refine r_sign hC hr hI (by omega) (by omega) dX4_isSame_268 ?_
      refine j_iconst hC dX4_isSame_269 ?_
      refine r_num2 hC (Rp.sn hr hI (l := l) (z := j) (by omega) (by omega)) dX4_isSame_270 ?_
      refine j_icmp_ne (tgt := 310) hC dX4_isSame_271 (by decide) (by omega) (fun h => absurd h (by omega)) (fun _ => ?_)
      refine j_aload_n hC dX4_isSame_274 6 rfl ?_
      refine j_iload hC dX4_isSame_275 9 rfl ?_
      refine j_iload hC dX4_isSame_277 11 rfl ?_
      refine j_callV1 (ar := 2) hC hR (c_X3_meaningOf (hlJ hC) (gx g X) σ hI l j (by omega) (by omega) ) [] rfl 0 rfl rfl rfl (by decide) (by decide +kernel) rfl wd370 wd208 wd209 wd1 wd210 (by first | decide | omega) (Nat.le_of_ble_eq_true rfl) dX4_isSame_279 ?_
      refine j_aload hC dX4_isSame_282 10 rfl ?_
      refine j_iload hC dX4_isSame_284 11 rfl ?_
      refine r_sign hC hr hI (by omega) (by omega) dX4_isSame_286 ?_
      refine j_iconst hC dX4_isSame_287 ?_
      refine r_num4 hC (Rp.sn hr hI (l := l) (z := j) (by omega) (by omega)) dX4_isSame_288 ?_
      refine j_icmp_ne (tgt := 310) hC dX4_isSame_289 (by decide) (by omega) (fun h => absurd h (by omega)) (fun _ => ?_)
      refine j_aload_n hC dX4_isSame_292 6 rfl ?_
      refine j_iload hC dX4_isSame_293 9 rfl ?_
      refine j_aload hC dX4_isSame_295 10 rfl ?_
      refine j_iload hC dX4_isSame_297 11 rfl ?_
      refine r_sign hC hr hI (by omega) (by omega) dX4_isSame_299 ?_
      refine j_iconst hC dX4_isSame_300 ?_
      refine r_num4 hC (Rp.sn hr hI (l := l) (z := j) (by omega) (by omega)) dX4_isSame_301 ?_
      refine j_callV1 (ar := 2) hC hR (c_X3_signFor (hlJ hC) (gx g X) σ hI l (σ.2 (6 + l.toNat) j) (by omega) (by omega) ) [] rfl 0 rfl rfl rfl (by decide) (by decide +kernel) rfl wd371 wd212 wd213 wd1 wd214 (by first | decide | omega) (Nat.le_of_ble_eq_true rfl) dX4_isSame_302 ?_
      refine j_iload hC dX4_isSame_305 11 rfl ?_
      refine j_icmp_eq (tgt := 312) hC dX4_isSame_307 (by decide) (by omega) (fun _ => ?_) (fun h => absurd h (by omega))
      refine j_iinc hC dX4_isSame_312 11 [(10, vI (j + 1)), (8, vI (j)), (9, vI (cnB σ l.toNat j)), (11, vI (cnB σ l.toNat j)), (7, vI (nbF (dB σ l.toNat j) j (cN σ l.toNat) 0 cl)), (6, vI (skF (thW σ l.toNat j) j (cN σ l.toNat) 0 th)), (0, .ref a), (1, .ref (gd g (0))), (2, vI (σ.1 0)), (3, vI (al)), (4, vI (l)), (5, .ref (rL r l.toNat))] rfl (by decide) rfl ?_
      refine j_goto (tgt := 69) hC dX4_isSame_315 (by decide) ?_
      refine j_sub [0, 5, 4, 1, 2, 6, 7, 8, 9, 10, 11] rfl ?_
      first | (rw [if_pos h209] at kx; exact ih (j + 1) _ _ _ _ (by omega) (by omega) hnb (by omega) kx) | (rw [if_neg (show ¬ mo < cnB σ l.toNat j by omega)] at kx; exact ih (j + 1) _ _ _ _ (by omega) (by omega) hnb hmo kx)
set_option maxHeartbeats 4000000 in
set_option maxRecDepth 100000 in
theorem lp_same_r {mc : MC} {g : GG} {X : va_W} {σ : Sg} {Q : State → Prop} {a : Nat} {r : RR} (hr : Rp g X a σ r) (hI : IC σ) (hC : Cx mc (gx g X) cX4_isSame RX4 16 (some .boolean)) (hR : mR mc = rmJ 6 144 0 0) (l al t : Int) (hl : 0 ≤ l ∧ l < σ.1 0) (ht : 0 ≤ t ∧ t < σ.1 0) : ∀ (d : Nat) (z : Int) (mr : Int) (co : Int), (0 ≤ z) → (z + (d : Int) = σ.1 (2 + l.toNat)) → (J mc (gx g X) 0 0 Q 548 [(11, vI (cnt (miC σ t.toNat l.toNat) d z mr)), (12, vI (cnt (coC σ l.toNat t.toNat) d z co)), (10, vI (t)), (0, .ref a), (1, .ref (gd g (0))), (2, vI (σ.1 0)), (3, vI (al)), (4, vI (l)), (5, .ref (rL r l.toNat))] [] σ) → J mc (gx g X) 0 0 Q 409 [(13, vI (z)), (11, vI (mr)), (12, vI (co)), (10, vI (t)), (0, .ref a), (1, .ref (gd g (0))), (2, vI (σ.1 0)), (3, vI (al)), (4, vI (l)), (5, .ref (rL r l.toNat))] [] σ := by
  intro d
  induction d with
  | zero =>
    intro z mr co h0 hz kx
    have hkn := IC_k hI hl
    have hc0 := IC_n hI
    refine j_iload hC dX4_isSame_409 0 rfl ?_
    refine j_aload hC dX4_isSame_411 9 rfl ?_
    refine r_llen hC hr hI (by omega) dX4_isSame_413 ?_
    refine j_icmp_ge (tgt := 548) hC dX4_isSame_414 (by decide) (by omega) (fun _ => ?_) (fun h => absurd h (by omega))
    refine j_sub [1, 2, 3, 4, 5, 6, 7, 8, 9] rfl ?_
    exact kx
  | succ d ih =>
    intro z mr co h0 hz kx
    have hkn := IC_k hI hl
    have hc0 := IC_n hI
    have hs := IC_s hI hl (z := z) (by omega)
    have hkt := IC_k hI ht
    have hst := fun (h : 0 ≤ findB σ t.toNat (σ.2 (6 + l.toNat) z)) => IC_s hI ht (z := findB σ t.toNat (σ.2 (6 + l.toNat) z)) ⟨h, by have := findB_rg hI (IC_l hI ht).2.2 (σ.2 (6 + l.toNat) z); omega⟩
    have hrg := mrB_rg hI (IC_l hI hl).2.2 (σ.2 (1 + t.toNat) (findB σ t.toNat (σ.2 (6 + l.toNat) z)))
    rw [show cnt (miC σ t.toNat l.toNat) (d + 1) z mr = cnt (miC σ t.toNat l.toNat) d (z + 1) (if decide (mrB σ t.toNat (σ.2 (1 + l.toNat) z) ≠ -1 ∧ mrB σ t.toNat (σ.2 (1 + l.toNat) z) ≠ σ.2 (6 + l.toNat) z) = true then mr + 1 else mr) from rfl, show cnt (coC σ l.toNat t.toNat) (d + 1) z co = cnt (coC σ l.toNat t.toNat) d (z + 1) (if decide (findB σ t.toNat (σ.2 (6 + l.toNat) z) ≠ -1 ∧ mrB σ t.toNat (σ.2 (1 + l.toNat) z) = σ.2 (6 + l.toNat) z ∧ mrB σ l.toNat (σ.2 (1 + t.toNat) (findB σ t.toNat (σ.2 (6 + l.toNat) z))) = σ.2 (6 + l.toNat) z) = true then co + 1 else co) from rfl, cnt_st, cnt_st] at kx
    refine j_iload hC dX4_isSame_409 0 rfl ?_
    refine j_aload hC dX4_isSame_411 9 rfl ?_
    refine r_llen hC hr hI (by omega) dX4_isSame_413 ?_
    refine j_icmp_ge (tgt := 548) hC dX4_isSame_414 (by decide) (by omega) (fun h => absurd h (by omega)) (fun _ => ?_)
    refine j_aload_n hC dX4_isSame_417 4 rfl ?_
    refine j_aload hC dX4_isSame_418 9 rfl ?_
    refine j_iload hC dX4_isSame_420 0 rfl ?_
    refine r_sign hC hr hI (by omega) (by omega) dX4_isSame_422 ?_
    refine j_iload hC dX4_isSame_423 3 rfl ?_
    refine x_callV1 (ar := 2) hC hR (c_X4_read (hlJ hC) g X σ hr hI t (by omega) (Rp.sn hr hI (l := l) (z := z) (by omega) (by omega)) (by omega)) [] rfl hr.1 rfl rfl (by decide) (by decide +kernel) rfl wd381 wd382 wd383 wd4 wd384 (by first | decide | omega) (Nat.le_of_ble_eq_true rfl) dX4_isSame_425 ?_
    have hm425 := mrB_rg hI (b := (t).toNat) (by omega) (σ.2 (1 + l.toNat) z)
    refine j_istore hC dX4_isSame_428 [(14, vI (mrB σ (t).toNat (σ.2 (1 + l.toNat) z))), (13, vI (z)), (11, vI (mr)), (12, vI (co)), (10, vI (t)), (0, .ref a), (1, .ref (gd g (0))), (2, vI (σ.1 0)), (3, vI (al)), (4, vI (l)), (5, .ref (rL r l.toNat))] (by decide) rfl ?_
    refine j_aload_n hC dX4_isSame_430 5 rfl ?_
    refine j_iload hC dX4_isSame_431 4 rfl ?_
    refine j_aload hC dX4_isSame_433 10 rfl ?_
    refine j_iload hC dX4_isSame_435 1 rfl ?_
    refine r_sign hC hr hI (by omega) (by omega) dX4_isSame_437 ?_
    refine j_iconst hC dX4_isSame_438 ?_
    refine r_num4 hC (Rp.sn hr hI (l := l) (z := z) (by omega) (by omega)) dX4_isSame_439 ?_
    refine x_callV1 (ar := 2) hC hR (c_X4_signFor (hlJ hC) g X σ hr hI t (by omega) (σ.2 (6 + l.toNat) z) (by omega)) [] rfl hr.1 rfl rfl (by decide) (by decide +kernel) rfl wd385 wd386 wd387 wd4 wd388 (by first | decide | omega) (Nat.le_of_ble_eq_true rfl) dX4_isSame_440 ?_
    have hf440 := findB_rg hI (b := (t).toNat) (by omega) (σ.2 (6 + l.toNat) z)
    refine j_istore hC dX4_isSame_443 [(15, vI (findB σ (t).toNat (σ.2 (6 + l.toNat) z))), (14, vI (mrB σ (t).toNat (σ.2 (1 + l.toNat) z))), (13, vI (z)), (11, vI (mr)), (12, vI (co)), (10, vI (t)), (0, .ref a), (1, .ref (gd g (0))), (2, vI (σ.1 0)), (3, vI (al)), (4, vI (l)), (5, .ref (rL r l.toNat))] (by decide) rfl ?_
    refine j_iload hC dX4_isSame_445 3 rfl ?_
    refine j_iload hC dX4_isSame_447 1 rfl ?_
    suffices K469 : J mc (gx g X) 0 0 Q 469 [(15, vI (findB σ (t).toNat (σ.2 (6 + l.toNat) z))), (14, vI (mrB σ (t).toNat (σ.2 (1 + l.toNat) z))), (13, vI (z)), (11, vI (mr)), (12, vI (co)), (10, vI (t)), (0, .ref a), (1, .ref (gd g (0))), (2, vI (σ.1 0)), (3, vI (al)), (4, vI (l)), (5, .ref (rL r l.toNat))] [vI ((if mrB σ t.toNat (σ.2 (1 + l.toNat) z) ≠ -1 ∧ mrB σ t.toNat (σ.2 (1 + l.toNat) z) ≠ σ.2 (6 + l.toNat) z then 1 else 0)), vI (mr)] σ by
      refine j_if_lt (tgt := 468) hC dX4_isSame_449 (by decide) (by omega) (fun h449 => ?_) (fun h449 => ?_)
      · refine j_iconst hC dX4_isSame_468 ?_
        exact (by first | (rw [show ((if mrB σ t.toNat (σ.2 (1 + l.toNat) z) ≠ -1 ∧ mrB σ t.toNat (σ.2 (1 + l.toNat) z) ≠ σ.2 (6 + l.toNat) z then 1 else 0) : Int) = 1 from if_pos (by omega)] at K469; exact K469) | (rw [show ((if mrB σ t.toNat (σ.2 (1 + l.toNat) z) ≠ -1 ∧ mrB σ t.toNat (σ.2 (1 + l.toNat) z) ≠ σ.2 (6 + l.toNat) z then 1 else 0) : Int) = 1 from if_pos (by omega)] at K469 ⊢; exact K469) | (rw [show ((if mrB σ t.toNat (σ.2 (1 + l.toNat) z) ≠ -1 ∧ mrB σ t.toNat (σ.2 (1 + l.toNat) z) ≠ σ.2 (6 + l.toNat) z then 1 else 0) : Int) = 0 from if_neg (by omega)] at K469; exact K469) | (rw [show ((if mrB σ t.toNat (σ.2 (1 + l.toNat) z) ≠ -1 ∧ mrB σ t.toNat (σ.2 (1 + l.toNat) z) ≠ σ.2 (6 + l.toNat) z then 1 else 0) : Int) = 0 from if_neg (by omega)] at K469 ⊢; exact K469))
      · refine j_iload hC dX4_isSame_452 1 rfl ?_
        refine j_aload hC dX4_isSame_454 11 rfl ?_
        refine j_iload hC dX4_isSame_456 2 rfl ?_
        refine r_sign hC hr hI (by omega) (by omega) dX4_isSame_458 ?_
        refine j_iconst hC dX4_isSame_459 ?_
        refine r_num4 hC (Rp.sn hr hI (l := l) (z := z) (by omega) (by omega)) dX4_isSame_460 ?_
        refine j_icmp_eq (tgt := 468) hC dX4_isSame_461 (by decide) (by omega) (fun h461 => ?_) (fun h461 => ?_)
        · refine j_iconst hC dX4_isSame_468 ?_
          exact (by first | (rw [show ((if mrB σ t.toNat (σ.2 (1 + l.toNat) z) ≠ -1 ∧ mrB σ t.toNat (σ.2 (1 + l.toNat) z) ≠ σ.2 (6 + l.toNat) z then 1 else 0) : Int) = 1 from if_pos (by omega)] at K469; exact K469) | (rw [show ((if mrB σ t.toNat (σ.2 (1 + l.toNat) z) ≠ -1 ∧ mrB σ t.toNat (σ.2 (1 + l.toNat) z) ≠ σ.2 (6 + l.toNat) z then 1 else 0) : Int) = 1 from if_pos (by omega)] at K469 ⊢; exact K469) | (rw [show ((if mrB σ t.toNat (σ.2 (1 + l.toNat) z) ≠ -1 ∧ mrB σ t.toNat (σ.2 (1 + l.toNat) z) ≠ σ.2 (6 + l.toNat) z then 1 else 0) : Int) = 0 from if_neg (by omega)] at K469; exact K469) | (rw [show ((if mrB σ t.toNat (σ.2 (1 + l.toNat) z) ≠ -1 ∧ mrB σ t.toNat (σ.2 (1 + l.toNat) z) ≠ σ.2 (6 + l.toNat) z then 1 else 0) : Int) = 0 from if_neg (by omega)] at K469 ⊢; exact K469))
        · refine j_iconst hC dX4_isSame_464 ?_
          refine j_goto (tgt := 469) hC dX4_isSame_465 (by decide) ?_
          exact (by first | (rw [show ((if mrB σ t.toNat (σ.2 (1 + l.toNat) z) ≠ -1 ∧ mrB σ t.toNat (σ.2 (1 + l.toNat) z) ≠ σ.2 (6 + l.toNat) z then 1 else 0) : Int) = 1 from if_pos (by omega)] at K469; exact K469) | (rw [show ((if mrB σ t.toNat (σ.2 (1 + l.toNat) z) ≠ -1 ∧ mrB σ t.toNat (σ.2 (1 + l.toNat) z) ≠ σ.2 (6 + l.toNat) z then 1 else 0) : Int) = 1 from if_pos (by omega)] at K469 ⊢; exact K469) | (rw [show ((if mrB σ t.toNat (σ.2 (1 + l.toNat) z) ≠ -1 ∧ mrB σ t.toNat (σ.2 (1 + l.toNat) z) ≠ σ.2 (6 + l.toNat) z then 1 else 0) : Int) = 0 from if_neg (by omega)] at K469; exact K469) | (rw [show ((if mrB σ t.toNat (σ.2 (1 + l.toNat) z) ≠ -1 ∧ mrB σ t.toNat (σ.2 (1 + l.toNat) z) ≠ σ.2 (6 + l.toNat) z then 1 else 0) : Int) = 0 from if_neg (by omega)] at K469 ⊢; exact K469))
    refine j_iadd hC dX4_isSame_469 ?_
    refine j_istore hC dX4_isSame_470 [(11, vI (mr + (if mrB σ t.toNat (σ.2 (1 + l.toNat) z) ≠ -1 ∧ mrB σ t.toNat (σ.2 (1 + l.toNat) z) ≠ σ.2 (6 + l.toNat) z then 1 else 0))), (15, vI (findB σ (t).toNat (σ.2 (6 + l.toNat) z))), (14, vI (mrB σ (t).toNat (σ.2 (1 + l.toNat) z))), (13, vI (z)), (12, vI (co)), (10, vI (t)), (0, .ref a), (1, .ref (gd g (0))), (2, vI (σ.1 0)), (3, vI (al)), (4, vI (l)), (5, .ref (rL r l.toNat))] (by decide) rfl ?_
    refine j_iload hC dX4_isSame_472 4 rfl ?_
    refine j_iload hC dX4_isSame_474 1 rfl ?_
    suffices K522 : J mc (gx g X) 0 0 Q 522 [(11, vI (mr + (if mrB σ t.toNat (σ.2 (1 + l.toNat) z) ≠ -1 ∧ mrB σ t.toNat (σ.2 (1 + l.toNat) z) ≠ σ.2 (6 + l.toNat) z then 1 else 0))), (15, vI (findB σ (t).toNat (σ.2 (6 + l.toNat) z))), (14, vI (mrB σ (t).toNat (σ.2 (1 + l.toNat) z))), (13, vI (z)), (12, vI (co)), (10, vI (t)), (0, .ref a), (1, .ref (gd g (0))), (2, vI (σ.1 0)), (3, vI (al)), (4, vI (l)), (5, .ref (rL r l.toNat))] [vI ((if findB σ t.toNat (σ.2 (6 + l.toNat) z) ≠ -1 ∧ mrB σ t.toNat (σ.2 (1 + l.toNat) z) = σ.2 (6 + l.toNat) z ∧ mrB σ l.toNat (σ.2 (1 + t.toNat) (findB σ t.toNat (σ.2 (6 + l.toNat) z))) = σ.2 (6 + l.toNat) z then 1 else 0)), vI (co)] σ by
      refine j_if_lt (tgt := 521) hC dX4_isSame_476 (by decide) (by omega) (fun h476 => ?_) (fun h476 => ?_)
      · refine j_iconst hC dX4_isSame_521 ?_
        exact (by first | (rw [show ((if findB σ t.toNat (σ.2 (6 + l.toNat) z) ≠ -1 ∧ mrB σ t.toNat (σ.2 (1 + l.toNat) z) = σ.2 (6 + l.toNat) z ∧ mrB σ l.toNat (σ.2 (1 + t.toNat) (findB σ t.toNat (σ.2 (6 + l.toNat) z))) = σ.2 (6 + l.toNat) z then 1 else 0) : Int) = 1 from if_pos (by omega)] at K522; exact K522) | (rw [show ((if findB σ t.toNat (σ.2 (6 + l.toNat) z) ≠ -1 ∧ mrB σ t.toNat (σ.2 (1 + l.toNat) z) = σ.2 (6 + l.toNat) z ∧ mrB σ l.toNat (σ.2 (1 + t.toNat) (findB σ t.toNat (σ.2 (6 + l.toNat) z))) = σ.2 (6 + l.toNat) z then 1 else 0) : Int) = 1 from if_pos (by omega)] at K522 ⊢; exact K522) | (rw [show ((if findB σ t.toNat (σ.2 (6 + l.toNat) z) ≠ -1 ∧ mrB σ t.toNat (σ.2 (1 + l.toNat) z) = σ.2 (6 + l.toNat) z ∧ mrB σ l.toNat (σ.2 (1 + t.toNat) (findB σ t.toNat (σ.2 (6 + l.toNat) z))) = σ.2 (6 + l.toNat) z then 1 else 0) : Int) = 0 from if_neg (by omega)] at K522; exact K522) | (rw [show ((if findB σ t.toNat (σ.2 (6 + l.toNat) z) ≠ -1 ∧ mrB σ t.toNat (σ.2 (1 + l.toNat) z) = σ.2 (6 + l.toNat) z ∧ mrB σ l.toNat (σ.2 (1 + t.toNat) (findB σ t.toNat (σ.2 (6 + l.toNat) z))) = σ.2 (6 + l.toNat) z then 1 else 0) : Int) = 0 from if_neg (by omega)] at K522 ⊢; exact K522))
      · refine j_iload hC dX4_isSame_479 2 rfl ?_
        refine j_aload hC dX4_isSame_481 11 rfl ?_
        refine j_iload hC dX4_isSame_483 3 rfl ?_
        refine r_sign hC hr hI (by omega) (by omega) dX4_isSame_485 ?_
        refine j_iconst hC dX4_isSame_486 ?_
        refine r_num4 hC (Rp.sn hr hI (l := l) (z := z) (by omega) (by omega)) dX4_isSame_487 ?_
        refine j_icmp_ne (tgt := 521) hC dX4_isSame_488 (by decide) (by omega) (fun h488 => ?_) (fun h488 => ?_)
        · refine j_iconst hC dX4_isSame_521 ?_
          exact (by first | (rw [show ((if findB σ t.toNat (σ.2 (6 + l.toNat) z) ≠ -1 ∧ mrB σ t.toNat (σ.2 (1 + l.toNat) z) = σ.2 (6 + l.toNat) z ∧ mrB σ l.toNat (σ.2 (1 + t.toNat) (findB σ t.toNat (σ.2 (6 + l.toNat) z))) = σ.2 (6 + l.toNat) z then 1 else 0) : Int) = 1 from if_pos (by omega)] at K522; exact K522) | (rw [show ((if findB σ t.toNat (σ.2 (6 + l.toNat) z) ≠ -1 ∧ mrB σ t.toNat (σ.2 (1 + l.toNat) z) = σ.2 (6 + l.toNat) z ∧ mrB σ l.toNat (σ.2 (1 + t.toNat) (findB σ t.toNat (σ.2 (6 + l.toNat) z))) = σ.2 (6 + l.toNat) z then 1 else 0) : Int) = 1 from if_pos (by omega)] at K522 ⊢; exact K522) | (rw [show ((if findB σ t.toNat (σ.2 (6 + l.toNat) z) ≠ -1 ∧ mrB σ t.toNat (σ.2 (1 + l.toNat) z) = σ.2 (6 + l.toNat) z ∧ mrB σ l.toNat (σ.2 (1 + t.toNat) (findB σ t.toNat (σ.2 (6 + l.toNat) z))) = σ.2 (6 + l.toNat) z then 1 else 0) : Int) = 0 from if_neg (by omega)] at K522; exact K522) | (rw [show ((if findB σ t.toNat (σ.2 (6 + l.toNat) z) ≠ -1 ∧ mrB σ t.toNat (σ.2 (1 + l.toNat) z) = σ.2 (6 + l.toNat) z ∧ mrB σ l.toNat (σ.2 (1 + t.toNat) (findB σ t.toNat (σ.2 (6 + l.toNat) z))) = σ.2 (6 + l.toNat) z then 1 else 0) : Int) = 0 from if_neg (by omega)] at K522 ⊢; exact K522))
        · have hst2 := hst (by omega)
          refine j_aload_n hC dX4_isSame_491 6 rfl ?_
          refine j_aload_n hC dX4_isSame_492 6 rfl ?_
          refine r_books hC hr wd530 dX4_isSame_493 ?_
          refine j_iload hC dX4_isSame_496 5 rfl ?_
          refine r_lodge hC hr hI (by omega) dX4_isSame_498 ?_
          refine j_iload hC dX4_isSame_499 1 rfl ?_
          refine r_sign hC hr hI (by omega) (by omega) dX4_isSame_501 ?_
          refine j_iload hC dX4_isSame_502 10 rfl ?_
          refine x_callV1 (ar := 2) hC hR (c_X4_read (hlJ hC) g X σ hr hI l (by omega) (Rp.sn hr hI (l := t) (z := findB σ (t).toNat (σ.2 (6 + l.toNat) z)) (by omega) (by omega)) (by omega)) [vI (co)] rfl hr.1 rfl rfl (by decide) (by decide +kernel) rfl wd381 wd382 wd383 wd4 wd384 (by first | decide | omega) (Nat.le_of_ble_eq_true rfl) dX4_isSame_504 ?_
          have hm504 := mrB_rg hI (b := (l).toNat) (by omega) (σ.2 (1 + t.toNat) (findB σ (t).toNat (σ.2 (6 + l.toNat) z)))
          refine j_aload hC dX4_isSame_507 11 rfl ?_
          refine j_iload hC dX4_isSame_509 3 rfl ?_
          refine r_sign hC hr hI (by omega) (by omega) dX4_isSame_511 ?_
          refine j_iconst hC dX4_isSame_512 ?_
          refine r_num4 hC (Rp.sn hr hI (l := l) (z := z) (by omega) (by omega)) dX4_isSame_513 ?_
          refine j_icmp_ne (tgt := 521) hC dX4_isSame_514 (by decide) (by omega) (fun h514 => ?_) (fun h514 => ?_)
          · refine j_iconst hC dX4_isSame_521 ?_
            exact (by first | (rw [show ((if findB σ t.toNat (σ.2 (6 + l.toNat) z) ≠ -1 ∧ mrB σ t.toNat (σ.2 (1 + l.toNat) z) = σ.2 (6 + l.toNat) z ∧ mrB σ l.toNat (σ.2 (1 + t.toNat) (findB σ t.toNat (σ.2 (6 + l.toNat) z))) = σ.2 (6 + l.toNat) z then 1 else 0) : Int) = 1 from if_pos (by omega)] at K522; exact K522) | (rw [show ((if findB σ t.toNat (σ.2 (6 + l.toNat) z) ≠ -1 ∧ mrB σ t.toNat (σ.2 (1 + l.toNat) z) = σ.2 (6 + l.toNat) z ∧ mrB σ l.toNat (σ.2 (1 + t.toNat) (findB σ t.toNat (σ.2 (6 + l.toNat) z))) = σ.2 (6 + l.toNat) z then 1 else 0) : Int) = 1 from if_pos (by omega)] at K522 ⊢; exact K522) | (rw [show ((if findB σ t.toNat (σ.2 (6 + l.toNat) z) ≠ -1 ∧ mrB σ t.toNat (σ.2 (1 + l.toNat) z) = σ.2 (6 + l.toNat) z ∧ mrB σ l.toNat (σ.2 (1 + t.toNat) (findB σ t.toNat (σ.2 (6 + l.toNat) z))) = σ.2 (6 + l.toNat) z then 1 else 0) : Int) = 0 from if_neg (by omega)] at K522; exact K522) | (rw [show ((if findB σ t.toNat (σ.2 (6 + l.toNat) z) ≠ -1 ∧ mrB σ t.toNat (σ.2 (1 + l.toNat) z) = σ.2 (6 + l.toNat) z ∧ mrB σ l.toNat (σ.2 (1 + t.toNat) (findB σ t.toNat (σ.2 (6 + l.toNat) z))) = σ.2 (6 + l.toNat) z then 1 else 0) : Int) = 0 from if_neg (by omega)] at K522 ⊢; exact K522))
          · refine j_iconst hC dX4_isSame_517 ?_
            refine j_goto (tgt := 522) hC dX4_isSame_518 (by decide) ?_
            exact (by first | (rw [show ((if findB σ t.toNat (σ.2 (6 + l.toNat) z) ≠ -1 ∧ mrB σ t.toNat (σ.2 (1 + l.toNat) z) = σ.2 (6 + l.toNat) z ∧ mrB σ l.toNat (σ.2 (1 + t.toNat) (findB σ t.toNat (σ.2 (6 + l.toNat) z))) = σ.2 (6 + l.toNat) z then 1 else 0) : Int) = 1 from if_pos (by omega)] at K522; exact K522) | (rw [show ((if findB σ t.toNat (σ.2 (6 + l.toNat) z) ≠ -1 ∧ mrB σ t.toNat (σ.2 (1 + l.toNat) z) = σ.2 (6 + l.toNat) z ∧ mrB σ l.toNat (σ.2 (1 + t.toNat) (findB σ t.toNat (σ.2 (6 + l.toNat) z))) = σ.2 (6 + l.toNat) z then 1 else 0) : Int) = 1 from if_pos (by omega)] at K522 ⊢; exact K522) | (rw [show ((if findB σ t.toNat (σ.2 (6 + l.toNat) z) ≠ -1 ∧ mrB σ t.toNat (σ.2 (1 + l.toNat) z) = σ.2 (6 + l.toNat) z ∧ mrB σ l.toNat (σ.2 (1 + t.toNat) (findB σ t.toNat (σ.2 (6 + l.toNat) z))) = σ.2 (6 + l.toNat) z then 1 else 0) : Int) = 0 from if_neg (by omega)] at K522; exact K522) | (rw [show ((if findB σ t.toNat (σ.2 (6 + l.toNat) z) ≠ -1 ∧ mrB σ t.toNat (σ.2 (1 + l.toNat) z) = σ.2 (6 + l.toNat) z ∧ mrB σ l.toNat (σ.2 (1 + t.toNat) (findB σ t.toNat (σ.2 (6 + l.toNat) z))) = σ.2 (6 + l.toNat) z then 1 else 0) : Int) = 0 from if_neg (by omega)] at K522 ⊢; exact K522))
    refine j_iadd hC dX4_isSame_522 ?_
    refine j_istore hC dX4_isSame_523 [(12, vI (co + (if findB σ t.toNat (σ.2 (6 + l.toNat) z) ≠ -1 ∧ mrB σ t.toNat (σ.2 (1 + l.toNat) z) = σ.2 (6 + l.toNat) z ∧ mrB σ l.toNat (σ.2 (1 + t.toNat) (findB σ t.toNat (σ.2 (6 + l.toNat) z))) = σ.2 (6 + l.toNat) z then 1 else 0))), (11, vI (mr + (if mrB σ t.toNat (σ.2 (1 + l.toNat) z) ≠ -1 ∧ mrB σ t.toNat (σ.2 (1 + l.toNat) z) ≠ σ.2 (6 + l.toNat) z then 1 else 0))), (15, vI (findB σ (t).toNat (σ.2 (6 + l.toNat) z))), (14, vI (mrB σ (t).toNat (σ.2 (1 + l.toNat) z))), (13, vI (z)), (10, vI (t)), (0, .ref a), (1, .ref (gd g (0))), (2, vI (σ.1 0)), (3, vI (al)), (4, vI (l)), (5, .ref (rL r l.toNat))] (by decide) rfl ?_
    refine j_aload_n hC dX4_isSame_525 7 rfl ?_
    refine j_iload hC dX4_isSame_526 10 rfl ?_
    refine j_iload hC dX4_isSame_528 4 rfl ?_
    refine j_iload hC dX4_isSame_530 5 rfl ?_
    refine j_callV1 (ar := 3) hC hR (c_X3_read (hlJ hC) (gx g X) σ hI l z t (by omega) (by omega) (by omega) ) [] rfl 0 rfl rfl rfl (by decide) (by decide +kernel) rfl wd389 wd298 wd299 wd1 wd300 (by first | decide | omega) (Nat.le_of_ble_eq_true rfl) dX4_isSame_532 ?_
    have hq532 := mrB_rg hI (IC_l hI (l := t) (by omega)).2.2 (σ.2 (1 + l.toNat) z)
    refine j_iload hC dX4_isSame_535 3 rfl ?_
    refine j_icmp_eq (tgt := 542) hC dX4_isSame_537 (by decide) (by omega) (fun _ => ?_) (fun h => absurd h (by omega))
    refine j_iinc hC dX4_isSame_542 4 [(13, vI (z + 1)), (12, vI (co + (if findB σ t.toNat (σ.2 (6 + l.toNat) z) ≠ -1 ∧ mrB σ t.toNat (σ.2 (1 + l.toNat) z) = σ.2 (6 + l.toNat) z ∧ mrB σ l.toNat (σ.2 (1 + t.toNat) (findB σ t.toNat (σ.2 (6 + l.toNat) z))) = σ.2 (6 + l.toNat) z then 1 else 0))), (11, vI (mr + (if mrB σ t.toNat (σ.2 (1 + l.toNat) z) ≠ -1 ∧ mrB σ t.toNat (σ.2 (1 + l.toNat) z) ≠ σ.2 (6 + l.toNat) z then 1 else 0))), (15, vI (findB σ (t).toNat (σ.2 (6 + l.toNat) z))), (14, vI (mrB σ (t).toNat (σ.2 (1 + l.toNat) z))), (10, vI (t)), (0, .ref a), (1, .ref (gd g (0))), (2, vI (σ.1 0)), (3, vI (al)), (4, vI (l)), (5, .ref (rL r l.toNat))] rfl (by decide) rfl ?_
    refine j_goto (tgt := 409) hC dX4_isSame_545 (by decide) ?_
    refine j_sub [0, 2, 1, 5, 6, 7, 8, 9, 10, 11] rfl ?_
    exact ih (z + 1) _ _ (by omega) (by omega) kx
set_option maxHeartbeats 4000000 in
set_option maxRecDepth 100000 in
theorem lp_same_t {mc : MC} {g : GG} {X : va_W} {σ : Sg} {Q : State → Prop} {a : Nat} {r : RR} (hr : Rp g X a σ r) (hI : IC σ) (hC : Cx mc (gx g X) cX4_isSame RX4 16 (some .boolean)) (hR : mR mc = rmJ 6 144 0 0) (hv : Iv σ) (l al : Int) (hl : 0 ≤ l ∧ l < σ.1 0) : ∀ (d : Nat) (t : Int), (0 ≤ t) → (t + (d : Int) = σ.1 0) → (J mc (gx g X) 0 0 Q 601 [(0, .ref a), (1, .ref (gd g (0))), (2, vI (σ.1 0)), (3, vI (al)), (4, vI (l)), (5, .ref (rL r l.toNat))] [] σ) → J mc (gx g X) 0 0 Q 394 [(10, vI (t)), (0, .ref a), (1, .ref (gd g (0))), (2, vI (σ.1 0)), (3, vI (al)), (4, vI (l)), (5, .ref (rL r l.toNat))] [] σ := by
  intro d
  induction d with
  | zero =>
    intro t h0 hz kx
    have hkn := IC_k hI hl
    have hc0 := IC_n hI
    refine j_iload hC dX4_isSame_394 0 rfl ?_
    refine j_iload_n hC dX4_isSame_396 3 rfl ?_
    refine j_icmp_ge (tgt := 601) hC dX4_isSame_397 (by decide) (by omega) (fun _ => ?_) (fun h => absurd h (by omega))
    refine j_sub [1, 2, 3, 4, 5, 6] rfl ?_
    exact kx
  | succ d ih =>
    intro t h0 hz kx
    have hkn := IC_k hI hl
    have hc0 := IC_n hI
    have hcc := ccB_le hI hv.2.1 (IC_l hI hl).2.1 (IC_l hI (l := t) (by omega)).2.1
    refine j_iload hC dX4_isSame_394 0 rfl ?_
    refine j_iload_n hC dX4_isSame_396 3 rfl ?_
    refine j_icmp_ge (tgt := 601) hC dX4_isSame_397 (by decide) (by omega) (fun h => absurd h (by omega)) (fun _ => ?_)
    refine j_iconst hC dX4_isSame_400 ?_
    refine j_istore hC dX4_isSame_401 [(11, vI (0)), (10, vI (t)), (0, .ref a), (1, .ref (gd g (0))), (2, vI (σ.1 0)), (3, vI (al)), (4, vI (l)), (5, .ref (rL r l.toNat))] (by decide) rfl ?_
    refine j_iconst hC dX4_isSame_403 ?_
    refine j_istore hC dX4_isSame_404 [(12, vI (0)), (11, vI (0)), (10, vI (t)), (0, .ref a), (1, .ref (gd g (0))), (2, vI (σ.1 0)), (3, vI (al)), (4, vI (l)), (5, .ref (rL r l.toNat))] (by decide) rfl ?_
    refine j_iconst hC dX4_isSame_406 ?_
    refine j_istore hC dX4_isSame_407 [(13, vI (0)), (12, vI (0)), (11, vI (0)), (10, vI (t)), (0, .ref a), (1, .ref (gd g (0))), (2, vI (σ.1 0)), (3, vI (al)), (4, vI (l)), (5, .ref (rL r l.toNat))] (by decide) rfl ?_
    refine j_sub [0, 2, 1, 3, 4, 5, 6, 7, 8, 9] rfl ?_
    refine lp_same_r hr hI hC hR l al t hl (by omega) (cN σ l.toNat) 0 0 0 (by omega) (by omega) ?_
    show J mc (gx g X) 0 0 Q 548 [(11, vI (cmB σ t.toNat l.toNat)), (12, vI (ccB σ l.toNat t.toNat)), (10, vI (t)), (0, .ref a), (1, .ref (gd g (0))), (2, vI (σ.1 0)), (3, vI (al)), (4, vI (l)), (5, .ref (rL r l.toNat))] [] σ
    refine j_aload_n hC dX4_isSame_548 4 rfl ?_
    refine j_iload hC dX4_isSame_549 7 rfl ?_
    refine j_iload hC dX4_isSame_551 2 rfl ?_
    refine j_callV1 (ar := 2) hC hR (c_X3_understood (hlJ hC) (gx g X) σ hI l t (by omega) (by omega) ) [] rfl 0 rfl rfl rfl (by decide) (by decide +kernel) rfl wd390 wd306 wd307 wd1 wd308 (by first | decide | omega) (Nat.le_of_ble_eq_true rfl) dX4_isSame_553 ?_
    have hq553 : 0 ≤ cuB σ t.toNat l.toNat ∧ cuB σ t.toNat l.toNat ≤ 16 := cnt0_rg _ hI (IC_l hI (l := l) (by omega)).2.2
    refine j_aload_n hC dX4_isSame_556 3 rfl ?_
    refine j_iload hC dX4_isSame_557 7 rfl ?_
    refine j_iload hC dX4_isSame_559 2 rfl ?_
    refine x_callV1 (ar := 2) hC hR (c_X4_understood (hlJ hC) g X σ hr hI l t (by omega) (by omega)) [vI (cuB σ t.toNat l.toNat)] rfl hr.1 rfl rfl (by decide) (by decide +kernel) rfl wd391 wd392 wd393 wd4 wd394 (by first | decide | omega) (Nat.le_of_ble_eq_true rfl) dX4_isSame_561 ?_
    refine j_icmp_ne (tgt := 593) hC dX4_isSame_564 (by decide) (by omega) (fun h => absurd h (by omega)) (fun _ => ?_)
    refine j_aload_n hC dX4_isSame_567 4 rfl ?_
    refine j_iload hC dX4_isSame_568 7 rfl ?_
    refine j_iload hC dX4_isSame_570 2 rfl ?_
    refine j_callV1 (ar := 2) hC hR (c_X3_misread (hlJ hC) (gx g X) σ hI l t (by omega) (by omega) ) [] rfl 0 rfl rfl rfl (by decide) (by decide +kernel) rfl wd395 wd315 wd316 wd1 wd317 (by first | decide | omega) (Nat.le_of_ble_eq_true rfl) dX4_isSame_572 ?_
    have hq572 : 0 ≤ cmB σ t.toNat l.toNat ∧ cmB σ t.toNat l.toNat ≤ 16 := cnt0_rg _ hI (IC_l hI (l := l) (by omega)).2.2
    refine j_iload hC dX4_isSame_575 0 rfl ?_
    refine j_icmp_ne (tgt := 593) hC dX4_isSame_577 (by decide) (by omega) (fun h => absurd h (by omega)) (fun _ => ?_)
    refine j_aload_n hC dX4_isSame_580 4 rfl ?_
    refine j_iload hC dX4_isSame_581 7 rfl ?_
    refine j_iload hC dX4_isSame_583 2 rfl ?_
    refine j_callV1 (ar := 2) hC hR (c_X3_common (hlJ hC) (gx g X) σ hI l t (by omega) (by omega) ) [] rfl 0 rfl rfl rfl (by decide) (by decide +kernel) rfl wd396 wd323 wd324 wd1 wd325 (by first | decide | omega) (Nat.le_of_ble_eq_true rfl) dX4_isSame_585 ?_
    have hq585 : 0 ≤ ccB σ t.toNat l.toNat ∧ ccB σ t.toNat l.toNat ≤ 16 := cnt0_rg _ hI (IC_l hI (l := t) (by omega)).2.2
    refine j_iload hC dX4_isSame_588 1 rfl ?_
    refine j_icmp_eq (tgt := 595) hC dX4_isSame_590 (by decide) (by omega) (fun _ => ?_) (fun h => absurd h (by omega))
    refine j_iinc hC dX4_isSame_595 2 [(10, vI (t + 1)), (11, vI (cmB σ t.toNat l.toNat)), (12, vI (ccB σ l.toNat t.toNat)), (0, .ref a), (1, .ref (gd g (0))), (2, vI (σ.1 0)), (3, vI (al)), (4, vI (l)), (5, .ref (rL r l.toNat))] rfl (by decide) rfl ?_
    refine j_goto (tgt := 394) hC dX4_isSame_598 (by decide) ?_
    refine j_sub [0, 3, 4, 5, 6, 7, 8] rfl ?_
    exact ih (t + 1) (by omega) (by omega) kx
set_option maxHeartbeats 4000000 in
set_option maxRecDepth 100000 in
theorem lp_same_o {mc : MC} {g : GG} {X : va_W} {σ : Sg} {Q : State → Prop} {a : Nat} {r : RR} (hr : Rp g X a σ r) (hI : IC σ) (hC : Cx mc (gx g X) cX4_isSame RX4 16 (some .boolean)) (hR : mR mc = rmJ 6 144 0 0) (hv : Iv σ)  : ∀ (d : Nat) (l : Int) (al : Int), (0 ≤ l) → (l + (d : Int) = σ.1 0) → (J mc (gx g X) 0 0 Q 607 [(3, vI (msF σ d l al)), (0, .ref a), (1, .ref (gd g (0))), (2, vI (σ.1 0))] [] σ) → J mc (gx g X) 0 0 Q 32 [(4, vI (l)), (3, vI (al)), (0, .ref a), (1, .ref (gd g (0))), (2, vI (σ.1 0))] [] σ := by
  intro d
  induction d with
  | zero =>
    intro l al h0 hz kx
    have hc0 := IC_n hI
    refine j_iload hC dX4_isSame_32 0 rfl ?_
    refine j_iload_n hC dX4_isSame_34 4 rfl ?_
    refine j_icmp_ge (tgt := 607) hC dX4_isSame_35 (by decide) (by omega) (fun _ => ?_) (fun h => absurd h (by omega))
    refine j_sub [1, 2, 3, 4] rfl ?_
    exact kx
  | succ d ih =>
    intro l al h0 hz kx
    have hc0 := IC_n hI
    have hl : 0 ≤ l ∧ l < σ.1 0 := by omega
    have hkn := IC_k hI hl
    have hl5 := (IC_l hI hl).2.2
    have hca : caB σ l.toNat = pMF (fun j k => decide (dst (σ.2 0) (lkB σ l.toNat j) (lkB σ l.toNat k) = 0)) 0 (cN σ l.toNat) 0 0 := caB_p hI hl5
    have hct := ctB_w hI hl5
    have hfa := faB_w hI hl5
    have hc9 := clO_99 hI hl5
    have hfa2 : faB σ l.toNat = if clO (dB σ l.toNat) (cN σ l.toNat) (cN σ l.toNat) 0 99 = 99 then 0 else (clO (dB σ l.toNat) (cN σ l.toNat) (cN σ l.toNat) 0 99) := by
      rw [hfa]
      by_cases q : σ.1 (2 + l.toNat) < 2
      · rw [if_pos q, if_pos (hc9.2.2.mpr q)]
      · rw [if_neg q, if_neg (fun z => q (hc9.2.2.mp z))]
    have hsn : snB σ l.toNat = amF (fun z => cnB σ l.toNat z) (cN σ l.toNat) 0 (-1) (-1) := rfl
    rw [show msF σ (d + 1) l al = msF σ d (l + 1) (al + σ.1 (2 + l.toNat)) from rfl] at kx
    refine j_iload hC dX4_isSame_32 0 rfl ?_
    refine j_iload_n hC dX4_isSame_34 4 rfl ?_
    refine j_icmp_ge (tgt := 607) hC dX4_isSame_35 (by decide) (by omega) (fun h => absurd h (by omega)) (fun _ => ?_)
    refine j_aload_n hC dX4_isSame_38 2 rfl ?_
    refine r_books hC hr wd530 dX4_isSame_39 ?_
    refine j_iload hC dX4_isSame_42 0 rfl ?_
    refine r_lodge hC hr hI (by omega) dX4_isSame_44 ?_
    refine j_astore hC dX4_isSame_45 [(5, .ref (rL r l.toNat)), (4, vI (l)), (3, vI (al)), (0, .ref a), (1, .ref (gd g (0))), (2, vI (σ.1 0))] (by decide) rfl ?_
    refine j_iload_n hC dX4_isSame_47 2 rfl ?_
    refine j_aload hC dX4_isSame_48 0 rfl ?_
    refine r_llen hC hr hI (by omega) dX4_isSame_50 ?_
    refine j_iadd hC dX4_isSame_51 ?_
    refine j_istore_n hC dX4_isSame_52 [(3, vI (al + (σ.1 (2 + l.toNat)))), (5, .ref (rL r l.toNat)), (4, vI (l)), (0, .ref a), (1, .ref (gd g (0))), (2, vI (σ.1 0))] (by decide) rfl ?_
    refine j_iconst hC dX4_isSame_53 ?_
    refine j_istore hC dX4_isSame_54 [(6, vI (0)), (3, vI (al + (σ.1 (2 + l.toNat)))), (5, .ref (rL r l.toNat)), (4, vI (l)), (0, .ref a), (1, .ref (gd g (0))), (2, vI (σ.1 0))] (by decide) rfl ?_
    refine j_bipush hC dX4_isSame_56 (by decide) ?_
    refine j_istore hC dX4_isSame_58 [(7, vI (99)), (6, vI (0)), (3, vI (al + (σ.1 (2 + l.toNat)))), (5, .ref (rL r l.toNat)), (4, vI (l)), (0, .ref a), (1, .ref (gd g (0))), (2, vI (σ.1 0))] (by decide) rfl ?_
    refine j_iconst hC dX4_isSame_60 ?_
    refine j_istore hC dX4_isSame_61 [(8, vI (-1)), (7, vI (99)), (6, vI (0)), (3, vI (al + (σ.1 (2 + l.toNat)))), (5, .ref (rL r l.toNat)), (4, vI (l)), (0, .ref a), (1, .ref (gd g (0))), (2, vI (σ.1 0))] (by decide) rfl ?_
    refine j_iconst hC dX4_isSame_63 ?_
    refine j_istore hC dX4_isSame_64 [(9, vI (-1)), (8, vI (-1)), (7, vI (99)), (6, vI (0)), (3, vI (al + (σ.1 (2 + l.toNat)))), (5, .ref (rL r l.toNat)), (4, vI (l)), (0, .ref a), (1, .ref (gd g (0))), (2, vI (σ.1 0))] (by decide) rfl ?_
    refine j_iconst hC dX4_isSame_66 ?_
    refine j_istore hC dX4_isSame_67 [(10, vI (0)), (9, vI (-1)), (8, vI (-1)), (7, vI (99)), (6, vI (0)), (3, vI (al + (σ.1 (2 + l.toNat)))), (5, .ref (rL r l.toNat)), (4, vI (l)), (0, .ref a), (1, .ref (gd g (0))), (2, vI (σ.1 0))] (by decide) rfl ?_
    refine j_sub [0, 4, 3, 2, 1, 8, 9, 10, 5, 7, 6] rfl ?_
    refine lp_same_j hr hI hC hR hv l _ hl (cN σ l.toNat) 0 0 99 (-1) (-1) (by omega) (by omega) (by omega) (by omega) ?_
    refine j_aload_n hC dX4_isSame_318 4 rfl ?_
    refine j_iload hC dX4_isSame_319 7 rfl ?_
    refine j_callV1 (ar := 1) hC hR (c_X3_signsOf (hlJ hC) (gx g X) σ hI l (by omega) ) [] rfl 0 rfl rfl rfl (by decide) (by decide +kernel) rfl wd372 wd184 wd185 wd1 wd186 (by first | decide | omega) (Nat.le_of_ble_eq_true rfl) dX4_isSame_321 ?_
    refine j_aload hC dX4_isSame_324 8 rfl ?_
    refine r_llen hC hr hI (by omega) dX4_isSame_326 ?_
    refine j_icmp_ne (tgt := 389) hC dX4_isSame_327 (by decide) (by omega) (fun h => absurd h (by omega)) (fun _ => ?_)
    refine j_aload_n hC dX4_isSame_330 4 rfl ?_
    refine j_iload hC dX4_isSame_331 7 rfl ?_
    refine j_callV1 (ar := 1) hC hR (c_X3_alikePairs (hlJ hC) (gx g X) σ hI l (by omega) ) [] rfl 0 rfl rfl rfl (by decide) (by decide +kernel) rfl wd373 wd246 wd247 wd1 wd248 (by first | decide | omega) (Nat.le_of_ble_eq_true rfl) dX4_isSame_333 ?_
    have hq333 : 0 ≤ caB σ l.toNat ∧ caB σ l.toNat ≤ 256 := pOB_rg _ hI (IC_l hI (l := l) (by omega)).2.2
    refine j_aload_n hC dX4_isSame_336 3 rfl ?_
    refine j_iload hC dX4_isSame_337 7 rfl ?_
    refine x_callV1 (ar := 1) hC hR (c_X4_alike (hlJ hC) g X σ hr hI l (by omega)) [vI (caB σ l.toNat)] rfl hr.1 rfl rfl (by decide) (by decide +kernel) rfl wd374 wd375 wd376 wd4 wd377 (by first | decide | omega) (Nat.le_of_ble_eq_true rfl) dX4_isSame_339 ?_
    refine j_icmp_ne (tgt := 389) hC dX4_isSame_342 (by decide) (by omega) (fun h => absurd h (by omega)) (fun _ => ?_)
    refine j_aload_n hC dX4_isSame_345 4 rfl ?_
    refine j_iload hC dX4_isSame_346 7 rfl ?_
    refine j_callV1 (ar := 1) hC hR (c_X3_thumbPairs (hlJ hC) (gx g X) σ hI l (by omega) ) [] rfl 0 rfl rfl rfl (by decide) (by decide +kernel) rfl wd378 wd261 wd262 wd1 wd263 (by first | decide | omega) (Nat.le_of_ble_eq_true rfl) dX4_isSame_348 ?_
    have hq348 : 0 ≤ ctB σ l.toNat ∧ ctB σ l.toNat ≤ 256 := pOB_rg _ hI (IC_l hI (l := l) (by omega)).2.2
    refine j_iload hC dX4_isSame_351 0 rfl ?_
    refine j_icmp_ne (tgt := 389) hC dX4_isSame_353 (by decide) (by omega) (fun h => absurd h (by omega)) (fun _ => ?_)
    refine j_aload_n hC dX4_isSame_356 4 rfl ?_
    refine j_iload hC dX4_isSame_357 7 rfl ?_
    refine j_callV1 (ar := 1) hC hR (c_X3_closest (hlJ hC) (gx g X) σ hI l (by omega) ) [] rfl 0 rfl rfl rfl (by decide) (by decide +kernel) rfl wd379 wd271 wd272 wd1 wd273 (by first | decide | omega) (Nat.le_of_ble_eq_true rfl) dX4_isSame_359 ?_
    have hq359 := faB_rg hI (IC_l hI (l := l) (by omega)).2.2
    refine j_iload hC dX4_isSame_362 1 rfl ?_
    refine j_bipush hC dX4_isSame_364 (by decide) ?_
    suffices K375 : J mc (gx g X) 0 0 Q 375 [(6, vI (skO (thW σ l.toNat) (cN σ l.toNat) (cN σ l.toNat) 0 0)), (7, vI (clO (dB σ l.toNat) (cN σ l.toNat) (cN σ l.toNat) 0 99)), (8, vI (amF (fun z => cnB σ l.toNat z) (cN σ l.toNat) 0 (-1) (-1))), (0, .ref a), (1, .ref (gd g (0))), (2, vI (σ.1 0)), (3, vI (al + σ.1 (2 + l.toNat))), (4, vI (l)), (5, .ref (rL r l.toNat))] [vI ((if clO (dB σ l.toNat) (cN σ l.toNat) (cN σ l.toNat) 0 99 = 99 then 0 else (clO (dB σ l.toNat) (cN σ l.toNat) (cN σ l.toNat) 0 99))), vI (faB σ l.toNat)] σ by
      refine j_icmp_ne (tgt := 373) hC dX4_isSame_366 (by decide) (by omega) (fun h366 => ?_) (fun h366 => ?_)
      · refine j_iload hC dX4_isSame_373 1 rfl ?_
        exact (by first | (rw [show ((if clO (dB σ l.toNat) (cN σ l.toNat) (cN σ l.toNat) 0 99 = 99 then 0 else (clO (dB σ l.toNat) (cN σ l.toNat) (cN σ l.toNat) 0 99)) : Int) = 0 from if_pos (by omega)] at K375; exact K375) | (rw [show ((if clO (dB σ l.toNat) (cN σ l.toNat) (cN σ l.toNat) 0 99 = 99 then 0 else (clO (dB σ l.toNat) (cN σ l.toNat) (cN σ l.toNat) 0 99)) : Int) = 0 from if_pos (by omega)] at K375 ⊢; exact K375) | (rw [show ((if clO (dB σ l.toNat) (cN σ l.toNat) (cN σ l.toNat) 0 99 = 99 then 0 else (clO (dB σ l.toNat) (cN σ l.toNat) (cN σ l.toNat) 0 99)) : Int) = (clO (dB σ l.toNat) (cN σ l.toNat) (cN σ l.toNat) 0 99) from if_neg (by omega)] at K375; exact K375) | (rw [show ((if clO (dB σ l.toNat) (cN σ l.toNat) (cN σ l.toNat) 0 99 = 99 then 0 else (clO (dB σ l.toNat) (cN σ l.toNat) (cN σ l.toNat) 0 99)) : Int) = (clO (dB σ l.toNat) (cN σ l.toNat) (cN σ l.toNat) 0 99) from if_neg (by omega)] at K375 ⊢; exact K375))
      · refine j_iconst hC dX4_isSame_369 ?_
        refine j_goto (tgt := 375) hC dX4_isSame_370 (by decide) ?_
        exact (by first | (rw [show ((if clO (dB σ l.toNat) (cN σ l.toNat) (cN σ l.toNat) 0 99 = 99 then 0 else (clO (dB σ l.toNat) (cN σ l.toNat) (cN σ l.toNat) 0 99)) : Int) = 0 from if_pos (by omega)] at K375; exact K375) | (rw [show ((if clO (dB σ l.toNat) (cN σ l.toNat) (cN σ l.toNat) 0 99 = 99 then 0 else (clO (dB σ l.toNat) (cN σ l.toNat) (cN σ l.toNat) 0 99)) : Int) = 0 from if_pos (by omega)] at K375 ⊢; exact K375) | (rw [show ((if clO (dB σ l.toNat) (cN σ l.toNat) (cN σ l.toNat) 0 99 = 99 then 0 else (clO (dB σ l.toNat) (cN σ l.toNat) (cN σ l.toNat) 0 99)) : Int) = (clO (dB σ l.toNat) (cN σ l.toNat) (cN σ l.toNat) 0 99) from if_neg (by omega)] at K375; exact K375) | (rw [show ((if clO (dB σ l.toNat) (cN σ l.toNat) (cN σ l.toNat) 0 99 = 99 then 0 else (clO (dB σ l.toNat) (cN σ l.toNat) (cN σ l.toNat) 0 99)) : Int) = (clO (dB σ l.toNat) (cN σ l.toNat) (cN σ l.toNat) 0 99) from if_neg (by omega)] at K375 ⊢; exact K375))
    refine j_icmp_ne (tgt := 389) hC dX4_isSame_375 (by decide) (by omega) (fun h => absurd h (by omega)) (fun _ => ?_)
    refine j_aload_n hC dX4_isSame_378 4 rfl ?_
    refine j_iload hC dX4_isSame_379 7 rfl ?_
    refine j_callV1 (ar := 1) hC hR (c_X3_mostMistaken (hlJ hC) (gx g X) σ hI l (by omega) ) [] rfl 0 rfl rfl rfl (by decide) (by decide +kernel) rfl wd380 wd286 wd287 wd1 wd288 (by first | decide | omega) (Nat.le_of_ble_eq_true rfl) dX4_isSame_381 ?_
    have hq381 := snB_rg hI (IC_l hI (l := l) (by omega)).2.2
    refine j_iload hC dX4_isSame_384 2 rfl ?_
    refine j_icmp_eq (tgt := 391) hC dX4_isSame_386 (by decide) (by omega) (fun _ => ?_) (fun h => absurd h (by omega))
    refine j_iconst hC dX4_isSame_391 ?_
    refine j_istore hC dX4_isSame_392 [(10, vI (0)), (6, vI (skO (thW σ l.toNat) (cN σ l.toNat) (cN σ l.toNat) 0 0)), (7, vI (clO (dB σ l.toNat) (cN σ l.toNat) (cN σ l.toNat) 0 99)), (8, vI (amF (fun z => cnB σ l.toNat z) (cN σ l.toNat) 0 (-1) (-1))), (0, .ref a), (1, .ref (gd g (0))), (2, vI (σ.1 0)), (3, vI (al + σ.1 (2 + l.toNat))), (4, vI (l)), (5, .ref (rL r l.toNat))] (by decide) rfl ?_
    refine j_sub [0, 4, 5, 6, 7, 8, 9] rfl ?_
    refine lp_same_t hr hI hC hR hv l _ (by omega) (nLo σ) 0 (by omega) (by omega) ?_
    refine j_iinc hC dX4_isSame_601 4 [(4, vI (l + 1)), (0, .ref a), (1, .ref (gd g (0))), (2, vI (σ.1 0)), (3, vI (al + σ.1 (2 + l.toNat))), (5, .ref (rL r l.toNat))] rfl (by decide) rfl ?_
    refine j_goto (tgt := 32) hC dX4_isSame_604 (by decide) ?_
    refine j_sub [0, 4, 1, 2, 3] rfl ?_
    exact ih (l + 1) _ (by omega) (by omega) kx
set_option maxHeartbeats 4000000 in
set_option maxRecDepth 100000 in
theorem c_X4_isSame {ll : Launch} (hll : ll.stackTraces = false) (g : GG) (X : va_W) (σ : Sg) {a : Nat} {r : RR} (hr : Rp g X a σ r) (hv : Iv σ) : CN ll yX4_isSame cX4_isSame 16 (some .boolean) 6 144 0 0 (gx g X) [.ref a, .ref (gd g (0))] σ (pt (some (vI 1)) σ) := by
  refine CN_of (own := RX4) hll (by decide) rfl (Nat.le_of_ble_eq_true rfl) (fun mc hC _ hR => ?_)
  refine j_lv (lv2 := [(0, .ref a), (1, .ref (gd g (0)))]) rfl ?_
  have hI := hv.1
  have hc0 := IC_n hI
  have hg9 := hv.2.2.1
  have hg8 := gcF_rg (σ.2 0)
  have hI2 := hI.2.1
  refine j_aload_n hC dX4_isSame_0 0 rfl ?_
  refine r_books hC hr wd530 dX4_isSame_1 ?_
  refine r_blen hC hr hI dX4_isSame_4 ?_
  refine j_istore_n hC dX4_isSame_5 [(2, vI (σ.1 0)), (0, .ref a), (1, .ref (gd g (0)))] (by decide) rfl ?_
  refine j_aload_n hC dX4_isSame_6 2 rfl ?_
  refine j_callV1 (ar := 0) hC hR (c_X3_lodges (hlJ hC) (gx g X) σ hI  ) [] rfl 0 rfl rfl rfl (by decide) (by decide +kernel) rfl wd342 wd180 wd181 wd1 wd182 (by first | decide | omega) (Nat.le_of_ble_eq_true rfl) dX4_isSame_7 ?_
  refine j_iload_n hC dX4_isSame_10 0 rfl ?_
  refine j_icmp_ne (tgt := 25) hC dX4_isSame_11 (by decide) (by omega) (fun h => absurd h (by omega)) (fun _ => ?_)
  refine j_aload_n hC dX4_isSame_14 2 rfl ?_
  refine j_callV1 (ar := 0) hC hR (c_X3_groups (hlJ hC) (gx g X) σ hI  ) [] rfl 0 rfl rfl rfl (by decide) (by decide +kernel) rfl wd343 wd156 wd157 wd1 wd158 (by first | decide | omega) (Nat.le_of_ble_eq_true rfl) dX4_isSame_15 ?_
  refine j_aload_n hC dX4_isSame_18 1 rfl ?_
  refine x_callV1 (ar := 0) hC hR (c_X4_groups (hlJ hC) g X σ hr hI) [vI (σ.1 1)] rfl hr.1 rfl rfl (by decide) (by decide +kernel) rfl wd344 wd345 wd346 wd4 wd347 (by first | decide | omega) (Nat.le_of_ble_eq_true rfl) dX4_isSame_19 ?_
  have hg19 := gcF_rg (σ.2 0)
  refine j_icmp_eq (tgt := 27) hC dX4_isSame_22 (by decide) (by omega) (fun _ => ?_) (fun h => absurd h (by omega))
  refine j_iconst hC dX4_isSame_27 ?_
  refine j_istore_n hC dX4_isSame_28 [(3, vI (0)), (2, vI (σ.1 0)), (0, .ref a), (1, .ref (gd g (0)))] (by decide) rfl ?_
  refine j_iconst hC dX4_isSame_29 ?_
  refine j_istore hC dX4_isSame_30 [(4, vI (0)), (3, vI (0)), (2, vI (σ.1 0)), (0, .ref a), (1, .ref (gd g (0)))] (by decide) rfl ?_
  refine j_sub [0, 1, 3, 4, 2] rfl ?_
  refine lp_same_o hr hI hC hR hv (nLo σ) 0 0 (by omega) (by omega) ?_
  have hms := msF_rg hI (nLo σ) 0 0 (by omega) (by omega)
  have hdv : σ.1 0 ≠ 0 → vf_n64 (FP.ddiv (FP.i2d (iI (msF σ (nLo σ) 0 0))) (FP.i2d (iI (σ.1 0)))) := fun h => dv_ok (by omega) (by omega)
  refine j_aload_n hC dX4_isSame_607 2 rfl ?_
  refine j_callV1 (ar := 0) hC hR (c_X3_meanSigns (hlJ hC) (gx g X) σ hI  ) [] rfl 0 rfl rfl rfl (by decide) (by decide +kernel) rfl wd397 wd398 wd399 wd1 wd400 (by first | decide | omega) (Nat.le_of_ble_eq_true rfl) dX4_isSame_608 ?_
  refine j_iload_n hC dX4_isSame_611 3 rfl ?_
  refine j_if_ne (tgt := 619) hC dX4_isSame_612 (by decide) (by omega) (fun h612 => ?_) (fun h612 => ?_)
  · have hdv := hdv h612
    refine j_iload_n hC dX4_isSame_619 0 rfl ?_
    refine j_i2d hC dX4_isSame_620 ?_
    refine j_iload_n hC dX4_isSame_621 3 rfl ?_
    refine j_i2d hC dX4_isSame_622 ?_
    refine j_ddiv hC dX4_isSame_623 hdv ?_
    refine j_dcmp hC dX4_isSame_624 ?_
    rw [show FP.dcmp (msB σ) (FP.ddiv (FP.i2d (iI (msF σ (nLo σ) 0 0))) (FP.i2d (iI (σ.1 0)))) = FP.dcmp (FP.ddiv (FP.i2d (iI (msF σ (nLo σ) 0 0))) (FP.i2d (iI (σ.1 0)))) (FP.ddiv (FP.i2d (iI (msF σ (nLo σ) 0 0))) (FP.i2d (iI (σ.1 0)))) from by rw [show msB σ = FP.ddiv (FP.i2d (iI (msF σ (nLo σ) 0 0))) (FP.i2d (iI (σ.1 0))) from if_neg h612]]
    refine j_ifR_ne (tgt := 632) hC dX4_isSame_625 (by decide) (fun h => absurd (dv_eq (by omega) (by omega)) h) (fun _ => ?_)
    refine j_iconst hC dX4_isSame_628 ?_
    refine j_goto (tgt := 633) hC dX4_isSame_629 (by decide) ?_
    exact j_zret hC (by decide) dX4_isSame_633 ⟨rfl, rfl⟩
  · refine j_dconst0 hC dX4_isSame_615 ?_
    refine j_goto (tgt := 624) hC dX4_isSame_616 (by decide) ?_
    refine j_dcmp hC dX4_isSame_624 ?_
    rw [show FP.dcmp (msB σ) (0) = FP.dcmp (0) (0) from by rw [show msB σ = 0 from if_pos h612]]
    refine j_ifR_ne (tgt := 632) hC dX4_isSame_625 (by decide) (fun h => absurd (by decide +kernel) h) (fun _ => ?_)
    refine j_iconst hC dX4_isSame_628 ?_
    refine j_goto (tgt := 633) hC dX4_isSame_629 (by decide) ?_
    exact j_zret hC (by decide) dX4_isSame_633 ⟨rfl, rfl⟩
