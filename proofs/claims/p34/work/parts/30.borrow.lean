section XN
variable {mc : MC} {g : GG} {k n : Nat} {Q : State → Prop} {pc : Nat} {lv : List (Nat × Value)} {st : List Value} {σ : Sg} {cc : ByteArray} {own : String} {nL : Nat} {ret : Option FieldType}
theorem j_ishrR (hC : Cx mc g cc own nL ret) {x y : Int32} (hd : decode cc pc = .ok (.ishr, 1)) (kk : J mc g k n Q (pc + 1) lv (.int (x >>> (y &&& 31)) :: st) σ) : J mc g k n Q pc lv (.int y :: .int x :: st) σ :=
  fun H locs ls hP hS hl => lv_ishr hC.1 hC.2.1 hd (kk H locs ls hP hS hl)
theorem j_imulR (hC : Cx mc g cc own nL ret) {x y : Int32} (hd : decode cc pc = .ok (.imul, 1)) (kk : J mc g k n Q (pc + 1) lv (.int (x * y) :: st) σ) : J mc g k n Q pc lv (.int y :: .int x :: st) σ :=
  fun H locs ls hP hS hl => lv_imul hC.1 hC.2.1 hd (kk H locs ls hP hS hl)
theorem j_tabOut (hC : Cx mc g cc own nL ret) {dflt lo hi : Int} {offs : Array Int} {len : Nat} {z : Int} {tgt : Nat} (hz : -2147483648 ≤ z ∧ z < 2147483648) (hd : decode cc pc = .ok (.tableswitch dflt lo hi offs, len)) (h : z < lo ∨ hi < z) (ht : (pc : Int) + dflt = (tgt : Int)) (kk : J mc g k n Q tgt lv st σ) : J mc g k n Q pc lv (vI z :: st) σ :=
  fun H locs ls hP hS hl => lv_tableOut hC.1 hC.2.1 hd (by rw [iI_toInt hz.1 hz.2]; exact h) ht (kk H locs ls hP hS hl)
theorem j_tabIn (hC : Cx mc g cc own nL ret) {dflt lo hi : Int} {offs : Array Int} {len : Nat} {z off : Int} {tgt : Nat} (z0 : Int) (hz : z = z0) (h0 : -2147483648 ≤ z0 ∧ z0 < 2147483648) (hd : decode cc pc = .ok (.tableswitch dflt lo hi offs, len)) (h1 : ¬ z0 < lo) (h2 : ¬ hi < z0) (ho : offs[(z0 - lo).toNat]? = some off) (ht : (pc : Int) + off = (tgt : Int)) (kk : J mc g k n Q tgt lv st σ) : J mc g k n Q pc lv (vI z :: st) σ := by
  subst hz
  exact fun H locs ls hP hS hl => lv_tableIn hC.1 hC.2.1 hd (by rw [iI_toInt h0.1 h0.2]; exact h1) (by rw [iI_toInt h0.1 h0.2]; exact h2) (by rw [iI_toInt h0.1 h0.2]; exact ho) ht (kk H locs ls hP hS hl)
theorem j_vI (v : Int32) (kk : J mc g k n Q pc lv (vI v.toInt :: st) σ) : J mc g k n Q pc lv (.int v :: st) σ := by
  have e : iI v.toInt = v := Int32.ofInt_toInt v
  show J mc g k n Q pc lv (.int v :: st) σ
  rw [← e]
  exact kk
end XN
theorem andm (x : Int32) : 0 ≤ (x &&& 2147483647).toInt ∧ (x &&& 2147483647).toInt < 2147483648 := by
  have e : (x &&& 2147483647).toBitVec = x.toBitVec &&& 2147483647#32 := rfl
  have h : (x &&& 2147483647).toBitVec.toNat ≤ 2147483647 := by
    rw [e, BitVec.toNat_and]
    exact Nat.and_le_right
  have h2 : (x &&& 2147483647).toInt = ((x &&& 2147483647).toBitVec.toNat : Int) := by
    show (x &&& 2147483647).toBitVec.toInt = _
    exact BitVec.toInt_eq_toNat_of_lt (by omega)
  rw [h2]
  omega
/-- what 'below' answers -/
def blW (v : Int32) (n : Int) (c : Nat) : Int := if c = 0 then (v &&& 2147483647).toInt % n else blW v n (c / 2)
termination_by c
decreasing_by omega
def bl (v : Int32) (n : Int) : Int := blW v n 0
theorem bl_is (v : Int32) (n : Int) : bl v n = (v &&& 2147483647).toInt % n := by
  unfold bl
  rw [blW, if_pos rfl]
theorem bl_rg (v : Int32) {n : Int} (hn : 0 < n) : 0 ≤ bl v n ∧ bl v n < n := by
  rw [bl_is]
  exact ⟨Int.emod_nonneg _ (by omega), Int.emod_lt_of_pos _ hn⟩
/-- a number shifted -/
def sxW (x : Int32) (k : Int) (c : Nat) : Int32 := if c = 0 then x >>> (iI k &&& 31) else sxW x k (c / 2)
termination_by c
decreasing_by omega
def sx (x : Int32) (k : Int) : Int32 := sxW x k 0
theorem sx_is (x : Int32) (k : Int) : sx x k = x >>> (iI k &&& 31) := by
  unfold sx
  rw [sxW, if_pos rfl]
abbrev pN (σ : Sg) : Option Value → Sg → Prop := fun v τ => (∃ x : Int32, v = some (.int x)) ∧ τ = σ
set_option maxHeartbeats 4000000 in
set_option maxRecDepth 100000 in
theorem lp_X4_borrowed_i {mc : MC} {g : GG} {X : va_W} {σ : Sg} {Q : State → Prop} {a : Nat} {r : RR} (hr : Rp g X a σ r) (hI : IC σ) (hC : Cx mc (gx g X) cX4_borrowed RX4 10 (some (.array .int))) {k n K N : Nat} (hkn : k ≤ K ∧ n ≤ N) (hR : mR mc = rmJ 3 66 K N) (z : Int) {x q : Nat} {L2 m : Int} (hq : Sn g X q L2 m) (hL2 : 0 ≤ L2 ∧ L2 < 2304) (t : Int) (ht : 0 ≤ t ∧ t < σ.1 0) : ∀ (d : Nat) (w : Int) (b : Int), (0 ≤ w) → (w + (d : Int) = σ.1 (2 + t.toNat)) → (b = 0 ∨ b = 1) → (J mc (gx g X) k n Q 133 [(5, vI (isF (σ.2 0) (lkB σ t.toNat) L2 d w b)), (0, .ref a), (1, .ref x), (2, vI (t)), (3, vI (z)), (4, .ref q)] [] σ) → J mc (gx g X) k n Q 90 [(8, vI (w)), (5, vI (b)), (0, .ref a), (1, .ref x), (2, vI (t)), (3, vI (z)), (4, .ref q), (6, .ref (rL r t.toNat)), (7, vI (σ.1 (2 + t.toNat)))] [] σ := by
  intro d
  induction d with
  | zero =>
    intro w b h0 hz hb9 kx
    have hkt := IC_k hI ht
    refine j_iload hC dX4_borrowed_90 0 rfl ?_
    refine j_iload hC dX4_borrowed_92 8 rfl ?_
    refine j_icmp_ge (tgt := 133) hC dX4_borrowed_94 (by decide) (by omega) (fun _ => ?_) (fun h => absurd h (by omega))
    refine j_sub [1, 2, 3, 4, 5, 6] rfl ?_
    exact kx
  | succ d ih =>
    intro w b h0 hz hb9 kx
    have hkt := IC_k hI ht
    have hst := IC_s hI ht (z := w) (by omega)
    rw [show isF (σ.2 0) (lkB σ t.toNat) L2 (d + 1) w b = isF (σ.2 0) (lkB σ t.toNat) L2 d (w + 1) (if b = 1 ∧ 0 < dst (σ.2 0) L2 (σ.2 (1 + t.toNat) w) then 1 else 0) from rfl] at kx
    refine j_iload hC dX4_borrowed_90 0 rfl ?_
    refine j_iload hC dX4_borrowed_92 8 rfl ?_
    refine j_icmp_ge (tgt := 133) hC dX4_borrowed_94 (by decide) (by omega) (fun h => absurd h (by omega)) (fun _ => ?_)
    refine j_aload hC dX4_borrowed_97 7 rfl ?_
    refine j_iload hC dX4_borrowed_99 0 rfl ?_
    refine r_sign hC hr hI (by omega) (by omega) dX4_borrowed_101 ?_
    refine j_astore hC dX4_borrowed_102 [(9, .ref (rS r t.toNat w.toNat)), (8, vI (w)), (5, vI (b)), (0, .ref a), (1, .ref x), (2, vI (t)), (3, vI (z)), (4, .ref q), (6, .ref (rL r t.toNat)), (7, vI (σ.1 (2 + t.toNat)))] (by decide) rfl ?_
    refine j_iload hC dX4_borrowed_104 2 rfl ?_
    suffices K125 : J mc (gx g X) _ _ Q 125 [(9, .ref (rS r t.toNat w.toNat)), (8, vI (w)), (5, vI (b)), (0, .ref a), (1, .ref x), (2, vI (t)), (3, vI (z)), (4, .ref q), (6, .ref (rL r t.toNat)), (7, vI (σ.1 (2 + t.toNat)))] [vI ((if b = 1 ∧ 0 < dst (σ.2 0) L2 (σ.2 (1 + t.toNat) w) then 1 else 0))] σ by
      refine j_if_eq (tgt := 124) hC dX4_borrowed_106 (by decide) (by omega) (fun h106 => ?_) (fun h106 => ?_)
      · refine j_iconst hC dX4_borrowed_124 ?_
        exact (by first | (rw [show ((if b = 1 ∧ 0 < dst (σ.2 0) L2 (σ.2 (1 + t.toNat) w) then 1 else 0) : Int) = 1 from if_pos (by omega)] at K125; exact K125) | (rw [show ((if b = 1 ∧ 0 < dst (σ.2 0) L2 (σ.2 (1 + t.toNat) w) then 1 else 0) : Int) = 1 from if_pos (by omega)] at K125 ⊢; exact K125) | (rw [show ((if b = 1 ∧ 0 < dst (σ.2 0) L2 (σ.2 (1 + t.toNat) w) then 1 else 0) : Int) = 0 from if_neg (by omega)] at K125; exact K125) | (rw [show ((if b = 1 ∧ 0 < dst (σ.2 0) L2 (σ.2 (1 + t.toNat) w) then 1 else 0) : Int) = 0 from if_neg (by omega)] at K125 ⊢; exact K125))
      · refine j_aload_n hC dX4_borrowed_109 3 rfl ?_
        refine j_aload hC dX4_borrowed_110 7 rfl ?_
        refine j_aload hC dX4_borrowed_112 0 rfl ?_
        refine x_callV1 (ar := 2) hC hR (c_X4_far (hlJ hC) g X σ hr hI hq (Rp.sn hr hI (l := t) (z := w) (by omega) (by omega)) (by omega)) [] rfl hr.1 rfl rfl (by decide) (by decide +kernel) rfl wd348 wd349 wd350 wd4 wd351 (by first | decide | omega) (Nat.le_of_ble_eq_true rfl) dX4_borrowed_114 ?_
        have hd114 := dst_rg (G := σ.2 0) (x := L2) (y := σ.2 (1 + t.toNat) w) (by omega)
        refine j_if_le (tgt := 124) hC dX4_borrowed_117 (by decide) (by omega) (fun h117 => ?_) (fun h117 => ?_)
        · refine j_iconst hC dX4_borrowed_124 ?_
          exact (by first | (rw [show ((if b = 1 ∧ 0 < dst (σ.2 0) L2 (σ.2 (1 + t.toNat) w) then 1 else 0) : Int) = 1 from if_pos (by omega)] at K125; exact K125) | (rw [show ((if b = 1 ∧ 0 < dst (σ.2 0) L2 (σ.2 (1 + t.toNat) w) then 1 else 0) : Int) = 1 from if_pos (by omega)] at K125 ⊢; exact K125) | (rw [show ((if b = 1 ∧ 0 < dst (σ.2 0) L2 (σ.2 (1 + t.toNat) w) then 1 else 0) : Int) = 0 from if_neg (by omega)] at K125; exact K125) | (rw [show ((if b = 1 ∧ 0 < dst (σ.2 0) L2 (σ.2 (1 + t.toNat) w) then 1 else 0) : Int) = 0 from if_neg (by omega)] at K125 ⊢; exact K125))
        · refine j_iconst hC dX4_borrowed_120 ?_
          refine j_goto (tgt := 125) hC dX4_borrowed_121 (by decide) ?_
          exact (by first | (rw [show ((if b = 1 ∧ 0 < dst (σ.2 0) L2 (σ.2 (1 + t.toNat) w) then 1 else 0) : Int) = 1 from if_pos (by omega)] at K125; exact K125) | (rw [show ((if b = 1 ∧ 0 < dst (σ.2 0) L2 (σ.2 (1 + t.toNat) w) then 1 else 0) : Int) = 1 from if_pos (by omega)] at K125 ⊢; exact K125) | (rw [show ((if b = 1 ∧ 0 < dst (σ.2 0) L2 (σ.2 (1 + t.toNat) w) then 1 else 0) : Int) = 0 from if_neg (by omega)] at K125; exact K125) | (rw [show ((if b = 1 ∧ 0 < dst (σ.2 0) L2 (σ.2 (1 + t.toNat) w) then 1 else 0) : Int) = 0 from if_neg (by omega)] at K125 ⊢; exact K125))
    refine j_istore hC dX4_borrowed_125 [(5, vI ((if b = 1 ∧ 0 < dst (σ.2 0) L2 (σ.2 (1 + t.toNat) w) then 1 else 0))), (9, .ref (rS r t.toNat w.toNat)), (8, vI (w)), (0, .ref a), (1, .ref x), (2, vI (t)), (3, vI (z)), (4, .ref q), (6, .ref (rL r t.toNat)), (7, vI (σ.1 (2 + t.toNat)))] (by decide) rfl ?_
    refine j_iinc hC dX4_borrowed_127 2 [(8, vI (w + 1)), (5, vI ((if b = 1 ∧ 0 < dst (σ.2 0) L2 (σ.2 (1 + t.toNat) w) then 1 else 0))), (9, .ref (rS r t.toNat w.toNat)), (0, .ref a), (1, .ref x), (2, vI (t)), (3, vI (z)), (4, .ref q), (6, .ref (rL r t.toNat)), (7, vI (σ.1 (2 + t.toNat)))] rfl (by decide) rfl ?_
    refine j_goto (tgt := 90) hC dX4_borrowed_130 (by decide) ?_
    refine j_sub [0, 1, 3, 4, 5, 6, 7, 8, 9] rfl ?_
    exact ih (w + 1) _ (by omega) (by omega) (by split; exact Or.inr rfl; exact Or.inl rfl) kx
set_option maxHeartbeats 4000000 in
set_option maxRecDepth 100000 in
theorem lp_X4_borrowed {mc : MC} {g : GG} {X0 : va_W} {σ : Sg} {a : Nat} {r : RR} (hr0 : Rp g X0 a σ r) (hI : IC σ) (hR : mR mc = rmJ 3 66 4 20) {x : Nat} {L m : Int} (hx : Sn g X0 x L m) (hL : 0 ≤ L ∧ L < 2304 ∧ 0 ≤ m ∧ m < 30) (t : Int) (ht : 0 ≤ t ∧ t < σ.1 0) (hrm : σ.1 (2 + t.toNat) < 16 ∧ findB σ t.toNat m = -1) : ∀ (d : Nat) (z : Int) (k n : Nat) (X : va_W), (Cx mc (gx g X) cX4_borrowed RX4 10 (some (.array .int))) → (Sb X0 X) → (0 ≤ z) → (z + (d : Int) = 4) → (k + d ≤ 4 ∧ n + 5 * d ≤ 20) → (fuB σ t.toNat L = fuF (σ.2 0) (lkB σ t.toNat) (cN σ t.toNat) L d z) → J mc (gx g X) k n (QNG mc g (fun v τ Y => τ = σ ∧ Sb X0 Y ∧ ((v = some .null ∧ ¬ ((σ.1 (2 + t.toNat) < 16 ∧ findB σ t.toNat m = -1) ∧ fuB σ t.toNat L ≠ -1)) ∨ ∃ q, v = some (.ref q) ∧ ((σ.1 (2 + t.toNat) < 16 ∧ findB σ t.toNat m = -1) ∧ fuB σ t.toNat L ≠ -1) ∧ Sn g Y q (fuB σ t.toNat L) m)) 4 20) 27 [(3, vI (z)), (0, .ref a), (1, .ref x), (2, vI (t))] [] σ := by
  intro d
  induction d with
  | zero =>
    intro z k n X hC hb h0 hz hkn hfu
    refine j_iload_n hC dX4_borrowed_27 0 rfl ?_
    refine j_iconst hC dX4_borrowed_28 ?_
    refine j_icmp_ge (tgt := 147) hC dX4_borrowed_29 (by decide) (by omega) (fun _ => ?_) (fun h => absurd h (by omega))
    refine x_null hC dX4_borrowed_147 ?_
    refine j_widen (k2 := 4) (n2 := 20) (by omega) (by omega) ?_
    exact g_aret hC (Or.inr ⟨_, rfl⟩) (Or.inl rfl) dX4_borrowed_148 ⟨rfl, hb, Or.inl ⟨rfl, fun h => h.2 (by rw [hfu]; rfl)⟩⟩
  | succ d ih =>
    intro z k n X hC hb h0 hz hkn hfu
    have hkt := IC_k hI ht
    have hr := hr0.sb hb
    have hw9 := wth_rg (L := L) (t := ((L / 16 % 4 + z) % 4)) (by omega)
    have h01 := isF_01 (σ.2 0) (lkB σ t.toNat) (wth L ((L / 16 % 4 + z) % 4)) (cN σ t.toNat) 0 1 (Or.inr rfl)
    have hbk := isF_book hI (IC_l hI ht).2.2 (L := (wth L ((L / 16 % 4 + z) % 4))) hw9
    rw [show fuF (σ.2 0) (lkB σ t.toNat) (cN σ t.toNat) L (d + 1) z = if hsA (σ.2 0) (lkB σ t.toNat) (wth L ((L / 16 % 4 + z) % 4)) (cN σ t.toNat) 0 = 0 then (wth L ((L / 16 % 4 + z) % 4)) else fuF (σ.2 0) (lkB σ t.toNat) (cN σ t.toNat) L d (z + 1) from rfl] at hfu
    refine j_iload_n hC dX4_borrowed_27 0 rfl ?_
    refine j_iconst hC dX4_borrowed_28 ?_
    refine j_icmp_ge (tgt := 147) hC dX4_borrowed_29 (by decide) (by omega) (fun h => absurd h (by omega)) (fun _ => ?_)
    refine j_iconst hC dX4_borrowed_32 ?_
    refine x_newI hC hR 5 rfl (by decide) (by omega) dX4_borrowed_33 (fun q Y1 hn hC => ?_)
    have hf : Fr X0 q := hn.fr hb
    have hq := hn.1
    have hb := hb.tr hn.sb
    refine j_dup hC dX4_borrowed_35 rfl ?_
    refine j_iconst hC dX4_borrowed_36 ?_
    refine j_aload_n hC dX4_borrowed_37 2 rfl ?_
    refine j_iconst hC dX4_borrowed_38 ?_
    refine r_num0 hC (Sn.sb hx hb) dX4_borrowed_39 ?_
    refine x_iast hC hq (by omega) dX4_borrowed_40 (fun Y2 hw hC => ?_)
    have hb := hb.wr hf hw
    have hq := hw.1
    refine j_dup hC dX4_borrowed_41 rfl ?_
    refine j_iconst hC dX4_borrowed_42 ?_
    refine j_aload_n hC dX4_borrowed_43 2 rfl ?_
    refine j_iconst hC dX4_borrowed_44 ?_
    refine r_num1 hC (Sn.sb hx hb) dX4_borrowed_45 ?_
    refine j_iload_n hC dX4_borrowed_46 0 rfl ?_
    refine j_iadd hC dX4_borrowed_47 ?_
    refine j_iconst hC dX4_borrowed_48 ?_
    refine j_irem hC dX4_borrowed_49 (by omega) ?_
    refine x_iast hC hq (by omega) dX4_borrowed_50 (fun Y3 hw hC => ?_)
    have hb := hb.wr hf hw
    have hq := hw.1
    refine j_dup hC dX4_borrowed_51 rfl ?_
    refine j_iconst hC dX4_borrowed_52 ?_
    refine j_aload_n hC dX4_borrowed_53 2 rfl ?_
    refine j_iconst hC dX4_borrowed_54 ?_
    refine r_num2 hC (Sn.sb hx hb) dX4_borrowed_55 ?_
    refine x_iast hC hq (by omega) dX4_borrowed_56 (fun Y4 hw hC => ?_)
    have hb := hb.wr hf hw
    have hq := hw.1
    refine j_dup hC dX4_borrowed_57 rfl ?_
    refine j_iconst hC dX4_borrowed_58 ?_
    refine j_aload_n hC dX4_borrowed_59 2 rfl ?_
    refine j_iconst hC dX4_borrowed_60 ?_
    refine r_num3 hC (Sn.sb hx hb) dX4_borrowed_61 ?_
    refine x_iast hC hq (by omega) dX4_borrowed_62 (fun Y5 hw hC => ?_)
    have hb := hb.wr hf hw
    have hq := hw.1
    refine j_dup hC dX4_borrowed_63 rfl ?_
    refine j_iconst hC dX4_borrowed_64 ?_
    refine j_aload_n hC dX4_borrowed_65 2 rfl ?_
    refine j_iconst hC dX4_borrowed_66 ?_
    refine r_num4 hC (Sn.sb hx hb) dX4_borrowed_67 ?_
    refine x_iast hC hq (by omega) dX4_borrowed_68 (fun Y6 hw hC => ?_)
    have hb := hb.wr hf hw
    have hq := hw.1
    have hr := hr0.sb hb
    have hsq : Sn g Y6 q (wth L ((L / 16 % 4 + z) % 4)) m := ⟨_, hq, sgn5 (by omega) (by omega)⟩
    refine j_astore hC dX4_borrowed_69 [(4, .ref q), (3, vI (z)), (0, .ref a), (1, .ref x), (2, vI (t))] (by decide) rfl ?_
    refine j_iconst hC dX4_borrowed_71 ?_
    refine j_istore hC dX4_borrowed_72 [(5, vI (1)), (4, .ref q), (3, vI (z)), (0, .ref a), (1, .ref x), (2, vI (t))] (by decide) rfl ?_
    refine j_aload_n hC dX4_borrowed_74 3 rfl ?_
    refine r_books hC hr wd530 dX4_borrowed_75 ?_
    refine j_iload_n hC dX4_borrowed_78 5 rfl ?_
    refine r_lodge hC hr hI (by omega) dX4_borrowed_79 ?_
    refine j_astore hC dX4_borrowed_80 [(6, .ref (rL r t.toNat)), (5, vI (1)), (4, .ref q), (3, vI (z)), (0, .ref a), (1, .ref x), (2, vI (t))] (by decide) rfl ?_
    refine j_aload hC dX4_borrowed_82 0 rfl ?_
    refine r_llen hC hr hI (by omega) dX4_borrowed_84 ?_
    refine j_istore hC dX4_borrowed_85 [(7, vI (σ.1 (2 + t.toNat))), (6, .ref (rL r t.toNat)), (5, vI (1)), (4, .ref q), (3, vI (z)), (0, .ref a), (1, .ref x), (2, vI (t))] (by decide) rfl ?_
    refine j_iconst hC dX4_borrowed_87 ?_
    refine j_istore hC dX4_borrowed_88 [(8, vI (0)), (7, vI (σ.1 (2 + t.toNat))), (6, .ref (rL r t.toNat)), (5, vI (1)), (4, .ref q), (3, vI (z)), (0, .ref a), (1, .ref x), (2, vI (t))] (by decide) rfl ?_
    refine j_sub [0, 3, 6, 7, 8, 5, 4, 2, 1] rfl ?_
    refine lp_X4_borrowed_i hr hI hC (by omega) hR z (x := x) hsq hw9 t ht (cN σ t.toNat) 0 1 (by omega) (by omega) (Or.inr rfl) ?_
    refine j_iload hC dX4_borrowed_133 0 rfl ?_
    refine j_if_eq (tgt := 141) hC dX4_borrowed_135 (by decide) (by omega) (fun h135 => ?_) (fun h135 => ?_)
    · refine j_iinc hC dX4_borrowed_141 4 [(3, vI (z + 1)), (5, vI (isF (σ.2 0) (lkB σ t.toNat) (wth L ((L / 16 % 4 + z) % 4)) (cN σ t.toNat) 0 1)), (0, .ref a), (1, .ref x), (2, vI (t)), (4, .ref q)] rfl (by decide) rfl ?_
      refine j_goto (tgt := 27) hC dX4_borrowed_144 (by decide) ?_
      refine j_sub [0, 2, 3, 4] rfl ?_
      exact ih (z + 1) (k + 1) (n + 5) _ hC hb (by omega) (by omega) (by omega) (hfu.trans (if_neg (fun w => by have := hbk.mpr w; omega)))
    · refine j_aload hC dX4_borrowed_138 5 rfl ?_
      have hfu2 := hfu.trans (if_pos (hbk.mp (by omega)))
      refine j_widen (k2 := 4) (n2 := 20) (by omega) (by omega) ?_
      exact g_aret hC (Or.inr ⟨_, rfl⟩) (Or.inr ⟨_, rfl⟩) dX4_borrowed_140 ⟨rfl, hb, Or.inr ⟨q, rfl, ⟨hrm, by rw [hfu2]; omega⟩, by rw [hfu2]; exact hsq⟩⟩
set_option maxHeartbeats 4000000 in
set_option maxRecDepth 100000 in
theorem c_X4_borrowed {ll : Launch} (hll : ll.stackTraces = false) (g : GG) (X : va_W) (σ : Sg) {a : Nat} {r : RR} (hr0 : Rp g X a σ r) (hI : IC σ) {x : Nat} {L m : Int} (hx : Sn g X x L m) (hL : 0 ≤ L ∧ L < 2304 ∧ 0 ≤ m ∧ m < 30) (t : Int) (ht : 0 ≤ t ∧ t < σ.1 0) : CG ll yX4_borrowed cX4_borrowed 10 (some (.array .int)) 3 66 4 20 g X [.ref a, .ref x, vI (t)] σ (fun v τ Y => τ = σ ∧ Sb X Y ∧ ((v = some .null ∧ ¬ ((σ.1 (2 + t.toNat) < 16 ∧ findB σ t.toNat m = -1) ∧ fuB σ t.toNat L ≠ -1)) ∨ ∃ q, v = some (.ref q) ∧ ((σ.1 (2 + t.toNat) < 16 ∧ findB σ t.toNat m = -1) ∧ fuB σ t.toNat L ≠ -1) ∧ Sn g Y q (fuB σ t.toNat L) m)) := by
  refine CG_of (own := RX4) hll (by decide) rfl (Nat.le_of_ble_eq_true rfl) (fun mc hC _ hR => ?_)
  refine j_lv (lv2 := [(0, .ref a), (1, .ref x), (2, vI (t))]) rfl ?_
  have hkt := IC_k hI ht
  have hc0 := IC_n hI
  have hb : Sb X X := Sb.rf
  have hr := hr0
  refine j_aload_n hC dX4_borrowed_0 0 rfl ?_
  refine r_books hC hr wd530 dX4_borrowed_1 ?_
  refine j_iload_n hC dX4_borrowed_4 2 rfl ?_
  refine r_lodge hC hr hI (by omega) dX4_borrowed_5 ?_
  refine r_llen hC hr hI (by omega) dX4_borrowed_6 ?_
  refine j_bipush hC dX4_borrowed_7 (by decide) ?_
  refine j_icmp_eq (tgt := 23) hC dX4_borrowed_9 (by decide) (by omega) (fun h9 => ?_) (fun h9 => ?_)
  · refine x_null hC dX4_borrowed_23 ?_
    refine j_widen (k2 := 4) (n2 := 20) (by omega) (by omega) ?_
    exact g_aret hC (Or.inr ⟨_, rfl⟩) (Or.inl rfl) dX4_borrowed_24 ⟨rfl, hb, Or.inl ⟨rfl, fun h => by have h1 := h.1; omega⟩⟩
  · refine j_aload_n hC dX4_borrowed_12 0 rfl ?_
    refine j_iload_n hC dX4_borrowed_13 2 rfl ?_
    refine j_aload_n hC dX4_borrowed_14 1 rfl ?_
    refine j_iconst hC dX4_borrowed_15 ?_
    refine r_num4 hC (Sn.sb hx hb) dX4_borrowed_16 ?_
    refine x_callV1 (ar := 2) hC hR (c_X4_signFor (hlJ hC) g X σ hr hI t (by omega) m (by omega)) [] rfl hr.1 rfl rfl (by decide) (by decide +kernel) rfl wd385 wd386 wd387 wd4 wd388 (by first | decide | omega) (Nat.le_of_ble_eq_true rfl) dX4_borrowed_17 ?_
    have hf17 := findB_rg hI (b := (t).toNat) (by omega) m
    refine j_if_lt (tgt := 25) hC dX4_borrowed_20 (by decide) (by omega) (fun h20 => ?_) (fun h20 => ?_)
    · refine j_iconst hC dX4_borrowed_25 ?_
      refine j_istore_n hC dX4_borrowed_26 [(3, vI (0)), (0, .ref a), (1, .ref x), (2, vI (t))] (by decide) rfl ?_
      exact lp_X4_borrowed hr0 hI hR hx hL t ht (by omega) 4 0 _ _ X hC hb (by omega) (by omega) (by omega) rfl
    · refine x_null hC dX4_borrowed_23 ?_
      refine j_widen (k2 := 4) (n2 := 20) (by omega) (by omega) ?_
      exact g_aret hC (Or.inr ⟨_, rfl⟩) (Or.inl rfl) dX4_borrowed_24 ⟨rfl, hb, Or.inl ⟨rfl, fun h => by have h1 := h.1; omega⟩⟩
set_option maxHeartbeats 4000000 in
set_option maxRecDepth 100000 in
theorem c_L_below {ll : Launch} (hll : ll.stackTraces = false) (g : GG) (σ : Sg) (v : Int32) (n : Int) (hn : 0 < n ∧ n < 2147483648) : CN ll yL_below cL_below 2 (some .int) 0 0 0 0 g [.int v, vI n] σ (pt (some (vI (bl v n))) σ) := by
  rw [bl_is]
  refine CN_of (own := RL) hll (by decide) rfl (Nat.le_of_ble_eq_true rfl) (fun mc hC _ hR => ?_)
  refine j_lv (lv2 := [(0, .int v), (1, vI n)]) rfl ?_
  have hm := andm v
  refine j_iload_n hC dL_below_0 0 rfl ?_
  refine j_ldc hC dL_below_1 wd404 ?_
  refine j_iandR hC dL_below_3 ?_
  refine j_vI _ ?_
  refine j_iload_n hC dL_below_4 1 rfl ?_
  refine j_irem hC dL_below_5 (by omega) ?_
  exact j_iret hC dL_below_6 ⟨rfl, rfl⟩
set_option maxHeartbeats 4000000 in
set_option maxRecDepth 100000 in
theorem c_L_cell {ll : Launch} (hll : ll.stackTraces = false) (g : GG) (σ : Sg) (hgn : gn g ≤ 260) (i : Int) (hi : 0 ≤ i ∧ i < 1000) : CN ll yL_cell cL_cell 2 (some .int) 0 0 0 0 g [.ref (gb g), vI i] σ (pN σ) := by
  refine CN_of (own := RL) hll (by decide) rfl (Nat.le_of_ble_eq_true rfl) (fun mc hC _ hR => ?_)
  refine j_lv (lv2 := [(0, .ref (gb g)), (1, vI i)]) rfl ?_
  refine j_iload_n hC dL_cell_0 1 rfl ?_
  refine j_aload_n hC dL_cell_1 0 rfl ?_
  refine x_slen hC dL_cell_2 ?_
  refine j_icmp_ge (tgt := 12) hC dL_cell_3 (by decide) (by omega) (fun h3 => ?_) (fun h3 => ?_)
  · refine j_ldc hC dL_cell_12 wd408 ?_
    refine j_iload_n hC dL_cell_14 1 rfl ?_
    refine j_iconst hC dL_cell_15 ?_
    refine j_iadd hC dL_cell_16 ?_
    refine j_imulR hC dL_cell_17 ?_
    exact j_iret hC dL_cell_18 ⟨⟨_, rfl⟩, rfl⟩
  · refine j_aload_n hC dL_cell_6 0 rfl ?_
    refine j_iload_n hC dL_cell_7 1 rfl ?_
    refine x_sld hC (by omega) dL_cell_8 (fun x1 => ?_)
    refine j_goto (tgt := 18) hC dL_cell_9 (by decide) ?_
    exact j_iret hC dL_cell_18 ⟨⟨_, rfl⟩, rfl⟩
theorem j_ishrX {mc : MC} {g : GG} {k n : Nat} {Q : State → Prop} {pc : Nat} {lv : List (Nat × Value)} {st : List Value} {σ : Sg} {cc : ByteArray} {own : String} {nL : Nat} {ret : Option FieldType} (hC : Cx mc g cc own nL ret) {x : Int32} {y : Int} (hd : decode cc pc = .ok (.ishr, 1)) (kk : J mc g k n Q (pc + 1) lv (.int (sx x y) :: st) σ) : J mc g k n Q pc lv (vI y :: .int x :: st) σ := j_ishrR hC hd (by rw [sx_is] at kk; exact kk)

