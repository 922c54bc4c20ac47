section XA
variable {mc : MC} {g : GG} {k n : Nat} {Q : State → Prop} {pc : Nat} {lv : List (Nat × Value)} {st : List Value} {σ : Sg} {cc : ByteArray} {own : String} {nL : Nat} {ret : Option FieldType}
theorem x_aloadN {f : Nat} (hC : Cx mc g cc own nL ret) (hd : decode cc pc = .ok (.aload f, 2)) (q : Nat) (hq : lv[q]? = some (f, .null)) (kk : J mc g k n Q (pc + 2) lv (.null :: st) σ) : J mc g k n Q pc lv (st) σ :=
  fun H locs ls hP hS hl => lv_aloadN hC.1 hC.2.1 hd (lv_at hl q hq) (kk H locs ls hP hS hl)
theorem x_astoreN (hC : Cx mc g cc own nL ret) {f : Nat} (hd : decode cc pc = .ok (.astore f, 2)) (lv2 : List (Nat × Value)) (hn : f < nL) (he : (f, Value.null) :: lv.filter (fun q => !(q.1 == f) && !(q.1 + 1 == f && q.2.category == 2)) = lv2) (kk : J mc g k n Q (pc + 2) lv2 st σ) : J mc g k n Q pc lv (.null :: st) σ :=
  fun H locs ls hP hS hl => lv_astoreN hC.1 hC.2.1 hd hl (by rw [hC.2.2.1]; exact hn) he (fun ls2 hl2 => kk H locs ls2 hP hS hl2)
theorem x_astore_nN (hC : Cx mc g cc own nL ret) {f : Fin 4} (hd : decode cc pc = .ok (.astore_n f, 1)) (lv2 : List (Nat × Value)) (hn : (f : Nat) < nL) (he : ((f : Nat), Value.null) :: lv.filter (fun q => !(q.1 == (f : Nat)) && !(q.1 + 1 == (f : Nat) && q.2.category == 2)) = lv2) (kk : J mc g k n Q (pc + 1) lv2 st σ) : J mc g k n Q pc lv (.null :: st) σ :=
  fun H locs ls hP hS hl => lv_astore_nN hC.1 hC.2.1 hd rfl hl (by rw [hC.2.2.1]; exact hn) he (fun ls2 hl2 => kk H locs ls2 hP hS hl2)
end XA
theorem mkL_of {L : Int} (hL : 0 ≤ L ∧ L < 2304) : mkL (L % 16) (L / 16 % 4) (L / 256) (L / 64 % 4) = L := by
  unfold mkL
  omega
theorem mk5 {g : GG} {X : va_W} {q : Nat} {sh th pl mv m : Int} (hq : (q, ri g (fun j => if j = 4 then m else if j = 3 then mv else if j = 2 then pl else if j = 1 then th else if j = 0 then sh else 0) 5) ∈ X) (h : 0 ≤ sh ∧ sh < 16 ∧ 0 ≤ th ∧ th < 4 ∧ 0 ≤ pl ∧ pl < 9 ∧ 0 ≤ mv ∧ mv < 4) : ∃ L, (0 ≤ L ∧ L < 2304) ∧ Sn g X q L m := by
  have e := mk_sh h
  have hL : 0 ≤ mkL sh th pl mv ∧ mkL sh th pl mv < 2304 := by unfold mkL; omega
  refine ⟨mkL sh th pl mv, hL, _, hq, fun j j0 j1 => ?_⟩
  unfold sgn
  rw [e.1, e.2.1, e.2.2.1, e.2.2.2]
  rcases (show j = 0 ∨ j = 1 ∨ j = 2 ∨ j = 3 ∨ j = 4 by omega) with rfl | rfl | rfl | rfl | rfl <;> rfl
theorem th_at {h : Nat → Nat} {f : Nat → Option Nat} {n v : Nat} {s : Int} (h1 : ∀ j : Nat, j < n → f j = some (h j)) (hs : 0 ≤ s) : ∀ j : Nat, j < n → (if j = s.toNat then some v else f j) = some (if (j : Int) = s then v else h j) := by
  intro j hj
  by_cases e : j = s.toNat
  · rw [if_pos e, if_pos (by omega)]
  · rw [if_neg e, if_neg (by omega)]; exact h1 j hj
abbrev pAct (g : GG) (a : Nat) : Option Value → Sg → va_W → Prop := fun v τ Y => v = some (vI 1) ∧ Iv τ ∧ ∃ r2, Rp g Y a τ r2
set_option maxHeartbeats 4000000 in
set_option maxRecDepth 100000 in
theorem act_sn {mc : MC} {g : GG} {X : va_W} {σ : Sg} {a : Nat} {r : RR} {x : Int32} (hr : Rp g X a σ r) (hv : Iv σ) (hC : Cx mc (gx g X) cL_act RL 14 (some .boolean)) (hR : mR mc = rmJ 5 117 12 120) (l : Int) (hl : 0 ≤ l ∧ l < σ.1 0) {q : Nat} {L m : Int} (hL : 0 ≤ L ∧ L < 2304 ∧ 0 ≤ m ∧ m < 30) (hsq : Sn g X q L m) : ∀ k n : Nat, k ≤ 3 → n ≤ 20 → J mc (gx g X) k n (QNG mc g (pAct g a) 12 120) 177 [(7, .ref q), (0, .ref (gd g (0))), (1, .ref a), (5, vI (l)), (6, vI (σ.1 (2 + l.toNat)))] [] σ := by
  intro k n hk1 hn1
  have hI := hv.1
  have hc0 := IC_n hI
  have hkn := IC_k hI hl
  refine j_iload hC dL_act_177 4 rfl ?_
  refine j_bipush hC dL_act_179 (by decide) ?_
  refine j_icmp_eq (tgt := 197) hC dL_act_181 (by decide) (by omega) (fun h181 => ?_) (fun h181 => ?_)
  · refine j_iconst hC dL_act_197 ?_
    refine j_widen (k2 := 12) (n2 := 120) (by omega) (by omega) ?_
    exact g_zret hC (Or.inr rfl) dL_act_198 ⟨rfl, hv, _, hr⟩
  · refine j_aload_n hC dL_act_184 2 rfl ?_
    refine j_iload hC dL_act_185 3 rfl ?_
    refine j_aload hC dL_act_187 0 rfl ?_
    refine j_iconst hC dL_act_189 ?_
    refine r_num4 hC hsq dL_act_190 ?_
    refine x_callV1 (ar := 2) hC hR (c_X4_signFor (hlJ hC) g X σ hr hI l (by omega) m (by omega)) [] rfl hr.1 rfl rfl (by decide) (by decide +kernel) rfl wd440 wd386 wd387 wd4 wd388 (by first | decide | omega) (Nat.le_of_ble_eq_true rfl) dL_act_191 ?_
    have hf191 := findB_rg hI (b := (l).toNat) (by omega) m
    refine j_if_lt (tgt := 199) hC dL_act_194 (by decide) (by omega) (fun h194 => ?_) (fun h194 => ?_)
    · refine j_aload_n hC dL_act_199 2 rfl ?_
      refine j_iload hC dL_act_200 3 rfl ?_
      refine j_aload hC dL_act_202 0 rfl ?_
      refine g_callV (ar := 2) hC hR (c_X4_add (hlJ hC) g X σ hr hI l (by omega) hsq (by omega)) [] rfl hr.1 rfl rfl (by decide) (by decide +kernel) rfl wd441 wd442 wd443 wd4 wd444 (by omega) (Nat.le_of_ble_eq_true rfl) dL_act_204 ?_
      rintro v1 τ1 Y1 ⟨hv1, hτ, hsq, r2, hr2⟩ hC
      subst hv1; replace hτ := hτ.symm; subst hτ
      refine j_st (st2 := []) rfl ?_
      refine j_aload_n hC dL_act_207 1 rfl ?_
      refine j_iload hC dL_act_208 3 rfl ?_
      refine j_aload hC dL_act_210 0 rfl ?_
      refine j_iconst hC dL_act_212 ?_
      refine r_num0 hC hsq dL_act_213 ?_
      refine j_aload hC dL_act_214 0 rfl ?_
      refine j_iconst hC dL_act_216 ?_
      refine r_num1 hC hsq dL_act_217 ?_
      refine j_aload hC dL_act_218 0 rfl ?_
      refine j_iconst hC dL_act_220 ?_
      refine r_num2 hC hsq dL_act_221 ?_
      refine j_aload hC dL_act_222 0 rfl ?_
      refine j_iconst hC dL_act_224 ?_
      refine r_num3 hC hsq dL_act_225 ?_
      refine j_aload hC dL_act_226 0 rfl ?_
      refine j_iconst hC dL_act_228 ?_
      refine r_num4 hC hsq dL_act_229 ?_
      have hM230 := c_X3_addSign (hlJ hC) (gx g Y1) σ hI l (L % 16) (L / 16 % 4) (L / 256) (L / 64 % 4) m (by omega) (by omega) (by omega) (by omega)
      rw [mkL_of (L := L) (by omega)] at hM230
      refine j_callV1 (ar := 6) hC hR (hM230) [] rfl 0 rfl rfl rfl (by decide) (by decide +kernel) rfl wd445 wd446 wd447 wd1 wd448 (by first | decide | omega) (Nat.le_of_ble_eq_true rfl) dL_act_230 ?_
      refine j_iload hC dL_act_233 4 rfl ?_
      refine j_icmp_ne (tgt := 242) hC dL_act_235 (by decide) (by omega) (fun h => absurd h (by omega)) (fun _ => ?_)
      refine j_iconst hC dL_act_238 ?_
      refine j_goto (tgt := 243) hC dL_act_239 (by decide) ?_
      refine j_widen (k2 := 12) (n2 := 120) (by omega) (by omega) ?_
      exact g_zret hC (Or.inr rfl) dL_act_243 ⟨rfl, Iv_ap hv (by omega) (by omega) (by omega) (by omega) (by omega) (by omega), _, hr2⟩
    · refine j_iconst hC dL_act_197 ?_
      refine j_widen (k2 := 12) (n2 := 120) (by omega) (by omega) ?_
      exact g_zret hC (Or.inr rfl) dL_act_198 ⟨rfl, hv, _, hr⟩
set_option maxHeartbeats 4000000 in
set_option maxRecDepth 100000 in
theorem act_si {mc : MC} {g : GG} {X : va_W} {σ : Sg} {a : Nat} {r : RR} {x : Int32} (hr : Rp g X a σ r) (hv : Iv σ) (hC : Cx mc (gx g X) cL_act RL 14 (some .boolean)) (hR : mR mc = rmJ 5 117 12 120) (l : Int) (hl : 0 ≤ l ∧ l < σ.1 0) : ∀ k n : Nat, k ≤ 1 → n ≤ 5 → J mc (gx g X) k n (QNG mc g (pAct g a) 12 120) 82 [(0, .ref (gd g (0))), (1, .ref a), (2, .int (x)), (5, vI (l)), (6, vI (σ.1 (2 + l.toNat)))] [] σ := by
  intro k n hk1 hn1
  have hI := hv.1
  have hc0 := IC_n hI
  have hr0 := hr
  have hkn := IC_k hI hl
  refine j_iconst hC dL_act_82 ?_
  refine x_newI hC hR 5 rfl (by decide) (by omega) dL_act_83 (fun q Y1 hn hC => ?_)
  have hf : Fr X q := hn.2.2
  have hq := hn.1
  have hb := hn.sb
  have hr := hr0.sb hb
  refine j_dup hC dL_act_85 rfl ?_
  refine j_iconst hC dL_act_86 ?_
  refine j_iload_n hC dL_act_87 2 rfl ?_
  refine j_iconst hC dL_act_88 ?_
  refine j_ishrX hC dL_act_89 ?_
  refine j_iload_n hC dL_act_90 2 rfl ?_
  refine j_iconst hC dL_act_91 ?_
  refine j_callS1 (ar := 2) hC hR (c_L_below (hlJ hC) (gx g Y1) σ x 2 (by omega)) [.int (sx x 2), vI (0), .ref q, .ref q] rfl (by decide) (by decide +kernel) rfl wd401 wd402 wd0 wd403 (by first | decide | omega) (Nat.le_of_ble_eq_true rfl) dL_act_92 ?_
  have hb92 := bl_rg x (n := 2) (by omega)
  suffices K104 : J mc (gx g Y1) _ _ (QNG mc g (pAct g a) 12 120) 104 [(0, .ref (gd g (0))), (1, .ref a), (2, .int (x)), (5, vI (l)), (6, vI (σ.1 (2 + l.toNat)))] [vI ((if bl x 2 = 0 then 16 else 3)), .int (sx x 2), vI (0), .ref q, .ref q] σ by
    refine j_if_ne (tgt := 103) hC dL_act_95 (by decide) (by omega) (fun h95 => ?_) (fun h95 => ?_)
    · refine j_iconst hC dL_act_103 ?_
      exact (by first | (rw [show ((if bl x 2 = 0 then 16 else 3) : Int) = 16 from if_pos (by omega)] at K104; exact K104) | (rw [show ((if bl x 2 = 0 then 16 else 3) : Int) = 16 from if_pos (by omega)] at K104 ⊢; exact K104) | (rw [show ((if bl x 2 = 0 then 16 else 3) : Int) = 3 from if_neg (by omega)] at K104; exact K104) | (rw [show ((if bl x 2 = 0 then 16 else 3) : Int) = 3 from if_neg (by omega)] at K104 ⊢; exact K104))
    · refine j_bipush hC dL_act_98 (by decide) ?_
      refine j_goto (tgt := 104) hC dL_act_100 (by decide) ?_
      exact (by first | (rw [show ((if bl x 2 = 0 then 16 else 3) : Int) = 16 from if_pos (by omega)] at K104; exact K104) | (rw [show ((if bl x 2 = 0 then 16 else 3) : Int) = 16 from if_pos (by omega)] at K104 ⊢; exact K104) | (rw [show ((if bl x 2 = 0 then 16 else 3) : Int) = 3 from if_neg (by omega)] at K104; exact K104) | (rw [show ((if bl x 2 = 0 then 16 else 3) : Int) = 3 from if_neg (by omega)] at K104 ⊢; exact K104))
  have hm104 : 0 < (if bl x 2 = 0 then 16 else 3) ∧ (if bl x 2 = 0 then 16 else 3) ≤ 16 := by split <;> omega
  refine j_callS1 (ar := 2) hC hR (c_L_below (hlJ hC) (gx g Y1) σ (sx x 2) (if bl x 2 = 0 then 16 else 3) (by omega)) [vI (0), .ref q, .ref q] rfl (by decide) (by decide +kernel) rfl wd401 wd402 wd0 wd403 (by first | decide | omega) (Nat.le_of_ble_eq_true rfl) dL_act_104 ?_
  have hb104 := bl_rg (sx x 2) (n := (if bl x 2 = 0 then 16 else 3)) (by omega)
  refine x_iast hC hq (by omega) dL_act_107 (fun Y2 hw hC => ?_)
  have hb := hb.wr hf hw
  have hq := hw.1
  have hr := hr0.sb hb
  refine j_dup hC dL_act_108 rfl ?_
  refine j_iconst hC dL_act_109 ?_
  refine j_iload_n hC dL_act_110 2 rfl ?_
  refine j_iconst hC dL_act_111 ?_
  refine j_ishrX hC dL_act_112 ?_
  refine j_iconst hC dL_act_113 ?_
  refine j_callS1 (ar := 2) hC hR (c_L_below (hlJ hC) (gx g Y2) σ (sx x 4) 4 (by omega)) [vI (1), .ref q, .ref q] rfl (by decide) (by decide +kernel) rfl wd401 wd402 wd0 wd403 (by first | decide | omega) (Nat.le_of_ble_eq_true rfl) dL_act_114 ?_
  have hb114 := bl_rg (sx x 4) (n := 4) (by omega)
  refine x_iast hC hq (by omega) dL_act_117 (fun Y3 hw hC => ?_)
  have hb := hb.wr hf hw
  have hq := hw.1
  have hr := hr0.sb hb
  refine j_dup hC dL_act_118 rfl ?_
  refine j_iconst hC dL_act_119 ?_
  refine j_iload_n hC dL_act_120 2 rfl ?_
  refine j_iconst hC dL_act_121 ?_
  refine j_ishrX hC dL_act_122 ?_
  refine j_iload_n hC dL_act_123 2 rfl ?_
  refine j_iconst hC dL_act_124 ?_
  refine j_callS1 (ar := 2) hC hR (c_L_below (hlJ hC) (gx g Y3) σ x 3 (by omega)) [.int (sx x 5), vI (2), .ref q, .ref q] rfl (by decide) (by decide +kernel) rfl wd401 wd402 wd0 wd403 (by first | decide | omega) (Nat.le_of_ble_eq_true rfl) dL_act_125 ?_
  have hb125 := bl_rg x (n := 3) (by omega)
  suffices K137 : J mc (gx g Y3) _ _ (QNG mc g (pAct g a) 12 120) 137 [(0, .ref (gd g (0))), (1, .ref a), (2, .int (x)), (5, vI (l)), (6, vI (σ.1 (2 + l.toNat)))] [vI ((if bl x 3 = 0 then 9 else 3)), .int (sx x 5), vI (2), .ref q, .ref q] σ by
    refine j_if_ne (tgt := 136) hC dL_act_128 (by decide) (by omega) (fun h128 => ?_) (fun h128 => ?_)
    · refine j_iconst hC dL_act_136 ?_
      exact (by first | (rw [show ((if bl x 3 = 0 then 9 else 3) : Int) = 9 from if_pos (by omega)] at K137; exact K137) | (rw [show ((if bl x 3 = 0 then 9 else 3) : Int) = 9 from if_pos (by omega)] at K137 ⊢; exact K137) | (rw [show ((if bl x 3 = 0 then 9 else 3) : Int) = 3 from if_neg (by omega)] at K137; exact K137) | (rw [show ((if bl x 3 = 0 then 9 else 3) : Int) = 3 from if_neg (by omega)] at K137 ⊢; exact K137))
    · refine j_bipush hC dL_act_131 (by decide) ?_
      refine j_goto (tgt := 137) hC dL_act_133 (by decide) ?_
      exact (by first | (rw [show ((if bl x 3 = 0 then 9 else 3) : Int) = 9 from if_pos (by omega)] at K137; exact K137) | (rw [show ((if bl x 3 = 0 then 9 else 3) : Int) = 9 from if_pos (by omega)] at K137 ⊢; exact K137) | (rw [show ((if bl x 3 = 0 then 9 else 3) : Int) = 3 from if_neg (by omega)] at K137; exact K137) | (rw [show ((if bl x 3 = 0 then 9 else 3) : Int) = 3 from if_neg (by omega)] at K137 ⊢; exact K137))
  have hm137 : 0 < (if bl x 3 = 0 then 9 else 3) ∧ (if bl x 3 = 0 then 9 else 3) ≤ 9 := by split <;> omega
  refine j_callS1 (ar := 2) hC hR (c_L_below (hlJ hC) (gx g Y3) σ (sx x 5) (if bl x 3 = 0 then 9 else 3) (by omega)) [vI (2), .ref q, .ref q] rfl (by decide) (by decide +kernel) rfl wd401 wd402 wd0 wd403 (by first | decide | omega) (Nat.le_of_ble_eq_true rfl) dL_act_137 ?_
  have hb137 := bl_rg (sx x 5) (n := (if bl x 3 = 0 then 9 else 3)) (by omega)
  refine x_iast hC hq (by omega) dL_act_140 (fun Y4 hw hC => ?_)
  have hb := hb.wr hf hw
  have hq := hw.1
  have hr := hr0.sb hb
  refine j_dup hC dL_act_141 rfl ?_
  refine j_iconst hC dL_act_142 ?_
  refine j_iload_n hC dL_act_143 2 rfl ?_
  refine j_bipush hC dL_act_144 (by decide) ?_
  refine j_ishrX hC dL_act_146 ?_
  refine j_iload_n hC dL_act_147 2 rfl ?_
  refine j_iconst hC dL_act_148 ?_
  refine j_callS1 (ar := 2) hC hR (c_L_below (hlJ hC) (gx g Y4) σ x 4 (by omega)) [.int (sx x 7), vI (3), .ref q, .ref q] rfl (by decide) (by decide +kernel) rfl wd401 wd402 wd0 wd403 (by first | decide | omega) (Nat.le_of_ble_eq_true rfl) dL_act_149 ?_
  have hb149 := bl_rg x (n := 4) (by omega)
  suffices K160 : J mc (gx g Y4) _ _ (QNG mc g (pAct g a) 12 120) 160 [(0, .ref (gd g (0))), (1, .ref a), (2, .int (x)), (5, vI (l)), (6, vI (σ.1 (2 + l.toNat)))] [vI ((if bl x 4 = 0 then 4 else 1)), .int (sx x 7), vI (3), .ref q, .ref q] σ by
    refine j_if_ne (tgt := 159) hC dL_act_152 (by decide) (by omega) (fun h152 => ?_) (fun h152 => ?_)
    · refine j_iconst hC dL_act_159 ?_
      exact (by first | (rw [show ((if bl x 4 = 0 then 4 else 1) : Int) = 4 from if_pos (by omega)] at K160; exact K160) | (rw [show ((if bl x 4 = 0 then 4 else 1) : Int) = 4 from if_pos (by omega)] at K160 ⊢; exact K160) | (rw [show ((if bl x 4 = 0 then 4 else 1) : Int) = 1 from if_neg (by omega)] at K160; exact K160) | (rw [show ((if bl x 4 = 0 then 4 else 1) : Int) = 1 from if_neg (by omega)] at K160 ⊢; exact K160))
    · refine j_iconst hC dL_act_155 ?_
      refine j_goto (tgt := 160) hC dL_act_156 (by decide) ?_
      exact (by first | (rw [show ((if bl x 4 = 0 then 4 else 1) : Int) = 4 from if_pos (by omega)] at K160; exact K160) | (rw [show ((if bl x 4 = 0 then 4 else 1) : Int) = 4 from if_pos (by omega)] at K160 ⊢; exact K160) | (rw [show ((if bl x 4 = 0 then 4 else 1) : Int) = 1 from if_neg (by omega)] at K160; exact K160) | (rw [show ((if bl x 4 = 0 then 4 else 1) : Int) = 1 from if_neg (by omega)] at K160 ⊢; exact K160))
  have hm160 : 0 < (if bl x 4 = 0 then 4 else 1) ∧ (if bl x 4 = 0 then 4 else 1) ≤ 4 := by split <;> omega
  refine j_callS1 (ar := 2) hC hR (c_L_below (hlJ hC) (gx g Y4) σ (sx x 7) (if bl x 4 = 0 then 4 else 1) (by omega)) [vI (3), .ref q, .ref q] rfl (by decide) (by decide +kernel) rfl wd401 wd402 wd0 wd403 (by first | decide | omega) (Nat.le_of_ble_eq_true rfl) dL_act_160 ?_
  have hb160 := bl_rg (sx x 7) (n := (if bl x 4 = 0 then 4 else 1)) (by omega)
  refine x_iast hC hq (by omega) dL_act_163 (fun Y5 hw hC => ?_)
  have hb := hb.wr hf hw
  have hq := hw.1
  have hr := hr0.sb hb
  refine j_dup hC dL_act_164 rfl ?_
  refine j_iconst hC dL_act_165 ?_
  refine j_iload_n hC dL_act_166 2 rfl ?_
  refine j_iconst hC dL_act_167 ?_
  refine j_ishrX hC dL_act_168 ?_
  refine j_bipush hC dL_act_169 (by decide) ?_
  refine j_callS1 (ar := 2) hC hR (c_L_below (hlJ hC) (gx g Y5) σ (sx x 3) 30 (by omega)) [vI (4), .ref q, .ref q] rfl (by decide) (by decide +kernel) rfl wd401 wd402 wd0 wd403 (by first | decide | omega) (Nat.le_of_ble_eq_true rfl) dL_act_171 ?_
  have hb171 := bl_rg (sx x 3) (n := 30) (by omega)
  refine x_iast hC hq (by omega) dL_act_174 (fun Y6 hw hC => ?_)
  have hb := hb.wr hf hw
  have hq := hw.1
  have hr := hr0.sb hb
  obtain ⟨L, hL, hsq⟩ := mk5 hq (by omega)
  refine j_astore hC dL_act_175 [(7, .ref q), (0, .ref (gd g (0))), (1, .ref a), (2, .int (x)), (5, vI (l)), (6, vI (σ.1 (2 + l.toNat)))] (by decide) rfl ?_
  refine j_sub [0, 1, 2, 4, 5] rfl ?_
  exact act_sn (x := x) hr hv hC hR l hl (by omega) hsq _ _ (by omega) (by omega)
set_option maxHeartbeats 4000000 in
set_option maxRecDepth 100000 in
theorem act_rm {mc : MC} {g : GG} {X : va_W} {σ : Sg} {a : Nat} {r : RR} {x : Int32} (hr : Rp g X a σ r) (hv : Iv σ) (hC : Cx mc (gx g X) cL_act RL 14 (some .boolean)) (hR : mR mc = rmJ 5 117 12 120) (l : Int) (hl : 0 ≤ l ∧ l < σ.1 0) (s : Int) (hs : 0 ≤ s ∧ s < σ.1 (2 + l.toNat)) : ∀ k n : Nat, k ≤ 1 → n ≤ 5 → J mc (gx g X) k n (QNG mc g (pAct g a) 12 120) 288 [(0, .ref (gd g (0))), (1, .ref a), (5, vI (l)), (7, vI (s))] [] σ := by
  intro k n hk1 hn1
  have hI := hv.1
  have hc0 := IC_n hI
  have hkn := IC_k hI hl
  have hs9 := IC_s hI hl (z := s) (by omega)
  refine j_aload_n hC dL_act_288 1 rfl ?_
  refine r_books hC hr wd531 dL_act_289 ?_
  refine j_iload hC dL_act_292 2 rfl ?_
  refine r_lodge hC hr hI (by omega) dL_act_294 ?_
  refine j_iload hC dL_act_295 3 rfl ?_
  refine r_sign hC hr hI (by omega) (by omega) dL_act_297 ?_
  refine j_iconst hC dL_act_298 ?_
  refine r_num4 hC (Rp.sn hr hI (l := l) (z := s) (by omega) (by omega)) dL_act_299 ?_
  refine j_istore hC dL_act_300 [(8, vI (σ.2 (6 + l.toNat) s)), (0, .ref (gd g (0))), (1, .ref a), (5, vI (l)), (7, vI (s))] (by decide) rfl ?_
  refine j_aload_n hC dL_act_302 2 rfl ?_
  refine j_iload hC dL_act_303 3 rfl ?_
  refine j_iload hC dL_act_305 4 rfl ?_
  refine g_callV (ar := 2) hC hR (c_X4_remove (hlJ hC) g X σ hr hI l (by omega) s (by omega)) [] rfl hr.1 rfl rfl (by decide) (by decide +kernel) rfl wd482 wd483 wd484 wd4 wd485 (by omega) (Nat.le_of_ble_eq_true rfl) dL_act_307 ?_
  rintro v1 τ1 Y1 ⟨hv1, hτ, r2, hr2⟩ hC
  subst hv1; replace hτ := hτ.symm; subst hτ
  refine j_st (st2 := []) rfl ?_
  refine j_aload_n hC dL_act_310 1 rfl ?_
  refine j_iload hC dL_act_311 3 rfl ?_
  refine j_iload hC dL_act_313 4 rfl ?_
  refine j_callV1 (ar := 2) hC hR (c_X3_forget (hlJ hC) (gx g Y1) σ hI l s (by omega) (by omega) ) [] rfl 0 rfl rfl rfl (by decide) (by decide +kernel) rfl wd486 wd487 wd488 wd1 wd489 (by first | decide | omega) (Nat.le_of_ble_eq_true rfl) dL_act_315 ?_
  refine j_iload hC dL_act_318 0 rfl ?_
  refine j_icmp_ne (tgt := 327) hC dL_act_320 (by decide) (by omega) (fun h => absurd h (by omega)) (fun _ => ?_)
  refine j_iconst hC dL_act_323 ?_
  refine j_goto (tgt := 328) hC dL_act_324 (by decide) ?_
  refine j_widen (k2 := 12) (n2 := 120) (by omega) (by omega) ?_
  exact g_zret hC (Or.inr rfl) dL_act_328 ⟨rfl, Iv_rm hv (by omega) hs, _, hr2⟩
set_option maxHeartbeats 4000000 in
set_option maxRecDepth 100000 in
theorem act_th {mc : MC} {g : GG} {X : va_W} {σ : Sg} {a : Nat} {r : RR} {x : Int32} (hr : Rp g X a σ r) (hv : Iv σ) (hC : Cx mc (gx g X) cL_act RL 14 (some .boolean)) (hR : mR mc = rmJ 5 117 12 120) (l : Int) (hl : 0 ≤ l ∧ l < σ.1 0) (s : Int) (hs : 0 ≤ s ∧ s < σ.1 (2 + l.toNat)) : ∀ k n : Nat, k ≤ 1 → n ≤ 5 → J mc (gx g X) k n (QNG mc g (pAct g a) 12 120) 329 [(0, .ref (gd g (0))), (1, .ref a), (2, .int (x)), (5, vI (l)), (7, vI (s))] [] σ := by
  intro k n hk1 hn1
  have hI := hv.1
  have hc0 := IC_n hI
  have hr0 := hr
  have hu := Un_of hC
  have hne := Ne3_of hC
  have hne : Ne3 g := hne
  have hkn := IC_k hI hl
  have hs9 := IC_s hI hl (z := s) (by omega)
  refine j_aload_n hC dL_act_329 1 rfl ?_
  refine r_books hC hr wd531 dL_act_330 ?_
  refine j_iload hC dL_act_333 3 rfl ?_
  refine r_lodge hC hr hI (by omega) dL_act_335 ?_
  refine j_iload hC dL_act_336 4 rfl ?_
  refine r_sign hC hr hI (by omega) (by omega) dL_act_338 ?_
  refine j_iconst hC dL_act_339 ?_
  refine r_num1 hC (Rp.sn hr hI (l := l) (z := s) (by omega) (by omega)) dL_act_340 ?_
  refine j_istore hC dL_act_341 [(9, vI ((σ.2 (1 + l.toNat) s) / 16 % 4)), (0, .ref (gd g (0))), (1, .ref a), (2, .int (x)), (5, vI (l)), (7, vI (s))] (by decide) rfl ?_
  refine j_aload_n hC dL_act_343 2 rfl ?_
  refine r_books hC hr wd531 dL_act_344 ?_
  refine j_iload hC dL_act_347 4 rfl ?_
  refine r_lodge hC hr hI (by omega) dL_act_349 ?_
  refine j_iload hC dL_act_350 5 rfl ?_
  refine j_iconst hC dL_act_352 ?_
  refine x_newI hC hR 5 rfl (by decide) (by omega) dL_act_353 (fun q Y1 hn hC => ?_)
  have hf : Fr X q := hn.2.2
  have hq := hn.1
  have hb := hn.sb
  have hr := hr0.sb hb
  refine j_dup hC dL_act_355 rfl ?_
  refine j_iconst hC dL_act_356 ?_
  refine j_aload_n hC dL_act_357 2 rfl ?_
  refine r_books hC hr wd531 dL_act_358 ?_
  refine j_iload hC dL_act_361 4 rfl ?_
  refine r_lodge hC hr hI (by omega) dL_act_363 ?_
  refine j_iload hC dL_act_364 5 rfl ?_
  refine r_sign hC hr hI (by omega) (by omega) dL_act_366 ?_
  refine j_iconst hC dL_act_367 ?_
  refine r_num0 hC (Rp.sn hr hI (l := l) (z := s) (by omega) (by omega)) dL_act_368 ?_
  refine x_iast hC hq (by omega) dL_act_369 (fun Y2 hw hC => ?_)
  have hb := hb.wr hf hw
  have hq := hw.1
  have hr := hr0.sb hb
  refine j_dup hC dL_act_370 rfl ?_
  refine j_iconst hC dL_act_371 ?_
  refine j_iload_n hC dL_act_372 3 rfl ?_
  refine j_iconst hC dL_act_373 ?_
  refine j_ishrX hC dL_act_374 ?_
  refine j_iconst hC dL_act_375 ?_
  refine j_callS1 (ar := 2) hC hR (c_L_below (hlJ hC) (gx g Y2) σ (sx x 5) 4 (by omega)) [vI (1), .ref q, .ref q, vI (s), .ref (rL r l.toNat)] rfl (by decide) (by decide +kernel) rfl wd401 wd402 wd0 wd403 (by first | decide | omega) (Nat.le_of_ble_eq_true rfl) dL_act_376 ?_
  have hb376 := bl_rg (sx x 5) (n := 4) (by omega)
  refine x_iast hC hq (by omega) dL_act_379 (fun Y3 hw hC => ?_)
  have hb := hb.wr hf hw
  have hq := hw.1
  have hr := hr0.sb hb
  refine j_dup hC dL_act_380 rfl ?_
  refine j_iconst hC dL_act_381 ?_
  refine j_aload_n hC dL_act_382 2 rfl ?_
  refine r_books hC hr wd531 dL_act_383 ?_
  refine j_iload hC dL_act_386 4 rfl ?_
  refine r_lodge hC hr hI (by omega) dL_act_388 ?_
  refine j_iload hC dL_act_389 5 rfl ?_
  refine r_sign hC hr hI (by omega) (by omega) dL_act_391 ?_
  refine j_iconst hC dL_act_392 ?_
  refine r_num2 hC (Rp.sn hr hI (l := l) (z := s) (by omega) (by omega)) dL_act_393 ?_
  refine x_iast hC hq (by omega) dL_act_394 (fun Y4 hw hC => ?_)
  have hb := hb.wr hf hw
  have hq := hw.1
  have hr := hr0.sb hb
  refine j_dup hC dL_act_395 rfl ?_
  refine j_iconst hC dL_act_396 ?_
  refine j_aload_n hC dL_act_397 2 rfl ?_
  refine r_books hC hr wd531 dL_act_398 ?_
  refine j_iload hC dL_act_401 4 rfl ?_
  refine r_lodge hC hr hI (by omega) dL_act_403 ?_
  refine j_iload hC dL_act_404 5 rfl ?_
  refine r_sign hC hr hI (by omega) (by omega) dL_act_406 ?_
  refine j_iconst hC dL_act_407 ?_
  refine r_num3 hC (Rp.sn hr hI (l := l) (z := s) (by omega) (by omega)) dL_act_408 ?_
  refine x_iast hC hq (by omega) dL_act_409 (fun Y5 hw hC => ?_)
  have hb := hb.wr hf hw
  have hq := hw.1
  have hr := hr0.sb hb
  refine j_dup hC dL_act_410 rfl ?_
  refine j_iconst hC dL_act_411 ?_
  refine j_aload_n hC dL_act_412 2 rfl ?_
  refine r_books hC hr wd531 dL_act_413 ?_
  refine j_iload hC dL_act_416 4 rfl ?_
  refine r_lodge hC hr hI (by omega) dL_act_418 ?_
  refine j_iload hC dL_act_419 5 rfl ?_
  refine r_sign hC hr hI (by omega) (by omega) dL_act_421 ?_
  refine j_iconst hC dL_act_422 ?_
  refine r_num4 hC (Rp.sn hr hI (l := l) (z := s) (by omega) (by omega)) dL_act_423 ?_
  refine x_iast hC hq (by omega) dL_act_424 (fun Y6 hw hC => ?_)
  have hb := hb.wr hf hw
  have hq := hw.1
  have hr := hr0.sb hb
  have hsq : Sn g Y6 q (wth (σ.2 (1 + l.toNat) s) (bl (sx x 5) 4)) (σ.2 (6 + l.toNat) s) := ⟨_, hq, sgn5 (by omega) (by omega)⟩
  obtain ⟨fl, hl9, hl8⟩ := hr.2.2.1 l.toNat (by omega)
  have hu9 := Un_of hC
  refine x_rast hC hl9 hq 3 0 rfl rfl (hX_T hC).2.1 (fun _ h => by cases h) (by omega) dL_act_425 (fun Y9 hw hC => ?_)
  have hk9 := Kp.wr hb hw
  have hr2 := Rp_thumb (s := s) hr0 hu hne hk9 (by omega) hs ⟨_, hw.1, th_at hl8 hs.1⟩ (hsq.kp (Kp.wr Sb.rf hw) (hsq.nq hu9 (hr.2.2.1 l.toNat (by omega)))) hI
  refine j_aload_n hC dL_act_426 1 rfl ?_
  refine j_iload hC dL_act_427 4 rfl ?_
  refine j_iload hC dL_act_429 5 rfl ?_
  refine j_iload_n hC dL_act_431 3 rfl ?_
  refine j_iconst hC dL_act_432 ?_
  refine j_ishrX hC dL_act_433 ?_
  refine j_iconst hC dL_act_434 ?_
  refine j_callS1 (ar := 2) hC hR (c_L_below (hlJ hC) (gx g Y9) σ (sx x 5) 4 (by omega)) [vI (s), vI (l), .ref (gd g (0))] rfl (by decide) (by decide +kernel) rfl wd401 wd402 wd0 wd403 (by first | decide | omega) (Nat.le_of_ble_eq_true rfl) dL_act_435 ?_
  have hb435 := bl_rg (sx x 5) (n := 4) (by omega)
  refine j_callV1 (ar := 3) hC hR (c_X3_setThumb (hlJ hC) (gx g Y9) σ hI l s (bl (sx x 5) 4) (by omega) (by omega) (by omega) ) [] rfl 0 rfl rfl rfl (by decide) (by decide +kernel) rfl wd494 wd495 wd496 wd1 wd497 (by first | decide | omega) (Nat.le_of_ble_eq_true rfl) dL_act_438 ?_
  refine j_iload hC dL_act_441 0 rfl ?_
  refine j_icmp_ne (tgt := 450) hC dL_act_443 (by decide) (by omega) (fun h => absurd h (by omega)) (fun _ => ?_)
  refine j_iconst hC dL_act_446 ?_
  refine j_goto (tgt := 451) hC dL_act_447 (by decide) ?_
  refine j_widen (k2 := 12) (n2 := 120) (by omega) (by omega) ?_
  exact g_zret hC (Or.inr rfl) dL_act_451 ⟨rfl, Iv_th hv (by omega) hs (by omega), _, hr2⟩
set_option maxHeartbeats 4000000 in
set_option maxRecDepth 100000 in
theorem act_jo {mc : MC} {g : GG} {X : va_W} {σ : Sg} {a : Nat} {r : RR} {x : Int32} (hr : Rp g X a σ r) (hv : Iv σ) (hC : Cx mc (gx g X) cL_act RL 14 (some .boolean)) (hR : mR mc = rmJ 5 117 12 120)  : ∀ k n : Nat, k ≤ 1 → n ≤ 5 → J mc (gx g X) k n (QNG mc g (pAct g a) 12 120) 452 [(0, .ref (gd g (0))), (1, .ref a), (2, .int (x))] [] σ := by
  intro k n hk1 hn1
  have hI := hv.1
  have hc0 := IC_n hI
  refine j_iload_n hC dL_act_452 2 rfl ?_
  refine j_iconst hC dL_act_453 ?_
  refine j_ishrX hC dL_act_454 ?_
  refine j_bipush hC dL_act_455 (by decide) ?_
  refine j_callS1 (ar := 2) hC hR (c_L_below (hlJ hC) (gx g X) σ (sx x 4) 9 (by omega)) [] rfl (by decide) (by decide +kernel) rfl wd401 wd402 wd0 wd403 (by first | decide | omega) (Nat.le_of_ble_eq_true rfl) dL_act_457 ?_
  have hb457 := bl_rg (sx x 4) (n := 9) (by omega)
  refine j_istore hC dL_act_460 [(10, vI (bl (sx x 4) 9)), (0, .ref (gd g (0))), (1, .ref a), (2, .int (x))] (by decide) rfl ?_
  refine j_iload_n hC dL_act_462 3 rfl ?_
  refine j_bipush hC dL_act_463 (by decide) ?_
  refine j_ishrX hC dL_act_465 ?_
  refine j_bipush hC dL_act_466 (by decide) ?_
  refine j_callS1 (ar := 2) hC hR (c_L_below (hlJ hC) (gx g X) σ (sx x 6) 9 (by omega)) [] rfl (by decide) (by decide +kernel) rfl wd401 wd402 wd0 wd403 (by first | decide | omega) (Nat.le_of_ble_eq_true rfl) dL_act_468 ?_
  have hb468 := bl_rg (sx x 6) (n := 9) (by omega)
  refine j_istore hC dL_act_471 [(11, vI (bl (sx x 6) 9)), (10, vI (bl (sx x 4) 9)), (0, .ref (gd g (0))), (1, .ref a), (2, .int (x))] (by decide) rfl ?_
  refine j_iload_n hC dL_act_473 4 rfl ?_
  refine j_iconst hC dL_act_474 ?_
  refine j_callS1 (ar := 2) hC hR (c_L_below (hlJ hC) (gx g X) σ x 3 (by omega)) [] rfl (by decide) (by decide +kernel) rfl wd401 wd402 wd0 wd403 (by first | decide | omega) (Nat.le_of_ble_eq_true rfl) dL_act_475 ?_
  have hb475 := bl_rg x (n := 3) (by omega)
  refine j_if_le (tgt := 483) hC dL_act_478 (by decide) (by omega) (fun h478 => ?_) (fun h478 => ?_)
  · refine j_aload_n hC dL_act_483 3 rfl ?_
    refine j_iload hC dL_act_484 1 rfl ?_
    refine j_iload hC dL_act_486 0 rfl ?_
    refine g_callV (ar := 2) hC hR (c_X4_join (hlJ hC) g X σ hr hI (bl (sx x 4) 9) (bl (sx x 6) 9) (by omega)) [] rfl hr.1 rfl rfl (by decide) (by decide +kernel) rfl wd331 wd332 wd333 wd4 wd334 (by omega) (Nat.le_of_ble_eq_true rfl) dL_act_488 ?_
    rintro v1 ρ1 Y1 ⟨hv1, hτ, hkp, r2, hr2⟩ hC
    subst hv1; replace hτ := hτ.symm; subst hτ
    refine j_st (st2 := []) rfl ?_
    refine j_aload_n hC dL_act_491 2 rfl ?_
    refine j_iload hC dL_act_492 1 rfl ?_
    refine j_iload hC dL_act_494 0 rfl ?_
    refine j_callV1 (ar := 2) hC hR (c_X3_join (hlJ hC) (gx g Y1) σ hI (bl (sx x 4) 9) (bl (sx x 6) 9) (by omega)) [] rfl 0 rfl rfl rfl (by decide) (by decide +kernel) rfl wd73 wd74 wd75 wd1 wd76 (by first | decide | omega) (Nat.le_of_ble_eq_true rfl) dL_act_496 ?_
    refine j_aload_n hC dL_act_499 3 rfl ?_
    have hv2 := Iv_un (a := bl (sx x 4) 9) (b := bl (sx x 6) 9) hv (by omega)
    have hI2 := hv2.1
    have hg2 := hv2.2.2.1
    refine x_callV1 (ar := 0) hC hR (c_X4_groups (hlJ hC) g Y1 (unP σ (bl (sx x 4) 9) (bl (sx x 6) 9)) hr2 hI2) [vI ((unP σ (bl (sx x 4) 9) (bl (sx x 6) 9)).1 1)] rfl hr2.1 rfl rfl (by decide) (by decide +kernel) rfl wd501 wd345 wd346 wd4 wd347 (by first | decide | omega) (Nat.le_of_ble_eq_true rfl) dL_act_500 ?_
    have hg500 := gcF_rg ((unP σ (bl (sx x 4) 9) (bl (sx x 6) 9)).2 0)
    refine j_icmp_ne (tgt := 510) hC dL_act_503 (by decide) (by omega) (fun h => absurd h (by omega)) (fun _ => ?_)
    refine j_iconst hC dL_act_506 ?_
    refine j_goto (tgt := 511) hC dL_act_507 (by decide) ?_
    refine j_widen (k2 := 12) (n2 := 120) (by omega) (by omega) ?_
    exact g_zret hC (Or.inr rfl) dL_act_511 ⟨rfl, hv2, _, hr2⟩
  · refine j_iconst hC dL_act_481 ?_
    refine j_widen (k2 := 12) (n2 := 120) (by omega) (by omega) ?_
    exact g_zret hC (Or.inr rfl) dL_act_482 ⟨rfl, hv, _, hr⟩
set_option maxHeartbeats 4000000 in
set_option maxRecDepth 100000 in
theorem act_b2 {mc : MC} {g : GG} {X : va_W} {σ : Sg} {a : Nat} {r : RR} {x : Int32} (hr : Rp g X a σ r) (hv : Iv σ) (hC : Cx mc (gx g X) cL_act RL 14 (some .boolean)) (hR : mR mc = rmJ 5 117 12 120) (l : Int) (hl : 0 ≤ l ∧ l < σ.1 0) (s : Int) (hs : 0 ≤ s ∧ s < σ.1 (2 + l.toNat)) (t : Int) (ht : 0 ≤ t ∧ t < σ.1 0) {q : Nat} (hne : t ≠ l) (hok : (σ.1 (2 + t.toNat) < 16 ∧ findB σ t.toNat (σ.2 (6 + l.toNat) s) = -1) ∧ fuB σ t.toNat (σ.2 (1 + l.toNat) s) ≠ -1) (hsq : Sn g X q (fuB σ t.toNat (σ.2 (1 + l.toNat) s)) (σ.2 (6 + l.toNat) s)) : ∀ k n : Nat, k ≤ 6 → n ≤ 40 → J mc (gx g X) k n (QNG mc g (pAct g a) 12 120) 553 [(13, .ref q), (12, vI (t)), (0, .ref (gd g (0))), (1, .ref a), (5, vI (l)), (7, vI (s))] [] σ := by
  intro k n hk1 hn1
  have hI := hv.1
  have hc0 := IC_n hI
  have hkn := IC_k hI hl
  have hkt := IC_k hI ht
  have hs9 := IC_s hI hl (z := s) (by omega)
  have hfu := fuB_rg (σ := σ) (e := t.toNat) (L := σ.2 (1 + l.toNat) s) (by omega)
  refine j_aload_n hC dL_act_553 3 rfl ?_
  refine j_iload hC dL_act_554 1 rfl ?_
  refine j_aload hC dL_act_556 0 rfl ?_
  refine g_callV (ar := 2) hC hR (c_X4_add (hlJ hC) g X σ hr hI t (by omega) hsq (by omega)) [] rfl hr.1 rfl rfl (by decide) (by decide +kernel) rfl wd441 wd442 wd443 wd4 wd444 (by omega) (Nat.le_of_ble_eq_true rfl) dL_act_558 ?_
  rintro v1 τ1 Y1 ⟨hv1, hτ, hsq, r2, hr2⟩ hC
  subst hv1; replace hτ := hτ.symm; subst hτ
  refine j_st (st2 := []) rfl ?_
  refine j_aload_n hC dL_act_561 2 rfl ?_
  refine j_iload hC dL_act_562 4 rfl ?_
  refine j_iload hC dL_act_564 5 rfl ?_
  refine j_iload hC dL_act_566 1 rfl ?_
  refine j_callV1 (ar := 3) hC hR (c_X3_borrow (hlJ hC) (gx g Y1) σ hI l s t (by omega) (by omega) (by omega) (by omega) hok.1 hok.2) [] rfl 0 rfl rfl rfl (by decide) (by decide +kernel) rfl wd506 wd507 wd508 wd1 wd509 (by first | decide | omega) (Nat.le_of_ble_eq_true rfl) dL_act_568 ?_
  have hv2 := Iv_ap hv (b := t.toNat) (L := fuB σ t.toNat (σ.2 (1 + l.toNat) s)) (m := σ.2 (6 + l.toNat) s) (by omega) (by omega) (by omega) (by omega) (by omega) (by omega)
  have hI2 := hv2.1
  have ha2 := ap_1 (σ := σ) (b := t.toNat) (L := fuB σ t.toNat (σ.2 (1 + l.toNat) s)) (m := σ.2 (6 + l.toNat) s) 0
  have ha1 := ap_1 (σ := σ) (b := t.toNat) (L := fuB σ t.toNat (σ.2 (1 + l.toNat) s)) (m := σ.2 (6 + l.toNat) s) (2 + t.toNat)
  rw [if_neg (by omega)] at ha2
  rw [if_pos rfl] at ha1
  refine j_aload_n hC dL_act_571 3 rfl ?_
  refine r_books hC hr2 wd531 dL_act_572 ?_
  refine j_iload hC dL_act_575 1 rfl ?_
  refine r_lodge hC hr2 hI2 (by omega) dL_act_577 ?_
  refine r_llen hC hr2 hI2 (by omega) dL_act_578 ?_
  refine j_iconst hC dL_act_579 ?_
  refine j_isub hC dL_act_580 ?_
  refine j_icmp_ne (tgt := 588) hC dL_act_581 (by decide) (by omega) (fun h => absurd h (by omega)) (fun _ => ?_)
  refine j_iconst hC dL_act_584 ?_
  refine j_goto (tgt := 589) hC dL_act_585 (by decide) ?_
  refine j_widen (k2 := 12) (n2 := 120) (by omega) (by omega) ?_
  exact g_zret hC (Or.inr rfl) dL_act_589 ⟨rfl, hv2, _, hr2⟩
set_option maxHeartbeats 4000000 in
set_option maxRecDepth 100000 in
theorem act_bo {mc : MC} {g : GG} {X : va_W} {σ : Sg} {a : Nat} {r : RR} {x : Int32} (hr : Rp g X a σ r) (hv : Iv σ) (hC : Cx mc (gx g X) cL_act RL 14 (some .boolean)) (hR : mR mc = rmJ 5 117 12 120) (l : Int) (hl : 0 ≤ l ∧ l < σ.1 0) (s : Int) (hs : 0 ≤ s ∧ s < σ.1 (2 + l.toNat)) : ∀ k n : Nat, k ≤ 1 → n ≤ 5 → J mc (gx g X) k n (QNG mc g (pAct g a) 12 120) 512 [(0, .ref (gd g (0))), (1, .ref a), (2, .int (x)), (3, vI (σ.1 0)), (5, vI (l)), (7, vI (s))] [] σ := by
  intro k n hk1 hn1
  have hI := hv.1
  have hc0 := IC_n hI
  have hkn := IC_k hI hl
  have hs9 := IC_s hI hl (z := s) (by omega)
  refine j_iload_n hC dL_act_512 2 rfl ?_
  refine j_iconst hC dL_act_513 ?_
  refine j_ishrX hC dL_act_514 ?_
  refine j_iload_n hC dL_act_515 3 rfl ?_
  refine j_callS1 (ar := 2) hC hR (c_L_below (hlJ hC) (gx g X) σ (sx x 5) (σ.1 0) (by omega)) [] rfl (by decide) (by decide +kernel) rfl wd401 wd402 wd0 wd403 (by first | decide | omega) (Nat.le_of_ble_eq_true rfl) dL_act_516 ?_
  have hb516 := bl_rg (sx x 5) (n := σ.1 0) (by omega)
  refine j_istore hC dL_act_519 [(12, vI (bl (sx x 5) (σ.1 0))), (0, .ref (gd g (0))), (1, .ref a), (2, .int (x)), (3, vI (σ.1 0)), (5, vI (l)), (7, vI (s))] (by decide) rfl ?_
  refine j_aload_n hC dL_act_521 2 rfl ?_
  refine j_aload_n hC dL_act_522 2 rfl ?_
  refine r_books hC hr wd531 dL_act_523 ?_
  refine j_iload hC dL_act_526 5 rfl ?_
  refine r_lodge hC hr hI (by omega) dL_act_528 ?_
  refine j_iload hC dL_act_529 6 rfl ?_
  refine r_sign hC hr hI (by omega) (by omega) dL_act_531 ?_
  refine j_iload hC dL_act_532 0 rfl ?_
  refine g_callV (ar := 2) hC hR (c_X4_borrowed (hlJ hC) g X σ hr hI (Rp.sn hr hI (l := l) (z := s) (by omega) (by omega)) (by omega) (bl (sx x 5) (σ.1 0)) (by omega)) [] rfl hr.1 rfl rfl (by decide) (by decide +kernel) rfl wd502 wd503 wd504 wd4 wd505 (by omega) (Nat.le_of_ble_eq_true rfl) dL_act_534 ?_
  rintro v1 τ1 Y1 ⟨hτ, hb534, hor534⟩ hC
  rcases hor534 with ⟨e9, hno⟩ | ⟨q, e9, hok, hsq⟩
  · subst e9
    replace hτ := hτ.symm; subst hτ
    have hr := hr.sb hb534
    refine j_st (st2 := [.null]) rfl ?_
    refine x_astoreN hC dL_act_537 [(13, .null), (12, vI (bl (sx x 5) (σ.1 0))), (0, .ref (gd g (0))), (1, .ref a), (2, .int (x)), (3, vI (σ.1 0)), (5, vI (l)), (7, vI (s))] (by decide) rfl ?_
    refine j_iload hC dL_act_539 1 rfl ?_
    refine j_iload hC dL_act_541 6 rfl ?_
    refine j_icmp_eq (tgt := 551) hC dL_act_543 (by decide) (by omega) (fun h543 => ?_) (fun h543 => ?_)
    · refine j_iconst hC dL_act_551 ?_
      refine j_widen (k2 := 12) (n2 := 120) (by omega) (by omega) ?_
      exact g_zret hC (Or.inr rfl) dL_act_552 ⟨rfl, hv, _, hr⟩
    · refine x_aloadN hC dL_act_546 0 rfl ?_
      refine x_ifnonnullN hC dL_act_548 ?_
      refine j_iconst hC dL_act_551 ?_
      refine j_widen (k2 := 12) (n2 := 120) (by omega) (by omega) ?_
      exact g_zret hC (Or.inr rfl) dL_act_552 ⟨rfl, hv, _, hr⟩
  · subst e9
    replace hτ := hτ.symm; subst hτ
    have hr := hr.sb hb534
    refine j_st (st2 := [.ref q]) rfl ?_
    refine j_astore hC dL_act_537 [(13, .ref q), (12, vI (bl (sx x 5) (σ.1 0))), (0, .ref (gd g (0))), (1, .ref a), (2, .int (x)), (3, vI (σ.1 0)), (5, vI (l)), (7, vI (s))] (by decide) rfl ?_
    refine j_iload hC dL_act_539 1 rfl ?_
    refine j_iload hC dL_act_541 6 rfl ?_
    refine j_icmp_eq (tgt := 551) hC dL_act_543 (by decide) (by omega) (fun h543 => ?_) (fun h543 => ?_)
    · refine j_iconst hC dL_act_551 ?_
      refine j_widen (k2 := 12) (n2 := 120) (by omega) (by omega) ?_
      exact g_zret hC (Or.inr rfl) dL_act_552 ⟨rfl, hv, _, hr⟩
    · refine j_aload hC dL_act_546 0 rfl ?_
      refine x_ifnonnull (tgt := 553) hC dL_act_548 (by decide) ?_
      refine j_sub [0, 1, 2, 3, 6, 7] rfl ?_
      exact act_b2 (x := x) hr hv hC hR l hl s hs _ (by omega) (by omega) hok hsq _ _ (by omega) (by omega)
set_option maxHeartbeats 4000000 in
set_option maxRecDepth 100000 in
theorem act_re {mc : MC} {g : GG} {X : va_W} {σ : Sg} {a : Nat} {r : RR} {x : Int32} (hr : Rp g X a σ r) (hv : Iv σ) (hC : Cx mc (gx g X) cL_act RL 14 (some .boolean)) (hR : mR mc = rmJ 5 117 12 120) (b4 : Int) (hb4 : 7 ≤ b4 ∧ b4 < 16) (l : Int) (hl : 0 ≤ l ∧ l < σ.1 0) (hn0 : σ.1 (2 + l.toNat) ≠ 0) : ∀ k n : Nat, k ≤ 1 → n ≤ 5 → J mc (gx g X) k n (QNG mc g (pAct g a) 12 120) 244 [(0, .ref (gd g (0))), (1, .ref a), (2, .int (x)), (4, vI (b4)), (3, vI (σ.1 0)), (5, vI (l)), (6, vI (σ.1 (2 + l.toNat)))] [] σ := by
  intro k n hk1 hn1
  have hI := hv.1
  have hc0 := IC_n hI
  have hkn := IC_k hI hl
  refine j_iload_n hC dL_act_244 2 rfl ?_
  refine j_iconst hC dL_act_245 ?_
  refine j_ishrX hC dL_act_246 ?_
  refine j_iload hC dL_act_247 6 rfl ?_
  refine j_callS1 (ar := 2) hC hR (c_L_below (hlJ hC) (gx g X) σ (sx x 3) (σ.1 (2 + l.toNat)) (by omega)) [] rfl (by decide) (by decide +kernel) rfl wd401 wd402 wd0 wd403 (by first | decide | omega) (Nat.le_of_ble_eq_true rfl) dL_act_249 ?_
  have hb249 := bl_rg (sx x 3) (n := σ.1 (2 + l.toNat)) (by omega)
  refine j_istore hC dL_act_252 [(7, vI (bl (sx x 3) (σ.1 (2 + l.toNat)))), (0, .ref (gd g (0))), (1, .ref a), (2, .int (x)), (4, vI (b4)), (3, vI (σ.1 0)), (5, vI (l)), (6, vI (σ.1 (2 + l.toNat)))] (by decide) rfl ?_
  refine j_iload hC dL_act_254 4 rfl ?_
  rcases (show b4 = 7 ∨ b4 = 8 ∨ b4 = 9 ∨ b4 = 10 ∨ 10 < b4 by omega) with h | h | h | h | h
  · refine j_tabIn (tgt := 288) hC 7 h (by decide) dL_act_256 (by decide) (by decide) rfl (by decide) ?_
    refine j_sub [1, 2, 6, 0] rfl ?_
    exact act_rm (x := x) hr hv hC hR l hl _ (by omega) _ _ hk1 hn1
  · refine j_tabIn (tgt := 329) hC 8 h (by decide) dL_act_256 (by decide) (by decide) rfl (by decide) ?_
    refine j_sub [1, 2, 3, 6, 0] rfl ?_
    exact act_th (x := x) hr hv hC hR l hl _ (by omega) _ _ hk1 hn1
  · refine j_tabIn (tgt := 329) hC 9 h (by decide) dL_act_256 (by decide) (by decide) rfl (by decide) ?_
    refine j_sub [1, 2, 3, 6, 0] rfl ?_
    exact act_th (x := x) hr hv hC hR l hl _ (by omega) _ _ hk1 hn1
  · refine j_tabIn (tgt := 452) hC 10 h (by decide) dL_act_256 (by decide) (by decide) rfl (by decide) ?_
    refine j_sub [1, 2, 3] rfl ?_
    exact act_jo (x := x) hr hv hC hR  _ _ hk1 hn1
  · refine j_tabOut (tgt := 512) hC (by omega) dL_act_256 (by omega) (by decide) ?_
    refine j_sub [1, 2, 3, 5, 6, 0] rfl ?_
    exact act_bo (x := x) hr hv hC hR l hl _ (by omega) _ _ hk1 hn1
set_option maxHeartbeats 4000000 in
set_option maxRecDepth 100000 in
theorem c_L_act {ll : Launch} (hll : ll.stackTraces = false) (g : GG) (X : va_W) (σ : Sg) (x : Int32) {a : Nat} {r : RR} (hr : Rp g X a σ r) (hv : Iv σ) : CG ll yL_act cL_act 14 (some .boolean) 5 117 12 120 g X [.ref (gd g 0), .ref a, .int x] σ (pAct g a) := by
  refine CG_of (own := RL) hll (by decide) rfl (Nat.le_of_ble_eq_true rfl) (fun mc hC _ hR => ?_)
  refine j_lv (lv2 := [(0, .ref (gd g (0))), (1, .ref a), (2, .int (x))]) rfl ?_
  have hI := hv.1
  have hc0 := IC_n hI
  refine j_aload_n hC dL_act_0 1 rfl ?_
  refine r_books hC hr wd531 dL_act_1 ?_
  refine r_blen hC hr hI dL_act_4 ?_
  refine j_istore_n hC dL_act_5 [(3, vI (σ.1 0)), (0, .ref (gd g (0))), (1, .ref a), (2, .int (x))] (by decide) rfl ?_
  refine j_iload_n hC dL_act_6 3 rfl ?_
  refine j_bipush hC dL_act_7 (by decide) ?_
  refine j_ishrX hC dL_act_9 ?_
  refine j_bipush hC dL_act_10 (by decide) ?_
  refine j_callS1 (ar := 2) hC hR (c_L_below (hlJ hC) (gx g X) σ (sx x 9) 16 (by omega)) [] rfl (by decide) (by decide +kernel) rfl wd401 wd402 wd0 wd403 (by first | decide | omega) (Nat.le_of_ble_eq_true rfl) dL_act_12 ?_
  have hb12 := bl_rg (sx x 9) (n := 16) (by omega)
  refine j_istore hC dL_act_15 [(4, vI (bl (sx x 9) 16)), (3, vI (σ.1 0)), (0, .ref (gd g (0))), (1, .ref a), (2, .int (x))] (by decide) rfl ?_
  refine j_iload_n hC dL_act_17 1 rfl ?_
  refine j_if_eq (tgt := 26) hC dL_act_18 (by decide) (by omega) (fun h18 => ?_) (fun h18 => ?_)
  · refine j_iload_n hC dL_act_26 1 rfl ?_
    refine j_iconst hC dL_act_27 ?_
    refine j_icmp_ne (tgt := 33) hC dL_act_28 (by decide) (by omega) (fun h28 => ?_) (fun h28 => ?_)
    · refine j_aload_n hC dL_act_33 3 rfl ?_
      refine g_callV (ar := 0) hC hR (c_X4_addLodge (hlJ hC) g X σ hr hI (by omega) (hv.2.2.2 _ (by omega) (by omega))) [] rfl hr.1 rfl rfl (by decide) (by decide +kernel) rfl wd412 wd413 wd414 wd4 wd415 (by omega) (Nat.le_of_ble_eq_true rfl) dL_act_34 ?_
      rintro v1 τ1 Y1 ⟨hv1, hτ, r2, hr2⟩ hC
      subst hv1; replace hτ := hτ.symm; subst hτ
      refine j_st (st2 := []) rfl ?_
      refine j_aload_n hC dL_act_37 2 rfl ?_
      refine j_callV1 (ar := 0) hC hR (c_X3_addLodge (hlJ hC) (gx g Y1) σ hI  (by omega)) [] rfl 0 rfl rfl rfl (by decide) (by decide +kernel) rfl wd420 wd421 wd422 wd1 wd423 (by first | decide | omega) (Nat.le_of_ble_eq_true rfl) dL_act_38 ?_
      refine j_iload_n hC dL_act_41 1 rfl ?_
      refine j_icmp_ne (tgt := 49) hC dL_act_42 (by decide) (by omega) (fun h => absurd h (by omega)) (fun _ => ?_)
      refine j_iconst hC dL_act_45 ?_
      refine j_goto (tgt := 50) hC dL_act_46 (by decide) ?_
      refine j_widen (k2 := 12) (n2 := 120) (by omega) (by omega) ?_
      exact g_zret hC (Or.inr rfl) dL_act_50 ⟨rfl, Iv_al hv (by omega), _, hr2⟩
    · refine j_iconst hC dL_act_31 ?_
      refine j_widen (k2 := 12) (n2 := 120) (by omega) (by omega) ?_
      exact g_zret hC (Or.inr rfl) dL_act_32 ⟨rfl, hv, _, hr⟩
  · refine j_iload hC dL_act_21 0 rfl ?_
    refine j_if_ne (tgt := 51) hC dL_act_23 (by decide) (by omega) (fun h23 => ?_) (fun h23 => ?_)
    · refine j_iload_n hC dL_act_51 4 rfl ?_
      refine j_iconst hC dL_act_52 ?_
      refine j_ishrX hC dL_act_53 ?_
      refine j_iload_n hC dL_act_54 1 rfl ?_
      refine j_callS1 (ar := 2) hC hR (c_L_below (hlJ hC) (gx g X) σ (sx x 1) (σ.1 0) (by omega)) [] rfl (by decide) (by decide +kernel) rfl wd401 wd402 wd0 wd403 (by first | decide | omega) (Nat.le_of_ble_eq_true rfl) dL_act_55 ?_
      have hb55 := bl_rg (sx x 1) (n := σ.1 0) (by omega)
      refine j_istore hC dL_act_58 [(5, vI (bl (sx x 1) (σ.1 0))), (4, vI (bl (sx x 9) 16)), (3, vI (σ.1 0)), (0, .ref (gd g (0))), (1, .ref a), (2, .int (x))] (by decide) rfl ?_
      refine j_aload_n hC dL_act_60 4 rfl ?_
      refine r_books hC hr wd531 dL_act_61 ?_
      refine j_iload hC dL_act_64 0 rfl ?_
      refine r_lodge hC hr hI (by omega) dL_act_66 ?_
      refine r_llen hC hr hI (by omega) dL_act_67 ?_
      refine j_istore hC dL_act_68 [(6, vI (σ.1 (2 + (bl (sx x 1) (σ.1 0)).toNat))), (5, vI (bl (sx x 1) (σ.1 0))), (4, vI (bl (sx x 9) 16)), (3, vI (σ.1 0)), (0, .ref (gd g (0))), (1, .ref a), (2, .int (x))] (by decide) rfl ?_
      have hkn := IC_k hI (l := bl (sx x 1) (σ.1 0)) (by omega)
      refine j_iload hC dL_act_70 0 rfl ?_
      refine j_if_eq (tgt := 82) hC dL_act_72 (by decide) (by omega) (fun h72 => ?_) (fun h72 => ?_)
      · refine j_sub [4, 5, 6, 1, 0] rfl ?_
        exact act_si (x := x) hr hv hC hR (bl (sx x 1) (σ.1 0)) (by omega) _ _ (by omega) (by omega)
      · refine j_iload hC dL_act_75 2 rfl ?_
        refine j_bipush hC dL_act_77 (by decide) ?_
        refine j_icmp_ge (tgt := 244) hC dL_act_79 (by decide) (by omega) (fun h79 => ?_) (fun h79 => ?_)
        · refine j_sub [4, 5, 6, 2, 3, 1, 0] rfl ?_
          exact act_re (x := x) hr hv hC hR (bl (sx x 9) 16) (by omega) (bl (sx x 1) (σ.1 0)) (by omega) (by omega) _ _ (by omega) (by omega)
        · refine j_sub [4, 5, 6, 1, 0] rfl ?_
          exact act_si (x := x) hr hv hC hR (bl (sx x 1) (σ.1 0)) (by omega) _ _ (by omega) (by omega)
    · refine j_iload_n hC dL_act_26 1 rfl ?_
      refine j_iconst hC dL_act_27 ?_
      refine j_icmp_ne (tgt := 33) hC dL_act_28 (by decide) (by omega) (fun h28 => ?_) (fun h28 => ?_)
      · refine j_aload_n hC dL_act_33 3 rfl ?_
        refine g_callV (ar := 0) hC hR (c_X4_addLodge (hlJ hC) g X σ hr hI (by omega) (hv.2.2.2 _ (by omega) (by omega))) [] rfl hr.1 rfl rfl (by decide) (by decide +kernel) rfl wd412 wd413 wd414 wd4 wd415 (by omega) (Nat.le_of_ble_eq_true rfl) dL_act_34 ?_
        rintro v1 τ1 Y2 ⟨hv1, hτ, r2, hr2⟩ hC
        subst hv1; replace hτ := hτ.symm; subst hτ
        refine j_st (st2 := []) rfl ?_
        refine j_aload_n hC dL_act_37 2 rfl ?_
        refine j_callV1 (ar := 0) hC hR (c_X3_addLodge (hlJ hC) (gx g Y2) σ hI  (by omega)) [] rfl 0 rfl rfl rfl (by decide) (by decide +kernel) rfl wd420 wd421 wd422 wd1 wd423 (by first | decide | omega) (Nat.le_of_ble_eq_true rfl) dL_act_38 ?_
        refine j_iload_n hC dL_act_41 1 rfl ?_
        refine j_icmp_ne (tgt := 49) hC dL_act_42 (by decide) (by omega) (fun h => absurd h (by omega)) (fun _ => ?_)
        refine j_iconst hC dL_act_45 ?_
        refine j_goto (tgt := 50) hC dL_act_46 (by decide) ?_
        refine j_widen (k2 := 12) (n2 := 120) (by omega) (by omega) ?_
        exact g_zret hC (Or.inr rfl) dL_act_50 ⟨rfl, Iv_al hv (by omega), _, hr2⟩
      · refine j_iconst hC dL_act_31 ?_
        refine j_widen (k2 := 12) (n2 := 120) (by omega) (by omega) ?_
        exact g_zret hC (Or.inr rfl) dL_act_32 ⟨rfl, hv, _, hr⟩
