set_option maxHeartbeats 4000000 in
set_option maxRecDepth 100000 in
theorem lp_law_k {mc : MC} {g : GG} {Q : State → Prop} (hR : mR mc = rmJ 12 466 600074 7301550) {a : Nat} {r : RR} {XB : va_W} {σ : Sg} {x : Int32} (t : Int) (hr0 : Rp g XB a σ r) (hv : Iv σ) (l : Int) (hl : 0 ≤ l ∧ l < σ.1 0) {q v : Nat} {rr : Nat → Nat} {f : Nat → Option Nat} (hq : (q, rq (gU g) (nLo σ) f) ∈ XB) (hfl : f l.toNat = some v) (hgv : (v, rq (gY g) (cN σ l.toNat) (fun i => if i < cN σ l.toNat then some (rr i) else none)) ∈ XB) (hfr : ∀ i, i < cN σ l.toNat → Fr XB (rr i)) (inj : ∀ i j : Nat, i < cN σ l.toNat → j < cN σ l.toNat → rr i = rr j → i = j) (j : Int) (hj : 0 ≤ j ∧ j < σ.1 (2 + l.toNat)) (k9 n9 : Nat) (hk9 : k9 ≤ 600074 ∧ n9 ≤ 7301550) : ∀ (d : Nat) (k : Int) (b : Int) (cl : Int) (al : Int) (th : Int) (X : va_W) (F : Nat → Int → Int), (Cx mc (gx g X) cL_law RL 15 (some .boolean)) → (Sb XB X) → (∀ i, i < cN σ l.toNat → (rr i, ri g (F i) (cN σ l.toNat)) ∈ X) → (∀ (i : Nat) (w : Int), i < cN σ l.toNat → 0 ≤ w → w < σ.1 (2 + l.toNat) → ((i : Int) < j ∨ ((i : Int) = j ∧ w < k)) → F i w = dB σ l.toNat i w) → (0 ≤ k) → (k + (d : Int) = σ.1 (2 + l.toNat)) → (0 ≤ cl ∧ cl ≤ 99) → (b = 0 ∨ b = 1) → (∀ (Y : va_W) (F : Nat → Int → Int), Cx mc (gx g Y) cL_law RL 15 (some .boolean) → Sb XB Y → (∀ i, i < cN σ l.toNat → (rr i, ri g (F i) (cN σ l.toNat)) ∈ Y) → (∀ (i : Nat) (w : Int), i < cN σ l.toNat → 0 ≤ w → w < σ.1 (2 + l.toNat) → (i : Int) < j + 1 → F i w = dB σ l.toNat i w) → J mc (gx g Y) k9 n9 Q 386 [(13, vI (aoF (dB σ l.toNat j) j d k b)), (11, vI (nbF (dB σ l.toNat j) j d k cl)), (9, vI (skF (alW σ l.toNat j) j d k al)), (10, vI (skF (thW σ l.toNat j) j d k th)), (12, vI (j)), (0, .ref (gb g)), (1, .ref (gd g (0))), (2, .ref a), (3, vI (t)), (4, .int (x)), (5, vI (σ.1 0)), (6, .ref q), (7, vI (l)), (8, vI (σ.1 (2 + l.toNat)))] [] σ) → J mc (gx g X) k9 n9 Q 163 [(14, vI (k)), (13, vI (b)), (11, vI (cl)), (9, vI (al)), (10, vI (th)), (12, vI (j)), (0, .ref (gb g)), (1, .ref (gd g (0))), (2, .ref a), (3, vI (t)), (4, .int (x)), (5, vI (σ.1 0)), (6, .ref q), (7, vI (l)), (8, vI (σ.1 (2 + l.toNat)))] [] σ := by
  intro d
  induction d with
  | zero =>
    intro k b cl al th X F hC hb hrows hF h0 hz hcl hb1 kx
    have hI := hv.1
    have hc0 := IC_n hI
    have hkn := IC_k hI hl
    refine j_iload hC dL_law_163 0 rfl ?_
    refine j_iload hC dL_law_165 14 rfl ?_
    refine j_icmp_ge (tgt := 386) hC dL_law_167 (by decide) (by omega) (fun _ => ?_) (fun h => absurd h (by omega))
    refine j_sub [1, 2, 3, 4, 5, 6, 7, 8, 9, 10, 11, 12, 13, 14] rfl ?_
    exact kx X F hC hb hrows (fun i w i0 w0 w1 h => hF i w i0 w0 w1 (by omega))
  | succ d ih =>
    intro k b cl al th X F hC hb hrows hF h0 hz hcl hb1 kx
    have hI := hv.1
    have hc0 := IC_n hI
    have hkn := IC_k hI hl
    have hsj := IC_s hI hl (z := j) (by omega)
    have hsk := IC_s hI hl (z := k) (by omega)
    have hself : k = j → dst (σ.2 0) (σ.2 (1 + l.toNat) j) (σ.2 (1 + l.toNat) k) = 0 := fun e => by rw [e]; exact dB_self (σ := σ) (b := l.toNat) j
    rw [show aoF (dB σ l.toNat j) j (d + 1) k b = aoF (dB σ l.toNat j) j d (k + 1) (if k = j then b else if b = 1 ∧ 0 < dst (σ.2 0) (σ.2 (1 + l.toNat) j) (σ.2 (1 + l.toNat) k) then 1 else 0) from rfl, show nbF (dB σ l.toNat j) j (d + 1) k cl = nbF (dB σ l.toNat j) j d (k + 1) (if k = j then cl else if cl ≤ dst (σ.2 0) (σ.2 (1 + l.toNat) j) (σ.2 (1 + l.toNat) k) then cl else dst (σ.2 0) (σ.2 (1 + l.toNat) j) (σ.2 (1 + l.toNat) k)) from rfl, show skF (alW σ l.toNat j) j (d + 1) k al = skF (alW σ l.toNat j) j d (k + 1) (if k = j then al else al + (if k < j ∧ dst (σ.2 0) (σ.2 (1 + l.toNat) j) (σ.2 (1 + l.toNat) k) = 0 then 1 else 0)) from rfl, show skF (thW σ l.toNat j) j (d + 1) k th = skF (thW σ l.toNat j) j d (k + 1) (if k = j then th else th + (if k < j ∧ dst (σ.2 0) (σ.2 (1 + l.toNat) j) (σ.2 (1 + l.toNat) k) = 1 ∧ σ.2 (1 + l.toNat) j / 16 % 4 ≠ σ.2 (1 + l.toNat) k / 16 % 4 then 1 else 0)) from rfl] at kx
    refine j_iload hC dL_law_163 0 rfl ?_
    refine j_iload hC dL_law_165 14 rfl ?_
    refine j_icmp_ge (tgt := 386) hC dL_law_167 (by decide) (by omega) (fun h => absurd h (by omega)) (fun _ => ?_)
    refine j_aload hC dL_law_170 12 rfl ?_
    refine j_iload hC dL_law_172 13 rfl ?_
    refine x_rald hC (hb _ hq) 4 rfl rfl hfl (by omega) dL_law_174 ?_
    refine j_iload hC dL_law_175 5 rfl ?_
    refine x_rald hC (hb _ hgv) 3 rfl rfl (if_pos (by omega)) (by omega) dL_law_177 ?_
    refine j_iload hC dL_law_178 0 rfl ?_
    refine j_aload_n hC dL_law_180 7 rfl ?_
    refine j_iload hC dL_law_181 13 rfl ?_
    refine j_iload hC dL_law_183 5 rfl ?_
    refine j_iload hC dL_law_185 0 rfl ?_
    refine j_callV1 (ar := 3) hC hR (c_X3_apart (hlJ hC) (gx g X) σ hI l j k (by omega) (by omega) (by omega) ) [vI (k), .ref (rr j.toNat)] rfl 0 rfl rfl rfl (by decide) (by decide +kernel) rfl wd220 wd221 wd222 wd1 wd223 (by first | decide | omega) (Nat.le_of_ble_eq_true rfl) dL_law_187 ?_
    have hd187 := dst_rg (G := σ.2 0) (x := σ.2 (1 + l.toNat) j) (y := σ.2 (1 + l.toNat) k) (by omega)
    refine x_iast hC (hrows j.toNat (by omega)) (by omega) dL_law_190 (fun Y1 hw hC => ?_)
    have hb := hb.wr (hfr j.toNat (by omega)) hw
    refine j_aload hC dL_law_191 12 rfl ?_
    refine j_iload hC dL_law_193 13 rfl ?_
    refine x_rald hC (hb _ hq) 4 rfl rfl hfl (by omega) dL_law_195 ?_
    refine j_iload hC dL_law_196 5 rfl ?_
    refine x_rald hC (hb _ hgv) 3 rfl rfl (if_pos (by omega)) (by omega) dL_law_198 ?_
    refine j_iload hC dL_law_199 0 rfl ?_
    refine x_ialdE (y := dst (σ.2 0) (σ.2 (1 + l.toNat) j) (σ.2 (1 + l.toNat) k)) hC hw.1 (if_pos rfl) (by omega) dL_law_201 ?_
    refine j_if_lt (tgt := 242) hC dL_law_202 (by decide) (by omega) (fun h => absurd h (by omega)) (fun _ => ?_)
    refine j_aload hC dL_law_205 12 rfl ?_
    refine j_iload hC dL_law_207 13 rfl ?_
    refine x_rald hC (hb _ hq) 4 rfl rfl hfl (by omega) dL_law_209 ?_
    refine j_iload hC dL_law_210 5 rfl ?_
    refine x_rald hC (hb _ hgv) 3 rfl rfl (if_pos (by omega)) (by omega) dL_law_212 ?_
    refine j_iload hC dL_law_213 0 rfl ?_
    refine x_ialdE (y := dst (σ.2 0) (σ.2 (1 + l.toNat) j) (σ.2 (1 + l.toNat) k)) hC hw.1 (if_pos rfl) (by omega) dL_law_215 ?_
    refine j_bipush hC dL_law_216 (by decide) ?_
    refine j_icmp_gt (tgt := 242) hC dL_law_218 (by decide) (by omega) (fun h => absurd h (by omega)) (fun _ => ?_)
    refine j_iload hC dL_law_221 5 rfl ?_
    refine j_iload hC dL_law_223 0 rfl ?_
    refine j_icmp_ne (tgt := 244) hC dL_law_225 (by decide) (by omega) (fun h225 => ?_) (fun h225 => ?_)
    · refine j_iload hC dL_law_244 5 rfl ?_
      refine j_iload hC dL_law_246 0 rfl ?_
      refine j_icmp_ne (tgt := 254) hC dL_law_248 (by decide) (by omega) (fun _ => ?_) (fun h => absurd h (by omega))
      refine j_iload hC dL_law_254 1 rfl ?_
      suffices K278 : J mc (gx g Y1) _ _ Q 278 [(14, vI (k)), (13, vI (b)), (11, vI (cl)), (9, vI (al)), (10, vI (th)), (12, vI (j)), (0, .ref (gb g)), (1, .ref (gd g (0))), (2, .ref a), (3, vI (t)), (4, .int (x)), (5, vI (σ.1 0)), (6, .ref q), (7, vI (l)), (8, vI (σ.1 (2 + l.toNat)))] [vI ((if b = 1 ∧ 0 < dst (σ.2 0) (σ.2 (1 + l.toNat) j) (σ.2 (1 + l.toNat) k) then 1 else 0))] σ by
        refine j_if_eq (tgt := 277) hC dL_law_256 (by decide) (by omega) (fun h256 => ?_) (fun h256 => ?_)
        · refine j_iconst hC dL_law_277 ?_
          exact (by first | (rw [show ((if b = 1 ∧ 0 < dst (σ.2 0) (σ.2 (1 + l.toNat) j) (σ.2 (1 + l.toNat) k) then 1 else 0) : Int) = 1 from if_pos (by omega)] at K278; exact K278) | (rw [show ((if b = 1 ∧ 0 < dst (σ.2 0) (σ.2 (1 + l.toNat) j) (σ.2 (1 + l.toNat) k) then 1 else 0) : Int) = 1 from if_pos (by omega)] at K278 ⊢; exact K278) | (rw [show ((if b = 1 ∧ 0 < dst (σ.2 0) (σ.2 (1 + l.toNat) j) (σ.2 (1 + l.toNat) k) then 1 else 0) : Int) = 0 from if_neg (by omega)] at K278; exact K278) | (rw [show ((if b = 1 ∧ 0 < dst (σ.2 0) (σ.2 (1 + l.toNat) j) (σ.2 (1 + l.toNat) k) then 1 else 0) : Int) = 0 from if_neg (by omega)] at K278 ⊢; exact K278))
        · refine j_aload hC dL_law_259 12 rfl ?_
          refine j_iload hC dL_law_261 13 rfl ?_
          refine x_rald hC (hb _ hq) 4 rfl rfl hfl (by omega) dL_law_263 ?_
          refine j_iload hC dL_law_264 5 rfl ?_
          refine x_rald hC (hb _ hgv) 3 rfl rfl (if_pos (by omega)) (by omega) dL_law_266 ?_
          refine j_iload hC dL_law_267 0 rfl ?_
          refine x_ialdE (y := dst (σ.2 0) (σ.2 (1 + l.toNat) j) (σ.2 (1 + l.toNat) k)) hC hw.1 (if_pos rfl) (by omega) dL_law_269 ?_
          refine j_if_le (tgt := 277) hC dL_law_270 (by decide) (by omega) (fun h270 => ?_) (fun h270 => ?_)
          · refine j_iconst hC dL_law_277 ?_
            exact (by first | (rw [show ((if b = 1 ∧ 0 < dst (σ.2 0) (σ.2 (1 + l.toNat) j) (σ.2 (1 + l.toNat) k) then 1 else 0) : Int) = 1 from if_pos (by omega)] at K278; exact K278) | (rw [show ((if b = 1 ∧ 0 < dst (σ.2 0) (σ.2 (1 + l.toNat) j) (σ.2 (1 + l.toNat) k) then 1 else 0) : Int) = 1 from if_pos (by omega)] at K278 ⊢; exact K278) | (rw [show ((if b = 1 ∧ 0 < dst (σ.2 0) (σ.2 (1 + l.toNat) j) (σ.2 (1 + l.toNat) k) then 1 else 0) : Int) = 0 from if_neg (by omega)] at K278; exact K278) | (rw [show ((if b = 1 ∧ 0 < dst (σ.2 0) (σ.2 (1 + l.toNat) j) (σ.2 (1 + l.toNat) k) then 1 else 0) : Int) = 0 from if_neg (by omega)] at K278 ⊢; exact K278))
          · refine j_iconst hC dL_law_273 ?_
            refine j_goto (tgt := 278) hC dL_law_274 (by decide) ?_
            exact (by first | (rw [show ((if b = 1 ∧ 0 < dst (σ.2 0) (σ.2 (1 + l.toNat) j) (σ.2 (1 + l.toNat) k) then 1 else 0) : Int) = 1 from if_pos (by omega)] at K278; exact K278) | (rw [show ((if b = 1 ∧ 0 < dst (σ.2 0) (σ.2 (1 + l.toNat) j) (σ.2 (1 + l.toNat) k) then 1 else 0) : Int) = 1 from if_pos (by omega)] at K278 ⊢; exact K278) | (rw [show ((if b = 1 ∧ 0 < dst (σ.2 0) (σ.2 (1 + l.toNat) j) (σ.2 (1 + l.toNat) k) then 1 else 0) : Int) = 0 from if_neg (by omega)] at K278; exact K278) | (rw [show ((if b = 1 ∧ 0 < dst (σ.2 0) (σ.2 (1 + l.toNat) j) (σ.2 (1 + l.toNat) k) then 1 else 0) : Int) = 0 from if_neg (by omega)] at K278 ⊢; exact K278))
      refine j_istore hC dL_law_278 [(13, vI ((if b = 1 ∧ 0 < dst (σ.2 0) (σ.2 (1 + l.toNat) j) (σ.2 (1 + l.toNat) k) then 1 else 0))), (14, vI (k)), (11, vI (cl)), (9, vI (al)), (10, vI (th)), (12, vI (j)), (0, .ref (gb g)), (1, .ref (gd g (0))), (2, .ref a), (3, vI (t)), (4, .int (x)), (5, vI (σ.1 0)), (6, .ref q), (7, vI (l)), (8, vI (σ.1 (2 + l.toNat)))] (by decide) rfl ?_
      refine j_iload hC dL_law_280 2 rfl ?_
      refine j_aload hC dL_law_282 12 rfl ?_
      refine j_iload hC dL_law_284 13 rfl ?_
      refine x_rald hC (hb _ hq) 4 rfl rfl hfl (by omega) dL_law_286 ?_
      refine j_iload hC dL_law_287 5 rfl ?_
      refine x_rald hC (hb _ hgv) 3 rfl rfl (if_pos (by omega)) (by omega) dL_law_289 ?_
      refine j_iload hC dL_law_290 1 rfl ?_
      refine x_ialdE (y := dst (σ.2 0) (σ.2 (1 + l.toNat) j) (σ.2 (1 + l.toNat) k)) hC hw.1 (if_pos rfl) (by omega) dL_law_292 ?_
      refine j_min hC hR wd538 ⟨by decide, Nat.le_of_ble_eq_true rfl⟩ (by first | decide | omega) (by omega) dL_law_293 ?_
      refine j_istore hC dL_law_296 [(11, vI (if cl ≤ dst (σ.2 0) (σ.2 (1 + l.toNat) j) (σ.2 (1 + l.toNat) k) then cl else dst (σ.2 0) (σ.2 (1 + l.toNat) j) (σ.2 (1 + l.toNat) k))), (13, vI ((if b = 1 ∧ 0 < dst (σ.2 0) (σ.2 (1 + l.toNat) j) (σ.2 (1 + l.toNat) k) then 1 else 0))), (14, vI (k)), (9, vI (al)), (10, vI (th)), (12, vI (j)), (0, .ref (gb g)), (1, .ref (gd g (0))), (2, .ref a), (3, vI (t)), (4, .int (x)), (5, vI (σ.1 0)), (6, .ref q), (7, vI (l)), (8, vI (σ.1 (2 + l.toNat)))] (by decide) rfl ?_
      refine j_iload hC dL_law_298 3 rfl ?_
      refine j_iload hC dL_law_300 2 rfl ?_
      refine j_iload hC dL_law_302 5 rfl ?_
      suffices K326 : J mc (gx g Y1) _ _ Q 326 [(11, vI (if cl ≤ dst (σ.2 0) (σ.2 (1 + l.toNat) j) (σ.2 (1 + l.toNat) k) then cl else dst (σ.2 0) (σ.2 (1 + l.toNat) j) (σ.2 (1 + l.toNat) k))), (13, vI ((if b = 1 ∧ 0 < dst (σ.2 0) (σ.2 (1 + l.toNat) j) (σ.2 (1 + l.toNat) k) then 1 else 0))), (14, vI (k)), (9, vI (al)), (10, vI (th)), (12, vI (j)), (0, .ref (gb g)), (1, .ref (gd g (0))), (2, .ref a), (3, vI (t)), (4, .int (x)), (5, vI (σ.1 0)), (6, .ref q), (7, vI (l)), (8, vI (σ.1 (2 + l.toNat)))] [vI ((if k < j ∧ dst (σ.2 0) (σ.2 (1 + l.toNat) j) (σ.2 (1 + l.toNat) k) = 0 then 1 else 0)), vI (al)] σ by
        refine j_icmp_ge (tgt := 325) hC dL_law_304 (by decide) (by omega) (fun h304 => ?_) (fun h304 => ?_)
        · refine j_iconst hC dL_law_325 ?_
          exact (by first | (rw [show ((if k < j ∧ dst (σ.2 0) (σ.2 (1 + l.toNat) j) (σ.2 (1 + l.toNat) k) = 0 then 1 else 0) : Int) = 1 from if_pos (by omega)] at K326; exact K326) | (rw [show ((if k < j ∧ dst (σ.2 0) (σ.2 (1 + l.toNat) j) (σ.2 (1 + l.toNat) k) = 0 then 1 else 0) : Int) = 1 from if_pos (by omega)] at K326 ⊢; exact K326) | (rw [show ((if k < j ∧ dst (σ.2 0) (σ.2 (1 + l.toNat) j) (σ.2 (1 + l.toNat) k) = 0 then 1 else 0) : Int) = 0 from if_neg (by omega)] at K326; exact K326) | (rw [show ((if k < j ∧ dst (σ.2 0) (σ.2 (1 + l.toNat) j) (σ.2 (1 + l.toNat) k) = 0 then 1 else 0) : Int) = 0 from if_neg (by omega)] at K326 ⊢; exact K326))
        · refine j_aload hC dL_law_307 12 rfl ?_
          refine j_iload hC dL_law_309 13 rfl ?_
          refine x_rald hC (hb _ hq) 4 rfl rfl hfl (by omega) dL_law_311 ?_
          refine j_iload hC dL_law_312 5 rfl ?_
          refine x_rald hC (hb _ hgv) 3 rfl rfl (if_pos (by omega)) (by omega) dL_law_314 ?_
          refine j_iload hC dL_law_315 2 rfl ?_
          refine x_ialdE (y := dst (σ.2 0) (σ.2 (1 + l.toNat) j) (σ.2 (1 + l.toNat) k)) hC hw.1 (if_pos rfl) (by omega) dL_law_317 ?_
          refine j_if_ne (tgt := 325) hC dL_law_318 (by decide) (by omega) (fun h318 => ?_) (fun h318 => ?_)
          · refine j_iconst hC dL_law_325 ?_
            exact (by first | (rw [show ((if k < j ∧ dst (σ.2 0) (σ.2 (1 + l.toNat) j) (σ.2 (1 + l.toNat) k) = 0 then 1 else 0) : Int) = 1 from if_pos (by omega)] at K326; exact K326) | (rw [show ((if k < j ∧ dst (σ.2 0) (σ.2 (1 + l.toNat) j) (σ.2 (1 + l.toNat) k) = 0 then 1 else 0) : Int) = 1 from if_pos (by omega)] at K326 ⊢; exact K326) | (rw [show ((if k < j ∧ dst (σ.2 0) (σ.2 (1 + l.toNat) j) (σ.2 (1 + l.toNat) k) = 0 then 1 else 0) : Int) = 0 from if_neg (by omega)] at K326; exact K326) | (rw [show ((if k < j ∧ dst (σ.2 0) (σ.2 (1 + l.toNat) j) (σ.2 (1 + l.toNat) k) = 0 then 1 else 0) : Int) = 0 from if_neg (by omega)] at K326 ⊢; exact K326))
          · refine j_iconst hC dL_law_321 ?_
            refine j_goto (tgt := 326) hC dL_law_322 (by decide) ?_
            exact (by first | (rw [show ((if k < j ∧ dst (σ.2 0) (σ.2 (1 + l.toNat) j) (σ.2 (1 + l.toNat) k) = 0 then 1 else 0) : Int) = 1 from if_pos (by omega)] at K326; exact K326) | (rw [show ((if k < j ∧ dst (σ.2 0) (σ.2 (1 + l.toNat) j) (σ.2 (1 + l.toNat) k) = 0 then 1 else 0) : Int) = 1 from if_pos (by omega)] at K326 ⊢; exact K326) | (rw [show ((if k < j ∧ dst (σ.2 0) (σ.2 (1 + l.toNat) j) (σ.2 (1 + l.toNat) k) = 0 then 1 else 0) : Int) = 0 from if_neg (by omega)] at K326; exact K326) | (rw [show ((if k < j ∧ dst (σ.2 0) (σ.2 (1 + l.toNat) j) (σ.2 (1 + l.toNat) k) = 0 then 1 else 0) : Int) = 0 from if_neg (by omega)] at K326 ⊢; exact K326))
      refine j_iadd hC dL_law_326 ?_
      refine j_istore hC dL_law_327 [(9, vI (al + (if k < j ∧ dst (σ.2 0) (σ.2 (1 + l.toNat) j) (σ.2 (1 + l.toNat) k) = 0 then 1 else 0))), (11, vI (if cl ≤ dst (σ.2 0) (σ.2 (1 + l.toNat) j) (σ.2 (1 + l.toNat) k) then cl else dst (σ.2 0) (σ.2 (1 + l.toNat) j) (σ.2 (1 + l.toNat) k))), (13, vI ((if b = 1 ∧ 0 < dst (σ.2 0) (σ.2 (1 + l.toNat) j) (σ.2 (1 + l.toNat) k) then 1 else 0))), (14, vI (k)), (10, vI (th)), (12, vI (j)), (0, .ref (gb g)), (1, .ref (gd g (0))), (2, .ref a), (3, vI (t)), (4, .int (x)), (5, vI (σ.1 0)), (6, .ref q), (7, vI (l)), (8, vI (σ.1 (2 + l.toNat)))] (by decide) rfl ?_
      refine j_iload hC dL_law_329 4 rfl ?_
      refine j_iload hC dL_law_331 3 rfl ?_
      refine j_iload hC dL_law_333 5 rfl ?_
      suffices K377 : J mc (gx g Y1) _ _ Q 377 [(9, vI (al + (if k < j ∧ dst (σ.2 0) (σ.2 (1 + l.toNat) j) (σ.2 (1 + l.toNat) k) = 0 then 1 else 0))), (11, vI (if cl ≤ dst (σ.2 0) (σ.2 (1 + l.toNat) j) (σ.2 (1 + l.toNat) k) then cl else dst (σ.2 0) (σ.2 (1 + l.toNat) j) (σ.2 (1 + l.toNat) k))), (13, vI ((if b = 1 ∧ 0 < dst (σ.2 0) (σ.2 (1 + l.toNat) j) (σ.2 (1 + l.toNat) k) then 1 else 0))), (14, vI (k)), (10, vI (th)), (12, vI (j)), (0, .ref (gb g)), (1, .ref (gd g (0))), (2, .ref a), (3, vI (t)), (4, .int (x)), (5, vI (σ.1 0)), (6, .ref q), (7, vI (l)), (8, vI (σ.1 (2 + l.toNat)))] [vI ((if k < j ∧ dst (σ.2 0) (σ.2 (1 + l.toNat) j) (σ.2 (1 + l.toNat) k) = 1 ∧ σ.2 (1 + l.toNat) j / 16 % 4 ≠ σ.2 (1 + l.toNat) k / 16 % 4 then 1 else 0)), vI (th)] σ by
        refine j_icmp_ge (tgt := 376) hC dL_law_335 (by decide) (by omega) (fun h335 => ?_) (fun h335 => ?_)
        · refine j_iconst hC dL_law_376 ?_
          exact (by first | (rw [show ((if k < j ∧ dst (σ.2 0) (σ.2 (1 + l.toNat) j) (σ.2 (1 + l.toNat) k) = 1 ∧ σ.2 (1 + l.toNat) j / 16 % 4 ≠ σ.2 (1 + l.toNat) k / 16 % 4 then 1 else 0) : Int) = 1 from if_pos (by omega)] at K377; exact K377) | (rw [show ((if k < j ∧ dst (σ.2 0) (σ.2 (1 + l.toNat) j) (σ.2 (1 + l.toNat) k) = 1 ∧ σ.2 (1 + l.toNat) j / 16 % 4 ≠ σ.2 (1 + l.toNat) k / 16 % 4 then 1 else 0) : Int) = 1 from if_pos (by omega)] at K377 ⊢; exact K377) | (rw [show ((if k < j ∧ dst (σ.2 0) (σ.2 (1 + l.toNat) j) (σ.2 (1 + l.toNat) k) = 1 ∧ σ.2 (1 + l.toNat) j / 16 % 4 ≠ σ.2 (1 + l.toNat) k / 16 % 4 then 1 else 0) : Int) = 0 from if_neg (by omega)] at K377; exact K377) | (rw [show ((if k < j ∧ dst (σ.2 0) (σ.2 (1 + l.toNat) j) (σ.2 (1 + l.toNat) k) = 1 ∧ σ.2 (1 + l.toNat) j / 16 % 4 ≠ σ.2 (1 + l.toNat) k / 16 % 4 then 1 else 0) : Int) = 0 from if_neg (by omega)] at K377 ⊢; exact K377))
        · refine j_aload hC dL_law_338 12 rfl ?_
          refine j_iload hC dL_law_340 13 rfl ?_
          refine x_rald hC (hb _ hq) 4 rfl rfl hfl (by omega) dL_law_342 ?_
          refine j_iload hC dL_law_343 5 rfl ?_
          refine x_rald hC (hb _ hgv) 3 rfl rfl (if_pos (by omega)) (by omega) dL_law_345 ?_
          refine j_iload hC dL_law_346 3 rfl ?_
          refine x_ialdE (y := dst (σ.2 0) (σ.2 (1 + l.toNat) j) (σ.2 (1 + l.toNat) k)) hC hw.1 (if_pos rfl) (by omega) dL_law_348 ?_
          refine j_iconst hC dL_law_349 ?_
          refine j_icmp_ne (tgt := 376) hC dL_law_350 (by decide) (by omega) (fun h350 => ?_) (fun h350 => ?_)
          · refine j_iconst hC dL_law_376 ?_
            exact (by first | (rw [show ((if k < j ∧ dst (σ.2 0) (σ.2 (1 + l.toNat) j) (σ.2 (1 + l.toNat) k) = 1 ∧ σ.2 (1 + l.toNat) j / 16 % 4 ≠ σ.2 (1 + l.toNat) k / 16 % 4 then 1 else 0) : Int) = 1 from if_pos (by omega)] at K377; exact K377) | (rw [show ((if k < j ∧ dst (σ.2 0) (σ.2 (1 + l.toNat) j) (σ.2 (1 + l.toNat) k) = 1 ∧ σ.2 (1 + l.toNat) j / 16 % 4 ≠ σ.2 (1 + l.toNat) k / 16 % 4 then 1 else 0) : Int) = 1 from if_pos (by omega)] at K377 ⊢; exact K377) | (rw [show ((if k < j ∧ dst (σ.2 0) (σ.2 (1 + l.toNat) j) (σ.2 (1 + l.toNat) k) = 1 ∧ σ.2 (1 + l.toNat) j / 16 % 4 ≠ σ.2 (1 + l.toNat) k / 16 % 4 then 1 else 0) : Int) = 0 from if_neg (by omega)] at K377; exact K377) | (rw [show ((if k < j ∧ dst (σ.2 0) (σ.2 (1 + l.toNat) j) (σ.2 (1 + l.toNat) k) = 1 ∧ σ.2 (1 + l.toNat) j / 16 % 4 ≠ σ.2 (1 + l.toNat) k / 16 % 4 then 1 else 0) : Int) = 0 from if_neg (by omega)] at K377 ⊢; exact K377))
          · refine j_aload_n hC dL_law_353 7 rfl ?_
            refine j_iload hC dL_law_354 13 rfl ?_
            refine j_iload hC dL_law_356 5 rfl ?_
            refine j_callV1 (ar := 2) hC hR (c_X3_thumbOf (hlJ hC) (gx g Y1) σ hI l j (by omega) (by omega) ) [vI (th)] rfl 0 rfl rfl rfl (by decide) (by decide +kernel) rfl wd192 wd193 wd194 wd1 wd195 (by first | decide | omega) (Nat.le_of_ble_eq_true rfl) dL_law_358 ?_
            refine j_aload_n hC dL_law_361 7 rfl ?_
            refine j_iload hC dL_law_362 13 rfl ?_
            refine j_iload hC dL_law_364 3 rfl ?_
            refine j_callV1 (ar := 2) hC hR (c_X3_thumbOf (hlJ hC) (gx g Y1) σ hI l k (by omega) (by omega) ) [vI (σ.2 (1 + l.toNat) j / 16 % 4), vI (th)] rfl 0 rfl rfl rfl (by decide) (by decide +kernel) rfl wd192 wd193 wd194 wd1 wd195 (by first | decide | omega) (Nat.le_of_ble_eq_true rfl) dL_law_366 ?_
            refine j_icmp_eq (tgt := 376) hC dL_law_369 (by decide) (by omega) (fun h369 => ?_) (fun h369 => ?_)
            · refine j_iconst hC dL_law_376 ?_
              exact (by first | (rw [show ((if k < j ∧ dst (σ.2 0) (σ.2 (1 + l.toNat) j) (σ.2 (1 + l.toNat) k) = 1 ∧ σ.2 (1 + l.toNat) j / 16 % 4 ≠ σ.2 (1 + l.toNat) k / 16 % 4 then 1 else 0) : Int) = 1 from if_pos (by omega)] at K377; exact K377) | (rw [show ((if k < j ∧ dst (σ.2 0) (σ.2 (1 + l.toNat) j) (σ.2 (1 + l.toNat) k) = 1 ∧ σ.2 (1 + l.toNat) j / 16 % 4 ≠ σ.2 (1 + l.toNat) k / 16 % 4 then 1 else 0) : Int) = 1 from if_pos (by omega)] at K377 ⊢; exact K377) | (rw [show ((if k < j ∧ dst (σ.2 0) (σ.2 (1 + l.toNat) j) (σ.2 (1 + l.toNat) k) = 1 ∧ σ.2 (1 + l.toNat) j / 16 % 4 ≠ σ.2 (1 + l.toNat) k / 16 % 4 then 1 else 0) : Int) = 0 from if_neg (by omega)] at K377; exact K377) | (rw [show ((if k < j ∧ dst (σ.2 0) (σ.2 (1 + l.toNat) j) (σ.2 (1 + l.toNat) k) = 1 ∧ σ.2 (1 + l.toNat) j / 16 % 4 ≠ σ.2 (1 + l.toNat) k / 16 % 4 then 1 else 0) : Int) = 0 from if_neg (by omega)] at K377 ⊢; exact K377))
            · refine j_iconst hC dL_law_372 ?_
              refine j_goto (tgt := 377) hC dL_law_373 (by decide) ?_
              exact (by first | (rw [show ((if k < j ∧ dst (σ.2 0) (σ.2 (1 + l.toNat) j) (σ.2 (1 + l.toNat) k) = 1 ∧ σ.2 (1 + l.toNat) j / 16 % 4 ≠ σ.2 (1 + l.toNat) k / 16 % 4 then 1 else 0) : Int) = 1 from if_pos (by omega)] at K377; exact K377) | (rw [show ((if k < j ∧ dst (σ.2 0) (σ.2 (1 + l.toNat) j) (σ.2 (1 + l.toNat) k) = 1 ∧ σ.2 (1 + l.toNat) j / 16 % 4 ≠ σ.2 (1 + l.toNat) k / 16 % 4 then 1 else 0) : Int) = 1 from if_pos (by omega)] at K377 ⊢; exact K377) | (rw [show ((if k < j ∧ dst (σ.2 0) (σ.2 (1 + l.toNat) j) (σ.2 (1 + l.toNat) k) = 1 ∧ σ.2 (1 + l.toNat) j / 16 % 4 ≠ σ.2 (1 + l.toNat) k / 16 % 4 then 1 else 0) : Int) = 0 from if_neg (by omega)] at K377; exact K377) | (rw [show ((if k < j ∧ dst (σ.2 0) (σ.2 (1 + l.toNat) j) (σ.2 (1 + l.toNat) k) = 1 ∧ σ.2 (1 + l.toNat) j / 16 % 4 ≠ σ.2 (1 + l.toNat) k / 16 % 4 then 1 else 0) : Int) = 0 from if_neg (by omega)] at K377 ⊢; exact K377))
      refine j_iadd hC dL_law_377 ?_
      refine j_istore hC dL_law_378 [(10, vI (th + (if k < j ∧ dst (σ.2 0) (σ.2 (1 + l.toNat) j) (σ.2 (1 + l.toNat) k) = 1 ∧ σ.2 (1 + l.toNat) j / 16 % 4 ≠ σ.2 (1 + l.toNat) k / 16 % 4 then 1 else 0))), (9, vI (al + (if k < j ∧ dst (σ.2 0) (σ.2 (1 + l.toNat) j) (σ.2 (1 + l.toNat) k) = 0 then 1 else 0))), (11, vI (if cl ≤ dst (σ.2 0) (σ.2 (1 + l.toNat) j) (σ.2 (1 + l.toNat) k) then cl else dst (σ.2 0) (σ.2 (1 + l.toNat) j) (σ.2 (1 + l.toNat) k))), (13, vI ((if b = 1 ∧ 0 < dst (σ.2 0) (σ.2 (1 + l.toNat) j) (σ.2 (1 + l.toNat) k) then 1 else 0))), (14, vI (k)), (12, vI (j)), (0, .ref (gb g)), (1, .ref (gd g (0))), (2, .ref a), (3, vI (t)), (4, .int (x)), (5, vI (σ.1 0)), (6, .ref q), (7, vI (l)), (8, vI (σ.1 (2 + l.toNat)))] (by decide) rfl ?_
      refine j_iinc hC dL_law_380 4 [(14, vI (k + 1)), (10, vI (th + (if k < j ∧ dst (σ.2 0) (σ.2 (1 + l.toNat) j) (σ.2 (1 + l.toNat) k) = 1 ∧ σ.2 (1 + l.toNat) j / 16 % 4 ≠ σ.2 (1 + l.toNat) k / 16 % 4 then 1 else 0))), (9, vI (al + (if k < j ∧ dst (σ.2 0) (σ.2 (1 + l.toNat) j) (σ.2 (1 + l.toNat) k) = 0 then 1 else 0))), (11, vI (if cl ≤ dst (σ.2 0) (σ.2 (1 + l.toNat) j) (σ.2 (1 + l.toNat) k) then cl else dst (σ.2 0) (σ.2 (1 + l.toNat) j) (σ.2 (1 + l.toNat) k))), (13, vI ((if b = 1 ∧ 0 < dst (σ.2 0) (σ.2 (1 + l.toNat) j) (σ.2 (1 + l.toNat) k) then 1 else 0))), (12, vI (j)), (0, .ref (gb g)), (1, .ref (gd g (0))), (2, .ref a), (3, vI (t)), (4, .int (x)), (5, vI (σ.1 0)), (6, .ref q), (7, vI (l)), (8, vI (σ.1 (2 + l.toNat)))] rfl (by decide) rfl ?_
      refine j_goto (tgt := 163) hC dL_law_383 (by decide) ?_
      refine j_sub [0, 4, 3, 2, 1, 5, 6, 7, 8, 9, 10, 11, 12, 13, 14] rfl ?_
      have hF2 : ∀ (i : Nat) (w : Int), i < cN σ l.toNat → 0 ≤ w → w < σ.1 (2 + l.toNat) → ((i : Int) < j ∨ ((i : Int) = j ∧ w < k + 1)) → (fun i => if i = j.toNat then (fun w => if w = k then dst (σ.2 0) (σ.2 (1 + l.toNat) j) (σ.2 (1 + l.toNat) k) else F j.toNat w) else F i) i w = dB σ l.toNat i w := fun i w i0 w0 w1 hc => by
        show (if i = j.toNat then (fun w => if w = k then dst (σ.2 0) (σ.2 (1 + l.toNat) j) (σ.2 (1 + l.toNat) k) else F j.toNat w) else F i) w = _
        by_cases e : i = j.toNat
        · rw [if_pos e]
          show (if w = k then _ else F j.toNat w) = _
          have e3 : (i : Int) = j := by omega
          by_cases e2 : w = k
          · rw [if_pos e2, e2, e3]
          · rw [if_neg e2, hF j.toNat w (by omega) w0 w1 (by omega), e]
        · rw [if_neg e]; exact hF i w i0 w0 w1 (by omega)
      first | (have h9 : ¬ k = j := fun e => h225 e.symm; rw [if_neg h9, if_neg h9, if_neg h9, if_neg h9] at kx; exact ih (k + 1) _ _ _ _ Y1 _ hC hb (rows_upI hrows inj (by omega) hw) hF2 (by omega) (by omega) (by split <;> omega) (by split <;> omega) kx) | (have h9 : k = j := h225.symm; rw [if_pos h9, if_pos h9, if_pos h9, if_pos h9] at kx; exact ih (k + 1) _ _ _ _ Y1 _ hC hb (rows_upI hrows inj (by omega) hw) hF2 (by omega) (by omega) hcl hb1 kx)
    · refine j_aload hC dL_law_228 12 rfl ?_
      refine j_iload hC dL_law_230 13 rfl ?_
      refine x_rald hC (hb _ hq) 4 rfl rfl hfl (by omega) dL_law_232 ?_
      refine j_iload hC dL_law_233 5 rfl ?_
      refine x_rald hC (hb _ hgv) 3 rfl rfl (if_pos (by omega)) (by omega) dL_law_235 ?_
      refine j_iload hC dL_law_236 0 rfl ?_
      refine x_ialdE (y := dst (σ.2 0) (σ.2 (1 + l.toNat) j) (σ.2 (1 + l.toNat) k)) hC hw.1 (if_pos rfl) (by omega) dL_law_238 ?_
      refine j_if_eq (tgt := 244) hC dL_law_239 (by decide) (by omega) (fun _ => ?_) (fun h => absurd h (by omega))
      refine j_iload hC dL_law_244 5 rfl ?_
      refine j_iload hC dL_law_246 0 rfl ?_
      refine j_icmp_ne (tgt := 254) hC dL_law_248 (by decide) (by omega) (fun h => absurd h (by omega)) (fun _ => ?_)
      refine j_goto (tgt := 380) hC dL_law_251 (by decide) ?_
      refine j_iinc hC dL_law_380 0 [(14, vI (k + 1)), (13, vI (b)), (11, vI (cl)), (9, vI (al)), (10, vI (th)), (12, vI (j)), (0, .ref (gb g)), (1, .ref (gd g (0))), (2, .ref a), (3, vI (t)), (4, .int (x)), (5, vI (σ.1 0)), (6, .ref q), (7, vI (l)), (8, vI (σ.1 (2 + l.toNat)))] rfl (by decide) rfl ?_
      refine j_goto (tgt := 163) hC dL_law_383 (by decide) ?_
      have hF2 : ∀ (i : Nat) (w : Int), i < cN σ l.toNat → 0 ≤ w → w < σ.1 (2 + l.toNat) → ((i : Int) < j ∨ ((i : Int) = j ∧ w < k + 1)) → (fun i => if i = j.toNat then (fun w => if w = k then dst (σ.2 0) (σ.2 (1 + l.toNat) j) (σ.2 (1 + l.toNat) k) else F j.toNat w) else F i) i w = dB σ l.toNat i w := fun i w i0 w0 w1 hc => by
        show (if i = j.toNat then (fun w => if w = k then dst (σ.2 0) (σ.2 (1 + l.toNat) j) (σ.2 (1 + l.toNat) k) else F j.toNat w) else F i) w = _
        by_cases e : i = j.toNat
        · rw [if_pos e]
          show (if w = k then _ else F j.toNat w) = _
          have e3 : (i : Int) = j := by omega
          by_cases e2 : w = k
          · rw [if_pos e2, e2, e3]
          · rw [if_neg e2, hF j.toNat w (by omega) w0 w1 (by omega), e]
        · rw [if_neg e]; exact hF i w i0 w0 w1 (by omega)
      first | (have h9 : ¬ k = j := fun e => h225 e.symm; rw [if_neg h9, if_neg h9, if_neg h9, if_neg h9] at kx; exact ih (k + 1) _ _ _ _ Y1 _ hC hb (rows_upI hrows inj (by omega) hw) hF2 (by omega) (by omega) (by split <;> omega) (by split <;> omega) kx) | (have h9 : k = j := h225.symm; rw [if_pos h9, if_pos h9, if_pos h9, if_pos h9] at kx; exact ih (k + 1) _ _ _ _ Y1 _ hC hb (rows_upI hrows inj (by omega) hw) hF2 (by omega) (by omega) hcl hb1 kx)
set_option maxHeartbeats 4000000 in
set_option maxRecDepth 100000 in
theorem lp_law_j {mc : MC} {g : GG} {Q : State → Prop} (hR : mR mc = rmJ 12 466 600074 7301550) {a : Nat} {r : RR} {XB : va_W} {σ : Sg} {x : Int32} (t : Int) (hr0 : Rp g XB a σ r) (hv : Iv σ) (l : Int) (hl : 0 ≤ l ∧ l < σ.1 0) {q v : Nat} {rr : Nat → Nat} {f : Nat → Option Nat} (hq : (q, rq (gU g) (nLo σ) f) ∈ XB) (hfl : f l.toNat = some v) (hgv : (v, rq (gY g) (cN σ l.toNat) (fun i => if i < cN σ l.toNat then some (rr i) else none)) ∈ XB) (hfr : ∀ i, i < cN σ l.toNat → Fr XB (rr i)) (inj : ∀ i j : Nat, i < cN σ l.toNat → j < cN σ l.toNat → rr i = rr j → i = j) (k9 n9 : Nat) (hk9 : k9 ≤ 600074 ∧ n9 ≤ 7301550) : ∀ (d : Nat) (j : Int) (al : Int) (th : Int) (cl : Int) (X : va_W) (F : Nat → Int → Int), (Cx mc (gx g X) cL_law RL 15 (some .boolean)) → (Sb XB X) → (∀ i, i < cN σ l.toNat → (rr i, ri g (F i) (cN σ l.toNat)) ∈ X) → (∀ (i : Nat) (w : Int), i < cN σ l.toNat → 0 ≤ w → w < σ.1 (2 + l.toNat) → (i : Int) < j → F i w = dB σ l.toNat i w) → (0 ≤ j) → (j + (d : Int) = σ.1 (2 + l.toNat)) → (0 ≤ cl ∧ cl ≤ 99) → (∀ (Y : va_W) (F : Nat → Int → Int), Cx mc (gx g Y) cL_law RL 15 (some .boolean) → Sb XB Y → (∀ i, i < cN σ l.toNat → (rr i, ri g (F i) (cN σ l.toNat)) ∈ Y) → (∀ (i : Nat) (w : Int), i < cN σ l.toNat → 0 ≤ w → w < σ.1 (2 + l.toNat) → 0 ≤ w → F i w = dB σ l.toNat i w) → J mc (gx g Y) k9 n9 Q 424 [(9, vI (skO (alW σ l.toNat) (cN σ l.toNat) d j al)), (10, vI (skO (thW σ l.toNat) (cN σ l.toNat) d j th)), (11, vI (clO (dB σ l.toNat) (cN σ l.toNat) d j cl)), (0, .ref (gb g)), (1, .ref (gd g (0))), (2, .ref a), (3, vI (t)), (4, .int (x)), (5, vI (σ.1 0)), (6, .ref q), (7, vI (l)), (8, vI (σ.1 (2 + l.toNat)))] [] σ) → J mc (gx g X) k9 n9 Q 129 [(12, vI (j)), (9, vI (al)), (10, vI (th)), (11, vI (cl)), (0, .ref (gb g)), (1, .ref (gd g (0))), (2, .ref a), (3, vI (t)), (4, .int (x)), (5, vI (σ.1 0)), (6, .ref q), (7, vI (l)), (8, vI (σ.1 (2 + l.toNat)))] [] σ := by
  intro d
  induction d with
  | zero =>
    intro j al th cl X F hC hb hrows hF h0 hz hcl kx
    have hI := hv.1
    have hc0 := IC_n hI
    have hkn := IC_k hI hl
    refine j_iload hC dL_law_129 0 rfl ?_
    refine j_iload hC dL_law_131 12 rfl ?_
    refine j_icmp_ge (tgt := 424) hC dL_law_133 (by decide) (by omega) (fun _ => ?_) (fun h => absurd h (by omega))
    refine j_sub [1, 2, 3, 4, 5, 6, 7, 8, 9, 10, 11, 12] rfl ?_
    exact kx X F hC hb hrows (fun i w i0 w0 w1 _ => hF i w i0 w0 w1 (by omega))
  | succ d ih =>
    intro j al th cl X F hC hb hrows hF h0 hz hcl kx
    have hI := hv.1
    have hc0 := IC_n hI
    have hkn := IC_k hI hl
    have hl5 := (IC_l hI hl).2.2
    have hsj := IC_s hI hl (z := j) (by omega)
    have hfa := findB_at hI hv.2.1 (IC_l hI hl).2.1 (j := j) (by omega)
    have hown := own_rd hI hl5 (j := j) (by omega)
    have hnb := nbF_rg (dB σ l.toNat j) j (lo := 0) (hi := 99) (cN σ l.toNat) 0 cl (fun y q1 q2 => by have := dB_rg hI hl5 (j := j) (k := y) (by omega) (by omega); omega) hcl.1 hcl.2
    have h01 := aoF_01 (dB σ l.toNat j) j (cN σ l.toNat) 0 1 (Or.inr rfl)
    rw [show skO (alW σ l.toNat) (cN σ l.toNat) (d + 1) j al = skO (alW σ l.toNat) (cN σ l.toNat) d (j + 1) (skF (alW σ l.toNat j) j (cN σ l.toNat) 0 al) from rfl, show skO (thW σ l.toNat) (cN σ l.toNat) (d + 1) j th = skO (thW σ l.toNat) (cN σ l.toNat) d (j + 1) (skF (thW σ l.toNat j) j (cN σ l.toNat) 0 th) from rfl, show clO (dB σ l.toNat) (cN σ l.toNat) (d + 1) j cl = clO (dB σ l.toNat) (cN σ l.toNat) d (j + 1) (nbF (dB σ l.toNat j) j (cN σ l.toNat) 0 cl) from rfl] at kx
    refine j_iload hC dL_law_129 0 rfl ?_
    refine j_iload hC dL_law_131 12 rfl ?_
    refine j_icmp_ge (tgt := 424) hC dL_law_133 (by decide) (by omega) (fun h => absurd h (by omega)) (fun _ => ?_)
    refine j_aload_n hC dL_law_136 5 rfl ?_
    refine j_iload hC dL_law_137 11 rfl ?_
    refine j_aload_n hC dL_law_139 5 rfl ?_
    refine j_iload hC dL_law_140 11 rfl ?_
    refine j_iload hC dL_law_142 0 rfl ?_
    refine j_callV1 (ar := 2) hC hR (c_X3_meaningOf (hlJ hC) (gx g X) σ hI l j (by omega) (by omega) ) [vI (l), .ref (gd g (0))] rfl 0 rfl rfl rfl (by decide) (by decide +kernel) rfl wd207 wd208 wd209 wd1 wd210 (by first | decide | omega) (Nat.le_of_ble_eq_true rfl) dL_law_144 ?_
    refine j_callV1 (ar := 2) hC hR (c_X3_signFor (hlJ hC) (gx g X) σ hI l (σ.2 (6 + l.toNat) j) (by omega) (by omega) ) [] rfl 0 rfl rfl rfl (by decide) (by decide +kernel) rfl wd211 wd212 wd213 wd1 wd214 (by first | decide | omega) (Nat.le_of_ble_eq_true rfl) dL_law_147 ?_
    refine j_iload hC dL_law_150 0 rfl ?_
    refine j_icmp_eq (tgt := 157) hC dL_law_152 (by decide) (by omega) (fun _ => ?_) (fun h => absurd h (by omega))
    refine j_iconst hC dL_law_157 ?_
    refine j_istore hC dL_law_158 [(13, vI (1)), (12, vI (j)), (9, vI (al)), (10, vI (th)), (11, vI (cl)), (0, .ref (gb g)), (1, .ref (gd g (0))), (2, .ref a), (3, vI (t)), (4, .int (x)), (5, vI (σ.1 0)), (6, .ref q), (7, vI (l)), (8, vI (σ.1 (2 + l.toNat)))] (by decide) rfl ?_
    refine j_iconst hC dL_law_160 ?_
    refine j_istore hC dL_law_161 [(14, vI (0)), (13, vI (1)), (12, vI (j)), (9, vI (al)), (10, vI (th)), (11, vI (cl)), (0, .ref (gb g)), (1, .ref (gd g (0))), (2, .ref a), (3, vI (t)), (4, .int (x)), (5, vI (σ.1 0)), (6, .ref q), (7, vI (l)), (8, vI (σ.1 (2 + l.toNat)))] (by decide) rfl ?_
    refine j_sub [0, 1, 5, 3, 4, 2, 6, 7, 8, 9, 10, 11, 12, 13, 14] rfl ?_
    refine lp_law_k hR t hr0 hv l hl hq hfl hgv hfr inj j (by omega) k9 n9 hk9 (cN σ l.toNat) 0 1 cl al th X F hC hb hrows (fun i w i0 w0 w1 hc => hF i w i0 w0 w1 (by omega)) (by omega) (by omega) hcl (Or.inr rfl) ?_
    clear hC hb hrows hF
    intro Y F2 hC hb hrows hF
    refine j_aload_n hC dL_law_386 6 rfl ?_
    refine j_iload hC dL_law_387 12 rfl ?_
    refine j_iload hC dL_law_389 4 rfl ?_
    refine j_iload hC dL_law_391 12 rfl ?_
    refine j_callV1 (ar := 3) hC hR (c_X3_read (hlJ hC) (gx g Y) σ hI l j l (by omega) (by omega) (by omega) ) [] rfl 0 rfl rfl rfl (by decide) (by decide +kernel) rfl wd297 wd298 wd299 wd1 wd300 (by first | decide | omega) (Nat.le_of_ble_eq_true rfl) dL_law_393 ?_
    have hq393 := mrB_rg hI (IC_l hI (l := l) (by omega)).2.2 (σ.2 (1 + l.toNat) j)
    refine j_iload hC dL_law_396 0 rfl ?_
    suffices K413 : J mc (gx g Y) _ _ Q 413 [(13, vI (aoF (dB σ l.toNat j) j (cN σ l.toNat) 0 1)), (11, vI (nbF (dB σ l.toNat j) j (cN σ l.toNat) 0 cl)), (9, vI (skF (alW σ l.toNat j) j (cN σ l.toNat) 0 al)), (10, vI (skF (thW σ l.toNat j) j (cN σ l.toNat) 0 th)), (12, vI (j)), (0, .ref (gb g)), (1, .ref (gd g (0))), (2, .ref a), (3, vI (t)), (4, .int (x)), (5, vI (σ.1 0)), (6, .ref q), (7, vI (l)), (8, vI (σ.1 (2 + l.toNat)))] [vI ((if aoF (dB σ l.toNat j) j (cN σ l.toNat) 0 1 = 1 then σ.2 (6 + l.toNat) j else -1)), vI (mrB σ l.toNat (σ.2 (1 + l.toNat) j))] σ by
      refine j_if_eq (tgt := 412) hC dL_law_398 (by decide) (by omega) (fun h398 => ?_) (fun h398 => ?_)
      · refine j_iconst hC dL_law_412 ?_
        exact (by first | (rw [show ((if aoF (dB σ l.toNat j) j (cN σ l.toNat) 0 1 = 1 then σ.2 (6 + l.toNat) j else -1) : Int) = σ.2 (6 + l.toNat) j from if_pos (by omega)] at K413; exact K413) | (rw [show ((if aoF (dB σ l.toNat j) j (cN σ l.toNat) 0 1 = 1 then σ.2 (6 + l.toNat) j else -1) : Int) = σ.2 (6 + l.toNat) j from if_pos (by omega)] at K413 ⊢; exact K413) | (rw [show ((if aoF (dB σ l.toNat j) j (cN σ l.toNat) 0 1 = 1 then σ.2 (6 + l.toNat) j else -1) : Int) = -1 from if_neg (by omega)] at K413; exact K413) | (rw [show ((if aoF (dB σ l.toNat j) j (cN σ l.toNat) 0 1 = 1 then σ.2 (6 + l.toNat) j else -1) : Int) = -1 from if_neg (by omega)] at K413 ⊢; exact K413))
      · refine j_aload_n hC dL_law_401 6 rfl ?_
        refine j_iload hC dL_law_402 12 rfl ?_
        refine j_iload hC dL_law_404 4 rfl ?_
        refine j_callV1 (ar := 2) hC hR (c_X3_meaningOf (hlJ hC) (gx g Y) σ hI l j (by omega) (by omega) ) [vI (mrB σ l.toNat (σ.2 (1 + l.toNat) j))] rfl 0 rfl rfl rfl (by decide) (by decide +kernel) rfl wd207 wd208 wd209 wd1 wd210 (by first | decide | omega) (Nat.le_of_ble_eq_true rfl) dL_law_406 ?_
        refine j_goto (tgt := 413) hC dL_law_409 (by decide) ?_
        exact (by first | (rw [show ((if aoF (dB σ l.toNat j) j (cN σ l.toNat) 0 1 = 1 then σ.2 (6 + l.toNat) j else -1) : Int) = σ.2 (6 + l.toNat) j from if_pos (by omega)] at K413; exact K413) | (rw [show ((if aoF (dB σ l.toNat j) j (cN σ l.toNat) 0 1 = 1 then σ.2 (6 + l.toNat) j else -1) : Int) = σ.2 (6 + l.toNat) j from if_pos (by omega)] at K413 ⊢; exact K413) | (rw [show ((if aoF (dB σ l.toNat j) j (cN σ l.toNat) 0 1 = 1 then σ.2 (6 + l.toNat) j else -1) : Int) = -1 from if_neg (by omega)] at K413; exact K413) | (rw [show ((if aoF (dB σ l.toNat j) j (cN σ l.toNat) 0 1 = 1 then σ.2 (6 + l.toNat) j else -1) : Int) = -1 from if_neg (by omega)] at K413 ⊢; exact K413))
    refine j_icmp_eq (tgt := 418) hC dL_law_413 (by decide) (by omega) (fun _ => ?_) (fun h => absurd h (by omega))
    refine j_iinc hC dL_law_418 4 [(12, vI (j + 1)), (13, vI (aoF (dB σ l.toNat j) j (cN σ l.toNat) 0 1)), (11, vI (nbF (dB σ l.toNat j) j (cN σ l.toNat) 0 cl)), (9, vI (skF (alW σ l.toNat j) j (cN σ l.toNat) 0 al)), (10, vI (skF (thW σ l.toNat j) j (cN σ l.toNat) 0 th)), (0, .ref (gb g)), (1, .ref (gd g (0))), (2, .ref a), (3, vI (t)), (4, .int (x)), (5, vI (σ.1 0)), (6, .ref q), (7, vI (l)), (8, vI (σ.1 (2 + l.toNat)))] rfl (by decide) rfl ?_
    refine j_goto (tgt := 129) hC dL_law_421 (by decide) ?_
    refine j_sub [0, 3, 4, 2, 5, 6, 7, 8, 9, 10, 11, 12, 13] rfl ?_
    exact ih (j + 1) _ _ _ Y F2 hC hb hrows hF (by omega) (by omega) hnb kx
