set_option maxHeartbeats 4000000 in
set_option maxRecDepth 100000 in
theorem lm_dg_f1 {mc : MC} {g : GG} {k n : Nat} {qa : Nat} {f : Int → Int} {σ : Sg} {Q : State → Prop} (hC : Cx mc (gP g qa f 5) cX4_digest RX4 12 (some .long)) (hR : mR mc = rmJ 7 174 68 340) (l s : Int) (hf : ∀ y : Int, 0 ≤ y → y < 5 → -2147483648 ≤ f y ∧ f y < 2147483648) : ∀ (d : Nat) (w : Int) (D : Int), (0 ≤ w) → (w + (d : Int) = 5) → (J mc (gP g qa f 5) k n Q 131 [(1, .long (jI (fiv f d w D))), (0, .ref (gd (gP g qa f 5) (19))), (3, vI (l))] [] σ) → J mc (gP g qa f 5) k n Q 101 [(7, vI (w)), (1, .long (jI (D))), (6, vI (5)), (5, .ref qa), (0, .ref (gd (gP g qa f 5) (19))), (3, vI (l))] [] σ := by
  intro d
  induction d with
  | zero =>
    intro w D h0 hw kx
    refine j_iload hC dX4_digest_101 0 rfl ?_
    refine j_iload hC dX4_digest_103 2 rfl ?_
    refine j_icmp_ge (tgt := 131) hC dX4_digest_105 (by decide) (by omega) (fun _ => ?_) (fun h => absurd h (by omega))
    refine j_sub [1, 4, 5] rfl ?_
    exact kx
  | succ d ih =>
    intro w D h0 hw kx
    have hfw := hf w (by omega) (by omega)
    rw [show fiv f (d + 1) w D = fiv f d (w + 1) (mx D (f w)) from rfl] at kx
    refine j_iload hC dX4_digest_101 0 rfl ?_
    refine j_iload hC dX4_digest_103 2 rfl ?_
    refine j_icmp_ge (tgt := 131) hC dX4_digest_105 (by decide) (by omega) (fun h => absurd h (by omega)) (fun _ => ?_)
    refine j_aload hC dX4_digest_108 3 rfl ?_
    refine j_iload hC dX4_digest_110 0 rfl ?_
    refine j_ialdE hC (by omega) dX4_digest_112 ?_
    refine j_istore hC dX4_digest_113 [(8, vI (f w)), (7, vI (w)), (1, .long (jI (D))), (6, vI (5)), (5, .ref qa), (0, .ref (gd (gP g qa f 5) (19))), (3, vI (l))] (by decide) rfl ?_
    refine j_lload_n hC dX4_digest_115 2 rfl ?_
    refine j_ldc2 (v := jI 31) hC dX4_digest_116 wd848 ?_
    refine j_lmul hC dX4_digest_119 ?_
    refine j_iload hC dX4_digest_120 0 rfl ?_
    refine j_i2l hC dX4_digest_122 (by omega) ?_
    refine j_ladd hC dX4_digest_123 ?_
    refine j_lstore_n hC dX4_digest_124 [(1, .long (jI ((D * 31) + (f w)))), (8, vI (f w)), (7, vI (w)), (6, vI (5)), (5, .ref qa), (0, .ref (gd (gP g qa f 5) (19))), (3, vI (l))] (by decide) rfl ?_
    refine j_iinc hC dX4_digest_125 2 [(7, vI (w + 1)), (1, .long (jI ((D * 31) + (f w)))), (8, vI (f w)), (6, vI (5)), (5, .ref qa), (0, .ref (gd (gP g qa f 5) (19))), (3, vI (l))] rfl (by decide) rfl ?_
    refine j_goto (tgt := 101) hC dX4_digest_128 (by decide) ?_
    refine j_sub [0, 1, 3, 4, 5, 6] rfl ?_
    exact ih (w + 1) _ (by omega) (by omega) kx
set_option maxHeartbeats 4000000 in
set_option maxRecDepth 100000 in
theorem lm_dg_f2 {mc : MC} {g : GG} {k n : Nat} {qa : Nat} {f : Int → Int} {σ : Sg} {Q : State → Prop} (hC : Cx mc (gP g qa f 5) cX4_digest RX4 12 (some .long)) (hR : mR mc = rmJ 7 174 68 340) (l s : Int) (hf : ∀ y : Int, 0 ≤ y → y < 5 → -2147483648 ≤ f y ∧ f y < 2147483648) : ∀ (d : Nat) (w : Int) (D : Int), (0 ≤ w) → (w + (d : Int) = 5) → (J mc (gP g qa f 5) k n Q 315 [(1, .long (jI (fiv f d w D))), (0, .ref (gd (gP g qa f 5) (19))), (3, vI (l)), (5, vI (s))] [] σ) → J mc (gP g qa f 5) k n Q 285 [(10, vI (w)), (1, .long (jI (D))), (9, vI (5)), (8, .ref qa), (0, .ref (gd (gP g qa f 5) (19))), (3, vI (l)), (5, vI (s))] [] σ := by
  intro d
  induction d with
  | zero =>
    intro w D h0 hw kx
    refine j_iload hC dX4_digest_285 0 rfl ?_
    refine j_iload hC dX4_digest_287 2 rfl ?_
    refine j_icmp_ge (tgt := 315) hC dX4_digest_289 (by decide) (by omega) (fun _ => ?_) (fun h => absurd h (by omega))
    refine j_sub [1, 4, 5, 6] rfl ?_
    exact kx
  | succ d ih =>
    intro w D h0 hw kx
    have hfw := hf w (by omega) (by omega)
    rw [show fiv f (d + 1) w D = fiv f d (w + 1) (mx D (f w)) from rfl] at kx
    refine j_iload hC dX4_digest_285 0 rfl ?_
    refine j_iload hC dX4_digest_287 2 rfl ?_
    refine j_icmp_ge (tgt := 315) hC dX4_digest_289 (by decide) (by omega) (fun h => absurd h (by omega)) (fun _ => ?_)
    refine j_aload hC dX4_digest_292 3 rfl ?_
    refine j_iload hC dX4_digest_294 0 rfl ?_
    refine j_ialdE hC (by omega) dX4_digest_296 ?_
    refine j_istore hC dX4_digest_297 [(11, vI (f w)), (10, vI (w)), (1, .long (jI (D))), (9, vI (5)), (8, .ref qa), (0, .ref (gd (gP g qa f 5) (19))), (3, vI (l)), (5, vI (s))] (by decide) rfl ?_
    refine j_lload_n hC dX4_digest_299 2 rfl ?_
    refine j_ldc2 (v := jI 31) hC dX4_digest_300 wd848 ?_
    refine j_lmul hC dX4_digest_303 ?_
    refine j_iload hC dX4_digest_304 0 rfl ?_
    refine j_i2l hC dX4_digest_306 (by omega) ?_
    refine j_ladd hC dX4_digest_307 ?_
    refine j_lstore_n hC dX4_digest_308 [(1, .long (jI ((D * 31) + (f w)))), (11, vI (f w)), (10, vI (w)), (9, vI (5)), (8, .ref qa), (0, .ref (gd (gP g qa f 5) (19))), (3, vI (l)), (5, vI (s))] (by decide) rfl ?_
    refine j_iinc hC dX4_digest_309 2 [(10, vI (w + 1)), (1, .long (jI ((D * 31) + (f w)))), (11, vI (f w)), (9, vI (5)), (8, .ref qa), (0, .ref (gd (gP g qa f 5) (19))), (3, vI (l)), (5, vI (s))] rfl (by decide) rfl ?_
    refine j_goto (tgt := 285) hC dX4_digest_312 (by decide) ?_
    refine j_sub [0, 1, 3, 4, 5, 6, 7] rfl ?_
    exact ih (w + 1) _ (by omega) (by omega) kx
set_option maxHeartbeats 4000000 in
set_option maxRecDepth 100000 in
theorem lm_dg_to {mc : MC} {g : GG} {k n : Nat} {Q : State → Prop} (hC : Cx mc g cX4_digest RX4 12 (some .long)) (hR : mR mc = rmJ 7 174 68 340) (l : Int) (hkn : k + 0 ≤ 68 ∧ n + 0 ≤ 340) : ∀ (d : Nat) (τ : Sg) (z : Int) (D : Int), (IM τ) → (0 ≤ z) → (z + (d : Int) = τ.1 8) → (0 ≤ l ∧ l < τ.1 8) → (J mc g k n Q 196 [(1, .long (jI ((dgMI l d z D τ).1))), (0, .ref (gd g (19))), (3, vI (l))] [] ((dgMI l d z D τ).2)) → J mc g k n Q 134 [(5, vI (z)), (1, .long (jI (D))), (0, .ref (gd g (19))), (3, vI (l))] [] τ := by
  intro d
  induction d with
  | zero =>
    intro τ z D hI h0 hz hl kx
    have hI1 := hI.1
    refine j_iload hC dX4_digest_134 0 rfl ?_
    refine j_aload_n hC dX4_digest_136 2 rfl ?_
    refine j_get hC inX4 rfl 19 rfl 1 (by decide) wd583 rfl dX4_digest_137 ?_
    refine j_icmp_ge (tgt := 196) hC dX4_digest_140 (by decide) (by omega) (fun _ => ?_) (fun h => absurd h (by omega))
    refine j_sub [1, 2, 3] rfl ?_
    exact kx
  | succ d ih =>
    intro τ z D hI h0 hz hl kx
    have hI1 := hI.1
    have hr1 : 0 ≤ raM τ l z 1 ∧ raM τ l z 1 ≤ 16 := cntM_rg _ hI (by omega) _
    have hr0 : 0 ≤ raM τ l z 0 ∧ raM τ l z 0 ≤ 16 := cntM_rg _ hI (by omega) _
    have htb := tbM_IM hI (a := l) (c := z) (by omega) (by omega)
    have h8 : (tbM τ l z).2.1 8 = τ.1 8 := by rw [htb.2.2.2.1]
    rw [show dgMI l (d + 1) z D τ = dgMI l d (z + 1) (mx (mx (mx D (raM τ l z 1)) (raM τ l z 0)) (tbM τ l z).1) (tbM τ l z).2 from rfl] at kx
    refine j_iload hC dX4_digest_134 0 rfl ?_
    refine j_aload_n hC dX4_digest_136 2 rfl ?_
    refine j_get hC inX4 rfl 19 rfl 1 (by decide) wd583 rfl dX4_digest_137 ?_
    refine j_icmp_ge (tgt := 196) hC dX4_digest_140 (by decide) (by omega) (fun h => absurd h (by omega)) (fun _ => ?_)
    refine j_lload_n hC dX4_digest_143 1 rfl ?_
    refine j_ldc2 (v := jI 31) hC dX4_digest_144 wd848 ?_
    refine j_lmul hC dX4_digest_147 ?_
    refine j_aload_n hC dX4_digest_148 2 rfl ?_
    refine j_iload_n hC dX4_digest_149 3 rfl ?_
    refine j_iload hC dX4_digest_150 0 rfl ?_
    refine j_iconst hC dX4_digest_152 ?_
    refine j_callV1 (ar := 3) hC hR (c_X4_readAs (hlJ hC) g τ hI l z 1 (by omega) (by omega) (by omega)) [.long (jI (D * 31))] rfl 19 rfl rfl rfl (by decide) (by decide +kernel) rfl wd806 wd808 wp49 wd4 wd809 ⟨by decide, hkn⟩ (Nat.le_of_ble_eq_true rfl) dX4_digest_153 ?_
    have hf153 : 0 ≤ raM τ l z 1 ∧ raM τ l z 1 ≤ 16 := cntM_rg _ hI (by omega) _
    refine j_i2l hC dX4_digest_156 (by omega) ?_
    refine j_ladd hC dX4_digest_157 ?_
    refine j_lstore_n hC dX4_digest_158 [(1, .long (jI ((D * 31) + (raM τ l z 1)))), (5, vI (z)), (0, .ref (gd g (19))), (3, vI (l))] (by decide) rfl ?_
    refine j_lload_n hC dX4_digest_159 0 rfl ?_
    refine j_ldc2 (v := jI 31) hC dX4_digest_160 wd848 ?_
    refine j_lmul hC dX4_digest_163 ?_
    refine j_aload_n hC dX4_digest_164 2 rfl ?_
    refine j_iload_n hC dX4_digest_165 3 rfl ?_
    refine j_iload hC dX4_digest_166 1 rfl ?_
    refine j_iconst hC dX4_digest_168 ?_
    refine j_callV1 (ar := 3) hC hR (c_X4_readAs (hlJ hC) g τ hI l z 0 (by omega) (by omega) (by omega)) [.long (jI (((D * 31) + (raM τ l z 1)) * 31))] rfl 19 rfl rfl rfl (by decide) (by decide +kernel) rfl wd806 wd808 wp49 wd4 wd809 ⟨by decide, hkn⟩ (Nat.le_of_ble_eq_true rfl) dX4_digest_169 ?_
    have hf169 : 0 ≤ raM τ l z 0 ∧ raM τ l z 0 ≤ 16 := cntM_rg _ hI (by omega) _
    refine j_i2l hC dX4_digest_172 (by omega) ?_
    refine j_ladd hC dX4_digest_173 ?_
    refine j_lstore_n hC dX4_digest_174 [(1, .long (jI ((((D * 31) + (raM τ l z 1)) * 31) + (raM τ l z 0)))), (5, vI (z)), (0, .ref (gd g (19))), (3, vI (l))] (by decide) rfl ?_
    refine j_lload_n hC dX4_digest_175 0 rfl ?_
    refine j_ldc2 (v := jI 31) hC dX4_digest_176 wd848 ?_
    refine j_lmul hC dX4_digest_179 ?_
    refine j_aload_n hC dX4_digest_180 2 rfl ?_
    refine j_iload_n hC dX4_digest_181 3 rfl ?_
    refine j_iload hC dX4_digest_182 1 rfl ?_
    refine j_callV1 (ar := 2) hC hR (c_X4_toBorrow (hlJ hC) g τ hI l z (by omega) (by omega)) [.long (jI (((((D * 31) + (raM τ l z 1)) * 31) + (raM τ l z 0)) * 31))] rfl 19 rfl rfl rfl (by decide) (by decide +kernel) rfl wd830 wd832 wp51 wd4 wd833 ⟨by decide, hkn⟩ (Nat.le_of_ble_eq_true rfl) dX4_digest_184 ?_
    refine j_i2l hC dX4_digest_187 (by omega) ?_
    refine j_ladd hC dX4_digest_188 ?_
    refine j_lstore_n hC dX4_digest_189 [(1, .long (jI ((((((D * 31) + (raM τ l z 1)) * 31) + (raM τ l z 0)) * 31) + ((tbM τ l z).1)))), (5, vI (z)), (0, .ref (gd g (19))), (3, vI (l))] (by decide) rfl ?_
    refine j_iinc hC dX4_digest_190 1 [(5, vI (z + 1)), (1, .long (jI ((((((D * 31) + (raM τ l z 1)) * 31) + (raM τ l z 0)) * 31) + ((tbM τ l z).1)))), (0, .ref (gd g (19))), (3, vI (l))] rfl (by decide) rfl ?_
    refine j_goto (tgt := 134) hC dX4_digest_193 (by decide) ?_
    refine j_sub [0, 1, 2, 3] rfl ?_
    exact ih (tbM τ l z).2 (z + 1) _ htb.1 (by omega) (by omega) (by omega) kx
set_option maxHeartbeats 4000000 in
set_option maxRecDepth 100000 in
theorem lm_dg_s {mc : MC} {g : GG}  {σ : Sg} {Q : State → Prop} (hC : Cx mc g cX4_digest RX4 12 (some .long)) (hR : mR mc = rmJ 7 174 68 340) (hI : IM σ) (l : Int) (hl : 0 ≤ l ∧ l < 4) (K2 N2 : Nat) (hK : K2 ≤ 68 ∧ N2 ≤ 340) : ∀ (d : Nat) (k : Nat) (n : Nat) (s : Int) (D : Int), (0 ≤ s) → (s + (d : Int) = σ.2 11 l) → (k + d ≤ K2) → (n + 5 * d ≤ N2) → (J mc g K2 N2 Q 321 [(1, .long (jI (msgM σ l d s D))), (0, .ref (gd g (19))), (3, vI (l))] [] σ) → J mc g k n Q 199 [(5, vI (s)), (1, .long (jI (D))), (0, .ref (gd g (19))), (3, vI (l))] [] σ := by
  intro d
  induction d with
  | zero =>
    intro k n s D h0 hz hk hn2 kx
    have hI1 := hI.1
    have hn := hI.2.2.1 l hl.1 hl.2
    refine j_iload hC dX4_digest_199 0 rfl ?_
    refine j_aload_n hC dX4_digest_201 2 rfl ?_
    refine j_get hC inX4 rfl 19 rfl 2 (by decide) wd584 rfl dX4_digest_202 ?_
    refine j_iload_n hC dX4_digest_205 3 rfl ?_
    refine j_iald hC 20 rfl (by omega) dX4_digest_206 ?_
    refine j_icmp_ge (tgt := 321) hC dX4_digest_207 (by decide) (by omega) (fun _ => ?_) (fun h => absurd h (by omega))
    refine j_sub [1, 2, 3] rfl ?_
    exact j_widen (by omega) (by omega) kx
  | succ d ih =>
    intro k n s D h0 hz hk hn2 kx
    have hI1 := hI.1
    have hn := hI.2.2.1 l hl.1 hl.2
    have hlk := lkM_in hI (k := 16 * l + s) (by omega)
    have hmn := hI.2.2.2.2.2.2.2.1 (16 * l + s) (by omega) (by omega)
    have hbt := btM_rg hI (l := l) (s := s) hl (by omega)
    rw [show msgM σ l (d + 1) s D = msgM σ l d (s + 1) (mx (mx (mx (mx (mx D (σ.2 12 (16 * l + s))) (σ.2 13 (16 * l + s))) (σ.2 14 (16 * l + s))) (σ.2 16 (16 * l + s))) (btM σ l s)) from rfl] at kx
    refine j_iload hC dX4_digest_199 0 rfl ?_
    refine j_aload_n hC dX4_digest_201 2 rfl ?_
    refine j_get hC inX4 rfl 19 rfl 2 (by decide) wd584 rfl dX4_digest_202 ?_
    refine j_iload_n hC dX4_digest_205 3 rfl ?_
    refine j_iald hC 20 rfl (by omega) dX4_digest_206 ?_
    refine j_icmp_ge (tgt := 321) hC dX4_digest_207 (by decide) (by omega) (fun h => absurd h (by omega)) (fun _ => ?_)
    refine j_iload_n hC dX4_digest_210 3 rfl ?_
    refine j_iload hC dX4_digest_211 0 rfl ?_
    refine j_callS1 (ar := 2) hC hR (c_X4_at (hlJ hC) g σ l s ) [] rfl (by decide) (by decide +kernel) rfl wd643 wd644 wd4 wd645 ⟨by decide, by omega⟩ (Nat.le_of_ble_eq_true rfl) dX4_digest_213 ?_
    refine j_istore hC dX4_digest_216 [(6, vI (16 * l + s)), (5, vI (s)), (1, .long (jI (D))), (0, .ref (gd g (19))), (3, vI (l))] (by decide) rfl ?_
    refine j_iconst hC dX4_digest_218 ?_
    refine j_newE hC hR 5 rfl (by omega) wd37 (by omega) dX4_digest_219 (fun qa hCa => ?_)
    refine j_dup hCa dX4_digest_221 rfl ?_
    refine j_iconst hCa dX4_digest_222 ?_
    refine j_aload_n hCa dX4_digest_223 3 rfl ?_
    refine j_get hCa inX4 rfl 19 rfl 3 (by decide) wd585 rfl dX4_digest_224 ?_
    refine j_iload hCa dX4_digest_227 0 rfl ?_
    refine j_iald hCa 21 rfl (by omega) dX4_digest_229 ?_
    refine j_iastE hCa (by omega) dX4_digest_230 (fun hCb => ?_)
    refine j_dup hCb dX4_digest_231 rfl ?_
    refine j_iconst hCb dX4_digest_232 ?_
    refine j_aload_n hCb dX4_digest_233 3 rfl ?_
    refine j_get hCb inX4 rfl 19 rfl 4 (by decide) wd586 rfl dX4_digest_234 ?_
    refine j_iload hCb dX4_digest_237 0 rfl ?_
    refine j_iald hCb 22 rfl (by omega) dX4_digest_239 ?_
    refine j_iastE hCb (by omega) dX4_digest_240 (fun hCc => ?_)
    refine j_dup hCc dX4_digest_241 rfl ?_
    refine j_iconst hCc dX4_digest_242 ?_
    refine j_aload_n hCc dX4_digest_243 3 rfl ?_
    refine j_get hCc inX4 rfl 19 rfl 5 (by decide) wd587 rfl dX4_digest_244 ?_
    refine j_iload hCc dX4_digest_247 0 rfl ?_
    refine j_iald hCc 23 rfl (by omega) dX4_digest_249 ?_
    refine j_iastE hCc (by omega) dX4_digest_250 (fun hCd => ?_)
    refine j_dup hCd dX4_digest_251 rfl ?_
    refine j_iconst hCd dX4_digest_252 ?_
    refine j_aload_n hCd dX4_digest_253 3 rfl ?_
    refine j_get hCd inX4 rfl 19 rfl 7 (by decide) wd589 rfl dX4_digest_254 ?_
    refine j_iload hCd dX4_digest_257 0 rfl ?_
    refine j_iald hCd 25 rfl (by omega) dX4_digest_259 ?_
    refine j_iastE hCd (by omega) dX4_digest_260 (fun hCe => ?_)
    refine j_dup hCe dX4_digest_261 rfl ?_
    refine j_iconst hCe dX4_digest_262 ?_
    refine j_aload_n hCe dX4_digest_263 3 rfl ?_
    refine j_iload_n hCe dX4_digest_264 4 rfl ?_
    refine j_iload hCe dX4_digest_265 1 rfl ?_
    refine j_callV1 (ar := 2) hCe hR (c_X4_bestThumbOf (hlJ hCe) (gP g qa (fun j => if j = 3 then (σ).2 16 (16 * l + s) else (fun j => if j = 2 then (σ).2 14 (16 * l + s) else (fun j => if j = 1 then (σ).2 13 (16 * l + s) else (fun j => if j = 0 then (σ).2 12 (16 * l + s) else (fun _ => 0) j) j) j) j) 5) σ hI l s (by omega) (by omega)) [vI (4), .ref qa, .ref qa] rfl 19 rfl rfl rfl (by decide) (by decide +kernel) rfl wd822 wd824 wp50 wd4 wd825 ⟨by decide, by omega⟩ (Nat.le_of_ble_eq_true rfl) dX4_digest_267 ?_
    refine j_iastE hCe (by omega) dX4_digest_270 (fun hCf => ?_)
    refine j_astore hCf dX4_digest_271 [(7, .ref qa), (6, vI (16 * l + s)), (5, vI (s)), (1, .long (jI (D))), (0, .ref (gd (gP g qa (fun j => if j = 4 then btM σ l s else (fun j => if j = 3 then (σ).2 16 (16 * l + s) else (fun j => if j = 2 then (σ).2 14 (16 * l + s) else (fun j => if j = 1 then (σ).2 13 (16 * l + s) else (fun j => if j = 0 then (σ).2 12 (16 * l + s) else (fun _ => 0) j) j) j) j) j) 5) (19))), (3, vI (l))] (by decide) rfl ?_
    refine j_aload hCf dX4_digest_273 0 rfl ?_
    refine j_astore hCf dX4_digest_275 [(8, .ref qa), (7, .ref qa), (6, vI (16 * l + s)), (5, vI (s)), (1, .long (jI (D))), (0, .ref (gd (gP g qa (fun j => if j = 4 then btM σ l s else (fun j => if j = 3 then (σ).2 16 (16 * l + s) else (fun j => if j = 2 then (σ).2 14 (16 * l + s) else (fun j => if j = 1 then (σ).2 13 (16 * l + s) else (fun j => if j = 0 then (σ).2 12 (16 * l + s) else (fun _ => 0) j) j) j) j) j) 5) (19))), (3, vI (l))] (by decide) rfl ?_
    refine j_aload hCf dX4_digest_277 0 rfl ?_
    refine j_alenE hCf dX4_digest_279 ?_
    refine j_istore hCf dX4_digest_280 [(9, vI (5)), (8, .ref qa), (7, .ref qa), (6, vI (16 * l + s)), (5, vI (s)), (1, .long (jI (D))), (0, .ref (gd (gP g qa (fun j => if j = 4 then btM σ l s else (fun j => if j = 3 then (σ).2 16 (16 * l + s) else (fun j => if j = 2 then (σ).2 14 (16 * l + s) else (fun j => if j = 1 then (σ).2 13 (16 * l + s) else (fun j => if j = 0 then (σ).2 12 (16 * l + s) else (fun _ => 0) j) j) j) j) j) 5) (19))), (3, vI (l))] (by decide) rfl ?_
    refine j_iconst hCf dX4_digest_282 ?_
    refine j_istore hCf dX4_digest_283 [(10, vI (0)), (9, vI (5)), (8, .ref qa), (7, .ref qa), (6, vI (16 * l + s)), (5, vI (s)), (1, .long (jI (D))), (0, .ref (gd (gP g qa (fun j => if j = 4 then btM σ l s else (fun j => if j = 3 then (σ).2 16 (16 * l + s) else (fun j => if j = 2 then (σ).2 14 (16 * l + s) else (fun j => if j = 1 then (σ).2 13 (16 * l + s) else (fun j => if j = 0 then (σ).2 12 (16 * l + s) else (fun _ => 0) j) j) j) j) j) 5) (19))), (3, vI (l))] (by decide) rfl ?_
    refine j_sub [0, 6, 1, 2, 7, 8, 5] rfl ?_
    refine lm_dg_f2 (f := (f5 (σ.2 12 (16 * l + s)) (σ.2 13 (16 * l + s)) (σ.2 14 (16 * l + s)) (σ.2 16 (16 * l + s)) (btM σ l s))) hCf hR l s ?_ 5 0 D (by omega) (by omega) ?_
    · intro y y0 y1
      rcases (show y = 0 ∨ y = 1 ∨ y = 2 ∨ y = 3 ∨ y = 4 by omega) with rfl | rfl | rfl | rfl | rfl
      · exact (show -2147483648 ≤ σ.2 12 (16 * l + s) ∧ σ.2 12 (16 * l + s) < 2147483648 by omega)
      · exact (show -2147483648 ≤ σ.2 13 (16 * l + s) ∧ σ.2 13 (16 * l + s) < 2147483648 by omega)
      · exact (show -2147483648 ≤ σ.2 14 (16 * l + s) ∧ σ.2 14 (16 * l + s) < 2147483648 by omega)
      · exact (show -2147483648 ≤ σ.2 16 (16 * l + s) ∧ σ.2 16 (16 * l + s) < 2147483648 by omega)
      · exact (show -2147483648 ≤ btM σ l s ∧ btM σ l s < 2147483648 by omega)
    refine j_drop ?_
    refine j_iinc hC dX4_digest_315 3 [(5, vI (s + 1)), (1, .long (jI (fiv (f5 (σ.2 12 (16 * l + s)) (σ.2 13 (16 * l + s)) (σ.2 14 (16 * l + s)) (σ.2 16 (16 * l + s)) (btM σ l s)) 5 0 D))), (0, .ref (gd g (19))), (3, vI (l))] rfl (by decide) rfl ?_
    refine j_goto (tgt := 199) hC dX4_digest_318 (by decide) ?_
    refine j_sub [0, 1, 2, 3] rfl ?_
    exact ih (k + 1) (n + 5) (s + 1) _ (by omega) (by omega) (by omega) (by omega) kx
set_option maxHeartbeats 4000000 in
set_option maxRecDepth 100000 in
theorem lm_dg_o {mc : MC} {g : GG}  (hC : Cx mc g cX4_digest RX4 12 (some .long)) (hR : mR mc = rmJ 7 174 68 340)  : ∀ (d : Nat) (k : Nat) (n : Nat) (τ : Sg) (z : Int) (D : Int), (k + 17 * d ≤ 68 ∧ n + 85 * d ≤ 340) → (IM τ) → (0 ≤ z) → (z + (d : Int) = τ.1 8) → J mc g k n (QN mc g (pt (some (.long (jI (dgMO d z D τ).1))) ((dgMO d z D τ).2)) 68 340) 35 [(3, vI (z)), (1, .long (jI (D))), (0, .ref (gd g (19)))] [] τ := by
  intro d
  induction d with
  | zero =>
    intro k n τ z D hk hI h0 hz
    have hI1 := hI.1
    refine j_widen (k2 := 68) (n2 := 340) (by omega) (by omega) ?_
    refine j_iload_n hC dX4_digest_35 0 rfl ?_
    refine j_aload_n hC dX4_digest_36 2 rfl ?_
    refine j_get hC inX4 rfl 19 rfl 1 (by decide) wd583 rfl dX4_digest_37 ?_
    refine j_icmp_ge (tgt := 327) hC dX4_digest_40 (by decide) (by omega) (fun _ => ?_) (fun h => absurd h (by omega))
    refine j_lload_n hC dX4_digest_327 1 rfl ?_
    exact j_lret hC dX4_digest_328 ⟨rfl, rfl⟩
  | succ d ih =>
    intro k n τ z D hk hI h0 hz
    have hI1 := hI.1
    have hn := hI.2.2.1 z (by omega) (by omega)
    have hi := dgMI_IM (a := z) (by omega) (τ.1 8).toNat 0 (mbM τ z D) τ hI (by omega) (by omega)
    have h8 : (dgMI z (τ.1 8).toNat 0 (mbM τ z D) τ).2.1 8 = τ.1 8 := by rw [hi.2.1]
    have h11 := hi.2.2 z
    have hnM := nM_eq hi.1 (l := z) (by omega)
    have hca : 0 ≤ caM τ z ∧ caM τ z ≤ 256 := pMM_rg _ hI (by omega)
    have hct : 0 ≤ ctM τ z ∧ ctM τ z ≤ 256 := pMM_rg _ hI (by omega)
    have hns := nsM_rg hI (l := z) (by omega)
    have hmi := miM_rg hI (l := z) (by omega)
    rw [show dgMO (d + 1) z D τ = dgMO d (z + 1) (msgM (dgMI z (τ.1 8).toNat 0 (mbM τ z D) τ).2 z (nM (dgMI z (τ.1 8).toNat 0 (mbM τ z D) τ).2 z) 0 (dgMI z (τ.1 8).toNat 0 (mbM τ z D) τ).1) (dgMI z (τ.1 8).toNat 0 (mbM τ z D) τ).2 from rfl]
    refine j_iload_n hC dX4_digest_35 0 rfl ?_
    refine j_aload_n hC dX4_digest_36 2 rfl ?_
    refine j_get hC inX4 rfl 19 rfl 1 (by decide) wd583 rfl dX4_digest_37 ?_
    refine j_icmp_ge (tgt := 327) hC dX4_digest_40 (by decide) (by omega) (fun h => absurd h (by omega)) (fun _ => ?_)
    refine j_iconst hC dX4_digest_43 ?_
    refine j_newE hC hR 5 rfl (by omega) wd37 (by omega) dX4_digest_44 (fun qa hCa => ?_)
    refine j_dup hCa dX4_digest_46 rfl ?_
    refine j_iconst hCa dX4_digest_47 ?_
    refine j_aload_n hCa dX4_digest_48 2 rfl ?_
    refine j_get hCa inX4 rfl 19 rfl 2 (by decide) wd584 rfl dX4_digest_49 ?_
    refine j_iload_n hCa dX4_digest_52 0 rfl ?_
    refine j_iald hCa 20 rfl (by omega) dX4_digest_53 ?_
    refine j_iastE hCa (by omega) dX4_digest_54 (fun hCb => ?_)
    refine j_dup hCb dX4_digest_55 rfl ?_
    refine j_iconst hCb dX4_digest_56 ?_
    refine j_aload_n hCb dX4_digest_57 2 rfl ?_
    refine j_iload_n hCb dX4_digest_58 0 rfl ?_
    refine j_callV1 (ar := 1) hCb hR (c_X4_alike (hlJ hCb) (gP g qa (fun j => if j = 0 then (τ).2 11 z else (fun _ => 0) j) 5) τ hI z (by omega)) [vI (1), .ref qa, .ref qa] rfl 19 rfl rfl rfl (by decide) (by decide +kernel) rfl wd758 wd760 wp43 wd4 wd761 ⟨by decide, by omega⟩ (Nat.le_of_ble_eq_true rfl) dX4_digest_59 ?_
    refine j_iastE hCb (by omega) dX4_digest_62 (fun hCc => ?_)
    refine j_dup hCc dX4_digest_63 rfl ?_
    refine j_iconst hCc dX4_digest_64 ?_
    refine j_aload_n hCc dX4_digest_65 2 rfl ?_
    refine j_iload_n hCc dX4_digest_66 0 rfl ?_
    refine j_callV1 (ar := 1) hCc hR (c_X4_thumbs (hlJ hCc) (gP g qa (fun j => if j = 1 then caM τ z else (fun j => if j = 0 then (τ).2 11 z else (fun _ => 0) j) j) 5) τ hI z (by omega)) [vI (2), .ref qa, .ref qa] rfl 19 rfl rfl rfl (by decide) (by decide +kernel) rfl wd766 wd768 wp44 wd4 wd769 ⟨by decide, by omega⟩ (Nat.le_of_ble_eq_true rfl) dX4_digest_67 ?_
    refine j_iastE hCc (by omega) dX4_digest_70 (fun hCd => ?_)
    refine j_dup hCd dX4_digest_71 rfl ?_
    refine j_iconst hCd dX4_digest_72 ?_
    refine j_aload_n hCd dX4_digest_73 2 rfl ?_
    refine j_iload_n hCd dX4_digest_74 0 rfl ?_
    refine j_callV1 (ar := 1) hCd hR (c_X4_nearest (hlJ hCd) (gP g qa (fun j => if j = 2 then ctM τ z else (fun j => if j = 1 then caM τ z else (fun j => if j = 0 then (τ).2 11 z else (fun _ => 0) j) j) j) 5) τ hI z (by omega)) [vI (3), .ref qa, .ref qa] rfl 19 rfl rfl rfl (by decide) (by decide +kernel) rfl wd774 wd776 wp45 wd4 wd777 ⟨by decide, by omega⟩ (Nat.le_of_ble_eq_true rfl) dX4_digest_75 ?_
    refine j_iastE hCd (by omega) dX4_digest_78 (fun hCe => ?_)
    refine j_dup hCe dX4_digest_79 rfl ?_
    refine j_iconst hCe dX4_digest_80 ?_
    refine j_aload_n hCe dX4_digest_81 2 rfl ?_
    refine j_iload_n hCe dX4_digest_82 0 rfl ?_
    refine j_callV1 (ar := 1) hCe hR (c_X4_mistaken (hlJ hCe) (gP g qa (fun j => if j = 3 then nsM τ z else (fun j => if j = 2 then ctM τ z else (fun j => if j = 1 then caM τ z else (fun j => if j = 0 then (τ).2 11 z else (fun _ => 0) j) j) j) j) 5) τ hI z (by omega)) [vI (4), .ref qa, .ref qa] rfl 19 rfl rfl rfl (by decide) (by decide +kernel) rfl wd782 wd784 wp46 wd4 wd785 ⟨by decide, by omega⟩ (Nat.le_of_ble_eq_true rfl) dX4_digest_83 ?_
    refine j_iastE hCe (by omega) dX4_digest_86 (fun hCf => ?_)
    refine j_astore hCf dX4_digest_87 [(4, .ref qa), (3, vI (z)), (1, .long (jI (D))), (0, .ref (gd (gP g qa (fun j => if j = 4 then miM τ z else (fun j => if j = 3 then nsM τ z else (fun j => if j = 2 then ctM τ z else (fun j => if j = 1 then caM τ z else (fun j => if j = 0 then (τ).2 11 z else (fun _ => 0) j) j) j) j) j) 5) (19)))] (by decide) rfl ?_
    refine j_aload hCf dX4_digest_89 0 rfl ?_
    refine j_astore hCf dX4_digest_91 [(5, .ref qa), (4, .ref qa), (3, vI (z)), (1, .long (jI (D))), (0, .ref (gd (gP g qa (fun j => if j = 4 then miM τ z else (fun j => if j = 3 then nsM τ z else (fun j => if j = 2 then ctM τ z else (fun j => if j = 1 then caM τ z else (fun j => if j = 0 then (τ).2 11 z else (fun _ => 0) j) j) j) j) j) 5) (19)))] (by decide) rfl ?_
    refine j_aload hCf dX4_digest_93 0 rfl ?_
    refine j_alenE hCf dX4_digest_95 ?_
    refine j_istore hCf dX4_digest_96 [(6, vI (5)), (5, .ref qa), (4, .ref qa), (3, vI (z)), (1, .long (jI (D))), (0, .ref (gd (gP g qa (fun j => if j = 4 then miM τ z else (fun j => if j = 3 then nsM τ z else (fun j => if j = 2 then ctM τ z else (fun j => if j = 1 then caM τ z else (fun j => if j = 0 then (τ).2 11 z else (fun _ => 0) j) j) j) j) j) 5) (19)))] (by decide) rfl ?_
    refine j_iconst hCf dX4_digest_98 ?_
    refine j_istore hCf dX4_digest_99 [(7, vI (0)), (6, vI (5)), (5, .ref qa), (4, .ref qa), (3, vI (z)), (1, .long (jI (D))), (0, .ref (gd (gP g qa (fun j => if j = 4 then miM τ z else (fun j => if j = 3 then nsM τ z else (fun j => if j = 2 then ctM τ z else (fun j => if j = 1 then caM τ z else (fun j => if j = 0 then (τ).2 11 z else (fun _ => 0) j) j) j) j) j) 5) (19)))] (by decide) rfl ?_
    refine j_sub [0, 5, 1, 2, 6, 4] rfl ?_
    refine lm_dg_f1 (f := (f5 (τ.2 11 z) (caM τ z) (ctM τ z) (nsM τ z) (miM τ z))) hCf hR z 0 ?_ 5 0 D (by omega) (by omega) ?_
    · intro y y0 y1
      rcases (show y = 0 ∨ y = 1 ∨ y = 2 ∨ y = 3 ∨ y = 4 by omega) with rfl | rfl | rfl | rfl | rfl
      · exact (show -2147483648 ≤ τ.2 11 z ∧ τ.2 11 z < 2147483648 by omega)
      · exact (show -2147483648 ≤ caM τ z ∧ caM τ z < 2147483648 by omega)
      · exact (show -2147483648 ≤ ctM τ z ∧ ctM τ z < 2147483648 by omega)
      · exact (show -2147483648 ≤ nsM τ z ∧ nsM τ z < 2147483648 by omega)
      · exact (show -2147483648 ≤ miM τ z ∧ miM τ z < 2147483648 by omega)
    refine j_drop ?_
    refine j_lv (lv2 := [(1, .long (jI (mbM τ z D))), (0, .ref (gd g (19))), (3, vI (z))]) rfl ?_
    refine j_iconst hC dX4_digest_131 ?_
    refine j_istore hC dX4_digest_132 [(5, vI (0)), (1, .long (jI (mbM τ z D))), (0, .ref (gd g (19))), (3, vI (z))] (by decide) rfl ?_
    refine j_sub [0, 1, 2, 3] rfl ?_
    refine lm_dg_to hC hR z (by omega) (τ.1 8).toNat τ 0 (mbM τ z D) hI (by omega) (by omega) (by omega) ?_
    refine j_iconst hC dX4_digest_196 ?_
    refine j_istore hC dX4_digest_197 [(5, vI (0)), (1, .long (jI ((dgMI z (τ.1 8).toNat 0 (mbM τ z D) τ).1))), (0, .ref (gd g (19))), (3, vI (z))] (by decide) rfl ?_
    refine j_sub [0, 1, 2, 3] rfl ?_
    refine lm_dg_s hC hR hi.1 z (by omega) (k + 17) (n + 85) (by omega) (nM (dgMI z (τ.1 8).toNat 0 (mbM τ z D) τ).2 z) (k + 1) (n + 5) 0 (dgMI z (τ.1 8).toNat 0 (mbM τ z D) τ).1 (by omega) (by omega) (by omega) (by omega) ?_
    refine j_iinc hC dX4_digest_321 2 [(3, vI (z + 1)), (1, .long (jI (msgM (dgMI z (τ.1 8).toNat 0 (mbM τ z D) τ).2 z (nM (dgMI z (τ.1 8).toNat 0 (mbM τ z D) τ).2 z) 0 (dgMI z (τ.1 8).toNat 0 (mbM τ z D) τ).1))), (0, .ref (gd g (19)))] rfl (by decide) rfl ?_
    refine j_goto (tgt := 35) hC dX4_digest_324 (by decide) ?_
    refine j_sub [0, 1, 2] rfl ?_
    exact ih (k + 17) (n + 85) (dgMI z (τ.1 8).toNat 0 (mbM τ z D) τ).2 (z + 1) _ (by omega) hi.1 (by omega) (by omega)
set_option maxHeartbeats 4000000 in
set_option maxRecDepth 100000 in
theorem tl_digest_ok {mc : MC} {g : GG} {σ : Sg} (hC : Cx mc g cX4_digest RX4 12 (some .long)) (hR : mR mc = rmJ 7 174 68 340) (hI : IM σ)  : J mc g 0 0 (QN mc g (pt (some (.long (jI (dgM σ).1))) ((dgM σ).2)) 68 340) 5 [(0, .ref (gd g (19)))] [] σ := by
  have hI1 := hI.1
  refine j_ldc2 (v := jI 2099) hC dX4_digest_5 wd847 ?_
  refine j_lstore_n hC dX4_digest_8 [(1, .long (jI (2099))), (0, .ref (gd g (19)))] (by decide) rfl ?_
  refine j_lload_n hC dX4_digest_9 0 rfl ?_
  refine j_ldc2 (v := jI 31) hC dX4_digest_10 wd848 ?_
  refine j_lmul hC dX4_digest_13 ?_
  refine j_aload_n hC dX4_digest_14 1 rfl ?_
  refine j_get hC inX4 rfl 19 rfl 1 (by decide) wd583 rfl dX4_digest_15 ?_
  refine j_i2l hC dX4_digest_18 (by omega) ?_
  refine j_ladd hC dX4_digest_19 ?_
  refine j_lstore_n hC dX4_digest_20 [(1, .long (jI ((2099 * 31) + ((σ).1 8)))), (0, .ref (gd g (19)))] (by decide) rfl ?_
  refine j_lload_n hC dX4_digest_21 0 rfl ?_
  refine j_ldc2 (v := jI 31) hC dX4_digest_22 wd848 ?_
  refine j_lmul hC dX4_digest_25 ?_
  refine j_aload_n hC dX4_digest_26 1 rfl ?_
  refine j_callV1 (ar := 0) hC hR (c_X4_allGroups (hlJ hC) g σ hI  ) [.long (jI (((2099 * 31) + ((σ).1 8)) * 31))] rfl 19 rfl rfl rfl (by decide) (by decide +kernel) rfl wd677 wd679 wp36 wd4 wd680 (by decide) (Nat.le_of_ble_eq_true rfl) dX4_digest_27 ?_
  have hf27 : 0 ≤ agM σ ∧ agM σ ≤ 9 := by have h := cnt_rg (agC σ) 9 0 0; unfold agM; omega
  refine j_i2l hC dX4_digest_30 (by omega) ?_
  refine j_ladd hC dX4_digest_31 ?_
  refine j_lstore_n hC dX4_digest_32 [(1, .long (jI ((((2099 * 31) + ((σ).1 8)) * 31) + (agM σ)))), (0, .ref (gd g (19)))] (by decide) rfl ?_
  refine j_iconst hC dX4_digest_33 ?_
  refine j_istore_n hC dX4_digest_34 [(3, vI (0)), (1, .long (jI ((((2099 * 31) + ((σ).1 8)) * 31) + (agM σ)))), (0, .ref (gd g (19)))] (by decide) rfl ?_
  refine j_sub [0, 1, 2] rfl ?_
  exact lm_dg_o hC hR (σ.1 8).toNat 0 0 σ 0 _ (by omega) hI (by omega) (by omega)
set_option maxHeartbeats 4000000 in
set_option maxRecDepth 100000 in
theorem c_X4_digest_ok {L0 : Launch} (hL0 : L0.stackTraces = false) (g : GG) (σ : Sg) (hI : IM σ)  : CN L0 yX4_digest cX4_digest 12 (some .long) 7 174 68 340 g [.ref (gd g (19))] σ (pt (some (.long (jI (dgM (sF σ 7 0)).1))) ((dgM (sF σ 7 0)).2)) := by
  refine CN_of (own := RX4) hL0 (by decide) rfl (Nat.le_of_ble_eq_true rfl) (fun mc hC _ hR => ?_)
  refine j_lv (lv2 := [(0, .ref (gd g (19)))]) rfl ?_
  refine j_aload_n hC dX4_digest_0 0 rfl ?_
  refine j_iconst hC dX4_digest_1 ?_
  refine j_put (τ := sF (σ) 7 (0)) hC inX4 tyX4_ok nmX4 rfl 19 rfl 0 (by decide) wd582 rfl rfl (Nat.le_of_ble_eq_true rfl) rfl dX4_digest_2 ?_
  exact tl_digest_ok hC hR (IM_t hI (by omega)) 
