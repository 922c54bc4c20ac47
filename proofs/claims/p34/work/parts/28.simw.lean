theorem upd_end {f : Nat → Option Nat} {h : Nat → Nat} {z : Int} {n v : Nat} (h1 : ∀ j : Nat, (j : Int) < z → f j = some (h j)) (hz : z = n) : ∀ j : Nat, j < n + 1 → (if j = z.toNat then some v else f j) = some (if j = n then v else h j) := by
  intro j hj
  by_cases e : j = n
  · rw [if_pos (by omega), if_pos e]
  · rw [if_neg (by omega), if_neg e]; exact h1 j (by omega)
theorem upd_at {f : Nat → Option Nat} {h : Nat → Nat} {n l v : Nat} (h1 : ∀ j : Nat, j < n → f j = some (h j)) : ∀ j : Nat, j < n → (if j = l then some v else f j) = some (if j = l then v else h j) := by
  intro j hj
  by_cases e : j = l
  · rw [if_pos e, if_pos e]
  · rw [if_neg e, if_neg e]; exact h1 j hj
theorem upd_lt {f : Nat → Option Nat} {h : Nat → Nat} {z : Int} (h1 : ∀ j : Nat, (j : Int) < z → f j = some (h j)) (h0 : 0 ≤ z) {v : Nat} (hv : v = h z.toNat) : ∀ j : Nat, (j : Int) < z + 1 → (if j = z.toNat then some v else f j) = some (h j) := by
  intro j hj
  by_cases e : j = z.toNat
  · rw [if_pos e, e, hv]
  · rw [if_neg e]; exact h1 j (by omega)
theorem tn1 : (FieldType.array .int).toString = "[I" := by decide +kernel
theorem tn2 : (FieldType.array (.array .int)).toString = "[[I" := by decide +kernel
theorem tn3 : "[" ++ (FieldType.array .boolean).toString = "[[Z" := by decide +kernel
theorem tn4 : "[" ++ (FieldType.array .int).toString = "[[I" := by decide +kernel
theorem wnS7 : Cond.classLink RX4 7 (FieldType.array (.array .int)).toString ∈ wsA := by rw [tn2]; exact wd416
theorem wnS20 : Cond.classLink RX4 20 (FieldType.array .int).toString ∈ wsA := by rw [tn1]; exact wd418
theorem wnS15 : Cond.classLink RX4 15 ("[" ++ (FieldType.array .boolean).toString) ∈ wsA := by rw [tn3]; exact wd335
set_option maxHeartbeats 4000000 in
set_option maxRecDepth 100000 in
theorem lp_X4_addLodge {mc : MC} {g : GG} {X0 : va_W} {σ : Sg} {Q : State → Prop} {a : Nat} {r : RR} (hr0 : Rp g X0 a σ r) (hI : IC σ) {K N : Nat} (hR : mR mc = rmJ 0 0 K N) (k n : Nat) {q : Nat} (hf : Fr X0 q) (kx : ∀ (Y : va_W) (f : Nat → Option Nat), Cx mc (gx g Y) cX4_addLodge RX4 3 none → Sb X0 Y → (q, rq (gU g) (nLo σ + 1) f) ∈ Y → (∀ j : Nat, (j : Int) < σ.1 0 → f j = some (rL r j)) → J mc (gx g Y) k n Q 37 [(1, .ref q), (0, .ref a)] [] σ) : ∀ (d : Nat) (z : Int) (X : va_W) (f : Nat → Option Nat), (Cx mc (gx g X) cX4_addLodge RX4 3 none) → (Sb X0 X) → ((q, rq (gU g) (nLo σ + 1) f) ∈ X) → (∀ j : Nat, (j : Int) < z → f j = some (rL r j)) → (0 ≤ z) → (z + (d : Int) = σ.1 0) → J mc (gx g X) k n Q 13 [(2, vI (z)), (1, .ref q), (0, .ref a)] [] σ := by
  intro d
  induction d with
  | zero =>
    intro z X f hC hb hq hff h0 hz
    have hc0 := IC_n hI
    have hr := hr0.sb hb
    refine j_iload_n hC dX4_addLodge_13 0 rfl ?_
    refine j_aload_n hC dX4_addLodge_14 2 rfl ?_
    refine r_books hC hr wd530 dX4_addLodge_15 ?_
    refine r_blen hC hr hI dX4_addLodge_18 ?_
    refine j_icmp_ge (tgt := 37) hC dX4_addLodge_19 (by decide) (by omega) (fun _ => ?_) (fun h => absurd h (by omega))
    refine j_sub [1, 2] rfl ?_
    exact kx X f hC hb hq (fun j hj => hff j (by omega))
  | succ d ih =>
    intro z X f hC hb hq hff h0 hz
    have hc0 := IC_n hI
    have hr := hr0.sb hb
    obtain ⟨f9, hv9, -⟩ := hr.2.2.1 z.toNat (by omega)
    refine j_iload_n hC dX4_addLodge_13 0 rfl ?_
    refine j_aload_n hC dX4_addLodge_14 2 rfl ?_
    refine r_books hC hr wd530 dX4_addLodge_15 ?_
    refine r_blen hC hr hI dX4_addLodge_18 ?_
    refine j_icmp_ge (tgt := 37) hC dX4_addLodge_19 (by decide) (by omega) (fun h => absurd h (by omega)) (fun _ => ?_)
    refine j_aload_n hC dX4_addLodge_22 1 rfl ?_
    refine j_iload_n hC dX4_addLodge_23 0 rfl ?_
    refine j_aload_n hC dX4_addLodge_24 2 rfl ?_
    refine r_books hC hr wd530 dX4_addLodge_25 ?_
    refine j_iload_n hC dX4_addLodge_28 0 rfl ?_
    refine r_lodge hC hr hI (by omega) dX4_addLodge_29 ?_
    refine x_rast hC hq hv9 4 3 rfl rfl (hX_T hC).2.2.1 (fun _ h => by cases h) (by omega) dX4_addLodge_30 (fun Y1 hw hC => ?_)
    refine j_iinc hC dX4_addLodge_31 0 [(2, vI (z + 1)), (1, .ref q), (0, .ref a)] rfl (by decide) rfl ?_
    refine j_goto (tgt := 13) hC dX4_addLodge_34 (by decide) ?_
    exact ih (z + 1) Y1 _ hC (hb.wr hf hw) hw.1 (upd_lt hff h0 rfl) (by omega) (by omega)
set_option maxHeartbeats 4000000 in
set_option maxRecDepth 100000 in
theorem c_X4_addLodge {ll : Launch} (hll : ll.stackTraces = false) (g : GG) (X : va_W) (σ : Sg) {a : Nat} {r : RR} (hr0 : Rp g X a σ r) (hI : IC σ) (h4 : σ.1 0 < 4) (h0 : σ.1 (2 + nLo σ) = 0) : CG ll yX4_addLodge cX4_addLodge 3 none 0 0 2 8 g X [.ref a] σ (fun v τ Y => v = none ∧ τ = σ ∧ ∃ r2, Rp g Y a (sF σ 0 (σ.1 0 + 1)) r2) := by
  refine CG_of (own := RX4) hll (by decide) rfl (Nat.le_of_ble_eq_true rfl) (fun mc hC _ hR => ?_)
  refine j_lv (lv2 := [(0, .ref a)]) rfl ?_
  have hc0 := IC_n hI
  have hu := Un_of hC
  have hr := hr0
  refine j_aload_n hC dX4_addLodge_0 0 rfl ?_
  refine r_books hC hr wd530 dX4_addLodge_1 ?_
  refine r_blen hC hr hI dX4_addLodge_4 ?_
  refine j_iconst hC dX4_addLodge_5 ?_
  refine j_iadd hC dX4_addLodge_6 ?_
  refine x_newR hC hR (nLo σ + 1) 4 rfl (hX_T hC).2.2.1 (by omega) (by omega) (by omega) wnS7 dX4_addLodge_7 (fun q Y1 hn hC => ?_)
  have hf : Fr X q := hn.2.2
  have hq1 := hn.1
  have hb1 := hn.sb
  refine j_astore_n hC dX4_addLodge_10 [(1, .ref q), (0, .ref a)] (by decide) rfl ?_
  refine j_iconst hC dX4_addLodge_11 ?_
  refine j_istore_n hC dX4_addLodge_12 [(2, vI (0)), (1, .ref q), (0, .ref a)] (by decide) rfl ?_
  refine lp_X4_addLodge hr0 hI hR _ _ hf ?_ (nLo σ) 0 Y1 _ hC hb1 hq1 (fun j hj => by omega) (by omega) (by omega)
  intro Y f hC hb hq hff
  have hr := hr0.sb hb
  refine j_aload_n hC dX4_addLodge_37 0 rfl ?_
  refine j_aload_n hC dX4_addLodge_38 1 rfl ?_
  refine r_books hC hr wd530 dX4_addLodge_39 ?_
  refine r_blen hC hr hI dX4_addLodge_42 ?_
  refine j_iconst hC dX4_addLodge_43 ?_
  refine x_newR hC hR 0 3 rfl (hX_T hC).2.1 rfl (by omega) (by omega) wnS20 dX4_addLodge_44 (fun q2 Y2 hn hC => ?_)
  have hb2 : Sb X Y2 := hb.tr hn.sb
  have hf2 : Fr X q2 := hn.fr hb
  have hn2 := hn.1
  have hq2 := hn.sb _ hq
  have hqq2 := hn.2.2 _ hq
  refine x_rast hC hq2 hn2 4 3 rfl rfl (hX_T hC).2.2.1 (fun _ h => by cases h) (by omega) dX4_addLodge_47 (fun Y3 hw hC => ?_)
  have hb3 := hb2.wr hf hw
  have hq3 := hw.1
  have h23 := hw.2 _ hn2 (fun z => hqq2 z.symm)
  have hr := hr0.sb hb3
  refine j_aload_n hC dX4_addLodge_48 1 rfl ?_
  refine j_aload_n hC dX4_addLodge_49 0 rfl ?_
  refine x_put hC hr.1 0 (by decide) wd530 (Nat.le_of_ble_eq_true rfl) dX4_addLodge_50 (fun Y4 hw hC => ?_)
  have hk4 := Kp.wr hb3 hw
  have hq4 := hw.2 _ hq3 (fun z => hf _ hr0.1 z.symm)
  have h24 := hw.2 _ h23 (fun z => hf2 _ hr0.1 z.symm)
  refine j_widen (k2 := 2) (n2 := 8) (by omega) (by omega) ?_
  exact g_vret hC dX4_addLodge_53 ⟨rfl, rfl, _, Rp_lodge (q := q) (q2 := q2) (h9 := fun _ => 0) hr0 hu hk4 hw.1 ⟨_, hq4, upd_end hff hc0.1.symm⟩ ⟨_, h24, fun j hj => by omega⟩ hf2 hI h0⟩
set_option maxHeartbeats 4000000 in
set_option maxRecDepth 100000 in
theorem lp_X4_add {mc : MC} {g : GG} {X0 : va_W} {σ : Sg} {Q : State → Prop} {a : Nat} {r : RR} (hr0 : Rp g X0 a σ r) (hI : IC σ) {K N : Nat} (hR : mR mc = rmJ 0 0 K N) (k n : Nat) (l : Int) (hl : 0 ≤ l ∧ l < σ.1 0) {q x : Nat} (hf : Fr X0 q) (kx : ∀ (Y : va_W) (f : Nat → Option Nat), Cx mc (gx g Y) cX4_add RX4 5 none → Sb X0 Y → (q, rq (gY g) (cN σ l.toNat + 1) f) ∈ Y → (∀ j : Nat, (j : Int) < σ.1 (2 + l.toNat) → f j = some (rS r l.toNat j)) → J mc (gx g Y) k n Q 47 [(3, .ref q), (0, .ref a), (1, vI l), (2, .ref x)] [] σ) : ∀ (d : Nat) (z : Int) (X : va_W) (f : Nat → Option Nat), (Cx mc (gx g X) cX4_add RX4 5 none) → (Sb X0 X) → ((q, rq (gY g) (cN σ l.toNat + 1) f) ∈ X) → (∀ j : Nat, (j : Int) < z → f j = some (rS r l.toNat j)) → (0 ≤ z) → (z + (d : Int) = σ.1 (2 + l.toNat)) → J mc (gx g X) k n Q 16 [(4, vI (z)), (3, .ref q), (0, .ref a), (1, vI (l)), (2, .ref x)] [] σ := by
  intro d
  induction d with
  | zero =>
    intro z X f hC hb hq hff h0 hz
    have hkn := IC_k hI hl
    have hc0 := IC_n hI
    have hr := hr0.sb hb
    refine j_iload hC dX4_add_16 0 rfl ?_
    refine j_aload_n hC dX4_add_18 2 rfl ?_
    refine r_books hC hr wd530 dX4_add_19 ?_
    refine j_iload_n hC dX4_add_22 3 rfl ?_
    refine r_lodge hC hr hI (by omega) dX4_add_23 ?_
    refine r_llen hC hr hI (by omega) dX4_add_24 ?_
    refine j_icmp_ge (tgt := 47) hC dX4_add_25 (by decide) (by omega) (fun _ => ?_) (fun h => absurd h (by omega))
    refine j_sub [1, 2, 3, 4] rfl ?_
    exact kx X f hC hb hq (fun j hj => hff j (by omega))
  | succ d ih =>
    intro z X f hC hb hq hff h0 hz
    have hkn := IC_k hI hl
    have hc0 := IC_n hI
    have hr := hr0.sb hb
    obtain ⟨f9, hv9, -⟩ := Rp.sn hr hI hl (z := z) (by omega)
    refine j_iload hC dX4_add_16 0 rfl ?_
    refine j_aload_n hC dX4_add_18 2 rfl ?_
    refine r_books hC hr wd530 dX4_add_19 ?_
    refine j_iload_n hC dX4_add_22 3 rfl ?_
    refine r_lodge hC hr hI (by omega) dX4_add_23 ?_
    refine r_llen hC hr hI (by omega) dX4_add_24 ?_
    refine j_icmp_ge (tgt := 47) hC dX4_add_25 (by decide) (by omega) (fun h => absurd h (by omega)) (fun _ => ?_)
    refine j_aload_n hC dX4_add_28 1 rfl ?_
    refine j_iload hC dX4_add_29 0 rfl ?_
    refine j_aload_n hC dX4_add_31 2 rfl ?_
    refine r_books hC hr wd530 dX4_add_32 ?_
    refine j_iload_n hC dX4_add_35 3 rfl ?_
    refine r_lodge hC hr hI (by omega) dX4_add_36 ?_
    refine j_iload hC dX4_add_37 0 rfl ?_
    refine r_sign hC hr hI (by omega) (by omega) dX4_add_39 ?_
    refine x_rast hC hq hv9 3 0 rfl rfl (hX_T hC).2.1 (fun _ h => by cases h) (by omega) dX4_add_40 (fun Y1 hw hC => ?_)
    refine j_iinc hC dX4_add_41 0 [(4, vI (z + 1)), (3, .ref q), (0, .ref a), (1, vI (l)), (2, .ref x)] rfl (by decide) rfl ?_
    refine j_goto (tgt := 16) hC dX4_add_44 (by decide) ?_
    exact ih (z + 1) Y1 _ hC (hb.wr hf hw) hw.1 (upd_lt hff h0 rfl) (by omega) (by omega)
set_option maxHeartbeats 4000000 in
set_option maxRecDepth 100000 in
theorem c_X4_add {ll : Launch} (hll : ll.stackTraces = false) (g : GG) (X : va_W) (σ : Sg) {a : Nat} {r : RR} (hr0 : Rp g X a σ r) (hI : IC σ) (l : Int) (hl : 0 ≤ l ∧ l < σ.1 0) {x : Nat} {L m : Int} (hx : Sn g X x L m) (hn : σ.1 (2 + l.toNat) < 16) : CG ll yX4_add cX4_add 5 none 0 0 1 17 g X [.ref a, vI (l), .ref x] σ (fun v τ Y => v = none ∧ τ = σ ∧ Sn g Y x L m ∧ ∃ r2, Rp g Y a (apB σ l.toNat L m) r2) := by
  refine CG_of (own := RX4) hll (by decide) rfl (Nat.le_of_ble_eq_true rfl) (fun mc hC _ hR => ?_)
  refine j_lv (lv2 := [(0, .ref a), (1, vI (l)), (2, .ref x)]) rfl ?_
  have hkn := IC_k hI hl
  have hc0 := IC_n hI
  have hu := Un_of hC
  have hne := Ne3_of hC
  have hne : Ne3 g := hne
  have hr := hr0
  refine j_aload_n hC dX4_add_0 0 rfl ?_
  refine r_books hC hr wd530 dX4_add_1 ?_
  refine j_iload_n hC dX4_add_4 1 rfl ?_
  refine r_lodge hC hr hI (by omega) dX4_add_5 ?_
  refine r_llen hC hr hI (by omega) dX4_add_6 ?_
  refine j_iconst hC dX4_add_7 ?_
  refine j_iadd hC dX4_add_8 ?_
  refine x_newR hC hR (cN σ l.toNat + 1) 3 rfl (hX_T hC).2.1 (by omega) (by omega) (by omega) wnS20 dX4_add_9 (fun q Y1 hn hC => ?_)
  have hf : Fr X q := hn.2.2
  have hq1 := hn.1
  have hb1 := hn.sb
  refine j_astore_n hC dX4_add_12 [(3, .ref q), (0, .ref a), (1, vI (l)), (2, .ref x)] (by decide) rfl ?_
  refine j_iconst hC dX4_add_13 ?_
  refine j_istore hC dX4_add_14 [(4, vI (0)), (3, .ref q), (0, .ref a), (1, vI (l)), (2, .ref x)] (by decide) rfl ?_
  refine lp_X4_add hr0 hI hR _ _ l hl hf ?_ (cN σ l.toNat) 0 Y1 _ hC hb1 hq1 (fun j hj => by omega) (by omega) (by omega)
  intro Y f hC hb hq hff
  have hr := hr0.sb hb
  obtain ⟨fx, hx1, -⟩ := id hx
  have hx2 := hb _ hx1
  refine j_aload_n hC dX4_add_47 0 rfl ?_
  refine j_aload_n hC dX4_add_48 1 rfl ?_
  refine r_books hC hr wd530 dX4_add_49 ?_
  refine j_iload_n hC dX4_add_52 2 rfl ?_
  refine r_lodge hC hr hI (by omega) dX4_add_53 ?_
  refine r_llen hC hr hI (by omega) dX4_add_54 ?_
  refine j_aload_n hC dX4_add_55 3 rfl ?_
  refine x_rast hC hq hx2 3 0 rfl rfl (hX_T hC).2.1 (fun _ h => by cases h) (by omega) dX4_add_56 (fun Y3 hw hC => ?_)
  have hb3 := hb.wr hf hw
  have hq3 := hw.1
  have hr := hr0.sb hb3
  obtain ⟨fu, hu9, hu8⟩ := hr.2.1
  refine j_aload_n hC dX4_add_57 1 rfl ?_
  refine r_books hC hr wd530 dX4_add_58 ?_
  refine j_iload_n hC dX4_add_61 2 rfl ?_
  refine j_aload_n hC dX4_add_62 0 rfl ?_
  refine x_rast hC hu9 hq3 4 3 rfl rfl (hX_T hC).2.2.1 (fun _ h => by cases h) (by omega) dX4_add_63 (fun Y4 hw hC => ?_)
  have hk4 := Kp.wr hb3 hw
  have hq4 := hw.2 _ hq3 (fun z => (hr0.2.1.nf hf) z.symm)
  refine j_widen (k2 := 1) (n2 := 17) (by omega) (by omega) ?_
  exact g_vret hC dX4_add_64 ⟨rfl, rfl, hx.kp hk4 (hx.nq hu hr0.2.1), _, Rp_add (q := q) (x := x) hr0 hu hne hk4 (by omega) ⟨_, hw.1, upd_at hu8⟩ ⟨_, hq4, upd_end hff hkn.1.symm⟩ (hx.kp hk4 (hx.nq hu hr0.2.1)) hf hI⟩
set_option maxHeartbeats 4000000 in
set_option maxRecDepth 100000 in
theorem lp_X4_remove {mc : MC} {g : GG} {X0 : va_W} {σ : Sg} {Q : State → Prop} {a : Nat} {r : RR} (hr0 : Rp g X0 a σ r) (hI : IC σ) {K N : Nat} (hR : mR mc = rmJ 0 0 K N) (k n : Nat) (l : Int) (hl : 0 ≤ l ∧ l < σ.1 0) (s : Int) (hs : 0 ≤ s ∧ s < σ.1 (2 + l.toNat)) {q : Nat} (hf : Fr X0 q) (kx : ∀ (Y : va_W) (f : Nat → Option Nat), Cx mc (gx g Y) cX4_remove RX4 5 none → Sb X0 Y → (q, rq (gY g) (cN σ l.toNat - 1) f) ∈ Y → (∀ j : Nat, (j : Int) < σ.1 (2 + l.toNat) - 1 → f j = some (if (j : Int) < s then rS r l.toNat j else rS r l.toNat (j + 1))) → J mc (gx g Y) k n Q 55 [(3, .ref q), (0, .ref a), (1, vI l), (2, vI s)] [] σ) : ∀ (d : Nat) (z : Int) (X : va_W) (f : Nat → Option Nat), (Cx mc (gx g X) cX4_remove RX4 5 none) → (Sb X0 X) → ((q, rq (gY g) (cN σ l.toNat - 1) f) ∈ X) → (∀ j : Nat, (j : Int) < z → f j = some (if (j : Int) < s then rS r l.toNat j else rS r l.toNat (j + 1))) → (0 ≤ z) → (z + (d : Int) = σ.1 (2 + l.toNat) - 1) → J mc (gx g X) k n Q 16 [(4, vI (z)), (3, .ref q), (0, .ref a), (1, vI (l)), (2, vI (s))] [] σ := by
  intro d
  induction d with
  | zero =>
    intro z X f hC hb hq hff h0 hz
    have hkn := IC_k hI hl
    have hc0 := IC_n hI
    have hr := hr0.sb hb
    refine j_iload hC dX4_remove_16 0 rfl ?_
    refine j_aload_n hC dX4_remove_18 1 rfl ?_
    refine x_alen (z := σ.1 (2 + l.toNat) - 1) hC hq 3 rfl (by omega) dX4_remove_19 ?_
    refine j_icmp_ge (tgt := 55) hC dX4_remove_20 (by decide) (by omega) (fun _ => ?_) (fun h => absurd h (by omega))
    refine j_sub [1, 2, 3, 4] rfl ?_
    exact kx X f hC hb hq (fun j hj => hff j (by omega))
  | succ d ih =>
    intro z X f hC hb hq hff h0 hz
    have hkn := IC_k hI hl
    have hc0 := IC_n hI
    have hr := hr0.sb hb
    obtain ⟨f9, hv9, -⟩ := Rp.sn hr hI hl (z := z) (by omega)
    obtain ⟨f8, hv8, -⟩ := Rp.sn hr hI hl (z := z + 1) (by omega)
    refine j_iload hC dX4_remove_16 0 rfl ?_
    refine j_aload_n hC dX4_remove_18 1 rfl ?_
    refine x_alen (z := σ.1 (2 + l.toNat) - 1) hC hq 3 rfl (by omega) dX4_remove_19 ?_
    refine j_icmp_ge (tgt := 55) hC dX4_remove_20 (by decide) (by omega) (fun h => absurd h (by omega)) (fun _ => ?_)
    refine j_aload_n hC dX4_remove_23 1 rfl ?_
    refine j_iload hC dX4_remove_24 0 rfl ?_
    refine j_aload_n hC dX4_remove_26 2 rfl ?_
    refine r_books hC hr wd530 dX4_remove_27 ?_
    refine j_iload_n hC dX4_remove_30 3 rfl ?_
    refine r_lodge hC hr hI (by omega) dX4_remove_31 ?_
    refine j_iload hC dX4_remove_32 0 rfl ?_
    refine j_iload_n hC dX4_remove_34 4 rfl ?_
    refine j_icmp_ge (tgt := 43) hC dX4_remove_35 (by decide) (by omega) (fun h35 => ?_) (fun h35 => ?_)
    · refine j_iload hC dX4_remove_43 0 rfl ?_
      refine j_iconst hC dX4_remove_45 ?_
      refine j_iadd hC dX4_remove_46 ?_
      refine r_sign hC hr hI (by omega) (by omega) dX4_remove_47 ?_
      refine x_rast hC hq hv8 3 0 rfl rfl (hX_T hC).2.1 (fun _ h => by cases h) (by omega) dX4_remove_48 (fun Y1 hw hC => ?_)
      refine j_iinc hC dX4_remove_49 0 [(4, vI (z + 1)), (3, .ref q), (0, .ref a), (1, vI (l)), (2, vI (s))] rfl (by decide) rfl ?_
      refine j_goto (tgt := 16) hC dX4_remove_52 (by decide) ?_
      exact ih (z + 1) _ _ hC (hb.wr hf hw) hw.1 (upd_lt (h := fun j => (if (j : Int) < s then rS r l.toNat j else rS r l.toNat (j + 1))) hff h0 (by first | (show _ = (if ((z.toNat : Nat) : Int) < s then _ else _); rw [if_pos (by omega)]; done) | (show _ = (if ((z.toNat : Nat) : Int) < s then _ else _); rw [if_neg (by omega), show (z + 1).toNat = z.toNat + 1 by omega]))) (by omega) (by omega)
    · refine j_iload hC dX4_remove_38 0 rfl ?_
      refine j_goto (tgt := 47) hC dX4_remove_40 (by decide) ?_
      refine r_sign hC hr hI (by omega) (by omega) dX4_remove_47 ?_
      refine x_rast hC hq hv9 3 0 rfl rfl (hX_T hC).2.1 (fun _ h => by cases h) (by omega) dX4_remove_48 (fun Y2 hw hC => ?_)
      refine j_iinc hC dX4_remove_49 0 [(4, vI (z + 1)), (3, .ref q), (0, .ref a), (1, vI (l)), (2, vI (s))] rfl (by decide) rfl ?_
      refine j_goto (tgt := 16) hC dX4_remove_52 (by decide) ?_
      exact ih (z + 1) _ _ hC (hb.wr hf hw) hw.1 (upd_lt (h := fun j => (if (j : Int) < s then rS r l.toNat j else rS r l.toNat (j + 1))) hff h0 (by first | (show _ = (if ((z.toNat : Nat) : Int) < s then _ else _); rw [if_pos (by omega)]; done) | (show _ = (if ((z.toNat : Nat) : Int) < s then _ else _); rw [if_neg (by omega), show (z + 1).toNat = z.toNat + 1 by omega]))) (by omega) (by omega)
set_option maxHeartbeats 4000000 in
set_option maxRecDepth 100000 in
theorem c_X4_remove {ll : Launch} (hll : ll.stackTraces = false) (g : GG) (X : va_W) (σ : Sg) {a : Nat} {r : RR} (hr0 : Rp g X a σ r) (hI : IC σ) (l : Int) (hl : 0 ≤ l ∧ l < σ.1 0) (s : Int) (hs : 0 ≤ s ∧ s < σ.1 (2 + l.toNat)) : CG ll yX4_remove cX4_remove 5 none 0 0 1 17 g X [.ref a, vI (l), vI (s)] σ (fun v τ Y => v = none ∧ τ = σ ∧ ∃ r2, Rp g Y a (rmB σ l.toNat s) r2) := by
  refine CG_of (own := RX4) hll (by decide) rfl (Nat.le_of_ble_eq_true rfl) (fun mc hC _ hR => ?_)
  refine j_lv (lv2 := [(0, .ref a), (1, vI (l)), (2, vI (s))]) rfl ?_
  have hkn := IC_k hI hl
  have hc0 := IC_n hI
  have hu := Un_of hC
  have hne := Ne3_of hC
  have hne : Ne3 g := hne
  have hr := hr0
  refine j_aload_n hC dX4_remove_0 0 rfl ?_
  refine r_books hC hr wd530 dX4_remove_1 ?_
  refine j_iload_n hC dX4_remove_4 1 rfl ?_
  refine r_lodge hC hr hI (by omega) dX4_remove_5 ?_
  refine r_llen hC hr hI (by omega) dX4_remove_6 ?_
  refine j_iconst hC dX4_remove_7 ?_
  refine j_isub hC dX4_remove_8 ?_
  refine x_newR hC hR (cN σ l.toNat - 1) 3 rfl (hX_T hC).2.1 (by omega) (by omega) (by omega) wnS20 dX4_remove_9 (fun q Y1 hn hC => ?_)
  have hf : Fr X q := hn.2.2
  have hq1 := hn.1
  have hb1 := hn.sb
  refine j_astore_n hC dX4_remove_12 [(3, .ref q), (0, .ref a), (1, vI (l)), (2, vI (s))] (by decide) rfl ?_
  refine j_iconst hC dX4_remove_13 ?_
  refine j_istore hC dX4_remove_14 [(4, vI (0)), (3, .ref q), (0, .ref a), (1, vI (l)), (2, vI (s))] (by decide) rfl ?_
  refine lp_X4_remove hr0 hI hR _ _ l hl s hs hf ?_ (cN σ l.toNat - 1) 0 Y1 _ hC hb1 hq1 (fun j hj => by omega) (by omega) (by omega)
  intro Y f hC hb hq hff
  have hr := hr0.sb hb
  obtain ⟨fu, hu9, hu8⟩ := hr.2.1
  refine j_aload_n hC dX4_remove_55 1 rfl ?_
  refine r_books hC hr wd530 dX4_remove_56 ?_
  refine j_iload_n hC dX4_remove_59 2 rfl ?_
  refine j_aload_n hC dX4_remove_60 0 rfl ?_
  refine x_rast hC hu9 hq 4 3 rfl rfl (hX_T hC).2.2.1 (fun _ h => by cases h) (by omega) dX4_remove_61 (fun Y4 hw hC => ?_)
  have hk4 := Kp.wr hb hw
  have hq4 := hw.2 _ hq (fun z => (hr0.2.1.nf hf) z.symm)
  refine j_widen (k2 := 1) (n2 := 17) (by omega) (by omega) ?_
  exact g_vret hC dX4_remove_62 ⟨rfl, rfl, _, Rp_rem (q := q) hr0 hu hne hk4 (by omega) hs ⟨_, hw.1, upd_at hu8⟩ ⟨_, hq4, fun j hj => hff j (by omega)⟩ hf hI⟩
