theorem hrowZ (m0 : Nat) : ∀ c : ClassId, Jvm.Free.Multi.innerC c m0 (defaultValue .boolean) = vp_cell c (m0, .inl (fun j : Nat => iI ((fun _ : Int => (0 : Int)) (j : Int)))) := by
  intro c
  rw [vp_cell_i]
  show ({ cls := c, slots := Array.replicate m0 (.int 0), vm := .none } : Cell) = _
  rw [arrV_new]
  exact congrArg (arrV c m0) (funext fun _ => congrArg Value.int iI_0.symm)
theorem hrowI (m0 : Nat) : ∀ c : ClassId, Jvm.Free.Multi.innerC c m0 (defaultValue .int) = vp_cell c (m0, .inl (fun j : Nat => iI ((fun _ : Int => (0 : Int)) (j : Int)))) := by
  intro c
  rw [vp_cell_i]
  show ({ cls := c, slots := Array.replicate m0 (.int 0), vm := .none } : Cell) = _
  rw [arrV_new]
  exact congrArg (arrV c m0) (funext fun _ => congrArg Value.int iI_0.symm)
/-- rows of a grid: one row written at one place -/
theorem rows_up {g : GG} {Y Y1 : va_W} {rr : Nat → Nat} {F : Nat → Int → Int} {p : Nat} {f : Int → Int} (hrows : ∀ i, i < 9 → (rr i, zi g (F i) 9) ∈ Y) (inj : ∀ i j : Nat, i < 9 → j < 9 → rr i = rr j → i = j) (hp : p < 9) (hw : Wr Y (rr p) (zi g f 9) Y1) : ∀ i, i < 9 → (rr i, zi g (if i = p then f else F i) 9) ∈ Y1 := by
  intro i hi
  by_cases e : i = p
  · rw [if_pos e, e]; exact hw.1
  · rw [if_neg e]; exact hw.2 _ (hrows i hi) (fun z => e (inj i p hi hp z))
/-- joined then -/
def jnV (G : Int → Int) (b c p w : Int) : Int := if (G p = G w ∨ (G p = G b ∧ G c = G w)) ∨ (G p = G c ∧ G b = G w) then 1 else 0
/-- is a look unlike to all: 1, or 0 -/
def isF (G lk : Int → Int) (L : Int) : Nat → Int → Int → Int
  | 0, _, b => b
  | d + 1, z, b => isF G lk L d (z + 1) (if b = 1 ∧ 0 < dst G L (lk z) then 1 else 0)
theorem isF_01 (G lk : Int → Int) (L : Int) : ∀ (d : Nat) (z b : Int), b = 0 ∨ b = 1 → isF G lk L d z b = 0 ∨ isF G lk L d z b = 1 := by
  intro d
  induction d with
  | zero => intro z b h; exact h
  | succ d ih =>
    intro z b _
    unfold isF
    refine ih (z + 1) _ ?_
    split
    · exact Or.inr rfl
    · exact Or.inl rfl
theorem isF_0 (G lk : Int → Int) (L : Int) : ∀ (d : Nat) (z : Int), isF G lk L d z 0 = 0 := by
  intro d
  induction d with
  | zero => intro z; rfl
  | succ d ih =>
    intro z
    unfold isF
    rw [if_neg (by omega)]
    exact ih (z + 1)
theorem isF_hs (G lk : Int → Int) (L : Int) : ∀ (d : Nat) (z : Int), (∀ y : Int, z ≤ y → y < z + d → (alk G L (lk y) ↔ ¬ 0 < dst G L (lk y))) → (isF G lk L d z 1 = 1 ↔ hsA G lk L d z = 0) := by
  intro d
  induction d with
  | zero => intro z _; exact ⟨fun _ => rfl, fun _ => rfl⟩
  | succ d ih =>
    intro z h
    have h0 := h z (by omega) (by omega)
    unfold isF hsA
    by_cases q : alk G L (lk z)
    · rw [if_pos q, if_neg (fun w => h0.mp q w.2), isF_0]
      exact ⟨fun w => by omega, fun w => by omega⟩
    · rw [if_neg q, if_pos ⟨rfl, Classical.not_not.mp (fun w => q (h0.mpr w))⟩]
      exact ih (z + 1) (fun y h1 h2 => h y (by omega) (by omega))
theorem sgn5 {L m t : Int} (ht : 0 ≤ t ∧ t < 4) (hL : 0 ≤ L ∧ L < 2304) : ∀ j : Int, 0 ≤ j → j < 5 → (if j = 4 then m else if j = 3 then L / 64 % 4 else if j = 2 then L / 256 else if j = 1 then t else if j = 0 then L % 16 else 0) = sgn (wth L t) m j := by
  intro j j0 j1
  unfold sgn wth
  rcases (show j = 0 ∨ j = 1 ∨ j = 2 ∨ j = 3 ∨ j = 4 by omega) with rfl | rfl | rfl | rfl | rfl <;> simp <;> omega
theorem isF_book {σ : Sg} (hI : IC σ) {b : Nat} (hb : b < 5) {L : Int} (hL : 0 ≤ L ∧ L < 2304) : isF (σ.2 0) (lkB σ b) L (cN σ b) 0 1 = 1 ↔ hsA (σ.2 0) (lkB σ b) L (cN σ b) 0 = 0 := by
  have hn := cN_eq hI hb
  have h16 := hI.2.2.2.1 b hb
  refine isF_hs _ _ _ _ 0 (fun y y0 y1 => ?_)
  have h2 := hI.2.2.2.2.1 b hb y y0 (by omega)
  have hd := dst_rg (G := σ.2 0) (x := L) (y := lkB σ b y) ⟨hL.1, hL.2, h2.1, h2.2⟩
  rw [← dst_0 hL h2]
  show dst (σ.2 0) L (lkB σ b y) = 0 ↔ _
  omega
set_option maxHeartbeats 4000000 in
set_option maxRecDepth 100000 in
theorem lp_X4_join_i {mc : MC} {g : GG} {X0 : va_W} {σ : Sg} {Q : State → Prop} {K N : Nat} (hR : mR mc = rmJ 0 0 K N) (k n : Nat) {a : Nat} {r : RR} (hr0 : Rp g X0 a σ r) (hI : IC σ) (b c : Int) (hbc : 0 ≤ b ∧ b < 9 ∧ 0 ≤ c ∧ c < 9) {q : Nat} {rr : Nat → Nat} (hfr : ∀ i, i < 9 → Fr X0 (rr i)) (hfq : Fr X0 q) (inj : ∀ i j : Nat, i < 9 → j < 9 → rr i = rr j → i = j) (hrq : ∀ i, i < 9 → rr i ≠ q) (p : Int) (hp : 0 ≤ p ∧ p < 9) (kx : ∀ (Y : va_W) (F : Nat → Int → Int), Cx mc (gx g Y) cX4_join RX4 6 none → Sb X0 Y → (q, rq (gV g) 9 (fun i => if i < 9 then some (rr i) else none)) ∈ Y → (∀ i, i < 9 → (rr i, zi g (F i) 9) ∈ Y) → (∀ (i : Nat) (w : Int), i < 9 → 0 ≤ w → w < 9 → (i : Int) < p + 1 → F i w = jnV (σ.2 0) b c i w) → J mc (gx g Y) k n Q 108 [(4, vI (p)), (3, .ref q), (0, .ref a), (1, vI (b)), (2, vI (c))] [] σ) : ∀ (d : Nat) (j : Int) (X : va_W) (F : Nat → Int → Int), (Cx mc (gx g X) cX4_join RX4 6 none) → (Sb X0 X) → ((q, rq (gV g) 9 (fun i => if i < 9 then some (rr i) else none)) ∈ X) → (∀ i, i < 9 → (rr i, zi g (F i) 9) ∈ X) → (∀ (i : Nat) (w : Int), i < 9 → 0 ≤ w → w < 9 → ((i : Int) < p ∨ ((i : Int) = p ∧ w < j)) → F i w = jnV (σ.2 0) b c i w) → (0 ≤ j) → (j + (d : Int) = 9) → J mc (gx g X) k n Q 22 [(5, vI (j)), (4, vI (p)), (3, .ref q), (0, .ref a), (1, vI (b)), (2, vI (c))] [] σ := by
  intro d
  induction d with
  | zero =>
    intro j X F hC hb hq hrows hF h0 hz
    refine j_iload hC dX4_join_22 0 rfl ?_
    refine j_bipush hC dX4_join_24 (by decide) ?_
    refine j_icmp_ge (tgt := 108) hC dX4_join_26 (by decide) (by omega) (fun _ => ?_) (fun h => absurd h (by omega))
    refine j_sub [1, 2, 3, 4, 5] rfl ?_
    exact kx X F hC hb hq hrows (fun i w i0 w0 w1 h => hF i w i0 w0 w1 (by omega))
  | succ d ih =>
    intro j X F hC hb hq hrows hF h0 hz
    have hr := hr0.sb hb
    refine j_iload hC dX4_join_22 0 rfl ?_
    refine j_bipush hC dX4_join_24 (by decide) ?_
    refine j_icmp_ge (tgt := 108) hC dX4_join_26 (by decide) (by omega) (fun h => absurd h (by omega)) (fun _ => ?_)
    refine j_aload_n hC dX4_join_29 2 rfl ?_
    refine j_iload hC dX4_join_30 1 rfl ?_
    refine x_rald hC hq 5 rfl rfl (if_pos (show p.toNat < 9 by omega)) (by omega) dX4_join_32 ?_
    refine j_iload hC dX4_join_33 0 rfl ?_
    refine j_aload_n hC dX4_join_35 3 rfl ?_
    refine r_joined hC hr wd532 dX4_join_36 ?_
    refine j_iload hC dX4_join_39 1 rfl ?_
    refine r_row hC hr (by omega) dX4_join_41 ?_
    refine j_iload hC dX4_join_42 0 rfl ?_
    refine r_bit hC hr (by omega) (by omega) dX4_join_44 ?_
    suffices K101 : J mc (gx g X) _ _ Q 101 [(5, vI (j)), (4, vI (p)), (3, .ref q), (0, .ref a), (1, vI (b)), (2, vI (c))] [vI ((if (σ.2 0 p = σ.2 0 j ∨ (σ.2 0 p = σ.2 0 b ∧ σ.2 0 c = σ.2 0 j)) ∨ (σ.2 0 p = σ.2 0 c ∧ σ.2 0 b = σ.2 0 j) then 1 else 0)), vI (j), .ref (rr p.toNat)] σ by
      refine j_ifb_ne (tgt := 96) hC dX4_join_45 (by decide) (fun h45 => ?_) (fun h45 => ?_)
      · refine j_iconst hC dX4_join_96 ?_
        refine j_goto (tgt := 101) hC dX4_join_97 (by decide) ?_
        exact (by first | (rw [show ((if (σ.2 0 p = σ.2 0 j ∨ (σ.2 0 p = σ.2 0 b ∧ σ.2 0 c = σ.2 0 j)) ∨ (σ.2 0 p = σ.2 0 c ∧ σ.2 0 b = σ.2 0 j) then 1 else 0) : Int) = 1 from if_pos (by omega)] at K101; exact K101) | (rw [show ((if (σ.2 0 p = σ.2 0 j ∨ (σ.2 0 p = σ.2 0 b ∧ σ.2 0 c = σ.2 0 j)) ∨ (σ.2 0 p = σ.2 0 c ∧ σ.2 0 b = σ.2 0 j) then 1 else 0) : Int) = 1 from if_pos (by omega)] at K101 ⊢; exact K101) | (rw [show ((if (σ.2 0 p = σ.2 0 j ∨ (σ.2 0 p = σ.2 0 b ∧ σ.2 0 c = σ.2 0 j)) ∨ (σ.2 0 p = σ.2 0 c ∧ σ.2 0 b = σ.2 0 j) then 1 else 0) : Int) = 0 from if_neg (by omega)] at K101; exact K101) | (rw [show ((if (σ.2 0 p = σ.2 0 j ∨ (σ.2 0 p = σ.2 0 b ∧ σ.2 0 c = σ.2 0 j)) ∨ (σ.2 0 p = σ.2 0 c ∧ σ.2 0 b = σ.2 0 j) then 1 else 0) : Int) = 0 from if_neg (by omega)] at K101 ⊢; exact K101))
      · refine j_aload_n hC dX4_join_48 3 rfl ?_
        refine r_joined hC hr wd532 dX4_join_49 ?_
        refine j_iload hC dX4_join_52 1 rfl ?_
        refine r_row hC hr (by omega) dX4_join_54 ?_
        refine j_iload_n hC dX4_join_55 4 rfl ?_
        refine r_bit hC hr (by omega) (by omega) dX4_join_56 ?_
        refine j_ifb_eq (tgt := 72) hC dX4_join_57 (by decide) (fun h57 => ?_) (fun h57 => ?_)
        · refine j_aload_n hC dX4_join_72 3 rfl ?_
          refine r_joined hC hr wd532 dX4_join_73 ?_
          refine j_iload hC dX4_join_76 1 rfl ?_
          refine r_row hC hr (by omega) dX4_join_78 ?_
          refine j_iload_n hC dX4_join_79 5 rfl ?_
          refine r_bit hC hr (by omega) (by omega) dX4_join_80 ?_
          refine j_ifb_eq (tgt := 100) hC dX4_join_81 (by decide) (fun h81 => ?_) (fun h81 => ?_)
          · refine j_iconst hC dX4_join_100 ?_
            exact (by first | (rw [show ((if (σ.2 0 p = σ.2 0 j ∨ (σ.2 0 p = σ.2 0 b ∧ σ.2 0 c = σ.2 0 j)) ∨ (σ.2 0 p = σ.2 0 c ∧ σ.2 0 b = σ.2 0 j) then 1 else 0) : Int) = 1 from if_pos (by omega)] at K101; exact K101) | (rw [show ((if (σ.2 0 p = σ.2 0 j ∨ (σ.2 0 p = σ.2 0 b ∧ σ.2 0 c = σ.2 0 j)) ∨ (σ.2 0 p = σ.2 0 c ∧ σ.2 0 b = σ.2 0 j) then 1 else 0) : Int) = 1 from if_pos (by omega)] at K101 ⊢; exact K101) | (rw [show ((if (σ.2 0 p = σ.2 0 j ∨ (σ.2 0 p = σ.2 0 b ∧ σ.2 0 c = σ.2 0 j)) ∨ (σ.2 0 p = σ.2 0 c ∧ σ.2 0 b = σ.2 0 j) then 1 else 0) : Int) = 0 from if_neg (by omega)] at K101; exact K101) | (rw [show ((if (σ.2 0 p = σ.2 0 j ∨ (σ.2 0 p = σ.2 0 b ∧ σ.2 0 c = σ.2 0 j)) ∨ (σ.2 0 p = σ.2 0 c ∧ σ.2 0 b = σ.2 0 j) then 1 else 0) : Int) = 0 from if_neg (by omega)] at K101 ⊢; exact K101))
          · refine j_aload_n hC dX4_join_84 3 rfl ?_
            refine r_joined hC hr wd532 dX4_join_85 ?_
            refine j_iload_n hC dX4_join_88 4 rfl ?_
            refine r_row hC hr (by omega) dX4_join_89 ?_
            refine j_iload hC dX4_join_90 0 rfl ?_
            refine r_bit hC hr (by omega) (by omega) dX4_join_92 ?_
            refine j_ifb_eq (tgt := 100) hC dX4_join_93 (by decide) (fun h93 => ?_) (fun h93 => ?_)
            · refine j_iconst hC dX4_join_100 ?_
              exact (by first | (rw [show ((if (σ.2 0 p = σ.2 0 j ∨ (σ.2 0 p = σ.2 0 b ∧ σ.2 0 c = σ.2 0 j)) ∨ (σ.2 0 p = σ.2 0 c ∧ σ.2 0 b = σ.2 0 j) then 1 else 0) : Int) = 1 from if_pos (by omega)] at K101; exact K101) | (rw [show ((if (σ.2 0 p = σ.2 0 j ∨ (σ.2 0 p = σ.2 0 b ∧ σ.2 0 c = σ.2 0 j)) ∨ (σ.2 0 p = σ.2 0 c ∧ σ.2 0 b = σ.2 0 j) then 1 else 0) : Int) = 1 from if_pos (by omega)] at K101 ⊢; exact K101) | (rw [show ((if (σ.2 0 p = σ.2 0 j ∨ (σ.2 0 p = σ.2 0 b ∧ σ.2 0 c = σ.2 0 j)) ∨ (σ.2 0 p = σ.2 0 c ∧ σ.2 0 b = σ.2 0 j) then 1 else 0) : Int) = 0 from if_neg (by omega)] at K101; exact K101) | (rw [show ((if (σ.2 0 p = σ.2 0 j ∨ (σ.2 0 p = σ.2 0 b ∧ σ.2 0 c = σ.2 0 j)) ∨ (σ.2 0 p = σ.2 0 c ∧ σ.2 0 b = σ.2 0 j) then 1 else 0) : Int) = 0 from if_neg (by omega)] at K101 ⊢; exact K101))
            · refine j_iconst hC dX4_join_96 ?_
              refine j_goto (tgt := 101) hC dX4_join_97 (by decide) ?_
              exact (by first | (rw [show ((if (σ.2 0 p = σ.2 0 j ∨ (σ.2 0 p = σ.2 0 b ∧ σ.2 0 c = σ.2 0 j)) ∨ (σ.2 0 p = σ.2 0 c ∧ σ.2 0 b = σ.2 0 j) then 1 else 0) : Int) = 1 from if_pos (by omega)] at K101; exact K101) | (rw [show ((if (σ.2 0 p = σ.2 0 j ∨ (σ.2 0 p = σ.2 0 b ∧ σ.2 0 c = σ.2 0 j)) ∨ (σ.2 0 p = σ.2 0 c ∧ σ.2 0 b = σ.2 0 j) then 1 else 0) : Int) = 1 from if_pos (by omega)] at K101 ⊢; exact K101) | (rw [show ((if (σ.2 0 p = σ.2 0 j ∨ (σ.2 0 p = σ.2 0 b ∧ σ.2 0 c = σ.2 0 j)) ∨ (σ.2 0 p = σ.2 0 c ∧ σ.2 0 b = σ.2 0 j) then 1 else 0) : Int) = 0 from if_neg (by omega)] at K101; exact K101) | (rw [show ((if (σ.2 0 p = σ.2 0 j ∨ (σ.2 0 p = σ.2 0 b ∧ σ.2 0 c = σ.2 0 j)) ∨ (σ.2 0 p = σ.2 0 c ∧ σ.2 0 b = σ.2 0 j) then 1 else 0) : Int) = 0 from if_neg (by omega)] at K101 ⊢; exact K101))
        · refine j_aload_n hC dX4_join_60 3 rfl ?_
          refine r_joined hC hr wd532 dX4_join_61 ?_
          refine j_iload_n hC dX4_join_64 5 rfl ?_
          refine r_row hC hr (by omega) dX4_join_65 ?_
          refine j_iload hC dX4_join_66 0 rfl ?_
          refine r_bit hC hr (by omega) (by omega) dX4_join_68 ?_
          refine j_ifb_ne (tgt := 96) hC dX4_join_69 (by decide) (fun h69 => ?_) (fun h69 => ?_)
          · refine j_iconst hC dX4_join_96 ?_
            refine j_goto (tgt := 101) hC dX4_join_97 (by decide) ?_
            exact (by first | (rw [show ((if (σ.2 0 p = σ.2 0 j ∨ (σ.2 0 p = σ.2 0 b ∧ σ.2 0 c = σ.2 0 j)) ∨ (σ.2 0 p = σ.2 0 c ∧ σ.2 0 b = σ.2 0 j) then 1 else 0) : Int) = 1 from if_pos (by omega)] at K101; exact K101) | (rw [show ((if (σ.2 0 p = σ.2 0 j ∨ (σ.2 0 p = σ.2 0 b ∧ σ.2 0 c = σ.2 0 j)) ∨ (σ.2 0 p = σ.2 0 c ∧ σ.2 0 b = σ.2 0 j) then 1 else 0) : Int) = 1 from if_pos (by omega)] at K101 ⊢; exact K101) | (rw [show ((if (σ.2 0 p = σ.2 0 j ∨ (σ.2 0 p = σ.2 0 b ∧ σ.2 0 c = σ.2 0 j)) ∨ (σ.2 0 p = σ.2 0 c ∧ σ.2 0 b = σ.2 0 j) then 1 else 0) : Int) = 0 from if_neg (by omega)] at K101; exact K101) | (rw [show ((if (σ.2 0 p = σ.2 0 j ∨ (σ.2 0 p = σ.2 0 b ∧ σ.2 0 c = σ.2 0 j)) ∨ (σ.2 0 p = σ.2 0 c ∧ σ.2 0 b = σ.2 0 j) then 1 else 0) : Int) = 0 from if_neg (by omega)] at K101 ⊢; exact K101))
          · refine j_aload_n hC dX4_join_72 3 rfl ?_
            refine r_joined hC hr wd532 dX4_join_73 ?_
            refine j_iload hC dX4_join_76 1 rfl ?_
            refine r_row hC hr (by omega) dX4_join_78 ?_
            refine j_iload_n hC dX4_join_79 5 rfl ?_
            refine r_bit hC hr (by omega) (by omega) dX4_join_80 ?_
            refine j_ifb_eq (tgt := 100) hC dX4_join_81 (by decide) (fun h81 => ?_) (fun h81 => ?_)
            · refine j_iconst hC dX4_join_100 ?_
              exact (by first | (rw [show ((if (σ.2 0 p = σ.2 0 j ∨ (σ.2 0 p = σ.2 0 b ∧ σ.2 0 c = σ.2 0 j)) ∨ (σ.2 0 p = σ.2 0 c ∧ σ.2 0 b = σ.2 0 j) then 1 else 0) : Int) = 1 from if_pos (by omega)] at K101; exact K101) | (rw [show ((if (σ.2 0 p = σ.2 0 j ∨ (σ.2 0 p = σ.2 0 b ∧ σ.2 0 c = σ.2 0 j)) ∨ (σ.2 0 p = σ.2 0 c ∧ σ.2 0 b = σ.2 0 j) then 1 else 0) : Int) = 1 from if_pos (by omega)] at K101 ⊢; exact K101) | (rw [show ((if (σ.2 0 p = σ.2 0 j ∨ (σ.2 0 p = σ.2 0 b ∧ σ.2 0 c = σ.2 0 j)) ∨ (σ.2 0 p = σ.2 0 c ∧ σ.2 0 b = σ.2 0 j) then 1 else 0) : Int) = 0 from if_neg (by omega)] at K101; exact K101) | (rw [show ((if (σ.2 0 p = σ.2 0 j ∨ (σ.2 0 p = σ.2 0 b ∧ σ.2 0 c = σ.2 0 j)) ∨ (σ.2 0 p = σ.2 0 c ∧ σ.2 0 b = σ.2 0 j) then 1 else 0) : Int) = 0 from if_neg (by omega)] at K101 ⊢; exact K101))
            · refine j_aload_n hC dX4_join_84 3 rfl ?_
              refine r_joined hC hr wd532 dX4_join_85 ?_
              refine j_iload_n hC dX4_join_88 4 rfl ?_
              refine r_row hC hr (by omega) dX4_join_89 ?_
              refine j_iload hC dX4_join_90 0 rfl ?_
              refine r_bit hC hr (by omega) (by omega) dX4_join_92 ?_
              refine j_ifb_eq (tgt := 100) hC dX4_join_93 (by decide) (fun h93 => ?_) (fun h93 => ?_)
              · refine j_iconst hC dX4_join_100 ?_
                exact (by first | (rw [show ((if (σ.2 0 p = σ.2 0 j ∨ (σ.2 0 p = σ.2 0 b ∧ σ.2 0 c = σ.2 0 j)) ∨ (σ.2 0 p = σ.2 0 c ∧ σ.2 0 b = σ.2 0 j) then 1 else 0) : Int) = 1 from if_pos (by omega)] at K101; exact K101) | (rw [show ((if (σ.2 0 p = σ.2 0 j ∨ (σ.2 0 p = σ.2 0 b ∧ σ.2 0 c = σ.2 0 j)) ∨ (σ.2 0 p = σ.2 0 c ∧ σ.2 0 b = σ.2 0 j) then 1 else 0) : Int) = 1 from if_pos (by omega)] at K101 ⊢; exact K101) | (rw [show ((if (σ.2 0 p = σ.2 0 j ∨ (σ.2 0 p = σ.2 0 b ∧ σ.2 0 c = σ.2 0 j)) ∨ (σ.2 0 p = σ.2 0 c ∧ σ.2 0 b = σ.2 0 j) then 1 else 0) : Int) = 0 from if_neg (by omega)] at K101; exact K101) | (rw [show ((if (σ.2 0 p = σ.2 0 j ∨ (σ.2 0 p = σ.2 0 b ∧ σ.2 0 c = σ.2 0 j)) ∨ (σ.2 0 p = σ.2 0 c ∧ σ.2 0 b = σ.2 0 j) then 1 else 0) : Int) = 0 from if_neg (by omega)] at K101 ⊢; exact K101))
              · refine j_iconst hC dX4_join_96 ?_
                refine j_goto (tgt := 101) hC dX4_join_97 (by decide) ?_
                exact (by first | (rw [show ((if (σ.2 0 p = σ.2 0 j ∨ (σ.2 0 p = σ.2 0 b ∧ σ.2 0 c = σ.2 0 j)) ∨ (σ.2 0 p = σ.2 0 c ∧ σ.2 0 b = σ.2 0 j) then 1 else 0) : Int) = 1 from if_pos (by omega)] at K101; exact K101) | (rw [show ((if (σ.2 0 p = σ.2 0 j ∨ (σ.2 0 p = σ.2 0 b ∧ σ.2 0 c = σ.2 0 j)) ∨ (σ.2 0 p = σ.2 0 c ∧ σ.2 0 b = σ.2 0 j) then 1 else 0) : Int) = 1 from if_pos (by omega)] at K101 ⊢; exact K101) | (rw [show ((if (σ.2 0 p = σ.2 0 j ∨ (σ.2 0 p = σ.2 0 b ∧ σ.2 0 c = σ.2 0 j)) ∨ (σ.2 0 p = σ.2 0 c ∧ σ.2 0 b = σ.2 0 j) then 1 else 0) : Int) = 0 from if_neg (by omega)] at K101; exact K101) | (rw [show ((if (σ.2 0 p = σ.2 0 j ∨ (σ.2 0 p = σ.2 0 b ∧ σ.2 0 c = σ.2 0 j)) ∨ (σ.2 0 p = σ.2 0 c ∧ σ.2 0 b = σ.2 0 j) then 1 else 0) : Int) = 0 from if_neg (by omega)] at K101 ⊢; exact K101))
    refine x_zast hC (hrows p.toNat (by omega)) (by split <;> omega) (by omega) dX4_join_101 (fun Y1 hw hC => ?_)
    have hb1 := hb.wr (hfr p.toNat (by omega)) hw
    have hq1 := hw.2 _ hq (fun z => hrq p.toNat (by omega) z.symm)
    refine j_iinc hC dX4_join_102 0 [(5, vI (j + 1)), (4, vI (p)), (3, .ref q), (0, .ref a), (1, vI (b)), (2, vI (c))] rfl (by decide) rfl ?_
    refine j_goto (tgt := 22) hC dX4_join_105 (by decide) ?_
    refine ih (j + 1) Y1 _ hC hb1 hq1 (rows_up hrows inj (by omega) hw) (fun i w i0 w0 w1 h => ?_) (by omega) (by omega)
    by_cases e : i = p.toNat
    · rw [if_pos e]
      show (if w = j then _ else F p.toNat w) = _
      by_cases e2 : w = j
      · rw [if_pos e2, e2, e, show ((p.toNat : Nat) : Int) = p by omega]; rfl
      · rw [if_neg e2, e]; exact hF p.toNat w (by omega) w0 w1 (by omega)
    · rw [if_neg e]; exact hF i w i0 w0 w1 (by omega)
set_option maxHeartbeats 4000000 in
set_option maxRecDepth 100000 in
theorem lp_X4_join_o {mc : MC} {g : GG} {X0 : va_W} {σ : Sg} {Q : State → Prop} {K N : Nat} (hR : mR mc = rmJ 0 0 K N) (k n : Nat) {a : Nat} {r : RR} (hr0 : Rp g X0 a σ r) (hI : IC σ) (b c : Int) (hbc : 0 ≤ b ∧ b < 9 ∧ 0 ≤ c ∧ c < 9) {q : Nat} {rr : Nat → Nat} (hfr : ∀ i, i < 9 → Fr X0 (rr i)) (hfq : Fr X0 q) (inj : ∀ i j : Nat, i < 9 → j < 9 → rr i = rr j → i = j) (hrq : ∀ i, i < 9 → rr i ≠ q) (kx : ∀ (Y : va_W) (F : Nat → Int → Int), Cx mc (gx g Y) cX4_join RX4 6 none → Sb X0 Y → (q, rq (gV g) 9 (fun i => if i < 9 then some (rr i) else none)) ∈ Y → (∀ i, i < 9 → (rr i, zi g (F i) 9) ∈ Y) → (∀ (i : Nat) (w : Int), i < 9 → 0 ≤ w → w < 9 → F i w = jnV (σ.2 0) b c i w) → J mc (gx g Y) k n Q 114 [(3, .ref q), (0, .ref a), (1, vI (b)), (2, vI (c))] [] σ) : ∀ (d : Nat) (p : Int) (X : va_W) (F : Nat → Int → Int), (Cx mc (gx g X) cX4_join RX4 6 none) → (Sb X0 X) → ((q, rq (gV g) 9 (fun i => if i < 9 then some (rr i) else none)) ∈ X) → (∀ i, i < 9 → (rr i, zi g (F i) 9) ∈ X) → (∀ (i : Nat) (w : Int), i < 9 → 0 ≤ w → w < 9 → (i : Int) < p → F i w = jnV (σ.2 0) b c i w) → (0 ≤ p) → (p + (d : Int) = 9) → J mc (gx g X) k n Q 12 [(4, vI (p)), (3, .ref q), (0, .ref a), (1, vI (b)), (2, vI (c))] [] σ := by
  intro d
  induction d with
  | zero =>
    intro p X F hC hb hq hrows hF h0 hz
    refine j_iload hC dX4_join_12 0 rfl ?_
    refine j_bipush hC dX4_join_14 (by decide) ?_
    refine j_icmp_ge (tgt := 114) hC dX4_join_16 (by decide) (by omega) (fun _ => ?_) (fun h => absurd h (by omega))
    refine j_sub [1, 2, 3, 4] rfl ?_
    exact kx X F hC hb hq hrows (fun i w i0 w0 w1 => hF i w i0 w0 w1 (by omega))
  | succ d ih =>
    intro p X F hC hb hq hrows hF h0 hz
    refine j_iload hC dX4_join_12 0 rfl ?_
    refine j_bipush hC dX4_join_14 (by decide) ?_
    refine j_icmp_ge (tgt := 114) hC dX4_join_16 (by decide) (by omega) (fun h => absurd h (by omega)) (fun _ => ?_)
    refine j_iconst hC dX4_join_19 ?_
    refine j_istore hC dX4_join_20 [(5, vI (0)), (4, vI (p)), (3, .ref q), (0, .ref a), (1, vI (b)), (2, vI (c))] (by decide) rfl ?_
    refine lp_X4_join_i hR k n hr0 hI b c hbc hfr hfq inj hrq p (by omega) ?_ 9 0 X F hC hb hq hrows (fun i w i0 w0 w1 h => hF i w i0 w0 w1 (by omega)) (by omega) (by omega)
    intro Y F2 hC hb hq hrows hF2
    refine j_iinc hC dX4_join_108 0 [(4, vI (p + 1)), (3, .ref q), (0, .ref a), (1, vI (b)), (2, vI (c))] rfl (by decide) rfl ?_
    refine j_goto (tgt := 12) hC dX4_join_111 (by decide) ?_
    exact ih (p + 1) Y F2 hC hb hq hrows hF2 (by omega) (by omega)
set_option maxHeartbeats 4000000 in
set_option maxRecDepth 100000 in
theorem c_X4_join {ll : Launch} (hll : ll.stackTraces = false) (g : GG) (X : va_W) (σ : Sg) {a : Nat} {r : RR} (hr0 : Rp g X a σ r) (hI : IC σ) (b c : Int) (hbc : 0 ≤ b ∧ b < 9 ∧ 0 ≤ c ∧ c < 9) : CG ll yX4_join cX4_join 6 none 0 0 10 90 g X [.ref a, vI (b), vI (c)] σ (fun v τ Y => v = none ∧ τ = σ ∧ Kp X a Y ∧ ∃ r2, Rp g Y a (unP σ b c) r2) := by
  refine CG_of (own := RX4) hll (by decide) rfl (Nat.le_of_ble_eq_true rfl) (fun mc hC _ hR => ?_)
  refine j_lv (lv2 := [(0, .ref a), (1, vI (b)), (2, vI (c))]) rfl ?_
  have hu := Un_of hC
  refine j_bipush hC dX4_join_0 (by decide) ?_
  refine j_bipush hC dX4_join_2 (by decide) ?_
  refine x_mna hC hR 9 9 5 1 rfl rfl (hX_T hC).2.2.2.1 (fun _ h => by cases h) rfl rfl (by decide) (by decide) rfl rfl (hrowZ 9) (by omega) wd337 wnS15 dX4_join_4 (fun q rr Y1 hn hC => ?_)
  obtain ⟨hq, hrows, hb, hfq, hfr, inj, hrq⟩ := hn
  refine j_astore_n hC dX4_join_8 [(3, .ref q), (0, .ref a), (1, vI (b)), (2, vI (c))] (by decide) rfl ?_
  refine j_iconst hC dX4_join_9 ?_
  refine j_istore hC dX4_join_10 [(4, vI (0)), (3, .ref q), (0, .ref a), (1, vI (b)), (2, vI (c))] (by decide) rfl ?_
  refine lp_X4_join_o hR _ _ hr0 hI b c hbc hfr hfq inj hrq ?_ 9 0 Y1 (fun _ _ => 0) hC hb hq hrows (fun i w i0 w0 w1 h => by omega) (by omega) (by omega)
  clear hq hrows hb
  intro Y F hC hb hq hrows hF
  refine j_aload_n hC dX4_join_114 1 rfl ?_
  refine j_aload_n hC dX4_join_115 0 rfl ?_
  refine x_put hC (hr0.sb hb).1 1 (by decide) wd532 (Nat.le_of_ble_eq_true rfl) dX4_join_116 (fun Y4 hw hC => ?_)
  have hk4 := Kp.wr hb hw
  have hq4 := hw.2 _ hq (fun z => hfq _ hr0.1 z.symm)
  refine j_widen (k2 := 10) (n2 := 90) (by omega) (by omega) ?_
  refine g_vret hC dX4_join_119 ⟨rfl, rfl, hk4, _, Rp_join (q := q) (rr := rr) hr0 hu hk4 hw.1 ⟨_, hq4, fun j hj => if_pos hj⟩ (fun p hp => ⟨F p, hw.2 _ (hrows p hp) (fun z => hfr p hp _ hr0.1 z.symm), fun j j0 j1 => ?_⟩)⟩
  rw [hF p j hp j0 j1]
  unfold jnV
  by_cases e : (unP σ b c).2 0 p = (unP σ b c).2 0 j
  · rw [if_pos e, if_pos ((un_rel (σ := σ) ⟨hbc.1, hbc.2.1⟩ hbc.2.2 (by omega) ⟨j0, j1⟩).mp e)]
  · rw [if_neg e, if_neg (fun z => e ((un_rel (σ := σ) ⟨hbc.1, hbc.2.1⟩ hbc.2.2 (by omega) ⟨j0, j1⟩).mpr z))]
-- the constructor
set_option maxHeartbeats 4000000 in
set_option maxRecDepth 100000 in
theorem lp_X4_init {mc : MC} {g : GG} {X0 : va_W} {σ : Sg} {K N : Nat} (hR : mR mc = rmJ 1 24 K N) (k n : Nat) (hk9 : k ≤ 11) (hn9 : n ≤ 90) {a qb q : Nat} {rr : Nat → Nat} (haq : ∀ i, i < 9 → rr i ≠ a) (hbq : ∀ i, i < 9 → rr i ≠ qb) (inj : ∀ i j : Nat, i < 9 → j < 9 → rr i = rr j → i = j) (hrq : ∀ i, i < 9 → rr i ≠ q) (hn0 : nLo σ = 0) (hG : ∀ p j : Int, 0 ≤ p → p < 9 → 0 ≤ j → j < 9 → (σ.2 0 p = σ.2 0 j ↔ p = j)) : ∀ (d : Nat) (p : Int) (X : va_W) (F : Nat → Int → Int), (Cx mc (gx g X) cX4_init RX4 2 none) → ((a, (.inr (3, [.ref qb, .ref q]) : va_E)) ∈ X) → ((qb, rq (gU g) 0 (fun _ => none)) ∈ X) → ((q, rq (gV g) 9 (fun i => if i < 9 then some (rr i) else none)) ∈ X) → (∀ i, i < 9 → (rr i, zi g (F i) 9) ∈ X) → (∀ (i : Nat) (w : Int), i < 9 → 0 ≤ w → w < 9 → F i w = if (i : Int) = w ∧ (i : Int) < p then 1 else 0) → (0 ≤ p) → (p + (d : Int) = 9) → J mc (gx g X) k n (QNG mc g (fun v τ Y => v = none ∧ τ = σ ∧ ∃ r2, Rp g Y a σ r2) 11 90) 26 [(1, vI (p)), (0, .ref a)] [] σ := by
  intro d
  induction d with
  | zero =>
    intro p X F hC ha hqb hq hrows hF h0 hz
    refine j_iload_n hC dX4_init_26 0 rfl ?_
    refine j_bipush hC dX4_init_27 (by decide) ?_
    refine j_icmp_ge (tgt := 47) hC dX4_init_29 (by decide) (by omega) (fun _ => ?_) (fun h => absurd h (by omega))
    refine j_widen (k2 := 11) (n2 := 90) hk9 hn9 ?_
    refine g_vret hC dX4_init_47 ⟨rfl, rfl, (qb, q, (fun _ => 0), (fun _ _ => 0), rr), ha, ⟨_, by rw [hn0]; exact hqb, fun j hj => by rw [hn0] at hj; omega⟩, fun l hl => by rw [hn0] at hl; omega, fun l hl => by rw [hn0] at hl; omega, ⟨_, hq, fun j hj => if_pos hj⟩, fun p1 hp1 => ⟨F p1, hrows p1 hp1, fun j j0 j1 => ?_⟩, fun l l2 hl => by rw [hn0] at hl; omega⟩
    rw [hF p1 j hp1 j0 j1]
    have hg := hG p1 j (by omega) (by omega) j0 j1
    by_cases e : (p1 : Int) = j
    · rw [if_pos ⟨e, by omega⟩, if_pos (hg.mpr e)]
    · rw [if_neg (fun z => e z.1), if_neg (fun z => e (hg.mp z))]
  | succ d ih =>
    intro p X F hC ha hqb hq hrows hF h0 hz
    refine j_iload_n hC dX4_init_26 0 rfl ?_
    refine j_bipush hC dX4_init_27 (by decide) ?_
    refine j_icmp_ge (tgt := 47) hC dX4_init_29 (by decide) (by omega) (fun h => absurd h (by omega)) (fun _ => ?_)
    refine j_aload_n hC dX4_init_32 1 rfl ?_
    refine x_get hC ha 1 (by decide) wd532 rfl dX4_init_33 ?_
    refine j_iload_n hC dX4_init_36 0 rfl ?_
    refine x_rald hC hq 5 rfl rfl (if_pos (show p.toNat < 9 by omega)) (by omega) dX4_init_37 ?_
    refine j_iload_n hC dX4_init_38 0 rfl ?_
    refine j_iconst hC dX4_init_39 ?_
    refine x_zast hC (hrows p.toNat (by omega)) (Or.inr rfl) (by omega) dX4_init_40 (fun Y1 hw hC => ?_)
    refine j_iinc hC dX4_init_41 0 [(1, vI (p + 1)), (0, .ref a)] rfl (by decide) rfl ?_
    refine j_goto (tgt := 26) hC dX4_init_44 (by decide) ?_
    refine ih (p + 1) Y1 _ hC (hw.2 _ ha (fun z => haq p.toNat (by omega) z.symm)) (hw.2 _ hqb (fun z => hbq p.toNat (by omega) z.symm)) (hw.2 _ hq (fun z => hrq p.toNat (by omega) z.symm)) (rows_up hrows inj (by omega) hw) (fun i w i0 w0 w1 => ?_) (by omega) (by omega)
    by_cases e : i = p.toNat
    · rw [if_pos e]
      show (if w = p then 1 else F p.toNat w) = _
      by_cases e2 : w = p
      · rw [if_pos e2, if_pos (by omega)]
      · rw [if_neg e2, hF p.toNat w (by omega) w0 w1, if_neg (by omega), if_neg (by omega)]
    · rw [if_neg e, hF i w i0 w0 w1]
      by_cases e2 : (i : Int) = w ∧ (i : Int) < p
      · rw [if_pos e2, if_pos (by omega)]
      · rw [if_neg e2, if_neg (by omega)]
set_option maxHeartbeats 4000000 in
set_option maxRecDepth 100000 in
theorem c_X4_init {ll : Launch} (hll : ll.stackTraces = false) (g : GG) (X : va_W) (σ : Sg) {a : Nat} (ha0 : (a, (.inr (3, [.null, .null]) : va_E)) ∈ X) (hn0 : nLo σ = 0) (hG : ∀ p j : Int, 0 ≤ p → p < 9 → 0 ≤ j → j < 9 → (σ.2 0 p = σ.2 0 j ↔ p = j)) : CG ll yX4_init cX4_init 2 none 1 24 11 90 g X [.ref a] σ (fun v τ Y => v = none ∧ τ = σ ∧ ∃ r2, Rp g Y a σ r2) := by
  refine CGI_of (own := RX4) hll (by decide) rfl (Nat.le_of_ble_eq_true rfl) (fun mc hC hnm _ hR => ?_)
  refine j_lv (lv2 := [(0, .ref a)]) rfl ?_
  refine j_aload_n hC dX4_init_0 0 rfl ?_
  refine x_obj hC hR wd529 (by decide) dX4_init_1 ?_
  refine j_aload_n hC dX4_init_4 0 rfl ?_
  refine j_iconst hC dX4_init_5 ?_
  refine x_newR hC hR 0 4 rfl (hX_T hC).2.2.1 rfl (by omega) (by omega) wnS7 dX4_init_6 (fun qb Y1 hn hC => ?_)
  have hfb := hn.2.2
  have hqb := hn.1
  have hb1 := hn.sb
  refine x_put hC (hb1 _ ha0) 0 (by decide) wd530 (Nat.le_of_ble_eq_true rfl) dX4_init_9 (fun Y2 hw hC => ?_)
  have ha2 := hw.1
  have hqb2 := hw.2 _ hqb (fun z => hfb _ ha0 z.symm)
  refine j_aload_n hC dX4_init_12 0 rfl ?_
  refine j_bipush hC dX4_init_13 (by decide) ?_
  refine j_bipush hC dX4_init_15 (by decide) ?_
  refine x_mna hC hR 9 9 5 1 rfl rfl (hX_T hC).2.2.2.1 (fun _ h => by cases h) rfl rfl (by decide) (by decide) rfl rfl (hrowZ 9) (by omega) wd337 wnS15 dX4_init_17 (fun q rr Y3 hn hC => ?_)
  obtain ⟨hq, hrows, hb, hfq, hfr, inj, hrq⟩ := hn
  refine x_put hC (hb _ ha2) 1 (by decide) wd532 (Nat.le_of_ble_eq_true rfl) dX4_init_21 (fun Y4 hw hC => ?_)
  have ha := hw.1
  have hqb4 := hw.2 _ (hb _ hqb2) (fun z => hfb _ ha0 z.symm)
  have hq4 := hw.2 _ hq (fun z => hfq _ ha2 z.symm)
  have hrows4 := fun (i : Nat) (hi : i < 9) => hw.2 _ (hrows i hi) (fun z => hfr i hi _ ha2 z.symm)
  refine j_iconst hC dX4_init_24 ?_
  refine j_istore_n hC dX4_init_25 [(1, vI (0)), (0, .ref a)] (by decide) rfl ?_
  refine lp_X4_init (X0 := X) hR _ _ (by omega) (by omega) (fun i hi z => hfr i hi _ ha2 z.symm) (fun i hi z => hfr i hi _ hqb2 z.symm) inj hrq hn0 hG 9 0 Y4 (fun _ _ => 0) hC ha hqb4 hq4 hrows4 (fun i w i0 w0 w1 => by rw [if_neg (by omega)]) (by omega) (by omega)
