/-- the row a becomes f -/
def sR (σ : Sg) (a : Nat) (f : Int → Int) : Sg := (σ.1, fun c => if c = a then f else σ.2 c)
def cpy16 (f h : Int → Int) : Int → Int := fun j => if 0 ≤ j ∧ j < 16 then f j else h j
def cpy9 (f h : Int → Int) : Int → Int := fun j => if 0 ≤ j ∧ j < 9 then f j else h j
theorem hsR_lk (g : GG) (σ : Sg) {b : Nat} (hb : b < 5) (f : Int → Int) : (hw g σ).set (9 + b) (gd g (9 + b), ri g f 16) = hw g (sR σ (1 + b) f) := by
  rcases (show b = 0 ∨ b = 1 ∨ b = 2 ∨ b = 3 ∨ b = 4 by omega) with rfl | rfl | rfl | rfl | rfl <;> rfl
theorem hsR_mn (g : GG) (σ : Sg) {b : Nat} (hb : b < 5) (f : Int → Int) : (hw g σ).set (14 + b) (gd g (14 + b), ri g f 16) = hw g (sR σ (6 + b) f) := by
  rcases (show b = 0 ∨ b = 1 ∨ b = 2 ∨ b = 3 ∨ b = 4 by omega) with rfl | rfl | rfl | rfl | rfl <;> rfl
/-! what writes -/
def apB (σ : Sg) (b : Nat) (L m : Int) : Sg := sF (sG (sG σ (1 + b) (σ.1 (2 + b)) L) (6 + b) (σ.1 (2 + b)) m) (2 + b) (σ.1 (2 + b) + 1)
def rmS (b : Nat) (z : Int) (τ : Sg) : Sg := sG (sG τ (1 + b) (z - 1) (τ.2 (1 + b) z)) (6 + b) (z - 1) ((sG τ (1 + b) (z - 1) (τ.2 (1 + b) z)).2 (6 + b) z)
def rmF (b : Nat) : Nat → Int → Sg → Sg
  | 0, _, τ => τ
  | d + 1, z, τ => rmF b d (z + 1) (rmS b z τ)
def rmB (σ : Sg) (b : Nat) (s : Int) : Sg := sF (rmF b (cN σ b - s.toNat - 1) (s + 1) σ) (2 + b) (σ.1 (2 + b) - 1)
def cpB (σ : Sg) (b e : Nat) : Sg := sF (sR (sR σ (1 + b) (fun j => if 0 ≤ j ∧ j < (16 : Nat) then σ.2 (1 + e) j else σ.2 (1 + b) j)) (6 + b) (fun j => if 0 ≤ j ∧ j < (16 : Nat) then (sR σ (1 + b) (fun j => if 0 ≤ j ∧ j < (16 : Nat) then σ.2 (1 + e) j else σ.2 (1 + b) j)).2 (6 + e) j else (sR σ (1 + b) (fun j => if 0 ≤ j ∧ j < (16 : Nat) then σ.2 (1 + e) j else σ.2 (1 + b) j)).2 (6 + b) j)) (2 + b) (σ.1 (2 + e))
def unF (x y : Int) : Nat → Int → Sg → Sg
  | 0, _, τ => τ
  | d + 1, z, τ => unF x y d (z + 1) (if τ.2 0 z = y then sG τ 0 z x else τ)
def unP (σ : Sg) (a b : Int) : Sg := if σ.2 0 a = σ.2 0 b then σ else sF (unF (σ.2 0 a) (σ.2 0 b) 9 0 σ) 1 (σ.1 1 - 1)
theorem rmF_1 (b : Nat) : ∀ (d : Nat) (z : Int) (τ : Sg), (rmF b d z τ).1 = τ.1 := by
  intro d
  induction d with
  | zero => intro z τ; rfl
  | succ d ih => intro z τ; exact (ih (z + 1) (rmS b z τ)).trans rfl
theorem unF_1 (x y : Int) : ∀ (d : Nat) (z : Int) (τ : Sg), (unF x y d z τ).1 = τ.1 := by
  intro d
  induction d with
  | zero => intro z τ; rfl
  | succ d ih =>
    intro z τ
    refine (ih (z + 1) _).trans ?_
    split <;> rfl
theorem unF_rg (x y : Int) (hx : 0 ≤ x ∧ x < 9) : ∀ (d : Nat) (z : Int) (τ : Sg), (∀ j : Int, 0 ≤ j → j < 9 → 0 ≤ τ.2 0 j ∧ τ.2 0 j < 9) → ∀ j : Int, 0 ≤ j → j < 9 → 0 ≤ (unF x y d z τ).2 0 j ∧ (unF x y d z τ).2 0 j < 9 := by
  intro d
  induction d with
  | zero => intro z τ h; exact h
  | succ d ih =>
    intro z τ h
    refine ih (z + 1) _ (fun j h0 h1 => ?_)
    split
    · show 0 ≤ (if j = z then x else τ.2 0 j) ∧ (if j = z then x else τ.2 0 j) < 9
      split
      · exact hx
      · exact h j h0 h1
    · exact h j h0 h1
set_option maxHeartbeats 4000000 in
set_option maxRecDepth 100000 in
theorem c_X0_append {l : Launch} (hl : l.stackTraces = false) (g : GG) (σ : Sg) {b : Nat} (hb : b < 5) (x m : Int) (hn : 0 ≤ σ.1 (2 + b) ∧ σ.1 (2 + b) < 16) : CN l yX0_append cX0_append 4 (some .int) 0 0 0 0 g [.ref (gd g (4 + b)), vI (x), vI (m)] σ (pt (some (vI (σ.1 (2 + b)))) (apB σ b x m)) := by
  refine CN_of (own := RX0) hl (by decide) rfl (Nat.le_of_ble_eq_true rfl) (fun mc hC _ hR => ?_)
  refine j_lv (lv2 := [(0, .ref (gd g (4 + b))), (1, vI (x)), (2, vI (m))]) rfl ?_
  refine j_aload_n hC dX0_append_0 0 rfl ?_
  refine j_get hC inX0 rfl (4 + b) (hw_bk g _ hb) 3 (by decide) wd49 rfl dX0_append_1 ?_
  refine j_istore_n hC dX0_append_4 [(3, vI ((σ).1 (2 + b))), (0, .ref (gd g (4 + b))), (1, vI (x)), (2, vI (m))] (by decide) rfl ?_
  refine j_iload_n hC dX0_append_5 0 rfl ?_
  refine j_bipush hC dX0_append_6 (by decide) ?_
  refine j_icmp_lt (tgt := 13) hC dX0_append_8 (by decide) (by omega) (fun _ => ?_) (fun h => absurd h (by omega))
  refine j_aload_n hC dX0_append_13 1 rfl ?_
  refine j_get hC inX0 rfl (4 + b) (hw_bk g _ hb) 1 (by decide) wd45 rfl dX0_append_14 ?_
  refine j_iload_n hC dX0_append_17 0 rfl ?_
  refine j_iload_n hC dX0_append_18 2 rfl ?_
  refine j_iast (τ := sG (σ) (1 + b) ((σ).1 (2 + b)) (x)) hC (9 + b) (hw_lk g _ hb) (hs_lk g _ hb _ _) (by omega) dX0_append_19 ?_
  refine j_aload_n hC dX0_append_20 1 rfl ?_
  refine j_get hC inX0 rfl (4 + b) (hw_bk g _ hb) 2 (by decide) wd47 rfl dX0_append_21 ?_
  refine j_iload_n hC dX0_append_24 0 rfl ?_
  refine j_iload_n hC dX0_append_25 3 rfl ?_
  refine j_iast (τ := sG (sG (σ) (1 + b) ((σ).1 (2 + b)) (x)) (6 + b) ((σ).1 (2 + b)) (m)) hC (14 + b) (hw_mn g _ hb) (hs_mn g _ hb _ _) (by omega) dX0_append_26 ?_
  refine j_aload_n hC dX0_append_27 1 rfl ?_
  refine j_dup hC dX0_append_28 rfl ?_
  refine j_get hC inX0 rfl (4 + b) (hw_bk g _ hb) 3 (by decide) wd49 rfl dX0_append_29 ?_
  refine j_iconst hC dX0_append_32 ?_
  refine j_iadd hC dX0_append_33 ?_
  refine j_put (τ := sF (sG (sG (σ) (1 + b) ((σ).1 (2 + b)) (x)) (6 + b) ((σ).1 (2 + b)) (m)) (2 + b) (((sG (sG (σ) (1 + b) ((σ).1 (2 + b)) (x)) (6 + b) ((σ).1 (2 + b)) (m)).1 (2 + b)) + 1)) hC inX0 tyX0_ok nmX0 rfl (4 + b) (hw_bk g _ hb) 3 (by decide) wd49 rfl rfl (Nat.le_of_ble_eq_true rfl) (hs_cnt g _ hb _) dX0_append_34 ?_
  refine j_iload_n hC dX0_append_37 0 rfl ?_
  exact j_iret hC dX0_append_38 ⟨rfl, rfl⟩
set_option maxHeartbeats 4000000 in
set_option maxRecDepth 100000 in
theorem lp_remove {mc : MC} {g : GG} (hC : Cx mc g cX0_remove RX0 4 (some .int)) (hR : mR mc = rmJ 0 0 0 0) {b : Nat} (hb : b < 5) (s m : Int) : ∀ (d : Nat) (τ : Sg) (z : Int), (1 ≤ z) → (z + (d : Int) = τ.1 (2 + b)) → (τ.1 (2 + b) ≤ 16) → J mc g 0 0 (QN mc g (pt (some (vI m)) (sF (rmF b d z τ) (2 + b) (τ.1 (2 + b) - 1))) 0 0) 11 [(3, vI (z)), (2, vI (m)), (0, .ref (gd g (4 + b))), (1, vI (s))] [] τ := by
  intro d
  induction d with
  | zero =>
    intro τ z h0 hz hn
    refine j_iload_n hC dX0_remove_11 0 rfl ?_
    refine j_aload_n hC dX0_remove_12 2 rfl ?_
    refine j_get hC inX0 rfl (4 + b) (hw_bk g _ hb) 3 (by decide) wd49 rfl dX0_remove_13 ?_
    refine j_icmp_ge (tgt := 53) hC dX0_remove_16 (by decide) (by omega) (fun _ => ?_) (fun h => absurd h (by omega))
    refine j_aload_n hC dX0_remove_53 2 rfl ?_
    refine j_dup hC dX0_remove_54 rfl ?_
    refine j_get hC inX0 rfl (4 + b) (hw_bk g _ hb) 3 (by decide) wd49 rfl dX0_remove_55 ?_
    refine j_iconst hC dX0_remove_58 ?_
    refine j_isub hC dX0_remove_59 ?_
    refine j_put (τ := sF (τ) (2 + b) (((τ).1 (2 + b)) - 1)) hC inX0 tyX0_ok nmX0 rfl (4 + b) (hw_bk g _ hb) 3 (by decide) wd49 rfl rfl (Nat.le_of_ble_eq_true rfl) (hs_cnt g _ hb _) dX0_remove_60 ?_
    refine j_iload_n hC dX0_remove_63 1 rfl ?_
    exact j_iret hC dX0_remove_64 ⟨rfl, rfl⟩
  | succ d ih =>
    intro τ z h0 hz hn
    rw [show rmF b (d + 1) z τ = rmF b d (z + 1) (rmS b z τ) from rfl]
    refine j_iload_n hC dX0_remove_11 0 rfl ?_
    refine j_aload_n hC dX0_remove_12 2 rfl ?_
    refine j_get hC inX0 rfl (4 + b) (hw_bk g _ hb) 3 (by decide) wd49 rfl dX0_remove_13 ?_
    refine j_icmp_ge (tgt := 53) hC dX0_remove_16 (by decide) (by omega) (fun h => absurd h (by omega)) (fun _ => ?_)
    refine j_aload_n hC dX0_remove_19 2 rfl ?_
    refine j_get hC inX0 rfl (4 + b) (hw_bk g _ hb) 1 (by decide) wd45 rfl dX0_remove_20 ?_
    refine j_iload_n hC dX0_remove_23 0 rfl ?_
    refine j_iconst hC dX0_remove_24 ?_
    refine j_isub hC dX0_remove_25 ?_
    refine j_aload_n hC dX0_remove_26 2 rfl ?_
    refine j_get hC inX0 rfl (4 + b) (hw_bk g _ hb) 1 (by decide) wd45 rfl dX0_remove_27 ?_
    refine j_iload_n hC dX0_remove_30 0 rfl ?_
    refine j_iald hC (9 + b) (hw_lk g _ hb) (by omega) dX0_remove_31 ?_
    refine j_iast (τ := sG (τ) (1 + b) (z - 1) ((τ).2 (1 + b) z)) hC (9 + b) (hw_lk g _ hb) (hs_lk g _ hb _ _) (by omega) dX0_remove_32 ?_
    refine j_aload_n hC dX0_remove_33 2 rfl ?_
    refine j_get hC inX0 rfl (4 + b) (hw_bk g _ hb) 2 (by decide) wd47 rfl dX0_remove_34 ?_
    refine j_iload_n hC dX0_remove_37 0 rfl ?_
    refine j_iconst hC dX0_remove_38 ?_
    refine j_isub hC dX0_remove_39 ?_
    refine j_aload_n hC dX0_remove_40 2 rfl ?_
    refine j_get hC inX0 rfl (4 + b) (hw_bk g _ hb) 2 (by decide) wd47 rfl dX0_remove_41 ?_
    refine j_iload_n hC dX0_remove_44 0 rfl ?_
    refine j_iald hC (14 + b) (hw_mn g _ hb) (by omega) dX0_remove_45 ?_
    refine j_iast (τ := sG (sG (τ) (1 + b) (z - 1) ((τ).2 (1 + b) z)) (6 + b) (z - 1) ((sG (τ) (1 + b) (z - 1) ((τ).2 (1 + b) z)).2 (6 + b) z)) hC (14 + b) (hw_mn g _ hb) (hs_mn g _ hb _ _) (by omega) dX0_remove_46 ?_
    refine j_iinc hC dX0_remove_47 0 [(3, vI (z + 1)), (2, vI (m)), (0, .ref (gd g (4 + b))), (1, vI (s))] rfl (by decide) rfl ?_
    refine j_goto (tgt := 11) hC dX0_remove_50 (by decide) ?_
    refine j_sub [0, 1, 2, 3] rfl ?_
    exact ih (rmS b z τ) (z + 1) (by omega) (by show z + 1 + (d : Int) = τ.1 (2 + b); omega) hn
set_option maxHeartbeats 4000000 in
set_option maxRecDepth 100000 in
theorem c_X0_remove {l : Launch} (hl : l.stackTraces = false) (g : GG) (σ : Sg) (hI : IC σ) {b : Nat} (hb : b < 5) (s : Int) (hs : 0 ≤ s ∧ s < σ.1 (2 + b)) : CN l yX0_remove cX0_remove 4 (some .int) 0 0 0 0 g [.ref (gd g (4 + b)), vI (s)] σ (pt (some (vI (σ.2 (6 + b) s))) (rmB σ b s)) := by
  refine CN_of (own := RX0) hl (by decide) rfl (Nat.le_of_ble_eq_true rfl) (fun mc hC _ hR => ?_)
  refine j_lv (lv2 := [(0, .ref (gd g (4 + b))), (1, vI (s))]) rfl ?_
  have hn := hI.2.2.2.1 b hb
  have hn2 := cN_eq hI hb
  refine j_aload_n hC dX0_remove_0 0 rfl ?_
  refine j_get hC inX0 rfl (4 + b) (hw_bk g _ hb) 2 (by decide) wd47 rfl dX0_remove_1 ?_
  refine j_iload_n hC dX0_remove_4 1 rfl ?_
  refine j_iald hC (14 + b) (hw_mn g _ hb) (by omega) dX0_remove_5 ?_
  refine j_istore_n hC dX0_remove_6 [(2, vI ((σ).2 (6 + b) s)), (0, .ref (gd g (4 + b))), (1, vI (s))] (by decide) rfl ?_
  refine j_iload_n hC dX0_remove_7 2 rfl ?_
  refine j_iconst hC dX0_remove_8 ?_
  refine j_iadd hC dX0_remove_9 ?_
  refine j_istore_n hC dX0_remove_10 [(3, vI (s + 1)), (2, vI ((σ).2 (6 + b) s)), (0, .ref (gd g (4 + b))), (1, vI (s))] (by decide) rfl ?_
  refine j_sub [0, 1, 2, 3] rfl ?_
  exact lp_remove hC hR hb s _ (cN σ b - s.toNat - 1) σ (s + 1) (by omega) (by omega) hn.2
set_option maxHeartbeats 4000000 in
set_option maxRecDepth 100000 in
theorem lp_unite {mc : MC} {g : GG} (hC : Cx mc g cX2_unite RX2 6 none) (hR : mR mc = rmJ 0 0 0 0) (a b x y : Int) (hxy : 0 ≤ x ∧ x < 9 ∧ 0 ≤ y ∧ y < 9) : ∀ (d : Nat) (τ : Sg) (z : Int), (0 ≤ z) → (z + (d : Int) = 9) → (∀ j : Int, 0 ≤ j → j < 9 → 0 ≤ τ.2 0 j ∧ τ.2 0 j < 9) → J mc g 0 0 (QN mc g (pt none (sF (unF x y d z τ) 1 (τ.1 1 - 1))) 0 0) 25 [(5, vI (z)), (3, vI (x)), (4, vI (y)), (0, .ref (gd g (1))), (1, vI (a)), (2, vI (b))] [] τ := by
  intro d
  induction d with
  | zero =>
    intro τ z h0 hz hg
    refine j_iload hC dX2_unite_25 0 rfl ?_
    refine j_bipush hC dX2_unite_27 (by decide) ?_
    refine j_icmp_ge (tgt := 58) hC dX2_unite_29 (by decide) (by omega) (fun _ => ?_) (fun h => absurd h (by omega))
    refine j_aload_n hC dX2_unite_58 3 rfl ?_
    refine j_dup hC dX2_unite_59 rfl ?_
    refine j_get hC inX2 rfl 1 rfl 1 (by decide) wd29 rfl dX2_unite_60 ?_
    refine j_iconst hC dX2_unite_63 ?_
    refine j_isub hC dX2_unite_64 ?_
    refine j_put (τ := sF (τ) 1 (((τ).1 1) - 1)) hC inX2 tyX2_ok nmX2 rfl 1 rfl 1 (by decide) wd29 rfl rfl (Nat.le_of_ble_eq_true rfl) rfl dX2_unite_65 ?_
    exact j_vret hC dX2_unite_68 ⟨rfl, rfl⟩
  | succ d ih =>
    intro τ z h0 hz hg
    have hgz := hg z (by omega) (by omega)
    rw [show unF x y (d + 1) z τ = unF x y d (z + 1) (if τ.2 0 z = y then sG τ 0 z x else τ) from rfl]
    refine j_iload hC dX2_unite_25 0 rfl ?_
    refine j_bipush hC dX2_unite_27 (by decide) ?_
    refine j_icmp_ge (tgt := 58) hC dX2_unite_29 (by decide) (by omega) (fun h => absurd h (by omega)) (fun _ => ?_)
    refine j_aload_n hC dX2_unite_32 3 rfl ?_
    refine j_get hC inX2 rfl 1 rfl 0 (by decide) wd28 rfl dX2_unite_33 ?_
    refine j_iload hC dX2_unite_36 0 rfl ?_
    refine j_iald hC 2 rfl (by omega) dX2_unite_38 ?_
    refine j_iload hC dX2_unite_39 2 rfl ?_
    refine j_icmp_ne (tgt := 52) hC dX2_unite_41 (by decide) (by omega) (fun h41 => ?_) (fun h41 => ?_)
    · refine j_iinc hC dX2_unite_52 0 [(5, vI (z + 1)), (3, vI (x)), (4, vI (y)), (0, .ref (gd g (1))), (1, vI (a)), (2, vI (b))] rfl (by decide) rfl ?_
      refine j_goto (tgt := 25) hC dX2_unite_55 (by decide) ?_
      refine j_sub [0, 1, 2, 3, 4, 5] rfl ?_
      first | (rw [if_pos h41]; exact ih (sG τ 0 z x) (z + 1) (by omega) (by omega) (fun j q0 q1 => by show 0 ≤ (if j = z then x else τ.2 0 j) ∧ (if j = z then x else τ.2 0 j) < 9; split; exact ⟨hxy.1, hxy.2.1⟩; exact hg j q0 q1)) | (rw [if_neg h41]; exact ih τ (z + 1) (by omega) (by omega) hg)
    · refine j_aload_n hC dX2_unite_44 3 rfl ?_
      refine j_get hC inX2 rfl 1 rfl 0 (by decide) wd28 rfl dX2_unite_45 ?_
      refine j_iload hC dX2_unite_48 0 rfl ?_
      refine j_iload_n hC dX2_unite_50 1 rfl ?_
      refine j_iast (τ := sG (τ) 0 (z) (x)) hC 2 rfl rfl (by omega) dX2_unite_51 ?_
      refine j_iinc hC dX2_unite_52 0 [(5, vI (z + 1)), (3, vI (x)), (4, vI (y)), (0, .ref (gd g (1))), (1, vI (a)), (2, vI (b))] rfl (by decide) rfl ?_
      refine j_goto (tgt := 25) hC dX2_unite_55 (by decide) ?_
      refine j_sub [0, 1, 2, 3, 4, 5] rfl ?_
      first | (rw [if_pos h41]; exact ih (sG τ 0 z x) (z + 1) (by omega) (by omega) (fun j q0 q1 => by show 0 ≤ (if j = z then x else τ.2 0 j) ∧ (if j = z then x else τ.2 0 j) < 9; split; exact ⟨hxy.1, hxy.2.1⟩; exact hg j q0 q1)) | (rw [if_neg h41]; exact ih τ (z + 1) (by omega) (by omega) hg)
set_option maxHeartbeats 4000000 in
set_option maxRecDepth 100000 in
theorem c_X2_unite {l : Launch} (hl : l.stackTraces = false) (g : GG) (σ : Sg) (hI : IC σ) (a b : Int) (hx : 0 ≤ a ∧ a < 9 ∧ 0 ≤ b ∧ b < 9) : CN l yX2_unite cX2_unite 6 none 0 0 0 0 g [.ref (gd g (1)), vI (a), vI (b)] σ (pt none (unP σ a b)) := by
  refine CN_of (own := RX2) hl (by decide) rfl (Nat.le_of_ble_eq_true rfl) (fun mc hC _ hR => ?_)
  refine j_lv (lv2 := [(0, .ref (gd g (1))), (1, vI (a)), (2, vI (b))]) rfl ?_
  have hg1 := hI.2.2.1 a (by omega) (by omega)
  have hg2 := hI.2.2.1 b (by omega) (by omega)
  refine j_aload_n hC dX2_unite_0 0 rfl ?_
  refine j_get hC inX2 rfl 1 rfl 0 (by decide) wd28 rfl dX2_unite_1 ?_
  refine j_iload_n hC dX2_unite_4 1 rfl ?_
  refine j_iald hC 2 rfl (by omega) dX2_unite_5 ?_
  refine j_istore_n hC dX2_unite_6 [(3, vI ((σ).2 0 a)), (0, .ref (gd g (1))), (1, vI (a)), (2, vI (b))] (by decide) rfl ?_
  refine j_aload_n hC dX2_unite_7 1 rfl ?_
  refine j_get hC inX2 rfl 1 rfl 0 (by decide) wd28 rfl dX2_unite_8 ?_
  refine j_iload_n hC dX2_unite_11 3 rfl ?_
  refine j_iald hC 2 rfl (by omega) dX2_unite_12 ?_
  refine j_istore hC dX2_unite_13 [(4, vI ((σ).2 0 b)), (3, vI ((σ).2 0 a)), (0, .ref (gd g (1))), (1, vI (a)), (2, vI (b))] (by decide) rfl ?_
  refine j_iload_n hC dX2_unite_15 1 rfl ?_
  refine j_iload hC dX2_unite_16 0 rfl ?_
  refine j_icmp_ne (tgt := 22) hC dX2_unite_18 (by decide) (by omega) (fun h18 => ?_) (fun h18 => ?_)
  · refine j_iconst hC dX2_unite_22 ?_
    refine j_istore hC dX2_unite_23 [(5, vI (0)), (4, vI ((σ).2 0 b)), (3, vI ((σ).2 0 a)), (0, .ref (gd g (1))), (1, vI (a)), (2, vI (b))] (by decide) rfl ?_
    refine j_sub [0, 2, 1, 3, 4, 5] rfl ?_
    rw [show unP σ a b = sF (unF (σ.2 0 a) (σ.2 0 b) 9 0 σ) 1 (σ.1 1 - 1) from if_neg h18]
    exact lp_unite hC hR a b _ _ (by omega) 9 σ 0 (by omega) (by omega) hI.2.2.1
  · exact j_vret hC dX2_unite_21 ⟨rfl, by unfold unP; rw [if_pos h18]⟩
