theorem pO_rg (c : Int → Int → Bool) : ∀ (d : Nat) (z a : Int), d ≤ 16 → a ≤ pO c d z a ∧ pO c d z a ≤ a + 16 * d := by
  intro d
  induction d with
  | zero => intro z a _; exact ⟨Int.le_refl _, by simp [pO]⟩
  | succ d ih =>
    intro z a h
    unfold pO
    have h1 := cnt_rg (c z) d (z + 1) a
    have h2 := ih (z + 1) (cnt (c z) d (z + 1) a) (by omega)
    omega
theorem pOB_rg (c : Int → Int → Bool) {σ : Sg} (hI : IC σ) {b : Nat} (hb : b < 5) : 0 ≤ pO c (cN σ b) 0 0 ∧ pO c (cN σ b) 0 0 ≤ 256 := by
  have h1 := cN_eq hI hb
  have h2 := hI.2.2.2.1 b hb
  have h3 := pO_rg c (cN σ b) 0 0 (by omega)
  omega
theorem faB_rg {σ : Sg} (hI : IC σ) {b : Nat} (hb : b < 5) : 0 ≤ faB σ b ∧ faB σ b ≤ 100 := by
  have h1 := cN_eq hI hb
  have h2 := hI.2.2.2.1 b hb
  unfold faB
  split
  · omega
  · refine nbF_rg _ (-1) (cN σ b) 0 100 (fun y h3 h4 => ?_) (by omega) (by omega)
    exact nbB_rg hI hb y (hI.2.2.2.2.1 b hb y h3 (by omega))
theorem snB_rg {σ : Sg} (hI : IC σ) {b : Nat} (hb : b < 5) : -1 ≤ snB σ b ∧ snB σ b ≤ 16 := by
  have h1 := cN_eq hI hb
  have h2 := hI.2.2.2.1 b hb
  exact amF_rg _ (cN σ b) 0 (-1) (-1) (by omega) (by omega) (by omega) (by omega)
def msF (σ : Sg) : Nat → Int → Int → Int
  | 0, _, a => a
  | d + 1, z, a => msF σ d (z + 1) (a + σ.1 (2 + z.toNat))
def msB (σ : Sg) : UInt64 := if σ.1 0 = 0 then 0 else FP.ddiv (FP.i2d (iI (msF σ (σ.1 0).toNat 0 0))) (FP.i2d (iI (σ.1 0)))
theorem msF_rg {σ : Sg} (hI : IC σ) : ∀ (d : Nat) (z a : Int), 0 ≤ z → z + d ≤ 4 → a ≤ msF σ d z a ∧ msF σ d z a ≤ a + 16 * d := by
  intro d
  induction d with
  | zero => intro z a _ _; exact ⟨Int.le_refl _, by simp [msF]⟩
  | succ d ih =>
    intro z a h0 h
    have h1 := hI.2.2.2.1 z.toNat (by omega)
    have h2 := ih (z + 1) (a + σ.1 (2 + z.toNat)) (by omega) (by omega)
    unfold msF
    omega
theorem dv_a : ∀ x : Fin 65, ∀ y : Fin 5, y.1 = 0 ∨ (FP.ddiv (FP.i2d (Int32.ofNat x.1)) (FP.i2d (Int32.ofNat y.1))) &&& 0x7fffffffffffffff ≤ 0x7ff0000000000000 := by decide +kernel
theorem dv_ok {x y : Int} (hx : 0 ≤ x ∧ x ≤ 64) (hy : 0 < y ∧ y ≤ 4) : vf_n64 (FP.ddiv (FP.i2d (iI x)) (FP.i2d (iI y))) := by
  obtain ⟨x, rfl⟩ := Int.eq_ofNat_of_zero_le hx.1
  obtain ⟨y, rfl⟩ := Int.eq_ofNat_of_zero_le (show 0 ≤ y by omega)
  rcases dv_a ⟨x, by omega⟩ ⟨y, by omega⟩ with h | h
  · have : y = 0 := h
    omega
  · rw [iI_nat, iI_nat]
    exact h
