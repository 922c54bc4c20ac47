/-! what the class computes, in whole numbers -/
def ab (x : Int) : Int := if 0 ≤ x then x else -x
def stp (G : Int → Int) (a b : Int) : Int := if G a = G b then 0 else ab (a / 3 - b / 3) + ab (a % 3 - b % 3)
abbrev alk (G : Int → Int) (x y : Int) : Prop := x % 256 = y % 256 ∧ G (x / 256) = G (y / 256)
def xr (a b : Int) : Int := ((a.toNat ^^^ b.toNat : Nat) : Int)
def pop4 (r : Int) : Int := r % 2 + r / 2 % 2 + r / 4 % 2 + r / 8 % 2
def dst (G : Int → Int) (x y : Int) : Int := pop4 (xr (x % 16) (y % 16)) + (if x / 16 % 4 = y / 16 % 4 then 0 else 1) + (if x / 64 % 4 = y / 64 % 4 then 0 else 2) + stp G (x / 256) (y / 256)
def wth (L t : Int) : Int := L - 16 * (L / 16 % 4) + 16 * t
def mkL (sh th pl mv : Int) : Int := sh + 16 * th + 64 * mv + 256 * pl
theorem and_iI (k : Nat) {a m : Int} (h0 : 0 ≤ a) (h1 : a < 2147483648) (hm : (iI m).toBitVec.toNat = 2 ^ k - 1) : iI a &&& iI m = iI (a % (2 ^ k : Nat)) := by
  obtain ⟨a, rfl⟩ := Int.eq_ofNat_of_zero_le h0
  have h := pk_andN (n := a) (by omega) (m := iI m) k hm
  rw [iI_nat]
  exact h.trans (iI_nat (a % 2 ^ k)).symm
theorem shr_iI (k : Nat) {a s : Int} (h0 : 0 ≤ a) (h1 : a < 2147483648) (hs : ((iI s &&& 31).toBitVec.smod 32).toNat = k) : iI a >>> (iI s &&& 31) = iI (a / (2 ^ k : Nat)) := by
  obtain ⟨a, rfl⟩ := Int.eq_ofNat_of_zero_le h0
  have h := pk_shrN (n := a) (by omega) (iI s &&& 31) k hs
  rw [iI_nat]
  exact h.trans (iI_nat (a / 2 ^ k)).symm
theorem shl_iI (k : Nat) {a s : Int} (h0 : 0 ≤ a) (h1 : a * (2 ^ k : Nat) < 2147483648) (hs : ((iI s &&& 31).toBitVec.smod 32).toNat = k) : iI a <<< (iI s &&& 31) = iI (a * (2 ^ k : Nat)) := by
  obtain ⟨a, rfl⟩ := Int.eq_ofNat_of_zero_le h0
  have h := pk_shlN (n := a) (iI s &&& 31) k hs (by omega)
  rw [iI_nat]
  exact h.trans (iI_nat (a * 2 ^ k)).symm
theorem or16_a : ∀ x : Fin 16, ∀ y : Fin 4, Int32.ofNat x.1 ||| Int32.ofNat (y.1 * 16) = Int32.ofNat (x.1 + y.1 * 16) := by decide +kernel
theorem or64_a : ∀ x : Fin 64, ∀ y : Fin 4, Int32.ofNat x.1 ||| Int32.ofNat (y.1 * 64) = Int32.ofNat (x.1 + y.1 * 64) := by decide +kernel
theorem or256_a : ∀ x : Fin 256, ∀ y : Fin 9, Int32.ofNat x.1 ||| Int32.ofNat (y.1 * 256) = Int32.ofNat (x.1 + y.1 * 256) := by decide +kernel
theorem and49_a : ∀ x : Fin 2304, Int32.ofNat x.1 &&& iI (-49) = Int32.ofNat (x.1 - 16 * (x.1 / 16 % 4)) := by decide +kernel
theorem orT_a : ∀ x : Fin 2304, ∀ y : Fin 4, Int32.ofNat (x.1 - 16 * (x.1 / 16 % 4)) ||| Int32.ofNat (y.1 * 16) = Int32.ofNat (x.1 - 16 * (x.1 / 16 % 4) + y.1 * 16) := by decide +kernel
theorem and3841_a : ∀ x : Fin 2304, Int32.ofNat x.1 &&& iI (-3841) = Int32.ofNat (x.1 % 256) := by decide +kernel
theorem xr_a : ∀ x : Fin 16, ∀ y : Fin 16, Int32.ofNat x.1 ^^^ Int32.ofNat y.1 = Int32.ofNat (x.1 ^^^ y.1) := by decide +kernel
theorem xr_b : ∀ x : Fin 16, ∀ y : Fin 16, x.1 ^^^ y.1 < 16 := by decide +kernel
theorem or16 {a b : Int} (h : 0 ≤ a ∧ a < 16 ∧ 0 ≤ b ∧ b < 4) : iI a ||| iI (b * (2 ^ 4 : Nat)) = iI (a + 16 * b) := by
  obtain ⟨a, rfl⟩ := Int.eq_ofNat_of_zero_le h.1
  obtain ⟨b, rfl⟩ := Int.eq_ofNat_of_zero_le h.2.2.1
  have h9 := or16_a ⟨a, by omega⟩ ⟨b, by omega⟩
  have e1 : ((b : Int) * ((2 ^ 4 : Nat) : Int)) = ((b * 16 : Nat) : Int) := by omega
  have e2 : ((a : Int) + 16 * (b : Int)) = ((a + b * 16 : Nat) : Int) := by omega
  rw [e1, e2, iI_nat, iI_nat, iI_nat]
  exact h9
theorem or64 {a b : Int} (h : 0 ≤ a ∧ a < 64 ∧ 0 ≤ b ∧ b < 4) : iI a ||| iI (b * (2 ^ 6 : Nat)) = iI (a + 64 * b) := by
  obtain ⟨a, rfl⟩ := Int.eq_ofNat_of_zero_le h.1
  obtain ⟨b, rfl⟩ := Int.eq_ofNat_of_zero_le h.2.2.1
  have h9 := or64_a ⟨a, by omega⟩ ⟨b, by omega⟩
  have e1 : ((b : Int) * ((2 ^ 6 : Nat) : Int)) = ((b * 64 : Nat) : Int) := by omega
  have e2 : ((a : Int) + 64 * (b : Int)) = ((a + b * 64 : Nat) : Int) := by omega
  rw [e1, e2, iI_nat, iI_nat, iI_nat]
  exact h9
theorem or256 {a b : Int} (h : 0 ≤ a ∧ a < 256 ∧ 0 ≤ b ∧ b < 9) : iI a ||| iI (b * (2 ^ 8 : Nat)) = iI (a + 256 * b) := by
  obtain ⟨a, rfl⟩ := Int.eq_ofNat_of_zero_le h.1
  obtain ⟨b, rfl⟩ := Int.eq_ofNat_of_zero_le h.2.2.1
  have h9 := or256_a ⟨a, by omega⟩ ⟨b, by omega⟩
  have e1 : ((b : Int) * ((2 ^ 8 : Nat) : Int)) = ((b * 256 : Nat) : Int) := by omega
  have e2 : ((a : Int) + 256 * (b : Int)) = ((a + b * 256 : Nat) : Int) := by omega
  rw [e1, e2, iI_nat, iI_nat, iI_nat]
  exact h9
theorem and49 {a : Int} (h : 0 ≤ a ∧ a < 2304) : iI a &&& iI (-49) = iI (a - 16 * (a / 16 % 4)) := by
  obtain ⟨a, rfl⟩ := Int.eq_ofNat_of_zero_le h.1
  have h9 := and49_a ⟨a, by omega⟩
  have e2 : ((a : Int) - 16 * ((a : Int) / 16 % 4)) = ((a - 16 * (a / 16 % 4) : Nat) : Int) := by omega
  rw [e2, iI_nat, iI_nat]
  exact h9
theorem orT {a b : Int} (h : 0 ≤ a ∧ a < 2304 ∧ 0 ≤ b ∧ b < 4) : iI (a - 16 * (a / 16 % 4)) ||| iI (b * (2 ^ 4 : Nat)) = iI (wth a b) := by
  obtain ⟨a, rfl⟩ := Int.eq_ofNat_of_zero_le h.1
  obtain ⟨b, rfl⟩ := Int.eq_ofNat_of_zero_le h.2.2.1
  have h9 := orT_a ⟨a, by omega⟩ ⟨b, by omega⟩
  have e1 : ((b : Int) * ((2 ^ 4 : Nat) : Int)) = ((b * 16 : Nat) : Int) := by omega
  have e2 : ((a : Int) - 16 * ((a : Int) / 16 % 4)) = ((a - 16 * (a / 16 % 4) : Nat) : Int) := by omega
  have e3 : wth (a : Int) (b : Int) = ((a - 16 * (a / 16 % 4) + b * 16 : Nat) : Int) := by unfold wth; omega
  rw [e1, e2, e3, iI_nat, iI_nat, iI_nat]
  exact h9
theorem and3841 {a : Int} (h : 0 ≤ a ∧ a < 2304) : iI a &&& iI (-3841) = iI (a % 256) := by
  obtain ⟨a, rfl⟩ := Int.eq_ofNat_of_zero_le h.1
  have h9 := and3841_a ⟨a, by omega⟩
  have e2 : ((a : Int) % 256) = ((a % 256 : Nat) : Int) := by omega
  rw [e2, iI_nat, iI_nat]
  exact h9
theorem xr_iI {a b : Int} (h : 0 ≤ a ∧ a < 16 ∧ 0 ≤ b ∧ b < 16) : iI a ^^^ iI b = iI (xr a b) := by
  obtain ⟨a, rfl⟩ := Int.eq_ofNat_of_zero_le h.1
  obtain ⟨b, rfl⟩ := Int.eq_ofNat_of_zero_le h.2.2.1
  have h9 := xr_a ⟨a, by omega⟩ ⟨b, by omega⟩
  unfold xr
  rw [Int.toNat_natCast, Int.toNat_natCast, iI_nat, iI_nat, iI_nat]
  exact h9
theorem xr_rg {a b : Int} (h : 0 ≤ a ∧ a < 16 ∧ 0 ≤ b ∧ b < 16) : 0 ≤ xr a b ∧ xr a b < 16 := by
  have h9 : a.toNat ^^^ b.toNat < 16 := xr_b ⟨a.toNat, by omega⟩ ⟨b.toNat, by omega⟩
  unfold xr
  omega
theorem smp {a b : Int} (h : 0 ≤ a ∧ a < 2304 ∧ 0 ≤ b ∧ b < 2304) : ((iI a ^^^ iI b) &&& iI (-3841)).toInt = 0 ↔ a % 256 = b % 256 := by
  have e : (iI a ^^^ iI b) &&& iI (-3841) = (iI (a % 256)) ^^^ (iI (b % 256)) := by
    rw [← and3841 ⟨h.1, h.2.1⟩, ← and3841 ⟨h.2.2.1, h.2.2.2⟩]
    apply Int32.toBitVec_inj.mp
    simp only [Int32.toBitVec_and, Int32.toBitVec_xor]
    ext i
    simp only [BitVec.getElem_and, BitVec.getElem_xor]
    cases (iI a).toBitVec[i] <;> cases (iI b).toBitVec[i] <;> cases (iI (-3841)).toBitVec[i] <;> rfl
  rw [e]
  constructor
  · intro h9
    have h8 : iI (a % 256) ^^^ iI (b % 256) = 0 := by
      rw [← Int32.toInt_inj, h9]
      rfl
    exact (iI_eq (by omega) (by omega) (by omega) (by omega)).mp (Int32.xor_eq_zero_iff.mp h8)
  · intro h9
    rw [h9, Int32.xor_eq_zero_iff.mpr rfl]
    rfl
theorem stp_rg {G : Int → Int} {a b : Int} (h : 0 ≤ a ∧ a < 9 ∧ 0 ≤ b ∧ b < 9) : 0 ≤ stp G a b ∧ stp G a b ≤ 4 := by
  unfold stp ab
  split
  · omega
  · split <;> split <;> omega
theorem pop4_rg {r : Int} : 0 ≤ pop4 r ∧ pop4 r ≤ 4 := by
  unfold pop4
  omega
theorem dst_rg {G : Int → Int} {x y : Int} (h : 0 ≤ x ∧ x < 2304 ∧ 0 ≤ y ∧ y < 2304) : 0 ≤ dst G x y ∧ dst G x y ≤ 11 := by
  have h1 := stp_rg (G := G) (a := x / 256) (b := y / 256) (by omega)
  have h2 := pop4_rg (r := xr (x % 16) (y % 16))
  unfold dst
  split <;> split <;> omega
theorem wth_rg {L t : Int} (h : 0 ≤ L ∧ L < 2304 ∧ 0 ≤ t ∧ t < 4) : 0 ≤ wth L t ∧ wth L t < 2304 := by
  unfold wth
  omega
theorem bc_1 : ∀ x : Fin 16, (let i := Int32.ofNat x.1; let i := i - ((i.toUInt32 >>> ((1 : Int32).toUInt32 &&& Int32.toUInt32 31)).toInt32 &&& 1431655765); let i := (i &&& 858993459) + ((i.toUInt32 >>> ((2 : Int32).toUInt32 &&& Int32.toUInt32 31)).toInt32 &&& 858993459); let i := (i + (i.toUInt32 >>> ((4 : Int32).toUInt32 &&& Int32.toUInt32 31)).toInt32) &&& 252645135; let i := i + (i.toUInt32 >>> ((8 : Int32).toUInt32 &&& Int32.toUInt32 31)).toInt32; let i := i + (i.toUInt32 >>> ((16 : Int32).toUInt32 &&& Int32.toUInt32 31)).toInt32; i &&& 63) = Int32.ofNat (x.1 % 2 + x.1 / 2 % 2 + x.1 / 4 % 2 + x.1 / 8 % 2) := by decide +kernel
/-- the class's own numbers lie where they must -/
def IC (σ : Sg) : Prop := (0 ≤ σ.1 0 ∧ σ.1 0 ≤ 4) ∧ (0 ≤ σ.1 1 ∧ σ.1 1 ≤ 9) ∧ (∀ j : Int, 0 ≤ j → j < 9 → 0 ≤ σ.2 0 j ∧ σ.2 0 j < 9) ∧ (∀ b : Nat, b < 5 → 0 ≤ σ.1 (2 + b) ∧ σ.1 (2 + b) ≤ 16) ∧ (∀ b : Nat, b < 5 → ∀ j : Int, 0 ≤ j → j < 16 → 0 ≤ σ.2 (1 + b) j ∧ σ.2 (1 + b) j < 2304) ∧ ∀ b : Nat, b < 5 → ∀ j : Int, 0 ≤ j → j < 16 → 0 ≤ σ.2 (6 + b) j ∧ σ.2 (6 + b) j < 30
theorem hlJ {mc : MC} {g : GG} {cc : ByteArray} {own : String} {nL : Nat} {ret : Option FieldType} (hC : Cx mc g cc own nL ret) : (mL mc).stackTraces = false := hC.2.2.2.2.2.2.2.2.2.2.2.1
theorem j_gen {mc : MC} {g : GG} {k n : Nat} {Q : State → Prop} {pc : Nat} {lv : List (Nat × Value)} {st : List Value} {σ : Sg} {x : Int32} (h : ∀ y : Int32, y = x → J mc g k n Q pc lv (.int y :: st) σ) : J mc g k n Q pc lv (.int x :: st) σ := h x rfl
theorem j_genI {mc : MC} {g : GG} {k n : Nat} {Q : State → Prop} {pc : Nat} {lv : List (Nat × Value)} {st : List Value} {σ : Sg} {x : Int} (y : Int) (h : x = y) (kk : J mc g k n Q pc lv (vI y :: st) σ) : J mc g k n Q pc lv (vI x :: st) σ := h ▸ kk
