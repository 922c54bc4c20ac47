abbrev MC : Type := Program × Launch × Env × Room × State × MethodId × Array Value × List Frame × Method × Code
abbrev mP (mc : MC) : Program := mc.1
abbrev mL (mc : MC) : Launch := mc.2.1
abbrev mE (mc : MC) : Env := mc.2.2.1
abbrev mR (mc : MC) : Room := mc.2.2.2.1
abbrev mS (mc : MC) : State := mc.2.2.2.2.1
abbrev mM (mc : MC) : MethodId := mc.2.2.2.2.2.1
abbrev mA (mc : MC) : Array Value := mc.2.2.2.2.2.2.1
abbrev mB (mc : MC) : List Frame := mc.2.2.2.2.2.2.2.1
abbrev mH (mc : MC) : Method := mc.2.2.2.2.2.2.2.2.1
abbrev mC (mc : MC) : Code := mc.2.2.2.2.2.2.2.2.2
/-- the pure state: numbers by their variable, rows by their number -/
abbrev Sg : Type := (Nat → Int) × (Nat → Int → Int)
/-- what stays: addresses by place; classes and slots; array classes (int[], boolean[], Book[], int[][], int[][][], boolean[][]); the first address of the law's own; what else lies in the world; the script: its address, its length, its numbers -/
abbrev GG : Type := (Nat → Nat) × va_G × (ClassId × ClassId × ClassId × ClassId × ClassId × ClassId) × Nat × va_W × Nat × Nat × (Nat → Int32)
abbrev gd (g : GG) : Nat → Nat := g.1
abbrev gD (g : GG) : va_G := g.2.1
abbrev gI (g : GG) : ClassId := g.2.2.1.1
abbrev gZ (g : GG) : ClassId := g.2.2.1.2.1
abbrev gB (g : GG) : ClassId := g.2.2.1.2.2.1
abbrev gY (g : GG) : ClassId := g.2.2.1.2.2.2.1
abbrev gU (g : GG) : ClassId := g.2.2.1.2.2.2.2.1
abbrev gV (g : GG) : ClassId := g.2.2.1.2.2.2.2.2
abbrev g0 (g : GG) : Nat := g.2.2.2.1
abbrev gX (g : GG) : va_W := g.2.2.2.2.1
abbrev gb (g : GG) : Nat := g.2.2.2.2.2.1
abbrev gn (g : GG) : Nat := g.2.2.2.2.2.2.1
abbrev gs (g : GG) : Nat → Int32 := g.2.2.2.2.2.2.2
def gA (g : GG) : Nat → Prop := fun q => g0 g ≤ q
def iI (z : Int) : Int32 := Int32.ofInt z
def jI (z : Int) : Int64 := Int64.ofInt z
abbrev vI (z : Int) : Value := .int (iI z)
def ri (g : GG) (f : Int → Int) (n : Nat) : va_E := .inl (gI g, n, .inl (fun j : Nat => iI (f (j : Int))))
def bk (g : GG) (σ : Sg) (b : Nat) : Nat × va_E := (gd g (4 + b), .inr (0, [.ref (gd g 1), .ref (gd g (9 + b)), .ref (gd g (14 + b)), vI (σ.1 (2 + b))]))
def hw (g : GG) (σ : Sg) : va_W := [
  (gd g 0, .inr (2, [.ref (gd g 1), .ref (gd g 3), .ref (gd g 8), vI (σ.1 0)])),
  (gd g 1, .inr (1, [.ref (gd g 2), vI (σ.1 1)])),
  (gd g 2, ri g (σ.2 0) 9),
  (gd g 3, .inl (gB g, 4, .inr (.inr (.inr (.inr (fun j : Nat => some (gd g (4 + j)))))))),
  bk g σ 0, bk g σ 1, bk g σ 2, bk g σ 3, bk g σ 4,
  (gd g 9, ri g (σ.2 1) 16), (gd g 10, ri g (σ.2 2) 16), (gd g 11, ri g (σ.2 3) 16), (gd g 12, ri g (σ.2 4) 16), (gd g 13, ri g (σ.2 5) 16),
  (gd g 14, ri g (σ.2 6) 16), (gd g 15, ri g (σ.2 7) 16), (gd g 16, ri g (σ.2 8) 16), (gd g 17, ri g (σ.2 9) 16), (gd g 18, ri g (σ.2 10) 16)] ++ gX g
abbrev gT (g : GG) : List (ClassId × FieldType) := [(gI g, .int), (gZ g, .boolean), (gB g, .object "SignMasons$Book"), (gY g, .array .int), (gU g, .array (.array .int)), (gV g, .array .boolean)]
/-- the script, and the tables' words of arrays of references -/
def TH (g : GG) (U : State) (H : Heap) : Prop := va_AO "SignMasons$Book" U ∧ va_AOA .int U ∧ va_AOA (.array .int) U ∧ va_AOA .boolean U ∧ gb g < g0 g ∧ va_X (gb g) (gn g) (gs g) U H
def WB (g : GG) (σ : Sg) (U : State) : Prop := g0 g ≤ U.heap.size ∧ va_P (gD g) vwCl (hw g σ) U.heap ∧ va_K (gD g) vwCl (gT g) U ∧ (∀ w ∈ nwA, va_Nw w U) ∧ TH g U U.heap ∧ ∀ τ, va_D (gA g) (hw g τ)
def Cx (mc : MC) (g : GG) (cc : ByteArray) (own : String) (nL : Nat) (ret : Option FieldType) : Prop :=
  (mP mc).tables.exec = Jvm.exec ∧ (mC mc).code = cc ∧ (mC mc).maxLocals = nL ∧ (mS mc).vm.findClass own = some (mM mc).cls ∧ (∀ w ∈ wsA, w.before (mA mc) (mS mc) = true) ∧ (mH mc).locks = false ∧ va_K (gD g) vwCl (gT g) (mS mc) ∧ (∀ w ∈ nwA, va_Nw w (mS mc)) ∧ TH g (mS mc) (mS mc).heap ∧ (∀ τ, va_D (gA g) (hw g τ)) ∧ g0 g ≤ (mS mc).heap.size ∧ (mL mc).stackTraces = false ∧ (mH mc).sig.returnType = ret
/-- at pc with these locals, this stack, this world: the method comes to Q -/
def J (mc : MC) (g : GG) (k n : Nat) (Q : State → Prop) (pc : Nat) (lv : List (Nat × Value)) (st : List Value) (σ : Sg) : Prop :=
  ∀ (H : Heap) (locs : List Loc) (ls : Array Slot), va_P (gD g) vwCl (hw g σ) H → va_S (gA g) (mS mc).heap H locs → lv_has ls (mC mc).maxLocals lv →
    W (mP mc) (mL mc) (mE mc) (mR mc) (mS mc) (mM mc) (mA mc) (mB mc) (mH mc) (mC mc) H locs k n Q (F0 (mM mc) pc ls st)
def QJ (g : GG) (post : Option Value → Sg → Prop) : Array Value → State → Outcome → State → Prop := fun _ st o t => (∃ v τ, o = .returned v ∧ post v τ ∧ va_P (gD g) vwCl (hw g τ) t.heap) ∧ va_F (gA g) st t
def XJ (g : GG) (px : String → Sg → Prop) : String → State → State → Prop := fun E st t => (∃ τ, px E τ ∧ va_P (gD g) vwCl (hw g τ) t.heap) ∧ va_F (gA g) st t
abbrev rmJ (fr lo k n : Nat) : Room := { frames := fr, cells := k, slots := n, locals := lo }
/-- a method's contract: it returns -/
def CN (l : Launch) (y : MethodName) (cc : ByteArray) (nL : Nat) (ret : Option FieldType) (fr lo k n : Nat) (g : GG) (as : List Value) (σ : Sg) (post : Option Value → Sg → Prop) : Prop :=
  Met l y (.code y cc nL ret :: wsA) (rmJ fr lo k n) (va_Pc as (WB g σ)) (QJ g post) k n (gA g)
/-- .. or throws -/
def CX (l : Launch) (y : MethodName) (cc : ByteArray) (nL : Nat) (ret : Option FieldType) (fr lo k n : Nat) (g : GG) (as : List Value) (σ : Sg) (post : Option Value → Sg → Prop) (px : String → Sg → Prop) : Prop :=
  vx_Met l y (.code y cc nL ret :: wsA) (rmJ fr lo k n) (va_Pc as (WB g σ)) (QJ g post) (XJ g px) k n (gA g)
def QN (mc : MC) (g : GG) (post : Option Value → Sg → Prop) (k n : Nat) : State → Prop := MQ (mB mc) (QJ g post) (mA mc) (mS mc) k n (gA g)
def QX (mc : MC) (g : GG) (post : Option Value → Sg → Prop) (px : String → Sg → Prop) (k n : Nat) : State → Prop := vx_MQ (mB mc) (QJ g post) (XJ g px) (mA mc) (mS mc) k n (gA g)
theorem gA_new {g : GG} {U : State} (h : g0 g ≤ U.heap.size) : ∀ q, U.heap.size ≤ q → gA g q := fun _ hq => Nat.le_trans h hq
/-! numbers -/
theorem iI_toInt {z : Int} (h1 : -2147483648 ≤ z) (h2 : z < 2147483648) : (iI z).toInt = z := Int32.toInt_ofInt_of_le (by omega) (by omega)
theorem iI_of (x : Int32) : ∃ z : Int, -2147483648 ≤ z ∧ z < 2147483648 ∧ x = iI z := ⟨x.toInt, by have := x.le_toInt; omega, by have := x.toInt_lt; omega, (Int32.ofInt_toInt x).symm⟩
theorem iI_nat (n : Nat) : iI (n : Int) = Int32.ofNat n := Int32.ofInt_eq_ofNat
theorem iI_lt {a b : Int} (ha1 : -2147483648 ≤ a) (ha2 : a < 2147483648) (hb1 : -2147483648 ≤ b) (hb2 : b < 2147483648) : iI a < iI b ↔ a < b := by
  rw [Int32.lt_iff_toInt_lt, iI_toInt ha1 ha2, iI_toInt hb1 hb2]
theorem iI_le {a b : Int} (ha1 : -2147483648 ≤ a) (ha2 : a < 2147483648) (hb1 : -2147483648 ≤ b) (hb2 : b < 2147483648) : iI a ≤ iI b ↔ a ≤ b := by
  rw [Int32.le_iff_toInt_le, iI_toInt ha1 ha2, iI_toInt hb1 hb2]
theorem iI_eq {a b : Int} (ha1 : -2147483648 ≤ a) (ha2 : a < 2147483648) (hb1 : -2147483648 ≤ b) (hb2 : b < 2147483648) : iI a = iI b ↔ a = b := by
  rw [← Int32.toInt_inj, iI_toInt ha1 ha2, iI_toInt hb1 hb2]
theorem iI_0 : iI 0 = 0 := by decide
theorem iI_clamp {z : Int} (h1 : -2147483648 ≤ z) (h2 : z < 2147483648) : (iI z).toNatClampNeg = z.toNat := Int32.toNatClampNeg_ofInt_of_le (by omega) (by omega)
theorem iI_in {z : Int} {n : Nat} (h0 : 0 ≤ z) (h1 : z < n) (hn : n ≤ 2147483647) : vp_in (iI z) n := by
  rw [vp_in_iff, iI_toInt (by omega) (by omega)]
  omega
theorem iI_rd {f : Int → Int} {z : Int} (h0 : 0 ≤ z) (h2 : z < 2147483648) : (fun j : Nat => iI (f (j : Int))) (iI z).toNatClampNeg = iI (f z) := by
  show iI (f ((iI z).toNatClampNeg : Int)) = iI (f z)
  rw [iI_clamp (by omega) h2, Int.toNat_of_nonneg h0]
theorem iI_up {f : Int → Int} {z x : Int} (h0 : 0 ≤ z) (h2 : z < 2147483648) : upd (fun j : Nat => iI (f (j : Int))) (iI z).toNatClampNeg (iI x) = fun j : Nat => iI (if (j : Int) = z then x else f (j : Int)) := by
  funext j
  rw [iI_clamp (by omega) h2]
  by_cases h : (j : Int) = z
  · have e : j = z.toNat := by omega
    simp only [upd, if_pos e, if_pos h]
  · have e : ¬ j = z.toNat := by omega
    simp only [upd, if_neg e, if_neg h]
theorem iI_add (a b : Int) : iI a + iI b = iI (a + b) := (Int32.ofInt_add a b).symm
theorem iI_sub (a b : Int) : iI a - iI b = iI (a - b) := (Int32.ofInt_sub a b).symm
theorem iI_mul (a b : Int) : iI a * iI b = iI (a * b) := (Int32.ofInt_mul a b).symm
theorem iI_neg (a : Int) : - iI a = iI (- a) := (Int32.ofInt_neg a).symm
theorem iI_div {a b : Int} (h0 : 0 ≤ a) (h1 : a < 2147483648) (h2 : 0 < b) (h3 : b < 2147483648) : iI a / iI b = iI (a / b) := by
  obtain ⟨a, rfl⟩ := Int.eq_ofNat_of_zero_le h0
  obtain ⟨b, rfl⟩ := Int.eq_ofNat_of_zero_le (show 0 ≤ b by omega)
  have h := pk_div (a := a) (d := b) (by omega) (by omega) (by omega)
  rw [iI_nat, iI_nat]
  exact h.trans (iI_nat (a / b)).symm
theorem iI_rem {a b : Int} (h0 : 0 ≤ a) (h1 : a < 2147483648) (h2 : 0 < b) (h3 : b < 2147483648) : iI a - iI a / iI b * iI b = iI (a % b) := by
  rw [iI_div h0 h1 h2 h3, iI_mul, iI_sub]
  congr 1
  have := Int.emod_add_mul_ediv a b
  rw [Int.mul_comm] at this
  omega
theorem jI_add (a b : Int) : jI a + jI b = jI (a + b) := (Int64.ofInt_add a b).symm
theorem jI_mul (a b : Int) : jI a * jI b = jI (a * b) := (Int64.ofInt_mul a b).symm
theorem iI_long {a : Int} (h1 : -2147483648 ≤ a) (h2 : a < 2147483648) : (iI a).toInt64 = jI a := by
  rw [← Int64.ofInt_int32ToInt, iI_toInt h1 h2]
  rfl
