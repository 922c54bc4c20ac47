theorem IM_11 {σ : Sg} (hI : IM σ) (i : Int) {x : Int} (hx : 0 ≤ x ∧ x ≤ 16) : IM (sG σ 11 i x) := by
  refine ⟨hI.1, hI.2.1, fun k h0 h1 => ?_, hI.2.2.2⟩
  show 0 ≤ (if k = i then x else σ.2 11 k) ∧ (if k = i then x else σ.2 11 k) ≤ 16
  split
  · exact hx
  · exact hI.2.2.1 k h0 h1
theorem IM_12 {σ : Sg} (hI : IM σ) (i : Int) {x : Int} (hx : 0 ≤ x ∧ x < 16) : IM (sG σ 12 i x) := by
  refine ⟨hI.1, hI.2.1, hI.2.2.1, fun k h0 h1 => ?_, hI.2.2.2.2⟩
  show 0 ≤ (if k = i then x else σ.2 12 k) ∧ (if k = i then x else σ.2 12 k) < 16
  split
  · exact hx
  · exact hI.2.2.2.1 k h0 h1
theorem IM_13 {σ : Sg} (hI : IM σ) (i : Int) {x : Int} (hx : 0 ≤ x ∧ x < 4) : IM (sG σ 13 i x) := by
  refine ⟨hI.1, hI.2.1, hI.2.2.1, hI.2.2.2.1, fun k h0 h1 => ?_, hI.2.2.2.2.2⟩
  show 0 ≤ (if k = i then x else σ.2 13 k) ∧ (if k = i then x else σ.2 13 k) < 4
  split
  · exact hx
  · exact hI.2.2.2.2.1 k h0 h1
theorem IM_14 {σ : Sg} (hI : IM σ) (i : Int) {x : Int} (hx : 0 ≤ x ∧ x < 9) : IM (sG σ 14 i x) := by
  refine ⟨hI.1, hI.2.1, hI.2.2.1, hI.2.2.2.1, hI.2.2.2.2.1, fun k h0 h1 => ?_, hI.2.2.2.2.2.2⟩
  show 0 ≤ (if k = i then x else σ.2 14 k) ∧ (if k = i then x else σ.2 14 k) < 9
  split
  · exact hx
  · exact hI.2.2.2.2.2.1 k h0 h1
theorem IM_15 {σ : Sg} (hI : IM σ) (i : Int) {x : Int} (hx : 0 ≤ x ∧ x < 4) : IM (sG σ 15 i x) := by
  refine ⟨hI.1, hI.2.1, hI.2.2.1, hI.2.2.2.1, hI.2.2.2.2.1, hI.2.2.2.2.2.1, fun k h0 h1 => ?_, hI.2.2.2.2.2.2.2⟩
  show 0 ≤ (if k = i then x else σ.2 15 k) ∧ (if k = i then x else σ.2 15 k) < 4
  split
  · exact hx
  · exact hI.2.2.2.2.2.2.1 k h0 h1
theorem IM_16 {σ : Sg} (hI : IM σ) (i : Int) {x : Int} (hx : 0 ≤ x ∧ x < 30) : IM (sG σ 16 i x) := by
  refine ⟨hI.1, hI.2.1, hI.2.2.1, hI.2.2.2.1, hI.2.2.2.2.1, hI.2.2.2.2.2.1, hI.2.2.2.2.2.2.1, fun k h0 h1 => ?_, hI.2.2.2.2.2.2.2.2⟩
  show 0 ≤ (if k = i then x else σ.2 16 k) ∧ (if k = i then x else σ.2 16 k) < 30
  split
  · exact hx
  · exact hI.2.2.2.2.2.2.2.1 k h0 h1
theorem IM_17 {σ : Sg} (hI : IM σ) (i : Int) {x : Int} (hx : 0 ≤ x ∧ x < 9) : IM (sG σ 17 i x) := by
  refine ⟨hI.1, hI.2.1, hI.2.2.1, hI.2.2.2.1, hI.2.2.2.2.1, hI.2.2.2.2.2.1, hI.2.2.2.2.2.2.1, hI.2.2.2.2.2.2.2.1, fun k h0 h1 => ?_⟩
  show 0 ≤ (if k = i then x else σ.2 17 k) ∧ (if k = i then x else σ.2 17 k) < 9
  split
  · exact hx
  · exact hI.2.2.2.2.2.2.2.2 k h0 h1
theorem IM_wr {σ : Sg} (hI : IM σ) {l s t p m x : Int} (hn : 0 ≤ σ.2 11 l ∧ σ.2 11 l < 16) (h : 0 ≤ s ∧ s < 16 ∧ 0 ≤ t ∧ t < 4 ∧ 0 ≤ p ∧ p < 9 ∧ 0 ≤ m ∧ m < 4) (hx : 0 ≤ x ∧ x < 30) : IM (wrM σ l s t p m x) :=
  IM_11 (IM_16 (IM_15 (IM_14 (IM_13 (IM_12 hI _ (by omega)) _ (by omega)) _ (by omega)) _ (by omega)) _ hx) _ (by omega)
theorem IM_cl12 : ∀ (d : Nat) (k : Int) (τ : Sg), IM τ → 0 ≤ k → k + d < 64 → IM (clF 12 d k τ) := by
  intro d
  induction d with
  | zero => intro k τ h _ _; exact h
  | succ d ih => intro k τ h h0 h1; exact ih (k + 1) _ (IM_12 h _ (h.2.2.2.1 (k + 1) (by omega) (by omega))) (by omega) (by omega)
theorem IM_cl13 : ∀ (d : Nat) (k : Int) (τ : Sg), IM τ → 0 ≤ k → k + d < 64 → IM (clF 13 d k τ) := by
  intro d
  induction d with
  | zero => intro k τ h _ _; exact h
  | succ d ih => intro k τ h h0 h1; exact ih (k + 1) _ (IM_13 h _ (h.2.2.2.2.1 (k + 1) (by omega) (by omega))) (by omega) (by omega)
theorem IM_cl14 : ∀ (d : Nat) (k : Int) (τ : Sg), IM τ → 0 ≤ k → k + d < 64 → IM (clF 14 d k τ) := by
  intro d
  induction d with
  | zero => intro k τ h _ _; exact h
  | succ d ih => intro k τ h h0 h1; exact ih (k + 1) _ (IM_14 h _ (h.2.2.2.2.2.1 (k + 1) (by omega) (by omega))) (by omega) (by omega)
theorem IM_cl15 : ∀ (d : Nat) (k : Int) (τ : Sg), IM τ → 0 ≤ k → k + d < 64 → IM (clF 15 d k τ) := by
  intro d
  induction d with
  | zero => intro k τ h _ _; exact h
  | succ d ih => intro k τ h h0 h1; exact ih (k + 1) _ (IM_15 h _ (h.2.2.2.2.2.2.1 (k + 1) (by omega) (by omega))) (by omega) (by omega)
theorem IM_cl16 : ∀ (d : Nat) (k : Int) (τ : Sg), IM τ → 0 ≤ k → k + d < 64 → IM (clF 16 d k τ) := by
  intro d
  induction d with
  | zero => intro k τ h _ _; exact h
  | succ d ih => intro k τ h h0 h1; exact ih (k + 1) _ (IM_16 h _ (h.2.2.2.2.2.2.2.1 (k + 1) (by omega) (by omega))) (by omega) (by omega)
theorem IM_jnF {x y : Int} (hx : 0 ≤ x ∧ x < 9) : ∀ (d : Nat) (z : Int) (τ : Sg), IM τ → IM (jnF x y d z τ) := by
  intro d
  induction d with
  | zero => intro z τ h; exact h
  | succ d ih =>
    intro z τ h
    unfold jnF
    refine ih (z + 1) _ ?_
    split
    · exact IM_17 h _ hx
    · exact h
theorem IM_jn {σ : Sg} (hI : IM σ) {a b : Int} (h : 0 ≤ a ∧ a < 9 ∧ 0 ≤ b ∧ b < 9) : IM (jnM σ a b) := by
  have h1 := hI.2.2.2.2.2.2.2.2 a (by omega) (by omega)
  have h2 := hI.2.2.2.2.2.2.2.2 b (by omega) (by omega)
  exact IM_jnF (by split <;> omega) 9 0 σ hI
/-- a loan in the reference, tried and taken back -/
def tbW (τ : Sg) (a c z : Int) : Sg := wrM τ c (τ.2 12 (16 * a + z)) (tfM τ (16 * a + z) c) (τ.2 14 (16 * a + z)) (τ.2 15 (16 * a + z)) (τ.2 16 (16 * a + z))
def tbU (τ : Sg) (a c z : Int) : Sg := sG (tbW τ a c z) 11 c ((tbW τ a c z).2 11 c - 1)
def tbF (a c : Int) : Nat → Int → Int → Int → Sg → Int × Sg
  | 0, _, fo, _, τ => (fo, τ)
  | d + 1, z, fo, mo, τ => if tfM τ (16 * a + z) c = -1 then tbF a c d (z + 1) fo mo τ else (if mo < raM (tbW τ a c z) a c 1 then tbF a c d (z + 1) z (raM (tbW τ a c z) a c 1) (tbU τ a c z) else tbF a c d (z + 1) fo mo (tbU τ a c z))
def tbM (σ : Sg) (a c : Int) : Int × Sg := if a = c then (-1, σ) else tbF a c (nM σ a) 0 (-1) (-1) σ
theorem tfM_room {σ : Sg} (hI : IM σ) {j l : Int} (hl : 0 ≤ l ∧ l < 4) (h : ¬ tfM σ j l = -1) : 0 ≤ σ.2 11 l ∧ σ.2 11 l < 16 := by
  have h1 := hI.2.2.1 l hl.1 hl.2
  by_cases q : σ.2 11 l = 16
  · exact (h (by unfold tfM; rw [if_pos (Or.inl q)])).elim
  · omega
theorem IM_tbW {τ : Sg} (hI : IM τ) {a c z : Int} (hc : 0 ≤ c ∧ c < 4) (hj : 0 ≤ 16 * a + z ∧ 16 * a + z < 64) (h : ¬ tfM τ (16 * a + z) c = -1) : IM (tbW τ a c z) := by
  have h1 := tfM_room hI hc h
  have h2 := lkM_in hI hj
  have h3 := tfM_rg hI (l := c) hj
  exact IM_wr hI h1 (by omega) (hI.2.2.2.2.2.2.2.1 _ hj.1 hj.2)
theorem tbU_11 (τ : Sg) (a c z l : Int) : (tbU τ a c z).2 11 l = τ.2 11 l := by
  show (if l = c then (tbW τ a c z).2 11 c - 1 else (tbW τ a c z).2 11 l) = τ.2 11 l
  have e : ∀ y : Int, (tbW τ a c z).2 11 y = if y = c then τ.2 11 c + 1 else τ.2 11 y := fun y => rfl
  rw [e, e, if_pos rfl]
  split
  · rename_i h
    rw [h]
    omega
  · rfl
theorem IM_tbU {τ : Sg} (hI : IM τ) {a c z : Int} (hc : 0 ≤ c ∧ c < 4) (hj : 0 ≤ 16 * a + z ∧ 16 * a + z < 64) (h : ¬ tfM τ (16 * a + z) c = -1) : IM (tbU τ a c z) := by
  have h1 := tfM_room hI hc h
  have e : (tbW τ a c z).2 11 c = τ.2 11 c + 1 := by
    show (if c = c then τ.2 11 c + 1 else _) = _
    rw [if_pos rfl]
  exact IM_11 (IM_tbW hI hc hj h) _ (by omega)
