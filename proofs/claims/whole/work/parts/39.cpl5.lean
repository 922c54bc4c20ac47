/-! the two objects side by side -/
def RC (σ τ : Sg) : Prop := IC σ ∧ IM τ ∧ GrR σ τ ∧ σ.1 0 = τ.1 8 ∧ ∀ l : Nat, l < 4 → BkR σ l τ (l : Int)
def eqC (σ σ' : Sg) : Prop := (∀ v : Nat, v < 7 → σ.1 v = σ'.1 v) ∧ ∀ r : Nat, r < 11 → σ.2 r = σ'.2 r
def eqM (τ τ' : Sg) : Prop := τ.1 8 = τ'.1 8 ∧ ∀ r : Nat, 11 ≤ r → τ.2 r = τ'.2 r
theorem eqC.rf (σ : Sg) : eqC σ σ := ⟨fun _ _ => rfl, fun _ _ => rfl⟩
theorem eqM.rf (σ : Sg) : eqM σ σ := ⟨rfl, fun _ _ => rfl⟩
theorem eqC.tr {a b c : Sg} (h : eqC a b) (k : eqC b c) : eqC a c := ⟨fun v hv => (h.1 v hv).trans (k.1 v hv), fun r hr => (h.2 r hr).trans (k.2 r hr)⟩
theorem eqM.tr {a b c : Sg} (h : eqM a b) (k : eqM b c) : eqM a c := ⟨h.1.trans k.1, fun r hr => (h.2 r hr).trans (k.2 r hr)⟩
theorem eqC.sy {a b : Sg} (h : eqC a b) : eqC b a := ⟨fun v hv => (h.1 v hv).symm, fun r hr => (h.2 r hr).symm⟩
theorem eqM.sy {a b : Sg} (h : eqM a b) : eqM b a := ⟨h.1.symm, fun r hr => (h.2 r hr).symm⟩
theorem IC_cg {σ σ' : Sg} (h : eqC σ σ') (hI : IC σ) : IC σ' := by
  obtain ⟨h1, h2, h3, h4, h5, h6⟩ := hI
  refine ⟨by rw [← h.1 0 (by decide)]; exact h1, by rw [← h.1 1 (by decide)]; exact h2, by rw [← h.2 0 (by decide)]; exact h3, fun b hb => by rw [← h.1 (2 + b) (by omega)]; exact h4 b hb, fun b hb => by rw [← h.2 (1 + b) (by omega)]; exact h5 b hb, fun b hb => by rw [← h.2 (6 + b) (by omega)]; exact h6 b hb⟩
theorem IM_cg {τ τ' : Sg} (h : eqM τ τ') (h7 : 0 ≤ τ'.1 7 ∧ τ'.1 7 ≤ 3) (hI : IM τ) : IM τ' := by
  obtain ⟨h1, -, h3, h4, h5, h6, h7', h8, h9⟩ := hI
  exact ⟨by rw [← h.1]; exact h1, h7, by rw [← h.2 11 (by decide)]; exact h3, by rw [← h.2 12 (by decide)]; exact h4, by rw [← h.2 13 (by decide)]; exact h5, by rw [← h.2 14 (by decide)]; exact h6, by rw [← h.2 15 (by decide)]; exact h7', by rw [← h.2 16 (by decide)]; exact h8, by rw [← h.2 17 (by decide)]; exact h9⟩
theorem lkM_cg {τ τ' : Sg} (h : eqM τ τ') (k : Int) : lkM τ k = lkM τ' k := by
  unfold lkM
  rw [h.2 12 (by decide), h.2 13 (by decide), h.2 14 (by decide), h.2 15 (by decide)]
theorem agM_cg {τ τ' : Sg} (h : τ.2 17 = τ'.2 17) : agM τ = agM τ' := by
  unfold agM
  exact cnt_cg _ _ 9 0 0 (fun y _ _ => by unfold agC; rw [h])
theorem RC_cg {σ σ' τ τ' : Sg} (hR : RC σ τ) (h : eqC σ σ') (k : eqM τ τ') (h7 : 0 ≤ τ'.1 7 ∧ τ'.1 7 ≤ 3) : RC σ' τ' := by
  obtain ⟨r1, r2, ⟨r3, r4, r5⟩, r6, r7⟩ := hR
  refine ⟨IC_cg h r1, IM_cg k h7 r2, ⟨?_, ?_, ?_⟩, ?_, ?_⟩
  · rw [← h.2 0 (by decide), ← k.2 17 (by decide)]; exact r3
  · rw [← k.2 17 (by decide)]; exact r4
  · rw [← h.1 1 (by decide), r5]; exact agM_cg (k.2 17 (by decide))
  · rw [← h.1 0 (by decide), r6]; exact k.1
  · intro l hl
    obtain ⟨b1, b2, b3⟩ := r7 l hl
    refine ⟨by rw [← h.1 (2 + l) (by omega), ← k.2 11 (by decide)]; exact b1, fun z h0 h1 => ?_, ?_⟩
    · rw [← k.2 11 (by decide)] at h1
      rw [← h.2 (1 + l) (by omega), ← h.2 (6 + l) (by omega), ← k.2 16 (by decide), ← lkM_cg k]
      exact b2 z h0 h1
    · rw [← k.2 11 (by decide), ← k.2 16 (by decide)]; exact b3
theorem RC_bk {σ τ : Sg} (hR : RC σ τ) {a : Int} (ha : 0 ≤ a ∧ a < 4) : BkR σ a.toNat τ a := by
  have := hR.2.2.2.2 a.toNat (by omega)
  rwa [Int.toNat_of_nonneg ha.1] at this
/-! the class's writes leave the reference's rows, and the other way round -/
theorem eqM_sF {σ : Sg} {v : Nat} {x : Int} (hv : v ≠ 8) : eqM σ (sF σ v x) := ⟨(if_neg (fun q => hv q.symm)).symm, fun _ _ => rfl⟩
theorem eqC_sF {σ : Sg} {v : Nat} {x : Int} (hv : 7 ≤ v) : eqC σ (sF σ v x) := ⟨fun w hw => (if_neg (by omega)).symm, fun _ _ => rfl⟩
theorem eqM_sG {σ : Sg} {r : Nat} {i x : Int} (hr : r < 11) : eqM σ (sG σ r i x) := ⟨rfl, fun w hw => (if_neg (by omega)).symm⟩
theorem eqC_sG {σ : Sg} {r : Nat} {i x : Int} (hr : 11 ≤ r) : eqC σ (sG σ r i x) := ⟨fun _ _ => rfl, fun w hw => (if_neg (by omega)).symm⟩
theorem eqM_sR {σ : Sg} {r : Nat} {f : Int → Int} (hr : r < 11) : eqM σ (sR σ r f) := ⟨rfl, fun w hw => (if_neg (by omega)).symm⟩
theorem eqC_sR {σ : Sg} {r : Nat} {f : Int → Int} (hr : 11 ≤ r) : eqC σ (sR σ r f) := ⟨fun _ _ => rfl, fun w hw => (if_neg (by omega)).symm⟩
theorem eqM_ap {σ : Sg} {b : Nat} (hb : b < 5) {L m : Int} : eqM σ (apB σ b L m) := ((eqM_sG (by omega)).tr (eqM_sG (by omega))).tr (eqM_sF (by omega))
theorem eqM_cp {σ : Sg} {b e : Nat} (hb : b < 5) : eqM σ (cpB σ b e) := ((eqM_sR (by omega)).tr (eqM_sR (by omega))).tr (eqM_sF (by omega))
theorem eqM_tl {σ : Sg} {b e : Nat} {s : Int} : eqM σ (tlS σ b s e) := (eqM_cp (by decide)).tr (eqM_ap (by decide))
theorem eqM_bbF {b e : Nat} : ∀ (d : Nat) (z fo mo : Int) (τ : Sg), eqM τ (bbF b e d z fo mo τ).2 := by
  intro d
  induction d with
  | zero => intro z fo mo τ; exact eqM.rf τ
  | succ d ih =>
    intro z fo mo τ
    unfold bbF
    split
    · split
      · exact eqM_tl.tr (ih _ _ _ _)
      · exact eqM_tl.tr (ih _ _ _ _)
    · exact ih _ _ _ _
theorem eqM_bb {σ : Sg} {a c : Int} : eqM σ (bbB σ a c).2 := by
  unfold bbB
  split
  · exact eqM.rf σ
  · exact eqM_bbF _ _ _ _ _
theorem eqM_dgI {a : Int} : ∀ (d : Nat) (z D : Int) (τ : Sg), eqM τ (dgI a d z D τ).2 := by
  intro d
  induction d with
  | zero => intro z D τ; exact eqM.rf τ
  | succ d ih => intro z D τ; exact eqM_bb.tr (ih _ _ _)
theorem eqM_dgO : ∀ (d : Nat) (z D : Int) (τ : Sg), eqM τ (dgO d z D τ).2 := by
  intro d
  induction d with
  | zero => intro z D τ; exact eqM.rf τ
  | succ d ih => intro z D τ; exact (eqM_dgI _ _ _ _).tr (ih _ _ _)
theorem eqM_rmF {b : Nat} (hb : b < 5) : ∀ (d : Nat) (z : Int) (τ : Sg), eqM τ (rmF b d z τ) := by
  intro d
  induction d with
  | zero => intro z τ; exact eqM.rf τ
  | succ d ih => intro z τ; exact ((eqM_sG (by omega)).tr (eqM_sG (by omega))).tr (ih _ _)
theorem eqM_rm {σ : Sg} {b : Nat} (hb : b < 5) {s : Int} : eqM σ (rmB σ b s) := (eqM_rmF hb _ _ _).tr (eqM_sF (by omega))
theorem eqM_unF (x y : Int) : ∀ (d : Nat) (z : Int) (τ : Sg), eqM τ (unF x y d z τ) := by
  intro d
  induction d with
  | zero => intro z τ; exact eqM.rf τ
  | succ d ih =>
    intro z τ
    unfold unF
    split
    · exact (eqM_sG (by omega)).tr (ih _ _)
    · exact ih _ _
theorem eqM_un {σ : Sg} {a b : Int} : eqM σ (unP σ a b) := by
  unfold unP
  split
  · exact eqM.rf σ
  · exact (eqM_unF _ _ _ _ _).tr (eqM_sF (by omega))
theorem eqC_wr {σ : Sg} {l s t p m x : Int} : eqC σ (wrM σ l s t p m x) := (((((eqC_sG (by omega)).tr (eqC_sG (by omega))).tr (eqC_sG (by omega))).tr (eqC_sG (by omega))).tr (eqC_sG (by omega))).tr (eqC_sG (by omega))
theorem eqC_tbF {a c : Int} : ∀ (d : Nat) (z fo mo : Int) (τ : Sg), eqC τ (tbF a c d z fo mo τ).2 := by
  intro d
  induction d with
  | zero => intro z fo mo τ; exact eqC.rf τ
  | succ d ih =>
    intro z fo mo τ
    have hu : eqC τ (tbU τ a c z) := eqC_wr.tr (eqC_sG (by omega))
    unfold tbF
    split
    · exact ih _ _ _ _
    · split
      · exact hu.tr (ih _ _ _ _)
      · exact hu.tr (ih _ _ _ _)
theorem eqC_tb {σ : Sg} {a c : Int} : eqC σ (tbM σ a c).2 := by
  unfold tbM
  split
  · exact eqC.rf σ
  · exact eqC_tbF _ _ _ _ _
theorem eqC_dgI {a : Int} : ∀ (d : Nat) (z D : Int) (τ : Sg), eqC τ (dgMI a d z D τ).2 := by
  intro d
  induction d with
  | zero => intro z D τ; exact eqC.rf τ
  | succ d ih => intro z D τ; exact eqC_tb.tr (ih _ _ _)
theorem eqC_dgO : ∀ (d : Nat) (z D : Int) (τ : Sg), eqC τ (dgMO d z D τ).2 := by
  intro d
  induction d with
  | zero => intro z D τ; exact eqC.rf τ
  | succ d ih => intro z D τ; exact (eqC_dgI _ _ _ _).tr (ih _ _ _)
theorem eqC_clF (a : Nat) (ha : 11 ≤ a) : ∀ (d : Nat) (k : Int) (τ : Sg), eqC τ (clF a d k τ) := by
  intro d
  induction d with
  | zero => intro k τ; exact eqC.rf τ
  | succ d ih => intro k τ; exact (eqC_sG ha).tr (ih _ _)
theorem eqC_fg {σ : Sg} {l s : Int} : eqC σ (fgN σ l s) := (((((eqC_clF 12 (by decide) _ _ _).tr (eqC_clF 13 (by decide) _ _ _)).tr (eqC_clF 14 (by decide) _ _ _)).tr (eqC_clF 15 (by decide) _ _ _)).tr (eqC_clF 16 (by decide) _ _ _)).tr (eqC_sG (by decide))
theorem eqC_jnF (x y : Int) : ∀ (d : Nat) (z : Int) (τ : Sg), eqC τ (jnF x y d z τ) := by
  intro d
  induction d with
  | zero => intro z τ; exact eqC.rf τ
  | succ d ih =>
    intro z τ
    unfold jnF
    split
    · exact (eqC_sG (by omega)).tr (ih _ _)
    · exact ih _ _
theorem eqC_jn {σ : Sg} {a b : Int} : eqC σ (jnM σ a b) := eqC_jnF _ _ _ _ _
/-! a sign more -/
theorem wr_lk {τ : Sg} {l s t p m x : Int} (k : Int) : lkM (wrM τ l s t p m x) k = if k = 16 * l + τ.2 11 l then mkL s t p m else lkM τ k := by
  by_cases h : k = 16 * l + τ.2 11 l
  · simp [lkM, wrM, sG, h]
  · simp [lkM, wrM, sG, h]
theorem wr_16 {τ : Sg} {l s t p m x : Int} (k : Int) : (wrM τ l s t p m x).2 16 k = if k = 16 * l + τ.2 11 l then x else τ.2 16 k := by
  by_cases h : k = 16 * l + τ.2 11 l
  · simp [wrM, sG, h]
  · simp [wrM, sG, h]
theorem wr_11 {τ : Sg} {l s t p m x : Int} (i : Int) : (wrM τ l s t p m x).2 11 i = if i = l then τ.2 11 l + 1 else τ.2 11 i := by
  simp [wrM, sG]
theorem wr_17 {τ : Sg} {l s t p m x : Int} : (wrM τ l s t p m x).2 17 = τ.2 17 := by
  simp [wrM, sG]
theorem BkR_app {σ σ' τ τ' : Sg} {b b' : Nat} {l L x : Int} (hB : BkR σ b τ l) (hn : 0 ≤ τ.2 11 l ∧ τ.2 11 l < 16)
    (c1 : σ'.1 (2 + b') = σ.1 (2 + b) + 1) (c2 : τ'.2 11 l = τ.2 11 l + 1) (k1 : ∀ j : Int, 0 ≤ j → j < 16 → σ'.2 (1 + b') j = if j = σ.1 (2 + b) then L else σ.2 (1 + b) j) (k2 : ∀ j : Int, 0 ≤ j → j < 16 → σ'.2 (6 + b') j = if j = σ.1 (2 + b) then x else σ.2 (6 + b) j)
    (m1 : ∀ k : Int, lkM τ' k = if k = 16 * l + τ.2 11 l then L else lkM τ k) (m2 : ∀ k : Int, τ'.2 16 k = if k = 16 * l + τ.2 11 l then x else τ.2 16 k) (hno : sgM τ l x = -1) : BkR σ' b' τ' l := by
  obtain ⟨b1, b2, b3⟩ := hB
  have no : ∀ z : Int, 0 ≤ z → z < τ.2 11 l → τ.2 16 (16 * l + z) ≠ x := fun z h0 h1 => fnd_no (fun z => τ.2 16 (16 * l + z)) x (nM τ l) 0 (Int.le_refl _) hno z h0 (by have e : ((nM τ l : Nat) : Int) = ((τ.2 11 l).toNat : Nat) := rfl; omega)
  refine ⟨by omega, fun z h0 h1 => ?_, fun y z h0 h1 h2 h3 h4 => ?_⟩
  · rw [k1 z h0 (by omega), k2 z h0 (by omega), m1, m2]
    by_cases q : z = τ.2 11 l
    · rw [if_pos (by omega), if_pos (by omega), if_pos (by omega), if_pos (by omega)]
      exact ⟨rfl, rfl⟩
    · rw [if_neg (by omega), if_neg (by omega), if_neg (by omega), if_neg (by omega)]
      exact b2 z h0 (by omega)
  · rw [m2, m2] at h4
    by_cases q : y = τ.2 11 l
    · by_cases q2 : z = τ.2 11 l
      · omega
      · rw [if_pos (by omega), if_neg (by omega)] at h4
        exact absurd h4.symm (no z h2 (by omega))
    · by_cases q2 : z = τ.2 11 l
      · rw [if_neg (by omega), if_pos (by omega)] at h4
        exact absurd h4 (no y h0 (by omega))
      · rw [if_neg (by omega), if_neg (by omega)] at h4
        exact b3 y z h0 (by omega) h2 (by omega) h4
theorem BkR_keep {σ σ' τ τ' : Sg} {b : Nat} {l : Int} (hB : BkR σ b τ l) (hn : 0 ≤ τ.2 11 l ∧ τ.2 11 l ≤ 16) (c1 : σ'.1 (2 + b) = σ.1 (2 + b)) (c2 : τ'.2 11 l = τ.2 11 l) (k1 : ∀ j : Int, 0 ≤ j → j < 16 → σ'.2 (1 + b) j = σ.2 (1 + b) j) (k2 : ∀ j : Int, 0 ≤ j → j < 16 → σ'.2 (6 + b) j = σ.2 (6 + b) j)
    (m1 : ∀ z : Int, 0 ≤ z → z < τ.2 11 l → lkM τ' (16 * l + z) = lkM τ (16 * l + z)) (m2 : ∀ z : Int, 0 ≤ z → z < τ.2 11 l → τ'.2 16 (16 * l + z) = τ.2 16 (16 * l + z)) : BkR σ' b τ' l := by
  obtain ⟨b1, b2, b3⟩ := hB
  refine ⟨by omega, fun z h0 h1 => ?_, fun y z h0 h1 h2 h3 h4 => ?_⟩
  · rw [c2] at h1
    rw [k1 z h0 (by omega), k2 z h0 (by omega), m1 z h0 h1, m2 z h0 h1]
    exact b2 z h0 h1
  · rw [c2] at h1 h3
    rw [m2 y h0 h1, m2 z h2 h3] at h4
    exact b3 y z h0 h1 h2 h3 h4
theorem GrR_cg {σ σ' τ τ' : Sg} (h : GrR σ τ) (h0 : σ'.2 0 = σ.2 0) (h1 : σ'.1 1 = σ.1 1) (h17 : τ'.2 17 = τ.2 17) : GrR σ' τ' := by
  obtain ⟨a, b, c⟩ := h
  refine ⟨by rw [h0, h17]; exact a, by rw [h17]; exact b, ?_⟩
  rw [h1, c]
  exact agM_cg h17.symm
theorem ap_1 {σ : Sg} {b : Nat} {L m : Int} (v : Nat) : (apB σ b L m).1 v = if v = 2 + b then σ.1 (2 + b) + 1 else σ.1 v := rfl
theorem ap_lk {σ : Sg} {b : Nat} (hb : b < 5) {L m : Int} (r : Nat) (j : Int) : (apB σ b L m).2 r j = if r = 1 + b then (if j = σ.1 (2 + b) then L else σ.2 r j) else if r = 6 + b then (if j = σ.1 (2 + b) then m else σ.2 r j) else σ.2 r j := by
  show (sG (sG σ (1 + b) (σ.1 (2 + b)) L) (6 + b) (σ.1 (2 + b)) m).2 r j = _
  by_cases h1 : r = 1 + b
  · subst h1
    rw [sG_2, if_neg (by omega), sG_2, if_pos rfl, if_pos rfl]
  · by_cases h2 : r = 6 + b
    · subst h2
      rw [sG_2, if_pos rfl, if_neg h1, if_pos rfl, sG_2, if_neg h1]
    · rw [sG_2, if_neg h2, sG_2, if_neg h1, if_neg h1, if_neg h2]
/-- a sign is put into a book, on both sides -/
theorem RC_ap {σ τ : Sg} (hR : RC σ τ) {b : Nat} (hb : b < 4) {s t p m x : Int} (hn : τ.2 11 (b : Int) < 16) (h : 0 ≤ s ∧ s < 16 ∧ 0 ≤ t ∧ t < 4 ∧ 0 ≤ p ∧ p < 9 ∧ 0 ≤ m ∧ m < 4) (hx : 0 ≤ x ∧ x < 30) (hno : sgM τ (b : Int) x = -1) : RC (apB σ b (mkL s t p m) x) (wrM τ (b : Int) s t p m x) := by
  obtain ⟨r1, r2, r3, r4, r5⟩ := id hR
  have h0 := r2.2.2.1 (b : Int) (by omega) (by omega)
  have hB := r5 b hb
  refine ⟨IC_ap r1 (by omega) (by have := hB.1; omega) (mkL_rg h) hx, IM_wr r2 ⟨h0.1, hn⟩ h hx, GrR_cg r3 ?_ ?_ wr_17, ?_, ?_⟩
  · funext j
    rw [ap_lk (by omega), if_neg (by omega), if_neg (by omega)]
  · rw [ap_1, if_neg (by omega)]
  · rw [ap_1, if_neg (by omega), r4]
    rfl
  · intro l hl
    by_cases q : l = b
    · subst q
      refine BkR_app hB ⟨h0.1, hn⟩ ?_ ?_ (fun j j0 j1 => ?_) (fun j j0 j1 => ?_) (fun k => wr_lk k) (fun k => wr_16 k) hno
      · rw [ap_1, if_pos rfl]
      · rw [wr_11, if_pos rfl]
      · rw [ap_lk (by omega), if_pos rfl]
      · rw [ap_lk (by omega), if_neg (by omega), if_pos rfl]
    · have hl0 := r2.2.2.1 (l : Int) (by omega) (by omega)
      refine BkR_keep (r5 l hl) hl0 ?_ ?_ (fun j j0 j1 => ?_) (fun j j0 j1 => ?_) (fun z z0 z1 => ?_) (fun z z0 z1 => ?_)
      · rw [ap_1, if_neg (by omega)]
      · rw [wr_11, if_neg (by omega)]
      · rw [ap_lk (by omega), if_neg (by omega), if_neg (by omega)]
      · rw [ap_lk (by omega), if_neg (by omega), if_neg (by omega)]
      · rw [wr_lk, if_neg (by omega)]
      · rw [wr_16, if_neg (by omega)]
