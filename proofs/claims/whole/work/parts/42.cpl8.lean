/-! groups joined -/
theorem unF_r (x y : Int) : ∀ (d : Nat) (z : Int) (τ : Sg) (r : Nat) (j : Int), (unF x y d z τ).2 r j = if r = 0 ∧ z ≤ j ∧ j < z + d ∧ τ.2 0 j = y then x else τ.2 r j := by
  intro d
  induction d with
  | zero => intro z τ r j; rw [if_neg (by omega)]; rfl
  | succ d ih =>
    intro z τ r j
    rw [show unF x y (d + 1) z τ = unF x y d (z + 1) (if τ.2 0 z = y then sG τ 0 z x else τ) from rfl, ih]
    have st : ∀ (r : Nat) (j : Int), (if τ.2 0 z = y then sG τ 0 z x else τ).2 r j = if r = 0 ∧ j = z ∧ τ.2 0 z = y then x else τ.2 r j := by
      intro r j
      by_cases h : τ.2 0 z = y
      · rw [if_pos h, sG_2]
        by_cases hr : r = 0
        · subst hr
          rw [if_pos rfl]
          by_cases hj : j = z
          · rw [if_pos hj, if_pos ⟨rfl, hj, h⟩]
          · rw [if_neg hj, if_neg (fun q => hj q.2.1)]
        · rw [if_neg hr, if_neg (fun q => hr q.1)]
      · rw [if_neg h, if_neg (fun q => h q.2.2)]
    rw [st, st]
    by_cases hr : r = 0
    · subst hr
      by_cases hj : j = z
      · subst hj
        rw [if_neg (by omega)]
        by_cases h : τ.2 0 j = y
        · rw [if_pos ⟨rfl, rfl, h⟩, if_pos ⟨rfl, by omega, by omega, h⟩]
        · rw [if_neg (fun q => h q.2.2), if_neg (fun q => h q.2.2.2)]
      · have e : (if (0 : Nat) = 0 ∧ j = z ∧ τ.2 0 z = y then x else τ.2 0 j) = τ.2 0 j := if_neg (fun q => hj q.2.1)
        rw [e]
        by_cases w : z + 1 ≤ j ∧ j < z + 1 + d ∧ τ.2 0 j = y
        · rw [if_pos ⟨rfl, w⟩, if_pos ⟨rfl, by omega, by omega, w.2.2⟩]
        · rw [if_neg (fun q => w q.2), if_neg (fun q => w ⟨by omega, by omega, q.2.2.2⟩)]
    · rw [if_neg (fun q => hr q.1), if_neg (fun q => hr q.1), if_neg (fun q => hr q.1)]
theorem jnF_r (x y : Int) : ∀ (d : Nat) (z : Int) (τ : Sg) (r : Nat) (j : Int), (jnF x y d z τ).2 r j = if r = 17 ∧ z ≤ j ∧ j < z + d ∧ τ.2 17 j = y then x else τ.2 r j := by
  intro d
  induction d with
  | zero => intro z τ r j; rw [if_neg (by omega)]; rfl
  | succ d ih =>
    intro z τ r j
    rw [show jnF x y (d + 1) z τ = jnF x y d (z + 1) (if τ.2 17 z = y then sG τ 17 z x else τ) from rfl, ih]
    have st : ∀ (r : Nat) (j : Int), (if τ.2 17 z = y then sG τ 17 z x else τ).2 r j = if r = 17 ∧ j = z ∧ τ.2 17 z = y then x else τ.2 r j := by
      intro r j
      by_cases h : τ.2 17 z = y
      · rw [if_pos h, sG_2]
        by_cases hr : r = 17
        · subst hr
          rw [if_pos rfl]
          by_cases hj : j = z
          · rw [if_pos hj, if_pos ⟨rfl, hj, h⟩]
          · rw [if_neg hj, if_neg (fun q => hj q.2.1)]
        · rw [if_neg hr, if_neg (fun q => hr q.1)]
      · rw [if_neg h, if_neg (fun q => h q.2.2)]
    rw [st, st]
    by_cases hr : r = 17
    · subst hr
      by_cases hj : j = z
      · subst hj
        rw [if_neg (by omega)]
        by_cases h : τ.2 17 j = y
        · rw [if_pos ⟨rfl, rfl, h⟩, if_pos ⟨rfl, by omega, by omega, h⟩]
        · rw [if_neg (fun q => h q.2.2), if_neg (fun q => h q.2.2.2)]
      · have e : (if (17 : Nat) = 17 ∧ j = z ∧ τ.2 17 z = y then x else τ.2 17 j) = τ.2 17 j := if_neg (fun q => hj q.2.1)
        rw [e]
        by_cases w : z + 1 ≤ j ∧ j < z + 1 + d ∧ τ.2 17 j = y
        · rw [if_pos ⟨rfl, w⟩, if_pos ⟨rfl, by omega, by omega, w.2.2⟩]
        · rw [if_neg (fun q => w q.2), if_neg (fun q => w ⟨by omega, by omega, q.2.2.2⟩)]
    · rw [if_neg (fun q => hr q.1), if_neg (fun q => hr q.1), if_neg (fun q => hr q.1)]
def loI (x y : Int) : Int := if x ≤ y then x else y
def hiI (x y : Int) : Int := if y ≤ x then x else y
theorem jn_r (τ : Sg) (a b : Int) (r : Nat) (j : Int) : (jnM τ a b).2 r j = if r = 17 ∧ 0 ≤ j ∧ j < 9 ∧ τ.2 17 j = hiI (τ.2 17 a) (τ.2 17 b) then loI (τ.2 17 a) (τ.2 17 b) else τ.2 r j := by
  show (jnF _ _ 9 0 τ).2 r j = _
  rw [jnF_r]
  rfl
theorem un_r (σ : Sg) (a b : Int) (r : Nat) (j : Int) : (unP σ a b).2 r j = if r = 0 ∧ 0 ≤ j ∧ j < 9 ∧ σ.2 0 j = σ.2 0 b then σ.2 0 a else σ.2 r j := by
  unfold unP
  by_cases h : σ.2 0 a = σ.2 0 b
  · rw [if_pos h]
    by_cases w : r = 0 ∧ 0 ≤ j ∧ j < 9 ∧ σ.2 0 j = σ.2 0 b
    · rw [if_pos w, h, ← w.2.2.2, w.1]
    · rw [if_neg w]
  · rw [if_neg h]
    show (unF _ _ 9 0 σ).2 r j = _
    rw [unF_r]
    rfl
theorem un_1 (σ : Sg) (a b : Int) (v : Nat) : (unP σ a b).1 v = if v = 1 ∧ σ.2 0 a ≠ σ.2 0 b then σ.1 1 - 1 else σ.1 v := by
  unfold unP
  by_cases h : σ.2 0 a = σ.2 0 b
  · rw [if_pos h, if_neg (fun q => q.2 h)]
  · rw [if_neg h]
    show (if v = 1 then σ.1 1 - 1 else (unF _ _ 9 0 σ).1 v) = _
    rw [unF_1]
    by_cases q : v = 1
    · rw [if_pos q, if_pos ⟨q, h⟩]
    · rw [if_neg q, if_neg (fun w => q w.1)]
theorem jeq {P Q A B p q a b : Int} (h1 : P = Q ↔ p = q) (h2 : P = A ↔ p = a) (h3 : P = B ↔ p = b) (h4 : Q = A ↔ q = a) (h5 : Q = B ↔ q = b) (h6 : A = B ↔ a = b) :
    ((if P = B then A else P) = (if Q = B then A else Q) ↔ (if p = hiI a b then loI a b else p) = (if q = hiI a b then loI a b else q)) ∧ ((P = Q ∨ (P = A ∧ Q = B) ∨ (P = B ∧ Q = A)) ↔ (if p = hiI a b then loI a b else p) = (if q = hiI a b then loI a b else q)) := by
  have hl : (a < b ∧ hiI a b = b ∧ loI a b = a) ∨ (b < a ∧ hiI a b = a ∧ loI a b = b) ∨ (a = b ∧ hiI a b = a ∧ loI a b = a) := by
    unfold hiI loI
    rcases Int.lt_trichotomy a b with h | h | h
    · rw [if_neg (by omega), if_pos (by omega)]; exact Or.inl ⟨h, rfl, rfl⟩
    · rw [if_pos (by omega), if_pos (by omega)]; exact Or.inr (Or.inr ⟨h, rfl, rfl⟩)
    · rw [if_pos (by omega), if_neg (by omega)]; exact Or.inr (Or.inl ⟨h, rfl, rfl⟩)
  rcases hl with ⟨hab, e1, e2⟩ | ⟨hab, e1, e2⟩ | ⟨hab, e1, e2⟩
  · rw [e1, e2]
    by_cases c1 : P = B
    · rw [if_pos c1, if_pos (h3.mp c1)]
      by_cases c2 : Q = B
      · rw [if_pos c2, if_pos (h5.mp c2)]
        omega
      · rw [if_neg c2, if_neg (fun w => c2 (h5.mpr w))]
        omega
    · rw [if_neg c1, if_neg (fun w => c1 (h3.mpr w))]
      by_cases c2 : Q = B
      · rw [if_pos c2, if_pos (h5.mp c2)]
        omega
      · rw [if_neg c2, if_neg (fun w => c2 (h5.mpr w))]
        omega
  · rw [e1, e2]
    by_cases d1 : P = A
    · rw [if_pos (h2.mp d1)]
      by_cases d2 : Q = A
      · rw [if_pos (h4.mp d2)]
        split <;> split <;> omega
      · rw [if_neg (fun w => d2 (h4.mpr w))]
        split <;> split <;> omega
    · rw [if_neg (fun w => d1 (h2.mpr w))]
      by_cases d2 : Q = A
      · rw [if_pos (h4.mp d2)]
        split <;> split <;> omega
      · rw [if_neg (fun w => d2 (h4.mpr w))]
        split <;> split <;> omega
  · rw [e1, e2]
    have hAB : A = B := h6.mpr hab
    by_cases d1 : P = A
    · rw [if_pos (h2.mp d1), if_pos (by omega)]
      by_cases d2 : Q = A
      · rw [if_pos (h4.mp d2), if_pos (by omega)]
        omega
      · rw [if_neg (fun w => d2 (h4.mpr w)), if_neg (by omega)]
        omega
    · rw [if_neg (fun w => d1 (h2.mpr w)), if_neg (by omega)]
      by_cases d2 : Q = A
      · rw [if_pos (h4.mp d2), if_pos (by omega)]
        omega
      · rw [if_neg (fun w => d2 (h4.mpr w)), if_neg (by omega)]
        omega
theorem jn_17 (τ : Sg) (a b : Int) {j : Int} (h0 : 0 ≤ j) (h1 : j < 9) : (jnM τ a b).2 17 j = if τ.2 17 j = hiI (τ.2 17 a) (τ.2 17 b) then loI (τ.2 17 a) (τ.2 17 b) else τ.2 17 j := by
  rw [jn_r]
  by_cases w : τ.2 17 j = hiI (τ.2 17 a) (τ.2 17 b)
  · rw [if_pos ⟨rfl, h0, h1, w⟩, if_pos w]
  · rw [if_neg (fun q => w q.2.2.2), if_neg w]
theorem un_0 (σ : Sg) (a b : Int) {j : Int} (h0 : 0 ≤ j) (h1 : j < 9) : (unP σ a b).2 0 j = if σ.2 0 j = σ.2 0 b then σ.2 0 a else σ.2 0 j := by
  rw [un_r]
  by_cases w : σ.2 0 j = σ.2 0 b
  · rw [if_pos ⟨rfl, h0, h1, w⟩, if_pos w]
  · rw [if_neg (fun q => w q.2.2.2), if_neg w]
theorem lohi (x y : Int) : (loI x y = x ∨ loI x y = y) ∧ (hiI x y = x ∨ hiI x y = y) ∧ loI x y ≤ hiI x y ∧ (x ≠ y → loI x y ≠ hiI x y) ∧ (x = y → loI x y = hiI x y) := by
  unfold loI hiI
  rcases Int.lt_trichotomy x y with h | h | h
  · rw [if_pos (by omega), if_neg (by omega)]; omega
  · rw [if_pos (by omega), if_pos (by omega)]; omega
  · rw [if_neg (by omega), if_pos (by omega)]; omega
theorem jn_ag {σ τ : Sg} (hG : GrR σ τ) {a b : Int} (ha : 0 ≤ a ∧ a < 9) (hb : 0 ≤ b ∧ b < 9) : agM (jnM τ a b) = if τ.2 17 a = τ.2 17 b then agM τ else agM τ - 1 := by
  obtain ⟨-, g2, -⟩ := hG
  have ga := g2 a ha.1 ha.2
  have gb := g2 b hb.1 hb.2
  obtain ⟨l1, l2, l3, l4, l5⟩ := lohi (τ.2 17 a) (τ.2 17 b)
  by_cases h : τ.2 17 a = τ.2 17 b
  · rw [if_pos h]
    unfold agM
    refine cnt_cg _ _ 9 0 0 (fun y y0 y1 => ?_)
    show decide ((jnM τ a b).2 17 y = y) = decide (τ.2 17 y = y)
    rw [jn_17 τ a b y0 (by omega)]
    have := l5 h
    refine decide_eq_decide.mpr ?_
    split <;> omega
  · rw [if_neg h]
    have ne := l4 h
    have hhi : 0 ≤ hiI (τ.2 17 a) (τ.2 17 b) ∧ hiI (τ.2 17 a) (τ.2 17 b) < 9 := by omega
    have hh : τ.2 17 (hiI (τ.2 17 a) (τ.2 17 b)) = hiI (τ.2 17 a) (τ.2 17 b) := by
      rcases l2 with q | q <;> rw [q]
      · exact ga.2.2
      · exact gb.2.2
    have hlo : τ.2 17 (loI (τ.2 17 a) (τ.2 17 b)) = loI (τ.2 17 a) (τ.2 17 b) := by
      rcases l1 with q | q <;> rw [q]
      · exact ga.2.2
      · exact gb.2.2
    have key := cnt_one (agC τ) (agC (jnM τ a b)) (hiI (τ.2 17 a) (τ.2 17 b)) 9 0 hhi.1 (by omega) (fun y y0 y1 y2 => by
      show decide (τ.2 17 y = y) = decide ((jnM τ a b).2 17 y = y)
      rw [jn_17 τ a b y0 (by omega)]
      refine decide_eq_decide.mpr ?_
      by_cases w : τ.2 17 y = hiI (τ.2 17 a) (τ.2 17 b)
      · rw [if_pos w]
        refine ⟨fun q => by omega, fun q => ?_⟩
        rw [q] at hlo
        omega
      · rw [if_neg w])
    have c1 : agC τ (hiI (τ.2 17 a) (τ.2 17 b)) = true := decide_eq_true hh
    have c2 : agC (jnM τ a b) (hiI (τ.2 17 a) (τ.2 17 b)) = false := by
      refine decide_eq_false ?_
      rw [jn_17 τ a b hhi.1 hhi.2, if_pos hh]
      exact ne
    rw [c1, c2, if_pos rfl, if_neg Bool.false_ne_true] at key
    unfold agM
    omega
theorem jn_lk (τ : Sg) (a b k : Int) : lkM (jnM τ a b) k = lkM τ k := by
  unfold lkM
  rw [jn_r, if_neg (by omega), jn_r, if_neg (by omega), jn_r, if_neg (by omega), jn_r, if_neg (by omega)]
theorem RC_jn {σ τ : Sg} (hR : RC σ τ) {a b : Int} (h : 0 ≤ a ∧ a < 9 ∧ 0 ≤ b ∧ b < 9) : RC (unP σ a b) (jnM τ a b) := by
  obtain ⟨r1, r2, r3, r4, r5⟩ := id hR
  obtain ⟨g1, g2, g3⟩ := id r3
  have ha := g2 a h.1 h.2.1
  have hb := g2 b h.2.2.1 h.2.2.2
  have gab := g1 a b h.1 h.2.1 h.2.2.1 h.2.2.2
  have hag := jn_ag r3 (a := a) (b := b) ⟨h.1, h.2.1⟩ h.2.2
  have hcr := cnt_rg (agC (jnM τ a b)) 9 0 0
  have hcr : 0 ≤ agM (jnM τ a b) ∧ agM (jnM τ a b) ≤ 9 := by unfold agM; omega
  have h1 : (unP σ a b).1 1 = agM (jnM τ a b) := by
    rw [un_1, hag, ← g3]
    by_cases q : σ.2 0 a = σ.2 0 b
    · rw [if_neg (fun w => w.2 q), if_pos (gab.mp q)]
    · rw [if_pos ⟨rfl, q⟩, if_neg (fun w => q (gab.mpr w))]
  refine ⟨?_, IM_jn r2 h, ⟨fun p q p0 p1 q0 q1 => ?_, fun p p0 p1 => ?_, h1⟩, ?_, fun l hl => ?_⟩
  · obtain ⟨i1, i2, i3, i4, i5, i6⟩ := r1
    refine ⟨?_, by rw [h1]; exact hcr, fun j j0 j1 => ?_, fun q hq => ?_, fun q hq j j0 j1 => ?_, fun q hq j j0 j1 => ?_⟩
    · rw [un_1, if_neg (by omega)]; exact i1
    · rw [un_0 σ a b j0 j1]
      have ia := i3 a h.1 h.2.1
      have ij := i3 j j0 j1
      split
      · exact ia
      · exact ij
    · rw [un_1, if_neg (by omega)]; exact i4 q hq
    · rw [un_r, if_neg (by omega)]; exact i5 q hq j j0 j1
    · rw [un_r, if_neg (by omega)]; exact i6 q hq j j0 j1
  · rw [un_0 σ a b p0 p1, un_0 σ a b q0 q1, jn_17 τ a b p0 p1, jn_17 τ a b q0 q1]
    exact (jeq (g1 p q p0 p1 q0 q1) (g1 p a p0 p1 h.1 h.2.1) (g1 p b p0 p1 h.2.2.1 h.2.2.2) (g1 q a q0 q1 h.1 h.2.1) (g1 q b q0 q1 h.2.2.1 h.2.2.2) gab).1
  · obtain ⟨l1, l2, l3, l4, l5⟩ := lohi (τ.2 17 a) (τ.2 17 b)
    have gp := g2 p p0 p1
    rw [jn_17 τ a b p0 p1]
    by_cases w : τ.2 17 p = hiI (τ.2 17 a) (τ.2 17 b)
    · rw [if_pos w]
      have hlo : τ.2 17 (loI (τ.2 17 a) (τ.2 17 b)) = loI (τ.2 17 a) (τ.2 17 b) := by
        rcases l1 with q | q <;> rw [q]
        · exact ha.2.2
        · exact hb.2.2
      refine ⟨by omega, by omega, ?_⟩
      rw [jn_17 τ a b (by omega) (by omega), hlo]
      split <;> omega
    · rw [if_neg w]
      refine ⟨gp.1, gp.2.1, ?_⟩
      rw [jn_17 τ a b gp.1 (by omega), gp.2.2, if_neg w]
  · rw [un_1, if_neg (by omega), jnM_1]
    exact r4
  · have nl := r2.2.2.1 (l : Int) (by omega) (by omega)
    refine BkR_keep (r5 l hl) nl ?_ ?_ (fun j _ _ => ?_) (fun j _ _ => ?_) (fun y y0 y1 => ?_) (fun y y0 y1 => ?_)
    · rw [un_1, if_neg (by omega)]
    · rw [jn_r, if_neg (by omega)]
    · rw [un_r, if_neg (by omega)]
    · rw [un_r, if_neg (by omega)]
    · exact jn_lk τ a b _
    · rw [jn_r, if_neg (by omega)]
/-- alike, if joined -/
theorem caj_eq {σ τ : Sg} (hR : RC σ τ) {p q : Int} (h : 0 ≤ p ∧ p < 9 ∧ 0 ≤ q ∧ q < 9) {l : Int} (hl : 0 ≤ l ∧ l < 4) : cajB σ l.toNat p q = caM (jnM τ p q) l := by
  have hB := RC_bk hR hl
  obtain ⟨r1, r2, ⟨g1, g2, g3⟩, r4, r5⟩ := hR
  have hn := r2.2.2.1 l hl.1 hl.2
  have hN := nM_eq r2 hl
  have hJ := IM_jn r2 h
  have e11 : nM (jnM τ p q) l = nM τ l := by
    show ((jnM τ p q).2 11 l).toNat = (τ.2 11 l).toNat
    rw [jn_r, if_neg (by omega)]
  unfold cajB caM
  rw [e11, nn_eq hB]
  refine pO_pMF _ _ (16 * l + 0) (nM τ l) (fun z w h1 h2 h3 => ?_)
  have e1 := lk_eq hB (z := z) h1 (by omega)
  have e2 := lk_eq hB (z := w) (by omega) h3
  have k1 := lkM_rg r2 (k := 16 * l + z) (by omega)
  have k2 := lkM_rg r2 (k := 16 * l + w) (by omega)
  have m1 := (mk_sh (lkM_in r2 (k := 16 * l + z) (by omega))).2.2.1
  show decide (σ.2 (1 + l.toNat) z % 256 = σ.2 (1 + l.toNat) w % 256 ∧ sgI (σ.2 0) p q (σ.2 (1 + l.toNat) z / 256) (σ.2 (1 + l.toNat) w / 256) = true) = decide (dst ((jnM τ p q).2 17) (lkM (jnM τ p q) (16 * l + 0 + w)) (lkM (jnM τ p q) (16 * l + 0 + z)) = 0)
  rw [show 16 * l + 0 + w = 16 * l + w by omega, show 16 * l + 0 + z = 16 * l + z by omega, jn_lk, jn_lk, e1.1, e2.1]
  refine decide_eq_decide.mpr ?_
  rw [dst_sy, dst_0 k1 k2]
  generalize hx : lkM τ (16 * l + z) = x at k1 ⊢
  generalize hy : lkM τ (16 * l + w) = y at k2 ⊢
  unfold alk
  refine and_congr Iff.rfl ?_
  rw [jn_17 τ p q (by omega) (by omega), jn_17 τ p q (by omega) (by omega)]
  have X0 : 0 ≤ x / 256 ∧ x / 256 < 9 := by omega
  have Y0 : 0 ≤ y / 256 ∧ y / 256 < 9 := by omega
  unfold sgI
  rw [decide_eq_true_eq]
  exact (jeq (g1 _ _ X0.1 X0.2 Y0.1 Y0.2) (g1 _ p X0.1 X0.2 h.1 h.2.1) (g1 _ q X0.1 X0.2 h.2.2.1 h.2.2.2) (g1 _ p Y0.1 Y0.2 h.1 h.2.1) (g1 _ q Y0.1 Y0.2 h.2.2.1 h.2.2.2) (g1 p q h.1 h.2.1 h.2.2.1 h.2.2.2)).2
theorem ajF_eq {σ τ : Sg} (hR : RC σ τ) {p q : Int} (h : 0 ≤ p ∧ p < 9 ∧ 0 ≤ q ∧ q < 9) : ∀ (d : Nat) (z a : Int), 0 ≤ z → z + d ≤ 4 → ajF σ p q d z a = caS (jnM τ p q) d z a := by
  intro d
  induction d with
  | zero => intro z a _ _; rfl
  | succ d ih =>
    intro z a h0 h1
    rw [show ajF σ p q (d + 1) z a = ajF σ p q d (z + 1) (a + cajB σ z.toNat p q) from rfl, show caS (jnM τ p q) (d + 1) z a = caS (jnM τ p q) d (z + 1) (a + caM (jnM τ p q) z) from rfl, caj_eq hR h ⟨h0, by omega⟩]
    exact ih (z + 1) _ (by omega) (by omega)
theorem aj_eq {σ τ : Sg} (hR : RC σ τ) {p q : Int} (h : 0 ≤ p ∧ p < 9 ∧ 0 ≤ q ∧ q < 9) : ajB σ p q = (ajM τ p q).1 ∧ eqM τ (ajM τ p q).2 := by
  have h8 := hR.2.1.1
  refine ⟨?_, ?_, fun r hr => ?_⟩
  · unfold ajB ajM
    rw [hR.2.2.2.1]
    exact ajF_eq hR h (τ.1 8).toNat 0 0 (by omega) (by omega)
  · show τ.1 8 = (jnM τ p q).1 8
    rw [jnM_1]
  · funext j
    show τ.2 r j = (sR (jnM τ p q) 17 _).2 r j
    rw [sR_2]
    by_cases e : r = 17
    · subst e
      rw [if_pos rfl]
      by_cases w : 0 ≤ j ∧ j < 9
      · rw [if_pos ⟨w.1, by omega⟩]
        unfold wrG
        rw [if_pos ⟨w.1, by omega⟩]
      · rw [if_neg (by omega), jn_r, if_neg (by omega)]
    · rw [if_neg e, jn_r, if_neg (by omega)]
theorem eqC_aj {σ : Sg} {p q : Int} : eqC σ (ajM σ p q).2 := eqC_jn.tr (eqC_sR (by decide))
/-! the checksum -/
theorem mb_eq {σ τ : Sg} (hR : RC σ τ) {z : Int} (hz : 0 ≤ z ∧ z < 4) (D : Int) : mbB σ z.toNat D = mbM τ z D := by
  have hB := RC_bk hR hz
  unfold mbB mbM
  rw [hB.1, caB_eq hR.2.1 hz hR.2.2.1 hB, ctB_eq hR.2.1 hz hR.2.2.1 hB, faB_eq hR.2.1 hz hR.2.2.1 hB, snB_eq hR.2.1 hz hR.2.2.1 hB]
theorem msg_eq {σ τ : Sg} (hR : RC σ τ) {l : Int} (hl : 0 ≤ l ∧ l < 4) : ∀ (d : Nat) (z D : Int), 0 ≤ z → z + d ≤ τ.2 11 l → msgF σ l.toNat d z D = msgM τ l d z D := by
  have hB := RC_bk hR hl
  have hn := hR.2.1.2.2.1 l hl.1 hl.2
  intro d
  induction d with
  | zero => intro z D _ _; rfl
  | succ d ih =>
    intro z D h0 h1
    have e := hB.2.1 z h0 (by omega)
    have hk := mk_sh (lkM_in hR.2.1 (k := 16 * l + z) (by omega))
    rw [show msgF σ l.toNat (d + 1) z D = msgF σ l.toNat d (z + 1) (mx (mx (mx (mx (mx D (σ.2 (1 + l.toNat) z % 16)) (σ.2 (1 + l.toNat) z / 16 % 4)) (σ.2 (1 + l.toNat) z / 256)) (σ.2 (6 + l.toNat) z)) (tfB σ l.toNat z)) from rfl]
    rw [show msgM τ l (d + 1) z D = msgM τ l d (z + 1) (mx (mx (mx (mx (mx D (τ.2 12 (16 * l + z))) (τ.2 13 (16 * l + z))) (τ.2 14 (16 * l + z))) (τ.2 16 (16 * l + z))) (btM τ l z)) from rfl]
    rw [e.1, e.2, tfB_eq hR.2.1 hl hR.2.2.1 hB ⟨h0, by omega⟩, show lkM τ (16 * l + z) % 16 = τ.2 12 (16 * l + z) from hk.1, show lkM τ (16 * l + z) / 16 % 4 = τ.2 13 (16 * l + z) from hk.2.1, show lkM τ (16 * l + z) / 256 = τ.2 14 (16 * l + z) from hk.2.2.1]
    exact ih (z + 1) _ (by omega) (by omega)
theorem dgI_eq {a : Int} (ha : 0 ≤ a ∧ a < 4) : ∀ (d : Nat) (z D : Int) (σ τ : Sg), RC σ τ → 0 ≤ z → z + d ≤ 4 → (dgI a d z D σ).1 = (dgMI a d z D τ).1 ∧ RC (dgI a d z D σ).2 (dgMI a d z D τ).2 := by
  intro d
  induction d with
  | zero => intro z D σ τ hR _ _; exact ⟨rfl, hR⟩
  | succ d ih =>
    intro z D σ τ hR h0 h1
    have hz : 0 ≤ z ∧ z < 4 := ⟨h0, by omega⟩
    obtain ⟨b1, b2⟩ := RC_bb hR ha hz
    rw [show dgI a (d + 1) z D σ = dgI a d (z + 1) (mx (mx (mx D (cuB σ z.toNat a.toNat)) (cmB σ z.toNat a.toNat)) (bbB σ a z).1) (bbB σ a z).2 from rfl]
    rw [show dgMI a (d + 1) z D τ = dgMI a d (z + 1) (mx (mx (mx D (raM τ a z 1)) (raM τ a z 0)) (tbM τ a z).1) (tbM τ a z).2 from rfl]
    rw [cuB_eq hR.2.1 hz ha hR.2.2.1 (RC_bk hR hz) (RC_bk hR ha), cmB_eq hR.2.1 hz ha hR.2.2.1 (RC_bk hR hz) (RC_bk hR ha), b1]
    exact ih (z + 1) _ _ _ b2 (by omega) (by omega)
theorem dgO_eq : ∀ (d : Nat) (z D : Int) (σ τ : Sg), RC σ τ → 0 ≤ z → z + d ≤ 4 → (dgO d z D σ).1 = (dgMO d z D τ).1 ∧ RC (dgO d z D σ).2 (dgMO d z D τ).2 := by
  intro d
  induction d with
  | zero => intro z D σ τ hR _ _; exact ⟨rfl, hR⟩
  | succ d ih =>
    intro z D σ τ hR h0 h1
    have hz : 0 ≤ z ∧ z < 4 := ⟨h0, by omega⟩
    have h8 := hR.2.1.1
    have e0 : (σ.1 0).toNat = (τ.1 8).toNat := by rw [hR.2.2.2.1]
    obtain ⟨i1, i2⟩ := dgI_eq (a := z) hz (τ.1 8).toNat 0 (mbM τ z D) σ τ hR (by omega) (by omega)
    rw [show dgO (d + 1) z D σ = dgO d (z + 1) (msgF (dgI z (σ.1 0).toNat 0 (mbB σ z.toNat D) σ).2 z.toNat (cN (dgI z (σ.1 0).toNat 0 (mbB σ z.toNat D) σ).2 z.toNat) 0 (dgI z (σ.1 0).toNat 0 (mbB σ z.toNat D) σ).1) (dgI z (σ.1 0).toNat 0 (mbB σ z.toNat D) σ).2 from rfl]
    rw [show dgMO (d + 1) z D τ = dgMO d (z + 1) (msgM (dgMI z (τ.1 8).toNat 0 (mbM τ z D) τ).2 z (nM (dgMI z (τ.1 8).toNat 0 (mbM τ z D) τ).2 z) 0 (dgMI z (τ.1 8).toNat 0 (mbM τ z D) τ).1) (dgMI z (τ.1 8).toNat 0 (mbM τ z D) τ).2 from rfl]
    rw [e0, mb_eq hR hz, i1, nn_eq (RC_bk i2 hz)]
    have hN := nM_eq i2.2.1 hz
    rw [msg_eq i2 hz _ 0 _ (by omega) (by omega)]
    exact ih (z + 1) _ _ _ i2 (by omega) (by omega)
theorem dg_eq {σ τ : Sg} (hR : RC σ τ) : (dgB σ).1 = (dgM τ).1 ∧ RC (dgB σ).2 (dgM τ).2 := by
  have h8 := hR.2.1.1
  unfold dgB dgM
  rw [hR.2.2.2.1, hR.2.2.1.2.2]
  exact dgO_eq (τ.1 8).toNat 0 _ σ τ hR (by omega) (by omega)
