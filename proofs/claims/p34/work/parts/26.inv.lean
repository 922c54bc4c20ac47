theorem sG_2 (σ : Sg) (a : Nat) (i x : Int) (b : Nat) (j : Int) : (sG σ a i x).2 b j = if b = a then (if j = i then x else σ.2 a j) else σ.2 b j := by
  show (if b = a then (fun j => if j = i then x else σ.2 a j) else σ.2 b) j = _
  split <;> rfl
theorem IC_ap {σ : Sg} (hI : IC σ) {b : Nat} (hb : b < 5) {L m : Int} (hn : 0 ≤ σ.1 (2 + b) ∧ σ.1 (2 + b) < 16) (hL : 0 ≤ L ∧ L < 2304) (hm : 0 ≤ m ∧ m < 30) : IC (apB σ b L m) := by
  refine ⟨?_, ?_, ?_, fun c hc => ?_, fun c hc j h0 h1 => ?_, fun c hc j h0 h1 => ?_⟩
  · show 0 ≤ (if 0 = 2 + b then _ else σ.1 0) ∧ (if 0 = 2 + b then _ else σ.1 0) ≤ 4
    rw [if_neg (by omega)]
    exact hI.1
  · show 0 ≤ (if 1 = 2 + b then _ else σ.1 1) ∧ (if 1 = 2 + b then _ else σ.1 1) ≤ 9
    rw [if_neg (by omega)]
    exact hI.2.1
  · intro j h0 h1
    show 0 ≤ (sG (sG σ (1 + b) (σ.1 (2 + b)) L) (6 + b) (σ.1 (2 + b)) m).2 0 j ∧ (sG (sG σ (1 + b) (σ.1 (2 + b)) L) (6 + b) (σ.1 (2 + b)) m).2 0 j < 9
    rw [sG_2, if_neg (by omega), sG_2, if_neg (by omega)]
    exact hI.2.2.1 j h0 h1
  · show 0 ≤ (if 2 + c = 2 + b then σ.1 (2 + b) + 1 else σ.1 (2 + c)) ∧ (if 2 + c = 2 + b then σ.1 (2 + b) + 1 else σ.1 (2 + c)) ≤ 16
    split
    · omega
    · exact hI.2.2.2.1 c hc
  · show 0 ≤ (sG (sG σ (1 + b) (σ.1 (2 + b)) L) (6 + b) (σ.1 (2 + b)) m).2 (1 + c) j ∧ (sG (sG σ (1 + b) (σ.1 (2 + b)) L) (6 + b) (σ.1 (2 + b)) m).2 (1 + c) j < 2304
    rw [sG_2, if_neg (by omega), sG_2]
    split
    · split
      · exact hL
      · exact hI.2.2.2.2.1 b hb j h0 h1
    · exact hI.2.2.2.2.1 c hc j h0 h1
  · show 0 ≤ (sG (sG σ (1 + b) (σ.1 (2 + b)) L) (6 + b) (σ.1 (2 + b)) m).2 (6 + c) j ∧ (sG (sG σ (1 + b) (σ.1 (2 + b)) L) (6 + b) (σ.1 (2 + b)) m).2 (6 + c) j < 30
    rw [sG_2]
    split
    · split
      · exact hm
      · rw [sG_2, if_neg (by omega)]
        exact hI.2.2.2.2.2 b hb j h0 h1
    · rw [sG_2, if_neg (by omega)]
      exact hI.2.2.2.2.2 c hc j h0 h1
theorem fuB_rg {σ : Sg} {e : Nat} {L : Int} (hL : 0 ≤ L ∧ L < 2304) : fuB σ e L = -1 ∨ (0 ≤ fuB σ e L ∧ fuB σ e L < 2304) := fuF_rg _ _ _ hL 4 0 (by omega)
theorem ap_1 {σ : Sg} {b : Nat} {L m : Int} (v : Nat) : (apB σ b L m).1 v = if v = 2 + b then σ.1 (2 + b) + 1 else σ.1 v := rfl
theorem ap_lk {σ : Sg} {b : Nat} (hb : b < 5) {L m : Int} (r : Nat) (j : Int) : (apB σ b L m).2 r j = if r = 1 + b then (if j = σ.1 (2 + b) then L else σ.2 r j) else if r = 6 + b then (if j = σ.1 (2 + b) then m else σ.2 r j) else σ.2 r j := by
  show (sG (sG σ (1 + b) (σ.1 (2 + b)) L) (6 + b) (σ.1 (2 + b)) m).2 r j = _
  by_cases h1 : r = 1 + b
  · subst h1
    rw [sG_2, if_neg (by omega), sG_2, if_pos rfl, if_pos rfl]
  · by_cases h2 : r = 6 + b
    · subst h2
      rw [sG_2, if_pos rfl, if_neg h1, if_pos rfl, sG_2, if_neg h1]
    · rw [sG_2, if_neg h2, sG_2, if_neg h1, if_neg h1, if_neg h2]
theorem rmF_r {b : Nat} (hb : b < 5) : ∀ (d : Nat) (z : Int) (τ : Sg) (r : Nat) (j : Int), (rmF b d z τ).2 r j = if (r = 1 + b ∨ r = 6 + b) ∧ z - 1 ≤ j ∧ j < z - 1 + d then τ.2 r (j + 1) else τ.2 r j := by
  intro d
  induction d with
  | zero => intro z τ r j; rw [if_neg (by omega)]; rfl
  | succ d ih =>
    intro z τ r j
    have st : ∀ (r : Nat) (j : Int), (rmS b z τ).2 r j = if (r = 1 + b ∨ r = 6 + b) ∧ j = z - 1 then τ.2 r z else τ.2 r j := by
      intro r j
      show (sG (sG τ (1 + b) (z - 1) (τ.2 (1 + b) z)) (6 + b) (z - 1) ((sG τ (1 + b) (z - 1) (τ.2 (1 + b) z)).2 (6 + b) z)).2 r j = _
      have e0 : (sG τ (1 + b) (z - 1) (τ.2 (1 + b) z)).2 (6 + b) z = τ.2 (6 + b) z := by rw [sG_2, if_neg (by omega)]
      rw [e0]
      by_cases h1 : r = 1 + b
      · subst h1
        rw [sG_2, if_neg (by omega), sG_2, if_pos rfl]
        by_cases h2 : j = z - 1
        · rw [if_pos h2, if_pos ⟨Or.inl rfl, h2⟩]
        · rw [if_neg h2, if_neg (fun q => h2 q.2)]
      · by_cases h3 : r = 6 + b
        · subst h3
          rw [sG_2, if_pos rfl]
          by_cases h2 : j = z - 1
          · rw [if_pos h2, if_pos ⟨Or.inr rfl, h2⟩]
          · rw [if_neg h2, if_neg (fun q => h2 q.2), sG_2, if_neg h1]
        · rw [sG_2, if_neg h3, sG_2, if_neg h1, if_neg (fun q => q.1.elim h1 h3)]
    rw [show rmF b (d + 1) z τ = rmF b d (z + 1) (rmS b z τ) from rfl, ih, st, st]
    by_cases hr : r = 1 + b ∨ r = 6 + b
    · by_cases h1 : j = z - 1
      · rw [if_neg (by omega), if_pos ⟨hr, h1⟩, if_pos ⟨hr, by omega, by omega⟩, h1, show z - 1 + 1 = z by omega]
      · by_cases h2 : z ≤ j ∧ j < z + d
        · rw [if_pos ⟨hr, by omega, by omega⟩, if_neg (by omega), if_pos ⟨hr, by omega, by omega⟩]
        · rw [if_neg (by omega), if_neg (by omega), if_neg (by omega)]
    · rw [if_neg (fun q => hr q.1), if_neg (fun q => hr q.1), if_neg (fun q => hr q.1)]
theorem rm_1 {σ : Sg} {b : Nat} {s : Int} (v : Nat) : (rmB σ b s).1 v = if v = 2 + b then σ.1 (2 + b) - 1 else σ.1 v := by
  show (if v = 2 + b then σ.1 (2 + b) - 1 else (rmF b _ _ σ).1 v) = _
  rw [rmF_1]
theorem rm_r {σ : Sg} {b : Nat} (hb : b < 5) {s : Int} (hs : 0 ≤ s ∧ s < σ.1 (2 + b)) (r : Nat) (j : Int) : (rmB σ b s).2 r j = if (r = 1 + b ∨ r = 6 + b) ∧ s ≤ j ∧ j < σ.1 (2 + b) - 1 then σ.2 r (j + 1) else σ.2 r j := by
  show (rmF b (cN σ b - s.toNat - 1) (s + 1) σ).2 r j = _
  have hd : ((cN σ b - s.toNat - 1 : Nat) : Int) = σ.1 (2 + b) - s - 1 := by
    have : cN σ b = (σ.1 (2 + b)).toNat := rfl
    omega
  rw [rmF_r hb, hd]
  by_cases w : (r = 1 + b ∨ r = 6 + b) ∧ s ≤ j ∧ j < σ.1 (2 + b) - 1
  · rw [if_pos w, if_pos (by omega)]
  · rw [if_neg w, if_neg (by omega)]
theorem unF_r (x y : Int) : ∀ (d : Nat) (z : Int) (τ : Sg) (r : Nat) (j : Int), (unF x y d z τ).2 r j = if r = 0 ∧ z ≤ j ∧ j < z + d ∧ τ.2 0 j = y then x else τ.2 r j := by
  intro d
  induction d with
  | zero => intro z τ r j; rw [if_neg (by omega)]; rfl
  | succ d ih =>
    intro z τ r j
    rw [show unF x y (d + 1) z τ = unF x y d (z + 1) (if τ.2 0 z = y then sG τ 0 z x else τ) from rfl, ih]
    have st : ∀ (r : Nat) (j : Int), (if τ.2 0 z = y then sG τ 0 z x else τ).2 r j = if r = 0 ∧ j = z ∧ τ.2 0 z = y then x else τ.2 r j := by
      intro r j
      by_cases h : τ.2 0 z = y
      · rw [if_pos h, sG_2]
        by_cases hr : r = 0
        · subst hr
          rw [if_pos rfl]
          by_cases hj : j = z
          · rw [if_pos hj, if_pos ⟨rfl, hj, h⟩]
          · rw [if_neg hj, if_neg (fun q => hj q.2.1)]
        · rw [if_neg hr, if_neg (fun q => hr q.1)]
      · rw [if_neg h, if_neg (fun q => h q.2.2)]
    rw [st, st]
    by_cases hr : r = 0
    · subst hr
      by_cases hj : j = z
      · subst hj
        rw [if_neg (by omega)]
        by_cases h : τ.2 0 j = y
        · rw [if_pos ⟨rfl, rfl, h⟩, if_pos ⟨rfl, by omega, by omega, h⟩]
        · rw [if_neg (fun q => h q.2.2), if_neg (fun q => h q.2.2.2)]
      · have e : (if (0 : Nat) = 0 ∧ j = z ∧ τ.2 0 z = y then x else τ.2 0 j) = τ.2 0 j := if_neg (fun q => hj q.2.1)
        rw [e]
        by_cases w : z + 1 ≤ j ∧ j < z + 1 + d ∧ τ.2 0 j = y
        · rw [if_pos ⟨rfl, w⟩, if_pos ⟨rfl, by omega, by omega, w.2.2⟩]
        · rw [if_neg (fun q => w q.2), if_neg (fun q => w ⟨by omega, by omega, q.2.2.2⟩)]
    · rw [if_neg (fun q => hr q.1), if_neg (fun q => hr q.1), if_neg (fun q => hr q.1)]
theorem un_r (σ : Sg) (a b : Int) (r : Nat) (j : Int) : (unP σ a b).2 r j = if r = 0 ∧ 0 ≤ j ∧ j < 9 ∧ σ.2 0 j = σ.2 0 b then σ.2 0 a else σ.2 r j := by
  unfold unP
  by_cases h : σ.2 0 a = σ.2 0 b
  · rw [if_pos h]
    by_cases w : r = 0 ∧ 0 ≤ j ∧ j < 9 ∧ σ.2 0 j = σ.2 0 b
    · rw [if_pos w, h, ← w.2.2.2, w.1]
    · rw [if_neg w]
  · rw [if_neg h]
    show (unF _ _ 9 0 σ).2 r j = _
    rw [unF_r]
    rfl
theorem un_1 (σ : Sg) (a b : Int) (v : Nat) : (unP σ a b).1 v = if v = 1 ∧ σ.2 0 a ≠ σ.2 0 b then σ.1 1 - 1 else σ.1 v := by
  unfold unP
  by_cases h : σ.2 0 a = σ.2 0 b
  · rw [if_pos h, if_neg (fun q => q.2 h)]
  · rw [if_neg h]
    show (if v = 1 then σ.1 1 - 1 else (unF _ _ 9 0 σ).1 v) = _
    rw [unF_1]
    by_cases q : v = 1
    · rw [if_pos q, if_pos ⟨q, h⟩]
    · rw [if_neg q, if_neg (fun w => q w.1)]
theorem un_0 (σ : Sg) (a b : Int) {j : Int} (h0 : 0 ≤ j) (h1 : j < 9) : (unP σ a b).2 0 j = if σ.2 0 j = σ.2 0 b then σ.2 0 a else σ.2 0 j := by
  rw [un_r]
  by_cases w : σ.2 0 j = σ.2 0 b
  · rw [if_pos ⟨rfl, h0, h1, w⟩, if_pos w]
  · rw [if_neg (fun q => w q.2.2.2), if_neg w]
/-! what holds at any time, kept -/
theorem fnd_ft (f : Int → Int) (x : Int) : ∀ (d : Nat) (z : Int), 0 ≤ z → ∀ y : Int, z ≤ y → (y < fnd f x d z) → f y ≠ x := by
  intro d
  induction d with
  | zero => intro z h0 y h1 h2; unfold fnd at h2; omega
  | succ d ih =>
    intro z h0 y h1 h2
    unfold fnd at h2
    by_cases e : f z = x
    · rw [if_pos e] at h2; omega
    · rw [if_neg e] at h2
      by_cases q : y = z
      · rw [q]; exact e
      · exact ih (z + 1) (by omega) y (by omega) h2
/-- p is the first of its group -/
def ft (G : Int → Int) (p : Int) : Bool := decide (grI G p p.toNat 0 1 = 1)
theorem ft_is (G : Int → Int) {p : Int} (h0 : 0 ≤ p) : ft G p = true ↔ ∀ y : Int, 0 ≤ y → y < p → ¬ G p = G y := by
  unfold ft
  rw [decide_eq_true_iff, grI_is G p p.toNat 0 1 (Or.inr rfl)]
  exact ⟨fun h y h1 h2 => h.2 y h1 (by omega), fun h => ⟨rfl, fun y h1 h2 => h y h1 (by omega)⟩⟩
theorem grO_cnt (G : Int → Int) : ∀ (d : Nat) (p a : Int), grO G d p a = cnt (ft G) d p a := by
  intro d
  induction d with
  | zero => intro p a; rfl
  | succ d ih =>
    intro p a
    unfold grO cnt
    rw [ih]
    congr 1
    unfold ft
    by_cases h : grI G p p.toNat 0 1 = 1
    · rw [if_pos h, if_pos (decide_eq_true h)]
    · rw [if_neg h, if_neg (fun q => h (of_decide_eq_true q)), Int.add_zero]
theorem gc_cnt (G : Int → Int) : gcF G = cnt (ft G) 9 0 0 := grO_cnt G 9 0 0
theorem gc_cg {G G' : Int → Int} (h : ∀ j : Int, 0 ≤ j → j < 9 → G j = G' j) : gcF G = gcF G' := by
  rw [gc_cnt, gc_cnt]
  refine cnt_cg _ _ 9 0 0 (fun y h1 h2 => ?_)
  have e : ft G y = true ↔ ft G' y = true := by
    rw [ft_is G h1, ft_is G' h1]
    exact ⟨fun w z z0 z1 => by rw [← h y h1 (by omega), ← h z z0 (by omega)]; exact w z z0 z1, fun w z z0 z1 => by rw [h y h1 (by omega), h z z0 (by omega)]; exact w z z0 z1⟩
  exact Bool.eq_iff_iff.mpr e
/-- two groups become one -/
theorem gc_un (G : Int → Int) {a b : Int} (ha : 0 ≤ a ∧ a < 9) (hb : 0 ≤ b ∧ b < 9) (hne : G a ≠ G b) : gcF (fun j => if G j = G b then G a else G j) = gcF G - 1 := by
  have fa : fnd G (G a) 9 0 ≠ -1 := fun q => fnd_no G (G a) 9 0 (by decide) q a ha.1 (by omega) rfl
  have fb : fnd G (G b) 9 0 ≠ -1 := fun q => fnd_no G (G b) 9 0 (by decide) q b hb.1 (by omega) rfl
  have ga := fnd_is G (G a) 9 0 fa (by decide)
  have gb := fnd_is G (G b) 9 0 fb (by decide)
  have la := fnd_ft G (G a) 9 0 (by decide)
  have lb := fnd_ft G (G b) 9 0 (by decide)
  have ra := fnd_rg G (G a) 9 0
  have rb := fnd_rg G (G b) 9 0
  generalize fnd G (G a) 9 0 = ma at *
  generalize fnd G (G b) 9 0 = mb at *
  have hab : ma ≠ mb := fun q => hne (by rw [← ga, ← gb, q])
  obtain ⟨G', hG⟩ : ∃ G' : Int → Int, G' = fun j => if G j = G b then G a else G j := ⟨_, rfl⟩
  have g' : ∀ j, G' j = if G j = G b then G a else G j := fun j => by rw [hG]
  rw [← hG]
  rw [gc_cnt, gc_cnt]
  obtain ⟨x, hx⟩ : ∃ x : Int, x = if ma ≤ mb then mb else ma := ⟨_, rfl⟩
  have x1 : 0 ≤ x ∧ x < 9 := by rw [hx]; split <;> omega
  have key := cnt_one (ft G) (ft G') x 9 0 x1.1 (by omega) (fun y y0 y1 hy => by
    refine Bool.eq_iff_iff.mpr ?_
    rw [ft_is G y0, ft_is G' y0]
    by_cases c1 : G y = G a
    · have e1 : G' y = G a := by rw [g', if_neg (fun q => hne (c1.symm.trans q)), c1]
      rw [c1, e1]
      refine ⟨fun w z z0 z1 => ?_, fun w z z0 z1 q => ?_⟩
      · have hya : y = ma := by
          have h1 : ¬ ma < y := fun q => w ma (by omega) q ga.symm
          have h2 : ¬ y < ma := fun q => la y (by omega) q c1
          omega
        have hlt : ma < mb := by
          by_cases q : ma ≤ mb
          · omega
          · rw [if_neg q] at hx; omega
        rw [g']
        have := lb z z0 (by omega)
        rw [if_neg this]
        exact w z z0 z1
      · refine w z z0 z1 ?_
        rw [g', if_neg (fun q2 => hne (q.trans q2)), ← q]
    · by_cases c2 : G y = G b
      · have e1 : G' y = G a := by rw [g', if_pos c2]
        rw [c2, e1]
        refine ⟨fun w z z0 z1 => ?_, fun w z z0 z1 q => ?_⟩
        · have hyb : y = mb := by
            have h1 : ¬ mb < y := fun q => w mb (by omega) q gb.symm
            have h2 : ¬ y < mb := fun q => lb y (by omega) q c2
            omega
          have hlt : mb < ma := by
            by_cases q : ma ≤ mb
            · rw [if_pos q] at hx; omega
            · omega
          rw [g', if_neg (fun q => w z z0 z1 q.symm)]
          exact fun q => la z z0 (by omega) q.symm
        · exact w z z0 z1 (by rw [g', if_pos q.symm])
      · have e1 : G' y = G y := by rw [g', if_neg c2]
        rw [e1]
        refine ⟨fun w z z0 z1 => ?_, fun w z z0 z1 q => ?_⟩
        · rw [g']
          split
          · exact c1
          · exact w z z0 z1
        · refine w z z0 z1 ?_
          rw [g', if_neg (fun q2 => c2 (q.trans q2))]
          exact q)
  have t1 : ft G x = true := by
    rw [ft_is G x1.1]
    intro y y0 y1 q
    by_cases c : ma ≤ mb
    · rw [if_pos c] at hx
      subst hx
      exact lb y y0 y1 (q.symm.trans gb)
    · rw [if_neg c] at hx
      subst hx
      exact la y y0 y1 (q.symm.trans ga)
  have t2 : ft G' x = false := by
    have : ¬ ft G' x = true := by
      rw [ft_is G' x1.1]
      intro w
      by_cases c : ma ≤ mb
      · rw [if_pos c] at hx
        refine w ma (by omega) (by omega) ?_
        rw [g', g', hx, if_pos gb, if_neg (fun q => hne (ga.symm.trans q)), ga]
      · rw [if_neg c] at hx
        refine w mb (by omega) (by omega) ?_
        rw [g', g', hx, if_pos gb, if_neg (fun q => hne (ga.symm.trans q)), ga]
    cases h : ft G' x
    · rfl
    · exact absurd h this
  rw [t1, t2] at key
  simp only [if_true, Bool.false_eq_true, if_false] at key
  omega
section IvS
variable {σ : Sg}
theorem Iv_al (h : Iv σ) (h4 : σ.1 0 < 4) : Iv (sF σ 0 (σ.1 0 + 1)) := by
  obtain ⟨⟨i1, i2, i3, i4, i5, i6⟩, h2, h3, h5⟩ := h
  have e : ∀ b : Nat, (sF σ 0 (σ.1 0 + 1)).1 (2 + b) = σ.1 (2 + b) := fun b => if_neg (by omega)
  refine ⟨⟨?_, i2, i3, fun b hb => by rw [e]; exact i4 b hb, i5, i6⟩, fun b hb y z y0 y1 z0 z1 q => ?_, h3, fun b hb hb4 => ?_⟩
  · show 0 ≤ σ.1 0 + 1 ∧ σ.1 0 + 1 ≤ 4
    omega
  · rw [e] at y1 z1
    exact h2 b hb y z y0 y1 z0 z1 q
  · rw [e]
    have : σ.1 0 + 1 ≤ (b : Int) := hb
    exact h5 b (by omega) hb4
theorem Iv_ap (h : Iv σ) {b : Nat} (hb : b < 4) (hlo : (b : Int) < σ.1 0) {L m : Int} (hn : σ.1 (2 + b) < 16) (hL : 0 ≤ L ∧ L < 2304) (hm : 0 ≤ m ∧ m < 30) (hno : findB σ b m = -1) : Iv (apB σ b L m) := by
  obtain ⟨hI, h2, h3, h5⟩ := h
  have h0 := hI.2.2.2.1 b (by omega)
  have hc := cN_eq hI (b := b) (by omega)
  have nof := fnd_no (mnB σ b) m (cN σ b) 0 (by decide) hno
  refine ⟨IC_ap hI (by omega) ⟨h0.1, hn⟩ hL hm, fun c hcb y z y0 y1 z0 z1 q => ?_, ?_, fun c hc1 hc4 => ?_⟩
  · rw [ap_1] at y1 z1
    by_cases e : c = b
    · subst e
      have q6 : ∀ j : Int, (apB σ c L m).2 (6 + c) j = if j = σ.1 (2 + c) then m else σ.2 (6 + c) j := fun j => by rw [ap_lk (by omega), if_neg (by omega), if_pos rfl]
      rw [if_pos rfl] at y1 z1
      rw [q6, q6] at q
      by_cases ey : y = σ.1 (2 + c) <;> by_cases ez : z = σ.1 (2 + c)
      · omega
      · rw [if_pos ey, if_neg ez] at q
        exact absurd q.symm (nof z z0 (by omega))
      · rw [if_neg ey, if_pos ez] at q
        exact absurd q (nof y y0 (by omega))
      · rw [if_neg ey, if_neg ez] at q
        exact h2 c hcb y z y0 (by omega) z0 (by omega) q
    · have q6 : ∀ j : Int, (apB σ b L m).2 (6 + c) j = σ.2 (6 + c) j := fun j => by rw [ap_lk (by omega), if_neg (by omega), if_neg (by omega)]
      rw [if_neg (by omega)] at y1 z1
      rw [q6, q6] at q
      exact h2 c hcb y z y0 y1 z0 z1 q
  · rw [ap_1, if_neg (by omega), h3]
    refine gc_cg (fun j _ _ => ?_)
    rw [ap_lk (by omega), if_neg (by omega), if_neg (by omega)]
  · rw [ap_1, if_neg (by omega)] at hc1
    rw [ap_1, if_neg (by omega)]
    exact h5 c hc1 hc4
theorem Iv_rm (h : Iv σ) {b : Nat} (hb : b < 4) {s : Int} (hs : 0 ≤ s ∧ s < σ.1 (2 + b)) : Iv (rmB σ b s) := by
  obtain ⟨hI, h2, h3, h5⟩ := h
  have rr := rm_r (σ := σ) (b := b) (by omega) hs
  have nb := hI.2.2.2.1 b (by omega)
  refine ⟨?_, fun c hcb y z y0 y1 z0 z1 q => ?_, ?_, fun c hc1 hc4 => ?_⟩
  · obtain ⟨i1, i2, i3, i4, i5, i6⟩ := hI
    refine ⟨?_, ?_, fun j j0 j1 => ?_, fun q hq => ?_, fun q hq j j0 j1 => ?_, fun q hq j j0 j1 => ?_⟩
    · rw [rm_1, if_neg (by omega)]; exact i1
    · rw [rm_1, if_neg (by omega)]; exact i2
    · rw [rr, if_neg (by omega)]; exact i3 j j0 j1
    · rw [rm_1]
      have := i4 q hq
      split <;> omega
    · rw [rr]
      split
      · exact i5 q hq (j + 1) (by omega) (by omega)
      · exact i5 q hq j j0 j1
    · rw [rr]
      split
      · exact i6 q hq (j + 1) (by omega) (by omega)
      · exact i6 q hq j j0 j1
  · rw [rm_1] at y1 z1
    rw [rr, rr] at q
    by_cases e : c = b
    · subst e
      rw [if_pos rfl] at y1 z1
      by_cases cy : s ≤ y <;> by_cases cz : s ≤ z
      · rw [if_pos ⟨Or.inr rfl, cy, by omega⟩, if_pos ⟨Or.inr rfl, cz, by omega⟩] at q
        have := h2 c hcb (y + 1) (z + 1) (by omega) (by omega) (by omega) (by omega) q
        omega
      · rw [if_pos ⟨Or.inr rfl, cy, by omega⟩, if_neg (fun w => cz w.2.1)] at q
        have := h2 c hcb (y + 1) z (by omega) (by omega) (by omega) (by omega) q
        omega
      · rw [if_neg (fun w => cy w.2.1), if_pos ⟨Or.inr rfl, cz, by omega⟩] at q
        have := h2 c hcb y (z + 1) (by omega) (by omega) (by omega) (by omega) q
        omega
      · rw [if_neg (fun w => cy w.2.1), if_neg (fun w => cz w.2.1)] at q
        exact h2 c hcb y z (by omega) (by omega) (by omega) (by omega) q
    · rw [if_neg (by omega)] at y1 z1
      rw [if_neg (by omega), if_neg (by omega)] at q
      exact h2 c hcb y z y0 y1 z0 z1 q
  · rw [rm_1, if_neg (by omega), h3]
    refine gc_cg (fun j _ _ => ?_)
    rw [rr, if_neg (by omega)]
  · rw [rm_1, if_neg (by omega)] at hc1
    rw [rm_1]
    have := h5 c hc1 hc4
    by_cases e : 2 + c = 2 + b
    · have : c = b := by omega
      subst this
      omega
    · rw [if_neg e]; exact this
theorem Iv_th (h : Iv σ) {b : Nat} (hb : b < 4) {s t : Int} (hs : 0 ≤ s ∧ s < σ.1 (2 + b)) (ht : 0 ≤ t ∧ t < 4) : Iv (sG σ (1 + b) s (wth (σ.2 (1 + b) s) t)) := by
  obtain ⟨hI, h2, h3, h5⟩ := h
  have nb := hI.2.2.2.1 b (by omega)
  have hw : 0 ≤ wth (σ.2 (1 + b) s) t ∧ wth (σ.2 (1 + b) s) t < 2304 := by
    have h := hI.2.2.2.2.1 b (by omega) s hs.1 (by omega)
    exact wth_rg ⟨h.1, h.2, ht.1, ht.2⟩
  have e6 : ∀ (c : Nat) (j : Int), c < 5 → (sG σ (1 + b) s (wth (σ.2 (1 + b) s) t)).2 (6 + c) j = σ.2 (6 + c) j := fun c j hc => by rw [sG_2, if_neg (by omega)]
  refine ⟨?_, fun c hcb y z y0 y1 z0 z1 q => ?_, ?_, h5⟩
  · obtain ⟨i1, i2, i3, i4, i5, i6⟩ := hI
    refine ⟨i1, i2, fun j j0 j1 => ?_, i4, fun q hq j j0 j1 => ?_, fun q hq j j0 j1 => ?_⟩
    · rw [sG_2, if_neg (by omega)]
      exact i3 j j0 j1
    · rw [sG_2]
      split
      · split
        · exact hw
        · exact i5 b (by omega) j j0 j1
      · exact i5 q hq j j0 j1
    · rw [e6 q j hq]
      exact i6 q hq j j0 j1
  · rw [e6 c y (by omega), e6 c z (by omega)] at q
    exact h2 c hcb y z y0 y1 z0 z1 q
  · show σ.1 1 = _
    rw [h3]
    refine gc_cg (fun j _ _ => ?_)
    rw [sG_2, if_neg (by omega)]
theorem Iv_un (h : Iv σ) {a b : Int} (hab : 0 ≤ a ∧ a < 9 ∧ 0 ≤ b ∧ b < 9) : Iv (unP σ a b) := by
  obtain ⟨hI, h2, h3, h5⟩ := h
  have hg : (unP σ a b).1 1 = gcF ((unP σ a b).2 0) := by
    rw [un_1, h3]
    by_cases q : σ.2 0 a = σ.2 0 b
    · rw [if_neg (fun w => w.2 q)]
      refine gc_cg (fun j j0 j1 => ?_)
      rw [un_0 σ a b j0 j1]
      split
      · rename_i w; rw [q, w]
      · rfl
    · rw [if_pos ⟨rfl, q⟩, ← gc_un (σ.2 0) ⟨hab.1, hab.2.1⟩ hab.2.2 q]
      exact gc_cg (fun j j0 j1 => (un_0 σ a b j0 j1).symm)
  have hr := gcF_rg ((unP σ a b).2 0)
  have e1 : ∀ v : Nat, v ≠ 1 → (unP σ a b).1 v = σ.1 v := fun v hv => by rw [un_1, if_neg (fun w => hv w.1)]
  have e2 : ∀ (r : Nat) (j : Int), r ≠ 0 → (unP σ a b).2 r j = σ.2 r j := fun r j hr => by rw [un_r, if_neg (fun w => hr w.1)]
  refine ⟨?_, fun c hcb y z y0 y1 z0 z1 q => ?_, hg, fun c hc1 hc4 => ?_⟩
  · obtain ⟨i1, i2, i3, i4, i5, i6⟩ := hI
    refine ⟨by rw [e1 0 (by omega)]; exact i1, by rw [hg]; exact hr, fun j j0 j1 => ?_, fun q hq => by rw [e1 _ (by omega)]; exact i4 q hq, fun q hq j j0 j1 => by rw [e2 _ _ (by omega)]; exact i5 q hq j j0 j1, fun q hq j j0 j1 => by rw [e2 _ _ (by omega)]; exact i6 q hq j j0 j1⟩
    rw [un_0 σ a b j0 j1]
    have ia := i3 a hab.1 hab.2.1
    have ij := i3 j j0 j1
    split
    · exact ia
    · exact ij
  · rw [e1 _ (by omega)] at y1 z1
    rw [e2 _ _ (by omega), e2 _ _ (by omega)] at q
    exact h2 c hcb y z y0 y1 z0 z1 q
  · rw [e1 _ (by omega)] at hc1
    rw [e1 _ (by omega)]
    exact h5 c hc1 hc4
end IvS
