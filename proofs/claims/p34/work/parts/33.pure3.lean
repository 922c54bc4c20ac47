/-! what the law checks of the class's numbers -/
theorem mrF_a (dd mn : Int → Int) : ∀ (d : Nat) (z m : Int), (∀ y : Int, z ≤ y → y < z + d → 0 < dd y) → mrF dd mn d z 0 m = m := by
  intro d
  induction d with
  | zero => intro z m _; rfl
  | succ d ih =>
    intro z m h
    have h0 := h z (by omega) (by omega)
    unfold mrF
    rw [if_neg (by omega), if_neg (by omega)]
    exact ih (z + 1) m (fun y q1 q2 => h y (by omega) (by omega))
theorem mrF_b (dd mn : Int → Int) : ∀ (d : Nat) (z : Int), (∀ y : Int, z ≤ y → y < z + d → 0 ≤ dd y) → mrF dd mn d z 0 (-1) = -1 := by
  intro d
  induction d with
  | zero => intro z _; rfl
  | succ d ih =>
    intro z h
    have h0 := h z (by omega) (by omega)
    have h1 := ih (z + 1) (fun y q1 q2 => h y (by omega) (by omega))
    unfold mrF
    rw [if_neg (by omega)]
    split
    · exact h1
    · exact h1
theorem mrF_c (dd mn : Int → Int) : ∀ (d : Nat) (z m : Int), (∀ y : Int, z ≤ y → y < z + d → 0 ≤ dd y) → (∃ y : Int, z ≤ y ∧ y < z + d ∧ dd y = 0) → mrF dd mn d z 0 m = -1 := by
  intro d
  induction d with
  | zero => intro z m _ h; obtain ⟨y, q1, q2, _⟩ := h; omega
  | succ d ih =>
    intro z m h he
    have h0 := h z (by omega) (by omega)
    unfold mrF
    rw [if_neg (by omega)]
    by_cases e : dd z = 0
    · rw [if_pos e]
      exact mrF_b dd mn d (z + 1) (fun y q1 q2 => h y (by omega) (by omega))
    · rw [if_neg e]
      refine ih (z + 1) m (fun y q1 q2 => h y (by omega) (by omega)) ?_
      obtain ⟨y, q1, q2, q3⟩ := he
      by_cases e2 : y = z
      · rw [e2] at q3; exact absurd q3 e
      · exact ⟨y, by omega, by omega, q3⟩
theorem mrF_own (dd mn : Int → Int) (j : Int) (hj : dd j = 0) : ∀ (d : Nat) (z fw m : Int), z ≤ j → j < z + d → 0 < fw → (∀ y : Int, z ≤ y → y < z + d → 0 ≤ dd y) →
    ((∀ y : Int, z ≤ y → y < z + d → y ≠ j → 0 < dd y) → mrF dd mn d z fw m = mn j) ∧ ((∃ y : Int, z ≤ y ∧ y < z + d ∧ y ≠ j ∧ dd y = 0) → mrF dd mn d z fw m = -1) := by
  intro d
  induction d with
  | zero => intro z fw m h1 h2; omega
  | succ d ih =>
    intro z fw m h1 h2 hf h
    have h0 := h z (by omega) (by omega)
    have hr : ∀ y : Int, z + 1 ≤ y → y < z + 1 + d → 0 ≤ dd y := fun y q1 q2 => h y (by omega) (by omega)
    unfold mrF
    by_cases e : dd z = 0
    · rw [if_pos (by omega), e]
      refine ⟨fun ha => ?_, fun he => ?_⟩
      · have ez : z = j := Classical.byContradiction (fun q => by have := ha z (by omega) (by omega) q; omega)
        rw [ez]
        exact mrF_a dd mn d (j + 1) (mn j) (fun y q1 q2 => ha y (by omega) (by omega) (by omega))
      · refine mrF_c dd mn d (z + 1) _ hr ?_
        by_cases ez : z = j
        · obtain ⟨y, q1, q2, q3, q4⟩ := he
          exact ⟨y, by omega, by omega, q4⟩
        · exact ⟨j, by omega, by omega, hj⟩
    · have ez : z ≠ j := fun q => e (by rw [q]; exact hj)
      have key : ∀ fw2 m2 : Int, 0 < fw2 → ((∀ y : Int, z ≤ y → y < z + (d + 1 : Nat) → y ≠ j → 0 < dd y) → mrF dd mn d (z + 1) fw2 m2 = mn j) ∧ ((∃ y : Int, z ≤ y ∧ y < z + (d + 1 : Nat) ∧ y ≠ j ∧ dd y = 0) → mrF dd mn d (z + 1) fw2 m2 = -1) := fun fw2 m2 hf2 => by
        have i := ih (z + 1) fw2 m2 (by omega) (by omega) hf2 hr
        refine ⟨fun ha => i.1 (fun y q1 q2 q3 => ha y (by omega) (by omega) q3), fun he => i.2 ?_⟩
        obtain ⟨y, q1, q2, q3, q4⟩ := he
        by_cases e2 : y = z
        · rw [e2] at q4; exact absurd q4 e
        · exact ⟨y, by omega, by omega, q3, q4⟩
      by_cases c1 : dd z < fw
      · rw [if_pos c1]; exact key _ _ (by omega)
      · rw [if_neg c1]
        by_cases c2 : dd z = fw
        · rw [if_pos c2]; exact key _ _ hf
        · rw [if_neg c2]; exact key _ _ hf
section P3
variable {σ : Sg} {b s : Nat}
theorem own_rd (hI : IC σ) (hb : b < 5) {j : Int} (hj : 0 ≤ j ∧ j < σ.1 (2 + b)) : mrB σ b (σ.2 (1 + b) j) = if aoF (dB σ b j) j (cN σ b) 0 1 = 1 then σ.2 (6 + b) j else -1 := by
  have hn := cN_eq hI hb
  have hz : ∀ y : Int, 0 ≤ y → y < 0 + (cN σ b : Nat) → 0 ≤ dB σ b j y := fun y q1 q2 => (dB_rg hI hb hj ⟨q1, by omega⟩).1
  have h := mrF_own (dB σ b j) (mnB σ b) j (dB_self j) (cN σ b) 0 4 (-1) hj.1 (by omega) (by omega) hz
  have ha := aoF_is (dB σ b j) j (cN σ b) 0 1 (Or.inr rfl)
  show mrF (dB σ b j) (mnB σ b) (cN σ b) 0 4 (-1) = _
  by_cases e : aoF (dB σ b j) j (cN σ b) 0 1 = 1
  · rw [if_pos e]
    exact h.1 (ha.mp e).2
  · rw [if_neg e]
    refine h.2 (Classical.byContradiction (fun q => e (ha.mpr ⟨rfl, fun y q1 q2 q3 => ?_⟩)))
    have q4 := hz y q1 q2
    have q5 : dB σ b j y ≠ 0 := fun w => q ⟨y, q1, q2, q3, w⟩
    omega
theorem sn_0 (hI : IC σ) (hb : b < 5) : snB σ b < 0 ↔ σ.1 (2 + b) = 0 := by
  have hn := cN_eq hI hb
  have h16 := hI.2.2.2.1 b hb
  unfold snB
  generalize hm : cN σ b = n at hn
  cases n with
  | zero => exact ⟨fun _ => by omega, fun _ => by show (-1 : Int) < 0; decide⟩
  | succ n =>
    have h0 : 0 ≤ cnB σ b 0 := (cnt0_rg _ hI hb).1
    unfold amF
    rw [if_pos (by omega)]
    have := amF_rg (fun z => cnB σ b z) (lo := 0) (hi := 16) n (0 + 1) 0 (cnB σ b 0) (by omega) (by omega) (by omega) (by omega)
    omega
theorem cnt_dj (P Q : Int → Bool) (h : ∀ y, ¬ (P y = true ∧ Q y = true)) : ∀ (d : Nat) (z : Int), cnt P d z 0 + cnt Q d z 0 ≤ d := by
  intro d
  induction d with
  | zero => intro z; show (0 : Int) + 0 ≤ 0; omega
  | succ d ih =>
    intro z
    have i := ih (z + 1)
    unfold cnt
    rw [cnt_add P, cnt_add Q]
    have := h z
    split
    · split
      · rename_i a1 a2; exact absurd ⟨a1, a2⟩ this
      · omega
    · split
      · omega
      · omega
theorem cnt_le (P Q : Int → Bool) (h : ∀ y, P y = true → Q y = true) : ∀ (d : Nat) (z : Int), cnt P d z 0 ≤ cnt Q d z 0 := by
  intro d
  induction d with
  | zero => intro z; exact Int.le_refl _
  | succ d ih =>
    intro z
    have i := ih (z + 1)
    unfold cnt
    rw [cnt_add P, cnt_add Q]
    have := h z
    split
    · rename_i a1; rw [if_pos (this a1)]; omega
    · split
      · omega
      · omega
theorem cu_cm (hI : IC σ) (hs : s < 5) : cuB σ b s + cmB σ b s ≤ σ.1 (2 + s) := by
  have hn := cN_eq hI hs
  have := cnt_dj (unC σ b s) (miC σ b s) (fun y h => by
    have h1 := of_decide_eq_true h.1
    have h2 := of_decide_eq_true h.2
    exact h2.2 h1) (cN σ s) 0
  unfold cuB cmB
  omega
theorem cc_cu : ccB σ b s ≤ cuB σ s b := cnt_le (coC σ b s) (unC σ s b) (fun y h => by
    have h1 := of_decide_eq_true h
    exact decide_eq_true h1.2.1) (cN σ b) 0
end P3
theorem pop_tr_a : ∀ x y z : Fin 16, pop4 (xr x.1 z.1) ≤ pop4 (xr x.1 y.1) + pop4 (xr y.1 z.1) := by decide +kernel
theorem pop_tr {x y z : Int} (h : 0 ≤ x ∧ x < 16 ∧ 0 ≤ y ∧ y < 16 ∧ 0 ≤ z ∧ z < 16) : pop4 (xr x z) ≤ pop4 (xr x y) + pop4 (xr y z) := by
  have := pop_tr_a ⟨x.toNat, by omega⟩ ⟨y.toNat, by omega⟩ ⟨z.toNat, by omega⟩
  rwa [show ((x.toNat : Nat) : Int) = x by omega, show ((y.toNat : Nat) : Int) = y by omega, show ((z.toNat : Nat) : Int) = z by omega] at this
theorem ne_tr (a b c w : Int) (hw : 0 ≤ w) : (if a = c then 0 else w) ≤ (if a = b then 0 else w) + (if b = c then 0 else w) := by
  by_cases h1 : a = b
  · rw [if_pos h1, h1]; split <;> omega
  · rw [if_neg h1]; split <;> split <;> omega
theorem stp_in {G : Int → Int} (hG : ∀ p q : Int, 0 ≤ p → p < 9 → 0 ≤ q → q < 9 → G p = G q → p = q) {a b : Int} (h : 0 ≤ a ∧ a < 9 ∧ 0 ≤ b ∧ b < 9) : stp G a b = ab (a / 3 - b / 3) + ab (a % 3 - b % 3) := by
  unfold stp
  by_cases e : G a = G b
  · rw [if_pos e, hG a b h.1 h.2.1 h.2.2.1 h.2.2.2 e, Int.sub_self, Int.sub_self]
    decide
  · rw [if_neg e]
theorem ab_tr (x y : Int) : ab (x + y) ≤ ab x + ab y := by
  unfold ab
  split <;> split <;> split <;> omega
theorem stp_tr {G : Int → Int} (hG : ∀ p q : Int, 0 ≤ p → p < 9 → 0 ≤ q → q < 9 → G p = G q → p = q) {a b c : Int} (h : 0 ≤ a ∧ a < 9 ∧ 0 ≤ b ∧ b < 9 ∧ 0 ≤ c ∧ c < 9) : stp G a c ≤ stp G a b + stp G b c := by
  rw [stp_in hG (by omega), stp_in hG (by omega), stp_in hG (by omega)]
  have h1 := ab_tr (a / 3 - b / 3) (b / 3 - c / 3)
  have h2 := ab_tr (a % 3 - b % 3) (b % 3 - c % 3)
  rw [show a / 3 - b / 3 + (b / 3 - c / 3) = a / 3 - c / 3 by omega] at h1
  rw [show a % 3 - b % 3 + (b % 3 - c % 3) = a % 3 - c % 3 by omega] at h2
  omega
theorem dst_tr {G : Int → Int} (hG : ∀ p q : Int, 0 ≤ p → p < 9 → 0 ≤ q → q < 9 → G p = G q → p = q) {x y z : Int} (h : 0 ≤ x ∧ x < 2304 ∧ 0 ≤ y ∧ y < 2304 ∧ 0 ≤ z ∧ z < 2304) : dst G x z ≤ dst G x y + dst G y z := by
  have h1 := pop_tr (x := x % 16) (y := y % 16) (z := z % 16) (by omega)
  have h2 := ne_tr (x / 16 % 4) (y / 16 % 4) (z / 16 % 4) 1 (by omega)
  have h3 := ne_tr (x / 64 % 4) (y / 64 % 4) (z / 64 % 4) 2 (by omega)
  have h4 := stp_tr hG (a := x / 256) (b := y / 256) (c := z / 256) (by omega)
  unfold dst
  generalize pop4 (xr (x % 16) (z % 16)) = p1 at *
  generalize pop4 (xr (x % 16) (y % 16)) = p2 at *
  generalize pop4 (xr (y % 16) (z % 16)) = p3 at *
  generalize stp G (x / 256) (z / 256) = s1 at *
  generalize stp G (x / 256) (y / 256) = s2 at *
  generalize stp G (y / 256) (z / 256) = s3 at *
  generalize (if x / 16 % 4 = z / 16 % 4 then (0 : Int) else 1) = t1 at *
  generalize (if x / 16 % 4 = y / 16 % 4 then (0 : Int) else 1) = t2 at *
  generalize (if y / 16 % 4 = z / 16 % 4 then (0 : Int) else 1) = t3 at *
  generalize (if x / 64 % 4 = z / 64 % 4 then (0 : Int) else 2) = u1 at *
  generalize (if x / 64 % 4 = y / 64 % 4 then (0 : Int) else 2) = u2 at *
  generalize (if y / 64 % 4 = z / 64 % 4 then (0 : Int) else 2) = u3 at *
  omega
theorem cnt_all (c : Int → Bool) : ∀ (d : Nat) (z : Int), cnt c d z 0 = d → ∀ y : Int, z ≤ y → y < z + d → c y = true := by
  intro d
  induction d with
  | zero => intro z _ y h1 h2; omega
  | succ d ih =>
    intro z h y h1 h2
    unfold cnt at h
    rw [cnt_add] at h
    have h3 := cnt_rg c d (z + 1) 0
    by_cases e : c z = true
    · rw [if_pos e] at h
      by_cases e2 : y = z
      · rw [e2]; exact e
      · exact ih (z + 1) (by omega) y (by omega) (by omega)
    · rw [if_neg e] at h
      omega
theorem gc_inj {G : Int → Int} (h : gcF G = 9) : ∀ p q : Int, 0 ≤ p → p < 9 → 0 ≤ q → q < 9 → G p = G q → p = q := by
  rw [gc_cnt] at h
  have ha := cnt_all (ft G) 9 0 h
  intro p q p0 p1 q0 q1 e
  have hp := (ft_is G p0).mp (ha p p0 (by omega))
  have hq := (ft_is G q0).mp (ha q q0 (by omega))
  by_cases c1 : p < q
  · exact absurd e.symm (hq p p0 c1)
  · by_cases c2 : q < p
    · exact absurd e (hp q q0 c2)
    · omega
theorem un_lk (σ : Sg) (a b : Int) (r : Nat) : (unP σ a b).2 (1 + r) = σ.2 (1 + r) := funext fun j => by rw [un_r, if_neg (by omega)]
theorem un_same (σ : Sg) {a b : Int} (h : 0 ≤ a ∧ a < 9 ∧ 0 ≤ b ∧ b < 9) : (unP σ a b).2 0 a = (unP σ a b).2 0 b := by
  rw [un_0 σ a b h.1 h.2.1, un_0 σ a b h.2.2.1 h.2.2.2, if_pos rfl]
  split <;> rfl
theorem stp_same {G : Int → Int} {a b : Int} (h : G a = G b) : stp G a b = 0 := if_pos h
theorem ab_0 (x : Int) : 0 ≤ ab x := by unfold ab; split <;> omega
theorem stp_un (σ : Sg) {a b p q : Int} (hp : 0 ≤ p ∧ p < 9 ∧ 0 ≤ q ∧ q < 9) : stp ((unP σ a b).2 0) p q ≤ stp (σ.2 0) p q := by
  have h1 := ab_0 (p / 3 - q / 3)
  have h2 := ab_0 (p % 3 - q % 3)
  unfold stp
  rw [un_0 σ a b hp.1 hp.2.1, un_0 σ a b hp.2.2.1 hp.2.2.2]
  by_cases e : σ.2 0 p = σ.2 0 q
  · rw [if_pos e, e, if_pos rfl]; omega
  · rw [if_neg e]
    have key : ∀ u v : Int, (if u = v then (0 : Int) else ab (p / 3 - q / 3) + ab (p % 3 - q % 3)) ≤ ab (p / 3 - q / 3) + ab (p % 3 - q % 3) := fun u v => by split <;> omega
    exact key _ _
theorem dst_un (σ : Sg) {a b x y : Int} (h : 0 ≤ x ∧ x < 2304 ∧ 0 ≤ y ∧ y < 2304) : dst ((unP σ a b).2 0) x y ≤ dst (σ.2 0) x y := by
  have := stp_un σ (a := a) (b := b) (p := x / 256) (q := y / 256) (by omega)
  unfold dst
  exact Int.add_le_add_left this _
