/-! the picture, as the law's own methods change it -/
/-- a cell has one content; all but the cell a are kept -/
def Un (X : va_W) : Prop := ∀ (p : Nat) (e1 e2 : va_E), (p, e1) ∈ X → (p, e2) ∈ X → e1 = e2
def Kp (X : va_W) (a : Nat) (Y : va_W) : Prop := ∀ q ∈ X, q.1 ≠ a → q ∈ Y
theorem Un_of {mc : MC} {g : GG} {X : va_W} {cc : ByteArray} {own : String} {nL : Nat} {ret : Option FieldType} (hC : Cx mc (gx g X) cc own nL ret) : Un X := fun _ _ _ h1 h2 => x_one hC h1 h2
/-- arrays of different kinds are of different classes -/
def Ne3 (g : GG) : Prop := gU g ≠ gY g ∧ gU g ≠ gV g ∧ gY g ≠ gV g
theorem arr_one {U : State} {c : ClassId} {t1 t2 : FieldType} (h1 : ArrOfT U c t1) (h2 : ArrOfT U c t2) : t1 = t2 := by
  obtain ⟨-, k1, e1, c1, f1⟩ := h1 0 (fun _ => .null)
  obtain ⟨-, k2, e2, c2, f2⟩ := h2 0 (fun _ => .null)
  have hk : k1 = k2 := Option.some.inj (e1.symm.trans e2)
  subst hk
  rw [f1] at f2
  cases f2
  rfl
theorem Ne3_of {mc : MC} {g : GG} {cc : ByteArray} {own : String} {nL : Nat} {ret : Option FieldType} (hC : Cx mc g cc own nL ret) : Ne3 g := by
  have hK := hX_K hC
  have h3 : ArrOfT (mS mc) (gY g) (.array .int) := (hK.2 3 _ rfl).1
  have h4 : ArrOfT (mS mc) (gU g) (.array (.array .int)) := (hK.2 4 _ rfl).1
  have h5 : ArrOfT (mS mc) (gV g) (.array .boolean) := (hK.2 5 _ rfl).1
  refine ⟨fun q => ?_, fun q => ?_, fun q => ?_⟩
  · have h4' : ArrOfT (mS mc) (gY g) (.array (.array .int)) := by rw [← q]; exact h4
    exact absurd (arr_one h3 h4') (by decide)
  · have h4' : ArrOfT (mS mc) (gV g) (.array (.array .int)) := by rw [← q]; exact h4
    exact absurd (arr_one h5 h4') (by decide)
  · have h3' : ArrOfT (mS mc) (gV g) (.array .int) := by rw [← q]; exact h3
    exact absurd (arr_one h5 h3') (by decide)
theorem Kp.sb {X X0 Y : va_W} {a : Nat} (h : Kp X a Y) (h0 : Sb X0 X) : Kp X0 a Y := fun q hq hn => h q (h0 q hq) hn
theorem Kp.tr {X Y Z : va_W} {a : Nat} (h : Kp X a Y) (h2 : Sb Y Z) : Kp X a Z := fun q hq hn => h2 q (h q hq hn)
theorem Kp.of {X Y : va_W} {a : Nat} (h : Sb X Y) : Kp X a Y := fun q hq _ => h q hq
theorem Kp.wr {X Y Z : va_W} {a : Nat} {e : va_E} (h : Sb X Y) (w : Wr Y a e Z) : Kp X a Z := fun q hq hn => w.2 q (h q hq) hn
section RT
variable {g : GG} {X Y : va_W} {a x y n m0 : Nat} {c c2 : ClassId} {h h9 : Nat → Nat} {L m : Int} {G : Int → Int} {p : Int} {σ : Sg} {r : RR}
theorem Rq.kp (h0 : Rq X x c n h) (hk : Kp X a Y) (hn : x ≠ a) : Rq Y x c n h := by
  obtain ⟨f, h1, h2⟩ := h0
  exact ⟨f, hk _ h1 hn, h2⟩
theorem Sn.kp (h0 : Sn g X x L m) (hk : Kp X a Y) (hn : x ≠ a) : Sn g Y x L m := by
  obtain ⟨f, h1, h2⟩ := h0
  exact ⟨f, hk _ h1 hn, h2⟩
theorem Zr.kp (h0 : Zr g X x G p) (hk : Kp X a Y) (hn : x ≠ a) : Zr g Y x G p := by
  obtain ⟨f, h1, h2⟩ := h0
  exact ⟨f, hk _ h1 hn, h2⟩
theorem Rq.no (h0 : Rq X x c n h) (hu : Un X) {o : Nat × List Value} (ha : (a, (.inr o : va_E)) ∈ X) : x ≠ a := fun q => by
  obtain ⟨f, h1, -⟩ := h0
  subst q
  cases hu _ _ _ h1 ha
theorem Sn.no (h0 : Sn g X x L m) (hu : Un X) {o : Nat × List Value} (ha : (a, (.inr o : va_E)) ∈ X) : x ≠ a := fun q => by
  obtain ⟨f, h1, -⟩ := h0
  subst q
  cases hu _ _ _ h1 ha
theorem Zr.no (h0 : Zr g X x G p) (hu : Un X) {o : Nat × List Value} (ha : (a, (.inr o : va_E)) ∈ X) : x ≠ a := fun q => by
  obtain ⟨f, h1, -⟩ := h0
  subst q
  cases hu _ _ _ h1 ha
theorem Rq.nq (h0 : Rq X x c n h) (hu : Un X) (h1 : Rq X y c2 m0 h9) (hc : c ≠ c2) : x ≠ y := fun q => by
  obtain ⟨f, h2, -⟩ := h0
  obtain ⟨f9, h3, -⟩ := h1
  subst q
  have := hu _ _ _ h2 h3
  exact hc (congrArg (fun e : va_E => match e with | .inl z => z.1 | .inr _ => c) this)
theorem Sn.nq (h0 : Sn g X x L m) (hu : Un X) (h1 : Rq X y c2 m0 h9) : x ≠ y := fun q => by
  obtain ⟨f, h2, -⟩ := h0
  obtain ⟨f9, h3, -⟩ := h1
  subst q
  have := hu _ _ _ h2 h3
  cases this
theorem Zr.nq (h0 : Zr g X x G p) (hu : Un X) (h1 : Rq X y c2 m0 h9) : x ≠ y := fun q => by
  obtain ⟨f, h2, -⟩ := h0
  obtain ⟨f9, h3, -⟩ := h1
  subst q
  have := hu _ _ _ h2 h3
  cases this
theorem Rq.nf (h0 : Rq X x c n h) (hf : Fr X a) : x ≠ a := by
  obtain ⟨f, h1, -⟩ := h0
  exact hf _ h1
theorem Rq.cg (h0 : Rq X x c n h) (hh : ∀ j, j < n → h j = h9 j) : Rq X x c n h9 := by
  obtain ⟨f, h1, h2⟩ := h0
  exact ⟨f, h1, fun j hj => by rw [h2 j hj, hh j hj]⟩
theorem Zr.cg {G2 : Int → Int} (h0 : Zr g X x G p) (hh : ∀ j : Int, 0 ≤ j → j < 9 → (G p = G j ↔ G2 p = G2 j)) : Zr g X x G2 p := by
  obtain ⟨f, h1, h2⟩ := h0
  refine ⟨f, h1, fun j j0 j1 => ?_⟩
  rw [h2 j j0 j1]
  by_cases q : G p = G j
  · rw [if_pos q, if_pos ((hh j j0 j1).mp q)]
  · rw [if_neg q, if_neg (fun z => q ((hh j j0 j1).mpr z))]
/-- one lodge more -/
theorem Rp_lodge {q q2 : Nat} (hr : Rp g X a σ r) (hu : Un X) (hk : Kp X a Y) (h1 : (a, (.inr (3, [.ref q, .ref (rv r)]) : va_E)) ∈ Y) (h2 : Rq Y q (gU g) (nLo σ + 1) (fun j => if j = nLo σ then q2 else rL r j)) (h3 : Rq Y q2 (gY g) 0 h9) (hf : Fr X q2) (hI : IC σ) (h0 : σ.1 (2 + nLo σ) = 0) :
    Rp g Y a (sF σ 0 (σ.1 0 + 1)) (q, rv r, (fun l => if l = nLo σ then q2 else rL r l), rS r, rT r) := by
  have hn := IC_n hI
  have e : ∀ b : Nat, (sF σ 0 (σ.1 0 + 1)).1 (2 + b) = σ.1 (2 + b) := fun b => if_neg (by omega)
  have ec : ∀ b : Nat, cN (sF σ 0 (σ.1 0 + 1)) b = cN σ b := fun b => by show ((sF σ 0 (σ.1 0 + 1)).1 (2 + b)).toNat = _; rw [e]
  have en : nLo (sF σ 0 (σ.1 0 + 1)) = nLo σ + 1 := by show (σ.1 0 + 1).toNat = (σ.1 0).toNat + 1; omega
  have c0 : cN σ (nLo σ) = 0 := by show (σ.1 (2 + nLo σ)).toNat = 0; rw [h0]; rfl
  refine ⟨h1, by rw [en]; exact h2, fun l hl => ?_, fun l hl k hk2 => ?_, hr.2.2.2.2.1.kp hk (hr.2.2.2.2.1.no hu hr.1), fun p hp => (hr.2.2.2.2.2.1 p hp).kp hk ((hr.2.2.2.2.2.1 p hp).no hu hr.1), fun l l2 hl hl2 q9 => ?_⟩
  · rw [en] at hl
    rw [ec]
    show Rq Y (if l = nLo σ then q2 else rL r l) (gY g) (cN σ l) (rS r l)
    by_cases q9 : l = nLo σ
    · rw [if_pos q9, q9, c0]
      exact h3.cg (fun j hj => by omega)
    · rw [if_neg q9]
      have := hr.2.2.1 l (by omega)
      exact this.kp hk (this.no hu hr.1)
  · rw [en] at hl
    rw [ec] at hk2
    by_cases q9 : l = nLo σ
    · rw [q9, c0] at hk2; omega
    · have := hr.2.2.2.1 l (by omega) k hk2
      exact this.kp hk (this.no hu hr.1)
  · rw [en] at hl hl2
    have q10 : (if l = nLo σ then q2 else rL r l) = (if l2 = nLo σ then q2 else rL r l2) := q9
    by_cases c1 : l = nLo σ <;> by_cases c2 : l2 = nLo σ
    · omega
    · rw [if_pos c1, if_neg c2] at q10
      exact absurd q10.symm ((hr.2.2.1 l2 (by omega)).nf hf)
    · rw [if_neg c1, if_pos c2] at q10
      exact absurd q10 ((hr.2.2.1 l (by omega)).nf hf)
    · rw [if_neg c1, if_neg c2] at q10
      exact hr.2.2.2.2.2.2 l l2 (by omega) (by omega) q10
/-- a sign more -/
theorem Rp_add {q x l : Nat} (hr : Rp g X a σ r) (hu : Un X) (hne : Ne3 g) (hk : Kp X (ru r) Y) (hl : l < nLo σ) (h1 : Rq Y (ru r) (gU g) (nLo σ) (fun j => if j = l then q else rL r j)) (h2 : Rq Y q (gY g) (cN σ l + 1) (fun j => if j = cN σ l then x else rS r l j)) (hx : Sn g Y x L m) (hf : Fr X q) (hI : IC σ) :
    Rp g Y a (apB σ l L m) (ru r, rv r, (fun j => if j = l then q else rL r j), (fun j k => if j = l ∧ k = cN σ l then x else rS r j k), rT r) := by
  have hn := IC_n hI
  have hcl := cN_eq hI (b := l) (by omega)
  have en : nLo (apB σ l L m) = nLo σ := by show ((apB σ l L m).1 0).toNat = _; rw [ap_1, if_neg (by omega)]
  have ec : ∀ b : Nat, cN (apB σ l L m) b = if b = l then cN σ l + 1 else cN σ b := fun b => by
    show ((apB σ l L m).1 (2 + b)).toNat = _
    rw [ap_1]
    by_cases q9 : b = l
    · rw [if_pos (by omega), if_pos q9]
      have : 0 ≤ σ.1 (2 + l) := (hI.2.2.2.1 l (by omega)).1
      show (σ.1 (2 + l) + 1).toNat = (σ.1 (2 + l)).toNat + 1
      omega
    · rw [if_neg (by omega), if_neg q9]
  have nr : a ≠ ru r := fun z => (hr.2.1.no hu hr.1) z.symm
  have eg : ∀ j : Int, (apB σ l L m).2 0 j = σ.2 0 j := fun j => by rw [ap_lk (by omega), if_neg (by omega), if_neg (by omega)]
  refine ⟨hk _ hr.1 nr, by rw [en]; exact h1, fun b hb => ?_, fun b hb k hk2 => ?_, hr.2.2.2.2.1.kp hk (hr.2.2.2.2.1.nq hu hr.2.1 (fun z => hne.2.1 z.symm)), fun p hp => ?_, fun b b2 hb hb2 q9 => ?_⟩
  · rw [en] at hb
    rw [ec]
    show Rq Y (if b = l then q else rL r b) (gY g) (if b = l then cN σ l + 1 else cN σ b) (fun k => if b = l ∧ k = cN σ l then x else rS r b k)
    by_cases q9 : b = l
    · rw [if_pos q9, if_pos q9]
      refine h2.cg (fun j hj => ?_)
      subst q9
      by_cases q8 : j = cN σ b
      · rw [if_pos q8, if_pos ⟨rfl, q8⟩]
      · rw [if_neg q8, if_neg (fun z => q8 z.2)]
    · rw [if_neg q9, if_neg q9]
      have := hr.2.2.1 b hb
      exact (this.kp hk (this.nq hu hr.2.1 (fun z => hne.1 z.symm))).cg (fun j hj => by rw [if_neg (fun z => q9 z.1)])
  · rw [en] at hb
    rw [ec] at hk2
    show Sn g Y (if b = l ∧ k = cN σ l then x else rS r b k) _ _
    by_cases q9 : b = l
    · subst q9
      rw [if_pos rfl] at hk2
      have e1 : (apB σ b L m).2 (1 + b) k = if (k : Int) = σ.1 (2 + b) then L else σ.2 (1 + b) k := by rw [ap_lk (by omega), if_pos rfl]
      have e6 : (apB σ b L m).2 (6 + b) k = if (k : Int) = σ.1 (2 + b) then m else σ.2 (6 + b) k := by rw [ap_lk (by omega), if_neg (by omega), if_pos rfl]
      rw [e1, e6]
      by_cases q8 : k = cN σ b
      · rw [if_pos ⟨rfl, q8⟩, if_pos (by omega), if_pos (by omega)]
        exact hx
      · rw [if_neg (fun z => q8 z.2), if_neg (by omega), if_neg (by omega)]
        have := hr.2.2.2.1 b hb k (by omega)
        exact this.kp hk (this.nq hu hr.2.1)
    · rw [if_neg q9] at hk2
      have e1 : (apB σ l L m).2 (1 + b) k = σ.2 (1 + b) k := by rw [ap_lk (by omega), if_neg (by omega), if_neg (by omega)]
      have e6 : (apB σ l L m).2 (6 + b) k = σ.2 (6 + b) k := by rw [ap_lk (by omega), if_neg (by omega), if_neg (by omega)]
      rw [if_neg (fun z => q9 z.1), e1, e6]
      have := hr.2.2.2.1 b hb k hk2
      exact this.kp hk (this.nq hu hr.2.1)
  · have := hr.2.2.2.2.2.1 p hp
    exact (this.kp hk (this.nq hu hr.2.1)).cg (fun j j0 j1 => by rw [eg, eg])
  · rw [en] at hb hb2
    have q10 : (if b = l then q else rL r b) = (if b2 = l then q else rL r b2) := q9
    by_cases c1 : b = l <;> by_cases c2 : b2 = l
    · omega
    · rw [if_pos c1, if_neg c2] at q10
      exact absurd q10.symm ((hr.2.2.1 b2 hb2).nf hf)
    · rw [if_neg c1, if_pos c2] at q10
      exact absurd q10 ((hr.2.2.1 b hb).nf hf)
    · rw [if_neg c1, if_neg c2] at q10
      exact hr.2.2.2.2.2.2 b b2 hb hb2 q10
/-- a sign less -/
theorem Rp_rem {q l : Nat} {s : Int} (hr : Rp g X a σ r) (hu : Un X) (hne : Ne3 g) (hk : Kp X (ru r) Y) (hl : l < nLo σ) (hs : 0 ≤ s ∧ s < σ.1 (2 + l)) (h1 : Rq Y (ru r) (gU g) (nLo σ) (fun j => if j = l then q else rL r j)) (h2 : Rq Y q (gY g) (cN σ l - 1) (fun j => if (j : Int) < s then rS r l j else rS r l (j + 1))) (hf : Fr X q) (hI : IC σ) :
    Rp g Y a (rmB σ l s) (ru r, rv r, (fun j => if j = l then q else rL r j), (fun j k => if j = l then (if (k : Int) < s then rS r l k else rS r l (k + 1)) else rS r j k), rT r) := by
  have hn := IC_n hI
  have hcl := cN_eq hI (b := l) (by omega)
  have en : nLo (rmB σ l s) = nLo σ := by show ((rmB σ l s).1 0).toNat = _; rw [rm_1, if_neg (by omega)]
  have ec : ∀ b : Nat, cN (rmB σ l s) b = if b = l then cN σ l - 1 else cN σ b := fun b => by
    show ((rmB σ l s).1 (2 + b)).toNat = _
    rw [rm_1]
    by_cases q9 : b = l
    · rw [if_pos (by omega), if_pos q9]
      show (σ.1 (2 + l) - 1).toNat = (σ.1 (2 + l)).toNat - 1
      omega
    · rw [if_neg (by omega), if_neg q9]
  have rr := rm_r (σ := σ) (b := l) (by omega) hs
  have nr : a ≠ ru r := fun z => (hr.2.1.no hu hr.1) z.symm
  have eg : ∀ j : Int, (rmB σ l s).2 0 j = σ.2 0 j := fun j => by rw [rr, if_neg (by omega)]
  refine ⟨hk _ hr.1 nr, by rw [en]; exact h1, fun b hb => ?_, fun b hb k hk2 => ?_, hr.2.2.2.2.1.kp hk (hr.2.2.2.2.1.nq hu hr.2.1 (fun z => hne.2.1 z.symm)), fun p hp => ?_, fun b b2 hb hb2 q9 => ?_⟩
  · rw [en] at hb
    rw [ec]
    show Rq Y (if b = l then q else rL r b) (gY g) (if b = l then cN σ l - 1 else cN σ b) (fun k => if b = l then (if (k : Int) < s then rS r l k else rS r l (k + 1)) else rS r b k)
    by_cases q9 : b = l
    · rw [if_pos q9, if_pos q9]
      exact h2.cg (fun j hj => by rw [if_pos q9])
    · rw [if_neg q9, if_neg q9]
      have := hr.2.2.1 b hb
      exact (this.kp hk (this.nq hu hr.2.1 (fun z => hne.1 z.symm))).cg (fun j hj => by rw [if_neg q9])
  · rw [en] at hb
    rw [ec] at hk2
    show Sn g Y (if b = l then (if (k : Int) < s then rS r l k else rS r l (k + 1)) else rS r b k) _ _
    by_cases q9 : b = l
    · subst q9
      rw [if_pos rfl] at hk2
      have e1 : (rmB σ b s).2 (1 + b) k = if (k : Int) < s then σ.2 (1 + b) k else σ.2 (1 + b) (k + 1) := by
        rw [rr]
        by_cases w : (k : Int) < s
        · rw [if_neg (by omega), if_pos w]
        · rw [if_pos ⟨Or.inl rfl, by omega, by omega⟩, if_neg w]
      have e6 : (rmB σ b s).2 (6 + b) k = if (k : Int) < s then σ.2 (6 + b) k else σ.2 (6 + b) (k + 1) := by
        rw [rr]
        by_cases w : (k : Int) < s
        · rw [if_neg (by omega), if_pos w]
        · rw [if_pos ⟨Or.inr rfl, by omega, by omega⟩, if_neg w]
      rw [e1, e6, if_pos rfl]
      by_cases w : (k : Int) < s
      · rw [if_pos w, if_pos w, if_pos w]
        have := hr.2.2.2.1 b hb k (by omega)
        exact this.kp hk (this.nq hu hr.2.1)
      · rw [if_neg w, if_neg w, if_neg w]
        have := hr.2.2.2.1 b hb (k + 1) (by omega)
        rw [show ((k + 1 : Nat) : Int) = (k : Int) + 1 by omega] at this
        exact this.kp hk (this.nq hu hr.2.1)
    · rw [if_neg q9] at hk2
      have e1 : (rmB σ l s).2 (1 + b) k = σ.2 (1 + b) k := by rw [rr, if_neg (by omega)]
      have e6 : (rmB σ l s).2 (6 + b) k = σ.2 (6 + b) k := by rw [rr, if_neg (by omega)]
      rw [if_neg q9, e1, e6]
      have := hr.2.2.2.1 b hb k hk2
      exact this.kp hk (this.nq hu hr.2.1)
  · have := hr.2.2.2.2.2.1 p hp
    exact (this.kp hk (this.nq hu hr.2.1)).cg (fun j j0 j1 => by rw [eg, eg])
  · rw [en] at hb hb2
    have q10 : (if b = l then q else rL r b) = (if b2 = l then q else rL r b2) := q9
    by_cases c1 : b = l <;> by_cases c2 : b2 = l
    · omega
    · rw [if_pos c1, if_neg c2] at q10
      exact absurd q10.symm ((hr.2.2.1 b2 hb2).nf hf)
    · rw [if_neg c1, if_pos c2] at q10
      exact absurd q10 ((hr.2.2.1 b hb).nf hf)
    · rw [if_neg c1, if_neg c2] at q10
      exact hr.2.2.2.2.2.2 b b2 hb hb2 q10
/-- a sign told anew -/
theorem Rp_thumb {q l : Nat} {s L2 : Int} (hr : Rp g X a σ r) (hu : Un X) (hne : Ne3 g) (hk : Kp X (rL r l) Y) (hl : l < nLo σ) (hs : 0 ≤ s ∧ s < σ.1 (2 + l)) (h1 : Rq Y (rL r l) (gY g) (cN σ l) (fun j => if (j : Int) = s then q else rS r l j)) (hx : Sn g Y q L2 (σ.2 (6 + l) s)) (hI : IC σ) :
    Rp g Y a (sG σ (1 + l) s L2) (ru r, rv r, rL r, (fun j k => if j = l ∧ (k : Int) = s then q else rS r j k), rT r) := by
  have hn := IC_n hI
  have hL := hr.2.2.1 l hl
  refine ⟨hk _ hr.1 (fun z => hL.no hu hr.1 z.symm), hr.2.1.kp hk (hr.2.1.nq hu hL hne.1), fun b hb => ?_, fun b hb k hk2 => ?_, hr.2.2.2.2.1.kp hk (hr.2.2.2.2.1.nq hu hL (fun z => hne.2.2 z.symm)), fun p hp => ?_, hr.2.2.2.2.2.2⟩
  · show Rq Y (rL r b) (gY g) (cN σ b) (fun k => if b = l ∧ (k : Int) = s then q else rS r b k)
    by_cases q9 : b = l
    · subst q9
      refine h1.cg (fun j hj => ?_)
      by_cases w : (j : Int) = s
      · rw [if_pos w, if_pos ⟨rfl, w⟩]
      · rw [if_neg w, if_neg (fun z => w z.2)]
    · have h0 := hr.2.2.1 b hb
      exact (h0.kp hk (fun z => q9 (hr.2.2.2.2.2.2 b l hb hl z))).cg (fun j hj => by rw [if_neg (fun z => q9 z.1)])
  · show Sn g Y (if b = l ∧ (k : Int) = s then q else rS r b k) ((sG σ (1 + l) s L2).2 (1 + b) k) ((sG σ (1 + l) s L2).2 (6 + b) k)
    have hl4 : nLo σ ≤ 4 := hn.2
    have hb' : b < nLo σ := hb
    have e6 : (sG σ (1 + l) s L2).2 (6 + b) k = σ.2 (6 + b) k := by rw [sG_2, if_neg (by omega)]
    rw [e6, sG_2]
    by_cases q9 : b = l
    · subst q9
      rw [if_pos rfl]
      by_cases w : (k : Int) = s
      · rw [if_pos ⟨rfl, w⟩, if_pos w, w]
        exact hx
      · rw [if_neg (fun z => w z.2), if_neg w]
        have := hr.2.2.2.1 b hb k hk2
        exact this.kp hk (this.nq hu hL)
    · rw [if_neg (show ¬ 1 + b = 1 + l by omega), if_neg (fun z => q9 z.1)]
      have := hr.2.2.2.1 b hb k hk2
      exact this.kp hk (this.nq hu hL)
  · have := hr.2.2.2.2.2.1 p hp
    exact (this.kp hk (this.nq hu hL)).cg (fun j j0 j1 => by rw [sG_2, sG_2, if_neg (by omega), if_neg (by omega)])
/-- places joined -/
theorem Rp_join {q : Nat} {rr : Nat → Nat} {b c : Int} (hr : Rp g X a σ r) (hu : Un X) (hk : Kp X a Y) (h1 : (a, (.inr (3, [.ref (ru r), .ref q]) : va_E)) ∈ Y) (h2 : Rq Y q (gV g) 9 rr) (h3 : ∀ p : Nat, p < 9 → Zr g Y (rr p) ((unP σ b c).2 0) p) :
    Rp g Y a (unP σ b c) (ru r, q, rL r, rS r, rr) := by
  have e1 : ∀ v : Nat, v ≠ 1 → (unP σ b c).1 v = σ.1 v := fun v hv => by rw [un_1, if_neg (fun w => hv w.1)]
  have e2 : ∀ (r : Nat) (j : Int), r ≠ 0 → (unP σ b c).2 r j = σ.2 r j := fun r j hr => by rw [un_r, if_neg (fun w => hr w.1)]
  have en : nLo (unP σ b c) = nLo σ := by show ((unP σ b c).1 0).toNat = _; rw [e1 0 (by omega)]
  have ec : ∀ l : Nat, cN (unP σ b c) l = cN σ l := fun l => by show ((unP σ b c).1 (2 + l)).toNat = _; rw [e1 _ (by omega)]
  refine ⟨h1, by rw [en]; exact hr.2.1.kp hk (hr.2.1.no hu hr.1), fun l hl => ?_, fun l hl k hk2 => ?_, h2, h3, fun l l2 hl hl2 q9 => ?_⟩
  · rw [en] at hl
    rw [ec]
    exact (hr.2.2.1 l hl).kp hk ((hr.2.2.1 l hl).no hu hr.1)
  · rw [en] at hl
    rw [ec] at hk2
    rw [e2 _ _ (by omega), e2 _ _ (by omega)]
    exact (hr.2.2.2.1 l hl k hk2).kp hk ((hr.2.2.2.1 l hl k hk2).no hu hr.1)
  · rw [en] at hl hl2
    exact hr.2.2.2.2.2.2 l l2 hl hl2 q9
/-- which places are joined then -/
theorem un_rel {b c : Int} (hb : 0 ≤ b ∧ b < 9) (hc : 0 ≤ c ∧ c < 9) {p j : Int} (hp : 0 ≤ p ∧ p < 9) (hj : 0 ≤ j ∧ j < 9) : (unP σ b c).2 0 p = (unP σ b c).2 0 j ↔ (σ.2 0 p = σ.2 0 j ∨ (σ.2 0 p = σ.2 0 b ∧ σ.2 0 c = σ.2 0 j)) ∨ (σ.2 0 p = σ.2 0 c ∧ σ.2 0 b = σ.2 0 j) := by
  rw [un_0 σ b c hp.1 hp.2, un_0 σ b c hj.1 hj.2]
  by_cases h1 : σ.2 0 p = σ.2 0 c <;> by_cases h2 : σ.2 0 j = σ.2 0 c
  · rw [if_pos h1, if_pos h2]; omega
  · rw [if_pos h1, if_neg h2]; omega
  · rw [if_neg h1, if_pos h2]; omega
  · rw [if_neg h1, if_neg h2]; omega
end RT
