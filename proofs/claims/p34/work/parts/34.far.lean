/-! the law's own readings: arrays of arrays of numbers -/
def Gd (g : GG) (X : va_W) (v n : Nat) (F : Int → Int → Int) : Prop := ∃ rr : Nat → Nat, (v, rq (gY g) n (fun i => if i < n then some (rr i) else none)) ∈ X ∧ ∀ i : Nat, i < n → ∃ f : Int → Int, (rr i, ri g f n) ∈ X ∧ ∀ j : Int, 0 ≤ j → j < n → f j = F i j
def Fa (g : GG) (X : va_W) (q : Nat) (σ : Sg) (f : Nat → Option Nat) (l : Int) : Prop := (q, rq (gU g) (nLo σ) f) ∈ X ∧ ∀ b : Nat, (b : Int) < l → ∃ v, f b = some v ∧ Gd g X v (cN σ b) (dB σ b)
theorem ri_ne {g : GG} {f : Int → Int} {n m : Nat} {c : ClassId} {h : Nat → Option Nat} : ri g f n ≠ rq c m h := fun e => by cases e
theorem Gd.sb {g : GG} {X Y : va_W} {v n : Nat} {F : Int → Int → Int} (h : Gd g X v n F) (hs : Sb X Y) : Gd g Y v n F := by
  obtain ⟨rr, h1, h2⟩ := h
  refine ⟨rr, hs _ h1, fun i hi => ?_⟩
  obtain ⟨f, h3, h4⟩ := h2 i hi
  exact ⟨f, hs _ h3, h4⟩
theorem Gd.tr {g : GG} {X Y : va_W} {v n q m : Nat} {F : Int → Int → Int} {f9 : Nat → Option Nat} (h : Gd g X v n F) (ht : ∀ p ∈ X, p.1 ≠ q → p ∈ Y) (hu : Un X) (hne : Ne3 g) (hq : (q, rq (gU g) m f9) ∈ X) : Gd g Y v n F := by
  obtain ⟨rr, h1, h2⟩ := h
  refine ⟨rr, ht _ h1 (fun e => ?_), fun i hi => ?_⟩
  · have e : v = q := e
    subst e
    have := hu _ _ _ h1 hq
    exact hne.1 (congrArg (fun e : va_E => match e with | .inl z => z.1 | .inr _ => gU g) this).symm
  · obtain ⟨f, h3, h4⟩ := h2 i hi
    refine ⟨f, ht _ h3 (fun e => ?_), h4⟩
    have e : rr i = q := e
    rw [e] at h3
    exact ri_ne (hu _ _ _ h3 hq)
theorem Gd.kp {g : GG} {X Y : va_W} {v n a : Nat} {F : Int → Int → Int} (h : Gd g X v n F) (hk : Kp X a Y) (hu : Un X) {o : Nat × List Value} (ha : (a, (.inr o : va_E)) ∈ X) : Gd g Y v n F := by
  obtain ⟨rr, h1, h2⟩ := h
  refine ⟨rr, hk _ h1 (fun e => ?_), fun i hi => ?_⟩
  · have e : v = a := e
    subst e
    cases hu _ _ _ h1 ha
  · obtain ⟨f, h3, h4⟩ := h2 i hi
    refine ⟨f, hk _ h3 (fun e => ?_), h4⟩
    have e : rr i = a := e
    rw [e] at h3
    cases hu _ _ _ h3 ha
theorem Fa.kp {g : GG} {X Y : va_W} {q a : Nat} {σ : Sg} {f : Nat → Option Nat} {l : Int} (h : Fa g X q σ f l) (hk : Kp X a Y) (hu : Un X) {o : Nat × List Value} (ha : (a, (.inr o : va_E)) ∈ X) : Fa g Y q σ f l := by
  refine ⟨hk _ h.1 (fun e => ?_), fun b hb => ?_⟩
  · have e : q = a := e
    subst e
    cases hu _ _ _ h.1 ha
  · obtain ⟨v, h1, h2⟩ := h.2 b hb
    exact ⟨v, h1, h2.kp hk hu ha⟩
/-- the cells that stand while a fresh grid is filled -/
theorem mkXB {X1 Y1 Y2 : va_W} {v n q : Nat} {rr : Nat → Nat} {e fR e0 e2 : va_E} (hn : Nm X1 v rr n e fR Y1) (hw : Wr Y1 q e2 Y2) (h0 : (q, e0) ∈ X1) :
    ∃ XB : va_W, Sb XB Y2 ∧ (∀ i, i < n → Fr XB (rr i)) ∧ (∀ p ∈ X1, p.1 ≠ q → p ∈ XB) ∧ (q, e2) ∈ XB ∧ (v, e) ∈ XB ∧ ∀ i, i < n → (rr i, fR) ∈ Y2 := by
  obtain ⟨h1, h2, h3, h4, h5, h6, h7⟩ := hn
  refine ⟨Y2.filter (fun p => decide (∀ i, i < n → p.1 ≠ rr i)), fun p hp => (List.mem_filter.mp hp).1, fun i hi p hp => of_decide_eq_true (List.mem_filter.mp hp).2 i hi, fun p hp hpq => ?_, ?_, ?_, fun i hi => ?_⟩
  · exact List.mem_filter.mpr ⟨hw.2 _ (h3 _ hp) hpq, decide_eq_true (fun i hi => h5 i hi p hp)⟩
  · exact List.mem_filter.mpr ⟨hw.1, decide_eq_true (fun i hi => show q ≠ rr i from h5 i hi (q, e0) h0)⟩
  · exact List.mem_filter.mpr ⟨hw.2 _ h1 (fun z => h4 _ h0 z.symm), decide_eq_true (fun i hi z => h7 i hi z.symm)⟩
  · exact hw.2 _ (h2 i hi) (fun z => h5 i hi _ h0 z.symm)
theorem rows_upI {g : GG} {Y Y1 : va_W} {rr : Nat → Nat} {F : Nat → Int → Int} {p m : Nat} {f : Int → Int} (hrows : ∀ i, i < m → (rr i, ri g (F i) m) ∈ Y) (inj : ∀ i j : Nat, i < m → j < m → rr i = rr j → i = j) (hp : p < m) (hw : Wr Y (rr p) (ri g f m) Y1) : ∀ i, i < m → (rr i, ri g (if i = p then f else F i) m) ∈ Y1 := by
  intro i hi
  by_cases e : i = p
  · rw [if_pos e, e]; exact hw.1
  · rw [if_neg e]; exact hw.2 _ (hrows i hi) (fun z => e (inj i p hi hp z))
theorem wnL83 : Cond.classLink RL 83 (FieldType.array (.array .int)).toString ∈ wsA := by rw [tn2]; exact wd539
theorem wnL83b : Cond.classLink RL 83 ("[" ++ (FieldType.array .int).toString) ∈ wsA := by rw [tn4]; exact wd539
section FJ
variable {mc : MC} {g : GG} {X : va_W} {k n : Nat} {Q : State → Prop} {pc : Nat} {lv : List (Nat × Value)} {st : List Value} {σ : Sg} {cc : ByteArray} {own : String} {nL : Nat} {ret : Option FieldType}
theorem x_ialdE (hC : Cx mc (gx g X) cc own nL ret) {a m0 : Nat} {f : Int → Int} {z y : Int} (he : (a, ri g f m0) ∈ X) (hy : f z = y) (hz : 0 ≤ z ∧ z < m0 ∧ m0 ≤ 2147483647) (hd : decode cc pc = .ok (.iaload, 1)) (kk : J mc (gx g X) k n Q (pc + 1) lv (vI y :: st) σ) : J mc (gx g X) k n Q pc lv (vI z :: .ref a :: st) σ := by
  subst hy
  exact x_iald (g := gx g X) hC he hz hd kk
theorem f_val {τ : Sg} (hC : Cx mc (gx g X) cc own nL ret) {rr : Nat → Nat} {b m : Nat} (hrows : ∀ i : Nat, i < m → ∃ f : Int → Int, (rr i, ri g f m) ∈ X ∧ ∀ j : Int, 0 ≤ j → j < m → f j = dB τ b i j) {j z : Int} (hj : 0 ≤ j ∧ j < m) (hz : 0 ≤ z ∧ z < m) (hm : m ≤ 16) (hd : decode cc pc = .ok (.iaload, 1)) (kk : J mc (gx g X) k n Q (pc + 1) lv (vI (dst (τ.2 0) (τ.2 (1 + b) j) (τ.2 (1 + b) z)) :: st) σ) : J mc (gx g X) k n Q pc lv (vI z :: .ref (rr j.toNat) :: st) σ := by
  obtain ⟨f, h1, h2⟩ := hrows j.toNat (by omega)
  have e := h2 z hz.1 hz.2
  rw [show ((j.toNat : Nat) : Int) = j by omega] at e
  exact x_ialdE hC h1 e (by omega) hd kk
end FJ
