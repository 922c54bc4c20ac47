/-! the law's own cells: a world that the law's methods change and let grow; its cells are known by membership -/
/-- the same, but with these cells of the law's own -/
abbrev gx (g : GG) (X : va_W) : GG := (g.1, g.2.1, g.2.2.1, g.2.2.2.1, X, g.2.2.2.2.2)
abbrev zi (g : GG) (f : Int → Int) (n : Nat) : va_E := .inl (gZ g, n, .inl (fun j : Nat => iI (f (j : Int))))
abbrev rq (c : ClassId) (n : Nat) (f : Nat → Option Nat) : va_E := .inl (c, n, .inr (.inr (.inr (.inr f))))
/-- X with the cell a turned into e: it is there, and all others still are -/
def Wr (X : va_W) (a : Nat) (e : va_E) (Y : va_W) : Prop := (a, e) ∈ Y ∧ ∀ q ∈ X, q.1 ≠ a → q ∈ Y
/-- X and a new cell -/
def Nu (X : va_W) (a : Nat) (e : va_E) (Y : va_W) : Prop := (a, e) ∈ Y ∧ (∀ q ∈ X, q ∈ Y) ∧ ∀ q ∈ X, q.1 ≠ a
def Sb (X Y : va_W) : Prop := ∀ q ∈ X, q ∈ Y
/-- no cell of X is there -/
def Fr (X : va_W) (a : Nat) : Prop := ∀ q ∈ X, q.1 ≠ a
theorem Sb.rf {X : va_W} : Sb X X := fun _ h => h
theorem Sb.tr {X Y Z : va_W} (h : Sb X Y) (h2 : Sb Y Z) : Sb X Z := fun q hq => h2 q (h q hq)
theorem Sb.wr {X Y Z : va_W} {a : Nat} {e : va_E} (h : Sb X Y) (hf : Fr X a) (w : Wr Y a e Z) : Sb X Z := fun q hq => w.2 q (h q hq) (hf q hq)
theorem Nu.sb {X Y : va_W} {a : Nat} {e : va_E} (h : Nu X a e Y) : Sb X Y := h.2.1
theorem Nu.fr {X Y X0 : va_W} {a : Nat} {e : va_E} (h : Nu X a e Y) (h0 : Sb X0 X) : Fr X0 a := fun q hq => h.2.2 q (h0 q hq)
theorem Fr.sub {X Y : va_W} {a : Nat} (h : Fr Y a) (h0 : Sb X Y) : Fr X a := fun q hq => h q (h0 q hq)
theorem Wr.ot {X Y : va_W} {a b : Nat} {e e2 : va_E} (w : Wr X a e Y) (h : (b, e2) ∈ X) (hn : b ≠ a) : (b, e2) ∈ Y := w.2 _ h hn
theorem x_mem {g : GG} {σ : Sg} {q : Nat × va_E} (h : q ∈ gX g) : ∃ i : Nat, (hw g σ)[i]? = some q := by
  have h2 : q ∈ hw g σ := List.mem_append_right _ h
  exact List.getElem?_of_mem h2
theorem x_at {g : GG} {σ : Sg} {q : Nat × va_E} (h : q ∈ gX g) : ∃ i : Nat, (hw g σ)[19 + i]? = some q ∧ (gX g)[i]? = some q := by
  obtain ⟨i, hi⟩ := List.getElem?_of_mem h
  refine ⟨i, ?_, hi⟩
  show (([_, _, _, _, _, _, _, _, _, _, _, _, _, _, _, _, _, _, _] : va_W) ++ gX g)[19 + i]? = some q
  rw [List.getElem?_append_right (by show 19 ≤ 19 + i; omega)]
  show (gX g)[19 + i - 19]? = some q
  rw [Nat.add_sub_cancel_left]
  exact hi
theorem va_D_ad {A : Nat → Prop} {w w2 : va_W} (h : w.map Prod.fst = w2.map Prod.fst) (hD : va_D A w) : va_D A w2 := by
  have key : ∀ (k : Nat) (q : Nat × va_E), w2[k]? = some q → ∃ p, w[k]? = some p ∧ p.1 = q.1 := by
    intro k q hk
    have h1 : (w.map Prod.fst)[k]? = some q.1 := by rw [h, List.getElem?_map, hk]; rfl
    rw [List.getElem?_map] at h1
    cases hp : w[k]? with
    | none => rw [hp] at h1; cases h1
    | some p => rw [hp] at h1; exact ⟨p, rfl, Option.some.inj h1⟩
  refine ⟨fun i j p q hi hj e => ?_, fun k q hk => ?_⟩
  · obtain ⟨p1, h1, h2⟩ := key i p hi
    obtain ⟨q1, h3, h4⟩ := key j q hj
    exact hD.1 i j p1 q1 h1 h3 (h2.trans (e.trans h4.symm))
  · obtain ⟨p, h1, h2⟩ := key k q hk
    rw [← h2]
    exact hD.2 k p h1
theorem hw_ad (g : GG) (σ τ : Sg) : (hw g σ).map Prod.fst = (hw g τ).map Prod.fst := by
  show (([_, _, _, _, _, _, _, _, _, _, _, _, _, _, _, _, _, _, _] : va_W) ++ gX g).map Prod.fst = (([_, _, _, _, _, _, _, _, _, _, _, _, _, _, _, _, _, _, _] : va_W) ++ gX g).map Prod.fst
  rw [List.map_append, List.map_append]
  rfl
theorem va_D_all {g : GG} {σ : Sg} (h : va_D (gA g) (hw g σ)) : ∀ τ, va_D (gA g) (hw g τ) := fun τ => va_D_ad (hw_ad g σ τ) h
/-- a cell has one content -/
theorem x_uni {g : GG} {σ : Sg} {a : Nat} {e1 e2 : va_E} (hD : va_D (gA g) (hw g σ)) (h1 : (a, e1) ∈ gX g) (h2 : (a, e2) ∈ gX g) : e1 = e2 := by
  obtain ⟨i, hi⟩ := x_mem (σ := σ) h1
  obtain ⟨j, hj⟩ := x_mem (σ := σ) h2
  have := hD.1 i j _ _ hi hj rfl
  subst this
  exact congrArg Prod.snd (Option.some.inj (hi.symm.trans hj))
theorem hw_set (g : GG) (σ : Sg) (i : Nat) (q : Nat × va_E) : (hw g σ).set (19 + i) q = hw (gx g ((gX g).set i q)) σ := by
  show (([_, _, _, _, _, _, _, _, _, _, _, _, _, _, _, _, _, _, _] : va_W) ++ gX g).set (19 + i) q = _
  rw [List.set_append_right _ _ (by show 19 ≤ 19 + i; omega)]
  show _ ++ (gX g).set (19 + i - 19) q = _
  rw [Nat.add_sub_cancel_left]
  rfl
theorem hw_app (g : GG) (σ : Sg) (w : va_W) : hw g σ ++ w = hw (gx g (gX g ++ w)) σ := by
  show (([_, _, _, _, _, _, _, _, _, _, _, _, _, _, _, _, _, _, _] : va_W) ++ gX g) ++ w = _
  rw [List.append_assoc]
  rfl
theorem Wr_set {X : va_W} {i a : Nat} {e0 e : va_E} (h : X[i]? = some (a, e0)) : Wr X a e (X.set i (a, e)) := by
  have hl := (List.getElem?_eq_some_iff.mp h).1
  refine ⟨List.mem_of_getElem? (i := i) (by rw [List.getElem?_set_self hl]), fun q hq hn => ?_⟩
  obtain ⟨j, hj⟩ := List.getElem?_of_mem hq
  have hji : i ≠ j := fun z => by
    subst z
    exact hn (congrArg Prod.fst (Option.some.inj (hj.symm.trans h)))
  exact List.mem_of_getElem? (i := j) (by rw [List.getElem?_set_ne hji]; exact hj)
theorem Nu_app {g : GG} {σ : Sg} {a : Nat} {e : va_E} (hD : va_D (gA g) (hw g σ ++ [(a, e)])) : Nu (gX g) a e (gX g ++ [(a, e)]) := by
  refine ⟨List.mem_append_right _ List.mem_cons_self, fun q hq => List.mem_append_left _ hq, fun q hq z => ?_⟩
  obtain ⟨i, hi⟩ := x_mem (σ := σ) hq
  have hl := (List.getElem?_eq_some_iff.mp hi).1
  have h1 : (hw g σ ++ [(a, e)])[i]? = some q := by rw [List.getElem?_append_left hl]; exact hi
  have h2 : (hw g σ ++ [(a, e)])[(hw g σ).length]? = some (a, e) := by rw [List.getElem?_append_right (Nat.le_refl _), Nat.sub_self]; rfl
  have := hD.1 _ _ _ _ h1 h2 z
  omega
theorem Cx_x {mc : MC} {g : GG} {X0 X : va_W} {cc : ByteArray} {own : String} {nL : Nat} {ret : Option FieldType} (hC : Cx mc (gx g X0) cc own nL ret) (hD : ∀ τ, va_D (gA g) (hw (gx g X) τ)) : Cx mc (gx g X) cc own nL ret := by
  obtain ⟨a1, a2, a3, a4, a5, a6, a7, a8, a9, -, a11, a12, a13⟩ := hC
  exact ⟨a1, a2, a3, a4, a5, a6, a7, a8, a9, hD, a11, a12, a13⟩
theorem x_fc {U : State} {t : FieldType} {c : ClassId} (ht : ∀ C, t ≠ .object C) (h : va_RA U c t) : U.vm.findClass ("[" ++ t.toString) = some c := by
  cases t <;> first | exact h | exact absurd rfl (ht _)
section XJ
variable {mc : MC} {g : GG} {X : va_W} {k n : Nat} {Q : State → Prop} {pc : Nat} {lv : List (Nat × Value)} {st : List Value} {σ : Sg} {cc : ByteArray} {own : String} {nL : Nat} {ret : Option FieldType}
theorem hX_D (hC : Cx mc g cc own nL ret) (σ : Sg) : va_D (gA g) (hw g σ) := hC.2.2.2.2.2.2.2.2.2.1 σ
theorem hX_K (hC : Cx mc g cc own nL ret) : va_K (gD g) vwCl (gT g) (mS mc) := hC.2.2.2.2.2.2.1
theorem hX_T (hC : Cx mc g cc own nL ret) : TH g (mS mc) (mS mc).heap := hC.2.2.2.2.2.2.2.2.1
theorem hX_A (hC : Cx mc g cc own nL ret) : ∀ q, (mS mc).heap.size ≤ q → gA g q := gA_new hC.2.2.2.2.2.2.2.2.2.2.1
theorem x_one (hC : Cx mc g cc own nL ret) {a : Nat} {e1 e2 : va_E} (h1 : (a, e1) ∈ gX g) (h2 : (a, e2) ∈ gX g) : e1 = e2 := x_uni (hX_D hC (fun _ => 0, fun _ _ => 0)) h1 h2
/-! reading -/
theorem x_iald (hC : Cx mc g cc own nL ret) {a m0 : Nat} {f : Int → Int} {z : Int} (he : (a, ri g f m0) ∈ gX g) (hz : 0 ≤ z ∧ z < m0 ∧ m0 ≤ 2147483647) (hd : decode cc pc = .ok (.iaload, 1)) (kk : J mc g k n Q (pc + 1) lv (vI (f z) :: st) σ) : J mc g k n Q pc lv (vI z :: .ref a :: st) σ := by
  obtain ⟨i, hi⟩ := x_mem (σ := σ) he
  exact j_iald hC i hi hz hd kk
theorem x_zald (hC : Cx mc g cc own nL ret) {a m0 : Nat} {f : Int → Int} {z : Int} (he : (a, zi g f m0) ∈ gX g) (hz : 0 ≤ z ∧ z < m0 ∧ m0 ≤ 2147483647) (hd : decode cc pc = .ok (.baload, 1)) (kk : J mc g k n Q (pc + 1) lv (vI (f z) :: st) σ) : J mc g k n Q pc lv (vI z :: .ref a :: st) σ := by
  obtain ⟨i, hi⟩ := x_mem (σ := σ) he
  intro H locs ls hP hS hl
  refine va_zald hC.1 hC.2.1 (hX_K hC) hP i 1 hi rfl (iI_in hz.1 hz.2.1 hz.2.2) hd ?_
  have e : ((iI z).toNatClampNeg : Int) = z := by rw [iI_clamp (by omega) (by omega), Int.toNat_of_nonneg hz.1]
  show W _ _ _ _ _ _ _ _ _ _ _ _ _ _ _ (F0 _ _ _ (.int (iI (f ((iI z).toNatClampNeg : Int))) :: st))
  rw [e]
  exact kk H locs ls hP hS hl
theorem x_rald (hC : Cx mc g cc own nL ret) {a n0 v : Nat} {c : ClassId} {f : Nat → Option Nat} {z : Int} {ty : FieldType} (he : (a, rq c n0 f) ∈ gX g) (t0 : Nat) (ht : (gT g)[t0]? = some (c, ty)) (hr : ty.isReference = true) (hv : f z.toNat = some v) (hz : 0 ≤ z ∧ z < n0 ∧ n0 ≤ 2147483647) (hd : decode cc pc = .ok (.aaload, 1)) (kk : J mc g k n Q (pc + 1) lv (.ref v :: st) σ) : J mc g k n Q pc lv (vI z :: .ref a :: st) σ := by
  obtain ⟨i, hi⟩ := x_mem (σ := σ) he
  intro H locs ls hP hS hl
  have hin : vp_in (iI z) n0 := iI_in hz.1 hz.2.1 hz.2.2
  have hlt : (iI z).toNatClampNeg < n0 := Nat.not_le.mp fun q => hin (Or.inr q)
  exact W.aald (v := .ref v) (ty := ty) hC.1 hC.2.1 (hP i _ hi) (((hX_K hC).2 t0 _ ht).1 n0 (fun j => va_rf (f j))) hr (fun q => by cases q) (by show ¬ (_ ∨ (arrV _ _ _).slots.size ≤ _); rw [arrV_size]; exact hin) (by show (arrV _ _ _).slots[_]? = _; rw [arrV_read _ _ hlt, iI_clamp (by omega) (by omega), hv]; rfl) rfl rfl hd (kk H locs ls hP hS hl)
theorem x_alen (hC : Cx mc g cc own nL ret) {a : Nat} {c : ClassId} {x : vp_A} {ty : FieldType} {z : Int} (he : (a, .inl (c, x)) ∈ gX g) (t0 : Nat) (ht : (gT g)[t0]? = some (c, ty)) (hz : (x.1 : Int) = z) (hd : decode cc pc = .ok (.arraylength, 1)) (kk : J mc g k n Q (pc + 1) lv (vI z :: st) σ) : J mc g k n Q pc lv (.ref a :: st) σ := by
  obtain ⟨i, hi⟩ := x_mem (σ := σ) he
  subst hz
  exact fun H locs ls hP hS hl => va_alen hC.1 hC.2.1 (hX_K hC) hP i t0 hi ht (iI_nat _).symm hd (kk H locs ls hP hS hl)
theorem x_get (hC : Cx mc g cc own nL ret) {index a : Nat} {fs : List Value} {v : Value} (he : (a, .inr (3, fs)) ∈ gX g) (f : Nat) (hf : f < 2) (hlink : Cond.fieldLink own index (TX4 f).1 (TX4 f).2.1 (TX4 f).2.2.1 ∈ wsA) (hv : fs[f]? = some v) (hd : decode cc pc = .ok (.getfield index, 3)) (kk : J mc g k n Q (pc + 3) lv (v :: st) σ) : J mc g k n Q pc lv (.ref a :: st) σ := by
  obtain ⟨i, hi⟩ := x_mem (σ := σ) he
  exact j_get hC inX4 rfl i hi f hf hlink hv hd kk
/-! the script -/
theorem x_sld (hC : Cx mc g cc own nL ret) {z : Int} (hz : 0 ≤ z ∧ z < gn g ∧ gn g ≤ 2147483647) (hd : decode cc pc = .ok (.iaload, 1)) (kk : ∀ x : Int32, J mc g k n Q (pc + 1) lv (.int x :: st) σ) : J mc g k n Q pc lv (vI z :: .ref (gb g) :: st) σ := by
  intro H locs ls hP hS hl
  have hT := hX_T hC
  obtain ⟨scr, h1, -⟩ := id hT.2.2.2.2.2
  exact va_sld hC.1 hC.2.1 hT.2.2.2.2.2 (Array.getElem?_eq_some_iff.mp h1).1 (Nat.not_le.mpr hT.2.2.2.2.1) hS (iI_in hz.1 hz.2.1 hz.2.2) hd (kk _ H locs ls hP hS hl)
theorem x_slen (hC : Cx mc g cc own nL ret) (hd : decode cc pc = .ok (.arraylength, 1)) (kk : J mc g k n Q (pc + 1) lv (vI (gn g : Int) :: st) σ) : J mc g k n Q pc lv (.ref (gb g) :: st) σ := by
  intro H locs ls hP hS hl
  have hT := hX_T hC
  obtain ⟨scr, h1, -⟩ := id hT.2.2.2.2.2
  refine va_slen hC.1 hC.2.1 hT.2.2.2.2.2 (Array.getElem?_eq_some_iff.mp h1).1 (Nat.not_le.mpr hT.2.2.2.2.1) hS hd ?_
  rw [← iI_nat]
  exact kk H locs ls hP hS hl
/-! writing -/
theorem x_iast (hC : Cx mc (gx g X) cc own nL ret) {a m0 : Nat} {f : Int → Int} {z x : Int} (he : (a, ri g f m0) ∈ X) (hz : 0 ≤ z ∧ z < m0 ∧ m0 ≤ 2147483647) (hd : decode cc pc = .ok (.iastore, 1)) (kk : ∀ Y, Wr X a (ri g (fun j => if j = z then x else f j) m0) Y → Cx mc (gx g Y) cc own nL ret → J mc (gx g Y) k n Q (pc + 1) lv st σ) : J mc (gx g X) k n Q pc lv (vI x :: vI z :: .ref a :: st) σ := by
  obtain ⟨i, hi, hi2⟩ := x_at (g := gx g X) (σ := σ) he
  intro H locs ls hP hS hl
  refine va_iast hC.1 hC.2.1 (hX_K hC) hP (hX_D hC σ) hS _ 0 hi rfl (iI_in hz.1 hz.2.1 hz.2.2) hd (fun H1 locs1 hP1 hD1 hS1 => ?_)
  rw [iI_up hz.1 (by omega)] at hP1 hD1
  rw [hw_set] at hP1 hD1
  exact kk _ (Wr_set hi2) (Cx_x hC (va_D_all hD1)) H1 locs1 ls hP1 hS1 hl
theorem x_zast (hC : Cx mc (gx g X) cc own nL ret) {a m0 : Nat} {f : Int → Int} {z x : Int} (he : (a, zi g f m0) ∈ X) (hx : x = 0 ∨ x = 1) (hz : 0 ≤ z ∧ z < m0 ∧ m0 ≤ 2147483647) (hd : decode cc pc = .ok (.bastore, 1)) (kk : ∀ Y, Wr X a (zi g (fun j => if j = z then x else f j) m0) Y → Cx mc (gx g Y) cc own nL ret → J mc (gx g Y) k n Q (pc + 1) lv st σ) : J mc (gx g X) k n Q pc lv (vI x :: vI z :: .ref a :: st) σ := by
  obtain ⟨i, hi, hi2⟩ := x_at (g := gx g X) (σ := σ) he
  intro H locs ls hP hS hl
  refine va_zast hC.1 hC.2.1 (hX_K hC) hP (hX_D hC σ) hS _ 1 hi rfl (iI_in hz.1 hz.2.1 hz.2.2) hd (fun H1 locs1 hP1 hD1 hS1 => ?_)
  have e : vp_nar .boolean (iI x) = iI x := by rcases hx with rfl | rfl <;> decide
  rw [e, iI_up hz.1 (by omega)] at hP1 hD1
  rw [hw_set] at hP1 hD1
  exact kk _ (Wr_set hi2) (Cx_x hC (va_D_all hD1)) H1 locs1 ls hP1 hS1 hl
theorem asg_refl (vm : Vm) (c : ClassId) : vm.assignable c c = true := by
  show vm.assignableAux (255 + 1) c c = true
  rw [Vm.assignableAux, beq_self_eq_true, Bool.true_or]
theorem vp_cell_cls (c : ClassId) (y : vp_A) : (vp_cell c y).cls = c ∧ (vp_cell c y).vm = .none := by
  obtain ⟨n, f | f | f | f | f⟩ := y <;> exact ⟨rfl, rfl⟩
theorem x_rast (hC : Cx mc (gx g X) cc own nL ret) {a n0 v : Nat} {c c2 : ClassId} {f : Nat → Option Nat} {z : Int} {t : FieldType} {y : vp_A} (he : (a, rq c n0 f) ∈ X) (hv : (v, .inl (c2, y)) ∈ X) (t0 t1 : Nat) (ht : (gT g)[t0]? = some (c, .array t)) (ht1 : (gT g)[t1]? = some (c2, t)) (hao : va_AOA t (mS mc)) (hno : ∀ C, t ≠ .object C) (hz : 0 ≤ z ∧ z < n0 ∧ n0 ≤ 2147483647) (hd : decode cc pc = .ok (.aastore, 1)) (kk : ∀ Y, Wr X a (rq c n0 (fun j => if j = z.toNat then some v else f j)) Y → Cx mc (gx g Y) cc own nL ret → J mc (gx g Y) k n Q (pc + 1) lv st σ) : J mc (gx g X) k n Q pc lv (.ref v :: vI z :: .ref a :: st) σ := by
  obtain ⟨i, hi, hi2⟩ := x_at (g := gx g X) (σ := σ) he
  obtain ⟨j, hj⟩ := x_mem (g := gx g X) (σ := σ) hv
  intro H locs ls hP hS hl
  have hK := hX_K hC
  have hin : vp_in (iI z) n0 := iI_in hz.1 hz.2.1 hz.2.2
  have hlt : (iI z).toNatClampNeg < n0 := Nat.not_le.mp fun q => hin (Or.inr q)
  have h0 : ¬ (iI z) < 0 := fun q => hin (Or.inl q)
  obtain ⟨comp, c3, kA, f1, -, f3, f4, f5⟩ := arrayOverA_spec hao
  have e1 : c3 = c := Option.some.inj (f5.symm.trans (x_fc (fun C h => by cases h) (hK.2 t0 _ ht).2))
  have e2 : comp = c2 := Option.some.inj (f1.symm.trans (x_fc hno (hK.2 t1 _ ht1).2))
  subst e1 e2
  obtain ⟨kC, hkC, -⟩ := Vm.findClass_spec f1
  have hcv : H[v]? = some (vp_cell comp y) := hP j _ hj
  have hcl := vp_cell_cls comp y
  refine W.aast hC.1 hC.2.1 (hP _ _ hi) (fun q h => by cases h) (fun h => by cases h) f3 f4 rfl hkC ⟨h0, by show _ < (arrV _ _ _).slots.size; rw [arrV_size]; exact hlt⟩ hcv (fun q h => by rw [hcl.2] at h; cases h) (by rw [hcl.1]; exact hkC) (by rw [hcl.1]; exact asg_refl _ _) rfl rfl hd fun H1 e z1 oq => ?_
  have hD := hX_D hC σ
  have he1 : va_at (gD g) vwCl (a, rq c3 n0 (fun j => if j = z.toNat then some v else f j)) H1 := by
    show H1[a]? = some (vp_cell _ _)
    rw [e]
    show some (Cell.setSlot (vp_cell c3 (n0, .inr (.inr (.inr (.inr f))))) _ _) = _
    rw [vp_cell_q, vp_cell_q, arrV_store]
    congr 2
    funext q
    rw [iI_clamp (by omega) (by omega)]
    by_cases hq : q = z.toNat
    · subst hq
      simp [updV, va_rf]
    · simp [updV, hq]
  have hP1 := va_P.set hP hD hi he1 oq
  have hD1 := hD.set (e := rq c3 n0 (fun j => if j = z.toNat then some v else f j)) hi
  rw [hw_set] at hP1 hD1
  exact kk _ (Wr_set hi2) (Cx_x hC (va_D_all hD1)) H1 _ ls hP1 (hS.put z1 oq (hD.2 _ _ hi)) hl
theorem x_put (hC : Cx mc (gx g X) cc own nL ret) {index a b : Nat} {fs : List Value} (he : (a, .inr (3, fs)) ∈ X) (f : Nat) (hf : f < 2) (hlink : Cond.fieldLink own index (TX4 f).1 (TX4 f).2.1 (TX4 f).2.2.1 ∈ wsA) (hlen : f < fs.length) (hd : decode cc pc = .ok (.putfield index, 3)) (kk : ∀ Y, Wr X a (.inr (3, fs.set f (.ref b))) Y → Cx mc (gx g Y) cc own nL ret → J mc (gx g Y) k n Q (pc + 3) lv st σ) : J mc (gx g X) k n Q pc lv (.ref b :: .ref a :: st) σ := by
  obtain ⟨i, hi, hi2⟩ := x_at (g := gx g X) (σ := σ) he
  intro H locs ls hP hS hl
  refine va_put (ty := tyX4 f) (own := own) hC.1 hC.2.1 hC.2.2.2.2.1 inX4 tyX4 tyX4_ok nmX4 hC.2.2.2.1 (hX_K hC) hP (hX_D hC σ) hS _ hi rfl f hf (hC.2.2.2.2.1 _ hlink) (fun _ h => h) ?_ (tyX4_ok f hf) ?_ ?_ hlen hd (fun H1 locs1 hP1 hD1 hS1 => ?_)
  · rcases (show f = 0 ∨ f = 1 by omega) with rfl | rfl <;> rfl
  · rcases (show f = 0 ∨ f = 1 by omega) with rfl | rfl <;> rfl
  · rcases (show f = 0 ∨ f = 1 by omega) with rfl | rfl <;> rfl
  · rw [hw_set] at hP1 hD1
    exact kk _ (Wr_set hi2) (Cx_x hC (va_D_all hD1)) H1 locs1 ls hP1 hS1 hl
/-! making -/
theorem x_newI (hC : Cx mc (gx g X) cc own nL ret) {fr lo K N : Nat} (hR : mR mc = rmJ fr lo K N) (m0 : Nat) {z : Int} (hz : z = (m0 : Int)) (hm : m0 < 1000) (hroom : k + 1 ≤ K ∧ n + m0 ≤ N) (hd : decode cc pc = .ok (.newarray .int, 2))
    (kk : ∀ q Y, Nu X q (ri g (fun _ => 0) m0) Y → Cx mc (gx g Y) cc own nL ret → J mc (gx g Y) (k + 1) (n + m0) Q (pc + 2) lv (.ref q :: st) σ) : J mc (gx g X) k n Q pc lv (vI z :: st) σ := by
  subst hz
  intro H locs ls hP hS hl
  have hK := hX_K hC
  have hcl : (iI (m0 : Int)).toNatClampNeg = m0 := by rw [iI_clamp (by omega) (by omega)]; omega
  have nm : ¬ (iI (m0 : Int)) < 0 := by
    rw [← iI_0, iI_lt (by omega) (by omega) (by omega) (by omega)]
    omega
  refine va_newa (atype := .int) (N' := m0) (a0 := (m0, .inl (fun _ : Nat => iI 0))) hC.1 hC.2.1 (hC.2.2.2.2.1 _ wd36) rfl hK hP (hX_D hC σ) hS (hX_A hC) (fun cA => rfl) nm hcl (by show m0 * 4 ≤ _; omega) (by rw [hR]; exact hroom.1) (by rw [hR]; exact hroom.2) hd (fun q cA H1 hK1 hP1 hD1 hS1 => ?_)
  have e1 : (mS mc).vm.findClass ("[" ++ FieldType.int.toString) = some (gI g) := (hK.2 0 _ rfl).2
  have e2 : (mS mc).vm.findClass ("[" ++ FieldType.int.toString) = some cA := (hK1.2 (gT g).length (cA, .int) (by rw [List.getElem?_append_right (Nat.le_refl _), Nat.sub_self]; rfl)).2
  have e3 : cA = gI g := Option.some.inj (e2.symm.trans e1)
  subst e3
  have hn := Nu_app hD1
  rw [hw_app] at hP1 hD1
  exact kk q _ hn (Cx_x hC (va_D_all hD1)) H1 locs ls hP1 hS1 hl
theorem x_newR (hC : Cx mc (gx g X) cc own nL ret) {fr lo K N index : Nat} (hR : mR mc = rmJ fr lo K N) (m0 : Nat) {z : Int} {c : ClassId} {t : FieldType} (t0 : Nat) (ht : (gT g)[t0]? = some (c, .array t)) (hao : va_AOA t (mS mc)) (hz : z = (m0 : Int)) (hm : m0 < 1000) (hroom : k + 1 ≤ K ∧ n + m0 ≤ N) (hlink : Cond.classLink own index (FieldType.array t).toString ∈ wsA) (hd : decode cc pc = .ok (.anewarray index, 3))
    (kk : ∀ q Y, Nu X q (rq c m0 (fun _ => none)) Y → Cx mc (gx g Y) cc own nL ret → J mc (gx g Y) (k + 1) (n + m0) Q (pc + 3) lv (.ref q :: st) σ) : J mc (gx g X) k n Q pc lv (vI z :: st) σ := by
  subst hz
  intro H locs ls hP hS hl
  have hK := hX_K hC
  have hcl : (iI (m0 : Int)).toNatClampNeg = m0 := by rw [iI_clamp (by omega) (by omega)]; omega
  have nm : ¬ (iI (m0 : Int)) < 0 := by
    rw [← iI_0, iI_lt (by omega) (by omega) (by omega) (by omega)]
    omega
  refine W.anewA hC.1 hC.2.1 hC.2.2.2.1 (hC.2.2.2.2.1 _ hlink) (va_AOA.use hao) rfl hd rfl nm (by rw [hcl]; omega) (by rw [hR]; exact hroom.1) (by rw [hR, hcl]; exact hroom.2) fun cA kA comp f1 f2 f3 f4 => ?_
  have e3 : cA = c := Option.some.inj (f1.symm.trans (x_fc (fun C h => by cases h) (hK.2 t0 _ ht).2))
  subst e3
  rw [hcl]
  generalize hH1 : H.push ({ cls := cA, slots := Array.replicate m0 .null, vm := .none } : Cell) = H1
  have z1 : H1.size = H.size + 1 := by rw [← hH1, Array.size_push]
  have e1 : H1[H.size]? = some (arrV cA m0 (fun _ => .null)) := by rw [← hH1, Array.getElem?_push_size, ← arrV_new]
  have o1 : ∀ q : Nat, q < H.size → H1[q]? = H[q]? := fun q hq => by rw [← hH1, Array.getElem?_push, if_neg (Nat.ne_of_lt hq)]
  have hkp : ∀ (k : Nat) (x : Nat × va_E), (hw (gx g X) σ)[k]? = some x → H1[x.1]? = H[x.1]? := fun k x hx => o1 x.1 ((hP k x hx).lt)
  have hP1 : va_P (gD g) vwCl (hw (gx g X) σ ++ [(H.size, rq cA m0 (fun _ => none))]) H1 := (hP.kept hkp).app (fun k x hx => by
    have h0 : k < 1 := (List.getElem?_eq_some_iff.mp hx).1
    rw [show k = 0 by omega] at hx
    cases hx
    exact e1)
  have hD1 : va_D (gA g) (hw (gx g X) σ ++ [(H.size, rq cA m0 (fun _ => none))]) := (hX_D hC σ).push hP rfl (hX_A hC _ hS.1)
  have hn := Nu_app hD1
  rw [hw_app] at hP1 hD1
  exact kk H.size _ hn (Cx_x hC (va_D_all hD1)) H1 locs ls hP1 ⟨Nat.le_trans hS.1 (by omega), fun x h1 h2 => (o1 x (Nat.lt_of_lt_of_le h1 hS.1)).trans (hS.2.1 x h1 h2), hS.2.2⟩ hl
/-- a new T[N][M]: the outer array q, its rows r i -/
def Nm (X : va_W) (q : Nat) (r : Nat → Nat) (N : Nat) (e f : va_E) (Y : va_W) : Prop := (q, e) ∈ Y ∧ (∀ i, i < N → (r i, f) ∈ Y) ∧ Sb X Y ∧ Fr X q ∧ (∀ i, i < N → Fr X (r i)) ∧ (∀ i j, i < N → j < N → r i = r j → i = j) ∧ ∀ i, i < N → r i ≠ q
theorem x_mna (hC : Cx mc (gx g X) cc own nL ret) {fr lo K N index : Nat} (hR : mR mc = rmJ fr lo K N) (m1 m2 : Nat) {z1 z2 : Int} {c cy : ClassId} {t : FieldType} {row : vp_A} (t0 t1 : Nat) (ht : (gT g)[t0]? = some (c, .array t)) (ht1 : (gT g)[t1]? = some (cy, t)) (hao : va_AOA t (mS mc)) (hno : ∀ C, t ≠ .object C) (hz1 : z1 = (m1 : Int)) (hz2 : z2 = (m2 : Int)) (hm : m1 < 1000 ∧ m2 < 1000) (hb : m2 * componentBytes t ≤ 536870912) (hdf : fits t (defaultValue t) = true) (hdd : (defaultValue t).isDefault = true) (hrow : ∀ c : ClassId, Jvm.Free.Multi.innerC c m2 (defaultValue t) = vp_cell c row) (hroom : k + 1 + m1 ≤ K ∧ n + m1 + m1 * m2 ≤ N) (harr : Cond.arrayClass t ∈ wsA) (hlink : Cond.classLink own index ("[" ++ (FieldType.array t).toString) ∈ wsA) (hd : decode cc pc = .ok (.multianewarray index 2, 4))
    (kk : ∀ q r Y, Nm X q r m1 (rq c m1 (fun i => if i < m1 then some (r i) else none)) (.inl (cy, row)) Y → Cx mc (gx g Y) cc own nL ret → J mc (gx g Y) (k + 1 + m1) (n + m1 + m1 * m2) Q (pc + 4) lv (.ref q :: st) σ) : J mc (gx g X) k n Q pc lv (vI z2 :: vI z1 :: st) σ := by
  subst hz1 hz2
  intro H locs ls hP hS hl
  have hK := hX_K hC
  have cl : ∀ w : Nat, w < 1000 → (iI (w : Int)).toNatClampNeg = w := fun w hw => by rw [iI_clamp (by omega) (by omega)]; omega
  have nm : ∀ w : Nat, w < 1000 → ¬ (iI (w : Int)) < 0 := fun w hw => by
    rw [← iI_0, iI_lt (by omega) (by omega) (by omega) (by omega)]
    omega
  have hcy : (mS mc).vm.findClass (FieldType.array t).toString = some cy := x_fc hno (hK.2 t1 _ ht1).2
  have hP0 : va_P (gD g) vwCl (hw (gx g X) σ ++ va_pl [] (fun _ => rq c 0 (fun _ => none))) H := by rw [show va_pl [] (fun _ => rq c 0 (fun _ => none)) = [] from rfl, List.append_nil]; exact hP
  have hD0 : va_D (gA g) (hw (gx g X) σ ++ va_pl [] (fun _ => rq c 0 (fun _ => none))) := by rw [show va_pl [] (fun _ => rq c 0 (fun _ => none)) = [] from rfl, List.append_nil]; exact hX_D hC σ
  refine va_mna (ty := t) (cy := cy) (z := row) (N' := m1) (K' := m2) hC.1 hC.2.1 hC.2.2.2.1 (hC.2.2.2.2.1 _ hlink) hao (hC.2.2.2.2.1 _ harr) hcy hK hP0 hD0 hS (hX_A (g := gx g X) hC) (nm m1 hm.1) (nm m2 hm.2) (cl m1 hm.1) (cl m2 hm.2) (by omega) hb (by omega) hdf hdd (by rw [hR]; have := hroom.1; show k + (1 + m1) ≤ K; omega) (by rw [hR]; have := hroom.2; show n + (m1 + m1 * m2) ≤ N; omega) hrow hd (fun q r cA H1 hinj _ hK1 hP1 hD1 hS1 => ?_)
  have e3 : cA = c := Option.some.inj ((x_fc (fun C h => by cases h) (hK1.2 (gT g).length (cA, .array t) (by rw [List.getElem?_append_right (Nat.le_refl _), Nat.sub_self]; rfl)).2).symm.trans (x_fc (fun C h => by cases h) (hK.2 t0 _ ht).2))
  subst e3
  rw [List.append_assoc] at hP1 hD1
  generalize hw2 : ([(q, .inl (cA, m1, .inr (.inr (.inr (.inr (fun i => if i < m1 then some (r i) else none))))))] : va_W) ++ va_pl ([] ++ (List.range m1).map r) (vr_up (fun _ => rq cA 0 (fun _ => none)) ((List.range m1).map r) (.inl (cy, row))) = w2 at hP1 hD1
  have mq : (q, rq cA m1 (fun i => if i < m1 then some (r i) else none)) ∈ w2 := by rw [← hw2]; exact List.mem_append_left _ List.mem_cons_self
  have mr : ∀ i, i < m1 → (r i, (.inl (cy, row) : va_E)) ∈ w2 := fun i hi => by
    rw [← hw2]
    refine List.mem_append_right _ ?_
    have h1 : r i ∈ (List.range m1).map r := List.mem_map.mpr ⟨i, List.mem_range.mpr hi, rfl⟩
    refine List.mem_map.mpr ⟨r i, by rw [List.nil_append]; exact h1, ?_⟩
    rw [vr_up_in h1]
  have far : ∀ p ∈ X, ∀ w ∈ w2, p.1 ≠ w.1 := fun p hp w hw9 z => by
    obtain ⟨i, hi⟩ := x_mem (g := gx g X) (σ := σ) hp
    obtain ⟨j, hj⟩ := List.getElem?_of_mem hw9
    have hl := (List.getElem?_eq_some_iff.mp hi).1
    have h1 : (hw (gx g X) σ ++ w2)[i]? = some p := by rw [List.getElem?_append_left hl]; exact hi
    have h2 : (hw (gx g X) σ ++ w2)[(hw (gx g X) σ).length + j]? = some w := by rw [List.getElem?_append_right (Nat.le_add_right _ _), Nat.add_sub_cancel_left]; exact hj
    have := hD1.1 _ _ _ _ h1 h2 z
    omega
  have hnq : ∀ i, i < m1 → r i ≠ q := fun i hi z => by
    have h0 : w2[0]? = some (q, rq cA m1 (fun i => if i < m1 then some (r i) else none)) := by rw [← hw2]; rfl
    have h1 : w2[1 + i]? = some (r i, (.inl (cy, row) : va_E)) := by
      rw [← hw2, List.getElem?_append_right (by show 1 ≤ 1 + i; omega)]
      show (va_pl _ _)[1 + i - 1]? = _
      rw [Nat.add_sub_cancel_left, List.nil_append]
      unfold va_pl
      rw [List.getElem?_map, List.getElem?_map, List.getElem?_range hi]
      show some (r i, vr_up _ _ _ (r i)) = _
      rw [vr_up_in (List.mem_map.mpr ⟨i, List.mem_range.mpr hi, rfl⟩)]
    have q1 : (hw (gx g X) σ ++ w2)[(hw (gx g X) σ).length + 0]? = some (q, rq cA m1 (fun i => if i < m1 then some (r i) else none)) := by rw [List.getElem?_append_right (Nat.le_add_right _ _), Nat.add_sub_cancel_left]; exact h0
    have q2 : (hw (gx g X) σ ++ w2)[(hw (gx g X) σ).length + (1 + i)]? = some (r i, (.inl (cy, row) : va_E)) := by rw [List.getElem?_append_right (Nat.le_add_right _ _), Nat.add_sub_cancel_left]; exact h1
    have := hD1.1 _ _ _ _ q2 q1 z
    omega
  rw [hw_app] at hP1 hD1
  exact kk q r _ ⟨List.mem_append_right _ mq, fun i hi => List.mem_append_right _ (mr i hi), fun p hp => List.mem_append_left _ hp, fun p hp => far p hp _ mq, fun i hi p hp => far p hp _ (mr i hi), hinj, hnq⟩ (Cx_x hC (va_D_all hD1)) H1 locs ls hP1 hS1 hl
theorem frX4 : ∀ j, j < 2 → defaultValue (tyX4 j) = vp_V [.null, .null] j := by
  intro j hj
  rcases (show j = 0 ∨ j = 1 by omega) with rfl | rfl <;> rfl
theorem x_newS (hC : Cx mc (gx g X) cc own nL ret) {fr lo K N index : Nat} (hR : mR mc = rmJ fr lo K N) (hcl : Cond.classLink own index RX4 ∈ wsA) (hinst : Cond.instantiable RX4 2 ∈ wsA) (hini : Cond.initialized RX4 ∈ wsA) (hroom : k + 1 ≤ K ∧ n + 2 ≤ N) (hd : decode cc pc = .ok (.new index, 3))
    (kk : ∀ q Y, Nu X q (.inr (3, [.null, .null])) Y → Cx mc (gx g Y) cc own nL ret → J mc (gx g Y) (k + 1) (n + 2) Q (pc + 3) lv (.ref q :: st) σ) : J mc (gx g X) k n Q pc lv st σ := by
  intro H locs ls hP hS hl
  refine va_new (own := own) hC.1 hC.2.1 hC.2.2.2.2.1 inX4 tyX4 tyX4_ok hC.2.2.2.1 (hC.2.2.2.2.1 _ hcl) (hC.2.2.2.2.1 _ hinst) (hC.2.2.2.2.1 _ hini) (hX_K hC) hP (hX_D hC σ) hS (hX_A hC) (ci := 3) rfl frX4 (by rw [hR]; exact hroom.1) (by rw [hR]; exact hroom.2) hd (fun q H1 hP1 hD1 hS1 => ?_)
  have hn := Nu_app hD1
  rw [hw_app] at hP1 hD1
  exact kk q _ hn (Cx_x hC (va_D_all hD1)) H1 locs ls hP1 hS1 hl
/-- a cell's content, told otherwise -/
theorem x_re (hC : Cx mc (gx g X) cc own nL ret) {a : Nat} {c : ClassId} {y y2 : vp_A} (he : (a, .inl (c, y)) ∈ X) (hy : vp_cell c y = vp_cell c y2) (kk : ∀ Y, Wr X a (.inl (c, y2)) Y → Cx mc (gx g Y) cc own nL ret → J mc (gx g Y) k n Q pc lv st σ) : J mc (gx g X) k n Q pc lv st σ := by
  obtain ⟨i, hi, hi2⟩ := x_at (g := gx g X) (σ := σ) he
  intro H locs ls hP hS hl
  have h1 : va_at (gD g) vwCl (a, .inl (c, y2)) H := (hP _ _ hi : H[a]? = some (vp_cell c y)).trans (congrArg some hy)
  have hP1 := va_P.set (e := .inl (c, y2)) hP (hX_D hC σ) hi h1 (fun _ _ => rfl)
  have hD1 := (hX_D hC σ).set (e := .inl (c, y2)) hi
  rw [hw_set] at hP1 hD1
  exact kk _ (Wr_set hi2) (Cx_x hC (va_D_all hD1)) H locs ls hP1 hS hl
theorem cell_ext_i (c : ClassId) (N : Nat) (f h : Nat → Int32) (e : ∀ j, j < N → f j = h j) : vp_cell c (N, .inl f) = vp_cell c (N, .inl h) := by
  rw [vp_cell_i, vp_cell_i]
  unfold arrV
  congr 1
  congr 1
  funext j
  exact congrArg Value.int (e j.1 j.2)
theorem cell_ext_q (c : ClassId) (N : Nat) (f h : Nat → Option Nat) (e : ∀ j, j < N → f j = h j) : vp_cell c (N, .inr (.inr (.inr (.inr f)))) = vp_cell c (N, .inr (.inr (.inr (.inr h)))) := by
  rw [vp_cell_q, vp_cell_q]
  unfold arrV
  congr 1
  congr 1
  funext j
  exact congrArg va_rf (e j.1 j.2)
/-! null -/
theorem x_null (hC : Cx mc g cc own nL ret) (hd : decode cc pc = .ok (.aconst_null, 1)) (kk : J mc g k n Q (pc + 1) lv (.null :: st) σ) : J mc g k n Q pc lv st σ := fun H locs ls hP hS hl => lv_null hC.1 hC.2.1 hd (kk H locs ls hP hS hl)
theorem x_ifnonnull (hC : Cx mc g cc own nL ret) {a : Nat} {off : Int} {tgt : Nat} (hd : decode cc pc = .ok (.ifnonnull off, 3)) (ht : (pc : Int) + off = (tgt : Int)) (kk : J mc g k n Q tgt lv st σ) : J mc g k n Q pc lv (.ref a :: st) σ := fun H locs ls hP hS hl => lv_ifnonnull hC.1 hC.2.1 hd ht (kk H locs ls hP hS hl)
theorem x_ifnonnullN (hC : Cx mc g cc own nL ret) {off : Int} (hd : decode cc pc = .ok (.ifnonnull off, 3)) (kk : J mc g k n Q (pc + 3) lv st σ) : J mc g k n Q pc lv (.null :: st) σ := fun H locs ls hP hS hl => lv_ifnonnullN hC.1 hC.2.1 hd (kk H locs ls hP hS hl)
theorem x_ifnull (hC : Cx mc g cc own nL ret) {a : Nat} {off : Int} (hd : decode cc pc = .ok (.ifnull off, 3)) (kk : J mc g k n Q (pc + 3) lv st σ) : J mc g k n Q pc lv (.ref a :: st) σ := fun H locs ls hP hS hl => lv_ifnull hC.1 hC.2.1 hd (kk H locs ls hP hS hl)
theorem x_ifnullN (hC : Cx mc g cc own nL ret) {off : Int} {tgt : Nat} (hd : decode cc pc = .ok (.ifnull off, 3)) (ht : (pc : Int) + off = (tgt : Int)) (kk : J mc g k n Q tgt lv st σ) : J mc g k n Q pc lv (.null :: st) σ := fun H locs ls hP hS hl => lv_ifnullN hC.1 hC.2.1 hd ht (kk H locs ls hP hS hl)
end XJ
