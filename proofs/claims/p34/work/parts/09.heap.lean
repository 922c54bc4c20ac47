theorem hw_bk (g : GG) (σ : Sg) {b : Nat} (hb : b < 5) : (hw g σ)[4 + b]? = some (gd g (4 + b), .inr (0, [.ref (gd g 1), .ref (gd g (9 + b)), .ref (gd g (14 + b)), vI (σ.1 (2 + b))])) := by
  rcases (show b = 0 ∨ b = 1 ∨ b = 2 ∨ b = 3 ∨ b = 4 by omega) with rfl | rfl | rfl | rfl | rfl <;> rfl
theorem hw_lk (g : GG) (σ : Sg) {b : Nat} (hb : b < 5) : (hw g σ)[9 + b]? = some (gd g (9 + b), ri g (σ.2 (1 + b)) 16) := by
  rcases (show b = 0 ∨ b = 1 ∨ b = 2 ∨ b = 3 ∨ b = 4 by omega) with rfl | rfl | rfl | rfl | rfl <;> rfl
theorem hw_mn (g : GG) (σ : Sg) {b : Nat} (hb : b < 5) : (hw g σ)[14 + b]? = some (gd g (14 + b), ri g (σ.2 (6 + b)) 16) := by
  rcases (show b = 0 ∨ b = 1 ∨ b = 2 ∨ b = 3 ∨ b = 4 by omega) with rfl | rfl | rfl | rfl | rfl <;> rfl
/-- the number v becomes x -/
def sF (σ : Sg) (v : Nat) (x : Int) : Sg := (fun j => if j = v then x else σ.1 j, σ.2)
/-- the place i of the row a becomes x -/
def sG (σ : Sg) (a : Nat) (i x : Int) : Sg := (σ.1, fun b => if b = a then (fun j => if j = i then x else σ.2 a j) else σ.2 b)
theorem hs_cnt (g : GG) (σ : Sg) {b : Nat} (hb : b < 5) (x : Int) : (hw g σ).set (4 + b) (gd g (4 + b), .inr (0, ([.ref (gd g 1), .ref (gd g (9 + b)), .ref (gd g (14 + b)), vI (σ.1 (2 + b))] : List Value).set 3 (vI x))) = hw g (sF σ (2 + b) x) := by
  rcases (show b = 0 ∨ b = 1 ∨ b = 2 ∨ b = 3 ∨ b = 4 by omega) with rfl | rfl | rfl | rfl | rfl <;> rfl
theorem hs_lk (g : GG) (σ : Sg) {b : Nat} (hb : b < 5) (i x : Int) : (hw g σ).set (9 + b) (gd g (9 + b), ri g (fun j => if j = i then x else σ.2 (1 + b) j) 16) = hw g (sG σ (1 + b) i x) := by
  rcases (show b = 0 ∨ b = 1 ∨ b = 2 ∨ b = 3 ∨ b = 4 by omega) with rfl | rfl | rfl | rfl | rfl <;> rfl
theorem hs_mn (g : GG) (σ : Sg) {b : Nat} (hb : b < 5) (i x : Int) : (hw g σ).set (14 + b) (gd g (14 + b), ri g (fun j => if j = i then x else σ.2 (6 + b) j) 16) = hw g (sG σ (6 + b) i x) := by
  rcases (show b = 0 ∨ b = 1 ∨ b = 2 ∨ b = 3 ∨ b = 4 by omega) with rfl | rfl | rfl | rfl | rfl <;> rfl
theorem nw_warm {s U : State} (hW : s.WarmedH U.vm) (h : ∀ w ∈ nwA, va_Nw w s) : ∀ w ∈ nwA, va_Nw w U := by
  intro w hw
  have h1 := h w hw
  have h2 := (List.mem_filter.mp hw).2
  cases w <;> first | exact va_Nw.warmF hW h1 | exact va_Nw.warmM hW h1 | exact va_Nw.warmC hW h1 | exact va_Nw.warmD hW h1 | exact absurd h2 (by decide) | (simp [isNest] at h2)
theorem aoa_bare (vm : Vm) (comp : ClassId) : (vm.bare.classes.findIdx? fun (x : Class) => match x.kind with | .array component _ => component == comp | _ => false) = (vm.classes.findIdx? fun (x : Class) => match x.kind with | .array component _ => component == comp | _ => false) := by
  simp only [Vm.bare, Array.findIdx?_map]
  rfl
theorem va_AOA.moved {t : FieldType} {u U : State} (hvm : u.vm.Alike U.vm) (h : va_AOA t u) : va_AOA t U := by
  obtain ⟨comp, c, k, h1, h2, h3, h4, h5⟩ := arrayOverA_spec h
  obtain ⟨k', hk', he⟩ := hvm.2.2 _ _ h3
  have hi : (U.vm.classes.findIdx? fun (x : Class) => match x.kind with | .array component _ => component == comp | _ => false) = some c := by
    rw [← aoa_bare]
    first | rw [hvm.bare_eq] | rw [← hvm.bare_eq]
    rw [aoa_bare]
    exact h2
  have hkind : k'.kind = .array comp (.array t) := by rw [he]; exact h4
  have f1 : U.vm.findClass (FieldType.array t).toString = some comp := by rw [hvm.findClass]; exact h1
  have f2 : U.vm.findClass ("[" ++ (FieldType.array t).toString) = some c := by rw [hvm.findClass]; exact h5
  unfold va_AOA Cond.before Cond.holds
  simp only [Cond.value]
  rw [f1, Option.bind_some]
  refine (congrArg (fun o : Option Nat => (o.bind (fun c => (U.vm.classes[c]?).map fun (k : Class) => match k.kind with | .array _ ty => decide (ty = FieldType.array t) && decide (U.vm.findClass ("[" ++ (FieldType.array t).toString) = some c) | _ => false) == some true)) hi).trans ?_
  simp [hk', hkind, f2]
theorem TH_to {g : GG} {s U : State} {H H1 : Heap} (hW : s.WarmedH U.vm) (hq : ∀ a : Nat, a < H.size → ¬ gA g a → H1[a]? = H[a]?) (h : TH g s H) : TH g U H1 :=
  ⟨va_AO.moved hW.alike h.1, va_AOA.moved hW.alike h.2.1, va_AOA.moved hW.alike h.2.2.1, va_AOA.moved hW.alike h.2.2.2.1, h.2.2.2.2.1, va_X.moved hW.alike (h.2.2.2.2.2.kept (hq _ (by
    obtain ⟨scr, h1, -⟩ := h.2.2.2.2.2
    exact (Array.getElem?_eq_some_iff.mp h1).1) (Nat.not_le.mpr h.2.2.2.2.1)))⟩
section JH
variable {mc : MC} {g : GG} {k n : Nat} {Q : State → Prop} {pc : Nat} {lv : List (Nat × Value)} {st : List Value} {σ : Sg} {cc : ByteArray} {own : String} {nL : Nat} {ret : Option FieldType}
theorem WB_mk (hC : Cx mc g cc own nL ret) {H : Heap} {locs : List Loc} {τ : Sg} (hP : va_P (gD g) vwCl (hw g τ) H) (hS : va_S (gA g) (mS mc).heap H locs) {U : State} (hU : U.heap = H) (hW : (mS mc).WarmedH U.vm) : WB g τ U := by
  obtain ⟨-, -, -, -, -, -, hK, hN, hT, hD, h0, -, -⟩ := hC
  subst hU
  exact ⟨Nat.le_trans h0 hS.1, hP, va_K.moved hW.alike hK, nw_warm hW hN, TH_to hW hS.2.1 hT, hD⟩
theorem WB_calling {U : State} {jf : JFrame} {mk : MethodId} {a : Array Value} (h : WB g σ U) : WB g σ (U.calling jf mk a) := by
  obtain ⟨h0, hP, hK, hN, hT, hD⟩ := h
  have hW : U.WarmedH (U.calling jf mk a).vm := State.WarmedH.refl U
  exact ⟨h0, hP, va_K.moved hW.alike hK, nw_warm hW hN, TH_to hW (fun _ _ _ => rfl) hT, hD⟩
theorem WB_blind (as : List Value) : FrameBlind (va_Pc as (WB g σ)) := fun _ _ _ _ h => ⟨h.1, WB_calling h.2⟩
theorem QJ_end {post : Option Value → Sg → Prop} {H : Heap} {locs : List Loc} {v : Option Value} (hp : post v σ) (hP : va_P (gD g) vwCl (hw g σ) H) (hS : va_S (gA g) (mS mc).heap H locs) {t : State} (ht : t.heap = H) : QJ g post (mA mc) (mS mc) (.returned v) t :=
  ⟨⟨v, σ, rfl, hp, by rw [ht]; exact hP⟩, hS.F ht⟩
theorem CN_of {l : Launch} {y : MethodName} {fr lo : Nat} {as : List Value} {post : Option Value → Sg → Prop} (hl : l.stackTraces = false) (hy : plainName y.cls = true) (hy2 : y.cls = own) (hn : (lg_sl as).length ≤ nL)
    (body : ∀ mc : MC, Cx mc g cc own nL ret → mL mc = l → mR mc = rmJ fr lo k n → J mc g 0 0 (QN mc g post k n) 0 (lv_args 0 as) [] σ) : CN l y cc nL ret fr lo k n g as σ post := by
  subst hy2
  refine Met.ofW (cc := cc) (maxL := nL) (ret := ret) hy rfl ?_
  intro p e s m args below meth c s₁ B hml hv
  obtain ⟨rfl, h0, hP, hK, hN, hT, hD⟩ := hv
  have hts := atoms_spec (ws := .code y cc nL ret :: wsA) B.pre
  have hC : Cx (p, l, e, rmJ fr lo k n, s, m, as.toArray, below, meth, c) g cc y.cls nL ret := ⟨B.exec, B.bytes, hml, findClass_of_methodNamed B.named, fun w h => hts w (List.mem_cons_of_mem _ h), B.notSynchronized, hK, hN, hT, hD, h0, hl, B.returns⟩
  have hb := body _ hC rfl rfl
  have he := lv_entry as hn
  rw [lg_entry_eq]
  exact hb s.heap [] _ hP va_S.rf (by show lv_has _ c.maxLocals _; rw [hml]; exact he)
theorem CX_of {l : Launch} {y : MethodName} {fr lo : Nat} {as : List Value} {post : Option Value → Sg → Prop} {px : String → Sg → Prop} (hl : l.stackTraces = false) (hy : plainName y.cls = true) (hy2 : y.cls = own) (hn : (lg_sl as).length ≤ nL)
    (body : ∀ mc : MC, Cx mc g cc own nL ret → mL mc = l → mR mc = rmJ fr lo k n → (∀ x ∈ (mC mc).exceptionTable.toList, False) → J mc g 0 0 (QX mc g post px k n) 0 (lv_args 0 as) [] σ) : CX l y cc nL ret fr lo k n g as σ post px := by
  subst hy2
  refine vx_ofW (cc := cc) (maxL := nL) (ret := ret) hy rfl ?_
  intro p e s m args below meth c s₁ B hml hE hv
  obtain ⟨rfl, h0, hP, hK, hN, hT, hD⟩ := hv
  have hts := atoms_spec (ws := .code y cc nL ret :: wsA) B.pre
  have hC : Cx (p, l, e, rmJ fr lo k n, s, m, as.toArray, below, meth, c) g cc y.cls nL ret := ⟨B.exec, B.bytes, hml, findClass_of_methodNamed B.named, fun w h => hts w (List.mem_cons_of_mem _ h), B.notSynchronized, hK, hN, hT, hD, h0, hl, B.returns⟩
  have hb := body _ hC rfl rfl hE
  have he := lv_entry as hn
  rw [lg_entry_eq]
  exact hb s.heap [] _ hP va_S.rf (by show lv_has _ c.maxLocals _; rw [hml]; exact he)
/-! returns -/
theorem j_toX {post : Option Value → Sg → Prop} {px : String → Sg → Prop} (kk : J mc g k n (QN mc g post k n) pc lv st σ) : J mc g k n (QX mc g post px k n) pc lv st σ := fun H locs ls hP hS hl => vx_ret (kk H locs ls hP hS hl)
theorem j_iret (hC : Cx mc g cc own nL (some .int)) {post : Option Value → Sg → Prop} {x : Int32} (hd : decode cc pc = .ok (.ireturn, 1)) (hp : post (some (.int x)) σ) : J mc g k n (QN mc g post k n) pc lv [.int x] σ :=
  fun _ _ _ hP hS _ => W.iret hC.1 hC.2.1 hC.2.2.2.2.2.2.2.2.2.2.2.2 (fun _ ht _ => QJ_end hp hP hS ht) hS.2.2 hd hC.2.2.2.2.2.1
theorem j_zret (hC : Cx mc g cc own nL (some .boolean)) {post : Option Value → Sg → Prop} {x : Int} (hx : x = 0 ∨ x = 1) (hd : decode cc pc = .ok (.ireturn, 1)) (hp : post (some (vI x)) σ) : J mc g k n (QN mc g post k n) pc lv [vI x] σ :=
  fun _ _ _ hP hS _ => W.zret (ty := .boolean) hC.1 hC.2.1 hC.2.2.2.2.2.2.2.2.2.2.2.2 (by rcases hx with rfl | rfl <;> rfl) (fun _ ht _ => QJ_end hp hP hS ht) hS.2.2 hd hC.2.2.2.2.2.1
theorem j_lret (hC : Cx mc g cc own nL (some .long)) {post : Option Value → Sg → Prop} {x : Int64} (hd : decode cc pc = .ok (.lreturn, 1)) (hp : post (some (.long x)) σ) : J mc g k n (QN mc g post k n) pc lv [.long x] σ :=
  fun _ _ _ hP hS _ => W.lret hC.1 hC.2.1 hC.2.2.2.2.2.2.2.2.2.2.2.2 (fun _ ht _ => QJ_end hp hP hS ht) hS.2.2 hd hC.2.2.2.2.2.1
theorem j_dret (hC : Cx mc g cc own nL (some .double)) {post : Option Value → Sg → Prop} {x : UInt64} (hd : decode cc pc = .ok (.dreturn, 1)) (hp : post (some (.double x)) σ) : J mc g k n (QN mc g post k n) pc lv [.double x] σ :=
  fun _ _ _ hP hS _ => W.dret hC.1 hC.2.1 hC.2.2.2.2.2.2.2.2.2.2.2.2 (fun _ ht _ => QJ_end hp hP hS ht) hS.2.2 hd hC.2.2.2.2.2.1
theorem j_vret (hC : Cx mc g cc own nL none) {post : Option Value → Sg → Prop} (hd : decode cc pc = .ok (.return_, 1)) (hp : post none σ) : J mc g k n (QN mc g post k n) pc lv [] σ :=
  fun _ _ _ hP hS _ => W.vret hC.1 hC.2.1 hC.2.2.2.2.2.2.2.2.2.2.2.2 (fun _ ht _ => QJ_end hp hP hS ht) hS.2.2 hd hC.2.2.2.2.2.1
theorem j_aret {C : String} (hC : Cx mc g cc own nL (some (.object C))) {post : Option Value → Sg → Prop} {a : Nat} (hd : decode cc pc = .ok (.areturn, 1)) (hp : post (some (.ref a)) σ) : J mc g k n (QN mc g post k n) pc lv [.ref a] σ :=
  fun _ _ _ hP hS _ => W.aret hC.1 hC.2.1 hC.2.2.2.2.2.2.2.2.2.2.2.2 (Or.inl ⟨_, rfl⟩) (Or.inr ⟨_, rfl⟩) (fun _ ht _ => QJ_end hp hP hS ht) hS.2.2 hd hC.2.2.2.2.2.1
/-! fields and rows -/
theorem j_get (hC : Cx mc g cc own nL ret) {C : String} {T : u_T} {N ci index a : Nat} {fs : List Value} {v : Value} (hin : ∀ w ∈ u_ws C T N, w ∈ wsA) (hc : vwCl[ci]? = some (C, T, N)) (q0 : Nat) (he : (hw g σ)[q0]? = some (a, .inr (ci, fs))) (f : Nat) (hf : f < N) (hlink : Cond.fieldLink own index (T f).1 (T f).2.1 (T f).2.2.1 ∈ wsA) (hv : fs[f]? = some v) (hd : decode cc pc = .ok (.getfield index, 3)) (kk : J mc g k n Q (pc + 3) lv (v :: st) σ) : J mc g k n Q pc lv (.ref a :: st) σ :=
  fun H locs ls hP hS hl => va_get (own := own) hC.1 hC.2.1 hC.2.2.2.2.1 hin hC.2.2.2.1 hC.2.2.2.2.2.2.1 hP q0 he hc f hf (hC.2.2.2.2.1 _ hlink) (fun _ h => h) hv hd (kk H locs ls hP hS hl)
theorem j_getN (hC : Cx mc g cc own nL ret) {C host : String} {T : u_T} {N ci index a : Nat} {fs : List Value} {v : Value} (hin : ∀ w ∈ u_ws C T N, w ∈ wsA) (hc : vwCl[ci]? = some (C, T, N)) (q0 : Nat) (he : (hw g σ)[q0]? = some (a, .inr (ci, fs))) (f : Nat) (hf : f < N) (hlink : Cond.fieldLinkNest own index (T f).1 (T f).2.1 (T f).2.2.1 host ∈ nwA) (hv : fs[f]? = some v) (hd : decode cc pc = .ok (.getfield index, 3)) (kk : J mc g k n Q (pc + 3) lv (v :: st) σ) : J mc g k n Q pc lv (.ref a :: st) σ :=
  fun H locs ls hP hS hl => va_getN (own := own) hC.1 hC.2.1 hC.2.2.2.2.1 hin hC.2.2.2.1 hC.2.2.2.2.2.2.1 hP q0 he hc f hf (va_Nw.use rfl (hC.2.2.2.2.2.2.2.1 _ hlink)) (fun _ h => h) hv hd (kk H locs ls hP hS hl)
theorem j_put (hC : Cx mc g cc own nL ret) {C : String} {T : u_T} {N ci index a : Nat} {fs : List Value} {x : Int} {τ : Sg} (hin : ∀ w ∈ u_ws C T N, w ∈ wsA) {ty0 : Nat → FieldType} (hty : ∀ k, k < N → parseFieldDescriptor (T k).2.2.1 = some (ty0 k)) (hnm : ∀ a, a < N → ∀ b, b < N → a ≠ b → (T a).2.1 ≠ (T b).2.1) (hc : vwCl[ci]? = some (C, T, N)) (q0 : Nat) (he : (hw g σ)[q0]? = some (a, .inr (ci, fs))) (f : Nat) (hf : f < N) (hlink : Cond.fieldLink own index (T f).1 (T f).2.1 (T f).2.2.1 ∈ wsA) (hfin : (T f).2.2.2 = false) (hde : parseFieldDescriptor (T f).2.2.1 = some .int) (hlen : f < fs.length) (hs : (hw g σ).set q0 (a, .inr (ci, fs.set f (vI x))) = hw g τ) (hd : decode cc pc = .ok (.putfield index, 3)) (kk : J mc g k n Q (pc + 3) lv st τ) : J mc g k n Q pc lv (vI x :: .ref a :: st) σ :=
  fun _ _ ls hP hS hl => va_put (own := own) hC.1 hC.2.1 hC.2.2.2.2.1 hin ty0 hty hnm hC.2.2.2.1 hC.2.2.2.2.2.2.1 hP (hC.2.2.2.2.2.2.2.2.2.1 σ) hS q0 he hc f hf (hC.2.2.2.2.1 _ hlink) (fun _ h => h) hfin hde (vp_nar_int _) rfl hlen hd (fun H1 locs1 hP1 _ hS1 => kk H1 locs1 ls (hs ▸ hP1) hS1 hl)
theorem j_iald (hC : Cx mc g cc own nL ret) {a m0 : Nat} {f : Int → Int} {z : Int} (q0 : Nat) (he : (hw g σ)[q0]? = some (a, ri g f m0)) (hz : 0 ≤ z ∧ z < m0 ∧ m0 ≤ 2147483647) (hd : decode cc pc = .ok (.iaload, 1)) (kk : J mc g k n Q (pc + 1) lv (vI (f z) :: st) σ) : J mc g k n Q pc lv (vI z :: .ref a :: st) σ := by
  intro H locs ls hP hS hl
  refine va_iald hC.1 hC.2.1 hC.2.2.2.2.2.2.1 hP q0 0 he rfl (iI_in hz.1 hz.2.1 hz.2.2) hd ?_
  have e : ((iI z).toNatClampNeg : Int) = z := by rw [iI_clamp (by omega) (by omega), Int.toNat_of_nonneg hz.1]
  show W _ _ _ _ _ _ _ _ _ _ _ _ _ _ _ (F0 _ _ _ (.int (iI (f ((iI z).toNatClampNeg : Int))) :: st))
  rw [e]
  exact kk H locs ls hP hS hl
theorem j_iast (hC : Cx mc g cc own nL ret) {a m0 : Nat} {f : Int → Int} {z x : Int} {τ : Sg} (q0 : Nat) (he : (hw g σ)[q0]? = some (a, ri g f m0)) (hs : (hw g σ).set q0 (a, ri g (fun j => if j = z then x else f j) m0) = hw g τ) (hz : 0 ≤ z ∧ z < m0 ∧ m0 ≤ 2147483647) (hd : decode cc pc = .ok (.iastore, 1)) (kk : J mc g k n Q (pc + 1) lv st τ) : J mc g k n Q pc lv (vI x :: vI z :: .ref a :: st) σ := by
  intro H locs ls hP hS hl
  refine va_iast hC.1 hC.2.1 hC.2.2.2.2.2.2.1 hP (hC.2.2.2.2.2.2.2.2.2.1 σ) hS q0 0 he rfl (iI_in hz.1 hz.2.1 hz.2.2) hd (fun H1 locs1 hP1 _ hS1 => ?_)
  rw [iI_up hz.1 (by omega)] at hP1
  exact kk H1 locs1 ls (hs ▸ hP1) hS1 hl
theorem j_aald (hC : Cx mc g cc own nL ret) {z : Int} (hz : 0 ≤ z ∧ z < 4) (hd : decode cc pc = .ok (.aaload, 1)) (kk : J mc g k n Q (pc + 1) lv (.ref (gd g (4 + z.toNat)) :: st) σ) : J mc g k n Q pc lv (vI z :: .ref (gd g 3) :: st) σ := by
  intro H locs ls hP hS hl
  refine va_aldq hC.1 hC.2.1 hC.2.2.2.2.2.2.1 hP 3 2 rfl rfl (iI_in hz.1 hz.2 (by decide)) hd ?_
  have := kk H locs ls hP hS hl
  rw [iI_clamp (by omega) (by omega)]
  exact this
/-! calls -/
theorem j_run (hC : Cx mc g cc own nL ret) {st0 rest : List Value} {a : Array Value} {post : Option Value → Sg → Prop} {k2 n2 : Nat}
    (hr : ∀ (H : Heap) (locs : List Loc) (ls : Array Slot), va_P (gD g) vwCl (hw g σ) H → va_S (gA g) (mS mc).heap H locs → lv_has ls (mC mc).maxLocals lv → va_Run (mP mc) (mL mc) (mE mc) (mR mc) (mS mc) (mM mc) (mA mc) (mB mc) (mH mc) (mC mc) H locs k n k2 n2 (F0 (mM mc) pc ls st0) rest (QJ g post a) (gA g))
    (kk : ∀ v τ, post v τ → J mc g (k + k2) (n + n2) Q (pc + 3) lv (v.toList ++ rest) τ) : J mc g k n Q pc lv st0 σ := by
  intro H locs ls hP hS hl T hT X
  obtain ⟨v, st₀, t, T', L, h0, X', hL, e1, e2, ⟨⟨v', τ, hv, hp, hB⟩, hF⟩, stp⟩ := hr H locs ls hP hS hl T hT X
  cases hv
  have hB1 : va_P (gD g) vwCl (hw g τ) T'.heap := by rw [e1]; exact hB
  have hS1 := (vx_keep h0 e1 hS (fun q _ h => h) (fun q h => h) hL hF).2.2
  obtain ⟨t2, a1, b1⟩ := kk v τ hp T'.heap (locs ++ L) ls hB1 hS1 hl T' rfl X'
  exact ⟨t2, stp t2 a1, b1⟩
theorem j_runX (hC : Cx mc g cc own nL ret) {st0 rest : List Value} {a : Array Value} {post : Option Value → Sg → Prop} {px : String → Sg → Prop} {k2 n2 : Nat}
    (hr : ∀ (H : Heap) (locs : List Loc) (ls : Array Slot), va_P (gD g) vwCl (hw g σ) H → va_S (gA g) (mS mc).heap H locs → lv_has ls (mC mc).maxLocals lv → vx_Run (mP mc) (mL mc) (mE mc) (mR mc) (mS mc) (mM mc) (mA mc) (mB mc) (mH mc) (mC mc) H locs k n k2 n2 (F0 (mM mc) pc ls st0) rest (QJ g post a) (XJ g px) (gA g))
    (kx : ∀ (E : String) (ce : Cell) (q : Addr) (τ : Sg) (H1 : Heap) (locs1 : List Loc) (ls : Array Slot), px E τ → va_P (gD g) vwCl (hw g τ) H1 → va_S (gA g) (mS mc).heap H1 locs1 → lv_has ls (mC mc).maxLocals lv → H1[q]? = some ce → ce.vm = .none → (mS mc).vm.findClass E = some ce.cls → vx_W (mP mc) (mL mc) (mE mc) (mR mc) (mS mc) (mM mc) (mA mc) (mB mc) (mH mc) (mC mc) H1 locs1 (k + k2) (n + n2) Q (F0 (mM mc) pc ls rest) q)
    (kk : ∀ v τ, post v τ → J mc g (k + k2) (n + n2) Q (pc + 3) lv (v.toList ++ rest) τ) : J mc g k n Q pc lv st0 σ := by
  intro H locs ls hP hS hl T hT X
  rcases hr H locs ls hP hS hl T hT X with ⟨v, st₀, t, T', L, h0, X', hL, e1, e2, ⟨⟨v', τ, hv, hp, hB⟩, hF⟩, stp⟩ | ⟨q, st₀, t, T', L, E, ce, h0, X', hL, e1, e2, ⟨⟨τ, hp, hB⟩, hF⟩, hce, hcv, hcl, stp⟩
  · cases hv
    have hB1 : va_P (gD g) vwCl (hw g τ) T'.heap := by rw [e1]; exact hB
    have hS1 := (vx_keep h0 e1 hS (fun q _ h => h) (fun q h => h) hL hF).2.2
    obtain ⟨t2, a1, b1⟩ := kk v τ hp T'.heap (locs ++ L) ls hB1 hS1 hl T' rfl X'
    exact ⟨t2, stp t2 a1, b1⟩
  · have hB1 : va_P (gD g) vwCl (hw g τ) T'.heap := by rw [e1]; exact hB
    have hS1 := (vx_keep h0 e1 hS (fun q _ h => h) (fun q h => h) hL hF).2.2
    obtain ⟨t2, a1, b1⟩ := kx E ce q τ T'.heap (locs ++ L) ls hp hB1 hS1 hl (by rw [e1]; exact hce) hcv hcl T' rfl X'
    exact ⟨t2, stp.trans a1, b1⟩
abbrev okC (C : String) : Prop := C ≠ "java/lang/invoke/MethodHandle" ∧ C ≠ "java/lang/invoke/VarHandle"
theorem cbJ (hC : Cx mc g cc own nL ret) {fr lo K N : Nat} (hR : mR mc = rmJ fr lo K N) {y : MethodName} {b2 : ByteArray} {nL2 fr2 lo2 k2 n2 ar index : Nat} {r2 : Option FieldType} (hmh : okC y.cls) (hpar : (parseMethodDescriptor y.desc).map (fun d => d.parameters.length) = some ar) (hlink : Cond.methodLink own index y ∈ wsA) (hini : Cond.initialized y.cls ∈ wsA) (hcode : Cond.code y b2 nL2 r2 ∈ wsA) (hroom : fr2 + 1 ≤ fr ∧ 8 + (nL2 + 11) + lo2 ≤ lo) :
    CallB (mR mc) (mS mc) (mA mc) own index y b2 nL2 r2 (.code y b2 nL2 r2 :: wsA) (rmJ fr2 lo2 k2 n2) k2 n2 ar :=
  callB_of ar hC.2.2.2.2.1 (goodA (fun w h => (List.mem_cons.mp h).elim (fun e => e ▸ hcode) id)) rfl rfl rfl (hC.2.2.2.2.1 _ hini) (hC.2.2.2.2.1 _ hlink) ⟨hmh.1, hmh.2, hpar⟩ (by rw [hR]; exact hroom)
theorem cnJ (hC : Cx mc g cc own nL ret) {fr lo K N : Nat} (hR : mR mc = rmJ fr lo K N) {y : MethodName} {host : String} {b2 : ByteArray} {nL2 fr2 lo2 k2 n2 ar index : Nat} {r2 : Option FieldType} (hmh : okC y.cls) (hpar : (parseMethodDescriptor y.desc).map (fun d => d.parameters.length) = some ar) (hlink : Cond.methodLinkNest own index y host ∈ nwA) (hini : Cond.initialized y.cls ∈ wsA) (hcode : Cond.code y b2 nL2 r2 ∈ wsA) (hroom : fr2 + 1 ≤ fr ∧ 8 + (nL2 + 11) + lo2 ≤ lo) :
    va_CN (mR mc) (mS mc) (mA mc) own index y host b2 nL2 r2 (.code y b2 nL2 r2 :: wsA) (rmJ fr2 lo2 k2 n2) k2 n2 ar :=
  va_cnB ar hC.2.2.2.2.1 (goodA (fun w h => (List.mem_cons.mp h).elim (fun e => e ▸ hcode) id)) rfl rfl rfl (hC.2.2.2.2.2.2.2.1 _ hlink) (hC.2.2.2.2.1 _ hini) ⟨hmh.1, hmh.2, hpar⟩ (by rw [hR]; exact hroom)
theorem fixJ (hC : Cx mc g cc own nL ret) : CallFix (mP mc) (mM mc) (mC mc) cc nL (mS mc) (mA mc) wsA own := ⟨hC.1, hC.2.1, hC.2.2.1, hC.2.2.2.1, hC.2.2.2.2.1⟩
theorem szJ (hC : Cx mc g cc own nL ret) {ls : Array Slot} (hl : lv_has ls (mC mc).maxLocals lv) : ls.size = nL := hl.1.trans hC.2.2.1
/-- a call of an instance method of the own class, or a public one -/
theorem j_callV (hC : Cx mc g cc own nL ret) {fr lo K N : Nat} (hR : mR mc = rmJ fr lo K N) {y : MethodName} {b2 : ByteArray} {nL2 fr2 lo2 k2 n2 ar index b ci : Nat} {r2 : Option FieldType} {As st0 : List Value} {post : Option Value → Sg → Prop} {fs : List Value} {cx : vw_C}
    (hM : CN (mL mc) y b2 nL2 r2 fr2 lo2 k2 n2 g (.ref b :: As) σ post) (rest : List Value) (hst : st0 = As.reverse ++ .ref b :: rest) (q0 : Nat) (he : (hw g σ)[q0]? = some (b, .inr (ci, fs))) (hcl : vwCl[ci]? = some cx) (hy : y.cls = cx.1) (hmh : okC y.cls) (hpar : (parseMethodDescriptor y.desc).map (fun d => d.parameters.length) = some ar) (har : As.length = ar)
    (hlink : Cond.methodLink own index y ∈ wsA) (hinst : Cond.instanceMethod y ∈ wsA) (hsel : Cond.selects y.cls y y ∈ wsA) (hini : Cond.initialized y.cls ∈ wsA) (hcode : Cond.code y b2 nL2 r2 ∈ wsA) (hroom : (fr2 + 1 ≤ fr ∧ 8 + (nL2 + 11) + lo2 ≤ lo) ∧ k + k2 ≤ K ∧ n + n2 ≤ N) (hsum : (rest.map fun v => v.category).sum ≤ 8) (hd : decode cc pc = .ok (.invokevirtual index, 3))
    (kk : ∀ v τ, post v τ → J mc g (k + k2) (n + n2) Q (pc + 3) lv (v.toList ++ rest) τ) : J mc g k n Q pc lv st0 σ := by
  subst hst
  refine j_run hC (fun H locs ls hP hS hl => va_runV (C := y.cls) (fixJ hC) hM ⟨cbJ hC hR hmh hpar hlink hini hcode hroom.1, hC.2.2.2.2.1 _ hinst, hC.2.2.2.2.1 _ hsel⟩ ⟨WB_blind _, ?_, fun U hU hW => ⟨rfl, WB_mk hC hP hS hU hW⟩⟩ rfl har (szJ hC hl) rfl (lv_room hsum) hd (by rw [hR]; exact hroom.2)) kk
  have h := va_recv hC.2.2.2.2.2.2.1 hP hcl he
  rw [hy]
  exact h
/-- .. of a nest mate's private one -/
theorem j_callVN (hC : Cx mc g cc own nL ret) {fr lo K N : Nat} (hR : mR mc = rmJ fr lo K N) {y : MethodName} {host : String} {b2 : ByteArray} {nL2 fr2 lo2 k2 n2 ar index b ci : Nat} {r2 : Option FieldType} {As st0 : List Value} {post : Option Value → Sg → Prop} {fs : List Value} {cx : vw_C}
    (hM : CN (mL mc) y b2 nL2 r2 fr2 lo2 k2 n2 g (.ref b :: As) σ post) (rest : List Value) (hst : st0 = As.reverse ++ .ref b :: rest) (q0 : Nat) (he : (hw g σ)[q0]? = some (b, .inr (ci, fs))) (hcl : vwCl[ci]? = some cx) (hy : y.cls = cx.1) (hmh : okC y.cls) (hpar : (parseMethodDescriptor y.desc).map (fun d => d.parameters.length) = some ar) (har : As.length = ar)
    (hlink : Cond.methodLinkNest own index y host ∈ nwA) (hinst : Cond.instanceMethod y ∈ wsA) (hsel : Cond.selects y.cls y y ∈ wsA) (hini : Cond.initialized y.cls ∈ wsA) (hcode : Cond.code y b2 nL2 r2 ∈ wsA) (hroom : (fr2 + 1 ≤ fr ∧ 8 + (nL2 + 11) + lo2 ≤ lo) ∧ k + k2 ≤ K ∧ n + n2 ≤ N) (hsum : (rest.map fun v => v.category).sum ≤ 8) (hd : decode cc pc = .ok (.invokevirtual index, 3))
    (kk : ∀ v τ, post v τ → J mc g (k + k2) (n + n2) Q (pc + 3) lv (v.toList ++ rest) τ) : J mc g k n Q pc lv st0 σ := by
  subst hst
  refine j_run hC (fun H locs ls hP hS hl => va_runVN (C := y.cls) (fixJ hC) hM ⟨cnJ hC hR hmh hpar hlink hini hcode hroom.1, hC.2.2.2.2.1 _ hinst, hC.2.2.2.2.1 _ hsel⟩ ⟨WB_blind _, ?_, fun U hU hW => ⟨rfl, WB_mk hC hP hS hU hW⟩⟩ rfl har (szJ hC hl) rfl (lv_room hsum) hd (by rw [hR]; exact hroom.2)) kk
  have h := va_recv hC.2.2.2.2.2.2.1 hP hcl he
  rw [hy]
  exact h
theorem j_callS (hC : Cx mc g cc own nL ret) {fr lo K N : Nat} (hR : mR mc = rmJ fr lo K N) {y : MethodName} {b2 : ByteArray} {nL2 fr2 lo2 k2 n2 ar index : Nat} {r2 : Option FieldType} {As st0 : List Value} {post : Option Value → Sg → Prop}
    (hM : CN (mL mc) y b2 nL2 r2 fr2 lo2 k2 n2 g As σ post) (rest : List Value) (hst : st0 = As.reverse ++ rest) (hmh : okC y.cls) (hpar : (parseMethodDescriptor y.desc).map (fun d => d.parameters.length) = some ar) (har : As.length = ar)
    (hlink : Cond.methodLink own index y ∈ wsA) (hstat : Cond.static y ∈ wsA) (hini : Cond.initialized y.cls ∈ wsA) (hcode : Cond.code y b2 nL2 r2 ∈ wsA) (hroom : (fr2 + 1 ≤ fr ∧ 8 + (nL2 + 11) + lo2 ≤ lo) ∧ k + k2 ≤ K ∧ n + n2 ≤ N) (hsum : (rest.map fun v => v.category).sum ≤ 8) (hd : decode cc pc = .ok (.invokestatic index, 3))
    (kk : ∀ v τ, post v τ → J mc g (k + k2) (n + n2) Q (pc + 3) lv (v.toList ++ rest) τ) : J mc g k n Q pc lv st0 σ := by
  subst hst
  exact j_run hC (fun H locs ls hP hS hl => va_runS (fixJ hC) hM ⟨cbJ hC hR hmh hpar hlink hini hcode hroom.1, hC.2.2.2.2.1 _ hstat⟩ ⟨WB_blind _, fun U hU hW => ⟨rfl, WB_mk hC hP hS hU hW⟩⟩ rfl har (szJ hC hl) rfl (lv_room hsum) hd (by rw [hR]; exact hroom.2)) kk
theorem j_callSN (hC : Cx mc g cc own nL ret) {fr lo K N : Nat} (hR : mR mc = rmJ fr lo K N) {y : MethodName} {host : String} {b2 : ByteArray} {nL2 fr2 lo2 k2 n2 ar index : Nat} {r2 : Option FieldType} {As st0 : List Value} {post : Option Value → Sg → Prop}
    (hM : CN (mL mc) y b2 nL2 r2 fr2 lo2 k2 n2 g As σ post) (rest : List Value) (hst : st0 = As.reverse ++ rest) (hmh : okC y.cls) (hpar : (parseMethodDescriptor y.desc).map (fun d => d.parameters.length) = some ar) (har : As.length = ar)
    (hlink : Cond.methodLinkNest own index y host ∈ nwA) (hstat : Cond.static y ∈ wsA) (hini : Cond.initialized y.cls ∈ wsA) (hcode : Cond.code y b2 nL2 r2 ∈ wsA) (hroom : (fr2 + 1 ≤ fr ∧ 8 + (nL2 + 11) + lo2 ≤ lo) ∧ k + k2 ≤ K ∧ n + n2 ≤ N) (hsum : (rest.map fun v => v.category).sum ≤ 8) (hd : decode cc pc = .ok (.invokestatic index, 3))
    (kk : ∀ v τ, post v τ → J mc g (k + k2) (n + n2) Q (pc + 3) lv (v.toList ++ rest) τ) : J mc g k n Q pc lv st0 σ := by
  subst hst
  exact j_run hC (fun H locs ls hP hS hl => va_runSN (fixJ hC) hM ⟨cnJ hC hR hmh hpar hlink hini hcode hroom.1, hC.2.2.2.2.1 _ hstat, trivial⟩ ⟨WB_blind _, fun U hU hW => ⟨rfl, WB_mk hC hP hS hU hW⟩⟩ rfl har (szJ hC hl) rfl (lv_room hsum) hd (by rw [hR]; exact hroom.2)) kk
/-! calls that may throw: what is thrown goes on to the caller -/
theorem x_out (hC : Cx mc g cc own nL ret) {post2 : Option Value → Sg → Prop} {px2 : String → Sg → Prop} {K N : Nat} (hE : ∀ x ∈ (mC mc).exceptionTable.toList, False) {E : String} {ce : Cell} {q : Addr} {τ : Sg} {H1 : Heap} {locs1 : List Loc} {ls : Array Slot} (hp : px2 E τ) (hP : va_P (gD g) vwCl (hw g τ) H1) (hS : va_S (gA g) (mS mc).heap H1 locs1) (hce : H1[q]? = some ce) (hcv : ce.vm = .none) (hcl : (mS mc).vm.findClass E = some ce.cls) (hk : k ≤ K ∧ n ≤ N) :
    vx_W (mP mc) (mL mc) (mE mc) (mR mc) (mS mc) (mM mc) (mA mc) (mB mc) (mH mc) (mC mc) H1 locs1 k n (QX mc g post2 px2 K N) (F0 (mM mc) pc ls st) q :=
  vx_out (fun x hx => (hE x hx).elim) hC.2.2.2.2.2.1 hce hcv hcl (fun t ht _ => ⟨⟨τ, hp, by rw [ht]; exact hP⟩, hS.F ht⟩) hS.2.2 hk.1 hk.2
end JH
