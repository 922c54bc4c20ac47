/-! methods that change the law's own cells -/
def QG (g : GG) (post : Option Value → Sg → va_W → Prop) : Array Value → State → Outcome → State → Prop := fun _ st o t => (∃ v τ Y, o = .returned v ∧ post v τ Y ∧ va_P (gD g) vwCl (hw (gx g Y) τ) t.heap ∧ ∀ τ2, va_D (gA g) (hw (gx g Y) τ2)) ∧ va_F (gA g) st t
def CG (l : Launch) (y : MethodName) (cc : ByteArray) (nL : Nat) (ret : Option FieldType) (fr lo k n : Nat) (g : GG) (X : va_W) (as : List Value) (σ : Sg) (post : Option Value → Sg → va_W → Prop) : Prop :=
  Met l y (.code y cc nL ret :: wsA) (rmJ fr lo k n) (va_Pc as (WB (gx g X) σ)) (QG g post) k n (gA g)
def QNG (mc : MC) (g : GG) (post : Option Value → Sg → va_W → Prop) (k n : Nat) : State → Prop := MQ (mB mc) (QG g post) (mA mc) (mS mc) k n (gA g)
section XK
variable {mc : MC} {g : GG} {X : va_W} {k n : Nat} {Q : State → Prop} {pc : Nat} {lv : List (Nat × Value)} {st : List Value} {σ : Sg} {cc : ByteArray} {own : String} {nL : Nat} {ret : Option FieldType}
theorem CG_of {l : Launch} {y : MethodName} {fr lo : Nat} {as : List Value} {post : Option Value → Sg → va_W → Prop} (hl : l.stackTraces = false) (hy : plainName y.cls = true) (hy2 : y.cls = own) (hn : (lg_sl as).length ≤ nL)
    (body : ∀ mc : MC, Cx mc (gx g X) cc own nL ret → mL mc = l → mR mc = rmJ fr lo k n → J mc (gx g X) 0 0 (QNG mc g post k n) 0 (lv_args 0 as) [] σ) : CG l y cc nL ret fr lo k n g X as σ post := by
  subst hy2
  refine Met.ofW (cc := cc) (maxL := nL) (ret := ret) hy rfl ?_
  intro p e s m args below meth c s₁ B hml hv
  obtain ⟨rfl, h0, hP, hK, hN, hT, hD⟩ := hv
  have hts := atoms_spec (ws := .code y cc nL ret :: wsA) B.pre
  have hC : Cx (p, l, e, rmJ fr lo k n, s, m, as.toArray, below, meth, c) (gx g X) cc y.cls nL ret := ⟨B.exec, B.bytes, hml, findClass_of_methodNamed B.named, fun w h => hts w (List.mem_cons_of_mem _ h), B.notSynchronized, hK, hN, hT, hD, h0, hl, B.returns⟩
  have hb := body _ hC rfl rfl
  have he := lv_entry as hn
  rw [lg_entry_eq]
  exact hb s.heap [] _ hP va_S.rf (by show lv_has _ c.maxLocals _; rw [hml]; exact he)
/-- .. a constructor -/
theorem CGI_of {l : Launch} {y : MethodName} {fr lo : Nat} {as : List Value} {post : Option Value → Sg → va_W → Prop} (hl : l.stackTraces = false) (hy : plainName y.cls = true) (hy2 : y.cls = own) (hn : (lg_sl as).length ≤ nL)
    (body : ∀ mc : MC, Cx mc (gx g X) cc own nL ret → (mH mc).name = y.name → mL mc = l → mR mc = rmJ fr lo k n → J mc (gx g X) 0 0 (QNG mc g post k n) 0 (lv_args 0 as) [] σ) : CG l y cc nL ret fr lo k n g X as σ post := by
  subst hy2
  refine Met.ofW (cc := cc) (maxL := nL) (ret := ret) hy rfl ?_
  intro p e s m args below meth c s₁ B hml hv
  obtain ⟨rfl, h0, hP, hK, hN, hT, hD⟩ := hv
  have hts := atoms_spec (ws := .code y cc nL ret :: wsA) B.pre
  have hC : Cx (p, l, e, rmJ fr lo k n, s, m, as.toArray, below, meth, c) (gx g X) cc y.cls nL ret := ⟨B.exec, B.bytes, hml, findClass_of_methodNamed B.named, fun w h => hts w (List.mem_cons_of_mem _ h), B.notSynchronized, hK, hN, hT, hD, h0, hl, B.returns⟩
  have hb := body _ hC (name_of_methodNamed B.named B.method).1 rfl rfl
  have he := lv_entry as hn
  rw [lg_entry_eq]
  exact hb s.heap [] _ hP va_S.rf (by show lv_has _ c.maxLocals _; rw [hml]; exact he)
theorem QG_end (hC : Cx mc (gx g X) cc own nL ret) {post : Option Value → Sg → va_W → Prop} {H : Heap} {locs : List Loc} {v : Option Value} (hp : post v σ X) (hP : va_P (gD g) vwCl (hw (gx g X) σ) H) (hS : va_S (gA g) (mS mc).heap H locs) {t : State} (ht : t.heap = H) : QG g post (mA mc) (mS mc) (.returned v) t :=
  ⟨⟨v, σ, X, rfl, hp, by rw [ht]; exact hP, fun τ => hX_D hC τ⟩, hS.F ht⟩
theorem g_zret (hC : Cx mc (gx g X) cc own nL (some .boolean)) {post : Option Value → Sg → va_W → Prop} {x : Int} (hx : x = 0 ∨ x = 1) (hd : decode cc pc = .ok (.ireturn, 1)) (hp : post (some (vI x)) σ X) : J mc (gx g X) k n (QNG mc g post k n) pc lv [vI x] σ :=
  fun _ _ _ hP hS _ => W.zret (ty := .boolean) hC.1 hC.2.1 hC.2.2.2.2.2.2.2.2.2.2.2.2 (by rcases hx with rfl | rfl <;> rfl) (fun _ ht _ => QG_end hC hp hP hS ht) hS.2.2 hd hC.2.2.2.2.2.1
theorem g_vret (hC : Cx mc (gx g X) cc own nL none) {post : Option Value → Sg → va_W → Prop} (hd : decode cc pc = .ok (.return_, 1)) (hp : post none σ X) : J mc (gx g X) k n (QNG mc g post k n) pc lv [] σ :=
  fun _ _ _ hP hS _ => W.vret hC.1 hC.2.1 hC.2.2.2.2.2.2.2.2.2.2.2.2 (fun _ ht _ => QG_end hC hp hP hS ht) hS.2.2 hd hC.2.2.2.2.2.1
theorem g_aret {rt : FieldType} (hC : Cx mc (gx g X) cc own nL (some rt)) (hrt : (∃ n, rt = .object n) ∨ ∃ t, rt = .array t) {post : Option Value → Sg → va_W → Prop} {v : Value} (hv : v = .null ∨ ∃ a, v = .ref a) (hd : decode cc pc = .ok (.areturn, 1)) (hp : post (some v) σ X) : J mc (gx g X) k n (QNG mc g post k n) pc lv [v] σ :=
  fun _ _ _ hP hS _ => W.aret hC.1 hC.2.1 hC.2.2.2.2.2.2.2.2.2.2.2.2 hrt hv (fun _ ht _ => QG_end hC hp hP hS ht) hS.2.2 hd hC.2.2.2.2.2.1
theorem j_runG (hC : Cx mc (gx g X) cc own nL ret) {st0 rest : List Value} {a : Array Value} {post : Option Value → Sg → va_W → Prop} {k2 n2 : Nat}
    (hr : ∀ (H : Heap) (locs : List Loc) (ls : Array Slot), va_P (gD g) vwCl (hw (gx g X) σ) H → va_S (gA g) (mS mc).heap H locs → lv_has ls (mC mc).maxLocals lv → va_Run (mP mc) (mL mc) (mE mc) (mR mc) (mS mc) (mM mc) (mA mc) (mB mc) (mH mc) (mC mc) H locs k n k2 n2 (F0 (mM mc) pc ls st0) rest (QG g post a) (gA g))
    (kk : ∀ v τ Y, post v τ Y → Cx mc (gx g Y) cc own nL ret → J mc (gx g Y) (k + k2) (n + n2) Q (pc + 3) lv (v.toList ++ rest) τ) : J mc (gx g X) k n Q pc lv st0 σ := by
  intro H locs ls hP hS hl T hT Z
  obtain ⟨v, st₀, t, T', L, h0, X', hL, e1, e2, ⟨⟨v', τ, Y, hv, hp, hB, hD⟩, hF⟩, stp⟩ := hr H locs ls hP hS hl T hT Z
  cases hv
  have hB1 : va_P (gD g) vwCl (hw (gx g Y) τ) T'.heap := by rw [e1]; exact hB
  have hS1 := (vx_keep h0 e1 hS (fun q _ h => h) (fun q h => h) hL hF).2.2
  obtain ⟨t2, a1, b1⟩ := kk v τ Y hp (Cx_x hC hD) T'.heap (locs ++ L) ls hB1 hS1 hl T' rfl X'
  exact ⟨t2, stp t2 a1, b1⟩
theorem g_callV (hC : Cx mc (gx g X) cc own nL ret) {fr lo K N : Nat} (hR : mR mc = rmJ fr lo K N) {y : MethodName} {b2 : ByteArray} {nL2 fr2 lo2 k2 n2 ar index b ci : Nat} {r2 : Option FieldType} {As st0 : List Value} {post : Option Value → Sg → va_W → Prop} {fs : List Value} {cx : vw_C}
    (hM : CG (mL mc) y b2 nL2 r2 fr2 lo2 k2 n2 g X (.ref b :: As) σ post) (rest : List Value) (hst : st0 = As.reverse ++ .ref b :: rest) (he : (b, (.inr (ci, fs) : va_E)) ∈ X) (hcl : vwCl[ci]? = some cx) (hy : y.cls = cx.1) (hmh : okC y.cls) (hpar : (parseMethodDescriptor y.desc).map (fun d => d.parameters.length) = some ar) (har : As.length = ar)
    (hlink : Cond.methodLink own index y ∈ wsA) (hinst : Cond.instanceMethod y ∈ wsA) (hsel : Cond.selects y.cls y y ∈ wsA) (hini : Cond.initialized y.cls ∈ wsA) (hcode : Cond.code y b2 nL2 r2 ∈ wsA) (hroom : (fr2 + 1 ≤ fr ∧ 8 + (nL2 + 11) + lo2 ≤ lo) ∧ k + k2 ≤ K ∧ n + n2 ≤ N) (hsum : (rest.map fun v => v.category).sum ≤ 8) (hd : decode cc pc = .ok (.invokevirtual index, 3))
    (kk : ∀ v τ Y, post v τ Y → Cx mc (gx g Y) cc own nL ret → J mc (gx g Y) (k + k2) (n + n2) Q (pc + 3) lv (v.toList ++ rest) τ) : J mc (gx g X) k n Q pc lv st0 σ := by
  subst hst
  obtain ⟨i, hi⟩ := x_mem (g := gx g X) (σ := σ) he
  refine j_runG hC (fun H locs ls hP hS hl => va_runV (C := y.cls) (fixJ hC) hM ⟨cbJ hC hR hmh hpar hlink hini hcode hroom.1, hC.2.2.2.2.1 _ hinst, hC.2.2.2.2.1 _ hsel⟩ ⟨WB_blind _, ?_, fun U hU hW => ⟨rfl, WB_mk hC hP hS hU hW⟩⟩ rfl har (szJ hC hl) rfl (lv_room hsum) hd (by rw [hR]; exact hroom.2)) kk
  have h := va_recv (hX_K hC) hP hcl hi
  rw [hy]
  exact h
theorem g_callS (hC : Cx mc (gx g X) cc own nL ret) {fr lo K N : Nat} (hR : mR mc = rmJ fr lo K N) {y : MethodName} {b2 : ByteArray} {nL2 fr2 lo2 k2 n2 ar index : Nat} {r2 : Option FieldType} {As st0 : List Value} {post : Option Value → Sg → va_W → Prop}
    (hM : CG (mL mc) y b2 nL2 r2 fr2 lo2 k2 n2 g X As σ post) (rest : List Value) (hst : st0 = As.reverse ++ rest) (hmh : okC y.cls) (hpar : (parseMethodDescriptor y.desc).map (fun d => d.parameters.length) = some ar) (har : As.length = ar)
    (hlink : Cond.methodLink own index y ∈ wsA) (hstat : Cond.static y ∈ wsA) (hini : Cond.initialized y.cls ∈ wsA) (hcode : Cond.code y b2 nL2 r2 ∈ wsA) (hroom : (fr2 + 1 ≤ fr ∧ 8 + (nL2 + 11) + lo2 ≤ lo) ∧ k + k2 ≤ K ∧ n + n2 ≤ N) (hsum : (rest.map fun v => v.category).sum ≤ 8) (hd : decode cc pc = .ok (.invokestatic index, 3))
    (kk : ∀ v τ Y, post v τ Y → Cx mc (gx g Y) cc own nL ret → J mc (gx g Y) (k + k2) (n + n2) Q (pc + 3) lv (v.toList ++ rest) τ) : J mc (gx g X) k n Q pc lv st0 σ := by
  subst hst
  exact j_runG hC (fun H locs ls hP hS hl => va_runS (fixJ hC) hM ⟨cbJ hC hR hmh hpar hlink hini hcode hroom.1, hC.2.2.2.2.1 _ hstat⟩ ⟨WB_blind _, fun U hU hW => ⟨rfl, WB_mk hC hP hS hU hW⟩⟩ rfl har (szJ hC hl) rfl (lv_room hsum) hd (by rw [hR]; exact hroom.2)) kk
theorem g_callI (hC : Cx mc (gx g X) cc own nL ret) {fr lo K N : Nat} (hR : mR mc = rmJ fr lo K N) {y : MethodName} {b2 : ByteArray} {nL2 fr2 lo2 k2 n2 ar index b : Nat} {As st0 : List Value} {post : Option Value → Sg → va_W → Prop}
    (hM : CG (mL mc) y b2 nL2 none fr2 lo2 k2 n2 g X (.ref b :: As) σ post) (rest : List Value) (hst : st0 = As.reverse ++ .ref b :: rest) (hmh : okC y.cls) (hpar : (parseMethodDescriptor y.desc).map (fun d => d.parameters.length) = some ar) (har : As.length = ar) (hnm : y.name = "<init>")
    (hlink : Cond.methodLink own index y ∈ wsA) (hinst : Cond.instanceMethod y ∈ wsA) (hini : Cond.initialized y.cls ∈ wsA) (hcode : Cond.code y b2 nL2 none ∈ wsA) (hroom : (fr2 + 1 ≤ fr ∧ 8 + (nL2 + 11) + lo2 ≤ lo) ∧ k + k2 ≤ K ∧ n + n2 ≤ N) (hsum : (rest.map fun v => v.category).sum ≤ 8) (hd : decode cc pc = .ok (.invokespecial index, 3))
    (kk : ∀ v τ Y, post v τ Y → Cx mc (gx g Y) cc own nL ret → J mc (gx g Y) (k + k2) (n + n2) Q (pc + 3) lv (v.toList ++ rest) τ) : J mc (gx g X) k n Q pc lv st0 σ := by
  subst hst
  exact j_runG hC (fun H locs ls hP hS hl => va_runI (ws := .code y b2 nL2 none :: wsA) (rm := rmJ fr2 lo2 k2 n2) (n := ar) (index := index) (own := own) (fixJ hC) hM ⟨cbJ hC hR hmh hpar hlink hini hcode hroom.1, hnm, hC.2.2.2.2.1 _ hinst⟩ ⟨WB_blind _, fun U hU hW => ⟨rfl, WB_mk hC hP hS hU hW⟩⟩ rfl har (szJ hC hl) rfl (lv_room hsum) hd (by rw [hR]; exact hroom.2)) kk
/-- Object's constructor -/
theorem x_obj (hC : Cx mc g cc own nL ret) {fr lo K N : Nat} (hR : mR mc = rmJ fr lo K N) {idx a : Nat} (hlink : Cond.methodLink own idx objectInit ∈ wsA) (hroom : 1 ≤ fr ∧ (st.map fun v => v.category).sum + 12 ≤ lo) (hd : decode cc pc = .ok (.invokespecial idx, 3)) (kk : J mc g k n Q (pc + 3) lv st σ) : J mc g k n Q pc lv (.ref a :: st) σ := by
  intro H locs ls hP hS hl
  refine W.objInit hC.1 hC.2.1 hC.2.2.2.1 (hC.2.2.2.2.1 _ hlink) (hC.2.2.2.2.1 _ wd20) (hC.2.2.2.2.1 (Cond.code objectInit ⟨#[0xb1]⟩ 1 none) wd21) rfl hl.1 rfl hd (by rw [hR]; exact hroom.1) (by rw [hR]; show 2 * 0 + _ + 12 ≤ lo; omega) ?_
  refine W.eq (g2 := F0 (mM mc) (pc + 3) ls st) rfl ?_
  exact kk H locs ls hP hS hl
/-- told calls over a receiver of the law's own -/
theorem x_callV1 (hC : Cx mc g cc own nL ret) {fr lo K N : Nat} (hR : mR mc = rmJ fr lo K N) {y : MethodName} {b2 : ByteArray} {nL2 fr2 lo2 k2 n2 ar index b ci : Nat} {r2 : Option FieldType} {As st0 : List Value} {v : Value} {τ : Sg} {fs : List Value} {cx : vw_C}
    (hM : CN (mL mc) y b2 nL2 r2 fr2 lo2 k2 n2 g (.ref b :: As) σ (pt (some v) τ)) (rest : List Value) (hst : st0 = As.reverse ++ .ref b :: rest) (he : (b, (.inr (ci, fs) : va_E)) ∈ gX g) (hcl : vwCl[ci]? = some cx) (hy : y.cls = cx.1) (hmh : okC y.cls) (hpar : (parseMethodDescriptor y.desc).map (fun d => d.parameters.length) = some ar) (har : As.length = ar)
    (hlink : Cond.methodLink own index y ∈ wsA) (hinst : Cond.instanceMethod y ∈ wsA) (hsel : Cond.selects y.cls y y ∈ wsA) (hini : Cond.initialized y.cls ∈ wsA) (hcode : Cond.code y b2 nL2 r2 ∈ wsA) (hroom : (fr2 + 1 ≤ fr ∧ 8 + (nL2 + 11) + lo2 ≤ lo) ∧ k + k2 ≤ K ∧ n + n2 ≤ N) (hsum : (rest.map fun v => v.category).sum ≤ 8) (hd : decode cc pc = .ok (.invokevirtual index, 3))
    (kk : J mc g (k + k2) (n + n2) Q (pc + 3) lv (v :: rest) τ) : J mc g k n Q pc lv st0 σ := by
  obtain ⟨i, hi⟩ := x_mem (σ := σ) he
  exact j_callV1 hC hR hM rest hst i hi hcl hy hmh hpar har hlink hinst hsel hini hcode hroom hsum hd kk
end XK
