/-! the law's own: a wrapper that catches, a call of it, the script -/
abbrev CW (l : Launch) (y : MethodName) (cc : ByteArray) (nL : Nat) (hh : List (Nat × Nat × Nat × Nat)) (fr lo k n : Nat) (g : GG) (as : List Value) (σ : Sg) (post : Option Value → Sg → Prop) : Prop :=
  Met l y (.codeWith y cc nL (some .int) hh :: wsA) (rmJ fr lo k n) (va_Pc as (WB g σ)) (QJ g post) k n (gA g)
theorem CW_of {l : Launch} {y : MethodName} {cc : ByteArray} {own : String} {nL : Nat} {hh : List (Nat × Nat × Nat × Nat)} {fr lo k n : Nat} {g : GG} {as : List Value} {σ : Sg} {post : Option Value → Sg → Prop} (hl : l.stackTraces = false) (hy : plainName y.cls = true) (hy2 : y.cls = own) (hn : (lg_sl as).length ≤ nL)
    (body : ∀ mc : MC, Cx mc g cc own nL (some .int) → mL mc = l → mR mc = rmJ fr lo k n → (mC mc).exceptionTable.toList = tableOf hh → J mc g 0 0 (QN mc g post k n) 0 (lv_args 0 as) [] σ) : CW l y cc nL hh fr lo k n g as σ post := by
  subst hy2
  refine va_MetW (cc := cc) (maxL := nL) (ret := some .int) (hh := hh) hy rfl ?_
  intro p e s m args below meth c s₁ B hml hv
  obtain ⟨rfl, h0, hP, hK, hN, hT, hD⟩ := hv
  have hts := atoms_spec (ws := .codeWith y cc nL (some .int) hh :: wsA) B.pre
  have hC : Cx (p, l, e, rmJ fr lo k n, s, m, as.toArray, below, meth, c) g cc y.cls nL (some .int) := ⟨B.exec, B.bytes, hml, findClass_of_methodNamed B.named, fun w h => hts w (List.mem_cons_of_mem _ h), B.notSynchronized, hK, hN, hT, hD, h0, hl, B.returns⟩
  have ht := vx_table (x := y) B (hts _ List.mem_cons_self)
  have hb := body _ hC rfl rfl ht
  have he := lv_entry as hn
  rw [lg_entry_eq]
  exact hb s.heap [] _ hP va_S.rf (by show lv_has _ c.maxLocals _; rw [hml]; exact he)
section JL
variable {mc : MC} {g : GG} {k n : Nat} {Q : State → Prop} {pc : Nat} {lv : List (Nat × Value)} {st : List Value} {σ : Sg} {cc : ByteArray} {own : String} {nL : Nat} {ret : Option FieldType}
/-- what the callee throws is caught here -/
theorem j_callVC (hC : Cx mc g cc own nL ret) {fr lo K N : Nat} (hR : mR mc = rmJ fr lo K N) {hh : List (Nat × Nat × Nat × Nat)} (hT : (mC mc).exceptionTable.toList = tableOf hh) {y : MethodName} {b2 : ByteArray} {nL2 fr2 lo2 k2 n2 ar index b ci : Nat} {r2 : Option FieldType} {As st0 : List Value} {E : String} {fs : List Value} {cx : vw_C}
    (hM : CX (mL mc) y b2 nL2 r2 fr2 lo2 k2 n2 g (.ref b :: As) σ pF (pxE E σ)) (rest : List Value) (hst : st0 = As.reverse ++ .ref b :: rest) (q0 : Nat) (he : (hw g σ)[q0]? = some (b, .inr (ci, fs))) (hcl : vwCl[ci]? = some cx) (hy : y.cls = cx.1) (hmh : okC y.cls) (hpar : (parseMethodDescriptor y.desc).map (fun d => d.parameters.length) = some ar) (har : As.length = ar)
    (hlink : Cond.methodLink own index y ∈ wsA) (hinst : Cond.instanceMethod y ∈ wsA) (hsel : Cond.selects y.cls y y ∈ wsA) (hini : Cond.initialized y.cls ∈ wsA) (hcode : Cond.code y b2 nL2 r2 ∈ wsA) (hroom : (fr2 + 1 ≤ fr ∧ 8 + (nL2 + 11) + lo2 ≤ lo) ∧ k + k2 ≤ K ∧ n + n2 ≤ N) (hsum : (rest.map fun v => v.category).sum ≤ 8) (hd : decode cc pc = .ok (.invokevirtual index, 3))
    (pre : List ExceptionTableEntry) (x : ExceptionTableEntry) (suf : List ExceptionTableEntry) (hsplit : tableOf hh = pre ++ x :: suf) (hpass : ∀ z ∈ pre, z.catchType ≠ 0 ∧ ∃ nm : String, Cond.classLink own z.catchType nm ∈ wsA ∧ (E, nm) ∈ ncA) (hx : covers x pc = true) (h0 : x.catchType ≠ 0) (hcat : Cond.classLink own x.catchType E ∈ wsA) (hcast : Cond.castable E E ∈ nwA)
    (kk : ∀ q : Nat, J mc g (k + k2) (n + n2) Q x.handlerPc lv [.ref q] σ) : J mc g k n Q pc lv st0 σ := by
  subst hst
  refine j_runX hC (fun H locs ls hP hS hl => vx_runV (C := y.cls) (fixJ hC) hM ⟨cbJ hC hR hmh hpar hlink hini hcode hroom.1, hC.2.2.2.2.1 _ hinst, hC.2.2.2.2.1 _ hsel⟩ ⟨WB_blind _, ?_, fun U hU hW => ⟨rfl, WB_mk hC hP hS hU hW⟩⟩ rfl har (szJ hC hl) rfl (lv_room hsum) hd (by rw [hR]; exact hroom.2)) (fun E2 ce q τ H1 locs1 ls hp hP hS hl hce hcv hcl => ?_) (fun _ _ h => h.elim)
  · have h := va_recv hC.2.2.2.2.2.2.1 hP hcl he
    rw [hy]
    exact h
  · obtain ⟨rfl, rfl⟩ := hp
    exact vx_catch (own := own) hC.2.2.2.1 pre x suf (hT.trans hsplit) (fun z hz => by
      obtain ⟨z1, nm, z2, z3⟩ := hpass z hz
      exact Or.inr ⟨z1, nm, hC.2.2.2.2.1 _ z2, hC.2.2.2.2.2.2.2.2.1.2.2.2.1 _ z3⟩) hx h0 (hC.2.2.2.2.1 _ hcat) (va_Nw.use rfl (hC.2.2.2.2.2.2.2.1 _ hcast)) hce hcv hcl (kk q H1 locs1 ls hP hS hl)
theorem j_callSW1 (hC : Cx mc g cc own nL ret) {fr lo K N : Nat} (hR : mR mc = rmJ fr lo K N) {y : MethodName} {b2 : ByteArray} {nL2 fr2 lo2 k2 n2 ar index : Nat} {hh : List (Nat × Nat × Nat × Nat)} {As st0 : List Value} {v : Value} {τ : Sg}
    (hM : CW (mL mc) y b2 nL2 hh fr2 lo2 k2 n2 g As σ (pt (some v) τ)) (rest : List Value) (hst : st0 = As.reverse ++ rest) (hmh : okC y.cls) (hpar : (parseMethodDescriptor y.desc).map (fun d => d.parameters.length) = some ar) (har : As.length = ar)
    (hlink : Cond.methodLink own index y ∈ wsA) (hstat : Cond.static y ∈ wsA) (hini : Cond.initialized y.cls ∈ wsA) (hcode : Cond.codeWith y b2 nL2 (some .int) hh ∈ wsA) (hroom : (fr2 + 1 ≤ fr ∧ 8 + (nL2 + 11) + lo2 ≤ lo) ∧ k + k2 ≤ K ∧ n + n2 ≤ N) (hsum : (rest.map fun v => v.category).sum ≤ 8) (hd : decode cc pc = .ok (.invokestatic index, 3))
    (kk : J mc g (k + k2) (n + n2) Q (pc + 3) lv (v :: rest) τ) : J mc g k n Q pc lv st0 σ := by
  subst hst
  refine j_run hC (fun H locs ls hP hS hl => vx_runSW (fixJ hC) hM (vx_cwSW (Ts := wsA) ar hC.2.2.2.2.1 (goodA (fun w h => ?_)) rfl rfl rfl ⟨hmh.1, hmh.2, hpar⟩ (by rw [hR]; exact hroom.1)) ⟨WB_blind _, fun U hU hW => ⟨rfl, WB_mk hC hP hS hU hW⟩⟩ rfl har (szJ hC hl) rfl (lv_room hsum) hd (by rw [hR]; exact hroom.2)) (by rintro _ _ ⟨rfl, rfl⟩; exact kk)
  rcases List.mem_append.mp h with h | h
  · simp only [List.mem_cons, List.not_mem_nil, or_false] at h
    rcases h with rfl | rfl | rfl
    · exact hlink
    · exact hstat
    · exact hini
  · exact (List.mem_cons.mp h).elim (fun e => e ▸ hcode) id
/-- the script -/
theorem j_sld {b L : Nat} {xs : Nat → Int32} (hC : Cx mc g cc own nL ret) (hX : va_X b L xs (mS mc) (mS mc).heap) (hbl : b < (mS mc).heap.size) (hbA : ¬ gA g b) {z : Int} (hz : 0 ≤ z ∧ z < L ∧ L ≤ 2147483647) (hd : decode cc pc = .ok (.iaload, 1)) (kk : J mc g k n Q (pc + 1) lv (.int (xs z.toNat) :: st) σ) : J mc g k n Q pc lv (vI z :: .ref b :: st) σ := by
  intro H locs ls hP hS hl
  refine va_sld hC.1 hC.2.1 hX hbl hbA hS (iI_in hz.1 hz.2.1 hz.2.2) hd ?_
  rw [iI_clamp (by omega) (by omega)]
  exact kk H locs ls hP hS hl
theorem j_slen {b L : Nat} {xs : Nat → Int32} (hC : Cx mc g cc own nL ret) (hX : va_X b L xs (mS mc) (mS mc).heap) (hbl : b < (mS mc).heap.size) (hbA : ¬ gA g b) (hd : decode cc pc = .ok (.arraylength, 1)) (kk : J mc g k n Q (pc + 1) lv (vI (L : Int) :: st) σ) : J mc g k n Q pc lv (.ref b :: st) σ :=
  fun H locs ls hP hS hl => va_slen hC.1 hC.2.1 hX hbl hbA hS hd (by rw [← iI_nat]; exact kk H locs ls hP hS hl)
theorem j_lcmpE (hC : Cx mc g cc own nL ret) {x y : Int64} (h : x = y) (hd : decode cc pc = .ok (.lcmp, 1)) (kk : J mc g k n Q (pc + 1) lv (vI 0 :: st) σ) : J mc g k n Q pc lv (.long y :: .long x :: st) σ := by
  subst h
  refine j_lcmp hC hd ?_
  have e : lg_cmp x x = iI 0 := by
    unfold lg_cmp
    simp
    decide
  rw [e]
  exact kk
theorem j_tabIn (hC : Cx mc g cc own nL ret) {dflt lo hi : Int} {offs : Array Int} {len : Nat} {z off : Int} {tgt : Nat} (hz : -2147483648 ≤ z ∧ z < 2147483648) (hd : decode cc pc = .ok (.tableswitch dflt lo hi offs, len)) (h1 : lo ≤ z ∧ z ≤ hi) (ho : offs[(z - lo).toNat]? = some off) (ht : (pc : Int) + off = (tgt : Int)) (kk : J mc g k n Q tgt lv st σ) : J mc g k n Q pc lv (vI z :: st) σ :=
  fun H locs ls hP hS hl => lv_tableIn hC.1 hC.2.1 hd (by rw [iI_toInt hz.1 hz.2]; omega) (by rw [iI_toInt hz.1 hz.2]; omega) (by rw [iI_toInt hz.1 hz.2]; exact ho) ht (kk H locs ls hP hS hl)
theorem j_tabOut (hC : Cx mc g cc own nL ret) {dflt lo hi : Int} {offs : Array Int} {len : Nat} {z : Int} {tgt : Nat} (hz : -2147483648 ≤ z ∧ z < 2147483648) (hd : decode cc pc = .ok (.tableswitch dflt lo hi offs, len)) (h1 : z < lo ∨ hi < z) (ht : (pc : Int) + dflt = (tgt : Int)) (kk : J mc g k n Q tgt lv st σ) : J mc g k n Q pc lv (vI z :: st) σ :=
  fun H locs ls hP hS hl => lv_tableOut hC.1 hC.2.1 hd (by rw [iI_toInt hz.1 hz.2]; omega) ht (kk H locs ls hP hS hl)
end JL
