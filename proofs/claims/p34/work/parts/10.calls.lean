/-- the answer r and the world τ are told -/
abbrev pt (r : Option Value) (τ : Sg) : Option Value → Sg → Prop := fun v τ2 => v = r ∧ τ2 = τ
/-- it throws E, and the world stays -/
abbrev pxE (E : String) (τ : Sg) : String → Sg → Prop := fun E2 τ2 => E2 = E ∧ τ2 = τ
abbrev pF : Option Value → Sg → Prop := fun _ _ => False
section JK
variable {mc : MC} {g : GG} {k n : Nat} {Q : State → Prop} {pc : Nat} {lv : List (Nat × Value)} {st : List Value} {σ : Sg} {cc : ByteArray} {own : String} {nL : Nat} {ret : Option FieldType}
theorem j_callV1 (hC : Cx mc g cc own nL ret) {fr lo K N : Nat} (hR : mR mc = rmJ fr lo K N) {y : MethodName} {b2 : ByteArray} {nL2 fr2 lo2 k2 n2 ar index b ci : Nat} {r2 : Option FieldType} {As st0 : List Value} {v : Value} {τ : Sg} {fs : List Value} {cx : vw_C}
    (hM : CN (mL mc) y b2 nL2 r2 fr2 lo2 k2 n2 g (.ref b :: As) σ (pt (some v) τ)) (rest : List Value) (hst : st0 = As.reverse ++ .ref b :: rest) (q0 : Nat) (he : (hw g σ)[q0]? = some (b, .inr (ci, fs))) (hcl : vwCl[ci]? = some cx) (hy : y.cls = cx.1) (hmh : okC y.cls) (hpar : (parseMethodDescriptor y.desc).map (fun d => d.parameters.length) = some ar) (har : As.length = ar)
    (hlink : Cond.methodLink own index y ∈ wsA) (hinst : Cond.instanceMethod y ∈ wsA) (hsel : Cond.selects y.cls y y ∈ wsA) (hini : Cond.initialized y.cls ∈ wsA) (hcode : Cond.code y b2 nL2 r2 ∈ wsA) (hroom : (fr2 + 1 ≤ fr ∧ 8 + (nL2 + 11) + lo2 ≤ lo) ∧ k + k2 ≤ K ∧ n + n2 ≤ N) (hsum : (rest.map fun v => v.category).sum ≤ 8) (hd : decode cc pc = .ok (.invokevirtual index, 3))
    (kk : J mc g (k + k2) (n + n2) Q (pc + 3) lv (v :: rest) τ) : J mc g k n Q pc lv st0 σ :=
  j_callV hC hR hM rest hst q0 he hcl hy hmh hpar har hlink hinst hsel hini hcode hroom hsum hd (by rintro _ _ ⟨rfl, rfl⟩; exact kk)
theorem j_callV0 (hC : Cx mc g cc own nL ret) {fr lo K N : Nat} (hR : mR mc = rmJ fr lo K N) {y : MethodName} {b2 : ByteArray} {nL2 fr2 lo2 k2 n2 ar index b ci : Nat} {r2 : Option FieldType} {As st0 : List Value} {τ : Sg} {fs : List Value} {cx : vw_C}
    (hM : CN (mL mc) y b2 nL2 r2 fr2 lo2 k2 n2 g (.ref b :: As) σ (pt none τ)) (rest : List Value) (hst : st0 = As.reverse ++ .ref b :: rest) (q0 : Nat) (he : (hw g σ)[q0]? = some (b, .inr (ci, fs))) (hcl : vwCl[ci]? = some cx) (hy : y.cls = cx.1) (hmh : okC y.cls) (hpar : (parseMethodDescriptor y.desc).map (fun d => d.parameters.length) = some ar) (har : As.length = ar)
    (hlink : Cond.methodLink own index y ∈ wsA) (hinst : Cond.instanceMethod y ∈ wsA) (hsel : Cond.selects y.cls y y ∈ wsA) (hini : Cond.initialized y.cls ∈ wsA) (hcode : Cond.code y b2 nL2 r2 ∈ wsA) (hroom : (fr2 + 1 ≤ fr ∧ 8 + (nL2 + 11) + lo2 ≤ lo) ∧ k + k2 ≤ K ∧ n + n2 ≤ N) (hsum : (rest.map fun v => v.category).sum ≤ 8) (hd : decode cc pc = .ok (.invokevirtual index, 3))
    (kk : J mc g (k + k2) (n + n2) Q (pc + 3) lv rest τ) : J mc g k n Q pc lv st0 σ :=
  j_callV hC hR hM rest hst q0 he hcl hy hmh hpar har hlink hinst hsel hini hcode hroom hsum hd (by rintro _ _ ⟨rfl, rfl⟩; exact kk)
theorem j_callVN1 (hC : Cx mc g cc own nL ret) {fr lo K N : Nat} (hR : mR mc = rmJ fr lo K N) {y : MethodName} {host : String} {b2 : ByteArray} {nL2 fr2 lo2 k2 n2 ar index b ci : Nat} {r2 : Option FieldType} {As st0 : List Value} {v : Value} {τ : Sg} {fs : List Value} {cx : vw_C}
    (hM : CN (mL mc) y b2 nL2 r2 fr2 lo2 k2 n2 g (.ref b :: As) σ (pt (some v) τ)) (rest : List Value) (hst : st0 = As.reverse ++ .ref b :: rest) (q0 : Nat) (he : (hw g σ)[q0]? = some (b, .inr (ci, fs))) (hcl : vwCl[ci]? = some cx) (hy : y.cls = cx.1) (hmh : okC y.cls) (hpar : (parseMethodDescriptor y.desc).map (fun d => d.parameters.length) = some ar) (har : As.length = ar)
    (hlink : Cond.methodLinkNest own index y host ∈ nwA) (hinst : Cond.instanceMethod y ∈ wsA) (hsel : Cond.selects y.cls y y ∈ wsA) (hini : Cond.initialized y.cls ∈ wsA) (hcode : Cond.code y b2 nL2 r2 ∈ wsA) (hroom : (fr2 + 1 ≤ fr ∧ 8 + (nL2 + 11) + lo2 ≤ lo) ∧ k + k2 ≤ K ∧ n + n2 ≤ N) (hsum : (rest.map fun v => v.category).sum ≤ 8) (hd : decode cc pc = .ok (.invokevirtual index, 3))
    (kk : J mc g (k + k2) (n + n2) Q (pc + 3) lv (v :: rest) τ) : J mc g k n Q pc lv st0 σ :=
  j_callVN hC hR hM rest hst q0 he hcl hy hmh hpar har hlink hinst hsel hini hcode hroom hsum hd (by rintro _ _ ⟨rfl, rfl⟩; exact kk)
theorem j_callVN0 (hC : Cx mc g cc own nL ret) {fr lo K N : Nat} (hR : mR mc = rmJ fr lo K N) {y : MethodName} {host : String} {b2 : ByteArray} {nL2 fr2 lo2 k2 n2 ar index b ci : Nat} {r2 : Option FieldType} {As st0 : List Value} {τ : Sg} {fs : List Value} {cx : vw_C}
    (hM : CN (mL mc) y b2 nL2 r2 fr2 lo2 k2 n2 g (.ref b :: As) σ (pt none τ)) (rest : List Value) (hst : st0 = As.reverse ++ .ref b :: rest) (q0 : Nat) (he : (hw g σ)[q0]? = some (b, .inr (ci, fs))) (hcl : vwCl[ci]? = some cx) (hy : y.cls = cx.1) (hmh : okC y.cls) (hpar : (parseMethodDescriptor y.desc).map (fun d => d.parameters.length) = some ar) (har : As.length = ar)
    (hlink : Cond.methodLinkNest own index y host ∈ nwA) (hinst : Cond.instanceMethod y ∈ wsA) (hsel : Cond.selects y.cls y y ∈ wsA) (hini : Cond.initialized y.cls ∈ wsA) (hcode : Cond.code y b2 nL2 r2 ∈ wsA) (hroom : (fr2 + 1 ≤ fr ∧ 8 + (nL2 + 11) + lo2 ≤ lo) ∧ k + k2 ≤ K ∧ n + n2 ≤ N) (hsum : (rest.map fun v => v.category).sum ≤ 8) (hd : decode cc pc = .ok (.invokevirtual index, 3))
    (kk : J mc g (k + k2) (n + n2) Q (pc + 3) lv rest τ) : J mc g k n Q pc lv st0 σ :=
  j_callVN hC hR hM rest hst q0 he hcl hy hmh hpar har hlink hinst hsel hini hcode hroom hsum hd (by rintro _ _ ⟨rfl, rfl⟩; exact kk)
theorem j_callS1 (hC : Cx mc g cc own nL ret) {fr lo K N : Nat} (hR : mR mc = rmJ fr lo K N) {y : MethodName} {b2 : ByteArray} {nL2 fr2 lo2 k2 n2 ar index : Nat} {r2 : Option FieldType} {As st0 : List Value} {v : Value} {τ : Sg}
    (hM : CN (mL mc) y b2 nL2 r2 fr2 lo2 k2 n2 g As σ (pt (some v) τ)) (rest : List Value) (hst : st0 = As.reverse ++ rest) (hmh : okC y.cls) (hpar : (parseMethodDescriptor y.desc).map (fun d => d.parameters.length) = some ar) (har : As.length = ar)
    (hlink : Cond.methodLink own index y ∈ wsA) (hstat : Cond.static y ∈ wsA) (hini : Cond.initialized y.cls ∈ wsA) (hcode : Cond.code y b2 nL2 r2 ∈ wsA) (hroom : (fr2 + 1 ≤ fr ∧ 8 + (nL2 + 11) + lo2 ≤ lo) ∧ k + k2 ≤ K ∧ n + n2 ≤ N) (hsum : (rest.map fun v => v.category).sum ≤ 8) (hd : decode cc pc = .ok (.invokestatic index, 3))
    (kk : J mc g (k + k2) (n + n2) Q (pc + 3) lv (v :: rest) τ) : J mc g k n Q pc lv st0 σ :=
  j_callS hC hR hM rest hst hmh hpar har hlink hstat hini hcode hroom hsum hd (by rintro _ _ ⟨rfl, rfl⟩; exact kk)
theorem j_callS0 (hC : Cx mc g cc own nL ret) {fr lo K N : Nat} (hR : mR mc = rmJ fr lo K N) {y : MethodName} {b2 : ByteArray} {nL2 fr2 lo2 k2 n2 ar index : Nat} {r2 : Option FieldType} {As st0 : List Value} {τ : Sg}
    (hM : CN (mL mc) y b2 nL2 r2 fr2 lo2 k2 n2 g As σ (pt none τ)) (rest : List Value) (hst : st0 = As.reverse ++ rest) (hmh : okC y.cls) (hpar : (parseMethodDescriptor y.desc).map (fun d => d.parameters.length) = some ar) (har : As.length = ar)
    (hlink : Cond.methodLink own index y ∈ wsA) (hstat : Cond.static y ∈ wsA) (hini : Cond.initialized y.cls ∈ wsA) (hcode : Cond.code y b2 nL2 r2 ∈ wsA) (hroom : (fr2 + 1 ≤ fr ∧ 8 + (nL2 + 11) + lo2 ≤ lo) ∧ k + k2 ≤ K ∧ n + n2 ≤ N) (hsum : (rest.map fun v => v.category).sum ≤ 8) (hd : decode cc pc = .ok (.invokestatic index, 3))
    (kk : J mc g (k + k2) (n + n2) Q (pc + 3) lv rest τ) : J mc g k n Q pc lv st0 σ :=
  j_callS hC hR hM rest hst hmh hpar har hlink hstat hini hcode hroom hsum hd (by rintro _ _ ⟨rfl, rfl⟩; exact kk)
theorem j_callSN1 (hC : Cx mc g cc own nL ret) {fr lo K N : Nat} (hR : mR mc = rmJ fr lo K N) {y : MethodName} {host : String} {b2 : ByteArray} {nL2 fr2 lo2 k2 n2 ar index : Nat} {r2 : Option FieldType} {As st0 : List Value} {v : Value} {τ : Sg}
    (hM : CN (mL mc) y b2 nL2 r2 fr2 lo2 k2 n2 g As σ (pt (some v) τ)) (rest : List Value) (hst : st0 = As.reverse ++ rest) (hmh : okC y.cls) (hpar : (parseMethodDescriptor y.desc).map (fun d => d.parameters.length) = some ar) (har : As.length = ar)
    (hlink : Cond.methodLinkNest own index y host ∈ nwA) (hstat : Cond.static y ∈ wsA) (hini : Cond.initialized y.cls ∈ wsA) (hcode : Cond.code y b2 nL2 r2 ∈ wsA) (hroom : (fr2 + 1 ≤ fr ∧ 8 + (nL2 + 11) + lo2 ≤ lo) ∧ k + k2 ≤ K ∧ n + n2 ≤ N) (hsum : (rest.map fun v => v.category).sum ≤ 8) (hd : decode cc pc = .ok (.invokestatic index, 3))
    (kk : J mc g (k + k2) (n + n2) Q (pc + 3) lv (v :: rest) τ) : J mc g k n Q pc lv st0 σ :=
  j_callSN hC hR hM rest hst hmh hpar har hlink hstat hini hcode hroom hsum hd (by rintro _ _ ⟨rfl, rfl⟩; exact kk)
theorem j_callSN0 (hC : Cx mc g cc own nL ret) {fr lo K N : Nat} (hR : mR mc = rmJ fr lo K N) {y : MethodName} {host : String} {b2 : ByteArray} {nL2 fr2 lo2 k2 n2 ar index : Nat} {r2 : Option FieldType} {As st0 : List Value} {τ : Sg}
    (hM : CN (mL mc) y b2 nL2 r2 fr2 lo2 k2 n2 g As σ (pt none τ)) (rest : List Value) (hst : st0 = As.reverse ++ rest) (hmh : okC y.cls) (hpar : (parseMethodDescriptor y.desc).map (fun d => d.parameters.length) = some ar) (har : As.length = ar)
    (hlink : Cond.methodLinkNest own index y host ∈ nwA) (hstat : Cond.static y ∈ wsA) (hini : Cond.initialized y.cls ∈ wsA) (hcode : Cond.code y b2 nL2 r2 ∈ wsA) (hroom : (fr2 + 1 ≤ fr ∧ 8 + (nL2 + 11) + lo2 ≤ lo) ∧ k + k2 ≤ K ∧ n + n2 ≤ N) (hsum : (rest.map fun v => v.category).sum ≤ 8) (hd : decode cc pc = .ok (.invokestatic index, 3))
    (kk : J mc g (k + k2) (n + n2) Q (pc + 3) lv rest τ) : J mc g k n Q pc lv st0 σ :=
  j_callSN hC hR hM rest hst hmh hpar har hlink hstat hini hcode hroom hsum hd (by rintro _ _ ⟨rfl, rfl⟩; exact kk)
theorem j_callVT (hC : Cx mc g cc own nL ret) {fr lo K N : Nat} (hR : mR mc = rmJ fr lo K N) {y : MethodName} {b2 : ByteArray} {nL2 fr2 lo2 k2 n2 ar index b ci : Nat} {r2 : Option FieldType} {As st0 : List Value} {post2 : Option Value → Sg → Prop} {E : String} {fs : List Value} {cx : vw_C}
    (hM : CX (mL mc) y b2 nL2 r2 fr2 lo2 k2 n2 g (.ref b :: As) σ pF (pxE E σ)) (rest : List Value) (hst : st0 = As.reverse ++ .ref b :: rest) (q0 : Nat) (he : (hw g σ)[q0]? = some (b, .inr (ci, fs))) (hcl : vwCl[ci]? = some cx) (hy : y.cls = cx.1) (hmh : okC y.cls) (hpar : (parseMethodDescriptor y.desc).map (fun d => d.parameters.length) = some ar) (har : As.length = ar)
    (hlink : Cond.methodLink own index y ∈ wsA) (hinst : Cond.instanceMethod y ∈ wsA) (hsel : Cond.selects y.cls y y ∈ wsA) (hini : Cond.initialized y.cls ∈ wsA) (hcode : Cond.code y b2 nL2 r2 ∈ wsA) (hroom : (fr2 + 1 ≤ fr ∧ 8 + (nL2 + 11) + lo2 ≤ lo) ∧ k + k2 ≤ K ∧ n + n2 ≤ N) (hsum : (rest.map fun v => v.category).sum ≤ 8) (hd : decode cc pc = .ok (.invokevirtual index, 3)) (hE : ∀ x ∈ (mC mc).exceptionTable.toList, False) : J mc g k n (QX mc g post2 (pxE E σ) K N) pc lv st0 σ := by
  subst hst
  refine j_runX hC (fun H locs ls hP hS hl => vx_runV (C := y.cls) (fixJ hC) hM ⟨cbJ hC hR hmh hpar hlink hini hcode hroom.1, hC.2.2.2.2.1 _ hinst, hC.2.2.2.2.1 _ hsel⟩ ⟨WB_blind _, ?_, fun U hU hW => ⟨rfl, WB_mk hC hP hS hU hW⟩⟩ rfl har (szJ hC hl) rfl (lv_room hsum) hd (by rw [hR]; exact hroom.2)) (fun E2 ce q τ H1 locs1 ls hp hP hS _ hce hcv hcl => by obtain ⟨rfl, rfl⟩ := hp; exact x_out hC hE ⟨rfl, rfl⟩ hP hS hce hcv hcl hroom.2) (fun _ _ h => h.elim)
  have h := va_recv hC.2.2.2.2.2.2.1 hP hcl he
  rw [hy]
  exact h
theorem j_callST (hC : Cx mc g cc own nL ret) {fr lo K N : Nat} (hR : mR mc = rmJ fr lo K N) {y : MethodName} {b2 : ByteArray} {nL2 fr2 lo2 k2 n2 ar index : Nat} {r2 : Option FieldType} {As st0 : List Value} {post2 : Option Value → Sg → Prop} {E : String}
    (hM : CX (mL mc) y b2 nL2 r2 fr2 lo2 k2 n2 g As σ pF (pxE E σ)) (rest : List Value) (hst : st0 = As.reverse ++ rest) (hmh : okC y.cls) (hpar : (parseMethodDescriptor y.desc).map (fun d => d.parameters.length) = some ar) (har : As.length = ar)
    (hlink : Cond.methodLink own index y ∈ wsA) (hstat : Cond.static y ∈ wsA) (hini : Cond.initialized y.cls ∈ wsA) (hcode : Cond.code y b2 nL2 r2 ∈ wsA) (hroom : (fr2 + 1 ≤ fr ∧ 8 + (nL2 + 11) + lo2 ≤ lo) ∧ k + k2 ≤ K ∧ n + n2 ≤ N) (hsum : (rest.map fun v => v.category).sum ≤ 8) (hd : decode cc pc = .ok (.invokestatic index, 3)) (hE : ∀ x ∈ (mC mc).exceptionTable.toList, False) : J mc g k n (QX mc g post2 (pxE E σ) K N) pc lv st0 σ := by
  subst hst
  exact j_runX hC (fun H locs ls hP hS hl => vx_runS (fixJ hC) hM ⟨cbJ hC hR hmh hpar hlink hini hcode hroom.1, hC.2.2.2.2.1 _ hstat⟩ ⟨WB_blind _, fun U hU hW => ⟨rfl, WB_mk hC hP hS hU hW⟩⟩ rfl har (szJ hC hl) rfl (lv_room hsum) hd (by rw [hR]; exact hroom.2)) (fun E2 ce q τ H1 locs1 ls hp hP hS _ hce hcv hcl => by obtain ⟨rfl, rfl⟩ := hp; exact x_out hC hE ⟨rfl, rfl⟩ hP hS hce hcv hcl hroom.2) (fun _ _ h => h.elim)
theorem cMabs : Cond.code Lib.Math.abs.name Lib.Math.abs.code 1 (some .int) ∈ wsA := wA_of 178 (by decide +kernel) (by decide +kernel)
theorem cMmin : Cond.code Lib.Math.min.name Lib.Math.min.code 2 (some .int) ∈ wsA := wA_of 284 (by decide +kernel) (by decide +kernel)
theorem j_abs {a : Int} (hC : Cx mc g cc own nL ret) {fr lo K N index : Nat} (hR : mR mc = rmJ fr lo K N) (hlink : Cond.methodLink own index Lib.Math.abs.name ∈ wsA) (hroom : 1 ≤ fr ∧ (st.map fun v => v.category).sum + 13 ≤ lo) (hk : k ≤ K ∧ n ≤ N) (hr : -2147483648 < a ∧ a < 2147483648) (hd : decode cc pc = .ok (.invokestatic index, 3))
    (kk : J mc g k n Q (pc + 3) lv (vI (if 0 ≤ a then a else -a) :: st) σ) : J mc g k n Q pc lv (vI a :: st) σ := by
  intro H locs ls hP hS hl
  refine va_mabs hC.1 hC.2.1 hl.1.symm hC.2.2.2.1 (hC.2.2.2.2.1 _ hlink) (hC.2.2.2.2.1 _ wd177) (hC.2.2.2.2.1 _ wd12) (hC.2.2.2.2.1 _ cMabs) (by rw [hR]; exact hroom.1) (by rw [hR]; exact hroom.2) (by rw [hR]; exact hk.1) (by rw [hR]; exact hk.2) hd ?_
  have e : (if 0 ≤ iI a then iI a else 0 - iI a) = iI (if 0 ≤ a then a else -a) := by
    have h9 := iI_le (a := 0) (b := a) (by omega) (by omega) (by omega) (by omega)
    rw [iI_0] at h9
    by_cases h : 0 ≤ a
    · rw [if_pos h, if_pos (h9.mpr h)]
    · rw [if_neg h, if_neg (fun q => h (h9.mp q)), ← iI_0, iI_sub]
      congr 1
      omega
  rw [e]
  exact kk H locs ls hP hS hl
theorem j_min {a b : Int} (hC : Cx mc g cc own nL ret) {fr lo K N index : Nat} (hR : mR mc = rmJ fr lo K N) (hlink : Cond.methodLink own index Lib.Math.min.name ∈ wsA) (hroom : 1 ≤ fr ∧ (st.map fun v => v.category).sum + 13 ≤ lo) (hk : k ≤ K ∧ n ≤ N) (hr : -2147483648 ≤ a ∧ a < 2147483648 ∧ -2147483648 ≤ b ∧ b < 2147483648) (hd : decode cc pc = .ok (.invokestatic index, 3))
    (kk : J mc g k n Q (pc + 3) lv (vI (if a ≤ b then a else b) :: st) σ) : J mc g k n Q pc lv (vI b :: vI a :: st) σ := by
  intro H locs ls hP hS hl
  refine va_mmin hC.1 hC.2.1 hl.1.symm hC.2.2.2.1 (hC.2.2.2.2.1 _ hlink) (hC.2.2.2.2.1 _ wd283) (hC.2.2.2.2.1 _ wd12) (hC.2.2.2.2.1 _ cMmin) (by rw [hR]; exact hroom.1) (by rw [hR]; exact hroom.2) (by rw [hR]; exact hk.1) (by rw [hR]; exact hk.2) hd ?_
  have e : (if iI b < iI a then iI b else iI a) = iI (if a ≤ b then a else b) := by
    have h9 := iI_lt (a := b) (b := a) (by omega) (by omega) (by omega) (by omega)
    by_cases h : a ≤ b
    · rw [if_pos h, if_neg (fun q => by have := h9.mp q; omega)]
    · rw [if_neg h, if_pos (h9.mpr (by omega))]
  rw [e]
  exact kk H locs ls hP hS hl
end JK
theorem inX0 : ∀ w ∈ u_ws RX0 TX0 4, w ∈ wsA := by decide +kernel
theorem inX2 : ∀ w ∈ u_ws RX2 TX2 2, w ∈ wsA := by decide +kernel
theorem inX3 : ∀ w ∈ u_ws RX3 TX3 4, w ∈ wsA := by decide +kernel
theorem inX4 : ∀ w ∈ u_ws RX4 TX4 2, w ∈ wsA := by decide +kernel
