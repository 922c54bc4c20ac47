/-- the law's beginning, and constructors: a world that grows -/
def Kx (mc : MC) (g : GG) (cc : ByteArray) (own : String) (nL : Nat) (ret : Option FieldType) : Prop :=
  (mP mc).tables.exec = Jvm.exec ∧ (mC mc).code = cc ∧ (mC mc).maxLocals = nL ∧ (mS mc).vm.findClass own = some (mM mc).cls ∧ (∀ w ∈ wsA, w.before (mA mc) (mS mc) = true) ∧ (mH mc).locks = false ∧ va_K (gD g) vwCl (gT g) (mS mc) ∧ (∀ w ∈ nwA, va_Nw w (mS mc)) ∧ va_AO "SignMasons$Book" (mS mc) ∧ g0 g ≤ (mS mc).heap.size ∧ (mH mc).sig.returnType = ret
def JI (mc : MC) (g : GG) (ws : va_W) (k n : Nat) (Q : State → Prop) (pc : Nat) (lv : List (Nat × Value)) (st : List Value) : Prop :=
  ∀ (H : Heap) (locs : List Loc) (ls : Array Slot), va_P (gD g) vwCl ws H → va_D (gA g) ws → va_S (gA g) (mS mc).heap H locs → lv_has ls (mC mc).maxLocals lv →
    W (mP mc) (mL mc) (mE mc) (mR mc) (mS mc) (mM mc) (mA mc) (mB mc) (mH mc) (mC mc) H locs k n Q (F0 (mM mc) pc ls st)
def WI (g : GG) (ws : va_W) (U : State) : Prop := g0 g ≤ U.heap.size ∧ va_P (gD g) vwCl ws U.heap ∧ va_D (gA g) ws ∧ va_K (gD g) vwCl (gT g) U ∧ (∀ w ∈ nwA, va_Nw w U) ∧ va_AO "SignMasons$Book" U
def QI (g : GG) (post : va_W → Prop) : Array Value → State → Outcome → State → Prop := fun _ st o t => (∃ ws, o = .returned none ∧ post ws ∧ va_P (gD g) vwCl ws t.heap ∧ va_D (gA g) ws) ∧ va_F (gA g) st t
def CI (l : Launch) (y : MethodName) (cc : ByteArray) (nL fr lo k n : Nat) (g : GG) (as : List Value) (ws : va_W) (post : va_W → Prop) : Prop :=
  Met l y (.code y cc nL none :: wsA) (rmJ fr lo k n) (va_Pc as (WI g ws)) (QI g post) k n (gA g)
theorem WI_calling {g : GG} {ws : va_W} {U : State} {jf : JFrame} {mk : MethodId} {a : Array Value} (h : WI g ws U) : WI g ws (U.calling jf mk a) := by
  obtain ⟨h0, hP, hD, hK, hN, hT⟩ := h
  have hW : U.WarmedH (U.calling jf mk a).vm := State.WarmedH.refl U
  exact ⟨h0, hP, hD, va_K.moved hW.alike hK, nw_warm hW hN, va_AO.moved hW.alike hT⟩
theorem WI_blind {g : GG} {ws : va_W} (as : List Value) : FrameBlind (va_Pc as (WI g ws)) := fun _ _ _ _ h => ⟨h.1, WI_calling h.2⟩
theorem CI_of {l : Launch} {y : MethodName} {cc : ByteArray} {own : String} {nL fr lo k n : Nat} {g : GG} {as : List Value} {ws : va_W} {post : va_W → Prop} (hy : plainName y.cls = true) (hy2 : y.cls = own) (hn : (lg_sl as).length ≤ nL)
    (body : ∀ mc : MC, Kx mc g cc own nL none → (mH mc).name = y.name → mR mc = rmJ fr lo k n → JI mc g ws 0 0 (MQ (mB mc) (QI g post) (mA mc) (mS mc) k n (gA g)) 0 (lv_args 0 as) []) : CI l y cc nL fr lo k n g as ws post := by
  subst hy2
  refine Met.ofW (cc := cc) (maxL := nL) (ret := none) hy rfl ?_
  intro p e s m args below meth c s₁ B hml hv
  obtain ⟨rfl, h0, hP, hD, hK, hN, hT⟩ := hv
  have hts := atoms_spec (ws := .code y cc nL none :: wsA) B.pre
  have hC : Kx (p, l, e, rmJ fr lo k n, s, m, as.toArray, below, meth, c) g cc y.cls nL none := ⟨B.exec, B.bytes, hml, findClass_of_methodNamed B.named, fun w h => hts w (List.mem_cons_of_mem _ h), B.notSynchronized, hK, hN, hT, h0, B.returns⟩
  have hb := body _ hC (name_of_methodNamed B.named B.method).1 rfl
  have he := lv_entry as hn
  rw [lg_entry_eq]
  exact hb s.heap [] _ hP hD va_S.rf (by show lv_has _ c.maxLocals _; rw [hml]; exact he)
theorem gk {α : Type} (w l : List α) (i : Nat) : (w ++ l)[w.length + i]? = l[i]? := by
  rw [List.getElem?_append_right (Nat.le_add_right _ _), Nat.add_sub_cancel_left]
theorem sk {α : Type} (w l : List α) (i : Nat) (x : α) : (w ++ l).set (w.length + i) x = w ++ l.set i x := by
  rw [List.set_append_right _ _ (Nat.le_add_right _ _), Nat.add_sub_cancel_left]
section JI
variable {mc : MC} {g : GG} {ws : va_W} {k n : Nat} {Q : State → Prop} {pc : Nat} {lv : List (Nat × Value)} {st : List Value} {cc : ByteArray} {own : String} {nL : Nat} {ret : Option FieldType}
theorem i_iconst {z : Int} (hC : Kx mc g cc own nL ret) (hd : decode cc pc = .ok (.iconst z, 1)) (kk : JI mc g ws k n Q (pc + 1) lv (vI z :: st)) : JI mc g ws k n Q pc lv (st) :=
  fun H locs ls hP hD hS hl => lv_iconst hC.1 hC.2.1 hd rfl (kk H locs ls hP hD hS hl)
theorem i_bipush {z : Int} (hC : Kx mc g cc own nL ret) (hd : decode cc pc = .ok (.bipush z, 2)) (hz : (Int8.ofInt z).toInt32 = iI z) (kk : JI mc g ws k n Q (pc + 2) lv (vI z :: st)) : JI mc g ws k n Q pc lv (st) :=
  fun H locs ls hP hD hS hl => lv_bipush hC.1 hC.2.1 hd hz (kk H locs ls hP hD hS hl)
theorem i_iload_n {f : Fin 4} {x : Int32} (hC : Kx mc g cc own nL ret) (hd : decode cc pc = .ok (.iload_n f, 1)) (q : Nat) (hq : lv[q]? = some ((f : Nat), .int x)) (kk : JI mc g ws k n Q (pc + 1) lv (.int x :: st)) : JI mc g ws k n Q pc lv (st) :=
  fun H locs ls hP hD hS hl => lv_iload_n hC.1 hC.2.1 hd rfl (lv_at hl q hq) (kk H locs ls hP hD hS hl)
theorem i_aload_n {f : Fin 4} {x : Nat} (hC : Kx mc g cc own nL ret) (hd : decode cc pc = .ok (.aload_n f, 1)) (q : Nat) (hq : lv[q]? = some ((f : Nat), .ref x)) (kk : JI mc g ws k n Q (pc + 1) lv (.ref x :: st)) : JI mc g ws k n Q pc lv (st) :=
  fun H locs ls hP hD hS hl => lv_aload_n hC.1 hC.2.1 hd rfl (lv_at hl q hq) (kk H locs ls hP hD hS hl)
theorem i_istore_n (hC : Kx mc g cc own nL ret) {f : Fin 4} {x : Int32} (hd : decode cc pc = .ok (.istore_n f, 1)) (lv2 : List (Nat × Value)) (hn : (f : Nat) < nL) (he : ((f : Nat), Value.int x) :: lv.filter (fun q => !(q.1 == (f : Nat)) && !(q.1 + 1 == (f : Nat) && q.2.category == 2)) = lv2) (kk : JI mc g ws k n Q (pc + 1) lv2 st) : JI mc g ws k n Q pc lv (.int x :: st) :=
  fun H locs ls hP hD hS hl => lv_istore_n hC.1 hC.2.1 hd rfl hl (by rw [hC.2.2.1]; exact hn) he (fun ls2 hl2 => kk H locs ls2 hP hD hS hl2)
theorem i_istore (hC : Kx mc g cc own nL ret) {f : Nat} {x : Int32} (hd : decode cc pc = .ok (.istore f, 2)) (lv2 : List (Nat × Value)) (hn : f < nL) (he : (f, Value.int x) :: lv.filter (fun q => !(q.1 == f) && !(q.1 + 1 == f && q.2.category == 2)) = lv2) (kk : JI mc g ws k n Q (pc + 2) lv2 st) : JI mc g ws k n Q pc lv (.int x :: st) :=
  fun H locs ls hP hD hS hl => lv_istore hC.1 hC.2.1 hd hl (by rw [hC.2.2.1]; exact hn) he (fun ls2 hl2 => kk H locs ls2 hP hD hS hl2)
theorem i_astore_n (hC : Kx mc g cc own nL ret) {f : Fin 4} {x : Nat} (hd : decode cc pc = .ok (.astore_n f, 1)) (lv2 : List (Nat × Value)) (hn : (f : Nat) < nL) (he : ((f : Nat), Value.ref x) :: lv.filter (fun q => !(q.1 == (f : Nat)) && !(q.1 + 1 == (f : Nat) && q.2.category == 2)) = lv2) (kk : JI mc g ws k n Q (pc + 1) lv2 st) : JI mc g ws k n Q pc lv (.ref x :: st) :=
  fun H locs ls hP hD hS hl => lv_astore_n hC.1 hC.2.1 hd rfl hl (by rw [hC.2.2.1]; exact hn) he (fun ls2 hl2 => kk H locs ls2 hP hD hS hl2)
theorem i_iinc (hC : Kx mc g cc own nL ret) {f : Nat} {d z : Int} (hd : decode cc pc = .ok (.iinc f d, 3)) (q : Nat) (lv2 : List (Nat × Value)) (hq : lv[q]? = some (f, vI z)) (hn : f < nL) (he : (f, vI (z + d)) :: lv.filter (fun q => !(q.1 == f) && !(q.1 + 1 == f && q.2.category == 2)) = lv2) (kk : JI mc g ws k n Q (pc + 3) lv2 st) : JI mc g ws k n Q pc lv st :=
  fun H locs ls hP hD hS hl => lv_iinc (v := iI (z + d)) hC.1 hC.2.1 hd hl hq (iI_add z d) (by rw [hC.2.2.1]; exact hn) he (fun ls2 hl2 => kk H locs ls2 hP hD hS hl2)
theorem i_dup {v : Value} (hC : Kx mc g cc own nL ret) (hd : decode cc pc = .ok (.dup, 1)) (hv : v.category = 1) (kk : JI mc g ws k n Q (pc + 1) lv (v :: v :: st)) : JI mc g ws k n Q pc lv (v :: st) :=
  fun H locs ls hP hD hS hl => lv_dup hC.1 hC.2.1 hd hv (kk H locs ls hP hD hS hl)
theorem i_icmp_ge (hC : Kx mc g cc own nL ret) {a b off : Int} {tgt : Nat} (hd : decode cc pc = .ok (.if_icmp .ge off, 3)) (ht : (pc : Int) + off = (tgt : Int)) (hr : -2147483648 ≤ a ∧ a < 2147483648 ∧ -2147483648 ≤ b ∧ b < 2147483648) (kt : b ≤ a → JI mc g ws k n Q tgt lv st) (kf : a < b → JI mc g ws k n Q (pc + 3) lv st) : JI mc g ws k n Q pc lv (vI b :: vI a :: st) :=
  fun H locs ls hP hD hS hl => lv_icmp_ge hC.1 hC.2.1 hd ht (fun h => kt (cc_ge hr h) H locs ls hP hD hS hl) (fun h => kf (cc_nge hr h) H locs ls hP hD hS hl)
theorem i_goto (hC : Kx mc g cc own nL ret) {off : Int} {tgt : Nat} (hd : decode cc pc = .ok (.goto off, 3)) (ht : (pc : Int) + off = (tgt : Int)) (kk : JI mc g ws k n Q tgt lv st) : JI mc g ws k n Q pc lv st :=
  fun H locs ls hP hD hS hl => lv_goto hC.1 hC.2.1 hd ht (kk H locs ls hP hD hS hl)
theorem i_sub {lv2 : List (Nat × Value)} (ks : List Nat) (he : lv_pick lv ks = lv2) (kk : JI mc g ws k n Q pc lv2 st) : JI mc g ws k n Q pc lv st :=
  fun H locs ls hP hD hS hl => kk H locs ls hP hD hS (lv_sub hl ks he)
theorem i_widen {k2 n2 : Nat} (h1 : k ≤ k2) (h2 : n ≤ n2) (kk : JI mc g ws k2 n2 Q pc lv st) : JI mc g ws k n Q pc lv st :=
  fun H locs ls hP hD hS hl => W.widen h1 h2 (kk H locs ls hP hD hS hl)
theorem i_lv {lv2 : List (Nat × Value)} (h : lv = lv2) (kk : JI mc g ws k n Q pc lv2 st) : JI mc g ws k n Q pc lv st := h ▸ kk
theorem i_ws {ws2 : va_W} (h : ws = ws2) (kk : JI mc g ws2 k n Q pc lv st) : JI mc g ws k n Q pc lv st := h ▸ kk
theorem i_obj (hC : Kx mc g cc own nL ret) {fr lo K N : Nat} (hR : mR mc = rmJ fr lo K N) {idx a : Nat} (hlink : Cond.methodLink own idx objectInit ∈ wsA) (hroom : 1 ≤ fr ∧ (st.map fun v => v.category).sum + 12 ≤ lo) (hd : decode cc pc = .ok (.invokespecial idx, 3)) (kk : JI mc g ws k n Q (pc + 3) lv st) : JI mc g ws k n Q pc lv (.ref a :: st) := by
  intro H locs ls hP hD hS hl
  refine W.objInit hC.1 hC.2.1 hC.2.2.2.1 (hC.2.2.2.2.1 _ hlink) (hC.2.2.2.2.1 _ wd20) (hC.2.2.2.2.1 (Cond.code objectInit ⟨#[0xb1]⟩ 1 none) wd21) rfl hl.1 rfl hd (by rw [hR]; exact hroom.1) (by rw [hR]; show 2 * 0 + _ + 12 ≤ lo; omega) ?_
  refine W.eq (g2 := F0 (mM mc) (pc + 3) ls st) rfl ?_
  exact kk H locs ls hP hD hS hl
theorem i_get (hC : Kx mc g cc own nL ret) {C : String} {T : u_T} {N ci index a : Nat} {fs : List Value} {v : Value} (hin : ∀ w ∈ u_ws C T N, w ∈ wsA) (hc : vwCl[ci]? = some (C, T, N)) (q0 : Nat) (he : ws[q0]? = some (a, .inr (ci, fs))) (f : Nat) (hf : f < N) (hlink : Cond.fieldLink own index (T f).1 (T f).2.1 (T f).2.2.1 ∈ wsA) (hv : fs[f]? = some v) (hd : decode cc pc = .ok (.getfield index, 3)) (kk : JI mc g ws k n Q (pc + 3) lv (v :: st)) : JI mc g ws k n Q pc lv (.ref a :: st) :=
  fun H locs ls hP hD hS hl => va_get (own := own) hC.1 hC.2.1 hC.2.2.2.2.1 hin hC.2.2.2.1 hC.2.2.2.2.2.2.1 hP q0 he hc f hf (hC.2.2.2.2.1 _ hlink) (fun _ h => h) hv hd (kk H locs ls hP hD hS hl)
theorem i_putF (hC : Kx mc g cc own nL ret) (hin2 : (mH mc).name = "<init>") {C : String} {T : u_T} {N ci index a : Nat} {fs : List Value} {v : Value} {ws2 : va_W} {ty : FieldType} (hin : ∀ w ∈ u_ws C T N, w ∈ wsA) {ty0 : Nat → FieldType} (hty : ∀ k, k < N → parseFieldDescriptor (T k).2.2.1 = some (ty0 k)) (hnm : ∀ a, a < N → ∀ b, b < N → a ≠ b → (T a).2.1 ≠ (T b).2.1) (hc : vwCl[ci]? = some (C, T, N)) (q0 : Nat) (he : ws[q0]? = some (a, .inr (ci, fs))) (f : Nat) (hf : f < N) (hlink : Cond.fieldLink own index (T f).1 (T f).2.1 (T f).2.2.1 ∈ wsA) (hfin : (T f).2.2.2 = true) (hdecl : (T f).1 = own) (hde : parseFieldDescriptor (T f).2.2.1 = some ty) (hn : narrow ty v = v) (hfit : fits ty v = true) (hlen : f < fs.length) (hs : ws.set q0 (a, .inr (ci, fs.set f v)) = ws2) (hd : decode cc pc = .ok (.putfield index, 3)) (kk : JI mc g ws2 k n Q (pc + 3) lv st) : JI mc g ws k n Q pc lv (v :: .ref a :: st) :=
  fun H locs ls hP hD hS hl => va_putF (own := own) hC.1 hC.2.1 hC.2.2.2.2.1 hin ty0 hty hnm hC.2.2.2.1 hC.2.2.2.2.2.2.1 hP hD hS q0 he hc f hf (hC.2.2.2.2.1 _ hlink) (fun _ h => h) hfin hin2 hdecl hde hn hfit hlen hd (fun H1 locs1 hP1 hD1 hS1 => kk H1 locs1 ls (hs ▸ hP1) (hs ▸ hD1) hS1 hl)
theorem i_put (hC : Kx mc g cc own nL ret) {C : String} {T : u_T} {N ci index a : Nat} {fs : List Value} {x : Int} {ws2 : va_W} (hin : ∀ w ∈ u_ws C T N, w ∈ wsA) {ty0 : Nat → FieldType} (hty : ∀ k, k < N → parseFieldDescriptor (T k).2.2.1 = some (ty0 k)) (hnm : ∀ a, a < N → ∀ b, b < N → a ≠ b → (T a).2.1 ≠ (T b).2.1) (hc : vwCl[ci]? = some (C, T, N)) (q0 : Nat) (he : ws[q0]? = some (a, .inr (ci, fs))) (f : Nat) (hf : f < N) (hlink : Cond.fieldLink own index (T f).1 (T f).2.1 (T f).2.2.1 ∈ wsA) (hfin : (T f).2.2.2 = false) (hde : parseFieldDescriptor (T f).2.2.1 = some .int) (hlen : f < fs.length) (hs : ws.set q0 (a, .inr (ci, fs.set f (vI x))) = ws2) (hd : decode cc pc = .ok (.putfield index, 3)) (kk : JI mc g ws2 k n Q (pc + 3) lv st) : JI mc g ws k n Q pc lv (vI x :: .ref a :: st) :=
  fun H locs ls hP hD hS hl => va_put (own := own) hC.1 hC.2.1 hC.2.2.2.2.1 hin ty0 hty hnm hC.2.2.2.1 hC.2.2.2.2.2.2.1 hP hD hS q0 he hc f hf (hC.2.2.2.2.1 _ hlink) (fun _ h => h) hfin hde (vp_nar_int _) rfl hlen hd (fun H1 locs1 hP1 hD1 hS1 => kk H1 locs1 ls (hs ▸ hP1) (hs ▸ hD1) hS1 hl)
theorem i_newE (hC : Kx mc g cc own nL ret) {fr lo K N : Nat} (hR : mR mc = rmJ fr lo K N) (m0 : Nat) {z : Int} (hz : z = (m0 : Int)) (hm : m0 < 1000) (hroom : k + 1 ≤ K ∧ n + m0 ≤ N) (hd : decode cc pc = .ok (.newarray .int, 2))
    (kk : ∀ q, JI mc g (ws ++ [(q, ri g (fun _ => 0) m0)]) (k + 1) (n + m0) Q (pc + 2) lv (.ref q :: st)) : JI mc g ws k n Q pc lv (vI z :: st) := by
  subst hz
  intro H locs ls hP hD hS hl
  have hcl : (iI (m0 : Int)).toNatClampNeg = m0 := by rw [iI_clamp (by omega) (by omega)]; omega
  have nm : ¬ (iI (m0 : Int)) < 0 := by
    rw [← iI_0, iI_lt (by omega) (by omega) (by omega) (by omega)]
    omega
  refine va_newa (atype := .int) (N' := m0) (a0 := (m0, .inl (fun _ : Nat => iI 0))) hC.1 hC.2.1 (hC.2.2.2.2.1 _ wd36) rfl hC.2.2.2.2.2.2.1 hP hD hS (gA_new hC.2.2.2.2.2.2.2.2.2.1) (fun cA => rfl) nm hcl (by show m0 * 4 ≤ _; omega) (by rw [hR]; exact hroom.1) (by rw [hR]; exact hroom.2) hd (fun q cA H1 hK hP1 hD1 hS1 => ?_)
  have e1 : (mS mc).vm.findClass ("[" ++ FieldType.int.toString) = some (gI g) := ((hC.2.2.2.2.2.2.1).2 0 _ rfl).2
  have e2 : (mS mc).vm.findClass ("[" ++ FieldType.int.toString) = some cA := (hK.2 (gT g).length (cA, .int) (by rw [List.getElem?_append_right (Nat.le_refl _), Nat.sub_self]; rfl)).2
  have e3 : cA = gI g := Option.some.inj (e2.symm.trans e1)
  subst e3
  exact kk q H1 locs ls hP1 hD1 hS1 hl
theorem i_anew (hC : Kx mc g cc own nL ret) {fr lo K N index : Nat} (hR : mR mc = rmJ fr lo K N) (hroom : k + 1 ≤ K ∧ n + 4 ≤ N) (hlink : Cond.classLink own index "SignMasons$Book" ∈ wsA) (hd : decode cc pc = .ok (.anewarray index, 3))
    (kk : ∀ q, JI mc g (ws ++ [(q, .inl (gB g, 4, .inr (.inr (.inr (.inr (fun _ => none))))))]) (k + 1) (n + 4) Q (pc + 3) lv (.ref q :: st)) : JI mc g ws k n Q pc lv (vI 4 :: st) := by
  intro H locs ls hP hD hS hl
  refine va_newq (N' := 4) (C := "SignMasons$Book") hC.1 hC.2.1 hC.2.2.2.1 (hC.2.2.2.2.1 _ hlink) hC.2.2.2.2.2.2.2.2.1 hC.2.2.2.2.2.2.1 hP hD hS (gA_new hC.2.2.2.2.2.2.2.2.2.1) (by decide) (by decide) (by decide) (by rw [hR]; exact hroom.1) (by rw [hR]; exact hroom.2) hd (fun q cA H1 hK hP1 hD1 hS1 => ?_)
  obtain ⟨_, _, _, _, _, e1⟩ := ((hC.2.2.2.2.2.2.1).2 2 _ rfl).2
  obtain ⟨_, _, _, _, _, e2⟩ := (hK.2 (gT g).length (cA, .object "SignMasons$Book") (by rw [List.getElem?_append_right (Nat.le_refl _), Nat.sub_self]; rfl)).2
  have e3 : cA = gB g := Option.some.inj (e2.symm.trans e1)
  subst e3
  exact kk q H1 locs ls hP1 hD1 hS1 hl
theorem i_new (hC : Kx mc g cc own nL ret) {fr lo K N index : Nat} (hR : mR mc = rmJ fr lo K N) {C : String} {T : u_T} {M ci : Nat} (hin : ∀ w ∈ u_ws C T M, w ∈ wsA) {ty : Nat → FieldType} (hty : ∀ k, k < M → parseFieldDescriptor (T k).2.2.1 = some (ty k)) (hcl : Cond.classLink own index C ∈ wsA) (hinst : Cond.instantiable C M ∈ wsA) (hini : Cond.initialized C ∈ wsA) (hc : vwCl[ci]? = some (C, T, M)) {fs : List Value} (hfs : ∀ j, j < M → defaultValue (ty j) = vp_V fs j) (hroom : k + 1 ≤ K ∧ n + M ≤ N) (hd : decode cc pc = .ok (.new index, 3))
    (kk : ∀ q, JI mc g (ws ++ [(q, .inr (ci, fs))]) (k + 1) (n + M) Q (pc + 3) lv (.ref q :: st)) : JI mc g ws k n Q pc lv st :=
  fun H locs ls hP hD hS hl => va_new (own := own) hC.1 hC.2.1 hC.2.2.2.2.1 hin ty hty hC.2.2.2.1 (hC.2.2.2.2.1 _ hcl) (hC.2.2.2.2.1 _ hinst) (hC.2.2.2.2.1 _ hini) hC.2.2.2.2.2.2.1 hP hD hS (gA_new hC.2.2.2.2.2.2.2.2.2.1) hc hfs (by rw [hR]; exact hroom.1) (by rw [hR]; exact hroom.2) hd (fun q H1 hP1 hD1 hS1 => kk q H1 locs ls hP1 hD1 hS1 hl)
theorem i_iast (hC : Kx mc g cc own nL ret) {a m0 : Nat} {f : Int → Int} {z x : Int} {ws2 : va_W} (q0 : Nat) (he : ws[q0]? = some (a, ri g f m0)) (hs : ws.set q0 (a, ri g (fun j => if j = z then x else f j) m0) = ws2) (hz : 0 ≤ z ∧ z < m0 ∧ m0 ≤ 2147483647) (hd : decode cc pc = .ok (.iastore, 1)) (kk : JI mc g ws2 k n Q (pc + 1) lv st) : JI mc g ws k n Q pc lv (vI x :: vI z :: .ref a :: st) := by
  intro H locs ls hP hD hS hl
  refine va_iast hC.1 hC.2.1 hC.2.2.2.2.2.2.1 hP hD hS q0 0 he rfl (iI_in hz.1 hz.2.1 hz.2.2) hd (fun H1 locs1 hP1 hD1 hS1 => ?_)
  rw [iI_up hz.1 (by omega)] at hP1 hD1
  exact kk H1 locs1 ls (hs ▸ hP1) (hs ▸ hD1) hS1 hl
theorem i_astq (hC : Kx mc g cc own nL ret) {a v : Nat} {vs : List Value} {f : Nat → Option Nat} {z : Int} {ws2 : va_W} (q0 qk : Nat) (he : ws[q0]? = some (a, .inl (gB g, 4, .inr (.inr (.inr (.inr f)))))) (hv : ws[qk]? = some (v, .inr (0, vs))) (hs : ws.set q0 (a, .inl (gB g, 4, .inr (.inr (.inr (.inr (va_up f z.toNat (some v))))))) = ws2) (hz : 0 ≤ z ∧ z < 4) (hd : decode cc pc = .ok (.aastore, 1)) (kk : JI mc g ws2 k n Q (pc + 1) lv st) : JI mc g ws k n Q pc lv (.ref v :: vI z :: .ref a :: st) := by
  intro H locs ls hP hD hS hl
  refine va_astq (r := (RX0, TX0, 4)) hC.1 hC.2.1 hC.2.2.2.2.2.2.1 hP hD hS q0 2 qk 0 he rfl hv rfl (iI_in hz.1 hz.2 (by decide)) hd (fun H1 locs1 hP1 hD1 hS1 => ?_)
  rw [iI_clamp (by omega) (by omega)] at hP1 hD1
  exact kk H1 locs1 ls (hs ▸ hP1) (hs ▸ hD1) hS1 hl
theorem i_vret (hC : Kx mc g cc own nL none) {post : va_W → Prop} (hd : decode cc pc = .ok (.return_, 1)) (hp : post ws) : JI mc g ws k n (MQ (mB mc) (QI g post) (mA mc) (mS mc) k n (gA g)) pc lv [] :=
  fun H locs _ hP hD hS _ => W.vret hC.1 hC.2.1 hC.2.2.2.2.2.2.2.2.2.2 (fun _ ht _ => ⟨⟨ws, rfl, hp, by rw [ht]; exact hP, hD⟩, hS.F ht⟩) hS.2.2 hd hC.2.2.2.2.2.1
theorem WI_mk (hC : Kx mc g cc own nL ret) {H : Heap} {locs : List Loc} (hP : va_P (gD g) vwCl ws H) (hD : va_D (gA g) ws) (hS : va_S (gA g) (mS mc).heap H locs) {U : State} (hU : U.heap = H) (hW : (mS mc).WarmedH U.vm) : WI g ws U := by
  obtain ⟨-, -, -, -, -, -, hK, hN, hT, h0, -⟩ := hC
  subst hU
  exact ⟨Nat.le_trans h0 hS.1, hP, hD, va_K.moved hW.alike hK, nw_warm hW hN, va_AO.moved hW.alike hT⟩
theorem i_run {st0 rest : List Value} {a : Array Value} {post : va_W → Prop} {k2 n2 : Nat}
    (hr : ∀ (H : Heap) (locs : List Loc) (ls : Array Slot), va_P (gD g) vwCl ws H → va_D (gA g) ws → va_S (gA g) (mS mc).heap H locs → lv_has ls (mC mc).maxLocals lv → va_Run (mP mc) (mL mc) (mE mc) (mR mc) (mS mc) (mM mc) (mA mc) (mB mc) (mH mc) (mC mc) H locs k n k2 n2 (F0 (mM mc) pc ls st0) rest (QI g post a) (gA g))
    (kk : ∀ ws2, post ws2 → JI mc g ws2 (k + k2) (n + n2) Q (pc + 3) lv rest) : JI mc g ws k n Q pc lv st0 := by
  intro H locs ls hP hD hS hl T hT X
  obtain ⟨v, st₀, t, T', L, h0, X', hL, e1, e2, ⟨⟨ws2, hv, hp, hB, hD2⟩, hF⟩, stp⟩ := hr H locs ls hP hD hS hl T hT X
  cases hv
  have hB1 : va_P (gD g) vwCl ws2 T'.heap := by rw [e1]; exact hB
  have hS1 := (vx_keep h0 e1 hS (fun q _ h => h) (fun q h => h) hL hF).2.2
  obtain ⟨t2, a1, b1⟩ := kk ws2 hp T'.heap (locs ++ L) ls hB1 hD2 hS1 hl T' rfl X'
  exact ⟨t2, stp t2 a1, b1⟩
theorem i_callI (hC : Kx mc g cc own nL ret) {fr lo K N : Nat} (hR : mR mc = rmJ fr lo K N) {y : MethodName} {b2 : ByteArray} {nL2 fr2 lo2 k2 n2 ar index b : Nat} {As st0 : List Value} {post : va_W → Prop}
    (hM : CI (mL mc) y b2 nL2 fr2 lo2 k2 n2 g (.ref b :: As) ws post) (rest : List Value) (hst : st0 = As.reverse ++ .ref b :: rest) (hmh : okC y.cls) (hpar : (parseMethodDescriptor y.desc).map (fun d => d.parameters.length) = some ar) (har : As.length = ar) (hnm : y.name = "<init>")
    (hlink : Cond.methodLink own index y ∈ wsA) (hinst : Cond.instanceMethod y ∈ wsA) (hini : Cond.initialized y.cls ∈ wsA) (hcode : Cond.code y b2 nL2 none ∈ wsA) (hroom : (fr2 + 1 ≤ fr ∧ 8 + (nL2 + 11) + lo2 ≤ lo) ∧ k + k2 ≤ K ∧ n + n2 ≤ N) (hsum : (rest.map fun v => v.category).sum ≤ 8) (hd : decode cc pc = .ok (.invokespecial index, 3))
    (kk : ∀ ws2, post ws2 → JI mc g ws2 (k + k2) (n + n2) Q (pc + 3) lv rest) : JI mc g ws k n Q pc lv st0 := by
  subst hst
  exact i_run (fun H locs ls hP hD hS hl => va_runI (ws := .code y b2 nL2 none :: wsA) (rm := rmJ fr2 lo2 k2 n2) (n := ar) (index := index) (own := own) ⟨hC.1, hC.2.1, hC.2.2.1, hC.2.2.2.1, hC.2.2.2.2.1⟩ hM ⟨callB_of ar hC.2.2.2.2.1 (goodA (fun w h => (List.mem_cons.mp h).elim (fun e => e ▸ hcode) id)) rfl rfl rfl (hC.2.2.2.2.1 _ hini) (hC.2.2.2.2.1 _ hlink) ⟨hmh.1, hmh.2, hpar⟩ (by rw [hR]; exact hroom.1), hnm, hC.2.2.2.2.1 _ hinst⟩ ⟨WI_blind _, fun U hU hW => ⟨rfl, WI_mk hC hP hD hS hU hW⟩⟩ rfl har (hl.1.trans hC.2.2.1) rfl (lv_room hsum) hd (by rw [hR]; exact hroom.2)) kk
theorem i_callIN (hC : Kx mc g cc own nL ret) {fr lo K N : Nat} (hR : mR mc = rmJ fr lo K N) {y : MethodName} {host : String} {b2 : ByteArray} {nL2 fr2 lo2 k2 n2 ar index b : Nat} {As st0 : List Value} {post : va_W → Prop}
    (hM : CI (mL mc) y b2 nL2 fr2 lo2 k2 n2 g (.ref b :: As) ws post) (rest : List Value) (hst : st0 = As.reverse ++ .ref b :: rest) (hmh : okC y.cls) (hpar : (parseMethodDescriptor y.desc).map (fun d => d.parameters.length) = some ar) (har : As.length = ar) (hnm : y.name = "<init>")
    (hlink : Cond.methodLinkNest own index y host ∈ nwA) (hinst : Cond.instanceMethod y ∈ wsA) (hini : Cond.initialized y.cls ∈ wsA) (hcode : Cond.code y b2 nL2 none ∈ wsA) (hroom : (fr2 + 1 ≤ fr ∧ 8 + (nL2 + 11) + lo2 ≤ lo) ∧ k + k2 ≤ K ∧ n + n2 ≤ N) (hsum : (rest.map fun v => v.category).sum ≤ 8) (hd : decode cc pc = .ok (.invokespecial index, 3))
    (kk : ∀ ws2, post ws2 → JI mc g ws2 (k + k2) (n + n2) Q (pc + 3) lv rest) : JI mc g ws k n Q pc lv st0 := by
  subst hst
  exact i_run (fun H locs ls hP hD hS hl => va_runIN (ws := .code y b2 nL2 none :: wsA) (rm := rmJ fr2 lo2 k2 n2) (n := ar) (index := index) (own := own) ⟨hC.1, hC.2.1, hC.2.2.1, hC.2.2.2.1, hC.2.2.2.2.1⟩ hM ⟨va_cnB ar hC.2.2.2.2.1 (goodA (fun w h => (List.mem_cons.mp h).elim (fun e => e ▸ hcode) id)) rfl rfl rfl (hC.2.2.2.2.2.2.2.1 _ hlink) (hC.2.2.2.2.1 _ hini) ⟨hmh.1, hmh.2, hpar⟩ (by rw [hR]; exact hroom.1), hnm, hC.2.2.2.2.1 _ hinst⟩ ⟨WI_blind _, fun U hU hW => ⟨rfl, WI_mk hC hP hD hS hU hW⟩⟩ rfl har (hl.1.trans hC.2.2.1) rfl (lv_room hsum) hd (by rw [hR]; exact hroom.2)) kk
end JI
