/-! THE CLAIM OUT OF ONE WALK OF THE LAW'S BODY. Your part is whole_start (and what it stands on); all else here is the same for every law, but numbers. -/
def R_law : String := "SignMasonsLaw"
def lw_P (b : Addr) (xs : List Int32) (args : Array Value) (s : State) : Prop := args = #[.ref b] ∧ s.IntsAt b xs ∧ xs.length ≤ 260 ∧ (Jvm.Cond.and given_1 narrow_1).before args s = true
/-- what a walk over the start with the record d0 says of its end, said of the start itself -/
theorem lw_closed {s t : State} {o : Outcome} {d0 : Drawn} {L : List Loc} {k n : Nat} (hd0 : s.drawn.sameBut d0 lw_cs) (hv : ∃ v, o = .returned v) (hW : (s.setDrawn d0).WarmedH t.vm) (hs : (s.setDrawn d0).sameButNew ({ t with vm := s.vm } : State) L k n) : State.butDraws s t lw_cs (fun t1 => Framed s o t1 L k n) := by
  have h2 : t.drawn = d0 := congrArg State.drawn hs.1
  refine ⟨⟨hv, hW, State.sameButNew.setDrawn hs s.drawn⟩, ?_, by decide⟩
  rw [h2]
  exact hd0
def lw_Q (_ : Array Value) (s : State) (o : Outcome) (t : State) : Prop := o = .returned (some (.int 1)) ∧ State.butDraws s t lw_cs (fun t1 => Framed s o t1 [] 600074 7301550)
def lw_Z (below : List Frame) (a : Array Value) (s : State) : State → Prop := fun t => ∃ o, t.status = .running ∧ Ended t below o ∧ lw_Q a s o t
/-- the law's own end, with 1 on the stack, nothing written that was there before, its room as the claim has it; d0: the record of draws at this point (at the entry s.drawn: begin with 'refine W.base ?_' and 'have hd0 := Drawn.sameBut.refl s.drawn lw_cs') -/
theorem lw_ret {p : Program} {l : Launch} {e : Env} {s : State} {m : MethodId} {below : List Frame} {meth : Method} {c : Code} {b : Nat} {d0 : Drawn} (hd0 : s.drawn.sameBut d0 lw_cs) (hx : p.tables.exec = Jvm.exec) (hb : c.code = code) (hr : meth.sig.returnType = ret) (hlocks : meth.locks = false) {pc : Nat} {H : Heap} {ls : Array Slot} (hdg : decode code pc = .ok (.ireturn, 1)) : W p l e room_1 (s.setDrawn d0) m #[Value.ref b] below meth c H [] 600074 7301550 (lw_Z below #[Value.ref b] s) (F0 m pc ls [.int 1]) := by
  intro T hT X
  obtain ⟨fs, hret, hrun, hended, hW, hframe⟩ := X.leave (v := some (.int 1)) (hlocks := hlocks) (fun h => by rw [hr] at h; cases h)
  have hmeth' : T.vm.method? m = some meth := X.method'
  refine ⟨T.setFrames fs, ?_, .returned (some (.int 1)), hrun, hended, rfl, lw_closed hd0 ⟨_, rfl⟩ hW hframe⟩
  jvm_step X.here [X.here.top, hx, hb, hdg, hmeth', hr, ret, narrow_b1]
  (try refine ⟨rfl, ?_⟩); (try refine ⟨rfl, ?_⟩)
  first | (intro acts; rw [hret _ acts rfl rfl rfl]) | rw [hret _ _ rfl rfl rfl]
  exact Steps.refl _
/-- what holds at the law's entry: the machine, the code, the tables' words (any of lw_tbl by 'hts w (by decide +kernel)'), the script of L ints xs at the cell b, what the Statement gives of the start (any of its parts by flat_of_before) -/
def lw_At (p : Program) (s : State) (m : MethodId) (meth : Method) (c : Code) (b L : Nat) (xs : Nat → Int32) : Prop :=
  p.tables.exec = Jvm.exec ∧ c.code = code ∧ meth.sig.returnType = ret ∧ c.maxLocals = 15 ∧ s.vm.findClass R_law = some m.cls ∧ (∀ w ∈ lw_tbl, w.before #[Value.ref b] s = true) ∧ va_X b L xs s s.heap ∧ b < s.heap.size ∧ meth.locks = false ∧ (Jvm.Cond.and given_1 narrow_1).before #[Value.ref b] s = true
set_option maxHeartbeats 4000000 in
set_option maxRecDepth 100000 in
theorem law_all {p : Program} {l : Launch} {e : Env} {s : State} {m : MethodId} {below : List Frame} {meth : Method} {c : Code} {b L : Nat} {xs : Nat → Int32} {D : va_G} {cI cZ cB cY cU cV : ClassId} (hst : l.stackTraces = false) (hd0 : s.drawn.sameBut s.drawn lw_cs) (hL : L ≤ 260) (hx : p.tables.exec = Jvm.exec) (hb : c.code = code) (hr : meth.sig.returnType = ret) (hml : c.maxLocals = 15) (hown : s.vm.findClass R_law = some m.cls) (hA : ∀ w ∈ wsA, w.before #[Value.ref b] s = true) (hlocks : meth.locks = false) (hK : va_K D vwCl [(cI, .int), (cZ, .boolean), (cB, .object "SignMasons$Book"), (cY, .array .int), (cU, .array (.array .int)), (cV, .array .boolean)] s) (hN : ∀ w ∈ nwA, va_Nw w s) (hTH : TH ((fun _ => 0, D, (cI, cZ, cB, cY, cU, cV), s.heap.size, [], b, L, xs) : GG) s s.heap) : W p l e room_1 (s.setDrawn s.drawn) m #[Value.ref b] below meth c s.heap [] 0 0 (lw_Z below #[Value.ref b] s) (entryFrame m ([Value.ref b] : List Value).toArray 15) := by
  obtain ⟨mc, hmc⟩ : ∃ mc : MC, mc = (p, l, e, room_1, s.setDrawn s.drawn, m, #[Value.ref b], below, meth, c) := ⟨_, rfl⟩
  obtain ⟨g, hg⟩ : ∃ g : GG, g = ((fun _ => 0, D, (cI, cZ, cB, cY, cU, cV), s.heap.size, [], b, L, xs) : GG) := ⟨_, rfl⟩
  have hC : Kx mc g cL_law RL 15 (some .boolean) := by
    subst hmc hg
    exact ⟨hx, hb, hml, hown, dr_words hA _, hlocks, hK, hN, hTH.1, Nat.le_refl _, hr⟩
  have hR : mR mc = rmJ 12 466 600074 7301550 := by subst hmc; rfl
  have key : JI mc g ([] : va_W) 0 0 (lw_Z below #[Value.ref b] s) 0 [(0, .ref b)] [] := by
    refine i_new (ci := 2) (fs := [.null, .null, .null, vI 0]) hC hR inX3 tyX3_ok wd14 wd15 wd1 rfl frX3 (by decide) dL_law_0 (fun q1 => ?_)
    refine i_dup hC dL_law_3 rfl ?_
    refine i_ws (ws2 := (([] : va_W) ++ ([] : va_W)) ++ ([(q1, .inr (2, [.null, .null, .null, vI 0]))] : va_W)) (List.append_assoc ([] : va_W) ([] : va_W) ([(q1, .inr (2, [.null, .null, .null, vI 0]))] : va_W)).symm ?_
    refine i_callI (ar := 0) hC hR (c_X3_init (mL mc) g (([] : va_W) ++ ([] : va_W)) q1) [.ref q1] rfl (by decide) (by decide +kernel) rfl rfl wd16 wd17 wd1 wd18 (by decide) (Nat.le_of_ble_eq_true rfl) dL_law_4 ?_
    rintro ws2 ⟨q2, q3, q4, q5, q6, q7, q8, q9, q10, q11, q12, q13, q14, q15, q16, q17, q18, q19, rfl⟩
    refine i_ws (ws2 := ([] : va_W) ++ [(q1, .inr (2, [.ref q2, .ref q4, .ref q17, vI 0])), (q2, .inr (1, [.ref q3, vI 9])), (q3, ri g g9 9), (q4, .inl (gB g, 4, .inr (.inr (.inr (.inr (va_up (va_up (va_up (va_up (fun _ => none) 0 (some q5)) 1 (some q8)) 2 (some q11)) 3 (some q14))))))), (q5, .inr (0, [.ref q2, .ref q6, .ref q7, vI 0])), (q6, ri g (fun _ => 0) 16), (q7, ri g (fun _ => 0) 16), (q8, .inr (0, [.ref q2, .ref q9, .ref q10, vI 0])), (q9, ri g (fun _ => 0) 16), (q10, ri g (fun _ => 0) 16), (q11, .inr (0, [.ref q2, .ref q12, .ref q13, vI 0])), (q12, ri g (fun _ => 0) 16), (q13, ri g (fun _ => 0) 16), (q14, .inr (0, [.ref q2, .ref q15, .ref q16, vI 0])), (q15, ri g (fun _ => 0) 16), (q16, ri g (fun _ => 0) 16), (q17, .inr (0, [.ref q2, .ref q18, .ref q19, vI 0])), (q18, ri g (fun _ => 0) 16), (q19, ri g (fun _ => 0) 16)]) (List.append_assoc ([] : va_W) ([] : va_W) ([(q1, .inr (2, [.ref q2, .ref q4, .ref q17, vI 0])), (q2, .inr (1, [.ref q3, vI 9])), (q3, ri g g9 9), (q4, .inl (gB g, 4, .inr (.inr (.inr (.inr (va_up (va_up (va_up (va_up (fun _ => none) 0 (some q5)) 1 (some q8)) 2 (some q11)) 3 (some q14))))))), (q5, .inr (0, [.ref q2, .ref q6, .ref q7, vI 0])), (q6, ri g (fun _ => 0) 16), (q7, ri g (fun _ => 0) 16), (q8, .inr (0, [.ref q2, .ref q9, .ref q10, vI 0])), (q9, ri g (fun _ => 0) 16), (q10, ri g (fun _ => 0) 16), (q11, .inr (0, [.ref q2, .ref q12, .ref q13, vI 0])), (q12, ri g (fun _ => 0) 16), (q13, ri g (fun _ => 0) 16), (q14, .inr (0, [.ref q2, .ref q15, .ref q16, vI 0])), (q15, ri g (fun _ => 0) 16), (q16, ri g (fun _ => 0) 16), (q17, .inr (0, [.ref q2, .ref q18, .ref q19, vI 0])), (q18, ri g (fun _ => 0) 16), (q19, ri g (fun _ => 0) 16)] : va_W)) ?_
    refine i_astore_n hC dL_law_7 [(1, .ref q1), (0, .ref b)] (by decide) rfl ?_
    intro H locs ls hP hD hS hl
    have hP1 := hP.sub (ws' := [(q1, .inr (2, [.ref q2, .ref q4, .ref q17, vI 0])), (q2, .inr (1, [.ref q3, vI 9])), (q3, ri g g9 9), (q4, .inl (gB g, 4, .inr (.inr (.inr (.inr (va_up (va_up (va_up (va_up (fun _ => none) 0 (some q5)) 1 (some q8)) 2 (some q11)) 3 (some q14))))))), (q5, .inr (0, [.ref q2, .ref q6, .ref q7, vI 0])), (q8, .inr (0, [.ref q2, .ref q9, .ref q10, vI 0])), (q11, .inr (0, [.ref q2, .ref q12, .ref q13, vI 0])), (q14, .inr (0, [.ref q2, .ref q15, .ref q16, vI 0])), (q17, .inr (0, [.ref q2, .ref q18, .ref q19, vI 0])), (q6, ri g (fun _ => 0) 16), (q9, ri g (fun _ => 0) 16), (q12, ri g (fun _ => 0) 16), (q15, ri g (fun _ => 0) 16), (q18, ri g (fun _ => 0) 16), (q7, ri g (fun _ => 0) 16), (q10, ri g (fun _ => 0) 16), (q13, ri g (fun _ => 0) 16), (q16, ri g (fun _ => 0) 16), (q19, ri g (fun _ => 0) 16)]) [0, 1, 2, 3, 4, 7, 10, 13, 16, 5, 8, 11, 14, 17, 6, 9, 12, 15, 18] rfl
    have hD1 := hD.sub (ws' := [(q1, .inr (2, [.ref q2, .ref q4, .ref q17, vI 0])), (q2, .inr (1, [.ref q3, vI 9])), (q3, ri g g9 9), (q4, .inl (gB g, 4, .inr (.inr (.inr (.inr (va_up (va_up (va_up (va_up (fun _ => none) 0 (some q5)) 1 (some q8)) 2 (some q11)) 3 (some q14))))))), (q5, .inr (0, [.ref q2, .ref q6, .ref q7, vI 0])), (q8, .inr (0, [.ref q2, .ref q9, .ref q10, vI 0])), (q11, .inr (0, [.ref q2, .ref q12, .ref q13, vI 0])), (q14, .inr (0, [.ref q2, .ref q15, .ref q16, vI 0])), (q17, .inr (0, [.ref q2, .ref q18, .ref q19, vI 0])), (q6, ri g (fun _ => 0) 16), (q9, ri g (fun _ => 0) 16), (q12, ri g (fun _ => 0) 16), (q15, ri g (fun _ => 0) 16), (q18, ri g (fun _ => 0) 16), (q7, ri g (fun _ => 0) 16), (q10, ri g (fun _ => 0) 16), (q13, ri g (fun _ => 0) 16), (q16, ri g (fun _ => 0) 16), (q19, ri g (fun _ => 0) 16)]) [0, 1, 2, 3, 4, 7, 10, 13, 16, 5, 8, 11, 14, 17, 6, 9, 12, 15, 18] (by decide) rfl
    obtain ⟨g2, hg2⟩ : ∃ g2 : GG, g2 = (((fun i => ([q1, q2, q3, q4, q5, q8, q11, q14, q17, q6, q9, q12, q15, q18, q7, q10, q13, q16, q19] : List Nat).getD i 0), D, (cI, cZ, cB, cY, cU, cV), s.heap.size, [], b, L, xs) : GG) := ⟨_, rfl⟩
    have hP2 : va_P (gD g2) vwCl (hw (gx g2 []) s0) H := by
      subst hg hg2
      have hq := va_P_set hP1 3 (a := q4) (e := .inl (cB, 4, .inr (.inr (.inr (.inr (fun j : Nat => some (([q1, q2, q3, q4, q5, q8, q11, q14, q17, q6, q9, q12, q15, q18, q7, q10, q13, q16, q19] : List Nat).getD (4 + j) 0))))))) ?_
      · exact hq
      · have h := hP1 3 _ rfl
        refine Eq.trans h (congrArg some ?_)
        show arrV cB 4 (fun j => va_rf ((va_up (va_up (va_up (va_up (fun _ => none) 0 (some q5)) 1 (some q8)) 2 (some q11)) 3 (some q14)) j)) = arrV cB 4 (fun j => va_rf (some (([q1, q2, q3, q4, q5, q8, q11, q14, q17, q6, q9, q12, q15, q18, q7, q10, q13, q16, q19] : List Nat).getD (4 + j) 0)))
        refine arrV_ext _ _ _ _ (fun j hj => ?_)
        rcases (show j = 0 ∨ j = 1 ∨ j = 2 ∨ j = 3 by omega) with rfl | rfl | rfl | rfl <;> rfl
    have hD2 : ∀ τ, va_D (gA g2) (hw (gx g2 []) τ) := fun τ => by
      subst hg hg2
      refine va_D_ad ?_ hD1
      rfl
    have hC2 : Cx mc (gx g2 []) cL_law RL 15 (some .boolean) := by
      subst hmc hg hg2
      exact ⟨hx, hb, hml, hown, dr_words hA _, hlocks, hK, hN, hTH, hD2, Nat.le_refl _, hst, hr⟩
    have hS2 : va_S (gA g2) (mS mc).heap H locs := by subst hg hg2; exact hS
    have hgn : gn g2 ≤ 260 := by subst hg2; exact hL
    have hlv : lv_has ls (mC mc).maxLocals [(1, .ref (gd g2 (0))), (0, .ref (gb g2))] := by
      subst hg2
      exact lv_sub hl [0, 1] rfl
    refine law_main (X := []) hR hC2 hgn Iv_0 rfl hG_0 ?_ _ _ (by decide) (by decide) H locs ls hP2 hS2 hlv
    intro X σ H locs ls hP hS hl
    subst hmc hg2
    refine va_forget (fun q hq => hS.2.2 q hq) ?_
    exact lw_ret hd0 hx hb hr hlocks dL_law_896
  have hl := lv_entry ([.ref b]) (n := 15) (Nat.le_of_ble_eq_true rfl)
  rw [lg_entry_eq]
  subst hmc hg
  exact key s.heap [] _ (fun k q h => by simp at h) ⟨fun i j p q h => by simp at h, fun k q h => by simp at h⟩ va_S.rf (by show lv_has _ c.maxLocals _; rw [hml]; exact hl)
set_option maxHeartbeats 4000000 in
set_option maxRecDepth 100000 in
theorem whole_start {p : Program} {e : Env} {s : State} {m : MethodId} {below : List Frame} {meth : Method} {c : Code} (l : Launch) (hflags : l.flags = flags0) {b L : Nat} {xs : Nat → Int32} (hL : L ≤ 260) (C0 : lw_At p s m meth c b L xs) : W p l e room_1 s m #[Value.ref b] below meth c s.heap [] 0 0 (lw_Z below #[Value.ref b] s) (entryFrame m ([Value.ref b] : List Value).toArray 15) := by
  obtain ⟨hx, hb, hr, hml, hown, hts, hX, hbl, hlocks, hgv⟩ := id C0
  have hst : l.stackTraces = false := by
    unfold Launch.stackTraces
    rw [hflags]
    decide
  have hA : ∀ w ∈ wsA, w.before #[Value.ref b] s = true := fun w hw => hts w (List.mem_filter.mp hw).1
  obtain ⟨c0, i0, hK0⟩ := u_known (C := RX0) (T := TX0) (N := 4) (n := 4) hA inX0 (hA _ wd39)
  obtain ⟨c1, i1, hK1⟩ := u_known (C := RX2) (T := TX2) (N := 2) (n := 2) hA inX2 (hA _ wd23)
  obtain ⟨c2, i2, hK2⟩ := u_known (C := RX3) (T := TX3) (N := 4) (n := 4) hA inX3 (hA _ wd15)
  obtain ⟨c3, i3, hK3⟩ := u_known (C := RX4) (T := TX4) (N := 2) (n := 2) hA inX4 (hA _ wd525)
  obtain ⟨cI, kI, pI, h1I, h2I, h3I⟩ := Cond.arrayClass_spec (hA _ wd36)
  obtain ⟨cZ, kZ, pZ, h1Z, h2Z, h3Z⟩ := Cond.arrayClass_spec (hA _ wd337)
  have hT : ∀ (i : Nat) (w : Cond), tables_1[i]? = some w → w.before #[Value.ref b] s = true := fun i w h => hts w (List.mem_append_right _ (List.mem_of_getElem? h))
  have hao : (Cond.arrayOver (.object "SignMasons$Book")).before #[Value.ref b] s = true := hT 38 _ (by decide +kernel)
  have haY : va_AOA .int s := va_AOA.of (hT 419 _ (by decide +kernel))
  have haU : va_AOA (.array .int) s := va_AOA.of (hT 417 _ (by decide +kernel))
  have haV : va_AOA .boolean s := va_AOA.of (hT 336 _ (by decide +kernel))
  have hAO : va_AO "SignMasons$Book" s := va_AO.of hao
  obtain ⟨pB, cB, kB, h1B, -, h2B, h3B, h4B⟩ := Cond.arrayOver_spec hao
  obtain ⟨pY, cY, kY, h1Y, -, h2Y, h3Y, h4Y⟩ := arrayOverA_spec haY
  obtain ⟨pU, cU, kU, h1U, -, h2U, h3U, h4U⟩ := arrayOverA_spec haU
  obtain ⟨pV, cV, kV, h1V, -, h2V, h3V, h4V⟩ := arrayOverA_spec haV
  obtain ⟨D, hDK⟩ : ∃ D : va_G, ∀ (k : Nat) (q : vw_C), vwCl[k]? = some q → u_Kn s q.1 q.2.1 q.2.2 (D.1 k) (D.2 k) := by
    refine ⟨(fun k => if k = 0 then c0 else if k = 1 then c1 else if k = 2 then c2 else c3, fun k => if k = 0 then i0 else if k = 1 then i1 else if k = 2 then i2 else i3), ?_⟩
    intro k q hq
    match k, hq with
    | 0, hq => cases hq; exact hK0
    | 1, hq => cases hq; exact hK1
    | 2, hq => cases hq; exact hK2
    | 3, hq => cases hq; exact hK3
    | k + 4, hq => simp [vwCl] at hq
  have hK : va_K D vwCl [(cI, .int), (cZ, .boolean), (cB, .object "SignMasons$Book"), (cY, .array .int), (cU, .array (.array .int)), (cV, .array .boolean)] s := by
    refine ⟨hDK, fun k q hq => ?_⟩
    match k, hq with
    | 0, hq => cases hq; exact ⟨fun n z => ⟨fun k h => (by cases h), kI, h2I, pI, h3I⟩, h1I⟩
    | 1, hq => cases hq; exact ⟨fun n z => ⟨fun k h => (by cases h), kZ, h2Z, pZ, h3Z⟩, h1Z⟩
    | 2, hq => cases hq; exact ⟨fun n z => ⟨fun k h => (by cases h), kB, h2B, pB, h3B⟩, kB, pB, h2B, h3B, h1B, h4B⟩
    | 3, hq => cases hq; exact ⟨fun n z => ⟨fun k h => (by cases h), kY, h2Y, pY, h3Y⟩, h4Y⟩
    | 4, hq => cases hq; exact ⟨fun n z => ⟨fun k h => (by cases h), kU, h2U, pU, h3U⟩, h4U⟩
    | 5, hq => cases hq; exact ⟨fun n z => ⟨fun k h => (by cases h), kV, h2V, pV, h3V⟩, h4V⟩
    | k + 6, hq => simp at hq
  have hN : ∀ w ∈ nwA, va_Nw w s := fun w hw => va_Nw.of (nest_on (List.mem_filter.mp hw).2) (hts w (List.mem_append_right _ (List.mem_filter.mp hw).1))
  have hTH : TH ((fun _ => 0, D, (cI, cZ, cB, cY, cU, cV), s.heap.size, [], b, L, xs) : GG) s s.heap := ⟨hAO, haY, haU, haV, hbl, hX⟩
  refine W.base ?_
  have hd0 := Drawn.sameBut.refl s.drawn lw_cs
  exact law_all hst hd0 hL hx hb hr hml hown hA hlocks hK hN hTH
set_option maxHeartbeats 4000000 in
theorem lw_walk (l : Launch) (hflags : l.flags = flags0) (b : Addr) (xs : List Int32) : MetFree l x (headSpec (Jvm.Cond.code x code maxLocals ret :: tables_1) room_1) (lw_P b xs) (fun _ _ _ _ _ => True) lw_Q := by
  refine MetFree.of_bodyS (code := code) (maxLocals := maxLocals) (ret := ret) (by decide) ?_ ?_
  · intro args s m h hn
    obtain ⟨meth, c, h1, h2, h3, h4, h5, h6, -, -⟩ := Cond.code_spec hn (atoms_spec (ws := Jvm.Cond.code x code maxLocals ret :: tables_1) h _ List.mem_cons_self)
    exact ⟨meth, c, h1, h2, h3, h4, h5, h6⟩
  · intro p e s m args below meth c s₁ B hml0 hP _
    obtain ⟨rfl, hx, hbd, hgv⟩ := hP
    obtain ⟨scr, harrAt, hlist, hof, hsmall⟩ := hx
    obtain ⟨hcb, hkn, -, -⟩ := State.arrayAt?_spec harrAt
    have hown : s.vm.findClass R_law = some m.cls := findClass_of_methodNamed B.named
    have hts0 : ∀ c ∈ (Jvm.Cond.code x code maxLocals ret :: tables_1), c.before #[Value.ref b] s = true := atoms_spec (ws := Jvm.Cond.code x code maxLocals ret :: tables_1) B.pre
    have hts : ∀ w ∈ lw_tbl, w.before #[Value.ref b] s = true := k2_hts_sels lw_privs (fun w hw => hts0 w (List.mem_cons_of_mem _ hw)) lw_privs_ok
    have hml : c.maxLocals = 15 := B.maxLocals_eq (hts0 _ List.mem_cons_self)
    have X₀ : Stand p l e room_1 s m #[Value.ref b] below meth c s₁ [] 0 0 := Stand.of_body B
    have hh0 : s₁.heap = s.heap := by rw [B.state]; rfl
    have hsz : scr.slots.size = xs.length := by rw [← Array.length_toList, hlist, List.length_map]
    have hval : ∀ j : Nat, j < xs.length → scr.slots[j]? = some (.int (xs.getD j 0)) := fun j hj => by
      rw [← Array.getElem?_toList, hlist]
      simp [hj]
    have hbl : b < s.heap.size := (Array.getElem?_eq_some_iff.mp hcb).1
    have hX : va_X b xs.length (fun j => xs.getD j 0) s s.heap := ⟨scr, hcb, hof, hkn, hsz, hval⟩
    have K : W p l e room_1 s m #[Value.ref b] below meth c s₁.heap [] 0 0 (lw_Z below #[Value.ref b] s) (entryFrame m ([Value.ref b] : List Value).toArray 15) := by
      rw [hh0]
      exact whole_start l hflags hbd ⟨B.exec, B.bytes, B.returns, hml, hown, hts, hX, hbl, B.notSynchronized, hgv⟩
    obtain ⟨t, a1, o, b1, b2, b3⟩ := K s₁ rfl X₀
    exact ⟨t, o, a1, b1, b2, b3⟩
theorem lw_pre_spec {args : Array Value} {s : State} (h : (Jvm.Cond.and given_1 narrow_1).before args s = true) (hr : rest_1_c.before args s = true) : ∃ (b : Addr) (xs : List Int32), lw_P b xs args s := by
  have hs := flat_of_before _ h
  have hq := flat_of_before _ hr
  have hc : (Cond.count 1).before args s = true := hs _ (by decide +kernel)
  have harr : (Cond.arrayOf (.arg 0) .int).before args s = true := hs _ (by decide +kernel)
  have hle : (Cond.le (.length (.arg 0)) (.int 260)).before args s = true := hs _ (by decide +kernel)
  have hlen : (Cond.isInt (.length (.arg 0))).before args s = true := hq _ (by decide +kernel)
  have hall : (Cond.all (.arg 0) (.isInt (.elem (.arg 0) (.index 0)))).before args s = true := hq _ (by decide +kernel)
  obtain ⟨b, xs, hb, hx⟩ := State.ints_of_pre rfl harr hlen hall
  have hsm : xs.length < 2 ^ 31 := hx.choose_spec.2.2.2
  have hev : (Term.length (.arg 0)).eval args s none [] s = some (.int xs.length.toInt32) := hx.length_eval hb
  have hv := Cond.le_ints hev (show (Term.int 260).eval args s none [] s = some (.int 260) from rfl)
  have hd : xs.length.toInt32 ≤ 260 := by
    simpa [Cond.before, Cond.holds, hv] using hle
  have hN : xs.length ≤ 260 := (Int32.ofNat_le_ofNat hsm (by decide)).mp (show Int32.ofNat xs.length ≤ Int32.ofNat 260 from hd)
  exact ⟨b, xs, Cond.one_arg hc (show args[0]? = some (.ref b) from hb), hx, hN, h⟩
theorem lw_comes (l : Launch) (hflags : l.flags = flags0) : Comes l x (Jvm.Cond.code x code maxLocals ret :: tables_1) room_1 (fun tb e args s => Calls_1 tb e args s ∧ rest_1 tb e args s ∧ Pre_1 tb e args s)
    (fun _ _ args s o t => lw_Q args s o t) := by
  intro p e ha hc hk s m args below hf hfit hheap happ hpre
  obtain ⟨b, xs, hP⟩ := lw_pre_spec hpre.2.2 hpre.2.1
  obtain ⟨k, o, h1, h2, h3, hQ⟩ := lw_walk l hflags b xs p e ha hc hk s m args below hf ((Spec.applies_iff_loose hf).mp happ).1 hP trivial
  exact ⟨k, o, h1, h2, h3, hQ⟩
theorem lw_frame {s t : State} {o : Outcome} {args : Array Value} (h : State.butDraws s t lw_cs (fun t1 => Framed s o t1 [] 600074 7301550)) :
    State.butDraws s t [Jvm.Choice.named "NaN.bits"] (fun t1 => Framed s o t1 (fieldLocs frame_1_writes args s ++ arrayLocs frame_1_arrays args s ++ staticLocs frame_1_statics s) 600074 7301550) := h
theorem lw_limb (L : Cond) (hL : ∀ (args : Array Value) (s t : State), L.after args s (.returned (some (.int 1))) t = true) :
    ArmFor flags0 classFile x code maxLocals ret World_1 tables_1 room_1 Calls_1 rest_1 Pre_1
      (fun tb e a s o t => postC L tb e a s o t ∧ State.butDraws s t [Jvm.Choice.named "NaN.bits"] (fun t1 => Framed s o t1 (fieldLocs frame_1_writes a s ++ arrayLocs frame_1_arrays a s ++ staticLocs frame_1_statics s) 600074 7301550)) := by
  intro l hflags _ _ p e ha hc hk s m args below hf hfit hheap happ hpre
  obtain ⟨k, o, h1, h2, h3, rfl, hF⟩ := lw_comes l hflags p e ha hc hk s m args below hf hfit hheap happ hpre
  exact ⟨k, _, h1, h2, h3, hL args s _, lw_frame hF⟩
theorem i_vc : Claimed_1_1 ∧ Claimed_1_2 := ⟨lw_limb limb_1_1 (fun args s t => by simp [limb_1_1, Cond.after, Cond.holds, Cond.value]), lw_limb limb_1_2 (fun args s t => Cond.after_iff.mpr (by
  first | (rw [show limb_1_2 = Cond.eq .result (.int 1) from rfl, Cond.eq_ints (x := 1) (y := 1) rfl rfl]; simp; done) | (simp [limb_1_2, Cond.value, Term.eval]; done)))⟩

