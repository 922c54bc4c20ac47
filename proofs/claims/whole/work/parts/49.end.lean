/-! the beginning -/
def s0 : Sg := (fun v => match v with | 1 => 9 | _ => 0, fun r => match r with | 0 => g9 | 17 => g9 | _ => fun _ => 0)
theorem g9_is {p : Int} (h0 : 0 ≤ p) (h1 : p < 9) : g9 p = p := by
  rcases (show p = 0 ∨ p = 1 ∨ p = 2 ∨ p = 3 ∨ p = 4 ∨ p = 5 ∨ p = 6 ∨ p = 7 ∨ p = 8 by omega) with rfl | rfl | rfl | rfl | rfl | rfl | rfl | rfl | rfl <;> decide
theorem s0_1 (v : Nat) (h : v ≠ 1) : s0.1 v = 0 := by
  show (match v with | 1 => (9 : Int) | _ => 0) = 0
  split
  · exact absurd rfl h
  · rfl
theorem s0_2 (r : Nat) (h : r ≠ 0) (h2 : r ≠ 17) (j : Int) : s0.2 r j = 0 := by
  show (match r with | 0 => g9 | 17 => g9 | _ => fun _ => (0 : Int)) j = 0
  split
  · exact absurd rfl h
  · exact absurd rfl h2
  · rfl
theorem RC_0 : RC s0 s0 := by
  have g0 : s0.2 0 = g9 := rfl
  have g17 : s0.2 17 = g9 := rfl
  refine ⟨⟨by decide, by decide, fun j j0 j1 => ?_, fun b hb => ?_, fun b hb j j0 j1 => ?_, fun b hb j j0 j1 => ?_⟩, ⟨by decide, by decide, fun j j0 j1 => ?_, fun j j0 j1 => ?_, fun j j0 j1 => ?_, fun j j0 j1 => ?_, fun j j0 j1 => ?_, fun j j0 j1 => ?_, fun j j0 j1 => ?_⟩, ⟨fun p q p0 p1 q0 q1 => ?_, fun p p0 p1 => ?_, ?_⟩, rfl, fun l hl => ⟨?_, fun z z0 z1 => ?_, fun y z y0 y1 => ?_⟩⟩
  · rw [g0, g9_is j0 j1]; omega
  · rw [s0_1 _ (by omega)]; omega
  · rw [s0_2 _ (by omega) (by omega)]; omega
  · rw [s0_2 _ (by omega) (by omega)]; omega
  · rw [s0_2 _ (by omega) (by omega)]; omega
  · rw [s0_2 _ (by omega) (by omega)]; omega
  · rw [s0_2 _ (by omega) (by omega)]; omega
  · rw [s0_2 _ (by omega) (by omega)]; omega
  · rw [s0_2 _ (by omega) (by omega)]; omega
  · rw [s0_2 _ (by omega) (by omega)]; omega
  · rw [g17, g9_is j0 j1]; omega
  · rw [g0, g17]
  · rw [g17, g9_is p0 p1, g9_is p0 p1]; omega
  · decide
  · rw [s0_1 _ (by omega), s0_2 _ (by omega) (by omega)]
  · rw [s0_2 _ (by omega) (by omega)] at z1; omega
  · rw [s0_2 _ (by omega) (by omega)] at y1; omega
theorem arrV_ext (cA : ClassId) (N : Nat) (f h : Nat → Value) (e : ∀ j, j < N → f j = h j) : arrV cA N f = arrV cA N h := by
  unfold arrV
  congr 1
  congr 1
  funext j
  exact e j.1 j.2
theorem va_P_set {D : va_G} {cl : List vw_C} {ws : va_W} {H : Heap} (h : va_P D cl ws H) (i : Nat) {a : Nat} {e : va_E} (he : va_at D cl (a, e) H) : va_P D cl (ws.set i (a, e)) H := by
  intro k q hk
  by_cases hki : i = k
  · subst hki
    by_cases hl : i < ws.length
    · rw [List.getElem?_set_self hl] at hk
      cases hk
      exact he
    · rw [List.getElem?_eq_none (by rw [List.length_set]; omega)] at hk
      cases hk
  · rw [List.getElem?_set_ne hki] at hk
    exact h k q hk
/-! THE CLAIM OUT OF ONE WALK OF THE LAW'S BODY. Your part is whole_start (and what it stands on); all else here is the same for every law, but numbers. -/
def R_law : String := "SignMasonsLaw"
def lw_P (b : Addr) (xs : List Int32) (args : Array Value) (s : State) : Prop := args = #[.ref b] ∧ s.IntsAt b xs ∧ xs.length ≤ 3584 ∧ (Jvm.Cond.and given_1 narrow_1).before args s = true
/-- what a walk over the start with the record d0 says of its end, said of the start itself -/
theorem lw_closed {s t : State} {o : Outcome} {d0 : Drawn} {L : List Loc} {k n : Nat} (hd0 : s.drawn.sameBut d0 lw_cs) (hv : ∃ v, o = .returned v) (hW : (s.setDrawn d0).WarmedH t.vm) (hs : (s.setDrawn d0).sameButNew ({ t with vm := s.vm } : State) L k n) : State.butDraws s t lw_cs (fun t1 => Framed s o t1 L k n) := by
  have h2 : t.drawn = d0 := congrArg State.drawn hs.1
  refine ⟨⟨hv, hW, State.sameButNew.setDrawn hs s.drawn⟩, ?_, by decide⟩
  rw [h2]
  exact hd0
def lw_Q (_ : Array Value) (s : State) (o : Outcome) (t : State) : Prop := o = .returned (some (.int 1)) ∧ State.butDraws s t lw_cs (fun t1 => Framed s o t1 [] 667605 7093289)
def lw_Z (below : List Frame) (a : Array Value) (s : State) : State → Prop := fun t => ∃ o, t.status = .running ∧ Ended t below o ∧ lw_Q a s o t
/-- the law's own end, with 1 on the stack, nothing written that was there before, its room as the claim has it; d0: the record of draws at this point (at the entry s.drawn: begin with 'refine W.base ?_' and 'have hd0 := Drawn.sameBut.refl s.drawn lw_cs') -/
theorem lw_ret {p : Program} {l : Launch} {e : Env} {s : State} {m : MethodId} {below : List Frame} {meth : Method} {c : Code} {b : Nat} {d0 : Drawn} (hd0 : s.drawn.sameBut d0 lw_cs) (hx : p.tables.exec = Jvm.exec) (hb : c.code = code) (hr : meth.sig.returnType = ret) (hlocks : meth.locks = false) {pc : Nat} {H : Heap} {ls : Array Slot} (hdg : decode code pc = .ok (.ireturn, 1)) : W p l e room_1 (s.setDrawn d0) m #[Value.ref b] below meth c H [] 667605 7093289 (lw_Z below #[Value.ref b] s) (F0 m pc ls [.int 1]) := by
  intro T hT X
  obtain ⟨fs, hret, hrun, hended, hW, hframe⟩ := X.leave (v := some (.int 1)) (hlocks := hlocks) (fun h => by rw [hr] at h; cases h)
  have hmeth' : T.vm.method? m = some meth := X.method'
  refine ⟨T.setFrames fs, ?_, .returned (some (.int 1)), hrun, hended, rfl, lw_closed hd0 ⟨_, rfl⟩ hW hframe⟩
  jvm_step X.here [X.here.top, hx, hb, hdg, hmeth', hr, ret, narrow_b1]
  (try refine ⟨rfl, ?_⟩); (try refine ⟨rfl, ?_⟩)
  first | (intro acts; rw [hret _ acts rfl rfl rfl]) | rw [hret _ _ rfl rfl rfl]
  exact Steps.refl _
/-- what holds at the law's entry: the machine, the code, the tables' words (any of lw_tbl by 'hts w (by decide +kernel)'), the script of L ints xs at the cell b, what the Statement gives of the start (any of its parts by flat_of_before) -/
def lw_At (p : Program) (s : State) (m : MethodId) (meth : Method) (c : Code) (b L : Nat) (xs : Nat → Int32) : Prop :=
  p.tables.exec = Jvm.exec ∧ c.code = code ∧ meth.sig.returnType = ret ∧ c.maxLocals = 9 ∧ s.vm.findClass R_law = some m.cls ∧ (∀ w ∈ lw_tbl, w.before #[Value.ref b] s = true) ∧ va_X b L xs s s.heap ∧ b < s.heap.size ∧ meth.locks = false ∧ (Jvm.Cond.and given_1 narrow_1).before #[Value.ref b] s = true
set_option maxHeartbeats 4000000 in
set_option maxRecDepth 100000 in
theorem law_all {p : Program} {l : Launch} {e : Env} {s : State} {m : MethodId} {below : List Frame} {meth : Method} {c : Code} {b L : Nat} {xs : Nat → Int32} {D : va_G} {cI cL cB : ClassId} (hst : l.stackTraces = false) (hd0 : s.drawn.sameBut s.drawn lw_cs) (hL : L ≤ 3584) (hx : p.tables.exec = Jvm.exec) (hb : c.code = code) (hr : meth.sig.returnType = ret) (hml : c.maxLocals = 9) (hown : s.vm.findClass R_law = some m.cls) (hA : ∀ w ∈ wsA, w.before #[Value.ref b] s = true) (hX0 : va_X b L xs s s.heap) (hbl0 : b < s.heap.size) (hlocks : meth.locks = false) (hK : va_K D vwCl [(cI, .int), (cL, .long), (cB, .object "SignMasons$Book")] s) (hN : ∀ w ∈ nwA, va_Nw w s) (hTH : TH ((fun _ => 0, D, (cI, cL, cB), s.heap.size, []) : GG) s s.heap) : W p l e room_1 (s.setDrawn s.drawn) m #[Value.ref b] below meth c s.heap [] 0 0 (lw_Z below #[Value.ref b] s) (entryFrame m ([Value.ref b] : List Value).toArray 9) := by
  obtain ⟨mc, hmc⟩ : ∃ mc : MC, mc = (p, l, e, room_1, s.setDrawn s.drawn, m, #[Value.ref b], below, meth, c) := ⟨_, rfl⟩
  obtain ⟨g, hg⟩ : ∃ g : GG, g = (fun _ => 0, D, (cI, cL, cB), s.heap.size, []) := ⟨_, rfl⟩
  have hC : Kx mc g cL_law RL 9 (some .boolean) := by
    subst hmc hg
    exact ⟨hx, hb, hml, hown, dr_words hA _, hlocks, hK, hN, hTH.2.2.2.2, Nat.le_refl _, hr⟩
  have hR : mR mc = rmJ 12 438 667605 7093289 := by subst hmc; rfl
  have key : JI mc g ([] : va_W) 0 0 (lw_Z below #[Value.ref b] s) 0 [(0, .ref b)] [] := by
    refine i_new (ci := 2) (fs := [.null, .null, .null, vI 0]) hC hR inX3 tyX3_ok wd15 wd16 wd1 rfl frX3 (by decide) dL_law_0 (fun q1 => ?_)
    refine i_dup hC dL_law_3 rfl ?_
    refine i_ws (ws2 := (([] : va_W) ++ ([] : va_W)) ++ ([(q1, .inr (2, [.null, .null, .null, vI 0]))] : va_W)) (List.append_assoc ([] : va_W) ([] : va_W) ([(q1, .inr (2, [.null, .null, .null, vI 0]))] : va_W)).symm ?_
    refine i_callI (ar := 0) hC hR (c_X3_init (mL mc) g (([] : va_W) ++ ([] : va_W)) q1) [.ref q1] rfl (by decide) (by decide +kernel) rfl rfl wd17 wd18 wd1 wd19 (by decide) (Nat.le_of_ble_eq_true rfl) dL_law_4 ?_
    rintro ws2 ⟨q2, q3, q4, q5, q6, q7, q8, q9, q10, q11, q12, q13, q14, q15, q16, q17, q18, q19, rfl⟩
    refine i_ws (ws2 := ([] : va_W) ++ [(q1, .inr (2, [.ref q2, .ref q4, .ref q17, vI 0])), (q2, .inr (1, [.ref q3, vI 9])), (q3, ri g g9 9), (q4, .inl (gB g, 4, .inr (.inr (.inr (.inr (va_up (va_up (va_up (va_up (fun _ => none) 0 (some q5)) 1 (some q8)) 2 (some q11)) 3 (some q14))))))), (q5, .inr (0, [.ref q2, .ref q6, .ref q7, vI 0])), (q6, ri g (fun _ => 0) 16), (q7, ri g (fun _ => 0) 16), (q8, .inr (0, [.ref q2, .ref q9, .ref q10, vI 0])), (q9, ri g (fun _ => 0) 16), (q10, ri g (fun _ => 0) 16), (q11, .inr (0, [.ref q2, .ref q12, .ref q13, vI 0])), (q12, ri g (fun _ => 0) 16), (q13, ri g (fun _ => 0) 16), (q14, .inr (0, [.ref q2, .ref q15, .ref q16, vI 0])), (q15, ri g (fun _ => 0) 16), (q16, ri g (fun _ => 0) 16), (q17, .inr (0, [.ref q2, .ref q18, .ref q19, vI 0])), (q18, ri g (fun _ => 0) 16), (q19, ri g (fun _ => 0) 16)]) (List.append_assoc ([] : va_W) ([] : va_W) ([(q1, .inr (2, [.ref q2, .ref q4, .ref q17, vI 0])), (q2, .inr (1, [.ref q3, vI 9])), (q3, ri g g9 9), (q4, .inl (gB g, 4, .inr (.inr (.inr (.inr (va_up (va_up (va_up (va_up (fun _ => none) 0 (some q5)) 1 (some q8)) 2 (some q11)) 3 (some q14))))))), (q5, .inr (0, [.ref q2, .ref q6, .ref q7, vI 0])), (q6, ri g (fun _ => 0) 16), (q7, ri g (fun _ => 0) 16), (q8, .inr (0, [.ref q2, .ref q9, .ref q10, vI 0])), (q9, ri g (fun _ => 0) 16), (q10, ri g (fun _ => 0) 16), (q11, .inr (0, [.ref q2, .ref q12, .ref q13, vI 0])), (q12, ri g (fun _ => 0) 16), (q13, ri g (fun _ => 0) 16), (q14, .inr (0, [.ref q2, .ref q15, .ref q16, vI 0])), (q15, ri g (fun _ => 0) 16), (q16, ri g (fun _ => 0) 16), (q17, .inr (0, [.ref q2, .ref q18, .ref q19, vI 0])), (q18, ri g (fun _ => 0) 16), (q19, ri g (fun _ => 0) 16)] : va_W)) ?_
    refine i_astore_n hC dL_law_7 [(1, .ref q1), (0, .ref b)] (by decide) rfl ?_
    refine i_new (ci := 3) (fs := [vI 0, vI 0, .null, .null, .null, .null, .null, .null, .null]) hC hR inX4 tyX4_ok wd576 wd577 wd4 rfl frX4 (by decide) dL_law_8 (fun q20 => ?_)
    refine i_ws (ws2 := ([] : va_W) ++ [(q1, .inr (2, [.ref q2, .ref q4, .ref q17, vI 0])), (q2, .inr (1, [.ref q3, vI 9])), (q3, ri g g9 9), (q4, .inl (gB g, 4, .inr (.inr (.inr (.inr (va_up (va_up (va_up (va_up (fun _ => none) 0 (some q5)) 1 (some q8)) 2 (some q11)) 3 (some q14))))))), (q5, .inr (0, [.ref q2, .ref q6, .ref q7, vI 0])), (q6, ri g (fun _ => 0) 16), (q7, ri g (fun _ => 0) 16), (q8, .inr (0, [.ref q2, .ref q9, .ref q10, vI 0])), (q9, ri g (fun _ => 0) 16), (q10, ri g (fun _ => 0) 16), (q11, .inr (0, [.ref q2, .ref q12, .ref q13, vI 0])), (q12, ri g (fun _ => 0) 16), (q13, ri g (fun _ => 0) 16), (q14, .inr (0, [.ref q2, .ref q15, .ref q16, vI 0])), (q15, ri g (fun _ => 0) 16), (q16, ri g (fun _ => 0) 16), (q17, .inr (0, [.ref q2, .ref q18, .ref q19, vI 0])), (q18, ri g (fun _ => 0) 16), (q19, ri g (fun _ => 0) 16), (q20, .inr (3, [vI 0, vI 0, .null, .null, .null, .null, .null, .null, .null]))]) (List.append_assoc ([] : va_W) [(q1, .inr (2, [.ref q2, .ref q4, .ref q17, vI 0])), (q2, .inr (1, [.ref q3, vI 9])), (q3, ri g g9 9), (q4, .inl (gB g, 4, .inr (.inr (.inr (.inr (va_up (va_up (va_up (va_up (fun _ => none) 0 (some q5)) 1 (some q8)) 2 (some q11)) 3 (some q14))))))), (q5, .inr (0, [.ref q2, .ref q6, .ref q7, vI 0])), (q6, ri g (fun _ => 0) 16), (q7, ri g (fun _ => 0) 16), (q8, .inr (0, [.ref q2, .ref q9, .ref q10, vI 0])), (q9, ri g (fun _ => 0) 16), (q10, ri g (fun _ => 0) 16), (q11, .inr (0, [.ref q2, .ref q12, .ref q13, vI 0])), (q12, ri g (fun _ => 0) 16), (q13, ri g (fun _ => 0) 16), (q14, .inr (0, [.ref q2, .ref q15, .ref q16, vI 0])), (q15, ri g (fun _ => 0) 16), (q16, ri g (fun _ => 0) 16), (q17, .inr (0, [.ref q2, .ref q18, .ref q19, vI 0])), (q18, ri g (fun _ => 0) 16), (q19, ri g (fun _ => 0) 16)] ([(q20, .inr (3, [vI 0, vI 0, .null, .null, .null, .null, .null, .null, .null]))] : va_W)) ?_
    refine i_dup hC dL_law_11 rfl ?_
    refine i_ws (ws2 := (([] : va_W) ++ ([(q1, .inr (2, [.ref q2, .ref q4, .ref q17, vI 0])), (q2, .inr (1, [.ref q3, vI 9])), (q3, ri g g9 9), (q4, .inl (gB g, 4, .inr (.inr (.inr (.inr (va_up (va_up (va_up (va_up (fun _ => none) 0 (some q5)) 1 (some q8)) 2 (some q11)) 3 (some q14))))))), (q5, .inr (0, [.ref q2, .ref q6, .ref q7, vI 0])), (q6, ri g (fun _ => 0) 16), (q7, ri g (fun _ => 0) 16), (q8, .inr (0, [.ref q2, .ref q9, .ref q10, vI 0])), (q9, ri g (fun _ => 0) 16), (q10, ri g (fun _ => 0) 16), (q11, .inr (0, [.ref q2, .ref q12, .ref q13, vI 0])), (q12, ri g (fun _ => 0) 16), (q13, ri g (fun _ => 0) 16), (q14, .inr (0, [.ref q2, .ref q15, .ref q16, vI 0])), (q15, ri g (fun _ => 0) 16), (q16, ri g (fun _ => 0) 16), (q17, .inr (0, [.ref q2, .ref q18, .ref q19, vI 0])), (q18, ri g (fun _ => 0) 16), (q19, ri g (fun _ => 0) 16)] : va_W)) ++ ([(q20, .inr (3, [vI 0, vI 0, .null, .null, .null, .null, .null, .null, .null]))] : va_W)) (List.append_assoc ([] : va_W) ([(q1, .inr (2, [.ref q2, .ref q4, .ref q17, vI 0])), (q2, .inr (1, [.ref q3, vI 9])), (q3, ri g g9 9), (q4, .inl (gB g, 4, .inr (.inr (.inr (.inr (va_up (va_up (va_up (va_up (fun _ => none) 0 (some q5)) 1 (some q8)) 2 (some q11)) 3 (some q14))))))), (q5, .inr (0, [.ref q2, .ref q6, .ref q7, vI 0])), (q6, ri g (fun _ => 0) 16), (q7, ri g (fun _ => 0) 16), (q8, .inr (0, [.ref q2, .ref q9, .ref q10, vI 0])), (q9, ri g (fun _ => 0) 16), (q10, ri g (fun _ => 0) 16), (q11, .inr (0, [.ref q2, .ref q12, .ref q13, vI 0])), (q12, ri g (fun _ => 0) 16), (q13, ri g (fun _ => 0) 16), (q14, .inr (0, [.ref q2, .ref q15, .ref q16, vI 0])), (q15, ri g (fun _ => 0) 16), (q16, ri g (fun _ => 0) 16), (q17, .inr (0, [.ref q2, .ref q18, .ref q19, vI 0])), (q18, ri g (fun _ => 0) 16), (q19, ri g (fun _ => 0) 16)] : va_W) ([(q20, .inr (3, [vI 0, vI 0, .null, .null, .null, .null, .null, .null, .null]))] : va_W)).symm ?_
    refine i_callI (ar := 0) hC hR (c_X4_init (mL mc) g (([] : va_W) ++ ([(q1, .inr (2, [.ref q2, .ref q4, .ref q17, vI 0])), (q2, .inr (1, [.ref q3, vI 9])), (q3, ri g g9 9), (q4, .inl (gB g, 4, .inr (.inr (.inr (.inr (va_up (va_up (va_up (va_up (fun _ => none) 0 (some q5)) 1 (some q8)) 2 (some q11)) 3 (some q14))))))), (q5, .inr (0, [.ref q2, .ref q6, .ref q7, vI 0])), (q6, ri g (fun _ => 0) 16), (q7, ri g (fun _ => 0) 16), (q8, .inr (0, [.ref q2, .ref q9, .ref q10, vI 0])), (q9, ri g (fun _ => 0) 16), (q10, ri g (fun _ => 0) 16), (q11, .inr (0, [.ref q2, .ref q12, .ref q13, vI 0])), (q12, ri g (fun _ => 0) 16), (q13, ri g (fun _ => 0) 16), (q14, .inr (0, [.ref q2, .ref q15, .ref q16, vI 0])), (q15, ri g (fun _ => 0) 16), (q16, ri g (fun _ => 0) 16), (q17, .inr (0, [.ref q2, .ref q18, .ref q19, vI 0])), (q18, ri g (fun _ => 0) 16), (q19, ri g (fun _ => 0) 16)] : va_W)) q20) [.ref q20] rfl (by decide) (by decide +kernel) rfl rfl wd578 wd579 wd4 wd580 (by decide) (Nat.le_of_ble_eq_true rfl) dL_law_12 ?_
    rintro ws2 ⟨q21, q22, q23, q24, q25, q26, q27, rfl⟩
    refine i_ws (ws2 := ([] : va_W) ++ [(q1, .inr (2, [.ref q2, .ref q4, .ref q17, vI 0])), (q2, .inr (1, [.ref q3, vI 9])), (q3, ri g g9 9), (q4, .inl (gB g, 4, .inr (.inr (.inr (.inr (va_up (va_up (va_up (va_up (fun _ => none) 0 (some q5)) 1 (some q8)) 2 (some q11)) 3 (some q14))))))), (q5, .inr (0, [.ref q2, .ref q6, .ref q7, vI 0])), (q6, ri g (fun _ => 0) 16), (q7, ri g (fun _ => 0) 16), (q8, .inr (0, [.ref q2, .ref q9, .ref q10, vI 0])), (q9, ri g (fun _ => 0) 16), (q10, ri g (fun _ => 0) 16), (q11, .inr (0, [.ref q2, .ref q12, .ref q13, vI 0])), (q12, ri g (fun _ => 0) 16), (q13, ri g (fun _ => 0) 16), (q14, .inr (0, [.ref q2, .ref q15, .ref q16, vI 0])), (q15, ri g (fun _ => 0) 16), (q16, ri g (fun _ => 0) 16), (q17, .inr (0, [.ref q2, .ref q18, .ref q19, vI 0])), (q18, ri g (fun _ => 0) 16), (q19, ri g (fun _ => 0) 16), (q20, .inr (3, [vI 0, vI 0, .ref q21, .ref q22, .ref q23, .ref q24, .ref q25, .ref q26, .ref q27])), (q21, ri g (fun _ => 0) 4), (q22, ri g (fun _ => 0) 64), (q23, ri g (fun _ => 0) 64), (q24, ri g (fun _ => 0) 64), (q25, ri g (fun _ => 0) 64), (q26, ri g (fun _ => 0) 64), (q27, ri g g9 9)]) (List.append_assoc ([] : va_W) ([(q1, .inr (2, [.ref q2, .ref q4, .ref q17, vI 0])), (q2, .inr (1, [.ref q3, vI 9])), (q3, ri g g9 9), (q4, .inl (gB g, 4, .inr (.inr (.inr (.inr (va_up (va_up (va_up (va_up (fun _ => none) 0 (some q5)) 1 (some q8)) 2 (some q11)) 3 (some q14))))))), (q5, .inr (0, [.ref q2, .ref q6, .ref q7, vI 0])), (q6, ri g (fun _ => 0) 16), (q7, ri g (fun _ => 0) 16), (q8, .inr (0, [.ref q2, .ref q9, .ref q10, vI 0])), (q9, ri g (fun _ => 0) 16), (q10, ri g (fun _ => 0) 16), (q11, .inr (0, [.ref q2, .ref q12, .ref q13, vI 0])), (q12, ri g (fun _ => 0) 16), (q13, ri g (fun _ => 0) 16), (q14, .inr (0, [.ref q2, .ref q15, .ref q16, vI 0])), (q15, ri g (fun _ => 0) 16), (q16, ri g (fun _ => 0) 16), (q17, .inr (0, [.ref q2, .ref q18, .ref q19, vI 0])), (q18, ri g (fun _ => 0) 16), (q19, ri g (fun _ => 0) 16)] : va_W) ([(q20, .inr (3, [vI 0, vI 0, .ref q21, .ref q22, .ref q23, .ref q24, .ref q25, .ref q26, .ref q27])), (q21, ri g (fun _ => 0) 4), (q22, ri g (fun _ => 0) 64), (q23, ri g (fun _ => 0) 64), (q24, ri g (fun _ => 0) 64), (q25, ri g (fun _ => 0) 64), (q26, ri g (fun _ => 0) 64), (q27, ri g g9 9)] : va_W)) ?_
    refine i_astore_n hC dL_law_15 [(2, .ref q20), (1, .ref q1), (0, .ref b)] (by decide) rfl ?_
    refine i_iconst hC dL_law_16 ?_
    refine i_newL hC hR (by decide) dL_law_17 (fun q28 => ?_)
    refine i_ws (ws2 := ([] : va_W) ++ [(q1, .inr (2, [.ref q2, .ref q4, .ref q17, vI 0])), (q2, .inr (1, [.ref q3, vI 9])), (q3, ri g g9 9), (q4, .inl (gB g, 4, .inr (.inr (.inr (.inr (va_up (va_up (va_up (va_up (fun _ => none) 0 (some q5)) 1 (some q8)) 2 (some q11)) 3 (some q14))))))), (q5, .inr (0, [.ref q2, .ref q6, .ref q7, vI 0])), (q6, ri g (fun _ => 0) 16), (q7, ri g (fun _ => 0) 16), (q8, .inr (0, [.ref q2, .ref q9, .ref q10, vI 0])), (q9, ri g (fun _ => 0) 16), (q10, ri g (fun _ => 0) 16), (q11, .inr (0, [.ref q2, .ref q12, .ref q13, vI 0])), (q12, ri g (fun _ => 0) 16), (q13, ri g (fun _ => 0) 16), (q14, .inr (0, [.ref q2, .ref q15, .ref q16, vI 0])), (q15, ri g (fun _ => 0) 16), (q16, ri g (fun _ => 0) 16), (q17, .inr (0, [.ref q2, .ref q18, .ref q19, vI 0])), (q18, ri g (fun _ => 0) 16), (q19, ri g (fun _ => 0) 16), (q20, .inr (3, [vI 0, vI 0, .ref q21, .ref q22, .ref q23, .ref q24, .ref q25, .ref q26, .ref q27])), (q21, ri g (fun _ => 0) 4), (q22, ri g (fun _ => 0) 64), (q23, ri g (fun _ => 0) 64), (q24, ri g (fun _ => 0) 64), (q25, ri g (fun _ => 0) 64), (q26, ri g (fun _ => 0) 64), (q27, ri g g9 9), (q28, .inl (gL g, 1, .inr (.inl (fun _ => jI 0))))]) (List.append_assoc ([] : va_W) [(q1, .inr (2, [.ref q2, .ref q4, .ref q17, vI 0])), (q2, .inr (1, [.ref q3, vI 9])), (q3, ri g g9 9), (q4, .inl (gB g, 4, .inr (.inr (.inr (.inr (va_up (va_up (va_up (va_up (fun _ => none) 0 (some q5)) 1 (some q8)) 2 (some q11)) 3 (some q14))))))), (q5, .inr (0, [.ref q2, .ref q6, .ref q7, vI 0])), (q6, ri g (fun _ => 0) 16), (q7, ri g (fun _ => 0) 16), (q8, .inr (0, [.ref q2, .ref q9, .ref q10, vI 0])), (q9, ri g (fun _ => 0) 16), (q10, ri g (fun _ => 0) 16), (q11, .inr (0, [.ref q2, .ref q12, .ref q13, vI 0])), (q12, ri g (fun _ => 0) 16), (q13, ri g (fun _ => 0) 16), (q14, .inr (0, [.ref q2, .ref q15, .ref q16, vI 0])), (q15, ri g (fun _ => 0) 16), (q16, ri g (fun _ => 0) 16), (q17, .inr (0, [.ref q2, .ref q18, .ref q19, vI 0])), (q18, ri g (fun _ => 0) 16), (q19, ri g (fun _ => 0) 16), (q20, .inr (3, [vI 0, vI 0, .ref q21, .ref q22, .ref q23, .ref q24, .ref q25, .ref q26, .ref q27])), (q21, ri g (fun _ => 0) 4), (q22, ri g (fun _ => 0) 64), (q23, ri g (fun _ => 0) 64), (q24, ri g (fun _ => 0) 64), (q25, ri g (fun _ => 0) 64), (q26, ri g (fun _ => 0) 64), (q27, ri g g9 9)] ([(q28, .inl (gL g, 1, .inr (.inl (fun _ => jI 0))))] : va_W)) ?_
    refine i_astore_n hC dL_law_19 [(3, .ref q28), (2, .ref q20), (1, .ref q1), (0, .ref b)] (by decide) rfl ?_
    refine i_iconst hC dL_law_20 ?_
    refine i_istore hC dL_law_21 [(4, vI (0)), (3, .ref q28), (2, .ref q20), (1, .ref q1), (0, .ref b)] (by decide) rfl ?_
    intro H locs ls hP hD hS hl
    have hP1 := hP.sub (ws' := [(q1, .inr (2, [.ref q2, .ref q4, .ref q17, vI 0])), (q2, .inr (1, [.ref q3, vI 9])), (q3, ri g g9 9), (q4, .inl (gB g, 4, .inr (.inr (.inr (.inr (va_up (va_up (va_up (va_up (fun _ => none) 0 (some q5)) 1 (some q8)) 2 (some q11)) 3 (some q14))))))), (q5, .inr (0, [.ref q2, .ref q6, .ref q7, vI 0])), (q8, .inr (0, [.ref q2, .ref q9, .ref q10, vI 0])), (q11, .inr (0, [.ref q2, .ref q12, .ref q13, vI 0])), (q14, .inr (0, [.ref q2, .ref q15, .ref q16, vI 0])), (q17, .inr (0, [.ref q2, .ref q18, .ref q19, vI 0])), (q6, ri g (fun _ => 0) 16), (q9, ri g (fun _ => 0) 16), (q12, ri g (fun _ => 0) 16), (q15, ri g (fun _ => 0) 16), (q18, ri g (fun _ => 0) 16), (q7, ri g (fun _ => 0) 16), (q10, ri g (fun _ => 0) 16), (q13, ri g (fun _ => 0) 16), (q16, ri g (fun _ => 0) 16), (q19, ri g (fun _ => 0) 16), (q20, .inr (3, [vI 0, vI 0, .ref q21, .ref q22, .ref q23, .ref q24, .ref q25, .ref q26, .ref q27])), (q21, ri g (fun _ => 0) 4), (q22, ri g (fun _ => 0) 64), (q23, ri g (fun _ => 0) 64), (q24, ri g (fun _ => 0) 64), (q25, ri g (fun _ => 0) 64), (q26, ri g (fun _ => 0) 64), (q27, ri g g9 9), (q28, .inl (gL g, 1, .inr (.inl (fun _ => jI 0))))]) [0, 1, 2, 3, 4, 7, 10, 13, 16, 5, 8, 11, 14, 17, 6, 9, 12, 15, 18, 19, 20, 21, 22, 23, 24, 25, 26, 27] rfl
    have hD1 := hD.sub (ws' := [(q1, .inr (2, [.ref q2, .ref q4, .ref q17, vI 0])), (q2, .inr (1, [.ref q3, vI 9])), (q3, ri g g9 9), (q4, .inl (gB g, 4, .inr (.inr (.inr (.inr (va_up (va_up (va_up (va_up (fun _ => none) 0 (some q5)) 1 (some q8)) 2 (some q11)) 3 (some q14))))))), (q5, .inr (0, [.ref q2, .ref q6, .ref q7, vI 0])), (q8, .inr (0, [.ref q2, .ref q9, .ref q10, vI 0])), (q11, .inr (0, [.ref q2, .ref q12, .ref q13, vI 0])), (q14, .inr (0, [.ref q2, .ref q15, .ref q16, vI 0])), (q17, .inr (0, [.ref q2, .ref q18, .ref q19, vI 0])), (q6, ri g (fun _ => 0) 16), (q9, ri g (fun _ => 0) 16), (q12, ri g (fun _ => 0) 16), (q15, ri g (fun _ => 0) 16), (q18, ri g (fun _ => 0) 16), (q7, ri g (fun _ => 0) 16), (q10, ri g (fun _ => 0) 16), (q13, ri g (fun _ => 0) 16), (q16, ri g (fun _ => 0) 16), (q19, ri g (fun _ => 0) 16), (q20, .inr (3, [vI 0, vI 0, .ref q21, .ref q22, .ref q23, .ref q24, .ref q25, .ref q26, .ref q27])), (q21, ri g (fun _ => 0) 4), (q22, ri g (fun _ => 0) 64), (q23, ri g (fun _ => 0) 64), (q24, ri g (fun _ => 0) 64), (q25, ri g (fun _ => 0) 64), (q26, ri g (fun _ => 0) 64), (q27, ri g g9 9), (q28, .inl (gL g, 1, .inr (.inl (fun _ => jI 0))))]) [0, 1, 2, 3, 4, 7, 10, 13, 16, 5, 8, 11, 14, 17, 6, 9, 12, 15, 18, 19, 20, 21, 22, 23, 24, 25, 26, 27] (by decide) rfl
    obtain ⟨g2, hg2⟩ : ∃ g2 : GG, g2 = ((fun i => ([q1, q2, q3, q4, q5, q8, q11, q14, q17, q6, q9, q12, q15, q18, q7, q10, q13, q16, q19, q20, q21, q22, q23, q24, q25, q26, q27, q28] : List Nat).getD i 0), D, (cI, cL, cB), s.heap.size, []) := ⟨_, rfl⟩
    have hP2 : va_P (gD g2) vwCl (hw g2 s0) H := by
      subst hg hg2
      have hq := va_P_set (va_P_set hP1 3 (a := q4) (e := .inl (cB, 4, .inr (.inr (.inr (.inr (fun j : Nat => some (([q1, q2, q3, q4, q5, q8, q11, q14, q17, q6, q9, q12, q15, q18, q7, q10, q13, q16, q19, q20, q21, q22, q23, q24, q25, q26, q27, q28] : List Nat).getD (4 + j) 0))))))) ?_) 27 (a := q28) (e := .inl (cL, 1, .inr (.inl (fun j : Nat => jI (if j = 0 then s0.1 9 else 0))))) ?_
      · exact hq
      · have h := hP1 3 _ rfl
        refine Eq.trans h (congrArg some ?_)
        show arrV cB 4 (fun j => va_rf ((va_up (va_up (va_up (va_up (fun _ => none) 0 (some q5)) 1 (some q8)) 2 (some q11)) 3 (some q14)) j)) = arrV cB 4 (fun j => va_rf (some (([q1, q2, q3, q4, q5, q8, q11, q14, q17, q6, q9, q12, q15, q18, q7, q10, q13, q16, q19, q20, q21, q22, q23, q24, q25, q26, q27, q28] : List Nat).getD (4 + j) 0)))
        refine arrV_ext _ _ _ _ (fun j hj => ?_)
        rcases (show j = 0 ∨ j = 1 ∨ j = 2 ∨ j = 3 by omega) with rfl | rfl | rfl | rfl <;> rfl
      · have h := hP1 27 _ rfl
        refine Eq.trans h (congrArg some ?_)
        show arrV cL 1 (fun _ => .long (jI 0)) = arrV cL 1 (fun j => .long (jI (if j = 0 then s0.1 9 else 0)))
        refine arrV_ext _ _ _ _ (fun j hj => ?_)
        rcases (show j = 0 by omega) with rfl
        rfl
    have hD2 : ∀ τ, va_D (gA g2) (hw g2 τ) := fun τ => by
      subst hg hg2
      refine va_D_ad ?_ hD1
      rfl
    have hC2 : Cx mc g2 cL_law RL 9 (some .boolean) := by
      subst hmc hg hg2
      exact ⟨hx, hb, hml, hown, dr_words hA _, hlocks, hK, hN, hTH, hD2, Nat.le_refl _, hst, hr⟩
    have hX : va_X b L xs (mS mc) (mS mc).heap := by subst hmc; exact hX0
    have hbl : b < (mS mc).heap.size := by subst hmc; exact hbl0
    have hbA : ¬ gA g2 b := by subst hg2; exact Nat.not_le.mpr hbl0
    have hS2 : va_S (gA g2) (mS mc).heap H locs := by subst hg hg2; exact hS
    have hlv : lv_has ls (mC mc).maxLocals [(4, vI (0)), (1, .ref (gd g2 (0))), (2, .ref (gd g2 (19))), (3, .ref (gd g2 (27))), (0, .ref b)] := by
      subst hg2
      exact lv_sub hl [0, 3, 2, 1, 4] rfl
    refine law_loop hC2 hR hX hbl hbA hL ?_ 512 0 _ _ s0 RC_0 (by decide) (by decide) (by omega) (by decide) (by decide) H locs ls hP2 hS2 hlv
    intro k n i σ hk hn
    refine j_iconst hC2 dL_law_2160 (fun H locs ls hP hS hl => ?_)
    subst hmc hg2
    refine va_forget (fun q hq => hS.2.2 q hq) ?_
    refine W.widen (k := 667605) (n := 7093289) hk hn ?_
    exact lw_ret hd0 hx hb hr hlocks dL_law_2161
  have hl := lv_entry ([.ref b]) (n := 9) (Nat.le_of_ble_eq_true rfl)
  rw [lg_entry_eq]
  subst hmc hg
  exact key s.heap [] _ (fun k q h => by simp at h) ⟨fun i j p q h => by simp at h, fun k q h => by simp at h⟩ va_S.rf (by show lv_has _ c.maxLocals _; rw [hml]; exact hl)
set_option maxHeartbeats 4000000 in
set_option maxRecDepth 100000 in
theorem whole_start {p : Program} {e : Env} {s : State} {m : MethodId} {below : List Frame} {meth : Method} {c : Code} (l : Launch) (hflags : l.flags = flags0) {b L : Nat} {xs : Nat → Int32} (hL : L ≤ 3584) (C0 : lw_At p s m meth c b L xs) : W p l e room_1 s m #[Value.ref b] below meth c s.heap [] 0 0 (lw_Z below #[Value.ref b] s) (entryFrame m ([Value.ref b] : List Value).toArray 9) := by
  obtain ⟨hx, hb, hr, hml, hown, hts, hX, hbl, hlocks, hgv⟩ := id C0
  have hs := flat_of_before _ hgv
  have hst : l.stackTraces = false := by
    unfold Launch.stackTraces
    rw [hflags]
    decide
  have hA : ∀ w ∈ wsA, w.before #[Value.ref b] s = true := fun w hw => hts w (List.mem_filter.mp hw).1
  obtain ⟨c0, i0, hK0⟩ := u_known (C := RX0) (T := TX0) (N := 4) (n := 4) hA inX0 (hA _ wd40)
  obtain ⟨c1, i1, hK1⟩ := u_known (C := RX2) (T := TX2) (N := 2) (n := 2) hA inX2 (hA _ wd24)
  obtain ⟨c2, i2, hK2⟩ := u_known (C := RX3) (T := TX3) (N := 4) (n := 4) hA inX3 (hA _ wd16)
  obtain ⟨c3, i3, hK3⟩ := u_known (C := RX4) (T := TX4) (N := 9) (n := 9) hA inX4 (hA _ wd577)
  obtain ⟨cI, kI, pI, h1I, h2I, h3I⟩ := Cond.arrayClass_spec (hA _ wd37)
  obtain ⟨cL, kL, pL, h1L, h2L, h3L⟩ := Cond.arrayClass_spec (hA _ wd849)
  have hT : ∀ (i : Nat) (w : Cond), tables_1[i]? = some w → w.before #[Value.ref b] s = true := fun i w h => hts w (List.mem_append_right _ (List.mem_of_getElem? h))
  have hao : (Cond.arrayOver (.object "SignMasons$Book")).before #[Value.ref b] s = true := hT 39 _ (by decide +kernel)
  have hAO : va_AO "SignMasons$Book" s := va_AO.of hao
  obtain ⟨pB, cB, kB, h1B, -, h2B, h3B, h4B⟩ := Cond.arrayOver_spec hao
  obtain ⟨D, hDK⟩ : ∃ D : va_G, ∀ (k : Nat) (q : vw_C), vwCl[k]? = some q → u_Kn s q.1 q.2.1 q.2.2 (D.1 k) (D.2 k) := by
    refine ⟨(fun k => if k = 0 then c0 else if k = 1 then c1 else if k = 2 then c2 else c3, fun k => if k = 0 then i0 else if k = 1 then i1 else if k = 2 then i2 else i3), ?_⟩
    intro k q hq
    match k, hq with
    | 0, hq => cases hq; exact hK0
    | 1, hq => cases hq; exact hK1
    | 2, hq => cases hq; exact hK2
    | 3, hq => cases hq; exact hK3
    | k + 4, hq => simp [vwCl] at hq
  have hK : va_K D vwCl [(cI, .int), (cL, .long), (cB, .object "SignMasons$Book")] s := by
    refine ⟨hDK, fun k q hq => ?_⟩
    match k, hq with
    | 0, hq => cases hq; exact ⟨fun n z => ⟨fun k h => (by cases h), kI, h2I, pI, h3I⟩, h1I⟩
    | 1, hq => cases hq; exact ⟨fun n z => ⟨fun k h => (by cases h), kL, h2L, pL, h3L⟩, h1L⟩
    | 2, hq => cases hq; exact ⟨fun n z => ⟨fun k h => (by cases h), kB, h2B, pB, h3B⟩, kB, pB, h2B, h3B, h1B, h4B⟩
    | k + 3, hq => simp at hq
  have hN : ∀ w ∈ nwA, va_Nw w s := fun w hw => va_Nw.of (nest_on (List.mem_filter.mp hw).2) (hts w (List.mem_append_right _ (List.mem_filter.mp hw).1))
  have hnA : ∀ q : Nat, q < s.heap.size → ¬ s.heap.size ≤ q := fun q h => Nat.not_le.mpr h
  have hTH : TH ((fun _ => 0, D, (cI, cL, cB), s.heap.size, []) : GG) s s.heap := by
    refine ⟨vx_Zqof (hT 216 _ (by decide +kernel)) (hA _ wd5) (hs (.isRef (.static Bundle.tN "UNASSIGNED_STACK" Bundle.steD)) (by decide +kernel)) (fun a h1 => hnA a h1), vx_Zqof (hT 218 _ (by decide +kernel)) (hA _ wd5) (hs (.isRef (.static Bundle.tN "SUPPRESSED_SENTINEL" Bundle.listD)) (by decide +kernel)) (fun a h1 => hnA a h1), fun q hq => ?_, fun q hq => ?_, hAO⟩
    · simp only [txA, List.mem_cons, List.not_mem_nil, or_false] at hq
      rcases hq with rfl | rfl | rfl | rfl | rfl | rfl | rfl | rfl | rfl | rfl | rfl
      · obtain ⟨a, _, _, _, ha, -⟩ := Cond.exactly_spec (hs (.exactly (.string "SignMasons" 199) "java/lang/String") (by decide +kernel))
        exact ⟨a, vk_R.of (hT 230 _ (by decide +kernel)) ha⟩
      · obtain ⟨a, _, _, _, ha, -⟩ := Cond.exactly_spec (hs (.exactly (.string "SignMasons" 35) "java/lang/String") (by decide +kernel))
        exact ⟨a, vk_R.of (hT 318 _ (by decide +kernel)) ha⟩
      · obtain ⟨a, _, _, _, ha, -⟩ := Cond.exactly_spec (hs (.exactly (.string "SignMasons" 205) "java/lang/String") (by decide +kernel))
        exact ⟨a, vk_R.of (hT 346 _ (by decide +kernel)) ha⟩
      · obtain ⟨a, _, _, _, ha, -⟩ := Cond.exactly_spec (hs (.exactly (.string "SignMasons" 81) "java/lang/String") (by decide +kernel))
        exact ⟨a, vk_R.of (hT 353 _ (by decide +kernel)) ha⟩
      · obtain ⟨a, _, _, _, ha, -⟩ := Cond.exactly_spec (hs (.exactly (.string "SignMasons" 203) "java/lang/String") (by decide +kernel))
        exact ⟨a, vk_R.of (hT 354 _ (by decide +kernel)) ha⟩
      · obtain ⟨a, _, _, _, ha, -⟩ := Cond.exactly_spec (hs (.exactly (.string "SignMasons" 207) "java/lang/String") (by decide +kernel))
        exact ⟨a, vk_R.of (hT 355 _ (by decide +kernel)) ha⟩
      · obtain ⟨a, _, _, _, ha, -⟩ := Cond.exactly_spec (hs (.exactly (.string "SignMasons" 54) "java/lang/String") (by decide +kernel))
        exact ⟨a, vk_R.of (hT 356 _ (by decide +kernel)) ha⟩
      · obtain ⟨a, _, _, _, ha, -⟩ := Cond.exactly_spec (hs (.exactly (.string "SignMasons" 61) "java/lang/String") (by decide +kernel))
        exact ⟨a, vk_R.of (hT 357 _ (by decide +kernel)) ha⟩
      · obtain ⟨a, _, _, _, ha, -⟩ := Cond.exactly_spec (hs (.exactly (.string "SignMasons" 201) "java/lang/String") (by decide +kernel))
        exact ⟨a, vk_R.of (hT 371 _ (by decide +kernel)) ha⟩
      · obtain ⟨a, _, _, _, ha, -⟩ := Cond.exactly_spec (hs (.exactly (.string "SignMasons" 104) "java/lang/String") (by decide +kernel))
        exact ⟨a, vk_R.of (hT 405 _ (by decide +kernel)) ha⟩
      · obtain ⟨a, _, _, _, ha, -⟩ := Cond.exactly_spec (hs (.exactly (.string "SignMasons" 112) "java/lang/String") (by decide +kernel))
        exact ⟨a, vk_R.of (hT 406 _ (by decide +kernel)) ha⟩
    · simp only [ncA, List.mem_cons, List.not_mem_nil, or_false] at hq
      rcases hq with rfl | rfl | rfl
      · exact va_Nc.of (hs (.not (.castable "java/lang/IllegalArgumentException" "java/lang/IndexOutOfBoundsException")) (by decide +kernel))
      · exact va_Nc.of (hs (.not (.castable "java/lang/IllegalStateException" "java/lang/IndexOutOfBoundsException")) (by decide +kernel))
      · exact va_Nc.of (hs (.not (.castable "java/lang/IllegalStateException" "java/lang/IllegalArgumentException")) (by decide +kernel))
  refine W.base ?_
  have hd0 := Drawn.sameBut.refl s.drawn lw_cs
  exact law_all hst hd0 hL hx hb hr hml hown hA hX hbl hlocks hK hN hTH
set_option maxHeartbeats 4000000 in
theorem lw_walk (l : Launch) (hflags : l.flags = flags0) (b : Addr) (xs : List Int32) : MetFree l x (headSpec (Jvm.Cond.code x code maxLocals ret :: tables_1) room_1) (lw_P b xs) (fun _ _ _ _ _ => True) lw_Q := by
  refine MetFree.of_bodyS (code := code) (maxLocals := maxLocals) (ret := ret) (by decide) ?_ ?_
  · intro args s m h hn
    obtain ⟨meth, c, h1, h2, h3, h4, h5, h6, -, -⟩ := Cond.code_spec hn (atoms_spec (ws := Jvm.Cond.code x code maxLocals ret :: tables_1) h _ List.mem_cons_self)
    exact ⟨meth, c, h1, h2, h3, h4, h5, h6⟩
  · intro p e s m args below meth c s₁ B hml0 hP _
    obtain ⟨rfl, hx, hbd, hgv⟩ := hP
    obtain ⟨scr, harrAt, hlist, hof, hsmall⟩ := hx
    obtain ⟨hcb, hkn, -, -⟩ := State.arrayAt?_spec harrAt
    have hown : s.vm.findClass R_law = some m.cls := findClass_of_methodNamed B.named
    have hts0 : ∀ c ∈ (Jvm.Cond.code x code maxLocals ret :: tables_1), c.before #[Value.ref b] s = true := atoms_spec (ws := Jvm.Cond.code x code maxLocals ret :: tables_1) B.pre
    have hts : ∀ w ∈ lw_tbl, w.before #[Value.ref b] s = true := k2_hts_sels lw_privs (fun w hw => hts0 w (List.mem_cons_of_mem _ hw)) lw_privs_ok
    have hml : c.maxLocals = 9 := B.maxLocals_eq (hts0 _ List.mem_cons_self)
    have X₀ : Stand p l e room_1 s m #[Value.ref b] below meth c s₁ [] 0 0 := Stand.of_body B
    have hh0 : s₁.heap = s.heap := by rw [B.state]; rfl
    have hsz : scr.slots.size = xs.length := by rw [← Array.length_toList, hlist, List.length_map]
    have hval : ∀ j : Nat, j < xs.length → scr.slots[j]? = some (.int (xs.getD j 0)) := fun j hj => by
      rw [← Array.getElem?_toList, hlist]
      simp [hj]
    have hbl : b < s.heap.size := (Array.getElem?_eq_some_iff.mp hcb).1
    have hX : va_X b xs.length (fun j => xs.getD j 0) s s.heap := ⟨scr, hcb, hof, hkn, hsz, hval⟩
    have K : W p l e room_1 s m #[Value.ref b] below meth c s₁.heap [] 0 0 (lw_Z below #[Value.ref b] s) (entryFrame m ([Value.ref b] : List Value).toArray 9) := by
      rw [hh0]
      exact whole_start l hflags hbd ⟨B.exec, B.bytes, B.returns, hml, hown, hts, hX, hbl, B.notSynchronized, hgv⟩
    obtain ⟨t, a1, o, b1, b2, b3⟩ := K s₁ rfl X₀
    exact ⟨t, o, a1, b1, b2, b3⟩
theorem lw_pre_spec {args : Array Value} {s : State} (h : (Jvm.Cond.and given_1 narrow_1).before args s = true) (hr : rest_1_c.before args s = true) : ∃ (b : Addr) (xs : List Int32), lw_P b xs args s := by
  have hs := flat_of_before _ h
  have hq := flat_of_before _ hr
  have hc : (Cond.count 1).before args s = true := hs _ (by decide +kernel)
  have harr : (Cond.arrayOf (.arg 0) .int).before args s = true := hs _ (by decide +kernel)
  have hle : (Cond.le (.length (.arg 0)) (.int 3584)).before args s = true := hs _ (by decide +kernel)
  have hlen : (Cond.isInt (.length (.arg 0))).before args s = true := hq _ (by decide +kernel)
  have hall : (Cond.all (.arg 0) (.isInt (.elem (.arg 0) (.index 0)))).before args s = true := hq _ (by decide +kernel)
  obtain ⟨b, xs, hb, hx⟩ := State.ints_of_pre rfl harr hlen hall
  have hsm : xs.length < 2 ^ 31 := hx.choose_spec.2.2.2
  have hev : (Term.length (.arg 0)).eval args s none [] s = some (.int xs.length.toInt32) := hx.length_eval hb
  have hv := Cond.le_ints hev (show (Term.int 3584).eval args s none [] s = some (.int 3584) from rfl)
  have hd : xs.length.toInt32 ≤ 3584 := by
    simpa [Cond.before, Cond.holds, hv] using hle
  have hN : xs.length ≤ 3584 := (Int32.ofNat_le_ofNat hsm (by decide)).mp (show Int32.ofNat xs.length ≤ Int32.ofNat 3584 from hd)
  exact ⟨b, xs, Cond.one_arg hc (show args[0]? = some (.ref b) from hb), hx, hN, h⟩
theorem lw_comes (l : Launch) (hflags : l.flags = flags0) : Comes l x (Jvm.Cond.code x code maxLocals ret :: tables_1) room_1 (fun tb e args s => Calls_1 tb e args s ∧ rest_1 tb e args s ∧ Pre_1 tb e args s)
    (fun _ _ args s o t => lw_Q args s o t) := by
  intro p e ha hc hk s m args below hf hfit hheap happ hpre
  obtain ⟨b, xs, hP⟩ := lw_pre_spec hpre.2.2 hpre.2.1
  obtain ⟨k, o, h1, h2, h3, hQ⟩ := lw_walk l hflags b xs p e ha hc hk s m args below hf ((Spec.applies_iff_loose hf).mp happ).1 hP trivial
  exact ⟨k, o, h1, h2, h3, hQ⟩
theorem lw_frame {s t : State} {o : Outcome} {args : Array Value} (h : State.butDraws s t lw_cs (fun t1 => Framed s o t1 [] 667605 7093289)) :
    State.butDraws s t [Jvm.Choice.named "NaN.bits"] (fun t1 => Framed s o t1 (fieldLocs frame_1_writes args s ++ arrayLocs frame_1_arrays args s ++ staticLocs frame_1_statics s) 667605 7093289) := h
theorem lw_limb (L : Cond) (hL : ∀ (args : Array Value) (s t : State), L.after args s (.returned (some (.int 1))) t = true) :
    ArmFor flags0 classFile x code maxLocals ret World_1 tables_1 room_1 Calls_1 rest_1 Pre_1
      (fun tb e a s o t => postC L tb e a s o t ∧ State.butDraws s t [Jvm.Choice.named "NaN.bits"] (fun t1 => Framed s o t1 (fieldLocs frame_1_writes a s ++ arrayLocs frame_1_arrays a s ++ staticLocs frame_1_statics s) 667605 7093289)) := by
  intro l hflags _ _ p e ha hc hk s m args below hf hfit hheap happ hpre
  obtain ⟨k, o, h1, h2, h3, rfl, hF⟩ := lw_comes l hflags p e ha hc hk s m args below hf hfit hheap happ hpre
  exact ⟨k, _, h1, h2, h3, hL args s _, lw_frame hF⟩
theorem i_vc : Claimed_1_1 ∧ Claimed_1_2 := ⟨lw_limb limb_1_1 (fun args s t => by simp [limb_1_1, Cond.after, Cond.holds, Cond.value]), lw_limb limb_1_2 (fun args s t => Cond.after_iff.mpr (by
  first | (rw [show limb_1_2 = Cond.eq .result (.int 1) from rfl, Cond.eq_ints (x := 1) (y := 1) rfl rfl]; simp; done) | (simp [limb_1_2, Cond.value, Term.eval]; done)))⟩

