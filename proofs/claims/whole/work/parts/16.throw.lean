theorem nest_on {w : Cond} (h : isNest w = true) : w.onTables = true := by cases w <;> first | rfl | (simp [isNest] at h)
theorem hat_of {L : List Cond} (h1 : ∀ w ∈ L.filter goodWord, w ∈ lw_tbl) (h2 : ∀ w ∈ L.filter (fun w => !goodWord w), w ∈ nwA) {args : Array Value} {s : State} (hts : ∀ w ∈ wsA, w.before args s = true) (hn : ∀ w ∈ nwA, va_Nw w s) : ∀ w ∈ L, w.before args s = true := by
  intro w hw
  by_cases g : goodWord w = true
  · exact hts w (List.mem_filter.mpr ⟨h1 w (List.mem_filter.mpr ⟨hw, g⟩), g⟩)
  · have h := h2 w (List.mem_filter.mpr ⟨hw, by
      show (!goodWord w) = true
      cases hgw : goodWord w
      · rfl
      · exact absurd hgw g⟩)
    exact va_Nw.use (nest_on (List.mem_filter.mp h).2) (hn w h)
abbrev nmE : List String := ["java/lang/RuntimeException", "java/lang/Exception"]
theorem j_throw {mc : MC} {g : GG} {k n : Nat} {pc : Nat} {lv : List (Nat × Value)} {st : List Value} {σ : Sg} {cc : ByteArray} {nL : Nat} {ret : Option FieldType} {post2 : Option Value → Sg → Prop} {E text : String} {ik is ic fr lo K N : Nat} (hC : Cx mc g cc RX3 nL ret) (hR : mR mc = rmJ fr lo K N) (hE : ∀ x ∈ (mC mc).exceptionTable.toList, False)
    (hcls : Bundle.fit E = true) (hk : Cond.classLink RX3 ik E ∈ wsA) (hini : Cond.initialized E ∈ wsA) (h1 : ∀ w ∈ (vx_atS RX3 ic E nmE).filter goodWord, w ∈ lw_tbl) (h2 : ∀ w ∈ (vx_atS RX3 ic E nmE).filter (fun w => !goodWord w), w ∈ nwA) (hgood : ∀ w ∈ Cond.classLink RX3 ik E :: Cond.initialized E :: vx_atS RX3 ic E nmE, vx_ot w = true)
    (htx : ("SignMasons", is, text) ∈ txA)
    (d0 : decode cc pc = .ok (.new ik, 3)) (d3 : decode cc (pc + 3) = .ok (.dup, 1)) (d4 : decode cc (pc + 4) = .ok (.ldc is, 2)) (d6 : decode cc (pc + 6) = .ok (.invokespecial ic, 3)) (d9 : decode cc (pc + 9) = .ok (.athrow, 1))
    (hroom : 5 < fr ∧ (st.map fun v => v.category).sum + 82 ≤ lo ∧ k + 1 ≤ K ∧ n + 6 ≤ N) : J mc g k n (QX mc g post2 (pxE E σ) K N) pc lv st σ := by
  intro H locs ls hP hS hl
  obtain ⟨sa, hsa⟩ := hC.2.2.2.2.2.2.2.2.1.2.2.1 _ htx
  refine vx_throwS (A := gA g) (names := nmE) hC.1 hC.2.1 (hlJ hC) hC.2.2.2.1 hcls (by decide) (hC.2.2.2.2.1 _ hk) (hC.2.2.2.2.1 _ hini) hsa (hat_of h1 h2 hC.2.2.2.2.1 hC.2.2.2.2.2.2.2.1) hgood hC.2.2.2.2.2.2.2.2.1.1 hC.2.2.2.2.2.2.2.2.1.2.1 hS hl.1 d0 d3 d4 d6 d9 (fun x hx => (hE x hx).elim) (by rw [hR]; exact hroom.1) (by rw [hR]; exact hroom.2.1) (by rw [hR]; exact hroom.2.2.1) (by rw [hR]; exact hroom.2.2.2) hC.2.2.2.2.2.1 ?_ hS.2.2 hroom.2.2.1 hroom.2.2.2
  intro t _ hz hq
  refine ⟨⟨σ, ⟨rfl, rfl⟩, va_P.kept hP (fun k9 q9 hk9 => hq q9.1 (vx_lt hP hk9))⟩, Nat.le_trans hS.1 hz, fun q h3 h4 => ?_⟩
  exact (hq q (Nat.lt_of_lt_of_le h3 hS.1)).trans (hS.2.1 q h3 h4)
theorem thI1 : ∀ w ∈ (vx_atS RX3 37 "java/lang/IllegalStateException" nmE).filter goodWord, w ∈ lw_tbl := by decide +kernel
theorem thI2 : ∀ w ∈ (vx_atS RX3 37 "java/lang/IllegalStateException" nmE).filter (fun w => !goodWord w), w ∈ nwA := by decide +kernel
theorem thI3 : ∀ w ∈ Cond.classLink RX3 33 "java/lang/IllegalStateException" :: Cond.initialized "java/lang/IllegalStateException" :: vx_atS RX3 37 "java/lang/IllegalStateException" nmE, vx_ot w = true := by decide +kernel
theorem thA1 : ∀ w ∈ (vx_atS RX3 56 "java/lang/IllegalArgumentException" nmE).filter goodWord, w ∈ lw_tbl := by decide +kernel
theorem thA2 : ∀ w ∈ (vx_atS RX3 56 "java/lang/IllegalArgumentException" nmE).filter (fun w => !goodWord w), w ∈ nwA := by decide +kernel
theorem thA3 : ∀ w ∈ Cond.classLink RX3 52 "java/lang/IllegalArgumentException" :: Cond.initialized "java/lang/IllegalArgumentException" :: vx_atS RX3 56 "java/lang/IllegalArgumentException" nmE, vx_ot w = true := by decide +kernel
theorem thX1 : ∀ w ∈ (vx_atS RX3 134 "java/lang/IndexOutOfBoundsException" nmE).filter goodWord, w ∈ lw_tbl := by decide +kernel
theorem thX2 : ∀ w ∈ (vx_atS RX3 134 "java/lang/IndexOutOfBoundsException" nmE).filter (fun w => !goodWord w), w ∈ nwA := by decide +kernel
theorem thX3 : ∀ w ∈ Cond.classLink RX3 132 "java/lang/IndexOutOfBoundsException" :: Cond.initialized "java/lang/IndexOutOfBoundsException" :: vx_atS RX3 134 "java/lang/IndexOutOfBoundsException" nmE, vx_ot w = true := by decide +kernel
