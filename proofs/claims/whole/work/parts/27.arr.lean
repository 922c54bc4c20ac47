/-- the world with one more array of ints -/
abbrev gP (g : GG) (q : Nat) (f : Int → Int) (m : Nat) : GG := (g.1, g.2.1, g.2.2.1, g.2.2.2.1, gX g ++ [(q, ri g f m)])
theorem hw_gP (g : GG) (q : Nat) (f : Int → Int) (m : Nat) (σ : Sg) : hw (gP g q f m) σ = hw g σ ++ [(q, ri g f m)] := rfl
theorem hw_len (g : GG) (σ : Sg) : (hw g σ).length = 28 + (gX g).length := by
  show List.length (_ ++ gX g) = _
  rw [List.length_append]
  rfl
theorem hw_q (g : GG) (q : Nat) (f : Int → Int) (m : Nat) (σ : Sg) : (hw (gP g q f m) σ)[28 + (gX g).length]? = some (q, ri g f m) := by
  rw [hw_gP, ← hw_len g σ, List.getElem?_append_right (Nat.le_refl _), Nat.sub_self]
  rfl
theorem hw_qs (g : GG) (q : Nat) (f f2 : Int → Int) (m : Nat) (σ : Sg) : (hw (gP g q f m) σ).set (28 + (gX g).length) (q, ri g f2 m) = hw (gP g q f2 m) σ := by
  rw [hw_gP, hw_gP, ← hw_len g σ, List.set_append_right _ _ (Nat.le_refl _), Nat.sub_self]
  rfl
theorem va_D_ad {A : Nat → Prop} {w1 w2 : va_W} (h : w1.map (·.1) = w2.map (·.1)) (hD : va_D A w1) : va_D A w2 := by
  have key : ∀ (k : Nat) (q : Nat × va_E), w2[k]? = some q → ∃ q', w1[k]? = some q' ∧ q'.1 = q.1 := by
    intro k q hk
    have e : (w1.map (·.1))[k]? = (w2.map (·.1))[k]? := by rw [h]
    rw [List.getElem?_map, List.getElem?_map, hk] at e
    cases hq : w1[k]? with
    | none => rw [hq] at e; exact absurd e (by simp)
    | some q' => rw [hq] at e; exact ⟨q', rfl, by simpa using e⟩
  refine ⟨fun i j p q hp hq he => ?_, fun k q hk => ?_⟩
  · obtain ⟨p', h1, h2⟩ := key i p hp
    obtain ⟨q', h3, h4⟩ := key j q hq
    exact hD.1 i j p' q' h1 h3 (h2.trans (he.trans h4.symm))
  · obtain ⟨q', h1, h2⟩ := key k q hk
    rw [← h2]
    exact hD.2 k q' h1
theorem hw_ad (g : GG) (σ τ : Sg) : (hw g σ).map (·.1) = (hw g τ).map (·.1) := by
  show (_ ++ gX g).map _ = (_ ++ gX g).map _
  rw [List.map_append, List.map_append]
  rfl
theorem hw_adP (g : GG) (q : Nat) (f f2 : Int → Int) (m : Nat) (σ τ : Sg) : (hw (gP g q f m) σ).map (·.1) = (hw (gP g q f2 m) τ).map (·.1) := by
  rw [hw_gP, hw_gP, List.map_append, List.map_append, hw_ad g σ τ]
  rfl
theorem Cx_gP {mc : MC} {g : GG} {cc : ByteArray} {own : String} {nL : Nat} {ret : Option FieldType} (hC : Cx mc g cc own nL ret) {q : Nat} {f : Int → Int} {m : Nat} (hD : ∀ τ, va_D (gA g) (hw (gP g q f m) τ)) : Cx mc (gP g q f m) cc own nL ret :=
  ⟨hC.1, hC.2.1, hC.2.2.1, hC.2.2.2.1, hC.2.2.2.2.1, hC.2.2.2.2.2.1, hC.2.2.2.2.2.2.1, hC.2.2.2.2.2.2.2.1, hC.2.2.2.2.2.2.2.2.1, hD, hC.2.2.2.2.2.2.2.2.2.2.1, hC.2.2.2.2.2.2.2.2.2.2.2.1, hC.2.2.2.2.2.2.2.2.2.2.2.2⟩
theorem Cx_to {mc : MC} {g : GG} {cc : ByteArray} {own : String} {nL : Nat} {ret : Option FieldType} {q : Nat} {f : Int → Int} {m : Nat} (hC : Cx mc (gP g q f m) cc own nL ret) (f2 : Int → Int) : Cx mc (gP g q f2 m) cc own nL ret :=
  ⟨hC.1, hC.2.1, hC.2.2.1, hC.2.2.2.1, hC.2.2.2.2.1, hC.2.2.2.2.2.1, hC.2.2.2.2.2.2.1, hC.2.2.2.2.2.2.2.1, hC.2.2.2.2.2.2.2.2.1, fun τ => va_D_ad (hw_adP g q f f2 m τ τ) (hC.2.2.2.2.2.2.2.2.2.1 τ), hC.2.2.2.2.2.2.2.2.2.2.1, hC.2.2.2.2.2.2.2.2.2.2.2.1, hC.2.2.2.2.2.2.2.2.2.2.2.2⟩
section JA
variable {mc : MC} {g : GG} {k n : Nat} {Q : State → Prop} {pc : Nat} {lv : List (Nat × Value)} {st : List Value} {σ : Sg} {cc : ByteArray} {own : String} {nL : Nat} {ret : Option FieldType} {q m0 : Nat} {f : Int → Int}
theorem j_drop (kk : J mc g k n Q pc lv st σ) : J mc (gP g q f m0) k n Q pc lv st σ := by
  intro H locs ls hP hS hl
  refine kk H locs ls (fun i x hx => hP i x ?_) hS hl
  rw [hw_gP, List.getElem?_append_left (List.getElem?_eq_some_iff.mp hx).1]
  exact hx
theorem j_newE (hC : Cx mc g cc own nL ret) {fr lo K N : Nat} (hR : mR mc = rmJ fr lo K N) (m0 : Nat) {z : Int} (hz : z = (m0 : Int)) (hm : m0 < 1000) (harr : Cond.arrayClass .int ∈ wsA) (hroom : k + 1 ≤ K ∧ n + m0 ≤ N) (hd : decode cc pc = .ok (.newarray .int, 2))
    (kk : ∀ q, Cx mc (gP g q (fun _ => 0) m0) cc own nL ret → J mc (gP g q (fun _ => 0) m0) (k + 1) (n + m0) Q (pc + 2) lv (.ref q :: st) σ) : J mc g k n Q pc lv (vI z :: st) σ := by
  subst hz
  intro H locs ls hP hS hl
  have hcl : (iI (m0 : Int)).toNatClampNeg = m0 := by rw [iI_clamp (by omega) (by omega)]; omega
  have nm : ¬ (iI (m0 : Int)) < 0 := by
    rw [← iI_0, iI_lt (by omega) (by omega) (by omega) (by omega)]
    omega
  refine va_newa (atype := .int) (N' := m0) (a0 := (m0, .inl (fun _ : Nat => iI 0))) hC.1 hC.2.1 (hC.2.2.2.2.1 _ harr) rfl hC.2.2.2.2.2.2.1 hP (hC.2.2.2.2.2.2.2.2.2.1 σ) hS (gA_new hC.2.2.2.2.2.2.2.2.2.2.1) (fun cA => rfl) nm hcl (by show m0 * 4 ≤ _; omega) (by rw [hR]; exact hroom.1) (by rw [hR]; exact hroom.2) hd (fun q cA H1 hK hP1 hD1 hS1 => ?_)
  have e1 : (mS mc).vm.findClass ("[" ++ FieldType.int.toString) = some (gI g) := ((hC.2.2.2.2.2.2.1).2 0 _ rfl).2
  have e2 : (mS mc).vm.findClass ("[" ++ FieldType.int.toString) = some cA := (hK.2 (gT g).length (cA, .int) (by rw [List.getElem?_append_right (Nat.le_refl _), Nat.sub_self]; rfl)).2
  have e3 : cA = gI g := Option.some.inj (e2.symm.trans e1)
  subst e3
  exact kk q (Cx_gP hC (fun τ => va_D_ad (hw_adP g q (fun _ => 0) (fun _ => 0) m0 σ τ) hD1)) H1 locs ls hP1 hS1 hl
theorem j_ialdE (hC : Cx mc (gP g q f m0) cc own nL ret) {z : Int} (hz : 0 ≤ z ∧ z < m0 ∧ m0 ≤ 2147483647) (hd : decode cc pc = .ok (.iaload, 1)) (kk : J mc (gP g q f m0) k n Q (pc + 1) lv (vI (f z) :: st) σ) : J mc (gP g q f m0) k n Q pc lv (vI z :: .ref q :: st) σ :=
  j_iald hC _ (hw_q g q f m0 σ) hz hd kk
theorem j_iastE (hC : Cx mc (gP g q f m0) cc own nL ret) {z x : Int} (hz : 0 ≤ z ∧ z < m0 ∧ m0 ≤ 2147483647) (hd : decode cc pc = .ok (.iastore, 1)) (kk : Cx mc (gP g q (fun j => if j = z then x else f j) m0) cc own nL ret → J mc (gP g q (fun j => if j = z then x else f j) m0) k n Q (pc + 1) lv st σ) : J mc (gP g q f m0) k n Q pc lv (vI x :: vI z :: .ref q :: st) σ := by
  intro H locs ls hP hS hl
  refine va_iast hC.1 hC.2.1 hC.2.2.2.2.2.2.1 hP (hC.2.2.2.2.2.2.2.2.2.1 σ) hS _ 0 (hw_q g q f m0 σ) rfl (iI_in hz.1 hz.2.1 hz.2.2) hd (fun H1 locs1 hP1 _ hS1 => ?_)
  rw [iI_up hz.1 (by omega)] at hP1
  have e := hw_qs g q f (fun j => if j = z then x else f j) m0 σ
  exact kk (Cx_to hC _) H1 locs1 ls (e ▸ hP1) hS1 hl
theorem j_alenE (hC : Cx mc (gP g q f m0) cc own nL ret) (hd : decode cc pc = .ok (.arraylength, 1)) (kk : J mc (gP g q f m0) k n Q (pc + 1) lv (vI (m0 : Int) :: st) σ) : J mc (gP g q f m0) k n Q pc lv (.ref q :: st) σ :=
  fun H locs ls hP hS hl => va_alen hC.1 hC.2.1 hC.2.2.2.2.2.2.1 hP _ 0 (hw_q g q f m0 σ) rfl (iI_nat m0).symm hd (kk H locs ls hP hS hl)
theorem j_copyE (hC : Cx mc (gP g q f m0) cc own nL ret) {fr lo K N index a0 : Nat} {h : Int → Int} (hR : mR mc = rmJ fr lo K N) (hlink : Cond.methodLink own index arraycopyName ∈ wsA) (q0 : Nat) (he0 : (hw (gP g q f m0) σ)[q0]? = some (a0, ri g h m0)) (hm : m0 < 2147483648)
    (hroom : 1 ≤ fr ∧ (st.map fun v => v.category).sum + (nativeFrameWords "java/lang/System" "arraycopy" 5 + 11) ≤ lo) (hd : decode cc pc = .ok (.invokestatic index, 3)) (kk : Cx mc (gP g q (fun j => if 0 ≤ j ∧ j < m0 then h j else f j) m0) cc own nL ret → J mc (gP g q (fun j => if 0 ≤ j ∧ j < m0 then h j else f j) m0) k n Q (pc + 3) lv st σ) : J mc (gP g q f m0) k n Q pc lv (vI (m0 : Int) :: vI 0 :: .ref q :: vI 0 :: .ref a0 :: st) σ := by
  intro H locs ls hP hS hl
  have e0 : (iI 0).toNatClampNeg = 0 := by decide
  have em : (iI (m0 : Int)).toNatClampNeg = m0 := by rw [iI_clamp (by omega) (by omega)]; omega
  have n0 : ¬ (iI 0) < 0 := by decide
  have nm : ¬ (iI (m0 : Int)) < 0 := by
    rw [← iI_0, iI_lt (by omega) (by omega) (by omega) (by omega)]
    omega
  refine va_copyi hC.1 hC.2.1 hl.1.symm hC.2.2.2.1 (hC.2.2.2.2.1 _ hlink) (hC.2.2.2.2.1 _ wdAC1) (hC.2.2.2.2.1 _ wdAC2) (hC.2.2.2.2.1 _ wd14) hC.2.2.2.2.2.2.1 hP (hC.2.2.2.2.2.2.2.2.2.1 σ) hS q0 _ 0 0 he0 (hw_q g q f m0 σ) rfl rfl rfl n0 n0 nm (by rw [e0, em]; omega) (by rw [e0, em]; omega) (fun _ _ => rfl) (by rw [hR]; exact hroom.1) (by rw [hR]; exact hroom.2) hd (fun H1 locs1 hP1 _ hS1 => ?_)
  refine kk (Cx_to hC _) H1 locs1 ls ?_ hS1 hl
  rw [← hw_qs g q f]
  have e : va_cpy (fun j : Nat => iI (h (j : Int))) (fun j : Nat => iI (f (j : Int))) (iI 0).toNatClampNeg (iI 0).toNatClampNeg (iI (m0 : Int)).toNatClampNeg = fun j : Nat => iI (if 0 ≤ (j : Int) ∧ (j : Int) < m0 then h (j : Int) else f (j : Int)) := by
    funext j
    rw [e0, em]
    unfold va_cpy
    by_cases qq : j < m0
    · rw [if_pos ⟨Nat.zero_le _, by omega⟩, if_pos ⟨by omega, by omega⟩, Nat.zero_add, Nat.sub_zero]
    · rw [if_neg (fun z => qq (by omega)), if_neg (fun z => qq (by omega))]
  rw [e] at hP1
  exact hP1
end JA
