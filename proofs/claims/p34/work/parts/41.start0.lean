/-! the beginning -/
theorem nest_on {w : Cond} (h : isNest w = true) : w.onTables = true := by cases w <;> first | rfl | (simp [isNest] at h)
def s0 : Sg := (fun v => match v with | 1 => 9 | _ => 0, fun r => match r with | 0 => g9 | _ => fun _ => 0)
theorem g9_is {p : Int} (h0 : 0 ≤ p) (h1 : p < 9) : g9 p = p := by
  rcases (show p = 0 ∨ p = 1 ∨ p = 2 ∨ p = 3 ∨ p = 4 ∨ p = 5 ∨ p = 6 ∨ p = 7 ∨ p = 8 by omega) with rfl | rfl | rfl | rfl | rfl | rfl | rfl | rfl | rfl <;> decide
theorem s0_1 (v : Nat) (h : v ≠ 1) : s0.1 v = 0 := by
  show (match v with | 1 => (9 : Int) | _ => 0) = 0
  split
  · exact absurd rfl h
  · rfl
theorem s0_2 (r : Nat) (h : r ≠ 0) (j : Int) : s0.2 r j = 0 := by
  show (match r with | 0 => g9 | _ => fun _ => (0 : Int)) j = 0
  split
  · exact absurd rfl h
  · rfl
theorem Iv_0 : Iv s0 := by
  have g0 : s0.2 0 = g9 := rfl
  refine ⟨⟨by decide, by decide, fun j j0 j1 => ?_, fun b hb => ?_, fun b hb j j0 j1 => ?_, fun b hb j j0 j1 => ?_⟩, fun b hb y z y0 y1 z0 z1 q => ?_, by decide +kernel, fun b hb hb4 => s0_1 _ (by omega)⟩
  · rw [g0, g9_is j0 j1]; omega
  · rw [s0_1 _ (by omega)]; omega
  · rw [s0_2 _ (by omega)]; omega
  · rw [s0_2 _ (by omega)]; omega
  · rw [s0_1 _ (by omega)] at y1; omega
theorem hG_0 : ∀ p j : Int, 0 ≤ p → p < 9 → 0 ≤ j → j < 9 → (s0.2 0 p = s0.2 0 j ↔ p = j) := by
  intro p j p0 p1 j0 j1
  have g0 : s0.2 0 = g9 := rfl
  rw [g0, g9_is p0 p1, g9_is j0 j1]
theorem arrV_ext (cA : ClassId) (N : Nat) (f h : Nat → Value) (e : ∀ j, j < N → f j = h j) : arrV cA N f = arrV cA N h := by
  unfold arrV
  congr 1
  congr 1
  funext j
  exact e j.1 j.2
theorem va_P_set {D : va_G} {cl : List vw_C} {ws : va_W} {H : Heap} (h : va_P D cl ws H) (i : Nat) {a : Nat} {e : va_E} (he : va_at D cl (a, e) H) : va_P D cl (ws.set i (a, e)) H := by
  intro k q hk
  by_cases hki : i = k
  · subst hki
    by_cases hl : i < ws.length
    · rw [List.getElem?_set_self hl] at hk
      cases hk
      exact he
    · rw [List.getElem?_eq_none (by rw [List.length_set]; omega)] at hk
      cases hk
  · rw [List.getElem?_set_ne hki] at hk
    exact h k q hk
