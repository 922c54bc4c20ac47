theorem tl_6 {σ : Sg} {b e : Nat} {s : Int} : (tlS σ b s e).1 6 = σ.1 (2 + e) + 1 := by
  show (apB (cpB σ 4 e) 4 _ _).1 6 = _
  rw [ap_1, if_pos (by decide)]
  show (if (2 + 4 : Nat) = 2 + 4 then σ.1 (2 + e) else σ.1 (2 + 4)) + 1 = _
  rw [if_pos rfl]
theorem cp_r {σ : Sg} {e : Nat} (r : Nat) (j : Int) (h5 : r ≠ 5) (h10 : r ≠ 10) : (cpB σ 4 e).2 r j = σ.2 r j := by
  show (sR (sR σ 5 _) 10 _).2 r j = σ.2 r j
  rw [sR_2, if_neg h10, sR_2, if_neg h5]
theorem cp_5 {σ : Sg} {e : Nat} {j : Int} (h0 : 0 ≤ j) (h1 : j < 16) : (cpB σ 4 e).2 5 j = σ.2 (1 + e) j := by
  simp [cpB, sF, sR, h0, h1]
theorem cp_10 {σ : Sg} {e : Nat} (he : e < 4) {j : Int} (h0 : 0 ≤ j) (h1 : j < 16) : (cpB σ 4 e).2 10 j = σ.2 (6 + e) j := by
  have h : 6 + e ≠ 5 := by omega
  simp [cpB, sF, sR, h0, h1, h]
theorem tl_r {σ : Sg} {b e : Nat} {s : Int} (r : Nat) (j : Int) (h5 : r ≠ 5) (h10 : r ≠ 10) : (tlS σ b s e).2 r j = σ.2 r j := by
  show (apB (cpB σ 4 e) 4 _ _).2 r j = _
  rw [ap_lk (by decide), if_neg (by omega), if_neg (by omega), cp_r r j h5 h10]
theorem tl_5 {σ : Sg} {b e : Nat} {s j : Int} (h0 : 0 ≤ j) (h1 : j < 16) : (tlS σ b s e).2 5 j = if j = σ.1 (2 + e) then fuB σ e (σ.2 (1 + b) s) else σ.2 (1 + e) j := by
  show (apB (cpB σ 4 e) 4 _ _).2 5 j = _
  rw [ap_lk (by decide), if_pos (by decide), cp_5 h0 h1]
  rfl
theorem tl_10 {σ : Sg} {b e : Nat} (he : e < 4) {s j : Int} (h0 : 0 ≤ j) (h1 : j < 16) : (tlS σ b s e).2 10 j = if j = σ.1 (2 + e) then σ.2 (6 + b) s else σ.2 (6 + e) j := by
  show (apB (cpB σ 4 e) 4 _ _).2 10 j = _
  rw [ap_lk (by decide), if_neg (by decide), if_pos (by decide), cp_10 he h0 h1]
  rfl
theorem tf_no {τ : Sg} {j l : Int} (h : tfM τ j l ≠ -1) : sgM τ l (τ.2 16 j) = -1 := by
  by_cases q : sgM τ l (τ.2 16 j) = -1
  · exact q
  · exact absurd (by unfold tfM; rw [if_pos (Or.inr q)]) h
/-- a loan, tried on both sides -/
theorem loan {σ τ : Sg} (hR : RC σ τ) {b e : Nat} (hb : b < 4) (he : e < 4) (hbe : b ≠ e) {z : Int} (h0 : 0 ≤ z) (h1 : z < τ.2 11 (b : Int)) (ht : tfM τ (16 * (b : Int) + z) (e : Int) ≠ -1) :
    cuB (tlS σ b z e) 4 b = raM (tbW τ (b : Int) (e : Int) z) (b : Int) (e : Int) 1 ∧ RC (tlS σ b z e) (tbU τ (b : Int) (e : Int) z) := by
  obtain ⟨r1, r2, r3, r4, r5⟩ := id hR
  have nb := r2.2.2.1 (b : Int) (by omega) (by omega)
  have ne := r2.2.2.1 (e : Int) (by omega) (by omega)
  have hroom := tfM_room r2 (l := (e : Int)) (by omega) ht
  have tr := tfM_rg r2 (j := 16 * (b : Int) + z) (l := (e : Int)) (by omega)
  have hk := lkM_in r2 (k := 16 * (b : Int) + z) (by omega)
  obtain ⟨t1, t2⟩ := tl_iff r2 (l := (e : Int)) (m := (b : Int)) (by omega) (by omega) r3 (r5 e he) (r5 b hb) h0 h1
  have fu := t2 ht
  have eb := (r5 b hb).2.1 z h0 h1
  have hW := IM_tbW r2 (a := (b : Int)) (c := (e : Int)) (z := z) (by omega) (by omega) ht
  have hU := IM_tbU r2 (a := (b : Int)) (c := (e : Int)) (z := z) (by omega) (by omega) ht
  have hIC := IC_tl r1 (b := b) (e := e) (by omega) (by omega) (s := z) (by omega) (t1.mpr ht)
  have e11 : (tbW τ (b : Int) (e : Int) z).2 11 (e : Int) = τ.2 11 (e : Int) + 1 := by
    unfold tbW
    rw [wr_11, if_pos rfl]
  have gW : GrR (tlS σ b z e) (tbW τ (b : Int) (e : Int) z) := GrR_cg r3 (funext fun j => tl_r 0 j (by decide) (by decide)) (tlS_1 (by decide)) (by unfold tbW; exact wr_17)
  have fu2 : fuB σ e (σ.2 (1 + b) z) = mkL (τ.2 12 (16 * (b : Int) + z)) (tfM τ (16 * (b : Int) + z) (e : Int)) (τ.2 14 (16 * (b : Int) + z)) (τ.2 15 (16 * (b : Int) + z)) := fu.trans (wth_mk hk)
  have b4 : BkR (tlS σ b z e) 4 (tbW τ (b : Int) (e : Int) z) (e : Int) := by
    refine BkR_app (L := fuB σ e (σ.2 (1 + b) z)) (x := τ.2 16 (16 * (b : Int) + z)) (r5 e he) hroom tl_6 e11 (fun j j0 j1 => tl_5 j0 j1) (fun j j0 j1 => ?_) (fun k => ?_) (fun k => ?_) (tf_no ht)
    · rw [← eb.2]
      exact tl_10 he j0 j1
    · rw [fu2]
      unfold tbW
      exact wr_lk k
    · unfold tbW
      exact wr_16 k
  have bb : BkR (tlS σ b z e) b (tbW τ (b : Int) (e : Int) z) (b : Int) := by
    refine BkR_keep (r5 b hb) nb (tlS_1 (by omega)) ?_ (fun j _ _ => tl_r _ j (by omega) (by omega)) (fun j _ _ => tl_r _ j (by omega) (by omega)) (fun y y0 y1 => ?_) (fun y y0 y1 => ?_)
    · unfold tbW
      rw [wr_11, if_neg (by omega)]
    · unfold tbW
      rw [wr_lk, if_neg (by omega)]
    · unfold tbW
      rw [wr_16, if_neg (by omega)]
  refine ⟨cuB_eq hW (l := (e : Int)) (m := (b : Int)) (by omega) (by omega) gW b4 bb, hIC, hU, ?_, ?_, fun l hl => ?_⟩
  · exact GrR_cg r3 (funext fun j => tl_r 0 j (by decide) (by decide)) (tlS_1 (by decide)) (show (tbW τ (b : Int) (e : Int) z).2 17 = τ.2 17 by unfold tbW; exact wr_17)
  · rw [tlS_1 (by decide), r4]
    rfl
  · have nl := r2.2.2.1 (l : Int) (by omega) (by omega)
    have hle : l = e → τ.2 11 (l : Int) = τ.2 11 (e : Int) := fun h => by rw [h]
    refine BkR_keep (r5 l hl) nl (tlS_1 (by omega)) (tbU_11 τ _ _ z _) (fun j _ _ => tl_r _ j (by omega) (by omega)) (fun j _ _ => tl_r _ j (by omega) (by omega)) (fun y y0 y1 => ?_) (fun y y0 y1 => ?_)
    · show lkM (tbW τ (b : Int) (e : Int) z) _ = _
      unfold tbW
      rw [wr_lk, if_neg (by omega)]
    · show (tbW τ (b : Int) (e : Int) z).2 16 _ = _
      unfold tbW
      rw [wr_16, if_neg (by omega)]
theorem bt_eq {b e : Nat} (hb : b < 4) (he : e < 4) (hbe : b ≠ e) : ∀ (d : Nat) (z fo mo : Int) (σ τ : Sg), RC σ τ → 0 ≤ z → z + d = τ.2 11 (b : Int) → (bbF b e d z fo mo σ).1 = (tbF (b : Int) (e : Int) d z fo mo τ).1 ∧ RC (bbF b e d z fo mo σ).2 (tbF (b : Int) (e : Int) d z fo mo τ).2 := by
  intro d
  induction d with
  | zero => intro z fo mo σ τ hR _ _; exact ⟨rfl, hR⟩
  | succ d ih =>
    intro z fo mo σ τ hR h0 hz
    have r2 := hR.2.1
    have t1 := (tl_iff r2 (l := (e : Int)) (m := (b : Int)) (by omega) (by omega) hR.2.2.1 (hR.2.2.2.2 e he) (hR.2.2.2.2 b hb) (z := z) h0 (by omega)).1
    unfold bbF tbF
    by_cases q : tfM τ (16 * (b : Int) + z) (e : Int) = -1
    · rw [if_pos q, if_neg (fun w => t1.mp w q)]
      exact ih (z + 1) fo mo σ τ hR (by omega) (by omega)
    · obtain ⟨l1, l2⟩ := loan hR hb he hbe h0 (by omega) q
      have e11 := tbU_11 τ (b : Int) (e : Int) z (b : Int)
      rw [if_neg q, if_pos (t1.mpr q), l1]
      split
      · exact ih (z + 1) z _ _ _ l2 (by omega) (by omega)
      · exact ih (z + 1) fo mo _ _ l2 (by omega) (by omega)
theorem RC_bb {σ τ : Sg} (hR : RC σ τ) {a c : Int} (ha : 0 ≤ a ∧ a < 4) (hc : 0 ≤ c ∧ c < 4) : (bbB σ a c).1 = (tbM τ a c).1 ∧ RC (bbB σ a c).2 (tbM τ a c).2 := by
  unfold bbB tbM
  by_cases q : a = c
  · rw [if_pos q, if_pos q]
    exact ⟨rfl, hR⟩
  · rw [if_neg q, if_neg q]
    have hB := RC_bk hR ha
    have h := bt_eq (b := a.toNat) (e := c.toNat) (by omega) (by omega) (by omega) (nM τ a) 0 (-1) (-1) σ τ hR (by omega) (by rw [Int.toNat_of_nonneg ha.1]; have := nM_eq hR.2.1 ha; omega)
    rw [Int.toNat_of_nonneg ha.1, Int.toNat_of_nonneg hc.1] at h
    rw [nn_eq hB]
    exact h
/-- another thumb -/
theorem RC_th {σ τ : Sg} (hR : RC σ τ) {b : Nat} (hb : b < 4) {s t : Int} (hs : 0 ≤ s ∧ s < τ.2 11 (b : Int)) (ht : 0 ≤ t ∧ t < 4) : RC (sG σ (1 + b) s (wth (σ.2 (1 + b) s) t)) (sG τ 13 (16 * (b : Int) + s) t) := by
  obtain ⟨r1, r2, r3, r4, r5⟩ := id hR
  have nb := r2.2.2.1 (b : Int) (by omega) (by omega)
  have eb := (r5 b hb).2.1 s hs.1 hs.2
  have hk := lkM_in r2 (k := 16 * (b : Int) + s) (by omega)
  have hw : 0 ≤ wth (σ.2 (1 + b) s) t ∧ wth (σ.2 (1 + b) s) t < 2304 := by
    have h := r1.2.2.2.2.1 b (by omega) s hs.1 (by omega)
    exact wth_rg ⟨h.1, h.2, ht.1, ht.2⟩
  refine ⟨?_, IM_13 r2 _ ht, GrR_cg r3 ?_ rfl ?_, r4, fun l hl => ?_⟩
  · obtain ⟨i1, i2, i3, i4, i5, i6⟩ := r1
    refine ⟨i1, i2, fun j j0 j1 => ?_, i4, fun q hq j j0 j1 => ?_, fun q hq j j0 j1 => ?_⟩
    · rw [sG_2, if_neg (by omega)]
      exact i3 j j0 j1
    · rw [sG_2]
      split
      · split
        · exact hw
        · exact i5 b (by omega) j j0 j1
      · exact i5 q hq j j0 j1
    · rw [sG_2, if_neg (by omega)]
      exact i6 q hq j j0 j1
  · funext j
    rw [sG_2, if_neg (by omega)]
  · funext j
    rw [sG_2, if_neg (by omega)]
  · have nl := r2.2.2.1 (l : Int) (by omega) (by omega)
    have lkm : ∀ k : Int, lkM (sG τ 13 (16 * (b : Int) + s) t) k = if k = 16 * (b : Int) + s then mkL (τ.2 12 k) t (τ.2 14 k) (τ.2 15 k) else lkM τ k := by
      intro k
      by_cases h : k = 16 * (b : Int) + s
      · simp [lkM, sG, h]
      · simp [lkM, sG, h]
    by_cases q : l = b
    · subst q
      obtain ⟨b1, b2, b3⟩ := r5 l hl
      refine ⟨b1, fun z z0 z1 => ?_, b3⟩
      have z1' : z < τ.2 11 (l : Int) := z1
      have e1 : (sG τ 13 (16 * (l : Int) + s) t).2 16 (16 * (l : Int) + z) = τ.2 16 (16 * (l : Int) + z) := by rw [sG_2, if_neg (by omega)]
      have a1 : (sG σ (1 + l) s (wth (σ.2 (1 + l) s) t)).2 (1 + l) z = if z = s then wth (σ.2 (1 + l) s) t else σ.2 (1 + l) z := by rw [sG_2, if_pos rfl]
      have a2 : (sG σ (1 + l) s (wth (σ.2 (1 + l) s) t)).2 (6 + l) z = σ.2 (6 + l) z := by rw [sG_2, if_neg (by omega)]
      rw [a1, a2, lkm, e1]
      by_cases w : z = s
      · subst w
        rw [if_pos rfl, if_pos rfl, eb.1]
        exact ⟨wth_mk hk, (b2 z z0 z1').2⟩
      · rw [if_neg w, if_neg (by omega)]
        exact b2 z z0 z1'
    · refine BkR_keep (r5 l hl) nl rfl rfl (fun j _ _ => ?_) (fun j _ _ => ?_) (fun y y0 y1 => ?_) (fun y y0 y1 => ?_)
      · rw [sG_2, if_neg (by omega)]
      · rw [sG_2, if_neg (by omega)]
      · rw [lkm, if_neg (by omega)]
      · rw [sG_2, if_neg (by omega)]
/-- a lodge more -/
theorem RC_al {σ τ : Sg} (hR : RC σ τ) (h : τ.1 8 < 4) : RC (sF σ 0 (σ.1 0 + 1)) (sF τ 8 (τ.1 8 + 1)) := by
  obtain ⟨r1, r2, r3, r4, r5⟩ := hR
  obtain ⟨i1, i2⟩ := r1
  obtain ⟨m1, m2⟩ := r2
  refine ⟨⟨?_, ?_⟩, ⟨?_, m2⟩, GrR_cg r3 rfl rfl rfl, ?_, fun l hl => ⟨by show (if 2 + l = 0 then _ else σ.1 (2 + l)) = _; rw [if_neg (by omega)]; exact (r5 l hl).1, (r5 l hl).2⟩⟩
  · show 0 ≤ σ.1 0 + 1 ∧ σ.1 0 + 1 ≤ 4
    omega
  · obtain ⟨i2, i3, i4, i5⟩ := i2
    refine ⟨i2, i3, fun b hb => ?_, i5⟩
    show 0 ≤ (if 2 + b = 0 then _ else σ.1 (2 + b)) ∧ (if 2 + b = 0 then _ else σ.1 (2 + b)) ≤ 16
    rw [if_neg (by omega)]
    exact i4 b hb
  · show 0 ≤ τ.1 8 + 1 ∧ τ.1 8 + 1 ≤ 4
    omega
  · show σ.1 0 + 1 = τ.1 8 + 1
    omega
theorem ms_eq {σ τ : Sg} (hR : RC σ τ) : ∀ (d : Nat) (z a : Int), 0 ≤ z → z + d ≤ 4 → msF σ d z a = msMF τ d z a := by
  intro d
  induction d with
  | zero => intro z a _ _; rfl
  | succ d ih =>
    intro z a h0 h1
    have hB := (RC_bk hR (a := z) ⟨h0, by omega⟩).1
    rw [show msF σ (d + 1) z a = msF σ d (z + 1) (a + σ.1 (2 + z.toNat)) from rfl, show msMF τ (d + 1) z a = msMF τ d (z + 1) (a + τ.2 11 z) from rfl, hB]
    exact ih (z + 1) _ (by omega) (by omega)
theorem msB_eq {σ τ : Sg} (hR : RC σ τ) : msB σ = msM τ := by
  unfold msB msM
  have h := hR.2.1.1
  rw [hR.2.2.2.1, ms_eq hR (τ.1 8).toNat 0 0 (by omega) (by omega)]
