/-! the law's own picture of the lodges: its cells hold what the class's do -/
/-- where its cells lie: the array of books, the array of joined places; each lodge's book; each sign; each place's row -/
abbrev RR : Type := Nat × Nat × (Nat → Nat) × (Nat → Nat → Nat) × (Nat → Nat)
abbrev ru (r : RR) : Nat := r.1
abbrev rv (r : RR) : Nat := r.2.1
abbrev rL (r : RR) : Nat → Nat := r.2.2.1
abbrev rS (r : RR) : Nat → Nat → Nat := r.2.2.2.1
abbrev rT (r : RR) : Nat → Nat := r.2.2.2.2
/-- a sign's five numbers -/
def sgn (L m : Int) : Int → Int := fun i => if i = 0 then L % 16 else if i = 1 then L / 16 % 4 else if i = 2 then L / 256 else if i = 3 then L / 64 % 4 else m
/-- an array that holds a sign; one of references; a row of places -/
def Sn (g : GG) (X : va_W) (x : Nat) (L m : Int) : Prop := ∃ f : Int → Int, (x, ri g f 5) ∈ X ∧ ∀ j : Int, 0 ≤ j → j < 5 → f j = sgn L m j
def Rq (X : va_W) (x : Nat) (c : ClassId) (n : Nat) (h : Nat → Nat) : Prop := ∃ f : Nat → Option Nat, (x, rq c n f) ∈ X ∧ ∀ j : Nat, j < n → f j = some (h j)
def Zr (g : GG) (X : va_W) (x : Nat) (G : Int → Int) (p : Int) : Prop := ∃ f : Int → Int, (x, zi g f 9) ∈ X ∧ ∀ j : Int, 0 ≤ j → j < 9 → f j = if G p = G j then 1 else 0
theorem Sn.sb {g : GG} {X Y : va_W} {x : Nat} {L m : Int} (h : Sn g X x L m) (hs : Sb X Y) : Sn g Y x L m := by
  obtain ⟨f, h1, h2⟩ := h
  exact ⟨f, hs _ h1, h2⟩
theorem Rq.sb {X Y : va_W} {x n : Nat} {c : ClassId} {h : Nat → Nat} (h0 : Rq X x c n h) (hs : Sb X Y) : Rq Y x c n h := by
  obtain ⟨f, h1, h2⟩ := h0
  exact ⟨f, hs _ h1, h2⟩
theorem Zr.sb {g : GG} {X Y : va_W} {x : Nat} {G : Int → Int} {p : Int} (h : Zr g X x G p) (hs : Sb X Y) : Zr g Y x G p := by
  obtain ⟨f, h1, h2⟩ := h
  exact ⟨f, hs _ h1, h2⟩
abbrev nLo (σ : Sg) : Nat := (σ.1 0).toNat
def Rp (g : GG) (X : va_W) (a : Nat) (σ : Sg) (r : RR) : Prop :=
  (a, (.inr (3, [.ref (ru r), .ref (rv r)]) : va_E)) ∈ X ∧
  Rq X (ru r) (gU g) (nLo σ) (rL r) ∧
  (∀ l, l < nLo σ → Rq X (rL r l) (gY g) (cN σ l) (rS r l)) ∧
  (∀ l, l < nLo σ → ∀ k : Nat, k < cN σ l → Sn g X (rS r l k) (σ.2 (1 + l) k) (σ.2 (6 + l) k)) ∧
  Rq X (rv r) (gV g) 9 (rT r) ∧
  (∀ p : Nat, p < 9 → Zr g X (rT r p) (σ.2 0) p) ∧
  (∀ l l2, l < nLo σ → l2 < nLo σ → rL r l = rL r l2 → l = l2)
theorem Rp.sb {g : GG} {X Y : va_W} {a : Nat} {σ : Sg} {r : RR} (h : Rp g X a σ r) (hs : Sb X Y) : Rp g Y a σ r :=
  ⟨hs _ h.1, h.2.1.sb hs, fun l hl => (h.2.2.1 l hl).sb hs, fun l hl k hk => (h.2.2.2.1 l hl k hk).sb hs, h.2.2.2.2.1.sb hs, fun p hp => (h.2.2.2.2.2.1 p hp).sb hs, h.2.2.2.2.2.2⟩
theorem IC_n {σ : Sg} (hI : IC σ) : ((nLo σ : Nat) : Int) = σ.1 0 ∧ nLo σ ≤ 4 := by
  have := hI.1
  show ((σ.1 0).toNat : Int) = σ.1 0 ∧ (σ.1 0).toNat ≤ 4
  omega
theorem IC_l {σ : Sg} (hI : IC σ) {l : Int} (hl : 0 ≤ l ∧ l < σ.1 0) : l.toNat < nLo σ ∧ l.toNat < 4 ∧ l.toNat < 5 := by
  have := IC_n hI
  omega
theorem IC_k {σ : Sg} (hI : IC σ) {l : Int} (hl : 0 ≤ l ∧ l < σ.1 0) : ((cN σ l.toNat : Nat) : Int) = σ.1 (2 + l.toNat) ∧ cN σ l.toNat ≤ 16 := by
  have h1 := cN_eq hI (IC_l hI hl).2.2
  have h2 := hI.2.2.2.1 l.toNat (IC_l hI hl).2.2
  omega
theorem IC_s {σ : Sg} (hI : IC σ) {l z : Int} (hl : 0 ≤ l ∧ l < σ.1 0) (hz : 0 ≤ z ∧ z < σ.1 (2 + l.toNat)) : 0 ≤ σ.2 (1 + l.toNat) z ∧ σ.2 (1 + l.toNat) z < 2304 ∧ 0 ≤ σ.2 (6 + l.toNat) z ∧ σ.2 (6 + l.toNat) z < 30 := by
  have h0 := IC_k hI hl
  have h1 := hI.2.2.2.2.1 l.toNat (IC_l hI hl).2.2 z hz.1 (by omega)
  have h2 := hI.2.2.2.2.2 l.toNat (IC_l hI hl).2.2 z hz.1 (by omega)
  exact ⟨h1.1, h1.2, h2.1, h2.2⟩
theorem Rp.sn {g : GG} {X : va_W} {a : Nat} {σ : Sg} {r : RR} (h : Rp g X a σ r) (hI : IC σ) {l z : Int} (hl : 0 ≤ l ∧ l < σ.1 0) (hz : 0 ≤ z ∧ z < σ.1 (2 + l.toNat)) : Sn g X (rS r l.toNat z.toNat) (σ.2 (1 + l.toNat) z) (σ.2 (6 + l.toNat) z) := by
  have h0 := IC_k hI hl
  have h1 := h.2.2.2.1 l.toNat (IC_l hI hl).1 z.toNat (by omega)
  rwa [show ((z.toNat : Nat) : Int) = z by omega] at h1
section RJ
variable {mc : MC} {g : GG} {X : va_W} {k n : Nat} {Q : State → Prop} {pc : Nat} {lv : List (Nat × Value)} {st : List Value} {σ : Sg} {cc : ByteArray} {own : String} {nL : Nat} {ret : Option FieldType} {a : Nat} {r : RR}
theorem r_books (hC : Cx mc (gx g X) cc own nL ret) (hr : Rp g X a σ r) {index : Nat} (hlink : Cond.fieldLink own index "SignMasonsLaw$Sim" "books" "[[[I" ∈ wsA) (hd : decode cc pc = .ok (.getfield index, 3)) (kk : J mc (gx g X) k n Q (pc + 3) lv (.ref (ru r) :: st) σ) : J mc (gx g X) k n Q pc lv (.ref a :: st) σ :=
  x_get hC hr.1 0 (by decide) hlink rfl hd kk
theorem r_joined (hC : Cx mc (gx g X) cc own nL ret) (hr : Rp g X a σ r) {index : Nat} (hlink : Cond.fieldLink own index "SignMasonsLaw$Sim" "joined" "[[Z" ∈ wsA) (hd : decode cc pc = .ok (.getfield index, 3)) (kk : J mc (gx g X) k n Q (pc + 3) lv (.ref (rv r) :: st) σ) : J mc (gx g X) k n Q pc lv (.ref a :: st) σ :=
  x_get hC hr.1 1 (by decide) hlink rfl hd kk
theorem q_len (hC : Cx mc (gx g X) cc own nL ret) {x m0 : Nat} {c : ClassId} {h : Nat → Nat} (hq : Rq X x c m0 h) (t0 : Nat) {ty : FieldType} (ht : (gT g)[t0]? = some (c, ty)) {z : Int} (hz : (m0 : Int) = z) (hd : decode cc pc = .ok (.arraylength, 1)) (kk : J mc (gx g X) k n Q (pc + 1) lv (vI z :: st) σ) : J mc (gx g X) k n Q pc lv (.ref x :: st) σ := by
  obtain ⟨f, h1, h2⟩ := hq
  exact x_alen hC h1 t0 ht hz hd kk
theorem q_ald (hC : Cx mc (gx g X) cc own nL ret) {x m0 : Nat} {c : ClassId} {h : Nat → Nat} (hq : Rq X x c m0 h) (t0 : Nat) {ty : FieldType} (ht : (gT g)[t0]? = some (c, ty)) (hr : ty.isReference = true) {z : Int} (hz : 0 ≤ z ∧ z < m0 ∧ m0 ≤ 2147483647) (hd : decode cc pc = .ok (.aaload, 1)) (kk : J mc (gx g X) k n Q (pc + 1) lv (.ref (h z.toNat) :: st) σ) : J mc (gx g X) k n Q pc lv (vI z :: .ref x :: st) σ := by
  obtain ⟨f, h1, h2⟩ := hq
  exact x_rald hC h1 t0 ht hr (h2 z.toNat (by omega)) hz hd kk
theorem r_blen (hC : Cx mc (gx g X) cc own nL ret) (hr : Rp g X a σ r) (hI : IC σ) (hd : decode cc pc = .ok (.arraylength, 1)) (kk : J mc (gx g X) k n Q (pc + 1) lv (vI (σ.1 0) :: st) σ) : J mc (gx g X) k n Q pc lv (.ref (ru r) :: st) σ :=
  q_len hC hr.2.1 4 rfl (IC_n hI).1 hd kk
theorem r_lodge (hC : Cx mc (gx g X) cc own nL ret) (hr : Rp g X a σ r) (hI : IC σ) {l : Int} (hl : 0 ≤ l ∧ l < σ.1 0) (hd : decode cc pc = .ok (.aaload, 1)) (kk : J mc (gx g X) k n Q (pc + 1) lv (.ref (rL r l.toNat) :: st) σ) : J mc (gx g X) k n Q pc lv (vI l :: .ref (ru r) :: st) σ := by
  have h1 := IC_n hI
  have h2 := IC_l hI hl
  exact q_ald hC hr.2.1 4 rfl rfl ⟨hl.1, by omega, by omega⟩ hd kk
theorem r_llen (hC : Cx mc (gx g X) cc own nL ret) (hr : Rp g X a σ r) (hI : IC σ) {l : Int} (hl : 0 ≤ l ∧ l < σ.1 0) (hd : decode cc pc = .ok (.arraylength, 1)) (kk : J mc (gx g X) k n Q (pc + 1) lv (vI (σ.1 (2 + l.toNat)) :: st) σ) : J mc (gx g X) k n Q pc lv (.ref (rL r l.toNat) :: st) σ :=
  q_len hC (hr.2.2.1 l.toNat (IC_l hI hl).1) 3 rfl (IC_k hI hl).1 hd kk
theorem r_sign (hC : Cx mc (gx g X) cc own nL ret) (hr : Rp g X a σ r) (hI : IC σ) {l z : Int} (hl : 0 ≤ l ∧ l < σ.1 0) (hz : 0 ≤ z ∧ z < σ.1 (2 + l.toNat)) (hd : decode cc pc = .ok (.aaload, 1)) (kk : J mc (gx g X) k n Q (pc + 1) lv (.ref (rS r l.toNat z.toNat) :: st) σ) : J mc (gx g X) k n Q pc lv (vI z :: .ref (rL r l.toNat) :: st) σ := by
  have h1 := IC_k hI hl
  exact q_ald hC (hr.2.2.1 l.toNat (IC_l hI hl).1) 3 rfl rfl ⟨hz.1, by omega, by omega⟩ hd kk
theorem r_row (hC : Cx mc (gx g X) cc own nL ret) (hr : Rp g X a σ r) {p : Int} (hp : 0 ≤ p ∧ p < 9) (hd : decode cc pc = .ok (.aaload, 1)) (kk : J mc (gx g X) k n Q (pc + 1) lv (.ref (rT r p.toNat) :: st) σ) : J mc (gx g X) k n Q pc lv (vI p :: .ref (rv r) :: st) σ :=
  q_ald hC hr.2.2.2.2.1 5 rfl rfl ⟨hp.1, by omega, by omega⟩ hd kk
theorem r_bit (hC : Cx mc (gx g X) cc own nL ret) (hr : Rp g X a σ r) {p q : Int} (hp : 0 ≤ p ∧ p < 9) (hq : 0 ≤ q ∧ q < 9) (hd : decode cc pc = .ok (.baload, 1)) (kk : J mc (gx g X) k n Q (pc + 1) lv (vI (if σ.2 0 p = σ.2 0 q then 1 else 0) :: st) σ) : J mc (gx g X) k n Q pc lv (vI q :: .ref (rT r p.toNat) :: st) σ := by
  obtain ⟨f, h1, h2⟩ := hr.2.2.2.2.2.1 p.toNat (by omega)
  rw [show ((p.toNat : Nat) : Int) = p by omega] at h2
  have e := h2 q hq.1 hq.2
  rw [← e] at kk
  exact x_zald (m0 := 9) (f := f) hC h1 ⟨hq.1, by omega, by omega⟩ hd kk
variable {x : Nat} {L m : Int}
theorem r_num (hC : Cx mc (gx g X) cc own nL ret) (hs : Sn g X x L m) {j : Int} (hj : 0 ≤ j ∧ j < 5) {y : Int} (hy : sgn L m j = y) (hd : decode cc pc = .ok (.iaload, 1)) (kk : J mc (gx g X) k n Q (pc + 1) lv (vI y :: st) σ) : J mc (gx g X) k n Q pc lv (vI j :: .ref x :: st) σ := by
  obtain ⟨f, h1, h2⟩ := hs
  have e := h2 j hj.1 hj.2
  rw [hy] at e
  rw [← e] at kk
  exact x_iald (m0 := 5) (f := f) hC h1 ⟨hj.1, by omega, by omega⟩ hd kk
theorem r_num0 (hC : Cx mc (gx g X) cc own nL ret) (hs : Sn g X x L m) (hd : decode cc pc = .ok (.iaload, 1)) (kk : J mc (gx g X) k n Q (pc + 1) lv (vI (L % 16) :: st) σ) : J mc (gx g X) k n Q pc lv (vI 0 :: .ref x :: st) σ := r_num hC hs (by decide) rfl hd kk
theorem r_num1 (hC : Cx mc (gx g X) cc own nL ret) (hs : Sn g X x L m) (hd : decode cc pc = .ok (.iaload, 1)) (kk : J mc (gx g X) k n Q (pc + 1) lv (vI (L / 16 % 4) :: st) σ) : J mc (gx g X) k n Q pc lv (vI 1 :: .ref x :: st) σ := r_num hC hs (by decide) rfl hd kk
theorem r_num2 (hC : Cx mc (gx g X) cc own nL ret) (hs : Sn g X x L m) (hd : decode cc pc = .ok (.iaload, 1)) (kk : J mc (gx g X) k n Q (pc + 1) lv (vI (L / 256) :: st) σ) : J mc (gx g X) k n Q pc lv (vI 2 :: .ref x :: st) σ := r_num hC hs (by decide) rfl hd kk
theorem r_num3 (hC : Cx mc (gx g X) cc own nL ret) (hs : Sn g X x L m) (hd : decode cc pc = .ok (.iaload, 1)) (kk : J mc (gx g X) k n Q (pc + 1) lv (vI (L / 64 % 4) :: st) σ) : J mc (gx g X) k n Q pc lv (vI 3 :: .ref x :: st) σ := r_num hC hs (by decide) rfl hd kk
theorem r_num4 (hC : Cx mc (gx g X) cc own nL ret) (hs : Sn g X x L m) (hd : decode cc pc = .ok (.iaload, 1)) (kk : J mc (gx g X) k n Q (pc + 1) lv (vI m :: st) σ) : J mc (gx g X) k n Q pc lv (vI 4 :: .ref x :: st) σ := r_num hC hs (by decide) rfl hd kk
end RJ
