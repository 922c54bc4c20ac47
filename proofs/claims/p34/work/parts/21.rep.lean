/-! the law's own picture of the lodges: its cells hold what the class's do -/
/-- where its cells lie: the array of books, the array of joined places; each lodge's book; each sign; each place's row -/
abbrev RR : Type := Nat × Nat × (Nat → Nat) × (Nat → Nat → Nat) × (Nat → Nat)
abbrev ru (r : RR) : Nat := r.1
abbrev rv (r : RR) : Nat := r.2.1
abbrev rL (r : RR) : Nat → Nat := r.2.2.1
abbrev rS (r : RR) : Nat → Nat → Nat := r.2.2.2.1
abbrev rT (r : RR) : Nat → Nat := r.2.2.2.2
/-- a sign's five numbers -/
def sgn (L m : Int) : Int → Int := fun i => if i = 0 then L % 16 else if i = 1 then L / 16 % 4 else if i = 2 then L / 256 else if i = 3 then L / 64 % 4 else m
/-- an array that holds a sign -/
abbrev Sn (g : GG) (X : va_W) (x : Nat) (L m : Int) : Prop := (x, ri g (sgn L m) 5) ∈ X
abbrev nLo (σ : Sg) : Nat := (σ.1 0).toNat
def Rp (g : GG) (X : va_W) (a : Nat) (σ : Sg) (r : RR) : Prop :=
  (a, (.inr (3, [.ref (ru r), .ref (rv r)]) : va_E)) ∈ X ∧
  (ru r, rq (gU g) (nLo σ) (fun j => if j < nLo σ then some (rL r j) else none)) ∈ X ∧
  (∀ l, l < nLo σ → (rL r l, rq (gY g) (cN σ l) (fun j => if j < cN σ l then some (rS r l j) else none)) ∈ X) ∧
  (∀ l, l < nLo σ → ∀ k : Nat, k < cN σ l → Sn g X (rS r l k) (σ.2 (1 + l) k) (σ.2 (6 + l) k)) ∧
  (rv r, rq (gV g) 9 (fun j => if j < 9 then some (rT r j) else none)) ∈ X ∧
  (∀ p : Nat, p < 9 → (rT r p, zi g (fun q => if σ.2 0 p = σ.2 0 q then 1 else 0) 9) ∈ X) ∧
  (∀ l l2, l < nLo σ → l2 < nLo σ → rL r l = rL r l2 → l = l2)
theorem Rp.sb {g : GG} {X Y : va_W} {a : Nat} {σ : Sg} {r : RR} (h : Rp g X a σ r) (hs : Sb X Y) : Rp g Y a σ r :=
  ⟨hs _ h.1, hs _ h.2.1, fun l hl => hs _ (h.2.2.1 l hl), fun l hl k hk => hs _ (h.2.2.2.1 l hl k hk), hs _ h.2.2.2.2.1, fun p hp => hs _ (h.2.2.2.2.2.1 p hp), h.2.2.2.2.2.2⟩
theorem IC_n {σ : Sg} (hI : IC σ) : ((nLo σ : Nat) : Int) = σ.1 0 ∧ nLo σ ≤ 4 := by
  have := hI.1
  show ((σ.1 0).toNat : Int) = σ.1 0 ∧ (σ.1 0).toNat ≤ 4
  omega
theorem IC_l {σ : Sg} (hI : IC σ) {l : Int} (hl : 0 ≤ l ∧ l < σ.1 0) : l.toNat < nLo σ ∧ l.toNat < 4 ∧ l.toNat < 5 := by
  have := IC_n hI
  omega
theorem IC_k {σ : Sg} (hI : IC σ) {l : Int} (hl : 0 ≤ l ∧ l < σ.1 0) : ((cN σ l.toNat : Nat) : Int) = σ.1 (2 + l.toNat) ∧ cN σ l.toNat ≤ 16 := by
  have h1 := cN_eq hI (IC_l hI hl).2.2
  have h2 := hI.2.2.2.1 l.toNat (IC_l hI hl).2.2
  omega
theorem IC_s {σ : Sg} (hI : IC σ) {l z : Int} (hl : 0 ≤ l ∧ l < σ.1 0) (hz : 0 ≤ z ∧ z < σ.1 (2 + l.toNat)) : 0 ≤ σ.2 (1 + l.toNat) z ∧ σ.2 (1 + l.toNat) z < 2304 ∧ 0 ≤ σ.2 (6 + l.toNat) z ∧ σ.2 (6 + l.toNat) z < 30 := by
  have h0 := IC_k hI hl
  have h1 := hI.2.2.2.2.1 l.toNat (IC_l hI hl).2.2 z hz.1 (by omega)
  have h2 := hI.2.2.2.2.2 l.toNat (IC_l hI hl).2.2 z hz.1 (by omega)
  exact ⟨h1.1, h1.2, h2.1, h2.2⟩
theorem Rp.sn {g : GG} {X : va_W} {a : Nat} {σ : Sg} {r : RR} (h : Rp g X a σ r) (hI : IC σ) {l z : Int} (hl : 0 ≤ l ∧ l < σ.1 0) (hz : 0 ≤ z ∧ z < σ.1 (2 + l.toNat)) : Sn g X (rS r l.toNat z.toNat) (σ.2 (1 + l.toNat) z) (σ.2 (6 + l.toNat) z) := by
  have h0 := IC_k hI hl
  have h1 := h.2.2.2.1 l.toNat (IC_l hI hl).1 z.toNat (by omega)
  rwa [show ((z.toNat : Nat) : Int) = z by omega] at h1
section RJ
variable {mc : MC} {g : GG} {X : va_W} {k n : Nat} {Q : State → Prop} {pc : Nat} {lv : List (Nat × Value)} {st : List Value} {σ : Sg} {cc : ByteArray} {own : String} {nL : Nat} {ret : Option FieldType} {a : Nat} {r : RR}
theorem r_books (hC : Cx mc (gx g X) cc own nL ret) (hr : Rp g X a σ r) {index : Nat} (hlink : Cond.fieldLink own index "SignMasonsLaw$Sim" "books" "[[[I" ∈ wsA) (hd : decode cc pc = .ok (.getfield index, 3)) (kk : J mc (gx g X) k n Q (pc + 3) lv (.ref (ru r) :: st) σ) : J mc (gx g X) k n Q pc lv (.ref a :: st) σ :=
  x_get hC hr.1 0 (by decide) hlink rfl hd kk
theorem r_joined (hC : Cx mc (gx g X) cc own nL ret) (hr : Rp g X a σ r) {index : Nat} (hlink : Cond.fieldLink own index "SignMasonsLaw$Sim" "joined" "[[Z" ∈ wsA) (hd : decode cc pc = .ok (.getfield index, 3)) (kk : J mc (gx g X) k n Q (pc + 3) lv (.ref (rv r) :: st) σ) : J mc (gx g X) k n Q pc lv (.ref a :: st) σ :=
  x_get hC hr.1 1 (by decide) hlink rfl hd kk
theorem r_blen (hC : Cx mc (gx g X) cc own nL ret) (hr : Rp g X a σ r) (hI : IC σ) (hd : decode cc pc = .ok (.arraylength, 1)) (kk : J mc (gx g X) k n Q (pc + 1) lv (vI (σ.1 0) :: st) σ) : J mc (gx g X) k n Q pc lv (.ref (ru r) :: st) σ :=
  x_alen hC hr.2.1 4 rfl (IC_n hI).1 hd kk
theorem r_lodge (hC : Cx mc (gx g X) cc own nL ret) (hr : Rp g X a σ r) (hI : IC σ) {l : Int} (hl : 0 ≤ l ∧ l < σ.1 0) (hd : decode cc pc = .ok (.aaload, 1)) (kk : J mc (gx g X) k n Q (pc + 1) lv (.ref (rL r l.toNat) :: st) σ) : J mc (gx g X) k n Q pc lv (vI l :: .ref (ru r) :: st) σ := by
  have h1 := IC_n hI
  have h2 := IC_l hI hl
  exact x_rald hC hr.2.1 4 rfl rfl (if_pos h2.1) ⟨hl.1, by omega, by omega⟩ hd kk
theorem r_llen (hC : Cx mc (gx g X) cc own nL ret) (hr : Rp g X a σ r) (hI : IC σ) {l : Int} (hl : 0 ≤ l ∧ l < σ.1 0) (hd : decode cc pc = .ok (.arraylength, 1)) (kk : J mc (gx g X) k n Q (pc + 1) lv (vI (σ.1 (2 + l.toNat)) :: st) σ) : J mc (gx g X) k n Q pc lv (.ref (rL r l.toNat) :: st) σ :=
  x_alen hC (hr.2.2.1 l.toNat (IC_l hI hl).1) 3 rfl (IC_k hI hl).1 hd kk
theorem r_sign (hC : Cx mc (gx g X) cc own nL ret) (hr : Rp g X a σ r) (hI : IC σ) {l z : Int} (hl : 0 ≤ l ∧ l < σ.1 0) (hz : 0 ≤ z ∧ z < σ.1 (2 + l.toNat)) (hd : decode cc pc = .ok (.aaload, 1)) (kk : J mc (gx g X) k n Q (pc + 1) lv (.ref (rS r l.toNat z.toNat) :: st) σ) : J mc (gx g X) k n Q pc lv (vI z :: .ref (rL r l.toNat) :: st) σ := by
  have h1 := IC_k hI hl
  exact x_rald hC (hr.2.2.1 l.toNat (IC_l hI hl).1) 3 rfl rfl (if_pos (by omega)) ⟨hz.1, by omega, by omega⟩ hd kk
theorem r_row (hC : Cx mc (gx g X) cc own nL ret) (hr : Rp g X a σ r) {p : Int} (hp : 0 ≤ p ∧ p < 9) (hd : decode cc pc = .ok (.aaload, 1)) (kk : J mc (gx g X) k n Q (pc + 1) lv (.ref (rT r p.toNat) :: st) σ) : J mc (gx g X) k n Q pc lv (vI p :: .ref (rv r) :: st) σ :=
  x_rald hC hr.2.2.2.2.1 5 rfl rfl (if_pos (by omega)) ⟨hp.1, by omega, by omega⟩ hd kk
theorem r_bit (hC : Cx mc (gx g X) cc own nL ret) (hr : Rp g X a σ r) {p q : Int} (hp : 0 ≤ p ∧ p < 9) (hq : 0 ≤ q ∧ q < 9) (hd : decode cc pc = .ok (.baload, 1)) (kk : J mc (gx g X) k n Q (pc + 1) lv (vI (if σ.2 0 p = σ.2 0 q then 1 else 0) :: st) σ) : J mc (gx g X) k n Q pc lv (vI q :: .ref (rT r p.toNat) :: st) σ := by
  have h := hr.2.2.2.2.2.1 p.toNat (by omega)
  rw [show ((p.toNat : Nat) : Int) = p by omega] at h
  exact x_zald (m0 := 9) (f := fun q => if σ.2 0 p = σ.2 0 q then 1 else 0) hC h ⟨hq.1, by omega, by omega⟩ hd kk
variable {x : Nat} {L m : Int}
theorem r_num0 (hC : Cx mc (gx g X) cc own nL ret) (hs : Sn g X x L m) (hd : decode cc pc = .ok (.iaload, 1)) (kk : J mc (gx g X) k n Q (pc + 1) lv (vI (L % 16) :: st) σ) : J mc (gx g X) k n Q pc lv (vI 0 :: .ref x :: st) σ := x_iald hC hs (by decide) hd kk
theorem r_num1 (hC : Cx mc (gx g X) cc own nL ret) (hs : Sn g X x L m) (hd : decode cc pc = .ok (.iaload, 1)) (kk : J mc (gx g X) k n Q (pc + 1) lv (vI (L / 16 % 4) :: st) σ) : J mc (gx g X) k n Q pc lv (vI 1 :: .ref x :: st) σ := x_iald hC hs (by decide) hd kk
theorem r_num2 (hC : Cx mc (gx g X) cc own nL ret) (hs : Sn g X x L m) (hd : decode cc pc = .ok (.iaload, 1)) (kk : J mc (gx g X) k n Q (pc + 1) lv (vI (L / 256) :: st) σ) : J mc (gx g X) k n Q pc lv (vI 2 :: .ref x :: st) σ := x_iald hC hs (by decide) hd kk
theorem r_num3 (hC : Cx mc (gx g X) cc own nL ret) (hs : Sn g X x L m) (hd : decode cc pc = .ok (.iaload, 1)) (kk : J mc (gx g X) k n Q (pc + 1) lv (vI (L / 64 % 4) :: st) σ) : J mc (gx g X) k n Q pc lv (vI 3 :: .ref x :: st) σ := x_iald hC hs (by decide) hd kk
theorem r_num4 (hC : Cx mc (gx g X) cc own nL ret) (hs : Sn g X x L m) (hd : decode cc pc = .ok (.iaload, 1)) (kk : J mc (gx g X) k n Q (pc + 1) lv (vI m :: st) σ) : J mc (gx g X) k n Q pc lv (vI 4 :: .ref x :: st) σ := x_iald hC hs (by decide) hd kk
end RJ
