theorem cc_eq {a b : Int} (hr : -2147483648 ≤ a ∧ a < 2147483648 ∧ -2147483648 ≤ b ∧ b < 2147483648) (h : iI a = iI b) : a = b := (iI_eq hr.1 hr.2.1 hr.2.2.1 hr.2.2.2).mp h
theorem cc_ne {a b : Int} (hr : -2147483648 ≤ a ∧ a < 2147483648 ∧ -2147483648 ≤ b ∧ b < 2147483648) (h : ¬ iI a = iI b) : a ≠ b := fun q => h ((iI_eq hr.1 hr.2.1 hr.2.2.1 hr.2.2.2).mpr q)
theorem cc_lt {a b : Int} (hr : -2147483648 ≤ a ∧ a < 2147483648 ∧ -2147483648 ≤ b ∧ b < 2147483648) (h : iI a < iI b) : a < b := (iI_lt hr.1 hr.2.1 hr.2.2.1 hr.2.2.2).mp h
theorem cc_nlt {a b : Int} (hr : -2147483648 ≤ a ∧ a < 2147483648 ∧ -2147483648 ≤ b ∧ b < 2147483648) (h : ¬ iI a < iI b) : b ≤ a := Int.not_lt.mp (fun q => h ((iI_lt hr.1 hr.2.1 hr.2.2.1 hr.2.2.2).mpr q))
theorem cc_le {a b : Int} (hr : -2147483648 ≤ a ∧ a < 2147483648 ∧ -2147483648 ≤ b ∧ b < 2147483648) (h : iI a ≤ iI b) : a ≤ b := (iI_le hr.1 hr.2.1 hr.2.2.1 hr.2.2.2).mp h
theorem cc_nle {a b : Int} (hr : -2147483648 ≤ a ∧ a < 2147483648 ∧ -2147483648 ≤ b ∧ b < 2147483648) (h : ¬ iI a ≤ iI b) : b < a := Int.not_le.mp (fun q => h ((iI_le hr.1 hr.2.1 hr.2.2.1 hr.2.2.2).mpr q))
theorem cc_gt {a b : Int} (hr : -2147483648 ≤ a ∧ a < 2147483648 ∧ -2147483648 ≤ b ∧ b < 2147483648) (h : iI b < iI a) : b < a := (iI_lt hr.2.2.1 hr.2.2.2 hr.1 hr.2.1).mp h
theorem cc_ngt {a b : Int} (hr : -2147483648 ≤ a ∧ a < 2147483648 ∧ -2147483648 ≤ b ∧ b < 2147483648) (h : ¬ iI b < iI a) : a ≤ b := Int.not_lt.mp (fun q => h ((iI_lt hr.2.2.1 hr.2.2.2 hr.1 hr.2.1).mpr q))
theorem cc_ge {a b : Int} (hr : -2147483648 ≤ a ∧ a < 2147483648 ∧ -2147483648 ≤ b ∧ b < 2147483648) (h : iI b ≤ iI a) : b ≤ a := (iI_le hr.2.2.1 hr.2.2.2 hr.1 hr.2.1).mp h
theorem cc_nge {a b : Int} (hr : -2147483648 ≤ a ∧ a < 2147483648 ∧ -2147483648 ≤ b ∧ b < 2147483648) (h : ¬ iI b ≤ iI a) : a < b := Int.not_le.mp (fun q => h ((iI_le hr.2.2.1 hr.2.2.2 hr.1 hr.2.1).mpr q))
theorem cc_nne {a b : Int} (hr : -2147483648 ≤ a ∧ a < 2147483648 ∧ -2147483648 ≤ b ∧ b < 2147483648) (h : ¬ ¬ iI a = iI b) : a = b := (iI_eq hr.1 hr.2.1 hr.2.2.1 hr.2.2.2).mp (Classical.not_not.mp h)
section JJ
variable {mc : MC} {g : GG} {k n : Nat} {Q : State → Prop} {pc : Nat} {lv : List (Nat × Value)} {st : List Value} {σ : Sg} {cc : ByteArray} {own : String} {nL : Nat} {ret : Option FieldType}
theorem j_iconst {z : Int} (hC : Cx mc g cc own nL ret) (hd : decode cc pc = .ok (.iconst z, 1)) (kk : J mc g k n Q (pc + 1) lv (vI z :: st) σ) : J mc g k n Q pc lv (st) σ :=
  fun H locs ls hP hS hl => lv_iconst hC.1 hC.2.1 hd rfl (kk H locs ls hP hS hl)
theorem j_bipush {z : Int} (hC : Cx mc g cc own nL ret) (hd : decode cc pc = .ok (.bipush z, 2)) (hz : (Int8.ofInt z).toInt32 = iI z) (kk : J mc g k n Q (pc + 2) lv (vI z :: st) σ) : J mc g k n Q pc lv (st) σ :=
  fun H locs ls hP hS hl => lv_bipush hC.1 hC.2.1 hd hz (kk H locs ls hP hS hl)
theorem j_sipush {z : Int} (hC : Cx mc g cc own nL ret) (hd : decode cc pc = .ok (.sipush z, 3)) (hz : (Int16.ofInt z).toInt32 = iI z) (kk : J mc g k n Q (pc + 3) lv (vI z :: st) σ) : J mc g k n Q pc lv (st) σ :=
  fun H locs ls hP hS hl => lv_sipush hC.1 hC.2.1 hd hz (kk H locs ls hP hS hl)
theorem j_iload_n {f : Fin 4} {x : Int32} (hC : Cx mc g cc own nL ret) (hd : decode cc pc = .ok (.iload_n f, 1)) (q : Nat) (hq : lv[q]? = some ((f : Nat), .int x)) (kk : J mc g k n Q (pc + 1) lv (.int x :: st) σ) : J mc g k n Q pc lv (st) σ :=
  fun H locs ls hP hS hl => lv_iload_n hC.1 hC.2.1 hd rfl (lv_at hl q hq) (kk H locs ls hP hS hl)
theorem j_iload {f : Nat} {x : Int32} (hC : Cx mc g cc own nL ret) (hd : decode cc pc = .ok (.iload f, 2)) (q : Nat) (hq : lv[q]? = some (f, .int x)) (kk : J mc g k n Q (pc + 2) lv (.int x :: st) σ) : J mc g k n Q pc lv (st) σ :=
  fun H locs ls hP hS hl => lv_iload hC.1 hC.2.1 hd (lv_at hl q hq) (kk H locs ls hP hS hl)
theorem j_lload_n {f : Fin 4} {x : Int64} (hC : Cx mc g cc own nL ret) (hd : decode cc pc = .ok (.lload_n f, 1)) (q : Nat) (hq : lv[q]? = some ((f : Nat), .long x)) (kk : J mc g k n Q (pc + 1) lv (.long x :: st) σ) : J mc g k n Q pc lv (st) σ :=
  fun H locs ls hP hS hl => lv_lload_n hC.1 hC.2.1 hd rfl (lv_at hl q hq) (kk H locs ls hP hS hl)
theorem j_lload {f : Nat} {x : Int64} (hC : Cx mc g cc own nL ret) (hd : decode cc pc = .ok (.lload f, 2)) (q : Nat) (hq : lv[q]? = some (f, .long x)) (kk : J mc g k n Q (pc + 2) lv (.long x :: st) σ) : J mc g k n Q pc lv (st) σ :=
  fun H locs ls hP hS hl => lv_lload hC.1 hC.2.1 hd (lv_at hl q hq) (kk H locs ls hP hS hl)
theorem j_dload {f : Nat} {x : UInt64} (hC : Cx mc g cc own nL ret) (hd : decode cc pc = .ok (.dload f, 2)) (q : Nat) (hq : lv[q]? = some (f, .double x)) (kk : J mc g k n Q (pc + 2) lv (.double x :: st) σ) : J mc g k n Q pc lv (st) σ :=
  fun H locs ls hP hS hl => lv_dload hC.1 hC.2.1 hd (lv_at hl q hq) (kk H locs ls hP hS hl)
theorem j_aload_n {f : Fin 4} {x : Nat} (hC : Cx mc g cc own nL ret) (hd : decode cc pc = .ok (.aload_n f, 1)) (q : Nat) (hq : lv[q]? = some ((f : Nat), .ref x)) (kk : J mc g k n Q (pc + 1) lv (.ref x :: st) σ) : J mc g k n Q pc lv (st) σ :=
  fun H locs ls hP hS hl => lv_aload_n hC.1 hC.2.1 hd rfl (lv_at hl q hq) (kk H locs ls hP hS hl)
theorem j_aload {f : Nat} {x : Nat} (hC : Cx mc g cc own nL ret) (hd : decode cc pc = .ok (.aload f, 2)) (q : Nat) (hq : lv[q]? = some (f, .ref x)) (kk : J mc g k n Q (pc + 2) lv (.ref x :: st) σ) : J mc g k n Q pc lv (st) σ :=
  fun H locs ls hP hS hl => lv_aload hC.1 hC.2.1 hd (lv_at hl q hq) (kk H locs ls hP hS hl)
theorem j_istore_n (hC : Cx mc g cc own nL ret) {f : Fin 4} {x : Int32} (hd : decode cc pc = .ok (.istore_n f, 1)) (lv2 : List (Nat × Value)) (hn : (f : Nat) < nL) (he : ((f : Nat), Value.int x) :: lv.filter (fun q => !(q.1 == (f : Nat)) && !(q.1 + 1 == (f : Nat) && q.2.category == 2)) = lv2) (kk : J mc g k n Q (pc + 1) lv2 st σ) : J mc g k n Q pc lv (.int x :: st) σ :=
  fun H locs ls hP hS hl => lv_istore_n hC.1 hC.2.1 hd rfl hl (by rw [hC.2.2.1]; exact hn) he (fun ls2 hl2 => kk H locs ls2 hP hS hl2)
theorem j_istore (hC : Cx mc g cc own nL ret) {f : Nat} {x : Int32} (hd : decode cc pc = .ok (.istore f, 2)) (lv2 : List (Nat × Value)) (hn : f < nL) (he : (f, Value.int x) :: lv.filter (fun q => !(q.1 == f) && !(q.1 + 1 == f && q.2.category == 2)) = lv2) (kk : J mc g k n Q (pc + 2) lv2 st σ) : J mc g k n Q pc lv (.int x :: st) σ :=
  fun H locs ls hP hS hl => lv_istore hC.1 hC.2.1 hd hl (by rw [hC.2.2.1]; exact hn) he (fun ls2 hl2 => kk H locs ls2 hP hS hl2)
theorem j_lstore_n (hC : Cx mc g cc own nL ret) {f : Fin 4} {x : Int64} (hd : decode cc pc = .ok (.lstore_n f, 1)) (lv2 : List (Nat × Value)) (hn : (f : Nat) + 1 < nL) (he : ((f : Nat), Value.long x) :: lv.filter (fun q => !(q.1 == (f : Nat)) && (!(q.1 == (f : Nat) + 1) && !(q.1 + 1 == (f : Nat) && q.2.category == 2))) = lv2) (kk : J mc g k n Q (pc + 1) lv2 st σ) : J mc g k n Q pc lv (.long x :: st) σ :=
  fun H locs ls hP hS hl => lv_lstore_n hC.1 hC.2.1 hd rfl hl (by rw [hC.2.2.1]; exact hn) he (fun ls2 hl2 => kk H locs ls2 hP hS hl2)
theorem j_lstore (hC : Cx mc g cc own nL ret) {f : Nat} {x : Int64} (hd : decode cc pc = .ok (.lstore f, 2)) (lv2 : List (Nat × Value)) (hn : f + 1 < nL) (he : (f, Value.long x) :: lv.filter (fun q => !(q.1 == f) && (!(q.1 == f + 1) && !(q.1 + 1 == f && q.2.category == 2))) = lv2) (kk : J mc g k n Q (pc + 2) lv2 st σ) : J mc g k n Q pc lv (.long x :: st) σ :=
  fun H locs ls hP hS hl => lv_lstore hC.1 hC.2.1 hd hl (by rw [hC.2.2.1]; exact hn) he (fun ls2 hl2 => kk H locs ls2 hP hS hl2)
theorem j_dstore (hC : Cx mc g cc own nL ret) {f : Nat} {x : UInt64} (hd : decode cc pc = .ok (.dstore f, 2)) (lv2 : List (Nat × Value)) (hn : f + 1 < nL) (he : (f, Value.double x) :: lv.filter (fun q => !(q.1 == f) && (!(q.1 == f + 1) && !(q.1 + 1 == f && q.2.category == 2))) = lv2) (kk : J mc g k n Q (pc + 2) lv2 st σ) : J mc g k n Q pc lv (.double x :: st) σ :=
  fun H locs ls hP hS hl => lv_dstore hC.1 hC.2.1 hd hl (by rw [hC.2.2.1]; exact hn) he (fun ls2 hl2 => kk H locs ls2 hP hS hl2)
theorem j_astore_n (hC : Cx mc g cc own nL ret) {f : Fin 4} {x : Nat} (hd : decode cc pc = .ok (.astore_n f, 1)) (lv2 : List (Nat × Value)) (hn : (f : Nat) < nL) (he : ((f : Nat), Value.ref x) :: lv.filter (fun q => !(q.1 == (f : Nat)) && !(q.1 + 1 == (f : Nat) && q.2.category == 2)) = lv2) (kk : J mc g k n Q (pc + 1) lv2 st σ) : J mc g k n Q pc lv (.ref x :: st) σ :=
  fun H locs ls hP hS hl => lv_astore_n hC.1 hC.2.1 hd rfl hl (by rw [hC.2.2.1]; exact hn) he (fun ls2 hl2 => kk H locs ls2 hP hS hl2)
theorem j_astore (hC : Cx mc g cc own nL ret) {f : Nat} {x : Nat} (hd : decode cc pc = .ok (.astore f, 2)) (lv2 : List (Nat × Value)) (hn : f < nL) (he : (f, Value.ref x) :: lv.filter (fun q => !(q.1 == f) && !(q.1 + 1 == f && q.2.category == 2)) = lv2) (kk : J mc g k n Q (pc + 2) lv2 st σ) : J mc g k n Q pc lv (.ref x :: st) σ :=
  fun H locs ls hP hS hl => lv_astore hC.1 hC.2.1 hd hl (by rw [hC.2.2.1]; exact hn) he (fun ls2 hl2 => kk H locs ls2 hP hS hl2)
theorem j_iinc (hC : Cx mc g cc own nL ret) {f : Nat} {d z : Int} (hd : decode cc pc = .ok (.iinc f d, 3)) (q : Nat) (lv2 : List (Nat × Value)) (hq : lv[q]? = some (f, vI z)) (hn : f < nL) (he : (f, vI (z + d)) :: lv.filter (fun q => !(q.1 == f) && !(q.1 + 1 == f && q.2.category == 2)) = lv2) (kk : J mc g k n Q (pc + 3) lv2 st σ) : J mc g k n Q pc lv st σ :=
  fun H locs ls hP hS hl => lv_iinc (v := iI (z + d)) hC.1 hC.2.1 hd hl hq (iI_add z d) (by rw [hC.2.2.1]; exact hn) he (fun ls2 hl2 => kk H locs ls2 hP hS hl2)
theorem j_iadd {a b : Int} (hC : Cx mc g cc own nL ret) (hd : decode cc pc = .ok (.iadd, 1)) (kk : J mc g k n Q (pc + 1) lv (vI (a + b) :: st) σ) : J mc g k n Q pc lv (vI b :: vI a :: st) σ :=
  fun H locs ls hP hS hl => lv_iadd hC.1 hC.2.1 hd (by rw [iI_add]; exact (kk H locs ls hP hS hl))
theorem j_isub {a b : Int} (hC : Cx mc g cc own nL ret) (hd : decode cc pc = .ok (.isub, 1)) (kk : J mc g k n Q (pc + 1) lv (vI (a - b) :: st) σ) : J mc g k n Q pc lv (vI b :: vI a :: st) σ :=
  fun H locs ls hP hS hl => lv_isub hC.1 hC.2.1 hd (by rw [iI_sub]; exact (kk H locs ls hP hS hl))
theorem j_imul {a b : Int} (hC : Cx mc g cc own nL ret) (hd : decode cc pc = .ok (.imul, 1)) (kk : J mc g k n Q (pc + 1) lv (vI (a * b) :: st) σ) : J mc g k n Q pc lv (vI b :: vI a :: st) σ :=
  fun H locs ls hP hS hl => lv_imul hC.1 hC.2.1 hd (by rw [iI_mul]; exact (kk H locs ls hP hS hl))
theorem j_ineg {a : Int} (hC : Cx mc g cc own nL ret) (hd : decode cc pc = .ok (.ineg, 1)) (kk : J mc g k n Q (pc + 1) lv (vI (-a) :: st) σ) : J mc g k n Q pc lv (vI a :: st) σ :=
  fun H locs ls hP hS hl => lv_ineg hC.1 hC.2.1 hd (by first | (rw [iI_neg]; exact (kk H locs ls hP hS hl)) | (rw [show (0 : Int32) - iI a = iI (-a) by rw [← iI_neg]; simp]; exact (kk H locs ls hP hS hl)))
theorem j_idiv {a b : Int} (hC : Cx mc g cc own nL ret) (hd : decode cc pc = .ok (.idiv, 1)) (h : 0 ≤ a ∧ a < 2147483648 ∧ 0 < b ∧ b < 2147483648) (kk : J mc g k n Q (pc + 1) lv (vI (a / b) :: st) σ) : J mc g k n Q pc lv (vI b :: vI a :: st) σ :=
  fun H locs ls hP hS hl => lv_idiv hC.1 hC.2.1 hd (fun q => by have := (iI_eq (a := b) (b := 0) (by omega) (by omega) (by omega) (by omega)).mp (q.trans iI_0.symm); omega) (by rw [iI_div h.1 h.2.1 h.2.2.1 h.2.2.2]; exact (kk H locs ls hP hS hl))
theorem j_irem {a b : Int} (hC : Cx mc g cc own nL ret) (hd : decode cc pc = .ok (.irem, 1)) (h : 0 ≤ a ∧ a < 2147483648 ∧ 0 < b ∧ b < 2147483648) (kk : J mc g k n Q (pc + 1) lv (vI (a % b) :: st) σ) : J mc g k n Q pc lv (vI b :: vI a :: st) σ :=
  fun H locs ls hP hS hl => lv_irem hC.1 hC.2.1 hd (fun q => by have := (iI_eq (a := b) (b := 0) (by omega) (by omega) (by omega) (by omega)).mp (q.trans iI_0.symm); omega) (by rw [iI_rem h.1 h.2.1 h.2.2.1 h.2.2.2]; exact (kk H locs ls hP hS hl))
theorem j_iand {a b r : Int} (hC : Cx mc g cc own nL ret) (hd : decode cc pc = .ok (.iand, 1)) (hr : iI a &&& iI b = iI r) (kk : J mc g k n Q (pc + 1) lv (vI r :: st) σ) : J mc g k n Q pc lv (vI b :: vI a :: st) σ :=
  fun H locs ls hP hS hl => lv_iand hC.1 hC.2.1 hd (by rw [hr]; exact (kk H locs ls hP hS hl))
theorem j_ior {a b r : Int} (hC : Cx mc g cc own nL ret) (hd : decode cc pc = .ok (.ior, 1)) (hr : iI a ||| iI b = iI r) (kk : J mc g k n Q (pc + 1) lv (vI r :: st) σ) : J mc g k n Q pc lv (vI b :: vI a :: st) σ :=
  fun H locs ls hP hS hl => lv_ior hC.1 hC.2.1 hd (by rw [hr]; exact (kk H locs ls hP hS hl))
theorem j_ixor {a b r : Int} (hC : Cx mc g cc own nL ret) (hd : decode cc pc = .ok (.ixor, 1)) (hr : iI a ^^^ iI b = iI r) (kk : J mc g k n Q (pc + 1) lv (vI r :: st) σ) : J mc g k n Q pc lv (vI b :: vI a :: st) σ :=
  fun H locs ls hP hS hl => lv_ixor hC.1 hC.2.1 hd (by rw [hr]; exact (kk H locs ls hP hS hl))
theorem j_ishl {a b r : Int} (hC : Cx mc g cc own nL ret) (hd : decode cc pc = .ok (.ishl, 1)) (hr : iI a <<< (iI b &&& 31) = iI r) (kk : J mc g k n Q (pc + 1) lv (vI r :: st) σ) : J mc g k n Q pc lv (vI b :: vI a :: st) σ :=
  fun H locs ls hP hS hl => lv_ishl hC.1 hC.2.1 hd (by rw [hr]; exact (kk H locs ls hP hS hl))
theorem j_ishr {a b r : Int} (hC : Cx mc g cc own nL ret) (hd : decode cc pc = .ok (.ishr, 1)) (hr : iI a >>> (iI b &&& 31) = iI r) (kk : J mc g k n Q (pc + 1) lv (vI r :: st) σ) : J mc g k n Q pc lv (vI b :: vI a :: st) σ :=
  fun H locs ls hP hS hl => lv_ishr hC.1 hC.2.1 hd (by rw [hr]; exact (kk H locs ls hP hS hl))
theorem j_iushr {x y v : Int32} (hC : Cx mc g cc own nL ret) (hd : decode cc pc = .ok (.iushr, 1)) (hv : (x.toUInt32 >>> (y.toUInt32 &&& Int32.toUInt32 31)).toInt32 = v) (kk : J mc g k n Q (pc + 1) lv (.int v :: st) σ) : J mc g k n Q pc lv (.int y :: .int x :: st) σ :=
  fun H locs ls hP hS hl => lv_iushr hC.1 hC.2.1 hd hv (kk H locs ls hP hS hl)
theorem j_iaddR {x y : Int32} (hC : Cx mc g cc own nL ret) (hd : decode cc pc = .ok (.iadd, 1)) (kk : J mc g k n Q (pc + 1) lv (.int (x + y) :: st) σ) : J mc g k n Q pc lv (.int y :: .int x :: st) σ :=
  fun H locs ls hP hS hl => lv_iadd hC.1 hC.2.1 hd (kk H locs ls hP hS hl)
theorem j_isubR {x y : Int32} (hC : Cx mc g cc own nL ret) (hd : decode cc pc = .ok (.isub, 1)) (kk : J mc g k n Q (pc + 1) lv (.int (x - y) :: st) σ) : J mc g k n Q pc lv (.int y :: .int x :: st) σ :=
  fun H locs ls hP hS hl => lv_isub hC.1 hC.2.1 hd (kk H locs ls hP hS hl)
theorem j_iandR {x y : Int32} (hC : Cx mc g cc own nL ret) (hd : decode cc pc = .ok (.iand, 1)) (kk : J mc g k n Q (pc + 1) lv (.int (x &&& y) :: st) σ) : J mc g k n Q pc lv (.int y :: .int x :: st) σ :=
  fun H locs ls hP hS hl => lv_iand hC.1 hC.2.1 hd (kk H locs ls hP hS hl)
theorem j_i2l {a : Int} (hC : Cx mc g cc own nL ret) (hd : decode cc pc = .ok (.i2l, 1)) (h : -2147483648 ≤ a ∧ a < 2147483648) (kk : J mc g k n Q (pc + 1) lv (.long (jI a) :: st) σ) : J mc g k n Q pc lv (vI a :: st) σ :=
  fun H locs ls hP hS hl => lv_i2l hC.1 hC.2.1 hd (iI_long h.1 h.2) (kk H locs ls hP hS hl)
theorem j_ladd {a b : Int} (hC : Cx mc g cc own nL ret) (hd : decode cc pc = .ok (.ladd, 1)) (kk : J mc g k n Q (pc + 1) lv (.long (jI (a + b)) :: st) σ) : J mc g k n Q pc lv (.long (jI b) :: .long (jI a) :: st) σ :=
  fun H locs ls hP hS hl => lv_ladd hC.1 hC.2.1 hd (by rw [jI_add]; exact (kk H locs ls hP hS hl))
theorem j_lmul {a b : Int} (hC : Cx mc g cc own nL ret) (hd : decode cc pc = .ok (.lmul, 1)) (kk : J mc g k n Q (pc + 1) lv (.long (jI (a * b)) :: st) σ) : J mc g k n Q pc lv (.long (jI b) :: .long (jI a) :: st) σ :=
  fun H locs ls hP hS hl => lv_lmul hC.1 hC.2.1 hd (by rw [jI_mul]; exact (kk H locs ls hP hS hl))
theorem j_lcmp {x y : Int64} (hC : Cx mc g cc own nL ret) (hd : decode cc pc = .ok (.lcmp, 1)) (kk : J mc g k n Q (pc + 1) lv (.int (lg_cmp x y) :: st) σ) : J mc g k n Q pc lv (.long y :: .long x :: st) σ :=
  fun H locs ls hP hS hl => W.lcmp hC.1 hC.2.1 hd (kk H locs ls hP hS hl)
theorem j_i2d {x : Int32} (hC : Cx mc g cc own nL ret) (hd : decode cc pc = .ok (.i2d, 1)) (kk : J mc g k n Q (pc + 1) lv (.double (FP.i2d x) :: st) σ) : J mc g k n Q pc lv (.int x :: st) σ :=
  fun H locs ls hP hS hl => lv_i2d hC.1 hC.2.1 hd (kk H locs ls hP hS hl)
theorem j_ddiv {x y : UInt64} (hC : Cx mc g cc own nL ret) (hd : decode cc pc = .ok (.ddiv, 1)) (hn : vf_n64 (FP.ddiv x y)) (kk : J mc g k n Q (pc + 1) lv (.double (FP.ddiv x y) :: st) σ) : J mc g k n Q pc lv (.double y :: .double x :: st) σ :=
  fun H locs ls hP hS hl => lv_ddiv hC.1 hC.2.1 hd hn (kk H locs ls hP hS hl)
theorem j_dconst0 (hC : Cx mc g cc own nL ret) (hd : decode cc pc = .ok (.dconst 0, 1)) (kk : J mc g k n Q (pc + 1) lv (.double 0 :: st) σ) : J mc g k n Q pc lv (st) σ :=
  fun H locs ls hP hS hl => lv_dconst0 hC.1 hC.2.1 hd (kk H locs ls hP hS hl)
theorem j_dcmp {x y : UInt64} {op : CmpOp} (hC : Cx mc g cc own nL ret) (hd : decode cc pc = .ok (.dcmp op, 1)) (kk : J mc g k n Q (pc + 1) lv (.int (Op.cmpValue (FP.dcmp x y) op) :: st) σ) : J mc g k n Q pc lv (.double y :: .double x :: st) σ :=
  fun H locs ls hP hS hl => lv_dcmp hC.1 hC.2.1 hd (kk H locs ls hP hS hl)
theorem j_lconst {f : Fin 2} {v : Int64} (hC : Cx mc g cc own nL ret) (hd : decode cc pc = .ok (.lconst f, 1)) (hv : Int64.ofNat (f : Nat) = v) (kk : J mc g k n Q (pc + 1) lv (.long v :: st) σ) : J mc g k n Q pc lv (st) σ :=
  fun H locs ls hP hS hl => lv_lconst hC.1 hC.2.1 hd hv (kk H locs ls hP hS hl)
theorem j_dup {v : Value} (hC : Cx mc g cc own nL ret) (hd : decode cc pc = .ok (.dup, 1)) (hv : v.category = 1) (kk : J mc g k n Q (pc + 1) lv (v :: v :: st) σ) : J mc g k n Q pc lv (v :: st) σ :=
  fun H locs ls hP hS hl => lv_dup hC.1 hC.2.1 hd hv (kk H locs ls hP hS hl)
theorem j_dup2 {v w : Value} (hC : Cx mc g cc own nL ret) (hd : decode cc pc = .ok (.dup2, 1)) (hv : v.category = 1) (hw : w.category = 1) (kk : J mc g k n Q (pc + 1) lv (v :: w :: v :: w :: st) σ) : J mc g k n Q pc lv (v :: w :: st) σ :=
  fun H locs ls hP hS hl => lv_dup2_11 hC.1 hC.2.1 hd hv hw (kk H locs ls hP hS hl)
theorem j_pop {v : Value} (hC : Cx mc g cc own nL ret) (hd : decode cc pc = .ok (.pop, 1)) (hv : v.category = 1) (kk : J mc g k n Q (pc + 1) lv (st) σ) : J mc g k n Q pc lv (v :: st) σ :=
  fun H locs ls hP hS hl => lv_pop hC.1 hC.2.1 hd hv (kk H locs ls hP hS hl)
theorem j_ldc {index : Nat} {v : Int32} (hC : Cx mc g cc own nL ret) (hd : decode cc pc = .ok (.ldc index, 2)) (hw : Cond.constant own index v ∈ wsA) (kk : J mc g k n Q (pc + 2) lv (.int v :: st) σ) : J mc g k n Q pc lv (st) σ :=
  fun H locs ls hP hS hl => lv_ldc hC.1 hC.2.1 hC.2.2.2.1 (hC.2.2.2.2.1 _ hw) hd (kk H locs ls hP hS hl)
theorem j_ldc_w {index : Nat} {v : Int32} (hC : Cx mc g cc own nL ret) (hd : decode cc pc = .ok (.ldc_w index, 3)) (hw : Cond.constant own index v ∈ wsA) (kk : J mc g k n Q (pc + 3) lv (.int v :: st) σ) : J mc g k n Q pc lv (st) σ :=
  fun H locs ls hP hS hl => lv_ldcw hC.1 hC.2.1 hC.2.2.2.1 (hC.2.2.2.2.1 _ hw) hd (kk H locs ls hP hS hl)
theorem j_ldc2 {index : Nat} {v : Int64} (hC : Cx mc g cc own nL ret) (hd : decode cc pc = .ok (.ldc2_w index, 3)) (hw : Cond.constantLong own index v ∈ wsA) (kk : J mc g k n Q (pc + 3) lv (.long v :: st) σ) : J mc g k n Q pc lv (st) σ :=
  fun H locs ls hP hS hl => lv_ldc2 hC.1 hC.2.1 hC.2.2.2.1 (hC.2.2.2.2.1 _ hw) hd (kk H locs ls hP hS hl)
theorem j_icmp_eq (hC : Cx mc g cc own nL ret) {a b off : Int} {tgt : Nat} (hd : decode cc pc = .ok (.if_icmp .eq off, 3)) (ht : (pc : Int) + off = (tgt : Int)) (hr : -2147483648 ≤ a ∧ a < 2147483648 ∧ -2147483648 ≤ b ∧ b < 2147483648) (kt : a = b → J mc g k n Q tgt lv st σ) (kf : a ≠ b → J mc g k n Q (pc + 3) lv st σ) : J mc g k n Q pc lv (vI b :: vI a :: st) σ :=
  fun H locs ls hP hS hl => lv_icmp_eq hC.1 hC.2.1 hd ht (fun h => kt (cc_eq hr h) H locs ls hP hS hl) (fun h => kf (cc_ne hr h) H locs ls hP hS hl)
theorem j_icmp_ne (hC : Cx mc g cc own nL ret) {a b off : Int} {tgt : Nat} (hd : decode cc pc = .ok (.if_icmp .ne off, 3)) (ht : (pc : Int) + off = (tgt : Int)) (hr : -2147483648 ≤ a ∧ a < 2147483648 ∧ -2147483648 ≤ b ∧ b < 2147483648) (kt : a ≠ b → J mc g k n Q tgt lv st σ) (kf : a = b → J mc g k n Q (pc + 3) lv st σ) : J mc g k n Q pc lv (vI b :: vI a :: st) σ :=
  fun H locs ls hP hS hl => lv_icmp_ne hC.1 hC.2.1 hd ht (fun h => kt (cc_ne hr h) H locs ls hP hS hl) (fun h => kf (cc_eq hr h) H locs ls hP hS hl)
theorem j_icmp_lt (hC : Cx mc g cc own nL ret) {a b off : Int} {tgt : Nat} (hd : decode cc pc = .ok (.if_icmp .lt off, 3)) (ht : (pc : Int) + off = (tgt : Int)) (hr : -2147483648 ≤ a ∧ a < 2147483648 ∧ -2147483648 ≤ b ∧ b < 2147483648) (kt : a < b → J mc g k n Q tgt lv st σ) (kf : b ≤ a → J mc g k n Q (pc + 3) lv st σ) : J mc g k n Q pc lv (vI b :: vI a :: st) σ :=
  fun H locs ls hP hS hl => lv_icmp_lt hC.1 hC.2.1 hd ht (fun h => kt (cc_lt hr h) H locs ls hP hS hl) (fun h => kf (cc_nlt hr h) H locs ls hP hS hl)
theorem j_icmp_ge (hC : Cx mc g cc own nL ret) {a b off : Int} {tgt : Nat} (hd : decode cc pc = .ok (.if_icmp .ge off, 3)) (ht : (pc : Int) + off = (tgt : Int)) (hr : -2147483648 ≤ a ∧ a < 2147483648 ∧ -2147483648 ≤ b ∧ b < 2147483648) (kt : b ≤ a → J mc g k n Q tgt lv st σ) (kf : a < b → J mc g k n Q (pc + 3) lv st σ) : J mc g k n Q pc lv (vI b :: vI a :: st) σ :=
  fun H locs ls hP hS hl => lv_icmp_ge hC.1 hC.2.1 hd ht (fun h => kt (cc_ge hr h) H locs ls hP hS hl) (fun h => kf (cc_nge hr h) H locs ls hP hS hl)
theorem j_icmp_gt (hC : Cx mc g cc own nL ret) {a b off : Int} {tgt : Nat} (hd : decode cc pc = .ok (.if_icmp .gt off, 3)) (ht : (pc : Int) + off = (tgt : Int)) (hr : -2147483648 ≤ a ∧ a < 2147483648 ∧ -2147483648 ≤ b ∧ b < 2147483648) (kt : b < a → J mc g k n Q tgt lv st σ) (kf : a ≤ b → J mc g k n Q (pc + 3) lv st σ) : J mc g k n Q pc lv (vI b :: vI a :: st) σ :=
  fun H locs ls hP hS hl => lv_icmp_gt hC.1 hC.2.1 hd ht (fun h => kt (cc_gt hr h) H locs ls hP hS hl) (fun h => kf (cc_ngt hr h) H locs ls hP hS hl)
theorem j_icmp_le (hC : Cx mc g cc own nL ret) {a b off : Int} {tgt : Nat} (hd : decode cc pc = .ok (.if_icmp .le off, 3)) (ht : (pc : Int) + off = (tgt : Int)) (hr : -2147483648 ≤ a ∧ a < 2147483648 ∧ -2147483648 ≤ b ∧ b < 2147483648) (kt : a ≤ b → J mc g k n Q tgt lv st σ) (kf : b < a → J mc g k n Q (pc + 3) lv st σ) : J mc g k n Q pc lv (vI b :: vI a :: st) σ :=
  fun H locs ls hP hS hl => lv_icmp_le hC.1 hC.2.1 hd ht (fun h => kt (cc_le hr h) H locs ls hP hS hl) (fun h => kf (cc_nle hr h) H locs ls hP hS hl)
theorem j_if_eq (hC : Cx mc g cc own nL ret) {a off : Int} {tgt : Nat} (hd : decode cc pc = .ok (.ifCond .eq off, 3)) (ht : (pc : Int) + off = (tgt : Int)) (hr : -2147483648 ≤ a ∧ a < 2147483648) (kt : a = 0 → J mc g k n Q tgt lv st σ) (kf : a ≠ 0 → J mc g k n Q (pc + 3) lv st σ) : J mc g k n Q pc lv (vI a :: st) σ := by
  intro H locs ls hP hS hl
  refine lv_if_eq hC.1 hC.2.1 hd ht (fun h => ?_) (fun h => ?_) <;> rw [← iI_0] at h
  · exact kt (cc_eq (show -2147483648 ≤ a ∧ a < 2147483648 ∧ (-2147483648 : Int) ≤ 0 ∧ (0 : Int) < 2147483648 by omega) h) H locs ls hP hS hl
  · exact kf (cc_ne (show -2147483648 ≤ a ∧ a < 2147483648 ∧ (-2147483648 : Int) ≤ 0 ∧ (0 : Int) < 2147483648 by omega) h) H locs ls hP hS hl
theorem j_if_ne (hC : Cx mc g cc own nL ret) {a off : Int} {tgt : Nat} (hd : decode cc pc = .ok (.ifCond .ne off, 3)) (ht : (pc : Int) + off = (tgt : Int)) (hr : -2147483648 ≤ a ∧ a < 2147483648) (kt : a ≠ 0 → J mc g k n Q tgt lv st σ) (kf : a = 0 → J mc g k n Q (pc + 3) lv st σ) : J mc g k n Q pc lv (vI a :: st) σ := by
  intro H locs ls hP hS hl
  refine lv_if_ne hC.1 hC.2.1 hd ht (fun h => ?_) (fun h => ?_) <;> rw [← iI_0] at h
  · exact kt (cc_ne (show -2147483648 ≤ a ∧ a < 2147483648 ∧ (-2147483648 : Int) ≤ 0 ∧ (0 : Int) < 2147483648 by omega) h) H locs ls hP hS hl
  · exact kf (cc_eq (show -2147483648 ≤ a ∧ a < 2147483648 ∧ (-2147483648 : Int) ≤ 0 ∧ (0 : Int) < 2147483648 by omega) h) H locs ls hP hS hl
theorem j_if_lt (hC : Cx mc g cc own nL ret) {a off : Int} {tgt : Nat} (hd : decode cc pc = .ok (.ifCond .lt off, 3)) (ht : (pc : Int) + off = (tgt : Int)) (hr : -2147483648 ≤ a ∧ a < 2147483648) (kt : a < 0 → J mc g k n Q tgt lv st σ) (kf : 0 ≤ a → J mc g k n Q (pc + 3) lv st σ) : J mc g k n Q pc lv (vI a :: st) σ := by
  intro H locs ls hP hS hl
  refine lv_if_lt hC.1 hC.2.1 hd ht (fun h => ?_) (fun h => ?_) <;> rw [← iI_0] at h
  · exact kt (cc_lt (show -2147483648 ≤ a ∧ a < 2147483648 ∧ (-2147483648 : Int) ≤ 0 ∧ (0 : Int) < 2147483648 by omega) h) H locs ls hP hS hl
  · exact kf (cc_nlt (show -2147483648 ≤ a ∧ a < 2147483648 ∧ (-2147483648 : Int) ≤ 0 ∧ (0 : Int) < 2147483648 by omega) h) H locs ls hP hS hl
theorem j_if_ge (hC : Cx mc g cc own nL ret) {a off : Int} {tgt : Nat} (hd : decode cc pc = .ok (.ifCond .ge off, 3)) (ht : (pc : Int) + off = (tgt : Int)) (hr : -2147483648 ≤ a ∧ a < 2147483648) (kt : 0 ≤ a → J mc g k n Q tgt lv st σ) (kf : a < 0 → J mc g k n Q (pc + 3) lv st σ) : J mc g k n Q pc lv (vI a :: st) σ := by
  intro H locs ls hP hS hl
  refine lv_if_ge hC.1 hC.2.1 hd ht (fun h => ?_) (fun h => ?_) <;> rw [← iI_0] at h
  · exact kt (cc_ge (show -2147483648 ≤ a ∧ a < 2147483648 ∧ (-2147483648 : Int) ≤ 0 ∧ (0 : Int) < 2147483648 by omega) h) H locs ls hP hS hl
  · exact kf (cc_nge (show -2147483648 ≤ a ∧ a < 2147483648 ∧ (-2147483648 : Int) ≤ 0 ∧ (0 : Int) < 2147483648 by omega) h) H locs ls hP hS hl
theorem j_if_gt (hC : Cx mc g cc own nL ret) {a off : Int} {tgt : Nat} (hd : decode cc pc = .ok (.ifCond .gt off, 3)) (ht : (pc : Int) + off = (tgt : Int)) (hr : -2147483648 ≤ a ∧ a < 2147483648) (kt : 0 < a → J mc g k n Q tgt lv st σ) (kf : a ≤ 0 → J mc g k n Q (pc + 3) lv st σ) : J mc g k n Q pc lv (vI a :: st) σ := by
  intro H locs ls hP hS hl
  refine lv_if_gt hC.1 hC.2.1 hd ht (fun h => ?_) (fun h => ?_) <;> rw [← iI_0] at h
  · exact kt (cc_gt (show -2147483648 ≤ a ∧ a < 2147483648 ∧ (-2147483648 : Int) ≤ 0 ∧ (0 : Int) < 2147483648 by omega) h) H locs ls hP hS hl
  · exact kf (cc_ngt (show -2147483648 ≤ a ∧ a < 2147483648 ∧ (-2147483648 : Int) ≤ 0 ∧ (0 : Int) < 2147483648 by omega) h) H locs ls hP hS hl
theorem j_if_le (hC : Cx mc g cc own nL ret) {a off : Int} {tgt : Nat} (hd : decode cc pc = .ok (.ifCond .le off, 3)) (ht : (pc : Int) + off = (tgt : Int)) (hr : -2147483648 ≤ a ∧ a < 2147483648) (kt : a ≤ 0 → J mc g k n Q tgt lv st σ) (kf : 0 < a → J mc g k n Q (pc + 3) lv st σ) : J mc g k n Q pc lv (vI a :: st) σ := by
  intro H locs ls hP hS hl
  refine lv_if_le hC.1 hC.2.1 hd ht (fun h => ?_) (fun h => ?_) <;> rw [← iI_0] at h
  · exact kt (cc_le (show -2147483648 ≤ a ∧ a < 2147483648 ∧ (-2147483648 : Int) ≤ 0 ∧ (0 : Int) < 2147483648 by omega) h) H locs ls hP hS hl
  · exact kf (cc_nle (show -2147483648 ≤ a ∧ a < 2147483648 ∧ (-2147483648 : Int) ≤ 0 ∧ (0 : Int) < 2147483648 by omega) h) H locs ls hP hS hl
theorem j_ifR_eq (hC : Cx mc g cc own nL ret) {x : Int32} {off : Int} {tgt : Nat} (hd : decode cc pc = .ok (.ifCond .eq off, 3)) (ht : (pc : Int) + off = (tgt : Int)) (kt : x = 0 → J mc g k n Q tgt lv st σ) (kf : ¬ x = 0 → J mc g k n Q (pc + 3) lv st σ) : J mc g k n Q pc lv (.int x :: st) σ :=
  fun H locs ls hP hS hl => lv_if_eq hC.1 hC.2.1 hd ht (fun h => kt h H locs ls hP hS hl) (fun h => kf h H locs ls hP hS hl)
theorem j_ifR_ne (hC : Cx mc g cc own nL ret) {x : Int32} {off : Int} {tgt : Nat} (hd : decode cc pc = .ok (.ifCond .ne off, 3)) (ht : (pc : Int) + off = (tgt : Int)) (kt : ¬ x = 0 → J mc g k n Q tgt lv st σ) (kf : x = 0 → J mc g k n Q (pc + 3) lv st σ) : J mc g k n Q pc lv (.int x :: st) σ :=
  fun H locs ls hP hS hl => lv_if_ne hC.1 hC.2.1 hd ht (fun h => kt h H locs ls hP hS hl) (fun h => kf h H locs ls hP hS hl)
theorem j_goto (hC : Cx mc g cc own nL ret) {off : Int} {tgt : Nat} (hd : decode cc pc = .ok (.goto off, 3)) (ht : (pc : Int) + off = (tgt : Int)) (kk : J mc g k n Q tgt lv st σ) : J mc g k n Q pc lv st σ :=
  fun H locs ls hP hS hl => lv_goto hC.1 hC.2.1 hd ht (kk H locs ls hP hS hl)
theorem j_sub {lv2 : List (Nat × Value)} (ks : List Nat) (he : lv_pick lv ks = lv2) (kk : J mc g k n Q pc lv2 st σ) : J mc g k n Q pc lv st σ :=
  fun H locs ls hP hS hl => kk H locs ls hP hS (lv_sub hl ks he)
theorem j_widen {k2 n2 : Nat} (h1 : k ≤ k2) (h2 : n ≤ n2) (kk : J mc g k2 n2 Q pc lv st σ) : J mc g k n Q pc lv st σ :=
  fun H locs ls hP hS hl => W.widen h1 h2 (kk H locs ls hP hS hl)
theorem j_st {st2 : List Value} (h : st = st2) (kk : J mc g k n Q pc lv st2 σ) : J mc g k n Q pc lv st σ := h ▸ kk
theorem j_lv {lv2 : List (Nat × Value)} (h : lv = lv2) (kk : J mc g k n Q pc lv2 st σ) : J mc g k n Q pc lv st σ := h ▸ kk
end JJ
