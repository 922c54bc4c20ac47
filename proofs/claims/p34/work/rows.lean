section
-- ===== PART A: goes FIRST, ahead of the names: the tables' words, and 'selects' of the private methods out of them =====
/-- a private method of a class that the tables say can be made, by its rows of tables_1 -/
def lw_okq (q : MethodName × Nat) : Prop := (q.1.cls ≠ "java/lang/invoke/MethodHandle" ∧ q.1.cls ≠ "java/lang/invoke/VarHandle") ∧ Cond.instantiable q.1.cls q.2 ∈ tables_1 ∧ Cond.privateMethod q.1 ∈ tables_1 ∧ Cond.instanceMethod q.1 ∈ tables_1
theorem lw_p0 : lw_okq (⟨"java/lang/Throwable", "fillInStackTrace", "(I)Ljava/lang/Throwable;"⟩, 6) := ⟨⟨by decide +kernel, by decide +kernel⟩, List.mem_of_getElem? (i := 122) (by decide +kernel), List.mem_of_getElem? (i := 120) (by decide +kernel), List.mem_of_getElem? (i := 121) (by decide +kernel)⟩
theorem lw_p1 : lw_okq (⟨"SignMasons$Places", "unite", "(II)V"⟩, 2) := ⟨⟨by decide +kernel, by decide +kernel⟩, List.mem_of_getElem? (i := 23) (by decide +kernel), List.mem_of_getElem? (i := 152) (by decide +kernel), List.mem_of_getElem? (i := 153) (by decide +kernel)⟩
theorem lw_p2 : lw_okq (⟨"SignMasons$Places", "sameGroup", "(II)Z"⟩, 2) := ⟨⟨by decide +kernel, by decide +kernel⟩, List.mem_of_getElem? (i := 23) (by decide +kernel), List.mem_of_getElem? (i := 164) (by decide +kernel), List.mem_of_getElem? (i := 165) (by decide +kernel)⟩
theorem lw_p3 : lw_okq (⟨"SignMasons$Places", "stepsBetween", "(II)I"⟩, 2) := ⟨⟨by decide +kernel, by decide +kernel⟩, List.mem_of_getElem? (i := 23) (by decide +kernel), List.mem_of_getElem? (i := 172) (by decide +kernel), List.mem_of_getElem? (i := 173) (by decide +kernel)⟩
theorem lw_p4 : lw_okq (⟨"SignMasons", "bookOf", "(I)LSignMasons$Book;"⟩, 4) := ⟨⟨by decide +kernel, by decide +kernel⟩, List.mem_of_getElem? (i := 15) (by decide +kernel), List.mem_of_getElem? (i := 188) (by decide +kernel), List.mem_of_getElem? (i := 189) (by decide +kernel)⟩
theorem lw_p5 : lw_okq (⟨"SignMasons", "lookOf", "(II)I"⟩, 4) := ⟨⟨by decide +kernel, by decide +kernel⟩, List.mem_of_getElem? (i := 15) (by decide +kernel), List.mem_of_getElem? (i := 197) (by decide +kernel), List.mem_of_getElem? (i := 198) (by decide +kernel)⟩
theorem lw_p6 : lw_okq (⟨"SignMasons$Book", "find", "(I)I"⟩, 4) := ⟨⟨by decide +kernel, by decide +kernel⟩, List.mem_of_getElem? (i := 39) (by decide +kernel), List.mem_of_getElem? (i := 217) (by decide +kernel), List.mem_of_getElem? (i := 218) (by decide +kernel)⟩
theorem lw_p7 : lw_okq (⟨"SignMasons$Places", "distance", "(II)I"⟩, 2) := ⟨⟨by decide +kernel, by decide +kernel⟩, List.mem_of_getElem? (i := 23) (by decide +kernel), List.mem_of_getElem? (i := 225) (by decide +kernel), List.mem_of_getElem? (i := 226) (by decide +kernel)⟩
theorem lw_p8 : lw_okq (⟨"SignMasons$Book", "countAlike", "()I"⟩, 4) := ⟨⟨by decide +kernel, by decide +kernel⟩, List.mem_of_getElem? (i := 39) (by decide +kernel), List.mem_of_getElem? (i := 250) (by decide +kernel), List.mem_of_getElem? (i := 251) (by decide +kernel)⟩
theorem lw_p9 : lw_okq (⟨"SignMasons$Places", "alike", "(II)Z"⟩, 2) := ⟨⟨by decide +kernel, by decide +kernel⟩, List.mem_of_getElem? (i := 23) (by decide +kernel), List.mem_of_getElem? (i := 254) (by decide +kernel), List.mem_of_getElem? (i := 255) (by decide +kernel)⟩
theorem lw_p10 : lw_okq (⟨"SignMasons$Book", "countThumbApart", "()I"⟩, 4) := ⟨⟨by decide +kernel, by decide +kernel⟩, List.mem_of_getElem? (i := 39) (by decide +kernel), List.mem_of_getElem? (i := 265) (by decide +kernel), List.mem_of_getElem? (i := 266) (by decide +kernel)⟩
theorem lw_p11 : lw_okq (⟨"SignMasons$Book", "fewestApart", "()I"⟩, 4) := ⟨⟨by decide +kernel, by decide +kernel⟩, List.mem_of_getElem? (i := 39) (by decide +kernel), List.mem_of_getElem? (i := 275) (by decide +kernel), List.mem_of_getElem? (i := 276) (by decide +kernel)⟩
theorem lw_p12 : lw_okq (⟨"SignMasons$Book", "nearestBut", "(II)I"⟩, 4) := ⟨⟨by decide +kernel, by decide +kernel⟩, List.mem_of_getElem? (i := 39) (by decide +kernel), List.mem_of_getElem? (i := 279) (by decide +kernel), List.mem_of_getElem? (i := 280) (by decide +kernel)⟩
theorem lw_p13 : lw_okq (⟨"SignMasons$Book", "signNearMost", "()I"⟩, 4) := ⟨⟨by decide +kernel, by decide +kernel⟩, List.mem_of_getElem? (i := 39) (by decide +kernel), List.mem_of_getElem? (i := 290) (by decide +kernel), List.mem_of_getElem? (i := 291) (by decide +kernel)⟩
theorem lw_p14 : lw_okq (⟨"SignMasons$Book", "countNear", "(I)I"⟩, 4) := ⟨⟨by decide +kernel, by decide +kernel⟩, List.mem_of_getElem? (i := 39) (by decide +kernel), List.mem_of_getElem? (i := 294) (by decide +kernel), List.mem_of_getElem? (i := 295) (by decide +kernel)⟩
theorem lw_p15 : lw_okq (⟨"SignMasons$Book", "meaningRead", "(I)I"⟩, 4) := ⟨⟨by decide +kernel, by decide +kernel⟩, List.mem_of_getElem? (i := 39) (by decide +kernel), List.mem_of_getElem? (i := 302) (by decide +kernel), List.mem_of_getElem? (i := 303) (by decide +kernel)⟩
def lw_privs_1 : List (MethodName × Nat) := [(⟨"java/lang/Throwable", "fillInStackTrace", "(I)Ljava/lang/Throwable;"⟩, 6), (⟨"SignMasons$Places", "unite", "(II)V"⟩, 2), (⟨"SignMasons$Places", "sameGroup", "(II)Z"⟩, 2), (⟨"SignMasons$Places", "stepsBetween", "(II)I"⟩, 2), (⟨"SignMasons", "bookOf", "(I)LSignMasons$Book;"⟩, 4), (⟨"SignMasons", "lookOf", "(II)I"⟩, 4), (⟨"SignMasons$Book", "find", "(I)I"⟩, 4), (⟨"SignMasons$Places", "distance", "(II)I"⟩, 2), (⟨"SignMasons$Book", "countAlike", "()I"⟩, 4), (⟨"SignMasons$Places", "alike", "(II)Z"⟩, 2), (⟨"SignMasons$Book", "countThumbApart", "()I"⟩, 4), (⟨"SignMasons$Book", "fewestApart", "()I"⟩, 4), (⟨"SignMasons$Book", "nearestBut", "(II)I"⟩, 4), (⟨"SignMasons$Book", "signNearMost", "()I"⟩, 4), (⟨"SignMasons$Book", "countNear", "(I)I"⟩, 4), (⟨"SignMasons$Book", "meaningRead", "(I)I"⟩, 4)]
theorem lw_r1 : ∀ q ∈ lw_privs_1, lw_okq q := List.forall_mem_cons.mpr ⟨lw_p0, List.forall_mem_cons.mpr ⟨lw_p1, List.forall_mem_cons.mpr ⟨lw_p2, List.forall_mem_cons.mpr ⟨lw_p3, List.forall_mem_cons.mpr ⟨lw_p4, List.forall_mem_cons.mpr ⟨lw_p5, List.forall_mem_cons.mpr ⟨lw_p6, List.forall_mem_cons.mpr ⟨lw_p7, List.forall_mem_cons.mpr ⟨lw_p8, List.forall_mem_cons.mpr ⟨lw_p9, List.forall_mem_cons.mpr ⟨lw_p10, List.forall_mem_cons.mpr ⟨lw_p11, List.forall_mem_cons.mpr ⟨lw_p12, List.forall_mem_cons.mpr ⟨lw_p13, List.forall_mem_cons.mpr ⟨lw_p14, List.forall_mem_cons.mpr ⟨lw_p15, fun _ h => absurd h List.not_mem_nil⟩⟩⟩⟩⟩⟩⟩⟩⟩⟩⟩⟩⟩⟩⟩⟩
theorem lw_p16 : lw_okq (⟨"SignMasons$Book", "countUnderstood", "(LSignMasons$Book;)I"⟩, 4) := ⟨⟨by decide +kernel, by decide +kernel⟩, List.mem_of_getElem? (i := 39) (by decide +kernel), List.mem_of_getElem? (i := 310) (by decide +kernel), List.mem_of_getElem? (i := 311) (by decide +kernel)⟩
theorem lw_p17 : lw_okq (⟨"SignMasons$Book", "countMisread", "(LSignMasons$Book;)I"⟩, 4) := ⟨⟨by decide +kernel, by decide +kernel⟩, List.mem_of_getElem? (i := 39) (by decide +kernel), List.mem_of_getElem? (i := 319) (by decide +kernel), List.mem_of_getElem? (i := 320) (by decide +kernel)⟩
theorem lw_p18 : lw_okq (⟨"SignMasons$Book", "countCommon", "(LSignMasons$Book;)I"⟩, 4) := ⟨⟨by decide +kernel, by decide +kernel⟩, List.mem_of_getElem? (i := 39) (by decide +kernel), List.mem_of_getElem? (i := 327) (by decide +kernel), List.mem_of_getElem? (i := 328) (by decide +kernel)⟩
theorem lw_p19 : lw_okq (⟨"SignMasons$Book", "hasRoomFor", "(I)Z"⟩, 4) := ⟨⟨by decide +kernel, by decide +kernel⟩, List.mem_of_getElem? (i := 39) (by decide +kernel), List.mem_of_getElem? (i := 471) (by decide +kernel), List.mem_of_getElem? (i := 472) (by decide +kernel)⟩
theorem lw_p20 : lw_okq (⟨"SignMasons$Book", "append", "(II)I"⟩, 4) := ⟨⟨by decide +kernel, by decide +kernel⟩, List.mem_of_getElem? (i := 39) (by decide +kernel), List.mem_of_getElem? (i := 479) (by decide +kernel), List.mem_of_getElem? (i := 480) (by decide +kernel)⟩
theorem lw_p21 : lw_okq (⟨"SignMasons$Book", "remove", "(I)I"⟩, 4) := ⟨⟨by decide +kernel, by decide +kernel⟩, List.mem_of_getElem? (i := 39) (by decide +kernel), List.mem_of_getElem? (i := 491) (by decide +kernel), List.mem_of_getElem? (i := 492) (by decide +kernel)⟩
theorem lw_p22 : lw_okq (⟨"SignMasons$Book", "firstUnlike", "(I)I"⟩, 4) := ⟨⟨by decide +kernel, by decide +kernel⟩, List.mem_of_getElem? (i := 39) (by decide +kernel), List.mem_of_getElem? (i := 512) (by decide +kernel), List.mem_of_getElem? (i := 513) (by decide +kernel)⟩
theorem lw_p23 : lw_okq (⟨"SignMasons$Book", "hasAlike", "(I)Z"⟩, 4) := ⟨⟨by decide +kernel, by decide +kernel⟩, List.mem_of_getElem? (i := 39) (by decide +kernel), List.mem_of_getElem? (i := 517) (by decide +kernel), List.mem_of_getElem? (i := 518) (by decide +kernel)⟩
def lw_privs_2 : List (MethodName × Nat) := [(⟨"SignMasons$Book", "countUnderstood", "(LSignMasons$Book;)I"⟩, 4), (⟨"SignMasons$Book", "countMisread", "(LSignMasons$Book;)I"⟩, 4), (⟨"SignMasons$Book", "countCommon", "(LSignMasons$Book;)I"⟩, 4), (⟨"SignMasons$Book", "hasRoomFor", "(I)Z"⟩, 4), (⟨"SignMasons$Book", "append", "(II)I"⟩, 4), (⟨"SignMasons$Book", "remove", "(I)I"⟩, 4), (⟨"SignMasons$Book", "firstUnlike", "(I)I"⟩, 4), (⟨"SignMasons$Book", "hasAlike", "(I)Z"⟩, 4)]
theorem lw_r2 : ∀ q ∈ lw_privs_2, lw_okq q := List.forall_mem_cons.mpr ⟨lw_p16, List.forall_mem_cons.mpr ⟨lw_p17, List.forall_mem_cons.mpr ⟨lw_p18, List.forall_mem_cons.mpr ⟨lw_p19, List.forall_mem_cons.mpr ⟨lw_p20, List.forall_mem_cons.mpr ⟨lw_p21, List.forall_mem_cons.mpr ⟨lw_p22, List.forall_mem_cons.mpr ⟨lw_p23, fun _ h => absurd h List.not_mem_nil⟩⟩⟩⟩⟩⟩⟩⟩
def lw_privs : List (MethodName × Nat) := lw_privs_1 ++ (lw_privs_2)
def lw_tbl : List Cond := k2_sels lw_privs ++ tables_1
theorem lw_privs_ok : ∀ q ∈ lw_privs, lw_okq q := by
  show ∀ q ∈ lw_privs_1 ++ (lw_privs_2), lw_okq q
  exact List.forall_mem_append.mpr ⟨lw_r1, lw_r2⟩
/-- the streams that the claim lets the run draw from -/
abbrev lw_cs : List Choice := [Jvm.Choice.named "NaN.bits"]
theorem lw_bits : nanBits ∈ lw_cs := by first | decide | exact List.mem_cons_self | simp [lw_cs, nanBits]
/-! ===== BEGIN words of one list among another's, by their places ===== -/
theorem goodIn_r {big : List Cond} (ws : List Cond) (ps : List Nat) (hp : ws = ps.filterMap (fun i => big[i]?)) (h : ws.all goodWord = true) : GoodIn big ws := by
  intro w hw
  have h1 := List.all_eq_true.mp h w hw
  rw [hp] at hw
  obtain ⟨i, -, hi⟩ := List.mem_filterMap.mp hw
  have hm : w ∈ big := by first | exact List.mem_of_getElem? hi | exact List.getElem?_mem hi
  exact ⟨hm, good_of_word h1⟩
theorem goodIn_app {big a b : List Cond} (ha : GoodIn big a) (hb : GoodIn big b) : GoodIn big (a ++ b) := fun w h => (List.mem_append.mp h).elim (ha w) (hb w)
theorem goodIn_ca {big a b : List Cond} {c : Cond} (ha : GoodIn big (c :: a)) (hb : GoodIn big b) : GoodIn big (c :: (a ++ b)) := fun w h => (List.mem_cons.mp h).elim (fun e => ha w (List.mem_cons.mpr (Or.inl e))) (fun h => (List.mem_append.mp h).elim (fun h => ha w (List.mem_cons.mpr (Or.inr h))) (hb w))
theorem goodIn_sub {big ws : List Cond} (hm : ∀ w ∈ ws, w ∈ big) (h : ws.all goodWord = true) : GoodIn big ws := fun w hw => ⟨hm w hw, good_of_word (List.all_eq_true.mp h w hw)⟩
/-! ===== END ===== -/
/-- the tables' word of arrays of arrays (named by the row below; not in the kit) -/
def va_AOA (t : FieldType) (U : State) : Prop := (Cond.arrayOver (.array t)).before #[] U = true
theorem va_AOA.of {t : FieldType} {A : Array Value} {U : State} (h : (Cond.arrayOver (.array t)).before A U = true) : va_AOA t U := h
theorem va_AOA.use {t : FieldType} {A : Array Value} {U : State} (h : va_AOA t U) : (Cond.arrayOver (.array t)).before A U = true := h
/-! ===== BEGIN new T[n][m]: the outer array a place, the inner ones among the pooled ===== -/
/-- f, but v at every address of l -/
def vr_up {α : Type} (f : Nat → α) (l : List Nat) (v : α) : Nat → α := fun a => if a ∈ l then v else f a
theorem vr_up_in {α : Type} {f : Nat → α} {l : List Nat} {v : α} {a : Nat} (h : a ∈ l) : vr_up f l v a = v := if_pos h
theorem vr_up_ne {α : Type} {f : Nat → α} {l : List Nat} {v : α} {a : Nat} (h : a ∉ l) : vr_up f l v a = f a := if_neg h
theorem vr_rows {L l : List Nat} {f : Nat → va_E} {e : va_E} (h : ∀ a, a ∈ l → a ∉ L) : va_pl L f ++ l.map (fun a => (a, e)) = va_pl (L ++ l) (vr_up f l e) := by
  unfold va_pl
  rw [List.map_append]
  congr 1
  · apply List.map_congr_left
    intro a ha
    rw [vr_up_ne (fun q => h a q ha)]
  · apply List.map_congr_left
    intro a ha
    rw [vr_up_in ha]
theorem vr_lay {X rows : va_W} {x : Nat × va_E} {pl : va_W} {D : va_G} {cl : List vw_C} {H : Heap} (hP : va_P D cl (((X ++ pl) ++ [x]) ++ rows) H) : va_P D cl ((X ++ [x]) ++ (pl ++ rows)) H := by
  rw [List.append_assoc (X ++ pl)] at hP
  have h := va_P.swap hP
  rw [← List.append_assoc X] at h
  have h2 := va_P.swap h
  rw [List.append_assoc (X ++ [x])] at h2
  exact h2
theorem vr_layD {X rows : va_W} {x : Nat × va_E} {pl : va_W} {A : Nat → Prop} (hD : va_D A (((X ++ pl) ++ [x]) ++ rows)) : va_D A ((X ++ [x]) ++ (pl ++ rows)) := by
  rw [List.append_assoc (X ++ pl)] at hD
  have h := va_D.swap hD
  rw [← List.append_assoc X] at h
  have h2 := va_D.swap h
  rw [List.append_assoc (X ++ [x])] at h2
  exact h2
theorem vr_outer (c : ClassId) (N h0 : Nat) : ∀ i : Nat, Jvm.Free.Multi.outerC c N h0 i = arrV c N (fun j => va_rf (if j < i then some (h0 + 1 + j) else none))
  | 0 => by
    show ({ cls := c, slots := Array.replicate N .null, vm := .none } : Cell) = _
    rw [arrV_new]
    refine congrArg (arrV c N) (funext fun j => ?_)
    simp [va_rf]
  | i + 1 => by
    show (Jvm.Free.Multi.outerC c N h0 i).setSlot i (.ref (h0 + 1 + i)) = _
    rw [vr_outer c N h0 i, arrV_store]
    refine congrArg (arrV c N) (funext fun j => ?_)
    by_cases e : j = i
    · subst e
      simp [updV, va_rf]
    · by_cases h : j < i
      · simp [updV, e, h, Nat.lt_succ_of_lt h]
      · simp [updV, e, h, show ¬ j < i + 1 by omega]
section VGM
variable {p : Program} {l : Launch} {e : Env} {R : Room} {s : State} {m : MethodId} {args : Array Value} {below : List Frame} {meth : Method} {c : Code} {H : Heap} {locs : List Loc} {cells slots : Nat} {Q : State → Prop}
variable {cc : ByteArray} {pc : Nat} {ls : Array Slot} {rest : List Value} {D : va_G} {cl : List vw_C} {A : Nat → Prop} {a : Nat} {tys : List (ClassId × FieldType)} {ws : va_W} {H0 : Heap}
theorem va_mna {X : va_W} {L : List Nat} {f : Nat → va_E} {cc : ByteArray} (hexec : p.tables.exec = Jvm.exec) (hb : c.code = cc) {own : String} {index : Nat} {ty : FieldType} {cy : ClassId} (hown : s.vm.findClass own = some m.cls) (hclink : (Cond.classLink own index ("[" ++ (FieldType.array ty).toString)).before args s = true) (hover : va_AOA ty s) (harr : (Cond.arrayClass ty).before args s = true) (hcy : s.vm.findClass (FieldType.array ty).toString = some cy)
    (hK : va_K D cl tys s) (hP : va_P D cl (X ++ va_pl L f) H) (hD : va_D A (X ++ va_pl L f)) (hS : va_S A H0 H locs) (hA : ∀ q, H0.size ≤ q → A q) {n k : Int32} {N' K' : Nat} {z : vp_A} (hn : ¬ n < 0) (hk : ¬ k < 0) (hN : n.toNatClampNeg = N') (hM : k.toNatClampNeg = K')
    (hb1 : N' * 4 ≤ 536870912) (hb2 : K' * componentBytes ty ≤ 536870912) (hb3 : K' ≤ 536870912) (hdf : fits ty (defaultValue ty) = true) (hdd : (defaultValue ty).isDefault = true) (hcells : cells + (1 + N') ≤ R.cells) (hslots : slots + (N' + N' * K') ≤ R.slots) (hz : ∀ c : ClassId, Jvm.Free.Multi.innerC c K' (defaultValue ty) = vp_cell c z) (hdg : decode cc pc = .ok (.multianewarray index 2, 4))
    (kk : ∀ (q : Nat) (r : Nat → Nat) (cA : ClassId) (H1 : Heap), (∀ i j : Nat, i < N' → j < N' → r i = r j → i = j) → (∀ i : Nat, i < N' → r i ∉ L) → va_K D cl (tys ++ [(cA, .array ty)]) s →
      va_P D cl ((X ++ [(q, .inl (cA, N', .inr (.inr (.inr (.inr (fun i => if i < N' then some (r i) else none))))))]) ++ va_pl (L ++ (List.range N').map r) (vr_up f ((List.range N').map r) (.inl (cy, z)))) H1 → va_D A ((X ++ [(q, .inl (cA, N', .inr (.inr (.inr (.inr (fun i => if i < N' then some (r i) else none))))))]) ++ va_pl (L ++ (List.range N').map r) (vr_up f ((List.range N').map r) (.inl (cy, z)))) → va_S A H0 H1 locs →
      W p l e R s m args below meth c H1 locs (cells + 1 + N') (slots + N' + N' * K') Q (F0 m (pc + 4) ls (.ref q :: rest))) : W p l e R s m args below meth c H locs cells slots Q (F0 m pc ls (.int k :: .int n :: rest)) := by
  subst hN
  subst hM
  intro T hT Xs
  obtain ⟨vm₁, cA, comp, -, fA, fC, hO, -, X', step⟩ := Xs.multianewarray2F hexec hown hclink (va_AOA.use hover) harr (g := F0 m pc ls (.int k :: .int n :: rest)) rfl (by rw [hb]; exact hdg) rfl hn hk hb1 hb2 hb3 hdf hdd hcells hslots
  have ec : some cy = some comp := hcy.symm.trans fC
  cases ec
  generalize hF : Jvm.Free.Multi.fill (T.setVm vm₁) cA cy n.toNatClampNeg k.toNatClampNeg (defaultValue ty) n.toNatClampNeg = F at X' step
  have hTh : (T.setVm vm₁).heap = H := hT
  obtain ⟨f1, f2, -, -⟩ := Jvm.Free.Multi.fill_facts (T.setVm vm₁) cA cy n.toNatClampNeg k.toNatClampNeg (defaultValue ty) n.toNatClampNeg
  rw [hF, hTh] at f1 f2
  have hold : ∀ x : Nat, x < H.size → F.heap[x]? = H[x]? := fun x hx => by
    have := Jvm.Free.Multi.fill_old (T.setVm vm₁) cA cy n.toNatClampNeg k.toNatClampNeg (defaultValue ty) (a := x) (by rw [hTh]; exact hx) n.toNatClampNeg
    rw [hF, hTh] at this
    exact this
  have hrow : ∀ j : Nat, j < n.toNatClampNeg → F.heap[H.size + 1 + j]? = some (vp_cell cy z) := fun j hj => by
    have := Jvm.Free.Multi.fill_inner (T.setVm vm₁) cA cy n.toNatClampNeg k.toNatClampNeg (defaultValue ty) n.toNatClampNeg j hj
    rw [hF, hTh, hz] at this
    exact this
  have hout : Jvm.Free.Multi.outerC cA n.toNatClampNeg H.size n.toNatClampNeg = vp_cell cA (n.toNatClampNeg, .inr (.inr (.inr (.inr (fun i => if i < n.toNatClampNeg then some (H.size + 1 + i) else none))))) := by
    rw [vp_cell_q]
    exact vr_outer cA n.toNatClampNeg H.size n.toNatClampNeg
  rw [hout] at f2
  have hlt : ∀ a, a ∈ L → a < H.size := fun a ha => by
    obtain ⟨k9, hk9⟩ := va_pl_get (X := X) (f := f) ha
    exact (hP k9 _ hk9).lt
  have hnl : ∀ i : Nat, i < n.toNatClampNeg → H.size + 1 + i ∉ L := fun i _ h => by
    have := hlt _ h
    omega
  have hnm : ∀ a, a ∈ (List.range n.toNatClampNeg).map (fun i => H.size + 1 + i) → a ∉ L := fun a ha h => by
    obtain ⟨i, -, rfl⟩ := List.mem_map.mp ha
    have := hlt _ h
    omega
  have hP0 : va_P D cl (X ++ va_pl L f) F.heap := hP.kept (fun k9 x hx => hold x.1 ((hP k9 x hx).lt))
  have hP1 : va_P D cl ((X ++ va_pl L f) ++ [(H.size, .inl (cA, n.toNatClampNeg, .inr (.inr (.inr (.inr (fun i => if i < n.toNatClampNeg then some (H.size + 1 + i) else none))))))]) F.heap := hP0.app (fun k9 x hx => by
    have h0 : k9 < 1 := (List.getElem?_eq_some_iff.mp hx).1
    rw [show k9 = 0 by omega] at hx
    cases hx
    exact f2)
  have hP2 : va_P D cl (((X ++ va_pl L f) ++ [(H.size, .inl (cA, n.toNatClampNeg, .inr (.inr (.inr (.inr (fun i => if i < n.toNatClampNeg then some (H.size + 1 + i) else none))))))]) ++ ((List.range n.toNatClampNeg).map (fun i => H.size + 1 + i)).map (fun a => (a, .inl (cy, z)))) F.heap := hP1.app (fun k9 x hx => by
    obtain ⟨a, ha, rfl⟩ := List.mem_map.mp (List.mem_of_getElem? hx)
    obtain ⟨i, hi, rfl⟩ := List.mem_map.mp ha
    exact hrow i (List.mem_range.mp hi))
  have hD2 : va_D A (((X ++ va_pl L f) ++ [(H.size, .inl (cA, n.toNatClampNeg, .inr (.inr (.inr (.inr (fun i => if i < n.toNatClampNeg then some (H.size + 1 + i) else none))))))]) ++ ((List.range n.toNatClampNeg).map (fun i => H.size + 1 + i)).map (fun a => (a, .inl (cy, z)))) := by
    have hD1 := hD.push (e := .inl (cA, n.toNatClampNeg, .inr (.inr (.inr (.inr (fun i => if i < n.toNatClampNeg then some (H.size + 1 + i) else none)))))) hP rfl (hA _ hS.1)
    generalize hW1 : (X ++ va_pl L f) ++ [(H.size, .inl (cA, n.toNatClampNeg, .inr (.inr (.inr (.inr (fun i => if i < n.toNatClampNeg then some (H.size + 1 + i) else none))))))] = W1 at hD1 hP1 ⊢
    have hle : ∀ (k9 : Nat) (x : Nat × va_E), W1[k9]? = some x → x.1 ≤ H.size := fun k9 x hx => by
      rw [← hW1] at hx
      by_cases hl : k9 < (X ++ va_pl L f).length
      · rw [List.getElem?_append_left hl] at hx
        exact Nat.le_of_lt ((hP k9 x hx).lt)
      · rw [List.getElem?_append_right (by omega)] at hx
        have h0 : k9 - (X ++ va_pl L f).length < 1 := (List.getElem?_eq_some_iff.mp hx).1
        rw [show k9 - (X ++ va_pl L f).length = 0 by omega] at hx
        cases hx
        exact Nat.le_refl _
    have hr : ∀ (k9 : Nat) (x : Nat × va_E), (((List.range n.toNatClampNeg).map (fun i => H.size + 1 + i)).map (fun a => ((a, .inl (cy, z)) : Nat × va_E)))[k9]? = some x → x.1 = H.size + 1 + k9 := fun k9 x hx => by
      rw [List.getElem?_map, List.getElem?_map] at hx
      by_cases h9 : k9 < n.toNatClampNeg
      · rw [List.getElem?_range h9] at hx
        cases hx
        rfl
      · have hn0 : (List.range n.toNatClampNeg)[k9]? = none := List.getElem?_eq_none (by rw [List.length_range]; omega)
        rw [hn0] at hx
        cases hx
    refine ⟨fun i j x y hi hj hxy => ?_, fun k9 x hx => ?_⟩
    · by_cases h1 : i < W1.length <;> by_cases h2 : j < W1.length
      · rw [List.getElem?_append_left h1] at hi
        rw [List.getElem?_append_left h2] at hj
        exact hD1.1 i j x y hi hj hxy
      · rw [List.getElem?_append_left h1] at hi
        rw [List.getElem?_append_right (by omega)] at hj
        have := hle _ _ hi
        have := hr _ _ hj
        omega
      · rw [List.getElem?_append_right (by omega)] at hi
        rw [List.getElem?_append_left h2] at hj
        have := hle _ _ hj
        have := hr _ _ hi
        omega
      · rw [List.getElem?_append_right (by omega)] at hi hj
        have := hr _ _ hi
        have := hr _ _ hj
        omega
    · by_cases h1 : k9 < W1.length
      · rw [List.getElem?_append_left h1] at hx
        exact hD1.2 k9 x hx
      · rw [List.getElem?_append_right (by omega)] at hx
        have := hr _ _ hx
        exact hA _ (by have := hS.1; omega)
  have hAr : ArrOfT s cA (.array ty) := fun N9 z9 => by
    obtain ⟨-, k9, hk9, cm9, hkk9⟩ := (hO 0 0 0).1
    exact ⟨(fun q hq => by cases hq), k9, hk9, cm9, hkk9⟩
  have hK2 : va_K D cl (tys ++ [(cA, .array ty)]) s := ⟨hK.1, fun k9 x hx => by
    by_cases hl : k9 < tys.length
    · rw [List.getElem?_append_left hl] at hx
      exact hK.2 k9 x hx
    · rw [List.getElem?_append_right (by omega)] at hx
      have h0 : k9 - tys.length < 1 := (List.getElem?_eq_some_iff.mp hx).1
      rw [show k9 - tys.length = 0 by omega] at hx
      cases hx
      exact ⟨hAr, fA⟩⟩
  obtain ⟨t, a1, b1⟩ := kk H.size (fun i => H.size + 1 + i) cA F.heap (fun i j _ _ h => by have h9 : H.size + 1 + i = H.size + 1 + j := h; omega) hnl hK2 (by rw [← vr_rows hnm]; exact vr_lay hP2) (by rw [← vr_rows hnm]; exact vr_layD hD2) ⟨by rw [f1]; have := hS.1; omega, fun x h1 h2 => (hold x (Nat.lt_of_lt_of_le h1 hS.1)).trans (hS.2.1 x h1 h2), hS.2.2⟩ F rfl X'
  refine ⟨t, step t ?_, b1⟩
  have e : T.heap.size = H.size := by rw [hT]
  rw [e]
  exact a1
end VGM
/-! ===== END ===== -/
/-! ===== BEGIN exceptions that leave a method, and their catching by the caller (launches without stack traces) ===== -/
section VXA
/-! The laws vx_back, vx_callV, vx_callS, vx_callSW, vx_throw0, vx_throwS follow proofs of the library, with one case more: JvmDerived/Free/Laws.lean (Back.of_free), Shelf42/LK1.lean (callV, callS), Shelf/KitTraced.lean (throwNew0V, throwNewS). -/
/-- where a method has thrown q: the class by its name, the cell, what was written, the world -/
def vx_T (XC : String → State → State → Prop) (st : State) (q : Addr) (t : State) (mc ms : Nat) (free : Addr → Prop) : Prop :=
  ∃ (E : String) (ce : Cell) (L : List Loc), XC E st t ∧ t.heap[q]? = some ce ∧ ce.vm = .none ∧ st.vm.findClass E = some ce.cls ∧ st.WarmedH t.vm ∧ st.sameButNew ({ t with vm := st.vm } : State) L mc ms ∧ ∀ z ∈ L, free z.base
def vx_Q (Qc : Array Value → State → Outcome → State → Prop) (XC : String → State → State → Prop) (mc ms : Nat) (free : Addr → Prop) : Array Value → State → Outcome → State → Prop := fun a st o t =>
  (Qc a st o t ∧ ∃ L, FrameEnd st o t L mc ms ∧ ∀ q ∈ L, free q.base) ∨ ∃ q, o = .threw q ∧ vx_T XC st q t mc ms free
/-- a callee that returns or throws -/
def vx_Met (l : Launch) (y : MethodName) (ws : List Cond) (rm : Room) (Pc : Array Value → State → Prop) (Qc : Array Value → State → Outcome → State → Prop) (XC : String → State → State → Prop) (mc ms : Nat) (free : Addr → Prop) : Prop :=
  MetFree l y (headSpec ws rm) Pc (fun _ _ _ _ _ => True) (vx_Q Qc XC mc ms free)
def vx_Post (XC : String → State → State → Prop) (mc ms : Nat) (free : Addr → Prop) : Pt → Array Value → Addr → Pt → Prop := fun A a q B =>
  ∃ (g : JFrame) (mk : MethodId) (t : State) (L : List Loc) (E : String) (ce : Cell), B.U.heap = t.heap ∧ B.U.vm = t.vm ∧ XC E (A.U.calling g mk a) t ∧ t.heap[q]? = some ce ∧ ce.vm = .none ∧ A.U.vm.findClass E = some ce.cls ∧ B.locs = A.locs ++ L ∧ (∀ z ∈ L, free z.base) ∧ B.cells = A.cells + mc ∧ B.slots = A.slots + ms
def vx_Back (l : Launch) (R : Room) (p : Program) (e : Env) (below : List Frame) (s : State) (sargs : Array Value) (y : MethodName) (len W9 : Nat)
    (Pre : Pt → Array Value → Prop) (Post : Pt → Array Value → Option Value → Pt → Prop) (PostX : Pt → Array Value → Addr → Pt → Prop) : Prop :=
  ∀ (m : MethodId) (meth : Method) (c : Code) (A : Pt) (g : JFrame) (ig : Instr) (mk : MethodId) (a : Array Value),
    Stand p l e R s m sargs below meth c A.U A.locs A.cells A.slots → g.method = m → g.locals.size = c.maxLocals → decode c.code g.pc = .ok (ig, len) →
    2 * g.monitorRoom + (g.stack.map fun v => v.category).sum ≤ W9 → A.U.methodNamed? y = some mk → Pre A a →
    (∃ (v : Option Value) (B : Pt), Stand p l e R s m sargs below meth c B.U B.locs B.cells B.slots ∧ Post A a v B ∧
      Steps p.tables e below (doInvoke e (A.U.setTop g) [] mk a).1 (B.U.setTop { g with pc := g.pc + len, stack := v.toList ++ g.stack })) ∨
    (∃ (q : Addr) (B : Pt), Stand p l e R s m sargs below meth c B.U B.locs B.cells B.slots ∧ PostX A a q B ∧
      Steps p.tables e below (doInvoke e (A.U.setTop g) [] mk a).1 ((B.U.setTop g).pushFrame (.throwing q)))
section Payer
variable {l : Launch} {R : Room} {p : Program} {e : Env} {below : List Frame} {s : State} {sargs : Array Value} {y : MethodName} {len W9 : Nat}
theorem vx_back {ws : List Cond} {rm : Room} {Pc : Array Value → State → Prop} {Qc : Array Value → State → Outcome → State → Prop} {XC : String → State → State → Prop} {mc ms : Nat} {free : Addr → Prop} {bytes : ByteArray} {maxL : Nat} {ret : Option FieldType}
    (hM : vx_Met l y ws rm Pc Qc XC mc ms free) (hblind : FrameBlind Pc) (hrc : rm.cells = mc) (hrs : rm.slots = ms)
    (hframes : rm.frames + 1 ≤ R.frames) (hlocals : W9 + (maxL + 11) + rm.locals ≤ R.locals)
    (hws : ∀ w ∈ ws, ∀ a' U, s.WarmedH U.vm → w.before a' U = true) (hcode : Cond.code y bytes maxL ret ∈ ws) (hinit : ∀ a' U, s.WarmedH U.vm → (Cond.initialized y.cls).before a' U = true) :
    vx_Back l R p e below s sargs y len W9 (PreOf R mc ms Pc) (PostOf Qc mc ms free) (vx_Post XC mc ms free) := by
  intro m meth c A g ig mk a X hg hsize hdg hW hn hp
  have h1 : (headSpec ws rm).pre.before a A.U = true := atoms_intro fun w hw => hws w hw _ _ X.warmed
  have h2 : (Cond.code y bytes maxL ret).before a A.U = true := hws _ hcode _ _ X.warmed
  have h3 : (Cond.initialized y.cls).before a A.U = true := hinit _ _ X.warmed
  have h4 : A.cells + (headSpec ws rm).room.cells ≤ R.cells := by rw [show (headSpec ws rm).room.cells = mc from hrc]; exact hp.1
  have h5 : A.slots + (headSpec ws rm).room.slots ≤ R.slots := by rw [show (headSpec ws rm).room.slots = ms from hrs]; exact hp.2.1
  have hPc : Pc a (A.U.calling g mk a) := hblind _ _ _ _ hp.2.2
  obtain ⟨U, Ls, c0, s0⟩ := A
  dsimp only [Pt.U, Pt.locs, Pt.cells, Pt.slots] at h1 h2 h3 h4 h5 X hn hPc ⊢
  obtain ⟨methY, cY, hmY, hcY, -, hlY, -, -, -, -⟩ := Cond.code_spec hn h2
  obtain ⟨kY, hkY, -⟩ := className_of_methodNamed hn
  have hinitY : kY.init = .initialized := Cond.initialized_spec (findClass_of_methodNamed hn) hkY h3
  have h : At U g.method c below := by rw [hg]; exact X.here
  have hlocals9 : W9 + (maxL + 11) + (headSpec ws rm).room.locals ≤ R.locals := hlocals
  have happ : (headSpec ws rm).appliesLoose y e.platform (U.calling g mk a) = true :=
    Spec.appliesLoose_calling (g := g) h hdg hn hkY hinitY
      (X.room_calling (g := g) (R' := (headSpec ws rm).room) hsize hmY hcY hframes (by rw [hlY]; omega) h4 h5) h1
  obtain ⟨mid, hmid⟩ := h.above
  have hfr : (U.setTop g).frames = (.java g :: mid) ++ below := by rw [State.frames_setTop' g h.top, hmid]; rfl
  obtain ⟨o, s₂, hsteps, -, hend, hq⟩ := Steps.callFree hM p X.admits X.cas X.clock (acts := []) hfr happ hPc trivial
  have hq' : vx_Q Qc XC mc ms free a (U.calling g mk a) o s₂ := hq
  rw [State.frames_setTop' g h.top] at hend
  obtain ⟨g₀, hg0⟩ := Option.isSome_iff_exists.mp h.top
  obtain ⟨r, hr⟩ := State.topJava?_eq_some.mp hg0
  have hr' : (({ U with heap := s₂.heap, slotsUsed := s₂.slotsUsed } : State).setVm s₂.vm).frames = .java g₀ :: r := hr
  rcases hq' with ⟨hqc, L, hfe, hL⟩ | ⟨q, rfl, E, ce, L, hx, hce, hcv, hcl, hW₂, hsm, hL⟩
  · obtain ⟨⟨v, rfl⟩, hW₂, e2, q2, q3, q4, q5, q6⟩ := id hfe
    have e3 : s₂ = ({ (U.calling g mk a).setFrames s₂.frames with heap := s₂.heap, slotsUsed := s₂.slotsUsed } : State).setVm s₂.vm := by
      have : s₂ = ({ s₂ with vm := (U.calling g mk a).vm } : State).setVm s₂.vm := rfl
      rw [e2] at this
      exact this
    obtain ⟨c₂, i₂, len₂, hc₂, hd₂, hf₂⟩ := hend
    have hW' : U.WarmedH s₂.vm := hW₂
    have hcc : c₂ = c := by
      have h1 : s₂.code? g.method = U.code? g.method := by
        rw [State.code?_eq, State.code?_eq, hW'.alike.method?]
      exact Option.some.inj (hc₂.symm.trans (h1.trans h.code))
    subst hcc
    have hlen : len₂ = len := by rw [hdg] at hd₂; cases hd₂; rfl
    subst hlen
    have hs₂ : s₂ = (({ U with heap := s₂.heap, slotsUsed := s₂.slotsUsed } : State).setVm s₂.vm).setTop { g with pc := g.pc + len₂, stack := v.toList ++ g.stack } := by
      refine e3.trans ?_
      rw [hf₂, State.calling_eq h.top, State.setFrames_setFrames, State.setTop_of_frames _ hr', hr]
      rfl
    have hsame : U.sameButNew ({ U with heap := s₂.heap, slotsUsed := s₂.slotsUsed } : State) L mc ms := by
      refine ⟨?_, q2, q3, q4, q5, q6⟩
      obtain ⟨t, ht, -⟩ := State.frames_cons hr
      show ({ U with heap := s₂.heap, slotsUsed := s₂.slotsUsed } : State) = { U.setFrames U.frames with heap := s₂.heap, slotsUsed := s₂.slotsUsed }
      rw [State.setFrames_self ht]
    subst hg
    refine Or.inl ⟨v, ⟨(({ U with heap := s₂.heap, slotsUsed := s₂.slotsUsed } : State).setVm s₂.vm), Ls ++ L, c0 + mc, s0 + ms⟩,
      ⟨X.admits, X.cas, X.clock, X.frames, X.room, X.hears, X.method, X.code, (X.here.setHeapUsed s₂.heap s₂.slotsUsed).setVm hW'.alike, X.tail, State.WarmedH.trans X.warmed hW', X.limits, X.bytes, X.same.trans (hsame.setVm s.vm)⟩,
      ⟨g, mk, s₂, L, rfl, rfl, hqc, rfl, hL, rfl, rfl⟩, ?_⟩
    show Steps p.tables e below _ ((({ U with heap := s₂.heap, slotsUsed := s₂.slotsUsed } : State).setVm s₂.vm).setTop { g with pc := g.pc + len₂, stack := v.toList ++ g.stack })
    rw [← hs₂]
    exact hsteps
  · obtain ⟨e2, q2, q3, q4, q5, q6⟩ := id hsm
    have e3 : s₂ = ({ (U.calling g mk a).setFrames s₂.frames with heap := s₂.heap, slotsUsed := s₂.slotsUsed } : State).setVm s₂.vm := by
      have : s₂ = ({ s₂ with vm := (U.calling g mk a).vm } : State).setVm s₂.vm := rfl
      rw [e2] at this
      exact this
    have hf₂ : s₂.frames = .throwing q :: .java g :: U.frames.tail := hend
    have hW' : U.WarmedH s₂.vm := hW₂
    have hs₂ : s₂ = ((({ U with heap := s₂.heap, slotsUsed := s₂.slotsUsed } : State).setVm s₂.vm).setTop g).pushFrame (.throwing q) := by
      refine e3.trans ?_
      rw [hf₂, State.calling_eq h.top, State.setFrames_setFrames, State.pushFrame, State.frames_setTop _ hr', State.setTop_of_frames _ hr', State.setFrames_setFrames, hr]
      rfl
    have hsame : U.sameButNew ({ U with heap := s₂.heap, slotsUsed := s₂.slotsUsed } : State) L mc ms := by
      refine ⟨?_, q2, q3, q4, q5, q6⟩
      obtain ⟨t, ht, -⟩ := State.frames_cons hr
      show ({ U with heap := s₂.heap, slotsUsed := s₂.slotsUsed } : State) = { U.setFrames U.frames with heap := s₂.heap, slotsUsed := s₂.slotsUsed }
      rw [State.setFrames_self ht]
    subst hg
    refine Or.inr ⟨q, ⟨(({ U with heap := s₂.heap, slotsUsed := s₂.slotsUsed } : State).setVm s₂.vm), Ls ++ L, c0 + mc, s0 + ms⟩,
      ⟨X.admits, X.cas, X.clock, X.frames, X.room, X.hears, X.method, X.code, (X.here.setHeapUsed s₂.heap s₂.slotsUsed).setVm hW'.alike, X.tail, State.WarmedH.trans X.warmed hW', X.limits, X.bytes, X.same.trans (hsame.setVm s.vm)⟩,
      ⟨g, mk, s₂, L, E, ce, rfl, rfl, hx, hce, hcv, hcl, rfl, hL, rfl, rfl⟩, ?_⟩
    show Steps p.tables e below _ (((({ U with heap := s₂.heap, slotsUsed := s₂.slotsUsed } : State).setVm s₂.vm).setTop g).pushFrame (.throwing q))
    rw [← hs₂]
    exact hsteps
end Payer
section Calls
variable {p : Program} {l : Launch} {e : Env} {R : Room} {s : State} {m : MethodId} {args : Array Value} {below : List Frame} {meth : Method} {c : Code} {T : State} {locs : List Loc} {cells slots : Nat}
theorem vx_callV (X : Stand p l e R s m args below meth c T locs cells slots) (hexec : p.tables.exec = Jvm.exec) {own C : String} {index : Nat} {y : MethodName} {bytes : ByteArray} {maxL : Nat} {ret : Option FieldType}
    (hown : s.vm.findClass own = some m.cls) (hlink : (Cond.methodLink own index y).before args s = true) (hinst : (Cond.instanceMethod y).before args s = true) (hsel : (Cond.selects C y y).before args s = true)
    (hcode : (Cond.code y bytes maxL ret).before args s = true) (hy : y.cls ≠ "java/lang/invoke/MethodHandle" ∧ y.cls ≠ "java/lang/invoke/VarHandle")
    {W9 : Nat} {Pre : Pt → Array Value → Prop} {Post : Pt → Array Value → Option Value → Pt → Prop} {PostX : Pt → Array Value → Addr → Pt → Prop} (hK : vx_Back l R p e below s args y 3 W9 Pre Post PostX)
    {b : Addr} {cellB : Cell} (hcell : T.heap[b]? = some cellB) (hobj : cellB.vm.isStatics = false) (hcls : s.vm.findClass C = some cellB.cls)
    {g : JFrame} (hg : g.method = m) (hsize : g.locals.size = c.maxLocals) {argsL rest : List Value} (hlen : ∀ sig, parseMethodDescriptor y.desc = some sig → argsL.length = sig.parameters.length)
    (hstack : g.stack = argsL.reverse ++ .ref b :: rest) (hW : 2 * g.monitorRoom + (rest.map fun v => v.category).sum ≤ W9) (hdg : decode c.code g.pc = .ok (.invokevirtual index, 3))
    (hpre : ∀ vm₁, s.WarmedH vm₁ → Pre ⟨T.setVm vm₁, locs, cells, slots⟩ (Value.ref b :: argsL).toArray) :
    (∃ (v : Option Value) (vm₁ : Vm) (B : Pt), s.WarmedH vm₁ ∧ Stand p l e R s m args below meth c B.U B.locs B.cells B.slots ∧ Post ⟨T.setVm vm₁, locs, cells, slots⟩ (Value.ref b :: argsL).toArray v B ∧
      ∀ target, Steps p.tables e below (B.U.setTop { g with pc := g.pc + 3, stack := v.toList ++ rest }) target → Steps p.tables e below (T.setTop g) target) ∨
    (∃ (q : Addr) (vm₁ : Vm) (B : Pt), s.WarmedH vm₁ ∧ Stand p l e R s m args below meth c B.U B.locs B.cells B.slots ∧ PostX ⟨T.setVm vm₁, locs, cells, slots⟩ (Value.ref b :: argsL).toArray q B ∧
      Steps p.tables e below (T.setTop g) ((B.U.setTop { g with stack := rest }).pushFrame (.throwing q))) := by
  obtain ⟨mk, methM, hnamed, hmethM, hstM, habM⟩ := Cond.instanceMethod_spec hinst
  obtain ⟨methM', cM, hmethM', -, -, -, -, -, -, hsigM⟩ := Cond.code_spec hnamed hcode
  cases hmethM.symm.trans hmethM'
  obtain ⟨c2, r2, m2, q1, q2, q3, q4, kP, hkP, hkPi⟩ := Cond.selects_spec hsel
  cases hcls.symm.trans q1
  cases (State.methodFound?_of_named hnamed hy).symm.trans q2
  cases hnamed.symm.trans q3
  have hselP : selectMethod e.platform s.vm cellB.cls mk = .method mk := by rw [Launch.admits_selectMethod X.admits]; exact q4
  obtain ⟨vm₁, X₁, hstep₁⟩ := X.invokevirtual hexec hown hlink hnamed hmethM hstM hkP hkPi hy (a := b) (cell := cellB) hcell
    (fun z h => by rw [h] at hobj; cases hobj) hselP hmethM habM hkP hkPi (g := g) hg (argsL := argsL) (rest := rest) (hlen _ hsigM) hstack hdg
  rcases hK m meth c ⟨T.setVm vm₁, locs, cells, slots⟩ { g with stack := rest } (.invokevirtual index) mk (Value.ref b :: argsL).toArray X₁ hg hsize hdg hW (X₁.named hnamed) (hpre vm₁ X₁.warmed) with ⟨v, B, X', hpost, hsteps⟩ | ⟨q, B, X', hpost, hsteps⟩
  · exact Or.inl ⟨v, vm₁, B, X₁.warmed, X', hpost, fun target h => hstep₁ _ fun acts => by rw [doInvoke_state]; exact hsteps.trans h⟩
  · exact Or.inr ⟨q, vm₁, B, X₁.warmed, X', hpost, hstep₁ _ fun acts => by rw [doInvoke_state]; exact hsteps⟩
theorem vx_callS (X : Stand p l e R s m args below meth c T locs cells slots) (hexec : p.tables.exec = Jvm.exec) {own : String} {index : Nat} {y : MethodName} {bytes : ByteArray} {maxL : Nat} {ret : Option FieldType}
    (hown : s.vm.findClass own = some m.cls) (hlink : (Cond.methodLink own index y).before args s = true) (hstat : (Cond.static y).before args s = true) (hinit : (Cond.initialized y.cls).before args s = true)
    (hcode : (Cond.code y bytes maxL ret).before args s = true) (hy : y.cls ≠ "java/lang/invoke/MethodHandle" ∧ y.cls ≠ "java/lang/invoke/VarHandle")
    {W9 : Nat} {Pre : Pt → Array Value → Prop} {Post : Pt → Array Value → Option Value → Pt → Prop} {PostX : Pt → Array Value → Addr → Pt → Prop} (hK : vx_Back l R p e below s args y 3 W9 Pre Post PostX)
    {g : JFrame} (hg : g.method = m) (hsize : g.locals.size = c.maxLocals) {argsL rest : List Value} (hlen : ∀ sig, parseMethodDescriptor y.desc = some sig → argsL.length = sig.parameters.length)
    (hstack : g.stack = argsL.reverse ++ rest) (hW : 2 * g.monitorRoom + (rest.map fun v => v.category).sum ≤ W9) (hdg : decode c.code g.pc = .ok (.invokestatic index, 3))
    (hpre : ∀ vm₁, s.WarmedH vm₁ → Pre ⟨T.setVm vm₁, locs, cells, slots⟩ argsL.toArray) :
    (∃ (v : Option Value) (vm₁ : Vm) (B : Pt), s.WarmedH vm₁ ∧ Stand p l e R s m args below meth c B.U B.locs B.cells B.slots ∧ Post ⟨T.setVm vm₁, locs, cells, slots⟩ argsL.toArray v B ∧
      ∀ target, Steps p.tables e below (B.U.setTop { g with pc := g.pc + 3, stack := v.toList ++ rest }) target → Steps p.tables e below (T.setTop g) target) ∨
    (∃ (q : Addr) (vm₁ : Vm) (B : Pt), s.WarmedH vm₁ ∧ Stand p l e R s m args below meth c B.U B.locs B.cells B.slots ∧ PostX ⟨T.setVm vm₁, locs, cells, slots⟩ argsL.toArray q B ∧
      Steps p.tables e below (T.setTop g) ((B.U.setTop { g with stack := rest }).pushFrame (.throwing q))) := by
  obtain ⟨mk, hnamed⟩ := Cond.code_named hcode
  obtain ⟨methM, cM, hmethM, -, -, -, -, -, -, hsigM⟩ := Cond.code_spec hnamed hcode
  have hstatic : methM.isStatic = true := Cond.static_spec hnamed hmethM hstat
  obtain ⟨kP, hkP, -⟩ := className_of_methodNamed hnamed
  have hinitP : kP.init = .initialized := Cond.initialized_spec (findClass_of_methodNamed hnamed) hkP hinit
  obtain ⟨vm₁, X₁, hstep₁⟩ := X.invokestatic hexec hown hlink hnamed hmethM hstatic hkP hinitP hy (g := g) hg (argsL := argsL) (rest := rest) (hlen _ hsigM) hstack hdg
  rcases hK m meth c ⟨T.setVm vm₁, locs, cells, slots⟩ { g with stack := rest } (.invokestatic index) mk argsL.toArray X₁ hg hsize hdg hW (X₁.named hnamed) (hpre vm₁ X₁.warmed) with ⟨v, B, X', hpost, hsteps⟩ | ⟨q, B, X', hpost, hsteps⟩
  · exact Or.inl ⟨v, vm₁, B, X₁.warmed, X', hpost, fun target h => hstep₁ _ fun acts => by rw [doInvoke_state]; exact hsteps.trans h⟩
  · exact Or.inr ⟨q, vm₁, B, X₁.warmed, X', hpost, hstep₁ _ fun acts => by rw [doInvoke_state]; exact hsteps⟩
end Calls
theorem vx_cls {s : State} {T : State} {vm₁ : Vm} {E : String} {k : ClassId} (hW : s.WarmedH vm₁) (h : (T.setVm vm₁).vm.findClass E = some k) : s.vm.findClass E = some k := by
  have h1 : vm₁.findClass E = some k := h
  rw [hW.alike.findClass] at h1
  exact h1
/-- the method's frame g, with q thrown over it -/
def vx_W (p : Program) (l : Launch) (e : Env) (R : Room) (s : State) (m : MethodId) (args : Array Value) (below : List Frame) (meth : Method) (c : Code) (H : Heap) (locs : List Loc) (cells slots : Nat) (Q : State → Prop) (g : JFrame) (q : Addr) : Prop :=
  ∀ T : State, T.heap = H → Stand p l e R s m args below meth c T locs cells slots → ∃ t, Steps p.tables e below ((T.setTop g).pushFrame (.throwing q)) t ∧ Q t
def vx_Run (p : Program) (l : Launch) (e : Env) (R : Room) (s : State) (m : MethodId) (args : Array Value) (below : List Frame) (meth : Method) (c : Code) (H : Heap) (locs : List Loc) (cells slots mc ms : Nat) (g : JFrame) (rest : List Value) (Qa : State → Outcome → State → Prop) (XC : String → State → State → Prop) (free : Addr → Prop) : Prop :=
  ∀ T : State, T.heap = H → Stand p l e R s m args below meth c T locs cells slots →
    (∃ (v : Option Value) (st₀ t T' : State) (L : List Loc), st₀.heap = H ∧ Stand p l e R s m args below meth c T' (locs ++ L) (cells + mc) (slots + ms) ∧ (∀ q ∈ L, free q.base) ∧ T'.heap = t.heap ∧ T'.vm = t.vm ∧ Qa st₀ (.returned v) t ∧
      Goes p e below T g T' { g with pc := g.pc + 3, stack := v.toList ++ rest }) ∨
    (∃ (q : Addr) (st₀ t T' : State) (L : List Loc) (E : String) (ce : Cell), st₀.heap = H ∧ Stand p l e R s m args below meth c T' (locs ++ L) (cells + mc) (slots + ms) ∧ (∀ z ∈ L, free z.base) ∧ T'.heap = t.heap ∧ T'.vm = t.vm ∧ XC E st₀ t ∧ t.heap[q]? = some ce ∧ ce.vm = .none ∧ s.vm.findClass E = some ce.cls ∧
      Steps p.tables e below (T.setTop g) ((T'.setTop { g with stack := rest }).pushFrame (.throwing q)))
def vx_X {S : Type} (px : S → Prop) (B : String → S → State → Prop) (A : Nat → Prop) : String → State → State → Prop := fun E st t => ∃ u : S, px u ∧ B E u t ∧ va_F A st t
section Runs
variable {p : Program} {l : Launch} {e : Env} {R : Room} {s : State} {m : MethodId} {args : Array Value} {below : List Frame} {meth : Method} {c : Code} {H : Heap} {locs : List Loc} {cells slots : Nat}
variable {y : MethodName} {bytes cc : ByteArray} {maxL nL mc ms n index : Nat} {ret : Option FieldType} {ws : List Cond} {rm : Room} {Pc : Array Value → State → Prop} {Qc : Array Value → State → Outcome → State → Prop} {XC : String → State → State → Prop} {free : Addr → Prop} {Ts : List Cond} {own C : String} {b : Addr} {As rest : List Value} {g : JFrame}
theorem vx_callBack (cb : CallB R s args own index y bytes maxL ret ws rm mc ms n) (hM : vx_Met l y ws rm Pc Qc XC mc ms free) (hbl : FrameBlind Pc) : vx_Back l R p e below s args y 3 8 (PreOf R mc ms Pc) (PostOf Qc mc ms free) (vx_Post XC mc ms free) := by
  obtain ⟨hrc, hrs, hfr, hlo, hws, hcw, -, hini, -⟩ := cb
  exact vx_back (bytes := bytes) (maxL := maxL) (ret := ret) hM hbl hrc hrs hfr hlo hws hcw (fun a' U hW => word_at hW (Or.inl (by first | rfl | simp [Cond.onTables, Cond.keeps, Cond.steady])) hini)
theorem vx_runV (S : CallFix p m c cc nL s args Ts own) (hM : vx_Met l y ws rm Pc Qc XC mc ms free) (cw : CallW R s args own C index y bytes maxL ret ws rm mc ms n) (hp : PreV s H C b Pc As)
    (hg : g.method = m) (hn : As.length = n) (hsize : g.locals.size = nL) (hstack : g.stack = As.reverse ++ .ref b :: rest) (hW : 2 * g.monitorRoom + (rest.map fun v => v.category).sum ≤ 8) (hdg : decode cc g.pc = .ok (.invokevirtual index, 3)) (hf : cells + mc ≤ R.cells ∧ slots + ms ≤ R.slots) :
    vx_Run p l e R s m args below meth c H locs cells slots mc ms g rest (Qc (Value.ref b :: As).toArray) XC free := by
  have hK : vx_Back l R p e below s args y 3 8 (PreOf R mc ms Pc) (PostOf Qc mc ms free) (vx_Post XC mc ms free) := vx_callBack cw.1 hM hp.1
  obtain ⟨⟨-, -, -, -, -, -, hcode, -, hy, hlen, hl⟩, hin, hse⟩ := cw
  obtain ⟨hx, hb, hml, ho, -⟩ := S
  obtain ⟨-, ⟨cellB, hcB, hoB, hclB⟩, hPc⟩ := hp
  intro T hT X
  rcases vx_callV X hx (C := C) (bytes := bytes) (maxL := maxL) (ret := ret) ho hl hin hse hcode hy hK (by rw [hT]; exact hcB) hoB hclB hg (hsize.trans hml.symm) (argsL := As) (rest := rest) (fun sig h => hn.trans (hlen sig h)) hstack hW (by rw [hb]; exact hdg)
    (fun vm₁ hW₁ => ⟨hf.1, hf.2, hPc (T.setVm vm₁) hT hW₁⟩) with ⟨v, vm₁, ⟨U', l2, c2, s2⟩, hW₁, X', ⟨g', mk, t, L, e1, e2, hq, h1, hL, h2, h3⟩, st⟩ | ⟨q, vm₁, ⟨U', l2, c2, s2⟩, hW₁, X', ⟨g', mk, t, L, E, ce, e1, e2, hq, hce, hcv, hcl, h1, hL, h2, h3⟩, st⟩
  · dsimp only [Pt.U, Pt.locs, Pt.cells, Pt.slots] at X' e1 e2 h1 h2 h3 st
    subst h1; subst h2; subst h3
    exact Or.inl ⟨v, (T.setVm vm₁).calling g' mk (Value.ref b :: As).toArray, t, U', L, hT, X', hL, e1, e2, hq, st⟩
  · dsimp only [Pt.U, Pt.locs, Pt.cells, Pt.slots] at X' e1 e2 h1 h2 h3 st hcl
    subst h1; subst h2; subst h3
    exact Or.inr ⟨q, (T.setVm vm₁).calling g' mk (Value.ref b :: As).toArray, t, U', L, E, ce, hT, X', hL, e1, e2, hq, hce, hcv, vx_cls hW₁ hcl, st⟩
theorem vx_runS (S : CallFix p m c cc nL s args Ts own) (hM : vx_Met l y ws rm Pc Qc XC mc ms free) (cw : CallB R s args own index y bytes maxL ret ws rm mc ms n ∧ (Cond.static y).before args s = true) (hp : PreS s H Pc As)
    (hg : g.method = m) (hn : As.length = n) (hsize : g.locals.size = nL) (hstack : g.stack = As.reverse ++ rest) (hW : 2 * g.monitorRoom + (rest.map fun v => v.category).sum ≤ 8) (hdg : decode cc g.pc = .ok (.invokestatic index, 3)) (hf : cells + mc ≤ R.cells ∧ slots + ms ≤ R.slots) :
    vx_Run p l e R s m args below meth c H locs cells slots mc ms g rest (Qc As.toArray) XC free := by
  have hK : vx_Back l R p e below s args y 3 8 (PreOf R mc ms Pc) (PostOf Qc mc ms free) (vx_Post XC mc ms free) := vx_callBack cw.1 hM hp.1
  obtain ⟨⟨-, -, -, -, -, -, hcode, hini, hy, hlen, hl⟩, hstt⟩ := cw
  obtain ⟨hx, hb, hml, ho, -⟩ := S
  intro T hT X
  rcases vx_callS X hx (bytes := bytes) (maxL := maxL) (ret := ret) ho hl hstt hini hcode hy hK hg (hsize.trans hml.symm) (argsL := As) (rest := rest) (fun sig h => hn.trans (hlen sig h)) hstack hW (by rw [hb]; exact hdg)
    (fun vm₁ hW₁ => ⟨hf.1, hf.2, hp.2 (T.setVm vm₁) hT hW₁⟩) with ⟨v, vm₁, ⟨U', l2, c2, s2⟩, hW₁, X', ⟨g', mk, t, L, e1, e2, hq, h1, hL, h2, h3⟩, st⟩ | ⟨q, vm₁, ⟨U', l2, c2, s2⟩, hW₁, X', ⟨g', mk, t, L, E, ce, e1, e2, hq, hce, hcv, hcl, h1, hL, h2, h3⟩, st⟩
  · dsimp only [Pt.U, Pt.locs, Pt.cells, Pt.slots] at X' e1 e2 h1 h2 h3 st
    subst h1; subst h2; subst h3
    exact Or.inl ⟨v, (T.setVm vm₁).calling g' mk As.toArray, t, U', L, hT, X', hL, e1, e2, hq, st⟩
  · dsimp only [Pt.U, Pt.locs, Pt.cells, Pt.slots] at X' e1 e2 h1 h2 h3 st hcl
    subst h1; subst h2; subst h3
    exact Or.inr ⟨q, (T.setVm vm₁).calling g' mk As.toArray, t, U', L, E, ce, hT, X', hL, e1, e2, hq, hce, hcv, vx_cls hW₁ hcl, st⟩
end Runs
section Rows
variable {p : Program} {l : Launch} {e : Env} {R : Room} {s : State} {m : MethodId} {args : Array Value} {below : List Frame} {meth : Method} {c : Code} {H : Heap} {locs : List Loc} {cells slots : Nat} {Q : State → Prop}
variable {mc ms : Nat} {free : Addr → Prop} {A0 A1 : Nat → Prop} {H0 : Heap} {a : Array Value} {pc : Nat} {ls : Array Slot} {st0 rest : List Value}
theorem vx_keep {st₀ t T' : State} {L : List Loc} (h0 : st₀.heap = H) (e1 : T'.heap = t.heap) (hS : va_S A0 H0 H locs) (hA : ∀ q, q < H.size → A1 q → A0 q) (hf : ∀ q, free q → A0 q) (hL : ∀ q ∈ L, free q.base) (hF : va_F A1 st₀ t) :
    H.size ≤ T'.heap.size ∧ (∀ q : Nat, q < H.size → ¬ A1 q → T'.heap[q]? = H[q]?) ∧ va_S A0 H0 T'.heap (locs ++ L) := by
  obtain ⟨hz, hk⟩ := hF
  rw [h0] at hz hk
  exact ⟨by rw [e1]; exact hz, fun q h1 h2 => by rw [e1]; exact hk q h1 h2,
    ⟨Nat.le_trans hS.1 (by rw [e1]; exact hz), fun q h1 h2 => by rw [e1, hk q (Nat.lt_of_lt_of_le h1 hS.1) (fun z => h2 (hA q (Nat.lt_of_lt_of_le h1 hS.1) z))]; exact hS.2.1 q h1 h2, fun q hq => by
      rcases List.mem_append.mp hq with h | h
      · exact hS.2.2 q h
      · exact hf _ (hL q h)⟩⟩
theorem vx_calli {S SX : Type} {post : Int32 → S → Prop} {px : SX → Prop} {B : S → State → Prop} {BX : String → SX → State → Prop} {AX : Nat → Prop} (hr : vx_Run p l e R s m args below meth c H locs cells slots mc ms (F0 m pc ls st0) rest (va_Qi post B A1 a) (vx_X px BX AX) free) (hS : va_S A0 H0 H locs) (hA : ∀ q, q < H.size → A1 q → A0 q) (hf : ∀ q, free q → A0 q) (hAX : ∀ q, q < H.size → AX q → A0 q)
    (kx : ∀ (E : String) (ce : Cell) (q9 : Addr) (u : SX) (t : State) (H1 : Heap) (locs1 : List Loc), t.heap = H1 → s.vm.Alike t.vm → px u → BX E u t → H.size ≤ H1.size → (∀ q : Nat, q < H.size → ¬ AX q → H1[q]? = H[q]?) → va_S A0 H0 H1 locs1 → H1[q9]? = some ce → ce.vm = .none → s.vm.findClass E = some ce.cls → vx_W p l e R s m args below meth c H1 locs1 (cells + mc) (slots + ms) Q (F0 m pc ls rest) q9)
    (kk : ∀ (r : Int32) (u : S) (t : State) (H1 : Heap) (locs1 : List Loc), t.heap = H1 → s.vm.Alike t.vm → post r u → B u t → H.size ≤ H1.size → (∀ q : Nat, q < H.size → ¬ A1 q → H1[q]? = H[q]?) → va_S A0 H0 H1 locs1 → W p l e R s m args below meth c H1 locs1 (cells + mc) (slots + ms) Q (F0 m (pc + 3) ls (.int r :: rest))) : W p l e R s m args below meth c H locs cells slots Q (F0 m pc ls st0) := by
  intro T hT X
  rcases hr T hT X with ⟨v, st₀, t, T', L, h0, X', hL, e1, e2, ⟨⟨r, u, hv, hp, hb⟩, hF⟩, st⟩ | ⟨q, st₀, t, T', L, E, ce, h0, X', hL, e1, e2, ⟨u, hp, hb, hF⟩, hce, hcv, hcl, st⟩
  · cases hv
    obtain ⟨k1, k2, k3⟩ := vx_keep h0 e1 hS hA hf hL hF
    obtain ⟨t2, a1, b1⟩ := kk r u t T'.heap (locs ++ L) e1.symm (by rw [← e2]; exact X'.warmed.alike) hp hb k1 k2 k3 T' rfl X'
    exact ⟨t2, st t2 a1, b1⟩
  · obtain ⟨k1, k2, k3⟩ := vx_keep h0 e1 hS hAX hf hL hF
    obtain ⟨t2, a1, b1⟩ := kx E ce q u t T'.heap (locs ++ L) e1.symm (by rw [← e2]; exact X'.warmed.alike) hp hb k1 k2 k3 (by rw [e1]; exact hce) hcv hcl T' rfl X'
    exact ⟨t2, st.trans a1, b1⟩
theorem vx_calll {S SX : Type} {post : Int64 → S → Prop} {px : SX → Prop} {B : S → State → Prop} {BX : String → SX → State → Prop} {AX : Nat → Prop} (hr : vx_Run p l e R s m args below meth c H locs cells slots mc ms (F0 m pc ls st0) rest (va_Ql post B A1 a) (vx_X px BX AX) free) (hS : va_S A0 H0 H locs) (hA : ∀ q, q < H.size → A1 q → A0 q) (hf : ∀ q, free q → A0 q) (hAX : ∀ q, q < H.size → AX q → A0 q)
    (kx : ∀ (E : String) (ce : Cell) (q9 : Addr) (u : SX) (t : State) (H1 : Heap) (locs1 : List Loc), t.heap = H1 → s.vm.Alike t.vm → px u → BX E u t → H.size ≤ H1.size → (∀ q : Nat, q < H.size → ¬ AX q → H1[q]? = H[q]?) → va_S A0 H0 H1 locs1 → H1[q9]? = some ce → ce.vm = .none → s.vm.findClass E = some ce.cls → vx_W p l e R s m args below meth c H1 locs1 (cells + mc) (slots + ms) Q (F0 m pc ls rest) q9)
    (kk : ∀ (r : Int64) (u : S) (t : State) (H1 : Heap) (locs1 : List Loc), t.heap = H1 → s.vm.Alike t.vm → post r u → B u t → H.size ≤ H1.size → (∀ q : Nat, q < H.size → ¬ A1 q → H1[q]? = H[q]?) → va_S A0 H0 H1 locs1 → W p l e R s m args below meth c H1 locs1 (cells + mc) (slots + ms) Q (F0 m (pc + 3) ls (.long r :: rest))) : W p l e R s m args below meth c H locs cells slots Q (F0 m pc ls st0) := by
  intro T hT X
  rcases hr T hT X with ⟨v, st₀, t, T', L, h0, X', hL, e1, e2, ⟨⟨r, u, hv, hp, hb⟩, hF⟩, st⟩ | ⟨q, st₀, t, T', L, E, ce, h0, X', hL, e1, e2, ⟨u, hp, hb, hF⟩, hce, hcv, hcl, st⟩
  · cases hv
    obtain ⟨k1, k2, k3⟩ := vx_keep h0 e1 hS hA hf hL hF
    obtain ⟨t2, a1, b1⟩ := kk r u t T'.heap (locs ++ L) e1.symm (by rw [← e2]; exact X'.warmed.alike) hp hb k1 k2 k3 T' rfl X'
    exact ⟨t2, st t2 a1, b1⟩
  · obtain ⟨k1, k2, k3⟩ := vx_keep h0 e1 hS hAX hf hL hF
    obtain ⟨t2, a1, b1⟩ := kx E ce q u t T'.heap (locs ++ L) e1.symm (by rw [← e2]; exact X'.warmed.alike) hp hb k1 k2 k3 (by rw [e1]; exact hce) hcv hcl T' rfl X'
    exact ⟨t2, st.trans a1, b1⟩
theorem vx_callf {S SX : Type} {post : UInt32 → S → Prop} {px : SX → Prop} {B : S → State → Prop} {BX : String → SX → State → Prop} {AX : Nat → Prop} (hr : vx_Run p l e R s m args below meth c H locs cells slots mc ms (F0 m pc ls st0) rest (va_Qf post B A1 a) (vx_X px BX AX) free) (hS : va_S A0 H0 H locs) (hA : ∀ q, q < H.size → A1 q → A0 q) (hf : ∀ q, free q → A0 q) (hAX : ∀ q, q < H.size → AX q → A0 q)
    (kx : ∀ (E : String) (ce : Cell) (q9 : Addr) (u : SX) (t : State) (H1 : Heap) (locs1 : List Loc), t.heap = H1 → s.vm.Alike t.vm → px u → BX E u t → H.size ≤ H1.size → (∀ q : Nat, q < H.size → ¬ AX q → H1[q]? = H[q]?) → va_S A0 H0 H1 locs1 → H1[q9]? = some ce → ce.vm = .none → s.vm.findClass E = some ce.cls → vx_W p l e R s m args below meth c H1 locs1 (cells + mc) (slots + ms) Q (F0 m pc ls rest) q9)
    (kk : ∀ (r : UInt32) (u : S) (t : State) (H1 : Heap) (locs1 : List Loc), t.heap = H1 → s.vm.Alike t.vm → post r u → B u t → H.size ≤ H1.size → (∀ q : Nat, q < H.size → ¬ A1 q → H1[q]? = H[q]?) → va_S A0 H0 H1 locs1 → W p l e R s m args below meth c H1 locs1 (cells + mc) (slots + ms) Q (F0 m (pc + 3) ls (.float r :: rest))) : W p l e R s m args below meth c H locs cells slots Q (F0 m pc ls st0) := by
  intro T hT X
  rcases hr T hT X with ⟨v, st₀, t, T', L, h0, X', hL, e1, e2, ⟨⟨r, u, hv, hp, hb⟩, hF⟩, st⟩ | ⟨q, st₀, t, T', L, E, ce, h0, X', hL, e1, e2, ⟨u, hp, hb, hF⟩, hce, hcv, hcl, st⟩
  · cases hv
    obtain ⟨k1, k2, k3⟩ := vx_keep h0 e1 hS hA hf hL hF
    obtain ⟨t2, a1, b1⟩ := kk r u t T'.heap (locs ++ L) e1.symm (by rw [← e2]; exact X'.warmed.alike) hp hb k1 k2 k3 T' rfl X'
    exact ⟨t2, st t2 a1, b1⟩
  · obtain ⟨k1, k2, k3⟩ := vx_keep h0 e1 hS hAX hf hL hF
    obtain ⟨t2, a1, b1⟩ := kx E ce q u t T'.heap (locs ++ L) e1.symm (by rw [← e2]; exact X'.warmed.alike) hp hb k1 k2 k3 (by rw [e1]; exact hce) hcv hcl T' rfl X'
    exact ⟨t2, st.trans a1, b1⟩
theorem vx_calld {S SX : Type} {post : UInt64 → S → Prop} {px : SX → Prop} {B : S → State → Prop} {BX : String → SX → State → Prop} {AX : Nat → Prop} (hr : vx_Run p l e R s m args below meth c H locs cells slots mc ms (F0 m pc ls st0) rest (va_Qd post B A1 a) (vx_X px BX AX) free) (hS : va_S A0 H0 H locs) (hA : ∀ q, q < H.size → A1 q → A0 q) (hf : ∀ q, free q → A0 q) (hAX : ∀ q, q < H.size → AX q → A0 q)
    (kx : ∀ (E : String) (ce : Cell) (q9 : Addr) (u : SX) (t : State) (H1 : Heap) (locs1 : List Loc), t.heap = H1 → s.vm.Alike t.vm → px u → BX E u t → H.size ≤ H1.size → (∀ q : Nat, q < H.size → ¬ AX q → H1[q]? = H[q]?) → va_S A0 H0 H1 locs1 → H1[q9]? = some ce → ce.vm = .none → s.vm.findClass E = some ce.cls → vx_W p l e R s m args below meth c H1 locs1 (cells + mc) (slots + ms) Q (F0 m pc ls rest) q9)
    (kk : ∀ (r : UInt64) (u : S) (t : State) (H1 : Heap) (locs1 : List Loc), t.heap = H1 → s.vm.Alike t.vm → post r u → B u t → H.size ≤ H1.size → (∀ q : Nat, q < H.size → ¬ A1 q → H1[q]? = H[q]?) → va_S A0 H0 H1 locs1 → W p l e R s m args below meth c H1 locs1 (cells + mc) (slots + ms) Q (F0 m (pc + 3) ls (.double r :: rest))) : W p l e R s m args below meth c H locs cells slots Q (F0 m pc ls st0) := by
  intro T hT X
  rcases hr T hT X with ⟨v, st₀, t, T', L, h0, X', hL, e1, e2, ⟨⟨r, u, hv, hp, hb⟩, hF⟩, st⟩ | ⟨q, st₀, t, T', L, E, ce, h0, X', hL, e1, e2, ⟨u, hp, hb, hF⟩, hce, hcv, hcl, st⟩
  · cases hv
    obtain ⟨k1, k2, k3⟩ := vx_keep h0 e1 hS hA hf hL hF
    obtain ⟨t2, a1, b1⟩ := kk r u t T'.heap (locs ++ L) e1.symm (by rw [← e2]; exact X'.warmed.alike) hp hb k1 k2 k3 T' rfl X'
    exact ⟨t2, st t2 a1, b1⟩
  · obtain ⟨k1, k2, k3⟩ := vx_keep h0 e1 hS hAX hf hL hF
    obtain ⟨t2, a1, b1⟩ := kx E ce q u t T'.heap (locs ++ L) e1.symm (by rw [← e2]; exact X'.warmed.alike) hp hb k1 k2 k3 (by rw [e1]; exact hce) hcv hcl T' rfl X'
    exact ⟨t2, st.trans a1, b1⟩
theorem vx_callv {S SX : Type} {post : S → Prop} {px : SX → Prop} {B : S → State → Prop} {BX : String → SX → State → Prop} {AX : Nat → Prop} (hr : vx_Run p l e R s m args below meth c H locs cells slots mc ms (F0 m pc ls st0) rest (va_Qv post B A1 a) (vx_X px BX AX) free) (hS : va_S A0 H0 H locs) (hA : ∀ q, q < H.size → A1 q → A0 q) (hf : ∀ q, free q → A0 q) (hAX : ∀ q, q < H.size → AX q → A0 q)
    (kx : ∀ (E : String) (ce : Cell) (q9 : Addr) (u : SX) (t : State) (H1 : Heap) (locs1 : List Loc), t.heap = H1 → s.vm.Alike t.vm → px u → BX E u t → H.size ≤ H1.size → (∀ q : Nat, q < H.size → ¬ AX q → H1[q]? = H[q]?) → va_S A0 H0 H1 locs1 → H1[q9]? = some ce → ce.vm = .none → s.vm.findClass E = some ce.cls → vx_W p l e R s m args below meth c H1 locs1 (cells + mc) (slots + ms) Q (F0 m pc ls rest) q9)
    (kk : ∀ (u : S) (t : State) (H1 : Heap) (locs1 : List Loc), t.heap = H1 → s.vm.Alike t.vm → post u → B u t → H.size ≤ H1.size → (∀ q : Nat, q < H.size → ¬ A1 q → H1[q]? = H[q]?) → va_S A0 H0 H1 locs1 → W p l e R s m args below meth c H1 locs1 (cells + mc) (slots + ms) Q (F0 m (pc + 3) ls (rest))) : W p l e R s m args below meth c H locs cells slots Q (F0 m pc ls st0) := by
  intro T hT X
  rcases hr T hT X with ⟨v, st₀, t, T', L, h0, X', hL, e1, e2, ⟨⟨u, hv, hp, hb⟩, hF⟩, st⟩ | ⟨q, st₀, t, T', L, E, ce, h0, X', hL, e1, e2, ⟨u, hp, hb, hF⟩, hce, hcv, hcl, st⟩
  · cases hv
    obtain ⟨k1, k2, k3⟩ := vx_keep h0 e1 hS hA hf hL hF
    obtain ⟨t2, a1, b1⟩ := kk u t T'.heap (locs ++ L) e1.symm (by rw [← e2]; exact X'.warmed.alike) hp hb k1 k2 k3 T' rfl X'
    exact ⟨t2, st t2 a1, b1⟩
  · obtain ⟨k1, k2, k3⟩ := vx_keep h0 e1 hS hAX hf hL hF
    obtain ⟨t2, a1, b1⟩ := kx E ce q u t T'.heap (locs ++ L) e1.symm (by rw [← e2]; exact X'.warmed.alike) hp hb k1 k2 k3 (by rw [e1]; exact hce) hcv hcl T' rfl X'
    exact ⟨t2, st.trans a1, b1⟩
/-- caught by the row x of this method's table; the rows ahead don't take it -/
theorem vx_catch {own name : String} {E : String} {ce : Cell} {q : Addr} (hown : s.vm.findClass own = some m.cls) (pre : List ExceptionTableEntry) (x : ExceptionTableEntry) (suf : List ExceptionTableEntry) (hsplit : c.exceptionTable.toList = pre ++ x :: suf)
    (hpass : ∀ z ∈ pre, covers z pc = false ∨ (z.catchType ≠ 0 ∧ ∃ nm : String, (Cond.classLink own z.catchType nm).before args s = true ∧ va_Nc E nm s)) (hx : covers x pc = true) (h0 : x.catchType ≠ 0)
    (hlink : (Cond.classLink own x.catchType name).before args s = true) (hcast : (Cond.castable E name).before args s = true) (hcell : H[q]? = some ce) (hv : ce.vm = .none) (hcl : s.vm.findClass E = some ce.cls)
    (kk : W p l e R s m args below meth c H locs cells slots Q (F0 m x.handlerPc ls [.ref q])) : vx_W p l e R s m args below meth c H locs cells slots Q (F0 m pc ls rest) q := by
  intro T hT X
  have hpl : e.platform.magicAccessors = ({} : Platform).magicAccessors := by rw [X.admits.platform]
  obtain ⟨c3, c4, hc3, hc4, hasg⟩ := Cond.castable_spec hcast
  cases Option.some.inj (hc3.symm.trans hcl)
  obtain ⟨c5, hc5, hcl5⟩ := Cond.classLink_spec hown hlink e.platform hpl
  cases Option.some.inj (hc4.symm.trans hc5)
  obtain ⟨vm', X', st⟩ := X.thenCaughtThrough q (g := F0 m pc ls rest) rfl (Steps.refl _) (by rw [hT]; exact hcell) (by rw [hv]; rfl) (by obtain ⟨k9, h9, -⟩ := Vm.findClass_spec hcl; exact ⟨k9, h9⟩) pre x suf hsplit
    (fun z hz => by
      rcases hpass z hz with h | ⟨hz0, nm, hl1, hn1⟩
      · exact Or.inl h
      · obtain ⟨c6, hc6, hcl6⟩ := Cond.classLink_spec hown hl1 e.platform hpl
        obtain ⟨a8, b8, h1, h2, h3⟩ := hn1
        cases Option.some.inj (h1.symm.trans hcl)
        cases Option.some.inj (h2.symm.trans hc6)
        exact Or.inr ⟨hz0, _, hcl6, h3⟩) hx (Or.inr ⟨h0, c4, hcl5, hasg⟩)
  obtain ⟨t, a1, b1⟩ := kk (T.setVm vm') hT X'
  exact ⟨t, st.trans a1, b1⟩
end Rows
section Ends
variable {p : Program} {l : Launch} {e : Env} {R : Room} {s : State} {m : MethodId} {args : Array Value} {below : List Frame} {meth : Method} {c : Code} {H : Heap} {locs : List Loc} {cells slots : Nat} {Q : State → Prop}
variable {mc ms : Nat} {free : Addr → Prop} {A0 A1 : Nat → Prop} {H0 : Heap} {a : Array Value} {ls : Array Slot} {st0 rest : List Value}
variable {Qc : Array Value → State → Outcome → State → Prop} {XC : String → State → State → Prop}
/-- what a body that may throw owes at its end -/
def vx_MQ (below : List Frame) (Qc : Array Value → State → Outcome → State → Prop) (XC : String → State → State → Prop) (a : Array Value) (s : State) (mc ms : Nat) (free : Addr → Prop) : State → Prop := fun t =>
  ∃ o, t.status = .running ∧ Ended t below o ∧ vx_Q Qc XC mc ms free a s o t
theorem vx_ret {g : JFrame} {mc ms : Nat} (k : W p l e R s m args below meth c H locs cells slots (MQ below Qc args s mc ms free) g) : W p l e R s m args below meth c H locs cells slots (vx_MQ below Qc XC args s mc ms free) g := by
  intro T hT X
  obtain ⟨t, a1, o, b1, b2, b3, b4⟩ := k T hT X
  exact ⟨t, a1, o, b1, b2, Or.inl ⟨b3, b4⟩⟩
/-- not caught here: it goes on to the caller -/
theorem vx_widen {g : JFrame} {q : Addr} {k n : Nat} (h1 : cells ≤ k) (h2 : slots ≤ n) (kk : vx_W p l e R s m args below meth c H locs k n Q g q) : vx_W p l e R s m args below meth c H locs cells slots Q g q := fun T hT X => kk T hT (stand_widen X h1 h2)
theorem vx_out {pc : Nat} {E : String} {ce : Cell} {q : Addr} {mc ms : Nat} (hout : ∀ x ∈ c.exceptionTable.toList, covers x pc = false) (hlocks : meth.locks = false) (hcell : H[q]? = some ce) (hv : ce.vm = .none) (hcl : s.vm.findClass E = some ce.cls)
    (hx : ∀ t : State, t.heap = H → s.vm.Alike t.vm → XC E s t) (hf : ∀ z ∈ locs, free z.base) (hc : cells ≤ mc) (hs : slots ≤ ms) :
    vx_W p l e R s m args below meth c H locs cells slots (vx_MQ below Qc XC args s mc ms free) (F0 m pc ls rest) q := by
  intro T hT X
  obtain ⟨st1, hrun, hend, hW, hsm⟩ := X.leaveThrown q (g := F0 m pc ls rest) rfl rfl rfl hout hlocks
  have hcell9 : (T.setFrames (.throwing q :: below)).heap[q]? = some ce := by
    show T.heap[q]? = some ce
    rw [hT]; exact hcell
  exact ⟨_, st1, .threw q, hrun, hend, Or.inr ⟨q, rfl, E, ce, locs, hx _ hT hW.alike, hcell9, hv, hcl, hW, hsm.mono hc hs, hf⟩⟩
theorem vx_frame {U : State} {k n : Nat} (h : s.sameButNew ({ U with vm := s.vm } : State) locs k n) : s.heap.size ≤ U.heap.size ∧ ∀ q : Nat, q < s.heap.size → (∀ z ∈ locs, z.base ≠ q) → U.heap[q]? = s.heap[q]? := by
  obtain ⟨-, h2, -, -, -, h6⟩ := h
  refine ⟨h2, fun q hq hz => ?_⟩
  obtain ⟨c9, e1, e2, e3, e4⟩ := h6 q _ (Array.getElem?_eq_getElem hq)
  have hs : c9.slots = (s.heap[q]).slots := Array.ext_getElem? fun i => e4 i fun hm => hz _ hm rfl
  have h9 : c9 = s.heap[q] := by
    rw [hs] at e2
    exact e2
  have e5 : U.heap[q]? = some c9 := e1
  rw [e5, h9, Array.getElem?_eq_getElem hq]
/-- the words of a throw but the four that speak of the heap -/
def vx_no (w : Cond) : Bool := decide (w ≠ .isRef (.static Bundle.tN "UNASSIGNED_STACK" Bundle.steD)) && decide (w ≠ .isRef (.static Bundle.tN "SUPPRESSED_SENTINEL" Bundle.listD)) && decide (w ≠ .laysStatic Bundle.tN "UNASSIGNED_STACK" Bundle.steD) && decide (w ≠ .laysStatic Bundle.tN "SUPPRESSED_SENTINEL" Bundle.listD)
def vx_at0 (own : String) (ic : Nat) (X : String) (names : List String) : List Cond := (Bundle.ownAtoms0 own ic X names).filter vx_no
def vx_atS (own : String) (ic : Nat) (X : String) (names : List String) : List Cond := (Bundle.ownAtoms own ic X names).filter vx_no
/-- a word that the tables alone decide, or a good one -/
def vx_ot (w : Cond) : Bool := w.onTables || goodWord w
theorem vx_ot_at {args a' : Array Value} {s U : State} {w : Cond} (hW : s.WarmedH U.vm) (hvm : s.vm = U.vm) (hg : vx_ot w = true) (h : w.before args s = true) : w.before a' U = true := by
  simp only [vx_ot, Bool.or_eq_true] at hg
  rcases hg with hg | hg
  · exact va_tabs hg hvm h
  · exact word_at hW (good_of_word hg) h
/-- a list's words: the good ones out of the method's own list, the others by premises of their own -/
theorem vx_hat {args : Array Value} {s : State} {L B : List Cond} (h1 : ∀ w ∈ L.filter goodWord, w.before args s = true) (h2 : ∀ w ∈ L.filter (fun w => !goodWord w), w ∈ B) (h3 : ∀ w ∈ B, w.before args s = true) : ∀ w ∈ L, w.before args s = true := by
  intro w hw
  by_cases g : goodWord w = true
  · exact h1 w (List.mem_filter.mpr ⟨hw, g⟩)
  · refine h3 w (h2 w (List.mem_filter.mpr ⟨hw, ?_⟩))
    show (!goodWord w) = true
    cases hgw : goodWord w
    · rfl
    · exact absurd hgw g
theorem vx_c {args : Array Value} {s : State} {w : Cond} {B : List Cond} (h : w.before args s = true) (t : ∀ w ∈ B, w.before args s = true) : ∀ w' ∈ w :: B, w'.before args s = true := fun w' h' => (List.mem_cons.mp h').elim (fun e => by rw [e]; exact h) (t w')
theorem vx_n {args : Array Value} {s : State} : ∀ w ∈ ([] : List Cond), w.before args s = true := fun _ h => nomatch h
theorem vx_own {args : Array Value} {s : State} {L : List Cond} (h1 : ∀ w ∈ L.filter vx_no, w.before args s = true)
    (hU : (Cond.isRef (.static Bundle.tN "UNASSIGNED_STACK" Bundle.steD)).before args s = true) (hN : (Cond.isRef (.static Bundle.tN "SUPPRESSED_SENTINEL" Bundle.listD)).before args s = true)
    (lU : (Cond.laysStatic Bundle.tN "UNASSIGNED_STACK" Bundle.steD).before args s = true) (lN : (Cond.laysStatic Bundle.tN "SUPPRESSED_SENTINEL" Bundle.listD).before args s = true) : ∀ w ∈ L, w.before args s = true := by
  intro w hw
  by_cases e1 : w = .isRef (.static Bundle.tN "UNASSIGNED_STACK" Bundle.steD)
  · rw [e1]; exact hU
  · by_cases e2 : w = .isRef (.static Bundle.tN "SUPPRESSED_SENTINEL" Bundle.listD)
    · rw [e2]; exact hN
    · by_cases e3 : w = .laysStatic Bundle.tN "UNASSIGNED_STACK" Bundle.steD
      · rw [e3]; exact lU
      · by_cases e4 : w = .laysStatic Bundle.tN "SUPPRESSED_SENTINEL" Bundle.listD
        · rw [e4]; exact lN
        · exact h1 w (List.mem_filter.mpr ⟨hw, by unfold vx_no; rw [decide_eq_true e1, decide_eq_true e2, decide_eq_true e3, decide_eq_true e4]; rfl⟩)
/-- where a static field lies, its class's statics cell in H -/
def vx_L (C n d : String) (A : Nat → Prop) (U : State) (H : Heap) : Prop := ∃ (c : ClassId) (k : Class) (i : Nat) (f : Field) (a : Nat) (cell : Cell), U.vm.findClass C = some c ∧ U.fieldFound? C n d = some (c, k, i, f) ∧ f.isStatic = true ∧ k.statics = some a ∧ H[a]? = some cell ∧ cell.vm.isStatics = true ∧ cell.cls = c ∧ f.slot < cell.slots.size ∧ k.staticTypes[f.slot]? = some f.type ∧ ¬ A a
theorem vx_L.moved {C n d : String} {A : Nat → Prop} {u U : State} {H : Heap} (hvm : u.vm.Alike U.vm) (h : vx_L C n d A u H) : vx_L C n d A U H := by
  obtain ⟨c, k, i, f, a, cell, h1, h2, h3, h4, h5, h6, h7, h8, h9, h10⟩ := h
  obtain ⟨k', hi', he⟩ := State.fieldFound?_setVm hvm h2
  exact ⟨c, k', i, f, a, cell, by rw [hvm.findClass]; exact h1, hi', h3, by rw [he]; exact h4, h5, h6, h7, h8, by rw [he]; exact h9, h10⟩
theorem vx_L.kept {C n d : String} {A : Nat → Prop} {U : State} {H H1 : Heap} (h : vx_L C n d A U H) (hq : ∀ a : Nat, a < H.size → ¬ A a → H1[a]? = H[a]?) : vx_L C n d A U H1 := by
  obtain ⟨c, k, i, f, a, cell, h1, h2, h3, h4, h5, h6, h7, h8, h9, h10⟩ := h
  exact ⟨c, k, i, f, a, cell, h1, h2, h3, h4, by rw [hq a (Array.getElem?_eq_some_iff.mp h5).1 h10]; exact h5, h6, h7, h8, h9, h10⟩
theorem vx_L.narrow {C n d : String} {A B : Nat → Prop} {U : State} {H : Heap} (h : vx_L C n d A U H) (hAB : ∀ q, B q → A q) : vx_L C n d B U H := by
  obtain ⟨c, k, i, f, a, cell, h1, h2, h3, h4, h5, h6, h7, h8, h9, h10⟩ := h
  exact ⟨c, k, i, f, a, cell, h1, h2, h3, h4, h5, h6, h7, h8, h9, fun z => h10 (hAB _ z)⟩
theorem vx_L.word {C n d : String} {A : Nat → Prop} {s : State} {args : Array Value} (h : vx_L C n d A s s.heap) : (Cond.laysStatic C n d).before args s = true := by
  obtain ⟨c, k, i, f, a, cell, h1, h2, h3, h4, h5, h6, h7, h8, h9, -⟩ := h
  show (Cond.laysStatic C n d).holds args s none s [] = true
  exact Cond.laysStatic_of h1 h2 h3 h4 h5 h6 h7 h8 h9
/-- .. and what it holds: null or some reference -/
def vx_Zq (C n d : String) (A : Nat → Prop) (U : State) (H : Heap) : Prop := va_Zq C n d A U H ∧ vx_L C n d A U H
theorem vx_Zq.moved {C n d : String} {A : Nat → Prop} {u U : State} {H : Heap} (hvm : u.vm.Alike U.vm) (h : vx_Zq C n d A u H) : vx_Zq C n d A U H := ⟨va_Zq.moved hvm h.1, vx_L.moved hvm h.2⟩
theorem vx_Zq.kept {C n d : String} {A : Nat → Prop} {U : State} {H H1 : Heap} (h : vx_Zq C n d A U H) (hq : ∀ a : Nat, a < H.size → ¬ A a → H1[a]? = H[a]?) : vx_Zq C n d A U H1 := ⟨va_Zq.kept h.1 hq, vx_L.kept h.2 hq⟩
theorem vx_Zq.narrow {C n d : String} {A B : Nat → Prop} {U : State} {H : Heap} (h : vx_Zq C n d A U H) (hAB : ∀ q, B q → A q) : vx_Zq C n d B U H := ⟨va_Zq.narrow h.1 hAB, vx_L.narrow h.2 hAB⟩
theorem vx_Zqof {args : Array Value} {s : State} {C n d : String} {A : Nat → Prop} (hl : (Cond.laysStatic C n d).before args s = true) (hini : (Cond.initialized C).before args s = true) (h : (Cond.isRef (.static C n d)).before args s = true) (hA : ∀ a : Nat, a < s.heap.size → ¬ A a) : vx_Zq C n d A s s.heap := by
  refine ⟨va_Zqof hl hini h hA, ?_⟩
  obtain ⟨c, k, i, f, a, cell, h1, h2, h3, h4, h5, h6, h7, h8, h9⟩ := Cond.laysStatic_spec hl
  exact ⟨c, k, i, f, a, cell, h1, h2, h3, h4, h5, h6, h7, h8, h9, hA a (Array.getElem?_eq_some_iff.mp h5).1⟩
theorem vx_isRef {C n d : String} {v : Value} {A : Nat → Prop} {s : State} {args : Array Value} (h : va_Z C n d v A s s.heap) (hv : v.isRef = true) : (Cond.isRef (.static C n d)).before args s = true := by
  obtain ⟨cf, kf, fi, f, a, cell, h1, h2, h3, h4, h5, h6, h7, -⟩ := h
  have he : (Term.static C n d).eval args s none [] s = some v := by
    simp [Term.eval, State.fieldNamed?, h1, h2, h4, h5, h6, h7]
  simp only [Cond.before, Cond.holds, Cond.value, he]
  cases v <;> simp_all [Value.isRef]
theorem vx_isRefq {C n d : String} {A : Nat → Prop} {s : State} {args : Array Value} (h : va_Zq C n d A s s.heap) : (Cond.isRef (.static C n d)).before args s = true := by
  rcases h with h | ⟨t, h⟩
  · exact vx_isRef h rfl
  · exact vx_isRef h rfl
/-- the same frame, seen from here: as if the method were called anew in this heap -/
theorem vx_rebase {T : State} (X : Stand p l e R s m args below meth c T locs cells slots) {R' : Room} (hf : R'.frames ≤ R.frames) (hl : R'.locals ≤ R.locals) (hc : cells + R'.cells ≤ R.cells) (hs : slots + R'.slots ≤ R.slots) :
    Stand p l e R' ((T.setVm s.vm).setFrames (.invoking m args :: below)) m args below meth c T [] 0 0 := by
  have htop : (T.setVm s.vm).topJava?.isSome := X.here.top
  have hF : ((T.setVm s.vm).setFrames (.invoking m args :: below)).frames = .invoking m args :: below := State.frames_setFrames _ (State.cur_lt_of_top htop)
  obtain ⟨g₀, hg0⟩ := Option.isSome_iff_exists.mp htop
  obtain ⟨r, hr⟩ := State.topJava?_eq_some.mp hg0
  have hl9 : e.platform.stackLimits (T.setVm s.vm).me = e.platform.stackLimits s.me := X.limits
  have hb9 : (T.setVm s.vm).me.stackBytes = s.me.stackBytes := X.bytes
  refine ⟨X.admits, X.cas, X.clock, hF, ?_, X.hears, X.method, X.code, X.here, X.tail, X.warmed, ?_, ?_, ?_⟩
  · have h := X.room
    have hU : ((T.setVm s.vm).setFrames (.invoking m args :: below)).localsInUse = s.localsInUse := by
      rw [State.localsInUse_invoking hF (meth := meth) (c := c) X.method X.code, State.localsInUse_invoking X.frames X.method X.code]
    simp only [State.hasRoom, Bool.and_eq_true, decide_eq_true_eq] at h ⊢
    obtain ⟨⟨⟨⟨h1, h2, h3, h4, h5, h6⟩, h7⟩, h8⟩, h9⟩ := h
    rw [X.frames, List.length_cons] at h2 h3
    have q1 := X.heapSize
    have q2 := X.used
    simp only [hF, hU, List.length_cons, State.stackLimits_setFrames, State.stackBytes_setFrames, hl9, hb9]
    refine ⟨⟨⟨⟨by omega, by omega, by omega, by omega, by omega, h6⟩, ?_⟩, ?_⟩, X.book⟩
    · show T.heap.size + R'.cells ≤ e.platform.maxCells
      omega
    · show T.slotsUsed + R'.slots ≤ e.platform.maxSlots
      omega
  · rw [State.stackLimits_setFrames]; rfl
  · rw [State.stackBytes_setFrames]; rfl
  · refine ⟨?_, Nat.le_refl _, Nat.le_refl _, ?_, ?_, fun a c9 h9 => ⟨c9, h9, rfl, rfl, fun _ _ => rfl⟩⟩
    · obtain ⟨t, ht, -⟩ := State.frames_cons hr
      show T.setVm s.vm = { ((T.setVm s.vm).setFrames (.invoking m args :: below)).setFrames (T.setVm s.vm).frames with heap := T.heap, slotsUsed := T.slotsUsed }
      rw [State.setFrames_setFrames, State.setFrames_self ht]
      rfl
    · show T.slotsUsed = T.slotsUsed + ((T.heap.toList.drop T.heap.size).map (·.slots.size)).sum
      rw [List.drop_eq_nil_of_le (Nat.le_of_eq Array.length_toList)]
      rfl
    · show ((T.heap.toList.drop T.heap.size).map (·.slots.size)).sum ≤ 0
      rw [List.drop_eq_nil_of_le (Nat.le_of_eq Array.length_toList)]
      exact Nat.le_refl _
/-- 'throw new E()': new; dup; invokespecial; athrow -/
theorem vx_throw0 {cc : ByteArray} {pc : Nat} (hexec : p.tables.exec = Jvm.exec) (hb : c.code = cc) (hl : l.stackTraces = false) {own cls : String} {names : List String} {ik ic mc ms : Nat} {A : Nat → Prop}
    (hown : s.vm.findClass own = some m.cls) (hcls : Bundle.fit cls = true) (hnames : ∀ n ∈ names, Bundle.fit n = true)
    (hk : (Cond.classLink own ik cls).before args s = true) (hini : (Cond.initialized cls).before args s = true) (hat : ∀ w ∈ vx_at0 own ic cls names, w.before args s = true)
    (hgood : ∀ w ∈ Cond.classLink own ik cls :: Cond.initialized cls :: vx_at0 own ic cls names, vx_ot w = true)
    (hU : vx_Zq Bundle.tN "UNASSIGNED_STACK" Bundle.steD A s s.heap) (hN : vx_Zq Bundle.tN "SUPPRESSED_SENTINEL" Bundle.listD A s s.heap) (hS : va_S A s.heap H locs) (hsize : ls.size = c.maxLocals)
    (d0 : decode cc pc = .ok (.new ik, 3)) (d3 : decode cc (pc + 3) = .ok (.dup, 1)) (d4 : decode cc (pc + 4) = .ok (.invokespecial ic, 3)) (d7 : decode cc (pc + 7) = .ok (.athrow, 1))
    (hout : ∀ x ∈ c.exceptionTable.toList, covers x (pc + 7) = false)
    (hRframes : names.length + 3 < R.frames) (hRlocals : (rest.map fun v => v.category).sum + (13 * (names.length + 1) + 42) ≤ R.locals) (hRcells : cells + 1 ≤ R.cells) (hRslots : slots + 6 ≤ R.slots) (hlocks : meth.locks = false)
    (hx : ∀ t : State, s.vm.Alike t.vm → H.size ≤ t.heap.size → (∀ q : Nat, q < H.size → t.heap[q]? = H[q]?) → XC cls s t)
    (hf : ∀ z ∈ locs, free z.base) (hc : cells + 1 ≤ mc) (hs : slots + 6 ≤ ms) :
    W p l e R s m args below meth c H locs cells slots (vx_MQ below Qc XC args s mc ms free) (F0 m pc ls rest) := by
  intro T hT X
  have htr : e.platform.stackTraces = false := (show e.platform.stackTraces = l.stackTraces by rw [X.admits.platform]).trans hl
  have Y := vx_rebase X (R' := { frames := R.frames, locals := R.locals, cells := 1, slots := 6 }) (Nat.le_refl _) (Nat.le_refl _) hRcells hRslots
  obtain ⟨s', hA⟩ : ∃ z, z = (T.setVm s.vm).setFrames (.invoking m args :: below) := ⟨_, rfl⟩
  rw [← hA] at Y
  have hvm : s'.vm = s.vm := by rw [hA]; rfl
  have hhp : s'.heap = H := by rw [hA]; exact hT
  have hW0 : s.WarmedH s'.vm := by rw [hvm]; exact State.WarmedH.refl s
  have hat' : ∀ w ∈ vx_at0 own ic cls names, w.before args s' = true := fun w hw => vx_ot_at hW0 hvm.symm (hgood w (List.mem_cons_of_mem _ (List.mem_cons_of_mem _ hw))) (hat w hw)
  have hk' : (Cond.classLink own ik cls).before args s' = true := vx_ot_at hW0 hvm.symm (hgood _ List.mem_cons_self) hk
  have hini' : (Cond.initialized cls).before args s' = true := vx_ot_at hW0 hvm.symm (hgood _ (List.mem_cons_of_mem _ List.mem_cons_self)) hini
  have hU' : vx_Zq Bundle.tN "UNASSIGNED_STACK" Bundle.steD A s' s'.heap := by rw [hhp]; exact vx_Zq.moved hW0.alike (hU.kept hS.2.1)
  have hN' : vx_Zq Bundle.tN "SUPPRESSED_SENTINEL" Bundle.listD A s' s'.heap := by rw [hhp]; exact vx_Zq.moved hW0.alike (hN.kept hS.2.1)
  have h : ∀ w ∈ Bundle.ownAtoms0 own ic cls names, w.before args s' = true := vx_own hat' (vx_isRefq hU'.1) (vx_isRefq hN'.1) hU'.2.word hN'.2.word
  have hown' : s'.vm.findClass own = some m.cls := by rw [hvm]; exact hown
  have hins : (Cond.instantiable cls 6).before args s' = true := h _ (by simp [Bundle.ownAtoms0])
  obtain ⟨vm₁, cX, kX, hfX, hkX, -, -, X₁, st1⟩ := Y.newCold hexec (own := own) (C := cls) (index := ik) (n := 6) hown' hk' hins hini'
    (g := F0 m pc ls rest) rfl (by rw [hb]; exact d0) (Nat.le_refl _) (Nat.le_refl _)
  generalize hT1 : (T.setVm vm₁).pushCell { cls := cX, slots := kX.instanceTypes.map defaultValue, vm := .none } = T1 at X₁ st1
  have hcat : (Value.ref T.heap.size).category = 1 := rfl
  have hcellA : T1.heap[T.heap.size]? = some (freshCell cX kX) := by rw [← hT1]; exact State.heap_pushCell_size _ _
  have d3' : decode c.code (pc + 3) = .ok (.dup, 1) := by rw [hb]; exact d3
  obtain ⟨U, hsteps, hrun, hend, hW, hsame, ce, hce, hO⟩ := X₁.ctorThrow0 hexec htr (own := own) (cls := cls) (names := names) (ic := ic) hown' hcls hnames h (fun x hx => nomatch hx) hfX hkX hcellA (by rw [hhp, hT]; exact Nat.le_refl _)
    (g := { method := m, pc := pc + 4, locals := ls, stack := .ref T.heap.size :: .ref T.heap.size :: rest, locked := none }) rfl hsize rfl rfl (rest := rest) rfl
    (by rw [hb]; exact d4) (by rw [hb]; exact d7) hout hRframes (by simp only [List.map_cons, List.sum_cons, hcat]; omega) hlocks
  obtain ⟨f1, f2⟩ := vx_frame hsame
  rw [hhp] at f1 f2
  have hWs : s.WarmedH U.vm := State.WarmedH.trans hW0 hW
  have hcl : s.vm.findClass cls = some ce.cls := by
    have h9 := hO.cls
    rw [hvm] at h9
    exact h9
  have hall : s.sameButNew ({ U with vm := s.vm } : State) locs mc ms := by
    subst hA
    obtain ⟨e1, e2⟩ := hsame
    rw [State.setFrames_setFrames] at e1
    have h2 : (T.setVm s.vm).sameButNew ({ U with vm := s.vm } : State) [] (0 + 1) (0 + 6) := ⟨e1, e2⟩
    have h3 := X.same.trans h2
    rw [List.append_nil] at h3
    exact h3.mono hc hs
  refine ⟨U, ?_, .threw T.heap.size, hrun, hend, Or.inr ⟨T.heap.size, rfl, cls, ce, locs, hx U hWs.alike f1 (fun q hq => f2 q hq (fun z hz => nomatch hz)), hce, hO.vm, hcl, hWs, hall, hf⟩⟩
  refine st1 _ ?_
  show Steps p.tables e below (T1.setTop { method := m, pc := pc + 3, locals := ls, stack := .ref T.heap.size :: rest, locked := none }) _
  jvm_step X₁.here [X₁.here.top, hexec, d3', Value.category]
  exact hsteps
/-- 'throw new E("text")': new; dup; ldc; invokespecial; athrow -/
theorem vx_throwS {cc : ByteArray} {pc : Nat} (hexec : p.tables.exec = Jvm.exec) (hb : c.code = cc) (hl : l.stackTraces = false) {own cls text : String} {names : List String} {ik is ic mc ms sa : Nat} {A : Nat → Prop}
    (hown : s.vm.findClass own = some m.cls) (hcls : Bundle.fit cls = true) (hnames : ∀ n ∈ names, Bundle.fit n = true)
    (hk : (Cond.classLink own ik cls).before args s = true) (hini : (Cond.initialized cls).before args s = true) (hstr : vk_R own is text sa s) (hat : ∀ w ∈ vx_atS own ic cls names, w.before args s = true)
    (hgood : ∀ w ∈ Cond.classLink own ik cls :: Cond.initialized cls :: vx_atS own ic cls names, vx_ot w = true)
    (hU : vx_Zq Bundle.tN "UNASSIGNED_STACK" Bundle.steD A s s.heap) (hN : vx_Zq Bundle.tN "SUPPRESSED_SENTINEL" Bundle.listD A s s.heap) (hS : va_S A s.heap H locs) (hsize : ls.size = c.maxLocals)
    (d0 : decode cc pc = .ok (.new ik, 3)) (d3 : decode cc (pc + 3) = .ok (.dup, 1)) (d4 : decode cc (pc + 4) = .ok (.ldc is, 2)) (d6 : decode cc (pc + 6) = .ok (.invokespecial ic, 3)) (d9 : decode cc (pc + 9) = .ok (.athrow, 1))
    (hout : ∀ x ∈ c.exceptionTable.toList, covers x (pc + 9) = false)
    (hRframes : names.length + 3 < R.frames) (hRlocals : (rest.map fun v => v.category).sum + (13 * (names.length + 1) + 43) ≤ R.locals) (hRcells : cells + 1 ≤ R.cells) (hRslots : slots + 6 ≤ R.slots) (hlocks : meth.locks = false)
    (hx : ∀ t : State, s.vm.Alike t.vm → H.size ≤ t.heap.size → (∀ q : Nat, q < H.size → t.heap[q]? = H[q]?) → XC cls s t)
    (hf : ∀ z ∈ locs, free z.base) (hc : cells + 1 ≤ mc) (hs : slots + 6 ≤ ms) :
    W p l e R s m args below meth c H locs cells slots (vx_MQ below Qc XC args s mc ms free) (F0 m pc ls rest) := by
  intro T hT X
  have htr : e.platform.stackTraces = false := (show e.platform.stackTraces = l.stackTraces by rw [X.admits.platform]).trans hl
  have Y := vx_rebase X (R' := { frames := R.frames, locals := R.locals, cells := 1, slots := 6 }) (Nat.le_refl _) (Nat.le_refl _) hRcells hRslots
  obtain ⟨s', hA⟩ : ∃ z, z = (T.setVm s.vm).setFrames (.invoking m args :: below) := ⟨_, rfl⟩
  rw [← hA] at Y
  have hvm : s'.vm = s.vm := by rw [hA]; rfl
  have hhp : s'.heap = H := by rw [hA]; exact hT
  have hW0 : s.WarmedH s'.vm := by rw [hvm]; exact State.WarmedH.refl s
  have hat' : ∀ w ∈ vx_atS own ic cls names, w.before args s' = true := fun w hw => vx_ot_at hW0 hvm.symm (hgood w (List.mem_cons_of_mem _ (List.mem_cons_of_mem _ hw))) (hat w hw)
  have hk' : (Cond.classLink own ik cls).before args s' = true := vx_ot_at hW0 hvm.symm (hgood _ List.mem_cons_self) hk
  have hini' : (Cond.initialized cls).before args s' = true := vx_ot_at hW0 hvm.symm (hgood _ (List.mem_cons_of_mem _ List.mem_cons_self)) hini
  have hU' : vx_Zq Bundle.tN "UNASSIGNED_STACK" Bundle.steD A s' s'.heap := by rw [hhp]; exact vx_Zq.moved hW0.alike (hU.kept hS.2.1)
  have hN' : vx_Zq Bundle.tN "SUPPRESSED_SENTINEL" Bundle.listD A s' s'.heap := by rw [hhp]; exact vx_Zq.moved hW0.alike (hN.kept hS.2.1)
  have h : ∀ w ∈ Bundle.ownAtoms own ic cls names, w.before args s' = true := vx_own hat' (vx_isRefq hU'.1) (vx_isRefq hN'.1) hU'.2.word hN'.2.word
  have hown' : s'.vm.findClass own = some m.cls := by rw [hvm]; exact hown
  have hins : (Cond.instantiable cls 6).before args s' = true := h _ (by simp [Bundle.ownAtoms])
  obtain ⟨vm₁, cX, kX, hfX, hkX, -, -, X₁, st1⟩ := Y.newCold hexec (own := own) (C := cls) (index := ik) (n := 6) hown' hk' hins hini'
    (g := F0 m pc ls rest) rfl (by rw [hb]; exact d0) (Nat.le_refl _) (Nat.le_refl _)
  generalize hT1 : (T.setVm vm₁).pushCell { cls := cX, slots := kX.instanceTypes.map defaultValue, vm := .none } = T1 at X₁ st1
  have hcat : (Value.ref T.heap.size).category = 1 := rfl
  have hcellA : T1.heap[T.heap.size]? = some (freshCell cX kX) := by rw [← hT1]; exact State.heap_pushCell_size _ _
  have d3' : decode c.code (pc + 3) = .ok (.dup, 1) := by rw [hb]; exact d3
  have d4' : decode c.code (pc + 4) = .ok (.ldc is, 2) := by rw [hb]; exact d4
  have hstr' : vk_R own is text sa s' := vk_R.warm hW0 hstr
  obtain ⟨U, hsteps, hrun, hend, hW, hsame, ce, hce, hO⟩ := X₁.ctorThrowS hexec htr (own := own) (cls := cls) (names := names) (ic := ic) hown' hcls hnames h (fun x hx => nomatch hx) hfX hkX hcellA (by rw [hhp, hT]; exact Nat.le_refl _) (msg := .ref sa) rfl
    (g := { method := m, pc := pc + 6, locals := ls, stack := .ref sa :: .ref T.heap.size :: .ref T.heap.size :: rest, locked := none }) rfl hsize rfl rfl (rest := rest) rfl
    (by rw [hb]; exact d6) (by rw [hb]; exact d9) hout hRframes (by simp only [List.map_cons, List.sum_cons, hcat]; omega) hlocks
  obtain ⟨f1, f2⟩ := vx_frame hsame
  rw [hhp] at f1 f2
  have hWs : s.WarmedH U.vm := State.WarmedH.trans hW0 hW
  have hcl : s.vm.findClass cls = some ce.cls := by
    have h9 := hO.cls
    rw [hvm] at h9
    exact h9
  have hall : s.sameButNew ({ U with vm := s.vm } : State) locs mc ms := by
    subst hA
    obtain ⟨e1, e2⟩ := hsame
    rw [State.setFrames_setFrames] at e1
    have h2 : (T.setVm s.vm).sameButNew ({ U with vm := s.vm } : State) [] (0 + 1) (0 + 6) := ⟨e1, e2⟩
    have h3 := X.same.trans h2
    rw [List.append_nil] at h3
    exact h3.mono hc hs
  refine ⟨U, ?_, .threw T.heap.size, hrun, hend, Or.inr ⟨T.heap.size, rfl, cls, ce, locs, hx U hWs.alike f1 (fun q hq => f2 q hq (fun z hz => nomatch hz)), hce, hO.vm, hcl, hWs, hall, hf⟩⟩
  refine st1 _ ?_
  show Steps p.tables e below (T1.setTop { method := m, pc := pc + 3, locals := ls, stack := .ref T.heap.size :: rest, locked := none }) _
  jvm_step X₁.here [X₁.here.top, hexec, d3', Value.category]
  exact X₁.ldcString hexec (own := own) (text := text) (index := is) (a := sa) hown' hstr'.1 hstr'.2
    (g := { method := m, pc := pc + 4, locals := ls, stack := .ref T.heap.size :: .ref T.heap.size :: rest, locked := none }) rfl d4' _ hsteps
/-- 'throw new E("text")', the text by a wide index -/
theorem vx_throwSW {cc : ByteArray} {pc : Nat} (hexec : p.tables.exec = Jvm.exec) (hb : c.code = cc) (hl : l.stackTraces = false) {own cls text : String} {names : List String} {ik is ic mc ms sa : Nat} {A : Nat → Prop}
    (hown : s.vm.findClass own = some m.cls) (hcls : Bundle.fit cls = true) (hnames : ∀ n ∈ names, Bundle.fit n = true)
    (hk : (Cond.classLink own ik cls).before args s = true) (hini : (Cond.initialized cls).before args s = true) (hstr : vk_R own is text sa s) (hat : ∀ w ∈ vx_atS own ic cls names, w.before args s = true)
    (hgood : ∀ w ∈ Cond.classLink own ik cls :: Cond.initialized cls :: vx_atS own ic cls names, vx_ot w = true)
    (hU : vx_Zq Bundle.tN "UNASSIGNED_STACK" Bundle.steD A s s.heap) (hN : vx_Zq Bundle.tN "SUPPRESSED_SENTINEL" Bundle.listD A s s.heap) (hS : va_S A s.heap H locs) (hsize : ls.size = c.maxLocals)
    (d0 : decode cc pc = .ok (.new ik, 3)) (d3 : decode cc (pc + 3) = .ok (.dup, 1)) (d4 : decode cc (pc + 4) = .ok (.ldc_w is, 3)) (d7 : decode cc (pc + 7) = .ok (.invokespecial ic, 3)) (d10 : decode cc (pc + 10) = .ok (.athrow, 1))
    (hout : ∀ x ∈ c.exceptionTable.toList, covers x (pc + 10) = false)
    (hRframes : names.length + 3 < R.frames) (hRlocals : (rest.map fun v => v.category).sum + (13 * (names.length + 1) + 43) ≤ R.locals) (hRcells : cells + 1 ≤ R.cells) (hRslots : slots + 6 ≤ R.slots) (hlocks : meth.locks = false)
    (hx : ∀ t : State, s.vm.Alike t.vm → H.size ≤ t.heap.size → (∀ q : Nat, q < H.size → t.heap[q]? = H[q]?) → XC cls s t)
    (hf : ∀ z ∈ locs, free z.base) (hc : cells + 1 ≤ mc) (hs : slots + 6 ≤ ms) :
    W p l e R s m args below meth c H locs cells slots (vx_MQ below Qc XC args s mc ms free) (F0 m pc ls rest) := by
  intro T hT X
  have htr : e.platform.stackTraces = false := (show e.platform.stackTraces = l.stackTraces by rw [X.admits.platform]).trans hl
  have Y := vx_rebase X (R' := { frames := R.frames, locals := R.locals, cells := 1, slots := 6 }) (Nat.le_refl _) (Nat.le_refl _) hRcells hRslots
  obtain ⟨s', hA⟩ : ∃ z, z = (T.setVm s.vm).setFrames (.invoking m args :: below) := ⟨_, rfl⟩
  rw [← hA] at Y
  have hvm : s'.vm = s.vm := by rw [hA]; rfl
  have hhp : s'.heap = H := by rw [hA]; exact hT
  have hW0 : s.WarmedH s'.vm := by rw [hvm]; exact State.WarmedH.refl s
  have hat' : ∀ w ∈ vx_atS own ic cls names, w.before args s' = true := fun w hw => vx_ot_at hW0 hvm.symm (hgood w (List.mem_cons_of_mem _ (List.mem_cons_of_mem _ hw))) (hat w hw)
  have hk' : (Cond.classLink own ik cls).before args s' = true := vx_ot_at hW0 hvm.symm (hgood _ List.mem_cons_self) hk
  have hini' : (Cond.initialized cls).before args s' = true := vx_ot_at hW0 hvm.symm (hgood _ (List.mem_cons_of_mem _ List.mem_cons_self)) hini
  have hU' : vx_Zq Bundle.tN "UNASSIGNED_STACK" Bundle.steD A s' s'.heap := by rw [hhp]; exact vx_Zq.moved hW0.alike (hU.kept hS.2.1)
  have hN' : vx_Zq Bundle.tN "SUPPRESSED_SENTINEL" Bundle.listD A s' s'.heap := by rw [hhp]; exact vx_Zq.moved hW0.alike (hN.kept hS.2.1)
  have h : ∀ w ∈ Bundle.ownAtoms own ic cls names, w.before args s' = true := vx_own hat' (vx_isRefq hU'.1) (vx_isRefq hN'.1) hU'.2.word hN'.2.word
  have hown' : s'.vm.findClass own = some m.cls := by rw [hvm]; exact hown
  have hins : (Cond.instantiable cls 6).before args s' = true := h _ (by simp [Bundle.ownAtoms])
  obtain ⟨vm₁, cX, kX, hfX, hkX, -, -, X₁, st1⟩ := Y.newCold hexec (own := own) (C := cls) (index := ik) (n := 6) hown' hk' hins hini'
    (g := F0 m pc ls rest) rfl (by rw [hb]; exact d0) (Nat.le_refl _) (Nat.le_refl _)
  generalize hT1 : (T.setVm vm₁).pushCell { cls := cX, slots := kX.instanceTypes.map defaultValue, vm := .none } = T1 at X₁ st1
  have hcat : (Value.ref T.heap.size).category = 1 := rfl
  have hcellA : T1.heap[T.heap.size]? = some (freshCell cX kX) := by rw [← hT1]; exact State.heap_pushCell_size _ _
  have d3' : decode c.code (pc + 3) = .ok (.dup, 1) := by rw [hb]; exact d3
  have d4' : decode c.code (pc + 4) = .ok (.ldc_w is, 3) := by rw [hb]; exact d4
  have hstr' : vk_R own is text sa s' := vk_R.warm hW0 hstr
  obtain ⟨U, hsteps, hrun, hend, hW, hsame, ce, hce, hO⟩ := X₁.ctorThrowS hexec htr (own := own) (cls := cls) (names := names) (ic := ic) hown' hcls hnames h (fun x hx => nomatch hx) hfX hkX hcellA (by rw [hhp, hT]; exact Nat.le_refl _) (msg := .ref sa) rfl
    (g := { method := m, pc := pc + 7, locals := ls, stack := .ref sa :: .ref T.heap.size :: .ref T.heap.size :: rest, locked := none }) rfl hsize rfl rfl (rest := rest) rfl
    (by rw [hb]; exact d7) (by rw [hb]; exact d10) hout hRframes (by simp only [List.map_cons, List.sum_cons, hcat]; omega) hlocks
  obtain ⟨f1, f2⟩ := vx_frame hsame
  rw [hhp] at f1 f2
  have hWs : s.WarmedH U.vm := State.WarmedH.trans hW0 hW
  have hcl : s.vm.findClass cls = some ce.cls := by
    have h9 := hO.cls
    rw [hvm] at h9
    exact h9
  have hall : s.sameButNew ({ U with vm := s.vm } : State) locs mc ms := by
    subst hA
    obtain ⟨e1, e2⟩ := hsame
    rw [State.setFrames_setFrames] at e1
    have h2 : (T.setVm s.vm).sameButNew ({ U with vm := s.vm } : State) [] (0 + 1) (0 + 6) := ⟨e1, e2⟩
    have h3 := X.same.trans h2
    rw [List.append_nil] at h3
    exact h3.mono hc hs
  refine ⟨U, ?_, .threw T.heap.size, hrun, hend, Or.inr ⟨T.heap.size, rfl, cls, ce, locs, hx U hWs.alike f1 (fun q hq => f2 q hq (fun z hz => nomatch hz)), hce, hO.vm, hcl, hWs, hall, hf⟩⟩
  refine st1 _ ?_
  show Steps p.tables e below (T1.setTop { method := m, pc := pc + 3, locals := ls, stack := .ref T.heap.size :: rest, locked := none }) _
  jvm_step X₁.here [X₁.here.top, hexec, d3', Value.category]
  exact X₁.ldcStringW hexec (own := own) (text := text) (index := is) (a := sa) hown' hstr'.1 hstr'.2
    (g := { method := m, pc := pc + 4, locals := ls, stack := .ref T.heap.size :: .ref T.heap.size :: rest, locked := none }) rfl d4' _ hsteps
end Ends
section Bodies
variable {l : Launch}
theorem vx_ofW {y : MethodName} {ws ws' : List Cond} {rm : Room} {Pc : Array Value → State → Prop} {Qc : Array Value → State → Outcome → State → Prop} {XC : String → State → State → Prop} {mc ms : Nat} {free : Addr → Prop} {cc : ByteArray} {maxL : Nat} {ret : Option FieldType}
    (hy : plainName y.cls = true) (hw : ws = Cond.code y cc maxL ret :: ws')
    (body : ∀ p e s m args below meth c s₁, BodyLoose p l y (headSpec ws rm) cc maxL ret e s m args below meth c s₁ → c.maxLocals = maxL → (∀ x ∈ c.exceptionTable.toList, False) → Pc args s →
      W p l e (headSpec ws rm).room s m args below meth c s.heap [] 0 0 (vx_MQ below Qc XC args s mc ms free) (entryFrame m args maxL)) : vx_Met l y ws rm Pc Qc XC mc ms free := by
  refine MetFree.of_bodyS (code := cc) (maxLocals := maxL) (ret := ret) hy ?_ ?_
  · intro args s m h hn
    obtain ⟨meth, c, h1, h2, h3, h4, h5, h6, -, -⟩ := Cond.code_spec hn (atoms_spec (ws := ws) h _ (by rw [hw]; exact List.mem_cons_self))
    exact ⟨meth, c, h1, h2, h3, h4, h5, h6⟩
  · intro p e s m args below meth c s₁ B hml hP _
    have hh0 : s₁.heap = s.heap := by rw [B.state]; rfl
    have ht : ∀ x ∈ c.exceptionTable.toList, False := by
      obtain ⟨meth9, c9, h1, h2, -, -, -, -, h7, -⟩ := Cond.code_spec B.named (atoms_spec (ws := ws) B.pre _ (by rw [hw]; exact List.mem_cons_self))
      cases Option.some.inj (h1.symm.trans B.method)
      cases Option.some.inj (h2.symm.trans (Stand.of_body B).code)
      intro x hx
      rw [Array.isEmpty_iff.mp h7] at hx
      cases hx
    obtain ⟨t, a1, o, b1, b2, b3⟩ := body p e s m args below meth c s₁ B hml ht hP s₁ hh0 (Stand.of_body B)
    exact ⟨t, o, a1, b1, b2, b3⟩
/-- the table of a body with handlers -/
theorem vx_table {p : Program} {x y : MethodName} {S : Spec} {cc bytes : ByteArray} {maxL maxL' : Nat} {ret ret' : Option FieldType} {e : Env} {s s₁ : State} {m : MethodId} {args : Array Value} {below : List Frame} {meth : Method} {c : Code} {hh : List (Nat × Nat × Nat × Nat)}
    (B : BodyLoose p l y S cc maxL ret e s m args below meth c s₁) (h : (Cond.codeWith y bytes maxL' ret' hh).before args s = true) : c.exceptionTable.toList = tableOf hh := by
  obtain ⟨m9, meth9, c9, hn9, h1, h2, -, -, h6, -⟩ := Cond.codeWith_spec h
  cases Option.some.inj (hn9.symm.trans B.named)
  cases Option.some.inj (h1.symm.trans B.method)
  cases Option.some.inj (h2.symm.trans (Stand.of_body B).code)
  rw [← h6, table_eq]
end Bodies
end VXA
/-! ===== END ===== -/
/-! ===== BEGIN a static call of a method with an exception table ===== -/
section VXS
variable {p : Program} {l : Launch} {e : Env} {R : Room} {s : State} {m : MethodId} {args : Array Value} {below : List Frame} {meth : Method} {c : Code} {T : State} {H : Heap} {locs : List Loc} {cells slots : Nat}
abbrev vx_CSW (R : Room) (s : State) (args : Array Value) (own : String) (index : Nat) (y : MethodName) (bytes : ByteArray) (maxL : Nat) (ret : Option FieldType) (hh : List (Nat × Nat × Nat × Nat)) (ws : List Cond) (rm : Room) (mc ms n : Nat) : Prop :=
  (rm.cells = mc ∧ rm.slots = ms ∧ rm.frames + 1 ≤ R.frames ∧ 8 + (maxL + 11) + rm.locals ≤ R.locals ∧ (∀ w ∈ ws, ∀ (a' : Array Value) (U : State), s.WarmedH U.vm → w.before a' U = true) ∧ Cond.codeWith y bytes maxL ret hh ∈ ws) ∧
  (Cond.codeWith y bytes maxL ret hh).before args s = true ∧ (Cond.initialized y.cls).before args s = true ∧ (y.cls ≠ "java/lang/invoke/MethodHandle" ∧ y.cls ≠ "java/lang/invoke/VarHandle") ∧
  (∀ sig, parseMethodDescriptor y.desc = some sig → n = sig.parameters.length) ∧ (Cond.methodLink own index y).before args s = true ∧ (Cond.static y).before args s = true
theorem vx_cwSW {own : String} {index maxL mc ms : Nat} {y : MethodName} {bytes : ByteArray} {ret : Option FieldType} {hh : List (Nat × Nat × Nat × Nat)} {Ts ws ws' : List Cond} {rm : Room} (n : Nat) (ht : ∀ w ∈ Ts, w.before args s = true) (hT : GoodIn Ts (va_wsS own index y ws)) (hw : ws = Cond.codeWith y bytes maxL ret hh :: ws') (hrc : rm.cells = mc) (hrs : rm.slots = ms)
    (hd : y.cls ≠ "java/lang/invoke/MethodHandle" ∧ y.cls ≠ "java/lang/invoke/VarHandle" ∧ (parseMethodDescriptor y.desc).map (fun d => d.parameters.length) = some n) (hR : rm.frames + 1 ≤ R.frames ∧ 8 + (maxL + 11) + rm.locals ≤ R.locals) :
    vx_CSW R s args own index y bytes maxL ret hh ws rm mc ms n := by
  have ok : ∀ w ∈ va_wsS own index y ws, w.before args s = true := fun w h => ht w (hT w h).1
  have hG : GoodIn Ts ws := fun w h => hT w (by unfold va_wsS; exact List.mem_append_right _ h)
  have hc : Cond.codeWith y bytes maxL ret hh ∈ ws := by rw [hw]; exact List.mem_cons_self
  refine ⟨⟨hrc, hrs, hR.1, hR.2, pay_in ht hG, hc⟩, ht _ (hG _ hc).1, ok _ (by simp [va_wsS]), ⟨hd.1, hd.2.1⟩, fun sig h => ?_, ok _ (by simp [va_wsS]), ok _ (by simp [va_wsS])⟩
  have h2 := hd.2.2
  rw [h] at h2
  exact (Option.some.inj h2).symm
theorem vx_callSW (X : Stand p l e R s m args below meth c T locs cells slots) (hexec : p.tables.exec = Jvm.exec) {own : String} {index : Nat} {y : MethodName} {bytes : ByteArray} {maxL : Nat} {ret : Option FieldType} {hh : List (Nat × Nat × Nat × Nat)}
    (hown : s.vm.findClass own = some m.cls) (hlink : (Cond.methodLink own index y).before args s = true) (hstat : (Cond.static y).before args s = true) (hinit : (Cond.initialized y.cls).before args s = true)
    (hcode : (Cond.codeWith y bytes maxL ret hh).before args s = true) (hy : y.cls ≠ "java/lang/invoke/MethodHandle" ∧ y.cls ≠ "java/lang/invoke/VarHandle")
    {W9 : Nat} {Pre : Pt → Array Value → Prop} {Post : Pt → Array Value → Option Value → Pt → Prop} (hK : Back l R p e below s args y 3 W9 Pre Post)
    {g : JFrame} (hg : g.method = m) (hsize : g.locals.size = c.maxLocals) {argsL rest : List Value} (hlen : ∀ sig, parseMethodDescriptor y.desc = some sig → argsL.length = sig.parameters.length)
    (hstack : g.stack = argsL.reverse ++ rest) (hW : 2 * g.monitorRoom + (rest.map fun v => v.category).sum ≤ W9) (hdg : decode c.code g.pc = .ok (.invokestatic index, 3))
    (hpre : ∀ vm₁, s.WarmedH vm₁ → Pre ⟨T.setVm vm₁, locs, cells, slots⟩ argsL.toArray) :
    ∃ (v : Option Value) (vm₁ : Vm) (B : Pt), s.WarmedH vm₁ ∧ Stand p l e R s m args below meth c B.U B.locs B.cells B.slots ∧ Post ⟨T.setVm vm₁, locs, cells, slots⟩ argsL.toArray v B ∧
      ∀ target, Steps p.tables e below (B.U.setTop { g with pc := g.pc + 3, stack := v.toList ++ rest }) target → Steps p.tables e below (T.setTop g) target := by
  obtain ⟨mk, methM, cM, hnamed, hmethM, -, -, -, -, -, -, hsigM⟩ := Cond.codeWith_spec hcode
  have hstatic : methM.isStatic = true := Cond.static_spec hnamed hmethM hstat
  obtain ⟨kP, hkP, -⟩ := className_of_methodNamed hnamed
  have hinitP : kP.init = .initialized := Cond.initialized_spec (findClass_of_methodNamed hnamed) hkP hinit
  obtain ⟨vm₁, X₁, hstep₁⟩ := X.invokestatic hexec hown hlink hnamed hmethM hstatic hkP hinitP hy (g := g) hg (argsL := argsL) (rest := rest) (hlen _ hsigM) hstack hdg
  obtain ⟨v, B, X', hpost, hsteps⟩ := hK m meth c ⟨T.setVm vm₁, locs, cells, slots⟩ { g with stack := rest } (.invokestatic index) mk argsL.toArray X₁ hg hsize hdg hW (X₁.named hnamed) (hpre vm₁ X₁.warmed)
  exact ⟨v, vm₁, B, X₁.warmed, X', hpost, fun target h => hstep₁ _ fun acts => by rw [doInvoke_state]; exact hsteps.trans h⟩
theorem vx_runSW {y : MethodName} {bytes cc : ByteArray} {maxL nL mc ms n index : Nat} {ret : Option FieldType} {hh : List (Nat × Nat × Nat × Nat)} {ws : List Cond} {rm : Room} {Pc : Array Value → State → Prop} {Qc : Array Value → State → Outcome → State → Prop} {free : Addr → Prop} {Ts : List Cond} {own : String} {As rest : List Value} {g : JFrame}
    (S : CallFix p m c cc nL s args Ts own) (hM : Met l y ws rm Pc Qc mc ms free) (cw : vx_CSW R s args own index y bytes maxL ret hh ws rm mc ms n) (hp : PreS s H Pc As)
    (hg : g.method = m) (hn : As.length = n) (hsize : g.locals.size = nL) (hstack : g.stack = As.reverse ++ rest) (hW : 2 * g.monitorRoom + (rest.map fun v => v.category).sum ≤ 8) (hdg : decode cc g.pc = .ok (.invokestatic index, 3)) (hf : cells + mc ≤ R.cells ∧ slots + ms ≤ R.slots) :
    va_Run p l e R s m args below meth c H locs cells slots mc ms g rest (Qc As.toArray) (free) := by
  obtain ⟨⟨hrc, hrs, hfr, hlo, hws, hcw⟩, hcode, hini, hy, hlen, hl, hstt⟩ := cw
  have hK : Back l R p e below s args y 3 8 (PreOf R mc ms Pc) (PostOf Qc mc ms free) := va_backW (hh := hh) (bytes := bytes) (maxL := maxL) (ret := ret) hM hp.1 hrc hrs hfr hlo hws hcw (fun a' U hW => word_at hW (Or.inl (by first | rfl | simp [Cond.onTables, Cond.keeps, Cond.steady])) hini)
  obtain ⟨hx, hb, hml, ho, -⟩ := S
  intro T hT X
  obtain ⟨v, vm₁, ⟨U', l2, c2, s2⟩, hW₁, X', ⟨g', mk, t, L, e1, e2, hq, h1, hL, h2, h3⟩, st⟩ := vx_callSW X hx (hh := hh) (bytes := bytes) (maxL := maxL) (ret := ret) ho hl hstt hini hcode hy hK hg (hsize.trans hml.symm) (argsL := As) (rest := rest) (fun sig h => hn.trans (hlen sig h)) hstack hW (by rw [hb]; exact hdg)
    (fun vm₁ hW₁ => ⟨hf.1, hf.2, hp.2 (T.setVm vm₁) hT hW₁⟩)
  dsimp only [Pt.U, Pt.locs, Pt.cells, Pt.slots] at X' e1 e2 h1 h2 h3 st
  subst h1; subst h2; subst h3
  exact ⟨v, (T.setVm vm₁).calling g' mk As.toArray, t, U', L, hT, X', hL, e1, e2, hq, st⟩
/-- not caught here, past rows that name other classes: it goes on to the caller -/
theorem vx_outP {p : Program} {l : Launch} {e : Env} {R : Room} {s : State} {m : MethodId} {args : Array Value} {below : List Frame} {meth : Method} {c : Code} {H : Heap} {locs : List Loc} {cells slots : Nat} {free : Addr → Prop} {ls : Array Slot} {rest : List Value} {Qc : Array Value → State → Outcome → State → Prop} {XC : String → State → State → Prop}
    {pc : Nat} {own E : String} {ce : Cell} {q : Addr} {mc ms : Nat} (hown : s.vm.findClass own = some m.cls) (hlocks : meth.locks = false)
    (hpass : ∀ z ∈ c.exceptionTable.toList, covers z pc = false ∨ (z.catchType ≠ 0 ∧ ∃ nm : String, (Cond.classLink own z.catchType nm).before args s = true ∧ va_Nc E nm s)) (hcell : H[q]? = some ce) (hv : ce.vm = .none) (hcl : s.vm.findClass E = some ce.cls)
    (hx : ∀ t : State, t.heap = H → s.vm.Alike t.vm → XC E s t) (hf : ∀ z ∈ locs, free z.base) (hc : cells ≤ mc) (hs : slots ≤ ms) :
    vx_W p l e R s m args below meth c H locs cells slots (vx_MQ below Qc XC args s mc ms free) (F0 m pc ls rest) q := by
  intro T hT X
  have hpl : e.platform.magicAccessors = ({} : Platform).magicAccessors := by rw [X.admits.platform]
  obtain ⟨vm', hW', X', st⟩ := X.outThrough hlocks q (g := F0 m pc ls rest) rfl rfl rfl (cell := ce) (by rw [hT]; exact hcell) (by rw [hv]; rfl)
    (by obtain ⟨k9, h9, -⟩ := Vm.findClass_spec hcl; exact ⟨k9, h9⟩) (fun z hz => by
      rcases hpass z hz with h | ⟨hz0, nm, hl1, hn1⟩
      · exact Or.inl h
      · obtain ⟨c6, hc6, hcl6⟩ := Cond.classLink_spec hown hl1 e.platform hpl
        obtain ⟨a8, b8, h1, h2, h3⟩ := hn1
        cases Option.some.inj (h1.symm.trans hcl)
        cases Option.some.inj (h2.symm.trans hc6)
        exact Or.inr ⟨hz0, _, hcl6, h3⟩)
  obtain ⟨g₀, hfr⟩ := X'.frames_eq
  have hcell9 : ((T.setVm vm').setFrames (.throwing q :: below)).heap[q]? = some ce := by
    show T.heap[q]? = some ce
    rw [hT]; exact hcell
  have hend : Ended ((T.setVm vm').setFrames (.throwing q :: below)) below (.threw q) := State.frames_setFrames _ (State.cur_lt_of_frames hfr)
  refine ⟨(T.setVm vm').setFrames (.throwing q :: below), ?_, .threw q, X'.here.running, hend, Or.inr ⟨q, rfl, E, ce, locs, hx _ hT (X'.ends _).1.alike, hcell9, hv, hcl, (X'.ends _).1, (X'.ends _).2.mono hc hs, hf⟩⟩
  rw [X.pushThrowing_eq]
  exact st
/-- a thing of a world lies in the heap -/
theorem vx_lt {D : va_G} {cl : List vw_C} {ws : va_W} {H1 : Heap} (h : va_P D cl ws H1) {k : Nat} {q : Nat × va_E} (hk : ws[k]? = some q) : q.1 < H1.size := (h k q hk).lt
end VXS
/-! ===== END ===== -/
/-! ===== BEGIN methods with a table of their own: called by a name, returning or throwing ===== -/
section VXH
/-! vx_backW, vx_callVX, vx_callSX, vx_callVW, vx_runVW, vx_runVX, vx_runSX, vx_ofWH follow the same proofs as their sisters above (Free/Laws.lean, Shelf42/LK1.lean); vx_outP calls Shelf42/NT130.lean (outThrough). -/
section
variable {l : Launch} {R : Room} {p : Program} {e : Env} {below : List Frame} {s : State} {sargs : Array Value} {y : MethodName} {len W9 : Nat}
theorem vx_backW {ws : List Cond} {rm : Room} {Pc : Array Value → State → Prop} {Qc : Array Value → State → Outcome → State → Prop} {XC : String → State → State → Prop} {mc ms : Nat} {free : Addr → Prop} {bytes : ByteArray} {maxL : Nat} {ret : Option FieldType} {hh : List (Nat × Nat × Nat × Nat)}
    (hM : vx_Met l y ws rm Pc Qc XC mc ms free) (hblind : FrameBlind Pc) (hrc : rm.cells = mc) (hrs : rm.slots = ms)
    (hframes : rm.frames + 1 ≤ R.frames) (hlocals : W9 + (maxL + 11) + rm.locals ≤ R.locals)
    (hws : ∀ w ∈ ws, ∀ a' U, s.WarmedH U.vm → w.before a' U = true) (hcode : Cond.codeWith y bytes maxL ret hh ∈ ws) (hinit : ∀ a' U, s.WarmedH U.vm → (Cond.initialized y.cls).before a' U = true) :
    vx_Back l R p e below s sargs y len W9 (PreOf R mc ms Pc) (PostOf Qc mc ms free) (vx_Post XC mc ms free) := by
  intro m meth c A g ig mk a X hg hsize hdg hW hn hp
  have h1 : (headSpec ws rm).pre.before a A.U = true := atoms_intro fun w hw => hws w hw _ _ X.warmed
  have h2 : (Cond.codeWith y bytes maxL ret hh).before a A.U = true := hws _ hcode _ _ X.warmed
  have h3 : (Cond.initialized y.cls).before a A.U = true := hinit _ _ X.warmed
  have h4 : A.cells + (headSpec ws rm).room.cells ≤ R.cells := by rw [show (headSpec ws rm).room.cells = mc from hrc]; exact hp.1
  have h5 : A.slots + (headSpec ws rm).room.slots ≤ R.slots := by rw [show (headSpec ws rm).room.slots = ms from hrs]; exact hp.2.1
  have hPc : Pc a (A.U.calling g mk a) := hblind _ _ _ _ hp.2.2
  obtain ⟨U, Ls, c0, s0⟩ := A
  dsimp only [Pt.U, Pt.locs, Pt.cells, Pt.slots] at h1 h2 h3 h4 h5 X hn hPc ⊢
  obtain ⟨m9, methY, cY, hn9, hmY, hcY, -, hlY, -⟩ := Cond.codeWith_spec h2
  cases Option.some.inj (hn9.symm.trans hn)
  obtain ⟨kY, hkY, -⟩ := className_of_methodNamed hn
  have hinitY : kY.init = .initialized := Cond.initialized_spec (findClass_of_methodNamed hn) hkY h3
  have h : At U g.method c below := by rw [hg]; exact X.here
  have hlocals9 : W9 + (maxL + 11) + (headSpec ws rm).room.locals ≤ R.locals := hlocals
  have happ : (headSpec ws rm).appliesLoose y e.platform (U.calling g mk a) = true :=
    Spec.appliesLoose_calling (g := g) h hdg hn hkY hinitY
      (X.room_calling (g := g) (R' := (headSpec ws rm).room) hsize hmY hcY hframes (by rw [hlY]; omega) h4 h5) h1
  obtain ⟨mid, hmid⟩ := h.above
  have hfr : (U.setTop g).frames = (.java g :: mid) ++ below := by rw [State.frames_setTop' g h.top, hmid]; rfl
  obtain ⟨o, s₂, hsteps, -, hend, hq⟩ := Steps.callFree hM p X.admits X.cas X.clock (acts := []) hfr happ hPc trivial
  have hq' : vx_Q Qc XC mc ms free a (U.calling g mk a) o s₂ := hq
  rw [State.frames_setTop' g h.top] at hend
  obtain ⟨g₀, hg0⟩ := Option.isSome_iff_exists.mp h.top
  obtain ⟨r, hr⟩ := State.topJava?_eq_some.mp hg0
  have hr' : (({ U with heap := s₂.heap, slotsUsed := s₂.slotsUsed } : State).setVm s₂.vm).frames = .java g₀ :: r := hr
  rcases hq' with ⟨hqc, L, hfe, hL⟩ | ⟨q, rfl, E, ce, L, hx, hce, hcv, hcl, hW₂, hsm, hL⟩
  · obtain ⟨⟨v, rfl⟩, hW₂, e2, q2, q3, q4, q5, q6⟩ := id hfe
    have e3 : s₂ = ({ (U.calling g mk a).setFrames s₂.frames with heap := s₂.heap, slotsUsed := s₂.slotsUsed } : State).setVm s₂.vm := by
      have : s₂ = ({ s₂ with vm := (U.calling g mk a).vm } : State).setVm s₂.vm := rfl
      rw [e2] at this
      exact this
    obtain ⟨c₂, i₂, len₂, hc₂, hd₂, hf₂⟩ := hend
    have hW' : U.WarmedH s₂.vm := hW₂
    have hcc : c₂ = c := by
      have h1 : s₂.code? g.method = U.code? g.method := by
        rw [State.code?_eq, State.code?_eq, hW'.alike.method?]
      exact Option.some.inj (hc₂.symm.trans (h1.trans h.code))
    subst hcc
    have hlen : len₂ = len := by rw [hdg] at hd₂; cases hd₂; rfl
    subst hlen
    have hs₂ : s₂ = (({ U with heap := s₂.heap, slotsUsed := s₂.slotsUsed } : State).setVm s₂.vm).setTop { g with pc := g.pc + len₂, stack := v.toList ++ g.stack } := by
      refine e3.trans ?_
      rw [hf₂, State.calling_eq h.top, State.setFrames_setFrames, State.setTop_of_frames _ hr', hr]
      rfl
    have hsame : U.sameButNew ({ U with heap := s₂.heap, slotsUsed := s₂.slotsUsed } : State) L mc ms := by
      refine ⟨?_, q2, q3, q4, q5, q6⟩
      obtain ⟨t, ht, -⟩ := State.frames_cons hr
      show ({ U with heap := s₂.heap, slotsUsed := s₂.slotsUsed } : State) = { U.setFrames U.frames with heap := s₂.heap, slotsUsed := s₂.slotsUsed }
      rw [State.setFrames_self ht]
    subst hg
    refine Or.inl ⟨v, ⟨(({ U with heap := s₂.heap, slotsUsed := s₂.slotsUsed } : State).setVm s₂.vm), Ls ++ L, c0 + mc, s0 + ms⟩,
      ⟨X.admits, X.cas, X.clock, X.frames, X.room, X.hears, X.method, X.code, (X.here.setHeapUsed s₂.heap s₂.slotsUsed).setVm hW'.alike, X.tail, State.WarmedH.trans X.warmed hW', X.limits, X.bytes, X.same.trans (hsame.setVm s.vm)⟩,
      ⟨g, mk, s₂, L, rfl, rfl, hqc, rfl, hL, rfl, rfl⟩, ?_⟩
    show Steps p.tables e below _ ((({ U with heap := s₂.heap, slotsUsed := s₂.slotsUsed } : State).setVm s₂.vm).setTop { g with pc := g.pc + len₂, stack := v.toList ++ g.stack })
    rw [← hs₂]
    exact hsteps
  · obtain ⟨e2, q2, q3, q4, q5, q6⟩ := id hsm
    have e3 : s₂ = ({ (U.calling g mk a).setFrames s₂.frames with heap := s₂.heap, slotsUsed := s₂.slotsUsed } : State).setVm s₂.vm := by
      have : s₂ = ({ s₂ with vm := (U.calling g mk a).vm } : State).setVm s₂.vm := rfl
      rw [e2] at this
      exact this
    have hf₂ : s₂.frames = .throwing q :: .java g :: U.frames.tail := hend
    have hW' : U.WarmedH s₂.vm := hW₂
    have hs₂ : s₂ = ((({ U with heap := s₂.heap, slotsUsed := s₂.slotsUsed } : State).setVm s₂.vm).setTop g).pushFrame (.throwing q) := by
      refine e3.trans ?_
      rw [hf₂, State.calling_eq h.top, State.setFrames_setFrames, State.pushFrame, State.frames_setTop _ hr', State.setTop_of_frames _ hr', State.setFrames_setFrames, hr]
      rfl
    have hsame : U.sameButNew ({ U with heap := s₂.heap, slotsUsed := s₂.slotsUsed } : State) L mc ms := by
      refine ⟨?_, q2, q3, q4, q5, q6⟩
      obtain ⟨t, ht, -⟩ := State.frames_cons hr
      show ({ U with heap := s₂.heap, slotsUsed := s₂.slotsUsed } : State) = { U.setFrames U.frames with heap := s₂.heap, slotsUsed := s₂.slotsUsed }
      rw [State.setFrames_self ht]
    subst hg
    refine Or.inr ⟨q, ⟨(({ U with heap := s₂.heap, slotsUsed := s₂.slotsUsed } : State).setVm s₂.vm), Ls ++ L, c0 + mc, s0 + ms⟩,
      ⟨X.admits, X.cas, X.clock, X.frames, X.room, X.hears, X.method, X.code, (X.here.setHeapUsed s₂.heap s₂.slotsUsed).setVm hW'.alike, X.tail, State.WarmedH.trans X.warmed hW', X.limits, X.bytes, X.same.trans (hsame.setVm s.vm)⟩,
      ⟨g, mk, s₂, L, E, ce, rfl, rfl, hx, hce, hcv, hcl, rfl, hL, rfl, rfl⟩, ?_⟩
    show Steps p.tables e below _ (((({ U with heap := s₂.heap, slotsUsed := s₂.slotsUsed } : State).setVm s₂.vm).setTop g).pushFrame (.throwing q))
    rw [← hs₂]
    exact hsteps
end
variable {p : Program} {l : Launch} {e : Env} {R : Room} {s : State} {m : MethodId} {args : Array Value} {below : List Frame} {meth : Method} {c : Code} {T : State} {H : Heap} {locs : List Loc} {cells slots : Nat}
theorem vx_callVX (X : Stand p l e R s m args below meth c T locs cells slots) (hexec : p.tables.exec = Jvm.exec) {own C : String} {index : Nat} {y : MethodName} {bytes : ByteArray} {maxL : Nat} {ret : Option FieldType} {hh : List (Nat × Nat × Nat × Nat)}
    (hown : s.vm.findClass own = some m.cls) (hlink : (Cond.methodLink own index y).before args s = true) (hinst : (Cond.instanceMethod y).before args s = true) (hsel : (Cond.selects C y y).before args s = true)
    (hcode : (Cond.codeWith y bytes maxL ret hh).before args s = true) (hy : y.cls ≠ "java/lang/invoke/MethodHandle" ∧ y.cls ≠ "java/lang/invoke/VarHandle")
    {W9 : Nat} {Pre : Pt → Array Value → Prop} {Post : Pt → Array Value → Option Value → Pt → Prop} {PostX : Pt → Array Value → Addr → Pt → Prop} (hK : vx_Back l R p e below s args y 3 W9 Pre Post PostX)
    {b : Addr} {cellB : Cell} (hcell : T.heap[b]? = some cellB) (hobj : cellB.vm.isStatics = false) (hcls : s.vm.findClass C = some cellB.cls)
    {g : JFrame} (hg : g.method = m) (hsize : g.locals.size = c.maxLocals) {argsL rest : List Value} (hlen : ∀ sig, parseMethodDescriptor y.desc = some sig → argsL.length = sig.parameters.length)
    (hstack : g.stack = argsL.reverse ++ .ref b :: rest) (hW : 2 * g.monitorRoom + (rest.map fun v => v.category).sum ≤ W9) (hdg : decode c.code g.pc = .ok (.invokevirtual index, 3))
    (hpre : ∀ vm₁, s.WarmedH vm₁ → Pre ⟨T.setVm vm₁, locs, cells, slots⟩ (Value.ref b :: argsL).toArray) :
    (∃ (v : Option Value) (vm₁ : Vm) (B : Pt), s.WarmedH vm₁ ∧ Stand p l e R s m args below meth c B.U B.locs B.cells B.slots ∧ Post ⟨T.setVm vm₁, locs, cells, slots⟩ (Value.ref b :: argsL).toArray v B ∧
      ∀ target, Steps p.tables e below (B.U.setTop { g with pc := g.pc + 3, stack := v.toList ++ rest }) target → Steps p.tables e below (T.setTop g) target) ∨
    (∃ (q : Addr) (vm₁ : Vm) (B : Pt), s.WarmedH vm₁ ∧ Stand p l e R s m args below meth c B.U B.locs B.cells B.slots ∧ PostX ⟨T.setVm vm₁, locs, cells, slots⟩ (Value.ref b :: argsL).toArray q B ∧
      Steps p.tables e below (T.setTop g) ((B.U.setTop { g with stack := rest }).pushFrame (.throwing q))) := by
  obtain ⟨mk, methM, hnamed, hmethM, hstM, habM⟩ := Cond.instanceMethod_spec hinst
  obtain ⟨m8, methM', cM, hn8, hmethM', -, -, -, -, -, -, hsigM⟩ := Cond.codeWith_spec hcode
  cases Option.some.inj (hn8.symm.trans hnamed)
  cases hmethM.symm.trans hmethM'
  obtain ⟨c2, r2, m2, q1, q2, q3, q4, kP, hkP, hkPi⟩ := Cond.selects_spec hsel
  cases hcls.symm.trans q1
  cases (State.methodFound?_of_named hnamed hy).symm.trans q2
  cases hnamed.symm.trans q3
  have hselP : selectMethod e.platform s.vm cellB.cls mk = .method mk := by rw [Launch.admits_selectMethod X.admits]; exact q4
  obtain ⟨vm₁, X₁, hstep₁⟩ := X.invokevirtual hexec hown hlink hnamed hmethM hstM hkP hkPi hy (a := b) (cell := cellB) hcell
    (fun z h => by rw [h] at hobj; cases hobj) hselP hmethM habM hkP hkPi (g := g) hg (argsL := argsL) (rest := rest) (hlen _ hsigM) hstack hdg
  rcases hK m meth c ⟨T.setVm vm₁, locs, cells, slots⟩ { g with stack := rest } (.invokevirtual index) mk (Value.ref b :: argsL).toArray X₁ hg hsize hdg hW (X₁.named hnamed) (hpre vm₁ X₁.warmed) with ⟨v, B, X', hpost, hsteps⟩ | ⟨q, B, X', hpost, hsteps⟩
  · exact Or.inl ⟨v, vm₁, B, X₁.warmed, X', hpost, fun target h => hstep₁ _ fun acts => by rw [doInvoke_state]; exact hsteps.trans h⟩
  · exact Or.inr ⟨q, vm₁, B, X₁.warmed, X', hpost, hstep₁ _ fun acts => by rw [doInvoke_state]; exact hsteps⟩
theorem vx_callSX (X : Stand p l e R s m args below meth c T locs cells slots) (hexec : p.tables.exec = Jvm.exec) {own : String} {index : Nat} {y : MethodName} {bytes : ByteArray} {maxL : Nat} {ret : Option FieldType} {hh : List (Nat × Nat × Nat × Nat)}
    (hown : s.vm.findClass own = some m.cls) (hlink : (Cond.methodLink own index y).before args s = true) (hstat : (Cond.static y).before args s = true) (hinit : (Cond.initialized y.cls).before args s = true)
    (hcode : (Cond.codeWith y bytes maxL ret hh).before args s = true) (hy : y.cls ≠ "java/lang/invoke/MethodHandle" ∧ y.cls ≠ "java/lang/invoke/VarHandle")
    {W9 : Nat} {Pre : Pt → Array Value → Prop} {Post : Pt → Array Value → Option Value → Pt → Prop} {PostX : Pt → Array Value → Addr → Pt → Prop} (hK : vx_Back l R p e below s args y 3 W9 Pre Post PostX)
    {g : JFrame} (hg : g.method = m) (hsize : g.locals.size = c.maxLocals) {argsL rest : List Value} (hlen : ∀ sig, parseMethodDescriptor y.desc = some sig → argsL.length = sig.parameters.length)
    (hstack : g.stack = argsL.reverse ++ rest) (hW : 2 * g.monitorRoom + (rest.map fun v => v.category).sum ≤ W9) (hdg : decode c.code g.pc = .ok (.invokestatic index, 3))
    (hpre : ∀ vm₁, s.WarmedH vm₁ → Pre ⟨T.setVm vm₁, locs, cells, slots⟩ argsL.toArray) :
    (∃ (v : Option Value) (vm₁ : Vm) (B : Pt), s.WarmedH vm₁ ∧ Stand p l e R s m args below meth c B.U B.locs B.cells B.slots ∧ Post ⟨T.setVm vm₁, locs, cells, slots⟩ argsL.toArray v B ∧
      ∀ target, Steps p.tables e below (B.U.setTop { g with pc := g.pc + 3, stack := v.toList ++ rest }) target → Steps p.tables e below (T.setTop g) target) ∨
    (∃ (q : Addr) (vm₁ : Vm) (B : Pt), s.WarmedH vm₁ ∧ Stand p l e R s m args below meth c B.U B.locs B.cells B.slots ∧ PostX ⟨T.setVm vm₁, locs, cells, slots⟩ argsL.toArray q B ∧
      Steps p.tables e below (T.setTop g) ((B.U.setTop { g with stack := rest }).pushFrame (.throwing q))) := by
  obtain ⟨mk, methM, cM, hnamed, hmethM, -, -, -, -, -, -, hsigM⟩ := Cond.codeWith_spec hcode
  have hstatic : methM.isStatic = true := Cond.static_spec hnamed hmethM hstat
  obtain ⟨kP, hkP, -⟩ := className_of_methodNamed hnamed
  have hinitP : kP.init = .initialized := Cond.initialized_spec (findClass_of_methodNamed hnamed) hkP hinit
  obtain ⟨vm₁, X₁, hstep₁⟩ := X.invokestatic hexec hown hlink hnamed hmethM hstatic hkP hinitP hy (g := g) hg (argsL := argsL) (rest := rest) (hlen _ hsigM) hstack hdg
  rcases hK m meth c ⟨T.setVm vm₁, locs, cells, slots⟩ { g with stack := rest } (.invokestatic index) mk argsL.toArray X₁ hg hsize hdg hW (X₁.named hnamed) (hpre vm₁ X₁.warmed) with ⟨v, B, X', hpost, hsteps⟩ | ⟨q, B, X', hpost, hsteps⟩
  · exact Or.inl ⟨v, vm₁, B, X₁.warmed, X', hpost, fun target h => hstep₁ _ fun acts => by rw [doInvoke_state]; exact hsteps.trans h⟩
  · exact Or.inr ⟨q, vm₁, B, X₁.warmed, X', hpost, hstep₁ _ fun acts => by rw [doInvoke_state]; exact hsteps⟩
theorem vx_callVW (X : Stand p l e R s m args below meth c T locs cells slots) (hexec : p.tables.exec = Jvm.exec) {own C : String} {index : Nat} {y : MethodName} {bytes : ByteArray} {maxL : Nat} {ret : Option FieldType} {hh : List (Nat × Nat × Nat × Nat)}
    (hown : s.vm.findClass own = some m.cls) (hlink : (Cond.methodLink own index y).before args s = true) (hinst : (Cond.instanceMethod y).before args s = true) (hsel : (Cond.selects C y y).before args s = true)
    (hcode : (Cond.codeWith y bytes maxL ret hh).before args s = true) (hy : y.cls ≠ "java/lang/invoke/MethodHandle" ∧ y.cls ≠ "java/lang/invoke/VarHandle")
    {W9 : Nat} {Pre : Pt → Array Value → Prop} {Post : Pt → Array Value → Option Value → Pt → Prop} (hK : Back l R p e below s args y 3 W9 Pre Post)
    {b : Addr} {cellB : Cell} (hcell : T.heap[b]? = some cellB) (hobj : cellB.vm.isStatics = false) (hcls : s.vm.findClass C = some cellB.cls)
    {g : JFrame} (hg : g.method = m) (hsize : g.locals.size = c.maxLocals) {argsL rest : List Value} (hlen : ∀ sig, parseMethodDescriptor y.desc = some sig → argsL.length = sig.parameters.length)
    (hstack : g.stack = argsL.reverse ++ .ref b :: rest) (hW : 2 * g.monitorRoom + (rest.map fun v => v.category).sum ≤ W9) (hdg : decode c.code g.pc = .ok (.invokevirtual index, 3))
    (hpre : ∀ vm₁, s.WarmedH vm₁ → Pre ⟨T.setVm vm₁, locs, cells, slots⟩ (Value.ref b :: argsL).toArray) :
    ∃ (v : Option Value) (vm₁ : Vm) (B : Pt), s.WarmedH vm₁ ∧ Stand p l e R s m args below meth c B.U B.locs B.cells B.slots ∧ Post ⟨T.setVm vm₁, locs, cells, slots⟩ (Value.ref b :: argsL).toArray v B ∧
      ∀ target, Steps p.tables e below (B.U.setTop { g with pc := g.pc + 3, stack := v.toList ++ rest }) target → Steps p.tables e below (T.setTop g) target := by
  obtain ⟨mk, methM, hnamed, hmethM, hstM, habM⟩ := Cond.instanceMethod_spec hinst
  obtain ⟨m8, methM', cM, hn8, hmethM', -, -, -, -, -, -, hsigM⟩ := Cond.codeWith_spec hcode
  cases Option.some.inj (hn8.symm.trans hnamed)
  cases hmethM.symm.trans hmethM'
  obtain ⟨c2, r2, m2, q1, q2, q3, q4, kP, hkP, hkPi⟩ := Cond.selects_spec hsel
  cases hcls.symm.trans q1
  cases (State.methodFound?_of_named hnamed hy).symm.trans q2
  cases hnamed.symm.trans q3
  have hselP : selectMethod e.platform s.vm cellB.cls mk = .method mk := by rw [Launch.admits_selectMethod X.admits]; exact q4
  obtain ⟨vm₁, X₁, hstep₁⟩ := X.invokevirtual hexec hown hlink hnamed hmethM hstM hkP hkPi hy (a := b) (cell := cellB) hcell
    (fun z h => by rw [h] at hobj; cases hobj) hselP hmethM habM hkP hkPi (g := g) hg (argsL := argsL) (rest := rest) (hlen _ hsigM) hstack hdg
  obtain ⟨v, B, X', hpost, hsteps⟩ := hK m meth c ⟨T.setVm vm₁, locs, cells, slots⟩ { g with stack := rest } (.invokevirtual index) mk (Value.ref b :: argsL).toArray X₁ hg hsize hdg hW (X₁.named hnamed) (hpre vm₁ X₁.warmed)
  exact ⟨v, vm₁, B, X₁.warmed, X', hpost, fun target h => hstep₁ _ fun acts => by rw [doInvoke_state]; exact hsteps.trans h⟩
abbrev vx_CVW (R : Room) (s : State) (args : Array Value) (own C : String) (index : Nat) (y : MethodName) (bytes : ByteArray) (maxL : Nat) (ret : Option FieldType) (hh : List (Nat × Nat × Nat × Nat)) (ws : List Cond) (rm : Room) (mc ms n : Nat) : Prop :=
  (rm.cells = mc ∧ rm.slots = ms ∧ rm.frames + 1 ≤ R.frames ∧ 8 + (maxL + 11) + rm.locals ≤ R.locals ∧ (∀ w ∈ ws, ∀ (a' : Array Value) (U : State), s.WarmedH U.vm → w.before a' U = true) ∧ Cond.codeWith y bytes maxL ret hh ∈ ws) ∧
  (Cond.codeWith y bytes maxL ret hh).before args s = true ∧ (Cond.initialized y.cls).before args s = true ∧ (y.cls ≠ "java/lang/invoke/MethodHandle" ∧ y.cls ≠ "java/lang/invoke/VarHandle") ∧
  (∀ sig, parseMethodDescriptor y.desc = some sig → n = sig.parameters.length) ∧ (Cond.methodLink own index y).before args s = true ∧ (Cond.instanceMethod y).before args s = true ∧ (Cond.selects C y y).before args s = true
theorem vx_cwVW {own C : String} {index maxL mc ms : Nat} {y : MethodName} {bytes : ByteArray} {ret : Option FieldType} {hh : List (Nat × Nat × Nat × Nat)} {Ts ws ws' : List Cond} {rm : Room} (n : Nat) (ht : ∀ w ∈ Ts, w.before args s = true) (hT : GoodIn Ts (wsV own index C y ws)) (hw : ws = Cond.codeWith y bytes maxL ret hh :: ws') (hrc : rm.cells = mc) (hrs : rm.slots = ms)
    (hd : y.cls = C ∧ y.cls ≠ "java/lang/invoke/MethodHandle" ∧ y.cls ≠ "java/lang/invoke/VarHandle" ∧ (parseMethodDescriptor y.desc).map (fun d => d.parameters.length) = some n) (hR : rm.frames + 1 ≤ R.frames ∧ 8 + (maxL + 11) + rm.locals ≤ R.locals) :
    vx_CVW R s args own C index y bytes maxL ret hh ws rm mc ms n := by
  obtain ⟨hC, hd⟩ := hd
  subst hC
  have ok : ∀ w ∈ wsV own index y.cls y ws, w.before args s = true := fun w h => ht w (hT w h).1
  have hG : GoodIn Ts ws := fun w h => hT w (by unfold wsV; exact List.mem_append_right _ h)
  have hc : Cond.codeWith y bytes maxL ret hh ∈ ws := by rw [hw]; exact List.mem_cons_self
  refine ⟨⟨hrc, hrs, hR.1, hR.2, pay_in ht hG, hc⟩, ht _ (hG _ hc).1, ok _ (by simp [wsV]), ⟨hd.1, hd.2.1⟩, fun sig h => ?_, ok _ (by simp [wsV]), ok _ (by simp [wsV]), ok _ (by simp [wsV])⟩
  have h2 := hd.2.2
  rw [h] at h2
  exact (Option.some.inj h2).symm
theorem vx_runVW {y : MethodName} {bytes cc : ByteArray} {maxL nL mc ms n index : Nat} {ret : Option FieldType} {hh : List (Nat × Nat × Nat × Nat)} {ws : List Cond} {rm : Room} {Pc : Array Value → State → Prop} {Qc : Array Value → State → Outcome → State → Prop} {free : Addr → Prop} {Ts : List Cond} {own C : String} {b : Addr} {As rest : List Value} {g : JFrame}
    (S : CallFix p m c cc nL s args Ts own) (hM : Met l y ws rm Pc Qc mc ms free) (cw : vx_CVW R s args own C index y bytes maxL ret hh ws rm mc ms n) (hp : PreV s H C b Pc As)
    (hg : g.method = m) (hn : As.length = n) (hsize : g.locals.size = nL) (hstack : g.stack = As.reverse ++ .ref b :: rest) (hW : 2 * g.monitorRoom + (rest.map fun v => v.category).sum ≤ 8) (hdg : decode cc g.pc = .ok (.invokevirtual index, 3)) (hf : cells + mc ≤ R.cells ∧ slots + ms ≤ R.slots) :
    va_Run p l e R s m args below meth c H locs cells slots mc ms g rest (Qc (Value.ref b :: As).toArray) free := by
  obtain ⟨⟨hrc, hrs, hfr, hlo, hws, hcw⟩, hcode, hini, hy, hlen, hl, hin, hse⟩ := cw
  have hK : Back l R p e below s args y 3 8 (PreOf R mc ms Pc) (PostOf Qc mc ms free) := va_backW (hh := hh) (bytes := bytes) (maxL := maxL) (ret := ret) hM hp.1 hrc hrs hfr hlo hws hcw (fun a' U hW => word_at hW (Or.inl (by first | rfl | simp [Cond.onTables, Cond.keeps, Cond.steady])) hini)
  obtain ⟨hx, hb, hml, ho, -⟩ := S
  obtain ⟨-, ⟨cellB, hcB, hoB, hclB⟩, hPc⟩ := hp
  intro T hT X
  obtain ⟨v, vm₁, ⟨U', l2, c2, s2⟩, hW₁, X', ⟨g', mk, t, L, e1, e2, hq, h1, hL, h2, h3⟩, st⟩ := vx_callVW X hx (C := C) (hh := hh) (bytes := bytes) (maxL := maxL) (ret := ret) ho hl hin hse hcode hy hK (by rw [hT]; exact hcB) hoB hclB hg (hsize.trans hml.symm) (argsL := As) (rest := rest) (fun sig h => hn.trans (hlen sig h)) hstack hW (by rw [hb]; exact hdg)
    (fun vm₁ hW₁ => ⟨hf.1, hf.2, hPc (T.setVm vm₁) hT hW₁⟩)
  dsimp only [Pt.U, Pt.locs, Pt.cells, Pt.slots] at X' e1 e2 h1 h2 h3 st
  subst h1; subst h2; subst h3
  exact ⟨v, (T.setVm vm₁).calling g' mk (Value.ref b :: As).toArray, t, U', L, hT, X', hL, e1, e2, hq, st⟩
section
variable {y : MethodName} {bytes cc : ByteArray} {maxL nL mc ms n index : Nat} {ret : Option FieldType} {ws : List Cond} {rm : Room} {Pc : Array Value → State → Prop} {Qc : Array Value → State → Outcome → State → Prop} {XC : String → State → State → Prop} {free : Addr → Prop} {Ts : List Cond} {own C : String} {b : Addr} {As rest : List Value} {g : JFrame}
theorem vx_runVX {hh : List (Nat × Nat × Nat × Nat)} (S : CallFix p m c cc nL s args Ts own) (hM : vx_Met l y ws rm Pc Qc XC mc ms free) (cw : vx_CVW R s args own C index y bytes maxL ret hh ws rm mc ms n) (hp : PreV s H C b Pc As)
    (hg : g.method = m) (hn : As.length = n) (hsize : g.locals.size = nL) (hstack : g.stack = As.reverse ++ .ref b :: rest) (hW : 2 * g.monitorRoom + (rest.map fun v => v.category).sum ≤ 8) (hdg : decode cc g.pc = .ok (.invokevirtual index, 3)) (hf : cells + mc ≤ R.cells ∧ slots + ms ≤ R.slots) :
    vx_Run p l e R s m args below meth c H locs cells slots mc ms g rest (Qc (Value.ref b :: As).toArray) XC free := by
  obtain ⟨⟨hrc, hrs, hfr, hlo, hws, hcw⟩, hcode, hini, hy, hlen, hl, hin, hse⟩ := cw
  have hK : vx_Back l R p e below s args y 3 8 (PreOf R mc ms Pc) (PostOf Qc mc ms free) (vx_Post XC mc ms free) := vx_backW (hh := hh) (bytes := bytes) (maxL := maxL) (ret := ret) hM hp.1 hrc hrs hfr hlo hws hcw (fun a' U hW => word_at hW (Or.inl (by first | rfl | simp [Cond.onTables, Cond.keeps, Cond.steady])) hini)
  obtain ⟨hx, hb, hml, ho, -⟩ := S
  obtain ⟨-, ⟨cellB, hcB, hoB, hclB⟩, hPc⟩ := hp
  intro T hT X
  rcases vx_callVX X hx (C := C) (hh := hh) (bytes := bytes) (maxL := maxL) (ret := ret) ho hl hin hse hcode hy hK (by rw [hT]; exact hcB) hoB hclB hg (hsize.trans hml.symm) (argsL := As) (rest := rest) (fun sig h => hn.trans (hlen sig h)) hstack hW (by rw [hb]; exact hdg)
    (fun vm₁ hW₁ => ⟨hf.1, hf.2, hPc (T.setVm vm₁) hT hW₁⟩) with ⟨v, vm₁, ⟨U', l2, c2, s2⟩, hW₁, X', ⟨g', mk, t, L, e1, e2, hq, h1, hL, h2, h3⟩, st⟩ | ⟨q, vm₁, ⟨U', l2, c2, s2⟩, hW₁, X', ⟨g', mk, t, L, E, ce, e1, e2, hq, hce, hcv, hcl, h1, hL, h2, h3⟩, st⟩
  · dsimp only [Pt.U, Pt.locs, Pt.cells, Pt.slots] at X' e1 e2 h1 h2 h3 st
    subst h1; subst h2; subst h3
    exact Or.inl ⟨v, (T.setVm vm₁).calling g' mk (Value.ref b :: As).toArray, t, U', L, hT, X', hL, e1, e2, hq, st⟩
  · dsimp only [Pt.U, Pt.locs, Pt.cells, Pt.slots] at X' e1 e2 h1 h2 h3 st hcl
    subst h1; subst h2; subst h3
    exact Or.inr ⟨q, (T.setVm vm₁).calling g' mk (Value.ref b :: As).toArray, t, U', L, E, ce, hT, X', hL, e1, e2, hq, hce, hcv, vx_cls hW₁ hcl, st⟩
theorem vx_runSX {hh : List (Nat × Nat × Nat × Nat)} (S : CallFix p m c cc nL s args Ts own) (hM : vx_Met l y ws rm Pc Qc XC mc ms free) (cw : vx_CSW R s args own index y bytes maxL ret hh ws rm mc ms n) (hp : PreS s H Pc As)
    (hg : g.method = m) (hn : As.length = n) (hsize : g.locals.size = nL) (hstack : g.stack = As.reverse ++ rest) (hW : 2 * g.monitorRoom + (rest.map fun v => v.category).sum ≤ 8) (hdg : decode cc g.pc = .ok (.invokestatic index, 3)) (hf : cells + mc ≤ R.cells ∧ slots + ms ≤ R.slots) :
    vx_Run p l e R s m args below meth c H locs cells slots mc ms g rest (Qc As.toArray) XC free := by
  obtain ⟨⟨hrc, hrs, hfr, hlo, hws, hcw⟩, hcode, hini, hy, hlen, hl, hstt⟩ := cw
  have hK : vx_Back l R p e below s args y 3 8 (PreOf R mc ms Pc) (PostOf Qc mc ms free) (vx_Post XC mc ms free) := vx_backW (hh := hh) (bytes := bytes) (maxL := maxL) (ret := ret) hM hp.1 hrc hrs hfr hlo hws hcw (fun a' U hW => word_at hW (Or.inl (by first | rfl | simp [Cond.onTables, Cond.keeps, Cond.steady])) hini)
  obtain ⟨hx, hb, hml, ho, -⟩ := S
  intro T hT X
  rcases vx_callSX X hx (hh := hh) (bytes := bytes) (maxL := maxL) (ret := ret) ho hl hstt hini hcode hy hK hg (hsize.trans hml.symm) (argsL := As) (rest := rest) (fun sig h => hn.trans (hlen sig h)) hstack hW (by rw [hb]; exact hdg)
    (fun vm₁ hW₁ => ⟨hf.1, hf.2, hp.2 (T.setVm vm₁) hT hW₁⟩) with ⟨v, vm₁, ⟨U', l2, c2, s2⟩, hW₁, X', ⟨g', mk, t, L, e1, e2, hq, h1, hL, h2, h3⟩, st⟩ | ⟨q, vm₁, ⟨U', l2, c2, s2⟩, hW₁, X', ⟨g', mk, t, L, E, ce, e1, e2, hq, hce, hcv, hcl, h1, hL, h2, h3⟩, st⟩
  · dsimp only [Pt.U, Pt.locs, Pt.cells, Pt.slots] at X' e1 e2 h1 h2 h3 st
    subst h1; subst h2; subst h3
    exact Or.inl ⟨v, (T.setVm vm₁).calling g' mk As.toArray, t, U', L, hT, X', hL, e1, e2, hq, st⟩
  · dsimp only [Pt.U, Pt.locs, Pt.cells, Pt.slots] at X' e1 e2 h1 h2 h3 st hcl
    subst h1; subst h2; subst h3
    exact Or.inr ⟨q, (T.setVm vm₁).calling g' mk As.toArray, t, U', L, E, ce, hT, X', hL, e1, e2, hq, hce, hcv, vx_cls hW₁ hcl, st⟩
end
end VXH
theorem vx_ofWH {l : Launch} {y : MethodName} {ws ws' : List Cond} {rm : Room} {Pc : Array Value → State → Prop} {Qc : Array Value → State → Outcome → State → Prop} {XC : String → State → State → Prop} {mc ms : Nat} {free : Addr → Prop} {cc : ByteArray} {maxL : Nat} {ret : Option FieldType} {hh : List (Nat × Nat × Nat × Nat)}
    (hy : plainName y.cls = true) (hw : ws = Cond.codeWith y cc maxL ret hh :: ws')
    (body : ∀ p e s m args below meth c s₁, BodyLoose p l y (headSpec ws rm) cc maxL ret e s m args below meth c s₁ → c.maxLocals = maxL → Pc args s →
      W p l e (headSpec ws rm).room s m args below meth c s.heap [] 0 0 (vx_MQ below Qc XC args s mc ms free) (entryFrame m args maxL)) : vx_Met l y ws rm Pc Qc XC mc ms free := by
  refine MetFree.of_bodyS (code := cc) (maxLocals := maxL) (ret := ret) hy ?_ ?_
  · intro args s m h hn
    obtain ⟨m9, meth, c, hn9, h1, h2, h3, h4, -, h5, h6, -⟩ := Cond.codeWith_spec (atoms_spec (ws := ws) h _ (by rw [hw]; exact List.mem_cons_self))
    cases hn.symm.trans hn9
    exact ⟨meth, c, h1, h2, h3, h4, h5, h6⟩
  · intro p e s m args below meth c s₁ B hml hP _
    have hh0 : s₁.heap = s.heap := by rw [B.state]; rfl
    obtain ⟨t, a1, o, b1, b2, b3⟩ := body p e s m args below meth c s₁ B hml hP s₁ hh0 (Stand.of_body B)
    exact ⟨t, o, a1, b1, b2, b3⟩
/-! ===== END ===== -/
end
section
def RX0 : String := "SignMasons$Book"
def TX0 : u_T := fun k => match k with
  | 0 => ("SignMasons$Book", "places", "LSignMasons$Places;", true)
  | 1 => ("SignMasons$Book", "looks", "[I", true)
  | 2 => ("SignMasons$Book", "meanings", "[I", true)
  | _ => ("SignMasons$Book", "count", "I", false)
def tyX0 : Nat → FieldType := fun k => match k with
  | 0 => .object "SignMasons$Places"
  | 1 => .array .int
  | 2 => .array .int
  | _ => .int
abbrev wsX00 : List Cond := u_ws RX0 TX0 4
theorem nmX0 : ∀ a, a < 4 → ∀ b, b < 4 → a ≠ b → (TX0 a).2.1 ≠ (TX0 b).2.1 := by decide +kernel
theorem tyX0_ok : ∀ k, k < 4 → parseFieldDescriptor (TX0 k).2.2.1 = some (tyX0 k) := by decide +kernel
abbrev cX0_init : ByteArray := prog_2_method_1_code
def yX0_init : MethodName := ⟨RX0, "<init>", "(LSignMasons$Places;)V"⟩
abbrev cX0_hasRoomFor : ByteArray := prog_2_method_3_code
def yX0_hasRoomFor : MethodName := ⟨RX0, "hasRoomFor", "(I)Z"⟩
abbrev cX0_append : ByteArray := prog_2_method_4_code
def yX0_append : MethodName := ⟨RX0, "append", "(II)I"⟩
abbrev cX0_remove : ByteArray := prog_2_method_5_code
def yX0_remove : MethodName := ⟨RX0, "remove", "(I)I"⟩
abbrev cX0_find : ByteArray := prog_2_method_6_code
def yX0_find : MethodName := ⟨RX0, "find", "(I)I"⟩
abbrev cX0_hasAlike : ByteArray := prog_2_method_7_code
def yX0_hasAlike : MethodName := ⟨RX0, "hasAlike", "(I)Z"⟩
abbrev cX0_firstUnlike : ByteArray := prog_2_method_8_code
def yX0_firstUnlike : MethodName := ⟨RX0, "firstUnlike", "(I)I"⟩
abbrev cX0_countAlike : ByteArray := prog_2_method_9_code
def yX0_countAlike : MethodName := ⟨RX0, "countAlike", "()I"⟩
abbrev cX0_countThumbApart : ByteArray := prog_2_method_11_code
def yX0_countThumbApart : MethodName := ⟨RX0, "countThumbApart", "()I"⟩
abbrev cX0_nearestBut : ByteArray := prog_2_method_12_code
def yX0_nearestBut : MethodName := ⟨RX0, "nearestBut", "(II)I"⟩
abbrev cX0_fewestApart : ByteArray := prog_2_method_13_code
def yX0_fewestApart : MethodName := ⟨RX0, "fewestApart", "()I"⟩
abbrev cX0_countNear : ByteArray := prog_2_method_14_code
def yX0_countNear : MethodName := ⟨RX0, "countNear", "(I)I"⟩
abbrev cX0_signNearMost : ByteArray := prog_2_method_15_code
def yX0_signNearMost : MethodName := ⟨RX0, "signNearMost", "()I"⟩
abbrev cX0_meaningRead : ByteArray := prog_2_method_17_code
def yX0_meaningRead : MethodName := ⟨RX0, "meaningRead", "(I)I"⟩
abbrev cX0_countUnderstood : ByteArray := prog_2_method_18_code
def yX0_countUnderstood : MethodName := ⟨RX0, "countUnderstood", "(LSignMasons$Book;)I"⟩
abbrev cX0_countMisread : ByteArray := prog_2_method_19_code
def yX0_countMisread : MethodName := ⟨RX0, "countMisread", "(LSignMasons$Book;)I"⟩
abbrev cX0_countCommon : ByteArray := prog_2_method_20_code
def yX0_countCommon : MethodName := ⟨RX0, "countCommon", "(LSignMasons$Book;)I"⟩
def RX1 : String := "SignMasons$Look"
def TX1 : u_T := fun k => match k with
  | _ => ("", "", "", false)
def tyX1 : Nat → FieldType := fun k => match k with
  | _ => .int
abbrev wsX10 : List Cond := u_ws RX1 TX1 0
theorem nmX1 : ∀ a, a < 0 → ∀ b, b < 0 → a ≠ b → (TX1 a).2.1 ≠ (TX1 b).2.1 := by decide +kernel
theorem tyX1_ok : ∀ k, k < 0 → parseFieldDescriptor (TX1 k).2.2.1 = some (tyX1 k) := by decide +kernel
abbrev cX1_of : ByteArray := prog_3_method_2_code
def yX1_of : MethodName := ⟨RX1, "of", "(IIII)I"⟩
abbrev cX1_shape : ByteArray := prog_3_method_3_code
def yX1_shape : MethodName := ⟨RX1, "shape", "(I)I"⟩
abbrev cX1_thumb : ByteArray := prog_3_method_4_code
def yX1_thumb : MethodName := ⟨RX1, "thumb", "(I)I"⟩
abbrev cX1_movement : ByteArray := prog_3_method_5_code
def yX1_movement : MethodName := ⟨RX1, "movement", "(I)I"⟩
abbrev cX1_place : ByteArray := prog_3_method_6_code
def yX1_place : MethodName := ⟨RX1, "place", "(I)I"⟩
abbrev cX1_withThumb : ByteArray := prog_3_method_7_code
def yX1_withThumb : MethodName := ⟨RX1, "withThumb", "(II)I"⟩
abbrev cX1_sameButForPlace : ByteArray := prog_3_method_8_code
def yX1_sameButForPlace : MethodName := ⟨RX1, "sameButForPlace", "(II)Z"⟩
def RX2 : String := "SignMasons$Places"
def TX2 : u_T := fun k => match k with
  | 0 => ("SignMasons$Places", "groupAt", "[I", true)
  | _ => ("SignMasons$Places", "groupCount", "I", false)
def tyX2 : Nat → FieldType := fun k => match k with
  | 0 => .array .int
  | _ => .int
abbrev wsX20 : List Cond := u_ws RX2 TX2 2
theorem nmX2 : ∀ a, a < 2 → ∀ b, b < 2 → a ≠ b → (TX2 a).2.1 ≠ (TX2 b).2.1 := by decide +kernel
theorem tyX2_ok : ∀ k, k < 2 → parseFieldDescriptor (TX2 k).2.2.1 = some (tyX2 k) := by decide +kernel
abbrev cX2_init : ByteArray := prog_4_method_1_code
def yX2_init : MethodName := ⟨RX2, "<init>", "()V"⟩
abbrev cX2_unite : ByteArray := prog_4_method_2_code
def yX2_unite : MethodName := ⟨RX2, "unite", "(II)V"⟩
abbrev cX2_sameGroup : ByteArray := prog_4_method_3_code
def yX2_sameGroup : MethodName := ⟨RX2, "sameGroup", "(II)Z"⟩
abbrev cX2_stepsBetween : ByteArray := prog_4_method_5_code
def yX2_stepsBetween : MethodName := ⟨RX2, "stepsBetween", "(II)I"⟩
abbrev cX2_alike : ByteArray := prog_4_method_6_code
def yX2_alike : MethodName := ⟨RX2, "alike", "(II)Z"⟩
abbrev cX2_distance : ByteArray := prog_4_method_8_code
def yX2_distance : MethodName := ⟨RX2, "distance", "(II)I"⟩
def RX3 : String := "SignMasons"
def TX3 : u_T := fun k => match k with
  | 0 => ("SignMasons", "places", "LSignMasons$Places;", true)
  | 1 => ("SignMasons", "books", "[LSignMasons$Book;", true)
  | 2 => ("SignMasons", "trial", "LSignMasons$Book;", true)
  | _ => ("SignMasons", "lodgeCount", "I", false)
def tyX3 : Nat → FieldType := fun k => match k with
  | 0 => .object "SignMasons$Places"
  | 1 => .array (.object "SignMasons$Book")
  | 2 => .object "SignMasons$Book"
  | _ => .int
abbrev wsX30 : List Cond := u_ws RX3 TX3 4
theorem nmX3 : ∀ a, a < 4 → ∀ b, b < 4 → a ≠ b → (TX3 a).2.1 ≠ (TX3 b).2.1 := by decide +kernel
theorem tyX3_ok : ∀ k, k < 4 → parseFieldDescriptor (TX3 k).2.2.1 = some (tyX3 k) := by decide +kernel
abbrev cX3_init : ByteArray := prog_1_method_1_code
def yX3_init : MethodName := ⟨RX3, "<init>", "()V"⟩
abbrev cX3_addLodge : ByteArray := prog_1_method_2_code
def yX3_addLodge : MethodName := ⟨RX3, "addLodge", "()I"⟩
abbrev cX3_addSign : ByteArray := prog_1_method_3_code
def yX3_addSign : MethodName := ⟨RX3, "addSign", "(IIIIII)I"⟩
abbrev cX3_forget : ByteArray := prog_1_method_4_code
def yX3_forget : MethodName := ⟨RX3, "forget", "(II)I"⟩
abbrev cX3_setThumb : ByteArray := prog_1_method_5_code
def yX3_setThumb : MethodName := ⟨RX3, "setThumb", "(III)I"⟩
abbrev cX3_join : ByteArray := prog_1_method_6_code
def yX3_join : MethodName := ⟨RX3, "join", "(II)I"⟩
abbrev cX3_borrow : ByteArray := prog_1_method_7_code
def yX3_borrow : MethodName := ⟨RX3, "borrow", "(III)I"⟩
abbrev cX3_groups : ByteArray := prog_1_method_8_code
def yX3_groups : MethodName := ⟨RX3, "groups", "()I"⟩
abbrev cX3_areJoined : ByteArray := prog_1_method_9_code
def yX3_areJoined : MethodName := ⟨RX3, "areJoined", "(II)Z"⟩
abbrev cX3_steps : ByteArray := prog_1_method_10_code
def yX3_steps : MethodName := ⟨RX3, "steps", "(II)I"⟩
abbrev cX3_lodges : ByteArray := prog_1_method_11_code
def yX3_lodges : MethodName := ⟨RX3, "lodges", "()I"⟩
abbrev cX3_signsOf : ByteArray := prog_1_method_12_code
def yX3_signsOf : MethodName := ⟨RX3, "signsOf", "(I)I"⟩
abbrev cX3_shapeOf : ByteArray := prog_1_method_13_code
def yX3_shapeOf : MethodName := ⟨RX3, "shapeOf", "(II)I"⟩
abbrev cX3_thumbOf : ByteArray := prog_1_method_14_code
def yX3_thumbOf : MethodName := ⟨RX3, "thumbOf", "(II)I"⟩
abbrev cX3_placeOf : ByteArray := prog_1_method_15_code
def yX3_placeOf : MethodName := ⟨RX3, "placeOf", "(II)I"⟩
abbrev cX3_meaningOf : ByteArray := prog_1_method_16_code
def yX3_meaningOf : MethodName := ⟨RX3, "meaningOf", "(II)I"⟩
abbrev cX3_signFor : ByteArray := prog_1_method_17_code
def yX3_signFor : MethodName := ⟨RX3, "signFor", "(II)I"⟩
abbrev cX3_apart : ByteArray := prog_1_method_18_code
def yX3_apart : MethodName := ⟨RX3, "apart", "(III)I"⟩
abbrev cX3_alikePairs : ByteArray := prog_1_method_19_code
def yX3_alikePairs : MethodName := ⟨RX3, "alikePairs", "(I)I"⟩
abbrev cX3_thumbPairs : ByteArray := prog_1_method_20_code
def yX3_thumbPairs : MethodName := ⟨RX3, "thumbPairs", "(I)I"⟩
abbrev cX3_closest : ByteArray := prog_1_method_21_code
def yX3_closest : MethodName := ⟨RX3, "closest", "(I)I"⟩
abbrev cX3_mostMistaken : ByteArray := prog_1_method_22_code
def yX3_mostMistaken : MethodName := ⟨RX3, "mostMistaken", "(I)I"⟩
abbrev cX3_read : ByteArray := prog_1_method_23_code
def yX3_read : MethodName := ⟨RX3, "read", "(III)I"⟩
abbrev cX3_understood : ByteArray := prog_1_method_25_code
def yX3_understood : MethodName := ⟨RX3, "understood", "(II)I"⟩
abbrev cX3_misread : ByteArray := prog_1_method_26_code
def yX3_misread : MethodName := ⟨RX3, "misread", "(II)I"⟩
abbrev cX3_common : ByteArray := prog_1_method_27_code
def yX3_common : MethodName := ⟨RX3, "common", "(II)I"⟩
abbrev cX3_meanSigns : ByteArray := prog_1_method_31_code
def yX3_meanSigns : MethodName := ⟨RX3, "meanSigns", "()D"⟩
abbrev cX3_isBelow : ByteArray := prog_1_method_37_code
def yX3_isBelow : MethodName := ⟨RX3, "isBelow", "(II)Z"⟩
abbrev cX3_bookOf : ByteArray := prog_1_method_38_code
def yX3_bookOf : MethodName := ⟨RX3, "bookOf", "(I)LSignMasons$Book;"⟩
abbrev cX3_lookOf : ByteArray := prog_1_method_39_code
def yX3_lookOf : MethodName := ⟨RX3, "lookOf", "(II)I"⟩
abbrev cX3_checkSign : ByteArray := prog_1_method_40_code
def yX3_checkSign : MethodName := ⟨RX3, "checkSign", "(LSignMasons$Book;I)V"⟩
abbrev cX3_checkPlace : ByteArray := prog_1_method_41_code
def yX3_checkPlace : MethodName := ⟨RX3, "checkPlace", "(I)V"⟩
abbrev cX3_checkLook : ByteArray := prog_1_method_42_code
def yX3_checkLook : MethodName := ⟨RX3, "checkLook", "(IIII)V"⟩
def RX4 : String := "SignMasonsLaw$Sim"
def TX4 : u_T := fun k => match k with
  | 0 => ("SignMasonsLaw$Sim", "books", "[[[I", false)
  | _ => ("SignMasonsLaw$Sim", "joined", "[[Z", false)
def tyX4 : Nat → FieldType := fun k => match k with
  | 0 => .array (.array (.array .int))
  | _ => .array (.array .boolean)
abbrev wsX40 : List Cond := u_ws RX4 TX4 2
theorem nmX4 : ∀ a, a < 2 → ∀ b, b < 2 → a ≠ b → (TX4 a).2.1 ≠ (TX4 b).2.1 := by decide +kernel
theorem tyX4_ok : ∀ k, k < 2 → parseFieldDescriptor (TX4 k).2.2.1 = some (tyX4 k) := by decide +kernel
abbrev cX4_init : ByteArray := prog_6_method_1_code
def yX4_init : MethodName := ⟨RX4, "<init>", "()V"⟩
abbrev cX4_addLodge : ByteArray := prog_6_method_2_code
def yX4_addLodge : MethodName := ⟨RX4, "addLodge", "()V"⟩
abbrev cX4_add : ByteArray := prog_6_method_3_code
def yX4_add : MethodName := ⟨RX4, "add", "(I[I)V"⟩
abbrev cX4_remove : ByteArray := prog_6_method_4_code
def yX4_remove : MethodName := ⟨RX4, "remove", "(II)V"⟩
abbrev cX4_join : ByteArray := prog_6_method_5_code
def yX4_join : MethodName := ⟨RX4, "join", "(II)V"⟩
abbrev cX4_groups : ByteArray := prog_6_method_6_code
def yX4_groups : MethodName := ⟨RX4, "groups", "()I"⟩
abbrev cX4_steps : ByteArray := prog_6_method_7_code
def yX4_steps : MethodName := ⟨RX4, "steps", "(II)I"⟩
abbrev cX4_far : ByteArray := prog_6_method_8_code
def yX4_far : MethodName := ⟨RX4, "far", "([I[I)I"⟩
abbrev cX4_read : ByteArray := prog_6_method_9_code
def yX4_read : MethodName := ⟨RX4, "read", "([II)I"⟩
abbrev cX4_signFor : ByteArray := prog_6_method_10_code
def yX4_signFor : MethodName := ⟨RX4, "signFor", "(II)I"⟩
abbrev cX4_borrowed : ByteArray := prog_6_method_11_code
def yX4_borrowed : MethodName := ⟨RX4, "borrowed", "([II)[I"⟩
abbrev cX4_alike : ByteArray := prog_6_method_12_code
def yX4_alike : MethodName := ⟨RX4, "alike", "(I)I"⟩
abbrev cX4_understood : ByteArray := prog_6_method_13_code
def yX4_understood : MethodName := ⟨RX4, "understood", "(II)I"⟩
abbrev cX4_isSame : ByteArray := prog_6_method_14_code
def yX4_isSame : MethodName := ⟨RX4, "isSame", "(LSignMasons;)Z"⟩
def RX5 : String := "SignMasonsModel"
def TX5 : u_T := fun k => match k with
  | _ => ("", "", "", false)
def tyX5 : Nat → FieldType := fun k => match k with
  | _ => .int
abbrev wsX50 : List Cond := u_ws RX5 TX5 0
theorem nmX5 : ∀ a, a < 0 → ∀ b, b < 0 → a ≠ b → (TX5 a).2.1 ≠ (TX5 b).2.1 := by decide +kernel
theorem tyX5_ok : ∀ k, k < 0 → parseFieldDescriptor (TX5 k).2.2.1 = some (tyX5 k) := by decide +kernel
def RJ6 : String := "java/lang/Integer"
def TJ6 : u_T := fun k => match k with
  | _ => ("", "", "", false)
def tyJ6 : Nat → FieldType := fun k => match k with
  | _ => .int
abbrev wsJ60 : List Cond := u_ws RJ6 TJ6 0
theorem nmJ6 : ∀ a, a < 0 → ∀ b, b < 0 → a ≠ b → (TJ6 a).2.1 ≠ (TJ6 b).2.1 := by decide +kernel
theorem tyJ6_ok : ∀ k, k < 0 → parseFieldDescriptor (TJ6 k).2.2.1 = some (tyJ6 k) := by decide +kernel
abbrev cJ6_bitCount_0f7a4 : ByteArray := prog_12_method_49_code
def yJ6_bitCount_0f7a4 : MethodName := ⟨RJ6, "bitCount", "(I)I"⟩
def RJ9 : String := "java/lang/Math"
def TJ9 : u_T := fun k => match k with
  | _ => ("", "", "", false)
def tyJ9 : Nat → FieldType := fun k => match k with
  | _ => .int
abbrev wsJ90 : List Cond := u_ws RJ9 TJ9 0
theorem nmJ9 : ∀ a, a < 0 → ∀ b, b < 0 → a ≠ b → (TJ9 a).2.1 ≠ (TJ9 b).2.1 := by decide +kernel
theorem tyJ9_ok : ∀ k, k < 0 → parseFieldDescriptor (TJ9 k).2.2.1 = some (tyJ9 k) := by decide +kernel
abbrev cJ9_abs_0f7a4 : ByteArray := prog_13_method_59_code
def yJ9_abs_0f7a4 : MethodName := ⟨RJ9, "abs", "(I)I"⟩
abbrev cJ9_min_7cf53 : ByteArray := prog_13_method_69_code
def yJ9_min_7cf53 : MethodName := ⟨RJ9, "min", "(II)I"⟩
def RJ0 : String := "java/lang/String"
def TJ0 : u_T := fun k => match k with
  | _ => ("", "", "", false)
def tyJ0 : Nat → FieldType := fun k => match k with
  | _ => .int
abbrev wsJ00 : List Cond := u_ws RJ0 TJ0 0
theorem nmJ0 : ∀ a, a < 0 → ∀ b, b < 0 → a ≠ b → (TJ0 a).2.1 ≠ (TJ0 b).2.1 := by decide +kernel
theorem tyJ0_ok : ∀ k, k < 0 → parseFieldDescriptor (TJ0 k).2.2.1 = some (tyJ0 k) := by decide +kernel
def RL : String := "SignMasonsLaw"
abbrev cL_below : ByteArray := method_2_code
def yL_below : MethodName := ⟨RL, "below", "(II)I"⟩
abbrev cL_cell : ByteArray := method_3_code
def yL_cell : MethodName := ⟨RL, "cell", "([II)I"⟩
abbrev cL_act : ByteArray := method_4_code
def yL_act : MethodName := ⟨RL, "act", "(LSignMasons;LSignMasonsLaw$Sim;I)Z"⟩
abbrev cL_build : ByteArray := method_5_code
def yL_build : MethodName := ⟨RL, "build", "(LSignMasons;[I)LSignMasonsLaw$Sim;"⟩
abbrev cL_law : ByteArray := code
def yL_law : MethodName := ⟨RL, "law", "([I)Z"⟩
abbrev vwCl : List vw_C := [(RX0, TX0, 4), (RX2, TX2, 2), (RX3, TX3, 4), (RX4, TX4, 2)]
end
section
theorem dX0_init_0 : decode cX0_init 0 = .ok (.aload_n 0, 1) := by decide +kernel
theorem dX0_init_1 : decode cX0_init 1 = .ok (.invokespecial 3, 3) := by decide +kernel
theorem dX0_init_4 : decode cX0_init 4 = .ok (.aload_n 0, 1) := by decide +kernel
theorem dX0_init_5 : decode cX0_init 5 = .ok (.aload_n 1, 1) := by decide +kernel
theorem dX0_init_6 : decode cX0_init 6 = .ok (.putfield 9, 3) := by decide +kernel
theorem dX0_init_9 : decode cX0_init 9 = .ok (.aload_n 0, 1) := by decide +kernel
theorem dX0_init_10 : decode cX0_init 10 = .ok (.bipush 16, 2) := by decide +kernel
theorem dX0_init_12 : decode cX0_init 12 = .ok (.newarray .int, 2) := by decide +kernel
theorem dX0_init_14 : decode cX0_init 14 = .ok (.putfield 15, 3) := by decide +kernel
theorem dX0_init_17 : decode cX0_init 17 = .ok (.aload_n 0, 1) := by decide +kernel
theorem dX0_init_18 : decode cX0_init 18 = .ok (.bipush 16, 2) := by decide +kernel
theorem dX0_init_20 : decode cX0_init 20 = .ok (.newarray .int, 2) := by decide +kernel
theorem dX0_init_22 : decode cX0_init 22 = .ok (.putfield 19, 3) := by decide +kernel
theorem dX0_init_25 : decode cX0_init 25 = .ok (.aload_n 0, 1) := by decide +kernel
theorem dX0_init_26 : decode cX0_init 26 = .ok (.iconst 0, 1) := by decide +kernel
theorem dX0_init_27 : decode cX0_init 27 = .ok (.putfield 22, 3) := by decide +kernel
theorem dX0_init_30 : decode cX0_init 30 = .ok (.return_, 1) := by decide +kernel
theorem dX0_hasRoomFor_0 : decode cX0_hasRoomFor 0 = .ok (.aload_n 0, 1) := by decide +kernel
theorem dX0_hasRoomFor_1 : decode cX0_hasRoomFor 1 = .ok (.getfield 22, 3) := by decide +kernel
theorem dX0_hasRoomFor_4 : decode cX0_hasRoomFor 4 = .ok (.bipush 16, 2) := by decide +kernel
theorem dX0_hasRoomFor_6 : decode cX0_hasRoomFor 6 = .ok (.if_icmp .ge 16, 3) := by decide +kernel
theorem dX0_hasRoomFor_9 : decode cX0_hasRoomFor 9 = .ok (.aload_n 0, 1) := by decide +kernel
theorem dX0_hasRoomFor_10 : decode cX0_hasRoomFor 10 = .ok (.iload_n 1, 1) := by decide +kernel
theorem dX0_hasRoomFor_11 : decode cX0_hasRoomFor 11 = .ok (.invokevirtual 32, 3) := by decide +kernel
theorem dX0_hasRoomFor_14 : decode cX0_hasRoomFor 14 = .ok (.iconst (-1), 1) := by decide +kernel
theorem dX0_hasRoomFor_15 : decode cX0_hasRoomFor 15 = .ok (.if_icmp .ne 7, 3) := by decide +kernel
theorem dX0_hasRoomFor_18 : decode cX0_hasRoomFor 18 = .ok (.iconst 1, 1) := by decide +kernel
theorem dX0_hasRoomFor_19 : decode cX0_hasRoomFor 19 = .ok (.goto 4, 3) := by decide +kernel
theorem dX0_hasRoomFor_22 : decode cX0_hasRoomFor 22 = .ok (.iconst 0, 1) := by decide +kernel
theorem dX0_hasRoomFor_23 : decode cX0_hasRoomFor 23 = .ok (.ireturn, 1) := by decide +kernel
theorem dX0_append_0 : decode cX0_append 0 = .ok (.aload_n 0, 1) := by decide +kernel
theorem dX0_append_1 : decode cX0_append 1 = .ok (.getfield 22, 3) := by decide +kernel
theorem dX0_append_4 : decode cX0_append 4 = .ok (.istore_n 3, 1) := by decide +kernel
theorem dX0_append_5 : decode cX0_append 5 = .ok (.iload_n 3, 1) := by decide +kernel
theorem dX0_append_6 : decode cX0_append 6 = .ok (.bipush 16, 2) := by decide +kernel
theorem dX0_append_8 : decode cX0_append 8 = .ok (.if_icmp .lt 5, 3) := by decide +kernel
theorem dX0_append_11 : decode cX0_append 11 = .ok (.iconst (-1), 1) := by decide +kernel
theorem dX0_append_12 : decode cX0_append 12 = .ok (.ireturn, 1) := by decide +kernel
theorem dX0_append_13 : decode cX0_append 13 = .ok (.aload_n 0, 1) := by decide +kernel
theorem dX0_append_14 : decode cX0_append 14 = .ok (.getfield 15, 3) := by decide +kernel
theorem dX0_append_17 : decode cX0_append 17 = .ok (.iload_n 3, 1) := by decide +kernel
theorem dX0_append_18 : decode cX0_append 18 = .ok (.iload_n 1, 1) := by decide +kernel
theorem dX0_append_19 : decode cX0_append 19 = .ok (.iastore, 1) := by decide +kernel
theorem dX0_append_20 : decode cX0_append 20 = .ok (.aload_n 0, 1) := by decide +kernel
theorem dX0_append_21 : decode cX0_append 21 = .ok (.getfield 19, 3) := by decide +kernel
theorem dX0_append_24 : decode cX0_append 24 = .ok (.iload_n 3, 1) := by decide +kernel
theorem dX0_append_25 : decode cX0_append 25 = .ok (.iload_n 2, 1) := by decide +kernel
theorem dX0_append_26 : decode cX0_append 26 = .ok (.iastore, 1) := by decide +kernel
theorem dX0_append_27 : decode cX0_append 27 = .ok (.aload_n 0, 1) := by decide +kernel
theorem dX0_append_28 : decode cX0_append 28 = .ok (.dup, 1) := by decide +kernel
theorem dX0_append_29 : decode cX0_append 29 = .ok (.getfield 22, 3) := by decide +kernel
theorem dX0_append_32 : decode cX0_append 32 = .ok (.iconst 1, 1) := by decide +kernel
theorem dX0_append_33 : decode cX0_append 33 = .ok (.iadd, 1) := by decide +kernel
theorem dX0_append_34 : decode cX0_append 34 = .ok (.putfield 22, 3) := by decide +kernel
theorem dX0_append_37 : decode cX0_append 37 = .ok (.iload_n 3, 1) := by decide +kernel
theorem dX0_append_38 : decode cX0_append 38 = .ok (.ireturn, 1) := by decide +kernel
theorem dX0_remove_0 : decode cX0_remove 0 = .ok (.aload_n 0, 1) := by decide +kernel
theorem dX0_remove_1 : decode cX0_remove 1 = .ok (.getfield 19, 3) := by decide +kernel
theorem dX0_remove_4 : decode cX0_remove 4 = .ok (.iload_n 1, 1) := by decide +kernel
theorem dX0_remove_5 : decode cX0_remove 5 = .ok (.iaload, 1) := by decide +kernel
theorem dX0_remove_6 : decode cX0_remove 6 = .ok (.istore_n 2, 1) := by decide +kernel
theorem dX0_remove_7 : decode cX0_remove 7 = .ok (.iload_n 1, 1) := by decide +kernel
theorem dX0_remove_8 : decode cX0_remove 8 = .ok (.iconst 1, 1) := by decide +kernel
theorem dX0_remove_9 : decode cX0_remove 9 = .ok (.iadd, 1) := by decide +kernel
theorem dX0_remove_10 : decode cX0_remove 10 = .ok (.istore_n 3, 1) := by decide +kernel
theorem dX0_remove_11 : decode cX0_remove 11 = .ok (.iload_n 3, 1) := by decide +kernel
theorem dX0_remove_12 : decode cX0_remove 12 = .ok (.aload_n 0, 1) := by decide +kernel
theorem dX0_remove_13 : decode cX0_remove 13 = .ok (.getfield 22, 3) := by decide +kernel
theorem dX0_remove_16 : decode cX0_remove 16 = .ok (.if_icmp .ge 37, 3) := by decide +kernel
theorem dX0_remove_19 : decode cX0_remove 19 = .ok (.aload_n 0, 1) := by decide +kernel
theorem dX0_remove_20 : decode cX0_remove 20 = .ok (.getfield 15, 3) := by decide +kernel
theorem dX0_remove_23 : decode cX0_remove 23 = .ok (.iload_n 3, 1) := by decide +kernel
theorem dX0_remove_24 : decode cX0_remove 24 = .ok (.iconst 1, 1) := by decide +kernel
theorem dX0_remove_25 : decode cX0_remove 25 = .ok (.isub, 1) := by decide +kernel
theorem dX0_remove_26 : decode cX0_remove 26 = .ok (.aload_n 0, 1) := by decide +kernel
theorem dX0_remove_27 : decode cX0_remove 27 = .ok (.getfield 15, 3) := by decide +kernel
theorem dX0_remove_30 : decode cX0_remove 30 = .ok (.iload_n 3, 1) := by decide +kernel
theorem dX0_remove_31 : decode cX0_remove 31 = .ok (.iaload, 1) := by decide +kernel
theorem dX0_remove_32 : decode cX0_remove 32 = .ok (.iastore, 1) := by decide +kernel
theorem dX0_remove_33 : decode cX0_remove 33 = .ok (.aload_n 0, 1) := by decide +kernel
theorem dX0_remove_34 : decode cX0_remove 34 = .ok (.getfield 19, 3) := by decide +kernel
theorem dX0_remove_37 : decode cX0_remove 37 = .ok (.iload_n 3, 1) := by decide +kernel
theorem dX0_remove_38 : decode cX0_remove 38 = .ok (.iconst 1, 1) := by decide +kernel
theorem dX0_remove_39 : decode cX0_remove 39 = .ok (.isub, 1) := by decide +kernel
theorem dX0_remove_40 : decode cX0_remove 40 = .ok (.aload_n 0, 1) := by decide +kernel
theorem dX0_remove_41 : decode cX0_remove 41 = .ok (.getfield 19, 3) := by decide +kernel
theorem dX0_remove_44 : decode cX0_remove 44 = .ok (.iload_n 3, 1) := by decide +kernel
theorem dX0_remove_45 : decode cX0_remove 45 = .ok (.iaload, 1) := by decide +kernel
theorem dX0_remove_46 : decode cX0_remove 46 = .ok (.iastore, 1) := by decide +kernel
theorem dX0_remove_47 : decode cX0_remove 47 = .ok (.iinc 3 1, 3) := by decide +kernel
theorem dX0_remove_50 : decode cX0_remove 50 = .ok (.goto (-39), 3) := by decide +kernel
theorem dX0_remove_53 : decode cX0_remove 53 = .ok (.aload_n 0, 1) := by decide +kernel
theorem dX0_remove_54 : decode cX0_remove 54 = .ok (.dup, 1) := by decide +kernel
theorem dX0_remove_55 : decode cX0_remove 55 = .ok (.getfield 22, 3) := by decide +kernel
theorem dX0_remove_58 : decode cX0_remove 58 = .ok (.iconst 1, 1) := by decide +kernel
theorem dX0_remove_59 : decode cX0_remove 59 = .ok (.isub, 1) := by decide +kernel
theorem dX0_remove_60 : decode cX0_remove 60 = .ok (.putfield 22, 3) := by decide +kernel
theorem dX0_remove_63 : decode cX0_remove 63 = .ok (.iload_n 2, 1) := by decide +kernel
theorem dX0_remove_64 : decode cX0_remove 64 = .ok (.ireturn, 1) := by decide +kernel
theorem dX0_find_0 : decode cX0_find 0 = .ok (.iconst 0, 1) := by decide +kernel
theorem dX0_find_1 : decode cX0_find 1 = .ok (.istore_n 2, 1) := by decide +kernel
theorem dX0_find_2 : decode cX0_find 2 = .ok (.iload_n 2, 1) := by decide +kernel
theorem dX0_find_3 : decode cX0_find 3 = .ok (.aload_n 0, 1) := by decide +kernel
theorem dX0_find_4 : decode cX0_find 4 = .ok (.getfield 22, 3) := by decide +kernel
theorem dX0_find_7 : decode cX0_find 7 = .ok (.if_icmp .ge 21, 3) := by decide +kernel
theorem dX0_find_10 : decode cX0_find 10 = .ok (.aload_n 0, 1) := by decide +kernel
theorem dX0_find_11 : decode cX0_find 11 = .ok (.getfield 19, 3) := by decide +kernel
theorem dX0_find_14 : decode cX0_find 14 = .ok (.iload_n 2, 1) := by decide +kernel
theorem dX0_find_15 : decode cX0_find 15 = .ok (.iaload, 1) := by decide +kernel
theorem dX0_find_16 : decode cX0_find 16 = .ok (.iload_n 1, 1) := by decide +kernel
theorem dX0_find_17 : decode cX0_find 17 = .ok (.if_icmp .ne 5, 3) := by decide +kernel
theorem dX0_find_20 : decode cX0_find 20 = .ok (.iload_n 2, 1) := by decide +kernel
theorem dX0_find_21 : decode cX0_find 21 = .ok (.ireturn, 1) := by decide +kernel
theorem dX0_find_22 : decode cX0_find 22 = .ok (.iinc 2 1, 3) := by decide +kernel
theorem dX0_find_25 : decode cX0_find 25 = .ok (.goto (-23), 3) := by decide +kernel
theorem dX0_find_28 : decode cX0_find 28 = .ok (.iconst (-1), 1) := by decide +kernel
theorem dX0_find_29 : decode cX0_find 29 = .ok (.ireturn, 1) := by decide +kernel
theorem dX0_hasAlike_0 : decode cX0_hasAlike 0 = .ok (.iconst 0, 1) := by decide +kernel
theorem dX0_hasAlike_1 : decode cX0_hasAlike 1 = .ok (.istore_n 2, 1) := by decide +kernel
theorem dX0_hasAlike_2 : decode cX0_hasAlike 2 = .ok (.iload_n 2, 1) := by decide +kernel
theorem dX0_hasAlike_3 : decode cX0_hasAlike 3 = .ok (.aload_n 0, 1) := by decide +kernel
theorem dX0_hasAlike_4 : decode cX0_hasAlike 4 = .ok (.getfield 22, 3) := by decide +kernel
theorem dX0_hasAlike_7 : decode cX0_hasAlike 7 = .ok (.if_icmp .ge 28, 3) := by decide +kernel
theorem dX0_hasAlike_10 : decode cX0_hasAlike 10 = .ok (.aload_n 0, 1) := by decide +kernel
theorem dX0_hasAlike_11 : decode cX0_hasAlike 11 = .ok (.getfield 9, 3) := by decide +kernel
theorem dX0_hasAlike_14 : decode cX0_hasAlike 14 = .ok (.iload_n 1, 1) := by decide +kernel
theorem dX0_hasAlike_15 : decode cX0_hasAlike 15 = .ok (.aload_n 0, 1) := by decide +kernel
theorem dX0_hasAlike_16 : decode cX0_hasAlike 16 = .ok (.getfield 15, 3) := by decide +kernel
theorem dX0_hasAlike_19 : decode cX0_hasAlike 19 = .ok (.iload_n 2, 1) := by decide +kernel
theorem dX0_hasAlike_20 : decode cX0_hasAlike 20 = .ok (.iaload, 1) := by decide +kernel
theorem dX0_hasAlike_21 : decode cX0_hasAlike 21 = .ok (.invokevirtual 36, 3) := by decide +kernel
theorem dX0_hasAlike_24 : decode cX0_hasAlike 24 = .ok (.ifCond .eq 5, 3) := by decide +kernel
theorem dX0_hasAlike_27 : decode cX0_hasAlike 27 = .ok (.iconst 1, 1) := by decide +kernel
theorem dX0_hasAlike_28 : decode cX0_hasAlike 28 = .ok (.ireturn, 1) := by decide +kernel
theorem dX0_hasAlike_29 : decode cX0_hasAlike 29 = .ok (.iinc 2 1, 3) := by decide +kernel
theorem dX0_hasAlike_32 : decode cX0_hasAlike 32 = .ok (.goto (-30), 3) := by decide +kernel
theorem dX0_hasAlike_35 : decode cX0_hasAlike 35 = .ok (.iconst 0, 1) := by decide +kernel
theorem dX0_hasAlike_36 : decode cX0_hasAlike 36 = .ok (.ireturn, 1) := by decide +kernel
theorem dX0_firstUnlike_0 : decode cX0_firstUnlike 0 = .ok (.iload_n 1, 1) := by decide +kernel
theorem dX0_firstUnlike_1 : decode cX0_firstUnlike 1 = .ok (.invokestatic 42, 3) := by decide +kernel
theorem dX0_firstUnlike_4 : decode cX0_firstUnlike 4 = .ok (.istore_n 2, 1) := by decide +kernel
theorem dX0_firstUnlike_5 : decode cX0_firstUnlike 5 = .ok (.iconst 0, 1) := by decide +kernel
theorem dX0_firstUnlike_6 : decode cX0_firstUnlike 6 = .ok (.istore_n 3, 1) := by decide +kernel
theorem dX0_firstUnlike_7 : decode cX0_firstUnlike 7 = .ok (.iload_n 3, 1) := by decide +kernel
theorem dX0_firstUnlike_8 : decode cX0_firstUnlike 8 = .ok (.iconst 4, 1) := by decide +kernel
theorem dX0_firstUnlike_9 : decode cX0_firstUnlike 9 = .ok (.if_icmp .ge 32, 3) := by decide +kernel
theorem dX0_firstUnlike_12 : decode cX0_firstUnlike 12 = .ok (.iload_n 1, 1) := by decide +kernel
theorem dX0_firstUnlike_13 : decode cX0_firstUnlike 13 = .ok (.iload_n 2, 1) := by decide +kernel
theorem dX0_firstUnlike_14 : decode cX0_firstUnlike 14 = .ok (.iload_n 3, 1) := by decide +kernel
theorem dX0_firstUnlike_15 : decode cX0_firstUnlike 15 = .ok (.iadd, 1) := by decide +kernel
theorem dX0_firstUnlike_16 : decode cX0_firstUnlike 16 = .ok (.iconst 4, 1) := by decide +kernel
theorem dX0_firstUnlike_17 : decode cX0_firstUnlike 17 = .ok (.irem, 1) := by decide +kernel
theorem dX0_firstUnlike_18 : decode cX0_firstUnlike 18 = .ok (.invokestatic 47, 3) := by decide +kernel
theorem dX0_firstUnlike_21 : decode cX0_firstUnlike 21 = .ok (.istore 4, 2) := by decide +kernel
theorem dX0_firstUnlike_23 : decode cX0_firstUnlike 23 = .ok (.aload_n 0, 1) := by decide +kernel
theorem dX0_firstUnlike_24 : decode cX0_firstUnlike 24 = .ok (.iload 4, 2) := by decide +kernel
theorem dX0_firstUnlike_26 : decode cX0_firstUnlike 26 = .ok (.invokevirtual 51, 3) := by decide +kernel
theorem dX0_firstUnlike_29 : decode cX0_firstUnlike 29 = .ok (.ifCond .ne 6, 3) := by decide +kernel
theorem dX0_firstUnlike_32 : decode cX0_firstUnlike 32 = .ok (.iload 4, 2) := by decide +kernel
theorem dX0_firstUnlike_34 : decode cX0_firstUnlike 34 = .ok (.ireturn, 1) := by decide +kernel
theorem dX0_firstUnlike_35 : decode cX0_firstUnlike 35 = .ok (.iinc 3 1, 3) := by decide +kernel
theorem dX0_firstUnlike_38 : decode cX0_firstUnlike 38 = .ok (.goto (-31), 3) := by decide +kernel
theorem dX0_firstUnlike_41 : decode cX0_firstUnlike 41 = .ok (.iconst (-1), 1) := by decide +kernel
theorem dX0_firstUnlike_42 : decode cX0_firstUnlike 42 = .ok (.ireturn, 1) := by decide +kernel
theorem dX0_countAlike_0 : decode cX0_countAlike 0 = .ok (.iconst 0, 1) := by decide +kernel
theorem dX0_countAlike_1 : decode cX0_countAlike 1 = .ok (.istore_n 1, 1) := by decide +kernel
theorem dX0_countAlike_2 : decode cX0_countAlike 2 = .ok (.iconst 0, 1) := by decide +kernel
theorem dX0_countAlike_3 : decode cX0_countAlike 3 = .ok (.istore_n 2, 1) := by decide +kernel
theorem dX0_countAlike_4 : decode cX0_countAlike 4 = .ok (.iload_n 2, 1) := by decide +kernel
theorem dX0_countAlike_5 : decode cX0_countAlike 5 = .ok (.aload_n 0, 1) := by decide +kernel
theorem dX0_countAlike_6 : decode cX0_countAlike 6 = .ok (.getfield 22, 3) := by decide +kernel
theorem dX0_countAlike_9 : decode cX0_countAlike 9 = .ok (.if_icmp .ge 52, 3) := by decide +kernel
theorem dX0_countAlike_12 : decode cX0_countAlike 12 = .ok (.iload_n 2, 1) := by decide +kernel
theorem dX0_countAlike_13 : decode cX0_countAlike 13 = .ok (.iconst 1, 1) := by decide +kernel
theorem dX0_countAlike_14 : decode cX0_countAlike 14 = .ok (.iadd, 1) := by decide +kernel
theorem dX0_countAlike_15 : decode cX0_countAlike 15 = .ok (.istore_n 3, 1) := by decide +kernel
theorem dX0_countAlike_16 : decode cX0_countAlike 16 = .ok (.iload_n 3, 1) := by decide +kernel
theorem dX0_countAlike_17 : decode cX0_countAlike 17 = .ok (.aload_n 0, 1) := by decide +kernel
theorem dX0_countAlike_18 : decode cX0_countAlike 18 = .ok (.getfield 22, 3) := by decide +kernel
theorem dX0_countAlike_21 : decode cX0_countAlike 21 = .ok (.if_icmp .ge 34, 3) := by decide +kernel
theorem dX0_countAlike_24 : decode cX0_countAlike 24 = .ok (.aload_n 0, 1) := by decide +kernel
theorem dX0_countAlike_25 : decode cX0_countAlike 25 = .ok (.getfield 9, 3) := by decide +kernel
theorem dX0_countAlike_28 : decode cX0_countAlike 28 = .ok (.aload_n 0, 1) := by decide +kernel
theorem dX0_countAlike_29 : decode cX0_countAlike 29 = .ok (.getfield 15, 3) := by decide +kernel
theorem dX0_countAlike_32 : decode cX0_countAlike 32 = .ok (.iload_n 2, 1) := by decide +kernel
theorem dX0_countAlike_33 : decode cX0_countAlike 33 = .ok (.iaload, 1) := by decide +kernel
theorem dX0_countAlike_34 : decode cX0_countAlike 34 = .ok (.aload_n 0, 1) := by decide +kernel
theorem dX0_countAlike_35 : decode cX0_countAlike 35 = .ok (.getfield 15, 3) := by decide +kernel
theorem dX0_countAlike_38 : decode cX0_countAlike 38 = .ok (.iload_n 3, 1) := by decide +kernel
theorem dX0_countAlike_39 : decode cX0_countAlike 39 = .ok (.iaload, 1) := by decide +kernel
theorem dX0_countAlike_40 : decode cX0_countAlike 40 = .ok (.invokevirtual 36, 3) := by decide +kernel
theorem dX0_countAlike_43 : decode cX0_countAlike 43 = .ok (.ifCond .eq 6, 3) := by decide +kernel
theorem dX0_countAlike_46 : decode cX0_countAlike 46 = .ok (.iinc 1 1, 3) := by decide +kernel
theorem dX0_countAlike_49 : decode cX0_countAlike 49 = .ok (.iinc 3 1, 3) := by decide +kernel
theorem dX0_countAlike_52 : decode cX0_countAlike 52 = .ok (.goto (-36), 3) := by decide +kernel
theorem dX0_countAlike_55 : decode cX0_countAlike 55 = .ok (.iinc 2 1, 3) := by decide +kernel
theorem dX0_countAlike_58 : decode cX0_countAlike 58 = .ok (.goto (-54), 3) := by decide +kernel
theorem dX0_countAlike_61 : decode cX0_countAlike 61 = .ok (.iload_n 1, 1) := by decide +kernel
theorem dX0_countAlike_62 : decode cX0_countAlike 62 = .ok (.ireturn, 1) := by decide +kernel
theorem dX0_countThumbApart_0 : decode cX0_countThumbApart 0 = .ok (.iconst 0, 1) := by decide +kernel
theorem dX0_countThumbApart_1 : decode cX0_countThumbApart 1 = .ok (.istore_n 1, 1) := by decide +kernel
theorem dX0_countThumbApart_2 : decode cX0_countThumbApart 2 = .ok (.iconst 0, 1) := by decide +kernel
theorem dX0_countThumbApart_3 : decode cX0_countThumbApart 3 = .ok (.istore_n 2, 1) := by decide +kernel
theorem dX0_countThumbApart_4 : decode cX0_countThumbApart 4 = .ok (.iload_n 2, 1) := by decide +kernel
theorem dX0_countThumbApart_5 : decode cX0_countThumbApart 5 = .ok (.aload_n 0, 1) := by decide +kernel
theorem dX0_countThumbApart_6 : decode cX0_countThumbApart 6 = .ok (.getfield 22, 3) := by decide +kernel
theorem dX0_countThumbApart_9 : decode cX0_countThumbApart 9 = .ok (.if_icmp .ge 74, 3) := by decide +kernel
theorem dX0_countThumbApart_12 : decode cX0_countThumbApart 12 = .ok (.iload_n 2, 1) := by decide +kernel
theorem dX0_countThumbApart_13 : decode cX0_countThumbApart 13 = .ok (.iconst 1, 1) := by decide +kernel
theorem dX0_countThumbApart_14 : decode cX0_countThumbApart 14 = .ok (.iadd, 1) := by decide +kernel
theorem dX0_countThumbApart_15 : decode cX0_countThumbApart 15 = .ok (.istore_n 3, 1) := by decide +kernel
theorem dX0_countThumbApart_16 : decode cX0_countThumbApart 16 = .ok (.iload_n 3, 1) := by decide +kernel
theorem dX0_countThumbApart_17 : decode cX0_countThumbApart 17 = .ok (.aload_n 0, 1) := by decide +kernel
theorem dX0_countThumbApart_18 : decode cX0_countThumbApart 18 = .ok (.getfield 22, 3) := by decide +kernel
theorem dX0_countThumbApart_21 : decode cX0_countThumbApart 21 = .ok (.if_icmp .ge 56, 3) := by decide +kernel
theorem dX0_countThumbApart_24 : decode cX0_countThumbApart 24 = .ok (.aload_n 0, 1) := by decide +kernel
theorem dX0_countThumbApart_25 : decode cX0_countThumbApart 25 = .ok (.getfield 15, 3) := by decide +kernel
theorem dX0_countThumbApart_28 : decode cX0_countThumbApart 28 = .ok (.iload_n 2, 1) := by decide +kernel
theorem dX0_countThumbApart_29 : decode cX0_countThumbApart 29 = .ok (.iaload, 1) := by decide +kernel
theorem dX0_countThumbApart_30 : decode cX0_countThumbApart 30 = .ok (.invokestatic 42, 3) := by decide +kernel
theorem dX0_countThumbApart_33 : decode cX0_countThumbApart 33 = .ok (.aload_n 0, 1) := by decide +kernel
theorem dX0_countThumbApart_34 : decode cX0_countThumbApart 34 = .ok (.getfield 15, 3) := by decide +kernel
theorem dX0_countThumbApart_37 : decode cX0_countThumbApart 37 = .ok (.iload_n 3, 1) := by decide +kernel
theorem dX0_countThumbApart_38 : decode cX0_countThumbApart 38 = .ok (.iaload, 1) := by decide +kernel
theorem dX0_countThumbApart_39 : decode cX0_countThumbApart 39 = .ok (.invokestatic 42, 3) := by decide +kernel
theorem dX0_countThumbApart_42 : decode cX0_countThumbApart 42 = .ok (.if_icmp .eq 29, 3) := by decide +kernel
theorem dX0_countThumbApart_45 : decode cX0_countThumbApart 45 = .ok (.aload_n 0, 1) := by decide +kernel
theorem dX0_countThumbApart_46 : decode cX0_countThumbApart 46 = .ok (.getfield 9, 3) := by decide +kernel
theorem dX0_countThumbApart_49 : decode cX0_countThumbApart 49 = .ok (.aload_n 0, 1) := by decide +kernel
theorem dX0_countThumbApart_50 : decode cX0_countThumbApart 50 = .ok (.getfield 15, 3) := by decide +kernel
theorem dX0_countThumbApart_53 : decode cX0_countThumbApart 53 = .ok (.iload_n 2, 1) := by decide +kernel
theorem dX0_countThumbApart_54 : decode cX0_countThumbApart 54 = .ok (.iaload, 1) := by decide +kernel
theorem dX0_countThumbApart_55 : decode cX0_countThumbApart 55 = .ok (.aload_n 0, 1) := by decide +kernel
theorem dX0_countThumbApart_56 : decode cX0_countThumbApart 56 = .ok (.getfield 15, 3) := by decide +kernel
theorem dX0_countThumbApart_59 : decode cX0_countThumbApart 59 = .ok (.iload_n 3, 1) := by decide +kernel
theorem dX0_countThumbApart_60 : decode cX0_countThumbApart 60 = .ok (.iaload, 1) := by decide +kernel
theorem dX0_countThumbApart_61 : decode cX0_countThumbApart 61 = .ok (.invokevirtual 59, 3) := by decide +kernel
theorem dX0_countThumbApart_64 : decode cX0_countThumbApart 64 = .ok (.iconst 1, 1) := by decide +kernel
theorem dX0_countThumbApart_65 : decode cX0_countThumbApart 65 = .ok (.if_icmp .ne 6, 3) := by decide +kernel
theorem dX0_countThumbApart_68 : decode cX0_countThumbApart 68 = .ok (.iinc 1 1, 3) := by decide +kernel
theorem dX0_countThumbApart_71 : decode cX0_countThumbApart 71 = .ok (.iinc 3 1, 3) := by decide +kernel
theorem dX0_countThumbApart_74 : decode cX0_countThumbApart 74 = .ok (.goto (-58), 3) := by decide +kernel
theorem dX0_countThumbApart_77 : decode cX0_countThumbApart 77 = .ok (.iinc 2 1, 3) := by decide +kernel
theorem dX0_countThumbApart_80 : decode cX0_countThumbApart 80 = .ok (.goto (-76), 3) := by decide +kernel
theorem dX0_countThumbApart_83 : decode cX0_countThumbApart 83 = .ok (.iload_n 1, 1) := by decide +kernel
theorem dX0_countThumbApart_84 : decode cX0_countThumbApart 84 = .ok (.ireturn, 1) := by decide +kernel
theorem dX0_nearestBut_0 : decode cX0_nearestBut 0 = .ok (.bipush 100, 2) := by decide +kernel
theorem dX0_nearestBut_2 : decode cX0_nearestBut 2 = .ok (.istore_n 3, 1) := by decide +kernel
theorem dX0_nearestBut_3 : decode cX0_nearestBut 3 = .ok (.iconst 0, 1) := by decide +kernel
theorem dX0_nearestBut_4 : decode cX0_nearestBut 4 = .ok (.istore 4, 2) := by decide +kernel
theorem dX0_nearestBut_6 : decode cX0_nearestBut 6 = .ok (.iload 4, 2) := by decide +kernel
theorem dX0_nearestBut_8 : decode cX0_nearestBut 8 = .ok (.aload_n 0, 1) := by decide +kernel
theorem dX0_nearestBut_9 : decode cX0_nearestBut 9 = .ok (.getfield 22, 3) := by decide +kernel
theorem dX0_nearestBut_12 : decode cX0_nearestBut 12 = .ok (.if_icmp .ge 35, 3) := by decide +kernel
theorem dX0_nearestBut_15 : decode cX0_nearestBut 15 = .ok (.iload 4, 2) := by decide +kernel
theorem dX0_nearestBut_17 : decode cX0_nearestBut 17 = .ok (.iload_n 1, 1) := by decide +kernel
theorem dX0_nearestBut_18 : decode cX0_nearestBut 18 = .ok (.if_icmp .eq 23, 3) := by decide +kernel
theorem dX0_nearestBut_21 : decode cX0_nearestBut 21 = .ok (.iload_n 3, 1) := by decide +kernel
theorem dX0_nearestBut_22 : decode cX0_nearestBut 22 = .ok (.aload_n 0, 1) := by decide +kernel
theorem dX0_nearestBut_23 : decode cX0_nearestBut 23 = .ok (.getfield 9, 3) := by decide +kernel
theorem dX0_nearestBut_26 : decode cX0_nearestBut 26 = .ok (.iload_n 2, 1) := by decide +kernel
theorem dX0_nearestBut_27 : decode cX0_nearestBut 27 = .ok (.aload_n 0, 1) := by decide +kernel
theorem dX0_nearestBut_28 : decode cX0_nearestBut 28 = .ok (.getfield 15, 3) := by decide +kernel
theorem dX0_nearestBut_31 : decode cX0_nearestBut 31 = .ok (.iload 4, 2) := by decide +kernel
theorem dX0_nearestBut_33 : decode cX0_nearestBut 33 = .ok (.iaload, 1) := by decide +kernel
theorem dX0_nearestBut_34 : decode cX0_nearestBut 34 = .ok (.invokevirtual 59, 3) := by decide +kernel
theorem dX0_nearestBut_37 : decode cX0_nearestBut 37 = .ok (.invokestatic 62, 3) := by decide +kernel
theorem dX0_nearestBut_40 : decode cX0_nearestBut 40 = .ok (.istore_n 3, 1) := by decide +kernel
theorem dX0_nearestBut_41 : decode cX0_nearestBut 41 = .ok (.iinc 4 1, 3) := by decide +kernel
theorem dX0_nearestBut_44 : decode cX0_nearestBut 44 = .ok (.goto (-38), 3) := by decide +kernel
theorem dX0_nearestBut_47 : decode cX0_nearestBut 47 = .ok (.iload_n 3, 1) := by decide +kernel
theorem dX0_nearestBut_48 : decode cX0_nearestBut 48 = .ok (.ireturn, 1) := by decide +kernel
theorem dX0_fewestApart_0 : decode cX0_fewestApart 0 = .ok (.aload_n 0, 1) := by decide +kernel
theorem dX0_fewestApart_1 : decode cX0_fewestApart 1 = .ok (.getfield 22, 3) := by decide +kernel
theorem dX0_fewestApart_4 : decode cX0_fewestApart 4 = .ok (.iconst 2, 1) := by decide +kernel
theorem dX0_fewestApart_5 : decode cX0_fewestApart 5 = .ok (.if_icmp .ge 5, 3) := by decide +kernel
theorem dX0_fewestApart_8 : decode cX0_fewestApart 8 = .ok (.iconst 0, 1) := by decide +kernel
theorem dX0_fewestApart_9 : decode cX0_fewestApart 9 = .ok (.ireturn, 1) := by decide +kernel
theorem dX0_fewestApart_10 : decode cX0_fewestApart 10 = .ok (.bipush 100, 2) := by decide +kernel
theorem dX0_fewestApart_12 : decode cX0_fewestApart 12 = .ok (.istore_n 1, 1) := by decide +kernel
theorem dX0_fewestApart_13 : decode cX0_fewestApart 13 = .ok (.iconst 0, 1) := by decide +kernel
theorem dX0_fewestApart_14 : decode cX0_fewestApart 14 = .ok (.istore_n 2, 1) := by decide +kernel
theorem dX0_fewestApart_15 : decode cX0_fewestApart 15 = .ok (.iload_n 2, 1) := by decide +kernel
theorem dX0_fewestApart_16 : decode cX0_fewestApart 16 = .ok (.aload_n 0, 1) := by decide +kernel
theorem dX0_fewestApart_17 : decode cX0_fewestApart 17 = .ok (.getfield 22, 3) := by decide +kernel
theorem dX0_fewestApart_20 : decode cX0_fewestApart 20 = .ok (.if_icmp .ge 25, 3) := by decide +kernel
theorem dX0_fewestApart_23 : decode cX0_fewestApart 23 = .ok (.iload_n 1, 1) := by decide +kernel
theorem dX0_fewestApart_24 : decode cX0_fewestApart 24 = .ok (.aload_n 0, 1) := by decide +kernel
theorem dX0_fewestApart_25 : decode cX0_fewestApart 25 = .ok (.iload_n 2, 1) := by decide +kernel
theorem dX0_fewestApart_26 : decode cX0_fewestApart 26 = .ok (.aload_n 0, 1) := by decide +kernel
theorem dX0_fewestApart_27 : decode cX0_fewestApart 27 = .ok (.getfield 15, 3) := by decide +kernel
theorem dX0_fewestApart_30 : decode cX0_fewestApart 30 = .ok (.iload_n 2, 1) := by decide +kernel
theorem dX0_fewestApart_31 : decode cX0_fewestApart 31 = .ok (.iaload, 1) := by decide +kernel
theorem dX0_fewestApart_32 : decode cX0_fewestApart 32 = .ok (.invokevirtual 67, 3) := by decide +kernel
theorem dX0_fewestApart_35 : decode cX0_fewestApart 35 = .ok (.invokestatic 62, 3) := by decide +kernel
theorem dX0_fewestApart_38 : decode cX0_fewestApart 38 = .ok (.istore_n 1, 1) := by decide +kernel
theorem dX0_fewestApart_39 : decode cX0_fewestApart 39 = .ok (.iinc 2 1, 3) := by decide +kernel
theorem dX0_fewestApart_42 : decode cX0_fewestApart 42 = .ok (.goto (-27), 3) := by decide +kernel
theorem dX0_fewestApart_45 : decode cX0_fewestApart 45 = .ok (.iload_n 1, 1) := by decide +kernel
theorem dX0_fewestApart_46 : decode cX0_fewestApart 46 = .ok (.ireturn, 1) := by decide +kernel
theorem dX0_countNear_0 : decode cX0_countNear 0 = .ok (.iconst 0, 1) := by decide +kernel
theorem dX0_countNear_1 : decode cX0_countNear 1 = .ok (.istore_n 2, 1) := by decide +kernel
theorem dX0_countNear_2 : decode cX0_countNear 2 = .ok (.iconst 0, 1) := by decide +kernel
theorem dX0_countNear_3 : decode cX0_countNear 3 = .ok (.istore_n 3, 1) := by decide +kernel
theorem dX0_countNear_4 : decode cX0_countNear 4 = .ok (.iload_n 3, 1) := by decide +kernel
theorem dX0_countNear_5 : decode cX0_countNear 5 = .ok (.aload_n 0, 1) := by decide +kernel
theorem dX0_countNear_6 : decode cX0_countNear 6 = .ok (.getfield 22, 3) := by decide +kernel
theorem dX0_countNear_9 : decode cX0_countNear 9 = .ok (.if_icmp .ge 40, 3) := by decide +kernel
theorem dX0_countNear_12 : decode cX0_countNear 12 = .ok (.iload_n 3, 1) := by decide +kernel
theorem dX0_countNear_13 : decode cX0_countNear 13 = .ok (.iload_n 1, 1) := by decide +kernel
theorem dX0_countNear_14 : decode cX0_countNear 14 = .ok (.if_icmp .eq 29, 3) := by decide +kernel
theorem dX0_countNear_17 : decode cX0_countNear 17 = .ok (.aload_n 0, 1) := by decide +kernel
theorem dX0_countNear_18 : decode cX0_countNear 18 = .ok (.getfield 9, 3) := by decide +kernel
theorem dX0_countNear_21 : decode cX0_countNear 21 = .ok (.aload_n 0, 1) := by decide +kernel
theorem dX0_countNear_22 : decode cX0_countNear 22 = .ok (.getfield 15, 3) := by decide +kernel
theorem dX0_countNear_25 : decode cX0_countNear 25 = .ok (.iload_n 1, 1) := by decide +kernel
theorem dX0_countNear_26 : decode cX0_countNear 26 = .ok (.iaload, 1) := by decide +kernel
theorem dX0_countNear_27 : decode cX0_countNear 27 = .ok (.aload_n 0, 1) := by decide +kernel
theorem dX0_countNear_28 : decode cX0_countNear 28 = .ok (.getfield 15, 3) := by decide +kernel
theorem dX0_countNear_31 : decode cX0_countNear 31 = .ok (.iload_n 3, 1) := by decide +kernel
theorem dX0_countNear_32 : decode cX0_countNear 32 = .ok (.iaload, 1) := by decide +kernel
theorem dX0_countNear_33 : decode cX0_countNear 33 = .ok (.invokevirtual 59, 3) := by decide +kernel
theorem dX0_countNear_36 : decode cX0_countNear 36 = .ok (.iconst 3, 1) := by decide +kernel
theorem dX0_countNear_37 : decode cX0_countNear 37 = .ok (.if_icmp .gt 6, 3) := by decide +kernel
theorem dX0_countNear_40 : decode cX0_countNear 40 = .ok (.iinc 2 1, 3) := by decide +kernel
theorem dX0_countNear_43 : decode cX0_countNear 43 = .ok (.iinc 3 1, 3) := by decide +kernel
theorem dX0_countNear_46 : decode cX0_countNear 46 = .ok (.goto (-42), 3) := by decide +kernel
theorem dX0_countNear_49 : decode cX0_countNear 49 = .ok (.iload_n 2, 1) := by decide +kernel
theorem dX0_countNear_50 : decode cX0_countNear 50 = .ok (.ireturn, 1) := by decide +kernel
theorem dX0_signNearMost_0 : decode cX0_signNearMost 0 = .ok (.iconst (-1), 1) := by decide +kernel
theorem dX0_signNearMost_1 : decode cX0_signNearMost 1 = .ok (.istore_n 1, 1) := by decide +kernel
theorem dX0_signNearMost_2 : decode cX0_signNearMost 2 = .ok (.iconst (-1), 1) := by decide +kernel
theorem dX0_signNearMost_3 : decode cX0_signNearMost 3 = .ok (.istore_n 2, 1) := by decide +kernel
theorem dX0_signNearMost_4 : decode cX0_signNearMost 4 = .ok (.iconst 0, 1) := by decide +kernel
theorem dX0_signNearMost_5 : decode cX0_signNearMost 5 = .ok (.istore_n 3, 1) := by decide +kernel
theorem dX0_signNearMost_6 : decode cX0_signNearMost 6 = .ok (.iload_n 3, 1) := by decide +kernel
theorem dX0_signNearMost_7 : decode cX0_signNearMost 7 = .ok (.aload_n 0, 1) := by decide +kernel
theorem dX0_signNearMost_8 : decode cX0_signNearMost 8 = .ok (.getfield 22, 3) := by decide +kernel
theorem dX0_signNearMost_11 : decode cX0_signNearMost 11 = .ok (.if_icmp .ge 27, 3) := by decide +kernel
theorem dX0_signNearMost_14 : decode cX0_signNearMost 14 = .ok (.aload_n 0, 1) := by decide +kernel
theorem dX0_signNearMost_15 : decode cX0_signNearMost 15 = .ok (.iload_n 3, 1) := by decide +kernel
theorem dX0_signNearMost_16 : decode cX0_signNearMost 16 = .ok (.invokevirtual 70, 3) := by decide +kernel
theorem dX0_signNearMost_19 : decode cX0_signNearMost 19 = .ok (.istore 4, 2) := by decide +kernel
theorem dX0_signNearMost_21 : decode cX0_signNearMost 21 = .ok (.iload 4, 2) := by decide +kernel
theorem dX0_signNearMost_23 : decode cX0_signNearMost 23 = .ok (.iload_n 2, 1) := by decide +kernel
theorem dX0_signNearMost_24 : decode cX0_signNearMost 24 = .ok (.if_icmp .le 8, 3) := by decide +kernel
theorem dX0_signNearMost_27 : decode cX0_signNearMost 27 = .ok (.iload 4, 2) := by decide +kernel
theorem dX0_signNearMost_29 : decode cX0_signNearMost 29 = .ok (.istore_n 2, 1) := by decide +kernel
theorem dX0_signNearMost_30 : decode cX0_signNearMost 30 = .ok (.iload_n 3, 1) := by decide +kernel
theorem dX0_signNearMost_31 : decode cX0_signNearMost 31 = .ok (.istore_n 1, 1) := by decide +kernel
theorem dX0_signNearMost_32 : decode cX0_signNearMost 32 = .ok (.iinc 3 1, 3) := by decide +kernel
theorem dX0_signNearMost_35 : decode cX0_signNearMost 35 = .ok (.goto (-29), 3) := by decide +kernel
theorem dX0_signNearMost_38 : decode cX0_signNearMost 38 = .ok (.iload_n 1, 1) := by decide +kernel
theorem dX0_signNearMost_39 : decode cX0_signNearMost 39 = .ok (.ireturn, 1) := by decide +kernel
theorem dX0_meaningRead_0 : decode cX0_meaningRead 0 = .ok (.iconst 4, 1) := by decide +kernel
theorem dX0_meaningRead_1 : decode cX0_meaningRead 1 = .ok (.istore_n 2, 1) := by decide +kernel
theorem dX0_meaningRead_2 : decode cX0_meaningRead 2 = .ok (.iconst (-1), 1) := by decide +kernel
theorem dX0_meaningRead_3 : decode cX0_meaningRead 3 = .ok (.istore_n 3, 1) := by decide +kernel
theorem dX0_meaningRead_4 : decode cX0_meaningRead 4 = .ok (.iconst 0, 1) := by decide +kernel
theorem dX0_meaningRead_5 : decode cX0_meaningRead 5 = .ok (.istore 4, 2) := by decide +kernel
theorem dX0_meaningRead_7 : decode cX0_meaningRead 7 = .ok (.iload 4, 2) := by decide +kernel
theorem dX0_meaningRead_9 : decode cX0_meaningRead 9 = .ok (.aload_n 0, 1) := by decide +kernel
theorem dX0_meaningRead_10 : decode cX0_meaningRead 10 = .ok (.getfield 22, 3) := by decide +kernel
theorem dX0_meaningRead_13 : decode cX0_meaningRead 13 = .ok (.if_icmp .ge 54, 3) := by decide +kernel
theorem dX0_meaningRead_16 : decode cX0_meaningRead 16 = .ok (.aload_n 0, 1) := by decide +kernel
theorem dX0_meaningRead_17 : decode cX0_meaningRead 17 = .ok (.getfield 9, 3) := by decide +kernel
theorem dX0_meaningRead_20 : decode cX0_meaningRead 20 = .ok (.iload_n 1, 1) := by decide +kernel
theorem dX0_meaningRead_21 : decode cX0_meaningRead 21 = .ok (.aload_n 0, 1) := by decide +kernel
theorem dX0_meaningRead_22 : decode cX0_meaningRead 22 = .ok (.getfield 15, 3) := by decide +kernel
theorem dX0_meaningRead_25 : decode cX0_meaningRead 25 = .ok (.iload 4, 2) := by decide +kernel
theorem dX0_meaningRead_27 : decode cX0_meaningRead 27 = .ok (.iaload, 1) := by decide +kernel
theorem dX0_meaningRead_28 : decode cX0_meaningRead 28 = .ok (.invokevirtual 59, 3) := by decide +kernel
theorem dX0_meaningRead_31 : decode cX0_meaningRead 31 = .ok (.istore 5, 2) := by decide +kernel
theorem dX0_meaningRead_33 : decode cX0_meaningRead 33 = .ok (.iload 5, 2) := by decide +kernel
theorem dX0_meaningRead_35 : decode cX0_meaningRead 35 = .ok (.iload_n 2, 1) := by decide +kernel
theorem dX0_meaningRead_36 : decode cX0_meaningRead 36 = .ok (.if_icmp .ge 17, 3) := by decide +kernel
theorem dX0_meaningRead_39 : decode cX0_meaningRead 39 = .ok (.iload 5, 2) := by decide +kernel
theorem dX0_meaningRead_41 : decode cX0_meaningRead 41 = .ok (.istore_n 2, 1) := by decide +kernel
theorem dX0_meaningRead_42 : decode cX0_meaningRead 42 = .ok (.aload_n 0, 1) := by decide +kernel
theorem dX0_meaningRead_43 : decode cX0_meaningRead 43 = .ok (.getfield 19, 3) := by decide +kernel
theorem dX0_meaningRead_46 : decode cX0_meaningRead 46 = .ok (.iload 4, 2) := by decide +kernel
theorem dX0_meaningRead_48 : decode cX0_meaningRead 48 = .ok (.iaload, 1) := by decide +kernel
theorem dX0_meaningRead_49 : decode cX0_meaningRead 49 = .ok (.istore_n 3, 1) := by decide +kernel
theorem dX0_meaningRead_50 : decode cX0_meaningRead 50 = .ok (.goto 11, 3) := by decide +kernel
theorem dX0_meaningRead_53 : decode cX0_meaningRead 53 = .ok (.iload 5, 2) := by decide +kernel
theorem dX0_meaningRead_55 : decode cX0_meaningRead 55 = .ok (.iload_n 2, 1) := by decide +kernel
theorem dX0_meaningRead_56 : decode cX0_meaningRead 56 = .ok (.if_icmp .ne 5, 3) := by decide +kernel
theorem dX0_meaningRead_59 : decode cX0_meaningRead 59 = .ok (.iconst (-1), 1) := by decide +kernel
theorem dX0_meaningRead_60 : decode cX0_meaningRead 60 = .ok (.istore_n 3, 1) := by decide +kernel
theorem dX0_meaningRead_61 : decode cX0_meaningRead 61 = .ok (.iinc 4 1, 3) := by decide +kernel
theorem dX0_meaningRead_64 : decode cX0_meaningRead 64 = .ok (.goto (-57), 3) := by decide +kernel
theorem dX0_meaningRead_67 : decode cX0_meaningRead 67 = .ok (.iload_n 3, 1) := by decide +kernel
theorem dX0_meaningRead_68 : decode cX0_meaningRead 68 = .ok (.ireturn, 1) := by decide +kernel
theorem dX0_countUnderstood_0 : decode cX0_countUnderstood 0 = .ok (.iconst 0, 1) := by decide +kernel
theorem dX0_countUnderstood_1 : decode cX0_countUnderstood 1 = .ok (.istore_n 2, 1) := by decide +kernel
theorem dX0_countUnderstood_2 : decode cX0_countUnderstood 2 = .ok (.iconst 0, 1) := by decide +kernel
theorem dX0_countUnderstood_3 : decode cX0_countUnderstood 3 = .ok (.istore_n 3, 1) := by decide +kernel
theorem dX0_countUnderstood_4 : decode cX0_countUnderstood 4 = .ok (.iload_n 3, 1) := by decide +kernel
theorem dX0_countUnderstood_5 : decode cX0_countUnderstood 5 = .ok (.aload_n 1, 1) := by decide +kernel
theorem dX0_countUnderstood_6 : decode cX0_countUnderstood 6 = .ok (.getfield 22, 3) := by decide +kernel
theorem dX0_countUnderstood_9 : decode cX0_countUnderstood 9 = .ok (.if_icmp .ge 31, 3) := by decide +kernel
theorem dX0_countUnderstood_12 : decode cX0_countUnderstood 12 = .ok (.aload_n 0, 1) := by decide +kernel
theorem dX0_countUnderstood_13 : decode cX0_countUnderstood 13 = .ok (.aload_n 1, 1) := by decide +kernel
theorem dX0_countUnderstood_14 : decode cX0_countUnderstood 14 = .ok (.getfield 15, 3) := by decide +kernel
theorem dX0_countUnderstood_17 : decode cX0_countUnderstood 17 = .ok (.iload_n 3, 1) := by decide +kernel
theorem dX0_countUnderstood_18 : decode cX0_countUnderstood 18 = .ok (.iaload, 1) := by decide +kernel
theorem dX0_countUnderstood_19 : decode cX0_countUnderstood 19 = .ok (.invokevirtual 73, 3) := by decide +kernel
theorem dX0_countUnderstood_22 : decode cX0_countUnderstood 22 = .ok (.aload_n 1, 1) := by decide +kernel
theorem dX0_countUnderstood_23 : decode cX0_countUnderstood 23 = .ok (.getfield 19, 3) := by decide +kernel
theorem dX0_countUnderstood_26 : decode cX0_countUnderstood 26 = .ok (.iload_n 3, 1) := by decide +kernel
theorem dX0_countUnderstood_27 : decode cX0_countUnderstood 27 = .ok (.iaload, 1) := by decide +kernel
theorem dX0_countUnderstood_28 : decode cX0_countUnderstood 28 = .ok (.if_icmp .ne 6, 3) := by decide +kernel
theorem dX0_countUnderstood_31 : decode cX0_countUnderstood 31 = .ok (.iinc 2 1, 3) := by decide +kernel
theorem dX0_countUnderstood_34 : decode cX0_countUnderstood 34 = .ok (.iinc 3 1, 3) := by decide +kernel
theorem dX0_countUnderstood_37 : decode cX0_countUnderstood 37 = .ok (.goto (-33), 3) := by decide +kernel
theorem dX0_countUnderstood_40 : decode cX0_countUnderstood 40 = .ok (.iload_n 2, 1) := by decide +kernel
theorem dX0_countUnderstood_41 : decode cX0_countUnderstood 41 = .ok (.ireturn, 1) := by decide +kernel
theorem dX0_countMisread_0 : decode cX0_countMisread 0 = .ok (.iconst 0, 1) := by decide +kernel
theorem dX0_countMisread_1 : decode cX0_countMisread 1 = .ok (.istore_n 2, 1) := by decide +kernel
theorem dX0_countMisread_2 : decode cX0_countMisread 2 = .ok (.iconst 0, 1) := by decide +kernel
theorem dX0_countMisread_3 : decode cX0_countMisread 3 = .ok (.istore_n 3, 1) := by decide +kernel
theorem dX0_countMisread_4 : decode cX0_countMisread 4 = .ok (.iload_n 3, 1) := by decide +kernel
theorem dX0_countMisread_5 : decode cX0_countMisread 5 = .ok (.aload_n 1, 1) := by decide +kernel
theorem dX0_countMisread_6 : decode cX0_countMisread 6 = .ok (.getfield 22, 3) := by decide +kernel
theorem dX0_countMisread_9 : decode cX0_countMisread 9 = .ok (.if_icmp .ge 41, 3) := by decide +kernel
theorem dX0_countMisread_12 : decode cX0_countMisread 12 = .ok (.aload_n 0, 1) := by decide +kernel
theorem dX0_countMisread_13 : decode cX0_countMisread 13 = .ok (.aload_n 1, 1) := by decide +kernel
theorem dX0_countMisread_14 : decode cX0_countMisread 14 = .ok (.getfield 15, 3) := by decide +kernel
theorem dX0_countMisread_17 : decode cX0_countMisread 17 = .ok (.iload_n 3, 1) := by decide +kernel
theorem dX0_countMisread_18 : decode cX0_countMisread 18 = .ok (.iaload, 1) := by decide +kernel
theorem dX0_countMisread_19 : decode cX0_countMisread 19 = .ok (.invokevirtual 73, 3) := by decide +kernel
theorem dX0_countMisread_22 : decode cX0_countMisread 22 = .ok (.istore 4, 2) := by decide +kernel
theorem dX0_countMisread_24 : decode cX0_countMisread 24 = .ok (.iload 4, 2) := by decide +kernel
theorem dX0_countMisread_26 : decode cX0_countMisread 26 = .ok (.iconst (-1), 1) := by decide +kernel
theorem dX0_countMisread_27 : decode cX0_countMisread 27 = .ok (.if_icmp .eq 17, 3) := by decide +kernel
theorem dX0_countMisread_30 : decode cX0_countMisread 30 = .ok (.iload 4, 2) := by decide +kernel
theorem dX0_countMisread_32 : decode cX0_countMisread 32 = .ok (.aload_n 1, 1) := by decide +kernel
theorem dX0_countMisread_33 : decode cX0_countMisread 33 = .ok (.getfield 19, 3) := by decide +kernel
theorem dX0_countMisread_36 : decode cX0_countMisread 36 = .ok (.iload_n 3, 1) := by decide +kernel
theorem dX0_countMisread_37 : decode cX0_countMisread 37 = .ok (.iaload, 1) := by decide +kernel
theorem dX0_countMisread_38 : decode cX0_countMisread 38 = .ok (.if_icmp .eq 6, 3) := by decide +kernel
theorem dX0_countMisread_41 : decode cX0_countMisread 41 = .ok (.iinc 2 1, 3) := by decide +kernel
theorem dX0_countMisread_44 : decode cX0_countMisread 44 = .ok (.iinc 3 1, 3) := by decide +kernel
theorem dX0_countMisread_47 : decode cX0_countMisread 47 = .ok (.goto (-43), 3) := by decide +kernel
theorem dX0_countMisread_50 : decode cX0_countMisread 50 = .ok (.iload_n 2, 1) := by decide +kernel
theorem dX0_countMisread_51 : decode cX0_countMisread 51 = .ok (.ireturn, 1) := by decide +kernel
theorem dX0_countCommon_0 : decode cX0_countCommon 0 = .ok (.iconst 0, 1) := by decide +kernel
theorem dX0_countCommon_1 : decode cX0_countCommon 1 = .ok (.istore_n 2, 1) := by decide +kernel
theorem dX0_countCommon_2 : decode cX0_countCommon 2 = .ok (.iconst 0, 1) := by decide +kernel
theorem dX0_countCommon_3 : decode cX0_countCommon 3 = .ok (.istore_n 3, 1) := by decide +kernel
theorem dX0_countCommon_4 : decode cX0_countCommon 4 = .ok (.iload_n 3, 1) := by decide +kernel
theorem dX0_countCommon_5 : decode cX0_countCommon 5 = .ok (.aload_n 0, 1) := by decide +kernel
theorem dX0_countCommon_6 : decode cX0_countCommon 6 = .ok (.getfield 22, 3) := by decide +kernel
theorem dX0_countCommon_9 : decode cX0_countCommon 9 = .ok (.if_icmp .ge 65, 3) := by decide +kernel
theorem dX0_countCommon_12 : decode cX0_countCommon 12 = .ok (.aload_n 0, 1) := by decide +kernel
theorem dX0_countCommon_13 : decode cX0_countCommon 13 = .ok (.getfield 19, 3) := by decide +kernel
theorem dX0_countCommon_16 : decode cX0_countCommon 16 = .ok (.iload_n 3, 1) := by decide +kernel
theorem dX0_countCommon_17 : decode cX0_countCommon 17 = .ok (.iaload, 1) := by decide +kernel
theorem dX0_countCommon_18 : decode cX0_countCommon 18 = .ok (.istore 4, 2) := by decide +kernel
theorem dX0_countCommon_20 : decode cX0_countCommon 20 = .ok (.aload_n 1, 1) := by decide +kernel
theorem dX0_countCommon_21 : decode cX0_countCommon 21 = .ok (.iload 4, 2) := by decide +kernel
theorem dX0_countCommon_23 : decode cX0_countCommon 23 = .ok (.invokevirtual 32, 3) := by decide +kernel
theorem dX0_countCommon_26 : decode cX0_countCommon 26 = .ok (.istore 5, 2) := by decide +kernel
theorem dX0_countCommon_28 : decode cX0_countCommon 28 = .ok (.iload 5, 2) := by decide +kernel
theorem dX0_countCommon_30 : decode cX0_countCommon 30 = .ok (.iconst (-1), 1) := by decide +kernel
theorem dX0_countCommon_31 : decode cX0_countCommon 31 = .ok (.if_icmp .eq 37, 3) := by decide +kernel
theorem dX0_countCommon_34 : decode cX0_countCommon 34 = .ok (.aload_n 1, 1) := by decide +kernel
theorem dX0_countCommon_35 : decode cX0_countCommon 35 = .ok (.aload_n 0, 1) := by decide +kernel
theorem dX0_countCommon_36 : decode cX0_countCommon 36 = .ok (.getfield 15, 3) := by decide +kernel
theorem dX0_countCommon_39 : decode cX0_countCommon 39 = .ok (.iload_n 3, 1) := by decide +kernel
theorem dX0_countCommon_40 : decode cX0_countCommon 40 = .ok (.iaload, 1) := by decide +kernel
theorem dX0_countCommon_41 : decode cX0_countCommon 41 = .ok (.invokevirtual 73, 3) := by decide +kernel
theorem dX0_countCommon_44 : decode cX0_countCommon 44 = .ok (.iload 4, 2) := by decide +kernel
theorem dX0_countCommon_46 : decode cX0_countCommon 46 = .ok (.if_icmp .ne 22, 3) := by decide +kernel
theorem dX0_countCommon_49 : decode cX0_countCommon 49 = .ok (.aload_n 0, 1) := by decide +kernel
theorem dX0_countCommon_50 : decode cX0_countCommon 50 = .ok (.aload_n 1, 1) := by decide +kernel
theorem dX0_countCommon_51 : decode cX0_countCommon 51 = .ok (.getfield 15, 3) := by decide +kernel
theorem dX0_countCommon_54 : decode cX0_countCommon 54 = .ok (.iload 5, 2) := by decide +kernel
theorem dX0_countCommon_56 : decode cX0_countCommon 56 = .ok (.iaload, 1) := by decide +kernel
theorem dX0_countCommon_57 : decode cX0_countCommon 57 = .ok (.invokevirtual 73, 3) := by decide +kernel
theorem dX0_countCommon_60 : decode cX0_countCommon 60 = .ok (.iload 4, 2) := by decide +kernel
theorem dX0_countCommon_62 : decode cX0_countCommon 62 = .ok (.if_icmp .ne 6, 3) := by decide +kernel
theorem dX0_countCommon_65 : decode cX0_countCommon 65 = .ok (.iinc 2 1, 3) := by decide +kernel
theorem dX0_countCommon_68 : decode cX0_countCommon 68 = .ok (.iinc 3 1, 3) := by decide +kernel
theorem dX0_countCommon_71 : decode cX0_countCommon 71 = .ok (.goto (-67), 3) := by decide +kernel
theorem dX0_countCommon_74 : decode cX0_countCommon 74 = .ok (.iload_n 2, 1) := by decide +kernel
theorem dX0_countCommon_75 : decode cX0_countCommon 75 = .ok (.ireturn, 1) := by decide +kernel
theorem dX1_of_0 : decode cX1_of 0 = .ok (.iload_n 0, 1) := by decide +kernel
theorem dX1_of_1 : decode cX1_of 1 = .ok (.iload_n 1, 1) := by decide +kernel
theorem dX1_of_2 : decode cX1_of 2 = .ok (.iconst 4, 1) := by decide +kernel
theorem dX1_of_3 : decode cX1_of 3 = .ok (.ishl, 1) := by decide +kernel
theorem dX1_of_4 : decode cX1_of 4 = .ok (.ior, 1) := by decide +kernel
theorem dX1_of_5 : decode cX1_of 5 = .ok (.iload_n 3, 1) := by decide +kernel
theorem dX1_of_6 : decode cX1_of 6 = .ok (.bipush 6, 2) := by decide +kernel
theorem dX1_of_8 : decode cX1_of 8 = .ok (.ishl, 1) := by decide +kernel
theorem dX1_of_9 : decode cX1_of 9 = .ok (.ior, 1) := by decide +kernel
theorem dX1_of_10 : decode cX1_of 10 = .ok (.iload_n 2, 1) := by decide +kernel
theorem dX1_of_11 : decode cX1_of 11 = .ok (.bipush 8, 2) := by decide +kernel
theorem dX1_of_13 : decode cX1_of 13 = .ok (.ishl, 1) := by decide +kernel
theorem dX1_of_14 : decode cX1_of 14 = .ok (.ior, 1) := by decide +kernel
theorem dX1_of_15 : decode cX1_of 15 = .ok (.ireturn, 1) := by decide +kernel
theorem dX1_shape_0 : decode cX1_shape 0 = .ok (.iload_n 0, 1) := by decide +kernel
theorem dX1_shape_1 : decode cX1_shape 1 = .ok (.bipush 15, 2) := by decide +kernel
theorem dX1_shape_3 : decode cX1_shape 3 = .ok (.iand, 1) := by decide +kernel
theorem dX1_shape_4 : decode cX1_shape 4 = .ok (.ireturn, 1) := by decide +kernel
theorem dX1_thumb_0 : decode cX1_thumb 0 = .ok (.iload_n 0, 1) := by decide +kernel
theorem dX1_thumb_1 : decode cX1_thumb 1 = .ok (.iconst 4, 1) := by decide +kernel
theorem dX1_thumb_2 : decode cX1_thumb 2 = .ok (.ishr, 1) := by decide +kernel
theorem dX1_thumb_3 : decode cX1_thumb 3 = .ok (.iconst 3, 1) := by decide +kernel
theorem dX1_thumb_4 : decode cX1_thumb 4 = .ok (.iand, 1) := by decide +kernel
theorem dX1_thumb_5 : decode cX1_thumb 5 = .ok (.ireturn, 1) := by decide +kernel
theorem dX1_movement_0 : decode cX1_movement 0 = .ok (.iload_n 0, 1) := by decide +kernel
theorem dX1_movement_1 : decode cX1_movement 1 = .ok (.bipush 6, 2) := by decide +kernel
theorem dX1_movement_3 : decode cX1_movement 3 = .ok (.ishr, 1) := by decide +kernel
theorem dX1_movement_4 : decode cX1_movement 4 = .ok (.iconst 3, 1) := by decide +kernel
theorem dX1_movement_5 : decode cX1_movement 5 = .ok (.iand, 1) := by decide +kernel
theorem dX1_movement_6 : decode cX1_movement 6 = .ok (.ireturn, 1) := by decide +kernel
theorem dX1_place_0 : decode cX1_place 0 = .ok (.iload_n 0, 1) := by decide +kernel
theorem dX1_place_1 : decode cX1_place 1 = .ok (.bipush 8, 2) := by decide +kernel
theorem dX1_place_3 : decode cX1_place 3 = .ok (.ishr, 1) := by decide +kernel
theorem dX1_place_4 : decode cX1_place 4 = .ok (.bipush 15, 2) := by decide +kernel
theorem dX1_place_6 : decode cX1_place 6 = .ok (.iand, 1) := by decide +kernel
theorem dX1_place_7 : decode cX1_place 7 = .ok (.ireturn, 1) := by decide +kernel
theorem dX1_withThumb_0 : decode cX1_withThumb 0 = .ok (.iload_n 0, 1) := by decide +kernel
theorem dX1_withThumb_1 : decode cX1_withThumb 1 = .ok (.bipush (-49), 2) := by decide +kernel
theorem dX1_withThumb_3 : decode cX1_withThumb 3 = .ok (.iand, 1) := by decide +kernel
theorem dX1_withThumb_4 : decode cX1_withThumb 4 = .ok (.iload_n 1, 1) := by decide +kernel
theorem dX1_withThumb_5 : decode cX1_withThumb 5 = .ok (.iconst 4, 1) := by decide +kernel
theorem dX1_withThumb_6 : decode cX1_withThumb 6 = .ok (.ishl, 1) := by decide +kernel
theorem dX1_withThumb_7 : decode cX1_withThumb 7 = .ok (.ior, 1) := by decide +kernel
theorem dX1_withThumb_8 : decode cX1_withThumb 8 = .ok (.ireturn, 1) := by decide +kernel
theorem dX1_sameButForPlace_0 : decode cX1_sameButForPlace 0 = .ok (.iload_n 0, 1) := by decide +kernel
theorem dX1_sameButForPlace_1 : decode cX1_sameButForPlace 1 = .ok (.iload_n 1, 1) := by decide +kernel
theorem dX1_sameButForPlace_2 : decode cX1_sameButForPlace 2 = .ok (.ixor, 1) := by decide +kernel
theorem dX1_sameButForPlace_3 : decode cX1_sameButForPlace 3 = .ok (.sipush (-3841), 3) := by decide +kernel
theorem dX1_sameButForPlace_6 : decode cX1_sameButForPlace 6 = .ok (.iand, 1) := by decide +kernel
theorem dX1_sameButForPlace_7 : decode cX1_sameButForPlace 7 = .ok (.ifCond .ne 7, 3) := by decide +kernel
theorem dX1_sameButForPlace_10 : decode cX1_sameButForPlace 10 = .ok (.iconst 1, 1) := by decide +kernel
theorem dX1_sameButForPlace_11 : decode cX1_sameButForPlace 11 = .ok (.goto 4, 3) := by decide +kernel
theorem dX1_sameButForPlace_14 : decode cX1_sameButForPlace 14 = .ok (.iconst 0, 1) := by decide +kernel
theorem dX1_sameButForPlace_15 : decode cX1_sameButForPlace 15 = .ok (.ireturn, 1) := by decide +kernel
theorem dX2_init_0 : decode cX2_init 0 = .ok (.aload_n 0, 1) := by decide +kernel
theorem dX2_init_1 : decode cX2_init 1 = .ok (.invokespecial 3, 3) := by decide +kernel
theorem dX2_init_4 : decode cX2_init 4 = .ok (.aload_n 0, 1) := by decide +kernel
theorem dX2_init_5 : decode cX2_init 5 = .ok (.bipush 9, 2) := by decide +kernel
theorem dX2_init_7 : decode cX2_init 7 = .ok (.newarray .int, 2) := by decide +kernel
theorem dX2_init_9 : decode cX2_init 9 = .ok (.putfield 9, 3) := by decide +kernel
theorem dX2_init_12 : decode cX2_init 12 = .ok (.iconst 0, 1) := by decide +kernel
theorem dX2_init_13 : decode cX2_init 13 = .ok (.istore_n 1, 1) := by decide +kernel
theorem dX2_init_14 : decode cX2_init 14 = .ok (.iload_n 1, 1) := by decide +kernel
theorem dX2_init_15 : decode cX2_init 15 = .ok (.bipush 9, 2) := by decide +kernel
theorem dX2_init_17 : decode cX2_init 17 = .ok (.if_icmp .ge 16, 3) := by decide +kernel
theorem dX2_init_20 : decode cX2_init 20 = .ok (.aload_n 0, 1) := by decide +kernel
theorem dX2_init_21 : decode cX2_init 21 = .ok (.getfield 9, 3) := by decide +kernel
theorem dX2_init_24 : decode cX2_init 24 = .ok (.iload_n 1, 1) := by decide +kernel
theorem dX2_init_25 : decode cX2_init 25 = .ok (.iload_n 1, 1) := by decide +kernel
theorem dX2_init_26 : decode cX2_init 26 = .ok (.iastore, 1) := by decide +kernel
theorem dX2_init_27 : decode cX2_init 27 = .ok (.iinc 1 1, 3) := by decide +kernel
theorem dX2_init_30 : decode cX2_init 30 = .ok (.goto (-16), 3) := by decide +kernel
theorem dX2_init_33 : decode cX2_init 33 = .ok (.aload_n 0, 1) := by decide +kernel
theorem dX2_init_34 : decode cX2_init 34 = .ok (.bipush 9, 2) := by decide +kernel
theorem dX2_init_36 : decode cX2_init 36 = .ok (.putfield 15, 3) := by decide +kernel
theorem dX2_init_39 : decode cX2_init 39 = .ok (.return_, 1) := by decide +kernel
theorem dX2_unite_0 : decode cX2_unite 0 = .ok (.aload_n 0, 1) := by decide +kernel
theorem dX2_unite_1 : decode cX2_unite 1 = .ok (.getfield 9, 3) := by decide +kernel
theorem dX2_unite_4 : decode cX2_unite 4 = .ok (.iload_n 1, 1) := by decide +kernel
theorem dX2_unite_5 : decode cX2_unite 5 = .ok (.iaload, 1) := by decide +kernel
theorem dX2_unite_6 : decode cX2_unite 6 = .ok (.istore_n 3, 1) := by decide +kernel
theorem dX2_unite_7 : decode cX2_unite 7 = .ok (.aload_n 0, 1) := by decide +kernel
theorem dX2_unite_8 : decode cX2_unite 8 = .ok (.getfield 9, 3) := by decide +kernel
theorem dX2_unite_11 : decode cX2_unite 11 = .ok (.iload_n 2, 1) := by decide +kernel
theorem dX2_unite_12 : decode cX2_unite 12 = .ok (.iaload, 1) := by decide +kernel
theorem dX2_unite_13 : decode cX2_unite 13 = .ok (.istore 4, 2) := by decide +kernel
theorem dX2_unite_15 : decode cX2_unite 15 = .ok (.iload_n 3, 1) := by decide +kernel
theorem dX2_unite_16 : decode cX2_unite 16 = .ok (.iload 4, 2) := by decide +kernel
theorem dX2_unite_18 : decode cX2_unite 18 = .ok (.if_icmp .ne 4, 3) := by decide +kernel
theorem dX2_unite_21 : decode cX2_unite 21 = .ok (.return_, 1) := by decide +kernel
theorem dX2_unite_22 : decode cX2_unite 22 = .ok (.iconst 0, 1) := by decide +kernel
theorem dX2_unite_23 : decode cX2_unite 23 = .ok (.istore 5, 2) := by decide +kernel
theorem dX2_unite_25 : decode cX2_unite 25 = .ok (.iload 5, 2) := by decide +kernel
theorem dX2_unite_27 : decode cX2_unite 27 = .ok (.bipush 9, 2) := by decide +kernel
theorem dX2_unite_29 : decode cX2_unite 29 = .ok (.if_icmp .ge 29, 3) := by decide +kernel
theorem dX2_unite_32 : decode cX2_unite 32 = .ok (.aload_n 0, 1) := by decide +kernel
theorem dX2_unite_33 : decode cX2_unite 33 = .ok (.getfield 9, 3) := by decide +kernel
theorem dX2_unite_36 : decode cX2_unite 36 = .ok (.iload 5, 2) := by decide +kernel
theorem dX2_unite_38 : decode cX2_unite 38 = .ok (.iaload, 1) := by decide +kernel
theorem dX2_unite_39 : decode cX2_unite 39 = .ok (.iload 4, 2) := by decide +kernel
theorem dX2_unite_41 : decode cX2_unite 41 = .ok (.if_icmp .ne 11, 3) := by decide +kernel
theorem dX2_unite_44 : decode cX2_unite 44 = .ok (.aload_n 0, 1) := by decide +kernel
theorem dX2_unite_45 : decode cX2_unite 45 = .ok (.getfield 9, 3) := by decide +kernel
theorem dX2_unite_48 : decode cX2_unite 48 = .ok (.iload 5, 2) := by decide +kernel
theorem dX2_unite_50 : decode cX2_unite 50 = .ok (.iload_n 3, 1) := by decide +kernel
theorem dX2_unite_51 : decode cX2_unite 51 = .ok (.iastore, 1) := by decide +kernel
theorem dX2_unite_52 : decode cX2_unite 52 = .ok (.iinc 5 1, 3) := by decide +kernel
theorem dX2_unite_55 : decode cX2_unite 55 = .ok (.goto (-30), 3) := by decide +kernel
theorem dX2_unite_58 : decode cX2_unite 58 = .ok (.aload_n 0, 1) := by decide +kernel
theorem dX2_unite_59 : decode cX2_unite 59 = .ok (.dup, 1) := by decide +kernel
theorem dX2_unite_60 : decode cX2_unite 60 = .ok (.getfield 15, 3) := by decide +kernel
theorem dX2_unite_63 : decode cX2_unite 63 = .ok (.iconst 1, 1) := by decide +kernel
theorem dX2_unite_64 : decode cX2_unite 64 = .ok (.isub, 1) := by decide +kernel
theorem dX2_unite_65 : decode cX2_unite 65 = .ok (.putfield 15, 3) := by decide +kernel
theorem dX2_unite_68 : decode cX2_unite 68 = .ok (.return_, 1) := by decide +kernel
theorem dX2_sameGroup_0 : decode cX2_sameGroup 0 = .ok (.aload_n 0, 1) := by decide +kernel
theorem dX2_sameGroup_1 : decode cX2_sameGroup 1 = .ok (.getfield 9, 3) := by decide +kernel
theorem dX2_sameGroup_4 : decode cX2_sameGroup 4 = .ok (.iload_n 1, 1) := by decide +kernel
theorem dX2_sameGroup_5 : decode cX2_sameGroup 5 = .ok (.iaload, 1) := by decide +kernel
theorem dX2_sameGroup_6 : decode cX2_sameGroup 6 = .ok (.aload_n 0, 1) := by decide +kernel
theorem dX2_sameGroup_7 : decode cX2_sameGroup 7 = .ok (.getfield 9, 3) := by decide +kernel
theorem dX2_sameGroup_10 : decode cX2_sameGroup 10 = .ok (.iload_n 2, 1) := by decide +kernel
theorem dX2_sameGroup_11 : decode cX2_sameGroup 11 = .ok (.iaload, 1) := by decide +kernel
theorem dX2_sameGroup_12 : decode cX2_sameGroup 12 = .ok (.if_icmp .ne 7, 3) := by decide +kernel
theorem dX2_sameGroup_15 : decode cX2_sameGroup 15 = .ok (.iconst 1, 1) := by decide +kernel
theorem dX2_sameGroup_16 : decode cX2_sameGroup 16 = .ok (.goto 4, 3) := by decide +kernel
theorem dX2_sameGroup_19 : decode cX2_sameGroup 19 = .ok (.iconst 0, 1) := by decide +kernel
theorem dX2_sameGroup_20 : decode cX2_sameGroup 20 = .ok (.ireturn, 1) := by decide +kernel
theorem dX2_stepsBetween_0 : decode cX2_stepsBetween 0 = .ok (.aload_n 0, 1) := by decide +kernel
theorem dX2_stepsBetween_1 : decode cX2_stepsBetween 1 = .ok (.iload_n 1, 1) := by decide +kernel
theorem dX2_stepsBetween_2 : decode cX2_stepsBetween 2 = .ok (.iload_n 2, 1) := by decide +kernel
theorem dX2_stepsBetween_3 : decode cX2_stepsBetween 3 = .ok (.invokevirtual 19, 3) := by decide +kernel
theorem dX2_stepsBetween_6 : decode cX2_stepsBetween 6 = .ok (.ifCond .eq 5, 3) := by decide +kernel
theorem dX2_stepsBetween_9 : decode cX2_stepsBetween 9 = .ok (.iconst 0, 1) := by decide +kernel
theorem dX2_stepsBetween_10 : decode cX2_stepsBetween 10 = .ok (.ireturn, 1) := by decide +kernel
theorem dX2_stepsBetween_11 : decode cX2_stepsBetween 11 = .ok (.iload_n 1, 1) := by decide +kernel
theorem dX2_stepsBetween_12 : decode cX2_stepsBetween 12 = .ok (.iconst 3, 1) := by decide +kernel
theorem dX2_stepsBetween_13 : decode cX2_stepsBetween 13 = .ok (.idiv, 1) := by decide +kernel
theorem dX2_stepsBetween_14 : decode cX2_stepsBetween 14 = .ok (.iload_n 2, 1) := by decide +kernel
theorem dX2_stepsBetween_15 : decode cX2_stepsBetween 15 = .ok (.iconst 3, 1) := by decide +kernel
theorem dX2_stepsBetween_16 : decode cX2_stepsBetween 16 = .ok (.idiv, 1) := by decide +kernel
theorem dX2_stepsBetween_17 : decode cX2_stepsBetween 17 = .ok (.isub, 1) := by decide +kernel
theorem dX2_stepsBetween_18 : decode cX2_stepsBetween 18 = .ok (.invokestatic 23, 3) := by decide +kernel
theorem dX2_stepsBetween_21 : decode cX2_stepsBetween 21 = .ok (.istore_n 3, 1) := by decide +kernel
theorem dX2_stepsBetween_22 : decode cX2_stepsBetween 22 = .ok (.iload_n 1, 1) := by decide +kernel
theorem dX2_stepsBetween_23 : decode cX2_stepsBetween 23 = .ok (.iconst 3, 1) := by decide +kernel
theorem dX2_stepsBetween_24 : decode cX2_stepsBetween 24 = .ok (.irem, 1) := by decide +kernel
theorem dX2_stepsBetween_25 : decode cX2_stepsBetween 25 = .ok (.iload_n 2, 1) := by decide +kernel
theorem dX2_stepsBetween_26 : decode cX2_stepsBetween 26 = .ok (.iconst 3, 1) := by decide +kernel
theorem dX2_stepsBetween_27 : decode cX2_stepsBetween 27 = .ok (.irem, 1) := by decide +kernel
theorem dX2_stepsBetween_28 : decode cX2_stepsBetween 28 = .ok (.isub, 1) := by decide +kernel
theorem dX2_stepsBetween_29 : decode cX2_stepsBetween 29 = .ok (.invokestatic 23, 3) := by decide +kernel
theorem dX2_stepsBetween_32 : decode cX2_stepsBetween 32 = .ok (.istore 4, 2) := by decide +kernel
theorem dX2_stepsBetween_34 : decode cX2_stepsBetween 34 = .ok (.iload_n 3, 1) := by decide +kernel
theorem dX2_stepsBetween_35 : decode cX2_stepsBetween 35 = .ok (.iload 4, 2) := by decide +kernel
theorem dX2_stepsBetween_37 : decode cX2_stepsBetween 37 = .ok (.iadd, 1) := by decide +kernel
theorem dX2_stepsBetween_38 : decode cX2_stepsBetween 38 = .ok (.ireturn, 1) := by decide +kernel
theorem dX2_alike_0 : decode cX2_alike 0 = .ok (.iload_n 1, 1) := by decide +kernel
theorem dX2_alike_1 : decode cX2_alike 1 = .ok (.iload_n 2, 1) := by decide +kernel
theorem dX2_alike_2 : decode cX2_alike 2 = .ok (.invokestatic 29, 3) := by decide +kernel
theorem dX2_alike_5 : decode cX2_alike 5 = .ok (.ifCond .eq 22, 3) := by decide +kernel
theorem dX2_alike_8 : decode cX2_alike 8 = .ok (.aload_n 0, 1) := by decide +kernel
theorem dX2_alike_9 : decode cX2_alike 9 = .ok (.iload_n 1, 1) := by decide +kernel
theorem dX2_alike_10 : decode cX2_alike 10 = .ok (.invokestatic 34, 3) := by decide +kernel
theorem dX2_alike_13 : decode cX2_alike 13 = .ok (.iload_n 2, 1) := by decide +kernel
theorem dX2_alike_14 : decode cX2_alike 14 = .ok (.invokestatic 34, 3) := by decide +kernel
theorem dX2_alike_17 : decode cX2_alike 17 = .ok (.invokevirtual 19, 3) := by decide +kernel
theorem dX2_alike_20 : decode cX2_alike 20 = .ok (.ifCond .eq 7, 3) := by decide +kernel
theorem dX2_alike_23 : decode cX2_alike 23 = .ok (.iconst 1, 1) := by decide +kernel
theorem dX2_alike_24 : decode cX2_alike 24 = .ok (.goto 4, 3) := by decide +kernel
theorem dX2_alike_27 : decode cX2_alike 27 = .ok (.iconst 0, 1) := by decide +kernel
theorem dX2_alike_28 : decode cX2_alike 28 = .ok (.ireturn, 1) := by decide +kernel
theorem dX2_distance_0 : decode cX2_distance 0 = .ok (.iload_n 1, 1) := by decide +kernel
theorem dX2_distance_1 : decode cX2_distance 1 = .ok (.invokestatic 41, 3) := by decide +kernel
theorem dX2_distance_4 : decode cX2_distance 4 = .ok (.iload_n 2, 1) := by decide +kernel
theorem dX2_distance_5 : decode cX2_distance 5 = .ok (.invokestatic 41, 3) := by decide +kernel
theorem dX2_distance_8 : decode cX2_distance 8 = .ok (.ixor, 1) := by decide +kernel
theorem dX2_distance_9 : decode cX2_distance 9 = .ok (.invokestatic 44, 3) := by decide +kernel
theorem dX2_distance_12 : decode cX2_distance 12 = .ok (.istore_n 3, 1) := by decide +kernel
theorem dX2_distance_13 : decode cX2_distance 13 = .ok (.iload_n 1, 1) := by decide +kernel
theorem dX2_distance_14 : decode cX2_distance 14 = .ok (.invokestatic 49, 3) := by decide +kernel
theorem dX2_distance_17 : decode cX2_distance 17 = .ok (.iload_n 2, 1) := by decide +kernel
theorem dX2_distance_18 : decode cX2_distance 18 = .ok (.invokestatic 49, 3) := by decide +kernel
theorem dX2_distance_21 : decode cX2_distance 21 = .ok (.if_icmp .ne 7, 3) := by decide +kernel
theorem dX2_distance_24 : decode cX2_distance 24 = .ok (.iconst 0, 1) := by decide +kernel
theorem dX2_distance_25 : decode cX2_distance 25 = .ok (.goto 4, 3) := by decide +kernel
theorem dX2_distance_28 : decode cX2_distance 28 = .ok (.iconst 1, 1) := by decide +kernel
theorem dX2_distance_29 : decode cX2_distance 29 = .ok (.istore 4, 2) := by decide +kernel
theorem dX2_distance_31 : decode cX2_distance 31 = .ok (.iload_n 1, 1) := by decide +kernel
theorem dX2_distance_32 : decode cX2_distance 32 = .ok (.invokestatic 52, 3) := by decide +kernel
theorem dX2_distance_35 : decode cX2_distance 35 = .ok (.iload_n 2, 1) := by decide +kernel
theorem dX2_distance_36 : decode cX2_distance 36 = .ok (.invokestatic 52, 3) := by decide +kernel
theorem dX2_distance_39 : decode cX2_distance 39 = .ok (.if_icmp .ne 7, 3) := by decide +kernel
theorem dX2_distance_42 : decode cX2_distance 42 = .ok (.iconst 0, 1) := by decide +kernel
theorem dX2_distance_43 : decode cX2_distance 43 = .ok (.goto 4, 3) := by decide +kernel
theorem dX2_distance_46 : decode cX2_distance 46 = .ok (.iconst 2, 1) := by decide +kernel
theorem dX2_distance_47 : decode cX2_distance 47 = .ok (.istore 5, 2) := by decide +kernel
theorem dX2_distance_49 : decode cX2_distance 49 = .ok (.iload_n 3, 1) := by decide +kernel
theorem dX2_distance_50 : decode cX2_distance 50 = .ok (.iload 4, 2) := by decide +kernel
theorem dX2_distance_52 : decode cX2_distance 52 = .ok (.iadd, 1) := by decide +kernel
theorem dX2_distance_53 : decode cX2_distance 53 = .ok (.iload 5, 2) := by decide +kernel
theorem dX2_distance_55 : decode cX2_distance 55 = .ok (.iadd, 1) := by decide +kernel
theorem dX2_distance_56 : decode cX2_distance 56 = .ok (.aload_n 0, 1) := by decide +kernel
theorem dX2_distance_57 : decode cX2_distance 57 = .ok (.iload_n 1, 1) := by decide +kernel
theorem dX2_distance_58 : decode cX2_distance 58 = .ok (.invokestatic 34, 3) := by decide +kernel
theorem dX2_distance_61 : decode cX2_distance 61 = .ok (.iload_n 2, 1) := by decide +kernel
theorem dX2_distance_62 : decode cX2_distance 62 = .ok (.invokestatic 34, 3) := by decide +kernel
theorem dX2_distance_65 : decode cX2_distance 65 = .ok (.invokevirtual 55, 3) := by decide +kernel
theorem dX2_distance_68 : decode cX2_distance 68 = .ok (.iadd, 1) := by decide +kernel
theorem dX2_distance_69 : decode cX2_distance 69 = .ok (.ireturn, 1) := by decide +kernel
theorem dX3_init_0 : decode cX3_init 0 = .ok (.aload_n 0, 1) := by decide +kernel
theorem dX3_init_1 : decode cX3_init 1 = .ok (.invokespecial 1, 3) := by decide +kernel
theorem dX3_init_4 : decode cX3_init 4 = .ok (.aload_n 0, 1) := by decide +kernel
theorem dX3_init_5 : decode cX3_init 5 = .ok (.new 7, 3) := by decide +kernel
theorem dX3_init_8 : decode cX3_init 8 = .ok (.dup, 1) := by decide +kernel
theorem dX3_init_9 : decode cX3_init 9 = .ok (.invokespecial 9, 3) := by decide +kernel
theorem dX3_init_12 : decode cX3_init 12 = .ok (.putfield 10, 3) := by decide +kernel
theorem dX3_init_15 : decode cX3_init 15 = .ok (.aload_n 0, 1) := by decide +kernel
theorem dX3_init_16 : decode cX3_init 16 = .ok (.iconst 4, 1) := by decide +kernel
theorem dX3_init_17 : decode cX3_init 17 = .ok (.anewarray 16, 3) := by decide +kernel
theorem dX3_init_20 : decode cX3_init 20 = .ok (.putfield 18, 3) := by decide +kernel
theorem dX3_init_23 : decode cX3_init 23 = .ok (.iconst 0, 1) := by decide +kernel
theorem dX3_init_24 : decode cX3_init 24 = .ok (.istore_n 1, 1) := by decide +kernel
theorem dX3_init_25 : decode cX3_init 25 = .ok (.iload_n 1, 1) := by decide +kernel
theorem dX3_init_26 : decode cX3_init 26 = .ok (.iconst 4, 1) := by decide +kernel
theorem dX3_init_27 : decode cX3_init 27 = .ok (.if_icmp .ge 26, 3) := by decide +kernel
theorem dX3_init_30 : decode cX3_init 30 = .ok (.aload_n 0, 1) := by decide +kernel
theorem dX3_init_31 : decode cX3_init 31 = .ok (.getfield 18, 3) := by decide +kernel
theorem dX3_init_34 : decode cX3_init 34 = .ok (.iload_n 1, 1) := by decide +kernel
theorem dX3_init_35 : decode cX3_init 35 = .ok (.new 16, 3) := by decide +kernel
theorem dX3_init_38 : decode cX3_init 38 = .ok (.dup, 1) := by decide +kernel
theorem dX3_init_39 : decode cX3_init 39 = .ok (.aload_n 0, 1) := by decide +kernel
theorem dX3_init_40 : decode cX3_init 40 = .ok (.getfield 10, 3) := by decide +kernel
theorem dX3_init_43 : decode cX3_init 43 = .ok (.invokespecial 22, 3) := by decide +kernel
theorem dX3_init_46 : decode cX3_init 46 = .ok (.aastore, 1) := by decide +kernel
theorem dX3_init_47 : decode cX3_init 47 = .ok (.iinc 1 1, 3) := by decide +kernel
theorem dX3_init_50 : decode cX3_init 50 = .ok (.goto (-25), 3) := by decide +kernel
theorem dX3_init_53 : decode cX3_init 53 = .ok (.aload_n 0, 1) := by decide +kernel
theorem dX3_init_54 : decode cX3_init 54 = .ok (.new 16, 3) := by decide +kernel
theorem dX3_init_57 : decode cX3_init 57 = .ok (.dup, 1) := by decide +kernel
theorem dX3_init_58 : decode cX3_init 58 = .ok (.aload_n 0, 1) := by decide +kernel
theorem dX3_init_59 : decode cX3_init 59 = .ok (.getfield 10, 3) := by decide +kernel
theorem dX3_init_62 : decode cX3_init 62 = .ok (.invokespecial 22, 3) := by decide +kernel
theorem dX3_init_65 : decode cX3_init 65 = .ok (.putfield 25, 3) := by decide +kernel
theorem dX3_init_68 : decode cX3_init 68 = .ok (.aload_n 0, 1) := by decide +kernel
theorem dX3_init_69 : decode cX3_init 69 = .ok (.iconst 0, 1) := by decide +kernel
theorem dX3_init_70 : decode cX3_init 70 = .ok (.putfield 29, 3) := by decide +kernel
theorem dX3_init_73 : decode cX3_init 73 = .ok (.return_, 1) := by decide +kernel
theorem dX3_addLodge_0 : decode cX3_addLodge 0 = .ok (.aload_n 0, 1) := by decide +kernel
theorem dX3_addLodge_1 : decode cX3_addLodge 1 = .ok (.getfield 29, 3) := by decide +kernel
theorem dX3_addLodge_4 : decode cX3_addLodge 4 = .ok (.iconst 4, 1) := by decide +kernel
theorem dX3_addLodge_5 : decode cX3_addLodge 5 = .ok (.if_icmp .lt 13, 3) := by decide +kernel
theorem dX3_addLodge_8 : decode cX3_addLodge 8 = .ok (.new 33, 3) := by decide +kernel
theorem dX3_addLodge_11 : decode cX3_addLodge 11 = .ok (.dup, 1) := by decide +kernel
theorem dX3_addLodge_12 : decode cX3_addLodge 12 = .ok (.ldc 35, 2) := by decide +kernel
theorem dX3_addLodge_14 : decode cX3_addLodge 14 = .ok (.invokespecial 37, 3) := by decide +kernel
theorem dX3_addLodge_17 : decode cX3_addLodge 17 = .ok (.athrow, 1) := by decide +kernel
theorem dX3_addLodge_18 : decode cX3_addLodge 18 = .ok (.aload_n 0, 1) := by decide +kernel
theorem dX3_addLodge_19 : decode cX3_addLodge 19 = .ok (.dup, 1) := by decide +kernel
theorem dX3_addLodge_20 : decode cX3_addLodge 20 = .ok (.getfield 29, 3) := by decide +kernel
theorem dX3_addLodge_23 : decode cX3_addLodge 23 = .ok (.iconst 1, 1) := by decide +kernel
theorem dX3_addLodge_24 : decode cX3_addLodge 24 = .ok (.iadd, 1) := by decide +kernel
theorem dX3_addLodge_25 : decode cX3_addLodge 25 = .ok (.putfield 29, 3) := by decide +kernel
theorem dX3_addLodge_28 : decode cX3_addLodge 28 = .ok (.aload_n 0, 1) := by decide +kernel
theorem dX3_addLodge_29 : decode cX3_addLodge 29 = .ok (.getfield 29, 3) := by decide +kernel
theorem dX3_addLodge_32 : decode cX3_addLodge 32 = .ok (.iconst 1, 1) := by decide +kernel
theorem dX3_addLodge_33 : decode cX3_addLodge 33 = .ok (.isub, 1) := by decide +kernel
theorem dX3_addLodge_34 : decode cX3_addLodge 34 = .ok (.ireturn, 1) := by decide +kernel
theorem dX3_addSign_0 : decode cX3_addSign 0 = .ok (.aload_n 0, 1) := by decide +kernel
theorem dX3_addSign_1 : decode cX3_addSign 1 = .ok (.iload_n 1, 1) := by decide +kernel
theorem dX3_addSign_2 : decode cX3_addSign 2 = .ok (.invokevirtual 40, 3) := by decide +kernel
theorem dX3_addSign_5 : decode cX3_addSign 5 = .ok (.astore 7, 2) := by decide +kernel
theorem dX3_addSign_7 : decode cX3_addSign 7 = .ok (.iload_n 2, 1) := by decide +kernel
theorem dX3_addSign_8 : decode cX3_addSign 8 = .ok (.iload_n 3, 1) := by decide +kernel
theorem dX3_addSign_9 : decode cX3_addSign 9 = .ok (.iload 4, 2) := by decide +kernel
theorem dX3_addSign_11 : decode cX3_addSign 11 = .ok (.iload 5, 2) := by decide +kernel
theorem dX3_addSign_13 : decode cX3_addSign 13 = .ok (.invokestatic 44, 3) := by decide +kernel
theorem dX3_addSign_16 : decode cX3_addSign 16 = .ok (.iload 6, 2) := by decide +kernel
theorem dX3_addSign_18 : decode cX3_addSign 18 = .ok (.bipush 30, 2) := by decide +kernel
theorem dX3_addSign_20 : decode cX3_addSign 20 = .ok (.invokestatic 48, 3) := by decide +kernel
theorem dX3_addSign_23 : decode cX3_addSign 23 = .ok (.ifCond .ne 13, 3) := by decide +kernel
theorem dX3_addSign_26 : decode cX3_addSign 26 = .ok (.new 52, 3) := by decide +kernel
theorem dX3_addSign_29 : decode cX3_addSign 29 = .ok (.dup, 1) := by decide +kernel
theorem dX3_addSign_30 : decode cX3_addSign 30 = .ok (.ldc 54, 2) := by decide +kernel
theorem dX3_addSign_32 : decode cX3_addSign 32 = .ok (.invokespecial 56, 3) := by decide +kernel
theorem dX3_addSign_35 : decode cX3_addSign 35 = .ok (.athrow, 1) := by decide +kernel
theorem dX3_addSign_36 : decode cX3_addSign 36 = .ok (.aload 7, 2) := by decide +kernel
theorem dX3_addSign_38 : decode cX3_addSign 38 = .ok (.iload 6, 2) := by decide +kernel
theorem dX3_addSign_40 : decode cX3_addSign 40 = .ok (.invokevirtual 57, 3) := by decide +kernel
theorem dX3_addSign_43 : decode cX3_addSign 43 = .ok (.ifCond .ne 13, 3) := by decide +kernel
theorem dX3_addSign_46 : decode cX3_addSign 46 = .ok (.new 33, 3) := by decide +kernel
theorem dX3_addSign_49 : decode cX3_addSign 49 = .ok (.dup, 1) := by decide +kernel
theorem dX3_addSign_50 : decode cX3_addSign 50 = .ok (.ldc 61, 2) := by decide +kernel
theorem dX3_addSign_52 : decode cX3_addSign 52 = .ok (.invokespecial 37, 3) := by decide +kernel
theorem dX3_addSign_55 : decode cX3_addSign 55 = .ok (.athrow, 1) := by decide +kernel
theorem dX3_addSign_56 : decode cX3_addSign 56 = .ok (.aload 7, 2) := by decide +kernel
theorem dX3_addSign_58 : decode cX3_addSign 58 = .ok (.iload_n 2, 1) := by decide +kernel
theorem dX3_addSign_59 : decode cX3_addSign 59 = .ok (.iload_n 3, 1) := by decide +kernel
theorem dX3_addSign_60 : decode cX3_addSign 60 = .ok (.iload 4, 2) := by decide +kernel
theorem dX3_addSign_62 : decode cX3_addSign 62 = .ok (.iload 5, 2) := by decide +kernel
theorem dX3_addSign_64 : decode cX3_addSign 64 = .ok (.invokestatic 63, 3) := by decide +kernel
theorem dX3_addSign_67 : decode cX3_addSign 67 = .ok (.iload 6, 2) := by decide +kernel
theorem dX3_addSign_69 : decode cX3_addSign 69 = .ok (.invokevirtual 69, 3) := by decide +kernel
theorem dX3_addSign_72 : decode cX3_addSign 72 = .ok (.ireturn, 1) := by decide +kernel
theorem dX3_forget_0 : decode cX3_forget 0 = .ok (.aload_n 0, 1) := by decide +kernel
theorem dX3_forget_1 : decode cX3_forget 1 = .ok (.iload_n 1, 1) := by decide +kernel
theorem dX3_forget_2 : decode cX3_forget 2 = .ok (.invokevirtual 40, 3) := by decide +kernel
theorem dX3_forget_5 : decode cX3_forget 5 = .ok (.astore_n 3, 1) := by decide +kernel
theorem dX3_forget_6 : decode cX3_forget 6 = .ok (.aload_n 3, 1) := by decide +kernel
theorem dX3_forget_7 : decode cX3_forget 7 = .ok (.iload_n 2, 1) := by decide +kernel
theorem dX3_forget_8 : decode cX3_forget 8 = .ok (.invokestatic 73, 3) := by decide +kernel
theorem dX3_forget_11 : decode cX3_forget 11 = .ok (.aload_n 3, 1) := by decide +kernel
theorem dX3_forget_12 : decode cX3_forget 12 = .ok (.iload_n 2, 1) := by decide +kernel
theorem dX3_forget_13 : decode cX3_forget 13 = .ok (.invokevirtual 77, 3) := by decide +kernel
theorem dX3_forget_16 : decode cX3_forget 16 = .ok (.ireturn, 1) := by decide +kernel
theorem dX3_setThumb_0 : decode cX3_setThumb 0 = .ok (.aload_n 0, 1) := by decide +kernel
theorem dX3_setThumb_1 : decode cX3_setThumb 1 = .ok (.iload_n 1, 1) := by decide +kernel
theorem dX3_setThumb_2 : decode cX3_setThumb 2 = .ok (.invokevirtual 40, 3) := by decide +kernel
theorem dX3_setThumb_5 : decode cX3_setThumb 5 = .ok (.astore 4, 2) := by decide +kernel
theorem dX3_setThumb_7 : decode cX3_setThumb 7 = .ok (.aload 4, 2) := by decide +kernel
theorem dX3_setThumb_9 : decode cX3_setThumb 9 = .ok (.iload_n 2, 1) := by decide +kernel
theorem dX3_setThumb_10 : decode cX3_setThumb 10 = .ok (.invokestatic 73, 3) := by decide +kernel
theorem dX3_setThumb_13 : decode cX3_setThumb 13 = .ok (.iload_n 3, 1) := by decide +kernel
theorem dX3_setThumb_14 : decode cX3_setThumb 14 = .ok (.iconst 4, 1) := by decide +kernel
theorem dX3_setThumb_15 : decode cX3_setThumb 15 = .ok (.invokestatic 48, 3) := by decide +kernel
theorem dX3_setThumb_18 : decode cX3_setThumb 18 = .ok (.ifCond .ne 13, 3) := by decide +kernel
theorem dX3_setThumb_21 : decode cX3_setThumb 21 = .ok (.new 52, 3) := by decide +kernel
theorem dX3_setThumb_24 : decode cX3_setThumb 24 = .ok (.dup, 1) := by decide +kernel
theorem dX3_setThumb_25 : decode cX3_setThumb 25 = .ok (.ldc 81, 2) := by decide +kernel
theorem dX3_setThumb_27 : decode cX3_setThumb 27 = .ok (.invokespecial 56, 3) := by decide +kernel
theorem dX3_setThumb_30 : decode cX3_setThumb 30 = .ok (.athrow, 1) := by decide +kernel
theorem dX3_setThumb_31 : decode cX3_setThumb 31 = .ok (.aload 4, 2) := by decide +kernel
theorem dX3_setThumb_33 : decode cX3_setThumb 33 = .ok (.getfield 83, 3) := by decide +kernel
theorem dX3_setThumb_36 : decode cX3_setThumb 36 = .ok (.iload_n 2, 1) := by decide +kernel
theorem dX3_setThumb_37 : decode cX3_setThumb 37 = .ok (.iaload, 1) := by decide +kernel
theorem dX3_setThumb_38 : decode cX3_setThumb 38 = .ok (.invokestatic 87, 3) := by decide +kernel
theorem dX3_setThumb_41 : decode cX3_setThumb 41 = .ok (.istore 5, 2) := by decide +kernel
theorem dX3_setThumb_43 : decode cX3_setThumb 43 = .ok (.aload 4, 2) := by decide +kernel
theorem dX3_setThumb_45 : decode cX3_setThumb 45 = .ok (.getfield 83, 3) := by decide +kernel
theorem dX3_setThumb_48 : decode cX3_setThumb 48 = .ok (.iload_n 2, 1) := by decide +kernel
theorem dX3_setThumb_49 : decode cX3_setThumb 49 = .ok (.aload 4, 2) := by decide +kernel
theorem dX3_setThumb_51 : decode cX3_setThumb 51 = .ok (.getfield 83, 3) := by decide +kernel
theorem dX3_setThumb_54 : decode cX3_setThumb 54 = .ok (.iload_n 2, 1) := by decide +kernel
theorem dX3_setThumb_55 : decode cX3_setThumb 55 = .ok (.iaload, 1) := by decide +kernel
theorem dX3_setThumb_56 : decode cX3_setThumb 56 = .ok (.iload_n 3, 1) := by decide +kernel
theorem dX3_setThumb_57 : decode cX3_setThumb 57 = .ok (.invokestatic 90, 3) := by decide +kernel
theorem dX3_setThumb_60 : decode cX3_setThumb 60 = .ok (.iastore, 1) := by decide +kernel
theorem dX3_setThumb_61 : decode cX3_setThumb 61 = .ok (.iload 5, 2) := by decide +kernel
theorem dX3_setThumb_63 : decode cX3_setThumb 63 = .ok (.ireturn, 1) := by decide +kernel
theorem dX3_join_0 : decode cX3_join 0 = .ok (.iload_n 1, 1) := by decide +kernel
theorem dX3_join_1 : decode cX3_join 1 = .ok (.invokestatic 93, 3) := by decide +kernel
theorem dX3_join_4 : decode cX3_join 4 = .ok (.iload_n 2, 1) := by decide +kernel
theorem dX3_join_5 : decode cX3_join 5 = .ok (.invokestatic 93, 3) := by decide +kernel
theorem dX3_join_8 : decode cX3_join 8 = .ok (.aload_n 0, 1) := by decide +kernel
theorem dX3_join_9 : decode cX3_join 9 = .ok (.getfield 10, 3) := by decide +kernel
theorem dX3_join_12 : decode cX3_join 12 = .ok (.iload_n 1, 1) := by decide +kernel
theorem dX3_join_13 : decode cX3_join 13 = .ok (.iload_n 2, 1) := by decide +kernel
theorem dX3_join_14 : decode cX3_join 14 = .ok (.invokevirtual 97, 3) := by decide +kernel
theorem dX3_join_17 : decode cX3_join 17 = .ok (.aload_n 0, 1) := by decide +kernel
theorem dX3_join_18 : decode cX3_join 18 = .ok (.getfield 10, 3) := by decide +kernel
theorem dX3_join_21 : decode cX3_join 21 = .ok (.getfield 101, 3) := by decide +kernel
theorem dX3_join_24 : decode cX3_join 24 = .ok (.ireturn, 1) := by decide +kernel
theorem dX3_borrow_0 : decode cX3_borrow 0 = .ok (.aload_n 0, 1) := by decide +kernel
theorem dX3_borrow_1 : decode cX3_borrow 1 = .ok (.iload_n 1, 1) := by decide +kernel
theorem dX3_borrow_2 : decode cX3_borrow 2 = .ok (.invokevirtual 40, 3) := by decide +kernel
theorem dX3_borrow_5 : decode cX3_borrow 5 = .ok (.astore 4, 2) := by decide +kernel
theorem dX3_borrow_7 : decode cX3_borrow 7 = .ok (.aload_n 0, 1) := by decide +kernel
theorem dX3_borrow_8 : decode cX3_borrow 8 = .ok (.iload_n 3, 1) := by decide +kernel
theorem dX3_borrow_9 : decode cX3_borrow 9 = .ok (.invokevirtual 40, 3) := by decide +kernel
theorem dX3_borrow_12 : decode cX3_borrow 12 = .ok (.astore 5, 2) := by decide +kernel
theorem dX3_borrow_14 : decode cX3_borrow 14 = .ok (.aload 4, 2) := by decide +kernel
theorem dX3_borrow_16 : decode cX3_borrow 16 = .ok (.iload_n 2, 1) := by decide +kernel
theorem dX3_borrow_17 : decode cX3_borrow 17 = .ok (.invokestatic 73, 3) := by decide +kernel
theorem dX3_borrow_20 : decode cX3_borrow 20 = .ok (.iload_n 1, 1) := by decide +kernel
theorem dX3_borrow_21 : decode cX3_borrow 21 = .ok (.iload_n 3, 1) := by decide +kernel
theorem dX3_borrow_22 : decode cX3_borrow 22 = .ok (.if_icmp .ne 13, 3) := by decide +kernel
theorem dX3_borrow_25 : decode cX3_borrow 25 = .ok (.new 52, 3) := by decide +kernel
theorem dX3_borrow_28 : decode cX3_borrow 28 = .ok (.dup, 1) := by decide +kernel
theorem dX3_borrow_29 : decode cX3_borrow 29 = .ok (.ldc 104, 2) := by decide +kernel
theorem dX3_borrow_31 : decode cX3_borrow 31 = .ok (.invokespecial 56, 3) := by decide +kernel
theorem dX3_borrow_34 : decode cX3_borrow 34 = .ok (.athrow, 1) := by decide +kernel
theorem dX3_borrow_35 : decode cX3_borrow 35 = .ok (.aload 4, 2) := by decide +kernel
theorem dX3_borrow_37 : decode cX3_borrow 37 = .ok (.getfield 106, 3) := by decide +kernel
theorem dX3_borrow_40 : decode cX3_borrow 40 = .ok (.iload_n 2, 1) := by decide +kernel
theorem dX3_borrow_41 : decode cX3_borrow 41 = .ok (.iaload, 1) := by decide +kernel
theorem dX3_borrow_42 : decode cX3_borrow 42 = .ok (.istore 6, 2) := by decide +kernel
theorem dX3_borrow_44 : decode cX3_borrow 44 = .ok (.aload 5, 2) := by decide +kernel
theorem dX3_borrow_46 : decode cX3_borrow 46 = .ok (.iload 6, 2) := by decide +kernel
theorem dX3_borrow_48 : decode cX3_borrow 48 = .ok (.invokevirtual 57, 3) := by decide +kernel
theorem dX3_borrow_51 : decode cX3_borrow 51 = .ok (.ifCond .ne 13, 3) := by decide +kernel
theorem dX3_borrow_54 : decode cX3_borrow 54 = .ok (.new 33, 3) := by decide +kernel
theorem dX3_borrow_57 : decode cX3_borrow 57 = .ok (.dup, 1) := by decide +kernel
theorem dX3_borrow_58 : decode cX3_borrow 58 = .ok (.ldc 61, 2) := by decide +kernel
theorem dX3_borrow_60 : decode cX3_borrow 60 = .ok (.invokespecial 37, 3) := by decide +kernel
theorem dX3_borrow_63 : decode cX3_borrow 63 = .ok (.athrow, 1) := by decide +kernel
theorem dX3_borrow_64 : decode cX3_borrow 64 = .ok (.aload 5, 2) := by decide +kernel
theorem dX3_borrow_66 : decode cX3_borrow 66 = .ok (.aload 4, 2) := by decide +kernel
theorem dX3_borrow_68 : decode cX3_borrow 68 = .ok (.getfield 83, 3) := by decide +kernel
theorem dX3_borrow_71 : decode cX3_borrow 71 = .ok (.iload_n 2, 1) := by decide +kernel
theorem dX3_borrow_72 : decode cX3_borrow 72 = .ok (.iaload, 1) := by decide +kernel
theorem dX3_borrow_73 : decode cX3_borrow 73 = .ok (.invokevirtual 109, 3) := by decide +kernel
theorem dX3_borrow_76 : decode cX3_borrow 76 = .ok (.istore 7, 2) := by decide +kernel
theorem dX3_borrow_78 : decode cX3_borrow 78 = .ok (.iload 7, 2) := by decide +kernel
theorem dX3_borrow_80 : decode cX3_borrow 80 = .ok (.iconst (-1), 1) := by decide +kernel
theorem dX3_borrow_81 : decode cX3_borrow 81 = .ok (.if_icmp .ne 13, 3) := by decide +kernel
theorem dX3_borrow_84 : decode cX3_borrow 84 = .ok (.new 33, 3) := by decide +kernel
theorem dX3_borrow_87 : decode cX3_borrow 87 = .ok (.dup, 1) := by decide +kernel
theorem dX3_borrow_88 : decode cX3_borrow 88 = .ok (.ldc 112, 2) := by decide +kernel
theorem dX3_borrow_90 : decode cX3_borrow 90 = .ok (.invokespecial 37, 3) := by decide +kernel
theorem dX3_borrow_93 : decode cX3_borrow 93 = .ok (.athrow, 1) := by decide +kernel
theorem dX3_borrow_94 : decode cX3_borrow 94 = .ok (.aload 5, 2) := by decide +kernel
theorem dX3_borrow_96 : decode cX3_borrow 96 = .ok (.iload 7, 2) := by decide +kernel
theorem dX3_borrow_98 : decode cX3_borrow 98 = .ok (.iload 6, 2) := by decide +kernel
theorem dX3_borrow_100 : decode cX3_borrow 100 = .ok (.invokevirtual 69, 3) := by decide +kernel
theorem dX3_borrow_103 : decode cX3_borrow 103 = .ok (.ireturn, 1) := by decide +kernel
theorem dX3_groups_0 : decode cX3_groups 0 = .ok (.aload_n 0, 1) := by decide +kernel
theorem dX3_groups_1 : decode cX3_groups 1 = .ok (.getfield 10, 3) := by decide +kernel
theorem dX3_groups_4 : decode cX3_groups 4 = .ok (.getfield 101, 3) := by decide +kernel
theorem dX3_groups_7 : decode cX3_groups 7 = .ok (.ireturn, 1) := by decide +kernel
theorem dX3_areJoined_0 : decode cX3_areJoined 0 = .ok (.iload_n 1, 1) := by decide +kernel
theorem dX3_areJoined_1 : decode cX3_areJoined 1 = .ok (.invokestatic 93, 3) := by decide +kernel
theorem dX3_areJoined_4 : decode cX3_areJoined 4 = .ok (.iload_n 2, 1) := by decide +kernel
theorem dX3_areJoined_5 : decode cX3_areJoined 5 = .ok (.invokestatic 93, 3) := by decide +kernel
theorem dX3_areJoined_8 : decode cX3_areJoined 8 = .ok (.aload_n 0, 1) := by decide +kernel
theorem dX3_areJoined_9 : decode cX3_areJoined 9 = .ok (.getfield 10, 3) := by decide +kernel
theorem dX3_areJoined_12 : decode cX3_areJoined 12 = .ok (.iload_n 1, 1) := by decide +kernel
theorem dX3_areJoined_13 : decode cX3_areJoined 13 = .ok (.iload_n 2, 1) := by decide +kernel
theorem dX3_areJoined_14 : decode cX3_areJoined 14 = .ok (.invokevirtual 114, 3) := by decide +kernel
theorem dX3_areJoined_17 : decode cX3_areJoined 17 = .ok (.ireturn, 1) := by decide +kernel
theorem dX3_steps_0 : decode cX3_steps 0 = .ok (.iload_n 1, 1) := by decide +kernel
theorem dX3_steps_1 : decode cX3_steps 1 = .ok (.invokestatic 93, 3) := by decide +kernel
theorem dX3_steps_4 : decode cX3_steps 4 = .ok (.iload_n 2, 1) := by decide +kernel
theorem dX3_steps_5 : decode cX3_steps 5 = .ok (.invokestatic 93, 3) := by decide +kernel
theorem dX3_steps_8 : decode cX3_steps 8 = .ok (.aload_n 0, 1) := by decide +kernel
theorem dX3_steps_9 : decode cX3_steps 9 = .ok (.getfield 10, 3) := by decide +kernel
theorem dX3_steps_12 : decode cX3_steps 12 = .ok (.iload_n 1, 1) := by decide +kernel
theorem dX3_steps_13 : decode cX3_steps 13 = .ok (.iload_n 2, 1) := by decide +kernel
theorem dX3_steps_14 : decode cX3_steps 14 = .ok (.invokevirtual 117, 3) := by decide +kernel
theorem dX3_steps_17 : decode cX3_steps 17 = .ok (.ireturn, 1) := by decide +kernel
theorem dX3_lodges_0 : decode cX3_lodges 0 = .ok (.aload_n 0, 1) := by decide +kernel
theorem dX3_lodges_1 : decode cX3_lodges 1 = .ok (.getfield 29, 3) := by decide +kernel
theorem dX3_lodges_4 : decode cX3_lodges 4 = .ok (.ireturn, 1) := by decide +kernel
theorem dX3_signsOf_0 : decode cX3_signsOf 0 = .ok (.aload_n 0, 1) := by decide +kernel
theorem dX3_signsOf_1 : decode cX3_signsOf 1 = .ok (.iload_n 1, 1) := by decide +kernel
theorem dX3_signsOf_2 : decode cX3_signsOf 2 = .ok (.invokevirtual 40, 3) := by decide +kernel
theorem dX3_signsOf_5 : decode cX3_signsOf 5 = .ok (.getfield 120, 3) := by decide +kernel
theorem dX3_signsOf_8 : decode cX3_signsOf 8 = .ok (.ireturn, 1) := by decide +kernel
theorem dX3_shapeOf_0 : decode cX3_shapeOf 0 = .ok (.aload_n 0, 1) := by decide +kernel
theorem dX3_shapeOf_1 : decode cX3_shapeOf 1 = .ok (.iload_n 1, 1) := by decide +kernel
theorem dX3_shapeOf_2 : decode cX3_shapeOf 2 = .ok (.iload_n 2, 1) := by decide +kernel
theorem dX3_shapeOf_3 : decode cX3_shapeOf 3 = .ok (.invokevirtual 123, 3) := by decide +kernel
theorem dX3_shapeOf_6 : decode cX3_shapeOf 6 = .ok (.invokestatic 126, 3) := by decide +kernel
theorem dX3_shapeOf_9 : decode cX3_shapeOf 9 = .ok (.ireturn, 1) := by decide +kernel
theorem dX3_thumbOf_0 : decode cX3_thumbOf 0 = .ok (.aload_n 0, 1) := by decide +kernel
theorem dX3_thumbOf_1 : decode cX3_thumbOf 1 = .ok (.iload_n 1, 1) := by decide +kernel
theorem dX3_thumbOf_2 : decode cX3_thumbOf 2 = .ok (.iload_n 2, 1) := by decide +kernel
theorem dX3_thumbOf_3 : decode cX3_thumbOf 3 = .ok (.invokevirtual 123, 3) := by decide +kernel
theorem dX3_thumbOf_6 : decode cX3_thumbOf 6 = .ok (.invokestatic 87, 3) := by decide +kernel
theorem dX3_thumbOf_9 : decode cX3_thumbOf 9 = .ok (.ireturn, 1) := by decide +kernel
theorem dX3_placeOf_0 : decode cX3_placeOf 0 = .ok (.aload_n 0, 1) := by decide +kernel
theorem dX3_placeOf_1 : decode cX3_placeOf 1 = .ok (.iload_n 1, 1) := by decide +kernel
theorem dX3_placeOf_2 : decode cX3_placeOf 2 = .ok (.iload_n 2, 1) := by decide +kernel
theorem dX3_placeOf_3 : decode cX3_placeOf 3 = .ok (.invokevirtual 123, 3) := by decide +kernel
theorem dX3_placeOf_6 : decode cX3_placeOf 6 = .ok (.invokestatic 129, 3) := by decide +kernel
theorem dX3_placeOf_9 : decode cX3_placeOf 9 = .ok (.ireturn, 1) := by decide +kernel
theorem dX3_meaningOf_0 : decode cX3_meaningOf 0 = .ok (.aload_n 0, 1) := by decide +kernel
theorem dX3_meaningOf_1 : decode cX3_meaningOf 1 = .ok (.iload_n 1, 1) := by decide +kernel
theorem dX3_meaningOf_2 : decode cX3_meaningOf 2 = .ok (.invokevirtual 40, 3) := by decide +kernel
theorem dX3_meaningOf_5 : decode cX3_meaningOf 5 = .ok (.astore_n 3, 1) := by decide +kernel
theorem dX3_meaningOf_6 : decode cX3_meaningOf 6 = .ok (.aload_n 3, 1) := by decide +kernel
theorem dX3_meaningOf_7 : decode cX3_meaningOf 7 = .ok (.iload_n 2, 1) := by decide +kernel
theorem dX3_meaningOf_8 : decode cX3_meaningOf 8 = .ok (.invokestatic 73, 3) := by decide +kernel
theorem dX3_meaningOf_11 : decode cX3_meaningOf 11 = .ok (.aload_n 3, 1) := by decide +kernel
theorem dX3_meaningOf_12 : decode cX3_meaningOf 12 = .ok (.getfield 106, 3) := by decide +kernel
theorem dX3_meaningOf_15 : decode cX3_meaningOf 15 = .ok (.iload_n 2, 1) := by decide +kernel
theorem dX3_meaningOf_16 : decode cX3_meaningOf 16 = .ok (.iaload, 1) := by decide +kernel
theorem dX3_meaningOf_17 : decode cX3_meaningOf 17 = .ok (.ireturn, 1) := by decide +kernel
theorem dX3_signFor_0 : decode cX3_signFor 0 = .ok (.aload_n 0, 1) := by decide +kernel
theorem dX3_signFor_1 : decode cX3_signFor 1 = .ok (.iload_n 1, 1) := by decide +kernel
theorem dX3_signFor_2 : decode cX3_signFor 2 = .ok (.invokevirtual 40, 3) := by decide +kernel
theorem dX3_signFor_5 : decode cX3_signFor 5 = .ok (.astore_n 3, 1) := by decide +kernel
theorem dX3_signFor_6 : decode cX3_signFor 6 = .ok (.iload_n 2, 1) := by decide +kernel
theorem dX3_signFor_7 : decode cX3_signFor 7 = .ok (.bipush 30, 2) := by decide +kernel
theorem dX3_signFor_9 : decode cX3_signFor 9 = .ok (.invokestatic 48, 3) := by decide +kernel
theorem dX3_signFor_12 : decode cX3_signFor 12 = .ok (.ifCond .ne 13, 3) := by decide +kernel
theorem dX3_signFor_15 : decode cX3_signFor 15 = .ok (.new 132, 3) := by decide +kernel
theorem dX3_signFor_18 : decode cX3_signFor 18 = .ok (.dup, 1) := by decide +kernel
theorem dX3_signFor_19 : decode cX3_signFor 19 = .ok (.ldc 54, 2) := by decide +kernel
theorem dX3_signFor_21 : decode cX3_signFor 21 = .ok (.invokespecial 134, 3) := by decide +kernel
theorem dX3_signFor_24 : decode cX3_signFor 24 = .ok (.athrow, 1) := by decide +kernel
theorem dX3_signFor_25 : decode cX3_signFor 25 = .ok (.aload_n 3, 1) := by decide +kernel
theorem dX3_signFor_26 : decode cX3_signFor 26 = .ok (.iload_n 2, 1) := by decide +kernel
theorem dX3_signFor_27 : decode cX3_signFor 27 = .ok (.invokevirtual 135, 3) := by decide +kernel
theorem dX3_signFor_30 : decode cX3_signFor 30 = .ok (.ireturn, 1) := by decide +kernel
theorem dX3_apart_0 : decode cX3_apart 0 = .ok (.aload_n 0, 1) := by decide +kernel
theorem dX3_apart_1 : decode cX3_apart 1 = .ok (.iload_n 1, 1) := by decide +kernel
theorem dX3_apart_2 : decode cX3_apart 2 = .ok (.invokevirtual 40, 3) := by decide +kernel
theorem dX3_apart_5 : decode cX3_apart 5 = .ok (.astore 4, 2) := by decide +kernel
theorem dX3_apart_7 : decode cX3_apart 7 = .ok (.aload 4, 2) := by decide +kernel
theorem dX3_apart_9 : decode cX3_apart 9 = .ok (.iload_n 2, 1) := by decide +kernel
theorem dX3_apart_10 : decode cX3_apart 10 = .ok (.invokestatic 73, 3) := by decide +kernel
theorem dX3_apart_13 : decode cX3_apart 13 = .ok (.aload 4, 2) := by decide +kernel
theorem dX3_apart_15 : decode cX3_apart 15 = .ok (.iload_n 3, 1) := by decide +kernel
theorem dX3_apart_16 : decode cX3_apart 16 = .ok (.invokestatic 73, 3) := by decide +kernel
theorem dX3_apart_19 : decode cX3_apart 19 = .ok (.aload_n 0, 1) := by decide +kernel
theorem dX3_apart_20 : decode cX3_apart 20 = .ok (.getfield 10, 3) := by decide +kernel
theorem dX3_apart_23 : decode cX3_apart 23 = .ok (.aload 4, 2) := by decide +kernel
theorem dX3_apart_25 : decode cX3_apart 25 = .ok (.getfield 83, 3) := by decide +kernel
theorem dX3_apart_28 : decode cX3_apart 28 = .ok (.iload_n 2, 1) := by decide +kernel
theorem dX3_apart_29 : decode cX3_apart 29 = .ok (.iaload, 1) := by decide +kernel
theorem dX3_apart_30 : decode cX3_apart 30 = .ok (.aload 4, 2) := by decide +kernel
theorem dX3_apart_32 : decode cX3_apart 32 = .ok (.getfield 83, 3) := by decide +kernel
theorem dX3_apart_35 : decode cX3_apart 35 = .ok (.iload_n 3, 1) := by decide +kernel
theorem dX3_apart_36 : decode cX3_apart 36 = .ok (.iaload, 1) := by decide +kernel
theorem dX3_apart_37 : decode cX3_apart 37 = .ok (.invokevirtual 138, 3) := by decide +kernel
theorem dX3_apart_40 : decode cX3_apart 40 = .ok (.ireturn, 1) := by decide +kernel
theorem dX3_alikePairs_0 : decode cX3_alikePairs 0 = .ok (.aload_n 0, 1) := by decide +kernel
theorem dX3_alikePairs_1 : decode cX3_alikePairs 1 = .ok (.iload_n 1, 1) := by decide +kernel
theorem dX3_alikePairs_2 : decode cX3_alikePairs 2 = .ok (.invokevirtual 40, 3) := by decide +kernel
theorem dX3_alikePairs_5 : decode cX3_alikePairs 5 = .ok (.invokevirtual 141, 3) := by decide +kernel
theorem dX3_alikePairs_8 : decode cX3_alikePairs 8 = .ok (.ireturn, 1) := by decide +kernel
theorem dX3_thumbPairs_0 : decode cX3_thumbPairs 0 = .ok (.aload_n 0, 1) := by decide +kernel
theorem dX3_thumbPairs_1 : decode cX3_thumbPairs 1 = .ok (.iload_n 1, 1) := by decide +kernel
theorem dX3_thumbPairs_2 : decode cX3_thumbPairs 2 = .ok (.invokevirtual 40, 3) := by decide +kernel
theorem dX3_thumbPairs_5 : decode cX3_thumbPairs 5 = .ok (.invokevirtual 145, 3) := by decide +kernel
theorem dX3_thumbPairs_8 : decode cX3_thumbPairs 8 = .ok (.ireturn, 1) := by decide +kernel
theorem dX3_closest_0 : decode cX3_closest 0 = .ok (.aload_n 0, 1) := by decide +kernel
theorem dX3_closest_1 : decode cX3_closest 1 = .ok (.iload_n 1, 1) := by decide +kernel
theorem dX3_closest_2 : decode cX3_closest 2 = .ok (.invokevirtual 40, 3) := by decide +kernel
theorem dX3_closest_5 : decode cX3_closest 5 = .ok (.invokevirtual 148, 3) := by decide +kernel
theorem dX3_closest_8 : decode cX3_closest 8 = .ok (.ireturn, 1) := by decide +kernel
theorem dX3_mostMistaken_0 : decode cX3_mostMistaken 0 = .ok (.aload_n 0, 1) := by decide +kernel
theorem dX3_mostMistaken_1 : decode cX3_mostMistaken 1 = .ok (.iload_n 1, 1) := by decide +kernel
theorem dX3_mostMistaken_2 : decode cX3_mostMistaken 2 = .ok (.invokevirtual 40, 3) := by decide +kernel
theorem dX3_mostMistaken_5 : decode cX3_mostMistaken 5 = .ok (.invokevirtual 151, 3) := by decide +kernel
theorem dX3_mostMistaken_8 : decode cX3_mostMistaken 8 = .ok (.ireturn, 1) := by decide +kernel
theorem dX3_read_0 : decode cX3_read 0 = .ok (.aload_n 0, 1) := by decide +kernel
theorem dX3_read_1 : decode cX3_read 1 = .ok (.iload_n 3, 1) := by decide +kernel
theorem dX3_read_2 : decode cX3_read 2 = .ok (.invokevirtual 40, 3) := by decide +kernel
theorem dX3_read_5 : decode cX3_read 5 = .ok (.astore 4, 2) := by decide +kernel
theorem dX3_read_7 : decode cX3_read 7 = .ok (.aload 4, 2) := by decide +kernel
theorem dX3_read_9 : decode cX3_read 9 = .ok (.aload_n 0, 1) := by decide +kernel
theorem dX3_read_10 : decode cX3_read 10 = .ok (.iload_n 1, 1) := by decide +kernel
theorem dX3_read_11 : decode cX3_read 11 = .ok (.iload_n 2, 1) := by decide +kernel
theorem dX3_read_12 : decode cX3_read 12 = .ok (.invokevirtual 123, 3) := by decide +kernel
theorem dX3_read_15 : decode cX3_read 15 = .ok (.invokevirtual 154, 3) := by decide +kernel
theorem dX3_read_18 : decode cX3_read 18 = .ok (.ireturn, 1) := by decide +kernel
theorem dX3_understood_0 : decode cX3_understood 0 = .ok (.aload_n 0, 1) := by decide +kernel
theorem dX3_understood_1 : decode cX3_understood 1 = .ok (.iload_n 1, 1) := by decide +kernel
theorem dX3_understood_2 : decode cX3_understood 2 = .ok (.invokevirtual 40, 3) := by decide +kernel
theorem dX3_understood_5 : decode cX3_understood 5 = .ok (.astore_n 3, 1) := by decide +kernel
theorem dX3_understood_6 : decode cX3_understood 6 = .ok (.aload_n 0, 1) := by decide +kernel
theorem dX3_understood_7 : decode cX3_understood 7 = .ok (.iload_n 2, 1) := by decide +kernel
theorem dX3_understood_8 : decode cX3_understood 8 = .ok (.invokevirtual 40, 3) := by decide +kernel
theorem dX3_understood_11 : decode cX3_understood 11 = .ok (.aload_n 3, 1) := by decide +kernel
theorem dX3_understood_12 : decode cX3_understood 12 = .ok (.invokevirtual 157, 3) := by decide +kernel
theorem dX3_understood_15 : decode cX3_understood 15 = .ok (.ireturn, 1) := by decide +kernel
theorem dX3_misread_0 : decode cX3_misread 0 = .ok (.aload_n 0, 1) := by decide +kernel
theorem dX3_misread_1 : decode cX3_misread 1 = .ok (.iload_n 1, 1) := by decide +kernel
theorem dX3_misread_2 : decode cX3_misread 2 = .ok (.invokevirtual 40, 3) := by decide +kernel
theorem dX3_misread_5 : decode cX3_misread 5 = .ok (.astore_n 3, 1) := by decide +kernel
theorem dX3_misread_6 : decode cX3_misread 6 = .ok (.aload_n 0, 1) := by decide +kernel
theorem dX3_misread_7 : decode cX3_misread 7 = .ok (.iload_n 2, 1) := by decide +kernel
theorem dX3_misread_8 : decode cX3_misread 8 = .ok (.invokevirtual 40, 3) := by decide +kernel
theorem dX3_misread_11 : decode cX3_misread 11 = .ok (.aload_n 3, 1) := by decide +kernel
theorem dX3_misread_12 : decode cX3_misread 12 = .ok (.invokevirtual 161, 3) := by decide +kernel
theorem dX3_misread_15 : decode cX3_misread 15 = .ok (.ireturn, 1) := by decide +kernel
theorem dX3_common_0 : decode cX3_common 0 = .ok (.aload_n 0, 1) := by decide +kernel
theorem dX3_common_1 : decode cX3_common 1 = .ok (.iload_n 1, 1) := by decide +kernel
theorem dX3_common_2 : decode cX3_common 2 = .ok (.invokevirtual 40, 3) := by decide +kernel
theorem dX3_common_5 : decode cX3_common 5 = .ok (.astore_n 3, 1) := by decide +kernel
theorem dX3_common_6 : decode cX3_common 6 = .ok (.aload_n 0, 1) := by decide +kernel
theorem dX3_common_7 : decode cX3_common 7 = .ok (.iload_n 2, 1) := by decide +kernel
theorem dX3_common_8 : decode cX3_common 8 = .ok (.invokevirtual 40, 3) := by decide +kernel
theorem dX3_common_11 : decode cX3_common 11 = .ok (.aload_n 3, 1) := by decide +kernel
theorem dX3_common_12 : decode cX3_common 12 = .ok (.invokevirtual 164, 3) := by decide +kernel
theorem dX3_common_15 : decode cX3_common 15 = .ok (.ireturn, 1) := by decide +kernel
theorem dX3_meanSigns_0 : decode cX3_meanSigns 0 = .ok (.aload_n 0, 1) := by decide +kernel
theorem dX3_meanSigns_1 : decode cX3_meanSigns 1 = .ok (.getfield 29, 3) := by decide +kernel
theorem dX3_meanSigns_4 : decode cX3_meanSigns 4 = .ok (.ifCond .ne 5, 3) := by decide +kernel
theorem dX3_meanSigns_7 : decode cX3_meanSigns 7 = .ok (.dconst 0, 1) := by decide +kernel
theorem dX3_meanSigns_8 : decode cX3_meanSigns 8 = .ok (.dreturn, 1) := by decide +kernel
theorem dX3_meanSigns_9 : decode cX3_meanSigns 9 = .ok (.iconst 0, 1) := by decide +kernel
theorem dX3_meanSigns_10 : decode cX3_meanSigns 10 = .ok (.istore_n 1, 1) := by decide +kernel
theorem dX3_meanSigns_11 : decode cX3_meanSigns 11 = .ok (.iconst 0, 1) := by decide +kernel
theorem dX3_meanSigns_12 : decode cX3_meanSigns 12 = .ok (.istore_n 2, 1) := by decide +kernel
theorem dX3_meanSigns_13 : decode cX3_meanSigns 13 = .ok (.iload_n 2, 1) := by decide +kernel
theorem dX3_meanSigns_14 : decode cX3_meanSigns 14 = .ok (.aload_n 0, 1) := by decide +kernel
theorem dX3_meanSigns_15 : decode cX3_meanSigns 15 = .ok (.getfield 29, 3) := by decide +kernel
theorem dX3_meanSigns_18 : decode cX3_meanSigns 18 = .ok (.if_icmp .ge 21, 3) := by decide +kernel
theorem dX3_meanSigns_21 : decode cX3_meanSigns 21 = .ok (.iload_n 1, 1) := by decide +kernel
theorem dX3_meanSigns_22 : decode cX3_meanSigns 22 = .ok (.aload_n 0, 1) := by decide +kernel
theorem dX3_meanSigns_23 : decode cX3_meanSigns 23 = .ok (.getfield 18, 3) := by decide +kernel
theorem dX3_meanSigns_26 : decode cX3_meanSigns 26 = .ok (.iload_n 2, 1) := by decide +kernel
theorem dX3_meanSigns_27 : decode cX3_meanSigns 27 = .ok (.aaload, 1) := by decide +kernel
theorem dX3_meanSigns_28 : decode cX3_meanSigns 28 = .ok (.getfield 120, 3) := by decide +kernel
theorem dX3_meanSigns_31 : decode cX3_meanSigns 31 = .ok (.iadd, 1) := by decide +kernel
theorem dX3_meanSigns_32 : decode cX3_meanSigns 32 = .ok (.istore_n 1, 1) := by decide +kernel
theorem dX3_meanSigns_33 : decode cX3_meanSigns 33 = .ok (.iinc 2 1, 3) := by decide +kernel
theorem dX3_meanSigns_36 : decode cX3_meanSigns 36 = .ok (.goto (-23), 3) := by decide +kernel
theorem dX3_meanSigns_39 : decode cX3_meanSigns 39 = .ok (.iload_n 1, 1) := by decide +kernel
theorem dX3_meanSigns_40 : decode cX3_meanSigns 40 = .ok (.i2d, 1) := by decide +kernel
theorem dX3_meanSigns_41 : decode cX3_meanSigns 41 = .ok (.aload_n 0, 1) := by decide +kernel
theorem dX3_meanSigns_42 : decode cX3_meanSigns 42 = .ok (.getfield 29, 3) := by decide +kernel
theorem dX3_meanSigns_45 : decode cX3_meanSigns 45 = .ok (.i2d, 1) := by decide +kernel
theorem dX3_meanSigns_46 : decode cX3_meanSigns 46 = .ok (.ddiv, 1) := by decide +kernel
theorem dX3_meanSigns_47 : decode cX3_meanSigns 47 = .ok (.dreturn, 1) := by decide +kernel
theorem dX3_isBelow_0 : decode cX3_isBelow 0 = .ok (.iload_n 0, 1) := by decide +kernel
theorem dX3_isBelow_1 : decode cX3_isBelow 1 = .ok (.ifCond .lt 12, 3) := by decide +kernel
theorem dX3_isBelow_4 : decode cX3_isBelow 4 = .ok (.iload_n 0, 1) := by decide +kernel
theorem dX3_isBelow_5 : decode cX3_isBelow 5 = .ok (.iload_n 1, 1) := by decide +kernel
theorem dX3_isBelow_6 : decode cX3_isBelow 6 = .ok (.if_icmp .ge 7, 3) := by decide +kernel
theorem dX3_isBelow_9 : decode cX3_isBelow 9 = .ok (.iconst 1, 1) := by decide +kernel
theorem dX3_isBelow_10 : decode cX3_isBelow 10 = .ok (.goto 4, 3) := by decide +kernel
theorem dX3_isBelow_13 : decode cX3_isBelow 13 = .ok (.iconst 0, 1) := by decide +kernel
theorem dX3_isBelow_14 : decode cX3_isBelow 14 = .ok (.ireturn, 1) := by decide +kernel
theorem dX3_bookOf_0 : decode cX3_bookOf 0 = .ok (.iload_n 1, 1) := by decide +kernel
theorem dX3_bookOf_1 : decode cX3_bookOf 1 = .ok (.aload_n 0, 1) := by decide +kernel
theorem dX3_bookOf_2 : decode cX3_bookOf 2 = .ok (.getfield 29, 3) := by decide +kernel
theorem dX3_bookOf_5 : decode cX3_bookOf 5 = .ok (.invokestatic 48, 3) := by decide +kernel
theorem dX3_bookOf_8 : decode cX3_bookOf 8 = .ok (.ifCond .ne 13, 3) := by decide +kernel
theorem dX3_bookOf_11 : decode cX3_bookOf 11 = .ok (.new 132, 3) := by decide +kernel
theorem dX3_bookOf_14 : decode cX3_bookOf 14 = .ok (.dup, 1) := by decide +kernel
theorem dX3_bookOf_15 : decode cX3_bookOf 15 = .ok (.ldc 199, 2) := by decide +kernel
theorem dX3_bookOf_17 : decode cX3_bookOf 17 = .ok (.invokespecial 134, 3) := by decide +kernel
theorem dX3_bookOf_20 : decode cX3_bookOf 20 = .ok (.athrow, 1) := by decide +kernel
theorem dX3_bookOf_21 : decode cX3_bookOf 21 = .ok (.aload_n 0, 1) := by decide +kernel
theorem dX3_bookOf_22 : decode cX3_bookOf 22 = .ok (.getfield 18, 3) := by decide +kernel
theorem dX3_bookOf_25 : decode cX3_bookOf 25 = .ok (.iload_n 1, 1) := by decide +kernel
theorem dX3_bookOf_26 : decode cX3_bookOf 26 = .ok (.aaload, 1) := by decide +kernel
theorem dX3_bookOf_27 : decode cX3_bookOf 27 = .ok (.areturn, 1) := by decide +kernel
theorem dX3_lookOf_0 : decode cX3_lookOf 0 = .ok (.aload_n 0, 1) := by decide +kernel
theorem dX3_lookOf_1 : decode cX3_lookOf 1 = .ok (.iload_n 1, 1) := by decide +kernel
theorem dX3_lookOf_2 : decode cX3_lookOf 2 = .ok (.invokevirtual 40, 3) := by decide +kernel
theorem dX3_lookOf_5 : decode cX3_lookOf 5 = .ok (.astore_n 3, 1) := by decide +kernel
theorem dX3_lookOf_6 : decode cX3_lookOf 6 = .ok (.aload_n 3, 1) := by decide +kernel
theorem dX3_lookOf_7 : decode cX3_lookOf 7 = .ok (.iload_n 2, 1) := by decide +kernel
theorem dX3_lookOf_8 : decode cX3_lookOf 8 = .ok (.invokestatic 73, 3) := by decide +kernel
theorem dX3_lookOf_11 : decode cX3_lookOf 11 = .ok (.aload_n 3, 1) := by decide +kernel
theorem dX3_lookOf_12 : decode cX3_lookOf 12 = .ok (.getfield 83, 3) := by decide +kernel
theorem dX3_lookOf_15 : decode cX3_lookOf 15 = .ok (.iload_n 2, 1) := by decide +kernel
theorem dX3_lookOf_16 : decode cX3_lookOf 16 = .ok (.iaload, 1) := by decide +kernel
theorem dX3_lookOf_17 : decode cX3_lookOf 17 = .ok (.ireturn, 1) := by decide +kernel
theorem dX3_checkSign_0 : decode cX3_checkSign 0 = .ok (.iload_n 1, 1) := by decide +kernel
theorem dX3_checkSign_1 : decode cX3_checkSign 1 = .ok (.aload_n 0, 1) := by decide +kernel
theorem dX3_checkSign_2 : decode cX3_checkSign 2 = .ok (.getfield 120, 3) := by decide +kernel
theorem dX3_checkSign_5 : decode cX3_checkSign 5 = .ok (.invokestatic 48, 3) := by decide +kernel
theorem dX3_checkSign_8 : decode cX3_checkSign 8 = .ok (.ifCond .ne 13, 3) := by decide +kernel
theorem dX3_checkSign_11 : decode cX3_checkSign 11 = .ok (.new 132, 3) := by decide +kernel
theorem dX3_checkSign_14 : decode cX3_checkSign 14 = .ok (.dup, 1) := by decide +kernel
theorem dX3_checkSign_15 : decode cX3_checkSign 15 = .ok (.ldc 201, 2) := by decide +kernel
theorem dX3_checkSign_17 : decode cX3_checkSign 17 = .ok (.invokespecial 134, 3) := by decide +kernel
theorem dX3_checkSign_20 : decode cX3_checkSign 20 = .ok (.athrow, 1) := by decide +kernel
theorem dX3_checkSign_21 : decode cX3_checkSign 21 = .ok (.return_, 1) := by decide +kernel
theorem dX3_checkPlace_0 : decode cX3_checkPlace 0 = .ok (.iload_n 0, 1) := by decide +kernel
theorem dX3_checkPlace_1 : decode cX3_checkPlace 1 = .ok (.bipush 9, 2) := by decide +kernel
theorem dX3_checkPlace_3 : decode cX3_checkPlace 3 = .ok (.invokestatic 48, 3) := by decide +kernel
theorem dX3_checkPlace_6 : decode cX3_checkPlace 6 = .ok (.ifCond .ne 13, 3) := by decide +kernel
theorem dX3_checkPlace_9 : decode cX3_checkPlace 9 = .ok (.new 132, 3) := by decide +kernel
theorem dX3_checkPlace_12 : decode cX3_checkPlace 12 = .ok (.dup, 1) := by decide +kernel
theorem dX3_checkPlace_13 : decode cX3_checkPlace 13 = .ok (.ldc 203, 2) := by decide +kernel
theorem dX3_checkPlace_15 : decode cX3_checkPlace 15 = .ok (.invokespecial 134, 3) := by decide +kernel
theorem dX3_checkPlace_18 : decode cX3_checkPlace 18 = .ok (.athrow, 1) := by decide +kernel
theorem dX3_checkPlace_19 : decode cX3_checkPlace 19 = .ok (.return_, 1) := by decide +kernel
theorem dX3_checkLook_0 : decode cX3_checkLook 0 = .ok (.iload_n 0, 1) := by decide +kernel
theorem dX3_checkLook_1 : decode cX3_checkLook 1 = .ok (.bipush 16, 2) := by decide +kernel
theorem dX3_checkLook_3 : decode cX3_checkLook 3 = .ok (.invokestatic 48, 3) := by decide +kernel
theorem dX3_checkLook_6 : decode cX3_checkLook 6 = .ok (.ifCond .ne 13, 3) := by decide +kernel
theorem dX3_checkLook_9 : decode cX3_checkLook 9 = .ok (.new 52, 3) := by decide +kernel
theorem dX3_checkLook_12 : decode cX3_checkLook 12 = .ok (.dup, 1) := by decide +kernel
theorem dX3_checkLook_13 : decode cX3_checkLook 13 = .ok (.ldc 205, 2) := by decide +kernel
theorem dX3_checkLook_15 : decode cX3_checkLook 15 = .ok (.invokespecial 56, 3) := by decide +kernel
theorem dX3_checkLook_18 : decode cX3_checkLook 18 = .ok (.athrow, 1) := by decide +kernel
theorem dX3_checkLook_19 : decode cX3_checkLook 19 = .ok (.iload_n 1, 1) := by decide +kernel
theorem dX3_checkLook_20 : decode cX3_checkLook 20 = .ok (.iconst 4, 1) := by decide +kernel
theorem dX3_checkLook_21 : decode cX3_checkLook 21 = .ok (.invokestatic 48, 3) := by decide +kernel
theorem dX3_checkLook_24 : decode cX3_checkLook 24 = .ok (.ifCond .ne 13, 3) := by decide +kernel
theorem dX3_checkLook_27 : decode cX3_checkLook 27 = .ok (.new 52, 3) := by decide +kernel
theorem dX3_checkLook_30 : decode cX3_checkLook 30 = .ok (.dup, 1) := by decide +kernel
theorem dX3_checkLook_31 : decode cX3_checkLook 31 = .ok (.ldc 81, 2) := by decide +kernel
theorem dX3_checkLook_33 : decode cX3_checkLook 33 = .ok (.invokespecial 56, 3) := by decide +kernel
theorem dX3_checkLook_36 : decode cX3_checkLook 36 = .ok (.athrow, 1) := by decide +kernel
theorem dX3_checkLook_37 : decode cX3_checkLook 37 = .ok (.iload_n 2, 1) := by decide +kernel
theorem dX3_checkLook_38 : decode cX3_checkLook 38 = .ok (.bipush 9, 2) := by decide +kernel
theorem dX3_checkLook_40 : decode cX3_checkLook 40 = .ok (.invokestatic 48, 3) := by decide +kernel
theorem dX3_checkLook_43 : decode cX3_checkLook 43 = .ok (.ifCond .ne 13, 3) := by decide +kernel
theorem dX3_checkLook_46 : decode cX3_checkLook 46 = .ok (.new 52, 3) := by decide +kernel
theorem dX3_checkLook_49 : decode cX3_checkLook 49 = .ok (.dup, 1) := by decide +kernel
theorem dX3_checkLook_50 : decode cX3_checkLook 50 = .ok (.ldc 203, 2) := by decide +kernel
theorem dX3_checkLook_52 : decode cX3_checkLook 52 = .ok (.invokespecial 56, 3) := by decide +kernel
theorem dX3_checkLook_55 : decode cX3_checkLook 55 = .ok (.athrow, 1) := by decide +kernel
theorem dX3_checkLook_56 : decode cX3_checkLook 56 = .ok (.iload_n 3, 1) := by decide +kernel
theorem dX3_checkLook_57 : decode cX3_checkLook 57 = .ok (.iconst 4, 1) := by decide +kernel
theorem dX3_checkLook_58 : decode cX3_checkLook 58 = .ok (.invokestatic 48, 3) := by decide +kernel
theorem dX3_checkLook_61 : decode cX3_checkLook 61 = .ok (.ifCond .ne 13, 3) := by decide +kernel
theorem dX3_checkLook_64 : decode cX3_checkLook 64 = .ok (.new 52, 3) := by decide +kernel
theorem dX3_checkLook_67 : decode cX3_checkLook 67 = .ok (.dup, 1) := by decide +kernel
theorem dX3_checkLook_68 : decode cX3_checkLook 68 = .ok (.ldc 207, 2) := by decide +kernel
theorem dX3_checkLook_70 : decode cX3_checkLook 70 = .ok (.invokespecial 56, 3) := by decide +kernel
theorem dX3_checkLook_73 : decode cX3_checkLook 73 = .ok (.athrow, 1) := by decide +kernel
theorem dX3_checkLook_74 : decode cX3_checkLook 74 = .ok (.return_, 1) := by decide +kernel
theorem dJ6_bitCount_0f7a4_0 : decode cJ6_bitCount_0f7a4 0 = .ok (.iload_n 0, 1) := by decide +kernel
theorem dJ6_bitCount_0f7a4_1 : decode cJ6_bitCount_0f7a4 1 = .ok (.iload_n 0, 1) := by decide +kernel
theorem dJ6_bitCount_0f7a4_2 : decode cJ6_bitCount_0f7a4 2 = .ok (.iconst 1, 1) := by decide +kernel
theorem dJ6_bitCount_0f7a4_3 : decode cJ6_bitCount_0f7a4 3 = .ok (.iushr, 1) := by decide +kernel
theorem dJ6_bitCount_0f7a4_4 : decode cJ6_bitCount_0f7a4 4 = .ok (.ldc_w 265, 3) := by decide +kernel
theorem dJ6_bitCount_0f7a4_7 : decode cJ6_bitCount_0f7a4 7 = .ok (.iand, 1) := by decide +kernel
theorem dJ6_bitCount_0f7a4_8 : decode cJ6_bitCount_0f7a4 8 = .ok (.isub, 1) := by decide +kernel
theorem dJ6_bitCount_0f7a4_9 : decode cJ6_bitCount_0f7a4 9 = .ok (.istore_n 0, 1) := by decide +kernel
theorem dJ6_bitCount_0f7a4_10 : decode cJ6_bitCount_0f7a4 10 = .ok (.iload_n 0, 1) := by decide +kernel
theorem dJ6_bitCount_0f7a4_11 : decode cJ6_bitCount_0f7a4 11 = .ok (.ldc_w 266, 3) := by decide +kernel
theorem dJ6_bitCount_0f7a4_14 : decode cJ6_bitCount_0f7a4 14 = .ok (.iand, 1) := by decide +kernel
theorem dJ6_bitCount_0f7a4_15 : decode cJ6_bitCount_0f7a4 15 = .ok (.iload_n 0, 1) := by decide +kernel
theorem dJ6_bitCount_0f7a4_16 : decode cJ6_bitCount_0f7a4 16 = .ok (.iconst 2, 1) := by decide +kernel
theorem dJ6_bitCount_0f7a4_17 : decode cJ6_bitCount_0f7a4 17 = .ok (.iushr, 1) := by decide +kernel
theorem dJ6_bitCount_0f7a4_18 : decode cJ6_bitCount_0f7a4 18 = .ok (.ldc_w 266, 3) := by decide +kernel
theorem dJ6_bitCount_0f7a4_21 : decode cJ6_bitCount_0f7a4 21 = .ok (.iand, 1) := by decide +kernel
theorem dJ6_bitCount_0f7a4_22 : decode cJ6_bitCount_0f7a4 22 = .ok (.iadd, 1) := by decide +kernel
theorem dJ6_bitCount_0f7a4_23 : decode cJ6_bitCount_0f7a4 23 = .ok (.istore_n 0, 1) := by decide +kernel
theorem dJ6_bitCount_0f7a4_24 : decode cJ6_bitCount_0f7a4 24 = .ok (.iload_n 0, 1) := by decide +kernel
theorem dJ6_bitCount_0f7a4_25 : decode cJ6_bitCount_0f7a4 25 = .ok (.iload_n 0, 1) := by decide +kernel
theorem dJ6_bitCount_0f7a4_26 : decode cJ6_bitCount_0f7a4 26 = .ok (.iconst 4, 1) := by decide +kernel
theorem dJ6_bitCount_0f7a4_27 : decode cJ6_bitCount_0f7a4 27 = .ok (.iushr, 1) := by decide +kernel
theorem dJ6_bitCount_0f7a4_28 : decode cJ6_bitCount_0f7a4 28 = .ok (.iadd, 1) := by decide +kernel
theorem dJ6_bitCount_0f7a4_29 : decode cJ6_bitCount_0f7a4 29 = .ok (.ldc_w 267, 3) := by decide +kernel
theorem dJ6_bitCount_0f7a4_32 : decode cJ6_bitCount_0f7a4 32 = .ok (.iand, 1) := by decide +kernel
theorem dJ6_bitCount_0f7a4_33 : decode cJ6_bitCount_0f7a4 33 = .ok (.istore_n 0, 1) := by decide +kernel
theorem dJ6_bitCount_0f7a4_34 : decode cJ6_bitCount_0f7a4 34 = .ok (.iload_n 0, 1) := by decide +kernel
theorem dJ6_bitCount_0f7a4_35 : decode cJ6_bitCount_0f7a4 35 = .ok (.iload_n 0, 1) := by decide +kernel
theorem dJ6_bitCount_0f7a4_36 : decode cJ6_bitCount_0f7a4 36 = .ok (.bipush 8, 2) := by decide +kernel
theorem dJ6_bitCount_0f7a4_38 : decode cJ6_bitCount_0f7a4 38 = .ok (.iushr, 1) := by decide +kernel
theorem dJ6_bitCount_0f7a4_39 : decode cJ6_bitCount_0f7a4 39 = .ok (.iadd, 1) := by decide +kernel
theorem dJ6_bitCount_0f7a4_40 : decode cJ6_bitCount_0f7a4 40 = .ok (.istore_n 0, 1) := by decide +kernel
theorem dJ6_bitCount_0f7a4_41 : decode cJ6_bitCount_0f7a4 41 = .ok (.iload_n 0, 1) := by decide +kernel
theorem dJ6_bitCount_0f7a4_42 : decode cJ6_bitCount_0f7a4 42 = .ok (.iload_n 0, 1) := by decide +kernel
theorem dJ6_bitCount_0f7a4_43 : decode cJ6_bitCount_0f7a4 43 = .ok (.bipush 16, 2) := by decide +kernel
theorem dJ6_bitCount_0f7a4_45 : decode cJ6_bitCount_0f7a4 45 = .ok (.iushr, 1) := by decide +kernel
theorem dJ6_bitCount_0f7a4_46 : decode cJ6_bitCount_0f7a4 46 = .ok (.iadd, 1) := by decide +kernel
theorem dJ6_bitCount_0f7a4_47 : decode cJ6_bitCount_0f7a4 47 = .ok (.istore_n 0, 1) := by decide +kernel
theorem dJ6_bitCount_0f7a4_48 : decode cJ6_bitCount_0f7a4 48 = .ok (.iload_n 0, 1) := by decide +kernel
theorem dJ6_bitCount_0f7a4_49 : decode cJ6_bitCount_0f7a4 49 = .ok (.bipush 63, 2) := by decide +kernel
theorem dJ6_bitCount_0f7a4_51 : decode cJ6_bitCount_0f7a4 51 = .ok (.iand, 1) := by decide +kernel
theorem dJ6_bitCount_0f7a4_52 : decode cJ6_bitCount_0f7a4 52 = .ok (.ireturn, 1) := by decide +kernel
theorem dJ9_abs_0f7a4_0 : decode cJ9_abs_0f7a4 0 = .ok (.iload_n 0, 1) := by decide +kernel
theorem dJ9_abs_0f7a4_1 : decode cJ9_abs_0f7a4 1 = .ok (.ifCond .ge 8, 3) := by decide +kernel
theorem dJ9_abs_0f7a4_4 : decode cJ9_abs_0f7a4 4 = .ok (.iload_n 0, 1) := by decide +kernel
theorem dJ9_abs_0f7a4_5 : decode cJ9_abs_0f7a4 5 = .ok (.ineg, 1) := by decide +kernel
theorem dJ9_abs_0f7a4_6 : decode cJ9_abs_0f7a4 6 = .ok (.goto 4, 3) := by decide +kernel
theorem dJ9_abs_0f7a4_9 : decode cJ9_abs_0f7a4 9 = .ok (.iload_n 0, 1) := by decide +kernel
theorem dJ9_abs_0f7a4_10 : decode cJ9_abs_0f7a4 10 = .ok (.ireturn, 1) := by decide +kernel
theorem dJ9_min_7cf53_0 : decode cJ9_min_7cf53 0 = .ok (.iload_n 0, 1) := by decide +kernel
theorem dJ9_min_7cf53_1 : decode cJ9_min_7cf53 1 = .ok (.iload_n 1, 1) := by decide +kernel
theorem dJ9_min_7cf53_2 : decode cJ9_min_7cf53 2 = .ok (.if_icmp .gt 7, 3) := by decide +kernel
theorem dJ9_min_7cf53_5 : decode cJ9_min_7cf53 5 = .ok (.iload_n 0, 1) := by decide +kernel
theorem dJ9_min_7cf53_6 : decode cJ9_min_7cf53 6 = .ok (.goto 4, 3) := by decide +kernel
theorem dJ9_min_7cf53_9 : decode cJ9_min_7cf53 9 = .ok (.iload_n 1, 1) := by decide +kernel
theorem dJ9_min_7cf53_10 : decode cJ9_min_7cf53 10 = .ok (.ireturn, 1) := by decide +kernel
end
section
theorem dX4_init_0 : decode cX4_init 0 = .ok (.aload_n 0, 1) := by decide +kernel
theorem dX4_init_1 : decode cX4_init 1 = .ok (.invokespecial 1, 3) := by decide +kernel
theorem dX4_init_4 : decode cX4_init 4 = .ok (.aload_n 0, 1) := by decide +kernel
theorem dX4_init_5 : decode cX4_init 5 = .ok (.iconst 0, 1) := by decide +kernel
theorem dX4_init_6 : decode cX4_init 6 = .ok (.anewarray 7, 3) := by decide +kernel
theorem dX4_init_9 : decode cX4_init 9 = .ok (.putfield 9, 3) := by decide +kernel
theorem dX4_init_12 : decode cX4_init 12 = .ok (.aload_n 0, 1) := by decide +kernel
theorem dX4_init_13 : decode cX4_init 13 = .ok (.bipush 9, 2) := by decide +kernel
theorem dX4_init_15 : decode cX4_init 15 = .ok (.bipush 9, 2) := by decide +kernel
theorem dX4_init_17 : decode cX4_init 17 = .ok (.multianewarray 15 2, 4) := by decide +kernel
theorem dX4_init_21 : decode cX4_init 21 = .ok (.putfield 17, 3) := by decide +kernel
theorem dX4_init_24 : decode cX4_init 24 = .ok (.iconst 0, 1) := by decide +kernel
theorem dX4_init_25 : decode cX4_init 25 = .ok (.istore_n 1, 1) := by decide +kernel
theorem dX4_init_26 : decode cX4_init 26 = .ok (.iload_n 1, 1) := by decide +kernel
theorem dX4_init_27 : decode cX4_init 27 = .ok (.bipush 9, 2) := by decide +kernel
theorem dX4_init_29 : decode cX4_init 29 = .ok (.if_icmp .ge 18, 3) := by decide +kernel
theorem dX4_init_32 : decode cX4_init 32 = .ok (.aload_n 0, 1) := by decide +kernel
theorem dX4_init_33 : decode cX4_init 33 = .ok (.getfield 17, 3) := by decide +kernel
theorem dX4_init_36 : decode cX4_init 36 = .ok (.iload_n 1, 1) := by decide +kernel
theorem dX4_init_37 : decode cX4_init 37 = .ok (.aaload, 1) := by decide +kernel
theorem dX4_init_38 : decode cX4_init 38 = .ok (.iload_n 1, 1) := by decide +kernel
theorem dX4_init_39 : decode cX4_init 39 = .ok (.iconst 1, 1) := by decide +kernel
theorem dX4_init_40 : decode cX4_init 40 = .ok (.bastore, 1) := by decide +kernel
theorem dX4_init_41 : decode cX4_init 41 = .ok (.iinc 1 1, 3) := by decide +kernel
theorem dX4_init_44 : decode cX4_init 44 = .ok (.goto (-18), 3) := by decide +kernel
theorem dX4_init_47 : decode cX4_init 47 = .ok (.return_, 1) := by decide +kernel
theorem dX4_addLodge_0 : decode cX4_addLodge 0 = .ok (.aload_n 0, 1) := by decide +kernel
theorem dX4_addLodge_1 : decode cX4_addLodge 1 = .ok (.getfield 9, 3) := by decide +kernel
theorem dX4_addLodge_4 : decode cX4_addLodge 4 = .ok (.arraylength, 1) := by decide +kernel
theorem dX4_addLodge_5 : decode cX4_addLodge 5 = .ok (.iconst 1, 1) := by decide +kernel
theorem dX4_addLodge_6 : decode cX4_addLodge 6 = .ok (.iadd, 1) := by decide +kernel
theorem dX4_addLodge_7 : decode cX4_addLodge 7 = .ok (.anewarray 7, 3) := by decide +kernel
theorem dX4_addLodge_10 : decode cX4_addLodge 10 = .ok (.astore_n 1, 1) := by decide +kernel
theorem dX4_addLodge_11 : decode cX4_addLodge 11 = .ok (.iconst 0, 1) := by decide +kernel
theorem dX4_addLodge_12 : decode cX4_addLodge 12 = .ok (.istore_n 2, 1) := by decide +kernel
theorem dX4_addLodge_13 : decode cX4_addLodge 13 = .ok (.iload_n 2, 1) := by decide +kernel
theorem dX4_addLodge_14 : decode cX4_addLodge 14 = .ok (.aload_n 0, 1) := by decide +kernel
theorem dX4_addLodge_15 : decode cX4_addLodge 15 = .ok (.getfield 9, 3) := by decide +kernel
theorem dX4_addLodge_18 : decode cX4_addLodge 18 = .ok (.arraylength, 1) := by decide +kernel
theorem dX4_addLodge_19 : decode cX4_addLodge 19 = .ok (.if_icmp .ge 18, 3) := by decide +kernel
theorem dX4_addLodge_22 : decode cX4_addLodge 22 = .ok (.aload_n 1, 1) := by decide +kernel
theorem dX4_addLodge_23 : decode cX4_addLodge 23 = .ok (.iload_n 2, 1) := by decide +kernel
theorem dX4_addLodge_24 : decode cX4_addLodge 24 = .ok (.aload_n 0, 1) := by decide +kernel
theorem dX4_addLodge_25 : decode cX4_addLodge 25 = .ok (.getfield 9, 3) := by decide +kernel
theorem dX4_addLodge_28 : decode cX4_addLodge 28 = .ok (.iload_n 2, 1) := by decide +kernel
theorem dX4_addLodge_29 : decode cX4_addLodge 29 = .ok (.aaload, 1) := by decide +kernel
theorem dX4_addLodge_30 : decode cX4_addLodge 30 = .ok (.aastore, 1) := by decide +kernel
theorem dX4_addLodge_31 : decode cX4_addLodge 31 = .ok (.iinc 2 1, 3) := by decide +kernel
theorem dX4_addLodge_34 : decode cX4_addLodge 34 = .ok (.goto (-21), 3) := by decide +kernel
theorem dX4_addLodge_37 : decode cX4_addLodge 37 = .ok (.aload_n 1, 1) := by decide +kernel
theorem dX4_addLodge_38 : decode cX4_addLodge 38 = .ok (.aload_n 0, 1) := by decide +kernel
theorem dX4_addLodge_39 : decode cX4_addLodge 39 = .ok (.getfield 9, 3) := by decide +kernel
theorem dX4_addLodge_42 : decode cX4_addLodge 42 = .ok (.arraylength, 1) := by decide +kernel
theorem dX4_addLodge_43 : decode cX4_addLodge 43 = .ok (.iconst 0, 1) := by decide +kernel
theorem dX4_addLodge_44 : decode cX4_addLodge 44 = .ok (.anewarray 20, 3) := by decide +kernel
theorem dX4_addLodge_47 : decode cX4_addLodge 47 = .ok (.aastore, 1) := by decide +kernel
theorem dX4_addLodge_48 : decode cX4_addLodge 48 = .ok (.aload_n 0, 1) := by decide +kernel
theorem dX4_addLodge_49 : decode cX4_addLodge 49 = .ok (.aload_n 1, 1) := by decide +kernel
theorem dX4_addLodge_50 : decode cX4_addLodge 50 = .ok (.putfield 9, 3) := by decide +kernel
theorem dX4_addLodge_53 : decode cX4_addLodge 53 = .ok (.return_, 1) := by decide +kernel
theorem dX4_add_0 : decode cX4_add 0 = .ok (.aload_n 0, 1) := by decide +kernel
theorem dX4_add_1 : decode cX4_add 1 = .ok (.getfield 9, 3) := by decide +kernel
theorem dX4_add_4 : decode cX4_add 4 = .ok (.iload_n 1, 1) := by decide +kernel
theorem dX4_add_5 : decode cX4_add 5 = .ok (.aaload, 1) := by decide +kernel
theorem dX4_add_6 : decode cX4_add 6 = .ok (.arraylength, 1) := by decide +kernel
theorem dX4_add_7 : decode cX4_add 7 = .ok (.iconst 1, 1) := by decide +kernel
theorem dX4_add_8 : decode cX4_add 8 = .ok (.iadd, 1) := by decide +kernel
theorem dX4_add_9 : decode cX4_add 9 = .ok (.anewarray 20, 3) := by decide +kernel
theorem dX4_add_12 : decode cX4_add 12 = .ok (.astore_n 3, 1) := by decide +kernel
theorem dX4_add_13 : decode cX4_add 13 = .ok (.iconst 0, 1) := by decide +kernel
theorem dX4_add_14 : decode cX4_add 14 = .ok (.istore 4, 2) := by decide +kernel
theorem dX4_add_16 : decode cX4_add 16 = .ok (.iload 4, 2) := by decide +kernel
theorem dX4_add_18 : decode cX4_add 18 = .ok (.aload_n 0, 1) := by decide +kernel
theorem dX4_add_19 : decode cX4_add 19 = .ok (.getfield 9, 3) := by decide +kernel
theorem dX4_add_22 : decode cX4_add 22 = .ok (.iload_n 1, 1) := by decide +kernel
theorem dX4_add_23 : decode cX4_add 23 = .ok (.aaload, 1) := by decide +kernel
theorem dX4_add_24 : decode cX4_add 24 = .ok (.arraylength, 1) := by decide +kernel
theorem dX4_add_25 : decode cX4_add 25 = .ok (.if_icmp .ge 22, 3) := by decide +kernel
theorem dX4_add_28 : decode cX4_add 28 = .ok (.aload_n 3, 1) := by decide +kernel
theorem dX4_add_29 : decode cX4_add 29 = .ok (.iload 4, 2) := by decide +kernel
theorem dX4_add_31 : decode cX4_add 31 = .ok (.aload_n 0, 1) := by decide +kernel
theorem dX4_add_32 : decode cX4_add 32 = .ok (.getfield 9, 3) := by decide +kernel
theorem dX4_add_35 : decode cX4_add 35 = .ok (.iload_n 1, 1) := by decide +kernel
theorem dX4_add_36 : decode cX4_add 36 = .ok (.aaload, 1) := by decide +kernel
theorem dX4_add_37 : decode cX4_add 37 = .ok (.iload 4, 2) := by decide +kernel
theorem dX4_add_39 : decode cX4_add 39 = .ok (.aaload, 1) := by decide +kernel
theorem dX4_add_40 : decode cX4_add 40 = .ok (.aastore, 1) := by decide +kernel
theorem dX4_add_41 : decode cX4_add 41 = .ok (.iinc 4 1, 3) := by decide +kernel
theorem dX4_add_44 : decode cX4_add 44 = .ok (.goto (-28), 3) := by decide +kernel
theorem dX4_add_47 : decode cX4_add 47 = .ok (.aload_n 3, 1) := by decide +kernel
theorem dX4_add_48 : decode cX4_add 48 = .ok (.aload_n 0, 1) := by decide +kernel
theorem dX4_add_49 : decode cX4_add 49 = .ok (.getfield 9, 3) := by decide +kernel
theorem dX4_add_52 : decode cX4_add 52 = .ok (.iload_n 1, 1) := by decide +kernel
theorem dX4_add_53 : decode cX4_add 53 = .ok (.aaload, 1) := by decide +kernel
theorem dX4_add_54 : decode cX4_add 54 = .ok (.arraylength, 1) := by decide +kernel
theorem dX4_add_55 : decode cX4_add 55 = .ok (.aload_n 2, 1) := by decide +kernel
theorem dX4_add_56 : decode cX4_add 56 = .ok (.aastore, 1) := by decide +kernel
theorem dX4_add_57 : decode cX4_add 57 = .ok (.aload_n 0, 1) := by decide +kernel
theorem dX4_add_58 : decode cX4_add 58 = .ok (.getfield 9, 3) := by decide +kernel
theorem dX4_add_61 : decode cX4_add 61 = .ok (.iload_n 1, 1) := by decide +kernel
theorem dX4_add_62 : decode cX4_add 62 = .ok (.aload_n 3, 1) := by decide +kernel
theorem dX4_add_63 : decode cX4_add 63 = .ok (.aastore, 1) := by decide +kernel
theorem dX4_add_64 : decode cX4_add 64 = .ok (.return_, 1) := by decide +kernel
theorem dX4_remove_0 : decode cX4_remove 0 = .ok (.aload_n 0, 1) := by decide +kernel
theorem dX4_remove_1 : decode cX4_remove 1 = .ok (.getfield 9, 3) := by decide +kernel
theorem dX4_remove_4 : decode cX4_remove 4 = .ok (.iload_n 1, 1) := by decide +kernel
theorem dX4_remove_5 : decode cX4_remove 5 = .ok (.aaload, 1) := by decide +kernel
theorem dX4_remove_6 : decode cX4_remove 6 = .ok (.arraylength, 1) := by decide +kernel
theorem dX4_remove_7 : decode cX4_remove 7 = .ok (.iconst 1, 1) := by decide +kernel
theorem dX4_remove_8 : decode cX4_remove 8 = .ok (.isub, 1) := by decide +kernel
theorem dX4_remove_9 : decode cX4_remove 9 = .ok (.anewarray 20, 3) := by decide +kernel
theorem dX4_remove_12 : decode cX4_remove 12 = .ok (.astore_n 3, 1) := by decide +kernel
theorem dX4_remove_13 : decode cX4_remove 13 = .ok (.iconst 0, 1) := by decide +kernel
theorem dX4_remove_14 : decode cX4_remove 14 = .ok (.istore 4, 2) := by decide +kernel
theorem dX4_remove_16 : decode cX4_remove 16 = .ok (.iload 4, 2) := by decide +kernel
theorem dX4_remove_18 : decode cX4_remove 18 = .ok (.aload_n 3, 1) := by decide +kernel
theorem dX4_remove_19 : decode cX4_remove 19 = .ok (.arraylength, 1) := by decide +kernel
theorem dX4_remove_20 : decode cX4_remove 20 = .ok (.if_icmp .ge 35, 3) := by decide +kernel
theorem dX4_remove_23 : decode cX4_remove 23 = .ok (.aload_n 3, 1) := by decide +kernel
theorem dX4_remove_24 : decode cX4_remove 24 = .ok (.iload 4, 2) := by decide +kernel
theorem dX4_remove_26 : decode cX4_remove 26 = .ok (.aload_n 0, 1) := by decide +kernel
theorem dX4_remove_27 : decode cX4_remove 27 = .ok (.getfield 9, 3) := by decide +kernel
theorem dX4_remove_30 : decode cX4_remove 30 = .ok (.iload_n 1, 1) := by decide +kernel
theorem dX4_remove_31 : decode cX4_remove 31 = .ok (.aaload, 1) := by decide +kernel
theorem dX4_remove_32 : decode cX4_remove 32 = .ok (.iload 4, 2) := by decide +kernel
theorem dX4_remove_34 : decode cX4_remove 34 = .ok (.iload_n 2, 1) := by decide +kernel
theorem dX4_remove_35 : decode cX4_remove 35 = .ok (.if_icmp .ge 8, 3) := by decide +kernel
theorem dX4_remove_38 : decode cX4_remove 38 = .ok (.iload 4, 2) := by decide +kernel
theorem dX4_remove_40 : decode cX4_remove 40 = .ok (.goto 7, 3) := by decide +kernel
theorem dX4_remove_43 : decode cX4_remove 43 = .ok (.iload 4, 2) := by decide +kernel
theorem dX4_remove_45 : decode cX4_remove 45 = .ok (.iconst 1, 1) := by decide +kernel
theorem dX4_remove_46 : decode cX4_remove 46 = .ok (.iadd, 1) := by decide +kernel
theorem dX4_remove_47 : decode cX4_remove 47 = .ok (.aaload, 1) := by decide +kernel
theorem dX4_remove_48 : decode cX4_remove 48 = .ok (.aastore, 1) := by decide +kernel
theorem dX4_remove_49 : decode cX4_remove 49 = .ok (.iinc 4 1, 3) := by decide +kernel
theorem dX4_remove_52 : decode cX4_remove 52 = .ok (.goto (-36), 3) := by decide +kernel
theorem dX4_remove_55 : decode cX4_remove 55 = .ok (.aload_n 0, 1) := by decide +kernel
theorem dX4_remove_56 : decode cX4_remove 56 = .ok (.getfield 9, 3) := by decide +kernel
theorem dX4_remove_59 : decode cX4_remove 59 = .ok (.iload_n 1, 1) := by decide +kernel
theorem dX4_remove_60 : decode cX4_remove 60 = .ok (.aload_n 3, 1) := by decide +kernel
theorem dX4_remove_61 : decode cX4_remove 61 = .ok (.aastore, 1) := by decide +kernel
theorem dX4_remove_62 : decode cX4_remove 62 = .ok (.return_, 1) := by decide +kernel
theorem dX4_join_0 : decode cX4_join 0 = .ok (.bipush 9, 2) := by decide +kernel
theorem dX4_join_2 : decode cX4_join 2 = .ok (.bipush 9, 2) := by decide +kernel
theorem dX4_join_4 : decode cX4_join 4 = .ok (.multianewarray 15 2, 4) := by decide +kernel
theorem dX4_join_8 : decode cX4_join 8 = .ok (.astore_n 3, 1) := by decide +kernel
theorem dX4_join_9 : decode cX4_join 9 = .ok (.iconst 0, 1) := by decide +kernel
theorem dX4_join_10 : decode cX4_join 10 = .ok (.istore 4, 2) := by decide +kernel
theorem dX4_join_12 : decode cX4_join 12 = .ok (.iload 4, 2) := by decide +kernel
theorem dX4_join_14 : decode cX4_join 14 = .ok (.bipush 9, 2) := by decide +kernel
theorem dX4_join_16 : decode cX4_join 16 = .ok (.if_icmp .ge 98, 3) := by decide +kernel
theorem dX4_join_19 : decode cX4_join 19 = .ok (.iconst 0, 1) := by decide +kernel
theorem dX4_join_20 : decode cX4_join 20 = .ok (.istore 5, 2) := by decide +kernel
theorem dX4_join_22 : decode cX4_join 22 = .ok (.iload 5, 2) := by decide +kernel
theorem dX4_join_24 : decode cX4_join 24 = .ok (.bipush 9, 2) := by decide +kernel
theorem dX4_join_26 : decode cX4_join 26 = .ok (.if_icmp .ge 82, 3) := by decide +kernel
theorem dX4_join_29 : decode cX4_join 29 = .ok (.aload_n 3, 1) := by decide +kernel
theorem dX4_join_30 : decode cX4_join 30 = .ok (.iload 4, 2) := by decide +kernel
theorem dX4_join_32 : decode cX4_join 32 = .ok (.aaload, 1) := by decide +kernel
theorem dX4_join_33 : decode cX4_join 33 = .ok (.iload 5, 2) := by decide +kernel
theorem dX4_join_35 : decode cX4_join 35 = .ok (.aload_n 0, 1) := by decide +kernel
theorem dX4_join_36 : decode cX4_join 36 = .ok (.getfield 17, 3) := by decide +kernel
theorem dX4_join_39 : decode cX4_join 39 = .ok (.iload 4, 2) := by decide +kernel
theorem dX4_join_41 : decode cX4_join 41 = .ok (.aaload, 1) := by decide +kernel
theorem dX4_join_42 : decode cX4_join 42 = .ok (.iload 5, 2) := by decide +kernel
theorem dX4_join_44 : decode cX4_join 44 = .ok (.baload, 1) := by decide +kernel
theorem dX4_join_45 : decode cX4_join 45 = .ok (.ifCond .ne 51, 3) := by decide +kernel
theorem dX4_join_48 : decode cX4_join 48 = .ok (.aload_n 0, 1) := by decide +kernel
theorem dX4_join_49 : decode cX4_join 49 = .ok (.getfield 17, 3) := by decide +kernel
theorem dX4_join_52 : decode cX4_join 52 = .ok (.iload 4, 2) := by decide +kernel
theorem dX4_join_54 : decode cX4_join 54 = .ok (.aaload, 1) := by decide +kernel
theorem dX4_join_55 : decode cX4_join 55 = .ok (.iload_n 1, 1) := by decide +kernel
theorem dX4_join_56 : decode cX4_join 56 = .ok (.baload, 1) := by decide +kernel
theorem dX4_join_57 : decode cX4_join 57 = .ok (.ifCond .eq 15, 3) := by decide +kernel
theorem dX4_join_60 : decode cX4_join 60 = .ok (.aload_n 0, 1) := by decide +kernel
theorem dX4_join_61 : decode cX4_join 61 = .ok (.getfield 17, 3) := by decide +kernel
theorem dX4_join_64 : decode cX4_join 64 = .ok (.iload_n 2, 1) := by decide +kernel
theorem dX4_join_65 : decode cX4_join 65 = .ok (.aaload, 1) := by decide +kernel
theorem dX4_join_66 : decode cX4_join 66 = .ok (.iload 5, 2) := by decide +kernel
theorem dX4_join_68 : decode cX4_join 68 = .ok (.baload, 1) := by decide +kernel
theorem dX4_join_69 : decode cX4_join 69 = .ok (.ifCond .ne 27, 3) := by decide +kernel
theorem dX4_join_72 : decode cX4_join 72 = .ok (.aload_n 0, 1) := by decide +kernel
theorem dX4_join_73 : decode cX4_join 73 = .ok (.getfield 17, 3) := by decide +kernel
theorem dX4_join_76 : decode cX4_join 76 = .ok (.iload 4, 2) := by decide +kernel
theorem dX4_join_78 : decode cX4_join 78 = .ok (.aaload, 1) := by decide +kernel
theorem dX4_join_79 : decode cX4_join 79 = .ok (.iload_n 2, 1) := by decide +kernel
theorem dX4_join_80 : decode cX4_join 80 = .ok (.baload, 1) := by decide +kernel
theorem dX4_join_81 : decode cX4_join 81 = .ok (.ifCond .eq 19, 3) := by decide +kernel
theorem dX4_join_84 : decode cX4_join 84 = .ok (.aload_n 0, 1) := by decide +kernel
theorem dX4_join_85 : decode cX4_join 85 = .ok (.getfield 17, 3) := by decide +kernel
theorem dX4_join_88 : decode cX4_join 88 = .ok (.iload_n 1, 1) := by decide +kernel
theorem dX4_join_89 : decode cX4_join 89 = .ok (.aaload, 1) := by decide +kernel
theorem dX4_join_90 : decode cX4_join 90 = .ok (.iload 5, 2) := by decide +kernel
theorem dX4_join_92 : decode cX4_join 92 = .ok (.baload, 1) := by decide +kernel
theorem dX4_join_93 : decode cX4_join 93 = .ok (.ifCond .eq 7, 3) := by decide +kernel
theorem dX4_join_96 : decode cX4_join 96 = .ok (.iconst 1, 1) := by decide +kernel
theorem dX4_join_97 : decode cX4_join 97 = .ok (.goto 4, 3) := by decide +kernel
theorem dX4_join_100 : decode cX4_join 100 = .ok (.iconst 0, 1) := by decide +kernel
theorem dX4_join_101 : decode cX4_join 101 = .ok (.bastore, 1) := by decide +kernel
theorem dX4_join_102 : decode cX4_join 102 = .ok (.iinc 5 1, 3) := by decide +kernel
theorem dX4_join_105 : decode cX4_join 105 = .ok (.goto (-83), 3) := by decide +kernel
theorem dX4_join_108 : decode cX4_join 108 = .ok (.iinc 4 1, 3) := by decide +kernel
theorem dX4_join_111 : decode cX4_join 111 = .ok (.goto (-99), 3) := by decide +kernel
theorem dX4_join_114 : decode cX4_join 114 = .ok (.aload_n 0, 1) := by decide +kernel
theorem dX4_join_115 : decode cX4_join 115 = .ok (.aload_n 3, 1) := by decide +kernel
theorem dX4_join_116 : decode cX4_join 116 = .ok (.putfield 17, 3) := by decide +kernel
theorem dX4_join_119 : decode cX4_join 119 = .ok (.return_, 1) := by decide +kernel
theorem dX4_groups_0 : decode cX4_groups 0 = .ok (.iconst 0, 1) := by decide +kernel
theorem dX4_groups_1 : decode cX4_groups 1 = .ok (.istore_n 1, 1) := by decide +kernel
theorem dX4_groups_2 : decode cX4_groups 2 = .ok (.iconst 0, 1) := by decide +kernel
theorem dX4_groups_3 : decode cX4_groups 3 = .ok (.istore_n 2, 1) := by decide +kernel
theorem dX4_groups_4 : decode cX4_groups 4 = .ok (.iload_n 2, 1) := by decide +kernel
theorem dX4_groups_5 : decode cX4_groups 5 = .ok (.bipush 9, 2) := by decide +kernel
theorem dX4_groups_7 : decode cX4_groups 7 = .ok (.if_icmp .ge 60, 3) := by decide +kernel
theorem dX4_groups_10 : decode cX4_groups 10 = .ok (.iconst 1, 1) := by decide +kernel
theorem dX4_groups_11 : decode cX4_groups 11 = .ok (.istore_n 3, 1) := by decide +kernel
theorem dX4_groups_12 : decode cX4_groups 12 = .ok (.iconst 0, 1) := by decide +kernel
theorem dX4_groups_13 : decode cX4_groups 13 = .ok (.istore 4, 2) := by decide +kernel
theorem dX4_groups_15 : decode cX4_groups 15 = .ok (.iload 4, 2) := by decide +kernel
theorem dX4_groups_17 : decode cX4_groups 17 = .ok (.iload_n 2, 1) := by decide +kernel
theorem dX4_groups_18 : decode cX4_groups 18 = .ok (.if_icmp .ge 31, 3) := by decide +kernel
theorem dX4_groups_21 : decode cX4_groups 21 = .ok (.iload_n 3, 1) := by decide +kernel
theorem dX4_groups_22 : decode cX4_groups 22 = .ok (.ifCond .eq 19, 3) := by decide +kernel
theorem dX4_groups_25 : decode cX4_groups 25 = .ok (.aload_n 0, 1) := by decide +kernel
theorem dX4_groups_26 : decode cX4_groups 26 = .ok (.getfield 17, 3) := by decide +kernel
theorem dX4_groups_29 : decode cX4_groups 29 = .ok (.iload_n 2, 1) := by decide +kernel
theorem dX4_groups_30 : decode cX4_groups 30 = .ok (.aaload, 1) := by decide +kernel
theorem dX4_groups_31 : decode cX4_groups 31 = .ok (.iload 4, 2) := by decide +kernel
theorem dX4_groups_33 : decode cX4_groups 33 = .ok (.baload, 1) := by decide +kernel
theorem dX4_groups_34 : decode cX4_groups 34 = .ok (.ifCond .ne 7, 3) := by decide +kernel
theorem dX4_groups_37 : decode cX4_groups 37 = .ok (.iconst 1, 1) := by decide +kernel
theorem dX4_groups_38 : decode cX4_groups 38 = .ok (.goto 4, 3) := by decide +kernel
theorem dX4_groups_41 : decode cX4_groups 41 = .ok (.iconst 0, 1) := by decide +kernel
theorem dX4_groups_42 : decode cX4_groups 42 = .ok (.istore_n 3, 1) := by decide +kernel
theorem dX4_groups_43 : decode cX4_groups 43 = .ok (.iinc 4 1, 3) := by decide +kernel
theorem dX4_groups_46 : decode cX4_groups 46 = .ok (.goto (-31), 3) := by decide +kernel
theorem dX4_groups_49 : decode cX4_groups 49 = .ok (.iload_n 1, 1) := by decide +kernel
theorem dX4_groups_50 : decode cX4_groups 50 = .ok (.iload_n 3, 1) := by decide +kernel
theorem dX4_groups_51 : decode cX4_groups 51 = .ok (.ifCond .eq 7, 3) := by decide +kernel
theorem dX4_groups_54 : decode cX4_groups 54 = .ok (.iconst 1, 1) := by decide +kernel
theorem dX4_groups_55 : decode cX4_groups 55 = .ok (.goto 4, 3) := by decide +kernel
theorem dX4_groups_58 : decode cX4_groups 58 = .ok (.iconst 0, 1) := by decide +kernel
theorem dX4_groups_59 : decode cX4_groups 59 = .ok (.iadd, 1) := by decide +kernel
theorem dX4_groups_60 : decode cX4_groups 60 = .ok (.istore_n 1, 1) := by decide +kernel
theorem dX4_groups_61 : decode cX4_groups 61 = .ok (.iinc 2 1, 3) := by decide +kernel
theorem dX4_groups_64 : decode cX4_groups 64 = .ok (.goto (-60), 3) := by decide +kernel
theorem dX4_groups_67 : decode cX4_groups 67 = .ok (.iload_n 1, 1) := by decide +kernel
theorem dX4_groups_68 : decode cX4_groups 68 = .ok (.ireturn, 1) := by decide +kernel
theorem dX4_steps_0 : decode cX4_steps 0 = .ok (.aload_n 0, 1) := by decide +kernel
theorem dX4_steps_1 : decode cX4_steps 1 = .ok (.getfield 17, 3) := by decide +kernel
theorem dX4_steps_4 : decode cX4_steps 4 = .ok (.iload_n 1, 1) := by decide +kernel
theorem dX4_steps_5 : decode cX4_steps 5 = .ok (.aaload, 1) := by decide +kernel
theorem dX4_steps_6 : decode cX4_steps 6 = .ok (.iload_n 2, 1) := by decide +kernel
theorem dX4_steps_7 : decode cX4_steps 7 = .ok (.baload, 1) := by decide +kernel
theorem dX4_steps_8 : decode cX4_steps 8 = .ok (.ifCond .eq 7, 3) := by decide +kernel
theorem dX4_steps_11 : decode cX4_steps 11 = .ok (.iconst 0, 1) := by decide +kernel
theorem dX4_steps_12 : decode cX4_steps 12 = .ok (.goto 24, 3) := by decide +kernel
theorem dX4_steps_15 : decode cX4_steps 15 = .ok (.iload_n 1, 1) := by decide +kernel
theorem dX4_steps_16 : decode cX4_steps 16 = .ok (.iconst 3, 1) := by decide +kernel
theorem dX4_steps_17 : decode cX4_steps 17 = .ok (.idiv, 1) := by decide +kernel
theorem dX4_steps_18 : decode cX4_steps 18 = .ok (.iload_n 2, 1) := by decide +kernel
theorem dX4_steps_19 : decode cX4_steps 19 = .ok (.iconst 3, 1) := by decide +kernel
theorem dX4_steps_20 : decode cX4_steps 20 = .ok (.idiv, 1) := by decide +kernel
theorem dX4_steps_21 : decode cX4_steps 21 = .ok (.isub, 1) := by decide +kernel
theorem dX4_steps_22 : decode cX4_steps 22 = .ok (.invokestatic 22, 3) := by decide +kernel
theorem dX4_steps_25 : decode cX4_steps 25 = .ok (.iload_n 1, 1) := by decide +kernel
theorem dX4_steps_26 : decode cX4_steps 26 = .ok (.iconst 3, 1) := by decide +kernel
theorem dX4_steps_27 : decode cX4_steps 27 = .ok (.irem, 1) := by decide +kernel
theorem dX4_steps_28 : decode cX4_steps 28 = .ok (.iload_n 2, 1) := by decide +kernel
theorem dX4_steps_29 : decode cX4_steps 29 = .ok (.iconst 3, 1) := by decide +kernel
theorem dX4_steps_30 : decode cX4_steps 30 = .ok (.irem, 1) := by decide +kernel
theorem dX4_steps_31 : decode cX4_steps 31 = .ok (.isub, 1) := by decide +kernel
theorem dX4_steps_32 : decode cX4_steps 32 = .ok (.invokestatic 22, 3) := by decide +kernel
theorem dX4_steps_35 : decode cX4_steps 35 = .ok (.iadd, 1) := by decide +kernel
theorem dX4_steps_36 : decode cX4_steps 36 = .ok (.ireturn, 1) := by decide +kernel
theorem dX4_far_0 : decode cX4_far 0 = .ok (.aload_n 0, 1) := by decide +kernel
theorem dX4_far_1 : decode cX4_far 1 = .ok (.aload_n 1, 1) := by decide +kernel
theorem dX4_far_2 : decode cX4_far 2 = .ok (.iconst 2, 1) := by decide +kernel
theorem dX4_far_3 : decode cX4_far 3 = .ok (.iaload, 1) := by decide +kernel
theorem dX4_far_4 : decode cX4_far 4 = .ok (.aload_n 2, 1) := by decide +kernel
theorem dX4_far_5 : decode cX4_far 5 = .ok (.iconst 2, 1) := by decide +kernel
theorem dX4_far_6 : decode cX4_far 6 = .ok (.iaload, 1) := by decide +kernel
theorem dX4_far_7 : decode cX4_far 7 = .ok (.invokevirtual 28, 3) := by decide +kernel
theorem dX4_far_10 : decode cX4_far 10 = .ok (.istore_n 3, 1) := by decide +kernel
theorem dX4_far_11 : decode cX4_far 11 = .ok (.iconst 1, 1) := by decide +kernel
theorem dX4_far_12 : decode cX4_far 12 = .ok (.istore 4, 2) := by decide +kernel
theorem dX4_far_14 : decode cX4_far 14 = .ok (.iload 4, 2) := by decide +kernel
theorem dX4_far_16 : decode cX4_far 16 = .ok (.bipush 16, 2) := by decide +kernel
theorem dX4_far_18 : decode cX4_far 18 = .ok (.if_icmp .ge 35, 3) := by decide +kernel
theorem dX4_far_21 : decode cX4_far 21 = .ok (.aload_n 1, 1) := by decide +kernel
theorem dX4_far_22 : decode cX4_far 22 = .ok (.iconst 0, 1) := by decide +kernel
theorem dX4_far_23 : decode cX4_far 23 = .ok (.iaload, 1) := by decide +kernel
theorem dX4_far_24 : decode cX4_far 24 = .ok (.iload 4, 2) := by decide +kernel
theorem dX4_far_26 : decode cX4_far 26 = .ok (.idiv, 1) := by decide +kernel
theorem dX4_far_27 : decode cX4_far 27 = .ok (.iconst 2, 1) := by decide +kernel
theorem dX4_far_28 : decode cX4_far 28 = .ok (.irem, 1) := by decide +kernel
theorem dX4_far_29 : decode cX4_far 29 = .ok (.aload_n 2, 1) := by decide +kernel
theorem dX4_far_30 : decode cX4_far 30 = .ok (.iconst 0, 1) := by decide +kernel
theorem dX4_far_31 : decode cX4_far 31 = .ok (.iaload, 1) := by decide +kernel
theorem dX4_far_32 : decode cX4_far 32 = .ok (.iload 4, 2) := by decide +kernel
theorem dX4_far_34 : decode cX4_far 34 = .ok (.idiv, 1) := by decide +kernel
theorem dX4_far_35 : decode cX4_far 35 = .ok (.iconst 2, 1) := by decide +kernel
theorem dX4_far_36 : decode cX4_far 36 = .ok (.irem, 1) := by decide +kernel
theorem dX4_far_37 : decode cX4_far 37 = .ok (.if_icmp .eq 6, 3) := by decide +kernel
theorem dX4_far_40 : decode cX4_far 40 = .ok (.iinc 3 1, 3) := by decide +kernel
theorem dX4_far_43 : decode cX4_far 43 = .ok (.iload 4, 2) := by decide +kernel
theorem dX4_far_45 : decode cX4_far 45 = .ok (.iload 4, 2) := by decide +kernel
theorem dX4_far_47 : decode cX4_far 47 = .ok (.iadd, 1) := by decide +kernel
theorem dX4_far_48 : decode cX4_far 48 = .ok (.istore 4, 2) := by decide +kernel
theorem dX4_far_50 : decode cX4_far 50 = .ok (.goto (-36), 3) := by decide +kernel
theorem dX4_far_53 : decode cX4_far 53 = .ok (.aload_n 1, 1) := by decide +kernel
theorem dX4_far_54 : decode cX4_far 54 = .ok (.iconst 1, 1) := by decide +kernel
theorem dX4_far_55 : decode cX4_far 55 = .ok (.iaload, 1) := by decide +kernel
theorem dX4_far_56 : decode cX4_far 56 = .ok (.aload_n 2, 1) := by decide +kernel
theorem dX4_far_57 : decode cX4_far 57 = .ok (.iconst 1, 1) := by decide +kernel
theorem dX4_far_58 : decode cX4_far 58 = .ok (.iaload, 1) := by decide +kernel
theorem dX4_far_59 : decode cX4_far 59 = .ok (.if_icmp .eq 6, 3) := by decide +kernel
theorem dX4_far_62 : decode cX4_far 62 = .ok (.iinc 3 1, 3) := by decide +kernel
theorem dX4_far_65 : decode cX4_far 65 = .ok (.aload_n 1, 1) := by decide +kernel
theorem dX4_far_66 : decode cX4_far 66 = .ok (.iconst 3, 1) := by decide +kernel
theorem dX4_far_67 : decode cX4_far 67 = .ok (.iaload, 1) := by decide +kernel
theorem dX4_far_68 : decode cX4_far 68 = .ok (.aload_n 2, 1) := by decide +kernel
theorem dX4_far_69 : decode cX4_far 69 = .ok (.iconst 3, 1) := by decide +kernel
theorem dX4_far_70 : decode cX4_far 70 = .ok (.iaload, 1) := by decide +kernel
theorem dX4_far_71 : decode cX4_far 71 = .ok (.if_icmp .eq 6, 3) := by decide +kernel
theorem dX4_far_74 : decode cX4_far 74 = .ok (.iinc 3 2, 3) := by decide +kernel
theorem dX4_far_77 : decode cX4_far 77 = .ok (.iload_n 3, 1) := by decide +kernel
theorem dX4_far_78 : decode cX4_far 78 = .ok (.ireturn, 1) := by decide +kernel
theorem dX4_read_0 : decode cX4_read 0 = .ok (.bipush 99, 2) := by decide +kernel
theorem dX4_read_2 : decode cX4_read 2 = .ok (.istore_n 3, 1) := by decide +kernel
theorem dX4_read_3 : decode cX4_read 3 = .ok (.iconst 0, 1) := by decide +kernel
theorem dX4_read_4 : decode cX4_read 4 = .ok (.istore 4, 2) := by decide +kernel
theorem dX4_read_6 : decode cX4_read 6 = .ok (.iconst (-1), 1) := by decide +kernel
theorem dX4_read_7 : decode cX4_read 7 = .ok (.istore 5, 2) := by decide +kernel
theorem dX4_read_9 : decode cX4_read 9 = .ok (.aload_n 0, 1) := by decide +kernel
theorem dX4_read_10 : decode cX4_read 10 = .ok (.getfield 9, 3) := by decide +kernel
theorem dX4_read_13 : decode cX4_read 13 = .ok (.iload_n 2, 1) := by decide +kernel
theorem dX4_read_14 : decode cX4_read 14 = .ok (.aaload, 1) := by decide +kernel
theorem dX4_read_15 : decode cX4_read 15 = .ok (.astore 6, 2) := by decide +kernel
theorem dX4_read_17 : decode cX4_read 17 = .ok (.aload 6, 2) := by decide +kernel
theorem dX4_read_19 : decode cX4_read 19 = .ok (.arraylength, 1) := by decide +kernel
theorem dX4_read_20 : decode cX4_read 20 = .ok (.istore 7, 2) := by decide +kernel
theorem dX4_read_22 : decode cX4_read 22 = .ok (.iconst 0, 1) := by decide +kernel
theorem dX4_read_23 : decode cX4_read 23 = .ok (.istore 8, 2) := by decide +kernel
theorem dX4_read_25 : decode cX4_read 25 = .ok (.iload 8, 2) := by decide +kernel
theorem dX4_read_27 : decode cX4_read 27 = .ok (.iload 7, 2) := by decide +kernel
theorem dX4_read_29 : decode cX4_read 29 = .ok (.if_icmp .ge 55, 3) := by decide +kernel
theorem dX4_read_32 : decode cX4_read 32 = .ok (.aload 6, 2) := by decide +kernel
theorem dX4_read_34 : decode cX4_read 34 = .ok (.iload 8, 2) := by decide +kernel
theorem dX4_read_36 : decode cX4_read 36 = .ok (.aaload, 1) := by decide +kernel
theorem dX4_read_37 : decode cX4_read 37 = .ok (.astore 9, 2) := by decide +kernel
theorem dX4_read_39 : decode cX4_read 39 = .ok (.aload_n 0, 1) := by decide +kernel
theorem dX4_read_40 : decode cX4_read 40 = .ok (.aload_n 1, 1) := by decide +kernel
theorem dX4_read_41 : decode cX4_read 41 = .ok (.aload 9, 2) := by decide +kernel
theorem dX4_read_43 : decode cX4_read 43 = .ok (.invokevirtual 32, 3) := by decide +kernel
theorem dX4_read_46 : decode cX4_read 46 = .ok (.istore 10, 2) := by decide +kernel
theorem dX4_read_48 : decode cX4_read 48 = .ok (.iload 10, 2) := by decide +kernel
theorem dX4_read_50 : decode cX4_read 50 = .ok (.iload_n 3, 1) := by decide +kernel
theorem dX4_read_51 : decode cX4_read 51 = .ok (.if_icmp .ge 9, 3) := by decide +kernel
theorem dX4_read_54 : decode cX4_read 54 = .ok (.iload 10, 2) := by decide +kernel
theorem dX4_read_56 : decode cX4_read 56 = .ok (.istore_n 3, 1) := by decide +kernel
theorem dX4_read_57 : decode cX4_read 57 = .ok (.iconst 0, 1) := by decide +kernel
theorem dX4_read_58 : decode cX4_read 58 = .ok (.istore 4, 2) := by decide +kernel
theorem dX4_read_60 : decode cX4_read 60 = .ok (.iload 10, 2) := by decide +kernel
theorem dX4_read_62 : decode cX4_read 62 = .ok (.iload_n 3, 1) := by decide +kernel
theorem dX4_read_63 : decode cX4_read 63 = .ok (.if_icmp .le 6, 3) := by decide +kernel
theorem dX4_read_66 : decode cX4_read 66 = .ok (.goto 12, 3) := by decide +kernel
theorem dX4_read_69 : decode cX4_read 69 = .ok (.iinc 4 1, 3) := by decide +kernel
theorem dX4_read_72 : decode cX4_read 72 = .ok (.aload 9, 2) := by decide +kernel
theorem dX4_read_74 : decode cX4_read 74 = .ok (.iconst 4, 1) := by decide +kernel
theorem dX4_read_75 : decode cX4_read 75 = .ok (.iaload, 1) := by decide +kernel
theorem dX4_read_76 : decode cX4_read 76 = .ok (.istore 5, 2) := by decide +kernel
theorem dX4_read_78 : decode cX4_read 78 = .ok (.iinc 8 1, 3) := by decide +kernel
theorem dX4_read_81 : decode cX4_read 81 = .ok (.goto (-56), 3) := by decide +kernel
theorem dX4_read_84 : decode cX4_read 84 = .ok (.iload 4, 2) := by decide +kernel
theorem dX4_read_86 : decode cX4_read 86 = .ok (.iconst 1, 1) := by decide +kernel
theorem dX4_read_87 : decode cX4_read 87 = .ok (.if_icmp .ne 13, 3) := by decide +kernel
theorem dX4_read_90 : decode cX4_read 90 = .ok (.iload_n 3, 1) := by decide +kernel
theorem dX4_read_91 : decode cX4_read 91 = .ok (.iconst 4, 1) := by decide +kernel
theorem dX4_read_92 : decode cX4_read 92 = .ok (.if_icmp .ge 8, 3) := by decide +kernel
theorem dX4_read_95 : decode cX4_read 95 = .ok (.iload 5, 2) := by decide +kernel
theorem dX4_read_97 : decode cX4_read 97 = .ok (.goto 4, 3) := by decide +kernel
theorem dX4_read_100 : decode cX4_read 100 = .ok (.iconst (-1), 1) := by decide +kernel
theorem dX4_read_101 : decode cX4_read 101 = .ok (.ireturn, 1) := by decide +kernel
theorem dX4_signFor_0 : decode cX4_signFor 0 = .ok (.iconst 0, 1) := by decide +kernel
theorem dX4_signFor_1 : decode cX4_signFor 1 = .ok (.istore_n 3, 1) := by decide +kernel
theorem dX4_signFor_2 : decode cX4_signFor 2 = .ok (.iload_n 3, 1) := by decide +kernel
theorem dX4_signFor_3 : decode cX4_signFor 3 = .ok (.aload_n 0, 1) := by decide +kernel
theorem dX4_signFor_4 : decode cX4_signFor 4 = .ok (.getfield 9, 3) := by decide +kernel
theorem dX4_signFor_7 : decode cX4_signFor 7 = .ok (.iload_n 1, 1) := by decide +kernel
theorem dX4_signFor_8 : decode cX4_signFor 8 = .ok (.aaload, 1) := by decide +kernel
theorem dX4_signFor_9 : decode cX4_signFor 9 = .ok (.arraylength, 1) := by decide +kernel
theorem dX4_signFor_10 : decode cX4_signFor 10 = .ok (.if_icmp .ge 25, 3) := by decide +kernel
theorem dX4_signFor_13 : decode cX4_signFor 13 = .ok (.aload_n 0, 1) := by decide +kernel
theorem dX4_signFor_14 : decode cX4_signFor 14 = .ok (.getfield 9, 3) := by decide +kernel
theorem dX4_signFor_17 : decode cX4_signFor 17 = .ok (.iload_n 1, 1) := by decide +kernel
theorem dX4_signFor_18 : decode cX4_signFor 18 = .ok (.aaload, 1) := by decide +kernel
theorem dX4_signFor_19 : decode cX4_signFor 19 = .ok (.iload_n 3, 1) := by decide +kernel
theorem dX4_signFor_20 : decode cX4_signFor 20 = .ok (.aaload, 1) := by decide +kernel
theorem dX4_signFor_21 : decode cX4_signFor 21 = .ok (.iconst 4, 1) := by decide +kernel
theorem dX4_signFor_22 : decode cX4_signFor 22 = .ok (.iaload, 1) := by decide +kernel
theorem dX4_signFor_23 : decode cX4_signFor 23 = .ok (.iload_n 2, 1) := by decide +kernel
theorem dX4_signFor_24 : decode cX4_signFor 24 = .ok (.if_icmp .ne 5, 3) := by decide +kernel
theorem dX4_signFor_27 : decode cX4_signFor 27 = .ok (.iload_n 3, 1) := by decide +kernel
theorem dX4_signFor_28 : decode cX4_signFor 28 = .ok (.ireturn, 1) := by decide +kernel
theorem dX4_signFor_29 : decode cX4_signFor 29 = .ok (.iinc 3 1, 3) := by decide +kernel
theorem dX4_signFor_32 : decode cX4_signFor 32 = .ok (.goto (-30), 3) := by decide +kernel
theorem dX4_signFor_35 : decode cX4_signFor 35 = .ok (.iconst (-1), 1) := by decide +kernel
theorem dX4_signFor_36 : decode cX4_signFor 36 = .ok (.ireturn, 1) := by decide +kernel
theorem dX4_borrowed_0 : decode cX4_borrowed 0 = .ok (.aload_n 0, 1) := by decide +kernel
theorem dX4_borrowed_1 : decode cX4_borrowed 1 = .ok (.getfield 9, 3) := by decide +kernel
theorem dX4_borrowed_4 : decode cX4_borrowed 4 = .ok (.iload_n 2, 1) := by decide +kernel
theorem dX4_borrowed_5 : decode cX4_borrowed 5 = .ok (.aaload, 1) := by decide +kernel
theorem dX4_borrowed_6 : decode cX4_borrowed 6 = .ok (.arraylength, 1) := by decide +kernel
theorem dX4_borrowed_7 : decode cX4_borrowed 7 = .ok (.bipush 16, 2) := by decide +kernel
theorem dX4_borrowed_9 : decode cX4_borrowed 9 = .ok (.if_icmp .eq 14, 3) := by decide +kernel
theorem dX4_borrowed_12 : decode cX4_borrowed 12 = .ok (.aload_n 0, 1) := by decide +kernel
theorem dX4_borrowed_13 : decode cX4_borrowed 13 = .ok (.iload_n 2, 1) := by decide +kernel
theorem dX4_borrowed_14 : decode cX4_borrowed 14 = .ok (.aload_n 1, 1) := by decide +kernel
theorem dX4_borrowed_15 : decode cX4_borrowed 15 = .ok (.iconst 4, 1) := by decide +kernel
theorem dX4_borrowed_16 : decode cX4_borrowed 16 = .ok (.iaload, 1) := by decide +kernel
theorem dX4_borrowed_17 : decode cX4_borrowed 17 = .ok (.invokevirtual 36, 3) := by decide +kernel
theorem dX4_borrowed_20 : decode cX4_borrowed 20 = .ok (.ifCond .lt 5, 3) := by decide +kernel
theorem dX4_borrowed_23 : decode cX4_borrowed 23 = .ok (.aconst_null, 1) := by decide +kernel
theorem dX4_borrowed_24 : decode cX4_borrowed 24 = .ok (.areturn, 1) := by decide +kernel
theorem dX4_borrowed_25 : decode cX4_borrowed 25 = .ok (.iconst 0, 1) := by decide +kernel
theorem dX4_borrowed_26 : decode cX4_borrowed 26 = .ok (.istore_n 3, 1) := by decide +kernel
theorem dX4_borrowed_27 : decode cX4_borrowed 27 = .ok (.iload_n 3, 1) := by decide +kernel
theorem dX4_borrowed_28 : decode cX4_borrowed 28 = .ok (.iconst 4, 1) := by decide +kernel
theorem dX4_borrowed_29 : decode cX4_borrowed 29 = .ok (.if_icmp .ge 118, 3) := by decide +kernel
theorem dX4_borrowed_32 : decode cX4_borrowed 32 = .ok (.iconst 5, 1) := by decide +kernel
theorem dX4_borrowed_33 : decode cX4_borrowed 33 = .ok (.newarray .int, 2) := by decide +kernel
theorem dX4_borrowed_35 : decode cX4_borrowed 35 = .ok (.dup, 1) := by decide +kernel
theorem dX4_borrowed_36 : decode cX4_borrowed 36 = .ok (.iconst 0, 1) := by decide +kernel
theorem dX4_borrowed_37 : decode cX4_borrowed 37 = .ok (.aload_n 1, 1) := by decide +kernel
theorem dX4_borrowed_38 : decode cX4_borrowed 38 = .ok (.iconst 0, 1) := by decide +kernel
theorem dX4_borrowed_39 : decode cX4_borrowed 39 = .ok (.iaload, 1) := by decide +kernel
theorem dX4_borrowed_40 : decode cX4_borrowed 40 = .ok (.iastore, 1) := by decide +kernel
theorem dX4_borrowed_41 : decode cX4_borrowed 41 = .ok (.dup, 1) := by decide +kernel
theorem dX4_borrowed_42 : decode cX4_borrowed 42 = .ok (.iconst 1, 1) := by decide +kernel
theorem dX4_borrowed_43 : decode cX4_borrowed 43 = .ok (.aload_n 1, 1) := by decide +kernel
theorem dX4_borrowed_44 : decode cX4_borrowed 44 = .ok (.iconst 1, 1) := by decide +kernel
theorem dX4_borrowed_45 : decode cX4_borrowed 45 = .ok (.iaload, 1) := by decide +kernel
theorem dX4_borrowed_46 : decode cX4_borrowed 46 = .ok (.iload_n 3, 1) := by decide +kernel
theorem dX4_borrowed_47 : decode cX4_borrowed 47 = .ok (.iadd, 1) := by decide +kernel
theorem dX4_borrowed_48 : decode cX4_borrowed 48 = .ok (.iconst 4, 1) := by decide +kernel
theorem dX4_borrowed_49 : decode cX4_borrowed 49 = .ok (.irem, 1) := by decide +kernel
theorem dX4_borrowed_50 : decode cX4_borrowed 50 = .ok (.iastore, 1) := by decide +kernel
theorem dX4_borrowed_51 : decode cX4_borrowed 51 = .ok (.dup, 1) := by decide +kernel
theorem dX4_borrowed_52 : decode cX4_borrowed 52 = .ok (.iconst 2, 1) := by decide +kernel
theorem dX4_borrowed_53 : decode cX4_borrowed 53 = .ok (.aload_n 1, 1) := by decide +kernel
theorem dX4_borrowed_54 : decode cX4_borrowed 54 = .ok (.iconst 2, 1) := by decide +kernel
theorem dX4_borrowed_55 : decode cX4_borrowed 55 = .ok (.iaload, 1) := by decide +kernel
theorem dX4_borrowed_56 : decode cX4_borrowed 56 = .ok (.iastore, 1) := by decide +kernel
theorem dX4_borrowed_57 : decode cX4_borrowed 57 = .ok (.dup, 1) := by decide +kernel
theorem dX4_borrowed_58 : decode cX4_borrowed 58 = .ok (.iconst 3, 1) := by decide +kernel
theorem dX4_borrowed_59 : decode cX4_borrowed 59 = .ok (.aload_n 1, 1) := by decide +kernel
theorem dX4_borrowed_60 : decode cX4_borrowed 60 = .ok (.iconst 3, 1) := by decide +kernel
theorem dX4_borrowed_61 : decode cX4_borrowed 61 = .ok (.iaload, 1) := by decide +kernel
theorem dX4_borrowed_62 : decode cX4_borrowed 62 = .ok (.iastore, 1) := by decide +kernel
theorem dX4_borrowed_63 : decode cX4_borrowed 63 = .ok (.dup, 1) := by decide +kernel
theorem dX4_borrowed_64 : decode cX4_borrowed 64 = .ok (.iconst 4, 1) := by decide +kernel
theorem dX4_borrowed_65 : decode cX4_borrowed 65 = .ok (.aload_n 1, 1) := by decide +kernel
theorem dX4_borrowed_66 : decode cX4_borrowed 66 = .ok (.iconst 4, 1) := by decide +kernel
theorem dX4_borrowed_67 : decode cX4_borrowed 67 = .ok (.iaload, 1) := by decide +kernel
theorem dX4_borrowed_68 : decode cX4_borrowed 68 = .ok (.iastore, 1) := by decide +kernel
theorem dX4_borrowed_69 : decode cX4_borrowed 69 = .ok (.astore 4, 2) := by decide +kernel
theorem dX4_borrowed_71 : decode cX4_borrowed 71 = .ok (.iconst 1, 1) := by decide +kernel
theorem dX4_borrowed_72 : decode cX4_borrowed 72 = .ok (.istore 5, 2) := by decide +kernel
theorem dX4_borrowed_74 : decode cX4_borrowed 74 = .ok (.aload_n 0, 1) := by decide +kernel
theorem dX4_borrowed_75 : decode cX4_borrowed 75 = .ok (.getfield 9, 3) := by decide +kernel
theorem dX4_borrowed_78 : decode cX4_borrowed 78 = .ok (.iload_n 2, 1) := by decide +kernel
theorem dX4_borrowed_79 : decode cX4_borrowed 79 = .ok (.aaload, 1) := by decide +kernel
theorem dX4_borrowed_80 : decode cX4_borrowed 80 = .ok (.astore 6, 2) := by decide +kernel
theorem dX4_borrowed_82 : decode cX4_borrowed 82 = .ok (.aload 6, 2) := by decide +kernel
theorem dX4_borrowed_84 : decode cX4_borrowed 84 = .ok (.arraylength, 1) := by decide +kernel
theorem dX4_borrowed_85 : decode cX4_borrowed 85 = .ok (.istore 7, 2) := by decide +kernel
theorem dX4_borrowed_87 : decode cX4_borrowed 87 = .ok (.iconst 0, 1) := by decide +kernel
theorem dX4_borrowed_88 : decode cX4_borrowed 88 = .ok (.istore 8, 2) := by decide +kernel
theorem dX4_borrowed_90 : decode cX4_borrowed 90 = .ok (.iload 8, 2) := by decide +kernel
theorem dX4_borrowed_92 : decode cX4_borrowed 92 = .ok (.iload 7, 2) := by decide +kernel
theorem dX4_borrowed_94 : decode cX4_borrowed 94 = .ok (.if_icmp .ge 39, 3) := by decide +kernel
theorem dX4_borrowed_97 : decode cX4_borrowed 97 = .ok (.aload 6, 2) := by decide +kernel
theorem dX4_borrowed_99 : decode cX4_borrowed 99 = .ok (.iload 8, 2) := by decide +kernel
theorem dX4_borrowed_101 : decode cX4_borrowed 101 = .ok (.aaload, 1) := by decide +kernel
theorem dX4_borrowed_102 : decode cX4_borrowed 102 = .ok (.astore 9, 2) := by decide +kernel
theorem dX4_borrowed_104 : decode cX4_borrowed 104 = .ok (.iload 5, 2) := by decide +kernel
theorem dX4_borrowed_106 : decode cX4_borrowed 106 = .ok (.ifCond .eq 18, 3) := by decide +kernel
theorem dX4_borrowed_109 : decode cX4_borrowed 109 = .ok (.aload_n 0, 1) := by decide +kernel
theorem dX4_borrowed_110 : decode cX4_borrowed 110 = .ok (.aload 4, 2) := by decide +kernel
theorem dX4_borrowed_112 : decode cX4_borrowed 112 = .ok (.aload 9, 2) := by decide +kernel
theorem dX4_borrowed_114 : decode cX4_borrowed 114 = .ok (.invokevirtual 32, 3) := by decide +kernel
theorem dX4_borrowed_117 : decode cX4_borrowed 117 = .ok (.ifCond .le 7, 3) := by decide +kernel
theorem dX4_borrowed_120 : decode cX4_borrowed 120 = .ok (.iconst 1, 1) := by decide +kernel
theorem dX4_borrowed_121 : decode cX4_borrowed 121 = .ok (.goto 4, 3) := by decide +kernel
theorem dX4_borrowed_124 : decode cX4_borrowed 124 = .ok (.iconst 0, 1) := by decide +kernel
theorem dX4_borrowed_125 : decode cX4_borrowed 125 = .ok (.istore 5, 2) := by decide +kernel
theorem dX4_borrowed_127 : decode cX4_borrowed 127 = .ok (.iinc 8 1, 3) := by decide +kernel
theorem dX4_borrowed_130 : decode cX4_borrowed 130 = .ok (.goto (-40), 3) := by decide +kernel
theorem dX4_borrowed_133 : decode cX4_borrowed 133 = .ok (.iload 5, 2) := by decide +kernel
theorem dX4_borrowed_135 : decode cX4_borrowed 135 = .ok (.ifCond .eq 6, 3) := by decide +kernel
theorem dX4_borrowed_138 : decode cX4_borrowed 138 = .ok (.aload 4, 2) := by decide +kernel
theorem dX4_borrowed_140 : decode cX4_borrowed 140 = .ok (.areturn, 1) := by decide +kernel
theorem dX4_borrowed_141 : decode cX4_borrowed 141 = .ok (.iinc 3 1, 3) := by decide +kernel
theorem dX4_borrowed_144 : decode cX4_borrowed 144 = .ok (.goto (-117), 3) := by decide +kernel
theorem dX4_borrowed_147 : decode cX4_borrowed 147 = .ok (.aconst_null, 1) := by decide +kernel
theorem dX4_borrowed_148 : decode cX4_borrowed 148 = .ok (.areturn, 1) := by decide +kernel
theorem dX4_alike_0 : decode cX4_alike 0 = .ok (.iconst 0, 1) := by decide +kernel
theorem dX4_alike_1 : decode cX4_alike 1 = .ok (.istore_n 2, 1) := by decide +kernel
theorem dX4_alike_2 : decode cX4_alike 2 = .ok (.iconst 0, 1) := by decide +kernel
theorem dX4_alike_3 : decode cX4_alike 3 = .ok (.istore_n 3, 1) := by decide +kernel
theorem dX4_alike_4 : decode cX4_alike 4 = .ok (.iload_n 3, 1) := by decide +kernel
theorem dX4_alike_5 : decode cX4_alike 5 = .ok (.aload_n 0, 1) := by decide +kernel
theorem dX4_alike_6 : decode cX4_alike 6 = .ok (.getfield 9, 3) := by decide +kernel
theorem dX4_alike_9 : decode cX4_alike 9 = .ok (.iload_n 1, 1) := by decide +kernel
theorem dX4_alike_10 : decode cX4_alike 10 = .ok (.aaload, 1) := by decide +kernel
theorem dX4_alike_11 : decode cX4_alike 11 = .ok (.arraylength, 1) := by decide +kernel
theorem dX4_alike_12 : decode cX4_alike 12 = .ok (.if_icmp .ge 56, 3) := by decide +kernel
theorem dX4_alike_15 : decode cX4_alike 15 = .ok (.iconst 0, 1) := by decide +kernel
theorem dX4_alike_16 : decode cX4_alike 16 = .ok (.istore 4, 2) := by decide +kernel
theorem dX4_alike_18 : decode cX4_alike 18 = .ok (.iload 4, 2) := by decide +kernel
theorem dX4_alike_20 : decode cX4_alike 20 = .ok (.iload_n 3, 1) := by decide +kernel
theorem dX4_alike_21 : decode cX4_alike 21 = .ok (.if_icmp .ge 41, 3) := by decide +kernel
theorem dX4_alike_24 : decode cX4_alike 24 = .ok (.iload_n 2, 1) := by decide +kernel
theorem dX4_alike_25 : decode cX4_alike 25 = .ok (.aload_n 0, 1) := by decide +kernel
theorem dX4_alike_26 : decode cX4_alike 26 = .ok (.aload_n 0, 1) := by decide +kernel
theorem dX4_alike_27 : decode cX4_alike 27 = .ok (.getfield 9, 3) := by decide +kernel
theorem dX4_alike_30 : decode cX4_alike 30 = .ok (.iload_n 1, 1) := by decide +kernel
theorem dX4_alike_31 : decode cX4_alike 31 = .ok (.aaload, 1) := by decide +kernel
theorem dX4_alike_32 : decode cX4_alike 32 = .ok (.iload_n 3, 1) := by decide +kernel
theorem dX4_alike_33 : decode cX4_alike 33 = .ok (.aaload, 1) := by decide +kernel
theorem dX4_alike_34 : decode cX4_alike 34 = .ok (.aload_n 0, 1) := by decide +kernel
theorem dX4_alike_35 : decode cX4_alike 35 = .ok (.getfield 9, 3) := by decide +kernel
theorem dX4_alike_38 : decode cX4_alike 38 = .ok (.iload_n 1, 1) := by decide +kernel
theorem dX4_alike_39 : decode cX4_alike 39 = .ok (.aaload, 1) := by decide +kernel
theorem dX4_alike_40 : decode cX4_alike 40 = .ok (.iload 4, 2) := by decide +kernel
theorem dX4_alike_42 : decode cX4_alike 42 = .ok (.aaload, 1) := by decide +kernel
theorem dX4_alike_43 : decode cX4_alike 43 = .ok (.invokevirtual 32, 3) := by decide +kernel
theorem dX4_alike_46 : decode cX4_alike 46 = .ok (.ifCond .ne 7, 3) := by decide +kernel
theorem dX4_alike_49 : decode cX4_alike 49 = .ok (.iconst 1, 1) := by decide +kernel
theorem dX4_alike_50 : decode cX4_alike 50 = .ok (.goto 4, 3) := by decide +kernel
theorem dX4_alike_53 : decode cX4_alike 53 = .ok (.iconst 0, 1) := by decide +kernel
theorem dX4_alike_54 : decode cX4_alike 54 = .ok (.iadd, 1) := by decide +kernel
theorem dX4_alike_55 : decode cX4_alike 55 = .ok (.istore_n 2, 1) := by decide +kernel
theorem dX4_alike_56 : decode cX4_alike 56 = .ok (.iinc 4 1, 3) := by decide +kernel
theorem dX4_alike_59 : decode cX4_alike 59 = .ok (.goto (-41), 3) := by decide +kernel
theorem dX4_alike_62 : decode cX4_alike 62 = .ok (.iinc 3 1, 3) := by decide +kernel
theorem dX4_alike_65 : decode cX4_alike 65 = .ok (.goto (-61), 3) := by decide +kernel
theorem dX4_alike_68 : decode cX4_alike 68 = .ok (.iload_n 2, 1) := by decide +kernel
theorem dX4_alike_69 : decode cX4_alike 69 = .ok (.ireturn, 1) := by decide +kernel
theorem dX4_understood_0 : decode cX4_understood 0 = .ok (.iconst 0, 1) := by decide +kernel
theorem dX4_understood_1 : decode cX4_understood 1 = .ok (.istore_n 3, 1) := by decide +kernel
theorem dX4_understood_2 : decode cX4_understood 2 = .ok (.aload_n 0, 1) := by decide +kernel
theorem dX4_understood_3 : decode cX4_understood 3 = .ok (.getfield 9, 3) := by decide +kernel
theorem dX4_understood_6 : decode cX4_understood 6 = .ok (.iload_n 1, 1) := by decide +kernel
theorem dX4_understood_7 : decode cX4_understood 7 = .ok (.aaload, 1) := by decide +kernel
theorem dX4_understood_8 : decode cX4_understood 8 = .ok (.astore 4, 2) := by decide +kernel
theorem dX4_understood_10 : decode cX4_understood 10 = .ok (.aload 4, 2) := by decide +kernel
theorem dX4_understood_12 : decode cX4_understood 12 = .ok (.arraylength, 1) := by decide +kernel
theorem dX4_understood_13 : decode cX4_understood 13 = .ok (.istore 5, 2) := by decide +kernel
theorem dX4_understood_15 : decode cX4_understood 15 = .ok (.iconst 0, 1) := by decide +kernel
theorem dX4_understood_16 : decode cX4_understood 16 = .ok (.istore 6, 2) := by decide +kernel
theorem dX4_understood_18 : decode cX4_understood 18 = .ok (.iload 6, 2) := by decide +kernel
theorem dX4_understood_20 : decode cX4_understood 20 = .ok (.iload 5, 2) := by decide +kernel
theorem dX4_understood_22 : decode cX4_understood 22 = .ok (.if_icmp .ge 38, 3) := by decide +kernel
theorem dX4_understood_25 : decode cX4_understood 25 = .ok (.aload 4, 2) := by decide +kernel
theorem dX4_understood_27 : decode cX4_understood 27 = .ok (.iload 6, 2) := by decide +kernel
theorem dX4_understood_29 : decode cX4_understood 29 = .ok (.aaload, 1) := by decide +kernel
theorem dX4_understood_30 : decode cX4_understood 30 = .ok (.astore 7, 2) := by decide +kernel
theorem dX4_understood_32 : decode cX4_understood 32 = .ok (.iload_n 3, 1) := by decide +kernel
theorem dX4_understood_33 : decode cX4_understood 33 = .ok (.aload_n 0, 1) := by decide +kernel
theorem dX4_understood_34 : decode cX4_understood 34 = .ok (.aload 7, 2) := by decide +kernel
theorem dX4_understood_36 : decode cX4_understood 36 = .ok (.iload_n 2, 1) := by decide +kernel
theorem dX4_understood_37 : decode cX4_understood 37 = .ok (.invokevirtual 39, 3) := by decide +kernel
theorem dX4_understood_40 : decode cX4_understood 40 = .ok (.aload 7, 2) := by decide +kernel
theorem dX4_understood_42 : decode cX4_understood 42 = .ok (.iconst 4, 1) := by decide +kernel
theorem dX4_understood_43 : decode cX4_understood 43 = .ok (.iaload, 1) := by decide +kernel
theorem dX4_understood_44 : decode cX4_understood 44 = .ok (.if_icmp .ne 7, 3) := by decide +kernel
theorem dX4_understood_47 : decode cX4_understood 47 = .ok (.iconst 1, 1) := by decide +kernel
theorem dX4_understood_48 : decode cX4_understood 48 = .ok (.goto 4, 3) := by decide +kernel
theorem dX4_understood_51 : decode cX4_understood 51 = .ok (.iconst 0, 1) := by decide +kernel
theorem dX4_understood_52 : decode cX4_understood 52 = .ok (.iadd, 1) := by decide +kernel
theorem dX4_understood_53 : decode cX4_understood 53 = .ok (.istore_n 3, 1) := by decide +kernel
theorem dX4_understood_54 : decode cX4_understood 54 = .ok (.iinc 6 1, 3) := by decide +kernel
theorem dX4_understood_57 : decode cX4_understood 57 = .ok (.goto (-39), 3) := by decide +kernel
theorem dX4_understood_60 : decode cX4_understood 60 = .ok (.iload_n 3, 1) := by decide +kernel
theorem dX4_understood_61 : decode cX4_understood 61 = .ok (.ireturn, 1) := by decide +kernel
theorem dX4_isSame_0 : decode cX4_isSame 0 = .ok (.aload_n 0, 1) := by decide +kernel
theorem dX4_isSame_1 : decode cX4_isSame 1 = .ok (.getfield 9, 3) := by decide +kernel
theorem dX4_isSame_4 : decode cX4_isSame 4 = .ok (.arraylength, 1) := by decide +kernel
theorem dX4_isSame_5 : decode cX4_isSame 5 = .ok (.istore_n 2, 1) := by decide +kernel
theorem dX4_isSame_6 : decode cX4_isSame 6 = .ok (.aload_n 1, 1) := by decide +kernel
theorem dX4_isSame_7 : decode cX4_isSame 7 = .ok (.invokevirtual 43, 3) := by decide +kernel
theorem dX4_isSame_10 : decode cX4_isSame 10 = .ok (.iload_n 2, 1) := by decide +kernel
theorem dX4_isSame_11 : decode cX4_isSame 11 = .ok (.if_icmp .ne 14, 3) := by decide +kernel
theorem dX4_isSame_14 : decode cX4_isSame 14 = .ok (.aload_n 1, 1) := by decide +kernel
theorem dX4_isSame_15 : decode cX4_isSame 15 = .ok (.invokevirtual 49, 3) := by decide +kernel
theorem dX4_isSame_18 : decode cX4_isSame 18 = .ok (.aload_n 0, 1) := by decide +kernel
theorem dX4_isSame_19 : decode cX4_isSame 19 = .ok (.invokevirtual 52, 3) := by decide +kernel
theorem dX4_isSame_22 : decode cX4_isSame 22 = .ok (.if_icmp .eq 5, 3) := by decide +kernel
theorem dX4_isSame_25 : decode cX4_isSame 25 = .ok (.iconst 0, 1) := by decide +kernel
theorem dX4_isSame_26 : decode cX4_isSame 26 = .ok (.ireturn, 1) := by decide +kernel
theorem dX4_isSame_27 : decode cX4_isSame 27 = .ok (.iconst 0, 1) := by decide +kernel
theorem dX4_isSame_28 : decode cX4_isSame 28 = .ok (.istore_n 3, 1) := by decide +kernel
theorem dX4_isSame_29 : decode cX4_isSame 29 = .ok (.iconst 0, 1) := by decide +kernel
theorem dX4_isSame_30 : decode cX4_isSame 30 = .ok (.istore 4, 2) := by decide +kernel
theorem dX4_isSame_32 : decode cX4_isSame 32 = .ok (.iload 4, 2) := by decide +kernel
theorem dX4_isSame_34 : decode cX4_isSame 34 = .ok (.iload_n 2, 1) := by decide +kernel
theorem dX4_isSame_35 : decode cX4_isSame 35 = .ok (.if_icmp .ge 572, 3) := by decide +kernel
theorem dX4_isSame_38 : decode cX4_isSame 38 = .ok (.aload_n 0, 1) := by decide +kernel
theorem dX4_isSame_39 : decode cX4_isSame 39 = .ok (.getfield 9, 3) := by decide +kernel
theorem dX4_isSame_42 : decode cX4_isSame 42 = .ok (.iload 4, 2) := by decide +kernel
theorem dX4_isSame_44 : decode cX4_isSame 44 = .ok (.aaload, 1) := by decide +kernel
theorem dX4_isSame_45 : decode cX4_isSame 45 = .ok (.astore 5, 2) := by decide +kernel
theorem dX4_isSame_47 : decode cX4_isSame 47 = .ok (.iload_n 3, 1) := by decide +kernel
theorem dX4_isSame_48 : decode cX4_isSame 48 = .ok (.aload 5, 2) := by decide +kernel
theorem dX4_isSame_50 : decode cX4_isSame 50 = .ok (.arraylength, 1) := by decide +kernel
theorem dX4_isSame_51 : decode cX4_isSame 51 = .ok (.iadd, 1) := by decide +kernel
theorem dX4_isSame_52 : decode cX4_isSame 52 = .ok (.istore_n 3, 1) := by decide +kernel
theorem dX4_isSame_53 : decode cX4_isSame 53 = .ok (.iconst 0, 1) := by decide +kernel
theorem dX4_isSame_54 : decode cX4_isSame 54 = .ok (.istore 6, 2) := by decide +kernel
theorem dX4_isSame_56 : decode cX4_isSame 56 = .ok (.bipush 99, 2) := by decide +kernel
theorem dX4_isSame_58 : decode cX4_isSame 58 = .ok (.istore 7, 2) := by decide +kernel
theorem dX4_isSame_60 : decode cX4_isSame 60 = .ok (.iconst (-1), 1) := by decide +kernel
theorem dX4_isSame_61 : decode cX4_isSame 61 = .ok (.istore 8, 2) := by decide +kernel
theorem dX4_isSame_63 : decode cX4_isSame 63 = .ok (.iconst (-1), 1) := by decide +kernel
theorem dX4_isSame_64 : decode cX4_isSame 64 = .ok (.istore 9, 2) := by decide +kernel
theorem dX4_isSame_66 : decode cX4_isSame 66 = .ok (.iconst 0, 1) := by decide +kernel
theorem dX4_isSame_67 : decode cX4_isSame 67 = .ok (.istore 10, 2) := by decide +kernel
theorem dX4_isSame_69 : decode cX4_isSame 69 = .ok (.iload 10, 2) := by decide +kernel
theorem dX4_isSame_71 : decode cX4_isSame 71 = .ok (.aload 5, 2) := by decide +kernel
theorem dX4_isSame_73 : decode cX4_isSame 73 = .ok (.arraylength, 1) := by decide +kernel
theorem dX4_isSame_74 : decode cX4_isSame 74 = .ok (.if_icmp .ge 244, 3) := by decide +kernel
theorem dX4_isSame_77 : decode cX4_isSame 77 = .ok (.iconst 0, 1) := by decide +kernel
theorem dX4_isSame_78 : decode cX4_isSame 78 = .ok (.istore 11, 2) := by decide +kernel
theorem dX4_isSame_80 : decode cX4_isSame 80 = .ok (.iconst 0, 1) := by decide +kernel
theorem dX4_isSame_81 : decode cX4_isSame 81 = .ok (.istore 12, 2) := by decide +kernel
theorem dX4_isSame_83 : decode cX4_isSame 83 = .ok (.iload 12, 2) := by decide +kernel
theorem dX4_isSame_85 : decode cX4_isSame 85 = .ok (.aload 5, 2) := by decide +kernel
theorem dX4_isSame_87 : decode cX4_isSame 87 = .ok (.arraylength, 1) := by decide +kernel
theorem dX4_isSame_88 : decode cX4_isSame 88 = .ok (.if_icmp .ge 117, 3) := by decide +kernel
theorem dX4_isSame_91 : decode cX4_isSame 91 = .ok (.aload_n 0, 1) := by decide +kernel
theorem dX4_isSame_92 : decode cX4_isSame 92 = .ok (.aload 5, 2) := by decide +kernel
theorem dX4_isSame_94 : decode cX4_isSame 94 = .ok (.iload 10, 2) := by decide +kernel
theorem dX4_isSame_96 : decode cX4_isSame 96 = .ok (.aaload, 1) := by decide +kernel
theorem dX4_isSame_97 : decode cX4_isSame 97 = .ok (.aload 5, 2) := by decide +kernel
theorem dX4_isSame_99 : decode cX4_isSame 99 = .ok (.iload 12, 2) := by decide +kernel
theorem dX4_isSame_101 : decode cX4_isSame 101 = .ok (.aaload, 1) := by decide +kernel
theorem dX4_isSame_102 : decode cX4_isSame 102 = .ok (.invokevirtual 32, 3) := by decide +kernel
theorem dX4_isSame_105 : decode cX4_isSame 105 = .ok (.istore 13, 2) := by decide +kernel
theorem dX4_isSame_107 : decode cX4_isSame 107 = .ok (.aload_n 1, 1) := by decide +kernel
theorem dX4_isSame_108 : decode cX4_isSame 108 = .ok (.iload 4, 2) := by decide +kernel
theorem dX4_isSame_110 : decode cX4_isSame 110 = .ok (.iload 10, 2) := by decide +kernel
theorem dX4_isSame_112 : decode cX4_isSame 112 = .ok (.iload 12, 2) := by decide +kernel
theorem dX4_isSame_114 : decode cX4_isSame 114 = .ok (.invokevirtual 53, 3) := by decide +kernel
theorem dX4_isSame_117 : decode cX4_isSame 117 = .ok (.iload 13, 2) := by decide +kernel
theorem dX4_isSame_119 : decode cX4_isSame 119 = .ok (.if_icmp .eq 5, 3) := by decide +kernel
theorem dX4_isSame_122 : decode cX4_isSame 122 = .ok (.iconst 0, 1) := by decide +kernel
theorem dX4_isSame_123 : decode cX4_isSame 123 = .ok (.ireturn, 1) := by decide +kernel
theorem dX4_isSame_124 : decode cX4_isSame 124 = .ok (.iload 12, 2) := by decide +kernel
theorem dX4_isSame_126 : decode cX4_isSame 126 = .ok (.iload 10, 2) := by decide +kernel
theorem dX4_isSame_128 : decode cX4_isSame 128 = .ok (.if_icmp .ne 6, 3) := by decide +kernel
theorem dX4_isSame_131 : decode cX4_isSame 131 = .ok (.goto 68, 3) := by decide +kernel
theorem dX4_isSame_134 : decode cX4_isSame 134 = .ok (.iload 11, 2) := by decide +kernel
theorem dX4_isSame_136 : decode cX4_isSame 136 = .ok (.iload 13, 2) := by decide +kernel
theorem dX4_isSame_138 : decode cX4_isSame 138 = .ok (.iconst 4, 1) := by decide +kernel
theorem dX4_isSame_139 : decode cX4_isSame 139 = .ok (.if_icmp .ge 7, 3) := by decide +kernel
theorem dX4_isSame_142 : decode cX4_isSame 142 = .ok (.iconst 1, 1) := by decide +kernel
theorem dX4_isSame_143 : decode cX4_isSame 143 = .ok (.goto 4, 3) := by decide +kernel
theorem dX4_isSame_146 : decode cX4_isSame 146 = .ok (.iconst 0, 1) := by decide +kernel
theorem dX4_isSame_147 : decode cX4_isSame 147 = .ok (.iadd, 1) := by decide +kernel
theorem dX4_isSame_148 : decode cX4_isSame 148 = .ok (.istore 11, 2) := by decide +kernel
theorem dX4_isSame_150 : decode cX4_isSame 150 = .ok (.iload 7, 2) := by decide +kernel
theorem dX4_isSame_152 : decode cX4_isSame 152 = .ok (.iload 13, 2) := by decide +kernel
theorem dX4_isSame_154 : decode cX4_isSame 154 = .ok (.invokestatic 57, 3) := by decide +kernel
theorem dX4_isSame_157 : decode cX4_isSame 157 = .ok (.istore 7, 2) := by decide +kernel
theorem dX4_isSame_159 : decode cX4_isSame 159 = .ok (.iload 6, 2) := by decide +kernel
theorem dX4_isSame_161 : decode cX4_isSame 161 = .ok (.iload 12, 2) := by decide +kernel
theorem dX4_isSame_163 : decode cX4_isSame 163 = .ok (.iload 10, 2) := by decide +kernel
theorem dX4_isSame_165 : decode cX4_isSame 165 = .ok (.if_icmp .ge 30, 3) := by decide +kernel
theorem dX4_isSame_168 : decode cX4_isSame 168 = .ok (.iload 13, 2) := by decide +kernel
theorem dX4_isSame_170 : decode cX4_isSame 170 = .ok (.iconst 1, 1) := by decide +kernel
theorem dX4_isSame_171 : decode cX4_isSame 171 = .ok (.if_icmp .ne 24, 3) := by decide +kernel
theorem dX4_isSame_174 : decode cX4_isSame 174 = .ok (.aload 5, 2) := by decide +kernel
theorem dX4_isSame_176 : decode cX4_isSame 176 = .ok (.iload 10, 2) := by decide +kernel
theorem dX4_isSame_178 : decode cX4_isSame 178 = .ok (.aaload, 1) := by decide +kernel
theorem dX4_isSame_179 : decode cX4_isSame 179 = .ok (.iconst 1, 1) := by decide +kernel
theorem dX4_isSame_180 : decode cX4_isSame 180 = .ok (.iaload, 1) := by decide +kernel
theorem dX4_isSame_181 : decode cX4_isSame 181 = .ok (.aload 5, 2) := by decide +kernel
theorem dX4_isSame_183 : decode cX4_isSame 183 = .ok (.iload 12, 2) := by decide +kernel
theorem dX4_isSame_185 : decode cX4_isSame 185 = .ok (.aaload, 1) := by decide +kernel
theorem dX4_isSame_186 : decode cX4_isSame 186 = .ok (.iconst 1, 1) := by decide +kernel
theorem dX4_isSame_187 : decode cX4_isSame 187 = .ok (.iaload, 1) := by decide +kernel
theorem dX4_isSame_188 : decode cX4_isSame 188 = .ok (.if_icmp .eq 7, 3) := by decide +kernel
theorem dX4_isSame_191 : decode cX4_isSame 191 = .ok (.iconst 1, 1) := by decide +kernel
theorem dX4_isSame_192 : decode cX4_isSame 192 = .ok (.goto 4, 3) := by decide +kernel
theorem dX4_isSame_195 : decode cX4_isSame 195 = .ok (.iconst 0, 1) := by decide +kernel
theorem dX4_isSame_196 : decode cX4_isSame 196 = .ok (.iadd, 1) := by decide +kernel
theorem dX4_isSame_197 : decode cX4_isSame 197 = .ok (.istore 6, 2) := by decide +kernel
theorem dX4_isSame_199 : decode cX4_isSame 199 = .ok (.iinc 12 1, 3) := by decide +kernel
theorem dX4_isSame_202 : decode cX4_isSame 202 = .ok (.goto (-119), 3) := by decide +kernel
theorem dX4_isSame_205 : decode cX4_isSame 205 = .ok (.iload 11, 2) := by decide +kernel
theorem dX4_isSame_207 : decode cX4_isSame 207 = .ok (.iload 9, 2) := by decide +kernel
theorem dX4_isSame_209 : decode cX4_isSame 209 = .ok (.if_icmp .le 11, 3) := by decide +kernel
theorem dX4_isSame_212 : decode cX4_isSame 212 = .ok (.iload 11, 2) := by decide +kernel
theorem dX4_isSame_214 : decode cX4_isSame 214 = .ok (.istore 9, 2) := by decide +kernel
theorem dX4_isSame_216 : decode cX4_isSame 216 = .ok (.iload 10, 2) := by decide +kernel
theorem dX4_isSame_218 : decode cX4_isSame 218 = .ok (.istore 8, 2) := by decide +kernel
theorem dX4_isSame_220 : decode cX4_isSame 220 = .ok (.aload_n 1, 1) := by decide +kernel
theorem dX4_isSame_221 : decode cX4_isSame 221 = .ok (.iload 4, 2) := by decide +kernel
theorem dX4_isSame_223 : decode cX4_isSame 223 = .ok (.iload 10, 2) := by decide +kernel
theorem dX4_isSame_225 : decode cX4_isSame 225 = .ok (.invokevirtual 60, 3) := by decide +kernel
theorem dX4_isSame_228 : decode cX4_isSame 228 = .ok (.aload 5, 2) := by decide +kernel
theorem dX4_isSame_230 : decode cX4_isSame 230 = .ok (.iload 10, 2) := by decide +kernel
theorem dX4_isSame_232 : decode cX4_isSame 232 = .ok (.aaload, 1) := by decide +kernel
theorem dX4_isSame_233 : decode cX4_isSame 233 = .ok (.iconst 0, 1) := by decide +kernel
theorem dX4_isSame_234 : decode cX4_isSame 234 = .ok (.iaload, 1) := by decide +kernel
theorem dX4_isSame_235 : decode cX4_isSame 235 = .ok (.if_icmp .ne 75, 3) := by decide +kernel
theorem dX4_isSame_238 : decode cX4_isSame 238 = .ok (.aload_n 1, 1) := by decide +kernel
theorem dX4_isSame_239 : decode cX4_isSame 239 = .ok (.iload 4, 2) := by decide +kernel
theorem dX4_isSame_241 : decode cX4_isSame 241 = .ok (.iload 10, 2) := by decide +kernel
theorem dX4_isSame_243 : decode cX4_isSame 243 = .ok (.invokevirtual 63, 3) := by decide +kernel
theorem dX4_isSame_246 : decode cX4_isSame 246 = .ok (.aload 5, 2) := by decide +kernel
theorem dX4_isSame_248 : decode cX4_isSame 248 = .ok (.iload 10, 2) := by decide +kernel
theorem dX4_isSame_250 : decode cX4_isSame 250 = .ok (.aaload, 1) := by decide +kernel
theorem dX4_isSame_251 : decode cX4_isSame 251 = .ok (.iconst 1, 1) := by decide +kernel
theorem dX4_isSame_252 : decode cX4_isSame 252 = .ok (.iaload, 1) := by decide +kernel
theorem dX4_isSame_253 : decode cX4_isSame 253 = .ok (.if_icmp .ne 57, 3) := by decide +kernel
theorem dX4_isSame_256 : decode cX4_isSame 256 = .ok (.aload_n 1, 1) := by decide +kernel
theorem dX4_isSame_257 : decode cX4_isSame 257 = .ok (.iload 4, 2) := by decide +kernel
theorem dX4_isSame_259 : decode cX4_isSame 259 = .ok (.iload 10, 2) := by decide +kernel
theorem dX4_isSame_261 : decode cX4_isSame 261 = .ok (.invokevirtual 66, 3) := by decide +kernel
theorem dX4_isSame_264 : decode cX4_isSame 264 = .ok (.aload 5, 2) := by decide +kernel
theorem dX4_isSame_266 : decode cX4_isSame 266 = .ok (.iload 10, 2) := by decide +kernel
theorem dX4_isSame_268 : decode cX4_isSame 268 = .ok (.aaload, 1) := by decide +kernel
theorem dX4_isSame_269 : decode cX4_isSame 269 = .ok (.iconst 2, 1) := by decide +kernel
theorem dX4_isSame_270 : decode cX4_isSame 270 = .ok (.iaload, 1) := by decide +kernel
theorem dX4_isSame_271 : decode cX4_isSame 271 = .ok (.if_icmp .ne 39, 3) := by decide +kernel
theorem dX4_isSame_274 : decode cX4_isSame 274 = .ok (.aload_n 1, 1) := by decide +kernel
theorem dX4_isSame_275 : decode cX4_isSame 275 = .ok (.iload 4, 2) := by decide +kernel
theorem dX4_isSame_277 : decode cX4_isSame 277 = .ok (.iload 10, 2) := by decide +kernel
theorem dX4_isSame_279 : decode cX4_isSame 279 = .ok (.invokevirtual 69, 3) := by decide +kernel
theorem dX4_isSame_282 : decode cX4_isSame 282 = .ok (.aload 5, 2) := by decide +kernel
theorem dX4_isSame_284 : decode cX4_isSame 284 = .ok (.iload 10, 2) := by decide +kernel
theorem dX4_isSame_286 : decode cX4_isSame 286 = .ok (.aaload, 1) := by decide +kernel
theorem dX4_isSame_287 : decode cX4_isSame 287 = .ok (.iconst 4, 1) := by decide +kernel
theorem dX4_isSame_288 : decode cX4_isSame 288 = .ok (.iaload, 1) := by decide +kernel
theorem dX4_isSame_289 : decode cX4_isSame 289 = .ok (.if_icmp .ne 21, 3) := by decide +kernel
theorem dX4_isSame_292 : decode cX4_isSame 292 = .ok (.aload_n 1, 1) := by decide +kernel
theorem dX4_isSame_293 : decode cX4_isSame 293 = .ok (.iload 4, 2) := by decide +kernel
theorem dX4_isSame_295 : decode cX4_isSame 295 = .ok (.aload 5, 2) := by decide +kernel
theorem dX4_isSame_297 : decode cX4_isSame 297 = .ok (.iload 10, 2) := by decide +kernel
theorem dX4_isSame_299 : decode cX4_isSame 299 = .ok (.aaload, 1) := by decide +kernel
theorem dX4_isSame_300 : decode cX4_isSame 300 = .ok (.iconst 4, 1) := by decide +kernel
theorem dX4_isSame_301 : decode cX4_isSame 301 = .ok (.iaload, 1) := by decide +kernel
theorem dX4_isSame_302 : decode cX4_isSame 302 = .ok (.invokevirtual 72, 3) := by decide +kernel
theorem dX4_isSame_305 : decode cX4_isSame 305 = .ok (.iload 10, 2) := by decide +kernel
theorem dX4_isSame_307 : decode cX4_isSame 307 = .ok (.if_icmp .eq 5, 3) := by decide +kernel
theorem dX4_isSame_310 : decode cX4_isSame 310 = .ok (.iconst 0, 1) := by decide +kernel
theorem dX4_isSame_311 : decode cX4_isSame 311 = .ok (.ireturn, 1) := by decide +kernel
theorem dX4_isSame_312 : decode cX4_isSame 312 = .ok (.iinc 10 1, 3) := by decide +kernel
theorem dX4_isSame_315 : decode cX4_isSame 315 = .ok (.goto (-246), 3) := by decide +kernel
theorem dX4_isSame_318 : decode cX4_isSame 318 = .ok (.aload_n 1, 1) := by decide +kernel
theorem dX4_isSame_319 : decode cX4_isSame 319 = .ok (.iload 4, 2) := by decide +kernel
theorem dX4_isSame_321 : decode cX4_isSame 321 = .ok (.invokevirtual 73, 3) := by decide +kernel
theorem dX4_isSame_324 : decode cX4_isSame 324 = .ok (.aload 5, 2) := by decide +kernel
theorem dX4_isSame_326 : decode cX4_isSame 326 = .ok (.arraylength, 1) := by decide +kernel
theorem dX4_isSame_327 : decode cX4_isSame 327 = .ok (.if_icmp .ne 62, 3) := by decide +kernel
theorem dX4_isSame_330 : decode cX4_isSame 330 = .ok (.aload_n 1, 1) := by decide +kernel
theorem dX4_isSame_331 : decode cX4_isSame 331 = .ok (.iload 4, 2) := by decide +kernel
theorem dX4_isSame_333 : decode cX4_isSame 333 = .ok (.invokevirtual 76, 3) := by decide +kernel
theorem dX4_isSame_336 : decode cX4_isSame 336 = .ok (.aload_n 0, 1) := by decide +kernel
theorem dX4_isSame_337 : decode cX4_isSame 337 = .ok (.iload 4, 2) := by decide +kernel
theorem dX4_isSame_339 : decode cX4_isSame 339 = .ok (.invokevirtual 79, 3) := by decide +kernel
theorem dX4_isSame_342 : decode cX4_isSame 342 = .ok (.if_icmp .ne 47, 3) := by decide +kernel
theorem dX4_isSame_345 : decode cX4_isSame 345 = .ok (.aload_n 1, 1) := by decide +kernel
theorem dX4_isSame_346 : decode cX4_isSame 346 = .ok (.iload 4, 2) := by decide +kernel
theorem dX4_isSame_348 : decode cX4_isSame 348 = .ok (.invokevirtual 82, 3) := by decide +kernel
theorem dX4_isSame_351 : decode cX4_isSame 351 = .ok (.iload 6, 2) := by decide +kernel
theorem dX4_isSame_353 : decode cX4_isSame 353 = .ok (.if_icmp .ne 36, 3) := by decide +kernel
theorem dX4_isSame_356 : decode cX4_isSame 356 = .ok (.aload_n 1, 1) := by decide +kernel
theorem dX4_isSame_357 : decode cX4_isSame 357 = .ok (.iload 4, 2) := by decide +kernel
theorem dX4_isSame_359 : decode cX4_isSame 359 = .ok (.invokevirtual 85, 3) := by decide +kernel
theorem dX4_isSame_362 : decode cX4_isSame 362 = .ok (.iload 7, 2) := by decide +kernel
theorem dX4_isSame_364 : decode cX4_isSame 364 = .ok (.bipush 99, 2) := by decide +kernel
theorem dX4_isSame_366 : decode cX4_isSame 366 = .ok (.if_icmp .ne 7, 3) := by decide +kernel
theorem dX4_isSame_369 : decode cX4_isSame 369 = .ok (.iconst 0, 1) := by decide +kernel
theorem dX4_isSame_370 : decode cX4_isSame 370 = .ok (.goto 5, 3) := by decide +kernel
theorem dX4_isSame_373 : decode cX4_isSame 373 = .ok (.iload 7, 2) := by decide +kernel
theorem dX4_isSame_375 : decode cX4_isSame 375 = .ok (.if_icmp .ne 14, 3) := by decide +kernel
theorem dX4_isSame_378 : decode cX4_isSame 378 = .ok (.aload_n 1, 1) := by decide +kernel
theorem dX4_isSame_379 : decode cX4_isSame 379 = .ok (.iload 4, 2) := by decide +kernel
theorem dX4_isSame_381 : decode cX4_isSame 381 = .ok (.invokevirtual 88, 3) := by decide +kernel
theorem dX4_isSame_384 : decode cX4_isSame 384 = .ok (.iload 8, 2) := by decide +kernel
theorem dX4_isSame_386 : decode cX4_isSame 386 = .ok (.if_icmp .eq 5, 3) := by decide +kernel
theorem dX4_isSame_389 : decode cX4_isSame 389 = .ok (.iconst 0, 1) := by decide +kernel
theorem dX4_isSame_390 : decode cX4_isSame 390 = .ok (.ireturn, 1) := by decide +kernel
theorem dX4_isSame_391 : decode cX4_isSame 391 = .ok (.iconst 0, 1) := by decide +kernel
theorem dX4_isSame_392 : decode cX4_isSame 392 = .ok (.istore 10, 2) := by decide +kernel
theorem dX4_isSame_394 : decode cX4_isSame 394 = .ok (.iload 10, 2) := by decide +kernel
theorem dX4_isSame_396 : decode cX4_isSame 396 = .ok (.iload_n 2, 1) := by decide +kernel
theorem dX4_isSame_397 : decode cX4_isSame 397 = .ok (.if_icmp .ge 204, 3) := by decide +kernel
theorem dX4_isSame_400 : decode cX4_isSame 400 = .ok (.iconst 0, 1) := by decide +kernel
theorem dX4_isSame_401 : decode cX4_isSame 401 = .ok (.istore 11, 2) := by decide +kernel
theorem dX4_isSame_403 : decode cX4_isSame 403 = .ok (.iconst 0, 1) := by decide +kernel
theorem dX4_isSame_404 : decode cX4_isSame 404 = .ok (.istore 12, 2) := by decide +kernel
theorem dX4_isSame_406 : decode cX4_isSame 406 = .ok (.iconst 0, 1) := by decide +kernel
theorem dX4_isSame_407 : decode cX4_isSame 407 = .ok (.istore 13, 2) := by decide +kernel
theorem dX4_isSame_409 : decode cX4_isSame 409 = .ok (.iload 13, 2) := by decide +kernel
theorem dX4_isSame_411 : decode cX4_isSame 411 = .ok (.aload 5, 2) := by decide +kernel
theorem dX4_isSame_413 : decode cX4_isSame 413 = .ok (.arraylength, 1) := by decide +kernel
theorem dX4_isSame_414 : decode cX4_isSame 414 = .ok (.if_icmp .ge 134, 3) := by decide +kernel
theorem dX4_isSame_417 : decode cX4_isSame 417 = .ok (.aload_n 0, 1) := by decide +kernel
theorem dX4_isSame_418 : decode cX4_isSame 418 = .ok (.aload 5, 2) := by decide +kernel
theorem dX4_isSame_420 : decode cX4_isSame 420 = .ok (.iload 13, 2) := by decide +kernel
theorem dX4_isSame_422 : decode cX4_isSame 422 = .ok (.aaload, 1) := by decide +kernel
theorem dX4_isSame_423 : decode cX4_isSame 423 = .ok (.iload 10, 2) := by decide +kernel
theorem dX4_isSame_425 : decode cX4_isSame 425 = .ok (.invokevirtual 39, 3) := by decide +kernel
theorem dX4_isSame_428 : decode cX4_isSame 428 = .ok (.istore 14, 2) := by decide +kernel
theorem dX4_isSame_430 : decode cX4_isSame 430 = .ok (.aload_n 0, 1) := by decide +kernel
theorem dX4_isSame_431 : decode cX4_isSame 431 = .ok (.iload 10, 2) := by decide +kernel
theorem dX4_isSame_433 : decode cX4_isSame 433 = .ok (.aload 5, 2) := by decide +kernel
theorem dX4_isSame_435 : decode cX4_isSame 435 = .ok (.iload 13, 2) := by decide +kernel
theorem dX4_isSame_437 : decode cX4_isSame 437 = .ok (.aaload, 1) := by decide +kernel
theorem dX4_isSame_438 : decode cX4_isSame 438 = .ok (.iconst 4, 1) := by decide +kernel
theorem dX4_isSame_439 : decode cX4_isSame 439 = .ok (.iaload, 1) := by decide +kernel
theorem dX4_isSame_440 : decode cX4_isSame 440 = .ok (.invokevirtual 36, 3) := by decide +kernel
theorem dX4_isSame_443 : decode cX4_isSame 443 = .ok (.istore 15, 2) := by decide +kernel
theorem dX4_isSame_445 : decode cX4_isSame 445 = .ok (.iload 11, 2) := by decide +kernel
theorem dX4_isSame_447 : decode cX4_isSame 447 = .ok (.iload 14, 2) := by decide +kernel
theorem dX4_isSame_449 : decode cX4_isSame 449 = .ok (.ifCond .lt 19, 3) := by decide +kernel
theorem dX4_isSame_452 : decode cX4_isSame 452 = .ok (.iload 14, 2) := by decide +kernel
theorem dX4_isSame_454 : decode cX4_isSame 454 = .ok (.aload 5, 2) := by decide +kernel
theorem dX4_isSame_456 : decode cX4_isSame 456 = .ok (.iload 13, 2) := by decide +kernel
theorem dX4_isSame_458 : decode cX4_isSame 458 = .ok (.aaload, 1) := by decide +kernel
theorem dX4_isSame_459 : decode cX4_isSame 459 = .ok (.iconst 4, 1) := by decide +kernel
theorem dX4_isSame_460 : decode cX4_isSame 460 = .ok (.iaload, 1) := by decide +kernel
theorem dX4_isSame_461 : decode cX4_isSame 461 = .ok (.if_icmp .eq 7, 3) := by decide +kernel
theorem dX4_isSame_464 : decode cX4_isSame 464 = .ok (.iconst 1, 1) := by decide +kernel
theorem dX4_isSame_465 : decode cX4_isSame 465 = .ok (.goto 4, 3) := by decide +kernel
theorem dX4_isSame_468 : decode cX4_isSame 468 = .ok (.iconst 0, 1) := by decide +kernel
theorem dX4_isSame_469 : decode cX4_isSame 469 = .ok (.iadd, 1) := by decide +kernel
theorem dX4_isSame_470 : decode cX4_isSame 470 = .ok (.istore 11, 2) := by decide +kernel
theorem dX4_isSame_472 : decode cX4_isSame 472 = .ok (.iload 12, 2) := by decide +kernel
theorem dX4_isSame_474 : decode cX4_isSame 474 = .ok (.iload 15, 2) := by decide +kernel
theorem dX4_isSame_476 : decode cX4_isSame 476 = .ok (.ifCond .lt 45, 3) := by decide +kernel
theorem dX4_isSame_479 : decode cX4_isSame 479 = .ok (.iload 14, 2) := by decide +kernel
theorem dX4_isSame_481 : decode cX4_isSame 481 = .ok (.aload 5, 2) := by decide +kernel
theorem dX4_isSame_483 : decode cX4_isSame 483 = .ok (.iload 13, 2) := by decide +kernel
theorem dX4_isSame_485 : decode cX4_isSame 485 = .ok (.aaload, 1) := by decide +kernel
theorem dX4_isSame_486 : decode cX4_isSame 486 = .ok (.iconst 4, 1) := by decide +kernel
theorem dX4_isSame_487 : decode cX4_isSame 487 = .ok (.iaload, 1) := by decide +kernel
theorem dX4_isSame_488 : decode cX4_isSame 488 = .ok (.if_icmp .ne 33, 3) := by decide +kernel
theorem dX4_isSame_491 : decode cX4_isSame 491 = .ok (.aload_n 0, 1) := by decide +kernel
theorem dX4_isSame_492 : decode cX4_isSame 492 = .ok (.aload_n 0, 1) := by decide +kernel
theorem dX4_isSame_493 : decode cX4_isSame 493 = .ok (.getfield 9, 3) := by decide +kernel
theorem dX4_isSame_496 : decode cX4_isSame 496 = .ok (.iload 10, 2) := by decide +kernel
theorem dX4_isSame_498 : decode cX4_isSame 498 = .ok (.aaload, 1) := by decide +kernel
theorem dX4_isSame_499 : decode cX4_isSame 499 = .ok (.iload 15, 2) := by decide +kernel
theorem dX4_isSame_501 : decode cX4_isSame 501 = .ok (.aaload, 1) := by decide +kernel
theorem dX4_isSame_502 : decode cX4_isSame 502 = .ok (.iload 4, 2) := by decide +kernel
theorem dX4_isSame_504 : decode cX4_isSame 504 = .ok (.invokevirtual 39, 3) := by decide +kernel
theorem dX4_isSame_507 : decode cX4_isSame 507 = .ok (.aload 5, 2) := by decide +kernel
theorem dX4_isSame_509 : decode cX4_isSame 509 = .ok (.iload 13, 2) := by decide +kernel
theorem dX4_isSame_511 : decode cX4_isSame 511 = .ok (.aaload, 1) := by decide +kernel
theorem dX4_isSame_512 : decode cX4_isSame 512 = .ok (.iconst 4, 1) := by decide +kernel
theorem dX4_isSame_513 : decode cX4_isSame 513 = .ok (.iaload, 1) := by decide +kernel
theorem dX4_isSame_514 : decode cX4_isSame 514 = .ok (.if_icmp .ne 7, 3) := by decide +kernel
theorem dX4_isSame_517 : decode cX4_isSame 517 = .ok (.iconst 1, 1) := by decide +kernel
theorem dX4_isSame_518 : decode cX4_isSame 518 = .ok (.goto 4, 3) := by decide +kernel
theorem dX4_isSame_521 : decode cX4_isSame 521 = .ok (.iconst 0, 1) := by decide +kernel
theorem dX4_isSame_522 : decode cX4_isSame 522 = .ok (.iadd, 1) := by decide +kernel
theorem dX4_isSame_523 : decode cX4_isSame 523 = .ok (.istore 12, 2) := by decide +kernel
theorem dX4_isSame_525 : decode cX4_isSame 525 = .ok (.aload_n 1, 1) := by decide +kernel
theorem dX4_isSame_526 : decode cX4_isSame 526 = .ok (.iload 4, 2) := by decide +kernel
theorem dX4_isSame_528 : decode cX4_isSame 528 = .ok (.iload 13, 2) := by decide +kernel
theorem dX4_isSame_530 : decode cX4_isSame 530 = .ok (.iload 10, 2) := by decide +kernel
theorem dX4_isSame_532 : decode cX4_isSame 532 = .ok (.invokevirtual 91, 3) := by decide +kernel
theorem dX4_isSame_535 : decode cX4_isSame 535 = .ok (.iload 14, 2) := by decide +kernel
theorem dX4_isSame_537 : decode cX4_isSame 537 = .ok (.if_icmp .eq 5, 3) := by decide +kernel
theorem dX4_isSame_540 : decode cX4_isSame 540 = .ok (.iconst 0, 1) := by decide +kernel
theorem dX4_isSame_541 : decode cX4_isSame 541 = .ok (.ireturn, 1) := by decide +kernel
theorem dX4_isSame_542 : decode cX4_isSame 542 = .ok (.iinc 13 1, 3) := by decide +kernel
theorem dX4_isSame_545 : decode cX4_isSame 545 = .ok (.goto (-136), 3) := by decide +kernel
theorem dX4_isSame_548 : decode cX4_isSame 548 = .ok (.aload_n 1, 1) := by decide +kernel
theorem dX4_isSame_549 : decode cX4_isSame 549 = .ok (.iload 4, 2) := by decide +kernel
theorem dX4_isSame_551 : decode cX4_isSame 551 = .ok (.iload 10, 2) := by decide +kernel
theorem dX4_isSame_553 : decode cX4_isSame 553 = .ok (.invokevirtual 93, 3) := by decide +kernel
theorem dX4_isSame_556 : decode cX4_isSame 556 = .ok (.aload_n 0, 1) := by decide +kernel
theorem dX4_isSame_557 : decode cX4_isSame 557 = .ok (.iload 4, 2) := by decide +kernel
theorem dX4_isSame_559 : decode cX4_isSame 559 = .ok (.iload 10, 2) := by decide +kernel
theorem dX4_isSame_561 : decode cX4_isSame 561 = .ok (.invokevirtual 96, 3) := by decide +kernel
theorem dX4_isSame_564 : decode cX4_isSame 564 = .ok (.if_icmp .ne 29, 3) := by decide +kernel
theorem dX4_isSame_567 : decode cX4_isSame 567 = .ok (.aload_n 1, 1) := by decide +kernel
theorem dX4_isSame_568 : decode cX4_isSame 568 = .ok (.iload 4, 2) := by decide +kernel
theorem dX4_isSame_570 : decode cX4_isSame 570 = .ok (.iload 10, 2) := by decide +kernel
theorem dX4_isSame_572 : decode cX4_isSame 572 = .ok (.invokevirtual 97, 3) := by decide +kernel
theorem dX4_isSame_575 : decode cX4_isSame 575 = .ok (.iload 11, 2) := by decide +kernel
theorem dX4_isSame_577 : decode cX4_isSame 577 = .ok (.if_icmp .ne 16, 3) := by decide +kernel
theorem dX4_isSame_580 : decode cX4_isSame 580 = .ok (.aload_n 1, 1) := by decide +kernel
theorem dX4_isSame_581 : decode cX4_isSame 581 = .ok (.iload 4, 2) := by decide +kernel
theorem dX4_isSame_583 : decode cX4_isSame 583 = .ok (.iload 10, 2) := by decide +kernel
theorem dX4_isSame_585 : decode cX4_isSame 585 = .ok (.invokevirtual 100, 3) := by decide +kernel
theorem dX4_isSame_588 : decode cX4_isSame 588 = .ok (.iload 12, 2) := by decide +kernel
theorem dX4_isSame_590 : decode cX4_isSame 590 = .ok (.if_icmp .eq 5, 3) := by decide +kernel
theorem dX4_isSame_593 : decode cX4_isSame 593 = .ok (.iconst 0, 1) := by decide +kernel
theorem dX4_isSame_594 : decode cX4_isSame 594 = .ok (.ireturn, 1) := by decide +kernel
theorem dX4_isSame_595 : decode cX4_isSame 595 = .ok (.iinc 10 1, 3) := by decide +kernel
theorem dX4_isSame_598 : decode cX4_isSame 598 = .ok (.goto (-204), 3) := by decide +kernel
theorem dX4_isSame_601 : decode cX4_isSame 601 = .ok (.iinc 4 1, 3) := by decide +kernel
theorem dX4_isSame_604 : decode cX4_isSame 604 = .ok (.goto (-572), 3) := by decide +kernel
theorem dX4_isSame_607 : decode cX4_isSame 607 = .ok (.aload_n 1, 1) := by decide +kernel
theorem dX4_isSame_608 : decode cX4_isSame 608 = .ok (.invokevirtual 103, 3) := by decide +kernel
theorem dX4_isSame_611 : decode cX4_isSame 611 = .ok (.iload_n 2, 1) := by decide +kernel
theorem dX4_isSame_612 : decode cX4_isSame 612 = .ok (.ifCond .ne 7, 3) := by decide +kernel
theorem dX4_isSame_615 : decode cX4_isSame 615 = .ok (.dconst 0, 1) := by decide +kernel
theorem dX4_isSame_616 : decode cX4_isSame 616 = .ok (.goto 8, 3) := by decide +kernel
theorem dX4_isSame_619 : decode cX4_isSame 619 = .ok (.iload_n 3, 1) := by decide +kernel
theorem dX4_isSame_620 : decode cX4_isSame 620 = .ok (.i2d, 1) := by decide +kernel
theorem dX4_isSame_621 : decode cX4_isSame 621 = .ok (.iload_n 2, 1) := by decide +kernel
theorem dX4_isSame_622 : decode cX4_isSame 622 = .ok (.i2d, 1) := by decide +kernel
theorem dX4_isSame_623 : decode cX4_isSame 623 = .ok (.ddiv, 1) := by decide +kernel
theorem dX4_isSame_624 : decode cX4_isSame 624 = .ok (.dcmp .l, 1) := by decide +kernel
theorem dX4_isSame_625 : decode cX4_isSame 625 = .ok (.ifCond .ne 7, 3) := by decide +kernel
theorem dX4_isSame_628 : decode cX4_isSame 628 = .ok (.iconst 1, 1) := by decide +kernel
theorem dX4_isSame_629 : decode cX4_isSame 629 = .ok (.goto 4, 3) := by decide +kernel
theorem dX4_isSame_632 : decode cX4_isSame 632 = .ok (.iconst 0, 1) := by decide +kernel
theorem dX4_isSame_633 : decode cX4_isSame 633 = .ok (.ireturn, 1) := by decide +kernel
end
section
theorem dL_below_0 : decode cL_below 0 = .ok (.iload_n 0, 1) := by decide +kernel
theorem dL_below_1 : decode cL_below 1 = .ok (.ldc 7, 2) := by decide +kernel
theorem dL_below_3 : decode cL_below 3 = .ok (.iand, 1) := by decide +kernel
theorem dL_below_4 : decode cL_below 4 = .ok (.iload_n 1, 1) := by decide +kernel
theorem dL_below_5 : decode cL_below 5 = .ok (.irem, 1) := by decide +kernel
theorem dL_below_6 : decode cL_below 6 = .ok (.ireturn, 1) := by decide +kernel
theorem dL_cell_0 : decode cL_cell 0 = .ok (.iload_n 1, 1) := by decide +kernel
theorem dL_cell_1 : decode cL_cell 1 = .ok (.aload_n 0, 1) := by decide +kernel
theorem dL_cell_2 : decode cL_cell 2 = .ok (.arraylength, 1) := by decide +kernel
theorem dL_cell_3 : decode cL_cell 3 = .ok (.if_icmp .ge 9, 3) := by decide +kernel
theorem dL_cell_6 : decode cL_cell 6 = .ok (.aload_n 0, 1) := by decide +kernel
theorem dL_cell_7 : decode cL_cell 7 = .ok (.iload_n 1, 1) := by decide +kernel
theorem dL_cell_8 : decode cL_cell 8 = .ok (.iaload, 1) := by decide +kernel
theorem dL_cell_9 : decode cL_cell 9 = .ok (.goto 9, 3) := by decide +kernel
theorem dL_cell_12 : decode cL_cell 12 = .ok (.ldc 8, 2) := by decide +kernel
theorem dL_cell_14 : decode cL_cell 14 = .ok (.iload_n 1, 1) := by decide +kernel
theorem dL_cell_15 : decode cL_cell 15 = .ok (.iconst 3, 1) := by decide +kernel
theorem dL_cell_16 : decode cL_cell 16 = .ok (.iadd, 1) := by decide +kernel
theorem dL_cell_17 : decode cL_cell 17 = .ok (.imul, 1) := by decide +kernel
theorem dL_cell_18 : decode cL_cell 18 = .ok (.ireturn, 1) := by decide +kernel
theorem dL_act_0 : decode cL_act 0 = .ok (.aload_n 1, 1) := by decide +kernel
theorem dL_act_1 : decode cL_act 1 = .ok (.getfield 9, 3) := by decide +kernel
theorem dL_act_4 : decode cL_act 4 = .ok (.arraylength, 1) := by decide +kernel
theorem dL_act_5 : decode cL_act 5 = .ok (.istore_n 3, 1) := by decide +kernel
theorem dL_act_6 : decode cL_act 6 = .ok (.iload_n 2, 1) := by decide +kernel
theorem dL_act_7 : decode cL_act 7 = .ok (.bipush 9, 2) := by decide +kernel
theorem dL_act_9 : decode cL_act 9 = .ok (.ishr, 1) := by decide +kernel
theorem dL_act_10 : decode cL_act 10 = .ok (.bipush 16, 2) := by decide +kernel
theorem dL_act_12 : decode cL_act 12 = .ok (.invokestatic 15, 3) := by decide +kernel
theorem dL_act_15 : decode cL_act 15 = .ok (.istore 4, 2) := by decide +kernel
theorem dL_act_17 : decode cL_act 17 = .ok (.iload_n 3, 1) := by decide +kernel
theorem dL_act_18 : decode cL_act 18 = .ok (.ifCond .eq 8, 3) := by decide +kernel
theorem dL_act_21 : decode cL_act 21 = .ok (.iload 4, 2) := by decide +kernel
theorem dL_act_23 : decode cL_act 23 = .ok (.ifCond .ne 28, 3) := by decide +kernel
theorem dL_act_26 : decode cL_act 26 = .ok (.iload_n 3, 1) := by decide +kernel
theorem dL_act_27 : decode cL_act 27 = .ok (.iconst 4, 1) := by decide +kernel
theorem dL_act_28 : decode cL_act 28 = .ok (.if_icmp .ne 5, 3) := by decide +kernel
theorem dL_act_31 : decode cL_act 31 = .ok (.iconst 1, 1) := by decide +kernel
theorem dL_act_32 : decode cL_act 32 = .ok (.ireturn, 1) := by decide +kernel
theorem dL_act_33 : decode cL_act 33 = .ok (.aload_n 1, 1) := by decide +kernel
theorem dL_act_34 : decode cL_act 34 = .ok (.invokevirtual 21, 3) := by decide +kernel
theorem dL_act_37 : decode cL_act 37 = .ok (.aload_n 0, 1) := by decide +kernel
theorem dL_act_38 : decode cL_act 38 = .ok (.invokevirtual 24, 3) := by decide +kernel
theorem dL_act_41 : decode cL_act 41 = .ok (.iload_n 3, 1) := by decide +kernel
theorem dL_act_42 : decode cL_act 42 = .ok (.if_icmp .ne 7, 3) := by decide +kernel
theorem dL_act_45 : decode cL_act 45 = .ok (.iconst 1, 1) := by decide +kernel
theorem dL_act_46 : decode cL_act 46 = .ok (.goto 4, 3) := by decide +kernel
theorem dL_act_49 : decode cL_act 49 = .ok (.iconst 0, 1) := by decide +kernel
theorem dL_act_50 : decode cL_act 50 = .ok (.ireturn, 1) := by decide +kernel
theorem dL_act_51 : decode cL_act 51 = .ok (.iload_n 2, 1) := by decide +kernel
theorem dL_act_52 : decode cL_act 52 = .ok (.iconst 1, 1) := by decide +kernel
theorem dL_act_53 : decode cL_act 53 = .ok (.ishr, 1) := by decide +kernel
theorem dL_act_54 : decode cL_act 54 = .ok (.iload_n 3, 1) := by decide +kernel
theorem dL_act_55 : decode cL_act 55 = .ok (.invokestatic 15, 3) := by decide +kernel
theorem dL_act_58 : decode cL_act 58 = .ok (.istore 5, 2) := by decide +kernel
theorem dL_act_60 : decode cL_act 60 = .ok (.aload_n 1, 1) := by decide +kernel
theorem dL_act_61 : decode cL_act 61 = .ok (.getfield 9, 3) := by decide +kernel
theorem dL_act_64 : decode cL_act 64 = .ok (.iload 5, 2) := by decide +kernel
theorem dL_act_66 : decode cL_act 66 = .ok (.aaload, 1) := by decide +kernel
theorem dL_act_67 : decode cL_act 67 = .ok (.arraylength, 1) := by decide +kernel
theorem dL_act_68 : decode cL_act 68 = .ok (.istore 6, 2) := by decide +kernel
theorem dL_act_70 : decode cL_act 70 = .ok (.iload 6, 2) := by decide +kernel
theorem dL_act_72 : decode cL_act 72 = .ok (.ifCond .eq 10, 3) := by decide +kernel
theorem dL_act_75 : decode cL_act 75 = .ok (.iload 4, 2) := by decide +kernel
theorem dL_act_77 : decode cL_act 77 = .ok (.bipush 7, 2) := by decide +kernel
theorem dL_act_79 : decode cL_act 79 = .ok (.if_icmp .ge 165, 3) := by decide +kernel
theorem dL_act_82 : decode cL_act 82 = .ok (.iconst 5, 1) := by decide +kernel
theorem dL_act_83 : decode cL_act 83 = .ok (.newarray .int, 2) := by decide +kernel
theorem dL_act_85 : decode cL_act 85 = .ok (.dup, 1) := by decide +kernel
theorem dL_act_86 : decode cL_act 86 = .ok (.iconst 0, 1) := by decide +kernel
theorem dL_act_87 : decode cL_act 87 = .ok (.iload_n 2, 1) := by decide +kernel
theorem dL_act_88 : decode cL_act 88 = .ok (.iconst 2, 1) := by decide +kernel
theorem dL_act_89 : decode cL_act 89 = .ok (.ishr, 1) := by decide +kernel
theorem dL_act_90 : decode cL_act 90 = .ok (.iload_n 2, 1) := by decide +kernel
theorem dL_act_91 : decode cL_act 91 = .ok (.iconst 2, 1) := by decide +kernel
theorem dL_act_92 : decode cL_act 92 = .ok (.invokestatic 15, 3) := by decide +kernel
theorem dL_act_95 : decode cL_act 95 = .ok (.ifCond .ne 8, 3) := by decide +kernel
theorem dL_act_98 : decode cL_act 98 = .ok (.bipush 16, 2) := by decide +kernel
theorem dL_act_100 : decode cL_act 100 = .ok (.goto 4, 3) := by decide +kernel
theorem dL_act_103 : decode cL_act 103 = .ok (.iconst 3, 1) := by decide +kernel
theorem dL_act_104 : decode cL_act 104 = .ok (.invokestatic 15, 3) := by decide +kernel
theorem dL_act_107 : decode cL_act 107 = .ok (.iastore, 1) := by decide +kernel
theorem dL_act_108 : decode cL_act 108 = .ok (.dup, 1) := by decide +kernel
theorem dL_act_109 : decode cL_act 109 = .ok (.iconst 1, 1) := by decide +kernel
theorem dL_act_110 : decode cL_act 110 = .ok (.iload_n 2, 1) := by decide +kernel
theorem dL_act_111 : decode cL_act 111 = .ok (.iconst 4, 1) := by decide +kernel
theorem dL_act_112 : decode cL_act 112 = .ok (.ishr, 1) := by decide +kernel
theorem dL_act_113 : decode cL_act 113 = .ok (.iconst 4, 1) := by decide +kernel
theorem dL_act_114 : decode cL_act 114 = .ok (.invokestatic 15, 3) := by decide +kernel
theorem dL_act_117 : decode cL_act 117 = .ok (.iastore, 1) := by decide +kernel
theorem dL_act_118 : decode cL_act 118 = .ok (.dup, 1) := by decide +kernel
theorem dL_act_119 : decode cL_act 119 = .ok (.iconst 2, 1) := by decide +kernel
theorem dL_act_120 : decode cL_act 120 = .ok (.iload_n 2, 1) := by decide +kernel
theorem dL_act_121 : decode cL_act 121 = .ok (.iconst 5, 1) := by decide +kernel
theorem dL_act_122 : decode cL_act 122 = .ok (.ishr, 1) := by decide +kernel
theorem dL_act_123 : decode cL_act 123 = .ok (.iload_n 2, 1) := by decide +kernel
theorem dL_act_124 : decode cL_act 124 = .ok (.iconst 3, 1) := by decide +kernel
theorem dL_act_125 : decode cL_act 125 = .ok (.invokestatic 15, 3) := by decide +kernel
theorem dL_act_128 : decode cL_act 128 = .ok (.ifCond .ne 8, 3) := by decide +kernel
theorem dL_act_131 : decode cL_act 131 = .ok (.bipush 9, 2) := by decide +kernel
theorem dL_act_133 : decode cL_act 133 = .ok (.goto 4, 3) := by decide +kernel
theorem dL_act_136 : decode cL_act 136 = .ok (.iconst 3, 1) := by decide +kernel
theorem dL_act_137 : decode cL_act 137 = .ok (.invokestatic 15, 3) := by decide +kernel
theorem dL_act_140 : decode cL_act 140 = .ok (.iastore, 1) := by decide +kernel
theorem dL_act_141 : decode cL_act 141 = .ok (.dup, 1) := by decide +kernel
theorem dL_act_142 : decode cL_act 142 = .ok (.iconst 3, 1) := by decide +kernel
theorem dL_act_143 : decode cL_act 143 = .ok (.iload_n 2, 1) := by decide +kernel
theorem dL_act_144 : decode cL_act 144 = .ok (.bipush 7, 2) := by decide +kernel
theorem dL_act_146 : decode cL_act 146 = .ok (.ishr, 1) := by decide +kernel
theorem dL_act_147 : decode cL_act 147 = .ok (.iload_n 2, 1) := by decide +kernel
theorem dL_act_148 : decode cL_act 148 = .ok (.iconst 4, 1) := by decide +kernel
theorem dL_act_149 : decode cL_act 149 = .ok (.invokestatic 15, 3) := by decide +kernel
theorem dL_act_152 : decode cL_act 152 = .ok (.ifCond .ne 7, 3) := by decide +kernel
theorem dL_act_155 : decode cL_act 155 = .ok (.iconst 4, 1) := by decide +kernel
theorem dL_act_156 : decode cL_act 156 = .ok (.goto 4, 3) := by decide +kernel
theorem dL_act_159 : decode cL_act 159 = .ok (.iconst 1, 1) := by decide +kernel
theorem dL_act_160 : decode cL_act 160 = .ok (.invokestatic 15, 3) := by decide +kernel
theorem dL_act_163 : decode cL_act 163 = .ok (.iastore, 1) := by decide +kernel
theorem dL_act_164 : decode cL_act 164 = .ok (.dup, 1) := by decide +kernel
theorem dL_act_165 : decode cL_act 165 = .ok (.iconst 4, 1) := by decide +kernel
theorem dL_act_166 : decode cL_act 166 = .ok (.iload_n 2, 1) := by decide +kernel
theorem dL_act_167 : decode cL_act 167 = .ok (.iconst 3, 1) := by decide +kernel
theorem dL_act_168 : decode cL_act 168 = .ok (.ishr, 1) := by decide +kernel
theorem dL_act_169 : decode cL_act 169 = .ok (.bipush 30, 2) := by decide +kernel
theorem dL_act_171 : decode cL_act 171 = .ok (.invokestatic 15, 3) := by decide +kernel
theorem dL_act_174 : decode cL_act 174 = .ok (.iastore, 1) := by decide +kernel
theorem dL_act_175 : decode cL_act 175 = .ok (.astore 7, 2) := by decide +kernel
theorem dL_act_177 : decode cL_act 177 = .ok (.iload 6, 2) := by decide +kernel
theorem dL_act_179 : decode cL_act 179 = .ok (.bipush 16, 2) := by decide +kernel
theorem dL_act_181 : decode cL_act 181 = .ok (.if_icmp .eq 16, 3) := by decide +kernel
theorem dL_act_184 : decode cL_act 184 = .ok (.aload_n 1, 1) := by decide +kernel
theorem dL_act_185 : decode cL_act 185 = .ok (.iload 5, 2) := by decide +kernel
theorem dL_act_187 : decode cL_act 187 = .ok (.aload 7, 2) := by decide +kernel
theorem dL_act_189 : decode cL_act 189 = .ok (.iconst 4, 1) := by decide +kernel
theorem dL_act_190 : decode cL_act 190 = .ok (.iaload, 1) := by decide +kernel
theorem dL_act_191 : decode cL_act 191 = .ok (.invokevirtual 29, 3) := by decide +kernel
theorem dL_act_194 : decode cL_act 194 = .ok (.ifCond .lt 5, 3) := by decide +kernel
theorem dL_act_197 : decode cL_act 197 = .ok (.iconst 1, 1) := by decide +kernel
theorem dL_act_198 : decode cL_act 198 = .ok (.ireturn, 1) := by decide +kernel
theorem dL_act_199 : decode cL_act 199 = .ok (.aload_n 1, 1) := by decide +kernel
theorem dL_act_200 : decode cL_act 200 = .ok (.iload 5, 2) := by decide +kernel
theorem dL_act_202 : decode cL_act 202 = .ok (.aload 7, 2) := by decide +kernel
theorem dL_act_204 : decode cL_act 204 = .ok (.invokevirtual 32, 3) := by decide +kernel
theorem dL_act_207 : decode cL_act 207 = .ok (.aload_n 0, 1) := by decide +kernel
theorem dL_act_208 : decode cL_act 208 = .ok (.iload 5, 2) := by decide +kernel
theorem dL_act_210 : decode cL_act 210 = .ok (.aload 7, 2) := by decide +kernel
theorem dL_act_212 : decode cL_act 212 = .ok (.iconst 0, 1) := by decide +kernel
theorem dL_act_213 : decode cL_act 213 = .ok (.iaload, 1) := by decide +kernel
theorem dL_act_214 : decode cL_act 214 = .ok (.aload 7, 2) := by decide +kernel
theorem dL_act_216 : decode cL_act 216 = .ok (.iconst 1, 1) := by decide +kernel
theorem dL_act_217 : decode cL_act 217 = .ok (.iaload, 1) := by decide +kernel
theorem dL_act_218 : decode cL_act 218 = .ok (.aload 7, 2) := by decide +kernel
theorem dL_act_220 : decode cL_act 220 = .ok (.iconst 2, 1) := by decide +kernel
theorem dL_act_221 : decode cL_act 221 = .ok (.iaload, 1) := by decide +kernel
theorem dL_act_222 : decode cL_act 222 = .ok (.aload 7, 2) := by decide +kernel
theorem dL_act_224 : decode cL_act 224 = .ok (.iconst 3, 1) := by decide +kernel
theorem dL_act_225 : decode cL_act 225 = .ok (.iaload, 1) := by decide +kernel
theorem dL_act_226 : decode cL_act 226 = .ok (.aload 7, 2) := by decide +kernel
theorem dL_act_228 : decode cL_act 228 = .ok (.iconst 4, 1) := by decide +kernel
theorem dL_act_229 : decode cL_act 229 = .ok (.iaload, 1) := by decide +kernel
theorem dL_act_230 : decode cL_act 230 = .ok (.invokevirtual 36, 3) := by decide +kernel
theorem dL_act_233 : decode cL_act 233 = .ok (.iload 6, 2) := by decide +kernel
theorem dL_act_235 : decode cL_act 235 = .ok (.if_icmp .ne 7, 3) := by decide +kernel
theorem dL_act_238 : decode cL_act 238 = .ok (.iconst 1, 1) := by decide +kernel
theorem dL_act_239 : decode cL_act 239 = .ok (.goto 4, 3) := by decide +kernel
theorem dL_act_242 : decode cL_act 242 = .ok (.iconst 0, 1) := by decide +kernel
theorem dL_act_243 : decode cL_act 243 = .ok (.ireturn, 1) := by decide +kernel
theorem dL_act_244 : decode cL_act 244 = .ok (.iload_n 2, 1) := by decide +kernel
theorem dL_act_245 : decode cL_act 245 = .ok (.iconst 3, 1) := by decide +kernel
theorem dL_act_246 : decode cL_act 246 = .ok (.ishr, 1) := by decide +kernel
theorem dL_act_247 : decode cL_act 247 = .ok (.iload 6, 2) := by decide +kernel
theorem dL_act_249 : decode cL_act 249 = .ok (.invokestatic 15, 3) := by decide +kernel
theorem dL_act_252 : decode cL_act 252 = .ok (.istore 7, 2) := by decide +kernel
theorem dL_act_254 : decode cL_act 254 = .ok (.iload 4, 2) := by decide +kernel
theorem dL_act_256 : decode cL_act 256 = .ok (.tableswitch 256 7 10 #[32, 73, 73, 196], 32) := by decide +kernel
theorem dL_act_288 : decode cL_act 288 = .ok (.aload_n 1, 1) := by decide +kernel
theorem dL_act_289 : decode cL_act 289 = .ok (.getfield 9, 3) := by decide +kernel
theorem dL_act_292 : decode cL_act 292 = .ok (.iload 5, 2) := by decide +kernel
theorem dL_act_294 : decode cL_act 294 = .ok (.aaload, 1) := by decide +kernel
theorem dL_act_295 : decode cL_act 295 = .ok (.iload 7, 2) := by decide +kernel
theorem dL_act_297 : decode cL_act 297 = .ok (.aaload, 1) := by decide +kernel
theorem dL_act_298 : decode cL_act 298 = .ok (.iconst 4, 1) := by decide +kernel
theorem dL_act_299 : decode cL_act 299 = .ok (.iaload, 1) := by decide +kernel
theorem dL_act_300 : decode cL_act 300 = .ok (.istore 8, 2) := by decide +kernel
theorem dL_act_302 : decode cL_act 302 = .ok (.aload_n 1, 1) := by decide +kernel
theorem dL_act_303 : decode cL_act 303 = .ok (.iload 5, 2) := by decide +kernel
theorem dL_act_305 : decode cL_act 305 = .ok (.iload 7, 2) := by decide +kernel
theorem dL_act_307 : decode cL_act 307 = .ok (.invokevirtual 40, 3) := by decide +kernel
theorem dL_act_310 : decode cL_act 310 = .ok (.aload_n 0, 1) := by decide +kernel
theorem dL_act_311 : decode cL_act 311 = .ok (.iload 5, 2) := by decide +kernel
theorem dL_act_313 : decode cL_act 313 = .ok (.iload 7, 2) := by decide +kernel
theorem dL_act_315 : decode cL_act 315 = .ok (.invokevirtual 44, 3) := by decide +kernel
theorem dL_act_318 : decode cL_act 318 = .ok (.iload 8, 2) := by decide +kernel
theorem dL_act_320 : decode cL_act 320 = .ok (.if_icmp .ne 7, 3) := by decide +kernel
theorem dL_act_323 : decode cL_act 323 = .ok (.iconst 1, 1) := by decide +kernel
theorem dL_act_324 : decode cL_act 324 = .ok (.goto 4, 3) := by decide +kernel
theorem dL_act_327 : decode cL_act 327 = .ok (.iconst 0, 1) := by decide +kernel
theorem dL_act_328 : decode cL_act 328 = .ok (.ireturn, 1) := by decide +kernel
theorem dL_act_329 : decode cL_act 329 = .ok (.aload_n 1, 1) := by decide +kernel
theorem dL_act_330 : decode cL_act 330 = .ok (.getfield 9, 3) := by decide +kernel
theorem dL_act_333 : decode cL_act 333 = .ok (.iload 5, 2) := by decide +kernel
theorem dL_act_335 : decode cL_act 335 = .ok (.aaload, 1) := by decide +kernel
theorem dL_act_336 : decode cL_act 336 = .ok (.iload 7, 2) := by decide +kernel
theorem dL_act_338 : decode cL_act 338 = .ok (.aaload, 1) := by decide +kernel
theorem dL_act_339 : decode cL_act 339 = .ok (.iconst 1, 1) := by decide +kernel
theorem dL_act_340 : decode cL_act 340 = .ok (.iaload, 1) := by decide +kernel
theorem dL_act_341 : decode cL_act 341 = .ok (.istore 9, 2) := by decide +kernel
theorem dL_act_343 : decode cL_act 343 = .ok (.aload_n 1, 1) := by decide +kernel
theorem dL_act_344 : decode cL_act 344 = .ok (.getfield 9, 3) := by decide +kernel
theorem dL_act_347 : decode cL_act 347 = .ok (.iload 5, 2) := by decide +kernel
theorem dL_act_349 : decode cL_act 349 = .ok (.aaload, 1) := by decide +kernel
theorem dL_act_350 : decode cL_act 350 = .ok (.iload 7, 2) := by decide +kernel
theorem dL_act_352 : decode cL_act 352 = .ok (.iconst 5, 1) := by decide +kernel
theorem dL_act_353 : decode cL_act 353 = .ok (.newarray .int, 2) := by decide +kernel
theorem dL_act_355 : decode cL_act 355 = .ok (.dup, 1) := by decide +kernel
theorem dL_act_356 : decode cL_act 356 = .ok (.iconst 0, 1) := by decide +kernel
theorem dL_act_357 : decode cL_act 357 = .ok (.aload_n 1, 1) := by decide +kernel
theorem dL_act_358 : decode cL_act 358 = .ok (.getfield 9, 3) := by decide +kernel
theorem dL_act_361 : decode cL_act 361 = .ok (.iload 5, 2) := by decide +kernel
theorem dL_act_363 : decode cL_act 363 = .ok (.aaload, 1) := by decide +kernel
theorem dL_act_364 : decode cL_act 364 = .ok (.iload 7, 2) := by decide +kernel
theorem dL_act_366 : decode cL_act 366 = .ok (.aaload, 1) := by decide +kernel
theorem dL_act_367 : decode cL_act 367 = .ok (.iconst 0, 1) := by decide +kernel
theorem dL_act_368 : decode cL_act 368 = .ok (.iaload, 1) := by decide +kernel
theorem dL_act_369 : decode cL_act 369 = .ok (.iastore, 1) := by decide +kernel
theorem dL_act_370 : decode cL_act 370 = .ok (.dup, 1) := by decide +kernel
theorem dL_act_371 : decode cL_act 371 = .ok (.iconst 1, 1) := by decide +kernel
theorem dL_act_372 : decode cL_act 372 = .ok (.iload_n 2, 1) := by decide +kernel
theorem dL_act_373 : decode cL_act 373 = .ok (.iconst 5, 1) := by decide +kernel
theorem dL_act_374 : decode cL_act 374 = .ok (.ishr, 1) := by decide +kernel
theorem dL_act_375 : decode cL_act 375 = .ok (.iconst 4, 1) := by decide +kernel
theorem dL_act_376 : decode cL_act 376 = .ok (.invokestatic 15, 3) := by decide +kernel
theorem dL_act_379 : decode cL_act 379 = .ok (.iastore, 1) := by decide +kernel
theorem dL_act_380 : decode cL_act 380 = .ok (.dup, 1) := by decide +kernel
theorem dL_act_381 : decode cL_act 381 = .ok (.iconst 2, 1) := by decide +kernel
theorem dL_act_382 : decode cL_act 382 = .ok (.aload_n 1, 1) := by decide +kernel
theorem dL_act_383 : decode cL_act 383 = .ok (.getfield 9, 3) := by decide +kernel
theorem dL_act_386 : decode cL_act 386 = .ok (.iload 5, 2) := by decide +kernel
theorem dL_act_388 : decode cL_act 388 = .ok (.aaload, 1) := by decide +kernel
theorem dL_act_389 : decode cL_act 389 = .ok (.iload 7, 2) := by decide +kernel
theorem dL_act_391 : decode cL_act 391 = .ok (.aaload, 1) := by decide +kernel
theorem dL_act_392 : decode cL_act 392 = .ok (.iconst 2, 1) := by decide +kernel
theorem dL_act_393 : decode cL_act 393 = .ok (.iaload, 1) := by decide +kernel
theorem dL_act_394 : decode cL_act 394 = .ok (.iastore, 1) := by decide +kernel
theorem dL_act_395 : decode cL_act 395 = .ok (.dup, 1) := by decide +kernel
theorem dL_act_396 : decode cL_act 396 = .ok (.iconst 3, 1) := by decide +kernel
theorem dL_act_397 : decode cL_act 397 = .ok (.aload_n 1, 1) := by decide +kernel
theorem dL_act_398 : decode cL_act 398 = .ok (.getfield 9, 3) := by decide +kernel
theorem dL_act_401 : decode cL_act 401 = .ok (.iload 5, 2) := by decide +kernel
theorem dL_act_403 : decode cL_act 403 = .ok (.aaload, 1) := by decide +kernel
theorem dL_act_404 : decode cL_act 404 = .ok (.iload 7, 2) := by decide +kernel
theorem dL_act_406 : decode cL_act 406 = .ok (.aaload, 1) := by decide +kernel
theorem dL_act_407 : decode cL_act 407 = .ok (.iconst 3, 1) := by decide +kernel
theorem dL_act_408 : decode cL_act 408 = .ok (.iaload, 1) := by decide +kernel
theorem dL_act_409 : decode cL_act 409 = .ok (.iastore, 1) := by decide +kernel
theorem dL_act_410 : decode cL_act 410 = .ok (.dup, 1) := by decide +kernel
theorem dL_act_411 : decode cL_act 411 = .ok (.iconst 4, 1) := by decide +kernel
theorem dL_act_412 : decode cL_act 412 = .ok (.aload_n 1, 1) := by decide +kernel
theorem dL_act_413 : decode cL_act 413 = .ok (.getfield 9, 3) := by decide +kernel
theorem dL_act_416 : decode cL_act 416 = .ok (.iload 5, 2) := by decide +kernel
theorem dL_act_418 : decode cL_act 418 = .ok (.aaload, 1) := by decide +kernel
theorem dL_act_419 : decode cL_act 419 = .ok (.iload 7, 2) := by decide +kernel
theorem dL_act_421 : decode cL_act 421 = .ok (.aaload, 1) := by decide +kernel
theorem dL_act_422 : decode cL_act 422 = .ok (.iconst 4, 1) := by decide +kernel
theorem dL_act_423 : decode cL_act 423 = .ok (.iaload, 1) := by decide +kernel
theorem dL_act_424 : decode cL_act 424 = .ok (.iastore, 1) := by decide +kernel
theorem dL_act_425 : decode cL_act 425 = .ok (.aastore, 1) := by decide +kernel
theorem dL_act_426 : decode cL_act 426 = .ok (.aload_n 0, 1) := by decide +kernel
theorem dL_act_427 : decode cL_act 427 = .ok (.iload 5, 2) := by decide +kernel
theorem dL_act_429 : decode cL_act 429 = .ok (.iload 7, 2) := by decide +kernel
theorem dL_act_431 : decode cL_act 431 = .ok (.iload_n 2, 1) := by decide +kernel
theorem dL_act_432 : decode cL_act 432 = .ok (.iconst 5, 1) := by decide +kernel
theorem dL_act_433 : decode cL_act 433 = .ok (.ishr, 1) := by decide +kernel
theorem dL_act_434 : decode cL_act 434 = .ok (.iconst 4, 1) := by decide +kernel
theorem dL_act_435 : decode cL_act 435 = .ok (.invokestatic 15, 3) := by decide +kernel
theorem dL_act_438 : decode cL_act 438 = .ok (.invokevirtual 47, 3) := by decide +kernel
theorem dL_act_441 : decode cL_act 441 = .ok (.iload 9, 2) := by decide +kernel
theorem dL_act_443 : decode cL_act 443 = .ok (.if_icmp .ne 7, 3) := by decide +kernel
theorem dL_act_446 : decode cL_act 446 = .ok (.iconst 1, 1) := by decide +kernel
theorem dL_act_447 : decode cL_act 447 = .ok (.goto 4, 3) := by decide +kernel
theorem dL_act_450 : decode cL_act 450 = .ok (.iconst 0, 1) := by decide +kernel
theorem dL_act_451 : decode cL_act 451 = .ok (.ireturn, 1) := by decide +kernel
theorem dL_act_452 : decode cL_act 452 = .ok (.iload_n 2, 1) := by decide +kernel
theorem dL_act_453 : decode cL_act 453 = .ok (.iconst 4, 1) := by decide +kernel
theorem dL_act_454 : decode cL_act 454 = .ok (.ishr, 1) := by decide +kernel
theorem dL_act_455 : decode cL_act 455 = .ok (.bipush 9, 2) := by decide +kernel
theorem dL_act_457 : decode cL_act 457 = .ok (.invokestatic 15, 3) := by decide +kernel
theorem dL_act_460 : decode cL_act 460 = .ok (.istore 10, 2) := by decide +kernel
theorem dL_act_462 : decode cL_act 462 = .ok (.iload_n 2, 1) := by decide +kernel
theorem dL_act_463 : decode cL_act 463 = .ok (.bipush 6, 2) := by decide +kernel
theorem dL_act_465 : decode cL_act 465 = .ok (.ishr, 1) := by decide +kernel
theorem dL_act_466 : decode cL_act 466 = .ok (.bipush 9, 2) := by decide +kernel
theorem dL_act_468 : decode cL_act 468 = .ok (.invokestatic 15, 3) := by decide +kernel
theorem dL_act_471 : decode cL_act 471 = .ok (.istore 11, 2) := by decide +kernel
theorem dL_act_473 : decode cL_act 473 = .ok (.iload_n 2, 1) := by decide +kernel
theorem dL_act_474 : decode cL_act 474 = .ok (.iconst 3, 1) := by decide +kernel
theorem dL_act_475 : decode cL_act 475 = .ok (.invokestatic 15, 3) := by decide +kernel
theorem dL_act_478 : decode cL_act 478 = .ok (.ifCond .le 5, 3) := by decide +kernel
theorem dL_act_481 : decode cL_act 481 = .ok (.iconst 1, 1) := by decide +kernel
theorem dL_act_482 : decode cL_act 482 = .ok (.ireturn, 1) := by decide +kernel
theorem dL_act_483 : decode cL_act 483 = .ok (.aload_n 1, 1) := by decide +kernel
theorem dL_act_484 : decode cL_act 484 = .ok (.iload 10, 2) := by decide +kernel
theorem dL_act_486 : decode cL_act 486 = .ok (.iload 11, 2) := by decide +kernel
theorem dL_act_488 : decode cL_act 488 = .ok (.invokevirtual 51, 3) := by decide +kernel
theorem dL_act_491 : decode cL_act 491 = .ok (.aload_n 0, 1) := by decide +kernel
theorem dL_act_492 : decode cL_act 492 = .ok (.iload 10, 2) := by decide +kernel
theorem dL_act_494 : decode cL_act 494 = .ok (.iload 11, 2) := by decide +kernel
theorem dL_act_496 : decode cL_act 496 = .ok (.invokevirtual 54, 3) := by decide +kernel
theorem dL_act_499 : decode cL_act 499 = .ok (.aload_n 1, 1) := by decide +kernel
theorem dL_act_500 : decode cL_act 500 = .ok (.invokevirtual 56, 3) := by decide +kernel
theorem dL_act_503 : decode cL_act 503 = .ok (.if_icmp .ne 7, 3) := by decide +kernel
theorem dL_act_506 : decode cL_act 506 = .ok (.iconst 1, 1) := by decide +kernel
theorem dL_act_507 : decode cL_act 507 = .ok (.goto 4, 3) := by decide +kernel
theorem dL_act_510 : decode cL_act 510 = .ok (.iconst 0, 1) := by decide +kernel
theorem dL_act_511 : decode cL_act 511 = .ok (.ireturn, 1) := by decide +kernel
theorem dL_act_512 : decode cL_act 512 = .ok (.iload_n 2, 1) := by decide +kernel
theorem dL_act_513 : decode cL_act 513 = .ok (.iconst 5, 1) := by decide +kernel
theorem dL_act_514 : decode cL_act 514 = .ok (.ishr, 1) := by decide +kernel
theorem dL_act_515 : decode cL_act 515 = .ok (.iload_n 3, 1) := by decide +kernel
theorem dL_act_516 : decode cL_act 516 = .ok (.invokestatic 15, 3) := by decide +kernel
theorem dL_act_519 : decode cL_act 519 = .ok (.istore 12, 2) := by decide +kernel
theorem dL_act_521 : decode cL_act 521 = .ok (.aload_n 1, 1) := by decide +kernel
theorem dL_act_522 : decode cL_act 522 = .ok (.aload_n 1, 1) := by decide +kernel
theorem dL_act_523 : decode cL_act 523 = .ok (.getfield 9, 3) := by decide +kernel
theorem dL_act_526 : decode cL_act 526 = .ok (.iload 5, 2) := by decide +kernel
theorem dL_act_528 : decode cL_act 528 = .ok (.aaload, 1) := by decide +kernel
theorem dL_act_529 : decode cL_act 529 = .ok (.iload 7, 2) := by decide +kernel
theorem dL_act_531 : decode cL_act 531 = .ok (.aaload, 1) := by decide +kernel
theorem dL_act_532 : decode cL_act 532 = .ok (.iload 12, 2) := by decide +kernel
theorem dL_act_534 : decode cL_act 534 = .ok (.invokevirtual 59, 3) := by decide +kernel
theorem dL_act_537 : decode cL_act 537 = .ok (.astore 13, 2) := by decide +kernel
theorem dL_act_539 : decode cL_act 539 = .ok (.iload 12, 2) := by decide +kernel
theorem dL_act_541 : decode cL_act 541 = .ok (.iload 5, 2) := by decide +kernel
theorem dL_act_543 : decode cL_act 543 = .ok (.if_icmp .eq 8, 3) := by decide +kernel
theorem dL_act_546 : decode cL_act 546 = .ok (.aload 13, 2) := by decide +kernel
theorem dL_act_548 : decode cL_act 548 = .ok (.ifnonnull 5, 3) := by decide +kernel
theorem dL_act_551 : decode cL_act 551 = .ok (.iconst 1, 1) := by decide +kernel
theorem dL_act_552 : decode cL_act 552 = .ok (.ireturn, 1) := by decide +kernel
theorem dL_act_553 : decode cL_act 553 = .ok (.aload_n 1, 1) := by decide +kernel
theorem dL_act_554 : decode cL_act 554 = .ok (.iload 12, 2) := by decide +kernel
theorem dL_act_556 : decode cL_act 556 = .ok (.aload 13, 2) := by decide +kernel
theorem dL_act_558 : decode cL_act 558 = .ok (.invokevirtual 32, 3) := by decide +kernel
theorem dL_act_561 : decode cL_act 561 = .ok (.aload_n 0, 1) := by decide +kernel
theorem dL_act_562 : decode cL_act 562 = .ok (.iload 5, 2) := by decide +kernel
theorem dL_act_564 : decode cL_act 564 = .ok (.iload 7, 2) := by decide +kernel
theorem dL_act_566 : decode cL_act 566 = .ok (.iload 12, 2) := by decide +kernel
theorem dL_act_568 : decode cL_act 568 = .ok (.invokevirtual 63, 3) := by decide +kernel
theorem dL_act_571 : decode cL_act 571 = .ok (.aload_n 1, 1) := by decide +kernel
theorem dL_act_572 : decode cL_act 572 = .ok (.getfield 9, 3) := by decide +kernel
theorem dL_act_575 : decode cL_act 575 = .ok (.iload 12, 2) := by decide +kernel
theorem dL_act_577 : decode cL_act 577 = .ok (.aaload, 1) := by decide +kernel
theorem dL_act_578 : decode cL_act 578 = .ok (.arraylength, 1) := by decide +kernel
theorem dL_act_579 : decode cL_act 579 = .ok (.iconst 1, 1) := by decide +kernel
theorem dL_act_580 : decode cL_act 580 = .ok (.isub, 1) := by decide +kernel
theorem dL_act_581 : decode cL_act 581 = .ok (.if_icmp .ne 7, 3) := by decide +kernel
theorem dL_act_584 : decode cL_act 584 = .ok (.iconst 1, 1) := by decide +kernel
theorem dL_act_585 : decode cL_act 585 = .ok (.goto 4, 3) := by decide +kernel
theorem dL_act_588 : decode cL_act 588 = .ok (.iconst 0, 1) := by decide +kernel
theorem dL_act_589 : decode cL_act 589 = .ok (.ireturn, 1) := by decide +kernel
theorem dL_build_0 : decode cL_build 0 = .ok (.new 10, 3) := by decide +kernel
theorem dL_build_3 : decode cL_build 3 = .ok (.dup, 1) := by decide +kernel
theorem dL_build_4 : decode cL_build 4 = .ok (.invokespecial 66, 3) := by decide +kernel
theorem dL_build_7 : decode cL_build 7 = .ok (.astore_n 2, 1) := by decide +kernel
theorem dL_build_8 : decode cL_build 8 = .ok (.iconst 1, 1) := by decide +kernel
theorem dL_build_9 : decode cL_build 9 = .ok (.aload_n 1, 1) := by decide +kernel
theorem dL_build_10 : decode cL_build 10 = .ok (.iconst 1, 1) := by decide +kernel
theorem dL_build_11 : decode cL_build 11 = .ok (.invokestatic 67, 3) := by decide +kernel
theorem dL_build_14 : decode cL_build 14 = .ok (.iconst 4, 1) := by decide +kernel
theorem dL_build_15 : decode cL_build 15 = .ok (.invokestatic 15, 3) := by decide +kernel
theorem dL_build_18 : decode cL_build 18 = .ok (.iadd, 1) := by decide +kernel
theorem dL_build_19 : decode cL_build 19 = .ok (.istore_n 3, 1) := by decide +kernel
theorem dL_build_20 : decode cL_build 20 = .ok (.iconst 0, 1) := by decide +kernel
theorem dL_build_21 : decode cL_build 21 = .ok (.istore 4, 2) := by decide +kernel
theorem dL_build_23 : decode cL_build 23 = .ok (.iload 4, 2) := by decide +kernel
theorem dL_build_25 : decode cL_build 25 = .ok (.iload_n 3, 1) := by decide +kernel
theorem dL_build_26 : decode cL_build 26 = .ok (.if_icmp .ge 24, 3) := by decide +kernel
theorem dL_build_29 : decode cL_build 29 = .ok (.aload_n 2, 1) := by decide +kernel
theorem dL_build_30 : decode cL_build 30 = .ok (.invokevirtual 21, 3) := by decide +kernel
theorem dL_build_33 : decode cL_build 33 = .ok (.aload_n 0, 1) := by decide +kernel
theorem dL_build_34 : decode cL_build 34 = .ok (.invokevirtual 24, 3) := by decide +kernel
theorem dL_build_37 : decode cL_build 37 = .ok (.iload 4, 2) := by decide +kernel
theorem dL_build_39 : decode cL_build 39 = .ok (.if_icmp .eq 5, 3) := by decide +kernel
theorem dL_build_42 : decode cL_build 42 = .ok (.aconst_null, 1) := by decide +kernel
theorem dL_build_43 : decode cL_build 43 = .ok (.areturn, 1) := by decide +kernel
theorem dL_build_44 : decode cL_build 44 = .ok (.iinc 4 1, 3) := by decide +kernel
theorem dL_build_47 : decode cL_build 47 = .ok (.goto (-24), 3) := by decide +kernel
theorem dL_build_50 : decode cL_build 50 = .ok (.bipush 10, 2) := by decide +kernel
theorem dL_build_52 : decode cL_build 52 = .ok (.aload_n 1, 1) := by decide +kernel
theorem dL_build_53 : decode cL_build 53 = .ok (.iconst 0, 1) := by decide +kernel
theorem dL_build_54 : decode cL_build 54 = .ok (.invokestatic 67, 3) := by decide +kernel
theorem dL_build_57 : decode cL_build 57 = .ok (.bipush 50, 2) := by decide +kernel
theorem dL_build_59 : decode cL_build 59 = .ok (.invokestatic 15, 3) := by decide +kernel
theorem dL_build_62 : decode cL_build 62 = .ok (.iadd, 1) := by decide +kernel
theorem dL_build_63 : decode cL_build 63 = .ok (.istore 4, 2) := by decide +kernel
theorem dL_build_65 : decode cL_build 65 = .ok (.iconst 0, 1) := by decide +kernel
theorem dL_build_66 : decode cL_build 66 = .ok (.istore 5, 2) := by decide +kernel
theorem dL_build_68 : decode cL_build 68 = .ok (.iload 5, 2) := by decide +kernel
theorem dL_build_70 : decode cL_build 70 = .ok (.iload 4, 2) := by decide +kernel
theorem dL_build_72 : decode cL_build 72 = .ok (.if_icmp .ge 43, 3) := by decide +kernel
theorem dL_build_75 : decode cL_build 75 = .ok (.aload_n 0, 1) := by decide +kernel
theorem dL_build_76 : decode cL_build 76 = .ok (.aload_n 2, 1) := by decide +kernel
theorem dL_build_77 : decode cL_build 77 = .ok (.aload_n 1, 1) := by decide +kernel
theorem dL_build_78 : decode cL_build 78 = .ok (.iload 5, 2) := by decide +kernel
theorem dL_build_80 : decode cL_build 80 = .ok (.bipush 16, 2) := by decide +kernel
theorem dL_build_82 : decode cL_build 82 = .ok (.irem, 1) := by decide +kernel
theorem dL_build_83 : decode cL_build 83 = .ok (.invokestatic 67, 3) := by decide +kernel
theorem dL_build_86 : decode cL_build 86 = .ok (.iload 5, 2) := by decide +kernel
theorem dL_build_88 : decode cL_build 88 = .ok (.bipush 16, 2) := by decide +kernel
theorem dL_build_90 : decode cL_build 90 = .ok (.idiv, 1) := by decide +kernel
theorem dL_build_91 : decode cL_build 91 = .ok (.iconst 3, 1) := by decide +kernel
theorem dL_build_92 : decode cL_build 92 = .ok (.imul, 1) := by decide +kernel
theorem dL_build_93 : decode cL_build 93 = .ok (.ishr, 1) := by decide +kernel
theorem dL_build_94 : decode cL_build 94 = .ok (.sipush 647, 3) := by decide +kernel
theorem dL_build_97 : decode cL_build 97 = .ok (.iload 5, 2) := by decide +kernel
theorem dL_build_99 : decode cL_build 99 = .ok (.imul, 1) := by decide +kernel
theorem dL_build_100 : decode cL_build 100 = .ok (.iadd, 1) := by decide +kernel
theorem dL_build_101 : decode cL_build 101 = .ok (.invokestatic 71, 3) := by decide +kernel
theorem dL_build_104 : decode cL_build 104 = .ok (.ifCond .ne 5, 3) := by decide +kernel
theorem dL_build_107 : decode cL_build 107 = .ok (.aconst_null, 1) := by decide +kernel
theorem dL_build_108 : decode cL_build 108 = .ok (.areturn, 1) := by decide +kernel
theorem dL_build_109 : decode cL_build 109 = .ok (.iinc 5 1, 3) := by decide +kernel
theorem dL_build_112 : decode cL_build 112 = .ok (.goto (-44), 3) := by decide +kernel
theorem dL_build_115 : decode cL_build 115 = .ok (.aload_n 2, 1) := by decide +kernel
theorem dL_build_116 : decode cL_build 116 = .ok (.areturn, 1) := by decide +kernel
theorem dL_law_0 : decode cL_law 0 = .ok (.new 25, 3) := by decide +kernel
theorem dL_law_3 : decode cL_law 3 = .ok (.dup, 1) := by decide +kernel
theorem dL_law_4 : decode cL_law 4 = .ok (.invokespecial 75, 3) := by decide +kernel
theorem dL_law_7 : decode cL_law 7 = .ok (.astore_n 1, 1) := by decide +kernel
theorem dL_law_8 : decode cL_law 8 = .ok (.aload_n 1, 1) := by decide +kernel
theorem dL_law_9 : decode cL_law 9 = .ok (.aload_n 0, 1) := by decide +kernel
theorem dL_law_10 : decode cL_law 10 = .ok (.invokestatic 76, 3) := by decide +kernel
theorem dL_law_13 : decode cL_law 13 = .ok (.astore_n 2, 1) := by decide +kernel
theorem dL_law_14 : decode cL_law 14 = .ok (.aload_n 2, 1) := by decide +kernel
theorem dL_law_15 : decode cL_law 15 = .ok (.ifnonnull 5, 3) := by decide +kernel
theorem dL_law_18 : decode cL_law 18 = .ok (.iconst 0, 1) := by decide +kernel
theorem dL_law_19 : decode cL_law 19 = .ok (.ireturn, 1) := by decide +kernel
theorem dL_law_20 : decode cL_law 20 = .ok (.iconst 0, 1) := by decide +kernel
theorem dL_law_21 : decode cL_law 21 = .ok (.istore_n 3, 1) := by decide +kernel
theorem dL_law_22 : decode cL_law 22 = .ok (.iload_n 3, 1) := by decide +kernel
theorem dL_law_23 : decode cL_law 23 = .ok (.bipush 14, 2) := by decide +kernel
theorem dL_law_25 : decode cL_law 25 = .ok (.if_icmp .ge 866, 3) := by decide +kernel
theorem dL_law_28 : decode cL_law 28 = .ok (.aload_n 0, 1) := by decide +kernel
theorem dL_law_29 : decode cL_law 29 = .ok (.iload_n 3, 1) := by decide +kernel
theorem dL_law_30 : decode cL_law 30 = .ok (.bipush 16, 2) := by decide +kernel
theorem dL_law_32 : decode cL_law 32 = .ok (.irem, 1) := by decide +kernel
theorem dL_law_33 : decode cL_law 33 = .ok (.invokestatic 67, 3) := by decide +kernel
theorem dL_law_36 : decode cL_law 36 = .ok (.iload_n 3, 1) := by decide +kernel
theorem dL_law_37 : decode cL_law 37 = .ok (.bipush 16, 2) := by decide +kernel
theorem dL_law_39 : decode cL_law 39 = .ok (.idiv, 1) := by decide +kernel
theorem dL_law_40 : decode cL_law 40 = .ok (.iconst 3, 1) := by decide +kernel
theorem dL_law_41 : decode cL_law 41 = .ok (.imul, 1) := by decide +kernel
theorem dL_law_42 : decode cL_law 42 = .ok (.ishr, 1) := by decide +kernel
theorem dL_law_43 : decode cL_law 43 = .ok (.sipush 647, 3) := by decide +kernel
theorem dL_law_46 : decode cL_law 46 = .ok (.iload_n 3, 1) := by decide +kernel
theorem dL_law_47 : decode cL_law 47 = .ok (.imul, 1) := by decide +kernel
theorem dL_law_48 : decode cL_law 48 = .ok (.iadd, 1) := by decide +kernel
theorem dL_law_49 : decode cL_law 49 = .ok (.istore 4, 2) := by decide +kernel
theorem dL_law_51 : decode cL_law 51 = .ok (.aload_n 1, 1) := by decide +kernel
theorem dL_law_52 : decode cL_law 52 = .ok (.aload_n 2, 1) := by decide +kernel
theorem dL_law_53 : decode cL_law 53 = .ok (.iload 4, 2) := by decide +kernel
theorem dL_law_55 : decode cL_law 55 = .ok (.invokestatic 71, 3) := by decide +kernel
theorem dL_law_58 : decode cL_law 58 = .ok (.ifCond .ne 5, 3) := by decide +kernel
theorem dL_law_61 : decode cL_law 61 = .ok (.iconst 0, 1) := by decide +kernel
theorem dL_law_62 : decode cL_law 62 = .ok (.ireturn, 1) := by decide +kernel
theorem dL_law_63 : decode cL_law 63 = .ok (.aload_n 1, 1) := by decide +kernel
theorem dL_law_64 : decode cL_law 64 = .ok (.invokevirtual 80, 3) := by decide +kernel
theorem dL_law_67 : decode cL_law 67 = .ok (.istore 5, 2) := by decide +kernel
theorem dL_law_69 : decode cL_law 69 = .ok (.iload 5, 2) := by decide +kernel
theorem dL_law_71 : decode cL_law 71 = .ok (.anewarray 83, 3) := by decide +kernel
theorem dL_law_74 : decode cL_law 74 = .ok (.astore 6, 2) := by decide +kernel
theorem dL_law_76 : decode cL_law 76 = .ok (.iconst 0, 1) := by decide +kernel
theorem dL_law_77 : decode cL_law 77 = .ok (.istore 7, 2) := by decide +kernel
theorem dL_law_79 : decode cL_law 79 = .ok (.iload 7, 2) := by decide +kernel
theorem dL_law_81 : decode cL_law 81 = .ok (.iload 5, 2) := by decide +kernel
theorem dL_law_83 : decode cL_law 83 = .ok (.if_icmp .ge 645, 3) := by decide +kernel
theorem dL_law_86 : decode cL_law 86 = .ok (.aload_n 1, 1) := by decide +kernel
theorem dL_law_87 : decode cL_law 87 = .ok (.iload 7, 2) := by decide +kernel
theorem dL_law_89 : decode cL_law 89 = .ok (.invokevirtual 85, 3) := by decide +kernel
theorem dL_law_92 : decode cL_law 92 = .ok (.istore 8, 2) := by decide +kernel
theorem dL_law_94 : decode cL_law 94 = .ok (.iload 8, 2) := by decide +kernel
theorem dL_law_96 : decode cL_law 96 = .ok (.bipush 16, 2) := by decide +kernel
theorem dL_law_98 : decode cL_law 98 = .ok (.if_icmp .le 5, 3) := by decide +kernel
theorem dL_law_101 : decode cL_law 101 = .ok (.iconst 0, 1) := by decide +kernel
theorem dL_law_102 : decode cL_law 102 = .ok (.ireturn, 1) := by decide +kernel
theorem dL_law_103 : decode cL_law 103 = .ok (.aload 6, 2) := by decide +kernel
theorem dL_law_105 : decode cL_law 105 = .ok (.iload 7, 2) := by decide +kernel
theorem dL_law_107 : decode cL_law 107 = .ok (.iload 8, 2) := by decide +kernel
theorem dL_law_109 : decode cL_law 109 = .ok (.iload 8, 2) := by decide +kernel
theorem dL_law_111 : decode cL_law 111 = .ok (.multianewarray 83 2, 4) := by decide +kernel
theorem dL_law_115 : decode cL_law 115 = .ok (.aastore, 1) := by decide +kernel
theorem dL_law_116 : decode cL_law 116 = .ok (.iconst 0, 1) := by decide +kernel
theorem dL_law_117 : decode cL_law 117 = .ok (.istore 9, 2) := by decide +kernel
theorem dL_law_119 : decode cL_law 119 = .ok (.iconst 0, 1) := by decide +kernel
theorem dL_law_120 : decode cL_law 120 = .ok (.istore 10, 2) := by decide +kernel
theorem dL_law_122 : decode cL_law 122 = .ok (.bipush 99, 2) := by decide +kernel
theorem dL_law_124 : decode cL_law 124 = .ok (.istore 11, 2) := by decide +kernel
theorem dL_law_126 : decode cL_law 126 = .ok (.iconst 0, 1) := by decide +kernel
theorem dL_law_127 : decode cL_law 127 = .ok (.istore 12, 2) := by decide +kernel
theorem dL_law_129 : decode cL_law 129 = .ok (.iload 12, 2) := by decide +kernel
theorem dL_law_131 : decode cL_law 131 = .ok (.iload 8, 2) := by decide +kernel
theorem dL_law_133 : decode cL_law 133 = .ok (.if_icmp .ge 291, 3) := by decide +kernel
theorem dL_law_136 : decode cL_law 136 = .ok (.aload_n 1, 1) := by decide +kernel
theorem dL_law_137 : decode cL_law 137 = .ok (.iload 7, 2) := by decide +kernel
theorem dL_law_139 : decode cL_law 139 = .ok (.aload_n 1, 1) := by decide +kernel
theorem dL_law_140 : decode cL_law 140 = .ok (.iload 7, 2) := by decide +kernel
theorem dL_law_142 : decode cL_law 142 = .ok (.iload 12, 2) := by decide +kernel
theorem dL_law_144 : decode cL_law 144 = .ok (.invokevirtual 89, 3) := by decide +kernel
theorem dL_law_147 : decode cL_law 147 = .ok (.invokevirtual 92, 3) := by decide +kernel
theorem dL_law_150 : decode cL_law 150 = .ok (.iload 12, 2) := by decide +kernel
theorem dL_law_152 : decode cL_law 152 = .ok (.if_icmp .eq 5, 3) := by decide +kernel
theorem dL_law_155 : decode cL_law 155 = .ok (.iconst 0, 1) := by decide +kernel
theorem dL_law_156 : decode cL_law 156 = .ok (.ireturn, 1) := by decide +kernel
theorem dL_law_157 : decode cL_law 157 = .ok (.iconst 1, 1) := by decide +kernel
theorem dL_law_158 : decode cL_law 158 = .ok (.istore 13, 2) := by decide +kernel
theorem dL_law_160 : decode cL_law 160 = .ok (.iconst 0, 1) := by decide +kernel
theorem dL_law_161 : decode cL_law 161 = .ok (.istore 14, 2) := by decide +kernel
theorem dL_law_163 : decode cL_law 163 = .ok (.iload 14, 2) := by decide +kernel
theorem dL_law_165 : decode cL_law 165 = .ok (.iload 8, 2) := by decide +kernel
theorem dL_law_167 : decode cL_law 167 = .ok (.if_icmp .ge 219, 3) := by decide +kernel
theorem dL_law_170 : decode cL_law 170 = .ok (.aload 6, 2) := by decide +kernel
theorem dL_law_172 : decode cL_law 172 = .ok (.iload 7, 2) := by decide +kernel
theorem dL_law_174 : decode cL_law 174 = .ok (.aaload, 1) := by decide +kernel
theorem dL_law_175 : decode cL_law 175 = .ok (.iload 12, 2) := by decide +kernel
theorem dL_law_177 : decode cL_law 177 = .ok (.aaload, 1) := by decide +kernel
theorem dL_law_178 : decode cL_law 178 = .ok (.iload 14, 2) := by decide +kernel
theorem dL_law_180 : decode cL_law 180 = .ok (.aload_n 1, 1) := by decide +kernel
theorem dL_law_181 : decode cL_law 181 = .ok (.iload 7, 2) := by decide +kernel
theorem dL_law_183 : decode cL_law 183 = .ok (.iload 12, 2) := by decide +kernel
theorem dL_law_185 : decode cL_law 185 = .ok (.iload 14, 2) := by decide +kernel
theorem dL_law_187 : decode cL_law 187 = .ok (.invokevirtual 93, 3) := by decide +kernel
theorem dL_law_190 : decode cL_law 190 = .ok (.iastore, 1) := by decide +kernel
theorem dL_law_191 : decode cL_law 191 = .ok (.aload 6, 2) := by decide +kernel
theorem dL_law_193 : decode cL_law 193 = .ok (.iload 7, 2) := by decide +kernel
theorem dL_law_195 : decode cL_law 195 = .ok (.aaload, 1) := by decide +kernel
theorem dL_law_196 : decode cL_law 196 = .ok (.iload 12, 2) := by decide +kernel
theorem dL_law_198 : decode cL_law 198 = .ok (.aaload, 1) := by decide +kernel
theorem dL_law_199 : decode cL_law 199 = .ok (.iload 14, 2) := by decide +kernel
theorem dL_law_201 : decode cL_law 201 = .ok (.iaload, 1) := by decide +kernel
theorem dL_law_202 : decode cL_law 202 = .ok (.ifCond .lt 40, 3) := by decide +kernel
theorem dL_law_205 : decode cL_law 205 = .ok (.aload 6, 2) := by decide +kernel
theorem dL_law_207 : decode cL_law 207 = .ok (.iload 7, 2) := by decide +kernel
theorem dL_law_209 : decode cL_law 209 = .ok (.aaload, 1) := by decide +kernel
theorem dL_law_210 : decode cL_law 210 = .ok (.iload 12, 2) := by decide +kernel
theorem dL_law_212 : decode cL_law 212 = .ok (.aaload, 1) := by decide +kernel
theorem dL_law_213 : decode cL_law 213 = .ok (.iload 14, 2) := by decide +kernel
theorem dL_law_215 : decode cL_law 215 = .ok (.iaload, 1) := by decide +kernel
theorem dL_law_216 : decode cL_law 216 = .ok (.bipush 11, 2) := by decide +kernel
theorem dL_law_218 : decode cL_law 218 = .ok (.if_icmp .gt 24, 3) := by decide +kernel
theorem dL_law_221 : decode cL_law 221 = .ok (.iload 12, 2) := by decide +kernel
theorem dL_law_223 : decode cL_law 223 = .ok (.iload 14, 2) := by decide +kernel
theorem dL_law_225 : decode cL_law 225 = .ok (.if_icmp .ne 19, 3) := by decide +kernel
theorem dL_law_228 : decode cL_law 228 = .ok (.aload 6, 2) := by decide +kernel
theorem dL_law_230 : decode cL_law 230 = .ok (.iload 7, 2) := by decide +kernel
theorem dL_law_232 : decode cL_law 232 = .ok (.aaload, 1) := by decide +kernel
theorem dL_law_233 : decode cL_law 233 = .ok (.iload 12, 2) := by decide +kernel
theorem dL_law_235 : decode cL_law 235 = .ok (.aaload, 1) := by decide +kernel
theorem dL_law_236 : decode cL_law 236 = .ok (.iload 14, 2) := by decide +kernel
theorem dL_law_238 : decode cL_law 238 = .ok (.iaload, 1) := by decide +kernel
theorem dL_law_239 : decode cL_law 239 = .ok (.ifCond .eq 5, 3) := by decide +kernel
theorem dL_law_242 : decode cL_law 242 = .ok (.iconst 0, 1) := by decide +kernel
theorem dL_law_243 : decode cL_law 243 = .ok (.ireturn, 1) := by decide +kernel
theorem dL_law_244 : decode cL_law 244 = .ok (.iload 12, 2) := by decide +kernel
theorem dL_law_246 : decode cL_law 246 = .ok (.iload 14, 2) := by decide +kernel
theorem dL_law_248 : decode cL_law 248 = .ok (.if_icmp .ne 6, 3) := by decide +kernel
theorem dL_law_251 : decode cL_law 251 = .ok (.goto 129, 3) := by decide +kernel
theorem dL_law_254 : decode cL_law 254 = .ok (.iload 13, 2) := by decide +kernel
theorem dL_law_256 : decode cL_law 256 = .ok (.ifCond .eq 21, 3) := by decide +kernel
theorem dL_law_259 : decode cL_law 259 = .ok (.aload 6, 2) := by decide +kernel
theorem dL_law_261 : decode cL_law 261 = .ok (.iload 7, 2) := by decide +kernel
theorem dL_law_263 : decode cL_law 263 = .ok (.aaload, 1) := by decide +kernel
theorem dL_law_264 : decode cL_law 264 = .ok (.iload 12, 2) := by decide +kernel
theorem dL_law_266 : decode cL_law 266 = .ok (.aaload, 1) := by decide +kernel
theorem dL_law_267 : decode cL_law 267 = .ok (.iload 14, 2) := by decide +kernel
theorem dL_law_269 : decode cL_law 269 = .ok (.iaload, 1) := by decide +kernel
theorem dL_law_270 : decode cL_law 270 = .ok (.ifCond .le 7, 3) := by decide +kernel
theorem dL_law_273 : decode cL_law 273 = .ok (.iconst 1, 1) := by decide +kernel
theorem dL_law_274 : decode cL_law 274 = .ok (.goto 4, 3) := by decide +kernel
theorem dL_law_277 : decode cL_law 277 = .ok (.iconst 0, 1) := by decide +kernel
theorem dL_law_278 : decode cL_law 278 = .ok (.istore 13, 2) := by decide +kernel
theorem dL_law_280 : decode cL_law 280 = .ok (.iload 11, 2) := by decide +kernel
theorem dL_law_282 : decode cL_law 282 = .ok (.aload 6, 2) := by decide +kernel
theorem dL_law_284 : decode cL_law 284 = .ok (.iload 7, 2) := by decide +kernel
theorem dL_law_286 : decode cL_law 286 = .ok (.aaload, 1) := by decide +kernel
theorem dL_law_287 : decode cL_law 287 = .ok (.iload 12, 2) := by decide +kernel
theorem dL_law_289 : decode cL_law 289 = .ok (.aaload, 1) := by decide +kernel
theorem dL_law_290 : decode cL_law 290 = .ok (.iload 14, 2) := by decide +kernel
theorem dL_law_292 : decode cL_law 292 = .ok (.iaload, 1) := by decide +kernel
theorem dL_law_293 : decode cL_law 293 = .ok (.invokestatic 96, 3) := by decide +kernel
theorem dL_law_296 : decode cL_law 296 = .ok (.istore 11, 2) := by decide +kernel
theorem dL_law_298 : decode cL_law 298 = .ok (.iload 9, 2) := by decide +kernel
theorem dL_law_300 : decode cL_law 300 = .ok (.iload 14, 2) := by decide +kernel
theorem dL_law_302 : decode cL_law 302 = .ok (.iload 12, 2) := by decide +kernel
theorem dL_law_304 : decode cL_law 304 = .ok (.if_icmp .ge 21, 3) := by decide +kernel
theorem dL_law_307 : decode cL_law 307 = .ok (.aload 6, 2) := by decide +kernel
theorem dL_law_309 : decode cL_law 309 = .ok (.iload 7, 2) := by decide +kernel
theorem dL_law_311 : decode cL_law 311 = .ok (.aaload, 1) := by decide +kernel
theorem dL_law_312 : decode cL_law 312 = .ok (.iload 12, 2) := by decide +kernel
theorem dL_law_314 : decode cL_law 314 = .ok (.aaload, 1) := by decide +kernel
theorem dL_law_315 : decode cL_law 315 = .ok (.iload 14, 2) := by decide +kernel
theorem dL_law_317 : decode cL_law 317 = .ok (.iaload, 1) := by decide +kernel
theorem dL_law_318 : decode cL_law 318 = .ok (.ifCond .ne 7, 3) := by decide +kernel
theorem dL_law_321 : decode cL_law 321 = .ok (.iconst 1, 1) := by decide +kernel
theorem dL_law_322 : decode cL_law 322 = .ok (.goto 4, 3) := by decide +kernel
theorem dL_law_325 : decode cL_law 325 = .ok (.iconst 0, 1) := by decide +kernel
theorem dL_law_326 : decode cL_law 326 = .ok (.iadd, 1) := by decide +kernel
theorem dL_law_327 : decode cL_law 327 = .ok (.istore 9, 2) := by decide +kernel
theorem dL_law_329 : decode cL_law 329 = .ok (.iload 10, 2) := by decide +kernel
theorem dL_law_331 : decode cL_law 331 = .ok (.iload 14, 2) := by decide +kernel
theorem dL_law_333 : decode cL_law 333 = .ok (.iload 12, 2) := by decide +kernel
theorem dL_law_335 : decode cL_law 335 = .ok (.if_icmp .ge 41, 3) := by decide +kernel
theorem dL_law_338 : decode cL_law 338 = .ok (.aload 6, 2) := by decide +kernel
theorem dL_law_340 : decode cL_law 340 = .ok (.iload 7, 2) := by decide +kernel
theorem dL_law_342 : decode cL_law 342 = .ok (.aaload, 1) := by decide +kernel
theorem dL_law_343 : decode cL_law 343 = .ok (.iload 12, 2) := by decide +kernel
theorem dL_law_345 : decode cL_law 345 = .ok (.aaload, 1) := by decide +kernel
theorem dL_law_346 : decode cL_law 346 = .ok (.iload 14, 2) := by decide +kernel
theorem dL_law_348 : decode cL_law 348 = .ok (.iaload, 1) := by decide +kernel
theorem dL_law_349 : decode cL_law 349 = .ok (.iconst 1, 1) := by decide +kernel
theorem dL_law_350 : decode cL_law 350 = .ok (.if_icmp .ne 26, 3) := by decide +kernel
theorem dL_law_353 : decode cL_law 353 = .ok (.aload_n 1, 1) := by decide +kernel
theorem dL_law_354 : decode cL_law 354 = .ok (.iload 7, 2) := by decide +kernel
theorem dL_law_356 : decode cL_law 356 = .ok (.iload 12, 2) := by decide +kernel
theorem dL_law_358 : decode cL_law 358 = .ok (.invokevirtual 101, 3) := by decide +kernel
theorem dL_law_361 : decode cL_law 361 = .ok (.aload_n 1, 1) := by decide +kernel
theorem dL_law_362 : decode cL_law 362 = .ok (.iload 7, 2) := by decide +kernel
theorem dL_law_364 : decode cL_law 364 = .ok (.iload 14, 2) := by decide +kernel
theorem dL_law_366 : decode cL_law 366 = .ok (.invokevirtual 101, 3) := by decide +kernel
theorem dL_law_369 : decode cL_law 369 = .ok (.if_icmp .eq 7, 3) := by decide +kernel
theorem dL_law_372 : decode cL_law 372 = .ok (.iconst 1, 1) := by decide +kernel
theorem dL_law_373 : decode cL_law 373 = .ok (.goto 4, 3) := by decide +kernel
theorem dL_law_376 : decode cL_law 376 = .ok (.iconst 0, 1) := by decide +kernel
theorem dL_law_377 : decode cL_law 377 = .ok (.iadd, 1) := by decide +kernel
theorem dL_law_378 : decode cL_law 378 = .ok (.istore 10, 2) := by decide +kernel
theorem dL_law_380 : decode cL_law 380 = .ok (.iinc 14 1, 3) := by decide +kernel
theorem dL_law_383 : decode cL_law 383 = .ok (.goto (-220), 3) := by decide +kernel
theorem dL_law_386 : decode cL_law 386 = .ok (.aload_n 1, 1) := by decide +kernel
theorem dL_law_387 : decode cL_law 387 = .ok (.iload 7, 2) := by decide +kernel
theorem dL_law_389 : decode cL_law 389 = .ok (.iload 12, 2) := by decide +kernel
theorem dL_law_391 : decode cL_law 391 = .ok (.iload 7, 2) := by decide +kernel
theorem dL_law_393 : decode cL_law 393 = .ok (.invokevirtual 104, 3) := by decide +kernel
theorem dL_law_396 : decode cL_law 396 = .ok (.iload 13, 2) := by decide +kernel
theorem dL_law_398 : decode cL_law 398 = .ok (.ifCond .eq 14, 3) := by decide +kernel
theorem dL_law_401 : decode cL_law 401 = .ok (.aload_n 1, 1) := by decide +kernel
theorem dL_law_402 : decode cL_law 402 = .ok (.iload 7, 2) := by decide +kernel
theorem dL_law_404 : decode cL_law 404 = .ok (.iload 12, 2) := by decide +kernel
theorem dL_law_406 : decode cL_law 406 = .ok (.invokevirtual 89, 3) := by decide +kernel
theorem dL_law_409 : decode cL_law 409 = .ok (.goto 4, 3) := by decide +kernel
theorem dL_law_412 : decode cL_law 412 = .ok (.iconst (-1), 1) := by decide +kernel
theorem dL_law_413 : decode cL_law 413 = .ok (.if_icmp .eq 5, 3) := by decide +kernel
theorem dL_law_416 : decode cL_law 416 = .ok (.iconst 0, 1) := by decide +kernel
theorem dL_law_417 : decode cL_law 417 = .ok (.ireturn, 1) := by decide +kernel
theorem dL_law_418 : decode cL_law 418 = .ok (.iinc 12 1, 3) := by decide +kernel
theorem dL_law_421 : decode cL_law 421 = .ok (.goto (-292), 3) := by decide +kernel
theorem dL_law_424 : decode cL_law 424 = .ok (.iconst 0, 1) := by decide +kernel
theorem dL_law_425 : decode cL_law 425 = .ok (.istore 12, 2) := by decide +kernel
theorem dL_law_427 : decode cL_law 427 = .ok (.iload 12, 2) := by decide +kernel
theorem dL_law_429 : decode cL_law 429 = .ok (.iload 8, 2) := by decide +kernel
theorem dL_law_431 : decode cL_law 431 = .ok (.if_icmp .ge 116, 3) := by decide +kernel
theorem dL_law_434 : decode cL_law 434 = .ok (.iconst 0, 1) := by decide +kernel
theorem dL_law_435 : decode cL_law 435 = .ok (.istore 13, 2) := by decide +kernel
theorem dL_law_437 : decode cL_law 437 = .ok (.iload 13, 2) := by decide +kernel
theorem dL_law_439 : decode cL_law 439 = .ok (.iload 8, 2) := by decide +kernel
theorem dL_law_441 : decode cL_law 441 = .ok (.if_icmp .ge 100, 3) := by decide +kernel
theorem dL_law_444 : decode cL_law 444 = .ok (.aload 6, 2) := by decide +kernel
theorem dL_law_446 : decode cL_law 446 = .ok (.iload 7, 2) := by decide +kernel
theorem dL_law_448 : decode cL_law 448 = .ok (.aaload, 1) := by decide +kernel
theorem dL_law_449 : decode cL_law 449 = .ok (.iload 12, 2) := by decide +kernel
theorem dL_law_451 : decode cL_law 451 = .ok (.aaload, 1) := by decide +kernel
theorem dL_law_452 : decode cL_law 452 = .ok (.iload 13, 2) := by decide +kernel
theorem dL_law_454 : decode cL_law 454 = .ok (.iaload, 1) := by decide +kernel
theorem dL_law_455 : decode cL_law 455 = .ok (.aload 6, 2) := by decide +kernel
theorem dL_law_457 : decode cL_law 457 = .ok (.iload 7, 2) := by decide +kernel
theorem dL_law_459 : decode cL_law 459 = .ok (.aaload, 1) := by decide +kernel
theorem dL_law_460 : decode cL_law 460 = .ok (.iload 13, 2) := by decide +kernel
theorem dL_law_462 : decode cL_law 462 = .ok (.aaload, 1) := by decide +kernel
theorem dL_law_463 : decode cL_law 463 = .ok (.iload 12, 2) := by decide +kernel
theorem dL_law_465 : decode cL_law 465 = .ok (.iaload, 1) := by decide +kernel
theorem dL_law_466 : decode cL_law 466 = .ok (.if_icmp .eq 5, 3) := by decide +kernel
theorem dL_law_469 : decode cL_law 469 = .ok (.iconst 0, 1) := by decide +kernel
theorem dL_law_470 : decode cL_law 470 = .ok (.ireturn, 1) := by decide +kernel
theorem dL_law_471 : decode cL_law 471 = .ok (.iconst 0, 1) := by decide +kernel
theorem dL_law_472 : decode cL_law 472 = .ok (.istore 14, 2) := by decide +kernel
theorem dL_law_474 : decode cL_law 474 = .ok (.iload 14, 2) := by decide +kernel
theorem dL_law_476 : decode cL_law 476 = .ok (.iload 8, 2) := by decide +kernel
theorem dL_law_478 : decode cL_law 478 = .ok (.if_icmp .ge 57, 3) := by decide +kernel
theorem dL_law_481 : decode cL_law 481 = .ok (.aload_n 1, 1) := by decide +kernel
theorem dL_law_482 : decode cL_law 482 = .ok (.invokevirtual 107, 3) := by decide +kernel
theorem dL_law_485 : decode cL_law 485 = .ok (.bipush 9, 2) := by decide +kernel
theorem dL_law_487 : decode cL_law 487 = .ok (.if_icmp .ne 48, 3) := by decide +kernel
theorem dL_law_490 : decode cL_law 490 = .ok (.aload 6, 2) := by decide +kernel
theorem dL_law_492 : decode cL_law 492 = .ok (.iload 7, 2) := by decide +kernel
theorem dL_law_494 : decode cL_law 494 = .ok (.aaload, 1) := by decide +kernel
theorem dL_law_495 : decode cL_law 495 = .ok (.iload 12, 2) := by decide +kernel
theorem dL_law_497 : decode cL_law 497 = .ok (.aaload, 1) := by decide +kernel
theorem dL_law_498 : decode cL_law 498 = .ok (.iload 13, 2) := by decide +kernel
theorem dL_law_500 : decode cL_law 500 = .ok (.iaload, 1) := by decide +kernel
theorem dL_law_501 : decode cL_law 501 = .ok (.aload 6, 2) := by decide +kernel
theorem dL_law_503 : decode cL_law 503 = .ok (.iload 7, 2) := by decide +kernel
theorem dL_law_505 : decode cL_law 505 = .ok (.aaload, 1) := by decide +kernel
theorem dL_law_506 : decode cL_law 506 = .ok (.iload 12, 2) := by decide +kernel
theorem dL_law_508 : decode cL_law 508 = .ok (.aaload, 1) := by decide +kernel
theorem dL_law_509 : decode cL_law 509 = .ok (.iload 14, 2) := by decide +kernel
theorem dL_law_511 : decode cL_law 511 = .ok (.iaload, 1) := by decide +kernel
theorem dL_law_512 : decode cL_law 512 = .ok (.aload 6, 2) := by decide +kernel
theorem dL_law_514 : decode cL_law 514 = .ok (.iload 7, 2) := by decide +kernel
theorem dL_law_516 : decode cL_law 516 = .ok (.aaload, 1) := by decide +kernel
theorem dL_law_517 : decode cL_law 517 = .ok (.iload 14, 2) := by decide +kernel
theorem dL_law_519 : decode cL_law 519 = .ok (.aaload, 1) := by decide +kernel
theorem dL_law_520 : decode cL_law 520 = .ok (.iload 13, 2) := by decide +kernel
theorem dL_law_522 : decode cL_law 522 = .ok (.iaload, 1) := by decide +kernel
theorem dL_law_523 : decode cL_law 523 = .ok (.iadd, 1) := by decide +kernel
theorem dL_law_524 : decode cL_law 524 = .ok (.if_icmp .le 5, 3) := by decide +kernel
theorem dL_law_527 : decode cL_law 527 = .ok (.iconst 0, 1) := by decide +kernel
theorem dL_law_528 : decode cL_law 528 = .ok (.ireturn, 1) := by decide +kernel
theorem dL_law_529 : decode cL_law 529 = .ok (.iinc 14 1, 3) := by decide +kernel
theorem dL_law_532 : decode cL_law 532 = .ok (.goto (-58), 3) := by decide +kernel
theorem dL_law_535 : decode cL_law 535 = .ok (.iinc 13 1, 3) := by decide +kernel
theorem dL_law_538 : decode cL_law 538 = .ok (.goto (-101), 3) := by decide +kernel
theorem dL_law_541 : decode cL_law 541 = .ok (.iinc 12 1, 3) := by decide +kernel
theorem dL_law_544 : decode cL_law 544 = .ok (.goto (-117), 3) := by decide +kernel
theorem dL_law_547 : decode cL_law 547 = .ok (.aload_n 1, 1) := by decide +kernel
theorem dL_law_548 : decode cL_law 548 = .ok (.iload 7, 2) := by decide +kernel
theorem dL_law_550 : decode cL_law 550 = .ok (.invokevirtual 108, 3) := by decide +kernel
theorem dL_law_553 : decode cL_law 553 = .ok (.iload 9, 2) := by decide +kernel
theorem dL_law_555 : decode cL_law 555 = .ok (.if_icmp .ne 62, 3) := by decide +kernel
theorem dL_law_558 : decode cL_law 558 = .ok (.aload_n 1, 1) := by decide +kernel
theorem dL_law_559 : decode cL_law 559 = .ok (.iload 7, 2) := by decide +kernel
theorem dL_law_561 : decode cL_law 561 = .ok (.invokevirtual 111, 3) := by decide +kernel
theorem dL_law_564 : decode cL_law 564 = .ok (.iload 10, 2) := by decide +kernel
theorem dL_law_566 : decode cL_law 566 = .ok (.if_icmp .ne 51, 3) := by decide +kernel
theorem dL_law_569 : decode cL_law 569 = .ok (.aload_n 1, 1) := by decide +kernel
theorem dL_law_570 : decode cL_law 570 = .ok (.iload 7, 2) := by decide +kernel
theorem dL_law_572 : decode cL_law 572 = .ok (.invokevirtual 114, 3) := by decide +kernel
theorem dL_law_575 : decode cL_law 575 = .ok (.iload 8, 2) := by decide +kernel
theorem dL_law_577 : decode cL_law 577 = .ok (.iconst 2, 1) := by decide +kernel
theorem dL_law_578 : decode cL_law 578 = .ok (.if_icmp .ge 7, 3) := by decide +kernel
theorem dL_law_581 : decode cL_law 581 = .ok (.iconst 0, 1) := by decide +kernel
theorem dL_law_582 : decode cL_law 582 = .ok (.goto 5, 3) := by decide +kernel
theorem dL_law_585 : decode cL_law 585 = .ok (.iload 11, 2) := by decide +kernel
theorem dL_law_587 : decode cL_law 587 = .ok (.if_icmp .ne 30, 3) := by decide +kernel
theorem dL_law_590 : decode cL_law 590 = .ok (.aload_n 1, 1) := by decide +kernel
theorem dL_law_591 : decode cL_law 591 = .ok (.iload 7, 2) := by decide +kernel
theorem dL_law_593 : decode cL_law 593 = .ok (.invokevirtual 117, 3) := by decide +kernel
theorem dL_law_596 : decode cL_law 596 = .ok (.ifCond .ge 7, 3) := by decide +kernel
theorem dL_law_599 : decode cL_law 599 = .ok (.iconst 1, 1) := by decide +kernel
theorem dL_law_600 : decode cL_law 600 = .ok (.goto 4, 3) := by decide +kernel
theorem dL_law_603 : decode cL_law 603 = .ok (.iconst 0, 1) := by decide +kernel
theorem dL_law_604 : decode cL_law 604 = .ok (.iload 8, 2) := by decide +kernel
theorem dL_law_606 : decode cL_law 606 = .ok (.ifCond .ne 7, 3) := by decide +kernel
theorem dL_law_609 : decode cL_law 609 = .ok (.iconst 1, 1) := by decide +kernel
theorem dL_law_610 : decode cL_law 610 = .ok (.goto 4, 3) := by decide +kernel
theorem dL_law_613 : decode cL_law 613 = .ok (.iconst 0, 1) := by decide +kernel
theorem dL_law_614 : decode cL_law 614 = .ok (.if_icmp .eq 5, 3) := by decide +kernel
theorem dL_law_617 : decode cL_law 617 = .ok (.iconst 0, 1) := by decide +kernel
theorem dL_law_618 : decode cL_law 618 = .ok (.ireturn, 1) := by decide +kernel
theorem dL_law_619 : decode cL_law 619 = .ok (.iconst 0, 1) := by decide +kernel
theorem dL_law_620 : decode cL_law 620 = .ok (.istore 12, 2) := by decide +kernel
theorem dL_law_622 : decode cL_law 622 = .ok (.iload 12, 2) := by decide +kernel
theorem dL_law_624 : decode cL_law 624 = .ok (.iload 5, 2) := by decide +kernel
theorem dL_law_626 : decode cL_law 626 = .ok (.if_icmp .ge 96, 3) := by decide +kernel
theorem dL_law_629 : decode cL_law 629 = .ok (.aload_n 1, 1) := by decide +kernel
theorem dL_law_630 : decode cL_law 630 = .ok (.iload 7, 2) := by decide +kernel
theorem dL_law_632 : decode cL_law 632 = .ok (.iload 12, 2) := by decide +kernel
theorem dL_law_634 : decode cL_law 634 = .ok (.invokevirtual 120, 3) := by decide +kernel
theorem dL_law_637 : decode cL_law 637 = .ok (.istore 13, 2) := by decide +kernel
theorem dL_law_639 : decode cL_law 639 = .ok (.aload_n 1, 1) := by decide +kernel
theorem dL_law_640 : decode cL_law 640 = .ok (.iload 7, 2) := by decide +kernel
theorem dL_law_642 : decode cL_law 642 = .ok (.iload 12, 2) := by decide +kernel
theorem dL_law_644 : decode cL_law 644 = .ok (.invokevirtual 123, 3) := by decide +kernel
theorem dL_law_647 : decode cL_law 647 = .ok (.istore 14, 2) := by decide +kernel
theorem dL_law_649 : decode cL_law 649 = .ok (.iload 13, 2) := by decide +kernel
theorem dL_law_651 : decode cL_law 651 = .ok (.ifCond .lt 63, 3) := by decide +kernel
theorem dL_law_654 : decode cL_law 654 = .ok (.aload_n 1, 1) := by decide +kernel
theorem dL_law_655 : decode cL_law 655 = .ok (.iload 7, 2) := by decide +kernel
theorem dL_law_657 : decode cL_law 657 = .ok (.iload 12, 2) := by decide +kernel
theorem dL_law_659 : decode cL_law 659 = .ok (.invokevirtual 126, 3) := by decide +kernel
theorem dL_law_662 : decode cL_law 662 = .ok (.ifCond .lt 52, 3) := by decide +kernel
theorem dL_law_665 : decode cL_law 665 = .ok (.iload 13, 2) := by decide +kernel
theorem dL_law_667 : decode cL_law 667 = .ok (.aload_n 1, 1) := by decide +kernel
theorem dL_law_668 : decode cL_law 668 = .ok (.iload 7, 2) := by decide +kernel
theorem dL_law_670 : decode cL_law 670 = .ok (.iload 12, 2) := by decide +kernel
theorem dL_law_672 : decode cL_law 672 = .ok (.invokevirtual 126, 3) := by decide +kernel
theorem dL_law_675 : decode cL_law 675 = .ok (.iadd, 1) := by decide +kernel
theorem dL_law_676 : decode cL_law 676 = .ok (.iload 8, 2) := by decide +kernel
theorem dL_law_678 : decode cL_law 678 = .ok (.if_icmp .gt 36, 3) := by decide +kernel
theorem dL_law_681 : decode cL_law 681 = .ok (.iload 14, 2) := by decide +kernel
theorem dL_law_683 : decode cL_law 683 = .ok (.iload 13, 2) := by decide +kernel
theorem dL_law_685 : decode cL_law 685 = .ok (.if_icmp .gt 29, 3) := by decide +kernel
theorem dL_law_688 : decode cL_law 688 = .ok (.iload 14, 2) := by decide +kernel
theorem dL_law_690 : decode cL_law 690 = .ok (.aload_n 1, 1) := by decide +kernel
theorem dL_law_691 : decode cL_law 691 = .ok (.iload 12, 2) := by decide +kernel
theorem dL_law_693 : decode cL_law 693 = .ok (.iload 7, 2) := by decide +kernel
theorem dL_law_695 : decode cL_law 695 = .ok (.invokevirtual 120, 3) := by decide +kernel
theorem dL_law_698 : decode cL_law 698 = .ok (.if_icmp .gt 16, 3) := by decide +kernel
theorem dL_law_701 : decode cL_law 701 = .ok (.iload 14, 2) := by decide +kernel
theorem dL_law_703 : decode cL_law 703 = .ok (.aload_n 1, 1) := by decide +kernel
theorem dL_law_704 : decode cL_law 704 = .ok (.iload 12, 2) := by decide +kernel
theorem dL_law_706 : decode cL_law 706 = .ok (.iload 7, 2) := by decide +kernel
theorem dL_law_708 : decode cL_law 708 = .ok (.invokevirtual 123, 3) := by decide +kernel
theorem dL_law_711 : decode cL_law 711 = .ok (.if_icmp .eq 5, 3) := by decide +kernel
theorem dL_law_714 : decode cL_law 714 = .ok (.iconst 0, 1) := by decide +kernel
theorem dL_law_715 : decode cL_law 715 = .ok (.ireturn, 1) := by decide +kernel
theorem dL_law_716 : decode cL_law 716 = .ok (.iinc 12 1, 3) := by decide +kernel
theorem dL_law_719 : decode cL_law 719 = .ok (.goto (-97), 3) := by decide +kernel
theorem dL_law_722 : decode cL_law 722 = .ok (.iinc 7 1, 3) := by decide +kernel
theorem dL_law_725 : decode cL_law 725 = .ok (.goto (-646), 3) := by decide +kernel
theorem dL_law_728 : decode cL_law 728 = .ok (.iload 4, 2) := by decide +kernel
theorem dL_law_730 : decode cL_law 730 = .ok (.iconst 2, 1) := by decide +kernel
theorem dL_law_731 : decode cL_law 731 = .ok (.ishr, 1) := by decide +kernel
theorem dL_law_732 : decode cL_law 732 = .ok (.bipush 9, 2) := by decide +kernel
theorem dL_law_734 : decode cL_law 734 = .ok (.invokestatic 15, 3) := by decide +kernel
theorem dL_law_737 : decode cL_law 737 = .ok (.istore 7, 2) := by decide +kernel
theorem dL_law_739 : decode cL_law 739 = .ok (.iload 4, 2) := by decide +kernel
theorem dL_law_741 : decode cL_law 741 = .ok (.iconst 4, 1) := by decide +kernel
theorem dL_law_742 : decode cL_law 742 = .ok (.ishr, 1) := by decide +kernel
theorem dL_law_743 : decode cL_law 743 = .ok (.bipush 9, 2) := by decide +kernel
theorem dL_law_745 : decode cL_law 745 = .ok (.invokestatic 15, 3) := by decide +kernel
theorem dL_law_748 : decode cL_law 748 = .ok (.istore 8, 2) := by decide +kernel
theorem dL_law_750 : decode cL_law 750 = .ok (.iload 4, 2) := by decide +kernel
theorem dL_law_752 : decode cL_law 752 = .ok (.iconst 5, 1) := by decide +kernel
theorem dL_law_753 : decode cL_law 753 = .ok (.invokestatic 15, 3) := by decide +kernel
theorem dL_law_756 : decode cL_law 756 = .ok (.ifCond .le 6, 3) := by decide +kernel
theorem dL_law_759 : decode cL_law 759 = .ok (.goto 126, 3) := by decide +kernel
theorem dL_law_762 : decode cL_law 762 = .ok (.aload_n 2, 1) := by decide +kernel
theorem dL_law_763 : decode cL_law 763 = .ok (.iload 7, 2) := by decide +kernel
theorem dL_law_765 : decode cL_law 765 = .ok (.iload 8, 2) := by decide +kernel
theorem dL_law_767 : decode cL_law 767 = .ok (.invokevirtual 51, 3) := by decide +kernel
theorem dL_law_770 : decode cL_law 770 = .ok (.aload_n 1, 1) := by decide +kernel
theorem dL_law_771 : decode cL_law 771 = .ok (.iload 7, 2) := by decide +kernel
theorem dL_law_773 : decode cL_law 773 = .ok (.iload 8, 2) := by decide +kernel
theorem dL_law_775 : decode cL_law 775 = .ok (.invokevirtual 54, 3) := by decide +kernel
theorem dL_law_778 : decode cL_law 778 = .ok (.pop, 1) := by decide +kernel
theorem dL_law_779 : decode cL_law 779 = .ok (.aload_n 1, 1) := by decide +kernel
theorem dL_law_780 : decode cL_law 780 = .ok (.iload 7, 2) := by decide +kernel
theorem dL_law_782 : decode cL_law 782 = .ok (.iload 8, 2) := by decide +kernel
theorem dL_law_784 : decode cL_law 784 = .ok (.invokevirtual 129, 3) := by decide +kernel
theorem dL_law_787 : decode cL_law 787 = .ok (.ifCond .ne 14, 3) := by decide +kernel
theorem dL_law_790 : decode cL_law 790 = .ok (.aload_n 1, 1) := by decide +kernel
theorem dL_law_791 : decode cL_law 791 = .ok (.iload 8, 2) := by decide +kernel
theorem dL_law_793 : decode cL_law 793 = .ok (.iload 7, 2) := by decide +kernel
theorem dL_law_795 : decode cL_law 795 = .ok (.invokevirtual 132, 3) := by decide +kernel
theorem dL_law_798 : decode cL_law 798 = .ok (.ifCond .ne 5, 3) := by decide +kernel
theorem dL_law_801 : decode cL_law 801 = .ok (.iconst 0, 1) := by decide +kernel
theorem dL_law_802 : decode cL_law 802 = .ok (.ireturn, 1) := by decide +kernel
theorem dL_law_803 : decode cL_law 803 = .ok (.iconst 0, 1) := by decide +kernel
theorem dL_law_804 : decode cL_law 804 = .ok (.istore 9, 2) := by decide +kernel
theorem dL_law_806 : decode cL_law 806 = .ok (.iload 9, 2) := by decide +kernel
theorem dL_law_808 : decode cL_law 808 = .ok (.iload 5, 2) := by decide +kernel
theorem dL_law_810 : decode cL_law 810 = .ok (.if_icmp .ge 75, 3) := by decide +kernel
theorem dL_law_813 : decode cL_law 813 = .ok (.iconst 0, 1) := by decide +kernel
theorem dL_law_814 : decode cL_law 814 = .ok (.istore 10, 2) := by decide +kernel
theorem dL_law_816 : decode cL_law 816 = .ok (.iload 10, 2) := by decide +kernel
theorem dL_law_818 : decode cL_law 818 = .ok (.aload 6, 2) := by decide +kernel
theorem dL_law_820 : decode cL_law 820 = .ok (.iload 9, 2) := by decide +kernel
theorem dL_law_822 : decode cL_law 822 = .ok (.aaload, 1) := by decide +kernel
theorem dL_law_823 : decode cL_law 823 = .ok (.arraylength, 1) := by decide +kernel
theorem dL_law_824 : decode cL_law 824 = .ok (.if_icmp .ge 55, 3) := by decide +kernel
theorem dL_law_827 : decode cL_law 827 = .ok (.iconst 0, 1) := by decide +kernel
theorem dL_law_828 : decode cL_law 828 = .ok (.istore 11, 2) := by decide +kernel
theorem dL_law_830 : decode cL_law 830 = .ok (.iload 11, 2) := by decide +kernel
theorem dL_law_832 : decode cL_law 832 = .ok (.aload 6, 2) := by decide +kernel
theorem dL_law_834 : decode cL_law 834 = .ok (.iload 9, 2) := by decide +kernel
theorem dL_law_836 : decode cL_law 836 = .ok (.aaload, 1) := by decide +kernel
theorem dL_law_837 : decode cL_law 837 = .ok (.arraylength, 1) := by decide +kernel
theorem dL_law_838 : decode cL_law 838 = .ok (.if_icmp .ge 35, 3) := by decide +kernel
theorem dL_law_841 : decode cL_law 841 = .ok (.aload_n 1, 1) := by decide +kernel
theorem dL_law_842 : decode cL_law 842 = .ok (.iload 9, 2) := by decide +kernel
theorem dL_law_844 : decode cL_law 844 = .ok (.iload 10, 2) := by decide +kernel
theorem dL_law_846 : decode cL_law 846 = .ok (.iload 11, 2) := by decide +kernel
theorem dL_law_848 : decode cL_law 848 = .ok (.invokevirtual 93, 3) := by decide +kernel
theorem dL_law_851 : decode cL_law 851 = .ok (.aload 6, 2) := by decide +kernel
theorem dL_law_853 : decode cL_law 853 = .ok (.iload 9, 2) := by decide +kernel
theorem dL_law_855 : decode cL_law 855 = .ok (.aaload, 1) := by decide +kernel
theorem dL_law_856 : decode cL_law 856 = .ok (.iload 10, 2) := by decide +kernel
theorem dL_law_858 : decode cL_law 858 = .ok (.aaload, 1) := by decide +kernel
theorem dL_law_859 : decode cL_law 859 = .ok (.iload 11, 2) := by decide +kernel
theorem dL_law_861 : decode cL_law 861 = .ok (.iaload, 1) := by decide +kernel
theorem dL_law_862 : decode cL_law 862 = .ok (.if_icmp .le 5, 3) := by decide +kernel
theorem dL_law_865 : decode cL_law 865 = .ok (.iconst 0, 1) := by decide +kernel
theorem dL_law_866 : decode cL_law 866 = .ok (.ireturn, 1) := by decide +kernel
theorem dL_law_867 : decode cL_law 867 = .ok (.iinc 11 1, 3) := by decide +kernel
theorem dL_law_870 : decode cL_law 870 = .ok (.goto (-40), 3) := by decide +kernel
theorem dL_law_873 : decode cL_law 873 = .ok (.iinc 10 1, 3) := by decide +kernel
theorem dL_law_876 : decode cL_law 876 = .ok (.goto (-60), 3) := by decide +kernel
theorem dL_law_879 : decode cL_law 879 = .ok (.iinc 9 1, 3) := by decide +kernel
theorem dL_law_882 : decode cL_law 882 = .ok (.goto (-76), 3) := by decide +kernel
theorem dL_law_885 : decode cL_law 885 = .ok (.iinc 3 1, 3) := by decide +kernel
theorem dL_law_888 : decode cL_law 888 = .ok (.goto (-866), 3) := by decide +kernel
theorem dL_law_891 : decode cL_law 891 = .ok (.aload_n 2, 1) := by decide +kernel
theorem dL_law_892 : decode cL_law 892 = .ok (.aload_n 1, 1) := by decide +kernel
theorem dL_law_893 : decode cL_law 893 = .ok (.invokevirtual 136, 3) := by decide +kernel
theorem dL_law_896 : decode cL_law 896 = .ok (.ireturn, 1) := by decide +kernel
end
section
/-- the tables' good words, and the nest words -/
def wsA : List Cond := lw_tbl.filter goodWord
def isNest : Cond → Bool
  | .fieldLinkNest _ _ _ _ _ _ => true
  | .methodLinkNest _ _ _ _ => true
  | .castable _ _ => true
  | .declares _ => true
  | _ => false
def nwA : List Cond := tables_1.filter isNest
theorem wA_of (i : Nat) {w : Cond} (h : tables_1[i]? = some w) (hg : goodWord w = true) : w ∈ wsA := List.mem_filter.mpr ⟨List.mem_append_right _ (List.mem_of_getElem? h), hg⟩
theorem wS_of (i : Nat) {w : Cond} (h : (k2_sels lw_privs)[i]? = some w) (hg : goodWord w = true) : w ∈ wsA := List.mem_filter.mpr ⟨List.mem_append_left _ (List.mem_of_getElem? h), hg⟩
theorem nA_of (i : Nat) {w : Cond} (h : tables_1[i]? = some w) (hg : isNest w = true) : w ∈ nwA := List.mem_filter.mpr ⟨List.mem_of_getElem? h, hg⟩
theorem goodA {ws : List Cond} (h : ∀ w ∈ ws, w ∈ wsA) : GoodIn wsA ws := fun w hw => ⟨h w hw, good_of_word (List.mem_filter.mp (h w hw)).2⟩
theorem wd0 : (Jvm.Cond.initialized "SignMasonsLaw") ∈ wsA := wA_of 0 (by decide +kernel) (by decide +kernel)
theorem wd1 : (Jvm.Cond.initialized "SignMasons") ∈ wsA := wA_of 1 (by decide +kernel) (by decide +kernel)
theorem wd2 : (Jvm.Cond.initialized "SignMasons$Places") ∈ wsA := wA_of 2 (by decide +kernel) (by decide +kernel)
theorem wd3 : (Jvm.Cond.initialized "SignMasons$Book") ∈ wsA := wA_of 3 (by decide +kernel) (by decide +kernel)
theorem wd4 : (Jvm.Cond.initialized "SignMasonsLaw$Sim") ∈ wsA := wA_of 4 (by decide +kernel) (by decide +kernel)
theorem wd5 : (Jvm.Cond.initialized "java/lang/Throwable") ∈ wsA := wA_of 5 (by decide +kernel) (by decide +kernel)
theorem wd6 : (Jvm.Cond.initialized "java/lang/Exception") ∈ wsA := wA_of 6 (by decide +kernel) (by decide +kernel)
theorem wd7 : (Jvm.Cond.initialized "java/lang/RuntimeException") ∈ wsA := wA_of 7 (by decide +kernel) (by decide +kernel)
theorem wd8 : (Jvm.Cond.initialized "java/lang/IllegalStateException") ∈ wsA := wA_of 8 (by decide +kernel) (by decide +kernel)
theorem wd9 : (Jvm.Cond.initialized "java/lang/IndexOutOfBoundsException") ∈ wsA := wA_of 9 (by decide +kernel) (by decide +kernel)
theorem wd10 : (Jvm.Cond.initialized "java/lang/IllegalArgumentException") ∈ wsA := wA_of 10 (by decide +kernel) (by decide +kernel)
theorem wd11 : (Jvm.Cond.initialized "SignMasons$Look") ∈ wsA := wA_of 11 (by decide +kernel) (by decide +kernel)
theorem wd12 : (Jvm.Cond.initialized "java/lang/Math") ∈ wsA := wA_of 12 (by decide +kernel) (by decide +kernel)
theorem wd13 : (Jvm.Cond.initialized "java/lang/Integer") ∈ wsA := wA_of 13 (by decide +kernel) (by decide +kernel)
theorem wd14 : (Jvm.Cond.classLink "SignMasonsLaw" (25 : Nat) "SignMasons") ∈ wsA := wA_of 14 (by decide +kernel) (by decide +kernel)
theorem wd15 : (Jvm.Cond.instantiable "SignMasons" (4 : Nat)) ∈ wsA := wA_of 15 (by decide +kernel) (by decide +kernel)
theorem wd16 : (Jvm.Cond.methodLink "SignMasonsLaw" (75 : Nat) ({ cls := "SignMasons", name := "<init>", desc := "()V" } : Jvm.MethodName)) ∈ wsA := wA_of 16 (by decide +kernel) (by decide +kernel)
theorem wd17 : (Jvm.Cond.instanceMethod ({ cls := "SignMasons", name := "<init>", desc := "()V" } : Jvm.MethodName)) ∈ wsA := wA_of 17 (by decide +kernel) (by decide +kernel)
theorem wd18 : (Jvm.Cond.code ({ cls := "SignMasons", name := "<init>", desc := "()V" } : Jvm.MethodName) prog_1_method_1_code (2 : Nat) (Option.none : Option Jvm.ClassFile.FieldType)) ∈ wsA := wA_of 18 (by decide +kernel) (by decide +kernel)
theorem wd19 : (Jvm.Cond.methodLink "SignMasons" (1 : Nat) ({ cls := "java/lang/Object", name := "<init>", desc := "()V" } : Jvm.MethodName)) ∈ wsA := wA_of 19 (by decide +kernel) (by decide +kernel)
theorem wd20 : (Jvm.Cond.instanceMethod ({ cls := "java/lang/Object", name := "<init>", desc := "()V" } : Jvm.MethodName)) ∈ wsA := wA_of 20 (by decide +kernel) (by decide +kernel)
theorem wd21 : (Jvm.Cond.code ({ cls := "java/lang/Object", name := "<init>", desc := "()V" } : Jvm.MethodName) object_method_1_code (1 : Nat) (Option.none : Option Jvm.ClassFile.FieldType)) ∈ wsA := wA_of 21 (by decide +kernel) (by decide +kernel)
theorem wd22 : (Jvm.Cond.classLink "SignMasons" (7 : Nat) "SignMasons$Places") ∈ wsA := wA_of 22 (by decide +kernel) (by decide +kernel)
theorem wd23 : (Jvm.Cond.instantiable "SignMasons$Places" (2 : Nat)) ∈ wsA := wA_of 23 (by decide +kernel) (by decide +kernel)
theorem wd24 : (Jvm.Cond.methodLinkNest "SignMasons" (9 : Nat) ({ cls := "SignMasons$Places", name := "<init>", desc := "()V" } : Jvm.MethodName) "SignMasons") ∈ nwA := nA_of 24 (by decide +kernel) (by decide +kernel)
theorem wd25 : (Jvm.Cond.instanceMethod ({ cls := "SignMasons$Places", name := "<init>", desc := "()V" } : Jvm.MethodName)) ∈ wsA := wA_of 25 (by decide +kernel) (by decide +kernel)
theorem wd26 : (Jvm.Cond.code ({ cls := "SignMasons$Places", name := "<init>", desc := "()V" } : Jvm.MethodName) prog_4_method_1_code (2 : Nat) (Option.none : Option Jvm.ClassFile.FieldType)) ∈ wsA := wA_of 26 (by decide +kernel) (by decide +kernel)
theorem wd27 : (Jvm.Cond.methodLink "SignMasons$Places" (3 : Nat) ({ cls := "java/lang/Object", name := "<init>", desc := "()V" } : Jvm.MethodName)) ∈ wsA := wA_of 27 (by decide +kernel) (by decide +kernel)
theorem wd28 : (Jvm.Cond.fieldLink "SignMasons$Places" (9 : Nat) "SignMasons$Places" "groupAt" "[I") ∈ wsA := wA_of 28 (by decide +kernel) (by decide +kernel)
theorem wd29 : (Jvm.Cond.fieldLink "SignMasons$Places" (15 : Nat) "SignMasons$Places" "groupCount" "I") ∈ wsA := wA_of 29 (by decide +kernel) (by decide +kernel)
theorem wd30 : (Jvm.Cond.fieldLinkNest "SignMasons" (101 : Nat) "SignMasons$Places" "groupCount" "I" "SignMasons") ∈ nwA := nA_of 30 (by decide +kernel) (by decide +kernel)
theorem wd31 : (Jvm.Cond.laysFinal "SignMasons$Places" "SignMasons$Places" "groupAt" "[I") ∈ wsA := wA_of 31 (by decide +kernel) (by decide +kernel)
theorem wd33 : (Jvm.Cond.lays "SignMasons$Places" "SignMasons$Places" "groupCount" "I") ∈ wsA := wA_of 33 (by decide +kernel) (by decide +kernel)
theorem wd36 : (Jvm.Cond.arrayClass Jvm.ClassFile.FieldType.int) ∈ wsA := wA_of 36 (by decide +kernel) (by decide +kernel)
theorem wd37 : (Jvm.Cond.classLink "SignMasons" (16 : Nat) "SignMasons$Book") ∈ wsA := wA_of 37 (by decide +kernel) (by decide +kernel)
theorem wd39 : (Jvm.Cond.instantiable "SignMasons$Book" (4 : Nat)) ∈ wsA := wA_of 39 (by decide +kernel) (by decide +kernel)
theorem wd40 : (Jvm.Cond.methodLinkNest "SignMasons" (22 : Nat) ({ cls := "SignMasons$Book", name := "<init>", desc := "(LSignMasons$Places;)V" } : Jvm.MethodName) "SignMasons") ∈ nwA := nA_of 40 (by decide +kernel) (by decide +kernel)
theorem wd41 : (Jvm.Cond.instanceMethod ({ cls := "SignMasons$Book", name := "<init>", desc := "(LSignMasons$Places;)V" } : Jvm.MethodName)) ∈ wsA := wA_of 41 (by decide +kernel) (by decide +kernel)
theorem wd42 : (Jvm.Cond.code ({ cls := "SignMasons$Book", name := "<init>", desc := "(LSignMasons$Places;)V" } : Jvm.MethodName) prog_2_method_1_code (2 : Nat) (Option.none : Option Jvm.ClassFile.FieldType)) ∈ wsA := wA_of 42 (by decide +kernel) (by decide +kernel)
theorem wd43 : (Jvm.Cond.methodLink "SignMasons$Book" (3 : Nat) ({ cls := "java/lang/Object", name := "<init>", desc := "()V" } : Jvm.MethodName)) ∈ wsA := wA_of 43 (by decide +kernel) (by decide +kernel)
theorem wd44 : (Jvm.Cond.fieldLink "SignMasons$Book" (9 : Nat) "SignMasons$Book" "places" "LSignMasons$Places;") ∈ wsA := wA_of 44 (by decide +kernel) (by decide +kernel)
theorem wd45 : (Jvm.Cond.fieldLink "SignMasons$Book" (15 : Nat) "SignMasons$Book" "looks" "[I") ∈ wsA := wA_of 45 (by decide +kernel) (by decide +kernel)
theorem wd46 : (Jvm.Cond.fieldLinkNest "SignMasons" (83 : Nat) "SignMasons$Book" "looks" "[I" "SignMasons") ∈ nwA := nA_of 46 (by decide +kernel) (by decide +kernel)
theorem wd47 : (Jvm.Cond.fieldLink "SignMasons$Book" (19 : Nat) "SignMasons$Book" "meanings" "[I") ∈ wsA := wA_of 47 (by decide +kernel) (by decide +kernel)
theorem wd48 : (Jvm.Cond.fieldLinkNest "SignMasons" (106 : Nat) "SignMasons$Book" "meanings" "[I" "SignMasons") ∈ nwA := nA_of 48 (by decide +kernel) (by decide +kernel)
theorem wd49 : (Jvm.Cond.fieldLink "SignMasons$Book" (22 : Nat) "SignMasons$Book" "count" "I") ∈ wsA := wA_of 49 (by decide +kernel) (by decide +kernel)
theorem wd50 : (Jvm.Cond.fieldLinkNest "SignMasons" (120 : Nat) "SignMasons$Book" "count" "I" "SignMasons") ∈ nwA := nA_of 50 (by decide +kernel) (by decide +kernel)
theorem wd51 : (Jvm.Cond.laysFinal "SignMasons$Book" "SignMasons$Book" "places" "LSignMasons$Places;") ∈ wsA := wA_of 51 (by decide +kernel) (by decide +kernel)
theorem wd53 : (Jvm.Cond.laysFinal "SignMasons$Book" "SignMasons$Book" "looks" "[I") ∈ wsA := wA_of 53 (by decide +kernel) (by decide +kernel)
theorem wd55 : (Jvm.Cond.laysFinal "SignMasons$Book" "SignMasons$Book" "meanings" "[I") ∈ wsA := wA_of 55 (by decide +kernel) (by decide +kernel)
theorem wd57 : (Jvm.Cond.lays "SignMasons$Book" "SignMasons$Book" "count" "I") ∈ wsA := wA_of 57 (by decide +kernel) (by decide +kernel)
theorem wd60 : (Jvm.Cond.fieldLink "SignMasons" (10 : Nat) "SignMasons" "places" "LSignMasons$Places;") ∈ wsA := wA_of 60 (by decide +kernel) (by decide +kernel)
theorem wd61 : (Jvm.Cond.fieldLink "SignMasons" (18 : Nat) "SignMasons" "books" "[LSignMasons$Book;") ∈ wsA := wA_of 61 (by decide +kernel) (by decide +kernel)
theorem wd62 : (Jvm.Cond.fieldLink "SignMasons" (25 : Nat) "SignMasons" "trial" "LSignMasons$Book;") ∈ wsA := wA_of 62 (by decide +kernel) (by decide +kernel)
theorem wd63 : (Jvm.Cond.fieldLink "SignMasons" (29 : Nat) "SignMasons" "lodgeCount" "I") ∈ wsA := wA_of 63 (by decide +kernel) (by decide +kernel)
theorem wd64 : (Jvm.Cond.laysFinal "SignMasons" "SignMasons" "places" "LSignMasons$Places;") ∈ wsA := wA_of 64 (by decide +kernel) (by decide +kernel)
theorem wd66 : (Jvm.Cond.laysFinal "SignMasons" "SignMasons" "books" "[LSignMasons$Book;") ∈ wsA := wA_of 66 (by decide +kernel) (by decide +kernel)
theorem wd68 : (Jvm.Cond.laysFinal "SignMasons" "SignMasons" "trial" "LSignMasons$Book;") ∈ wsA := wA_of 68 (by decide +kernel) (by decide +kernel)
theorem wd70 : (Jvm.Cond.lays "SignMasons" "SignMasons" "lodgeCount" "I") ∈ wsA := wA_of 70 (by decide +kernel) (by decide +kernel)
theorem wd73 : (Jvm.Cond.methodLink "SignMasonsLaw" (54 : Nat) ({ cls := "SignMasons", name := "join", desc := "(II)I" } : Jvm.MethodName)) ∈ wsA := wA_of 73 (by decide +kernel) (by decide +kernel)
theorem wd74 : (Jvm.Cond.instanceMethod ({ cls := "SignMasons", name := "join", desc := "(II)I" } : Jvm.MethodName)) ∈ wsA := wA_of 74 (by decide +kernel) (by decide +kernel)
theorem wd75 : (Jvm.Cond.selects "SignMasons" ({ cls := "SignMasons", name := "join", desc := "(II)I" } : Jvm.MethodName) ({ cls := "SignMasons", name := "join", desc := "(II)I" } : Jvm.MethodName)) ∈ wsA := wA_of 75 (by decide +kernel) (by decide +kernel)
theorem wd76 : (Jvm.Cond.code ({ cls := "SignMasons", name := "join", desc := "(II)I" } : Jvm.MethodName) prog_1_method_6_code (3 : Nat) (Option.some Jvm.ClassFile.FieldType.int)) ∈ wsA := wA_of 76 (by decide +kernel) (by decide +kernel)
theorem wd77 : (Jvm.Cond.methodLink "SignMasons" (93 : Nat) ({ cls := "SignMasons", name := "checkPlace", desc := "(I)V" } : Jvm.MethodName)) ∈ wsA := wA_of 77 (by decide +kernel) (by decide +kernel)
theorem wd78 : (Jvm.Cond.static ({ cls := "SignMasons", name := "checkPlace", desc := "(I)V" } : Jvm.MethodName)) ∈ wsA := wA_of 78 (by decide +kernel) (by decide +kernel)
theorem wd79 : (Jvm.Cond.code ({ cls := "SignMasons", name := "checkPlace", desc := "(I)V" } : Jvm.MethodName) prog_1_method_41_code (1 : Nat) (Option.none : Option Jvm.ClassFile.FieldType)) ∈ wsA := wA_of 79 (by decide +kernel) (by decide +kernel)
theorem wd80 : (Jvm.Cond.methodLink "SignMasons" (48 : Nat) ({ cls := "SignMasons", name := "isBelow", desc := "(II)Z" } : Jvm.MethodName)) ∈ wsA := wA_of 80 (by decide +kernel) (by decide +kernel)
theorem wd81 : (Jvm.Cond.static ({ cls := "SignMasons", name := "isBelow", desc := "(II)Z" } : Jvm.MethodName)) ∈ wsA := wA_of 81 (by decide +kernel) (by decide +kernel)
theorem wd82 : (Jvm.Cond.code ({ cls := "SignMasons", name := "isBelow", desc := "(II)Z" } : Jvm.MethodName) prog_1_method_37_code (2 : Nat) (Option.some Jvm.ClassFile.FieldType.boolean)) ∈ wsA := wA_of 82 (by decide +kernel) (by decide +kernel)
theorem wd83 : (Jvm.Cond.classLink "SignMasons" (132 : Nat) "java/lang/IndexOutOfBoundsException") ∈ wsA := wA_of 83 (by decide +kernel) (by decide +kernel)
theorem wd84 : (Jvm.Cond.instantiable "java/lang/IndexOutOfBoundsException" (6 : Nat)) ∈ wsA := wA_of 84 (by decide +kernel) (by decide +kernel)
theorem wd85 : (Jvm.Cond.castable "java/lang/IndexOutOfBoundsException" "java/lang/IndexOutOfBoundsException") ∈ nwA := nA_of 85 (by decide +kernel) (by decide +kernel)
theorem wd86 : (Jvm.Cond.declares ({ cls := "java/lang/RuntimeException", name := "<init>", desc := "()V" } : Jvm.MethodName)) ∈ nwA := nA_of 86 (by decide +kernel) (by decide +kernel)
theorem wd87 : (Jvm.Cond.declares ({ cls := "java/lang/RuntimeException", name := "<init>", desc := "(Ljava/lang/String;)V" } : Jvm.MethodName)) ∈ nwA := nA_of 87 (by decide +kernel) (by decide +kernel)
theorem wd88 : (Jvm.Cond.declares ({ cls := "java/lang/Exception", name := "<init>", desc := "()V" } : Jvm.MethodName)) ∈ nwA := nA_of 88 (by decide +kernel) (by decide +kernel)
theorem wd89 : (Jvm.Cond.declares ({ cls := "java/lang/Exception", name := "<init>", desc := "(Ljava/lang/String;)V" } : Jvm.MethodName)) ∈ nwA := nA_of 89 (by decide +kernel) (by decide +kernel)
theorem wd90 : (Jvm.Cond.declares ({ cls := "java/lang/Throwable", name := "<init>", desc := "()V" } : Jvm.MethodName)) ∈ nwA := nA_of 90 (by decide +kernel) (by decide +kernel)
theorem wd91 : (Jvm.Cond.declares ({ cls := "java/lang/Throwable", name := "<init>", desc := "(Ljava/lang/String;)V" } : Jvm.MethodName)) ∈ nwA := nA_of 91 (by decide +kernel) (by decide +kernel)
theorem wd92 : (Jvm.Cond.selects "java/lang/IndexOutOfBoundsException" ({ cls := "java/lang/Throwable", name := "fillInStackTrace", desc := "(I)Ljava/lang/Throwable;" } : Jvm.MethodName) ({ cls := "java/lang/Throwable", name := "fillInStackTrace", desc := "(I)Ljava/lang/Throwable;" } : Jvm.MethodName)) ∈ wsA := wA_of 92 (by decide +kernel) (by decide +kernel)
theorem wd93 : (Jvm.Cond.selects "java/lang/IndexOutOfBoundsException" ({ cls := "java/lang/Throwable", name := "fillInStackTrace", desc := "()Ljava/lang/Throwable;" } : Jvm.MethodName) ({ cls := "java/lang/Throwable", name := "fillInStackTrace", desc := "()Ljava/lang/Throwable;" } : Jvm.MethodName)) ∈ wsA := wA_of 93 (by decide +kernel) (by decide +kernel)
theorem wd94 : (Jvm.Cond.lays "java/lang/IndexOutOfBoundsException" "java/lang/Throwable" "cause" "Ljava/lang/Throwable;") ∈ wsA := wA_of 94 (by decide +kernel) (by decide +kernel)
theorem wd95 : (Jvm.Cond.lays "java/lang/Throwable" "java/lang/Throwable" "cause" "Ljava/lang/Throwable;") ∈ wsA := wA_of 95 (by decide +kernel) (by decide +kernel)
theorem wd96 : (Jvm.Cond.lays "java/lang/IndexOutOfBoundsException" "java/lang/Throwable" "stackTrace" "[Ljava/lang/StackTraceElement;") ∈ wsA := wA_of 96 (by decide +kernel) (by decide +kernel)
theorem wd97 : (Jvm.Cond.lays "java/lang/Throwable" "java/lang/Throwable" "stackTrace" "[Ljava/lang/StackTraceElement;") ∈ wsA := wA_of 97 (by decide +kernel) (by decide +kernel)
theorem wd98 : (Jvm.Cond.lays "java/lang/IndexOutOfBoundsException" "java/lang/Throwable" "suppressedExceptions" "Ljava/util/List;") ∈ wsA := wA_of 98 (by decide +kernel) (by decide +kernel)
theorem wd99 : (Jvm.Cond.lays "java/lang/Throwable" "java/lang/Throwable" "suppressedExceptions" "Ljava/util/List;") ∈ wsA := wA_of 99 (by decide +kernel) (by decide +kernel)
theorem wd100 : (Jvm.Cond.lays "java/lang/IndexOutOfBoundsException" "java/lang/Throwable" "detailMessage" "Ljava/lang/String;") ∈ wsA := wA_of 100 (by decide +kernel) (by decide +kernel)
theorem wd101 : (Jvm.Cond.lays "java/lang/Throwable" "java/lang/Throwable" "detailMessage" "Ljava/lang/String;") ∈ wsA := wA_of 101 (by decide +kernel) (by decide +kernel)
theorem wd102 : (Jvm.Cond.lays "java/lang/IndexOutOfBoundsException" "java/lang/Throwable" "backtrace" "Ljava/lang/Object;") ∈ wsA := wA_of 102 (by decide +kernel) (by decide +kernel)
theorem wd103 : (Jvm.Cond.lays "java/lang/Throwable" "java/lang/Throwable" "backtrace" "Ljava/lang/Object;") ∈ wsA := wA_of 103 (by decide +kernel) (by decide +kernel)
theorem wd104 : (Jvm.Cond.fieldLink "java/lang/Throwable" (198 : Nat) "java/lang/Throwable" "backtrace" "Ljava/lang/Object;") ∈ wsA := wA_of 104 (by decide +kernel) (by decide +kernel)
theorem wd106 : (Jvm.Cond.instanceMethod ({ cls := "java/lang/Throwable", name := "<init>", desc := "()V" } : Jvm.MethodName)) ∈ wsA := wA_of 106 (by decide +kernel) (by decide +kernel)
theorem wd107 : (Jvm.Cond.code ({ cls := "java/lang/Throwable", name := "<init>", desc := "()V" } : Jvm.MethodName) prog_16_method_1_code (1 : Nat) (Option.none : Option Jvm.ClassFile.FieldType)) ∈ wsA := wA_of 107 (by decide +kernel) (by decide +kernel)
theorem wd108 : (Jvm.Cond.methodLink "java/lang/Throwable" (1 : Nat) ({ cls := "java/lang/Object", name := "<init>", desc := "()V" } : Jvm.MethodName)) ∈ wsA := wA_of 108 (by decide +kernel) (by decide +kernel)
theorem wd109 : (Jvm.Cond.fieldLink "java/lang/Throwable" (13 : Nat) "java/lang/Throwable" "UNASSIGNED_STACK" "[Ljava/lang/StackTraceElement;") ∈ wsA := wA_of 109 (by decide +kernel) (by decide +kernel)
theorem wd111 : (Jvm.Cond.fieldLink "java/lang/Throwable" (20 : Nat) "java/lang/Throwable" "SUPPRESSED_SENTINEL" "Ljava/util/List;") ∈ wsA := wA_of 111 (by decide +kernel) (by decide +kernel)
theorem wd113 : (Jvm.Cond.methodLink "java/lang/Throwable" (27 : Nat) ({ cls := "java/lang/Throwable", name := "fillInStackTrace", desc := "()Ljava/lang/Throwable;" } : Jvm.MethodName)) ∈ wsA := wA_of 113 (by decide +kernel) (by decide +kernel)
theorem wd114 : (Jvm.Cond.instanceMethod ({ cls := "java/lang/Throwable", name := "fillInStackTrace", desc := "()Ljava/lang/Throwable;" } : Jvm.MethodName)) ∈ wsA := wA_of 114 (by decide +kernel) (by decide +kernel)
theorem wd116 : (Jvm.Cond.selects "java/lang/IllegalArgumentException" ({ cls := "java/lang/Throwable", name := "fillInStackTrace", desc := "()Ljava/lang/Throwable;" } : Jvm.MethodName) ({ cls := "java/lang/Throwable", name := "fillInStackTrace", desc := "()Ljava/lang/Throwable;" } : Jvm.MethodName)) ∈ wsA := wA_of 116 (by decide +kernel) (by decide +kernel)
theorem wd117 : (Jvm.Cond.selects "java/lang/IllegalStateException" ({ cls := "java/lang/Throwable", name := "fillInStackTrace", desc := "()Ljava/lang/Throwable;" } : Jvm.MethodName) ({ cls := "java/lang/Throwable", name := "fillInStackTrace", desc := "()Ljava/lang/Throwable;" } : Jvm.MethodName)) ∈ wsA := wA_of 117 (by decide +kernel) (by decide +kernel)
theorem wd119 : (Jvm.Cond.methodLink "java/lang/Throwable" (202 : Nat) ({ cls := "java/lang/Throwable", name := "fillInStackTrace", desc := "(I)Ljava/lang/Throwable;" } : Jvm.MethodName)) ∈ wsA := wA_of 119 (by decide +kernel) (by decide +kernel)
theorem wd121 : (Jvm.Cond.instanceMethod ({ cls := "java/lang/Throwable", name := "fillInStackTrace", desc := "(I)Ljava/lang/Throwable;" } : Jvm.MethodName)) ∈ wsA := wA_of 121 (by decide +kernel) (by decide +kernel)
theorem wd122 : (Jvm.Cond.instantiable "java/lang/Throwable" (6 : Nat)) ∈ wsA := wA_of 122 (by decide +kernel) (by decide +kernel)
theorem wd123 : (Jvm.Cond.native ({ cls := "java/lang/Throwable", name := "fillInStackTrace", desc := "(I)Ljava/lang/Throwable;" } : Jvm.MethodName)) ∈ wsA := wA_of 123 (by decide +kernel) (by decide +kernel)
theorem wd125 : (Jvm.Cond.methodLink "SignMasons" (134 : Nat) ({ cls := "java/lang/IndexOutOfBoundsException", name := "<init>", desc := "(Ljava/lang/String;)V" } : Jvm.MethodName)) ∈ wsA := wA_of 125 (by decide +kernel) (by decide +kernel)
theorem wd126 : (Jvm.Cond.instanceMethod ({ cls := "java/lang/IndexOutOfBoundsException", name := "<init>", desc := "(Ljava/lang/String;)V" } : Jvm.MethodName)) ∈ wsA := wA_of 126 (by decide +kernel) (by decide +kernel)
theorem wd127 : (Jvm.Cond.code ({ cls := "java/lang/IndexOutOfBoundsException", name := "<init>", desc := "(Ljava/lang/String;)V" } : Jvm.MethodName) prog_11_method_2_code (2 : Nat) (Option.none : Option Jvm.ClassFile.FieldType)) ∈ wsA := wA_of 127 (by decide +kernel) (by decide +kernel)
theorem wd128 : (Jvm.Cond.methodLink "java/lang/IndexOutOfBoundsException" (7 : Nat) ({ cls := "java/lang/RuntimeException", name := "<init>", desc := "(Ljava/lang/String;)V" } : Jvm.MethodName)) ∈ wsA := wA_of 128 (by decide +kernel) (by decide +kernel)
theorem wd129 : (Jvm.Cond.instanceMethod ({ cls := "java/lang/RuntimeException", name := "<init>", desc := "(Ljava/lang/String;)V" } : Jvm.MethodName)) ∈ wsA := wA_of 129 (by decide +kernel) (by decide +kernel)
theorem wd130 : (Jvm.Cond.code ({ cls := "java/lang/RuntimeException", name := "<init>", desc := "(Ljava/lang/String;)V" } : Jvm.MethodName) prog_14_method_2_code (2 : Nat) (Option.none : Option Jvm.ClassFile.FieldType)) ∈ wsA := wA_of 130 (by decide +kernel) (by decide +kernel)
theorem wd131 : (Jvm.Cond.methodLink "java/lang/RuntimeException" (7 : Nat) ({ cls := "java/lang/Exception", name := "<init>", desc := "(Ljava/lang/String;)V" } : Jvm.MethodName)) ∈ wsA := wA_of 131 (by decide +kernel) (by decide +kernel)
theorem wd132 : (Jvm.Cond.instanceMethod ({ cls := "java/lang/Exception", name := "<init>", desc := "(Ljava/lang/String;)V" } : Jvm.MethodName)) ∈ wsA := wA_of 132 (by decide +kernel) (by decide +kernel)
theorem wd133 : (Jvm.Cond.code ({ cls := "java/lang/Exception", name := "<init>", desc := "(Ljava/lang/String;)V" } : Jvm.MethodName) prog_8_method_2_code (2 : Nat) (Option.none : Option Jvm.ClassFile.FieldType)) ∈ wsA := wA_of 133 (by decide +kernel) (by decide +kernel)
theorem wd134 : (Jvm.Cond.methodLink "java/lang/Exception" (7 : Nat) ({ cls := "java/lang/Throwable", name := "<init>", desc := "(Ljava/lang/String;)V" } : Jvm.MethodName)) ∈ wsA := wA_of 134 (by decide +kernel) (by decide +kernel)
theorem wd135 : (Jvm.Cond.instanceMethod ({ cls := "java/lang/Throwable", name := "<init>", desc := "(Ljava/lang/String;)V" } : Jvm.MethodName)) ∈ wsA := wA_of 135 (by decide +kernel) (by decide +kernel)
theorem wd136 : (Jvm.Cond.code ({ cls := "java/lang/Throwable", name := "<init>", desc := "(Ljava/lang/String;)V" } : Jvm.MethodName) prog_16_method_2_code (2 : Nat) (Option.none : Option Jvm.ClassFile.FieldType)) ∈ wsA := wA_of 136 (by decide +kernel) (by decide +kernel)
theorem wd137 : (Jvm.Cond.fieldLink "java/lang/Throwable" (198 : Nat) "java/lang/Throwable" "backtrace" "Ljava/lang/Object;") ∈ wsA := wA_of 137 (by decide +kernel) (by decide +kernel)
theorem wd138 : (Jvm.Cond.fieldLink "java/lang/Throwable" (31 : Nat) "java/lang/Throwable" "detailMessage" "Ljava/lang/String;") ∈ wsA := wA_of 138 (by decide +kernel) (by decide +kernel)
theorem wd139 : (Jvm.Cond.fieldLink "java/lang/Throwable" (7 : Nat) "java/lang/Throwable" "cause" "Ljava/lang/Throwable;") ∈ wsA := wA_of 139 (by decide +kernel) (by decide +kernel)
theorem wd140 : (Jvm.Cond.fieldLink "java/lang/Throwable" (17 : Nat) "java/lang/Throwable" "stackTrace" "[Ljava/lang/StackTraceElement;") ∈ wsA := wA_of 140 (by decide +kernel) (by decide +kernel)
theorem wd141 : (Jvm.Cond.fieldLink "java/lang/Throwable" (24 : Nat) "java/lang/Throwable" "suppressedExceptions" "Ljava/util/List;") ∈ wsA := wA_of 141 (by decide +kernel) (by decide +kernel)
theorem wd146 : (Jvm.Cond.lays "java/lang/IndexOutOfBoundsException" "java/lang/Throwable" "depth" "I") ∈ wsA := wA_of 146 (by decide +kernel) (by decide +kernel)
theorem wd150 : (Jvm.Cond.arrayClass Jvm.ClassFile.FieldType.byte) ∈ wsA := wA_of 150 (by decide +kernel) (by decide +kernel)
theorem wd151 : (Jvm.Cond.methodLinkNest "SignMasons" (97 : Nat) ({ cls := "SignMasons$Places", name := "unite", desc := "(II)V" } : Jvm.MethodName) "SignMasons") ∈ nwA := nA_of 151 (by decide +kernel) (by decide +kernel)
theorem wd153 : (Jvm.Cond.instanceMethod ({ cls := "SignMasons$Places", name := "unite", desc := "(II)V" } : Jvm.MethodName)) ∈ wsA := wA_of 153 (by decide +kernel) (by decide +kernel)
theorem wd154 : (Jvm.Cond.code ({ cls := "SignMasons$Places", name := "unite", desc := "(II)V" } : Jvm.MethodName) prog_4_method_2_code (6 : Nat) (Option.none : Option Jvm.ClassFile.FieldType)) ∈ wsA := wA_of 154 (by decide +kernel) (by decide +kernel)
theorem wd155 : (Jvm.Cond.methodLink "SignMasonsLaw" (107 : Nat) ({ cls := "SignMasons", name := "groups", desc := "()I" } : Jvm.MethodName)) ∈ wsA := wA_of 155 (by decide +kernel) (by decide +kernel)
theorem wd156 : (Jvm.Cond.instanceMethod ({ cls := "SignMasons", name := "groups", desc := "()I" } : Jvm.MethodName)) ∈ wsA := wA_of 156 (by decide +kernel) (by decide +kernel)
theorem wd157 : (Jvm.Cond.selects "SignMasons" ({ cls := "SignMasons", name := "groups", desc := "()I" } : Jvm.MethodName) ({ cls := "SignMasons", name := "groups", desc := "()I" } : Jvm.MethodName)) ∈ wsA := wA_of 157 (by decide +kernel) (by decide +kernel)
theorem wd158 : (Jvm.Cond.code ({ cls := "SignMasons", name := "groups", desc := "()I" } : Jvm.MethodName) prog_1_method_8_code (1 : Nat) (Option.some Jvm.ClassFile.FieldType.int)) ∈ wsA := wA_of 158 (by decide +kernel) (by decide +kernel)
theorem wd159 : (Jvm.Cond.methodLink "SignMasonsLaw" (132 : Nat) ({ cls := "SignMasons", name := "areJoined", desc := "(II)Z" } : Jvm.MethodName)) ∈ wsA := wA_of 159 (by decide +kernel) (by decide +kernel)
theorem wd160 : (Jvm.Cond.instanceMethod ({ cls := "SignMasons", name := "areJoined", desc := "(II)Z" } : Jvm.MethodName)) ∈ wsA := wA_of 160 (by decide +kernel) (by decide +kernel)
theorem wd161 : (Jvm.Cond.selects "SignMasons" ({ cls := "SignMasons", name := "areJoined", desc := "(II)Z" } : Jvm.MethodName) ({ cls := "SignMasons", name := "areJoined", desc := "(II)Z" } : Jvm.MethodName)) ∈ wsA := wA_of 161 (by decide +kernel) (by decide +kernel)
theorem wd162 : (Jvm.Cond.code ({ cls := "SignMasons", name := "areJoined", desc := "(II)Z" } : Jvm.MethodName) prog_1_method_9_code (3 : Nat) (Option.some Jvm.ClassFile.FieldType.boolean)) ∈ wsA := wA_of 162 (by decide +kernel) (by decide +kernel)
theorem wd163 : (Jvm.Cond.methodLinkNest "SignMasons" (114 : Nat) ({ cls := "SignMasons$Places", name := "sameGroup", desc := "(II)Z" } : Jvm.MethodName) "SignMasons") ∈ nwA := nA_of 163 (by decide +kernel) (by decide +kernel)
theorem wd165 : (Jvm.Cond.instanceMethod ({ cls := "SignMasons$Places", name := "sameGroup", desc := "(II)Z" } : Jvm.MethodName)) ∈ wsA := wA_of 165 (by decide +kernel) (by decide +kernel)
theorem wd166 : (Jvm.Cond.code ({ cls := "SignMasons$Places", name := "sameGroup", desc := "(II)Z" } : Jvm.MethodName) prog_4_method_3_code (3 : Nat) (Option.some Jvm.ClassFile.FieldType.boolean)) ∈ wsA := wA_of 166 (by decide +kernel) (by decide +kernel)
theorem wd167 : (Jvm.Cond.methodLink "SignMasonsLaw" (129 : Nat) ({ cls := "SignMasons", name := "steps", desc := "(II)I" } : Jvm.MethodName)) ∈ wsA := wA_of 167 (by decide +kernel) (by decide +kernel)
theorem wd168 : (Jvm.Cond.instanceMethod ({ cls := "SignMasons", name := "steps", desc := "(II)I" } : Jvm.MethodName)) ∈ wsA := wA_of 168 (by decide +kernel) (by decide +kernel)
theorem wd169 : (Jvm.Cond.selects "SignMasons" ({ cls := "SignMasons", name := "steps", desc := "(II)I" } : Jvm.MethodName) ({ cls := "SignMasons", name := "steps", desc := "(II)I" } : Jvm.MethodName)) ∈ wsA := wA_of 169 (by decide +kernel) (by decide +kernel)
theorem wd170 : (Jvm.Cond.code ({ cls := "SignMasons", name := "steps", desc := "(II)I" } : Jvm.MethodName) prog_1_method_10_code (3 : Nat) (Option.some Jvm.ClassFile.FieldType.int)) ∈ wsA := wA_of 170 (by decide +kernel) (by decide +kernel)
theorem wd171 : (Jvm.Cond.methodLinkNest "SignMasons" (117 : Nat) ({ cls := "SignMasons$Places", name := "stepsBetween", desc := "(II)I" } : Jvm.MethodName) "SignMasons") ∈ nwA := nA_of 171 (by decide +kernel) (by decide +kernel)
theorem wd173 : (Jvm.Cond.instanceMethod ({ cls := "SignMasons$Places", name := "stepsBetween", desc := "(II)I" } : Jvm.MethodName)) ∈ wsA := wA_of 173 (by decide +kernel) (by decide +kernel)
theorem wd174 : (Jvm.Cond.code ({ cls := "SignMasons$Places", name := "stepsBetween", desc := "(II)I" } : Jvm.MethodName) prog_4_method_5_code (5 : Nat) (Option.some Jvm.ClassFile.FieldType.int)) ∈ wsA := wA_of 174 (by decide +kernel) (by decide +kernel)
theorem wd175 : (Jvm.Cond.methodLink "SignMasons$Places" (19 : Nat) ({ cls := "SignMasons$Places", name := "sameGroup", desc := "(II)Z" } : Jvm.MethodName)) ∈ wsA := wA_of 175 (by decide +kernel) (by decide +kernel)
theorem wd176 : (Jvm.Cond.methodLink "SignMasons$Places" (23 : Nat) ({ cls := "java/lang/Math", name := "abs", desc := "(I)I" } : Jvm.MethodName)) ∈ wsA := wA_of 176 (by decide +kernel) (by decide +kernel)
theorem wd177 : (Jvm.Cond.static ({ cls := "java/lang/Math", name := "abs", desc := "(I)I" } : Jvm.MethodName)) ∈ wsA := wA_of 177 (by decide +kernel) (by decide +kernel)
theorem wd178 : (Jvm.Cond.code ({ cls := "java/lang/Math", name := "abs", desc := "(I)I" } : Jvm.MethodName) prog_13_method_59_code (1 : Nat) (Option.some Jvm.ClassFile.FieldType.int)) ∈ wsA := wA_of 178 (by decide +kernel) (by decide +kernel)
theorem wd179 : (Jvm.Cond.methodLink "SignMasonsLaw" (80 : Nat) ({ cls := "SignMasons", name := "lodges", desc := "()I" } : Jvm.MethodName)) ∈ wsA := wA_of 179 (by decide +kernel) (by decide +kernel)
theorem wd180 : (Jvm.Cond.instanceMethod ({ cls := "SignMasons", name := "lodges", desc := "()I" } : Jvm.MethodName)) ∈ wsA := wA_of 180 (by decide +kernel) (by decide +kernel)
theorem wd181 : (Jvm.Cond.selects "SignMasons" ({ cls := "SignMasons", name := "lodges", desc := "()I" } : Jvm.MethodName) ({ cls := "SignMasons", name := "lodges", desc := "()I" } : Jvm.MethodName)) ∈ wsA := wA_of 181 (by decide +kernel) (by decide +kernel)
theorem wd182 : (Jvm.Cond.code ({ cls := "SignMasons", name := "lodges", desc := "()I" } : Jvm.MethodName) prog_1_method_11_code (1 : Nat) (Option.some Jvm.ClassFile.FieldType.int)) ∈ wsA := wA_of 182 (by decide +kernel) (by decide +kernel)
theorem wd183 : (Jvm.Cond.methodLink "SignMasonsLaw" (85 : Nat) ({ cls := "SignMasons", name := "signsOf", desc := "(I)I" } : Jvm.MethodName)) ∈ wsA := wA_of 183 (by decide +kernel) (by decide +kernel)
theorem wd184 : (Jvm.Cond.instanceMethod ({ cls := "SignMasons", name := "signsOf", desc := "(I)I" } : Jvm.MethodName)) ∈ wsA := wA_of 184 (by decide +kernel) (by decide +kernel)
theorem wd185 : (Jvm.Cond.selects "SignMasons" ({ cls := "SignMasons", name := "signsOf", desc := "(I)I" } : Jvm.MethodName) ({ cls := "SignMasons", name := "signsOf", desc := "(I)I" } : Jvm.MethodName)) ∈ wsA := wA_of 185 (by decide +kernel) (by decide +kernel)
theorem wd186 : (Jvm.Cond.code ({ cls := "SignMasons", name := "signsOf", desc := "(I)I" } : Jvm.MethodName) prog_1_method_12_code (2 : Nat) (Option.some Jvm.ClassFile.FieldType.int)) ∈ wsA := wA_of 186 (by decide +kernel) (by decide +kernel)
theorem wd187 : (Jvm.Cond.methodLink "SignMasons" (40 : Nat) ({ cls := "SignMasons", name := "bookOf", desc := "(I)LSignMasons$Book;" } : Jvm.MethodName)) ∈ wsA := wA_of 187 (by decide +kernel) (by decide +kernel)
theorem wd189 : (Jvm.Cond.instanceMethod ({ cls := "SignMasons", name := "bookOf", desc := "(I)LSignMasons$Book;" } : Jvm.MethodName)) ∈ wsA := wA_of 189 (by decide +kernel) (by decide +kernel)
theorem wd190 : (Jvm.Cond.code ({ cls := "SignMasons", name := "bookOf", desc := "(I)LSignMasons$Book;" } : Jvm.MethodName) prog_1_method_38_code (2 : Nat) (Option.some (Jvm.ClassFile.FieldType.object "SignMasons$Book"))) ∈ wsA := wA_of 190 (by decide +kernel) (by decide +kernel)
theorem wd192 : (Jvm.Cond.methodLink "SignMasonsLaw" (101 : Nat) ({ cls := "SignMasons", name := "thumbOf", desc := "(II)I" } : Jvm.MethodName)) ∈ wsA := wA_of 192 (by decide +kernel) (by decide +kernel)
theorem wd193 : (Jvm.Cond.instanceMethod ({ cls := "SignMasons", name := "thumbOf", desc := "(II)I" } : Jvm.MethodName)) ∈ wsA := wA_of 193 (by decide +kernel) (by decide +kernel)
theorem wd194 : (Jvm.Cond.selects "SignMasons" ({ cls := "SignMasons", name := "thumbOf", desc := "(II)I" } : Jvm.MethodName) ({ cls := "SignMasons", name := "thumbOf", desc := "(II)I" } : Jvm.MethodName)) ∈ wsA := wA_of 194 (by decide +kernel) (by decide +kernel)
theorem wd195 : (Jvm.Cond.code ({ cls := "SignMasons", name := "thumbOf", desc := "(II)I" } : Jvm.MethodName) prog_1_method_14_code (3 : Nat) (Option.some Jvm.ClassFile.FieldType.int)) ∈ wsA := wA_of 195 (by decide +kernel) (by decide +kernel)
theorem wd196 : (Jvm.Cond.methodLink "SignMasons" (123 : Nat) ({ cls := "SignMasons", name := "lookOf", desc := "(II)I" } : Jvm.MethodName)) ∈ wsA := wA_of 196 (by decide +kernel) (by decide +kernel)
theorem wd198 : (Jvm.Cond.instanceMethod ({ cls := "SignMasons", name := "lookOf", desc := "(II)I" } : Jvm.MethodName)) ∈ wsA := wA_of 198 (by decide +kernel) (by decide +kernel)
theorem wd199 : (Jvm.Cond.code ({ cls := "SignMasons", name := "lookOf", desc := "(II)I" } : Jvm.MethodName) prog_1_method_39_code (4 : Nat) (Option.some Jvm.ClassFile.FieldType.int)) ∈ wsA := wA_of 199 (by decide +kernel) (by decide +kernel)
theorem wd200 : (Jvm.Cond.methodLink "SignMasons" (73 : Nat) ({ cls := "SignMasons", name := "checkSign", desc := "(LSignMasons$Book;I)V" } : Jvm.MethodName)) ∈ wsA := wA_of 200 (by decide +kernel) (by decide +kernel)
theorem wd201 : (Jvm.Cond.static ({ cls := "SignMasons", name := "checkSign", desc := "(LSignMasons$Book;I)V" } : Jvm.MethodName)) ∈ wsA := wA_of 201 (by decide +kernel) (by decide +kernel)
theorem wd202 : (Jvm.Cond.code ({ cls := "SignMasons", name := "checkSign", desc := "(LSignMasons$Book;I)V" } : Jvm.MethodName) prog_1_method_40_code (2 : Nat) (Option.none : Option Jvm.ClassFile.FieldType)) ∈ wsA := wA_of 202 (by decide +kernel) (by decide +kernel)
theorem wd204 : (Jvm.Cond.methodLinkNest "SignMasons" (87 : Nat) ({ cls := "SignMasons$Look", name := "thumb", desc := "(I)I" } : Jvm.MethodName) "SignMasons") ∈ nwA := nA_of 204 (by decide +kernel) (by decide +kernel)
theorem wd205 : (Jvm.Cond.static ({ cls := "SignMasons$Look", name := "thumb", desc := "(I)I" } : Jvm.MethodName)) ∈ wsA := wA_of 205 (by decide +kernel) (by decide +kernel)
theorem wd206 : (Jvm.Cond.code ({ cls := "SignMasons$Look", name := "thumb", desc := "(I)I" } : Jvm.MethodName) prog_3_method_4_code (1 : Nat) (Option.some Jvm.ClassFile.FieldType.int)) ∈ wsA := wA_of 206 (by decide +kernel) (by decide +kernel)
theorem wd207 : (Jvm.Cond.methodLink "SignMasonsLaw" (89 : Nat) ({ cls := "SignMasons", name := "meaningOf", desc := "(II)I" } : Jvm.MethodName)) ∈ wsA := wA_of 207 (by decide +kernel) (by decide +kernel)
theorem wd208 : (Jvm.Cond.instanceMethod ({ cls := "SignMasons", name := "meaningOf", desc := "(II)I" } : Jvm.MethodName)) ∈ wsA := wA_of 208 (by decide +kernel) (by decide +kernel)
theorem wd209 : (Jvm.Cond.selects "SignMasons" ({ cls := "SignMasons", name := "meaningOf", desc := "(II)I" } : Jvm.MethodName) ({ cls := "SignMasons", name := "meaningOf", desc := "(II)I" } : Jvm.MethodName)) ∈ wsA := wA_of 209 (by decide +kernel) (by decide +kernel)
theorem wd210 : (Jvm.Cond.code ({ cls := "SignMasons", name := "meaningOf", desc := "(II)I" } : Jvm.MethodName) prog_1_method_16_code (4 : Nat) (Option.some Jvm.ClassFile.FieldType.int)) ∈ wsA := wA_of 210 (by decide +kernel) (by decide +kernel)
theorem wd211 : (Jvm.Cond.methodLink "SignMasonsLaw" (92 : Nat) ({ cls := "SignMasons", name := "signFor", desc := "(II)I" } : Jvm.MethodName)) ∈ wsA := wA_of 211 (by decide +kernel) (by decide +kernel)
theorem wd212 : (Jvm.Cond.instanceMethod ({ cls := "SignMasons", name := "signFor", desc := "(II)I" } : Jvm.MethodName)) ∈ wsA := wA_of 212 (by decide +kernel) (by decide +kernel)
theorem wd213 : (Jvm.Cond.selects "SignMasons" ({ cls := "SignMasons", name := "signFor", desc := "(II)I" } : Jvm.MethodName) ({ cls := "SignMasons", name := "signFor", desc := "(II)I" } : Jvm.MethodName)) ∈ wsA := wA_of 213 (by decide +kernel) (by decide +kernel)
theorem wd214 : (Jvm.Cond.code ({ cls := "SignMasons", name := "signFor", desc := "(II)I" } : Jvm.MethodName) prog_1_method_17_code (4 : Nat) (Option.some Jvm.ClassFile.FieldType.int)) ∈ wsA := wA_of 214 (by decide +kernel) (by decide +kernel)
theorem wd216 : (Jvm.Cond.methodLinkNest "SignMasons" (135 : Nat) ({ cls := "SignMasons$Book", name := "find", desc := "(I)I" } : Jvm.MethodName) "SignMasons") ∈ nwA := nA_of 216 (by decide +kernel) (by decide +kernel)
theorem wd218 : (Jvm.Cond.instanceMethod ({ cls := "SignMasons$Book", name := "find", desc := "(I)I" } : Jvm.MethodName)) ∈ wsA := wA_of 218 (by decide +kernel) (by decide +kernel)
theorem wd219 : (Jvm.Cond.code ({ cls := "SignMasons$Book", name := "find", desc := "(I)I" } : Jvm.MethodName) prog_2_method_6_code (3 : Nat) (Option.some Jvm.ClassFile.FieldType.int)) ∈ wsA := wA_of 219 (by decide +kernel) (by decide +kernel)
theorem wd220 : (Jvm.Cond.methodLink "SignMasonsLaw" (93 : Nat) ({ cls := "SignMasons", name := "apart", desc := "(III)I" } : Jvm.MethodName)) ∈ wsA := wA_of 220 (by decide +kernel) (by decide +kernel)
theorem wd221 : (Jvm.Cond.instanceMethod ({ cls := "SignMasons", name := "apart", desc := "(III)I" } : Jvm.MethodName)) ∈ wsA := wA_of 221 (by decide +kernel) (by decide +kernel)
theorem wd222 : (Jvm.Cond.selects "SignMasons" ({ cls := "SignMasons", name := "apart", desc := "(III)I" } : Jvm.MethodName) ({ cls := "SignMasons", name := "apart", desc := "(III)I" } : Jvm.MethodName)) ∈ wsA := wA_of 222 (by decide +kernel) (by decide +kernel)
theorem wd223 : (Jvm.Cond.code ({ cls := "SignMasons", name := "apart", desc := "(III)I" } : Jvm.MethodName) prog_1_method_18_code (5 : Nat) (Option.some Jvm.ClassFile.FieldType.int)) ∈ wsA := wA_of 223 (by decide +kernel) (by decide +kernel)
theorem wd224 : (Jvm.Cond.methodLinkNest "SignMasons" (138 : Nat) ({ cls := "SignMasons$Places", name := "distance", desc := "(II)I" } : Jvm.MethodName) "SignMasons") ∈ nwA := nA_of 224 (by decide +kernel) (by decide +kernel)
theorem wd226 : (Jvm.Cond.instanceMethod ({ cls := "SignMasons$Places", name := "distance", desc := "(II)I" } : Jvm.MethodName)) ∈ wsA := wA_of 226 (by decide +kernel) (by decide +kernel)
theorem wd227 : (Jvm.Cond.code ({ cls := "SignMasons$Places", name := "distance", desc := "(II)I" } : Jvm.MethodName) prog_4_method_8_code (6 : Nat) (Option.some Jvm.ClassFile.FieldType.int)) ∈ wsA := wA_of 227 (by decide +kernel) (by decide +kernel)
theorem wd228 : (Jvm.Cond.methodLinkNest "SignMasons$Places" (41 : Nat) ({ cls := "SignMasons$Look", name := "shape", desc := "(I)I" } : Jvm.MethodName) "SignMasons") ∈ nwA := nA_of 228 (by decide +kernel) (by decide +kernel)
theorem wd229 : (Jvm.Cond.static ({ cls := "SignMasons$Look", name := "shape", desc := "(I)I" } : Jvm.MethodName)) ∈ wsA := wA_of 229 (by decide +kernel) (by decide +kernel)
theorem wd230 : (Jvm.Cond.code ({ cls := "SignMasons$Look", name := "shape", desc := "(I)I" } : Jvm.MethodName) prog_3_method_3_code (1 : Nat) (Option.some Jvm.ClassFile.FieldType.int)) ∈ wsA := wA_of 230 (by decide +kernel) (by decide +kernel)
theorem wd231 : (Jvm.Cond.methodLink "SignMasons$Places" (44 : Nat) ({ cls := "java/lang/Integer", name := "bitCount", desc := "(I)I" } : Jvm.MethodName)) ∈ wsA := wA_of 231 (by decide +kernel) (by decide +kernel)
theorem wd232 : (Jvm.Cond.static ({ cls := "java/lang/Integer", name := "bitCount", desc := "(I)I" } : Jvm.MethodName)) ∈ wsA := wA_of 232 (by decide +kernel) (by decide +kernel)
theorem wd233 : (Jvm.Cond.code ({ cls := "java/lang/Integer", name := "bitCount", desc := "(I)I" } : Jvm.MethodName) prog_12_method_49_code (1 : Nat) (Option.some Jvm.ClassFile.FieldType.int)) ∈ wsA := wA_of 233 (by decide +kernel) (by decide +kernel)
theorem wd234 : (Jvm.Cond.constant "java/lang/Integer" (265 : Nat) (1431655765 : Int32)) ∈ wsA := wA_of 234 (by decide +kernel) (by decide +kernel)
theorem wd235 : (Jvm.Cond.constant "java/lang/Integer" (266 : Nat) (858993459 : Int32)) ∈ wsA := wA_of 235 (by decide +kernel) (by decide +kernel)
theorem wd236 : (Jvm.Cond.constant "java/lang/Integer" (267 : Nat) (252645135 : Int32)) ∈ wsA := wA_of 236 (by decide +kernel) (by decide +kernel)
theorem wd237 : (Jvm.Cond.methodLinkNest "SignMasons$Places" (49 : Nat) ({ cls := "SignMasons$Look", name := "thumb", desc := "(I)I" } : Jvm.MethodName) "SignMasons") ∈ nwA := nA_of 237 (by decide +kernel) (by decide +kernel)
theorem wd238 : (Jvm.Cond.methodLinkNest "SignMasons$Places" (52 : Nat) ({ cls := "SignMasons$Look", name := "movement", desc := "(I)I" } : Jvm.MethodName) "SignMasons") ∈ nwA := nA_of 238 (by decide +kernel) (by decide +kernel)
theorem wd239 : (Jvm.Cond.static ({ cls := "SignMasons$Look", name := "movement", desc := "(I)I" } : Jvm.MethodName)) ∈ wsA := wA_of 239 (by decide +kernel) (by decide +kernel)
theorem wd240 : (Jvm.Cond.code ({ cls := "SignMasons$Look", name := "movement", desc := "(I)I" } : Jvm.MethodName) prog_3_method_5_code (1 : Nat) (Option.some Jvm.ClassFile.FieldType.int)) ∈ wsA := wA_of 240 (by decide +kernel) (by decide +kernel)
theorem wd241 : (Jvm.Cond.methodLinkNest "SignMasons$Places" (34 : Nat) ({ cls := "SignMasons$Look", name := "place", desc := "(I)I" } : Jvm.MethodName) "SignMasons") ∈ nwA := nA_of 241 (by decide +kernel) (by decide +kernel)
theorem wd242 : (Jvm.Cond.static ({ cls := "SignMasons$Look", name := "place", desc := "(I)I" } : Jvm.MethodName)) ∈ wsA := wA_of 242 (by decide +kernel) (by decide +kernel)
theorem wd243 : (Jvm.Cond.code ({ cls := "SignMasons$Look", name := "place", desc := "(I)I" } : Jvm.MethodName) prog_3_method_6_code (1 : Nat) (Option.some Jvm.ClassFile.FieldType.int)) ∈ wsA := wA_of 243 (by decide +kernel) (by decide +kernel)
theorem wd244 : (Jvm.Cond.methodLink "SignMasons$Places" (55 : Nat) ({ cls := "SignMasons$Places", name := "stepsBetween", desc := "(II)I" } : Jvm.MethodName)) ∈ wsA := wA_of 244 (by decide +kernel) (by decide +kernel)
theorem wd245 : (Jvm.Cond.methodLink "SignMasonsLaw" (108 : Nat) ({ cls := "SignMasons", name := "alikePairs", desc := "(I)I" } : Jvm.MethodName)) ∈ wsA := wA_of 245 (by decide +kernel) (by decide +kernel)
theorem wd246 : (Jvm.Cond.instanceMethod ({ cls := "SignMasons", name := "alikePairs", desc := "(I)I" } : Jvm.MethodName)) ∈ wsA := wA_of 246 (by decide +kernel) (by decide +kernel)
theorem wd247 : (Jvm.Cond.selects "SignMasons" ({ cls := "SignMasons", name := "alikePairs", desc := "(I)I" } : Jvm.MethodName) ({ cls := "SignMasons", name := "alikePairs", desc := "(I)I" } : Jvm.MethodName)) ∈ wsA := wA_of 247 (by decide +kernel) (by decide +kernel)
theorem wd248 : (Jvm.Cond.code ({ cls := "SignMasons", name := "alikePairs", desc := "(I)I" } : Jvm.MethodName) prog_1_method_19_code (2 : Nat) (Option.some Jvm.ClassFile.FieldType.int)) ∈ wsA := wA_of 248 (by decide +kernel) (by decide +kernel)
theorem wd249 : (Jvm.Cond.methodLinkNest "SignMasons" (141 : Nat) ({ cls := "SignMasons$Book", name := "countAlike", desc := "()I" } : Jvm.MethodName) "SignMasons") ∈ nwA := nA_of 249 (by decide +kernel) (by decide +kernel)
theorem wd251 : (Jvm.Cond.instanceMethod ({ cls := "SignMasons$Book", name := "countAlike", desc := "()I" } : Jvm.MethodName)) ∈ wsA := wA_of 251 (by decide +kernel) (by decide +kernel)
theorem wd252 : (Jvm.Cond.code ({ cls := "SignMasons$Book", name := "countAlike", desc := "()I" } : Jvm.MethodName) prog_2_method_9_code (4 : Nat) (Option.some Jvm.ClassFile.FieldType.int)) ∈ wsA := wA_of 252 (by decide +kernel) (by decide +kernel)
theorem wd253 : (Jvm.Cond.methodLinkNest "SignMasons$Book" (36 : Nat) ({ cls := "SignMasons$Places", name := "alike", desc := "(II)Z" } : Jvm.MethodName) "SignMasons") ∈ nwA := nA_of 253 (by decide +kernel) (by decide +kernel)
theorem wd255 : (Jvm.Cond.instanceMethod ({ cls := "SignMasons$Places", name := "alike", desc := "(II)Z" } : Jvm.MethodName)) ∈ wsA := wA_of 255 (by decide +kernel) (by decide +kernel)
theorem wd256 : (Jvm.Cond.code ({ cls := "SignMasons$Places", name := "alike", desc := "(II)Z" } : Jvm.MethodName) prog_4_method_6_code (3 : Nat) (Option.some Jvm.ClassFile.FieldType.boolean)) ∈ wsA := wA_of 256 (by decide +kernel) (by decide +kernel)
theorem wd257 : (Jvm.Cond.methodLinkNest "SignMasons$Places" (29 : Nat) ({ cls := "SignMasons$Look", name := "sameButForPlace", desc := "(II)Z" } : Jvm.MethodName) "SignMasons") ∈ nwA := nA_of 257 (by decide +kernel) (by decide +kernel)
theorem wd258 : (Jvm.Cond.static ({ cls := "SignMasons$Look", name := "sameButForPlace", desc := "(II)Z" } : Jvm.MethodName)) ∈ wsA := wA_of 258 (by decide +kernel) (by decide +kernel)
theorem wd259 : (Jvm.Cond.code ({ cls := "SignMasons$Look", name := "sameButForPlace", desc := "(II)Z" } : Jvm.MethodName) prog_3_method_8_code (2 : Nat) (Option.some Jvm.ClassFile.FieldType.boolean)) ∈ wsA := wA_of 259 (by decide +kernel) (by decide +kernel)
theorem wd260 : (Jvm.Cond.methodLink "SignMasonsLaw" (111 : Nat) ({ cls := "SignMasons", name := "thumbPairs", desc := "(I)I" } : Jvm.MethodName)) ∈ wsA := wA_of 260 (by decide +kernel) (by decide +kernel)
theorem wd261 : (Jvm.Cond.instanceMethod ({ cls := "SignMasons", name := "thumbPairs", desc := "(I)I" } : Jvm.MethodName)) ∈ wsA := wA_of 261 (by decide +kernel) (by decide +kernel)
theorem wd262 : (Jvm.Cond.selects "SignMasons" ({ cls := "SignMasons", name := "thumbPairs", desc := "(I)I" } : Jvm.MethodName) ({ cls := "SignMasons", name := "thumbPairs", desc := "(I)I" } : Jvm.MethodName)) ∈ wsA := wA_of 262 (by decide +kernel) (by decide +kernel)
theorem wd263 : (Jvm.Cond.code ({ cls := "SignMasons", name := "thumbPairs", desc := "(I)I" } : Jvm.MethodName) prog_1_method_20_code (2 : Nat) (Option.some Jvm.ClassFile.FieldType.int)) ∈ wsA := wA_of 263 (by decide +kernel) (by decide +kernel)
theorem wd264 : (Jvm.Cond.methodLinkNest "SignMasons" (145 : Nat) ({ cls := "SignMasons$Book", name := "countThumbApart", desc := "()I" } : Jvm.MethodName) "SignMasons") ∈ nwA := nA_of 264 (by decide +kernel) (by decide +kernel)
theorem wd266 : (Jvm.Cond.instanceMethod ({ cls := "SignMasons$Book", name := "countThumbApart", desc := "()I" } : Jvm.MethodName)) ∈ wsA := wA_of 266 (by decide +kernel) (by decide +kernel)
theorem wd267 : (Jvm.Cond.code ({ cls := "SignMasons$Book", name := "countThumbApart", desc := "()I" } : Jvm.MethodName) prog_2_method_11_code (4 : Nat) (Option.some Jvm.ClassFile.FieldType.int)) ∈ wsA := wA_of 267 (by decide +kernel) (by decide +kernel)
theorem wd268 : (Jvm.Cond.methodLinkNest "SignMasons$Book" (42 : Nat) ({ cls := "SignMasons$Look", name := "thumb", desc := "(I)I" } : Jvm.MethodName) "SignMasons") ∈ nwA := nA_of 268 (by decide +kernel) (by decide +kernel)
theorem wd269 : (Jvm.Cond.methodLinkNest "SignMasons$Book" (59 : Nat) ({ cls := "SignMasons$Places", name := "distance", desc := "(II)I" } : Jvm.MethodName) "SignMasons") ∈ nwA := nA_of 269 (by decide +kernel) (by decide +kernel)
theorem wd270 : (Jvm.Cond.methodLink "SignMasonsLaw" (114 : Nat) ({ cls := "SignMasons", name := "closest", desc := "(I)I" } : Jvm.MethodName)) ∈ wsA := wA_of 270 (by decide +kernel) (by decide +kernel)
theorem wd271 : (Jvm.Cond.instanceMethod ({ cls := "SignMasons", name := "closest", desc := "(I)I" } : Jvm.MethodName)) ∈ wsA := wA_of 271 (by decide +kernel) (by decide +kernel)
theorem wd272 : (Jvm.Cond.selects "SignMasons" ({ cls := "SignMasons", name := "closest", desc := "(I)I" } : Jvm.MethodName) ({ cls := "SignMasons", name := "closest", desc := "(I)I" } : Jvm.MethodName)) ∈ wsA := wA_of 272 (by decide +kernel) (by decide +kernel)
theorem wd273 : (Jvm.Cond.code ({ cls := "SignMasons", name := "closest", desc := "(I)I" } : Jvm.MethodName) prog_1_method_21_code (2 : Nat) (Option.some Jvm.ClassFile.FieldType.int)) ∈ wsA := wA_of 273 (by decide +kernel) (by decide +kernel)
theorem wd274 : (Jvm.Cond.methodLinkNest "SignMasons" (148 : Nat) ({ cls := "SignMasons$Book", name := "fewestApart", desc := "()I" } : Jvm.MethodName) "SignMasons") ∈ nwA := nA_of 274 (by decide +kernel) (by decide +kernel)
theorem wd276 : (Jvm.Cond.instanceMethod ({ cls := "SignMasons$Book", name := "fewestApart", desc := "()I" } : Jvm.MethodName)) ∈ wsA := wA_of 276 (by decide +kernel) (by decide +kernel)
theorem wd277 : (Jvm.Cond.code ({ cls := "SignMasons$Book", name := "fewestApart", desc := "()I" } : Jvm.MethodName) prog_2_method_13_code (3 : Nat) (Option.some Jvm.ClassFile.FieldType.int)) ∈ wsA := wA_of 277 (by decide +kernel) (by decide +kernel)
theorem wd278 : (Jvm.Cond.methodLink "SignMasons$Book" (67 : Nat) ({ cls := "SignMasons$Book", name := "nearestBut", desc := "(II)I" } : Jvm.MethodName)) ∈ wsA := wA_of 278 (by decide +kernel) (by decide +kernel)
theorem wd280 : (Jvm.Cond.instanceMethod ({ cls := "SignMasons$Book", name := "nearestBut", desc := "(II)I" } : Jvm.MethodName)) ∈ wsA := wA_of 280 (by decide +kernel) (by decide +kernel)
theorem wd281 : (Jvm.Cond.code ({ cls := "SignMasons$Book", name := "nearestBut", desc := "(II)I" } : Jvm.MethodName) prog_2_method_12_code (5 : Nat) (Option.some Jvm.ClassFile.FieldType.int)) ∈ wsA := wA_of 281 (by decide +kernel) (by decide +kernel)
theorem wd282 : (Jvm.Cond.methodLink "SignMasons$Book" (62 : Nat) ({ cls := "java/lang/Math", name := "min", desc := "(II)I" } : Jvm.MethodName)) ∈ wsA := wA_of 282 (by decide +kernel) (by decide +kernel)
theorem wd283 : (Jvm.Cond.static ({ cls := "java/lang/Math", name := "min", desc := "(II)I" } : Jvm.MethodName)) ∈ wsA := wA_of 283 (by decide +kernel) (by decide +kernel)
theorem wd284 : (Jvm.Cond.code ({ cls := "java/lang/Math", name := "min", desc := "(II)I" } : Jvm.MethodName) prog_13_method_69_code (2 : Nat) (Option.some Jvm.ClassFile.FieldType.int)) ∈ wsA := wA_of 284 (by decide +kernel) (by decide +kernel)
theorem wd285 : (Jvm.Cond.methodLink "SignMasonsLaw" (117 : Nat) ({ cls := "SignMasons", name := "mostMistaken", desc := "(I)I" } : Jvm.MethodName)) ∈ wsA := wA_of 285 (by decide +kernel) (by decide +kernel)
theorem wd286 : (Jvm.Cond.instanceMethod ({ cls := "SignMasons", name := "mostMistaken", desc := "(I)I" } : Jvm.MethodName)) ∈ wsA := wA_of 286 (by decide +kernel) (by decide +kernel)
theorem wd287 : (Jvm.Cond.selects "SignMasons" ({ cls := "SignMasons", name := "mostMistaken", desc := "(I)I" } : Jvm.MethodName) ({ cls := "SignMasons", name := "mostMistaken", desc := "(I)I" } : Jvm.MethodName)) ∈ wsA := wA_of 287 (by decide +kernel) (by decide +kernel)
theorem wd288 : (Jvm.Cond.code ({ cls := "SignMasons", name := "mostMistaken", desc := "(I)I" } : Jvm.MethodName) prog_1_method_22_code (2 : Nat) (Option.some Jvm.ClassFile.FieldType.int)) ∈ wsA := wA_of 288 (by decide +kernel) (by decide +kernel)
theorem wd289 : (Jvm.Cond.methodLinkNest "SignMasons" (151 : Nat) ({ cls := "SignMasons$Book", name := "signNearMost", desc := "()I" } : Jvm.MethodName) "SignMasons") ∈ nwA := nA_of 289 (by decide +kernel) (by decide +kernel)
theorem wd291 : (Jvm.Cond.instanceMethod ({ cls := "SignMasons$Book", name := "signNearMost", desc := "()I" } : Jvm.MethodName)) ∈ wsA := wA_of 291 (by decide +kernel) (by decide +kernel)
theorem wd292 : (Jvm.Cond.code ({ cls := "SignMasons$Book", name := "signNearMost", desc := "()I" } : Jvm.MethodName) prog_2_method_15_code (5 : Nat) (Option.some Jvm.ClassFile.FieldType.int)) ∈ wsA := wA_of 292 (by decide +kernel) (by decide +kernel)
theorem wd293 : (Jvm.Cond.methodLink "SignMasons$Book" (70 : Nat) ({ cls := "SignMasons$Book", name := "countNear", desc := "(I)I" } : Jvm.MethodName)) ∈ wsA := wA_of 293 (by decide +kernel) (by decide +kernel)
theorem wd295 : (Jvm.Cond.instanceMethod ({ cls := "SignMasons$Book", name := "countNear", desc := "(I)I" } : Jvm.MethodName)) ∈ wsA := wA_of 295 (by decide +kernel) (by decide +kernel)
theorem wd296 : (Jvm.Cond.code ({ cls := "SignMasons$Book", name := "countNear", desc := "(I)I" } : Jvm.MethodName) prog_2_method_14_code (4 : Nat) (Option.some Jvm.ClassFile.FieldType.int)) ∈ wsA := wA_of 296 (by decide +kernel) (by decide +kernel)
theorem wd297 : (Jvm.Cond.methodLink "SignMasonsLaw" (104 : Nat) ({ cls := "SignMasons", name := "read", desc := "(III)I" } : Jvm.MethodName)) ∈ wsA := wA_of 297 (by decide +kernel) (by decide +kernel)
theorem wd298 : (Jvm.Cond.instanceMethod ({ cls := "SignMasons", name := "read", desc := "(III)I" } : Jvm.MethodName)) ∈ wsA := wA_of 298 (by decide +kernel) (by decide +kernel)
theorem wd299 : (Jvm.Cond.selects "SignMasons" ({ cls := "SignMasons", name := "read", desc := "(III)I" } : Jvm.MethodName) ({ cls := "SignMasons", name := "read", desc := "(III)I" } : Jvm.MethodName)) ∈ wsA := wA_of 299 (by decide +kernel) (by decide +kernel)
theorem wd300 : (Jvm.Cond.code ({ cls := "SignMasons", name := "read", desc := "(III)I" } : Jvm.MethodName) prog_1_method_23_code (5 : Nat) (Option.some Jvm.ClassFile.FieldType.int)) ∈ wsA := wA_of 300 (by decide +kernel) (by decide +kernel)
theorem wd301 : (Jvm.Cond.methodLinkNest "SignMasons" (154 : Nat) ({ cls := "SignMasons$Book", name := "meaningRead", desc := "(I)I" } : Jvm.MethodName) "SignMasons") ∈ nwA := nA_of 301 (by decide +kernel) (by decide +kernel)
theorem wd303 : (Jvm.Cond.instanceMethod ({ cls := "SignMasons$Book", name := "meaningRead", desc := "(I)I" } : Jvm.MethodName)) ∈ wsA := wA_of 303 (by decide +kernel) (by decide +kernel)
theorem wd304 : (Jvm.Cond.code ({ cls := "SignMasons$Book", name := "meaningRead", desc := "(I)I" } : Jvm.MethodName) prog_2_method_17_code (6 : Nat) (Option.some Jvm.ClassFile.FieldType.int)) ∈ wsA := wA_of 304 (by decide +kernel) (by decide +kernel)
theorem wd305 : (Jvm.Cond.methodLink "SignMasonsLaw" (120 : Nat) ({ cls := "SignMasons", name := "understood", desc := "(II)I" } : Jvm.MethodName)) ∈ wsA := wA_of 305 (by decide +kernel) (by decide +kernel)
theorem wd306 : (Jvm.Cond.instanceMethod ({ cls := "SignMasons", name := "understood", desc := "(II)I" } : Jvm.MethodName)) ∈ wsA := wA_of 306 (by decide +kernel) (by decide +kernel)
theorem wd307 : (Jvm.Cond.selects "SignMasons" ({ cls := "SignMasons", name := "understood", desc := "(II)I" } : Jvm.MethodName) ({ cls := "SignMasons", name := "understood", desc := "(II)I" } : Jvm.MethodName)) ∈ wsA := wA_of 307 (by decide +kernel) (by decide +kernel)
theorem wd308 : (Jvm.Cond.code ({ cls := "SignMasons", name := "understood", desc := "(II)I" } : Jvm.MethodName) prog_1_method_25_code (4 : Nat) (Option.some Jvm.ClassFile.FieldType.int)) ∈ wsA := wA_of 308 (by decide +kernel) (by decide +kernel)
theorem wd309 : (Jvm.Cond.methodLinkNest "SignMasons" (157 : Nat) ({ cls := "SignMasons$Book", name := "countUnderstood", desc := "(LSignMasons$Book;)I" } : Jvm.MethodName) "SignMasons") ∈ nwA := nA_of 309 (by decide +kernel) (by decide +kernel)
theorem wd311 : (Jvm.Cond.instanceMethod ({ cls := "SignMasons$Book", name := "countUnderstood", desc := "(LSignMasons$Book;)I" } : Jvm.MethodName)) ∈ wsA := wA_of 311 (by decide +kernel) (by decide +kernel)
theorem wd312 : (Jvm.Cond.code ({ cls := "SignMasons$Book", name := "countUnderstood", desc := "(LSignMasons$Book;)I" } : Jvm.MethodName) prog_2_method_18_code (4 : Nat) (Option.some Jvm.ClassFile.FieldType.int)) ∈ wsA := wA_of 312 (by decide +kernel) (by decide +kernel)
theorem wd313 : (Jvm.Cond.methodLink "SignMasons$Book" (73 : Nat) ({ cls := "SignMasons$Book", name := "meaningRead", desc := "(I)I" } : Jvm.MethodName)) ∈ wsA := wA_of 313 (by decide +kernel) (by decide +kernel)
theorem wd314 : (Jvm.Cond.methodLink "SignMasonsLaw" (126 : Nat) ({ cls := "SignMasons", name := "misread", desc := "(II)I" } : Jvm.MethodName)) ∈ wsA := wA_of 314 (by decide +kernel) (by decide +kernel)
theorem wd315 : (Jvm.Cond.instanceMethod ({ cls := "SignMasons", name := "misread", desc := "(II)I" } : Jvm.MethodName)) ∈ wsA := wA_of 315 (by decide +kernel) (by decide +kernel)
theorem wd316 : (Jvm.Cond.selects "SignMasons" ({ cls := "SignMasons", name := "misread", desc := "(II)I" } : Jvm.MethodName) ({ cls := "SignMasons", name := "misread", desc := "(II)I" } : Jvm.MethodName)) ∈ wsA := wA_of 316 (by decide +kernel) (by decide +kernel)
theorem wd317 : (Jvm.Cond.code ({ cls := "SignMasons", name := "misread", desc := "(II)I" } : Jvm.MethodName) prog_1_method_26_code (4 : Nat) (Option.some Jvm.ClassFile.FieldType.int)) ∈ wsA := wA_of 317 (by decide +kernel) (by decide +kernel)
theorem wd318 : (Jvm.Cond.methodLinkNest "SignMasons" (161 : Nat) ({ cls := "SignMasons$Book", name := "countMisread", desc := "(LSignMasons$Book;)I" } : Jvm.MethodName) "SignMasons") ∈ nwA := nA_of 318 (by decide +kernel) (by decide +kernel)
theorem wd320 : (Jvm.Cond.instanceMethod ({ cls := "SignMasons$Book", name := "countMisread", desc := "(LSignMasons$Book;)I" } : Jvm.MethodName)) ∈ wsA := wA_of 320 (by decide +kernel) (by decide +kernel)
theorem wd321 : (Jvm.Cond.code ({ cls := "SignMasons$Book", name := "countMisread", desc := "(LSignMasons$Book;)I" } : Jvm.MethodName) prog_2_method_19_code (5 : Nat) (Option.some Jvm.ClassFile.FieldType.int)) ∈ wsA := wA_of 321 (by decide +kernel) (by decide +kernel)
theorem wd322 : (Jvm.Cond.methodLink "SignMasonsLaw" (123 : Nat) ({ cls := "SignMasons", name := "common", desc := "(II)I" } : Jvm.MethodName)) ∈ wsA := wA_of 322 (by decide +kernel) (by decide +kernel)
theorem wd323 : (Jvm.Cond.instanceMethod ({ cls := "SignMasons", name := "common", desc := "(II)I" } : Jvm.MethodName)) ∈ wsA := wA_of 323 (by decide +kernel) (by decide +kernel)
theorem wd324 : (Jvm.Cond.selects "SignMasons" ({ cls := "SignMasons", name := "common", desc := "(II)I" } : Jvm.MethodName) ({ cls := "SignMasons", name := "common", desc := "(II)I" } : Jvm.MethodName)) ∈ wsA := wA_of 324 (by decide +kernel) (by decide +kernel)
theorem wd325 : (Jvm.Cond.code ({ cls := "SignMasons", name := "common", desc := "(II)I" } : Jvm.MethodName) prog_1_method_27_code (4 : Nat) (Option.some Jvm.ClassFile.FieldType.int)) ∈ wsA := wA_of 325 (by decide +kernel) (by decide +kernel)
theorem wd326 : (Jvm.Cond.methodLinkNest "SignMasons" (164 : Nat) ({ cls := "SignMasons$Book", name := "countCommon", desc := "(LSignMasons$Book;)I" } : Jvm.MethodName) "SignMasons") ∈ nwA := nA_of 326 (by decide +kernel) (by decide +kernel)
theorem wd328 : (Jvm.Cond.instanceMethod ({ cls := "SignMasons$Book", name := "countCommon", desc := "(LSignMasons$Book;)I" } : Jvm.MethodName)) ∈ wsA := wA_of 328 (by decide +kernel) (by decide +kernel)
theorem wd329 : (Jvm.Cond.code ({ cls := "SignMasons$Book", name := "countCommon", desc := "(LSignMasons$Book;)I" } : Jvm.MethodName) prog_2_method_20_code (6 : Nat) (Option.some Jvm.ClassFile.FieldType.int)) ∈ wsA := wA_of 329 (by decide +kernel) (by decide +kernel)
theorem wd330 : (Jvm.Cond.methodLink "SignMasons$Book" (32 : Nat) ({ cls := "SignMasons$Book", name := "find", desc := "(I)I" } : Jvm.MethodName)) ∈ wsA := wA_of 330 (by decide +kernel) (by decide +kernel)
theorem wd331 : (Jvm.Cond.methodLink "SignMasonsLaw" (51 : Nat) ({ cls := "SignMasonsLaw$Sim", name := "join", desc := "(II)V" } : Jvm.MethodName)) ∈ wsA := wA_of 331 (by decide +kernel) (by decide +kernel)
theorem wd332 : (Jvm.Cond.instanceMethod ({ cls := "SignMasonsLaw$Sim", name := "join", desc := "(II)V" } : Jvm.MethodName)) ∈ wsA := wA_of 332 (by decide +kernel) (by decide +kernel)
theorem wd333 : (Jvm.Cond.selects "SignMasonsLaw$Sim" ({ cls := "SignMasonsLaw$Sim", name := "join", desc := "(II)V" } : Jvm.MethodName) ({ cls := "SignMasonsLaw$Sim", name := "join", desc := "(II)V" } : Jvm.MethodName)) ∈ wsA := wA_of 333 (by decide +kernel) (by decide +kernel)
theorem wd334 : (Jvm.Cond.code ({ cls := "SignMasonsLaw$Sim", name := "join", desc := "(II)V" } : Jvm.MethodName) prog_6_method_5_code (6 : Nat) (Option.none : Option Jvm.ClassFile.FieldType)) ∈ wsA := wA_of 334 (by decide +kernel) (by decide +kernel)
theorem wd335 : (Jvm.Cond.classLink "SignMasonsLaw$Sim" (15 : Nat) "[[Z") ∈ wsA := wA_of 335 (by decide +kernel) (by decide +kernel)
theorem wd337 : (Jvm.Cond.arrayClass Jvm.ClassFile.FieldType.boolean) ∈ wsA := wA_of 337 (by decide +kernel) (by decide +kernel)
theorem wd338 : (Jvm.Cond.methodLink "SignMasonsLaw" (136 : Nat) ({ cls := "SignMasonsLaw$Sim", name := "isSame", desc := "(LSignMasons;)Z" } : Jvm.MethodName)) ∈ wsA := wA_of 338 (by decide +kernel) (by decide +kernel)
theorem wd339 : (Jvm.Cond.instanceMethod ({ cls := "SignMasonsLaw$Sim", name := "isSame", desc := "(LSignMasons;)Z" } : Jvm.MethodName)) ∈ wsA := wA_of 339 (by decide +kernel) (by decide +kernel)
theorem wd340 : (Jvm.Cond.selects "SignMasonsLaw$Sim" ({ cls := "SignMasonsLaw$Sim", name := "isSame", desc := "(LSignMasons;)Z" } : Jvm.MethodName) ({ cls := "SignMasonsLaw$Sim", name := "isSame", desc := "(LSignMasons;)Z" } : Jvm.MethodName)) ∈ wsA := wA_of 340 (by decide +kernel) (by decide +kernel)
theorem wd341 : (Jvm.Cond.code ({ cls := "SignMasonsLaw$Sim", name := "isSame", desc := "(LSignMasons;)Z" } : Jvm.MethodName) prog_6_method_14_code (16 : Nat) (Option.some Jvm.ClassFile.FieldType.boolean)) ∈ wsA := wA_of 341 (rfl) (by decide +kernel)
theorem wd342 : (Jvm.Cond.methodLink "SignMasonsLaw$Sim" (43 : Nat) ({ cls := "SignMasons", name := "lodges", desc := "()I" } : Jvm.MethodName)) ∈ wsA := wA_of 342 (by decide +kernel) (by decide +kernel)
theorem wd343 : (Jvm.Cond.methodLink "SignMasonsLaw$Sim" (49 : Nat) ({ cls := "SignMasons", name := "groups", desc := "()I" } : Jvm.MethodName)) ∈ wsA := wA_of 343 (by decide +kernel) (by decide +kernel)
theorem wd344 : (Jvm.Cond.methodLink "SignMasonsLaw$Sim" (52 : Nat) ({ cls := "SignMasonsLaw$Sim", name := "groups", desc := "()I" } : Jvm.MethodName)) ∈ wsA := wA_of 344 (by decide +kernel) (by decide +kernel)
theorem wd345 : (Jvm.Cond.instanceMethod ({ cls := "SignMasonsLaw$Sim", name := "groups", desc := "()I" } : Jvm.MethodName)) ∈ wsA := wA_of 345 (by decide +kernel) (by decide +kernel)
theorem wd346 : (Jvm.Cond.selects "SignMasonsLaw$Sim" ({ cls := "SignMasonsLaw$Sim", name := "groups", desc := "()I" } : Jvm.MethodName) ({ cls := "SignMasonsLaw$Sim", name := "groups", desc := "()I" } : Jvm.MethodName)) ∈ wsA := wA_of 346 (by decide +kernel) (by decide +kernel)
theorem wd347 : (Jvm.Cond.code ({ cls := "SignMasonsLaw$Sim", name := "groups", desc := "()I" } : Jvm.MethodName) prog_6_method_6_code (5 : Nat) (Option.some Jvm.ClassFile.FieldType.int)) ∈ wsA := wA_of 347 (by decide +kernel) (by decide +kernel)
theorem wd348 : (Jvm.Cond.methodLink "SignMasonsLaw$Sim" (32 : Nat) ({ cls := "SignMasonsLaw$Sim", name := "far", desc := "([I[I)I" } : Jvm.MethodName)) ∈ wsA := wA_of 348 (by decide +kernel) (by decide +kernel)
theorem wd349 : (Jvm.Cond.instanceMethod ({ cls := "SignMasonsLaw$Sim", name := "far", desc := "([I[I)I" } : Jvm.MethodName)) ∈ wsA := wA_of 349 (by decide +kernel) (by decide +kernel)
theorem wd350 : (Jvm.Cond.selects "SignMasonsLaw$Sim" ({ cls := "SignMasonsLaw$Sim", name := "far", desc := "([I[I)I" } : Jvm.MethodName) ({ cls := "SignMasonsLaw$Sim", name := "far", desc := "([I[I)I" } : Jvm.MethodName)) ∈ wsA := wA_of 350 (by decide +kernel) (by decide +kernel)
theorem wd351 : (Jvm.Cond.code ({ cls := "SignMasonsLaw$Sim", name := "far", desc := "([I[I)I" } : Jvm.MethodName) prog_6_method_8_code (5 : Nat) (Option.some Jvm.ClassFile.FieldType.int)) ∈ wsA := wA_of 351 (by decide +kernel) (by decide +kernel)
theorem wd352 : (Jvm.Cond.methodLink "SignMasonsLaw$Sim" (28 : Nat) ({ cls := "SignMasonsLaw$Sim", name := "steps", desc := "(II)I" } : Jvm.MethodName)) ∈ wsA := wA_of 352 (by decide +kernel) (by decide +kernel)
theorem wd353 : (Jvm.Cond.instanceMethod ({ cls := "SignMasonsLaw$Sim", name := "steps", desc := "(II)I" } : Jvm.MethodName)) ∈ wsA := wA_of 353 (by decide +kernel) (by decide +kernel)
theorem wd354 : (Jvm.Cond.selects "SignMasonsLaw$Sim" ({ cls := "SignMasonsLaw$Sim", name := "steps", desc := "(II)I" } : Jvm.MethodName) ({ cls := "SignMasonsLaw$Sim", name := "steps", desc := "(II)I" } : Jvm.MethodName)) ∈ wsA := wA_of 354 (by decide +kernel) (by decide +kernel)
theorem wd355 : (Jvm.Cond.code ({ cls := "SignMasonsLaw$Sim", name := "steps", desc := "(II)I" } : Jvm.MethodName) prog_6_method_7_code (3 : Nat) (Option.some Jvm.ClassFile.FieldType.int)) ∈ wsA := wA_of 355 (by decide +kernel) (by decide +kernel)
theorem wd356 : (Jvm.Cond.methodLink "SignMasonsLaw$Sim" (22 : Nat) ({ cls := "java/lang/Math", name := "abs", desc := "(I)I" } : Jvm.MethodName)) ∈ wsA := wA_of 356 (by decide +kernel) (by decide +kernel)
theorem wd357 : (Jvm.Cond.methodLink "SignMasonsLaw$Sim" (53 : Nat) ({ cls := "SignMasons", name := "apart", desc := "(III)I" } : Jvm.MethodName)) ∈ wsA := wA_of 357 (by decide +kernel) (by decide +kernel)
theorem wd358 : (Jvm.Cond.methodLink "SignMasonsLaw$Sim" (57 : Nat) ({ cls := "java/lang/Math", name := "min", desc := "(II)I" } : Jvm.MethodName)) ∈ wsA := wA_of 358 (by decide +kernel) (by decide +kernel)
theorem wd359 : (Jvm.Cond.methodLink "SignMasonsLaw$Sim" (60 : Nat) ({ cls := "SignMasons", name := "shapeOf", desc := "(II)I" } : Jvm.MethodName)) ∈ wsA := wA_of 359 (by decide +kernel) (by decide +kernel)
theorem wd360 : (Jvm.Cond.instanceMethod ({ cls := "SignMasons", name := "shapeOf", desc := "(II)I" } : Jvm.MethodName)) ∈ wsA := wA_of 360 (by decide +kernel) (by decide +kernel)
theorem wd361 : (Jvm.Cond.selects "SignMasons" ({ cls := "SignMasons", name := "shapeOf", desc := "(II)I" } : Jvm.MethodName) ({ cls := "SignMasons", name := "shapeOf", desc := "(II)I" } : Jvm.MethodName)) ∈ wsA := wA_of 361 (by decide +kernel) (by decide +kernel)
theorem wd362 : (Jvm.Cond.code ({ cls := "SignMasons", name := "shapeOf", desc := "(II)I" } : Jvm.MethodName) prog_1_method_13_code (3 : Nat) (Option.some Jvm.ClassFile.FieldType.int)) ∈ wsA := wA_of 362 (by decide +kernel) (by decide +kernel)
theorem wd363 : (Jvm.Cond.methodLinkNest "SignMasons" (126 : Nat) ({ cls := "SignMasons$Look", name := "shape", desc := "(I)I" } : Jvm.MethodName) "SignMasons") ∈ nwA := nA_of 363 (by decide +kernel) (by decide +kernel)
theorem wd364 : (Jvm.Cond.methodLink "SignMasonsLaw$Sim" (63 : Nat) ({ cls := "SignMasons", name := "thumbOf", desc := "(II)I" } : Jvm.MethodName)) ∈ wsA := wA_of 364 (by decide +kernel) (by decide +kernel)
theorem wd365 : (Jvm.Cond.methodLink "SignMasonsLaw$Sim" (66 : Nat) ({ cls := "SignMasons", name := "placeOf", desc := "(II)I" } : Jvm.MethodName)) ∈ wsA := wA_of 365 (by decide +kernel) (by decide +kernel)
theorem wd366 : (Jvm.Cond.instanceMethod ({ cls := "SignMasons", name := "placeOf", desc := "(II)I" } : Jvm.MethodName)) ∈ wsA := wA_of 366 (by decide +kernel) (by decide +kernel)
theorem wd367 : (Jvm.Cond.selects "SignMasons" ({ cls := "SignMasons", name := "placeOf", desc := "(II)I" } : Jvm.MethodName) ({ cls := "SignMasons", name := "placeOf", desc := "(II)I" } : Jvm.MethodName)) ∈ wsA := wA_of 367 (by decide +kernel) (by decide +kernel)
theorem wd368 : (Jvm.Cond.code ({ cls := "SignMasons", name := "placeOf", desc := "(II)I" } : Jvm.MethodName) prog_1_method_15_code (3 : Nat) (Option.some Jvm.ClassFile.FieldType.int)) ∈ wsA := wA_of 368 (by decide +kernel) (by decide +kernel)
theorem wd369 : (Jvm.Cond.methodLinkNest "SignMasons" (129 : Nat) ({ cls := "SignMasons$Look", name := "place", desc := "(I)I" } : Jvm.MethodName) "SignMasons") ∈ nwA := nA_of 369 (by decide +kernel) (by decide +kernel)
theorem wd370 : (Jvm.Cond.methodLink "SignMasonsLaw$Sim" (69 : Nat) ({ cls := "SignMasons", name := "meaningOf", desc := "(II)I" } : Jvm.MethodName)) ∈ wsA := wA_of 370 (by decide +kernel) (by decide +kernel)
theorem wd371 : (Jvm.Cond.methodLink "SignMasonsLaw$Sim" (72 : Nat) ({ cls := "SignMasons", name := "signFor", desc := "(II)I" } : Jvm.MethodName)) ∈ wsA := wA_of 371 (by decide +kernel) (by decide +kernel)
theorem wd372 : (Jvm.Cond.methodLink "SignMasonsLaw$Sim" (73 : Nat) ({ cls := "SignMasons", name := "signsOf", desc := "(I)I" } : Jvm.MethodName)) ∈ wsA := wA_of 372 (by decide +kernel) (by decide +kernel)
theorem wd373 : (Jvm.Cond.methodLink "SignMasonsLaw$Sim" (76 : Nat) ({ cls := "SignMasons", name := "alikePairs", desc := "(I)I" } : Jvm.MethodName)) ∈ wsA := wA_of 373 (by decide +kernel) (by decide +kernel)
theorem wd374 : (Jvm.Cond.methodLink "SignMasonsLaw$Sim" (79 : Nat) ({ cls := "SignMasonsLaw$Sim", name := "alike", desc := "(I)I" } : Jvm.MethodName)) ∈ wsA := wA_of 374 (by decide +kernel) (by decide +kernel)
theorem wd375 : (Jvm.Cond.instanceMethod ({ cls := "SignMasonsLaw$Sim", name := "alike", desc := "(I)I" } : Jvm.MethodName)) ∈ wsA := wA_of 375 (by decide +kernel) (by decide +kernel)
theorem wd376 : (Jvm.Cond.selects "SignMasonsLaw$Sim" ({ cls := "SignMasonsLaw$Sim", name := "alike", desc := "(I)I" } : Jvm.MethodName) ({ cls := "SignMasonsLaw$Sim", name := "alike", desc := "(I)I" } : Jvm.MethodName)) ∈ wsA := wA_of 376 (by decide +kernel) (by decide +kernel)
theorem wd377 : (Jvm.Cond.code ({ cls := "SignMasonsLaw$Sim", name := "alike", desc := "(I)I" } : Jvm.MethodName) prog_6_method_12_code (5 : Nat) (Option.some Jvm.ClassFile.FieldType.int)) ∈ wsA := wA_of 377 (by decide +kernel) (by decide +kernel)
theorem wd378 : (Jvm.Cond.methodLink "SignMasonsLaw$Sim" (82 : Nat) ({ cls := "SignMasons", name := "thumbPairs", desc := "(I)I" } : Jvm.MethodName)) ∈ wsA := wA_of 378 (by decide +kernel) (by decide +kernel)
theorem wd379 : (Jvm.Cond.methodLink "SignMasonsLaw$Sim" (85 : Nat) ({ cls := "SignMasons", name := "closest", desc := "(I)I" } : Jvm.MethodName)) ∈ wsA := wA_of 379 (by decide +kernel) (by decide +kernel)
theorem wd380 : (Jvm.Cond.methodLink "SignMasonsLaw$Sim" (88 : Nat) ({ cls := "SignMasons", name := "mostMistaken", desc := "(I)I" } : Jvm.MethodName)) ∈ wsA := wA_of 380 (by decide +kernel) (by decide +kernel)
theorem wd381 : (Jvm.Cond.methodLink "SignMasonsLaw$Sim" (39 : Nat) ({ cls := "SignMasonsLaw$Sim", name := "read", desc := "([II)I" } : Jvm.MethodName)) ∈ wsA := wA_of 381 (by decide +kernel) (by decide +kernel)
theorem wd382 : (Jvm.Cond.instanceMethod ({ cls := "SignMasonsLaw$Sim", name := "read", desc := "([II)I" } : Jvm.MethodName)) ∈ wsA := wA_of 382 (by decide +kernel) (by decide +kernel)
theorem wd383 : (Jvm.Cond.selects "SignMasonsLaw$Sim" ({ cls := "SignMasonsLaw$Sim", name := "read", desc := "([II)I" } : Jvm.MethodName) ({ cls := "SignMasonsLaw$Sim", name := "read", desc := "([II)I" } : Jvm.MethodName)) ∈ wsA := wA_of 383 (by decide +kernel) (by decide +kernel)
theorem wd384 : (Jvm.Cond.code ({ cls := "SignMasonsLaw$Sim", name := "read", desc := "([II)I" } : Jvm.MethodName) prog_6_method_9_code (11 : Nat) (Option.some Jvm.ClassFile.FieldType.int)) ∈ wsA := wA_of 384 (by decide +kernel) (by decide +kernel)
theorem wd385 : (Jvm.Cond.methodLink "SignMasonsLaw$Sim" (36 : Nat) ({ cls := "SignMasonsLaw$Sim", name := "signFor", desc := "(II)I" } : Jvm.MethodName)) ∈ wsA := wA_of 385 (by decide +kernel) (by decide +kernel)
theorem wd386 : (Jvm.Cond.instanceMethod ({ cls := "SignMasonsLaw$Sim", name := "signFor", desc := "(II)I" } : Jvm.MethodName)) ∈ wsA := wA_of 386 (by decide +kernel) (by decide +kernel)
theorem wd387 : (Jvm.Cond.selects "SignMasonsLaw$Sim" ({ cls := "SignMasonsLaw$Sim", name := "signFor", desc := "(II)I" } : Jvm.MethodName) ({ cls := "SignMasonsLaw$Sim", name := "signFor", desc := "(II)I" } : Jvm.MethodName)) ∈ wsA := wA_of 387 (by decide +kernel) (by decide +kernel)
theorem wd388 : (Jvm.Cond.code ({ cls := "SignMasonsLaw$Sim", name := "signFor", desc := "(II)I" } : Jvm.MethodName) prog_6_method_10_code (4 : Nat) (Option.some Jvm.ClassFile.FieldType.int)) ∈ wsA := wA_of 388 (by decide +kernel) (by decide +kernel)
theorem wd389 : (Jvm.Cond.methodLink "SignMasonsLaw$Sim" (91 : Nat) ({ cls := "SignMasons", name := "read", desc := "(III)I" } : Jvm.MethodName)) ∈ wsA := wA_of 389 (by decide +kernel) (by decide +kernel)
theorem wd390 : (Jvm.Cond.methodLink "SignMasonsLaw$Sim" (93 : Nat) ({ cls := "SignMasons", name := "understood", desc := "(II)I" } : Jvm.MethodName)) ∈ wsA := wA_of 390 (by decide +kernel) (by decide +kernel)
theorem wd391 : (Jvm.Cond.methodLink "SignMasonsLaw$Sim" (96 : Nat) ({ cls := "SignMasonsLaw$Sim", name := "understood", desc := "(II)I" } : Jvm.MethodName)) ∈ wsA := wA_of 391 (by decide +kernel) (by decide +kernel)
theorem wd392 : (Jvm.Cond.instanceMethod ({ cls := "SignMasonsLaw$Sim", name := "understood", desc := "(II)I" } : Jvm.MethodName)) ∈ wsA := wA_of 392 (by decide +kernel) (by decide +kernel)
theorem wd393 : (Jvm.Cond.selects "SignMasonsLaw$Sim" ({ cls := "SignMasonsLaw$Sim", name := "understood", desc := "(II)I" } : Jvm.MethodName) ({ cls := "SignMasonsLaw$Sim", name := "understood", desc := "(II)I" } : Jvm.MethodName)) ∈ wsA := wA_of 393 (by decide +kernel) (by decide +kernel)
theorem wd394 : (Jvm.Cond.code ({ cls := "SignMasonsLaw$Sim", name := "understood", desc := "(II)I" } : Jvm.MethodName) prog_6_method_13_code (8 : Nat) (Option.some Jvm.ClassFile.FieldType.int)) ∈ wsA := wA_of 394 (by decide +kernel) (by decide +kernel)
theorem wd395 : (Jvm.Cond.methodLink "SignMasonsLaw$Sim" (97 : Nat) ({ cls := "SignMasons", name := "misread", desc := "(II)I" } : Jvm.MethodName)) ∈ wsA := wA_of 395 (by decide +kernel) (by decide +kernel)
theorem wd396 : (Jvm.Cond.methodLink "SignMasonsLaw$Sim" (100 : Nat) ({ cls := "SignMasons", name := "common", desc := "(II)I" } : Jvm.MethodName)) ∈ wsA := wA_of 396 (by decide +kernel) (by decide +kernel)
theorem wd397 : (Jvm.Cond.methodLink "SignMasonsLaw$Sim" (103 : Nat) ({ cls := "SignMasons", name := "meanSigns", desc := "()D" } : Jvm.MethodName)) ∈ wsA := wA_of 397 (by decide +kernel) (by decide +kernel)
theorem wd398 : (Jvm.Cond.instanceMethod ({ cls := "SignMasons", name := "meanSigns", desc := "()D" } : Jvm.MethodName)) ∈ wsA := wA_of 398 (by decide +kernel) (by decide +kernel)
theorem wd399 : (Jvm.Cond.selects "SignMasons" ({ cls := "SignMasons", name := "meanSigns", desc := "()D" } : Jvm.MethodName) ({ cls := "SignMasons", name := "meanSigns", desc := "()D" } : Jvm.MethodName)) ∈ wsA := wA_of 399 (by decide +kernel) (by decide +kernel)
theorem wd400 : (Jvm.Cond.code ({ cls := "SignMasons", name := "meanSigns", desc := "()D" } : Jvm.MethodName) prog_1_method_31_code (3 : Nat) (Option.some Jvm.ClassFile.FieldType.double)) ∈ wsA := wA_of 400 (by decide +kernel) (by decide +kernel)
theorem wd401 : (Jvm.Cond.methodLink "SignMasonsLaw" (15 : Nat) ({ cls := "SignMasonsLaw", name := "below", desc := "(II)I" } : Jvm.MethodName)) ∈ wsA := wA_of 401 (by decide +kernel) (by decide +kernel)
theorem wd402 : (Jvm.Cond.static ({ cls := "SignMasonsLaw", name := "below", desc := "(II)I" } : Jvm.MethodName)) ∈ wsA := wA_of 402 (by decide +kernel) (by decide +kernel)
theorem wd403 : (Jvm.Cond.code ({ cls := "SignMasonsLaw", name := "below", desc := "(II)I" } : Jvm.MethodName) method_2_code (2 : Nat) (Option.some Jvm.ClassFile.FieldType.int)) ∈ wsA := wA_of 403 (by decide +kernel) (by decide +kernel)
theorem wd404 : (Jvm.Cond.constant "SignMasonsLaw" (7 : Nat) (2147483647 : Int32)) ∈ wsA := wA_of 404 (by decide +kernel) (by decide +kernel)
theorem wd405 : (Jvm.Cond.methodLink "SignMasonsLaw" (67 : Nat) ({ cls := "SignMasonsLaw", name := "cell", desc := "([II)I" } : Jvm.MethodName)) ∈ wsA := wA_of 405 (by decide +kernel) (by decide +kernel)
theorem wd406 : (Jvm.Cond.static ({ cls := "SignMasonsLaw", name := "cell", desc := "([II)I" } : Jvm.MethodName)) ∈ wsA := wA_of 406 (by decide +kernel) (by decide +kernel)
theorem wd407 : (Jvm.Cond.code ({ cls := "SignMasonsLaw", name := "cell", desc := "([II)I" } : Jvm.MethodName) method_3_code (2 : Nat) (Option.some Jvm.ClassFile.FieldType.int)) ∈ wsA := wA_of 407 (by decide +kernel) (by decide +kernel)
theorem wd408 : (Jvm.Cond.constant "SignMasonsLaw" (8 : Nat) (790386105 : Int32)) ∈ wsA := wA_of 408 (by decide +kernel) (by decide +kernel)
theorem wd409 : (Jvm.Cond.methodLink "SignMasonsLaw" (71 : Nat) ({ cls := "SignMasonsLaw", name := "act", desc := "(LSignMasons;LSignMasonsLaw$Sim;I)Z" } : Jvm.MethodName)) ∈ wsA := wA_of 409 (by decide +kernel) (by decide +kernel)
theorem wd410 : (Jvm.Cond.static ({ cls := "SignMasonsLaw", name := "act", desc := "(LSignMasons;LSignMasonsLaw$Sim;I)Z" } : Jvm.MethodName)) ∈ wsA := wA_of 410 (by decide +kernel) (by decide +kernel)
theorem wd411 : (Jvm.Cond.code ({ cls := "SignMasonsLaw", name := "act", desc := "(LSignMasons;LSignMasonsLaw$Sim;I)Z" } : Jvm.MethodName) method_4_code (14 : Nat) (Option.some Jvm.ClassFile.FieldType.boolean)) ∈ wsA := wA_of 411 (rfl) (by decide +kernel)
theorem wd412 : (Jvm.Cond.methodLink "SignMasonsLaw" (21 : Nat) ({ cls := "SignMasonsLaw$Sim", name := "addLodge", desc := "()V" } : Jvm.MethodName)) ∈ wsA := wA_of 412 (by decide +kernel) (by decide +kernel)
theorem wd413 : (Jvm.Cond.instanceMethod ({ cls := "SignMasonsLaw$Sim", name := "addLodge", desc := "()V" } : Jvm.MethodName)) ∈ wsA := wA_of 413 (by decide +kernel) (by decide +kernel)
theorem wd414 : (Jvm.Cond.selects "SignMasonsLaw$Sim" ({ cls := "SignMasonsLaw$Sim", name := "addLodge", desc := "()V" } : Jvm.MethodName) ({ cls := "SignMasonsLaw$Sim", name := "addLodge", desc := "()V" } : Jvm.MethodName)) ∈ wsA := wA_of 414 (by decide +kernel) (by decide +kernel)
theorem wd415 : (Jvm.Cond.code ({ cls := "SignMasonsLaw$Sim", name := "addLodge", desc := "()V" } : Jvm.MethodName) prog_6_method_2_code (3 : Nat) (Option.none : Option Jvm.ClassFile.FieldType)) ∈ wsA := wA_of 415 (by decide +kernel) (by decide +kernel)
theorem wd416 : (Jvm.Cond.classLink "SignMasonsLaw$Sim" (7 : Nat) "[[I") ∈ wsA := wA_of 416 (by decide +kernel) (by decide +kernel)
theorem wd418 : (Jvm.Cond.classLink "SignMasonsLaw$Sim" (20 : Nat) "[I") ∈ wsA := wA_of 418 (by decide +kernel) (by decide +kernel)
theorem wd420 : (Jvm.Cond.methodLink "SignMasonsLaw" (24 : Nat) ({ cls := "SignMasons", name := "addLodge", desc := "()I" } : Jvm.MethodName)) ∈ wsA := wA_of 420 (by decide +kernel) (by decide +kernel)
theorem wd421 : (Jvm.Cond.instanceMethod ({ cls := "SignMasons", name := "addLodge", desc := "()I" } : Jvm.MethodName)) ∈ wsA := wA_of 421 (by decide +kernel) (by decide +kernel)
theorem wd422 : (Jvm.Cond.selects "SignMasons" ({ cls := "SignMasons", name := "addLodge", desc := "()I" } : Jvm.MethodName) ({ cls := "SignMasons", name := "addLodge", desc := "()I" } : Jvm.MethodName)) ∈ wsA := wA_of 422 (by decide +kernel) (by decide +kernel)
theorem wd423 : (Jvm.Cond.code ({ cls := "SignMasons", name := "addLodge", desc := "()I" } : Jvm.MethodName) prog_1_method_2_code (1 : Nat) (Option.some Jvm.ClassFile.FieldType.int)) ∈ wsA := wA_of 423 (by decide +kernel) (by decide +kernel)
theorem wd424 : (Jvm.Cond.classLink "SignMasons" (33 : Nat) "java/lang/IllegalStateException") ∈ wsA := wA_of 424 (by decide +kernel) (by decide +kernel)
theorem wd425 : (Jvm.Cond.instantiable "java/lang/IllegalStateException" (6 : Nat)) ∈ wsA := wA_of 425 (by decide +kernel) (by decide +kernel)
theorem wd426 : (Jvm.Cond.castable "java/lang/IllegalStateException" "java/lang/IllegalStateException") ∈ nwA := nA_of 426 (by decide +kernel) (by decide +kernel)
theorem wd427 : (Jvm.Cond.selects "java/lang/IllegalStateException" ({ cls := "java/lang/Throwable", name := "fillInStackTrace", desc := "(I)Ljava/lang/Throwable;" } : Jvm.MethodName) ({ cls := "java/lang/Throwable", name := "fillInStackTrace", desc := "(I)Ljava/lang/Throwable;" } : Jvm.MethodName)) ∈ wsA := wA_of 427 (by decide +kernel) (by decide +kernel)
theorem wd428 : (Jvm.Cond.lays "java/lang/IllegalStateException" "java/lang/Throwable" "cause" "Ljava/lang/Throwable;") ∈ wsA := wA_of 428 (by decide +kernel) (by decide +kernel)
theorem wd429 : (Jvm.Cond.lays "java/lang/IllegalStateException" "java/lang/Throwable" "stackTrace" "[Ljava/lang/StackTraceElement;") ∈ wsA := wA_of 429 (by decide +kernel) (by decide +kernel)
theorem wd430 : (Jvm.Cond.lays "java/lang/IllegalStateException" "java/lang/Throwable" "suppressedExceptions" "Ljava/util/List;") ∈ wsA := wA_of 430 (by decide +kernel) (by decide +kernel)
theorem wd431 : (Jvm.Cond.lays "java/lang/IllegalStateException" "java/lang/Throwable" "detailMessage" "Ljava/lang/String;") ∈ wsA := wA_of 431 (by decide +kernel) (by decide +kernel)
theorem wd432 : (Jvm.Cond.lays "java/lang/IllegalStateException" "java/lang/Throwable" "backtrace" "Ljava/lang/Object;") ∈ wsA := wA_of 432 (by decide +kernel) (by decide +kernel)
theorem wd434 : (Jvm.Cond.methodLink "SignMasons" (37 : Nat) ({ cls := "java/lang/IllegalStateException", name := "<init>", desc := "(Ljava/lang/String;)V" } : Jvm.MethodName)) ∈ wsA := wA_of 434 (by decide +kernel) (by decide +kernel)
theorem wd435 : (Jvm.Cond.instanceMethod ({ cls := "java/lang/IllegalStateException", name := "<init>", desc := "(Ljava/lang/String;)V" } : Jvm.MethodName)) ∈ wsA := wA_of 435 (by decide +kernel) (by decide +kernel)
theorem wd436 : (Jvm.Cond.code ({ cls := "java/lang/IllegalStateException", name := "<init>", desc := "(Ljava/lang/String;)V" } : Jvm.MethodName) prog_10_method_2_code (2 : Nat) (Option.none : Option Jvm.ClassFile.FieldType)) ∈ wsA := wA_of 436 (by decide +kernel) (by decide +kernel)
theorem wd437 : (Jvm.Cond.methodLink "java/lang/IllegalStateException" (7 : Nat) ({ cls := "java/lang/RuntimeException", name := "<init>", desc := "(Ljava/lang/String;)V" } : Jvm.MethodName)) ∈ wsA := wA_of 437 (by decide +kernel) (by decide +kernel)
theorem wd438 : (Jvm.Cond.lays "java/lang/IllegalStateException" "java/lang/Throwable" "depth" "I") ∈ wsA := wA_of 438 (by decide +kernel) (by decide +kernel)
theorem wd440 : (Jvm.Cond.methodLink "SignMasonsLaw" (29 : Nat) ({ cls := "SignMasonsLaw$Sim", name := "signFor", desc := "(II)I" } : Jvm.MethodName)) ∈ wsA := wA_of 440 (by decide +kernel) (by decide +kernel)
theorem wd441 : (Jvm.Cond.methodLink "SignMasonsLaw" (32 : Nat) ({ cls := "SignMasonsLaw$Sim", name := "add", desc := "(I[I)V" } : Jvm.MethodName)) ∈ wsA := wA_of 441 (by decide +kernel) (by decide +kernel)
theorem wd442 : (Jvm.Cond.instanceMethod ({ cls := "SignMasonsLaw$Sim", name := "add", desc := "(I[I)V" } : Jvm.MethodName)) ∈ wsA := wA_of 442 (by decide +kernel) (by decide +kernel)
theorem wd443 : (Jvm.Cond.selects "SignMasonsLaw$Sim" ({ cls := "SignMasonsLaw$Sim", name := "add", desc := "(I[I)V" } : Jvm.MethodName) ({ cls := "SignMasonsLaw$Sim", name := "add", desc := "(I[I)V" } : Jvm.MethodName)) ∈ wsA := wA_of 443 (by decide +kernel) (by decide +kernel)
theorem wd444 : (Jvm.Cond.code ({ cls := "SignMasonsLaw$Sim", name := "add", desc := "(I[I)V" } : Jvm.MethodName) prog_6_method_3_code (5 : Nat) (Option.none : Option Jvm.ClassFile.FieldType)) ∈ wsA := wA_of 444 (by decide +kernel) (by decide +kernel)
theorem wd445 : (Jvm.Cond.methodLink "SignMasonsLaw" (36 : Nat) ({ cls := "SignMasons", name := "addSign", desc := "(IIIIII)I" } : Jvm.MethodName)) ∈ wsA := wA_of 445 (by decide +kernel) (by decide +kernel)
theorem wd446 : (Jvm.Cond.instanceMethod ({ cls := "SignMasons", name := "addSign", desc := "(IIIIII)I" } : Jvm.MethodName)) ∈ wsA := wA_of 446 (by decide +kernel) (by decide +kernel)
theorem wd447 : (Jvm.Cond.selects "SignMasons" ({ cls := "SignMasons", name := "addSign", desc := "(IIIIII)I" } : Jvm.MethodName) ({ cls := "SignMasons", name := "addSign", desc := "(IIIIII)I" } : Jvm.MethodName)) ∈ wsA := wA_of 447 (by decide +kernel) (by decide +kernel)
theorem wd448 : (Jvm.Cond.code ({ cls := "SignMasons", name := "addSign", desc := "(IIIIII)I" } : Jvm.MethodName) prog_1_method_3_code (8 : Nat) (Option.some Jvm.ClassFile.FieldType.int)) ∈ wsA := wA_of 448 (by decide +kernel) (by decide +kernel)
theorem wd449 : (Jvm.Cond.methodLink "SignMasons" (44 : Nat) ({ cls := "SignMasons", name := "checkLook", desc := "(IIII)V" } : Jvm.MethodName)) ∈ wsA := wA_of 449 (by decide +kernel) (by decide +kernel)
theorem wd450 : (Jvm.Cond.static ({ cls := "SignMasons", name := "checkLook", desc := "(IIII)V" } : Jvm.MethodName)) ∈ wsA := wA_of 450 (by decide +kernel) (by decide +kernel)
theorem wd451 : (Jvm.Cond.code ({ cls := "SignMasons", name := "checkLook", desc := "(IIII)V" } : Jvm.MethodName) prog_1_method_42_code (4 : Nat) (Option.none : Option Jvm.ClassFile.FieldType)) ∈ wsA := wA_of 451 (by decide +kernel) (by decide +kernel)
theorem wd452 : (Jvm.Cond.classLink "SignMasons" (52 : Nat) "java/lang/IllegalArgumentException") ∈ wsA := wA_of 452 (by decide +kernel) (by decide +kernel)
theorem wd453 : (Jvm.Cond.instantiable "java/lang/IllegalArgumentException" (6 : Nat)) ∈ wsA := wA_of 453 (by decide +kernel) (by decide +kernel)
theorem wd454 : (Jvm.Cond.castable "java/lang/IllegalArgumentException" "java/lang/IllegalArgumentException") ∈ nwA := nA_of 454 (by decide +kernel) (by decide +kernel)
theorem wd455 : (Jvm.Cond.selects "java/lang/IllegalArgumentException" ({ cls := "java/lang/Throwable", name := "fillInStackTrace", desc := "(I)Ljava/lang/Throwable;" } : Jvm.MethodName) ({ cls := "java/lang/Throwable", name := "fillInStackTrace", desc := "(I)Ljava/lang/Throwable;" } : Jvm.MethodName)) ∈ wsA := wA_of 455 (by decide +kernel) (by decide +kernel)
theorem wd456 : (Jvm.Cond.lays "java/lang/IllegalArgumentException" "java/lang/Throwable" "cause" "Ljava/lang/Throwable;") ∈ wsA := wA_of 456 (by decide +kernel) (by decide +kernel)
theorem wd457 : (Jvm.Cond.lays "java/lang/IllegalArgumentException" "java/lang/Throwable" "stackTrace" "[Ljava/lang/StackTraceElement;") ∈ wsA := wA_of 457 (by decide +kernel) (by decide +kernel)
theorem wd458 : (Jvm.Cond.lays "java/lang/IllegalArgumentException" "java/lang/Throwable" "suppressedExceptions" "Ljava/util/List;") ∈ wsA := wA_of 458 (by decide +kernel) (by decide +kernel)
theorem wd459 : (Jvm.Cond.lays "java/lang/IllegalArgumentException" "java/lang/Throwable" "detailMessage" "Ljava/lang/String;") ∈ wsA := wA_of 459 (by decide +kernel) (by decide +kernel)
theorem wd460 : (Jvm.Cond.lays "java/lang/IllegalArgumentException" "java/lang/Throwable" "backtrace" "Ljava/lang/Object;") ∈ wsA := wA_of 460 (by decide +kernel) (by decide +kernel)
theorem wd462 : (Jvm.Cond.methodLink "SignMasons" (56 : Nat) ({ cls := "java/lang/IllegalArgumentException", name := "<init>", desc := "(Ljava/lang/String;)V" } : Jvm.MethodName)) ∈ wsA := wA_of 462 (by decide +kernel) (by decide +kernel)
theorem wd463 : (Jvm.Cond.instanceMethod ({ cls := "java/lang/IllegalArgumentException", name := "<init>", desc := "(Ljava/lang/String;)V" } : Jvm.MethodName)) ∈ wsA := wA_of 463 (by decide +kernel) (by decide +kernel)
theorem wd464 : (Jvm.Cond.code ({ cls := "java/lang/IllegalArgumentException", name := "<init>", desc := "(Ljava/lang/String;)V" } : Jvm.MethodName) prog_9_method_2_code (2 : Nat) (Option.none : Option Jvm.ClassFile.FieldType)) ∈ wsA := wA_of 464 (by decide +kernel) (by decide +kernel)
theorem wd465 : (Jvm.Cond.methodLink "java/lang/IllegalArgumentException" (7 : Nat) ({ cls := "java/lang/RuntimeException", name := "<init>", desc := "(Ljava/lang/String;)V" } : Jvm.MethodName)) ∈ wsA := wA_of 465 (by decide +kernel) (by decide +kernel)
theorem wd466 : (Jvm.Cond.lays "java/lang/IllegalArgumentException" "java/lang/Throwable" "depth" "I") ∈ wsA := wA_of 466 (by decide +kernel) (by decide +kernel)
theorem wd470 : (Jvm.Cond.methodLinkNest "SignMasons" (57 : Nat) ({ cls := "SignMasons$Book", name := "hasRoomFor", desc := "(I)Z" } : Jvm.MethodName) "SignMasons") ∈ nwA := nA_of 470 (by decide +kernel) (by decide +kernel)
theorem wd472 : (Jvm.Cond.instanceMethod ({ cls := "SignMasons$Book", name := "hasRoomFor", desc := "(I)Z" } : Jvm.MethodName)) ∈ wsA := wA_of 472 (by decide +kernel) (by decide +kernel)
theorem wd473 : (Jvm.Cond.code ({ cls := "SignMasons$Book", name := "hasRoomFor", desc := "(I)Z" } : Jvm.MethodName) prog_2_method_3_code (2 : Nat) (Option.some Jvm.ClassFile.FieldType.boolean)) ∈ wsA := wA_of 473 (by decide +kernel) (by decide +kernel)
theorem wd475 : (Jvm.Cond.methodLinkNest "SignMasons" (63 : Nat) ({ cls := "SignMasons$Look", name := "of", desc := "(IIII)I" } : Jvm.MethodName) "SignMasons") ∈ nwA := nA_of 475 (by decide +kernel) (by decide +kernel)
theorem wd476 : (Jvm.Cond.static ({ cls := "SignMasons$Look", name := "of", desc := "(IIII)I" } : Jvm.MethodName)) ∈ wsA := wA_of 476 (by decide +kernel) (by decide +kernel)
theorem wd477 : (Jvm.Cond.code ({ cls := "SignMasons$Look", name := "of", desc := "(IIII)I" } : Jvm.MethodName) prog_3_method_2_code (4 : Nat) (Option.some Jvm.ClassFile.FieldType.int)) ∈ wsA := wA_of 477 (by decide +kernel) (by decide +kernel)
theorem wd478 : (Jvm.Cond.methodLinkNest "SignMasons" (69 : Nat) ({ cls := "SignMasons$Book", name := "append", desc := "(II)I" } : Jvm.MethodName) "SignMasons") ∈ nwA := nA_of 478 (by decide +kernel) (by decide +kernel)
theorem wd480 : (Jvm.Cond.instanceMethod ({ cls := "SignMasons$Book", name := "append", desc := "(II)I" } : Jvm.MethodName)) ∈ wsA := wA_of 480 (by decide +kernel) (by decide +kernel)
theorem wd481 : (Jvm.Cond.code ({ cls := "SignMasons$Book", name := "append", desc := "(II)I" } : Jvm.MethodName) prog_2_method_4_code (4 : Nat) (Option.some Jvm.ClassFile.FieldType.int)) ∈ wsA := wA_of 481 (by decide +kernel) (by decide +kernel)
theorem wd482 : (Jvm.Cond.methodLink "SignMasonsLaw" (40 : Nat) ({ cls := "SignMasonsLaw$Sim", name := "remove", desc := "(II)V" } : Jvm.MethodName)) ∈ wsA := wA_of 482 (by decide +kernel) (by decide +kernel)
theorem wd483 : (Jvm.Cond.instanceMethod ({ cls := "SignMasonsLaw$Sim", name := "remove", desc := "(II)V" } : Jvm.MethodName)) ∈ wsA := wA_of 483 (by decide +kernel) (by decide +kernel)
theorem wd484 : (Jvm.Cond.selects "SignMasonsLaw$Sim" ({ cls := "SignMasonsLaw$Sim", name := "remove", desc := "(II)V" } : Jvm.MethodName) ({ cls := "SignMasonsLaw$Sim", name := "remove", desc := "(II)V" } : Jvm.MethodName)) ∈ wsA := wA_of 484 (by decide +kernel) (by decide +kernel)
theorem wd485 : (Jvm.Cond.code ({ cls := "SignMasonsLaw$Sim", name := "remove", desc := "(II)V" } : Jvm.MethodName) prog_6_method_4_code (5 : Nat) (Option.none : Option Jvm.ClassFile.FieldType)) ∈ wsA := wA_of 485 (by decide +kernel) (by decide +kernel)
theorem wd486 : (Jvm.Cond.methodLink "SignMasonsLaw" (44 : Nat) ({ cls := "SignMasons", name := "forget", desc := "(II)I" } : Jvm.MethodName)) ∈ wsA := wA_of 486 (by decide +kernel) (by decide +kernel)
theorem wd487 : (Jvm.Cond.instanceMethod ({ cls := "SignMasons", name := "forget", desc := "(II)I" } : Jvm.MethodName)) ∈ wsA := wA_of 487 (by decide +kernel) (by decide +kernel)
theorem wd488 : (Jvm.Cond.selects "SignMasons" ({ cls := "SignMasons", name := "forget", desc := "(II)I" } : Jvm.MethodName) ({ cls := "SignMasons", name := "forget", desc := "(II)I" } : Jvm.MethodName)) ∈ wsA := wA_of 488 (by decide +kernel) (by decide +kernel)
theorem wd489 : (Jvm.Cond.code ({ cls := "SignMasons", name := "forget", desc := "(II)I" } : Jvm.MethodName) prog_1_method_4_code (4 : Nat) (Option.some Jvm.ClassFile.FieldType.int)) ∈ wsA := wA_of 489 (by decide +kernel) (by decide +kernel)
theorem wd490 : (Jvm.Cond.methodLinkNest "SignMasons" (77 : Nat) ({ cls := "SignMasons$Book", name := "remove", desc := "(I)I" } : Jvm.MethodName) "SignMasons") ∈ nwA := nA_of 490 (by decide +kernel) (by decide +kernel)
theorem wd492 : (Jvm.Cond.instanceMethod ({ cls := "SignMasons$Book", name := "remove", desc := "(I)I" } : Jvm.MethodName)) ∈ wsA := wA_of 492 (by decide +kernel) (by decide +kernel)
theorem wd493 : (Jvm.Cond.code ({ cls := "SignMasons$Book", name := "remove", desc := "(I)I" } : Jvm.MethodName) prog_2_method_5_code (4 : Nat) (Option.some Jvm.ClassFile.FieldType.int)) ∈ wsA := wA_of 493 (by decide +kernel) (by decide +kernel)
theorem wd494 : (Jvm.Cond.methodLink "SignMasonsLaw" (47 : Nat) ({ cls := "SignMasons", name := "setThumb", desc := "(III)I" } : Jvm.MethodName)) ∈ wsA := wA_of 494 (by decide +kernel) (by decide +kernel)
theorem wd495 : (Jvm.Cond.instanceMethod ({ cls := "SignMasons", name := "setThumb", desc := "(III)I" } : Jvm.MethodName)) ∈ wsA := wA_of 495 (by decide +kernel) (by decide +kernel)
theorem wd496 : (Jvm.Cond.selects "SignMasons" ({ cls := "SignMasons", name := "setThumb", desc := "(III)I" } : Jvm.MethodName) ({ cls := "SignMasons", name := "setThumb", desc := "(III)I" } : Jvm.MethodName)) ∈ wsA := wA_of 496 (by decide +kernel) (by decide +kernel)
theorem wd497 : (Jvm.Cond.code ({ cls := "SignMasons", name := "setThumb", desc := "(III)I" } : Jvm.MethodName) prog_1_method_5_code (6 : Nat) (Option.some Jvm.ClassFile.FieldType.int)) ∈ wsA := wA_of 497 (by decide +kernel) (by decide +kernel)
theorem wd498 : (Jvm.Cond.methodLinkNest "SignMasons" (90 : Nat) ({ cls := "SignMasons$Look", name := "withThumb", desc := "(II)I" } : Jvm.MethodName) "SignMasons") ∈ nwA := nA_of 498 (by decide +kernel) (by decide +kernel)
theorem wd499 : (Jvm.Cond.static ({ cls := "SignMasons$Look", name := "withThumb", desc := "(II)I" } : Jvm.MethodName)) ∈ wsA := wA_of 499 (by decide +kernel) (by decide +kernel)
theorem wd500 : (Jvm.Cond.code ({ cls := "SignMasons$Look", name := "withThumb", desc := "(II)I" } : Jvm.MethodName) prog_3_method_7_code (2 : Nat) (Option.some Jvm.ClassFile.FieldType.int)) ∈ wsA := wA_of 500 (by decide +kernel) (by decide +kernel)
theorem wd501 : (Jvm.Cond.methodLink "SignMasonsLaw" (56 : Nat) ({ cls := "SignMasonsLaw$Sim", name := "groups", desc := "()I" } : Jvm.MethodName)) ∈ wsA := wA_of 501 (by decide +kernel) (by decide +kernel)
theorem wd502 : (Jvm.Cond.methodLink "SignMasonsLaw" (59 : Nat) ({ cls := "SignMasonsLaw$Sim", name := "borrowed", desc := "([II)[I" } : Jvm.MethodName)) ∈ wsA := wA_of 502 (by decide +kernel) (by decide +kernel)
theorem wd503 : (Jvm.Cond.instanceMethod ({ cls := "SignMasonsLaw$Sim", name := "borrowed", desc := "([II)[I" } : Jvm.MethodName)) ∈ wsA := wA_of 503 (by decide +kernel) (by decide +kernel)
theorem wd504 : (Jvm.Cond.selects "SignMasonsLaw$Sim" ({ cls := "SignMasonsLaw$Sim", name := "borrowed", desc := "([II)[I" } : Jvm.MethodName) ({ cls := "SignMasonsLaw$Sim", name := "borrowed", desc := "([II)[I" } : Jvm.MethodName)) ∈ wsA := wA_of 504 (by decide +kernel) (by decide +kernel)
theorem wd505 : (Jvm.Cond.code ({ cls := "SignMasonsLaw$Sim", name := "borrowed", desc := "([II)[I" } : Jvm.MethodName) prog_6_method_11_code (10 : Nat) (Option.some (Jvm.ClassFile.FieldType.array Jvm.ClassFile.FieldType.int))) ∈ wsA := wA_of 505 (by decide +kernel) (by decide +kernel)
theorem wd506 : (Jvm.Cond.methodLink "SignMasonsLaw" (63 : Nat) ({ cls := "SignMasons", name := "borrow", desc := "(III)I" } : Jvm.MethodName)) ∈ wsA := wA_of 506 (by decide +kernel) (by decide +kernel)
theorem wd507 : (Jvm.Cond.instanceMethod ({ cls := "SignMasons", name := "borrow", desc := "(III)I" } : Jvm.MethodName)) ∈ wsA := wA_of 507 (by decide +kernel) (by decide +kernel)
theorem wd508 : (Jvm.Cond.selects "SignMasons" ({ cls := "SignMasons", name := "borrow", desc := "(III)I" } : Jvm.MethodName) ({ cls := "SignMasons", name := "borrow", desc := "(III)I" } : Jvm.MethodName)) ∈ wsA := wA_of 508 (by decide +kernel) (by decide +kernel)
theorem wd509 : (Jvm.Cond.code ({ cls := "SignMasons", name := "borrow", desc := "(III)I" } : Jvm.MethodName) prog_1_method_7_code (8 : Nat) (Option.some Jvm.ClassFile.FieldType.int)) ∈ wsA := wA_of 509 (by decide +kernel) (by decide +kernel)
theorem wd511 : (Jvm.Cond.methodLinkNest "SignMasons" (109 : Nat) ({ cls := "SignMasons$Book", name := "firstUnlike", desc := "(I)I" } : Jvm.MethodName) "SignMasons") ∈ nwA := nA_of 511 (by decide +kernel) (by decide +kernel)
theorem wd513 : (Jvm.Cond.instanceMethod ({ cls := "SignMasons$Book", name := "firstUnlike", desc := "(I)I" } : Jvm.MethodName)) ∈ wsA := wA_of 513 (by decide +kernel) (by decide +kernel)
theorem wd514 : (Jvm.Cond.code ({ cls := "SignMasons$Book", name := "firstUnlike", desc := "(I)I" } : Jvm.MethodName) prog_2_method_8_code (5 : Nat) (Option.some Jvm.ClassFile.FieldType.int)) ∈ wsA := wA_of 514 (by decide +kernel) (by decide +kernel)
theorem wd515 : (Jvm.Cond.methodLinkNest "SignMasons$Book" (47 : Nat) ({ cls := "SignMasons$Look", name := "withThumb", desc := "(II)I" } : Jvm.MethodName) "SignMasons") ∈ nwA := nA_of 515 (by decide +kernel) (by decide +kernel)
theorem wd516 : (Jvm.Cond.methodLink "SignMasons$Book" (51 : Nat) ({ cls := "SignMasons$Book", name := "hasAlike", desc := "(I)Z" } : Jvm.MethodName)) ∈ wsA := wA_of 516 (by decide +kernel) (by decide +kernel)
theorem wd518 : (Jvm.Cond.instanceMethod ({ cls := "SignMasons$Book", name := "hasAlike", desc := "(I)Z" } : Jvm.MethodName)) ∈ wsA := wA_of 518 (by decide +kernel) (by decide +kernel)
theorem wd519 : (Jvm.Cond.code ({ cls := "SignMasons$Book", name := "hasAlike", desc := "(I)Z" } : Jvm.MethodName) prog_2_method_7_code (3 : Nat) (Option.some Jvm.ClassFile.FieldType.boolean)) ∈ wsA := wA_of 519 (by decide +kernel) (by decide +kernel)
theorem wd521 : (Jvm.Cond.methodLink "SignMasonsLaw" (76 : Nat) ({ cls := "SignMasonsLaw", name := "build", desc := "(LSignMasons;[I)LSignMasonsLaw$Sim;" } : Jvm.MethodName)) ∈ wsA := wA_of 521 (by decide +kernel) (by decide +kernel)
theorem wd522 : (Jvm.Cond.static ({ cls := "SignMasonsLaw", name := "build", desc := "(LSignMasons;[I)LSignMasonsLaw$Sim;" } : Jvm.MethodName)) ∈ wsA := wA_of 522 (by decide +kernel) (by decide +kernel)
theorem wd523 : (Jvm.Cond.code ({ cls := "SignMasonsLaw", name := "build", desc := "(LSignMasons;[I)LSignMasonsLaw$Sim;" } : Jvm.MethodName) method_5_code (6 : Nat) (Option.some (Jvm.ClassFile.FieldType.object "SignMasonsLaw$Sim"))) ∈ wsA := wA_of 523 (by decide +kernel) (by decide +kernel)
theorem wd524 : (Jvm.Cond.classLink "SignMasonsLaw" (10 : Nat) "SignMasonsLaw$Sim") ∈ wsA := wA_of 524 (by decide +kernel) (by decide +kernel)
theorem wd525 : (Jvm.Cond.instantiable "SignMasonsLaw$Sim" (2 : Nat)) ∈ wsA := wA_of 525 (by decide +kernel) (by decide +kernel)
theorem wd526 : (Jvm.Cond.methodLink "SignMasonsLaw" (66 : Nat) ({ cls := "SignMasonsLaw$Sim", name := "<init>", desc := "()V" } : Jvm.MethodName)) ∈ wsA := wA_of 526 (by decide +kernel) (by decide +kernel)
theorem wd527 : (Jvm.Cond.instanceMethod ({ cls := "SignMasonsLaw$Sim", name := "<init>", desc := "()V" } : Jvm.MethodName)) ∈ wsA := wA_of 527 (by decide +kernel) (by decide +kernel)
theorem wd528 : (Jvm.Cond.code ({ cls := "SignMasonsLaw$Sim", name := "<init>", desc := "()V" } : Jvm.MethodName) prog_6_method_1_code (2 : Nat) (Option.none : Option Jvm.ClassFile.FieldType)) ∈ wsA := wA_of 528 (by decide +kernel) (by decide +kernel)
theorem wd529 : (Jvm.Cond.methodLink "SignMasonsLaw$Sim" (1 : Nat) ({ cls := "java/lang/Object", name := "<init>", desc := "()V" } : Jvm.MethodName)) ∈ wsA := wA_of 529 (by decide +kernel) (by decide +kernel)
theorem wd530 : (Jvm.Cond.fieldLink "SignMasonsLaw$Sim" (9 : Nat) "SignMasonsLaw$Sim" "books" "[[[I") ∈ wsA := wA_of 530 (by decide +kernel) (by decide +kernel)
theorem wd531 : (Jvm.Cond.fieldLink "SignMasonsLaw" (9 : Nat) "SignMasonsLaw$Sim" "books" "[[[I") ∈ wsA := wA_of 531 (by decide +kernel) (by decide +kernel)
theorem wd532 : (Jvm.Cond.fieldLink "SignMasonsLaw$Sim" (17 : Nat) "SignMasonsLaw$Sim" "joined" "[[Z") ∈ wsA := wA_of 532 (by decide +kernel) (by decide +kernel)
theorem wd533 : (Jvm.Cond.lays "SignMasonsLaw$Sim" "SignMasonsLaw$Sim" "books" "[[[I") ∈ wsA := wA_of 533 (by decide +kernel) (by decide +kernel)
theorem wd535 : (Jvm.Cond.lays "SignMasonsLaw$Sim" "SignMasonsLaw$Sim" "joined" "[[Z") ∈ wsA := wA_of 535 (by decide +kernel) (by decide +kernel)
theorem wd538 : (Jvm.Cond.methodLink "SignMasonsLaw" (96 : Nat) ({ cls := "java/lang/Math", name := "min", desc := "(II)I" } : Jvm.MethodName)) ∈ wsA := wA_of 538 (by decide +kernel) (by decide +kernel)
theorem wd539 : (Jvm.Cond.classLink "SignMasonsLaw" (83 : Nat) "[[I") ∈ wsA := wA_of 539 (by decide +kernel) (by decide +kernel)
theorem wp0 : Cond.selects "java/lang/Throwable" (⟨"java/lang/Throwable", "fillInStackTrace", "(I)Ljava/lang/Throwable;"⟩ : MethodName) (⟨"java/lang/Throwable", "fillInStackTrace", "(I)Ljava/lang/Throwable;"⟩ : MethodName) ∈ wsA := wS_of 0 (by decide +kernel) (by decide +kernel)
theorem wp1 : Cond.selects "SignMasons$Places" (⟨"SignMasons$Places", "unite", "(II)V"⟩ : MethodName) (⟨"SignMasons$Places", "unite", "(II)V"⟩ : MethodName) ∈ wsA := wS_of 1 (by decide +kernel) (by decide +kernel)
theorem wp2 : Cond.selects "SignMasons$Places" (⟨"SignMasons$Places", "sameGroup", "(II)Z"⟩ : MethodName) (⟨"SignMasons$Places", "sameGroup", "(II)Z"⟩ : MethodName) ∈ wsA := wS_of 2 (by decide +kernel) (by decide +kernel)
theorem wp3 : Cond.selects "SignMasons$Places" (⟨"SignMasons$Places", "stepsBetween", "(II)I"⟩ : MethodName) (⟨"SignMasons$Places", "stepsBetween", "(II)I"⟩ : MethodName) ∈ wsA := wS_of 3 (by decide +kernel) (by decide +kernel)
theorem wp4 : Cond.selects "SignMasons" (⟨"SignMasons", "bookOf", "(I)LSignMasons$Book;"⟩ : MethodName) (⟨"SignMasons", "bookOf", "(I)LSignMasons$Book;"⟩ : MethodName) ∈ wsA := wS_of 4 (by decide +kernel) (by decide +kernel)
theorem wp5 : Cond.selects "SignMasons" (⟨"SignMasons", "lookOf", "(II)I"⟩ : MethodName) (⟨"SignMasons", "lookOf", "(II)I"⟩ : MethodName) ∈ wsA := wS_of 5 (by decide +kernel) (by decide +kernel)
theorem wp6 : Cond.selects "SignMasons$Book" (⟨"SignMasons$Book", "find", "(I)I"⟩ : MethodName) (⟨"SignMasons$Book", "find", "(I)I"⟩ : MethodName) ∈ wsA := wS_of 6 (by decide +kernel) (by decide +kernel)
theorem wp7 : Cond.selects "SignMasons$Places" (⟨"SignMasons$Places", "distance", "(II)I"⟩ : MethodName) (⟨"SignMasons$Places", "distance", "(II)I"⟩ : MethodName) ∈ wsA := wS_of 7 (by decide +kernel) (by decide +kernel)
theorem wp8 : Cond.selects "SignMasons$Book" (⟨"SignMasons$Book", "countAlike", "()I"⟩ : MethodName) (⟨"SignMasons$Book", "countAlike", "()I"⟩ : MethodName) ∈ wsA := wS_of 8 (by decide +kernel) (by decide +kernel)
theorem wp9 : Cond.selects "SignMasons$Places" (⟨"SignMasons$Places", "alike", "(II)Z"⟩ : MethodName) (⟨"SignMasons$Places", "alike", "(II)Z"⟩ : MethodName) ∈ wsA := wS_of 9 (by decide +kernel) (by decide +kernel)
theorem wp10 : Cond.selects "SignMasons$Book" (⟨"SignMasons$Book", "countThumbApart", "()I"⟩ : MethodName) (⟨"SignMasons$Book", "countThumbApart", "()I"⟩ : MethodName) ∈ wsA := wS_of 10 (by decide +kernel) (by decide +kernel)
theorem wp11 : Cond.selects "SignMasons$Book" (⟨"SignMasons$Book", "fewestApart", "()I"⟩ : MethodName) (⟨"SignMasons$Book", "fewestApart", "()I"⟩ : MethodName) ∈ wsA := wS_of 11 (by decide +kernel) (by decide +kernel)
theorem wp12 : Cond.selects "SignMasons$Book" (⟨"SignMasons$Book", "nearestBut", "(II)I"⟩ : MethodName) (⟨"SignMasons$Book", "nearestBut", "(II)I"⟩ : MethodName) ∈ wsA := wS_of 12 (by decide +kernel) (by decide +kernel)
theorem wp13 : Cond.selects "SignMasons$Book" (⟨"SignMasons$Book", "signNearMost", "()I"⟩ : MethodName) (⟨"SignMasons$Book", "signNearMost", "()I"⟩ : MethodName) ∈ wsA := wS_of 13 (by decide +kernel) (by decide +kernel)
theorem wp14 : Cond.selects "SignMasons$Book" (⟨"SignMasons$Book", "countNear", "(I)I"⟩ : MethodName) (⟨"SignMasons$Book", "countNear", "(I)I"⟩ : MethodName) ∈ wsA := wS_of 14 (by decide +kernel) (by decide +kernel)
theorem wp15 : Cond.selects "SignMasons$Book" (⟨"SignMasons$Book", "meaningRead", "(I)I"⟩ : MethodName) (⟨"SignMasons$Book", "meaningRead", "(I)I"⟩ : MethodName) ∈ wsA := wS_of 15 (by decide +kernel) (by decide +kernel)
theorem wp16 : Cond.selects "SignMasons$Book" (⟨"SignMasons$Book", "countUnderstood", "(LSignMasons$Book;)I"⟩ : MethodName) (⟨"SignMasons$Book", "countUnderstood", "(LSignMasons$Book;)I"⟩ : MethodName) ∈ wsA := wS_of 16 (by decide +kernel) (by decide +kernel)
theorem wp17 : Cond.selects "SignMasons$Book" (⟨"SignMasons$Book", "countMisread", "(LSignMasons$Book;)I"⟩ : MethodName) (⟨"SignMasons$Book", "countMisread", "(LSignMasons$Book;)I"⟩ : MethodName) ∈ wsA := wS_of 17 (by decide +kernel) (by decide +kernel)
theorem wp18 : Cond.selects "SignMasons$Book" (⟨"SignMasons$Book", "countCommon", "(LSignMasons$Book;)I"⟩ : MethodName) (⟨"SignMasons$Book", "countCommon", "(LSignMasons$Book;)I"⟩ : MethodName) ∈ wsA := wS_of 18 (by decide +kernel) (by decide +kernel)
theorem wp19 : Cond.selects "SignMasons$Book" (⟨"SignMasons$Book", "hasRoomFor", "(I)Z"⟩ : MethodName) (⟨"SignMasons$Book", "hasRoomFor", "(I)Z"⟩ : MethodName) ∈ wsA := wS_of 19 (by decide +kernel) (by decide +kernel)
theorem wp20 : Cond.selects "SignMasons$Book" (⟨"SignMasons$Book", "append", "(II)I"⟩ : MethodName) (⟨"SignMasons$Book", "append", "(II)I"⟩ : MethodName) ∈ wsA := wS_of 20 (by decide +kernel) (by decide +kernel)
theorem wp21 : Cond.selects "SignMasons$Book" (⟨"SignMasons$Book", "remove", "(I)I"⟩ : MethodName) (⟨"SignMasons$Book", "remove", "(I)I"⟩ : MethodName) ∈ wsA := wS_of 21 (by decide +kernel) (by decide +kernel)
theorem wp22 : Cond.selects "SignMasons$Book" (⟨"SignMasons$Book", "firstUnlike", "(I)I"⟩ : MethodName) (⟨"SignMasons$Book", "firstUnlike", "(I)I"⟩ : MethodName) ∈ wsA := wS_of 22 (by decide +kernel) (by decide +kernel)
theorem wp23 : Cond.selects "SignMasons$Book" (⟨"SignMasons$Book", "hasAlike", "(I)Z"⟩ : MethodName) (⟨"SignMasons$Book", "hasAlike", "(I)Z"⟩ : MethodName) ∈ wsA := wS_of 23 (by decide +kernel) (by decide +kernel)
end
section
abbrev MC : Type := Program × Launch × Env × Room × State × MethodId × Array Value × List Frame × Method × Code
abbrev mP (mc : MC) : Program := mc.1
abbrev mL (mc : MC) : Launch := mc.2.1
abbrev mE (mc : MC) : Env := mc.2.2.1
abbrev mR (mc : MC) : Room := mc.2.2.2.1
abbrev mS (mc : MC) : State := mc.2.2.2.2.1
abbrev mM (mc : MC) : MethodId := mc.2.2.2.2.2.1
abbrev mA (mc : MC) : Array Value := mc.2.2.2.2.2.2.1
abbrev mB (mc : MC) : List Frame := mc.2.2.2.2.2.2.2.1
abbrev mH (mc : MC) : Method := mc.2.2.2.2.2.2.2.2.1
abbrev mC (mc : MC) : Code := mc.2.2.2.2.2.2.2.2.2
/-- the pure state: numbers by their variable, rows by their number -/
abbrev Sg : Type := (Nat → Int) × (Nat → Int → Int)
/-- what stays: addresses by place; classes and slots; array classes (int[], boolean[], Book[], int[][], int[][][], boolean[][]); the first address of the law's own; what else lies in the world; the script: its address, its length, its numbers -/
abbrev GG : Type := (Nat → Nat) × va_G × (ClassId × ClassId × ClassId × ClassId × ClassId × ClassId) × Nat × va_W × Nat × Nat × (Nat → Int32)
abbrev gd (g : GG) : Nat → Nat := g.1
abbrev gD (g : GG) : va_G := g.2.1
abbrev gI (g : GG) : ClassId := g.2.2.1.1
abbrev gZ (g : GG) : ClassId := g.2.2.1.2.1
abbrev gB (g : GG) : ClassId := g.2.2.1.2.2.1
abbrev gY (g : GG) : ClassId := g.2.2.1.2.2.2.1
abbrev gU (g : GG) : ClassId := g.2.2.1.2.2.2.2.1
abbrev gV (g : GG) : ClassId := g.2.2.1.2.2.2.2.2
abbrev g0 (g : GG) : Nat := g.2.2.2.1
abbrev gX (g : GG) : va_W := g.2.2.2.2.1
abbrev gb (g : GG) : Nat := g.2.2.2.2.2.1
abbrev gn (g : GG) : Nat := g.2.2.2.2.2.2.1
abbrev gs (g : GG) : Nat → Int32 := g.2.2.2.2.2.2.2
def gA (g : GG) : Nat → Prop := fun q => g0 g ≤ q
def iI (z : Int) : Int32 := Int32.ofInt z
def jI (z : Int) : Int64 := Int64.ofInt z
abbrev vI (z : Int) : Value := .int (iI z)
def ri (g : GG) (f : Int → Int) (n : Nat) : va_E := .inl (gI g, n, .inl (fun j : Nat => iI (f (j : Int))))
def bk (g : GG) (σ : Sg) (b : Nat) : Nat × va_E := (gd g (4 + b), .inr (0, [.ref (gd g 1), .ref (gd g (9 + b)), .ref (gd g (14 + b)), vI (σ.1 (2 + b))]))
def hw (g : GG) (σ : Sg) : va_W := [
  (gd g 0, .inr (2, [.ref (gd g 1), .ref (gd g 3), .ref (gd g 8), vI (σ.1 0)])),
  (gd g 1, .inr (1, [.ref (gd g 2), vI (σ.1 1)])),
  (gd g 2, ri g (σ.2 0) 9),
  (gd g 3, .inl (gB g, 4, .inr (.inr (.inr (.inr (fun j : Nat => some (gd g (4 + j)))))))),
  bk g σ 0, bk g σ 1, bk g σ 2, bk g σ 3, bk g σ 4,
  (gd g 9, ri g (σ.2 1) 16), (gd g 10, ri g (σ.2 2) 16), (gd g 11, ri g (σ.2 3) 16), (gd g 12, ri g (σ.2 4) 16), (gd g 13, ri g (σ.2 5) 16),
  (gd g 14, ri g (σ.2 6) 16), (gd g 15, ri g (σ.2 7) 16), (gd g 16, ri g (σ.2 8) 16), (gd g 17, ri g (σ.2 9) 16), (gd g 18, ri g (σ.2 10) 16)] ++ gX g
abbrev gT (g : GG) : List (ClassId × FieldType) := [(gI g, .int), (gZ g, .boolean), (gB g, .object "SignMasons$Book"), (gY g, .array .int), (gU g, .array (.array .int)), (gV g, .array .boolean)]
/-- the script, and the tables' words of arrays of references -/
def TH (g : GG) (U : State) (H : Heap) : Prop := va_AO "SignMasons$Book" U ∧ va_AOA .int U ∧ va_AOA (.array .int) U ∧ va_AOA .boolean U ∧ gb g < g0 g ∧ va_X (gb g) (gn g) (gs g) U H
def WB (g : GG) (σ : Sg) (U : State) : Prop := g0 g ≤ U.heap.size ∧ va_P (gD g) vwCl (hw g σ) U.heap ∧ va_K (gD g) vwCl (gT g) U ∧ (∀ w ∈ nwA, va_Nw w U) ∧ TH g U U.heap ∧ ∀ τ, va_D (gA g) (hw g τ)
def Cx (mc : MC) (g : GG) (cc : ByteArray) (own : String) (nL : Nat) (ret : Option FieldType) : Prop :=
  (mP mc).tables.exec = Jvm.exec ∧ (mC mc).code = cc ∧ (mC mc).maxLocals = nL ∧ (mS mc).vm.findClass own = some (mM mc).cls ∧ (∀ w ∈ wsA, w.before (mA mc) (mS mc) = true) ∧ (mH mc).locks = false ∧ va_K (gD g) vwCl (gT g) (mS mc) ∧ (∀ w ∈ nwA, va_Nw w (mS mc)) ∧ TH g (mS mc) (mS mc).heap ∧ (∀ τ, va_D (gA g) (hw g τ)) ∧ g0 g ≤ (mS mc).heap.size ∧ (mL mc).stackTraces = false ∧ (mH mc).sig.returnType = ret
/-- at pc with these locals, this stack, this world: the method comes to Q -/
def J (mc : MC) (g : GG) (k n : Nat) (Q : State → Prop) (pc : Nat) (lv : List (Nat × Value)) (st : List Value) (σ : Sg) : Prop :=
  ∀ (H : Heap) (locs : List Loc) (ls : Array Slot), va_P (gD g) vwCl (hw g σ) H → va_S (gA g) (mS mc).heap H locs → lv_has ls (mC mc).maxLocals lv →
    W (mP mc) (mL mc) (mE mc) (mR mc) (mS mc) (mM mc) (mA mc) (mB mc) (mH mc) (mC mc) H locs k n Q (F0 (mM mc) pc ls st)
def QJ (g : GG) (post : Option Value → Sg → Prop) : Array Value → State → Outcome → State → Prop := fun _ st o t => (∃ v τ, o = .returned v ∧ post v τ ∧ va_P (gD g) vwCl (hw g τ) t.heap) ∧ va_F (gA g) st t
def XJ (g : GG) (px : String → Sg → Prop) : String → State → State → Prop := fun E st t => (∃ τ, px E τ ∧ va_P (gD g) vwCl (hw g τ) t.heap) ∧ va_F (gA g) st t
abbrev rmJ (fr lo k n : Nat) : Room := { frames := fr, cells := k, slots := n, locals := lo }
/-- a method's contract: it returns -/
def CN (l : Launch) (y : MethodName) (cc : ByteArray) (nL : Nat) (ret : Option FieldType) (fr lo k n : Nat) (g : GG) (as : List Value) (σ : Sg) (post : Option Value → Sg → Prop) : Prop :=
  Met l y (.code y cc nL ret :: wsA) (rmJ fr lo k n) (va_Pc as (WB g σ)) (QJ g post) k n (gA g)
/-- .. or throws -/
def CX (l : Launch) (y : MethodName) (cc : ByteArray) (nL : Nat) (ret : Option FieldType) (fr lo k n : Nat) (g : GG) (as : List Value) (σ : Sg) (post : Option Value → Sg → Prop) (px : String → Sg → Prop) : Prop :=
  vx_Met l y (.code y cc nL ret :: wsA) (rmJ fr lo k n) (va_Pc as (WB g σ)) (QJ g post) (XJ g px) k n (gA g)
def QN (mc : MC) (g : GG) (post : Option Value → Sg → Prop) (k n : Nat) : State → Prop := MQ (mB mc) (QJ g post) (mA mc) (mS mc) k n (gA g)
def QX (mc : MC) (g : GG) (post : Option Value → Sg → Prop) (px : String → Sg → Prop) (k n : Nat) : State → Prop := vx_MQ (mB mc) (QJ g post) (XJ g px) (mA mc) (mS mc) k n (gA g)
theorem gA_new {g : GG} {U : State} (h : g0 g ≤ U.heap.size) : ∀ q, U.heap.size ≤ q → gA g q := fun _ hq => Nat.le_trans h hq
/-! numbers -/
theorem iI_toInt {z : Int} (h1 : -2147483648 ≤ z) (h2 : z < 2147483648) : (iI z).toInt = z := Int32.toInt_ofInt_of_le (by omega) (by omega)
theorem iI_of (x : Int32) : ∃ z : Int, -2147483648 ≤ z ∧ z < 2147483648 ∧ x = iI z := ⟨x.toInt, by have := x.le_toInt; omega, by have := x.toInt_lt; omega, (Int32.ofInt_toInt x).symm⟩
theorem iI_nat (n : Nat) : iI (n : Int) = Int32.ofNat n := Int32.ofInt_eq_ofNat
theorem iI_lt {a b : Int} (ha1 : -2147483648 ≤ a) (ha2 : a < 2147483648) (hb1 : -2147483648 ≤ b) (hb2 : b < 2147483648) : iI a < iI b ↔ a < b := by
  rw [Int32.lt_iff_toInt_lt, iI_toInt ha1 ha2, iI_toInt hb1 hb2]
theorem iI_le {a b : Int} (ha1 : -2147483648 ≤ a) (ha2 : a < 2147483648) (hb1 : -2147483648 ≤ b) (hb2 : b < 2147483648) : iI a ≤ iI b ↔ a ≤ b := by
  rw [Int32.le_iff_toInt_le, iI_toInt ha1 ha2, iI_toInt hb1 hb2]
theorem iI_eq {a b : Int} (ha1 : -2147483648 ≤ a) (ha2 : a < 2147483648) (hb1 : -2147483648 ≤ b) (hb2 : b < 2147483648) : iI a = iI b ↔ a = b := by
  rw [← Int32.toInt_inj, iI_toInt ha1 ha2, iI_toInt hb1 hb2]
theorem iI_0 : iI 0 = 0 := by decide
theorem iI_clamp {z : Int} (h1 : -2147483648 ≤ z) (h2 : z < 2147483648) : (iI z).toNatClampNeg = z.toNat := Int32.toNatClampNeg_ofInt_of_le (by omega) (by omega)
theorem iI_in {z : Int} {n : Nat} (h0 : 0 ≤ z) (h1 : z < n) (hn : n ≤ 2147483647) : vp_in (iI z) n := by
  rw [vp_in_iff, iI_toInt (by omega) (by omega)]
  omega
theorem iI_rd {f : Int → Int} {z : Int} (h0 : 0 ≤ z) (h2 : z < 2147483648) : (fun j : Nat => iI (f (j : Int))) (iI z).toNatClampNeg = iI (f z) := by
  show iI (f ((iI z).toNatClampNeg : Int)) = iI (f z)
  rw [iI_clamp (by omega) h2, Int.toNat_of_nonneg h0]
theorem iI_up {f : Int → Int} {z x : Int} (h0 : 0 ≤ z) (h2 : z < 2147483648) : upd (fun j : Nat => iI (f (j : Int))) (iI z).toNatClampNeg (iI x) = fun j : Nat => iI (if (j : Int) = z then x else f (j : Int)) := by
  funext j
  rw [iI_clamp (by omega) h2]
  by_cases h : (j : Int) = z
  · have e : j = z.toNat := by omega
    simp only [upd, if_pos e, if_pos h]
  · have e : ¬ j = z.toNat := by omega
    simp only [upd, if_neg e, if_neg h]
theorem iI_add (a b : Int) : iI a + iI b = iI (a + b) := (Int32.ofInt_add a b).symm
theorem iI_sub (a b : Int) : iI a - iI b = iI (a - b) := (Int32.ofInt_sub a b).symm
theorem iI_mul (a b : Int) : iI a * iI b = iI (a * b) := (Int32.ofInt_mul a b).symm
theorem iI_neg (a : Int) : - iI a = iI (- a) := (Int32.ofInt_neg a).symm
theorem iI_div {a b : Int} (h0 : 0 ≤ a) (h1 : a < 2147483648) (h2 : 0 < b) (h3 : b < 2147483648) : iI a / iI b = iI (a / b) := by
  obtain ⟨a, rfl⟩ := Int.eq_ofNat_of_zero_le h0
  obtain ⟨b, rfl⟩ := Int.eq_ofNat_of_zero_le (show 0 ≤ b by omega)
  have h := pk_div (a := a) (d := b) (by omega) (by omega) (by omega)
  rw [iI_nat, iI_nat]
  exact h.trans (iI_nat (a / b)).symm
theorem iI_rem {a b : Int} (h0 : 0 ≤ a) (h1 : a < 2147483648) (h2 : 0 < b) (h3 : b < 2147483648) : iI a - iI a / iI b * iI b = iI (a % b) := by
  rw [iI_div h0 h1 h2 h3, iI_mul, iI_sub]
  congr 1
  have := Int.emod_add_mul_ediv a b
  rw [Int.mul_comm] at this
  omega
theorem jI_add (a b : Int) : jI a + jI b = jI (a + b) := (Int64.ofInt_add a b).symm
theorem jI_mul (a b : Int) : jI a * jI b = jI (a * b) := (Int64.ofInt_mul a b).symm
theorem iI_long {a : Int} (h1 : -2147483648 ≤ a) (h2 : a < 2147483648) : (iI a).toInt64 = jI a := by
  rw [← Int64.ofInt_int32ToInt, iI_toInt h1 h2]
  rfl
end
section
theorem cc_eq {a b : Int} (hr : -2147483648 ≤ a ∧ a < 2147483648 ∧ -2147483648 ≤ b ∧ b < 2147483648) (h : iI a = iI b) : a = b := (iI_eq hr.1 hr.2.1 hr.2.2.1 hr.2.2.2).mp h
theorem cc_ne {a b : Int} (hr : -2147483648 ≤ a ∧ a < 2147483648 ∧ -2147483648 ≤ b ∧ b < 2147483648) (h : ¬ iI a = iI b) : a ≠ b := fun q => h ((iI_eq hr.1 hr.2.1 hr.2.2.1 hr.2.2.2).mpr q)
theorem cc_lt {a b : Int} (hr : -2147483648 ≤ a ∧ a < 2147483648 ∧ -2147483648 ≤ b ∧ b < 2147483648) (h : iI a < iI b) : a < b := (iI_lt hr.1 hr.2.1 hr.2.2.1 hr.2.2.2).mp h
theorem cc_nlt {a b : Int} (hr : -2147483648 ≤ a ∧ a < 2147483648 ∧ -2147483648 ≤ b ∧ b < 2147483648) (h : ¬ iI a < iI b) : b ≤ a := Int.not_lt.mp (fun q => h ((iI_lt hr.1 hr.2.1 hr.2.2.1 hr.2.2.2).mpr q))
theorem cc_le {a b : Int} (hr : -2147483648 ≤ a ∧ a < 2147483648 ∧ -2147483648 ≤ b ∧ b < 2147483648) (h : iI a ≤ iI b) : a ≤ b := (iI_le hr.1 hr.2.1 hr.2.2.1 hr.2.2.2).mp h
theorem cc_nle {a b : Int} (hr : -2147483648 ≤ a ∧ a < 2147483648 ∧ -2147483648 ≤ b ∧ b < 2147483648) (h : ¬ iI a ≤ iI b) : b < a := Int.not_le.mp (fun q => h ((iI_le hr.1 hr.2.1 hr.2.2.1 hr.2.2.2).mpr q))
theorem cc_gt {a b : Int} (hr : -2147483648 ≤ a ∧ a < 2147483648 ∧ -2147483648 ≤ b ∧ b < 2147483648) (h : iI b < iI a) : b < a := (iI_lt hr.2.2.1 hr.2.2.2 hr.1 hr.2.1).mp h
theorem cc_ngt {a b : Int} (hr : -2147483648 ≤ a ∧ a < 2147483648 ∧ -2147483648 ≤ b ∧ b < 2147483648) (h : ¬ iI b < iI a) : a ≤ b := Int.not_lt.mp (fun q => h ((iI_lt hr.2.2.1 hr.2.2.2 hr.1 hr.2.1).mpr q))
theorem cc_ge {a b : Int} (hr : -2147483648 ≤ a ∧ a < 2147483648 ∧ -2147483648 ≤ b ∧ b < 2147483648) (h : iI b ≤ iI a) : b ≤ a := (iI_le hr.2.2.1 hr.2.2.2 hr.1 hr.2.1).mp h
theorem cc_nge {a b : Int} (hr : -2147483648 ≤ a ∧ a < 2147483648 ∧ -2147483648 ≤ b ∧ b < 2147483648) (h : ¬ iI b ≤ iI a) : a < b := Int.not_le.mp (fun q => h ((iI_le hr.2.2.1 hr.2.2.2 hr.1 hr.2.1).mpr q))
theorem cc_nne {a b : Int} (hr : -2147483648 ≤ a ∧ a < 2147483648 ∧ -2147483648 ≤ b ∧ b < 2147483648) (h : ¬ ¬ iI a = iI b) : a = b := (iI_eq hr.1 hr.2.1 hr.2.2.1 hr.2.2.2).mp (Classical.not_not.mp h)
section JJ
variable {mc : MC} {g : GG} {k n : Nat} {Q : State → Prop} {pc : Nat} {lv : List (Nat × Value)} {st : List Value} {σ : Sg} {cc : ByteArray} {own : String} {nL : Nat} {ret : Option FieldType}
theorem j_iconst {z : Int} (hC : Cx mc g cc own nL ret) (hd : decode cc pc = .ok (.iconst z, 1)) (kk : J mc g k n Q (pc + 1) lv (vI z :: st) σ) : J mc g k n Q pc lv (st) σ :=
  fun H locs ls hP hS hl => lv_iconst hC.1 hC.2.1 hd rfl (kk H locs ls hP hS hl)
theorem j_bipush {z : Int} (hC : Cx mc g cc own nL ret) (hd : decode cc pc = .ok (.bipush z, 2)) (hz : (Int8.ofInt z).toInt32 = iI z) (kk : J mc g k n Q (pc + 2) lv (vI z :: st) σ) : J mc g k n Q pc lv (st) σ :=
  fun H locs ls hP hS hl => lv_bipush hC.1 hC.2.1 hd hz (kk H locs ls hP hS hl)
theorem j_sipush {z : Int} (hC : Cx mc g cc own nL ret) (hd : decode cc pc = .ok (.sipush z, 3)) (hz : (Int16.ofInt z).toInt32 = iI z) (kk : J mc g k n Q (pc + 3) lv (vI z :: st) σ) : J mc g k n Q pc lv (st) σ :=
  fun H locs ls hP hS hl => lv_sipush hC.1 hC.2.1 hd hz (kk H locs ls hP hS hl)
theorem j_iload_n {f : Fin 4} {x : Int32} (hC : Cx mc g cc own nL ret) (hd : decode cc pc = .ok (.iload_n f, 1)) (q : Nat) (hq : lv[q]? = some ((f : Nat), .int x)) (kk : J mc g k n Q (pc + 1) lv (.int x :: st) σ) : J mc g k n Q pc lv (st) σ :=
  fun H locs ls hP hS hl => lv_iload_n hC.1 hC.2.1 hd rfl (lv_at hl q hq) (kk H locs ls hP hS hl)
theorem j_iload {f : Nat} {x : Int32} (hC : Cx mc g cc own nL ret) (hd : decode cc pc = .ok (.iload f, 2)) (q : Nat) (hq : lv[q]? = some (f, .int x)) (kk : J mc g k n Q (pc + 2) lv (.int x :: st) σ) : J mc g k n Q pc lv (st) σ :=
  fun H locs ls hP hS hl => lv_iload hC.1 hC.2.1 hd (lv_at hl q hq) (kk H locs ls hP hS hl)
theorem j_lload_n {f : Fin 4} {x : Int64} (hC : Cx mc g cc own nL ret) (hd : decode cc pc = .ok (.lload_n f, 1)) (q : Nat) (hq : lv[q]? = some ((f : Nat), .long x)) (kk : J mc g k n Q (pc + 1) lv (.long x :: st) σ) : J mc g k n Q pc lv (st) σ :=
  fun H locs ls hP hS hl => lv_lload_n hC.1 hC.2.1 hd rfl (lv_at hl q hq) (kk H locs ls hP hS hl)
theorem j_lload {f : Nat} {x : Int64} (hC : Cx mc g cc own nL ret) (hd : decode cc pc = .ok (.lload f, 2)) (q : Nat) (hq : lv[q]? = some (f, .long x)) (kk : J mc g k n Q (pc + 2) lv (.long x :: st) σ) : J mc g k n Q pc lv (st) σ :=
  fun H locs ls hP hS hl => lv_lload hC.1 hC.2.1 hd (lv_at hl q hq) (kk H locs ls hP hS hl)
theorem j_dload {f : Nat} {x : UInt64} (hC : Cx mc g cc own nL ret) (hd : decode cc pc = .ok (.dload f, 2)) (q : Nat) (hq : lv[q]? = some (f, .double x)) (kk : J mc g k n Q (pc + 2) lv (.double x :: st) σ) : J mc g k n Q pc lv (st) σ :=
  fun H locs ls hP hS hl => lv_dload hC.1 hC.2.1 hd (lv_at hl q hq) (kk H locs ls hP hS hl)
theorem j_aload_n {f : Fin 4} {x : Nat} (hC : Cx mc g cc own nL ret) (hd : decode cc pc = .ok (.aload_n f, 1)) (q : Nat) (hq : lv[q]? = some ((f : Nat), .ref x)) (kk : J mc g k n Q (pc + 1) lv (.ref x :: st) σ) : J mc g k n Q pc lv (st) σ :=
  fun H locs ls hP hS hl => lv_aload_n hC.1 hC.2.1 hd rfl (lv_at hl q hq) (kk H locs ls hP hS hl)
theorem j_aload {f : Nat} {x : Nat} (hC : Cx mc g cc own nL ret) (hd : decode cc pc = .ok (.aload f, 2)) (q : Nat) (hq : lv[q]? = some (f, .ref x)) (kk : J mc g k n Q (pc + 2) lv (.ref x :: st) σ) : J mc g k n Q pc lv (st) σ :=
  fun H locs ls hP hS hl => lv_aload hC.1 hC.2.1 hd (lv_at hl q hq) (kk H locs ls hP hS hl)
theorem j_istore_n (hC : Cx mc g cc own nL ret) {f : Fin 4} {x : Int32} (hd : decode cc pc = .ok (.istore_n f, 1)) (lv2 : List (Nat × Value)) (hn : (f : Nat) < nL) (he : ((f : Nat), Value.int x) :: lv.filter (fun q => !(q.1 == (f : Nat)) && !(q.1 + 1 == (f : Nat) && q.2.category == 2)) = lv2) (kk : J mc g k n Q (pc + 1) lv2 st σ) : J mc g k n Q pc lv (.int x :: st) σ :=
  fun H locs ls hP hS hl => lv_istore_n hC.1 hC.2.1 hd rfl hl (by rw [hC.2.2.1]; exact hn) he (fun ls2 hl2 => kk H locs ls2 hP hS hl2)
theorem j_istore (hC : Cx mc g cc own nL ret) {f : Nat} {x : Int32} (hd : decode cc pc = .ok (.istore f, 2)) (lv2 : List (Nat × Value)) (hn : f < nL) (he : (f, Value.int x) :: lv.filter (fun q => !(q.1 == f) && !(q.1 + 1 == f && q.2.category == 2)) = lv2) (kk : J mc g k n Q (pc + 2) lv2 st σ) : J mc g k n Q pc lv (.int x :: st) σ :=
  fun H locs ls hP hS hl => lv_istore hC.1 hC.2.1 hd hl (by rw [hC.2.2.1]; exact hn) he (fun ls2 hl2 => kk H locs ls2 hP hS hl2)
theorem j_lstore_n (hC : Cx mc g cc own nL ret) {f : Fin 4} {x : Int64} (hd : decode cc pc = .ok (.lstore_n f, 1)) (lv2 : List (Nat × Value)) (hn : (f : Nat) + 1 < nL) (he : ((f : Nat), Value.long x) :: lv.filter (fun q => !(q.1 == (f : Nat)) && (!(q.1 == (f : Nat) + 1) && !(q.1 + 1 == (f : Nat) && q.2.category == 2))) = lv2) (kk : J mc g k n Q (pc + 1) lv2 st σ) : J mc g k n Q pc lv (.long x :: st) σ :=
  fun H locs ls hP hS hl => lv_lstore_n hC.1 hC.2.1 hd rfl hl (by rw [hC.2.2.1]; exact hn) he (fun ls2 hl2 => kk H locs ls2 hP hS hl2)
theorem j_lstore (hC : Cx mc g cc own nL ret) {f : Nat} {x : Int64} (hd : decode cc pc = .ok (.lstore f, 2)) (lv2 : List (Nat × Value)) (hn : f + 1 < nL) (he : (f, Value.long x) :: lv.filter (fun q => !(q.1 == f) && (!(q.1 == f + 1) && !(q.1 + 1 == f && q.2.category == 2))) = lv2) (kk : J mc g k n Q (pc + 2) lv2 st σ) : J mc g k n Q pc lv (.long x :: st) σ :=
  fun H locs ls hP hS hl => lv_lstore hC.1 hC.2.1 hd hl (by rw [hC.2.2.1]; exact hn) he (fun ls2 hl2 => kk H locs ls2 hP hS hl2)
theorem j_dstore (hC : Cx mc g cc own nL ret) {f : Nat} {x : UInt64} (hd : decode cc pc = .ok (.dstore f, 2)) (lv2 : List (Nat × Value)) (hn : f + 1 < nL) (he : (f, Value.double x) :: lv.filter (fun q => !(q.1 == f) && (!(q.1 == f + 1) && !(q.1 + 1 == f && q.2.category == 2))) = lv2) (kk : J mc g k n Q (pc + 2) lv2 st σ) : J mc g k n Q pc lv (.double x :: st) σ :=
  fun H locs ls hP hS hl => lv_dstore hC.1 hC.2.1 hd hl (by rw [hC.2.2.1]; exact hn) he (fun ls2 hl2 => kk H locs ls2 hP hS hl2)
theorem j_astore_n (hC : Cx mc g cc own nL ret) {f : Fin 4} {x : Nat} (hd : decode cc pc = .ok (.astore_n f, 1)) (lv2 : List (Nat × Value)) (hn : (f : Nat) < nL) (he : ((f : Nat), Value.ref x) :: lv.filter (fun q => !(q.1 == (f : Nat)) && !(q.1 + 1 == (f : Nat) && q.2.category == 2)) = lv2) (kk : J mc g k n Q (pc + 1) lv2 st σ) : J mc g k n Q pc lv (.ref x :: st) σ :=
  fun H locs ls hP hS hl => lv_astore_n hC.1 hC.2.1 hd rfl hl (by rw [hC.2.2.1]; exact hn) he (fun ls2 hl2 => kk H locs ls2 hP hS hl2)
theorem j_astore (hC : Cx mc g cc own nL ret) {f : Nat} {x : Nat} (hd : decode cc pc = .ok (.astore f, 2)) (lv2 : List (Nat × Value)) (hn : f < nL) (he : (f, Value.ref x) :: lv.filter (fun q => !(q.1 == f) && !(q.1 + 1 == f && q.2.category == 2)) = lv2) (kk : J mc g k n Q (pc + 2) lv2 st σ) : J mc g k n Q pc lv (.ref x :: st) σ :=
  fun H locs ls hP hS hl => lv_astore hC.1 hC.2.1 hd hl (by rw [hC.2.2.1]; exact hn) he (fun ls2 hl2 => kk H locs ls2 hP hS hl2)
theorem j_iinc (hC : Cx mc g cc own nL ret) {f : Nat} {d z : Int} (hd : decode cc pc = .ok (.iinc f d, 3)) (q : Nat) (lv2 : List (Nat × Value)) (hq : lv[q]? = some (f, vI z)) (hn : f < nL) (he : (f, vI (z + d)) :: lv.filter (fun q => !(q.1 == f) && !(q.1 + 1 == f && q.2.category == 2)) = lv2) (kk : J mc g k n Q (pc + 3) lv2 st σ) : J mc g k n Q pc lv st σ :=
  fun H locs ls hP hS hl => lv_iinc (v := iI (z + d)) hC.1 hC.2.1 hd hl hq (iI_add z d) (by rw [hC.2.2.1]; exact hn) he (fun ls2 hl2 => kk H locs ls2 hP hS hl2)
theorem j_iadd {a b : Int} (hC : Cx mc g cc own nL ret) (hd : decode cc pc = .ok (.iadd, 1)) (kk : J mc g k n Q (pc + 1) lv (vI (a + b) :: st) σ) : J mc g k n Q pc lv (vI b :: vI a :: st) σ :=
  fun H locs ls hP hS hl => lv_iadd hC.1 hC.2.1 hd (by rw [iI_add]; exact (kk H locs ls hP hS hl))
theorem j_isub {a b : Int} (hC : Cx mc g cc own nL ret) (hd : decode cc pc = .ok (.isub, 1)) (kk : J mc g k n Q (pc + 1) lv (vI (a - b) :: st) σ) : J mc g k n Q pc lv (vI b :: vI a :: st) σ :=
  fun H locs ls hP hS hl => lv_isub hC.1 hC.2.1 hd (by rw [iI_sub]; exact (kk H locs ls hP hS hl))
theorem j_imul {a b : Int} (hC : Cx mc g cc own nL ret) (hd : decode cc pc = .ok (.imul, 1)) (kk : J mc g k n Q (pc + 1) lv (vI (a * b) :: st) σ) : J mc g k n Q pc lv (vI b :: vI a :: st) σ :=
  fun H locs ls hP hS hl => lv_imul hC.1 hC.2.1 hd (by rw [iI_mul]; exact (kk H locs ls hP hS hl))
theorem j_ineg {a : Int} (hC : Cx mc g cc own nL ret) (hd : decode cc pc = .ok (.ineg, 1)) (kk : J mc g k n Q (pc + 1) lv (vI (-a) :: st) σ) : J mc g k n Q pc lv (vI a :: st) σ :=
  fun H locs ls hP hS hl => lv_ineg hC.1 hC.2.1 hd (by first | (rw [iI_neg]; exact (kk H locs ls hP hS hl)) | (rw [show (0 : Int32) - iI a = iI (-a) by rw [← iI_neg]; simp]; exact (kk H locs ls hP hS hl)))
theorem j_idiv {a b : Int} (hC : Cx mc g cc own nL ret) (hd : decode cc pc = .ok (.idiv, 1)) (h : 0 ≤ a ∧ a < 2147483648 ∧ 0 < b ∧ b < 2147483648) (kk : J mc g k n Q (pc + 1) lv (vI (a / b) :: st) σ) : J mc g k n Q pc lv (vI b :: vI a :: st) σ :=
  fun H locs ls hP hS hl => lv_idiv hC.1 hC.2.1 hd (fun q => by have := (iI_eq (a := b) (b := 0) (by omega) (by omega) (by omega) (by omega)).mp (q.trans iI_0.symm); omega) (by rw [iI_div h.1 h.2.1 h.2.2.1 h.2.2.2]; exact (kk H locs ls hP hS hl))
theorem j_irem {a b : Int} (hC : Cx mc g cc own nL ret) (hd : decode cc pc = .ok (.irem, 1)) (h : 0 ≤ a ∧ a < 2147483648 ∧ 0 < b ∧ b < 2147483648) (kk : J mc g k n Q (pc + 1) lv (vI (a % b) :: st) σ) : J mc g k n Q pc lv (vI b :: vI a :: st) σ :=
  fun H locs ls hP hS hl => lv_irem hC.1 hC.2.1 hd (fun q => by have := (iI_eq (a := b) (b := 0) (by omega) (by omega) (by omega) (by omega)).mp (q.trans iI_0.symm); omega) (by rw [iI_rem h.1 h.2.1 h.2.2.1 h.2.2.2]; exact (kk H locs ls hP hS hl))
theorem j_iand {a b r : Int} (hC : Cx mc g cc own nL ret) (hd : decode cc pc = .ok (.iand, 1)) (hr : iI a &&& iI b = iI r) (kk : J mc g k n Q (pc + 1) lv (vI r :: st) σ) : J mc g k n Q pc lv (vI b :: vI a :: st) σ :=
  fun H locs ls hP hS hl => lv_iand hC.1 hC.2.1 hd (by rw [hr]; exact (kk H locs ls hP hS hl))
theorem j_ior {a b r : Int} (hC : Cx mc g cc own nL ret) (hd : decode cc pc = .ok (.ior, 1)) (hr : iI a ||| iI b = iI r) (kk : J mc g k n Q (pc + 1) lv (vI r :: st) σ) : J mc g k n Q pc lv (vI b :: vI a :: st) σ :=
  fun H locs ls hP hS hl => lv_ior hC.1 hC.2.1 hd (by rw [hr]; exact (kk H locs ls hP hS hl))
theorem j_ixor {a b r : Int} (hC : Cx mc g cc own nL ret) (hd : decode cc pc = .ok (.ixor, 1)) (hr : iI a ^^^ iI b = iI r) (kk : J mc g k n Q (pc + 1) lv (vI r :: st) σ) : J mc g k n Q pc lv (vI b :: vI a :: st) σ :=
  fun H locs ls hP hS hl => lv_ixor hC.1 hC.2.1 hd (by rw [hr]; exact (kk H locs ls hP hS hl))
theorem j_ishl {a b r : Int} (hC : Cx mc g cc own nL ret) (hd : decode cc pc = .ok (.ishl, 1)) (hr : iI a <<< (iI b &&& 31) = iI r) (kk : J mc g k n Q (pc + 1) lv (vI r :: st) σ) : J mc g k n Q pc lv (vI b :: vI a :: st) σ :=
  fun H locs ls hP hS hl => lv_ishl hC.1 hC.2.1 hd (by rw [hr]; exact (kk H locs ls hP hS hl))
theorem j_ishr {a b r : Int} (hC : Cx mc g cc own nL ret) (hd : decode cc pc = .ok (.ishr, 1)) (hr : iI a >>> (iI b &&& 31) = iI r) (kk : J mc g k n Q (pc + 1) lv (vI r :: st) σ) : J mc g k n Q pc lv (vI b :: vI a :: st) σ :=
  fun H locs ls hP hS hl => lv_ishr hC.1 hC.2.1 hd (by rw [hr]; exact (kk H locs ls hP hS hl))
theorem j_iushr {x y v : Int32} (hC : Cx mc g cc own nL ret) (hd : decode cc pc = .ok (.iushr, 1)) (hv : (x.toUInt32 >>> (y.toUInt32 &&& Int32.toUInt32 31)).toInt32 = v) (kk : J mc g k n Q (pc + 1) lv (.int v :: st) σ) : J mc g k n Q pc lv (.int y :: .int x :: st) σ :=
  fun H locs ls hP hS hl => lv_iushr hC.1 hC.2.1 hd hv (kk H locs ls hP hS hl)
theorem j_iaddR {x y : Int32} (hC : Cx mc g cc own nL ret) (hd : decode cc pc = .ok (.iadd, 1)) (kk : J mc g k n Q (pc + 1) lv (.int (x + y) :: st) σ) : J mc g k n Q pc lv (.int y :: .int x :: st) σ :=
  fun H locs ls hP hS hl => lv_iadd hC.1 hC.2.1 hd (kk H locs ls hP hS hl)
theorem j_isubR {x y : Int32} (hC : Cx mc g cc own nL ret) (hd : decode cc pc = .ok (.isub, 1)) (kk : J mc g k n Q (pc + 1) lv (.int (x - y) :: st) σ) : J mc g k n Q pc lv (.int y :: .int x :: st) σ :=
  fun H locs ls hP hS hl => lv_isub hC.1 hC.2.1 hd (kk H locs ls hP hS hl)
theorem j_iandR {x y : Int32} (hC : Cx mc g cc own nL ret) (hd : decode cc pc = .ok (.iand, 1)) (kk : J mc g k n Q (pc + 1) lv (.int (x &&& y) :: st) σ) : J mc g k n Q pc lv (.int y :: .int x :: st) σ :=
  fun H locs ls hP hS hl => lv_iand hC.1 hC.2.1 hd (kk H locs ls hP hS hl)
theorem j_i2l {a : Int} (hC : Cx mc g cc own nL ret) (hd : decode cc pc = .ok (.i2l, 1)) (h : -2147483648 ≤ a ∧ a < 2147483648) (kk : J mc g k n Q (pc + 1) lv (.long (jI a) :: st) σ) : J mc g k n Q pc lv (vI a :: st) σ :=
  fun H locs ls hP hS hl => lv_i2l hC.1 hC.2.1 hd (iI_long h.1 h.2) (kk H locs ls hP hS hl)
theorem j_ladd {a b : Int} (hC : Cx mc g cc own nL ret) (hd : decode cc pc = .ok (.ladd, 1)) (kk : J mc g k n Q (pc + 1) lv (.long (jI (a + b)) :: st) σ) : J mc g k n Q pc lv (.long (jI b) :: .long (jI a) :: st) σ :=
  fun H locs ls hP hS hl => lv_ladd hC.1 hC.2.1 hd (by rw [jI_add]; exact (kk H locs ls hP hS hl))
theorem j_lmul {a b : Int} (hC : Cx mc g cc own nL ret) (hd : decode cc pc = .ok (.lmul, 1)) (kk : J mc g k n Q (pc + 1) lv (.long (jI (a * b)) :: st) σ) : J mc g k n Q pc lv (.long (jI b) :: .long (jI a) :: st) σ :=
  fun H locs ls hP hS hl => lv_lmul hC.1 hC.2.1 hd (by rw [jI_mul]; exact (kk H locs ls hP hS hl))
theorem j_lcmp {x y : Int64} (hC : Cx mc g cc own nL ret) (hd : decode cc pc = .ok (.lcmp, 1)) (kk : J mc g k n Q (pc + 1) lv (.int (lg_cmp x y) :: st) σ) : J mc g k n Q pc lv (.long y :: .long x :: st) σ :=
  fun H locs ls hP hS hl => W.lcmp hC.1 hC.2.1 hd (kk H locs ls hP hS hl)
theorem j_i2d {x : Int32} (hC : Cx mc g cc own nL ret) (hd : decode cc pc = .ok (.i2d, 1)) (kk : J mc g k n Q (pc + 1) lv (.double (FP.i2d x) :: st) σ) : J mc g k n Q pc lv (.int x :: st) σ :=
  fun H locs ls hP hS hl => lv_i2d hC.1 hC.2.1 hd (kk H locs ls hP hS hl)
theorem j_ddiv {x y : UInt64} (hC : Cx mc g cc own nL ret) (hd : decode cc pc = .ok (.ddiv, 1)) (hn : vf_n64 (FP.ddiv x y)) (kk : J mc g k n Q (pc + 1) lv (.double (FP.ddiv x y) :: st) σ) : J mc g k n Q pc lv (.double y :: .double x :: st) σ :=
  fun H locs ls hP hS hl => lv_ddiv hC.1 hC.2.1 hd hn (kk H locs ls hP hS hl)
theorem j_dconst0 (hC : Cx mc g cc own nL ret) (hd : decode cc pc = .ok (.dconst 0, 1)) (kk : J mc g k n Q (pc + 1) lv (.double 0 :: st) σ) : J mc g k n Q pc lv (st) σ :=
  fun H locs ls hP hS hl => lv_dconst0 hC.1 hC.2.1 hd (kk H locs ls hP hS hl)
theorem j_dcmp {x y : UInt64} {op : CmpOp} (hC : Cx mc g cc own nL ret) (hd : decode cc pc = .ok (.dcmp op, 1)) (kk : J mc g k n Q (pc + 1) lv (.int (Op.cmpValue (FP.dcmp x y) op) :: st) σ) : J mc g k n Q pc lv (.double y :: .double x :: st) σ :=
  fun H locs ls hP hS hl => lv_dcmp hC.1 hC.2.1 hd (kk H locs ls hP hS hl)
theorem j_lconst {f : Fin 2} {v : Int64} (hC : Cx mc g cc own nL ret) (hd : decode cc pc = .ok (.lconst f, 1)) (hv : Int64.ofNat (f : Nat) = v) (kk : J mc g k n Q (pc + 1) lv (.long v :: st) σ) : J mc g k n Q pc lv (st) σ :=
  fun H locs ls hP hS hl => lv_lconst hC.1 hC.2.1 hd hv (kk H locs ls hP hS hl)
theorem j_dup {v : Value} (hC : Cx mc g cc own nL ret) (hd : decode cc pc = .ok (.dup, 1)) (hv : v.category = 1) (kk : J mc g k n Q (pc + 1) lv (v :: v :: st) σ) : J mc g k n Q pc lv (v :: st) σ :=
  fun H locs ls hP hS hl => lv_dup hC.1 hC.2.1 hd hv (kk H locs ls hP hS hl)
theorem j_dup2 {v w : Value} (hC : Cx mc g cc own nL ret) (hd : decode cc pc = .ok (.dup2, 1)) (hv : v.category = 1) (hw : w.category = 1) (kk : J mc g k n Q (pc + 1) lv (v :: w :: v :: w :: st) σ) : J mc g k n Q pc lv (v :: w :: st) σ :=
  fun H locs ls hP hS hl => lv_dup2_11 hC.1 hC.2.1 hd hv hw (kk H locs ls hP hS hl)
theorem j_pop {v : Value} (hC : Cx mc g cc own nL ret) (hd : decode cc pc = .ok (.pop, 1)) (hv : v.category = 1) (kk : J mc g k n Q (pc + 1) lv (st) σ) : J mc g k n Q pc lv (v :: st) σ :=
  fun H locs ls hP hS hl => lv_pop hC.1 hC.2.1 hd hv (kk H locs ls hP hS hl)
theorem j_ldc {index : Nat} {v : Int32} (hC : Cx mc g cc own nL ret) (hd : decode cc pc = .ok (.ldc index, 2)) (hw : Cond.constant own index v ∈ wsA) (kk : J mc g k n Q (pc + 2) lv (.int v :: st) σ) : J mc g k n Q pc lv (st) σ :=
  fun H locs ls hP hS hl => lv_ldc hC.1 hC.2.1 hC.2.2.2.1 (hC.2.2.2.2.1 _ hw) hd (kk H locs ls hP hS hl)
theorem j_ldc_w {index : Nat} {v : Int32} (hC : Cx mc g cc own nL ret) (hd : decode cc pc = .ok (.ldc_w index, 3)) (hw : Cond.constant own index v ∈ wsA) (kk : J mc g k n Q (pc + 3) lv (.int v :: st) σ) : J mc g k n Q pc lv (st) σ :=
  fun H locs ls hP hS hl => lv_ldcw hC.1 hC.2.1 hC.2.2.2.1 (hC.2.2.2.2.1 _ hw) hd (kk H locs ls hP hS hl)
theorem j_ldc2 {index : Nat} {v : Int64} (hC : Cx mc g cc own nL ret) (hd : decode cc pc = .ok (.ldc2_w index, 3)) (hw : Cond.constantLong own index v ∈ wsA) (kk : J mc g k n Q (pc + 3) lv (.long v :: st) σ) : J mc g k n Q pc lv (st) σ :=
  fun H locs ls hP hS hl => lv_ldc2 hC.1 hC.2.1 hC.2.2.2.1 (hC.2.2.2.2.1 _ hw) hd (kk H locs ls hP hS hl)
theorem j_icmp_eq (hC : Cx mc g cc own nL ret) {a b off : Int} {tgt : Nat} (hd : decode cc pc = .ok (.if_icmp .eq off, 3)) (ht : (pc : Int) + off = (tgt : Int)) (hr : -2147483648 ≤ a ∧ a < 2147483648 ∧ -2147483648 ≤ b ∧ b < 2147483648) (kt : a = b → J mc g k n Q tgt lv st σ) (kf : a ≠ b → J mc g k n Q (pc + 3) lv st σ) : J mc g k n Q pc lv (vI b :: vI a :: st) σ :=
  fun H locs ls hP hS hl => lv_icmp_eq hC.1 hC.2.1 hd ht (fun h => kt (cc_eq hr h) H locs ls hP hS hl) (fun h => kf (cc_ne hr h) H locs ls hP hS hl)
theorem j_icmp_ne (hC : Cx mc g cc own nL ret) {a b off : Int} {tgt : Nat} (hd : decode cc pc = .ok (.if_icmp .ne off, 3)) (ht : (pc : Int) + off = (tgt : Int)) (hr : -2147483648 ≤ a ∧ a < 2147483648 ∧ -2147483648 ≤ b ∧ b < 2147483648) (kt : a ≠ b → J mc g k n Q tgt lv st σ) (kf : a = b → J mc g k n Q (pc + 3) lv st σ) : J mc g k n Q pc lv (vI b :: vI a :: st) σ :=
  fun H locs ls hP hS hl => lv_icmp_ne hC.1 hC.2.1 hd ht (fun h => kt (cc_ne hr h) H locs ls hP hS hl) (fun h => kf (cc_eq hr h) H locs ls hP hS hl)
theorem j_icmp_lt (hC : Cx mc g cc own nL ret) {a b off : Int} {tgt : Nat} (hd : decode cc pc = .ok (.if_icmp .lt off, 3)) (ht : (pc : Int) + off = (tgt : Int)) (hr : -2147483648 ≤ a ∧ a < 2147483648 ∧ -2147483648 ≤ b ∧ b < 2147483648) (kt : a < b → J mc g k n Q tgt lv st σ) (kf : b ≤ a → J mc g k n Q (pc + 3) lv st σ) : J mc g k n Q pc lv (vI b :: vI a :: st) σ :=
  fun H locs ls hP hS hl => lv_icmp_lt hC.1 hC.2.1 hd ht (fun h => kt (cc_lt hr h) H locs ls hP hS hl) (fun h => kf (cc_nlt hr h) H locs ls hP hS hl)
theorem j_icmp_ge (hC : Cx mc g cc own nL ret) {a b off : Int} {tgt : Nat} (hd : decode cc pc = .ok (.if_icmp .ge off, 3)) (ht : (pc : Int) + off = (tgt : Int)) (hr : -2147483648 ≤ a ∧ a < 2147483648 ∧ -2147483648 ≤ b ∧ b < 2147483648) (kt : b ≤ a → J mc g k n Q tgt lv st σ) (kf : a < b → J mc g k n Q (pc + 3) lv st σ) : J mc g k n Q pc lv (vI b :: vI a :: st) σ :=
  fun H locs ls hP hS hl => lv_icmp_ge hC.1 hC.2.1 hd ht (fun h => kt (cc_ge hr h) H locs ls hP hS hl) (fun h => kf (cc_nge hr h) H locs ls hP hS hl)
theorem j_icmp_gt (hC : Cx mc g cc own nL ret) {a b off : Int} {tgt : Nat} (hd : decode cc pc = .ok (.if_icmp .gt off, 3)) (ht : (pc : Int) + off = (tgt : Int)) (hr : -2147483648 ≤ a ∧ a < 2147483648 ∧ -2147483648 ≤ b ∧ b < 2147483648) (kt : b < a → J mc g k n Q tgt lv st σ) (kf : a ≤ b → J mc g k n Q (pc + 3) lv st σ) : J mc g k n Q pc lv (vI b :: vI a :: st) σ :=
  fun H locs ls hP hS hl => lv_icmp_gt hC.1 hC.2.1 hd ht (fun h => kt (cc_gt hr h) H locs ls hP hS hl) (fun h => kf (cc_ngt hr h) H locs ls hP hS hl)
theorem j_icmp_le (hC : Cx mc g cc own nL ret) {a b off : Int} {tgt : Nat} (hd : decode cc pc = .ok (.if_icmp .le off, 3)) (ht : (pc : Int) + off = (tgt : Int)) (hr : -2147483648 ≤ a ∧ a < 2147483648 ∧ -2147483648 ≤ b ∧ b < 2147483648) (kt : a ≤ b → J mc g k n Q tgt lv st σ) (kf : b < a → J mc g k n Q (pc + 3) lv st σ) : J mc g k n Q pc lv (vI b :: vI a :: st) σ :=
  fun H locs ls hP hS hl => lv_icmp_le hC.1 hC.2.1 hd ht (fun h => kt (cc_le hr h) H locs ls hP hS hl) (fun h => kf (cc_nle hr h) H locs ls hP hS hl)
theorem j_if_eq (hC : Cx mc g cc own nL ret) {a off : Int} {tgt : Nat} (hd : decode cc pc = .ok (.ifCond .eq off, 3)) (ht : (pc : Int) + off = (tgt : Int)) (hr : -2147483648 ≤ a ∧ a < 2147483648) (kt : a = 0 → J mc g k n Q tgt lv st σ) (kf : a ≠ 0 → J mc g k n Q (pc + 3) lv st σ) : J mc g k n Q pc lv (vI a :: st) σ := by
  intro H locs ls hP hS hl
  refine lv_if_eq hC.1 hC.2.1 hd ht (fun h => ?_) (fun h => ?_) <;> rw [← iI_0] at h
  · exact kt (cc_eq (show -2147483648 ≤ a ∧ a < 2147483648 ∧ (-2147483648 : Int) ≤ 0 ∧ (0 : Int) < 2147483648 by omega) h) H locs ls hP hS hl
  · exact kf (cc_ne (show -2147483648 ≤ a ∧ a < 2147483648 ∧ (-2147483648 : Int) ≤ 0 ∧ (0 : Int) < 2147483648 by omega) h) H locs ls hP hS hl
theorem j_if_ne (hC : Cx mc g cc own nL ret) {a off : Int} {tgt : Nat} (hd : decode cc pc = .ok (.ifCond .ne off, 3)) (ht : (pc : Int) + off = (tgt : Int)) (hr : -2147483648 ≤ a ∧ a < 2147483648) (kt : a ≠ 0 → J mc g k n Q tgt lv st σ) (kf : a = 0 → J mc g k n Q (pc + 3) lv st σ) : J mc g k n Q pc lv (vI a :: st) σ := by
  intro H locs ls hP hS hl
  refine lv_if_ne hC.1 hC.2.1 hd ht (fun h => ?_) (fun h => ?_) <;> rw [← iI_0] at h
  · exact kt (cc_ne (show -2147483648 ≤ a ∧ a < 2147483648 ∧ (-2147483648 : Int) ≤ 0 ∧ (0 : Int) < 2147483648 by omega) h) H locs ls hP hS hl
  · exact kf (cc_eq (show -2147483648 ≤ a ∧ a < 2147483648 ∧ (-2147483648 : Int) ≤ 0 ∧ (0 : Int) < 2147483648 by omega) h) H locs ls hP hS hl
theorem j_if_lt (hC : Cx mc g cc own nL ret) {a off : Int} {tgt : Nat} (hd : decode cc pc = .ok (.ifCond .lt off, 3)) (ht : (pc : Int) + off = (tgt : Int)) (hr : -2147483648 ≤ a ∧ a < 2147483648) (kt : a < 0 → J mc g k n Q tgt lv st σ) (kf : 0 ≤ a → J mc g k n Q (pc + 3) lv st σ) : J mc g k n Q pc lv (vI a :: st) σ := by
  intro H locs ls hP hS hl
  refine lv_if_lt hC.1 hC.2.1 hd ht (fun h => ?_) (fun h => ?_) <;> rw [← iI_0] at h
  · exact kt (cc_lt (show -2147483648 ≤ a ∧ a < 2147483648 ∧ (-2147483648 : Int) ≤ 0 ∧ (0 : Int) < 2147483648 by omega) h) H locs ls hP hS hl
  · exact kf (cc_nlt (show -2147483648 ≤ a ∧ a < 2147483648 ∧ (-2147483648 : Int) ≤ 0 ∧ (0 : Int) < 2147483648 by omega) h) H locs ls hP hS hl
theorem j_if_ge (hC : Cx mc g cc own nL ret) {a off : Int} {tgt : Nat} (hd : decode cc pc = .ok (.ifCond .ge off, 3)) (ht : (pc : Int) + off = (tgt : Int)) (hr : -2147483648 ≤ a ∧ a < 2147483648) (kt : 0 ≤ a → J mc g k n Q tgt lv st σ) (kf : a < 0 → J mc g k n Q (pc + 3) lv st σ) : J mc g k n Q pc lv (vI a :: st) σ := by
  intro H locs ls hP hS hl
  refine lv_if_ge hC.1 hC.2.1 hd ht (fun h => ?_) (fun h => ?_) <;> rw [← iI_0] at h
  · exact kt (cc_ge (show -2147483648 ≤ a ∧ a < 2147483648 ∧ (-2147483648 : Int) ≤ 0 ∧ (0 : Int) < 2147483648 by omega) h) H locs ls hP hS hl
  · exact kf (cc_nge (show -2147483648 ≤ a ∧ a < 2147483648 ∧ (-2147483648 : Int) ≤ 0 ∧ (0 : Int) < 2147483648 by omega) h) H locs ls hP hS hl
theorem j_if_gt (hC : Cx mc g cc own nL ret) {a off : Int} {tgt : Nat} (hd : decode cc pc = .ok (.ifCond .gt off, 3)) (ht : (pc : Int) + off = (tgt : Int)) (hr : -2147483648 ≤ a ∧ a < 2147483648) (kt : 0 < a → J mc g k n Q tgt lv st σ) (kf : a ≤ 0 → J mc g k n Q (pc + 3) lv st σ) : J mc g k n Q pc lv (vI a :: st) σ := by
  intro H locs ls hP hS hl
  refine lv_if_gt hC.1 hC.2.1 hd ht (fun h => ?_) (fun h => ?_) <;> rw [← iI_0] at h
  · exact kt (cc_gt (show -2147483648 ≤ a ∧ a < 2147483648 ∧ (-2147483648 : Int) ≤ 0 ∧ (0 : Int) < 2147483648 by omega) h) H locs ls hP hS hl
  · exact kf (cc_ngt (show -2147483648 ≤ a ∧ a < 2147483648 ∧ (-2147483648 : Int) ≤ 0 ∧ (0 : Int) < 2147483648 by omega) h) H locs ls hP hS hl
theorem j_if_le (hC : Cx mc g cc own nL ret) {a off : Int} {tgt : Nat} (hd : decode cc pc = .ok (.ifCond .le off, 3)) (ht : (pc : Int) + off = (tgt : Int)) (hr : -2147483648 ≤ a ∧ a < 2147483648) (kt : a ≤ 0 → J mc g k n Q tgt lv st σ) (kf : 0 < a → J mc g k n Q (pc + 3) lv st σ) : J mc g k n Q pc lv (vI a :: st) σ := by
  intro H locs ls hP hS hl
  refine lv_if_le hC.1 hC.2.1 hd ht (fun h => ?_) (fun h => ?_) <;> rw [← iI_0] at h
  · exact kt (cc_le (show -2147483648 ≤ a ∧ a < 2147483648 ∧ (-2147483648 : Int) ≤ 0 ∧ (0 : Int) < 2147483648 by omega) h) H locs ls hP hS hl
  · exact kf (cc_nle (show -2147483648 ≤ a ∧ a < 2147483648 ∧ (-2147483648 : Int) ≤ 0 ∧ (0 : Int) < 2147483648 by omega) h) H locs ls hP hS hl
theorem j_ifR_eq (hC : Cx mc g cc own nL ret) {x : Int32} {off : Int} {tgt : Nat} (hd : decode cc pc = .ok (.ifCond .eq off, 3)) (ht : (pc : Int) + off = (tgt : Int)) (kt : x = 0 → J mc g k n Q tgt lv st σ) (kf : ¬ x = 0 → J mc g k n Q (pc + 3) lv st σ) : J mc g k n Q pc lv (.int x :: st) σ :=
  fun H locs ls hP hS hl => lv_if_eq hC.1 hC.2.1 hd ht (fun h => kt h H locs ls hP hS hl) (fun h => kf h H locs ls hP hS hl)
theorem j_ifR_ne (hC : Cx mc g cc own nL ret) {x : Int32} {off : Int} {tgt : Nat} (hd : decode cc pc = .ok (.ifCond .ne off, 3)) (ht : (pc : Int) + off = (tgt : Int)) (kt : ¬ x = 0 → J mc g k n Q tgt lv st σ) (kf : x = 0 → J mc g k n Q (pc + 3) lv st σ) : J mc g k n Q pc lv (.int x :: st) σ :=
  fun H locs ls hP hS hl => lv_if_ne hC.1 hC.2.1 hd ht (fun h => kt h H locs ls hP hS hl) (fun h => kf h H locs ls hP hS hl)
theorem j_goto (hC : Cx mc g cc own nL ret) {off : Int} {tgt : Nat} (hd : decode cc pc = .ok (.goto off, 3)) (ht : (pc : Int) + off = (tgt : Int)) (kk : J mc g k n Q tgt lv st σ) : J mc g k n Q pc lv st σ :=
  fun H locs ls hP hS hl => lv_goto hC.1 hC.2.1 hd ht (kk H locs ls hP hS hl)
theorem j_sub {lv2 : List (Nat × Value)} (ks : List Nat) (he : lv_pick lv ks = lv2) (kk : J mc g k n Q pc lv2 st σ) : J mc g k n Q pc lv st σ :=
  fun H locs ls hP hS hl => kk H locs ls hP hS (lv_sub hl ks he)
theorem j_widen {k2 n2 : Nat} (h1 : k ≤ k2) (h2 : n ≤ n2) (kk : J mc g k2 n2 Q pc lv st σ) : J mc g k n Q pc lv st σ :=
  fun H locs ls hP hS hl => W.widen h1 h2 (kk H locs ls hP hS hl)
theorem j_st {st2 : List Value} (h : st = st2) (kk : J mc g k n Q pc lv st2 σ) : J mc g k n Q pc lv st σ := h ▸ kk
theorem j_lv {lv2 : List (Nat × Value)} (h : lv = lv2) (kk : J mc g k n Q pc lv2 st σ) : J mc g k n Q pc lv st σ := h ▸ kk
end JJ
end
section
theorem hw_bk (g : GG) (σ : Sg) {b : Nat} (hb : b < 5) : (hw g σ)[4 + b]? = some (gd g (4 + b), .inr (0, [.ref (gd g 1), .ref (gd g (9 + b)), .ref (gd g (14 + b)), vI (σ.1 (2 + b))])) := by
  rcases (show b = 0 ∨ b = 1 ∨ b = 2 ∨ b = 3 ∨ b = 4 by omega) with rfl | rfl | rfl | rfl | rfl <;> rfl
theorem hw_lk (g : GG) (σ : Sg) {b : Nat} (hb : b < 5) : (hw g σ)[9 + b]? = some (gd g (9 + b), ri g (σ.2 (1 + b)) 16) := by
  rcases (show b = 0 ∨ b = 1 ∨ b = 2 ∨ b = 3 ∨ b = 4 by omega) with rfl | rfl | rfl | rfl | rfl <;> rfl
theorem hw_mn (g : GG) (σ : Sg) {b : Nat} (hb : b < 5) : (hw g σ)[14 + b]? = some (gd g (14 + b), ri g (σ.2 (6 + b)) 16) := by
  rcases (show b = 0 ∨ b = 1 ∨ b = 2 ∨ b = 3 ∨ b = 4 by omega) with rfl | rfl | rfl | rfl | rfl <;> rfl
/-- the number v becomes x -/
def sF (σ : Sg) (v : Nat) (x : Int) : Sg := (fun j => if j = v then x else σ.1 j, σ.2)
/-- the place i of the row a becomes x -/
def sG (σ : Sg) (a : Nat) (i x : Int) : Sg := (σ.1, fun b => if b = a then (fun j => if j = i then x else σ.2 a j) else σ.2 b)
theorem hs_cnt (g : GG) (σ : Sg) {b : Nat} (hb : b < 5) (x : Int) : (hw g σ).set (4 + b) (gd g (4 + b), .inr (0, ([.ref (gd g 1), .ref (gd g (9 + b)), .ref (gd g (14 + b)), vI (σ.1 (2 + b))] : List Value).set 3 (vI x))) = hw g (sF σ (2 + b) x) := by
  rcases (show b = 0 ∨ b = 1 ∨ b = 2 ∨ b = 3 ∨ b = 4 by omega) with rfl | rfl | rfl | rfl | rfl <;> rfl
theorem hs_lk (g : GG) (σ : Sg) {b : Nat} (hb : b < 5) (i x : Int) : (hw g σ).set (9 + b) (gd g (9 + b), ri g (fun j => if j = i then x else σ.2 (1 + b) j) 16) = hw g (sG σ (1 + b) i x) := by
  rcases (show b = 0 ∨ b = 1 ∨ b = 2 ∨ b = 3 ∨ b = 4 by omega) with rfl | rfl | rfl | rfl | rfl <;> rfl
theorem hs_mn (g : GG) (σ : Sg) {b : Nat} (hb : b < 5) (i x : Int) : (hw g σ).set (14 + b) (gd g (14 + b), ri g (fun j => if j = i then x else σ.2 (6 + b) j) 16) = hw g (sG σ (6 + b) i x) := by
  rcases (show b = 0 ∨ b = 1 ∨ b = 2 ∨ b = 3 ∨ b = 4 by omega) with rfl | rfl | rfl | rfl | rfl <;> rfl
theorem nw_warm {s U : State} (hW : s.WarmedH U.vm) (h : ∀ w ∈ nwA, va_Nw w s) : ∀ w ∈ nwA, va_Nw w U := by
  intro w hw
  have h1 := h w hw
  have h2 := (List.mem_filter.mp hw).2
  cases w <;> first | exact va_Nw.warmF hW h1 | exact va_Nw.warmM hW h1 | exact va_Nw.warmC hW h1 | exact va_Nw.warmD hW h1 | exact absurd h2 (by decide) | (simp [isNest] at h2)
theorem aoa_bare (vm : Vm) (comp : ClassId) : (vm.bare.classes.findIdx? fun (x : Class) => match x.kind with | .array component _ => component == comp | _ => false) = (vm.classes.findIdx? fun (x : Class) => match x.kind with | .array component _ => component == comp | _ => false) := by
  simp only [Vm.bare, Array.findIdx?_map]
  rfl
theorem va_AOA.moved {t : FieldType} {u U : State} (hvm : u.vm.Alike U.vm) (h : va_AOA t u) : va_AOA t U := by
  obtain ⟨comp, c, k, h1, h2, h3, h4, h5⟩ := arrayOverA_spec h
  obtain ⟨k', hk', he⟩ := hvm.2.2 _ _ h3
  have hi : (U.vm.classes.findIdx? fun (x : Class) => match x.kind with | .array component _ => component == comp | _ => false) = some c := by
    rw [← aoa_bare]
    first | rw [hvm.bare_eq] | rw [← hvm.bare_eq]
    rw [aoa_bare]
    exact h2
  have hkind : k'.kind = .array comp (.array t) := by rw [he]; exact h4
  have f1 : U.vm.findClass (FieldType.array t).toString = some comp := by rw [hvm.findClass]; exact h1
  have f2 : U.vm.findClass ("[" ++ (FieldType.array t).toString) = some c := by rw [hvm.findClass]; exact h5
  unfold va_AOA Cond.before Cond.holds
  simp only [Cond.value]
  rw [f1, Option.bind_some]
  refine (congrArg (fun o : Option Nat => (o.bind (fun c => (U.vm.classes[c]?).map fun (k : Class) => match k.kind with | .array _ ty => decide (ty = FieldType.array t) && decide (U.vm.findClass ("[" ++ (FieldType.array t).toString) = some c) | _ => false) == some true)) hi).trans ?_
  simp [hk', hkind, f2]
theorem TH_to {g : GG} {s U : State} {H H1 : Heap} (hW : s.WarmedH U.vm) (hq : ∀ a : Nat, a < H.size → ¬ gA g a → H1[a]? = H[a]?) (h : TH g s H) : TH g U H1 :=
  ⟨va_AO.moved hW.alike h.1, va_AOA.moved hW.alike h.2.1, va_AOA.moved hW.alike h.2.2.1, va_AOA.moved hW.alike h.2.2.2.1, h.2.2.2.2.1, va_X.moved hW.alike (h.2.2.2.2.2.kept (hq _ (by
    obtain ⟨scr, h1, -⟩ := h.2.2.2.2.2
    exact (Array.getElem?_eq_some_iff.mp h1).1) (Nat.not_le.mpr h.2.2.2.2.1)))⟩
section JH
variable {mc : MC} {g : GG} {k n : Nat} {Q : State → Prop} {pc : Nat} {lv : List (Nat × Value)} {st : List Value} {σ : Sg} {cc : ByteArray} {own : String} {nL : Nat} {ret : Option FieldType}
theorem WB_mk (hC : Cx mc g cc own nL ret) {H : Heap} {locs : List Loc} {τ : Sg} (hP : va_P (gD g) vwCl (hw g τ) H) (hS : va_S (gA g) (mS mc).heap H locs) {U : State} (hU : U.heap = H) (hW : (mS mc).WarmedH U.vm) : WB g τ U := by
  obtain ⟨-, -, -, -, -, -, hK, hN, hT, hD, h0, -, -⟩ := hC
  subst hU
  exact ⟨Nat.le_trans h0 hS.1, hP, va_K.moved hW.alike hK, nw_warm hW hN, TH_to hW hS.2.1 hT, hD⟩
theorem WB_calling {U : State} {jf : JFrame} {mk : MethodId} {a : Array Value} (h : WB g σ U) : WB g σ (U.calling jf mk a) := by
  obtain ⟨h0, hP, hK, hN, hT, hD⟩ := h
  have hW : U.WarmedH (U.calling jf mk a).vm := State.WarmedH.refl U
  exact ⟨h0, hP, va_K.moved hW.alike hK, nw_warm hW hN, TH_to hW (fun _ _ _ => rfl) hT, hD⟩
theorem WB_blind (as : List Value) : FrameBlind (va_Pc as (WB g σ)) := fun _ _ _ _ h => ⟨h.1, WB_calling h.2⟩
theorem QJ_end {post : Option Value → Sg → Prop} {H : Heap} {locs : List Loc} {v : Option Value} (hp : post v σ) (hP : va_P (gD g) vwCl (hw g σ) H) (hS : va_S (gA g) (mS mc).heap H locs) {t : State} (ht : t.heap = H) : QJ g post (mA mc) (mS mc) (.returned v) t :=
  ⟨⟨v, σ, rfl, hp, by rw [ht]; exact hP⟩, hS.F ht⟩
theorem CN_of {l : Launch} {y : MethodName} {fr lo : Nat} {as : List Value} {post : Option Value → Sg → Prop} (hl : l.stackTraces = false) (hy : plainName y.cls = true) (hy2 : y.cls = own) (hn : (lg_sl as).length ≤ nL)
    (body : ∀ mc : MC, Cx mc g cc own nL ret → mL mc = l → mR mc = rmJ fr lo k n → J mc g 0 0 (QN mc g post k n) 0 (lv_args 0 as) [] σ) : CN l y cc nL ret fr lo k n g as σ post := by
  subst hy2
  refine Met.ofW (cc := cc) (maxL := nL) (ret := ret) hy rfl ?_
  intro p e s m args below meth c s₁ B hml hv
  obtain ⟨rfl, h0, hP, hK, hN, hT, hD⟩ := hv
  have hts := atoms_spec (ws := .code y cc nL ret :: wsA) B.pre
  have hC : Cx (p, l, e, rmJ fr lo k n, s, m, as.toArray, below, meth, c) g cc y.cls nL ret := ⟨B.exec, B.bytes, hml, findClass_of_methodNamed B.named, fun w h => hts w (List.mem_cons_of_mem _ h), B.notSynchronized, hK, hN, hT, hD, h0, hl, B.returns⟩
  have hb := body _ hC rfl rfl
  have he := lv_entry as hn
  rw [lg_entry_eq]
  exact hb s.heap [] _ hP va_S.rf (by show lv_has _ c.maxLocals _; rw [hml]; exact he)
theorem CX_of {l : Launch} {y : MethodName} {fr lo : Nat} {as : List Value} {post : Option Value → Sg → Prop} {px : String → Sg → Prop} (hl : l.stackTraces = false) (hy : plainName y.cls = true) (hy2 : y.cls = own) (hn : (lg_sl as).length ≤ nL)
    (body : ∀ mc : MC, Cx mc g cc own nL ret → mL mc = l → mR mc = rmJ fr lo k n → (∀ x ∈ (mC mc).exceptionTable.toList, False) → J mc g 0 0 (QX mc g post px k n) 0 (lv_args 0 as) [] σ) : CX l y cc nL ret fr lo k n g as σ post px := by
  subst hy2
  refine vx_ofW (cc := cc) (maxL := nL) (ret := ret) hy rfl ?_
  intro p e s m args below meth c s₁ B hml hE hv
  obtain ⟨rfl, h0, hP, hK, hN, hT, hD⟩ := hv
  have hts := atoms_spec (ws := .code y cc nL ret :: wsA) B.pre
  have hC : Cx (p, l, e, rmJ fr lo k n, s, m, as.toArray, below, meth, c) g cc y.cls nL ret := ⟨B.exec, B.bytes, hml, findClass_of_methodNamed B.named, fun w h => hts w (List.mem_cons_of_mem _ h), B.notSynchronized, hK, hN, hT, hD, h0, hl, B.returns⟩
  have hb := body _ hC rfl rfl hE
  have he := lv_entry as hn
  rw [lg_entry_eq]
  exact hb s.heap [] _ hP va_S.rf (by show lv_has _ c.maxLocals _; rw [hml]; exact he)
/-! returns -/
theorem j_toX {post : Option Value → Sg → Prop} {px : String → Sg → Prop} (kk : J mc g k n (QN mc g post k n) pc lv st σ) : J mc g k n (QX mc g post px k n) pc lv st σ := fun H locs ls hP hS hl => vx_ret (kk H locs ls hP hS hl)
theorem j_iret (hC : Cx mc g cc own nL (some .int)) {post : Option Value → Sg → Prop} {x : Int32} (hd : decode cc pc = .ok (.ireturn, 1)) (hp : post (some (.int x)) σ) : J mc g k n (QN mc g post k n) pc lv [.int x] σ :=
  fun _ _ _ hP hS _ => W.iret hC.1 hC.2.1 hC.2.2.2.2.2.2.2.2.2.2.2.2 (fun _ ht _ => QJ_end hp hP hS ht) hS.2.2 hd hC.2.2.2.2.2.1
theorem j_zret (hC : Cx mc g cc own nL (some .boolean)) {post : Option Value → Sg → Prop} {x : Int} (hx : x = 0 ∨ x = 1) (hd : decode cc pc = .ok (.ireturn, 1)) (hp : post (some (vI x)) σ) : J mc g k n (QN mc g post k n) pc lv [vI x] σ :=
  fun _ _ _ hP hS _ => W.zret (ty := .boolean) hC.1 hC.2.1 hC.2.2.2.2.2.2.2.2.2.2.2.2 (by rcases hx with rfl | rfl <;> rfl) (fun _ ht _ => QJ_end hp hP hS ht) hS.2.2 hd hC.2.2.2.2.2.1
theorem j_lret (hC : Cx mc g cc own nL (some .long)) {post : Option Value → Sg → Prop} {x : Int64} (hd : decode cc pc = .ok (.lreturn, 1)) (hp : post (some (.long x)) σ) : J mc g k n (QN mc g post k n) pc lv [.long x] σ :=
  fun _ _ _ hP hS _ => W.lret hC.1 hC.2.1 hC.2.2.2.2.2.2.2.2.2.2.2.2 (fun _ ht _ => QJ_end hp hP hS ht) hS.2.2 hd hC.2.2.2.2.2.1
theorem j_dret (hC : Cx mc g cc own nL (some .double)) {post : Option Value → Sg → Prop} {x : UInt64} (hd : decode cc pc = .ok (.dreturn, 1)) (hp : post (some (.double x)) σ) : J mc g k n (QN mc g post k n) pc lv [.double x] σ :=
  fun _ _ _ hP hS _ => W.dret hC.1 hC.2.1 hC.2.2.2.2.2.2.2.2.2.2.2.2 (fun _ ht _ => QJ_end hp hP hS ht) hS.2.2 hd hC.2.2.2.2.2.1
theorem j_vret (hC : Cx mc g cc own nL none) {post : Option Value → Sg → Prop} (hd : decode cc pc = .ok (.return_, 1)) (hp : post none σ) : J mc g k n (QN mc g post k n) pc lv [] σ :=
  fun _ _ _ hP hS _ => W.vret hC.1 hC.2.1 hC.2.2.2.2.2.2.2.2.2.2.2.2 (fun _ ht _ => QJ_end hp hP hS ht) hS.2.2 hd hC.2.2.2.2.2.1
theorem j_aret {C : String} (hC : Cx mc g cc own nL (some (.object C))) {post : Option Value → Sg → Prop} {a : Nat} (hd : decode cc pc = .ok (.areturn, 1)) (hp : post (some (.ref a)) σ) : J mc g k n (QN mc g post k n) pc lv [.ref a] σ :=
  fun _ _ _ hP hS _ => W.aret hC.1 hC.2.1 hC.2.2.2.2.2.2.2.2.2.2.2.2 (Or.inl ⟨_, rfl⟩) (Or.inr ⟨_, rfl⟩) (fun _ ht _ => QJ_end hp hP hS ht) hS.2.2 hd hC.2.2.2.2.2.1
/-! fields and rows -/
theorem j_get (hC : Cx mc g cc own nL ret) {C : String} {T : u_T} {N ci index a : Nat} {fs : List Value} {v : Value} (hin : ∀ w ∈ u_ws C T N, w ∈ wsA) (hc : vwCl[ci]? = some (C, T, N)) (q0 : Nat) (he : (hw g σ)[q0]? = some (a, .inr (ci, fs))) (f : Nat) (hf : f < N) (hlink : Cond.fieldLink own index (T f).1 (T f).2.1 (T f).2.2.1 ∈ wsA) (hv : fs[f]? = some v) (hd : decode cc pc = .ok (.getfield index, 3)) (kk : J mc g k n Q (pc + 3) lv (v :: st) σ) : J mc g k n Q pc lv (.ref a :: st) σ :=
  fun H locs ls hP hS hl => va_get (own := own) hC.1 hC.2.1 hC.2.2.2.2.1 hin hC.2.2.2.1 hC.2.2.2.2.2.2.1 hP q0 he hc f hf (hC.2.2.2.2.1 _ hlink) (fun _ h => h) hv hd (kk H locs ls hP hS hl)
theorem j_getN (hC : Cx mc g cc own nL ret) {C host : String} {T : u_T} {N ci index a : Nat} {fs : List Value} {v : Value} (hin : ∀ w ∈ u_ws C T N, w ∈ wsA) (hc : vwCl[ci]? = some (C, T, N)) (q0 : Nat) (he : (hw g σ)[q0]? = some (a, .inr (ci, fs))) (f : Nat) (hf : f < N) (hlink : Cond.fieldLinkNest own index (T f).1 (T f).2.1 (T f).2.2.1 host ∈ nwA) (hv : fs[f]? = some v) (hd : decode cc pc = .ok (.getfield index, 3)) (kk : J mc g k n Q (pc + 3) lv (v :: st) σ) : J mc g k n Q pc lv (.ref a :: st) σ :=
  fun H locs ls hP hS hl => va_getN (own := own) hC.1 hC.2.1 hC.2.2.2.2.1 hin hC.2.2.2.1 hC.2.2.2.2.2.2.1 hP q0 he hc f hf (va_Nw.use rfl (hC.2.2.2.2.2.2.2.1 _ hlink)) (fun _ h => h) hv hd (kk H locs ls hP hS hl)
theorem j_put (hC : Cx mc g cc own nL ret) {C : String} {T : u_T} {N ci index a : Nat} {fs : List Value} {x : Int} {τ : Sg} (hin : ∀ w ∈ u_ws C T N, w ∈ wsA) {ty0 : Nat → FieldType} (hty : ∀ k, k < N → parseFieldDescriptor (T k).2.2.1 = some (ty0 k)) (hnm : ∀ a, a < N → ∀ b, b < N → a ≠ b → (T a).2.1 ≠ (T b).2.1) (hc : vwCl[ci]? = some (C, T, N)) (q0 : Nat) (he : (hw g σ)[q0]? = some (a, .inr (ci, fs))) (f : Nat) (hf : f < N) (hlink : Cond.fieldLink own index (T f).1 (T f).2.1 (T f).2.2.1 ∈ wsA) (hfin : (T f).2.2.2 = false) (hde : parseFieldDescriptor (T f).2.2.1 = some .int) (hlen : f < fs.length) (hs : (hw g σ).set q0 (a, .inr (ci, fs.set f (vI x))) = hw g τ) (hd : decode cc pc = .ok (.putfield index, 3)) (kk : J mc g k n Q (pc + 3) lv st τ) : J mc g k n Q pc lv (vI x :: .ref a :: st) σ :=
  fun _ _ ls hP hS hl => va_put (own := own) hC.1 hC.2.1 hC.2.2.2.2.1 hin ty0 hty hnm hC.2.2.2.1 hC.2.2.2.2.2.2.1 hP (hC.2.2.2.2.2.2.2.2.2.1 σ) hS q0 he hc f hf (hC.2.2.2.2.1 _ hlink) (fun _ h => h) hfin hde (vp_nar_int _) rfl hlen hd (fun H1 locs1 hP1 _ hS1 => kk H1 locs1 ls (hs ▸ hP1) hS1 hl)
theorem j_iald (hC : Cx mc g cc own nL ret) {a m0 : Nat} {f : Int → Int} {z : Int} (q0 : Nat) (he : (hw g σ)[q0]? = some (a, ri g f m0)) (hz : 0 ≤ z ∧ z < m0 ∧ m0 ≤ 2147483647) (hd : decode cc pc = .ok (.iaload, 1)) (kk : J mc g k n Q (pc + 1) lv (vI (f z) :: st) σ) : J mc g k n Q pc lv (vI z :: .ref a :: st) σ := by
  intro H locs ls hP hS hl
  refine va_iald hC.1 hC.2.1 hC.2.2.2.2.2.2.1 hP q0 0 he rfl (iI_in hz.1 hz.2.1 hz.2.2) hd ?_
  have e : ((iI z).toNatClampNeg : Int) = z := by rw [iI_clamp (by omega) (by omega), Int.toNat_of_nonneg hz.1]
  show W _ _ _ _ _ _ _ _ _ _ _ _ _ _ _ (F0 _ _ _ (.int (iI (f ((iI z).toNatClampNeg : Int))) :: st))
  rw [e]
  exact kk H locs ls hP hS hl
theorem j_iast (hC : Cx mc g cc own nL ret) {a m0 : Nat} {f : Int → Int} {z x : Int} {τ : Sg} (q0 : Nat) (he : (hw g σ)[q0]? = some (a, ri g f m0)) (hs : (hw g σ).set q0 (a, ri g (fun j => if j = z then x else f j) m0) = hw g τ) (hz : 0 ≤ z ∧ z < m0 ∧ m0 ≤ 2147483647) (hd : decode cc pc = .ok (.iastore, 1)) (kk : J mc g k n Q (pc + 1) lv st τ) : J mc g k n Q pc lv (vI x :: vI z :: .ref a :: st) σ := by
  intro H locs ls hP hS hl
  refine va_iast hC.1 hC.2.1 hC.2.2.2.2.2.2.1 hP (hC.2.2.2.2.2.2.2.2.2.1 σ) hS q0 0 he rfl (iI_in hz.1 hz.2.1 hz.2.2) hd (fun H1 locs1 hP1 _ hS1 => ?_)
  rw [iI_up hz.1 (by omega)] at hP1
  exact kk H1 locs1 ls (hs ▸ hP1) hS1 hl
theorem j_aald (hC : Cx mc g cc own nL ret) {z : Int} (hz : 0 ≤ z ∧ z < 4) (hd : decode cc pc = .ok (.aaload, 1)) (kk : J mc g k n Q (pc + 1) lv (.ref (gd g (4 + z.toNat)) :: st) σ) : J mc g k n Q pc lv (vI z :: .ref (gd g 3) :: st) σ := by
  intro H locs ls hP hS hl
  refine va_aldq hC.1 hC.2.1 hC.2.2.2.2.2.2.1 hP 3 2 rfl rfl (iI_in hz.1 hz.2 (by decide)) hd ?_
  have := kk H locs ls hP hS hl
  rw [iI_clamp (by omega) (by omega)]
  exact this
/-! calls -/
theorem j_run (hC : Cx mc g cc own nL ret) {st0 rest : List Value} {a : Array Value} {post : Option Value → Sg → Prop} {k2 n2 : Nat}
    (hr : ∀ (H : Heap) (locs : List Loc) (ls : Array Slot), va_P (gD g) vwCl (hw g σ) H → va_S (gA g) (mS mc).heap H locs → lv_has ls (mC mc).maxLocals lv → va_Run (mP mc) (mL mc) (mE mc) (mR mc) (mS mc) (mM mc) (mA mc) (mB mc) (mH mc) (mC mc) H locs k n k2 n2 (F0 (mM mc) pc ls st0) rest (QJ g post a) (gA g))
    (kk : ∀ v τ, post v τ → J mc g (k + k2) (n + n2) Q (pc + 3) lv (v.toList ++ rest) τ) : J mc g k n Q pc lv st0 σ := by
  intro H locs ls hP hS hl T hT X
  obtain ⟨v, st₀, t, T', L, h0, X', hL, e1, e2, ⟨⟨v', τ, hv, hp, hB⟩, hF⟩, stp⟩ := hr H locs ls hP hS hl T hT X
  cases hv
  have hB1 : va_P (gD g) vwCl (hw g τ) T'.heap := by rw [e1]; exact hB
  have hS1 := (vx_keep h0 e1 hS (fun q _ h => h) (fun q h => h) hL hF).2.2
  obtain ⟨t2, a1, b1⟩ := kk v τ hp T'.heap (locs ++ L) ls hB1 hS1 hl T' rfl X'
  exact ⟨t2, stp t2 a1, b1⟩
theorem j_runX (hC : Cx mc g cc own nL ret) {st0 rest : List Value} {a : Array Value} {post : Option Value → Sg → Prop} {px : String → Sg → Prop} {k2 n2 : Nat}
    (hr : ∀ (H : Heap) (locs : List Loc) (ls : Array Slot), va_P (gD g) vwCl (hw g σ) H → va_S (gA g) (mS mc).heap H locs → lv_has ls (mC mc).maxLocals lv → vx_Run (mP mc) (mL mc) (mE mc) (mR mc) (mS mc) (mM mc) (mA mc) (mB mc) (mH mc) (mC mc) H locs k n k2 n2 (F0 (mM mc) pc ls st0) rest (QJ g post a) (XJ g px) (gA g))
    (kx : ∀ (E : String) (ce : Cell) (q : Addr) (τ : Sg) (H1 : Heap) (locs1 : List Loc) (ls : Array Slot), px E τ → va_P (gD g) vwCl (hw g τ) H1 → va_S (gA g) (mS mc).heap H1 locs1 → lv_has ls (mC mc).maxLocals lv → H1[q]? = some ce → ce.vm = .none → (mS mc).vm.findClass E = some ce.cls → vx_W (mP mc) (mL mc) (mE mc) (mR mc) (mS mc) (mM mc) (mA mc) (mB mc) (mH mc) (mC mc) H1 locs1 (k + k2) (n + n2) Q (F0 (mM mc) pc ls rest) q)
    (kk : ∀ v τ, post v τ → J mc g (k + k2) (n + n2) Q (pc + 3) lv (v.toList ++ rest) τ) : J mc g k n Q pc lv st0 σ := by
  intro H locs ls hP hS hl T hT X
  rcases hr H locs ls hP hS hl T hT X with ⟨v, st₀, t, T', L, h0, X', hL, e1, e2, ⟨⟨v', τ, hv, hp, hB⟩, hF⟩, stp⟩ | ⟨q, st₀, t, T', L, E, ce, h0, X', hL, e1, e2, ⟨⟨τ, hp, hB⟩, hF⟩, hce, hcv, hcl, stp⟩
  · cases hv
    have hB1 : va_P (gD g) vwCl (hw g τ) T'.heap := by rw [e1]; exact hB
    have hS1 := (vx_keep h0 e1 hS (fun q _ h => h) (fun q h => h) hL hF).2.2
    obtain ⟨t2, a1, b1⟩ := kk v τ hp T'.heap (locs ++ L) ls hB1 hS1 hl T' rfl X'
    exact ⟨t2, stp t2 a1, b1⟩
  · have hB1 : va_P (gD g) vwCl (hw g τ) T'.heap := by rw [e1]; exact hB
    have hS1 := (vx_keep h0 e1 hS (fun q _ h => h) (fun q h => h) hL hF).2.2
    obtain ⟨t2, a1, b1⟩ := kx E ce q τ T'.heap (locs ++ L) ls hp hB1 hS1 hl (by rw [e1]; exact hce) hcv hcl T' rfl X'
    exact ⟨t2, stp.trans a1, b1⟩
abbrev okC (C : String) : Prop := C ≠ "java/lang/invoke/MethodHandle" ∧ C ≠ "java/lang/invoke/VarHandle"
theorem cbJ (hC : Cx mc g cc own nL ret) {fr lo K N : Nat} (hR : mR mc = rmJ fr lo K N) {y : MethodName} {b2 : ByteArray} {nL2 fr2 lo2 k2 n2 ar index : Nat} {r2 : Option FieldType} (hmh : okC y.cls) (hpar : (parseMethodDescriptor y.desc).map (fun d => d.parameters.length) = some ar) (hlink : Cond.methodLink own index y ∈ wsA) (hini : Cond.initialized y.cls ∈ wsA) (hcode : Cond.code y b2 nL2 r2 ∈ wsA) (hroom : fr2 + 1 ≤ fr ∧ 8 + (nL2 + 11) + lo2 ≤ lo) :
    CallB (mR mc) (mS mc) (mA mc) own index y b2 nL2 r2 (.code y b2 nL2 r2 :: wsA) (rmJ fr2 lo2 k2 n2) k2 n2 ar :=
  callB_of ar hC.2.2.2.2.1 (goodA (fun w h => (List.mem_cons.mp h).elim (fun e => e ▸ hcode) id)) rfl rfl rfl (hC.2.2.2.2.1 _ hini) (hC.2.2.2.2.1 _ hlink) ⟨hmh.1, hmh.2, hpar⟩ (by rw [hR]; exact hroom)
theorem cnJ (hC : Cx mc g cc own nL ret) {fr lo K N : Nat} (hR : mR mc = rmJ fr lo K N) {y : MethodName} {host : String} {b2 : ByteArray} {nL2 fr2 lo2 k2 n2 ar index : Nat} {r2 : Option FieldType} (hmh : okC y.cls) (hpar : (parseMethodDescriptor y.desc).map (fun d => d.parameters.length) = some ar) (hlink : Cond.methodLinkNest own index y host ∈ nwA) (hini : Cond.initialized y.cls ∈ wsA) (hcode : Cond.code y b2 nL2 r2 ∈ wsA) (hroom : fr2 + 1 ≤ fr ∧ 8 + (nL2 + 11) + lo2 ≤ lo) :
    va_CN (mR mc) (mS mc) (mA mc) own index y host b2 nL2 r2 (.code y b2 nL2 r2 :: wsA) (rmJ fr2 lo2 k2 n2) k2 n2 ar :=
  va_cnB ar hC.2.2.2.2.1 (goodA (fun w h => (List.mem_cons.mp h).elim (fun e => e ▸ hcode) id)) rfl rfl rfl (hC.2.2.2.2.2.2.2.1 _ hlink) (hC.2.2.2.2.1 _ hini) ⟨hmh.1, hmh.2, hpar⟩ (by rw [hR]; exact hroom)
theorem fixJ (hC : Cx mc g cc own nL ret) : CallFix (mP mc) (mM mc) (mC mc) cc nL (mS mc) (mA mc) wsA own := ⟨hC.1, hC.2.1, hC.2.2.1, hC.2.2.2.1, hC.2.2.2.2.1⟩
theorem szJ (hC : Cx mc g cc own nL ret) {ls : Array Slot} (hl : lv_has ls (mC mc).maxLocals lv) : ls.size = nL := hl.1.trans hC.2.2.1
/-- a call of an instance method of the own class, or a public one -/
theorem j_callV (hC : Cx mc g cc own nL ret) {fr lo K N : Nat} (hR : mR mc = rmJ fr lo K N) {y : MethodName} {b2 : ByteArray} {nL2 fr2 lo2 k2 n2 ar index b ci : Nat} {r2 : Option FieldType} {As st0 : List Value} {post : Option Value → Sg → Prop} {fs : List Value} {cx : vw_C}
    (hM : CN (mL mc) y b2 nL2 r2 fr2 lo2 k2 n2 g (.ref b :: As) σ post) (rest : List Value) (hst : st0 = As.reverse ++ .ref b :: rest) (q0 : Nat) (he : (hw g σ)[q0]? = some (b, .inr (ci, fs))) (hcl : vwCl[ci]? = some cx) (hy : y.cls = cx.1) (hmh : okC y.cls) (hpar : (parseMethodDescriptor y.desc).map (fun d => d.parameters.length) = some ar) (har : As.length = ar)
    (hlink : Cond.methodLink own index y ∈ wsA) (hinst : Cond.instanceMethod y ∈ wsA) (hsel : Cond.selects y.cls y y ∈ wsA) (hini : Cond.initialized y.cls ∈ wsA) (hcode : Cond.code y b2 nL2 r2 ∈ wsA) (hroom : (fr2 + 1 ≤ fr ∧ 8 + (nL2 + 11) + lo2 ≤ lo) ∧ k + k2 ≤ K ∧ n + n2 ≤ N) (hsum : (rest.map fun v => v.category).sum ≤ 8) (hd : decode cc pc = .ok (.invokevirtual index, 3))
    (kk : ∀ v τ, post v τ → J mc g (k + k2) (n + n2) Q (pc + 3) lv (v.toList ++ rest) τ) : J mc g k n Q pc lv st0 σ := by
  subst hst
  refine j_run hC (fun H locs ls hP hS hl => va_runV (C := y.cls) (fixJ hC) hM ⟨cbJ hC hR hmh hpar hlink hini hcode hroom.1, hC.2.2.2.2.1 _ hinst, hC.2.2.2.2.1 _ hsel⟩ ⟨WB_blind _, ?_, fun U hU hW => ⟨rfl, WB_mk hC hP hS hU hW⟩⟩ rfl har (szJ hC hl) rfl (lv_room hsum) hd (by rw [hR]; exact hroom.2)) kk
  have h := va_recv hC.2.2.2.2.2.2.1 hP hcl he
  rw [hy]
  exact h
/-- .. of a nest mate's private one -/
theorem j_callVN (hC : Cx mc g cc own nL ret) {fr lo K N : Nat} (hR : mR mc = rmJ fr lo K N) {y : MethodName} {host : String} {b2 : ByteArray} {nL2 fr2 lo2 k2 n2 ar index b ci : Nat} {r2 : Option FieldType} {As st0 : List Value} {post : Option Value → Sg → Prop} {fs : List Value} {cx : vw_C}
    (hM : CN (mL mc) y b2 nL2 r2 fr2 lo2 k2 n2 g (.ref b :: As) σ post) (rest : List Value) (hst : st0 = As.reverse ++ .ref b :: rest) (q0 : Nat) (he : (hw g σ)[q0]? = some (b, .inr (ci, fs))) (hcl : vwCl[ci]? = some cx) (hy : y.cls = cx.1) (hmh : okC y.cls) (hpar : (parseMethodDescriptor y.desc).map (fun d => d.parameters.length) = some ar) (har : As.length = ar)
    (hlink : Cond.methodLinkNest own index y host ∈ nwA) (hinst : Cond.instanceMethod y ∈ wsA) (hsel : Cond.selects y.cls y y ∈ wsA) (hini : Cond.initialized y.cls ∈ wsA) (hcode : Cond.code y b2 nL2 r2 ∈ wsA) (hroom : (fr2 + 1 ≤ fr ∧ 8 + (nL2 + 11) + lo2 ≤ lo) ∧ k + k2 ≤ K ∧ n + n2 ≤ N) (hsum : (rest.map fun v => v.category).sum ≤ 8) (hd : decode cc pc = .ok (.invokevirtual index, 3))
    (kk : ∀ v τ, post v τ → J mc g (k + k2) (n + n2) Q (pc + 3) lv (v.toList ++ rest) τ) : J mc g k n Q pc lv st0 σ := by
  subst hst
  refine j_run hC (fun H locs ls hP hS hl => va_runVN (C := y.cls) (fixJ hC) hM ⟨cnJ hC hR hmh hpar hlink hini hcode hroom.1, hC.2.2.2.2.1 _ hinst, hC.2.2.2.2.1 _ hsel⟩ ⟨WB_blind _, ?_, fun U hU hW => ⟨rfl, WB_mk hC hP hS hU hW⟩⟩ rfl har (szJ hC hl) rfl (lv_room hsum) hd (by rw [hR]; exact hroom.2)) kk
  have h := va_recv hC.2.2.2.2.2.2.1 hP hcl he
  rw [hy]
  exact h
theorem j_callS (hC : Cx mc g cc own nL ret) {fr lo K N : Nat} (hR : mR mc = rmJ fr lo K N) {y : MethodName} {b2 : ByteArray} {nL2 fr2 lo2 k2 n2 ar index : Nat} {r2 : Option FieldType} {As st0 : List Value} {post : Option Value → Sg → Prop}
    (hM : CN (mL mc) y b2 nL2 r2 fr2 lo2 k2 n2 g As σ post) (rest : List Value) (hst : st0 = As.reverse ++ rest) (hmh : okC y.cls) (hpar : (parseMethodDescriptor y.desc).map (fun d => d.parameters.length) = some ar) (har : As.length = ar)
    (hlink : Cond.methodLink own index y ∈ wsA) (hstat : Cond.static y ∈ wsA) (hini : Cond.initialized y.cls ∈ wsA) (hcode : Cond.code y b2 nL2 r2 ∈ wsA) (hroom : (fr2 + 1 ≤ fr ∧ 8 + (nL2 + 11) + lo2 ≤ lo) ∧ k + k2 ≤ K ∧ n + n2 ≤ N) (hsum : (rest.map fun v => v.category).sum ≤ 8) (hd : decode cc pc = .ok (.invokestatic index, 3))
    (kk : ∀ v τ, post v τ → J mc g (k + k2) (n + n2) Q (pc + 3) lv (v.toList ++ rest) τ) : J mc g k n Q pc lv st0 σ := by
  subst hst
  exact j_run hC (fun H locs ls hP hS hl => va_runS (fixJ hC) hM ⟨cbJ hC hR hmh hpar hlink hini hcode hroom.1, hC.2.2.2.2.1 _ hstat⟩ ⟨WB_blind _, fun U hU hW => ⟨rfl, WB_mk hC hP hS hU hW⟩⟩ rfl har (szJ hC hl) rfl (lv_room hsum) hd (by rw [hR]; exact hroom.2)) kk
theorem j_callSN (hC : Cx mc g cc own nL ret) {fr lo K N : Nat} (hR : mR mc = rmJ fr lo K N) {y : MethodName} {host : String} {b2 : ByteArray} {nL2 fr2 lo2 k2 n2 ar index : Nat} {r2 : Option FieldType} {As st0 : List Value} {post : Option Value → Sg → Prop}
    (hM : CN (mL mc) y b2 nL2 r2 fr2 lo2 k2 n2 g As σ post) (rest : List Value) (hst : st0 = As.reverse ++ rest) (hmh : okC y.cls) (hpar : (parseMethodDescriptor y.desc).map (fun d => d.parameters.length) = some ar) (har : As.length = ar)
    (hlink : Cond.methodLinkNest own index y host ∈ nwA) (hstat : Cond.static y ∈ wsA) (hini : Cond.initialized y.cls ∈ wsA) (hcode : Cond.code y b2 nL2 r2 ∈ wsA) (hroom : (fr2 + 1 ≤ fr ∧ 8 + (nL2 + 11) + lo2 ≤ lo) ∧ k + k2 ≤ K ∧ n + n2 ≤ N) (hsum : (rest.map fun v => v.category).sum ≤ 8) (hd : decode cc pc = .ok (.invokestatic index, 3))
    (kk : ∀ v τ, post v τ → J mc g (k + k2) (n + n2) Q (pc + 3) lv (v.toList ++ rest) τ) : J mc g k n Q pc lv st0 σ := by
  subst hst
  exact j_run hC (fun H locs ls hP hS hl => va_runSN (fixJ hC) hM ⟨cnJ hC hR hmh hpar hlink hini hcode hroom.1, hC.2.2.2.2.1 _ hstat, trivial⟩ ⟨WB_blind _, fun U hU hW => ⟨rfl, WB_mk hC hP hS hU hW⟩⟩ rfl har (szJ hC hl) rfl (lv_room hsum) hd (by rw [hR]; exact hroom.2)) kk
/-! calls that may throw: what is thrown goes on to the caller -/
theorem x_out (hC : Cx mc g cc own nL ret) {post2 : Option Value → Sg → Prop} {px2 : String → Sg → Prop} {K N : Nat} (hE : ∀ x ∈ (mC mc).exceptionTable.toList, False) {E : String} {ce : Cell} {q : Addr} {τ : Sg} {H1 : Heap} {locs1 : List Loc} {ls : Array Slot} (hp : px2 E τ) (hP : va_P (gD g) vwCl (hw g τ) H1) (hS : va_S (gA g) (mS mc).heap H1 locs1) (hce : H1[q]? = some ce) (hcv : ce.vm = .none) (hcl : (mS mc).vm.findClass E = some ce.cls) (hk : k ≤ K ∧ n ≤ N) :
    vx_W (mP mc) (mL mc) (mE mc) (mR mc) (mS mc) (mM mc) (mA mc) (mB mc) (mH mc) (mC mc) H1 locs1 k n (QX mc g post2 px2 K N) (F0 (mM mc) pc ls st) q :=
  vx_out (fun x hx => (hE x hx).elim) hC.2.2.2.2.2.1 hce hcv hcl (fun t ht _ => ⟨⟨τ, hp, by rw [ht]; exact hP⟩, hS.F ht⟩) hS.2.2 hk.1 hk.2
end JH
end
section
/-- the answer r and the world τ are told -/
abbrev pt (r : Option Value) (τ : Sg) : Option Value → Sg → Prop := fun v τ2 => v = r ∧ τ2 = τ
/-- it throws E, and the world stays -/
abbrev pxE (E : String) (τ : Sg) : String → Sg → Prop := fun E2 τ2 => E2 = E ∧ τ2 = τ
abbrev pF : Option Value → Sg → Prop := fun _ _ => False
section JK
variable {mc : MC} {g : GG} {k n : Nat} {Q : State → Prop} {pc : Nat} {lv : List (Nat × Value)} {st : List Value} {σ : Sg} {cc : ByteArray} {own : String} {nL : Nat} {ret : Option FieldType}
theorem j_callV1 (hC : Cx mc g cc own nL ret) {fr lo K N : Nat} (hR : mR mc = rmJ fr lo K N) {y : MethodName} {b2 : ByteArray} {nL2 fr2 lo2 k2 n2 ar index b ci : Nat} {r2 : Option FieldType} {As st0 : List Value} {v : Value} {τ : Sg} {fs : List Value} {cx : vw_C}
    (hM : CN (mL mc) y b2 nL2 r2 fr2 lo2 k2 n2 g (.ref b :: As) σ (pt (some v) τ)) (rest : List Value) (hst : st0 = As.reverse ++ .ref b :: rest) (q0 : Nat) (he : (hw g σ)[q0]? = some (b, .inr (ci, fs))) (hcl : vwCl[ci]? = some cx) (hy : y.cls = cx.1) (hmh : okC y.cls) (hpar : (parseMethodDescriptor y.desc).map (fun d => d.parameters.length) = some ar) (har : As.length = ar)
    (hlink : Cond.methodLink own index y ∈ wsA) (hinst : Cond.instanceMethod y ∈ wsA) (hsel : Cond.selects y.cls y y ∈ wsA) (hini : Cond.initialized y.cls ∈ wsA) (hcode : Cond.code y b2 nL2 r2 ∈ wsA) (hroom : (fr2 + 1 ≤ fr ∧ 8 + (nL2 + 11) + lo2 ≤ lo) ∧ k + k2 ≤ K ∧ n + n2 ≤ N) (hsum : (rest.map fun v => v.category).sum ≤ 8) (hd : decode cc pc = .ok (.invokevirtual index, 3))
    (kk : J mc g (k + k2) (n + n2) Q (pc + 3) lv (v :: rest) τ) : J mc g k n Q pc lv st0 σ :=
  j_callV hC hR hM rest hst q0 he hcl hy hmh hpar har hlink hinst hsel hini hcode hroom hsum hd (by rintro _ _ ⟨rfl, rfl⟩; exact kk)
theorem j_callV0 (hC : Cx mc g cc own nL ret) {fr lo K N : Nat} (hR : mR mc = rmJ fr lo K N) {y : MethodName} {b2 : ByteArray} {nL2 fr2 lo2 k2 n2 ar index b ci : Nat} {r2 : Option FieldType} {As st0 : List Value} {τ : Sg} {fs : List Value} {cx : vw_C}
    (hM : CN (mL mc) y b2 nL2 r2 fr2 lo2 k2 n2 g (.ref b :: As) σ (pt none τ)) (rest : List Value) (hst : st0 = As.reverse ++ .ref b :: rest) (q0 : Nat) (he : (hw g σ)[q0]? = some (b, .inr (ci, fs))) (hcl : vwCl[ci]? = some cx) (hy : y.cls = cx.1) (hmh : okC y.cls) (hpar : (parseMethodDescriptor y.desc).map (fun d => d.parameters.length) = some ar) (har : As.length = ar)
    (hlink : Cond.methodLink own index y ∈ wsA) (hinst : Cond.instanceMethod y ∈ wsA) (hsel : Cond.selects y.cls y y ∈ wsA) (hini : Cond.initialized y.cls ∈ wsA) (hcode : Cond.code y b2 nL2 r2 ∈ wsA) (hroom : (fr2 + 1 ≤ fr ∧ 8 + (nL2 + 11) + lo2 ≤ lo) ∧ k + k2 ≤ K ∧ n + n2 ≤ N) (hsum : (rest.map fun v => v.category).sum ≤ 8) (hd : decode cc pc = .ok (.invokevirtual index, 3))
    (kk : J mc g (k + k2) (n + n2) Q (pc + 3) lv rest τ) : J mc g k n Q pc lv st0 σ :=
  j_callV hC hR hM rest hst q0 he hcl hy hmh hpar har hlink hinst hsel hini hcode hroom hsum hd (by rintro _ _ ⟨rfl, rfl⟩; exact kk)
theorem j_callVN1 (hC : Cx mc g cc own nL ret) {fr lo K N : Nat} (hR : mR mc = rmJ fr lo K N) {y : MethodName} {host : String} {b2 : ByteArray} {nL2 fr2 lo2 k2 n2 ar index b ci : Nat} {r2 : Option FieldType} {As st0 : List Value} {v : Value} {τ : Sg} {fs : List Value} {cx : vw_C}
    (hM : CN (mL mc) y b2 nL2 r2 fr2 lo2 k2 n2 g (.ref b :: As) σ (pt (some v) τ)) (rest : List Value) (hst : st0 = As.reverse ++ .ref b :: rest) (q0 : Nat) (he : (hw g σ)[q0]? = some (b, .inr (ci, fs))) (hcl : vwCl[ci]? = some cx) (hy : y.cls = cx.1) (hmh : okC y.cls) (hpar : (parseMethodDescriptor y.desc).map (fun d => d.parameters.length) = some ar) (har : As.length = ar)
    (hlink : Cond.methodLinkNest own index y host ∈ nwA) (hinst : Cond.instanceMethod y ∈ wsA) (hsel : Cond.selects y.cls y y ∈ wsA) (hini : Cond.initialized y.cls ∈ wsA) (hcode : Cond.code y b2 nL2 r2 ∈ wsA) (hroom : (fr2 + 1 ≤ fr ∧ 8 + (nL2 + 11) + lo2 ≤ lo) ∧ k + k2 ≤ K ∧ n + n2 ≤ N) (hsum : (rest.map fun v => v.category).sum ≤ 8) (hd : decode cc pc = .ok (.invokevirtual index, 3))
    (kk : J mc g (k + k2) (n + n2) Q (pc + 3) lv (v :: rest) τ) : J mc g k n Q pc lv st0 σ :=
  j_callVN hC hR hM rest hst q0 he hcl hy hmh hpar har hlink hinst hsel hini hcode hroom hsum hd (by rintro _ _ ⟨rfl, rfl⟩; exact kk)
theorem j_callVN0 (hC : Cx mc g cc own nL ret) {fr lo K N : Nat} (hR : mR mc = rmJ fr lo K N) {y : MethodName} {host : String} {b2 : ByteArray} {nL2 fr2 lo2 k2 n2 ar index b ci : Nat} {r2 : Option FieldType} {As st0 : List Value} {τ : Sg} {fs : List Value} {cx : vw_C}
    (hM : CN (mL mc) y b2 nL2 r2 fr2 lo2 k2 n2 g (.ref b :: As) σ (pt none τ)) (rest : List Value) (hst : st0 = As.reverse ++ .ref b :: rest) (q0 : Nat) (he : (hw g σ)[q0]? = some (b, .inr (ci, fs))) (hcl : vwCl[ci]? = some cx) (hy : y.cls = cx.1) (hmh : okC y.cls) (hpar : (parseMethodDescriptor y.desc).map (fun d => d.parameters.length) = some ar) (har : As.length = ar)
    (hlink : Cond.methodLinkNest own index y host ∈ nwA) (hinst : Cond.instanceMethod y ∈ wsA) (hsel : Cond.selects y.cls y y ∈ wsA) (hini : Cond.initialized y.cls ∈ wsA) (hcode : Cond.code y b2 nL2 r2 ∈ wsA) (hroom : (fr2 + 1 ≤ fr ∧ 8 + (nL2 + 11) + lo2 ≤ lo) ∧ k + k2 ≤ K ∧ n + n2 ≤ N) (hsum : (rest.map fun v => v.category).sum ≤ 8) (hd : decode cc pc = .ok (.invokevirtual index, 3))
    (kk : J mc g (k + k2) (n + n2) Q (pc + 3) lv rest τ) : J mc g k n Q pc lv st0 σ :=
  j_callVN hC hR hM rest hst q0 he hcl hy hmh hpar har hlink hinst hsel hini hcode hroom hsum hd (by rintro _ _ ⟨rfl, rfl⟩; exact kk)
theorem j_callS1 (hC : Cx mc g cc own nL ret) {fr lo K N : Nat} (hR : mR mc = rmJ fr lo K N) {y : MethodName} {b2 : ByteArray} {nL2 fr2 lo2 k2 n2 ar index : Nat} {r2 : Option FieldType} {As st0 : List Value} {v : Value} {τ : Sg}
    (hM : CN (mL mc) y b2 nL2 r2 fr2 lo2 k2 n2 g As σ (pt (some v) τ)) (rest : List Value) (hst : st0 = As.reverse ++ rest) (hmh : okC y.cls) (hpar : (parseMethodDescriptor y.desc).map (fun d => d.parameters.length) = some ar) (har : As.length = ar)
    (hlink : Cond.methodLink own index y ∈ wsA) (hstat : Cond.static y ∈ wsA) (hini : Cond.initialized y.cls ∈ wsA) (hcode : Cond.code y b2 nL2 r2 ∈ wsA) (hroom : (fr2 + 1 ≤ fr ∧ 8 + (nL2 + 11) + lo2 ≤ lo) ∧ k + k2 ≤ K ∧ n + n2 ≤ N) (hsum : (rest.map fun v => v.category).sum ≤ 8) (hd : decode cc pc = .ok (.invokestatic index, 3))
    (kk : J mc g (k + k2) (n + n2) Q (pc + 3) lv (v :: rest) τ) : J mc g k n Q pc lv st0 σ :=
  j_callS hC hR hM rest hst hmh hpar har hlink hstat hini hcode hroom hsum hd (by rintro _ _ ⟨rfl, rfl⟩; exact kk)
theorem j_callS0 (hC : Cx mc g cc own nL ret) {fr lo K N : Nat} (hR : mR mc = rmJ fr lo K N) {y : MethodName} {b2 : ByteArray} {nL2 fr2 lo2 k2 n2 ar index : Nat} {r2 : Option FieldType} {As st0 : List Value} {τ : Sg}
    (hM : CN (mL mc) y b2 nL2 r2 fr2 lo2 k2 n2 g As σ (pt none τ)) (rest : List Value) (hst : st0 = As.reverse ++ rest) (hmh : okC y.cls) (hpar : (parseMethodDescriptor y.desc).map (fun d => d.parameters.length) = some ar) (har : As.length = ar)
    (hlink : Cond.methodLink own index y ∈ wsA) (hstat : Cond.static y ∈ wsA) (hini : Cond.initialized y.cls ∈ wsA) (hcode : Cond.code y b2 nL2 r2 ∈ wsA) (hroom : (fr2 + 1 ≤ fr ∧ 8 + (nL2 + 11) + lo2 ≤ lo) ∧ k + k2 ≤ K ∧ n + n2 ≤ N) (hsum : (rest.map fun v => v.category).sum ≤ 8) (hd : decode cc pc = .ok (.invokestatic index, 3))
    (kk : J mc g (k + k2) (n + n2) Q (pc + 3) lv rest τ) : J mc g k n Q pc lv st0 σ :=
  j_callS hC hR hM rest hst hmh hpar har hlink hstat hini hcode hroom hsum hd (by rintro _ _ ⟨rfl, rfl⟩; exact kk)
theorem j_callSN1 (hC : Cx mc g cc own nL ret) {fr lo K N : Nat} (hR : mR mc = rmJ fr lo K N) {y : MethodName} {host : String} {b2 : ByteArray} {nL2 fr2 lo2 k2 n2 ar index : Nat} {r2 : Option FieldType} {As st0 : List Value} {v : Value} {τ : Sg}
    (hM : CN (mL mc) y b2 nL2 r2 fr2 lo2 k2 n2 g As σ (pt (some v) τ)) (rest : List Value) (hst : st0 = As.reverse ++ rest) (hmh : okC y.cls) (hpar : (parseMethodDescriptor y.desc).map (fun d => d.parameters.length) = some ar) (har : As.length = ar)
    (hlink : Cond.methodLinkNest own index y host ∈ nwA) (hstat : Cond.static y ∈ wsA) (hini : Cond.initialized y.cls ∈ wsA) (hcode : Cond.code y b2 nL2 r2 ∈ wsA) (hroom : (fr2 + 1 ≤ fr ∧ 8 + (nL2 + 11) + lo2 ≤ lo) ∧ k + k2 ≤ K ∧ n + n2 ≤ N) (hsum : (rest.map fun v => v.category).sum ≤ 8) (hd : decode cc pc = .ok (.invokestatic index, 3))
    (kk : J mc g (k + k2) (n + n2) Q (pc + 3) lv (v :: rest) τ) : J mc g k n Q pc lv st0 σ :=
  j_callSN hC hR hM rest hst hmh hpar har hlink hstat hini hcode hroom hsum hd (by rintro _ _ ⟨rfl, rfl⟩; exact kk)
theorem j_callSN0 (hC : Cx mc g cc own nL ret) {fr lo K N : Nat} (hR : mR mc = rmJ fr lo K N) {y : MethodName} {host : String} {b2 : ByteArray} {nL2 fr2 lo2 k2 n2 ar index : Nat} {r2 : Option FieldType} {As st0 : List Value} {τ : Sg}
    (hM : CN (mL mc) y b2 nL2 r2 fr2 lo2 k2 n2 g As σ (pt none τ)) (rest : List Value) (hst : st0 = As.reverse ++ rest) (hmh : okC y.cls) (hpar : (parseMethodDescriptor y.desc).map (fun d => d.parameters.length) = some ar) (har : As.length = ar)
    (hlink : Cond.methodLinkNest own index y host ∈ nwA) (hstat : Cond.static y ∈ wsA) (hini : Cond.initialized y.cls ∈ wsA) (hcode : Cond.code y b2 nL2 r2 ∈ wsA) (hroom : (fr2 + 1 ≤ fr ∧ 8 + (nL2 + 11) + lo2 ≤ lo) ∧ k + k2 ≤ K ∧ n + n2 ≤ N) (hsum : (rest.map fun v => v.category).sum ≤ 8) (hd : decode cc pc = .ok (.invokestatic index, 3))
    (kk : J mc g (k + k2) (n + n2) Q (pc + 3) lv rest τ) : J mc g k n Q pc lv st0 σ :=
  j_callSN hC hR hM rest hst hmh hpar har hlink hstat hini hcode hroom hsum hd (by rintro _ _ ⟨rfl, rfl⟩; exact kk)
theorem j_callVT (hC : Cx mc g cc own nL ret) {fr lo K N : Nat} (hR : mR mc = rmJ fr lo K N) {y : MethodName} {b2 : ByteArray} {nL2 fr2 lo2 k2 n2 ar index b ci : Nat} {r2 : Option FieldType} {As st0 : List Value} {post2 : Option Value → Sg → Prop} {E : String} {fs : List Value} {cx : vw_C}
    (hM : CX (mL mc) y b2 nL2 r2 fr2 lo2 k2 n2 g (.ref b :: As) σ pF (pxE E σ)) (rest : List Value) (hst : st0 = As.reverse ++ .ref b :: rest) (q0 : Nat) (he : (hw g σ)[q0]? = some (b, .inr (ci, fs))) (hcl : vwCl[ci]? = some cx) (hy : y.cls = cx.1) (hmh : okC y.cls) (hpar : (parseMethodDescriptor y.desc).map (fun d => d.parameters.length) = some ar) (har : As.length = ar)
    (hlink : Cond.methodLink own index y ∈ wsA) (hinst : Cond.instanceMethod y ∈ wsA) (hsel : Cond.selects y.cls y y ∈ wsA) (hini : Cond.initialized y.cls ∈ wsA) (hcode : Cond.code y b2 nL2 r2 ∈ wsA) (hroom : (fr2 + 1 ≤ fr ∧ 8 + (nL2 + 11) + lo2 ≤ lo) ∧ k + k2 ≤ K ∧ n + n2 ≤ N) (hsum : (rest.map fun v => v.category).sum ≤ 8) (hd : decode cc pc = .ok (.invokevirtual index, 3)) (hE : ∀ x ∈ (mC mc).exceptionTable.toList, False) : J mc g k n (QX mc g post2 (pxE E σ) K N) pc lv st0 σ := by
  subst hst
  refine j_runX hC (fun H locs ls hP hS hl => vx_runV (C := y.cls) (fixJ hC) hM ⟨cbJ hC hR hmh hpar hlink hini hcode hroom.1, hC.2.2.2.2.1 _ hinst, hC.2.2.2.2.1 _ hsel⟩ ⟨WB_blind _, ?_, fun U hU hW => ⟨rfl, WB_mk hC hP hS hU hW⟩⟩ rfl har (szJ hC hl) rfl (lv_room hsum) hd (by rw [hR]; exact hroom.2)) (fun E2 ce q τ H1 locs1 ls hp hP hS _ hce hcv hcl => by obtain ⟨rfl, rfl⟩ := hp; exact x_out hC hE ⟨rfl, rfl⟩ hP hS hce hcv hcl hroom.2) (fun _ _ h => h.elim)
  have h := va_recv hC.2.2.2.2.2.2.1 hP hcl he
  rw [hy]
  exact h
theorem j_callST (hC : Cx mc g cc own nL ret) {fr lo K N : Nat} (hR : mR mc = rmJ fr lo K N) {y : MethodName} {b2 : ByteArray} {nL2 fr2 lo2 k2 n2 ar index : Nat} {r2 : Option FieldType} {As st0 : List Value} {post2 : Option Value → Sg → Prop} {E : String}
    (hM : CX (mL mc) y b2 nL2 r2 fr2 lo2 k2 n2 g As σ pF (pxE E σ)) (rest : List Value) (hst : st0 = As.reverse ++ rest) (hmh : okC y.cls) (hpar : (parseMethodDescriptor y.desc).map (fun d => d.parameters.length) = some ar) (har : As.length = ar)
    (hlink : Cond.methodLink own index y ∈ wsA) (hstat : Cond.static y ∈ wsA) (hini : Cond.initialized y.cls ∈ wsA) (hcode : Cond.code y b2 nL2 r2 ∈ wsA) (hroom : (fr2 + 1 ≤ fr ∧ 8 + (nL2 + 11) + lo2 ≤ lo) ∧ k + k2 ≤ K ∧ n + n2 ≤ N) (hsum : (rest.map fun v => v.category).sum ≤ 8) (hd : decode cc pc = .ok (.invokestatic index, 3)) (hE : ∀ x ∈ (mC mc).exceptionTable.toList, False) : J mc g k n (QX mc g post2 (pxE E σ) K N) pc lv st0 σ := by
  subst hst
  exact j_runX hC (fun H locs ls hP hS hl => vx_runS (fixJ hC) hM ⟨cbJ hC hR hmh hpar hlink hini hcode hroom.1, hC.2.2.2.2.1 _ hstat⟩ ⟨WB_blind _, fun U hU hW => ⟨rfl, WB_mk hC hP hS hU hW⟩⟩ rfl har (szJ hC hl) rfl (lv_room hsum) hd (by rw [hR]; exact hroom.2)) (fun E2 ce q τ H1 locs1 ls hp hP hS _ hce hcv hcl => by obtain ⟨rfl, rfl⟩ := hp; exact x_out hC hE ⟨rfl, rfl⟩ hP hS hce hcv hcl hroom.2) (fun _ _ h => h.elim)
theorem cMabs : Cond.code Lib.Math.abs.name Lib.Math.abs.code 1 (some .int) ∈ wsA := wA_of 178 (by decide +kernel) (by decide +kernel)
theorem cMmin : Cond.code Lib.Math.min.name Lib.Math.min.code 2 (some .int) ∈ wsA := wA_of 284 (by decide +kernel) (by decide +kernel)
theorem j_abs {a : Int} (hC : Cx mc g cc own nL ret) {fr lo K N index : Nat} (hR : mR mc = rmJ fr lo K N) (hlink : Cond.methodLink own index Lib.Math.abs.name ∈ wsA) (hroom : 1 ≤ fr ∧ (st.map fun v => v.category).sum + 13 ≤ lo) (hk : k ≤ K ∧ n ≤ N) (hr : -2147483648 < a ∧ a < 2147483648) (hd : decode cc pc = .ok (.invokestatic index, 3))
    (kk : J mc g k n Q (pc + 3) lv (vI (if 0 ≤ a then a else -a) :: st) σ) : J mc g k n Q pc lv (vI a :: st) σ := by
  intro H locs ls hP hS hl
  refine va_mabs hC.1 hC.2.1 hl.1.symm hC.2.2.2.1 (hC.2.2.2.2.1 _ hlink) (hC.2.2.2.2.1 _ wd177) (hC.2.2.2.2.1 _ wd12) (hC.2.2.2.2.1 _ cMabs) (by rw [hR]; exact hroom.1) (by rw [hR]; exact hroom.2) (by rw [hR]; exact hk.1) (by rw [hR]; exact hk.2) hd ?_
  have e : (if 0 ≤ iI a then iI a else 0 - iI a) = iI (if 0 ≤ a then a else -a) := by
    have h9 := iI_le (a := 0) (b := a) (by omega) (by omega) (by omega) (by omega)
    rw [iI_0] at h9
    by_cases h : 0 ≤ a
    · rw [if_pos h, if_pos (h9.mpr h)]
    · rw [if_neg h, if_neg (fun q => h (h9.mp q)), ← iI_0, iI_sub]
      congr 1
      omega
  rw [e]
  exact kk H locs ls hP hS hl
theorem j_min {a b : Int} (hC : Cx mc g cc own nL ret) {fr lo K N index : Nat} (hR : mR mc = rmJ fr lo K N) (hlink : Cond.methodLink own index Lib.Math.min.name ∈ wsA) (hroom : 1 ≤ fr ∧ (st.map fun v => v.category).sum + 13 ≤ lo) (hk : k ≤ K ∧ n ≤ N) (hr : -2147483648 ≤ a ∧ a < 2147483648 ∧ -2147483648 ≤ b ∧ b < 2147483648) (hd : decode cc pc = .ok (.invokestatic index, 3))
    (kk : J mc g k n Q (pc + 3) lv (vI (if a ≤ b then a else b) :: st) σ) : J mc g k n Q pc lv (vI b :: vI a :: st) σ := by
  intro H locs ls hP hS hl
  refine va_mmin hC.1 hC.2.1 hl.1.symm hC.2.2.2.1 (hC.2.2.2.2.1 _ hlink) (hC.2.2.2.2.1 _ wd283) (hC.2.2.2.2.1 _ wd12) (hC.2.2.2.2.1 _ cMmin) (by rw [hR]; exact hroom.1) (by rw [hR]; exact hroom.2) (by rw [hR]; exact hk.1) (by rw [hR]; exact hk.2) hd ?_
  have e : (if iI b < iI a then iI b else iI a) = iI (if a ≤ b then a else b) := by
    have h9 := iI_lt (a := b) (b := a) (by omega) (by omega) (by omega) (by omega)
    by_cases h : a ≤ b
    · rw [if_pos h, if_neg (fun q => by have := h9.mp q; omega)]
    · rw [if_neg h, if_pos (h9.mpr (by omega))]
  rw [e]
  exact kk H locs ls hP hS hl
end JK
theorem inX0 : ∀ w ∈ u_ws RX0 TX0 4, w ∈ wsA := by decide +kernel
theorem inX2 : ∀ w ∈ u_ws RX2 TX2 2, w ∈ wsA := by decide +kernel
theorem inX3 : ∀ w ∈ u_ws RX3 TX3 4, w ∈ wsA := by decide +kernel
theorem inX4 : ∀ w ∈ u_ws RX4 TX4 2, w ∈ wsA := by decide +kernel
end
section
/-! what the class computes, in whole numbers -/
def ab (x : Int) : Int := if 0 ≤ x then x else -x
def stp (G : Int → Int) (a b : Int) : Int := if G a = G b then 0 else ab (a / 3 - b / 3) + ab (a % 3 - b % 3)
abbrev alk (G : Int → Int) (x y : Int) : Prop := x % 256 = y % 256 ∧ G (x / 256) = G (y / 256)
def xr (a b : Int) : Int := ((a.toNat ^^^ b.toNat : Nat) : Int)
def pop4 (r : Int) : Int := r % 2 + r / 2 % 2 + r / 4 % 2 + r / 8 % 2
def dst (G : Int → Int) (x y : Int) : Int := pop4 (xr (x % 16) (y % 16)) + (if x / 16 % 4 = y / 16 % 4 then 0 else 1) + (if x / 64 % 4 = y / 64 % 4 then 0 else 2) + stp G (x / 256) (y / 256)
def wth (L t : Int) : Int := L - 16 * (L / 16 % 4) + 16 * t
def mkL (sh th pl mv : Int) : Int := sh + 16 * th + 64 * mv + 256 * pl
theorem and_iI (k : Nat) {a m : Int} (h0 : 0 ≤ a) (h1 : a < 2147483648) (hm : (iI m).toBitVec.toNat = 2 ^ k - 1) : iI a &&& iI m = iI (a % (2 ^ k : Nat)) := by
  obtain ⟨a, rfl⟩ := Int.eq_ofNat_of_zero_le h0
  have h := pk_andN (n := a) (by omega) (m := iI m) k hm
  rw [iI_nat]
  exact h.trans (iI_nat (a % 2 ^ k)).symm
theorem shr_iI (k : Nat) {a s : Int} (h0 : 0 ≤ a) (h1 : a < 2147483648) (hs : ((iI s &&& 31).toBitVec.smod 32).toNat = k) : iI a >>> (iI s &&& 31) = iI (a / (2 ^ k : Nat)) := by
  obtain ⟨a, rfl⟩ := Int.eq_ofNat_of_zero_le h0
  have h := pk_shrN (n := a) (by omega) (iI s &&& 31) k hs
  rw [iI_nat]
  exact h.trans (iI_nat (a / 2 ^ k)).symm
theorem shl_iI (k : Nat) {a s : Int} (h0 : 0 ≤ a) (h1 : a * (2 ^ k : Nat) < 2147483648) (hs : ((iI s &&& 31).toBitVec.smod 32).toNat = k) : iI a <<< (iI s &&& 31) = iI (a * (2 ^ k : Nat)) := by
  obtain ⟨a, rfl⟩ := Int.eq_ofNat_of_zero_le h0
  have h := pk_shlN (n := a) (iI s &&& 31) k hs (by omega)
  rw [iI_nat]
  exact h.trans (iI_nat (a * 2 ^ k)).symm
theorem or16_a : ∀ x : Fin 16, ∀ y : Fin 4, Int32.ofNat x.1 ||| Int32.ofNat (y.1 * 16) = Int32.ofNat (x.1 + y.1 * 16) := by decide +kernel
theorem or64_a : ∀ x : Fin 64, ∀ y : Fin 4, Int32.ofNat x.1 ||| Int32.ofNat (y.1 * 64) = Int32.ofNat (x.1 + y.1 * 64) := by decide +kernel
theorem or256_a : ∀ x : Fin 256, ∀ y : Fin 9, Int32.ofNat x.1 ||| Int32.ofNat (y.1 * 256) = Int32.ofNat (x.1 + y.1 * 256) := by decide +kernel
theorem and49_a : ∀ x : Fin 2304, Int32.ofNat x.1 &&& iI (-49) = Int32.ofNat (x.1 - 16 * (x.1 / 16 % 4)) := by decide +kernel
theorem orT_a : ∀ x : Fin 2304, ∀ y : Fin 4, Int32.ofNat (x.1 - 16 * (x.1 / 16 % 4)) ||| Int32.ofNat (y.1 * 16) = Int32.ofNat (x.1 - 16 * (x.1 / 16 % 4) + y.1 * 16) := by decide +kernel
theorem and3841_a : ∀ x : Fin 2304, Int32.ofNat x.1 &&& iI (-3841) = Int32.ofNat (x.1 % 256) := by decide +kernel
theorem xr_a : ∀ x : Fin 16, ∀ y : Fin 16, Int32.ofNat x.1 ^^^ Int32.ofNat y.1 = Int32.ofNat (x.1 ^^^ y.1) := by decide +kernel
theorem xr_b : ∀ x : Fin 16, ∀ y : Fin 16, x.1 ^^^ y.1 < 16 := by decide +kernel
theorem or16 {a b : Int} (h : 0 ≤ a ∧ a < 16 ∧ 0 ≤ b ∧ b < 4) : iI a ||| iI (b * (2 ^ 4 : Nat)) = iI (a + 16 * b) := by
  obtain ⟨a, rfl⟩ := Int.eq_ofNat_of_zero_le h.1
  obtain ⟨b, rfl⟩ := Int.eq_ofNat_of_zero_le h.2.2.1
  have h9 := or16_a ⟨a, by omega⟩ ⟨b, by omega⟩
  have e1 : ((b : Int) * ((2 ^ 4 : Nat) : Int)) = ((b * 16 : Nat) : Int) := by omega
  have e2 : ((a : Int) + 16 * (b : Int)) = ((a + b * 16 : Nat) : Int) := by omega
  rw [e1, e2, iI_nat, iI_nat, iI_nat]
  exact h9
theorem or64 {a b : Int} (h : 0 ≤ a ∧ a < 64 ∧ 0 ≤ b ∧ b < 4) : iI a ||| iI (b * (2 ^ 6 : Nat)) = iI (a + 64 * b) := by
  obtain ⟨a, rfl⟩ := Int.eq_ofNat_of_zero_le h.1
  obtain ⟨b, rfl⟩ := Int.eq_ofNat_of_zero_le h.2.2.1
  have h9 := or64_a ⟨a, by omega⟩ ⟨b, by omega⟩
  have e1 : ((b : Int) * ((2 ^ 6 : Nat) : Int)) = ((b * 64 : Nat) : Int) := by omega
  have e2 : ((a : Int) + 64 * (b : Int)) = ((a + b * 64 : Nat) : Int) := by omega
  rw [e1, e2, iI_nat, iI_nat, iI_nat]
  exact h9
theorem or256 {a b : Int} (h : 0 ≤ a ∧ a < 256 ∧ 0 ≤ b ∧ b < 9) : iI a ||| iI (b * (2 ^ 8 : Nat)) = iI (a + 256 * b) := by
  obtain ⟨a, rfl⟩ := Int.eq_ofNat_of_zero_le h.1
  obtain ⟨b, rfl⟩ := Int.eq_ofNat_of_zero_le h.2.2.1
  have h9 := or256_a ⟨a, by omega⟩ ⟨b, by omega⟩
  have e1 : ((b : Int) * ((2 ^ 8 : Nat) : Int)) = ((b * 256 : Nat) : Int) := by omega
  have e2 : ((a : Int) + 256 * (b : Int)) = ((a + b * 256 : Nat) : Int) := by omega
  rw [e1, e2, iI_nat, iI_nat, iI_nat]
  exact h9
theorem and49 {a : Int} (h : 0 ≤ a ∧ a < 2304) : iI a &&& iI (-49) = iI (a - 16 * (a / 16 % 4)) := by
  obtain ⟨a, rfl⟩ := Int.eq_ofNat_of_zero_le h.1
  have h9 := and49_a ⟨a, by omega⟩
  have e2 : ((a : Int) - 16 * ((a : Int) / 16 % 4)) = ((a - 16 * (a / 16 % 4) : Nat) : Int) := by omega
  rw [e2, iI_nat, iI_nat]
  exact h9
theorem orT {a b : Int} (h : 0 ≤ a ∧ a < 2304 ∧ 0 ≤ b ∧ b < 4) : iI (a - 16 * (a / 16 % 4)) ||| iI (b * (2 ^ 4 : Nat)) = iI (wth a b) := by
  obtain ⟨a, rfl⟩ := Int.eq_ofNat_of_zero_le h.1
  obtain ⟨b, rfl⟩ := Int.eq_ofNat_of_zero_le h.2.2.1
  have h9 := orT_a ⟨a, by omega⟩ ⟨b, by omega⟩
  have e1 : ((b : Int) * ((2 ^ 4 : Nat) : Int)) = ((b * 16 : Nat) : Int) := by omega
  have e2 : ((a : Int) - 16 * ((a : Int) / 16 % 4)) = ((a - 16 * (a / 16 % 4) : Nat) : Int) := by omega
  have e3 : wth (a : Int) (b : Int) = ((a - 16 * (a / 16 % 4) + b * 16 : Nat) : Int) := by unfold wth; omega
  rw [e1, e2, e3, iI_nat, iI_nat, iI_nat]
  exact h9
theorem and3841 {a : Int} (h : 0 ≤ a ∧ a < 2304) : iI a &&& iI (-3841) = iI (a % 256) := by
  obtain ⟨a, rfl⟩ := Int.eq_ofNat_of_zero_le h.1
  have h9 := and3841_a ⟨a, by omega⟩
  have e2 : ((a : Int) % 256) = ((a % 256 : Nat) : Int) := by omega
  rw [e2, iI_nat, iI_nat]
  exact h9
theorem xr_iI {a b : Int} (h : 0 ≤ a ∧ a < 16 ∧ 0 ≤ b ∧ b < 16) : iI a ^^^ iI b = iI (xr a b) := by
  obtain ⟨a, rfl⟩ := Int.eq_ofNat_of_zero_le h.1
  obtain ⟨b, rfl⟩ := Int.eq_ofNat_of_zero_le h.2.2.1
  have h9 := xr_a ⟨a, by omega⟩ ⟨b, by omega⟩
  unfold xr
  rw [Int.toNat_natCast, Int.toNat_natCast, iI_nat, iI_nat, iI_nat]
  exact h9
theorem xr_rg {a b : Int} (h : 0 ≤ a ∧ a < 16 ∧ 0 ≤ b ∧ b < 16) : 0 ≤ xr a b ∧ xr a b < 16 := by
  have h9 : a.toNat ^^^ b.toNat < 16 := xr_b ⟨a.toNat, by omega⟩ ⟨b.toNat, by omega⟩
  unfold xr
  omega
theorem smp {a b : Int} (h : 0 ≤ a ∧ a < 2304 ∧ 0 ≤ b ∧ b < 2304) : ((iI a ^^^ iI b) &&& iI (-3841)).toInt = 0 ↔ a % 256 = b % 256 := by
  have e : (iI a ^^^ iI b) &&& iI (-3841) = (iI (a % 256)) ^^^ (iI (b % 256)) := by
    rw [← and3841 ⟨h.1, h.2.1⟩, ← and3841 ⟨h.2.2.1, h.2.2.2⟩]
    apply Int32.toBitVec_inj.mp
    simp only [Int32.toBitVec_and, Int32.toBitVec_xor]
    ext i
    simp only [BitVec.getElem_and, BitVec.getElem_xor]
    cases (iI a).toBitVec[i] <;> cases (iI b).toBitVec[i] <;> cases (iI (-3841)).toBitVec[i] <;> rfl
  rw [e]
  constructor
  · intro h9
    have h8 : iI (a % 256) ^^^ iI (b % 256) = 0 := by
      rw [← Int32.toInt_inj, h9]
      rfl
    exact (iI_eq (by omega) (by omega) (by omega) (by omega)).mp (Int32.xor_eq_zero_iff.mp h8)
  · intro h9
    rw [h9, Int32.xor_eq_zero_iff.mpr rfl]
    rfl
theorem stp_rg {G : Int → Int} {a b : Int} (h : 0 ≤ a ∧ a < 9 ∧ 0 ≤ b ∧ b < 9) : 0 ≤ stp G a b ∧ stp G a b ≤ 4 := by
  unfold stp ab
  split
  · omega
  · split <;> split <;> omega
theorem pop4_rg {r : Int} : 0 ≤ pop4 r ∧ pop4 r ≤ 4 := by
  unfold pop4
  omega
theorem dst_rg {G : Int → Int} {x y : Int} (h : 0 ≤ x ∧ x < 2304 ∧ 0 ≤ y ∧ y < 2304) : 0 ≤ dst G x y ∧ dst G x y ≤ 11 := by
  have h1 := stp_rg (G := G) (a := x / 256) (b := y / 256) (by omega)
  have h2 := pop4_rg (r := xr (x % 16) (y % 16))
  unfold dst
  split <;> split <;> omega
theorem wth_rg {L t : Int} (h : 0 ≤ L ∧ L < 2304 ∧ 0 ≤ t ∧ t < 4) : 0 ≤ wth L t ∧ wth L t < 2304 := by
  unfold wth
  omega
theorem bc_1 : ∀ x : Fin 16, (let i := Int32.ofNat x.1; let i := i - ((i.toUInt32 >>> ((1 : Int32).toUInt32 &&& Int32.toUInt32 31)).toInt32 &&& 1431655765); let i := (i &&& 858993459) + ((i.toUInt32 >>> ((2 : Int32).toUInt32 &&& Int32.toUInt32 31)).toInt32 &&& 858993459); let i := (i + (i.toUInt32 >>> ((4 : Int32).toUInt32 &&& Int32.toUInt32 31)).toInt32) &&& 252645135; let i := i + (i.toUInt32 >>> ((8 : Int32).toUInt32 &&& Int32.toUInt32 31)).toInt32; let i := i + (i.toUInt32 >>> ((16 : Int32).toUInt32 &&& Int32.toUInt32 31)).toInt32; i &&& 63) = Int32.ofNat (x.1 % 2 + x.1 / 2 % 2 + x.1 / 4 % 2 + x.1 / 8 % 2) := by decide +kernel
/-- the class's own numbers lie where they must -/
def IC (σ : Sg) : Prop := (0 ≤ σ.1 0 ∧ σ.1 0 ≤ 4) ∧ (0 ≤ σ.1 1 ∧ σ.1 1 ≤ 9) ∧ (∀ j : Int, 0 ≤ j → j < 9 → 0 ≤ σ.2 0 j ∧ σ.2 0 j < 9) ∧ (∀ b : Nat, b < 5 → 0 ≤ σ.1 (2 + b) ∧ σ.1 (2 + b) ≤ 16) ∧ (∀ b : Nat, b < 5 → ∀ j : Int, 0 ≤ j → j < 16 → 0 ≤ σ.2 (1 + b) j ∧ σ.2 (1 + b) j < 2304) ∧ ∀ b : Nat, b < 5 → ∀ j : Int, 0 ≤ j → j < 16 → 0 ≤ σ.2 (6 + b) j ∧ σ.2 (6 + b) j < 30
theorem hlJ {mc : MC} {g : GG} {cc : ByteArray} {own : String} {nL : Nat} {ret : Option FieldType} (hC : Cx mc g cc own nL ret) : (mL mc).stackTraces = false := hC.2.2.2.2.2.2.2.2.2.2.2.1
theorem j_gen {mc : MC} {g : GG} {k n : Nat} {Q : State → Prop} {pc : Nat} {lv : List (Nat × Value)} {st : List Value} {σ : Sg} {x : Int32} (h : ∀ y : Int32, y = x → J mc g k n Q pc lv (.int y :: st) σ) : J mc g k n Q pc lv (.int x :: st) σ := h x rfl
theorem j_genI {mc : MC} {g : GG} {k n : Nat} {Q : State → Prop} {pc : Nat} {lv : List (Nat × Value)} {st : List Value} {σ : Sg} {x : Int} (y : Int) (h : x = y) (kk : J mc g k n Q pc lv (vI y :: st) σ) : J mc g k n Q pc lv (vI x :: st) σ := h ▸ kk
end
section
/-! the loops, as they run -/
def fnd (mn : Int → Int) (x : Int) : Nat → Int → Int
  | 0, _ => -1
  | d + 1, z => if mn z = x then z else fnd mn x d (z + 1)
def cnt (c : Int → Bool) : Nat → Int → Int → Int
  | 0, _, a => a
  | d + 1, z, a => cnt c d (z + 1) (if c z = true then a + 1 else a)
def pO (c : Int → Int → Bool) : Nat → Int → Int → Int
  | 0, _, a => a
  | d + 1, z, a => pO c d (z + 1) (cnt (c z) d (z + 1) a)
def hsA (G lk : Int → Int) (L : Int) : Nat → Int → Int
  | 0, _ => 0
  | d + 1, z => if alk G L (lk z) then 1 else hsA G lk L d (z + 1)
def fuF (G lk : Int → Int) (n : Nat) (L : Int) : Nat → Int → Int
  | 0, _ => -1
  | d + 1, z => if hsA G lk (wth L ((L / 16 % 4 + z) % 4)) n 0 = 0 then wth L ((L / 16 % 4 + z) % 4) else fuF G lk n L d (z + 1)
def nbF (f : Int → Int) (s : Int) : Nat → Int → Int → Int
  | 0, _, a => a
  | d + 1, z, a => nbF f s d (z + 1) (if z = s then a else if a ≤ f z then a else f z)
def amF (f : Int → Int) : Nat → Int → Int → Int → Int
  | 0, _, fo, _ => fo
  | d + 1, z, fo, mo => if mo < f z then amF f d (z + 1) z (f z) else amF f d (z + 1) fo mo
def mrF (dd mn : Int → Int) : Nat → Int → Int → Int → Int
  | 0, _, _, m => m
  | d + 1, z, fw, m => if dd z < fw then mrF dd mn d (z + 1) (dd z) (mn z) else if dd z = fw then mrF dd mn d (z + 1) fw (-1) else mrF dd mn d (z + 1) fw m
/-- a book as it is asked -/
abbrev cN (σ : Sg) (b : Nat) : Nat := (σ.1 (2 + b)).toNat
abbrev lkB (σ : Sg) (b : Nat) : Int → Int := σ.2 (1 + b)
abbrev mnB (σ : Sg) (b : Nat) : Int → Int := σ.2 (6 + b)
def findB (σ : Sg) (b : Nat) (x : Int) : Int := fnd (mnB σ b) x (cN σ b) 0
def hsAB (σ : Sg) (b : Nat) (L : Int) : Int := hsA (σ.2 0) (lkB σ b) L (cN σ b) 0
def fuB (σ : Sg) (b : Nat) (L : Int) : Int := fuF (σ.2 0) (lkB σ b) (cN σ b) L 4 0
def alC (G lk : Int → Int) : Int → Int → Bool := fun z w => decide (alk G (lk z) (lk w))
def caB (σ : Sg) (b : Nat) : Int := pO (alC (σ.2 0) (lkB σ b)) (cN σ b) 0 0
def sgI (G : Int → Int) (l r x y : Int) : Bool := decide (G x = G y ∨ (G x = G l ∧ G y = G r) ∨ (G x = G r ∧ G y = G l))
def aiC (G lk : Int → Int) (l r : Int) : Int → Int → Bool := fun z w => decide (lk z % 256 = lk w % 256 ∧ sgI G l r (lk z / 256) (lk w / 256) = true)
def cajB (σ : Sg) (b : Nat) (l r : Int) : Int := pO (aiC (σ.2 0) (lkB σ b) l r) (cN σ b) 0 0
def taC (G lk : Int → Int) : Int → Int → Bool := fun z w => decide (lk z / 16 % 4 ≠ lk w / 16 % 4 ∧ dst G (lk z) (lk w) = 1)
def ctB (σ : Sg) (b : Nat) : Int := pO (taC (σ.2 0) (lkB σ b)) (cN σ b) 0 0
def nbB (σ : Sg) (b : Nat) (s L : Int) : Int := nbF (fun z => dst (σ.2 0) L (lkB σ b z)) s (cN σ b) 0 100
def faB (σ : Sg) (b : Nat) : Int := if σ.1 (2 + b) < 2 then 0 else nbF (fun z => nbB σ b z (lkB σ b z)) (-1) (cN σ b) 0 100
def nrC (G lk : Int → Int) (s : Int) : Int → Bool := fun z => decide (z ≠ s ∧ dst G (lk s) (lk z) ≤ 3)
def cnB (σ : Sg) (b : Nat) (s : Int) : Int := cnt (nrC (σ.2 0) (lkB σ b) s) (cN σ b) 0 0
def snB (σ : Sg) (b : Nat) : Int := amF (fun z => cnB σ b z) (cN σ b) 0 (-1) (-1)
def tfB (σ : Sg) (b : Nat) (s : Int) : Int := if σ.1 (2 + b) < 2 then lkB σ b s / 16 % 4 else amF (fun t => nbB σ b s (wth (lkB σ b s) t)) 4 0 0 (-1)
def mrB (σ : Sg) (b : Nat) (L : Int) : Int := mrF (fun z => dst (σ.2 0) L (lkB σ b z)) (mnB σ b) (cN σ b) 0 4 (-1)
def unC (σ : Sg) (b s : Nat) : Int → Bool := fun z => decide (mrB σ b (lkB σ s z) = mnB σ s z)
def cuB (σ : Sg) (b s : Nat) : Int := cnt (unC σ b s) (cN σ s) 0 0
def miC (σ : Sg) (b s : Nat) : Int → Bool := fun z => decide (mrB σ b (lkB σ s z) ≠ -1 ∧ mrB σ b (lkB σ s z) ≠ mnB σ s z)
def cmB (σ : Sg) (b s : Nat) : Int := cnt (miC σ b s) (cN σ s) 0 0
def coC (σ : Sg) (b s : Nat) : Int → Bool := fun z => decide (findB σ s (mnB σ b z) ≠ -1 ∧ mrB σ s (lkB σ b z) = mnB σ b z ∧ mrB σ b (lkB σ s (findB σ s (mnB σ b z))) = mnB σ b z)
def ccB (σ : Sg) (b s : Nat) : Int := cnt (coC σ b s) (cN σ b) 0 0
theorem fnd_rg (mn : Int → Int) (x : Int) : ∀ (d : Nat) (z : Int), fnd mn x d z = -1 ∨ (z ≤ fnd mn x d z ∧ fnd mn x d z < z + d) := by
  intro d
  induction d with
  | zero => intro z; exact Or.inl rfl
  | succ d ih =>
    intro z
    unfold fnd
    split
    · right; omega
    · rcases ih (z + 1) with h | h
      · exact Or.inl h
      · right; omega
theorem cnt_rg (c : Int → Bool) : ∀ (d : Nat) (z a : Int), a ≤ cnt c d z a ∧ cnt c d z a ≤ a + d := by
  intro d
  induction d with
  | zero => intro z a; exact ⟨Int.le_refl _, by simp [cnt]⟩
  | succ d ih =>
    intro z a
    unfold cnt
    have h := ih (z + 1) (if c z = true then a + 1 else a)
    split at h <;> split <;> first | omega | simp_all | (constructor <;> omega)
theorem hsA_01 (G lk : Int → Int) (L : Int) : ∀ (d : Nat) (z : Int), hsA G lk L d z = 0 ∨ hsA G lk L d z = 1 := by
  intro d
  induction d with
  | zero => intro z; exact Or.inl rfl
  | succ d ih =>
    intro z
    unfold hsA
    split
    · exact Or.inr rfl
    · exact ih (z + 1)
theorem fuF_rg (G lk : Int → Int) (n : Nat) {L : Int} (hL : 0 ≤ L ∧ L < 2304) : ∀ (d : Nat) (z : Int), 0 ≤ z → fuF G lk n L d z = -1 ∨ (0 ≤ fuF G lk n L d z ∧ fuF G lk n L d z < 2304) := by
  intro d
  induction d with
  | zero => intro z _; exact Or.inl rfl
  | succ d ih =>
    intro z hz
    unfold fuF
    split
    · right; exact wth_rg (by omega)
    · exact ih (z + 1) (by omega)
theorem nbF_rg (f : Int → Int) (s : Int) {lo hi : Int} : ∀ (d : Nat) (z a : Int), (∀ y : Int, z ≤ y → y < z + d → lo ≤ f y ∧ f y ≤ hi) → lo ≤ a → a ≤ hi → lo ≤ nbF f s d z a ∧ nbF f s d z a ≤ hi := by
  intro d
  induction d with
  | zero => intro z a _ h1 h2; exact ⟨h1, h2⟩
  | succ d ih =>
    intro z a hf h1 h2
    unfold nbF
    have h3 := hf z (by omega) (by omega)
    refine ih (z + 1) _ (fun y hy1 hy2 => hf y (by omega) (by omega)) ?_ ?_ <;> split <;> first | assumption | (split <;> omega)
theorem amF_rg (f : Int → Int) {lo hi : Int} : ∀ (d : Nat) (z fo mo : Int), lo ≤ fo → fo ≤ hi → lo ≤ z → z + d ≤ hi + 1 → lo ≤ amF f d z fo mo ∧ amF f d z fo mo ≤ hi := by
  intro d
  induction d with
  | zero => intro z fo mo h1 h2 _ _; exact ⟨h1, h2⟩
  | succ d ih =>
    intro z fo mo h1 h2 h3 h4
    unfold amF
    split
    · exact ih (z + 1) z _ h3 (by omega) (by omega) (by omega)
    · exact ih (z + 1) fo mo h1 h2 (by omega) (by omega)
theorem mrF_rg (dd mn : Int → Int) : ∀ (d : Nat) (z fw m : Int), (∀ y : Int, z ≤ y → y < z + d → 0 ≤ mn y ∧ mn y < 30) → -1 ≤ m → m < 30 → -1 ≤ mrF dd mn d z fw m ∧ mrF dd mn d z fw m < 30 := by
  intro d
  induction d with
  | zero => intro z fw m _ h1 h2; exact ⟨h1, h2⟩
  | succ d ih =>
    intro z fw m hf h1 h2
    have h3 := hf z (by omega) (by omega)
    unfold mrF
    split
    · exact ih (z + 1) _ _ (fun y hy1 hy2 => hf y (by omega) (by omega)) (by omega) (by omega)
    · split
      · exact ih (z + 1) _ _ (fun y hy1 hy2 => hf y (by omega) (by omega)) (by omega) (by omega)
      · exact ih (z + 1) _ _ (fun y hy1 hy2 => hf y (by omega) (by omega)) h1 h2
theorem findB_rg {σ : Sg} (hI : IC σ) {b : Nat} (hb : b < 5) (x : Int) : findB σ b x = -1 ∨ (0 ≤ findB σ b x ∧ findB σ b x < σ.1 (2 + b)) := by
  have h := hI.2.2.2.1 b hb
  rcases fnd_rg (mnB σ b) x (cN σ b) 0 with q | q
  · exact Or.inl q
  · right
    unfold findB
    have : ((cN σ b : Nat) : Int) = σ.1 (2 + b) := by show ((σ.1 (2 + b)).toNat : Int) = _; omega
    omega
theorem mrB_rg {σ : Sg} (hI : IC σ) {b : Nat} (hb : b < 5) (L : Int) : -1 ≤ mrB σ b L ∧ mrB σ b L < 30 := by
  have h := hI.2.2.2.1 b hb
  refine mrF_rg _ _ (cN σ b) 0 4 (-1) (fun y h1 h2 => ?_) (by omega) (by omega)
  have : ((cN σ b : Nat) : Int) = σ.1 (2 + b) := by show ((σ.1 (2 + b)).toNat : Int) = _; omega
  exact hI.2.2.2.2.2 b hb y h1 (by omega)
theorem nbB_rg {σ : Sg} (hI : IC σ) {b : Nat} (hb : b < 5) (s : Int) {L : Int} (hL : 0 ≤ L ∧ L < 2304) : 0 ≤ nbB σ b s L ∧ nbB σ b s L ≤ 100 := by
  have h := hI.2.2.2.1 b hb
  refine nbF_rg _ s (cN σ b) 0 100 (fun y h1 h2 => ?_) (by omega) (by omega)
  have : ((cN σ b : Nat) : Int) = σ.1 (2 + b) := by show ((σ.1 (2 + b)).toNat : Int) = _; omega
  have h3 := hI.2.2.2.2.1 b hb y h1 (by omega)
  have h4 := dst_rg (G := σ.2 0) (x := L) (y := lkB σ b y) ⟨hL.1, hL.2, h3.1, h3.2⟩
  show 0 ≤ dst (σ.2 0) L (lkB σ b y) ∧ dst (σ.2 0) L (lkB σ b y) ≤ 100
  omega
theorem cN_eq {σ : Sg} (hI : IC σ) {b : Nat} (hb : b < 5) : ((cN σ b : Nat) : Int) = σ.1 (2 + b) := by
  have h := hI.2.2.2.1 b hb
  show ((σ.1 (2 + b)).toNat : Int) = _
  omega
theorem cnt0_rg (c : Int → Bool) {σ : Sg} (hI : IC σ) {b : Nat} (hb : b < 5) : 0 ≤ cnt c (cN σ b) 0 0 ∧ cnt c (cN σ b) 0 0 ≤ 16 := by
  have h := cnt_rg c (cN σ b) 0 0
  have h2 := cN_eq hI hb
  have h3 := hI.2.2.2.1 b hb
  omega
theorem j_ifb_eq {mc : MC} {g : GG} {k n : Nat} {Q : State → Prop} {pc : Nat} {lv : List (Nat × Value)} {st : List Value} {σ : Sg} {cc : ByteArray} {own : String} {nL : Nat} {ret : Option FieldType} {c : Prop} {dc : Decidable c} (hC : Cx mc g cc own nL ret) {off : Int} {tgt : Nat} (hd : decode cc pc = .ok (.ifCond .eq off, 3)) (ht : (pc : Int) + off = (tgt : Int)) (kt : ¬ c → J mc g k n Q tgt lv st σ) (kf : c → J mc g k n Q (pc + 3) lv st σ) : J mc g k n Q pc lv (vI (@ite Int c dc 1 0) :: st) σ := by
  by_cases h : c
  · rw [if_pos h]
    exact j_if_eq (tgt := tgt) hC hd ht (by omega) (fun q => absurd q (by decide)) (fun _ => kf h)
  · rw [if_neg h]
    exact j_if_eq (tgt := tgt) hC hd ht (by omega) (fun _ => kt h) (fun q => absurd rfl q)
theorem j_ifb_ne {mc : MC} {g : GG} {k n : Nat} {Q : State → Prop} {pc : Nat} {lv : List (Nat × Value)} {st : List Value} {σ : Sg} {cc : ByteArray} {own : String} {nL : Nat} {ret : Option FieldType} {c : Prop} {dc : Decidable c} (hC : Cx mc g cc own nL ret) {off : Int} {tgt : Nat} (hd : decode cc pc = .ok (.ifCond .ne off, 3)) (ht : (pc : Int) + off = (tgt : Int)) (kt : c → J mc g k n Q tgt lv st σ) (kf : ¬ c → J mc g k n Q (pc + 3) lv st σ) : J mc g k n Q pc lv (vI (@ite Int c dc 1 0) :: st) σ := by
  by_cases h : c
  · rw [if_pos h]
    exact j_if_ne (tgt := tgt) hC hd ht (by omega) (fun _ => kt h) (fun q => absurd q (by decide))
  · rw [if_neg h]
    exact j_if_ne (tgt := tgt) hC hd ht (by omega) (fun q => absurd rfl q) (fun _ => kf h)
end
section
set_option maxHeartbeats 4000000 in
set_option maxRecDepth 100000 in
theorem c_X1_shape {l : Launch} (hl : l.stackTraces = false) (g : GG) (σ : Sg) (x : Int) (hx : 0 ≤ x ∧ x < 2304) : CN l yX1_shape cX1_shape 1 (some .int) 0 0 0 0 g [vI (x)] σ (pt (some (vI (x % 16))) (σ)) := by
  refine CN_of (own := RX1) hl (by decide) rfl (Nat.le_of_ble_eq_true rfl) (fun mc hC _ hR => ?_)
  refine j_lv (lv2 := [(0, vI (x))]) rfl ?_
  refine j_iload_n hC dX1_shape_0 0 rfl ?_
  refine j_bipush hC dX1_shape_1 (by decide) ?_
  refine j_iand (r := x % 16) hC dX1_shape_3 (and_iI 4 (by omega) (by omega) (by decide)) ?_
  exact j_iret hC dX1_shape_4 ⟨rfl, rfl⟩
set_option maxHeartbeats 4000000 in
set_option maxRecDepth 100000 in
theorem c_X1_thumb {l : Launch} (hl : l.stackTraces = false) (g : GG) (σ : Sg) (x : Int) (hx : 0 ≤ x ∧ x < 2304) : CN l yX1_thumb cX1_thumb 1 (some .int) 0 0 0 0 g [vI (x)] σ (pt (some (vI (x / 16 % 4))) (σ)) := by
  refine CN_of (own := RX1) hl (by decide) rfl (Nat.le_of_ble_eq_true rfl) (fun mc hC _ hR => ?_)
  refine j_lv (lv2 := [(0, vI (x))]) rfl ?_
  refine j_iload_n hC dX1_thumb_0 0 rfl ?_
  refine j_iconst hC dX1_thumb_1 ?_
  refine j_ishr (r := x / 16) hC dX1_thumb_2 (shr_iI 4 (by omega) (by omega) (by decide)) ?_
  refine j_iconst hC dX1_thumb_3 ?_
  refine j_iand (r := (x / 16) % 4) hC dX1_thumb_4 (and_iI 2 (by omega) (by omega) (by decide)) ?_
  exact j_iret hC dX1_thumb_5 ⟨rfl, rfl⟩
set_option maxHeartbeats 4000000 in
set_option maxRecDepth 100000 in
theorem c_X1_movement {l : Launch} (hl : l.stackTraces = false) (g : GG) (σ : Sg) (x : Int) (hx : 0 ≤ x ∧ x < 2304) : CN l yX1_movement cX1_movement 1 (some .int) 0 0 0 0 g [vI (x)] σ (pt (some (vI (x / 64 % 4))) (σ)) := by
  refine CN_of (own := RX1) hl (by decide) rfl (Nat.le_of_ble_eq_true rfl) (fun mc hC _ hR => ?_)
  refine j_lv (lv2 := [(0, vI (x))]) rfl ?_
  refine j_iload_n hC dX1_movement_0 0 rfl ?_
  refine j_bipush hC dX1_movement_1 (by decide) ?_
  refine j_ishr (r := x / 64) hC dX1_movement_3 (shr_iI 6 (by omega) (by omega) (by decide)) ?_
  refine j_iconst hC dX1_movement_4 ?_
  refine j_iand (r := (x / 64) % 4) hC dX1_movement_5 (and_iI 2 (by omega) (by omega) (by decide)) ?_
  exact j_iret hC dX1_movement_6 ⟨rfl, rfl⟩
set_option maxHeartbeats 4000000 in
set_option maxRecDepth 100000 in
theorem c_X1_place {l : Launch} (hl : l.stackTraces = false) (g : GG) (σ : Sg) (x : Int) (hx : 0 ≤ x ∧ x < 2304) : CN l yX1_place cX1_place 1 (some .int) 0 0 0 0 g [vI (x)] σ (pt (some (vI (x / 256))) (σ)) := by
  refine CN_of (own := RX1) hl (by decide) rfl (Nat.le_of_ble_eq_true rfl) (fun mc hC _ hR => ?_)
  refine j_lv (lv2 := [(0, vI (x))]) rfl ?_
  have e : x / 256 % 16 = x / 256 := by omega
  refine j_iload_n hC dX1_place_0 0 rfl ?_
  refine j_bipush hC dX1_place_1 (by decide) ?_
  refine j_ishr (r := x / 256) hC dX1_place_3 (shr_iI 8 (by omega) (by omega) (by decide)) ?_
  refine j_bipush hC dX1_place_4 (by decide) ?_
  refine j_iand (r := (x / 256) % 16) hC dX1_place_6 (and_iI 4 (by omega) (by omega) (by decide)) ?_
  exact j_iret hC dX1_place_7 ⟨congrArg (fun z => some (vI z)) e, rfl⟩
set_option maxHeartbeats 4000000 in
set_option maxRecDepth 100000 in
theorem c_X1_of {l : Launch} (hl : l.stackTraces = false) (g : GG) (σ : Sg) (sh th pl mv : Int) (hx : 0 ≤ sh ∧ sh < 16 ∧ 0 ≤ th ∧ th < 4 ∧ 0 ≤ pl ∧ pl < 9 ∧ 0 ≤ mv ∧ mv < 4) : CN l yX1_of cX1_of 4 (some .int) 0 0 0 0 g [vI (sh), vI (th), vI (pl), vI (mv)] σ (pt (some (vI (mkL sh th pl mv))) (σ)) := by
  refine CN_of (own := RX1) hl (by decide) rfl (Nat.le_of_ble_eq_true rfl) (fun mc hC _ hR => ?_)
  refine j_lv (lv2 := [(0, vI (sh)), (1, vI (th)), (2, vI (pl)), (3, vI (mv))]) rfl ?_
  refine j_iload_n hC dX1_of_0 0 rfl ?_
  refine j_iload_n hC dX1_of_1 1 rfl ?_
  refine j_iconst hC dX1_of_2 ?_
  refine j_ishl (r := th * (2 ^ 4 : Nat)) hC dX1_of_3 (shl_iI 4 (by omega) (by omega) (by decide)) ?_
  refine j_ior (r := sh + 16 * th) hC dX1_of_4 (or16 (by omega)) ?_
  refine j_iload_n hC dX1_of_5 3 rfl ?_
  refine j_bipush hC dX1_of_6 (by decide) ?_
  refine j_ishl (r := mv * (2 ^ 6 : Nat)) hC dX1_of_8 (shl_iI 6 (by omega) (by omega) (by decide)) ?_
  refine j_ior (r := sh + 16 * th + 64 * mv) hC dX1_of_9 (or64 (by omega)) ?_
  refine j_iload_n hC dX1_of_10 2 rfl ?_
  refine j_bipush hC dX1_of_11 (by decide) ?_
  refine j_ishl (r := pl * (2 ^ 8 : Nat)) hC dX1_of_13 (shl_iI 8 (by omega) (by omega) (by decide)) ?_
  refine j_ior (r := mkL sh th pl mv) hC dX1_of_14 (or256 (by omega)) ?_
  exact j_iret hC dX1_of_15 ⟨rfl, rfl⟩
set_option maxHeartbeats 4000000 in
set_option maxRecDepth 100000 in
theorem c_X1_withThumb {l : Launch} (hl : l.stackTraces = false) (g : GG) (σ : Sg) (x t : Int) (hx : 0 ≤ x ∧ x < 2304 ∧ 0 ≤ t ∧ t < 4) : CN l yX1_withThumb cX1_withThumb 2 (some .int) 0 0 0 0 g [vI (x), vI (t)] σ (pt (some (vI (wth x t))) (σ)) := by
  refine CN_of (own := RX1) hl (by decide) rfl (Nat.le_of_ble_eq_true rfl) (fun mc hC _ hR => ?_)
  refine j_lv (lv2 := [(0, vI (x)), (1, vI (t))]) rfl ?_
  refine j_iload_n hC dX1_withThumb_0 0 rfl ?_
  refine j_bipush hC dX1_withThumb_1 (by decide) ?_
  refine j_iand (r := x - 16 * (x / 16 % 4)) hC dX1_withThumb_3 (and49 (by omega)) ?_
  refine j_iload_n hC dX1_withThumb_4 1 rfl ?_
  refine j_iconst hC dX1_withThumb_5 ?_
  refine j_ishl (r := t * (2 ^ 4 : Nat)) hC dX1_withThumb_6 (shl_iI 4 (by omega) (by omega) (by decide)) ?_
  refine j_ior (r := wth x t) hC dX1_withThumb_7 (orT (by omega)) ?_
  exact j_iret hC dX1_withThumb_8 ⟨rfl, rfl⟩
set_option maxHeartbeats 4000000 in
set_option maxRecDepth 100000 in
theorem c_X1_sameButForPlace {l : Launch} (hl : l.stackTraces = false) (g : GG) (σ : Sg) (x y : Int) (hx : 0 ≤ x ∧ x < 2304 ∧ 0 ≤ y ∧ y < 2304) : CN l yX1_sameButForPlace cX1_sameButForPlace 2 (some .boolean) 0 0 0 0 g [vI (x), vI (y)] σ (pt (some (vI (if x % 256 = y % 256 then 1 else 0))) (σ)) := by
  refine CN_of (own := RX1) hl (by decide) rfl (Nat.le_of_ble_eq_true rfl) (fun mc hC _ hR => ?_)
  refine j_lv (lv2 := [(0, vI (x)), (1, vI (y))]) rfl ?_
  have hs := smp hx
  generalize hw : ((iI x ^^^ iI y) &&& iI (-3841)).toInt = w at hs
  have hw2 : (iI x ^^^ iI y) &&& iI (-3841) = iI w := by rw [← hw]; exact (Int32.ofInt_toInt _).symm
  have hw3 : -2147483648 ≤ w ∧ w < 2147483648 := by rw [← hw]; exact ⟨by have := ((iI x ^^^ iI y) &&& iI (-3841)).le_toInt; omega, by have := ((iI x ^^^ iI y) &&& iI (-3841)).toInt_lt; omega⟩
  refine j_iload_n hC dX1_sameButForPlace_0 0 rfl ?_
  refine j_iload_n hC dX1_sameButForPlace_1 1 rfl ?_
  refine j_ixor (r := (iI x ^^^ iI y).toInt) hC dX1_sameButForPlace_2 (Int32.ofInt_toInt _).symm ?_
  refine j_sipush hC dX1_sameButForPlace_3 (by decide) ?_
  refine j_iand (r := w) hC dX1_sameButForPlace_6 (by rw [show iI (iI x ^^^ iI y).toInt = iI x ^^^ iI y from Int32.ofInt_toInt _]; exact hw2) ?_
  refine j_if_ne (tgt := 14) hC dX1_sameButForPlace_7 (by decide) (by omega) (fun h7 => ?_) (fun h7 => ?_)
  · refine j_iconst hC dX1_sameButForPlace_14 ?_
    exact j_zret hC (by decide) dX1_sameButForPlace_15 (by first | (rw [if_pos (hs.mp h7)]; exact ⟨rfl, rfl⟩) | (rw [if_neg (fun z => h7 (hs.mpr z))]; exact ⟨rfl, rfl⟩))
  · refine j_iconst hC dX1_sameButForPlace_10 ?_
    refine j_goto (tgt := 15) hC dX1_sameButForPlace_11 (by decide) ?_
    exact j_zret hC (by decide) dX1_sameButForPlace_15 (by first | (rw [if_pos (hs.mp h7)]; exact ⟨rfl, rfl⟩) | (rw [if_neg (fun z => h7 (hs.mpr z))]; exact ⟨rfl, rfl⟩))
set_option maxHeartbeats 4000000 in
set_option maxRecDepth 100000 in
theorem c_J6_bitCount_0f7a4 {l : Launch} (hl : l.stackTraces = false) (g : GG) (σ : Sg) (x : Int) (hx : 0 ≤ x ∧ x < 16) : CN l yJ6_bitCount_0f7a4 cJ6_bitCount_0f7a4 1 (some .int) 0 0 0 0 g [vI (x)] σ (pt (some (vI (pop4 x))) (σ)) := by
  refine CN_of (own := RJ6) hl (by decide) rfl (Nat.le_of_ble_eq_true rfl) (fun mc hC _ hR => ?_)
  refine j_lv (lv2 := [(0, vI (x))]) rfl ?_
  refine j_iload_n hC dJ6_bitCount_0f7a4_0 0 rfl ?_
  refine j_iload_n hC dJ6_bitCount_0f7a4_1 0 rfl ?_
  refine j_iconst hC dJ6_bitCount_0f7a4_2 ?_
  refine j_iushr hC dJ6_bitCount_0f7a4_3 rfl ?_
  refine j_ldc_w hC dJ6_bitCount_0f7a4_4 wd234 ?_
  refine j_iandR hC dJ6_bitCount_0f7a4_7 ?_
  refine j_isubR hC dJ6_bitCount_0f7a4_8 ?_
  refine j_gen (fun y0 ey0 => ?_)
  refine j_istore_n hC dJ6_bitCount_0f7a4_9 [(0, .int (y0))] (by decide) rfl ?_
  refine j_iload_n hC dJ6_bitCount_0f7a4_10 0 rfl ?_
  refine j_ldc_w hC dJ6_bitCount_0f7a4_11 wd235 ?_
  refine j_iandR hC dJ6_bitCount_0f7a4_14 ?_
  refine j_iload_n hC dJ6_bitCount_0f7a4_15 0 rfl ?_
  refine j_iconst hC dJ6_bitCount_0f7a4_16 ?_
  refine j_iushr hC dJ6_bitCount_0f7a4_17 rfl ?_
  refine j_ldc_w hC dJ6_bitCount_0f7a4_18 wd235 ?_
  refine j_iandR hC dJ6_bitCount_0f7a4_21 ?_
  refine j_iaddR hC dJ6_bitCount_0f7a4_22 ?_
  refine j_gen (fun y1 ey1 => ?_)
  refine j_istore_n hC dJ6_bitCount_0f7a4_23 [(0, .int (y1))] (by decide) rfl ?_
  refine j_iload_n hC dJ6_bitCount_0f7a4_24 0 rfl ?_
  refine j_iload_n hC dJ6_bitCount_0f7a4_25 0 rfl ?_
  refine j_iconst hC dJ6_bitCount_0f7a4_26 ?_
  refine j_iushr hC dJ6_bitCount_0f7a4_27 rfl ?_
  refine j_iaddR hC dJ6_bitCount_0f7a4_28 ?_
  refine j_ldc_w hC dJ6_bitCount_0f7a4_29 wd236 ?_
  refine j_iandR hC dJ6_bitCount_0f7a4_32 ?_
  refine j_gen (fun y2 ey2 => ?_)
  refine j_istore_n hC dJ6_bitCount_0f7a4_33 [(0, .int (y2))] (by decide) rfl ?_
  refine j_iload_n hC dJ6_bitCount_0f7a4_34 0 rfl ?_
  refine j_iload_n hC dJ6_bitCount_0f7a4_35 0 rfl ?_
  refine j_bipush hC dJ6_bitCount_0f7a4_36 (by decide) ?_
  refine j_iushr hC dJ6_bitCount_0f7a4_38 rfl ?_
  refine j_iaddR hC dJ6_bitCount_0f7a4_39 ?_
  refine j_gen (fun y3 ey3 => ?_)
  refine j_istore_n hC dJ6_bitCount_0f7a4_40 [(0, .int (y3))] (by decide) rfl ?_
  refine j_iload_n hC dJ6_bitCount_0f7a4_41 0 rfl ?_
  refine j_iload_n hC dJ6_bitCount_0f7a4_42 0 rfl ?_
  refine j_bipush hC dJ6_bitCount_0f7a4_43 (by decide) ?_
  refine j_iushr hC dJ6_bitCount_0f7a4_45 rfl ?_
  refine j_iaddR hC dJ6_bitCount_0f7a4_46 ?_
  refine j_gen (fun y4 ey4 => ?_)
  refine j_istore_n hC dJ6_bitCount_0f7a4_47 [(0, .int (y4))] (by decide) rfl ?_
  refine j_iload_n hC dJ6_bitCount_0f7a4_48 0 rfl ?_
  refine j_bipush hC dJ6_bitCount_0f7a4_49 (by decide) ?_
  refine j_iandR hC dJ6_bitCount_0f7a4_51 ?_
  exact j_iret hC dJ6_bitCount_0f7a4_52 (by
    obtain ⟨x, rfl⟩ := Int.eq_ofNat_of_zero_le hx.1
    have h9 := bc_1 ⟨x, by omega⟩
    refine ⟨congrArg (fun z => some (Value.int z)) ?_, rfl⟩
    have e : pop4 (x : Int) = ((x % 2 + x / 2 % 2 + x / 4 % 2 + x / 8 % 2 : Nat) : Int) := by unfold pop4; omega
    rw [e, iI_nat, ← h9, ey4, ey3, ey2, ey1, ey0, iI_nat]
    rfl)
set_option maxHeartbeats 4000000 in
set_option maxRecDepth 100000 in
theorem c_X2_sameGroup {l : Launch} (hl : l.stackTraces = false) (g : GG) (σ : Sg) (hI : IC σ) (a b : Int) (hx : 0 ≤ a ∧ a < 9 ∧ 0 ≤ b ∧ b < 9) : CN l yX2_sameGroup cX2_sameGroup 3 (some .boolean) 0 0 0 0 g [.ref (gd g (1)), vI (a), vI (b)] σ (pt (some (vI (if σ.2 0 a = σ.2 0 b then 1 else 0))) (σ)) := by
  refine CN_of (own := RX2) hl (by decide) rfl (Nat.le_of_ble_eq_true rfl) (fun mc hC _ hR => ?_)
  refine j_lv (lv2 := [(0, .ref (gd g (1))), (1, vI (a)), (2, vI (b))]) rfl ?_
  have hg1 := hI.2.2.1 a (by omega) (by omega)
  have hg2 := hI.2.2.1 b (by omega) (by omega)
  refine j_aload_n hC dX2_sameGroup_0 0 rfl ?_
  refine j_get hC inX2 rfl 1 rfl 0 (by decide) wd28 rfl dX2_sameGroup_1 ?_
  refine j_iload_n hC dX2_sameGroup_4 1 rfl ?_
  refine j_iald hC 2 rfl (by omega) dX2_sameGroup_5 ?_
  refine j_aload_n hC dX2_sameGroup_6 0 rfl ?_
  refine j_get hC inX2 rfl 1 rfl 0 (by decide) wd28 rfl dX2_sameGroup_7 ?_
  refine j_iload_n hC dX2_sameGroup_10 2 rfl ?_
  refine j_iald hC 2 rfl (by omega) dX2_sameGroup_11 ?_
  refine j_icmp_ne (tgt := 19) hC dX2_sameGroup_12 (by decide) (by omega) (fun h12 => ?_) (fun h12 => ?_)
  · refine j_iconst hC dX2_sameGroup_19 ?_
    exact j_zret hC (by decide) dX2_sameGroup_20 (by first | (rw [if_pos h12]; exact ⟨rfl, rfl⟩) | (rw [if_neg h12]; exact ⟨rfl, rfl⟩))
  · refine j_iconst hC dX2_sameGroup_15 ?_
    refine j_goto (tgt := 20) hC dX2_sameGroup_16 (by decide) ?_
    exact j_zret hC (by decide) dX2_sameGroup_20 (by first | (rw [if_pos h12]; exact ⟨rfl, rfl⟩) | (rw [if_neg h12]; exact ⟨rfl, rfl⟩))
set_option maxHeartbeats 4000000 in
set_option maxRecDepth 100000 in
theorem c_X2_stepsBetween {l : Launch} (hl : l.stackTraces = false) (g : GG) (σ : Sg) (hI : IC σ) (a b : Int) (hx : 0 ≤ a ∧ a < 9 ∧ 0 ≤ b ∧ b < 9) : CN l yX2_stepsBetween cX2_stepsBetween 5 (some .int) 1 22 0 0 g [.ref (gd g (1)), vI (a), vI (b)] σ (pt (some (vI (stp (σ.2 0) a b))) (σ)) := by
  refine CN_of (own := RX2) hl (by decide) rfl (Nat.le_of_ble_eq_true rfl) (fun mc hC _ hR => ?_)
  refine j_lv (lv2 := [(0, .ref (gd g (1))), (1, vI (a)), (2, vI (b))]) rfl ?_
  refine j_aload_n hC dX2_stepsBetween_0 0 rfl ?_
  refine j_iload_n hC dX2_stepsBetween_1 1 rfl ?_
  refine j_iload_n hC dX2_stepsBetween_2 2 rfl ?_
  refine j_callV1 (ar := 2) hC hR (c_X2_sameGroup (hlJ hC) g σ hI a b (by omega)) [] rfl 1 rfl rfl rfl (by decide) (by decide +kernel) rfl wd175 wd165 wp2 wd2 wd166 (by decide) (Nat.le_of_ble_eq_true rfl) dX2_stepsBetween_3 ?_
  refine j_ifb_eq (tgt := 11) hC dX2_stepsBetween_6 (by decide) (fun h6 => ?_) (fun h6 => ?_)
  · refine j_iload_n hC dX2_stepsBetween_11 1 rfl ?_
    refine j_iconst hC dX2_stepsBetween_12 ?_
    refine j_idiv hC dX2_stepsBetween_13 (by omega) ?_
    refine j_iload_n hC dX2_stepsBetween_14 2 rfl ?_
    refine j_iconst hC dX2_stepsBetween_15 ?_
    refine j_idiv hC dX2_stepsBetween_16 (by omega) ?_
    refine j_isub hC dX2_stepsBetween_17 ?_
    refine j_abs hC hR wd176 ⟨by decide, Nat.le_of_ble_eq_true rfl⟩ (by decide) (by omega) dX2_stepsBetween_18 ?_
    have hab1 : ∀ z : Int, (if 0 ≤ z then z else -z) = ab z := fun _ => rfl
    refine j_istore_n hC dX2_stepsBetween_21 [(3, vI (if 0 ≤ (a / 3) - (b / 3) then (a / 3) - (b / 3) else -((a / 3) - (b / 3)))), (0, .ref (gd g (1))), (1, vI (a)), (2, vI (b))] (by decide) rfl ?_
    refine j_iload_n hC dX2_stepsBetween_22 2 rfl ?_
    refine j_iconst hC dX2_stepsBetween_23 ?_
    refine j_irem hC dX2_stepsBetween_24 (by omega) ?_
    refine j_iload_n hC dX2_stepsBetween_25 3 rfl ?_
    refine j_iconst hC dX2_stepsBetween_26 ?_
    refine j_irem hC dX2_stepsBetween_27 (by omega) ?_
    refine j_isub hC dX2_stepsBetween_28 ?_
    refine j_abs hC hR wd176 ⟨by decide, Nat.le_of_ble_eq_true rfl⟩ (by decide) (by omega) dX2_stepsBetween_29 ?_
    refine j_istore hC dX2_stepsBetween_32 [(4, vI (if 0 ≤ (a % 3) - (b % 3) then (a % 3) - (b % 3) else -((a % 3) - (b % 3)))), (3, vI (if 0 ≤ (a / 3) - (b / 3) then (a / 3) - (b / 3) else -((a / 3) - (b / 3)))), (0, .ref (gd g (1))), (1, vI (a)), (2, vI (b))] (by decide) rfl ?_
    refine j_iload_n hC dX2_stepsBetween_34 1 rfl ?_
    refine j_iload hC dX2_stepsBetween_35 0 rfl ?_
    refine j_iadd hC dX2_stepsBetween_37 ?_
    exact j_iret hC dX2_stepsBetween_38 ⟨by unfold stp ab; first | rw [if_pos h6] | rw [if_neg h6], rfl⟩
  · refine j_iconst hC dX2_stepsBetween_9 ?_
    exact j_iret hC dX2_stepsBetween_10 ⟨by unfold stp ab; first | rw [if_pos h6] | rw [if_neg h6], rfl⟩
set_option maxHeartbeats 4000000 in
set_option maxRecDepth 100000 in
theorem c_X2_alike {l : Launch} (hl : l.stackTraces = false) (g : GG) (σ : Sg) (hI : IC σ) (x y : Int) (hx : 0 ≤ x ∧ x < 2304 ∧ 0 ≤ y ∧ y < 2304) : CN l yX2_alike cX2_alike 3 (some .boolean) 1 22 0 0 g [.ref (gd g (1)), vI (x), vI (y)] σ (pt (some (vI (if alk (σ.2 0) x y then 1 else 0))) (σ)) := by
  refine CN_of (own := RX2) hl (by decide) rfl (Nat.le_of_ble_eq_true rfl) (fun mc hC _ hR => ?_)
  refine j_lv (lv2 := [(0, .ref (gd g (1))), (1, vI (x)), (2, vI (y))]) rfl ?_
  refine j_iload_n hC dX2_alike_0 1 rfl ?_
  refine j_iload_n hC dX2_alike_1 2 rfl ?_
  refine j_callSN1 (ar := 2) hC hR (c_X1_sameButForPlace (hlJ hC) g σ x y (by omega)) [] rfl (by decide) (by decide +kernel) rfl wd257 wd258 wd11 wd259 (by decide) (Nat.le_of_ble_eq_true rfl) dX2_alike_2 ?_
  refine j_ifb_eq (tgt := 27) hC dX2_alike_5 (by decide) (fun h5 => ?_) (fun h5 => ?_)
  · refine j_iconst hC dX2_alike_27 ?_
    exact j_zret hC (by decide) dX2_alike_28 (by first | (rw [if_pos ⟨h5, h20⟩]; exact ⟨rfl, rfl⟩) | (rw [if_neg (fun z => h20 z.2)]; exact ⟨rfl, rfl⟩) | (rw [if_neg (fun z => h5 z.1)]; exact ⟨rfl, rfl⟩))
  · refine j_aload_n hC dX2_alike_8 0 rfl ?_
    refine j_iload_n hC dX2_alike_9 1 rfl ?_
    refine j_callSN1 (ar := 1) hC hR (c_X1_place (hlJ hC) g σ x (by omega)) [.ref (gd g (1))] rfl (by decide) (by decide +kernel) rfl wd241 wd242 wd11 wd243 (by decide) (Nat.le_of_ble_eq_true rfl) dX2_alike_10 ?_
    refine j_iload_n hC dX2_alike_13 2 rfl ?_
    refine j_callSN1 (ar := 1) hC hR (c_X1_place (hlJ hC) g σ y (by omega)) [vI (x / 256), .ref (gd g (1))] rfl (by decide) (by decide +kernel) rfl wd241 wd242 wd11 wd243 (by decide) (Nat.le_of_ble_eq_true rfl) dX2_alike_14 ?_
    refine j_callV1 (ar := 2) hC hR (c_X2_sameGroup (hlJ hC) g σ hI (x / 256) (y / 256) (by omega)) [] rfl 1 rfl rfl rfl (by decide) (by decide +kernel) rfl wd175 wd165 wp2 wd2 wd166 (by decide) (Nat.le_of_ble_eq_true rfl) dX2_alike_17 ?_
    refine j_ifb_eq (tgt := 27) hC dX2_alike_20 (by decide) (fun h20 => ?_) (fun h20 => ?_)
    · refine j_iconst hC dX2_alike_27 ?_
      exact j_zret hC (by decide) dX2_alike_28 (by first | (rw [if_pos ⟨h5, h20⟩]; exact ⟨rfl, rfl⟩) | (rw [if_neg (fun z => h20 z.2)]; exact ⟨rfl, rfl⟩) | (rw [if_neg (fun z => h5 z.1)]; exact ⟨rfl, rfl⟩))
    · refine j_iconst hC dX2_alike_23 ?_
      refine j_goto (tgt := 28) hC dX2_alike_24 (by decide) ?_
      exact j_zret hC (by decide) dX2_alike_28 (by first | (rw [if_pos ⟨h5, h20⟩]; exact ⟨rfl, rfl⟩) | (rw [if_neg (fun z => h20 z.2)]; exact ⟨rfl, rfl⟩) | (rw [if_neg (fun z => h5 z.1)]; exact ⟨rfl, rfl⟩))
set_option maxHeartbeats 4000000 in
set_option maxRecDepth 100000 in
theorem c_X2_distance {l : Launch} (hl : l.stackTraces = false) (g : GG) (σ : Sg) (hI : IC σ) (x y : Int) (hx : 0 ≤ x ∧ x < 2304 ∧ 0 ≤ y ∧ y < 2304) : CN l yX2_distance cX2_distance 6 (some .int) 2 46 0 0 g [.ref (gd g (1)), vI (x), vI (y)] σ (pt (some (vI (dst (σ.2 0) x y))) (σ)) := by
  refine CN_of (own := RX2) hl (by decide) rfl (Nat.le_of_ble_eq_true rfl) (fun mc hC _ hR => ?_)
  refine j_lv (lv2 := [(0, .ref (gd g (1))), (1, vI (x)), (2, vI (y))]) rfl ?_
  have hxr := xr_rg (a := x % 16) (b := y % 16) (by omega)
  refine j_iload_n hC dX2_distance_0 1 rfl ?_
  refine j_callSN1 (ar := 1) hC hR (c_X1_shape (hlJ hC) g σ x (by omega)) [] rfl (by decide) (by decide +kernel) rfl wd228 wd229 wd11 wd230 (by decide) (Nat.le_of_ble_eq_true rfl) dX2_distance_1 ?_
  refine j_iload_n hC dX2_distance_4 2 rfl ?_
  refine j_callSN1 (ar := 1) hC hR (c_X1_shape (hlJ hC) g σ y (by omega)) [vI (x % 16)] rfl (by decide) (by decide +kernel) rfl wd228 wd229 wd11 wd230 (by decide) (Nat.le_of_ble_eq_true rfl) dX2_distance_5 ?_
  refine j_ixor (r := xr (x % 16) (y % 16)) hC dX2_distance_8 (xr_iI (by omega)) ?_
  refine j_callS1 (ar := 1) hC hR (c_J6_bitCount_0f7a4 (hlJ hC) g σ (xr (x % 16) (y % 16)) (by omega)) [] rfl (by decide) (by decide +kernel) rfl wd231 wd232 wd13 wd233 (by decide) (Nat.le_of_ble_eq_true rfl) dX2_distance_9 ?_
  refine j_istore_n hC dX2_distance_12 [(3, vI (pop4 (xr (x % 16) (y % 16)))), (0, .ref (gd g (1))), (1, vI (x)), (2, vI (y))] (by decide) rfl ?_
  refine j_iload_n hC dX2_distance_13 2 rfl ?_
  refine j_callSN1 (ar := 1) hC hR (c_X1_thumb (hlJ hC) g σ x (by omega)) [] rfl (by decide) (by decide +kernel) rfl wd237 wd205 wd11 wd206 (by decide) (Nat.le_of_ble_eq_true rfl) dX2_distance_14 ?_
  refine j_iload_n hC dX2_distance_17 3 rfl ?_
  refine j_callSN1 (ar := 1) hC hR (c_X1_thumb (hlJ hC) g σ y (by omega)) [vI (x / 16 % 4)] rfl (by decide) (by decide +kernel) rfl wd237 wd205 wd11 wd206 (by decide) (Nat.le_of_ble_eq_true rfl) dX2_distance_18 ?_
  suffices K29 : J mc g 0 0 (QN mc g (pt (some (vI (dst (σ.2 0) x y))) (σ)) 0 0) 29 [(3, vI (pop4 (xr (x % 16) (y % 16)))), (0, .ref (gd g (1))), (1, vI (x)), (2, vI (y))] [vI (if x / 16 % 4 = y / 16 % 4 then 0 else 1)] σ by
    refine j_icmp_ne (tgt := 28) hC dX2_distance_21 (by decide) (by omega) (fun h21 => ?_) (fun h21 => ?_)
    · refine j_iconst hC dX2_distance_28 ?_
      exact (by first | (rw [if_pos h21] at K29; exact K29) | (rw [if_neg h21] at K29; exact K29) | (rw [if_neg (fun z => h21 z.symm)] at K29; exact K29))
    · refine j_iconst hC dX2_distance_24 ?_
      refine j_goto (tgt := 29) hC dX2_distance_25 (by decide) ?_
      exact (by first | (rw [if_pos h21] at K29; exact K29) | (rw [if_neg h21] at K29; exact K29) | (rw [if_neg (fun z => h21 z.symm)] at K29; exact K29))
  refine j_istore hC dX2_distance_29 [(4, vI (if x / 16 % 4 = y / 16 % 4 then 0 else 1)), (3, vI (pop4 (xr (x % 16) (y % 16)))), (0, .ref (gd g (1))), (1, vI (x)), (2, vI (y))] (by decide) rfl ?_
  refine j_iload_n hC dX2_distance_31 3 rfl ?_
  refine j_callSN1 (ar := 1) hC hR (c_X1_movement (hlJ hC) g σ x (by omega)) [] rfl (by decide) (by decide +kernel) rfl wd238 wd239 wd11 wd240 (by decide) (Nat.le_of_ble_eq_true rfl) dX2_distance_32 ?_
  refine j_iload_n hC dX2_distance_35 4 rfl ?_
  refine j_callSN1 (ar := 1) hC hR (c_X1_movement (hlJ hC) g σ y (by omega)) [vI (x / 64 % 4)] rfl (by decide) (by decide +kernel) rfl wd238 wd239 wd11 wd240 (by decide) (Nat.le_of_ble_eq_true rfl) dX2_distance_36 ?_
  suffices K47 : J mc g 0 0 (QN mc g (pt (some (vI (dst (σ.2 0) x y))) (σ)) 0 0) 47 [(4, vI (if x / 16 % 4 = y / 16 % 4 then 0 else 1)), (3, vI (pop4 (xr (x % 16) (y % 16)))), (0, .ref (gd g (1))), (1, vI (x)), (2, vI (y))] [vI (if x / 64 % 4 = y / 64 % 4 then 0 else 2)] σ by
    refine j_icmp_ne (tgt := 46) hC dX2_distance_39 (by decide) (by omega) (fun h39 => ?_) (fun h39 => ?_)
    · refine j_iconst hC dX2_distance_46 ?_
      exact (by first | (rw [if_pos h39] at K47; exact K47) | (rw [if_neg h39] at K47; exact K47) | (rw [if_neg (fun z => h39 z.symm)] at K47; exact K47))
    · refine j_iconst hC dX2_distance_42 ?_
      refine j_goto (tgt := 47) hC dX2_distance_43 (by decide) ?_
      exact (by first | (rw [if_pos h39] at K47; exact K47) | (rw [if_neg h39] at K47; exact K47) | (rw [if_neg (fun z => h39 z.symm)] at K47; exact K47))
  refine j_istore hC dX2_distance_47 [(5, vI (if x / 64 % 4 = y / 64 % 4 then 0 else 2)), (4, vI (if x / 16 % 4 = y / 16 % 4 then 0 else 1)), (3, vI (pop4 (xr (x % 16) (y % 16)))), (0, .ref (gd g (1))), (1, vI (x)), (2, vI (y))] (by decide) rfl ?_
  refine j_iload_n hC dX2_distance_49 2 rfl ?_
  refine j_iload hC dX2_distance_50 1 rfl ?_
  refine j_iadd hC dX2_distance_52 ?_
  refine j_iload hC dX2_distance_53 0 rfl ?_
  refine j_iadd hC dX2_distance_55 ?_
  refine j_aload_n hC dX2_distance_56 3 rfl ?_
  refine j_iload_n hC dX2_distance_57 4 rfl ?_
  refine j_callSN1 (ar := 1) hC hR (c_X1_place (hlJ hC) g σ x (by omega)) [.ref (gd g (1)), vI (((pop4 (xr (x % 16) (y % 16))) + (if x / 16 % 4 = y / 16 % 4 then 0 else 1)) + (if x / 64 % 4 = y / 64 % 4 then 0 else 2))] rfl (by decide) (by decide +kernel) rfl wd241 wd242 wd11 wd243 (by decide) (Nat.le_of_ble_eq_true rfl) dX2_distance_58 ?_
  refine j_iload_n hC dX2_distance_61 5 rfl ?_
  refine j_callSN1 (ar := 1) hC hR (c_X1_place (hlJ hC) g σ y (by omega)) [vI (x / 256), .ref (gd g (1)), vI (((pop4 (xr (x % 16) (y % 16))) + (if x / 16 % 4 = y / 16 % 4 then 0 else 1)) + (if x / 64 % 4 = y / 64 % 4 then 0 else 2))] rfl (by decide) (by decide +kernel) rfl wd241 wd242 wd11 wd243 (by decide) (Nat.le_of_ble_eq_true rfl) dX2_distance_62 ?_
  refine j_callV1 (ar := 2) hC hR (c_X2_stepsBetween (hlJ hC) g σ hI (x / 256) (y / 256) (by omega)) [vI (((pop4 (xr (x % 16) (y % 16))) + (if x / 16 % 4 = y / 16 % 4 then 0 else 1)) + (if x / 64 % 4 = y / 64 % 4 then 0 else 2))] rfl 1 rfl rfl rfl (by decide) (by decide +kernel) rfl wd244 wd173 wp3 wd2 wd174 (by decide) (Nat.le_of_ble_eq_true rfl) dX2_distance_65 ?_
  refine j_iadd hC dX2_distance_68 ?_
  exact j_iret hC dX2_distance_69 ⟨rfl, rfl⟩
end
section
set_option maxHeartbeats 4000000 in
set_option maxRecDepth 100000 in
theorem lp_find {mc : MC} {g : GG} {σ : Sg} (hC : Cx mc g cX0_find RX0 3 (some .int)) (hR : mR mc = rmJ 0 0 0 0) (hI : IC σ) {b : Nat} (hb : b < 5) (x : Int) (hx : -2147483648 ≤ x ∧ x < 2147483648) : ∀ (d : Nat) (z : Int), (0 ≤ z) → (z + (d : Int) = σ.1 (2 + b)) → J mc g 0 0 (QN mc g (pt (some (vI (fnd (mnB σ b) x d z))) (σ)) 0 0) 2 [(2, vI (z)), (0, .ref (gd g (4 + b))), (1, vI (x))] [] σ := by
  intro d
  induction d with
  | zero =>
    intro z h0 hz
    have hn := hI.2.2.2.1 b hb
    refine j_iload_n hC dX0_find_2 0 rfl ?_
    refine j_aload_n hC dX0_find_3 1 rfl ?_
    refine j_get hC inX0 rfl (4 + b) (hw_bk g _ hb) 3 (by decide) wd49 rfl dX0_find_4 ?_
    refine j_icmp_ge (tgt := 28) hC dX0_find_7 (by decide) (by omega) (fun _ => ?_) (fun h => absurd h (by omega))
    refine j_iconst hC dX0_find_28 ?_
    exact j_iret hC dX0_find_29 ⟨rfl, rfl⟩
  | succ d ih =>
    intro z h0 hz
    have hn := hI.2.2.2.1 b hb
    have hm := hI.2.2.2.2.2 b hb z (by omega) (by omega)
    rw [show fnd (mnB σ b) x (d + 1) z = if mnB σ b z = x then z else fnd (mnB σ b) x d (z + 1) from rfl]
    refine j_iload_n hC dX0_find_2 0 rfl ?_
    refine j_aload_n hC dX0_find_3 1 rfl ?_
    refine j_get hC inX0 rfl (4 + b) (hw_bk g _ hb) 3 (by decide) wd49 rfl dX0_find_4 ?_
    refine j_icmp_ge (tgt := 28) hC dX0_find_7 (by decide) (by omega) (fun h => absurd h (by omega)) (fun _ => ?_)
    refine j_aload_n hC dX0_find_10 1 rfl ?_
    refine j_get hC inX0 rfl (4 + b) (hw_bk g _ hb) 2 (by decide) wd47 rfl dX0_find_11 ?_
    refine j_iload_n hC dX0_find_14 0 rfl ?_
    refine j_iald hC (14 + b) (hw_mn g _ hb) (by omega) dX0_find_15 ?_
    refine j_iload_n hC dX0_find_16 2 rfl ?_
    refine j_icmp_ne (tgt := 22) hC dX0_find_17 (by decide) (by omega) (fun h17 => ?_) (fun h17 => ?_)
    · refine j_iinc hC dX0_find_22 0 [(2, vI (z + 1)), (0, .ref (gd g (4 + b))), (1, vI (x))] rfl (by decide) rfl ?_
      refine j_goto (tgt := 2) hC dX0_find_25 (by decide) ?_
      refine j_sub [0, 1, 2] rfl ?_
      rw [if_neg h17]
      exact ih (z + 1) (by omega) (by omega)
    · refine j_iload_n hC dX0_find_20 0 rfl ?_
      exact j_iret hC dX0_find_21 ⟨by rw [if_pos h17], rfl⟩
set_option maxHeartbeats 4000000 in
set_option maxRecDepth 100000 in
theorem c_X0_find {l : Launch} (hl : l.stackTraces = false) (g : GG) (σ : Sg) (hI : IC σ) {b : Nat} (hb : b < 5) (x : Int) (hx : -2147483648 ≤ x ∧ x < 2147483648) : CN l yX0_find cX0_find 3 (some .int) 0 0 0 0 g [.ref (gd g (4 + b)), vI (x)] σ (pt (some (vI (findB σ b x))) (σ)) := by
  refine CN_of (own := RX0) hl (by decide) rfl (Nat.le_of_ble_eq_true rfl) (fun mc hC _ hR => ?_)
  refine j_lv (lv2 := [(0, .ref (gd g (4 + b))), (1, vI (x))]) rfl ?_
  have hn2 := cN_eq hI hb
  refine j_iconst hC dX0_find_0 ?_
  refine j_istore_n hC dX0_find_1 [(2, vI (0)), (0, .ref (gd g (4 + b))), (1, vI (x))] (by decide) rfl ?_
  refine j_sub [0, 1, 2] rfl ?_
  exact lp_find hC hR hI hb x hx (cN σ b) 0 (by omega) (by omega)
set_option maxHeartbeats 4000000 in
set_option maxRecDepth 100000 in
theorem c_X0_hasRoomFor {l : Launch} (hl : l.stackTraces = false) (g : GG) (σ : Sg) (hI : IC σ) {b : Nat} (hb : b < 5) (x : Int) (hx : -2147483648 ≤ x ∧ x < 2147483648) : CN l yX0_hasRoomFor cX0_hasRoomFor 2 (some .boolean) 1 22 0 0 g [.ref (gd g (4 + b)), vI (x)] σ (pt (some (vI (if σ.1 (2 + b) < 16 ∧ findB σ b x = -1 then 1 else 0))) (σ)) := by
  refine CN_of (own := RX0) hl (by decide) rfl (Nat.le_of_ble_eq_true rfl) (fun mc hC _ hR => ?_)
  refine j_lv (lv2 := [(0, .ref (gd g (4 + b))), (1, vI (x))]) rfl ?_
  have hn := hI.2.2.2.1 b hb
  refine j_aload_n hC dX0_hasRoomFor_0 0 rfl ?_
  refine j_get hC inX0 rfl (4 + b) (hw_bk g _ hb) 3 (by decide) wd49 rfl dX0_hasRoomFor_1 ?_
  refine j_bipush hC dX0_hasRoomFor_4 (by decide) ?_
  refine j_icmp_ge (tgt := 22) hC dX0_hasRoomFor_6 (by decide) (by omega) (fun h6 => ?_) (fun h6 => ?_)
  · refine j_iconst hC dX0_hasRoomFor_22 ?_
    exact j_zret hC (by decide) dX0_hasRoomFor_23 (by first | (rw [if_pos ⟨h6, h15⟩]; exact ⟨rfl, rfl⟩) | (rw [if_neg (fun z => h15 z.2)]; exact ⟨rfl, rfl⟩) | (rw [if_neg (fun z => by omega)]; exact ⟨rfl, rfl⟩))
  · refine j_aload_n hC dX0_hasRoomFor_9 0 rfl ?_
    refine j_iload_n hC dX0_hasRoomFor_10 1 rfl ?_
    refine j_callV1 (ar := 1) hC hR (c_X0_find (hlJ hC) g σ hI hb x (by omega)) [] rfl (4 + b) (hw_bk g _ hb) rfl rfl (by decide) (by decide +kernel) rfl wd330 wd218 wp6 wd3 wd219 (by decide) (Nat.le_of_ble_eq_true rfl) dX0_hasRoomFor_11 ?_
    have hf11 := findB_rg hI hb x
    refine j_iconst hC dX0_hasRoomFor_14 ?_
    refine j_icmp_ne (tgt := 22) hC dX0_hasRoomFor_15 (by decide) (by omega) (fun h15 => ?_) (fun h15 => ?_)
    · refine j_iconst hC dX0_hasRoomFor_22 ?_
      exact j_zret hC (by decide) dX0_hasRoomFor_23 (by first | (rw [if_pos ⟨h6, h15⟩]; exact ⟨rfl, rfl⟩) | (rw [if_neg (fun z => h15 z.2)]; exact ⟨rfl, rfl⟩) | (rw [if_neg (fun z => by omega)]; exact ⟨rfl, rfl⟩))
    · refine j_iconst hC dX0_hasRoomFor_18 ?_
      refine j_goto (tgt := 23) hC dX0_hasRoomFor_19 (by decide) ?_
      exact j_zret hC (by decide) dX0_hasRoomFor_23 (by first | (rw [if_pos ⟨h6, h15⟩]; exact ⟨rfl, rfl⟩) | (rw [if_neg (fun z => h15 z.2)]; exact ⟨rfl, rfl⟩) | (rw [if_neg (fun z => by omega)]; exact ⟨rfl, rfl⟩))
set_option maxHeartbeats 4000000 in
set_option maxRecDepth 100000 in
theorem lp_hasAlike {mc : MC} {g : GG} {σ : Sg} (hC : Cx mc g cX0_hasAlike RX0 3 (some .boolean)) (hR : mR mc = rmJ 2 44 0 0) (hI : IC σ) {b : Nat} (hb : b < 5) (x : Int) (hx : 0 ≤ x ∧ x < 2304) : ∀ (d : Nat) (z : Int), (0 ≤ z) → (z + (d : Int) = σ.1 (2 + b)) → J mc g 0 0 (QN mc g (pt (some (vI (hsA (σ.2 0) (lkB σ b) x d z))) (σ)) 0 0) 2 [(2, vI (z)), (0, .ref (gd g (4 + b))), (1, vI (x))] [] σ := by
  intro d
  induction d with
  | zero =>
    intro z h0 hz
    have hn := hI.2.2.2.1 b hb
    refine j_iload_n hC dX0_hasAlike_2 0 rfl ?_
    refine j_aload_n hC dX0_hasAlike_3 1 rfl ?_
    refine j_get hC inX0 rfl (4 + b) (hw_bk g _ hb) 3 (by decide) wd49 rfl dX0_hasAlike_4 ?_
    refine j_icmp_ge (tgt := 35) hC dX0_hasAlike_7 (by decide) (by omega) (fun _ => ?_) (fun h => absurd h (by omega))
    refine j_iconst hC dX0_hasAlike_35 ?_
    exact j_zret hC (by decide) dX0_hasAlike_36 ⟨rfl, rfl⟩
  | succ d ih =>
    intro z h0 hz
    have hn := hI.2.2.2.1 b hb
    have hk := hI.2.2.2.2.1 b hb z (by omega) (by omega)
    rw [show hsA (σ.2 0) (lkB σ b) x (d + 1) z = if alk (σ.2 0) x (lkB σ b z) then 1 else hsA (σ.2 0) (lkB σ b) x d (z + 1) from rfl]
    refine j_iload_n hC dX0_hasAlike_2 0 rfl ?_
    refine j_aload_n hC dX0_hasAlike_3 1 rfl ?_
    refine j_get hC inX0 rfl (4 + b) (hw_bk g _ hb) 3 (by decide) wd49 rfl dX0_hasAlike_4 ?_
    refine j_icmp_ge (tgt := 35) hC dX0_hasAlike_7 (by decide) (by omega) (fun h => absurd h (by omega)) (fun _ => ?_)
    refine j_aload_n hC dX0_hasAlike_10 1 rfl ?_
    refine j_get hC inX0 rfl (4 + b) (hw_bk g _ hb) 0 (by decide) wd44 rfl dX0_hasAlike_11 ?_
    refine j_iload_n hC dX0_hasAlike_14 2 rfl ?_
    refine j_aload_n hC dX0_hasAlike_15 1 rfl ?_
    refine j_get hC inX0 rfl (4 + b) (hw_bk g _ hb) 1 (by decide) wd45 rfl dX0_hasAlike_16 ?_
    refine j_iload_n hC dX0_hasAlike_19 0 rfl ?_
    refine j_iald hC (9 + b) (hw_lk g _ hb) (by omega) dX0_hasAlike_20 ?_
    refine j_callVN1 (ar := 2) hC hR (c_X2_alike (hlJ hC) g σ hI x ((σ).2 (1 + b) z) (by omega)) [] rfl 1 rfl rfl rfl (by decide) (by decide +kernel) rfl wd253 wd255 wp9 wd2 wd256 (by decide) (Nat.le_of_ble_eq_true rfl) dX0_hasAlike_21 ?_
    refine j_ifb_eq (tgt := 29) hC dX0_hasAlike_24 (by decide) (fun h24 => ?_) (fun h24 => ?_)
    · refine j_iinc hC dX0_hasAlike_29 0 [(2, vI (z + 1)), (0, .ref (gd g (4 + b))), (1, vI (x))] rfl (by decide) rfl ?_
      refine j_goto (tgt := 2) hC dX0_hasAlike_32 (by decide) ?_
      refine j_sub [0, 1, 2] rfl ?_
      rw [if_neg h24]
      exact ih (z + 1) (by omega) (by omega)
    · refine j_iconst hC dX0_hasAlike_27 ?_
      exact j_zret hC (by decide) dX0_hasAlike_28 ⟨by rw [if_pos h24], rfl⟩
set_option maxHeartbeats 4000000 in
set_option maxRecDepth 100000 in
theorem c_X0_hasAlike {l : Launch} (hl : l.stackTraces = false) (g : GG) (σ : Sg) (hI : IC σ) {b : Nat} (hb : b < 5) (x : Int) (hx : 0 ≤ x ∧ x < 2304) : CN l yX0_hasAlike cX0_hasAlike 3 (some .boolean) 2 44 0 0 g [.ref (gd g (4 + b)), vI (x)] σ (pt (some (vI (hsAB σ b x))) (σ)) := by
  refine CN_of (own := RX0) hl (by decide) rfl (Nat.le_of_ble_eq_true rfl) (fun mc hC _ hR => ?_)
  refine j_lv (lv2 := [(0, .ref (gd g (4 + b))), (1, vI (x))]) rfl ?_
  have hn2 := cN_eq hI hb
  refine j_iconst hC dX0_hasAlike_0 ?_
  refine j_istore_n hC dX0_hasAlike_1 [(2, vI (0)), (0, .ref (gd g (4 + b))), (1, vI (x))] (by decide) rfl ?_
  refine j_sub [0, 1, 2] rfl ?_
  exact lp_hasAlike hC hR hI hb x hx (cN σ b) 0 (by omega) (by omega)
set_option maxHeartbeats 4000000 in
set_option maxRecDepth 100000 in
theorem lp_firstUnlike {mc : MC} {g : GG} {σ : Sg} (hC : Cx mc g cX0_firstUnlike RX0 5 (some .int)) (hR : mR mc = rmJ 3 66 0 0) (hI : IC σ) {b : Nat} (hb : b < 5) (x : Int) (hx : 0 ≤ x ∧ x < 2304) : ∀ (d : Nat) (z : Int), (0 ≤ z) → (z + (d : Int) = 4) → J mc g 0 0 (QN mc g (pt (some (vI (fuF (σ.2 0) (lkB σ b) (cN σ b) x d z))) (σ)) 0 0) 7 [(3, vI (z)), (0, .ref (gd g (4 + b))), (1, vI (x)), (2, vI (x / 16 % 4))] [] σ := by
  intro d
  induction d with
  | zero =>
    intro z h0 hz
    refine j_iload_n hC dX0_firstUnlike_7 0 rfl ?_
    refine j_iconst hC dX0_firstUnlike_8 ?_
    refine j_icmp_ge (tgt := 41) hC dX0_firstUnlike_9 (by decide) (by omega) (fun _ => ?_) (fun h => absurd h (by omega))
    refine j_iconst hC dX0_firstUnlike_41 ?_
    exact j_iret hC dX0_firstUnlike_42 ⟨rfl, rfl⟩
  | succ d ih =>
    intro z h0 hz
    rw [show fuF (σ.2 0) (lkB σ b) (cN σ b) x (d + 1) z = if hsAB σ b (wth x ((x / 16 % 4 + z) % 4)) = 0 then wth x ((x / 16 % 4 + z) % 4) else fuF (σ.2 0) (lkB σ b) (cN σ b) x d (z + 1) from rfl]
    have hw := wth_rg (L := x) (t := (x / 16 % 4 + z) % 4) (by omega)
    refine j_iload_n hC dX0_firstUnlike_7 0 rfl ?_
    refine j_iconst hC dX0_firstUnlike_8 ?_
    refine j_icmp_ge (tgt := 41) hC dX0_firstUnlike_9 (by decide) (by omega) (fun h => absurd h (by omega)) (fun _ => ?_)
    refine j_iload_n hC dX0_firstUnlike_12 2 rfl ?_
    refine j_iload_n hC dX0_firstUnlike_13 3 rfl ?_
    refine j_iload_n hC dX0_firstUnlike_14 0 rfl ?_
    refine j_iadd hC dX0_firstUnlike_15 ?_
    refine j_iconst hC dX0_firstUnlike_16 ?_
    refine j_irem hC dX0_firstUnlike_17 (by omega) ?_
    refine j_callSN1 (ar := 2) hC hR (c_X1_withThumb (hlJ hC) g σ x (((x / 16 % 4) + z) % 4) (by omega)) [] rfl (by decide) (by decide +kernel) rfl wd515 wd499 wd11 wd500 (by decide) (Nat.le_of_ble_eq_true rfl) dX0_firstUnlike_18 ?_
    refine j_istore hC dX0_firstUnlike_21 [(4, vI (wth x (((x / 16 % 4) + z) % 4))), (3, vI (z)), (0, .ref (gd g (4 + b))), (1, vI (x)), (2, vI (x / 16 % 4))] (by decide) rfl ?_
    refine j_aload_n hC dX0_firstUnlike_23 2 rfl ?_
    refine j_iload hC dX0_firstUnlike_24 0 rfl ?_
    refine j_callV1 (ar := 1) hC hR (c_X0_hasAlike (hlJ hC) g σ hI hb (wth x (((x / 16 % 4) + z) % 4)) (by omega)) [] rfl (4 + b) (hw_bk g _ hb) rfl rfl (by decide) (by decide +kernel) rfl wd516 wd518 wp23 wd3 wd519 (by decide) (Nat.le_of_ble_eq_true rfl) dX0_firstUnlike_26 ?_
    have hf26 : hsAB σ b (wth x (((x / 16 % 4) + z) % 4)) = 0 ∨ hsAB σ b (wth x (((x / 16 % 4) + z) % 4)) = 1 := hsA_01 _ _ _ _ _
    refine j_if_ne (tgt := 35) hC dX0_firstUnlike_29 (by decide) (by omega) (fun h29 => ?_) (fun h29 => ?_)
    · refine j_iinc hC dX0_firstUnlike_35 1 [(3, vI (z + 1)), (4, vI (wth x (((x / 16 % 4) + z) % 4))), (0, .ref (gd g (4 + b))), (1, vI (x)), (2, vI (x / 16 % 4))] rfl (by decide) rfl ?_
      refine j_goto (tgt := 7) hC dX0_firstUnlike_38 (by decide) ?_
      refine j_sub [0, 2, 3, 4] rfl ?_
      rw [if_neg h29]
      exact ih (z + 1) (by omega) (by omega)
    · refine j_iload hC dX0_firstUnlike_32 0 rfl ?_
      exact j_iret hC dX0_firstUnlike_34 ⟨by rw [if_pos h29], rfl⟩
set_option maxHeartbeats 4000000 in
set_option maxRecDepth 100000 in
theorem c_X0_firstUnlike {l : Launch} (hl : l.stackTraces = false) (g : GG) (σ : Sg) (hI : IC σ) {b : Nat} (hb : b < 5) (x : Int) (hx : 0 ≤ x ∧ x < 2304) : CN l yX0_firstUnlike cX0_firstUnlike 5 (some .int) 3 66 0 0 g [.ref (gd g (4 + b)), vI (x)] σ (pt (some (vI (fuB σ b x))) (σ)) := by
  refine CN_of (own := RX0) hl (by decide) rfl (Nat.le_of_ble_eq_true rfl) (fun mc hC _ hR => ?_)
  refine j_lv (lv2 := [(0, .ref (gd g (4 + b))), (1, vI (x))]) rfl ?_
  refine j_iload_n hC dX0_firstUnlike_0 1 rfl ?_
  refine j_callSN1 (ar := 1) hC hR (c_X1_thumb (hlJ hC) g σ x (by omega)) [] rfl (by decide) (by decide +kernel) rfl wd268 wd205 wd11 wd206 (by decide) (Nat.le_of_ble_eq_true rfl) dX0_firstUnlike_1 ?_
  refine j_istore_n hC dX0_firstUnlike_4 [(2, vI (x / 16 % 4)), (0, .ref (gd g (4 + b))), (1, vI (x))] (by decide) rfl ?_
  refine j_iconst hC dX0_firstUnlike_5 ?_
  refine j_istore_n hC dX0_firstUnlike_6 [(3, vI (0)), (2, vI (x / 16 % 4)), (0, .ref (gd g (4 + b))), (1, vI (x))] (by decide) rfl ?_
  refine j_sub [0, 2, 3, 1] rfl ?_
  exact lp_firstUnlike hC hR hI hb x hx 4 0 (by omega) (by omega)
set_option maxHeartbeats 4000000 in
set_option maxRecDepth 100000 in
theorem lp_countAlike_i {mc : MC} {g : GG} {σ : Sg} {Q : State → Prop} (hC : Cx mc g cX0_countAlike RX0 4 (some .int)) (hR : mR mc = rmJ 2 44 0 0) (hI : IC σ) {b : Nat} (hb : b < 5) (z : Int) (hz0 : 0 ≤ z ∧ z < σ.1 (2 + b)) : ∀ (d : Nat) (w : Int) (a : Int), (0 ≤ w) → (w + (d : Int) = σ.1 (2 + b)) → (J mc g 0 0 Q 55 [(1, vI (cnt (alC (σ.2 0) (lkB σ b) z) d w a)), (2, vI (z)), (0, .ref (gd g (4 + b)))] [] σ) → J mc g 0 0 Q 16 [(3, vI (w)), (1, vI (a)), (2, vI (z)), (0, .ref (gd g (4 + b)))] [] σ := by
  intro d
  induction d with
  | zero =>
    intro w a h0 hw kx
    have hn := hI.2.2.2.1 b hb
    refine j_iload_n hC dX0_countAlike_16 0 rfl ?_
    refine j_aload_n hC dX0_countAlike_17 3 rfl ?_
    refine j_get hC inX0 rfl (4 + b) (hw_bk g _ hb) 3 (by decide) wd49 rfl dX0_countAlike_18 ?_
    refine j_icmp_ge (tgt := 55) hC dX0_countAlike_21 (by decide) (by omega) (fun _ => ?_) (fun h => absurd h (by omega))
    refine j_sub [1, 2, 3] rfl ?_
    exact kx
  | succ d ih =>
    intro w a h0 hw kx
    have hn := hI.2.2.2.1 b hb
    have hk1 := hI.2.2.2.2.1 b hb z (by omega) (by omega)
    have hk2 := hI.2.2.2.2.1 b hb w (by omega) (by omega)
    rw [show cnt (alC (σ.2 0) (lkB σ b) z) (d + 1) w a = cnt (alC (σ.2 0) (lkB σ b) z) d (w + 1) (if alC (σ.2 0) (lkB σ b) z w = true then a + 1 else a) from rfl] at kx
    refine j_iload_n hC dX0_countAlike_16 0 rfl ?_
    refine j_aload_n hC dX0_countAlike_17 3 rfl ?_
    refine j_get hC inX0 rfl (4 + b) (hw_bk g _ hb) 3 (by decide) wd49 rfl dX0_countAlike_18 ?_
    refine j_icmp_ge (tgt := 55) hC dX0_countAlike_21 (by decide) (by omega) (fun h => absurd h (by omega)) (fun _ => ?_)
    refine j_aload_n hC dX0_countAlike_24 3 rfl ?_
    refine j_get hC inX0 rfl (4 + b) (hw_bk g _ hb) 0 (by decide) wd44 rfl dX0_countAlike_25 ?_
    refine j_aload_n hC dX0_countAlike_28 3 rfl ?_
    refine j_get hC inX0 rfl (4 + b) (hw_bk g _ hb) 1 (by decide) wd45 rfl dX0_countAlike_29 ?_
    refine j_iload_n hC dX0_countAlike_32 2 rfl ?_
    refine j_iald hC (9 + b) (hw_lk g _ hb) (by omega) dX0_countAlike_33 ?_
    refine j_aload_n hC dX0_countAlike_34 3 rfl ?_
    refine j_get hC inX0 rfl (4 + b) (hw_bk g _ hb) 1 (by decide) wd45 rfl dX0_countAlike_35 ?_
    refine j_iload_n hC dX0_countAlike_38 0 rfl ?_
    refine j_iald hC (9 + b) (hw_lk g _ hb) (by omega) dX0_countAlike_39 ?_
    refine j_callVN1 (ar := 2) hC hR (c_X2_alike (hlJ hC) g σ hI ((σ).2 (1 + b) z) ((σ).2 (1 + b) w) (by omega)) [] rfl 1 rfl rfl rfl (by decide) (by decide +kernel) rfl wd253 wd255 wp9 wd2 wd256 (by decide) (Nat.le_of_ble_eq_true rfl) dX0_countAlike_40 ?_
    refine j_ifb_eq (tgt := 49) hC dX0_countAlike_43 (by decide) (fun h43 => ?_) (fun h43 => ?_)
    · refine j_iinc hC dX0_countAlike_49 0 [(3, vI (w + 1)), (1, vI (a)), (2, vI (z)), (0, .ref (gd g (4 + b)))] rfl (by decide) rfl ?_
      refine j_goto (tgt := 16) hC dX0_countAlike_52 (by decide) ?_
      refine j_sub [0, 1, 2, 3] rfl ?_
      first | (rw [if_pos (show alC (σ.2 0) (lkB σ b) z w = true from decide_eq_true h43)] at kx; exact ih (w + 1) (a + 1) (by omega) (by omega) kx) | (rw [if_neg (show ¬ (alC (σ.2 0) (lkB σ b) z w = true) from fun q => h43 (of_decide_eq_true q))] at kx; exact ih (w + 1) a (by omega) (by omega) kx)
    · refine j_iinc hC dX0_countAlike_46 1 [(1, vI (a + 1)), (3, vI (w)), (2, vI (z)), (0, .ref (gd g (4 + b)))] rfl (by decide) rfl ?_
      refine j_iinc hC dX0_countAlike_49 1 [(3, vI (w + 1)), (1, vI (a + 1)), (2, vI (z)), (0, .ref (gd g (4 + b)))] rfl (by decide) rfl ?_
      refine j_goto (tgt := 16) hC dX0_countAlike_52 (by decide) ?_
      refine j_sub [0, 1, 2, 3] rfl ?_
      first | (rw [if_pos (show alC (σ.2 0) (lkB σ b) z w = true from decide_eq_true h43)] at kx; exact ih (w + 1) (a + 1) (by omega) (by omega) kx) | (rw [if_neg (show ¬ (alC (σ.2 0) (lkB σ b) z w = true) from fun q => h43 (of_decide_eq_true q))] at kx; exact ih (w + 1) a (by omega) (by omega) kx)
set_option maxHeartbeats 4000000 in
set_option maxRecDepth 100000 in
theorem lp_countAlike_o {mc : MC} {g : GG} {σ : Sg} (hC : Cx mc g cX0_countAlike RX0 4 (some .int)) (hR : mR mc = rmJ 2 44 0 0) (hI : IC σ) {b : Nat} (hb : b < 5) : ∀ (d : Nat) (z : Int) (a : Int), (0 ≤ z) → (z + (d : Int) = σ.1 (2 + b)) → J mc g 0 0 (QN mc g (pt (some (vI (pO (alC (σ.2 0) (lkB σ b)) d z a))) (σ)) 0 0) 4 [(1, vI (a)), (2, vI (z)), (0, .ref (gd g (4 + b)))] [] σ := by
  intro d
  induction d with
  | zero =>
    intro z a h0 hz
    have hn := hI.2.2.2.1 b hb
    refine j_iload_n hC dX0_countAlike_4 1 rfl ?_
    refine j_aload_n hC dX0_countAlike_5 2 rfl ?_
    refine j_get hC inX0 rfl (4 + b) (hw_bk g _ hb) 3 (by decide) wd49 rfl dX0_countAlike_6 ?_
    refine j_icmp_ge (tgt := 61) hC dX0_countAlike_9 (by decide) (by omega) (fun _ => ?_) (fun h => absurd h (by omega))
    refine j_iload_n hC dX0_countAlike_61 0 rfl ?_
    exact j_iret hC dX0_countAlike_62 ⟨rfl, rfl⟩
  | succ d ih =>
    intro z a h0 hz
    have hn := hI.2.2.2.1 b hb
    rw [show pO (alC (σ.2 0) (lkB σ b)) (d + 1) z a = pO (alC (σ.2 0) (lkB σ b)) d (z + 1) (cnt (alC (σ.2 0) (lkB σ b) z) d (z + 1) a) from rfl]
    refine j_iload_n hC dX0_countAlike_4 1 rfl ?_
    refine j_aload_n hC dX0_countAlike_5 2 rfl ?_
    refine j_get hC inX0 rfl (4 + b) (hw_bk g _ hb) 3 (by decide) wd49 rfl dX0_countAlike_6 ?_
    refine j_icmp_ge (tgt := 61) hC dX0_countAlike_9 (by decide) (by omega) (fun h => absurd h (by omega)) (fun _ => ?_)
    refine j_iload_n hC dX0_countAlike_12 1 rfl ?_
    refine j_iconst hC dX0_countAlike_13 ?_
    refine j_iadd hC dX0_countAlike_14 ?_
    refine j_istore_n hC dX0_countAlike_15 [(3, vI (z + 1)), (1, vI (a)), (2, vI (z)), (0, .ref (gd g (4 + b)))] (by decide) rfl ?_
    refine j_sub [0, 1, 2, 3] rfl ?_
    refine lp_countAlike_i hC hR hI hb z (by omega) d (z + 1) a (by omega) (by omega) ?_
    refine j_iinc hC dX0_countAlike_55 1 [(2, vI (z + 1)), (1, vI (cnt (alC (σ.2 0) (lkB σ b) z) d (z + 1) a)), (0, .ref (gd g (4 + b)))] rfl (by decide) rfl ?_
    refine j_goto (tgt := 4) hC dX0_countAlike_58 (by decide) ?_
    refine j_sub [1, 0, 2] rfl ?_
    exact ih (z + 1) _ (by omega) (by omega)
set_option maxHeartbeats 4000000 in
set_option maxRecDepth 100000 in
theorem c_X0_countAlike {l : Launch} (hl : l.stackTraces = false) (g : GG) (σ : Sg) (hI : IC σ) {b : Nat} (hb : b < 5) : CN l yX0_countAlike cX0_countAlike 4 (some .int) 2 44 0 0 g [.ref (gd g (4 + b))] σ (pt (some (vI (caB σ b))) (σ)) := by
  refine CN_of (own := RX0) hl (by decide) rfl (Nat.le_of_ble_eq_true rfl) (fun mc hC _ hR => ?_)
  refine j_lv (lv2 := [(0, .ref (gd g (4 + b)))]) rfl ?_
  have hn2 := cN_eq hI hb
  refine j_iconst hC dX0_countAlike_0 ?_
  refine j_istore_n hC dX0_countAlike_1 [(1, vI (0)), (0, .ref (gd g (4 + b)))] (by decide) rfl ?_
  refine j_iconst hC dX0_countAlike_2 ?_
  refine j_istore_n hC dX0_countAlike_3 [(2, vI (0)), (1, vI (0)), (0, .ref (gd g (4 + b)))] (by decide) rfl ?_
  refine j_sub [1, 0, 2] rfl ?_
  exact lp_countAlike_o hC hR hI hb (cN σ b) 0 0 (by omega) (by omega)
set_option maxHeartbeats 4000000 in
set_option maxRecDepth 100000 in
theorem lp_countThumbApart_i {mc : MC} {g : GG} {σ : Sg} {Q : State → Prop} (hC : Cx mc g cX0_countThumbApart RX0 4 (some .int)) (hR : mR mc = rmJ 3 71 0 0) (hI : IC σ) {b : Nat} (hb : b < 5) (z : Int) (hz0 : 0 ≤ z ∧ z < σ.1 (2 + b)) : ∀ (d : Nat) (w : Int) (a : Int), (0 ≤ w) → (w + (d : Int) = σ.1 (2 + b)) → (J mc g 0 0 Q 77 [(1, vI (cnt (taC (σ.2 0) (lkB σ b) z) d w a)), (2, vI (z)), (0, .ref (gd g (4 + b)))] [] σ) → J mc g 0 0 Q 16 [(3, vI (w)), (1, vI (a)), (2, vI (z)), (0, .ref (gd g (4 + b)))] [] σ := by
  intro d
  induction d with
  | zero =>
    intro w a h0 hw kx
    have hn := hI.2.2.2.1 b hb
    refine j_iload_n hC dX0_countThumbApart_16 0 rfl ?_
    refine j_aload_n hC dX0_countThumbApart_17 3 rfl ?_
    refine j_get hC inX0 rfl (4 + b) (hw_bk g _ hb) 3 (by decide) wd49 rfl dX0_countThumbApart_18 ?_
    refine j_icmp_ge (tgt := 77) hC dX0_countThumbApart_21 (by decide) (by omega) (fun _ => ?_) (fun h => absurd h (by omega))
    refine j_sub [1, 2, 3] rfl ?_
    exact kx
  | succ d ih =>
    intro w a h0 hw kx
    have hn := hI.2.2.2.1 b hb
    have hk1 := hI.2.2.2.2.1 b hb z (by omega) (by omega)
    have hk2 := hI.2.2.2.2.1 b hb w (by omega) (by omega)
    rw [show cnt (taC (σ.2 0) (lkB σ b) z) (d + 1) w a = cnt (taC (σ.2 0) (lkB σ b) z) d (w + 1) (if taC (σ.2 0) (lkB σ b) z w = true then a + 1 else a) from rfl] at kx
    have hd := dst_rg (G := σ.2 0) (x := σ.2 (1 + b) z) (y := σ.2 (1 + b) w) ⟨hk1.1, hk1.2, hk2.1, hk2.2⟩
    refine j_iload_n hC dX0_countThumbApart_16 0 rfl ?_
    refine j_aload_n hC dX0_countThumbApart_17 3 rfl ?_
    refine j_get hC inX0 rfl (4 + b) (hw_bk g _ hb) 3 (by decide) wd49 rfl dX0_countThumbApart_18 ?_
    refine j_icmp_ge (tgt := 77) hC dX0_countThumbApart_21 (by decide) (by omega) (fun h => absurd h (by omega)) (fun _ => ?_)
    refine j_aload_n hC dX0_countThumbApart_24 3 rfl ?_
    refine j_get hC inX0 rfl (4 + b) (hw_bk g _ hb) 1 (by decide) wd45 rfl dX0_countThumbApart_25 ?_
    refine j_iload_n hC dX0_countThumbApart_28 2 rfl ?_
    refine j_iald hC (9 + b) (hw_lk g _ hb) (by omega) dX0_countThumbApart_29 ?_
    refine j_callSN1 (ar := 1) hC hR (c_X1_thumb (hlJ hC) g σ ((σ).2 (1 + b) z) (by omega)) [] rfl (by decide) (by decide +kernel) rfl wd268 wd205 wd11 wd206 (by decide) (Nat.le_of_ble_eq_true rfl) dX0_countThumbApart_30 ?_
    refine j_aload_n hC dX0_countThumbApart_33 3 rfl ?_
    refine j_get hC inX0 rfl (4 + b) (hw_bk g _ hb) 1 (by decide) wd45 rfl dX0_countThumbApart_34 ?_
    refine j_iload_n hC dX0_countThumbApart_37 0 rfl ?_
    refine j_iald hC (9 + b) (hw_lk g _ hb) (by omega) dX0_countThumbApart_38 ?_
    refine j_callSN1 (ar := 1) hC hR (c_X1_thumb (hlJ hC) g σ ((σ).2 (1 + b) w) (by omega)) [vI (((σ).2 (1 + b) z) / 16 % 4)] rfl (by decide) (by decide +kernel) rfl wd268 wd205 wd11 wd206 (by decide) (Nat.le_of_ble_eq_true rfl) dX0_countThumbApart_39 ?_
    refine j_icmp_eq (tgt := 71) hC dX0_countThumbApart_42 (by decide) (by omega) (fun h42 => ?_) (fun h42 => ?_)
    · refine j_iinc hC dX0_countThumbApart_71 0 [(3, vI (w + 1)), (1, vI (a)), (2, vI (z)), (0, .ref (gd g (4 + b)))] rfl (by decide) rfl ?_
      refine j_goto (tgt := 16) hC dX0_countThumbApart_74 (by decide) ?_
      refine j_sub [0, 1, 2, 3] rfl ?_
      first | (rw [if_pos (show taC (σ.2 0) (lkB σ b) z w = true from decide_eq_true ⟨h42, h65⟩)] at kx; exact ih (w + 1) (a + 1) (by omega) (by omega) kx) | (rw [if_neg (show ¬ (taC (σ.2 0) (lkB σ b) z w = true) from fun q => h65 (of_decide_eq_true q).2)] at kx; exact ih (w + 1) a (by omega) (by omega) kx) | (rw [if_neg (show ¬ (taC (σ.2 0) (lkB σ b) z w = true) from fun q => (of_decide_eq_true q).1 h42)] at kx; exact ih (w + 1) a (by omega) (by omega) kx)
    · refine j_aload_n hC dX0_countThumbApart_45 3 rfl ?_
      refine j_get hC inX0 rfl (4 + b) (hw_bk g _ hb) 0 (by decide) wd44 rfl dX0_countThumbApart_46 ?_
      refine j_aload_n hC dX0_countThumbApart_49 3 rfl ?_
      refine j_get hC inX0 rfl (4 + b) (hw_bk g _ hb) 1 (by decide) wd45 rfl dX0_countThumbApart_50 ?_
      refine j_iload_n hC dX0_countThumbApart_53 2 rfl ?_
      refine j_iald hC (9 + b) (hw_lk g _ hb) (by omega) dX0_countThumbApart_54 ?_
      refine j_aload_n hC dX0_countThumbApart_55 3 rfl ?_
      refine j_get hC inX0 rfl (4 + b) (hw_bk g _ hb) 1 (by decide) wd45 rfl dX0_countThumbApart_56 ?_
      refine j_iload_n hC dX0_countThumbApart_59 0 rfl ?_
      refine j_iald hC (9 + b) (hw_lk g _ hb) (by omega) dX0_countThumbApart_60 ?_
      refine j_callVN1 (ar := 2) hC hR (c_X2_distance (hlJ hC) g σ hI ((σ).2 (1 + b) z) ((σ).2 (1 + b) w) (by omega)) [] rfl 1 rfl rfl rfl (by decide) (by decide +kernel) rfl wd269 wd226 wp7 wd2 wd227 (by decide) (Nat.le_of_ble_eq_true rfl) dX0_countThumbApart_61 ?_
      refine j_iconst hC dX0_countThumbApart_64 ?_
      refine j_icmp_ne (tgt := 71) hC dX0_countThumbApart_65 (by decide) (by omega) (fun h65 => ?_) (fun h65 => ?_)
      · refine j_iinc hC dX0_countThumbApart_71 0 [(3, vI (w + 1)), (1, vI (a)), (2, vI (z)), (0, .ref (gd g (4 + b)))] rfl (by decide) rfl ?_
        refine j_goto (tgt := 16) hC dX0_countThumbApart_74 (by decide) ?_
        refine j_sub [0, 1, 2, 3] rfl ?_
        first | (rw [if_pos (show taC (σ.2 0) (lkB σ b) z w = true from decide_eq_true ⟨h42, h65⟩)] at kx; exact ih (w + 1) (a + 1) (by omega) (by omega) kx) | (rw [if_neg (show ¬ (taC (σ.2 0) (lkB σ b) z w = true) from fun q => h65 (of_decide_eq_true q).2)] at kx; exact ih (w + 1) a (by omega) (by omega) kx) | (rw [if_neg (show ¬ (taC (σ.2 0) (lkB σ b) z w = true) from fun q => (of_decide_eq_true q).1 h42)] at kx; exact ih (w + 1) a (by omega) (by omega) kx)
      · refine j_iinc hC dX0_countThumbApart_68 1 [(1, vI (a + 1)), (3, vI (w)), (2, vI (z)), (0, .ref (gd g (4 + b)))] rfl (by decide) rfl ?_
        refine j_iinc hC dX0_countThumbApart_71 1 [(3, vI (w + 1)), (1, vI (a + 1)), (2, vI (z)), (0, .ref (gd g (4 + b)))] rfl (by decide) rfl ?_
        refine j_goto (tgt := 16) hC dX0_countThumbApart_74 (by decide) ?_
        refine j_sub [0, 1, 2, 3] rfl ?_
        first | (rw [if_pos (show taC (σ.2 0) (lkB σ b) z w = true from decide_eq_true ⟨h42, h65⟩)] at kx; exact ih (w + 1) (a + 1) (by omega) (by omega) kx) | (rw [if_neg (show ¬ (taC (σ.2 0) (lkB σ b) z w = true) from fun q => h65 (of_decide_eq_true q).2)] at kx; exact ih (w + 1) a (by omega) (by omega) kx) | (rw [if_neg (show ¬ (taC (σ.2 0) (lkB σ b) z w = true) from fun q => (of_decide_eq_true q).1 h42)] at kx; exact ih (w + 1) a (by omega) (by omega) kx)
set_option maxHeartbeats 4000000 in
set_option maxRecDepth 100000 in
theorem lp_countThumbApart_o {mc : MC} {g : GG} {σ : Sg} (hC : Cx mc g cX0_countThumbApart RX0 4 (some .int)) (hR : mR mc = rmJ 3 71 0 0) (hI : IC σ) {b : Nat} (hb : b < 5) : ∀ (d : Nat) (z : Int) (a : Int), (0 ≤ z) → (z + (d : Int) = σ.1 (2 + b)) → J mc g 0 0 (QN mc g (pt (some (vI (pO (taC (σ.2 0) (lkB σ b)) d z a))) (σ)) 0 0) 4 [(1, vI (a)), (2, vI (z)), (0, .ref (gd g (4 + b)))] [] σ := by
  intro d
  induction d with
  | zero =>
    intro z a h0 hz
    have hn := hI.2.2.2.1 b hb
    refine j_iload_n hC dX0_countThumbApart_4 1 rfl ?_
    refine j_aload_n hC dX0_countThumbApart_5 2 rfl ?_
    refine j_get hC inX0 rfl (4 + b) (hw_bk g _ hb) 3 (by decide) wd49 rfl dX0_countThumbApart_6 ?_
    refine j_icmp_ge (tgt := 83) hC dX0_countThumbApart_9 (by decide) (by omega) (fun _ => ?_) (fun h => absurd h (by omega))
    refine j_iload_n hC dX0_countThumbApart_83 0 rfl ?_
    exact j_iret hC dX0_countThumbApart_84 ⟨rfl, rfl⟩
  | succ d ih =>
    intro z a h0 hz
    have hn := hI.2.2.2.1 b hb
    rw [show pO (taC (σ.2 0) (lkB σ b)) (d + 1) z a = pO (taC (σ.2 0) (lkB σ b)) d (z + 1) (cnt (taC (σ.2 0) (lkB σ b) z) d (z + 1) a) from rfl]
    refine j_iload_n hC dX0_countThumbApart_4 1 rfl ?_
    refine j_aload_n hC dX0_countThumbApart_5 2 rfl ?_
    refine j_get hC inX0 rfl (4 + b) (hw_bk g _ hb) 3 (by decide) wd49 rfl dX0_countThumbApart_6 ?_
    refine j_icmp_ge (tgt := 83) hC dX0_countThumbApart_9 (by decide) (by omega) (fun h => absurd h (by omega)) (fun _ => ?_)
    refine j_iload_n hC dX0_countThumbApart_12 1 rfl ?_
    refine j_iconst hC dX0_countThumbApart_13 ?_
    refine j_iadd hC dX0_countThumbApart_14 ?_
    refine j_istore_n hC dX0_countThumbApart_15 [(3, vI (z + 1)), (1, vI (a)), (2, vI (z)), (0, .ref (gd g (4 + b)))] (by decide) rfl ?_
    refine j_sub [0, 1, 2, 3] rfl ?_
    refine lp_countThumbApart_i hC hR hI hb z (by omega) d (z + 1) a (by omega) (by omega) ?_
    refine j_iinc hC dX0_countThumbApart_77 1 [(2, vI (z + 1)), (1, vI (cnt (taC (σ.2 0) (lkB σ b) z) d (z + 1) a)), (0, .ref (gd g (4 + b)))] rfl (by decide) rfl ?_
    refine j_goto (tgt := 4) hC dX0_countThumbApart_80 (by decide) ?_
    refine j_sub [1, 0, 2] rfl ?_
    exact ih (z + 1) _ (by omega) (by omega)
set_option maxHeartbeats 4000000 in
set_option maxRecDepth 100000 in
theorem c_X0_countThumbApart {l : Launch} (hl : l.stackTraces = false) (g : GG) (σ : Sg) (hI : IC σ) {b : Nat} (hb : b < 5) : CN l yX0_countThumbApart cX0_countThumbApart 4 (some .int) 3 71 0 0 g [.ref (gd g (4 + b))] σ (pt (some (vI (ctB σ b))) (σ)) := by
  refine CN_of (own := RX0) hl (by decide) rfl (Nat.le_of_ble_eq_true rfl) (fun mc hC _ hR => ?_)
  refine j_lv (lv2 := [(0, .ref (gd g (4 + b)))]) rfl ?_
  have hn2 := cN_eq hI hb
  refine j_iconst hC dX0_countThumbApart_0 ?_
  refine j_istore_n hC dX0_countThumbApart_1 [(1, vI (0)), (0, .ref (gd g (4 + b)))] (by decide) rfl ?_
  refine j_iconst hC dX0_countThumbApart_2 ?_
  refine j_istore_n hC dX0_countThumbApart_3 [(2, vI (0)), (1, vI (0)), (0, .ref (gd g (4 + b)))] (by decide) rfl ?_
  refine j_sub [1, 0, 2] rfl ?_
  exact lp_countThumbApart_o hC hR hI hb (cN σ b) 0 0 (by omega) (by omega)
end
section
set_option maxHeartbeats 4000000 in
set_option maxRecDepth 100000 in
theorem lp_nearestBut {mc : MC} {g : GG} {σ : Sg} (hC : Cx mc g cX0_nearestBut RX0 5 (some .int)) (hR : mR mc = rmJ 3 71 0 0) (hI : IC σ) {b : Nat} (hb : b < 5) (s x : Int) (hs : -2147483648 ≤ s ∧ s < 2147483648) (hx : 0 ≤ x ∧ x < 2304) : ∀ (d : Nat) (z : Int) (a : Int), (0 ≤ z) → (z + (d : Int) = σ.1 (2 + b)) → (0 ≤ a ∧ a ≤ 100) → J mc g 0 0 (QN mc g (pt (some (vI (nbF (fun z => dst (σ.2 0) x (lkB σ b z)) s d z a))) (σ)) 0 0) 6 [(4, vI (z)), (3, vI (a)), (0, .ref (gd g (4 + b))), (1, vI (s)), (2, vI (x))] [] σ := by
  intro d
  induction d with
  | zero =>
    intro z a h0 hz ha
    have hn := hI.2.2.2.1 b hb
    refine j_iload hC dX0_nearestBut_6 0 rfl ?_
    refine j_aload_n hC dX0_nearestBut_8 2 rfl ?_
    refine j_get hC inX0 rfl (4 + b) (hw_bk g _ hb) 3 (by decide) wd49 rfl dX0_nearestBut_9 ?_
    refine j_icmp_ge (tgt := 47) hC dX0_nearestBut_12 (by decide) (by omega) (fun _ => ?_) (fun h => absurd h (by omega))
    refine j_iload_n hC dX0_nearestBut_47 1 rfl ?_
    exact j_iret hC dX0_nearestBut_48 ⟨rfl, rfl⟩
  | succ d ih =>
    intro z a h0 hz ha
    have hn := hI.2.2.2.1 b hb
    have hk := hI.2.2.2.2.1 b hb z (by omega) (by omega)
    have hd := dst_rg (G := σ.2 0) (x := x) (y := σ.2 (1 + b) z) ⟨hx.1, hx.2, hk.1, hk.2⟩
    rw [show nbF (fun z => dst (σ.2 0) x (lkB σ b z)) s (d + 1) z a = nbF (fun z => dst (σ.2 0) x (lkB σ b z)) s d (z + 1) (if z = s then a else if a ≤ dst (σ.2 0) x (σ.2 (1 + b) z) then a else dst (σ.2 0) x (σ.2 (1 + b) z)) from rfl]
    refine j_iload hC dX0_nearestBut_6 0 rfl ?_
    refine j_aload_n hC dX0_nearestBut_8 2 rfl ?_
    refine j_get hC inX0 rfl (4 + b) (hw_bk g _ hb) 3 (by decide) wd49 rfl dX0_nearestBut_9 ?_
    refine j_icmp_ge (tgt := 47) hC dX0_nearestBut_12 (by decide) (by omega) (fun h => absurd h (by omega)) (fun _ => ?_)
    refine j_iload hC dX0_nearestBut_15 0 rfl ?_
    refine j_iload_n hC dX0_nearestBut_17 3 rfl ?_
    refine j_icmp_eq (tgt := 41) hC dX0_nearestBut_18 (by decide) (by omega) (fun h18 => ?_) (fun h18 => ?_)
    · refine j_iinc hC dX0_nearestBut_41 0 [(4, vI (z + 1)), (3, vI (a)), (0, .ref (gd g (4 + b))), (1, vI (s)), (2, vI (x))] rfl (by decide) rfl ?_
      refine j_goto (tgt := 6) hC dX0_nearestBut_44 (by decide) ?_
      refine j_sub [0, 1, 2, 3, 4] rfl ?_
      first | (rw [if_pos h18]; exact ih (z + 1) a (by omega) (by omega) ha) | (rw [if_neg h18]; exact ih (z + 1) _ (by omega) (by omega) (by split <;> omega))
    · refine j_iload_n hC dX0_nearestBut_21 1 rfl ?_
      refine j_aload_n hC dX0_nearestBut_22 2 rfl ?_
      refine j_get hC inX0 rfl (4 + b) (hw_bk g _ hb) 0 (by decide) wd44 rfl dX0_nearestBut_23 ?_
      refine j_iload_n hC dX0_nearestBut_26 4 rfl ?_
      refine j_aload_n hC dX0_nearestBut_27 2 rfl ?_
      refine j_get hC inX0 rfl (4 + b) (hw_bk g _ hb) 1 (by decide) wd45 rfl dX0_nearestBut_28 ?_
      refine j_iload hC dX0_nearestBut_31 0 rfl ?_
      refine j_iald hC (9 + b) (hw_lk g _ hb) (by omega) dX0_nearestBut_33 ?_
      refine j_callVN1 (ar := 2) hC hR (c_X2_distance (hlJ hC) g σ hI x ((σ).2 (1 + b) z) (by omega)) [vI (a)] rfl 1 rfl rfl rfl (by decide) (by decide +kernel) rfl wd269 wd226 wp7 wd2 wd227 (by decide) (Nat.le_of_ble_eq_true rfl) dX0_nearestBut_34 ?_
      refine j_min hC hR wd282 ⟨by decide, Nat.le_of_ble_eq_true rfl⟩ (by decide) (by omega) dX0_nearestBut_37 ?_
      refine j_istore_n hC dX0_nearestBut_40 [(3, vI (if a ≤ dst (σ.2 0) x ((σ).2 (1 + b) z) then a else dst (σ.2 0) x ((σ).2 (1 + b) z))), (4, vI (z)), (0, .ref (gd g (4 + b))), (1, vI (s)), (2, vI (x))] (by decide) rfl ?_
      refine j_iinc hC dX0_nearestBut_41 1 [(4, vI (z + 1)), (3, vI (if a ≤ dst (σ.2 0) x ((σ).2 (1 + b) z) then a else dst (σ.2 0) x ((σ).2 (1 + b) z))), (0, .ref (gd g (4 + b))), (1, vI (s)), (2, vI (x))] rfl (by decide) rfl ?_
      refine j_goto (tgt := 6) hC dX0_nearestBut_44 (by decide) ?_
      refine j_sub [0, 1, 2, 3, 4] rfl ?_
      first | (rw [if_pos h18]; exact ih (z + 1) a (by omega) (by omega) ha) | (rw [if_neg h18]; exact ih (z + 1) _ (by omega) (by omega) (by split <;> omega))
set_option maxHeartbeats 4000000 in
set_option maxRecDepth 100000 in
theorem c_X0_nearestBut {l : Launch} (hl : l.stackTraces = false) (g : GG) (σ : Sg) (hI : IC σ) {b : Nat} (hb : b < 5) (s x : Int) (hs : -2147483648 ≤ s ∧ s < 2147483648) (hx : 0 ≤ x ∧ x < 2304) : CN l yX0_nearestBut cX0_nearestBut 5 (some .int) 3 71 0 0 g [.ref (gd g (4 + b)), vI (s), vI (x)] σ (pt (some (vI (nbB σ b s x))) (σ)) := by
  refine CN_of (own := RX0) hl (by decide) rfl (Nat.le_of_ble_eq_true rfl) (fun mc hC _ hR => ?_)
  refine j_lv (lv2 := [(0, .ref (gd g (4 + b))), (1, vI (s)), (2, vI (x))]) rfl ?_
  have hn2 := cN_eq hI hb
  refine j_bipush hC dX0_nearestBut_0 (by decide) ?_
  refine j_istore_n hC dX0_nearestBut_2 [(3, vI (100)), (0, .ref (gd g (4 + b))), (1, vI (s)), (2, vI (x))] (by decide) rfl ?_
  refine j_iconst hC dX0_nearestBut_3 ?_
  refine j_istore hC dX0_nearestBut_4 [(4, vI (0)), (3, vI (100)), (0, .ref (gd g (4 + b))), (1, vI (s)), (2, vI (x))] (by decide) rfl ?_
  refine j_sub [0, 1, 2, 3, 4] rfl ?_
  exact lp_nearestBut hC hR hI hb s x hs hx (cN σ b) 0 100 (by omega) (by omega) (by omega)
set_option maxHeartbeats 4000000 in
set_option maxRecDepth 100000 in
theorem lp_fewestApart {mc : MC} {g : GG} {σ : Sg} (hC : Cx mc g cX0_fewestApart RX0 3 (some .int)) (hR : mR mc = rmJ 4 95 0 0) (hI : IC σ) {b : Nat} (hb : b < 5) : ∀ (d : Nat) (z : Int) (a : Int), (0 ≤ z) → (z + (d : Int) = σ.1 (2 + b)) → (0 ≤ a ∧ a ≤ 100) → J mc g 0 0 (QN mc g (pt (some (vI (nbF (fun z => nbB σ b z (lkB σ b z)) (-1) d z a))) (σ)) 0 0) 15 [(2, vI (z)), (1, vI (a)), (0, .ref (gd g (4 + b)))] [] σ := by
  intro d
  induction d with
  | zero =>
    intro z a h0 hz ha
    have hn := hI.2.2.2.1 b hb
    refine j_iload_n hC dX0_fewestApart_15 0 rfl ?_
    refine j_aload_n hC dX0_fewestApart_16 2 rfl ?_
    refine j_get hC inX0 rfl (4 + b) (hw_bk g _ hb) 3 (by decide) wd49 rfl dX0_fewestApart_17 ?_
    refine j_icmp_ge (tgt := 45) hC dX0_fewestApart_20 (by decide) (by omega) (fun _ => ?_) (fun h => absurd h (by omega))
    refine j_iload_n hC dX0_fewestApart_45 1 rfl ?_
    exact j_iret hC dX0_fewestApart_46 ⟨rfl, rfl⟩
  | succ d ih =>
    intro z a h0 hz ha
    have hn := hI.2.2.2.1 b hb
    have hk := hI.2.2.2.2.1 b hb z (by omega) (by omega)
    rw [show nbF (fun z => nbB σ b z (lkB σ b z)) (-1) (d + 1) z a = nbF (fun z => nbB σ b z (lkB σ b z)) (-1) d (z + 1) (if z = -1 then a else if a ≤ nbB σ b z (σ.2 (1 + b) z) then a else nbB σ b z (σ.2 (1 + b) z)) from rfl, if_neg (show ¬ z = -1 by omega)]
    refine j_iload_n hC dX0_fewestApart_15 0 rfl ?_
    refine j_aload_n hC dX0_fewestApart_16 2 rfl ?_
    refine j_get hC inX0 rfl (4 + b) (hw_bk g _ hb) 3 (by decide) wd49 rfl dX0_fewestApart_17 ?_
    refine j_icmp_ge (tgt := 45) hC dX0_fewestApart_20 (by decide) (by omega) (fun h => absurd h (by omega)) (fun _ => ?_)
    refine j_iload_n hC dX0_fewestApart_23 1 rfl ?_
    refine j_aload_n hC dX0_fewestApart_24 2 rfl ?_
    refine j_iload_n hC dX0_fewestApart_25 0 rfl ?_
    refine j_aload_n hC dX0_fewestApart_26 2 rfl ?_
    refine j_get hC inX0 rfl (4 + b) (hw_bk g _ hb) 1 (by decide) wd45 rfl dX0_fewestApart_27 ?_
    refine j_iload_n hC dX0_fewestApart_30 0 rfl ?_
    refine j_iald hC (9 + b) (hw_lk g _ hb) (by omega) dX0_fewestApart_31 ?_
    refine j_callV1 (ar := 2) hC hR (c_X0_nearestBut (hlJ hC) g σ hI hb z ((σ).2 (1 + b) z) (by omega) (by omega)) [vI (a)] rfl (4 + b) (hw_bk g _ hb) rfl rfl (by decide) (by decide +kernel) rfl wd278 wd280 wp12 wd3 wd281 (by decide) (Nat.le_of_ble_eq_true rfl) dX0_fewestApart_32 ?_
    have hf32 := nbB_rg hI hb z (L := ((σ).2 (1 + b) z)) (by omega)
    refine j_min hC hR wd282 ⟨by decide, Nat.le_of_ble_eq_true rfl⟩ (by decide) (by omega) dX0_fewestApart_35 ?_
    refine j_istore_n hC dX0_fewestApart_38 [(1, vI (if a ≤ nbB σ b z ((σ).2 (1 + b) z) then a else nbB σ b z ((σ).2 (1 + b) z))), (2, vI (z)), (0, .ref (gd g (4 + b)))] (by decide) rfl ?_
    refine j_iinc hC dX0_fewestApart_39 1 [(2, vI (z + 1)), (1, vI (if a ≤ nbB σ b z ((σ).2 (1 + b) z) then a else nbB σ b z ((σ).2 (1 + b) z))), (0, .ref (gd g (4 + b)))] rfl (by decide) rfl ?_
    refine j_goto (tgt := 15) hC dX0_fewestApart_42 (by decide) ?_
    refine j_sub [0, 1, 2] rfl ?_
    exact ih (z + 1) _ (by omega) (by omega) (by split <;> omega)
set_option maxHeartbeats 4000000 in
set_option maxRecDepth 100000 in
theorem c_X0_fewestApart {l : Launch} (hl : l.stackTraces = false) (g : GG) (σ : Sg) (hI : IC σ) {b : Nat} (hb : b < 5) : CN l yX0_fewestApart cX0_fewestApart 3 (some .int) 4 95 0 0 g [.ref (gd g (4 + b))] σ (pt (some (vI (faB σ b))) (σ)) := by
  refine CN_of (own := RX0) hl (by decide) rfl (Nat.le_of_ble_eq_true rfl) (fun mc hC _ hR => ?_)
  refine j_lv (lv2 := [(0, .ref (gd g (4 + b)))]) rfl ?_
  have hn2 := cN_eq hI hb
  have hn := hI.2.2.2.1 b hb
  refine j_aload_n hC dX0_fewestApart_0 0 rfl ?_
  refine j_get hC inX0 rfl (4 + b) (hw_bk g _ hb) 3 (by decide) wd49 rfl dX0_fewestApart_1 ?_
  refine j_iconst hC dX0_fewestApart_4 ?_
  refine j_icmp_ge (tgt := 10) hC dX0_fewestApart_5 (by decide) (by omega) (fun h5 => ?_) (fun h5 => ?_)
  · refine j_bipush hC dX0_fewestApart_10 (by decide) ?_
    refine j_istore_n hC dX0_fewestApart_12 [(1, vI (100)), (0, .ref (gd g (4 + b)))] (by decide) rfl ?_
    refine j_iconst hC dX0_fewestApart_13 ?_
    refine j_istore_n hC dX0_fewestApart_14 [(2, vI (0)), (1, vI (100)), (0, .ref (gd g (4 + b)))] (by decide) rfl ?_
    refine j_sub [0, 1, 2] rfl ?_
    rw [show faB σ b = nbF (fun z => nbB σ b z (lkB σ b z)) (-1) (cN σ b) 0 100 from if_neg (by omega)]
    exact lp_fewestApart hC hR hI hb (cN σ b) 0 100 (by omega) (by omega) (by omega)
  · refine j_iconst hC dX0_fewestApart_8 ?_
    exact j_iret hC dX0_fewestApart_9 ⟨by unfold faB; rw [if_pos h5], rfl⟩
set_option maxHeartbeats 4000000 in
set_option maxRecDepth 100000 in
theorem lp_countNear {mc : MC} {g : GG} {σ : Sg} (hC : Cx mc g cX0_countNear RX0 4 (some .int)) (hR : mR mc = rmJ 3 71 0 0) (hI : IC σ) {b : Nat} (hb : b < 5) (s : Int) (hs : 0 ≤ s ∧ s < σ.1 (2 + b)) : ∀ (d : Nat) (z : Int) (a : Int), (0 ≤ z) → (z + (d : Int) = σ.1 (2 + b)) → J mc g 0 0 (QN mc g (pt (some (vI (cnt (nrC (σ.2 0) (lkB σ b) s) d z a))) (σ)) 0 0) 4 [(3, vI (z)), (2, vI (a)), (0, .ref (gd g (4 + b))), (1, vI (s))] [] σ := by
  intro d
  induction d with
  | zero =>
    intro z a h0 hz
    have hn := hI.2.2.2.1 b hb
    refine j_iload_n hC dX0_countNear_4 0 rfl ?_
    refine j_aload_n hC dX0_countNear_5 2 rfl ?_
    refine j_get hC inX0 rfl (4 + b) (hw_bk g _ hb) 3 (by decide) wd49 rfl dX0_countNear_6 ?_
    refine j_icmp_ge (tgt := 49) hC dX0_countNear_9 (by decide) (by omega) (fun _ => ?_) (fun h => absurd h (by omega))
    refine j_iload_n hC dX0_countNear_49 1 rfl ?_
    exact j_iret hC dX0_countNear_50 ⟨rfl, rfl⟩
  | succ d ih =>
    intro z a h0 hz
    have hn := hI.2.2.2.1 b hb
    have hk := hI.2.2.2.2.1 b hb z (by omega) (by omega)
    have hk2 := hI.2.2.2.2.1 b hb s (by omega) (by omega)
    have hd := dst_rg (G := σ.2 0) (x := σ.2 (1 + b) s) (y := σ.2 (1 + b) z) ⟨hk2.1, hk2.2, hk.1, hk.2⟩
    rw [show cnt (nrC (σ.2 0) (lkB σ b) s) (d + 1) z a = cnt (nrC (σ.2 0) (lkB σ b) s) d (z + 1) (if nrC (σ.2 0) (lkB σ b) s z = true then a + 1 else a) from rfl]
    refine j_iload_n hC dX0_countNear_4 0 rfl ?_
    refine j_aload_n hC dX0_countNear_5 2 rfl ?_
    refine j_get hC inX0 rfl (4 + b) (hw_bk g _ hb) 3 (by decide) wd49 rfl dX0_countNear_6 ?_
    refine j_icmp_ge (tgt := 49) hC dX0_countNear_9 (by decide) (by omega) (fun h => absurd h (by omega)) (fun _ => ?_)
    refine j_iload_n hC dX0_countNear_12 0 rfl ?_
    refine j_iload_n hC dX0_countNear_13 3 rfl ?_
    refine j_icmp_eq (tgt := 43) hC dX0_countNear_14 (by decide) (by omega) (fun h14 => ?_) (fun h14 => ?_)
    · refine j_iinc hC dX0_countNear_43 0 [(3, vI (z + 1)), (2, vI (a)), (0, .ref (gd g (4 + b))), (1, vI (s))] rfl (by decide) rfl ?_
      refine j_goto (tgt := 4) hC dX0_countNear_46 (by decide) ?_
      refine j_sub [0, 1, 2, 3] rfl ?_
      first | (rw [if_pos (show nrC (σ.2 0) (lkB σ b) s z = true from decide_eq_true ⟨h14, h37⟩)]; exact ih (z + 1) (a + 1) (by omega) (by omega)) | (rw [if_neg (show ¬ (nrC (σ.2 0) (lkB σ b) s z = true) from fun q => (of_decide_eq_true q).1 h14)]; exact ih (z + 1) a (by omega) (by omega)) | (rw [if_neg (show ¬ (nrC (σ.2 0) (lkB σ b) s z = true) from fun q => absurd (show dst (σ.2 0) (σ.2 (1 + b) s) (σ.2 (1 + b) z) ≤ 3 from (of_decide_eq_true q).2) (by omega))]; exact ih (z + 1) a (by omega) (by omega))
    · refine j_aload_n hC dX0_countNear_17 2 rfl ?_
      refine j_get hC inX0 rfl (4 + b) (hw_bk g _ hb) 0 (by decide) wd44 rfl dX0_countNear_18 ?_
      refine j_aload_n hC dX0_countNear_21 2 rfl ?_
      refine j_get hC inX0 rfl (4 + b) (hw_bk g _ hb) 1 (by decide) wd45 rfl dX0_countNear_22 ?_
      refine j_iload_n hC dX0_countNear_25 3 rfl ?_
      refine j_iald hC (9 + b) (hw_lk g _ hb) (by omega) dX0_countNear_26 ?_
      refine j_aload_n hC dX0_countNear_27 2 rfl ?_
      refine j_get hC inX0 rfl (4 + b) (hw_bk g _ hb) 1 (by decide) wd45 rfl dX0_countNear_28 ?_
      refine j_iload_n hC dX0_countNear_31 0 rfl ?_
      refine j_iald hC (9 + b) (hw_lk g _ hb) (by omega) dX0_countNear_32 ?_
      refine j_callVN1 (ar := 2) hC hR (c_X2_distance (hlJ hC) g σ hI ((σ).2 (1 + b) s) ((σ).2 (1 + b) z) (by omega)) [] rfl 1 rfl rfl rfl (by decide) (by decide +kernel) rfl wd269 wd226 wp7 wd2 wd227 (by decide) (Nat.le_of_ble_eq_true rfl) dX0_countNear_33 ?_
      refine j_iconst hC dX0_countNear_36 ?_
      refine j_icmp_gt (tgt := 43) hC dX0_countNear_37 (by decide) (by omega) (fun h37 => ?_) (fun h37 => ?_)
      · refine j_iinc hC dX0_countNear_43 0 [(3, vI (z + 1)), (2, vI (a)), (0, .ref (gd g (4 + b))), (1, vI (s))] rfl (by decide) rfl ?_
        refine j_goto (tgt := 4) hC dX0_countNear_46 (by decide) ?_
        refine j_sub [0, 1, 2, 3] rfl ?_
        first | (rw [if_pos (show nrC (σ.2 0) (lkB σ b) s z = true from decide_eq_true ⟨h14, h37⟩)]; exact ih (z + 1) (a + 1) (by omega) (by omega)) | (rw [if_neg (show ¬ (nrC (σ.2 0) (lkB σ b) s z = true) from fun q => (of_decide_eq_true q).1 h14)]; exact ih (z + 1) a (by omega) (by omega)) | (rw [if_neg (show ¬ (nrC (σ.2 0) (lkB σ b) s z = true) from fun q => absurd (show dst (σ.2 0) (σ.2 (1 + b) s) (σ.2 (1 + b) z) ≤ 3 from (of_decide_eq_true q).2) (by omega))]; exact ih (z + 1) a (by omega) (by omega))
      · refine j_iinc hC dX0_countNear_40 1 [(2, vI (a + 1)), (3, vI (z)), (0, .ref (gd g (4 + b))), (1, vI (s))] rfl (by decide) rfl ?_
        refine j_iinc hC dX0_countNear_43 1 [(3, vI (z + 1)), (2, vI (a + 1)), (0, .ref (gd g (4 + b))), (1, vI (s))] rfl (by decide) rfl ?_
        refine j_goto (tgt := 4) hC dX0_countNear_46 (by decide) ?_
        refine j_sub [0, 1, 2, 3] rfl ?_
        first | (rw [if_pos (show nrC (σ.2 0) (lkB σ b) s z = true from decide_eq_true ⟨h14, h37⟩)]; exact ih (z + 1) (a + 1) (by omega) (by omega)) | (rw [if_neg (show ¬ (nrC (σ.2 0) (lkB σ b) s z = true) from fun q => (of_decide_eq_true q).1 h14)]; exact ih (z + 1) a (by omega) (by omega)) | (rw [if_neg (show ¬ (nrC (σ.2 0) (lkB σ b) s z = true) from fun q => absurd (show dst (σ.2 0) (σ.2 (1 + b) s) (σ.2 (1 + b) z) ≤ 3 from (of_decide_eq_true q).2) (by omega))]; exact ih (z + 1) a (by omega) (by omega))
set_option maxHeartbeats 4000000 in
set_option maxRecDepth 100000 in
theorem c_X0_countNear {l : Launch} (hl : l.stackTraces = false) (g : GG) (σ : Sg) (hI : IC σ) {b : Nat} (hb : b < 5) (s : Int) (hs : 0 ≤ s ∧ s < σ.1 (2 + b)) : CN l yX0_countNear cX0_countNear 4 (some .int) 3 71 0 0 g [.ref (gd g (4 + b)), vI (s)] σ (pt (some (vI (cnB σ b s))) (σ)) := by
  refine CN_of (own := RX0) hl (by decide) rfl (Nat.le_of_ble_eq_true rfl) (fun mc hC _ hR => ?_)
  refine j_lv (lv2 := [(0, .ref (gd g (4 + b))), (1, vI (s))]) rfl ?_
  have hn2 := cN_eq hI hb
  refine j_iconst hC dX0_countNear_0 ?_
  refine j_istore_n hC dX0_countNear_1 [(2, vI (0)), (0, .ref (gd g (4 + b))), (1, vI (s))] (by decide) rfl ?_
  refine j_iconst hC dX0_countNear_2 ?_
  refine j_istore_n hC dX0_countNear_3 [(3, vI (0)), (2, vI (0)), (0, .ref (gd g (4 + b))), (1, vI (s))] (by decide) rfl ?_
  refine j_sub [0, 1, 2, 3] rfl ?_
  exact lp_countNear hC hR hI hb s hs (cN σ b) 0 0 (by omega) (by omega)
set_option maxHeartbeats 4000000 in
set_option maxRecDepth 100000 in
theorem lp_signNearMost {mc : MC} {g : GG} {σ : Sg} (hC : Cx mc g cX0_signNearMost RX0 5 (some .int)) (hR : mR mc = rmJ 4 94 0 0) (hI : IC σ) {b : Nat} (hb : b < 5) : ∀ (d : Nat) (z : Int) (fo : Int) (mo : Int), (0 ≤ z) → (z + (d : Int) = σ.1 (2 + b)) → (-1 ≤ mo ∧ mo ≤ 16) → J mc g 0 0 (QN mc g (pt (some (vI (amF (fun z => cnB σ b z) d z fo mo))) (σ)) 0 0) 6 [(3, vI (z)), (1, vI (fo)), (2, vI (mo)), (0, .ref (gd g (4 + b)))] [] σ := by
  intro d
  induction d with
  | zero =>
    intro z fo mo h0 hz hm
    have hn := hI.2.2.2.1 b hb
    refine j_iload_n hC dX0_signNearMost_6 0 rfl ?_
    refine j_aload_n hC dX0_signNearMost_7 3 rfl ?_
    refine j_get hC inX0 rfl (4 + b) (hw_bk g _ hb) 3 (by decide) wd49 rfl dX0_signNearMost_8 ?_
    refine j_icmp_ge (tgt := 38) hC dX0_signNearMost_11 (by decide) (by omega) (fun _ => ?_) (fun h => absurd h (by omega))
    refine j_iload_n hC dX0_signNearMost_38 1 rfl ?_
    exact j_iret hC dX0_signNearMost_39 ⟨rfl, rfl⟩
  | succ d ih =>
    intro z fo mo h0 hz hm
    have hn := hI.2.2.2.1 b hb
    rw [show amF (fun z => cnB σ b z) (d + 1) z fo mo = if mo < cnB σ b z then amF (fun z => cnB σ b z) d (z + 1) z (cnB σ b z) else amF (fun z => cnB σ b z) d (z + 1) fo mo from rfl]
    refine j_iload_n hC dX0_signNearMost_6 0 rfl ?_
    refine j_aload_n hC dX0_signNearMost_7 3 rfl ?_
    refine j_get hC inX0 rfl (4 + b) (hw_bk g _ hb) 3 (by decide) wd49 rfl dX0_signNearMost_8 ?_
    refine j_icmp_ge (tgt := 38) hC dX0_signNearMost_11 (by decide) (by omega) (fun h => absurd h (by omega)) (fun _ => ?_)
    refine j_aload_n hC dX0_signNearMost_14 3 rfl ?_
    refine j_iload_n hC dX0_signNearMost_15 0 rfl ?_
    refine j_callV1 (ar := 1) hC hR (c_X0_countNear (hlJ hC) g σ hI hb z (by omega)) [] rfl (4 + b) (hw_bk g _ hb) rfl rfl (by decide) (by decide +kernel) rfl wd293 wd295 wp14 wd3 wd296 (by decide) (Nat.le_of_ble_eq_true rfl) dX0_signNearMost_16 ?_
    have hf16 : 0 ≤ cnB σ b z ∧ cnB σ b z ≤ 16 := cnt0_rg _ hI hb
    refine j_istore hC dX0_signNearMost_19 [(4, vI (cnB σ b z)), (3, vI (z)), (1, vI (fo)), (2, vI (mo)), (0, .ref (gd g (4 + b)))] (by decide) rfl ?_
    refine j_iload hC dX0_signNearMost_21 0 rfl ?_
    refine j_iload_n hC dX0_signNearMost_23 3 rfl ?_
    refine j_icmp_le (tgt := 32) hC dX0_signNearMost_24 (by decide) (by omega) (fun h24 => ?_) (fun h24 => ?_)
    · refine j_iinc hC dX0_signNearMost_32 1 [(3, vI (z + 1)), (4, vI (cnB σ b z)), (1, vI (fo)), (2, vI (mo)), (0, .ref (gd g (4 + b)))] rfl (by decide) rfl ?_
      refine j_goto (tgt := 6) hC dX0_signNearMost_35 (by decide) ?_
      refine j_sub [0, 2, 3, 4] rfl ?_
      first | (rw [if_pos h24]; exact ih (z + 1) z _ (by omega) (by omega) (by omega)) | (rw [if_neg (show ¬ mo < cnB σ b z by omega)]; exact ih (z + 1) fo mo (by omega) (by omega) hm)
    · refine j_iload hC dX0_signNearMost_27 0 rfl ?_
      refine j_istore_n hC dX0_signNearMost_29 [(2, vI (cnB σ b z)), (4, vI (cnB σ b z)), (3, vI (z)), (1, vI (fo)), (0, .ref (gd g (4 + b)))] (by decide) rfl ?_
      refine j_iload_n hC dX0_signNearMost_30 2 rfl ?_
      refine j_istore_n hC dX0_signNearMost_31 [(1, vI (z)), (2, vI (cnB σ b z)), (4, vI (cnB σ b z)), (3, vI (z)), (0, .ref (gd g (4 + b)))] (by decide) rfl ?_
      refine j_iinc hC dX0_signNearMost_32 3 [(3, vI (z + 1)), (1, vI (z)), (2, vI (cnB σ b z)), (4, vI (cnB σ b z)), (0, .ref (gd g (4 + b)))] rfl (by decide) rfl ?_
      refine j_goto (tgt := 6) hC dX0_signNearMost_35 (by decide) ?_
      refine j_sub [0, 1, 2, 4] rfl ?_
      first | (rw [if_pos h24]; exact ih (z + 1) z _ (by omega) (by omega) (by omega)) | (rw [if_neg (show ¬ mo < cnB σ b z by omega)]; exact ih (z + 1) fo mo (by omega) (by omega) hm)
set_option maxHeartbeats 4000000 in
set_option maxRecDepth 100000 in
theorem c_X0_signNearMost {l : Launch} (hl : l.stackTraces = false) (g : GG) (σ : Sg) (hI : IC σ) {b : Nat} (hb : b < 5) : CN l yX0_signNearMost cX0_signNearMost 5 (some .int) 4 94 0 0 g [.ref (gd g (4 + b))] σ (pt (some (vI (snB σ b))) (σ)) := by
  refine CN_of (own := RX0) hl (by decide) rfl (Nat.le_of_ble_eq_true rfl) (fun mc hC _ hR => ?_)
  refine j_lv (lv2 := [(0, .ref (gd g (4 + b)))]) rfl ?_
  have hn2 := cN_eq hI hb
  refine j_iconst hC dX0_signNearMost_0 ?_
  refine j_istore_n hC dX0_signNearMost_1 [(1, vI (-1)), (0, .ref (gd g (4 + b)))] (by decide) rfl ?_
  refine j_iconst hC dX0_signNearMost_2 ?_
  refine j_istore_n hC dX0_signNearMost_3 [(2, vI (-1)), (1, vI (-1)), (0, .ref (gd g (4 + b)))] (by decide) rfl ?_
  refine j_iconst hC dX0_signNearMost_4 ?_
  refine j_istore_n hC dX0_signNearMost_5 [(3, vI (0)), (2, vI (-1)), (1, vI (-1)), (0, .ref (gd g (4 + b)))] (by decide) rfl ?_
  refine j_sub [0, 2, 1, 3] rfl ?_
  exact lp_signNearMost hC hR hI hb (cN σ b) 0 (-1) (-1) (by omega) (by omega) (by omega)
set_option maxHeartbeats 4000000 in
set_option maxRecDepth 100000 in
theorem lp_meaningRead {mc : MC} {g : GG} {σ : Sg} (hC : Cx mc g cX0_meaningRead RX0 6 (some .int)) (hR : mR mc = rmJ 3 71 0 0) (hI : IC σ) {b : Nat} (hb : b < 5) (x : Int) (hx : 0 ≤ x ∧ x < 2304) : ∀ (d : Nat) (z : Int) (fw : Int) (m : Int), (0 ≤ z) → (z + (d : Int) = σ.1 (2 + b)) → (0 ≤ fw ∧ fw ≤ 4) → J mc g 0 0 (QN mc g (pt (some (vI (mrF (fun z => dst (σ.2 0) x (lkB σ b z)) (mnB σ b) d z fw m))) (σ)) 0 0) 7 [(4, vI (z)), (2, vI (fw)), (3, vI (m)), (0, .ref (gd g (4 + b))), (1, vI (x))] [] σ := by
  intro d
  induction d with
  | zero =>
    intro z fw m h0 hz hf
    have hn := hI.2.2.2.1 b hb
    refine j_iload hC dX0_meaningRead_7 0 rfl ?_
    refine j_aload_n hC dX0_meaningRead_9 3 rfl ?_
    refine j_get hC inX0 rfl (4 + b) (hw_bk g _ hb) 3 (by decide) wd49 rfl dX0_meaningRead_10 ?_
    refine j_icmp_ge (tgt := 67) hC dX0_meaningRead_13 (by decide) (by omega) (fun _ => ?_) (fun h => absurd h (by omega))
    refine j_iload_n hC dX0_meaningRead_67 2 rfl ?_
    exact j_iret hC dX0_meaningRead_68 ⟨rfl, rfl⟩
  | succ d ih =>
    intro z fw m h0 hz hf
    have hn := hI.2.2.2.1 b hb
    have hk := hI.2.2.2.2.1 b hb z (by omega) (by omega)
    have hd := dst_rg (G := σ.2 0) (x := x) (y := σ.2 (1 + b) z) ⟨hx.1, hx.2, hk.1, hk.2⟩
    rw [show mrF (fun z => dst (σ.2 0) x (lkB σ b z)) (mnB σ b) (d + 1) z fw m = if dst (σ.2 0) x (σ.2 (1 + b) z) < fw then mrF (fun z => dst (σ.2 0) x (lkB σ b z)) (mnB σ b) d (z + 1) (dst (σ.2 0) x (σ.2 (1 + b) z)) (σ.2 (6 + b) z) else if dst (σ.2 0) x (σ.2 (1 + b) z) = fw then mrF (fun z => dst (σ.2 0) x (lkB σ b z)) (mnB σ b) d (z + 1) fw (-1) else mrF (fun z => dst (σ.2 0) x (lkB σ b z)) (mnB σ b) d (z + 1) fw m from rfl]
    refine j_iload hC dX0_meaningRead_7 0 rfl ?_
    refine j_aload_n hC dX0_meaningRead_9 3 rfl ?_
    refine j_get hC inX0 rfl (4 + b) (hw_bk g _ hb) 3 (by decide) wd49 rfl dX0_meaningRead_10 ?_
    refine j_icmp_ge (tgt := 67) hC dX0_meaningRead_13 (by decide) (by omega) (fun h => absurd h (by omega)) (fun _ => ?_)
    refine j_aload_n hC dX0_meaningRead_16 3 rfl ?_
    refine j_get hC inX0 rfl (4 + b) (hw_bk g _ hb) 0 (by decide) wd44 rfl dX0_meaningRead_17 ?_
    refine j_iload_n hC dX0_meaningRead_20 4 rfl ?_
    refine j_aload_n hC dX0_meaningRead_21 3 rfl ?_
    refine j_get hC inX0 rfl (4 + b) (hw_bk g _ hb) 1 (by decide) wd45 rfl dX0_meaningRead_22 ?_
    refine j_iload hC dX0_meaningRead_25 0 rfl ?_
    refine j_iald hC (9 + b) (hw_lk g _ hb) (by omega) dX0_meaningRead_27 ?_
    refine j_callVN1 (ar := 2) hC hR (c_X2_distance (hlJ hC) g σ hI x ((σ).2 (1 + b) z) (by omega)) [] rfl 1 rfl rfl rfl (by decide) (by decide +kernel) rfl wd269 wd226 wp7 wd2 wd227 (by decide) (Nat.le_of_ble_eq_true rfl) dX0_meaningRead_28 ?_
    refine j_istore hC dX0_meaningRead_31 [(5, vI (dst (σ.2 0) x ((σ).2 (1 + b) z))), (4, vI (z)), (2, vI (fw)), (3, vI (m)), (0, .ref (gd g (4 + b))), (1, vI (x))] (by decide) rfl ?_
    refine j_iload hC dX0_meaningRead_33 0 rfl ?_
    refine j_iload_n hC dX0_meaningRead_35 2 rfl ?_
    refine j_icmp_ge (tgt := 53) hC dX0_meaningRead_36 (by decide) (by omega) (fun h36 => ?_) (fun h36 => ?_)
    · refine j_iload hC dX0_meaningRead_53 0 rfl ?_
      refine j_iload_n hC dX0_meaningRead_55 2 rfl ?_
      refine j_icmp_ne (tgt := 61) hC dX0_meaningRead_56 (by decide) (by omega) (fun h56 => ?_) (fun h56 => ?_)
      · refine j_iinc hC dX0_meaningRead_61 1 [(4, vI (z + 1)), (5, vI (dst (σ.2 0) x ((σ).2 (1 + b) z))), (2, vI (fw)), (3, vI (m)), (0, .ref (gd g (4 + b))), (1, vI (x))] rfl (by decide) rfl ?_
        refine j_goto (tgt := 7) hC dX0_meaningRead_64 (by decide) ?_
        refine j_sub [0, 2, 3, 4, 5] rfl ?_
        first | (rw [if_pos h36]; exact ih (z + 1) _ _ (by omega) (by omega) (by omega)) | (rw [if_neg (show ¬ dst (σ.2 0) x (σ.2 (1 + b) z) < fw by omega), if_pos h56]; exact ih (z + 1) fw (-1) (by omega) (by omega) hf) | (rw [if_neg (show ¬ dst (σ.2 0) x (σ.2 (1 + b) z) < fw by omega), if_neg h56]; exact ih (z + 1) fw m (by omega) (by omega) hf)
      · refine j_iconst hC dX0_meaningRead_59 ?_
        refine j_istore_n hC dX0_meaningRead_60 [(3, vI (-1)), (5, vI (dst (σ.2 0) x ((σ).2 (1 + b) z))), (4, vI (z)), (2, vI (fw)), (0, .ref (gd g (4 + b))), (1, vI (x))] (by decide) rfl ?_
        refine j_iinc hC dX0_meaningRead_61 2 [(4, vI (z + 1)), (3, vI (-1)), (5, vI (dst (σ.2 0) x ((σ).2 (1 + b) z))), (2, vI (fw)), (0, .ref (gd g (4 + b))), (1, vI (x))] rfl (by decide) rfl ?_
        refine j_goto (tgt := 7) hC dX0_meaningRead_64 (by decide) ?_
        refine j_sub [0, 3, 1, 4, 5] rfl ?_
        first | (rw [if_pos h36]; exact ih (z + 1) _ _ (by omega) (by omega) (by omega)) | (rw [if_neg (show ¬ dst (σ.2 0) x (σ.2 (1 + b) z) < fw by omega), if_pos h56]; exact ih (z + 1) fw (-1) (by omega) (by omega) hf) | (rw [if_neg (show ¬ dst (σ.2 0) x (σ.2 (1 + b) z) < fw by omega), if_neg h56]; exact ih (z + 1) fw m (by omega) (by omega) hf)
    · refine j_iload hC dX0_meaningRead_39 0 rfl ?_
      refine j_istore_n hC dX0_meaningRead_41 [(2, vI (dst (σ.2 0) x ((σ).2 (1 + b) z))), (5, vI (dst (σ.2 0) x ((σ).2 (1 + b) z))), (4, vI (z)), (3, vI (m)), (0, .ref (gd g (4 + b))), (1, vI (x))] (by decide) rfl ?_
      refine j_aload_n hC dX0_meaningRead_42 4 rfl ?_
      refine j_get hC inX0 rfl (4 + b) (hw_bk g _ hb) 2 (by decide) wd47 rfl dX0_meaningRead_43 ?_
      refine j_iload hC dX0_meaningRead_46 2 rfl ?_
      refine j_iald hC (14 + b) (hw_mn g _ hb) (by omega) dX0_meaningRead_48 ?_
      refine j_istore_n hC dX0_meaningRead_49 [(3, vI ((σ).2 (6 + b) z)), (2, vI (dst (σ.2 0) x ((σ).2 (1 + b) z))), (5, vI (dst (σ.2 0) x ((σ).2 (1 + b) z))), (4, vI (z)), (0, .ref (gd g (4 + b))), (1, vI (x))] (by decide) rfl ?_
      refine j_goto (tgt := 61) hC dX0_meaningRead_50 (by decide) ?_
      refine j_iinc hC dX0_meaningRead_61 3 [(4, vI (z + 1)), (3, vI ((σ).2 (6 + b) z)), (2, vI (dst (σ.2 0) x ((σ).2 (1 + b) z))), (5, vI (dst (σ.2 0) x ((σ).2 (1 + b) z))), (0, .ref (gd g (4 + b))), (1, vI (x))] rfl (by decide) rfl ?_
      refine j_goto (tgt := 7) hC dX0_meaningRead_64 (by decide) ?_
      refine j_sub [0, 2, 1, 4, 5] rfl ?_
      first | (rw [if_pos h36]; exact ih (z + 1) _ _ (by omega) (by omega) (by omega)) | (rw [if_neg (show ¬ dst (σ.2 0) x (σ.2 (1 + b) z) < fw by omega), if_pos h56]; exact ih (z + 1) fw (-1) (by omega) (by omega) hf) | (rw [if_neg (show ¬ dst (σ.2 0) x (σ.2 (1 + b) z) < fw by omega), if_neg h56]; exact ih (z + 1) fw m (by omega) (by omega) hf)
set_option maxHeartbeats 4000000 in
set_option maxRecDepth 100000 in
theorem c_X0_meaningRead {l : Launch} (hl : l.stackTraces = false) (g : GG) (σ : Sg) (hI : IC σ) {b : Nat} (hb : b < 5) (x : Int) (hx : 0 ≤ x ∧ x < 2304) : CN l yX0_meaningRead cX0_meaningRead 6 (some .int) 3 71 0 0 g [.ref (gd g (4 + b)), vI (x)] σ (pt (some (vI (mrB σ b x))) (σ)) := by
  refine CN_of (own := RX0) hl (by decide) rfl (Nat.le_of_ble_eq_true rfl) (fun mc hC _ hR => ?_)
  refine j_lv (lv2 := [(0, .ref (gd g (4 + b))), (1, vI (x))]) rfl ?_
  have hn2 := cN_eq hI hb
  refine j_iconst hC dX0_meaningRead_0 ?_
  refine j_istore_n hC dX0_meaningRead_1 [(2, vI (4)), (0, .ref (gd g (4 + b))), (1, vI (x))] (by decide) rfl ?_
  refine j_iconst hC dX0_meaningRead_2 ?_
  refine j_istore_n hC dX0_meaningRead_3 [(3, vI (-1)), (2, vI (4)), (0, .ref (gd g (4 + b))), (1, vI (x))] (by decide) rfl ?_
  refine j_iconst hC dX0_meaningRead_4 ?_
  refine j_istore hC dX0_meaningRead_5 [(4, vI (0)), (3, vI (-1)), (2, vI (4)), (0, .ref (gd g (4 + b))), (1, vI (x))] (by decide) rfl ?_
  refine j_sub [0, 2, 1, 3, 4] rfl ?_
  exact lp_meaningRead hC hR hI hb x hx (cN σ b) 0 4 (-1) (by omega) (by omega) (by omega)
set_option maxHeartbeats 4000000 in
set_option maxRecDepth 100000 in
theorem lp_countUnderstood {mc : MC} {g : GG} {σ : Sg} (hC : Cx mc g cX0_countUnderstood RX0 4 (some .int)) (hR : mR mc = rmJ 4 96 0 0) (hI : IC σ) {b : Nat} (hb : b < 5) {e : Nat} (he : e < 5) : ∀ (d : Nat) (z : Int) (a : Int), (0 ≤ z) → (z + (d : Int) = σ.1 (2 + e)) → J mc g 0 0 (QN mc g (pt (some (vI (cnt (unC σ b e) d z a))) (σ)) 0 0) 4 [(3, vI (z)), (2, vI (a)), (0, .ref (gd g (4 + b))), (1, .ref (gd g (4 + e)))] [] σ := by
  intro d
  induction d with
  | zero =>
    intro z a h0 hz
    have hn := hI.2.2.2.1 b hb
    have hne := hI.2.2.2.1 e he
    refine j_iload_n hC dX0_countUnderstood_4 0 rfl ?_
    refine j_aload_n hC dX0_countUnderstood_5 3 rfl ?_
    refine j_get hC inX0 rfl (4 + e) (hw_bk g _ he) 3 (by decide) wd49 rfl dX0_countUnderstood_6 ?_
    refine j_icmp_ge (tgt := 40) hC dX0_countUnderstood_9 (by decide) (by omega) (fun _ => ?_) (fun h => absurd h (by omega))
    refine j_iload_n hC dX0_countUnderstood_40 1 rfl ?_
    exact j_iret hC dX0_countUnderstood_41 ⟨rfl, rfl⟩
  | succ d ih =>
    intro z a h0 hz
    have hn := hI.2.2.2.1 b hb
    have hne := hI.2.2.2.1 e he
    have hk := hI.2.2.2.2.1 e he z (by omega) (by omega)
    have hm := hI.2.2.2.2.2 e he z (by omega) (by omega)
    rw [show cnt (unC σ b e) (d + 1) z a = cnt (unC σ b e) d (z + 1) (if unC σ b e z = true then a + 1 else a) from rfl]
    refine j_iload_n hC dX0_countUnderstood_4 0 rfl ?_
    refine j_aload_n hC dX0_countUnderstood_5 3 rfl ?_
    refine j_get hC inX0 rfl (4 + e) (hw_bk g _ he) 3 (by decide) wd49 rfl dX0_countUnderstood_6 ?_
    refine j_icmp_ge (tgt := 40) hC dX0_countUnderstood_9 (by decide) (by omega) (fun h => absurd h (by omega)) (fun _ => ?_)
    refine j_aload_n hC dX0_countUnderstood_12 2 rfl ?_
    refine j_aload_n hC dX0_countUnderstood_13 3 rfl ?_
    refine j_get hC inX0 rfl (4 + e) (hw_bk g _ he) 1 (by decide) wd45 rfl dX0_countUnderstood_14 ?_
    refine j_iload_n hC dX0_countUnderstood_17 0 rfl ?_
    refine j_iald hC (9 + e) (hw_lk g _ he) (by omega) dX0_countUnderstood_18 ?_
    refine j_callV1 (ar := 1) hC hR (c_X0_meaningRead (hlJ hC) g σ hI hb ((σ).2 (1 + e) z) (by omega)) [] rfl (4 + b) (hw_bk g _ hb) rfl rfl (by decide) (by decide +kernel) rfl wd313 wd303 wp15 wd3 wd304 (by decide) (Nat.le_of_ble_eq_true rfl) dX0_countUnderstood_19 ?_
    have hf19 := mrB_rg hI hb ((σ).2 (1 + e) z)
    refine j_aload_n hC dX0_countUnderstood_22 3 rfl ?_
    refine j_get hC inX0 rfl (4 + e) (hw_bk g _ he) 2 (by decide) wd47 rfl dX0_countUnderstood_23 ?_
    refine j_iload_n hC dX0_countUnderstood_26 0 rfl ?_
    refine j_iald hC (14 + e) (hw_mn g _ he) (by omega) dX0_countUnderstood_27 ?_
    refine j_icmp_ne (tgt := 34) hC dX0_countUnderstood_28 (by decide) (by omega) (fun h28 => ?_) (fun h28 => ?_)
    · refine j_iinc hC dX0_countUnderstood_34 0 [(3, vI (z + 1)), (2, vI (a)), (0, .ref (gd g (4 + b))), (1, .ref (gd g (4 + e)))] rfl (by decide) rfl ?_
      refine j_goto (tgt := 4) hC dX0_countUnderstood_37 (by decide) ?_
      refine j_sub [0, 1, 2, 3] rfl ?_
      first | (rw [if_pos (show unC σ b e z = true from decide_eq_true h28)]; exact ih (z + 1) (a + 1) (by omega) (by omega)) | (rw [if_neg (show ¬ (unC σ b e z = true) from fun q => h28 (of_decide_eq_true q))]; exact ih (z + 1) a (by omega) (by omega))
    · refine j_iinc hC dX0_countUnderstood_31 1 [(2, vI (a + 1)), (3, vI (z)), (0, .ref (gd g (4 + b))), (1, .ref (gd g (4 + e)))] rfl (by decide) rfl ?_
      refine j_iinc hC dX0_countUnderstood_34 1 [(3, vI (z + 1)), (2, vI (a + 1)), (0, .ref (gd g (4 + b))), (1, .ref (gd g (4 + e)))] rfl (by decide) rfl ?_
      refine j_goto (tgt := 4) hC dX0_countUnderstood_37 (by decide) ?_
      refine j_sub [0, 1, 2, 3] rfl ?_
      first | (rw [if_pos (show unC σ b e z = true from decide_eq_true h28)]; exact ih (z + 1) (a + 1) (by omega) (by omega)) | (rw [if_neg (show ¬ (unC σ b e z = true) from fun q => h28 (of_decide_eq_true q))]; exact ih (z + 1) a (by omega) (by omega))
set_option maxHeartbeats 4000000 in
set_option maxRecDepth 100000 in
theorem c_X0_countUnderstood {l : Launch} (hl : l.stackTraces = false) (g : GG) (σ : Sg) (hI : IC σ) {b : Nat} (hb : b < 5) {e : Nat} (he : e < 5) : CN l yX0_countUnderstood cX0_countUnderstood 4 (some .int) 4 96 0 0 g [.ref (gd g (4 + b)), .ref (gd g (4 + e))] σ (pt (some (vI (cuB σ b e))) (σ)) := by
  refine CN_of (own := RX0) hl (by decide) rfl (Nat.le_of_ble_eq_true rfl) (fun mc hC _ hR => ?_)
  refine j_lv (lv2 := [(0, .ref (gd g (4 + b))), (1, .ref (gd g (4 + e)))]) rfl ?_
  have hn2 := cN_eq hI he
  refine j_iconst hC dX0_countUnderstood_0 ?_
  refine j_istore_n hC dX0_countUnderstood_1 [(2, vI (0)), (0, .ref (gd g (4 + b))), (1, .ref (gd g (4 + e)))] (by decide) rfl ?_
  refine j_iconst hC dX0_countUnderstood_2 ?_
  refine j_istore_n hC dX0_countUnderstood_3 [(3, vI (0)), (2, vI (0)), (0, .ref (gd g (4 + b))), (1, .ref (gd g (4 + e)))] (by decide) rfl ?_
  refine j_sub [0, 1, 2, 3] rfl ?_
  exact lp_countUnderstood hC hR hI hb he (cN σ e) 0 0 (by omega) (by omega)
set_option maxHeartbeats 4000000 in
set_option maxRecDepth 100000 in
theorem lp_countMisread {mc : MC} {g : GG} {σ : Sg} (hC : Cx mc g cX0_countMisread RX0 5 (some .int)) (hR : mR mc = rmJ 4 96 0 0) (hI : IC σ) {b : Nat} (hb : b < 5) {e : Nat} (he : e < 5) : ∀ (d : Nat) (z : Int) (a : Int), (0 ≤ z) → (z + (d : Int) = σ.1 (2 + e)) → J mc g 0 0 (QN mc g (pt (some (vI (cnt (miC σ b e) d z a))) (σ)) 0 0) 4 [(3, vI (z)), (2, vI (a)), (0, .ref (gd g (4 + b))), (1, .ref (gd g (4 + e)))] [] σ := by
  intro d
  induction d with
  | zero =>
    intro z a h0 hz
    have hn := hI.2.2.2.1 b hb
    have hne := hI.2.2.2.1 e he
    refine j_iload_n hC dX0_countMisread_4 0 rfl ?_
    refine j_aload_n hC dX0_countMisread_5 3 rfl ?_
    refine j_get hC inX0 rfl (4 + e) (hw_bk g _ he) 3 (by decide) wd49 rfl dX0_countMisread_6 ?_
    refine j_icmp_ge (tgt := 50) hC dX0_countMisread_9 (by decide) (by omega) (fun _ => ?_) (fun h => absurd h (by omega))
    refine j_iload_n hC dX0_countMisread_50 1 rfl ?_
    exact j_iret hC dX0_countMisread_51 ⟨rfl, rfl⟩
  | succ d ih =>
    intro z a h0 hz
    have hn := hI.2.2.2.1 b hb
    have hne := hI.2.2.2.1 e he
    have hk := hI.2.2.2.2.1 e he z (by omega) (by omega)
    have hm := hI.2.2.2.2.2 e he z (by omega) (by omega)
    rw [show cnt (miC σ b e) (d + 1) z a = cnt (miC σ b e) d (z + 1) (if miC σ b e z = true then a + 1 else a) from rfl]
    refine j_iload_n hC dX0_countMisread_4 0 rfl ?_
    refine j_aload_n hC dX0_countMisread_5 3 rfl ?_
    refine j_get hC inX0 rfl (4 + e) (hw_bk g _ he) 3 (by decide) wd49 rfl dX0_countMisread_6 ?_
    refine j_icmp_ge (tgt := 50) hC dX0_countMisread_9 (by decide) (by omega) (fun h => absurd h (by omega)) (fun _ => ?_)
    refine j_aload_n hC dX0_countMisread_12 2 rfl ?_
    refine j_aload_n hC dX0_countMisread_13 3 rfl ?_
    refine j_get hC inX0 rfl (4 + e) (hw_bk g _ he) 1 (by decide) wd45 rfl dX0_countMisread_14 ?_
    refine j_iload_n hC dX0_countMisread_17 0 rfl ?_
    refine j_iald hC (9 + e) (hw_lk g _ he) (by omega) dX0_countMisread_18 ?_
    refine j_callV1 (ar := 1) hC hR (c_X0_meaningRead (hlJ hC) g σ hI hb ((σ).2 (1 + e) z) (by omega)) [] rfl (4 + b) (hw_bk g _ hb) rfl rfl (by decide) (by decide +kernel) rfl wd313 wd303 wp15 wd3 wd304 (by decide) (Nat.le_of_ble_eq_true rfl) dX0_countMisread_19 ?_
    have hf19 := mrB_rg hI hb ((σ).2 (1 + e) z)
    refine j_istore hC dX0_countMisread_22 [(4, vI (mrB σ b ((σ).2 (1 + e) z))), (3, vI (z)), (2, vI (a)), (0, .ref (gd g (4 + b))), (1, .ref (gd g (4 + e)))] (by decide) rfl ?_
    refine j_iload hC dX0_countMisread_24 0 rfl ?_
    refine j_iconst hC dX0_countMisread_26 ?_
    refine j_icmp_eq (tgt := 44) hC dX0_countMisread_27 (by decide) (by omega) (fun h27 => ?_) (fun h27 => ?_)
    · refine j_iinc hC dX0_countMisread_44 1 [(3, vI (z + 1)), (4, vI (mrB σ b ((σ).2 (1 + e) z))), (2, vI (a)), (0, .ref (gd g (4 + b))), (1, .ref (gd g (4 + e)))] rfl (by decide) rfl ?_
      refine j_goto (tgt := 4) hC dX0_countMisread_47 (by decide) ?_
      refine j_sub [0, 2, 3, 4] rfl ?_
      first | (rw [if_pos (show miC σ b e z = true from decide_eq_true ⟨h27, h38⟩)]; exact ih (z + 1) (a + 1) (by omega) (by omega)) | (rw [if_neg (show ¬ (miC σ b e z = true) from fun q => (of_decide_eq_true q).1 h27)]; exact ih (z + 1) a (by omega) (by omega)) | (rw [if_neg (show ¬ (miC σ b e z = true) from fun q => (of_decide_eq_true q).2 h38)]; exact ih (z + 1) a (by omega) (by omega))
    · refine j_iload hC dX0_countMisread_30 0 rfl ?_
      refine j_aload_n hC dX0_countMisread_32 4 rfl ?_
      refine j_get hC inX0 rfl (4 + e) (hw_bk g _ he) 2 (by decide) wd47 rfl dX0_countMisread_33 ?_
      refine j_iload_n hC dX0_countMisread_36 1 rfl ?_
      refine j_iald hC (14 + e) (hw_mn g _ he) (by omega) dX0_countMisread_37 ?_
      refine j_icmp_eq (tgt := 44) hC dX0_countMisread_38 (by decide) (by omega) (fun h38 => ?_) (fun h38 => ?_)
      · refine j_iinc hC dX0_countMisread_44 1 [(3, vI (z + 1)), (4, vI (mrB σ b ((σ).2 (1 + e) z))), (2, vI (a)), (0, .ref (gd g (4 + b))), (1, .ref (gd g (4 + e)))] rfl (by decide) rfl ?_
        refine j_goto (tgt := 4) hC dX0_countMisread_47 (by decide) ?_
        refine j_sub [0, 2, 3, 4] rfl ?_
        first | (rw [if_pos (show miC σ b e z = true from decide_eq_true ⟨h27, h38⟩)]; exact ih (z + 1) (a + 1) (by omega) (by omega)) | (rw [if_neg (show ¬ (miC σ b e z = true) from fun q => (of_decide_eq_true q).1 h27)]; exact ih (z + 1) a (by omega) (by omega)) | (rw [if_neg (show ¬ (miC σ b e z = true) from fun q => (of_decide_eq_true q).2 h38)]; exact ih (z + 1) a (by omega) (by omega))
      · refine j_iinc hC dX0_countMisread_41 2 [(2, vI (a + 1)), (4, vI (mrB σ b ((σ).2 (1 + e) z))), (3, vI (z)), (0, .ref (gd g (4 + b))), (1, .ref (gd g (4 + e)))] rfl (by decide) rfl ?_
        refine j_iinc hC dX0_countMisread_44 2 [(3, vI (z + 1)), (2, vI (a + 1)), (4, vI (mrB σ b ((σ).2 (1 + e) z))), (0, .ref (gd g (4 + b))), (1, .ref (gd g (4 + e)))] rfl (by decide) rfl ?_
        refine j_goto (tgt := 4) hC dX0_countMisread_47 (by decide) ?_
        refine j_sub [0, 1, 3, 4] rfl ?_
        first | (rw [if_pos (show miC σ b e z = true from decide_eq_true ⟨h27, h38⟩)]; exact ih (z + 1) (a + 1) (by omega) (by omega)) | (rw [if_neg (show ¬ (miC σ b e z = true) from fun q => (of_decide_eq_true q).1 h27)]; exact ih (z + 1) a (by omega) (by omega)) | (rw [if_neg (show ¬ (miC σ b e z = true) from fun q => (of_decide_eq_true q).2 h38)]; exact ih (z + 1) a (by omega) (by omega))
set_option maxHeartbeats 4000000 in
set_option maxRecDepth 100000 in
theorem c_X0_countMisread {l : Launch} (hl : l.stackTraces = false) (g : GG) (σ : Sg) (hI : IC σ) {b : Nat} (hb : b < 5) {e : Nat} (he : e < 5) : CN l yX0_countMisread cX0_countMisread 5 (some .int) 4 96 0 0 g [.ref (gd g (4 + b)), .ref (gd g (4 + e))] σ (pt (some (vI (cmB σ b e))) (σ)) := by
  refine CN_of (own := RX0) hl (by decide) rfl (Nat.le_of_ble_eq_true rfl) (fun mc hC _ hR => ?_)
  refine j_lv (lv2 := [(0, .ref (gd g (4 + b))), (1, .ref (gd g (4 + e)))]) rfl ?_
  have hn2 := cN_eq hI he
  refine j_iconst hC dX0_countMisread_0 ?_
  refine j_istore_n hC dX0_countMisread_1 [(2, vI (0)), (0, .ref (gd g (4 + b))), (1, .ref (gd g (4 + e)))] (by decide) rfl ?_
  refine j_iconst hC dX0_countMisread_2 ?_
  refine j_istore_n hC dX0_countMisread_3 [(3, vI (0)), (2, vI (0)), (0, .ref (gd g (4 + b))), (1, .ref (gd g (4 + e)))] (by decide) rfl ?_
  refine j_sub [0, 1, 2, 3] rfl ?_
  exact lp_countMisread hC hR hI hb he (cN σ e) 0 0 (by omega) (by omega)
set_option maxHeartbeats 4000000 in
set_option maxRecDepth 100000 in
theorem lp_countCommon {mc : MC} {g : GG} {σ : Sg} (hC : Cx mc g cX0_countCommon RX0 6 (some .int)) (hR : mR mc = rmJ 4 96 0 0) (hI : IC σ) {b : Nat} (hb : b < 5) {e : Nat} (he : e < 5) : ∀ (d : Nat) (z : Int) (a : Int), (0 ≤ z) → (z + (d : Int) = σ.1 (2 + b)) → J mc g 0 0 (QN mc g (pt (some (vI (cnt (coC σ b e) d z a))) (σ)) 0 0) 4 [(3, vI (z)), (2, vI (a)), (0, .ref (gd g (4 + b))), (1, .ref (gd g (4 + e)))] [] σ := by
  intro d
  induction d with
  | zero =>
    intro z a h0 hz
    have hn := hI.2.2.2.1 b hb
    have hne := hI.2.2.2.1 e he
    refine j_iload_n hC dX0_countCommon_4 0 rfl ?_
    refine j_aload_n hC dX0_countCommon_5 2 rfl ?_
    refine j_get hC inX0 rfl (4 + b) (hw_bk g _ hb) 3 (by decide) wd49 rfl dX0_countCommon_6 ?_
    refine j_icmp_ge (tgt := 74) hC dX0_countCommon_9 (by decide) (by omega) (fun _ => ?_) (fun h => absurd h (by omega))
    refine j_iload_n hC dX0_countCommon_74 1 rfl ?_
    exact j_iret hC dX0_countCommon_75 ⟨rfl, rfl⟩
  | succ d ih =>
    intro z a h0 hz
    have hn := hI.2.2.2.1 b hb
    have hne := hI.2.2.2.1 e he
    have hk := hI.2.2.2.2.1 b hb z (by omega) (by omega)
    have hm := hI.2.2.2.2.2 b hb z (by omega) (by omega)
    have hfe := findB_rg hI he (σ.2 (6 + b) z)
    have hk2 := fun (h : 0 ≤ findB σ e (σ.2 (6 + b) z)) => hI.2.2.2.2.1 e he (findB σ e (σ.2 (6 + b) z)) h (by omega)
    rw [show cnt (coC σ b e) (d + 1) z a = cnt (coC σ b e) d (z + 1) (if coC σ b e z = true then a + 1 else a) from rfl]
    refine j_iload_n hC dX0_countCommon_4 0 rfl ?_
    refine j_aload_n hC dX0_countCommon_5 2 rfl ?_
    refine j_get hC inX0 rfl (4 + b) (hw_bk g _ hb) 3 (by decide) wd49 rfl dX0_countCommon_6 ?_
    refine j_icmp_ge (tgt := 74) hC dX0_countCommon_9 (by decide) (by omega) (fun h => absurd h (by omega)) (fun _ => ?_)
    refine j_aload_n hC dX0_countCommon_12 2 rfl ?_
    refine j_get hC inX0 rfl (4 + b) (hw_bk g _ hb) 2 (by decide) wd47 rfl dX0_countCommon_13 ?_
    refine j_iload_n hC dX0_countCommon_16 0 rfl ?_
    refine j_iald hC (14 + b) (hw_mn g _ hb) (by omega) dX0_countCommon_17 ?_
    refine j_istore hC dX0_countCommon_18 [(4, vI ((σ).2 (6 + b) z)), (3, vI (z)), (2, vI (a)), (0, .ref (gd g (4 + b))), (1, .ref (gd g (4 + e)))] (by decide) rfl ?_
    refine j_aload_n hC dX0_countCommon_20 4 rfl ?_
    refine j_iload hC dX0_countCommon_21 0 rfl ?_
    refine j_callV1 (ar := 1) hC hR (c_X0_find (hlJ hC) g σ hI he ((σ).2 (6 + b) z) (by omega)) [] rfl (4 + e) (hw_bk g _ he) rfl rfl (by decide) (by decide +kernel) rfl wd330 wd218 wp6 wd3 wd219 (by decide) (Nat.le_of_ble_eq_true rfl) dX0_countCommon_23 ?_
    have hf23 := findB_rg hI he ((σ).2 (6 + b) z)
    refine j_istore hC dX0_countCommon_26 [(5, vI (findB σ e ((σ).2 (6 + b) z))), (4, vI ((σ).2 (6 + b) z)), (3, vI (z)), (2, vI (a)), (0, .ref (gd g (4 + b))), (1, .ref (gd g (4 + e)))] (by decide) rfl ?_
    refine j_iload hC dX0_countCommon_28 0 rfl ?_
    refine j_iconst hC dX0_countCommon_30 ?_
    refine j_icmp_eq (tgt := 68) hC dX0_countCommon_31 (by decide) (by omega) (fun h31 => ?_) (fun h31 => ?_)
    · refine j_iinc hC dX0_countCommon_68 2 [(3, vI (z + 1)), (5, vI (findB σ e ((σ).2 (6 + b) z))), (4, vI ((σ).2 (6 + b) z)), (2, vI (a)), (0, .ref (gd g (4 + b))), (1, .ref (gd g (4 + e)))] rfl (by decide) rfl ?_
      refine j_goto (tgt := 4) hC dX0_countCommon_71 (by decide) ?_
      refine j_sub [0, 3, 4, 5] rfl ?_
      first | (rw [if_pos (show coC σ b e z = true from decide_eq_true ⟨h31, h46, h62⟩)]; exact ih (z + 1) (a + 1) (by omega) (by omega)) | (rw [if_neg (show ¬ (coC σ b e z = true) from fun q => (of_decide_eq_true q).1 h31)]; exact ih (z + 1) a (by omega) (by omega)) | (rw [if_neg (show ¬ (coC σ b e z = true) from fun q => h46 (of_decide_eq_true q).2.1)]; exact ih (z + 1) a (by omega) (by omega)) | (rw [if_neg (show ¬ (coC σ b e z = true) from fun q => h62 (of_decide_eq_true q).2.2)]; exact ih (z + 1) a (by omega) (by omega))
    · refine j_aload_n hC dX0_countCommon_34 5 rfl ?_
      refine j_aload_n hC dX0_countCommon_35 4 rfl ?_
      refine j_get hC inX0 rfl (4 + b) (hw_bk g _ hb) 1 (by decide) wd45 rfl dX0_countCommon_36 ?_
      refine j_iload_n hC dX0_countCommon_39 2 rfl ?_
      refine j_iald hC (9 + b) (hw_lk g _ hb) (by omega) dX0_countCommon_40 ?_
      refine j_callV1 (ar := 1) hC hR (c_X0_meaningRead (hlJ hC) g σ hI he ((σ).2 (1 + b) z) (by omega)) [] rfl (4 + e) (hw_bk g _ he) rfl rfl (by decide) (by decide +kernel) rfl wd313 wd303 wp15 wd3 wd304 (by decide) (Nat.le_of_ble_eq_true rfl) dX0_countCommon_41 ?_
      have hf41 := mrB_rg hI he ((σ).2 (1 + b) z)
      refine j_iload hC dX0_countCommon_44 1 rfl ?_
      refine j_icmp_ne (tgt := 68) hC dX0_countCommon_46 (by decide) (by omega) (fun h46 => ?_) (fun h46 => ?_)
      · refine j_iinc hC dX0_countCommon_68 2 [(3, vI (z + 1)), (5, vI (findB σ e ((σ).2 (6 + b) z))), (4, vI ((σ).2 (6 + b) z)), (2, vI (a)), (0, .ref (gd g (4 + b))), (1, .ref (gd g (4 + e)))] rfl (by decide) rfl ?_
        refine j_goto (tgt := 4) hC dX0_countCommon_71 (by decide) ?_
        refine j_sub [0, 3, 4, 5] rfl ?_
        first | (rw [if_pos (show coC σ b e z = true from decide_eq_true ⟨h31, h46, h62⟩)]; exact ih (z + 1) (a + 1) (by omega) (by omega)) | (rw [if_neg (show ¬ (coC σ b e z = true) from fun q => (of_decide_eq_true q).1 h31)]; exact ih (z + 1) a (by omega) (by omega)) | (rw [if_neg (show ¬ (coC σ b e z = true) from fun q => h46 (of_decide_eq_true q).2.1)]; exact ih (z + 1) a (by omega) (by omega)) | (rw [if_neg (show ¬ (coC σ b e z = true) from fun q => h62 (of_decide_eq_true q).2.2)]; exact ih (z + 1) a (by omega) (by omega))
      · refine j_aload_n hC dX0_countCommon_49 4 rfl ?_
        refine j_aload_n hC dX0_countCommon_50 5 rfl ?_
        refine j_get hC inX0 rfl (4 + e) (hw_bk g _ he) 1 (by decide) wd45 rfl dX0_countCommon_51 ?_
        refine j_iload hC dX0_countCommon_54 0 rfl ?_
        refine j_iald hC (9 + e) (hw_lk g _ he) (by omega) dX0_countCommon_56 ?_
        refine j_callV1 (ar := 1) hC hR (c_X0_meaningRead (hlJ hC) g σ hI hb ((σ).2 (1 + e) (findB σ e ((σ).2 (6 + b) z))) (by omega)) [] rfl (4 + b) (hw_bk g _ hb) rfl rfl (by decide) (by decide +kernel) rfl wd313 wd303 wp15 wd3 wd304 (by decide) (Nat.le_of_ble_eq_true rfl) dX0_countCommon_57 ?_
        have hf57 := mrB_rg hI hb ((σ).2 (1 + e) (findB σ e ((σ).2 (6 + b) z)))
        refine j_iload hC dX0_countCommon_60 1 rfl ?_
        refine j_icmp_ne (tgt := 68) hC dX0_countCommon_62 (by decide) (by omega) (fun h62 => ?_) (fun h62 => ?_)
        · refine j_iinc hC dX0_countCommon_68 2 [(3, vI (z + 1)), (5, vI (findB σ e ((σ).2 (6 + b) z))), (4, vI ((σ).2 (6 + b) z)), (2, vI (a)), (0, .ref (gd g (4 + b))), (1, .ref (gd g (4 + e)))] rfl (by decide) rfl ?_
          refine j_goto (tgt := 4) hC dX0_countCommon_71 (by decide) ?_
          refine j_sub [0, 3, 4, 5] rfl ?_
          first | (rw [if_pos (show coC σ b e z = true from decide_eq_true ⟨h31, h46, h62⟩)]; exact ih (z + 1) (a + 1) (by omega) (by omega)) | (rw [if_neg (show ¬ (coC σ b e z = true) from fun q => (of_decide_eq_true q).1 h31)]; exact ih (z + 1) a (by omega) (by omega)) | (rw [if_neg (show ¬ (coC σ b e z = true) from fun q => h46 (of_decide_eq_true q).2.1)]; exact ih (z + 1) a (by omega) (by omega)) | (rw [if_neg (show ¬ (coC σ b e z = true) from fun q => h62 (of_decide_eq_true q).2.2)]; exact ih (z + 1) a (by omega) (by omega))
        · refine j_iinc hC dX0_countCommon_65 3 [(2, vI (a + 1)), (5, vI (findB σ e ((σ).2 (6 + b) z))), (4, vI ((σ).2 (6 + b) z)), (3, vI (z)), (0, .ref (gd g (4 + b))), (1, .ref (gd g (4 + e)))] rfl (by decide) rfl ?_
          refine j_iinc hC dX0_countCommon_68 3 [(3, vI (z + 1)), (2, vI (a + 1)), (5, vI (findB σ e ((σ).2 (6 + b) z))), (4, vI ((σ).2 (6 + b) z)), (0, .ref (gd g (4 + b))), (1, .ref (gd g (4 + e)))] rfl (by decide) rfl ?_
          refine j_goto (tgt := 4) hC dX0_countCommon_71 (by decide) ?_
          refine j_sub [0, 1, 4, 5] rfl ?_
          first | (rw [if_pos (show coC σ b e z = true from decide_eq_true ⟨h31, h46, h62⟩)]; exact ih (z + 1) (a + 1) (by omega) (by omega)) | (rw [if_neg (show ¬ (coC σ b e z = true) from fun q => (of_decide_eq_true q).1 h31)]; exact ih (z + 1) a (by omega) (by omega)) | (rw [if_neg (show ¬ (coC σ b e z = true) from fun q => h46 (of_decide_eq_true q).2.1)]; exact ih (z + 1) a (by omega) (by omega)) | (rw [if_neg (show ¬ (coC σ b e z = true) from fun q => h62 (of_decide_eq_true q).2.2)]; exact ih (z + 1) a (by omega) (by omega))
set_option maxHeartbeats 4000000 in
set_option maxRecDepth 100000 in
theorem c_X0_countCommon {l : Launch} (hl : l.stackTraces = false) (g : GG) (σ : Sg) (hI : IC σ) {b : Nat} (hb : b < 5) {e : Nat} (he : e < 5) : CN l yX0_countCommon cX0_countCommon 6 (some .int) 4 96 0 0 g [.ref (gd g (4 + b)), .ref (gd g (4 + e))] σ (pt (some (vI (ccB σ b e))) (σ)) := by
  refine CN_of (own := RX0) hl (by decide) rfl (Nat.le_of_ble_eq_true rfl) (fun mc hC _ hR => ?_)
  refine j_lv (lv2 := [(0, .ref (gd g (4 + b))), (1, .ref (gd g (4 + e)))]) rfl ?_
  have hn2 := cN_eq hI hb
  refine j_iconst hC dX0_countCommon_0 ?_
  refine j_istore_n hC dX0_countCommon_1 [(2, vI (0)), (0, .ref (gd g (4 + b))), (1, .ref (gd g (4 + e)))] (by decide) rfl ?_
  refine j_iconst hC dX0_countCommon_2 ?_
  refine j_istore_n hC dX0_countCommon_3 [(3, vI (0)), (2, vI (0)), (0, .ref (gd g (4 + b))), (1, .ref (gd g (4 + e)))] (by decide) rfl ?_
  refine j_sub [0, 1, 2, 3] rfl ?_
  exact lp_countCommon hC hR hI hb he (cN σ b) 0 0 (by omega) (by omega)
end
section
/-- the row a becomes f -/
def sR (σ : Sg) (a : Nat) (f : Int → Int) : Sg := (σ.1, fun c => if c = a then f else σ.2 c)
def cpy16 (f h : Int → Int) : Int → Int := fun j => if 0 ≤ j ∧ j < 16 then f j else h j
def cpy9 (f h : Int → Int) : Int → Int := fun j => if 0 ≤ j ∧ j < 9 then f j else h j
theorem hsR_lk (g : GG) (σ : Sg) {b : Nat} (hb : b < 5) (f : Int → Int) : (hw g σ).set (9 + b) (gd g (9 + b), ri g f 16) = hw g (sR σ (1 + b) f) := by
  rcases (show b = 0 ∨ b = 1 ∨ b = 2 ∨ b = 3 ∨ b = 4 by omega) with rfl | rfl | rfl | rfl | rfl <;> rfl
theorem hsR_mn (g : GG) (σ : Sg) {b : Nat} (hb : b < 5) (f : Int → Int) : (hw g σ).set (14 + b) (gd g (14 + b), ri g f 16) = hw g (sR σ (6 + b) f) := by
  rcases (show b = 0 ∨ b = 1 ∨ b = 2 ∨ b = 3 ∨ b = 4 by omega) with rfl | rfl | rfl | rfl | rfl <;> rfl
/-! what writes -/
def apB (σ : Sg) (b : Nat) (L m : Int) : Sg := sF (sG (sG σ (1 + b) (σ.1 (2 + b)) L) (6 + b) (σ.1 (2 + b)) m) (2 + b) (σ.1 (2 + b) + 1)
def rmS (b : Nat) (z : Int) (τ : Sg) : Sg := sG (sG τ (1 + b) (z - 1) (τ.2 (1 + b) z)) (6 + b) (z - 1) ((sG τ (1 + b) (z - 1) (τ.2 (1 + b) z)).2 (6 + b) z)
def rmF (b : Nat) : Nat → Int → Sg → Sg
  | 0, _, τ => τ
  | d + 1, z, τ => rmF b d (z + 1) (rmS b z τ)
def rmB (σ : Sg) (b : Nat) (s : Int) : Sg := sF (rmF b (cN σ b - s.toNat - 1) (s + 1) σ) (2 + b) (σ.1 (2 + b) - 1)
def cpB (σ : Sg) (b e : Nat) : Sg := sF (sR (sR σ (1 + b) (fun j => if 0 ≤ j ∧ j < (16 : Nat) then σ.2 (1 + e) j else σ.2 (1 + b) j)) (6 + b) (fun j => if 0 ≤ j ∧ j < (16 : Nat) then (sR σ (1 + b) (fun j => if 0 ≤ j ∧ j < (16 : Nat) then σ.2 (1 + e) j else σ.2 (1 + b) j)).2 (6 + e) j else (sR σ (1 + b) (fun j => if 0 ≤ j ∧ j < (16 : Nat) then σ.2 (1 + e) j else σ.2 (1 + b) j)).2 (6 + b) j)) (2 + b) (σ.1 (2 + e))
def unF (x y : Int) : Nat → Int → Sg → Sg
  | 0, _, τ => τ
  | d + 1, z, τ => unF x y d (z + 1) (if τ.2 0 z = y then sG τ 0 z x else τ)
def unP (σ : Sg) (a b : Int) : Sg := if σ.2 0 a = σ.2 0 b then σ else sF (unF (σ.2 0 a) (σ.2 0 b) 9 0 σ) 1 (σ.1 1 - 1)
theorem rmF_1 (b : Nat) : ∀ (d : Nat) (z : Int) (τ : Sg), (rmF b d z τ).1 = τ.1 := by
  intro d
  induction d with
  | zero => intro z τ; rfl
  | succ d ih => intro z τ; exact (ih (z + 1) (rmS b z τ)).trans rfl
theorem unF_1 (x y : Int) : ∀ (d : Nat) (z : Int) (τ : Sg), (unF x y d z τ).1 = τ.1 := by
  intro d
  induction d with
  | zero => intro z τ; rfl
  | succ d ih =>
    intro z τ
    refine (ih (z + 1) _).trans ?_
    split <;> rfl
theorem unF_rg (x y : Int) (hx : 0 ≤ x ∧ x < 9) : ∀ (d : Nat) (z : Int) (τ : Sg), (∀ j : Int, 0 ≤ j → j < 9 → 0 ≤ τ.2 0 j ∧ τ.2 0 j < 9) → ∀ j : Int, 0 ≤ j → j < 9 → 0 ≤ (unF x y d z τ).2 0 j ∧ (unF x y d z τ).2 0 j < 9 := by
  intro d
  induction d with
  | zero => intro z τ h; exact h
  | succ d ih =>
    intro z τ h
    refine ih (z + 1) _ (fun j h0 h1 => ?_)
    split
    · show 0 ≤ (if j = z then x else τ.2 0 j) ∧ (if j = z then x else τ.2 0 j) < 9
      split
      · exact hx
      · exact h j h0 h1
    · exact h j h0 h1
set_option maxHeartbeats 4000000 in
set_option maxRecDepth 100000 in
theorem c_X0_append {l : Launch} (hl : l.stackTraces = false) (g : GG) (σ : Sg) {b : Nat} (hb : b < 5) (x m : Int) (hn : 0 ≤ σ.1 (2 + b) ∧ σ.1 (2 + b) < 16) : CN l yX0_append cX0_append 4 (some .int) 0 0 0 0 g [.ref (gd g (4 + b)), vI (x), vI (m)] σ (pt (some (vI (σ.1 (2 + b)))) (apB σ b x m)) := by
  refine CN_of (own := RX0) hl (by decide) rfl (Nat.le_of_ble_eq_true rfl) (fun mc hC _ hR => ?_)
  refine j_lv (lv2 := [(0, .ref (gd g (4 + b))), (1, vI (x)), (2, vI (m))]) rfl ?_
  refine j_aload_n hC dX0_append_0 0 rfl ?_
  refine j_get hC inX0 rfl (4 + b) (hw_bk g _ hb) 3 (by decide) wd49 rfl dX0_append_1 ?_
  refine j_istore_n hC dX0_append_4 [(3, vI ((σ).1 (2 + b))), (0, .ref (gd g (4 + b))), (1, vI (x)), (2, vI (m))] (by decide) rfl ?_
  refine j_iload_n hC dX0_append_5 0 rfl ?_
  refine j_bipush hC dX0_append_6 (by decide) ?_
  refine j_icmp_lt (tgt := 13) hC dX0_append_8 (by decide) (by omega) (fun _ => ?_) (fun h => absurd h (by omega))
  refine j_aload_n hC dX0_append_13 1 rfl ?_
  refine j_get hC inX0 rfl (4 + b) (hw_bk g _ hb) 1 (by decide) wd45 rfl dX0_append_14 ?_
  refine j_iload_n hC dX0_append_17 0 rfl ?_
  refine j_iload_n hC dX0_append_18 2 rfl ?_
  refine j_iast (τ := sG (σ) (1 + b) ((σ).1 (2 + b)) (x)) hC (9 + b) (hw_lk g _ hb) (hs_lk g _ hb _ _) (by omega) dX0_append_19 ?_
  refine j_aload_n hC dX0_append_20 1 rfl ?_
  refine j_get hC inX0 rfl (4 + b) (hw_bk g _ hb) 2 (by decide) wd47 rfl dX0_append_21 ?_
  refine j_iload_n hC dX0_append_24 0 rfl ?_
  refine j_iload_n hC dX0_append_25 3 rfl ?_
  refine j_iast (τ := sG (sG (σ) (1 + b) ((σ).1 (2 + b)) (x)) (6 + b) ((σ).1 (2 + b)) (m)) hC (14 + b) (hw_mn g _ hb) (hs_mn g _ hb _ _) (by omega) dX0_append_26 ?_
  refine j_aload_n hC dX0_append_27 1 rfl ?_
  refine j_dup hC dX0_append_28 rfl ?_
  refine j_get hC inX0 rfl (4 + b) (hw_bk g _ hb) 3 (by decide) wd49 rfl dX0_append_29 ?_
  refine j_iconst hC dX0_append_32 ?_
  refine j_iadd hC dX0_append_33 ?_
  refine j_put (τ := sF (sG (sG (σ) (1 + b) ((σ).1 (2 + b)) (x)) (6 + b) ((σ).1 (2 + b)) (m)) (2 + b) (((sG (sG (σ) (1 + b) ((σ).1 (2 + b)) (x)) (6 + b) ((σ).1 (2 + b)) (m)).1 (2 + b)) + 1)) hC inX0 tyX0_ok nmX0 rfl (4 + b) (hw_bk g _ hb) 3 (by decide) wd49 rfl rfl (Nat.le_of_ble_eq_true rfl) (hs_cnt g _ hb _) dX0_append_34 ?_
  refine j_iload_n hC dX0_append_37 0 rfl ?_
  exact j_iret hC dX0_append_38 ⟨rfl, rfl⟩
set_option maxHeartbeats 4000000 in
set_option maxRecDepth 100000 in
theorem lp_remove {mc : MC} {g : GG} (hC : Cx mc g cX0_remove RX0 4 (some .int)) (hR : mR mc = rmJ 0 0 0 0) {b : Nat} (hb : b < 5) (s m : Int) : ∀ (d : Nat) (τ : Sg) (z : Int), (1 ≤ z) → (z + (d : Int) = τ.1 (2 + b)) → (τ.1 (2 + b) ≤ 16) → J mc g 0 0 (QN mc g (pt (some (vI m)) (sF (rmF b d z τ) (2 + b) (τ.1 (2 + b) - 1))) 0 0) 11 [(3, vI (z)), (2, vI (m)), (0, .ref (gd g (4 + b))), (1, vI (s))] [] τ := by
  intro d
  induction d with
  | zero =>
    intro τ z h0 hz hn
    refine j_iload_n hC dX0_remove_11 0 rfl ?_
    refine j_aload_n hC dX0_remove_12 2 rfl ?_
    refine j_get hC inX0 rfl (4 + b) (hw_bk g _ hb) 3 (by decide) wd49 rfl dX0_remove_13 ?_
    refine j_icmp_ge (tgt := 53) hC dX0_remove_16 (by decide) (by omega) (fun _ => ?_) (fun h => absurd h (by omega))
    refine j_aload_n hC dX0_remove_53 2 rfl ?_
    refine j_dup hC dX0_remove_54 rfl ?_
    refine j_get hC inX0 rfl (4 + b) (hw_bk g _ hb) 3 (by decide) wd49 rfl dX0_remove_55 ?_
    refine j_iconst hC dX0_remove_58 ?_
    refine j_isub hC dX0_remove_59 ?_
    refine j_put (τ := sF (τ) (2 + b) (((τ).1 (2 + b)) - 1)) hC inX0 tyX0_ok nmX0 rfl (4 + b) (hw_bk g _ hb) 3 (by decide) wd49 rfl rfl (Nat.le_of_ble_eq_true rfl) (hs_cnt g _ hb _) dX0_remove_60 ?_
    refine j_iload_n hC dX0_remove_63 1 rfl ?_
    exact j_iret hC dX0_remove_64 ⟨rfl, rfl⟩
  | succ d ih =>
    intro τ z h0 hz hn
    rw [show rmF b (d + 1) z τ = rmF b d (z + 1) (rmS b z τ) from rfl]
    refine j_iload_n hC dX0_remove_11 0 rfl ?_
    refine j_aload_n hC dX0_remove_12 2 rfl ?_
    refine j_get hC inX0 rfl (4 + b) (hw_bk g _ hb) 3 (by decide) wd49 rfl dX0_remove_13 ?_
    refine j_icmp_ge (tgt := 53) hC dX0_remove_16 (by decide) (by omega) (fun h => absurd h (by omega)) (fun _ => ?_)
    refine j_aload_n hC dX0_remove_19 2 rfl ?_
    refine j_get hC inX0 rfl (4 + b) (hw_bk g _ hb) 1 (by decide) wd45 rfl dX0_remove_20 ?_
    refine j_iload_n hC dX0_remove_23 0 rfl ?_
    refine j_iconst hC dX0_remove_24 ?_
    refine j_isub hC dX0_remove_25 ?_
    refine j_aload_n hC dX0_remove_26 2 rfl ?_
    refine j_get hC inX0 rfl (4 + b) (hw_bk g _ hb) 1 (by decide) wd45 rfl dX0_remove_27 ?_
    refine j_iload_n hC dX0_remove_30 0 rfl ?_
    refine j_iald hC (9 + b) (hw_lk g _ hb) (by omega) dX0_remove_31 ?_
    refine j_iast (τ := sG (τ) (1 + b) (z - 1) ((τ).2 (1 + b) z)) hC (9 + b) (hw_lk g _ hb) (hs_lk g _ hb _ _) (by omega) dX0_remove_32 ?_
    refine j_aload_n hC dX0_remove_33 2 rfl ?_
    refine j_get hC inX0 rfl (4 + b) (hw_bk g _ hb) 2 (by decide) wd47 rfl dX0_remove_34 ?_
    refine j_iload_n hC dX0_remove_37 0 rfl ?_
    refine j_iconst hC dX0_remove_38 ?_
    refine j_isub hC dX0_remove_39 ?_
    refine j_aload_n hC dX0_remove_40 2 rfl ?_
    refine j_get hC inX0 rfl (4 + b) (hw_bk g _ hb) 2 (by decide) wd47 rfl dX0_remove_41 ?_
    refine j_iload_n hC dX0_remove_44 0 rfl ?_
    refine j_iald hC (14 + b) (hw_mn g _ hb) (by omega) dX0_remove_45 ?_
    refine j_iast (τ := sG (sG (τ) (1 + b) (z - 1) ((τ).2 (1 + b) z)) (6 + b) (z - 1) ((sG (τ) (1 + b) (z - 1) ((τ).2 (1 + b) z)).2 (6 + b) z)) hC (14 + b) (hw_mn g _ hb) (hs_mn g _ hb _ _) (by omega) dX0_remove_46 ?_
    refine j_iinc hC dX0_remove_47 0 [(3, vI (z + 1)), (2, vI (m)), (0, .ref (gd g (4 + b))), (1, vI (s))] rfl (by decide) rfl ?_
    refine j_goto (tgt := 11) hC dX0_remove_50 (by decide) ?_
    refine j_sub [0, 1, 2, 3] rfl ?_
    exact ih (rmS b z τ) (z + 1) (by omega) (by show z + 1 + (d : Int) = τ.1 (2 + b); omega) hn
set_option maxHeartbeats 4000000 in
set_option maxRecDepth 100000 in
theorem c_X0_remove {l : Launch} (hl : l.stackTraces = false) (g : GG) (σ : Sg) (hI : IC σ) {b : Nat} (hb : b < 5) (s : Int) (hs : 0 ≤ s ∧ s < σ.1 (2 + b)) : CN l yX0_remove cX0_remove 4 (some .int) 0 0 0 0 g [.ref (gd g (4 + b)), vI (s)] σ (pt (some (vI (σ.2 (6 + b) s))) (rmB σ b s)) := by
  refine CN_of (own := RX0) hl (by decide) rfl (Nat.le_of_ble_eq_true rfl) (fun mc hC _ hR => ?_)
  refine j_lv (lv2 := [(0, .ref (gd g (4 + b))), (1, vI (s))]) rfl ?_
  have hn := hI.2.2.2.1 b hb
  have hn2 := cN_eq hI hb
  refine j_aload_n hC dX0_remove_0 0 rfl ?_
  refine j_get hC inX0 rfl (4 + b) (hw_bk g _ hb) 2 (by decide) wd47 rfl dX0_remove_1 ?_
  refine j_iload_n hC dX0_remove_4 1 rfl ?_
  refine j_iald hC (14 + b) (hw_mn g _ hb) (by omega) dX0_remove_5 ?_
  refine j_istore_n hC dX0_remove_6 [(2, vI ((σ).2 (6 + b) s)), (0, .ref (gd g (4 + b))), (1, vI (s))] (by decide) rfl ?_
  refine j_iload_n hC dX0_remove_7 2 rfl ?_
  refine j_iconst hC dX0_remove_8 ?_
  refine j_iadd hC dX0_remove_9 ?_
  refine j_istore_n hC dX0_remove_10 [(3, vI (s + 1)), (2, vI ((σ).2 (6 + b) s)), (0, .ref (gd g (4 + b))), (1, vI (s))] (by decide) rfl ?_
  refine j_sub [0, 1, 2, 3] rfl ?_
  exact lp_remove hC hR hb s _ (cN σ b - s.toNat - 1) σ (s + 1) (by omega) (by omega) hn.2
set_option maxHeartbeats 4000000 in
set_option maxRecDepth 100000 in
theorem lp_unite {mc : MC} {g : GG} (hC : Cx mc g cX2_unite RX2 6 none) (hR : mR mc = rmJ 0 0 0 0) (a b x y : Int) (hxy : 0 ≤ x ∧ x < 9 ∧ 0 ≤ y ∧ y < 9) : ∀ (d : Nat) (τ : Sg) (z : Int), (0 ≤ z) → (z + (d : Int) = 9) → (∀ j : Int, 0 ≤ j → j < 9 → 0 ≤ τ.2 0 j ∧ τ.2 0 j < 9) → J mc g 0 0 (QN mc g (pt none (sF (unF x y d z τ) 1 (τ.1 1 - 1))) 0 0) 25 [(5, vI (z)), (3, vI (x)), (4, vI (y)), (0, .ref (gd g (1))), (1, vI (a)), (2, vI (b))] [] τ := by
  intro d
  induction d with
  | zero =>
    intro τ z h0 hz hg
    refine j_iload hC dX2_unite_25 0 rfl ?_
    refine j_bipush hC dX2_unite_27 (by decide) ?_
    refine j_icmp_ge (tgt := 58) hC dX2_unite_29 (by decide) (by omega) (fun _ => ?_) (fun h => absurd h (by omega))
    refine j_aload_n hC dX2_unite_58 3 rfl ?_
    refine j_dup hC dX2_unite_59 rfl ?_
    refine j_get hC inX2 rfl 1 rfl 1 (by decide) wd29 rfl dX2_unite_60 ?_
    refine j_iconst hC dX2_unite_63 ?_
    refine j_isub hC dX2_unite_64 ?_
    refine j_put (τ := sF (τ) 1 (((τ).1 1) - 1)) hC inX2 tyX2_ok nmX2 rfl 1 rfl 1 (by decide) wd29 rfl rfl (Nat.le_of_ble_eq_true rfl) rfl dX2_unite_65 ?_
    exact j_vret hC dX2_unite_68 ⟨rfl, rfl⟩
  | succ d ih =>
    intro τ z h0 hz hg
    have hgz := hg z (by omega) (by omega)
    rw [show unF x y (d + 1) z τ = unF x y d (z + 1) (if τ.2 0 z = y then sG τ 0 z x else τ) from rfl]
    refine j_iload hC dX2_unite_25 0 rfl ?_
    refine j_bipush hC dX2_unite_27 (by decide) ?_
    refine j_icmp_ge (tgt := 58) hC dX2_unite_29 (by decide) (by omega) (fun h => absurd h (by omega)) (fun _ => ?_)
    refine j_aload_n hC dX2_unite_32 3 rfl ?_
    refine j_get hC inX2 rfl 1 rfl 0 (by decide) wd28 rfl dX2_unite_33 ?_
    refine j_iload hC dX2_unite_36 0 rfl ?_
    refine j_iald hC 2 rfl (by omega) dX2_unite_38 ?_
    refine j_iload hC dX2_unite_39 2 rfl ?_
    refine j_icmp_ne (tgt := 52) hC dX2_unite_41 (by decide) (by omega) (fun h41 => ?_) (fun h41 => ?_)
    · refine j_iinc hC dX2_unite_52 0 [(5, vI (z + 1)), (3, vI (x)), (4, vI (y)), (0, .ref (gd g (1))), (1, vI (a)), (2, vI (b))] rfl (by decide) rfl ?_
      refine j_goto (tgt := 25) hC dX2_unite_55 (by decide) ?_
      refine j_sub [0, 1, 2, 3, 4, 5] rfl ?_
      first | (rw [if_pos h41]; exact ih (sG τ 0 z x) (z + 1) (by omega) (by omega) (fun j q0 q1 => by show 0 ≤ (if j = z then x else τ.2 0 j) ∧ (if j = z then x else τ.2 0 j) < 9; split; exact ⟨hxy.1, hxy.2.1⟩; exact hg j q0 q1)) | (rw [if_neg h41]; exact ih τ (z + 1) (by omega) (by omega) hg)
    · refine j_aload_n hC dX2_unite_44 3 rfl ?_
      refine j_get hC inX2 rfl 1 rfl 0 (by decide) wd28 rfl dX2_unite_45 ?_
      refine j_iload hC dX2_unite_48 0 rfl ?_
      refine j_iload_n hC dX2_unite_50 1 rfl ?_
      refine j_iast (τ := sG (τ) 0 (z) (x)) hC 2 rfl rfl (by omega) dX2_unite_51 ?_
      refine j_iinc hC dX2_unite_52 0 [(5, vI (z + 1)), (3, vI (x)), (4, vI (y)), (0, .ref (gd g (1))), (1, vI (a)), (2, vI (b))] rfl (by decide) rfl ?_
      refine j_goto (tgt := 25) hC dX2_unite_55 (by decide) ?_
      refine j_sub [0, 1, 2, 3, 4, 5] rfl ?_
      first | (rw [if_pos h41]; exact ih (sG τ 0 z x) (z + 1) (by omega) (by omega) (fun j q0 q1 => by show 0 ≤ (if j = z then x else τ.2 0 j) ∧ (if j = z then x else τ.2 0 j) < 9; split; exact ⟨hxy.1, hxy.2.1⟩; exact hg j q0 q1)) | (rw [if_neg h41]; exact ih τ (z + 1) (by omega) (by omega) hg)
set_option maxHeartbeats 4000000 in
set_option maxRecDepth 100000 in
theorem c_X2_unite {l : Launch} (hl : l.stackTraces = false) (g : GG) (σ : Sg) (hI : IC σ) (a b : Int) (hx : 0 ≤ a ∧ a < 9 ∧ 0 ≤ b ∧ b < 9) : CN l yX2_unite cX2_unite 6 none 0 0 0 0 g [.ref (gd g (1)), vI (a), vI (b)] σ (pt none (unP σ a b)) := by
  refine CN_of (own := RX2) hl (by decide) rfl (Nat.le_of_ble_eq_true rfl) (fun mc hC _ hR => ?_)
  refine j_lv (lv2 := [(0, .ref (gd g (1))), (1, vI (a)), (2, vI (b))]) rfl ?_
  have hg1 := hI.2.2.1 a (by omega) (by omega)
  have hg2 := hI.2.2.1 b (by omega) (by omega)
  refine j_aload_n hC dX2_unite_0 0 rfl ?_
  refine j_get hC inX2 rfl 1 rfl 0 (by decide) wd28 rfl dX2_unite_1 ?_
  refine j_iload_n hC dX2_unite_4 1 rfl ?_
  refine j_iald hC 2 rfl (by omega) dX2_unite_5 ?_
  refine j_istore_n hC dX2_unite_6 [(3, vI ((σ).2 0 a)), (0, .ref (gd g (1))), (1, vI (a)), (2, vI (b))] (by decide) rfl ?_
  refine j_aload_n hC dX2_unite_7 1 rfl ?_
  refine j_get hC inX2 rfl 1 rfl 0 (by decide) wd28 rfl dX2_unite_8 ?_
  refine j_iload_n hC dX2_unite_11 3 rfl ?_
  refine j_iald hC 2 rfl (by omega) dX2_unite_12 ?_
  refine j_istore hC dX2_unite_13 [(4, vI ((σ).2 0 b)), (3, vI ((σ).2 0 a)), (0, .ref (gd g (1))), (1, vI (a)), (2, vI (b))] (by decide) rfl ?_
  refine j_iload_n hC dX2_unite_15 1 rfl ?_
  refine j_iload hC dX2_unite_16 0 rfl ?_
  refine j_icmp_ne (tgt := 22) hC dX2_unite_18 (by decide) (by omega) (fun h18 => ?_) (fun h18 => ?_)
  · refine j_iconst hC dX2_unite_22 ?_
    refine j_istore hC dX2_unite_23 [(5, vI (0)), (4, vI ((σ).2 0 b)), (3, vI ((σ).2 0 a)), (0, .ref (gd g (1))), (1, vI (a)), (2, vI (b))] (by decide) rfl ?_
    refine j_sub [0, 2, 1, 3, 4, 5] rfl ?_
    rw [show unP σ a b = sF (unF (σ.2 0 a) (σ.2 0 b) 9 0 σ) 1 (σ.1 1 - 1) from if_neg h18]
    exact lp_unite hC hR a b _ _ (by omega) 9 σ 0 (by omega) (by omega) hI.2.2.1
  · exact j_vret hC dX2_unite_21 ⟨rfl, by unfold unP; rw [if_pos h18]⟩
end
section
set_option maxHeartbeats 4000000 in
set_option maxRecDepth 100000 in
theorem c_X3_isBelow {l : Launch} (hl : l.stackTraces = false) (g : GG) (σ : Sg) (x y : Int) (hr : -2147483648 ≤ x ∧ x < 2147483648 ∧ -2147483648 ≤ y ∧ y < 2147483648) : CN l yX3_isBelow cX3_isBelow 2 (some .boolean) 0 0 0 0 g [vI (x), vI (y)] σ (pt (some (vI (if 0 ≤ x ∧ x < y then 1 else 0))) (σ)) := by
  refine CN_of (own := RX3) hl (by decide) rfl (Nat.le_of_ble_eq_true rfl) (fun mc hC _ hR => ?_)
  refine j_lv (lv2 := [(0, vI (x)), (1, vI (y))]) rfl ?_
  refine j_iload_n hC dX3_isBelow_0 0 rfl ?_
  refine j_if_lt (tgt := 13) hC dX3_isBelow_1 (by decide) (by omega) (fun h1 => ?_) (fun h1 => ?_)
  · refine j_iconst hC dX3_isBelow_13 ?_
    exact j_zret hC (by decide) dX3_isBelow_14 ⟨by first | rw [if_pos (by omega)] | rw [if_neg (by omega)], rfl⟩
  · refine j_iload_n hC dX3_isBelow_4 0 rfl ?_
    refine j_iload_n hC dX3_isBelow_5 1 rfl ?_
    refine j_icmp_ge (tgt := 13) hC dX3_isBelow_6 (by decide) (by omega) (fun h6 => ?_) (fun h6 => ?_)
    · refine j_iconst hC dX3_isBelow_13 ?_
      exact j_zret hC (by decide) dX3_isBelow_14 ⟨by first | rw [if_pos (by omega)] | rw [if_neg (by omega)], rfl⟩
    · refine j_iconst hC dX3_isBelow_9 ?_
      refine j_goto (tgt := 14) hC dX3_isBelow_10 (by decide) ?_
      exact j_zret hC (by decide) dX3_isBelow_14 ⟨by first | rw [if_pos (by omega)] | rw [if_neg (by omega)], rfl⟩
set_option maxHeartbeats 4000000 in
set_option maxRecDepth 100000 in
theorem c_X3_bookOf {l : Launch} (hl : l.stackTraces = false) (g : GG) (σ : Sg) (hI : IC σ) (a : Int) (ha : 0 ≤ a ∧ a < σ.1 0) : CN l yX3_bookOf cX3_bookOf 2 (some (.object "SignMasons$Book")) 1 24 0 0 g [.ref (gd g (0)), vI (a)] σ (pt (some (.ref (gd g (4 + a.toNat)))) (σ)) := by
  refine CN_of (own := RX3) hl (by decide) rfl (Nat.le_of_ble_eq_true rfl) (fun mc hC _ hR => ?_)
  refine j_lv (lv2 := [(0, .ref (gd g (0))), (1, vI (a))]) rfl ?_
  have hI1 := hI.1
  refine j_iload_n hC dX3_bookOf_0 1 rfl ?_
  refine j_aload_n hC dX3_bookOf_1 0 rfl ?_
  refine j_get hC inX3 rfl 0 rfl 3 (by decide) wd63 rfl dX3_bookOf_2 ?_
  refine j_callS1 (ar := 2) hC hR (c_X3_isBelow (hlJ hC) g σ a ((σ).1 0) (by omega)) [] rfl (by decide) (by decide +kernel) rfl wd80 wd81 wd1 wd82 (by decide) (Nat.le_of_ble_eq_true rfl) dX3_bookOf_5 ?_
  refine j_ifb_ne (tgt := 21) hC dX3_bookOf_8 (by decide) (fun _ => ?_) (fun h => (h (by omega)).elim)
  refine j_aload_n hC dX3_bookOf_21 0 rfl ?_
  refine j_get hC inX3 rfl 0 rfl 1 (by decide) wd61 rfl dX3_bookOf_22 ?_
  refine j_iload_n hC dX3_bookOf_25 1 rfl ?_
  refine j_aald hC (by omega) dX3_bookOf_26 ?_
  exact j_aret hC dX3_bookOf_27 ⟨rfl, rfl⟩
set_option maxHeartbeats 4000000 in
set_option maxRecDepth 100000 in
theorem c_X3_checkSign {l : Launch} (hl : l.stackTraces = false) (g : GG) (σ : Sg) (hI : IC σ) {b : Nat} (hb : b < 5) (s : Int) (hs : 0 ≤ s ∧ s < σ.1 (2 + b)) : CN l yX3_checkSign cX3_checkSign 2 none 1 24 0 0 g [.ref (gd g (4 + b)), vI (s)] σ (pt none (σ)) := by
  refine CN_of (own := RX3) hl (by decide) rfl (Nat.le_of_ble_eq_true rfl) (fun mc hC _ hR => ?_)
  refine j_lv (lv2 := [(0, .ref (gd g (4 + b))), (1, vI (s))]) rfl ?_
  have hn := hI.2.2.2.1 b hb
  refine j_iload_n hC dX3_checkSign_0 1 rfl ?_
  refine j_aload_n hC dX3_checkSign_1 0 rfl ?_
  refine j_getN hC inX0 rfl (4 + b) (hw_bk g _ hb) 3 (by decide) wd50 rfl dX3_checkSign_2 ?_
  refine j_callS1 (ar := 2) hC hR (c_X3_isBelow (hlJ hC) g σ s ((σ).1 (2 + b)) (by omega)) [] rfl (by decide) (by decide +kernel) rfl wd80 wd81 wd1 wd82 (by decide) (Nat.le_of_ble_eq_true rfl) dX3_checkSign_5 ?_
  refine j_ifb_ne (tgt := 21) hC dX3_checkSign_8 (by decide) (fun _ => ?_) (fun h => (h (by omega)).elim)
  exact j_vret hC dX3_checkSign_21 ⟨rfl, rfl⟩
set_option maxHeartbeats 4000000 in
set_option maxRecDepth 100000 in
theorem c_X3_checkPlace {l : Launch} (hl : l.stackTraces = false) (g : GG) (σ : Sg) (p : Int) (hp : 0 ≤ p ∧ p < 9) : CN l yX3_checkPlace cX3_checkPlace 1 none 1 24 0 0 g [vI (p)] σ (pt none (σ)) := by
  refine CN_of (own := RX3) hl (by decide) rfl (Nat.le_of_ble_eq_true rfl) (fun mc hC _ hR => ?_)
  refine j_lv (lv2 := [(0, vI (p))]) rfl ?_
  refine j_iload_n hC dX3_checkPlace_0 0 rfl ?_
  refine j_bipush hC dX3_checkPlace_1 (by decide) ?_
  refine j_callS1 (ar := 2) hC hR (c_X3_isBelow (hlJ hC) g σ p 9 (by omega)) [] rfl (by decide) (by decide +kernel) rfl wd80 wd81 wd1 wd82 (by decide) (Nat.le_of_ble_eq_true rfl) dX3_checkPlace_3 ?_
  refine j_ifb_ne (tgt := 19) hC dX3_checkPlace_6 (by decide) (fun _ => ?_) (fun h => (h (by omega)).elim)
  exact j_vret hC dX3_checkPlace_19 ⟨rfl, rfl⟩
set_option maxHeartbeats 4000000 in
set_option maxRecDepth 100000 in
theorem c_X3_checkLook {l : Launch} (hl : l.stackTraces = false) (g : GG) (σ : Sg) (sh th pl mv : Int) (hp : 0 ≤ sh ∧ sh < 16 ∧ 0 ≤ th ∧ th < 4 ∧ 0 ≤ pl ∧ pl < 9 ∧ 0 ≤ mv ∧ mv < 4) : CN l yX3_checkLook cX3_checkLook 4 none 1 24 0 0 g [vI (sh), vI (th), vI (pl), vI (mv)] σ (pt none (σ)) := by
  refine CN_of (own := RX3) hl (by decide) rfl (Nat.le_of_ble_eq_true rfl) (fun mc hC _ hR => ?_)
  refine j_lv (lv2 := [(0, vI (sh)), (1, vI (th)), (2, vI (pl)), (3, vI (mv))]) rfl ?_
  refine j_iload_n hC dX3_checkLook_0 0 rfl ?_
  refine j_bipush hC dX3_checkLook_1 (by decide) ?_
  refine j_callS1 (ar := 2) hC hR (c_X3_isBelow (hlJ hC) g σ sh 16 (by omega)) [] rfl (by decide) (by decide +kernel) rfl wd80 wd81 wd1 wd82 (by decide) (Nat.le_of_ble_eq_true rfl) dX3_checkLook_3 ?_
  refine j_ifb_ne (tgt := 19) hC dX3_checkLook_6 (by decide) (fun _ => ?_) (fun h => (h (by omega)).elim)
  refine j_iload_n hC dX3_checkLook_19 1 rfl ?_
  refine j_iconst hC dX3_checkLook_20 ?_
  refine j_callS1 (ar := 2) hC hR (c_X3_isBelow (hlJ hC) g σ th 4 (by omega)) [] rfl (by decide) (by decide +kernel) rfl wd80 wd81 wd1 wd82 (by decide) (Nat.le_of_ble_eq_true rfl) dX3_checkLook_21 ?_
  refine j_ifb_ne (tgt := 37) hC dX3_checkLook_24 (by decide) (fun _ => ?_) (fun h => (h (by omega)).elim)
  refine j_iload_n hC dX3_checkLook_37 2 rfl ?_
  refine j_bipush hC dX3_checkLook_38 (by decide) ?_
  refine j_callS1 (ar := 2) hC hR (c_X3_isBelow (hlJ hC) g σ pl 9 (by omega)) [] rfl (by decide) (by decide +kernel) rfl wd80 wd81 wd1 wd82 (by decide) (Nat.le_of_ble_eq_true rfl) dX3_checkLook_40 ?_
  refine j_ifb_ne (tgt := 56) hC dX3_checkLook_43 (by decide) (fun _ => ?_) (fun h => (h (by omega)).elim)
  refine j_iload_n hC dX3_checkLook_56 3 rfl ?_
  refine j_iconst hC dX3_checkLook_57 ?_
  refine j_callS1 (ar := 2) hC hR (c_X3_isBelow (hlJ hC) g σ mv 4 (by omega)) [] rfl (by decide) (by decide +kernel) rfl wd80 wd81 wd1 wd82 (by decide) (Nat.le_of_ble_eq_true rfl) dX3_checkLook_58 ?_
  refine j_ifb_ne (tgt := 74) hC dX3_checkLook_61 (by decide) (fun _ => ?_) (fun h => (h (by omega)).elim)
  exact j_vret hC dX3_checkLook_74 ⟨rfl, rfl⟩
set_option maxHeartbeats 4000000 in
set_option maxRecDepth 100000 in
theorem c_X3_lookOf {l : Launch} (hl : l.stackTraces = false) (g : GG) (σ : Sg) (hI : IC σ) (a s : Int) (ha : 0 ≤ a ∧ a < σ.1 0) (hs : 0 ≤ s ∧ s < σ.1 (2 + a.toNat)) : CN l yX3_lookOf cX3_lookOf 4 (some .int) 2 45 0 0 g [.ref (gd g (0)), vI (a), vI (s)] σ (pt (some (vI (σ.2 (1 + a.toNat) s))) (σ)) := by
  refine CN_of (own := RX3) hl (by decide) rfl (Nat.le_of_ble_eq_true rfl) (fun mc hC _ hR => ?_)
  refine j_lv (lv2 := [(0, .ref (gd g (0))), (1, vI (a)), (2, vI (s))]) rfl ?_
  have hI1 := hI.1
  have ha5 : a.toNat < 5 := by have := hI.1; omega
  have hna := hI.2.2.2.1 a.toNat ha5
  refine j_aload_n hC dX3_lookOf_0 0 rfl ?_
  refine j_iload_n hC dX3_lookOf_1 1 rfl ?_
  refine j_callV1 (ar := 1) hC hR (c_X3_bookOf (hlJ hC) g σ hI a (by omega)) [] rfl 0 rfl rfl rfl (by decide) (by decide +kernel) rfl wd187 wd189 wp4 wd1 wd190 (by decide) (Nat.le_of_ble_eq_true rfl) dX3_lookOf_2 ?_
  refine j_astore_n hC dX3_lookOf_5 [(3, .ref (gd g (4 + a.toNat))), (0, .ref (gd g (0))), (1, vI (a)), (2, vI (s))] (by decide) rfl ?_
  refine j_aload_n hC dX3_lookOf_6 0 rfl ?_
  refine j_iload_n hC dX3_lookOf_7 3 rfl ?_
  refine j_callS0 (ar := 2) hC hR (c_X3_checkSign (hlJ hC) g σ hI ha5 s (by omega)) [] rfl (by decide) (by decide +kernel) rfl wd200 wd201 wd1 wd202 (by decide) (Nat.le_of_ble_eq_true rfl) dX3_lookOf_8 ?_
  refine j_aload_n hC dX3_lookOf_11 0 rfl ?_
  refine j_getN hC inX0 rfl (4 + a.toNat) (hw_bk g _ ha5) 1 (by decide) wd46 rfl dX3_lookOf_12 ?_
  refine j_iload_n hC dX3_lookOf_15 3 rfl ?_
  refine j_iald hC (9 + a.toNat) (hw_lk g _ ha5) (by omega) dX3_lookOf_16 ?_
  exact j_iret hC dX3_lookOf_17 ⟨rfl, rfl⟩
set_option maxHeartbeats 4000000 in
set_option maxRecDepth 100000 in
theorem c_X3_shapeOf {l : Launch} (hl : l.stackTraces = false) (g : GG) (σ : Sg) (hI : IC σ) (a s : Int) (ha : 0 ≤ a ∧ a < σ.1 0) (hs : 0 ≤ s ∧ s < σ.1 (2 + a.toNat)) : CN l yX3_shapeOf cX3_shapeOf 3 (some .int) 3 68 0 0 g [.ref (gd g (0)), vI (a), vI (s)] σ (pt (some (vI (σ.2 (1 + a.toNat) s % 16))) (σ)) := by
  refine CN_of (own := RX3) hl (by decide) rfl (Nat.le_of_ble_eq_true rfl) (fun mc hC _ hR => ?_)
  refine j_lv (lv2 := [(0, .ref (gd g (0))), (1, vI (a)), (2, vI (s))]) rfl ?_
  have hI1 := hI.1
  have ha5 : a.toNat < 5 := by have := hI.1; omega
  have hna := hI.2.2.2.1 a.toNat ha5
  have hk := hI.2.2.2.2.1 a.toNat ha5 s (by omega) (by omega)
  refine j_aload_n hC dX3_shapeOf_0 0 rfl ?_
  refine j_iload_n hC dX3_shapeOf_1 1 rfl ?_
  refine j_iload_n hC dX3_shapeOf_2 2 rfl ?_
  refine j_callV1 (ar := 2) hC hR (c_X3_lookOf (hlJ hC) g σ hI a s (by omega) (by omega)) [] rfl 0 rfl rfl rfl (by decide) (by decide +kernel) rfl wd196 wd198 wp5 wd1 wd199 (by decide) (Nat.le_of_ble_eq_true rfl) dX3_shapeOf_3 ?_
  refine j_callSN1 (ar := 1) hC hR (c_X1_shape (hlJ hC) g σ (σ.2 (1 + a.toNat) s) (by omega)) [] rfl (by decide) (by decide +kernel) rfl wd363 wd229 wd11 wd230 (by decide) (Nat.le_of_ble_eq_true rfl) dX3_shapeOf_6 ?_
  exact j_iret hC dX3_shapeOf_9 ⟨rfl, rfl⟩
set_option maxHeartbeats 4000000 in
set_option maxRecDepth 100000 in
theorem c_X3_thumbOf {l : Launch} (hl : l.stackTraces = false) (g : GG) (σ : Sg) (hI : IC σ) (a s : Int) (ha : 0 ≤ a ∧ a < σ.1 0) (hs : 0 ≤ s ∧ s < σ.1 (2 + a.toNat)) : CN l yX3_thumbOf cX3_thumbOf 3 (some .int) 3 68 0 0 g [.ref (gd g (0)), vI (a), vI (s)] σ (pt (some (vI (σ.2 (1 + a.toNat) s / 16 % 4))) (σ)) := by
  refine CN_of (own := RX3) hl (by decide) rfl (Nat.le_of_ble_eq_true rfl) (fun mc hC _ hR => ?_)
  refine j_lv (lv2 := [(0, .ref (gd g (0))), (1, vI (a)), (2, vI (s))]) rfl ?_
  have hI1 := hI.1
  have ha5 : a.toNat < 5 := by have := hI.1; omega
  have hna := hI.2.2.2.1 a.toNat ha5
  have hk := hI.2.2.2.2.1 a.toNat ha5 s (by omega) (by omega)
  refine j_aload_n hC dX3_thumbOf_0 0 rfl ?_
  refine j_iload_n hC dX3_thumbOf_1 1 rfl ?_
  refine j_iload_n hC dX3_thumbOf_2 2 rfl ?_
  refine j_callV1 (ar := 2) hC hR (c_X3_lookOf (hlJ hC) g σ hI a s (by omega) (by omega)) [] rfl 0 rfl rfl rfl (by decide) (by decide +kernel) rfl wd196 wd198 wp5 wd1 wd199 (by decide) (Nat.le_of_ble_eq_true rfl) dX3_thumbOf_3 ?_
  refine j_callSN1 (ar := 1) hC hR (c_X1_thumb (hlJ hC) g σ (σ.2 (1 + a.toNat) s) (by omega)) [] rfl (by decide) (by decide +kernel) rfl wd204 wd205 wd11 wd206 (by decide) (Nat.le_of_ble_eq_true rfl) dX3_thumbOf_6 ?_
  exact j_iret hC dX3_thumbOf_9 ⟨rfl, rfl⟩
set_option maxHeartbeats 4000000 in
set_option maxRecDepth 100000 in
theorem c_X3_placeOf {l : Launch} (hl : l.stackTraces = false) (g : GG) (σ : Sg) (hI : IC σ) (a s : Int) (ha : 0 ≤ a ∧ a < σ.1 0) (hs : 0 ≤ s ∧ s < σ.1 (2 + a.toNat)) : CN l yX3_placeOf cX3_placeOf 3 (some .int) 3 68 0 0 g [.ref (gd g (0)), vI (a), vI (s)] σ (pt (some (vI (σ.2 (1 + a.toNat) s / 256))) (σ)) := by
  refine CN_of (own := RX3) hl (by decide) rfl (Nat.le_of_ble_eq_true rfl) (fun mc hC _ hR => ?_)
  refine j_lv (lv2 := [(0, .ref (gd g (0))), (1, vI (a)), (2, vI (s))]) rfl ?_
  have hI1 := hI.1
  have ha5 : a.toNat < 5 := by have := hI.1; omega
  have hna := hI.2.2.2.1 a.toNat ha5
  have hk := hI.2.2.2.2.1 a.toNat ha5 s (by omega) (by omega)
  refine j_aload_n hC dX3_placeOf_0 0 rfl ?_
  refine j_iload_n hC dX3_placeOf_1 1 rfl ?_
  refine j_iload_n hC dX3_placeOf_2 2 rfl ?_
  refine j_callV1 (ar := 2) hC hR (c_X3_lookOf (hlJ hC) g σ hI a s (by omega) (by omega)) [] rfl 0 rfl rfl rfl (by decide) (by decide +kernel) rfl wd196 wd198 wp5 wd1 wd199 (by decide) (Nat.le_of_ble_eq_true rfl) dX3_placeOf_3 ?_
  refine j_callSN1 (ar := 1) hC hR (c_X1_place (hlJ hC) g σ (σ.2 (1 + a.toNat) s) (by omega)) [] rfl (by decide) (by decide +kernel) rfl wd369 wd242 wd11 wd243 (by decide) (Nat.le_of_ble_eq_true rfl) dX3_placeOf_6 ?_
  exact j_iret hC dX3_placeOf_9 ⟨rfl, rfl⟩
set_option maxHeartbeats 4000000 in
set_option maxRecDepth 100000 in
theorem c_X3_meaningOf {l : Launch} (hl : l.stackTraces = false) (g : GG) (σ : Sg) (hI : IC σ) (a s : Int) (ha : 0 ≤ a ∧ a < σ.1 0) (hs : 0 ≤ s ∧ s < σ.1 (2 + a.toNat)) : CN l yX3_meaningOf cX3_meaningOf 4 (some .int) 2 45 0 0 g [.ref (gd g (0)), vI (a), vI (s)] σ (pt (some (vI (σ.2 (6 + a.toNat) s))) (σ)) := by
  refine CN_of (own := RX3) hl (by decide) rfl (Nat.le_of_ble_eq_true rfl) (fun mc hC _ hR => ?_)
  refine j_lv (lv2 := [(0, .ref (gd g (0))), (1, vI (a)), (2, vI (s))]) rfl ?_
  have hI1 := hI.1
  have ha5 : a.toNat < 5 := by have := hI.1; omega
  have hna := hI.2.2.2.1 a.toNat ha5
  have hk := hI.2.2.2.2.1 a.toNat ha5 s (by omega) (by omega)
  refine j_aload_n hC dX3_meaningOf_0 0 rfl ?_
  refine j_iload_n hC dX3_meaningOf_1 1 rfl ?_
  refine j_callV1 (ar := 1) hC hR (c_X3_bookOf (hlJ hC) g σ hI a (by omega)) [] rfl 0 rfl rfl rfl (by decide) (by decide +kernel) rfl wd187 wd189 wp4 wd1 wd190 (by decide) (Nat.le_of_ble_eq_true rfl) dX3_meaningOf_2 ?_
  refine j_astore_n hC dX3_meaningOf_5 [(3, .ref (gd g (4 + a.toNat))), (0, .ref (gd g (0))), (1, vI (a)), (2, vI (s))] (by decide) rfl ?_
  refine j_aload_n hC dX3_meaningOf_6 0 rfl ?_
  refine j_iload_n hC dX3_meaningOf_7 3 rfl ?_
  refine j_callS0 (ar := 2) hC hR (c_X3_checkSign (hlJ hC) g σ hI ha5 s (by omega)) [] rfl (by decide) (by decide +kernel) rfl wd200 wd201 wd1 wd202 (by decide) (Nat.le_of_ble_eq_true rfl) dX3_meaningOf_8 ?_
  refine j_aload_n hC dX3_meaningOf_11 0 rfl ?_
  refine j_getN hC inX0 rfl (4 + a.toNat) (hw_bk g _ ha5) 2 (by decide) wd48 rfl dX3_meaningOf_12 ?_
  refine j_iload_n hC dX3_meaningOf_15 3 rfl ?_
  refine j_iald hC (14 + a.toNat) (hw_mn g _ ha5) (by omega) dX3_meaningOf_16 ?_
  exact j_iret hC dX3_meaningOf_17 ⟨rfl, rfl⟩
set_option maxHeartbeats 4000000 in
set_option maxRecDepth 100000 in
theorem c_X3_forget {l : Launch} (hl : l.stackTraces = false) (g : GG) (σ : Sg) (hI : IC σ) (a s : Int) (ha : 0 ≤ a ∧ a < σ.1 0) (hs : 0 ≤ s ∧ s < σ.1 (2 + a.toNat)) : CN l yX3_forget cX3_forget 4 (some .int) 2 45 0 0 g [.ref (gd g (0)), vI (a), vI (s)] σ (pt (some (vI (σ.2 (6 + a.toNat) s))) (rmB σ a.toNat s)) := by
  refine CN_of (own := RX3) hl (by decide) rfl (Nat.le_of_ble_eq_true rfl) (fun mc hC _ hR => ?_)
  refine j_lv (lv2 := [(0, .ref (gd g (0))), (1, vI (a)), (2, vI (s))]) rfl ?_
  have hI1 := hI.1
  have ha5 : a.toNat < 5 := by have := hI.1; omega
  have hna := hI.2.2.2.1 a.toNat ha5
  have hk := hI.2.2.2.2.1 a.toNat ha5 s (by omega) (by omega)
  refine j_aload_n hC dX3_forget_0 0 rfl ?_
  refine j_iload_n hC dX3_forget_1 1 rfl ?_
  refine j_callV1 (ar := 1) hC hR (c_X3_bookOf (hlJ hC) g σ hI a (by omega)) [] rfl 0 rfl rfl rfl (by decide) (by decide +kernel) rfl wd187 wd189 wp4 wd1 wd190 (by decide) (Nat.le_of_ble_eq_true rfl) dX3_forget_2 ?_
  refine j_astore_n hC dX3_forget_5 [(3, .ref (gd g (4 + a.toNat))), (0, .ref (gd g (0))), (1, vI (a)), (2, vI (s))] (by decide) rfl ?_
  refine j_aload_n hC dX3_forget_6 0 rfl ?_
  refine j_iload_n hC dX3_forget_7 3 rfl ?_
  refine j_callS0 (ar := 2) hC hR (c_X3_checkSign (hlJ hC) g σ hI ha5 s (by omega)) [] rfl (by decide) (by decide +kernel) rfl wd200 wd201 wd1 wd202 (by decide) (Nat.le_of_ble_eq_true rfl) dX3_forget_8 ?_
  refine j_aload_n hC dX3_forget_11 0 rfl ?_
  refine j_iload_n hC dX3_forget_12 3 rfl ?_
  refine j_callVN1 (ar := 1) hC hR (c_X0_remove (hlJ hC) g σ hI ha5 s (by omega)) [] rfl (4 + a.toNat) (hw_bk g _ ha5) rfl rfl (by decide) (by decide +kernel) rfl wd490 wd492 wp21 wd3 wd493 (by decide) (Nat.le_of_ble_eq_true rfl) dX3_forget_13 ?_
  exact j_iret hC dX3_forget_16 ⟨rfl, rfl⟩
set_option maxHeartbeats 4000000 in
set_option maxRecDepth 100000 in
theorem c_X3_signsOf {l : Launch} (hl : l.stackTraces = false) (g : GG) (σ : Sg) (hI : IC σ) (a : Int) (ha : 0 ≤ a ∧ a < σ.1 0) : CN l yX3_signsOf cX3_signsOf 2 (some .int) 2 45 0 0 g [.ref (gd g (0)), vI (a)] σ (pt (some (vI (σ.1 (2 + a.toNat)))) (σ)) := by
  refine CN_of (own := RX3) hl (by decide) rfl (Nat.le_of_ble_eq_true rfl) (fun mc hC _ hR => ?_)
  refine j_lv (lv2 := [(0, .ref (gd g (0))), (1, vI (a))]) rfl ?_
  have hI1 := hI.1
  have ha5 : a.toNat < 5 := by have := hI.1; omega
  have hna := hI.2.2.2.1 a.toNat ha5
  refine j_aload_n hC dX3_signsOf_0 0 rfl ?_
  refine j_iload_n hC dX3_signsOf_1 1 rfl ?_
  refine j_callV1 (ar := 1) hC hR (c_X3_bookOf (hlJ hC) g σ hI a (by omega)) [] rfl 0 rfl rfl rfl (by decide) (by decide +kernel) rfl wd187 wd189 wp4 wd1 wd190 (by decide) (Nat.le_of_ble_eq_true rfl) dX3_signsOf_2 ?_
  refine j_getN hC inX0 rfl (4 + a.toNat) (hw_bk g _ ha5) 3 (by decide) wd50 rfl dX3_signsOf_5 ?_
  exact j_iret hC dX3_signsOf_8 ⟨rfl, rfl⟩
set_option maxHeartbeats 4000000 in
set_option maxRecDepth 100000 in
theorem c_X3_alikePairs {l : Launch} (hl : l.stackTraces = false) (g : GG) (σ : Sg) (hI : IC σ) (a : Int) (ha : 0 ≤ a ∧ a < σ.1 0) : CN l yX3_alikePairs cX3_alikePairs 2 (some .int) 3 67 0 0 g [.ref (gd g (0)), vI (a)] σ (pt (some (vI (caB σ a.toNat))) (σ)) := by
  refine CN_of (own := RX3) hl (by decide) rfl (Nat.le_of_ble_eq_true rfl) (fun mc hC _ hR => ?_)
  refine j_lv (lv2 := [(0, .ref (gd g (0))), (1, vI (a))]) rfl ?_
  have hI1 := hI.1
  have ha5 : a.toNat < 5 := by have := hI.1; omega
  have hna := hI.2.2.2.1 a.toNat ha5
  refine j_aload_n hC dX3_alikePairs_0 0 rfl ?_
  refine j_iload_n hC dX3_alikePairs_1 1 rfl ?_
  refine j_callV1 (ar := 1) hC hR (c_X3_bookOf (hlJ hC) g σ hI a (by omega)) [] rfl 0 rfl rfl rfl (by decide) (by decide +kernel) rfl wd187 wd189 wp4 wd1 wd190 (by decide) (Nat.le_of_ble_eq_true rfl) dX3_alikePairs_2 ?_
  refine j_callVN1 (ar := 0) hC hR (c_X0_countAlike (hlJ hC) g σ hI ha5  ) [] rfl (4 + a.toNat) (hw_bk g _ ha5) rfl rfl (by decide) (by decide +kernel) rfl wd249 wd251 wp8 wd3 wd252 (by decide) (Nat.le_of_ble_eq_true rfl) dX3_alikePairs_5 ?_
  exact j_iret hC dX3_alikePairs_8 ⟨rfl, rfl⟩
set_option maxHeartbeats 4000000 in
set_option maxRecDepth 100000 in
theorem c_X3_thumbPairs {l : Launch} (hl : l.stackTraces = false) (g : GG) (σ : Sg) (hI : IC σ) (a : Int) (ha : 0 ≤ a ∧ a < σ.1 0) : CN l yX3_thumbPairs cX3_thumbPairs 2 (some .int) 4 94 0 0 g [.ref (gd g (0)), vI (a)] σ (pt (some (vI (ctB σ a.toNat))) (σ)) := by
  refine CN_of (own := RX3) hl (by decide) rfl (Nat.le_of_ble_eq_true rfl) (fun mc hC _ hR => ?_)
  refine j_lv (lv2 := [(0, .ref (gd g (0))), (1, vI (a))]) rfl ?_
  have hI1 := hI.1
  have ha5 : a.toNat < 5 := by have := hI.1; omega
  have hna := hI.2.2.2.1 a.toNat ha5
  refine j_aload_n hC dX3_thumbPairs_0 0 rfl ?_
  refine j_iload_n hC dX3_thumbPairs_1 1 rfl ?_
  refine j_callV1 (ar := 1) hC hR (c_X3_bookOf (hlJ hC) g σ hI a (by omega)) [] rfl 0 rfl rfl rfl (by decide) (by decide +kernel) rfl wd187 wd189 wp4 wd1 wd190 (by decide) (Nat.le_of_ble_eq_true rfl) dX3_thumbPairs_2 ?_
  refine j_callVN1 (ar := 0) hC hR (c_X0_countThumbApart (hlJ hC) g σ hI ha5  ) [] rfl (4 + a.toNat) (hw_bk g _ ha5) rfl rfl (by decide) (by decide +kernel) rfl wd264 wd266 wp10 wd3 wd267 (by decide) (Nat.le_of_ble_eq_true rfl) dX3_thumbPairs_5 ?_
  exact j_iret hC dX3_thumbPairs_8 ⟨rfl, rfl⟩
set_option maxHeartbeats 4000000 in
set_option maxRecDepth 100000 in
theorem c_X3_closest {l : Launch} (hl : l.stackTraces = false) (g : GG) (σ : Sg) (hI : IC σ) (a : Int) (ha : 0 ≤ a ∧ a < σ.1 0) : CN l yX3_closest cX3_closest 2 (some .int) 5 117 0 0 g [.ref (gd g (0)), vI (a)] σ (pt (some (vI (faB σ a.toNat))) (σ)) := by
  refine CN_of (own := RX3) hl (by decide) rfl (Nat.le_of_ble_eq_true rfl) (fun mc hC _ hR => ?_)
  refine j_lv (lv2 := [(0, .ref (gd g (0))), (1, vI (a))]) rfl ?_
  have hI1 := hI.1
  have ha5 : a.toNat < 5 := by have := hI.1; omega
  have hna := hI.2.2.2.1 a.toNat ha5
  refine j_aload_n hC dX3_closest_0 0 rfl ?_
  refine j_iload_n hC dX3_closest_1 1 rfl ?_
  refine j_callV1 (ar := 1) hC hR (c_X3_bookOf (hlJ hC) g σ hI a (by omega)) [] rfl 0 rfl rfl rfl (by decide) (by decide +kernel) rfl wd187 wd189 wp4 wd1 wd190 (by decide) (Nat.le_of_ble_eq_true rfl) dX3_closest_2 ?_
  refine j_callVN1 (ar := 0) hC hR (c_X0_fewestApart (hlJ hC) g σ hI ha5  ) [] rfl (4 + a.toNat) (hw_bk g _ ha5) rfl rfl (by decide) (by decide +kernel) rfl wd274 wd276 wp11 wd3 wd277 (by decide) (Nat.le_of_ble_eq_true rfl) dX3_closest_5 ?_
  exact j_iret hC dX3_closest_8 ⟨rfl, rfl⟩
set_option maxHeartbeats 4000000 in
set_option maxRecDepth 100000 in
theorem c_X3_mostMistaken {l : Launch} (hl : l.stackTraces = false) (g : GG) (σ : Sg) (hI : IC σ) (a : Int) (ha : 0 ≤ a ∧ a < σ.1 0) : CN l yX3_mostMistaken cX3_mostMistaken 2 (some .int) 5 118 0 0 g [.ref (gd g (0)), vI (a)] σ (pt (some (vI (snB σ a.toNat))) (σ)) := by
  refine CN_of (own := RX3) hl (by decide) rfl (Nat.le_of_ble_eq_true rfl) (fun mc hC _ hR => ?_)
  refine j_lv (lv2 := [(0, .ref (gd g (0))), (1, vI (a))]) rfl ?_
  have hI1 := hI.1
  have ha5 : a.toNat < 5 := by have := hI.1; omega
  have hna := hI.2.2.2.1 a.toNat ha5
  refine j_aload_n hC dX3_mostMistaken_0 0 rfl ?_
  refine j_iload_n hC dX3_mostMistaken_1 1 rfl ?_
  refine j_callV1 (ar := 1) hC hR (c_X3_bookOf (hlJ hC) g σ hI a (by omega)) [] rfl 0 rfl rfl rfl (by decide) (by decide +kernel) rfl wd187 wd189 wp4 wd1 wd190 (by decide) (Nat.le_of_ble_eq_true rfl) dX3_mostMistaken_2 ?_
  refine j_callVN1 (ar := 0) hC hR (c_X0_signNearMost (hlJ hC) g σ hI ha5  ) [] rfl (4 + a.toNat) (hw_bk g _ ha5) rfl rfl (by decide) (by decide +kernel) rfl wd289 wd291 wp13 wd3 wd292 (by decide) (Nat.le_of_ble_eq_true rfl) dX3_mostMistaken_5 ?_
  exact j_iret hC dX3_mostMistaken_8 ⟨rfl, rfl⟩
set_option maxHeartbeats 4000000 in
set_option maxRecDepth 100000 in
theorem c_X3_groups {l : Launch} (hl : l.stackTraces = false) (g : GG) (σ : Sg) (hI : IC σ)  : CN l yX3_groups cX3_groups 1 (some .int) 0 0 0 0 g [.ref (gd g (0))] σ (pt (some (vI (σ.1 1))) (σ)) := by
  refine CN_of (own := RX3) hl (by decide) rfl (Nat.le_of_ble_eq_true rfl) (fun mc hC _ hR => ?_)
  refine j_lv (lv2 := [(0, .ref (gd g (0)))]) rfl ?_
  refine j_aload_n hC dX3_groups_0 0 rfl ?_
  refine j_get hC inX3 rfl 0 rfl 0 (by decide) wd60 rfl dX3_groups_1 ?_
  refine j_getN hC inX2 rfl 1 rfl 1 (by decide) wd30 rfl dX3_groups_4 ?_
  exact j_iret hC dX3_groups_7 ⟨rfl, rfl⟩
set_option maxHeartbeats 4000000 in
set_option maxRecDepth 100000 in
theorem c_X3_lodges {l : Launch} (hl : l.stackTraces = false) (g : GG) (σ : Sg) (hI : IC σ)  : CN l yX3_lodges cX3_lodges 1 (some .int) 0 0 0 0 g [.ref (gd g (0))] σ (pt (some (vI (σ.1 0))) (σ)) := by
  refine CN_of (own := RX3) hl (by decide) rfl (Nat.le_of_ble_eq_true rfl) (fun mc hC _ hR => ?_)
  refine j_lv (lv2 := [(0, .ref (gd g (0)))]) rfl ?_
  refine j_aload_n hC dX3_lodges_0 0 rfl ?_
  refine j_get hC inX3 rfl 0 rfl 3 (by decide) wd63 rfl dX3_lodges_1 ?_
  exact j_iret hC dX3_lodges_4 ⟨rfl, rfl⟩
set_option maxHeartbeats 4000000 in
set_option maxRecDepth 100000 in
theorem c_X3_addLodge {l : Launch} (hl : l.stackTraces = false) (g : GG) (σ : Sg) (hI : IC σ) (hn : σ.1 0 < 4) : CN l yX3_addLodge cX3_addLodge 1 (some .int) 1 24 0 0 g [.ref (gd g (0))] σ (pt (some (vI (σ.1 0))) (sF σ 0 (σ.1 0 + 1))) := by
  refine CN_of (own := RX3) hl (by decide) rfl (Nat.le_of_ble_eq_true rfl) (fun mc hC _ hR => ?_)
  refine j_lv (lv2 := [(0, .ref (gd g (0)))]) rfl ?_
  have hI1 := hI.1
  refine j_aload_n hC dX3_addLodge_0 0 rfl ?_
  refine j_get hC inX3 rfl 0 rfl 3 (by decide) wd63 rfl dX3_addLodge_1 ?_
  refine j_iconst hC dX3_addLodge_4 ?_
  refine j_icmp_lt (tgt := 18) hC dX3_addLodge_5 (by decide) (by omega) (fun _ => ?_) (fun h => absurd h (by omega))
  refine j_aload_n hC dX3_addLodge_18 0 rfl ?_
  refine j_dup hC dX3_addLodge_19 rfl ?_
  refine j_get hC inX3 rfl 0 rfl 3 (by decide) wd63 rfl dX3_addLodge_20 ?_
  refine j_iconst hC dX3_addLodge_23 ?_
  refine j_iadd hC dX3_addLodge_24 ?_
  refine j_put (τ := sF (σ) 0 (((σ).1 0) + 1)) hC inX3 tyX3_ok nmX3 rfl 0 rfl 3 (by decide) wd63 rfl rfl (Nat.le_of_ble_eq_true rfl) rfl dX3_addLodge_25 ?_
  refine j_aload_n hC dX3_addLodge_28 0 rfl ?_
  refine j_get hC inX3 rfl 0 rfl 3 (by decide) wd63 rfl dX3_addLodge_29 ?_
  refine j_iconst hC dX3_addLodge_32 ?_
  refine j_isub hC dX3_addLodge_33 ?_
  exact j_iret hC dX3_addLodge_34 ⟨congrArg (fun z => some (vI z)) (show σ.1 0 + 1 - 1 = σ.1 0 by omega), rfl⟩
set_option maxHeartbeats 4000000 in
set_option maxRecDepth 100000 in
theorem c_X3_areJoined {l : Launch} (hl : l.stackTraces = false) (g : GG) (σ : Sg) (hI : IC σ) (p q : Int) (hp : 0 ≤ p ∧ p < 9 ∧ 0 ≤ q ∧ q < 9) : CN l yX3_areJoined cX3_areJoined 3 (some .boolean) 2 44 0 0 g [.ref (gd g (0)), vI (p), vI (q)] σ (pt (some (vI (if σ.2 0 p = σ.2 0 q then 1 else 0))) (σ)) := by
  refine CN_of (own := RX3) hl (by decide) rfl (Nat.le_of_ble_eq_true rfl) (fun mc hC _ hR => ?_)
  refine j_lv (lv2 := [(0, .ref (gd g (0))), (1, vI (p)), (2, vI (q))]) rfl ?_
  refine j_iload_n hC dX3_areJoined_0 1 rfl ?_
  refine j_callS0 (ar := 1) hC hR (c_X3_checkPlace (hlJ hC) g σ p (by omega)) [] rfl (by decide) (by decide +kernel) rfl wd77 wd78 wd1 wd79 (by decide) (Nat.le_of_ble_eq_true rfl) dX3_areJoined_1 ?_
  refine j_iload_n hC dX3_areJoined_4 2 rfl ?_
  refine j_callS0 (ar := 1) hC hR (c_X3_checkPlace (hlJ hC) g σ q (by omega)) [] rfl (by decide) (by decide +kernel) rfl wd77 wd78 wd1 wd79 (by decide) (Nat.le_of_ble_eq_true rfl) dX3_areJoined_5 ?_
  refine j_aload_n hC dX3_areJoined_8 0 rfl ?_
  refine j_get hC inX3 rfl 0 rfl 0 (by decide) wd60 rfl dX3_areJoined_9 ?_
  refine j_iload_n hC dX3_areJoined_12 1 rfl ?_
  refine j_iload_n hC dX3_areJoined_13 2 rfl ?_
  refine j_callVN1 (ar := 2) hC hR (c_X2_sameGroup (hlJ hC) g σ hI p q (by omega)) [] rfl 1 rfl rfl rfl (by decide) (by decide +kernel) rfl wd163 wd165 wp2 wd2 wd166 (by decide) (Nat.le_of_ble_eq_true rfl) dX3_areJoined_14 ?_
  exact j_zret hC (by omega) dX3_areJoined_17 ⟨rfl, rfl⟩
set_option maxHeartbeats 4000000 in
set_option maxRecDepth 100000 in
theorem c_X3_steps {l : Launch} (hl : l.stackTraces = false) (g : GG) (σ : Sg) (hI : IC σ) (p q : Int) (hp : 0 ≤ p ∧ p < 9 ∧ 0 ≤ q ∧ q < 9) : CN l yX3_steps cX3_steps 3 (some .int) 2 46 0 0 g [.ref (gd g (0)), vI (p), vI (q)] σ (pt (some (vI (stp (σ.2 0) p q))) (σ)) := by
  refine CN_of (own := RX3) hl (by decide) rfl (Nat.le_of_ble_eq_true rfl) (fun mc hC _ hR => ?_)
  refine j_lv (lv2 := [(0, .ref (gd g (0))), (1, vI (p)), (2, vI (q))]) rfl ?_
  refine j_iload_n hC dX3_steps_0 1 rfl ?_
  refine j_callS0 (ar := 1) hC hR (c_X3_checkPlace (hlJ hC) g σ p (by omega)) [] rfl (by decide) (by decide +kernel) rfl wd77 wd78 wd1 wd79 (by decide) (Nat.le_of_ble_eq_true rfl) dX3_steps_1 ?_
  refine j_iload_n hC dX3_steps_4 2 rfl ?_
  refine j_callS0 (ar := 1) hC hR (c_X3_checkPlace (hlJ hC) g σ q (by omega)) [] rfl (by decide) (by decide +kernel) rfl wd77 wd78 wd1 wd79 (by decide) (Nat.le_of_ble_eq_true rfl) dX3_steps_5 ?_
  refine j_aload_n hC dX3_steps_8 0 rfl ?_
  refine j_get hC inX3 rfl 0 rfl 0 (by decide) wd60 rfl dX3_steps_9 ?_
  refine j_iload_n hC dX3_steps_12 1 rfl ?_
  refine j_iload_n hC dX3_steps_13 2 rfl ?_
  refine j_callVN1 (ar := 2) hC hR (c_X2_stepsBetween (hlJ hC) g σ hI p q (by omega)) [] rfl 1 rfl rfl rfl (by decide) (by decide +kernel) rfl wd171 wd173 wp3 wd2 wd174 (by decide) (Nat.le_of_ble_eq_true rfl) dX3_steps_14 ?_
  exact j_iret hC dX3_steps_17 ⟨rfl, rfl⟩
set_option maxHeartbeats 4000000 in
set_option maxRecDepth 100000 in
theorem c_X3_join {l : Launch} (hl : l.stackTraces = false) (g : GG) (σ : Sg) (hI : IC σ) (p q : Int) (hp : 0 ≤ p ∧ p < 9 ∧ 0 ≤ q ∧ q < 9) : CN l yX3_join cX3_join 3 (some .int) 2 44 0 0 g [.ref (gd g (0)), vI (p), vI (q)] σ (pt (some (vI ((unP σ p q).1 1))) (unP σ p q)) := by
  refine CN_of (own := RX3) hl (by decide) rfl (Nat.le_of_ble_eq_true rfl) (fun mc hC _ hR => ?_)
  refine j_lv (lv2 := [(0, .ref (gd g (0))), (1, vI (p)), (2, vI (q))]) rfl ?_
  refine j_iload_n hC dX3_join_0 1 rfl ?_
  refine j_callS0 (ar := 1) hC hR (c_X3_checkPlace (hlJ hC) g σ p (by omega)) [] rfl (by decide) (by decide +kernel) rfl wd77 wd78 wd1 wd79 (by decide) (Nat.le_of_ble_eq_true rfl) dX3_join_1 ?_
  refine j_iload_n hC dX3_join_4 2 rfl ?_
  refine j_callS0 (ar := 1) hC hR (c_X3_checkPlace (hlJ hC) g σ q (by omega)) [] rfl (by decide) (by decide +kernel) rfl wd77 wd78 wd1 wd79 (by decide) (Nat.le_of_ble_eq_true rfl) dX3_join_5 ?_
  refine j_aload_n hC dX3_join_8 0 rfl ?_
  refine j_get hC inX3 rfl 0 rfl 0 (by decide) wd60 rfl dX3_join_9 ?_
  refine j_iload_n hC dX3_join_12 1 rfl ?_
  refine j_iload_n hC dX3_join_13 2 rfl ?_
  refine j_callVN0 (ar := 2) hC hR (c_X2_unite (hlJ hC) g σ hI p q (by omega)) [] rfl 1 rfl rfl rfl (by decide) (by decide +kernel) rfl wd151 wd153 wp1 wd2 wd154 (by decide) (Nat.le_of_ble_eq_true rfl) dX3_join_14 ?_
  refine j_aload_n hC dX3_join_17 0 rfl ?_
  refine j_get hC inX3 rfl 0 rfl 0 (by decide) wd60 rfl dX3_join_18 ?_
  refine j_getN hC inX2 rfl 1 rfl 1 (by decide) wd30 rfl dX3_join_21 ?_
  exact j_iret hC dX3_join_24 ⟨rfl, rfl⟩
set_option maxHeartbeats 4000000 in
set_option maxRecDepth 100000 in
theorem c_X3_signFor {l : Launch} (hl : l.stackTraces = false) (g : GG) (σ : Sg) (hI : IC σ) (a x : Int) (ha : 0 ≤ a ∧ a < σ.1 0) (hx : 0 ≤ x ∧ x < 30) : CN l yX3_signFor cX3_signFor 4 (some .int) 2 45 0 0 g [.ref (gd g (0)), vI (a), vI (x)] σ (pt (some (vI (findB σ a.toNat x))) (σ)) := by
  refine CN_of (own := RX3) hl (by decide) rfl (Nat.le_of_ble_eq_true rfl) (fun mc hC _ hR => ?_)
  refine j_lv (lv2 := [(0, .ref (gd g (0))), (1, vI (a)), (2, vI (x))]) rfl ?_
  have hI1 := hI.1
  have ha5 : a.toNat < 5 := by have := hI.1; omega
  have hna := hI.2.2.2.1 a.toNat ha5
  refine j_aload_n hC dX3_signFor_0 0 rfl ?_
  refine j_iload_n hC dX3_signFor_1 1 rfl ?_
  refine j_callV1 (ar := 1) hC hR (c_X3_bookOf (hlJ hC) g σ hI a (by omega)) [] rfl 0 rfl rfl rfl (by decide) (by decide +kernel) rfl wd187 wd189 wp4 wd1 wd190 (by decide) (Nat.le_of_ble_eq_true rfl) dX3_signFor_2 ?_
  refine j_astore_n hC dX3_signFor_5 [(3, .ref (gd g (4 + a.toNat))), (0, .ref (gd g (0))), (1, vI (a)), (2, vI (x))] (by decide) rfl ?_
  refine j_iload_n hC dX3_signFor_6 3 rfl ?_
  refine j_bipush hC dX3_signFor_7 (by decide) ?_
  refine j_callS1 (ar := 2) hC hR (c_X3_isBelow (hlJ hC) g σ x 30 (by omega)) [] rfl (by decide) (by decide +kernel) rfl wd80 wd81 wd1 wd82 (by decide) (Nat.le_of_ble_eq_true rfl) dX3_signFor_9 ?_
  refine j_ifb_ne (tgt := 25) hC dX3_signFor_12 (by decide) (fun _ => ?_) (fun h => (h (by omega)).elim)
  refine j_aload_n hC dX3_signFor_25 0 rfl ?_
  refine j_iload_n hC dX3_signFor_26 3 rfl ?_
  refine j_callVN1 (ar := 1) hC hR (c_X0_find (hlJ hC) g σ hI ha5 x (by omega)) [] rfl (4 + a.toNat) (hw_bk g _ ha5) rfl rfl (by decide) (by decide +kernel) rfl wd216 wd218 wp6 wd3 wd219 (by decide) (Nat.le_of_ble_eq_true rfl) dX3_signFor_27 ?_
  have hf27 := findB_rg hI ha5 x
  exact j_iret hC dX3_signFor_30 ⟨rfl, rfl⟩
set_option maxHeartbeats 4000000 in
set_option maxRecDepth 100000 in
theorem c_X3_apart {l : Launch} (hl : l.stackTraces = false) (g : GG) (σ : Sg) (hI : IC σ) (a s t : Int) (ha : 0 ≤ a ∧ a < σ.1 0) (hs : 0 ≤ s ∧ s < σ.1 (2 + a.toNat)) (ht : 0 ≤ t ∧ t < σ.1 (2 + a.toNat)) : CN l yX3_apart cX3_apart 5 (some .int) 3 71 0 0 g [.ref (gd g (0)), vI (a), vI (s), vI (t)] σ (pt (some (vI (dst (σ.2 0) (σ.2 (1 + a.toNat) s) (σ.2 (1 + a.toNat) t)))) (σ)) := by
  refine CN_of (own := RX3) hl (by decide) rfl (Nat.le_of_ble_eq_true rfl) (fun mc hC _ hR => ?_)
  refine j_lv (lv2 := [(0, .ref (gd g (0))), (1, vI (a)), (2, vI (s)), (3, vI (t))]) rfl ?_
  have hI1 := hI.1
  have ha5 : a.toNat < 5 := by have := hI.1; omega
  have hna := hI.2.2.2.1 a.toNat ha5
  have hk := hI.2.2.2.2.1 a.toNat ha5 s (by omega) (by omega)
  have hk2 := hI.2.2.2.2.1 a.toNat ha5 t (by omega) (by omega)
  refine j_aload_n hC dX3_apart_0 0 rfl ?_
  refine j_iload_n hC dX3_apart_1 1 rfl ?_
  refine j_callV1 (ar := 1) hC hR (c_X3_bookOf (hlJ hC) g σ hI a (by omega)) [] rfl 0 rfl rfl rfl (by decide) (by decide +kernel) rfl wd187 wd189 wp4 wd1 wd190 (by decide) (Nat.le_of_ble_eq_true rfl) dX3_apart_2 ?_
  refine j_astore hC dX3_apart_5 [(4, .ref (gd g (4 + a.toNat))), (0, .ref (gd g (0))), (1, vI (a)), (2, vI (s)), (3, vI (t))] (by decide) rfl ?_
  refine j_aload hC dX3_apart_7 0 rfl ?_
  refine j_iload_n hC dX3_apart_9 3 rfl ?_
  refine j_callS0 (ar := 2) hC hR (c_X3_checkSign (hlJ hC) g σ hI ha5 s (by omega)) [] rfl (by decide) (by decide +kernel) rfl wd200 wd201 wd1 wd202 (by decide) (Nat.le_of_ble_eq_true rfl) dX3_apart_10 ?_
  refine j_aload hC dX3_apart_13 0 rfl ?_
  refine j_iload_n hC dX3_apart_15 4 rfl ?_
  refine j_callS0 (ar := 2) hC hR (c_X3_checkSign (hlJ hC) g σ hI ha5 t (by omega)) [] rfl (by decide) (by decide +kernel) rfl wd200 wd201 wd1 wd202 (by decide) (Nat.le_of_ble_eq_true rfl) dX3_apart_16 ?_
  refine j_aload_n hC dX3_apart_19 1 rfl ?_
  refine j_get hC inX3 rfl 0 rfl 0 (by decide) wd60 rfl dX3_apart_20 ?_
  refine j_aload hC dX3_apart_23 0 rfl ?_
  refine j_getN hC inX0 rfl (4 + a.toNat) (hw_bk g _ ha5) 1 (by decide) wd46 rfl dX3_apart_25 ?_
  refine j_iload_n hC dX3_apart_28 3 rfl ?_
  refine j_iald hC (9 + a.toNat) (hw_lk g _ ha5) (by omega) dX3_apart_29 ?_
  refine j_aload hC dX3_apart_30 0 rfl ?_
  refine j_getN hC inX0 rfl (4 + a.toNat) (hw_bk g _ ha5) 1 (by decide) wd46 rfl dX3_apart_32 ?_
  refine j_iload_n hC dX3_apart_35 4 rfl ?_
  refine j_iald hC (9 + a.toNat) (hw_lk g _ ha5) (by omega) dX3_apart_36 ?_
  refine j_callVN1 (ar := 2) hC hR (c_X2_distance (hlJ hC) g σ hI ((σ).2 (1 + a.toNat) s) ((σ).2 (1 + a.toNat) t) (by omega)) [] rfl 1 rfl rfl rfl (by decide) (by decide +kernel) rfl wd224 wd226 wp7 wd2 wd227 (by decide) (Nat.le_of_ble_eq_true rfl) dX3_apart_37 ?_
  exact j_iret hC dX3_apart_40 ⟨rfl, rfl⟩
set_option maxHeartbeats 4000000 in
set_option maxRecDepth 100000 in
theorem c_X3_understood {l : Launch} (hl : l.stackTraces = false) (g : GG) (σ : Sg) (hI : IC σ) (a c : Int) (ha : 0 ≤ a ∧ a < σ.1 0) (hc : 0 ≤ c ∧ c < σ.1 0) : CN l yX3_understood cX3_understood 4 (some .int) 5 119 0 0 g [.ref (gd g (0)), vI (a), vI (c)] σ (pt (some (vI (cuB σ c.toNat a.toNat))) (σ)) := by
  refine CN_of (own := RX3) hl (by decide) rfl (Nat.le_of_ble_eq_true rfl) (fun mc hC _ hR => ?_)
  refine j_lv (lv2 := [(0, .ref (gd g (0))), (1, vI (a)), (2, vI (c))]) rfl ?_
  have hI1 := hI.1
  have ha5 : a.toNat < 5 := by have := hI.1; omega
  have hna := hI.2.2.2.1 a.toNat ha5
  have hc5 : c.toNat < 5 := by have := hI.1; omega
  have hnc := hI.2.2.2.1 c.toNat hc5
  refine j_aload_n hC dX3_understood_0 0 rfl ?_
  refine j_iload_n hC dX3_understood_1 1 rfl ?_
  refine j_callV1 (ar := 1) hC hR (c_X3_bookOf (hlJ hC) g σ hI a (by omega)) [] rfl 0 rfl rfl rfl (by decide) (by decide +kernel) rfl wd187 wd189 wp4 wd1 wd190 (by decide) (Nat.le_of_ble_eq_true rfl) dX3_understood_2 ?_
  refine j_astore_n hC dX3_understood_5 [(3, .ref (gd g (4 + a.toNat))), (0, .ref (gd g (0))), (1, vI (a)), (2, vI (c))] (by decide) rfl ?_
  refine j_aload_n hC dX3_understood_6 1 rfl ?_
  refine j_iload_n hC dX3_understood_7 3 rfl ?_
  refine j_callV1 (ar := 1) hC hR (c_X3_bookOf (hlJ hC) g σ hI c (by omega)) [] rfl 0 rfl rfl rfl (by decide) (by decide +kernel) rfl wd187 wd189 wp4 wd1 wd190 (by decide) (Nat.le_of_ble_eq_true rfl) dX3_understood_8 ?_
  refine j_aload_n hC dX3_understood_11 0 rfl ?_
  refine j_callVN1 (ar := 1) hC hR (c_X0_countUnderstood (hlJ hC) g σ hI hc5 ha5  ) [] rfl (4 + c.toNat) (hw_bk g _ hc5) rfl rfl (by decide) (by decide +kernel) rfl wd309 wd311 wp16 wd3 wd312 (by decide) (Nat.le_of_ble_eq_true rfl) dX3_understood_12 ?_
  have hf12 : 0 ≤ cuB σ c.toNat a.toNat ∧ cuB σ c.toNat a.toNat ≤ 16 := cnt0_rg _ hI ha5
  exact j_iret hC dX3_understood_15 ⟨rfl, rfl⟩
set_option maxHeartbeats 4000000 in
set_option maxRecDepth 100000 in
theorem c_X3_misread {l : Launch} (hl : l.stackTraces = false) (g : GG) (σ : Sg) (hI : IC σ) (a c : Int) (ha : 0 ≤ a ∧ a < σ.1 0) (hc : 0 ≤ c ∧ c < σ.1 0) : CN l yX3_misread cX3_misread 4 (some .int) 5 120 0 0 g [.ref (gd g (0)), vI (a), vI (c)] σ (pt (some (vI (cmB σ c.toNat a.toNat))) (σ)) := by
  refine CN_of (own := RX3) hl (by decide) rfl (Nat.le_of_ble_eq_true rfl) (fun mc hC _ hR => ?_)
  refine j_lv (lv2 := [(0, .ref (gd g (0))), (1, vI (a)), (2, vI (c))]) rfl ?_
  have hI1 := hI.1
  have ha5 : a.toNat < 5 := by have := hI.1; omega
  have hna := hI.2.2.2.1 a.toNat ha5
  have hc5 : c.toNat < 5 := by have := hI.1; omega
  have hnc := hI.2.2.2.1 c.toNat hc5
  refine j_aload_n hC dX3_misread_0 0 rfl ?_
  refine j_iload_n hC dX3_misread_1 1 rfl ?_
  refine j_callV1 (ar := 1) hC hR (c_X3_bookOf (hlJ hC) g σ hI a (by omega)) [] rfl 0 rfl rfl rfl (by decide) (by decide +kernel) rfl wd187 wd189 wp4 wd1 wd190 (by decide) (Nat.le_of_ble_eq_true rfl) dX3_misread_2 ?_
  refine j_astore_n hC dX3_misread_5 [(3, .ref (gd g (4 + a.toNat))), (0, .ref (gd g (0))), (1, vI (a)), (2, vI (c))] (by decide) rfl ?_
  refine j_aload_n hC dX3_misread_6 1 rfl ?_
  refine j_iload_n hC dX3_misread_7 3 rfl ?_
  refine j_callV1 (ar := 1) hC hR (c_X3_bookOf (hlJ hC) g σ hI c (by omega)) [] rfl 0 rfl rfl rfl (by decide) (by decide +kernel) rfl wd187 wd189 wp4 wd1 wd190 (by decide) (Nat.le_of_ble_eq_true rfl) dX3_misread_8 ?_
  refine j_aload_n hC dX3_misread_11 0 rfl ?_
  refine j_callVN1 (ar := 1) hC hR (c_X0_countMisread (hlJ hC) g σ hI hc5 ha5  ) [] rfl (4 + c.toNat) (hw_bk g _ hc5) rfl rfl (by decide) (by decide +kernel) rfl wd318 wd320 wp17 wd3 wd321 (by decide) (Nat.le_of_ble_eq_true rfl) dX3_misread_12 ?_
  exact j_iret hC dX3_misread_15 ⟨rfl, rfl⟩
set_option maxHeartbeats 4000000 in
set_option maxRecDepth 100000 in
theorem c_X3_common {l : Launch} (hl : l.stackTraces = false) (g : GG) (σ : Sg) (hI : IC σ) (a c : Int) (ha : 0 ≤ a ∧ a < σ.1 0) (hc : 0 ≤ c ∧ c < σ.1 0) : CN l yX3_common cX3_common 4 (some .int) 5 121 0 0 g [.ref (gd g (0)), vI (a), vI (c)] σ (pt (some (vI (ccB σ c.toNat a.toNat))) (σ)) := by
  refine CN_of (own := RX3) hl (by decide) rfl (Nat.le_of_ble_eq_true rfl) (fun mc hC _ hR => ?_)
  refine j_lv (lv2 := [(0, .ref (gd g (0))), (1, vI (a)), (2, vI (c))]) rfl ?_
  have hI1 := hI.1
  have ha5 : a.toNat < 5 := by have := hI.1; omega
  have hna := hI.2.2.2.1 a.toNat ha5
  have hc5 : c.toNat < 5 := by have := hI.1; omega
  have hnc := hI.2.2.2.1 c.toNat hc5
  refine j_aload_n hC dX3_common_0 0 rfl ?_
  refine j_iload_n hC dX3_common_1 1 rfl ?_
  refine j_callV1 (ar := 1) hC hR (c_X3_bookOf (hlJ hC) g σ hI a (by omega)) [] rfl 0 rfl rfl rfl (by decide) (by decide +kernel) rfl wd187 wd189 wp4 wd1 wd190 (by decide) (Nat.le_of_ble_eq_true rfl) dX3_common_2 ?_
  refine j_astore_n hC dX3_common_5 [(3, .ref (gd g (4 + a.toNat))), (0, .ref (gd g (0))), (1, vI (a)), (2, vI (c))] (by decide) rfl ?_
  refine j_aload_n hC dX3_common_6 1 rfl ?_
  refine j_iload_n hC dX3_common_7 3 rfl ?_
  refine j_callV1 (ar := 1) hC hR (c_X3_bookOf (hlJ hC) g σ hI c (by omega)) [] rfl 0 rfl rfl rfl (by decide) (by decide +kernel) rfl wd187 wd189 wp4 wd1 wd190 (by decide) (Nat.le_of_ble_eq_true rfl) dX3_common_8 ?_
  refine j_aload_n hC dX3_common_11 0 rfl ?_
  refine j_callVN1 (ar := 1) hC hR (c_X0_countCommon (hlJ hC) g σ hI hc5 ha5  ) [] rfl (4 + c.toNat) (hw_bk g _ hc5) rfl rfl (by decide) (by decide +kernel) rfl wd326 wd328 wp18 wd3 wd329 (by decide) (Nat.le_of_ble_eq_true rfl) dX3_common_12 ?_
  exact j_iret hC dX3_common_15 ⟨rfl, rfl⟩
set_option maxHeartbeats 4000000 in
set_option maxRecDepth 100000 in
theorem c_X3_read {l : Launch} (hl : l.stackTraces = false) (g : GG) (σ : Sg) (hI : IC σ) (a s c : Int) (ha : 0 ≤ a ∧ a < σ.1 0) (hs : 0 ≤ s ∧ s < σ.1 (2 + a.toNat)) (hc : 0 ≤ c ∧ c < σ.1 0) : CN l yX3_read cX3_read 5 (some .int) 4 96 0 0 g [.ref (gd g (0)), vI (a), vI (s), vI (c)] σ (pt (some (vI (mrB σ c.toNat (σ.2 (1 + a.toNat) s)))) (σ)) := by
  refine CN_of (own := RX3) hl (by decide) rfl (Nat.le_of_ble_eq_true rfl) (fun mc hC _ hR => ?_)
  refine j_lv (lv2 := [(0, .ref (gd g (0))), (1, vI (a)), (2, vI (s)), (3, vI (c))]) rfl ?_
  have hI1 := hI.1
  have ha5 : a.toNat < 5 := by have := hI.1; omega
  have hna := hI.2.2.2.1 a.toNat ha5
  have hc5 : c.toNat < 5 := by have := hI.1; omega
  have hnc := hI.2.2.2.1 c.toNat hc5
  have hk := hI.2.2.2.2.1 a.toNat ha5 s (by omega) (by omega)
  refine j_aload_n hC dX3_read_0 0 rfl ?_
  refine j_iload_n hC dX3_read_1 3 rfl ?_
  refine j_callV1 (ar := 1) hC hR (c_X3_bookOf (hlJ hC) g σ hI c (by omega)) [] rfl 0 rfl rfl rfl (by decide) (by decide +kernel) rfl wd187 wd189 wp4 wd1 wd190 (by decide) (Nat.le_of_ble_eq_true rfl) dX3_read_2 ?_
  refine j_astore hC dX3_read_5 [(4, .ref (gd g (4 + c.toNat))), (0, .ref (gd g (0))), (1, vI (a)), (2, vI (s)), (3, vI (c))] (by decide) rfl ?_
  refine j_aload hC dX3_read_7 0 rfl ?_
  refine j_aload_n hC dX3_read_9 1 rfl ?_
  refine j_iload_n hC dX3_read_10 2 rfl ?_
  refine j_iload_n hC dX3_read_11 3 rfl ?_
  refine j_callV1 (ar := 2) hC hR (c_X3_lookOf (hlJ hC) g σ hI a s (by omega) (by omega)) [.ref (gd g (4 + c.toNat))] rfl 0 rfl rfl rfl (by decide) (by decide +kernel) rfl wd196 wd198 wp5 wd1 wd199 (by decide) (Nat.le_of_ble_eq_true rfl) dX3_read_12 ?_
  refine j_callVN1 (ar := 1) hC hR (c_X0_meaningRead (hlJ hC) g σ hI hc5 (σ.2 (1 + a.toNat) s) (by omega)) [] rfl (4 + c.toNat) (hw_bk g _ hc5) rfl rfl (by decide) (by decide +kernel) rfl wd301 wd303 wp15 wd3 wd304 (by decide) (Nat.le_of_ble_eq_true rfl) dX3_read_15 ?_
  have hf15 := mrB_rg hI hc5 (σ.2 (1 + a.toNat) s)
  exact j_iret hC dX3_read_18 ⟨rfl, rfl⟩
set_option maxHeartbeats 4000000 in
set_option maxRecDepth 100000 in
theorem c_X3_setThumb {l : Launch} (hl : l.stackTraces = false) (g : GG) (σ : Sg) (hI : IC σ) (a s t : Int) (ha : 0 ≤ a ∧ a < σ.1 0) (hs : 0 ≤ s ∧ s < σ.1 (2 + a.toNat)) (ht : 0 ≤ t ∧ t < 4) : CN l yX3_setThumb cX3_setThumb 6 (some .int) 2 45 0 0 g [.ref (gd g (0)), vI (a), vI (s), vI (t)] σ (pt (some (vI (σ.2 (1 + a.toNat) s / 16 % 4))) (sG σ (1 + a.toNat) s (wth (σ.2 (1 + a.toNat) s) t))) := by
  refine CN_of (own := RX3) hl (by decide) rfl (Nat.le_of_ble_eq_true rfl) (fun mc hC _ hR => ?_)
  refine j_lv (lv2 := [(0, .ref (gd g (0))), (1, vI (a)), (2, vI (s)), (3, vI (t))]) rfl ?_
  have hI1 := hI.1
  have ha5 : a.toNat < 5 := by have := hI.1; omega
  have hna := hI.2.2.2.1 a.toNat ha5
  have hk := hI.2.2.2.2.1 a.toNat ha5 s (by omega) (by omega)
  refine j_aload_n hC dX3_setThumb_0 0 rfl ?_
  refine j_iload_n hC dX3_setThumb_1 1 rfl ?_
  refine j_callV1 (ar := 1) hC hR (c_X3_bookOf (hlJ hC) g σ hI a (by omega)) [] rfl 0 rfl rfl rfl (by decide) (by decide +kernel) rfl wd187 wd189 wp4 wd1 wd190 (by decide) (Nat.le_of_ble_eq_true rfl) dX3_setThumb_2 ?_
  refine j_astore hC dX3_setThumb_5 [(4, .ref (gd g (4 + a.toNat))), (0, .ref (gd g (0))), (1, vI (a)), (2, vI (s)), (3, vI (t))] (by decide) rfl ?_
  refine j_aload hC dX3_setThumb_7 0 rfl ?_
  refine j_iload_n hC dX3_setThumb_9 3 rfl ?_
  refine j_callS0 (ar := 2) hC hR (c_X3_checkSign (hlJ hC) g σ hI ha5 s (by omega)) [] rfl (by decide) (by decide +kernel) rfl wd200 wd201 wd1 wd202 (by decide) (Nat.le_of_ble_eq_true rfl) dX3_setThumb_10 ?_
  refine j_iload_n hC dX3_setThumb_13 4 rfl ?_
  refine j_iconst hC dX3_setThumb_14 ?_
  refine j_callS1 (ar := 2) hC hR (c_X3_isBelow (hlJ hC) g σ t 4 (by omega)) [] rfl (by decide) (by decide +kernel) rfl wd80 wd81 wd1 wd82 (by decide) (Nat.le_of_ble_eq_true rfl) dX3_setThumb_15 ?_
  refine j_ifb_ne (tgt := 31) hC dX3_setThumb_18 (by decide) (fun _ => ?_) (fun h => (h (by omega)).elim)
  refine j_aload hC dX3_setThumb_31 0 rfl ?_
  refine j_getN hC inX0 rfl (4 + a.toNat) (hw_bk g _ ha5) 1 (by decide) wd46 rfl dX3_setThumb_33 ?_
  refine j_iload_n hC dX3_setThumb_36 3 rfl ?_
  refine j_iald hC (9 + a.toNat) (hw_lk g _ ha5) (by omega) dX3_setThumb_37 ?_
  refine j_callSN1 (ar := 1) hC hR (c_X1_thumb (hlJ hC) g σ ((σ).2 (1 + a.toNat) s) (by omega)) [] rfl (by decide) (by decide +kernel) rfl wd204 wd205 wd11 wd206 (by decide) (Nat.le_of_ble_eq_true rfl) dX3_setThumb_38 ?_
  refine j_istore hC dX3_setThumb_41 [(5, vI (((σ).2 (1 + a.toNat) s) / 16 % 4)), (4, .ref (gd g (4 + a.toNat))), (0, .ref (gd g (0))), (1, vI (a)), (2, vI (s)), (3, vI (t))] (by decide) rfl ?_
  refine j_aload hC dX3_setThumb_43 1 rfl ?_
  refine j_getN hC inX0 rfl (4 + a.toNat) (hw_bk g _ ha5) 1 (by decide) wd46 rfl dX3_setThumb_45 ?_
  refine j_iload_n hC dX3_setThumb_48 4 rfl ?_
  refine j_aload hC dX3_setThumb_49 1 rfl ?_
  refine j_getN hC inX0 rfl (4 + a.toNat) (hw_bk g _ ha5) 1 (by decide) wd46 rfl dX3_setThumb_51 ?_
  refine j_iload_n hC dX3_setThumb_54 4 rfl ?_
  refine j_iald hC (9 + a.toNat) (hw_lk g _ ha5) (by omega) dX3_setThumb_55 ?_
  refine j_iload_n hC dX3_setThumb_56 5 rfl ?_
  refine j_callSN1 (ar := 2) hC hR (c_X1_withThumb (hlJ hC) g σ ((σ).2 (1 + a.toNat) s) t (by omega)) [vI (s), .ref (gd g (9 + a.toNat))] rfl (by decide) (by decide +kernel) rfl wd498 wd499 wd11 wd500 (by decide) (Nat.le_of_ble_eq_true rfl) dX3_setThumb_57 ?_
  refine j_iast (τ := sG (σ) (1 + a.toNat) (s) (wth ((σ).2 (1 + a.toNat) s) t)) hC (9 + a.toNat) (hw_lk g _ ha5) (hs_lk g _ ha5 _ _) (by omega) dX3_setThumb_60 ?_
  refine j_iload hC dX3_setThumb_61 0 rfl ?_
  exact j_iret hC dX3_setThumb_63 ⟨rfl, rfl⟩
set_option maxHeartbeats 4000000 in
set_option maxRecDepth 100000 in
theorem c_X3_addSign {l : Launch} (hl : l.stackTraces = false) (g : GG) (σ : Sg) (hI : IC σ) (a sh th pl mv x : Int) (ha : 0 ≤ a ∧ a < σ.1 0) (hp : 0 ≤ sh ∧ sh < 16 ∧ 0 ≤ th ∧ th < 4 ∧ 0 ≤ pl ∧ pl < 9 ∧ 0 ≤ mv ∧ mv < 4) (hx : 0 ≤ x ∧ x < 30) (hm : σ.1 (2 + a.toNat) < 16 ∧ findB σ a.toNat x = -1) : CN l yX3_addSign cX3_addSign 8 (some .int) 2 47 0 0 g [.ref (gd g (0)), vI (a), vI (sh), vI (th), vI (pl), vI (mv), vI (x)] σ (pt (some (vI (σ.1 (2 + a.toNat)))) (apB σ a.toNat (mkL sh th pl mv) x)) := by
  refine CN_of (own := RX3) hl (by decide) rfl (Nat.le_of_ble_eq_true rfl) (fun mc hC _ hR => ?_)
  refine j_lv (lv2 := [(0, .ref (gd g (0))), (1, vI (a)), (2, vI (sh)), (3, vI (th)), (4, vI (pl)), (5, vI (mv)), (6, vI (x))]) rfl ?_
  have hI1 := hI.1
  have ha5 : a.toNat < 5 := by have := hI.1; omega
  have hna := hI.2.2.2.1 a.toNat ha5
  have hmk : 0 ≤ mkL sh th pl mv ∧ mkL sh th pl mv < 2304 := by unfold mkL; omega
  refine j_aload_n hC dX3_addSign_0 0 rfl ?_
  refine j_iload_n hC dX3_addSign_1 1 rfl ?_
  refine j_callV1 (ar := 1) hC hR (c_X3_bookOf (hlJ hC) g σ hI a (by omega)) [] rfl 0 rfl rfl rfl (by decide) (by decide +kernel) rfl wd187 wd189 wp4 wd1 wd190 (by decide) (Nat.le_of_ble_eq_true rfl) dX3_addSign_2 ?_
  refine j_astore hC dX3_addSign_5 [(7, .ref (gd g (4 + a.toNat))), (0, .ref (gd g (0))), (1, vI (a)), (2, vI (sh)), (3, vI (th)), (4, vI (pl)), (5, vI (mv)), (6, vI (x))] (by decide) rfl ?_
  refine j_iload_n hC dX3_addSign_7 3 rfl ?_
  refine j_iload_n hC dX3_addSign_8 4 rfl ?_
  refine j_iload hC dX3_addSign_9 5 rfl ?_
  refine j_iload hC dX3_addSign_11 6 rfl ?_
  refine j_callS0 (ar := 4) hC hR (c_X3_checkLook (hlJ hC) g σ sh th pl mv (by omega)) [] rfl (by decide) (by decide +kernel) rfl wd449 wd450 wd1 wd451 (by decide) (Nat.le_of_ble_eq_true rfl) dX3_addSign_13 ?_
  refine j_iload hC dX3_addSign_16 7 rfl ?_
  refine j_bipush hC dX3_addSign_18 (by decide) ?_
  refine j_callS1 (ar := 2) hC hR (c_X3_isBelow (hlJ hC) g σ x 30 (by omega)) [] rfl (by decide) (by decide +kernel) rfl wd80 wd81 wd1 wd82 (by decide) (Nat.le_of_ble_eq_true rfl) dX3_addSign_20 ?_
  refine j_ifb_ne (tgt := 36) hC dX3_addSign_23 (by decide) (fun _ => ?_) (fun h => (h (by omega)).elim)
  refine j_aload hC dX3_addSign_36 0 rfl ?_
  refine j_iload hC dX3_addSign_38 7 rfl ?_
  refine j_callVN1 (ar := 1) hC hR (c_X0_hasRoomFor (hlJ hC) g σ hI ha5 x (by omega)) [] rfl (4 + a.toNat) (hw_bk g _ ha5) rfl rfl (by decide) (by decide +kernel) rfl wd470 wd472 wp19 wd3 wd473 (by decide) (Nat.le_of_ble_eq_true rfl) dX3_addSign_40 ?_
  refine j_ifb_ne (tgt := 56) hC dX3_addSign_43 (by decide) (fun _ => ?_) (fun h => (h (by omega)).elim)
  refine j_aload hC dX3_addSign_56 0 rfl ?_
  refine j_iload_n hC dX3_addSign_58 3 rfl ?_
  refine j_iload_n hC dX3_addSign_59 4 rfl ?_
  refine j_iload hC dX3_addSign_60 5 rfl ?_
  refine j_iload hC dX3_addSign_62 6 rfl ?_
  refine j_callSN1 (ar := 4) hC hR (c_X1_of (hlJ hC) g σ sh th pl mv (by omega)) [.ref (gd g (4 + a.toNat))] rfl (by decide) (by decide +kernel) rfl wd475 wd476 wd11 wd477 (by decide) (Nat.le_of_ble_eq_true rfl) dX3_addSign_64 ?_
  refine j_iload hC dX3_addSign_67 7 rfl ?_
  refine j_callVN1 (ar := 2) hC hR (c_X0_append (hlJ hC) g σ ha5 (mkL sh th pl mv) x (by omega)) [] rfl (4 + a.toNat) (hw_bk g _ ha5) rfl rfl (by decide) (by decide +kernel) rfl wd478 wd480 wp20 wd3 wd481 (by decide) (Nat.le_of_ble_eq_true rfl) dX3_addSign_69 ?_
  exact j_iret hC dX3_addSign_72 ⟨rfl, rfl⟩
set_option maxHeartbeats 4000000 in
set_option maxRecDepth 100000 in
theorem c_X3_borrow {l : Launch} (hl : l.stackTraces = false) (g : GG) (σ : Sg) (hI : IC σ) (a s c : Int) (ha : 0 ≤ a ∧ a < σ.1 0) (hc : 0 ≤ c ∧ c < σ.1 0) (hs : 0 ≤ s ∧ s < σ.1 (2 + a.toNat)) (hne : a ≠ c) (hm : σ.1 (2 + c.toNat) < 16 ∧ findB σ c.toNat (σ.2 (6 + a.toNat) s) = -1) (hf : fuB σ c.toNat (σ.2 (1 + a.toNat) s) ≠ -1) : CN l yX3_borrow cX3_borrow 8 (some .int) 4 90 0 0 g [.ref (gd g (0)), vI (a), vI (s), vI (c)] σ (pt (some (vI (σ.1 (2 + c.toNat)))) (apB σ c.toNat (fuB σ c.toNat (σ.2 (1 + a.toNat) s)) (σ.2 (6 + a.toNat) s))) := by
  refine CN_of (own := RX3) hl (by decide) rfl (Nat.le_of_ble_eq_true rfl) (fun mc hC _ hR => ?_)
  refine j_lv (lv2 := [(0, .ref (gd g (0))), (1, vI (a)), (2, vI (s)), (3, vI (c))]) rfl ?_
  have hI1 := hI.1
  have ha5 : a.toNat < 5 := by have := hI.1; omega
  have hna := hI.2.2.2.1 a.toNat ha5
  have hc5 : c.toNat < 5 := by have := hI.1; omega
  have hnc := hI.2.2.2.1 c.toNat hc5
  have hk := hI.2.2.2.2.1 a.toNat ha5 s (by omega) (by omega)
  have hm := hI.2.2.2.2.2 a.toNat ha5 s (by omega) (by omega)
  have hfu : fuB σ c.toNat (σ.2 (1 + a.toNat) s) = -1 ∨ (0 ≤ fuB σ c.toNat (σ.2 (1 + a.toNat) s) ∧ fuB σ c.toNat (σ.2 (1 + a.toNat) s) < 2304) := fuF_rg _ _ _ (by omega) 4 0 (by omega)
  refine j_aload_n hC dX3_borrow_0 0 rfl ?_
  refine j_iload_n hC dX3_borrow_1 1 rfl ?_
  refine j_callV1 (ar := 1) hC hR (c_X3_bookOf (hlJ hC) g σ hI a (by omega)) [] rfl 0 rfl rfl rfl (by decide) (by decide +kernel) rfl wd187 wd189 wp4 wd1 wd190 (by decide) (Nat.le_of_ble_eq_true rfl) dX3_borrow_2 ?_
  refine j_astore hC dX3_borrow_5 [(4, .ref (gd g (4 + a.toNat))), (0, .ref (gd g (0))), (1, vI (a)), (2, vI (s)), (3, vI (c))] (by decide) rfl ?_
  refine j_aload_n hC dX3_borrow_7 1 rfl ?_
  refine j_iload_n hC dX3_borrow_8 4 rfl ?_
  refine j_callV1 (ar := 1) hC hR (c_X3_bookOf (hlJ hC) g σ hI c (by omega)) [] rfl 0 rfl rfl rfl (by decide) (by decide +kernel) rfl wd187 wd189 wp4 wd1 wd190 (by decide) (Nat.le_of_ble_eq_true rfl) dX3_borrow_9 ?_
  refine j_astore hC dX3_borrow_12 [(5, .ref (gd g (4 + c.toNat))), (4, .ref (gd g (4 + a.toNat))), (0, .ref (gd g (0))), (1, vI (a)), (2, vI (s)), (3, vI (c))] (by decide) rfl ?_
  refine j_aload hC dX3_borrow_14 1 rfl ?_
  refine j_iload_n hC dX3_borrow_16 4 rfl ?_
  refine j_callS0 (ar := 2) hC hR (c_X3_checkSign (hlJ hC) g σ hI ha5 s (by omega)) [] rfl (by decide) (by decide +kernel) rfl wd200 wd201 wd1 wd202 (by decide) (Nat.le_of_ble_eq_true rfl) dX3_borrow_17 ?_
  refine j_iload_n hC dX3_borrow_20 3 rfl ?_
  refine j_iload_n hC dX3_borrow_21 5 rfl ?_
  refine j_icmp_ne (tgt := 35) hC dX3_borrow_22 (by decide) (by omega) (fun _ => ?_) (fun h => absurd h (by omega))
  refine j_aload hC dX3_borrow_35 1 rfl ?_
  refine j_getN hC inX0 rfl (4 + a.toNat) (hw_bk g _ ha5) 2 (by decide) wd48 rfl dX3_borrow_37 ?_
  refine j_iload_n hC dX3_borrow_40 4 rfl ?_
  refine j_iald hC (14 + a.toNat) (hw_mn g _ ha5) (by omega) dX3_borrow_41 ?_
  refine j_istore hC dX3_borrow_42 [(6, vI ((σ).2 (6 + a.toNat) s)), (5, .ref (gd g (4 + c.toNat))), (4, .ref (gd g (4 + a.toNat))), (0, .ref (gd g (0))), (1, vI (a)), (2, vI (s)), (3, vI (c))] (by decide) rfl ?_
  refine j_aload hC dX3_borrow_44 1 rfl ?_
  refine j_iload hC dX3_borrow_46 0 rfl ?_
  refine j_callVN1 (ar := 1) hC hR (c_X0_hasRoomFor (hlJ hC) g σ hI hc5 ((σ).2 (6 + a.toNat) s) (by omega)) [] rfl (4 + c.toNat) (hw_bk g _ hc5) rfl rfl (by decide) (by decide +kernel) rfl wd470 wd472 wp19 wd3 wd473 (by decide) (Nat.le_of_ble_eq_true rfl) dX3_borrow_48 ?_
  refine j_ifb_ne (tgt := 64) hC dX3_borrow_51 (by decide) (fun _ => ?_) (fun h => (h (by omega)).elim)
  refine j_aload hC dX3_borrow_64 1 rfl ?_
  refine j_aload hC dX3_borrow_66 2 rfl ?_
  refine j_getN hC inX0 rfl (4 + a.toNat) (hw_bk g _ ha5) 1 (by decide) wd46 rfl dX3_borrow_68 ?_
  refine j_iload_n hC dX3_borrow_71 5 rfl ?_
  refine j_iald hC (9 + a.toNat) (hw_lk g _ ha5) (by omega) dX3_borrow_72 ?_
  refine j_callVN1 (ar := 1) hC hR (c_X0_firstUnlike (hlJ hC) g σ hI hc5 ((σ).2 (1 + a.toNat) s) (by omega)) [] rfl (4 + c.toNat) (hw_bk g _ hc5) rfl rfl (by decide) (by decide +kernel) rfl wd511 wd513 wp22 wd3 wd514 (by decide) (Nat.le_of_ble_eq_true rfl) dX3_borrow_73 ?_
  have hf73 : fuB σ c.toNat ((σ).2 (1 + a.toNat) s) = -1 ∨ (0 ≤ fuB σ c.toNat ((σ).2 (1 + a.toNat) s) ∧ fuB σ c.toNat ((σ).2 (1 + a.toNat) s) < 2304) := fuF_rg _ _ _ (by omega) 4 0 (by omega)
  refine j_istore hC dX3_borrow_76 [(7, vI (fuB σ c.toNat ((σ).2 (1 + a.toNat) s))), (6, vI ((σ).2 (6 + a.toNat) s)), (5, .ref (gd g (4 + c.toNat))), (4, .ref (gd g (4 + a.toNat))), (0, .ref (gd g (0))), (1, vI (a)), (2, vI (s)), (3, vI (c))] (by decide) rfl ?_
  refine j_iload hC dX3_borrow_78 0 rfl ?_
  refine j_iconst hC dX3_borrow_80 ?_
  refine j_icmp_ne (tgt := 94) hC dX3_borrow_81 (by decide) (by omega) (fun _ => ?_) (fun h => absurd h (by omega))
  refine j_aload hC dX3_borrow_94 2 rfl ?_
  refine j_iload hC dX3_borrow_96 0 rfl ?_
  refine j_iload hC dX3_borrow_98 1 rfl ?_
  refine j_callVN1 (ar := 2) hC hR (c_X0_append (hlJ hC) g σ hc5 (fuB σ c.toNat ((σ).2 (1 + a.toNat) s)) ((σ).2 (6 + a.toNat) s) (by omega)) [] rfl (4 + c.toNat) (hw_bk g _ hc5) rfl rfl (by decide) (by decide +kernel) rfl wd478 wd480 wp20 wd3 wd481 (by decide) (Nat.le_of_ble_eq_true rfl) dX3_borrow_100 ?_
  exact j_iret hC dX3_borrow_103 ⟨rfl, rfl⟩
end
section
theorem pO_rg (c : Int → Int → Bool) : ∀ (d : Nat) (z a : Int), d ≤ 16 → a ≤ pO c d z a ∧ pO c d z a ≤ a + 16 * d := by
  intro d
  induction d with
  | zero => intro z a _; exact ⟨Int.le_refl _, by simp [pO]⟩
  | succ d ih =>
    intro z a h
    unfold pO
    have h1 := cnt_rg (c z) d (z + 1) a
    have h2 := ih (z + 1) (cnt (c z) d (z + 1) a) (by omega)
    omega
theorem pOB_rg (c : Int → Int → Bool) {σ : Sg} (hI : IC σ) {b : Nat} (hb : b < 5) : 0 ≤ pO c (cN σ b) 0 0 ∧ pO c (cN σ b) 0 0 ≤ 256 := by
  have h1 := cN_eq hI hb
  have h2 := hI.2.2.2.1 b hb
  have h3 := pO_rg c (cN σ b) 0 0 (by omega)
  omega
theorem faB_rg {σ : Sg} (hI : IC σ) {b : Nat} (hb : b < 5) : 0 ≤ faB σ b ∧ faB σ b ≤ 100 := by
  have h1 := cN_eq hI hb
  have h2 := hI.2.2.2.1 b hb
  unfold faB
  split
  · omega
  · refine nbF_rg _ (-1) (cN σ b) 0 100 (fun y h3 h4 => ?_) (by omega) (by omega)
    exact nbB_rg hI hb y (hI.2.2.2.2.1 b hb y h3 (by omega))
theorem snB_rg {σ : Sg} (hI : IC σ) {b : Nat} (hb : b < 5) : -1 ≤ snB σ b ∧ snB σ b ≤ 16 := by
  have h1 := cN_eq hI hb
  have h2 := hI.2.2.2.1 b hb
  exact amF_rg _ (cN σ b) 0 (-1) (-1) (by omega) (by omega) (by omega) (by omega)
def msF (σ : Sg) : Nat → Int → Int → Int
  | 0, _, a => a
  | d + 1, z, a => msF σ d (z + 1) (a + σ.1 (2 + z.toNat))
def msB (σ : Sg) : UInt64 := if σ.1 0 = 0 then 0 else FP.ddiv (FP.i2d (iI (msF σ (σ.1 0).toNat 0 0))) (FP.i2d (iI (σ.1 0)))
theorem msF_rg {σ : Sg} (hI : IC σ) : ∀ (d : Nat) (z a : Int), 0 ≤ z → z + d ≤ 4 → a ≤ msF σ d z a ∧ msF σ d z a ≤ a + 16 * d := by
  intro d
  induction d with
  | zero => intro z a _ _; exact ⟨Int.le_refl _, by simp [msF]⟩
  | succ d ih =>
    intro z a h0 h
    have h1 := hI.2.2.2.1 z.toNat (by omega)
    have h2 := ih (z + 1) (a + σ.1 (2 + z.toNat)) (by omega) (by omega)
    unfold msF
    omega
theorem dv_a : ∀ x : Fin 65, ∀ y : Fin 5, y.1 = 0 ∨ (FP.ddiv (FP.i2d (Int32.ofNat x.1)) (FP.i2d (Int32.ofNat y.1))) &&& 0x7fffffffffffffff ≤ 0x7ff0000000000000 := by decide +kernel
theorem dv_ok {x y : Int} (hx : 0 ≤ x ∧ x ≤ 64) (hy : 0 < y ∧ y ≤ 4) : vf_n64 (FP.ddiv (FP.i2d (iI x)) (FP.i2d (iI y))) := by
  obtain ⟨x, rfl⟩ := Int.eq_ofNat_of_zero_le hx.1
  obtain ⟨y, rfl⟩ := Int.eq_ofNat_of_zero_le (show 0 ≤ y by omega)
  rcases dv_a ⟨x, by omega⟩ ⟨y, by omega⟩ with h | h
  · have : y = 0 := h
    omega
  · rw [iI_nat, iI_nat]
    exact h
end
section
set_option maxHeartbeats 4000000 in
set_option maxRecDepth 100000 in
theorem lp_meanSigns {mc : MC} {g : GG} {σ : Sg} (hC : Cx mc g cX3_meanSigns RX3 3 (some .double)) (hR : mR mc = rmJ 0 0 0 0) (hI : IC σ) (h1 : 0 < σ.1 0) : ∀ (d : Nat) (z : Int) (a : Int), (0 ≤ z) → (z + (d : Int) = σ.1 0) → (0 ≤ a ∧ a ≤ 16 * z) → J mc g 0 0 (QN mc g (pt (some (.double (FP.ddiv (FP.i2d (iI (msF σ d z a))) (FP.i2d (iI (σ.1 0)))))) (σ)) 0 0) 13 [(2, vI (z)), (1, vI (a)), (0, .ref (gd g (0)))] [] σ := by
  intro d
  induction d with
  | zero =>
    intro z a h0 hz ha
    have hI1 := hI.1
    have hdv := dv_ok (x := a) (y := σ.1 0) (by omega) (by omega)
    refine j_iload_n hC dX3_meanSigns_13 0 rfl ?_
    refine j_aload_n hC dX3_meanSigns_14 2 rfl ?_
    refine j_get hC inX3 rfl 0 rfl 3 (by decide) wd63 rfl dX3_meanSigns_15 ?_
    refine j_icmp_ge (tgt := 39) hC dX3_meanSigns_18 (by decide) (by omega) (fun _ => ?_) (fun h => absurd h (by omega))
    refine j_iload_n hC dX3_meanSigns_39 1 rfl ?_
    refine j_i2d hC dX3_meanSigns_40 ?_
    refine j_aload_n hC dX3_meanSigns_41 2 rfl ?_
    refine j_get hC inX3 rfl 0 rfl 3 (by decide) wd63 rfl dX3_meanSigns_42 ?_
    refine j_i2d hC dX3_meanSigns_45 ?_
    refine j_ddiv hC dX3_meanSigns_46 hdv ?_
    exact j_dret hC dX3_meanSigns_47 ⟨rfl, rfl⟩
  | succ d ih =>
    intro z a h0 hz ha
    have hI1 := hI.1
    have hz5 : z.toNat < 5 := by omega
    have hcz := hI.2.2.2.1 z.toNat hz5
    rw [show msF σ (d + 1) z a = msF σ d (z + 1) (a + σ.1 (2 + z.toNat)) from rfl]
    refine j_iload_n hC dX3_meanSigns_13 0 rfl ?_
    refine j_aload_n hC dX3_meanSigns_14 2 rfl ?_
    refine j_get hC inX3 rfl 0 rfl 3 (by decide) wd63 rfl dX3_meanSigns_15 ?_
    refine j_icmp_ge (tgt := 39) hC dX3_meanSigns_18 (by decide) (by omega) (fun h => absurd h (by omega)) (fun _ => ?_)
    refine j_iload_n hC dX3_meanSigns_21 1 rfl ?_
    refine j_aload_n hC dX3_meanSigns_22 2 rfl ?_
    refine j_get hC inX3 rfl 0 rfl 1 (by decide) wd61 rfl dX3_meanSigns_23 ?_
    refine j_iload_n hC dX3_meanSigns_26 0 rfl ?_
    refine j_aald hC (by omega) dX3_meanSigns_27 ?_
    refine j_getN hC inX0 rfl (4 + z.toNat) (hw_bk g _ hz5) 3 (by decide) wd50 rfl dX3_meanSigns_28 ?_
    refine j_iadd hC dX3_meanSigns_31 ?_
    refine j_istore_n hC dX3_meanSigns_32 [(1, vI (a + ((σ).1 (2 + z.toNat)))), (2, vI (z)), (0, .ref (gd g (0)))] (by decide) rfl ?_
    refine j_iinc hC dX3_meanSigns_33 1 [(2, vI (z + 1)), (1, vI (a + ((σ).1 (2 + z.toNat)))), (0, .ref (gd g (0)))] rfl (by decide) rfl ?_
    refine j_goto (tgt := 13) hC dX3_meanSigns_36 (by decide) ?_
    refine j_sub [0, 1, 2] rfl ?_
    exact ih (z + 1) _ (by omega) (by omega) (by omega)
set_option maxHeartbeats 4000000 in
set_option maxRecDepth 100000 in
theorem c_X3_meanSigns {l : Launch} (hl : l.stackTraces = false) (g : GG) (σ : Sg) (hI : IC σ)  : CN l yX3_meanSigns cX3_meanSigns 3 (some .double) 0 0 0 0 g [.ref (gd g (0))] σ (pt (some (.double (msB σ))) (σ)) := by
  refine CN_of (own := RX3) hl (by decide) rfl (Nat.le_of_ble_eq_true rfl) (fun mc hC _ hR => ?_)
  refine j_lv (lv2 := [(0, .ref (gd g (0)))]) rfl ?_
  have hI1 := hI.1
  refine j_aload_n hC dX3_meanSigns_0 0 rfl ?_
  refine j_get hC inX3 rfl 0 rfl 3 (by decide) wd63 rfl dX3_meanSigns_1 ?_
  refine j_if_ne (tgt := 9) hC dX3_meanSigns_4 (by decide) (by omega) (fun h4 => ?_) (fun h4 => ?_)
  · refine j_iconst hC dX3_meanSigns_9 ?_
    refine j_istore_n hC dX3_meanSigns_10 [(1, vI (0)), (0, .ref (gd g (0)))] (by decide) rfl ?_
    refine j_iconst hC dX3_meanSigns_11 ?_
    refine j_istore_n hC dX3_meanSigns_12 [(2, vI (0)), (1, vI (0)), (0, .ref (gd g (0)))] (by decide) rfl ?_
    refine j_sub [0, 1, 2] rfl ?_
    rw [show msB σ = FP.ddiv (FP.i2d (iI (msF σ (σ.1 0).toNat 0 0))) (FP.i2d (iI (σ.1 0))) from if_neg (by omega)]
    exact lp_meanSigns hC hR hI (by omega) (σ.1 0).toNat 0 0 (by omega) (by omega) (by omega)
  · refine j_dconst0 hC dX3_meanSigns_7 ?_
    exact j_dret hC dX3_meanSigns_8 ⟨by unfold msB; rw [if_pos h4], rfl⟩
end
section
/-! the law's own cells: a world that the law's methods change and let grow; its cells are known by membership -/
/-- the same, but with these cells of the law's own -/
abbrev gx (g : GG) (X : va_W) : GG := (g.1, g.2.1, g.2.2.1, g.2.2.2.1, X, g.2.2.2.2.2)
abbrev zi (g : GG) (f : Int → Int) (n : Nat) : va_E := .inl (gZ g, n, .inl (fun j : Nat => iI (f (j : Int))))
abbrev rq (c : ClassId) (n : Nat) (f : Nat → Option Nat) : va_E := .inl (c, n, .inr (.inr (.inr (.inr f))))
/-- X with the cell a turned into e: it is there, and all others still are -/
def Wr (X : va_W) (a : Nat) (e : va_E) (Y : va_W) : Prop := (a, e) ∈ Y ∧ ∀ q ∈ X, q.1 ≠ a → q ∈ Y
/-- X and a new cell -/
def Nu (X : va_W) (a : Nat) (e : va_E) (Y : va_W) : Prop := (a, e) ∈ Y ∧ (∀ q ∈ X, q ∈ Y) ∧ ∀ q ∈ X, q.1 ≠ a
def Sb (X Y : va_W) : Prop := ∀ q ∈ X, q ∈ Y
/-- no cell of X is there -/
def Fr (X : va_W) (a : Nat) : Prop := ∀ q ∈ X, q.1 ≠ a
theorem Sb.rf {X : va_W} : Sb X X := fun _ h => h
theorem Sb.tr {X Y Z : va_W} (h : Sb X Y) (h2 : Sb Y Z) : Sb X Z := fun q hq => h2 q (h q hq)
theorem Sb.wr {X Y Z : va_W} {a : Nat} {e : va_E} (h : Sb X Y) (hf : Fr X a) (w : Wr Y a e Z) : Sb X Z := fun q hq => w.2 q (h q hq) (hf q hq)
theorem Nu.sb {X Y : va_W} {a : Nat} {e : va_E} (h : Nu X a e Y) : Sb X Y := h.2.1
theorem Nu.fr {X Y X0 : va_W} {a : Nat} {e : va_E} (h : Nu X a e Y) (h0 : Sb X0 X) : Fr X0 a := fun q hq => h.2.2 q (h0 q hq)
theorem Fr.sub {X Y : va_W} {a : Nat} (h : Fr Y a) (h0 : Sb X Y) : Fr X a := fun q hq => h q (h0 q hq)
theorem Wr.ot {X Y : va_W} {a b : Nat} {e e2 : va_E} (w : Wr X a e Y) (h : (b, e2) ∈ X) (hn : b ≠ a) : (b, e2) ∈ Y := w.2 _ h hn
theorem x_mem {g : GG} {σ : Sg} {q : Nat × va_E} (h : q ∈ gX g) : ∃ i : Nat, (hw g σ)[i]? = some q := by
  have h2 : q ∈ hw g σ := List.mem_append_right _ h
  exact List.getElem?_of_mem h2
theorem x_at {g : GG} {σ : Sg} {q : Nat × va_E} (h : q ∈ gX g) : ∃ i : Nat, (hw g σ)[19 + i]? = some q ∧ (gX g)[i]? = some q := by
  obtain ⟨i, hi⟩ := List.getElem?_of_mem h
  refine ⟨i, ?_, hi⟩
  show (([_, _, _, _, _, _, _, _, _, _, _, _, _, _, _, _, _, _, _] : va_W) ++ gX g)[19 + i]? = some q
  rw [List.getElem?_append_right (by show 19 ≤ 19 + i; omega)]
  show (gX g)[19 + i - 19]? = some q
  rw [Nat.add_sub_cancel_left]
  exact hi
theorem va_D_ad {A : Nat → Prop} {w w2 : va_W} (h : w.map Prod.fst = w2.map Prod.fst) (hD : va_D A w) : va_D A w2 := by
  have key : ∀ (k : Nat) (q : Nat × va_E), w2[k]? = some q → ∃ p, w[k]? = some p ∧ p.1 = q.1 := by
    intro k q hk
    have h1 : (w.map Prod.fst)[k]? = some q.1 := by rw [h, List.getElem?_map, hk]; rfl
    rw [List.getElem?_map] at h1
    cases hp : w[k]? with
    | none => rw [hp] at h1; cases h1
    | some p => rw [hp] at h1; exact ⟨p, rfl, Option.some.inj h1⟩
  refine ⟨fun i j p q hi hj e => ?_, fun k q hk => ?_⟩
  · obtain ⟨p1, h1, h2⟩ := key i p hi
    obtain ⟨q1, h3, h4⟩ := key j q hj
    exact hD.1 i j p1 q1 h1 h3 (h2.trans (e.trans h4.symm))
  · obtain ⟨p, h1, h2⟩ := key k q hk
    rw [← h2]
    exact hD.2 k p h1
theorem hw_ad (g : GG) (σ τ : Sg) : (hw g σ).map Prod.fst = (hw g τ).map Prod.fst := by
  show (([_, _, _, _, _, _, _, _, _, _, _, _, _, _, _, _, _, _, _] : va_W) ++ gX g).map Prod.fst = (([_, _, _, _, _, _, _, _, _, _, _, _, _, _, _, _, _, _, _] : va_W) ++ gX g).map Prod.fst
  rw [List.map_append, List.map_append]
  rfl
theorem va_D_all {g : GG} {σ : Sg} (h : va_D (gA g) (hw g σ)) : ∀ τ, va_D (gA g) (hw g τ) := fun τ => va_D_ad (hw_ad g σ τ) h
/-- a cell has one content -/
theorem x_uni {g : GG} {σ : Sg} {a : Nat} {e1 e2 : va_E} (hD : va_D (gA g) (hw g σ)) (h1 : (a, e1) ∈ gX g) (h2 : (a, e2) ∈ gX g) : e1 = e2 := by
  obtain ⟨i, hi⟩ := x_mem (σ := σ) h1
  obtain ⟨j, hj⟩ := x_mem (σ := σ) h2
  have := hD.1 i j _ _ hi hj rfl
  subst this
  exact congrArg Prod.snd (Option.some.inj (hi.symm.trans hj))
theorem hw_set (g : GG) (σ : Sg) (i : Nat) (q : Nat × va_E) : (hw g σ).set (19 + i) q = hw (gx g ((gX g).set i q)) σ := by
  show (([_, _, _, _, _, _, _, _, _, _, _, _, _, _, _, _, _, _, _] : va_W) ++ gX g).set (19 + i) q = _
  rw [List.set_append_right _ _ (by show 19 ≤ 19 + i; omega)]
  show _ ++ (gX g).set (19 + i - 19) q = _
  rw [Nat.add_sub_cancel_left]
  rfl
theorem hw_app (g : GG) (σ : Sg) (w : va_W) : hw g σ ++ w = hw (gx g (gX g ++ w)) σ := by
  show (([_, _, _, _, _, _, _, _, _, _, _, _, _, _, _, _, _, _, _] : va_W) ++ gX g) ++ w = _
  rw [List.append_assoc]
  rfl
theorem Wr_set {X : va_W} {i a : Nat} {e0 e : va_E} (h : X[i]? = some (a, e0)) : Wr X a e (X.set i (a, e)) := by
  have hl := (List.getElem?_eq_some_iff.mp h).1
  refine ⟨List.mem_of_getElem? (i := i) (by rw [List.getElem?_set_self hl]), fun q hq hn => ?_⟩
  obtain ⟨j, hj⟩ := List.getElem?_of_mem hq
  have hji : i ≠ j := fun z => by
    subst z
    exact hn (congrArg Prod.fst (Option.some.inj (hj.symm.trans h)))
  exact List.mem_of_getElem? (i := j) (by rw [List.getElem?_set_ne hji]; exact hj)
theorem Nu_app {g : GG} {σ : Sg} {a : Nat} {e : va_E} (hD : va_D (gA g) (hw g σ ++ [(a, e)])) : Nu (gX g) a e (gX g ++ [(a, e)]) := by
  refine ⟨List.mem_append_right _ List.mem_cons_self, fun q hq => List.mem_append_left _ hq, fun q hq z => ?_⟩
  obtain ⟨i, hi⟩ := x_mem (σ := σ) hq
  have hl := (List.getElem?_eq_some_iff.mp hi).1
  have h1 : (hw g σ ++ [(a, e)])[i]? = some q := by rw [List.getElem?_append_left hl]; exact hi
  have h2 : (hw g σ ++ [(a, e)])[(hw g σ).length]? = some (a, e) := by rw [List.getElem?_append_right (Nat.le_refl _), Nat.sub_self]; rfl
  have := hD.1 _ _ _ _ h1 h2 z
  omega
theorem Cx_x {mc : MC} {g : GG} {X0 X : va_W} {cc : ByteArray} {own : String} {nL : Nat} {ret : Option FieldType} (hC : Cx mc (gx g X0) cc own nL ret) (hD : ∀ τ, va_D (gA g) (hw (gx g X) τ)) : Cx mc (gx g X) cc own nL ret := by
  obtain ⟨a1, a2, a3, a4, a5, a6, a7, a8, a9, -, a11, a12, a13⟩ := hC
  exact ⟨a1, a2, a3, a4, a5, a6, a7, a8, a9, hD, a11, a12, a13⟩
theorem x_fc {U : State} {t : FieldType} {c : ClassId} (ht : ∀ C, t ≠ .object C) (h : va_RA U c t) : U.vm.findClass ("[" ++ t.toString) = some c := by
  cases t <;> first | exact h | exact absurd rfl (ht _)
section XJ
variable {mc : MC} {g : GG} {X : va_W} {k n : Nat} {Q : State → Prop} {pc : Nat} {lv : List (Nat × Value)} {st : List Value} {σ : Sg} {cc : ByteArray} {own : String} {nL : Nat} {ret : Option FieldType}
theorem hX_D (hC : Cx mc g cc own nL ret) (σ : Sg) : va_D (gA g) (hw g σ) := hC.2.2.2.2.2.2.2.2.2.1 σ
theorem hX_K (hC : Cx mc g cc own nL ret) : va_K (gD g) vwCl (gT g) (mS mc) := hC.2.2.2.2.2.2.1
theorem hX_T (hC : Cx mc g cc own nL ret) : TH g (mS mc) (mS mc).heap := hC.2.2.2.2.2.2.2.2.1
theorem hX_A (hC : Cx mc g cc own nL ret) : ∀ q, (mS mc).heap.size ≤ q → gA g q := gA_new hC.2.2.2.2.2.2.2.2.2.2.1
theorem x_one (hC : Cx mc g cc own nL ret) {a : Nat} {e1 e2 : va_E} (h1 : (a, e1) ∈ gX g) (h2 : (a, e2) ∈ gX g) : e1 = e2 := x_uni (hX_D hC (fun _ => 0, fun _ _ => 0)) h1 h2
/-! reading -/
theorem x_iald (hC : Cx mc g cc own nL ret) {a m0 : Nat} {f : Int → Int} {z : Int} (he : (a, ri g f m0) ∈ gX g) (hz : 0 ≤ z ∧ z < m0 ∧ m0 ≤ 2147483647) (hd : decode cc pc = .ok (.iaload, 1)) (kk : J mc g k n Q (pc + 1) lv (vI (f z) :: st) σ) : J mc g k n Q pc lv (vI z :: .ref a :: st) σ := by
  obtain ⟨i, hi⟩ := x_mem (σ := σ) he
  exact j_iald hC i hi hz hd kk
theorem x_zald (hC : Cx mc g cc own nL ret) {a m0 : Nat} {f : Int → Int} {z : Int} (he : (a, zi g f m0) ∈ gX g) (hz : 0 ≤ z ∧ z < m0 ∧ m0 ≤ 2147483647) (hd : decode cc pc = .ok (.baload, 1)) (kk : J mc g k n Q (pc + 1) lv (vI (f z) :: st) σ) : J mc g k n Q pc lv (vI z :: .ref a :: st) σ := by
  obtain ⟨i, hi⟩ := x_mem (σ := σ) he
  intro H locs ls hP hS hl
  refine va_zald hC.1 hC.2.1 (hX_K hC) hP i 1 hi rfl (iI_in hz.1 hz.2.1 hz.2.2) hd ?_
  have e : ((iI z).toNatClampNeg : Int) = z := by rw [iI_clamp (by omega) (by omega), Int.toNat_of_nonneg hz.1]
  show W _ _ _ _ _ _ _ _ _ _ _ _ _ _ _ (F0 _ _ _ (.int (iI (f ((iI z).toNatClampNeg : Int))) :: st))
  rw [e]
  exact kk H locs ls hP hS hl
theorem x_rald (hC : Cx mc g cc own nL ret) {a n0 v : Nat} {c : ClassId} {f : Nat → Option Nat} {z : Int} {ty : FieldType} (he : (a, rq c n0 f) ∈ gX g) (t0 : Nat) (ht : (gT g)[t0]? = some (c, ty)) (hr : ty.isReference = true) (hv : f z.toNat = some v) (hz : 0 ≤ z ∧ z < n0 ∧ n0 ≤ 2147483647) (hd : decode cc pc = .ok (.aaload, 1)) (kk : J mc g k n Q (pc + 1) lv (.ref v :: st) σ) : J mc g k n Q pc lv (vI z :: .ref a :: st) σ := by
  obtain ⟨i, hi⟩ := x_mem (σ := σ) he
  intro H locs ls hP hS hl
  have hin : vp_in (iI z) n0 := iI_in hz.1 hz.2.1 hz.2.2
  have hlt : (iI z).toNatClampNeg < n0 := Nat.not_le.mp fun q => hin (Or.inr q)
  exact W.aald (v := .ref v) (ty := ty) hC.1 hC.2.1 (hP i _ hi) (((hX_K hC).2 t0 _ ht).1 n0 (fun j => va_rf (f j))) hr (fun q => by cases q) (by show ¬ (_ ∨ (arrV _ _ _).slots.size ≤ _); rw [arrV_size]; exact hin) (by show (arrV _ _ _).slots[_]? = _; rw [arrV_read _ _ hlt, iI_clamp (by omega) (by omega), hv]; rfl) rfl rfl hd (kk H locs ls hP hS hl)
theorem x_alen (hC : Cx mc g cc own nL ret) {a : Nat} {c : ClassId} {x : vp_A} {ty : FieldType} {z : Int} (he : (a, .inl (c, x)) ∈ gX g) (t0 : Nat) (ht : (gT g)[t0]? = some (c, ty)) (hz : (x.1 : Int) = z) (hd : decode cc pc = .ok (.arraylength, 1)) (kk : J mc g k n Q (pc + 1) lv (vI z :: st) σ) : J mc g k n Q pc lv (.ref a :: st) σ := by
  obtain ⟨i, hi⟩ := x_mem (σ := σ) he
  subst hz
  exact fun H locs ls hP hS hl => va_alen hC.1 hC.2.1 (hX_K hC) hP i t0 hi ht (iI_nat _).symm hd (kk H locs ls hP hS hl)
theorem x_get (hC : Cx mc g cc own nL ret) {index a : Nat} {fs : List Value} {v : Value} (he : (a, .inr (3, fs)) ∈ gX g) (f : Nat) (hf : f < 2) (hlink : Cond.fieldLink own index (TX4 f).1 (TX4 f).2.1 (TX4 f).2.2.1 ∈ wsA) (hv : fs[f]? = some v) (hd : decode cc pc = .ok (.getfield index, 3)) (kk : J mc g k n Q (pc + 3) lv (v :: st) σ) : J mc g k n Q pc lv (.ref a :: st) σ := by
  obtain ⟨i, hi⟩ := x_mem (σ := σ) he
  exact j_get hC inX4 rfl i hi f hf hlink hv hd kk
/-! the script -/
theorem x_sld (hC : Cx mc g cc own nL ret) {z : Int} (hz : 0 ≤ z ∧ z < gn g ∧ gn g ≤ 2147483647) (hd : decode cc pc = .ok (.iaload, 1)) (kk : ∀ x : Int32, J mc g k n Q (pc + 1) lv (.int x :: st) σ) : J mc g k n Q pc lv (vI z :: .ref (gb g) :: st) σ := by
  intro H locs ls hP hS hl
  have hT := hX_T hC
  obtain ⟨scr, h1, -⟩ := id hT.2.2.2.2.2
  exact va_sld hC.1 hC.2.1 hT.2.2.2.2.2 (Array.getElem?_eq_some_iff.mp h1).1 (Nat.not_le.mpr hT.2.2.2.2.1) hS (iI_in hz.1 hz.2.1 hz.2.2) hd (kk _ H locs ls hP hS hl)
theorem x_slen (hC : Cx mc g cc own nL ret) (hd : decode cc pc = .ok (.arraylength, 1)) (kk : J mc g k n Q (pc + 1) lv (vI (gn g : Int) :: st) σ) : J mc g k n Q pc lv (.ref (gb g) :: st) σ := by
  intro H locs ls hP hS hl
  have hT := hX_T hC
  obtain ⟨scr, h1, -⟩ := id hT.2.2.2.2.2
  refine va_slen hC.1 hC.2.1 hT.2.2.2.2.2 (Array.getElem?_eq_some_iff.mp h1).1 (Nat.not_le.mpr hT.2.2.2.2.1) hS hd ?_
  rw [← iI_nat]
  exact kk H locs ls hP hS hl
/-! writing -/
theorem x_iast (hC : Cx mc (gx g X) cc own nL ret) {a m0 : Nat} {f : Int → Int} {z x : Int} (he : (a, ri g f m0) ∈ X) (hz : 0 ≤ z ∧ z < m0 ∧ m0 ≤ 2147483647) (hd : decode cc pc = .ok (.iastore, 1)) (kk : ∀ Y, Wr X a (ri g (fun j => if j = z then x else f j) m0) Y → Cx mc (gx g Y) cc own nL ret → J mc (gx g Y) k n Q (pc + 1) lv st σ) : J mc (gx g X) k n Q pc lv (vI x :: vI z :: .ref a :: st) σ := by
  obtain ⟨i, hi, hi2⟩ := x_at (g := gx g X) (σ := σ) he
  intro H locs ls hP hS hl
  refine va_iast hC.1 hC.2.1 (hX_K hC) hP (hX_D hC σ) hS _ 0 hi rfl (iI_in hz.1 hz.2.1 hz.2.2) hd (fun H1 locs1 hP1 hD1 hS1 => ?_)
  rw [iI_up hz.1 (by omega)] at hP1 hD1
  rw [hw_set] at hP1 hD1
  exact kk _ (Wr_set hi2) (Cx_x hC (va_D_all hD1)) H1 locs1 ls hP1 hS1 hl
theorem x_zast (hC : Cx mc (gx g X) cc own nL ret) {a m0 : Nat} {f : Int → Int} {z x : Int} (he : (a, zi g f m0) ∈ X) (hx : x = 0 ∨ x = 1) (hz : 0 ≤ z ∧ z < m0 ∧ m0 ≤ 2147483647) (hd : decode cc pc = .ok (.bastore, 1)) (kk : ∀ Y, Wr X a (zi g (fun j => if j = z then x else f j) m0) Y → Cx mc (gx g Y) cc own nL ret → J mc (gx g Y) k n Q (pc + 1) lv st σ) : J mc (gx g X) k n Q pc lv (vI x :: vI z :: .ref a :: st) σ := by
  obtain ⟨i, hi, hi2⟩ := x_at (g := gx g X) (σ := σ) he
  intro H locs ls hP hS hl
  refine va_zast hC.1 hC.2.1 (hX_K hC) hP (hX_D hC σ) hS _ 1 hi rfl (iI_in hz.1 hz.2.1 hz.2.2) hd (fun H1 locs1 hP1 hD1 hS1 => ?_)
  have e : vp_nar .boolean (iI x) = iI x := by rcases hx with rfl | rfl <;> decide
  rw [e, iI_up hz.1 (by omega)] at hP1 hD1
  rw [hw_set] at hP1 hD1
  exact kk _ (Wr_set hi2) (Cx_x hC (va_D_all hD1)) H1 locs1 ls hP1 hS1 hl
theorem asg_refl (vm : Vm) (c : ClassId) : vm.assignable c c = true := by
  show vm.assignableAux (255 + 1) c c = true
  rw [Vm.assignableAux, beq_self_eq_true, Bool.true_or]
theorem vp_cell_cls (c : ClassId) (y : vp_A) : (vp_cell c y).cls = c ∧ (vp_cell c y).vm = .none := by
  obtain ⟨n, f | f | f | f | f⟩ := y <;> exact ⟨rfl, rfl⟩
theorem x_rast (hC : Cx mc (gx g X) cc own nL ret) {a n0 v : Nat} {c c2 : ClassId} {f : Nat → Option Nat} {z : Int} {t : FieldType} {y : vp_A} (he : (a, rq c n0 f) ∈ X) (hv : (v, .inl (c2, y)) ∈ X) (t0 t1 : Nat) (ht : (gT g)[t0]? = some (c, .array t)) (ht1 : (gT g)[t1]? = some (c2, t)) (hao : va_AOA t (mS mc)) (hno : ∀ C, t ≠ .object C) (hz : 0 ≤ z ∧ z < n0 ∧ n0 ≤ 2147483647) (hd : decode cc pc = .ok (.aastore, 1)) (kk : ∀ Y, Wr X a (rq c n0 (fun j => if j = z.toNat then some v else f j)) Y → Cx mc (gx g Y) cc own nL ret → J mc (gx g Y) k n Q (pc + 1) lv st σ) : J mc (gx g X) k n Q pc lv (.ref v :: vI z :: .ref a :: st) σ := by
  obtain ⟨i, hi, hi2⟩ := x_at (g := gx g X) (σ := σ) he
  obtain ⟨j, hj⟩ := x_mem (g := gx g X) (σ := σ) hv
  intro H locs ls hP hS hl
  have hK := hX_K hC
  have hin : vp_in (iI z) n0 := iI_in hz.1 hz.2.1 hz.2.2
  have hlt : (iI z).toNatClampNeg < n0 := Nat.not_le.mp fun q => hin (Or.inr q)
  have h0 : ¬ (iI z) < 0 := fun q => hin (Or.inl q)
  obtain ⟨comp, c3, kA, f1, -, f3, f4, f5⟩ := arrayOverA_spec hao
  have e1 : c3 = c := Option.some.inj (f5.symm.trans (x_fc (fun C h => by cases h) (hK.2 t0 _ ht).2))
  have e2 : comp = c2 := Option.some.inj (f1.symm.trans (x_fc hno (hK.2 t1 _ ht1).2))
  subst e1 e2
  obtain ⟨kC, hkC, -⟩ := Vm.findClass_spec f1
  have hcv : H[v]? = some (vp_cell comp y) := hP j _ hj
  have hcl := vp_cell_cls comp y
  refine W.aast hC.1 hC.2.1 (hP _ _ hi) (fun q h => by cases h) (fun h => by cases h) f3 f4 rfl hkC ⟨h0, by show _ < (arrV _ _ _).slots.size; rw [arrV_size]; exact hlt⟩ hcv (fun q h => by rw [hcl.2] at h; cases h) (by rw [hcl.1]; exact hkC) (by rw [hcl.1]; exact asg_refl _ _) rfl rfl hd fun H1 e z1 oq => ?_
  have hD := hX_D hC σ
  have he1 : va_at (gD g) vwCl (a, rq c3 n0 (fun j => if j = z.toNat then some v else f j)) H1 := by
    show H1[a]? = some (vp_cell _ _)
    rw [e]
    show some (Cell.setSlot (vp_cell c3 (n0, .inr (.inr (.inr (.inr f))))) _ _) = _
    rw [vp_cell_q, vp_cell_q, arrV_store]
    congr 2
    funext q
    rw [iI_clamp (by omega) (by omega)]
    by_cases hq : q = z.toNat
    · subst hq
      simp [updV, va_rf]
    · simp [updV, hq]
  have hP1 := va_P.set hP hD hi he1 oq
  have hD1 := hD.set (e := rq c3 n0 (fun j => if j = z.toNat then some v else f j)) hi
  rw [hw_set] at hP1 hD1
  exact kk _ (Wr_set hi2) (Cx_x hC (va_D_all hD1)) H1 _ ls hP1 (hS.put z1 oq (hD.2 _ _ hi)) hl
theorem x_put (hC : Cx mc (gx g X) cc own nL ret) {index a b : Nat} {fs : List Value} (he : (a, .inr (3, fs)) ∈ X) (f : Nat) (hf : f < 2) (hlink : Cond.fieldLink own index (TX4 f).1 (TX4 f).2.1 (TX4 f).2.2.1 ∈ wsA) (hlen : f < fs.length) (hd : decode cc pc = .ok (.putfield index, 3)) (kk : ∀ Y, Wr X a (.inr (3, fs.set f (.ref b))) Y → Cx mc (gx g Y) cc own nL ret → J mc (gx g Y) k n Q (pc + 3) lv st σ) : J mc (gx g X) k n Q pc lv (.ref b :: .ref a :: st) σ := by
  obtain ⟨i, hi, hi2⟩ := x_at (g := gx g X) (σ := σ) he
  intro H locs ls hP hS hl
  refine va_put (ty := tyX4 f) (own := own) hC.1 hC.2.1 hC.2.2.2.2.1 inX4 tyX4 tyX4_ok nmX4 hC.2.2.2.1 (hX_K hC) hP (hX_D hC σ) hS _ hi rfl f hf (hC.2.2.2.2.1 _ hlink) (fun _ h => h) ?_ (tyX4_ok f hf) ?_ ?_ hlen hd (fun H1 locs1 hP1 hD1 hS1 => ?_)
  · rcases (show f = 0 ∨ f = 1 by omega) with rfl | rfl <;> rfl
  · rcases (show f = 0 ∨ f = 1 by omega) with rfl | rfl <;> rfl
  · rcases (show f = 0 ∨ f = 1 by omega) with rfl | rfl <;> rfl
  · rw [hw_set] at hP1 hD1
    exact kk _ (Wr_set hi2) (Cx_x hC (va_D_all hD1)) H1 locs1 ls hP1 hS1 hl
/-! making -/
theorem x_newI (hC : Cx mc (gx g X) cc own nL ret) {fr lo K N : Nat} (hR : mR mc = rmJ fr lo K N) (m0 : Nat) {z : Int} (hz : z = (m0 : Int)) (hm : m0 < 1000) (hroom : k + 1 ≤ K ∧ n + m0 ≤ N) (hd : decode cc pc = .ok (.newarray .int, 2))
    (kk : ∀ q Y, Nu X q (ri g (fun _ => 0) m0) Y → Cx mc (gx g Y) cc own nL ret → J mc (gx g Y) (k + 1) (n + m0) Q (pc + 2) lv (.ref q :: st) σ) : J mc (gx g X) k n Q pc lv (vI z :: st) σ := by
  subst hz
  intro H locs ls hP hS hl
  have hK := hX_K hC
  have hcl : (iI (m0 : Int)).toNatClampNeg = m0 := by rw [iI_clamp (by omega) (by omega)]; omega
  have nm : ¬ (iI (m0 : Int)) < 0 := by
    rw [← iI_0, iI_lt (by omega) (by omega) (by omega) (by omega)]
    omega
  refine va_newa (atype := .int) (N' := m0) (a0 := (m0, .inl (fun _ : Nat => iI 0))) hC.1 hC.2.1 (hC.2.2.2.2.1 _ wd36) rfl hK hP (hX_D hC σ) hS (hX_A hC) (fun cA => rfl) nm hcl (by show m0 * 4 ≤ _; omega) (by rw [hR]; exact hroom.1) (by rw [hR]; exact hroom.2) hd (fun q cA H1 hK1 hP1 hD1 hS1 => ?_)
  have e1 : (mS mc).vm.findClass ("[" ++ FieldType.int.toString) = some (gI g) := (hK.2 0 _ rfl).2
  have e2 : (mS mc).vm.findClass ("[" ++ FieldType.int.toString) = some cA := (hK1.2 (gT g).length (cA, .int) (by rw [List.getElem?_append_right (Nat.le_refl _), Nat.sub_self]; rfl)).2
  have e3 : cA = gI g := Option.some.inj (e2.symm.trans e1)
  subst e3
  have hn := Nu_app hD1
  rw [hw_app] at hP1 hD1
  exact kk q _ hn (Cx_x hC (va_D_all hD1)) H1 locs ls hP1 hS1 hl
theorem x_newR (hC : Cx mc (gx g X) cc own nL ret) {fr lo K N index : Nat} (hR : mR mc = rmJ fr lo K N) (m0 : Nat) {z : Int} {c : ClassId} {t : FieldType} (t0 : Nat) (ht : (gT g)[t0]? = some (c, .array t)) (hao : va_AOA t (mS mc)) (hz : z = (m0 : Int)) (hm : m0 < 1000) (hroom : k + 1 ≤ K ∧ n + m0 ≤ N) (hlink : Cond.classLink own index (FieldType.array t).toString ∈ wsA) (hd : decode cc pc = .ok (.anewarray index, 3))
    (kk : ∀ q Y, Nu X q (rq c m0 (fun _ => none)) Y → Cx mc (gx g Y) cc own nL ret → J mc (gx g Y) (k + 1) (n + m0) Q (pc + 3) lv (.ref q :: st) σ) : J mc (gx g X) k n Q pc lv (vI z :: st) σ := by
  subst hz
  intro H locs ls hP hS hl
  have hK := hX_K hC
  have hcl : (iI (m0 : Int)).toNatClampNeg = m0 := by rw [iI_clamp (by omega) (by omega)]; omega
  have nm : ¬ (iI (m0 : Int)) < 0 := by
    rw [← iI_0, iI_lt (by omega) (by omega) (by omega) (by omega)]
    omega
  refine W.anewA hC.1 hC.2.1 hC.2.2.2.1 (hC.2.2.2.2.1 _ hlink) (va_AOA.use hao) rfl hd rfl nm (by rw [hcl]; omega) (by rw [hR]; exact hroom.1) (by rw [hR, hcl]; exact hroom.2) fun cA kA comp f1 f2 f3 f4 => ?_
  have e3 : cA = c := Option.some.inj (f1.symm.trans (x_fc (fun C h => by cases h) (hK.2 t0 _ ht).2))
  subst e3
  rw [hcl]
  generalize hH1 : H.push ({ cls := cA, slots := Array.replicate m0 .null, vm := .none } : Cell) = H1
  have z1 : H1.size = H.size + 1 := by rw [← hH1, Array.size_push]
  have e1 : H1[H.size]? = some (arrV cA m0 (fun _ => .null)) := by rw [← hH1, Array.getElem?_push_size, ← arrV_new]
  have o1 : ∀ q : Nat, q < H.size → H1[q]? = H[q]? := fun q hq => by rw [← hH1, Array.getElem?_push, if_neg (Nat.ne_of_lt hq)]
  have hkp : ∀ (k : Nat) (x : Nat × va_E), (hw (gx g X) σ)[k]? = some x → H1[x.1]? = H[x.1]? := fun k x hx => o1 x.1 ((hP k x hx).lt)
  have hP1 : va_P (gD g) vwCl (hw (gx g X) σ ++ [(H.size, rq cA m0 (fun _ => none))]) H1 := (hP.kept hkp).app (fun k x hx => by
    have h0 : k < 1 := (List.getElem?_eq_some_iff.mp hx).1
    rw [show k = 0 by omega] at hx
    cases hx
    exact e1)
  have hD1 : va_D (gA g) (hw (gx g X) σ ++ [(H.size, rq cA m0 (fun _ => none))]) := (hX_D hC σ).push hP rfl (hX_A hC _ hS.1)
  have hn := Nu_app hD1
  rw [hw_app] at hP1 hD1
  exact kk H.size _ hn (Cx_x hC (va_D_all hD1)) H1 locs ls hP1 ⟨Nat.le_trans hS.1 (by omega), fun x h1 h2 => (o1 x (Nat.lt_of_lt_of_le h1 hS.1)).trans (hS.2.1 x h1 h2), hS.2.2⟩ hl
/-- a new T[N][M]: the outer array q, its rows r i -/
def Nm (X : va_W) (q : Nat) (r : Nat → Nat) (N : Nat) (e f : va_E) (Y : va_W) : Prop := (q, e) ∈ Y ∧ (∀ i, i < N → (r i, f) ∈ Y) ∧ Sb X Y ∧ Fr X q ∧ (∀ i, i < N → Fr X (r i)) ∧ (∀ i j, i < N → j < N → r i = r j → i = j) ∧ ∀ i, i < N → r i ≠ q
theorem x_mna (hC : Cx mc (gx g X) cc own nL ret) {fr lo K N index : Nat} (hR : mR mc = rmJ fr lo K N) (m1 m2 : Nat) {z1 z2 : Int} {c cy : ClassId} {t : FieldType} {row : vp_A} (t0 t1 : Nat) (ht : (gT g)[t0]? = some (c, .array t)) (ht1 : (gT g)[t1]? = some (cy, t)) (hao : va_AOA t (mS mc)) (hno : ∀ C, t ≠ .object C) (hz1 : z1 = (m1 : Int)) (hz2 : z2 = (m2 : Int)) (hm : m1 < 1000 ∧ m2 < 1000) (hb : m2 * componentBytes t ≤ 536870912) (hdf : fits t (defaultValue t) = true) (hdd : (defaultValue t).isDefault = true) (hrow : ∀ c : ClassId, Jvm.Free.Multi.innerC c m2 (defaultValue t) = vp_cell c row) (hroom : k + 1 + m1 ≤ K ∧ n + m1 + m1 * m2 ≤ N) (harr : Cond.arrayClass t ∈ wsA) (hlink : Cond.classLink own index ("[" ++ (FieldType.array t).toString) ∈ wsA) (hd : decode cc pc = .ok (.multianewarray index 2, 4))
    (kk : ∀ q r Y, Nm X q r m1 (rq c m1 (fun i => if i < m1 then some (r i) else none)) (.inl (cy, row)) Y → Cx mc (gx g Y) cc own nL ret → J mc (gx g Y) (k + 1 + m1) (n + m1 + m1 * m2) Q (pc + 4) lv (.ref q :: st) σ) : J mc (gx g X) k n Q pc lv (vI z2 :: vI z1 :: st) σ := by
  subst hz1 hz2
  intro H locs ls hP hS hl
  have hK := hX_K hC
  have cl : ∀ w : Nat, w < 1000 → (iI (w : Int)).toNatClampNeg = w := fun w hw => by rw [iI_clamp (by omega) (by omega)]; omega
  have nm : ∀ w : Nat, w < 1000 → ¬ (iI (w : Int)) < 0 := fun w hw => by
    rw [← iI_0, iI_lt (by omega) (by omega) (by omega) (by omega)]
    omega
  have hcy : (mS mc).vm.findClass (FieldType.array t).toString = some cy := x_fc hno (hK.2 t1 _ ht1).2
  have hP0 : va_P (gD g) vwCl (hw (gx g X) σ ++ va_pl [] (fun _ => rq c 0 (fun _ => none))) H := by rw [show va_pl [] (fun _ => rq c 0 (fun _ => none)) = [] from rfl, List.append_nil]; exact hP
  have hD0 : va_D (gA g) (hw (gx g X) σ ++ va_pl [] (fun _ => rq c 0 (fun _ => none))) := by rw [show va_pl [] (fun _ => rq c 0 (fun _ => none)) = [] from rfl, List.append_nil]; exact hX_D hC σ
  refine va_mna (ty := t) (cy := cy) (z := row) (N' := m1) (K' := m2) hC.1 hC.2.1 hC.2.2.2.1 (hC.2.2.2.2.1 _ hlink) hao (hC.2.2.2.2.1 _ harr) hcy hK hP0 hD0 hS (hX_A (g := gx g X) hC) (nm m1 hm.1) (nm m2 hm.2) (cl m1 hm.1) (cl m2 hm.2) (by omega) hb (by omega) hdf hdd (by rw [hR]; have := hroom.1; show k + (1 + m1) ≤ K; omega) (by rw [hR]; have := hroom.2; show n + (m1 + m1 * m2) ≤ N; omega) hrow hd (fun q r cA H1 hinj _ hK1 hP1 hD1 hS1 => ?_)
  have e3 : cA = c := Option.some.inj ((x_fc (fun C h => by cases h) (hK1.2 (gT g).length (cA, .array t) (by rw [List.getElem?_append_right (Nat.le_refl _), Nat.sub_self]; rfl)).2).symm.trans (x_fc (fun C h => by cases h) (hK.2 t0 _ ht).2))
  subst e3
  rw [List.append_assoc] at hP1 hD1
  generalize hw2 : ([(q, .inl (cA, m1, .inr (.inr (.inr (.inr (fun i => if i < m1 then some (r i) else none))))))] : va_W) ++ va_pl ([] ++ (List.range m1).map r) (vr_up (fun _ => rq cA 0 (fun _ => none)) ((List.range m1).map r) (.inl (cy, row))) = w2 at hP1 hD1
  have mq : (q, rq cA m1 (fun i => if i < m1 then some (r i) else none)) ∈ w2 := by rw [← hw2]; exact List.mem_append_left _ List.mem_cons_self
  have mr : ∀ i, i < m1 → (r i, (.inl (cy, row) : va_E)) ∈ w2 := fun i hi => by
    rw [← hw2]
    refine List.mem_append_right _ ?_
    have h1 : r i ∈ (List.range m1).map r := List.mem_map.mpr ⟨i, List.mem_range.mpr hi, rfl⟩
    refine List.mem_map.mpr ⟨r i, by rw [List.nil_append]; exact h1, ?_⟩
    rw [vr_up_in h1]
  have far : ∀ p ∈ X, ∀ w ∈ w2, p.1 ≠ w.1 := fun p hp w hw9 z => by
    obtain ⟨i, hi⟩ := x_mem (g := gx g X) (σ := σ) hp
    obtain ⟨j, hj⟩ := List.getElem?_of_mem hw9
    have hl := (List.getElem?_eq_some_iff.mp hi).1
    have h1 : (hw (gx g X) σ ++ w2)[i]? = some p := by rw [List.getElem?_append_left hl]; exact hi
    have h2 : (hw (gx g X) σ ++ w2)[(hw (gx g X) σ).length + j]? = some w := by rw [List.getElem?_append_right (Nat.le_add_right _ _), Nat.add_sub_cancel_left]; exact hj
    have := hD1.1 _ _ _ _ h1 h2 z
    omega
  have hnq : ∀ i, i < m1 → r i ≠ q := fun i hi z => by
    have h0 : w2[0]? = some (q, rq cA m1 (fun i => if i < m1 then some (r i) else none)) := by rw [← hw2]; rfl
    have h1 : w2[1 + i]? = some (r i, (.inl (cy, row) : va_E)) := by
      rw [← hw2, List.getElem?_append_right (by show 1 ≤ 1 + i; omega)]
      show (va_pl _ _)[1 + i - 1]? = _
      rw [Nat.add_sub_cancel_left, List.nil_append]
      unfold va_pl
      rw [List.getElem?_map, List.getElem?_map, List.getElem?_range hi]
      show some (r i, vr_up _ _ _ (r i)) = _
      rw [vr_up_in (List.mem_map.mpr ⟨i, List.mem_range.mpr hi, rfl⟩)]
    have q1 : (hw (gx g X) σ ++ w2)[(hw (gx g X) σ).length + 0]? = some (q, rq cA m1 (fun i => if i < m1 then some (r i) else none)) := by rw [List.getElem?_append_right (Nat.le_add_right _ _), Nat.add_sub_cancel_left]; exact h0
    have q2 : (hw (gx g X) σ ++ w2)[(hw (gx g X) σ).length + (1 + i)]? = some (r i, (.inl (cy, row) : va_E)) := by rw [List.getElem?_append_right (Nat.le_add_right _ _), Nat.add_sub_cancel_left]; exact h1
    have := hD1.1 _ _ _ _ q2 q1 z
    omega
  rw [hw_app] at hP1 hD1
  exact kk q r _ ⟨List.mem_append_right _ mq, fun i hi => List.mem_append_right _ (mr i hi), fun p hp => List.mem_append_left _ hp, fun p hp => far p hp _ mq, fun i hi p hp => far p hp _ (mr i hi), hinj, hnq⟩ (Cx_x hC (va_D_all hD1)) H1 locs ls hP1 hS1 hl
theorem frX4 : ∀ j, j < 2 → defaultValue (tyX4 j) = vp_V [.null, .null] j := by
  intro j hj
  rcases (show j = 0 ∨ j = 1 by omega) with rfl | rfl <;> rfl
theorem x_newS (hC : Cx mc (gx g X) cc own nL ret) {fr lo K N index : Nat} (hR : mR mc = rmJ fr lo K N) (hcl : Cond.classLink own index RX4 ∈ wsA) (hinst : Cond.instantiable RX4 2 ∈ wsA) (hini : Cond.initialized RX4 ∈ wsA) (hroom : k + 1 ≤ K ∧ n + 2 ≤ N) (hd : decode cc pc = .ok (.new index, 3))
    (kk : ∀ q Y, Nu X q (.inr (3, [.null, .null])) Y → Cx mc (gx g Y) cc own nL ret → J mc (gx g Y) (k + 1) (n + 2) Q (pc + 3) lv (.ref q :: st) σ) : J mc (gx g X) k n Q pc lv st σ := by
  intro H locs ls hP hS hl
  refine va_new (own := own) hC.1 hC.2.1 hC.2.2.2.2.1 inX4 tyX4 tyX4_ok hC.2.2.2.1 (hC.2.2.2.2.1 _ hcl) (hC.2.2.2.2.1 _ hinst) (hC.2.2.2.2.1 _ hini) (hX_K hC) hP (hX_D hC σ) hS (hX_A hC) (ci := 3) rfl frX4 (by rw [hR]; exact hroom.1) (by rw [hR]; exact hroom.2) hd (fun q H1 hP1 hD1 hS1 => ?_)
  have hn := Nu_app hD1
  rw [hw_app] at hP1 hD1
  exact kk q _ hn (Cx_x hC (va_D_all hD1)) H1 locs ls hP1 hS1 hl
/-- a cell's content, told otherwise -/
theorem x_re (hC : Cx mc (gx g X) cc own nL ret) {a : Nat} {c : ClassId} {y y2 : vp_A} (he : (a, .inl (c, y)) ∈ X) (hy : vp_cell c y = vp_cell c y2) (kk : ∀ Y, Wr X a (.inl (c, y2)) Y → Cx mc (gx g Y) cc own nL ret → J mc (gx g Y) k n Q pc lv st σ) : J mc (gx g X) k n Q pc lv st σ := by
  obtain ⟨i, hi, hi2⟩ := x_at (g := gx g X) (σ := σ) he
  intro H locs ls hP hS hl
  have h1 : va_at (gD g) vwCl (a, .inl (c, y2)) H := (hP _ _ hi : H[a]? = some (vp_cell c y)).trans (congrArg some hy)
  have hP1 := va_P.set (e := .inl (c, y2)) hP (hX_D hC σ) hi h1 (fun _ _ => rfl)
  have hD1 := (hX_D hC σ).set (e := .inl (c, y2)) hi
  rw [hw_set] at hP1 hD1
  exact kk _ (Wr_set hi2) (Cx_x hC (va_D_all hD1)) H locs ls hP1 hS hl
theorem cell_ext_i (c : ClassId) (N : Nat) (f h : Nat → Int32) (e : ∀ j, j < N → f j = h j) : vp_cell c (N, .inl f) = vp_cell c (N, .inl h) := by
  rw [vp_cell_i, vp_cell_i]
  unfold arrV
  congr 1
  congr 1
  funext j
  exact congrArg Value.int (e j.1 j.2)
theorem cell_ext_q (c : ClassId) (N : Nat) (f h : Nat → Option Nat) (e : ∀ j, j < N → f j = h j) : vp_cell c (N, .inr (.inr (.inr (.inr f)))) = vp_cell c (N, .inr (.inr (.inr (.inr h)))) := by
  rw [vp_cell_q, vp_cell_q]
  unfold arrV
  congr 1
  congr 1
  funext j
  exact congrArg va_rf (e j.1 j.2)
/-! null -/
theorem x_null (hC : Cx mc g cc own nL ret) (hd : decode cc pc = .ok (.aconst_null, 1)) (kk : J mc g k n Q (pc + 1) lv (.null :: st) σ) : J mc g k n Q pc lv st σ := fun H locs ls hP hS hl => lv_null hC.1 hC.2.1 hd (kk H locs ls hP hS hl)
theorem x_ifnonnull (hC : Cx mc g cc own nL ret) {a : Nat} {off : Int} {tgt : Nat} (hd : decode cc pc = .ok (.ifnonnull off, 3)) (ht : (pc : Int) + off = (tgt : Int)) (kk : J mc g k n Q tgt lv st σ) : J mc g k n Q pc lv (.ref a :: st) σ := fun H locs ls hP hS hl => lv_ifnonnull hC.1 hC.2.1 hd ht (kk H locs ls hP hS hl)
theorem x_ifnonnullN (hC : Cx mc g cc own nL ret) {off : Int} (hd : decode cc pc = .ok (.ifnonnull off, 3)) (kk : J mc g k n Q (pc + 3) lv st σ) : J mc g k n Q pc lv (.null :: st) σ := fun H locs ls hP hS hl => lv_ifnonnullN hC.1 hC.2.1 hd (kk H locs ls hP hS hl)
theorem x_ifnull (hC : Cx mc g cc own nL ret) {a : Nat} {off : Int} (hd : decode cc pc = .ok (.ifnull off, 3)) (kk : J mc g k n Q (pc + 3) lv st σ) : J mc g k n Q pc lv (.ref a :: st) σ := fun H locs ls hP hS hl => lv_ifnull hC.1 hC.2.1 hd (kk H locs ls hP hS hl)
theorem x_ifnullN (hC : Cx mc g cc own nL ret) {off : Int} {tgt : Nat} (hd : decode cc pc = .ok (.ifnull off, 3)) (ht : (pc : Int) + off = (tgt : Int)) (kk : J mc g k n Q tgt lv st σ) : J mc g k n Q pc lv (.null :: st) σ := fun H locs ls hP hS hl => lv_ifnullN hC.1 hC.2.1 hd ht (kk H locs ls hP hS hl)
end XJ
end
section
/-! methods that change the law's own cells -/
def QG (g : GG) (post : Option Value → Sg → va_W → Prop) : Array Value → State → Outcome → State → Prop := fun _ st o t => (∃ v τ Y, o = .returned v ∧ post v τ Y ∧ va_P (gD g) vwCl (hw (gx g Y) τ) t.heap ∧ ∀ τ2, va_D (gA g) (hw (gx g Y) τ2)) ∧ va_F (gA g) st t
def CG (l : Launch) (y : MethodName) (cc : ByteArray) (nL : Nat) (ret : Option FieldType) (fr lo k n : Nat) (g : GG) (X : va_W) (as : List Value) (σ : Sg) (post : Option Value → Sg → va_W → Prop) : Prop :=
  Met l y (.code y cc nL ret :: wsA) (rmJ fr lo k n) (va_Pc as (WB (gx g X) σ)) (QG g post) k n (gA g)
def QNG (mc : MC) (g : GG) (post : Option Value → Sg → va_W → Prop) (k n : Nat) : State → Prop := MQ (mB mc) (QG g post) (mA mc) (mS mc) k n (gA g)
section XK
variable {mc : MC} {g : GG} {X : va_W} {k n : Nat} {Q : State → Prop} {pc : Nat} {lv : List (Nat × Value)} {st : List Value} {σ : Sg} {cc : ByteArray} {own : String} {nL : Nat} {ret : Option FieldType}
theorem CG_of {l : Launch} {y : MethodName} {fr lo : Nat} {as : List Value} {post : Option Value → Sg → va_W → Prop} (hl : l.stackTraces = false) (hy : plainName y.cls = true) (hy2 : y.cls = own) (hn : (lg_sl as).length ≤ nL)
    (body : ∀ mc : MC, Cx mc (gx g X) cc own nL ret → mL mc = l → mR mc = rmJ fr lo k n → J mc (gx g X) 0 0 (QNG mc g post k n) 0 (lv_args 0 as) [] σ) : CG l y cc nL ret fr lo k n g X as σ post := by
  subst hy2
  refine Met.ofW (cc := cc) (maxL := nL) (ret := ret) hy rfl ?_
  intro p e s m args below meth c s₁ B hml hv
  obtain ⟨rfl, h0, hP, hK, hN, hT, hD⟩ := hv
  have hts := atoms_spec (ws := .code y cc nL ret :: wsA) B.pre
  have hC : Cx (p, l, e, rmJ fr lo k n, s, m, as.toArray, below, meth, c) (gx g X) cc y.cls nL ret := ⟨B.exec, B.bytes, hml, findClass_of_methodNamed B.named, fun w h => hts w (List.mem_cons_of_mem _ h), B.notSynchronized, hK, hN, hT, hD, h0, hl, B.returns⟩
  have hb := body _ hC rfl rfl
  have he := lv_entry as hn
  rw [lg_entry_eq]
  exact hb s.heap [] _ hP va_S.rf (by show lv_has _ c.maxLocals _; rw [hml]; exact he)
/-- .. a constructor -/
theorem CGI_of {l : Launch} {y : MethodName} {fr lo : Nat} {as : List Value} {post : Option Value → Sg → va_W → Prop} (hl : l.stackTraces = false) (hy : plainName y.cls = true) (hy2 : y.cls = own) (hn : (lg_sl as).length ≤ nL)
    (body : ∀ mc : MC, Cx mc (gx g X) cc own nL ret → (mH mc).name = y.name → mL mc = l → mR mc = rmJ fr lo k n → J mc (gx g X) 0 0 (QNG mc g post k n) 0 (lv_args 0 as) [] σ) : CG l y cc nL ret fr lo k n g X as σ post := by
  subst hy2
  refine Met.ofW (cc := cc) (maxL := nL) (ret := ret) hy rfl ?_
  intro p e s m args below meth c s₁ B hml hv
  obtain ⟨rfl, h0, hP, hK, hN, hT, hD⟩ := hv
  have hts := atoms_spec (ws := .code y cc nL ret :: wsA) B.pre
  have hC : Cx (p, l, e, rmJ fr lo k n, s, m, as.toArray, below, meth, c) (gx g X) cc y.cls nL ret := ⟨B.exec, B.bytes, hml, findClass_of_methodNamed B.named, fun w h => hts w (List.mem_cons_of_mem _ h), B.notSynchronized, hK, hN, hT, hD, h0, hl, B.returns⟩
  have hb := body _ hC (name_of_methodNamed B.named B.method).1 rfl rfl
  have he := lv_entry as hn
  rw [lg_entry_eq]
  exact hb s.heap [] _ hP va_S.rf (by show lv_has _ c.maxLocals _; rw [hml]; exact he)
theorem QG_end (hC : Cx mc (gx g X) cc own nL ret) {post : Option Value → Sg → va_W → Prop} {H : Heap} {locs : List Loc} {v : Option Value} (hp : post v σ X) (hP : va_P (gD g) vwCl (hw (gx g X) σ) H) (hS : va_S (gA g) (mS mc).heap H locs) {t : State} (ht : t.heap = H) : QG g post (mA mc) (mS mc) (.returned v) t :=
  ⟨⟨v, σ, X, rfl, hp, by rw [ht]; exact hP, fun τ => hX_D hC τ⟩, hS.F ht⟩
theorem g_zret (hC : Cx mc (gx g X) cc own nL (some .boolean)) {post : Option Value → Sg → va_W → Prop} {x : Int} (hx : x = 0 ∨ x = 1) (hd : decode cc pc = .ok (.ireturn, 1)) (hp : post (some (vI x)) σ X) : J mc (gx g X) k n (QNG mc g post k n) pc lv [vI x] σ :=
  fun _ _ _ hP hS _ => W.zret (ty := .boolean) hC.1 hC.2.1 hC.2.2.2.2.2.2.2.2.2.2.2.2 (by rcases hx with rfl | rfl <;> rfl) (fun _ ht _ => QG_end hC hp hP hS ht) hS.2.2 hd hC.2.2.2.2.2.1
theorem g_vret (hC : Cx mc (gx g X) cc own nL none) {post : Option Value → Sg → va_W → Prop} (hd : decode cc pc = .ok (.return_, 1)) (hp : post none σ X) : J mc (gx g X) k n (QNG mc g post k n) pc lv [] σ :=
  fun _ _ _ hP hS _ => W.vret hC.1 hC.2.1 hC.2.2.2.2.2.2.2.2.2.2.2.2 (fun _ ht _ => QG_end hC hp hP hS ht) hS.2.2 hd hC.2.2.2.2.2.1
theorem g_aret {rt : FieldType} (hC : Cx mc (gx g X) cc own nL (some rt)) (hrt : (∃ n, rt = .object n) ∨ ∃ t, rt = .array t) {post : Option Value → Sg → va_W → Prop} {v : Value} (hv : v = .null ∨ ∃ a, v = .ref a) (hd : decode cc pc = .ok (.areturn, 1)) (hp : post (some v) σ X) : J mc (gx g X) k n (QNG mc g post k n) pc lv [v] σ :=
  fun _ _ _ hP hS _ => W.aret hC.1 hC.2.1 hC.2.2.2.2.2.2.2.2.2.2.2.2 hrt hv (fun _ ht _ => QG_end hC hp hP hS ht) hS.2.2 hd hC.2.2.2.2.2.1
theorem j_runG (hC : Cx mc (gx g X) cc own nL ret) {st0 rest : List Value} {a : Array Value} {post : Option Value → Sg → va_W → Prop} {k2 n2 : Nat}
    (hr : ∀ (H : Heap) (locs : List Loc) (ls : Array Slot), va_P (gD g) vwCl (hw (gx g X) σ) H → va_S (gA g) (mS mc).heap H locs → lv_has ls (mC mc).maxLocals lv → va_Run (mP mc) (mL mc) (mE mc) (mR mc) (mS mc) (mM mc) (mA mc) (mB mc) (mH mc) (mC mc) H locs k n k2 n2 (F0 (mM mc) pc ls st0) rest (QG g post a) (gA g))
    (kk : ∀ v τ Y, post v τ Y → Cx mc (gx g Y) cc own nL ret → J mc (gx g Y) (k + k2) (n + n2) Q (pc + 3) lv (v.toList ++ rest) τ) : J mc (gx g X) k n Q pc lv st0 σ := by
  intro H locs ls hP hS hl T hT Z
  obtain ⟨v, st₀, t, T', L, h0, X', hL, e1, e2, ⟨⟨v', τ, Y, hv, hp, hB, hD⟩, hF⟩, stp⟩ := hr H locs ls hP hS hl T hT Z
  cases hv
  have hB1 : va_P (gD g) vwCl (hw (gx g Y) τ) T'.heap := by rw [e1]; exact hB
  have hS1 := (vx_keep h0 e1 hS (fun q _ h => h) (fun q h => h) hL hF).2.2
  obtain ⟨t2, a1, b1⟩ := kk v τ Y hp (Cx_x hC hD) T'.heap (locs ++ L) ls hB1 hS1 hl T' rfl X'
  exact ⟨t2, stp t2 a1, b1⟩
theorem g_callV (hC : Cx mc (gx g X) cc own nL ret) {fr lo K N : Nat} (hR : mR mc = rmJ fr lo K N) {y : MethodName} {b2 : ByteArray} {nL2 fr2 lo2 k2 n2 ar index b ci : Nat} {r2 : Option FieldType} {As st0 : List Value} {post : Option Value → Sg → va_W → Prop} {fs : List Value} {cx : vw_C}
    (hM : CG (mL mc) y b2 nL2 r2 fr2 lo2 k2 n2 g X (.ref b :: As) σ post) (rest : List Value) (hst : st0 = As.reverse ++ .ref b :: rest) (he : (b, (.inr (ci, fs) : va_E)) ∈ X) (hcl : vwCl[ci]? = some cx) (hy : y.cls = cx.1) (hmh : okC y.cls) (hpar : (parseMethodDescriptor y.desc).map (fun d => d.parameters.length) = some ar) (har : As.length = ar)
    (hlink : Cond.methodLink own index y ∈ wsA) (hinst : Cond.instanceMethod y ∈ wsA) (hsel : Cond.selects y.cls y y ∈ wsA) (hini : Cond.initialized y.cls ∈ wsA) (hcode : Cond.code y b2 nL2 r2 ∈ wsA) (hroom : (fr2 + 1 ≤ fr ∧ 8 + (nL2 + 11) + lo2 ≤ lo) ∧ k + k2 ≤ K ∧ n + n2 ≤ N) (hsum : (rest.map fun v => v.category).sum ≤ 8) (hd : decode cc pc = .ok (.invokevirtual index, 3))
    (kk : ∀ v τ Y, post v τ Y → Cx mc (gx g Y) cc own nL ret → J mc (gx g Y) (k + k2) (n + n2) Q (pc + 3) lv (v.toList ++ rest) τ) : J mc (gx g X) k n Q pc lv st0 σ := by
  subst hst
  obtain ⟨i, hi⟩ := x_mem (g := gx g X) (σ := σ) he
  refine j_runG hC (fun H locs ls hP hS hl => va_runV (C := y.cls) (fixJ hC) hM ⟨cbJ hC hR hmh hpar hlink hini hcode hroom.1, hC.2.2.2.2.1 _ hinst, hC.2.2.2.2.1 _ hsel⟩ ⟨WB_blind _, ?_, fun U hU hW => ⟨rfl, WB_mk hC hP hS hU hW⟩⟩ rfl har (szJ hC hl) rfl (lv_room hsum) hd (by rw [hR]; exact hroom.2)) kk
  have h := va_recv (hX_K hC) hP hcl hi
  rw [hy]
  exact h
theorem g_callS (hC : Cx mc (gx g X) cc own nL ret) {fr lo K N : Nat} (hR : mR mc = rmJ fr lo K N) {y : MethodName} {b2 : ByteArray} {nL2 fr2 lo2 k2 n2 ar index : Nat} {r2 : Option FieldType} {As st0 : List Value} {post : Option Value → Sg → va_W → Prop}
    (hM : CG (mL mc) y b2 nL2 r2 fr2 lo2 k2 n2 g X As σ post) (rest : List Value) (hst : st0 = As.reverse ++ rest) (hmh : okC y.cls) (hpar : (parseMethodDescriptor y.desc).map (fun d => d.parameters.length) = some ar) (har : As.length = ar)
    (hlink : Cond.methodLink own index y ∈ wsA) (hstat : Cond.static y ∈ wsA) (hini : Cond.initialized y.cls ∈ wsA) (hcode : Cond.code y b2 nL2 r2 ∈ wsA) (hroom : (fr2 + 1 ≤ fr ∧ 8 + (nL2 + 11) + lo2 ≤ lo) ∧ k + k2 ≤ K ∧ n + n2 ≤ N) (hsum : (rest.map fun v => v.category).sum ≤ 8) (hd : decode cc pc = .ok (.invokestatic index, 3))
    (kk : ∀ v τ Y, post v τ Y → Cx mc (gx g Y) cc own nL ret → J mc (gx g Y) (k + k2) (n + n2) Q (pc + 3) lv (v.toList ++ rest) τ) : J mc (gx g X) k n Q pc lv st0 σ := by
  subst hst
  exact j_runG hC (fun H locs ls hP hS hl => va_runS (fixJ hC) hM ⟨cbJ hC hR hmh hpar hlink hini hcode hroom.1, hC.2.2.2.2.1 _ hstat⟩ ⟨WB_blind _, fun U hU hW => ⟨rfl, WB_mk hC hP hS hU hW⟩⟩ rfl har (szJ hC hl) rfl (lv_room hsum) hd (by rw [hR]; exact hroom.2)) kk
theorem g_callI (hC : Cx mc (gx g X) cc own nL ret) {fr lo K N : Nat} (hR : mR mc = rmJ fr lo K N) {y : MethodName} {b2 : ByteArray} {nL2 fr2 lo2 k2 n2 ar index b : Nat} {As st0 : List Value} {post : Option Value → Sg → va_W → Prop}
    (hM : CG (mL mc) y b2 nL2 none fr2 lo2 k2 n2 g X (.ref b :: As) σ post) (rest : List Value) (hst : st0 = As.reverse ++ .ref b :: rest) (hmh : okC y.cls) (hpar : (parseMethodDescriptor y.desc).map (fun d => d.parameters.length) = some ar) (har : As.length = ar) (hnm : y.name = "<init>")
    (hlink : Cond.methodLink own index y ∈ wsA) (hinst : Cond.instanceMethod y ∈ wsA) (hini : Cond.initialized y.cls ∈ wsA) (hcode : Cond.code y b2 nL2 none ∈ wsA) (hroom : (fr2 + 1 ≤ fr ∧ 8 + (nL2 + 11) + lo2 ≤ lo) ∧ k + k2 ≤ K ∧ n + n2 ≤ N) (hsum : (rest.map fun v => v.category).sum ≤ 8) (hd : decode cc pc = .ok (.invokespecial index, 3))
    (kk : ∀ v τ Y, post v τ Y → Cx mc (gx g Y) cc own nL ret → J mc (gx g Y) (k + k2) (n + n2) Q (pc + 3) lv (v.toList ++ rest) τ) : J mc (gx g X) k n Q pc lv st0 σ := by
  subst hst
  exact j_runG hC (fun H locs ls hP hS hl => va_runI (ws := .code y b2 nL2 none :: wsA) (rm := rmJ fr2 lo2 k2 n2) (n := ar) (index := index) (own := own) (fixJ hC) hM ⟨cbJ hC hR hmh hpar hlink hini hcode hroom.1, hnm, hC.2.2.2.2.1 _ hinst⟩ ⟨WB_blind _, fun U hU hW => ⟨rfl, WB_mk hC hP hS hU hW⟩⟩ rfl har (szJ hC hl) rfl (lv_room hsum) hd (by rw [hR]; exact hroom.2)) kk
/-- Object's constructor -/
theorem x_obj (hC : Cx mc g cc own nL ret) {fr lo K N : Nat} (hR : mR mc = rmJ fr lo K N) {idx a : Nat} (hlink : Cond.methodLink own idx objectInit ∈ wsA) (hroom : 1 ≤ fr ∧ (st.map fun v => v.category).sum + 12 ≤ lo) (hd : decode cc pc = .ok (.invokespecial idx, 3)) (kk : J mc g k n Q (pc + 3) lv st σ) : J mc g k n Q pc lv (.ref a :: st) σ := by
  intro H locs ls hP hS hl
  refine W.objInit hC.1 hC.2.1 hC.2.2.2.1 (hC.2.2.2.2.1 _ hlink) (hC.2.2.2.2.1 _ wd20) (hC.2.2.2.2.1 (Cond.code objectInit ⟨#[0xb1]⟩ 1 none) wd21) rfl hl.1 rfl hd (by rw [hR]; exact hroom.1) (by rw [hR]; show 2 * 0 + _ + 12 ≤ lo; omega) ?_
  refine W.eq (g2 := F0 (mM mc) (pc + 3) ls st) rfl ?_
  exact kk H locs ls hP hS hl
/-- told calls over a receiver of the law's own -/
theorem x_callV1 (hC : Cx mc g cc own nL ret) {fr lo K N : Nat} (hR : mR mc = rmJ fr lo K N) {y : MethodName} {b2 : ByteArray} {nL2 fr2 lo2 k2 n2 ar index b ci : Nat} {r2 : Option FieldType} {As st0 : List Value} {v : Value} {τ : Sg} {fs : List Value} {cx : vw_C}
    (hM : CN (mL mc) y b2 nL2 r2 fr2 lo2 k2 n2 g (.ref b :: As) σ (pt (some v) τ)) (rest : List Value) (hst : st0 = As.reverse ++ .ref b :: rest) (he : (b, (.inr (ci, fs) : va_E)) ∈ gX g) (hcl : vwCl[ci]? = some cx) (hy : y.cls = cx.1) (hmh : okC y.cls) (hpar : (parseMethodDescriptor y.desc).map (fun d => d.parameters.length) = some ar) (har : As.length = ar)
    (hlink : Cond.methodLink own index y ∈ wsA) (hinst : Cond.instanceMethod y ∈ wsA) (hsel : Cond.selects y.cls y y ∈ wsA) (hini : Cond.initialized y.cls ∈ wsA) (hcode : Cond.code y b2 nL2 r2 ∈ wsA) (hroom : (fr2 + 1 ≤ fr ∧ 8 + (nL2 + 11) + lo2 ≤ lo) ∧ k + k2 ≤ K ∧ n + n2 ≤ N) (hsum : (rest.map fun v => v.category).sum ≤ 8) (hd : decode cc pc = .ok (.invokevirtual index, 3))
    (kk : J mc g (k + k2) (n + n2) Q (pc + 3) lv (v :: rest) τ) : J mc g k n Q pc lv st0 σ := by
  obtain ⟨i, hi⟩ := x_mem (σ := σ) he
  exact j_callV1 hC hR hM rest hst i hi hcl hy hmh hpar har hlink hinst hsel hini hcode hroom hsum hd kk
end XK
end
section
/-! the law's own picture of the lodges: its cells hold what the class's do -/
/-- where its cells lie: the array of books, the array of joined places; each lodge's book; each sign; each place's row -/
abbrev RR : Type := Nat × Nat × (Nat → Nat) × (Nat → Nat → Nat) × (Nat → Nat)
abbrev ru (r : RR) : Nat := r.1
abbrev rv (r : RR) : Nat := r.2.1
abbrev rL (r : RR) : Nat → Nat := r.2.2.1
abbrev rS (r : RR) : Nat → Nat → Nat := r.2.2.2.1
abbrev rT (r : RR) : Nat → Nat := r.2.2.2.2
/-- a sign's five numbers -/
def sgn (L m : Int) : Int → Int := fun i => if i = 0 then L % 16 else if i = 1 then L / 16 % 4 else if i = 2 then L / 256 else if i = 3 then L / 64 % 4 else m
/-- an array that holds a sign -/
abbrev Sn (g : GG) (X : va_W) (x : Nat) (L m : Int) : Prop := (x, ri g (sgn L m) 5) ∈ X
abbrev nLo (σ : Sg) : Nat := (σ.1 0).toNat
def Rp (g : GG) (X : va_W) (a : Nat) (σ : Sg) (r : RR) : Prop :=
  (a, (.inr (3, [.ref (ru r), .ref (rv r)]) : va_E)) ∈ X ∧
  (ru r, rq (gU g) (nLo σ) (fun j => if j < nLo σ then some (rL r j) else none)) ∈ X ∧
  (∀ l, l < nLo σ → (rL r l, rq (gY g) (cN σ l) (fun j => if j < cN σ l then some (rS r l j) else none)) ∈ X) ∧
  (∀ l, l < nLo σ → ∀ k : Nat, k < cN σ l → Sn g X (rS r l k) (σ.2 (1 + l) k) (σ.2 (6 + l) k)) ∧
  (rv r, rq (gV g) 9 (fun j => if j < 9 then some (rT r j) else none)) ∈ X ∧
  (∀ p : Nat, p < 9 → (rT r p, zi g (fun q => if σ.2 0 p = σ.2 0 q then 1 else 0) 9) ∈ X) ∧
  (∀ l l2, l < nLo σ → l2 < nLo σ → rL r l = rL r l2 → l = l2)
theorem Rp.sb {g : GG} {X Y : va_W} {a : Nat} {σ : Sg} {r : RR} (h : Rp g X a σ r) (hs : Sb X Y) : Rp g Y a σ r :=
  ⟨hs _ h.1, hs _ h.2.1, fun l hl => hs _ (h.2.2.1 l hl), fun l hl k hk => hs _ (h.2.2.2.1 l hl k hk), hs _ h.2.2.2.2.1, fun p hp => hs _ (h.2.2.2.2.2.1 p hp), h.2.2.2.2.2.2⟩
theorem IC_n {σ : Sg} (hI : IC σ) : ((nLo σ : Nat) : Int) = σ.1 0 ∧ nLo σ ≤ 4 := by
  have := hI.1
  show ((σ.1 0).toNat : Int) = σ.1 0 ∧ (σ.1 0).toNat ≤ 4
  omega
theorem IC_l {σ : Sg} (hI : IC σ) {l : Int} (hl : 0 ≤ l ∧ l < σ.1 0) : l.toNat < nLo σ ∧ l.toNat < 4 ∧ l.toNat < 5 := by
  have := IC_n hI
  omega
theorem IC_k {σ : Sg} (hI : IC σ) {l : Int} (hl : 0 ≤ l ∧ l < σ.1 0) : ((cN σ l.toNat : Nat) : Int) = σ.1 (2 + l.toNat) ∧ cN σ l.toNat ≤ 16 := by
  have h1 := cN_eq hI (IC_l hI hl).2.2
  have h2 := hI.2.2.2.1 l.toNat (IC_l hI hl).2.2
  omega
theorem IC_s {σ : Sg} (hI : IC σ) {l z : Int} (hl : 0 ≤ l ∧ l < σ.1 0) (hz : 0 ≤ z ∧ z < σ.1 (2 + l.toNat)) : 0 ≤ σ.2 (1 + l.toNat) z ∧ σ.2 (1 + l.toNat) z < 2304 ∧ 0 ≤ σ.2 (6 + l.toNat) z ∧ σ.2 (6 + l.toNat) z < 30 := by
  have h0 := IC_k hI hl
  have h1 := hI.2.2.2.2.1 l.toNat (IC_l hI hl).2.2 z hz.1 (by omega)
  have h2 := hI.2.2.2.2.2 l.toNat (IC_l hI hl).2.2 z hz.1 (by omega)
  exact ⟨h1.1, h1.2, h2.1, h2.2⟩
theorem Rp.sn {g : GG} {X : va_W} {a : Nat} {σ : Sg} {r : RR} (h : Rp g X a σ r) (hI : IC σ) {l z : Int} (hl : 0 ≤ l ∧ l < σ.1 0) (hz : 0 ≤ z ∧ z < σ.1 (2 + l.toNat)) : Sn g X (rS r l.toNat z.toNat) (σ.2 (1 + l.toNat) z) (σ.2 (6 + l.toNat) z) := by
  have h0 := IC_k hI hl
  have h1 := h.2.2.2.1 l.toNat (IC_l hI hl).1 z.toNat (by omega)
  rwa [show ((z.toNat : Nat) : Int) = z by omega] at h1
section RJ
variable {mc : MC} {g : GG} {X : va_W} {k n : Nat} {Q : State → Prop} {pc : Nat} {lv : List (Nat × Value)} {st : List Value} {σ : Sg} {cc : ByteArray} {own : String} {nL : Nat} {ret : Option FieldType} {a : Nat} {r : RR}
theorem r_books (hC : Cx mc (gx g X) cc own nL ret) (hr : Rp g X a σ r) {index : Nat} (hlink : Cond.fieldLink own index "SignMasonsLaw$Sim" "books" "[[[I" ∈ wsA) (hd : decode cc pc = .ok (.getfield index, 3)) (kk : J mc (gx g X) k n Q (pc + 3) lv (.ref (ru r) :: st) σ) : J mc (gx g X) k n Q pc lv (.ref a :: st) σ :=
  x_get hC hr.1 0 (by decide) hlink rfl hd kk
theorem r_joined (hC : Cx mc (gx g X) cc own nL ret) (hr : Rp g X a σ r) {index : Nat} (hlink : Cond.fieldLink own index "SignMasonsLaw$Sim" "joined" "[[Z" ∈ wsA) (hd : decode cc pc = .ok (.getfield index, 3)) (kk : J mc (gx g X) k n Q (pc + 3) lv (.ref (rv r) :: st) σ) : J mc (gx g X) k n Q pc lv (.ref a :: st) σ :=
  x_get hC hr.1 1 (by decide) hlink rfl hd kk
theorem r_blen (hC : Cx mc (gx g X) cc own nL ret) (hr : Rp g X a σ r) (hI : IC σ) (hd : decode cc pc = .ok (.arraylength, 1)) (kk : J mc (gx g X) k n Q (pc + 1) lv (vI (σ.1 0) :: st) σ) : J mc (gx g X) k n Q pc lv (.ref (ru r) :: st) σ :=
  x_alen hC hr.2.1 4 rfl (IC_n hI).1 hd kk
theorem r_lodge (hC : Cx mc (gx g X) cc own nL ret) (hr : Rp g X a σ r) (hI : IC σ) {l : Int} (hl : 0 ≤ l ∧ l < σ.1 0) (hd : decode cc pc = .ok (.aaload, 1)) (kk : J mc (gx g X) k n Q (pc + 1) lv (.ref (rL r l.toNat) :: st) σ) : J mc (gx g X) k n Q pc lv (vI l :: .ref (ru r) :: st) σ := by
  have h1 := IC_n hI
  have h2 := IC_l hI hl
  exact x_rald hC hr.2.1 4 rfl rfl (if_pos h2.1) ⟨hl.1, by omega, by omega⟩ hd kk
theorem r_llen (hC : Cx mc (gx g X) cc own nL ret) (hr : Rp g X a σ r) (hI : IC σ) {l : Int} (hl : 0 ≤ l ∧ l < σ.1 0) (hd : decode cc pc = .ok (.arraylength, 1)) (kk : J mc (gx g X) k n Q (pc + 1) lv (vI (σ.1 (2 + l.toNat)) :: st) σ) : J mc (gx g X) k n Q pc lv (.ref (rL r l.toNat) :: st) σ :=
  x_alen hC (hr.2.2.1 l.toNat (IC_l hI hl).1) 3 rfl (IC_k hI hl).1 hd kk
theorem r_sign (hC : Cx mc (gx g X) cc own nL ret) (hr : Rp g X a σ r) (hI : IC σ) {l z : Int} (hl : 0 ≤ l ∧ l < σ.1 0) (hz : 0 ≤ z ∧ z < σ.1 (2 + l.toNat)) (hd : decode cc pc = .ok (.aaload, 1)) (kk : J mc (gx g X) k n Q (pc + 1) lv (.ref (rS r l.toNat z.toNat) :: st) σ) : J mc (gx g X) k n Q pc lv (vI z :: .ref (rL r l.toNat) :: st) σ := by
  have h1 := IC_k hI hl
  exact x_rald hC (hr.2.2.1 l.toNat (IC_l hI hl).1) 3 rfl rfl (if_pos (by omega)) ⟨hz.1, by omega, by omega⟩ hd kk
theorem r_row (hC : Cx mc (gx g X) cc own nL ret) (hr : Rp g X a σ r) {p : Int} (hp : 0 ≤ p ∧ p < 9) (hd : decode cc pc = .ok (.aaload, 1)) (kk : J mc (gx g X) k n Q (pc + 1) lv (.ref (rT r p.toNat) :: st) σ) : J mc (gx g X) k n Q pc lv (vI p :: .ref (rv r) :: st) σ :=
  x_rald hC hr.2.2.2.2.1 5 rfl rfl (if_pos (by omega)) ⟨hp.1, by omega, by omega⟩ hd kk
theorem r_bit (hC : Cx mc (gx g X) cc own nL ret) (hr : Rp g X a σ r) {p q : Int} (hp : 0 ≤ p ∧ p < 9) (hq : 0 ≤ q ∧ q < 9) (hd : decode cc pc = .ok (.baload, 1)) (kk : J mc (gx g X) k n Q (pc + 1) lv (vI (if σ.2 0 p = σ.2 0 q then 1 else 0) :: st) σ) : J mc (gx g X) k n Q pc lv (vI q :: .ref (rT r p.toNat) :: st) σ := by
  have h := hr.2.2.2.2.2.1 p.toNat (by omega)
  rw [show ((p.toNat : Nat) : Int) = p by omega] at h
  exact x_zald (m0 := 9) (f := fun q => if σ.2 0 p = σ.2 0 q then 1 else 0) hC h ⟨hq.1, by omega, by omega⟩ hd kk
variable {x : Nat} {L m : Int}
theorem r_num0 (hC : Cx mc (gx g X) cc own nL ret) (hs : Sn g X x L m) (hd : decode cc pc = .ok (.iaload, 1)) (kk : J mc (gx g X) k n Q (pc + 1) lv (vI (L % 16) :: st) σ) : J mc (gx g X) k n Q pc lv (vI 0 :: .ref x :: st) σ := x_iald hC hs (by decide) hd kk
theorem r_num1 (hC : Cx mc (gx g X) cc own nL ret) (hs : Sn g X x L m) (hd : decode cc pc = .ok (.iaload, 1)) (kk : J mc (gx g X) k n Q (pc + 1) lv (vI (L / 16 % 4) :: st) σ) : J mc (gx g X) k n Q pc lv (vI 1 :: .ref x :: st) σ := x_iald hC hs (by decide) hd kk
theorem r_num2 (hC : Cx mc (gx g X) cc own nL ret) (hs : Sn g X x L m) (hd : decode cc pc = .ok (.iaload, 1)) (kk : J mc (gx g X) k n Q (pc + 1) lv (vI (L / 256) :: st) σ) : J mc (gx g X) k n Q pc lv (vI 2 :: .ref x :: st) σ := x_iald hC hs (by decide) hd kk
theorem r_num3 (hC : Cx mc (gx g X) cc own nL ret) (hs : Sn g X x L m) (hd : decode cc pc = .ok (.iaload, 1)) (kk : J mc (gx g X) k n Q (pc + 1) lv (vI (L / 64 % 4) :: st) σ) : J mc (gx g X) k n Q pc lv (vI 3 :: .ref x :: st) σ := x_iald hC hs (by decide) hd kk
theorem r_num4 (hC : Cx mc (gx g X) cc own nL ret) (hs : Sn g X x L m) (hd : decode cc pc = .ok (.iaload, 1)) (kk : J mc (gx g X) k n Q (pc + 1) lv (vI m :: st) σ) : J mc (gx g X) k n Q pc lv (vI 4 :: .ref x :: st) σ := x_iald hC hs (by decide) hd kk
end RJ
end
section
def pMF (c : Int → Int → Bool) (o : Int) : Nat → Int → Int → Int
  | 0, _, a => a
  | d + 1, j, a => pMF c o d (j + 1) (cnt (c j) (j - o).toNat o a)
/-! counting, finding, least and most: the two programs' loops -/
theorem cnt_add (c : Int → Bool) : ∀ (d : Nat) (z a : Int), cnt c d z a = a + cnt c d z 0 := by
  intro d
  induction d with
  | zero => intro z a; simp [cnt]
  | succ d ih =>
    intro z a
    unfold cnt
    rw [ih (z + 1) (if c z = true then a + 1 else a), ih (z + 1) (if c z = true then 0 + 1 else 0)]
    split <;> omega
theorem cnt_sh (c c' : Int → Bool) (o : Int) : ∀ (d : Nat) (z a : Int), (∀ y : Int, z ≤ y → y < z + d → c (o + y) = c' y) → cnt c d (o + z) a = cnt c' d z a := by
  intro d
  induction d with
  | zero => intro z a _; rfl
  | succ d ih =>
    intro z a h
    have h0 := h z (by omega) (by omega)
    unfold cnt
    rw [h0, Int.add_assoc]
    exact ih (z + 1) _ (fun y h1 h2 => h y (by omega) (by omega))
theorem cnt_cg (c c' : Int → Bool) (d : Nat) (z a : Int) (h : ∀ y : Int, z ≤ y → y < z + d → c y = c' y) : cnt c d z a = cnt c' d z a := by
  have := cnt_sh c c' 0 d z a (fun y h1 h2 => by rw [Int.zero_add]; exact h y h1 h2)
  rwa [Int.zero_add] at this
theorem cnt_last (c : Int → Bool) : ∀ (d : Nat) (z a : Int), cnt c (d + 1) z a = cnt c d z a + (if c (z + d) = true then 1 else 0) := by
  intro d
  induction d with
  | zero =>
    intro z a
    simp only [cnt]
    rw [show z + ((0 : Nat) : Int) = z by omega]
    split <;> omega
  | succ d ih =>
    intro z a
    rw [show cnt c (d + 1 + 1) z a = cnt c (d + 1) (z + 1) (if c z = true then a + 1 else a) from rfl, ih, show cnt c (d + 1) z a = cnt c d (z + 1) (if c z = true then a + 1 else a) from rfl, show z + 1 + (d : Int) = z + ((d + 1 : Nat) : Int) by omega]
theorem cnt_one (c c' : Int → Bool) (x : Int) : ∀ (d : Nat) (z : Int), z ≤ x → x < z + d → (∀ y : Int, z ≤ y → y < z + d → y ≠ x → c y = c' y) → cnt c d z 0 + (if c' x = true then 1 else 0) = cnt c' d z 0 + (if c x = true then 1 else 0) := by
  intro d
  induction d with
  | zero => intro z h1 h2; omega
  | succ d ih =>
    intro z h1 h2 h
    unfold cnt
    rw [cnt_add c d (z + 1), cnt_add c' d (z + 1)]
    by_cases e : z = x
    · subst e
      have := cnt_cg c c' d (z + 1) 0 (fun y q1 q2 => h y (by omega) (by omega) (by omega))
      rw [this]
      split <;> split <;> omega
    · have h0 := h z (by omega) (by omega) e
      have := ih (z + 1) (by omega) (by omega) (fun y q1 q2 q3 => h y (by omega) (by omega) q3)
      rw [h0]
      omega
theorem pO_add (c : Int → Int → Bool) : ∀ (d : Nat) (z a b : Int), pO c d z (a + b) = pO c d z a + b := by
  intro d
  induction d with
  | zero => intro z a b; rfl
  | succ d ih =>
    intro z a b
    unfold pO
    rw [cnt_add, cnt_add (c z) d (z + 1) a, show a + b + cnt (c z) d (z + 1) 0 = (a + cnt (c z) d (z + 1) 0) + b by omega]
    exact ih (z + 1) _ b
theorem pO_last (c : Int → Int → Bool) : ∀ (d : Nat) (z a : Int), pO c (d + 1) z a = pO c d z a + cnt (fun y => c y (z + d)) d z 0 := by
  intro d
  induction d with
  | zero => intro z a; simp [pO, cnt]
  | succ d ih =>
    intro z a
    rw [show pO c (d + 1 + 1) z a = pO c (d + 1) (z + 1) (cnt (c z) (d + 1) (z + 1) a) from rfl, ih (z + 1), cnt_last (c z) d (z + 1) a, pO_add, show pO c (d + 1) z a = pO c d (z + 1) (cnt (c z) d (z + 1) a) from rfl]
    rw [show cnt (fun y => c y (z + ((d + 1 : Nat) : Int))) (d + 1) z 0 = cnt (fun y => c y (z + ((d + 1 : Nat) : Int))) d (z + 1) (if c z (z + ((d + 1 : Nat) : Int)) = true then 0 + 1 else 0) from rfl, cnt_add _ d (z + 1) (if c z (z + ((d + 1 : Nat) : Int)) = true then 0 + 1 else 0), show z + 1 + (d : Int) = z + ((d + 1 : Nat) : Int) by omega]
    split <;> omega
theorem pMF_last (c : Int → Int → Bool) (o : Int) : ∀ (d : Nat) (j a : Int), pMF c o (d + 1) j a = pMF c o d j a + cnt (c (j + d)) (j + d - o).toNat o 0 := by
  intro d
  induction d with
  | zero =>
    intro j a
    simp only [pMF]
    rw [cnt_add, show j + ((0 : Nat) : Int) = j by omega]
  | succ d ih =>
    intro j a
    rw [show pMF c o (d + 1 + 1) j a = pMF c o (d + 1) (j + 1) (cnt (c j) (j - o).toNat o a) from rfl, ih, show pMF c o (d + 1) j a = pMF c o d (j + 1) (cnt (c j) (j - o).toNat o a) from rfl, show j + 1 + (d : Int) = j + ((d + 1 : Nat) : Int) by omega]
theorem pO_pMF (c c' : Int → Int → Bool) (o : Int) : ∀ (n : Nat), (∀ z w : Int, 0 ≤ z → z < w → w < n → c z w = c' (o + w) (o + z)) → pO c n 0 0 = pMF c' o n o 0 := by
  intro n
  induction n with
  | zero => intro _; rfl
  | succ n ih =>
    intro h
    rw [pO_last, pMF_last, ih (fun z w h1 h2 h3 => h z w h1 h2 (by omega)), show (o + (n : Int) - o).toNat = n by omega]
    have := cnt_sh (c' (o + n)) (fun y => c y (0 + n)) o n 0 0 (fun y h1 h2 => by rw [Int.zero_add]; exact (h y n h1 (by omega) (by omega)).symm)
    rw [Int.add_zero] at this
    rw [this]
theorem fnd_cg (f f' : Int → Int) (x : Int) : ∀ (d : Nat) (z : Int), (∀ y : Int, z ≤ y → y < z + d → f y = f' y) → fnd f x d z = fnd f' x d z := by
  intro d
  induction d with
  | zero => intro z _; rfl
  | succ d ih =>
    intro z h
    unfold fnd
    rw [h z (by omega) (by omega), ih (z + 1) (fun y h1 h2 => h y (by omega) (by omega))]
theorem fnd_is (f : Int → Int) (x : Int) : ∀ (d : Nat) (z : Int), fnd f x d z ≠ -1 → 0 ≤ z → f (fnd f x d z) = x := by
  intro d
  induction d with
  | zero => intro z h; exact absurd rfl h
  | succ d ih =>
    intro z h h0
    unfold fnd at h ⊢
    split
    · rename_i e; rw [if_pos e] at h; exact e
    · rename_i e; rw [if_neg e] at h; exact ih (z + 1) h (by omega)
theorem fnd_no (f : Int → Int) (x : Int) : ∀ (d : Nat) (z : Int), 0 ≤ z → fnd f x d z = -1 → ∀ y : Int, z ≤ y → y < z + d → f y ≠ x := by
  intro d
  induction d with
  | zero => intro z _ _ y h1 h2; omega
  | succ d ih =>
    intro z h0 h y h1 h2
    unfold fnd at h
    split at h
    · omega
    · rename_i e
      by_cases q : y = z
      · rw [q]; exact e
      · exact ih (z + 1) (by omega) h y (by omega) (by omega)
theorem mrF_sh (dd dd' mn mn' : Int → Int) (o : Int) : ∀ (d : Nat) (z fw m : Int), (∀ y : Int, z ≤ y → y < z + d → dd (o + y) = dd' y ∧ mn (o + y) = mn' y) → mrF dd mn d (o + z) fw m = mrF dd' mn' d z fw m := by
  intro d
  induction d with
  | zero => intro z fw m _; rfl
  | succ d ih =>
    intro z fw m h
    have h0 := h z (by omega) (by omega)
    unfold mrF
    rw [h0.1, h0.2, Int.add_assoc, ih (z + 1) _ _ (fun y h1 h2 => h y (by omega) (by omega)), ih (z + 1) _ _ (fun y h1 h2 => h y (by omega) (by omega)), ih (z + 1) _ _ (fun y h1 h2 => h y (by omega) (by omega))]
theorem nbF_sh (f f' : Int → Int) (o s s' : Int) : ∀ (d : Nat) (z a : Int), s = o + s' → (∀ y : Int, z ≤ y → y < z + d → f (o + y) = f' y) → nbF f s d (o + z) a = nbF f' s' d z a := by
  intro d
  induction d with
  | zero => intro z a _ _; rfl
  | succ d ih =>
    intro z a hs h
    have h0 := h z (by omega) (by omega)
    unfold nbF
    rw [h0, Int.add_assoc, ih (z + 1) _ hs (fun y h1 h2 => h y (by omega) (by omega))]
    congr 1
    by_cases q : z = s'
    · rw [if_pos q, if_pos (by omega)]
    · rw [if_neg q, if_neg (by omega)]
/-- the least of those that aren't s, or a -/
theorem nbF_is (f : Int → Int) (s : Int) : ∀ (d : Nat) (z a : Int), nbF f s d z a ≤ a ∧ (∀ y : Int, z ≤ y → y < z + d → y ≠ s → nbF f s d z a ≤ f y) ∧ (nbF f s d z a = a ∨ ∃ y : Int, z ≤ y ∧ y < z + d ∧ y ≠ s ∧ nbF f s d z a = f y) := by
  intro d
  induction d with
  | zero => intro z a; exact ⟨Int.le_refl _, fun y h1 h2 => by omega, Or.inl rfl⟩
  | succ d ih =>
    intro z a
    obtain ⟨h1, h2, h3⟩ := ih (z + 1) (if z = s then a else if a ≤ f z then a else f z)
    rw [show nbF f s (d + 1) z a = nbF f s d (z + 1) (if z = s then a else if a ≤ f z then a else f z) from rfl]
    generalize nbF f s d (z + 1) (if z = s then a else if a ≤ f z then a else f z) = r at h1 h2 h3 ⊢
    refine ⟨?_, fun y q1 q2 q3 => ?_, ?_⟩
    · split at h1
      · exact h1
      · split at h1 <;> omega
    · by_cases e : y = z
      · subst e
        rw [if_neg q3] at h1
        split at h1 <;> omega
      · exact h2 y (by omega) (by omega) q3
    · rcases h3 with h3 | ⟨y, q1, q2, q3, q4⟩
      · split at h3
        · exact Or.inl h3
        · rename_i e
          split at h3
          · exact Or.inl h3
          · exact Or.inr ⟨z, by omega, by omega, e, h3⟩
      · exact Or.inr ⟨y, by omega, by omega, q3, q4⟩
theorem amF_cg (f f' : Int → Int) : ∀ (d : Nat) (z fo mo : Int), (∀ y : Int, z ≤ y → y < z + d → f y = f' y) → amF f d z fo mo = amF f' d z fo mo := by
  intro d
  induction d with
  | zero => intro z fo mo _; rfl
  | succ d ih =>
    intro z fo mo h
    unfold amF
    rw [h z (by omega) (by omega), ih (z + 1) _ _ (fun y h1 h2 => h y (by omega) (by omega)), ih (z + 1) _ _ (fun y h1 h2 => h y (by omega) (by omega))]
/-- counted by what is meant -/
theorem cnt_mn (mn : Int → Int) (P : Int → Bool) : ∀ n : Nat, (∀ z : Int, 0 ≤ z → z < n → 0 ≤ mn z ∧ mn z < 30) → (∀ y z : Int, 0 ≤ y → y < n → 0 ≤ z → z < n → mn y = mn z → y = z) →
    cnt P n 0 0 = cnt (fun x => decide (fnd mn x n 0 ≠ -1) && P (fnd mn x n 0)) 30 0 0 := by
  intro n
  induction n with
  | zero =>
    intro _ _
    rfl
  | succ n ih =>
    intro hr hd
    have fl : ∀ x : Int, fnd mn x (n + 1) 0 = if fnd mn x n 0 ≠ -1 then fnd mn x n 0 else if mn n = x then (n : Int) else -1 := by
      intro x
      have gen : ∀ (d : Nat) (z : Int), 0 ≤ z → fnd mn x (d + 1) z = if fnd mn x d z ≠ -1 then fnd mn x d z else if mn (z + d) = x then z + d else -1 := by
        intro d
        induction d with
        | zero => intro z _; simp [fnd]
        | succ d ihd =>
          intro z hz
          rw [show fnd mn x (d + 1 + 1) z = if mn z = x then z else fnd mn x (d + 1) (z + 1) from rfl, show fnd mn x (d + 1) z = if mn z = x then z else fnd mn x d (z + 1) from rfl, ihd (z + 1) (by omega), show z + 1 + (d : Int) = z + ((d + 1 : Nat) : Int) by omega]
          by_cases e : mn z = x
          · simp only [if_pos e]
            rw [if_pos (by omega)]
          · simp only [if_neg e]
      have := gen n 0 (Int.le_refl _)
      rwa [Int.zero_add] at this
    have hmn := hr n (by omega) (by omega)
    have hno : fnd mn (mn n) n 0 = -1 := by
      by_cases q : fnd mn (mn n) n 0 = -1
      · exact q
      · have h1 := fnd_is mn (mn n) n 0 q (Int.le_refl _)
        have h2 := fnd_rg mn (mn n) n 0
        have := hd (fnd mn (mn n) n 0) n (by omega) (by omega) (by omega) (by omega) h1
        omega
    rw [cnt_last, ih (fun z h1 h2 => hr z h1 (by omega)) (fun y z h1 h2 h3 h4 => hd y z h1 (by omega) h3 (by omega)), Int.zero_add]
    have key := cnt_one (fun x => decide (fnd mn x n 0 ≠ -1) && P (fnd mn x n 0)) (fun x => decide (fnd mn x (n + 1) 0 ≠ -1) && P (fnd mn x (n + 1) 0)) (mn n) 30 0 hmn.1 (by omega) (fun y _ _ hy => by
      show (decide (fnd mn y n 0 ≠ -1) && P (fnd mn y n 0)) = (decide (fnd mn y (n + 1) 0 ≠ -1) && P (fnd mn y (n + 1) 0))
      rw [fl y]
      by_cases q : fnd mn y n 0 ≠ -1
      · rw [if_pos q]
      · rw [if_neg q, if_neg (fun z => hy z.symm)]
        have : fnd mn y n 0 = -1 := Classical.not_not.mp q
        rw [this])
    have e1 : fnd mn (mn n) (n + 1) 0 = n := by rw [fl, if_neg (fun z => z hno), if_pos rfl]
    simp only [hno, e1] at key
    have e2 : decide ((n : Int) ≠ -1) = true := decide_eq_true (by omega)
    rw [e2] at key
    simp only [Bool.true_and, ne_eq, not_true_eq_false, decide_false, Bool.false_and, if_neg Bool.false_ne_true, Int.add_zero] at key
    omega
theorem dst_cg {G G' : Int → Int} {x y : Int} (h : G (x / 256) = G (y / 256) ↔ G' (x / 256) = G' (y / 256)) : dst G x y = dst G' x y := by
  unfold dst stp
  simp only [h]
theorem popx_a : ∀ a b : Fin 16, pop4 (xr ((a.1 : Nat) : Int) ((b.1 : Nat) : Int)) = 0 → a.1 = b.1 := by decide +kernel
theorem popx_b : ∀ a : Fin 16, pop4 (xr ((a.1 : Nat) : Int) ((a.1 : Nat) : Int)) = 0 := by decide +kernel
theorem popx_s : ∀ a b : Fin 16, xr ((a.1 : Nat) : Int) ((b.1 : Nat) : Int) = xr ((b.1 : Nat) : Int) ((a.1 : Nat) : Int) := by decide +kernel
theorem popx {a b : Int} (ha : 0 ≤ a ∧ a < 16) (hb : 0 ≤ b ∧ b < 16) : pop4 (xr a b) = 0 ↔ a = b := by
  obtain ⟨a, rfl⟩ := Int.eq_ofNat_of_zero_le ha.1
  obtain ⟨b, rfl⟩ := Int.eq_ofNat_of_zero_le hb.1
  refine ⟨fun h => ?_, fun h => ?_⟩
  · have := popx_a ⟨a, by omega⟩ ⟨b, by omega⟩ h
    exact congrArg Nat.cast this
  · have e : a = b := by omega
    subst e
    exact popx_b ⟨a, by omega⟩
theorem xr_sy {a b : Int} (ha : 0 ≤ a ∧ a < 16) (hb : 0 ≤ b ∧ b < 16) : xr a b = xr b a := by
  obtain ⟨a, rfl⟩ := Int.eq_ofNat_of_zero_le ha.1
  obtain ⟨b, rfl⟩ := Int.eq_ofNat_of_zero_le hb.1
  exact popx_s ⟨a, by omega⟩ ⟨b, by omega⟩
theorem stp_0 {G : Int → Int} {a b : Int} (ha : 0 ≤ a ∧ a < 9) (hb : 0 ≤ b ∧ b < 9) : stp G a b = 0 ↔ G a = G b := by
  unfold stp
  by_cases h : G a = G b
  · rw [if_pos h]
    exact ⟨fun _ => h, fun _ => rfl⟩
  · rw [if_neg h]
    refine ⟨fun q => ?_, fun q => absurd q h⟩
    have : a = b := by
      unfold ab at q
      by_cases c1 : 0 ≤ a / 3 - b / 3
      · rw [if_pos c1] at q
        by_cases c2 : 0 ≤ a % 3 - b % 3
        · rw [if_pos c2] at q; omega
        · rw [if_neg c2] at q; omega
      · rw [if_neg c1] at q
        by_cases c2 : 0 ≤ a % 3 - b % 3
        · rw [if_pos c2] at q; omega
        · rw [if_neg c2] at q; omega
    rw [this]
theorem dst_0 {G : Int → Int} {x y : Int} (hx : 0 ≤ x ∧ x < 2304) (hy : 0 ≤ y ∧ y < 2304) : dst G x y = 0 ↔ alk G x y := by
  have h1 := popx (a := x % 16) (b := y % 16) (by omega) (by omega)
  have h2 := stp_0 (G := G) (a := x / 256) (b := y / 256) (by omega) (by omega)
  have h3 := pop4_rg (r := xr (x % 16) (y % 16))
  have h4 := stp_rg (G := G) (a := x / 256) (b := y / 256) (by omega)
  unfold dst alk
  rw [← h2]
  refine ⟨fun h => ?_, fun h => ?_⟩
  · split at h <;> split at h <;> omega
  · have e := h1.mpr (by omega)
    rw [e, h.2, if_pos (by omega), if_pos (by omega)]
    decide
theorem stp_sy {G : Int → Int} {a b : Int} : stp G a b = stp G b a := by
  unfold stp
  by_cases h : G a = G b
  · rw [if_pos h, if_pos h.symm]
  · rw [if_neg h, if_neg (fun q => h q.symm)]
    unfold ab
    split <;> split <;> split <;> split <;> omega
theorem dst_sy {G : Int → Int} {x y : Int} : dst G x y = dst G y x := by
  unfold dst
  rw [xr_sy (a := x % 16) (b := y % 16) (by omega) (by omega), stp_sy]
  have e1 : (if x / 16 % 4 = y / 16 % 4 then (0 : Int) else 1) = if y / 16 % 4 = x / 16 % 4 then 0 else 1 := by
    by_cases h : x / 16 % 4 = y / 16 % 4
    · rw [if_pos h, if_pos h.symm]
    · rw [if_neg h, if_neg (fun q => h q.symm)]
  have e2 : (if x / 64 % 4 = y / 64 % 4 then (0 : Int) else 2) = if y / 64 % 4 = x / 64 % 4 then 0 else 2 := by
    by_cases h : x / 64 % 4 = y / 64 % 4
    · rw [if_pos h, if_pos h.symm]
    · rw [if_neg h, if_neg (fun q => h q.symm)]
  rw [e1, e2]
theorem wth_mk {s t p m t2 : Int} (h : 0 ≤ s ∧ s < 16 ∧ 0 ≤ t ∧ t < 4 ∧ 0 ≤ p ∧ p < 9 ∧ 0 ≤ m ∧ m < 4) : wth (mkL s t p m) t2 = mkL s t2 p m := by
  unfold wth mkL
  omega
theorem mk_sh {s t p m : Int} (h : 0 ≤ s ∧ s < 16 ∧ 0 ≤ t ∧ t < 4 ∧ 0 ≤ p ∧ p < 9 ∧ 0 ≤ m ∧ m < 4) : mkL s t p m % 16 = s ∧ mkL s t p m / 16 % 4 = t ∧ mkL s t p m / 256 = p ∧ mkL s t p m / 64 % 4 = m := by
  unfold mkL
  omega
/-! the law's own loops, as they run -/
/-- no earlier place is joined with p: 1, or 0 -/
def grI (G : Int → Int) (p : Int) : Nat → Int → Int → Int
  | 0, _, b => b
  | d + 1, q, b => grI G p d (q + 1) (if b = 1 ∧ ¬ G p = G q then 1 else 0)
def grO (G : Int → Int) : Nat → Int → Int → Int
  | 0, _, a => a
  | d + 1, p, a => grO G d (p + 1) (a + (if grI G p p.toNat 0 1 = 1 then 1 else 0))
def gcF (G : Int → Int) : Int := grO G 9 0 0
theorem grI_01 (G : Int → Int) (p : Int) : ∀ (d : Nat) (q b : Int), b = 0 ∨ b = 1 → grI G p d q b = 0 ∨ grI G p d q b = 1 := by
  intro d
  induction d with
  | zero => intro q b h; exact h
  | succ d ih =>
    intro q b _
    unfold grI
    refine ih (q + 1) _ ?_
    split
    · exact Or.inr rfl
    · exact Or.inl rfl
theorem grI_is (G : Int → Int) (p : Int) : ∀ (d : Nat) (q b : Int), b = 0 ∨ b = 1 → (grI G p d q b = 1 ↔ b = 1 ∧ ∀ y : Int, q ≤ y → y < q + d → ¬ G p = G y) := by
  intro d
  induction d with
  | zero =>
    intro q b h
    exact ⟨fun w => ⟨w, fun y h1 h2 => by omega⟩, fun w => w.1⟩
  | succ d ih =>
    intro q b h
    unfold grI
    by_cases c : b = 1 ∧ ¬ G p = G q
    · rw [if_pos c, ih (q + 1) 1 (Or.inr rfl)]
      refine ⟨fun w => ⟨c.1, fun y h1 h2 => ?_⟩, fun w => ⟨rfl, fun y h1 h2 => w.2 y (by omega) (by omega)⟩⟩
      by_cases e : y = q
      · rw [e]; exact c.2
      · exact w.2 y (by omega) (by omega)
    · rw [if_neg c, ih (q + 1) 0 (Or.inl rfl)]
      refine ⟨fun w => absurd w.1 (by decide), fun w => absurd ⟨w.1, w.2 q (Int.le_refl _) (by omega)⟩ c⟩
/-- four fingers -/
def fgS (a b : Int) : Int := (if a / 1 % 2 = b / 1 % 2 then 0 else 1) + (if a / 2 % 2 = b / 2 % 2 then 0 else 1) + (if a / 4 % 2 = b / 4 % 2 then 0 else 1) + (if a / 8 % 2 = b / 8 % 2 then 0 else 1)
theorem fgS_a : ∀ a b : Fin 16, pop4 (xr ((a.1 : Nat) : Int) ((b.1 : Nat) : Int)) = fgS ((a.1 : Nat) : Int) ((b.1 : Nat) : Int) := by decide +kernel
theorem fgS_is {a b : Int} (ha : 0 ≤ a ∧ a < 16) (hb : 0 ≤ b ∧ b < 16) : pop4 (xr a b) = fgS a b := by
  obtain ⟨a, rfl⟩ := Int.eq_ofNat_of_zero_le ha.1
  obtain ⟨b, rfl⟩ := Int.eq_ofNat_of_zero_le hb.1
  exact fgS_a ⟨a, by omega⟩ ⟨b, by omega⟩
def rdS (dd mn : Int → Int) : Nat → Int → Int → Int → Int → Int
  | 0, _, ls, my, its => if my = 1 ∧ ls < 4 then its else -1
  | d + 1, z, ls, my, its => if dd z < ls then rdS dd mn d (z + 1) (dd z) 1 (mn z) else if dd z = ls then rdS dd mn d (z + 1) ls (my + 1) (mn z) else rdS dd mn d (z + 1) ls my its
theorem rdS_is (dd mn : Int → Int) : ∀ (d : Nat) (z ls my its fw m : Int), 1 ≤ my ∨ 4 ≤ ls → (ls < 4 → fw = ls ∧ 1 ≤ my ∧ m = if my = 1 then its else -1) → (4 ≤ ls → fw = 4 ∧ m = -1) → rdS dd mn d z ls my its = mrF dd mn d z fw m := by
  intro d
  induction d with
  | zero =>
    intro z ls my its fw m _ h2 h3
    show (if my = 1 ∧ ls < 4 then its else -1) = m
    by_cases c : ls < 4
    · rw [(h2 c).2.2]
      by_cases e : my = 1
      · rw [if_pos ⟨e, c⟩, if_pos e]
      · rw [if_neg (fun w => e w.1), if_neg e]
    · rw [if_neg (fun w => c w.2), (h3 (by omega)).2]
  | succ d ih =>
    intro z ls my its fw m h1 h2 h3
    unfold rdS mrF
    by_cases c : dd z < ls
    · rw [if_pos c]
      by_cases c2 : dd z < 4
      · have : dd z < fw := by
          by_cases q : ls < 4
          · have := h2 q; omega
          · have := h3 (by omega); omega
        rw [if_pos this]
        exact ih (z + 1) _ _ _ _ _ (Or.inl (by omega)) (fun _ => ⟨rfl, by omega, (if_pos rfl).symm⟩) (fun w => by omega)
      · have f4 := h3 (by omega)
        rw [if_neg (by omega)]
        by_cases q : dd z = fw
        · rw [if_pos q]
          exact ih (z + 1) _ _ _ _ _ (Or.inl (by omega)) (fun w => by omega) (fun _ => ⟨f4.1, rfl⟩)
        · rw [if_neg q]
          exact ih (z + 1) _ _ _ _ _ (Or.inl (by omega)) (fun w => by omega) (fun _ => ⟨f4.1, f4.2⟩)
    · rw [if_neg c]
      by_cases e : dd z = ls
      · rw [if_pos e]
        by_cases q : ls < 4
        · have := h2 q
          rw [if_neg (by omega), if_pos (by omega)]
          exact ih (z + 1) _ _ _ _ _ (Or.inl (by omega)) (fun _ => ⟨this.1, by omega, by rw [if_neg (by omega)]⟩) (fun w => by omega)
        · have f4 := h3 (by omega)
          rw [if_neg (by omega)]
          by_cases q2 : dd z = fw
          · rw [if_pos q2]
            exact ih (z + 1) _ _ _ _ _ (Or.inr (by omega)) (fun w => by omega) (fun _ => ⟨f4.1, rfl⟩)
          · rw [if_neg q2]
            exact ih (z + 1) _ _ _ _ _ (Or.inr (by omega)) (fun w => by omega) (fun _ => ⟨f4.1, f4.2⟩)
      · rw [if_neg e]
        have : ¬ dd z < fw ∧ ¬ dd z = fw := by
          by_cases q : ls < 4
          · have := h2 q; omega
          · have := h3 (by omega); omega
        rw [if_neg this.1, if_neg this.2]
        exact ih (z + 1) _ _ _ _ _ h1 h2 h3
end
section
theorem cnt_st (c : Prop) (hc : Decidable c) {a : Int} : (if decide c = true then a + 1 else a) = a + (if c then 1 else 0) := by
  by_cases h : c
  · rw [if_pos (decide_eq_true h), if_pos h]
  · rw [if_neg (fun q => h (of_decide_eq_true q)), if_neg h, Int.add_zero]
theorem grO_rg (G : Int → Int) : ∀ (d : Nat) (p a : Int), a ≤ grO G d p a ∧ grO G d p a ≤ a + d := by
  intro d
  induction d with
  | zero => intro p a; exact ⟨Int.le_refl _, by simp [grO]⟩
  | succ d ih =>
    intro p a
    unfold grO
    have h := ih (p + 1) (a + (if grI G p p.toNat 0 1 = 1 then 1 else 0))
    split at h <;> split <;> omega
theorem gcF_rg (G : Int → Int) : 0 ≤ gcF G ∧ gcF G ≤ 9 := by
  have := grO_rg G 9 0 0
  unfold gcF
  omega
set_option maxHeartbeats 4000000 in
set_option maxRecDepth 100000 in
theorem c_X4_steps {ll : Launch} (hll : ll.stackTraces = false) (g : GG) (X : va_W) (σ : Sg) {a : Nat} {r : RR} (hr : Rp g X a σ r) (hI : IC σ) (p q : Int) (hx : 0 ≤ p ∧ p < 9 ∧ 0 ≤ q ∧ q < 9) : CN ll yX4_steps cX4_steps 3 (some .int) 1 20 0 0 (gx g X) [.ref a, vI (p), vI (q)] σ (pt (some (vI (stp (σ.2 0) p q))) σ) := by
  refine CN_of (own := RX4) hll (by decide) rfl (Nat.le_of_ble_eq_true rfl) (fun mc hC _ hR => ?_)
  refine j_lv (lv2 := [(0, .ref a), (1, vI (p)), (2, vI (q))]) rfl ?_
  refine j_aload_n hC dX4_steps_0 0 rfl ?_
  refine r_joined hC hr wd532 dX4_steps_1 ?_
  refine j_iload_n hC dX4_steps_4 1 rfl ?_
  refine r_row hC hr (by omega) dX4_steps_5 ?_
  refine j_iload_n hC dX4_steps_6 2 rfl ?_
  refine r_bit hC hr (by omega) (by omega) dX4_steps_7 ?_
  refine j_ifb_eq (tgt := 15) hC dX4_steps_8 (by decide) (fun h8 => ?_) (fun h8 => ?_)
  · refine j_iload_n hC dX4_steps_15 1 rfl ?_
    refine j_iconst hC dX4_steps_16 ?_
    refine j_idiv hC dX4_steps_17 (by omega) ?_
    refine j_iload_n hC dX4_steps_18 2 rfl ?_
    refine j_iconst hC dX4_steps_19 ?_
    refine j_idiv hC dX4_steps_20 (by omega) ?_
    refine j_isub hC dX4_steps_21 ?_
    refine j_abs hC hR wd356 ⟨by decide, Nat.le_of_ble_eq_true rfl⟩ (by decide) (by omega) dX4_steps_22 ?_
    refine j_iload_n hC dX4_steps_25 1 rfl ?_
    refine j_iconst hC dX4_steps_26 ?_
    refine j_irem hC dX4_steps_27 (by omega) ?_
    refine j_iload_n hC dX4_steps_28 2 rfl ?_
    refine j_iconst hC dX4_steps_29 ?_
    refine j_irem hC dX4_steps_30 (by omega) ?_
    refine j_isub hC dX4_steps_31 ?_
    refine j_abs hC hR wd356 ⟨by decide, Nat.le_of_ble_eq_true rfl⟩ (by decide) (by omega) dX4_steps_32 ?_
    refine j_iadd hC dX4_steps_35 ?_
    exact j_iret hC dX4_steps_36 ⟨by unfold stp ab; first | rw [if_pos h8] | rw [if_neg h8], rfl⟩
  · refine j_iconst hC dX4_steps_11 ?_
    refine j_goto (tgt := 36) hC dX4_steps_12 (by decide) ?_
    exact j_iret hC dX4_steps_36 ⟨by unfold stp ab; first | rw [if_pos h8] | rw [if_neg h8], rfl⟩
set_option maxHeartbeats 4000000 in
set_option maxRecDepth 100000 in
theorem c_X4_far {ll : Launch} (hll : ll.stackTraces = false) (g : GG) (X : va_W) (σ : Sg) {a : Nat} {r : RR} (hr : Rp g X a σ r) (hI : IC σ) {x y : Nat} {L m L2 m2 : Int} (hx : Sn g X x L m) (hy : Sn g X y L2 m2) (hL : 0 ≤ L ∧ L < 2304 ∧ 0 ≤ L2 ∧ L2 < 2304) : CN ll yX4_far cX4_far 5 (some .int) 2 42 0 0 (gx g X) [.ref a, .ref x, .ref y] σ (pt (some (vI (dst (σ.2 0) L L2))) σ) := by
  refine CN_of (own := RX4) hll (by decide) rfl (Nat.le_of_ble_eq_true rfl) (fun mc hC _ hR => ?_)
  refine j_lv (lv2 := [(0, .ref a), (1, .ref x), (2, .ref y)]) rfl ?_
  refine j_aload_n hC dX4_far_0 0 rfl ?_
  refine j_aload_n hC dX4_far_1 1 rfl ?_
  refine j_iconst hC dX4_far_2 ?_
  refine r_num2 hC hx dX4_far_3 ?_
  refine j_aload_n hC dX4_far_4 2 rfl ?_
  refine j_iconst hC dX4_far_5 ?_
  refine r_num2 hC hy dX4_far_6 ?_
  refine x_callV1 (ar := 2) hC hR (c_X4_steps (hlJ hC) g X σ hr hI (L / 256) (L2 / 256) (by omega)) [] rfl hr.1 rfl rfl (by decide) (by decide +kernel) rfl wd352 wd353 wd354 wd4 wd355 (by decide) (Nat.le_of_ble_eq_true rfl) dX4_far_7 ?_
  have hs7 := stp_rg (G := σ.2 0) (a := L / 256) (b := L2 / 256) (by omega)
  refine j_istore_n hC dX4_far_10 [(3, vI (stp (σ.2 0) (L / 256) (L2 / 256))), (0, .ref a), (1, .ref x), (2, .ref y)] (by decide) rfl ?_
  refine j_iconst hC dX4_far_11 ?_
  refine j_istore hC dX4_far_12 [(4, vI (1)), (3, vI (stp (σ.2 0) (L / 256) (L2 / 256))), (0, .ref a), (1, .ref x), (2, .ref y)] (by decide) rfl ?_
  refine j_lv (lv2 := [(4, vI (1)), (3, vI (stp (σ.2 0) (L / 256) (L2 / 256))), (0, .ref a), (1, .ref x), (2, .ref y)]) rfl ?_
  refine j_iload hC dX4_far_14 0 rfl ?_
  refine j_bipush hC dX4_far_16 (by decide) ?_
  refine j_icmp_ge (tgt := 53) hC dX4_far_18 (by decide) (by omega) (fun h => absurd h (by omega)) (fun _ => ?_)
  refine j_aload_n hC dX4_far_21 3 rfl ?_
  refine j_iconst hC dX4_far_22 ?_
  refine r_num0 hC hx dX4_far_23 ?_
  refine j_iload hC dX4_far_24 0 rfl ?_
  refine j_idiv hC dX4_far_26 (by omega) ?_
  refine j_iconst hC dX4_far_27 ?_
  refine j_irem hC dX4_far_28 (by omega) ?_
  refine j_aload_n hC dX4_far_29 4 rfl ?_
  refine j_iconst hC dX4_far_30 ?_
  refine r_num0 hC hy dX4_far_31 ?_
  refine j_iload hC dX4_far_32 0 rfl ?_
  refine j_idiv hC dX4_far_34 (by omega) ?_
  refine j_iconst hC dX4_far_35 ?_
  refine j_irem hC dX4_far_36 (by omega) ?_
  suffices K43 : J mc (gx g X) 0 0 (QN mc (gx g X) (pt (some (vI (dst (σ.2 0) L L2))) σ) 0 0) 43 [(3, vI ((stp (σ.2 0) (L / 256) (L2 / 256)) + (if ((L % 16) / 1) % 2 = ((L2 % 16) / 1) % 2 then 0 else 1))), (4, vI (1)), (0, .ref a), (1, .ref x), (2, .ref y)] [] σ by
    refine j_icmp_eq (tgt := 43) hC dX4_far_37 (by decide) (by omega) (fun h37 => ?_) (fun h37 => ?_)
    · refine j_sub [1, 0, 2, 3, 4] rfl ?_
      exact (by first | (rw [show ((if ((L % 16) / 1) % 2 = ((L2 % 16) / 1) % 2 then 0 else 1) : Int) = 0 from if_pos (by omega), Int.add_zero] at K43; exact K43) | (rw [show ((if ((L % 16) / 1) % 2 = ((L2 % 16) / 1) % 2 then 0 else 1) : Int) = 0 from if_pos (by omega), Int.add_zero] at K43 ⊢; exact K43) | (rw [show ((if ((L % 16) / 1) % 2 = ((L2 % 16) / 1) % 2 then 0 else 1) : Int) = 1 from if_neg (by omega)] at K43; exact K43) | (rw [show ((if ((L % 16) / 1) % 2 = ((L2 % 16) / 1) % 2 then 0 else 1) : Int) = 1 from if_neg (by omega)] at K43 ⊢; exact K43))
    · refine j_iinc hC dX4_far_40 1 [(3, vI ((stp (σ.2 0) (L / 256) (L2 / 256)) + 1)), (4, vI (1)), (0, .ref a), (1, .ref x), (2, .ref y)] rfl (by decide) rfl ?_
      exact (by first | (rw [show ((if ((L % 16) / 1) % 2 = ((L2 % 16) / 1) % 2 then 0 else 1) : Int) = 0 from if_pos (by omega), Int.add_zero] at K43; exact K43) | (rw [show ((if ((L % 16) / 1) % 2 = ((L2 % 16) / 1) % 2 then 0 else 1) : Int) = 0 from if_pos (by omega), Int.add_zero] at K43 ⊢; exact K43) | (rw [show ((if ((L % 16) / 1) % 2 = ((L2 % 16) / 1) % 2 then 0 else 1) : Int) = 1 from if_neg (by omega)] at K43; exact K43) | (rw [show ((if ((L % 16) / 1) % 2 = ((L2 % 16) / 1) % 2 then 0 else 1) : Int) = 1 from if_neg (by omega)] at K43 ⊢; exact K43))
  refine j_iload hC dX4_far_43 1 rfl ?_
  refine j_iload hC dX4_far_45 1 rfl ?_
  refine j_iadd hC dX4_far_47 ?_
  refine j_istore hC dX4_far_48 [(4, vI (1 + 1)), (3, vI ((stp (σ.2 0) (L / 256) (L2 / 256)) + (if ((L % 16) / 1) % 2 = ((L2 % 16) / 1) % 2 then 0 else 1))), (0, .ref a), (1, .ref x), (2, .ref y)] (by decide) rfl ?_
  refine j_goto (tgt := 14) hC dX4_far_50 (by decide) ?_
  refine j_lv (lv2 := [(4, vI (2)), (3, vI ((stp (σ.2 0) (L / 256) (L2 / 256)) + (if ((L % 16) / 1) % 2 = ((L2 % 16) / 1) % 2 then 0 else 1))), (0, .ref a), (1, .ref x), (2, .ref y)]) rfl ?_
  refine j_iload hC dX4_far_14 0 rfl ?_
  refine j_bipush hC dX4_far_16 (by decide) ?_
  refine j_icmp_ge (tgt := 53) hC dX4_far_18 (by decide) (by omega) (fun h => absurd h (by omega)) (fun _ => ?_)
  refine j_aload_n hC dX4_far_21 3 rfl ?_
  refine j_iconst hC dX4_far_22 ?_
  refine r_num0 hC hx dX4_far_23 ?_
  refine j_iload hC dX4_far_24 0 rfl ?_
  refine j_idiv hC dX4_far_26 (by omega) ?_
  refine j_iconst hC dX4_far_27 ?_
  refine j_irem hC dX4_far_28 (by omega) ?_
  refine j_aload_n hC dX4_far_29 4 rfl ?_
  refine j_iconst hC dX4_far_30 ?_
  refine r_num0 hC hy dX4_far_31 ?_
  refine j_iload hC dX4_far_32 0 rfl ?_
  refine j_idiv hC dX4_far_34 (by omega) ?_
  refine j_iconst hC dX4_far_35 ?_
  refine j_irem hC dX4_far_36 (by omega) ?_
  suffices K43 : J mc (gx g X) 0 0 (QN mc (gx g X) (pt (some (vI (dst (σ.2 0) L L2))) σ) 0 0) 43 [(3, vI (((stp (σ.2 0) (L / 256) (L2 / 256)) + (if ((L % 16) / 1) % 2 = ((L2 % 16) / 1) % 2 then 0 else 1)) + (if ((L % 16) / 2) % 2 = ((L2 % 16) / 2) % 2 then 0 else 1))), (4, vI (2)), (0, .ref a), (1, .ref x), (2, .ref y)] [] σ by
    refine j_icmp_eq (tgt := 43) hC dX4_far_37 (by decide) (by omega) (fun h37 => ?_) (fun h37 => ?_)
    · refine j_sub [1, 0, 2, 3, 4] rfl ?_
      exact (by first | (rw [show ((if ((L % 16) / 2) % 2 = ((L2 % 16) / 2) % 2 then 0 else 1) : Int) = 0 from if_pos (by omega), Int.add_zero] at K43; exact K43) | (rw [show ((if ((L % 16) / 2) % 2 = ((L2 % 16) / 2) % 2 then 0 else 1) : Int) = 0 from if_pos (by omega), Int.add_zero] at K43 ⊢; exact K43) | (rw [show ((if ((L % 16) / 2) % 2 = ((L2 % 16) / 2) % 2 then 0 else 1) : Int) = 1 from if_neg (by omega)] at K43; exact K43) | (rw [show ((if ((L % 16) / 2) % 2 = ((L2 % 16) / 2) % 2 then 0 else 1) : Int) = 1 from if_neg (by omega)] at K43 ⊢; exact K43))
    · refine j_iinc hC dX4_far_40 1 [(3, vI (((stp (σ.2 0) (L / 256) (L2 / 256)) + (if ((L % 16) / 1) % 2 = ((L2 % 16) / 1) % 2 then 0 else 1)) + 1)), (4, vI (2)), (0, .ref a), (1, .ref x), (2, .ref y)] rfl (by decide) rfl ?_
      exact (by first | (rw [show ((if ((L % 16) / 2) % 2 = ((L2 % 16) / 2) % 2 then 0 else 1) : Int) = 0 from if_pos (by omega), Int.add_zero] at K43; exact K43) | (rw [show ((if ((L % 16) / 2) % 2 = ((L2 % 16) / 2) % 2 then 0 else 1) : Int) = 0 from if_pos (by omega), Int.add_zero] at K43 ⊢; exact K43) | (rw [show ((if ((L % 16) / 2) % 2 = ((L2 % 16) / 2) % 2 then 0 else 1) : Int) = 1 from if_neg (by omega)] at K43; exact K43) | (rw [show ((if ((L % 16) / 2) % 2 = ((L2 % 16) / 2) % 2 then 0 else 1) : Int) = 1 from if_neg (by omega)] at K43 ⊢; exact K43))
  refine j_iload hC dX4_far_43 1 rfl ?_
  refine j_iload hC dX4_far_45 1 rfl ?_
  refine j_iadd hC dX4_far_47 ?_
  refine j_istore hC dX4_far_48 [(4, vI (2 + 2)), (3, vI (((stp (σ.2 0) (L / 256) (L2 / 256)) + (if ((L % 16) / 1) % 2 = ((L2 % 16) / 1) % 2 then 0 else 1)) + (if ((L % 16) / 2) % 2 = ((L2 % 16) / 2) % 2 then 0 else 1))), (0, .ref a), (1, .ref x), (2, .ref y)] (by decide) rfl ?_
  refine j_goto (tgt := 14) hC dX4_far_50 (by decide) ?_
  refine j_lv (lv2 := [(4, vI (4)), (3, vI (((stp (σ.2 0) (L / 256) (L2 / 256)) + (if ((L % 16) / 1) % 2 = ((L2 % 16) / 1) % 2 then 0 else 1)) + (if ((L % 16) / 2) % 2 = ((L2 % 16) / 2) % 2 then 0 else 1))), (0, .ref a), (1, .ref x), (2, .ref y)]) rfl ?_
  refine j_iload hC dX4_far_14 0 rfl ?_
  refine j_bipush hC dX4_far_16 (by decide) ?_
  refine j_icmp_ge (tgt := 53) hC dX4_far_18 (by decide) (by omega) (fun h => absurd h (by omega)) (fun _ => ?_)
  refine j_aload_n hC dX4_far_21 3 rfl ?_
  refine j_iconst hC dX4_far_22 ?_
  refine r_num0 hC hx dX4_far_23 ?_
  refine j_iload hC dX4_far_24 0 rfl ?_
  refine j_idiv hC dX4_far_26 (by omega) ?_
  refine j_iconst hC dX4_far_27 ?_
  refine j_irem hC dX4_far_28 (by omega) ?_
  refine j_aload_n hC dX4_far_29 4 rfl ?_
  refine j_iconst hC dX4_far_30 ?_
  refine r_num0 hC hy dX4_far_31 ?_
  refine j_iload hC dX4_far_32 0 rfl ?_
  refine j_idiv hC dX4_far_34 (by omega) ?_
  refine j_iconst hC dX4_far_35 ?_
  refine j_irem hC dX4_far_36 (by omega) ?_
  suffices K43 : J mc (gx g X) 0 0 (QN mc (gx g X) (pt (some (vI (dst (σ.2 0) L L2))) σ) 0 0) 43 [(3, vI ((((stp (σ.2 0) (L / 256) (L2 / 256)) + (if ((L % 16) / 1) % 2 = ((L2 % 16) / 1) % 2 then 0 else 1)) + (if ((L % 16) / 2) % 2 = ((L2 % 16) / 2) % 2 then 0 else 1)) + (if ((L % 16) / 4) % 2 = ((L2 % 16) / 4) % 2 then 0 else 1))), (4, vI (4)), (0, .ref a), (1, .ref x), (2, .ref y)] [] σ by
    refine j_icmp_eq (tgt := 43) hC dX4_far_37 (by decide) (by omega) (fun h37 => ?_) (fun h37 => ?_)
    · refine j_sub [1, 0, 2, 3, 4] rfl ?_
      exact (by first | (rw [show ((if ((L % 16) / 4) % 2 = ((L2 % 16) / 4) % 2 then 0 else 1) : Int) = 0 from if_pos (by omega), Int.add_zero] at K43; exact K43) | (rw [show ((if ((L % 16) / 4) % 2 = ((L2 % 16) / 4) % 2 then 0 else 1) : Int) = 0 from if_pos (by omega), Int.add_zero] at K43 ⊢; exact K43) | (rw [show ((if ((L % 16) / 4) % 2 = ((L2 % 16) / 4) % 2 then 0 else 1) : Int) = 1 from if_neg (by omega)] at K43; exact K43) | (rw [show ((if ((L % 16) / 4) % 2 = ((L2 % 16) / 4) % 2 then 0 else 1) : Int) = 1 from if_neg (by omega)] at K43 ⊢; exact K43))
    · refine j_iinc hC dX4_far_40 1 [(3, vI ((((stp (σ.2 0) (L / 256) (L2 / 256)) + (if ((L % 16) / 1) % 2 = ((L2 % 16) / 1) % 2 then 0 else 1)) + (if ((L % 16) / 2) % 2 = ((L2 % 16) / 2) % 2 then 0 else 1)) + 1)), (4, vI (4)), (0, .ref a), (1, .ref x), (2, .ref y)] rfl (by decide) rfl ?_
      exact (by first | (rw [show ((if ((L % 16) / 4) % 2 = ((L2 % 16) / 4) % 2 then 0 else 1) : Int) = 0 from if_pos (by omega), Int.add_zero] at K43; exact K43) | (rw [show ((if ((L % 16) / 4) % 2 = ((L2 % 16) / 4) % 2 then 0 else 1) : Int) = 0 from if_pos (by omega), Int.add_zero] at K43 ⊢; exact K43) | (rw [show ((if ((L % 16) / 4) % 2 = ((L2 % 16) / 4) % 2 then 0 else 1) : Int) = 1 from if_neg (by omega)] at K43; exact K43) | (rw [show ((if ((L % 16) / 4) % 2 = ((L2 % 16) / 4) % 2 then 0 else 1) : Int) = 1 from if_neg (by omega)] at K43 ⊢; exact K43))
  refine j_iload hC dX4_far_43 1 rfl ?_
  refine j_iload hC dX4_far_45 1 rfl ?_
  refine j_iadd hC dX4_far_47 ?_
  refine j_istore hC dX4_far_48 [(4, vI (4 + 4)), (3, vI ((((stp (σ.2 0) (L / 256) (L2 / 256)) + (if ((L % 16) / 1) % 2 = ((L2 % 16) / 1) % 2 then 0 else 1)) + (if ((L % 16) / 2) % 2 = ((L2 % 16) / 2) % 2 then 0 else 1)) + (if ((L % 16) / 4) % 2 = ((L2 % 16) / 4) % 2 then 0 else 1))), (0, .ref a), (1, .ref x), (2, .ref y)] (by decide) rfl ?_
  refine j_goto (tgt := 14) hC dX4_far_50 (by decide) ?_
  refine j_lv (lv2 := [(4, vI (8)), (3, vI ((((stp (σ.2 0) (L / 256) (L2 / 256)) + (if ((L % 16) / 1) % 2 = ((L2 % 16) / 1) % 2 then 0 else 1)) + (if ((L % 16) / 2) % 2 = ((L2 % 16) / 2) % 2 then 0 else 1)) + (if ((L % 16) / 4) % 2 = ((L2 % 16) / 4) % 2 then 0 else 1))), (0, .ref a), (1, .ref x), (2, .ref y)]) rfl ?_
  refine j_iload hC dX4_far_14 0 rfl ?_
  refine j_bipush hC dX4_far_16 (by decide) ?_
  refine j_icmp_ge (tgt := 53) hC dX4_far_18 (by decide) (by omega) (fun h => absurd h (by omega)) (fun _ => ?_)
  refine j_aload_n hC dX4_far_21 3 rfl ?_
  refine j_iconst hC dX4_far_22 ?_
  refine r_num0 hC hx dX4_far_23 ?_
  refine j_iload hC dX4_far_24 0 rfl ?_
  refine j_idiv hC dX4_far_26 (by omega) ?_
  refine j_iconst hC dX4_far_27 ?_
  refine j_irem hC dX4_far_28 (by omega) ?_
  refine j_aload_n hC dX4_far_29 4 rfl ?_
  refine j_iconst hC dX4_far_30 ?_
  refine r_num0 hC hy dX4_far_31 ?_
  refine j_iload hC dX4_far_32 0 rfl ?_
  refine j_idiv hC dX4_far_34 (by omega) ?_
  refine j_iconst hC dX4_far_35 ?_
  refine j_irem hC dX4_far_36 (by omega) ?_
  suffices K43 : J mc (gx g X) 0 0 (QN mc (gx g X) (pt (some (vI (dst (σ.2 0) L L2))) σ) 0 0) 43 [(3, vI (((((stp (σ.2 0) (L / 256) (L2 / 256)) + (if ((L % 16) / 1) % 2 = ((L2 % 16) / 1) % 2 then 0 else 1)) + (if ((L % 16) / 2) % 2 = ((L2 % 16) / 2) % 2 then 0 else 1)) + (if ((L % 16) / 4) % 2 = ((L2 % 16) / 4) % 2 then 0 else 1)) + (if ((L % 16) / 8) % 2 = ((L2 % 16) / 8) % 2 then 0 else 1))), (4, vI (8)), (0, .ref a), (1, .ref x), (2, .ref y)] [] σ by
    refine j_icmp_eq (tgt := 43) hC dX4_far_37 (by decide) (by omega) (fun h37 => ?_) (fun h37 => ?_)
    · refine j_sub [1, 0, 2, 3, 4] rfl ?_
      exact (by first | (rw [show ((if ((L % 16) / 8) % 2 = ((L2 % 16) / 8) % 2 then 0 else 1) : Int) = 0 from if_pos (by omega), Int.add_zero] at K43; exact K43) | (rw [show ((if ((L % 16) / 8) % 2 = ((L2 % 16) / 8) % 2 then 0 else 1) : Int) = 0 from if_pos (by omega), Int.add_zero] at K43 ⊢; exact K43) | (rw [show ((if ((L % 16) / 8) % 2 = ((L2 % 16) / 8) % 2 then 0 else 1) : Int) = 1 from if_neg (by omega)] at K43; exact K43) | (rw [show ((if ((L % 16) / 8) % 2 = ((L2 % 16) / 8) % 2 then 0 else 1) : Int) = 1 from if_neg (by omega)] at K43 ⊢; exact K43))
    · refine j_iinc hC dX4_far_40 1 [(3, vI (((((stp (σ.2 0) (L / 256) (L2 / 256)) + (if ((L % 16) / 1) % 2 = ((L2 % 16) / 1) % 2 then 0 else 1)) + (if ((L % 16) / 2) % 2 = ((L2 % 16) / 2) % 2 then 0 else 1)) + (if ((L % 16) / 4) % 2 = ((L2 % 16) / 4) % 2 then 0 else 1)) + 1)), (4, vI (8)), (0, .ref a), (1, .ref x), (2, .ref y)] rfl (by decide) rfl ?_
      exact (by first | (rw [show ((if ((L % 16) / 8) % 2 = ((L2 % 16) / 8) % 2 then 0 else 1) : Int) = 0 from if_pos (by omega), Int.add_zero] at K43; exact K43) | (rw [show ((if ((L % 16) / 8) % 2 = ((L2 % 16) / 8) % 2 then 0 else 1) : Int) = 0 from if_pos (by omega), Int.add_zero] at K43 ⊢; exact K43) | (rw [show ((if ((L % 16) / 8) % 2 = ((L2 % 16) / 8) % 2 then 0 else 1) : Int) = 1 from if_neg (by omega)] at K43; exact K43) | (rw [show ((if ((L % 16) / 8) % 2 = ((L2 % 16) / 8) % 2 then 0 else 1) : Int) = 1 from if_neg (by omega)] at K43 ⊢; exact K43))
  refine j_iload hC dX4_far_43 1 rfl ?_
  refine j_iload hC dX4_far_45 1 rfl ?_
  refine j_iadd hC dX4_far_47 ?_
  refine j_istore hC dX4_far_48 [(4, vI (8 + 8)), (3, vI (((((stp (σ.2 0) (L / 256) (L2 / 256)) + (if ((L % 16) / 1) % 2 = ((L2 % 16) / 1) % 2 then 0 else 1)) + (if ((L % 16) / 2) % 2 = ((L2 % 16) / 2) % 2 then 0 else 1)) + (if ((L % 16) / 4) % 2 = ((L2 % 16) / 4) % 2 then 0 else 1)) + (if ((L % 16) / 8) % 2 = ((L2 % 16) / 8) % 2 then 0 else 1))), (0, .ref a), (1, .ref x), (2, .ref y)] (by decide) rfl ?_
  refine j_goto (tgt := 14) hC dX4_far_50 (by decide) ?_
  refine j_lv (lv2 := [(4, vI (16)), (3, vI (((((stp (σ.2 0) (L / 256) (L2 / 256)) + (if ((L % 16) / 1) % 2 = ((L2 % 16) / 1) % 2 then 0 else 1)) + (if ((L % 16) / 2) % 2 = ((L2 % 16) / 2) % 2 then 0 else 1)) + (if ((L % 16) / 4) % 2 = ((L2 % 16) / 4) % 2 then 0 else 1)) + (if ((L % 16) / 8) % 2 = ((L2 % 16) / 8) % 2 then 0 else 1))), (0, .ref a), (1, .ref x), (2, .ref y)]) rfl ?_
  refine j_iload hC dX4_far_14 0 rfl ?_
  refine j_bipush hC dX4_far_16 (by decide) ?_
  refine j_icmp_ge (tgt := 53) hC dX4_far_18 (by decide) (by omega) (fun _ => ?_) (fun h => absurd h (by omega))
  refine j_aload_n hC dX4_far_53 3 rfl ?_
  refine j_iconst hC dX4_far_54 ?_
  refine r_num1 hC hx dX4_far_55 ?_
  refine j_aload_n hC dX4_far_56 4 rfl ?_
  refine j_iconst hC dX4_far_57 ?_
  refine r_num1 hC hy dX4_far_58 ?_
  suffices K65 : J mc (gx g X) 0 0 (QN mc (gx g X) (pt (some (vI (dst (σ.2 0) L L2))) σ) 0 0) 65 [(3, vI ((((((stp (σ.2 0) (L / 256) (L2 / 256)) + (if ((L % 16) / 1) % 2 = ((L2 % 16) / 1) % 2 then 0 else 1)) + (if ((L % 16) / 2) % 2 = ((L2 % 16) / 2) % 2 then 0 else 1)) + (if ((L % 16) / 4) % 2 = ((L2 % 16) / 4) % 2 then 0 else 1)) + (if ((L % 16) / 8) % 2 = ((L2 % 16) / 8) % 2 then 0 else 1)) + (if L / 16 % 4 = L2 / 16 % 4 then 0 else 1))), (0, .ref a), (1, .ref x), (2, .ref y)] [] σ by
    refine j_icmp_eq (tgt := 65) hC dX4_far_59 (by decide) (by omega) (fun h59 => ?_) (fun h59 => ?_)
    · refine j_sub [1, 2, 3, 4] rfl ?_
      exact (by first | (rw [show ((if L / 16 % 4 = L2 / 16 % 4 then 0 else 1) : Int) = 0 from if_pos (by omega), Int.add_zero] at K65; exact K65) | (rw [show ((if L / 16 % 4 = L2 / 16 % 4 then 0 else 1) : Int) = 0 from if_pos (by omega), Int.add_zero] at K65 ⊢; exact K65) | (rw [show ((if L / 16 % 4 = L2 / 16 % 4 then 0 else 1) : Int) = 1 from if_neg (by omega)] at K65; exact K65) | (rw [show ((if L / 16 % 4 = L2 / 16 % 4 then 0 else 1) : Int) = 1 from if_neg (by omega)] at K65 ⊢; exact K65))
    · refine j_iinc hC dX4_far_62 1 [(3, vI ((((((stp (σ.2 0) (L / 256) (L2 / 256)) + (if ((L % 16) / 1) % 2 = ((L2 % 16) / 1) % 2 then 0 else 1)) + (if ((L % 16) / 2) % 2 = ((L2 % 16) / 2) % 2 then 0 else 1)) + (if ((L % 16) / 4) % 2 = ((L2 % 16) / 4) % 2 then 0 else 1)) + (if ((L % 16) / 8) % 2 = ((L2 % 16) / 8) % 2 then 0 else 1)) + 1)), (4, vI (16)), (0, .ref a), (1, .ref x), (2, .ref y)] rfl (by decide) rfl ?_
      refine j_sub [0, 2, 3, 4] rfl ?_
      exact (by first | (rw [show ((if L / 16 % 4 = L2 / 16 % 4 then 0 else 1) : Int) = 0 from if_pos (by omega), Int.add_zero] at K65; exact K65) | (rw [show ((if L / 16 % 4 = L2 / 16 % 4 then 0 else 1) : Int) = 0 from if_pos (by omega), Int.add_zero] at K65 ⊢; exact K65) | (rw [show ((if L / 16 % 4 = L2 / 16 % 4 then 0 else 1) : Int) = 1 from if_neg (by omega)] at K65; exact K65) | (rw [show ((if L / 16 % 4 = L2 / 16 % 4 then 0 else 1) : Int) = 1 from if_neg (by omega)] at K65 ⊢; exact K65))
  refine j_aload_n hC dX4_far_65 2 rfl ?_
  refine j_iconst hC dX4_far_66 ?_
  refine r_num3 hC hx dX4_far_67 ?_
  refine j_aload_n hC dX4_far_68 3 rfl ?_
  refine j_iconst hC dX4_far_69 ?_
  refine r_num3 hC hy dX4_far_70 ?_
  suffices K77 : J mc (gx g X) 0 0 (QN mc (gx g X) (pt (some (vI (dst (σ.2 0) L L2))) σ) 0 0) 77 [(3, vI (((((((stp (σ.2 0) (L / 256) (L2 / 256)) + (if ((L % 16) / 1) % 2 = ((L2 % 16) / 1) % 2 then 0 else 1)) + (if ((L % 16) / 2) % 2 = ((L2 % 16) / 2) % 2 then 0 else 1)) + (if ((L % 16) / 4) % 2 = ((L2 % 16) / 4) % 2 then 0 else 1)) + (if ((L % 16) / 8) % 2 = ((L2 % 16) / 8) % 2 then 0 else 1)) + (if L / 16 % 4 = L2 / 16 % 4 then 0 else 1)) + (if L / 64 % 4 = L2 / 64 % 4 then 0 else 2))), (0, .ref a), (1, .ref x), (2, .ref y)] [] σ by
    refine j_icmp_eq (tgt := 77) hC dX4_far_71 (by decide) (by omega) (fun h71 => ?_) (fun h71 => ?_)
    · exact (by first | (rw [show ((if L / 64 % 4 = L2 / 64 % 4 then 0 else 2) : Int) = 0 from if_pos (by omega), Int.add_zero] at K77; exact K77) | (rw [show ((if L / 64 % 4 = L2 / 64 % 4 then 0 else 2) : Int) = 0 from if_pos (by omega), Int.add_zero] at K77 ⊢; exact K77) | (rw [show ((if L / 64 % 4 = L2 / 64 % 4 then 0 else 2) : Int) = 2 from if_neg (by omega)] at K77; exact K77) | (rw [show ((if L / 64 % 4 = L2 / 64 % 4 then 0 else 2) : Int) = 2 from if_neg (by omega)] at K77 ⊢; exact K77))
    · refine j_iinc hC dX4_far_74 0 [(3, vI (((((((stp (σ.2 0) (L / 256) (L2 / 256)) + (if ((L % 16) / 1) % 2 = ((L2 % 16) / 1) % 2 then 0 else 1)) + (if ((L % 16) / 2) % 2 = ((L2 % 16) / 2) % 2 then 0 else 1)) + (if ((L % 16) / 4) % 2 = ((L2 % 16) / 4) % 2 then 0 else 1)) + (if ((L % 16) / 8) % 2 = ((L2 % 16) / 8) % 2 then 0 else 1)) + (if L / 16 % 4 = L2 / 16 % 4 then 0 else 1)) + 2)), (0, .ref a), (1, .ref x), (2, .ref y)] rfl (by decide) rfl ?_
      exact (by first | (rw [show ((if L / 64 % 4 = L2 / 64 % 4 then 0 else 2) : Int) = 0 from if_pos (by omega), Int.add_zero] at K77; exact K77) | (rw [show ((if L / 64 % 4 = L2 / 64 % 4 then 0 else 2) : Int) = 0 from if_pos (by omega), Int.add_zero] at K77 ⊢; exact K77) | (rw [show ((if L / 64 % 4 = L2 / 64 % 4 then 0 else 2) : Int) = 2 from if_neg (by omega)] at K77; exact K77) | (rw [show ((if L / 64 % 4 = L2 / 64 % 4 then 0 else 2) : Int) = 2 from if_neg (by omega)] at K77 ⊢; exact K77))
  refine j_iload_n hC dX4_far_77 0 rfl ?_
  exact j_iret hC dX4_far_78 ⟨congrArg (fun z => some (vI z)) (by unfold dst; rw [fgS_is (by omega) (by omega)]; unfold fgS; ac_rfl), rfl⟩
set_option maxHeartbeats 4000000 in
set_option maxRecDepth 100000 in
theorem lp_X4_signFor {mc : MC} {g : GG} {X : va_W} {σ : Sg} {a : Nat} {r : RR} (hr : Rp g X a σ r) (hI : IC σ) (hC : Cx mc (gx g X) cX4_signFor RX4 4 (some .int)) (hR : mR mc = rmJ 0 0 0 0) (l : Int) (hl : 0 ≤ l ∧ l < σ.1 0) (x : Int) (hx : 0 ≤ x ∧ x < 30) : ∀ (d : Nat) (d_z : Int), (0 ≤ d_z) → (d_z + (d : Int) = σ.1 (2 + l.toNat)) → J mc (gx g X) 0 0 (QN mc (gx g X) (pt (some (vI (fnd (mnB σ l.toNat) x d d_z))) σ) 0 0) 2 [(3, vI (d_z)), (0, .ref a), (1, vI (l)), (2, vI (x))] [] σ := by
  intro d
  induction d with
  | zero =>
    intro d_z h0 hz
    have hkn := IC_k hI hl
    have hc0 := IC_n hI
    refine j_iload_n hC dX4_signFor_2 0 rfl ?_
    refine j_aload_n hC dX4_signFor_3 1 rfl ?_
    refine r_books hC hr wd530 dX4_signFor_4 ?_
    refine j_iload_n hC dX4_signFor_7 2 rfl ?_
    refine r_lodge hC hr hI (by omega) dX4_signFor_8 ?_
    refine r_llen hC hr hI (by omega) dX4_signFor_9 ?_
    refine j_icmp_ge (tgt := 35) hC dX4_signFor_10 (by decide) (by omega) (fun _ => ?_) (fun h => absurd h (by omega))
    refine j_iconst hC dX4_signFor_35 ?_
    exact j_iret hC dX4_signFor_36 ⟨rfl, rfl⟩
  | succ d ih =>
    intro d_z h0 hz
    have hkn := IC_k hI hl
    have hc0 := IC_n hI
    have hs := IC_s hI hl (z := d_z) (by omega)
    rw [show fnd (mnB σ l.toNat) x (d + 1) d_z = if mnB σ l.toNat d_z = x then d_z else fnd (mnB σ l.toNat) x d (d_z + 1) from rfl]
    refine j_iload_n hC dX4_signFor_2 0 rfl ?_
    refine j_aload_n hC dX4_signFor_3 1 rfl ?_
    refine r_books hC hr wd530 dX4_signFor_4 ?_
    refine j_iload_n hC dX4_signFor_7 2 rfl ?_
    refine r_lodge hC hr hI (by omega) dX4_signFor_8 ?_
    refine r_llen hC hr hI (by omega) dX4_signFor_9 ?_
    refine j_icmp_ge (tgt := 35) hC dX4_signFor_10 (by decide) (by omega) (fun h => absurd h (by omega)) (fun _ => ?_)
    refine j_aload_n hC dX4_signFor_13 1 rfl ?_
    refine r_books hC hr wd530 dX4_signFor_14 ?_
    refine j_iload_n hC dX4_signFor_17 2 rfl ?_
    refine r_lodge hC hr hI (by omega) dX4_signFor_18 ?_
    refine j_iload_n hC dX4_signFor_19 0 rfl ?_
    refine r_sign hC hr hI (by omega) (by omega) dX4_signFor_20 ?_
    refine j_iconst hC dX4_signFor_21 ?_
    refine r_num4 hC (Rp.sn hr hI (l := l) (z := d_z) (by omega) (by omega)) dX4_signFor_22 ?_
    refine j_iload_n hC dX4_signFor_23 3 rfl ?_
    refine j_icmp_ne (tgt := 29) hC dX4_signFor_24 (by decide) (by omega) (fun h24 => ?_) (fun h24 => ?_)
    · refine j_iinc hC dX4_signFor_29 0 [(3, vI (d_z + 1)), (0, .ref a), (1, vI (l)), (2, vI (x))] rfl (by decide) rfl ?_
      refine j_goto (tgt := 2) hC dX4_signFor_32 (by decide) ?_
      rw [if_neg h24]
      exact ih (d_z + 1) (by omega) (by omega)
    · refine j_iload_n hC dX4_signFor_27 0 rfl ?_
      exact j_iret hC dX4_signFor_28 ⟨by rw [if_pos h24], rfl⟩
set_option maxHeartbeats 4000000 in
set_option maxRecDepth 100000 in
theorem c_X4_signFor {ll : Launch} (hll : ll.stackTraces = false) (g : GG) (X : va_W) (σ : Sg) {a : Nat} {r : RR} (hr : Rp g X a σ r) (hI : IC σ) (l : Int) (hl : 0 ≤ l ∧ l < σ.1 0) (x : Int) (hx : 0 ≤ x ∧ x < 30) : CN ll yX4_signFor cX4_signFor 4 (some .int) 0 0 0 0 (gx g X) [.ref a, vI (l), vI (x)] σ (pt (some (vI (findB σ l.toNat x))) σ) := by
  refine CN_of (own := RX4) hll (by decide) rfl (Nat.le_of_ble_eq_true rfl) (fun mc hC _ hR => ?_)
  refine j_lv (lv2 := [(0, .ref a), (1, vI (l)), (2, vI (x))]) rfl ?_
  have hkn := IC_k hI hl
  have hc0 := IC_n hI
  refine j_iconst hC dX4_signFor_0 ?_
  refine j_istore_n hC dX4_signFor_1 [(3, vI (0)), (0, .ref a), (1, vI (l)), (2, vI (x))] (by decide) rfl ?_
  exact lp_X4_signFor hr hI hC hR l hl x hx (cN σ l.toNat) 0 (by omega) (by omega)
set_option maxHeartbeats 4000000 in
set_option maxRecDepth 100000 in
theorem lp_X4_groups_i {mc : MC} {g : GG} {X : va_W} {σ : Sg} {Q : State → Prop} {a : Nat} {r : RR} (hr : Rp g X a σ r) (hI : IC σ) (hC : Cx mc (gx g X) cX4_groups RX4 5 (some .int)) (hR : mR mc = rmJ 0 0 0 0) (p s : Int) (hp : 0 ≤ p ∧ p < 9) : ∀ (d : Nat) (q : Int) (b : Int), (0 ≤ q) → (q + (d : Int) = p) → (b = 0 ∨ b = 1) → (J mc (gx g X) 0 0 Q 49 [(3, vI (grI (σ.2 0) p d q b)), (1, vI (s)), (2, vI (p)), (0, .ref a)] [] σ) → J mc (gx g X) 0 0 Q 15 [(4, vI (q)), (3, vI (b)), (1, vI (s)), (2, vI (p)), (0, .ref a)] [] σ := by
  intro d
  induction d with
  | zero =>
    intro q b h0 hz hb kx
    refine j_iload hC dX4_groups_15 0 rfl ?_
    refine j_iload_n hC dX4_groups_17 3 rfl ?_
    refine j_icmp_ge (tgt := 49) hC dX4_groups_18 (by decide) (by omega) (fun _ => ?_) (fun h => absurd h (by omega))
    refine j_sub [1, 2, 3, 4] rfl ?_
    exact kx
  | succ d ih =>
    intro q b h0 hz hb kx
    rw [show grI (σ.2 0) p (d + 1) q b = grI (σ.2 0) p d (q + 1) (if b = 1 ∧ ¬ σ.2 0 p = σ.2 0 q then 1 else 0) from rfl] at kx
    refine j_iload hC dX4_groups_15 0 rfl ?_
    refine j_iload_n hC dX4_groups_17 3 rfl ?_
    refine j_icmp_ge (tgt := 49) hC dX4_groups_18 (by decide) (by omega) (fun h => absurd h (by omega)) (fun _ => ?_)
    refine j_iload_n hC dX4_groups_21 1 rfl ?_
    suffices K42 : J mc (gx g X) 0 0 Q 42 [(4, vI (q)), (3, vI (b)), (1, vI (s)), (2, vI (p)), (0, .ref a)] [vI ((if b = 1 ∧ ¬ σ.2 0 p = σ.2 0 q then 1 else 0))] σ by
      refine j_if_eq (tgt := 41) hC dX4_groups_22 (by decide) (by omega) (fun h22 => ?_) (fun h22 => ?_)
      · refine j_iconst hC dX4_groups_41 ?_
        exact (by first | (rw [show ((if b = 1 ∧ ¬ σ.2 0 p = σ.2 0 q then 1 else 0) : Int) = 1 from if_pos (by omega)] at K42; exact K42) | (rw [show ((if b = 1 ∧ ¬ σ.2 0 p = σ.2 0 q then 1 else 0) : Int) = 1 from if_pos (by omega)] at K42 ⊢; exact K42) | (rw [show ((if b = 1 ∧ ¬ σ.2 0 p = σ.2 0 q then 1 else 0) : Int) = 0 from if_neg (by omega)] at K42; exact K42) | (rw [show ((if b = 1 ∧ ¬ σ.2 0 p = σ.2 0 q then 1 else 0) : Int) = 0 from if_neg (by omega)] at K42 ⊢; exact K42))
      · refine j_aload_n hC dX4_groups_25 4 rfl ?_
        refine r_joined hC hr wd532 dX4_groups_26 ?_
        refine j_iload_n hC dX4_groups_29 3 rfl ?_
        refine r_row hC hr (by omega) dX4_groups_30 ?_
        refine j_iload hC dX4_groups_31 0 rfl ?_
        refine r_bit hC hr (by omega) (by omega) dX4_groups_33 ?_
        refine j_ifb_ne (tgt := 41) hC dX4_groups_34 (by decide) (fun h34 => ?_) (fun h34 => ?_)
        · refine j_iconst hC dX4_groups_41 ?_
          exact (by first | (rw [show ((if b = 1 ∧ ¬ σ.2 0 p = σ.2 0 q then 1 else 0) : Int) = 1 from if_pos (by omega)] at K42; exact K42) | (rw [show ((if b = 1 ∧ ¬ σ.2 0 p = σ.2 0 q then 1 else 0) : Int) = 1 from if_pos (by omega)] at K42 ⊢; exact K42) | (rw [show ((if b = 1 ∧ ¬ σ.2 0 p = σ.2 0 q then 1 else 0) : Int) = 0 from if_neg (by omega)] at K42; exact K42) | (rw [show ((if b = 1 ∧ ¬ σ.2 0 p = σ.2 0 q then 1 else 0) : Int) = 0 from if_neg (by omega)] at K42 ⊢; exact K42))
        · refine j_iconst hC dX4_groups_37 ?_
          refine j_goto (tgt := 42) hC dX4_groups_38 (by decide) ?_
          exact (by first | (rw [show ((if b = 1 ∧ ¬ σ.2 0 p = σ.2 0 q then 1 else 0) : Int) = 1 from if_pos (by omega)] at K42; exact K42) | (rw [show ((if b = 1 ∧ ¬ σ.2 0 p = σ.2 0 q then 1 else 0) : Int) = 1 from if_pos (by omega)] at K42 ⊢; exact K42) | (rw [show ((if b = 1 ∧ ¬ σ.2 0 p = σ.2 0 q then 1 else 0) : Int) = 0 from if_neg (by omega)] at K42; exact K42) | (rw [show ((if b = 1 ∧ ¬ σ.2 0 p = σ.2 0 q then 1 else 0) : Int) = 0 from if_neg (by omega)] at K42 ⊢; exact K42))
    refine j_istore_n hC dX4_groups_42 [(3, vI ((if b = 1 ∧ ¬ σ.2 0 p = σ.2 0 q then 1 else 0))), (4, vI (q)), (1, vI (s)), (2, vI (p)), (0, .ref a)] (by decide) rfl ?_
    refine j_iinc hC dX4_groups_43 1 [(4, vI (q + 1)), (3, vI ((if b = 1 ∧ ¬ σ.2 0 p = σ.2 0 q then 1 else 0))), (1, vI (s)), (2, vI (p)), (0, .ref a)] rfl (by decide) rfl ?_
    refine j_goto (tgt := 15) hC dX4_groups_46 (by decide) ?_
    exact ih (q + 1) _ (by omega) (by omega) (by split; exact Or.inr rfl; exact Or.inl rfl) kx
set_option maxHeartbeats 4000000 in
set_option maxRecDepth 100000 in
theorem lp_X4_groups_o {mc : MC} {g : GG} {X : va_W} {σ : Sg} {a : Nat} {r : RR} (hr : Rp g X a σ r) (hI : IC σ) (hC : Cx mc (gx g X) cX4_groups RX4 5 (some .int)) (hR : mR mc = rmJ 0 0 0 0)  : ∀ (d : Nat) (p : Int) (s : Int), (0 ≤ p) → (p + (d : Int) = 9) → (0 ≤ s ∧ s ≤ p) → J mc (gx g X) 0 0 (QN mc (gx g X) (pt (some (vI (grO (σ.2 0) d p s))) σ) 0 0) 4 [(1, vI (s)), (2, vI (p)), (0, .ref a)] [] σ := by
  intro d
  induction d with
  | zero =>
    intro p s h0 hz hs
    refine j_iload_n hC dX4_groups_4 1 rfl ?_
    refine j_bipush hC dX4_groups_5 (by decide) ?_
    refine j_icmp_ge (tgt := 67) hC dX4_groups_7 (by decide) (by omega) (fun _ => ?_) (fun h => absurd h (by omega))
    refine j_iload_n hC dX4_groups_67 0 rfl ?_
    exact j_iret hC dX4_groups_68 ⟨rfl, rfl⟩
  | succ d ih =>
    intro p s h0 hz hs
    rw [show grO (σ.2 0) (d + 1) p s = grO (σ.2 0) d (p + 1) (s + (if grI (σ.2 0) p p.toNat 0 1 = 1 then 1 else 0)) from rfl]
    have hg := grI_01 (σ.2 0) p p.toNat 0 1 (Or.inr rfl)
    refine j_iload_n hC dX4_groups_4 1 rfl ?_
    refine j_bipush hC dX4_groups_5 (by decide) ?_
    refine j_icmp_ge (tgt := 67) hC dX4_groups_7 (by decide) (by omega) (fun h => absurd h (by omega)) (fun _ => ?_)
    refine j_iconst hC dX4_groups_10 ?_
    refine j_istore_n hC dX4_groups_11 [(3, vI (1)), (1, vI (s)), (2, vI (p)), (0, .ref a)] (by decide) rfl ?_
    refine j_iconst hC dX4_groups_12 ?_
    refine j_istore hC dX4_groups_13 [(4, vI (0)), (3, vI (1)), (1, vI (s)), (2, vI (p)), (0, .ref a)] (by decide) rfl ?_
    refine lp_X4_groups_i hr hI hC hR p s (by omega) p.toNat 0 1 (by omega) (by omega) (Or.inr rfl) ?_
    refine j_iload_n hC dX4_groups_49 1 rfl ?_
    refine j_iload_n hC dX4_groups_50 0 rfl ?_
    suffices K59 : J mc (gx g X) 0 0 (QN mc (gx g X) (pt (some (vI (grO (σ.2 0) d (p + 1) (s + (if grI (σ.2 0) p p.toNat 0 1 = 1 then 1 else 0))))) σ) 0 0) 59 [(1, vI (s)), (2, vI (p)), (0, .ref a)] [vI ((if grI (σ.2 0) p p.toNat 0 1 = 1 then 1 else 0)), vI (s)] σ by
      refine j_if_eq (tgt := 58) hC dX4_groups_51 (by decide) (by omega) (fun h51 => ?_) (fun h51 => ?_)
      · refine j_iconst hC dX4_groups_58 ?_
        refine j_sub [1, 2, 3] rfl ?_
        exact (by first | (rw [show ((if grI (σ.2 0) p p.toNat 0 1 = 1 then 1 else 0) : Int) = 1 from if_pos (by omega)] at K59; exact K59) | (rw [show ((if grI (σ.2 0) p p.toNat 0 1 = 1 then 1 else 0) : Int) = 1 from if_pos (by omega)] at K59 ⊢; exact K59) | (rw [show ((if grI (σ.2 0) p p.toNat 0 1 = 1 then 1 else 0) : Int) = 0 from if_neg (by omega)] at K59; exact K59) | (rw [show ((if grI (σ.2 0) p p.toNat 0 1 = 1 then 1 else 0) : Int) = 0 from if_neg (by omega)] at K59 ⊢; exact K59))
      · refine j_iconst hC dX4_groups_54 ?_
        refine j_goto (tgt := 59) hC dX4_groups_55 (by decide) ?_
        refine j_sub [1, 2, 3] rfl ?_
        exact (by first | (rw [show ((if grI (σ.2 0) p p.toNat 0 1 = 1 then 1 else 0) : Int) = 1 from if_pos (by omega)] at K59; exact K59) | (rw [show ((if grI (σ.2 0) p p.toNat 0 1 = 1 then 1 else 0) : Int) = 1 from if_pos (by omega)] at K59 ⊢; exact K59) | (rw [show ((if grI (σ.2 0) p p.toNat 0 1 = 1 then 1 else 0) : Int) = 0 from if_neg (by omega)] at K59; exact K59) | (rw [show ((if grI (σ.2 0) p p.toNat 0 1 = 1 then 1 else 0) : Int) = 0 from if_neg (by omega)] at K59 ⊢; exact K59))
    refine j_iadd hC dX4_groups_59 ?_
    refine j_istore_n hC dX4_groups_60 [(1, vI (s + (if grI (σ.2 0) p p.toNat 0 1 = 1 then 1 else 0))), (2, vI (p)), (0, .ref a)] (by decide) rfl ?_
    refine j_iinc hC dX4_groups_61 1 [(2, vI (p + 1)), (1, vI (s + (if grI (σ.2 0) p p.toNat 0 1 = 1 then 1 else 0))), (0, .ref a)] rfl (by decide) rfl ?_
    refine j_goto (tgt := 4) hC dX4_groups_64 (by decide) ?_
    refine j_sub [1, 0, 2] rfl ?_
    exact ih (p + 1) _ (by omega) (by omega) (by split <;> omega)
set_option maxHeartbeats 4000000 in
set_option maxRecDepth 100000 in
theorem c_X4_groups {ll : Launch} (hll : ll.stackTraces = false) (g : GG) (X : va_W) (σ : Sg) {a : Nat} {r : RR} (hr : Rp g X a σ r) (hI : IC σ) : CN ll yX4_groups cX4_groups 5 (some .int) 0 0 0 0 (gx g X) [.ref a] σ (pt (some (vI (gcF (σ.2 0)))) σ) := by
  refine CN_of (own := RX4) hll (by decide) rfl (Nat.le_of_ble_eq_true rfl) (fun mc hC _ hR => ?_)
  refine j_lv (lv2 := [(0, .ref a)]) rfl ?_
  refine j_iconst hC dX4_groups_0 ?_
  refine j_istore_n hC dX4_groups_1 [(1, vI (0)), (0, .ref a)] (by decide) rfl ?_
  refine j_iconst hC dX4_groups_2 ?_
  refine j_istore_n hC dX4_groups_3 [(2, vI (0)), (1, vI (0)), (0, .ref a)] (by decide) rfl ?_
  refine j_sub [1, 0, 2] rfl ?_
  exact lp_X4_groups_o hr hI hC hR 9 0 0 (by omega) (by omega) (by omega)
set_option maxHeartbeats 4000000 in
set_option maxRecDepth 100000 in
theorem lp_X4_read {mc : MC} {g : GG} {X : va_W} {σ : Sg} {a : Nat} {r : RR} (hr : Rp g X a σ r) (hI : IC σ) (hC : Cx mc (gx g X) cX4_read RX4 11 (some .int)) (hR : mR mc = rmJ 3 66 0 0) (l : Int) (hl : 0 ≤ l ∧ l < σ.1 0) {x : Nat} {L m : Int} (hx : Sn g X x L m) (hL : 0 ≤ L ∧ L < 2304) : ∀ (d : Nat) (z : Int) (ls : Int) (my : Int) (its : Int), (0 ≤ z) → (z + (d : Int) = σ.1 (2 + l.toNat)) → (0 ≤ ls ∧ ls ≤ 99 ∧ 0 ≤ my ∧ my ≤ z ∧ -1 ≤ its ∧ its < 30) → J mc (gx g X) 0 0 (QN mc (gx g X) (pt (some (vI (rdS (fun z => dst (σ.2 0) L (lkB σ l.toNat z)) (mnB σ l.toNat) d z ls my its))) σ) 0 0) 25 [(8, vI (z)), (3, vI (ls)), (4, vI (my)), (5, vI (its)), (0, .ref a), (1, .ref x), (2, vI (l)), (6, .ref (rL r l.toNat)), (7, vI (σ.1 (2 + l.toNat)))] [] σ := by
  intro d
  induction d with
  | zero =>
    intro z ls my its h0 hz hls
    have hkn := IC_k hI hl
    have hc0 := IC_n hI
    refine j_iload hC dX4_read_25 0 rfl ?_
    refine j_iload hC dX4_read_27 8 rfl ?_
    refine j_icmp_ge (tgt := 84) hC dX4_read_29 (by decide) (by omega) (fun _ => ?_) (fun h => absurd h (by omega))
    refine j_iload hC dX4_read_84 2 rfl ?_
    refine j_iconst hC dX4_read_86 ?_
    refine j_icmp_ne (tgt := 100) hC dX4_read_87 (by decide) (by omega) (fun h87 => ?_) (fun h87 => ?_)
    · refine j_iconst hC dX4_read_100 ?_
      exact j_iret hC dX4_read_101 ⟨by first | (show some (vI its) = some (vI (if my = 1 ∧ ls < 4 then its else -1)); rw [if_pos (by omega)]) | (show some (vI (-1)) = some (vI (if my = 1 ∧ ls < 4 then its else -1)); rw [if_neg (by omega)]), rfl⟩
    · refine j_iload_n hC dX4_read_90 1 rfl ?_
      refine j_iconst hC dX4_read_91 ?_
      refine j_icmp_ge (tgt := 100) hC dX4_read_92 (by decide) (by omega) (fun h92 => ?_) (fun h92 => ?_)
      · refine j_iconst hC dX4_read_100 ?_
        exact j_iret hC dX4_read_101 ⟨by first | (show some (vI its) = some (vI (if my = 1 ∧ ls < 4 then its else -1)); rw [if_pos (by omega)]) | (show some (vI (-1)) = some (vI (if my = 1 ∧ ls < 4 then its else -1)); rw [if_neg (by omega)]), rfl⟩
      · refine j_iload hC dX4_read_95 3 rfl ?_
        refine j_goto (tgt := 101) hC dX4_read_97 (by decide) ?_
        exact j_iret hC dX4_read_101 ⟨by first | (show some (vI its) = some (vI (if my = 1 ∧ ls < 4 then its else -1)); rw [if_pos (by omega)]) | (show some (vI (-1)) = some (vI (if my = 1 ∧ ls < 4 then its else -1)); rw [if_neg (by omega)]), rfl⟩
  | succ d ih =>
    intro z ls my its h0 hz hls
    have hkn := IC_k hI hl
    have hc0 := IC_n hI
    have hs := IC_s hI hl (z := z) (by omega)
    rw [show rdS (fun z => dst (σ.2 0) L (lkB σ l.toNat z)) (mnB σ l.toNat) (d + 1) z ls my its = if dst (σ.2 0) L (σ.2 (1 + l.toNat) z) < ls then rdS (fun z => dst (σ.2 0) L (lkB σ l.toNat z)) (mnB σ l.toNat) d (z + 1) (dst (σ.2 0) L (σ.2 (1 + l.toNat) z)) 1 (σ.2 (6 + l.toNat) z) else if dst (σ.2 0) L (σ.2 (1 + l.toNat) z) = ls then rdS (fun z => dst (σ.2 0) L (lkB σ l.toNat z)) (mnB σ l.toNat) d (z + 1) ls (my + 1) (σ.2 (6 + l.toNat) z) else rdS (fun z => dst (σ.2 0) L (lkB σ l.toNat z)) (mnB σ l.toNat) d (z + 1) ls my its from rfl]
    refine j_iload hC dX4_read_25 0 rfl ?_
    refine j_iload hC dX4_read_27 8 rfl ?_
    refine j_icmp_ge (tgt := 84) hC dX4_read_29 (by decide) (by omega) (fun h => absurd h (by omega)) (fun _ => ?_)
    refine j_aload hC dX4_read_32 7 rfl ?_
    refine j_iload hC dX4_read_34 0 rfl ?_
    refine r_sign hC hr hI (by omega) (by omega) dX4_read_36 ?_
    refine j_astore hC dX4_read_37 [(9, .ref (rS r l.toNat z.toNat)), (8, vI (z)), (3, vI (ls)), (4, vI (my)), (5, vI (its)), (0, .ref a), (1, .ref x), (2, vI (l)), (6, .ref (rL r l.toNat)), (7, vI (σ.1 (2 + l.toNat)))] (by decide) rfl ?_
    refine j_aload_n hC dX4_read_39 5 rfl ?_
    refine j_aload_n hC dX4_read_40 6 rfl ?_
    refine j_aload hC dX4_read_41 0 rfl ?_
    refine x_callV1 (ar := 2) hC hR (c_X4_far (hlJ hC) g X σ hr hI hx (Rp.sn hr hI (l := l) (z := z) (by omega) (by omega)) (by omega)) [] rfl hr.1 rfl rfl (by decide) (by decide +kernel) rfl wd348 wd349 wd350 wd4 wd351 (by decide) (Nat.le_of_ble_eq_true rfl) dX4_read_43 ?_
    have hd43 := dst_rg (G := σ.2 0) (x := L) (y := σ.2 (1 + l.toNat) z) (by omega)
    refine j_istore hC dX4_read_46 [(10, vI (dst (σ.2 0) L (σ.2 (1 + l.toNat) z))), (9, .ref (rS r l.toNat z.toNat)), (8, vI (z)), (3, vI (ls)), (4, vI (my)), (5, vI (its)), (0, .ref a), (1, .ref x), (2, vI (l)), (6, .ref (rL r l.toNat)), (7, vI (σ.1 (2 + l.toNat)))] (by decide) rfl ?_
    refine j_iload hC dX4_read_48 0 rfl ?_
    refine j_iload_n hC dX4_read_50 3 rfl ?_
    refine j_icmp_ge (tgt := 60) hC dX4_read_51 (by decide) (by omega) (fun h51 => ?_) (fun h51 => ?_)
    · refine j_iload hC dX4_read_60 0 rfl ?_
      refine j_iload_n hC dX4_read_62 3 rfl ?_
      refine j_icmp_le (tgt := 69) hC dX4_read_63 (by decide) (by omega) (fun h63 => ?_) (fun h63 => ?_)
      · refine j_iinc hC dX4_read_69 4 [(4, vI (my + 1)), (10, vI (dst (σ.2 0) L (σ.2 (1 + l.toNat) z))), (9, .ref (rS r l.toNat z.toNat)), (8, vI (z)), (3, vI (ls)), (5, vI (its)), (0, .ref a), (1, .ref x), (2, vI (l)), (6, .ref (rL r l.toNat)), (7, vI (σ.1 (2 + l.toNat)))] rfl (by decide) rfl ?_
        refine j_aload hC dX4_read_72 2 rfl ?_
        refine j_iconst hC dX4_read_74 ?_
        refine r_num4 hC (Rp.sn hr hI (l := l) (z := z) (by omega) (by omega)) dX4_read_75 ?_
        refine j_istore hC dX4_read_76 [(5, vI (σ.2 (6 + l.toNat) z)), (4, vI (my + 1)), (10, vI (dst (σ.2 0) L (σ.2 (1 + l.toNat) z))), (9, .ref (rS r l.toNat z.toNat)), (8, vI (z)), (3, vI (ls)), (0, .ref a), (1, .ref x), (2, vI (l)), (6, .ref (rL r l.toNat)), (7, vI (σ.1 (2 + l.toNat)))] (by decide) rfl ?_
        refine j_iinc hC dX4_read_78 4 [(8, vI (z + 1)), (5, vI (σ.2 (6 + l.toNat) z)), (4, vI (my + 1)), (10, vI (dst (σ.2 0) L (σ.2 (1 + l.toNat) z))), (9, .ref (rS r l.toNat z.toNat)), (3, vI (ls)), (0, .ref a), (1, .ref x), (2, vI (l)), (6, .ref (rL r l.toNat)), (7, vI (σ.1 (2 + l.toNat)))] rfl (by decide) rfl ?_
        refine j_goto (tgt := 25) hC dX4_read_81 (by decide) ?_
        refine j_sub [0, 5, 2, 1, 6, 7, 8, 9, 10] rfl ?_
        first | (exfalso; omega) | (rw [if_pos h51]; exact ih (z + 1) _ _ _ (by omega) (by omega) (by omega)) | (rw [if_neg (show ¬ dst (σ.2 0) L (σ.2 (1 + l.toNat) z) < ls by omega), if_pos (by omega)]; exact ih (z + 1) _ _ _ (by omega) (by omega) (by omega)) | (rw [if_neg (show ¬ dst (σ.2 0) L (σ.2 (1 + l.toNat) z) < ls by omega), if_neg (by omega)]; exact ih (z + 1) _ _ _ (by omega) (by omega) (by omega))
      · refine j_goto (tgt := 78) hC dX4_read_66 (by decide) ?_
        refine j_iinc hC dX4_read_78 2 [(8, vI (z + 1)), (10, vI (dst (σ.2 0) L (σ.2 (1 + l.toNat) z))), (9, .ref (rS r l.toNat z.toNat)), (3, vI (ls)), (4, vI (my)), (5, vI (its)), (0, .ref a), (1, .ref x), (2, vI (l)), (6, .ref (rL r l.toNat)), (7, vI (σ.1 (2 + l.toNat)))] rfl (by decide) rfl ?_
        refine j_goto (tgt := 25) hC dX4_read_81 (by decide) ?_
        refine j_sub [0, 3, 4, 5, 6, 7, 8, 9, 10] rfl ?_
        first | (exfalso; omega) | (rw [if_pos h51]; exact ih (z + 1) _ _ _ (by omega) (by omega) (by omega)) | (rw [if_neg (show ¬ dst (σ.2 0) L (σ.2 (1 + l.toNat) z) < ls by omega), if_pos (by omega)]; exact ih (z + 1) _ _ _ (by omega) (by omega) (by omega)) | (rw [if_neg (show ¬ dst (σ.2 0) L (σ.2 (1 + l.toNat) z) < ls by omega), if_neg (by omega)]; exact ih (z + 1) _ _ _ (by omega) (by omega) (by omega))
    · refine j_iload hC dX4_read_54 0 rfl ?_
      refine j_istore_n hC dX4_read_56 [(3, vI (dst (σ.2 0) L (σ.2 (1 + l.toNat) z))), (10, vI (dst (σ.2 0) L (σ.2 (1 + l.toNat) z))), (9, .ref (rS r l.toNat z.toNat)), (8, vI (z)), (4, vI (my)), (5, vI (its)), (0, .ref a), (1, .ref x), (2, vI (l)), (6, .ref (rL r l.toNat)), (7, vI (σ.1 (2 + l.toNat)))] (by decide) rfl ?_
      refine j_iconst hC dX4_read_57 ?_
      refine j_istore hC dX4_read_58 [(4, vI (0)), (3, vI (dst (σ.2 0) L (σ.2 (1 + l.toNat) z))), (10, vI (dst (σ.2 0) L (σ.2 (1 + l.toNat) z))), (9, .ref (rS r l.toNat z.toNat)), (8, vI (z)), (5, vI (its)), (0, .ref a), (1, .ref x), (2, vI (l)), (6, .ref (rL r l.toNat)), (7, vI (σ.1 (2 + l.toNat)))] (by decide) rfl ?_
      refine j_iload hC dX4_read_60 2 rfl ?_
      refine j_iload_n hC dX4_read_62 1 rfl ?_
      refine j_icmp_le (tgt := 69) hC dX4_read_63 (by decide) (by omega) (fun h63 => ?_) (fun h63 => ?_)
      · refine j_iinc hC dX4_read_69 0 [(4, vI (0 + 1)), (3, vI (dst (σ.2 0) L (σ.2 (1 + l.toNat) z))), (10, vI (dst (σ.2 0) L (σ.2 (1 + l.toNat) z))), (9, .ref (rS r l.toNat z.toNat)), (8, vI (z)), (5, vI (its)), (0, .ref a), (1, .ref x), (2, vI (l)), (6, .ref (rL r l.toNat)), (7, vI (σ.1 (2 + l.toNat)))] rfl (by decide) rfl ?_
        refine j_aload hC dX4_read_72 3 rfl ?_
        refine j_iconst hC dX4_read_74 ?_
        refine r_num4 hC (Rp.sn hr hI (l := l) (z := z) (by omega) (by omega)) dX4_read_75 ?_
        refine j_istore hC dX4_read_76 [(5, vI (σ.2 (6 + l.toNat) z)), (4, vI (0 + 1)), (3, vI (dst (σ.2 0) L (σ.2 (1 + l.toNat) z))), (10, vI (dst (σ.2 0) L (σ.2 (1 + l.toNat) z))), (9, .ref (rS r l.toNat z.toNat)), (8, vI (z)), (0, .ref a), (1, .ref x), (2, vI (l)), (6, .ref (rL r l.toNat)), (7, vI (σ.1 (2 + l.toNat)))] (by decide) rfl ?_
        refine j_iinc hC dX4_read_78 5 [(8, vI (z + 1)), (5, vI (σ.2 (6 + l.toNat) z)), (4, vI (0 + 1)), (3, vI (dst (σ.2 0) L (σ.2 (1 + l.toNat) z))), (10, vI (dst (σ.2 0) L (σ.2 (1 + l.toNat) z))), (9, .ref (rS r l.toNat z.toNat)), (0, .ref a), (1, .ref x), (2, vI (l)), (6, .ref (rL r l.toNat)), (7, vI (σ.1 (2 + l.toNat)))] rfl (by decide) rfl ?_
        refine j_goto (tgt := 25) hC dX4_read_81 (by decide) ?_
        refine j_sub [0, 3, 2, 1, 6, 7, 8, 9, 10] rfl ?_
        first | (exfalso; omega) | (rw [if_pos h51]; exact ih (z + 1) _ _ _ (by omega) (by omega) (by omega)) | (rw [if_neg (show ¬ dst (σ.2 0) L (σ.2 (1 + l.toNat) z) < ls by omega), if_pos (by omega)]; exact ih (z + 1) _ _ _ (by omega) (by omega) (by omega)) | (rw [if_neg (show ¬ dst (σ.2 0) L (σ.2 (1 + l.toNat) z) < ls by omega), if_neg (by omega)]; exact ih (z + 1) _ _ _ (by omega) (by omega) (by omega))
      · refine j_goto (tgt := 78) hC dX4_read_66 (by decide) ?_
        refine j_iinc hC dX4_read_78 4 [(8, vI (z + 1)), (4, vI (0)), (3, vI (dst (σ.2 0) L (σ.2 (1 + l.toNat) z))), (10, vI (dst (σ.2 0) L (σ.2 (1 + l.toNat) z))), (9, .ref (rS r l.toNat z.toNat)), (5, vI (its)), (0, .ref a), (1, .ref x), (2, vI (l)), (6, .ref (rL r l.toNat)), (7, vI (σ.1 (2 + l.toNat)))] rfl (by decide) rfl ?_
        refine j_goto (tgt := 25) hC dX4_read_81 (by decide) ?_
        refine j_sub [0, 2, 1, 5, 6, 7, 8, 9, 10] rfl ?_
        first | (exfalso; omega) | (rw [if_pos h51]; exact ih (z + 1) _ _ _ (by omega) (by omega) (by omega)) | (rw [if_neg (show ¬ dst (σ.2 0) L (σ.2 (1 + l.toNat) z) < ls by omega), if_pos (by omega)]; exact ih (z + 1) _ _ _ (by omega) (by omega) (by omega)) | (rw [if_neg (show ¬ dst (σ.2 0) L (σ.2 (1 + l.toNat) z) < ls by omega), if_neg (by omega)]; exact ih (z + 1) _ _ _ (by omega) (by omega) (by omega))
set_option maxHeartbeats 4000000 in
set_option maxRecDepth 100000 in
theorem c_X4_read {ll : Launch} (hll : ll.stackTraces = false) (g : GG) (X : va_W) (σ : Sg) {a : Nat} {r : RR} (hr : Rp g X a σ r) (hI : IC σ) (l : Int) (hl : 0 ≤ l ∧ l < σ.1 0) {x : Nat} {L m : Int} (hx : Sn g X x L m) (hL : 0 ≤ L ∧ L < 2304) : CN ll yX4_read cX4_read 11 (some .int) 3 66 0 0 (gx g X) [.ref a, .ref x, vI (l)] σ (pt (some (vI (mrB σ l.toNat L))) σ) := by
  refine CN_of (own := RX4) hll (by decide) rfl (Nat.le_of_ble_eq_true rfl) (fun mc hC _ hR => ?_)
  refine j_lv (lv2 := [(0, .ref a), (1, .ref x), (2, vI (l))]) rfl ?_
  have hkn := IC_k hI hl
  have hc0 := IC_n hI
  refine j_bipush hC dX4_read_0 (by decide) ?_
  refine j_istore_n hC dX4_read_2 [(3, vI (99)), (0, .ref a), (1, .ref x), (2, vI (l))] (by decide) rfl ?_
  refine j_iconst hC dX4_read_3 ?_
  refine j_istore hC dX4_read_4 [(4, vI (0)), (3, vI (99)), (0, .ref a), (1, .ref x), (2, vI (l))] (by decide) rfl ?_
  refine j_iconst hC dX4_read_6 ?_
  refine j_istore hC dX4_read_7 [(5, vI (-1)), (4, vI (0)), (3, vI (99)), (0, .ref a), (1, .ref x), (2, vI (l))] (by decide) rfl ?_
  refine j_aload_n hC dX4_read_9 3 rfl ?_
  refine r_books hC hr wd530 dX4_read_10 ?_
  refine j_iload_n hC dX4_read_13 5 rfl ?_
  refine r_lodge hC hr hI (by omega) dX4_read_14 ?_
  refine j_astore hC dX4_read_15 [(6, .ref (rL r l.toNat)), (5, vI (-1)), (4, vI (0)), (3, vI (99)), (0, .ref a), (1, .ref x), (2, vI (l))] (by decide) rfl ?_
  refine j_aload hC dX4_read_17 0 rfl ?_
  refine r_llen hC hr hI (by omega) dX4_read_19 ?_
  refine j_istore hC dX4_read_20 [(7, vI (σ.1 (2 + l.toNat))), (6, .ref (rL r l.toNat)), (5, vI (-1)), (4, vI (0)), (3, vI (99)), (0, .ref a), (1, .ref x), (2, vI (l))] (by decide) rfl ?_
  refine j_iconst hC dX4_read_22 ?_
  refine j_istore hC dX4_read_23 [(8, vI (0)), (7, vI (σ.1 (2 + l.toNat))), (6, .ref (rL r l.toNat)), (5, vI (-1)), (4, vI (0)), (3, vI (99)), (0, .ref a), (1, .ref x), (2, vI (l))] (by decide) rfl ?_
  refine j_sub [0, 5, 4, 3, 6, 7, 8, 2, 1] rfl ?_
  rw [show mrB σ l.toNat L = rdS (fun z => dst (σ.2 0) L (lkB σ l.toNat z)) (mnB σ l.toNat) (cN σ l.toNat) 0 99 0 (-1) from (rdS_is _ _ _ _ _ _ _ _ _ (Or.inr (by decide)) (fun w => by omega) (fun _ => ⟨rfl, rfl⟩)).symm]
  exact lp_X4_read hr hI hC hR l hl hx hL (cN σ l.toNat) 0 99 0 (-1) (by omega) (by omega) (by omega)
set_option maxHeartbeats 4000000 in
set_option maxRecDepth 100000 in
theorem lp_X4_alike_i {mc : MC} {g : GG} {X : va_W} {σ : Sg} {Q : State → Prop} {a : Nat} {r : RR} (hr : Rp g X a σ r) (hI : IC σ) (hC : Cx mc (gx g X) cX4_alike RX4 5 (some .int)) (hR : mR mc = rmJ 3 66 0 0) (l : Int) (hl : 0 ≤ l ∧ l < σ.1 0) (j : Int) (hj : 0 ≤ j ∧ j < σ.1 (2 + l.toNat)) : ∀ (d : Nat) (w : Int) (a9 : Int), (0 ≤ w) → (w + (d : Int) = j) → (J mc (gx g X) 0 0 Q 62 [(2, vI (cnt ((fun j k => decide (dst (σ.2 0) (lkB σ l.toNat j) (lkB σ l.toNat k) = 0)) j) d w a9)), (3, vI (j)), (0, .ref a), (1, vI (l))] [] σ) → J mc (gx g X) 0 0 Q 18 [(4, vI (w)), (2, vI (a9)), (3, vI (j)), (0, .ref a), (1, vI (l))] [] σ := by
  intro d
  induction d with
  | zero =>
    intro w a9 h0 hw kx
    have hkn := IC_k hI hl
    have hc0 := IC_n hI
    refine j_iload hC dX4_alike_18 0 rfl ?_
    refine j_iload_n hC dX4_alike_20 2 rfl ?_
    refine j_icmp_ge (tgt := 62) hC dX4_alike_21 (by decide) (by omega) (fun _ => ?_) (fun h => absurd h (by omega))
    refine j_sub [1, 2, 3, 4] rfl ?_
    exact kx
  | succ d ih =>
    intro w a9 h0 hw kx
    have hkn := IC_k hI hl
    have hc0 := IC_n hI
    have hs := IC_s hI hl (z := j) (by omega)
    have hs2 := IC_s hI hl (z := w) (by omega)
    rw [show cnt ((fun j k => decide (dst (σ.2 0) (lkB σ l.toNat j) (lkB σ l.toNat k) = 0)) j) (d + 1) w a9 = cnt ((fun j k => decide (dst (σ.2 0) (lkB σ l.toNat j) (lkB σ l.toNat k) = 0)) j) d (w + 1) (if (fun j k => decide (dst (σ.2 0) (lkB σ l.toNat j) (lkB σ l.toNat k) = 0)) j w = true then a9 + 1 else a9) from rfl] at kx
    refine j_iload hC dX4_alike_18 0 rfl ?_
    refine j_iload_n hC dX4_alike_20 2 rfl ?_
    refine j_icmp_ge (tgt := 62) hC dX4_alike_21 (by decide) (by omega) (fun h => absurd h (by omega)) (fun _ => ?_)
    refine j_iload_n hC dX4_alike_24 1 rfl ?_
    refine j_aload_n hC dX4_alike_25 3 rfl ?_
    refine j_aload_n hC dX4_alike_26 3 rfl ?_
    refine r_books hC hr wd530 dX4_alike_27 ?_
    refine j_iload_n hC dX4_alike_30 4 rfl ?_
    refine r_lodge hC hr hI (by omega) dX4_alike_31 ?_
    refine j_iload_n hC dX4_alike_32 2 rfl ?_
    refine r_sign hC hr hI (by omega) (by omega) dX4_alike_33 ?_
    refine j_aload_n hC dX4_alike_34 3 rfl ?_
    refine r_books hC hr wd530 dX4_alike_35 ?_
    refine j_iload_n hC dX4_alike_38 4 rfl ?_
    refine r_lodge hC hr hI (by omega) dX4_alike_39 ?_
    refine j_iload hC dX4_alike_40 0 rfl ?_
    refine r_sign hC hr hI (by omega) (by omega) dX4_alike_42 ?_
    refine x_callV1 (ar := 2) hC hR (c_X4_far (hlJ hC) g X σ hr hI (Rp.sn hr hI (l := l) (z := j) (by omega) (by omega)) (Rp.sn hr hI (l := l) (z := w) (by omega) (by omega)) (by omega)) [vI (a9)] rfl hr.1 rfl rfl (by decide) (by decide +kernel) rfl wd348 wd349 wd350 wd4 wd351 (by decide) (Nat.le_of_ble_eq_true rfl) dX4_alike_43 ?_
    have hd43 := dst_rg (G := σ.2 0) (x := σ.2 (1 + l.toNat) j) (y := σ.2 (1 + l.toNat) w) (by omega)
    suffices K54 : J mc (gx g X) 0 0 Q 54 [(4, vI (w)), (2, vI (a9)), (3, vI (j)), (0, .ref a), (1, vI (l))] [vI ((if dst (σ.2 0) (σ.2 (1 + l.toNat) j) (σ.2 (1 + l.toNat) w) = 0 then 1 else 0)), vI (a9)] σ by
      refine j_if_ne (tgt := 53) hC dX4_alike_46 (by decide) (by omega) (fun h46 => ?_) (fun h46 => ?_)
      · refine j_iconst hC dX4_alike_53 ?_
        exact (by first | (rw [show ((if dst (σ.2 0) (σ.2 (1 + l.toNat) j) (σ.2 (1 + l.toNat) w) = 0 then 1 else 0) : Int) = 1 from if_pos (by omega)] at K54; exact K54) | (rw [show ((if dst (σ.2 0) (σ.2 (1 + l.toNat) j) (σ.2 (1 + l.toNat) w) = 0 then 1 else 0) : Int) = 1 from if_pos (by omega)] at K54 ⊢; exact K54) | (rw [show ((if dst (σ.2 0) (σ.2 (1 + l.toNat) j) (σ.2 (1 + l.toNat) w) = 0 then 1 else 0) : Int) = 0 from if_neg (by omega)] at K54; exact K54) | (rw [show ((if dst (σ.2 0) (σ.2 (1 + l.toNat) j) (σ.2 (1 + l.toNat) w) = 0 then 1 else 0) : Int) = 0 from if_neg (by omega)] at K54 ⊢; exact K54))
      · refine j_iconst hC dX4_alike_49 ?_
        refine j_goto (tgt := 54) hC dX4_alike_50 (by decide) ?_
        exact (by first | (rw [show ((if dst (σ.2 0) (σ.2 (1 + l.toNat) j) (σ.2 (1 + l.toNat) w) = 0 then 1 else 0) : Int) = 1 from if_pos (by omega)] at K54; exact K54) | (rw [show ((if dst (σ.2 0) (σ.2 (1 + l.toNat) j) (σ.2 (1 + l.toNat) w) = 0 then 1 else 0) : Int) = 1 from if_pos (by omega)] at K54 ⊢; exact K54) | (rw [show ((if dst (σ.2 0) (σ.2 (1 + l.toNat) j) (σ.2 (1 + l.toNat) w) = 0 then 1 else 0) : Int) = 0 from if_neg (by omega)] at K54; exact K54) | (rw [show ((if dst (σ.2 0) (σ.2 (1 + l.toNat) j) (σ.2 (1 + l.toNat) w) = 0 then 1 else 0) : Int) = 0 from if_neg (by omega)] at K54 ⊢; exact K54))
    refine j_iadd hC dX4_alike_54 ?_
    refine j_istore_n hC dX4_alike_55 [(2, vI (a9 + (if dst (σ.2 0) (σ.2 (1 + l.toNat) j) (σ.2 (1 + l.toNat) w) = 0 then 1 else 0))), (4, vI (w)), (3, vI (j)), (0, .ref a), (1, vI (l))] (by decide) rfl ?_
    refine j_iinc hC dX4_alike_56 1 [(4, vI (w + 1)), (2, vI (a9 + (if dst (σ.2 0) (σ.2 (1 + l.toNat) j) (σ.2 (1 + l.toNat) w) = 0 then 1 else 0))), (3, vI (j)), (0, .ref a), (1, vI (l))] rfl (by decide) rfl ?_
    refine j_goto (tgt := 18) hC dX4_alike_59 (by decide) ?_
    rw [show (if (fun j k => decide (dst (σ.2 0) (lkB σ l.toNat j) (lkB σ l.toNat k) = 0)) j w = true then a9 + 1 else a9) = a9 + (if dst (σ.2 0) (σ.2 (1 + l.toNat) j) (σ.2 (1 + l.toNat) w) = 0 then 1 else 0) from cnt_st _ _] at kx
    exact ih (w + 1) _ (by omega) (by omega) kx
set_option maxHeartbeats 4000000 in
set_option maxRecDepth 100000 in
theorem lp_X4_alike_o {mc : MC} {g : GG} {X : va_W} {σ : Sg} {a : Nat} {r : RR} (hr : Rp g X a σ r) (hI : IC σ) (hC : Cx mc (gx g X) cX4_alike RX4 5 (some .int)) (hR : mR mc = rmJ 3 66 0 0) (l : Int) (hl : 0 ≤ l ∧ l < σ.1 0) : ∀ (d : Nat) (j : Int) (a9 : Int), (0 ≤ j) → (j + (d : Int) = σ.1 (2 + l.toNat)) → J mc (gx g X) 0 0 (QN mc (gx g X) (pt (some (vI (pMF (fun j k => decide (dst (σ.2 0) (lkB σ l.toNat j) (lkB σ l.toNat k) = 0)) 0 d j a9))) σ) 0 0) 4 [(2, vI (a9)), (3, vI (j)), (0, .ref a), (1, vI (l))] [] σ := by
  intro d
  induction d with
  | zero =>
    intro j a9 h0 hz
    have hkn := IC_k hI hl
    have hc0 := IC_n hI
    refine j_iload_n hC dX4_alike_4 1 rfl ?_
    refine j_aload_n hC dX4_alike_5 2 rfl ?_
    refine r_books hC hr wd530 dX4_alike_6 ?_
    refine j_iload_n hC dX4_alike_9 3 rfl ?_
    refine r_lodge hC hr hI (by omega) dX4_alike_10 ?_
    refine r_llen hC hr hI (by omega) dX4_alike_11 ?_
    refine j_icmp_ge (tgt := 68) hC dX4_alike_12 (by decide) (by omega) (fun _ => ?_) (fun h => absurd h (by omega))
    refine j_iload_n hC dX4_alike_68 0 rfl ?_
    exact j_iret hC dX4_alike_69 ⟨rfl, rfl⟩
  | succ d ih =>
    intro j a9 h0 hz
    have hkn := IC_k hI hl
    have hc0 := IC_n hI
    rw [show pMF (fun j k => decide (dst (σ.2 0) (lkB σ l.toNat j) (lkB σ l.toNat k) = 0)) 0 (d + 1) j a9 = pMF (fun j k => decide (dst (σ.2 0) (lkB σ l.toNat j) (lkB σ l.toNat k) = 0)) 0 d (j + 1) (cnt ((fun j k => decide (dst (σ.2 0) (lkB σ l.toNat j) (lkB σ l.toNat k) = 0)) j) j.toNat 0 a9) from by rw [show pMF (fun j k => decide (dst (σ.2 0) (lkB σ l.toNat j) (lkB σ l.toNat k) = 0)) 0 (d + 1) j a9 = pMF (fun j k => decide (dst (σ.2 0) (lkB σ l.toNat j) (lkB σ l.toNat k) = 0)) 0 d (j + 1) (cnt ((fun j k => decide (dst (σ.2 0) (lkB σ l.toNat j) (lkB σ l.toNat k) = 0)) j) (j - 0).toNat 0 a9) from rfl, Int.sub_zero]]
    refine j_iload_n hC dX4_alike_4 1 rfl ?_
    refine j_aload_n hC dX4_alike_5 2 rfl ?_
    refine r_books hC hr wd530 dX4_alike_6 ?_
    refine j_iload_n hC dX4_alike_9 3 rfl ?_
    refine r_lodge hC hr hI (by omega) dX4_alike_10 ?_
    refine r_llen hC hr hI (by omega) dX4_alike_11 ?_
    refine j_icmp_ge (tgt := 68) hC dX4_alike_12 (by decide) (by omega) (fun h => absurd h (by omega)) (fun _ => ?_)
    refine j_iconst hC dX4_alike_15 ?_
    refine j_istore hC dX4_alike_16 [(4, vI (0)), (2, vI (a9)), (3, vI (j)), (0, .ref a), (1, vI (l))] (by decide) rfl ?_
    refine lp_X4_alike_i hr hI hC hR l hl j (by omega) j.toNat 0 a9 (by omega) (by omega) ?_
    refine j_iinc hC dX4_alike_62 1 [(3, vI (j + 1)), (2, vI (cnt ((fun j k => decide (dst (σ.2 0) (lkB σ l.toNat j) (lkB σ l.toNat k) = 0)) j) j.toNat 0 a9)), (0, .ref a), (1, vI (l))] rfl (by decide) rfl ?_
    refine j_goto (tgt := 4) hC dX4_alike_65 (by decide) ?_
    refine j_sub [1, 0, 2, 3] rfl ?_
    exact ih (j + 1) _ (by omega) (by omega)
set_option maxHeartbeats 4000000 in
set_option maxRecDepth 100000 in
theorem c_X4_alike {ll : Launch} (hll : ll.stackTraces = false) (g : GG) (X : va_W) (σ : Sg) {a : Nat} {r : RR} (hr : Rp g X a σ r) (hI : IC σ) (l : Int) (hl : 0 ≤ l ∧ l < σ.1 0) : CN ll yX4_alike cX4_alike 5 (some .int) 3 66 0 0 (gx g X) [.ref a, vI (l)] σ (pt (some (vI (pMF (fun j k => decide (dst (σ.2 0) (lkB σ l.toNat j) (lkB σ l.toNat k) = 0)) 0 (cN σ l.toNat) 0 0))) σ) := by
  refine CN_of (own := RX4) hll (by decide) rfl (Nat.le_of_ble_eq_true rfl) (fun mc hC _ hR => ?_)
  refine j_lv (lv2 := [(0, .ref a), (1, vI (l))]) rfl ?_
  have hkn := IC_k hI hl
  have hc0 := IC_n hI
  refine j_iconst hC dX4_alike_0 ?_
  refine j_istore_n hC dX4_alike_1 [(2, vI (0)), (0, .ref a), (1, vI (l))] (by decide) rfl ?_
  refine j_iconst hC dX4_alike_2 ?_
  refine j_istore_n hC dX4_alike_3 [(3, vI (0)), (2, vI (0)), (0, .ref a), (1, vI (l))] (by decide) rfl ?_
  refine j_sub [1, 0, 2, 3] rfl ?_
  exact lp_X4_alike_o hr hI hC hR l hl (cN σ l.toNat) 0 0 (by omega) (by omega)
set_option maxHeartbeats 4000000 in
set_option maxRecDepth 100000 in
theorem lp_X4_understood {mc : MC} {g : GG} {X : va_W} {σ : Sg} {a : Nat} {r : RR} (hr : Rp g X a σ r) (hI : IC σ) (hC : Cx mc (gx g X) cX4_understood RX4 8 (some .int)) (hR : mR mc = rmJ 4 96 0 0) (l t : Int) (hl : 0 ≤ l ∧ l < σ.1 0) (ht : 0 ≤ t ∧ t < σ.1 0) : ∀ (d : Nat) (z : Int) (a9 : Int), (0 ≤ z) → (z + (d : Int) = σ.1 (2 + l.toNat)) → J mc (gx g X) 0 0 (QN mc (gx g X) (pt (some (vI (cnt (fun z => decide (mrB σ t.toNat (lkB σ l.toNat z) = mnB σ l.toNat z)) d z a9))) σ) 0 0) 18 [(6, vI (z)), (3, vI (a9)), (0, .ref a), (1, vI (l)), (2, vI (t)), (4, .ref (rL r l.toNat)), (5, vI (σ.1 (2 + l.toNat)))] [] σ := by
  intro d
  induction d with
  | zero =>
    intro z a9 h0 hz
    have hkn := IC_k hI hl
    have hc0 := IC_n hI
    refine j_iload hC dX4_understood_18 0 rfl ?_
    refine j_iload hC dX4_understood_20 6 rfl ?_
    refine j_icmp_ge (tgt := 60) hC dX4_understood_22 (by decide) (by omega) (fun _ => ?_) (fun h => absurd h (by omega))
    refine j_iload_n hC dX4_understood_60 1 rfl ?_
    exact j_iret hC dX4_understood_61 ⟨rfl, rfl⟩
  | succ d ih =>
    intro z a9 h0 hz
    have hkn := IC_k hI hl
    have hc0 := IC_n hI
    have hs := IC_s hI hl (z := z) (by omega)
    rw [show cnt (fun z => decide (mrB σ t.toNat (lkB σ l.toNat z) = mnB σ l.toNat z)) (d + 1) z a9 = cnt (fun z => decide (mrB σ t.toNat (lkB σ l.toNat z) = mnB σ l.toNat z)) d (z + 1) (if (fun z => decide (mrB σ t.toNat (lkB σ l.toNat z) = mnB σ l.toNat z)) z = true then a9 + 1 else a9) from rfl]
    rw [show (if (fun z => decide (mrB σ t.toNat (lkB σ l.toNat z) = mnB σ l.toNat z)) z = true then a9 + 1 else a9) = a9 + (if mrB σ t.toNat (σ.2 (1 + l.toNat) z) = σ.2 (6 + l.toNat) z then 1 else 0) from cnt_st _ _]
    refine j_iload hC dX4_understood_18 0 rfl ?_
    refine j_iload hC dX4_understood_20 6 rfl ?_
    refine j_icmp_ge (tgt := 60) hC dX4_understood_22 (by decide) (by omega) (fun h => absurd h (by omega)) (fun _ => ?_)
    refine j_aload hC dX4_understood_25 5 rfl ?_
    refine j_iload hC dX4_understood_27 0 rfl ?_
    refine r_sign hC hr hI (by omega) (by omega) dX4_understood_29 ?_
    refine j_astore hC dX4_understood_30 [(7, .ref (rS r l.toNat z.toNat)), (6, vI (z)), (3, vI (a9)), (0, .ref a), (1, vI (l)), (2, vI (t)), (4, .ref (rL r l.toNat)), (5, vI (σ.1 (2 + l.toNat)))] (by decide) rfl ?_
    refine j_iload_n hC dX4_understood_32 2 rfl ?_
    refine j_aload_n hC dX4_understood_33 3 rfl ?_
    refine j_aload hC dX4_understood_34 0 rfl ?_
    refine j_iload_n hC dX4_understood_36 5 rfl ?_
    refine x_callV1 (ar := 2) hC hR (c_X4_read (hlJ hC) g X σ hr hI t (by omega) (Rp.sn hr hI (l := l) (z := z) (by omega) (by omega)) (by omega)) [vI (a9)] rfl hr.1 rfl rfl (by decide) (by decide +kernel) rfl wd381 wd382 wd383 wd4 wd384 (by decide) (Nat.le_of_ble_eq_true rfl) dX4_understood_37 ?_
    have hm37 := mrB_rg hI (b := (t).toNat) (by omega) (σ.2 (1 + l.toNat) z)
    refine j_aload hC dX4_understood_40 0 rfl ?_
    refine j_iconst hC dX4_understood_42 ?_
    refine r_num4 hC (Rp.sn hr hI (l := l) (z := z) (by omega) (by omega)) dX4_understood_43 ?_
    suffices K52 : J mc (gx g X) 0 0 (QN mc (gx g X) (pt (some (vI (cnt (fun z => decide (mrB σ t.toNat (lkB σ l.toNat z) = mnB σ l.toNat z)) d (z + 1) (a9 + (if mrB σ t.toNat (σ.2 (1 + l.toNat) z) = σ.2 (6 + l.toNat) z then 1 else 0))))) σ) 0 0) 52 [(6, vI (z)), (3, vI (a9)), (0, .ref a), (1, vI (l)), (2, vI (t)), (4, .ref (rL r l.toNat)), (5, vI (σ.1 (2 + l.toNat)))] [vI ((if mrB σ (t).toNat (σ.2 (1 + l.toNat) z) = σ.2 (6 + l.toNat) z then 1 else 0)), vI (a9)] σ by
      refine j_icmp_ne (tgt := 51) hC dX4_understood_44 (by decide) (by omega) (fun h44 => ?_) (fun h44 => ?_)
      · refine j_iconst hC dX4_understood_51 ?_
        refine j_sub [1, 2, 3, 4, 5, 6, 7] rfl ?_
        exact (by first | (rw [show ((if mrB σ (t).toNat (σ.2 (1 + l.toNat) z) = σ.2 (6 + l.toNat) z then 1 else 0) : Int) = 1 from if_pos (by omega)] at K52; exact K52) | (rw [show ((if mrB σ (t).toNat (σ.2 (1 + l.toNat) z) = σ.2 (6 + l.toNat) z then 1 else 0) : Int) = 1 from if_pos (by omega)] at K52 ⊢; exact K52) | (rw [show ((if mrB σ (t).toNat (σ.2 (1 + l.toNat) z) = σ.2 (6 + l.toNat) z then 1 else 0) : Int) = 0 from if_neg (by omega)] at K52; exact K52) | (rw [show ((if mrB σ (t).toNat (σ.2 (1 + l.toNat) z) = σ.2 (6 + l.toNat) z then 1 else 0) : Int) = 0 from if_neg (by omega)] at K52 ⊢; exact K52))
      · refine j_iconst hC dX4_understood_47 ?_
        refine j_goto (tgt := 52) hC dX4_understood_48 (by decide) ?_
        refine j_sub [1, 2, 3, 4, 5, 6, 7] rfl ?_
        exact (by first | (rw [show ((if mrB σ (t).toNat (σ.2 (1 + l.toNat) z) = σ.2 (6 + l.toNat) z then 1 else 0) : Int) = 1 from if_pos (by omega)] at K52; exact K52) | (rw [show ((if mrB σ (t).toNat (σ.2 (1 + l.toNat) z) = σ.2 (6 + l.toNat) z then 1 else 0) : Int) = 1 from if_pos (by omega)] at K52 ⊢; exact K52) | (rw [show ((if mrB σ (t).toNat (σ.2 (1 + l.toNat) z) = σ.2 (6 + l.toNat) z then 1 else 0) : Int) = 0 from if_neg (by omega)] at K52; exact K52) | (rw [show ((if mrB σ (t).toNat (σ.2 (1 + l.toNat) z) = σ.2 (6 + l.toNat) z then 1 else 0) : Int) = 0 from if_neg (by omega)] at K52 ⊢; exact K52))
    refine j_iadd hC dX4_understood_52 ?_
    refine j_istore_n hC dX4_understood_53 [(3, vI (a9 + (if mrB σ (t).toNat (σ.2 (1 + l.toNat) z) = σ.2 (6 + l.toNat) z then 1 else 0))), (6, vI (z)), (0, .ref a), (1, vI (l)), (2, vI (t)), (4, .ref (rL r l.toNat)), (5, vI (σ.1 (2 + l.toNat)))] (by decide) rfl ?_
    refine j_iinc hC dX4_understood_54 1 [(6, vI (z + 1)), (3, vI (a9 + (if mrB σ (t).toNat (σ.2 (1 + l.toNat) z) = σ.2 (6 + l.toNat) z then 1 else 0))), (0, .ref a), (1, vI (l)), (2, vI (t)), (4, .ref (rL r l.toNat)), (5, vI (σ.1 (2 + l.toNat)))] rfl (by decide) rfl ?_
    refine j_goto (tgt := 18) hC dX4_understood_57 (by decide) ?_
    exact ih (z + 1) _ (by omega) (by omega)
set_option maxHeartbeats 4000000 in
set_option maxRecDepth 100000 in
theorem c_X4_understood {ll : Launch} (hll : ll.stackTraces = false) (g : GG) (X : va_W) (σ : Sg) {a : Nat} {r : RR} (hr : Rp g X a σ r) (hI : IC σ) (l t : Int) (hl : 0 ≤ l ∧ l < σ.1 0) (ht : 0 ≤ t ∧ t < σ.1 0) : CN ll yX4_understood cX4_understood 8 (some .int) 4 96 0 0 (gx g X) [.ref a, vI (l), vI (t)] σ (pt (some (vI (cuB σ t.toNat l.toNat))) σ) := by
  refine CN_of (own := RX4) hll (by decide) rfl (Nat.le_of_ble_eq_true rfl) (fun mc hC _ hR => ?_)
  refine j_lv (lv2 := [(0, .ref a), (1, vI (l)), (2, vI (t))]) rfl ?_
  have hkn := IC_k hI hl
  have hc0 := IC_n hI
  refine j_iconst hC dX4_understood_0 ?_
  refine j_istore_n hC dX4_understood_1 [(3, vI (0)), (0, .ref a), (1, vI (l)), (2, vI (t))] (by decide) rfl ?_
  refine j_aload_n hC dX4_understood_2 1 rfl ?_
  refine r_books hC hr wd530 dX4_understood_3 ?_
  refine j_iload_n hC dX4_understood_6 2 rfl ?_
  refine r_lodge hC hr hI (by omega) dX4_understood_7 ?_
  refine j_astore hC dX4_understood_8 [(4, .ref (rL r l.toNat)), (3, vI (0)), (0, .ref a), (1, vI (l)), (2, vI (t))] (by decide) rfl ?_
  refine j_aload hC dX4_understood_10 0 rfl ?_
  refine r_llen hC hr hI (by omega) dX4_understood_12 ?_
  refine j_istore hC dX4_understood_13 [(5, vI (σ.1 (2 + l.toNat))), (4, .ref (rL r l.toNat)), (3, vI (0)), (0, .ref a), (1, vI (l)), (2, vI (t))] (by decide) rfl ?_
  refine j_iconst hC dX4_understood_15 ?_
  refine j_istore hC dX4_understood_16 [(6, vI (0)), (5, vI (σ.1 (2 + l.toNat))), (4, .ref (rL r l.toNat)), (3, vI (0)), (0, .ref a), (1, vI (l)), (2, vI (t))] (by decide) rfl ?_
  refine j_sub [0, 3, 4, 5, 6, 2, 1] rfl ?_
  exact lp_X4_understood hr hI hC hR l t hl ht (cN σ l.toNat) 0 0 (by omega) (by omega)
end
