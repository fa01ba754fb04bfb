/-! THE Z KIT: Z C k n ws pc L st: from every heap that holds the cells ws, at pc, with locals L and stack st, the activation C comes to its end. -/
def zts : List Cond := lw_tbl.filter goodWord
theorem zts_lw : ∀ w ∈ zts, w ∈ lw_tbl := fun _ h => (List.mem_filter.mp h).1
theorem zts_good : zts.all goodWord = true := List.all_eq_true.mpr fun _ h => (List.mem_filter.mp h).2
theorem zts_sub {y : MethodName} {cc : ByteArray} {nL : Nat} {ret : Option FieldType} (hc : Cond.code y cc nL ret ∈ zts) {big : List Cond} (hb : ∀ w ∈ zts, w ∈ big) : GoodIn big (Cond.code y cc nL ret :: zts) := by
  intro w hw
  rcases List.mem_cons.mp hw with h | h
  · subst h
    exact ⟨hb _ hc, good_of_word (List.all_eq_true.mp zts_good _ hc)⟩
  · exact ⟨hb _ h, good_of_word (List.all_eq_true.mp zts_good _ h)⟩
/-- the words that move by a row of their own -/
def zN (U : State) : Prop := va_Nw (.methodLinkNest RX4 63 yX6_isWithin RX6) U ∧ va_Nw (.methodLinkNest RX2 63 yX6_given RX6) U ∧ va_Nw (.methodLinkNest RX2 81 yX6_worn RX6) U
theorem zN.warm {s U : State} (hW : s.WarmedH U.vm) (h : zN s) : zN U := ⟨h.1.warmM hW, h.2.1.warmM hW, h.2.2.warmM hW⟩
theorem zN.same {u U : State} (hv : u.vm = U.vm) (h : zN u) : zN U := ⟨h.1.same rfl hv, h.2.1.same rfl hv, h.2.2.same rfl hv⟩
abbrev zG : Type := va_G × ClassId × ClassId × ClassId × ClassId × ClassId
abbrev zT (G : zG) : List (ClassId × FieldType) := [(G.2.1, .char), (G.2.2.1, .int), (G.2.2.2.1, .long), (G.2.2.2.2.1, .object RX2), (G.2.2.2.2.2, .object RX3)]
abbrev ca (G : zG) (a n : Nat) (f : Nat → Int32) : Nat × va_E := (a, .inl (G.2.1, n, .inl f))
abbrev ia (G : zG) (a n : Nat) (f : Nat → Int32) : Nat × va_E := (a, .inl (G.2.2.1, n, .inl f))
abbrev la (G : zG) (a n : Nat) (f : Nat → Int64) : Nat × va_E := (a, .inl (G.2.2.2.1, n, .inr (.inl f)))
abbrev ma (G : zG) (a n : Nat) (f : Nat → Option Nat) : Nat × va_E := (a, .inl (G.2.2.2.2.1, n, .inr (.inr (.inr (.inr f)))))
abbrev sa (G : zG) (a n : Nat) (f : Nat → Option Nat) : Nat × va_E := (a, .inl (G.2.2.2.2.2, n, .inr (.inr (.inr (.inr f)))))
abbrev ob (a ci : Nat) (fs : List Value) : Nat × va_E := (a, .inr (ci, fs))
abbrev fN (f : Nat → Nat) : Nat → Int32 := fun j => nI (f j)
abbrev zX : Type := Program × Launch × Env × Room × State × MethodId × Array Value × List Frame × Method × Code × (State → Prop)
abbrev zC : Type := zX × zG × (Nat → Prop) × Heap × Nat
abbrev zW (X : zX) (H : Heap) (locs : List Loc) (k n pc : Nat) (ls : Array Slot) (st : List Value) : Prop := W X.1 X.2.1 X.2.2.1 X.2.2.2.1 X.2.2.2.2.1 X.2.2.2.2.2.1 X.2.2.2.2.2.2.1 X.2.2.2.2.2.2.2.1 X.2.2.2.2.2.2.2.2.1 X.2.2.2.2.2.2.2.2.2.1 H locs k n X.2.2.2.2.2.2.2.2.2.2 (F0 X.2.2.2.2.2.1 pc ls st)
def Z (C : zC) (k n : Nat) (ws : va_W) (pc : Nat) (L : List (Nat × Value)) (st : List Value) : Prop :=
  ∀ (H : Heap) (locs : List Loc) (ls : Array Slot), va_P C.2.1.1 vwCl ws H → va_D C.2.2.1 ws → va_S C.2.2.1 C.2.2.2.1 H locs → lv_has ls C.2.2.2.2 L → zW C.1 H locs k n pc ls st
def zOk (C : zC) (cc : ByteArray) (own : String) (fr mc ms lo : Nat) : Prop := match C with
  | ((p, _, _, R, s, m, args, _, _, c, _), G, A, H0, nL) => p.tables.exec = Jvm.exec ∧ c.code = cc ∧ c.maxLocals = nL ∧ s.vm.findClass own = some m.cls ∧ (∀ w ∈ zts, w.before args s = true) ∧ va_K G.1 vwCl (zT G) s ∧ (∀ q : Nat, H0.size ≤ q → A q) ∧ R = ⟨fr, mc, ms, lo⟩ ∧ zN s
def zFc (ci : Nat) (C : String) (T : u_T) (N : Nat) (ty : Nat → FieldType) : Prop := vwCl[ci]? = some (C, T, N) ∧ (∀ w ∈ u_ws C T N, w ∈ zts) ∧ (∀ k, k < N → parseFieldDescriptor (T k).2.2.1 = some (ty k)) ∧ (∀ a, a < N → ∀ b, b < N → a ≠ b → (T a).2.1 ≠ (T b).2.1)
section ZR
variable {C : zC} {cc : ByteArray} {own : String} {fr mc ms lo k n : Nat} {ws : va_W} {pc : Nat} {L : List (Nat × Value)} {st : List Value}

theorem z_iload_n (h : zOk C cc own fr mc ms lo) {q : Fin 4} {x : Int32} (i : Nat) (hd : decode cc pc = .ok (.iload_n q, 1)) (hk : L[i]? = some ((q : Nat), .int x)) (kk : Z C k n ws (pc + 1) L (.int x :: st)) : Z C k n ws pc L st := by
  obtain ⟨⟨p, l, e, R, s, m, args, below, meth, c, Q⟩, G, A, H0, nL⟩ := C
  obtain ⟨hx, hb, hml, hown, hts, hK, hA, hR, hN⟩ := h
  intro H locs ls hP hD hS hl
  exact lv_iload_n hx hb hd rfl (lv_at hl i hk) (kk H locs ls hP hD hS hl)
theorem z_iload (h : zOk C cc own fr mc ms lo) {q : Nat} {x : Int32} (i : Nat) (hd : decode cc pc = .ok (.iload q, 2)) (hk : L[i]? = some (q, .int x)) (kk : Z C k n ws (pc + 2) L (.int x :: st)) : Z C k n ws pc L st := by
  obtain ⟨⟨p, l, e, R, s, m, args, below, meth, c, Q⟩, G, A, H0, nL⟩ := C
  obtain ⟨hx, hb, hml, hown, hts, hK, hA, hR, hN⟩ := h
  intro H locs ls hP hD hS hl
  exact lv_iload hx hb hd (lv_at hl i hk) (kk H locs ls hP hD hS hl)
theorem z_lload_n (h : zOk C cc own fr mc ms lo) {q : Fin 4} {x : Int64} (i : Nat) (hd : decode cc pc = .ok (.lload_n q, 1)) (hk : L[i]? = some ((q : Nat), .long x)) (kk : Z C k n ws (pc + 1) L (.long x :: st)) : Z C k n ws pc L st := by
  obtain ⟨⟨p, l, e, R, s, m, args, below, meth, c, Q⟩, G, A, H0, nL⟩ := C
  obtain ⟨hx, hb, hml, hown, hts, hK, hA, hR, hN⟩ := h
  intro H locs ls hP hD hS hl
  exact lv_lload_n hx hb hd rfl (lv_at hl i hk) (kk H locs ls hP hD hS hl)
theorem z_lload (h : zOk C cc own fr mc ms lo) {q : Nat} {x : Int64} (i : Nat) (hd : decode cc pc = .ok (.lload q, 2)) (hk : L[i]? = some (q, .long x)) (kk : Z C k n ws (pc + 2) L (.long x :: st)) : Z C k n ws pc L st := by
  obtain ⟨⟨p, l, e, R, s, m, args, below, meth, c, Q⟩, G, A, H0, nL⟩ := C
  obtain ⟨hx, hb, hml, hown, hts, hK, hA, hR, hN⟩ := h
  intro H locs ls hP hD hS hl
  exact lv_lload hx hb hd (lv_at hl i hk) (kk H locs ls hP hD hS hl)
theorem z_aload_n (h : zOk C cc own fr mc ms lo) {q : Fin 4} {x : Nat} (i : Nat) (hd : decode cc pc = .ok (.aload_n q, 1)) (hk : L[i]? = some ((q : Nat), .ref x)) (kk : Z C k n ws (pc + 1) L (.ref x :: st)) : Z C k n ws pc L st := by
  obtain ⟨⟨p, l, e, R, s, m, args, below, meth, c, Q⟩, G, A, H0, nL⟩ := C
  obtain ⟨hx, hb, hml, hown, hts, hK, hA, hR, hN⟩ := h
  intro H locs ls hP hD hS hl
  exact lv_aload_n hx hb hd rfl (lv_at hl i hk) (kk H locs ls hP hD hS hl)
theorem z_aload (h : zOk C cc own fr mc ms lo) {q : Nat} {x : Nat} (i : Nat) (hd : decode cc pc = .ok (.aload q, 2)) (hk : L[i]? = some (q, .ref x)) (kk : Z C k n ws (pc + 2) L (.ref x :: st)) : Z C k n ws pc L st := by
  obtain ⟨⟨p, l, e, R, s, m, args, below, meth, c, Q⟩, G, A, H0, nL⟩ := C
  obtain ⟨hx, hb, hml, hown, hts, hK, hA, hR, hN⟩ := h
  intro H locs ls hP hD hS hl
  exact lv_aload hx hb hd (lv_at hl i hk) (kk H locs ls hP hD hS hl)
theorem z_istore_n (h : zOk C cc own fr mc ms lo) {q : Fin 4} {x : Int32} {L' : List (Nat × Value)} (hd : decode cc pc = .ok (.istore_n q, 1)) (hn : (q : Nat) < C.2.2.2.2) (hL : ((q : Nat), Value.int x) :: L.filter (fun z => !(z.1 == (q : Nat)) && !(z.1 + 1 == (q : Nat) && z.2.category == 2)) = L') (kk : Z C k n ws (pc + 1) L' st) : Z C k n ws pc L (.int x :: st) := by
  obtain ⟨⟨p, l, e, R, s, m, args, below, meth, c, Q⟩, G, A, H0, nL⟩ := C
  obtain ⟨hx, hb, hml, hown, hts, hK, hA, hR, hN⟩ := h
  intro H locs ls hP hD hS hl
  exact lv_istore_n hx hb hd rfl hl hn hL (fun ls' hl' => kk H locs ls' hP hD hS hl')
theorem z_istore (h : zOk C cc own fr mc ms lo) {q : Nat} {x : Int32} {L' : List (Nat × Value)} (hd : decode cc pc = .ok (.istore q, 2)) (hn : q < C.2.2.2.2) (hL : (q, Value.int x) :: L.filter (fun z => !(z.1 == q) && !(z.1 + 1 == q && z.2.category == 2)) = L') (kk : Z C k n ws (pc + 2) L' st) : Z C k n ws pc L (.int x :: st) := by
  obtain ⟨⟨p, l, e, R, s, m, args, below, meth, c, Q⟩, G, A, H0, nL⟩ := C
  obtain ⟨hx, hb, hml, hown, hts, hK, hA, hR, hN⟩ := h
  intro H locs ls hP hD hS hl
  exact lv_istore hx hb hd hl hn hL (fun ls' hl' => kk H locs ls' hP hD hS hl')
theorem z_astore_n (h : zOk C cc own fr mc ms lo) {q : Fin 4} {x : Nat} {L' : List (Nat × Value)} (hd : decode cc pc = .ok (.astore_n q, 1)) (hn : (q : Nat) < C.2.2.2.2) (hL : ((q : Nat), Value.ref x) :: L.filter (fun z => !(z.1 == (q : Nat)) && !(z.1 + 1 == (q : Nat) && z.2.category == 2)) = L') (kk : Z C k n ws (pc + 1) L' st) : Z C k n ws pc L (.ref x :: st) := by
  obtain ⟨⟨p, l, e, R, s, m, args, below, meth, c, Q⟩, G, A, H0, nL⟩ := C
  obtain ⟨hx, hb, hml, hown, hts, hK, hA, hR, hN⟩ := h
  intro H locs ls hP hD hS hl
  exact lv_astore_n hx hb hd rfl hl hn hL (fun ls' hl' => kk H locs ls' hP hD hS hl')
theorem z_astore (h : zOk C cc own fr mc ms lo) {q : Nat} {x : Nat} {L' : List (Nat × Value)} (hd : decode cc pc = .ok (.astore q, 2)) (hn : q < C.2.2.2.2) (hL : (q, Value.ref x) :: L.filter (fun z => !(z.1 == q) && !(z.1 + 1 == q && z.2.category == 2)) = L') (kk : Z C k n ws (pc + 2) L' st) : Z C k n ws pc L (.ref x :: st) := by
  obtain ⟨⟨p, l, e, R, s, m, args, below, meth, c, Q⟩, G, A, H0, nL⟩ := C
  obtain ⟨hx, hb, hml, hown, hts, hK, hA, hR, hN⟩ := h
  intro H locs ls hP hD hS hl
  exact lv_astore hx hb hd hl hn hL (fun ls' hl' => kk H locs ls' hP hD hS hl')
theorem z_lstore (h : zOk C cc own fr mc ms lo) {q : Nat} {x : Int64} {L' : List (Nat × Value)} (hd : decode cc pc = .ok (.lstore q, 2)) (hn : q + 1 < C.2.2.2.2) (hL : (q, Value.long x) :: L.filter (fun z => !(z.1 == q) && (!(z.1 == q + 1) && !(z.1 + 1 == q && z.2.category == 2))) = L') (kk : Z C k n ws (pc + 2) L' st) : Z C k n ws pc L (.long x :: st) := by
  obtain ⟨⟨p, l, e, R, s, m, args, below, meth, c, Q⟩, G, A, H0, nL⟩ := C
  obtain ⟨hx, hb, hml, hown, hts, hK, hA, hR, hN⟩ := h
  intro H locs ls hP hD hS hl
  exact lv_lstore hx hb hd hl hn hL (fun ls' hl' => kk H locs ls' hP hD hS hl')
theorem z_iinc (h : zOk C cc own fr mc ms lo) {q : Nat} {d : Int} {x v : Int32} {L' : List (Nat × Value)} (i : Nat) (hd : decode cc pc = .ok (.iinc q d, 3)) (hk : L[i]? = some (q, .int x)) (hv : x + Int32.ofInt d = v) (hn : q < C.2.2.2.2) (hL : (q, Value.int v) :: L.filter (fun z => !(z.1 == q) && !(z.1 + 1 == q && z.2.category == 2)) = L') (kk : Z C k n ws (pc + 3) L' st) : Z C k n ws pc L st := by
  obtain ⟨⟨p, l, e, R, s, m, args, below, meth, c, Q⟩, G, A, H0, nL⟩ := C
  obtain ⟨hx, hb, hml, hown, hts, hK, hA, hR, hN⟩ := h
  intro H locs ls hP hD hS hl
  exact lv_iinc hx hb hd hl hk hv hn hL (fun ls' hl' => kk H locs ls' hP hD hS hl')
theorem z_iconst (h : zOk C cc own fr mc ms lo) {d : Int} {v : Int32} (hd : decode cc pc = .ok (.iconst d, 1)) (hv : Int32.ofInt d = v) (kk : Z C k n ws (pc + 1) L (.int v :: st)) : Z C k n ws pc L st := by
  obtain ⟨⟨p, l, e, R, s, m, args, below, meth, c, Q⟩, G, A, H0, nL⟩ := C
  obtain ⟨hx, hb, hml, hown, hts, hK, hA, hR, hN⟩ := h
  intro H locs ls hP hD hS hl
  exact lv_iconst hx hb hd hv (kk H locs ls hP hD hS hl)
theorem z_bipush (h : zOk C cc own fr mc ms lo) {d : Int} {v : Int32} (hd : decode cc pc = .ok (.bipush d, 2)) (hv : (Int8.ofInt d).toInt32 = v) (kk : Z C k n ws (pc + 2) L (.int v :: st)) : Z C k n ws pc L st := by
  obtain ⟨⟨p, l, e, R, s, m, args, below, meth, c, Q⟩, G, A, H0, nL⟩ := C
  obtain ⟨hx, hb, hml, hown, hts, hK, hA, hR, hN⟩ := h
  intro H locs ls hP hD hS hl
  exact lv_bipush hx hb hd hv (kk H locs ls hP hD hS hl)
theorem z_sipush (h : zOk C cc own fr mc ms lo) {d : Int} {v : Int32} (hd : decode cc pc = .ok (.sipush d, 3)) (hv : (Int16.ofInt d).toInt32 = v) (kk : Z C k n ws (pc + 3) L (.int v :: st)) : Z C k n ws pc L st := by
  obtain ⟨⟨p, l, e, R, s, m, args, below, meth, c, Q⟩, G, A, H0, nL⟩ := C
  obtain ⟨hx, hb, hml, hown, hts, hK, hA, hR, hN⟩ := h
  intro H locs ls hP hD hS hl
  exact lv_sipush hx hb hd hv (kk H locs ls hP hD hS hl)
theorem z_lconst (h : zOk C cc own fr mc ms lo) {d : Fin 2} {v : Int64} (hd : decode cc pc = .ok (.lconst d, 1)) (hv : Int64.ofNat (d : Nat) = v) (kk : Z C k n ws (pc + 1) L (.long v :: st)) : Z C k n ws pc L st := by
  obtain ⟨⟨p, l, e, R, s, m, args, below, meth, c, Q⟩, G, A, H0, nL⟩ := C
  obtain ⟨hx, hb, hml, hown, hts, hK, hA, hR, hN⟩ := h
  intro H locs ls hP hD hS hl
  exact lv_lconst hx hb hd hv (kk H locs ls hP hD hS hl)
theorem z_ldc (h : zOk C cc own fr mc ms lo) {i : Nat} {v : Int32} (hc : Cond.constant own i v ∈ zts) (hd : decode cc pc = .ok (.ldc i, 2)) (kk : Z C k n ws (pc + 2) L (.int v :: st)) : Z C k n ws pc L st := by
  obtain ⟨⟨p, l, e, R, s, m, args, below, meth, c, Q⟩, G, A, H0, nL⟩ := C
  obtain ⟨hx, hb, hml, hown, hts, hK, hA, hR, hN⟩ := h
  intro H locs ls hP hD hS hl
  exact lv_ldc hx hb hown (hts _ hc) hd (kk H locs ls hP hD hS hl)
theorem z_ldc2 (h : zOk C cc own fr mc ms lo) {i : Nat} {v : Int64} (hc : Cond.constantLong own i v ∈ zts) (hd : decode cc pc = .ok (.ldc2_w i, 3)) (kk : Z C k n ws (pc + 3) L (.long v :: st)) : Z C k n ws pc L st := by
  obtain ⟨⟨p, l, e, R, s, m, args, below, meth, c, Q⟩, G, A, H0, nL⟩ := C
  obtain ⟨hx, hb, hml, hown, hts, hK, hA, hR, hN⟩ := h
  intro H locs ls hP hD hS hl
  exact lv_ldc2 hx hb hown (hts _ hc) hd (kk H locs ls hP hD hS hl)
theorem z_iadd (h : zOk C cc own fr mc ms lo) {x y v : Int32} (hd : decode cc pc = .ok (.iadd, 1)) (hv : x + y = v) (kk : Z C k n ws (pc + 1) L (.int v :: st)) : Z C k n ws pc L (.int y :: .int x :: st) := by
  obtain ⟨⟨p, l, e, R, s, m, args, below, meth, c, Q⟩, G, A, H0, nL⟩ := C
  obtain ⟨hx, hb, hml, hown, hts, hK, hA, hR, hN⟩ := h
  intro H locs ls hP hD hS hl
  exact lv_iadd hx hb hd (by rw [hv]; exact kk H locs ls hP hD hS hl)
theorem z_isub (h : zOk C cc own fr mc ms lo) {x y v : Int32} (hd : decode cc pc = .ok (.isub, 1)) (hv : x - y = v) (kk : Z C k n ws (pc + 1) L (.int v :: st)) : Z C k n ws pc L (.int y :: .int x :: st) := by
  obtain ⟨⟨p, l, e, R, s, m, args, below, meth, c, Q⟩, G, A, H0, nL⟩ := C
  obtain ⟨hx, hb, hml, hown, hts, hK, hA, hR, hN⟩ := h
  intro H locs ls hP hD hS hl
  exact lv_isub hx hb hd (by rw [hv]; exact kk H locs ls hP hD hS hl)
theorem z_imul (h : zOk C cc own fr mc ms lo) {x y v : Int32} (hd : decode cc pc = .ok (.imul, 1)) (hv : x * y = v) (kk : Z C k n ws (pc + 1) L (.int v :: st)) : Z C k n ws pc L (.int y :: .int x :: st) := by
  obtain ⟨⟨p, l, e, R, s, m, args, below, meth, c, Q⟩, G, A, H0, nL⟩ := C
  obtain ⟨hx, hb, hml, hown, hts, hK, hA, hR, hN⟩ := h
  intro H locs ls hP hD hS hl
  exact lv_imul hx hb hd (by rw [hv]; exact kk H locs ls hP hD hS hl)
theorem z_iand (h : zOk C cc own fr mc ms lo) {x y v : Int32} (hd : decode cc pc = .ok (.iand, 1)) (hv : x &&& y = v) (kk : Z C k n ws (pc + 1) L (.int v :: st)) : Z C k n ws pc L (.int y :: .int x :: st) := by
  obtain ⟨⟨p, l, e, R, s, m, args, below, meth, c, Q⟩, G, A, H0, nL⟩ := C
  obtain ⟨hx, hb, hml, hown, hts, hK, hA, hR, hN⟩ := h
  intro H locs ls hP hD hS hl
  exact lv_iand hx hb hd (by rw [hv]; exact kk H locs ls hP hD hS hl)
theorem z_ior (h : zOk C cc own fr mc ms lo) {x y v : Int32} (hd : decode cc pc = .ok (.ior, 1)) (hv : x ||| y = v) (kk : Z C k n ws (pc + 1) L (.int v :: st)) : Z C k n ws pc L (.int y :: .int x :: st) := by
  obtain ⟨⟨p, l, e, R, s, m, args, below, meth, c, Q⟩, G, A, H0, nL⟩ := C
  obtain ⟨hx, hb, hml, hown, hts, hK, hA, hR, hN⟩ := h
  intro H locs ls hP hD hS hl
  exact lv_ior hx hb hd (by rw [hv]; exact kk H locs ls hP hD hS hl)
theorem z_ixor (h : zOk C cc own fr mc ms lo) {x y v : Int32} (hd : decode cc pc = .ok (.ixor, 1)) (hv : x ^^^ y = v) (kk : Z C k n ws (pc + 1) L (.int v :: st)) : Z C k n ws pc L (.int y :: .int x :: st) := by
  obtain ⟨⟨p, l, e, R, s, m, args, below, meth, c, Q⟩, G, A, H0, nL⟩ := C
  obtain ⟨hx, hb, hml, hown, hts, hK, hA, hR, hN⟩ := h
  intro H locs ls hP hD hS hl
  exact lv_ixor hx hb hd (by rw [hv]; exact kk H locs ls hP hD hS hl)
theorem z_ishl (h : zOk C cc own fr mc ms lo) {x y v : Int32} (hd : decode cc pc = .ok (.ishl, 1)) (hv : x <<< (y &&& 31) = v) (kk : Z C k n ws (pc + 1) L (.int v :: st)) : Z C k n ws pc L (.int y :: .int x :: st) := by
  obtain ⟨⟨p, l, e, R, s, m, args, below, meth, c, Q⟩, G, A, H0, nL⟩ := C
  obtain ⟨hx, hb, hml, hown, hts, hK, hA, hR, hN⟩ := h
  intro H locs ls hP hD hS hl
  exact lv_ishl hx hb hd (by rw [hv]; exact kk H locs ls hP hD hS hl)
theorem z_ishr (h : zOk C cc own fr mc ms lo) {x y v : Int32} (hd : decode cc pc = .ok (.ishr, 1)) (hv : x >>> (y &&& 31) = v) (kk : Z C k n ws (pc + 1) L (.int v :: st)) : Z C k n ws pc L (.int y :: .int x :: st) := by
  obtain ⟨⟨p, l, e, R, s, m, args, below, meth, c, Q⟩, G, A, H0, nL⟩ := C
  obtain ⟨hx, hb, hml, hown, hts, hK, hA, hR, hN⟩ := h
  intro H locs ls hP hD hS hl
  exact lv_ishr hx hb hd (by rw [hv]; exact kk H locs ls hP hD hS hl)
theorem z_idiv (h : zOk C cc own fr mc ms lo) {x y v : Int32} (hd : decode cc pc = .ok (.idiv, 1)) (hne : ¬ y = 0) (hv : x / y = v) (kk : Z C k n ws (pc + 1) L (.int v :: st)) : Z C k n ws pc L (.int y :: .int x :: st) := by
  obtain ⟨⟨p, l, e, R, s, m, args, below, meth, c, Q⟩, G, A, H0, nL⟩ := C
  obtain ⟨hx, hb, hml, hown, hts, hK, hA, hR, hN⟩ := h
  intro H locs ls hP hD hS hl
  exact lv_idiv hx hb hd hne (by rw [hv]; exact kk H locs ls hP hD hS hl)
theorem z_irem (h : zOk C cc own fr mc ms lo) {x y v : Int32} (hd : decode cc pc = .ok (.irem, 1)) (hne : ¬ y = 0) (hv : x - x / y * y = v) (kk : Z C k n ws (pc + 1) L (.int v :: st)) : Z C k n ws pc L (.int y :: .int x :: st) := by
  obtain ⟨⟨p, l, e, R, s, m, args, below, meth, c, Q⟩, G, A, H0, nL⟩ := C
  obtain ⟨hx, hb, hml, hown, hts, hK, hA, hR, hN⟩ := h
  intro H locs ls hP hD hS hl
  exact lv_irem hx hb hd hne (by rw [hv]; exact kk H locs ls hP hD hS hl)
theorem z_ineg (h : zOk C cc own fr mc ms lo) {x v : Int32} (hd : decode cc pc = .ok (.ineg, 1)) (hv : -x = v) (kk : Z C k n ws (pc + 1) L (.int v :: st)) : Z C k n ws pc L (.int x :: st) := by
  obtain ⟨⟨p, l, e, R, s, m, args, below, meth, c, Q⟩, G, A, H0, nL⟩ := C
  obtain ⟨hx, hb, hml, hown, hts, hK, hA, hR, hN⟩ := h
  intro H locs ls hP hD hS hl
  exact lv_ineg hx hb hd (by rw [hv]; exact kk H locs ls hP hD hS hl)
theorem z_ladd (h : zOk C cc own fr mc ms lo) {x y v : Int64} (hd : decode cc pc = .ok (.ladd, 1)) (hv : x + y = v) (kk : Z C k n ws (pc + 1) L (.long v :: st)) : Z C k n ws pc L (.long y :: .long x :: st) := by
  obtain ⟨⟨p, l, e, R, s, m, args, below, meth, c, Q⟩, G, A, H0, nL⟩ := C
  obtain ⟨hx, hb, hml, hown, hts, hK, hA, hR, hN⟩ := h
  intro H locs ls hP hD hS hl
  exact lv_ladd hx hb hd (by rw [hv]; exact kk H locs ls hP hD hS hl)
theorem z_lmul (h : zOk C cc own fr mc ms lo) {x y v : Int64} (hd : decode cc pc = .ok (.lmul, 1)) (hv : x * y = v) (kk : Z C k n ws (pc + 1) L (.long v :: st)) : Z C k n ws pc L (.long y :: .long x :: st) := by
  obtain ⟨⟨p, l, e, R, s, m, args, below, meth, c, Q⟩, G, A, H0, nL⟩ := C
  obtain ⟨hx, hb, hml, hown, hts, hK, hA, hR, hN⟩ := h
  intro H locs ls hP hD hS hl
  exact lv_lmul hx hb hd (by rw [hv]; exact kk H locs ls hP hD hS hl)
theorem z_land (h : zOk C cc own fr mc ms lo) {x y v : Int64} (hd : decode cc pc = .ok (.land, 1)) (hv : x &&& y = v) (kk : Z C k n ws (pc + 1) L (.long v :: st)) : Z C k n ws pc L (.long y :: .long x :: st) := by
  obtain ⟨⟨p, l, e, R, s, m, args, below, meth, c, Q⟩, G, A, H0, nL⟩ := C
  obtain ⟨hx, hb, hml, hown, hts, hK, hA, hR, hN⟩ := h
  intro H locs ls hP hD hS hl
  exact lv_land hx hb hd (by rw [hv]; exact kk H locs ls hP hD hS hl)
theorem z_lor (h : zOk C cc own fr mc ms lo) {x y v : Int64} (hd : decode cc pc = .ok (.lor, 1)) (hv : x ||| y = v) (kk : Z C k n ws (pc + 1) L (.long v :: st)) : Z C k n ws pc L (.long y :: .long x :: st) := by
  obtain ⟨⟨p, l, e, R, s, m, args, below, meth, c, Q⟩, G, A, H0, nL⟩ := C
  obtain ⟨hx, hb, hml, hown, hts, hK, hA, hR, hN⟩ := h
  intro H locs ls hP hD hS hl
  exact lv_lor hx hb hd (by rw [hv]; exact kk H locs ls hP hD hS hl)
theorem z_lshl (h : zOk C cc own fr mc ms lo) {x v : Int64} {y : Int32} (hd : decode cc pc = .ok (.lshl, 1)) (hv : x <<< (y.toInt64 &&& 63) = v) (kk : Z C k n ws (pc + 1) L (.long v :: st)) : Z C k n ws pc L (.int y :: .long x :: st) := by
  obtain ⟨⟨p, l, e, R, s, m, args, below, meth, c, Q⟩, G, A, H0, nL⟩ := C
  obtain ⟨hx, hb, hml, hown, hts, hK, hA, hR, hN⟩ := h
  intro H locs ls hP hD hS hl
  exact lv_lshl hx hb hd hv (kk H locs ls hP hD hS hl)
theorem z_i2l (h : zOk C cc own fr mc ms lo) {x : Int32} {v : Int64} (hd : decode cc pc = .ok (.i2l, 1)) (hv : x.toInt64 = v) (kk : Z C k n ws (pc + 1) L (.long v :: st)) : Z C k n ws pc L (.int x :: st) := by
  obtain ⟨⟨p, l, e, R, s, m, args, below, meth, c, Q⟩, G, A, H0, nL⟩ := C
  obtain ⟨hx, hb, hml, hown, hts, hK, hA, hR, hN⟩ := h
  intro H locs ls hP hD hS hl
  exact lv_i2l hx hb hd hv (kk H locs ls hP hD hS hl)
theorem z_l2i (h : zOk C cc own fr mc ms lo) {x : Int64} {v : Int32} (hd : decode cc pc = .ok (.l2i, 1)) (hv : x.toInt32 = v) (kk : Z C k n ws (pc + 1) L (.int v :: st)) : Z C k n ws pc L (.long x :: st) := by
  obtain ⟨⟨p, l, e, R, s, m, args, below, meth, c, Q⟩, G, A, H0, nL⟩ := C
  obtain ⟨hx, hb, hml, hown, hts, hK, hA, hR, hN⟩ := h
  intro H locs ls hP hD hS hl
  exact lv_l2i hx hb hd hv (kk H locs ls hP hD hS hl)
theorem z_i2b (h : zOk C cc own fr mc ms lo) {x v : Int32} (hd : decode cc pc = .ok (.i2b, 1)) (hv : x.toInt8.toInt32 = v) (kk : Z C k n ws (pc + 1) L (.int v :: st)) : Z C k n ws pc L (.int x :: st) := by
  obtain ⟨⟨p, l, e, R, s, m, args, below, meth, c, Q⟩, G, A, H0, nL⟩ := C
  obtain ⟨hx, hb, hml, hown, hts, hK, hA, hR, hN⟩ := h
  intro H locs ls hP hD hS hl
  exact lv_i2b hx hb hd hv (kk H locs ls hP hD hS hl)
theorem z_i2s (h : zOk C cc own fr mc ms lo) {x v : Int32} (hd : decode cc pc = .ok (.i2s, 1)) (hv : x.toInt16.toInt32 = v) (kk : Z C k n ws (pc + 1) L (.int v :: st)) : Z C k n ws pc L (.int x :: st) := by
  obtain ⟨⟨p, l, e, R, s, m, args, below, meth, c, Q⟩, G, A, H0, nL⟩ := C
  obtain ⟨hx, hb, hml, hown, hts, hK, hA, hR, hN⟩ := h
  intro H locs ls hP hD hS hl
  exact lv_i2s hx hb hd hv (kk H locs ls hP hD hS hl)
theorem z_i2c (h : zOk C cc own fr mc ms lo) {x v : Int32} (hd : decode cc pc = .ok (.i2c, 1)) (hv : (x.toUInt32 % 65536).toInt32 = v) (kk : Z C k n ws (pc + 1) L (.int v :: st)) : Z C k n ws pc L (.int x :: st) := by
  obtain ⟨⟨p, l, e, R, s, m, args, below, meth, c, Q⟩, G, A, H0, nL⟩ := C
  obtain ⟨hx, hb, hml, hown, hts, hK, hA, hR, hN⟩ := h
  intro H locs ls hP hD hS hl
  exact lv_i2c hx hb hd hv (kk H locs ls hP hD hS hl)
theorem z_lcmp (h : zOk C cc own fr mc ms lo) {x y : Int64} (hd : decode cc pc = .ok (.lcmp, 1)) (kk : Z C k n ws (pc + 1) L (.int (lg_cmp x y) :: st)) : Z C k n ws pc L (.long y :: .long x :: st) := by
  obtain ⟨⟨p, l, e, R, s, m, args, below, meth, c, Q⟩, G, A, H0, nL⟩ := C
  obtain ⟨hx, hb, hml, hown, hts, hK, hA, hR, hN⟩ := h
  intro H locs ls hP hD hS hl
  exact W.lcmp hx hb hd (kk H locs ls hP hD hS hl)
theorem z_dup (h : zOk C cc own fr mc ms lo) {v : Value} (hd : decode cc pc = .ok (.dup, 1)) (hv : v.category = 1) (kk : Z C k n ws (pc + 1) L (v :: v :: st)) : Z C k n ws pc L (v :: st) := by
  obtain ⟨⟨p, l, e, R, s, m, args, below, meth, c, Q⟩, G, A, H0, nL⟩ := C
  obtain ⟨hx, hb, hml, hown, hts, hK, hA, hR, hN⟩ := h
  intro H locs ls hP hD hS hl
  exact lv_dup hx hb hd hv (kk H locs ls hP hD hS hl)
theorem z_dup2 (h : zOk C cc own fr mc ms lo) {v u : Value} (hd : decode cc pc = .ok (.dup2, 1)) (hv : v.category = 1) (hu : u.category = 1) (kk : Z C k n ws (pc + 1) L (v :: u :: v :: u :: st)) : Z C k n ws pc L (v :: u :: st) := by
  obtain ⟨⟨p, l, e, R, s, m, args, below, meth, c, Q⟩, G, A, H0, nL⟩ := C
  obtain ⟨hx, hb, hml, hown, hts, hK, hA, hR, hN⟩ := h
  intro H locs ls hP hD hS hl
  exact lv_dup2_11 hx hb hd hv hu (kk H locs ls hP hD hS hl)
theorem z_pop (h : zOk C cc own fr mc ms lo) {v : Value} (hd : decode cc pc = .ok (.pop, 1)) (hv : v.category = 1) (kk : Z C k n ws (pc + 1) L st) : Z C k n ws pc L (v :: st) := by
  obtain ⟨⟨p, l, e, R, s, m, args, below, meth, c, Q⟩, G, A, H0, nL⟩ := C
  obtain ⟨hx, hb, hml, hown, hts, hK, hA, hR, hN⟩ := h
  intro H locs ls hP hD hS hl
  exact lv_pop hx hb hd hv (kk H locs ls hP hD hS hl)
theorem z_goto (h : zOk C cc own fr mc ms lo) {off : Int} {tgt : Nat} (hd : decode cc pc = .ok (.goto off, 3)) (ht : (pc : Int) + off = (tgt : Int)) (kk : Z C k n ws tgt L st) : Z C k n ws pc L st := by
  obtain ⟨⟨p, l, e, R, s, m, args, below, meth, c, Q⟩, G, A, H0, nL⟩ := C
  obtain ⟨hx, hb, hml, hown, hts, hK, hA, hR, hN⟩ := h
  intro H locs ls hP hD hS hl
  exact lv_goto hx hb hd ht (kk H locs ls hP hD hS hl)
theorem z_icmp_eq (h : zOk C cc own fr mc ms lo) {x y : Int32} {off : Int} {tgt : Nat} (hd : decode cc pc = .ok (.if_icmp .eq off, 3)) (ht : (pc : Int) + off = (tgt : Int)) (kt : x = y → Z C k n ws tgt L st) (kf : ¬ x = y → Z C k n ws (pc + 3) L st) : Z C k n ws pc L (.int y :: .int x :: st) := by
  obtain ⟨⟨p, l, e, R, s, m, args, below, meth, c, Q⟩, G, A, H0, nL⟩ := C
  obtain ⟨hx, hb, hml, hown, hts, hK, hA, hR, hN⟩ := h
  intro H locs ls hP hD hS hl
  exact lv_icmp_eq hx hb hd ht (fun c => kt c H locs ls hP hD hS hl) (fun c => kf c H locs ls hP hD hS hl)
theorem z_if_eq (h : zOk C cc own fr mc ms lo) {x : Int32} {off : Int} {tgt : Nat} (hd : decode cc pc = .ok (.ifCond .eq off, 3)) (ht : (pc : Int) + off = (tgt : Int)) (kt : x = 0 → Z C k n ws tgt L st) (kf : ¬ x = 0 → Z C k n ws (pc + 3) L st) : Z C k n ws pc L (.int x :: st) := by
  obtain ⟨⟨p, l, e, R, s, m, args, below, meth, c, Q⟩, G, A, H0, nL⟩ := C
  obtain ⟨hx, hb, hml, hown, hts, hK, hA, hR, hN⟩ := h
  intro H locs ls hP hD hS hl
  exact lv_if_eq hx hb hd ht (fun c => kt c H locs ls hP hD hS hl) (fun c => kf c H locs ls hP hD hS hl)
theorem z_icmp_ne (h : zOk C cc own fr mc ms lo) {x y : Int32} {off : Int} {tgt : Nat} (hd : decode cc pc = .ok (.if_icmp .ne off, 3)) (ht : (pc : Int) + off = (tgt : Int)) (kt : ¬ x = y → Z C k n ws tgt L st) (kf : x = y → Z C k n ws (pc + 3) L st) : Z C k n ws pc L (.int y :: .int x :: st) := by
  obtain ⟨⟨p, l, e, R, s, m, args, below, meth, c, Q⟩, G, A, H0, nL⟩ := C
  obtain ⟨hx, hb, hml, hown, hts, hK, hA, hR, hN⟩ := h
  intro H locs ls hP hD hS hl
  exact lv_icmp_ne hx hb hd ht (fun c => kt c H locs ls hP hD hS hl) (fun c => kf c H locs ls hP hD hS hl)
theorem z_if_ne (h : zOk C cc own fr mc ms lo) {x : Int32} {off : Int} {tgt : Nat} (hd : decode cc pc = .ok (.ifCond .ne off, 3)) (ht : (pc : Int) + off = (tgt : Int)) (kt : ¬ x = 0 → Z C k n ws tgt L st) (kf : x = 0 → Z C k n ws (pc + 3) L st) : Z C k n ws pc L (.int x :: st) := by
  obtain ⟨⟨p, l, e, R, s, m, args, below, meth, c, Q⟩, G, A, H0, nL⟩ := C
  obtain ⟨hx, hb, hml, hown, hts, hK, hA, hR, hN⟩ := h
  intro H locs ls hP hD hS hl
  exact lv_if_ne hx hb hd ht (fun c => kt c H locs ls hP hD hS hl) (fun c => kf c H locs ls hP hD hS hl)
theorem z_icmp_lt (h : zOk C cc own fr mc ms lo) {x y : Int32} {off : Int} {tgt : Nat} (hd : decode cc pc = .ok (.if_icmp .lt off, 3)) (ht : (pc : Int) + off = (tgt : Int)) (kt : x < y → Z C k n ws tgt L st) (kf : ¬ x < y → Z C k n ws (pc + 3) L st) : Z C k n ws pc L (.int y :: .int x :: st) := by
  obtain ⟨⟨p, l, e, R, s, m, args, below, meth, c, Q⟩, G, A, H0, nL⟩ := C
  obtain ⟨hx, hb, hml, hown, hts, hK, hA, hR, hN⟩ := h
  intro H locs ls hP hD hS hl
  exact lv_icmp_lt hx hb hd ht (fun c => kt c H locs ls hP hD hS hl) (fun c => kf c H locs ls hP hD hS hl)
theorem z_if_lt (h : zOk C cc own fr mc ms lo) {x : Int32} {off : Int} {tgt : Nat} (hd : decode cc pc = .ok (.ifCond .lt off, 3)) (ht : (pc : Int) + off = (tgt : Int)) (kt : x < 0 → Z C k n ws tgt L st) (kf : ¬ x < 0 → Z C k n ws (pc + 3) L st) : Z C k n ws pc L (.int x :: st) := by
  obtain ⟨⟨p, l, e, R, s, m, args, below, meth, c, Q⟩, G, A, H0, nL⟩ := C
  obtain ⟨hx, hb, hml, hown, hts, hK, hA, hR, hN⟩ := h
  intro H locs ls hP hD hS hl
  exact lv_if_lt hx hb hd ht (fun c => kt c H locs ls hP hD hS hl) (fun c => kf c H locs ls hP hD hS hl)
theorem z_icmp_ge (h : zOk C cc own fr mc ms lo) {x y : Int32} {off : Int} {tgt : Nat} (hd : decode cc pc = .ok (.if_icmp .ge off, 3)) (ht : (pc : Int) + off = (tgt : Int)) (kt : y ≤ x → Z C k n ws tgt L st) (kf : ¬ y ≤ x → Z C k n ws (pc + 3) L st) : Z C k n ws pc L (.int y :: .int x :: st) := by
  obtain ⟨⟨p, l, e, R, s, m, args, below, meth, c, Q⟩, G, A, H0, nL⟩ := C
  obtain ⟨hx, hb, hml, hown, hts, hK, hA, hR, hN⟩ := h
  intro H locs ls hP hD hS hl
  exact lv_icmp_ge hx hb hd ht (fun c => kt c H locs ls hP hD hS hl) (fun c => kf c H locs ls hP hD hS hl)
theorem z_if_ge (h : zOk C cc own fr mc ms lo) {x : Int32} {off : Int} {tgt : Nat} (hd : decode cc pc = .ok (.ifCond .ge off, 3)) (ht : (pc : Int) + off = (tgt : Int)) (kt : 0 ≤ x → Z C k n ws tgt L st) (kf : ¬ 0 ≤ x → Z C k n ws (pc + 3) L st) : Z C k n ws pc L (.int x :: st) := by
  obtain ⟨⟨p, l, e, R, s, m, args, below, meth, c, Q⟩, G, A, H0, nL⟩ := C
  obtain ⟨hx, hb, hml, hown, hts, hK, hA, hR, hN⟩ := h
  intro H locs ls hP hD hS hl
  exact lv_if_ge hx hb hd ht (fun c => kt c H locs ls hP hD hS hl) (fun c => kf c H locs ls hP hD hS hl)
theorem z_icmp_gt (h : zOk C cc own fr mc ms lo) {x y : Int32} {off : Int} {tgt : Nat} (hd : decode cc pc = .ok (.if_icmp .gt off, 3)) (ht : (pc : Int) + off = (tgt : Int)) (kt : y < x → Z C k n ws tgt L st) (kf : ¬ y < x → Z C k n ws (pc + 3) L st) : Z C k n ws pc L (.int y :: .int x :: st) := by
  obtain ⟨⟨p, l, e, R, s, m, args, below, meth, c, Q⟩, G, A, H0, nL⟩ := C
  obtain ⟨hx, hb, hml, hown, hts, hK, hA, hR, hN⟩ := h
  intro H locs ls hP hD hS hl
  exact lv_icmp_gt hx hb hd ht (fun c => kt c H locs ls hP hD hS hl) (fun c => kf c H locs ls hP hD hS hl)
theorem z_if_gt (h : zOk C cc own fr mc ms lo) {x : Int32} {off : Int} {tgt : Nat} (hd : decode cc pc = .ok (.ifCond .gt off, 3)) (ht : (pc : Int) + off = (tgt : Int)) (kt : 0 < x → Z C k n ws tgt L st) (kf : ¬ 0 < x → Z C k n ws (pc + 3) L st) : Z C k n ws pc L (.int x :: st) := by
  obtain ⟨⟨p, l, e, R, s, m, args, below, meth, c, Q⟩, G, A, H0, nL⟩ := C
  obtain ⟨hx, hb, hml, hown, hts, hK, hA, hR, hN⟩ := h
  intro H locs ls hP hD hS hl
  exact lv_if_gt hx hb hd ht (fun c => kt c H locs ls hP hD hS hl) (fun c => kf c H locs ls hP hD hS hl)
theorem z_icmp_le (h : zOk C cc own fr mc ms lo) {x y : Int32} {off : Int} {tgt : Nat} (hd : decode cc pc = .ok (.if_icmp .le off, 3)) (ht : (pc : Int) + off = (tgt : Int)) (kt : x ≤ y → Z C k n ws tgt L st) (kf : ¬ x ≤ y → Z C k n ws (pc + 3) L st) : Z C k n ws pc L (.int y :: .int x :: st) := by
  obtain ⟨⟨p, l, e, R, s, m, args, below, meth, c, Q⟩, G, A, H0, nL⟩ := C
  obtain ⟨hx, hb, hml, hown, hts, hK, hA, hR, hN⟩ := h
  intro H locs ls hP hD hS hl
  exact lv_icmp_le hx hb hd ht (fun c => kt c H locs ls hP hD hS hl) (fun c => kf c H locs ls hP hD hS hl)
theorem z_if_le (h : zOk C cc own fr mc ms lo) {x : Int32} {off : Int} {tgt : Nat} (hd : decode cc pc = .ok (.ifCond .le off, 3)) (ht : (pc : Int) + off = (tgt : Int)) (kt : x ≤ 0 → Z C k n ws tgt L st) (kf : ¬ x ≤ 0 → Z C k n ws (pc + 3) L st) : Z C k n ws pc L (.int x :: st) := by
  obtain ⟨⟨p, l, e, R, s, m, args, below, meth, c, Q⟩, G, A, H0, nL⟩ := C
  obtain ⟨hx, hb, hml, hown, hts, hK, hA, hR, hN⟩ := h
  intro H locs ls hP hD hS hl
  exact lv_if_le hx hb hd ht (fun c => kt c H locs ls hP hD hS hl) (fun c => kf c H locs ls hP hD hS hl)
end ZR
section ZN
variable {C : zC} {cc : ByteArray} {own : String} {fr mc ms lo k n : Nat} {ws : va_W} {pc : Nat} {L : List (Nat × Value)} {st : List Value}
theorem zn_icmp_eq (h : zOk C cc own fr mc ms lo) {a b : Nat} {off : Int} {tgt : Nat} (hd : decode cc pc = .ok (.if_icmp .eq off, 3)) (ht : (pc : Int) + off = (tgt : Int)) (ha : a < 2 ^ 31) (hb : b < 2 ^ 31) (kt : a = b → Z C k n ws tgt L st) (kf : ¬ a = b → Z C k n ws (pc + 3) L st) : Z C k n ws pc L (.int (nI b) :: .int (nI a) :: st) := z_icmp_eq h hd ht (fun c => kt ((nI_eq ha hb).mp c)) (fun c => kf (fun d => c ((nI_eq ha hb).mpr d)))
theorem zn_if_eq (h : zOk C cc own fr mc ms lo) {a : Nat} {off : Int} {tgt : Nat} (hd : decode cc pc = .ok (.ifCond .eq off, 3)) (ht : (pc : Int) + off = (tgt : Int)) (ha : a < 2 ^ 31) (kt : a = 0 → Z C k n ws tgt L st) (kf : ¬ a = 0 → Z C k n ws (pc + 3) L st) : Z C k n ws pc L (.int (nI a) :: st) := by
  have hb : 0 < 2 ^ 31 := by decide
  refine z_if_eq h hd ht (fun c => ?_) (fun c => ?_)
  · rw [← nI_0] at c
    exact (fun c => kt ((nI_eq ha hb).mp c)) c
  · rw [← nI_0] at c
    exact (fun c => kf (fun d => c ((nI_eq ha hb).mpr d))) c
theorem zn_icmp_ne (h : zOk C cc own fr mc ms lo) {a b : Nat} {off : Int} {tgt : Nat} (hd : decode cc pc = .ok (.if_icmp .ne off, 3)) (ht : (pc : Int) + off = (tgt : Int)) (ha : a < 2 ^ 31) (hb : b < 2 ^ 31) (kt : ¬ a = b → Z C k n ws tgt L st) (kf : a = b → Z C k n ws (pc + 3) L st) : Z C k n ws pc L (.int (nI b) :: .int (nI a) :: st) := z_icmp_ne h hd ht (fun c => kt (fun d => c ((nI_eq ha hb).mpr d))) (fun c => kf ((nI_eq ha hb).mp c))
theorem zn_if_ne (h : zOk C cc own fr mc ms lo) {a : Nat} {off : Int} {tgt : Nat} (hd : decode cc pc = .ok (.ifCond .ne off, 3)) (ht : (pc : Int) + off = (tgt : Int)) (ha : a < 2 ^ 31) (kt : ¬ a = 0 → Z C k n ws tgt L st) (kf : a = 0 → Z C k n ws (pc + 3) L st) : Z C k n ws pc L (.int (nI a) :: st) := by
  have hb : 0 < 2 ^ 31 := by decide
  refine z_if_ne h hd ht (fun c => ?_) (fun c => ?_)
  · rw [← nI_0] at c
    exact (fun c => kt (fun d => c ((nI_eq ha hb).mpr d))) c
  · rw [← nI_0] at c
    exact (fun c => kf ((nI_eq ha hb).mp c)) c
theorem zn_icmp_lt (h : zOk C cc own fr mc ms lo) {a b : Nat} {off : Int} {tgt : Nat} (hd : decode cc pc = .ok (.if_icmp .lt off, 3)) (ht : (pc : Int) + off = (tgt : Int)) (ha : a < 2 ^ 31) (hb : b < 2 ^ 31) (kt : a < b → Z C k n ws tgt L st) (kf : ¬ a < b → Z C k n ws (pc + 3) L st) : Z C k n ws pc L (.int (nI b) :: .int (nI a) :: st) := z_icmp_lt h hd ht (fun c => kt ((nI_ltI ha hb).mp c)) (fun c => kf (fun d => c ((nI_ltI ha hb).mpr d)))
theorem zn_if_lt (h : zOk C cc own fr mc ms lo) {a : Nat} {off : Int} {tgt : Nat} (hd : decode cc pc = .ok (.ifCond .lt off, 3)) (ht : (pc : Int) + off = (tgt : Int)) (ha : a < 2 ^ 31) (kt : a < 0 → Z C k n ws tgt L st) (kf : ¬ a < 0 → Z C k n ws (pc + 3) L st) : Z C k n ws pc L (.int (nI a) :: st) := by
  have hb : 0 < 2 ^ 31 := by decide
  refine z_if_lt h hd ht (fun c => ?_) (fun c => ?_)
  · rw [← nI_0] at c
    exact (fun c => kt ((nI_ltI ha hb).mp c)) c
  · rw [← nI_0] at c
    exact (fun c => kf (fun d => c ((nI_ltI ha hb).mpr d))) c
theorem zn_icmp_ge (h : zOk C cc own fr mc ms lo) {a b : Nat} {off : Int} {tgt : Nat} (hd : decode cc pc = .ok (.if_icmp .ge off, 3)) (ht : (pc : Int) + off = (tgt : Int)) (ha : a < 2 ^ 31) (hb : b < 2 ^ 31) (kt : b ≤ a → Z C k n ws tgt L st) (kf : ¬ b ≤ a → Z C k n ws (pc + 3) L st) : Z C k n ws pc L (.int (nI b) :: .int (nI a) :: st) := z_icmp_ge h hd ht (fun c => kt ((nI_leI hb ha).mp c)) (fun c => kf (fun d => c ((nI_leI hb ha).mpr d)))
theorem zn_if_ge (h : zOk C cc own fr mc ms lo) {a : Nat} {off : Int} {tgt : Nat} (hd : decode cc pc = .ok (.ifCond .ge off, 3)) (ht : (pc : Int) + off = (tgt : Int)) (ha : a < 2 ^ 31) (kt : 0 ≤ a → Z C k n ws tgt L st) (kf : ¬ 0 ≤ a → Z C k n ws (pc + 3) L st) : Z C k n ws pc L (.int (nI a) :: st) := by
  have hb : 0 < 2 ^ 31 := by decide
  refine z_if_ge h hd ht (fun c => ?_) (fun c => ?_)
  · rw [← nI_0] at c
    exact (fun c => kt ((nI_leI hb ha).mp c)) c
  · rw [← nI_0] at c
    exact (fun c => kf (fun d => c ((nI_leI hb ha).mpr d))) c
theorem zn_icmp_gt (h : zOk C cc own fr mc ms lo) {a b : Nat} {off : Int} {tgt : Nat} (hd : decode cc pc = .ok (.if_icmp .gt off, 3)) (ht : (pc : Int) + off = (tgt : Int)) (ha : a < 2 ^ 31) (hb : b < 2 ^ 31) (kt : b < a → Z C k n ws tgt L st) (kf : ¬ b < a → Z C k n ws (pc + 3) L st) : Z C k n ws pc L (.int (nI b) :: .int (nI a) :: st) := z_icmp_gt h hd ht (fun c => kt ((nI_ltI hb ha).mp c)) (fun c => kf (fun d => c ((nI_ltI hb ha).mpr d)))
theorem zn_if_gt (h : zOk C cc own fr mc ms lo) {a : Nat} {off : Int} {tgt : Nat} (hd : decode cc pc = .ok (.ifCond .gt off, 3)) (ht : (pc : Int) + off = (tgt : Int)) (ha : a < 2 ^ 31) (kt : 0 < a → Z C k n ws tgt L st) (kf : ¬ 0 < a → Z C k n ws (pc + 3) L st) : Z C k n ws pc L (.int (nI a) :: st) := by
  have hb : 0 < 2 ^ 31 := by decide
  refine z_if_gt h hd ht (fun c => ?_) (fun c => ?_)
  · rw [← nI_0] at c
    exact (fun c => kt ((nI_ltI hb ha).mp c)) c
  · rw [← nI_0] at c
    exact (fun c => kf (fun d => c ((nI_ltI hb ha).mpr d))) c
theorem zn_icmp_le (h : zOk C cc own fr mc ms lo) {a b : Nat} {off : Int} {tgt : Nat} (hd : decode cc pc = .ok (.if_icmp .le off, 3)) (ht : (pc : Int) + off = (tgt : Int)) (ha : a < 2 ^ 31) (hb : b < 2 ^ 31) (kt : a ≤ b → Z C k n ws tgt L st) (kf : ¬ a ≤ b → Z C k n ws (pc + 3) L st) : Z C k n ws pc L (.int (nI b) :: .int (nI a) :: st) := z_icmp_le h hd ht (fun c => kt ((nI_leI ha hb).mp c)) (fun c => kf (fun d => c ((nI_leI ha hb).mpr d)))
theorem zn_if_le (h : zOk C cc own fr mc ms lo) {a : Nat} {off : Int} {tgt : Nat} (hd : decode cc pc = .ok (.ifCond .le off, 3)) (ht : (pc : Int) + off = (tgt : Int)) (ha : a < 2 ^ 31) (kt : a ≤ 0 → Z C k n ws tgt L st) (kf : ¬ a ≤ 0 → Z C k n ws (pc + 3) L st) : Z C k n ws pc L (.int (nI a) :: st) := by
  have hb : 0 < 2 ^ 31 := by decide
  refine z_if_le h hd ht (fun c => ?_) (fun c => ?_)
  · rw [← nI_0] at c
    exact (fun c => kt ((nI_leI ha hb).mp c)) c
  · rw [← nI_0] at c
    exact (fun c => kf (fun d => c ((nI_leI ha hb).mpr d))) c
end ZN
theorem zin {w : Cond} (h : w ∈ lw_tbl) (g : goodWord w = true) : w ∈ zts := List.mem_filter.mpr ⟨h, g⟩
theorem updN (φ : Nat → Nat) (j x : Nat) : upd (fN φ) j (nI x) = fN (va_up φ j x) := by
  funext i
  by_cases hi : i = j <;> simp [upd, va_up, fN, hi]
section ZF
variable {C : zC} {cc : ByteArray} {own : String} {fr mc ms lo k n : Nat} {ws : va_W} {pc : Nat} {L : List (Nat × Value)} {st : List Value}
theorem z_eq {ws' : va_W} (e : ws = ws') (kk : Z C k n ws' pc L st) : Z C k n ws pc L st := e ▸ kk
/-- the cells in another order, or a part of them -/
theorem z_sub (is : List Nat) {ws' : va_W} (hn : va_nd is = true) (hs : is.map (fun i => ws[i]?) = ws'.map some) (kk : Z C k n ws' pc L st) : Z C k n ws pc L st := by
  intro H locs ls hP hD hS hl
  refine kk H locs ls (fun j q hq => ?_) (hD.sub is hn hs) hS hl
  have h1 : (is.map (fun i => ws[i]?))[j]? = some (some q) := by rw [hs, List.getElem?_map, hq]; rfl
  rw [List.getElem?_map] at h1
  cases hi : is[j]? with
  | none => rw [hi] at h1; cases h1
  | some i => rw [hi] at h1; exact hP i q (Option.some.inj h1)
theorem z_lsub {L' : List (Nat × Value)} (ks : List Nat) (hl : lv_pick L ks = L') (kk : Z C k n ws pc L' st) : Z C k n ws pc L st := fun H locs ls hP hD hS h => kk H locs ls hP hD hS (lv_sub h ks hl)
theorem z_get (h : zOk C cc own fr mc ms lo) {ci : Nat} {Cn : String} {T : u_T} {N : Nat} {ty : Nat → FieldType} (F : zFc ci Cn T N ty) (q kf : Nat) {a idx : Nat} {fs : List Value} {v : Value} {ref : String} (he : ws[q]? = some (ob a ci fs)) (hv : fs[kf]? = some v) (hk : kf < N) (hl : Cond.fieldLink own idx ref (T kf).2.1 (T kf).2.2.1 ∈ zts) (hr : ref = (T kf).1) (hd : decode cc pc = .ok (.getfield idx, 3)) (kk : Z C k n ws (pc + 3) L (v :: st)) : Z C k n ws pc L (.ref a :: st) := by
  subst hr
  obtain ⟨⟨p, l, e, R, s, m, args, below, meth, c, Q⟩, G, A, H0, nL⟩ := C
  obtain ⟨hx, hb, hml, hown, hts, hK, hA, hR, hN⟩ := h
  intro H locs ls hP hD hS hll
  exact va_get hx hb hts F.2.1 hown hK hP q he F.1 kf hk (hts _ hl) (fun _ h9 => h9) hv hd (kk H locs ls hP hD hS hll)
theorem z_put (h : zOk C cc own fr mc ms lo) {ci : Nat} {Cn : String} {T : u_T} {N : Nat} {ty : Nat → FieldType} (F : zFc ci Cn T N ty) (q kf : Nat) {a idx : Nat} {fs : List Value} {v : Value} {ref : String} {ws' : va_W} (he : ws[q]? = some (ob a ci fs)) (hw : ws.set q (ob a ci (fs.set kf v)) = ws') (hk : kf < N) (hl : Cond.fieldLink own idx ref (T kf).2.1 (T kf).2.2.1 ∈ zts) (hr : ref = (T kf).1) (hfin : (T kf).2.2.2 = false) (hn : narrow (ty kf) v = v) (hfit : fits (ty kf) v = true) (hlen : Nat.ble (kf + 1) fs.length = true) (hd : decode cc pc = .ok (.putfield idx, 3)) (kk : Z C k n ws' (pc + 3) L st) : Z C k n ws pc L (v :: .ref a :: st) := by
  subst hr
  subst hw
  obtain ⟨⟨p, l, e, R, s, m, args, below, meth, c, Q⟩, G, A, H0, nL⟩ := C
  obtain ⟨hx, hb, hml, hown, hts, hK, hA, hR, hN⟩ := h
  intro H locs ls hP hD hS hll
  exact va_put hx hb hts F.2.1 ty F.2.2.1 F.2.2.2 hown hK hP hD hS q he F.1 kf hk (hts _ hl) (fun _ h9 => h9) hfin (F.2.2.1 kf hk) hn hfit (Nat.le_of_ble_eq_true hlen) hd (fun H1 locs1 hP1 hD1 hS1 => kk H1 locs1 ls hP1 hD1 hS1 hll)
/-- arrays: the index as a number -/
theorem z_iald (h : zOk C cc own fr mc ms lo) (q : Nat) {a N j : Nat} {f : Nat → Int32} {v : Int32} (he : ws[q]? = some (ia C.2.1 a N f)) (hj : j < N) (hN : N < 2 ^ 31) (hv : f j = v) (hd : decode cc pc = .ok (.iaload, 1)) (kk : Z C k n ws (pc + 1) L (.int v :: st)) : Z C k n ws pc L (.int (nI j) :: .ref a :: st) := by
  obtain ⟨⟨p, l, e, R, s, m, args, below, meth, c, Q⟩, G, A, H0, nL⟩ := C
  obtain ⟨hx, hb, hml, hown, hts, hK, hA, hR, hNN⟩ := h
  intro H locs ls hP hD hS hl
  refine va_iald hx hb hK hP q 1 he rfl (vp_in_nI hj hN) hd ?_
  rw [nI_clamp (Nat.lt_trans hj hN), hv]
  exact kk H locs ls hP hD hS hl
theorem z_cald (h : zOk C cc own fr mc ms lo) (q : Nat) {a N j : Nat} {f : Nat → Int32} {v : Int32} (he : ws[q]? = some (ca C.2.1 a N f)) (hj : j < N) (hN : N < 2 ^ 31) (hv : f j = v) (hd : decode cc pc = .ok (.caload, 1)) (kk : Z C k n ws (pc + 1) L (.int v :: st)) : Z C k n ws pc L (.int (nI j) :: .ref a :: st) := by
  obtain ⟨⟨p, l, e, R, s, m, args, below, meth, c, Q⟩, G, A, H0, nL⟩ := C
  obtain ⟨hx, hb, hml, hown, hts, hK, hA, hR, hNN⟩ := h
  intro H locs ls hP hD hS hl
  refine va_cald hx hb hK hP q 0 he rfl (vp_in_nI hj hN) hd ?_
  rw [nI_clamp (Nat.lt_trans hj hN), hv]
  exact kk H locs ls hP hD hS hl
theorem z_lald (h : zOk C cc own fr mc ms lo) (q : Nat) {a N j : Nat} {f : Nat → Int64} {v : Int64} (he : ws[q]? = some (la C.2.1 a N f)) (hj : j < N) (hN : N < 2 ^ 31) (hv : f j = v) (hd : decode cc pc = .ok (.laload, 1)) (kk : Z C k n ws (pc + 1) L (.long v :: st)) : Z C k n ws pc L (.int (nI j) :: .ref a :: st) := by
  obtain ⟨⟨p, l, e, R, s, m, args, below, meth, c, Q⟩, G, A, H0, nL⟩ := C
  obtain ⟨hx, hb, hml, hown, hts, hK, hA, hR, hNN⟩ := h
  intro H locs ls hP hD hS hl
  refine va_lald hx hb hK hP q 2 he rfl (vp_in_nI hj hN) hd ?_
  rw [nI_clamp (Nat.lt_trans hj hN), hv]
  exact kk H locs ls hP hD hS hl
theorem z_mald (h : zOk C cc own fr mc ms lo) (q : Nat) {a N j b : Nat} {f : Nat → Option Nat} (he : ws[q]? = some (ma C.2.1 a N f)) (hj : j < N) (hN : N < 2 ^ 31) (hv : f j = some b) (hd : decode cc pc = .ok (.aaload, 1)) (kk : Z C k n ws (pc + 1) L (.ref b :: st)) : Z C k n ws pc L (.int (nI j) :: .ref a :: st) := by
  obtain ⟨⟨p, l, e, R, s, m, args, below, meth, c, Q⟩, G, A, H0, nL⟩ := C
  obtain ⟨hx, hb, hml, hown, hts, hK, hA, hR, hNN⟩ := h
  intro H locs ls hP hD hS hl
  refine va_aldq hx hb hK hP q 3 he rfl (vp_in_nI hj hN) hd ?_
  rw [nI_clamp (Nat.lt_trans hj hN), hv]
  exact kk H locs ls hP hD hS hl
theorem z_sald (h : zOk C cc own fr mc ms lo) (q : Nat) {a N j b : Nat} {f : Nat → Option Nat} (he : ws[q]? = some (sa C.2.1 a N f)) (hj : j < N) (hN : N < 2 ^ 31) (hv : f j = some b) (hd : decode cc pc = .ok (.aaload, 1)) (kk : Z C k n ws (pc + 1) L (.ref b :: st)) : Z C k n ws pc L (.int (nI j) :: .ref a :: st) := by
  obtain ⟨⟨p, l, e, R, s, m, args, below, meth, c, Q⟩, G, A, H0, nL⟩ := C
  obtain ⟨hx, hb, hml, hown, hts, hK, hA, hR, hNN⟩ := h
  intro H locs ls hP hD hS hl
  refine va_aldq hx hb hK hP q 4 he rfl (vp_in_nI hj hN) hd ?_
  rw [nI_clamp (Nat.lt_trans hj hN), hv]
  exact kk H locs ls hP hD hS hl
theorem z_iast (h : zOk C cc own fr mc ms lo) (q : Nat) {a N j : Nat} {f f' : Nat → Int32} {v : Int32} {ws' : va_W} (he : ws[q]? = some (ia C.2.1 a N f)) (hj : j < N) (hN : N < 2 ^ 31) (hf : upd f j v = f') (hw : ws.set q (ia C.2.1 a N f') = ws') (hd : decode cc pc = .ok (.iastore, 1)) (kk : Z C k n ws' (pc + 1) L st) : Z C k n ws pc L (.int v :: .int (nI j) :: .ref a :: st) := by
  subst hf
  subst hw
  obtain ⟨⟨p, l, e, R, s, m, args, below, meth, c, Q⟩, G, A, H0, nL⟩ := C
  obtain ⟨hx, hb, hml, hown, hts, hK, hA, hR, hNN⟩ := h
  intro H locs ls hP hD hS hl
  refine va_iast hx hb hK hP hD hS q 1 he rfl (vp_in_nI hj hN) hd (fun H1 locs1 hP1 hD1 hS1 => ?_)
  rw [nI_clamp (Nat.lt_trans hj hN)] at hP1 hD1
  exact kk H1 locs1 ls hP1 hD1 hS1 hl
theorem z_cast (h : zOk C cc own fr mc ms lo) (q : Nat) {a N j : Nat} {f f' : Nat → Int32} {v : Int32} {ws' : va_W} (he : ws[q]? = some (ca C.2.1 a N f)) (hj : j < N) (hN : N < 2 ^ 31) (hv : vp_nar .char v = v) (hf : upd f j v = f') (hw : ws.set q (ca C.2.1 a N f') = ws') (hd : decode cc pc = .ok (.castore, 1)) (kk : Z C k n ws' (pc + 1) L st) : Z C k n ws pc L (.int v :: .int (nI j) :: .ref a :: st) := by
  subst hf
  subst hw
  obtain ⟨⟨p, l, e, R, s, m, args, below, meth, c, Q⟩, G, A, H0, nL⟩ := C
  obtain ⟨hx, hb, hml, hown, hts, hK, hA, hR, hNN⟩ := h
  intro H locs ls hP hD hS hl
  refine va_cast hx hb hK hP hD hS q 0 he rfl (vp_in_nI hj hN) hd (fun H1 locs1 hP1 hD1 hS1 => ?_)
  rw [nI_clamp (Nat.lt_trans hj hN), hv] at hP1 hD1
  exact kk H1 locs1 ls hP1 hD1 hS1 hl
theorem z_last (h : zOk C cc own fr mc ms lo) (q : Nat) {a N j : Nat} {f f' : Nat → Int64} {v : Int64} {ws' : va_W} (he : ws[q]? = some (la C.2.1 a N f)) (hj : j < N) (hN : N < 2 ^ 31) (hf : vp_updL f j v = f') (hw : ws.set q (la C.2.1 a N f') = ws') (hd : decode cc pc = .ok (.lastore, 1)) (kk : Z C k n ws' (pc + 1) L st) : Z C k n ws pc L (.long v :: .int (nI j) :: .ref a :: st) := by
  subst hf
  subst hw
  obtain ⟨⟨p, l, e, R, s, m, args, below, meth, c, Q⟩, G, A, H0, nL⟩ := C
  obtain ⟨hx, hb, hml, hown, hts, hK, hA, hR, hNN⟩ := h
  intro H locs ls hP hD hS hl
  refine va_last hx hb hK hP hD hS q 2 he rfl (vp_in_nI hj hN) hd (fun H1 locs1 hP1 hD1 hS1 => ?_)
  rw [nI_clamp (Nat.lt_trans hj hN)] at hP1 hD1
  exact kk H1 locs1 ls hP1 hD1 hS1 hl
/-- an int array whose places below its length are the same is the same cell -/
theorem z_iext (q : Nat) {a N : Nat} {f f' : Nat → Int32} {ws' : va_W} (he : ws[q]? = some (ia C.2.1 a N f)) (hf : ∀ j, j < N → f j = f' j) (hw : ws.set q (ia C.2.1 a N f') = ws') (kk : Z C k n ws' pc L st) : Z C k n ws pc L st := by
  subst hw
  intro H locs ls hP hD hS hl
  have hat := hP q _ he
  have e2 : vp_cell C.2.1.2.2.1 (N, .inl f) = vp_cell C.2.1.2.2.1 (N, .inl f') := by
    rw [vp_cell_i, vp_cell_i]
    simp only [arrV]
    congr 1
    apply Array.ext
    · simp
    · intro i h1 h2
      simp at h1 h2 ⊢
      exact hf i h1
  refine kk H locs ls ?_ (hD.set he) hS hl
  exact hP.set hD he (show H[a]? = some (vp_cell _ _) by rw [← e2]; exact hat) (fun _ _ => rfl)
end ZF

