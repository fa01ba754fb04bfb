def zPre (G : zG) (sz : Nat) (wc : va_W) (U : State) : Prop := U.heap.size = sz ∧ va_P G.1 vwCl wc U.heap ∧ va_K G.1 vwCl (zT G) U ∧ va_D (fun _ => True) wc ∧ zN U
def zB (G : zG) (sz : Nat) (wc w1 : va_W) (t : State) : Prop := va_P G.1 vwCl w1 t.heap ∧ va_D (va_A wc sz) w1
/-- contracts: method y from the cells wc with the arguments av, its answer and new cells by post, w1 -/
def zMi (l : Launch) (G : zG) (y : MethodName) (cc : ByteArray) (nL : Nat) (rt : FieldType) (fr mc ms lo : Nat) (av : List Value) (wc : va_W) {S : Type} (post : Int32 → S → Prop) (w1 : S → va_W) : Prop :=
  ∀ sz : Nat, Met l y (Cond.code y cc nL (some rt) :: zts) ⟨fr, mc, ms, lo⟩ (va_Pc av (zPre G sz wc)) (va_Qi post (fun u t => zB G sz wc (w1 u) t) (va_A wc sz)) mc ms (va_A wc sz)
def zMl (l : Launch) (G : zG) (y : MethodName) (cc : ByteArray) (nL : Nat) (fr mc ms lo : Nat) (av : List Value) (wc : va_W) {S : Type} (post : Int64 → S → Prop) (w1 : S → va_W) : Prop :=
  ∀ sz : Nat, Met l y (Cond.code y cc nL (some .long) :: zts) ⟨fr, mc, ms, lo⟩ (va_Pc av (zPre G sz wc)) (va_Ql post (fun u t => zB G sz wc (w1 u) t) (va_A wc sz)) mc ms (va_A wc sz)
def zMv (l : Launch) (G : zG) (y : MethodName) (cc : ByteArray) (nL : Nat) (fr mc ms lo : Nat) (av : List Value) (wc : va_W) {S : Type} (post : S → Prop) (w1 : S → va_W) : Prop :=
  ∀ sz : Nat, Met l y (Cond.code y cc nL none :: zts) ⟨fr, mc, ms, lo⟩ (va_Pc av (zPre G sz wc)) (va_Qv post (fun u t => zB G sz wc (w1 u) t) (va_A wc sz)) mc ms (va_A wc sz)
theorem zMi.of {l : Launch} {G : zG} {y : MethodName} {cc : ByteArray} {nL : Nat} {rt : FieldType} {fr mc ms lo : Nat} {av : List Value} {wc : va_W} {S : Type} {post : Int32 → S → Prop} {w1 : S → va_W} (hy : plainName y.cls = true) (hle : Nat.ble (lg_sl av).length nL = true)
    (body : ∀ (X : zX) (A : Nat → Prop) (H0 : Heap), zOk (X, G, A, H0, nL) cc y.cls fr mc ms lo → X.2.1 = l → (∀ (r : Int32) (u : S) (pc : Nat) (L : List (Nat × Value)), post r u → decode cc pc = .ok (.ireturn, 1) → narrow rt (.int r) = .int r → Z (X, G, A, H0, nL) mc ms (w1 u) pc L [.int r]) → Z (X, G, A, H0, nL) 0 0 wc 0 (lv_args 0 av) []) : zMi l G y cc nL rt fr mc ms lo av wc post w1 := by
  intro sz
  refine Met.ofW (cc := cc) (maxL := nL) (ret := some rt) hy rfl ?_
  intro p e s m args below meth c s₁ B hml hv
  obtain ⟨rfl, hsz, hP, hK, hD0, hN⟩ := hv
  have hx := B.exec
  have hb := B.bytes
  have hr := B.returns
  have hts := atoms_spec (ws := Cond.code y cc nL (some rt) :: zts) B.pre
  have hown : s.vm.findClass y.cls = some m.cls := findClass_of_methodNamed B.named
  have hlocks := B.notSynchronized
  subst hsz
  rw [lg_entry_eq]
  refine body (p, l, e, ⟨fr, mc, ms, lo⟩, s, m, av.toArray, below, meth, c, _) (va_A wc s.heap.size) s.heap ⟨hx, hb, hml, hown, fun w hw => hts w (List.mem_cons_of_mem _ hw), hK, fun q h => Or.inr h, rfl, hN⟩ rfl ?_ s.heap [] _ hP hD0.self va_S.rf (lv_entry av (Nat.le_of_ble_eq_true hle))
  intro r u pc L hp hd hn H locs ls hP1 hD1 hS1 hl1
  exact W.zret hx hb hr hn (fun t ht hW => ⟨⟨r, u, rfl, hp, by rw [ht]; exact hP1, hD1⟩, hS1.F ht⟩) hS1.2.2 hd
theorem zMl.of {l : Launch} {G : zG} {y : MethodName} {cc : ByteArray} {nL : Nat} {fr mc ms lo : Nat} {av : List Value} {wc : va_W} {S : Type} {post : Int64 → S → Prop} {w1 : S → va_W} (hy : plainName y.cls = true) (hle : Nat.ble (lg_sl av).length nL = true)
    (body : ∀ (X : zX) (A : Nat → Prop) (H0 : Heap), zOk (X, G, A, H0, nL) cc y.cls fr mc ms lo → X.2.1 = l → (∀ (r : Int64) (u : S) (pc : Nat) (L : List (Nat × Value)), post r u → decode cc pc = .ok (.lreturn, 1) → Z (X, G, A, H0, nL) mc ms (w1 u) pc L [.long r]) → Z (X, G, A, H0, nL) 0 0 wc 0 (lv_args 0 av) []) : zMl l G y cc nL fr mc ms lo av wc post w1 := by
  intro sz
  refine Met.ofW (cc := cc) (maxL := nL) (ret := some .long) hy rfl ?_
  intro p e s m args below meth c s₁ B hml hv
  obtain ⟨rfl, hsz, hP, hK, hD0, hN⟩ := hv
  have hx := B.exec
  have hb := B.bytes
  have hr := B.returns
  have hts := atoms_spec (ws := Cond.code y cc nL (some .long) :: zts) B.pre
  have hown : s.vm.findClass y.cls = some m.cls := findClass_of_methodNamed B.named
  have hlocks := B.notSynchronized
  subst hsz
  rw [lg_entry_eq]
  refine body (p, l, e, ⟨fr, mc, ms, lo⟩, s, m, av.toArray, below, meth, c, _) (va_A wc s.heap.size) s.heap ⟨hx, hb, hml, hown, fun w hw => hts w (List.mem_cons_of_mem _ hw), hK, fun q h => Or.inr h, rfl, hN⟩ rfl ?_ s.heap [] _ hP hD0.self va_S.rf (lv_entry av (Nat.le_of_ble_eq_true hle))
  intro r u pc L hp hd H locs ls hP1 hD1 hS1 hl1
  exact W.lret hx hb hr (fun t ht hW => ⟨⟨r, u, rfl, hp, by rw [ht]; exact hP1, hD1⟩, hS1.F ht⟩) hS1.2.2 hd
theorem zMv.of {l : Launch} {G : zG} {y : MethodName} {cc : ByteArray} {nL : Nat} {fr mc ms lo : Nat} {av : List Value} {wc : va_W} {S : Type} {post : S → Prop} {w1 : S → va_W} (hy : plainName y.cls = true) (hle : Nat.ble (lg_sl av).length nL = true)
    (body : ∀ (X : zX) (A : Nat → Prop) (H0 : Heap), zOk (X, G, A, H0, nL) cc y.cls fr mc ms lo → X.2.1 = l → X.2.2.2.2.2.2.2.2.1.name = y.name → (∀ (u : S) (pc : Nat) (L : List (Nat × Value)), post u → decode cc pc = .ok (.return_, 1) → Z (X, G, A, H0, nL) mc ms (w1 u) pc L []) → Z (X, G, A, H0, nL) 0 0 wc 0 (lv_args 0 av) []) : zMv l G y cc nL fr mc ms lo av wc post w1 := by
  intro sz
  refine Met.ofW (cc := cc) (maxL := nL) (ret := none) hy rfl ?_
  intro p e s m args below meth c s₁ B hml hv
  obtain ⟨rfl, hsz, hP, hK, hD0, hN⟩ := hv
  have hx := B.exec
  have hb := B.bytes
  have hr := B.returns
  have hts := atoms_spec (ws := Cond.code y cc nL none :: zts) B.pre
  have hown : s.vm.findClass y.cls = some m.cls := findClass_of_methodNamed B.named
  have hlocks := B.notSynchronized
  subst hsz
  rw [lg_entry_eq]
  refine body (p, l, e, ⟨fr, mc, ms, lo⟩, s, m, av.toArray, below, meth, c, _) (va_A wc s.heap.size) s.heap ⟨hx, hb, hml, hown, fun w hw => hts w (List.mem_cons_of_mem _ hw), hK, fun q h => Or.inr h, rfl, hN⟩ rfl (name_of_methodNamed B.named B.method).1 ?_ s.heap [] _ hP hD0.self va_S.rf (lv_entry av (Nat.le_of_ble_eq_true hle))
  intro u pc L hp hd H locs ls hP1 hD1 hS1 hl1
  exact W.vret hx hb hr (fun t ht hW => ⟨⟨u, rfl, hp, by rw [ht]; exact hP1, hD1⟩, hS1.F ht⟩) hS1.2.2 hd
/-- what a call needs of the tables -/
def zLB (y : MethodName) (bytes : ByteArray) (maxL : Nat) (ret : Option FieldType) (n : Nat) : Prop := Cond.initialized y.cls ∈ zts ∧ Cond.code y bytes maxL ret ∈ zts ∧ (y.cls ≠ "java/lang/invoke/MethodHandle" ∧ y.cls ≠ "java/lang/invoke/VarHandle" ∧ (parseMethodDescriptor y.desc).map (fun d => d.parameters.length) = some n)
def zLV (y : MethodName) (bytes : ByteArray) (maxL : Nat) (ret : Option FieldType) (n : Nat) : Prop := zLB y bytes maxL ret n ∧ Cond.instanceMethod y ∈ zts ∧ Cond.selects y.cls y y ∈ zts
def zLS (y : MethodName) (bytes : ByteArray) (maxL : Nat) (ret : Option FieldType) (n : Nat) : Prop := zLB y bytes maxL ret n ∧ Cond.static y ∈ zts
theorem zPre.blind {G : zG} {sz : Nat} {av : List Value} {wc : va_W} : FrameBlind (va_Pc av (zPre G sz wc)) := fun a U g mk q => by
  obtain ⟨q0, q1, qP, qK, qD, qN⟩ := q
  exact ⟨q0, q1, qP, va_K.moved (u := U) (U := U.calling g mk a) (Vm.Alike.refl U.vm) qK, qD, zN.same rfl qN⟩
section ZQ
variable {C : zC} {cc : ByteArray} {own : String} {fr mcR msR lo k n : Nat} {ws : va_W} {pc : Nat} {L : List (Nat × Value)} {st st0 : List Value}
/-- a call's cells, cut out and put back: isC where the callee's cells stand, isR the others, isZ the order behind it -/
def zCut (ws wc wr : va_W) {S : Type} (w1 wz : S → va_W) (isC isR isZ : List Nat) : Prop := isC.map (fun i => ws[i]?) = wc.map some ∧ isR.map (fun i => ws[i]?) = wr.map some ∧ (va_nd isR && va_nd isC && va_nd isZ && isR.all (fun i => !isC.contains i)) = true ∧ ∀ u, isZ.map (fun i => (wr ++ w1 u)[i]?) = (wz u).map some
theorem zCut.pick {a b : va_W} {is : List Nat} (hs : is.map (fun i => a[i]?) = b.map some) {D : va_G} {cl : List vw_C} {H : Heap} (h : va_P D cl a H) : va_P D cl b H := by
  intro j q hq
  have h1 : (is.map (fun i => a[i]?))[j]? = some (some q) := by rw [hs, List.getElem?_map, hq]; rfl
  rw [List.getElem?_map] at h1
  cases hi : is[j]? with
  | none => rw [hi] at h1; cases h1
  | some i => rw [hi] at h1; exact h i q (Option.some.inj h1)
theorem zCut.nd {ws wc wr : va_W} {S : Type} {w1 wz : S → va_W} {isC isR isZ : List Nat} (h : zCut ws wc wr w1 wz isC isR isZ) : va_nd isR = true ∧ va_nd isC = true ∧ va_nd isZ = true ∧ ∀ i ∈ isR, i ∉ isC := by
  have h3 := h.2.2.1
  simp only [Bool.and_eq_true] at h3
  refine ⟨h3.1.1.1, h3.1.1.2, h3.1.2, fun i hi hc => ?_⟩
  have h4 := List.all_eq_true.mp h3.2 i hi
  simp [hc] at h4
theorem zCut.back {ws wc wr : va_W} {S : Type} {w1 wz : S → va_W} {isC isR isZ : List Nat} (h : zCut ws wc wr w1 wz isC isR isZ) {D : va_G} {A0 : Nat → Prop} {H H1 : Heap} (hP : va_P D vwCl ws H) (hD : va_D A0 ws) (hk : ∀ q : Nat, q < H.size → ¬ va_A wc H.size q → H1[q]? = H[q]?) (hF : ∀ q, va_A wc H.size q → A0 q) {u : S} (hP1 : va_P D vwCl (w1 u) H1) (hD1 : va_D (va_A wc H.size) (w1 u)) : va_P D vwCl (wz u) H1 ∧ va_D A0 (wz u) := by
  obtain ⟨n1, n2, n3, n4⟩ := h.nd
  obtain ⟨a, b⟩ := va_join hP hD isC isR h.1 h.2.1 n1 n4 hk hF hP1 hD1
  exact ⟨zCut.pick (h.2.2.2 u) a, b.sub isZ n3 (h.2.2.2 u)⟩
theorem zLB.callB {p : Program} {m : MethodId} {y : MethodName} {bytes : ByteArray} {maxL : Nat} {ret : Option FieldType} {nA : Nat} (hB : zLB y bytes maxL ret nA) {R : Room} {s : State} {args : Array Value} {idx : Nat} {fr' mc ms lo' : Nat} (hts : ∀ w ∈ zts, w.before args s = true) (hl : Cond.methodLink own idx y ∈ zts) (hR : fr' + 1 ≤ R.frames ∧ 19 + maxL + lo' ≤ R.locals) : CallB R s args own idx y bytes maxL ret (Cond.code y bytes maxL ret :: zts) ⟨fr', mc, ms, lo'⟩ mc ms nA :=
  callB_of nA hts (zts_sub hB.2.1 fun _ h => h) rfl rfl rfl (hts _ hB.1) (hts _ hl) hB.2.2 ⟨hR.1, by show 8 + (maxL + 11) + lo' ≤ _; omega⟩
theorem z_callVi (h : zOk C cc own fr mcR msR lo) {S : Type} {post : Int32 → S → Prop} {w1 : S → va_W} {y : MethodName} {bytes : ByteArray} {maxL idx nA b : Nat} {rt : FieldType} {fr' mc ms lo' : Nat} {As : List Value} {wc : va_W} (ct : zMi C.1.2.1 C.2.1 y bytes maxL rt fr' mc ms lo' (.ref b :: As) wc post w1) (kb : zLV y bytes maxL (some rt) nA) (kl : Cond.methodLink own idx y ∈ zts) (wz : S → va_W) {wr : va_W} (isC isR isZ : List Nat) (hcut : zCut ws wc wr w1 wz isC isR isZ) (q0 : Nat) {ci : Nat} {fs : List Value} {T : u_T} {N : Nat} (hq : wc[q0]? = some (ob b ci fs)) (hci : vwCl[ci]? = some (y.cls, T, N)) (hnA : As.length = nA) (hRm : (Nat.ble (fr' + 1) fr && Nat.ble (19 + maxL + lo') lo && Nat.ble ((st.map fun v => v.category).sum) 8) = true) (hcs : k + mc ≤ mcR ∧ n + ms ≤ msR) (hd : decode cc pc = .ok (.invokevirtual idx, 3)) (hst : st0 = As.reverse ++ .ref b :: st) (kk : ∀ (r : Int32) (u : S), post r u → Z C (k + mc) (n + ms) (wz u) (pc + 3) L (.int r :: st)) : Z C k n ws pc L st0 := by
  subst hst
  obtain ⟨⟨p, l, e, R, s, m, args, below, meth, c, Q⟩, G, A, H0, nL⟩ := C
  obtain ⟨hx, hb, hml, hown, hts, hK, hA, hR, hN⟩ := h
  intro H locs ls hP hD hS hl
  subst hR
  simp only [Bool.and_eq_true] at hRm
  obtain ⟨⟨r1, r2⟩, r3⟩ := hRm
  have hPc : va_P G.1 vwCl wc H := zCut.pick hcut.1 hP
  have hDc := hD.sub isC hcut.nd.2.1 hcut.1
  have hFc := va_free (wc := wc) hD hS hA isC hcut.1
  refine va_calli (va_runV (As := As) (rest := st) (g := F0 m pc ls (As.reverse ++ .ref b :: st)) ⟨hx, hb, hml, hown, hts⟩ (ct H.size) ⟨zLB.callB (p := p) (m := m) kb.1 hts kl ⟨Nat.le_of_ble_eq_true r1, Nat.le_of_ble_eq_true r2⟩, hts _ kb.2.1, hts _ kb.2.2⟩ ⟨zPre.blind, va_recv hK hPc hci hq, fun U hU hW => ⟨rfl, by rw [hU], by rw [hU]; exact hPc, va_K.moved hW.alike hK, hDc.weaken (fun _ _ _ _ => trivial), hN.warm hW⟩⟩ rfl hnA hl.1 rfl (lv_room (Nat.le_of_ble_eq_true r3)) hd hcs) hS (fun q _ h => hFc q h) hFc (fun r u t H1 locs1 ht hvm hw hB hz1 hk1 hS1 => ?_)
  obtain ⟨hP1, hD1⟩ := hB
  rw [ht] at hP1
  obtain ⟨hP2, hD2⟩ := hcut.back hP hD hk1 hFc hP1 hD1
  exact kk r u hw H1 locs1 ls hP2 hD2 hS1 hl
theorem z_callVv (h : zOk C cc own fr mcR msR lo) {S : Type} {post : S → Prop} {w1 : S → va_W} {y : MethodName} {bytes : ByteArray} {maxL idx nA b : Nat} {fr' mc ms lo' : Nat} {As : List Value} {wc : va_W} (ct : zMv C.1.2.1 C.2.1 y bytes maxL fr' mc ms lo' (.ref b :: As) wc post w1) (kb : zLV y bytes maxL none nA) (kl : Cond.methodLink own idx y ∈ zts) (wz : S → va_W) {wr : va_W} (isC isR isZ : List Nat) (hcut : zCut ws wc wr w1 wz isC isR isZ) (q0 : Nat) {ci : Nat} {fs : List Value} {T : u_T} {N : Nat} (hq : wc[q0]? = some (ob b ci fs)) (hci : vwCl[ci]? = some (y.cls, T, N)) (hnA : As.length = nA) (hRm : (Nat.ble (fr' + 1) fr && Nat.ble (19 + maxL + lo') lo && Nat.ble ((st.map fun v => v.category).sum) 8) = true) (hcs : k + mc ≤ mcR ∧ n + ms ≤ msR) (hd : decode cc pc = .ok (.invokevirtual idx, 3)) (hst : st0 = As.reverse ++ .ref b :: st) (kk : ∀ (u : S), post u → Z C (k + mc) (n + ms) (wz u) (pc + 3) L st) : Z C k n ws pc L st0 := by
  subst hst
  obtain ⟨⟨p, l, e, R, s, m, args, below, meth, c, Q⟩, G, A, H0, nL⟩ := C
  obtain ⟨hx, hb, hml, hown, hts, hK, hA, hR, hN⟩ := h
  intro H locs ls hP hD hS hl
  subst hR
  simp only [Bool.and_eq_true] at hRm
  obtain ⟨⟨r1, r2⟩, r3⟩ := hRm
  have hPc : va_P G.1 vwCl wc H := zCut.pick hcut.1 hP
  have hDc := hD.sub isC hcut.nd.2.1 hcut.1
  have hFc := va_free (wc := wc) hD hS hA isC hcut.1
  refine va_callv (va_runV (As := As) (rest := st) (g := F0 m pc ls (As.reverse ++ .ref b :: st)) ⟨hx, hb, hml, hown, hts⟩ (ct H.size) ⟨zLB.callB (p := p) (m := m) kb.1 hts kl ⟨Nat.le_of_ble_eq_true r1, Nat.le_of_ble_eq_true r2⟩, hts _ kb.2.1, hts _ kb.2.2⟩ ⟨zPre.blind, va_recv hK hPc hci hq, fun U hU hW => ⟨rfl, by rw [hU], by rw [hU]; exact hPc, va_K.moved hW.alike hK, hDc.weaken (fun _ _ _ _ => trivial), hN.warm hW⟩⟩ rfl hnA hl.1 rfl (lv_room (Nat.le_of_ble_eq_true r3)) hd hcs) hS (fun q _ h => hFc q h) hFc (fun u t H1 locs1 ht hvm hw hB hz1 hk1 hS1 => ?_)
  obtain ⟨hP1, hD1⟩ := hB
  rw [ht] at hP1
  obtain ⟨hP2, hD2⟩ := hcut.back hP hD hk1 hFc hP1 hD1
  exact kk u hw H1 locs1 ls hP2 hD2 hS1 hl
theorem z_callSi (h : zOk C cc own fr mcR msR lo) {S : Type} {post : Int32 → S → Prop} {w1 : S → va_W} {y : MethodName} {bytes : ByteArray} {maxL idx nA : Nat} {rt : FieldType} {fr' mc ms lo' : Nat} {As : List Value} {wc : va_W} (ct : zMi C.1.2.1 C.2.1 y bytes maxL rt fr' mc ms lo' As wc post w1) (kb : zLS y bytes maxL (some rt) nA) (kl : Cond.methodLink own idx y ∈ zts) (wz : S → va_W) {wr : va_W} (isC isR isZ : List Nat) (hcut : zCut ws wc wr w1 wz isC isR isZ) (hnA : As.length = nA) (hRm : (Nat.ble (fr' + 1) fr && Nat.ble (19 + maxL + lo') lo && Nat.ble ((st.map fun v => v.category).sum) 8) = true) (hcs : k + mc ≤ mcR ∧ n + ms ≤ msR) (hd : decode cc pc = .ok (.invokestatic idx, 3)) (hst : st0 = As.reverse ++ st) (kk : ∀ (r : Int32) (u : S), post r u → Z C (k + mc) (n + ms) (wz u) (pc + 3) L (.int r :: st)) : Z C k n ws pc L st0 := by
  subst hst
  obtain ⟨⟨p, l, e, R, s, m, args, below, meth, c, Q⟩, G, A, H0, nL⟩ := C
  obtain ⟨hx, hb, hml, hown, hts, hK, hA, hR, hN⟩ := h
  intro H locs ls hP hD hS hl
  subst hR
  simp only [Bool.and_eq_true] at hRm
  obtain ⟨⟨r1, r2⟩, r3⟩ := hRm
  have hPc : va_P G.1 vwCl wc H := zCut.pick hcut.1 hP
  have hDc := hD.sub isC hcut.nd.2.1 hcut.1
  have hFc := va_free (wc := wc) hD hS hA isC hcut.1
  refine va_calli (va_runS (As := As) (rest := st) (g := F0 m pc ls (As.reverse ++ st)) ⟨hx, hb, hml, hown, hts⟩ (ct H.size) ⟨zLB.callB (p := p) (m := m) kb.1 hts kl ⟨Nat.le_of_ble_eq_true r1, Nat.le_of_ble_eq_true r2⟩, hts _ kb.2⟩ ⟨zPre.blind, fun U hU hW => ⟨rfl, by rw [hU], by rw [hU]; exact hPc, va_K.moved hW.alike hK, hDc.weaken (fun _ _ _ _ => trivial), hN.warm hW⟩⟩ rfl hnA hl.1 rfl (lv_room (Nat.le_of_ble_eq_true r3)) hd hcs) hS (fun q _ h => hFc q h) hFc (fun r u t H1 locs1 ht hvm hw hB hz1 hk1 hS1 => ?_)
  obtain ⟨hP1, hD1⟩ := hB
  rw [ht] at hP1
  obtain ⟨hP2, hD2⟩ := hcut.back hP hD hk1 hFc hP1 hD1
  exact kk r u hw H1 locs1 ls hP2 hD2 hS1 hl
theorem z_callSl (h : zOk C cc own fr mcR msR lo) {S : Type} {post : Int64 → S → Prop} {w1 : S → va_W} {y : MethodName} {bytes : ByteArray} {maxL idx nA : Nat} {fr' mc ms lo' : Nat} {As : List Value} {wc : va_W} (ct : zMl C.1.2.1 C.2.1 y bytes maxL fr' mc ms lo' As wc post w1) (kb : zLS y bytes maxL (some .long) nA) (kl : Cond.methodLink own idx y ∈ zts) (wz : S → va_W) {wr : va_W} (isC isR isZ : List Nat) (hcut : zCut ws wc wr w1 wz isC isR isZ) (hnA : As.length = nA) (hRm : (Nat.ble (fr' + 1) fr && Nat.ble (19 + maxL + lo') lo && Nat.ble ((st.map fun v => v.category).sum) 8) = true) (hcs : k + mc ≤ mcR ∧ n + ms ≤ msR) (hd : decode cc pc = .ok (.invokestatic idx, 3)) (hst : st0 = As.reverse ++ st) (kk : ∀ (r : Int64) (u : S), post r u → Z C (k + mc) (n + ms) (wz u) (pc + 3) L (.long r :: st)) : Z C k n ws pc L st0 := by
  subst hst
  obtain ⟨⟨p, l, e, R, s, m, args, below, meth, c, Q⟩, G, A, H0, nL⟩ := C
  obtain ⟨hx, hb, hml, hown, hts, hK, hA, hR, hN⟩ := h
  intro H locs ls hP hD hS hl
  subst hR
  simp only [Bool.and_eq_true] at hRm
  obtain ⟨⟨r1, r2⟩, r3⟩ := hRm
  have hPc : va_P G.1 vwCl wc H := zCut.pick hcut.1 hP
  have hDc := hD.sub isC hcut.nd.2.1 hcut.1
  have hFc := va_free (wc := wc) hD hS hA isC hcut.1
  refine va_calll (va_runS (As := As) (rest := st) (g := F0 m pc ls (As.reverse ++ st)) ⟨hx, hb, hml, hown, hts⟩ (ct H.size) ⟨zLB.callB (p := p) (m := m) kb.1 hts kl ⟨Nat.le_of_ble_eq_true r1, Nat.le_of_ble_eq_true r2⟩, hts _ kb.2⟩ ⟨zPre.blind, fun U hU hW => ⟨rfl, by rw [hU], by rw [hU]; exact hPc, va_K.moved hW.alike hK, hDc.weaken (fun _ _ _ _ => trivial), hN.warm hW⟩⟩ rfl hnA hl.1 rfl (lv_room (Nat.le_of_ble_eq_true r3)) hd hcs) hS (fun q _ h => hFc q h) hFc (fun r u t H1 locs1 ht hvm hw hB hz1 hk1 hS1 => ?_)
  obtain ⟨hP1, hD1⟩ := hB
  rw [ht] at hP1
  obtain ⟨hP2, hD2⟩ := hcut.back hP hD hk1 hFc hP1 hD1
  exact kk r u hw H1 locs1 ls hP2 hD2 hS1 hl
/-- a private static method of the outer class -/
theorem z_callNi (h : zOk C cc own fr mcR msR lo) {S : Type} {post : Int32 → S → Prop} {w1 : S → va_W} {y : MethodName} {bytes : ByteArray} {maxL idx nA : Nat} {rt : FieldType} {host : String} {fr' mc ms lo' : Nat} {As : List Value} {wc : va_W} (ct : zMi C.1.2.1 C.2.1 y bytes maxL rt fr' mc ms lo' As wc post w1) (kb : zLS y bytes maxL (some rt) nA) (kl : ∀ U : State, zN U → va_Nw (.methodLinkNest own idx y host) U) (wz : S → va_W) {wr : va_W} (isC isR isZ : List Nat) (hcut : zCut ws wc wr w1 wz isC isR isZ) (hnA : As.length = nA) (hRm : (Nat.ble (fr' + 1) fr && Nat.ble (19 + maxL + lo') lo && Nat.ble ((st.map fun v => v.category).sum) 8) = true) (hcs : k + mc ≤ mcR ∧ n + ms ≤ msR) (hd : decode cc pc = .ok (.invokestatic idx, 3)) (hst : st0 = As.reverse ++ st) (kk : ∀ (r : Int32) (u : S), post r u → Z C (k + mc) (n + ms) (wz u) (pc + 3) L (.int r :: st)) : Z C k n ws pc L st0 := by
  subst hst
  obtain ⟨⟨p, l, e, R, s, m, args, below, meth, c, Q⟩, G, A, H0, nL⟩ := C
  obtain ⟨hx, hb, hml, hown, hts, hK, hA, hR, hN⟩ := h
  intro H locs ls hP hD hS hl
  subst hR
  simp only [Bool.and_eq_true] at hRm
  obtain ⟨⟨r1, r2⟩, r3⟩ := hRm
  have hPc : va_P G.1 vwCl wc H := zCut.pick hcut.1 hP
  have hDc := hD.sub isC hcut.nd.2.1 hcut.1
  have hFc := va_free (wc := wc) hD hS hA isC hcut.1
  have r2' := Nat.le_of_ble_eq_true r2
  refine va_calli (va_runSN (As := As) (rest := st) (g := F0 m pc ls (As.reverse ++ st)) ⟨hx, hb, hml, hown, hts⟩ (ct H.size) ⟨va_cnB nA hts (zts_sub kb.1.2.1 fun _ h => h) rfl rfl rfl (kl s hN) (hts _ kb.1.1) kb.1.2.2 ⟨Nat.le_of_ble_eq_true r1, by show 8 + (maxL + 11) + lo' ≤ _; dsimp only; omega⟩, hts _ kb.2, trivial⟩ ⟨zPre.blind, fun U hU hW => ⟨rfl, by rw [hU], by rw [hU]; exact hPc, va_K.moved hW.alike hK, hDc.weaken (fun _ _ _ _ => trivial), hN.warm hW⟩⟩ rfl hnA hl.1 rfl (lv_room (Nat.le_of_ble_eq_true r3)) hd hcs) hS (fun q _ h => hFc q h) hFc (fun r u t H1 locs1 ht hvm hw hB hz1 hk1 hS1 => ?_)
  obtain ⟨hP1, hD1⟩ := hB
  rw [ht] at hP1
  obtain ⟨hP2, hD2⟩ := hcut.back hP hD hk1 hFc hP1 hD1
  exact kk r u hw H1 locs1 ls hP2 hD2 hS1 hl
end ZQ
