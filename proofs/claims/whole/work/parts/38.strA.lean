/-! STRINGS: the text of the KINDS' letters, carried by contracts of a kind of their own -/
def zSt (A : Nat → Prop) (q t : Nat) (U : State) : Prop := vk_R RX4 70 "wcbdt" q U ∧ vk_S 1 [5] [[119, 99, 98, 100, 116]] (fun _ => q) (fun _ => t) A U U.heap ∧ va_Z RJ0 "COMPACT_STRINGS" "Z" (.int 1) A U U.heap
theorem zSt.go {A B : Nat → Prop} {q t : Nat} {s U : State} {H : Heap} {locs : List Loc} (h : zSt A q t s) (hS : va_S A s.heap H locs) (hU : U.heap = H) (hW : s.WarmedH U.vm) (hAB : ∀ a, B a → A a) : zSt B q t U := by
  obtain ⟨h1, h2, h3⟩ := h
  refine ⟨h1.warm hW, ?_, ?_⟩
  · rw [hU]
    exact vk_S.narrow (vk_S.moved hW.alike (vk_S.kept h2 hS.2.1)) hAB
  · rw [hU]
    exact va_Z.narrow (va_Z.moved hW.alike (va_Z.kept h3 hS.2.1)) hAB
def zPreS (G : zG) (sz : Nat) (wc : va_W) (q t : Nat) (U : State) : Prop := zPre G sz wc U ∧ zSt (va_A wc sz) q t U
theorem zPreS.blind {G : zG} {sz q t : Nat} {av : List Value} {wc : va_W} : FrameBlind (va_Pc av (zPreS G sz wc q t)) := fun a U g mk h => by
  obtain ⟨q0, hp, hT⟩ := h
  obtain ⟨q1, qP, qK, qD, qN⟩ := hp
  exact ⟨q0, ⟨q1, qP, va_K.moved (u := U) (U := U.calling g mk a) (Vm.Alike.refl U.vm) qK, qD, zN.same rfl qN⟩, hT.1.same rfl, vk_S.moved (u := U) (U := U.calling g mk a) (Vm.Alike.refl U.vm) hT.2.1, va_Z.moved (u := U) (U := U.calling g mk a) (Vm.Alike.refl U.vm) hT.2.2⟩
def zSMi (l : Launch) (G : zG) (q t : Nat) (y : MethodName) (cc : ByteArray) (nL : Nat) (rt : FieldType) (fr mc ms lo : Nat) (av : List Value) (wc : va_W) {S : Type} (post : Int32 → S → Prop) (w1 : S → va_W) : Prop :=
  ∀ sz : Nat, Met l y (Cond.code y cc nL (some rt) :: zts) ⟨fr, mc, ms, lo⟩ (va_Pc av (zPreS G sz wc q t)) (va_Qi post (fun u t => zB G sz wc (w1 u) t) (va_A wc sz)) mc ms (va_A wc sz)
def zSo (C : zC) (q t : Nat) : Prop := match C with
  | ((_, _, _, _, s, _, _, _, _, _, _), _, A, H0, _) => s.heap = H0 ∧ zSt A q t s
theorem zSMi.of {l : Launch} {G : zG} {q t : Nat} {y : MethodName} {cc : ByteArray} {nL : Nat} {rt : FieldType} {fr mc ms lo : Nat} {av : List Value} {wc : va_W} {S : Type} {post : Int32 → S → Prop} {w1 : S → va_W} (hy : plainName y.cls = true) (hle : Nat.ble (lg_sl av).length nL = true)
    (body : ∀ (X : zX) (A : Nat → Prop) (H0 : Heap), zOk (X, G, A, H0, nL) cc y.cls fr mc ms lo → X.2.1 = l → zSo (X, G, A, H0, nL) q t → (∀ (r : Int32) (u : S) (pc : Nat) (L : List (Nat × Value)), post r u → decode cc pc = .ok (.ireturn, 1) → narrow rt (.int r) = .int r → Z (X, G, A, H0, nL) mc ms (w1 u) pc L [.int r]) → Z (X, G, A, H0, nL) 0 0 wc 0 (lv_args 0 av) [])   : zSMi l G q t y cc nL rt fr mc ms lo av wc post w1 := by
  intro sz
  refine Met.ofW (cc := cc) (maxL := nL) (ret := some rt) hy rfl ?_
  intro p e s m args below meth c s₁ B hml hv
  obtain ⟨rfl, ⟨hsz, hP, hK, hD0, hN⟩, hT⟩ := hv
  have hx := B.exec
  have hb := B.bytes
  have hr := B.returns
  have hts := atoms_spec (ws := Cond.code y cc nL (some rt) :: zts) B.pre
  have hown : s.vm.findClass y.cls = some m.cls := findClass_of_methodNamed B.named
  have hlocks := B.notSynchronized
  subst hsz
  rw [lg_entry_eq]
  refine body (p, l, e, ⟨fr, mc, ms, lo⟩, s, m, av.toArray, below, meth, c, _) (va_A wc s.heap.size) s.heap ⟨hx, hb, hml, hown, fun w hw => hts w (List.mem_cons_of_mem _ hw), hK, fun q h => Or.inr h, rfl, hN⟩ rfl ⟨rfl, hT⟩ ?_ s.heap [] _ hP hD0.self va_S.rf (lv_entry av (Nat.le_of_ble_eq_true hle))
  intro r u pc L hp hd hn H locs ls hP1 hD1 hS1 hl1
  exact W.zret hx hb hr hn (fun t ht hW => ⟨⟨r, u, rfl, hp, by rw [ht]; exact hP1, hD1⟩, hS1.F ht⟩) hS1.2.2 hd
section ZS
variable {C : zC} {cc : ByteArray} {own : String} {fr mcR msR lo k n : Nat} {ws : va_W} {pc : Nat} {L : List (Nat × Value)} {st st0 : List Value}

theorem z_ldcS (h : zOk C cc RX4 fr mcR msR lo) {q9 t9 : Nat} (hT : zSo C q9 t9) (hd : decode cc pc = .ok (.ldc 70, 2)) (kk : Z C k n ws (pc + 2) L (.ref q9 :: st)) : Z C k n ws pc L st := by
  obtain ⟨⟨p, l, e, R, s, m, args, below, meth, c, Q⟩, G, A, H0, nL⟩ := C
  obtain ⟨hx, hb, hml, hown, hts, hK, hA, hR, hN⟩ := h
  obtain ⟨hs0, hT⟩ := hT
  subst hs0
  intro H locs ls hP hD hS hl
  exact va_ldcS hx hb hown hT.1 hd (kk H locs ls hP hD hS hl)
theorem z_getCS (h : zOk C cc RJ0 fr mcR msR lo) {q9 t9 : Nat} (hT : zSo C q9 t9) {idx : Nat} (hl9 : Cond.fieldLink RJ0 idx RJ0 "COMPACT_STRINGS" "Z" ∈ zts) (hd : decode cc pc = .ok (.getstatic idx, 3)) (kk : Z C k n ws (pc + 3) L (.int (nI 1) :: st)) : Z C k n ws pc L st := by
  obtain ⟨⟨p, l, e, R, s, m, args, below, meth, c, Q⟩, G, A, H0, nL⟩ := C
  obtain ⟨hx, hb, hml, hown, hts, hK, hA, hR, hN⟩ := h
  obtain ⟨hs0, hT⟩ := hT
  subst hs0
  intro H locs ls hP hD hS hl
  exact va_gets hx hb hT.2.2 hS hown (hts _ hl9) (fun _ h9 => h9) hd (kk H locs ls hP hD hS hl)
theorem z_getSc (h : zOk C cc RJ0 fr mcR msR lo) {q9 t9 : Nat} (hT : zSo C q9 t9) {idx : Nat} (hl9 : Cond.fieldLink RJ0 idx RJ0 "coder" "B" ∈ zts) (hd : decode cc pc = .ok (.getfield idx, 3)) (kk : Z C k n ws (pc + 3) L (.int (nI 0) :: st)) : Z C k n ws pc L (.ref q9 :: st) := by
  obtain ⟨⟨p, l, e, R, s, m, args, below, meth, c, Q⟩, G, A, H0, nL⟩ := C
  obtain ⟨hx, hb, hml, hown, hts, hK, hA, hR, hN⟩ := h
  obtain ⟨hs0, hT⟩ := hT
  subst hs0
  intro H locs ls hP hD hS hl
  exact vk_getf hx hb ((hT.2.1.1 0 (by decide)).2.1) hS hown (hts _ hl9) (fun _ h9 => h9) hd (kk H locs ls hP hD hS hl)
theorem z_getSv (h : zOk C cc RJ0 fr mcR msR lo) {q9 t9 : Nat} (hT : zSo C q9 t9) {idx : Nat} (hl9 : Cond.fieldLink RJ0 idx RJ0 "value" "[B" ∈ zts) (hd : decode cc pc = .ok (.getfield idx, 3)) (kk : Z C k n ws (pc + 3) L (.ref t9 :: st)) : Z C k n ws pc L (.ref q9 :: st) := by
  obtain ⟨⟨p, l, e, R, s, m, args, below, meth, c, Q⟩, G, A, H0, nL⟩ := C
  obtain ⟨hx, hb, hml, hown, hts, hK, hA, hR, hN⟩ := h
  obtain ⟨hs0, hT⟩ := hT
  subst hs0
  intro H locs ls hP hD hS hl
  exact vk_getf hx hb ((hT.2.1.1 0 (by decide)).2.2.1) hS hown (hts _ hl9) (fun _ h9 => h9) hd (kk H locs ls hP hD hS hl)
theorem z_slen (h : zOk C cc own fr mcR msR lo) {q9 t9 : Nat} (hT : zSo C q9 t9) (hd : decode cc pc = .ok (.arraylength, 1)) (kk : Z C k n ws (pc + 1) L (.int (nI 5) :: st)) : Z C k n ws pc L (.ref t9 :: st) := by
  obtain ⟨⟨p, l, e, R, s, m, args, below, meth, c, Q⟩, G, A, H0, nL⟩ := C
  obtain ⟨hx, hb, hml, hown, hts, hK, hA, hR, hN⟩ := h
  obtain ⟨hs0, hT⟩ := hT
  subst hs0
  intro H locs ls hP hD hS hl
  exact va_tlen hx hb ((hT.2.1.1 0 (by decide)).2.2.2) hS (by decide) hd (kk H locs ls hP hD hS hl)
theorem z_sbal (h : zOk C cc own fr mcR msR lo) {q9 t9 : Nat} (hT : zSo C q9 t9) {j v : Nat} (hj : j < 5) (hv : ([119, 99, 98, 100, 116] : List Int32).getD j 0 = nI v) (hd : decode cc pc = .ok (.baload, 1)) (kk : Z C k n ws (pc + 1) L (.int (nI v) :: st)) : Z C k n ws pc L (.int (nI j) :: .ref t9 :: st) := by
  obtain ⟨⟨p, l, e, R, s, m, args, below, meth, c, Q⟩, G, A, H0, nL⟩ := C
  obtain ⟨hx, hb, hml, hown, hts, hK, hA, hR, hN⟩ := h
  obtain ⟨hs0, hT⟩ := hT
  subst hs0
  intro H locs ls hP hD hS hl
  exact va_tb hx hb ((hT.2.1.1 0 (by decide)).2.2.2) hS (vp_in_nI (show j < [5].getD 0 0 from hj) (by decide)) (by rw [nI_clamp (by omega)]; exact congrArg Value.int hv) hd (kk H locs ls hP hD hS hl)
theorem z_scallVi (h : zOk C cc own fr mcR msR lo) {q9 t9 : Nat} (hT : zSo C q9 t9) {S : Type} {post : Int32 → S → Prop} {w1 : S → va_W} {y : MethodName} {bytes : ByteArray} {maxL idx nA b : Nat} {rt : FieldType} {fr' mc ms lo' : Nat} {As : List Value} {wc : va_W} (ct : zSMi C.1.2.1 C.2.1 q9 t9 y bytes maxL rt fr' mc ms lo' (.ref b :: As) wc post w1) (kb : zLV y bytes maxL (some rt) nA) (kl : Cond.methodLink own idx y ∈ zts) (wz : S → va_W) {wr : va_W} (isC isR isZ : List Nat) (hcut : zCut ws wc wr w1 wz isC isR isZ) (q0 : Nat) {ci : Nat} {fs : List Value} {T : u_T} {N : Nat} (hq : wc[q0]? = some (ob b ci fs)) (hci : vwCl[ci]? = some (y.cls, T, N)) (hnA : As.length = nA) (hRm : (Nat.ble (fr' + 1) fr && Nat.ble (19 + maxL + lo') lo && Nat.ble ((st.map fun v => v.category).sum) 8) = true) (hcs : k + mc ≤ mcR ∧ n + ms ≤ msR) (hd : decode cc pc = .ok (.invokevirtual idx, 3)) (hst : st0 = As.reverse ++ .ref b :: st) (kk : ∀ (r : Int32) (u : S), post r u → Z C (k + mc) (n + ms) (wz u) (pc + 3) L (.int r :: st)) : Z C k n ws pc L st0 := by
  subst hst
  obtain ⟨⟨p, l, e, R, s, m, args, below, meth, c, Q⟩, G, A, H0, nL⟩ := C
  obtain ⟨hx, hb, hml, hown, hts, hK, hA, hR, hN⟩ := h
  obtain ⟨hs0, hT⟩ := hT
  subst hs0
  intro H locs ls hP hD hS hl
  subst hR
  simp only [Bool.and_eq_true] at hRm
  obtain ⟨⟨r1, r2⟩, r3⟩ := hRm
  have hPc : va_P G.1 vwCl wc H := zCut.pick hcut.1 hP
  have hDc := hD.sub isC hcut.nd.2.1 hcut.1
  have hFc := va_free (wc := wc) hD hS hA isC hcut.1
  refine va_calli (va_runV (As := As) (rest := st) (g := F0 m pc ls (As.reverse ++ .ref b :: st)) ⟨hx, hb, hml, hown, hts⟩ (ct H.size) ⟨zLB.callB (p := p) (m := m) kb.1 hts kl ⟨Nat.le_of_ble_eq_true r1, Nat.le_of_ble_eq_true r2⟩, hts _ kb.2.1, hts _ kb.2.2⟩ ⟨zPreS.blind, va_recv hK hPc hci hq, fun U hU hW => ⟨rfl, ⟨by rw [hU], by rw [hU]; exact hPc, va_K.moved hW.alike hK, hDc.weaken (fun _ _ _ _ => trivial), hN.warm hW⟩, hT.go hS hU hW hFc⟩⟩ rfl hnA hl.1 rfl (lv_room (Nat.le_of_ble_eq_true r3)) hd hcs) hS (fun q _ h => hFc q h) hFc (fun r u t H1 locs1 ht hvm hw hB hz1 hk1 hS1 => ?_)
  obtain ⟨hP1, hD1⟩ := hB
  rw [ht] at hP1
  obtain ⟨hP2, hD2⟩ := hcut.back hP hD hk1 hFc hP1 hD1
  exact kk r u hw H1 locs1 ls hP2 hD2 hS1 hl
theorem z_scallSi (h : zOk C cc own fr mcR msR lo) {q9 t9 : Nat} (hT : zSo C q9 t9) {S : Type} {post : Int32 → S → Prop} {w1 : S → va_W} {y : MethodName} {bytes : ByteArray} {maxL idx nA : Nat} {rt : FieldType} {fr' mc ms lo' : Nat} {As : List Value} {wc : va_W} (ct : zSMi C.1.2.1 C.2.1 q9 t9 y bytes maxL rt fr' mc ms lo' As wc post w1) (kb : zLS y bytes maxL (some rt) nA) (kl : Cond.methodLink own idx y ∈ zts) (wz : S → va_W) {wr : va_W} (isC isR isZ : List Nat) (hcut : zCut ws wc wr w1 wz isC isR isZ) (hnA : As.length = nA) (hRm : (Nat.ble (fr' + 1) fr && Nat.ble (19 + maxL + lo') lo && Nat.ble ((st.map fun v => v.category).sum) 8) = true) (hcs : k + mc ≤ mcR ∧ n + ms ≤ msR) (hd : decode cc pc = .ok (.invokestatic idx, 3)) (hst : st0 = As.reverse ++ st) (kk : ∀ (r : Int32) (u : S), post r u → Z C (k + mc) (n + ms) (wz u) (pc + 3) L (.int r :: st)) : Z C k n ws pc L st0 := by
  subst hst
  obtain ⟨⟨p, l, e, R, s, m, args, below, meth, c, Q⟩, G, A, H0, nL⟩ := C
  obtain ⟨hx, hb, hml, hown, hts, hK, hA, hR, hN⟩ := h
  obtain ⟨hs0, hT⟩ := hT
  subst hs0
  intro H locs ls hP hD hS hl
  subst hR
  simp only [Bool.and_eq_true] at hRm
  obtain ⟨⟨r1, r2⟩, r3⟩ := hRm
  have hPc : va_P G.1 vwCl wc H := zCut.pick hcut.1 hP
  have hDc := hD.sub isC hcut.nd.2.1 hcut.1
  have hFc := va_free (wc := wc) hD hS hA isC hcut.1
  refine va_calli (va_runS (As := As) (rest := st) (g := F0 m pc ls (As.reverse ++ st)) ⟨hx, hb, hml, hown, hts⟩ (ct H.size) ⟨zLB.callB (p := p) (m := m) kb.1 hts kl ⟨Nat.le_of_ble_eq_true r1, Nat.le_of_ble_eq_true r2⟩, hts _ kb.2⟩ ⟨zPreS.blind, fun U hU hW => ⟨rfl, ⟨by rw [hU], by rw [hU]; exact hPc, va_K.moved hW.alike hK, hDc.weaken (fun _ _ _ _ => trivial), hN.warm hW⟩, hT.go hS hU hW hFc⟩⟩ rfl hnA hl.1 rfl (lv_room (Nat.le_of_ble_eq_true r3)) hd hcs) hS (fun q _ h => hFc q h) hFc (fun r u t H1 locs1 ht hvm hw hB hz1 hk1 hS1 => ?_)
  obtain ⟨hP1, hD1⟩ := hB
  rw [ht] at hP1
  obtain ⟨hP2, hD2⟩ := hcut.back hP hD hk1 hFc hP1 hD1
  exact kk r u hw H1 locs1 ls hP2 hD2 hS1 hl
theorem z_scallKi (h : zOk C cc own fr mcR msR lo) {q9 t9 : Nat} (hT : zSo C q9 t9) {S : Type} {post : Int32 → S → Prop} {w1 : S → va_W} {y : MethodName} {bytes : ByteArray} {maxL idx nA : Nat} {rt : FieldType} {fr' mc ms lo' : Nat} {As : List Value} {wc : va_W} (ct : zSMi C.1.2.1 C.2.1 q9 t9 y bytes maxL rt fr' mc ms lo' (.ref q9 :: As) wc post w1) (kb : zLV y bytes maxL (some rt) nA) (kl : Cond.methodLink own idx y ∈ zts) (wz : S → va_W) {wr : va_W} (isC isR isZ : List Nat) (hcut : zCut ws wc wr w1 wz isC isR isZ) (hyc : y.cls = RJ0) (hnA : As.length = nA) (hRm : (Nat.ble (fr' + 1) fr && Nat.ble (19 + maxL + lo') lo && Nat.ble ((st.map fun v => v.category).sum) 8) = true) (hcs : k + mc ≤ mcR ∧ n + ms ≤ msR) (hd : decode cc pc = .ok (.invokevirtual idx, 3)) (hst : st0 = As.reverse ++ .ref q9 :: st) (kk : ∀ (r : Int32) (u : S), post r u → Z C (k + mc) (n + ms) (wz u) (pc + 3) L (.int r :: st)) : Z C k n ws pc L st0 := by
  subst hst
  obtain ⟨⟨p, l, e, R, s, m, args, below, meth, c, Q⟩, G, A, H0, nL⟩ := C
  obtain ⟨hx, hb, hml, hown, hts, hK, hA, hR, hN⟩ := h
  obtain ⟨hs0, hT⟩ := hT
  subst hs0
  intro H locs ls hP hD hS hl
  subst hR
  simp only [Bool.and_eq_true] at hRm
  obtain ⟨⟨r1, r2⟩, r3⟩ := hRm
  have hPc : va_P G.1 vwCl wc H := zCut.pick hcut.1 hP
  have hDc := hD.sub isC hcut.nd.2.1 hcut.1
  have hFc := va_free (wc := wc) hD hS hA isC hcut.1
  refine va_calli (va_runV (As := As) (rest := st) (g := F0 m pc ls (As.reverse ++ .ref q9 :: st)) ⟨hx, hb, hml, hown, hts⟩ (ct H.size) ⟨zLB.callB (p := p) (m := m) kb.1 hts kl ⟨Nat.le_of_ble_eq_true r1, Nat.le_of_ble_eq_true r2⟩, hts _ kb.2.1, hts _ kb.2.2⟩ ⟨zPreS.blind, hyc ▸ vk_recv hT.2.1 (i := 0) (by decide) hS, fun U hU hW => ⟨rfl, ⟨by rw [hU], by rw [hU]; exact hPc, va_K.moved hW.alike hK, hDc.weaken (fun _ _ _ _ => trivial), hN.warm hW⟩, hT.go hS hU hW hFc⟩⟩ rfl hnA hl.1 rfl (lv_room (Nat.le_of_ble_eq_true r3)) hd hcs) hS (fun q _ h => hFc q h) hFc (fun r u t H1 locs1 ht hvm hw hB hz1 hk1 hS1 => ?_)
  obtain ⟨hP1, hD1⟩ := hB
  rw [ht] at hP1
  obtain ⟨hP2, hD2⟩ := hcut.back hP hD hk1 hFc hP1 hD1
  exact kk r u hw H1 locs1 ls hP2 hD2 hS1 hl
end ZS
theorem fl_J0_38 : Cond.fieldLink RJ0 38 RJ0 "COMPACT_STRINGS" "Z" ∈ zts := zin (List.mem_of_getElem? (i := 378) (by decide +kernel)) rfl
theorem fl_J0_15 : Cond.fieldLink RJ0 15 RJ0 "coder" "B" ∈ zts := zin (List.mem_of_getElem? (i := 1075) (by decide +kernel)) rfl
theorem fl_J0_9 : Cond.fieldLink RJ0 9 RJ0 "value" "[B" ∈ zts := zin (List.mem_of_getElem? (i := 1076) (by decide +kernel)) rfl
theorem ml_J0_633 : Cond.methodLink RJ0 633 yJ0_indexOf_7cf53 ∈ zts := zin (List.mem_of_getElem? (i := 370) (by decide +kernel)) rfl
theorem ml_J0_492 : Cond.methodLink RJ0 492 yJ0_isLatin1_aae02 ∈ zts := zin (List.mem_of_getElem? (i := 374) (by decide +kernel)) rfl
theorem ml_J0_505 : Cond.methodLink RJ0 505 yJ0_length_8abf5 ∈ zts := zin (List.mem_of_getElem? (i := 380) (by decide +kernel)) rfl
theorem ml_J0_335 : Cond.methodLink RJ0 335 yJ0_coder_7d493 ∈ zts := zin (List.mem_of_getElem? (i := 384) (by decide +kernel)) rfl
theorem ml_J0_637 : Cond.methodLink RJ0 637 yJ1_indexOf_4cfef ∈ zts := zin (List.mem_of_getElem? (i := 388) (by decide +kernel)) rfl
theorem ml_J1_88 : Cond.methodLink RJ1 88 yJ1_canEncode_9a6ad ∈ zts := zin (List.mem_of_getElem? (i := 391) (by decide +kernel)) rfl
theorem ml_J1_92 : Cond.methodLink RJ1 92 Lib.Math.max.name ∈ zts := zin (List.mem_of_getElem? (i := 394) (by decide +kernel)) rfl
theorem ml_J1_38 : Cond.methodLink RJ1 38 Lib.Math.min.name ∈ zts := zin (List.mem_of_getElem? (i := 395) (by decide +kernel)) rfl
theorem ml_J1_95 : Cond.methodLink RJ1 95 yJ1_indexOfChar_4cfef ∈ zts := zin (List.mem_of_getElem? (i := 398) (by decide +kernel)) rfl
theorem ii_J0 : Cond.initialized RJ0 ∈ zts := zin (List.mem_of_getElem? (i := 60) (by decide +kernel)) rfl
theorem ii_J1 : Cond.initialized RJ1 ∈ zts := zin (List.mem_of_getElem? (i := 61) (by decide +kernel)) rfl
set_option maxRecDepth 100000 in
theorem lb_J0_indexOf_0f7a4 : zLV yJ0_indexOf_0f7a4 cJ0_indexOf_0f7a4 2 (some .int) 1 := ⟨⟨ii_J0, zin (List.mem_of_getElem? (i := 369) rfl) rfl, by decide +kernel, by decide +kernel, by decide +kernel⟩, zin (List.mem_of_getElem? (i := 367) (by decide +kernel)) rfl, zin (List.mem_of_getElem? (i := 368) (by decide +kernel)) rfl⟩
set_option maxRecDepth 100000 in
theorem lb_J0_indexOf_7cf53 : zLV yJ0_indexOf_7cf53 cJ0_indexOf_7cf53 3 (some .int) 2 := ⟨⟨ii_J0, zin (List.mem_of_getElem? (i := 373) rfl) rfl, by decide +kernel, by decide +kernel, by decide +kernel⟩, zin (List.mem_of_getElem? (i := 371) (by decide +kernel)) rfl, zin (List.mem_of_getElem? (i := 372) (by decide +kernel)) rfl⟩
set_option maxRecDepth 100000 in
theorem lb_J0_isLatin1_aae02 : zLV yJ0_isLatin1_aae02 cJ0_isLatin1_aae02 1 (some .boolean) 0 := ⟨⟨ii_J0, zin (List.mem_of_getElem? (i := 377) rfl) rfl, by decide +kernel, by decide +kernel, by decide +kernel⟩, zin (List.mem_of_getElem? (i := 375) (by decide +kernel)) rfl, zin (List.mem_of_getElem? (i := 376) (by decide +kernel)) rfl⟩
set_option maxRecDepth 100000 in
theorem lb_J0_length_8abf5 : zLV yJ0_length_8abf5 cJ0_length_8abf5 1 (some .int) 0 := ⟨⟨ii_J0, zin (List.mem_of_getElem? (i := 383) rfl) rfl, by decide +kernel, by decide +kernel, by decide +kernel⟩, zin (List.mem_of_getElem? (i := 381) (by decide +kernel)) rfl, zin (List.mem_of_getElem? (i := 382) (by decide +kernel)) rfl⟩
set_option maxRecDepth 100000 in
theorem lb_J0_coder_7d493 : zLV yJ0_coder_7d493 cJ0_coder_7d493 1 (some .byte) 0 := ⟨⟨ii_J0, zin (List.mem_of_getElem? (i := 387) rfl) rfl, by decide +kernel, by decide +kernel, by decide +kernel⟩, zin (List.mem_of_getElem? (i := 385) (by decide +kernel)) rfl, zin (List.mem_of_getElem? (i := 386) (by decide +kernel)) rfl⟩
set_option maxRecDepth 100000 in
theorem lb_J1_indexOf_4cfef : zLS yJ1_indexOf_4cfef cJ1_indexOf_4cfef 4 (some .int) 4 := ⟨⟨ii_J1, zin (List.mem_of_getElem? (i := 390) rfl) rfl, by decide +kernel, by decide +kernel, by decide +kernel⟩, zin (List.mem_of_getElem? (i := 389) (by decide +kernel)) rfl⟩
set_option maxRecDepth 100000 in
theorem lb_J1_canEncode_9a6ad : zLS yJ1_canEncode_9a6ad cJ1_canEncode_9a6ad 1 (some .boolean) 1 := ⟨⟨ii_J1, zin (List.mem_of_getElem? (i := 393) rfl) rfl, by decide +kernel, by decide +kernel, by decide +kernel⟩, zin (List.mem_of_getElem? (i := 392) (by decide +kernel)) rfl⟩
set_option maxRecDepth 100000 in
theorem lb_J1_indexOfChar_4cfef : zLS yJ1_indexOfChar_4cfef cJ1_indexOfChar_4cfef 6 (some .int) 4 := ⟨⟨ii_J1, zin (List.mem_of_getElem? (i := 400) rfl) rfl, by decide +kernel, by decide +kernel, by decide +kernel⟩, zin (List.mem_of_getElem? (i := 399) (by decide +kernel)) rfl⟩
theorem dJ0_length_8abf5_0 : decode cJ0_length_8abf5 0 = .ok (.aload_n 0, 1) := by decide +kernel
theorem dJ0_length_8abf5_1 : decode cJ0_length_8abf5 1 = .ok (.getfield 9, 3) := by decide +kernel
theorem dJ0_length_8abf5_4 : decode cJ0_length_8abf5 4 = .ok (.arraylength, 1) := by decide +kernel
theorem dJ0_length_8abf5_5 : decode cJ0_length_8abf5 5 = .ok (.aload_n 0, 1) := by decide +kernel
theorem dJ0_length_8abf5_6 : decode cJ0_length_8abf5 6 = .ok (.invokevirtual 335, 3) := by decide +kernel
theorem dJ0_length_8abf5_9 : decode cJ0_length_8abf5 9 = .ok (.ishr, 1) := by decide +kernel
theorem dJ0_length_8abf5_10 : decode cJ0_length_8abf5 10 = .ok (.ireturn, 1) := by decide +kernel
theorem dJ0_indexOf_0f7a4_0 : decode cJ0_indexOf_0f7a4 0 = .ok (.aload_n 0, 1) := by decide +kernel
theorem dJ0_indexOf_0f7a4_1 : decode cJ0_indexOf_0f7a4 1 = .ok (.iload_n 1, 1) := by decide +kernel
theorem dJ0_indexOf_0f7a4_2 : decode cJ0_indexOf_0f7a4 2 = .ok (.iconst 0, 1) := by decide +kernel
theorem dJ0_indexOf_0f7a4_3 : decode cJ0_indexOf_0f7a4 3 = .ok (.invokevirtual 633, 3) := by decide +kernel
theorem dJ0_indexOf_0f7a4_6 : decode cJ0_indexOf_0f7a4 6 = .ok (.ireturn, 1) := by decide +kernel
theorem dJ0_indexOf_7cf53_0 : decode cJ0_indexOf_7cf53 0 = .ok (.aload_n 0, 1) := by decide +kernel
theorem dJ0_indexOf_7cf53_1 : decode cJ0_indexOf_7cf53 1 = .ok (.invokevirtual 492, 3) := by decide +kernel
theorem dJ0_indexOf_7cf53_4 : decode cJ0_indexOf_7cf53 4 = .ok (.ifCond .eq 19, 3) := by decide +kernel
theorem dJ0_indexOf_7cf53_7 : decode cJ0_indexOf_7cf53 7 = .ok (.aload_n 0, 1) := by decide +kernel
theorem dJ0_indexOf_7cf53_8 : decode cJ0_indexOf_7cf53 8 = .ok (.getfield 9, 3) := by decide +kernel
theorem dJ0_indexOf_7cf53_11 : decode cJ0_indexOf_7cf53 11 = .ok (.iload_n 1, 1) := by decide +kernel
theorem dJ0_indexOf_7cf53_12 : decode cJ0_indexOf_7cf53 12 = .ok (.iload_n 2, 1) := by decide +kernel
theorem dJ0_indexOf_7cf53_13 : decode cJ0_indexOf_7cf53 13 = .ok (.aload_n 0, 1) := by decide +kernel
theorem dJ0_indexOf_7cf53_14 : decode cJ0_indexOf_7cf53 14 = .ok (.invokevirtual 505, 3) := by decide +kernel
theorem dJ0_indexOf_7cf53_17 : decode cJ0_indexOf_7cf53 17 = .ok (.invokestatic 637, 3) := by decide +kernel
theorem dJ0_indexOf_7cf53_20 : decode cJ0_indexOf_7cf53 20 = .ok (.goto 16, 3) := by decide +kernel
theorem dJ0_indexOf_7cf53_23 : decode cJ0_indexOf_7cf53 23 = .ok (.aload_n 0, 1) := by decide +kernel
theorem dJ0_indexOf_7cf53_24 : decode cJ0_indexOf_7cf53 24 = .ok (.getfield 9, 3) := by decide +kernel
theorem dJ0_indexOf_7cf53_27 : decode cJ0_indexOf_7cf53 27 = .ok (.iload_n 1, 1) := by decide +kernel
theorem dJ0_indexOf_7cf53_28 : decode cJ0_indexOf_7cf53 28 = .ok (.iload_n 2, 1) := by decide +kernel
theorem dJ0_indexOf_7cf53_29 : decode cJ0_indexOf_7cf53 29 = .ok (.aload_n 0, 1) := by decide +kernel
theorem dJ0_indexOf_7cf53_30 : decode cJ0_indexOf_7cf53 30 = .ok (.invokevirtual 505, 3) := by decide +kernel
theorem dJ0_indexOf_7cf53_33 : decode cJ0_indexOf_7cf53 33 = .ok (.invokestatic 640, 3) := by decide +kernel
theorem dJ0_indexOf_7cf53_36 : decode cJ0_indexOf_7cf53 36 = .ok (.ireturn, 1) := by decide +kernel
theorem dJ0_coder_7d493_0 : decode cJ0_coder_7d493 0 = .ok (.getstatic 38, 3) := by decide +kernel
theorem dJ0_coder_7d493_3 : decode cJ0_coder_7d493 3 = .ok (.ifCond .eq 10, 3) := by decide +kernel
theorem dJ0_coder_7d493_6 : decode cJ0_coder_7d493 6 = .ok (.aload_n 0, 1) := by decide +kernel
theorem dJ0_coder_7d493_7 : decode cJ0_coder_7d493 7 = .ok (.getfield 15, 3) := by decide +kernel
theorem dJ0_coder_7d493_10 : decode cJ0_coder_7d493 10 = .ok (.goto 4, 3) := by decide +kernel
theorem dJ0_coder_7d493_13 : decode cJ0_coder_7d493 13 = .ok (.iconst 1, 1) := by decide +kernel
theorem dJ0_coder_7d493_14 : decode cJ0_coder_7d493 14 = .ok (.ireturn, 1) := by decide +kernel
theorem dJ0_isLatin1_aae02_0 : decode cJ0_isLatin1_aae02 0 = .ok (.getstatic 38, 3) := by decide +kernel
theorem dJ0_isLatin1_aae02_3 : decode cJ0_isLatin1_aae02 3 = .ok (.ifCond .eq 14, 3) := by decide +kernel
theorem dJ0_isLatin1_aae02_6 : decode cJ0_isLatin1_aae02 6 = .ok (.aload_n 0, 1) := by decide +kernel
theorem dJ0_isLatin1_aae02_7 : decode cJ0_isLatin1_aae02 7 = .ok (.getfield 15, 3) := by decide +kernel
theorem dJ0_isLatin1_aae02_10 : decode cJ0_isLatin1_aae02 10 = .ok (.ifCond .ne 7, 3) := by decide +kernel
theorem dJ0_isLatin1_aae02_13 : decode cJ0_isLatin1_aae02 13 = .ok (.iconst 1, 1) := by decide +kernel
theorem dJ0_isLatin1_aae02_14 : decode cJ0_isLatin1_aae02 14 = .ok (.goto 4, 3) := by decide +kernel
theorem dJ0_isLatin1_aae02_17 : decode cJ0_isLatin1_aae02 17 = .ok (.iconst 0, 1) := by decide +kernel
theorem dJ0_isLatin1_aae02_18 : decode cJ0_isLatin1_aae02 18 = .ok (.ireturn, 1) := by decide +kernel
theorem dJ1_canEncode_9a6ad_0 : decode cJ1_canEncode_9a6ad 0 = .ok (.iload_n 0, 1) := by decide +kernel
theorem dJ1_canEncode_9a6ad_1 : decode cJ1_canEncode_9a6ad 1 = .ok (.ifCond .lt 14, 3) := by decide +kernel
theorem dJ1_canEncode_9a6ad_4 : decode cJ1_canEncode_9a6ad 4 = .ok (.iload_n 0, 1) := by decide +kernel
theorem dJ1_canEncode_9a6ad_5 : decode cJ1_canEncode_9a6ad 5 = .ok (.sipush 255, 3) := by decide +kernel
theorem dJ1_canEncode_9a6ad_8 : decode cJ1_canEncode_9a6ad 8 = .ok (.if_icmp .gt 7, 3) := by decide +kernel
theorem dJ1_canEncode_9a6ad_11 : decode cJ1_canEncode_9a6ad 11 = .ok (.iconst 1, 1) := by decide +kernel
theorem dJ1_canEncode_9a6ad_12 : decode cJ1_canEncode_9a6ad 12 = .ok (.goto 4, 3) := by decide +kernel
theorem dJ1_canEncode_9a6ad_15 : decode cJ1_canEncode_9a6ad 15 = .ok (.iconst 0, 1) := by decide +kernel
theorem dJ1_canEncode_9a6ad_16 : decode cJ1_canEncode_9a6ad 16 = .ok (.ireturn, 1) := by decide +kernel
theorem dJ1_indexOf_4cfef_0 : decode cJ1_indexOf_4cfef 0 = .ok (.iload_n 1, 1) := by decide +kernel
theorem dJ1_indexOf_4cfef_1 : decode cJ1_indexOf_4cfef 1 = .ok (.invokestatic 88, 3) := by decide +kernel
theorem dJ1_indexOf_4cfef_4 : decode cJ1_indexOf_4cfef 4 = .ok (.ifCond .ne 5, 3) := by decide +kernel
theorem dJ1_indexOf_4cfef_7 : decode cJ1_indexOf_4cfef 7 = .ok (.iconst (-1), 1) := by decide +kernel
theorem dJ1_indexOf_4cfef_8 : decode cJ1_indexOf_4cfef 8 = .ok (.ireturn, 1) := by decide +kernel
theorem dJ1_indexOf_4cfef_9 : decode cJ1_indexOf_4cfef 9 = .ok (.iload_n 2, 1) := by decide +kernel
theorem dJ1_indexOf_4cfef_10 : decode cJ1_indexOf_4cfef 10 = .ok (.iconst 0, 1) := by decide +kernel
theorem dJ1_indexOf_4cfef_11 : decode cJ1_indexOf_4cfef 11 = .ok (.invokestatic 92, 3) := by decide +kernel
theorem dJ1_indexOf_4cfef_14 : decode cJ1_indexOf_4cfef 14 = .ok (.istore_n 2, 1) := by decide +kernel
theorem dJ1_indexOf_4cfef_15 : decode cJ1_indexOf_4cfef 15 = .ok (.iload_n 3, 1) := by decide +kernel
theorem dJ1_indexOf_4cfef_16 : decode cJ1_indexOf_4cfef 16 = .ok (.aload_n 0, 1) := by decide +kernel
theorem dJ1_indexOf_4cfef_17 : decode cJ1_indexOf_4cfef 17 = .ok (.arraylength, 1) := by decide +kernel
theorem dJ1_indexOf_4cfef_18 : decode cJ1_indexOf_4cfef 18 = .ok (.invokestatic 38, 3) := by decide +kernel
theorem dJ1_indexOf_4cfef_21 : decode cJ1_indexOf_4cfef 21 = .ok (.istore_n 3, 1) := by decide +kernel
theorem dJ1_indexOf_4cfef_22 : decode cJ1_indexOf_4cfef 22 = .ok (.iload_n 2, 1) := by decide +kernel
theorem dJ1_indexOf_4cfef_23 : decode cJ1_indexOf_4cfef 23 = .ok (.iload_n 3, 1) := by decide +kernel
theorem dJ1_indexOf_4cfef_24 : decode cJ1_indexOf_4cfef 24 = .ok (.if_icmp .lt 5, 3) := by decide +kernel
theorem dJ1_indexOf_4cfef_27 : decode cJ1_indexOf_4cfef 27 = .ok (.iconst (-1), 1) := by decide +kernel
theorem dJ1_indexOf_4cfef_28 : decode cJ1_indexOf_4cfef 28 = .ok (.ireturn, 1) := by decide +kernel
theorem dJ1_indexOf_4cfef_29 : decode cJ1_indexOf_4cfef 29 = .ok (.aload_n 0, 1) := by decide +kernel
theorem dJ1_indexOf_4cfef_30 : decode cJ1_indexOf_4cfef 30 = .ok (.iload_n 1, 1) := by decide +kernel
theorem dJ1_indexOf_4cfef_31 : decode cJ1_indexOf_4cfef 31 = .ok (.iload_n 2, 1) := by decide +kernel
theorem dJ1_indexOf_4cfef_32 : decode cJ1_indexOf_4cfef 32 = .ok (.iload_n 3, 1) := by decide +kernel
theorem dJ1_indexOf_4cfef_33 : decode cJ1_indexOf_4cfef 33 = .ok (.invokestatic 95, 3) := by decide +kernel
theorem dJ1_indexOf_4cfef_36 : decode cJ1_indexOf_4cfef 36 = .ok (.ireturn, 1) := by decide +kernel
theorem dJ1_indexOfChar_4cfef_0 : decode cJ1_indexOfChar_4cfef 0 = .ok (.iload_n 1, 1) := by decide +kernel
theorem dJ1_indexOfChar_4cfef_1 : decode cJ1_indexOfChar_4cfef 1 = .ok (.i2b, 1) := by decide +kernel
theorem dJ1_indexOfChar_4cfef_2 : decode cJ1_indexOfChar_4cfef 2 = .ok (.istore 4, 2) := by decide +kernel
theorem dJ1_indexOfChar_4cfef_4 : decode cJ1_indexOfChar_4cfef 4 = .ok (.iload_n 2, 1) := by decide +kernel
theorem dJ1_indexOfChar_4cfef_5 : decode cJ1_indexOfChar_4cfef 5 = .ok (.istore 5, 2) := by decide +kernel
theorem dJ1_indexOfChar_4cfef_7 : decode cJ1_indexOfChar_4cfef 7 = .ok (.iload 5, 2) := by decide +kernel
theorem dJ1_indexOfChar_4cfef_9 : decode cJ1_indexOfChar_4cfef 9 = .ok (.iload_n 3, 1) := by decide +kernel
theorem dJ1_indexOfChar_4cfef_10 : decode cJ1_indexOfChar_4cfef 10 = .ok (.if_icmp .ge 21, 3) := by decide +kernel
theorem dJ1_indexOfChar_4cfef_13 : decode cJ1_indexOfChar_4cfef 13 = .ok (.aload_n 0, 1) := by decide +kernel
theorem dJ1_indexOfChar_4cfef_14 : decode cJ1_indexOfChar_4cfef 14 = .ok (.iload 5, 2) := by decide +kernel
theorem dJ1_indexOfChar_4cfef_16 : decode cJ1_indexOfChar_4cfef 16 = .ok (.baload, 1) := by decide +kernel
theorem dJ1_indexOfChar_4cfef_17 : decode cJ1_indexOfChar_4cfef 17 = .ok (.iload 4, 2) := by decide +kernel
theorem dJ1_indexOfChar_4cfef_19 : decode cJ1_indexOfChar_4cfef 19 = .ok (.if_icmp .ne 6, 3) := by decide +kernel
theorem dJ1_indexOfChar_4cfef_22 : decode cJ1_indexOfChar_4cfef 22 = .ok (.iload 5, 2) := by decide +kernel
theorem dJ1_indexOfChar_4cfef_24 : decode cJ1_indexOfChar_4cfef 24 = .ok (.ireturn, 1) := by decide +kernel
theorem dJ1_indexOfChar_4cfef_25 : decode cJ1_indexOfChar_4cfef 25 = .ok (.iinc 5 1, 3) := by decide +kernel
theorem dJ1_indexOfChar_4cfef_28 : decode cJ1_indexOfChar_4cfef 28 = .ok (.goto (-21), 3) := by decide +kernel
theorem dJ1_indexOfChar_4cfef_31 : decode cJ1_indexOfChar_4cfef 31 = .ok (.iconst (-1), 1) := by decide +kernel
theorem dJ1_indexOfChar_4cfef_32 : decode cJ1_indexOfChar_4cfef 32 = .ok (.ireturn, 1) := by decide +kernel
theorem b7N : ∀ c, c ≤ 126 → (nI c).toInt8.toInt32 = nI c := by decide +kernel
set_option maxRecDepth 100000 in
set_option maxHeartbeats 4000000 in
theorem c_J0_coder_7d493 (l : Launch) (G : zG) (q9 t9 : Nat)   : zSMi l G q9 t9 yJ0_coder_7d493 cJ0_coder_7d493 1 .byte 0 0 0 0 [.ref q9] [] (fun (r : Int32) (_u : Unit) => r = nI 0) (fun (_u : Unit) => []) := by
  refine zSMi.of (by decide) rfl (fun X A H0 hX hXl hT hR => ?_)
  show Z (X, G, A, H0, 1) 0 0 [] 0 [(0, .ref q9)] []
  subst hXl
  refine z_getCS hX hT fl_J0_38 dJ0_coder_7d493_0 ?_
  refine zn_if_eq (tgt := 13) hX dJ0_coder_7d493_3 (by decide) (by omega) (fun c3 => absurd c3 (by omega)) (fun _ => ?_)
  refine z_aload_n hX 0 dJ0_coder_7d493_6 rfl ?_
  refine z_getSc hX hT fl_J0_15 dJ0_coder_7d493_7 ?_
  refine z_goto (tgt := 14) hX dJ0_coder_7d493_10 (by decide) ?_
  exact hR _ () _ _ rfl dJ0_coder_7d493_14 rfl
set_option maxRecDepth 100000 in
set_option maxHeartbeats 4000000 in
theorem c_J0_isLatin1_aae02 (l : Launch) (G : zG) (q9 t9 : Nat)   : zSMi l G q9 t9 yJ0_isLatin1_aae02 cJ0_isLatin1_aae02 1 .boolean 0 0 0 0 [.ref q9] [] (fun (r : Int32) (_u : Unit) => r = nI 1) (fun (_u : Unit) => []) := by
  refine zSMi.of (by decide) rfl (fun X A H0 hX hXl hT hR => ?_)
  show Z (X, G, A, H0, 1) 0 0 [] 0 [(0, .ref q9)] []
  subst hXl
  refine z_getCS hX hT fl_J0_38 dJ0_isLatin1_aae02_0 ?_
  refine zn_if_eq (tgt := 17) hX dJ0_isLatin1_aae02_3 (by decide) (by omega) (fun c3 => absurd c3 (by omega)) (fun _ => ?_)
  refine z_aload_n hX 0 dJ0_isLatin1_aae02_6 rfl ?_
  refine z_getSc hX hT fl_J0_15 dJ0_isLatin1_aae02_7 ?_
  refine zn_if_ne (tgt := 17) hX dJ0_isLatin1_aae02_10 (by decide) (by omega) (fun c10 => absurd c10 (by omega)) (fun _ => ?_)
  refine z_iconst (v := nI 1) hX dJ0_isLatin1_aae02_13 (by decide) ?_
  refine z_goto (tgt := 18) hX dJ0_isLatin1_aae02_14 (by decide) ?_
  exact hR _ () _ _ rfl dJ0_isLatin1_aae02_18 rfl
set_option maxRecDepth 100000 in
set_option maxHeartbeats 4000000 in
theorem c_J0_length_8abf5 (l : Launch) (G : zG) (q9 t9 : Nat)   : zSMi l G q9 t9 yJ0_length_8abf5 cJ0_length_8abf5 1 .int 1 0 0 20 [.ref q9] [] (fun (r : Int32) (_u : Unit) => r = nI 5) (fun (_u : Unit) => []) := by
  refine zSMi.of (by decide) rfl (fun X A H0 hX hXl hT hR => ?_)
  show Z (X, G, A, H0, 1) 0 0 [] 0 [(0, .ref q9)] []
  subst hXl
  refine z_aload_n hX 0 dJ0_length_8abf5_0 rfl ?_
  refine z_getSv hX hT fl_J0_9 dJ0_length_8abf5_1 ?_
  refine z_slen hX hT dJ0_length_8abf5_4 ?_
  refine z_aload_n hX 0 dJ0_length_8abf5_5 rfl ?_
  refine z_scallKi (st := [.int (nI 5)]) hX hT (c_J0_coder_7d493 _ G q9 t9  ) lb_J0_coder_7d493 ml_J0_335 (fun (_u : Unit) => []) (wr := []) [] [] [] ⟨rfl, rfl, rfl, fun _ => rfl⟩ rfl rfl rfl ⟨Nat.le_refl _, Nat.le_refl _⟩ dJ0_length_8abf5_6 rfl (fun r6 u6 hw6 => ?_)
  subst hw6
  refine z_ishr (v := (nI 5)) hX dJ0_length_8abf5_9 (by decide) ?_
  exact hR _ () _ _ rfl dJ0_length_8abf5_10 rfl
set_option maxRecDepth 100000 in
set_option maxHeartbeats 4000000 in
theorem c_J1_canEncode_9a6ad (l : Launch) (G : zG) (c : Nat) (h0 : c ≤ 126) : zMi l G yJ1_canEncode_9a6ad cJ1_canEncode_9a6ad 1 .boolean 0 0 0 0 [.int (nI c)] [] (fun (r : Int32) (_u : Unit) => r = nI 1) (fun (_u : Unit) => []) := by
  refine zMi.of (by decide) rfl (fun X A H0 hX hXl hR => ?_)
  show Z (X, G, A, H0, 1) 0 0 [] 0 [(0, .int (nI c))] []
  subst hXl
  refine z_iload_n hX 0 dJ1_canEncode_9a6ad_0 rfl ?_
  refine zn_if_lt (tgt := 15) hX dJ1_canEncode_9a6ad_1 (by decide) (by omega) (fun c1 => absurd c1 (by omega)) (fun c1 => ?_)
  refine z_iload_n hX 0 dJ1_canEncode_9a6ad_4 rfl ?_
  refine z_sipush (v := nI 255) hX dJ1_canEncode_9a6ad_5 (by decide) ?_
  refine zn_icmp_gt (tgt := 15) hX dJ1_canEncode_9a6ad_8 (by decide) (by omega) (by omega) (fun c8 => absurd c8 (by omega)) (fun c8 => ?_)
  refine z_iconst (v := nI 1) hX dJ1_canEncode_9a6ad_11 (by decide) ?_
  refine z_goto (tgt := 16) hX dJ1_canEncode_9a6ad_12 (by decide) ?_
  exact hR _ () _ _ rfl dJ1_canEncode_9a6ad_16 rfl
set_option maxRecDepth 100000 in
set_option maxHeartbeats 4000000 in
theorem c_J1_indexOfChar_4cfef (l : Launch) (G : zG) (q9 t9 : Nat) (c : Nat) (h0 : c ≤ 126) : zSMi l G q9 t9 yJ1_indexOfChar_4cfef cJ1_indexOfChar_4cfef 6 .int 0 0 0 0 [.ref t9, .int (nI c), .int (nI 0), .int (nI 5)] [] (fun (r : Int32) (_u : Unit) => r = ln (kdN c)) (fun (_u : Unit) => []) := by
  refine zSMi.of (by decide) rfl (fun X A H0 hX hXl hT hR => ?_)
  show Z (X, G, A, H0, 6) 0 0 [] 0 [(0, .ref t9), (1, .int (nI c)), (2, .int (nI 0)), (3, .int (nI 5))] []
  subst hXl
  refine z_iload_n hX 1 dJ1_indexOfChar_4cfef_0 rfl ?_
  refine z_i2b (v := (nI c)) hX dJ1_indexOfChar_4cfef_1 (b7N _ h0) ?_
  refine z_istore (L' := [(4, .int (nI c)), (0, .ref t9), (1, .int (nI c)), (2, .int (nI 0)), (3, .int (nI 5))]) hX dJ1_indexOfChar_4cfef_2 (Nat.le_of_ble_eq_true rfl) rfl ?_
  refine z_iload_n hX 3 dJ1_indexOfChar_4cfef_4 rfl ?_
  refine z_istore (L' := [(5, .int (nI 0)), (4, .int (nI c)), (0, .ref t9), (1, .int (nI c)), (2, .int (nI 0)), (3, .int (nI 5))]) hX dJ1_indexOfChar_4cfef_5 (Nat.le_of_ble_eq_true rfl) rfl ?_
  refine z_iload hX 0 dJ1_indexOfChar_4cfef_7 rfl ?_
  refine z_iload_n hX 5 dJ1_indexOfChar_4cfef_9 rfl ?_
  refine zn_icmp_ge (tgt := 31) hX dJ1_indexOfChar_4cfef_10 (by decide) (by omega) (by omega) (fun c10 => absurd c10 (by omega)) (fun _ => ?_)
  refine z_aload_n hX 2 dJ1_indexOfChar_4cfef_13 rfl ?_
  refine z_iload hX 0 dJ1_indexOfChar_4cfef_14 rfl ?_
  refine z_sbal (v := 119) hX hT (j := 0) (by decide) (by decide) dJ1_indexOfChar_4cfef_16 ?_
  refine z_iload hX 1 dJ1_indexOfChar_4cfef_17 rfl ?_
  refine zn_icmp_ne (tgt := 25) hX dJ1_indexOfChar_4cfef_19 (by decide) (by omega) (by omega) (fun c19 => ?_) (fun c19 => ?_)
  · skip
    refine z_iinc (v := (nI 1)) (L' := [(5, .int (nI 1)), (4, .int (nI c)), (0, .ref t9), (1, .int (nI c)), (2, .int (nI 0)), (3, .int (nI 5))]) hX 0 dJ1_indexOfChar_4cfef_25 rfl (by decide) (Nat.le_of_ble_eq_true rfl) rfl ?_
    refine z_goto (tgt := 7) hX dJ1_indexOfChar_4cfef_28 (by decide) ?_
    refine z_iload hX 0 dJ1_indexOfChar_4cfef_7 rfl ?_
    refine z_iload_n hX 5 dJ1_indexOfChar_4cfef_9 rfl ?_
    refine zn_icmp_ge (tgt := 31) hX dJ1_indexOfChar_4cfef_10 (by decide) (by omega) (by omega) (fun c10 => absurd c10 (by omega)) (fun _ => ?_)
    refine z_aload_n hX 2 dJ1_indexOfChar_4cfef_13 rfl ?_
    refine z_iload hX 0 dJ1_indexOfChar_4cfef_14 rfl ?_
    refine z_sbal (v := 99) hX hT (j := 1) (by decide) (by decide) dJ1_indexOfChar_4cfef_16 ?_
    refine z_iload hX 1 dJ1_indexOfChar_4cfef_17 rfl ?_
    refine zn_icmp_ne (tgt := 25) hX dJ1_indexOfChar_4cfef_19 (by decide) (by omega) (by omega) (fun c19 => ?_) (fun c19 => ?_)
    · skip
      refine z_iinc (v := (nI 2)) (L' := [(5, .int (nI 2)), (4, .int (nI c)), (0, .ref t9), (1, .int (nI c)), (2, .int (nI 0)), (3, .int (nI 5))]) hX 0 dJ1_indexOfChar_4cfef_25 rfl (by decide) (Nat.le_of_ble_eq_true rfl) rfl ?_
      refine z_goto (tgt := 7) hX dJ1_indexOfChar_4cfef_28 (by decide) ?_
      refine z_iload hX 0 dJ1_indexOfChar_4cfef_7 rfl ?_
      refine z_iload_n hX 5 dJ1_indexOfChar_4cfef_9 rfl ?_
      refine zn_icmp_ge (tgt := 31) hX dJ1_indexOfChar_4cfef_10 (by decide) (by omega) (by omega) (fun c10 => absurd c10 (by omega)) (fun _ => ?_)
      refine z_aload_n hX 2 dJ1_indexOfChar_4cfef_13 rfl ?_
      refine z_iload hX 0 dJ1_indexOfChar_4cfef_14 rfl ?_
      refine z_sbal (v := 98) hX hT (j := 2) (by decide) (by decide) dJ1_indexOfChar_4cfef_16 ?_
      refine z_iload hX 1 dJ1_indexOfChar_4cfef_17 rfl ?_
      refine zn_icmp_ne (tgt := 25) hX dJ1_indexOfChar_4cfef_19 (by decide) (by omega) (by omega) (fun c19 => ?_) (fun c19 => ?_)
      · skip
        refine z_iinc (v := (nI 3)) (L' := [(5, .int (nI 3)), (4, .int (nI c)), (0, .ref t9), (1, .int (nI c)), (2, .int (nI 0)), (3, .int (nI 5))]) hX 0 dJ1_indexOfChar_4cfef_25 rfl (by decide) (Nat.le_of_ble_eq_true rfl) rfl ?_
        refine z_goto (tgt := 7) hX dJ1_indexOfChar_4cfef_28 (by decide) ?_
        refine z_iload hX 0 dJ1_indexOfChar_4cfef_7 rfl ?_
        refine z_iload_n hX 5 dJ1_indexOfChar_4cfef_9 rfl ?_
        refine zn_icmp_ge (tgt := 31) hX dJ1_indexOfChar_4cfef_10 (by decide) (by omega) (by omega) (fun c10 => absurd c10 (by omega)) (fun _ => ?_)
        refine z_aload_n hX 2 dJ1_indexOfChar_4cfef_13 rfl ?_
        refine z_iload hX 0 dJ1_indexOfChar_4cfef_14 rfl ?_
        refine z_sbal (v := 100) hX hT (j := 3) (by decide) (by decide) dJ1_indexOfChar_4cfef_16 ?_
        refine z_iload hX 1 dJ1_indexOfChar_4cfef_17 rfl ?_
        refine zn_icmp_ne (tgt := 25) hX dJ1_indexOfChar_4cfef_19 (by decide) (by omega) (by omega) (fun c19 => ?_) (fun c19 => ?_)
        · skip
          refine z_iinc (v := (nI 4)) (L' := [(5, .int (nI 4)), (4, .int (nI c)), (0, .ref t9), (1, .int (nI c)), (2, .int (nI 0)), (3, .int (nI 5))]) hX 0 dJ1_indexOfChar_4cfef_25 rfl (by decide) (Nat.le_of_ble_eq_true rfl) rfl ?_
          refine z_goto (tgt := 7) hX dJ1_indexOfChar_4cfef_28 (by decide) ?_
          refine z_iload hX 0 dJ1_indexOfChar_4cfef_7 rfl ?_
          refine z_iload_n hX 5 dJ1_indexOfChar_4cfef_9 rfl ?_
          refine zn_icmp_ge (tgt := 31) hX dJ1_indexOfChar_4cfef_10 (by decide) (by omega) (by omega) (fun c10 => absurd c10 (by omega)) (fun _ => ?_)
          refine z_aload_n hX 2 dJ1_indexOfChar_4cfef_13 rfl ?_
          refine z_iload hX 0 dJ1_indexOfChar_4cfef_14 rfl ?_
          refine z_sbal (v := 116) hX hT (j := 4) (by decide) (by decide) dJ1_indexOfChar_4cfef_16 ?_
          refine z_iload hX 1 dJ1_indexOfChar_4cfef_17 rfl ?_
          refine zn_icmp_ne (tgt := 25) hX dJ1_indexOfChar_4cfef_19 (by decide) (by omega) (by omega) (fun c19 => ?_) (fun c19 => ?_)
          · skip
            refine z_iinc (v := (nI 5)) (L' := [(5, .int (nI 5)), (4, .int (nI c)), (0, .ref t9), (1, .int (nI c)), (2, .int (nI 0)), (3, .int (nI 5))]) hX 0 dJ1_indexOfChar_4cfef_25 rfl (by decide) (Nat.le_of_ble_eq_true rfl) rfl ?_
            refine z_goto (tgt := 7) hX dJ1_indexOfChar_4cfef_28 (by decide) ?_
            refine z_iload hX 0 dJ1_indexOfChar_4cfef_7 rfl ?_
            refine z_iload_n hX 5 dJ1_indexOfChar_4cfef_9 rfl ?_
            refine zn_icmp_ge (tgt := 31) hX dJ1_indexOfChar_4cfef_10 (by decide) (by omega) (by omega) (fun _ => ?_) (fun c10 => absurd c10 (by omega))
            refine z_iconst (v := (-1)) hX dJ1_indexOfChar_4cfef_31 (by decide) ?_
            have e9 : (-1) = ln (kdN c) := by
              unfold kdN
              repeat' split
              all_goals first | rfl | omega
            exact hR _ () _ _ e9 dJ1_indexOfChar_4cfef_32 rfl
          · skip
            refine z_iload hX 0 dJ1_indexOfChar_4cfef_22 rfl ?_
            have e9 : (nI 4) = ln (kdN c) := by
              unfold kdN
              repeat' split
              all_goals first | rfl | omega
            exact hR _ () _ _ e9 dJ1_indexOfChar_4cfef_24 rfl
        · skip
          refine z_iload hX 0 dJ1_indexOfChar_4cfef_22 rfl ?_
          have e9 : (nI 3) = ln (kdN c) := by
            unfold kdN
            repeat' split
            all_goals first | rfl | omega
          exact hR _ () _ _ e9 dJ1_indexOfChar_4cfef_24 rfl
      · skip
        refine z_iload hX 0 dJ1_indexOfChar_4cfef_22 rfl ?_
        have e9 : (nI 2) = ln (kdN c) := by
          unfold kdN
          repeat' split
          all_goals first | rfl | omega
        exact hR _ () _ _ e9 dJ1_indexOfChar_4cfef_24 rfl
    · skip
      refine z_iload hX 0 dJ1_indexOfChar_4cfef_22 rfl ?_
      have e9 : (nI 1) = ln (kdN c) := by
        unfold kdN
        repeat' split
        all_goals first | rfl | omega
      exact hR _ () _ _ e9 dJ1_indexOfChar_4cfef_24 rfl
  · skip
    refine z_iload hX 0 dJ1_indexOfChar_4cfef_22 rfl ?_
    have e9 : (nI 0) = ln (kdN c) := by
      unfold kdN
      repeat' split
      all_goals first | rfl | omega
    exact hR _ () _ _ e9 dJ1_indexOfChar_4cfef_24 rfl
set_option maxRecDepth 100000 in
set_option maxHeartbeats 4000000 in
theorem c_J1_indexOf_4cfef (l : Launch) (G : zG) (q9 t9 : Nat) (c : Nat) (h0 : c ≤ 126) : zSMi l G q9 t9 yJ1_indexOf_4cfef cJ1_indexOf_4cfef 4 .int 1 0 0 25 [.ref t9, .int (nI c), .int (nI 0), .int (nI 5)] [] (fun (r : Int32) (_u : Unit) => r = ln (kdN c)) (fun (_u : Unit) => []) := by
  refine zSMi.of (by decide) rfl (fun X A H0 hX hXl hT hR => ?_)
  show Z (X, G, A, H0, 4) 0 0 [] 0 [(0, .ref t9), (1, .int (nI c)), (2, .int (nI 0)), (3, .int (nI 5))] []
  subst hXl
  refine z_iload_n hX 1 dJ1_indexOf_4cfef_0 rfl ?_
  refine z_callSi (st := []) hX (c_J1_canEncode_9a6ad _ G c (by omega)) lb_J1_canEncode_9a6ad ml_J1_88 (fun (_u : Unit) => []) (wr := []) [] [] [] ⟨rfl, rfl, rfl, fun _ => rfl⟩ rfl rfl ⟨Nat.le_refl _, Nat.le_refl _⟩ dJ1_indexOf_4cfef_1 rfl (fun r1 u1 hw1 => ?_)
  subst hw1
  refine zn_if_ne (tgt := 9) hX dJ1_indexOf_4cfef_4 (by decide) (by omega) (fun _ => ?_) (fun c4 => absurd c4 (by omega))
  refine z_iload_n hX 2 dJ1_indexOf_4cfef_9 rfl ?_
  refine z_iconst (v := nI 0) hX dJ1_indexOf_4cfef_10 (by decide) ?_
  refine z_max (v := (nI 0)) hX ml_J1_92 (by decide) rfl ⟨Nat.zero_le _, Nat.zero_le _⟩ dJ1_indexOf_4cfef_11 ?_
  refine z_istore_n (L' := [(2, .int (nI 0)), (0, .ref t9), (1, .int (nI c)), (3, .int (nI 5))]) hX dJ1_indexOf_4cfef_14 (Nat.le_of_ble_eq_true rfl) rfl ?_
  refine z_iload_n hX 3 dJ1_indexOf_4cfef_15 rfl ?_
  refine z_aload_n hX 1 dJ1_indexOf_4cfef_16 rfl ?_
  refine z_slen hX hT dJ1_indexOf_4cfef_17 ?_
  refine z_min (v := (nI 5)) hX ml_J1_38 (by decide) rfl ⟨Nat.zero_le _, Nat.zero_le _⟩ dJ1_indexOf_4cfef_18 ?_
  refine z_istore_n (L' := [(3, .int (nI 5)), (2, .int (nI 0)), (0, .ref t9), (1, .int (nI c))]) hX dJ1_indexOf_4cfef_21 (Nat.le_of_ble_eq_true rfl) rfl ?_
  refine z_iload_n hX 1 dJ1_indexOf_4cfef_22 rfl ?_
  refine z_iload_n hX 0 dJ1_indexOf_4cfef_23 rfl ?_
  refine zn_icmp_lt (tgt := 29) hX dJ1_indexOf_4cfef_24 (by decide) (by omega) (by omega) (fun _ => ?_) (fun c24 => absurd c24 (by omega))
  refine z_aload_n hX 2 dJ1_indexOf_4cfef_29 rfl ?_
  refine z_iload_n hX 3 dJ1_indexOf_4cfef_30 rfl ?_
  refine z_iload_n hX 1 dJ1_indexOf_4cfef_31 rfl ?_
  refine z_iload_n hX 0 dJ1_indexOf_4cfef_32 rfl ?_
  refine z_scallSi (st := []) hX hT (c_J1_indexOfChar_4cfef _ G q9 t9 c (by omega)) lb_J1_indexOfChar_4cfef ml_J1_95 (fun (_u : Unit) => []) (wr := []) [] [] [] ⟨rfl, rfl, rfl, fun _ => rfl⟩ rfl rfl ⟨Nat.le_refl _, Nat.le_refl _⟩ dJ1_indexOf_4cfef_33 rfl (fun r33 u33 hw33 => ?_)
  exact hR _ () _ _ hw33 dJ1_indexOf_4cfef_36 rfl
set_option maxRecDepth 100000 in
set_option maxHeartbeats 4000000 in
theorem c_J0_indexOf_7cf53 (l : Launch) (G : zG) (q9 t9 : Nat) (c : Nat) (h0 : c ≤ 126) : zSMi l G q9 t9 yJ0_indexOf_7cf53 cJ0_indexOf_7cf53 3 .int 2 0 0 48 [.ref q9, .int (nI c), .int (nI 0)] [] (fun (r : Int32) (_u : Unit) => r = ln (kdN c)) (fun (_u : Unit) => []) := by
  refine zSMi.of (by decide) rfl (fun X A H0 hX hXl hT hR => ?_)
  show Z (X, G, A, H0, 3) 0 0 [] 0 [(0, .ref q9), (1, .int (nI c)), (2, .int (nI 0))] []
  subst hXl
  refine z_aload_n hX 0 dJ0_indexOf_7cf53_0 rfl ?_
  refine z_scallKi (st := []) hX hT (c_J0_isLatin1_aae02 _ G q9 t9  ) lb_J0_isLatin1_aae02 ml_J0_492 (fun (_u : Unit) => []) (wr := []) [] [] [] ⟨rfl, rfl, rfl, fun _ => rfl⟩ rfl rfl rfl ⟨Nat.le_refl _, Nat.le_refl _⟩ dJ0_indexOf_7cf53_1 rfl (fun r1 u1 hw1 => ?_)
  subst hw1
  refine zn_if_eq (tgt := 23) hX dJ0_indexOf_7cf53_4 (by decide) (by omega) (fun c4 => absurd c4 (by omega)) (fun _ => ?_)
  refine z_aload_n hX 0 dJ0_indexOf_7cf53_7 rfl ?_
  refine z_getSv hX hT fl_J0_9 dJ0_indexOf_7cf53_8 ?_
  refine z_iload_n hX 1 dJ0_indexOf_7cf53_11 rfl ?_
  refine z_iload_n hX 2 dJ0_indexOf_7cf53_12 rfl ?_
  refine z_aload_n hX 0 dJ0_indexOf_7cf53_13 rfl ?_
  refine z_scallKi (st := [.int (nI 0), .int (nI c), .ref t9]) hX hT (c_J0_length_8abf5 _ G q9 t9  ) lb_J0_length_8abf5 ml_J0_505 (fun (_u : Unit) => []) (wr := []) [] [] [] ⟨rfl, rfl, rfl, fun _ => rfl⟩ rfl rfl rfl ⟨Nat.le_refl _, Nat.le_refl _⟩ dJ0_indexOf_7cf53_14 rfl (fun r14 u14 hw14 => ?_)
  subst hw14
  refine z_scallSi (st := []) hX hT (c_J1_indexOf_4cfef _ G q9 t9 c (by omega)) lb_J1_indexOf_4cfef ml_J0_637 (fun (_u : Unit) => []) (wr := []) [] [] [] ⟨rfl, rfl, rfl, fun _ => rfl⟩ rfl rfl ⟨Nat.le_refl _, Nat.le_refl _⟩ dJ0_indexOf_7cf53_17 rfl (fun r17 u17 hw17 => ?_)
  refine z_goto (tgt := 36) hX dJ0_indexOf_7cf53_20 (by decide) ?_
  exact hR _ () _ _ hw17 dJ0_indexOf_7cf53_36 rfl
set_option maxRecDepth 100000 in
set_option maxHeartbeats 4000000 in
theorem c_J0_indexOf_0f7a4 (l : Launch) (G : zG) (q9 t9 : Nat) (c : Nat) (h0 : c ≤ 126) : zSMi l G q9 t9 yJ0_indexOf_0f7a4 cJ0_indexOf_0f7a4 2 .int 3 0 0 70 [.ref q9, .int (nI c)] [] (fun (r : Int32) (_u : Unit) => r = ln (kdN c)) (fun (_u : Unit) => []) := by
  refine zSMi.of (by decide) rfl (fun X A H0 hX hXl hT hR => ?_)
  show Z (X, G, A, H0, 2) 0 0 [] 0 [(0, .ref q9), (1, .int (nI c))] []
  subst hXl
  refine z_aload_n hX 0 dJ0_indexOf_0f7a4_0 rfl ?_
  refine z_iload_n hX 1 dJ0_indexOf_0f7a4_1 rfl ?_
  refine z_iconst (v := nI 0) hX dJ0_indexOf_0f7a4_2 (by decide) ?_
  refine z_scallKi (st := []) hX hT (c_J0_indexOf_7cf53 _ G q9 t9 c (by omega)) lb_J0_indexOf_7cf53 ml_J0_633 (fun (_u : Unit) => []) (wr := []) [] [] [] ⟨rfl, rfl, rfl, fun _ => rfl⟩ rfl rfl rfl ⟨Nat.le_refl _, Nat.le_refl _⟩ dJ0_indexOf_0f7a4_3 rfl (fun r3 u3 hw3 => ?_)
  exact hR _ () _ _ hw3 dJ0_indexOf_0f7a4_6 rfl
