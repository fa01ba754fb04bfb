/-! CONSTRUCTORS -/
theorem zRA_i {G : zG} {cA a : ClassId} {ty : FieldType} {s : State} {t : Nat} (hn : ∀ C, ty ≠ .object C) (h1 : va_K G.1 vwCl (zT G ++ [(cA, ty)]) s) (h2 : (zT G)[t]? = some (a, ty)) : cA = a := by
  have a1 := (h1.2 5 (cA, ty) rfl).2
  have hl : t < 5 := (List.getElem?_eq_some_iff.mp h2).1
  have a2 := (h1.2 t (a, ty) (by rw [List.getElem?_append_left hl]; exact h2)).2
  unfold va_RA at a1 a2
  cases ty
  case object C => exact absurd rfl (hn C)
  all_goals exact Option.some.inj (a1.symm.trans a2)
theorem zRA_q {G : zG} {cA a : ClassId} {Cn : String} {s : State} {t : Nat} (h1 : va_K G.1 vwCl (zT G ++ [(cA, .object Cn)]) s) (h2 : (zT G)[t]? = some (a, .object Cn)) : cA = a := by
  obtain ⟨_, _, _, _, _, a1⟩ := (h1.2 5 (cA, .object Cn) rfl).2
  have hl : t < 5 := (List.getElem?_eq_some_iff.mp h2).1
  obtain ⟨_, _, _, _, _, a2⟩ := (h1.2 t (a, .object Cn) (by rw [List.getElem?_append_left hl]; exact h2)).2
  exact Option.some.inj (a1.symm.trans a2)
def zAO (C : zC) : Prop := match C with
  | ((_, _, _, _, s, _, _, _, _, _, _), _, _, _, _) => va_AO RX2 s ∧ va_AO RX3 s
def zPreO (G : zG) (sz : Nat) (wc : va_W) (U : State) : Prop := zPre G sz wc U ∧ va_AO RX2 U ∧ va_AO RX3 U
theorem zPreO.blind {G : zG} {sz : Nat} {av : List Value} {wc : va_W} : FrameBlind (va_Pc av (zPreO G sz wc)) := fun a U g mk h => by
  obtain ⟨q0, hp, hT⟩ := h
  obtain ⟨q1, qP, qK, qD, qN⟩ := hp
  exact ⟨q0, ⟨q1, qP, va_K.moved (u := U) (U := U.calling g mk a) (Vm.Alike.refl U.vm) qK, qD, zN.same rfl qN⟩, va_AO.moved (u := U) (U := U.calling g mk a) (Vm.Alike.refl U.vm) hT.1, va_AO.moved (u := U) (U := U.calling g mk a) (Vm.Alike.refl U.vm) hT.2⟩
def zOMv (l : Launch) (G : zG) (y : MethodName) (cc : ByteArray) (nL : Nat) (fr mc ms lo : Nat) (av : List Value) (wc : va_W) {S : Type} (post : S → Prop) (w1 : S → va_W) : Prop :=
  ∀ sz : Nat, Met l y (Cond.code y cc nL none :: zts) ⟨fr, mc, ms, lo⟩ (va_Pc av (zPreO G sz wc)) (va_Qv post (fun u t => zB G sz wc (w1 u) t) (va_A wc sz)) mc ms (va_A wc sz)
theorem zOMv.of {l : Launch} {G : zG} {y : MethodName} {cc : ByteArray} {nL : Nat} {fr mc ms lo : Nat} {av : List Value} {wc : va_W} {S : Type} {post : S → Prop} {w1 : S → va_W} (hy : plainName y.cls = true) (hle : Nat.ble (lg_sl av).length nL = true)
    (body : ∀ (X : zX) (A : Nat → Prop) (H0 : Heap), zOk (X, G, A, H0, nL) cc y.cls fr mc ms lo → X.2.1 = l → X.2.2.2.2.2.2.2.2.1.name = y.name → zAO (X, G, A, H0, nL) → (∀ (u : S) (pc : Nat) (L : List (Nat × Value)), post u → decode cc pc = .ok (.return_, 1) → Z (X, G, A, H0, nL) mc ms (w1 u) pc L []) → Z (X, G, A, H0, nL) 0 0 wc 0 (lv_args 0 av) [])  : zOMv l G y cc nL fr mc ms lo av wc post w1 := by
  intro sz
  refine Met.ofW (cc := cc) (maxL := nL) (ret := none) hy rfl ?_
  intro p e s m args below meth c s₁ B hml hv
  obtain ⟨rfl, ⟨hsz, hP, hK, hD0, hN⟩, hT⟩ := hv
  have hx := B.exec
  have hb := B.bytes
  have hr := B.returns
  have hts := atoms_spec (ws := Cond.code y cc nL none :: zts) B.pre
  have hown : s.vm.findClass y.cls = some m.cls := findClass_of_methodNamed B.named
  have hlocks := B.notSynchronized
  subst hsz
  rw [lg_entry_eq]
  refine body (p, l, e, ⟨fr, mc, ms, lo⟩, s, m, av.toArray, below, meth, c, _) (va_A wc s.heap.size) s.heap ⟨hx, hb, hml, hown, fun w hw => hts w (List.mem_cons_of_mem _ hw), hK, fun q h => Or.inr h, rfl, hN⟩ rfl (name_of_methodNamed B.named B.method).1 hT ?_ s.heap [] _ hP hD0.self va_S.rf (lv_entry av (Nat.le_of_ble_eq_true hle))
  intro u pc L hp hd H locs ls hP1 hD1 hS1 hl1
  exact W.vret hx hb hr (fun t ht hW => ⟨⟨u, rfl, hp, by rw [ht]; exact hP1, hD1⟩, hS1.F ht⟩) hS1.2.2 hd
section ZI
variable {C : zC} {cc : ByteArray} {own : String} {fr mcR msR lo k n : Nat} {ws : va_W} {pc : Nat} {L : List (Nat × Value)} {st st0 : List Value}
theorem z_oi (h : zOk C cc own fr mcR msR lo) {idx a : Nat} (hl9 : Cond.methodLink own idx objectInit ∈ zts) (hR : (Nat.ble 1 fr && Nat.ble ((st.map fun v => v.category).sum + 12) lo) = true) (hd : decode cc pc = .ok (.invokespecial idx, 3)) (kk : Z C k n ws (pc + 3) L st) : Z C k n ws pc L (.ref a :: st) := by
  obtain ⟨⟨p, l, e, R, s, m, args, below, meth, c, Q⟩, G, A, H0, nL⟩ := C
  obtain ⟨hx, hb, hml, hown, hts, hK, hA, hRR, hNN⟩ := h
  intro H locs ls hP hD hS hl
  subst hRR
  simp only [Bool.and_eq_true] at hR
  have r2 := Nat.le_of_ble_eq_true hR.2
  exact W.objInit hx hb hown (hts _ hl9) (hts _ im_oi) (hts _ co_oi) (g := F0 m pc ls (.ref a :: st)) rfl (by rw [hml]; exact hl.1) rfl hd (Nat.le_of_ble_eq_true hR.1) (by show 2 * 0 + (st.map fun v => v.category).sum + 12 ≤ lo; omega) (kk H locs ls hP hD hS hl)
theorem z_new (h : zOk C cc own fr mcR msR lo) {ci idx : Nat} {Cn : String} {T : u_T} {N : Nat} {ty : Nat → FieldType} (F : zFc ci Cn T N ty) (hcl : Cond.classLink own idx Cn ∈ zts) (hin9 : Cond.instantiable Cn N ∈ zts) (hini : Cond.initialized Cn ∈ zts) {fs : List Value} (hfs : ∀ j, j < N → defaultValue (ty j) = vp_V fs j) (hcs : (Nat.ble (k + 1) mcR && Nat.ble (n + N) msR) = true) (hd : decode cc pc = .ok (.new idx, 3)) (kk : ∀ q : Nat, Z C (k + 1) (n + N) (ws ++ [ob q ci fs]) (pc + 3) L (.ref q :: st)) : Z C k n ws pc L st := by
  obtain ⟨⟨p, l, e, R, s, m, args, below, meth, c, Q⟩, G, A, H0, nL⟩ := C
  obtain ⟨hx, hb, hml, hown, hts, hK, hA, hRR, hNN⟩ := h
  intro H locs ls hP hD hS hl
  subst hRR
  simp only [Bool.and_eq_true] at hcs
  exact va_new (ci := ci) (fs := fs) (C := Cn) (T := T) (N := N) hx hb hts F.2.1 ty F.2.2.1 hown (hts _ hcl) (hts _ hin9) (hts _ hini) hK hP hD hS hA F.1 hfs (Nat.le_of_ble_eq_true hcs.1) (Nat.le_of_ble_eq_true hcs.2) hd (fun q H1 hP1 hD1 hS1 => kk q H1 locs ls hP1 hD1 hS1 hl)
theorem z_newai (h : zOk C cc own fr mcR msR lo) {N : Nat} (hN : N < 1000) (hcs : (Nat.ble (k + 1) mcR && Nat.ble (n + N) msR) = true) (hd : decode cc pc = .ok (.newarray .int, 2)) (kk : ∀ q : Nat, Z C (k + 1) (n + N) (ws ++ [ia C.2.1 q N (fN fun _ => 0)]) (pc + 2) L (.ref q :: st)) : Z C k n ws pc L (.int (nI N) :: st) := by
  obtain ⟨⟨p, l, e, R, s, m, args, below, meth, c, Q⟩, G, A, H0, nL⟩ := C
  obtain ⟨hx, hb, hml, hown, hts, hK, hA, hRR, hNN⟩ := h
  intro H locs ls hP hD hS hl
  subst hRR
  simp only [Bool.and_eq_true] at hcs
  refine va_newa (atype := .int) (a0 := (N, .inl (fN fun _ => 0))) (ty := .int) hx hb (hts _ ac_int) rfl hK hP hD hS hA (fun cA => rfl) (nI_pos (by omega)) (nI_clamp (by omega)) (by show N * _ ≤ _; simp only [componentBytes]; omega) (Nat.le_of_ble_eq_true hcs.1) (Nat.le_of_ble_eq_true hcs.2) hd (fun q cA H1 hK1 hP1 hD1 hS1 => ?_)
  obtain rfl := zRA_i (t := 1) (fun _ z => by cases z) hK1 rfl
  exact kk q H1 locs ls hP1 hD1 hS1 hl
theorem z_newac (h : zOk C cc own fr mcR msR lo) {N : Nat} (hN : N < 1000) (hcs : (Nat.ble (k + 1) mcR && Nat.ble (n + N) msR) = true) (hd : decode cc pc = .ok (.newarray .char, 2)) (kk : ∀ q : Nat, Z C (k + 1) (n + N) (ws ++ [ca C.2.1 q N (fN fun _ => 0)]) (pc + 2) L (.ref q :: st)) : Z C k n ws pc L (.int (nI N) :: st) := by
  obtain ⟨⟨p, l, e, R, s, m, args, below, meth, c, Q⟩, G, A, H0, nL⟩ := C
  obtain ⟨hx, hb, hml, hown, hts, hK, hA, hRR, hNN⟩ := h
  intro H locs ls hP hD hS hl
  subst hRR
  simp only [Bool.and_eq_true] at hcs
  refine va_newa (atype := .char) (a0 := (N, .inl (fN fun _ => 0))) (ty := .char) hx hb (hts _ ac_char) rfl hK hP hD hS hA (fun cA => rfl) (nI_pos (by omega)) (nI_clamp (by omega)) (by show N * _ ≤ _; simp only [componentBytes]; omega) (Nat.le_of_ble_eq_true hcs.1) (Nat.le_of_ble_eq_true hcs.2) hd (fun q cA H1 hK1 hP1 hD1 hS1 => ?_)
  obtain rfl := zRA_i (t := 0) (fun _ z => by cases z) hK1 rfl
  exact kk q H1 locs ls hP1 hD1 hS1 hl
theorem z_newal (h : zOk C cc own fr mcR msR lo) {N : Nat} (hN : N < 1000) (hcs : (Nat.ble (k + 1) mcR && Nat.ble (n + N) msR) = true) (hd : decode cc pc = .ok (.newarray .long, 2)) (kk : ∀ q : Nat, Z C (k + 1) (n + N) (ws ++ [la C.2.1 q N (fun _ => 0)]) (pc + 2) L (.ref q :: st)) : Z C k n ws pc L (.int (nI N) :: st) := by
  obtain ⟨⟨p, l, e, R, s, m, args, below, meth, c, Q⟩, G, A, H0, nL⟩ := C
  obtain ⟨hx, hb, hml, hown, hts, hK, hA, hRR, hNN⟩ := h
  intro H locs ls hP hD hS hl
  subst hRR
  simp only [Bool.and_eq_true] at hcs
  refine va_newa (atype := .long) (a0 := (N, .inr (.inl fun _ => 0))) (ty := .long) hx hb (hts _ ac_long) rfl hK hP hD hS hA (fun cA => rfl) (nI_pos (by omega)) (nI_clamp (by omega)) (by show N * _ ≤ _; simp only [componentBytes]; omega) (Nat.le_of_ble_eq_true hcs.1) (Nat.le_of_ble_eq_true hcs.2) hd (fun q cA H1 hK1 hP1 hD1 hS1 => ?_)
  obtain rfl := zRA_i (t := 2) (fun _ z => by cases z) hK1 rfl
  exact kk q H1 locs ls hP1 hD1 hS1 hl
theorem z_newqm (h : zOk C cc own fr mcR msR lo) (hO : zAO C) {idx N : Nat} (hN : N < 1000) (hcl : Cond.classLink own idx RX2 ∈ zts) (hcs : (Nat.ble (k + 1) mcR && Nat.ble (n + N) msR) = true) (hd : decode cc pc = .ok (.anewarray idx, 3)) (kk : ∀ q : Nat, Z C (k + 1) (n + N) (ws ++ [ma C.2.1 q N (fun _ => none)]) (pc + 3) L (.ref q :: st)) : Z C k n ws pc L (.int (nI N) :: st) := by
  obtain ⟨⟨p, l, e, R, s, m, args, below, meth, c, Q⟩, G, A, H0, nL⟩ := C
  obtain ⟨hx, hb, hml, hown, hts, hK, hA, hRR, hNN⟩ := h
  intro H locs ls hP hD hS hl
  subst hRR
  simp only [Bool.and_eq_true] at hcs
  refine va_newq (C := RX2) hx hb hown (hts _ hcl) hO.1 hK hP hD hS hA (nI_pos (by omega)) (nI_clamp (by omega)) (by omega) (Nat.le_of_ble_eq_true hcs.1) (Nat.le_of_ble_eq_true hcs.2) hd (fun q cA H1 hK1 hP1 hD1 hS1 => ?_)
  obtain rfl := zRA_q (t := 3) hK1 rfl
  exact kk q H1 locs ls hP1 hD1 hS1 hl
theorem z_astqm (h : zOk C cc own fr mcR msR lo) (q qk : Nat) {a N j v : Nat} {f f' : Nat → Option Nat} {vs : List Value} {ws' : va_W} (he : ws[q]? = some (ma C.2.1 a N f)) (hv : ws[qk]? = some (ob v 2 vs)) (hj : j < N) (hN : N < 2 ^ 31) (hf : va_up f j (some v) = f') (hw : ws.set q (ma C.2.1 a N f') = ws') (hd : decode cc pc = .ok (.aastore, 1)) (kk : Z C k n ws' (pc + 1) L st) : Z C k n ws pc L (.ref v :: .int (nI j) :: .ref a :: st) := by
  subst hf
  subst hw
  obtain ⟨⟨p, l, e, R, s, m, args, below, meth, c, Q⟩, G, A, H0, nL⟩ := C
  obtain ⟨hx, hb, hml, hown, hts, hK, hA, hRR, hNN⟩ := h
  intro H locs ls hP hD hS hl
  subst hRR
  refine va_astq hx hb hK hP hD hS q 3 qk 2 he rfl hv rfl (vp_in_nI hj hN) hd (fun H1 locs1 hP1 hD1 hS1 => ?_)
  rw [nI_clamp (Nat.lt_trans hj hN)] at hP1 hD1
  exact kk H1 locs1 ls hP1 hD1 hS1 hl
theorem z_mext (q : Nat) {a N : Nat} {f f' : Nat → Option Nat} {ws' : va_W} (he : ws[q]? = some (ma C.2.1 a N f)) (hf : ∀ j, j < N → f j = f' j) (hw : ws.set q (ma C.2.1 a N f') = ws') (kk : Z C k n ws' pc L st) : Z C k n ws pc L st := by
  subst hw
  intro H locs ls hP hD hS hl
  have hat := hP q _ he
  have e2 : vp_cell C.2.1.2.2.2.2.1 (N, .inr (.inr (.inr (.inr f)))) = vp_cell C.2.1.2.2.2.2.1 (N, .inr (.inr (.inr (.inr f')))) := by
    rw [vp_cell_q, vp_cell_q]
    simp only [arrV]
    congr 1
    apply Array.ext
    · simp
    · intro i h1 h2
      simp at h1 h2 ⊢
      exact congrArg va_rf (hf i h1)
  refine kk H locs ls ?_ (hD.set he) hS hl
  exact hP.set hD he (show H[a]? = some (vp_cell _ _) by rw [← e2]; exact hat) (fun _ _ => rfl)
theorem z_newqs (h : zOk C cc own fr mcR msR lo) (hO : zAO C) {idx N : Nat} (hN : N < 1000) (hcl : Cond.classLink own idx RX3 ∈ zts) (hcs : (Nat.ble (k + 1) mcR && Nat.ble (n + N) msR) = true) (hd : decode cc pc = .ok (.anewarray idx, 3)) (kk : ∀ q : Nat, Z C (k + 1) (n + N) (ws ++ [sa C.2.1 q N (fun _ => none)]) (pc + 3) L (.ref q :: st)) : Z C k n ws pc L (.int (nI N) :: st) := by
  obtain ⟨⟨p, l, e, R, s, m, args, below, meth, c, Q⟩, G, A, H0, nL⟩ := C
  obtain ⟨hx, hb, hml, hown, hts, hK, hA, hRR, hNN⟩ := h
  intro H locs ls hP hD hS hl
  subst hRR
  simp only [Bool.and_eq_true] at hcs
  refine va_newq (C := RX3) hx hb hown (hts _ hcl) hO.2 hK hP hD hS hA (nI_pos (by omega)) (nI_clamp (by omega)) (by omega) (Nat.le_of_ble_eq_true hcs.1) (Nat.le_of_ble_eq_true hcs.2) hd (fun q cA H1 hK1 hP1 hD1 hS1 => ?_)
  obtain rfl := zRA_q (t := 4) hK1 rfl
  exact kk q H1 locs ls hP1 hD1 hS1 hl
theorem z_astqs (h : zOk C cc own fr mcR msR lo) (q qk : Nat) {a N j v : Nat} {f f' : Nat → Option Nat} {vs : List Value} {ws' : va_W} (he : ws[q]? = some (sa C.2.1 a N f)) (hv : ws[qk]? = some (ob v 3 vs)) (hj : j < N) (hN : N < 2 ^ 31) (hf : va_up f j (some v) = f') (hw : ws.set q (sa C.2.1 a N f') = ws') (hd : decode cc pc = .ok (.aastore, 1)) (kk : Z C k n ws' (pc + 1) L st) : Z C k n ws pc L (.ref v :: .int (nI j) :: .ref a :: st) := by
  subst hf
  subst hw
  obtain ⟨⟨p, l, e, R, s, m, args, below, meth, c, Q⟩, G, A, H0, nL⟩ := C
  obtain ⟨hx, hb, hml, hown, hts, hK, hA, hRR, hNN⟩ := h
  intro H locs ls hP hD hS hl
  subst hRR
  refine va_astq hx hb hK hP hD hS q 4 qk 3 he rfl hv rfl (vp_in_nI hj hN) hd (fun H1 locs1 hP1 hD1 hS1 => ?_)
  rw [nI_clamp (Nat.lt_trans hj hN)] at hP1 hD1
  exact kk H1 locs1 ls hP1 hD1 hS1 hl
theorem z_sext (q : Nat) {a N : Nat} {f f' : Nat → Option Nat} {ws' : va_W} (he : ws[q]? = some (sa C.2.1 a N f)) (hf : ∀ j, j < N → f j = f' j) (hw : ws.set q (sa C.2.1 a N f') = ws') (kk : Z C k n ws' pc L st) : Z C k n ws pc L st := by
  subst hw
  intro H locs ls hP hD hS hl
  have hat := hP q _ he
  have e2 : vp_cell C.2.1.2.2.2.2.2 (N, .inr (.inr (.inr (.inr f)))) = vp_cell C.2.1.2.2.2.2.2 (N, .inr (.inr (.inr (.inr f')))) := by
    rw [vp_cell_q, vp_cell_q]
    simp only [arrV]
    congr 1
    apply Array.ext
    · simp
    · intro i h1 h2
      simp at h1 h2 ⊢
      exact congrArg va_rf (hf i h1)
  refine kk H locs ls ?_ (hD.set he) hS hl
  exact hP.set hD he (show H[a]? = some (vp_cell _ _) by rw [← e2]; exact hat) (fun _ _ => rfl)
theorem z_putF (h : zOk C cc own fr mcR msR lo) {ci : Nat} {Cn : String} {T : u_T} {N : Nat} {ty : Nat → FieldType} (F : zFc ci Cn T N ty) (q kf : Nat) {a idx : Nat} {fs : List Value} {v : Value} {ref : String} {ws' : va_W} (he : ws[q]? = some (ob a ci fs)) (hw : ws.set q (ob a ci (fs.set kf v)) = ws') (hk : kf < N) (hl : Cond.fieldLink own idx ref (T kf).2.1 (T kf).2.2.1 ∈ zts) (hr : ref = (T kf).1) (hfin : (T kf).2.2.2 = true) (hnm : C.1.2.2.2.2.2.2.2.2.1.name = "<init>") (hdecl : (T kf).1 = own) (hn : narrow (ty kf) v = v) (hfit : fits (ty kf) v = true) (hlen : Nat.ble (kf + 1) fs.length = true) (hd : decode cc pc = .ok (.putfield idx, 3)) (kk : Z C k n ws' (pc + 3) L st) : Z C k n ws pc L (v :: .ref a :: st) := by
  subst hr
  subst hw
  obtain ⟨⟨p, l, e, R, s, m, args, below, meth, c, Q⟩, G, A, H0, nL⟩ := C
  obtain ⟨hx, hb, hml, hown, hts, hK, hA, hR, hN⟩ := h
  intro H locs ls hP hD hS hll
  exact va_putF hx hb hts F.2.1 ty F.2.2.1 F.2.2.2 hown hK hP hD hS q he F.1 kf hk (hts _ hl) (fun _ h9 => h9) hfin hnm hdecl (F.2.2.1 kf hk) hn hfit (Nat.le_of_ble_eq_true hlen) hd (fun H1 locs1 hP1 hD1 hS1 => kk H1 locs1 ls hP1 hD1 hS1 hll)
theorem z_callI (h : zOk C cc own fr mcR msR lo) {S : Type} {post : S → Prop} {w1 : S → va_W} {y : MethodName} {bytes : ByteArray} {maxL idx nA b : Nat} {fr' mc ms lo' : Nat} {As : List Value} {wc : va_W} (ct : zMv C.1.2.1 C.2.1 y bytes maxL fr' mc ms lo' (.ref b :: As) wc post w1) (kb : zLB y bytes maxL none nA ∧ Cond.instanceMethod y ∈ zts) (hy1 : y.name = "<init>") (kl : Cond.methodLink own idx y ∈ zts) (wz : S → va_W) {wr : va_W} (isC isR isZ : List Nat) (hcut : zCut ws wc wr w1 wz isC isR isZ) (hnA : As.length = nA) (hRm : (Nat.ble (fr' + 1) fr && Nat.ble (19 + maxL + lo') lo && Nat.ble ((st.map fun v => v.category).sum) 8) = true) (hcs9 : (Nat.ble (k + mc) mcR && Nat.ble (n + ms) msR) = true) (hd : decode cc pc = .ok (.invokespecial idx, 3)) (hst : st0 = As.reverse ++ .ref b :: st) (kk : ∀ (u : S), post u → Z C (k + mc) (n + ms) (wz u) (pc + 3) L st) : Z C k n ws pc L st0 := by
  subst hst
  obtain ⟨⟨p, l, e, R, s, m, args, below, meth, c, Q⟩, G, A, H0, nL⟩ := C
  obtain ⟨hx, hb, hml, hown, hts, hK, hA, hR, hN⟩ := h
  intro H locs ls hP hD hS hl
  subst hR
  simp only [Bool.and_eq_true] at hcs9
  have hcs : k + mc ≤ mcR ∧ n + ms ≤ msR := ⟨Nat.le_of_ble_eq_true hcs9.1, Nat.le_of_ble_eq_true hcs9.2⟩
  simp only [Bool.and_eq_true] at hRm
  obtain ⟨⟨r1, r2⟩, r3⟩ := hRm
  have hPc : va_P G.1 vwCl wc H := zCut.pick hcut.1 hP
  have hDc := hD.sub isC hcut.nd.2.1 hcut.1
  have hFc := va_free (wc := wc) hD hS hA isC hcut.1
  refine va_callv (va_runI (As := As) (rest := st) (g := F0 m pc ls (As.reverse ++ .ref b :: st)) ⟨hx, hb, hml, hown, hts⟩ (ct H.size) ⟨zLB.callB (p := p) (m := m) kb.1 hts kl ⟨Nat.le_of_ble_eq_true r1, Nat.le_of_ble_eq_true r2⟩, hy1, hts _ kb.2⟩ ⟨zPre.blind, fun U hU hW => ⟨rfl, by rw [hU], by rw [hU]; exact hPc, va_K.moved hW.alike hK, hDc.weaken (fun _ _ _ _ => trivial), hN.warm hW⟩⟩ rfl hnA hl.1 rfl (lv_room (Nat.le_of_ble_eq_true r3)) hd hcs) hS (fun q _ h => hFc q h) hFc (fun u t H1 locs1 ht hvm hw hB hz1 hk1 hS1 => ?_)
  obtain ⟨hP1, hD1⟩ := hB
  rw [ht] at hP1
  obtain ⟨hP2, hD2⟩ := hcut.back hP hD hk1 hFc hP1 hD1
  exact kk u hw H1 locs1 ls hP2 hD2 hS1 hl
theorem z_ocallI (h : zOk C cc own fr mcR msR lo) (hO : zAO C) {S : Type} {post : S → Prop} {w1 : S → va_W} {y : MethodName} {bytes : ByteArray} {maxL idx nA b : Nat} {fr' mc ms lo' : Nat} {As : List Value} {wc : va_W} (ct : zOMv C.1.2.1 C.2.1 y bytes maxL fr' mc ms lo' (.ref b :: As) wc post w1) (kb : zLB y bytes maxL none nA ∧ Cond.instanceMethod y ∈ zts) (hy1 : y.name = "<init>") (kl : Cond.methodLink own idx y ∈ zts) (wz : S → va_W) {wr : va_W} (isC isR isZ : List Nat) (hcut : zCut ws wc wr w1 wz isC isR isZ) (hnA : As.length = nA) (hRm : (Nat.ble (fr' + 1) fr && Nat.ble (19 + maxL + lo') lo && Nat.ble ((st.map fun v => v.category).sum) 8) = true) (hcs9 : (Nat.ble (k + mc) mcR && Nat.ble (n + ms) msR) = true) (hd : decode cc pc = .ok (.invokespecial idx, 3)) (hst : st0 = As.reverse ++ .ref b :: st) (kk : ∀ (u : S), post u → Z C (k + mc) (n + ms) (wz u) (pc + 3) L st) : Z C k n ws pc L st0 := by
  subst hst
  obtain ⟨⟨p, l, e, R, s, m, args, below, meth, c, Q⟩, G, A, H0, nL⟩ := C
  obtain ⟨hx, hb, hml, hown, hts, hK, hA, hR, hN⟩ := h
  intro H locs ls hP hD hS hl
  subst hR
  simp only [Bool.and_eq_true] at hcs9
  have hcs : k + mc ≤ mcR ∧ n + ms ≤ msR := ⟨Nat.le_of_ble_eq_true hcs9.1, Nat.le_of_ble_eq_true hcs9.2⟩
  simp only [Bool.and_eq_true] at hRm
  obtain ⟨⟨r1, r2⟩, r3⟩ := hRm
  have hPc : va_P G.1 vwCl wc H := zCut.pick hcut.1 hP
  have hDc := hD.sub isC hcut.nd.2.1 hcut.1
  have hFc := va_free (wc := wc) hD hS hA isC hcut.1
  refine va_callv (va_runI (As := As) (rest := st) (g := F0 m pc ls (As.reverse ++ .ref b :: st)) ⟨hx, hb, hml, hown, hts⟩ (ct H.size) ⟨zLB.callB (p := p) (m := m) kb.1 hts kl ⟨Nat.le_of_ble_eq_true r1, Nat.le_of_ble_eq_true r2⟩, hy1, hts _ kb.2⟩ ⟨zPreO.blind, fun U hU hW => ⟨rfl, ⟨by rw [hU], by rw [hU]; exact hPc, va_K.moved hW.alike hK, hDc.weaken (fun _ _ _ _ => trivial), hN.warm hW⟩, va_AO.moved hW.alike hO.1, va_AO.moved hW.alike hO.2⟩⟩ rfl hnA hl.1 rfl (lv_room (Nat.le_of_ble_eq_true r3)) hd hcs) hS (fun q _ h => hFc q h) hFc (fun u t H1 locs1 ht hvm hw hB hz1 hk1 hS1 => ?_)
  obtain ⟨hP1, hD1⟩ := hB
  rw [ht] at hP1
  obtain ⟨hP2, hD2⟩ := hcut.back hP hD hk1 hFc hP1 hD1
  exact kk u hw H1 locs1 ls hP2 hD2 hS1 hl
theorem z_widen {k' n' : Nat} (hk : k ≤ k') (hn : n ≤ n') (kk : Z C k' n' ws pc L st) : Z C k n ws pc L st := by
  intro H locs ls hP hD hS hl
  exact W.widen hk hn (kk H locs ls hP hD hS hl)
end ZI
/-- the numbers of a new game -/
def mom0 : nst := fun i => if i = 6 then 1 else if i < 7 then 0 else if i < 11 then 10 else 0
theorem mom0_h {j : Nat} (h : j < 4) : mom0 (7 + j) = 10 := by
  unfold mom0
  rw [if_neg (by omega), if_neg (by omega), if_pos (by omega)]
