abbrev mf (b : Nat) (σ : Nat → Nat) : List Value := [.ref b, .int (nI (σ 2)), .int (nI (σ 1)), .int (nI (σ 3)), .int (nI (σ 4)), .int (nI (σ 5)), .int (nI (σ 6))]
abbrev sh (d : Nat) (σ : Nat → Nat) : Nat → Nat := fun k => σ (d + k)
/-- the model's object: addresses ad, numbers v, by the fields' places -/
abbrev rf (ad v : Nat → Nat) : List Value := [.ref (ad 0), .int (nI (v 1)), .ref (ad 2), .int (nI (v 3)), .int (nI (v 4)), .int (nI (v 5)), .ref (ad 6), .int (nI (v 7)), .ref (ad 8), .ref (ad 9), .int (nI (v 10)), .ref (ad 11), .int (nI (v 12)), .int (nI (v 13)), .int (nI (v 14)), .int (nI (v 15)), .ref (ad 16), .int (nI (v 17)), .int (nI (v 18)), .ref (ad 19), .ref (ad 20), .ref (ad 21), .ref (ad 22)]
theorem sh_up (d : Nat) (σ : Nat → Nat) (j v : Nat) : va_up (sh d σ) j v = sh d (va_up σ (d + j) v) := by
  funext i
  simp [va_up, sh]
theorem sh_lo {d i : Nat} (σ : Nat → Nat) (v : Nat) (hi : i < d) : sh d (va_up σ i v) = sh d σ := by
  funext k
  have : d + k ≠ i := by omega
  simp [va_up, sh, this]
theorem up_ne {α : Type} {f : Nat → α} {j i : Nat} {v : α} (h : i ≠ j) : va_up f j v i = f i := by simp [va_up, h]
theorem up_eq {α : Type} {f : Nat → α} {j : Nat} {v : α} : va_up f j v j = v := by simp [va_up]
theorem mf_hi {j : Nat} (b : Nat) (σ : Nat → Nat) (v : Nat) (hj : 7 ≤ j) : mf b (va_up σ j v) = mf b σ := by
  simp only [mf]
  rw [up_ne (by omega), up_ne (by omega), up_ne (by omega), up_ne (by omega), up_ne (by omega), up_ne (by omega)]
theorem nI_inc (a : Nat) : nI a + Int32.ofInt 1 = nI (a + 1) := nI_1 a
theorem nI_dec (a : Nat) : nI (a + 1) + Int32.ofInt (-1) = nI a := pk_m1 a
theorem set_same {ws : va_W} {q : Nat} {x : Nat × va_E} (h : ws[q]? = some x) : ws.set q x = ws := by
  obtain ⟨hl, hx⟩ := List.getElem?_eq_some_iff.mp h
  rw [← hx]
  exact List.set_getElem_self hl
section ZM
variable {C : zC} {cc : ByteArray} {own : String} {fr mc ms lo k n : Nat} {ws : va_W} {pc : Nat} {L : List (Nat × Value)} {st : List Value}
theorem z_putM (h : zOk C cc own fr mc ms lo) (q q' kf fi : Nat) {a b idx v : Nat} {σ : Nat → Nat} {ref : String} {ws' : va_W} (he : ws[q]? = some (ob a 2 (mf b σ))) (ha : ws[q']? = some (ia C.2.1 b 4 (fN (sh 7 σ)))) (hset : (mf b σ).set kf (.int (nI v)) = mf b (va_up σ fi v)) (hc : (decide (q ≠ q') && Nat.ble (fi + 1) 7 && Nat.ble (kf + 1) 7) = true) (hw : (ws.set q (ob a 2 (mf b (va_up σ fi v)))).set q' (ia C.2.1 b 4 (fN (sh 7 (va_up σ fi v)))) = ws') (hl : Cond.fieldLink own idx ref (TX2 kf).2.1 (TX2 kf).2.2.1 ∈ zts) (hr : ref = (TX2 kf).1) (hfin : (TX2 kf).2.2.2 = false) (hn : narrow (tyX2 kf) (.int (nI v)) = .int (nI v)) (hfit : fits (tyX2 kf) (.int (nI v)) = true) (hd : decode cc pc = .ok (.putfield idx, 3)) (kk : Z C k n ws' (pc + 3) L st) : Z C k n ws pc L (.int (nI v) :: .ref a :: st) := by
  simp only [Bool.and_eq_true, decide_eq_true_eq] at hc
  obtain ⟨⟨c1, c2⟩, c3⟩ := hc
  refine z_put h fX2 q kf he rfl (Nat.le_of_ble_eq_true c3) hl hr hfin hn hfit c3 hd ?_
  refine z_eq (ws' := ws') ?_ kk
  rw [← hw, hset, sh_lo σ v (Nat.le_of_ble_eq_true c2)]
  refine (set_same ?_).symm
  rw [List.getElem?_set_ne c1]
  exact ha
theorem z_iastM (h : zOk C cc own fr mc ms lo) (q q' : Nat) {a b j v : Nat} {σ : Nat → Nat} {ws' : va_W} (he : ws[q]? = some (ob a 2 (mf b σ))) (ha : ws[q']? = some (ia C.2.1 b 4 (fN (sh 7 σ)))) (hj : j < 4) (hc : decide (q ≠ q') = true) (hw : (ws.set q (ob a 2 (mf b (va_up σ (7 + j) v)))).set q' (ia C.2.1 b 4 (fN (sh 7 (va_up σ (7 + j) v)))) = ws') (hd : decode cc pc = .ok (.iastore, 1)) (kk : Z C k n ws' (pc + 1) L st) : Z C k n ws pc L (.int (nI v) :: .int (nI j) :: .ref b :: st) := by
  refine z_iast h q' ha hj (by decide) ((updN _ _ _).trans (congrArg fN (sh_up 7 σ j v))) rfl hd ?_
  refine z_eq (ws' := ws') ?_ kk
  rw [← hw, mf_hi b σ v (by omega), set_same he]
theorem z_max (h : zOk C cc own fr mc ms lo) {idx : Nat} {x y v : Int32} (hl : Cond.methodLink own idx Lib.Math.max.name ∈ zts) (hv : (if x < y then y else x) = v) (hR : (Nat.ble 1 fr && Nat.ble ((st.map fun v => v.category).sum + 13) lo) = true) (hcs : k ≤ mc ∧ n ≤ ms) (hd : decode cc pc = .ok (.invokestatic idx, 3)) (kk : Z C k n ws (pc + 3) L (.int v :: st)) : Z C k n ws pc L (.int y :: .int x :: st) := by
  subst hv
  obtain ⟨⟨p, l, e, R, s, m, args, below, meth, c, Q⟩, G, A, H0, nL⟩ := C
  obtain ⟨hx, hb, hml, hown, hts, hK, hA, hRR, hN⟩ := h
  intro H locs ls hP hD hS hll
  subst hRR
  simp only [Bool.and_eq_true] at hR
  exact va_mmax hx hb (hml.trans hll.1.symm) hown (hts _ hl) (hts _ st_max) (hts _ ii_Math) (hts _ co_max) (Nat.le_of_ble_eq_true hR.1) (Nat.le_of_ble_eq_true hR.2) hcs.1 hcs.2 hd (kk H locs ls hP hD hS hll)
theorem z_min (h : zOk C cc own fr mc ms lo) {idx : Nat} {x y v : Int32} (hl : Cond.methodLink own idx Lib.Math.min.name ∈ zts) (hv : (if y < x then y else x) = v) (hR : (Nat.ble 1 fr && Nat.ble ((st.map fun v => v.category).sum + 13) lo) = true) (hcs : k ≤ mc ∧ n ≤ ms) (hd : decode cc pc = .ok (.invokestatic idx, 3)) (kk : Z C k n ws (pc + 3) L (.int v :: st)) : Z C k n ws pc L (.int y :: .int x :: st) := by
  subst hv
  obtain ⟨⟨p, l, e, R, s, m, args, below, meth, c, Q⟩, G, A, H0, nL⟩ := C
  obtain ⟨hx, hb, hml, hown, hts, hK, hA, hRR, hN⟩ := h
  intro H locs ls hP hD hS hll
  subst hRR
  simp only [Bool.and_eq_true] at hR
  exact va_mmin hx hb (hml.trans hll.1.symm) hown (hts _ hl) (hts _ st_min) (hts _ ii_Math) (hts _ co_min) (Nat.le_of_ble_eq_true hR.1) (Nat.le_of_ble_eq_true hR.2) hcs.1 hcs.2 hd (kk H locs ls hP hD hS hll)
theorem z_tab (h : zOk C cc own fr mc ms lo) {dflt lo' hi : Int} {offs : Array Int} {len tgt j : Nat} {off : Int} (hj : j < 2 ^ 31) (hd : decode cc pc = .ok (.tableswitch dflt lo' hi offs, len)) (h1 : ¬ (j : Int) < lo') (h2 : ¬ hi < (j : Int)) (ho : offs[((j : Int) - lo').toNat]? = some off) (ht : (pc : Int) + off = (tgt : Int)) (kk : Z C k n ws tgt L st) : Z C k n ws pc L (.int (nI j) :: st) := by
  obtain ⟨⟨p, l, e, R, s, m, args, below, meth, c, Q⟩, G, A, H0, nL⟩ := C
  obtain ⟨hx, hb, hml, hown, hts, hK, hA, hRR, hN⟩ := h
  intro H locs ls hP hD hS hll
  exact lv_tableIn hx hb hd (by rw [nI_toInt hj]; exact h1) (by rw [nI_toInt hj]; exact h2) (by rw [nI_toInt hj]; exact ho) ht (kk H locs ls hP hD hS hll)
theorem z_tabOut (h : zOk C cc own fr mc ms lo) {dflt lo' hi : Int} {offs : Array Int} {len tgt : Nat} {x : Int32} (hd : decode cc pc = .ok (.tableswitch dflt lo' hi offs, len)) (h1 : x.toInt < lo' ∨ hi < x.toInt) (ht : (pc : Int) + dflt = (tgt : Int)) (kk : Z C k n ws tgt L st) : Z C k n ws pc L (.int x :: st) := by
  obtain ⟨⟨p, l, e, R, s, m, args, below, meth, c, Q⟩, G, A, H0, nL⟩ := C
  obtain ⟨hx, hb, hml, hown, hts, hK, hA, hRR, hN⟩ := h
  intro H locs ls hP hD hS hll
  exact lv_tableOut hx hb hd h1 ht (kk H locs ls hP hD hS hll)
theorem z_look (h : zOk C cc own fr mc ms lo) {dflt : Int} {ps : Array (Int × Int)} {len tgt : Nat} {x : Int32} {off : Int} (hd : decode cc pc = .ok (.lookupswitch dflt ps, len)) (hp : (ps.toList.zip (ps.toList.drop 1)).all (fun (a, next) => a.1 < next.1) = true) (ho : Op.lookupswitch.offset ps.toList dflt x.toInt = off) (ht : (pc : Int) + off = (tgt : Int)) (kk : Z C k n ws tgt L st) : Z C k n ws pc L (.int x :: st) := by
  obtain ⟨⟨p, l, e, R, s, m, args, below, meth, c, Q⟩, G, A, H0, nL⟩ := C
  obtain ⟨hx, hb, hml, hown, hts, hK, hA, hRR, hN⟩ := h
  intro H locs ls hP hD hS hll
  exact lv_lookup hx hb hd hp ho ht (kk H locs ls hP hD hS hll)
end ZM
/-- a number between two -/
def inb (x : Int32) (lo hi : Int) : Bool := decide (lo ≤ x.toInt) && decide (x.toInt ≤ hi)
def gN (x : Int32) : Nat := x.toNatClampNeg
theorem gN_nI {j : Nat} (h : j < 2 ^ 31) : gN (nI j) = j := nI_clamp h
theorem inb_nI {j : Nat} (h : j < 2 ^ 31) (lo hi : Int) : inb (nI j) lo hi = (decide (lo ≤ (j : Int)) && decide ((j : Int) ≤ hi)) := by rw [inb, nI_toInt h]
theorem inb_cases (x : Int32) (lo hi : Nat) (hh : hi < 2 ^ 31) : (∃ j, lo ≤ j ∧ j ≤ hi ∧ x = nI j) ∨ inb x lo hi = false := by
  by_cases h : (lo : Int) ≤ x.toInt ∧ x.toInt ≤ hi
  · left
    have h0 : ¬ x < 0 := by
      intro c
      have := Int32.lt_iff_toInt_lt.mp c
      have e0 : (0 : Int32).toInt = 0 := by decide
      omega
    obtain ⟨j, hj, rfl⟩ := nI_of h0
    rw [nI_toInt hj] at h
    exact ⟨j, by omega, by omega, rfl⟩
  · right
    simp only [inb, Bool.and_eq_false_iff, decide_eq_false_iff_not]
    omega
/-- a boolean's answer -/
def zb (c : Prop) (r : Int32) : Prop := (c → r = nI 1) ∧ (¬ c → r = nI 0)
