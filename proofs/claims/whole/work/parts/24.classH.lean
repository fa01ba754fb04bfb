theorem na_copy : Cond.native arraycopyName ∈ zts := zin (by decide +kernel) rfl
theorem st_copy : Cond.static arraycopyName ∈ zts := zin (by decide +kernel) rfl
theorem ii_System : Cond.initialized "java/lang/System" ∈ zts := zin (by decide +kernel) rfl
theorem z_copyl {C : zC} {cc : ByteArray} {own : String} {fr mc ms lo k n : Nat} {ws : va_W} {pc : Nat} {L : List (Nat × Value)} {st : List Value} (h : zOk C cc own fr mc ms lo) (q0 q1 : Nat) {a0 a idx N sp dp m : Nat} {f g : Nat → Int64} {ws' : va_W} (ha0 : ws[q0]? = some (la C.2.1 a0 N f)) (ha1 : ws[q1]? = some (la C.2.1 a N g)) (hl : Cond.methodLink own idx arraycopyName ∈ zts) (hN : N < 2 ^ 31) (h1 : sp + m ≤ N) (h2 : dp + m ≤ N) (hR : (Nat.ble 1 fr && Nat.ble ((st.map fun v => v.category).sum + (nativeFrameWords "java/lang/System" "arraycopy" 5 + 11)) lo) = true) (hw : ws.set q1 (la C.2.1 a N (va_cpy f g sp dp m)) = ws') (hd : decode cc pc = .ok (.invokestatic idx, 3)) (kk : Z C k n ws' (pc + 3) L st) : Z C k n ws pc L (.int (nI m) :: .int (nI dp) :: .ref a :: .int (nI sp) :: .ref a0 :: st) := by
  subst hw
  obtain ⟨⟨p, l, e, R, s, m', args, below, meth, c, Q⟩, G, A, H0, nL⟩ := C
  obtain ⟨hx, hb, hml, hown, hts, hK, hA, hRR, hNN⟩ := h
  intro H locs ls hP hD hS hll
  subst hRR
  simp only [Bool.and_eq_true] at hR
  have c0 : (nI sp).toNatClampNeg = sp := nI_clamp (by omega)
  have c1 : (nI dp).toNatClampNeg = dp := nI_clamp (by omega)
  have c2 : (nI m).toNatClampNeg = m := nI_clamp (by omega)
  refine va_copyl hx hb (hml.trans hll.1.symm) hown (hts _ hl) (hts _ na_copy) (hts _ st_copy) (hts _ ii_System) hK hP hD hS q0 q1 2 2 ha0 ha1 rfl rfl rfl (nI_pos (by omega)) (nI_pos (by omega)) (nI_pos (by omega)) (by rw [c0, c2]; exact h1) (by rw [c1, c2]; exact h2) (fun i hi => rfl) (Nat.le_of_ble_eq_true hR.1) (Nat.le_of_ble_eq_true hR.2) hd (fun H1 locs1 hP1 hD1 hS1 => ?_)
  rw [c0, c1, c2] at hP1 hD1
  exact kk H1 locs1 ls hP1 hD1 hS1 hll
theorem fits_ex {x : Int32} {m z : Nat} (hm : m < 2147483648) (h : fitsI x (nI m) z = true) : ∃ j, j + m ≤ z ∧ x = nI j := by
  simp only [fitsI, Bool.and_eq_true, decide_eq_true_eq, nI_toInt hm] at h
  obtain ⟨j, hj, rfl⟩ := nI_of (x := x) (by rw [Int32.lt_iff_toInt_lt, i32_0]; omega)
  rw [nI_toInt hj] at h
  exact ⟨j, by omega, rfl⟩
theorem fits_ex2 {x y : Int32} {z : Nat} (hz : z ≤ 24) (h : fitsI x y z = true) : ∃ j m, j + m ≤ z ∧ x = nI j ∧ y = nI m := by
  have h' := h
  simp only [fitsI, Bool.and_eq_true, decide_eq_true_eq] at h
  obtain ⟨j, hj, rfl⟩ := nI_of (x := x) (by rw [Int32.lt_iff_toInt_lt, i32_0]; omega)
  obtain ⟨m, hm, rfl⟩ := nI_of (x := y) (by rw [Int32.lt_iff_toInt_lt, i32_0]; omega)
  rw [nI_toInt hj, nI_toInt hm] at h
  exact ⟨j, m, by omega, rfl, rfl⟩
theorem faultI_0 {q z : Nat} {l x y : Int32} (h : faultI q z l x y = 0) : ¬ q = 0 ∧ l = ln q ∧ fitsI x y z = true := by
  unfold faultI at h
  split at h
  · exact absurd h (by decide)
  · rename_i h1
    split at h
    · exact absurd h (by decide)
    · rename_i h2
      split at h
      · rename_i h3
        exact ⟨h1, Decidable.not_not.mp h2, h3⟩
      · exact absurd h (by decide)
def okLists (a sh ln_ n w : Int32) : Bool := inb a 0 3 && (inb sh 0 3 && inb ln_ 0 3) && inb n 1 8 && inb w 0 1
def spLists (s : nst) (q z : Nat) (I : Nat → Int64) (a sh ll i n w : Int32) : Int32 := if okLists a sh ll n w = true then (if faultI q z ll i n = 0 then (if gN w = 0 then nI (cntL s (gN a) (fun k => I (gN i + k)) (gN n) 64) else l4 (lstL s (gN a) (fun k => I (gN i + k)) (gN n) 64)) else faultI q z ll i n) else -1
def okSeen (s : nst) (a t sh ll n w : Int32) : Bool := inb a 0 3 && inb t 0 ((s 0 : Nat) - 1 : Int) && (inb sh 0 3 && inb ll 0 3) && inb n 1 8 && inb w 0 1
def spSeen (s : nst) (q z : Nat) (I : Nat → Int64) (a t sh ll i n w : Int32) : Int32 := if okSeen s a t sh ll n w = true then (if faultI q z ll i n = 0 then (if gN w = 0 then nI (seenTo s (11 + 3 * gN t) (gN a) (fun k => I (gN i + k)) (gN n) 0 5) else nI (seenTo s (13 + 3 * gN t) (gN a) (fun k => I (gN i + k)) (gN n) 1 10)) else faultI q z ll i n) else -1
def okFilm (a n sh ll : Int32) : Bool := inb a 0 3 && inb n 1 24 && (inb sh 0 3 && inb ll 0 3)
def spFilm (q z : Nat) (a n sh ll i : Int32) : Int32 := if okFilm a n sh ll = true then (if faultI q z ll i n = 0 then n else faultI q z ll i n) else -1
def filmI (I : Nat → Int64) (s : nst) (a i n : Nat) : Nat → Int64 := fun j => if i ≤ j ∧ j < i + n then lN (goN (j - i + 1) s (7 + a)) else I j
theorem filmI_up (I : Nat → Int64) (s : nst) (a i k : Nat) : vp_updL (filmI I s a i k) (i + k) (lN (goN (k + 1) s (7 + a))) = filmI I s a i (k + 1) := by
  funext j
  unfold vp_updL filmI
  by_cases e : j = i + k
  · subst e
    rw [if_pos rfl, if_pos (by omega), show i + k - i = k by omega]
  · rw [if_neg e]
    by_cases c : i ≤ j ∧ j < i + k
    · rw [if_pos c, if_pos (by omega)]
    · rw [if_neg c, if_neg (by omega)]
theorem filmI_0 (I : Nat → Int64) (s : nst) (a i : Nat) : filmI I s a i 0 = I := by
  funext j
  unfold filmI
  rw [if_neg (by omega)]
def lowB (k : Nat) (v : Int64) : Int64 := if k = 0 then v.toInt32.toInt8.toInt32.toInt64 else if k = 1 then v.toInt32.toInt16.toInt32.toInt64 else if k = 2 then v.toInt32.toInt64 else v
def okPl (a b : Int32) : Bool := inb a 0 3 && inb b 0 3
def spItem (q z : Nat) (sh ll i : Int32) : Int32 := if okPl sh ll = true then (if faultI q z ll i (nI 1) = 0 then nI 1 else faultI q z ll i (nI 1)) else -1
def spSheet (sh ll n : Int32) : Int32 := if okPl sh ll = true ∧ ¬ nI 24 < n then (if n < 0 then -14 else n) else -1
def okSheet (sh ll n : Int32) : Bool := okPl sh ll && decide (¬ nI 24 < n) && decide (¬ n < 0)
def spDrop (q z : Nat) (sh : Int32) : Int32 := if inb sh 0 3 = true then (if q = 0 then -11 else nI z) else -1
def spCopy (q1 z1 q2 z2 : Nat) (f i t j n : Int32) : Int32 := if okPl f t = true then (if q1 = 0 ∨ q2 = 0 then -11 else if ¬ q1 = q2 then -12 else if fitsI i n z1 = true ∧ fitsI j n z2 = true then n else -13) else -1
def spType (m : Nat) (c : Int32) : Int32 := if inb c 32 126 = true then (if m = 80 then -3 else nI (m + 1)) else -1
def okType (m : Nat) (c : Int32) : Bool := inb c 32 126 && decide (m < 80)
theorem i2c_nI {c : Nat} (h : c < 65536) : ((nI c).toUInt32 % 65536).toInt32 = nI c := by
  rw [pk_char, pk_tn (by omega), Nat.mod_eq_of_lt h]
set_option maxRecDepth 100000 in
set_option maxHeartbeats 4000000 in
theorem c_X6_type (l : Launch) (G : zG) (x : Nat) (w : Nat) (kw : Nat) (ik : Nat) (tp : Nat) (sx : Nat) (fo : Nat) (gu : Nat) (ch : Nat) (now : Nat) (nh : Nat) (cr : Nat) (past : Nat) (o : Nat) (u : Nat) (lt : Nat) (m : Nat) (pl : Nat) (tau : nst) (c : Int32) (h0 : m ≤ 80) : zMi l G yX6_type cX6_type 2 .int 2 0 0 41 [.ref x, .int c] [ob x 6 [.ref w, .ref kw, .int (nI ik), .ref tp, .ref sx, .ref fo, .ref gu, .ref ch], ob w 5 [.ref now, .ref cr, .ref past, .int (nI o), .int (nI u)], ob tp 4 [.ref lt, .int (nI m), .int (nI pl)], ca G lt 80 (fN tau)] (fun (r : Int32) (_u : Unit) => r = spType m c) (fun (_u : Unit) => [ob x 6 [.ref w, .ref kw, .int (nI ik), .ref tp, .ref sx, .ref fo, .ref gu, .ref ch], ob w 5 [.ref now, .ref cr, .ref past, .int (nI o), .int (nI u)], ob tp 4 [.ref lt, .int (nI (cond (okType m c) (m + 1) (m))), .int (nI pl)], ca G lt 80 (fN (cond (okType m c) (va_up tau m (gN c)) (tau)))]) := by
  refine zMi.of (by decide) rfl (fun X A H0 hX hXl hR => ?_)
  show Z (X, G, A, H0, 2) 0 0 [ob x 6 [.ref w, .ref kw, .int (nI ik), .ref tp, .ref sx, .ref fo, .ref gu, .ref ch], ob w 5 [.ref now, .ref cr, .ref past, .int (nI o), .int (nI u)], ob tp 4 [.ref lt, .int (nI m), .int (nI pl)], ca G lt 80 (fN tau)] 0 [(0, .ref x), (1, .int c)] []
  subst hXl
  refine z_iload_n hX 1 dX6_type_0 rfl ?_
  refine z_bipush (v := nI 32) hX dX6_type_1 (by decide) ?_
  refine z_bipush (v := nI 126) hX dX6_type_3 (by decide) ?_
  refine z_callSi (st := []) hX (c_X6_isWithinX _ G c 32 126 (by omega) (by omega)) lb_X6_isWithin ml_X6_62 (fun (_u : Unit) => [ob x 6 [.ref w, .ref kw, .int (nI ik), .ref tp, .ref sx, .ref fo, .ref gu, .ref ch], ob w 5 [.ref now, .ref cr, .ref past, .int (nI o), .int (nI u)], ob tp 4 [.ref lt, .int (nI m), .int (nI pl)], ca G lt 80 (fN tau)]) (wr := [ob x 6 [.ref w, .ref kw, .int (nI ik), .ref tp, .ref sx, .ref fo, .ref gu, .ref ch], ob w 5 [.ref now, .ref cr, .ref past, .int (nI o), .int (nI u)], ob tp 4 [.ref lt, .int (nI m), .int (nI pl)], ca G lt 80 (fN tau)]) [] [0, 1, 2, 3] [0, 1, 2, 3] ⟨rfl, rfl, rfl, fun _ => rfl⟩ rfl rfl ⟨Nat.le_refl _, Nat.le_refl _⟩ dX6_type_5 rfl (fun r5 u5 hw5 => ?_)
  try dsimp only at hw5
  rcases hw5 with ⟨cj, hcl, hch, rfl, rfl⟩ | ⟨hw5, rfl⟩
  · skip
    refine zn_if_ne (tgt := 13) hX dX6_type_8 (by decide) (by omega) (fun _ => ?_) (fun c8 => absurd c8 (by omega))
    refine z_aload_n hX 0 dX6_type_13 rfl ?_
    refine z_get (v := .ref tp) hX fX6 0 3 rfl rfl (Nat.le_of_ble_eq_true rfl) fl_X6_26 rfl dX6_type_14 ?_
    refine z_callVi (st := []) hX (c_X4_hasRoom _ G tp lt m pl (by omega)) lb_X4_hasRoom ml_X6_128 (fun (_u : Unit) => [ob x 6 [.ref w, .ref kw, .int (nI ik), .ref tp, .ref sx, .ref fo, .ref gu, .ref ch], ob w 5 [.ref now, .ref cr, .ref past, .int (nI o), .int (nI u)], ob tp 4 [.ref lt, .int (nI m), .int (nI pl)], ca G lt 80 (fN tau)]) (wr := [ob x 6 [.ref w, .ref kw, .int (nI ik), .ref tp, .ref sx, .ref fo, .ref gu, .ref ch], ob w 5 [.ref now, .ref cr, .ref past, .int (nI o), .int (nI u)], ca G lt 80 (fN tau)]) [2] [0, 1, 3] [0, 1, 3, 2] ⟨rfl, rfl, rfl, fun _ => rfl⟩ 0 rfl rfl rfl rfl ⟨Nat.le_refl _, Nat.le_refl _⟩ dX6_type_17 rfl (fun r17 u17 hw17 => ?_)
    try dsimp only at hw17
    rcases Classical.em (m < 80) with b17 | b17
    · obtain rfl := hw17.1 b17
      refine zn_if_ne (tgt := 26) hX dX6_type_20 (by decide) (by omega) (fun _ => ?_) (fun c20 => absurd c20 (by omega))
      refine z_aload_n hX 0 dX6_type_26 rfl ?_
      refine z_get (v := .ref tp) hX fX6 0 3 rfl rfl (Nat.le_of_ble_eq_true rfl) fl_X6_26 rfl dX6_type_27 ?_
      refine z_iload_n hX 1 dX6_type_30 rfl ?_
      refine z_i2c (v := (nI cj)) hX dX6_type_31 (i2c_nI (by omega)) ?_
      refine z_callVv (st := []) hX (c_X4_append _ G tp lt m pl tau cj (by omega) (by omega)) lb_X4_append ml_X6_129 (fun (_u : Unit) => [ob x 6 [.ref w, .ref kw, .int (nI ik), .ref tp, .ref sx, .ref fo, .ref gu, .ref ch], ob w 5 [.ref now, .ref cr, .ref past, .int (nI o), .int (nI u)], ob tp 4 [.ref lt, .int (nI (m + 1)), .int (nI pl)], ca G lt 80 (fN (va_up tau m cj))]) (wr := [ob x 6 [.ref w, .ref kw, .int (nI ik), .ref tp, .ref sx, .ref fo, .ref gu, .ref ch], ob w 5 [.ref now, .ref cr, .ref past, .int (nI o), .int (nI u)]]) [2, 3] [0, 1] [0, 1, 2, 3] ⟨rfl, rfl, rfl, fun _ => rfl⟩ 0 rfl rfl rfl rfl ⟨Nat.le_refl _, Nat.le_refl _⟩ dX6_type_32 rfl (fun  u32 hw32 => ?_)
      refine z_aload_n hX 0 dX6_type_35 rfl ?_
      refine z_get (v := .ref tp) hX fX6 0 3 rfl rfl (Nat.le_of_ble_eq_true rfl) fl_X6_26 rfl dX6_type_36 ?_
      refine z_get (v := .int (nI (m + 1))) hX fX4 2 1 rfl rfl (Nat.le_of_ble_eq_true rfl) fl_X6_133 rfl dX6_type_39 ?_
      have e0 : okType m (nI cj) = true := by
        unfold okType
        rw [inb_t (by omega) (by omega) (by omega)]
        simp
        omega
      rw [e0, gN_nI (show cj < 2147483648 by omega)] at hR
      exact hR _ () _ _ (by unfold spType; rw [if_pos (inb_t (by omega) (by omega) (by omega)), if_neg (by omega)]) dX6_type_42 rfl
    · obtain rfl := hw17.2 b17
      refine zn_if_ne (tgt := 26) hX dX6_type_20 (by decide) (by omega) (fun c20 => absurd c20 (by omega)) (fun _ => ?_)
      refine z_bipush (v := (-3)) hX dX6_type_23 (by decide) ?_
      have e0 : okType m (nI cj) = false := by
        unfold okType
        simp
        intro _
        omega
      rw [e0] at hR
      exact hR _ () _ _ (by unfold spType; rw [if_pos (inb_t (by omega) (by omega) (by omega)), if_pos (by omega)]) dX6_type_25 rfl
  · have hb_c : inb c 32 126 = false := hw5
    refine zn_if_ne (tgt := 13) hX dX6_type_8 (by decide) (by omega) (fun c8 => absurd c8 (by omega)) (fun _ => ?_)
    refine z_iconst (v := (-1)) hX dX6_type_11 (by decide) ?_
    have e0 : okType m c = false := by
      unfold okType
      simp [hb_c]
    rw [e0] at hR
    exact hR _ () _ _ (by unfold spType; rw [if_neg (by simp [hb_c])]) dX6_type_12 rfl
set_option maxRecDepth 100000 in
set_option maxHeartbeats 4000000 in
theorem c_X6_lowestBits (l : Launch) (G : zG) (k : Nat) (v : Int64) (h0 : k < 4) : zMl l G yX6_lowestBits cX6_lowestBits 3 0 0 0 0 [.int (nI k), .long v] [] (fun (r : Int64) (_u : Unit) => r = lowB k v) (fun (_u : Unit) => []) := by
  refine zMl.of (by decide) rfl (fun X A H0 hX hXl hR => ?_)
  show Z (X, G, A, H0, 3) 0 0 [] 0 [(0, .int (nI k)), (1, .long v)] []
  subst hXl
  rcases (show k = 0 ∨ k = 1 ∨ k = 2 ∨ k = 3 by omega) with rfl | rfl | rfl | rfl
  · skip
    refine z_iload_n hX 0 dX6_lowestBits_0 rfl ?_
    refine z_tab (tgt := 28) (j := 0) hX (by decide) dX6_lowestBits_1 (by decide) (by decide) rfl (by decide) ?_
    refine z_lload_n hX 1 dX6_lowestBits_28 rfl ?_
    refine z_l2i (v := v.toInt32) hX dX6_lowestBits_29 rfl ?_
    refine z_i2b (v := v.toInt32.toInt8.toInt32) hX dX6_lowestBits_30 rfl ?_
    refine z_i2l (v := (v.toInt32.toInt8.toInt32.toInt64)) hX dX6_lowestBits_31 rfl ?_
    exact hR _ () _ _ rfl dX6_lowestBits_32
  · skip
    refine z_iload_n hX 0 dX6_lowestBits_0 rfl ?_
    refine z_tab (tgt := 33) (j := 1) hX (by decide) dX6_lowestBits_1 (by decide) (by decide) rfl (by decide) ?_
    refine z_lload_n hX 1 dX6_lowestBits_33 rfl ?_
    refine z_l2i (v := v.toInt32) hX dX6_lowestBits_34 rfl ?_
    refine z_i2s (v := v.toInt32.toInt16.toInt32) hX dX6_lowestBits_35 rfl ?_
    refine z_i2l (v := (v.toInt32.toInt16.toInt32.toInt64)) hX dX6_lowestBits_36 rfl ?_
    exact hR _ () _ _ rfl dX6_lowestBits_37
  · skip
    refine z_iload_n hX 0 dX6_lowestBits_0 rfl ?_
    refine z_tab (tgt := 38) (j := 2) hX (by decide) dX6_lowestBits_1 (by decide) (by decide) rfl (by decide) ?_
    refine z_lload_n hX 1 dX6_lowestBits_38 rfl ?_
    refine z_l2i (v := v.toInt32) hX dX6_lowestBits_39 rfl ?_
    refine z_i2l (v := (v.toInt32.toInt64)) hX dX6_lowestBits_40 rfl ?_
    exact hR _ () _ _ rfl dX6_lowestBits_41
  · skip
    refine z_iload_n hX 0 dX6_lowestBits_0 rfl ?_
    refine z_tabOut (tgt := 42) hX dX6_lowestBits_1 (by right; decide) (by decide) ?_
    refine z_lload_n hX 1 dX6_lowestBits_42 rfl ?_
    exact hR _ () _ _ rfl dX6_lowestBits_43
theorem showB_no {s : nst} {a : Nat} {f : Nat → Int64} {k : Nat} (h : ¬ f k = lN (goN (k + 1) s (7 + a))) : ∀ m, k < m → ¬ showB s a f m = true
  | 0, hk => absurd hk (by omega)
  | m + 1, hk => by
    rw [showB, Bool.and_eq_true]
    intro c
    by_cases e : k = m
    · subst e
      exact h (of_decide_eq_true c.2)
    · exact showB_no h m (by omega) c.1
set_option maxRecDepth 100000 in
set_option maxHeartbeats 4000000 in
theorem c_X6_wouldShow (l : Launch) (G : zG) (x : Nat) (w : Nat) (kw : Nat) (ik : Nat) (tp : Nat) (sx : Nat) (fo : Nat) (gu : Nat) (ch : Nat) (now : Nat) (nh : Nat) (cr : Nat) (past : Nat) (o : Nat) (u : Nat) (s : nst) (ca : Nat) (ck : Nat) (cl : Nat) (ce : Nat) (sz : Nat) (fk : Nat → Int32) (fl : Nat → Int32) (fe : Nat → Int32) (fh : Nat) (t : nst) (it : Nat) (q : Nat) (z : Nat) (I : Nat → Int64) (S : nst) (ar : Nat) (hs : Nat) (ii : Nat) (m : Nat) (ls : Nat) (h0 : WF 9999 0 S) (h1 : CR S fk fl fe) (h2 : sz = S 0) (h3 : ∀ i, 1 ≤ i → i ≤ 10 → s i = S i) (h4 : ar < 4) (h5 : ii + m ≤ 24) (h6 : m ≤ 24) (h7 : ls < 64) : zMi l G yX6_wouldShow cX6_wouldShow 8 .boolean 3 0 0 72 [.ref x, .int (nI ar), .ref hs, .int (nI ii), .int (nI m), .int (nI ls), .ref ca] [ob x 6 [.ref w, .ref kw, .int (nI ik), .ref tp, .ref sx, .ref fo, .ref gu, .ref ch], ob w 5 [.ref now, .ref cr, .ref past, .int (nI o), .int (nI u)], ob now 2 (mf nh s), ia G nh 4 (fN (sh 7 s)), ob ca 1 [.ref ck, .ref cl, .ref ce, .int (nI sz)], ia G ck 6 fk, ia G cl 6 fl, ia G ce 6 fe, ob fo 2 (mf fh t), ia G fh 4 (fN (sh 7 t)), ob hs 3 [.ref it, .int (ln q), .int (nI z)], la G it 24 I] (fun (r : Int32) (_u : nst) => zb (showB (va_up S 2 ls) ar (fun k => I (ii + k)) m = true) r) (fun (_u : nst) => [ob x 6 [.ref w, .ref kw, .int (nI ik), .ref tp, .ref sx, .ref fo, .ref gu, .ref ch], ob w 5 [.ref now, .ref cr, .ref past, .int (nI o), .int (nI u)], ob now 2 (mf nh s), ia G nh 4 (fN (sh 7 s)), ob ca 1 [.ref ck, .ref cl, .ref ce, .int (nI sz)], ia G ck 6 fk, ia G cl 6 fl, ia G ce 6 fe, ob fo 2 (mf fh _u), ia G fh 4 (fN (sh 7 _u)), ob hs 3 [.ref it, .int (ln q), .int (nI z)], la G it 24 I]) := by
  refine zMi.of (by decide) rfl (fun X A H0 hX hXl hR => ?_)
  show Z (X, G, A, H0, 8) 0 0 [ob x 6 [.ref w, .ref kw, .int (nI ik), .ref tp, .ref sx, .ref fo, .ref gu, .ref ch], ob w 5 [.ref now, .ref cr, .ref past, .int (nI o), .int (nI u)], ob now 2 (mf nh s), ia G nh 4 (fN (sh 7 s)), ob ca 1 [.ref ck, .ref cl, .ref ce, .int (nI sz)], ia G ck 6 fk, ia G cl 6 fl, ia G ce 6 fe, ob fo 2 (mf fh t), ia G fh 4 (fN (sh 7 t)), ob hs 3 [.ref it, .int (ln q), .int (nI z)], la G it 24 I] 0 [(0, .ref x), (1, .int (nI ar)), (2, .ref hs), (3, .int (nI ii)), (4, .int (nI m)), (5, .int (nI ls)), (6, .ref ca)] []
  subst hXl
  refine z_aload_n hX 0 dX6_wouldShow_0 rfl ?_
  refine z_get (v := .ref fo) hX fX6 0 5 rfl rfl (Nat.le_of_ble_eq_true rfl) fl_X6_40 rfl dX6_wouldShow_1 ?_
  refine z_aload_n hX 0 dX6_wouldShow_4 rfl ?_
  refine z_get (v := .ref w) hX fX6 0 0 rfl rfl (Nat.le_of_ble_eq_true rfl) fl_X6_10 rfl dX6_wouldShow_5 ?_
  refine z_get (v := .ref now) hX fX5 1 0 rfl rfl (Nat.le_of_ble_eq_true rfl) fl_X6_88 rfl dX6_wouldShow_8 ?_
  refine z_callVv (st := []) hX (c_X2_take _ G fo fh t now nh s ) lb_X2_take ml_X6_206 (fun (_u : Unit) => [ob x 6 [.ref w, .ref kw, .int (nI ik), .ref tp, .ref sx, .ref fo, .ref gu, .ref ch], ob w 5 [.ref now, .ref cr, .ref past, .int (nI o), .int (nI u)], ob now 2 (mf nh s), ia G nh 4 (fN (sh 7 s)), ob ca 1 [.ref ck, .ref cl, .ref ce, .int (nI sz)], ia G ck 6 fk, ia G cl 6 fl, ia G ce 6 fe, ob fo 2 (mf fh s), ia G fh 4 (fN (sh 7 s)), ob hs 3 [.ref it, .int (ln q), .int (nI z)], la G it 24 I]) (wr := [ob x 6 [.ref w, .ref kw, .int (nI ik), .ref tp, .ref sx, .ref fo, .ref gu, .ref ch], ob w 5 [.ref now, .ref cr, .ref past, .int (nI o), .int (nI u)], ob ca 1 [.ref ck, .ref cl, .ref ce, .int (nI sz)], ia G ck 6 fk, ia G cl 6 fl, ia G ce 6 fe, ob hs 3 [.ref it, .int (ln q), .int (nI z)], la G it 24 I]) [8, 9, 2, 3] [0, 1, 4, 5, 6, 7, 10, 11] [0, 1, 10, 11, 2, 3, 4, 5, 8, 9, 6, 7] ⟨rfl, rfl, rfl, fun _ => rfl⟩ 0 rfl rfl rfl rfl ⟨Nat.le_refl _, Nat.le_refl _⟩ dX6_wouldShow_11 rfl (fun  u11 hw11 => ?_)
  refine z_moext 8 9 (s := s) (t := S) rfl rfl h3 (ws' := [ob x 6 [.ref w, .ref kw, .int (nI ik), .ref tp, .ref sx, .ref fo, .ref gu, .ref ch], ob w 5 [.ref now, .ref cr, .ref past, .int (nI o), .int (nI u)], ob now 2 (mf nh s), ia G nh 4 (fN (sh 7 s)), ob ca 1 [.ref ck, .ref cl, .ref ce, .int (nI sz)], ia G ck 6 fk, ia G cl 6 fl, ia G ce 6 fe, ob fo 2 (mf fh S), ia G fh 4 (fN (sh 7 S)), ob hs 3 [.ref it, .int (ln q), .int (nI z)], la G it 24 I]) rfl ?_
  refine z_aload_n hX 0 dX6_wouldShow_14 rfl ?_
  refine z_get (v := .ref fo) hX fX6 0 5 rfl rfl (Nat.le_of_ble_eq_true rfl) fl_X6_40 rfl dX6_wouldShow_15 ?_
  refine z_iload hX 5 dX6_wouldShow_18 rfl ?_
  refine z_putM (v := ls) (ws' := [ob x 6 [.ref w, .ref kw, .int (nI ik), .ref tp, .ref sx, .ref fo, .ref gu, .ref ch], ob w 5 [.ref now, .ref cr, .ref past, .int (nI o), .int (nI u)], ob now 2 (mf nh s), ia G nh 4 (fN (sh 7 s)), ob ca 1 [.ref ck, .ref cl, .ref ce, .int (nI sz)], ia G ck 6 fk, ia G cl 6 fl, ia G ce 6 fe, ob fo 2 (mf fh (va_up S 2 ls)), ia G fh 4 (fN (sh 7 (va_up S 2 ls))), ob hs 3 [.ref it, .int (ln q), .int (nI z)], la G it 24 I]) hX 8 9 1 2 rfl rfl rfl rfl rfl fl_X6_111 rfl rfl rfl rfl dX6_wouldShow_20 ?_
  refine z_iconst (v := nI 0) hX dX6_wouldShow_23 (by decide) ?_
  refine z_istore (L' := [(7, .int (nI 0)), (0, .ref x), (1, .int (nI ar)), (2, .ref hs), (3, .int (nI ii)), (4, .int (nI m)), (5, .int (nI ls)), (6, .ref ca)]) hX dX6_wouldShow_24 (Nat.le_of_ble_eq_true rfl) rfl ?_
  have lp26 : ∀ (n26 : Nat) (k : Nat), (m + 1 ≤ k + n26) → (k ≤ m) → (showB (va_up S 2 ls) ar (fun k => I (ii + k)) k = true) → Z (X, G, A, H0, 8) 0 0 [ob x 6 [.ref w, .ref kw, .int (nI ik), .ref tp, .ref sx, .ref fo, .ref gu, .ref ch], ob w 5 [.ref now, .ref cr, .ref past, .int (nI o), .int (nI u)], ob now 2 (mf nh s), ia G nh 4 (fN (sh 7 s)), ob ca 1 [.ref ck, .ref cl, .ref ce, .int (nI sz)], ia G ck 6 fk, ia G cl 6 fl, ia G ce 6 fe, ob fo 2 (mf fh (goN k (va_up S 2 ls))), ia G fh 4 (fN (sh 7 (goN k (va_up S 2 ls)))), ob hs 3 [.ref it, .int (ln q), .int (nI z)], la G it 24 I] 26 [(0, .ref x), (1, .int (nI ar)), (2, .ref hs), (3, .int (nI ii)), (4, .int (nI m)), (5, .int (nI ls)), (6, .ref ca), (7, .int (nI k))] [] := by
    intro n26
    induction n26 with
    | zero =>
      intro k hn hk hs9
      exfalso
      omega
    | succ n26 ih26 =>
      intro k hn hk hs9
      have hz : sz = goN k (va_up S 2 ls) 0 := by rw [goN_keep _ (by omega), up_ne (by omega)]; exact h2
      have hq := (goN_WF (WF_list h0 h7) (k + 1)).2.2.2.2.2.1 ar h4
      refine z_iload hX 7 dX6_wouldShow_26 rfl ?_
      refine z_iload hX 4 dX6_wouldShow_28 rfl ?_
      refine zn_icmp_ge (tgt := 74) hX dX6_wouldShow_30 (by decide) (by omega) (by omega) (fun c30 => ?_) (fun c30 => ?_)
      · skip
        refine z_iconst (v := nI 1) hX dX6_wouldShow_74 (by decide) ?_
        have ek : k = m := by omega
        subst ek
        exact hR _ (goN k (va_up S 2 ls)) _ _ ⟨fun _ => rfl, fun hz9 => absurd hs9 hz9⟩ dX6_wouldShow_75 rfl
      · skip
        refine z_aload_n hX 0 dX6_wouldShow_33 rfl ?_
        refine z_get (v := .ref fo) hX fX6 0 5 rfl rfl (Nat.le_of_ble_eq_true rfl) fl_X6_40 rfl dX6_wouldShow_34 ?_
        refine z_aload hX 6 dX6_wouldShow_37 rfl ?_
        refine z_callVi (st := []) hX (c_X2_pass _ G fo fh (goN k (va_up S 2 ls)) ca ck cl ce fk fl fe sz (9999 + k) (goN_WF (WF_list h0 h7) k) (by omega) (CR_goN (CR_list h1 ls) k) hz) lb_X2_pass ml_X6_194 (fun (_u : Unit) => [ob x 6 [.ref w, .ref kw, .int (nI ik), .ref tp, .ref sx, .ref fo, .ref gu, .ref ch], ob w 5 [.ref now, .ref cr, .ref past, .int (nI o), .int (nI u)], ob now 2 (mf nh s), ia G nh 4 (fN (sh 7 s)), ob ca 1 [.ref ck, .ref cl, .ref ce, .int (nI sz)], ia G ck 6 fk, ia G cl 6 fl, ia G ce 6 fe, ob fo 2 (mf fh (goBy (goN k (va_up S 2 ls)))), ia G fh 4 (fN (sh 7 (goBy (goN k (va_up S 2 ls))))), ob hs 3 [.ref it, .int (ln q), .int (nI z)], la G it 24 I]) (wr := [ob x 6 [.ref w, .ref kw, .int (nI ik), .ref tp, .ref sx, .ref fo, .ref gu, .ref ch], ob w 5 [.ref now, .ref cr, .ref past, .int (nI o), .int (nI u)], ob now 2 (mf nh s), ia G nh 4 (fN (sh 7 s)), ob hs 3 [.ref it, .int (ln q), .int (nI z)], la G it 24 I]) [8, 9, 4, 5, 6, 7] [0, 1, 2, 3, 10, 11] [0, 1, 2, 3, 8, 9, 10, 11, 6, 7, 4, 5] ⟨rfl, rfl, rfl, fun _ => rfl⟩ 0 rfl rfl rfl rfl ⟨Nat.le_refl _, Nat.le_refl _⟩ dX6_wouldShow_39 rfl (fun r39 u39 hw39 => ?_)
        subst hw39
        refine z_pop hX dX6_wouldShow_42 rfl ?_
        refine z_aload_n hX 2 dX6_wouldShow_43 rfl ?_
        refine z_get (v := .ref it) hX fX3 10 0 rfl rfl (Nat.le_of_ble_eq_true rfl) fl_X6_267 rfl dX6_wouldShow_44 ?_
        refine z_iload_n hX 3 dX6_wouldShow_47 rfl ?_
        refine z_iload hX 7 dX6_wouldShow_48 rfl ?_
        refine z_iadd (v := (nI (ii + k))) hX dX6_wouldShow_50 (nI_add _ _) ?_
        refine z_lald (v := (I (ii + k))) hX 11 (j := (ii + k)) rfl (by omega) (by decide) rfl dX6_wouldShow_51 ?_
        refine z_aload_n hX 0 dX6_wouldShow_52 rfl ?_
        refine z_get (v := .ref fo) hX fX6 0 5 rfl rfl (Nat.le_of_ble_eq_true rfl) fl_X6_40 rfl dX6_wouldShow_53 ?_
        refine z_get (v := .ref fh) hX fX2 8 0 rfl rfl (Nat.le_of_ble_eq_true rfl) fl_X6_125 rfl dX6_wouldShow_56 ?_
        refine z_iload_n hX 1 dX6_wouldShow_59 rfl ?_
        refine z_iald (v := (nI ((goBy (goN k (va_up S 2 ls))) (7 + ar)))) hX 9 (j := ar) rfl (by omega) (by decide) rfl dX6_wouldShow_60 ?_
        refine z_i2l (v := ((nI ((goBy (goN k (va_up S 2 ls))) (7 + ar))).toInt64)) hX dX6_wouldShow_61 rfl ?_
        refine z_lcmp hX dX6_wouldShow_62 ?_
        refine z_if_eq (tgt := 68) hX dX6_wouldShow_63 (by decide) (fun c63 => ?_) (fun c63 => ?_)
        · rw [lg_cmp_eq] at c63
          refine z_iinc (v := (nI (k + 1))) (L' := [(7, .int (nI (k + 1))), (0, .ref x), (1, .int (nI ar)), (2, .ref hs), (3, .int (nI ii)), (4, .int (nI m)), (5, .int (nI ls)), (6, .ref ca)]) hX 7 dX6_wouldShow_68 rfl (nI_inc _) (Nat.le_of_ble_eq_true rfl) rfl ?_
          refine z_goto (tgt := 26) hX dX6_wouldShow_71 (by decide) ?_
          refine z_lsub [1, 2, 3, 4, 5, 6, 7, 0] rfl ?_
          exact ih26 (k + 1) (by omega) (by omega) (by rw [showB, hs9, Bool.true_and]; exact decide_eq_true (c63.trans (nI_l (show goN (k + 1) (va_up S 2 ls) (7 + ar) < 2 ^ 31 by omega))))
        · rw [lg_cmp_eq] at c63
          refine z_iconst (v := nI 0) hX dX6_wouldShow_66 (by decide) ?_
          exact hR _ (goBy (goN k (va_up S 2 ls))) _ _ ⟨fun hz9 => absurd hz9 (showB_no (k := k) (fun e9 => c63 (e9.trans (nI_l (show goN (k + 1) (va_up S 2 ls) (7 + ar) < 2 ^ 31 by omega)).symm)) m (by omega)), fun _ => rfl⟩ dX6_wouldShow_67 rfl
  refine z_lsub [1, 2, 3, 4, 5, 6, 7, 0] rfl ?_
  exact lp26 (m + 1) 0 (by omega) (by omega) rfl
