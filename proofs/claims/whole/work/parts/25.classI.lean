theorem ite0 (x : Nat) : x = if x = 0 then 0 else x := by
  split <;> omega
theorem lst_step {s : nst} {a m v : Nat} {f : Nat → Int64} {le : Nat} (h : lstL s a f m 64 = if lstL s a f m (v + 1) = 0 then le else lstL s a f m (v + 1)) : (showB (va_up s 2 v) a f m = true → lstL s a f m 64 = if lstL s a f m v = 0 then v + 1 else lstL s a f m v) ∧ (¬ showB (va_up s 2 v) a f m = true → lstL s a f m 64 = if lstL s a f m v = 0 then le else lstL s a f m v) := by
  constructor
  · intro c
    rw [h]
    by_cases e : lstL s a f m v = 0
    · have e1 : lstL s a f m (v + 1) = v + 1 := by rw [lstL, if_pos ⟨e, c⟩]
      rw [e1, if_neg (by omega), if_pos e]
    · have e1 : lstL s a f m (v + 1) = lstL s a f m v := by rw [lstL, if_neg (fun z => e z.1)]
      rw [e1, if_neg e, if_neg e]
  · intro c
    have e1 : lstL s a f m (v + 1) = lstL s a f m v := by rw [lstL, if_neg (fun z => c z.2)]
    rw [h, e1]
theorem CR_kind {s : nst} {gk fl fe fk : Nat → Int32} (h : CR s fk fl fe) {t : Nat} (hg : ∀ p, p < s 0 → p ≠ t → gk p = nI (s (11 + 3 * p))) (v : Nat) : CR (va_up s (11 + 3 * t) v) (upd gk t (nI v)) fl fe := by
  intro p hp
  rw [up_ne (by omega)] at hp
  have h1 := h p hp
  by_cases e : p = t
  · subst e
    rw [up_eq, up_ne (by omega), up_ne (by omega)]
    exact ⟨by simp [upd], h1.2⟩
  · rw [up_ne (by omega), up_ne (by omega), up_ne (by omega)]
    exact ⟨by simp [upd, e, hg p hp e], h1.2⟩
theorem CR_every {s : nst} {ge fl fe fk : Nat → Int32} (h : CR s fk fl fe) {t : Nat} (hg : ∀ p, p < s 0 → p ≠ t → ge p = nI (s (13 + 3 * p))) (v : Nat) : CR (va_up s (13 + 3 * t) v) fk fl (upd ge t (nI v)) := by
  intro p hp
  rw [up_ne (by omega)] at hp
  have h1 := h p hp
  by_cases e : p = t
  · subst e
    rw [up_eq, up_ne (by omega), up_ne (by omega)]
    exact ⟨h1.1, h1.2.1, by simp [upd]⟩
  · rw [up_ne (by omega), up_ne (by omega), up_ne (by omega)]
    exact ⟨h1.1, h1.2.1, by simp [upd, e, hg p hp e]⟩
theorem WF_kind {D K : Nat} {s : nst} (h : WF D K s) (t : Nat) {v : Nat} (hv : v ≤ 4) : WF D K (va_up s (11 + 3 * t) v) := by
  obtain ⟨h0, h1, h2, h3, h6, h7, h11⟩ := h
  unfold WF
  rw [up_ne (by omega), up_ne (by omega), up_ne (by omega), up_ne (by omega), up_ne (by omega), up_ne (by omega), up_ne (by omega)]
  refine ⟨h0, h1, h2, h3, h6, fun a ha => ?_, fun p hp => ?_⟩
  · rw [up_ne (by omega)]
    exact h7 a ha
  · have q := h11 p hp
    rw [up_ne (show 12 + 3 * p ≠ 11 + 3 * t by omega), up_ne (show 13 + 3 * p ≠ 11 + 3 * t by omega)]
    refine ⟨?_, q.2⟩
    unfold va_up
    split
    · exact hv
    · exact q.1
theorem WF_every {D K : Nat} {s : nst} (h : WF D K s) (t : Nat) {v : Nat} (hv : 1 ≤ v ∧ v ≤ 9) : WF D K (va_up s (13 + 3 * t) v) := by
  obtain ⟨h0, h1, h2, h3, h6, h7, h11⟩ := h
  unfold WF
  rw [up_ne (by omega), up_ne (by omega), up_ne (by omega), up_ne (by omega), up_ne (by omega), up_ne (by omega), up_ne (by omega)]
  refine ⟨h0, h1, h2, h3, h6, fun a ha => ?_, fun p hp => ?_⟩
  · rw [up_ne (by omega)]
    exact h7 a ha
  · have q := h11 p hp
    rw [up_ne (show 12 + 3 * p ≠ 13 + 3 * t by omega), up_ne (show 11 + 3 * p ≠ 13 + 3 * t by omega)]
    refine ⟨q.1, q.2.1, ?_⟩
    unfold va_up
    split
    · exact hv
    · exact q.2.2
theorem up_list {s : nst} {ix v : Nat} (h : ix ≠ 2) : va_up (va_up s ix v) 2 (s 2) = va_up s ix v := by
  have e : va_up s ix v 2 = s 2 := up_ne (fun c => h c.symm)
  have := up_self (va_up s ix v) 2
  rw [e] at this
  exact this
theorem ln_inj {q p : Nat} (h : q ≤ 4) (h2 : p ≤ 4) : ln q = ln p ↔ q = p := by
  constructor
  · intro e
    rcases (show q = 0 ∨ q = 1 ∨ q = 2 ∨ q = 3 ∨ q = 4 by omega) with rfl | rfl | rfl | rfl | rfl <;> rcases (show p = 0 ∨ p = 1 ∨ p = 2 ∨ p = 3 ∨ p = 4 by omega) with rfl | rfl | rfl | rfl | rfl <;> first | rfl | exact absurd e (by decide)
  · intro e
    rw [e]
def okTr (s : nst) (k l e : Int32) : Bool := okT k l e && decide (s 0 < 6)
set_option maxRecDepth 100000 in
set_option maxHeartbeats 4000000 in
theorem c_X6_lists (l : Launch) (G : zG) (x : Nat) (w : Nat) (kw : Nat) (ik : Nat) (tp : Nat) (sx : Nat) (fo : Nat) (gu : Nat) (ch : Nat) (now : Nat) (nh : Nat) (cr : Nat) (past : Nat) (o : Nat) (u : Nat) (s : nst) (ck : Nat) (cl : Nat) (ce : Nat) (sz : Nat) (fk : Nat → Int32) (fl : Nat → Int32) (fe : Nat → Int32) (fh : Nat) (t : nst) (hs : Nat) (it : Nat) (pf : Nat → Option Nat) (q : Nat) (z : Nat) (I : Nat → Int64) (j : Nat) (ar : Int32) (sh0 : Int32) (la0 : Int32) (i0 : Int32) (nn : Int32) (wh : Int32) (h0 : WF 9999 0 s) (h1 : CR s fk fl fe) (h2 : sz = s 0) (h3 : j < 4) (h4 : pf j = some hs) (h5 : q ≤ 4) (h6 : z ≤ 24) (h7 : ∀ i, i < 4 → sh0 = nI i → i = j) : zMi l G yX6_lists cX6_lists 11 .int 4 0 0 99 [.ref x, .int ar, .int sh0, .int la0, .int i0, .int nn, .int wh] [ob x 6 [.ref w, .ref kw, .int (nI ik), .ref tp, .ref sx, .ref fo, .ref gu, .ref ch], ob w 5 [.ref now, .ref cr, .ref past, .int (nI o), .int (nI u)], ob now 2 (mf nh s), ia G nh 4 (fN (sh 7 s)), ob cr 1 [.ref ck, .ref cl, .ref ce, .int (nI sz)], ia G ck 6 fk, ia G cl 6 fl, ia G ce 6 fe, ob fo 2 (mf fh t), ia G fh 4 (fN (sh 7 t)), sa G sx 4 pf, ob hs 3 [.ref it, .int (ln q), .int (nI z)], la G it 24 I] (fun (r : Int32) (_u : nst) => r = spLists s q z I ar sh0 la0 i0 nn wh) (fun (_u : nst) => [ob x 6 [.ref w, .ref kw, .int (nI ik), .ref tp, .ref sx, .ref fo, .ref gu, .ref ch], ob w 5 [.ref now, .ref cr, .ref past, .int (nI o), .int (nI u)], ob now 2 (mf nh s), ia G nh 4 (fN (sh 7 s)), ob cr 1 [.ref ck, .ref cl, .ref ce, .int (nI sz)], ia G ck 6 fk, ia G cl 6 fl, ia G ce 6 fe, ob fo 2 (mf fh _u), ia G fh 4 (fN (sh 7 _u)), sa G sx 4 pf, ob hs 3 [.ref it, .int (ln q), .int (nI z)], la G it 24 I]) := by
  refine zMi.of (by decide) rfl (fun X A H0 hX hXl hR => ?_)
  show Z (X, G, A, H0, 11) 0 0 [ob x 6 [.ref w, .ref kw, .int (nI ik), .ref tp, .ref sx, .ref fo, .ref gu, .ref ch], ob w 5 [.ref now, .ref cr, .ref past, .int (nI o), .int (nI u)], ob now 2 (mf nh s), ia G nh 4 (fN (sh 7 s)), ob cr 1 [.ref ck, .ref cl, .ref ce, .int (nI sz)], ia G ck 6 fk, ia G cl 6 fl, ia G ce 6 fe, ob fo 2 (mf fh t), ia G fh 4 (fN (sh 7 t)), sa G sx 4 pf, ob hs 3 [.ref it, .int (ln q), .int (nI z)], la G it 24 I] 0 [(0, .ref x), (1, .int ar), (2, .int sh0), (3, .int la0), (4, .int i0), (5, .int nn), (6, .int wh)] []
  subst hXl
  have z0 := h0.1
  have z1 := h0.2.1
  have z2 := h0.2.2.1
  refine z_iload_n hX 1 dX6_lists_0 rfl ?_
  refine z_iconst (v := nI 4) hX dX6_lists_1 (by decide) ?_
  refine z_callSi (st := []) hX (c_X6_isBelowX _ G ar 4 (by omega)) lb_X6_isBelow ml_X6_58 (fun (_u : Unit) => [ob x 6 [.ref w, .ref kw, .int (nI ik), .ref tp, .ref sx, .ref fo, .ref gu, .ref ch], ob w 5 [.ref now, .ref cr, .ref past, .int (nI o), .int (nI u)], ob now 2 (mf nh s), ia G nh 4 (fN (sh 7 s)), ob cr 1 [.ref ck, .ref cl, .ref ce, .int (nI sz)], ia G ck 6 fk, ia G cl 6 fl, ia G ce 6 fe, ob fo 2 (mf fh t), ia G fh 4 (fN (sh 7 t)), sa G sx 4 pf, ob hs 3 [.ref it, .int (ln q), .int (nI z)], la G it 24 I]) (wr := [ob x 6 [.ref w, .ref kw, .int (nI ik), .ref tp, .ref sx, .ref fo, .ref gu, .ref ch], ob w 5 [.ref now, .ref cr, .ref past, .int (nI o), .int (nI u)], ob now 2 (mf nh s), ia G nh 4 (fN (sh 7 s)), ob cr 1 [.ref ck, .ref cl, .ref ce, .int (nI sz)], ia G ck 6 fk, ia G cl 6 fl, ia G ce 6 fe, ob fo 2 (mf fh t), ia G fh 4 (fN (sh 7 t)), sa G sx 4 pf, ob hs 3 [.ref it, .int (ln q), .int (nI z)], la G it 24 I]) [] [0, 1, 2, 3, 4, 5, 6, 7, 8, 9, 10, 11, 12] [0, 1, 2, 3, 4, 5, 6, 7, 8, 9, 10, 11, 12] ⟨rfl, rfl, rfl, fun _ => rfl⟩ rfl rfl ⟨Nat.le_refl _, Nat.le_refl _⟩ dX6_lists_2 rfl (fun r2 u2 hw2 => ?_)
  try dsimp only at hw2
  rcases hw2 with ⟨arj, harh, rfl, rfl⟩ | ⟨hw2, rfl⟩
  · skip
    refine zn_if_eq (tgt := 36) hX dX6_lists_5 (by decide) (by omega) (fun c5 => absurd c5 (by omega)) (fun _ => ?_)
    refine z_iload_n hX 2 dX6_lists_8 rfl ?_
    refine z_iload_n hX 3 dX6_lists_9 rfl ?_
    refine z_callSi (st := []) hX (c_X6_isPlace _ G sh0 la0 ) lb_X6_isPlace ml_X6_250 (fun (_u : Unit) => [ob x 6 [.ref w, .ref kw, .int (nI ik), .ref tp, .ref sx, .ref fo, .ref gu, .ref ch], ob w 5 [.ref now, .ref cr, .ref past, .int (nI o), .int (nI u)], ob now 2 (mf nh s), ia G nh 4 (fN (sh 7 s)), ob cr 1 [.ref ck, .ref cl, .ref ce, .int (nI sz)], ia G ck 6 fk, ia G cl 6 fl, ia G ce 6 fe, ob fo 2 (mf fh t), ia G fh 4 (fN (sh 7 t)), sa G sx 4 pf, ob hs 3 [.ref it, .int (ln q), .int (nI z)], la G it 24 I]) (wr := [ob x 6 [.ref w, .ref kw, .int (nI ik), .ref tp, .ref sx, .ref fo, .ref gu, .ref ch], ob w 5 [.ref now, .ref cr, .ref past, .int (nI o), .int (nI u)], ob now 2 (mf nh s), ia G nh 4 (fN (sh 7 s)), ob cr 1 [.ref ck, .ref cl, .ref ce, .int (nI sz)], ia G ck 6 fk, ia G cl 6 fl, ia G ce 6 fe, ob fo 2 (mf fh t), ia G fh 4 (fN (sh 7 t)), sa G sx 4 pf, ob hs 3 [.ref it, .int (ln q), .int (nI z)], la G it 24 I]) [] [0, 1, 2, 3, 4, 5, 6, 7, 8, 9, 10, 11, 12] [0, 1, 2, 3, 4, 5, 6, 7, 8, 9, 10, 11, 12] ⟨rfl, rfl, rfl, fun _ => rfl⟩ rfl rfl ⟨Nat.le_refl _, Nat.le_refl _⟩ dX6_lists_10 rfl (fun r10 u10 hw10 => ?_)
    try dsimp only at hw10
    rcases hw10 with ⟨sh0j, la0j, hsh0h, hla0h, rfl, rfl, rfl⟩ | ⟨hw10, rfl⟩
    · skip
      refine zn_if_eq (tgt := 36) hX dX6_lists_13 (by decide) (by omega) (fun c13 => absurd c13 (by omega)) (fun _ => ?_)
      refine z_iload hX 5 dX6_lists_16 rfl ?_
      refine z_iconst (v := nI 1) hX dX6_lists_18 (by decide) ?_
      refine z_bipush (v := nI 8) hX dX6_lists_19 (by decide) ?_
      refine z_callSi (st := []) hX (c_X6_isWithinX _ G nn 1 8 (by omega) (by omega)) lb_X6_isWithin ml_X6_62 (fun (_u : Unit) => [ob x 6 [.ref w, .ref kw, .int (nI ik), .ref tp, .ref sx, .ref fo, .ref gu, .ref ch], ob w 5 [.ref now, .ref cr, .ref past, .int (nI o), .int (nI u)], ob now 2 (mf nh s), ia G nh 4 (fN (sh 7 s)), ob cr 1 [.ref ck, .ref cl, .ref ce, .int (nI sz)], ia G ck 6 fk, ia G cl 6 fl, ia G ce 6 fe, ob fo 2 (mf fh t), ia G fh 4 (fN (sh 7 t)), sa G sx 4 pf, ob hs 3 [.ref it, .int (ln q), .int (nI z)], la G it 24 I]) (wr := [ob x 6 [.ref w, .ref kw, .int (nI ik), .ref tp, .ref sx, .ref fo, .ref gu, .ref ch], ob w 5 [.ref now, .ref cr, .ref past, .int (nI o), .int (nI u)], ob now 2 (mf nh s), ia G nh 4 (fN (sh 7 s)), ob cr 1 [.ref ck, .ref cl, .ref ce, .int (nI sz)], ia G ck 6 fk, ia G cl 6 fl, ia G ce 6 fe, ob fo 2 (mf fh t), ia G fh 4 (fN (sh 7 t)), sa G sx 4 pf, ob hs 3 [.ref it, .int (ln q), .int (nI z)], la G it 24 I]) [] [0, 1, 2, 3, 4, 5, 6, 7, 8, 9, 10, 11, 12] [0, 1, 2, 3, 4, 5, 6, 7, 8, 9, 10, 11, 12] ⟨rfl, rfl, rfl, fun _ => rfl⟩ rfl rfl ⟨Nat.le_refl _, Nat.le_refl _⟩ dX6_lists_21 rfl (fun r21 u21 hw21 => ?_)
      try dsimp only at hw21
      rcases hw21 with ⟨nnj, hnnl, hnnh, rfl, rfl⟩ | ⟨hw21, rfl⟩
      · skip
        refine zn_if_eq (tgt := 36) hX dX6_lists_24 (by decide) (by omega) (fun c24 => absurd c24 (by omega)) (fun _ => ?_)
        refine z_iload hX 6 dX6_lists_27 rfl ?_
        refine z_iconst (v := nI 2) hX dX6_lists_29 (by decide) ?_
        refine z_callSi (st := []) hX (c_X6_isBelowX _ G wh 2 (by omega)) lb_X6_isBelow ml_X6_58 (fun (_u : Unit) => [ob x 6 [.ref w, .ref kw, .int (nI ik), .ref tp, .ref sx, .ref fo, .ref gu, .ref ch], ob w 5 [.ref now, .ref cr, .ref past, .int (nI o), .int (nI u)], ob now 2 (mf nh s), ia G nh 4 (fN (sh 7 s)), ob cr 1 [.ref ck, .ref cl, .ref ce, .int (nI sz)], ia G ck 6 fk, ia G cl 6 fl, ia G ce 6 fe, ob fo 2 (mf fh t), ia G fh 4 (fN (sh 7 t)), sa G sx 4 pf, ob hs 3 [.ref it, .int (ln q), .int (nI z)], la G it 24 I]) (wr := [ob x 6 [.ref w, .ref kw, .int (nI ik), .ref tp, .ref sx, .ref fo, .ref gu, .ref ch], ob w 5 [.ref now, .ref cr, .ref past, .int (nI o), .int (nI u)], ob now 2 (mf nh s), ia G nh 4 (fN (sh 7 s)), ob cr 1 [.ref ck, .ref cl, .ref ce, .int (nI sz)], ia G ck 6 fk, ia G cl 6 fl, ia G ce 6 fe, ob fo 2 (mf fh t), ia G fh 4 (fN (sh 7 t)), sa G sx 4 pf, ob hs 3 [.ref it, .int (ln q), .int (nI z)], la G it 24 I]) [] [0, 1, 2, 3, 4, 5, 6, 7, 8, 9, 10, 11, 12] [0, 1, 2, 3, 4, 5, 6, 7, 8, 9, 10, 11, 12] ⟨rfl, rfl, rfl, fun _ => rfl⟩ rfl rfl ⟨Nat.le_refl _, Nat.le_refl _⟩ dX6_lists_30 rfl (fun r30 u30 hw30 => ?_)
        try dsimp only at hw30
        rcases hw30 with ⟨whj, hwhh, rfl, rfl⟩ | ⟨hw30, rfl⟩
        · skip
          refine zn_if_ne (tgt := 38) hX dX6_lists_33 (by decide) (by omega) (fun _ => ?_) (fun c33 => absurd c33 (by omega))
          obtain rfl := h7 sh0j (by omega) rfl
          refine z_aload_n hX 0 dX6_lists_38 rfl ?_
          refine z_get (v := .ref sx) hX fX6 0 4 rfl rfl (Nat.le_of_ble_eq_true rfl) fl_X6_32 rfl dX6_lists_39 ?_
          refine z_iload_n hX 2 dX6_lists_42 rfl ?_
          refine z_sald hX 10 (j := sh0j) rfl (by omega) (by decide) h4 dX6_lists_43 ?_
          refine z_iload_n hX 3 dX6_lists_44 rfl ?_
          refine z_iload hX 4 dX6_lists_45 rfl ?_
          refine z_iload hX 5 dX6_lists_47 rfl ?_
          refine z_callVi (st := []) hX (c_X3_faultOf _ G hs it q z (nI la0j) i0 (nI nnj) (by omega) (by omega)) lb_X3_faultOf ml_X6_253 (fun (_u : Unit) => [ob x 6 [.ref w, .ref kw, .int (nI ik), .ref tp, .ref sx, .ref fo, .ref gu, .ref ch], ob w 5 [.ref now, .ref cr, .ref past, .int (nI o), .int (nI u)], ob now 2 (mf nh s), ia G nh 4 (fN (sh 7 s)), ob cr 1 [.ref ck, .ref cl, .ref ce, .int (nI sz)], ia G ck 6 fk, ia G cl 6 fl, ia G ce 6 fe, ob fo 2 (mf fh t), ia G fh 4 (fN (sh 7 t)), sa G sx 4 pf, ob hs 3 [.ref it, .int (ln q), .int (nI z)], la G it 24 I]) (wr := [ob x 6 [.ref w, .ref kw, .int (nI ik), .ref tp, .ref sx, .ref fo, .ref gu, .ref ch], ob w 5 [.ref now, .ref cr, .ref past, .int (nI o), .int (nI u)], ob now 2 (mf nh s), ia G nh 4 (fN (sh 7 s)), ob cr 1 [.ref ck, .ref cl, .ref ce, .int (nI sz)], ia G ck 6 fk, ia G cl 6 fl, ia G ce 6 fe, ob fo 2 (mf fh t), ia G fh 4 (fN (sh 7 t)), sa G sx 4 pf, la G it 24 I]) [11] [0, 1, 2, 3, 4, 5, 6, 7, 8, 9, 10, 12] [0, 1, 2, 3, 4, 5, 6, 7, 8, 9, 10, 12, 11] ⟨rfl, rfl, rfl, fun _ => rfl⟩ 0 rfl rfl rfl rfl ⟨Nat.le_refl _, Nat.le_refl _⟩ dX6_lists_49 rfl (fun r49 u49 hw49 => ?_)
          refine z_istore (L' := [(7, .int r49), (0, .ref x), (1, .int (nI arj)), (2, .int (nI sh0j)), (3, .int (nI la0j)), (4, .int i0), (5, .int (nI nnj)), (6, .int (nI whj))]) hX dX6_lists_52 (Nat.le_of_ble_eq_true rfl) rfl ?_
          refine z_iload hX 0 dX6_lists_54 rfl ?_
          refine z_if_eq (tgt := 62) hX dX6_lists_56 (by decide) (fun c56 => ?_) (fun c56 => ?_)
          · skip
            rw [hw49] at c56
            obtain ⟨f1, f2, f3⟩ := faultI_0 c56
            obtain ⟨i0j, f4, rfl⟩ := fits_ex (by omega) f3
            refine z_iconst (v := nI 0) hX dX6_lists_62 (by decide) ?_
            refine z_istore (L' := [(8, .int (nI 0)), (7, .int r49), (0, .ref x), (1, .int (nI arj)), (2, .int (nI sh0j)), (3, .int (nI la0j)), (4, .int (nI i0j)), (5, .int (nI nnj)), (6, .int (nI whj))]) hX dX6_lists_63 (Nat.le_of_ble_eq_true rfl) rfl ?_
            refine z_bipush (v := l4 0) hX dX6_lists_65 (by decide) ?_
            refine z_istore (L' := [(9, .int (l4 0)), (8, .int (nI 0)), (7, .int r49), (0, .ref x), (1, .int (nI arj)), (2, .int (nI sh0j)), (3, .int (nI la0j)), (4, .int (nI i0j)), (5, .int (nI nnj)), (6, .int (nI whj))]) hX dX6_lists_67 (Nat.le_of_ble_eq_true rfl) rfl ?_
            refine z_bipush (v := nI 63) hX dX6_lists_69 (by decide) ?_
            refine z_istore (L' := [(10, .int (nI 63)), (9, .int (l4 0)), (8, .int (nI 0)), (7, .int r49), (0, .ref x), (1, .int (nI arj)), (2, .int (nI sh0j)), (3, .int (nI la0j)), (4, .int (nI i0j)), (5, .int (nI nnj)), (6, .int (nI whj))]) hX dX6_lists_71 (Nat.le_of_ble_eq_true rfl) rfl ?_
            have lp73 : ∀ (n73 : Nat) (qq : Nat) (mm : Nat) (le : Nat) (tt : nst), (qq + 1 ≤ n73) → (qq ≤ 64) → (mm + cntL s arj (fun k => I (i0j + k)) nnj qq = cntL s arj (fun k => I (i0j + k)) nnj 64) → (lstL s arj (fun k => I (i0j + k)) nnj 64 = if lstL s arj (fun k => I (i0j + k)) nnj qq = 0 then le else lstL s arj (fun k => I (i0j + k)) nnj qq) → Z (X, G, A, H0, 11) 0 0 [ob x 6 [.ref w, .ref kw, .int (nI ik), .ref tp, .ref sx, .ref fo, .ref gu, .ref ch], ob w 5 [.ref now, .ref cr, .ref past, .int (nI o), .int (nI u)], ob now 2 (mf nh s), ia G nh 4 (fN (sh 7 s)), ob cr 1 [.ref ck, .ref cl, .ref ce, .int (nI sz)], ia G ck 6 fk, ia G cl 6 fl, ia G ce 6 fe, ob fo 2 (mf fh tt), ia G fh 4 (fN (sh 7 tt)), sa G sx 4 pf, ob hs 3 [.ref it, .int (ln q), .int (nI z)], la G it 24 I] 73 [(0, .ref x), (1, .int (nI arj)), (2, .int (nI sh0j)), (4, .int (nI i0j)), (5, .int (nI nnj)), (6, .int (nI whj)), (8, .int (nI mm)), (9, .int (l4 le)), (10, .int (ln qq))] [] := by
              intro n73
              induction n73 with
              | zero =>
                intro qq mm le tt hn hq hm hle
                exfalso
                omega
              | succ n73 ih73 =>
                intro qq mm le tt hn hq hm hle
                refine z_iload hX 8 dX6_lists_73 rfl ?_
                refine z_if_lt (tgt := 118) hX dX6_lists_75 (by decide) (fun c75 => ?_) (fun c75 => ?_)
                · rw [ln_lt2 (by omega)] at c75
                  subst c75
                  refine z_iload hX 5 dX6_lists_118 rfl ?_
                  refine zn_if_ne (tgt := 128) hX dX6_lists_120 (by decide) (by omega) (fun c120 => ?_) (fun c120 => ?_)
                  · skip
                    refine z_iload hX 7 dX6_lists_128 rfl ?_
                    exact hR _ tt _ _ (by unfold spLists; rw [if_pos (by unfold okLists; rw [inb_t (by omega) (by omega) (by omega), inb_t (by omega) (by omega) (by omega), inb_t (by omega) (by omega) (by omega), inb_t (by omega) (by omega) (by omega), inb_t (by omega) (by omega) (by omega)]; rfl), if_pos c56, gN_nI (show whj < 2147483648 by omega), gN_nI (show arj < 2147483648 by omega), gN_nI (show i0j < 2147483648 by omega), gN_nI (show nnj < 2147483648 by omega), if_neg c120, hle]; rfl) dX6_lists_130 rfl
                  · skip
                    refine z_iload hX 6 dX6_lists_123 rfl ?_
                    refine z_goto (tgt := 130) hX dX6_lists_125 (by decide) ?_
                    exact hR _ tt _ _ (by unfold spLists; rw [if_pos (by unfold okLists; rw [inb_t (by omega) (by omega) (by omega), inb_t (by omega) (by omega) (by omega), inb_t (by omega) (by omega) (by omega), inb_t (by omega) (by omega) (by omega), inb_t (by omega) (by omega) (by omega)]; rfl), if_pos c56, gN_nI (show whj < 2147483648 by omega), gN_nI (show arj < 2147483648 by omega), gN_nI (show i0j < 2147483648 by omega), gN_nI (show nnj < 2147483648 by omega), if_pos c120, ← hm]; rfl) dX6_lists_130 rfl
                · rw [ln_lt2 (by omega)] at c75
                  obtain ⟨v, rfl⟩ : ∃ v, qq = v + 1 := ⟨qq - 1, by omega⟩
                  rw [ln_s]
                  refine z_aload_n hX 0 dX6_lists_78 rfl ?_
                  refine z_iload_n hX 1 dX6_lists_79 rfl ?_
                  refine z_aload_n hX 0 dX6_lists_80 rfl ?_
                  refine z_get (v := .ref sx) hX fX6 0 4 rfl rfl (Nat.le_of_ble_eq_true rfl) fl_X6_32 rfl dX6_lists_81 ?_
                  refine z_iload_n hX 2 dX6_lists_84 rfl ?_
                  refine z_sald hX 10 (j := sh0j) rfl (by omega) (by decide) h4 dX6_lists_85 ?_
                  refine z_iload hX 3 dX6_lists_86 rfl ?_
                  refine z_iload hX 4 dX6_lists_88 rfl ?_
                  refine z_iload hX 8 dX6_lists_90 rfl ?_
                  refine z_aload_n hX 0 dX6_lists_92 rfl ?_
                  refine z_get (v := .ref w) hX fX6 0 0 rfl rfl (Nat.le_of_ble_eq_true rfl) fl_X6_10 rfl dX6_lists_93 ?_
                  refine z_get (v := .ref cr) hX fX5 1 1 rfl rfl (Nat.le_of_ble_eq_true rfl) fl_X6_66 rfl dX6_lists_96 ?_
                  refine z_callVi (st := []) hX (c_X6_wouldShow _ G x w kw ik tp sx fo gu ch now nh cr past o u s cr ck cl ce sz fk fl fe fh tt it q z I s arj hs i0j nnj v h0 h1 h2 (fun _ _ _ => rfl) (by omega) (by omega) (by omega) (by omega)) lb_X6_wouldShow ml_X6_256 (fun (_u : nst) => [ob x 6 [.ref w, .ref kw, .int (nI ik), .ref tp, .ref sx, .ref fo, .ref gu, .ref ch], ob w 5 [.ref now, .ref cr, .ref past, .int (nI o), .int (nI u)], ob now 2 (mf nh s), ia G nh 4 (fN (sh 7 s)), ob cr 1 [.ref ck, .ref cl, .ref ce, .int (nI sz)], ia G ck 6 fk, ia G cl 6 fl, ia G ce 6 fe, ob fo 2 (mf fh _u), ia G fh 4 (fN (sh 7 _u)), sa G sx 4 pf, ob hs 3 [.ref it, .int (ln q), .int (nI z)], la G it 24 I]) (wr := [sa G sx 4 pf]) [0, 1, 2, 3, 4, 5, 6, 7, 8, 9, 11, 12] [10] [1, 2, 3, 4, 5, 6, 7, 8, 9, 10, 0, 11, 12] ⟨rfl, rfl, rfl, fun _ => rfl⟩ 0 rfl rfl rfl rfl ⟨Nat.le_refl _, Nat.le_refl _⟩ dX6_lists_99 rfl (fun r99 u99 hw99 => ?_)
                  obtain ⟨t2_1, rfl⟩ : ∃ z9, z9 = u99 := ⟨_, rfl⟩
                  try dsimp only at hw99
                  rcases Classical.em (showB (va_up s 2 v) arj (fun k => I (i0j + k)) nnj = true) with b99 | b99
                  · obtain rfl := hw99.1 b99
                    refine zn_if_eq (tgt := 112) hX dX6_lists_102 (by decide) (by omega) (fun c102 => absurd c102 (by omega)) (fun _ => ?_)
                    refine z_iinc (v := (nI (mm + 1))) (L' := [(8, .int (nI (mm + 1))), (0, .ref x), (1, .int (nI arj)), (2, .int (nI sh0j)), (4, .int (nI i0j)), (5, .int (nI nnj)), (6, .int (nI whj)), (9, .int (l4 le)), (10, .int (nI v))]) hX 6 dX6_lists_105 rfl (nI_inc _) (Nat.le_of_ble_eq_true rfl) rfl ?_
                    refine z_iload hX 8 dX6_lists_108 rfl ?_
                    refine z_istore (L' := [(9, .int (nI v)), (8, .int (nI (mm + 1))), (0, .ref x), (1, .int (nI arj)), (2, .int (nI sh0j)), (4, .int (nI i0j)), (5, .int (nI nnj)), (6, .int (nI whj)), (10, .int (nI v))]) hX dX6_lists_110 (Nat.le_of_ble_eq_true rfl) rfl ?_
                    refine z_iinc (v := (ln v)) (L' := [(10, .int (ln v)), (9, .int (nI v)), (8, .int (nI (mm + 1))), (0, .ref x), (1, .int (nI arj)), (2, .int (nI sh0j)), (4, .int (nI i0j)), (5, .int (nI nnj)), (6, .int (nI whj))]) hX 8 dX6_lists_112 rfl (ln_dec _) (Nat.le_of_ble_eq_true rfl) rfl ?_
                    refine z_goto (tgt := 73) hX dX6_lists_115 (by decide) ?_
                    refine z_lsub [3, 4, 5, 6, 7, 8, 2, 1, 0] rfl ?_
                    exact ih73 v (mm + 1) (v + 1) t2_1 (by omega) (by omega) (by rw [cntL, if_pos b99] at hm; omega) ((lst_step hle).1 b99)
                  · obtain rfl := hw99.2 b99
                    refine zn_if_eq (tgt := 112) hX dX6_lists_102 (by decide) (by omega) (fun _ => ?_) (fun c102 => absurd c102 (by omega))
                    refine z_iinc (v := (ln v)) (L' := [(10, .int (ln v)), (0, .ref x), (1, .int (nI arj)), (2, .int (nI sh0j)), (4, .int (nI i0j)), (5, .int (nI nnj)), (6, .int (nI whj)), (8, .int (nI mm)), (9, .int (l4 le))]) hX 8 dX6_lists_112 rfl (ln_dec _) (Nat.le_of_ble_eq_true rfl) rfl ?_
                    refine z_goto (tgt := 73) hX dX6_lists_115 (by decide) ?_
                    refine z_lsub [1, 2, 3, 4, 5, 6, 7, 8, 0] rfl ?_
                    exact ih73 v mm le t2_1 (by omega) (by omega) (by rw [cntL, if_neg b99] at hm; omega) ((lst_step hle).2 b99)
            refine z_lsub [4, 5, 6, 8, 9, 10, 2, 1, 0] rfl ?_
            exact lp73 65 64 0 0 t (by omega) (by omega) (by omega) (ite0 _)
          · skip
            refine z_iload hX 0 dX6_lists_59 rfl ?_
            exact hR _ t _ _ (by unfold spLists; rw [if_pos (by unfold okLists; rw [inb_t (by omega) (by omega) (by omega), inb_t (by omega) (by omega) (by omega), inb_t (by omega) (by omega) (by omega), inb_t (by omega) (by omega) (by omega), inb_t (by omega) (by omega) (by omega)]; rfl), if_neg (by rw [← hw49]; exact c56)]; exact hw49) dX6_lists_61 rfl
        · have hb_wh : inb wh 0 1 = false := hw30
          refine zn_if_ne (tgt := 38) hX dX6_lists_33 (by decide) (by omega) (fun c33 => absurd c33 (by omega)) (fun _ => ?_)
          refine z_iconst (v := (-1)) hX dX6_lists_36 (by decide) ?_
          exact hR _ t _ _ (by unfold spLists; rw [if_neg (by unfold okLists; simp [hb_wh])]) dX6_lists_37 rfl
      · have hb_nn : inb nn 1 8 = false := hw21
        refine zn_if_eq (tgt := 36) hX dX6_lists_24 (by decide) (by omega) (fun _ => ?_) (fun c24 => absurd c24 (by omega))
        refine z_iconst (v := (-1)) hX dX6_lists_36 (by decide) ?_
        exact hR _ t _ _ (by unfold spLists; rw [if_neg (by unfold okLists; simp [hb_nn])]) dX6_lists_37 rfl
    · have hb_sh0_la0 : (inb sh0 0 3 && inb la0 0 3) = false := hw10
      refine zn_if_eq (tgt := 36) hX dX6_lists_13 (by decide) (by omega) (fun _ => ?_) (fun c13 => absurd c13 (by omega))
      refine z_iconst (v := (-1)) hX dX6_lists_36 (by decide) ?_
      exact hR _ t _ _ (by unfold spLists; rw [if_neg (by unfold okLists; simp [hb_sh0_la0])]) dX6_lists_37 rfl
  · have hb_ar : inb ar 0 3 = false := hw2
    refine zn_if_eq (tgt := 36) hX dX6_lists_5 (by decide) (by omega) (fun _ => ?_) (fun c5 => absurd c5 (by omega))
    refine z_iconst (v := (-1)) hX dX6_lists_36 (by decide) ?_
    exact hR _ t _ _ (by unfold spLists; rw [if_neg (by unfold okLists; simp [hb_ar])]) dX6_lists_37 rfl
set_option maxRecDepth 100000 in
set_option maxHeartbeats 4000000 in
theorem c_X6_kindsSeen (l : Launch) (G : zG) (x : Nat) (w : Nat) (kw : Nat) (ik : Nat) (tp : Nat) (sx : Nat) (fo : Nat) (gu : Nat) (ch : Nat) (now : Nat) (nh : Nat) (cr : Nat) (past : Nat) (o : Nat) (u : Nat) (s : nst) (ck : Nat) (cl : Nat) (ce : Nat) (sz : Nat) (fk : Nat → Int32) (fl : Nat → Int32) (fe : Nat → Int32) (gk : Nat) (gl : Nat) (ge : Nat) (gz : Nat) (hk : Nat → Int32) (hl : Nat → Int32) (he : Nat → Int32) (fh : Nat) (t : nst) (it : Nat) (q : Nat) (z : Nat) (I : Nat → Int64) (ar : Nat) (tr : Nat) (hs : Nat) (ii : Nat) (m : Nat) (h0 : WF 9999 0 s) (h1 : CR s fk fl fe) (h2 : sz = s 0) (h3 : ar < 4) (h4 : tr < sz) (h5 : ii + m ≤ 24) (h6 : m ≤ 24) : zMi l G yX6_kindsSeen cX6_kindsSeen 8 .int 4 0 0 99 [.ref x, .int (nI ar), .int (nI tr), .ref hs, .int (nI ii), .int (nI m)] [ob x 6 [.ref w, .ref kw, .int (nI ik), .ref tp, .ref sx, .ref fo, .ref gu, .ref ch], ob w 5 [.ref now, .ref cr, .ref past, .int (nI o), .int (nI u)], ob now 2 (mf nh s), ia G nh 4 (fN (sh 7 s)), ob cr 1 [.ref ck, .ref cl, .ref ce, .int (nI sz)], ia G ck 6 fk, ia G cl 6 fl, ia G ce 6 fe, ob gu 1 [.ref gk, .ref gl, .ref ge, .int (nI gz)], ia G gk 6 hk, ia G gl 6 hl, ia G ge 6 he, ob fo 2 (mf fh t), ia G fh 4 (fN (sh 7 t)), ob hs 3 [.ref it, .int (ln q), .int (nI z)], la G it 24 I] (fun (r : Int32) (_u : Nat × (Nat → Int32) × (Nat → Int32) × (Nat → Int32) × nst) => r = nI (seenTo s (11 + 3 * tr) ar (fun k => I (ii + k)) m 0 5)) (fun (_u : Nat × (Nat → Int32) × (Nat → Int32) × (Nat → Int32) × nst) => [ob x 6 [.ref w, .ref kw, .int (nI ik), .ref tp, .ref sx, .ref fo, .ref gu, .ref ch], ob w 5 [.ref now, .ref cr, .ref past, .int (nI o), .int (nI u)], ob now 2 (mf nh s), ia G nh 4 (fN (sh 7 s)), ob cr 1 [.ref ck, .ref cl, .ref ce, .int (nI sz)], ia G ck 6 fk, ia G cl 6 fl, ia G ce 6 fe, ob gu 1 [.ref gk, .ref gl, .ref ge, .int (nI _u.1)], ia G gk 6 _u.2.1, ia G gl 6 _u.2.2.1, ia G ge 6 _u.2.2.2.1, ob fo 2 (mf fh _u.2.2.2.2), ia G fh 4 (fN (sh 7 _u.2.2.2.2)), ob hs 3 [.ref it, .int (ln q), .int (nI z)], la G it 24 I]) := by
  refine zMi.of (by decide) rfl (fun X A H0 hX hXl hR => ?_)
  show Z (X, G, A, H0, 8) 0 0 [ob x 6 [.ref w, .ref kw, .int (nI ik), .ref tp, .ref sx, .ref fo, .ref gu, .ref ch], ob w 5 [.ref now, .ref cr, .ref past, .int (nI o), .int (nI u)], ob now 2 (mf nh s), ia G nh 4 (fN (sh 7 s)), ob cr 1 [.ref ck, .ref cl, .ref ce, .int (nI sz)], ia G ck 6 fk, ia G cl 6 fl, ia G ce 6 fe, ob gu 1 [.ref gk, .ref gl, .ref ge, .int (nI gz)], ia G gk 6 hk, ia G gl 6 hl, ia G ge 6 he, ob fo 2 (mf fh t), ia G fh 4 (fN (sh 7 t)), ob hs 3 [.ref it, .int (ln q), .int (nI z)], la G it 24 I] 0 [(0, .ref x), (1, .int (nI ar)), (2, .int (nI tr)), (3, .ref hs), (4, .int (nI ii)), (5, .int (nI m))] []
  subst hXl
  refine z_iconst (v := nI 0) hX dX6_kindsSeen_0 (by decide) ?_
  refine z_istore (L' := [(6, .int (nI 0)), (0, .ref x), (1, .int (nI ar)), (2, .int (nI tr)), (3, .ref hs), (4, .int (nI ii)), (5, .int (nI m))]) hX dX6_kindsSeen_1 (Nat.le_of_ble_eq_true rfl) rfl ?_
  refine z_aload_n hX 1 dX6_kindsSeen_3 rfl ?_
  refine z_get (v := .ref gu) hX fX6 0 6 rfl rfl (Nat.le_of_ble_eq_true rfl) fl_X6_47 rfl dX6_kindsSeen_4 ?_
  refine z_aload_n hX 1 dX6_kindsSeen_7 rfl ?_
  refine z_get (v := .ref w) hX fX6 0 0 rfl rfl (Nat.le_of_ble_eq_true rfl) fl_X6_10 rfl dX6_kindsSeen_8 ?_
  refine z_get (v := .ref cr) hX fX5 1 1 rfl rfl (Nat.le_of_ble_eq_true rfl) fl_X6_66 rfl dX6_kindsSeen_11 ?_
  refine z_callVv (st := []) hX (c_X1_take _ G gu gk gl ge gz hk hl he cr ck cl ce sz fk fl fe ) lb_X1_take ml_X6_291 (fun (_u : Unit) => [ob x 6 [.ref w, .ref kw, .int (nI ik), .ref tp, .ref sx, .ref fo, .ref gu, .ref ch], ob w 5 [.ref now, .ref cr, .ref past, .int (nI o), .int (nI u)], ob now 2 (mf nh s), ia G nh 4 (fN (sh 7 s)), ob cr 1 [.ref ck, .ref cl, .ref ce, .int (nI sz)], ia G ck 6 fk, ia G cl 6 fl, ia G ce 6 fe, ob gu 1 [.ref gk, .ref gl, .ref ge, .int (nI sz)], ia G gk 6 fk, ia G gl 6 fl, ia G ge 6 fe, ob fo 2 (mf fh t), ia G fh 4 (fN (sh 7 t)), ob hs 3 [.ref it, .int (ln q), .int (nI z)], la G it 24 I]) (wr := [ob x 6 [.ref w, .ref kw, .int (nI ik), .ref tp, .ref sx, .ref fo, .ref gu, .ref ch], ob w 5 [.ref now, .ref cr, .ref past, .int (nI o), .int (nI u)], ob now 2 (mf nh s), ia G nh 4 (fN (sh 7 s)), ob fo 2 (mf fh t), ia G fh 4 (fN (sh 7 t)), ob hs 3 [.ref it, .int (ln q), .int (nI z)], la G it 24 I]) [8, 9, 10, 11, 4, 5, 6, 7] [0, 1, 2, 3, 12, 13, 14, 15] [0, 1, 2, 3, 12, 13, 14, 15, 8, 9, 10, 11, 4, 5, 6, 7] ⟨rfl, rfl, rfl, fun _ => rfl⟩ 0 rfl rfl rfl rfl ⟨Nat.le_refl _, Nat.le_refl _⟩ dX6_kindsSeen_14 rfl (fun  u14 hw14 => ?_)
  refine z_iconst (v := nI 0) hX dX6_kindsSeen_17 (by decide) ?_
  refine z_istore (L' := [(7, .int (nI 0)), (6, .int (nI 0)), (0, .ref x), (1, .int (nI ar)), (2, .int (nI tr)), (3, .ref hs), (4, .int (nI ii)), (5, .int (nI m))]) hX dX6_kindsSeen_18 (Nat.le_of_ble_eq_true rfl) rfl ?_
  have lp20 : ∀ (n20 : Nat) (v : Nat) (e : Nat) (tt : nst) (gx : Nat → Int32), (5 + 1 ≤ v + n20) → (0 ≤ v ∧ v ≤ 5) → (e = seenTo s (11 + 3 * tr) ar (fun k => I (ii + k)) m 0 v) → (∀ p, p < s 0 → p ≠ tr → gx p = nI (s (11 + 3 * p))) → Z (X, G, A, H0, 8) 0 0 [ob x 6 [.ref w, .ref kw, .int (nI ik), .ref tp, .ref sx, .ref fo, .ref gu, .ref ch], ob w 5 [.ref now, .ref cr, .ref past, .int (nI o), .int (nI u)], ob now 2 (mf nh s), ia G nh 4 (fN (sh 7 s)), ob cr 1 [.ref ck, .ref cl, .ref ce, .int (nI sz)], ia G ck 6 fk, ia G cl 6 fl, ia G ce 6 fe, ob gu 1 [.ref gk, .ref gl, .ref ge, .int (nI sz)], ia G gk 6 gx, ia G gl 6 fl, ia G ge 6 fe, ob fo 2 (mf fh tt), ia G fh 4 (fN (sh 7 tt)), ob hs 3 [.ref it, .int (ln q), .int (nI z)], la G it 24 I] 20 [(0, .ref x), (1, .int (nI ar)), (2, .int (nI tr)), (3, .ref hs), (4, .int (nI ii)), (5, .int (nI m)), (6, .int (nI e)), (7, .int (nI v))] [] := by
    intro n20
    induction n20 with
    | zero =>
      intro v e tt gx hn hv hee hg
      exfalso
      omega
    | succ n20 ih20 =>
      intro v e tt gx hn hv hee hg
      have z0 := h0.1
      have upk := up_list (s := s) (ix := 11 + 3 * tr) (v := v) (by omega)
      refine z_iload hX 7 dX6_kindsSeen_20 rfl ?_
      refine z_iconst (v := nI 5) hX dX6_kindsSeen_22 (by decide) ?_
      refine zn_icmp_ge (tgt := 79) hX dX6_kindsSeen_23 (by decide) (by omega) (by omega) (fun c23 => ?_) (fun c23 => ?_)
      · skip
        refine z_iload hX 6 dX6_kindsSeen_79 rfl ?_
        have ev : v = 5 := by omega
        subst ev
        rw [hee]
        exact hR _ (sz, gx, fl, fe, tt) _ _ rfl dX6_kindsSeen_81 rfl
      · skip
        refine z_aload_n hX 0 dX6_kindsSeen_26 rfl ?_
        refine z_get (v := .ref gu) hX fX6 0 6 rfl rfl (Nat.le_of_ble_eq_true rfl) fl_X6_47 rfl dX6_kindsSeen_27 ?_
        refine z_get (v := .ref gk) hX fX1 8 0 rfl rfl (Nat.le_of_ble_eq_true rfl) fl_X6_91 rfl dX6_kindsSeen_30 ?_
        refine z_iload_n hX 2 dX6_kindsSeen_33 rfl ?_
        refine z_iload hX 7 dX6_kindsSeen_34 rfl ?_
        refine z_iast (ws' := [ob x 6 [.ref w, .ref kw, .int (nI ik), .ref tp, .ref sx, .ref fo, .ref gu, .ref ch], ob w 5 [.ref now, .ref cr, .ref past, .int (nI o), .int (nI u)], ob now 2 (mf nh s), ia G nh 4 (fN (sh 7 s)), ob cr 1 [.ref ck, .ref cl, .ref ce, .int (nI sz)], ia G ck 6 fk, ia G cl 6 fl, ia G ce 6 fe, ob gu 1 [.ref gk, .ref gl, .ref ge, .int (nI sz)], ia G gk 6 (upd gx tr (nI v)), ia G gl 6 fl, ia G ge 6 fe, ob fo 2 (mf fh tt), ia G fh 4 (fN (sh 7 tt)), ob hs 3 [.ref it, .int (ln q), .int (nI z)], la G it 24 I]) hX 9 (j := tr) rfl (by omega) (by decide) rfl rfl dX6_kindsSeen_36 ?_
        refine z_aload_n hX 0 dX6_kindsSeen_37 rfl ?_
        refine z_iload_n hX 1 dX6_kindsSeen_38 rfl ?_
        refine z_aload_n hX 3 dX6_kindsSeen_39 rfl ?_
        refine z_iload hX 4 dX6_kindsSeen_40 rfl ?_
        refine z_iload hX 5 dX6_kindsSeen_42 rfl ?_
        refine z_aload_n hX 0 dX6_kindsSeen_44 rfl ?_
        refine z_get (v := .ref w) hX fX6 0 0 rfl rfl (Nat.le_of_ble_eq_true rfl) fl_X6_10 rfl dX6_kindsSeen_45 ?_
        refine z_get (v := .ref now) hX fX5 1 0 rfl rfl (Nat.le_of_ble_eq_true rfl) fl_X6_88 rfl dX6_kindsSeen_48 ?_
        refine z_get (v := .int (nI (s 2))) hX fX2 2 1 rfl rfl (Nat.le_of_ble_eq_true rfl) fl_X6_111 rfl dX6_kindsSeen_51 ?_
        refine z_aload_n hX 0 dX6_kindsSeen_54 rfl ?_
        refine z_get (v := .ref gu) hX fX6 0 6 rfl rfl (Nat.le_of_ble_eq_true rfl) fl_X6_47 rfl dX6_kindsSeen_55 ?_
        refine z_callVi (st := []) hX (c_X6_wouldShow _ G x w kw ik tp sx fo gu ch now nh cr past o u s gu gk gl ge sz (upd gx tr (nI v)) fl fe fh tt it q z I (va_up s (11 + 3 * tr) v) ar hs ii m (s 2) (WF_kind h0 tr (by omega)) (CR_kind h1 hg v) (show sz = va_up s (11 + 3 * tr) v 0 by rw [up_ne (by omega)]; exact h2) (fun i9 a9 b9 => (up_ne (by omega)).symm) (by omega) (by omega) (by omega) h0.2.2.1) lb_X6_wouldShow ml_X6_256 (fun (_u : nst) => [ob x 6 [.ref w, .ref kw, .int (nI ik), .ref tp, .ref sx, .ref fo, .ref gu, .ref ch], ob w 5 [.ref now, .ref cr, .ref past, .int (nI o), .int (nI u)], ob now 2 (mf nh s), ia G nh 4 (fN (sh 7 s)), ob cr 1 [.ref ck, .ref cl, .ref ce, .int (nI sz)], ia G ck 6 fk, ia G cl 6 fl, ia G ce 6 fe, ob gu 1 [.ref gk, .ref gl, .ref ge, .int (nI sz)], ia G gk 6 (upd gx tr (nI v)), ia G gl 6 fl, ia G ge 6 fe, ob fo 2 (mf fh _u), ia G fh 4 (fN (sh 7 _u)), ob hs 3 [.ref it, .int (ln q), .int (nI z)], la G it 24 I]) (wr := [ob cr 1 [.ref ck, .ref cl, .ref ce, .int (nI sz)], ia G ck 6 fk, ia G cl 6 fl, ia G ce 6 fe]) [0, 1, 2, 3, 8, 9, 10, 11, 12, 13, 14, 15] [4, 5, 6, 7] [4, 5, 6, 7, 0, 1, 2, 3, 8, 9, 10, 11, 12, 13, 14, 15] ⟨rfl, rfl, rfl, fun _ => rfl⟩ 0 rfl rfl rfl rfl ⟨Nat.le_refl _, Nat.le_refl _⟩ dX6_kindsSeen_58 rfl (fun r58 u58 hw58 => ?_)
        obtain ⟨t2_1, rfl⟩ : ∃ z9, z9 = u58 := ⟨_, rfl⟩
        try dsimp only at hw58
        rcases Classical.em (showB (va_up (va_up s (11 + 3 * tr) v) 2 (s 2)) ar (fun k => I (ii + k)) m = true) with b58 | b58
        · obtain rfl := hw58.1 b58
          have bb : showB (va_up s (11 + 3 * tr) v) ar (fun k => I (ii + k)) m = true := by rw [upk] at b58; exact b58
          refine zn_if_eq (tgt := 73) hX dX6_kindsSeen_61 (by decide) (by omega) (fun c61 => absurd c61 (by omega)) (fun _ => ?_)
          refine z_iload hX 6 dX6_kindsSeen_64 rfl ?_
          refine z_iconst (v := nI 1) hX dX6_kindsSeen_66 (by decide) ?_
          refine z_iload hX 7 dX6_kindsSeen_67 rfl ?_
          refine z_ishl (v := (nI (2 ^ v))) hX dX6_kindsSeen_69 (shl_nI _ (by omega)) ?_
          refine z_ior (v := (nI (e ||| (2 ^ v)))) hX dX6_kindsSeen_70 (or_nI _ _) ?_
          refine z_istore (L' := [(6, .int (nI (e ||| (2 ^ v)))), (0, .ref x), (1, .int (nI ar)), (2, .int (nI tr)), (3, .ref hs), (4, .int (nI ii)), (5, .int (nI m)), (7, .int (nI v))]) hX dX6_kindsSeen_71 (Nat.le_of_ble_eq_true rfl) rfl ?_
          refine z_iinc (v := (nI (v + 1))) (L' := [(7, .int (nI (v + 1))), (6, .int (nI (e ||| (2 ^ v)))), (0, .ref x), (1, .int (nI ar)), (2, .int (nI tr)), (3, .ref hs), (4, .int (nI ii)), (5, .int (nI m))]) hX 7 dX6_kindsSeen_73 rfl (nI_inc _) (Nat.le_of_ble_eq_true rfl) rfl ?_
          refine z_goto (tgt := 20) hX dX6_kindsSeen_76 (by decide) ?_
          refine z_lsub [2, 3, 4, 5, 6, 7, 1, 0] rfl ?_
          exact ih20 (v + 1) (e ||| (2 ^ v)) t2_1 (upd gx tr (nI v)) (by omega) (by omega) (by rw [seenTo, if_pos ⟨by omega, bb⟩, ← hee]) (fun p hp hne => by simp only [upd, if_neg hne]; exact hg p hp hne)
        · obtain rfl := hw58.2 b58
          have bb : ¬ showB (va_up s (11 + 3 * tr) v) ar (fun k => I (ii + k)) m = true := by rw [upk] at b58; exact b58
          refine zn_if_eq (tgt := 73) hX dX6_kindsSeen_61 (by decide) (by omega) (fun _ => ?_) (fun c61 => absurd c61 (by omega))
          refine z_iinc (v := (nI (v + 1))) (L' := [(7, .int (nI (v + 1))), (0, .ref x), (1, .int (nI ar)), (2, .int (nI tr)), (3, .ref hs), (4, .int (nI ii)), (5, .int (nI m)), (6, .int (nI e))]) hX 7 dX6_kindsSeen_73 rfl (nI_inc _) (Nat.le_of_ble_eq_true rfl) rfl ?_
          refine z_goto (tgt := 20) hX dX6_kindsSeen_76 (by decide) ?_
          refine z_lsub [1, 2, 3, 4, 5, 6, 7, 0] rfl ?_
          exact ih20 (v + 1) e t2_1 (upd gx tr (nI v)) (by omega) (by omega) (by rw [seenTo, if_neg (fun z9 => bb z9.2), ← hee]) (fun p hp hne => by simp only [upd, if_neg hne]; exact hg p hp hne)
  refine z_lsub [2, 3, 4, 5, 6, 7, 1, 0] rfl ?_
  exact lp20 6 0 0 t fk (by omega) (by omega) rfl (fun p hp _ => (h1 p hp).1)
set_option maxRecDepth 100000 in
set_option maxHeartbeats 4000000 in
theorem c_X6_everiesSeen (l : Launch) (G : zG) (x : Nat) (w : Nat) (kw : Nat) (ik : Nat) (tp : Nat) (sx : Nat) (fo : Nat) (gu : Nat) (ch : Nat) (now : Nat) (nh : Nat) (cr : Nat) (past : Nat) (o : Nat) (u : Nat) (s : nst) (ck : Nat) (cl : Nat) (ce : Nat) (sz : Nat) (fk : Nat → Int32) (fl : Nat → Int32) (fe : Nat → Int32) (gk : Nat) (gl : Nat) (ge : Nat) (gz : Nat) (hk : Nat → Int32) (hl : Nat → Int32) (he : Nat → Int32) (fh : Nat) (t : nst) (it : Nat) (q : Nat) (z : Nat) (I : Nat → Int64) (ar : Nat) (tr : Nat) (hs : Nat) (ii : Nat) (m : Nat) (h0 : WF 9999 0 s) (h1 : CR s fk fl fe) (h2 : sz = s 0) (h3 : ar < 4) (h4 : tr < sz) (h5 : ii + m ≤ 24) (h6 : m ≤ 24) : zMi l G yX6_everiesSeen cX6_everiesSeen 8 .int 4 0 0 99 [.ref x, .int (nI ar), .int (nI tr), .ref hs, .int (nI ii), .int (nI m)] [ob x 6 [.ref w, .ref kw, .int (nI ik), .ref tp, .ref sx, .ref fo, .ref gu, .ref ch], ob w 5 [.ref now, .ref cr, .ref past, .int (nI o), .int (nI u)], ob now 2 (mf nh s), ia G nh 4 (fN (sh 7 s)), ob cr 1 [.ref ck, .ref cl, .ref ce, .int (nI sz)], ia G ck 6 fk, ia G cl 6 fl, ia G ce 6 fe, ob gu 1 [.ref gk, .ref gl, .ref ge, .int (nI gz)], ia G gk 6 hk, ia G gl 6 hl, ia G ge 6 he, ob fo 2 (mf fh t), ia G fh 4 (fN (sh 7 t)), ob hs 3 [.ref it, .int (ln q), .int (nI z)], la G it 24 I] (fun (r : Int32) (_u : Nat × (Nat → Int32) × (Nat → Int32) × (Nat → Int32) × nst) => r = nI (seenTo s (13 + 3 * tr) ar (fun k => I (ii + k)) m 1 10)) (fun (_u : Nat × (Nat → Int32) × (Nat → Int32) × (Nat → Int32) × nst) => [ob x 6 [.ref w, .ref kw, .int (nI ik), .ref tp, .ref sx, .ref fo, .ref gu, .ref ch], ob w 5 [.ref now, .ref cr, .ref past, .int (nI o), .int (nI u)], ob now 2 (mf nh s), ia G nh 4 (fN (sh 7 s)), ob cr 1 [.ref ck, .ref cl, .ref ce, .int (nI sz)], ia G ck 6 fk, ia G cl 6 fl, ia G ce 6 fe, ob gu 1 [.ref gk, .ref gl, .ref ge, .int (nI _u.1)], ia G gk 6 _u.2.1, ia G gl 6 _u.2.2.1, ia G ge 6 _u.2.2.2.1, ob fo 2 (mf fh _u.2.2.2.2), ia G fh 4 (fN (sh 7 _u.2.2.2.2)), ob hs 3 [.ref it, .int (ln q), .int (nI z)], la G it 24 I]) := by
  refine zMi.of (by decide) rfl (fun X A H0 hX hXl hR => ?_)
  show Z (X, G, A, H0, 8) 0 0 [ob x 6 [.ref w, .ref kw, .int (nI ik), .ref tp, .ref sx, .ref fo, .ref gu, .ref ch], ob w 5 [.ref now, .ref cr, .ref past, .int (nI o), .int (nI u)], ob now 2 (mf nh s), ia G nh 4 (fN (sh 7 s)), ob cr 1 [.ref ck, .ref cl, .ref ce, .int (nI sz)], ia G ck 6 fk, ia G cl 6 fl, ia G ce 6 fe, ob gu 1 [.ref gk, .ref gl, .ref ge, .int (nI gz)], ia G gk 6 hk, ia G gl 6 hl, ia G ge 6 he, ob fo 2 (mf fh t), ia G fh 4 (fN (sh 7 t)), ob hs 3 [.ref it, .int (ln q), .int (nI z)], la G it 24 I] 0 [(0, .ref x), (1, .int (nI ar)), (2, .int (nI tr)), (3, .ref hs), (4, .int (nI ii)), (5, .int (nI m))] []
  subst hXl
  refine z_iconst (v := nI 0) hX dX6_everiesSeen_0 (by decide) ?_
  refine z_istore (L' := [(6, .int (nI 0)), (0, .ref x), (1, .int (nI ar)), (2, .int (nI tr)), (3, .ref hs), (4, .int (nI ii)), (5, .int (nI m))]) hX dX6_everiesSeen_1 (Nat.le_of_ble_eq_true rfl) rfl ?_
  refine z_aload_n hX 1 dX6_everiesSeen_3 rfl ?_
  refine z_get (v := .ref gu) hX fX6 0 6 rfl rfl (Nat.le_of_ble_eq_true rfl) fl_X6_47 rfl dX6_everiesSeen_4 ?_
  refine z_aload_n hX 1 dX6_everiesSeen_7 rfl ?_
  refine z_get (v := .ref w) hX fX6 0 0 rfl rfl (Nat.le_of_ble_eq_true rfl) fl_X6_10 rfl dX6_everiesSeen_8 ?_
  refine z_get (v := .ref cr) hX fX5 1 1 rfl rfl (Nat.le_of_ble_eq_true rfl) fl_X6_66 rfl dX6_everiesSeen_11 ?_
  refine z_callVv (st := []) hX (c_X1_take _ G gu gk gl ge gz hk hl he cr ck cl ce sz fk fl fe ) lb_X1_take ml_X6_291 (fun (_u : Unit) => [ob x 6 [.ref w, .ref kw, .int (nI ik), .ref tp, .ref sx, .ref fo, .ref gu, .ref ch], ob w 5 [.ref now, .ref cr, .ref past, .int (nI o), .int (nI u)], ob now 2 (mf nh s), ia G nh 4 (fN (sh 7 s)), ob cr 1 [.ref ck, .ref cl, .ref ce, .int (nI sz)], ia G ck 6 fk, ia G cl 6 fl, ia G ce 6 fe, ob gu 1 [.ref gk, .ref gl, .ref ge, .int (nI sz)], ia G gk 6 fk, ia G gl 6 fl, ia G ge 6 fe, ob fo 2 (mf fh t), ia G fh 4 (fN (sh 7 t)), ob hs 3 [.ref it, .int (ln q), .int (nI z)], la G it 24 I]) (wr := [ob x 6 [.ref w, .ref kw, .int (nI ik), .ref tp, .ref sx, .ref fo, .ref gu, .ref ch], ob w 5 [.ref now, .ref cr, .ref past, .int (nI o), .int (nI u)], ob now 2 (mf nh s), ia G nh 4 (fN (sh 7 s)), ob fo 2 (mf fh t), ia G fh 4 (fN (sh 7 t)), ob hs 3 [.ref it, .int (ln q), .int (nI z)], la G it 24 I]) [8, 9, 10, 11, 4, 5, 6, 7] [0, 1, 2, 3, 12, 13, 14, 15] [0, 1, 2, 3, 12, 13, 14, 15, 8, 9, 10, 11, 4, 5, 6, 7] ⟨rfl, rfl, rfl, fun _ => rfl⟩ 0 rfl rfl rfl rfl ⟨Nat.le_refl _, Nat.le_refl _⟩ dX6_everiesSeen_14 rfl (fun  u14 hw14 => ?_)
  refine z_iconst (v := nI 1) hX dX6_everiesSeen_17 (by decide) ?_
  refine z_istore (L' := [(7, .int (nI 1)), (6, .int (nI 0)), (0, .ref x), (1, .int (nI ar)), (2, .int (nI tr)), (3, .ref hs), (4, .int (nI ii)), (5, .int (nI m))]) hX dX6_everiesSeen_18 (Nat.le_of_ble_eq_true rfl) rfl ?_
  have lp20 : ∀ (n20 : Nat) (v : Nat) (e : Nat) (tt : nst) (gx : Nat → Int32), (10 + 1 ≤ v + n20) → (1 ≤ v ∧ v ≤ 10) → (e = seenTo s (13 + 3 * tr) ar (fun k => I (ii + k)) m 1 v) → (∀ p, p < s 0 → p ≠ tr → gx p = nI (s (13 + 3 * p))) → Z (X, G, A, H0, 8) 0 0 [ob x 6 [.ref w, .ref kw, .int (nI ik), .ref tp, .ref sx, .ref fo, .ref gu, .ref ch], ob w 5 [.ref now, .ref cr, .ref past, .int (nI o), .int (nI u)], ob now 2 (mf nh s), ia G nh 4 (fN (sh 7 s)), ob cr 1 [.ref ck, .ref cl, .ref ce, .int (nI sz)], ia G ck 6 fk, ia G cl 6 fl, ia G ce 6 fe, ob gu 1 [.ref gk, .ref gl, .ref ge, .int (nI sz)], ia G gk 6 fk, ia G gl 6 fl, ia G ge 6 gx, ob fo 2 (mf fh tt), ia G fh 4 (fN (sh 7 tt)), ob hs 3 [.ref it, .int (ln q), .int (nI z)], la G it 24 I] 20 [(0, .ref x), (1, .int (nI ar)), (2, .int (nI tr)), (3, .ref hs), (4, .int (nI ii)), (5, .int (nI m)), (6, .int (nI e)), (7, .int (nI v))] [] := by
    intro n20
    induction n20 with
    | zero =>
      intro v e tt gx hn hv hee hg
      exfalso
      omega
    | succ n20 ih20 =>
      intro v e tt gx hn hv hee hg
      have z0 := h0.1
      have upk := up_list (s := s) (ix := 13 + 3 * tr) (v := v) (by omega)
      refine z_iload hX 7 dX6_everiesSeen_20 rfl ?_
      refine z_bipush (v := nI 9) hX dX6_everiesSeen_22 (by decide) ?_
      refine zn_icmp_gt (tgt := 80) hX dX6_everiesSeen_24 (by decide) (by omega) (by omega) (fun c24 => ?_) (fun c24 => ?_)
      · skip
        refine z_iload hX 6 dX6_everiesSeen_80 rfl ?_
        have ev : v = 10 := by omega
        subst ev
        rw [hee]
        exact hR _ (sz, fk, fl, gx, tt) _ _ rfl dX6_everiesSeen_82 rfl
      · skip
        refine z_aload_n hX 0 dX6_everiesSeen_27 rfl ?_
        refine z_get (v := .ref gu) hX fX6 0 6 rfl rfl (Nat.le_of_ble_eq_true rfl) fl_X6_47 rfl dX6_everiesSeen_28 ?_
        refine z_get (v := .ref ge) hX fX1 8 2 rfl rfl (Nat.le_of_ble_eq_true rfl) fl_X6_98 rfl dX6_everiesSeen_31 ?_
        refine z_iload_n hX 2 dX6_everiesSeen_34 rfl ?_
        refine z_iload hX 7 dX6_everiesSeen_35 rfl ?_
        refine z_iast (ws' := [ob x 6 [.ref w, .ref kw, .int (nI ik), .ref tp, .ref sx, .ref fo, .ref gu, .ref ch], ob w 5 [.ref now, .ref cr, .ref past, .int (nI o), .int (nI u)], ob now 2 (mf nh s), ia G nh 4 (fN (sh 7 s)), ob cr 1 [.ref ck, .ref cl, .ref ce, .int (nI sz)], ia G ck 6 fk, ia G cl 6 fl, ia G ce 6 fe, ob gu 1 [.ref gk, .ref gl, .ref ge, .int (nI sz)], ia G gk 6 fk, ia G gl 6 fl, ia G ge 6 (upd gx tr (nI v)), ob fo 2 (mf fh tt), ia G fh 4 (fN (sh 7 tt)), ob hs 3 [.ref it, .int (ln q), .int (nI z)], la G it 24 I]) hX 11 (j := tr) rfl (by omega) (by decide) rfl rfl dX6_everiesSeen_37 ?_
        refine z_aload_n hX 0 dX6_everiesSeen_38 rfl ?_
        refine z_iload_n hX 1 dX6_everiesSeen_39 rfl ?_
        refine z_aload_n hX 3 dX6_everiesSeen_40 rfl ?_
        refine z_iload hX 4 dX6_everiesSeen_41 rfl ?_
        refine z_iload hX 5 dX6_everiesSeen_43 rfl ?_
        refine z_aload_n hX 0 dX6_everiesSeen_45 rfl ?_
        refine z_get (v := .ref w) hX fX6 0 0 rfl rfl (Nat.le_of_ble_eq_true rfl) fl_X6_10 rfl dX6_everiesSeen_46 ?_
        refine z_get (v := .ref now) hX fX5 1 0 rfl rfl (Nat.le_of_ble_eq_true rfl) fl_X6_88 rfl dX6_everiesSeen_49 ?_
        refine z_get (v := .int (nI (s 2))) hX fX2 2 1 rfl rfl (Nat.le_of_ble_eq_true rfl) fl_X6_111 rfl dX6_everiesSeen_52 ?_
        refine z_aload_n hX 0 dX6_everiesSeen_55 rfl ?_
        refine z_get (v := .ref gu) hX fX6 0 6 rfl rfl (Nat.le_of_ble_eq_true rfl) fl_X6_47 rfl dX6_everiesSeen_56 ?_
        refine z_callVi (st := []) hX (c_X6_wouldShow _ G x w kw ik tp sx fo gu ch now nh cr past o u s gu gk gl ge sz fk fl (upd gx tr (nI v)) fh tt it q z I (va_up s (13 + 3 * tr) v) ar hs ii m (s 2) (WF_every h0 tr (by omega)) (CR_every h1 hg v) (show sz = va_up s (13 + 3 * tr) v 0 by rw [up_ne (by omega)]; exact h2) (fun i9 a9 b9 => (up_ne (by omega)).symm) (by omega) (by omega) (by omega) h0.2.2.1) lb_X6_wouldShow ml_X6_256 (fun (_u : nst) => [ob x 6 [.ref w, .ref kw, .int (nI ik), .ref tp, .ref sx, .ref fo, .ref gu, .ref ch], ob w 5 [.ref now, .ref cr, .ref past, .int (nI o), .int (nI u)], ob now 2 (mf nh s), ia G nh 4 (fN (sh 7 s)), ob cr 1 [.ref ck, .ref cl, .ref ce, .int (nI sz)], ia G ck 6 fk, ia G cl 6 fl, ia G ce 6 fe, ob gu 1 [.ref gk, .ref gl, .ref ge, .int (nI sz)], ia G gk 6 fk, ia G gl 6 fl, ia G ge 6 (upd gx tr (nI v)), ob fo 2 (mf fh _u), ia G fh 4 (fN (sh 7 _u)), ob hs 3 [.ref it, .int (ln q), .int (nI z)], la G it 24 I]) (wr := [ob cr 1 [.ref ck, .ref cl, .ref ce, .int (nI sz)], ia G ck 6 fk, ia G cl 6 fl, ia G ce 6 fe]) [0, 1, 2, 3, 8, 9, 10, 11, 12, 13, 14, 15] [4, 5, 6, 7] [4, 5, 6, 7, 0, 1, 2, 3, 8, 9, 10, 11, 12, 13, 14, 15] ⟨rfl, rfl, rfl, fun _ => rfl⟩ 0 rfl rfl rfl rfl ⟨Nat.le_refl _, Nat.le_refl _⟩ dX6_everiesSeen_59 rfl (fun r59 u59 hw59 => ?_)
        obtain ⟨t2_1, rfl⟩ : ∃ z9, z9 = u59 := ⟨_, rfl⟩
        try dsimp only at hw59
        rcases Classical.em (showB (va_up (va_up s (13 + 3 * tr) v) 2 (s 2)) ar (fun k => I (ii + k)) m = true) with b59 | b59
        · obtain rfl := hw59.1 b59
          have bb : showB (va_up s (13 + 3 * tr) v) ar (fun k => I (ii + k)) m = true := by rw [upk] at b59; exact b59
          refine zn_if_eq (tgt := 74) hX dX6_everiesSeen_62 (by decide) (by omega) (fun c62 => absurd c62 (by omega)) (fun _ => ?_)
          refine z_iload hX 6 dX6_everiesSeen_65 rfl ?_
          refine z_iconst (v := nI 1) hX dX6_everiesSeen_67 (by decide) ?_
          refine z_iload hX 7 dX6_everiesSeen_68 rfl ?_
          refine z_ishl (v := (nI (2 ^ v))) hX dX6_everiesSeen_70 (shl_nI _ (by omega)) ?_
          refine z_ior (v := (nI (e ||| (2 ^ v)))) hX dX6_everiesSeen_71 (or_nI _ _) ?_
          refine z_istore (L' := [(6, .int (nI (e ||| (2 ^ v)))), (0, .ref x), (1, .int (nI ar)), (2, .int (nI tr)), (3, .ref hs), (4, .int (nI ii)), (5, .int (nI m)), (7, .int (nI v))]) hX dX6_everiesSeen_72 (Nat.le_of_ble_eq_true rfl) rfl ?_
          refine z_iinc (v := (nI (v + 1))) (L' := [(7, .int (nI (v + 1))), (6, .int (nI (e ||| (2 ^ v)))), (0, .ref x), (1, .int (nI ar)), (2, .int (nI tr)), (3, .ref hs), (4, .int (nI ii)), (5, .int (nI m))]) hX 7 dX6_everiesSeen_74 rfl (nI_inc _) (Nat.le_of_ble_eq_true rfl) rfl ?_
          refine z_goto (tgt := 20) hX dX6_everiesSeen_77 (by decide) ?_
          refine z_lsub [2, 3, 4, 5, 6, 7, 1, 0] rfl ?_
          exact ih20 (v + 1) (e ||| (2 ^ v)) t2_1 (upd gx tr (nI v)) (by omega) (by omega) (by rw [seenTo, if_pos ⟨by omega, bb⟩, ← hee]) (fun p hp hne => by simp only [upd, if_neg hne]; exact hg p hp hne)
        · obtain rfl := hw59.2 b59
          have bb : ¬ showB (va_up s (13 + 3 * tr) v) ar (fun k => I (ii + k)) m = true := by rw [upk] at b59; exact b59
          refine zn_if_eq (tgt := 74) hX dX6_everiesSeen_62 (by decide) (by omega) (fun _ => ?_) (fun c62 => absurd c62 (by omega))
          refine z_iinc (v := (nI (v + 1))) (L' := [(7, .int (nI (v + 1))), (0, .ref x), (1, .int (nI ar)), (2, .int (nI tr)), (3, .ref hs), (4, .int (nI ii)), (5, .int (nI m)), (6, .int (nI e))]) hX 7 dX6_everiesSeen_74 rfl (nI_inc _) (Nat.le_of_ble_eq_true rfl) rfl ?_
          refine z_goto (tgt := 20) hX dX6_everiesSeen_77 (by decide) ?_
          refine z_lsub [1, 2, 3, 4, 5, 6, 7, 0] rfl ?_
          exact ih20 (v + 1) e t2_1 (upd gx tr (nI v)) (by omega) (by omega) (by rw [seenTo, if_neg (fun z9 => bb z9.2), ← hee]) (fun p hp hne => by simp only [upd, if_neg hne]; exact hg p hp hne)
  refine z_lsub [2, 3, 4, 5, 6, 7, 1, 0] rfl ?_
  exact lp20 11 1 0 t fe (by omega) (by omega) (by rw [seenTo, if_neg (by omega)]; rfl) (fun p hp _ => (h1 p hp).2.2)
