set_option maxRecDepth 100000 in
set_option maxHeartbeats 4000000 in
theorem c_X6_seen (l : Launch) (G : zG) (x : Nat) (w : Nat) (kw : Nat) (ik : Nat) (tp : Nat) (sx : Nat) (fo : Nat) (gu : Nat) (ch : Nat) (now : Nat) (nh : Nat) (cr : Nat) (past : Nat) (o : Nat) (u : Nat) (s : nst) (ck : Nat) (cl : Nat) (ce : Nat) (sz : Nat) (fk : Nat → Int32) (fl : Nat → Int32) (fe : Nat → Int32) (fh : Nat) (t : nst) (hs : Nat) (it : Nat) (pf : Nat → Option Nat) (q : Nat) (z : Nat) (I : Nat → Int64) (j : Nat) (gk : Nat) (gl : Nat) (ge : Nat) (gz : Nat) (hk : Nat → Int32) (hl : Nat → Int32) (he : Nat → Int32) (ar : Int32) (t0 : Int32) (sh0 : Int32) (la0 : Int32) (i0 : Int32) (nn : Int32) (wh : Int32) (h0 : WF 9999 0 s) (h1 : CR s fk fl fe) (h2 : sz = s 0) (h3 : j < 4) (h4 : pf j = some hs) (h5 : q ≤ 4) (h6 : z ≤ 24) (h7 : ∀ i, i < 4 → sh0 = nI i → i = j) : zMi l G yX6_seen cX6_seen 9 .int 5 0 0 126 [.ref x, .int ar, .int t0, .int sh0, .int la0, .int i0, .int nn, .int wh] [ob x 6 [.ref w, .ref kw, .int (nI ik), .ref tp, .ref sx, .ref fo, .ref gu, .ref ch], ob w 5 [.ref now, .ref cr, .ref past, .int (nI o), .int (nI u)], ob now 2 (mf nh s), ia G nh 4 (fN (sh 7 s)), ob cr 1 [.ref ck, .ref cl, .ref ce, .int (nI sz)], ia G ck 6 fk, ia G cl 6 fl, ia G ce 6 fe, ob fo 2 (mf fh t), ia G fh 4 (fN (sh 7 t)), ob gu 1 [.ref gk, .ref gl, .ref ge, .int (nI gz)], ia G gk 6 hk, ia G gl 6 hl, ia G ge 6 he, sa G sx 4 pf, ob hs 3 [.ref it, .int (ln q), .int (nI z)], la G it 24 I] (fun (r : Int32) (_u : Nat × (Nat → Int32) × (Nat → Int32) × (Nat → Int32) × nst) => r = spSeen s q z I ar t0 sh0 la0 i0 nn wh) (fun (_u : Nat × (Nat → Int32) × (Nat → Int32) × (Nat → Int32) × nst) => [ob x 6 [.ref w, .ref kw, .int (nI ik), .ref tp, .ref sx, .ref fo, .ref gu, .ref ch], ob w 5 [.ref now, .ref cr, .ref past, .int (nI o), .int (nI u)], ob now 2 (mf nh s), ia G nh 4 (fN (sh 7 s)), ob cr 1 [.ref ck, .ref cl, .ref ce, .int (nI sz)], ia G ck 6 fk, ia G cl 6 fl, ia G ce 6 fe, ob fo 2 (mf fh _u.2.2.2.2), ia G fh 4 (fN (sh 7 _u.2.2.2.2)), ob gu 1 [.ref gk, .ref gl, .ref ge, .int (nI _u.1)], ia G gk 6 _u.2.1, ia G gl 6 _u.2.2.1, ia G ge 6 _u.2.2.2.1, sa G sx 4 pf, ob hs 3 [.ref it, .int (ln q), .int (nI z)], la G it 24 I]) := by
  refine zMi.of (by decide) rfl (fun X A H0 hX hXl hR => ?_)
  show Z (X, G, A, H0, 9) 0 0 [ob x 6 [.ref w, .ref kw, .int (nI ik), .ref tp, .ref sx, .ref fo, .ref gu, .ref ch], ob w 5 [.ref now, .ref cr, .ref past, .int (nI o), .int (nI u)], ob now 2 (mf nh s), ia G nh 4 (fN (sh 7 s)), ob cr 1 [.ref ck, .ref cl, .ref ce, .int (nI sz)], ia G ck 6 fk, ia G cl 6 fl, ia G ce 6 fe, ob fo 2 (mf fh t), ia G fh 4 (fN (sh 7 t)), ob gu 1 [.ref gk, .ref gl, .ref ge, .int (nI gz)], ia G gk 6 hk, ia G gl 6 hl, ia G ge 6 he, sa G sx 4 pf, ob hs 3 [.ref it, .int (ln q), .int (nI z)], la G it 24 I] 0 [(0, .ref x), (1, .int ar), (2, .int t0), (3, .int sh0), (4, .int la0), (5, .int i0), (6, .int nn), (7, .int wh)] []
  subst hXl
  have z0 := h0.1
  have z1 := h0.2.1
  have z2 := h0.2.2.1
  refine z_iload_n hX 1 dX6_seen_0 rfl ?_
  refine z_iconst (v := nI 4) hX dX6_seen_1 (by decide) ?_
  refine z_callSi (st := []) hX (c_X6_isBelowX _ G ar 4 (by omega)) lb_X6_isBelow ml_X6_58 (fun (_u : Unit) => [ob x 6 [.ref w, .ref kw, .int (nI ik), .ref tp, .ref sx, .ref fo, .ref gu, .ref ch], ob w 5 [.ref now, .ref cr, .ref past, .int (nI o), .int (nI u)], ob now 2 (mf nh s), ia G nh 4 (fN (sh 7 s)), ob cr 1 [.ref ck, .ref cl, .ref ce, .int (nI sz)], ia G ck 6 fk, ia G cl 6 fl, ia G ce 6 fe, ob fo 2 (mf fh t), ia G fh 4 (fN (sh 7 t)), ob gu 1 [.ref gk, .ref gl, .ref ge, .int (nI gz)], ia G gk 6 hk, ia G gl 6 hl, ia G ge 6 he, sa G sx 4 pf, ob hs 3 [.ref it, .int (ln q), .int (nI z)], la G it 24 I]) (wr := [ob x 6 [.ref w, .ref kw, .int (nI ik), .ref tp, .ref sx, .ref fo, .ref gu, .ref ch], ob w 5 [.ref now, .ref cr, .ref past, .int (nI o), .int (nI u)], ob now 2 (mf nh s), ia G nh 4 (fN (sh 7 s)), ob cr 1 [.ref ck, .ref cl, .ref ce, .int (nI sz)], ia G ck 6 fk, ia G cl 6 fl, ia G ce 6 fe, ob fo 2 (mf fh t), ia G fh 4 (fN (sh 7 t)), ob gu 1 [.ref gk, .ref gl, .ref ge, .int (nI gz)], ia G gk 6 hk, ia G gl 6 hl, ia G ge 6 he, sa G sx 4 pf, ob hs 3 [.ref it, .int (ln q), .int (nI z)], la G it 24 I]) [] [0, 1, 2, 3, 4, 5, 6, 7, 8, 9, 10, 11, 12, 13, 14, 15, 16] [0, 1, 2, 3, 4, 5, 6, 7, 8, 9, 10, 11, 12, 13, 14, 15, 16] ⟨rfl, rfl, rfl, fun _ => rfl⟩ rfl rfl ⟨Nat.le_refl _, Nat.le_refl _⟩ dX6_seen_2 rfl (fun r2 u2 hw2 => ?_)
  try dsimp only at hw2
  rcases hw2 with ⟨arj, harh, rfl, rfl⟩ | ⟨hw2, rfl⟩
  · skip
    refine zn_if_eq (tgt := 45) hX dX6_seen_5 (by decide) (by omega) (fun c5 => absurd c5 (by omega)) (fun _ => ?_)
    refine z_aload_n hX 0 dX6_seen_8 rfl ?_
    refine z_iload_n hX 2 dX6_seen_9 rfl ?_
    refine z_callVi (st := []) hX (c_X6_isTraveller _ G x w kw ik tp sx fo gu ch now nh cr past o u ck cl ce sz t0 (by omega)) lb_X6_isTraveller ml_X6_84 (fun (_u : Unit) => [ob x 6 [.ref w, .ref kw, .int (nI ik), .ref tp, .ref sx, .ref fo, .ref gu, .ref ch], ob w 5 [.ref now, .ref cr, .ref past, .int (nI o), .int (nI u)], ob now 2 (mf nh s), ia G nh 4 (fN (sh 7 s)), ob cr 1 [.ref ck, .ref cl, .ref ce, .int (nI sz)], ia G ck 6 fk, ia G cl 6 fl, ia G ce 6 fe, ob fo 2 (mf fh t), ia G fh 4 (fN (sh 7 t)), ob gu 1 [.ref gk, .ref gl, .ref ge, .int (nI gz)], ia G gk 6 hk, ia G gl 6 hl, ia G ge 6 he, sa G sx 4 pf, ob hs 3 [.ref it, .int (ln q), .int (nI z)], la G it 24 I]) (wr := [ob now 2 (mf nh s), ia G nh 4 (fN (sh 7 s)), ia G ck 6 fk, ia G cl 6 fl, ia G ce 6 fe, ob fo 2 (mf fh t), ia G fh 4 (fN (sh 7 t)), ob gu 1 [.ref gk, .ref gl, .ref ge, .int (nI gz)], ia G gk 6 hk, ia G gl 6 hl, ia G ge 6 he, sa G sx 4 pf, ob hs 3 [.ref it, .int (ln q), .int (nI z)], la G it 24 I]) [0, 1, 4] [2, 3, 5, 6, 7, 8, 9, 10, 11, 12, 13, 14, 15, 16] [14, 15, 0, 1, 16, 2, 3, 4, 5, 6, 7, 8, 9, 10, 11, 12, 13] ⟨rfl, rfl, rfl, fun _ => rfl⟩ 0 rfl rfl rfl rfl ⟨Nat.le_refl _, Nat.le_refl _⟩ dX6_seen_10 rfl (fun r10 u10 hw10 => ?_)
    try dsimp only at hw10
    rcases hw10 with ⟨t0j, ht0h, rfl, rfl⟩ | ⟨hw10, rfl⟩
    · skip
      refine zn_if_eq (tgt := 45) hX dX6_seen_13 (by decide) (by omega) (fun c13 => absurd c13 (by omega)) (fun _ => ?_)
      refine z_iload_n hX 3 dX6_seen_16 rfl ?_
      refine z_iload hX 4 dX6_seen_17 rfl ?_
      refine z_callSi (st := []) hX (c_X6_isPlace _ G sh0 la0 ) lb_X6_isPlace ml_X6_250 (fun (_u : Unit) => [ob x 6 [.ref w, .ref kw, .int (nI ik), .ref tp, .ref sx, .ref fo, .ref gu, .ref ch], ob w 5 [.ref now, .ref cr, .ref past, .int (nI o), .int (nI u)], ob now 2 (mf nh s), ia G nh 4 (fN (sh 7 s)), ob cr 1 [.ref ck, .ref cl, .ref ce, .int (nI sz)], ia G ck 6 fk, ia G cl 6 fl, ia G ce 6 fe, ob fo 2 (mf fh t), ia G fh 4 (fN (sh 7 t)), ob gu 1 [.ref gk, .ref gl, .ref ge, .int (nI gz)], ia G gk 6 hk, ia G gl 6 hl, ia G ge 6 he, sa G sx 4 pf, ob hs 3 [.ref it, .int (ln q), .int (nI z)], la G it 24 I]) (wr := [ob x 6 [.ref w, .ref kw, .int (nI ik), .ref tp, .ref sx, .ref fo, .ref gu, .ref ch], ob w 5 [.ref now, .ref cr, .ref past, .int (nI o), .int (nI u)], ob now 2 (mf nh s), ia G nh 4 (fN (sh 7 s)), ob cr 1 [.ref ck, .ref cl, .ref ce, .int (nI sz)], ia G ck 6 fk, ia G cl 6 fl, ia G ce 6 fe, ob fo 2 (mf fh t), ia G fh 4 (fN (sh 7 t)), ob gu 1 [.ref gk, .ref gl, .ref ge, .int (nI gz)], ia G gk 6 hk, ia G gl 6 hl, ia G ge 6 he, sa G sx 4 pf, ob hs 3 [.ref it, .int (ln q), .int (nI z)], la G it 24 I]) [] [0, 1, 2, 3, 4, 5, 6, 7, 8, 9, 10, 11, 12, 13, 14, 15, 16] [0, 1, 2, 3, 4, 5, 6, 7, 8, 9, 10, 11, 12, 13, 14, 15, 16] ⟨rfl, rfl, rfl, fun _ => rfl⟩ rfl rfl ⟨Nat.le_refl _, Nat.le_refl _⟩ dX6_seen_19 rfl (fun r19 u19 hw19 => ?_)
      try dsimp only at hw19
      rcases hw19 with ⟨sh0j, la0j, hsh0h, hla0h, rfl, rfl, rfl⟩ | ⟨hw19, rfl⟩
      · skip
        refine zn_if_eq (tgt := 45) hX dX6_seen_22 (by decide) (by omega) (fun c22 => absurd c22 (by omega)) (fun _ => ?_)
        refine z_iload hX 6 dX6_seen_25 rfl ?_
        refine z_iconst (v := nI 1) hX dX6_seen_27 (by decide) ?_
        refine z_bipush (v := nI 8) hX dX6_seen_28 (by decide) ?_
        refine z_callSi (st := []) hX (c_X6_isWithinX _ G nn 1 8 (by omega) (by omega)) lb_X6_isWithin ml_X6_62 (fun (_u : Unit) => [ob x 6 [.ref w, .ref kw, .int (nI ik), .ref tp, .ref sx, .ref fo, .ref gu, .ref ch], ob w 5 [.ref now, .ref cr, .ref past, .int (nI o), .int (nI u)], ob now 2 (mf nh s), ia G nh 4 (fN (sh 7 s)), ob cr 1 [.ref ck, .ref cl, .ref ce, .int (nI sz)], ia G ck 6 fk, ia G cl 6 fl, ia G ce 6 fe, ob fo 2 (mf fh t), ia G fh 4 (fN (sh 7 t)), ob gu 1 [.ref gk, .ref gl, .ref ge, .int (nI gz)], ia G gk 6 hk, ia G gl 6 hl, ia G ge 6 he, sa G sx 4 pf, ob hs 3 [.ref it, .int (ln q), .int (nI z)], la G it 24 I]) (wr := [ob x 6 [.ref w, .ref kw, .int (nI ik), .ref tp, .ref sx, .ref fo, .ref gu, .ref ch], ob w 5 [.ref now, .ref cr, .ref past, .int (nI o), .int (nI u)], ob now 2 (mf nh s), ia G nh 4 (fN (sh 7 s)), ob cr 1 [.ref ck, .ref cl, .ref ce, .int (nI sz)], ia G ck 6 fk, ia G cl 6 fl, ia G ce 6 fe, ob fo 2 (mf fh t), ia G fh 4 (fN (sh 7 t)), ob gu 1 [.ref gk, .ref gl, .ref ge, .int (nI gz)], ia G gk 6 hk, ia G gl 6 hl, ia G ge 6 he, sa G sx 4 pf, ob hs 3 [.ref it, .int (ln q), .int (nI z)], la G it 24 I]) [] [0, 1, 2, 3, 4, 5, 6, 7, 8, 9, 10, 11, 12, 13, 14, 15, 16] [0, 1, 2, 3, 4, 5, 6, 7, 8, 9, 10, 11, 12, 13, 14, 15, 16] ⟨rfl, rfl, rfl, fun _ => rfl⟩ rfl rfl ⟨Nat.le_refl _, Nat.le_refl _⟩ dX6_seen_30 rfl (fun r30 u30 hw30 => ?_)
        try dsimp only at hw30
        rcases hw30 with ⟨nnj, hnnl, hnnh, rfl, rfl⟩ | ⟨hw30, rfl⟩
        · skip
          refine zn_if_eq (tgt := 45) hX dX6_seen_33 (by decide) (by omega) (fun c33 => absurd c33 (by omega)) (fun _ => ?_)
          refine z_iload hX 7 dX6_seen_36 rfl ?_
          refine z_iconst (v := nI 2) hX dX6_seen_38 (by decide) ?_
          refine z_callSi (st := []) hX (c_X6_isBelowX _ G wh 2 (by omega)) lb_X6_isBelow ml_X6_58 (fun (_u : Unit) => [ob x 6 [.ref w, .ref kw, .int (nI ik), .ref tp, .ref sx, .ref fo, .ref gu, .ref ch], ob w 5 [.ref now, .ref cr, .ref past, .int (nI o), .int (nI u)], ob now 2 (mf nh s), ia G nh 4 (fN (sh 7 s)), ob cr 1 [.ref ck, .ref cl, .ref ce, .int (nI sz)], ia G ck 6 fk, ia G cl 6 fl, ia G ce 6 fe, ob fo 2 (mf fh t), ia G fh 4 (fN (sh 7 t)), ob gu 1 [.ref gk, .ref gl, .ref ge, .int (nI gz)], ia G gk 6 hk, ia G gl 6 hl, ia G ge 6 he, sa G sx 4 pf, ob hs 3 [.ref it, .int (ln q), .int (nI z)], la G it 24 I]) (wr := [ob x 6 [.ref w, .ref kw, .int (nI ik), .ref tp, .ref sx, .ref fo, .ref gu, .ref ch], ob w 5 [.ref now, .ref cr, .ref past, .int (nI o), .int (nI u)], ob now 2 (mf nh s), ia G nh 4 (fN (sh 7 s)), ob cr 1 [.ref ck, .ref cl, .ref ce, .int (nI sz)], ia G ck 6 fk, ia G cl 6 fl, ia G ce 6 fe, ob fo 2 (mf fh t), ia G fh 4 (fN (sh 7 t)), ob gu 1 [.ref gk, .ref gl, .ref ge, .int (nI gz)], ia G gk 6 hk, ia G gl 6 hl, ia G ge 6 he, sa G sx 4 pf, ob hs 3 [.ref it, .int (ln q), .int (nI z)], la G it 24 I]) [] [0, 1, 2, 3, 4, 5, 6, 7, 8, 9, 10, 11, 12, 13, 14, 15, 16] [0, 1, 2, 3, 4, 5, 6, 7, 8, 9, 10, 11, 12, 13, 14, 15, 16] ⟨rfl, rfl, rfl, fun _ => rfl⟩ rfl rfl ⟨Nat.le_refl _, Nat.le_refl _⟩ dX6_seen_39 rfl (fun r39 u39 hw39 => ?_)
          try dsimp only at hw39
          rcases hw39 with ⟨whj, hwhh, rfl, rfl⟩ | ⟨hw39, rfl⟩
          · skip
            refine zn_if_ne (tgt := 47) hX dX6_seen_42 (by decide) (by omega) (fun _ => ?_) (fun c42 => absurd c42 (by omega))
            obtain rfl := h7 sh0j (by omega) rfl
            refine z_aload_n hX 0 dX6_seen_47 rfl ?_
            refine z_get (v := .ref sx) hX fX6 0 4 rfl rfl (Nat.le_of_ble_eq_true rfl) fl_X6_32 rfl dX6_seen_48 ?_
            refine z_iload_n hX 3 dX6_seen_51 rfl ?_
            refine z_sald hX 14 (j := sh0j) rfl (by omega) (by decide) h4 dX6_seen_52 ?_
            refine z_iload hX 4 dX6_seen_53 rfl ?_
            refine z_iload hX 5 dX6_seen_55 rfl ?_
            refine z_iload hX 6 dX6_seen_57 rfl ?_
            refine z_callVi (st := []) hX (c_X3_faultOf _ G hs it q z (nI la0j) i0 (nI nnj) (by omega) (by omega)) lb_X3_faultOf ml_X6_253 (fun (_u : Unit) => [ob x 6 [.ref w, .ref kw, .int (nI ik), .ref tp, .ref sx, .ref fo, .ref gu, .ref ch], ob w 5 [.ref now, .ref cr, .ref past, .int (nI o), .int (nI u)], ob now 2 (mf nh s), ia G nh 4 (fN (sh 7 s)), ob cr 1 [.ref ck, .ref cl, .ref ce, .int (nI sz)], ia G ck 6 fk, ia G cl 6 fl, ia G ce 6 fe, ob fo 2 (mf fh t), ia G fh 4 (fN (sh 7 t)), ob gu 1 [.ref gk, .ref gl, .ref ge, .int (nI gz)], ia G gk 6 hk, ia G gl 6 hl, ia G ge 6 he, sa G sx 4 pf, ob hs 3 [.ref it, .int (ln q), .int (nI z)], la G it 24 I]) (wr := [ob x 6 [.ref w, .ref kw, .int (nI ik), .ref tp, .ref sx, .ref fo, .ref gu, .ref ch], ob w 5 [.ref now, .ref cr, .ref past, .int (nI o), .int (nI u)], ob now 2 (mf nh s), ia G nh 4 (fN (sh 7 s)), ob cr 1 [.ref ck, .ref cl, .ref ce, .int (nI sz)], ia G ck 6 fk, ia G cl 6 fl, ia G ce 6 fe, ob fo 2 (mf fh t), ia G fh 4 (fN (sh 7 t)), ob gu 1 [.ref gk, .ref gl, .ref ge, .int (nI gz)], ia G gk 6 hk, ia G gl 6 hl, ia G ge 6 he, sa G sx 4 pf, la G it 24 I]) [15] [0, 1, 2, 3, 4, 5, 6, 7, 8, 9, 10, 11, 12, 13, 14, 16] [0, 1, 2, 3, 4, 5, 6, 7, 8, 9, 10, 11, 12, 13, 14, 16, 15] ⟨rfl, rfl, rfl, fun _ => rfl⟩ 0 rfl rfl rfl rfl ⟨Nat.le_refl _, Nat.le_refl _⟩ dX6_seen_59 rfl (fun r59 u59 hw59 => ?_)
            refine z_istore (L' := [(8, .int r59), (0, .ref x), (1, .int (nI arj)), (2, .int (nI t0j)), (3, .int (nI sh0j)), (4, .int (nI la0j)), (5, .int i0), (6, .int (nI nnj)), (7, .int (nI whj))]) hX dX6_seen_62 (Nat.le_of_ble_eq_true rfl) rfl ?_
            refine z_iload hX 0 dX6_seen_64 rfl ?_
            refine z_if_eq (tgt := 72) hX dX6_seen_66 (by decide) (fun c66 => ?_) (fun c66 => ?_)
            · skip
              rw [hw59] at c66
              obtain ⟨f1, f2, f3⟩ := faultI_0 c66
              obtain ⟨i0j, f4, rfl⟩ := fits_ex (by omega) f3
              refine z_iload hX 8 dX6_seen_72 rfl ?_
              refine zn_if_ne (tgt := 96) hX dX6_seen_74 (by decide) (by omega) (fun c74 => ?_) (fun c74 => ?_)
              · skip
                refine z_aload_n hX 1 dX6_seen_96 rfl ?_
                refine z_iload_n hX 2 dX6_seen_97 rfl ?_
                refine z_iload_n hX 3 dX6_seen_98 rfl ?_
                refine z_aload_n hX 1 dX6_seen_99 rfl ?_
                refine z_get (v := .ref sx) hX fX6 0 4 rfl rfl (Nat.le_of_ble_eq_true rfl) fl_X6_32 rfl dX6_seen_100 ?_
                refine z_iload_n hX 4 dX6_seen_103 rfl ?_
                refine z_sald hX 14 (j := sh0j) rfl (by omega) (by decide) h4 dX6_seen_104 ?_
                refine z_iload hX 6 dX6_seen_105 rfl ?_
                refine z_iload hX 7 dX6_seen_107 rfl ?_
                refine z_callVi (st := []) hX (c_X6_everiesSeen _ G x w kw ik tp sx fo gu ch now nh cr past o u s ck cl ce sz fk fl fe gk gl ge gz hk hl he fh t it q z I arj t0j hs i0j nnj h0 h1 h2 (by omega) (by omega) (by omega) (by omega)) lb_X6_everiesSeen ml_X6_264 (fun (_u : Nat × (Nat → Int32) × (Nat → Int32) × (Nat → Int32) × nst) => [ob x 6 [.ref w, .ref kw, .int (nI ik), .ref tp, .ref sx, .ref fo, .ref gu, .ref ch], ob w 5 [.ref now, .ref cr, .ref past, .int (nI o), .int (nI u)], ob now 2 (mf nh s), ia G nh 4 (fN (sh 7 s)), ob cr 1 [.ref ck, .ref cl, .ref ce, .int (nI sz)], ia G ck 6 fk, ia G cl 6 fl, ia G ce 6 fe, ob fo 2 (mf fh _u.2.2.2.2), ia G fh 4 (fN (sh 7 _u.2.2.2.2)), ob gu 1 [.ref gk, .ref gl, .ref ge, .int (nI _u.1)], ia G gk 6 _u.2.1, ia G gl 6 _u.2.2.1, ia G ge 6 _u.2.2.2.1, sa G sx 4 pf, ob hs 3 [.ref it, .int (ln q), .int (nI z)], la G it 24 I]) (wr := [sa G sx 4 pf]) [0, 1, 2, 3, 4, 5, 6, 7, 10, 11, 12, 13, 8, 9, 15, 16] [14] [1, 2, 3, 4, 5, 6, 7, 8, 13, 14, 9, 10, 11, 12, 0, 15, 16] ⟨rfl, rfl, rfl, fun _ => rfl⟩ 0 rfl rfl rfl rfl ⟨Nat.le_refl _, Nat.le_refl _⟩ dX6_seen_109 rfl (fun r109 u109 hw109 => ?_)
                obtain ⟨z3_1, k3_2, l3_3, e3_4, t2_5⟩ := u109
                exact hR _ (z3_1, k3_2, l3_3, e3_4, t2_5) _ _ (by unfold spSeen; rw [if_pos (by unfold okSeen; rw [inb_t (by omega) (by omega) (by omega), inb_t (by omega) (by omega) (by omega), inb_t (by omega) (by omega) (by omega), inb_t (by omega) (by omega) (by omega), inb_t (by omega) (by omega) (by omega), inb_t (by omega) (by omega) (by omega)]; rfl), if_pos c66, gN_nI (show whj < 2147483648 by omega), gN_nI (show t0j < 2147483648 by omega), gN_nI (show arj < 2147483648 by omega), gN_nI (show i0j < 2147483648 by omega), gN_nI (show nnj < 2147483648 by omega), if_neg c74]; exact hw109) dX6_seen_112 rfl
              · skip
                refine z_aload_n hX 1 dX6_seen_77 rfl ?_
                refine z_iload_n hX 2 dX6_seen_78 rfl ?_
                refine z_iload_n hX 3 dX6_seen_79 rfl ?_
                refine z_aload_n hX 1 dX6_seen_80 rfl ?_
                refine z_get (v := .ref sx) hX fX6 0 4 rfl rfl (Nat.le_of_ble_eq_true rfl) fl_X6_32 rfl dX6_seen_81 ?_
                refine z_iload_n hX 4 dX6_seen_84 rfl ?_
                refine z_sald hX 14 (j := sh0j) rfl (by omega) (by decide) h4 dX6_seen_85 ?_
                refine z_iload hX 6 dX6_seen_86 rfl ?_
                refine z_iload hX 7 dX6_seen_88 rfl ?_
                refine z_callVi (st := []) hX (c_X6_kindsSeen _ G x w kw ik tp sx fo gu ch now nh cr past o u s ck cl ce sz fk fl fe gk gl ge gz hk hl he fh t it q z I arj t0j hs i0j nnj h0 h1 h2 (by omega) (by omega) (by omega) (by omega)) lb_X6_kindsSeen ml_X6_260 (fun (_u : Nat × (Nat → Int32) × (Nat → Int32) × (Nat → Int32) × nst) => [ob x 6 [.ref w, .ref kw, .int (nI ik), .ref tp, .ref sx, .ref fo, .ref gu, .ref ch], ob w 5 [.ref now, .ref cr, .ref past, .int (nI o), .int (nI u)], ob now 2 (mf nh s), ia G nh 4 (fN (sh 7 s)), ob cr 1 [.ref ck, .ref cl, .ref ce, .int (nI sz)], ia G ck 6 fk, ia G cl 6 fl, ia G ce 6 fe, ob fo 2 (mf fh _u.2.2.2.2), ia G fh 4 (fN (sh 7 _u.2.2.2.2)), ob gu 1 [.ref gk, .ref gl, .ref ge, .int (nI _u.1)], ia G gk 6 _u.2.1, ia G gl 6 _u.2.2.1, ia G ge 6 _u.2.2.2.1, sa G sx 4 pf, ob hs 3 [.ref it, .int (ln q), .int (nI z)], la G it 24 I]) (wr := [sa G sx 4 pf]) [0, 1, 2, 3, 4, 5, 6, 7, 10, 11, 12, 13, 8, 9, 15, 16] [14] [1, 2, 3, 4, 5, 6, 7, 8, 13, 14, 9, 10, 11, 12, 0, 15, 16] ⟨rfl, rfl, rfl, fun _ => rfl⟩ 0 rfl rfl rfl rfl ⟨Nat.le_refl _, Nat.le_refl _⟩ dX6_seen_90 rfl (fun r90 u90 hw90 => ?_)
                obtain ⟨z3_6, k3_7, l3_8, e3_9, t2_10⟩ := u90
                refine z_goto (tgt := 112) hX dX6_seen_93 (by decide) ?_
                exact hR _ (z3_6, k3_7, l3_8, e3_9, t2_10) _ _ (by unfold spSeen; rw [if_pos (by unfold okSeen; rw [inb_t (by omega) (by omega) (by omega), inb_t (by omega) (by omega) (by omega), inb_t (by omega) (by omega) (by omega), inb_t (by omega) (by omega) (by omega), inb_t (by omega) (by omega) (by omega), inb_t (by omega) (by omega) (by omega)]; rfl), if_pos c66, gN_nI (show whj < 2147483648 by omega), gN_nI (show t0j < 2147483648 by omega), gN_nI (show arj < 2147483648 by omega), gN_nI (show i0j < 2147483648 by omega), gN_nI (show nnj < 2147483648 by omega), if_pos c74]; exact hw90) dX6_seen_112 rfl
            · skip
              refine z_iload hX 0 dX6_seen_69 rfl ?_
              exact hR _ (gz, hk, hl, he, t) _ _ (by unfold spSeen; rw [if_pos (by unfold okSeen; rw [inb_t (by omega) (by omega) (by omega), inb_t (by omega) (by omega) (by omega), inb_t (by omega) (by omega) (by omega), inb_t (by omega) (by omega) (by omega), inb_t (by omega) (by omega) (by omega), inb_t (by omega) (by omega) (by omega)]; rfl), if_neg (by rw [← hw59]; exact c66)]; exact hw59) dX6_seen_71 rfl
          · have hb_wh : inb wh 0 1 = false := hw39
            refine zn_if_ne (tgt := 47) hX dX6_seen_42 (by decide) (by omega) (fun c42 => absurd c42 (by omega)) (fun _ => ?_)
            refine z_iconst (v := (-1)) hX dX6_seen_45 (by decide) ?_
            exact hR _ (gz, hk, hl, he, t) _ _ (by unfold spSeen; rw [if_neg (by unfold okSeen; simp [hb_wh])]) dX6_seen_46 rfl
        · have hb_nn : inb nn 1 8 = false := hw30
          refine zn_if_eq (tgt := 45) hX dX6_seen_33 (by decide) (by omega) (fun _ => ?_) (fun c33 => absurd c33 (by omega))
          refine z_iconst (v := (-1)) hX dX6_seen_45 (by decide) ?_
          exact hR _ (gz, hk, hl, he, t) _ _ (by unfold spSeen; rw [if_neg (by unfold okSeen; simp [hb_nn])]) dX6_seen_46 rfl
      · have hb_sh0_la0 : (inb sh0 0 3 && inb la0 0 3) = false := hw19
        refine zn_if_eq (tgt := 45) hX dX6_seen_22 (by decide) (by omega) (fun _ => ?_) (fun c22 => absurd c22 (by omega))
        refine z_iconst (v := (-1)) hX dX6_seen_45 (by decide) ?_
        exact hR _ (gz, hk, hl, he, t) _ _ (by unfold spSeen; rw [if_neg (by unfold okSeen; simp [hb_sh0_la0])]) dX6_seen_46 rfl
    · have hb_t0 : inb t0 0 ((sz : Nat) - 1 : Int) = false := hw10
      refine zn_if_eq (tgt := 45) hX dX6_seen_13 (by decide) (by omega) (fun _ => ?_) (fun c13 => absurd c13 (by omega))
      refine z_iconst (v := (-1)) hX dX6_seen_45 (by decide) ?_
      exact hR _ (gz, hk, hl, he, t) _ _ (by rw [h2] at hb_t0; unfold spSeen; rw [if_neg (by unfold okSeen; simp [hb_t0])]) dX6_seen_46 rfl
  · have hb_ar : inb ar 0 3 = false := hw2
    refine zn_if_eq (tgt := 45) hX dX6_seen_5 (by decide) (by omega) (fun _ => ?_) (fun c5 => absurd c5 (by omega))
    refine z_iconst (v := (-1)) hX dX6_seen_45 (by decide) ?_
    exact hR _ (gz, hk, hl, he, t) _ _ (by unfold spSeen; rw [if_neg (by unfold okSeen; simp [hb_ar])]) dX6_seen_46 rfl
set_option maxRecDepth 100000 in
set_option maxHeartbeats 4000000 in
theorem c_X6_film (l : Launch) (G : zG) (x : Nat) (w : Nat) (kw : Nat) (ik : Nat) (tp : Nat) (sx : Nat) (fo : Nat) (gu : Nat) (ch : Nat) (now : Nat) (nh : Nat) (cr : Nat) (past : Nat) (o : Nat) (u : Nat) (s : nst) (ck : Nat) (cl : Nat) (ce : Nat) (sz : Nat) (fk : Nat → Int32) (fl : Nat → Int32) (fe : Nat → Int32) (fh : Nat) (t : nst) (hs : Nat) (it : Nat) (pf : Nat → Option Nat) (q : Nat) (z : Nat) (I : Nat → Int64) (j : Nat) (ar : Int32) (nn : Int32) (sh0 : Int32) (la0 : Int32) (i0 : Int32) (h0 : WF 9999 0 s) (h1 : CR s fk fl fe) (h2 : sz = s 0) (h3 : j < 4) (h4 : pf j = some hs) (h5 : q ≤ 4) (h6 : z ≤ 24) (h7 : ∀ i, i < 4 → sh0 = nI i → i = j) : zMi l G yX6_film cX6_film 9 .int 3 0 0 72 [.ref x, .int ar, .int nn, .int sh0, .int la0, .int i0] [ob x 6 [.ref w, .ref kw, .int (nI ik), .ref tp, .ref sx, .ref fo, .ref gu, .ref ch], ob w 5 [.ref now, .ref cr, .ref past, .int (nI o), .int (nI u)], ob now 2 (mf nh s), ia G nh 4 (fN (sh 7 s)), ob cr 1 [.ref ck, .ref cl, .ref ce, .int (nI sz)], ia G ck 6 fk, ia G cl 6 fl, ia G ce 6 fe, ob fo 2 (mf fh t), ia G fh 4 (fN (sh 7 t)), sa G sx 4 pf, ob hs 3 [.ref it, .int (ln q), .int (nI z)], la G it 24 I] (fun (r : Int32) (_u : nst) => r = spFilm q z ar nn sh0 la0 i0) (fun (_u : nst) => [ob x 6 [.ref w, .ref kw, .int (nI ik), .ref tp, .ref sx, .ref fo, .ref gu, .ref ch], ob w 5 [.ref now, .ref cr, .ref past, .int (nI o), .int (nI u)], ob now 2 (mf nh s), ia G nh 4 (fN (sh 7 s)), ob cr 1 [.ref ck, .ref cl, .ref ce, .int (nI sz)], ia G ck 6 fk, ia G cl 6 fl, ia G ce 6 fe, ob fo 2 (mf fh _u), ia G fh 4 (fN (sh 7 _u)), sa G sx 4 pf, ob hs 3 [.ref it, .int (ln q), .int (nI z)], la G it 24 (cond (okFilm ar nn sh0 la0 && decide (faultI q z la0 i0 nn = 0)) (filmI I s (gN ar) (gN i0) (gN nn)) (I))]) := by
  refine zMi.of (by decide) rfl (fun X A H0 hX hXl hR => ?_)
  show Z (X, G, A, H0, 9) 0 0 [ob x 6 [.ref w, .ref kw, .int (nI ik), .ref tp, .ref sx, .ref fo, .ref gu, .ref ch], ob w 5 [.ref now, .ref cr, .ref past, .int (nI o), .int (nI u)], ob now 2 (mf nh s), ia G nh 4 (fN (sh 7 s)), ob cr 1 [.ref ck, .ref cl, .ref ce, .int (nI sz)], ia G ck 6 fk, ia G cl 6 fl, ia G ce 6 fe, ob fo 2 (mf fh t), ia G fh 4 (fN (sh 7 t)), sa G sx 4 pf, ob hs 3 [.ref it, .int (ln q), .int (nI z)], la G it 24 I] 0 [(0, .ref x), (1, .int ar), (2, .int nn), (3, .int sh0), (4, .int la0), (5, .int i0)] []
  subst hXl
  have z0 := h0.1
  have z1 := h0.2.1
  have z2 := h0.2.2.1
  refine z_iload_n hX 1 dX6_film_0 rfl ?_
  refine z_iconst (v := nI 4) hX dX6_film_1 (by decide) ?_
  refine z_callSi (st := []) hX (c_X6_isBelowX _ G ar 4 (by omega)) lb_X6_isBelow ml_X6_58 (fun (_u : Unit) => [ob x 6 [.ref w, .ref kw, .int (nI ik), .ref tp, .ref sx, .ref fo, .ref gu, .ref ch], ob w 5 [.ref now, .ref cr, .ref past, .int (nI o), .int (nI u)], ob now 2 (mf nh s), ia G nh 4 (fN (sh 7 s)), ob cr 1 [.ref ck, .ref cl, .ref ce, .int (nI sz)], ia G ck 6 fk, ia G cl 6 fl, ia G ce 6 fe, ob fo 2 (mf fh t), ia G fh 4 (fN (sh 7 t)), sa G sx 4 pf, ob hs 3 [.ref it, .int (ln q), .int (nI z)], la G it 24 I]) (wr := [ob x 6 [.ref w, .ref kw, .int (nI ik), .ref tp, .ref sx, .ref fo, .ref gu, .ref ch], ob w 5 [.ref now, .ref cr, .ref past, .int (nI o), .int (nI u)], ob now 2 (mf nh s), ia G nh 4 (fN (sh 7 s)), ob cr 1 [.ref ck, .ref cl, .ref ce, .int (nI sz)], ia G ck 6 fk, ia G cl 6 fl, ia G ce 6 fe, ob fo 2 (mf fh t), ia G fh 4 (fN (sh 7 t)), sa G sx 4 pf, ob hs 3 [.ref it, .int (ln q), .int (nI z)], la G it 24 I]) [] [0, 1, 2, 3, 4, 5, 6, 7, 8, 9, 10, 11, 12] [0, 1, 2, 3, 4, 5, 6, 7, 8, 9, 10, 11, 12] ⟨rfl, rfl, rfl, fun _ => rfl⟩ rfl rfl ⟨Nat.le_refl _, Nat.le_refl _⟩ dX6_film_2 rfl (fun r2 u2 hw2 => ?_)
  try dsimp only at hw2
  rcases hw2 with ⟨arj, harh, rfl, rfl⟩ | ⟨hw2, rfl⟩
  · skip
    refine zn_if_eq (tgt := 27) hX dX6_film_5 (by decide) (by omega) (fun c5 => absurd c5 (by omega)) (fun _ => ?_)
    refine z_iload_n hX 2 dX6_film_8 rfl ?_
    refine z_iconst (v := nI 1) hX dX6_film_9 (by decide) ?_
    refine z_bipush (v := nI 24) hX dX6_film_10 (by decide) ?_
    refine z_callSi (st := []) hX (c_X6_isWithinX _ G nn 1 24 (by omega) (by omega)) lb_X6_isWithin ml_X6_62 (fun (_u : Unit) => [ob x 6 [.ref w, .ref kw, .int (nI ik), .ref tp, .ref sx, .ref fo, .ref gu, .ref ch], ob w 5 [.ref now, .ref cr, .ref past, .int (nI o), .int (nI u)], ob now 2 (mf nh s), ia G nh 4 (fN (sh 7 s)), ob cr 1 [.ref ck, .ref cl, .ref ce, .int (nI sz)], ia G ck 6 fk, ia G cl 6 fl, ia G ce 6 fe, ob fo 2 (mf fh t), ia G fh 4 (fN (sh 7 t)), sa G sx 4 pf, ob hs 3 [.ref it, .int (ln q), .int (nI z)], la G it 24 I]) (wr := [ob x 6 [.ref w, .ref kw, .int (nI ik), .ref tp, .ref sx, .ref fo, .ref gu, .ref ch], ob w 5 [.ref now, .ref cr, .ref past, .int (nI o), .int (nI u)], ob now 2 (mf nh s), ia G nh 4 (fN (sh 7 s)), ob cr 1 [.ref ck, .ref cl, .ref ce, .int (nI sz)], ia G ck 6 fk, ia G cl 6 fl, ia G ce 6 fe, ob fo 2 (mf fh t), ia G fh 4 (fN (sh 7 t)), sa G sx 4 pf, ob hs 3 [.ref it, .int (ln q), .int (nI z)], la G it 24 I]) [] [0, 1, 2, 3, 4, 5, 6, 7, 8, 9, 10, 11, 12] [0, 1, 2, 3, 4, 5, 6, 7, 8, 9, 10, 11, 12] ⟨rfl, rfl, rfl, fun _ => rfl⟩ rfl rfl ⟨Nat.le_refl _, Nat.le_refl _⟩ dX6_film_12 rfl (fun r12 u12 hw12 => ?_)
    try dsimp only at hw12
    rcases hw12 with ⟨nnj, hnnl, hnnh, rfl, rfl⟩ | ⟨hw12, rfl⟩
    · skip
      refine zn_if_eq (tgt := 27) hX dX6_film_15 (by decide) (by omega) (fun c15 => absurd c15 (by omega)) (fun _ => ?_)
      refine z_iload_n hX 3 dX6_film_18 rfl ?_
      refine z_iload hX 4 dX6_film_19 rfl ?_
      refine z_callSi (st := []) hX (c_X6_isPlace _ G sh0 la0 ) lb_X6_isPlace ml_X6_250 (fun (_u : Unit) => [ob x 6 [.ref w, .ref kw, .int (nI ik), .ref tp, .ref sx, .ref fo, .ref gu, .ref ch], ob w 5 [.ref now, .ref cr, .ref past, .int (nI o), .int (nI u)], ob now 2 (mf nh s), ia G nh 4 (fN (sh 7 s)), ob cr 1 [.ref ck, .ref cl, .ref ce, .int (nI sz)], ia G ck 6 fk, ia G cl 6 fl, ia G ce 6 fe, ob fo 2 (mf fh t), ia G fh 4 (fN (sh 7 t)), sa G sx 4 pf, ob hs 3 [.ref it, .int (ln q), .int (nI z)], la G it 24 I]) (wr := [ob x 6 [.ref w, .ref kw, .int (nI ik), .ref tp, .ref sx, .ref fo, .ref gu, .ref ch], ob w 5 [.ref now, .ref cr, .ref past, .int (nI o), .int (nI u)], ob now 2 (mf nh s), ia G nh 4 (fN (sh 7 s)), ob cr 1 [.ref ck, .ref cl, .ref ce, .int (nI sz)], ia G ck 6 fk, ia G cl 6 fl, ia G ce 6 fe, ob fo 2 (mf fh t), ia G fh 4 (fN (sh 7 t)), sa G sx 4 pf, ob hs 3 [.ref it, .int (ln q), .int (nI z)], la G it 24 I]) [] [0, 1, 2, 3, 4, 5, 6, 7, 8, 9, 10, 11, 12] [0, 1, 2, 3, 4, 5, 6, 7, 8, 9, 10, 11, 12] ⟨rfl, rfl, rfl, fun _ => rfl⟩ rfl rfl ⟨Nat.le_refl _, Nat.le_refl _⟩ dX6_film_21 rfl (fun r21 u21 hw21 => ?_)
      try dsimp only at hw21
      rcases hw21 with ⟨sh0j, la0j, hsh0h, hla0h, rfl, rfl, rfl⟩ | ⟨hw21, rfl⟩
      · skip
        refine zn_if_ne (tgt := 29) hX dX6_film_24 (by decide) (by omega) (fun _ => ?_) (fun c24 => absurd c24 (by omega))
        obtain rfl := h7 sh0j (by omega) rfl
        refine z_aload_n hX 0 dX6_film_29 rfl ?_
        refine z_get (v := .ref sx) hX fX6 0 4 rfl rfl (Nat.le_of_ble_eq_true rfl) fl_X6_32 rfl dX6_film_30 ?_
        refine z_iload_n hX 3 dX6_film_33 rfl ?_
        refine z_sald hX 10 (j := sh0j) rfl (by omega) (by decide) h4 dX6_film_34 ?_
        refine z_astore (L' := [(6, .ref hs), (0, .ref x), (1, .int (nI arj)), (2, .int (nI nnj)), (3, .int (nI sh0j)), (4, .int (nI la0j)), (5, .int i0)]) hX dX6_film_35 (Nat.le_of_ble_eq_true rfl) rfl ?_
        refine z_aload hX 0 dX6_film_37 rfl ?_
        refine z_iload hX 5 dX6_film_39 rfl ?_
        refine z_iload hX 6 dX6_film_41 rfl ?_
        refine z_iload_n hX 3 dX6_film_43 rfl ?_
        refine z_callVi (st := []) hX (c_X3_faultOf _ G hs it q z (nI la0j) i0 (nI nnj) (by omega) (by omega)) lb_X3_faultOf ml_X6_253 (fun (_u : Unit) => [ob x 6 [.ref w, .ref kw, .int (nI ik), .ref tp, .ref sx, .ref fo, .ref gu, .ref ch], ob w 5 [.ref now, .ref cr, .ref past, .int (nI o), .int (nI u)], ob now 2 (mf nh s), ia G nh 4 (fN (sh 7 s)), ob cr 1 [.ref ck, .ref cl, .ref ce, .int (nI sz)], ia G ck 6 fk, ia G cl 6 fl, ia G ce 6 fe, ob fo 2 (mf fh t), ia G fh 4 (fN (sh 7 t)), sa G sx 4 pf, ob hs 3 [.ref it, .int (ln q), .int (nI z)], la G it 24 I]) (wr := [ob x 6 [.ref w, .ref kw, .int (nI ik), .ref tp, .ref sx, .ref fo, .ref gu, .ref ch], ob w 5 [.ref now, .ref cr, .ref past, .int (nI o), .int (nI u)], ob now 2 (mf nh s), ia G nh 4 (fN (sh 7 s)), ob cr 1 [.ref ck, .ref cl, .ref ce, .int (nI sz)], ia G ck 6 fk, ia G cl 6 fl, ia G ce 6 fe, ob fo 2 (mf fh t), ia G fh 4 (fN (sh 7 t)), sa G sx 4 pf, la G it 24 I]) [11] [0, 1, 2, 3, 4, 5, 6, 7, 8, 9, 10, 12] [0, 1, 2, 3, 4, 5, 6, 7, 8, 9, 10, 12, 11] ⟨rfl, rfl, rfl, fun _ => rfl⟩ 0 rfl rfl rfl rfl ⟨Nat.le_refl _, Nat.le_refl _⟩ dX6_film_44 rfl (fun r44 u44 hw44 => ?_)
        refine z_istore (L' := [(7, .int r44), (6, .ref hs), (0, .ref x), (1, .int (nI arj)), (2, .int (nI nnj)), (3, .int (nI sh0j)), (4, .int (nI la0j)), (5, .int i0)]) hX dX6_film_47 (Nat.le_of_ble_eq_true rfl) rfl ?_
        refine z_iload hX 0 dX6_film_49 rfl ?_
        refine z_if_eq (tgt := 57) hX dX6_film_51 (by decide) (fun c51 => ?_) (fun c51 => ?_)
        · skip
          rw [hw44] at c51
          obtain ⟨f1, f2, f3⟩ := faultI_0 c51
          obtain ⟨i0j, f4, rfl⟩ := fits_ex (by omega) f3
          refine z_aload_n hX 2 dX6_film_57 rfl ?_
          refine z_get (v := .ref fo) hX fX6 0 5 rfl rfl (Nat.le_of_ble_eq_true rfl) fl_X6_40 rfl dX6_film_58 ?_
          refine z_aload_n hX 2 dX6_film_61 rfl ?_
          refine z_get (v := .ref w) hX fX6 0 0 rfl rfl (Nat.le_of_ble_eq_true rfl) fl_X6_10 rfl dX6_film_62 ?_
          refine z_get (v := .ref now) hX fX5 1 0 rfl rfl (Nat.le_of_ble_eq_true rfl) fl_X6_88 rfl dX6_film_65 ?_
          refine z_callVv (st := []) hX (c_X2_take _ G fo fh t now nh s ) lb_X2_take ml_X6_206 (fun (_u : Unit) => [ob x 6 [.ref w, .ref kw, .int (nI ik), .ref tp, .ref sx, .ref fo, .ref gu, .ref ch], ob w 5 [.ref now, .ref cr, .ref past, .int (nI o), .int (nI u)], ob now 2 (mf nh s), ia G nh 4 (fN (sh 7 s)), ob cr 1 [.ref ck, .ref cl, .ref ce, .int (nI sz)], ia G ck 6 fk, ia G cl 6 fl, ia G ce 6 fe, ob fo 2 (mf fh s), ia G fh 4 (fN (sh 7 s)), sa G sx 4 pf, ob hs 3 [.ref it, .int (ln q), .int (nI z)], la G it 24 I]) (wr := [ob x 6 [.ref w, .ref kw, .int (nI ik), .ref tp, .ref sx, .ref fo, .ref gu, .ref ch], ob w 5 [.ref now, .ref cr, .ref past, .int (nI o), .int (nI u)], ob cr 1 [.ref ck, .ref cl, .ref ce, .int (nI sz)], ia G ck 6 fk, ia G cl 6 fl, ia G ce 6 fe, sa G sx 4 pf, ob hs 3 [.ref it, .int (ln q), .int (nI z)], la G it 24 I]) [8, 9, 2, 3] [0, 1, 4, 5, 6, 7, 10, 11, 12] [0, 1, 11, 12, 2, 3, 4, 5, 9, 10, 6, 7, 8] ⟨rfl, rfl, rfl, fun _ => rfl⟩ 0 rfl rfl rfl rfl ⟨Nat.le_refl _, Nat.le_refl _⟩ dX6_film_68 rfl (fun  u68 hw68 => ?_)
          refine z_eq (ws' := [ob x 6 [.ref w, .ref kw, .int (nI ik), .ref tp, .ref sx, .ref fo, .ref gu, .ref ch], ob w 5 [.ref now, .ref cr, .ref past, .int (nI o), .int (nI u)], ob now 2 (mf nh s), ia G nh 4 (fN (sh 7 s)), ob cr 1 [.ref ck, .ref cl, .ref ce, .int (nI sz)], ia G ck 6 fk, ia G cl 6 fl, ia G ce 6 fe, ob fo 2 (mf fh s), ia G fh 4 (fN (sh 7 s)), sa G sx 4 pf, ob hs 3 [.ref it, .int (ln q), .int (nI z)], la G it 24 (filmI I s arj i0j 0)]) (by rw [filmI_0]) ?_
          refine z_iconst (v := nI 0) hX dX6_film_71 (by decide) ?_
          refine z_istore (L' := [(8, .int (nI 0)), (7, .int r44), (6, .ref hs), (0, .ref x), (1, .int (nI arj)), (2, .int (nI nnj)), (3, .int (nI sh0j)), (4, .int (nI la0j)), (5, .int (nI i0j))]) hX dX6_film_72 (Nat.le_of_ble_eq_true rfl) rfl ?_
          have lp74 : ∀ (n74 : Nat) (k : Nat), (nnj + 1 ≤ k + n74) → (k ≤ nnj) → Z (X, G, A, H0, 9) 0 0 [ob x 6 [.ref w, .ref kw, .int (nI ik), .ref tp, .ref sx, .ref fo, .ref gu, .ref ch], ob w 5 [.ref now, .ref cr, .ref past, .int (nI o), .int (nI u)], ob now 2 (mf nh s), ia G nh 4 (fN (sh 7 s)), ob cr 1 [.ref ck, .ref cl, .ref ce, .int (nI sz)], ia G ck 6 fk, ia G cl 6 fl, ia G ce 6 fe, ob fo 2 (mf fh (goN k s)), ia G fh 4 (fN (sh 7 (goN k s))), sa G sx 4 pf, ob hs 3 [.ref it, .int (ln q), .int (nI z)], la G it 24 (filmI I s arj i0j k)] 74 [(0, .ref x), (1, .int (nI arj)), (2, .int (nI nnj)), (5, .int (nI i0j)), (6, .ref hs), (8, .int (nI k))] [] := by
            intro n74
            induction n74 with
            | zero =>
              intro k hn hk
              exfalso
              omega
            | succ n74 ih74 =>
              intro k hn hk
              have hz : sz = goN k s 0 := by rw [goN_keep _ (by omega)]; exact h2
              have hq4 := (goN_WF h0 (k + 1)).2.2.2.2.2.1 arj (by omega)
              refine z_iload hX 5 dX6_film_74 rfl ?_
              refine z_iload_n hX 2 dX6_film_76 rfl ?_
              refine zn_icmp_ge (tgt := 122) hX dX6_film_77 (by decide) (by omega) (by omega) (fun c77 => ?_) (fun c77 => ?_)
              · skip
                refine z_iload_n hX 2 dX6_film_122 rfl ?_
                have ek : k = nnj := by omega
                subst ek
                have e0 : okFilm (nI arj) (nI k) (nI sh0j) (nI la0j) = true := by unfold okFilm; rw [inb_t (by omega) (by omega) (by omega), inb_t (by omega) (by omega) (by omega), inb_t (by omega) (by omega) (by omega), inb_t (by omega) (by omega) (by omega)]; rfl
                rw [e0, decide_eq_true c51, Bool.and_true, gN_nI (show arj < 2147483648 by omega), gN_nI (show i0j < 2147483648 by omega), gN_nI (show k < 2147483648 by omega)] at hR
                exact hR _ (goN k s) _ _ (by unfold spFilm; rw [if_pos e0, if_pos c51]) dX6_film_123 rfl
              · skip
                refine z_aload_n hX 0 dX6_film_80 rfl ?_
                refine z_get (v := .ref fo) hX fX6 0 5 rfl rfl (Nat.le_of_ble_eq_true rfl) fl_X6_40 rfl dX6_film_81 ?_
                refine z_aload_n hX 0 dX6_film_84 rfl ?_
                refine z_get (v := .ref w) hX fX6 0 0 rfl rfl (Nat.le_of_ble_eq_true rfl) fl_X6_10 rfl dX6_film_85 ?_
                refine z_get (v := .ref cr) hX fX5 1 1 rfl rfl (Nat.le_of_ble_eq_true rfl) fl_X6_66 rfl dX6_film_88 ?_
                refine z_callVi (st := []) hX (c_X2_pass _ G fo fh (goN k s) cr ck cl ce fk fl fe sz (9999 + k) (goN_WF h0 k) (by omega) (CR_goN h1 k) hz) lb_X2_pass ml_X6_194 (fun (_u : Unit) => [ob x 6 [.ref w, .ref kw, .int (nI ik), .ref tp, .ref sx, .ref fo, .ref gu, .ref ch], ob w 5 [.ref now, .ref cr, .ref past, .int (nI o), .int (nI u)], ob now 2 (mf nh s), ia G nh 4 (fN (sh 7 s)), ob cr 1 [.ref ck, .ref cl, .ref ce, .int (nI sz)], ia G ck 6 fk, ia G cl 6 fl, ia G ce 6 fe, ob fo 2 (mf fh (goBy (goN k s))), ia G fh 4 (fN (sh 7 (goBy (goN k s)))), sa G sx 4 pf, ob hs 3 [.ref it, .int (ln q), .int (nI z)], la G it 24 (filmI I s arj i0j k)]) (wr := [ob x 6 [.ref w, .ref kw, .int (nI ik), .ref tp, .ref sx, .ref fo, .ref gu, .ref ch], ob w 5 [.ref now, .ref cr, .ref past, .int (nI o), .int (nI u)], ob now 2 (mf nh s), ia G nh 4 (fN (sh 7 s)), sa G sx 4 pf, ob hs 3 [.ref it, .int (ln q), .int (nI z)], la G it 24 (filmI I s arj i0j k)]) [8, 9, 4, 5, 6, 7] [0, 1, 2, 3, 10, 11, 12] [0, 1, 2, 3, 9, 10, 11, 12, 7, 8, 4, 5, 6] ⟨rfl, rfl, rfl, fun _ => rfl⟩ 0 rfl rfl rfl rfl ⟨Nat.le_refl _, Nat.le_refl _⟩ dX6_film_91 rfl (fun r91 u91 hw91 => ?_)
                subst hw91
                refine z_pop hX dX6_film_94 rfl ?_
                refine z_aload hX 4 dX6_film_95 rfl ?_
                refine z_get (v := .ref it) hX fX3 11 0 rfl rfl (Nat.le_of_ble_eq_true rfl) fl_X6_267 rfl dX6_film_97 ?_
                refine z_iload hX 3 dX6_film_100 rfl ?_
                refine z_iload hX 5 dX6_film_102 rfl ?_
                refine z_iadd (v := (nI (i0j + k))) hX dX6_film_104 (nI_add _ _) ?_
                refine z_aload_n hX 0 dX6_film_105 rfl ?_
                refine z_get (v := .ref fo) hX fX6 0 5 rfl rfl (Nat.le_of_ble_eq_true rfl) fl_X6_40 rfl dX6_film_106 ?_
                refine z_get (v := .ref fh) hX fX2 8 0 rfl rfl (Nat.le_of_ble_eq_true rfl) fl_X6_125 rfl dX6_film_109 ?_
                refine z_iload_n hX 1 dX6_film_112 rfl ?_
                refine z_iald (v := (nI ((goBy (goN k s)) (7 + arj)))) hX 9 (j := arj) rfl (by omega) (by decide) rfl dX6_film_113 ?_
                refine z_i2l (v := ((nI ((goBy (goN k s)) (7 + arj))).toInt64)) hX dX6_film_114 rfl ?_
                refine z_last (ws' := [ob x 6 [.ref w, .ref kw, .int (nI ik), .ref tp, .ref sx, .ref fo, .ref gu, .ref ch], ob w 5 [.ref now, .ref cr, .ref past, .int (nI o), .int (nI u)], ob now 2 (mf nh s), ia G nh 4 (fN (sh 7 s)), ob cr 1 [.ref ck, .ref cl, .ref ce, .int (nI sz)], ia G ck 6 fk, ia G cl 6 fl, ia G ce 6 fe, ob fo 2 (mf fh (goBy (goN k s))), ia G fh 4 (fN (sh 7 (goBy (goN k s)))), sa G sx 4 pf, ob hs 3 [.ref it, .int (ln q), .int (nI z)], la G it 24 (filmI I s arj i0j (k + 1))]) hX 12 (j := (i0j + k)) rfl (by omega) (by decide) ((congrArg (vp_updL _ _) (nI_l (show goN (k + 1) s (7 + arj) < 2 ^ 31 by omega))).trans (filmI_up I s arj i0j k)) rfl dX6_film_115 ?_
                refine z_iinc (v := (nI (k + 1))) (L' := [(8, .int (nI (k + 1))), (0, .ref x), (1, .int (nI arj)), (2, .int (nI nnj)), (5, .int (nI i0j)), (6, .ref hs)]) hX 5 dX6_film_116 rfl (nI_inc _) (Nat.le_of_ble_eq_true rfl) rfl ?_
                refine z_goto (tgt := 74) hX dX6_film_119 (by decide) ?_
                refine z_lsub [1, 2, 3, 4, 5, 0] rfl ?_
                exact ih74 (k + 1) (by omega) (by omega)
          refine z_lsub [3, 4, 5, 8, 2, 0] rfl ?_
          exact lp74 (nnj + 1) 0 (by omega) (by omega)
        · skip
          refine z_iload hX 0 dX6_film_54 rfl ?_
          have e0 : okFilm (nI arj) (nI nnj) (nI sh0j) (nI la0j) = true := by unfold okFilm; rw [inb_t (by omega) (by omega) (by omega), inb_t (by omega) (by omega) (by omega), inb_t (by omega) (by omega) (by omega), inb_t (by omega) (by omega) (by omega)]; rfl
          have e1 : ¬ faultI q z (nI la0j) i0 (nI nnj) = 0 := by rw [← hw44]; exact c51
          rw [e0, decide_eq_false e1, Bool.and_false] at hR
          exact hR _ t _ _ (by unfold spFilm; rw [if_pos e0, if_neg e1]; exact hw44) dX6_film_56 rfl
      · have hb_sh0_la0 : (inb sh0 0 3 && inb la0 0 3) = false := hw21
        refine zn_if_ne (tgt := 29) hX dX6_film_24 (by decide) (by omega) (fun c24 => absurd c24 (by omega)) (fun _ => ?_)
        refine z_iconst (v := (-1)) hX dX6_film_27 (by decide) ?_
        have e0 : okFilm (nI arj) (nI nnj) sh0 la0 = false := by unfold okFilm; simp [hb_sh0_la0]
        rw [e0, Bool.false_and] at hR
        exact hR _ t _ _ (by unfold spFilm; rw [if_neg (by rw [e0]; decide)]) dX6_film_28 rfl
    · have hb_nn : inb nn 1 24 = false := hw12
      refine zn_if_eq (tgt := 27) hX dX6_film_15 (by decide) (by omega) (fun _ => ?_) (fun c15 => absurd c15 (by omega))
      refine z_iconst (v := (-1)) hX dX6_film_27 (by decide) ?_
      have e0 : okFilm (nI arj) nn sh0 la0 = false := by unfold okFilm; simp [hb_nn]
      rw [e0, Bool.false_and] at hR
      exact hR _ t _ _ (by unfold spFilm; rw [if_neg (by rw [e0]; decide)]) dX6_film_28 rfl
  · have hb_ar : inb ar 0 3 = false := hw2
    refine zn_if_eq (tgt := 27) hX dX6_film_5 (by decide) (by omega) (fun _ => ?_) (fun c5 => absurd c5 (by omega))
    refine z_iconst (v := (-1)) hX dX6_film_27 (by decide) ?_
    have e0 : okFilm ar nn sh0 la0 = false := by unfold okFilm; simp [hb_ar]
    rw [e0, Bool.false_and] at hR
    exact hR _ t _ _ (by unfold spFilm; rw [if_neg (by rw [e0]; decide)]) dX6_film_28 rfl
set_option maxRecDepth 100000 in
set_option maxHeartbeats 4000000 in
theorem c_X6_sheet (l : Launch) (G : zG) (x : Nat) (w : Nat) (kw : Nat) (ik : Nat) (tp : Nat) (sx : Nat) (fo : Nat) (gu : Nat) (ch : Nat) (now : Nat) (nh : Nat) (cr : Nat) (past : Nat) (o : Nat) (u : Nat) (hs : Nat) (it : Nat) (pf : Nat → Option Nat) (q : Nat) (z : Nat) (I : Nat → Int64) (j : Nat) (sh0 : Int32) (la0 : Int32) (nn : Int32) (h0 : j < 4) (h1 : pf j = some hs) (h2 : q ≤ 4) (h3 : z ≤ 24) (h4 : ∀ i, i < 4 → sh0 = nI i → i = j) : zMi l G yX6_sheet cX6_sheet 4 .int 2 0 0 42 [.ref x, .int sh0, .int la0, .int nn] [ob x 6 [.ref w, .ref kw, .int (nI ik), .ref tp, .ref sx, .ref fo, .ref gu, .ref ch], ob w 5 [.ref now, .ref cr, .ref past, .int (nI o), .int (nI u)], sa G sx 4 pf, ob hs 3 [.ref it, .int (ln q), .int (nI z)], la G it 24 I] (fun (r : Int32) (_u : Unit) => r = spSheet sh0 la0 nn) (fun (_u : Unit) => [ob x 6 [.ref w, .ref kw, .int (nI ik), .ref tp, .ref sx, .ref fo, .ref gu, .ref ch], ob w 5 [.ref now, .ref cr, .ref past, .int (nI o), .int (nI u)], sa G sx 4 pf, ob hs 3 [.ref it, .int (ln (cond (okSheet sh0 la0 nn) (gN la0 + 1) (q))), .int (nI (cond (okSheet sh0 la0 nn) (gN nn) (z)))], la G it 24 (cond (okSheet sh0 la0 nn) (fun _ => 0) (I))]) := by
  refine zMi.of (by decide) rfl (fun X A H0 hX hXl hR => ?_)
  show Z (X, G, A, H0, 4) 0 0 [ob x 6 [.ref w, .ref kw, .int (nI ik), .ref tp, .ref sx, .ref fo, .ref gu, .ref ch], ob w 5 [.ref now, .ref cr, .ref past, .int (nI o), .int (nI u)], sa G sx 4 pf, ob hs 3 [.ref it, .int (ln q), .int (nI z)], la G it 24 I] 0 [(0, .ref x), (1, .int sh0), (2, .int la0), (3, .int nn)] []
  subst hXl
  refine z_iload_n hX 1 dX6_sheet_0 rfl ?_
  refine z_iload_n hX 2 dX6_sheet_1 rfl ?_
  refine z_callSi (st := []) hX (c_X6_isPlace _ G sh0 la0 ) lb_X6_isPlace ml_X6_250 (fun (_u : Unit) => [ob x 6 [.ref w, .ref kw, .int (nI ik), .ref tp, .ref sx, .ref fo, .ref gu, .ref ch], ob w 5 [.ref now, .ref cr, .ref past, .int (nI o), .int (nI u)], sa G sx 4 pf, ob hs 3 [.ref it, .int (ln q), .int (nI z)], la G it 24 I]) (wr := [ob x 6 [.ref w, .ref kw, .int (nI ik), .ref tp, .ref sx, .ref fo, .ref gu, .ref ch], ob w 5 [.ref now, .ref cr, .ref past, .int (nI o), .int (nI u)], sa G sx 4 pf, ob hs 3 [.ref it, .int (ln q), .int (nI z)], la G it 24 I]) [] [0, 1, 2, 3, 4] [0, 1, 2, 3, 4] ⟨rfl, rfl, rfl, fun _ => rfl⟩ rfl rfl ⟨Nat.le_refl _, Nat.le_refl _⟩ dX6_sheet_2 rfl (fun r2 u2 hw2 => ?_)
  try dsimp only at hw2
  rcases hw2 with ⟨sh0j, la0j, hsh0h, hla0h, rfl, rfl, rfl⟩ | ⟨hw2, rfl⟩
  · skip
    refine zn_if_eq (tgt := 14) hX dX6_sheet_5 (by decide) (by omega) (fun c5 => absurd c5 (by omega)) (fun _ => ?_)
    refine z_iload_n hX 3 dX6_sheet_8 rfl ?_
    refine z_bipush (v := nI 24) hX dX6_sheet_9 (by decide) ?_
    refine z_icmp_le (tgt := 16) hX dX6_sheet_11 (by decide) (fun c11 => ?_) (fun c11 => ?_)
    · have c9 : ¬ nI 24 < nn := by rw [Int32.not_lt]; exact c11
      refine z_iload_n hX 3 dX6_sheet_16 rfl ?_
      refine z_if_ge (tgt := 23) hX dX6_sheet_17 (by decide) (fun c17 => ?_) (fun c17 => ?_)
      · have c8 : ¬ nn < 0 := by rw [Int32.not_lt]; exact c17
        obtain ⟨nnj, hnn, rfl⟩ := nI_of c8
        have hn24 : nnj ≤ 24 := by rw [nI_ltI (by omega) hnn] at c9; omega
        obtain rfl := h4 sh0j (by omega) rfl
        refine z_aload_n hX 0 dX6_sheet_23 rfl ?_
        refine z_get (v := .ref sx) hX fX6 0 4 rfl rfl (Nat.le_of_ble_eq_true rfl) fl_X6_32 rfl dX6_sheet_24 ?_
        refine z_iload_n hX 1 dX6_sheet_27 rfl ?_
        refine z_sald hX 2 (j := sh0j) rfl (by omega) (by decide) h1 dX6_sheet_28 ?_
        refine z_iload_n hX 2 dX6_sheet_29 rfl ?_
        refine z_iload_n hX 3 dX6_sheet_30 rfl ?_
        refine z_callVv (st := []) hX (c_X3_renew _ G hs it (ln q) z I (nI la0j) nnj ) lb_X3_renew ml_X6_271 (fun (_u : Unit) => [ob x 6 [.ref w, .ref kw, .int (nI ik), .ref tp, .ref sx, .ref fo, .ref gu, .ref ch], ob w 5 [.ref now, .ref cr, .ref past, .int (nI o), .int (nI u)], sa G sx 4 pf, ob hs 3 [.ref it, .int (nI la0j), .int (nI nnj)], la G it 24 (fun _ => 0)]) (wr := [ob x 6 [.ref w, .ref kw, .int (nI ik), .ref tp, .ref sx, .ref fo, .ref gu, .ref ch], ob w 5 [.ref now, .ref cr, .ref past, .int (nI o), .int (nI u)], sa G sx 4 pf]) [3, 4] [0, 1, 2] [0, 1, 2, 3, 4] ⟨rfl, rfl, rfl, fun _ => rfl⟩ 0 rfl rfl rfl rfl ⟨Nat.le_refl _, Nat.le_refl _⟩ dX6_sheet_31 rfl (fun  u31 hw31 => ?_)
        refine z_iload_n hX 3 dX6_sheet_34 rfl ?_
        have e0 : okSheet (nI sh0j) (nI la0j) (nI nnj) = true := by unfold okSheet okPl; rw [inb_t (by omega) (by omega) (by omega), inb_t (by omega) (by omega) (by omega)]; simp [c9, c8]
        rw [e0, gN_nI (show la0j < 2147483648 by omega), gN_nI (show nnj < 2147483648 by omega)] at hR
        exact hR _ () _ _ (by unfold spSheet; rw [if_pos ⟨(by unfold okPl; rw [inb_t (by omega) (by omega) (by omega), inb_t (by omega) (by omega) (by omega)]; rfl), c9⟩, if_neg c8]) dX6_sheet_35 rfl
      · have c8 : nn < 0 := by rw [← Int32.not_le]; exact c17
        refine z_bipush (v := (-14)) hX dX6_sheet_20 (by decide) ?_
        have e0 : okSheet (nI sh0j) (nI la0j) nn = false := by unfold okSheet; simp [c8]
        rw [e0] at hR
        exact hR _ () _ _ (by unfold spSheet; rw [if_pos ⟨(by unfold okPl; rw [inb_t (by omega) (by omega) (by omega), inb_t (by omega) (by omega) (by omega)]; rfl), c9⟩, if_pos c8]) dX6_sheet_22 rfl
    · have c9 : nI 24 < nn := by rw [← Int32.not_le]; exact c11
      refine z_iconst (v := (-1)) hX dX6_sheet_14 (by decide) ?_
      have e0 : okSheet (nI sh0j) (nI la0j) nn = false := by unfold okSheet; simp [c9]
      rw [e0] at hR
      exact hR _ () _ _ (by unfold spSheet; rw [if_neg (fun z9 => z9.2 c9)]) dX6_sheet_15 rfl
  · have hb_sh0_la0 : (inb sh0 0 3 && inb la0 0 3) = false := hw2
    refine zn_if_eq (tgt := 14) hX dX6_sheet_5 (by decide) (by omega) (fun _ => ?_) (fun c5 => absurd c5 (by omega))
    refine z_iconst (v := (-1)) hX dX6_sheet_14 (by decide) ?_
    have e0 : okSheet sh0 la0 nn = false := by unfold okSheet okPl; simp [hb_sh0_la0]
    rw [e0] at hR
    exact hR _ () _ _ (by unfold spSheet; rw [if_neg (by unfold okPl; simp [hb_sh0_la0])]) dX6_sheet_15 rfl
set_option maxRecDepth 100000 in
set_option maxHeartbeats 4000000 in
theorem c_X6_drop (l : Launch) (G : zG) (x : Nat) (w : Nat) (kw : Nat) (ik : Nat) (tp : Nat) (sx : Nat) (fo : Nat) (gu : Nat) (ch : Nat) (now : Nat) (nh : Nat) (cr : Nat) (past : Nat) (o : Nat) (u : Nat) (hs : Nat) (it : Nat) (pf : Nat → Option Nat) (q : Nat) (z : Nat) (I : Nat → Int64) (j : Nat) (sh0 : Int32) (h0 : j < 4) (h1 : pf j = some hs) (h2 : q ≤ 4) (h3 : z ≤ 24) (h4 : ∀ i, i < 4 → sh0 = nI i → i = j) : zMi l G yX6_drop cX6_drop 4 .int 1 0 0 23 [.ref x, .int sh0] [ob x 6 [.ref w, .ref kw, .int (nI ik), .ref tp, .ref sx, .ref fo, .ref gu, .ref ch], ob w 5 [.ref now, .ref cr, .ref past, .int (nI o), .int (nI u)], sa G sx 4 pf, ob hs 3 [.ref it, .int (ln q), .int (nI z)], la G it 24 I] (fun (r : Int32) (_u : Unit) => r = spDrop q z sh0) (fun (_u : Unit) => [ob x 6 [.ref w, .ref kw, .int (nI ik), .ref tp, .ref sx, .ref fo, .ref gu, .ref ch], ob w 5 [.ref now, .ref cr, .ref past, .int (nI o), .int (nI u)], sa G sx 4 pf, ob hs 3 [.ref it, .int (ln (cond (inb sh0 0 3 && decide (¬ q = 0)) (0) (q))), .int (nI (cond (inb sh0 0 3 && decide (¬ q = 0)) (0) (z)))], la G it 24 (cond (inb sh0 0 3 && decide (¬ q = 0)) (fun _ => 0) (I))]) := by
  refine zMi.of (by decide) rfl (fun X A H0 hX hXl hR => ?_)
  show Z (X, G, A, H0, 4) 0 0 [ob x 6 [.ref w, .ref kw, .int (nI ik), .ref tp, .ref sx, .ref fo, .ref gu, .ref ch], ob w 5 [.ref now, .ref cr, .ref past, .int (nI o), .int (nI u)], sa G sx 4 pf, ob hs 3 [.ref it, .int (ln q), .int (nI z)], la G it 24 I] 0 [(0, .ref x), (1, .int sh0)] []
  subst hXl
  refine z_iload_n hX 1 dX6_drop_0 rfl ?_
  refine z_iconst (v := nI 4) hX dX6_drop_1 (by decide) ?_
  refine z_callSi (st := []) hX (c_X6_isBelowX _ G sh0 4 (by omega)) lb_X6_isBelow ml_X6_58 (fun (_u : Unit) => [ob x 6 [.ref w, .ref kw, .int (nI ik), .ref tp, .ref sx, .ref fo, .ref gu, .ref ch], ob w 5 [.ref now, .ref cr, .ref past, .int (nI o), .int (nI u)], sa G sx 4 pf, ob hs 3 [.ref it, .int (ln q), .int (nI z)], la G it 24 I]) (wr := [ob x 6 [.ref w, .ref kw, .int (nI ik), .ref tp, .ref sx, .ref fo, .ref gu, .ref ch], ob w 5 [.ref now, .ref cr, .ref past, .int (nI o), .int (nI u)], sa G sx 4 pf, ob hs 3 [.ref it, .int (ln q), .int (nI z)], la G it 24 I]) [] [0, 1, 2, 3, 4] [0, 1, 2, 3, 4] ⟨rfl, rfl, rfl, fun _ => rfl⟩ rfl rfl ⟨Nat.le_refl _, Nat.le_refl _⟩ dX6_drop_2 rfl (fun r2 u2 hw2 => ?_)
  try dsimp only at hw2
  rcases hw2 with ⟨sh0j, hsh0h, rfl, rfl⟩ | ⟨hw2, rfl⟩
  · skip
    refine zn_if_ne (tgt := 10) hX dX6_drop_5 (by decide) (by omega) (fun _ => ?_) (fun c5 => absurd c5 (by omega))
    obtain rfl := h4 sh0j (by omega) rfl
    refine z_aload_n hX 0 dX6_drop_10 rfl ?_
    refine z_get (v := .ref sx) hX fX6 0 4 rfl rfl (Nat.le_of_ble_eq_true rfl) fl_X6_32 rfl dX6_drop_11 ?_
    refine z_iload_n hX 1 dX6_drop_14 rfl ?_
    refine z_sald hX 2 (j := sh0j) rfl (by omega) (by decide) h1 dX6_drop_15 ?_
    refine z_astore_n (L' := [(2, .ref hs), (0, .ref x), (1, .int (nI sh0j))]) hX dX6_drop_16 (Nat.le_of_ble_eq_true rfl) rfl ?_
    refine z_aload_n hX 0 dX6_drop_17 rfl ?_
    refine z_get (v := .int (ln q)) hX fX3 3 1 rfl rfl (Nat.le_of_ble_eq_true rfl) fl_X6_274 rfl dX6_drop_18 ?_
    refine z_iconst (v := (-1)) hX dX6_drop_21 (by decide) ?_
    refine z_icmp_ne (tgt := 28) hX dX6_drop_22 (by decide) (fun c22 => ?_) (fun c22 => ?_)
    · rw [ln_neg h2] at c22
      refine z_aload_n hX 0 dX6_drop_28 rfl ?_
      refine z_get (v := .int (nI z)) hX fX3 3 2 rfl rfl (Nat.le_of_ble_eq_true rfl) fl_X6_277 rfl dX6_drop_29 ?_
      refine z_istore_n (L' := [(3, .int (nI z)), (2, .ref hs), (0, .ref x), (1, .int (nI sh0j))]) hX dX6_drop_32 (Nat.le_of_ble_eq_true rfl) rfl ?_
      refine z_aload_n hX 1 dX6_drop_33 rfl ?_
      refine z_iconst (v := (-1)) hX dX6_drop_34 (by decide) ?_
      refine z_iconst (v := nI 0) hX dX6_drop_35 (by decide) ?_
      refine z_callVv (st := []) hX (c_X3_renew _ G hs it (ln q) z I (-1) 0 ) lb_X3_renew ml_X6_271 (fun (_u : Unit) => [ob x 6 [.ref w, .ref kw, .int (nI ik), .ref tp, .ref sx, .ref fo, .ref gu, .ref ch], ob w 5 [.ref now, .ref cr, .ref past, .int (nI o), .int (nI u)], sa G sx 4 pf, ob hs 3 [.ref it, .int (-1), .int (nI 0)], la G it 24 (fun _ => 0)]) (wr := [ob x 6 [.ref w, .ref kw, .int (nI ik), .ref tp, .ref sx, .ref fo, .ref gu, .ref ch], ob w 5 [.ref now, .ref cr, .ref past, .int (nI o), .int (nI u)], sa G sx 4 pf]) [3, 4] [0, 1, 2] [0, 1, 2, 3, 4] ⟨rfl, rfl, rfl, fun _ => rfl⟩ 0 rfl rfl rfl rfl ⟨Nat.le_refl _, Nat.le_refl _⟩ dX6_drop_36 rfl (fun  u36 hw36 => ?_)
      refine z_iload_n hX 0 dX6_drop_39 rfl ?_
      rw [inb_t (by omega) (by omega) (by omega), decide_eq_true c22] at hR
      exact hR _ () _ _ (by unfold spDrop; rw [if_pos (inb_t (by omega) (by omega) (by omega)), if_neg c22]) dX6_drop_40 rfl
    · rw [ln_neg h2] at c22
      refine z_bipush (v := (-11)) hX dX6_drop_25 (by decide) ?_
      rw [inb_t (by omega) (by omega) (by omega), decide_eq_false (fun z9 => z9 c22)] at hR
      exact hR _ () _ _ (by unfold spDrop; rw [if_pos (inb_t (by omega) (by omega) (by omega)), if_pos c22]) dX6_drop_27 rfl
  · have hb_sh0 : inb sh0 0 3 = false := hw2
    refine zn_if_ne (tgt := 10) hX dX6_drop_5 (by decide) (by omega) (fun c5 => absurd c5 (by omega)) (fun _ => ?_)
    refine z_iconst (v := (-1)) hX dX6_drop_8 (by decide) ?_
    rw [hb_sh0] at hR
    exact hR _ () _ _ (by unfold spDrop; rw [if_neg (by simp [hb_sh0])]) dX6_drop_9 rfl
set_option maxRecDepth 100000 in
set_option maxHeartbeats 4000000 in
theorem c_X6_item (l : Launch) (G : zG) (x : Nat) (w : Nat) (kw : Nat) (ik : Nat) (tp : Nat) (sx : Nat) (fo : Nat) (gu : Nat) (ch : Nat) (now : Nat) (nh : Nat) (cr : Nat) (past : Nat) (o : Nat) (u : Nat) (hs : Nat) (it : Nat) (pf : Nat → Option Nat) (q : Nat) (z : Nat) (I : Nat → Int64) (j : Nat) (sh0 : Int32) (la0 : Int32) (i0 : Int32) (v : Int64) (h0 : j < 4) (h1 : pf j = some hs) (h2 : q ≤ 4) (h3 : z ≤ 24) (h4 : ∀ i, i < 4 → sh0 = nI i → i = j) : zMi l G yX6_item cX6_item 7 .int 2 0 0 45 [.ref x, .int sh0, .int la0, .int i0, .long v] [ob x 6 [.ref w, .ref kw, .int (nI ik), .ref tp, .ref sx, .ref fo, .ref gu, .ref ch], ob w 5 [.ref now, .ref cr, .ref past, .int (nI o), .int (nI u)], sa G sx 4 pf, ob hs 3 [.ref it, .int (ln q), .int (nI z)], la G it 24 I] (fun (r : Int32) (_u : Unit) => r = spItem q z sh0 la0 i0) (fun (_u : Unit) => [ob x 6 [.ref w, .ref kw, .int (nI ik), .ref tp, .ref sx, .ref fo, .ref gu, .ref ch], ob w 5 [.ref now, .ref cr, .ref past, .int (nI o), .int (nI u)], sa G sx 4 pf, ob hs 3 [.ref it, .int (ln q), .int (nI z)], la G it 24 (cond (okPl sh0 la0 && decide (faultI q z la0 i0 (nI 1) = 0)) (vp_updL I (gN i0) (lowB (gN la0) v)) (I))]) := by
  refine zMi.of (by decide) rfl (fun X A H0 hX hXl hR => ?_)
  show Z (X, G, A, H0, 7) 0 0 [ob x 6 [.ref w, .ref kw, .int (nI ik), .ref tp, .ref sx, .ref fo, .ref gu, .ref ch], ob w 5 [.ref now, .ref cr, .ref past, .int (nI o), .int (nI u)], sa G sx 4 pf, ob hs 3 [.ref it, .int (ln q), .int (nI z)], la G it 24 I] 0 [(0, .ref x), (1, .int sh0), (2, .int la0), (3, .int i0), (4, .long v)] []
  subst hXl
  refine z_iload_n hX 1 dX6_item_0 rfl ?_
  refine z_iload_n hX 2 dX6_item_1 rfl ?_
  refine z_callSi (st := []) hX (c_X6_isPlace _ G sh0 la0 ) lb_X6_isPlace ml_X6_250 (fun (_u : Unit) => [ob x 6 [.ref w, .ref kw, .int (nI ik), .ref tp, .ref sx, .ref fo, .ref gu, .ref ch], ob w 5 [.ref now, .ref cr, .ref past, .int (nI o), .int (nI u)], sa G sx 4 pf, ob hs 3 [.ref it, .int (ln q), .int (nI z)], la G it 24 I]) (wr := [ob x 6 [.ref w, .ref kw, .int (nI ik), .ref tp, .ref sx, .ref fo, .ref gu, .ref ch], ob w 5 [.ref now, .ref cr, .ref past, .int (nI o), .int (nI u)], sa G sx 4 pf, ob hs 3 [.ref it, .int (ln q), .int (nI z)], la G it 24 I]) [] [0, 1, 2, 3, 4] [0, 1, 2, 3, 4] ⟨rfl, rfl, rfl, fun _ => rfl⟩ rfl rfl ⟨Nat.le_refl _, Nat.le_refl _⟩ dX6_item_2 rfl (fun r2 u2 hw2 => ?_)
  try dsimp only at hw2
  rcases hw2 with ⟨sh0j, la0j, hsh0h, hla0h, rfl, rfl, rfl⟩ | ⟨hw2, rfl⟩
  · skip
    refine zn_if_ne (tgt := 10) hX dX6_item_5 (by decide) (by omega) (fun _ => ?_) (fun c5 => absurd c5 (by omega))
    obtain rfl := h4 sh0j (by omega) rfl
    refine z_aload_n hX 0 dX6_item_10 rfl ?_
    refine z_get (v := .ref sx) hX fX6 0 4 rfl rfl (Nat.le_of_ble_eq_true rfl) fl_X6_32 rfl dX6_item_11 ?_
    refine z_iload_n hX 1 dX6_item_14 rfl ?_
    refine z_sald hX 2 (j := sh0j) rfl (by omega) (by decide) h1 dX6_item_15 ?_
    refine z_iload_n hX 2 dX6_item_16 rfl ?_
    refine z_iload_n hX 3 dX6_item_17 rfl ?_
    refine z_iconst (v := nI 1) hX dX6_item_18 (by decide) ?_
    refine z_callVi (st := []) hX (c_X3_faultOf _ G hs it q z (nI la0j) i0 (nI 1) (by omega) (by omega)) lb_X3_faultOf ml_X6_253 (fun (_u : Unit) => [ob x 6 [.ref w, .ref kw, .int (nI ik), .ref tp, .ref sx, .ref fo, .ref gu, .ref ch], ob w 5 [.ref now, .ref cr, .ref past, .int (nI o), .int (nI u)], sa G sx 4 pf, ob hs 3 [.ref it, .int (ln q), .int (nI z)], la G it 24 I]) (wr := [ob x 6 [.ref w, .ref kw, .int (nI ik), .ref tp, .ref sx, .ref fo, .ref gu, .ref ch], ob w 5 [.ref now, .ref cr, .ref past, .int (nI o), .int (nI u)], sa G sx 4 pf, la G it 24 I]) [3] [0, 1, 2, 4] [0, 1, 2, 4, 3] ⟨rfl, rfl, rfl, fun _ => rfl⟩ 0 rfl rfl rfl rfl ⟨Nat.le_refl _, Nat.le_refl _⟩ dX6_item_19 rfl (fun r19 u19 hw19 => ?_)
    refine z_istore (L' := [(6, .int r19), (0, .ref x), (1, .int (nI sh0j)), (2, .int (nI la0j)), (3, .int i0), (4, .long v)]) hX dX6_item_22 (Nat.le_of_ble_eq_true rfl) rfl ?_
    refine z_iload hX 0 dX6_item_24 rfl ?_
    refine z_if_eq (tgt := 32) hX dX6_item_26 (by decide) (fun c26 => ?_) (fun c26 => ?_)
    · skip
      rw [hw19] at c26
      obtain ⟨f1, f2, f3⟩ := faultI_0 c26
      obtain ⟨i0j, f4, rfl⟩ := fits_ex (by omega) f3
      refine z_aload_n hX 1 dX6_item_32 rfl ?_
      refine z_get (v := .ref sx) hX fX6 0 4 rfl rfl (Nat.le_of_ble_eq_true rfl) fl_X6_32 rfl dX6_item_33 ?_
      refine z_iload_n hX 2 dX6_item_36 rfl ?_
      refine z_sald hX 2 (j := sh0j) rfl (by omega) (by decide) h1 dX6_item_37 ?_
      refine z_get (v := .ref it) hX fX3 3 0 rfl rfl (Nat.le_of_ble_eq_true rfl) fl_X6_267 rfl dX6_item_38 ?_
      refine z_iload_n hX 4 dX6_item_41 rfl ?_
      refine z_iload_n hX 3 dX6_item_42 rfl ?_
      refine z_lload hX 5 dX6_item_43 rfl ?_
      refine z_callSl (st := [.int (nI i0j), .ref it]) hX (c_X6_lowestBits _ G la0j v (by omega)) lb_X6_lowestBits ml_X6_278 (fun (_u : Unit) => [ob x 6 [.ref w, .ref kw, .int (nI ik), .ref tp, .ref sx, .ref fo, .ref gu, .ref ch], ob w 5 [.ref now, .ref cr, .ref past, .int (nI o), .int (nI u)], sa G sx 4 pf, ob hs 3 [.ref it, .int (ln q), .int (nI z)], la G it 24 I]) (wr := [ob x 6 [.ref w, .ref kw, .int (nI ik), .ref tp, .ref sx, .ref fo, .ref gu, .ref ch], ob w 5 [.ref now, .ref cr, .ref past, .int (nI o), .int (nI u)], sa G sx 4 pf, ob hs 3 [.ref it, .int (ln q), .int (nI z)], la G it 24 I]) [] [0, 1, 2, 3, 4] [0, 1, 2, 3, 4] ⟨rfl, rfl, rfl, fun _ => rfl⟩ rfl rfl ⟨Nat.le_refl _, Nat.le_refl _⟩ dX6_item_45 rfl (fun r45 u45 hw45 => ?_)
      refine z_last (ws' := [ob x 6 [.ref w, .ref kw, .int (nI ik), .ref tp, .ref sx, .ref fo, .ref gu, .ref ch], ob w 5 [.ref now, .ref cr, .ref past, .int (nI o), .int (nI u)], sa G sx 4 pf, ob hs 3 [.ref it, .int (ln q), .int (nI z)], la G it 24 (vp_updL I i0j r45)]) hX 4 (j := i0j) rfl (by omega) (by decide) rfl rfl dX6_item_48 ?_
      refine z_iconst (v := nI 1) hX dX6_item_49 (by decide) ?_
      have e0 : okPl (nI sh0j) (nI la0j) = true := by unfold okPl; rw [inb_t (by omega) (by omega) (by omega), inb_t (by omega) (by omega) (by omega)]; rfl
      rw [e0, decide_eq_true c26, Bool.and_true, gN_nI (show la0j < 2147483648 by omega), gN_nI (show i0j < 2147483648 by omega)] at hR
      rw [hw45]
      exact hR _ () _ _ (by unfold spItem; rw [if_pos e0, if_pos c26]) dX6_item_50 rfl
    · skip
      refine z_iload hX 0 dX6_item_29 rfl ?_
      have e0 : okPl (nI sh0j) (nI la0j) = true := by unfold okPl; rw [inb_t (by omega) (by omega) (by omega), inb_t (by omega) (by omega) (by omega)]; rfl
      have e1 : ¬ faultI q z (nI la0j) i0 (nI 1) = 0 := by rw [← hw19]; exact c26
      rw [e0, decide_eq_false e1, Bool.and_false] at hR
      exact hR _ () _ _ (by unfold spItem; rw [if_pos e0, if_neg e1]; exact hw19) dX6_item_31 rfl
  · have hb_sh0_la0 : (inb sh0 0 3 && inb la0 0 3) = false := hw2
    refine zn_if_ne (tgt := 10) hX dX6_item_5 (by decide) (by omega) (fun c5 => absurd c5 (by omega)) (fun _ => ?_)
    refine z_iconst (v := (-1)) hX dX6_item_8 (by decide) ?_
    have e0 : okPl sh0 la0 = false := hb_sh0_la0
    rw [e0, Bool.false_and] at hR
    exact hR _ () _ _ (by unfold spItem; rw [if_neg (by rw [e0]; decide)]) dX6_item_9 rfl
