set_option maxRecDepth 100000 in
set_option maxHeartbeats 4000000 in
theorem c_X6_weigh (l : Launch) (G : zG) (x : Nat) (w : Nat) (kw : Nat) (ik : Nat) (tp : Nat) (sx : Nat) (fo : Nat) (gu : Nat) (ch : Nat) (now : Nat) (nh : Nat) (cr : Nat) (past : Nat) (o : Nat) (u : Nat) (s : nst) (ck : Nat) (cl : Nat) (ce : Nat) (sz : Nat) (fk : Nat → Int32) (fl : Nat → Int32) (fe : Nat → Int32) (fh : Nat) (t : nst) (k : Nat) (f : Nat) (oo : Nat) (wh : Nat) (ls : Nat) (N : Nat) (h0 : WF 9999 0 s) (h1 : CR s fk fl fe) (h2 : sz = s 0) (h3 : ls < 64) (h4 : N ≤ 60) (h5 : k ≤ 64 ∧ f ≤ 61000 ∧ oo ≤ 61000) : zMv l G yX6_weigh cX6_weigh 4 4 0 0 95 [.ref x, .int (nI wh), .int (nI ls), .int (nI N)] [ob x 6 [.ref w, .ref kw, .int (nI ik), .ref tp, .ref sx, .ref fo, .ref gu, .ref ch], ob w 5 [.ref now, .ref cr, .ref past, .int (nI o), .int (nI u)], ob now 2 (mf nh s), ia G nh 4 (fN (sh 7 s)), ob cr 1 [.ref ck, .ref cl, .ref ce, .int (nI sz)], ia G ck 6 fk, ia G cl 6 fl, ia G ce 6 fe, ob fo 2 (mf fh t), ia G fh 4 (fN (sh 7 t)), ob ch 0 [.int (l4 k), .int (nI f), .int (nI oo)]] (fun (_u : Unit) => True) (fun (_u : Unit) => [ob x 6 [.ref w, .ref kw, .int (nI ik), .ref tp, .ref sx, .ref fo, .ref gu, .ref ch], ob w 5 [.ref now, .ref cr, .ref past, .int (nI o), .int (nI u)], ob now 2 (mf nh s), ia G nh 4 (fN (sh 7 s)), ob cr 1 [.ref ck, .ref cl, .ref ce, .int (nI sz)], ia G ck 6 fk, ia G cl 6 fl, ia G ce 6 fe, ob fo 2 (mf fh (goN N (va_up s 2 ls))), ia G fh 4 (fN (sh 7 (goN N (va_up s 2 ls)))), ob ch 0 [.int (l4 ((offerS wh (goN N (va_up s 2 ls) 5 - s 5) (goN N (va_up s 2 ls) 3 - s 3) (k, f, oo)).1)), .int (nI ((offerS wh (goN N (va_up s 2 ls) 5 - s 5) (goN N (va_up s 2 ls) 3 - s 3) (k, f, oo)).2.1)), .int (nI ((offerS wh (goN N (va_up s 2 ls) 5 - s 5) (goN N (va_up s 2 ls) 3 - s 3) (k, f, oo)).2.2))]]) := by
  refine zMv.of (by decide) rfl (fun X A H0 hX hXl hnm hR => ?_)
  show Z (X, G, A, H0, 4) 0 0 [ob x 6 [.ref w, .ref kw, .int (nI ik), .ref tp, .ref sx, .ref fo, .ref gu, .ref ch], ob w 5 [.ref now, .ref cr, .ref past, .int (nI o), .int (nI u)], ob now 2 (mf nh s), ia G nh 4 (fN (sh 7 s)), ob cr 1 [.ref ck, .ref cl, .ref ce, .int (nI sz)], ia G ck 6 fk, ia G cl 6 fl, ia G ce 6 fe, ob fo 2 (mf fh t), ia G fh 4 (fN (sh 7 t)), ob ch 0 [.int (l4 k), .int (nI f), .int (nI oo)]] 0 [(0, .ref x), (1, .int (nI wh)), (2, .int (nI ls)), (3, .int (nI N))] []
  subst hXl
  have g1 := goN_up (va_up s 2 ls) N
  have g2 := goN_cnt (WF_list h0 h3) N
  have g3 : va_up s 2 ls 3 = s 3 := rfl
  have g4 : va_up s 2 ls 5 = s 5 := rfl
  refine z_aload_n hX 0 dX6_weigh_0 rfl ?_
  refine z_iload_n hX 2 dX6_weigh_1 rfl ?_
  refine z_iload_n hX 3 dX6_weigh_2 rfl ?_
  refine z_callVv (st := []) hX (c_X6_foretell _ G x w kw ik tp sx fo gu ch now nh cr past o u s ck cl ce sz fk fl fe fh t ls N h0 h1 h2 h3 h4) lb_X6_foretell ml_X6_198 (fun (_u : Unit) => [ob x 6 [.ref w, .ref kw, .int (nI ik), .ref tp, .ref sx, .ref fo, .ref gu, .ref ch], ob w 5 [.ref now, .ref cr, .ref past, .int (nI o), .int (nI u)], ob now 2 (mf nh s), ia G nh 4 (fN (sh 7 s)), ob cr 1 [.ref ck, .ref cl, .ref ce, .int (nI sz)], ia G ck 6 fk, ia G cl 6 fl, ia G ce 6 fe, ob fo 2 (mf fh (goN N (va_up s 2 ls))), ia G fh 4 (fN (sh 7 (goN N (va_up s 2 ls)))), ob ch 0 [.int (l4 k), .int (nI f), .int (nI oo)]]) (wr := [ob ch 0 [.int (l4 k), .int (nI f), .int (nI oo)]]) [0, 1, 2, 3, 4, 5, 6, 7, 8, 9] [10] [1, 2, 3, 4, 5, 6, 7, 8, 9, 10, 0] ⟨rfl, rfl, rfl, fun _ => rfl⟩ 0 rfl rfl rfl rfl ⟨Nat.le_refl _, Nat.le_refl _⟩ dX6_weigh_3 rfl (fun  u3 hw3 => ?_)
  refine z_aload_n hX 0 dX6_weigh_6 rfl ?_
  refine z_get (v := .ref ch) hX fX6 0 7 rfl rfl (Nat.le_of_ble_eq_true rfl) fl_X6_54 rfl dX6_weigh_7 ?_
  refine z_iload_n hX 1 dX6_weigh_10 rfl ?_
  refine z_aload_n hX 0 dX6_weigh_11 rfl ?_
  refine z_get (v := .ref fo) hX fX6 0 5 rfl rfl (Nat.le_of_ble_eq_true rfl) fl_X6_40 rfl dX6_weigh_12 ?_
  refine z_get (v := .int (nI ((goN N (va_up s 2 ls)) 5))) hX fX2 8 5 rfl rfl (Nat.le_of_ble_eq_true rfl) fl_X6_156 rfl dX6_weigh_15 ?_
  refine z_aload_n hX 0 dX6_weigh_18 rfl ?_
  refine z_get (v := .ref w) hX fX6 0 0 rfl rfl (Nat.le_of_ble_eq_true rfl) fl_X6_10 rfl dX6_weigh_19 ?_
  refine z_get (v := .ref now) hX fX5 1 0 rfl rfl (Nat.le_of_ble_eq_true rfl) fl_X6_88 rfl dX6_weigh_22 ?_
  refine z_get (v := .int (nI (s 5))) hX fX2 2 5 rfl rfl (Nat.le_of_ble_eq_true rfl) fl_X6_156 rfl dX6_weigh_25 ?_
  refine z_isub (v := (nI (((goN N (va_up s 2 ls)) 5) - (s 5)))) hX dX6_weigh_28 (pk_sub (by omega)) ?_
  refine z_aload_n hX 0 dX6_weigh_29 rfl ?_
  refine z_get (v := .ref fo) hX fX6 0 5 rfl rfl (Nat.le_of_ble_eq_true rfl) fl_X6_40 rfl dX6_weigh_30 ?_
  refine z_get (v := .int (nI ((goN N (va_up s 2 ls)) 3))) hX fX2 8 3 rfl rfl (Nat.le_of_ble_eq_true rfl) fl_X6_150 rfl dX6_weigh_33 ?_
  refine z_aload_n hX 0 dX6_weigh_36 rfl ?_
  refine z_get (v := .ref w) hX fX6 0 0 rfl rfl (Nat.le_of_ble_eq_true rfl) fl_X6_10 rfl dX6_weigh_37 ?_
  refine z_get (v := .ref now) hX fX5 1 0 rfl rfl (Nat.le_of_ble_eq_true rfl) fl_X6_88 rfl dX6_weigh_40 ?_
  refine z_get (v := .int (nI (s 3))) hX fX2 2 3 rfl rfl (Nat.le_of_ble_eq_true rfl) fl_X6_150 rfl dX6_weigh_43 ?_
  refine z_isub (v := (nI (((goN N (va_up s 2 ls)) 3) - (s 3)))) hX dX6_weigh_46 (pk_sub (by omega)) ?_
  refine z_callVv (st := []) hX (c_X0_offer _ G ch k f oo wh (((goN N (va_up s 2 ls)) 5) - (s 5)) (((goN N (va_up s 2 ls)) 3) - (s 3)) (by omega) (by omega) (by omega) (by omega) (by omega)) lb_X0_offer ml_X6_244 (fun (_u : Unit) => [ob x 6 [.ref w, .ref kw, .int (nI ik), .ref tp, .ref sx, .ref fo, .ref gu, .ref ch], ob w 5 [.ref now, .ref cr, .ref past, .int (nI o), .int (nI u)], ob now 2 (mf nh s), ia G nh 4 (fN (sh 7 s)), ob cr 1 [.ref ck, .ref cl, .ref ce, .int (nI sz)], ia G ck 6 fk, ia G cl 6 fl, ia G ce 6 fe, ob fo 2 (mf fh (goN N (va_up s 2 ls))), ia G fh 4 (fN (sh 7 (goN N (va_up s 2 ls)))), ob ch 0 [.int (l4 ((offerS wh (((goN N (va_up s 2 ls)) 5) - (s 5)) (((goN N (va_up s 2 ls)) 3) - (s 3)) (k, f, oo)).1)), .int (nI ((offerS wh (((goN N (va_up s 2 ls)) 5) - (s 5)) (((goN N (va_up s 2 ls)) 3) - (s 3)) (k, f, oo)).2.1)), .int (nI ((offerS wh (((goN N (va_up s 2 ls)) 5) - (s 5)) (((goN N (va_up s 2 ls)) 3) - (s 3)) (k, f, oo)).2.2))]]) (wr := [ob x 6 [.ref w, .ref kw, .int (nI ik), .ref tp, .ref sx, .ref fo, .ref gu, .ref ch], ob w 5 [.ref now, .ref cr, .ref past, .int (nI o), .int (nI u)], ob now 2 (mf nh s), ia G nh 4 (fN (sh 7 s)), ob cr 1 [.ref ck, .ref cl, .ref ce, .int (nI sz)], ia G ck 6 fk, ia G cl 6 fl, ia G ce 6 fe, ob fo 2 (mf fh (goN N (va_up s 2 ls))), ia G fh 4 (fN (sh 7 (goN N (va_up s 2 ls))))]) [10] [0, 1, 2, 3, 4, 5, 6, 7, 8, 9] [0, 1, 2, 3, 4, 5, 6, 7, 8, 9, 10] ⟨rfl, rfl, rfl, fun _ => rfl⟩ 0 rfl rfl rfl rfl ⟨Nat.le_refl _, Nat.le_refl _⟩ dX6_weigh_47 rfl (fun  u47 hw47 => ?_)
  exact hR () _ _ trivial dX6_weigh_50
set_option maxRecDepth 100000 in
set_option maxHeartbeats 4000000 in
theorem c_X6_wise (l : Launch) (G : zG) (x : Nat) (w : Nat) (kw : Nat) (ik : Nat) (tp : Nat) (sx : Nat) (fo : Nat) (gu : Nat) (ch : Nat) (now : Nat) (nh : Nat) (cr : Nat) (past : Nat) (o : Nat) (u : Nat) (s : nst) (ck : Nat) (cl : Nat) (ce : Nat) (sz : Nat) (fk : Nat → Int32) (fl : Nat → Int32) (fe : Nat → Int32) (fh : Nat) (t : nst) (cw0 : Int32) (f : Nat) (oo : Nat) (nn : Int32) (wh : Int32) (h0 : WF 9999 0 s) (h1 : CR s fk fl fe) (h2 : sz = s 0) : zMi l G yX6_wise cX6_wise 4 .int 5 0 0 118 [.ref x, .int nn, .int wh] [ob x 6 [.ref w, .ref kw, .int (nI ik), .ref tp, .ref sx, .ref fo, .ref gu, .ref ch], ob w 5 [.ref now, .ref cr, .ref past, .int (nI o), .int (nI u)], ob now 2 (mf nh s), ia G nh 4 (fN (sh 7 s)), ob cr 1 [.ref ck, .ref cl, .ref ce, .int (nI sz)], ia G ck 6 fk, ia G cl 6 fl, ia G ce 6 fe, ob fo 2 (mf fh t), ia G fh 4 (fN (sh 7 t)), ob ch 0 [.int cw0, .int (nI f), .int (nI oo)]] (fun (r : Int32) (_u : nst × Int32 × Nat × Nat) => r = spWise s nn wh) (fun (_u : nst × Int32 × Nat × Nat) => [ob x 6 [.ref w, .ref kw, .int (nI ik), .ref tp, .ref sx, .ref fo, .ref gu, .ref ch], ob w 5 [.ref now, .ref cr, .ref past, .int (nI o), .int (nI u)], ob now 2 (mf nh s), ia G nh 4 (fN (sh 7 s)), ob cr 1 [.ref ck, .ref cl, .ref ce, .int (nI sz)], ia G ck 6 fk, ia G cl 6 fl, ia G ce 6 fe, ob fo 2 (mf fh _u.1), ia G fh 4 (fN (sh 7 _u.1)), ob ch 0 [.int _u.2.1, .int (nI _u.2.2.1), .int (nI _u.2.2.2)]]) := by
  refine zMi.of (by decide) rfl (fun X A H0 hX hXl hR => ?_)
  show Z (X, G, A, H0, 4) 0 0 [ob x 6 [.ref w, .ref kw, .int (nI ik), .ref tp, .ref sx, .ref fo, .ref gu, .ref ch], ob w 5 [.ref now, .ref cr, .ref past, .int (nI o), .int (nI u)], ob now 2 (mf nh s), ia G nh 4 (fN (sh 7 s)), ob cr 1 [.ref ck, .ref cl, .ref ce, .int (nI sz)], ia G ck 6 fk, ia G cl 6 fl, ia G ce 6 fe, ob fo 2 (mf fh t), ia G fh 4 (fN (sh 7 t)), ob ch 0 [.int cw0, .int (nI f), .int (nI oo)]] 0 [(0, .ref x), (1, .int nn), (2, .int wh)] []
  subst hXl
  have z0 := h0.1
  have z1 := h0.2.1
  have z2 := h0.2.2.1
  refine z_iload_n hX 1 dX6_wise_0 rfl ?_
  refine z_iconst (v := nI 1) hX dX6_wise_1 (by decide) ?_
  refine z_bipush (v := nI 40) hX dX6_wise_2 (by decide) ?_
  refine z_callSi (st := []) hX (c_X6_isWithinX _ G nn 1 40 (by omega) (by omega)) lb_X6_isWithin ml_X6_62 (fun (_u : Unit) => [ob x 6 [.ref w, .ref kw, .int (nI ik), .ref tp, .ref sx, .ref fo, .ref gu, .ref ch], ob w 5 [.ref now, .ref cr, .ref past, .int (nI o), .int (nI u)], ob now 2 (mf nh s), ia G nh 4 (fN (sh 7 s)), ob cr 1 [.ref ck, .ref cl, .ref ce, .int (nI sz)], ia G ck 6 fk, ia G cl 6 fl, ia G ce 6 fe, ob fo 2 (mf fh t), ia G fh 4 (fN (sh 7 t)), ob ch 0 [.int cw0, .int (nI f), .int (nI oo)]]) (wr := [ob x 6 [.ref w, .ref kw, .int (nI ik), .ref tp, .ref sx, .ref fo, .ref gu, .ref ch], ob w 5 [.ref now, .ref cr, .ref past, .int (nI o), .int (nI u)], ob now 2 (mf nh s), ia G nh 4 (fN (sh 7 s)), ob cr 1 [.ref ck, .ref cl, .ref ce, .int (nI sz)], ia G ck 6 fk, ia G cl 6 fl, ia G ce 6 fe, ob fo 2 (mf fh t), ia G fh 4 (fN (sh 7 t)), ob ch 0 [.int cw0, .int (nI f), .int (nI oo)]]) [] [0, 1, 2, 3, 4, 5, 6, 7, 8, 9, 10] [0, 1, 2, 3, 4, 5, 6, 7, 8, 9, 10] ⟨rfl, rfl, rfl, fun _ => rfl⟩ rfl rfl ⟨Nat.le_refl _, Nat.le_refl _⟩ dX6_wise_4 rfl (fun r4 u4 hw4 => ?_)
  try dsimp only at hw4
  rcases hw4 with ⟨nnj, hnnl, hnnh, rfl, rfl⟩ | ⟨hw4, rfl⟩
  · skip
    refine zn_if_eq (tgt := 18) hX dX6_wise_7 (by decide) (by omega) (fun c7 => absurd c7 (by omega)) (fun _ => ?_)
    refine z_iload_n hX 2 dX6_wise_10 rfl ?_
    refine z_iconst (v := nI 3) hX dX6_wise_11 (by decide) ?_
    refine z_callSi (st := []) hX (c_X6_isBelowX _ G wh 3 (by omega)) lb_X6_isBelow ml_X6_58 (fun (_u : Unit) => [ob x 6 [.ref w, .ref kw, .int (nI ik), .ref tp, .ref sx, .ref fo, .ref gu, .ref ch], ob w 5 [.ref now, .ref cr, .ref past, .int (nI o), .int (nI u)], ob now 2 (mf nh s), ia G nh 4 (fN (sh 7 s)), ob cr 1 [.ref ck, .ref cl, .ref ce, .int (nI sz)], ia G ck 6 fk, ia G cl 6 fl, ia G ce 6 fe, ob fo 2 (mf fh t), ia G fh 4 (fN (sh 7 t)), ob ch 0 [.int cw0, .int (nI f), .int (nI oo)]]) (wr := [ob x 6 [.ref w, .ref kw, .int (nI ik), .ref tp, .ref sx, .ref fo, .ref gu, .ref ch], ob w 5 [.ref now, .ref cr, .ref past, .int (nI o), .int (nI u)], ob now 2 (mf nh s), ia G nh 4 (fN (sh 7 s)), ob cr 1 [.ref ck, .ref cl, .ref ce, .int (nI sz)], ia G ck 6 fk, ia G cl 6 fl, ia G ce 6 fe, ob fo 2 (mf fh t), ia G fh 4 (fN (sh 7 t)), ob ch 0 [.int cw0, .int (nI f), .int (nI oo)]]) [] [0, 1, 2, 3, 4, 5, 6, 7, 8, 9, 10] [0, 1, 2, 3, 4, 5, 6, 7, 8, 9, 10] ⟨rfl, rfl, rfl, fun _ => rfl⟩ rfl rfl ⟨Nat.le_refl _, Nat.le_refl _⟩ dX6_wise_12 rfl (fun r12 u12 hw12 => ?_)
    try dsimp only at hw12
    rcases hw12 with ⟨whj, hwhh, rfl, rfl⟩ | ⟨hw12, rfl⟩
    · skip
      refine zn_if_ne (tgt := 20) hX dX6_wise_15 (by decide) (by omega) (fun _ => ?_) (fun c15 => absurd c15 (by omega))
      refine z_aload_n hX 0 dX6_wise_20 rfl ?_
      refine z_get (v := .ref ch) hX fX6 0 7 rfl rfl (Nat.le_of_ble_eq_true rfl) fl_X6_54 rfl dX6_wise_21 ?_
      refine z_callVv (st := []) hX (c_X0_clear _ G ch cw0 f oo ) lb_X0_clear ml_X6_213 (fun (_u : Unit) => [ob x 6 [.ref w, .ref kw, .int (nI ik), .ref tp, .ref sx, .ref fo, .ref gu, .ref ch], ob w 5 [.ref now, .ref cr, .ref past, .int (nI o), .int (nI u)], ob now 2 (mf nh s), ia G nh 4 (fN (sh 7 s)), ob cr 1 [.ref ck, .ref cl, .ref ce, .int (nI sz)], ia G ck 6 fk, ia G cl 6 fl, ia G ce 6 fe, ob fo 2 (mf fh t), ia G fh 4 (fN (sh 7 t)), ob ch 0 [.int (l4 0), .int (nI 0), .int (nI 0)]]) (wr := [ob x 6 [.ref w, .ref kw, .int (nI ik), .ref tp, .ref sx, .ref fo, .ref gu, .ref ch], ob w 5 [.ref now, .ref cr, .ref past, .int (nI o), .int (nI u)], ob now 2 (mf nh s), ia G nh 4 (fN (sh 7 s)), ob cr 1 [.ref ck, .ref cl, .ref ce, .int (nI sz)], ia G ck 6 fk, ia G cl 6 fl, ia G ce 6 fe, ob fo 2 (mf fh t), ia G fh 4 (fN (sh 7 t))]) [10] [0, 1, 2, 3, 4, 5, 6, 7, 8, 9] [0, 1, 2, 3, 4, 5, 6, 7, 8, 9, 10] ⟨rfl, rfl, rfl, fun _ => rfl⟩ 0 rfl rfl rfl rfl ⟨Nat.le_refl _, Nat.le_refl _⟩ dX6_wise_24 rfl (fun  u24 hw24 => ?_)
      refine z_iconst (v := nI 0) hX dX6_wise_27 (by decide) ?_
      refine z_istore_n (L' := [(3, .int (nI 0)), (0, .ref x), (1, .int (nI nnj)), (2, .int (nI whj))]) hX dX6_wise_28 (Nat.le_of_ble_eq_true rfl) rfl ?_
      have lp29 : ∀ (n29 : Nat) (v : Nat) (tt : nst), (64 + 1 ≤ v + n29) → (v ≤ 64) → Z (X, G, A, H0, 4) 0 0 [ob x 6 [.ref w, .ref kw, .int (nI ik), .ref tp, .ref sx, .ref fo, .ref gu, .ref ch], ob w 5 [.ref now, .ref cr, .ref past, .int (nI o), .int (nI u)], ob now 2 (mf nh s), ia G nh 4 (fN (sh 7 s)), ob cr 1 [.ref ck, .ref cl, .ref ce, .int (nI sz)], ia G ck 6 fk, ia G cl 6 fl, ia G ce 6 fe, ob fo 2 (mf fh tt), ia G fh 4 (fN (sh 7 tt)), ob ch 0 [.int (l4 ((bestW s nnj v).1)), .int (nI ((bestW s nnj v).2.1)), .int (nI ((bestW s nnj v).2.2))]] 29 [(0, .ref x), (1, .int (nI nnj)), (2, .int (nI whj)), (3, .int (nI v))] [] := by
        intro n29
        induction n29 with
        | zero =>
          intro v tt hn hv
          exfalso
          omega
        | succ n29 ih29 =>
          intro v tt hn hv
          have q7 := bestW_bd (n := nnj) h0 (by omega) v hv
          refine z_iload_n hX 3 dX6_wise_29 rfl ?_
          refine z_bipush (v := nI 64) hX dX6_wise_30 (by decide) ?_
          refine zn_icmp_ge (tgt := 48) hX dX6_wise_32 (by decide) (by omega) (by omega) (fun c32 => ?_) (fun c32 => ?_)
          · skip
            refine z_iload_n hX 2 dX6_wise_48 rfl ?_
            rcases (show whj = 0 ∨ whj = 1 ∨ whj = 2 by omega) with rfl | rfl | rfl
            · skip
              refine z_look (tgt := 76) (off := 27) hX dX6_wise_49 (by decide) (by decide) (by decide) ?_
              refine z_aload_n hX 0 dX6_wise_76 rfl ?_
              refine z_get (v := .ref ch) hX fX6 0 7 rfl rfl (Nat.le_of_ble_eq_true rfl) fl_X6_54 rfl dX6_wise_77 ?_
              refine z_get (v := .int (l4 ((bestW s nnj v).1))) hX fX0 10 0 rfl rfl (Nat.le_of_ble_eq_true rfl) fl_X6_217 rfl dX6_wise_80 ?_
              have ev : v = 64 := by omega
              obtain ⟨B, hB⟩ : ∃ B, B = bestW s nnj 64 := ⟨_, rfl⟩
              rw [ev, ← hB]
              exact hR _ (tt, l4 B.1, B.2.1, B.2.2) _ _ (by unfold spWise; rw [if_pos (⟨inb_t (by omega) (by omega) (by omega), inb_t (by omega) (by omega) (by omega)⟩), gN_nI (by omega), gN_nI (by omega), ← hB]; first | exact (if_pos rfl).symm | exact ((if_neg (by decide)).trans (if_pos rfl)).symm | exact ((if_neg (by decide)).trans (if_neg (by decide))).symm) dX6_wise_83 rfl
            · skip
              refine z_look (tgt := 84) (off := 35) hX dX6_wise_49 (by decide) (by decide) (by decide) ?_
              refine z_aload_n hX 0 dX6_wise_84 rfl ?_
              refine z_get (v := .ref ch) hX fX6 0 7 rfl rfl (Nat.le_of_ble_eq_true rfl) fl_X6_54 rfl dX6_wise_85 ?_
              refine z_get (v := .int (nI ((bestW s nnj v).2.1))) hX fX0 10 1 rfl rfl (Nat.le_of_ble_eq_true rfl) fl_X6_220 rfl dX6_wise_88 ?_
              have ev : v = 64 := by omega
              obtain ⟨B, hB⟩ : ∃ B, B = bestW s nnj 64 := ⟨_, rfl⟩
              rw [ev, ← hB]
              exact hR _ (tt, l4 B.1, B.2.1, B.2.2) _ _ (by unfold spWise; rw [if_pos (⟨inb_t (by omega) (by omega) (by omega), inb_t (by omega) (by omega) (by omega)⟩), gN_nI (by omega), gN_nI (by omega), ← hB]; first | exact (if_pos rfl).symm | exact ((if_neg (by decide)).trans (if_pos rfl)).symm | exact ((if_neg (by decide)).trans (if_neg (by decide))).symm) dX6_wise_91 rfl
            · skip
              refine z_look (tgt := 92) (off := 43) hX dX6_wise_49 (by decide) (by decide) (by decide) ?_
              refine z_aload_n hX 0 dX6_wise_92 rfl ?_
              refine z_get (v := .ref ch) hX fX6 0 7 rfl rfl (Nat.le_of_ble_eq_true rfl) fl_X6_54 rfl dX6_wise_93 ?_
              refine z_get (v := .int (nI ((bestW s nnj v).2.2))) hX fX0 10 2 rfl rfl (Nat.le_of_ble_eq_true rfl) fl_X6_223 rfl dX6_wise_96 ?_
              have ev : v = 64 := by omega
              obtain ⟨B, hB⟩ : ∃ B, B = bestW s nnj 64 := ⟨_, rfl⟩
              rw [ev, ← hB]
              exact hR _ (tt, l4 B.1, B.2.1, B.2.2) _ _ (by unfold spWise; rw [if_pos (⟨inb_t (by omega) (by omega) (by omega), inb_t (by omega) (by omega) (by omega)⟩), gN_nI (by omega), gN_nI (by omega), ← hB]; first | exact (if_pos rfl).symm | exact ((if_neg (by decide)).trans (if_pos rfl)).symm | exact ((if_neg (by decide)).trans (if_neg (by decide))).symm) dX6_wise_99 rfl
          · skip
            refine z_aload_n hX 0 dX6_wise_35 rfl ?_
            refine z_iload_n hX 3 dX6_wise_36 rfl ?_
            refine z_iload_n hX 3 dX6_wise_37 rfl ?_
            refine z_iload_n hX 1 dX6_wise_38 rfl ?_
            refine z_callVv (st := []) hX (c_X6_weigh _ G x w kw ik tp sx fo gu ch now nh cr past o u s ck cl ce sz fk fl fe fh tt ((bestW s nnj v).1) ((bestW s nnj v).2.1) ((bestW s nnj v).2.2) v v nnj h0 h1 h2 (by omega) (by omega) q7) lb_X6_weigh ml_X6_214 (fun (_u : Unit) => [ob x 6 [.ref w, .ref kw, .int (nI ik), .ref tp, .ref sx, .ref fo, .ref gu, .ref ch], ob w 5 [.ref now, .ref cr, .ref past, .int (nI o), .int (nI u)], ob now 2 (mf nh s), ia G nh 4 (fN (sh 7 s)), ob cr 1 [.ref ck, .ref cl, .ref ce, .int (nI sz)], ia G ck 6 fk, ia G cl 6 fl, ia G ce 6 fe, ob fo 2 (mf fh (goN nnj (va_up s 2 v))), ia G fh 4 (fN (sh 7 (goN nnj (va_up s 2 v)))), ob ch 0 [.int (l4 ((offerS v (goN nnj (va_up s 2 v) 5 - s 5) (goN nnj (va_up s 2 v) 3 - s 3) (((bestW s nnj v).1), (bestW s nnj v).2.1, (bestW s nnj v).2.2)).1)), .int (nI ((offerS v (goN nnj (va_up s 2 v) 5 - s 5) (goN nnj (va_up s 2 v) 3 - s 3) (((bestW s nnj v).1), (bestW s nnj v).2.1, (bestW s nnj v).2.2)).2.1)), .int (nI ((offerS v (goN nnj (va_up s 2 v) 5 - s 5) (goN nnj (va_up s 2 v) 3 - s 3) (((bestW s nnj v).1), (bestW s nnj v).2.1, (bestW s nnj v).2.2)).2.2))]]) (wr := []) [0, 1, 2, 3, 4, 5, 6, 7, 8, 9, 10] [] [0, 1, 2, 3, 4, 5, 6, 7, 8, 9, 10] ⟨rfl, rfl, rfl, fun _ => rfl⟩ 0 rfl rfl rfl rfl ⟨Nat.le_refl _, Nat.le_refl _⟩ dX6_wise_39 rfl (fun  u39 hw39 => ?_)
            refine z_iinc (v := (nI (v + 1))) (L' := [(3, .int (nI (v + 1))), (0, .ref x), (1, .int (nI nnj)), (2, .int (nI whj))]) hX 3 dX6_wise_42 rfl (nI_inc _) (Nat.le_of_ble_eq_true rfl) rfl ?_
            refine z_goto (tgt := 29) hX dX6_wise_45 (by decide) ?_
            refine z_lsub [1, 2, 3, 0] rfl ?_
            exact ih29 (v + 1) (goN nnj (va_up s 2 v)) (by omega) (by omega)
      refine z_lsub [1, 2, 3, 0] rfl ?_
      exact lp29 65 0 t (by omega) (by omega)
    · have hb_wh : inb wh 0 2 = false := hw12
      refine zn_if_ne (tgt := 20) hX dX6_wise_15 (by decide) (by omega) (fun c15 => absurd c15 (by omega)) (fun _ => ?_)
      refine z_iconst (v := (-1)) hX dX6_wise_18 (by decide) ?_
      exact hR _ (t, cw0, f, oo) _ _ (by unfold spWise; rw [if_neg (by simp [hb_wh])]) dX6_wise_19 rfl
  · have hb_nn : inb nn 1 40 = false := hw4
    refine zn_if_eq (tgt := 18) hX dX6_wise_7 (by decide) (by omega) (fun _ => ?_) (fun c7 => absurd c7 (by omega))
    refine z_iconst (v := (-1)) hX dX6_wise_18 (by decide) ?_
    exact hR _ (t, cw0, f, oo) _ _ (by unfold spWise; rw [if_neg (by simp [hb_nn])]) dX6_wise_19 rfl
set_option maxRecDepth 100000 in
set_option maxHeartbeats 4000000 in
theorem c_X6_bestTurn (l : Launch) (G : zG) (x : Nat) (w : Nat) (kw : Nat) (ik : Nat) (tp : Nat) (sx : Nat) (fo : Nat) (gu : Nat) (ch : Nat) (now : Nat) (nh : Nat) (cr : Nat) (past : Nat) (o : Nat) (u : Nat) (s : nst) (ck : Nat) (cl : Nat) (ce : Nat) (sz : Nat) (fk : Nat → Int32) (fl : Nat → Int32) (fe : Nat → Int32) (fh : Nat) (t : nst) (cw0 : Int32) (f : Nat) (oo : Nat) (nn : Int32) (on : Nat) (h0 : WF 9999 0 s) (h1 : CR s fk fl fe) (h2 : sz = s 0) (h3 : on < 2) : zMi l G yX6_bestTurn cX6_bestTurn 5 .int 5 0 0 118 [.ref x, .int nn, .int (nI on)] [ob x 6 [.ref w, .ref kw, .int (nI ik), .ref tp, .ref sx, .ref fo, .ref gu, .ref ch], ob w 5 [.ref now, .ref cr, .ref past, .int (nI o), .int (nI u)], ob now 2 (mf nh s), ia G nh 4 (fN (sh 7 s)), ob cr 1 [.ref ck, .ref cl, .ref ce, .int (nI sz)], ia G ck 6 fk, ia G cl 6 fl, ia G ce 6 fe, ob fo 2 (mf fh t), ia G fh 4 (fN (sh 7 t)), ob ch 0 [.int cw0, .int (nI f), .int (nI oo)]] (fun (r : Int32) (_u : nst × Int32 × Nat × Nat) => r = spTurn s nn on) (fun (_u : nst × Int32 × Nat × Nat) => [ob x 6 [.ref w, .ref kw, .int (nI ik), .ref tp, .ref sx, .ref fo, .ref gu, .ref ch], ob w 5 [.ref now, .ref cr, .ref past, .int (nI o), .int (nI u)], ob now 2 (mf nh s), ia G nh 4 (fN (sh 7 s)), ob cr 1 [.ref ck, .ref cl, .ref ce, .int (nI sz)], ia G ck 6 fk, ia G cl 6 fl, ia G ce 6 fe, ob fo 2 (mf fh _u.1), ia G fh 4 (fN (sh 7 _u.1)), ob ch 0 [.int _u.2.1, .int (nI _u.2.2.1), .int (nI _u.2.2.2)]]) := by
  refine zMi.of (by decide) rfl (fun X A H0 hX hXl hR => ?_)
  show Z (X, G, A, H0, 5) 0 0 [ob x 6 [.ref w, .ref kw, .int (nI ik), .ref tp, .ref sx, .ref fo, .ref gu, .ref ch], ob w 5 [.ref now, .ref cr, .ref past, .int (nI o), .int (nI u)], ob now 2 (mf nh s), ia G nh 4 (fN (sh 7 s)), ob cr 1 [.ref ck, .ref cl, .ref ce, .int (nI sz)], ia G ck 6 fk, ia G cl 6 fl, ia G ce 6 fe, ob fo 2 (mf fh t), ia G fh 4 (fN (sh 7 t)), ob ch 0 [.int cw0, .int (nI f), .int (nI oo)]] 0 [(0, .ref x), (1, .int nn), (2, .int (nI on))] []
  subst hXl
  have z0 := h0.1
  have z1 := h0.2.1
  have z2 := h0.2.2.1
  refine z_iload_n hX 1 dX6_bestTurn_0 rfl ?_
  refine z_iconst (v := nI 1) hX dX6_bestTurn_1 (by decide) ?_
  refine z_bipush (v := nI 40) hX dX6_bestTurn_2 (by decide) ?_
  refine z_callSi (st := []) hX (c_X6_isWithinX _ G nn 1 40 (by omega) (by omega)) lb_X6_isWithin ml_X6_62 (fun (_u : Unit) => [ob x 6 [.ref w, .ref kw, .int (nI ik), .ref tp, .ref sx, .ref fo, .ref gu, .ref ch], ob w 5 [.ref now, .ref cr, .ref past, .int (nI o), .int (nI u)], ob now 2 (mf nh s), ia G nh 4 (fN (sh 7 s)), ob cr 1 [.ref ck, .ref cl, .ref ce, .int (nI sz)], ia G ck 6 fk, ia G cl 6 fl, ia G ce 6 fe, ob fo 2 (mf fh t), ia G fh 4 (fN (sh 7 t)), ob ch 0 [.int cw0, .int (nI f), .int (nI oo)]]) (wr := [ob x 6 [.ref w, .ref kw, .int (nI ik), .ref tp, .ref sx, .ref fo, .ref gu, .ref ch], ob w 5 [.ref now, .ref cr, .ref past, .int (nI o), .int (nI u)], ob now 2 (mf nh s), ia G nh 4 (fN (sh 7 s)), ob cr 1 [.ref ck, .ref cl, .ref ce, .int (nI sz)], ia G ck 6 fk, ia G cl 6 fl, ia G ce 6 fe, ob fo 2 (mf fh t), ia G fh 4 (fN (sh 7 t)), ob ch 0 [.int cw0, .int (nI f), .int (nI oo)]]) [] [0, 1, 2, 3, 4, 5, 6, 7, 8, 9, 10] [0, 1, 2, 3, 4, 5, 6, 7, 8, 9, 10] ⟨rfl, rfl, rfl, fun _ => rfl⟩ rfl rfl ⟨Nat.le_refl _, Nat.le_refl _⟩ dX6_bestTurn_4 rfl (fun r4 u4 hw4 => ?_)
  try dsimp only at hw4
  rcases hw4 with ⟨nnj, hnnl, hnnh, rfl, rfl⟩ | ⟨hw4, rfl⟩
  · skip
    refine zn_if_ne (tgt := 12) hX dX6_bestTurn_7 (by decide) (by omega) (fun _ => ?_) (fun c7 => absurd c7 (by omega))
    refine z_aload_n hX 0 dX6_bestTurn_12 rfl ?_
    refine z_get (v := .ref w) hX fX6 0 0 rfl rfl (Nat.le_of_ble_eq_true rfl) fl_X6_10 rfl dX6_bestTurn_13 ?_
    refine z_get (v := .ref now) hX fX5 1 0 rfl rfl (Nat.le_of_ble_eq_true rfl) fl_X6_88 rfl dX6_bestTurn_16 ?_
    refine z_get (v := .int (nI (s 2))) hX fX2 2 1 rfl rfl (Nat.le_of_ble_eq_true rfl) fl_X6_111 rfl dX6_bestTurn_19 ?_
    refine z_istore_n (L' := [(3, .int (nI (s 2))), (0, .ref x), (1, .int (nI nnj)), (2, .int (nI on))]) hX dX6_bestTurn_22 (Nat.le_of_ble_eq_true rfl) rfl ?_
    refine z_aload_n hX 1 dX6_bestTurn_23 rfl ?_
    refine z_get (v := .ref ch) hX fX6 0 7 rfl rfl (Nat.le_of_ble_eq_true rfl) fl_X6_54 rfl dX6_bestTurn_24 ?_
    refine z_callVv (st := []) hX (c_X0_clear _ G ch cw0 f oo ) lb_X0_clear ml_X6_213 (fun (_u : Unit) => [ob x 6 [.ref w, .ref kw, .int (nI ik), .ref tp, .ref sx, .ref fo, .ref gu, .ref ch], ob w 5 [.ref now, .ref cr, .ref past, .int (nI o), .int (nI u)], ob now 2 (mf nh s), ia G nh 4 (fN (sh 7 s)), ob cr 1 [.ref ck, .ref cl, .ref ce, .int (nI sz)], ia G ck 6 fk, ia G cl 6 fl, ia G ce 6 fe, ob fo 2 (mf fh t), ia G fh 4 (fN (sh 7 t)), ob ch 0 [.int (l4 0), .int (nI 0), .int (nI 0)]]) (wr := [ob x 6 [.ref w, .ref kw, .int (nI ik), .ref tp, .ref sx, .ref fo, .ref gu, .ref ch], ob w 5 [.ref now, .ref cr, .ref past, .int (nI o), .int (nI u)], ob now 2 (mf nh s), ia G nh 4 (fN (sh 7 s)), ob cr 1 [.ref ck, .ref cl, .ref ce, .int (nI sz)], ia G ck 6 fk, ia G cl 6 fl, ia G ce 6 fe, ob fo 2 (mf fh t), ia G fh 4 (fN (sh 7 t))]) [10] [0, 1, 2, 3, 4, 5, 6, 7, 8, 9] [0, 1, 2, 3, 4, 5, 6, 7, 8, 9, 10] ⟨rfl, rfl, rfl, fun _ => rfl⟩ 0 rfl rfl rfl rfl ⟨Nat.le_refl _, Nat.le_refl _⟩ dX6_bestTurn_27 rfl (fun  u27 hw27 => ?_)
    refine z_iconst (v := nI 0) hX dX6_bestTurn_30 (by decide) ?_
    refine z_istore (L' := [(4, .int (nI 0)), (3, .int (nI (s 2))), (0, .ref x), (1, .int (nI nnj)), (2, .int (nI on))]) hX dX6_bestTurn_31 (Nat.le_of_ble_eq_true rfl) rfl ?_
    have lp33 : ∀ (n33 : Nat) (v : Nat) (tt : nst) (kk : Nat) (ff : Nat) (oo2 : Nat), (6 + 1 ≤ v + n33) → (v ≤ 6) → ((kk, ff, oo2) = bestT s nnj on v) → Z (X, G, A, H0, 5) 0 0 [ob x 6 [.ref w, .ref kw, .int (nI ik), .ref tp, .ref sx, .ref fo, .ref gu, .ref ch], ob w 5 [.ref now, .ref cr, .ref past, .int (nI o), .int (nI u)], ob now 2 (mf nh s), ia G nh 4 (fN (sh 7 s)), ob cr 1 [.ref ck, .ref cl, .ref ce, .int (nI sz)], ia G ck 6 fk, ia G cl 6 fl, ia G ce 6 fe, ob fo 2 (mf fh tt), ia G fh 4 (fN (sh 7 tt)), ob ch 0 [.int (l4 kk), .int (nI ff), .int (nI oo2)]] 33 [(0, .ref x), (1, .int (nI nnj)), (2, .int (nI on)), (3, .int (nI (s 2))), (4, .int (nI v))] [] := by
      intro n33
      induction n33 with
      | zero =>
        intro v tt kk ff oo2 hn hv hb
        exfalso
        omega
      | succ n33 ih33 =>
        intro v tt kk ff oo2 hn hv hb
        have q7 := bestT_bd (n := nnj) (on := on) h0 (by omega) v hv
        rw [← hb] at q7
        refine z_iload hX 4 dX6_bestTurn_33 rfl ?_
        refine z_bipush (v := nI 6) hX dX6_bestTurn_35 (by decide) ?_
        refine zn_icmp_ge (tgt := 69) hX dX6_bestTurn_37 (by decide) (by omega) (by omega) (fun c37 => ?_) (fun c37 => ?_)
        · skip
          refine z_aload_n hX 0 dX6_bestTurn_69 rfl ?_
          refine z_get (v := .ref ch) hX fX6 0 7 rfl rfl (Nat.le_of_ble_eq_true rfl) fl_X6_54 rfl dX6_bestTurn_70 ?_
          refine z_get (v := .int (l4 kk)) hX fX0 10 0 rfl rfl (Nat.le_of_ble_eq_true rfl) fl_X6_217 rfl dX6_bestTurn_73 ?_
          have ev : v = 6 := by omega
          subst ev
          exact hR _ (tt, l4 kk, ff, oo2) _ _ (by unfold spTurn; rw [if_pos (inb_t (by omega) (by omega) (by omega)), gN_nI (by omega), ← hb]) dX6_bestTurn_76 rfl
        · skip
          refine z_iload hX 4 dX6_bestTurn_40 rfl ?_
          refine z_iload_n hX 3 dX6_bestTurn_42 rfl ?_
          refine z_callSi (st := []) hX (c_X6_isIn _ G v (s 2) (by omega) (by omega)) lb_X6_isIn ml_X6_210 (fun (_u : Unit) => [ob x 6 [.ref w, .ref kw, .int (nI ik), .ref tp, .ref sx, .ref fo, .ref gu, .ref ch], ob w 5 [.ref now, .ref cr, .ref past, .int (nI o), .int (nI u)], ob now 2 (mf nh s), ia G nh 4 (fN (sh 7 s)), ob cr 1 [.ref ck, .ref cl, .ref ce, .int (nI sz)], ia G ck 6 fk, ia G cl 6 fl, ia G ce 6 fe, ob fo 2 (mf fh tt), ia G fh 4 (fN (sh 7 tt)), ob ch 0 [.int (l4 kk), .int (nI ff), .int (nI oo2)]]) (wr := [ob x 6 [.ref w, .ref kw, .int (nI ik), .ref tp, .ref sx, .ref fo, .ref gu, .ref ch], ob w 5 [.ref now, .ref cr, .ref past, .int (nI o), .int (nI u)], ob now 2 (mf nh s), ia G nh 4 (fN (sh 7 s)), ob cr 1 [.ref ck, .ref cl, .ref ce, .int (nI sz)], ia G ck 6 fk, ia G cl 6 fl, ia G ce 6 fe, ob fo 2 (mf fh tt), ia G fh 4 (fN (sh 7 tt)), ob ch 0 [.int (l4 kk), .int (nI ff), .int (nI oo2)]]) [] [0, 1, 2, 3, 4, 5, 6, 7, 8, 9, 10] [0, 1, 2, 3, 4, 5, 6, 7, 8, 9, 10] ⟨rfl, rfl, rfl, fun _ => rfl⟩ rfl rfl ⟨Nat.le_refl _, Nat.le_refl _⟩ dX6_bestTurn_43 rfl (fun r43 u43 hw43 => ?_)
          try dsimp only at hw43
          rcases Classical.em ((s 2) / 2 ^ v % 2 = 1) with b43 | b43
          · obtain rfl := hw43.1 b43
            refine z_iload_n hX 2 dX6_bestTurn_46 rfl ?_
            refine zn_icmp_ne (tgt := 63) hX dX6_bestTurn_47 (by decide) (by omega) (by omega) (fun c47 => ?_) (fun c47 => ?_)
            · skip
              refine z_iinc (v := (nI (v + 1))) (L' := [(4, .int (nI (v + 1))), (0, .ref x), (1, .int (nI nnj)), (2, .int (nI on)), (3, .int (nI (s 2)))]) hX 4 dX6_bestTurn_63 rfl (nI_inc _) (Nat.le_of_ble_eq_true rfl) rfl ?_
              refine z_goto (tgt := 33) hX dX6_bestTurn_66 (by decide) ?_
              refine z_lsub [1, 2, 3, 4, 0] rfl ?_
              exact ih33 (v + 1) tt kk ff oo2 (by omega) (by omega) (by rw [bestT, if_neg (by omega), ← hb])
            · skip
              refine z_aload_n hX 0 dX6_bestTurn_50 rfl ?_
              refine z_iload hX 4 dX6_bestTurn_51 rfl ?_
              refine z_iload_n hX 3 dX6_bestTurn_53 rfl ?_
              refine z_iconst (v := nI 1) hX dX6_bestTurn_54 (by decide) ?_
              refine z_iload hX 4 dX6_bestTurn_55 rfl ?_
              refine z_ishl (v := (nI (2 ^ v))) hX dX6_bestTurn_57 (shl_nI _ (by omega)) ?_
              refine z_ixor (v := (nI ((s 2) ^^^ (2 ^ v)))) hX dX6_bestTurn_58 (xor_nI _ _) ?_
              refine z_iload_n hX 1 dX6_bestTurn_59 rfl ?_
              refine z_callVv (st := []) hX (c_X6_weigh _ G x w kw ik tp sx fo gu ch now nh cr past o u s ck cl ce sz fk fl fe fh tt kk ff oo2 v ((s 2) ^^^ (2 ^ v)) nnj h0 h1 h2 (xor_lt (by omega) (by omega)) (by omega) q7) lb_X6_weigh ml_X6_214 (fun (_u : Unit) => [ob x 6 [.ref w, .ref kw, .int (nI ik), .ref tp, .ref sx, .ref fo, .ref gu, .ref ch], ob w 5 [.ref now, .ref cr, .ref past, .int (nI o), .int (nI u)], ob now 2 (mf nh s), ia G nh 4 (fN (sh 7 s)), ob cr 1 [.ref ck, .ref cl, .ref ce, .int (nI sz)], ia G ck 6 fk, ia G cl 6 fl, ia G ce 6 fe, ob fo 2 (mf fh (goN nnj (va_up s 2 ((s 2) ^^^ (2 ^ v))))), ia G fh 4 (fN (sh 7 (goN nnj (va_up s 2 ((s 2) ^^^ (2 ^ v)))))), ob ch 0 [.int (l4 ((offerS v (goN nnj (va_up s 2 ((s 2) ^^^ (2 ^ v))) 5 - s 5) (goN nnj (va_up s 2 ((s 2) ^^^ (2 ^ v))) 3 - s 3) (kk, ff, oo2)).1)), .int (nI ((offerS v (goN nnj (va_up s 2 ((s 2) ^^^ (2 ^ v))) 5 - s 5) (goN nnj (va_up s 2 ((s 2) ^^^ (2 ^ v))) 3 - s 3) (kk, ff, oo2)).2.1)), .int (nI ((offerS v (goN nnj (va_up s 2 ((s 2) ^^^ (2 ^ v))) 5 - s 5) (goN nnj (va_up s 2 ((s 2) ^^^ (2 ^ v))) 3 - s 3) (kk, ff, oo2)).2.2))]]) (wr := []) [0, 1, 2, 3, 4, 5, 6, 7, 8, 9, 10] [] [0, 1, 2, 3, 4, 5, 6, 7, 8, 9, 10] ⟨rfl, rfl, rfl, fun _ => rfl⟩ 0 rfl rfl rfl rfl ⟨Nat.le_refl _, Nat.le_refl _⟩ dX6_bestTurn_60 rfl (fun  u60 hw60 => ?_)
              refine z_iinc (v := (nI (v + 1))) (L' := [(4, .int (nI (v + 1))), (0, .ref x), (1, .int (nI nnj)), (2, .int (nI on)), (3, .int (nI (s 2)))]) hX 4 dX6_bestTurn_63 rfl (nI_inc _) (Nat.le_of_ble_eq_true rfl) rfl ?_
              refine z_goto (tgt := 33) hX dX6_bestTurn_66 (by decide) ?_
              refine z_lsub [1, 2, 3, 4, 0] rfl ?_
              exact ih33 (v + 1) (goN nnj (va_up s 2 ((s 2) ^^^ (2 ^ v)))) ((offerS v (goN nnj (va_up s 2 ((s 2) ^^^ (2 ^ v))) 5 - s 5) (goN nnj (va_up s 2 ((s 2) ^^^ (2 ^ v))) 3 - s 3) (kk, ff, oo2)).1) ((offerS v (goN nnj (va_up s 2 ((s 2) ^^^ (2 ^ v))) 5 - s 5) (goN nnj (va_up s 2 ((s 2) ^^^ (2 ^ v))) 3 - s 3) (kk, ff, oo2)).2.1) ((offerS v (goN nnj (va_up s 2 ((s 2) ^^^ (2 ^ v))) 5 - s 5) (goN nnj (va_up s 2 ((s 2) ^^^ (2 ^ v))) 3 - s 3) (kk, ff, oo2)).2.2) (by omega) (by omega) (by rw [bestT, if_pos (by omega), ← hb])
          · obtain rfl := hw43.2 b43
            refine z_iload_n hX 2 dX6_bestTurn_46 rfl ?_
            refine zn_icmp_ne (tgt := 63) hX dX6_bestTurn_47 (by decide) (by omega) (by omega) (fun c47 => ?_) (fun c47 => ?_)
            · skip
              refine z_iinc (v := (nI (v + 1))) (L' := [(4, .int (nI (v + 1))), (0, .ref x), (1, .int (nI nnj)), (2, .int (nI on)), (3, .int (nI (s 2)))]) hX 4 dX6_bestTurn_63 rfl (nI_inc _) (Nat.le_of_ble_eq_true rfl) rfl ?_
              refine z_goto (tgt := 33) hX dX6_bestTurn_66 (by decide) ?_
              refine z_lsub [1, 2, 3, 4, 0] rfl ?_
              exact ih33 (v + 1) tt kk ff oo2 (by omega) (by omega) (by rw [bestT, if_neg (by omega), ← hb])
            · skip
              refine z_aload_n hX 0 dX6_bestTurn_50 rfl ?_
              refine z_iload hX 4 dX6_bestTurn_51 rfl ?_
              refine z_iload_n hX 3 dX6_bestTurn_53 rfl ?_
              refine z_iconst (v := nI 1) hX dX6_bestTurn_54 (by decide) ?_
              refine z_iload hX 4 dX6_bestTurn_55 rfl ?_
              refine z_ishl (v := (nI (2 ^ v))) hX dX6_bestTurn_57 (shl_nI _ (by omega)) ?_
              refine z_ixor (v := (nI ((s 2) ^^^ (2 ^ v)))) hX dX6_bestTurn_58 (xor_nI _ _) ?_
              refine z_iload_n hX 1 dX6_bestTurn_59 rfl ?_
              refine z_callVv (st := []) hX (c_X6_weigh _ G x w kw ik tp sx fo gu ch now nh cr past o u s ck cl ce sz fk fl fe fh tt kk ff oo2 v ((s 2) ^^^ (2 ^ v)) nnj h0 h1 h2 (xor_lt (by omega) (by omega)) (by omega) q7) lb_X6_weigh ml_X6_214 (fun (_u : Unit) => [ob x 6 [.ref w, .ref kw, .int (nI ik), .ref tp, .ref sx, .ref fo, .ref gu, .ref ch], ob w 5 [.ref now, .ref cr, .ref past, .int (nI o), .int (nI u)], ob now 2 (mf nh s), ia G nh 4 (fN (sh 7 s)), ob cr 1 [.ref ck, .ref cl, .ref ce, .int (nI sz)], ia G ck 6 fk, ia G cl 6 fl, ia G ce 6 fe, ob fo 2 (mf fh (goN nnj (va_up s 2 ((s 2) ^^^ (2 ^ v))))), ia G fh 4 (fN (sh 7 (goN nnj (va_up s 2 ((s 2) ^^^ (2 ^ v)))))), ob ch 0 [.int (l4 ((offerS v (goN nnj (va_up s 2 ((s 2) ^^^ (2 ^ v))) 5 - s 5) (goN nnj (va_up s 2 ((s 2) ^^^ (2 ^ v))) 3 - s 3) (kk, ff, oo2)).1)), .int (nI ((offerS v (goN nnj (va_up s 2 ((s 2) ^^^ (2 ^ v))) 5 - s 5) (goN nnj (va_up s 2 ((s 2) ^^^ (2 ^ v))) 3 - s 3) (kk, ff, oo2)).2.1)), .int (nI ((offerS v (goN nnj (va_up s 2 ((s 2) ^^^ (2 ^ v))) 5 - s 5) (goN nnj (va_up s 2 ((s 2) ^^^ (2 ^ v))) 3 - s 3) (kk, ff, oo2)).2.2))]]) (wr := []) [0, 1, 2, 3, 4, 5, 6, 7, 8, 9, 10] [] [0, 1, 2, 3, 4, 5, 6, 7, 8, 9, 10] ⟨rfl, rfl, rfl, fun _ => rfl⟩ 0 rfl rfl rfl rfl ⟨Nat.le_refl _, Nat.le_refl _⟩ dX6_bestTurn_60 rfl (fun  u60 hw60 => ?_)
              refine z_iinc (v := (nI (v + 1))) (L' := [(4, .int (nI (v + 1))), (0, .ref x), (1, .int (nI nnj)), (2, .int (nI on)), (3, .int (nI (s 2)))]) hX 4 dX6_bestTurn_63 rfl (nI_inc _) (Nat.le_of_ble_eq_true rfl) rfl ?_
              refine z_goto (tgt := 33) hX dX6_bestTurn_66 (by decide) ?_
              refine z_lsub [1, 2, 3, 4, 0] rfl ?_
              exact ih33 (v + 1) (goN nnj (va_up s 2 ((s 2) ^^^ (2 ^ v)))) ((offerS v (goN nnj (va_up s 2 ((s 2) ^^^ (2 ^ v))) 5 - s 5) (goN nnj (va_up s 2 ((s 2) ^^^ (2 ^ v))) 3 - s 3) (kk, ff, oo2)).1) ((offerS v (goN nnj (va_up s 2 ((s 2) ^^^ (2 ^ v))) 5 - s 5) (goN nnj (va_up s 2 ((s 2) ^^^ (2 ^ v))) 3 - s 3) (kk, ff, oo2)).2.1) ((offerS v (goN nnj (va_up s 2 ((s 2) ^^^ (2 ^ v))) 5 - s 5) (goN nnj (va_up s 2 ((s 2) ^^^ (2 ^ v))) 3 - s 3) (kk, ff, oo2)).2.2) (by omega) (by omega) (by rw [bestT, if_pos (by omega), ← hb])
    refine z_lsub [2, 3, 4, 1, 0] rfl ?_
    exact lp33 7 0 t 0 0 0 (by omega) (by omega) rfl
  · have hb_nn : inb nn 1 40 = false := hw4
    refine zn_if_ne (tgt := 12) hX dX6_bestTurn_7 (by decide) (by omega) (fun c7 => absurd c7 (by omega)) (fun _ => ?_)
    refine z_iconst (v := (-1)) hX dX6_bestTurn_10 (by decide) ?_
    exact hR _ (t, cw0, f, oo) _ _ (by unfold spTurn; rw [if_neg (by simp [hb_nn])]) dX6_bestTurn_11 rfl
set_option maxRecDepth 100000 in
set_option maxHeartbeats 4000000 in
theorem c_X6_more (l : Launch) (G : zG) (x : Nat) (w : Nat) (kw : Nat) (ik : Nat) (tp : Nat) (sx : Nat) (fo : Nat) (gu : Nat) (ch : Nat) (now : Nat) (nh : Nat) (cr : Nat) (past : Nat) (o : Nat) (u : Nat) (s : nst) (ck : Nat) (cl : Nat) (ce : Nat) (sz : Nat) (fk : Nat → Int32) (fl : Nat → Int32) (fe : Nat → Int32) (fh : Nat) (t : nst) (cw0 : Int32) (f : Nat) (oo : Nat) (nn : Int32) (h0 : WF 9999 0 s) (h1 : CR s fk fl fe) (h2 : sz = s 0) : zMi l G yX6_more cX6_more 2 .int 6 0 0 142 [.ref x, .int nn] [ob x 6 [.ref w, .ref kw, .int (nI ik), .ref tp, .ref sx, .ref fo, .ref gu, .ref ch], ob w 5 [.ref now, .ref cr, .ref past, .int (nI o), .int (nI u)], ob now 2 (mf nh s), ia G nh 4 (fN (sh 7 s)), ob cr 1 [.ref ck, .ref cl, .ref ce, .int (nI sz)], ia G ck 6 fk, ia G cl 6 fl, ia G ce 6 fe, ob fo 2 (mf fh t), ia G fh 4 (fN (sh 7 t)), ob ch 0 [.int cw0, .int (nI f), .int (nI oo)]] (fun (r : Int32) (_u : nst × Int32 × Nat × Nat) => r = spTurn s nn 0) (fun (_u : nst × Int32 × Nat × Nat) => [ob x 6 [.ref w, .ref kw, .int (nI ik), .ref tp, .ref sx, .ref fo, .ref gu, .ref ch], ob w 5 [.ref now, .ref cr, .ref past, .int (nI o), .int (nI u)], ob now 2 (mf nh s), ia G nh 4 (fN (sh 7 s)), ob cr 1 [.ref ck, .ref cl, .ref ce, .int (nI sz)], ia G ck 6 fk, ia G cl 6 fl, ia G ce 6 fe, ob fo 2 (mf fh _u.1), ia G fh 4 (fN (sh 7 _u.1)), ob ch 0 [.int _u.2.1, .int (nI _u.2.2.1), .int (nI _u.2.2.2)]]) := by
  refine zMi.of (by decide) rfl (fun X A H0 hX hXl hR => ?_)
  show Z (X, G, A, H0, 2) 0 0 [ob x 6 [.ref w, .ref kw, .int (nI ik), .ref tp, .ref sx, .ref fo, .ref gu, .ref ch], ob w 5 [.ref now, .ref cr, .ref past, .int (nI o), .int (nI u)], ob now 2 (mf nh s), ia G nh 4 (fN (sh 7 s)), ob cr 1 [.ref ck, .ref cl, .ref ce, .int (nI sz)], ia G ck 6 fk, ia G cl 6 fl, ia G ce 6 fe, ob fo 2 (mf fh t), ia G fh 4 (fN (sh 7 t)), ob ch 0 [.int cw0, .int (nI f), .int (nI oo)]] 0 [(0, .ref x), (1, .int nn)] []
  subst hXl
  refine z_aload_n hX 0 dX6_more_0 rfl ?_
  refine z_iload_n hX 1 dX6_more_1 rfl ?_
  refine z_iconst (v := nI 0) hX dX6_more_2 (by decide) ?_
  refine z_callVi (st := []) hX (c_X6_bestTurn _ G x w kw ik tp sx fo gu ch now nh cr past o u s ck cl ce sz fk fl fe fh t cw0 f oo nn 0 h0 h1 h2 (by omega)) lb_X6_bestTurn ml_X6_226 (fun (_u : nst × Int32 × Nat × Nat) => [ob x 6 [.ref w, .ref kw, .int (nI ik), .ref tp, .ref sx, .ref fo, .ref gu, .ref ch], ob w 5 [.ref now, .ref cr, .ref past, .int (nI o), .int (nI u)], ob now 2 (mf nh s), ia G nh 4 (fN (sh 7 s)), ob cr 1 [.ref ck, .ref cl, .ref ce, .int (nI sz)], ia G ck 6 fk, ia G cl 6 fl, ia G ce 6 fe, ob fo 2 (mf fh _u.1), ia G fh 4 (fN (sh 7 _u.1)), ob ch 0 [.int _u.2.1, .int (nI _u.2.2.1), .int (nI _u.2.2.2)]]) (wr := []) [0, 1, 2, 3, 4, 5, 6, 7, 8, 9, 10] [] [0, 1, 2, 3, 4, 5, 6, 7, 8, 9, 10] ⟨rfl, rfl, rfl, fun _ => rfl⟩ 0 rfl rfl rfl rfl ⟨Nat.le_refl _, Nat.le_refl _⟩ dX6_more_3 rfl (fun r3 u3 hw3 => ?_)
  obtain ⟨t2_1, c2_2, f2_3, o2_4⟩ := u3
  exact hR _ (t2_1, c2_2, f2_3, o2_4) _ _ hw3 dX6_more_6 rfl
set_option maxRecDepth 100000 in
set_option maxHeartbeats 4000000 in
theorem c_X6_less (l : Launch) (G : zG) (x : Nat) (w : Nat) (kw : Nat) (ik : Nat) (tp : Nat) (sx : Nat) (fo : Nat) (gu : Nat) (ch : Nat) (now : Nat) (nh : Nat) (cr : Nat) (past : Nat) (o : Nat) (u : Nat) (s : nst) (ck : Nat) (cl : Nat) (ce : Nat) (sz : Nat) (fk : Nat → Int32) (fl : Nat → Int32) (fe : Nat → Int32) (fh : Nat) (t : nst) (cw0 : Int32) (f : Nat) (oo : Nat) (nn : Int32) (h0 : WF 9999 0 s) (h1 : CR s fk fl fe) (h2 : sz = s 0) : zMi l G yX6_less cX6_less 2 .int 6 0 0 142 [.ref x, .int nn] [ob x 6 [.ref w, .ref kw, .int (nI ik), .ref tp, .ref sx, .ref fo, .ref gu, .ref ch], ob w 5 [.ref now, .ref cr, .ref past, .int (nI o), .int (nI u)], ob now 2 (mf nh s), ia G nh 4 (fN (sh 7 s)), ob cr 1 [.ref ck, .ref cl, .ref ce, .int (nI sz)], ia G ck 6 fk, ia G cl 6 fl, ia G ce 6 fe, ob fo 2 (mf fh t), ia G fh 4 (fN (sh 7 t)), ob ch 0 [.int cw0, .int (nI f), .int (nI oo)]] (fun (r : Int32) (_u : nst × Int32 × Nat × Nat) => r = spTurn s nn 1) (fun (_u : nst × Int32 × Nat × Nat) => [ob x 6 [.ref w, .ref kw, .int (nI ik), .ref tp, .ref sx, .ref fo, .ref gu, .ref ch], ob w 5 [.ref now, .ref cr, .ref past, .int (nI o), .int (nI u)], ob now 2 (mf nh s), ia G nh 4 (fN (sh 7 s)), ob cr 1 [.ref ck, .ref cl, .ref ce, .int (nI sz)], ia G ck 6 fk, ia G cl 6 fl, ia G ce 6 fe, ob fo 2 (mf fh _u.1), ia G fh 4 (fN (sh 7 _u.1)), ob ch 0 [.int _u.2.1, .int (nI _u.2.2.1), .int (nI _u.2.2.2)]]) := by
  refine zMi.of (by decide) rfl (fun X A H0 hX hXl hR => ?_)
  show Z (X, G, A, H0, 2) 0 0 [ob x 6 [.ref w, .ref kw, .int (nI ik), .ref tp, .ref sx, .ref fo, .ref gu, .ref ch], ob w 5 [.ref now, .ref cr, .ref past, .int (nI o), .int (nI u)], ob now 2 (mf nh s), ia G nh 4 (fN (sh 7 s)), ob cr 1 [.ref ck, .ref cl, .ref ce, .int (nI sz)], ia G ck 6 fk, ia G cl 6 fl, ia G ce 6 fe, ob fo 2 (mf fh t), ia G fh 4 (fN (sh 7 t)), ob ch 0 [.int cw0, .int (nI f), .int (nI oo)]] 0 [(0, .ref x), (1, .int nn)] []
  subst hXl
  refine z_aload_n hX 0 dX6_less_0 rfl ?_
  refine z_iload_n hX 1 dX6_less_1 rfl ?_
  refine z_iconst (v := nI 1) hX dX6_less_2 (by decide) ?_
  refine z_callVi (st := []) hX (c_X6_bestTurn _ G x w kw ik tp sx fo gu ch now nh cr past o u s ck cl ce sz fk fl fe fh t cw0 f oo nn 1 h0 h1 h2 (by omega)) lb_X6_bestTurn ml_X6_226 (fun (_u : nst × Int32 × Nat × Nat) => [ob x 6 [.ref w, .ref kw, .int (nI ik), .ref tp, .ref sx, .ref fo, .ref gu, .ref ch], ob w 5 [.ref now, .ref cr, .ref past, .int (nI o), .int (nI u)], ob now 2 (mf nh s), ia G nh 4 (fN (sh 7 s)), ob cr 1 [.ref ck, .ref cl, .ref ce, .int (nI sz)], ia G ck 6 fk, ia G cl 6 fl, ia G ce 6 fe, ob fo 2 (mf fh _u.1), ia G fh 4 (fN (sh 7 _u.1)), ob ch 0 [.int _u.2.1, .int (nI _u.2.2.1), .int (nI _u.2.2.2)]]) (wr := []) [0, 1, 2, 3, 4, 5, 6, 7, 8, 9, 10] [] [0, 1, 2, 3, 4, 5, 6, 7, 8, 9, 10] ⟨rfl, rfl, rfl, fun _ => rfl⟩ 0 rfl rfl rfl rfl ⟨Nat.le_refl _, Nat.le_refl _⟩ dX6_less_3 rfl (fun r3 u3 hw3 => ?_)
  obtain ⟨t2_1, c2_2, f2_3, o2_4⟩ := u3
  exact hR _ (t2_1, c2_2, f2_3, o2_4) _ _ hw3 dX6_less_6 rfl
set_option maxRecDepth 100000 in
set_option maxHeartbeats 4000000 in
theorem c_X6_bears (l : Launch) (G : zG) (x : Nat) (w : Nat) (kw : Nat) (ik : Nat) (tp : Nat) (sx : Nat) (fo : Nat) (gu : Nat) (ch : Nat) (now : Nat) (nh : Nat) (cr : Nat) (past : Nat) (o : Nat) (u : Nat) (s : nst) (ck : Nat) (cl : Nat) (ce : Nat) (sz : Nat) (fk : Nat → Int32) (fl : Nat → Int32) (fe : Nat → Int32) (fh : Nat) (t : nst) (nn : Int32) (h0 : WF 9999 0 s) (h1 : CR s fk fl fe) (h2 : sz = s 0) : zMi l G yX6_bears cX6_bears 3 .int 4 0 0 94 [.ref x, .int nn] [ob x 6 [.ref w, .ref kw, .int (nI ik), .ref tp, .ref sx, .ref fo, .ref gu, .ref ch], ob w 5 [.ref now, .ref cr, .ref past, .int (nI o), .int (nI u)], ob now 2 (mf nh s), ia G nh 4 (fN (sh 7 s)), ob cr 1 [.ref ck, .ref cl, .ref ce, .int (nI sz)], ia G ck 6 fk, ia G cl 6 fl, ia G ce 6 fe, ob fo 2 (mf fh t), ia G fh 4 (fN (sh 7 t))] (fun (r : Int32) (_u : nst) => r = spBears s nn) (fun (_u : nst) => [ob x 6 [.ref w, .ref kw, .int (nI ik), .ref tp, .ref sx, .ref fo, .ref gu, .ref ch], ob w 5 [.ref now, .ref cr, .ref past, .int (nI o), .int (nI u)], ob now 2 (mf nh s), ia G nh 4 (fN (sh 7 s)), ob cr 1 [.ref ck, .ref cl, .ref ce, .int (nI sz)], ia G ck 6 fk, ia G cl 6 fl, ia G ce 6 fe, ob fo 2 (mf fh _u), ia G fh 4 (fN (sh 7 _u))]) := by
  refine zMi.of (by decide) rfl (fun X A H0 hX hXl hR => ?_)
  show Z (X, G, A, H0, 3) 0 0 [ob x 6 [.ref w, .ref kw, .int (nI ik), .ref tp, .ref sx, .ref fo, .ref gu, .ref ch], ob w 5 [.ref now, .ref cr, .ref past, .int (nI o), .int (nI u)], ob now 2 (mf nh s), ia G nh 4 (fN (sh 7 s)), ob cr 1 [.ref ck, .ref cl, .ref ce, .int (nI sz)], ia G ck 6 fk, ia G cl 6 fl, ia G ce 6 fe, ob fo 2 (mf fh t), ia G fh 4 (fN (sh 7 t))] 0 [(0, .ref x), (1, .int nn)] []
  subst hXl
  have z0 := h0.1
  have z1 := h0.2.1
  have z2 := h0.2.2.1
  refine z_iload_n hX 1 dX6_bears_0 rfl ?_
  refine z_iconst (v := nI 1) hX dX6_bears_1 (by decide) ?_
  refine z_bipush (v := nI 40) hX dX6_bears_2 (by decide) ?_
  refine z_callSi (st := []) hX (c_X6_isWithinX _ G nn 1 40 (by omega) (by omega)) lb_X6_isWithin ml_X6_62 (fun (_u : Unit) => [ob x 6 [.ref w, .ref kw, .int (nI ik), .ref tp, .ref sx, .ref fo, .ref gu, .ref ch], ob w 5 [.ref now, .ref cr, .ref past, .int (nI o), .int (nI u)], ob now 2 (mf nh s), ia G nh 4 (fN (sh 7 s)), ob cr 1 [.ref ck, .ref cl, .ref ce, .int (nI sz)], ia G ck 6 fk, ia G cl 6 fl, ia G ce 6 fe, ob fo 2 (mf fh t), ia G fh 4 (fN (sh 7 t))]) (wr := [ob x 6 [.ref w, .ref kw, .int (nI ik), .ref tp, .ref sx, .ref fo, .ref gu, .ref ch], ob w 5 [.ref now, .ref cr, .ref past, .int (nI o), .int (nI u)], ob now 2 (mf nh s), ia G nh 4 (fN (sh 7 s)), ob cr 1 [.ref ck, .ref cl, .ref ce, .int (nI sz)], ia G ck 6 fk, ia G cl 6 fl, ia G ce 6 fe, ob fo 2 (mf fh t), ia G fh 4 (fN (sh 7 t))]) [] [0, 1, 2, 3, 4, 5, 6, 7, 8, 9] [0, 1, 2, 3, 4, 5, 6, 7, 8, 9] ⟨rfl, rfl, rfl, fun _ => rfl⟩ rfl rfl ⟨Nat.le_refl _, Nat.le_refl _⟩ dX6_bears_4 rfl (fun r4 u4 hw4 => ?_)
  try dsimp only at hw4
  rcases hw4 with ⟨nnj, hnnl, hnnh, rfl, rfl⟩ | ⟨hw4, rfl⟩
  · skip
    refine zn_if_ne (tgt := 12) hX dX6_bears_7 (by decide) (by omega) (fun _ => ?_) (fun c7 => absurd c7 (by omega))
    refine z_bipush (v := nI 40) hX dX6_bears_12 (by decide) ?_
    refine z_istore_n (L' := [(2, .int (nI 40)), (0, .ref x), (1, .int (nI nnj))]) hX dX6_bears_14 (Nat.le_of_ble_eq_true rfl) rfl ?_
    have lp15 : ∀ (n15 : Nat) (q : Nat) (tt : nst), (q + 1 ≤ n15) → (q ≤ 41) → (bearTo s nnj q = bearTo s nnj 41) → Z (X, G, A, H0, 3) 0 0 [ob x 6 [.ref w, .ref kw, .int (nI ik), .ref tp, .ref sx, .ref fo, .ref gu, .ref ch], ob w 5 [.ref now, .ref cr, .ref past, .int (nI o), .int (nI u)], ob now 2 (mf nh s), ia G nh 4 (fN (sh 7 s)), ob cr 1 [.ref ck, .ref cl, .ref ce, .int (nI sz)], ia G ck 6 fk, ia G cl 6 fl, ia G ce 6 fe, ob fo 2 (mf fh tt), ia G fh 4 (fN (sh 7 tt))] 15 [(0, .ref x), (1, .int (nI nnj)), (2, .int (ln q))] [] := by
      intro n15
      induction n15 with
      | zero =>
        intro q tt hn hq hf
        exfalso
        omega
      | succ n15 ih15 =>
        intro q tt hn hq hf
        refine z_iload_n hX 2 dX6_bears_15 rfl ?_
        refine z_if_lt (tgt := 57) hX dX6_bears_16 (by decide) (fun c16 => ?_) (fun c16 => ?_)
        · rw [ln_lt2 (by omega)] at c16
          subst c16
          refine z_bipush (v := (-4)) hX dX6_bears_57 (by decide) ?_
          exact hR _ tt _ _ (by unfold spBears; rw [if_pos (inb_t (by omega) (by omega) (by omega)), gN_nI (by omega)]; rw [← hf]; rfl) dX6_bears_59 rfl
        · rw [ln_lt2 (by omega)] at c16
          obtain ⟨v, rfl⟩ : ∃ v, q = v + 1 := ⟨q - 1, by omega⟩
          rw [ln_s]
          have hz : sz = floodS v s 0 := h2
          refine z_aload_n hX 0 dX6_bears_19 rfl ?_
          refine z_get (v := .ref fo) hX fX6 0 5 rfl rfl (Nat.le_of_ble_eq_true rfl) fl_X6_40 rfl dX6_bears_20 ?_
          refine z_aload_n hX 0 dX6_bears_23 rfl ?_
          refine z_get (v := .ref w) hX fX6 0 0 rfl rfl (Nat.le_of_ble_eq_true rfl) fl_X6_10 rfl dX6_bears_24 ?_
          refine z_get (v := .ref now) hX fX5 1 0 rfl rfl (Nat.le_of_ble_eq_true rfl) fl_X6_88 rfl dX6_bears_27 ?_
          refine z_callVv (st := []) hX (c_X2_take _ G fo fh tt now nh s ) lb_X2_take ml_X6_206 (fun (_u : Unit) => [ob x 6 [.ref w, .ref kw, .int (nI ik), .ref tp, .ref sx, .ref fo, .ref gu, .ref ch], ob w 5 [.ref now, .ref cr, .ref past, .int (nI o), .int (nI u)], ob now 2 (mf nh s), ia G nh 4 (fN (sh 7 s)), ob cr 1 [.ref ck, .ref cl, .ref ce, .int (nI sz)], ia G ck 6 fk, ia G cl 6 fl, ia G ce 6 fe, ob fo 2 (mf fh s), ia G fh 4 (fN (sh 7 s))]) (wr := [ob x 6 [.ref w, .ref kw, .int (nI ik), .ref tp, .ref sx, .ref fo, .ref gu, .ref ch], ob w 5 [.ref now, .ref cr, .ref past, .int (nI o), .int (nI u)], ob cr 1 [.ref ck, .ref cl, .ref ce, .int (nI sz)], ia G ck 6 fk, ia G cl 6 fl, ia G ce 6 fe]) [8, 9, 2, 3] [0, 1, 4, 5, 6, 7] [0, 1, 8, 9, 2, 3, 4, 5, 6, 7] ⟨rfl, rfl, rfl, fun _ => rfl⟩ 0 rfl rfl rfl rfl ⟨Nat.le_refl _, Nat.le_refl _⟩ dX6_bears_30 rfl (fun  u30 hw30 => ?_)
          refine z_aload_n hX 0 dX6_bears_33 rfl ?_
          refine z_get (v := .ref fo) hX fX6 0 5 rfl rfl (Nat.le_of_ble_eq_true rfl) fl_X6_40 rfl dX6_bears_34 ?_
          refine z_iload_n hX 2 dX6_bears_37 rfl ?_
          refine z_callVv (st := []) hX (c_X2_loseAll _ G fo fh s v h0.2.2.2.2.2.1 (by omega)) lb_X2_loseAll ml_X6_181 (fun (_u : Unit) => [ob x 6 [.ref w, .ref kw, .int (nI ik), .ref tp, .ref sx, .ref fo, .ref gu, .ref ch], ob w 5 [.ref now, .ref cr, .ref past, .int (nI o), .int (nI u)], ob now 2 (mf nh s), ia G nh 4 (fN (sh 7 s)), ob cr 1 [.ref ck, .ref cl, .ref ce, .int (nI sz)], ia G ck 6 fk, ia G cl 6 fl, ia G ce 6 fe, ob fo 2 (mf fh (floodS v s)), ia G fh 4 (fN (sh 7 (floodS v s)))]) (wr := [ob x 6 [.ref w, .ref kw, .int (nI ik), .ref tp, .ref sx, .ref fo, .ref gu, .ref ch], ob w 5 [.ref now, .ref cr, .ref past, .int (nI o), .int (nI u)], ob now 2 (mf nh s), ia G nh 4 (fN (sh 7 s)), ob cr 1 [.ref ck, .ref cl, .ref ce, .int (nI sz)], ia G ck 6 fk, ia G cl 6 fl, ia G ce 6 fe]) [8, 9] [0, 1, 2, 3, 4, 5, 6, 7] [0, 1, 2, 3, 4, 5, 6, 7, 8, 9] ⟨rfl, rfl, rfl, fun _ => rfl⟩ 0 rfl rfl rfl rfl ⟨Nat.le_refl _, Nat.le_refl _⟩ dX6_bears_38 rfl (fun  u38 hw38 => ?_)
          refine z_aload_n hX 0 dX6_bears_41 rfl ?_
          refine z_iload_n hX 1 dX6_bears_42 rfl ?_
          refine z_callVi (st := []) hX (c_X6_nobodyFalls _ G x w kw ik tp sx fo gu ch now nh cr past o u ck cl ce sz fk fl fe fh (floodS v s) 9999 nnj (CR_keep h1 rfl (fun j9 h9 => floodS_lo v s (by omega))) hz (WF_flood h0 v) (by omega) (by omega)) lb_X6_nobodyFalls ml_X6_229 (fun (_u : nst) => [ob x 6 [.ref w, .ref kw, .int (nI ik), .ref tp, .ref sx, .ref fo, .ref gu, .ref ch], ob w 5 [.ref now, .ref cr, .ref past, .int (nI o), .int (nI u)], ob now 2 (mf nh s), ia G nh 4 (fN (sh 7 s)), ob cr 1 [.ref ck, .ref cl, .ref ce, .int (nI sz)], ia G ck 6 fk, ia G cl 6 fl, ia G ce 6 fe, ob fo 2 (mf fh _u), ia G fh 4 (fN (sh 7 _u))]) (wr := [ob now 2 (mf nh s), ia G nh 4 (fN (sh 7 s))]) [0, 1, 4, 5, 6, 7, 8, 9] [2, 3] [2, 3, 0, 1, 4, 5, 6, 7, 8, 9] ⟨rfl, rfl, rfl, fun _ => rfl⟩ 0 rfl rfl rfl rfl ⟨Nat.le_refl _, Nat.le_refl _⟩ dX6_bears_43 rfl (fun r43 u43 hw43 => ?_)
          obtain ⟨t2_1, rfl⟩ : ∃ z9, z9 = u43 := ⟨_, rfl⟩
          try dsimp only at hw43
          rcases Classical.em (goN nnj (floodS v s) 5 = (floodS v s) 5) with b43 | b43
          · obtain rfl := hw43.1 b43
            have b44 : goN nnj (floodS v s) 5 = s 5 := b43
            refine zn_if_eq (tgt := 51) hX dX6_bears_46 (by decide) (by omega) (fun c46 => absurd c46 (by omega)) (fun _ => ?_)
            refine z_iload_n hX 2 dX6_bears_49 rfl ?_
            exact hR _ t2_1 _ _ (by unfold spBears; rw [if_pos (inb_t (by omega) (by omega) (by omega)), gN_nI (by omega)]; rw [← hf, bearTo, if_pos b44]) dX6_bears_50 rfl
          · obtain rfl := hw43.2 b43
            have b44 : ¬ goN nnj (floodS v s) 5 = s 5 := b43
            refine zn_if_eq (tgt := 51) hX dX6_bears_46 (by decide) (by omega) (fun _ => ?_) (fun c46 => absurd c46 (by omega))
            refine z_iinc (v := (ln v)) (L' := [(2, .int (ln v)), (0, .ref x), (1, .int (nI nnj))]) hX 2 dX6_bears_51 rfl (ln_dec _) (Nat.le_of_ble_eq_true rfl) rfl ?_
            refine z_goto (tgt := 15) hX dX6_bears_54 (by decide) ?_
            refine z_lsub [1, 2, 0] rfl ?_
            exact ih15 v t2_1 (by omega) (by omega) (by rw [← hf, bearTo, if_neg b44])
    refine z_lsub [1, 2, 0] rfl ?_
    exact lp15 42 41 t (by omega) (by omega) rfl
  · have hb_nn : inb nn 1 40 = false := hw4
    refine zn_if_ne (tgt := 12) hX dX6_bears_7 (by decide) (by omega) (fun c7 => absurd c7 (by omega)) (fun _ => ?_)
    refine z_iconst (v := (-1)) hX dX6_bears_10 (by decide) ?_
    exact hR _ t _ _ (by unfold spBears; rw [if_neg (by simp [hb_nn])]) dX6_bears_11 rfl
set_option maxRecDepth 100000 in
set_option maxHeartbeats 4000000 in
theorem c_X6_chance (l : Launch) (G : zG) (set : Nat) (c : Nat) (h0 : set < 16) (h1 : c ≤ 10) : zMi l G yX6_chance cX6_chance 4 .int 1 0 0 21 [.int (nI set), .int (nI c)] [] (fun (r : Int32) (_u : Unit) => r = nI (partN c set 4)) (fun (_u : Unit) => []) := by
  refine zMi.of (by decide) rfl (fun X A H0 hX hXl hR => ?_)
  show Z (X, G, A, H0, 4) 0 0 [] 0 [(0, .int (nI set)), (1, .int (nI c))] []
  subst hXl
  refine z_iconst (v := nI 1) hX dX6_chance_0 (by decide) ?_
  refine z_istore_n (L' := [(2, .int (nI 1)), (0, .int (nI set)), (1, .int (nI c))]) hX dX6_chance_1 (Nat.le_of_ble_eq_true rfl) rfl ?_
  refine z_iconst (v := nI 0) hX dX6_chance_2 (by decide) ?_
  refine z_istore_n (L' := [(3, .int (nI 0)), (2, .int (nI 1)), (0, .int (nI set)), (1, .int (nI c))]) hX dX6_chance_3 (Nat.le_of_ble_eq_true rfl) rfl ?_
  have lp4 : ∀ (n4 : Nat) (j : Nat) (p : Nat), (4 + 1 ≤ j + n4) → (j ≤ 4) → (p = partN c set j) → Z (X, G, A, H0, 4) 0 0 [] 4 [(0, .int (nI set)), (1, .int (nI c)), (2, .int (nI p)), (3, .int (nI j))] [] := by
    intro n4
    induction n4 with
    | zero =>
      intro j p hn hj hp
      exfalso
      omega
    | succ n4 ih4 =>
      intro j p hn hj hp
      refine z_iload_n hX 3 dX6_chance_4 rfl ?_
      refine z_iconst (v := nI 4) hX dX6_chance_5 (by decide) ?_
      refine zn_icmp_ge (tgt := 34) hX dX6_chance_6 (by decide) (by omega) (by omega) (fun c6 => ?_) (fun c6 => ?_)
      · skip
        refine z_iload_n hX 2 dX6_chance_34 rfl ?_
        have ej : j = 4 := by omega
        subst ej
        rw [hp]
        exact hR _ () _ _ rfl dX6_chance_35 rfl
      · skip
        refine z_iload_n hX 2 dX6_chance_9 rfl ?_
        refine z_iload_n hX 3 dX6_chance_10 rfl ?_
        refine z_iload_n hX 0 dX6_chance_11 rfl ?_
        refine z_callSi (st := [.int (nI p)]) hX (c_X6_isIn _ G j set (by omega) (by omega)) lb_X6_isIn ml_X6_210 (fun (_u : Unit) => []) (wr := []) [] [] [] ⟨rfl, rfl, rfl, fun _ => rfl⟩ rfl rfl ⟨Nat.le_refl _, Nat.le_refl _⟩ dX6_chance_12 rfl (fun r12 u12 hw12 => ?_)
        try dsimp only at hw12
        rcases Classical.em (set / 2 ^ j % 2 = 1) with b12 | b12
        · obtain rfl := hw12.1 b12
          refine zn_if_eq (tgt := 22) hX dX6_chance_15 (by decide) (by omega) (fun c15 => absurd c15 (by omega)) (fun _ => ?_)
          refine z_iload_n hX 1 dX6_chance_18 rfl ?_
          refine z_goto (tgt := 26) hX dX6_chance_19 (by decide) ?_
          refine z_imul (v := (nI (p * c))) hX dX6_chance_26 (pk_mul _ _) ?_
          refine z_istore_n (L' := [(2, .int (nI (p * c))), (0, .int (nI set)), (1, .int (nI c)), (3, .int (nI j))]) hX dX6_chance_27 (Nat.le_of_ble_eq_true rfl) rfl ?_
          refine z_iinc (v := (nI (j + 1))) (L' := [(3, .int (nI (j + 1))), (2, .int (nI (p * c))), (0, .int (nI set)), (1, .int (nI c))]) hX 3 dX6_chance_28 rfl (nI_inc _) (Nat.le_of_ble_eq_true rfl) rfl ?_
          refine z_goto (tgt := 4) hX dX6_chance_31 (by decide) ?_
          refine z_lsub [2, 3, 1, 0] rfl ?_
          exact ih4 (j + 1) (p * c) (by omega) (by omega) (by rw [partN, if_pos b12, ← hp])
        · obtain rfl := hw12.2 b12
          refine zn_if_eq (tgt := 22) hX dX6_chance_15 (by decide) (by omega) (fun _ => ?_) (fun c15 => absurd c15 (by omega))
          refine z_bipush (v := nI 10) hX dX6_chance_22 (by decide) ?_
          refine z_iload_n hX 1 dX6_chance_24 rfl ?_
          refine z_isub (v := (nI (10 - c))) hX dX6_chance_25 (pk_sub (by omega)) ?_
          refine z_imul (v := (nI (p * (10 - c)))) hX dX6_chance_26 ((pk_mul _ _).trans (congrArg nI (by omega))) ?_
          refine z_istore_n (L' := [(2, .int (nI (p * (10 - c)))), (0, .int (nI set)), (1, .int (nI c)), (3, .int (nI j))]) hX dX6_chance_27 (Nat.le_of_ble_eq_true rfl) rfl ?_
          refine z_iinc (v := (nI (j + 1))) (L' := [(3, .int (nI (j + 1))), (2, .int (nI (p * (10 - c)))), (0, .int (nI set)), (1, .int (nI c))]) hX 3 dX6_chance_28 rfl (nI_inc _) (Nat.le_of_ble_eq_true rfl) rfl ?_
          refine z_goto (tgt := 4) hX dX6_chance_31 (by decide) ?_
          refine z_lsub [2, 3, 1, 0] rfl ?_
          exact ih4 (j + 1) (p * (10 - c)) (by omega) (by omega) (by rw [partN, if_neg b12, ← hp])
  refine z_lsub [2, 3, 1, 0] rfl ?_
  exact lp4 5 0 1 (by omega) (by omega) rfl
set_option maxRecDepth 100000 in
set_option maxHeartbeats 4000000 in
theorem c_X6_isDryAfter (l : Launch) (G : zG) (x : Nat) (w : Nat) (kw : Nat) (ik : Nat) (tp : Nat) (sx : Nat) (fo : Nat) (gu : Nat) (ch : Nat) (now : Nat) (nh : Nat) (cr : Nat) (past : Nat) (o : Nat) (u : Nat) (s : nst) (ck : Nat) (cl : Nat) (ce : Nat) (sz : Nat) (fk : Nat → Int32) (fl : Nat → Int32) (fe : Nat → Int32) (fh : Nat) (t : nst) (set : Nat) (h0 : WF 9999 0 s) (h1 : CR s fk fl fe) (h2 : sz = s 0) (h3 : set < 16) : zMi l G yX6_isDryAfter cX6_isDryAfter 3 .boolean 4 0 0 94 [.ref x, .int (nI set)] [ob x 6 [.ref w, .ref kw, .int (nI ik), .ref tp, .ref sx, .ref fo, .ref gu, .ref ch], ob w 5 [.ref now, .ref cr, .ref past, .int (nI o), .int (nI u)], ob now 2 (mf nh s), ia G nh 4 (fN (sh 7 s)), ob cr 1 [.ref ck, .ref cl, .ref ce, .int (nI sz)], ia G ck 6 fk, ia G cl 6 fl, ia G ce 6 fe, ob fo 2 (mf fh t), ia G fh 4 (fN (sh 7 t))] (fun (r : Int32) (_u : nst) => zb (goFall (dryS s set 4) = 0) r) (fun (_u : nst) => [ob x 6 [.ref w, .ref kw, .int (nI ik), .ref tp, .ref sx, .ref fo, .ref gu, .ref ch], ob w 5 [.ref now, .ref cr, .ref past, .int (nI o), .int (nI u)], ob now 2 (mf nh s), ia G nh 4 (fN (sh 7 s)), ob cr 1 [.ref ck, .ref cl, .ref ce, .int (nI sz)], ia G ck 6 fk, ia G cl 6 fl, ia G ce 6 fe, ob fo 2 (mf fh _u), ia G fh 4 (fN (sh 7 _u))]) := by
  refine zMi.of (by decide) rfl (fun X A H0 hX hXl hR => ?_)
  show Z (X, G, A, H0, 3) 0 0 [ob x 6 [.ref w, .ref kw, .int (nI ik), .ref tp, .ref sx, .ref fo, .ref gu, .ref ch], ob w 5 [.ref now, .ref cr, .ref past, .int (nI o), .int (nI u)], ob now 2 (mf nh s), ia G nh 4 (fN (sh 7 s)), ob cr 1 [.ref ck, .ref cl, .ref ce, .int (nI sz)], ia G ck 6 fk, ia G cl 6 fl, ia G ce 6 fe, ob fo 2 (mf fh t), ia G fh 4 (fN (sh 7 t))] 0 [(0, .ref x), (1, .int (nI set))] []
  subst hXl
  refine z_aload_n hX 0 dX6_isDryAfter_0 rfl ?_
  refine z_get (v := .ref fo) hX fX6 0 5 rfl rfl (Nat.le_of_ble_eq_true rfl) fl_X6_40 rfl dX6_isDryAfter_1 ?_
  refine z_aload_n hX 0 dX6_isDryAfter_4 rfl ?_
  refine z_get (v := .ref w) hX fX6 0 0 rfl rfl (Nat.le_of_ble_eq_true rfl) fl_X6_10 rfl dX6_isDryAfter_5 ?_
  refine z_get (v := .ref now) hX fX5 1 0 rfl rfl (Nat.le_of_ble_eq_true rfl) fl_X6_88 rfl dX6_isDryAfter_8 ?_
  refine z_callVv (st := []) hX (c_X2_take _ G fo fh t now nh s ) lb_X2_take ml_X6_206 (fun (_u : Unit) => [ob x 6 [.ref w, .ref kw, .int (nI ik), .ref tp, .ref sx, .ref fo, .ref gu, .ref ch], ob w 5 [.ref now, .ref cr, .ref past, .int (nI o), .int (nI u)], ob now 2 (mf nh s), ia G nh 4 (fN (sh 7 s)), ob cr 1 [.ref ck, .ref cl, .ref ce, .int (nI sz)], ia G ck 6 fk, ia G cl 6 fl, ia G ce 6 fe, ob fo 2 (mf fh s), ia G fh 4 (fN (sh 7 s))]) (wr := [ob x 6 [.ref w, .ref kw, .int (nI ik), .ref tp, .ref sx, .ref fo, .ref gu, .ref ch], ob w 5 [.ref now, .ref cr, .ref past, .int (nI o), .int (nI u)], ob cr 1 [.ref ck, .ref cl, .ref ce, .int (nI sz)], ia G ck 6 fk, ia G cl 6 fl, ia G ce 6 fe]) [8, 9, 2, 3] [0, 1, 4, 5, 6, 7] [0, 1, 8, 9, 2, 3, 4, 5, 6, 7] ⟨rfl, rfl, rfl, fun _ => rfl⟩ 0 rfl rfl rfl rfl ⟨Nat.le_refl _, Nat.le_refl _⟩ dX6_isDryAfter_11 rfl (fun  u11 hw11 => ?_)
  refine z_iconst (v := nI 0) hX dX6_isDryAfter_14 (by decide) ?_
  refine z_istore_n (L' := [(2, .int (nI 0)), (0, .ref x), (1, .int (nI set))]) hX dX6_isDryAfter_15 (Nat.le_of_ble_eq_true rfl) rfl ?_
  have lp16 : ∀ (n16 : Nat) (j : Nat) (uu : nst), (4 + 1 ≤ j + n16) → (j ≤ 4) → (uu = dryS s set j) → Z (X, G, A, H0, 3) 0 0 [ob x 6 [.ref w, .ref kw, .int (nI ik), .ref tp, .ref sx, .ref fo, .ref gu, .ref ch], ob w 5 [.ref now, .ref cr, .ref past, .int (nI o), .int (nI u)], ob now 2 (mf nh s), ia G nh 4 (fN (sh 7 s)), ob cr 1 [.ref ck, .ref cl, .ref ce, .int (nI sz)], ia G ck 6 fk, ia G cl 6 fl, ia G ce 6 fe, ob fo 2 (mf fh uu), ia G fh 4 (fN (sh 7 uu))] 16 [(0, .ref x), (1, .int (nI set)), (2, .int (nI j))] [] := by
    intro n16
    induction n16 with
    | zero =>
      intro j uu hn hj hu
      exfalso
      omega
    | succ n16 ih16 =>
      intro j uu hn hj hu
      refine z_iload_n hX 2 dX6_isDryAfter_16 rfl ?_
      refine z_iconst (v := nI 4) hX dX6_isDryAfter_17 (by decide) ?_
      refine zn_icmp_ge (tgt := 44) hX dX6_isDryAfter_18 (by decide) (by omega) (by omega) (fun c18 => ?_) (fun c18 => ?_)
      · skip
        have ej : j = 4 := by omega
        subst ej
        subst hu
        have hz : sz = dryS s set 4 0 := by rw [dryS_lo s set (by omega) 4 (by omega)]; exact h2
        refine z_aload_n hX 0 dX6_isDryAfter_44 rfl ?_
        refine z_iconst (v := nI 1) hX dX6_isDryAfter_45 (by decide) ?_
        refine z_callVi (st := []) hX (c_X6_nobodyFalls _ G x w kw ik tp sx fo gu ch now nh cr past o u ck cl ce sz fk fl fe fh (dryS s set 4) 9999 1 (CR_keep h1 (dryS_lo s set (by omega) 4 (by omega)) (fun j9 h9 => dryS_lo s set (by omega) 4 (by omega))) hz (WF_dry h0 set) (by omega) (by omega)) lb_X6_nobodyFalls ml_X6_229 (fun (_u : nst) => [ob x 6 [.ref w, .ref kw, .int (nI ik), .ref tp, .ref sx, .ref fo, .ref gu, .ref ch], ob w 5 [.ref now, .ref cr, .ref past, .int (nI o), .int (nI u)], ob now 2 (mf nh s), ia G nh 4 (fN (sh 7 s)), ob cr 1 [.ref ck, .ref cl, .ref ce, .int (nI sz)], ia G ck 6 fk, ia G cl 6 fl, ia G ce 6 fe, ob fo 2 (mf fh _u), ia G fh 4 (fN (sh 7 _u))]) (wr := [ob now 2 (mf nh s), ia G nh 4 (fN (sh 7 s))]) [0, 1, 4, 5, 6, 7, 8, 9] [2, 3] [2, 3, 0, 1, 4, 5, 6, 7, 8, 9] ⟨rfl, rfl, rfl, fun _ => rfl⟩ 0 rfl rfl rfl rfl ⟨Nat.le_refl _, Nat.le_refl _⟩ dX6_isDryAfter_46 rfl (fun r46 u46 hw46 => ?_)
        obtain ⟨t2_1, rfl⟩ : ∃ z9, z9 = u46 := ⟨_, rfl⟩
        try dsimp only at hw46
        rcases Classical.em (goN 1 (dryS s set 4) 5 = (dryS s set 4) 5) with b46 | b46
        · obtain rfl := hw46.1 b46
          exact hR _ t2_1 _ _ ⟨fun _ => rfl, fun hz9 => absurd ((goBy_none _).mpr b46) hz9⟩ dX6_isDryAfter_49 rfl
        · obtain rfl := hw46.2 b46
          exact hR _ t2_1 _ _ ⟨fun hz9 => absurd ((goBy_none _).mp hz9) b46, fun _ => rfl⟩ dX6_isDryAfter_49 rfl
      · skip
        refine z_iload_n hX 2 dX6_isDryAfter_21 rfl ?_
        refine z_iload_n hX 1 dX6_isDryAfter_22 rfl ?_
        refine z_callSi (st := []) hX (c_X6_isIn _ G j set (by omega) (by omega)) lb_X6_isIn ml_X6_210 (fun (_u : Unit) => [ob x 6 [.ref w, .ref kw, .int (nI ik), .ref tp, .ref sx, .ref fo, .ref gu, .ref ch], ob w 5 [.ref now, .ref cr, .ref past, .int (nI o), .int (nI u)], ob now 2 (mf nh s), ia G nh 4 (fN (sh 7 s)), ob cr 1 [.ref ck, .ref cl, .ref ce, .int (nI sz)], ia G ck 6 fk, ia G cl 6 fl, ia G ce 6 fe, ob fo 2 (mf fh uu), ia G fh 4 (fN (sh 7 uu))]) (wr := [ob x 6 [.ref w, .ref kw, .int (nI ik), .ref tp, .ref sx, .ref fo, .ref gu, .ref ch], ob w 5 [.ref now, .ref cr, .ref past, .int (nI o), .int (nI u)], ob now 2 (mf nh s), ia G nh 4 (fN (sh 7 s)), ob cr 1 [.ref ck, .ref cl, .ref ce, .int (nI sz)], ia G ck 6 fk, ia G cl 6 fl, ia G ce 6 fe, ob fo 2 (mf fh uu), ia G fh 4 (fN (sh 7 uu))]) [] [0, 1, 2, 3, 4, 5, 6, 7, 8, 9] [0, 1, 2, 3, 4, 5, 6, 7, 8, 9] ⟨rfl, rfl, rfl, fun _ => rfl⟩ rfl rfl ⟨Nat.le_refl _, Nat.le_refl _⟩ dX6_isDryAfter_23 rfl (fun r23 u23 hw23 => ?_)
        try dsimp only at hw23
        rcases Classical.em (set / 2 ^ j % 2 = 1) with b23 | b23
        · obtain rfl := hw23.1 b23
          refine zn_if_eq (tgt := 38) hX dX6_isDryAfter_26 (by decide) (by omega) (fun c26 => absurd c26 (by omega)) (fun _ => ?_)
          refine z_aload_n hX 0 dX6_isDryAfter_29 rfl ?_
          refine z_get (v := .ref fo) hX fX6 0 5 rfl rfl (Nat.le_of_ble_eq_true rfl) fl_X6_40 rfl dX6_isDryAfter_30 ?_
          refine z_iload_n hX 2 dX6_isDryAfter_33 rfl ?_
          refine z_iconst (v := nI 5) hX dX6_isDryAfter_34 (by decide) ?_
          refine z_callVv (st := []) hX (c_X2_lose _ G fo fh uu j 5 (by omega) (by rw [hu]; exact dryS_hi s set h0.2.2.2.2.2.1 j j (by omega)) (by omega)) lb_X2_lose ml_X6_247 (fun (_u : Unit) => [ob x 6 [.ref w, .ref kw, .int (nI ik), .ref tp, .ref sx, .ref fo, .ref gu, .ref ch], ob w 5 [.ref now, .ref cr, .ref past, .int (nI o), .int (nI u)], ob now 2 (mf nh s), ia G nh 4 (fN (sh 7 s)), ob cr 1 [.ref ck, .ref cl, .ref ce, .int (nI sz)], ia G ck 6 fk, ia G cl 6 fl, ia G ce 6 fe, ob fo 2 (mf fh (va_up uu (7 + j) (uu (7 + j) - 5))), ia G fh 4 (fN (sh 7 (va_up uu (7 + j) (uu (7 + j) - 5))))]) (wr := [ob x 6 [.ref w, .ref kw, .int (nI ik), .ref tp, .ref sx, .ref fo, .ref gu, .ref ch], ob w 5 [.ref now, .ref cr, .ref past, .int (nI o), .int (nI u)], ob now 2 (mf nh s), ia G nh 4 (fN (sh 7 s)), ob cr 1 [.ref ck, .ref cl, .ref ce, .int (nI sz)], ia G ck 6 fk, ia G cl 6 fl, ia G ce 6 fe]) [8, 9] [0, 1, 2, 3, 4, 5, 6, 7] [0, 1, 2, 3, 4, 5, 6, 7, 8, 9] ⟨rfl, rfl, rfl, fun _ => rfl⟩ 0 rfl rfl rfl rfl ⟨Nat.le_refl _, Nat.le_refl _⟩ dX6_isDryAfter_35 rfl (fun  u35 hw35 => ?_)
          refine z_iinc (v := (nI (j + 1))) (L' := [(2, .int (nI (j + 1))), (0, .ref x), (1, .int (nI set))]) hX 2 dX6_isDryAfter_38 rfl (nI_inc _) (Nat.le_of_ble_eq_true rfl) rfl ?_
          refine z_goto (tgt := 16) hX dX6_isDryAfter_41 (by decide) ?_
          refine z_lsub [1, 2, 0] rfl ?_
          exact ih16 (j + 1) (va_up uu (7 + j) (uu (7 + j) - 5)) (by omega) (by omega) (by rw [dryS, if_pos b23, ← hu])
        · obtain rfl := hw23.2 b23
          refine zn_if_eq (tgt := 38) hX dX6_isDryAfter_26 (by decide) (by omega) (fun _ => ?_) (fun c26 => absurd c26 (by omega))
          refine z_iinc (v := (nI (j + 1))) (L' := [(2, .int (nI (j + 1))), (0, .ref x), (1, .int (nI set))]) hX 2 dX6_isDryAfter_38 rfl (nI_inc _) (Nat.le_of_ble_eq_true rfl) rfl ?_
          refine z_goto (tgt := 16) hX dX6_isDryAfter_41 (by decide) ?_
          refine z_lsub [1, 2, 0] rfl ?_
          exact ih16 (j + 1) uu (by omega) (by omega) (by rw [dryS, if_neg b23, ← hu])
  refine z_lsub [1, 2, 0] rfl ?_
  exact lp16 5 0 s (by omega) (by omega) rfl
set_option maxRecDepth 100000 in
set_option maxHeartbeats 4000000 in
theorem c_X6_commonDivisor (l : Launch) (G : zG) (a : Nat) (b : Nat) (h0 : a ≤ b) (h1 : b ≤ 10000) : zMi l G yX6_commonDivisor cX6_commonDivisor 6 .int 0 0 0 0 [.int (nI a), .int (nI b)] [] (fun (r : Int32) (_u : Unit) => r = nI (Nat.gcd a b)) (fun (_u : Unit) => []) := by
  refine zMi.of (by decide) rfl (fun X A H0 hX hXl hR => ?_)
  show Z (X, G, A, H0, 6) 0 0 [] 0 [(0, .int (nI a)), (1, .int (nI b))] []
  subst hXl
  have hp0 : b * a < 2 ^ (100 - 0) := by
    have h9 : b * a ≤ 10000 * 10000 := Nat.mul_le_mul h1 (by omega)
    have h8 : (10000 : Nat) * 10000 < 2 ^ (100 - 0) := by decide
    omega
  refine z_iload_n hX 1 dX6_commonDivisor_0 rfl ?_
  refine z_istore_n (L' := [(2, .int (nI b)), (0, .int (nI a)), (1, .int (nI b))]) hX dX6_commonDivisor_1 (Nat.le_of_ble_eq_true rfl) rfl ?_
  refine z_iload_n hX 1 dX6_commonDivisor_2 rfl ?_
  refine z_istore_n (L' := [(3, .int (nI a)), (2, .int (nI b)), (0, .int (nI a)), (1, .int (nI b))]) hX dX6_commonDivisor_3 (Nat.le_of_ble_eq_true rfl) rfl ?_
  refine z_iconst (v := nI 0) hX dX6_commonDivisor_4 (by decide) ?_
  refine z_istore (L' := [(4, .int (nI 0)), (3, .int (nI a)), (2, .int (nI b)), (0, .int (nI a)), (1, .int (nI b))]) hX dX6_commonDivisor_5 (Nat.le_of_ble_eq_true rfl) rfl ?_
  have lp7 : ∀ (n7 : Nat) (k : Nat) (bg : Nat) (sm : Nat), (100 + 1 ≤ k + n7) → (k ≤ 100) → (Nat.gcd sm bg = Nat.gcd a b) → (sm ≤ bg) → (bg ≤ 10000) → (bg * sm < 2 ^ (100 - k)) → Z (X, G, A, H0, 6) 0 0 [] 7 [(0, .int (nI a)), (1, .int (nI b)), (2, .int (nI bg)), (3, .int (nI sm)), (4, .int (nI k))] [] := by
    intro n7
    induction n7 with
    | zero =>
      intro k bg sm hn hk hg hl hb hp
      exfalso
      omega
    | succ n7 ih7 =>
      intro k bg sm hn hk hg hl hb hp
      refine z_iload hX 4 dX6_commonDivisor_7 rfl ?_
      refine z_bipush (v := nI 100) hX dX6_commonDivisor_9 (by decide) ?_
      refine zn_icmp_ge (tgt := 34) hX dX6_commonDivisor_11 (by decide) (by omega) (by omega) (fun c11 => ?_) (fun c11 => ?_)
      · skip
        refine z_iload_n hX 2 dX6_commonDivisor_34 rfl ?_
        have es : sm = 0 := by first | exact c15 | exact eu_end hl (by rw [show 100 - k = 0 by omega] at hp; exact hp)
        subst es
        rw [Nat.gcd_zero_left] at hg
        subst hg
        exact hR _ () _ _ rfl dX6_commonDivisor_35 rfl
      · skip
        refine z_iload_n hX 3 dX6_commonDivisor_14 rfl ?_
        refine zn_if_eq (tgt := 34) hX dX6_commonDivisor_15 (by decide) (by omega) (fun c15 => ?_) (fun c15 => ?_)
        · skip
          refine z_iload_n hX 2 dX6_commonDivisor_34 rfl ?_
          have es : sm = 0 := by first | exact c15 | exact eu_end hl (by rw [show 100 - k = 0 by omega] at hp; exact hp)
          subst es
          rw [Nat.gcd_zero_left] at hg
          subst hg
          exact hR _ () _ _ rfl dX6_commonDivisor_35 rfl
        · skip
          have hp2 := hp
          rw [show 100 - k = (99 - k) + 1 by omega] at hp2
          have e9 := eu c15 hl hp2
          have hg2 : Nat.gcd (bg % sm) sm = Nat.gcd a b := by rw [← Nat.gcd_rec]; exact hg
          refine z_iload_n hX 2 dX6_commonDivisor_18 rfl ?_
          refine z_iload_n hX 3 dX6_commonDivisor_19 rfl ?_
          refine z_irem (v := (nI (bg % sm))) hX dX6_commonDivisor_20 (nI_ne0 (by omega) (by omega)) (pk_rem (by omega) (by omega) (by omega)) ?_
          refine z_istore (L' := [(5, .int (nI (bg % sm))), (0, .int (nI a)), (1, .int (nI b)), (2, .int (nI bg)), (3, .int (nI sm)), (4, .int (nI k))]) hX dX6_commonDivisor_21 (Nat.le_of_ble_eq_true rfl) rfl ?_
          refine z_iload_n hX 4 dX6_commonDivisor_23 rfl ?_
          refine z_istore_n (L' := [(2, .int (nI sm)), (5, .int (nI (bg % sm))), (0, .int (nI a)), (1, .int (nI b)), (3, .int (nI sm)), (4, .int (nI k))]) hX dX6_commonDivisor_24 (Nat.le_of_ble_eq_true rfl) rfl ?_
          refine z_iload hX 1 dX6_commonDivisor_25 rfl ?_
          refine z_istore_n (L' := [(3, .int (nI (bg % sm))), (2, .int (nI sm)), (5, .int (nI (bg % sm))), (0, .int (nI a)), (1, .int (nI b)), (4, .int (nI k))]) hX dX6_commonDivisor_27 (Nat.le_of_ble_eq_true rfl) rfl ?_
          refine z_iinc (v := (nI (k + 1))) (L' := [(4, .int (nI (k + 1))), (3, .int (nI (bg % sm))), (2, .int (nI sm)), (5, .int (nI (bg % sm))), (0, .int (nI a)), (1, .int (nI b))]) hX 5 dX6_commonDivisor_28 rfl (nI_inc _) (Nat.le_of_ble_eq_true rfl) rfl ?_
          refine z_goto (tgt := 7) hX dX6_commonDivisor_31 (by decide) ?_
          refine z_lsub [4, 5, 2, 1, 0] rfl ?_
          exact ih7 (k + 1) sm (bg % sm) (by omega) (by omega) hg2 e9.1 (by omega) (by rw [show 100 - (k + 1) = 99 - k by omega]; exact e9.2)
  refine z_lsub [3, 4, 2, 1, 0] rfl ?_
  exact lp7 101 0 b a (by omega) (by omega) rfl (by omega) (by omega) hp0
set_option maxRecDepth 100000 in
set_option maxHeartbeats 4000000 in
theorem c_X6_floods (l : Launch) (G : zG) (x : Nat) (w : Nat) (kw : Nat) (ik : Nat) (tp : Nat) (sx : Nat) (fo : Nat) (gu : Nat) (ch : Nat) (now : Nat) (nh : Nat) (cr : Nat) (past : Nat) (o : Nat) (u : Nat) (s : nst) (ck : Nat) (cl : Nat) (ce : Nat) (sz : Nat) (fk : Nat → Int32) (fl : Nat → Int32) (fe : Nat → Int32) (fh : Nat) (t : nst) (cc : Int32) (wh : Int32) (h0 : WF 9999 0 s) (h1 : CR s fk fl fe) (h2 : sz = s 0) : zMi l G yX6_floods cX6_floods 7 .int 5 0 0 116 [.ref x, .int cc, .int wh] [ob x 6 [.ref w, .ref kw, .int (nI ik), .ref tp, .ref sx, .ref fo, .ref gu, .ref ch], ob w 5 [.ref now, .ref cr, .ref past, .int (nI o), .int (nI u)], ob now 2 (mf nh s), ia G nh 4 (fN (sh 7 s)), ob cr 1 [.ref ck, .ref cl, .ref ce, .int (nI sz)], ia G ck 6 fk, ia G cl 6 fl, ia G ce 6 fe, ob fo 2 (mf fh t), ia G fh 4 (fN (sh 7 t))] (fun (r : Int32) (_u : nst) => r = spFloods s cc wh) (fun (_u : nst) => [ob x 6 [.ref w, .ref kw, .int (nI ik), .ref tp, .ref sx, .ref fo, .ref gu, .ref ch], ob w 5 [.ref now, .ref cr, .ref past, .int (nI o), .int (nI u)], ob now 2 (mf nh s), ia G nh 4 (fN (sh 7 s)), ob cr 1 [.ref ck, .ref cl, .ref ce, .int (nI sz)], ia G ck 6 fk, ia G cl 6 fl, ia G ce 6 fe, ob fo 2 (mf fh _u), ia G fh 4 (fN (sh 7 _u))]) := by
  refine zMi.of (by decide) rfl (fun X A H0 hX hXl hR => ?_)
  show Z (X, G, A, H0, 7) 0 0 [ob x 6 [.ref w, .ref kw, .int (nI ik), .ref tp, .ref sx, .ref fo, .ref gu, .ref ch], ob w 5 [.ref now, .ref cr, .ref past, .int (nI o), .int (nI u)], ob now 2 (mf nh s), ia G nh 4 (fN (sh 7 s)), ob cr 1 [.ref ck, .ref cl, .ref ce, .int (nI sz)], ia G ck 6 fk, ia G cl 6 fl, ia G ce 6 fe, ob fo 2 (mf fh t), ia G fh 4 (fN (sh 7 t))] 0 [(0, .ref x), (1, .int cc), (2, .int wh)] []
  subst hXl
  have z0 := h0.1
  have z1 := h0.2.1
  have z2 := h0.2.2.1
  refine z_iload_n hX 1 dX6_floods_0 rfl ?_
  refine z_iconst (v := nI 0) hX dX6_floods_1 (by decide) ?_
  refine z_bipush (v := nI 10) hX dX6_floods_2 (by decide) ?_
  refine z_callSi (st := []) hX (c_X6_isWithinX _ G cc 0 10 (by omega) (by omega)) lb_X6_isWithin ml_X6_62 (fun (_u : Unit) => [ob x 6 [.ref w, .ref kw, .int (nI ik), .ref tp, .ref sx, .ref fo, .ref gu, .ref ch], ob w 5 [.ref now, .ref cr, .ref past, .int (nI o), .int (nI u)], ob now 2 (mf nh s), ia G nh 4 (fN (sh 7 s)), ob cr 1 [.ref ck, .ref cl, .ref ce, .int (nI sz)], ia G ck 6 fk, ia G cl 6 fl, ia G ce 6 fe, ob fo 2 (mf fh t), ia G fh 4 (fN (sh 7 t))]) (wr := [ob x 6 [.ref w, .ref kw, .int (nI ik), .ref tp, .ref sx, .ref fo, .ref gu, .ref ch], ob w 5 [.ref now, .ref cr, .ref past, .int (nI o), .int (nI u)], ob now 2 (mf nh s), ia G nh 4 (fN (sh 7 s)), ob cr 1 [.ref ck, .ref cl, .ref ce, .int (nI sz)], ia G ck 6 fk, ia G cl 6 fl, ia G ce 6 fe, ob fo 2 (mf fh t), ia G fh 4 (fN (sh 7 t))]) [] [0, 1, 2, 3, 4, 5, 6, 7, 8, 9] [0, 1, 2, 3, 4, 5, 6, 7, 8, 9] ⟨rfl, rfl, rfl, fun _ => rfl⟩ rfl rfl ⟨Nat.le_refl _, Nat.le_refl _⟩ dX6_floods_4 rfl (fun r4 u4 hw4 => ?_)
  try dsimp only at hw4
  rcases hw4 with ⟨ccj, hccl, hcch, rfl, rfl⟩ | ⟨hw4, rfl⟩
  · skip
    refine zn_if_eq (tgt := 18) hX dX6_floods_7 (by decide) (by omega) (fun c7 => absurd c7 (by omega)) (fun _ => ?_)
    refine z_iload_n hX 2 dX6_floods_10 rfl ?_
    refine z_iconst (v := nI 2) hX dX6_floods_11 (by decide) ?_
    refine z_callSi (st := []) hX (c_X6_isBelowX _ G wh 2 (by omega)) lb_X6_isBelow ml_X6_58 (fun (_u : Unit) => [ob x 6 [.ref w, .ref kw, .int (nI ik), .ref tp, .ref sx, .ref fo, .ref gu, .ref ch], ob w 5 [.ref now, .ref cr, .ref past, .int (nI o), .int (nI u)], ob now 2 (mf nh s), ia G nh 4 (fN (sh 7 s)), ob cr 1 [.ref ck, .ref cl, .ref ce, .int (nI sz)], ia G ck 6 fk, ia G cl 6 fl, ia G ce 6 fe, ob fo 2 (mf fh t), ia G fh 4 (fN (sh 7 t))]) (wr := [ob x 6 [.ref w, .ref kw, .int (nI ik), .ref tp, .ref sx, .ref fo, .ref gu, .ref ch], ob w 5 [.ref now, .ref cr, .ref past, .int (nI o), .int (nI u)], ob now 2 (mf nh s), ia G nh 4 (fN (sh 7 s)), ob cr 1 [.ref ck, .ref cl, .ref ce, .int (nI sz)], ia G ck 6 fk, ia G cl 6 fl, ia G ce 6 fe, ob fo 2 (mf fh t), ia G fh 4 (fN (sh 7 t))]) [] [0, 1, 2, 3, 4, 5, 6, 7, 8, 9] [0, 1, 2, 3, 4, 5, 6, 7, 8, 9] ⟨rfl, rfl, rfl, fun _ => rfl⟩ rfl rfl ⟨Nat.le_refl _, Nat.le_refl _⟩ dX6_floods_12 rfl (fun r12 u12 hw12 => ?_)
    try dsimp only at hw12
    rcases hw12 with ⟨whj, hwhh, rfl, rfl⟩ | ⟨hw12, rfl⟩
    · skip
      refine zn_if_ne (tgt := 20) hX dX6_floods_15 (by decide) (by omega) (fun _ => ?_) (fun c15 => absurd c15 (by omega))
      refine z_iconst (v := nI 0) hX dX6_floods_20 (by decide) ?_
      refine z_istore_n (L' := [(3, .int (nI 0)), (0, .ref x), (1, .int (nI ccj)), (2, .int (nI whj))]) hX dX6_floods_21 (Nat.le_of_ble_eq_true rfl) rfl ?_
      refine z_iconst (v := nI 0) hX dX6_floods_22 (by decide) ?_
      refine z_istore (L' := [(4, .int (nI 0)), (3, .int (nI 0)), (0, .ref x), (1, .int (nI ccj)), (2, .int (nI whj))]) hX dX6_floods_23 (Nat.le_of_ble_eq_true rfl) rfl ?_
      refine z_iconst (v := nI 0) hX dX6_floods_25 (by decide) ?_
      refine z_istore (L' := [(5, .int (nI 0)), (4, .int (nI 0)), (3, .int (nI 0)), (0, .ref x), (1, .int (nI ccj)), (2, .int (nI whj))]) hX dX6_floods_26 (Nat.le_of_ble_eq_true rfl) rfl ?_
      have lp28 : ∀ (n28 : Nat) (k : Nat) (ab : Nat) (be : Nat) (tt : nst), (16 + 1 ≤ k + n28) → (k ≤ 16) → (ab = aboveN s ccj k) → (be = belowN ccj k) → Z (X, G, A, H0, 7) 0 0 [ob x 6 [.ref w, .ref kw, .int (nI ik), .ref tp, .ref sx, .ref fo, .ref gu, .ref ch], ob w 5 [.ref now, .ref cr, .ref past, .int (nI o), .int (nI u)], ob now 2 (mf nh s), ia G nh 4 (fN (sh 7 s)), ob cr 1 [.ref ck, .ref cl, .ref ce, .int (nI sz)], ia G ck 6 fk, ia G cl 6 fl, ia G ce 6 fe, ob fo 2 (mf fh tt), ia G fh 4 (fN (sh 7 tt))] 28 [(0, .ref x), (1, .int (nI ccj)), (2, .int (nI whj)), (3, .int (nI ab)), (4, .int (nI be)), (5, .int (nI k))] [] := by
        intro n28
        induction n28 with
        | zero =>
          intro k ab be tt hn hk ha hbe
          exfalso
          omega
        | succ n28 ih28 =>
          intro k ab be tt hn hk ha hbe
          refine z_iload hX 5 dX6_floods_28 rfl ?_
          refine z_bipush (v := nI 16) hX dX6_floods_30 (by decide) ?_
          refine zn_icmp_ge (tgt := 70) hX dX6_floods_32 (by decide) (by omega) (by omega) (fun c32 => ?_) (fun c32 => ?_)
          · skip
            have ek : k = 16 := by omega
            subst ek
            have q1 := aboveN_le s ccj 16
            have q2 := belowN_16 ccj (by omega)
            have q3 : 0 < Nat.gcd ab be := Nat.gcd_pos_of_pos_right _ (by omega)
            have q4 : Nat.gcd ab be ≤ be := Nat.gcd_le_right _ (by omega)
            refine z_iload_n hX 3 dX6_floods_70 rfl ?_
            refine z_iload hX 4 dX6_floods_71 rfl ?_
            refine z_callSi (st := []) hX (c_X6_commonDivisor _ G ab be (by omega) (by omega)) lb_X6_commonDivisor ml_X6_238 (fun (_u : Unit) => [ob x 6 [.ref w, .ref kw, .int (nI ik), .ref tp, .ref sx, .ref fo, .ref gu, .ref ch], ob w 5 [.ref now, .ref cr, .ref past, .int (nI o), .int (nI u)], ob now 2 (mf nh s), ia G nh 4 (fN (sh 7 s)), ob cr 1 [.ref ck, .ref cl, .ref ce, .int (nI sz)], ia G ck 6 fk, ia G cl 6 fl, ia G ce 6 fe, ob fo 2 (mf fh tt), ia G fh 4 (fN (sh 7 tt))]) (wr := [ob x 6 [.ref w, .ref kw, .int (nI ik), .ref tp, .ref sx, .ref fo, .ref gu, .ref ch], ob w 5 [.ref now, .ref cr, .ref past, .int (nI o), .int (nI u)], ob now 2 (mf nh s), ia G nh 4 (fN (sh 7 s)), ob cr 1 [.ref ck, .ref cl, .ref ce, .int (nI sz)], ia G ck 6 fk, ia G cl 6 fl, ia G ce 6 fe, ob fo 2 (mf fh tt), ia G fh 4 (fN (sh 7 tt))]) [] [0, 1, 2, 3, 4, 5, 6, 7, 8, 9] [0, 1, 2, 3, 4, 5, 6, 7, 8, 9] ⟨rfl, rfl, rfl, fun _ => rfl⟩ rfl rfl ⟨Nat.le_refl _, Nat.le_refl _⟩ dX6_floods_73 rfl (fun r73 u73 hw73 => ?_)
            subst hw73
            refine z_istore (L' := [(5, .int (nI (Nat.gcd ab be))), (0, .ref x), (1, .int (nI ccj)), (2, .int (nI whj)), (3, .int (nI ab)), (4, .int (nI be))]) hX dX6_floods_76 (Nat.le_of_ble_eq_true rfl) rfl ?_
            refine z_iload hX 0 dX6_floods_78 rfl ?_
            refine z_iconst (v := nI 1) hX dX6_floods_80 (by decide) ?_
            refine zn_icmp_ge (tgt := 87) hX dX6_floods_81 (by decide) (by omega) (by omega) (fun c81 => ?_) (fun c81 => absurd c81 (by omega))
            refine z_iload_n hX 3 dX6_floods_87 rfl ?_
            refine zn_if_ne (tgt := 98) hX dX6_floods_88 (by decide) (by omega) (fun c88 => ?_) (fun c88 => ?_)
            · skip
              refine z_iload hX 5 dX6_floods_98 rfl ?_
              refine z_iload hX 0 dX6_floods_100 rfl ?_
              refine z_idiv (v := (nI (be / (Nat.gcd ab be)))) hX dX6_floods_102 (nI_ne0 (by omega) (by omega)) (pk_div (by omega) (by omega) (by omega)) ?_
              exact hR _ tt _ _ (by unfold spFloods; rw [if_pos (⟨inb_t (by omega) (by omega) (by omega), inb_t (by omega) (by omega) (by omega)⟩), gN_nI (by omega), gN_nI (by omega), ← ha, ← hbe]; first | exact (if_pos c88).symm | exact (if_neg c88).symm) dX6_floods_103 rfl
            · skip
              refine z_iload_n hX 4 dX6_floods_91 rfl ?_
              refine z_iload hX 0 dX6_floods_92 rfl ?_
              refine z_idiv (v := (nI (ab / (Nat.gcd ab be)))) hX dX6_floods_94 (nI_ne0 (by omega) (by omega)) (pk_div (by omega) (by omega) (by omega)) ?_
              refine z_goto (tgt := 103) hX dX6_floods_95 (by decide) ?_
              exact hR _ tt _ _ (by unfold spFloods; rw [if_pos (⟨inb_t (by omega) (by omega) (by omega), inb_t (by omega) (by omega) (by omega)⟩), gN_nI (by omega), gN_nI (by omega), ← ha, ← hbe]; first | exact (if_pos c88).symm | exact (if_neg c88).symm) dX6_floods_103 rfl
          · skip
            refine z_iload hX 5 dX6_floods_35 rfl ?_
            refine z_iload_n hX 1 dX6_floods_37 rfl ?_
            refine z_callSi (st := []) hX (c_X6_chance _ G k ccj (by omega) (by omega)) lb_X6_chance ml_X6_232 (fun (_u : Unit) => [ob x 6 [.ref w, .ref kw, .int (nI ik), .ref tp, .ref sx, .ref fo, .ref gu, .ref ch], ob w 5 [.ref now, .ref cr, .ref past, .int (nI o), .int (nI u)], ob now 2 (mf nh s), ia G nh 4 (fN (sh 7 s)), ob cr 1 [.ref ck, .ref cl, .ref ce, .int (nI sz)], ia G ck 6 fk, ia G cl 6 fl, ia G ce 6 fe, ob fo 2 (mf fh tt), ia G fh 4 (fN (sh 7 tt))]) (wr := [ob x 6 [.ref w, .ref kw, .int (nI ik), .ref tp, .ref sx, .ref fo, .ref gu, .ref ch], ob w 5 [.ref now, .ref cr, .ref past, .int (nI o), .int (nI u)], ob now 2 (mf nh s), ia G nh 4 (fN (sh 7 s)), ob cr 1 [.ref ck, .ref cl, .ref ce, .int (nI sz)], ia G ck 6 fk, ia G cl 6 fl, ia G ce 6 fe, ob fo 2 (mf fh tt), ia G fh 4 (fN (sh 7 tt))]) [] [0, 1, 2, 3, 4, 5, 6, 7, 8, 9] [0, 1, 2, 3, 4, 5, 6, 7, 8, 9] ⟨rfl, rfl, rfl, fun _ => rfl⟩ rfl rfl ⟨Nat.le_refl _, Nat.le_refl _⟩ dX6_floods_38 rfl (fun r38 u38 hw38 => ?_)
            subst hw38
            refine z_istore (L' := [(6, .int (nI (partN ccj k 4))), (0, .ref x), (1, .int (nI ccj)), (2, .int (nI whj)), (3, .int (nI ab)), (4, .int (nI be)), (5, .int (nI k))]) hX dX6_floods_41 (Nat.le_of_ble_eq_true rfl) rfl ?_
            refine z_iload hX 5 dX6_floods_43 rfl ?_
            refine z_iload hX 0 dX6_floods_45 rfl ?_
            refine z_iadd (v := (nI (be + partN ccj k 4))) hX dX6_floods_47 (nI_add _ _) ?_
            refine z_istore (L' := [(4, .int (nI (be + partN ccj k 4))), (6, .int (nI (partN ccj k 4))), (0, .ref x), (1, .int (nI ccj)), (2, .int (nI whj)), (3, .int (nI ab)), (5, .int (nI k))]) hX dX6_floods_48 (Nat.le_of_ble_eq_true rfl) rfl ?_
            refine z_aload_n hX 2 dX6_floods_50 rfl ?_
            refine z_iload hX 6 dX6_floods_51 rfl ?_
            refine z_callVi (st := []) hX (c_X6_isDryAfter _ G x w kw ik tp sx fo gu ch now nh cr past o u s ck cl ce sz fk fl fe fh tt k (by omega) (by omega) (by omega) (by omega)) lb_X6_isDryAfter ml_X6_235 (fun (_u : nst) => [ob x 6 [.ref w, .ref kw, .int (nI ik), .ref tp, .ref sx, .ref fo, .ref gu, .ref ch], ob w 5 [.ref now, .ref cr, .ref past, .int (nI o), .int (nI u)], ob now 2 (mf nh s), ia G nh 4 (fN (sh 7 s)), ob cr 1 [.ref ck, .ref cl, .ref ce, .int (nI sz)], ia G ck 6 fk, ia G cl 6 fl, ia G ce 6 fe, ob fo 2 (mf fh _u), ia G fh 4 (fN (sh 7 _u))]) (wr := []) [0, 1, 2, 3, 4, 5, 6, 7, 8, 9] [] [0, 1, 2, 3, 4, 5, 6, 7, 8, 9] ⟨rfl, rfl, rfl, fun _ => rfl⟩ 0 rfl rfl rfl rfl ⟨Nat.le_refl _, Nat.le_refl _⟩ dX6_floods_53 rfl (fun r53 u53 hw53 => ?_)
            obtain ⟨t2_1, rfl⟩ : ∃ z9, z9 = u53 := ⟨_, rfl⟩
            try dsimp only at hw53
            rcases Classical.em (goFall (dryS s k 4) = 0) with b53 | b53
            · obtain rfl := hw53.1 b53
              refine zn_if_eq (tgt := 64) hX dX6_floods_56 (by decide) (by omega) (fun c56 => absurd c56 (by omega)) (fun _ => ?_)
              refine z_iload_n hX 5 dX6_floods_59 rfl ?_
              refine z_iload hX 1 dX6_floods_60 rfl ?_
              refine z_iadd (v := (nI (ab + partN ccj k 4))) hX dX6_floods_62 (nI_add _ _) ?_
              refine z_istore_n (L' := [(3, .int (nI (ab + partN ccj k 4))), (4, .int (nI (be + partN ccj k 4))), (6, .int (nI (partN ccj k 4))), (0, .ref x), (1, .int (nI ccj)), (2, .int (nI whj)), (5, .int (nI k))]) hX dX6_floods_63 (Nat.le_of_ble_eq_true rfl) rfl ?_
              refine z_iinc (v := (nI (k + 1))) (L' := [(5, .int (nI (k + 1))), (3, .int (nI (ab + partN ccj k 4))), (4, .int (nI (be + partN ccj k 4))), (6, .int (nI (partN ccj k 4))), (0, .ref x), (1, .int (nI ccj)), (2, .int (nI whj))]) hX 6 dX6_floods_64 rfl (nI_inc _) (Nat.le_of_ble_eq_true rfl) rfl ?_
              refine z_goto (tgt := 28) hX dX6_floods_67 (by decide) ?_
              refine z_lsub [4, 5, 6, 1, 2, 0] rfl ?_
              exact ih28 (k + 1) (ab + partN ccj k 4) (be + partN ccj k 4) t2_1 (by omega) (by omega) (by rw [aboveN, if_pos b53, ← ha]) (by rw [belowN, ← hbe])
            · obtain rfl := hw53.2 b53
              refine zn_if_eq (tgt := 64) hX dX6_floods_56 (by decide) (by omega) (fun _ => ?_) (fun c56 => absurd c56 (by omega))
              refine z_iinc (v := (nI (k + 1))) (L' := [(5, .int (nI (k + 1))), (4, .int (nI (be + partN ccj k 4))), (6, .int (nI (partN ccj k 4))), (0, .ref x), (1, .int (nI ccj)), (2, .int (nI whj)), (3, .int (nI ab))]) hX 6 dX6_floods_64 rfl (nI_inc _) (Nat.le_of_ble_eq_true rfl) rfl ?_
              refine z_goto (tgt := 28) hX dX6_floods_67 (by decide) ?_
              refine z_lsub [3, 4, 5, 6, 1, 0] rfl ?_
              exact ih28 (k + 1) ab (be + partN ccj k 4) t2_1 (by omega) (by omega) (by rw [aboveN, if_neg b53, ← ha]) (by rw [belowN, ← hbe])
      refine z_lsub [3, 4, 5, 2, 1, 0] rfl ?_
      exact lp28 17 0 0 0 t (by omega) (by omega) rfl rfl
    · have hb_wh : inb wh 0 1 = false := hw12
      refine zn_if_ne (tgt := 20) hX dX6_floods_15 (by decide) (by omega) (fun c15 => absurd c15 (by omega)) (fun _ => ?_)
      refine z_iconst (v := (-1)) hX dX6_floods_18 (by decide) ?_
      exact hR _ t _ _ (by unfold spFloods; rw [if_neg (by simp [hb_wh])]) dX6_floods_19 rfl
  · have hb_cc : inb cc 0 10 = false := hw4
    refine zn_if_eq (tgt := 18) hX dX6_floods_7 (by decide) (by omega) (fun _ => ?_) (fun c7 => absurd c7 (by omega))
    refine z_iconst (v := (-1)) hX dX6_floods_18 (by decide) ?_
    exact hR _ t _ _ (by unfold spFloods; rw [if_neg (by simp [hb_cc])]) dX6_floods_19 rfl
