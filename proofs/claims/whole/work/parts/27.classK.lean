theorem neg_no {k : Int32} (nn : Int32) (hk : k < 0) : (decide (k = nn) && decide (¬ nn < 0)) = false := by
  by_cases e : k = nn
  · subst e
    simp [hk]
  · simp [e]
theorem WF_s0 {D K : Nat} {s : nst} (h : WF D K s) : s 0 ≤ 6 := h.1
set_option maxRecDepth 100000 in
set_option maxHeartbeats 4000000 in
theorem c_X6_traveller (l : Launch) (G : zG) (x : Nat) (w : Nat) (kw : Nat) (ik : Nat) (tp : Nat) (sx : Nat) (fo : Nat) (gu : Nat) (ch : Nat) (now : Nat) (nh : Nat) (cr : Nat) (past : Nat) (o : Nat) (u : Nat) (s : nst) (ck : Nat) (cl : Nat) (ce : Nat) (sz : Nat) (fk : Nat → Int32) (fl : Nat → Int32) (fe : Nat → Int32) (kd : Int32) (lk : Int32) (ev : Int32) (h0 : WF 9999 0 s) (h1 : CR s fk fl fe) (h2 : sz = s 0) : zMi l G yX6_traveller cX6_traveller 4 .int 2 0 0 43 [.ref x, .int kd, .int lk, .int ev] [ob x 6 [.ref w, .ref kw, .int (nI ik), .ref tp, .ref sx, .ref fo, .ref gu, .ref ch], ob w 5 [.ref now, .ref cr, .ref past, .int (nI o), .int (nI u)], ob now 2 (mf nh s), ia G nh 4 (fN (sh 7 s)), ob cr 1 [.ref ck, .ref cl, .ref ce, .int (nI sz)], ia G ck 6 fk, ia G cl 6 fl, ia G ce 6 fe] (fun (r : Int32) (_u : Unit) => r = spTrav s kd lk ev) (fun (_u : Unit) => [ob x 6 [.ref w, .ref kw, .int (nI ik), .ref tp, .ref sx, .ref fo, .ref gu, .ref ch], ob w 5 [.ref now, .ref cr, .ref past, .int (nI (cond (okTr s kd lk ev) (0) (o))), .int (nI (cond (okTr s kd lk ev) (0) (u)))], ob now 2 (mf nh s), ia G nh 4 (fN (sh 7 s)), ob cr 1 [.ref ck, .ref cl, .ref ce, .int (nI (cond (okTr s kd lk ev) (s 0 + 1) (sz)))], ia G ck 6 (cond (okTr s kd lk ev) (upd fk (s 0) (nI (gN kd))) (fk)), ia G cl 6 (cond (okTr s kd lk ev) (upd fl (s 0) (nI (gN lk))) (fl)), ia G ce 6 (cond (okTr s kd lk ev) (upd fe (s 0) (nI (gN ev))) (fe))]) := by
  refine zMi.of (by decide) rfl (fun X A H0 hX hXl hR => ?_)
  show Z (X, G, A, H0, 4) 0 0 [ob x 6 [.ref w, .ref kw, .int (nI ik), .ref tp, .ref sx, .ref fo, .ref gu, .ref ch], ob w 5 [.ref now, .ref cr, .ref past, .int (nI o), .int (nI u)], ob now 2 (mf nh s), ia G nh 4 (fN (sh 7 s)), ob cr 1 [.ref ck, .ref cl, .ref ce, .int (nI sz)], ia G ck 6 fk, ia G cl 6 fl, ia G ce 6 fe] 0 [(0, .ref x), (1, .int kd), (2, .int lk), (3, .int ev)] []
  subst hXl
  have z0 := h0.1
  have z1 := h0.2.1
  refine z_iload_n hX 1 dX6_traveller_0 rfl ?_
  refine z_iconst (v := nI 5) hX dX6_traveller_1 (by decide) ?_
  refine z_callSi (st := []) hX (c_X6_isBelowX _ G kd 5 (by omega)) lb_X6_isBelow ml_X6_58 (fun (_u : Unit) => [ob x 6 [.ref w, .ref kw, .int (nI ik), .ref tp, .ref sx, .ref fo, .ref gu, .ref ch], ob w 5 [.ref now, .ref cr, .ref past, .int (nI o), .int (nI u)], ob now 2 (mf nh s), ia G nh 4 (fN (sh 7 s)), ob cr 1 [.ref ck, .ref cl, .ref ce, .int (nI sz)], ia G ck 6 fk, ia G cl 6 fl, ia G ce 6 fe]) (wr := [ob x 6 [.ref w, .ref kw, .int (nI ik), .ref tp, .ref sx, .ref fo, .ref gu, .ref ch], ob w 5 [.ref now, .ref cr, .ref past, .int (nI o), .int (nI u)], ob now 2 (mf nh s), ia G nh 4 (fN (sh 7 s)), ob cr 1 [.ref ck, .ref cl, .ref ce, .int (nI sz)], ia G ck 6 fk, ia G cl 6 fl, ia G ce 6 fe]) [] [0, 1, 2, 3, 4, 5, 6, 7] [0, 1, 2, 3, 4, 5, 6, 7] ⟨rfl, rfl, rfl, fun _ => rfl⟩ rfl rfl ⟨Nat.le_refl _, Nat.le_refl _⟩ dX6_traveller_2 rfl (fun r2 u2 hw2 => ?_)
  try dsimp only at hw2
  rcases hw2 with ⟨kdj, hkdh, rfl, rfl⟩ | ⟨hw2, rfl⟩
  · skip
    refine zn_if_eq (tgt := 27) hX dX6_traveller_5 (by decide) (by omega) (fun c5 => absurd c5 (by omega)) (fun _ => ?_)
    refine z_iload_n hX 2 dX6_traveller_8 rfl ?_
    refine z_bipush (v := nI 64) hX dX6_traveller_9 (by decide) ?_
    refine z_callSi (st := []) hX (c_X6_isBelowX _ G lk 64 (by omega)) lb_X6_isBelow ml_X6_58 (fun (_u : Unit) => [ob x 6 [.ref w, .ref kw, .int (nI ik), .ref tp, .ref sx, .ref fo, .ref gu, .ref ch], ob w 5 [.ref now, .ref cr, .ref past, .int (nI o), .int (nI u)], ob now 2 (mf nh s), ia G nh 4 (fN (sh 7 s)), ob cr 1 [.ref ck, .ref cl, .ref ce, .int (nI sz)], ia G ck 6 fk, ia G cl 6 fl, ia G ce 6 fe]) (wr := [ob x 6 [.ref w, .ref kw, .int (nI ik), .ref tp, .ref sx, .ref fo, .ref gu, .ref ch], ob w 5 [.ref now, .ref cr, .ref past, .int (nI o), .int (nI u)], ob now 2 (mf nh s), ia G nh 4 (fN (sh 7 s)), ob cr 1 [.ref ck, .ref cl, .ref ce, .int (nI sz)], ia G ck 6 fk, ia G cl 6 fl, ia G ce 6 fe]) [] [0, 1, 2, 3, 4, 5, 6, 7] [0, 1, 2, 3, 4, 5, 6, 7] ⟨rfl, rfl, rfl, fun _ => rfl⟩ rfl rfl ⟨Nat.le_refl _, Nat.le_refl _⟩ dX6_traveller_11 rfl (fun r11 u11 hw11 => ?_)
    try dsimp only at hw11
    rcases hw11 with ⟨lkj, hlkh, rfl, rfl⟩ | ⟨hw11, rfl⟩
    · skip
      refine zn_if_eq (tgt := 27) hX dX6_traveller_14 (by decide) (by omega) (fun c14 => absurd c14 (by omega)) (fun _ => ?_)
      refine z_iload_n hX 3 dX6_traveller_17 rfl ?_
      refine z_iconst (v := nI 1) hX dX6_traveller_18 (by decide) ?_
      refine z_bipush (v := nI 9) hX dX6_traveller_19 (by decide) ?_
      refine z_callSi (st := []) hX (c_X6_isWithinX _ G ev 1 9 (by omega) (by omega)) lb_X6_isWithin ml_X6_62 (fun (_u : Unit) => [ob x 6 [.ref w, .ref kw, .int (nI ik), .ref tp, .ref sx, .ref fo, .ref gu, .ref ch], ob w 5 [.ref now, .ref cr, .ref past, .int (nI o), .int (nI u)], ob now 2 (mf nh s), ia G nh 4 (fN (sh 7 s)), ob cr 1 [.ref ck, .ref cl, .ref ce, .int (nI sz)], ia G ck 6 fk, ia G cl 6 fl, ia G ce 6 fe]) (wr := [ob x 6 [.ref w, .ref kw, .int (nI ik), .ref tp, .ref sx, .ref fo, .ref gu, .ref ch], ob w 5 [.ref now, .ref cr, .ref past, .int (nI o), .int (nI u)], ob now 2 (mf nh s), ia G nh 4 (fN (sh 7 s)), ob cr 1 [.ref ck, .ref cl, .ref ce, .int (nI sz)], ia G ck 6 fk, ia G cl 6 fl, ia G ce 6 fe]) [] [0, 1, 2, 3, 4, 5, 6, 7] [0, 1, 2, 3, 4, 5, 6, 7] ⟨rfl, rfl, rfl, fun _ => rfl⟩ rfl rfl ⟨Nat.le_refl _, Nat.le_refl _⟩ dX6_traveller_21 rfl (fun r21 u21 hw21 => ?_)
      try dsimp only at hw21
      rcases hw21 with ⟨evj, hevl, hevh, rfl, rfl⟩ | ⟨hw21, rfl⟩
      · skip
        refine zn_if_ne (tgt := 29) hX dX6_traveller_24 (by decide) (by omega) (fun _ => ?_) (fun c24 => absurd c24 (by omega))
        refine z_aload_n hX 0 dX6_traveller_29 rfl ?_
        refine z_get (v := .ref w) hX fX6 0 0 rfl rfl (Nat.le_of_ble_eq_true rfl) fl_X6_10 rfl dX6_traveller_30 ?_
        refine z_get (v := .ref cr) hX fX5 1 1 rfl rfl (Nat.le_of_ble_eq_true rfl) fl_X6_66 rfl dX6_traveller_33 ?_
        refine z_callVi (st := []) hX (c_X1_hasRoom _ G cr ck cl ce sz (by omega)) lb_X1_hasRoom ml_X6_69 (fun (_u : Unit) => [ob x 6 [.ref w, .ref kw, .int (nI ik), .ref tp, .ref sx, .ref fo, .ref gu, .ref ch], ob w 5 [.ref now, .ref cr, .ref past, .int (nI o), .int (nI u)], ob now 2 (mf nh s), ia G nh 4 (fN (sh 7 s)), ob cr 1 [.ref ck, .ref cl, .ref ce, .int (nI sz)], ia G ck 6 fk, ia G cl 6 fl, ia G ce 6 fe]) (wr := [ob x 6 [.ref w, .ref kw, .int (nI ik), .ref tp, .ref sx, .ref fo, .ref gu, .ref ch], ob w 5 [.ref now, .ref cr, .ref past, .int (nI o), .int (nI u)], ob now 2 (mf nh s), ia G nh 4 (fN (sh 7 s)), ia G ck 6 fk, ia G cl 6 fl, ia G ce 6 fe]) [4] [0, 1, 2, 3, 5, 6, 7] [0, 1, 2, 3, 7, 4, 5, 6] ⟨rfl, rfl, rfl, fun _ => rfl⟩ 0 rfl rfl rfl rfl ⟨Nat.le_refl _, Nat.le_refl _⟩ dX6_traveller_36 rfl (fun r36 u36 hw36 => ?_)
        try dsimp only at hw36
        rcases Classical.em (sz < 6) with b36 | b36
        · obtain rfl := hw36.1 b36
          refine zn_if_ne (tgt := 45) hX dX6_traveller_39 (by decide) (by omega) (fun _ => ?_) (fun c39 => absurd c39 (by omega))
          refine z_aload_n hX 0 dX6_traveller_45 rfl ?_
          refine z_get (v := .ref w) hX fX6 0 0 rfl rfl (Nat.le_of_ble_eq_true rfl) fl_X6_10 rfl dX6_traveller_46 ?_
          refine z_get (v := .ref cr) hX fX5 1 1 rfl rfl (Nat.le_of_ble_eq_true rfl) fl_X6_66 rfl dX6_traveller_49 ?_
          refine z_iload_n hX 1 dX6_traveller_52 rfl ?_
          refine z_iload_n hX 2 dX6_traveller_53 rfl ?_
          refine z_iload_n hX 3 dX6_traveller_54 rfl ?_
          refine z_callVv (st := []) hX (c_X1_join _ G cr ck cl ce sz fk fl fe kdj lkj evj (by omega)) lb_X1_join ml_X6_73 (fun (_u : Unit) => [ob x 6 [.ref w, .ref kw, .int (nI ik), .ref tp, .ref sx, .ref fo, .ref gu, .ref ch], ob w 5 [.ref now, .ref cr, .ref past, .int (nI o), .int (nI u)], ob now 2 (mf nh s), ia G nh 4 (fN (sh 7 s)), ob cr 1 [.ref ck, .ref cl, .ref ce, .int (nI (sz + 1))], ia G ck 6 (upd fk sz (nI kdj)), ia G cl 6 (upd fl sz (nI lkj)), ia G ce 6 (upd fe sz (nI evj))]) (wr := [ob x 6 [.ref w, .ref kw, .int (nI ik), .ref tp, .ref sx, .ref fo, .ref gu, .ref ch], ob w 5 [.ref now, .ref cr, .ref past, .int (nI o), .int (nI u)], ob now 2 (mf nh s), ia G nh 4 (fN (sh 7 s))]) [4, 5, 6, 7] [0, 1, 2, 3] [0, 1, 2, 3, 4, 5, 6, 7] ⟨rfl, rfl, rfl, fun _ => rfl⟩ 0 rfl rfl rfl rfl ⟨Nat.le_refl _, Nat.le_refl _⟩ dX6_traveller_55 rfl (fun  u55 hw55 => ?_)
          refine z_aload_n hX 0 dX6_traveller_58 rfl ?_
          refine z_get (v := .ref w) hX fX6 0 0 rfl rfl (Nat.le_of_ble_eq_true rfl) fl_X6_10 rfl dX6_traveller_59 ?_
          refine z_callVv (st := []) hX (c_X5_forget _ G w now 0 cr past o u ) lb_X5_forget ml_X6_77 (fun (_u : Unit) => [ob x 6 [.ref w, .ref kw, .int (nI ik), .ref tp, .ref sx, .ref fo, .ref gu, .ref ch], ob w 5 [.ref now, .ref cr, .ref past, .int (nI 0), .int (nI 0)], ob now 2 (mf nh s), ia G nh 4 (fN (sh 7 s)), ob cr 1 [.ref ck, .ref cl, .ref ce, .int (nI (sz + 1))], ia G ck 6 (upd fk sz (nI kdj)), ia G cl 6 (upd fl sz (nI lkj)), ia G ce 6 (upd fe sz (nI evj))]) (wr := [ob x 6 [.ref w, .ref kw, .int (nI ik), .ref tp, .ref sx, .ref fo, .ref gu, .ref ch], ob now 2 (mf nh s), ia G nh 4 (fN (sh 7 s)), ob cr 1 [.ref ck, .ref cl, .ref ce, .int (nI (sz + 1))], ia G ck 6 (upd fk sz (nI kdj)), ia G cl 6 (upd fl sz (nI lkj)), ia G ce 6 (upd fe sz (nI evj))]) [1] [0, 2, 3, 4, 5, 6, 7] [0, 7, 1, 2, 3, 4, 5, 6] ⟨rfl, rfl, rfl, fun _ => rfl⟩ 0 rfl rfl rfl rfl ⟨Nat.le_refl _, Nat.le_refl _⟩ dX6_traveller_62 rfl (fun  u62 hw62 => ?_)
          refine z_aload_n hX 0 dX6_traveller_65 rfl ?_
          refine z_get (v := .ref w) hX fX6 0 0 rfl rfl (Nat.le_of_ble_eq_true rfl) fl_X6_10 rfl dX6_traveller_66 ?_
          refine z_get (v := .ref cr) hX fX5 1 1 rfl rfl (Nat.le_of_ble_eq_true rfl) fl_X6_66 rfl dX6_traveller_69 ?_
          refine z_get (v := .int (nI (sz + 1))) hX fX1 4 3 rfl rfl (Nat.le_of_ble_eq_true rfl) fl_X6_80 rfl dX6_traveller_72 ?_
          refine z_iconst (v := nI 1) hX dX6_traveller_75 (by decide) ?_
          refine z_isub (v := (nI sz)) hX dX6_traveller_76 (pk_sub (a := sz + 1) (b := 1) (by omega)) ?_
          have e1 : okT (nI kdj) (nI lkj) (nI evj) = true := by unfold okT; rw [inb_t (by omega) (by omega) (by omega), inb_t (by omega) (by omega) (by omega), inb_t (by omega) (by omega) (by omega)]; rfl
          have e0 : okTr s (nI kdj) (nI lkj) (nI evj) = true := by unfold okTr; rw [e1, decide_eq_true (by omega)]; rfl
          rw [e0, gN_nI (show kdj < 2147483648 by omega), gN_nI (show lkj < 2147483648 by omega), gN_nI (show evj < 2147483648 by omega), ← h2] at hR
          exact hR _ () _ _ (by unfold spTrav; rw [if_pos e1, if_neg (by omega), h2]) dX6_traveller_77 rfl
        · obtain rfl := hw36.2 b36
          refine zn_if_ne (tgt := 45) hX dX6_traveller_39 (by decide) (by omega) (fun c39 => absurd c39 (by omega)) (fun _ => ?_)
          refine z_bipush (v := (-3)) hX dX6_traveller_42 (by decide) ?_
          have e1 : okT (nI kdj) (nI lkj) (nI evj) = true := by unfold okT; rw [inb_t (by omega) (by omega) (by omega), inb_t (by omega) (by omega) (by omega), inb_t (by omega) (by omega) (by omega)]; rfl
          have e0 : okTr s (nI kdj) (nI lkj) (nI evj) = false := by unfold okTr; rw [e1, decide_eq_false (by omega)]; rfl
          rw [e0] at hR
          exact hR _ () _ _ (by unfold spTrav; rw [if_pos e1, if_pos (by omega)]) dX6_traveller_44 rfl
      · have hb_ev : inb ev 1 9 = false := hw21
        refine zn_if_ne (tgt := 29) hX dX6_traveller_24 (by decide) (by omega) (fun c24 => absurd c24 (by omega)) (fun _ => ?_)
        refine z_iconst (v := (-1)) hX dX6_traveller_27 (by decide) ?_
        have e1 : okT (nI kdj) (nI lkj) ev = false := by unfold okT; simp [hb_ev]
        have e0 : okTr s (nI kdj) (nI lkj) ev = false := by unfold okTr; rw [e1]; rfl
        rw [e0] at hR
        exact hR _ () _ _ (by unfold spTrav; rw [if_neg (by rw [e1]; decide)]) dX6_traveller_28 rfl
    · have hb_lk : inb lk 0 63 = false := hw11
      refine zn_if_eq (tgt := 27) hX dX6_traveller_14 (by decide) (by omega) (fun _ => ?_) (fun c14 => absurd c14 (by omega))
      refine z_iconst (v := (-1)) hX dX6_traveller_27 (by decide) ?_
      have e1 : okT (nI kdj) lk ev = false := by unfold okT; simp [hb_lk]
      have e0 : okTr s (nI kdj) lk ev = false := by unfold okTr; rw [e1]; rfl
      rw [e0] at hR
      exact hR _ () _ _ (by unfold spTrav; rw [if_neg (by rw [e1]; decide)]) dX6_traveller_28 rfl
  · have hb_kd : inb kd 0 4 = false := hw2
    refine zn_if_eq (tgt := 27) hX dX6_traveller_5 (by decide) (by omega) (fun _ => ?_) (fun c5 => absurd c5 (by omega))
    refine z_iconst (v := (-1)) hX dX6_traveller_27 (by decide) ?_
    have e1 : okT kd lk ev = false := by unfold okT; simp [hb_kd]
    have e0 : okTr s kd lk ev = false := by unfold okTr; rw [e1]; rfl
    rw [e0] at hR
    exact hR _ () _ _ (by unfold spTrav; rw [if_neg (by rw [e1]; decide)]) dX6_traveller_28 rfl
set_option maxRecDepth 100000 in
set_option maxHeartbeats 4000000 in
theorem c_X6_copyS (l : Launch) (G : zG) (x : Nat) (w : Nat) (kw : Nat) (ik : Nat) (tp : Nat) (sx : Nat) (fo : Nat) (gu : Nat) (ch : Nat) (now : Nat) (nh : Nat) (cr : Nat) (past : Nat) (o : Nat) (u : Nat) (pf : Nat → Option Nat) (ha : Nat) (it1 : Nat) (q1 : Nat) (z1 : Nat) (I1 : Nat → Int64) (f0 : Int32) (i0 : Int32) (t0 : Int32) (j0 : Int32) (nn : Int32) (h0 : q1 ≤ 4) (h1 : z1 ≤ 24) (h2 : ∀ i, i < 4 → f0 = nI i → pf i = some ha) (h3 : ∀ i, i < 4 → t0 = nI i → pf i = some ha) : zMi l G yX6_copy cX6_copy 8 .int 2 0 0 120 [.ref x, .int f0, .int i0, .int t0, .int j0, .int nn] [ob x 6 [.ref w, .ref kw, .int (nI ik), .ref tp, .ref sx, .ref fo, .ref gu, .ref ch], ob w 5 [.ref now, .ref cr, .ref past, .int (nI o), .int (nI u)], sa G sx 4 pf, ob ha 3 [.ref it1, .int (ln q1), .int (nI z1)], la G it1 24 I1] (fun (r : Int32) (_u : Unit) => r = spCopy q1 z1 q1 z1 f0 i0 t0 j0 nn) (fun (_u : Unit) => [ob x 6 [.ref w, .ref kw, .int (nI ik), .ref tp, .ref sx, .ref fo, .ref gu, .ref ch], ob w 5 [.ref now, .ref cr, .ref past, .int (nI o), .int (nI u)], sa G sx 4 pf, ob ha 3 [.ref it1, .int (ln q1), .int (nI z1)], la G it1 24 (cond (decide (spCopy q1 z1 q1 z1 f0 i0 t0 j0 nn = nn) && decide (¬ nn < 0)) (va_cpy I1 I1 (gN i0) (gN j0) (gN nn)) (I1))]) := by
  refine zMi.of (by decide) rfl (fun X A H0 hX hXl hR => ?_)
  show Z (X, G, A, H0, 8) 0 0 [ob x 6 [.ref w, .ref kw, .int (nI ik), .ref tp, .ref sx, .ref fo, .ref gu, .ref ch], ob w 5 [.ref now, .ref cr, .ref past, .int (nI o), .int (nI u)], sa G sx 4 pf, ob ha 3 [.ref it1, .int (ln q1), .int (nI z1)], la G it1 24 I1] 0 [(0, .ref x), (1, .int f0), (2, .int i0), (3, .int t0), (4, .int j0), (5, .int nn)] []
  subst hXl
  refine z_iload_n hX 1 dX6_copy_0 rfl ?_
  refine z_iconst (v := nI 4) hX dX6_copy_1 (by decide) ?_
  refine z_callSi (st := []) hX (c_X6_isBelowX _ G f0 4 (by omega)) lb_X6_isBelow ml_X6_58 (fun (_u : Unit) => [ob x 6 [.ref w, .ref kw, .int (nI ik), .ref tp, .ref sx, .ref fo, .ref gu, .ref ch], ob w 5 [.ref now, .ref cr, .ref past, .int (nI o), .int (nI u)], sa G sx 4 pf, ob ha 3 [.ref it1, .int (ln q1), .int (nI z1)], la G it1 24 I1]) (wr := [ob x 6 [.ref w, .ref kw, .int (nI ik), .ref tp, .ref sx, .ref fo, .ref gu, .ref ch], ob w 5 [.ref now, .ref cr, .ref past, .int (nI o), .int (nI u)], sa G sx 4 pf, ob ha 3 [.ref it1, .int (ln q1), .int (nI z1)], la G it1 24 I1]) [] [0, 1, 2, 3, 4] [0, 1, 2, 3, 4] ⟨rfl, rfl, rfl, fun _ => rfl⟩ rfl rfl ⟨Nat.le_refl _, Nat.le_refl _⟩ dX6_copy_2 rfl (fun r2 u2 hw2 => ?_)
  try dsimp only at hw2
  rcases hw2 with ⟨f0j, hf0h, rfl, rfl⟩ | ⟨hw2, rfl⟩
  · skip
    refine zn_if_eq (tgt := 16) hX dX6_copy_5 (by decide) (by omega) (fun c5 => absurd c5 (by omega)) (fun _ => ?_)
    refine z_iload_n hX 3 dX6_copy_8 rfl ?_
    refine z_iconst (v := nI 4) hX dX6_copy_9 (by decide) ?_
    refine z_callSi (st := []) hX (c_X6_isBelowX _ G t0 4 (by omega)) lb_X6_isBelow ml_X6_58 (fun (_u : Unit) => [ob x 6 [.ref w, .ref kw, .int (nI ik), .ref tp, .ref sx, .ref fo, .ref gu, .ref ch], ob w 5 [.ref now, .ref cr, .ref past, .int (nI o), .int (nI u)], sa G sx 4 pf, ob ha 3 [.ref it1, .int (ln q1), .int (nI z1)], la G it1 24 I1]) (wr := [ob x 6 [.ref w, .ref kw, .int (nI ik), .ref tp, .ref sx, .ref fo, .ref gu, .ref ch], ob w 5 [.ref now, .ref cr, .ref past, .int (nI o), .int (nI u)], sa G sx 4 pf, ob ha 3 [.ref it1, .int (ln q1), .int (nI z1)], la G it1 24 I1]) [] [0, 1, 2, 3, 4] [0, 1, 2, 3, 4] ⟨rfl, rfl, rfl, fun _ => rfl⟩ rfl rfl ⟨Nat.le_refl _, Nat.le_refl _⟩ dX6_copy_10 rfl (fun r10 u10 hw10 => ?_)
    try dsimp only at hw10
    rcases hw10 with ⟨t0j, ht0h, rfl, rfl⟩ | ⟨hw10, rfl⟩
    · skip
      refine zn_if_ne (tgt := 18) hX dX6_copy_13 (by decide) (by omega) (fun _ => ?_) (fun c13 => absurd c13 (by omega))
      refine z_aload_n hX 0 dX6_copy_18 rfl ?_
      refine z_get (v := .ref sx) hX fX6 0 4 rfl rfl (Nat.le_of_ble_eq_true rfl) fl_X6_32 rfl dX6_copy_19 ?_
      refine z_iload_n hX 1 dX6_copy_22 rfl ?_
      refine z_sald hX 2 (j := f0j) rfl (by omega) (by decide) (h2 f0j (by omega) rfl) dX6_copy_23 ?_
      refine z_astore (L' := [(6, .ref ha), (0, .ref x), (1, .int (nI f0j)), (2, .int i0), (3, .int (nI t0j)), (4, .int j0), (5, .int nn)]) hX dX6_copy_24 (Nat.le_of_ble_eq_true rfl) rfl ?_
      refine z_aload_n hX 1 dX6_copy_26 rfl ?_
      refine z_get (v := .ref sx) hX fX6 0 4 rfl rfl (Nat.le_of_ble_eq_true rfl) fl_X6_32 rfl dX6_copy_27 ?_
      refine z_iload_n hX 4 dX6_copy_30 rfl ?_
      refine z_sald hX 2 (j := t0j) rfl (by omega) (by decide) (h3 t0j (by omega) rfl) dX6_copy_31 ?_
      refine z_astore (L' := [(7, .ref ha), (6, .ref ha), (0, .ref x), (1, .int (nI f0j)), (2, .int i0), (3, .int (nI t0j)), (4, .int j0), (5, .int nn)]) hX dX6_copy_32 (Nat.le_of_ble_eq_true rfl) rfl ?_
      refine z_aload hX 1 dX6_copy_34 rfl ?_
      refine z_get (v := .int (ln q1)) hX fX3 3 1 rfl rfl (Nat.le_of_ble_eq_true rfl) fl_X6_274 rfl dX6_copy_36 ?_
      refine z_iconst (v := (-1)) hX dX6_copy_39 (by decide) ?_
      refine z_icmp_eq (tgt := 52) hX dX6_copy_40 (by decide) (fun c40 => ?_) (fun c40 => ?_)
      · rw [ln_neg h0] at c40
        refine z_bipush (v := (-11)) hX dX6_copy_52 (by decide) ?_
        have e0 : spCopy q1 z1 q1 z1 (nI f0j) i0 (nI t0j) j0 nn = -11 := by unfold spCopy okPl; rw [if_pos (by rw [inb_t (by omega) (by omega) (by omega), inb_t (by omega) (by omega) (by omega)]; rfl), if_pos (by omega)]
        rw [e0, neg_no nn (by decide)] at hR
        exact hR _ () _ _ rfl dX6_copy_54 rfl
      · rw [ln_neg h0] at c40
        refine z_aload hX 0 dX6_copy_43 rfl ?_
        refine z_get (v := .int (ln q1)) hX fX3 3 1 rfl rfl (Nat.le_of_ble_eq_true rfl) fl_X6_274 rfl dX6_copy_45 ?_
        refine z_iconst (v := (-1)) hX dX6_copy_48 (by decide) ?_
        refine z_icmp_ne (tgt := 55) hX dX6_copy_49 (by decide) (fun c49 => ?_) (fun c49 => ?_)
        · rw [ln_neg h0] at c49
          refine z_aload hX 1 dX6_copy_55 rfl ?_
          refine z_get (v := .int (ln q1)) hX fX3 3 1 rfl rfl (Nat.le_of_ble_eq_true rfl) fl_X6_274 rfl dX6_copy_57 ?_
          refine z_aload hX 0 dX6_copy_60 rfl ?_
          refine z_get (v := .int (ln q1)) hX fX3 3 1 rfl rfl (Nat.le_of_ble_eq_true rfl) fl_X6_274 rfl dX6_copy_62 ?_
          refine z_icmp_eq (tgt := 71) hX dX6_copy_65 (by decide) (fun c65 => ?_) (fun c65 => ?_)
          · rw [ln_inj (by omega) (by omega)] at c65
            refine z_aload hX 1 dX6_copy_71 rfl ?_
            refine z_iload_n hX 4 dX6_copy_73 rfl ?_
            refine z_iload hX 7 dX6_copy_74 rfl ?_
            refine z_callVi (st := []) hX (c_X3_holds _ G ha it1 q1 z1 i0 nn (by omega)) lb_X3_holds ml_X6_282 (fun (_u : Unit) => [ob x 6 [.ref w, .ref kw, .int (nI ik), .ref tp, .ref sx, .ref fo, .ref gu, .ref ch], ob w 5 [.ref now, .ref cr, .ref past, .int (nI o), .int (nI u)], sa G sx 4 pf, ob ha 3 [.ref it1, .int (ln q1), .int (nI z1)], la G it1 24 I1]) (wr := [ob x 6 [.ref w, .ref kw, .int (nI ik), .ref tp, .ref sx, .ref fo, .ref gu, .ref ch], ob w 5 [.ref now, .ref cr, .ref past, .int (nI o), .int (nI u)], sa G sx 4 pf, la G it1 24 I1]) [3] [0, 1, 2, 4] [0, 1, 2, 4, 3] ⟨rfl, rfl, rfl, fun _ => rfl⟩ 0 rfl rfl rfl rfl ⟨Nat.le_refl _, Nat.le_refl _⟩ dX6_copy_76 rfl (fun r76 u76 hw76 => ?_)
            try dsimp only at hw76
            rcases Classical.em (fitsI i0 nn z1 = true) with b76 | b76
            · obtain rfl := hw76.1 b76
              refine zn_if_eq (tgt := 94) hX dX6_copy_79 (by decide) (by omega) (fun c79 => absurd c79 (by omega)) (fun _ => ?_)
              refine z_aload hX 0 dX6_copy_82 rfl ?_
              refine z_iload hX 6 dX6_copy_84 rfl ?_
              refine z_iload hX 7 dX6_copy_86 rfl ?_
              refine z_callVi (st := []) hX (c_X3_holds _ G ha it1 q1 z1 j0 nn (by omega)) lb_X3_holds ml_X6_282 (fun (_u : Unit) => [ob x 6 [.ref w, .ref kw, .int (nI ik), .ref tp, .ref sx, .ref fo, .ref gu, .ref ch], ob w 5 [.ref now, .ref cr, .ref past, .int (nI o), .int (nI u)], sa G sx 4 pf, ob ha 3 [.ref it1, .int (ln q1), .int (nI z1)], la G it1 24 I1]) (wr := [ob x 6 [.ref w, .ref kw, .int (nI ik), .ref tp, .ref sx, .ref fo, .ref gu, .ref ch], ob w 5 [.ref now, .ref cr, .ref past, .int (nI o), .int (nI u)], sa G sx 4 pf, la G it1 24 I1]) [3] [0, 1, 2, 4] [0, 1, 2, 4, 3] ⟨rfl, rfl, rfl, fun _ => rfl⟩ 0 rfl rfl rfl rfl ⟨Nat.le_refl _, Nat.le_refl _⟩ dX6_copy_88 rfl (fun r88 u88 hw88 => ?_)
              try dsimp only at hw88
              rcases Classical.em (fitsI j0 nn z1 = true) with b88 | b88
              · obtain rfl := hw88.1 b88
                refine zn_if_ne (tgt := 97) hX dX6_copy_91 (by decide) (by omega) (fun _ => ?_) (fun c91 => absurd c91 (by omega))
                obtain ⟨i0j, nnj, f4, rfl, rfl⟩ := fits_ex2 (by omega) b76
                obtain ⟨j0j, f5, rfl⟩ := fits_ex (by omega) b88
                refine z_aload hX 1 dX6_copy_97 rfl ?_
                refine z_get (v := .ref it1) hX fX3 3 0 rfl rfl (Nat.le_of_ble_eq_true rfl) fl_X6_267 rfl dX6_copy_99 ?_
                refine z_iload_n hX 4 dX6_copy_102 rfl ?_
                refine z_aload hX 0 dX6_copy_103 rfl ?_
                refine z_get (v := .ref it1) hX fX3 3 0 rfl rfl (Nat.le_of_ble_eq_true rfl) fl_X6_267 rfl dX6_copy_105 ?_
                refine z_iload hX 6 dX6_copy_108 rfl ?_
                refine z_iload hX 7 dX6_copy_110 rfl ?_
                refine z_copyl (ws' := [ob x 6 [.ref w, .ref kw, .int (nI ik), .ref tp, .ref sx, .ref fo, .ref gu, .ref ch], ob w 5 [.ref now, .ref cr, .ref past, .int (nI o), .int (nI u)], sa G sx 4 pf, ob ha 3 [.ref it1, .int (ln q1), .int (nI z1)], la G it1 24 (va_cpy I1 I1 i0j j0j nnj)]) hX 4 4 rfl rfl ml_X6_285 (by decide) (by omega) (by omega) (by decide +kernel) rfl dX6_copy_112 ?_
                refine z_iload hX 7 dX6_copy_115 rfl ?_
                have e0 : spCopy q1 z1 q1 z1 (nI f0j) (nI i0j) (nI t0j) (nI j0j) (nI nnj) = nI nnj := by unfold spCopy okPl; rw [if_pos (by rw [inb_t (by omega) (by omega) (by omega), inb_t (by omega) (by omega) (by omega)]; rfl), if_neg (by omega), if_neg (by omega), if_pos ⟨b76, b88⟩]
                rw [e0, decide_eq_true rfl, decide_eq_true (nI_pos (by omega)), gN_nI (show i0j < 2147483648 by omega), gN_nI (show j0j < 2147483648 by omega), gN_nI (show nnj < 2147483648 by omega)] at hR
                exact hR _ () _ _ rfl dX6_copy_117 rfl
              · obtain rfl := hw88.2 b88
                refine zn_if_ne (tgt := 97) hX dX6_copy_91 (by decide) (by omega) (fun c91 => absurd c91 (by omega)) (fun _ => ?_)
                refine z_bipush (v := (-13)) hX dX6_copy_94 (by decide) ?_
                have e0 : spCopy q1 z1 q1 z1 (nI f0j) i0 (nI t0j) j0 nn = -13 := by unfold spCopy okPl; rw [if_pos (by rw [inb_t (by omega) (by omega) (by omega), inb_t (by omega) (by omega) (by omega)]; rfl), if_neg (by omega), if_neg (by omega), if_neg (by rintro ⟨za, zb⟩; first | exact b76 za | exact b88 zb)]
                rw [e0, neg_no nn (by decide)] at hR
                exact hR _ () _ _ rfl dX6_copy_96 rfl
            · obtain rfl := hw76.2 b76
              refine zn_if_eq (tgt := 94) hX dX6_copy_79 (by decide) (by omega) (fun _ => ?_) (fun c79 => absurd c79 (by omega))
              refine z_bipush (v := (-13)) hX dX6_copy_94 (by decide) ?_
              have e0 : spCopy q1 z1 q1 z1 (nI f0j) i0 (nI t0j) j0 nn = -13 := by unfold spCopy okPl; rw [if_pos (by rw [inb_t (by omega) (by omega) (by omega), inb_t (by omega) (by omega) (by omega)]; rfl), if_neg (by omega), if_neg (by omega), if_neg (by rintro ⟨za, zb⟩; first | exact b76 za | exact b88 zb)]
              rw [e0, neg_no nn (by decide)] at hR
              exact hR _ () _ _ rfl dX6_copy_96 rfl
          · rw [ln_inj (by omega) (by omega)] at c65
            refine z_bipush (v := (-12)) hX dX6_copy_68 (by decide) ?_
            have e0 : spCopy q1 z1 q1 z1 (nI f0j) i0 (nI t0j) j0 nn = -12 := by unfold spCopy okPl; rw [if_pos (by rw [inb_t (by omega) (by omega) (by omega), inb_t (by omega) (by omega) (by omega)]; rfl), if_neg (by omega), if_pos (by omega)]
            rw [e0, neg_no nn (by decide)] at hR
            exact hR _ () _ _ rfl dX6_copy_70 rfl
        · rw [ln_neg h0] at c49
          refine z_bipush (v := (-11)) hX dX6_copy_52 (by decide) ?_
          have e0 : spCopy q1 z1 q1 z1 (nI f0j) i0 (nI t0j) j0 nn = -11 := by unfold spCopy okPl; rw [if_pos (by rw [inb_t (by omega) (by omega) (by omega), inb_t (by omega) (by omega) (by omega)]; rfl), if_pos (by omega)]
          rw [e0, neg_no nn (by decide)] at hR
          exact hR _ () _ _ rfl dX6_copy_54 rfl
    · have hb_t0 : inb t0 0 3 = false := hw10
      refine zn_if_ne (tgt := 18) hX dX6_copy_13 (by decide) (by omega) (fun c13 => absurd c13 (by omega)) (fun _ => ?_)
      refine z_iconst (v := (-1)) hX dX6_copy_16 (by decide) ?_
      have e0 : spCopy q1 z1 q1 z1 (nI f0j) i0 t0 j0 nn = -1 := by unfold spCopy okPl; rw [if_neg (by simp [hb_t0])]
      rw [e0, neg_no nn (by decide)] at hR
      exact hR _ () _ _ rfl dX6_copy_17 rfl
  · have hb_f0 : inb f0 0 3 = false := hw2
    refine zn_if_eq (tgt := 16) hX dX6_copy_5 (by decide) (by omega) (fun _ => ?_) (fun c5 => absurd c5 (by omega))
    refine z_iconst (v := (-1)) hX dX6_copy_16 (by decide) ?_
    have e0 : spCopy q1 z1 q1 z1 f0 i0 t0 j0 nn = -1 := by unfold spCopy okPl; rw [if_neg (by simp [hb_f0])]
    rw [e0, neg_no nn (by decide)] at hR
    exact hR _ () _ _ rfl dX6_copy_17 rfl
set_option maxRecDepth 100000 in
set_option maxHeartbeats 4000000 in
theorem c_X6_copyD (l : Launch) (G : zG) (x : Nat) (w : Nat) (kw : Nat) (ik : Nat) (tp : Nat) (sx : Nat) (fo : Nat) (gu : Nat) (ch : Nat) (now : Nat) (nh : Nat) (cr : Nat) (past : Nat) (o : Nat) (u : Nat) (pf : Nat → Option Nat) (ha : Nat) (it1 : Nat) (q1 : Nat) (z1 : Nat) (I1 : Nat → Int64) (hb : Nat) (it2 : Nat) (q2 : Nat) (z2 : Nat) (I2 : Nat → Int64) (f0 : Int32) (i0 : Int32) (t0 : Int32) (j0 : Int32) (nn : Int32) (h0 : q1 ≤ 4) (h1 : z1 ≤ 24) (h2 : q2 ≤ 4) (h3 : z2 ≤ 24) (h4 : ∀ i, i < 4 → f0 = nI i → pf i = some ha) (h5 : ∀ i, i < 4 → t0 = nI i → pf i = some hb) : zMi l G yX6_copy cX6_copy 8 .int 2 0 0 120 [.ref x, .int f0, .int i0, .int t0, .int j0, .int nn] [ob x 6 [.ref w, .ref kw, .int (nI ik), .ref tp, .ref sx, .ref fo, .ref gu, .ref ch], ob w 5 [.ref now, .ref cr, .ref past, .int (nI o), .int (nI u)], sa G sx 4 pf, ob ha 3 [.ref it1, .int (ln q1), .int (nI z1)], la G it1 24 I1, ob hb 3 [.ref it2, .int (ln q2), .int (nI z2)], la G it2 24 I2] (fun (r : Int32) (_u : Unit) => r = spCopy q1 z1 q2 z2 f0 i0 t0 j0 nn) (fun (_u : Unit) => [ob x 6 [.ref w, .ref kw, .int (nI ik), .ref tp, .ref sx, .ref fo, .ref gu, .ref ch], ob w 5 [.ref now, .ref cr, .ref past, .int (nI o), .int (nI u)], sa G sx 4 pf, ob ha 3 [.ref it1, .int (ln q1), .int (nI z1)], la G it1 24 I1, ob hb 3 [.ref it2, .int (ln q2), .int (nI z2)], la G it2 24 (cond (decide (spCopy q1 z1 q2 z2 f0 i0 t0 j0 nn = nn) && decide (¬ nn < 0)) (va_cpy I1 I2 (gN i0) (gN j0) (gN nn)) (I2))]) := by
  refine zMi.of (by decide) rfl (fun X A H0 hX hXl hR => ?_)
  show Z (X, G, A, H0, 8) 0 0 [ob x 6 [.ref w, .ref kw, .int (nI ik), .ref tp, .ref sx, .ref fo, .ref gu, .ref ch], ob w 5 [.ref now, .ref cr, .ref past, .int (nI o), .int (nI u)], sa G sx 4 pf, ob ha 3 [.ref it1, .int (ln q1), .int (nI z1)], la G it1 24 I1, ob hb 3 [.ref it2, .int (ln q2), .int (nI z2)], la G it2 24 I2] 0 [(0, .ref x), (1, .int f0), (2, .int i0), (3, .int t0), (4, .int j0), (5, .int nn)] []
  subst hXl
  refine z_iload_n hX 1 dX6_copy_0 rfl ?_
  refine z_iconst (v := nI 4) hX dX6_copy_1 (by decide) ?_
  refine z_callSi (st := []) hX (c_X6_isBelowX _ G f0 4 (by omega)) lb_X6_isBelow ml_X6_58 (fun (_u : Unit) => [ob x 6 [.ref w, .ref kw, .int (nI ik), .ref tp, .ref sx, .ref fo, .ref gu, .ref ch], ob w 5 [.ref now, .ref cr, .ref past, .int (nI o), .int (nI u)], sa G sx 4 pf, ob ha 3 [.ref it1, .int (ln q1), .int (nI z1)], la G it1 24 I1, ob hb 3 [.ref it2, .int (ln q2), .int (nI z2)], la G it2 24 I2]) (wr := [ob x 6 [.ref w, .ref kw, .int (nI ik), .ref tp, .ref sx, .ref fo, .ref gu, .ref ch], ob w 5 [.ref now, .ref cr, .ref past, .int (nI o), .int (nI u)], sa G sx 4 pf, ob ha 3 [.ref it1, .int (ln q1), .int (nI z1)], la G it1 24 I1, ob hb 3 [.ref it2, .int (ln q2), .int (nI z2)], la G it2 24 I2]) [] [0, 1, 2, 3, 4, 5, 6] [0, 1, 2, 3, 4, 5, 6] ⟨rfl, rfl, rfl, fun _ => rfl⟩ rfl rfl ⟨Nat.le_refl _, Nat.le_refl _⟩ dX6_copy_2 rfl (fun r2 u2 hw2 => ?_)
  try dsimp only at hw2
  rcases hw2 with ⟨f0j, hf0h, rfl, rfl⟩ | ⟨hw2, rfl⟩
  · skip
    refine zn_if_eq (tgt := 16) hX dX6_copy_5 (by decide) (by omega) (fun c5 => absurd c5 (by omega)) (fun _ => ?_)
    refine z_iload_n hX 3 dX6_copy_8 rfl ?_
    refine z_iconst (v := nI 4) hX dX6_copy_9 (by decide) ?_
    refine z_callSi (st := []) hX (c_X6_isBelowX _ G t0 4 (by omega)) lb_X6_isBelow ml_X6_58 (fun (_u : Unit) => [ob x 6 [.ref w, .ref kw, .int (nI ik), .ref tp, .ref sx, .ref fo, .ref gu, .ref ch], ob w 5 [.ref now, .ref cr, .ref past, .int (nI o), .int (nI u)], sa G sx 4 pf, ob ha 3 [.ref it1, .int (ln q1), .int (nI z1)], la G it1 24 I1, ob hb 3 [.ref it2, .int (ln q2), .int (nI z2)], la G it2 24 I2]) (wr := [ob x 6 [.ref w, .ref kw, .int (nI ik), .ref tp, .ref sx, .ref fo, .ref gu, .ref ch], ob w 5 [.ref now, .ref cr, .ref past, .int (nI o), .int (nI u)], sa G sx 4 pf, ob ha 3 [.ref it1, .int (ln q1), .int (nI z1)], la G it1 24 I1, ob hb 3 [.ref it2, .int (ln q2), .int (nI z2)], la G it2 24 I2]) [] [0, 1, 2, 3, 4, 5, 6] [0, 1, 2, 3, 4, 5, 6] ⟨rfl, rfl, rfl, fun _ => rfl⟩ rfl rfl ⟨Nat.le_refl _, Nat.le_refl _⟩ dX6_copy_10 rfl (fun r10 u10 hw10 => ?_)
    try dsimp only at hw10
    rcases hw10 with ⟨t0j, ht0h, rfl, rfl⟩ | ⟨hw10, rfl⟩
    · skip
      refine zn_if_ne (tgt := 18) hX dX6_copy_13 (by decide) (by omega) (fun _ => ?_) (fun c13 => absurd c13 (by omega))
      refine z_aload_n hX 0 dX6_copy_18 rfl ?_
      refine z_get (v := .ref sx) hX fX6 0 4 rfl rfl (Nat.le_of_ble_eq_true rfl) fl_X6_32 rfl dX6_copy_19 ?_
      refine z_iload_n hX 1 dX6_copy_22 rfl ?_
      refine z_sald hX 2 (j := f0j) rfl (by omega) (by decide) (h4 f0j (by omega) rfl) dX6_copy_23 ?_
      refine z_astore (L' := [(6, .ref ha), (0, .ref x), (1, .int (nI f0j)), (2, .int i0), (3, .int (nI t0j)), (4, .int j0), (5, .int nn)]) hX dX6_copy_24 (Nat.le_of_ble_eq_true rfl) rfl ?_
      refine z_aload_n hX 1 dX6_copy_26 rfl ?_
      refine z_get (v := .ref sx) hX fX6 0 4 rfl rfl (Nat.le_of_ble_eq_true rfl) fl_X6_32 rfl dX6_copy_27 ?_
      refine z_iload_n hX 4 dX6_copy_30 rfl ?_
      refine z_sald hX 2 (j := t0j) rfl (by omega) (by decide) (h5 t0j (by omega) rfl) dX6_copy_31 ?_
      refine z_astore (L' := [(7, .ref hb), (6, .ref ha), (0, .ref x), (1, .int (nI f0j)), (2, .int i0), (3, .int (nI t0j)), (4, .int j0), (5, .int nn)]) hX dX6_copy_32 (Nat.le_of_ble_eq_true rfl) rfl ?_
      refine z_aload hX 1 dX6_copy_34 rfl ?_
      refine z_get (v := .int (ln q1)) hX fX3 3 1 rfl rfl (Nat.le_of_ble_eq_true rfl) fl_X6_274 rfl dX6_copy_36 ?_
      refine z_iconst (v := (-1)) hX dX6_copy_39 (by decide) ?_
      refine z_icmp_eq (tgt := 52) hX dX6_copy_40 (by decide) (fun c40 => ?_) (fun c40 => ?_)
      · rw [ln_neg h0] at c40
        refine z_bipush (v := (-11)) hX dX6_copy_52 (by decide) ?_
        have e0 : spCopy q1 z1 q2 z2 (nI f0j) i0 (nI t0j) j0 nn = -11 := by unfold spCopy okPl; rw [if_pos (by rw [inb_t (by omega) (by omega) (by omega), inb_t (by omega) (by omega) (by omega)]; rfl), if_pos (by omega)]
        rw [e0, neg_no nn (by decide)] at hR
        exact hR _ () _ _ rfl dX6_copy_54 rfl
      · rw [ln_neg h0] at c40
        refine z_aload hX 0 dX6_copy_43 rfl ?_
        refine z_get (v := .int (ln q2)) hX fX3 5 1 rfl rfl (Nat.le_of_ble_eq_true rfl) fl_X6_274 rfl dX6_copy_45 ?_
        refine z_iconst (v := (-1)) hX dX6_copy_48 (by decide) ?_
        refine z_icmp_ne (tgt := 55) hX dX6_copy_49 (by decide) (fun c49 => ?_) (fun c49 => ?_)
        · rw [ln_neg h2] at c49
          refine z_aload hX 1 dX6_copy_55 rfl ?_
          refine z_get (v := .int (ln q1)) hX fX3 3 1 rfl rfl (Nat.le_of_ble_eq_true rfl) fl_X6_274 rfl dX6_copy_57 ?_
          refine z_aload hX 0 dX6_copy_60 rfl ?_
          refine z_get (v := .int (ln q2)) hX fX3 5 1 rfl rfl (Nat.le_of_ble_eq_true rfl) fl_X6_274 rfl dX6_copy_62 ?_
          refine z_icmp_eq (tgt := 71) hX dX6_copy_65 (by decide) (fun c65 => ?_) (fun c65 => ?_)
          · rw [ln_inj (by omega) (by omega)] at c65
            refine z_aload hX 1 dX6_copy_71 rfl ?_
            refine z_iload_n hX 4 dX6_copy_73 rfl ?_
            refine z_iload hX 7 dX6_copy_74 rfl ?_
            refine z_callVi (st := []) hX (c_X3_holds _ G ha it1 q1 z1 i0 nn (by omega)) lb_X3_holds ml_X6_282 (fun (_u : Unit) => [ob x 6 [.ref w, .ref kw, .int (nI ik), .ref tp, .ref sx, .ref fo, .ref gu, .ref ch], ob w 5 [.ref now, .ref cr, .ref past, .int (nI o), .int (nI u)], sa G sx 4 pf, ob ha 3 [.ref it1, .int (ln q1), .int (nI z1)], la G it1 24 I1, ob hb 3 [.ref it2, .int (ln q2), .int (nI z2)], la G it2 24 I2]) (wr := [ob x 6 [.ref w, .ref kw, .int (nI ik), .ref tp, .ref sx, .ref fo, .ref gu, .ref ch], ob w 5 [.ref now, .ref cr, .ref past, .int (nI o), .int (nI u)], sa G sx 4 pf, la G it1 24 I1, ob hb 3 [.ref it2, .int (ln q2), .int (nI z2)], la G it2 24 I2]) [3] [0, 1, 2, 4, 5, 6] [0, 1, 2, 6, 3, 4, 5] ⟨rfl, rfl, rfl, fun _ => rfl⟩ 0 rfl rfl rfl rfl ⟨Nat.le_refl _, Nat.le_refl _⟩ dX6_copy_76 rfl (fun r76 u76 hw76 => ?_)
            try dsimp only at hw76
            rcases Classical.em (fitsI i0 nn z1 = true) with b76 | b76
            · obtain rfl := hw76.1 b76
              refine zn_if_eq (tgt := 94) hX dX6_copy_79 (by decide) (by omega) (fun c79 => absurd c79 (by omega)) (fun _ => ?_)
              refine z_aload hX 0 dX6_copy_82 rfl ?_
              refine z_iload hX 6 dX6_copy_84 rfl ?_
              refine z_iload hX 7 dX6_copy_86 rfl ?_
              refine z_callVi (st := []) hX (c_X3_holds _ G hb it2 q2 z2 j0 nn (by omega)) lb_X3_holds ml_X6_282 (fun (_u : Unit) => [ob x 6 [.ref w, .ref kw, .int (nI ik), .ref tp, .ref sx, .ref fo, .ref gu, .ref ch], ob w 5 [.ref now, .ref cr, .ref past, .int (nI o), .int (nI u)], sa G sx 4 pf, ob ha 3 [.ref it1, .int (ln q1), .int (nI z1)], la G it1 24 I1, ob hb 3 [.ref it2, .int (ln q2), .int (nI z2)], la G it2 24 I2]) (wr := [ob x 6 [.ref w, .ref kw, .int (nI ik), .ref tp, .ref sx, .ref fo, .ref gu, .ref ch], ob w 5 [.ref now, .ref cr, .ref past, .int (nI o), .int (nI u)], sa G sx 4 pf, ob ha 3 [.ref it1, .int (ln q1), .int (nI z1)], la G it1 24 I1, la G it2 24 I2]) [5] [0, 1, 2, 3, 4, 6] [0, 1, 2, 3, 4, 6, 5] ⟨rfl, rfl, rfl, fun _ => rfl⟩ 0 rfl rfl rfl rfl ⟨Nat.le_refl _, Nat.le_refl _⟩ dX6_copy_88 rfl (fun r88 u88 hw88 => ?_)
              try dsimp only at hw88
              rcases Classical.em (fitsI j0 nn z2 = true) with b88 | b88
              · obtain rfl := hw88.1 b88
                refine zn_if_ne (tgt := 97) hX dX6_copy_91 (by decide) (by omega) (fun _ => ?_) (fun c91 => absurd c91 (by omega))
                obtain ⟨i0j, nnj, f4, rfl, rfl⟩ := fits_ex2 (by omega) b76
                obtain ⟨j0j, f5, rfl⟩ := fits_ex (by omega) b88
                refine z_aload hX 1 dX6_copy_97 rfl ?_
                refine z_get (v := .ref it1) hX fX3 3 0 rfl rfl (Nat.le_of_ble_eq_true rfl) fl_X6_267 rfl dX6_copy_99 ?_
                refine z_iload_n hX 4 dX6_copy_102 rfl ?_
                refine z_aload hX 0 dX6_copy_103 rfl ?_
                refine z_get (v := .ref it2) hX fX3 5 0 rfl rfl (Nat.le_of_ble_eq_true rfl) fl_X6_267 rfl dX6_copy_105 ?_
                refine z_iload hX 6 dX6_copy_108 rfl ?_
                refine z_iload hX 7 dX6_copy_110 rfl ?_
                refine z_copyl (ws' := [ob x 6 [.ref w, .ref kw, .int (nI ik), .ref tp, .ref sx, .ref fo, .ref gu, .ref ch], ob w 5 [.ref now, .ref cr, .ref past, .int (nI o), .int (nI u)], sa G sx 4 pf, ob ha 3 [.ref it1, .int (ln q1), .int (nI z1)], la G it1 24 I1, ob hb 3 [.ref it2, .int (ln q2), .int (nI z2)], la G it2 24 (va_cpy I1 I2 i0j j0j nnj)]) hX 4 6 rfl rfl ml_X6_285 (by decide) (by omega) (by omega) (by decide +kernel) rfl dX6_copy_112 ?_
                refine z_iload hX 7 dX6_copy_115 rfl ?_
                have e0 : spCopy q1 z1 q2 z2 (nI f0j) (nI i0j) (nI t0j) (nI j0j) (nI nnj) = nI nnj := by unfold spCopy okPl; rw [if_pos (by rw [inb_t (by omega) (by omega) (by omega), inb_t (by omega) (by omega) (by omega)]; rfl), if_neg (by omega), if_neg (by omega), if_pos ⟨b76, b88⟩]
                rw [e0, decide_eq_true rfl, decide_eq_true (nI_pos (by omega)), gN_nI (show i0j < 2147483648 by omega), gN_nI (show j0j < 2147483648 by omega), gN_nI (show nnj < 2147483648 by omega)] at hR
                exact hR _ () _ _ rfl dX6_copy_117 rfl
              · obtain rfl := hw88.2 b88
                refine zn_if_ne (tgt := 97) hX dX6_copy_91 (by decide) (by omega) (fun c91 => absurd c91 (by omega)) (fun _ => ?_)
                refine z_bipush (v := (-13)) hX dX6_copy_94 (by decide) ?_
                have e0 : spCopy q1 z1 q2 z2 (nI f0j) i0 (nI t0j) j0 nn = -13 := by unfold spCopy okPl; rw [if_pos (by rw [inb_t (by omega) (by omega) (by omega), inb_t (by omega) (by omega) (by omega)]; rfl), if_neg (by omega), if_neg (by omega), if_neg (by rintro ⟨za, zb⟩; first | exact b76 za | exact b88 zb)]
                rw [e0, neg_no nn (by decide)] at hR
                exact hR _ () _ _ rfl dX6_copy_96 rfl
            · obtain rfl := hw76.2 b76
              refine zn_if_eq (tgt := 94) hX dX6_copy_79 (by decide) (by omega) (fun _ => ?_) (fun c79 => absurd c79 (by omega))
              refine z_bipush (v := (-13)) hX dX6_copy_94 (by decide) ?_
              have e0 : spCopy q1 z1 q2 z2 (nI f0j) i0 (nI t0j) j0 nn = -13 := by unfold spCopy okPl; rw [if_pos (by rw [inb_t (by omega) (by omega) (by omega), inb_t (by omega) (by omega) (by omega)]; rfl), if_neg (by omega), if_neg (by omega), if_neg (by rintro ⟨za, zb⟩; first | exact b76 za | exact b88 zb)]
              rw [e0, neg_no nn (by decide)] at hR
              exact hR _ () _ _ rfl dX6_copy_96 rfl
          · rw [ln_inj (by omega) (by omega)] at c65
            refine z_bipush (v := (-12)) hX dX6_copy_68 (by decide) ?_
            have e0 : spCopy q1 z1 q2 z2 (nI f0j) i0 (nI t0j) j0 nn = -12 := by unfold spCopy okPl; rw [if_pos (by rw [inb_t (by omega) (by omega) (by omega), inb_t (by omega) (by omega) (by omega)]; rfl), if_neg (by omega), if_pos (by omega)]
            rw [e0, neg_no nn (by decide)] at hR
            exact hR _ () _ _ rfl dX6_copy_70 rfl
        · rw [ln_neg h2] at c49
          refine z_bipush (v := (-11)) hX dX6_copy_52 (by decide) ?_
          have e0 : spCopy q1 z1 q2 z2 (nI f0j) i0 (nI t0j) j0 nn = -11 := by unfold spCopy okPl; rw [if_pos (by rw [inb_t (by omega) (by omega) (by omega), inb_t (by omega) (by omega) (by omega)]; rfl), if_pos (by omega)]
          rw [e0, neg_no nn (by decide)] at hR
          exact hR _ () _ _ rfl dX6_copy_54 rfl
    · have hb_t0 : inb t0 0 3 = false := hw10
      refine zn_if_ne (tgt := 18) hX dX6_copy_13 (by decide) (by omega) (fun c13 => absurd c13 (by omega)) (fun _ => ?_)
      refine z_iconst (v := (-1)) hX dX6_copy_16 (by decide) ?_
      have e0 : spCopy q1 z1 q2 z2 (nI f0j) i0 t0 j0 nn = -1 := by unfold spCopy okPl; rw [if_neg (by simp [hb_t0])]
      rw [e0, neg_no nn (by decide)] at hR
      exact hR _ () _ _ rfl dX6_copy_17 rfl
  · have hb_f0 : inb f0 0 3 = false := hw2
    refine zn_if_eq (tgt := 16) hX dX6_copy_5 (by decide) (by omega) (fun _ => ?_) (fun c5 => absurd c5 (by omega))
    refine z_iconst (v := (-1)) hX dX6_copy_16 (by decide) ?_
    have e0 : spCopy q1 z1 q2 z2 f0 i0 t0 j0 nn = -1 := by unfold spCopy okPl; rw [if_neg (by simp [hb_f0])]
    rw [e0, neg_no nn (by decide)] at hR
    exact hR _ () _ _ rfl dX6_copy_17 rfl
set_option maxRecDepth 100000 in
set_option maxHeartbeats 4000000 in
theorem c_X6_image (l : Launch) (G : zG) (x : Nat) (w : Nat) (kw : Nat) (ik : Nat) (tp : Nat) (sx : Nat) (fo : Nat) (gu : Nat) (ch : Nat) (now : Nat) (nh : Nat) (cr : Nat) (past : Nat) (o : Nat) (u : Nat) (pm : Nat → Nat) (ph : Nat → Nat) (s : nst) (rho : Nat → nst) (ck : Nat) (cl : Nat) (ce : Nat) (sz : Nat) (fk : Nat → Int32) (fl : Nat → Int32) (fe : Nat → Int32) (now2 : Nat) (nh2 : Nat) (cr2 : Nat) (past2 : Nat) (pm2 : Nat → Nat) (ph2 : Nat → Nat) (o2 : Nat) (u2 : Nat) (s2 : nst) (rho2 : Nat → nst) (ck2 : Nat) (cl2 : Nat) (ce2 : Nat) (sz2 : Nat) (fk2 : Nat → Int32) (fl2 : Nat → Int32) (fe2 : Nat → Int32)  : zMi l G yX6_image cX6_image 1 .int 3 0 0 65 [.ref x] [ob x 6 [.ref w, .ref kw, .int (nI ik), .ref tp, .ref sx, .ref fo, .ref gu, .ref ch], ob w 5 [.ref now, .ref cr, .ref past, .int (nI o), .int (nI u)], ma G past 8 (pmf pm), ob now 2 (mf nh s), ia G nh 4 (fN (sh 7 s)), ob cr 1 [.ref ck, .ref cl, .ref ce, .int (nI sz)], ia G ck 6 fk, ia G cl 6 fl, ia G ce 6 fe, ob (pm 0) 2 (mf (ph 0) (rho 0)), ia G (ph 0) 4 (fN (sh 7 (rho 0))), ob (pm 1) 2 (mf (ph 1) (rho 1)), ia G (ph 1) 4 (fN (sh 7 (rho 1))), ob (pm 2) 2 (mf (ph 2) (rho 2)), ia G (ph 2) 4 (fN (sh 7 (rho 2))), ob (pm 3) 2 (mf (ph 3) (rho 3)), ia G (ph 3) 4 (fN (sh 7 (rho 3))), ob (pm 4) 2 (mf (ph 4) (rho 4)), ia G (ph 4) 4 (fN (sh 7 (rho 4))), ob (pm 5) 2 (mf (ph 5) (rho 5)), ia G (ph 5) 4 (fN (sh 7 (rho 5))), ob (pm 6) 2 (mf (ph 6) (rho 6)), ia G (ph 6) 4 (fN (sh 7 (rho 6))), ob (pm 7) 2 (mf (ph 7) (rho 7)), ia G (ph 7) 4 (fN (sh 7 (rho 7))), ob kw 5 [.ref now2, .ref cr2, .ref past2, .int (nI o2), .int (nI u2)], ma G past2 8 (pmf pm2), ob now2 2 (mf nh2 s2), ia G nh2 4 (fN (sh 7 s2)), ob cr2 1 [.ref ck2, .ref cl2, .ref ce2, .int (nI sz2)], ia G ck2 6 fk2, ia G cl2 6 fl2, ia G ce2 6 fe2, ob (pm2 0) 2 (mf (ph2 0) (rho2 0)), ia G (ph2 0) 4 (fN (sh 7 (rho2 0))), ob (pm2 1) 2 (mf (ph2 1) (rho2 1)), ia G (ph2 1) 4 (fN (sh 7 (rho2 1))), ob (pm2 2) 2 (mf (ph2 2) (rho2 2)), ia G (ph2 2) 4 (fN (sh 7 (rho2 2))), ob (pm2 3) 2 (mf (ph2 3) (rho2 3)), ia G (ph2 3) 4 (fN (sh 7 (rho2 3))), ob (pm2 4) 2 (mf (ph2 4) (rho2 4)), ia G (ph2 4) 4 (fN (sh 7 (rho2 4))), ob (pm2 5) 2 (mf (ph2 5) (rho2 5)), ia G (ph2 5) 4 (fN (sh 7 (rho2 5))), ob (pm2 6) 2 (mf (ph2 6) (rho2 6)), ia G (ph2 6) 4 (fN (sh 7 (rho2 6))), ob (pm2 7) 2 (mf (ph2 7) (rho2 7)), ia G (ph2 7) 4 (fN (sh 7 (rho2 7)))] (fun (r : Int32) (_u : Unit) => r = nI 1) (fun (_u : Unit) => [ob x 6 [.ref w, .ref kw, .int (nI 1), .ref tp, .ref sx, .ref fo, .ref gu, .ref ch], ob w 5 [.ref now, .ref cr, .ref past, .int (nI o), .int (nI u)], ma G past 8 (pmf pm), ob now 2 (mf nh s), ia G nh 4 (fN (sh 7 s)), ob cr 1 [.ref ck, .ref cl, .ref ce, .int (nI sz)], ia G ck 6 fk, ia G cl 6 fl, ia G ce 6 fe, ob (pm 0) 2 (mf (ph 0) (rho 0)), ia G (ph 0) 4 (fN (sh 7 (rho 0))), ob (pm 1) 2 (mf (ph 1) (rho 1)), ia G (ph 1) 4 (fN (sh 7 (rho 1))), ob (pm 2) 2 (mf (ph 2) (rho 2)), ia G (ph 2) 4 (fN (sh 7 (rho 2))), ob (pm 3) 2 (mf (ph 3) (rho 3)), ia G (ph 3) 4 (fN (sh 7 (rho 3))), ob (pm 4) 2 (mf (ph 4) (rho 4)), ia G (ph 4) 4 (fN (sh 7 (rho 4))), ob (pm 5) 2 (mf (ph 5) (rho 5)), ia G (ph 5) 4 (fN (sh 7 (rho 5))), ob (pm 6) 2 (mf (ph 6) (rho 6)), ia G (ph 6) 4 (fN (sh 7 (rho 6))), ob (pm 7) 2 (mf (ph 7) (rho 7)), ia G (ph 7) 4 (fN (sh 7 (rho 7))), ob kw 5 [.ref now2, .ref cr2, .ref past2, .int (nI o), .int (nI u)], ma G past2 8 (pmf pm2), ob now2 2 (mf nh2 s), ia G nh2 4 (fN (sh 7 s)), ob cr2 1 [.ref ck2, .ref cl2, .ref ce2, .int (nI sz)], ia G ck2 6 fk, ia G cl2 6 fl, ia G ce2 6 fe, ob (pm2 0) 2 (mf (ph2 0) (rho 0)), ia G (ph2 0) 4 (fN (sh 7 (rho 0))), ob (pm2 1) 2 (mf (ph2 1) (rho 1)), ia G (ph2 1) 4 (fN (sh 7 (rho 1))), ob (pm2 2) 2 (mf (ph2 2) (rho 2)), ia G (ph2 2) 4 (fN (sh 7 (rho 2))), ob (pm2 3) 2 (mf (ph2 3) (rho 3)), ia G (ph2 3) 4 (fN (sh 7 (rho 3))), ob (pm2 4) 2 (mf (ph2 4) (rho 4)), ia G (ph2 4) 4 (fN (sh 7 (rho 4))), ob (pm2 5) 2 (mf (ph2 5) (rho 5)), ia G (ph2 5) 4 (fN (sh 7 (rho 5))), ob (pm2 6) 2 (mf (ph2 6) (rho 6)), ia G (ph2 6) 4 (fN (sh 7 (rho 6))), ob (pm2 7) 2 (mf (ph2 7) (rho 7)), ia G (ph2 7) 4 (fN (sh 7 (rho 7)))]) := by
  refine zMi.of (by decide) rfl (fun X A H0 hX hXl hR => ?_)
  show Z (X, G, A, H0, 1) 0 0 [ob x 6 [.ref w, .ref kw, .int (nI ik), .ref tp, .ref sx, .ref fo, .ref gu, .ref ch], ob w 5 [.ref now, .ref cr, .ref past, .int (nI o), .int (nI u)], ma G past 8 (pmf pm), ob now 2 (mf nh s), ia G nh 4 (fN (sh 7 s)), ob cr 1 [.ref ck, .ref cl, .ref ce, .int (nI sz)], ia G ck 6 fk, ia G cl 6 fl, ia G ce 6 fe, ob (pm 0) 2 (mf (ph 0) (rho 0)), ia G (ph 0) 4 (fN (sh 7 (rho 0))), ob (pm 1) 2 (mf (ph 1) (rho 1)), ia G (ph 1) 4 (fN (sh 7 (rho 1))), ob (pm 2) 2 (mf (ph 2) (rho 2)), ia G (ph 2) 4 (fN (sh 7 (rho 2))), ob (pm 3) 2 (mf (ph 3) (rho 3)), ia G (ph 3) 4 (fN (sh 7 (rho 3))), ob (pm 4) 2 (mf (ph 4) (rho 4)), ia G (ph 4) 4 (fN (sh 7 (rho 4))), ob (pm 5) 2 (mf (ph 5) (rho 5)), ia G (ph 5) 4 (fN (sh 7 (rho 5))), ob (pm 6) 2 (mf (ph 6) (rho 6)), ia G (ph 6) 4 (fN (sh 7 (rho 6))), ob (pm 7) 2 (mf (ph 7) (rho 7)), ia G (ph 7) 4 (fN (sh 7 (rho 7))), ob kw 5 [.ref now2, .ref cr2, .ref past2, .int (nI o2), .int (nI u2)], ma G past2 8 (pmf pm2), ob now2 2 (mf nh2 s2), ia G nh2 4 (fN (sh 7 s2)), ob cr2 1 [.ref ck2, .ref cl2, .ref ce2, .int (nI sz2)], ia G ck2 6 fk2, ia G cl2 6 fl2, ia G ce2 6 fe2, ob (pm2 0) 2 (mf (ph2 0) (rho2 0)), ia G (ph2 0) 4 (fN (sh 7 (rho2 0))), ob (pm2 1) 2 (mf (ph2 1) (rho2 1)), ia G (ph2 1) 4 (fN (sh 7 (rho2 1))), ob (pm2 2) 2 (mf (ph2 2) (rho2 2)), ia G (ph2 2) 4 (fN (sh 7 (rho2 2))), ob (pm2 3) 2 (mf (ph2 3) (rho2 3)), ia G (ph2 3) 4 (fN (sh 7 (rho2 3))), ob (pm2 4) 2 (mf (ph2 4) (rho2 4)), ia G (ph2 4) 4 (fN (sh 7 (rho2 4))), ob (pm2 5) 2 (mf (ph2 5) (rho2 5)), ia G (ph2 5) 4 (fN (sh 7 (rho2 5))), ob (pm2 6) 2 (mf (ph2 6) (rho2 6)), ia G (ph2 6) 4 (fN (sh 7 (rho2 6))), ob (pm2 7) 2 (mf (ph2 7) (rho2 7)), ia G (ph2 7) 4 (fN (sh 7 (rho2 7)))] 0 [(0, .ref x)] []
  subst hXl
  refine z_aload_n hX 0 dX6_image_0 rfl ?_
  refine z_get (v := .ref kw) hX fX6 0 1 rfl rfl (Nat.le_of_ble_eq_true rfl) fl_X6_16 rfl dX6_image_1 ?_
  refine z_aload_n hX 0 dX6_image_4 rfl ?_
  refine z_get (v := .ref w) hX fX6 0 0 rfl rfl (Nat.le_of_ble_eq_true rfl) fl_X6_10 rfl dX6_image_5 ?_
  refine z_callVv (st := []) hX (c_X5_take _ G kw now2 nh2 past2 pm2 ph2 o2 u2 s2 rho2 cr2 ck2 cl2 ce2 sz2 fk2 fl2 fe2 w now nh past pm ph o u s rho cr ck cl ce sz fk fl fe ) lb_X5_take ml_X6_241 (fun (_u : Unit) => [ob x 6 [.ref w, .ref kw, .int (nI ik), .ref tp, .ref sx, .ref fo, .ref gu, .ref ch], ob w 5 [.ref now, .ref cr, .ref past, .int (nI o), .int (nI u)], ma G past 8 (pmf pm), ob now 2 (mf nh s), ia G nh 4 (fN (sh 7 s)), ob cr 1 [.ref ck, .ref cl, .ref ce, .int (nI sz)], ia G ck 6 fk, ia G cl 6 fl, ia G ce 6 fe, ob (pm 0) 2 (mf (ph 0) (rho 0)), ia G (ph 0) 4 (fN (sh 7 (rho 0))), ob (pm 1) 2 (mf (ph 1) (rho 1)), ia G (ph 1) 4 (fN (sh 7 (rho 1))), ob (pm 2) 2 (mf (ph 2) (rho 2)), ia G (ph 2) 4 (fN (sh 7 (rho 2))), ob (pm 3) 2 (mf (ph 3) (rho 3)), ia G (ph 3) 4 (fN (sh 7 (rho 3))), ob (pm 4) 2 (mf (ph 4) (rho 4)), ia G (ph 4) 4 (fN (sh 7 (rho 4))), ob (pm 5) 2 (mf (ph 5) (rho 5)), ia G (ph 5) 4 (fN (sh 7 (rho 5))), ob (pm 6) 2 (mf (ph 6) (rho 6)), ia G (ph 6) 4 (fN (sh 7 (rho 6))), ob (pm 7) 2 (mf (ph 7) (rho 7)), ia G (ph 7) 4 (fN (sh 7 (rho 7))), ob kw 5 [.ref now2, .ref cr2, .ref past2, .int (nI o), .int (nI u)], ma G past2 8 (pmf pm2), ob now2 2 (mf nh2 s), ia G nh2 4 (fN (sh 7 s)), ob cr2 1 [.ref ck2, .ref cl2, .ref ce2, .int (nI sz)], ia G ck2 6 fk, ia G cl2 6 fl, ia G ce2 6 fe, ob (pm2 0) 2 (mf (ph2 0) (rho 0)), ia G (ph2 0) 4 (fN (sh 7 (rho 0))), ob (pm2 1) 2 (mf (ph2 1) (rho 1)), ia G (ph2 1) 4 (fN (sh 7 (rho 1))), ob (pm2 2) 2 (mf (ph2 2) (rho 2)), ia G (ph2 2) 4 (fN (sh 7 (rho 2))), ob (pm2 3) 2 (mf (ph2 3) (rho 3)), ia G (ph2 3) 4 (fN (sh 7 (rho 3))), ob (pm2 4) 2 (mf (ph2 4) (rho 4)), ia G (ph2 4) 4 (fN (sh 7 (rho 4))), ob (pm2 5) 2 (mf (ph2 5) (rho 5)), ia G (ph2 5) 4 (fN (sh 7 (rho 5))), ob (pm2 6) 2 (mf (ph2 6) (rho 6)), ia G (ph2 6) 4 (fN (sh 7 (rho 6))), ob (pm2 7) 2 (mf (ph2 7) (rho 7)), ia G (ph2 7) 4 (fN (sh 7 (rho 7)))]) (wr := [ob x 6 [.ref w, .ref kw, .int (nI ik), .ref tp, .ref sx, .ref fo, .ref gu, .ref ch]]) [25, 26, 27, 28, 29, 30, 31, 32, 33, 34, 35, 36, 37, 38, 39, 40, 41, 42, 43, 44, 45, 46, 47, 48, 1, 2, 3, 4, 5, 6, 7, 8, 9, 10, 11, 12, 13, 14, 15, 16, 17, 18, 19, 20, 21, 22, 23, 24] [0] [0, 25, 26, 27, 28, 29, 30, 31, 32, 33, 34, 35, 36, 37, 38, 39, 40, 41, 42, 43, 44, 45, 46, 47, 48, 1, 2, 3, 4, 5, 6, 7, 8, 9, 10, 11, 12, 13, 14, 15, 16, 17, 18, 19, 20, 21, 22, 23, 24] ⟨rfl, rfl, rfl, fun _ => rfl⟩ 0 rfl rfl rfl rfl ⟨Nat.le_refl _, Nat.le_refl _⟩ dX6_image_8 rfl (fun  u8 hw8 => ?_)
  refine z_aload_n hX 0 dX6_image_11 rfl ?_
  refine z_iconst (v := nI 1) hX dX6_image_12 (by decide) ?_
  refine z_put (v := .int (nI 1)) (ws' := [ob x 6 [.ref w, .ref kw, .int (nI 1), .ref tp, .ref sx, .ref fo, .ref gu, .ref ch], ob w 5 [.ref now, .ref cr, .ref past, .int (nI o), .int (nI u)], ma G past 8 (pmf pm), ob now 2 (mf nh s), ia G nh 4 (fN (sh 7 s)), ob cr 1 [.ref ck, .ref cl, .ref ce, .int (nI sz)], ia G ck 6 fk, ia G cl 6 fl, ia G ce 6 fe, ob (pm 0) 2 (mf (ph 0) (rho 0)), ia G (ph 0) 4 (fN (sh 7 (rho 0))), ob (pm 1) 2 (mf (ph 1) (rho 1)), ia G (ph 1) 4 (fN (sh 7 (rho 1))), ob (pm 2) 2 (mf (ph 2) (rho 2)), ia G (ph 2) 4 (fN (sh 7 (rho 2))), ob (pm 3) 2 (mf (ph 3) (rho 3)), ia G (ph 3) 4 (fN (sh 7 (rho 3))), ob (pm 4) 2 (mf (ph 4) (rho 4)), ia G (ph 4) 4 (fN (sh 7 (rho 4))), ob (pm 5) 2 (mf (ph 5) (rho 5)), ia G (ph 5) 4 (fN (sh 7 (rho 5))), ob (pm 6) 2 (mf (ph 6) (rho 6)), ia G (ph 6) 4 (fN (sh 7 (rho 6))), ob (pm 7) 2 (mf (ph 7) (rho 7)), ia G (ph 7) 4 (fN (sh 7 (rho 7))), ob kw 5 [.ref now2, .ref cr2, .ref past2, .int (nI o), .int (nI u)], ma G past2 8 (pmf pm2), ob now2 2 (mf nh2 s), ia G nh2 4 (fN (sh 7 s)), ob cr2 1 [.ref ck2, .ref cl2, .ref ce2, .int (nI sz)], ia G ck2 6 fk, ia G cl2 6 fl, ia G ce2 6 fe, ob (pm2 0) 2 (mf (ph2 0) (rho 0)), ia G (ph2 0) 4 (fN (sh 7 (rho 0))), ob (pm2 1) 2 (mf (ph2 1) (rho 1)), ia G (ph2 1) 4 (fN (sh 7 (rho 1))), ob (pm2 2) 2 (mf (ph2 2) (rho 2)), ia G (ph2 2) 4 (fN (sh 7 (rho 2))), ob (pm2 3) 2 (mf (ph2 3) (rho 3)), ia G (ph2 3) 4 (fN (sh 7 (rho 3))), ob (pm2 4) 2 (mf (ph2 4) (rho 4)), ia G (ph2 4) 4 (fN (sh 7 (rho 4))), ob (pm2 5) 2 (mf (ph2 5) (rho 5)), ia G (ph2 5) 4 (fN (sh 7 (rho 5))), ob (pm2 6) 2 (mf (ph2 6) (rho 6)), ia G (ph2 6) 4 (fN (sh 7 (rho 6))), ob (pm2 7) 2 (mf (ph2 7) (rho 7)), ia G (ph2 7) 4 (fN (sh 7 (rho 7)))]) hX fX6 0 2 rfl rfl (Nat.le_of_ble_eq_true rfl) fl_X6_19 rfl rfl rfl rfl rfl dX6_image_13 ?_
  refine z_iconst (v := nI 1) hX dX6_image_16 (by decide) ?_
  exact hR _ () _ _ rfl dX6_image_17 rfl
set_option maxRecDepth 100000 in
set_option maxHeartbeats 4000000 in
theorem c_X6_restore0 (l : Launch) (G : zG) (x : Nat) (w : Nat) (kw : Nat) (ik : Nat) (tp : Nat) (sx : Nat) (fo : Nat) (gu : Nat) (ch : Nat) (now : Nat) (nh : Nat) (cr : Nat) (past : Nat) (o : Nat) (u : Nat)  : zMi l G yX6_restore cX6_restore 1 .int 0 0 0 0 [.ref x] [ob x 6 [.ref w, .ref kw, .int (nI 0), .ref tp, .ref sx, .ref fo, .ref gu, .ref ch]] (fun (r : Int32) (_u : Unit) => r = -4) (fun (_u : Unit) => [ob x 6 [.ref w, .ref kw, .int (nI 0), .ref tp, .ref sx, .ref fo, .ref gu, .ref ch]]) := by
  refine zMi.of (by decide) rfl (fun X A H0 hX hXl hR => ?_)
  show Z (X, G, A, H0, 1) 0 0 [ob x 6 [.ref w, .ref kw, .int (nI 0), .ref tp, .ref sx, .ref fo, .ref gu, .ref ch]] 0 [(0, .ref x)] []
  subst hXl
  refine z_aload_n hX 0 dX6_restore_0 rfl ?_
  refine z_get (v := .int (nI 0)) hX fX6 0 2 rfl rfl (Nat.le_of_ble_eq_true rfl) fl_X6_19 rfl dX6_restore_1 ?_
  refine zn_if_ne (tgt := 10) hX dX6_restore_4 (by decide) (by omega) (fun c4 => absurd c4 (by omega)) (fun _ => ?_)
  refine z_bipush (v := (-4)) hX dX6_restore_7 (by decide) ?_
  exact hR _ () _ _ rfl dX6_restore_9 rfl
set_option maxRecDepth 100000 in
set_option maxHeartbeats 4000000 in
theorem c_X6_restore1 (l : Launch) (G : zG) (x : Nat) (w : Nat) (kw : Nat) (ik : Nat) (tp : Nat) (sx : Nat) (fo : Nat) (gu : Nat) (ch : Nat) (now : Nat) (nh : Nat) (cr : Nat) (past : Nat) (o : Nat) (u : Nat) (pm : Nat → Nat) (ph : Nat → Nat) (s : nst) (rho : Nat → nst) (ck : Nat) (cl : Nat) (ce : Nat) (sz : Nat) (fk : Nat → Int32) (fl : Nat → Int32) (fe : Nat → Int32) (now2 : Nat) (nh2 : Nat) (cr2 : Nat) (past2 : Nat) (pm2 : Nat → Nat) (ph2 : Nat → Nat) (o2 : Nat) (u2 : Nat) (s2 : nst) (rho2 : Nat → nst) (ck2 : Nat) (cl2 : Nat) (ce2 : Nat) (sz2 : Nat) (fk2 : Nat → Int32) (fl2 : Nat → Int32) (fe2 : Nat → Int32)  : zMi l G yX6_restore cX6_restore 1 .int 3 0 0 65 [.ref x] [ob x 6 [.ref w, .ref kw, .int (nI 1), .ref tp, .ref sx, .ref fo, .ref gu, .ref ch], ob w 5 [.ref now, .ref cr, .ref past, .int (nI o), .int (nI u)], ma G past 8 (pmf pm), ob now 2 (mf nh s), ia G nh 4 (fN (sh 7 s)), ob cr 1 [.ref ck, .ref cl, .ref ce, .int (nI sz)], ia G ck 6 fk, ia G cl 6 fl, ia G ce 6 fe, ob (pm 0) 2 (mf (ph 0) (rho 0)), ia G (ph 0) 4 (fN (sh 7 (rho 0))), ob (pm 1) 2 (mf (ph 1) (rho 1)), ia G (ph 1) 4 (fN (sh 7 (rho 1))), ob (pm 2) 2 (mf (ph 2) (rho 2)), ia G (ph 2) 4 (fN (sh 7 (rho 2))), ob (pm 3) 2 (mf (ph 3) (rho 3)), ia G (ph 3) 4 (fN (sh 7 (rho 3))), ob (pm 4) 2 (mf (ph 4) (rho 4)), ia G (ph 4) 4 (fN (sh 7 (rho 4))), ob (pm 5) 2 (mf (ph 5) (rho 5)), ia G (ph 5) 4 (fN (sh 7 (rho 5))), ob (pm 6) 2 (mf (ph 6) (rho 6)), ia G (ph 6) 4 (fN (sh 7 (rho 6))), ob (pm 7) 2 (mf (ph 7) (rho 7)), ia G (ph 7) 4 (fN (sh 7 (rho 7))), ob kw 5 [.ref now2, .ref cr2, .ref past2, .int (nI o2), .int (nI u2)], ma G past2 8 (pmf pm2), ob now2 2 (mf nh2 s2), ia G nh2 4 (fN (sh 7 s2)), ob cr2 1 [.ref ck2, .ref cl2, .ref ce2, .int (nI sz2)], ia G ck2 6 fk2, ia G cl2 6 fl2, ia G ce2 6 fe2, ob (pm2 0) 2 (mf (ph2 0) (rho2 0)), ia G (ph2 0) 4 (fN (sh 7 (rho2 0))), ob (pm2 1) 2 (mf (ph2 1) (rho2 1)), ia G (ph2 1) 4 (fN (sh 7 (rho2 1))), ob (pm2 2) 2 (mf (ph2 2) (rho2 2)), ia G (ph2 2) 4 (fN (sh 7 (rho2 2))), ob (pm2 3) 2 (mf (ph2 3) (rho2 3)), ia G (ph2 3) 4 (fN (sh 7 (rho2 3))), ob (pm2 4) 2 (mf (ph2 4) (rho2 4)), ia G (ph2 4) 4 (fN (sh 7 (rho2 4))), ob (pm2 5) 2 (mf (ph2 5) (rho2 5)), ia G (ph2 5) 4 (fN (sh 7 (rho2 5))), ob (pm2 6) 2 (mf (ph2 6) (rho2 6)), ia G (ph2 6) 4 (fN (sh 7 (rho2 6))), ob (pm2 7) 2 (mf (ph2 7) (rho2 7)), ia G (ph2 7) 4 (fN (sh 7 (rho2 7)))] (fun (r : Int32) (_u : Unit) => r = nI 1) (fun (_u : Unit) => [ob x 6 [.ref w, .ref kw, .int (nI 1), .ref tp, .ref sx, .ref fo, .ref gu, .ref ch], ob w 5 [.ref now, .ref cr, .ref past, .int (nI o2), .int (nI u2)], ma G past 8 (pmf pm), ob now 2 (mf nh s2), ia G nh 4 (fN (sh 7 s2)), ob cr 1 [.ref ck, .ref cl, .ref ce, .int (nI sz2)], ia G ck 6 fk2, ia G cl 6 fl2, ia G ce 6 fe2, ob (pm 0) 2 (mf (ph 0) (rho2 0)), ia G (ph 0) 4 (fN (sh 7 (rho2 0))), ob (pm 1) 2 (mf (ph 1) (rho2 1)), ia G (ph 1) 4 (fN (sh 7 (rho2 1))), ob (pm 2) 2 (mf (ph 2) (rho2 2)), ia G (ph 2) 4 (fN (sh 7 (rho2 2))), ob (pm 3) 2 (mf (ph 3) (rho2 3)), ia G (ph 3) 4 (fN (sh 7 (rho2 3))), ob (pm 4) 2 (mf (ph 4) (rho2 4)), ia G (ph 4) 4 (fN (sh 7 (rho2 4))), ob (pm 5) 2 (mf (ph 5) (rho2 5)), ia G (ph 5) 4 (fN (sh 7 (rho2 5))), ob (pm 6) 2 (mf (ph 6) (rho2 6)), ia G (ph 6) 4 (fN (sh 7 (rho2 6))), ob (pm 7) 2 (mf (ph 7) (rho2 7)), ia G (ph 7) 4 (fN (sh 7 (rho2 7))), ob kw 5 [.ref now2, .ref cr2, .ref past2, .int (nI o2), .int (nI u2)], ma G past2 8 (pmf pm2), ob now2 2 (mf nh2 s2), ia G nh2 4 (fN (sh 7 s2)), ob cr2 1 [.ref ck2, .ref cl2, .ref ce2, .int (nI sz2)], ia G ck2 6 fk2, ia G cl2 6 fl2, ia G ce2 6 fe2, ob (pm2 0) 2 (mf (ph2 0) (rho2 0)), ia G (ph2 0) 4 (fN (sh 7 (rho2 0))), ob (pm2 1) 2 (mf (ph2 1) (rho2 1)), ia G (ph2 1) 4 (fN (sh 7 (rho2 1))), ob (pm2 2) 2 (mf (ph2 2) (rho2 2)), ia G (ph2 2) 4 (fN (sh 7 (rho2 2))), ob (pm2 3) 2 (mf (ph2 3) (rho2 3)), ia G (ph2 3) 4 (fN (sh 7 (rho2 3))), ob (pm2 4) 2 (mf (ph2 4) (rho2 4)), ia G (ph2 4) 4 (fN (sh 7 (rho2 4))), ob (pm2 5) 2 (mf (ph2 5) (rho2 5)), ia G (ph2 5) 4 (fN (sh 7 (rho2 5))), ob (pm2 6) 2 (mf (ph2 6) (rho2 6)), ia G (ph2 6) 4 (fN (sh 7 (rho2 6))), ob (pm2 7) 2 (mf (ph2 7) (rho2 7)), ia G (ph2 7) 4 (fN (sh 7 (rho2 7)))]) := by
  refine zMi.of (by decide) rfl (fun X A H0 hX hXl hR => ?_)
  show Z (X, G, A, H0, 1) 0 0 [ob x 6 [.ref w, .ref kw, .int (nI 1), .ref tp, .ref sx, .ref fo, .ref gu, .ref ch], ob w 5 [.ref now, .ref cr, .ref past, .int (nI o), .int (nI u)], ma G past 8 (pmf pm), ob now 2 (mf nh s), ia G nh 4 (fN (sh 7 s)), ob cr 1 [.ref ck, .ref cl, .ref ce, .int (nI sz)], ia G ck 6 fk, ia G cl 6 fl, ia G ce 6 fe, ob (pm 0) 2 (mf (ph 0) (rho 0)), ia G (ph 0) 4 (fN (sh 7 (rho 0))), ob (pm 1) 2 (mf (ph 1) (rho 1)), ia G (ph 1) 4 (fN (sh 7 (rho 1))), ob (pm 2) 2 (mf (ph 2) (rho 2)), ia G (ph 2) 4 (fN (sh 7 (rho 2))), ob (pm 3) 2 (mf (ph 3) (rho 3)), ia G (ph 3) 4 (fN (sh 7 (rho 3))), ob (pm 4) 2 (mf (ph 4) (rho 4)), ia G (ph 4) 4 (fN (sh 7 (rho 4))), ob (pm 5) 2 (mf (ph 5) (rho 5)), ia G (ph 5) 4 (fN (sh 7 (rho 5))), ob (pm 6) 2 (mf (ph 6) (rho 6)), ia G (ph 6) 4 (fN (sh 7 (rho 6))), ob (pm 7) 2 (mf (ph 7) (rho 7)), ia G (ph 7) 4 (fN (sh 7 (rho 7))), ob kw 5 [.ref now2, .ref cr2, .ref past2, .int (nI o2), .int (nI u2)], ma G past2 8 (pmf pm2), ob now2 2 (mf nh2 s2), ia G nh2 4 (fN (sh 7 s2)), ob cr2 1 [.ref ck2, .ref cl2, .ref ce2, .int (nI sz2)], ia G ck2 6 fk2, ia G cl2 6 fl2, ia G ce2 6 fe2, ob (pm2 0) 2 (mf (ph2 0) (rho2 0)), ia G (ph2 0) 4 (fN (sh 7 (rho2 0))), ob (pm2 1) 2 (mf (ph2 1) (rho2 1)), ia G (ph2 1) 4 (fN (sh 7 (rho2 1))), ob (pm2 2) 2 (mf (ph2 2) (rho2 2)), ia G (ph2 2) 4 (fN (sh 7 (rho2 2))), ob (pm2 3) 2 (mf (ph2 3) (rho2 3)), ia G (ph2 3) 4 (fN (sh 7 (rho2 3))), ob (pm2 4) 2 (mf (ph2 4) (rho2 4)), ia G (ph2 4) 4 (fN (sh 7 (rho2 4))), ob (pm2 5) 2 (mf (ph2 5) (rho2 5)), ia G (ph2 5) 4 (fN (sh 7 (rho2 5))), ob (pm2 6) 2 (mf (ph2 6) (rho2 6)), ia G (ph2 6) 4 (fN (sh 7 (rho2 6))), ob (pm2 7) 2 (mf (ph2 7) (rho2 7)), ia G (ph2 7) 4 (fN (sh 7 (rho2 7)))] 0 [(0, .ref x)] []
  subst hXl
  refine z_aload_n hX 0 dX6_restore_0 rfl ?_
  refine z_get (v := .int (nI 1)) hX fX6 0 2 rfl rfl (Nat.le_of_ble_eq_true rfl) fl_X6_19 rfl dX6_restore_1 ?_
  refine zn_if_ne (tgt := 10) hX dX6_restore_4 (by decide) (by omega) (fun _ => ?_) (fun c4 => absurd c4 (by omega))
  refine z_aload_n hX 0 dX6_restore_10 rfl ?_
  refine z_get (v := .ref w) hX fX6 0 0 rfl rfl (Nat.le_of_ble_eq_true rfl) fl_X6_10 rfl dX6_restore_11 ?_
  refine z_aload_n hX 0 dX6_restore_14 rfl ?_
  refine z_get (v := .ref kw) hX fX6 0 1 rfl rfl (Nat.le_of_ble_eq_true rfl) fl_X6_16 rfl dX6_restore_15 ?_
  refine z_callVv (st := []) hX (c_X5_take _ G w now nh past pm ph o u s rho cr ck cl ce sz fk fl fe kw now2 nh2 past2 pm2 ph2 o2 u2 s2 rho2 cr2 ck2 cl2 ce2 sz2 fk2 fl2 fe2 ) lb_X5_take ml_X6_241 (fun (_u : Unit) => [ob x 6 [.ref w, .ref kw, .int (nI 1), .ref tp, .ref sx, .ref fo, .ref gu, .ref ch], ob w 5 [.ref now, .ref cr, .ref past, .int (nI o2), .int (nI u2)], ma G past 8 (pmf pm), ob now 2 (mf nh s2), ia G nh 4 (fN (sh 7 s2)), ob cr 1 [.ref ck, .ref cl, .ref ce, .int (nI sz2)], ia G ck 6 fk2, ia G cl 6 fl2, ia G ce 6 fe2, ob (pm 0) 2 (mf (ph 0) (rho2 0)), ia G (ph 0) 4 (fN (sh 7 (rho2 0))), ob (pm 1) 2 (mf (ph 1) (rho2 1)), ia G (ph 1) 4 (fN (sh 7 (rho2 1))), ob (pm 2) 2 (mf (ph 2) (rho2 2)), ia G (ph 2) 4 (fN (sh 7 (rho2 2))), ob (pm 3) 2 (mf (ph 3) (rho2 3)), ia G (ph 3) 4 (fN (sh 7 (rho2 3))), ob (pm 4) 2 (mf (ph 4) (rho2 4)), ia G (ph 4) 4 (fN (sh 7 (rho2 4))), ob (pm 5) 2 (mf (ph 5) (rho2 5)), ia G (ph 5) 4 (fN (sh 7 (rho2 5))), ob (pm 6) 2 (mf (ph 6) (rho2 6)), ia G (ph 6) 4 (fN (sh 7 (rho2 6))), ob (pm 7) 2 (mf (ph 7) (rho2 7)), ia G (ph 7) 4 (fN (sh 7 (rho2 7))), ob kw 5 [.ref now2, .ref cr2, .ref past2, .int (nI o2), .int (nI u2)], ma G past2 8 (pmf pm2), ob now2 2 (mf nh2 s2), ia G nh2 4 (fN (sh 7 s2)), ob cr2 1 [.ref ck2, .ref cl2, .ref ce2, .int (nI sz2)], ia G ck2 6 fk2, ia G cl2 6 fl2, ia G ce2 6 fe2, ob (pm2 0) 2 (mf (ph2 0) (rho2 0)), ia G (ph2 0) 4 (fN (sh 7 (rho2 0))), ob (pm2 1) 2 (mf (ph2 1) (rho2 1)), ia G (ph2 1) 4 (fN (sh 7 (rho2 1))), ob (pm2 2) 2 (mf (ph2 2) (rho2 2)), ia G (ph2 2) 4 (fN (sh 7 (rho2 2))), ob (pm2 3) 2 (mf (ph2 3) (rho2 3)), ia G (ph2 3) 4 (fN (sh 7 (rho2 3))), ob (pm2 4) 2 (mf (ph2 4) (rho2 4)), ia G (ph2 4) 4 (fN (sh 7 (rho2 4))), ob (pm2 5) 2 (mf (ph2 5) (rho2 5)), ia G (ph2 5) 4 (fN (sh 7 (rho2 5))), ob (pm2 6) 2 (mf (ph2 6) (rho2 6)), ia G (ph2 6) 4 (fN (sh 7 (rho2 6))), ob (pm2 7) 2 (mf (ph2 7) (rho2 7)), ia G (ph2 7) 4 (fN (sh 7 (rho2 7)))]) (wr := [ob x 6 [.ref w, .ref kw, .int (nI 1), .ref tp, .ref sx, .ref fo, .ref gu, .ref ch]]) [1, 2, 3, 4, 5, 6, 7, 8, 9, 10, 11, 12, 13, 14, 15, 16, 17, 18, 19, 20, 21, 22, 23, 24, 25, 26, 27, 28, 29, 30, 31, 32, 33, 34, 35, 36, 37, 38, 39, 40, 41, 42, 43, 44, 45, 46, 47, 48] [0] [0, 1, 2, 3, 4, 5, 6, 7, 8, 9, 10, 11, 12, 13, 14, 15, 16, 17, 18, 19, 20, 21, 22, 23, 24, 25, 26, 27, 28, 29, 30, 31, 32, 33, 34, 35, 36, 37, 38, 39, 40, 41, 42, 43, 44, 45, 46, 47, 48] ⟨rfl, rfl, rfl, fun _ => rfl⟩ 0 rfl rfl rfl rfl ⟨Nat.le_refl _, Nat.le_refl _⟩ dX6_restore_18 rfl (fun  u18 hw18 => ?_)
  refine z_iconst (v := nI 1) hX dX6_restore_21 (by decide) ?_
  exact hR _ () _ _ rfl dX6_restore_22 rfl
