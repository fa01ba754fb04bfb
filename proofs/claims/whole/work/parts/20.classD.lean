set_option maxRecDepth 100000 in
set_option maxHeartbeats 4000000 in
theorem c_X6_isTraveller (l : Launch) (G : zG) (x : Nat) (w : Nat) (kw : Nat) (ik : Nat) (tp : Nat) (sx : Nat) (fo : Nat) (gu : Nat) (ch : Nat) (now : Nat) (nh : Nat) (cr : Nat) (past : Nat) (o : Nat) (u : Nat) (ck : Nat) (cl : Nat) (ce : Nat) (sz : Nat) (t : Int32) (h0 : sz < 2147483648) : zMi l G yX6_isTraveller cX6_isTraveller 2 .boolean 1 0 0 21 [.ref x, .int t] [ob x 6 [.ref w, .ref kw, .int (nI ik), .ref tp, .ref sx, .ref fo, .ref gu, .ref ch], ob w 5 [.ref now, .ref cr, .ref past, .int (nI o), .int (nI u)], ob cr 1 [.ref ck, .ref cl, .ref ce, .int (nI sz)]] (fun (r : Int32) (_u : Unit) => (∃ j, j < sz ∧ t = nI j ∧ r = nI 1) ∨ (inb t 0 ((sz : Nat) - 1 : Int) = false ∧ r = nI 0)) (fun (_u : Unit) => [ob x 6 [.ref w, .ref kw, .int (nI ik), .ref tp, .ref sx, .ref fo, .ref gu, .ref ch], ob w 5 [.ref now, .ref cr, .ref past, .int (nI o), .int (nI u)], ob cr 1 [.ref ck, .ref cl, .ref ce, .int (nI sz)]]) := by
  refine zMi.of (by decide) rfl (fun X A H0 hX hXl hR => ?_)
  show Z (X, G, A, H0, 2) 0 0 [ob x 6 [.ref w, .ref kw, .int (nI ik), .ref tp, .ref sx, .ref fo, .ref gu, .ref ch], ob w 5 [.ref now, .ref cr, .ref past, .int (nI o), .int (nI u)], ob cr 1 [.ref ck, .ref cl, .ref ce, .int (nI sz)]] 0 [(0, .ref x), (1, .int t)] []
  subst hXl
  refine z_iload_n hX 1 dX6_isTraveller_0 rfl ?_
  refine z_aload_n hX 0 dX6_isTraveller_1 rfl ?_
  refine z_get (v := .ref w) hX fX6 0 0 rfl rfl (Nat.le_of_ble_eq_true rfl) fl_X6_10 rfl dX6_isTraveller_2 ?_
  refine z_get (v := .ref cr) hX fX5 1 1 rfl rfl (Nat.le_of_ble_eq_true rfl) fl_X6_66 rfl dX6_isTraveller_5 ?_
  refine z_get (v := .int (nI sz)) hX fX1 2 3 rfl rfl (Nat.le_of_ble_eq_true rfl) fl_X6_80 rfl dX6_isTraveller_8 ?_
  refine z_callSi (st := []) hX (c_X6_isBelowX _ G t sz (by omega)) lb_X6_isBelow ml_X6_58 (fun (_u : Unit) => [ob x 6 [.ref w, .ref kw, .int (nI ik), .ref tp, .ref sx, .ref fo, .ref gu, .ref ch], ob w 5 [.ref now, .ref cr, .ref past, .int (nI o), .int (nI u)], ob cr 1 [.ref ck, .ref cl, .ref ce, .int (nI sz)]]) (wr := [ob x 6 [.ref w, .ref kw, .int (nI ik), .ref tp, .ref sx, .ref fo, .ref gu, .ref ch], ob w 5 [.ref now, .ref cr, .ref past, .int (nI o), .int (nI u)], ob cr 1 [.ref ck, .ref cl, .ref ce, .int (nI sz)]]) [] [0, 1, 2] [0, 1, 2] ⟨rfl, rfl, rfl, fun _ => rfl⟩ rfl rfl ⟨Nat.le_refl _, Nat.le_refl _⟩ dX6_isTraveller_11 rfl (fun r11 u11 hw11 => ?_)
  try dsimp only at hw11
  rcases hw11 with ⟨tj, hth, rfl, rfl⟩ | ⟨hw11, rfl⟩
  · skip
    exact hR _ () _ _ (Or.inl ⟨_, hth, rfl, rfl⟩) dX6_isTraveller_14 rfl
  · have hb_t : inb t 0 ((sz : Nat) - 1 : Int) = false := hw11
    exact hR _ () _ _ (Or.inr ⟨hb_t, rfl⟩) dX6_isTraveller_14 rfl
set_option maxRecDepth 100000 in
set_option maxHeartbeats 4000000 in
theorem c_X6_isPlace (l : Launch) (G : zG) (a : Int32) (b : Int32)  : zMi l G yX6_isPlace cX6_isPlace 2 .boolean 1 0 0 21 [.int a, .int b] [] (fun (r : Int32) (_u : Unit) => (∃ j k, j < 4 ∧ k < 4 ∧ a = nI j ∧ b = nI k ∧ r = nI 1) ∨ ((inb a 0 3 && inb b 0 3) = false ∧ r = nI 0)) (fun (_u : Unit) => []) := by
  refine zMi.of (by decide) rfl (fun X A H0 hX hXl hR => ?_)
  show Z (X, G, A, H0, 2) 0 0 [] 0 [(0, .int a), (1, .int b)] []
  subst hXl
  refine z_iload_n hX 0 dX6_isPlace_0 rfl ?_
  refine z_iconst (v := nI 4) hX dX6_isPlace_1 (by decide) ?_
  refine z_callSi (st := []) hX (c_X6_isBelowX _ G a 4 (by omega)) lb_X6_isBelow ml_X6_58 (fun (_u : Unit) => []) (wr := []) [] [] [] ⟨rfl, rfl, rfl, fun _ => rfl⟩ rfl rfl ⟨Nat.le_refl _, Nat.le_refl _⟩ dX6_isPlace_2 rfl (fun r2 u2 hw2 => ?_)
  try dsimp only at hw2
  rcases hw2 with ⟨aj, hah, rfl, rfl⟩ | ⟨hw2, rfl⟩
  · skip
    refine zn_if_eq (tgt := 20) hX dX6_isPlace_5 (by decide) (by omega) (fun c5 => absurd c5 (by omega)) (fun _ => ?_)
    refine z_iload_n hX 1 dX6_isPlace_8 rfl ?_
    refine z_iconst (v := nI 4) hX dX6_isPlace_9 (by decide) ?_
    refine z_callSi (st := []) hX (c_X6_isBelowX _ G b 4 (by omega)) lb_X6_isBelow ml_X6_58 (fun (_u : Unit) => []) (wr := []) [] [] [] ⟨rfl, rfl, rfl, fun _ => rfl⟩ rfl rfl ⟨Nat.le_refl _, Nat.le_refl _⟩ dX6_isPlace_10 rfl (fun r10 u10 hw10 => ?_)
    try dsimp only at hw10
    rcases hw10 with ⟨bj, hbh, rfl, rfl⟩ | ⟨hw10, rfl⟩
    · skip
      refine zn_if_eq (tgt := 20) hX dX6_isPlace_13 (by decide) (by omega) (fun c13 => absurd c13 (by omega)) (fun _ => ?_)
      refine z_iconst (v := nI 1) hX dX6_isPlace_16 (by decide) ?_
      refine z_goto (tgt := 21) hX dX6_isPlace_17 (by decide) ?_
      exact hR _ () _ _ (Or.inl ⟨_, _, hah, hbh, rfl, rfl, rfl⟩) dX6_isPlace_21 rfl
    · have hb_b : inb b 0 3 = false := hw10
      refine zn_if_eq (tgt := 20) hX dX6_isPlace_13 (by decide) (by omega) (fun _ => ?_) (fun c13 => absurd c13 (by omega))
      refine z_iconst (v := nI 0) hX dX6_isPlace_20 (by decide) ?_
      exact hR _ () _ _ (Or.inr ⟨by first | simp [hb_a] | simp [hb_b], rfl⟩) dX6_isPlace_21 rfl
  · have hb_a : inb a 0 3 = false := hw2
    refine zn_if_eq (tgt := 20) hX dX6_isPlace_5 (by decide) (by omega) (fun _ => ?_) (fun c5 => absurd c5 (by omega))
    refine z_iconst (v := nI 0) hX dX6_isPlace_20 (by decide) ?_
    exact hR _ () _ _ (Or.inr ⟨by first | simp [hb_a] | simp [hb_b], rfl⟩) dX6_isPlace_21 rfl
set_option maxRecDepth 100000 in
set_option maxHeartbeats 4000000 in
theorem c_X6_asNumber (l : Launch) (G : zG) (t : Nat) (h0 : t < 2) : zMi l G yX6_asNumber cX6_asNumber 1 .int 0 0 0 0 [.int (nI t)] [] (fun (r : Int32) (_u : Unit) => r = nI t) (fun (_u : Unit) => []) := by
  refine zMi.of (by decide) rfl (fun X A H0 hX hXl hR => ?_)
  show Z (X, G, A, H0, 1) 0 0 [] 0 [(0, .int (nI t))] []
  subst hXl
  refine z_iload_n hX 0 dX6_asNumber_0 rfl ?_
  refine zn_if_eq (tgt := 8) hX dX6_asNumber_1 (by decide) (by omega) (fun c1 => ?_) (fun c1 => ?_)
  · skip
    refine z_iconst (v := nI 0) hX dX6_asNumber_8 (by decide) ?_
    exact hR _ () _ _ (congrArg nI (by omega)) dX6_asNumber_9 rfl
  · skip
    refine z_iconst (v := nI 1) hX dX6_asNumber_4 (by decide) ?_
    refine z_goto (tgt := 9) hX dX6_asNumber_5 (by decide) ?_
    exact hR _ () _ _ (congrArg nI (by omega)) dX6_asNumber_9 rfl
set_option maxRecDepth 100000 in
set_option maxHeartbeats 4000000 in
theorem c_X6_stones (l : Launch) (G : zG) (x : Nat) (w : Nat) (kw : Nat) (ik : Nat) (tp : Nat) (sx : Nat) (fo : Nat) (gu : Nat) (ch : Nat) (now : Nat) (nh : Nat) (cr : Nat) (past : Nat) (o : Nat) (u : Nat) (s : nst) (a : Int32) (h0 : WF 9999 0 s) : zMi l G yX6_stones cX6_stones 2 .int 1 0 0 21 [.ref x, .int a] [ob x 6 [.ref w, .ref kw, .int (nI ik), .ref tp, .ref sx, .ref fo, .ref gu, .ref ch], ob w 5 [.ref now, .ref cr, .ref past, .int (nI o), .int (nI u)], ob now 2 (mf nh s), ia G nh 4 (fN (sh 7 s))] (fun (r : Int32) (_u : Unit) => r = spStones s a) (fun (_u : Unit) => [ob x 6 [.ref w, .ref kw, .int (nI ik), .ref tp, .ref sx, .ref fo, .ref gu, .ref ch], ob w 5 [.ref now, .ref cr, .ref past, .int (nI o), .int (nI u)], ob now 2 (mf nh s), ia G nh 4 (fN (sh 7 s))]) := by
  refine zMi.of (by decide) rfl (fun X A H0 hX hXl hR => ?_)
  show Z (X, G, A, H0, 2) 0 0 [ob x 6 [.ref w, .ref kw, .int (nI ik), .ref tp, .ref sx, .ref fo, .ref gu, .ref ch], ob w 5 [.ref now, .ref cr, .ref past, .int (nI o), .int (nI u)], ob now 2 (mf nh s), ia G nh 4 (fN (sh 7 s))] 0 [(0, .ref x), (1, .int a)] []
  subst hXl
  refine z_iload_n hX 1 dX6_stones_0 rfl ?_
  refine z_iconst (v := nI 4) hX dX6_stones_1 (by decide) ?_
  refine z_callSi (st := []) hX (c_X6_isBelowX _ G a 4 (by omega)) lb_X6_isBelow ml_X6_58 (fun (_u : Unit) => [ob x 6 [.ref w, .ref kw, .int (nI ik), .ref tp, .ref sx, .ref fo, .ref gu, .ref ch], ob w 5 [.ref now, .ref cr, .ref past, .int (nI o), .int (nI u)], ob now 2 (mf nh s), ia G nh 4 (fN (sh 7 s))]) (wr := [ob x 6 [.ref w, .ref kw, .int (nI ik), .ref tp, .ref sx, .ref fo, .ref gu, .ref ch], ob w 5 [.ref now, .ref cr, .ref past, .int (nI o), .int (nI u)], ob now 2 (mf nh s), ia G nh 4 (fN (sh 7 s))]) [] [0, 1, 2, 3] [0, 1, 2, 3] ⟨rfl, rfl, rfl, fun _ => rfl⟩ rfl rfl ⟨Nat.le_refl _, Nat.le_refl _⟩ dX6_stones_2 rfl (fun r2 u2 hw2 => ?_)
  try dsimp only at hw2
  rcases hw2 with ⟨aj, hah, rfl, rfl⟩ | ⟨hw2, rfl⟩
  · skip
    refine zn_if_eq (tgt := 23) hX dX6_stones_5 (by decide) (by omega) (fun c5 => absurd c5 (by omega)) (fun _ => ?_)
    refine z_aload_n hX 0 dX6_stones_8 rfl ?_
    refine z_get (v := .ref w) hX fX6 0 0 rfl rfl (Nat.le_of_ble_eq_true rfl) fl_X6_10 rfl dX6_stones_9 ?_
    refine z_get (v := .ref now) hX fX5 1 0 rfl rfl (Nat.le_of_ble_eq_true rfl) fl_X6_88 rfl dX6_stones_12 ?_
    refine z_get (v := .ref nh) hX fX2 2 0 rfl rfl (Nat.le_of_ble_eq_true rfl) fl_X6_125 rfl dX6_stones_15 ?_
    refine z_iload_n hX 1 dX6_stones_18 rfl ?_
    refine z_iald (v := (nI (s (7 + aj)))) hX 3 (j := aj) rfl (by omega) (by decide) rfl dX6_stones_19 ?_
    refine z_goto (tgt := 24) hX dX6_stones_20 (by decide) ?_
    exact hR _ () _ _ (by unfold spStones; rw [if_pos (inb_t (by omega) (by omega) (by omega)), gN_nI (by omega)]) dX6_stones_24 rfl
  · have hb_a : inb a 0 3 = false := hw2
    refine zn_if_eq (tgt := 23) hX dX6_stones_5 (by decide) (by omega) (fun _ => ?_) (fun c5 => absurd c5 (by omega))
    refine z_iconst (v := (-1)) hX dX6_stones_23 (by decide) ?_
    exact hR _ () _ _ (by unfold spStones; rw [if_neg (by simp [hb_a])]) dX6_stones_24 rfl
set_option maxRecDepth 100000 in
set_option maxHeartbeats 4000000 in
theorem c_X6_wears (l : Launch) (G : zG) (x : Nat) (w : Nat) (kw : Nat) (ik : Nat) (tp : Nat) (sx : Nat) (fo : Nat) (gu : Nat) (ch : Nat) (now : Nat) (nh : Nat) (cr : Nat) (past : Nat) (o : Nat) (u : Nat) (s : nst) (ck : Nat) (cl : Nat) (ce : Nat) (sz : Nat) (fk : Nat → Int32) (fl : Nat → Int32) (fe : Nat → Int32) (t : Int32) (a : Int32) (h0 : WF 9999 0 s) (h1 : CR s fk fl fe) (h2 : sz = s 0) : zMi l G yX6_wears cX6_wears 3 .int 2 0 0 42 [.ref x, .int t, .int a] [ob x 6 [.ref w, .ref kw, .int (nI ik), .ref tp, .ref sx, .ref fo, .ref gu, .ref ch], ob w 5 [.ref now, .ref cr, .ref past, .int (nI o), .int (nI u)], ob now 2 (mf nh s), ia G nh 4 (fN (sh 7 s)), ob cr 1 [.ref ck, .ref cl, .ref ce, .int (nI sz)], ia G ck 6 fk, ia G cl 6 fl, ia G ce 6 fe] (fun (r : Int32) (_u : Unit) => r = spWears s t a) (fun (_u : Unit) => [ob x 6 [.ref w, .ref kw, .int (nI ik), .ref tp, .ref sx, .ref fo, .ref gu, .ref ch], ob w 5 [.ref now, .ref cr, .ref past, .int (nI o), .int (nI u)], ob now 2 (mf nh s), ia G nh 4 (fN (sh 7 s)), ob cr 1 [.ref ck, .ref cl, .ref ce, .int (nI sz)], ia G ck 6 fk, ia G cl 6 fl, ia G ce 6 fe]) := by
  refine zMi.of (by decide) rfl (fun X A H0 hX hXl hR => ?_)
  show Z (X, G, A, H0, 3) 0 0 [ob x 6 [.ref w, .ref kw, .int (nI ik), .ref tp, .ref sx, .ref fo, .ref gu, .ref ch], ob w 5 [.ref now, .ref cr, .ref past, .int (nI o), .int (nI u)], ob now 2 (mf nh s), ia G nh 4 (fN (sh 7 s)), ob cr 1 [.ref ck, .ref cl, .ref ce, .int (nI sz)], ia G ck 6 fk, ia G cl 6 fl, ia G ce 6 fe] 0 [(0, .ref x), (1, .int t), (2, .int a)] []
  subst hXl
  have z0 := h0.1
  have z1 := h0.2.1
  refine z_aload_n hX 0 dX6_wears_0 rfl ?_
  refine z_iload_n hX 1 dX6_wears_1 rfl ?_
  refine z_callVi (st := []) hX (c_X6_isTraveller _ G x w kw ik tp sx fo gu ch now nh cr past o u ck cl ce sz t (by omega)) lb_X6_isTraveller ml_X6_84 (fun (_u : Unit) => [ob x 6 [.ref w, .ref kw, .int (nI ik), .ref tp, .ref sx, .ref fo, .ref gu, .ref ch], ob w 5 [.ref now, .ref cr, .ref past, .int (nI o), .int (nI u)], ob now 2 (mf nh s), ia G nh 4 (fN (sh 7 s)), ob cr 1 [.ref ck, .ref cl, .ref ce, .int (nI sz)], ia G ck 6 fk, ia G cl 6 fl, ia G ce 6 fe]) (wr := [ob now 2 (mf nh s), ia G nh 4 (fN (sh 7 s)), ia G ck 6 fk, ia G cl 6 fl, ia G ce 6 fe]) [0, 1, 4] [2, 3, 5, 6, 7] [5, 6, 0, 1, 7, 2, 3, 4] ⟨rfl, rfl, rfl, fun _ => rfl⟩ 0 rfl rfl rfl rfl ⟨Nat.le_refl _, Nat.le_refl _⟩ dX6_wears_2 rfl (fun r2 u2 hw2 => ?_)
  try dsimp only at hw2
  rcases hw2 with ⟨tj, hth, rfl, rfl⟩ | ⟨hw2, rfl⟩
  · skip
    refine zn_if_eq (tgt := 16) hX dX6_wears_5 (by decide) (by omega) (fun c5 => absurd c5 (by omega)) (fun _ => ?_)
    refine z_iload_n hX 2 dX6_wears_8 rfl ?_
    refine z_iconst (v := nI 4) hX dX6_wears_9 (by decide) ?_
    refine z_callSi (st := []) hX (c_X6_isBelowX _ G a 4 (by omega)) lb_X6_isBelow ml_X6_58 (fun (_u : Unit) => [ob x 6 [.ref w, .ref kw, .int (nI ik), .ref tp, .ref sx, .ref fo, .ref gu, .ref ch], ob w 5 [.ref now, .ref cr, .ref past, .int (nI o), .int (nI u)], ob now 2 (mf nh s), ia G nh 4 (fN (sh 7 s)), ob cr 1 [.ref ck, .ref cl, .ref ce, .int (nI sz)], ia G ck 6 fk, ia G cl 6 fl, ia G ce 6 fe]) (wr := [ob x 6 [.ref w, .ref kw, .int (nI ik), .ref tp, .ref sx, .ref fo, .ref gu, .ref ch], ob w 5 [.ref now, .ref cr, .ref past, .int (nI o), .int (nI u)], ob now 2 (mf nh s), ia G nh 4 (fN (sh 7 s)), ob cr 1 [.ref ck, .ref cl, .ref ce, .int (nI sz)], ia G ck 6 fk, ia G cl 6 fl, ia G ce 6 fe]) [] [0, 1, 2, 3, 4, 5, 6, 7] [0, 1, 2, 3, 4, 5, 6, 7] ⟨rfl, rfl, rfl, fun _ => rfl⟩ rfl rfl ⟨Nat.le_refl _, Nat.le_refl _⟩ dX6_wears_10 rfl (fun r10 u10 hw10 => ?_)
    try dsimp only at hw10
    rcases hw10 with ⟨aj, hah, rfl, rfl⟩ | ⟨hw10, rfl⟩
    · skip
      refine zn_if_ne (tgt := 18) hX dX6_wears_13 (by decide) (by omega) (fun _ => ?_) (fun c13 => absurd c13 (by omega))
      obtain ⟨e11, e12, e13⟩ := h1 tj (by omega)
      obtain ⟨x1, x2, x3, x4⟩ := h0.2.2.2.2.2.2 tj (by omega)
      refine z_aload_n hX 0 dX6_wears_18 rfl ?_
      refine z_get (v := .ref w) hX fX6 0 0 rfl rfl (Nat.le_of_ble_eq_true rfl) fl_X6_10 rfl dX6_wears_19 ?_
      refine z_get (v := .ref cr) hX fX5 1 1 rfl rfl (Nat.le_of_ble_eq_true rfl) fl_X6_66 rfl dX6_wears_22 ?_
      refine z_get (v := .ref ck) hX fX1 4 0 rfl rfl (Nat.le_of_ble_eq_true rfl) fl_X6_91 rfl dX6_wears_25 ?_
      refine z_iload_n hX 1 dX6_wears_28 rfl ?_
      refine z_iald (v := (nI (s (11 + 3 * tj)))) hX 5 (j := tj) rfl (by omega) (by decide) e11 dX6_wears_29 ?_
      refine z_iload_n hX 2 dX6_wears_30 rfl ?_
      refine z_aload_n hX 0 dX6_wears_31 rfl ?_
      refine z_get (v := .ref w) hX fX6 0 0 rfl rfl (Nat.le_of_ble_eq_true rfl) fl_X6_10 rfl dX6_wears_32 ?_
      refine z_get (v := .ref now) hX fX5 1 0 rfl rfl (Nat.le_of_ble_eq_true rfl) fl_X6_88 rfl dX6_wears_35 ?_
      refine z_get (v := .int (nI (s 1))) hX fX2 2 2 rfl rfl (Nat.le_of_ble_eq_true rfl) fl_X6_101 rfl dX6_wears_38 ?_
      refine z_callSi (st := []) hX (c_X6_worn _ G (s (11 + 3 * tj)) aj (s 1) (by omega) (by omega) (by omega)) lb_X6_worn ml_X6_121 (fun (_u : Unit) => [ob x 6 [.ref w, .ref kw, .int (nI ik), .ref tp, .ref sx, .ref fo, .ref gu, .ref ch], ob w 5 [.ref now, .ref cr, .ref past, .int (nI o), .int (nI u)], ob now 2 (mf nh s), ia G nh 4 (fN (sh 7 s)), ob cr 1 [.ref ck, .ref cl, .ref ce, .int (nI sz)], ia G ck 6 fk, ia G cl 6 fl, ia G ce 6 fe]) (wr := [ob x 6 [.ref w, .ref kw, .int (nI ik), .ref tp, .ref sx, .ref fo, .ref gu, .ref ch], ob w 5 [.ref now, .ref cr, .ref past, .int (nI o), .int (nI u)], ob now 2 (mf nh s), ia G nh 4 (fN (sh 7 s)), ob cr 1 [.ref ck, .ref cl, .ref ce, .int (nI sz)], ia G ck 6 fk, ia G cl 6 fl, ia G ce 6 fe]) [] [0, 1, 2, 3, 4, 5, 6, 7] [0, 1, 2, 3, 4, 5, 6, 7] ⟨rfl, rfl, rfl, fun _ => rfl⟩ rfl rfl ⟨Nat.le_refl _, Nat.le_refl _⟩ dX6_wears_41 rfl (fun r41 u41 hw41 => ?_)
      subst hw41
      exact hR _ () _ _ (by unfold spWears; rw [if_pos (⟨inb_t (by omega) (by omega) (by omega), inb_t (by omega) (by omega) (by omega)⟩), gN_nI (by omega), gN_nI (by omega)]) dX6_wears_44 rfl
    · have hb_a : inb a 0 3 = false := hw10
      refine zn_if_ne (tgt := 18) hX dX6_wears_13 (by decide) (by omega) (fun c13 => absurd c13 (by omega)) (fun _ => ?_)
      refine z_iconst (v := (-1)) hX dX6_wears_16 (by decide) ?_
      exact hR _ () _ _ (by unfold spWears; rw [if_neg (by simp [hb_a])]) dX6_wears_17 rfl
  · have hb_t : inb t 0 ((sz : Nat) - 1 : Int) = false := hw2
    refine zn_if_eq (tgt := 16) hX dX6_wears_5 (by decide) (by omega) (fun _ => ?_) (fun c5 => absurd c5 (by omega))
    refine z_iconst (v := (-1)) hX dX6_wears_16 (by decide) ?_
    exact hR _ () _ _ (by unfold spWears; rw [if_neg (by rw [h2] at hb_t; simp [hb_t])]) dX6_wears_17 rfl
set_option maxRecDepth 100000 in
set_option maxHeartbeats 4000000 in
theorem c_X6_of (l : Launch) (G : zG) (x : Nat) (w : Nat) (kw : Nat) (ik : Nat) (tp : Nat) (sx : Nat) (fo : Nat) (gu : Nat) (ch : Nat) (now : Nat) (nh : Nat) (cr : Nat) (past : Nat) (o : Nat) (u : Nat) (s : nst) (ck : Nat) (cl : Nat) (ce : Nat) (sz : Nat) (fk : Nat → Int32) (fl : Nat → Int32) (fe : Nat → Int32) (t : Int32) (q : Int32) (h0 : WF 9999 0 s) (h1 : CR s fk fl fe) (h2 : sz = s 0) : zMi l G yX6_of cX6_of 5 .int 2 0 0 45 [.ref x, .int t, .int q] [ob x 6 [.ref w, .ref kw, .int (nI ik), .ref tp, .ref sx, .ref fo, .ref gu, .ref ch], ob w 5 [.ref now, .ref cr, .ref past, .int (nI o), .int (nI u)], ob now 2 (mf nh s), ia G nh 4 (fN (sh 7 s)), ob cr 1 [.ref ck, .ref cl, .ref ce, .int (nI sz)], ia G ck 6 fk, ia G cl 6 fl, ia G ce 6 fe] (fun (r : Int32) (_u : Unit) => r = spOf s t q) (fun (_u : Unit) => [ob x 6 [.ref w, .ref kw, .int (nI ik), .ref tp, .ref sx, .ref fo, .ref gu, .ref ch], ob w 5 [.ref now, .ref cr, .ref past, .int (nI o), .int (nI u)], ob now 2 (mf nh s), ia G nh 4 (fN (sh 7 s)), ob cr 1 [.ref ck, .ref cl, .ref ce, .int (nI sz)], ia G ck 6 fk, ia G cl 6 fl, ia G ce 6 fe]) := by
  refine zMi.of (by decide) rfl (fun X A H0 hX hXl hR => ?_)
  show Z (X, G, A, H0, 5) 0 0 [ob x 6 [.ref w, .ref kw, .int (nI ik), .ref tp, .ref sx, .ref fo, .ref gu, .ref ch], ob w 5 [.ref now, .ref cr, .ref past, .int (nI o), .int (nI u)], ob now 2 (mf nh s), ia G nh 4 (fN (sh 7 s)), ob cr 1 [.ref ck, .ref cl, .ref ce, .int (nI sz)], ia G ck 6 fk, ia G cl 6 fl, ia G ce 6 fe] 0 [(0, .ref x), (1, .int t), (2, .int q)] []
  subst hXl
  have z0 := h0.1
  have z1 := h0.2.1
  refine z_aload_n hX 0 dX6_of_0 rfl ?_
  refine z_iload_n hX 1 dX6_of_1 rfl ?_
  refine z_callVi (st := []) hX (c_X6_isTraveller _ G x w kw ik tp sx fo gu ch now nh cr past o u ck cl ce sz t (by omega)) lb_X6_isTraveller ml_X6_84 (fun (_u : Unit) => [ob x 6 [.ref w, .ref kw, .int (nI ik), .ref tp, .ref sx, .ref fo, .ref gu, .ref ch], ob w 5 [.ref now, .ref cr, .ref past, .int (nI o), .int (nI u)], ob now 2 (mf nh s), ia G nh 4 (fN (sh 7 s)), ob cr 1 [.ref ck, .ref cl, .ref ce, .int (nI sz)], ia G ck 6 fk, ia G cl 6 fl, ia G ce 6 fe]) (wr := [ob now 2 (mf nh s), ia G nh 4 (fN (sh 7 s)), ia G ck 6 fk, ia G cl 6 fl, ia G ce 6 fe]) [0, 1, 4] [2, 3, 5, 6, 7] [5, 6, 0, 1, 7, 2, 3, 4] ⟨rfl, rfl, rfl, fun _ => rfl⟩ 0 rfl rfl rfl rfl ⟨Nat.le_refl _, Nat.le_refl _⟩ dX6_of_2 rfl (fun r2 u2 hw2 => ?_)
  try dsimp only at hw2
  rcases hw2 with ⟨tj, hth, rfl, rfl⟩ | ⟨hw2, rfl⟩
  · skip
    refine zn_if_ne (tgt := 10) hX dX6_of_5 (by decide) (by omega) (fun _ => ?_) (fun c5 => absurd c5 (by omega))
    obtain ⟨e11, e12, e13⟩ := h1 tj (by omega)
    obtain ⟨x1, x2, x3, x4⟩ := h0.2.2.2.2.2.2 tj (by omega)
    refine z_aload_n hX 0 dX6_of_10 rfl ?_
    refine z_get (v := .ref w) hX fX6 0 0 rfl rfl (Nat.le_of_ble_eq_true rfl) fl_X6_10 rfl dX6_of_11 ?_
    refine z_get (v := .ref cr) hX fX5 1 1 rfl rfl (Nat.le_of_ble_eq_true rfl) fl_X6_66 rfl dX6_of_14 ?_
    refine z_astore_n (L' := [(3, .ref cr), (0, .ref x), (1, .int (nI tj)), (2, .int q)]) hX dX6_of_17 (Nat.le_of_ble_eq_true rfl) rfl ?_
    refine z_aload_n hX 1 dX6_of_18 rfl ?_
    refine z_get (v := .ref w) hX fX6 0 0 rfl rfl (Nat.le_of_ble_eq_true rfl) fl_X6_10 rfl dX6_of_19 ?_
    refine z_get (v := .ref now) hX fX5 1 0 rfl rfl (Nat.le_of_ble_eq_true rfl) fl_X6_88 rfl dX6_of_22 ?_
    refine z_astore (L' := [(4, .ref now), (3, .ref cr), (0, .ref x), (1, .int (nI tj)), (2, .int q)]) hX dX6_of_25 (Nat.le_of_ble_eq_true rfl) rfl ?_
    refine z_iload_n hX 4 dX6_of_27 rfl ?_
    rcases inb_l5 q with rfl | rfl | rfl | rfl | rfl | rfl | hb_q
    · skip
      refine z_tab (tgt := 68) (j := 0) hX (by decide) dX6_of_28 (by decide) (by decide) rfl (by decide) ?_
      refine z_aload_n hX 1 dX6_of_68 rfl ?_
      refine z_get (v := .ref ck) hX fX1 4 0 rfl rfl (Nat.le_of_ble_eq_true rfl) fl_X6_91 rfl dX6_of_69 ?_
      refine z_iload_n hX 3 dX6_of_72 rfl ?_
      refine z_iald (v := (nI (s (11 + 3 * tj)))) hX 5 (j := tj) rfl (by omega) (by decide) e11 dX6_of_73 ?_
      exact hR _ () _ _ (by unfold spOf; rw [if_pos (⟨inb_t (by omega) (by omega) (by omega), inb_t (by omega) (by omega) (by omega)⟩), gN_nI (by omega), gN_nI (by omega)]; rfl) dX6_of_74 rfl
    · skip
      refine z_tab (tgt := 75) (j := 1) hX (by decide) dX6_of_28 (by decide) (by decide) rfl (by decide) ?_
      refine z_aload_n hX 1 dX6_of_75 rfl ?_
      refine z_get (v := .ref cl) hX fX1 4 1 rfl rfl (Nat.le_of_ble_eq_true rfl) fl_X6_95 rfl dX6_of_76 ?_
      refine z_iload_n hX 3 dX6_of_79 rfl ?_
      refine z_iald (v := (nI (s (12 + 3 * tj)))) hX 6 (j := tj) rfl (by omega) (by decide) e12 dX6_of_80 ?_
      exact hR _ () _ _ (by unfold spOf; rw [if_pos (⟨inb_t (by omega) (by omega) (by omega), inb_t (by omega) (by omega) (by omega)⟩), gN_nI (by omega), gN_nI (by omega)]; rfl) dX6_of_81 rfl
    · skip
      refine z_tab (tgt := 82) (j := 2) hX (by decide) dX6_of_28 (by decide) (by decide) rfl (by decide) ?_
      refine z_aload_n hX 1 dX6_of_82 rfl ?_
      refine z_get (v := .ref ce) hX fX1 4 2 rfl rfl (Nat.le_of_ble_eq_true rfl) fl_X6_98 rfl dX6_of_83 ?_
      refine z_iload_n hX 3 dX6_of_86 rfl ?_
      refine z_iald (v := (nI (s (13 + 3 * tj)))) hX 7 (j := tj) rfl (by omega) (by decide) e13 dX6_of_87 ?_
      exact hR _ () _ _ (by unfold spOf; rw [if_pos (⟨inb_t (by omega) (by omega) (by omega), inb_t (by omega) (by omega) (by omega)⟩), gN_nI (by omega), gN_nI (by omega)]; rfl) dX6_of_88 rfl
    · skip
      refine z_tab (tgt := 89) (j := 3) hX (by decide) dX6_of_28 (by decide) (by decide) rfl (by decide) ?_
      refine z_aload_n hX 1 dX6_of_89 rfl ?_
      refine z_iload_n hX 3 dX6_of_90 rfl ?_
      refine z_aload hX 0 dX6_of_91 rfl ?_
      refine z_get (v := .int (nI (s 1))) hX fX2 2 2 rfl rfl (Nat.le_of_ble_eq_true rfl) fl_X6_101 rfl dX6_of_93 ?_
      refine z_callVi (st := []) hX (c_X1_comes _ G cr ck cl ce sz fe tj (s 1) (s (13 + 3 * tj)) (by omega) (by omega) (by omega) (by omega) e13) lb_X1_comes ml_X6_104 (fun (_u : Unit) => [ob x 6 [.ref w, .ref kw, .int (nI ik), .ref tp, .ref sx, .ref fo, .ref gu, .ref ch], ob w 5 [.ref now, .ref cr, .ref past, .int (nI o), .int (nI u)], ob now 2 (mf nh s), ia G nh 4 (fN (sh 7 s)), ob cr 1 [.ref ck, .ref cl, .ref ce, .int (nI sz)], ia G ck 6 fk, ia G cl 6 fl, ia G ce 6 fe]) (wr := [ob x 6 [.ref w, .ref kw, .int (nI ik), .ref tp, .ref sx, .ref fo, .ref gu, .ref ch], ob w 5 [.ref now, .ref cr, .ref past, .int (nI o), .int (nI u)], ob now 2 (mf nh s), ia G nh 4 (fN (sh 7 s)), ia G ck 6 fk, ia G cl 6 fl]) [4, 7] [0, 1, 2, 3, 5, 6] [0, 1, 2, 3, 6, 4, 5, 7] ⟨rfl, rfl, rfl, fun _ => rfl⟩ 0 rfl rfl rfl rfl ⟨Nat.le_refl _, Nat.le_refl _⟩ dX6_of_96 rfl (fun r96 u96 hw96 => ?_)
      try dsimp only at hw96
      rcases Classical.em ((s 1) % (s (13 + 3 * tj)) = 0) with b96 | b96
      · obtain rfl := hw96.1 b96
        refine z_callSi (st := []) hX (c_X6_asNumber _ G 1 (by omega)) lb_X6_asNumber ml_X6_107 (fun (_u : Unit) => [ob x 6 [.ref w, .ref kw, .int (nI ik), .ref tp, .ref sx, .ref fo, .ref gu, .ref ch], ob w 5 [.ref now, .ref cr, .ref past, .int (nI o), .int (nI u)], ob now 2 (mf nh s), ia G nh 4 (fN (sh 7 s)), ob cr 1 [.ref ck, .ref cl, .ref ce, .int (nI sz)], ia G ck 6 fk, ia G cl 6 fl, ia G ce 6 fe]) (wr := [ob x 6 [.ref w, .ref kw, .int (nI ik), .ref tp, .ref sx, .ref fo, .ref gu, .ref ch], ob w 5 [.ref now, .ref cr, .ref past, .int (nI o), .int (nI u)], ob now 2 (mf nh s), ia G nh 4 (fN (sh 7 s)), ob cr 1 [.ref ck, .ref cl, .ref ce, .int (nI sz)], ia G ck 6 fk, ia G cl 6 fl, ia G ce 6 fe]) [] [0, 1, 2, 3, 4, 5, 6, 7] [0, 1, 2, 3, 4, 5, 6, 7] ⟨rfl, rfl, rfl, fun _ => rfl⟩ rfl rfl ⟨Nat.le_refl _, Nat.le_refl _⟩ dX6_of_99 rfl (fun r99 u99 hw99 => ?_)
        subst hw99
        exact hR _ () _ _ (by unfold spOf; rw [if_pos (⟨inb_t (by omega) (by omega) (by omega), inb_t (by omega) (by omega) (by omega)⟩), gN_nI (by omega), gN_nI (by omega)]; unfold ofN b2I; rw [if_neg (by decide), if_neg (by decide), if_neg (by decide)]; first | (rw [if_pos rfl]; first | exact (if_pos b96).symm | exact (if_neg b96).symm) | (rw [if_neg (by decide), if_pos rfl]; first | exact (if_pos b96).symm | exact (if_neg b96).symm)) dX6_of_102 rfl
      · obtain rfl := hw96.2 b96
        refine z_callSi (st := []) hX (c_X6_asNumber _ G 0 (by omega)) lb_X6_asNumber ml_X6_107 (fun (_u : Unit) => [ob x 6 [.ref w, .ref kw, .int (nI ik), .ref tp, .ref sx, .ref fo, .ref gu, .ref ch], ob w 5 [.ref now, .ref cr, .ref past, .int (nI o), .int (nI u)], ob now 2 (mf nh s), ia G nh 4 (fN (sh 7 s)), ob cr 1 [.ref ck, .ref cl, .ref ce, .int (nI sz)], ia G ck 6 fk, ia G cl 6 fl, ia G ce 6 fe]) (wr := [ob x 6 [.ref w, .ref kw, .int (nI ik), .ref tp, .ref sx, .ref fo, .ref gu, .ref ch], ob w 5 [.ref now, .ref cr, .ref past, .int (nI o), .int (nI u)], ob now 2 (mf nh s), ia G nh 4 (fN (sh 7 s)), ob cr 1 [.ref ck, .ref cl, .ref ce, .int (nI sz)], ia G ck 6 fk, ia G cl 6 fl, ia G ce 6 fe]) [] [0, 1, 2, 3, 4, 5, 6, 7] [0, 1, 2, 3, 4, 5, 6, 7] ⟨rfl, rfl, rfl, fun _ => rfl⟩ rfl rfl ⟨Nat.le_refl _, Nat.le_refl _⟩ dX6_of_99 rfl (fun r99 u99 hw99 => ?_)
        subst hw99
        exact hR _ () _ _ (by unfold spOf; rw [if_pos (⟨inb_t (by omega) (by omega) (by omega), inb_t (by omega) (by omega) (by omega)⟩), gN_nI (by omega), gN_nI (by omega)]; unfold ofN b2I; rw [if_neg (by decide), if_neg (by decide), if_neg (by decide)]; first | (rw [if_pos rfl]; first | exact (if_pos b96).symm | exact (if_neg b96).symm) | (rw [if_neg (by decide), if_pos rfl]; first | exact (if_pos b96).symm | exact (if_neg b96).symm)) dX6_of_102 rfl
    · skip
      refine z_tab (tgt := 103) (j := 4) hX (by decide) dX6_of_28 (by decide) (by decide) rfl (by decide) ?_
      refine z_aload_n hX 1 dX6_of_103 rfl ?_
      refine z_iload_n hX 3 dX6_of_104 rfl ?_
      refine z_aload hX 0 dX6_of_105 rfl ?_
      refine z_get (v := .int (nI (s 2))) hX fX2 2 1 rfl rfl (Nat.le_of_ble_eq_true rfl) fl_X6_111 rfl dX6_of_107 ?_
      refine z_callVi (st := []) hX (c_X1_isRefused _ G cr ck cl ce sz fl tj (s 2) (s (12 + 3 * tj)) (by omega) (by omega) e12) lb_X1_isRefused ml_X6_114 (fun (_u : Unit) => [ob x 6 [.ref w, .ref kw, .int (nI ik), .ref tp, .ref sx, .ref fo, .ref gu, .ref ch], ob w 5 [.ref now, .ref cr, .ref past, .int (nI o), .int (nI u)], ob now 2 (mf nh s), ia G nh 4 (fN (sh 7 s)), ob cr 1 [.ref ck, .ref cl, .ref ce, .int (nI sz)], ia G ck 6 fk, ia G cl 6 fl, ia G ce 6 fe]) (wr := [ob x 6 [.ref w, .ref kw, .int (nI ik), .ref tp, .ref sx, .ref fo, .ref gu, .ref ch], ob w 5 [.ref now, .ref cr, .ref past, .int (nI o), .int (nI u)], ob now 2 (mf nh s), ia G nh 4 (fN (sh 7 s)), ia G ck 6 fk, ia G ce 6 fe]) [4, 6] [0, 1, 2, 3, 5, 7] [0, 1, 2, 3, 6, 4, 7, 5] ⟨rfl, rfl, rfl, fun _ => rfl⟩ 0 rfl rfl rfl rfl ⟨Nat.le_refl _, Nat.le_refl _⟩ dX6_of_110 rfl (fun r110 u110 hw110 => ?_)
      try dsimp only at hw110
      rcases Classical.em ((s (12 + 3 * tj)) &&& (s 2) ≠ 0) with b110 | b110
      · obtain rfl := hw110.1 b110
        refine z_callSi (st := []) hX (c_X6_asNumber _ G 1 (by omega)) lb_X6_asNumber ml_X6_107 (fun (_u : Unit) => [ob x 6 [.ref w, .ref kw, .int (nI ik), .ref tp, .ref sx, .ref fo, .ref gu, .ref ch], ob w 5 [.ref now, .ref cr, .ref past, .int (nI o), .int (nI u)], ob now 2 (mf nh s), ia G nh 4 (fN (sh 7 s)), ob cr 1 [.ref ck, .ref cl, .ref ce, .int (nI sz)], ia G ck 6 fk, ia G cl 6 fl, ia G ce 6 fe]) (wr := [ob x 6 [.ref w, .ref kw, .int (nI ik), .ref tp, .ref sx, .ref fo, .ref gu, .ref ch], ob w 5 [.ref now, .ref cr, .ref past, .int (nI o), .int (nI u)], ob now 2 (mf nh s), ia G nh 4 (fN (sh 7 s)), ob cr 1 [.ref ck, .ref cl, .ref ce, .int (nI sz)], ia G ck 6 fk, ia G cl 6 fl, ia G ce 6 fe]) [] [0, 1, 2, 3, 4, 5, 6, 7] [0, 1, 2, 3, 4, 5, 6, 7] ⟨rfl, rfl, rfl, fun _ => rfl⟩ rfl rfl ⟨Nat.le_refl _, Nat.le_refl _⟩ dX6_of_113 rfl (fun r113 u113 hw113 => ?_)
        subst hw113
        exact hR _ () _ _ (by unfold spOf; rw [if_pos (⟨inb_t (by omega) (by omega) (by omega), inb_t (by omega) (by omega) (by omega)⟩), gN_nI (by omega), gN_nI (by omega)]; unfold ofN b2I; rw [if_neg (by decide), if_neg (by decide), if_neg (by decide)]; first | (rw [if_pos rfl]; first | exact (if_pos b110).symm | exact (if_neg b110).symm) | (rw [if_neg (by decide), if_pos rfl]; first | exact (if_pos b110).symm | exact (if_neg b110).symm)) dX6_of_116 rfl
      · obtain rfl := hw110.2 b110
        refine z_callSi (st := []) hX (c_X6_asNumber _ G 0 (by omega)) lb_X6_asNumber ml_X6_107 (fun (_u : Unit) => [ob x 6 [.ref w, .ref kw, .int (nI ik), .ref tp, .ref sx, .ref fo, .ref gu, .ref ch], ob w 5 [.ref now, .ref cr, .ref past, .int (nI o), .int (nI u)], ob now 2 (mf nh s), ia G nh 4 (fN (sh 7 s)), ob cr 1 [.ref ck, .ref cl, .ref ce, .int (nI sz)], ia G ck 6 fk, ia G cl 6 fl, ia G ce 6 fe]) (wr := [ob x 6 [.ref w, .ref kw, .int (nI ik), .ref tp, .ref sx, .ref fo, .ref gu, .ref ch], ob w 5 [.ref now, .ref cr, .ref past, .int (nI o), .int (nI u)], ob now 2 (mf nh s), ia G nh 4 (fN (sh 7 s)), ob cr 1 [.ref ck, .ref cl, .ref ce, .int (nI sz)], ia G ck 6 fk, ia G cl 6 fl, ia G ce 6 fe]) [] [0, 1, 2, 3, 4, 5, 6, 7] [0, 1, 2, 3, 4, 5, 6, 7] ⟨rfl, rfl, rfl, fun _ => rfl⟩ rfl rfl ⟨Nat.le_refl _, Nat.le_refl _⟩ dX6_of_113 rfl (fun r113 u113 hw113 => ?_)
        subst hw113
        exact hR _ () _ _ (by unfold spOf; rw [if_pos (⟨inb_t (by omega) (by omega) (by omega), inb_t (by omega) (by omega) (by omega)⟩), gN_nI (by omega), gN_nI (by omega)]; unfold ofN b2I; rw [if_neg (by decide), if_neg (by decide), if_neg (by decide)]; first | (rw [if_pos rfl]; first | exact (if_pos b110).symm | exact (if_neg b110).symm) | (rw [if_neg (by decide), if_pos rfl]; first | exact (if_pos b110).symm | exact (if_neg b110).symm)) dX6_of_116 rfl
    · skip
      refine z_tab (tgt := 117) (j := 5) hX (by decide) dX6_of_28 (by decide) (by decide) rfl (by decide) ?_
      refine z_aload_n hX 1 dX6_of_117 rfl ?_
      refine z_get (v := .ref ck) hX fX1 4 0 rfl rfl (Nat.le_of_ble_eq_true rfl) fl_X6_91 rfl dX6_of_118 ?_
      refine z_iload_n hX 3 dX6_of_121 rfl ?_
      refine z_iald (v := (nI (s (11 + 3 * tj)))) hX 5 (j := tj) rfl (by omega) (by decide) e11 dX6_of_122 ?_
      refine z_aload hX 0 dX6_of_123 rfl ?_
      refine z_get (v := .int (nI (s 1))) hX fX2 2 2 rfl rfl (Nat.le_of_ble_eq_true rfl) fl_X6_101 rfl dX6_of_125 ?_
      refine z_callSi (st := []) hX (c_X6_given _ G (s (11 + 3 * tj)) (s 1) (by omega) (by omega)) lb_X6_given ml_X6_117 (fun (_u : Unit) => [ob x 6 [.ref w, .ref kw, .int (nI ik), .ref tp, .ref sx, .ref fo, .ref gu, .ref ch], ob w 5 [.ref now, .ref cr, .ref past, .int (nI o), .int (nI u)], ob now 2 (mf nh s), ia G nh 4 (fN (sh 7 s)), ob cr 1 [.ref ck, .ref cl, .ref ce, .int (nI sz)], ia G ck 6 fk, ia G cl 6 fl, ia G ce 6 fe]) (wr := [ob x 6 [.ref w, .ref kw, .int (nI ik), .ref tp, .ref sx, .ref fo, .ref gu, .ref ch], ob w 5 [.ref now, .ref cr, .ref past, .int (nI o), .int (nI u)], ob now 2 (mf nh s), ia G nh 4 (fN (sh 7 s)), ob cr 1 [.ref ck, .ref cl, .ref ce, .int (nI sz)], ia G ck 6 fk, ia G cl 6 fl, ia G ce 6 fe]) [] [0, 1, 2, 3, 4, 5, 6, 7] [0, 1, 2, 3, 4, 5, 6, 7] ⟨rfl, rfl, rfl, fun _ => rfl⟩ rfl rfl ⟨Nat.le_refl _, Nat.le_refl _⟩ dX6_of_128 rfl (fun r128 u128 hw128 => ?_)
      subst hw128
      exact hR _ () _ _ (by unfold spOf; rw [if_pos (⟨inb_t (by omega) (by omega) (by omega), inb_t (by omega) (by omega) (by omega)⟩), gN_nI (by omega), gN_nI (by omega)]; rfl) dX6_of_131 rfl
    · have hb_q := hb_q
      refine z_tabOut (tgt := 132) hX dX6_of_28 (inb_out hb_q) (by decide) ?_
      refine z_iconst (v := (-1)) hX dX6_of_132 (by decide) ?_
      exact hR _ () _ _ (by unfold spOf; rw [if_neg (by simp [hb_q])]) dX6_of_133 rfl
  · have hb_t : inb t 0 ((sz : Nat) - 1 : Int) = false := hw2
    refine zn_if_ne (tgt := 10) hX dX6_of_5 (by decide) (by omega) (fun c5 => absurd c5 (by omega)) (fun _ => ?_)
    refine z_iconst (v := (-1)) hX dX6_of_8 (by decide) ?_
    exact hR _ () _ _ (by unfold spOf; rw [if_neg (by rw [h2] at hb_t; simp [hb_t])]) dX6_of_9 rfl
set_option maxRecDepth 100000 in
set_option maxHeartbeats 4000000 in
theorem c_X6_count (l : Launch) (G : zG) (x : Nat) (w : Nat) (kw : Nat) (ik : Nat) (tp : Nat) (sx : Nat) (fo : Nat) (gu : Nat) (ch : Nat) (now : Nat) (nh : Nat) (cr : Nat) (past : Nat) (o : Nat) (u : Nat) (s : nst) (ck : Nat) (cl : Nat) (ce : Nat) (sz : Nat) (q : Int32) (h0 : WF 9999 0 s) (h1 : sz = s 0) : zMi l G yX6_count cX6_count 3 .int 1 0 0 22 [.ref x, .int q] [ob x 6 [.ref w, .ref kw, .int (nI ik), .ref tp, .ref sx, .ref fo, .ref gu, .ref ch], ob w 5 [.ref now, .ref cr, .ref past, .int (nI o), .int (nI u)], ob now 2 (mf nh s), ia G nh 4 (fN (sh 7 s)), ob cr 1 [.ref ck, .ref cl, .ref ce, .int (nI sz)]] (fun (r : Int32) (_u : Unit) => r = spCount s u q) (fun (_u : Unit) => [ob x 6 [.ref w, .ref kw, .int (nI ik), .ref tp, .ref sx, .ref fo, .ref gu, .ref ch], ob w 5 [.ref now, .ref cr, .ref past, .int (nI o), .int (nI u)], ob now 2 (mf nh s), ia G nh 4 (fN (sh 7 s)), ob cr 1 [.ref ck, .ref cl, .ref ce, .int (nI sz)]]) := by
  refine zMi.of (by decide) rfl (fun X A H0 hX hXl hR => ?_)
  show Z (X, G, A, H0, 3) 0 0 [ob x 6 [.ref w, .ref kw, .int (nI ik), .ref tp, .ref sx, .ref fo, .ref gu, .ref ch], ob w 5 [.ref now, .ref cr, .ref past, .int (nI o), .int (nI u)], ob now 2 (mf nh s), ia G nh 4 (fN (sh 7 s)), ob cr 1 [.ref ck, .ref cl, .ref ce, .int (nI sz)]] 0 [(0, .ref x), (1, .int q)] []
  subst hXl
  refine z_aload_n hX 0 dX6_count_0 rfl ?_
  refine z_get (v := .ref w) hX fX6 0 0 rfl rfl (Nat.le_of_ble_eq_true rfl) fl_X6_10 rfl dX6_count_1 ?_
  refine z_get (v := .ref now) hX fX5 1 0 rfl rfl (Nat.le_of_ble_eq_true rfl) fl_X6_88 rfl dX6_count_4 ?_
  refine z_astore_n (L' := [(2, .ref now), (0, .ref x), (1, .int q)]) hX dX6_count_7 (Nat.le_of_ble_eq_true rfl) rfl ?_
  refine z_iload_n hX 2 dX6_count_8 rfl ?_
  rcases inb_l8 q with rfl | rfl | rfl | rfl | rfl | rfl | rfl | rfl | rfl | hb_q
  · skip
    refine z_tab (tgt := 60) (j := 0) hX (by decide) dX6_count_9 (by decide) (by decide) rfl (by decide) ?_
    refine z_aload_n hX 1 dX6_count_60 rfl ?_
    refine z_get (v := .ref w) hX fX6 0 0 rfl rfl (Nat.le_of_ble_eq_true rfl) fl_X6_10 rfl dX6_count_61 ?_
    refine z_get (v := .ref cr) hX fX5 1 1 rfl rfl (Nat.le_of_ble_eq_true rfl) fl_X6_66 rfl dX6_count_64 ?_
    refine z_get (v := .int (nI sz)) hX fX1 4 3 rfl rfl (Nat.le_of_ble_eq_true rfl) fl_X6_80 rfl dX6_count_67 ?_
    exact hR _ () _ _ (by unfold spCount; rw [if_pos (inb_t (by omega) (by omega) (by omega)), gN_nI (by omega)]; first | rfl | (rw [h1]; rfl)) dX6_count_70 rfl
  · skip
    refine z_tab (tgt := 71) (j := 1) hX (by decide) dX6_count_9 (by decide) (by decide) rfl (by decide) ?_
    refine z_aload_n hX 0 dX6_count_71 rfl ?_
    refine z_get (v := .int (nI (s 1))) hX fX2 2 2 rfl rfl (Nat.le_of_ble_eq_true rfl) fl_X6_101 rfl dX6_count_72 ?_
    exact hR _ () _ _ (by unfold spCount; rw [if_pos (inb_t (by omega) (by omega) (by omega)), gN_nI (by omega)]; first | rfl | (rw [h1]; rfl)) dX6_count_75 rfl
  · skip
    refine z_tab (tgt := 76) (j := 2) hX (by decide) dX6_count_9 (by decide) (by decide) rfl (by decide) ?_
    refine z_aload_n hX 0 dX6_count_76 rfl ?_
    refine z_get (v := .int (nI (s 2))) hX fX2 2 1 rfl rfl (Nat.le_of_ble_eq_true rfl) fl_X6_111 rfl dX6_count_77 ?_
    exact hR _ () _ _ (by unfold spCount; rw [if_pos (inb_t (by omega) (by omega) (by omega)), gN_nI (by omega)]; first | rfl | (rw [h1]; rfl)) dX6_count_80 rfl
  · skip
    refine z_tab (tgt := 81) (j := 3) hX (by decide) dX6_count_9 (by decide) (by decide) rfl (by decide) ?_
    refine z_aload_n hX 0 dX6_count_81 rfl ?_
    refine z_get (v := .int (nI (s 3))) hX fX2 2 3 rfl rfl (Nat.le_of_ble_eq_true rfl) fl_X6_150 rfl dX6_count_82 ?_
    exact hR _ () _ _ (by unfold spCount; rw [if_pos (inb_t (by omega) (by omega) (by omega)), gN_nI (by omega)]; first | rfl | (rw [h1]; rfl)) dX6_count_85 rfl
  · skip
    refine z_tab (tgt := 86) (j := 4) hX (by decide) dX6_count_9 (by decide) (by decide) rfl (by decide) ?_
    refine z_aload_n hX 0 dX6_count_86 rfl ?_
    refine z_get (v := .int (nI (s 4))) hX fX2 2 4 rfl rfl (Nat.le_of_ble_eq_true rfl) fl_X6_153 rfl dX6_count_87 ?_
    exact hR _ () _ _ (by unfold spCount; rw [if_pos (inb_t (by omega) (by omega) (by omega)), gN_nI (by omega)]; first | rfl | (rw [h1]; rfl)) dX6_count_90 rfl
  · skip
    refine z_tab (tgt := 91) (j := 5) hX (by decide) dX6_count_9 (by decide) (by decide) rfl (by decide) ?_
    refine z_aload_n hX 0 dX6_count_91 rfl ?_
    refine z_get (v := .int (nI (s 5))) hX fX2 2 5 rfl rfl (Nat.le_of_ble_eq_true rfl) fl_X6_156 rfl dX6_count_92 ?_
    exact hR _ () _ _ (by unfold spCount; rw [if_pos (inb_t (by omega) (by omega) (by omega)), gN_nI (by omega)]; first | rfl | (rw [h1]; rfl)) dX6_count_95 rfl
  · skip
    refine z_tab (tgt := 96) (j := 6) hX (by decide) dX6_count_9 (by decide) (by decide) rfl (by decide) ?_
    refine z_aload_n hX 0 dX6_count_96 rfl ?_
    refine z_callVi (st := []) hX (c_X2_allStones _ G now nh s ) lb_X2_allStones ml_X6_159 (fun (_u : Unit) => [ob x 6 [.ref w, .ref kw, .int (nI ik), .ref tp, .ref sx, .ref fo, .ref gu, .ref ch], ob w 5 [.ref now, .ref cr, .ref past, .int (nI o), .int (nI u)], ob now 2 (mf nh s), ia G nh 4 (fN (sh 7 s)), ob cr 1 [.ref ck, .ref cl, .ref ce, .int (nI sz)]]) (wr := [ob x 6 [.ref w, .ref kw, .int (nI ik), .ref tp, .ref sx, .ref fo, .ref gu, .ref ch], ob w 5 [.ref now, .ref cr, .ref past, .int (nI o), .int (nI u)], ob cr 1 [.ref ck, .ref cl, .ref ce, .int (nI sz)]]) [2, 3] [0, 1, 4] [0, 1, 3, 4, 2] ⟨rfl, rfl, rfl, fun _ => rfl⟩ 0 rfl rfl rfl rfl ⟨Nat.le_refl _, Nat.le_refl _⟩ dX6_count_97 rfl (fun r97 u97 hw97 => ?_)
    subst hw97
    exact hR _ () _ _ (by unfold spCount; rw [if_pos (inb_t (by omega) (by omega) (by omega)), gN_nI (by omega)]; first | rfl | (rw [h1]; rfl)) dX6_count_100 rfl
  · skip
    refine z_tab (tgt := 101) (j := 7) hX (by decide) dX6_count_9 (by decide) (by decide) rfl (by decide) ?_
    refine z_aload_n hX 0 dX6_count_101 rfl ?_
    refine z_callVi (st := []) hX (c_X2_holes _ G now nh s h0.2.2.2.2.2.1) lb_X2_holes ml_X6_163 (fun (_u : Unit) => [ob x 6 [.ref w, .ref kw, .int (nI ik), .ref tp, .ref sx, .ref fo, .ref gu, .ref ch], ob w 5 [.ref now, .ref cr, .ref past, .int (nI o), .int (nI u)], ob now 2 (mf nh s), ia G nh 4 (fN (sh 7 s)), ob cr 1 [.ref ck, .ref cl, .ref ce, .int (nI sz)]]) (wr := [ob x 6 [.ref w, .ref kw, .int (nI ik), .ref tp, .ref sx, .ref fo, .ref gu, .ref ch], ob w 5 [.ref now, .ref cr, .ref past, .int (nI o), .int (nI u)], ob cr 1 [.ref ck, .ref cl, .ref ce, .int (nI sz)]]) [2, 3] [0, 1, 4] [0, 1, 3, 4, 2] ⟨rfl, rfl, rfl, fun _ => rfl⟩ 0 rfl rfl rfl rfl ⟨Nat.le_refl _, Nat.le_refl _⟩ dX6_count_102 rfl (fun r102 u102 hw102 => ?_)
    subst hw102
    exact hR _ () _ _ (by unfold spCount; rw [if_pos (inb_t (by omega) (by omega) (by omega)), gN_nI (by omega)]; first | rfl | (rw [h1]; rfl)) dX6_count_105 rfl
  · skip
    refine z_tab (tgt := 106) (j := 8) hX (by decide) dX6_count_9 (by decide) (by decide) rfl (by decide) ?_
    refine z_aload_n hX 1 dX6_count_106 rfl ?_
    refine z_get (v := .ref w) hX fX6 0 0 rfl rfl (Nat.le_of_ble_eq_true rfl) fl_X6_10 rfl dX6_count_107 ?_
    refine z_get (v := .int (nI u)) hX fX5 1 4 rfl rfl (Nat.le_of_ble_eq_true rfl) fl_X6_166 rfl dX6_count_110 ?_
    exact hR _ () _ _ (by unfold spCount; rw [if_pos (inb_t (by omega) (by omega) (by omega)), gN_nI (by omega)]; first | rfl | (rw [h1]; rfl)) dX6_count_113 rfl
  · have hb_q := hb_q
    refine z_tabOut (tgt := 114) hX dX6_count_9 (inb_out hb_q) (by decide) ?_
    refine z_iconst (v := (-1)) hX dX6_count_114 (by decide) ?_
    exact hR _ () _ _ (by unfold spCount; rw [if_neg (by simp [hb_q])]) dX6_count_115 rfl
