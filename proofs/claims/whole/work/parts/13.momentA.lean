set_option maxRecDepth 100000 in
set_option maxHeartbeats 4000000 in
theorem c_X1_comes (l : Launch) (G : zG) (ca : Nat) (ck : Nat) (cl : Nat) (ce : Nat) (sz : Nat) (fe : Nat → Int32) (t : Nat) (day : Nat) (ev : Nat) (h0 : t < 6) (h1 : 1 ≤ ev) (h2 : ev < 2147483648) (h3 : day < 2147483648) (h4 : fe t = nI ev) : zMi l G yX1_comes cX1_comes 4 .boolean 0 0 0 0 [.ref ca, .int (nI t), .int (nI day)] [ob ca 1 [.ref ck, .ref cl, .ref ce, .int (nI sz)], ia G ce 6 fe] (fun (r : Int32) (_u : Unit) => zb (day % ev = 0) r) (fun (_u : Unit) => [ob ca 1 [.ref ck, .ref cl, .ref ce, .int (nI sz)], ia G ce 6 fe]) := by
  refine zMi.of (by decide) rfl (fun X A H0 hX hXl hR => ?_)
  show Z (X, G, A, H0, 4) 0 0 [ob ca 1 [.ref ck, .ref cl, .ref ce, .int (nI sz)], ia G ce 6 fe] 0 [(0, .ref ca), (1, .int (nI t)), (2, .int (nI day))] []
  subst hXl
  have hm : day % ev ≤ day := Nat.mod_le _ _
  refine z_aload_n hX 0 dX1_comes_0 rfl ?_
  refine z_get (v := .ref ce) hX fX1 0 2 rfl rfl (Nat.le_of_ble_eq_true rfl) fl_X1_18 rfl dX1_comes_1 ?_
  refine z_iload_n hX 1 dX1_comes_4 rfl ?_
  refine z_iald (v := (nI ev)) hX 1 (j := t) rfl (by omega) (by decide) h4 dX1_comes_5 ?_
  refine z_istore_n (L' := [(3, .int (nI ev)), (0, .ref ca), (1, .int (nI t)), (2, .int (nI day))]) hX dX1_comes_6 (Nat.le_of_ble_eq_true rfl) rfl ?_
  refine z_iload_n hX 0 dX1_comes_7 rfl ?_
  refine zn_if_le (tgt := 21) hX dX1_comes_8 (by decide) (by omega) (fun c8 => absurd c8 (by omega)) (fun c8 => ?_)
  refine z_iload_n hX 3 dX1_comes_11 rfl ?_
  refine z_iload_n hX 0 dX1_comes_12 rfl ?_
  refine z_irem (v := (nI (day % ev))) hX dX1_comes_13 (nI_ne0 (by omega) (by omega)) (pk_rem (by omega) (by omega) (by omega)) ?_
  refine zn_if_ne (tgt := 21) hX dX1_comes_14 (by decide) (by omega) (fun c14 => ?_) (fun c14 => ?_)
  · skip
    refine z_iconst (v := nI 0) hX dX1_comes_21 (by decide) ?_
    exact hR _ () _ _ ⟨fun hz => absurd hz (by omega), fun _ => rfl⟩ dX1_comes_22 rfl
  · skip
    refine z_iconst (v := nI 1) hX dX1_comes_17 (by decide) ?_
    refine z_goto (tgt := 22) hX dX1_comes_18 (by decide) ?_
    exact hR _ () _ _ ⟨fun _ => rfl, fun hz => absurd (by omega) hz⟩ dX1_comes_22 rfl
set_option maxRecDepth 100000 in
set_option maxHeartbeats 4000000 in
theorem c_X1_isRefused (l : Launch) (G : zG) (ca : Nat) (ck : Nat) (cl : Nat) (ce : Nat) (sz : Nat) (fl : Nat → Int32) (t : Nat) (ls : Nat) (lk : Nat) (h0 : t < 6) (h1 : lk < 2147483648) (h2 : fl t = nI lk) : zMi l G yX1_isRefused cX1_isRefused 3 .boolean 0 0 0 0 [.ref ca, .int (nI t), .int (nI ls)] [ob ca 1 [.ref ck, .ref cl, .ref ce, .int (nI sz)], ia G cl 6 fl] (fun (r : Int32) (_u : Unit) => zb (lk &&& ls ≠ 0) r) (fun (_u : Unit) => [ob ca 1 [.ref ck, .ref cl, .ref ce, .int (nI sz)], ia G cl 6 fl]) := by
  refine zMi.of (by decide) rfl (fun X A H0 hX hXl hR => ?_)
  show Z (X, G, A, H0, 3) 0 0 [ob ca 1 [.ref ck, .ref cl, .ref ce, .int (nI sz)], ia G cl 6 fl] 0 [(0, .ref ca), (1, .int (nI t)), (2, .int (nI ls))] []
  subst hXl
  have hb : lk &&& ls ≤ lk := Nat.and_le_left
  refine z_aload_n hX 0 dX1_isRefused_0 rfl ?_
  refine z_get (v := .ref cl) hX fX1 0 1 rfl rfl (Nat.le_of_ble_eq_true rfl) fl_X1_15 rfl dX1_isRefused_1 ?_
  refine z_iload_n hX 1 dX1_isRefused_4 rfl ?_
  refine z_iald (v := (nI lk)) hX 1 (j := t) rfl (by omega) (by decide) h2 dX1_isRefused_5 ?_
  refine z_iload_n hX 2 dX1_isRefused_6 rfl ?_
  refine z_iand (v := (nI (lk &&& ls))) hX dX1_isRefused_7 (and_nI _ _) ?_
  refine zn_if_eq (tgt := 15) hX dX1_isRefused_8 (by decide) (by omega) (fun c8 => ?_) (fun c8 => ?_)
  · skip
    refine z_iconst (v := nI 0) hX dX1_isRefused_15 (by decide) ?_
    exact hR _ () _ _ ⟨fun hz => absurd hz (by omega), fun _ => rfl⟩ dX1_isRefused_16 rfl
  · skip
    refine z_iconst (v := nI 1) hX dX1_isRefused_11 (by decide) ?_
    refine z_goto (tgt := 16) hX dX1_isRefused_12 (by decide) ?_
    exact hR _ () _ _ ⟨fun _ => rfl, fun hz => absurd (by omega) hz⟩ dX1_isRefused_16 rfl
set_option maxRecDepth 100000 in
set_option maxHeartbeats 4000000 in
theorem c_X2_weakest (l : Launch) (G : zG) (a : Nat) (b : Nat) (s : nst) (h0 : ∀ j, j < 4 → s (7 + j) ≤ 40) : zMi l G yX2_weakest cX2_weakest 3 .int 0 0 0 0 [.ref a] [ob a 2 (mf b s), ia G b 4 (fN (sh 7 s))] (fun (r : Int32) (_u : Unit) => r = nI (weakTo s 4)) (fun (_u : Unit) => [ob a 2 (mf b s), ia G b 4 (fN (sh 7 s))]) := by
  refine zMi.of (by decide) rfl (fun X A H0 hX hXl hR => ?_)
  show Z (X, G, A, H0, 3) 0 0 [ob a 2 (mf b s), ia G b 4 (fN (sh 7 s))] 0 [(0, .ref a)] []
  subst hXl
  refine z_iconst (v := nI 0) hX dX2_weakest_0 (by decide) ?_
  refine z_istore_n (L' := [(1, .int (nI 0)), (0, .ref a)]) hX dX2_weakest_1 (Nat.le_of_ble_eq_true rfl) rfl ?_
  refine z_iconst (v := nI 1) hX dX2_weakest_2 (by decide) ?_
  refine z_istore_n (L' := [(2, .int (nI 1)), (1, .int (nI 0)), (0, .ref a)]) hX dX2_weakest_3 (Nat.le_of_ble_eq_true rfl) rfl ?_
  have lp4 : ∀ (n4 : Nat) (j : Nat) (w : Nat), (4 + 1 ≤ j + n4) → (1 ≤ j ∧ j ≤ 4) → (w = weakTo s j) → (w < j) → Z (X, G, A, H0, 3) 0 0 [ob a 2 (mf b s), ia G b 4 (fN (sh 7 s))] 4 [(0, .ref a), (1, .int (nI w)), (2, .int (nI j))] [] := by
    intro n4
    induction n4 with
    | zero =>
      intro j w hn hj hw hwj
      exfalso
      omega
    | succ n4 ih4 =>
      intro j w hn hj hw hwj
      have q1 := h0 w (by omega)
      refine z_iload_n hX 2 dX2_weakest_4 rfl ?_
      refine z_iconst (v := nI 4) hX dX2_weakest_5 (by decide) ?_
      refine zn_icmp_ge (tgt := 32) hX dX2_weakest_6 (by decide) (by omega) (by omega) (fun c6 => ?_) (fun c6 => ?_)
      · skip
        refine z_iload_n hX 1 dX2_weakest_32 rfl ?_
        have ej : j = 4 := by omega
        subst ej
        rw [hw]
        exact hR _ () _ _ rfl dX2_weakest_33 rfl
      · skip
        have q2 := h0 j (by omega)
        refine z_aload_n hX 0 dX2_weakest_9 rfl ?_
        refine z_get (v := .ref b) hX fX2 0 0 rfl rfl (Nat.le_of_ble_eq_true rfl) fl_X2_9 rfl dX2_weakest_10 ?_
        refine z_iload_n hX 2 dX2_weakest_13 rfl ?_
        refine z_iald (v := (nI (s (7 + j)))) hX 1 (j := j) rfl (by omega) (by decide) rfl dX2_weakest_14 ?_
        refine z_aload_n hX 0 dX2_weakest_15 rfl ?_
        refine z_get (v := .ref b) hX fX2 0 0 rfl rfl (Nat.le_of_ble_eq_true rfl) fl_X2_9 rfl dX2_weakest_16 ?_
        refine z_iload_n hX 1 dX2_weakest_19 rfl ?_
        refine z_iald (v := (nI (s (7 + w)))) hX 1 (j := w) rfl (by omega) (by decide) rfl dX2_weakest_20 ?_
        refine zn_icmp_ge (tgt := 26) hX dX2_weakest_21 (by decide) (by omega) (by omega) (fun c21 => ?_) (fun c21 => ?_)
        · skip
          refine z_iinc (v := (nI (j + 1))) (L' := [(2, .int (nI (j + 1))), (0, .ref a), (1, .int (nI w))]) hX 2 dX2_weakest_26 rfl (nI_inc _) (Nat.le_of_ble_eq_true rfl) rfl ?_
          refine z_goto (tgt := 4) hX dX2_weakest_29 (by decide) ?_
          refine z_lsub [1, 2, 0] rfl ?_
          exact ih4 (j + 1) w (by omega) (by omega) (by rw [weakTo, if_neg (by omega), ← hw]; first | exact (if_pos (by omega)).symm | exact (if_neg (by omega)).symm) (by omega)
        · skip
          refine z_iload_n hX 2 dX2_weakest_24 rfl ?_
          refine z_istore_n (L' := [(1, .int (nI j)), (0, .ref a), (2, .int (nI j))]) hX dX2_weakest_25 (Nat.le_of_ble_eq_true rfl) rfl ?_
          refine z_iinc (v := (nI (j + 1))) (L' := [(2, .int (nI (j + 1))), (1, .int (nI j)), (0, .ref a)]) hX 2 dX2_weakest_26 rfl (nI_inc _) (Nat.le_of_ble_eq_true rfl) rfl ?_
          refine z_goto (tgt := 4) hX dX2_weakest_29 (by decide) ?_
          refine z_lsub [2, 1, 0] rfl ?_
          exact ih4 (j + 1) j (by omega) (by omega) (by rw [weakTo, if_neg (by omega), ← hw]; first | exact (if_pos (by omega)).symm | exact (if_neg (by omega)).symm) (by omega)
  refine z_lsub [2, 1, 0] rfl ?_
  exact lp4 4 1 0 (by omega) (by omega) rfl (by omega)
set_option maxRecDepth 100000 in
set_option maxHeartbeats 4000000 in
theorem c_X2_putIn (l : Launch) (G : zG) (a : Nat) (b : Nat) (s : nst) (g : Nat) (h0 : ∀ j, j < 4 → s (7 + j) ≤ 40) (h1 : g < 2147483648) : zMv l G yX2_putIn cX2_putIn 4 1 0 0 22 [.ref a, .int (nI g)] [ob a 2 (mf b s), ia G b 4 (fN (sh 7 s))] (fun (_u : Unit) => True) (fun (_u : Unit) => [ob a 2 (mf b (putN g s)), ia G b 4 (fN (sh 7 (putN g s)))]) := by
  refine zMv.of (by decide) rfl (fun X A H0 hX hXl hnm hR => ?_)
  show Z (X, G, A, H0, 4) 0 0 [ob a 2 (mf b s), ia G b 4 (fN (sh 7 s))] 0 [(0, .ref a), (1, .int (nI g))] []
  subst hXl
  refine z_iconst (v := nI 0) hX dX2_putIn_0 (by decide) ?_
  refine z_istore_n (L' := [(2, .int (nI 0)), (0, .ref a), (1, .int (nI g))]) hX dX2_putIn_1 (Nat.le_of_ble_eq_true rfl) rfl ?_
  have lp2 : ∀ (n2 : Nat) (k : Nat), (g + 1 ≤ k + n2) → (k ≤ g) → Z (X, G, A, H0, 4) 0 0 [ob a 2 (mf b (putN k s)), ia G b 4 (fN (sh 7 (putN k s)))] 2 [(0, .ref a), (1, .int (nI g)), (2, .int (nI k))] [] := by
    intro n2
    induction n2 with
    | zero =>
      intro k hn hk
      exfalso
      omega
    | succ n2 ih2 =>
      intro k hn hk
      have q0 := putN_hi s h0 k
      have q1 := q0 _ (weakTo_4 (putN k s))
      have q2 := weakTo_4 (putN k s)
      refine z_iload_n hX 2 dX2_putIn_2 rfl ?_
      refine z_iload_n hX 1 dX2_putIn_3 rfl ?_
      refine zn_icmp_ge (tgt := 37) hX dX2_putIn_4 (by decide) (by omega) (by omega) (fun c4 => ?_) (fun c4 => ?_)
      · skip
        have ek : k = g := by omega
        subst ek
        exact hR () _ _ trivial dX2_putIn_37
      · skip
        refine z_aload_n hX 0 dX2_putIn_7 rfl ?_
        refine z_callVi (st := []) hX (c_X2_weakest _ G a b (putN k s) q0) lb_X2_weakest ml_X2_74 (fun (_u : Unit) => [ob a 2 (mf b (putN k s)), ia G b 4 (fN (sh 7 (putN k s)))]) (wr := []) [0, 1] [] [0, 1] ⟨rfl, rfl, rfl, fun _ => rfl⟩ 0 rfl rfl rfl rfl ⟨Nat.le_refl _, Nat.le_refl _⟩ dX2_putIn_8 rfl (fun r8 u8 hw8 => ?_)
        subst hw8
        refine z_istore_n (L' := [(3, .int (nI (weakTo (putN k s) 4))), (0, .ref a), (1, .int (nI g)), (2, .int (nI k))]) hX dX2_putIn_11 (Nat.le_of_ble_eq_true rfl) rfl ?_
        refine z_aload_n hX 1 dX2_putIn_12 rfl ?_
        refine z_get (v := .ref b) hX fX2 0 0 rfl rfl (Nat.le_of_ble_eq_true rfl) fl_X2_9 rfl dX2_putIn_13 ?_
        refine z_iload_n hX 0 dX2_putIn_16 rfl ?_
        refine z_bipush (v := nI 40) hX dX2_putIn_17 (by decide) ?_
        refine z_aload_n hX 1 dX2_putIn_19 rfl ?_
        refine z_get (v := .ref b) hX fX2 0 0 rfl rfl (Nat.le_of_ble_eq_true rfl) fl_X2_9 rfl dX2_putIn_20 ?_
        refine z_iload_n hX 0 dX2_putIn_23 rfl ?_
        refine z_iald (v := (nI ((putN k s) (7 + weakTo (putN k s) 4)))) hX 1 (j := (weakTo (putN k s) 4)) rfl (by omega) (by decide) rfl dX2_putIn_24 ?_
        refine z_iconst (v := nI 1) hX dX2_putIn_25 (by decide) ?_
        refine z_iadd (v := (nI ((putN k s) (7 + weakTo (putN k s) 4) + 1))) hX dX2_putIn_26 (nI_add _ _) ?_
        refine z_min (v := (nI (min 40 ((putN k s) (7 + weakTo (putN k s) 4) + 1)))) hX ml_X2_78 (mmin_nI (by omega) (by omega)) rfl ⟨Nat.zero_le _, Nat.zero_le _⟩ dX2_putIn_27 ?_
        refine z_iastM (j := (weakTo (putN k s) 4)) (v := min 40 ((putN k s) (7 + weakTo (putN k s) 4) + 1)) (ws' := [ob a 2 (mf b (va_up (putN k s) (7 + (weakTo (putN k s) 4)) (min 40 ((putN k s) (7 + weakTo (putN k s) 4) + 1)))), ia G b 4 (fN (sh 7 (va_up (putN k s) (7 + (weakTo (putN k s) 4)) (min 40 ((putN k s) (7 + weakTo (putN k s) 4) + 1)))))]) hX 0 1 rfl rfl (by omega) rfl rfl dX2_putIn_30 ?_
        refine z_iinc (v := (nI (k + 1))) (L' := [(2, .int (nI (k + 1))), (3, .int (nI (weakTo (putN k s) 4))), (0, .ref a), (1, .int (nI g))]) hX 3 dX2_putIn_31 rfl (nI_inc _) (Nat.le_of_ble_eq_true rfl) rfl ?_
        refine z_goto (tgt := 2) hX dX2_putIn_34 (by decide) ?_
        refine z_lsub [2, 3, 0] rfl ?_
        exact ih2 (k + 1) (by omega) (by omega)
  refine z_lsub [1, 2, 0] rfl ?_
  exact lp2 (g + 1) 0 (by omega) (by omega)
set_option maxRecDepth 100000 in
set_option maxHeartbeats 4000000 in
theorem c_X2_crosses (l : Launch) (G : zG) (a : Nat) (b : Nat) (s : nst) (kd : Nat) (h0 : ∀ j, j < 4 → s (7 + j) ≤ 40) (h1 : kd ≤ 4) (h2 : s 1 < 2147483648) : zMi l G yX2_crosses cX2_crosses 4 .boolean 1 0 0 25 [.ref a, .int (nI kd)] [ob a 2 (mf b s), ia G b 4 (fN (sh 7 s))] (fun (r : Int32) (_u : Unit) => zb ((crossG kd (s 1) 4 0 s).2 = false) r) (fun (_u : Unit) => [ob a 2 (mf b ((crossG kd (s 1) 4 0 s).1)), ia G b 4 (fN (sh 7 ((crossG kd (s 1) 4 0 s).1)))]) := by
  refine zMi.of (by decide) rfl (fun X A H0 hX hXl hR => ?_)
  show Z (X, G, A, H0, 4) 0 0 [ob a 2 (mf b s), ia G b 4 (fN (sh 7 s))] 0 [(0, .ref a), (1, .int (nI kd))] []
  subst hXl
  refine z_iconst (v := nI 0) hX dX2_crosses_0 (by decide) ?_
  refine z_istore_n (L' := [(2, .int (nI 0)), (0, .ref a), (1, .int (nI kd))]) hX dX2_crosses_1 (Nat.le_of_ble_eq_true rfl) rfl ?_
  have lp2 : ∀ (n2 : Nat) (j : Nat) (u : nst), (j + n2 = 4 + 1) → (j ≤ 4) → (crossG kd (s 1) (4 - j) j u = crossG kd (s 1) 4 0 s) → (∀ j, j < 4 → u (7 + j) ≤ 40) → (u 1 = s 1) → Z (X, G, A, H0, 4) 0 0 [ob a 2 (mf b u), ia G b 4 (fN (sh 7 u))] 2 [(0, .ref a), (1, .int (nI kd)), (2, .int (nI j))] [] := by
    intro n2
    induction n2 with
    | zero =>
      intro j u hn hj hg h40 hd
      exfalso
      omega
    | succ n2 ih2 =>
      intro j u hn hj hg h40 hd
      refine z_iload_n hX 2 dX2_crosses_2 rfl ?_
      refine z_iconst (v := nI 4) hX dX2_crosses_3 (by decide) ?_
      refine zn_icmp_ge (tgt := 52) hX dX2_crosses_4 (by decide) (by omega) (by omega) (fun c4 => ?_) (fun c4 => ?_)
      · skip
        refine z_iconst (v := nI 1) hX dX2_crosses_52 (by decide) ?_
        have ej : j = 4 := by omega
        subst ej
        have e1 : u = (crossG kd (s 1) 4 0 s).1 := by rw [← hg]; rfl
        have e2 : (crossG kd (s 1) 4 0 s).2 = false := by rw [← hg]; rfl
        rw [e1]
        exact hR _ () _ _ ⟨fun _ => rfl, fun hz => absurd e2 hz⟩ dX2_crosses_53 rfl
      · skip
        have q1 := h40 j (by omega)
        have q2 := wearN_le kd j (u 1)
        refine z_iload_n hX 1 dX2_crosses_7 rfl ?_
        refine z_iload_n hX 2 dX2_crosses_8 rfl ?_
        refine z_aload_n hX 0 dX2_crosses_9 rfl ?_
        refine z_get (v := .int (nI (u 1))) hX fX2 0 2 rfl rfl (Nat.le_of_ble_eq_true rfl) fl_X2_19 rfl dX2_crosses_10 ?_
        refine z_callNi (st := []) hX (c_X6_worn _ G kd j (u 1) (by omega) (by omega) (by omega)) lb_X6_worn (fun U h9 => h9.2.2) (fun (_u : Unit) => [ob a 2 (mf b u), ia G b 4 (fN (sh 7 u))]) (wr := [ob a 2 (mf b u), ia G b 4 (fN (sh 7 u))]) [] [0, 1] [0, 1] ⟨rfl, rfl, rfl, fun _ => rfl⟩ rfl rfl ⟨Nat.le_refl _, Nat.le_refl _⟩ dX2_crosses_13 rfl (fun r13 u13 hw13 => ?_)
        subst hw13
        refine z_istore_n (L' := [(3, .int (nI (wearN kd j (u 1)))), (0, .ref a), (1, .int (nI kd)), (2, .int (nI j))]) hX dX2_crosses_16 (Nat.le_of_ble_eq_true rfl) rfl ?_
        refine z_aload_n hX 1 dX2_crosses_17 rfl ?_
        refine z_get (v := .ref b) hX fX2 0 0 rfl rfl (Nat.le_of_ble_eq_true rfl) fl_X2_9 rfl dX2_crosses_18 ?_
        refine z_iload_n hX 3 dX2_crosses_21 rfl ?_
        refine z_iald (v := (nI (u (7 + j)))) hX 1 (j := j) rfl (by omega) (by decide) rfl dX2_crosses_22 ?_
        refine z_iload_n hX 0 dX2_crosses_23 rfl ?_
        refine zn_icmp_gt (tgt := 36) hX dX2_crosses_24 (by decide) (by omega) (by omega) (fun c24 => ?_) (fun c24 => ?_)
        · skip
          refine z_aload_n hX 1 dX2_crosses_36 rfl ?_
          refine z_get (v := .ref b) hX fX2 0 0 rfl rfl (Nat.le_of_ble_eq_true rfl) fl_X2_9 rfl dX2_crosses_37 ?_
          refine z_iload_n hX 3 dX2_crosses_40 rfl ?_
          refine z_dup2 hX dX2_crosses_41 rfl rfl ?_
          refine z_iald (v := (nI (u (7 + j)))) hX 1 (j := j) rfl (by omega) (by decide) rfl dX2_crosses_42 ?_
          refine z_iload_n hX 0 dX2_crosses_43 rfl ?_
          refine z_isub (v := (nI ((u (7 + j)) - (wearN kd j (u 1))))) hX dX2_crosses_44 (pk_sub (by omega)) ?_
          refine z_iastM (j := j) (v := (u (7 + j)) - (wearN kd j (u 1))) (ws' := [ob a 2 (mf b (va_up u (7 + j) ((u (7 + j)) - (wearN kd j (u 1))))), ia G b 4 (fN (sh 7 (va_up u (7 + j) ((u (7 + j)) - (wearN kd j (u 1))))))]) hX 0 1 rfl rfl (by omega) rfl rfl dX2_crosses_45 ?_
          have hg2 : crossG kd (s 1) (4 - (j + 1)) (j + 1) (va_up u (7 + j) (u (7 + j) - wearN kd j (u 1))) = crossG kd (s 1) 4 0 s := by
            have ef : 4 - j = (4 - (j + 1)) + 1 := by omega
            rw [ef, crossG, if_neg (by rw [← hd]; omega)] at hg
            rw [hd]
            exact hg
          refine z_iinc (v := (nI (j + 1))) (L' := [(2, .int (nI (j + 1))), (3, .int (nI (wearN kd j (u 1)))), (0, .ref a), (1, .int (nI kd))]) hX 3 dX2_crosses_46 rfl (nI_inc _) (Nat.le_of_ble_eq_true rfl) rfl ?_
          refine z_goto (tgt := 2) hX dX2_crosses_49 (by decide) ?_
          refine z_lsub [2, 3, 0] rfl ?_
          exact ih2 (j + 1) (va_up u (7 + j) ((u (7 + j)) - (wearN kd j (u 1)))) (by omega) (by omega) hg2 (fun i hi => by simp only [va_up]; split <;> first | omega | exact h40 i hi) (by rw [up_ne (by omega)]; exact hd)
        · skip
          refine z_aload_n hX 1 dX2_crosses_27 rfl ?_
          refine z_get (v := .ref b) hX fX2 0 0 rfl rfl (Nat.le_of_ble_eq_true rfl) fl_X2_9 rfl dX2_crosses_28 ?_
          refine z_iload_n hX 3 dX2_crosses_31 rfl ?_
          refine z_iconst (v := nI 0) hX dX2_crosses_32 (by decide) ?_
          refine z_iastM (j := j) (v := 0) (ws' := [ob a 2 (mf b (va_up u (7 + j) 0)), ia G b 4 (fN (sh 7 (va_up u (7 + j) 0)))]) hX 0 1 rfl rfl (by omega) rfl rfl dX2_crosses_33 ?_
          refine z_iconst (v := nI 0) hX dX2_crosses_34 (by decide) ?_
          have ef : 4 - j = (3 - j) + 1 := by omega
          rw [ef, crossG, if_pos (by rw [← hd]; omega)] at hg
          have e1 : va_up u (7 + j) 0 = (crossG kd (s 1) 4 0 s).1 := by rw [← hg]
          have e2 : (crossG kd (s 1) 4 0 s).2 = true := by rw [← hg]
          rw [e1]
          exact hR _ () _ _ ⟨fun hz => absurd hz (by rw [e2]; decide), fun _ => rfl⟩ dX2_crosses_35 rfl
  refine z_lsub [1, 2, 0] rfl ?_
  exact lp2 5 0 s (by omega) (by omega) rfl h0 rfl
