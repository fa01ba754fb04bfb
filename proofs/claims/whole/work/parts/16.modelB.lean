set_option maxRecDepth 100000 in
set_option maxHeartbeats 4000000 in
theorem c_X7_putsIn (l : Launch) (G : zG) (x : Nat) (ad : Nat → Nat) (v : Nat → Nat) (s : nst) (g : Nat) (h0 : ∀ j, j < 4 → s (7 + j) ≤ 40) (h1 : g < 2147483648) : zMv l G yX7_putsIn cX7_putsIn 5 1 0 0 23 [.ref x, .int (nI g)] [ob x 7 (rf ad v), ia G (ad 0) 29 (fN s)] (fun (_u : Unit) => True) (fun (_u : Unit) => [ob x 7 (rf ad v), ia G (ad 0) 29 (fN (putN g s))]) := by
  refine zMv.of (by decide) rfl (fun X A H0 hX hXl hnm hR => ?_)
  show Z (X, G, A, H0, 5) 0 0 [ob x 7 (rf ad v), ia G (ad 0) 29 (fN s)] 0 [(0, .ref x), (1, .int (nI g))] []
  subst hXl
  refine z_iconst (v := nI 0) hX dX7_putsIn_0 (by decide) ?_
  refine z_istore_n (L' := [(2, .int (nI 0)), (0, .ref x), (1, .int (nI g))]) hX dX7_putsIn_1 (Nat.le_of_ble_eq_true rfl) rfl ?_
  have lp2 : ∀ (n2 : Nat) (k : Nat), (g + 1 ≤ k + n2) → (k ≤ g) → Z (X, G, A, H0, 5) 0 0 [ob x 7 (rf ad v), ia G (ad 0) 29 (fN (putN k s))] 2 [(0, .ref x), (1, .int (nI g)), (2, .int (nI k))] [] := by
    intro n2
    induction n2 with
    | zero =>
      intro k hn hk
      exfalso
      omega
    | succ n2 ih2 =>
      intro k hn hk
      have q0 := putN_hi s h0 k
      refine z_iload_n hX 2 dX7_putsIn_2 rfl ?_
      refine z_iload_n hX 1 dX7_putsIn_3 rfl ?_
      refine zn_icmp_ge (tgt := 65) hX dX7_putsIn_4 (by decide) (by omega) (by omega) (fun c4 => ?_) (fun c4 => ?_)
      · skip
        have ek : k = g := by omega
        subst ek
        exact hR () _ _ trivial dX7_putsIn_65
      · skip
        refine z_iconst (v := nI 0) hX dX7_putsIn_7 (by decide) ?_
        refine z_istore_n (L' := [(3, .int (nI 0)), (0, .ref x), (1, .int (nI g)), (2, .int (nI k))]) hX dX7_putsIn_8 (Nat.le_of_ble_eq_true rfl) rfl ?_
        refine z_iconst (v := nI 1) hX dX7_putsIn_9 (by decide) ?_
        refine z_istore (L' := [(4, .int (nI 1)), (3, .int (nI 0)), (0, .ref x), (1, .int (nI g)), (2, .int (nI k))]) hX dX7_putsIn_10 (Nat.le_of_ble_eq_true rfl) rfl ?_
        have lp12 : ∀ (n12 : Nat) (j : Nat) (w : Nat), (4 + 1 ≤ j + n12) → (1 ≤ j ∧ j ≤ 4) → (w = weakTo (putN k s) j) → (w < j) → Z (X, G, A, H0, 5) 0 0 [ob x 7 (rf ad v), ia G (ad 0) 29 (fN (putN k s))] 12 [(0, .ref x), (1, .int (nI g)), (2, .int (nI k)), (3, .int (nI w)), (4, .int (nI j))] [] := by
          intro n12
          induction n12 with
          | zero =>
            intro j w hn2 hj hw hwj
            exfalso
            omega
          | succ n12 ih12 =>
            intro j w hn2 hj hw hwj
            have q1 := q0 w (by omega)
            refine z_iload hX 4 dX7_putsIn_12 rfl ?_
            refine z_iconst (v := nI 4) hX dX7_putsIn_14 (by decide) ?_
            refine zn_icmp_ge (tgt := 53) hX dX7_putsIn_15 (by decide) (by omega) (by omega) (fun c15 => ?_) (fun c15 => ?_)
            · skip
              have ej : j = 4 := by omega
              subst ej
              subst hw
              refine z_aload_n hX 0 dX7_putsIn_53 rfl ?_
              refine z_iload_n hX 3 dX7_putsIn_54 rfl ?_
              refine z_iconst (v := nI 1) hX dX7_putsIn_55 (by decide) ?_
              refine z_callVv (st := []) hX (c_X7_stonesByP _ G x ad v (putN k s) (weakTo (putN k s) 4) 1 (by omega) (by omega) (by omega)) lb_X7_stonesBy ml_X7_54 (fun (_u : Unit) => [ob x 7 (rf ad v), ia G (ad 0) 29 (fN (va_up (putN k s) (7 + (weakTo (putN k s) 4)) (min 40 ((putN k s) (7 + (weakTo (putN k s) 4)) + 1))))]) (wr := []) [0, 1] [] [0, 1] ⟨rfl, rfl, rfl, fun _ => rfl⟩ 0 rfl rfl rfl rfl ⟨Nat.le_refl _, Nat.le_refl _⟩ dX7_putsIn_56 rfl (fun  u56 hw56 => ?_)
              refine z_iinc (v := (nI (k + 1))) (L' := [(2, .int (nI (k + 1))), (0, .ref x), (1, .int (nI g)), (3, .int (nI (weakTo (putN k s) 4))), (4, .int (nI 4))]) hX 2 dX7_putsIn_59 rfl (nI_inc _) (Nat.le_of_ble_eq_true rfl) rfl ?_
              refine z_goto (tgt := 2) hX dX7_putsIn_62 (by decide) ?_
              refine z_lsub [1, 2, 0] rfl ?_
              exact ih2 (k + 1) (by omega) (by omega)
            · skip
              have q2 := q0 j (by omega)
              refine z_aload_n hX 0 dX7_putsIn_18 rfl ?_
              refine z_get (v := .ref (ad 0)) hX fX7 0 0 rfl rfl (Nat.le_of_ble_eq_true rfl) fl_X7_7 rfl dX7_putsIn_19 ?_
              refine z_bipush (v := nI 7) hX dX7_putsIn_22 (by decide) ?_
              refine z_iload hX 4 dX7_putsIn_24 rfl ?_
              refine z_iadd (v := (nI (7 + j))) hX dX7_putsIn_26 (nI_add _ _) ?_
              refine z_iald (v := (nI ((putN k s) (7 + j)))) hX 1 (j := (7 + j)) rfl (by omega) (by decide) rfl dX7_putsIn_27 ?_
              refine z_aload_n hX 0 dX7_putsIn_28 rfl ?_
              refine z_get (v := .ref (ad 0)) hX fX7 0 0 rfl rfl (Nat.le_of_ble_eq_true rfl) fl_X7_7 rfl dX7_putsIn_29 ?_
              refine z_bipush (v := nI 7) hX dX7_putsIn_32 (by decide) ?_
              refine z_iload_n hX 3 dX7_putsIn_34 rfl ?_
              refine z_iadd (v := (nI (7 + w))) hX dX7_putsIn_35 (nI_add _ _) ?_
              refine z_iald (v := (nI ((putN k s) (7 + w)))) hX 1 (j := (7 + w)) rfl (by omega) (by decide) rfl dX7_putsIn_36 ?_
              refine zn_icmp_ge (tgt := 45) hX dX7_putsIn_37 (by decide) (by omega) (by omega) (fun c37 => ?_) (fun c37 => ?_)
              · skip
                refine z_iload_n hX 3 dX7_putsIn_45 rfl ?_
                refine z_istore_n (L' := [(3, .int (nI w)), (0, .ref x), (1, .int (nI g)), (2, .int (nI k)), (4, .int (nI j))]) hX dX7_putsIn_46 (Nat.le_of_ble_eq_true rfl) rfl ?_
                refine z_iinc (v := (nI (j + 1))) (L' := [(4, .int (nI (j + 1))), (3, .int (nI w)), (0, .ref x), (1, .int (nI g)), (2, .int (nI k))]) hX 4 dX7_putsIn_47 rfl (nI_inc _) (Nat.le_of_ble_eq_true rfl) rfl ?_
                refine z_goto (tgt := 12) hX dX7_putsIn_50 (by decide) ?_
                refine z_lsub [2, 3, 4, 1, 0] rfl ?_
                exact ih12 (j + 1) w (by omega) (by omega) (by rw [weakTo, if_neg (by omega), ← hw]; first | exact (if_pos (by omega)).symm | exact (if_neg (by omega)).symm) (by omega)
              · skip
                refine z_iload hX 4 dX7_putsIn_40 rfl ?_
                refine z_goto (tgt := 46) hX dX7_putsIn_42 (by decide) ?_
                refine z_istore_n (L' := [(3, .int (nI j)), (0, .ref x), (1, .int (nI g)), (2, .int (nI k)), (4, .int (nI j))]) hX dX7_putsIn_46 (Nat.le_of_ble_eq_true rfl) rfl ?_
                refine z_iinc (v := (nI (j + 1))) (L' := [(4, .int (nI (j + 1))), (3, .int (nI j)), (0, .ref x), (1, .int (nI g)), (2, .int (nI k))]) hX 4 dX7_putsIn_47 rfl (nI_inc _) (Nat.le_of_ble_eq_true rfl) rfl ?_
                refine z_goto (tgt := 12) hX dX7_putsIn_50 (by decide) ?_
                refine z_lsub [2, 3, 4, 1, 0] rfl ?_
                exact ih12 (j + 1) j (by omega) (by omega) (by rw [weakTo, if_neg (by omega), ← hw]; first | exact (if_pos (by omega)).symm | exact (if_neg (by omega)).symm) (by omega)
        refine z_lsub [2, 3, 4, 1, 0] rfl ?_
        exact lp12 4 1 0 (by omega) (by omega) rfl (by omega)
  refine z_lsub [1, 2, 0] rfl ?_
  exact lp2 (g + 1) 0 (by omega) (by omega)
set_option maxRecDepth 100000 in
set_option maxHeartbeats 4000000 in
theorem c_X7_goesOver (l : Launch) (G : zG) (x : Nat) (ad : Nat → Nat) (v : Nat → Nat) (s : nst) (p : Nat) (h0 : p < 6) (h1 : ∀ j, j < 4 → s (7 + j) ≤ 40) (h2 : s (11 + 3 * p) ≤ 4) (h3 : s 1 < 2147483648) : zMi l G yX7_goesOver cX7_goesOver 4 .boolean 2 0 0 44 [.ref x, .int (nI p)] [ob x 7 (rf ad v), ia G (ad 0) 29 (fN s)] (fun (r : Int32) (_u : Unit) => zb ((crossG (s (11 + 3 * p)) (s 1) 4 0 s).2 = true) r) (fun (_u : Unit) => [ob x 7 (rf ad v), ia G (ad 0) 29 (fN (overS p s))]) := by
  refine zMi.of (by decide) rfl (fun X A H0 hX hXl hR => ?_)
  show Z (X, G, A, H0, 4) 0 0 [ob x 7 (rf ad v), ia G (ad 0) 29 (fN s)] 0 [(0, .ref x), (1, .int (nI p))] []
  subst hXl
  refine z_iconst (v := nI 0) hX dX7_goesOver_0 (by decide) ?_
  refine z_istore_n (L' := [(2, .int (nI 0)), (0, .ref x), (1, .int (nI p))]) hX dX7_goesOver_1 (Nat.le_of_ble_eq_true rfl) rfl ?_
  have lp2 : ∀ (n2 : Nat) (j : Nat) (u : nst), (j + n2 = 4 + 1) → (j ≤ 4) → (crossG (s (11 + 3 * p)) (s 1) (4 - j) j u = crossG (s (11 + 3 * p)) (s 1) 4 0 s) → (∀ j, j < 4 → u (7 + j) ≤ 40) → (u 1 = s 1) → (u (11 + 3 * p) = s (11 + 3 * p)) → Z (X, G, A, H0, 4) 0 0 [ob x 7 (rf ad v), ia G (ad 0) 29 (fN u)] 2 [(0, .ref x), (1, .int (nI p)), (2, .int (nI j))] [] := by
    intro n2
    induction n2 with
    | zero =>
      intro j u hn hj hg h40 hd hk
      exfalso
      omega
    | succ n2 ih2 =>
      intro j u hn hj hg h40 hd hk
      refine z_iload_n hX 2 dX7_goesOver_2 rfl ?_
      refine z_iconst (v := nI 4) hX dX7_goesOver_3 (by decide) ?_
      refine zn_icmp_ge (tgt := 62) hX dX7_goesOver_4 (by decide) (by omega) (by omega) (fun c4 => ?_) (fun c4 => ?_)
      · skip
        refine z_aload_n hX 0 dX7_goesOver_62 rfl ?_
        refine z_get (v := .ref (ad 0)) hX fX7 0 0 rfl rfl (Nat.le_of_ble_eq_true rfl) fl_X7_7 rfl dX7_goesOver_63 ?_
        refine z_iconst (v := nI 3) hX dX7_goesOver_66 (by decide) ?_
        refine z_dup2 hX dX7_goesOver_67 rfl rfl ?_
        refine z_iald (v := (nI (u 3))) hX 1 (j := 3) rfl (by omega) (by decide) rfl dX7_goesOver_68 ?_
        refine z_iconst (v := nI 1) hX dX7_goesOver_69 (by decide) ?_
        refine z_iadd (v := (nI (u 3 + 1))) hX dX7_goesOver_70 (nI_add _ _) ?_
        refine z_iast (ws' := [ob x 7 (rf ad v), ia G (ad 0) 29 (fN (va_up u 3 (u 3 + 1)))]) hX 1 (j := 3) rfl (by omega) (by decide) (updN _ _ _) rfl dX7_goesOver_71 ?_
        refine z_iconst (v := nI 0) hX dX7_goesOver_72 (by decide) ?_
        have ej : j = 4 := by omega
        subst ej
        have e1 : u = (crossG (s (11 + 3 * p)) (s 1) 4 0 s).1 := by rw [← hg]; rfl
        have e2 : (crossG (s (11 + 3 * p)) (s 1) 4 0 s).2 = false := by rw [← hg]; rfl
        have e3 : va_up u 3 (u 3 + 1) = overS p s := by unfold overS; rw [if_neg (by rw [e2]; decide), ← e1]
        rw [e3]
        exact hR _ () _ _ ⟨fun hz => absurd hz (by rw [e2]; decide), fun _ => rfl⟩ dX7_goesOver_73 rfl
      · skip
        have q1 := h40 j (by omega)
        have q2 := wearN_le (u (11 + 3 * p)) j (u 1)
        refine z_aload_n hX 0 dX7_goesOver_7 rfl ?_
        refine z_iload_n hX 1 dX7_goesOver_8 rfl ?_
        refine z_iload_n hX 2 dX7_goesOver_9 rfl ?_
        refine z_callVi (st := []) hX (c_X7_wearsOff _ G x ad v u p j (by omega) (by omega) (by omega) (by omega)) lb_X7_wearsOff ml_X7_58 (fun (_u : Unit) => [ob x 7 (rf ad v), ia G (ad 0) 29 (fN u)]) (wr := []) [0, 1] [] [0, 1] ⟨rfl, rfl, rfl, fun _ => rfl⟩ 0 rfl rfl rfl rfl ⟨Nat.le_refl _, Nat.le_refl _⟩ dX7_goesOver_10 rfl (fun r10 u10 hw10 => ?_)
        subst hw10
        refine z_istore_n (L' := [(3, .int (nI (wearN (u (11 + 3 * p)) j (u 1)))), (0, .ref x), (1, .int (nI p)), (2, .int (nI j))]) hX dX7_goesOver_13 (Nat.le_of_ble_eq_true rfl) rfl ?_
        refine z_aload_n hX 1 dX7_goesOver_14 rfl ?_
        refine z_get (v := .ref (ad 0)) hX fX7 0 0 rfl rfl (Nat.le_of_ble_eq_true rfl) fl_X7_7 rfl dX7_goesOver_15 ?_
        refine z_bipush (v := nI 7) hX dX7_goesOver_18 (by decide) ?_
        refine z_iload_n hX 3 dX7_goesOver_20 rfl ?_
        refine z_iadd (v := (nI (7 + j))) hX dX7_goesOver_21 (nI_add _ _) ?_
        refine z_iald (v := (nI (u (7 + j)))) hX 1 (j := (7 + j)) rfl (by omega) (by decide) rfl dX7_goesOver_22 ?_
        refine z_iload_n hX 0 dX7_goesOver_23 rfl ?_
        refine zn_icmp_gt (tgt := 49) hX dX7_goesOver_24 (by decide) (by omega) (by omega) (fun c24 => ?_) (fun c24 => ?_)
        · skip
          refine z_aload_n hX 1 dX7_goesOver_49 rfl ?_
          refine z_iload_n hX 3 dX7_goesOver_50 rfl ?_
          refine z_iload_n hX 0 dX7_goesOver_51 rfl ?_
          refine z_ineg (v := (-nI (wearN (u (11 + 3 * p)) j (u 1)))) hX dX7_goesOver_52 rfl ?_
          refine z_callVv (st := []) hX (c_X7_stonesByM _ G x ad v u j (wearN (u (11 + 3 * p)) j (u 1)) (by omega) (by omega) (by omega)) lb_X7_stonesBy ml_X7_54 (fun (_u : Unit) => [ob x 7 (rf ad v), ia G (ad 0) 29 (fN (va_up u (7 + j) (u (7 + j) - (wearN (u (11 + 3 * p)) j (u 1)))))]) (wr := []) [0, 1] [] [0, 1] ⟨rfl, rfl, rfl, fun _ => rfl⟩ 0 rfl rfl rfl rfl ⟨Nat.le_refl _, Nat.le_refl _⟩ dX7_goesOver_53 rfl (fun  u53 hw53 => ?_)
          have hg2 : crossG (s (11 + 3 * p)) (s 1) (4 - (j + 1)) (j + 1) (va_up u (7 + j) (u (7 + j) - wearN (u (11 + 3 * p)) j (u 1))) = crossG (s (11 + 3 * p)) (s 1) 4 0 s := by
            have ef : 4 - j = (4 - (j + 1)) + 1 := by omega
            rw [ef, crossG, if_neg (by rw [← hd, ← hk]; omega)] at hg
            rw [hd, hk]
            exact hg
          refine z_iinc (v := (nI (j + 1))) (L' := [(2, .int (nI (j + 1))), (3, .int (nI (wearN (u (11 + 3 * p)) j (u 1)))), (0, .ref x), (1, .int (nI p))]) hX 3 dX7_goesOver_56 rfl (nI_inc _) (Nat.le_of_ble_eq_true rfl) rfl ?_
          refine z_goto (tgt := 2) hX dX7_goesOver_59 (by decide) ?_
          refine z_lsub [2, 3, 0] rfl ?_
          exact ih2 (j + 1) (va_up u (7 + j) (u (7 + j) - (wearN (u (11 + 3 * p)) j (u 1)))) (by omega) (by omega) hg2 (fun i hi => by simp only [va_up]; split <;> first | omega | exact h40 i hi) (by rw [up_ne (by omega)]; exact hd) (by rw [up_ne (by omega)]; exact hk)
        · skip
          refine z_aload_n hX 1 dX7_goesOver_27 rfl ?_
          refine z_get (v := .ref (ad 0)) hX fX7 0 0 rfl rfl (Nat.le_of_ble_eq_true rfl) fl_X7_7 rfl dX7_goesOver_28 ?_
          refine z_bipush (v := nI 7) hX dX7_goesOver_31 (by decide) ?_
          refine z_iload_n hX 3 dX7_goesOver_33 rfl ?_
          refine z_iadd (v := (nI (7 + j))) hX dX7_goesOver_34 (nI_add _ _) ?_
          refine z_iconst (v := nI 0) hX dX7_goesOver_35 (by decide) ?_
          refine z_iast (ws' := [ob x 7 (rf ad v), ia G (ad 0) 29 (fN (va_up u (7 + j) 0))]) hX 1 (j := (7 + j)) rfl (by omega) (by decide) (updN _ _ _) rfl dX7_goesOver_36 ?_
          refine z_aload_n hX 1 dX7_goesOver_37 rfl ?_
          refine z_get (v := .ref (ad 0)) hX fX7 0 0 rfl rfl (Nat.le_of_ble_eq_true rfl) fl_X7_7 rfl dX7_goesOver_38 ?_
          refine z_iconst (v := nI 5) hX dX7_goesOver_41 (by decide) ?_
          refine z_dup2 hX dX7_goesOver_42 rfl rfl ?_
          refine z_iald (v := (nI ((va_up u (7 + j) 0) 5))) hX 1 (j := 5) rfl (by omega) (by decide) rfl dX7_goesOver_43 ?_
          refine z_iconst (v := nI 1) hX dX7_goesOver_44 (by decide) ?_
          refine z_iadd (v := (nI ((va_up u (7 + j) 0) 5 + 1))) hX dX7_goesOver_45 (nI_add _ _) ?_
          refine z_iast (ws' := [ob x 7 (rf ad v), ia G (ad 0) 29 (fN (va_up (va_up u (7 + j) 0) 5 ((va_up u (7 + j) 0) 5 + 1)))]) hX 1 (j := 5) rfl (by omega) (by decide) (updN _ _ _) rfl dX7_goesOver_46 ?_
          refine z_iconst (v := nI 1) hX dX7_goesOver_47 (by decide) ?_
          have ef : 4 - j = (3 - j) + 1 := by omega
          rw [ef, crossG, if_pos (by rw [← hd, ← hk]; omega)] at hg
          have e1 : va_up u (7 + j) 0 = (crossG (s (11 + 3 * p)) (s 1) 4 0 s).1 := by rw [← hg]
          have e2 : (crossG (s (11 + 3 * p)) (s 1) 4 0 s).2 = true := by rw [← hg]
          have e3 : va_up (va_up u (7 + j) 0) 5 ((va_up u (7 + j) 0) 5 + 1) = overS p s := by unfold overS; rw [if_pos e2, ← e1]
          rw [e3]
          exact hR _ () _ _ ⟨fun _ => rfl, fun hz => absurd e2 hz⟩ dX7_goesOver_48 rfl
  refine z_lsub [1, 2, 0] rfl ?_
  exact lp2 5 0 s (by omega) (by omega) rfl h1 rfl rfl
set_option maxRecDepth 100000 in
set_option maxHeartbeats 4000000 in
theorem c_X7_goesBy (l : Launch) (G : zG) (x : Nat) (ad : Nat → Nat) (v : Nat → Nat) (s : nst) (D : Nat) (h0 : WF D 0 s) (h1 : D ≤ 20000) : zMv l G yX7_goesBy cX7_goesBy 2 3 0 0 67 [.ref x] [ob x 7 (rf ad v), ia G (ad 0) 29 (fN s)] (fun (_u : Unit) => True) (fun (_u : Unit) => [ob x 7 (rf ad (va_up v 1 (goFall s))), ia G (ad 0) 29 (fN (goBy s))]) := by
  refine zMv.of (by decide) rfl (fun X A H0 hX hXl hnm hR => ?_)
  show Z (X, G, A, H0, 2) 0 0 [ob x 7 (rf ad v), ia G (ad 0) 29 (fN s)] 0 [(0, .ref x)] []
  subst hXl
  refine z_aload_n hX 0 dX7_goesBy_0 rfl ?_
  refine z_iconst (v := nI 0) hX dX7_goesBy_1 (by decide) ?_
  refine z_put (v := .int (nI 0)) (ws' := [ob x 7 (rf ad (va_up v 1 0)), ia G (ad 0) 29 (fN s)]) hX fX7 0 1 rfl rfl (Nat.le_of_ble_eq_true rfl) fl_X7_61 rfl rfl rfl rfl rfl dX7_goesBy_2 ?_
  refine z_iconst (v := nI 0) hX dX7_goesBy_5 (by decide) ?_
  refine z_istore_n (L' := [(1, .int (nI 0)), (0, .ref x)]) hX dX7_goesBy_6 (Nat.le_of_ble_eq_true rfl) rfl ?_
  have lp7 : ∀ (n7 : Nat) (t : Nat) (u : nst) (fs : Nat), (s 0 + 1 ≤ t + n7) → (t ≤ s 0) → (passTo t s = (u, fs)) → Z (X, G, A, H0, 2) 0 0 [ob x 7 (rf ad (va_up v 1 fs)), ia G (ad 0) 29 (fN u)] 7 [(0, .ref x), (1, .int (nI t))] [] := by
    intro n7
    induction n7 with
    | zero =>
      intro t u fs hn ht hp
      exfalso
      omega
    | succ n7 ih7 =>
      intro t u fs hn ht hp
      have wf := passTo_WF h0 t
      rw [hp] at wf
      obtain ⟨w0, w1, w2, w3, w6, w7, w11⟩ := wf
      dsimp only at w0 w1 w2 w3 w6 w7 w11
      have kp := fun (i : Nat) (hi : i = 0 ∨ i = 1 ∨ i = 2 ∨ i = 6 ∨ 11 ≤ i) => passTo_keep s hi t
      rw [hp] at kp
      dsimp only at kp
      have k0 := kp 0 (by omega)
      have k1 := kp 1 (by omega)
      have z0 := h0.1
      have z1 := h0.2.1
      refine z_iload_n hX 1 dX7_goesBy_7 rfl ?_
      refine z_aload_n hX 0 dX7_goesBy_8 rfl ?_
      refine z_get (v := .ref (ad 0)) hX fX7 0 0 rfl rfl (Nat.le_of_ble_eq_true rfl) fl_X7_7 rfl dX7_goesBy_9 ?_
      refine z_iconst (v := nI 0) hX dX7_goesBy_12 (by decide) ?_
      refine z_iald (v := (nI (u 0))) hX 1 (j := 0) rfl (by omega) (by decide) rfl dX7_goesBy_13 ?_
      refine zn_icmp_ge (tgt := 93) hX dX7_goesBy_14 (by decide) (by omega) (by omega) (fun c14 => ?_) (fun c14 => ?_)
      · skip
        refine z_aload_n hX 0 dX7_goesBy_93 rfl ?_
        refine z_get (v := .ref (ad 0)) hX fX7 0 0 rfl rfl (Nat.le_of_ble_eq_true rfl) fl_X7_7 rfl dX7_goesBy_94 ?_
        refine z_iconst (v := nI 1) hX dX7_goesBy_97 (by decide) ?_
        refine z_dup2 hX dX7_goesBy_98 rfl rfl ?_
        refine z_iald (v := (nI (u 1))) hX 1 (j := 1) rfl (by omega) (by decide) rfl dX7_goesBy_99 ?_
        refine z_iconst (v := nI 1) hX dX7_goesBy_100 (by decide) ?_
        refine z_iadd (v := (nI (u 1 + 1))) hX dX7_goesBy_101 (nI_add _ _) ?_
        refine z_iast (ws' := [ob x 7 (rf ad (va_up v 1 fs)), ia G (ad 0) 29 (fN (va_up u 1 (u 1 + 1)))]) hX 1 (j := 1) rfl (by omega) (by decide) (updN _ _ _) rfl dX7_goesBy_102 ?_
        have et : t = s 0 := by omega
        subst et
        have eg : va_up u 1 (u 1 + 1) = goBy s := by unfold goBy; rw [hp, k1]
        have ef : fs = goFall s := by unfold goFall; rw [hp]
        rw [eg, ef]
        exact hR () _ _ trivial dX7_goesBy_103
      · skip
        obtain ⟨x1, x2, x3, x4⟩ := w11 t (by omega)
        refine z_aload_n hX 0 dX7_goesBy_17 rfl ?_
        refine z_iload_n hX 1 dX7_goesBy_18 rfl ?_
        refine z_callVi (st := []) hX (c_X7_comes _ G x ad (va_up v 1 fs) u t (by omega) (by omega) (by omega) (by omega)) lb_X7_comes ml_X7_65 (fun (_u : Unit) => [ob x 7 (rf ad (va_up v 1 fs)), ia G (ad 0) 29 (fN u)]) (wr := []) [0, 1] [] [0, 1] ⟨rfl, rfl, rfl, fun _ => rfl⟩ 0 rfl rfl rfl rfl ⟨Nat.le_refl _, Nat.le_refl _⟩ dX7_goesBy_19 rfl (fun r19 u19 hw19 => ?_)
        try dsimp only at hw19
        rcases Classical.em (u 1 % u (13 + 3 * t) = 0) with b19 | b19
        · obtain rfl := hw19.1 b19
          refine zn_if_eq (tgt := 55) hX dX7_goesBy_22 (by decide) (by omega) (fun c22 => absurd c22 (by omega)) (fun _ => ?_)
          refine z_aload_n hX 0 dX7_goesBy_25 rfl ?_
          refine z_iload_n hX 1 dX7_goesBy_26 rfl ?_
          refine z_callVi (st := []) hX (c_X7_isRefused _ G x ad (va_up v 1 fs) u t (by omega) (by omega)) lb_X7_isRefused ml_X7_69 (fun (_u : Unit) => [ob x 7 (rf ad (va_up v 1 fs)), ia G (ad 0) 29 (fN u)]) (wr := []) [0, 1] [] [0, 1] ⟨rfl, rfl, rfl, fun _ => rfl⟩ 0 rfl rfl rfl rfl ⟨Nat.le_refl _, Nat.le_refl _⟩ dX7_goesBy_27 rfl (fun r27 u27 hw27 => ?_)
          try dsimp only at hw27
          rcases Classical.em (u (12 + 3 * t) &&& u 2 ≠ 0) with b27 | b27
          · obtain rfl := hw27.1 b27
            refine zn_if_eq (tgt := 55) hX dX7_goesBy_30 (by decide) (by omega) (fun c30 => absurd c30 (by omega)) (fun _ => ?_)
            refine z_aload_n hX 0 dX7_goesBy_33 rfl ?_
            refine z_get (v := .ref (ad 0)) hX fX7 0 0 rfl rfl (Nat.le_of_ble_eq_true rfl) fl_X7_7 rfl dX7_goesBy_34 ?_
            refine z_iconst (v := nI 4) hX dX7_goesBy_37 (by decide) ?_
            refine z_dup2 hX dX7_goesBy_38 rfl rfl ?_
            refine z_iald (v := (nI (u 4))) hX 1 (j := 4) rfl (by omega) (by decide) rfl dX7_goesBy_39 ?_
            refine z_iconst (v := nI 1) hX dX7_goesBy_40 (by decide) ?_
            refine z_iadd (v := (nI (u 4 + 1))) hX dX7_goesBy_41 (nI_add _ _) ?_
            refine z_iast (ws' := [ob x 7 (rf ad (va_up v 1 fs)), ia G (ad 0) 29 (fN (va_up u 4 (u 4 + 1)))]) hX 1 (j := 4) rfl (by omega) (by decide) (updN _ _ _) rfl dX7_goesBy_42 ?_
            refine z_aload_n hX 0 dX7_goesBy_43 rfl ?_
            refine z_aload_n hX 0 dX7_goesBy_44 rfl ?_
            refine z_iload_n hX 1 dX7_goesBy_45 rfl ?_
            have e4 : va_up u 4 (u 4 + 1) (11 + 3 * t) = u (11 + 3 * t) := up_ne (by omega)
            have e5 : va_up u 4 (u 4 + 1) 1 = u 1 := rfl
            refine z_callVi (st := [.ref x]) hX (c_X7_gives _ G x ad (va_up v 1 fs) (va_up u 4 (u 4 + 1)) t (by omega) (by omega) (by omega)) lb_X7_gives ml_X7_72 (fun (_u : Unit) => [ob x 7 (rf ad (va_up v 1 fs)), ia G (ad 0) 29 (fN (va_up u 4 (u 4 + 1)))]) (wr := []) [0, 1] [] [0, 1] ⟨rfl, rfl, rfl, fun _ => rfl⟩ 0 rfl rfl rfl rfl ⟨Nat.le_refl _, Nat.le_refl _⟩ dX7_goesBy_46 rfl (fun r46 u46 hw46 => ?_)
            subst hw46
            rw [e4]
            refine z_callVv (st := []) hX (c_X7_putsIn _ G x ad (va_up v 1 fs) (va_up u 4 (u 4 + 1)) (givN (u (11 + 3 * t)) (u 1)) (fun a9 h9 => by rw [up_ne (by omega)]; exact w7 a9 h9) (by have := givN_le (u (11 + 3 * t)) (u 1); omega)) lb_X7_putsIn ml_X7_76 (fun (_u : Unit) => [ob x 7 (rf ad (va_up v 1 fs)), ia G (ad 0) 29 (fN (putN (givN (u (11 + 3 * t)) (u 1)) (va_up u 4 (u 4 + 1))))]) (wr := []) [0, 1] [] [0, 1] ⟨rfl, rfl, rfl, fun _ => rfl⟩ 0 rfl rfl rfl rfl ⟨Nat.le_refl _, Nat.le_refl _⟩ dX7_goesBy_49 rfl (fun  u49 hw49 => ?_)
            refine z_goto (tgt := 87) hX dX7_goesBy_52 (by decide) ?_
            have hstep : passTo (t + 1) s = (putN (givN (u (11 + 3 * t)) (u 1)) (va_up u 4 (u 4 + 1)), fs) := by
              rw [passTo, hp]
              unfold stepP
              dsimp only
              rw [if_pos b19, if_pos b27]
            refine z_iinc (v := (nI (t + 1))) (L' := [(1, .int (nI (t + 1))), (0, .ref x)]) hX 1 dX7_goesBy_87 rfl (nI_inc _) (Nat.le_of_ble_eq_true rfl) rfl ?_
            refine z_goto (tgt := 7) hX dX7_goesBy_90 (by decide) ?_
            refine z_lsub [1, 0] rfl ?_
            exact ih7 (t + 1) (putN (givN (u (11 + 3 * t)) (u 1)) (va_up u 4 (u 4 + 1))) fs (by omega) (by omega) hstep
          · obtain rfl := hw27.2 b27
            refine zn_if_eq (tgt := 55) hX dX7_goesBy_30 (by decide) (by omega) (fun _ => ?_) (fun c30 => absurd c30 (by omega))
            refine z_aload_n hX 0 dX7_goesBy_55 rfl ?_
            refine z_iload_n hX 1 dX7_goesBy_56 rfl ?_
            refine z_callVi (st := []) hX (c_X7_comes _ G x ad (va_up v 1 fs) u t (by omega) (by omega) (by omega) (by omega)) lb_X7_comes ml_X7_65 (fun (_u : Unit) => [ob x 7 (rf ad (va_up v 1 fs)), ia G (ad 0) 29 (fN u)]) (wr := []) [0, 1] [] [0, 1] ⟨rfl, rfl, rfl, fun _ => rfl⟩ 0 rfl rfl rfl rfl ⟨Nat.le_refl _, Nat.le_refl _⟩ dX7_goesBy_57 rfl (fun r57 u57 hw57 => ?_)
            try dsimp only at hw57
            obtain rfl := hw57.1 b19
            refine zn_if_eq (tgt := 87) hX dX7_goesBy_60 (by decide) (by omega) (fun c60 => absurd c60 (by omega)) (fun _ => ?_)
            refine z_aload_n hX 0 dX7_goesBy_63 rfl ?_
            refine z_dup hX dX7_goesBy_64 rfl ?_
            refine z_get (v := .int (nI fs)) hX fX7 0 1 rfl rfl (Nat.le_of_ble_eq_true rfl) fl_X7_61 rfl dX7_goesBy_65 ?_
            refine z_aload_n hX 0 dX7_goesBy_68 rfl ?_
            refine z_iload_n hX 1 dX7_goesBy_69 rfl ?_
            refine z_callVi (st := [.int (nI fs), .ref x]) hX (c_X7_goesOver _ G x ad (va_up v 1 fs) u t (by omega) w7 (by omega) (by omega)) lb_X7_goesOver ml_X7_80 (fun (_u : Unit) => [ob x 7 (rf ad (va_up v 1 fs)), ia G (ad 0) 29 (fN (overS t u))]) (wr := []) [0, 1] [] [0, 1] ⟨rfl, rfl, rfl, fun _ => rfl⟩ 0 rfl rfl rfl rfl ⟨Nat.le_refl _, Nat.le_refl _⟩ dX7_goesBy_70 rfl (fun r70 u70 hw70 => ?_)
            try dsimp only at hw70
            rcases Classical.em ((crossG (u (11 + 3 * t)) (u 1) 4 0 u).2 = true) with b70 | b70
            · obtain rfl := hw70.1 b70
              refine zn_if_eq (tgt := 82) hX dX7_goesBy_73 (by decide) (by omega) (fun c73 => absurd c73 (by omega)) (fun _ => ?_)
              refine z_iconst (v := nI 1) hX dX7_goesBy_76 (by decide) ?_
              refine z_iload_n hX 1 dX7_goesBy_77 rfl ?_
              refine z_ishl (v := (nI (2 ^ t))) hX dX7_goesBy_78 (shl_nI _ (by omega)) ?_
              refine z_goto (tgt := 83) hX dX7_goesBy_79 (by decide) ?_
              refine z_ior (v := (nI (fs ||| (2 ^ t)))) hX dX7_goesBy_83 (or_nI _ _) ?_
              refine z_put (v := .int (nI (fs ||| (2 ^ t)))) (ws' := [ob x 7 (rf ad (va_up v 1 (fs ||| (2 ^ t)))), ia G (ad 0) 29 (fN (overS t u))]) hX fX7 0 1 rfl rfl (Nat.le_of_ble_eq_true rfl) fl_X7_61 rfl rfl rfl rfl rfl dX7_goesBy_84 ?_
              have hstep : passTo (t + 1) s = (overS t u, fs ||| (2 ^ t)) := by
                rw [passTo, hp]
                unfold stepP
                dsimp only
                rw [if_pos b19, if_neg b27, if_pos b70]
                unfold overS
                rw [if_pos b70]
              refine z_iinc (v := (nI (t + 1))) (L' := [(1, .int (nI (t + 1))), (0, .ref x)]) hX 1 dX7_goesBy_87 rfl (nI_inc _) (Nat.le_of_ble_eq_true rfl) rfl ?_
              refine z_goto (tgt := 7) hX dX7_goesBy_90 (by decide) ?_
              refine z_lsub [1, 0] rfl ?_
              exact ih7 (t + 1) (overS t u) (fs ||| (2 ^ t)) (by omega) (by omega) hstep
            · obtain rfl := hw70.2 b70
              refine zn_if_eq (tgt := 82) hX dX7_goesBy_73 (by decide) (by omega) (fun _ => ?_) (fun c73 => absurd c73 (by omega))
              refine z_iconst (v := nI 0) hX dX7_goesBy_82 (by decide) ?_
              refine z_ior (v := (nI fs)) hX dX7_goesBy_83 ((or_nI _ _).trans (congrArg nI (Nat.or_zero _))) ?_
              refine z_put (v := .int (nI fs)) (ws' := [ob x 7 (rf ad (va_up v 1 fs)), ia G (ad 0) 29 (fN (overS t u))]) hX fX7 0 1 rfl rfl (Nat.le_of_ble_eq_true rfl) fl_X7_61 rfl rfl rfl rfl rfl dX7_goesBy_84 ?_
              have hstep : passTo (t + 1) s = (overS t u, fs) := by
                rw [passTo, hp]
                unfold stepP
                dsimp only
                rw [if_pos b19, if_neg b27, if_neg b70]
                unfold overS
                rw [if_neg b70]
              refine z_iinc (v := (nI (t + 1))) (L' := [(1, .int (nI (t + 1))), (0, .ref x)]) hX 1 dX7_goesBy_87 rfl (nI_inc _) (Nat.le_of_ble_eq_true rfl) rfl ?_
              refine z_goto (tgt := 7) hX dX7_goesBy_90 (by decide) ?_
              refine z_lsub [1, 0] rfl ?_
              exact ih7 (t + 1) (overS t u) fs (by omega) (by omega) hstep
        · obtain rfl := hw19.2 b19
          refine zn_if_eq (tgt := 55) hX dX7_goesBy_22 (by decide) (by omega) (fun _ => ?_) (fun c22 => absurd c22 (by omega))
          refine z_aload_n hX 0 dX7_goesBy_55 rfl ?_
          refine z_iload_n hX 1 dX7_goesBy_56 rfl ?_
          refine z_callVi (st := []) hX (c_X7_comes _ G x ad (va_up v 1 fs) u t (by omega) (by omega) (by omega) (by omega)) lb_X7_comes ml_X7_65 (fun (_u : Unit) => [ob x 7 (rf ad (va_up v 1 fs)), ia G (ad 0) 29 (fN u)]) (wr := []) [0, 1] [] [0, 1] ⟨rfl, rfl, rfl, fun _ => rfl⟩ 0 rfl rfl rfl rfl ⟨Nat.le_refl _, Nat.le_refl _⟩ dX7_goesBy_57 rfl (fun r57 u57 hw57 => ?_)
          try dsimp only at hw57
          obtain rfl := hw57.2 b19
          refine zn_if_eq (tgt := 87) hX dX7_goesBy_60 (by decide) (by omega) (fun _ => ?_) (fun c60 => absurd c60 (by omega))
          have hstep : passTo (t + 1) s = (u, fs) := by
            rw [passTo, hp]
            unfold stepP
            dsimp only
            rw [if_neg b19]
          refine z_iinc (v := (nI (t + 1))) (L' := [(1, .int (nI (t + 1))), (0, .ref x)]) hX 1 dX7_goesBy_87 rfl (nI_inc _) (Nat.le_of_ble_eq_true rfl) rfl ?_
          refine z_goto (tgt := 7) hX dX7_goesBy_90 (by decide) ?_
          refine z_lsub [1, 0] rfl ?_
          exact ih7 (t + 1) u fs (by omega) (by omega) hstep
  refine z_lsub [1, 0] rfl ?_
  exact lp7 (s 0 + 1) 0 s 0 (by omega) (by omega) rfl
set_option maxRecDepth 100000 in
set_option maxHeartbeats 4000000 in
theorem c_X7_goesOn (l : Launch) (G : zG) (x : Nat) (ad : Nat → Nat) (v : Nat → Nat) (s : nst) (N : Nat) (D : Nat) (h0 : WF D 0 s) (h1 : D ≤ 15000) (h2 : N ≤ 100) : zMv l G yX7_goesOn cX7_goesOn 3 4 0 0 88 [.ref x, .int (nI N)] [ob x 7 (rf ad v), ia G (ad 0) 29 (fN s)] (fun (_u : Nat) => True) (fun (_u : Nat) => [ob x 7 (rf ad (va_up v 1 _u)), ia G (ad 0) 29 (fN (goN N s))]) := by
  refine zMv.of (by decide) rfl (fun X A H0 hX hXl hnm hR => ?_)
  show Z (X, G, A, H0, 3) 0 0 [ob x 7 (rf ad v), ia G (ad 0) 29 (fN s)] 0 [(0, .ref x), (1, .int (nI N))] []
  subst hXl
  refine z_iconst (v := nI 0) hX dX7_goesOn_0 (by decide) ?_
  refine z_istore_n (L' := [(2, .int (nI 0)), (0, .ref x), (1, .int (nI N))]) hX dX7_goesOn_1 (Nat.le_of_ble_eq_true rfl) rfl ?_
  have lp2 : ∀ (n2 : Nat) (k : Nat) (f : Nat), (N + 1 ≤ k + n2) → (k ≤ N) → Z (X, G, A, H0, 3) 0 0 [ob x 7 (rf ad (va_up v 1 f)), ia G (ad 0) 29 (fN (goN k s))] 2 [(0, .ref x), (1, .int (nI N)), (2, .int (nI k))] [] := by
    intro n2
    induction n2 with
    | zero =>
      intro k f hn hk
      exfalso
      omega
    | succ n2 ih2 =>
      intro k f hn hk
      have q0 := goN_WF h0 k
      refine z_iload_n hX 2 dX7_goesOn_2 rfl ?_
      refine z_iload_n hX 1 dX7_goesOn_3 rfl ?_
      refine zn_icmp_ge (tgt := 17) hX dX7_goesOn_4 (by decide) (by omega) (by omega) (fun c4 => ?_) (fun c4 => ?_)
      · skip
        have ek : k = N := by omega
        subst ek
        exact hR f _ _ trivial dX7_goesOn_17
      · skip
        refine z_aload_n hX 0 dX7_goesOn_7 rfl ?_
        refine z_callVv (st := []) hX (c_X7_goesBy _ G x ad (va_up v 1 f) (goN k s) (D + k) q0 (by omega)) lb_X7_goesBy ml_X7_83 (fun (_u : Unit) => [ob x 7 (rf ad (va_up (va_up v 1 f) 1 (goFall (goN k s)))), ia G (ad 0) 29 (fN (goBy (goN k s)))]) (wr := []) [0, 1] [] [0, 1] ⟨rfl, rfl, rfl, fun _ => rfl⟩ 0 rfl rfl rfl rfl ⟨Nat.le_refl _, Nat.le_refl _⟩ dX7_goesOn_8 rfl (fun  u8 hw8 => ?_)
        refine z_iinc (v := (nI (k + 1))) (L' := [(2, .int (nI (k + 1))), (0, .ref x), (1, .int (nI N))]) hX 2 dX7_goesOn_11 rfl (nI_inc _) (Nat.le_of_ble_eq_true rfl) rfl ?_
        refine z_goto (tgt := 2) hX dX7_goesOn_14 (by decide) ?_
        refine z_lsub [1, 2, 0] rfl ?_
        exact ih2 (k + 1) (goFall (goN k s)) (by omega) (by omega)
  refine z_lsub [1, 2, 0] rfl ?_
  exact lp2 (N + 1) 0 (v 1) (by omega) (by omega)
