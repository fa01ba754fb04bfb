set_option maxRecDepth 100000 in
set_option maxHeartbeats 4000000 in
theorem c_X7_list (l : Launch) (G : zG) (x : Nat) (ad : Nat → Nat) (v : Nat → Nat) (s : nst) (U : nst) (h : Nat → nst) (lk : Int32) (h0 : WF 9999 0 s) (h1 : v 10 ≤ 8) (h2 : UH (v 10) U h) : zMi l G yX7_list cX7_list 3 .int 1 0 0 25 [.ref x, .int lk] [ob x 7 (rf ad v), ia G (ad 0) 29 (fN s), ia G (ad 9) 232 (fN U)] (fun (r : Int32) (_u : nst × nst) => r = spList s lk ∧ _u.1 3 = v 3 ∧ _u.1 10 = cond (okList s lk) (pushU (v 10)) (v 10) ∧ _u.1 17 = v 17 ∧ _u.1 18 = v 18 ∧ UH (cond (okList s lk) (pushU (v 10)) (v 10)) _u.2 (cond (okList s lk) (pushH (v 10) h s) (h))) (fun (_u : nst × nst) => [ob x 7 (rf ad _u.1), ia G (ad 0) 29 (fN (cond (okList s lk) (va_up s 2 (gN lk)) (s))), ia G (ad 9) 232 (fN _u.2)]) := by
  refine zMi.of (by decide) rfl (fun X A H0 hX hXl hR => ?_)
  show Z (X, G, A, H0, 3) 0 0 [ob x 7 (rf ad v), ia G (ad 0) 29 (fN s), ia G (ad 9) 232 (fN U)] 0 [(0, .ref x), (1, .int lk)] []
  subst hXl
  have z0 := h0.1
  have z1 := h0.2.1
  have z2 := h0.2.2.1
  have z3 := h0.2.2.2.1
  refine z_iload_n hX 1 dX7_list_0 rfl ?_
  refine z_i2l (v := (lk.toInt64)) hX dX7_list_1 rfl ?_
  refine z_lconst (v := lN 0) hX dX7_list_2 (by decide) ?_
  refine z_ldc2 (v := lN 63) hX kl_X7_91 dX7_list_3 ?_
  refine z_callSi (st := []) hX (c_X7_inX _ G lk 0 63 (by omega) (by omega)) lb_X7_in ml_X7_44 (fun (_u : Unit) => [ob x 7 (rf ad v), ia G (ad 0) 29 (fN s), ia G (ad 9) 232 (fN U)]) (wr := [ob x 7 (rf ad v), ia G (ad 0) 29 (fN s), ia G (ad 9) 232 (fN U)]) [] [0, 1, 2] [0, 1, 2] ⟨rfl, rfl, rfl, fun _ => rfl⟩ rfl rfl ⟨Nat.le_refl _, Nat.le_refl _⟩ dX7_list_6 rfl (fun r6 u6 hw6 => ?_)
  try dsimp only at hw6
  rcases hw6 with ⟨lkj, hlkl, hlkh, rfl, rfl⟩ | ⟨hw6, rfl⟩
  · skip
    refine zn_if_ne (tgt := 14) hX dX7_list_9 (by decide) (by omega) (fun _ => ?_) (fun c9 => absurd c9 (by omega))
    refine z_aload_n hX 0 dX7_list_14 rfl ?_
    refine z_get (v := .ref (ad 0)) hX fX7 0 0 rfl rfl (Nat.le_of_ble_eq_true rfl) fl_X7_7 rfl dX7_list_15 ?_
    refine z_iconst (v := nI 2) hX dX7_list_18 (by decide) ?_
    refine z_iald (v := (nI (s 2))) hX 1 (j := 2) rfl (by omega) (by decide) rfl dX7_list_19 ?_
    refine z_istore_n (L' := [(2, .int (nI (s 2))), (0, .ref x), (1, .int (nI lkj))]) hX dX7_list_20 (Nat.le_of_ble_eq_true rfl) rfl ?_
    refine z_iload_n hX 0 dX7_list_21 rfl ?_
    refine z_iload_n hX 2 dX7_list_22 rfl ?_
    refine zn_icmp_ne (tgt := 29) hX dX7_list_23 (by decide) (by omega) (by omega) (fun c23 => ?_) (fun c23 => ?_)
    · skip
      refine z_aload_n hX 1 dX7_list_29 rfl ?_
      refine z_callVv (st := []) hX (c_X7_notes _ G x ad v s U h h1 h2) lb_X7_notes ml_X7_153 (fun (_u : nst) => [ob x 7 (rf ad (va_up v 10 (pushU (v 10)))), ia G (ad 0) 29 (fN s), ia G (ad 9) 232 (fN _u)]) (wr := []) [0, 1, 2] [] [0, 1, 2] ⟨rfl, rfl, rfl, fun _ => rfl⟩ 0 rfl rfl rfl rfl ⟨Nat.le_refl _, Nat.le_refl _⟩ dX7_list_30 rfl (fun  u30 hw30 => ?_)
      obtain ⟨U2_1, rfl⟩ : ∃ z9, z9 = u30 := ⟨_, rfl⟩
      refine z_aload_n hX 1 dX7_list_33 rfl ?_
      refine z_get (v := .ref (ad 0)) hX fX7 0 0 rfl rfl (Nat.le_of_ble_eq_true rfl) fl_X7_7 rfl dX7_list_34 ?_
      refine z_iconst (v := nI 2) hX dX7_list_37 (by decide) ?_
      refine z_iload_n hX 2 dX7_list_38 rfl ?_
      refine z_iast (ws' := [ob x 7 (rf ad (va_up v 10 (pushU (v 10)))), ia G (ad 0) 29 (fN (va_up s 2 lkj)), ia G (ad 9) 232 (fN U2_1)]) hX 1 (j := 2) rfl (by omega) (by decide) (updN _ _ _) rfl dX7_list_39 ?_
      refine z_iload_n hX 0 dX7_list_40 rfl ?_
      have e0 : okList s (nI lkj) = true := by
        unfold okList
        rw [inb_t (by omega) (by omega) (by omega)]
        simp [gN_nI (show lkj < 2147483648 by omega), c23]
      rw [e0, gN_nI (show lkj < 2147483648 by omega)] at hR
      exact hR _ (va_up v 10 (pushU (v 10)), U2_1) _ _ ⟨by unfold spList; rw [if_pos (inb_t (by omega) (by omega) (by omega)), gN_nI (by omega), if_neg c23], rfl, rfl, rfl, rfl, hw30⟩ dX7_list_41 rfl
    · skip
      refine z_bipush (v := (-2)) hX dX7_list_26 (by decide) ?_
      have e0 : okList s (nI lkj) = false := by
        unfold okList
        simp [gN_nI (show lkj < 2147483648 by omega), c23]
      rw [e0] at hR
      exact hR _ (v, U) _ _ ⟨by unfold spList; rw [if_pos (inb_t (by omega) (by omega) (by omega)), gN_nI (by omega), if_pos c23], rfl, rfl, rfl, rfl, h2⟩ dX7_list_28 rfl
  · have hb_lk : inb lk 0 63 = false := hw6
    refine zn_if_ne (tgt := 14) hX dX7_list_9 (by decide) (by omega) (fun c9 => absurd c9 (by omega)) (fun _ => ?_)
    refine z_iconst (v := (-1)) hX dX7_list_12 (by decide) ?_
    have e0 : okList s lk = false := by
      unfold okList
      simp [hb_lk]
    rw [e0] at hR
    exact hR _ (v, U) _ _ ⟨by unfold spList; rw [if_neg (by simp [hb_lk])], rfl, rfl, rfl, rfl, h2⟩ dX7_list_13 rfl
set_option maxRecDepth 100000 in
set_option maxHeartbeats 4000000 in
theorem c_X7_mend (l : Launch) (G : zG) (x : Nat) (ad : Nat → Nat) (v : Nat → Nat) (s : nst) (U : nst) (h : Nat → nst) (ar : Int32) (nn : Int32) (h0 : WF 9999 0 s) (h1 : v 10 ≤ 8) (h2 : UH (v 10) U h) : zMi l G yX7_mend cX7_mend 3 .int 2 0 0 45 [.ref x, .int ar, .int nn] [ob x 7 (rf ad v), ia G (ad 0) 29 (fN s), ia G (ad 9) 232 (fN U)] (fun (r : Int32) (_u : nst × nst) => r = spMend s ar nn ∧ _u.1 3 = v 3 ∧ _u.1 10 = cond (okMend s ar nn) (pushU (v 10)) (v 10) ∧ _u.1 17 = v 17 ∧ _u.1 18 = v 18 ∧ UH (cond (okMend s ar nn) (pushU (v 10)) (v 10)) _u.2 (cond (okMend s ar nn) (pushH (v 10) h s) (h))) (fun (_u : nst × nst) => [ob x 7 (rf ad _u.1), ia G (ad 0) 29 (fN (cond (okMend s ar nn) (va_up s (7 + gN ar) (min 40 (s (7 + gN ar) + gN nn))) (s))), ia G (ad 9) 232 (fN _u.2)]) := by
  refine zMi.of (by decide) rfl (fun X A H0 hX hXl hR => ?_)
  show Z (X, G, A, H0, 3) 0 0 [ob x 7 (rf ad v), ia G (ad 0) 29 (fN s), ia G (ad 9) 232 (fN U)] 0 [(0, .ref x), (1, .int ar), (2, .int nn)] []
  subst hXl
  refine z_iload_n hX 1 dX7_mend_0 rfl ?_
  refine z_callSi (st := []) hX (c_X7_isArch _ G ar ) lb_X7_isArch ml_X7_102 (fun (_u : Unit) => [ob x 7 (rf ad v), ia G (ad 0) 29 (fN s), ia G (ad 9) 232 (fN U)]) (wr := [ob x 7 (rf ad v), ia G (ad 0) 29 (fN s), ia G (ad 9) 232 (fN U)]) [] [0, 1, 2] [0, 1, 2] ⟨rfl, rfl, rfl, fun _ => rfl⟩ rfl rfl ⟨Nat.le_refl _, Nat.le_refl _⟩ dX7_mend_1 rfl (fun r1 u1 hw1 => ?_)
  try dsimp only at hw1
  rcases hw1 with ⟨arj, harl, harh, rfl, rfl⟩ | ⟨hw1, rfl⟩
  · skip
    refine zn_if_eq (tgt := 19) hX dX7_mend_4 (by decide) (by omega) (fun c4 => absurd c4 (by omega)) (fun _ => ?_)
    refine z_iload_n hX 2 dX7_mend_7 rfl ?_
    refine z_i2l (v := (nn.toInt64)) hX dX7_mend_8 rfl ?_
    refine z_lconst (v := lN 1) hX dX7_mend_9 (by decide) ?_
    refine z_ldc2 (v := lN 40) hX kl_X7_151 dX7_mend_10 ?_
    refine z_callSi (st := []) hX (c_X7_inX _ G nn 1 40 (by omega) (by omega)) lb_X7_in ml_X7_44 (fun (_u : Unit) => [ob x 7 (rf ad v), ia G (ad 0) 29 (fN s), ia G (ad 9) 232 (fN U)]) (wr := [ob x 7 (rf ad v), ia G (ad 0) 29 (fN s), ia G (ad 9) 232 (fN U)]) [] [0, 1, 2] [0, 1, 2] ⟨rfl, rfl, rfl, fun _ => rfl⟩ rfl rfl ⟨Nat.le_refl _, Nat.le_refl _⟩ dX7_mend_13 rfl (fun r13 u13 hw13 => ?_)
    try dsimp only at hw13
    rcases hw13 with ⟨nnj, hnnl, hnnh, rfl, rfl⟩ | ⟨hw13, rfl⟩
    · skip
      refine zn_if_ne (tgt := 21) hX dX7_mend_16 (by decide) (by omega) (fun _ => ?_) (fun c16 => absurd c16 (by omega))
      have q4 := h0.2.2.2.2.2.1 arj (by omega)
      refine z_aload_n hX 0 dX7_mend_21 rfl ?_
      refine z_get (v := .ref (ad 0)) hX fX7 0 0 rfl rfl (Nat.le_of_ble_eq_true rfl) fl_X7_7 rfl dX7_mend_22 ?_
      refine z_bipush (v := nI 7) hX dX7_mend_25 (by decide) ?_
      refine z_iload_n hX 1 dX7_mend_27 rfl ?_
      refine z_iadd (v := (nI (7 + arj))) hX dX7_mend_28 (nI_add _ _) ?_
      refine z_iald (v := (nI (s (7 + arj)))) hX 1 (j := (7 + arj)) rfl (by omega) (by decide) rfl dX7_mend_29 ?_
      refine z_bipush (v := nI 40) hX dX7_mend_30 (by decide) ?_
      refine zn_icmp_ne (tgt := 38) hX dX7_mend_32 (by decide) (by omega) (by omega) (fun c32 => ?_) (fun c32 => ?_)
      · skip
        refine z_aload_n hX 0 dX7_mend_38 rfl ?_
        refine z_callVv (st := []) hX (c_X7_notes _ G x ad v s U h h1 h2) lb_X7_notes ml_X7_153 (fun (_u : nst) => [ob x 7 (rf ad (va_up v 10 (pushU (v 10)))), ia G (ad 0) 29 (fN s), ia G (ad 9) 232 (fN _u)]) (wr := []) [0, 1, 2] [] [0, 1, 2] ⟨rfl, rfl, rfl, fun _ => rfl⟩ 0 rfl rfl rfl rfl ⟨Nat.le_refl _, Nat.le_refl _⟩ dX7_mend_39 rfl (fun  u39 hw39 => ?_)
        obtain ⟨U2_1, rfl⟩ : ∃ z9, z9 = u39 := ⟨_, rfl⟩
        refine z_aload_n hX 0 dX7_mend_42 rfl ?_
        refine z_iload_n hX 1 dX7_mend_43 rfl ?_
        refine z_iload_n hX 2 dX7_mend_44 rfl ?_
        refine z_callVv (st := []) hX (c_X7_stonesByP _ G x ad (va_up v 10 (pushU (v 10))) s arj nnj (by omega) (by omega) (by omega)) lb_X7_stonesBy ml_X7_54 (fun (_u : Unit) => [ob x 7 (rf ad (va_up v 10 (pushU (v 10)))), ia G (ad 0) 29 (fN (va_up s (7 + arj) (min 40 (s (7 + arj) + nnj)))), ia G (ad 9) 232 (fN U2_1)]) (wr := [ia G (ad 9) 232 (fN U2_1)]) [0, 1] [2] [1, 2, 0] ⟨rfl, rfl, rfl, fun _ => rfl⟩ 0 rfl rfl rfl rfl ⟨Nat.le_refl _, Nat.le_refl _⟩ dX7_mend_45 rfl (fun  u45 hw45 => ?_)
        refine z_aload_n hX 0 dX7_mend_48 rfl ?_
        refine z_get (v := .ref (ad 0)) hX fX7 0 0 rfl rfl (Nat.le_of_ble_eq_true rfl) fl_X7_7 rfl dX7_mend_49 ?_
        refine z_bipush (v := nI 7) hX dX7_mend_52 (by decide) ?_
        refine z_iload_n hX 1 dX7_mend_54 rfl ?_
        refine z_iadd (v := (nI (7 + arj))) hX dX7_mend_55 (nI_add _ _) ?_
        refine z_iald (v := (nI ((va_up s (7 + arj) (min 40 (s (7 + arj) + nnj))) (7 + arj)))) hX 1 (j := (7 + arj)) rfl (by omega) (by decide) rfl dX7_mend_56 ?_
        have c33 : s (7 + arj) < 40 := by omega
        have e0 : okMend s (nI arj) (nI nnj) = true := by
          unfold okMend
          rw [inb_t (by omega) (by omega) (by omega), inb_t (by omega) (by omega) (by omega)]
          simp [gN_nI (show arj < 2147483648 by omega), c33]
        rw [e0, gN_nI (show arj < 2147483648 by omega), gN_nI (show nnj < 2147483648 by omega)] at hR
        exact hR _ (va_up v 10 (pushU (v 10)), U2_1) _ _ ⟨by unfold spMend; rw [if_pos (⟨inb_t (by omega) (by omega) (by omega), inb_t (by omega) (by omega) (by omega)⟩), gN_nI (show arj < 2147483648 by omega), gN_nI (show nnj < 2147483648 by omega), if_pos c33]; exact congrArg nI up_eq, rfl, rfl, rfl, rfl, hw39⟩ dX7_mend_57 rfl
      · skip
        refine z_bipush (v := (-2)) hX dX7_mend_35 (by decide) ?_
        have e0 : okMend s (nI arj) (nI nnj) = false := by
          unfold okMend
          simp [gN_nI (show arj < 2147483648 by omega), c32]
        rw [e0] at hR
        exact hR _ (v, U) _ _ ⟨by unfold spMend; rw [if_pos (⟨inb_t (by omega) (by omega) (by omega), inb_t (by omega) (by omega) (by omega)⟩), gN_nI (by omega), if_neg (by omega)], rfl, rfl, rfl, rfl, h2⟩ dX7_mend_37 rfl
    · have hb_nn : inb nn 1 40 = false := hw13
      refine zn_if_ne (tgt := 21) hX dX7_mend_16 (by decide) (by omega) (fun c16 => absurd c16 (by omega)) (fun _ => ?_)
      refine z_iconst (v := (-1)) hX dX7_mend_19 (by decide) ?_
      have e0 : okMend s (nI arj) nn = false := by
        unfold okMend
        simp [hb_nn]
      rw [e0] at hR
      exact hR _ (v, U) _ _ ⟨by unfold spMend; rw [if_neg (by simp [hb_nn])], rfl, rfl, rfl, rfl, h2⟩ dX7_mend_20 rfl
  · have hb_ar : inb ar 0 3 = false := hw1
    refine zn_if_eq (tgt := 19) hX dX7_mend_4 (by decide) (by omega) (fun _ => ?_) (fun c4 => absurd c4 (by omega))
    refine z_iconst (v := (-1)) hX dX7_mend_19 (by decide) ?_
    have e0 : okMend s ar nn = false := by
      unfold okMend
      simp [hb_ar]
    rw [e0] at hR
    exact hR _ (v, U) _ _ ⟨by unfold spMend; rw [if_neg (by simp [hb_ar])], rfl, rfl, rfl, rfl, h2⟩ dX7_mend_20 rfl
set_option maxRecDepth 100000 in
set_option maxHeartbeats 4000000 in
theorem c_X7_floodBy (l : Launch) (G : zG) (x : Nat) (ad : Nat → Nat) (v : Nat → Nat) (s : nst) (m : Nat) (h0 : ∀ j, j < 4 → s (7 + j) ≤ 40) (h1 : m ≤ 1000) : zMv l G yX7_floodBy cX7_floodBy 3 1 0 0 23 [.ref x, .int (nI m)] [ob x 7 (rf ad v), ia G (ad 0) 29 (fN s)] (fun (_u : Unit) => True) (fun (_u : Unit) => [ob x 7 (rf ad v), ia G (ad 0) 29 (fN (floodS m s))]) := by
  refine zMv.of (by decide) rfl (fun X A H0 hX hXl hnm hR => ?_)
  show Z (X, G, A, H0, 3) 0 0 [ob x 7 (rf ad v), ia G (ad 0) 29 (fN s)] 0 [(0, .ref x), (1, .int (nI m))] []
  subst hXl
  have q0 := h0 0 (by omega)
  have q1 := h0 1 (by omega)
  have q2 := h0 2 (by omega)
  have q3 := h0 3 (by omega)
  refine z_iconst (v := nI 0) hX dX7_floodBy_0 (by decide) ?_
  refine z_istore_n (L' := [(2, .int (nI 0)), (0, .ref x), (1, .int (nI m))]) hX dX7_floodBy_1 (Nat.le_of_ble_eq_true rfl) rfl ?_
  refine z_iload_n hX 0 dX7_floodBy_2 rfl ?_
  refine z_iconst (v := nI 4) hX dX7_floodBy_3 (by decide) ?_
  refine zn_icmp_ge (tgt := 20) hX dX7_floodBy_4 (by decide) (by omega) (by omega) (fun c4 => absurd c4 (by omega)) (fun _ => ?_)
  refine z_aload_n hX 1 dX7_floodBy_7 rfl ?_
  refine z_iload_n hX 0 dX7_floodBy_8 rfl ?_
  refine z_iload_n hX 2 dX7_floodBy_9 rfl ?_
  refine z_ineg (v := (-nI m)) hX dX7_floodBy_10 rfl ?_
  refine z_callVv (st := []) hX (c_X7_stonesByM _ G x ad v s 0 m (by omega) (show _ from q0) (by omega)) lb_X7_stonesBy ml_X7_54 (fun (_u : Unit) => [ob x 7 (rf ad v), ia G (ad 0) 29 (fN (va_up s 7 (s 7 - m)))]) (wr := []) [0, 1] [] [0, 1] ⟨rfl, rfl, rfl, fun _ => rfl⟩ 0 rfl rfl rfl rfl ⟨Nat.le_refl _, Nat.le_refl _⟩ dX7_floodBy_11 rfl (fun  u11 hw11 => ?_)
  refine z_iinc (v := (nI 1)) (L' := [(2, .int (nI 1)), (0, .ref x), (1, .int (nI m))]) hX 0 dX7_floodBy_14 rfl (by decide) (Nat.le_of_ble_eq_true rfl) rfl ?_
  refine z_goto (tgt := 2) hX dX7_floodBy_17 (by decide) ?_
  refine z_iload_n hX 0 dX7_floodBy_2 rfl ?_
  refine z_iconst (v := nI 4) hX dX7_floodBy_3 (by decide) ?_
  refine zn_icmp_ge (tgt := 20) hX dX7_floodBy_4 (by decide) (by omega) (by omega) (fun c4 => absurd c4 (by omega)) (fun _ => ?_)
  refine z_aload_n hX 1 dX7_floodBy_7 rfl ?_
  refine z_iload_n hX 0 dX7_floodBy_8 rfl ?_
  refine z_iload_n hX 2 dX7_floodBy_9 rfl ?_
  refine z_ineg (v := (-nI m)) hX dX7_floodBy_10 rfl ?_
  refine z_callVv (st := []) hX (c_X7_stonesByM _ G x ad v (va_up s 7 (s 7 - m)) 1 m (by omega) (show _ from q1) (by omega)) lb_X7_stonesBy ml_X7_54 (fun (_u : Unit) => [ob x 7 (rf ad v), ia G (ad 0) 29 (fN (va_up (va_up s 7 (s 7 - m)) 8 ((va_up s 7 (s 7 - m)) 8 - m)))]) (wr := []) [0, 1] [] [0, 1] ⟨rfl, rfl, rfl, fun _ => rfl⟩ 0 rfl rfl rfl rfl ⟨Nat.le_refl _, Nat.le_refl _⟩ dX7_floodBy_11 rfl (fun  u11 hw11 => ?_)
  refine z_iinc (v := (nI 2)) (L' := [(2, .int (nI 2)), (0, .ref x), (1, .int (nI m))]) hX 0 dX7_floodBy_14 rfl (by decide) (Nat.le_of_ble_eq_true rfl) rfl ?_
  refine z_goto (tgt := 2) hX dX7_floodBy_17 (by decide) ?_
  refine z_iload_n hX 0 dX7_floodBy_2 rfl ?_
  refine z_iconst (v := nI 4) hX dX7_floodBy_3 (by decide) ?_
  refine zn_icmp_ge (tgt := 20) hX dX7_floodBy_4 (by decide) (by omega) (by omega) (fun c4 => absurd c4 (by omega)) (fun _ => ?_)
  refine z_aload_n hX 1 dX7_floodBy_7 rfl ?_
  refine z_iload_n hX 0 dX7_floodBy_8 rfl ?_
  refine z_iload_n hX 2 dX7_floodBy_9 rfl ?_
  refine z_ineg (v := (-nI m)) hX dX7_floodBy_10 rfl ?_
  refine z_callVv (st := []) hX (c_X7_stonesByM _ G x ad v (va_up (va_up s 7 (s 7 - m)) 8 ((va_up s 7 (s 7 - m)) 8 - m)) 2 m (by omega) (show _ from q2) (by omega)) lb_X7_stonesBy ml_X7_54 (fun (_u : Unit) => [ob x 7 (rf ad v), ia G (ad 0) 29 (fN (va_up (va_up (va_up s 7 (s 7 - m)) 8 ((va_up s 7 (s 7 - m)) 8 - m)) 9 ((va_up (va_up s 7 (s 7 - m)) 8 ((va_up s 7 (s 7 - m)) 8 - m)) 9 - m)))]) (wr := []) [0, 1] [] [0, 1] ⟨rfl, rfl, rfl, fun _ => rfl⟩ 0 rfl rfl rfl rfl ⟨Nat.le_refl _, Nat.le_refl _⟩ dX7_floodBy_11 rfl (fun  u11 hw11 => ?_)
  refine z_iinc (v := (nI 3)) (L' := [(2, .int (nI 3)), (0, .ref x), (1, .int (nI m))]) hX 0 dX7_floodBy_14 rfl (by decide) (Nat.le_of_ble_eq_true rfl) rfl ?_
  refine z_goto (tgt := 2) hX dX7_floodBy_17 (by decide) ?_
  refine z_iload_n hX 0 dX7_floodBy_2 rfl ?_
  refine z_iconst (v := nI 4) hX dX7_floodBy_3 (by decide) ?_
  refine zn_icmp_ge (tgt := 20) hX dX7_floodBy_4 (by decide) (by omega) (by omega) (fun c4 => absurd c4 (by omega)) (fun _ => ?_)
  refine z_aload_n hX 1 dX7_floodBy_7 rfl ?_
  refine z_iload_n hX 0 dX7_floodBy_8 rfl ?_
  refine z_iload_n hX 2 dX7_floodBy_9 rfl ?_
  refine z_ineg (v := (-nI m)) hX dX7_floodBy_10 rfl ?_
  refine z_callVv (st := []) hX (c_X7_stonesByM _ G x ad v (va_up (va_up (va_up s 7 (s 7 - m)) 8 ((va_up s 7 (s 7 - m)) 8 - m)) 9 ((va_up (va_up s 7 (s 7 - m)) 8 ((va_up s 7 (s 7 - m)) 8 - m)) 9 - m)) 3 m (by omega) (show _ from q3) (by omega)) lb_X7_stonesBy ml_X7_54 (fun (_u : Unit) => [ob x 7 (rf ad v), ia G (ad 0) 29 (fN (va_up (va_up (va_up (va_up s 7 (s 7 - m)) 8 ((va_up s 7 (s 7 - m)) 8 - m)) 9 ((va_up (va_up s 7 (s 7 - m)) 8 ((va_up s 7 (s 7 - m)) 8 - m)) 9 - m)) 10 ((va_up (va_up (va_up s 7 (s 7 - m)) 8 ((va_up s 7 (s 7 - m)) 8 - m)) 9 ((va_up (va_up s 7 (s 7 - m)) 8 ((va_up s 7 (s 7 - m)) 8 - m)) 9 - m)) 10 - m)))]) (wr := []) [0, 1] [] [0, 1] ⟨rfl, rfl, rfl, fun _ => rfl⟩ 0 rfl rfl rfl rfl ⟨Nat.le_refl _, Nat.le_refl _⟩ dX7_floodBy_11 rfl (fun  u11 hw11 => ?_)
  refine z_iinc (v := (nI 4)) (L' := [(2, .int (nI 4)), (0, .ref x), (1, .int (nI m))]) hX 0 dX7_floodBy_14 rfl (by decide) (Nat.le_of_ble_eq_true rfl) rfl ?_
  refine z_goto (tgt := 2) hX dX7_floodBy_17 (by decide) ?_
  refine z_iload_n hX 0 dX7_floodBy_2 rfl ?_
  refine z_iconst (v := nI 4) hX dX7_floodBy_3 (by decide) ?_
  refine zn_icmp_ge (tgt := 20) hX dX7_floodBy_4 (by decide) (by omega) (by omega) (fun _ => ?_) (fun c4 => absurd c4 (by omega))
  exact hR () _ _ trivial dX7_floodBy_20
set_option maxRecDepth 100000 in
set_option maxHeartbeats 4000000 in
theorem c_X7_flood (l : Launch) (G : zG) (x : Nat) (ad : Nat → Nat) (v : Nat → Nat) (s : nst) (U : nst) (h : Nat → nst) (nn : Int32) (h0 : WF 9999 0 s) (h1 : v 10 ≤ 8) (h2 : UH (v 10) U h) : zMi l G yX7_flood cX7_flood 2 .int 2 0 0 45 [.ref x, .int nn] [ob x 7 (rf ad v), ia G (ad 0) 29 (fN s), ia G (ad 9) 232 (fN U)] (fun (r : Int32) (_u : nst × nst) => r = spFlood s nn ∧ _u.1 3 = v 3 ∧ _u.1 10 = cond (inb nn 1 40) (pushU (v 10)) (v 10) ∧ _u.1 17 = v 17 ∧ _u.1 18 = v 18 ∧ UH (cond (inb nn 1 40) (pushU (v 10)) (v 10)) _u.2 (cond (inb nn 1 40) (pushH (v 10) h s) (h))) (fun (_u : nst × nst) => [ob x 7 (rf ad _u.1), ia G (ad 0) 29 (fN (cond (inb nn 1 40) (floodS (gN nn) s) (s))), ia G (ad 9) 232 (fN _u.2)]) := by
  refine zMi.of (by decide) rfl (fun X A H0 hX hXl hR => ?_)
  show Z (X, G, A, H0, 2) 0 0 [ob x 7 (rf ad v), ia G (ad 0) 29 (fN s), ia G (ad 9) 232 (fN U)] 0 [(0, .ref x), (1, .int nn)] []
  subst hXl
  refine z_iload_n hX 1 dX7_flood_0 rfl ?_
  refine z_i2l (v := (nn.toInt64)) hX dX7_flood_1 rfl ?_
  refine z_lconst (v := lN 1) hX dX7_flood_2 (by decide) ?_
  refine z_ldc2 (v := lN 40) hX kl_X7_151 dX7_flood_3 ?_
  refine z_callSi (st := []) hX (c_X7_inX _ G nn 1 40 (by omega) (by omega)) lb_X7_in ml_X7_44 (fun (_u : Unit) => [ob x 7 (rf ad v), ia G (ad 0) 29 (fN s), ia G (ad 9) 232 (fN U)]) (wr := [ob x 7 (rf ad v), ia G (ad 0) 29 (fN s), ia G (ad 9) 232 (fN U)]) [] [0, 1, 2] [0, 1, 2] ⟨rfl, rfl, rfl, fun _ => rfl⟩ rfl rfl ⟨Nat.le_refl _, Nat.le_refl _⟩ dX7_flood_6 rfl (fun r6 u6 hw6 => ?_)
  try dsimp only at hw6
  rcases hw6 with ⟨nnj, hnnl, hnnh, rfl, rfl⟩ | ⟨hw6, rfl⟩
  · skip
    refine zn_if_ne (tgt := 14) hX dX7_flood_9 (by decide) (by omega) (fun _ => ?_) (fun c9 => absurd c9 (by omega))
    refine z_aload_n hX 0 dX7_flood_14 rfl ?_
    refine z_callVv (st := []) hX (c_X7_notes _ G x ad v s U h h1 h2) lb_X7_notes ml_X7_153 (fun (_u : nst) => [ob x 7 (rf ad (va_up v 10 (pushU (v 10)))), ia G (ad 0) 29 (fN s), ia G (ad 9) 232 (fN _u)]) (wr := []) [0, 1, 2] [] [0, 1, 2] ⟨rfl, rfl, rfl, fun _ => rfl⟩ 0 rfl rfl rfl rfl ⟨Nat.le_refl _, Nat.le_refl _⟩ dX7_flood_15 rfl (fun  u15 hw15 => ?_)
    obtain ⟨U2_1, rfl⟩ : ∃ z9, z9 = u15 := ⟨_, rfl⟩
    refine z_aload_n hX 0 dX7_flood_18 rfl ?_
    refine z_iload_n hX 1 dX7_flood_19 rfl ?_
    refine z_callVv (st := []) hX (c_X7_floodBy _ G x ad (va_up v 10 (pushU (v 10))) s nnj h0.2.2.2.2.2.1 (by omega)) lb_X7_floodBy ml_X7_156 (fun (_u : Unit) => [ob x 7 (rf ad (va_up v 10 (pushU (v 10)))), ia G (ad 0) 29 (fN (floodS nnj s)), ia G (ad 9) 232 (fN U2_1)]) (wr := [ia G (ad 9) 232 (fN U2_1)]) [0, 1] [2] [1, 2, 0] ⟨rfl, rfl, rfl, fun _ => rfl⟩ 0 rfl rfl rfl rfl ⟨Nat.le_refl _, Nat.le_refl _⟩ dX7_flood_20 rfl (fun  u20 hw20 => ?_)
    refine z_aload_n hX 0 dX7_flood_23 rfl ?_
    refine z_callVi (st := []) hX (c_X7_holes _ G x ad (va_up v 10 (pushU (v 10))) (floodS nnj s) (WF_flood h0 nnj).2.2.2.2.2.1) lb_X7_holes ml_X7_105 (fun (_u : Unit) => [ob x 7 (rf ad (va_up v 10 (pushU (v 10)))), ia G (ad 0) 29 (fN (floodS nnj s)), ia G (ad 9) 232 (fN U2_1)]) (wr := [ia G (ad 9) 232 (fN U2_1)]) [0, 1] [2] [1, 2, 0] ⟨rfl, rfl, rfl, fun _ => rfl⟩ 0 rfl rfl rfl rfl ⟨Nat.le_refl _, Nat.le_refl _⟩ dX7_flood_24 rfl (fun r24 u24 hw24 => ?_)
    subst hw24
    rw [inb_t (by omega) (by omega) (by omega), gN_nI (show nnj < 2147483648 by omega)] at hR
    exact hR _ (va_up v 10 (pushU (v 10)), U2_1) _ _ ⟨by unfold spFlood; rw [if_pos (inb_t (by omega) (by omega) (by omega)), gN_nI (by omega)], rfl, rfl, rfl, rfl, hw15⟩ dX7_flood_27 rfl
  · have hb_nn : inb nn 1 40 = false := hw6
    refine zn_if_ne (tgt := 14) hX dX7_flood_9 (by decide) (by omega) (fun c9 => absurd c9 (by omega)) (fun _ => ?_)
    refine z_iconst (v := (-1)) hX dX7_flood_12 (by decide) ?_
    rw [hb_nn] at hR
    exact hR _ (v, U) _ _ ⟨by unfold spFlood; rw [if_neg (by simp [hb_nn])], rfl, rfl, rfl, rfl, h2⟩ dX7_flood_13 rfl
set_option maxRecDepth 100000 in
set_option maxHeartbeats 4000000 in
theorem c_X7_undo (l : Launch) (G : zG) (x : Nat) (ad : Nat → Nat) (v : Nat → Nat) (s : nst) (U : nst) (h : Nat → nst) (h0 : v 10 ≤ 8) (h1 : UH (v 10) U h) : zMi l G yX7_undo cX7_undo 2 .int 0 0 0 0 [.ref x] [ob x 7 (rf ad v), ia G (ad 0) 29 (fN s), ia G (ad 9) 232 (fN U)] (fun (r : Int32) (_u : nst) => r = (if v 10 = 0 then -4 else nI (v 10 - 1)) ∧ _u 3 = v 3 ∧ _u 10 = v 10 - 1 ∧ _u 17 = v 17 ∧ _u 18 = v 18) (fun (_u : nst) => [ob x 7 (rf ad _u), ia G (ad 0) 29 (fN (cond (decide (v 10 = 0)) (s) (h (v 10 - 1)))), ia G (ad 9) 232 (fN U)]) := by
  refine zMi.of (by decide) rfl (fun X A H0 hX hXl hR => ?_)
  show Z (X, G, A, H0, 2) 0 0 [ob x 7 (rf ad v), ia G (ad 0) 29 (fN s), ia G (ad 9) 232 (fN U)] 0 [(0, .ref x)] []
  subst hXl
  refine z_aload_n hX 0 dX7_undo_0 rfl ?_
  refine z_get (v := .int (nI (v 10))) hX fX7 0 10 rfl rfl (Nat.le_of_ble_eq_true rfl) fl_X7_86 rfl dX7_undo_1 ?_
  refine zn_if_ne (tgt := 10) hX dX7_undo_4 (by decide) (by omega) (fun c4 => ?_) (fun c4 => ?_)
  · skip
    refine z_aload_n hX 0 dX7_undo_10 rfl ?_
    refine z_dup hX dX7_undo_11 rfl ?_
    refine z_get (v := .int (nI (v 10))) hX fX7 0 10 rfl rfl (Nat.le_of_ble_eq_true rfl) fl_X7_86 rfl dX7_undo_12 ?_
    refine z_iconst (v := nI 1) hX dX7_undo_15 (by decide) ?_
    refine z_isub (v := (nI ((v 10) - 1))) hX dX7_undo_16 (pk_sub (by omega)) ?_
    refine z_put (v := .int (nI ((v 10) - 1))) (ws' := [ob x 7 (rf ad (va_up v 10 ((v 10) - 1))), ia G (ad 0) 29 (fN s), ia G (ad 9) 232 (fN U)]) hX fX7 0 10 rfl rfl (Nat.le_of_ble_eq_true rfl) fl_X7_86 rfl rfl rfl rfl rfl dX7_undo_17 ?_
    refine z_iconst (v := nI 0) hX dX7_undo_20 (by decide) ?_
    refine z_istore_n (L' := [(1, .int (nI 0)), (0, .ref x)]) hX dX7_undo_21 (Nat.le_of_ble_eq_true rfl) rfl ?_
    have lp22 : ∀ (n22 : Nat) (k : Nat) (W : nst), (29 + 1 ≤ k + n22) → (k ≤ 29) → (∀ i, i < k → W i = h (v 10 - 1) i) → Z (X, G, A, H0, 2) 0 0 [ob x 7 (rf ad (va_up v 10 (v 10 - 1))), ia G (ad 0) 29 (fN W), ia G (ad 9) 232 (fN U)] 22 [(0, .ref x), (1, .int (nI k))] [] := by
      intro n22
      induction n22 with
      | zero =>
        intro k W hn hk hW
        exfalso
        omega
      | succ n22 ih22 =>
        intro k W hn hk hW
        refine z_iload_n hX 1 dX7_undo_22 rfl ?_
        refine z_bipush (v := nI 29) hX dX7_undo_23 (by decide) ?_
        refine zn_icmp_ge (tgt := 54) hX dX7_undo_25 (by decide) (by omega) (by omega) (fun c25 => ?_) (fun c25 => ?_)
        · skip
          refine z_aload_n hX 0 dX7_undo_54 rfl ?_
          refine z_get (v := .int (nI (v 10 - 1))) hX fX7 0 10 rfl rfl (Nat.le_of_ble_eq_true rfl) fl_X7_86 rfl dX7_undo_55 ?_
          refine z_iext (f' := (fN (h (v 10 - 1)))) (ws' := [ob x 7 (rf ad (va_up v 10 (v 10 - 1))), ia G (ad 0) 29 (fN (h (v 10 - 1))), ia G (ad 9) 232 (fN U)]) 1 rfl (fun j hj => congrArg nI (hW j (by omega))) rfl ?_
          rw [decide_eq_false c4] at hR
          exact hR _ (va_up v 10 (v 10 - 1)) _ _ ⟨(if_neg c4).symm, rfl, rfl, rfl, rfl⟩ dX7_undo_58 rfl
        · skip
          refine z_aload_n hX 0 dX7_undo_28 rfl ?_
          refine z_get (v := .ref (ad 0)) hX fX7 0 0 rfl rfl (Nat.le_of_ble_eq_true rfl) fl_X7_7 rfl dX7_undo_29 ?_
          refine z_iload_n hX 1 dX7_undo_32 rfl ?_
          refine z_aload_n hX 0 dX7_undo_33 rfl ?_
          refine z_get (v := .ref (ad 9)) hX fX7 0 9 rfl rfl (Nat.le_of_ble_eq_true rfl) fl_X7_22 rfl dX7_undo_34 ?_
          refine z_bipush (v := nI 29) hX dX7_undo_37 (by decide) ?_
          refine z_aload_n hX 0 dX7_undo_39 rfl ?_
          refine z_get (v := .int (nI (v 10 - 1))) hX fX7 0 10 rfl rfl (Nat.le_of_ble_eq_true rfl) fl_X7_86 rfl dX7_undo_40 ?_
          refine z_imul (v := (nI (29 * (v 10 - 1)))) hX dX7_undo_43 ((pk_mul _ _).trans (congrArg nI (by omega))) ?_
          refine z_iload_n hX 1 dX7_undo_44 rfl ?_
          refine z_iadd (v := (nI (29 * (v 10 - 1) + k))) hX dX7_undo_45 (nI_add _ _) ?_
          refine z_iald (v := (nI (U (29 * (v 10 - 1) + k)))) hX 2 (j := (29 * (v 10 - 1) + k)) rfl (by omega) (by decide) rfl dX7_undo_46 ?_
          refine z_iast (ws' := [ob x 7 (rf ad (va_up v 10 (v 10 - 1))), ia G (ad 0) 29 (fN (va_up W k (U (29 * (v 10 - 1) + k)))), ia G (ad 9) 232 (fN U)]) hX 1 (j := k) rfl (by omega) (by decide) (updN _ _ _) rfl dX7_undo_47 ?_
          refine z_iinc (v := (nI (k + 1))) (L' := [(1, .int (nI (k + 1))), (0, .ref x)]) hX 1 dX7_undo_48 rfl (nI_inc _) (Nat.le_of_ble_eq_true rfl) rfl ?_
          refine z_goto (tgt := 22) hX dX7_undo_51 (by decide) ?_
          refine z_lsub [1, 0] rfl ?_
          exact ih22 (k + 1) (va_up W k (U (29 * (v 10 - 1) + k))) (by omega) (by omega) (fun i9 h9 => by
                by_cases e9 : i9 = k
                · subst e9; rw [up_eq]; exact h1 (v 10 - 1) (by omega) i9 (by omega)
                · rw [up_ne e9]; exact hW i9 (by omega))
    refine z_lsub [1, 0] rfl ?_
    exact lp22 30 0 s (by omega) (by omega) (fun i9 h9 => absurd h9 (by omega))
  · skip
    refine z_bipush (v := (-4)) hX dX7_undo_7 (by decide) ?_
    rw [decide_eq_true c4] at hR
    exact hR _ v _ _ ⟨(if_pos c4).symm, rfl, by omega, rfl, rfl⟩ dX7_undo_9 rfl
set_option maxRecDepth 100000 in
set_option maxHeartbeats 4000000 in
theorem c_X7_seed (l : Launch) (G : zG) (x : Nat) (ad : Nat → Nat) (v : Nat → Nat) (s : nst) (w : Int32)  : zMi l G yX7_seed cX7_seed 3 .int 0 0 0 0 [.ref x, .int w] [ob x 7 (rf ad v), ia G (ad 0) 29 (fN s)] (fun (r : Int32) (_u : Unit) => r = spSeed s w) (fun (_u : Unit) => [ob x 7 (rf ad v), ia G (ad 0) 29 (fN (cond (okSeed w) (va_up s 6 (gN w)) (s)))]) := by
  refine zMi.of (by decide) rfl (fun X A H0 hX hXl hR => ?_)
  show Z (X, G, A, H0, 3) 0 0 [ob x 7 (rf ad v), ia G (ad 0) 29 (fN s)] 0 [(0, .ref x), (1, .int w)] []
  subst hXl
  refine z_iload_n hX 1 dX7_seed_0 rfl ?_
  refine z_if_ge (tgt := 6) hX dX7_seed_1 (by decide) (fun c1 => ?_) (fun c1 => ?_)
  · have c2 : ¬ w < 0 := by rw [Int32.not_lt]; exact c1
    obtain ⟨wj, hwj, rfl⟩ := nI_of c2
    refine z_aload_n hX 0 dX7_seed_6 rfl ?_
    refine z_get (v := .ref (ad 0)) hX fX7 0 0 rfl rfl (Nat.le_of_ble_eq_true rfl) fl_X7_7 rfl dX7_seed_7 ?_
    refine z_bipush (v := nI 6) hX dX7_seed_10 (by decide) ?_
    refine z_iald (v := (nI (s 6))) hX 1 (j := 6) rfl (by omega) (by decide) rfl dX7_seed_12 ?_
    refine z_istore_n (L' := [(2, .int (nI (s 6))), (0, .ref x), (1, .int (nI wj))]) hX dX7_seed_13 (Nat.le_of_ble_eq_true rfl) rfl ?_
    refine z_aload_n hX 1 dX7_seed_14 rfl ?_
    refine z_get (v := .ref (ad 0)) hX fX7 0 0 rfl rfl (Nat.le_of_ble_eq_true rfl) fl_X7_7 rfl dX7_seed_15 ?_
    refine z_bipush (v := nI 6) hX dX7_seed_18 (by decide) ?_
    refine z_iload_n hX 2 dX7_seed_20 rfl ?_
    refine z_iast (ws' := [ob x 7 (rf ad v), ia G (ad 0) 29 (fN (va_up s 6 wj))]) hX 1 (j := 6) rfl (by omega) (by decide) (updN _ _ _) rfl dX7_seed_21 ?_
    refine z_iload_n hX 0 dX7_seed_22 rfl ?_
    have e0 : okSeed (nI wj) = true := by
      unfold okSeed
      simp [c2]
    rw [e0, gN_nI hwj] at hR
    exact hR _ () _ _ (by unfold spSeed; rw [if_neg c2]) dX7_seed_23 rfl
  · have c2 : w < 0 := by rw [← Int32.not_le]; exact c1
    refine z_iconst (v := (-1)) hX dX7_seed_4 (by decide) ?_
    have e0 : okSeed w = false := by
      unfold okSeed
      simp [c2]
    rw [e0] at hR
    exact hR _ () _ _ (by unfold spSeed; rw [if_pos c2]) dX7_seed_5 rfl
set_option maxRecDepth 100000 in
set_option maxHeartbeats 4000000 in
theorem c_X7_days (l : Launch) (G : zG) (x : Nat) (ad : Nat → Nat) (v : Nat → Nat) (s : nst) (U : nst) (h : Nat → nst) (nn : Int32) (h0 : WF 9999 0 s) (h1 : v 10 ≤ 8) (h2 : UH (v 10) U h) : zMi l G yX7_days cX7_days 4 .int 4 0 0 88 [.ref x, .int nn] [ob x 7 (rf ad v), ia G (ad 0) 29 (fN s), ia G (ad 9) 232 (fN U)] (fun (r : Int32) (_u : nst × nst) => r = spDays false s nn ∧ _u.1 3 = v 3 ∧ _u.1 10 = cond (okDays s nn) (lvU (gN nn) (v 10)) (v 10) ∧ _u.1 17 = v 17 ∧ _u.1 18 = v 18 ∧ UH (cond (okDays s nn) (lvU (gN nn) (v 10)) (v 10)) _u.2 (cond (okDays s nn) (lvH false h s (v 10) (gN nn)) (h))) (fun (_u : nst × nst) => [ob x 7 (rf ad _u.1), ia G (ad 0) 29 (fN (cond (okDays s nn) (lvS false (gN nn) s) (s))), ia G (ad 9) 232 (fN _u.2)]) := by
  refine zMi.of (by decide) rfl (fun X A H0 hX hXl hR => ?_)
  show Z (X, G, A, H0, 4) 0 0 [ob x 7 (rf ad v), ia G (ad 0) 29 (fN s), ia G (ad 9) 232 (fN U)] 0 [(0, .ref x), (1, .int nn)] []
  subst hXl
  have z0 := h0.1
  have z1 := h0.2.1
  have z2 := h0.2.2.1
  have z3 := h0.2.2.2.1
  refine z_iload_n hX 1 dX7_days_0 rfl ?_
  refine z_i2l (v := (nn.toInt64)) hX dX7_days_1 rfl ?_
  refine z_lconst (v := lN 1) hX dX7_days_2 (by decide) ?_
  refine z_ldc2 (v := lN 40) hX kl_X7_151 dX7_days_3 ?_
  refine z_callSi (st := []) hX (c_X7_inX _ G nn 1 40 (by omega) (by omega)) lb_X7_in ml_X7_44 (fun (_u : Unit) => [ob x 7 (rf ad v), ia G (ad 0) 29 (fN s), ia G (ad 9) 232 (fN U)]) (wr := [ob x 7 (rf ad v), ia G (ad 0) 29 (fN s), ia G (ad 9) 232 (fN U)]) [] [0, 1, 2] [0, 1, 2] ⟨rfl, rfl, rfl, fun _ => rfl⟩ rfl rfl ⟨Nat.le_refl _, Nat.le_refl _⟩ dX7_days_6 rfl (fun r6 u6 hw6 => ?_)
  try dsimp only at hw6
  rcases hw6 with ⟨nnj, hnnl, hnnh, rfl, rfl⟩ | ⟨hw6, rfl⟩
  · skip
    refine zn_if_ne (tgt := 14) hX dX7_days_9 (by decide) (by omega) (fun _ => ?_) (fun c9 => absurd c9 (by omega))
    refine z_aload_n hX 0 dX7_days_14 rfl ?_
    refine z_get (v := .ref (ad 0)) hX fX7 0 0 rfl rfl (Nat.le_of_ble_eq_true rfl) fl_X7_7 rfl dX7_days_15 ?_
    refine z_iconst (v := nI 1) hX dX7_days_18 (by decide) ?_
    refine z_iald (v := (nI (s 1))) hX 1 (j := 1) rfl (by omega) (by decide) rfl dX7_days_19 ?_
    refine z_iload_n hX 1 dX7_days_20 rfl ?_
    refine z_iadd (v := (nI (s 1 + nnj))) hX dX7_days_21 (nI_add _ _) ?_
    refine z_sipush (v := nI 9999) hX dX7_days_22 (by decide) ?_
    refine zn_icmp_le (tgt := 31) hX dX7_days_25 (by decide) (by omega) (by omega) (fun c25 => ?_) (fun c25 => ?_)
    · skip
      refine z_aload_n hX 0 dX7_days_31 rfl ?_
      refine z_get (v := .ref (ad 0)) hX fX7 0 0 rfl rfl (Nat.le_of_ble_eq_true rfl) fl_X7_7 rfl dX7_days_32 ?_
      refine z_iconst (v := nI 5) hX dX7_days_35 (by decide) ?_
      refine z_iald (v := (nI (s 5))) hX 1 (j := 5) rfl (by omega) (by decide) rfl dX7_days_36 ?_
      refine z_istore_n (L' := [(2, .int (nI (s 5))), (0, .ref x), (1, .int (nI nnj))]) hX dX7_days_37 (Nat.le_of_ble_eq_true rfl) rfl ?_
      refine z_iconst (v := nI 0) hX dX7_days_38 (by decide) ?_
      refine z_istore_n (L' := [(3, .int (nI 0)), (2, .int (nI (s 5))), (0, .ref x), (1, .int (nI nnj))]) hX dX7_days_39 (Nat.le_of_ble_eq_true rfl) rfl ?_
      have lp40 : ∀ (n40 : Nat) (k : Nat) (f : Nat) (W : nst), (nnj + 1 ≤ k + n40) → (k ≤ nnj) → (UH (lvU k (v 10)) W (lvH false h s (v 10) k)) → Z (X, G, A, H0, 4) 0 0 [ob x 7 (rf ad (va_up (va_up v 10 (lvU k (v 10))) 1 f)), ia G (ad 0) 29 (fN (lvS false k s)), ia G (ad 9) 232 (fN W)] 40 [(0, .ref x), (1, .int (nI nnj)), (2, .int (nI (s 5))), (3, .int (nI k))] [] := by
        intro n40
        induction n40 with
        | zero =>
          intro k f W hn hk hr
          exfalso
          omega
        | succ n40 ih40 =>
          intro k f W hn hk hr
          have wk := lvS_WF false h0 (k := k) (by omega)
          have uk := lvU_le h1 k
          refine z_iload_n hX 3 dX7_days_40 rfl ?_
          refine z_iload_n hX 1 dX7_days_41 rfl ?_
          refine zn_icmp_ge (tgt := 59) hX dX7_days_42 (by decide) (by omega) (by omega) (fun c42 => ?_) (fun c42 => ?_)
          · skip
            have f5 := lvS_fell false s k
            refine z_aload_n hX 0 dX7_days_59 rfl ?_
            refine z_get (v := .ref (ad 0)) hX fX7 0 0 rfl rfl (Nat.le_of_ble_eq_true rfl) fl_X7_7 rfl dX7_days_60 ?_
            refine z_iconst (v := nI 5) hX dX7_days_63 (by decide) ?_
            refine z_iald (v := (nI ((lvS false k s) 5))) hX 1 (j := 5) rfl (by omega) (by decide) rfl dX7_days_64 ?_
            refine z_iload_n hX 2 dX7_days_65 rfl ?_
            refine z_isub (v := (nI (((lvS false k s) 5) - (s 5)))) hX dX7_days_66 (pk_sub (by omega)) ?_
            have ek : k = nnj := by omega
            subst ek
            have e0 : okDays s (nI k) = true := by
              unfold okDays
              rw [inb_t (by omega) (by omega) (by omega)]
              simp [gN_nI (show k < 2147483648 by omega)]
              omega
            rw [e0, gN_nI (show k < 2147483648 by omega)] at hR
            exact hR _ (va_up (va_up v 10 (lvU k (v 10))) 1 f, W) _ _ ⟨by unfold spDays; rw [if_pos (inb_t (by omega) (by omega) (by omega)), gN_nI (by omega), if_pos (by omega)], rfl, rfl, rfl, rfl, hr⟩ dX7_days_67 rfl
          · skip
            refine z_aload_n hX 0 dX7_days_45 rfl ?_
            refine z_callVv (st := []) hX (c_X7_notes _ G x ad (va_up (va_up v 10 (lvU k (v 10))) 1 f) (lvS false k s) W (lvH false h s (v 10) k) uk hr) lb_X7_notes ml_X7_153 (fun (_u : nst) => [ob x 7 (rf ad (va_up (va_up (va_up v 10 (lvU k (v 10))) 1 f) 10 (pushU (lvU k (v 10))))), ia G (ad 0) 29 (fN (lvS false k s)), ia G (ad 9) 232 (fN _u)]) (wr := []) [0, 1, 2] [] [0, 1, 2] ⟨rfl, rfl, rfl, fun _ => rfl⟩ 0 rfl rfl rfl rfl ⟨Nat.le_refl _, Nat.le_refl _⟩ dX7_days_46 rfl (fun  u46 hw46 => ?_)
            obtain ⟨U2_1, rfl⟩ : ∃ z9, z9 = u46 := ⟨_, rfl⟩
            refine z_eq (ws' := [ob x 7 (rf ad (va_up (va_up (va_up v 10 (lvU k (v 10))) 1 f) 10 (pushU (lvU k (v 10))))), ia G (ad 0) 29 (fN (drS false (lvS false k s))), ia G (ad 9) 232 (fN U2_1)]) rfl ?_
            refine z_aload_n hX 0 dX7_days_49 rfl ?_
            refine z_callVv (st := []) hX (c_X7_goesBy _ G x ad (va_up (va_up (va_up v 10 (lvU k (v 10))) 1 f) 10 (pushU (lvU k (v 10)))) (drS false (lvS false k s)) 9999 (WF_dr false wk) (by omega)) lb_X7_goesBy ml_X7_83 (fun (_u : Unit) => [ob x 7 (rf ad (va_up (va_up (va_up (va_up v 10 (lvU k (v 10))) 1 f) 10 (pushU (lvU k (v 10)))) 1 (goFall (drS false (lvS false k s))))), ia G (ad 0) 29 (fN (goBy (drS false (lvS false k s)))), ia G (ad 9) 232 (fN U2_1)]) (wr := [ia G (ad 9) 232 (fN U2_1)]) [0, 1] [2] [1, 2, 0] ⟨rfl, rfl, rfl, fun _ => rfl⟩ 0 rfl rfl rfl rfl ⟨Nat.le_refl _, Nat.le_refl _⟩ dX7_days_50 rfl (fun  u50 hw50 => ?_)
            refine z_iinc (v := (nI (k + 1))) (L' := [(3, .int (nI (k + 1))), (0, .ref x), (1, .int (nI nnj)), (2, .int (nI (s 5)))]) hX 3 dX7_days_53 rfl (nI_inc _) (Nat.le_of_ble_eq_true rfl) rfl ?_
            refine z_goto (tgt := 40) hX dX7_days_56 (by decide) ?_
            refine z_lsub [1, 2, 3, 0] rfl ?_
            exact ih40 (k + 1) (goFall (drS false (lvS false k s))) U2_1 (by omega) (by omega) hw46
      refine z_lsub [2, 3, 1, 0] rfl ?_
      exact lp40 (nnj + 1) 0 (v 1) U (by omega) (by omega) h2
    · skip
      refine z_bipush (v := (-3)) hX dX7_days_28 (by decide) ?_
      have e0 : okDays s (nI nnj) = false := by
        unfold okDays
        simp [gN_nI (show nnj < 2147483648 by omega)]
        omega
      rw [e0] at hR
      exact hR _ (v, U) _ _ ⟨by unfold spDays; rw [if_pos (inb_t (by omega) (by omega) (by omega)), gN_nI (show nnj < 2147483648 by omega), if_neg (by omega)], rfl, rfl, rfl, rfl, h2⟩ dX7_days_30 rfl
  · have hb_nn : inb nn 1 40 = false := hw6
    refine zn_if_ne (tgt := 14) hX dX7_days_9 (by decide) (by omega) (fun c9 => absurd c9 (by omega)) (fun _ => ?_)
    refine z_iconst (v := (-1)) hX dX7_days_12 (by decide) ?_
    have e0 : okDays s nn = false := by
      unfold okDays
      simp [hb_nn]
    rw [e0] at hR
    exact hR _ (v, U) _ _ ⟨by unfold spDays; rw [if_neg (by simp [hb_nn])], rfl, rfl, rfl, rfl, h2⟩ dX7_days_13 rfl
set_option maxRecDepth 100000 in
set_option maxHeartbeats 4000000 in
theorem c_X7_drift (l : Launch) (G : zG) (x : Nat) (ad : Nat → Nat) (v : Nat → Nat) (s : nst) (U : nst) (h : Nat → nst) (nn : Int32) (h0 : WF 9999 0 s) (h1 : v 10 ≤ 8) (h2 : UH (v 10) U h) : zMi l G yX7_drift cX7_drift 4 .int 4 0 0 88 [.ref x, .int nn] [ob x 7 (rf ad v), ia G (ad 0) 29 (fN s), ia G (ad 9) 232 (fN U)] (fun (r : Int32) (_u : nst × nst) => r = spDays true s nn ∧ _u.1 3 = v 3 ∧ _u.1 10 = cond (okDays s nn) (lvU (gN nn) (v 10)) (v 10) ∧ _u.1 17 = v 17 ∧ _u.1 18 = v 18 ∧ UH (cond (okDays s nn) (lvU (gN nn) (v 10)) (v 10)) _u.2 (cond (okDays s nn) (lvH true h s (v 10) (gN nn)) (h))) (fun (_u : nst × nst) => [ob x 7 (rf ad _u.1), ia G (ad 0) 29 (fN (cond (okDays s nn) (lvS true (gN nn) s) (s))), ia G (ad 9) 232 (fN _u.2)]) := by
  refine zMi.of (by decide) rfl (fun X A H0 hX hXl hR => ?_)
  show Z (X, G, A, H0, 4) 0 0 [ob x 7 (rf ad v), ia G (ad 0) 29 (fN s), ia G (ad 9) 232 (fN U)] 0 [(0, .ref x), (1, .int nn)] []
  subst hXl
  have z0 := h0.1
  have z1 := h0.2.1
  have z2 := h0.2.2.1
  have z3 := h0.2.2.2.1
  refine z_iload_n hX 1 dX7_drift_0 rfl ?_
  refine z_i2l (v := (nn.toInt64)) hX dX7_drift_1 rfl ?_
  refine z_lconst (v := lN 1) hX dX7_drift_2 (by decide) ?_
  refine z_ldc2 (v := lN 40) hX kl_X7_151 dX7_drift_3 ?_
  refine z_callSi (st := []) hX (c_X7_inX _ G nn 1 40 (by omega) (by omega)) lb_X7_in ml_X7_44 (fun (_u : Unit) => [ob x 7 (rf ad v), ia G (ad 0) 29 (fN s), ia G (ad 9) 232 (fN U)]) (wr := [ob x 7 (rf ad v), ia G (ad 0) 29 (fN s), ia G (ad 9) 232 (fN U)]) [] [0, 1, 2] [0, 1, 2] ⟨rfl, rfl, rfl, fun _ => rfl⟩ rfl rfl ⟨Nat.le_refl _, Nat.le_refl _⟩ dX7_drift_6 rfl (fun r6 u6 hw6 => ?_)
  try dsimp only at hw6
  rcases hw6 with ⟨nnj, hnnl, hnnh, rfl, rfl⟩ | ⟨hw6, rfl⟩
  · skip
    refine zn_if_ne (tgt := 14) hX dX7_drift_9 (by decide) (by omega) (fun _ => ?_) (fun c9 => absurd c9 (by omega))
    refine z_aload_n hX 0 dX7_drift_14 rfl ?_
    refine z_get (v := .ref (ad 0)) hX fX7 0 0 rfl rfl (Nat.le_of_ble_eq_true rfl) fl_X7_7 rfl dX7_drift_15 ?_
    refine z_iconst (v := nI 1) hX dX7_drift_18 (by decide) ?_
    refine z_iald (v := (nI (s 1))) hX 1 (j := 1) rfl (by omega) (by decide) rfl dX7_drift_19 ?_
    refine z_iload_n hX 1 dX7_drift_20 rfl ?_
    refine z_iadd (v := (nI (s 1 + nnj))) hX dX7_drift_21 (nI_add _ _) ?_
    refine z_sipush (v := nI 9999) hX dX7_drift_22 (by decide) ?_
    refine zn_icmp_le (tgt := 31) hX dX7_drift_25 (by decide) (by omega) (by omega) (fun c25 => ?_) (fun c25 => ?_)
    · skip
      refine z_aload_n hX 0 dX7_drift_31 rfl ?_
      refine z_get (v := .ref (ad 0)) hX fX7 0 0 rfl rfl (Nat.le_of_ble_eq_true rfl) fl_X7_7 rfl dX7_drift_32 ?_
      refine z_iconst (v := nI 5) hX dX7_drift_35 (by decide) ?_
      refine z_iald (v := (nI (s 5))) hX 1 (j := 5) rfl (by omega) (by decide) rfl dX7_drift_36 ?_
      refine z_istore_n (L' := [(2, .int (nI (s 5))), (0, .ref x), (1, .int (nI nnj))]) hX dX7_drift_37 (Nat.le_of_ble_eq_true rfl) rfl ?_
      refine z_iconst (v := nI 0) hX dX7_drift_38 (by decide) ?_
      refine z_istore_n (L' := [(3, .int (nI 0)), (2, .int (nI (s 5))), (0, .ref x), (1, .int (nI nnj))]) hX dX7_drift_39 (Nat.le_of_ble_eq_true rfl) rfl ?_
      have lp40 : ∀ (n40 : Nat) (k : Nat) (f : Nat) (W : nst), (nnj + 1 ≤ k + n40) → (k ≤ nnj) → (UH (lvU k (v 10)) W (lvH true h s (v 10) k)) → Z (X, G, A, H0, 4) 0 0 [ob x 7 (rf ad (va_up (va_up v 10 (lvU k (v 10))) 1 f)), ia G (ad 0) 29 (fN (lvS true k s)), ia G (ad 9) 232 (fN W)] 40 [(0, .ref x), (1, .int (nI nnj)), (2, .int (nI (s 5))), (3, .int (nI k))] [] := by
        intro n40
        induction n40 with
        | zero =>
          intro k f W hn hk hr
          exfalso
          omega
        | succ n40 ih40 =>
          intro k f W hn hk hr
          have wk := lvS_WF true h0 (k := k) (by omega)
          have uk := lvU_le h1 k
          refine z_iload_n hX 3 dX7_drift_40 rfl ?_
          refine z_iload_n hX 1 dX7_drift_41 rfl ?_
          refine zn_icmp_ge (tgt := 127) hX dX7_drift_42 (by decide) (by omega) (by omega) (fun c42 => ?_) (fun c42 => ?_)
          · skip
            have f5 := lvS_fell true s k
            refine z_aload_n hX 0 dX7_drift_127 rfl ?_
            refine z_get (v := .ref (ad 0)) hX fX7 0 0 rfl rfl (Nat.le_of_ble_eq_true rfl) fl_X7_7 rfl dX7_drift_128 ?_
            refine z_iconst (v := nI 5) hX dX7_drift_131 (by decide) ?_
            refine z_iald (v := (nI ((lvS true k s) 5))) hX 1 (j := 5) rfl (by omega) (by decide) rfl dX7_drift_132 ?_
            refine z_iload_n hX 2 dX7_drift_133 rfl ?_
            refine z_isub (v := (nI (((lvS true k s) 5) - (s 5)))) hX dX7_drift_134 (pk_sub (by omega)) ?_
            have ek : k = nnj := by omega
            subst ek
            have e0 : okDays s (nI k) = true := by
              unfold okDays
              rw [inb_t (by omega) (by omega) (by omega)]
              simp [gN_nI (show k < 2147483648 by omega)]
              omega
            rw [e0, gN_nI (show k < 2147483648 by omega)] at hR
            exact hR _ (va_up (va_up v 10 (lvU k (v 10))) 1 f, W) _ _ ⟨by unfold spDays; rw [if_pos (inb_t (by omega) (by omega) (by omega)), gN_nI (by omega), if_pos (by omega)], rfl, rfl, rfl, rfl, hr⟩ dX7_drift_135 rfl
          · skip
            refine z_aload_n hX 0 dX7_drift_45 rfl ?_
            refine z_callVv (st := []) hX (c_X7_notes _ G x ad (va_up (va_up v 10 (lvU k (v 10))) 1 f) (lvS true k s) W (lvH true h s (v 10) k) uk hr) lb_X7_notes ml_X7_153 (fun (_u : nst) => [ob x 7 (rf ad (va_up (va_up (va_up v 10 (lvU k (v 10))) 1 f) 10 (pushU (lvU k (v 10))))), ia G (ad 0) 29 (fN (lvS true k s)), ia G (ad 9) 232 (fN _u)]) (wr := []) [0, 1, 2] [] [0, 1, 2] ⟨rfl, rfl, rfl, fun _ => rfl⟩ 0 rfl rfl rfl rfl ⟨Nat.le_refl _, Nat.le_refl _⟩ dX7_drift_46 rfl (fun  u46 hw46 => ?_)
            obtain ⟨U2_1, rfl⟩ : ∃ z9, z9 = u46 := ⟨_, rfl⟩
            obtain ⟨d, hdd⟩ : ∃ d, drawN (lvS true k s 6) = d := ⟨_, rfl⟩
            have hd : d < 2147483648 := by rw [← hdd]; exact drawN_lt _
            have wd := wk.2.2.2.2.1
            refine z_aload_n hX 0 dX7_drift_49 rfl ?_
            refine z_get (v := .ref (ad 0)) hX fX7 0 0 rfl rfl (Nat.le_of_ble_eq_true rfl) fl_X7_7 rfl dX7_drift_50 ?_
            refine z_bipush (v := nI 6) hX dX7_drift_53 (by decide) ?_
            refine z_aload_n hX 0 dX7_drift_55 rfl ?_
            refine z_get (v := .ref (ad 0)) hX fX7 0 0 rfl rfl (Nat.le_of_ble_eq_true rfl) fl_X7_7 rfl dX7_drift_56 ?_
            refine z_bipush (v := nI 6) hX dX7_drift_59 (by decide) ?_
            refine z_iald (v := (nI ((lvS true k s) 6))) hX 1 (j := 6) rfl (by omega) (by decide) rfl dX7_drift_61 ?_
            refine z_i2l (v := (lN (lvS true k s 6))) hX dX7_drift_62 (nI_l (by omega)) ?_
            refine z_ldc2 (v := lN 1103515245) hX kl_X7_159 dX7_drift_63 ?_
            refine z_lmul (v := (lN (lvS true k s 6 * 1103515245))) hX dX7_drift_66 (lN_mul _ _) ?_
            refine z_ldc2 (v := lN 12345) hX kl_X7_161 dX7_drift_67 ?_
            refine z_ladd (v := (lN (lvS true k s 6 * 1103515245 + 12345))) hX dX7_drift_70 (lN_add _ _) ?_
            refine z_ldc2 (v := lN 2147483647) hX kl_X7_163 dX7_drift_71 ?_
            refine z_land (v := (lN d)) hX dX7_drift_74 ((lN_mask31 _).trans (congrArg lN ((drawN_eq _).symm.trans hdd))) ?_
            refine z_l2i (v := (nI d)) hX dX7_drift_75 (lN_i _) ?_
            refine z_iast (ws' := [ob x 7 (rf ad (va_up (va_up (va_up v 10 (lvU k (v 10))) 1 f) 10 (pushU (lvU k (v 10))))), ia G (ad 0) 29 (fN (va_up (lvS true k s) 6 d)), ia G (ad 9) 232 (fN U2_1)]) hX 1 (j := 6) rfl (by omega) (by decide) (updN _ _ _) rfl dX7_drift_76 ?_
            refine z_aload_n hX 0 dX7_drift_77 rfl ?_
            refine z_get (v := .ref (ad 0)) hX fX7 0 0 rfl rfl (Nat.le_of_ble_eq_true rfl) fl_X7_7 rfl dX7_drift_78 ?_
            refine z_bipush (v := nI 6) hX dX7_drift_81 (by decide) ?_
            refine z_iald (v := (nI d)) hX 1 (j := 6) rfl (by omega) (by decide) rfl dX7_drift_83 ?_
            refine z_ldc (v := nI 65536) hX kc_X7_165 dX7_drift_84 ?_
            refine z_idiv (v := (nI (d / 65536))) hX dX7_drift_86 (nI_ne0 (by omega) (by omega)) (pk_div (by omega) (by omega) (by omega)) ?_
            refine z_iconst (v := nI 5) hX dX7_drift_87 (by decide) ?_
            refine z_irem (v := (nI ((d / 65536) % 5))) hX dX7_drift_88 (nI_ne0 (by omega) (by omega)) (pk_rem (by omega) (by omega) (by omega)) ?_
            refine zn_if_ne (tgt := 117) hX dX7_drift_89 (by decide) (by omega) (fun c89 => ?_) (fun c89 => ?_)
            · skip
              have e9 : va_up (lvS true k s) 6 d = drS true (lvS true k s) := by
                show _ = drawS (lvS true k s)
                unfold drawS
                rw [hdd, if_neg c89]
              rw [e9]
              refine z_aload_n hX 0 dX7_drift_117 rfl ?_
              refine z_callVv (st := []) hX (c_X7_goesBy _ G x ad (va_up (va_up (va_up v 10 (lvU k (v 10))) 1 f) 10 (pushU (lvU k (v 10)))) (drS true (lvS true k s)) 9999 (WF_dr true wk) (by omega)) lb_X7_goesBy ml_X7_83 (fun (_u : Unit) => [ob x 7 (rf ad (va_up (va_up (va_up (va_up v 10 (lvU k (v 10))) 1 f) 10 (pushU (lvU k (v 10)))) 1 (goFall (drS true (lvS true k s))))), ia G (ad 0) 29 (fN (goBy (drS true (lvS true k s)))), ia G (ad 9) 232 (fN U2_1)]) (wr := [ia G (ad 9) 232 (fN U2_1)]) [0, 1] [2] [1, 2, 0] ⟨rfl, rfl, rfl, fun _ => rfl⟩ 0 rfl rfl rfl rfl ⟨Nat.le_refl _, Nat.le_refl _⟩ dX7_drift_118 rfl (fun  u118 hw118 => ?_)
              refine z_iinc (v := (nI (k + 1))) (L' := [(3, .int (nI (k + 1))), (0, .ref x), (1, .int (nI nnj)), (2, .int (nI (s 5)))]) hX 3 dX7_drift_121 rfl (nI_inc _) (Nat.le_of_ble_eq_true rfl) rfl ?_
              refine z_goto (tgt := 40) hX dX7_drift_124 (by decide) ?_
              refine z_lsub [1, 2, 3, 0] rfl ?_
              exact ih40 (k + 1) (goFall (drS true (lvS true k s))) U2_1 (by omega) (by omega) hw46
            · skip
              refine z_aload_n hX 0 dX7_drift_92 rfl ?_
              refine z_get (v := .ref (ad 0)) hX fX7 0 0 rfl rfl (Nat.le_of_ble_eq_true rfl) fl_X7_7 rfl dX7_drift_93 ?_
              refine z_iconst (v := nI 2) hX dX7_drift_96 (by decide) ?_
              refine z_dup2 hX dX7_drift_97 rfl rfl ?_
              refine z_iald (v := (nI ((lvS true k s) 2))) hX 1 (j := 2) rfl (by omega) (by decide) rfl dX7_drift_98 ?_
              refine z_iconst (v := nI 1) hX dX7_drift_99 (by decide) ?_
              refine z_aload_n hX 0 dX7_drift_100 rfl ?_
              refine z_get (v := .ref (ad 0)) hX fX7 0 0 rfl rfl (Nat.le_of_ble_eq_true rfl) fl_X7_7 rfl dX7_drift_101 ?_
              refine z_bipush (v := nI 6) hX dX7_drift_104 (by decide) ?_
              refine z_iald (v := (nI d)) hX 1 (j := 6) rfl (by omega) (by decide) rfl dX7_drift_106 ?_
              refine z_sipush (v := nI 128) hX dX7_drift_107 (by decide) ?_
              refine z_idiv (v := (nI (d / 128))) hX dX7_drift_110 (nI_ne0 (by omega) (by omega)) (pk_div (by omega) (by omega) (by omega)) ?_
              refine z_bipush (v := nI 6) hX dX7_drift_111 (by decide) ?_
              refine z_irem (v := (nI ((d / 128) % 6))) hX dX7_drift_113 (nI_ne0 (by omega) (by omega)) (pk_rem (by omega) (by omega) (by omega)) ?_
              refine z_ishl (v := (nI (2 ^ ((d / 128) % 6)))) hX dX7_drift_114 (shl_nI _ (by omega)) ?_
              refine z_ixor (v := (nI (((lvS true k s) 2) ^^^ (2 ^ ((d / 128) % 6))))) hX dX7_drift_115 (xor_nI _ _) ?_
              refine z_iast (ws' := [ob x 7 (rf ad (va_up (va_up (va_up v 10 (lvU k (v 10))) 1 f) 10 (pushU (lvU k (v 10))))), ia G (ad 0) 29 (fN (va_up (va_up (lvS true k s) 6 d) 2 (((lvS true k s) 2) ^^^ (2 ^ ((d / 128) % 6))))), ia G (ad 9) 232 (fN U2_1)]) hX 1 (j := 2) rfl (by omega) (by decide) (updN _ _ _) rfl dX7_drift_116 ?_
              have e9 : va_up (va_up (lvS true k s) 6 d) 2 (((lvS true k s) 2) ^^^ (2 ^ ((d / 128) % 6))) = drS true (lvS true k s) := by
                show _ = drawS (lvS true k s)
                unfold drawS
                rw [hdd, if_pos c89]
              rw [e9]
              refine z_aload_n hX 0 dX7_drift_117 rfl ?_
              refine z_callVv (st := []) hX (c_X7_goesBy _ G x ad (va_up (va_up (va_up v 10 (lvU k (v 10))) 1 f) 10 (pushU (lvU k (v 10)))) (drS true (lvS true k s)) 9999 (WF_dr true wk) (by omega)) lb_X7_goesBy ml_X7_83 (fun (_u : Unit) => [ob x 7 (rf ad (va_up (va_up (va_up (va_up v 10 (lvU k (v 10))) 1 f) 10 (pushU (lvU k (v 10)))) 1 (goFall (drS true (lvS true k s))))), ia G (ad 0) 29 (fN (goBy (drS true (lvS true k s)))), ia G (ad 9) 232 (fN U2_1)]) (wr := [ia G (ad 9) 232 (fN U2_1)]) [0, 1] [2] [1, 2, 0] ⟨rfl, rfl, rfl, fun _ => rfl⟩ 0 rfl rfl rfl rfl ⟨Nat.le_refl _, Nat.le_refl _⟩ dX7_drift_118 rfl (fun  u118 hw118 => ?_)
              refine z_iinc (v := (nI (k + 1))) (L' := [(3, .int (nI (k + 1))), (0, .ref x), (1, .int (nI nnj)), (2, .int (nI (s 5)))]) hX 3 dX7_drift_121 rfl (nI_inc _) (Nat.le_of_ble_eq_true rfl) rfl ?_
              refine z_goto (tgt := 40) hX dX7_drift_124 (by decide) ?_
              refine z_lsub [1, 2, 3, 0] rfl ?_
              exact ih40 (k + 1) (goFall (drS true (lvS true k s))) U2_1 (by omega) (by omega) hw46
      refine z_lsub [2, 3, 1, 0] rfl ?_
      exact lp40 (nnj + 1) 0 (v 1) U (by omega) (by omega) h2
    · skip
      refine z_bipush (v := (-3)) hX dX7_drift_28 (by decide) ?_
      have e0 : okDays s (nI nnj) = false := by
        unfold okDays
        simp [gN_nI (show nnj < 2147483648 by omega)]
        omega
      rw [e0] at hR
      exact hR _ (v, U) _ _ ⟨by unfold spDays; rw [if_pos (inb_t (by omega) (by omega) (by omega)), gN_nI (show nnj < 2147483648 by omega), if_neg (by omega)], rfl, rfl, rfl, rfl, h2⟩ dX7_drift_30 rfl
  · have hb_nn : inb nn 1 40 = false := hw6
    refine zn_if_ne (tgt := 14) hX dX7_drift_9 (by decide) (by omega) (fun c9 => absurd c9 (by omega)) (fun _ => ?_)
    refine z_iconst (v := (-1)) hX dX7_drift_12 (by decide) ?_
    have e0 : okDays s nn = false := by
      unfold okDays
      simp [hb_nn]
    rw [e0] at hR
    exact hR _ (v, U) _ _ ⟨by unfold spDays; rw [if_neg (by simp [hb_nn])], rfl, rfl, rfl, rfl, h2⟩ dX7_drift_13 rfl
set_option maxRecDepth 100000 in
set_option maxHeartbeats 4000000 in
theorem c_X7_asides (l : Launch) (G : zG) (x : Nat) (ad : Nat → Nat) (v : Nat → Nat) (s : nst) (t : nst)  : zMv l G yX7_asides cX7_asides 2 0 0 0 0 [.ref x] [ob x 7 (rf ad v), ia G (ad 0) 29 (fN s), ia G (ad 11) 29 (fN t)] (fun (_u : Unit) => True) (fun (_u : Unit) => [ob x 7 (rf ad v), ia G (ad 0) 29 (fN s), ia G (ad 11) 29 (fN s)]) := by
  refine zMv.of (by decide) rfl (fun X A H0 hX hXl hnm hR => ?_)
  show Z (X, G, A, H0, 2) 0 0 [ob x 7 (rf ad v), ia G (ad 0) 29 (fN s), ia G (ad 11) 29 (fN t)] 0 [(0, .ref x)] []
  subst hXl
  refine z_iconst (v := nI 0) hX dX7_asides_0 (by decide) ?_
  refine z_istore_n (L' := [(1, .int (nI 0)), (0, .ref x)]) hX dX7_asides_1 (Nat.le_of_ble_eq_true rfl) rfl ?_
  have lp2 : ∀ (n2 : Nat) (k : Nat) (W : nst), (29 + 1 ≤ k + n2) → (k ≤ 29) → (∀ i, i < k → W i = s i) → Z (X, G, A, H0, 2) 0 0 [ob x 7 (rf ad v), ia G (ad 0) 29 (fN s), ia G (ad 11) 29 (fN W)] 2 [(0, .ref x), (1, .int (nI k))] [] := by
    intro n2
    induction n2 with
    | zero =>
      intro k W hn hk hW
      exfalso
      omega
    | succ n2 ih2 =>
      intro k W hn hk hW
      refine z_iload_n hX 1 dX7_asides_2 rfl ?_
      refine z_bipush (v := nI 29) hX dX7_asides_3 (by decide) ?_
      refine zn_icmp_ge (tgt := 26) hX dX7_asides_5 (by decide) (by omega) (by omega) (fun c5 => ?_) (fun c5 => ?_)
      · skip
        refine z_iext (f' := (fN s)) (ws' := [ob x 7 (rf ad v), ia G (ad 0) 29 (fN s), ia G (ad 11) 29 (fN s)]) 2 rfl (fun j hj => congrArg nI (hW j (by omega))) rfl ?_
        exact hR () _ _ trivial dX7_asides_26
      · skip
        refine z_aload_n hX 0 dX7_asides_8 rfl ?_
        refine z_get (v := .ref (ad 11)) hX fX7 0 11 rfl rfl (Nat.le_of_ble_eq_true rfl) fl_X7_25 rfl dX7_asides_9 ?_
        refine z_iload_n hX 1 dX7_asides_12 rfl ?_
        refine z_aload_n hX 0 dX7_asides_13 rfl ?_
        refine z_get (v := .ref (ad 0)) hX fX7 0 0 rfl rfl (Nat.le_of_ble_eq_true rfl) fl_X7_7 rfl dX7_asides_14 ?_
        refine z_iload_n hX 1 dX7_asides_17 rfl ?_
        refine z_iald (v := (nI (s k))) hX 1 (j := k) rfl (by omega) (by decide) rfl dX7_asides_18 ?_
        refine z_iast (ws' := [ob x 7 (rf ad v), ia G (ad 0) 29 (fN s), ia G (ad 11) 29 (fN (va_up W k (s k)))]) hX 2 (j := k) rfl (by omega) (by decide) (updN _ _ _) rfl dX7_asides_19 ?_
        refine z_iinc (v := (nI (k + 1))) (L' := [(1, .int (nI (k + 1))), (0, .ref x)]) hX 1 dX7_asides_20 rfl (nI_inc _) (Nat.le_of_ble_eq_true rfl) rfl ?_
        refine z_goto (tgt := 2) hX dX7_asides_23 (by decide) ?_
        refine z_lsub [1, 0] rfl ?_
        exact ih2 (k + 1) (va_up W k (s k)) (by omega) (by omega) (fun i9 h9 => by
              by_cases e9 : i9 = k
              · subst e9; exact up_eq
              · rw [up_ne e9]; exact hW i9 (by omega))
  refine z_lsub [1, 0] rfl ?_
  exact lp2 30 0 t (by omega) (by omega) (fun i9 h9 => absurd h9 (by omega))
set_option maxRecDepth 100000 in
set_option maxHeartbeats 4000000 in
theorem c_X7_backs (l : Launch) (G : zG) (x : Nat) (ad : Nat → Nat) (v : Nat → Nat) (s : nst) (t : nst)  : zMv l G yX7_backs cX7_backs 2 0 0 0 0 [.ref x] [ob x 7 (rf ad v), ia G (ad 0) 29 (fN s), ia G (ad 11) 29 (fN t)] (fun (_u : Unit) => True) (fun (_u : Unit) => [ob x 7 (rf ad v), ia G (ad 0) 29 (fN t), ia G (ad 11) 29 (fN t)]) := by
  refine zMv.of (by decide) rfl (fun X A H0 hX hXl hnm hR => ?_)
  show Z (X, G, A, H0, 2) 0 0 [ob x 7 (rf ad v), ia G (ad 0) 29 (fN s), ia G (ad 11) 29 (fN t)] 0 [(0, .ref x)] []
  subst hXl
  refine z_iconst (v := nI 0) hX dX7_backs_0 (by decide) ?_
  refine z_istore_n (L' := [(1, .int (nI 0)), (0, .ref x)]) hX dX7_backs_1 (Nat.le_of_ble_eq_true rfl) rfl ?_
  have lp2 : ∀ (n2 : Nat) (k : Nat) (W : nst), (29 + 1 ≤ k + n2) → (k ≤ 29) → (∀ i, i < k → W i = t i) → Z (X, G, A, H0, 2) 0 0 [ob x 7 (rf ad v), ia G (ad 0) 29 (fN W), ia G (ad 11) 29 (fN t)] 2 [(0, .ref x), (1, .int (nI k))] [] := by
    intro n2
    induction n2 with
    | zero =>
      intro k W hn hk hW
      exfalso
      omega
    | succ n2 ih2 =>
      intro k W hn hk hW
      refine z_iload_n hX 1 dX7_backs_2 rfl ?_
      refine z_bipush (v := nI 29) hX dX7_backs_3 (by decide) ?_
      refine zn_icmp_ge (tgt := 26) hX dX7_backs_5 (by decide) (by omega) (by omega) (fun c5 => ?_) (fun c5 => ?_)
      · skip
        refine z_iext (f' := (fN t)) (ws' := [ob x 7 (rf ad v), ia G (ad 0) 29 (fN t), ia G (ad 11) 29 (fN t)]) 1 rfl (fun j hj => congrArg nI (hW j (by omega))) rfl ?_
        exact hR () _ _ trivial dX7_backs_26
      · skip
        refine z_aload_n hX 0 dX7_backs_8 rfl ?_
        refine z_get (v := .ref (ad 0)) hX fX7 0 0 rfl rfl (Nat.le_of_ble_eq_true rfl) fl_X7_7 rfl dX7_backs_9 ?_
        refine z_iload_n hX 1 dX7_backs_12 rfl ?_
        refine z_aload_n hX 0 dX7_backs_13 rfl ?_
        refine z_get (v := .ref (ad 11)) hX fX7 0 11 rfl rfl (Nat.le_of_ble_eq_true rfl) fl_X7_25 rfl dX7_backs_14 ?_
        refine z_iload_n hX 1 dX7_backs_17 rfl ?_
        refine z_iald (v := (nI (t k))) hX 2 (j := k) rfl (by omega) (by decide) rfl dX7_backs_18 ?_
        refine z_iast (ws' := [ob x 7 (rf ad v), ia G (ad 0) 29 (fN (va_up W k (t k))), ia G (ad 11) 29 (fN t)]) hX 1 (j := k) rfl (by omega) (by decide) (updN _ _ _) rfl dX7_backs_19 ?_
        refine z_iinc (v := (nI (k + 1))) (L' := [(1, .int (nI (k + 1))), (0, .ref x)]) hX 1 dX7_backs_20 rfl (nI_inc _) (Nat.le_of_ble_eq_true rfl) rfl ?_
        refine z_goto (tgt := 2) hX dX7_backs_23 (by decide) ?_
        refine z_lsub [1, 0] rfl ?_
        exact ih2 (k + 1) (va_up W k (t k)) (by omega) (by omega) (fun i9 h9 => by
              by_cases e9 : i9 = k
              · subst e9; exact up_eq
              · rw [up_ne e9]; exact hW i9 (by omega))
  refine z_lsub [1, 0] rfl ?_
  exact lp2 30 0 s (by omega) (by omega) (fun i9 h9 => absurd h9 (by omega))
set_option maxRecDepth 100000 in
set_option maxHeartbeats 4000000 in
theorem c_X7_ahead (l : Launch) (G : zG) (x : Nat) (ad : Nat → Nat) (v : Nat → Nat) (s : nst) (t : nst) (ar : Int32) (nn : Int32) (h0 : WF 9999 0 s) : zMi l G yX7_ahead cX7_ahead 4 .int 5 0 0 110 [.ref x, .int ar, .int nn] [ob x 7 (rf ad v), ia G (ad 0) 29 (fN s), ia G (ad 11) 29 (fN t)] (fun (r : Int32) (_u : nst × nst) => r = spAhead s ar nn ∧ _u.1 3 = v 3 ∧ _u.1 10 = v 10 ∧ _u.1 17 = v 17 ∧ _u.1 18 = v 18) (fun (_u : nst × nst) => [ob x 7 (rf ad _u.1), ia G (ad 0) 29 (fN s), ia G (ad 11) 29 (fN _u.2)]) := by
  refine zMi.of (by decide) rfl (fun X A H0 hX hXl hR => ?_)
  show Z (X, G, A, H0, 4) 0 0 [ob x 7 (rf ad v), ia G (ad 0) 29 (fN s), ia G (ad 11) 29 (fN t)] 0 [(0, .ref x), (1, .int ar), (2, .int nn)] []
  subst hXl
  have z0 := h0.1
  have z1 := h0.2.1
  have z2 := h0.2.2.1
  have z3 := h0.2.2.2.1
  refine z_iload_n hX 1 dX7_ahead_0 rfl ?_
  refine z_callSi (st := []) hX (c_X7_isArch _ G ar ) lb_X7_isArch ml_X7_102 (fun (_u : Unit) => [ob x 7 (rf ad v), ia G (ad 0) 29 (fN s), ia G (ad 11) 29 (fN t)]) (wr := [ob x 7 (rf ad v), ia G (ad 0) 29 (fN s), ia G (ad 11) 29 (fN t)]) [] [0, 1, 2] [0, 1, 2] ⟨rfl, rfl, rfl, fun _ => rfl⟩ rfl rfl ⟨Nat.le_refl _, Nat.le_refl _⟩ dX7_ahead_1 rfl (fun r1 u1 hw1 => ?_)
  try dsimp only at hw1
  rcases hw1 with ⟨arj, harl, harh, rfl, rfl⟩ | ⟨hw1, rfl⟩
  · skip
    refine zn_if_eq (tgt := 19) hX dX7_ahead_4 (by decide) (by omega) (fun c4 => absurd c4 (by omega)) (fun _ => ?_)
    refine z_iload_n hX 2 dX7_ahead_7 rfl ?_
    refine z_i2l (v := (nn.toInt64)) hX dX7_ahead_8 rfl ?_
    refine z_lconst (v := lN 0) hX dX7_ahead_9 (by decide) ?_
    refine z_ldc2 (v := lN 60) hX kl_X7_166 dX7_ahead_10 ?_
    refine z_callSi (st := []) hX (c_X7_inX _ G nn 0 60 (by omega) (by omega)) lb_X7_in ml_X7_44 (fun (_u : Unit) => [ob x 7 (rf ad v), ia G (ad 0) 29 (fN s), ia G (ad 11) 29 (fN t)]) (wr := [ob x 7 (rf ad v), ia G (ad 0) 29 (fN s), ia G (ad 11) 29 (fN t)]) [] [0, 1, 2] [0, 1, 2] ⟨rfl, rfl, rfl, fun _ => rfl⟩ rfl rfl ⟨Nat.le_refl _, Nat.le_refl _⟩ dX7_ahead_13 rfl (fun r13 u13 hw13 => ?_)
    try dsimp only at hw13
    rcases hw13 with ⟨nnj, hnnl, hnnh, rfl, rfl⟩ | ⟨hw13, rfl⟩
    · skip
      refine zn_if_ne (tgt := 21) hX dX7_ahead_16 (by decide) (by omega) (fun _ => ?_) (fun c16 => absurd c16 (by omega))
      refine z_aload_n hX 0 dX7_ahead_21 rfl ?_
      refine z_callVv (st := []) hX (c_X7_asides _ G x ad v s t ) lb_X7_asides ml_X7_168 (fun (_u : Unit) => [ob x 7 (rf ad v), ia G (ad 0) 29 (fN s), ia G (ad 11) 29 (fN s)]) (wr := []) [0, 1, 2] [] [0, 1, 2] ⟨rfl, rfl, rfl, fun _ => rfl⟩ 0 rfl rfl rfl rfl ⟨Nat.le_refl _, Nat.le_refl _⟩ dX7_ahead_22 rfl (fun  u22 hw22 => ?_)
      refine z_aload_n hX 0 dX7_ahead_25 rfl ?_
      refine z_iload_n hX 2 dX7_ahead_26 rfl ?_
      refine z_callVv (st := []) hX (c_X7_goesOn _ G x ad v s nnj 9999 h0 (by omega) (by omega)) lb_X7_goesOn ml_X7_171 (fun (_u : Nat) => [ob x 7 (rf ad (va_up v 1 _u)), ia G (ad 0) 29 (fN (goN nnj s)), ia G (ad 11) 29 (fN s)]) (wr := [ia G (ad 11) 29 (fN s)]) [0, 1] [2] [1, 2, 0] ⟨rfl, rfl, rfl, fun _ => rfl⟩ 0 rfl rfl rfl rfl ⟨Nat.le_refl _, Nat.le_refl _⟩ dX7_ahead_27 rfl (fun  u27 hw27 => ?_)
      obtain ⟨f1_1, rfl⟩ : ∃ z9, z9 = u27 := ⟨_, rfl⟩
      refine z_aload_n hX 0 dX7_ahead_30 rfl ?_
      refine z_get (v := .ref (ad 0)) hX fX7 0 0 rfl rfl (Nat.le_of_ble_eq_true rfl) fl_X7_7 rfl dX7_ahead_31 ?_
      refine z_bipush (v := nI 7) hX dX7_ahead_34 (by decide) ?_
      refine z_iload_n hX 1 dX7_ahead_36 rfl ?_
      refine z_iadd (v := (nI (7 + arj))) hX dX7_ahead_37 (nI_add _ _) ?_
      refine z_iald (v := (nI ((goN nnj s) (7 + arj)))) hX 1 (j := (7 + arj)) rfl (by omega) (by decide) rfl dX7_ahead_38 ?_
      refine z_istore_n (L' := [(3, .int (nI ((goN nnj s) (7 + arj)))), (0, .ref x), (1, .int (nI arj)), (2, .int (nI nnj))]) hX dX7_ahead_39 (Nat.le_of_ble_eq_true rfl) rfl ?_
      refine z_aload_n hX 1 dX7_ahead_40 rfl ?_
      refine z_callVv (st := []) hX (c_X7_backs _ G x ad (va_up v 1 f1_1) (goN nnj s) s ) lb_X7_backs ml_X7_174 (fun (_u : Unit) => [ob x 7 (rf ad (va_up v 1 f1_1)), ia G (ad 0) 29 (fN s), ia G (ad 11) 29 (fN s)]) (wr := []) [0, 1, 2] [] [0, 1, 2] ⟨rfl, rfl, rfl, fun _ => rfl⟩ 0 rfl rfl rfl rfl ⟨Nat.le_refl _, Nat.le_refl _⟩ dX7_ahead_41 rfl (fun  u41 hw41 => ?_)
      refine z_iload_n hX 0 dX7_ahead_44 rfl ?_
      exact hR _ (va_up v 1 f1_1, s) _ _ ⟨by unfold spAhead; rw [if_pos (⟨inb_t (by omega) (by omega) (by omega), inb_t (by omega) (by omega) (by omega)⟩), gN_nI (by omega), gN_nI (by omega)], rfl, rfl, rfl, rfl⟩ dX7_ahead_45 rfl
    · have hb_nn : inb nn 0 60 = false := hw13
      refine zn_if_ne (tgt := 21) hX dX7_ahead_16 (by decide) (by omega) (fun c16 => absurd c16 (by omega)) (fun _ => ?_)
      refine z_iconst (v := (-1)) hX dX7_ahead_19 (by decide) ?_
      exact hR _ (v, t) _ _ ⟨by unfold spAhead; rw [if_neg (by simp [hb_nn])], rfl, rfl, rfl, rfl⟩ dX7_ahead_20 rfl
  · have hb_ar : inb ar 0 3 = false := hw1
    refine zn_if_eq (tgt := 19) hX dX7_ahead_4 (by decide) (by omega) (fun _ => ?_) (fun c4 => absurd c4 (by omega))
    refine z_iconst (v := (-1)) hX dX7_ahead_19 (by decide) ?_
    exact hR _ (v, t) _ _ ⟨by unfold spAhead; rw [if_neg (by simp [hb_ar])], rfl, rfl, rfl, rfl⟩ dX7_ahead_20 rfl
set_option maxRecDepth 100000 in
set_option maxHeartbeats 4000000 in
theorem c_X7_then (l : Launch) (G : zG) (x : Nat) (ad : Nat → Nat) (v : Nat → Nat) (s : nst) (t : nst) (nn : Int32) (wh : Int32) (h0 : WF 9999 0 s) : zMi l G yX7_then cX7_then 4 .int 5 0 0 110 [.ref x, .int nn, .int wh] [ob x 7 (rf ad v), ia G (ad 0) 29 (fN s), ia G (ad 11) 29 (fN t)] (fun (r : Int32) (_u : nst × nst) => r = spThen s nn wh ∧ _u.1 3 = v 3 ∧ _u.1 10 = v 10 ∧ _u.1 17 = v 17 ∧ _u.1 18 = v 18) (fun (_u : nst × nst) => [ob x 7 (rf ad _u.1), ia G (ad 0) 29 (fN s), ia G (ad 11) 29 (fN _u.2)]) := by
  refine zMi.of (by decide) rfl (fun X A H0 hX hXl hR => ?_)
  show Z (X, G, A, H0, 4) 0 0 [ob x 7 (rf ad v), ia G (ad 0) 29 (fN s), ia G (ad 11) 29 (fN t)] 0 [(0, .ref x), (1, .int nn), (2, .int wh)] []
  subst hXl
  have z0 := h0.1
  have z1 := h0.2.1
  have z2 := h0.2.2.1
  have z3 := h0.2.2.2.1
  refine z_iload_n hX 1 dX7_then_0 rfl ?_
  refine z_i2l (v := (nn.toInt64)) hX dX7_then_1 rfl ?_
  refine z_lconst (v := lN 0) hX dX7_then_2 (by decide) ?_
  refine z_ldc2 (v := lN 60) hX kl_X7_166 dX7_then_3 ?_
  refine z_callSi (st := []) hX (c_X7_inX _ G nn 0 60 (by omega) (by omega)) lb_X7_in ml_X7_44 (fun (_u : Unit) => [ob x 7 (rf ad v), ia G (ad 0) 29 (fN s), ia G (ad 11) 29 (fN t)]) (wr := [ob x 7 (rf ad v), ia G (ad 0) 29 (fN s), ia G (ad 11) 29 (fN t)]) [] [0, 1, 2] [0, 1, 2] ⟨rfl, rfl, rfl, fun _ => rfl⟩ rfl rfl ⟨Nat.le_refl _, Nat.le_refl _⟩ dX7_then_6 rfl (fun r6 u6 hw6 => ?_)
  try dsimp only at hw6
  rcases hw6 with ⟨nnj, hnnl, hnnh, rfl, rfl⟩ | ⟨hw6, rfl⟩
  · skip
    refine zn_if_eq (tgt := 24) hX dX7_then_9 (by decide) (by omega) (fun c9 => absurd c9 (by omega)) (fun _ => ?_)
    refine z_iload_n hX 2 dX7_then_12 rfl ?_
    refine z_i2l (v := (wh.toInt64)) hX dX7_then_13 rfl ?_
    refine z_lconst (v := lN 0) hX dX7_then_14 (by decide) ?_
    refine z_ldc2 (v := lN 2) hX kl_X7_177 dX7_then_15 ?_
    refine z_callSi (st := []) hX (c_X7_inX _ G wh 0 2 (by omega) (by omega)) lb_X7_in ml_X7_44 (fun (_u : Unit) => [ob x 7 (rf ad v), ia G (ad 0) 29 (fN s), ia G (ad 11) 29 (fN t)]) (wr := [ob x 7 (rf ad v), ia G (ad 0) 29 (fN s), ia G (ad 11) 29 (fN t)]) [] [0, 1, 2] [0, 1, 2] ⟨rfl, rfl, rfl, fun _ => rfl⟩ rfl rfl ⟨Nat.le_refl _, Nat.le_refl _⟩ dX7_then_18 rfl (fun r18 u18 hw18 => ?_)
    try dsimp only at hw18
    rcases hw18 with ⟨whj, hwhl, hwhh, rfl, rfl⟩ | ⟨hw18, rfl⟩
    · skip
      refine zn_if_ne (tgt := 26) hX dX7_then_21 (by decide) (by omega) (fun _ => ?_) (fun c21 => absurd c21 (by omega))
      refine z_aload_n hX 0 dX7_then_26 rfl ?_
      refine z_callVv (st := []) hX (c_X7_asides _ G x ad v s t ) lb_X7_asides ml_X7_168 (fun (_u : Unit) => [ob x 7 (rf ad v), ia G (ad 0) 29 (fN s), ia G (ad 11) 29 (fN s)]) (wr := []) [0, 1, 2] [] [0, 1, 2] ⟨rfl, rfl, rfl, fun _ => rfl⟩ 0 rfl rfl rfl rfl ⟨Nat.le_refl _, Nat.le_refl _⟩ dX7_then_27 rfl (fun  u27 hw27 => ?_)
      refine z_aload_n hX 0 dX7_then_30 rfl ?_
      refine z_iload_n hX 1 dX7_then_31 rfl ?_
      refine z_callVv (st := []) hX (c_X7_goesOn _ G x ad v s nnj 9999 h0 (by omega) (by omega)) lb_X7_goesOn ml_X7_171 (fun (_u : Nat) => [ob x 7 (rf ad (va_up v 1 _u)), ia G (ad 0) 29 (fN (goN nnj s)), ia G (ad 11) 29 (fN s)]) (wr := [ia G (ad 11) 29 (fN s)]) [0, 1] [2] [1, 2, 0] ⟨rfl, rfl, rfl, fun _ => rfl⟩ 0 rfl rfl rfl rfl ⟨Nat.le_refl _, Nat.le_refl _⟩ dX7_then_32 rfl (fun  u32 hw32 => ?_)
      obtain ⟨f1_1, rfl⟩ : ∃ z9, z9 = u32 := ⟨_, rfl⟩
      refine z_aload_n hX 0 dX7_then_35 rfl ?_
      refine z_get (v := .ref (ad 0)) hX fX7 0 0 rfl rfl (Nat.le_of_ble_eq_true rfl) fl_X7_7 rfl dX7_then_36 ?_
      refine z_iconst (v := nI 3) hX dX7_then_39 (by decide) ?_
      refine z_iload_n hX 2 dX7_then_40 rfl ?_
      refine z_iadd (v := (nI (whj + 3))) hX dX7_then_41 ((nI_add _ _).trans (congrArg nI (by omega))) ?_
      refine z_iald (v := (nI ((goN nnj s) (whj + 3)))) hX 1 (j := (whj + 3)) rfl (by omega) (by decide) rfl dX7_then_42 ?_
      refine z_istore_n (L' := [(3, .int (nI ((goN nnj s) (whj + 3)))), (0, .ref x), (1, .int (nI nnj)), (2, .int (nI whj))]) hX dX7_then_43 (Nat.le_of_ble_eq_true rfl) rfl ?_
      refine z_aload_n hX 1 dX7_then_44 rfl ?_
      refine z_callVv (st := []) hX (c_X7_backs _ G x ad (va_up v 1 f1_1) (goN nnj s) s ) lb_X7_backs ml_X7_174 (fun (_u : Unit) => [ob x 7 (rf ad (va_up v 1 f1_1)), ia G (ad 0) 29 (fN s), ia G (ad 11) 29 (fN s)]) (wr := []) [0, 1, 2] [] [0, 1, 2] ⟨rfl, rfl, rfl, fun _ => rfl⟩ 0 rfl rfl rfl rfl ⟨Nat.le_refl _, Nat.le_refl _⟩ dX7_then_45 rfl (fun  u45 hw45 => ?_)
      refine z_iload_n hX 0 dX7_then_48 rfl ?_
      exact hR _ (va_up v 1 f1_1, s) _ _ ⟨by unfold spThen; rw [if_pos (⟨inb_t (by omega) (by omega) (by omega), inb_t (by omega) (by omega) (by omega)⟩), gN_nI (by omega), gN_nI (by omega)]; rw [Nat.add_comm 3 whj], rfl, rfl, rfl, rfl⟩ dX7_then_49 rfl
    · have hb_wh : inb wh 0 2 = false := hw18
      refine zn_if_ne (tgt := 26) hX dX7_then_21 (by decide) (by omega) (fun c21 => absurd c21 (by omega)) (fun _ => ?_)
      refine z_iconst (v := (-1)) hX dX7_then_24 (by decide) ?_
      exact hR _ (v, t) _ _ ⟨by unfold spThen; rw [if_neg (by simp [hb_wh])], rfl, rfl, rfl, rfl⟩ dX7_then_25 rfl
  · have hb_nn : inb nn 0 60 = false := hw6
    refine zn_if_eq (tgt := 24) hX dX7_then_9 (by decide) (by omega) (fun _ => ?_) (fun c9 => absurd c9 (by omega))
    refine z_iconst (v := (-1)) hX dX7_then_24 (by decide) ?_
    exact hR _ (v, t) _ _ ⟨by unfold spThen; rw [if_neg (by simp [hb_nn])], rfl, rfl, rfl, rfl⟩ dX7_then_25 rfl
set_option maxRecDepth 100000 in
set_option maxHeartbeats 4000000 in
theorem c_X7_holeFirst (l : Launch) (G : zG) (x : Nat) (ad : Nat → Nat) (v : Nat → Nat) (s : nst) (t : nst) (h0 : WF 9999 0 s) : zMi l G yX7_holeFirst cX7_holeFirst 2 .int 4 0 0 88 [.ref x] [ob x 7 (rf ad v), ia G (ad 0) 29 (fN s), ia G (ad 11) 29 (fN t)] (fun (r : Int32) (_u : nst) => r = hole1 s 61 0 ∧ _u 3 = v 3 ∧ _u 10 = v 10 ∧ _u 17 = v 17 ∧ _u 18 = v 18) (fun (_u : nst) => [ob x 7 (rf ad _u), ia G (ad 0) 29 (fN t), ia G (ad 11) 29 (fN t)]) := by
  refine zMi.of (by decide) rfl (fun X A H0 hX hXl hR => ?_)
  show Z (X, G, A, H0, 2) 0 0 [ob x 7 (rf ad v), ia G (ad 0) 29 (fN s), ia G (ad 11) 29 (fN t)] 0 [(0, .ref x)] []
  subst hXl
  refine z_iconst (v := nI 0) hX dX7_holeFirst_0 (by decide) ?_
  refine z_istore_n (L' := [(1, .int (nI 0)), (0, .ref x)]) hX dX7_holeFirst_1 (Nat.le_of_ble_eq_true rfl) rfl ?_
  have lp2 : ∀ (n2 : Nat) (d : Nat) (f : Nat), (61 + 1 ≤ d + n2) → (d ≤ 61) → (hole1 s (61 - d) d = hole1 s 61 0) → Z (X, G, A, H0, 2) 0 0 [ob x 7 (rf ad (va_up v 1 f)), ia G (ad 0) 29 (fN (goN d s)), ia G (ad 11) 29 (fN t)] 2 [(0, .ref x), (1, .int (nI d))] [] := by
    intro n2
    induction n2 with
    | zero =>
      intro d f hn hd hf
      exfalso
      omega
    | succ n2 ih2 =>
      intro d f hn hd hf
      have q4 := holes4_lt (goN d s)
      refine z_iload_n hX 1 dX7_holeFirst_2 rfl ?_
      refine z_bipush (v := nI 61) hX dX7_holeFirst_3 (by decide) ?_
      refine zn_icmp_ge (tgt := 25) hX dX7_holeFirst_5 (by decide) (by omega) (by omega) (fun c5 => ?_) (fun c5 => ?_)
      · skip
        refine z_aload_n hX 0 dX7_holeFirst_25 rfl ?_
        refine z_callVv (st := []) hX (c_X7_backs _ G x ad (va_up v 1 f) (goN d s) t ) lb_X7_backs ml_X7_174 (fun (_u : Unit) => [ob x 7 (rf ad (va_up v 1 f)), ia G (ad 0) 29 (fN t), ia G (ad 11) 29 (fN t)]) (wr := []) [0, 1, 2] [] [0, 1, 2] ⟨rfl, rfl, rfl, fun _ => rfl⟩ 0 rfl rfl rfl rfl ⟨Nat.le_refl _, Nat.le_refl _⟩ dX7_holeFirst_26 rfl (fun  u26 hw26 => ?_)
        refine z_iload_n hX 1 dX7_holeFirst_29 rfl ?_
        refine z_bipush (v := nI 61) hX dX7_holeFirst_30 (by decide) ?_
        refine zn_icmp_ge (tgt := 39) hX dX7_holeFirst_32 (by decide) (by omega) (by omega) (fun c32 => ?_) (fun c32 => absurd c32 (by omega))
        refine z_bipush (v := (-4)) hX dX7_holeFirst_39 (by decide) ?_
        exact hR _ (va_up v 1 f) _ _ ⟨by rw [← hf, show 61 - d = 0 by omega]; rfl, rfl, rfl, rfl, rfl⟩ dX7_holeFirst_41 rfl
      · skip
        refine z_aload_n hX 0 dX7_holeFirst_8 rfl ?_
        refine z_callVi (st := []) hX (c_X7_holes _ G x ad (va_up v 1 f) (goN d s) (goN_WF h0 d).2.2.2.2.2.1) lb_X7_holes ml_X7_105 (fun (_u : Unit) => [ob x 7 (rf ad (va_up v 1 f)), ia G (ad 0) 29 (fN (goN d s)), ia G (ad 11) 29 (fN t)]) (wr := [ia G (ad 11) 29 (fN t)]) [0, 1] [2] [1, 2, 0] ⟨rfl, rfl, rfl, fun _ => rfl⟩ 0 rfl rfl rfl rfl ⟨Nat.le_refl _, Nat.le_refl _⟩ dX7_holeFirst_9 rfl (fun r9 u9 hw9 => ?_)
        subst hw9
        refine zn_if_ne (tgt := 25) hX dX7_holeFirst_12 (by decide) (by omega) (fun c12 => ?_) (fun c12 => ?_)
        · skip
          refine z_aload_n hX 0 dX7_holeFirst_25 rfl ?_
          refine z_callVv (st := []) hX (c_X7_backs _ G x ad (va_up v 1 f) (goN d s) t ) lb_X7_backs ml_X7_174 (fun (_u : Unit) => [ob x 7 (rf ad (va_up v 1 f)), ia G (ad 0) 29 (fN t), ia G (ad 11) 29 (fN t)]) (wr := []) [0, 1, 2] [] [0, 1, 2] ⟨rfl, rfl, rfl, fun _ => rfl⟩ 0 rfl rfl rfl rfl ⟨Nat.le_refl _, Nat.le_refl _⟩ dX7_holeFirst_26 rfl (fun  u26 hw26 => ?_)
          refine z_iload_n hX 1 dX7_holeFirst_29 rfl ?_
          refine z_bipush (v := nI 61) hX dX7_holeFirst_30 (by decide) ?_
          refine zn_icmp_ge (tgt := 39) hX dX7_holeFirst_32 (by decide) (by omega) (by omega) (fun c32 => absurd c32 (by omega)) (fun c32 => ?_)
          refine z_iload_n hX 1 dX7_holeFirst_35 rfl ?_
          refine z_goto (tgt := 41) hX dX7_holeFirst_36 (by decide) ?_
          exact hR _ (va_up v 1 f) _ _ ⟨by rw [← hf, show 61 - d = (60 - d) + 1 by omega, hole1, if_neg c12], rfl, rfl, rfl, rfl⟩ dX7_holeFirst_41 rfl
        · skip
          refine z_aload_n hX 0 dX7_holeFirst_15 rfl ?_
          refine z_callVv (st := []) hX (c_X7_goesBy _ G x ad (va_up v 1 f) (goN d s) (9999 + d) (goN_WF h0 d) (by omega)) lb_X7_goesBy ml_X7_83 (fun (_u : Unit) => [ob x 7 (rf ad (va_up (va_up v 1 f) 1 (goFall (goN d s)))), ia G (ad 0) 29 (fN (goBy (goN d s))), ia G (ad 11) 29 (fN t)]) (wr := [ia G (ad 11) 29 (fN t)]) [0, 1] [2] [1, 2, 0] ⟨rfl, rfl, rfl, fun _ => rfl⟩ 0 rfl rfl rfl rfl ⟨Nat.le_refl _, Nat.le_refl _⟩ dX7_holeFirst_16 rfl (fun  u16 hw16 => ?_)
          refine z_iinc (v := (nI (d + 1))) (L' := [(1, .int (nI (d + 1))), (0, .ref x)]) hX 1 dX7_holeFirst_19 rfl (nI_inc _) (Nat.le_of_ble_eq_true rfl) rfl ?_
          refine z_goto (tgt := 2) hX dX7_holeFirst_22 (by decide) ?_
          refine z_lsub [1, 0] rfl ?_
          exact ih2 (d + 1) (goFall (goN d s)) (by omega) (by omega) (by rw [← hf, show 61 - d = (61 - (d + 1)) + 1 by omega, hole1, if_pos c12])
  refine z_lsub [1, 0] rfl ?_
  exact lp2 62 0 (v 1) (by omega) (by omega) rfl
set_option maxRecDepth 100000 in
set_option maxHeartbeats 4000000 in
theorem c_X7_hole (l : Launch) (G : zG) (x : Nat) (ad : Nat → Nat) (v : Nat → Nat) (s : nst) (t : nst) (h0 : WF 9999 0 s) : zMi l G yX7_hole cX7_hole 1 .int 5 0 0 109 [.ref x] [ob x 7 (rf ad v), ia G (ad 0) 29 (fN s), ia G (ad 11) 29 (fN t)] (fun (r : Int32) (_u : nst × nst) => r = hole1 s 61 0 ∧ _u.1 3 = v 3 ∧ _u.1 10 = v 10 ∧ _u.1 17 = v 17 ∧ _u.1 18 = v 18) (fun (_u : nst × nst) => [ob x 7 (rf ad _u.1), ia G (ad 0) 29 (fN s), ia G (ad 11) 29 (fN _u.2)]) := by
  refine zMi.of (by decide) rfl (fun X A H0 hX hXl hR => ?_)
  show Z (X, G, A, H0, 1) 0 0 [ob x 7 (rf ad v), ia G (ad 0) 29 (fN s), ia G (ad 11) 29 (fN t)] 0 [(0, .ref x)] []
  subst hXl
  refine z_aload_n hX 0 dX7_hole_0 rfl ?_
  refine z_callVv (st := []) hX (c_X7_asides _ G x ad v s t ) lb_X7_asides ml_X7_168 (fun (_u : Unit) => [ob x 7 (rf ad v), ia G (ad 0) 29 (fN s), ia G (ad 11) 29 (fN s)]) (wr := []) [0, 1, 2] [] [0, 1, 2] ⟨rfl, rfl, rfl, fun _ => rfl⟩ 0 rfl rfl rfl rfl ⟨Nat.le_refl _, Nat.le_refl _⟩ dX7_hole_1 rfl (fun  u1 hw1 => ?_)
  refine z_aload_n hX 0 dX7_hole_4 rfl ?_
  refine z_callVi (st := []) hX (c_X7_holeFirst _ G x ad v s s h0) lb_X7_holeFirst ml_X7_179 (fun (_u : nst) => [ob x 7 (rf ad _u), ia G (ad 0) 29 (fN s), ia G (ad 11) 29 (fN s)]) (wr := []) [0, 1, 2] [] [0, 1, 2] ⟨rfl, rfl, rfl, fun _ => rfl⟩ 0 rfl rfl rfl rfl ⟨Nat.le_refl _, Nat.le_refl _⟩ dX7_hole_5 rfl (fun r5 u5 hw5 => ?_)
  obtain ⟨v2_1, rfl⟩ : ∃ z9, z9 = u5 := ⟨_, rfl⟩
  exact hR _ (v2_1, s) _ _ hw5 dX7_hole_8 rfl
set_option maxRecDepth 100000 in
set_option maxHeartbeats 4000000 in
theorem c_X7_stands (l : Launch) (G : zG) (x : Nat) (ad : Nat → Nat) (v : Nat → Nat) (s : nst) (t : nst) (lk : Int32) (h0 : WF 9999 0 s) : zMi l G yX7_stands cX7_stands 2 .int 5 0 0 109 [.ref x, .int lk] [ob x 7 (rf ad v), ia G (ad 0) 29 (fN s), ia G (ad 11) 29 (fN t)] (fun (r : Int32) (_u : nst × nst) => r = spStands s lk ∧ _u.1 3 = v 3 ∧ _u.1 10 = v 10 ∧ _u.1 17 = v 17 ∧ _u.1 18 = v 18) (fun (_u : nst × nst) => [ob x 7 (rf ad _u.1), ia G (ad 0) 29 (fN s), ia G (ad 11) 29 (fN _u.2)]) := by
  refine zMi.of (by decide) rfl (fun X A H0 hX hXl hR => ?_)
  show Z (X, G, A, H0, 2) 0 0 [ob x 7 (rf ad v), ia G (ad 0) 29 (fN s), ia G (ad 11) 29 (fN t)] 0 [(0, .ref x), (1, .int lk)] []
  subst hXl
  have z0 := h0.1
  have z1 := h0.2.1
  have z2 := h0.2.2.1
  have z3 := h0.2.2.2.1
  refine z_iload_n hX 1 dX7_stands_0 rfl ?_
  refine z_i2l (v := (lk.toInt64)) hX dX7_stands_1 rfl ?_
  refine z_lconst (v := lN 0) hX dX7_stands_2 (by decide) ?_
  refine z_ldc2 (v := lN 63) hX kl_X7_91 dX7_stands_3 ?_
  refine z_callSi (st := []) hX (c_X7_inX _ G lk 0 63 (by omega) (by omega)) lb_X7_in ml_X7_44 (fun (_u : Unit) => [ob x 7 (rf ad v), ia G (ad 0) 29 (fN s), ia G (ad 11) 29 (fN t)]) (wr := [ob x 7 (rf ad v), ia G (ad 0) 29 (fN s), ia G (ad 11) 29 (fN t)]) [] [0, 1, 2] [0, 1, 2] ⟨rfl, rfl, rfl, fun _ => rfl⟩ rfl rfl ⟨Nat.le_refl _, Nat.le_refl _⟩ dX7_stands_6 rfl (fun r6 u6 hw6 => ?_)
  try dsimp only at hw6
  rcases hw6 with ⟨lkj, hlkl, hlkh, rfl, rfl⟩ | ⟨hw6, rfl⟩
  · skip
    refine zn_if_ne (tgt := 14) hX dX7_stands_9 (by decide) (by omega) (fun _ => ?_) (fun c9 => absurd c9 (by omega))
    refine z_aload_n hX 0 dX7_stands_14 rfl ?_
    refine z_callVv (st := []) hX (c_X7_asides _ G x ad v s t ) lb_X7_asides ml_X7_168 (fun (_u : Unit) => [ob x 7 (rf ad v), ia G (ad 0) 29 (fN s), ia G (ad 11) 29 (fN s)]) (wr := []) [0, 1, 2] [] [0, 1, 2] ⟨rfl, rfl, rfl, fun _ => rfl⟩ 0 rfl rfl rfl rfl ⟨Nat.le_refl _, Nat.le_refl _⟩ dX7_stands_15 rfl (fun  u15 hw15 => ?_)
    refine z_aload_n hX 0 dX7_stands_18 rfl ?_
    refine z_get (v := .ref (ad 0)) hX fX7 0 0 rfl rfl (Nat.le_of_ble_eq_true rfl) fl_X7_7 rfl dX7_stands_19 ?_
    refine z_iconst (v := nI 2) hX dX7_stands_22 (by decide) ?_
    refine z_iload_n hX 1 dX7_stands_23 rfl ?_
    refine z_iast (ws' := [ob x 7 (rf ad v), ia G (ad 0) 29 (fN (va_up s 2 lkj)), ia G (ad 11) 29 (fN s)]) hX 1 (j := 2) rfl (by omega) (by decide) (updN _ _ _) rfl dX7_stands_24 ?_
    refine z_aload_n hX 0 dX7_stands_25 rfl ?_
    refine z_callVi (st := []) hX (c_X7_holeFirst _ G x ad v (va_up s 2 lkj) s (WF_list h0 (by omega))) lb_X7_holeFirst ml_X7_179 (fun (_u : nst) => [ob x 7 (rf ad _u), ia G (ad 0) 29 (fN s), ia G (ad 11) 29 (fN s)]) (wr := []) [0, 1, 2] [] [0, 1, 2] ⟨rfl, rfl, rfl, fun _ => rfl⟩ 0 rfl rfl rfl rfl ⟨Nat.le_refl _, Nat.le_refl _⟩ dX7_stands_26 rfl (fun r26 u26 hw26 => ?_)
    obtain ⟨v2_1, rfl⟩ : ∃ z9, z9 = u26 := ⟨_, rfl⟩
    exact hR _ (v2_1, s) _ _ ⟨by unfold spStands; rw [if_pos (inb_t (by omega) (by omega) (by omega)), gN_nI (by omega)]; exact hw26.1, hw26.2⟩ dX7_stands_29 rfl
  · have hb_lk : inb lk 0 63 = false := hw6
    refine zn_if_ne (tgt := 14) hX dX7_stands_9 (by decide) (by omega) (fun c9 => absurd c9 (by omega)) (fun _ => ?_)
    refine z_iconst (v := (-1)) hX dX7_stands_12 (by decide) ?_
    exact hR _ (v, t) _ _ ⟨by unfold spStands; rw [if_neg (by simp [hb_lk])], rfl, rfl, rfl, rfl⟩ dX7_stands_13 rfl
set_option maxRecDepth 100000 in
set_option maxHeartbeats 4000000 in
theorem c_X7_first (l : Launch) (G : zG) (x : Nat) (ad : Nat → Nat) (v : Nat → Nat) (s : nst) (t : nst) (p : Int32) (h0 : WF 9999 0 s) : zMi l G yX7_first cX7_first 4 .int 4 0 0 88 [.ref x, .int p] [ob x 7 (rf ad v), ia G (ad 0) 29 (fN s), ia G (ad 11) 29 (fN t)] (fun (r : Int32) (_u : nst × nst) => r = spFirst s p ∧ _u.1 3 = v 3 ∧ _u.1 10 = v 10 ∧ _u.1 17 = v 17 ∧ _u.1 18 = v 18) (fun (_u : nst × nst) => [ob x 7 (rf ad _u.1), ia G (ad 0) 29 (fN s), ia G (ad 11) 29 (fN _u.2)]) := by
  refine zMi.of (by decide) rfl (fun X A H0 hX hXl hR => ?_)
  show Z (X, G, A, H0, 4) 0 0 [ob x 7 (rf ad v), ia G (ad 0) 29 (fN s), ia G (ad 11) 29 (fN t)] 0 [(0, .ref x), (1, .int p)] []
  subst hXl
  have z0 := h0.1
  have z1 := h0.2.1
  have z2 := h0.2.2.1
  have z3 := h0.2.2.2.1
  refine z_aload_n hX 0 dX7_first_0 rfl ?_
  refine z_iload_n hX 1 dX7_first_1 rfl ?_
  refine z_callVi (st := []) hX (c_X7_isPerson _ G x ad v s p (by omega)) lb_X7_isPerson ml_X7_99 (fun (_u : Unit) => [ob x 7 (rf ad v), ia G (ad 0) 29 (fN s), ia G (ad 11) 29 (fN t)]) (wr := [ia G (ad 11) 29 (fN t)]) [0, 1] [2] [1, 2, 0] ⟨rfl, rfl, rfl, fun _ => rfl⟩ 0 rfl rfl rfl rfl ⟨Nat.le_refl _, Nat.le_refl _⟩ dX7_first_2 rfl (fun r2 u2 hw2 => ?_)
  try dsimp only at hw2
  rcases hw2 with ⟨pj, hph, rfl, rfl⟩ | ⟨hw2, rfl⟩
  · skip
    refine zn_if_ne (tgt := 10) hX dX7_first_5 (by decide) (by omega) (fun _ => ?_) (fun c5 => absurd c5 (by omega))
    refine z_aload_n hX 0 dX7_first_10 rfl ?_
    refine z_callVv (st := []) hX (c_X7_asides _ G x ad v s t ) lb_X7_asides ml_X7_168 (fun (_u : Unit) => [ob x 7 (rf ad v), ia G (ad 0) 29 (fN s), ia G (ad 11) 29 (fN s)]) (wr := []) [0, 1, 2] [] [0, 1, 2] ⟨rfl, rfl, rfl, fun _ => rfl⟩ 0 rfl rfl rfl rfl ⟨Nat.le_refl _, Nat.le_refl _⟩ dX7_first_11 rfl (fun  u11 hw11 => ?_)
    refine z_bipush (v := l4 0) hX dX7_first_14 (by decide) ?_
    refine z_istore_n (L' := [(2, .int (l4 0)), (0, .ref x), (1, .int (nI pj))]) hX dX7_first_16 (Nat.le_of_ble_eq_true rfl) rfl ?_
    refine z_iconst (v := nI 1) hX dX7_first_17 (by decide) ?_
    refine z_istore_n (L' := [(3, .int (nI 1)), (2, .int (l4 0)), (0, .ref x), (1, .int (nI pj))]) hX dX7_first_18 (Nat.le_of_ble_eq_true rfl) rfl ?_
    have lp19 : ∀ (n19 : Nat) (d : Nat) (q : Nat) (f : Nat), (60 + 1 ≤ d + n19) → (d ≤ 60) → (q ≤ 100) → ((q = 0 → first1 s pj (60 - d) d = first1 s pj 60 0) ∧ (q ≠ 0 → l4 q = first1 s pj 60 0)) → Z (X, G, A, H0, 4) 0 0 [ob x 7 (rf ad (va_up v 1 f)), ia G (ad 0) 29 (fN (goN d s)), ia G (ad 11) 29 (fN s)] 19 [(0, .ref x), (1, .int (nI pj)), (2, .int (l4 q)), (3, .int (nI (d + 1)))] [] := by
      intro n19
      induction n19 with
      | zero =>
        intro d q f hn hd hq hf
        exfalso
        omega
      | succ n19 ih19 =>
        intro d q f hn hd hq hf
        have q5 := goFall_lt (goN_WF h0 d).1
        refine z_iload_n hX 3 dX7_first_19 rfl ?_
        refine z_bipush (v := nI 61) hX dX7_first_20 (by decide) ?_
        refine zn_icmp_ge (tgt := 60) hX dX7_first_22 (by decide) (by omega) (by omega) (fun c22 => ?_) (fun c22 => ?_)
        · skip
          refine z_aload_n hX 0 dX7_first_60 rfl ?_
          refine z_callVv (st := []) hX (c_X7_backs _ G x ad (va_up v 1 f) (goN d s) s ) lb_X7_backs ml_X7_174 (fun (_u : Unit) => [ob x 7 (rf ad (va_up v 1 f)), ia G (ad 0) 29 (fN s), ia G (ad 11) 29 (fN s)]) (wr := []) [0, 1, 2] [] [0, 1, 2] ⟨rfl, rfl, rfl, fun _ => rfl⟩ 0 rfl rfl rfl rfl ⟨Nat.le_refl _, Nat.le_refl _⟩ dX7_first_61 rfl (fun  u61 hw61 => ?_)
          refine z_iload_n hX 2 dX7_first_64 rfl ?_
          have e8 : l4 q = first1 s pj 60 0 := by
            rcases Nat.eq_zero_or_pos q with e9 | e9
            · first | exact absurd e9 c28 | (rw [← hf.1 e9, show 60 - d = 0 by omega, e9]; rfl)
            · exact hf.2 (by omega)
          exact hR _ (va_up v 1 f, s) _ _ ⟨by unfold spFirst; rw [if_pos (inb_t (by omega) (by omega) (by omega)), gN_nI (by omega)]; exact e8, rfl, rfl, rfl, rfl⟩ dX7_first_65 rfl
        · skip
          refine z_iload_n hX 2 dX7_first_25 rfl ?_
          refine z_bipush (v := (-4)) hX dX7_first_26 (by decide) ?_
          refine z_icmp_ne (tgt := 60) hX dX7_first_28 (by decide) (fun c28 => ?_) (fun c28 => ?_)
          · rw [l4_eq hq] at c28
            refine z_aload_n hX 0 dX7_first_60 rfl ?_
            refine z_callVv (st := []) hX (c_X7_backs _ G x ad (va_up v 1 f) (goN d s) s ) lb_X7_backs ml_X7_174 (fun (_u : Unit) => [ob x 7 (rf ad (va_up v 1 f)), ia G (ad 0) 29 (fN s), ia G (ad 11) 29 (fN s)]) (wr := []) [0, 1, 2] [] [0, 1, 2] ⟨rfl, rfl, rfl, fun _ => rfl⟩ 0 rfl rfl rfl rfl ⟨Nat.le_refl _, Nat.le_refl _⟩ dX7_first_61 rfl (fun  u61 hw61 => ?_)
            refine z_iload_n hX 2 dX7_first_64 rfl ?_
            have e8 : l4 q = first1 s pj 60 0 := by
              rcases Nat.eq_zero_or_pos q with e9 | e9
              · first | exact absurd e9 c28 | (rw [← hf.1 e9, show 60 - d = 0 by omega, e9]; rfl)
              · exact hf.2 (by omega)
            exact hR _ (va_up v 1 f, s) _ _ ⟨by unfold spFirst; rw [if_pos (inb_t (by omega) (by omega) (by omega)), gN_nI (by omega)]; exact e8, rfl, rfl, rfl, rfl⟩ dX7_first_65 rfl
          · rw [l4_eq hq] at c28
            refine z_aload_n hX 0 dX7_first_31 rfl ?_
            refine z_callVv (st := []) hX (c_X7_goesBy _ G x ad (va_up v 1 f) (goN d s) (9999 + d) (goN_WF h0 d) (by omega)) lb_X7_goesBy ml_X7_83 (fun (_u : Unit) => [ob x 7 (rf ad (va_up (va_up v 1 f) 1 (goFall (goN d s)))), ia G (ad 0) 29 (fN (goBy (goN d s))), ia G (ad 11) 29 (fN s)]) (wr := [ia G (ad 11) 29 (fN s)]) [0, 1] [2] [1, 2, 0] ⟨rfl, rfl, rfl, fun _ => rfl⟩ 0 rfl rfl rfl rfl ⟨Nat.le_refl _, Nat.le_refl _⟩ dX7_first_32 rfl (fun  u32 hw32 => ?_)
            refine z_aload_n hX 0 dX7_first_35 rfl ?_
            refine z_get (v := .int (nI (goFall (goN d s)))) hX fX7 0 1 rfl rfl (Nat.le_of_ble_eq_true rfl) fl_X7_61 rfl dX7_first_36 ?_
            refine z_iload_n hX 1 dX7_first_39 rfl ?_
            refine z_ishr (v := (nI ((goFall (goN d s)) / 2 ^ pj))) hX dX7_first_40 (shr_nI (by omega) (by omega)) ?_
            refine z_iconst (v := nI 1) hX dX7_first_41 (by decide) ?_
            refine z_iand (v := (nI (((goFall (goN d s)) / 2 ^ pj) % 2))) hX dX7_first_42 (and1_nI _) ?_
            refine z_iconst (v := nI 1) hX dX7_first_43 (by decide) ?_
            refine zn_icmp_ne (tgt := 51) hX dX7_first_44 (by decide) (by omega) (by omega) (fun c44 => ?_) (fun c44 => ?_)
            · skip
              refine z_bipush (v := l4 0) hX dX7_first_51 (by decide) ?_
              refine z_istore_n (L' := [(2, .int (l4 0)), (0, .ref x), (1, .int (nI pj)), (3, .int (nI (d + 1)))]) hX dX7_first_53 (Nat.le_of_ble_eq_true rfl) rfl ?_
              refine z_iinc (v := (nI (d + 2))) (L' := [(3, .int (nI (d + 2))), (2, .int (l4 0)), (0, .ref x), (1, .int (nI pj))]) hX 3 dX7_first_54 rfl (nI_inc _) (Nat.le_of_ble_eq_true rfl) rfl ?_
              refine z_goto (tgt := 19) hX dX7_first_57 (by decide) ?_
              refine z_lsub [2, 3, 1, 0] rfl ?_
              exact ih19 (d + 1) 0 (goFall (goN d s)) (by omega) (by omega) (by omega) ⟨fun _ => (by rw [← hf.1 c28, show 60 - d = (60 - (d + 1)) + 1 by omega, first1, if_neg c44]), fun z9 => absurd rfl z9⟩
            · skip
              refine z_iload_n hX 3 dX7_first_47 rfl ?_
              refine z_goto (tgt := 53) hX dX7_first_48 (by decide) ?_
              refine z_istore_n (L' := [(2, .int (nI (d + 1))), (0, .ref x), (1, .int (nI pj)), (3, .int (nI (d + 1)))]) hX dX7_first_53 (Nat.le_of_ble_eq_true rfl) rfl ?_
              refine z_iinc (v := (nI (d + 2))) (L' := [(3, .int (nI (d + 2))), (2, .int (nI (d + 1))), (0, .ref x), (1, .int (nI pj))]) hX 3 dX7_first_54 rfl (nI_inc _) (Nat.le_of_ble_eq_true rfl) rfl ?_
              refine z_goto (tgt := 19) hX dX7_first_57 (by decide) ?_
              refine z_lsub [2, 3, 1, 0] rfl ?_
              exact ih19 (d + 1) (d + 1 + 1) (goFall (goN d s)) (by omega) (by omega) (by omega) ⟨fun z9 => absurd z9 (by omega), fun _ => (by rw [← hf.1 c28, show 60 - d = (59 - d) + 1 by omega, first1, if_pos c44]; rfl)⟩
    refine z_lsub [2, 3, 1, 0] rfl ?_
    exact lp19 61 0 0 (v 1) (by omega) (by omega) (by omega) ⟨fun _ => rfl, fun z9 => absurd rfl z9⟩
  · have hb_p : inb p 0 ((s 0 : Nat) - 1 : Int) = false := hw2
    refine zn_if_ne (tgt := 10) hX dX7_first_5 (by decide) (by omega) (fun c5 => absurd c5 (by omega)) (fun _ => ?_)
    refine z_iconst (v := (-1)) hX dX7_first_8 (by decide) ?_
    exact hR _ (v, t) _ _ ⟨by unfold spFirst; rw [if_neg (by simp [hb_p])], rfl, rfl, rfl, rfl⟩ dX7_first_9 rfl
