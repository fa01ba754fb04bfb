theorem lsB_ok (τ : nst) (m : Nat) : (lsB τ m).1 ≤ 1 ∧ (lsB τ m).2.1 ≤ m ∧ skp τ m (lsB τ m).2.1 = (lsB τ m).2.1 ∧ (lsB τ m).2.2 < 64 := by
  obtain ⟨a1, a2, a3, a4⟩ := hpS_ok τ m 4
  unfold lsB
  split
  · exact ⟨Nat.zero_le _, a2, a3, Nat.zero_lt_succ _⟩
  · split
    · rename_i c
      have hp := chr_lt (τ := τ) (m := m) (p := (hpS τ m 4).2.1) (by omega)
      obtain ⟨r1, r2, r3⟩ := ris_ok τ m 6 (skp τ m ((hpS τ m 4).2.1 + 1)) 0 (by omega) (skp_hi (Nat.le_refl _) (by omega)) (skp_id _ _ _) (by omega)
      split
      · exact ⟨Nat.zero_le _, r1, r2, Nat.zero_lt_succ _⟩
      · exact ⟨Nat.le_refl _, r1, r2, r3⟩
    · exact ⟨Nat.le_refl _, a2, a3, Nat.zero_lt_succ _⟩
theorem brS_up (s A st : nst) (L : Nat) : va_up (va_up (va_up (va_up (va_up (va_up (va_up (va_up (va_up (va_up (va_up s 0 0) 1 0) 2 0) 3 0) 4 0) 5 0) 2 L) 7 (st 0)) 8 (st 1)) 9 (st 2)) 10 (st 3) = brS s (1, 0, L, 0, A, st) := by
  funext i
  by_cases h : i ≤ 10
  · rcases (show i = 0 ∨ i = 1 ∨ i = 2 ∨ i = 3 ∨ i = 4 ∨ i = 5 ∨ i = 6 ∨ i = 7 ∨ i = 8 ∨ i = 9 ∨ i = 10 by omega) with rfl | rfl | rfl | rfl | rfl | rfl | rfl | rfl | rfl | rfl | rfl <;> simp [brS, va_up]
  · rw [up_ne (by omega), up_ne (by omega), up_ne (by omega), up_ne (by omega), up_ne (by omega), up_ne (by omega), up_ne (by omega), up_ne (by omega), up_ne (by omega), up_ne (by omega), up_ne (by omega)]
    unfold brS
    dsimp only
    rw [if_neg (by omega), if_neg (by omega), if_neg (by omega), if_neg (by omega), if_neg (by omega), if_neg (by omega), if_neg (by omega)]
theorem joinS_brS (s A st : nst) (L i : Nat) : joinS (brS s (1, 0, L, i, A, st)) (A (3 * i)) (A (3 * i + 1)) (A (3 * i + 2)) = brS s (1, 0, L, i + 1, A, st) := by
  funext j
  unfold joinS
  rw [brS_0]
  dsimp only
  by_cases e0 : j = 0
  · subst e0
    rw [up_eq, brS_0]
  · rw [up_ne e0]
    by_cases h : j ≤ 10
    · rw [up_ne (by omega), up_ne (by omega), up_ne (by omega)]
      unfold brS
      dsimp only
      rw [if_neg e0, if_neg e0]
      split
      · rfl
      · split
        · rfl
        · split
          · rfl
          · split
            · rfl
            · rw [if_pos (by omega), if_pos (by omega)]
    · have hb : ∀ n, brS s (1, 0, L, n, A, st) j = if j < 11 + 3 * n then A (j - 11) else s j := by
        intro n
        unfold brS
        dsimp only
        rw [if_neg (by omega), if_neg (by omega), if_neg (by omega), if_neg (by omega), if_neg (by omega), if_neg (by omega)]
      rw [hb]
      by_cases e1 : j = 11 + 3 * i
      · subst e1
        rw [up_ne (by omega), up_ne (by omega), up_eq, if_pos (by omega), show 11 + 3 * i - 11 = 3 * i by omega]
      · by_cases e2 : j = 12 + 3 * i
        · subst e2
          rw [up_ne (by omega), up_eq, if_pos (by omega), show 12 + 3 * i - 11 = 3 * i + 1 by omega]
        · by_cases e3 : j = 13 + 3 * i
          · subst e3
            rw [up_eq, if_pos (by omega), show 13 + 3 * i - 11 = 3 * i + 2 by omega]
          · rw [up_ne e3, up_ne e2, up_ne e1, hb]
            by_cases c : j < 11 + 3 * i
            · rw [if_pos c, if_pos (by omega)]
            · rw [if_neg c, if_neg (by omega)]
theorem brS_ext {s A A' st st' : nst} {L n a b : Nat} (hA : ∀ j, j < 3 * n → A j = A' j) (hs : ∀ j, j < 4 → st j = st' j) : ∀ j, brS s (a, b, L, n, A, st) j = brS s (1, 0, L, n, A', st') j := by
  intro j
  unfold brS
  dsimp only
  repeat' split
  · rfl
  · rfl
  · rfl
  · rfl
  · rfl
  · exact hs _ (by omega)
  · exact hA _ (by omega)
  · rfl
set_option maxRecDepth 100000 in
set_option maxHeartbeats 4000000 in
theorem c_X7_bridge (l : Launch) (G : zG) (x : Nat) (ad : Nat → Nat) (v : Nat → Nat) (s : nst) (tau : nst) (rs : nst) (A9 : nst) (h0 : ∀ j, j < (v 3) → 32 ≤ tau j ∧ tau j ≤ 126) (h1 : (v 3) ≤ 80) : zMi l G yX7_bridge cX7_bridge 3 .int 3 0 0 72 [.ref x] [ob x 7 (rf ad v), ia G (ad 0) 29 (fN s), ia G (ad 2) 80 (fN tau), ia G (ad 6) 4 (fN rs), ia G (ad 8) 18 (fN A9)] (fun (r : Int32) (_u : (Nat → Nat) × nst × nst) => r = spBridge tau (v 3) ∧ _u.1 3 = 0 ∧ _u.1 10 = cond (okBr tau (v 3)) (0) (v 10) ∧ _u.1 17 = v 17 ∧ _u.1 18 = v 18) (fun (_u : (Nat → Nat) × nst × nst) => [ob x 7 (rf ad _u.1), ia G (ad 0) 29 (fN (cond (okBr tau (v 3)) (brS s (brB tau (v 3))) (s))), ia G (ad 2) 80 (fN tau), ia G (ad 6) 4 (fN _u.2.1), ia G (ad 8) 18 (fN _u.2.2)]) := by
  refine zMi.of (by decide) rfl (fun X A H0 hX hXl hR => ?_)
  show Z (X, G, A, H0, 3) 0 0 [ob x 7 (rf ad v), ia G (ad 0) 29 (fN s), ia G (ad 2) 80 (fN tau), ia G (ad 6) 4 (fN rs), ia G (ad 8) 18 (fN A9)] 0 [(0, .ref x)] []
  subst hXl
  refine z_aload_n hX 0 dX7_bridge_0 rfl ?_
  refine z_iconst (v := nI 0) hX dX7_bridge_1 (by decide) ?_
  refine z_put (v := .int (nI 0)) (ws' := [ob x 7 (rf ad (va_up v 4 0)), ia G (ad 0) 29 (fN s), ia G (ad 2) 80 (fN tau), ia G (ad 6) 4 (fN rs), ia G (ad 8) 18 (fN A9)]) hX fX7 0 4 rfl rfl (Nat.le_of_ble_eq_true rfl) fl_X7_116 rfl rfl rfl rfl rfl dX7_bridge_2 ?_
  refine z_aload_n hX 0 dX7_bridge_5 rfl ?_
  refine z_iconst (v := nI 0) hX dX7_bridge_6 (by decide) ?_
  refine z_put (v := .int (nI 0)) (ws' := [ob x 7 (rf ad (va_up (va_up v 4 0) 5 0)), ia G (ad 0) 29 (fN s), ia G (ad 2) 80 (fN tau), ia G (ad 6) 4 (fN rs), ia G (ad 8) 18 (fN A9)]) hX fX7 0 5 rfl rfl (Nat.le_of_ble_eq_true rfl) fl_X7_119 rfl rfl rfl rfl rfl dX7_bridge_7 ?_
  refine z_aload_n hX 0 dX7_bridge_10 rfl ?_
  refine z_callVv (st := []) hX (c_X7_archesRead _ G x ad v tau rs h0 h1) lb_X7_archesRead ml_X7_145 (fun (_u : Nat × Nat × Nat × nst) => [ob x 7 (rf ad (va_up (va_up (va_up v 7 _u.2.2.1) 4 _u.1) 5 _u.2.1)), ia G (ad 0) 29 (fN s), ia G (ad 2) 80 (fN tau), ia G (ad 6) 4 (fN _u.2.2.2), ia G (ad 8) 18 (fN A9)]) (wr := [ia G (ad 0) 29 (fN s), ia G (ad 8) 18 (fN A9)]) [0, 2, 3] [1, 4] [2, 0, 3, 4, 1] ⟨rfl, rfl, rfl, fun _ => rfl⟩ 0 rfl rfl rfl rfl ⟨Nat.le_refl _, Nat.le_refl _⟩ dX7_bridge_11 rfl (fun  u11 hw11 => ?_)
  obtain ⟨p2_1, f2_2, L2_3, rs2_4⟩ := u11
  dsimp only at hw11
  obtain ⟨l0, l1, l2, l3⟩ := lsB_ok tau (v 3)
  have eB := brB_ls tau (v 3)
  have k2 := chr_hi h0 (skp tau (v 3) ((lsB tau (v 3)).2.1))
  rcases hw11 with ⟨f1, rfl, rfl⟩ | ⟨f1, rfl, rfl, rfl, hrs⟩
  · rw [if_pos f1] at eB
    refine z_iconst (v := nI 0) hX dX7_bridge_14 (by decide) ?_
    refine z_istore_n (L' := [(1, .int (nI 0)), (0, .ref x)]) hX dX7_bridge_15 (Nat.le_of_ble_eq_true rfl) rfl ?_
    refine z_aload_n hX 1 dX7_bridge_16 rfl ?_
    refine z_get (v := .int (nI 1)) hX fX7 0 5 rfl rfl (Nat.le_of_ble_eq_true rfl) fl_X7_119 rfl dX7_bridge_17 ?_
    refine zn_if_ne (tgt := 47) hX dX7_bridge_20 (by decide) (by omega) (fun _ => ?_) (fun c20 => absurd c20 (by omega))
    refine z_aload_n hX 1 dX7_bridge_47 rfl ?_
    refine z_aload_n hX 1 dX7_bridge_48 rfl ?_
    refine z_get (v := .int (nI 1)) hX fX7 0 5 rfl rfl (Nat.le_of_ble_eq_true rfl) fl_X7_119 rfl dX7_bridge_49 ?_
    refine zn_if_ne (tgt := 62) hX dX7_bridge_52 (by decide) (by omega) (fun _ => ?_) (fun c52 => absurd c52 (by omega))
    have eF : (brB tau (v 3)).1 = 0 ∧ (brB tau (v 3)).2.1 = (lsB tau (v 3)).2.1 := by rw [eB]; exact ⟨rfl, rfl⟩
    refine z_iconst (v := nI 1) hX dX7_bridge_62 (by decide) ?_
    refine z_goto (tgt := 67) hX dX7_bridge_63 (by decide) ?_
    refine z_put (v := .int (nI 1)) (ws' := [ob x 7 (rf ad (va_up (va_up (va_up v 7 L2_3) 4 ((lsB tau (v 3)).2.1)) 5 1)), ia G (ad 0) 29 (fN s), ia G (ad 2) 80 (fN tau), ia G (ad 6) 4 (fN rs2_4), ia G (ad 8) 18 (fN A9)]) hX fX7 0 5 rfl rfl (Nat.le_of_ble_eq_true rfl) fl_X7_119 rfl rfl rfl rfl rfl dX7_bridge_67 ?_
    refine z_aload_n hX 1 dX7_bridge_70 rfl ?_
    refine z_iconst (v := nI 0) hX dX7_bridge_71 (by decide) ?_
    refine z_put (v := .int (nI 0)) (ws' := [ob x 7 (rf ad (va_up (va_up (va_up (va_up v 3 0) 7 L2_3) 4 ((lsB tau (v 3)).2.1)) 5 1)), ia G (ad 0) 29 (fN s), ia G (ad 2) 80 (fN tau), ia G (ad 6) 4 (fN rs2_4), ia G (ad 8) 18 (fN A9)]) hX fX7 0 3 rfl rfl (Nat.le_of_ble_eq_true rfl) fl_X7_113 rfl rfl rfl rfl rfl dX7_bridge_72 ?_
    refine z_aload_n hX 1 dX7_bridge_75 rfl ?_
    refine z_get (v := .int (nI 1)) hX fX7 0 5 rfl rfl (Nat.le_of_ble_eq_true rfl) fl_X7_119 rfl dX7_bridge_76 ?_
    refine zn_if_eq (tgt := 90) hX dX7_bridge_79 (by decide) (by omega) (fun c79 => absurd c79 (by omega)) (fun _ => ?_)
    refine z_bipush (v := (-20)) hX dX7_bridge_82 (by decide) ?_
    refine z_aload_n hX 1 dX7_bridge_84 rfl ?_
    refine z_get (v := .int (nI ((lsB tau (v 3)).2.1))) hX fX7 0 4 rfl rfl (Nat.le_of_ble_eq_true rfl) fl_X7_116 rfl dX7_bridge_85 ?_
    refine z_isub (v := (-20 - nI ((lsB tau (v 3)).2.1))) hX dX7_bridge_88 rfl ?_
    have e0 : okBr tau (v 3) = false := decide_eq_false (by rw [eF.1]; decide)
    rw [e0] at hR
    exact hR _ ((va_up (va_up (va_up (va_up v 3 0) 7 L2_3) 4 ((lsB tau (v 3)).2.1)) 5 1), rs2_4, A9) _ _ ⟨(by unfold spBridge; rw [if_neg (by rw [e0]; decide), eF.2]), rfl, rfl, rfl, rfl⟩ dX7_bridge_89 rfl
  · rw [if_neg (by omega)] at eB
    refine z_iconst (v := nI 0) hX dX7_bridge_14 (by decide) ?_
    refine z_istore_n (L' := [(1, .int (nI 0)), (0, .ref x)]) hX dX7_bridge_15 (Nat.le_of_ble_eq_true rfl) rfl ?_
    refine z_aload_n hX 1 dX7_bridge_16 rfl ?_
    refine z_get (v := .int (nI 0)) hX fX7 0 5 rfl rfl (Nat.le_of_ble_eq_true rfl) fl_X7_119 rfl dX7_bridge_17 ?_
    refine zn_if_ne (tgt := 47) hX dX7_bridge_20 (by decide) (by omega) (fun c20 => absurd c20 (by omega)) (fun _ => ?_)
    refine z_aload_n hX 1 dX7_bridge_23 rfl ?_
    refine z_callVi (st := []) hX (c_X7_here _ G x ad (va_up v 7 ((lsB tau (v 3)).2.2)) tau ((lsB tau (v 3)).2.1) 0 h0 h1 (by omega)) lb_X7_here ml_X7_123 (fun (_u : Unit) => [ob x 7 (rf ad (va_up (va_up (va_up v 7 ((lsB tau (v 3)).2.2)) 4 (skp tau (v 3) ((lsB tau (v 3)).2.1))) 5 0)), ia G (ad 0) 29 (fN s), ia G (ad 2) 80 (fN tau), ia G (ad 6) 4 (fN rs2_4), ia G (ad 8) 18 (fN A9)]) (wr := [ia G (ad 0) 29 (fN s), ia G (ad 6) 4 (fN rs2_4), ia G (ad 8) 18 (fN A9)]) [0, 2] [1, 3, 4] [3, 0, 4, 1, 2] ⟨rfl, rfl, rfl, fun _ => rfl⟩ 0 rfl rfl rfl rfl ⟨Nat.le_refl _, Nat.le_refl _⟩ dX7_bridge_24 rfl (fun r24 u24 hw24 => ?_)
    subst hw24
    show Z (X, G, A, H0, 3) _ _ [ob x 7 (rf ad (va_up (va_up (va_up v 7 ((lsB tau (v 3)).2.2)) 4 (skp tau (v 3) ((lsB tau (v 3)).2.1))) 5 0)), ia G (ad 0) 29 (fN s), ia G (ad 2) 80 (fN tau), ia G (ad 6) 4 (fN rs2_4), ia G (ad 8) 18 (fN A9)] 27 [(1, .int (nI 0)), (0, .ref x)] [.int (nI (chr tau (v 3) (skp tau (v 3) ((lsB tau (v 3)).2.1))))]
    refine z_bipush (v := nI 59) hX dX7_bridge_27 (by decide) ?_
    refine zn_icmp_ne (tgt := 47) hX dX7_bridge_29 (by decide) (by omega) (by omega) (fun c29 => ?_) (fun c29 => ?_)
    · skip
      refine z_aload_n hX 1 dX7_bridge_47 rfl ?_
      refine z_aload_n hX 1 dX7_bridge_48 rfl ?_
      refine z_get (v := .int (nI 0)) hX fX7 0 5 rfl rfl (Nat.le_of_ble_eq_true rfl) fl_X7_119 rfl dX7_bridge_49 ?_
      refine zn_if_ne (tgt := 62) hX dX7_bridge_52 (by decide) (by omega) (fun c52 => absurd c52 (by omega)) (fun _ => ?_)
      refine z_aload_n hX 1 dX7_bridge_55 rfl ?_
      refine z_callVi (st := [.ref x]) hX (c_X7_here _ G x ad (va_up v 7 ((lsB tau (v 3)).2.2)) tau (skp tau (v 3) ((lsB tau (v 3)).2.1)) 0 h0 h1 (by omega)) lb_X7_here ml_X7_123 (fun (_u : Unit) => [ob x 7 (rf ad (va_up (va_up (va_up v 7 ((lsB tau (v 3)).2.2)) 4 (skp tau (v 3) (skp tau (v 3) ((lsB tau (v 3)).2.1)))) 5 0)), ia G (ad 0) 29 (fN s), ia G (ad 2) 80 (fN tau), ia G (ad 6) 4 (fN rs2_4), ia G (ad 8) 18 (fN A9)]) (wr := [ia G (ad 0) 29 (fN s), ia G (ad 6) 4 (fN rs2_4), ia G (ad 8) 18 (fN A9)]) [0, 2] [1, 3, 4] [3, 0, 4, 1, 2] ⟨rfl, rfl, rfl, fun _ => rfl⟩ 0 rfl rfl rfl rfl ⟨Nat.le_refl _, Nat.le_refl _⟩ dX7_bridge_56 rfl (fun r56 u56 hw56 => ?_)
      subst hw56
      show Z (X, G, A, H0, 3) _ _ [ob x 7 (rf ad (va_up (va_up (va_up v 7 ((lsB tau (v 3)).2.2)) 4 (skp tau (v 3) (skp tau (v 3) ((lsB tau (v 3)).2.1)))) 5 0)), ia G (ad 0) 29 (fN s), ia G (ad 2) 80 (fN tau), ia G (ad 6) 4 (fN rs2_4), ia G (ad 8) 18 (fN A9)] 59 [(1, .int (nI 0)), (0, .ref x)] [.int (nI (chr tau (v 3) (skp tau (v 3) (skp tau (v 3) ((lsB tau (v 3)).2.1))))), .ref x]
      have k9 := chr_hi h0 (skp tau (v 3) (skp tau (v 3) ((lsB tau (v 3)).2.1)))
      refine zn_if_eq (tgt := 66) hX dX7_bridge_59 (by decide) (by omega) (fun c59 => ?_) (fun c59 => ?_)
      · skip
        rw [l2] at c29 c59
        rw [l2] at c59
        rw [cb_n c29, fb_1 c59] at eB
        refine z_iconst (v := nI 0) hX dX7_bridge_66 (by decide) ?_
        refine z_put (v := .int (nI 0)) (ws' := [ob x 7 (rf ad (va_up (va_up (va_up v 7 ((lsB tau (v 3)).2.2)) 4 (skp tau (v 3) (skp tau (v 3) ((lsB tau (v 3)).2.1)))) 5 0)), ia G (ad 0) 29 (fN s), ia G (ad 2) 80 (fN tau), ia G (ad 6) 4 (fN rs2_4), ia G (ad 8) 18 (fN A9)]) hX fX7 0 5 rfl rfl (Nat.le_of_ble_eq_true rfl) fl_X7_119 rfl rfl rfl rfl rfl dX7_bridge_67 ?_
        refine z_aload_n hX 1 dX7_bridge_70 rfl ?_
        refine z_iconst (v := nI 0) hX dX7_bridge_71 (by decide) ?_
        refine z_put (v := .int (nI 0)) (ws' := [ob x 7 (rf ad (va_up (va_up (va_up (va_up v 3 0) 7 ((lsB tau (v 3)).2.2)) 4 (skp tau (v 3) (skp tau (v 3) ((lsB tau (v 3)).2.1)))) 5 0)), ia G (ad 0) 29 (fN s), ia G (ad 2) 80 (fN tau), ia G (ad 6) 4 (fN rs2_4), ia G (ad 8) 18 (fN A9)]) hX fX7 0 3 rfl rfl (Nat.le_of_ble_eq_true rfl) fl_X7_113 rfl rfl rfl rfl rfl dX7_bridge_72 ?_
        refine z_aload_n hX 1 dX7_bridge_75 rfl ?_
        refine z_get (v := .int (nI 0)) hX fX7 0 5 rfl rfl (Nat.le_of_ble_eq_true rfl) fl_X7_119 rfl dX7_bridge_76 ?_
        refine zn_if_eq (tgt := 90) hX dX7_bridge_79 (by decide) (by omega) (fun _ => ?_) (fun c79 => absurd c79 (by omega))
        refine z_iconst (v := nI 0) hX dX7_bridge_90 (by decide) ?_
        refine z_istore_n (L' := [(2, .int (nI 0)), (1, .int (nI 0)), (0, .ref x)]) hX dX7_bridge_91 (Nat.le_of_ble_eq_true rfl) rfl ?_
        refine z_iload_n hX 0 dX7_bridge_92 rfl ?_
        refine z_bipush (v := nI 6) hX dX7_bridge_93 (by decide) ?_
        refine zn_icmp_ge (tgt := 111) hX dX7_bridge_95 (by decide) (by omega) (by omega) (fun c95 => absurd c95 (by omega)) (fun _ => ?_)
        refine z_aload_n hX 2 dX7_bridge_98 rfl ?_
        refine z_get (v := .ref (ad 0)) hX fX7 0 0 rfl rfl (Nat.le_of_ble_eq_true rfl) fl_X7_7 rfl dX7_bridge_99 ?_
        refine z_iload_n hX 0 dX7_bridge_102 rfl ?_
        refine z_iconst (v := nI 0) hX dX7_bridge_103 (by decide) ?_
        refine z_iast (ws' := [ob x 7 (rf ad (va_up (va_up (va_up (va_up v 3 0) 7 ((lsB tau (v 3)).2.2)) 4 (skp tau (v 3) (skp tau (v 3) ((lsB tau (v 3)).2.1)))) 5 0)), ia G (ad 0) 29 (fN (va_up s 0 0)), ia G (ad 2) 80 (fN tau), ia G (ad 6) 4 (fN rs2_4), ia G (ad 8) 18 (fN A9)]) hX 1 (j := 0) rfl (by omega) (by decide) (updN _ _ _) rfl dX7_bridge_104 ?_
        refine z_iinc (v := (nI 1)) (L' := [(2, .int (nI 1)), (1, .int (nI 0)), (0, .ref x)]) hX 0 dX7_bridge_105 rfl (by decide) (Nat.le_of_ble_eq_true rfl) rfl ?_
        refine z_goto (tgt := 92) hX dX7_bridge_108 (by decide) ?_
        refine z_iload_n hX 0 dX7_bridge_92 rfl ?_
        refine z_bipush (v := nI 6) hX dX7_bridge_93 (by decide) ?_
        refine zn_icmp_ge (tgt := 111) hX dX7_bridge_95 (by decide) (by omega) (by omega) (fun c95 => absurd c95 (by omega)) (fun _ => ?_)
        refine z_aload_n hX 2 dX7_bridge_98 rfl ?_
        refine z_get (v := .ref (ad 0)) hX fX7 0 0 rfl rfl (Nat.le_of_ble_eq_true rfl) fl_X7_7 rfl dX7_bridge_99 ?_
        refine z_iload_n hX 0 dX7_bridge_102 rfl ?_
        refine z_iconst (v := nI 0) hX dX7_bridge_103 (by decide) ?_
        refine z_iast (ws' := [ob x 7 (rf ad (va_up (va_up (va_up (va_up v 3 0) 7 ((lsB tau (v 3)).2.2)) 4 (skp tau (v 3) (skp tau (v 3) ((lsB tau (v 3)).2.1)))) 5 0)), ia G (ad 0) 29 (fN (va_up (va_up s 0 0) 1 0)), ia G (ad 2) 80 (fN tau), ia G (ad 6) 4 (fN rs2_4), ia G (ad 8) 18 (fN A9)]) hX 1 (j := 1) rfl (by omega) (by decide) (updN _ _ _) rfl dX7_bridge_104 ?_
        refine z_iinc (v := (nI 2)) (L' := [(2, .int (nI 2)), (1, .int (nI 0)), (0, .ref x)]) hX 0 dX7_bridge_105 rfl (by decide) (Nat.le_of_ble_eq_true rfl) rfl ?_
        refine z_goto (tgt := 92) hX dX7_bridge_108 (by decide) ?_
        refine z_iload_n hX 0 dX7_bridge_92 rfl ?_
        refine z_bipush (v := nI 6) hX dX7_bridge_93 (by decide) ?_
        refine zn_icmp_ge (tgt := 111) hX dX7_bridge_95 (by decide) (by omega) (by omega) (fun c95 => absurd c95 (by omega)) (fun _ => ?_)
        refine z_aload_n hX 2 dX7_bridge_98 rfl ?_
        refine z_get (v := .ref (ad 0)) hX fX7 0 0 rfl rfl (Nat.le_of_ble_eq_true rfl) fl_X7_7 rfl dX7_bridge_99 ?_
        refine z_iload_n hX 0 dX7_bridge_102 rfl ?_
        refine z_iconst (v := nI 0) hX dX7_bridge_103 (by decide) ?_
        refine z_iast (ws' := [ob x 7 (rf ad (va_up (va_up (va_up (va_up v 3 0) 7 ((lsB tau (v 3)).2.2)) 4 (skp tau (v 3) (skp tau (v 3) ((lsB tau (v 3)).2.1)))) 5 0)), ia G (ad 0) 29 (fN (va_up (va_up (va_up s 0 0) 1 0) 2 0)), ia G (ad 2) 80 (fN tau), ia G (ad 6) 4 (fN rs2_4), ia G (ad 8) 18 (fN A9)]) hX 1 (j := 2) rfl (by omega) (by decide) (updN _ _ _) rfl dX7_bridge_104 ?_
        refine z_iinc (v := (nI 3)) (L' := [(2, .int (nI 3)), (1, .int (nI 0)), (0, .ref x)]) hX 0 dX7_bridge_105 rfl (by decide) (Nat.le_of_ble_eq_true rfl) rfl ?_
        refine z_goto (tgt := 92) hX dX7_bridge_108 (by decide) ?_
        refine z_iload_n hX 0 dX7_bridge_92 rfl ?_
        refine z_bipush (v := nI 6) hX dX7_bridge_93 (by decide) ?_
        refine zn_icmp_ge (tgt := 111) hX dX7_bridge_95 (by decide) (by omega) (by omega) (fun c95 => absurd c95 (by omega)) (fun _ => ?_)
        refine z_aload_n hX 2 dX7_bridge_98 rfl ?_
        refine z_get (v := .ref (ad 0)) hX fX7 0 0 rfl rfl (Nat.le_of_ble_eq_true rfl) fl_X7_7 rfl dX7_bridge_99 ?_
        refine z_iload_n hX 0 dX7_bridge_102 rfl ?_
        refine z_iconst (v := nI 0) hX dX7_bridge_103 (by decide) ?_
        refine z_iast (ws' := [ob x 7 (rf ad (va_up (va_up (va_up (va_up v 3 0) 7 ((lsB tau (v 3)).2.2)) 4 (skp tau (v 3) (skp tau (v 3) ((lsB tau (v 3)).2.1)))) 5 0)), ia G (ad 0) 29 (fN (va_up (va_up (va_up (va_up s 0 0) 1 0) 2 0) 3 0)), ia G (ad 2) 80 (fN tau), ia G (ad 6) 4 (fN rs2_4), ia G (ad 8) 18 (fN A9)]) hX 1 (j := 3) rfl (by omega) (by decide) (updN _ _ _) rfl dX7_bridge_104 ?_
        refine z_iinc (v := (nI 4)) (L' := [(2, .int (nI 4)), (1, .int (nI 0)), (0, .ref x)]) hX 0 dX7_bridge_105 rfl (by decide) (Nat.le_of_ble_eq_true rfl) rfl ?_
        refine z_goto (tgt := 92) hX dX7_bridge_108 (by decide) ?_
        refine z_iload_n hX 0 dX7_bridge_92 rfl ?_
        refine z_bipush (v := nI 6) hX dX7_bridge_93 (by decide) ?_
        refine zn_icmp_ge (tgt := 111) hX dX7_bridge_95 (by decide) (by omega) (by omega) (fun c95 => absurd c95 (by omega)) (fun _ => ?_)
        refine z_aload_n hX 2 dX7_bridge_98 rfl ?_
        refine z_get (v := .ref (ad 0)) hX fX7 0 0 rfl rfl (Nat.le_of_ble_eq_true rfl) fl_X7_7 rfl dX7_bridge_99 ?_
        refine z_iload_n hX 0 dX7_bridge_102 rfl ?_
        refine z_iconst (v := nI 0) hX dX7_bridge_103 (by decide) ?_
        refine z_iast (ws' := [ob x 7 (rf ad (va_up (va_up (va_up (va_up v 3 0) 7 ((lsB tau (v 3)).2.2)) 4 (skp tau (v 3) (skp tau (v 3) ((lsB tau (v 3)).2.1)))) 5 0)), ia G (ad 0) 29 (fN (va_up (va_up (va_up (va_up (va_up s 0 0) 1 0) 2 0) 3 0) 4 0)), ia G (ad 2) 80 (fN tau), ia G (ad 6) 4 (fN rs2_4), ia G (ad 8) 18 (fN A9)]) hX 1 (j := 4) rfl (by omega) (by decide) (updN _ _ _) rfl dX7_bridge_104 ?_
        refine z_iinc (v := (nI 5)) (L' := [(2, .int (nI 5)), (1, .int (nI 0)), (0, .ref x)]) hX 0 dX7_bridge_105 rfl (by decide) (Nat.le_of_ble_eq_true rfl) rfl ?_
        refine z_goto (tgt := 92) hX dX7_bridge_108 (by decide) ?_
        refine z_iload_n hX 0 dX7_bridge_92 rfl ?_
        refine z_bipush (v := nI 6) hX dX7_bridge_93 (by decide) ?_
        refine zn_icmp_ge (tgt := 111) hX dX7_bridge_95 (by decide) (by omega) (by omega) (fun c95 => absurd c95 (by omega)) (fun _ => ?_)
        refine z_aload_n hX 2 dX7_bridge_98 rfl ?_
        refine z_get (v := .ref (ad 0)) hX fX7 0 0 rfl rfl (Nat.le_of_ble_eq_true rfl) fl_X7_7 rfl dX7_bridge_99 ?_
        refine z_iload_n hX 0 dX7_bridge_102 rfl ?_
        refine z_iconst (v := nI 0) hX dX7_bridge_103 (by decide) ?_
        refine z_iast (ws' := [ob x 7 (rf ad (va_up (va_up (va_up (va_up v 3 0) 7 ((lsB tau (v 3)).2.2)) 4 (skp tau (v 3) (skp tau (v 3) ((lsB tau (v 3)).2.1)))) 5 0)), ia G (ad 0) 29 (fN (va_up (va_up (va_up (va_up (va_up (va_up s 0 0) 1 0) 2 0) 3 0) 4 0) 5 0)), ia G (ad 2) 80 (fN tau), ia G (ad 6) 4 (fN rs2_4), ia G (ad 8) 18 (fN A9)]) hX 1 (j := 5) rfl (by omega) (by decide) (updN _ _ _) rfl dX7_bridge_104 ?_
        refine z_iinc (v := (nI 6)) (L' := [(2, .int (nI 6)), (1, .int (nI 0)), (0, .ref x)]) hX 0 dX7_bridge_105 rfl (by decide) (Nat.le_of_ble_eq_true rfl) rfl ?_
        refine z_goto (tgt := 92) hX dX7_bridge_108 (by decide) ?_
        refine z_iload_n hX 0 dX7_bridge_92 rfl ?_
        refine z_bipush (v := nI 6) hX dX7_bridge_93 (by decide) ?_
        refine zn_icmp_ge (tgt := 111) hX dX7_bridge_95 (by decide) (by omega) (by omega) (fun _ => ?_) (fun c95 => absurd c95 (by omega))
        refine z_aload_n hX 2 dX7_bridge_111 rfl ?_
        refine z_get (v := .ref (ad 0)) hX fX7 0 0 rfl rfl (Nat.le_of_ble_eq_true rfl) fl_X7_7 rfl dX7_bridge_112 ?_
        refine z_iconst (v := nI 2) hX dX7_bridge_115 (by decide) ?_
        refine z_aload_n hX 2 dX7_bridge_116 rfl ?_
        refine z_get (v := .int (nI ((lsB tau (v 3)).2.2))) hX fX7 0 7 rfl rfl (Nat.le_of_ble_eq_true rfl) fl_X7_139 rfl dX7_bridge_117 ?_
        refine z_iast (ws' := [ob x 7 (rf ad (va_up (va_up (va_up (va_up v 3 0) 7 ((lsB tau (v 3)).2.2)) 4 (skp tau (v 3) (skp tau (v 3) ((lsB tau (v 3)).2.1)))) 5 0)), ia G (ad 0) 29 (fN (va_up (va_up (va_up (va_up (va_up (va_up (va_up s 0 0) 1 0) 2 0) 3 0) 4 0) 5 0) 2 ((lsB tau (v 3)).2.2))), ia G (ad 2) 80 (fN tau), ia G (ad 6) 4 (fN rs2_4), ia G (ad 8) 18 (fN A9)]) hX 1 (j := 2) rfl (by omega) (by decide) (updN _ _ _) rfl dX7_bridge_120 ?_
        refine z_aload_n hX 2 dX7_bridge_121 rfl ?_
        refine z_iconst (v := nI 0) hX dX7_bridge_122 (by decide) ?_
        refine z_put (v := .int (nI 0)) (ws' := [ob x 7 (rf ad (va_up (va_up (va_up (va_up (va_up v 3 0) 7 ((lsB tau (v 3)).2.2)) 10 0) 4 (skp tau (v 3) (skp tau (v 3) ((lsB tau (v 3)).2.1)))) 5 0)), ia G (ad 0) 29 (fN (va_up (va_up (va_up (va_up (va_up (va_up (va_up s 0 0) 1 0) 2 0) 3 0) 4 0) 5 0) 2 ((lsB tau (v 3)).2.2))), ia G (ad 2) 80 (fN tau), ia G (ad 6) 4 (fN rs2_4), ia G (ad 8) 18 (fN A9)]) hX fX7 0 10 rfl rfl (Nat.le_of_ble_eq_true rfl) fl_X7_86 rfl rfl rfl rfl rfl dX7_bridge_123 ?_
        refine z_iconst (v := nI 0) hX dX7_bridge_126 (by decide) ?_
        refine z_istore_n (L' := [(2, .int (nI 0)), (1, .int (nI 0)), (0, .ref x)]) hX dX7_bridge_127 (Nat.le_of_ble_eq_true rfl) rfl ?_
        refine z_iload_n hX 0 dX7_bridge_128 rfl ?_
        refine z_iconst (v := nI 4) hX dX7_bridge_129 (by decide) ?_
        refine zn_icmp_ge (tgt := 154) hX dX7_bridge_130 (by decide) (by omega) (by omega) (fun c130 => absurd c130 (by omega)) (fun _ => ?_)
        refine z_aload_n hX 2 dX7_bridge_133 rfl ?_
        refine z_get (v := .ref (ad 0)) hX fX7 0 0 rfl rfl (Nat.le_of_ble_eq_true rfl) fl_X7_7 rfl dX7_bridge_134 ?_
        refine z_bipush (v := nI 7) hX dX7_bridge_137 (by decide) ?_
        refine z_iload_n hX 0 dX7_bridge_139 rfl ?_
        refine z_iadd (v := (nI 7)) hX dX7_bridge_140 ((nI_add _ _).trans (congrArg nI (by omega))) ?_
        refine z_aload_n hX 2 dX7_bridge_141 rfl ?_
        refine z_get (v := .ref (ad 6)) hX fX7 0 6 rfl rfl (Nat.le_of_ble_eq_true rfl) fl_X7_16 rfl dX7_bridge_142 ?_
        refine z_iload_n hX 0 dX7_bridge_145 rfl ?_
        refine z_iald (v := (nI (rs2_4 0))) hX 3 (j := 0) rfl (by omega) (by decide) rfl dX7_bridge_146 ?_
        refine z_iast (ws' := [ob x 7 (rf ad (va_up (va_up (va_up (va_up (va_up v 3 0) 7 ((lsB tau (v 3)).2.2)) 10 0) 4 (skp tau (v 3) (skp tau (v 3) ((lsB tau (v 3)).2.1)))) 5 0)), ia G (ad 0) 29 (fN (va_up (va_up (va_up (va_up (va_up (va_up (va_up (va_up s 0 0) 1 0) 2 0) 3 0) 4 0) 5 0) 2 ((lsB tau (v 3)).2.2)) 7 (rs2_4 0))), ia G (ad 2) 80 (fN tau), ia G (ad 6) 4 (fN rs2_4), ia G (ad 8) 18 (fN A9)]) hX 1 (j := 7) rfl (by omega) (by decide) (updN _ _ _) rfl dX7_bridge_147 ?_
        refine z_iinc (v := (nI 1)) (L' := [(2, .int (nI 1)), (1, .int (nI 0)), (0, .ref x)]) hX 0 dX7_bridge_148 rfl (by decide) (Nat.le_of_ble_eq_true rfl) rfl ?_
        refine z_goto (tgt := 128) hX dX7_bridge_151 (by decide) ?_
        refine z_iload_n hX 0 dX7_bridge_128 rfl ?_
        refine z_iconst (v := nI 4) hX dX7_bridge_129 (by decide) ?_
        refine zn_icmp_ge (tgt := 154) hX dX7_bridge_130 (by decide) (by omega) (by omega) (fun c130 => absurd c130 (by omega)) (fun _ => ?_)
        refine z_aload_n hX 2 dX7_bridge_133 rfl ?_
        refine z_get (v := .ref (ad 0)) hX fX7 0 0 rfl rfl (Nat.le_of_ble_eq_true rfl) fl_X7_7 rfl dX7_bridge_134 ?_
        refine z_bipush (v := nI 7) hX dX7_bridge_137 (by decide) ?_
        refine z_iload_n hX 0 dX7_bridge_139 rfl ?_
        refine z_iadd (v := (nI 8)) hX dX7_bridge_140 ((nI_add _ _).trans (congrArg nI (by omega))) ?_
        refine z_aload_n hX 2 dX7_bridge_141 rfl ?_
        refine z_get (v := .ref (ad 6)) hX fX7 0 6 rfl rfl (Nat.le_of_ble_eq_true rfl) fl_X7_16 rfl dX7_bridge_142 ?_
        refine z_iload_n hX 0 dX7_bridge_145 rfl ?_
        refine z_iald (v := (nI (rs2_4 1))) hX 3 (j := 1) rfl (by omega) (by decide) rfl dX7_bridge_146 ?_
        refine z_iast (ws' := [ob x 7 (rf ad (va_up (va_up (va_up (va_up (va_up v 3 0) 7 ((lsB tau (v 3)).2.2)) 10 0) 4 (skp tau (v 3) (skp tau (v 3) ((lsB tau (v 3)).2.1)))) 5 0)), ia G (ad 0) 29 (fN (va_up (va_up (va_up (va_up (va_up (va_up (va_up (va_up (va_up s 0 0) 1 0) 2 0) 3 0) 4 0) 5 0) 2 ((lsB tau (v 3)).2.2)) 7 (rs2_4 0)) 8 (rs2_4 1))), ia G (ad 2) 80 (fN tau), ia G (ad 6) 4 (fN rs2_4), ia G (ad 8) 18 (fN A9)]) hX 1 (j := 8) rfl (by omega) (by decide) (updN _ _ _) rfl dX7_bridge_147 ?_
        refine z_iinc (v := (nI 2)) (L' := [(2, .int (nI 2)), (1, .int (nI 0)), (0, .ref x)]) hX 0 dX7_bridge_148 rfl (by decide) (Nat.le_of_ble_eq_true rfl) rfl ?_
        refine z_goto (tgt := 128) hX dX7_bridge_151 (by decide) ?_
        refine z_iload_n hX 0 dX7_bridge_128 rfl ?_
        refine z_iconst (v := nI 4) hX dX7_bridge_129 (by decide) ?_
        refine zn_icmp_ge (tgt := 154) hX dX7_bridge_130 (by decide) (by omega) (by omega) (fun c130 => absurd c130 (by omega)) (fun _ => ?_)
        refine z_aload_n hX 2 dX7_bridge_133 rfl ?_
        refine z_get (v := .ref (ad 0)) hX fX7 0 0 rfl rfl (Nat.le_of_ble_eq_true rfl) fl_X7_7 rfl dX7_bridge_134 ?_
        refine z_bipush (v := nI 7) hX dX7_bridge_137 (by decide) ?_
        refine z_iload_n hX 0 dX7_bridge_139 rfl ?_
        refine z_iadd (v := (nI 9)) hX dX7_bridge_140 ((nI_add _ _).trans (congrArg nI (by omega))) ?_
        refine z_aload_n hX 2 dX7_bridge_141 rfl ?_
        refine z_get (v := .ref (ad 6)) hX fX7 0 6 rfl rfl (Nat.le_of_ble_eq_true rfl) fl_X7_16 rfl dX7_bridge_142 ?_
        refine z_iload_n hX 0 dX7_bridge_145 rfl ?_
        refine z_iald (v := (nI (rs2_4 2))) hX 3 (j := 2) rfl (by omega) (by decide) rfl dX7_bridge_146 ?_
        refine z_iast (ws' := [ob x 7 (rf ad (va_up (va_up (va_up (va_up (va_up v 3 0) 7 ((lsB tau (v 3)).2.2)) 10 0) 4 (skp tau (v 3) (skp tau (v 3) ((lsB tau (v 3)).2.1)))) 5 0)), ia G (ad 0) 29 (fN (va_up (va_up (va_up (va_up (va_up (va_up (va_up (va_up (va_up (va_up s 0 0) 1 0) 2 0) 3 0) 4 0) 5 0) 2 ((lsB tau (v 3)).2.2)) 7 (rs2_4 0)) 8 (rs2_4 1)) 9 (rs2_4 2))), ia G (ad 2) 80 (fN tau), ia G (ad 6) 4 (fN rs2_4), ia G (ad 8) 18 (fN A9)]) hX 1 (j := 9) rfl (by omega) (by decide) (updN _ _ _) rfl dX7_bridge_147 ?_
        refine z_iinc (v := (nI 3)) (L' := [(2, .int (nI 3)), (1, .int (nI 0)), (0, .ref x)]) hX 0 dX7_bridge_148 rfl (by decide) (Nat.le_of_ble_eq_true rfl) rfl ?_
        refine z_goto (tgt := 128) hX dX7_bridge_151 (by decide) ?_
        refine z_iload_n hX 0 dX7_bridge_128 rfl ?_
        refine z_iconst (v := nI 4) hX dX7_bridge_129 (by decide) ?_
        refine zn_icmp_ge (tgt := 154) hX dX7_bridge_130 (by decide) (by omega) (by omega) (fun c130 => absurd c130 (by omega)) (fun _ => ?_)
        refine z_aload_n hX 2 dX7_bridge_133 rfl ?_
        refine z_get (v := .ref (ad 0)) hX fX7 0 0 rfl rfl (Nat.le_of_ble_eq_true rfl) fl_X7_7 rfl dX7_bridge_134 ?_
        refine z_bipush (v := nI 7) hX dX7_bridge_137 (by decide) ?_
        refine z_iload_n hX 0 dX7_bridge_139 rfl ?_
        refine z_iadd (v := (nI 10)) hX dX7_bridge_140 ((nI_add _ _).trans (congrArg nI (by omega))) ?_
        refine z_aload_n hX 2 dX7_bridge_141 rfl ?_
        refine z_get (v := .ref (ad 6)) hX fX7 0 6 rfl rfl (Nat.le_of_ble_eq_true rfl) fl_X7_16 rfl dX7_bridge_142 ?_
        refine z_iload_n hX 0 dX7_bridge_145 rfl ?_
        refine z_iald (v := (nI (rs2_4 3))) hX 3 (j := 3) rfl (by omega) (by decide) rfl dX7_bridge_146 ?_
        refine z_iast (ws' := [ob x 7 (rf ad (va_up (va_up (va_up (va_up (va_up v 3 0) 7 ((lsB tau (v 3)).2.2)) 10 0) 4 (skp tau (v 3) (skp tau (v 3) ((lsB tau (v 3)).2.1)))) 5 0)), ia G (ad 0) 29 (fN (va_up (va_up (va_up (va_up (va_up (va_up (va_up (va_up (va_up (va_up (va_up s 0 0) 1 0) 2 0) 3 0) 4 0) 5 0) 2 ((lsB tau (v 3)).2.2)) 7 (rs2_4 0)) 8 (rs2_4 1)) 9 (rs2_4 2)) 10 (rs2_4 3))), ia G (ad 2) 80 (fN tau), ia G (ad 6) 4 (fN rs2_4), ia G (ad 8) 18 (fN A9)]) hX 1 (j := 10) rfl (by omega) (by decide) (updN _ _ _) rfl dX7_bridge_147 ?_
        refine z_iinc (v := (nI 4)) (L' := [(2, .int (nI 4)), (1, .int (nI 0)), (0, .ref x)]) hX 0 dX7_bridge_148 rfl (by decide) (Nat.le_of_ble_eq_true rfl) rfl ?_
        refine z_goto (tgt := 128) hX dX7_bridge_151 (by decide) ?_
        refine z_iload_n hX 0 dX7_bridge_128 rfl ?_
        refine z_iconst (v := nI 4) hX dX7_bridge_129 (by decide) ?_
        refine zn_icmp_ge (tgt := 154) hX dX7_bridge_130 (by decide) (by omega) (by omega) (fun _ => ?_) (fun c130 => absurd c130 (by omega))
        refine z_eq (ws' := [ob x 7 (rf ad (va_up (va_up (va_up (va_up (va_up v 3 0) 7 ((lsB tau (v 3)).2.2)) 10 0) 4 (skp tau (v 3) (skp tau (v 3) ((lsB tau (v 3)).2.1)))) 5 0)), ia G (ad 0) 29 (fN (brS s (1, 0, ((lsB tau (v 3)).2.2), 0, A9, rs2_4))), ia G (ad 2) 80 (fN tau), ia G (ad 6) 4 (fN rs2_4), ia G (ad 8) 18 (fN A9)]) (by rw [brS_up s A9]) ?_
        refine z_iconst (v := nI 0) hX dX7_bridge_154 (by decide) ?_
        refine z_istore_n (L' := [(2, .int (nI 0)), (1, .int (nI 0)), (0, .ref x)]) hX dX7_bridge_155 (Nat.le_of_ble_eq_true rfl) rfl ?_
        have lp156 : ∀ (n156 : Nat) (i : Nat), (6 + 1 ≤ i + n156) → (i ≤ 0) → Z (X, G, A, H0, 3) 0 0 [ob x 7 (rf ad (va_up (va_up (va_up (va_up (va_up v 3 0) 7 ((lsB tau (v 3)).2.2)) 10 0) 4 (skp tau (v 3) (skp tau (v 3) ((lsB tau (v 3)).2.1)))) 5 0)), ia G (ad 0) 29 (fN (brS s (1, 0, ((lsB tau (v 3)).2.2), i, A9, rs2_4))), ia G (ad 2) 80 (fN tau), ia G (ad 6) 4 (fN rs2_4), ia G (ad 8) 18 (fN A9)] 156 [(0, .ref x), (1, .int (nI 0)), (2, .int (nI i))] [] := by
          intro n156
          induction n156 with
          | zero =>
            intro i hn hi
            exfalso
            omega
          | succ n156 ih156 =>
            intro i hn hi
            refine z_iload_n hX 2 dX7_bridge_156 rfl ?_
            refine z_iload_n hX 1 dX7_bridge_157 rfl ?_
            refine zn_icmp_ge (tgt := 199) hX dX7_bridge_158 (by decide) (by omega) (by omega) (fun c158 => ?_) (fun c158 => ?_)
            · skip
              refine z_iload_n hX 1 dX7_bridge_199 rfl ?_
              have ei : i = 0 := by omega
              subst ei
              have e0 : okBr tau (v 3) = true := decide_eq_true (by rw [eB])
              refine z_iext (f' := fN (brS s (brB tau (v 3)))) (ws' := [ob x 7 (rf ad (va_up (va_up (va_up (va_up (va_up v 3 0) 7 ((lsB tau (v 3)).2.2)) 10 0) 4 (skp tau (v 3) (skp tau (v 3) ((lsB tau (v 3)).2.1)))) 5 0)), ia G (ad 0) 29 (fN (brS s (brB tau (v 3)))), ia G (ad 2) 80 (fN tau), ia G (ad 6) 4 (fN rs2_4), ia G (ad 8) 18 (fN A9)]) 1 rfl (fun j9 _ => congrArg nI (by rw [eB]; exact (brS_ext (fun j9 h9 => absurd h9 (by omega)) (fun j8 h8 => (hrs j8 h8).symm) j9).symm)) rfl ?_
              rw [e0] at hR
              exact hR _ ((va_up (va_up (va_up (va_up (va_up v 3 0) 7 ((lsB tau (v 3)).2.2)) 10 0) 4 (skp tau (v 3) (skp tau (v 3) ((lsB tau (v 3)).2.1)))) 5 0), rs2_4, A9) _ _ ⟨(by unfold spBridge; rw [if_pos e0, eB]), rfl, rfl, rfl, rfl⟩ dX7_bridge_200 rfl
            · skip
              refine z_aload_n hX 0 dX7_bridge_161 rfl ?_
              refine z_aload_n hX 0 dX7_bridge_162 rfl ?_
              refine z_get (v := .ref (ad 8)) hX fX7 0 8 rfl rfl (Nat.le_of_ble_eq_true rfl) fl_X7_19 rfl dX7_bridge_163 ?_
              refine z_iconst (v := nI 3) hX dX7_bridge_166 (by decide) ?_
              refine z_iload_n hX 2 dX7_bridge_167 rfl ?_
              refine z_imul (v := (nI (3 * i))) hX dX7_bridge_168 (pk_mul _ _) ?_
              refine z_iald (v := (nI (A9 (3 * i)))) hX 4 (j := (3 * i)) rfl (by omega) (by decide) rfl dX7_bridge_169 ?_
              refine z_aload_n hX 0 dX7_bridge_170 rfl ?_
              refine z_get (v := .ref (ad 8)) hX fX7 0 8 rfl rfl (Nat.le_of_ble_eq_true rfl) fl_X7_19 rfl dX7_bridge_171 ?_
              refine z_iconst (v := nI 3) hX dX7_bridge_174 (by decide) ?_
              refine z_iload_n hX 2 dX7_bridge_175 rfl ?_
              refine z_imul (v := (nI (3 * i))) hX dX7_bridge_176 (pk_mul _ _) ?_
              refine z_iconst (v := nI 1) hX dX7_bridge_177 (by decide) ?_
              refine z_iadd (v := (nI (3 * i + 1))) hX dX7_bridge_178 (nI_add _ _) ?_
              refine z_iald (v := (nI (A9 (3 * i + 1)))) hX 4 (j := (3 * i + 1)) rfl (by omega) (by decide) rfl dX7_bridge_179 ?_
              refine z_aload_n hX 0 dX7_bridge_180 rfl ?_
              refine z_get (v := .ref (ad 8)) hX fX7 0 8 rfl rfl (Nat.le_of_ble_eq_true rfl) fl_X7_19 rfl dX7_bridge_181 ?_
              refine z_iconst (v := nI 3) hX dX7_bridge_184 (by decide) ?_
              refine z_iload_n hX 2 dX7_bridge_185 rfl ?_
              refine z_imul (v := (nI (3 * i))) hX dX7_bridge_186 (pk_mul _ _) ?_
              refine z_iconst (v := nI 2) hX dX7_bridge_187 (by decide) ?_
              refine z_iadd (v := (nI (3 * i + 2))) hX dX7_bridge_188 (nI_add _ _) ?_
              refine z_iald (v := (nI (A9 (3 * i + 2)))) hX 4 (j := (3 * i + 2)) rfl (by omega) (by decide) rfl dX7_bridge_189 ?_
              refine z_callVv (st := []) hX (c_X7_personComes _ G x ad (va_up (va_up (va_up (va_up (va_up v 3 0) 7 ((lsB tau (v 3)).2.2)) 10 0) 4 (skp tau (v 3) (skp tau (v 3) ((lsB tau (v 3)).2.1)))) 5 0) (brS s (1, 0, ((lsB tau (v 3)).2.2), i, A9, rs2_4)) (A9 (3 * i)) (A9 (3 * i + 1)) (A9 (3 * i + 2)) (show i < 6 by omega)) lb_X7_personComes ml_X7_95 (fun (_u : Unit) => [ob x 7 (rf ad (va_up (va_up (va_up (va_up (va_up (va_up v 3 0) 7 ((lsB tau (v 3)).2.2)) 10 0) 4 (skp tau (v 3) (skp tau (v 3) ((lsB tau (v 3)).2.1)))) 5 0) 10 0)), ia G (ad 0) 29 (fN (joinS (brS s (1, 0, ((lsB tau (v 3)).2.2), i, A9, rs2_4)) (A9 (3 * i)) (A9 (3 * i + 1)) (A9 (3 * i + 2)))), ia G (ad 2) 80 (fN tau), ia G (ad 6) 4 (fN rs2_4), ia G (ad 8) 18 (fN A9)]) (wr := [ia G (ad 2) 80 (fN tau), ia G (ad 6) 4 (fN rs2_4), ia G (ad 8) 18 (fN A9)]) [0, 1] [2, 3, 4] [3, 4, 0, 1, 2] ⟨rfl, rfl, rfl, fun _ => rfl⟩ 0 rfl rfl rfl rfl ⟨Nat.le_refl _, Nat.le_refl _⟩ dX7_bridge_190 rfl (fun  u190 hw190 => ?_)
              refine z_eq (ws' := [ob x 7 (rf ad (va_up (va_up (va_up (va_up (va_up v 3 0) 7 ((lsB tau (v 3)).2.2)) 10 0) 4 (skp tau (v 3) (skp tau (v 3) ((lsB tau (v 3)).2.1)))) 5 0)), ia G (ad 0) 29 (fN (brS s (1, 0, ((lsB tau (v 3)).2.2), (i + 1), A9, rs2_4))), ia G (ad 2) 80 (fN tau), ia G (ad 6) 4 (fN rs2_4), ia G (ad 8) 18 (fN A9)]) (by rw [joinS_brS]; rfl) ?_
              refine z_iinc (v := (nI (i + 1))) (L' := [(2, .int (nI (i + 1))), (0, .ref x), (1, .int (nI 0))]) hX 2 dX7_bridge_193 rfl (nI_inc _) (Nat.le_of_ble_eq_true rfl) rfl ?_
              refine z_goto (tgt := 156) hX dX7_bridge_196 (by decide) ?_
              refine z_lsub [1, 2, 0] rfl ?_
              exact ih156 (i + 1) (by omega) (by omega)
        refine z_lsub [2, 1, 0] rfl ?_
        exact lp156 7 0 (by omega) (by omega)
      · skip
        rw [l2] at c29 c59
        rw [l2] at c59
        have eF : (brB tau (v 3)).1 = 0 ∧ (brB tau (v 3)).2.1 = skp tau (v 3) (skp tau (v 3) ((lsB tau (v 3)).2.1)) := by
          rw [eB, cb_n c29, fb_0 c59, l2, l2]
          exact ⟨rfl, rfl⟩
        refine z_iconst (v := nI 1) hX dX7_bridge_62 (by decide) ?_
        refine z_goto (tgt := 67) hX dX7_bridge_63 (by decide) ?_
        refine z_put (v := .int (nI 1)) (ws' := [ob x 7 (rf ad (va_up (va_up (va_up v 7 ((lsB tau (v 3)).2.2)) 4 (skp tau (v 3) (skp tau (v 3) ((lsB tau (v 3)).2.1)))) 5 1)), ia G (ad 0) 29 (fN s), ia G (ad 2) 80 (fN tau), ia G (ad 6) 4 (fN rs2_4), ia G (ad 8) 18 (fN A9)]) hX fX7 0 5 rfl rfl (Nat.le_of_ble_eq_true rfl) fl_X7_119 rfl rfl rfl rfl rfl dX7_bridge_67 ?_
        refine z_aload_n hX 1 dX7_bridge_70 rfl ?_
        refine z_iconst (v := nI 0) hX dX7_bridge_71 (by decide) ?_
        refine z_put (v := .int (nI 0)) (ws' := [ob x 7 (rf ad (va_up (va_up (va_up (va_up v 3 0) 7 ((lsB tau (v 3)).2.2)) 4 (skp tau (v 3) (skp tau (v 3) ((lsB tau (v 3)).2.1)))) 5 1)), ia G (ad 0) 29 (fN s), ia G (ad 2) 80 (fN tau), ia G (ad 6) 4 (fN rs2_4), ia G (ad 8) 18 (fN A9)]) hX fX7 0 3 rfl rfl (Nat.le_of_ble_eq_true rfl) fl_X7_113 rfl rfl rfl rfl rfl dX7_bridge_72 ?_
        refine z_aload_n hX 1 dX7_bridge_75 rfl ?_
        refine z_get (v := .int (nI 1)) hX fX7 0 5 rfl rfl (Nat.le_of_ble_eq_true rfl) fl_X7_119 rfl dX7_bridge_76 ?_
        refine zn_if_eq (tgt := 90) hX dX7_bridge_79 (by decide) (by omega) (fun c79 => absurd c79 (by omega)) (fun _ => ?_)
        refine z_bipush (v := (-20)) hX dX7_bridge_82 (by decide) ?_
        refine z_aload_n hX 1 dX7_bridge_84 rfl ?_
        refine z_get (v := .int (nI (skp tau (v 3) (skp tau (v 3) ((lsB tau (v 3)).2.1))))) hX fX7 0 4 rfl rfl (Nat.le_of_ble_eq_true rfl) fl_X7_116 rfl dX7_bridge_85 ?_
        refine z_isub (v := (-20 - nI (skp tau (v 3) (skp tau (v 3) ((lsB tau (v 3)).2.1))))) hX dX7_bridge_88 rfl ?_
        have e0 : okBr tau (v 3) = false := decide_eq_false (by rw [eF.1]; decide)
        rw [e0] at hR
        exact hR _ ((va_up (va_up (va_up (va_up v 3 0) 7 ((lsB tau (v 3)).2.2)) 4 (skp tau (v 3) (skp tau (v 3) ((lsB tau (v 3)).2.1)))) 5 1), rs2_4, A9) _ _ ⟨(by unfold spBridge; rw [if_neg (by rw [e0]; decide), eF.2]), rfl, rfl, rfl, rfl⟩ dX7_bridge_89 rfl
    · skip
      rw [l2] at c29
      have lq : (lsB tau (v 3)).2.1 < v 3 := chr_lt (τ := tau) (by omega)
      have lq2 : skp tau (v 3) ((lsB tau (v 3)).2.1) < v 3 := by rw [l2]; exact lq
      obtain ⟨y1, y2, y3, y4, -, y6⟩ := crS_ok (τ := tau) (m := v 3) (P0 := skp tau (v 3) ((lsB tau (v 3)).2.1 + 1)) (skp_hi (Nat.le_refl _) (by omega)) (skp_id _ _ _) 6
      refine z_aload_n hX 1 dX7_bridge_32 rfl ?_
      refine z_dup hX dX7_bridge_33 rfl ?_
      refine z_get (v := .int (nI (skp tau (v 3) ((lsB tau (v 3)).2.1)))) hX fX7 0 4 rfl rfl (Nat.le_of_ble_eq_true rfl) fl_X7_116 rfl dX7_bridge_34 ?_
      refine z_iconst (v := nI 1) hX dX7_bridge_37 (by decide) ?_
      refine z_iadd (v := (nI (skp tau (v 3) ((lsB tau (v 3)).2.1) + 1))) hX dX7_bridge_38 (nI_add _ _) ?_
      refine z_put (v := .int (nI (skp tau (v 3) ((lsB tau (v 3)).2.1) + 1))) (ws' := [ob x 7 (rf ad (va_up (va_up (va_up v 7 ((lsB tau (v 3)).2.2)) 4 (skp tau (v 3) ((lsB tau (v 3)).2.1) + 1)) 5 0)), ia G (ad 0) 29 (fN s), ia G (ad 2) 80 (fN tau), ia G (ad 6) 4 (fN rs2_4), ia G (ad 8) 18 (fN A9)]) hX fX7 0 4 rfl rfl (Nat.le_of_ble_eq_true rfl) fl_X7_116 rfl rfl rfl rfl rfl dX7_bridge_39 ?_
      refine z_aload_n hX 1 dX7_bridge_42 rfl ?_
      refine z_callVi (st := []) hX (c_X7_peopleRead _ G x ad (va_up v 7 ((lsB tau (v 3)).2.2)) tau (skp tau (v 3) ((lsB tau (v 3)).2.1) + 1) A9 h0 h1 (by omega)) lb_X7_peopleRead ml_X7_148 (fun (_u : Nat × Nat × Nat × nst) => [ob x 7 (rf ad (va_up (va_up (va_up v 7 ((lsB tau (v 3)).2.2)) 4 _u.1) 5 _u.2.1)), ia G (ad 0) 29 (fN s), ia G (ad 2) 80 (fN tau), ia G (ad 6) 4 (fN rs2_4), ia G (ad 8) 18 (fN _u.2.2.2)]) (wr := [ia G (ad 0) 29 (fN s), ia G (ad 6) 4 (fN rs2_4)]) [0, 2, 4] [1, 3] [2, 0, 3, 1, 4] ⟨rfl, rfl, rfl, fun _ => rfl⟩ 0 rfl rfl rfl rfl ⟨Nat.le_refl _, Nat.le_refl _⟩ dX7_bridge_43 rfl (fun r43 u43 hw43 => ?_)
      obtain ⟨p2_5, f2_6, n2_7, A2_8⟩ := u43
      have hz43 : r43 = nI n2_7 ∧ ((f2_6 = 1 ∧ ((crS tau (v 3) (skp tau (v 3) (skp tau (v 3) ((lsB tau (v 3)).2.1) + 1)) 6).1 = 0 ∨ chr tau (v 3) (crS tau (v 3) (skp tau (v 3) (skp tau (v 3) ((lsB tau (v 3)).2.1) + 1)) 6).2.1 = 44) ∧ p2_5 = (crS tau (v 3) (skp tau (v 3) (skp tau (v 3) ((lsB tau (v 3)).2.1) + 1)) 6).2.1) ∨ (f2_6 = 0 ∧ ¬ (crS tau (v 3) (skp tau (v 3) (skp tau (v 3) ((lsB tau (v 3)).2.1) + 1)) 6).1 = 0 ∧ p2_5 = (crS tau (v 3) (skp tau (v 3) (skp tau (v 3) ((lsB tau (v 3)).2.1) + 1)) 6).2.1 ∧ n2_7 = (crS tau (v 3) (skp tau (v 3) (skp tau (v 3) ((lsB tau (v 3)).2.1) + 1)) 6).2.2.1 ∧ n2_7 ≤ 6 ∧ ∀ j, j < 3 * n2_7 → A2_8 j = (crS tau (v 3) (skp tau (v 3) (skp tau (v 3) ((lsB tau (v 3)).2.1) + 1)) 6).2.2.2 j)) := hw43
      clear hw43
      rw [l2] at hz43
      obtain ⟨rfl, hz43⟩ := hz43
      rcases hz43 with ⟨rfl, hx, rfl⟩ | ⟨rfl, hx, rfl, rfl, hn6, hA⟩
      · have eF : (brB tau (v 3)).1 = 0 ∧ (brB tau (v 3)).2.1 = (crS tau (v 3) (skp tau (v 3) ((lsB tau (v 3)).2.1 + 1)) 6).2.1 := by
          rw [eB]
          by_cases x0 : (crS tau (v 3) (skp tau (v 3) ((lsB tau (v 3)).2.1 + 1)) 6).1 = 0
          · rw [cb_0 c29 x0]
            exact ⟨rfl, rfl⟩
          · rw [cb_1 c29 x0, fb_0 (by rcases hx with z9 | z9; exact absurd z9 x0; omega)]
            exact ⟨rfl, rfl⟩
        refine z_istore_n (L' := [(1, .int (nI n2_7)), (0, .ref x)]) hX dX7_bridge_46 (Nat.le_of_ble_eq_true rfl) rfl ?_
        refine z_aload_n hX 1 dX7_bridge_47 rfl ?_
        refine z_aload_n hX 1 dX7_bridge_48 rfl ?_
        refine z_get (v := .int (nI 1)) hX fX7 0 5 rfl rfl (Nat.le_of_ble_eq_true rfl) fl_X7_119 rfl dX7_bridge_49 ?_
        refine zn_if_ne (tgt := 62) hX dX7_bridge_52 (by decide) (by omega) (fun _ => ?_) (fun c52 => absurd c52 (by omega))
        refine z_iconst (v := nI 1) hX dX7_bridge_62 (by decide) ?_
        refine z_goto (tgt := 67) hX dX7_bridge_63 (by decide) ?_
        refine z_put (v := .int (nI 1)) (ws' := [ob x 7 (rf ad (va_up (va_up (va_up v 7 ((lsB tau (v 3)).2.2)) 4 ((crS tau (v 3) (skp tau (v 3) ((lsB tau (v 3)).2.1 + 1)) 6).2.1)) 5 1)), ia G (ad 0) 29 (fN s), ia G (ad 2) 80 (fN tau), ia G (ad 6) 4 (fN rs2_4), ia G (ad 8) 18 (fN A2_8)]) hX fX7 0 5 rfl rfl (Nat.le_of_ble_eq_true rfl) fl_X7_119 rfl rfl rfl rfl rfl dX7_bridge_67 ?_
        refine z_aload_n hX 1 dX7_bridge_70 rfl ?_
        refine z_iconst (v := nI 0) hX dX7_bridge_71 (by decide) ?_
        refine z_put (v := .int (nI 0)) (ws' := [ob x 7 (rf ad (va_up (va_up (va_up (va_up v 3 0) 7 ((lsB tau (v 3)).2.2)) 4 ((crS tau (v 3) (skp tau (v 3) ((lsB tau (v 3)).2.1 + 1)) 6).2.1)) 5 1)), ia G (ad 0) 29 (fN s), ia G (ad 2) 80 (fN tau), ia G (ad 6) 4 (fN rs2_4), ia G (ad 8) 18 (fN A2_8)]) hX fX7 0 3 rfl rfl (Nat.le_of_ble_eq_true rfl) fl_X7_113 rfl rfl rfl rfl rfl dX7_bridge_72 ?_
        refine z_aload_n hX 1 dX7_bridge_75 rfl ?_
        refine z_get (v := .int (nI 1)) hX fX7 0 5 rfl rfl (Nat.le_of_ble_eq_true rfl) fl_X7_119 rfl dX7_bridge_76 ?_
        refine zn_if_eq (tgt := 90) hX dX7_bridge_79 (by decide) (by omega) (fun c79 => absurd c79 (by omega)) (fun _ => ?_)
        refine z_bipush (v := (-20)) hX dX7_bridge_82 (by decide) ?_
        refine z_aload_n hX 1 dX7_bridge_84 rfl ?_
        refine z_get (v := .int (nI ((crS tau (v 3) (skp tau (v 3) ((lsB tau (v 3)).2.1 + 1)) 6).2.1))) hX fX7 0 4 rfl rfl (Nat.le_of_ble_eq_true rfl) fl_X7_116 rfl dX7_bridge_85 ?_
        refine z_isub (v := (-20 - nI ((crS tau (v 3) (skp tau (v 3) ((lsB tau (v 3)).2.1 + 1)) 6).2.1))) hX dX7_bridge_88 rfl ?_
        have e0 : okBr tau (v 3) = false := decide_eq_false (by rw [eF.1]; decide)
        rw [e0] at hR
        exact hR _ ((va_up (va_up (va_up (va_up v 3 0) 7 ((lsB tau (v 3)).2.2)) 4 ((crS tau (v 3) (skp tau (v 3) ((lsB tau (v 3)).2.1 + 1)) 6).2.1)) 5 1), rs2_4, A2_8) _ _ ⟨(by unfold spBridge; rw [if_neg (by rw [e0]; decide), eF.2]), rfl, rfl, rfl, rfl⟩ dX7_bridge_89 rfl
      · rw [cb_1 c29 hx] at eB
        have k3 := chr_hi h0 (skp tau (v 3) ((crS tau (v 3) (skp tau (v 3) ((lsB tau (v 3)).2.1 + 1)) 6).2.1))
        refine z_istore_n (L' := [(1, .int (nI ((crS tau (v 3) (skp tau (v 3) ((lsB tau (v 3)).2.1 + 1)) 6).2.2.1))), (0, .ref x)]) hX dX7_bridge_46 (Nat.le_of_ble_eq_true rfl) rfl ?_
        refine z_aload_n hX 1 dX7_bridge_47 rfl ?_
        refine z_aload_n hX 1 dX7_bridge_48 rfl ?_
        refine z_get (v := .int (nI 0)) hX fX7 0 5 rfl rfl (Nat.le_of_ble_eq_true rfl) fl_X7_119 rfl dX7_bridge_49 ?_
        refine zn_if_ne (tgt := 62) hX dX7_bridge_52 (by decide) (by omega) (fun c52 => absurd c52 (by omega)) (fun _ => ?_)
        refine z_aload_n hX 1 dX7_bridge_55 rfl ?_
        refine z_callVi (st := [.ref x]) hX (c_X7_here _ G x ad (va_up v 7 ((lsB tau (v 3)).2.2)) tau ((crS tau (v 3) (skp tau (v 3) ((lsB tau (v 3)).2.1 + 1)) 6).2.1) 0 h0 h1 (by omega)) lb_X7_here ml_X7_123 (fun (_u : Unit) => [ob x 7 (rf ad (va_up (va_up (va_up v 7 ((lsB tau (v 3)).2.2)) 4 (skp tau (v 3) ((crS tau (v 3) (skp tau (v 3) ((lsB tau (v 3)).2.1 + 1)) 6).2.1))) 5 0)), ia G (ad 0) 29 (fN s), ia G (ad 2) 80 (fN tau), ia G (ad 6) 4 (fN rs2_4), ia G (ad 8) 18 (fN A2_8)]) (wr := [ia G (ad 0) 29 (fN s), ia G (ad 6) 4 (fN rs2_4), ia G (ad 8) 18 (fN A2_8)]) [0, 2] [1, 3, 4] [3, 0, 4, 1, 2] ⟨rfl, rfl, rfl, fun _ => rfl⟩ 0 rfl rfl rfl rfl ⟨Nat.le_refl _, Nat.le_refl _⟩ dX7_bridge_56 rfl (fun r56 u56 hw56 => ?_)
        subst hw56
        show Z (X, G, A, H0, 3) _ _ [ob x 7 (rf ad (va_up (va_up (va_up v 7 ((lsB tau (v 3)).2.2)) 4 (skp tau (v 3) ((crS tau (v 3) (skp tau (v 3) ((lsB tau (v 3)).2.1 + 1)) 6).2.1))) 5 0)), ia G (ad 0) 29 (fN s), ia G (ad 2) 80 (fN tau), ia G (ad 6) 4 (fN rs2_4), ia G (ad 8) 18 (fN A2_8)] 59 [(1, .int (nI ((crS tau (v 3) (skp tau (v 3) ((lsB tau (v 3)).2.1 + 1)) 6).2.2.1))), (0, .ref x)] [.int (nI (chr tau (v 3) (skp tau (v 3) ((crS tau (v 3) (skp tau (v 3) ((lsB tau (v 3)).2.1 + 1)) 6).2.1)))), .ref x]
        refine zn_if_eq (tgt := 66) hX dX7_bridge_59 (by decide) (by omega) (fun c59 => ?_) (fun c59 => ?_)
        · skip
          rw [y3] at c59
          rw [fb_1 c59] at eB
          refine z_iconst (v := nI 0) hX dX7_bridge_66 (by decide) ?_
          refine z_put (v := .int (nI 0)) (ws' := [ob x 7 (rf ad (va_up (va_up (va_up v 7 ((lsB tau (v 3)).2.2)) 4 (skp tau (v 3) ((crS tau (v 3) (skp tau (v 3) ((lsB tau (v 3)).2.1 + 1)) 6).2.1))) 5 0)), ia G (ad 0) 29 (fN s), ia G (ad 2) 80 (fN tau), ia G (ad 6) 4 (fN rs2_4), ia G (ad 8) 18 (fN A2_8)]) hX fX7 0 5 rfl rfl (Nat.le_of_ble_eq_true rfl) fl_X7_119 rfl rfl rfl rfl rfl dX7_bridge_67 ?_
          refine z_aload_n hX 1 dX7_bridge_70 rfl ?_
          refine z_iconst (v := nI 0) hX dX7_bridge_71 (by decide) ?_
          refine z_put (v := .int (nI 0)) (ws' := [ob x 7 (rf ad (va_up (va_up (va_up (va_up v 3 0) 7 ((lsB tau (v 3)).2.2)) 4 (skp tau (v 3) ((crS tau (v 3) (skp tau (v 3) ((lsB tau (v 3)).2.1 + 1)) 6).2.1))) 5 0)), ia G (ad 0) 29 (fN s), ia G (ad 2) 80 (fN tau), ia G (ad 6) 4 (fN rs2_4), ia G (ad 8) 18 (fN A2_8)]) hX fX7 0 3 rfl rfl (Nat.le_of_ble_eq_true rfl) fl_X7_113 rfl rfl rfl rfl rfl dX7_bridge_72 ?_
          refine z_aload_n hX 1 dX7_bridge_75 rfl ?_
          refine z_get (v := .int (nI 0)) hX fX7 0 5 rfl rfl (Nat.le_of_ble_eq_true rfl) fl_X7_119 rfl dX7_bridge_76 ?_
          refine zn_if_eq (tgt := 90) hX dX7_bridge_79 (by decide) (by omega) (fun _ => ?_) (fun c79 => absurd c79 (by omega))
          refine z_iconst (v := nI 0) hX dX7_bridge_90 (by decide) ?_
          refine z_istore_n (L' := [(2, .int (nI 0)), (1, .int (nI ((crS tau (v 3) (skp tau (v 3) ((lsB tau (v 3)).2.1 + 1)) 6).2.2.1))), (0, .ref x)]) hX dX7_bridge_91 (Nat.le_of_ble_eq_true rfl) rfl ?_
          refine z_iload_n hX 0 dX7_bridge_92 rfl ?_
          refine z_bipush (v := nI 6) hX dX7_bridge_93 (by decide) ?_
          refine zn_icmp_ge (tgt := 111) hX dX7_bridge_95 (by decide) (by omega) (by omega) (fun c95 => absurd c95 (by omega)) (fun _ => ?_)
          refine z_aload_n hX 2 dX7_bridge_98 rfl ?_
          refine z_get (v := .ref (ad 0)) hX fX7 0 0 rfl rfl (Nat.le_of_ble_eq_true rfl) fl_X7_7 rfl dX7_bridge_99 ?_
          refine z_iload_n hX 0 dX7_bridge_102 rfl ?_
          refine z_iconst (v := nI 0) hX dX7_bridge_103 (by decide) ?_
          refine z_iast (ws' := [ob x 7 (rf ad (va_up (va_up (va_up (va_up v 3 0) 7 ((lsB tau (v 3)).2.2)) 4 (skp tau (v 3) ((crS tau (v 3) (skp tau (v 3) ((lsB tau (v 3)).2.1 + 1)) 6).2.1))) 5 0)), ia G (ad 0) 29 (fN (va_up s 0 0)), ia G (ad 2) 80 (fN tau), ia G (ad 6) 4 (fN rs2_4), ia G (ad 8) 18 (fN A2_8)]) hX 1 (j := 0) rfl (by omega) (by decide) (updN _ _ _) rfl dX7_bridge_104 ?_
          refine z_iinc (v := (nI 1)) (L' := [(2, .int (nI 1)), (1, .int (nI ((crS tau (v 3) (skp tau (v 3) ((lsB tau (v 3)).2.1 + 1)) 6).2.2.1))), (0, .ref x)]) hX 0 dX7_bridge_105 rfl (by decide) (Nat.le_of_ble_eq_true rfl) rfl ?_
          refine z_goto (tgt := 92) hX dX7_bridge_108 (by decide) ?_
          refine z_iload_n hX 0 dX7_bridge_92 rfl ?_
          refine z_bipush (v := nI 6) hX dX7_bridge_93 (by decide) ?_
          refine zn_icmp_ge (tgt := 111) hX dX7_bridge_95 (by decide) (by omega) (by omega) (fun c95 => absurd c95 (by omega)) (fun _ => ?_)
          refine z_aload_n hX 2 dX7_bridge_98 rfl ?_
          refine z_get (v := .ref (ad 0)) hX fX7 0 0 rfl rfl (Nat.le_of_ble_eq_true rfl) fl_X7_7 rfl dX7_bridge_99 ?_
          refine z_iload_n hX 0 dX7_bridge_102 rfl ?_
          refine z_iconst (v := nI 0) hX dX7_bridge_103 (by decide) ?_
          refine z_iast (ws' := [ob x 7 (rf ad (va_up (va_up (va_up (va_up v 3 0) 7 ((lsB tau (v 3)).2.2)) 4 (skp tau (v 3) ((crS tau (v 3) (skp tau (v 3) ((lsB tau (v 3)).2.1 + 1)) 6).2.1))) 5 0)), ia G (ad 0) 29 (fN (va_up (va_up s 0 0) 1 0)), ia G (ad 2) 80 (fN tau), ia G (ad 6) 4 (fN rs2_4), ia G (ad 8) 18 (fN A2_8)]) hX 1 (j := 1) rfl (by omega) (by decide) (updN _ _ _) rfl dX7_bridge_104 ?_
          refine z_iinc (v := (nI 2)) (L' := [(2, .int (nI 2)), (1, .int (nI ((crS tau (v 3) (skp tau (v 3) ((lsB tau (v 3)).2.1 + 1)) 6).2.2.1))), (0, .ref x)]) hX 0 dX7_bridge_105 rfl (by decide) (Nat.le_of_ble_eq_true rfl) rfl ?_
          refine z_goto (tgt := 92) hX dX7_bridge_108 (by decide) ?_
          refine z_iload_n hX 0 dX7_bridge_92 rfl ?_
          refine z_bipush (v := nI 6) hX dX7_bridge_93 (by decide) ?_
          refine zn_icmp_ge (tgt := 111) hX dX7_bridge_95 (by decide) (by omega) (by omega) (fun c95 => absurd c95 (by omega)) (fun _ => ?_)
          refine z_aload_n hX 2 dX7_bridge_98 rfl ?_
          refine z_get (v := .ref (ad 0)) hX fX7 0 0 rfl rfl (Nat.le_of_ble_eq_true rfl) fl_X7_7 rfl dX7_bridge_99 ?_
          refine z_iload_n hX 0 dX7_bridge_102 rfl ?_
          refine z_iconst (v := nI 0) hX dX7_bridge_103 (by decide) ?_
          refine z_iast (ws' := [ob x 7 (rf ad (va_up (va_up (va_up (va_up v 3 0) 7 ((lsB tau (v 3)).2.2)) 4 (skp tau (v 3) ((crS tau (v 3) (skp tau (v 3) ((lsB tau (v 3)).2.1 + 1)) 6).2.1))) 5 0)), ia G (ad 0) 29 (fN (va_up (va_up (va_up s 0 0) 1 0) 2 0)), ia G (ad 2) 80 (fN tau), ia G (ad 6) 4 (fN rs2_4), ia G (ad 8) 18 (fN A2_8)]) hX 1 (j := 2) rfl (by omega) (by decide) (updN _ _ _) rfl dX7_bridge_104 ?_
          refine z_iinc (v := (nI 3)) (L' := [(2, .int (nI 3)), (1, .int (nI ((crS tau (v 3) (skp tau (v 3) ((lsB tau (v 3)).2.1 + 1)) 6).2.2.1))), (0, .ref x)]) hX 0 dX7_bridge_105 rfl (by decide) (Nat.le_of_ble_eq_true rfl) rfl ?_
          refine z_goto (tgt := 92) hX dX7_bridge_108 (by decide) ?_
          refine z_iload_n hX 0 dX7_bridge_92 rfl ?_
          refine z_bipush (v := nI 6) hX dX7_bridge_93 (by decide) ?_
          refine zn_icmp_ge (tgt := 111) hX dX7_bridge_95 (by decide) (by omega) (by omega) (fun c95 => absurd c95 (by omega)) (fun _ => ?_)
          refine z_aload_n hX 2 dX7_bridge_98 rfl ?_
          refine z_get (v := .ref (ad 0)) hX fX7 0 0 rfl rfl (Nat.le_of_ble_eq_true rfl) fl_X7_7 rfl dX7_bridge_99 ?_
          refine z_iload_n hX 0 dX7_bridge_102 rfl ?_
          refine z_iconst (v := nI 0) hX dX7_bridge_103 (by decide) ?_
          refine z_iast (ws' := [ob x 7 (rf ad (va_up (va_up (va_up (va_up v 3 0) 7 ((lsB tau (v 3)).2.2)) 4 (skp tau (v 3) ((crS tau (v 3) (skp tau (v 3) ((lsB tau (v 3)).2.1 + 1)) 6).2.1))) 5 0)), ia G (ad 0) 29 (fN (va_up (va_up (va_up (va_up s 0 0) 1 0) 2 0) 3 0)), ia G (ad 2) 80 (fN tau), ia G (ad 6) 4 (fN rs2_4), ia G (ad 8) 18 (fN A2_8)]) hX 1 (j := 3) rfl (by omega) (by decide) (updN _ _ _) rfl dX7_bridge_104 ?_
          refine z_iinc (v := (nI 4)) (L' := [(2, .int (nI 4)), (1, .int (nI ((crS tau (v 3) (skp tau (v 3) ((lsB tau (v 3)).2.1 + 1)) 6).2.2.1))), (0, .ref x)]) hX 0 dX7_bridge_105 rfl (by decide) (Nat.le_of_ble_eq_true rfl) rfl ?_
          refine z_goto (tgt := 92) hX dX7_bridge_108 (by decide) ?_
          refine z_iload_n hX 0 dX7_bridge_92 rfl ?_
          refine z_bipush (v := nI 6) hX dX7_bridge_93 (by decide) ?_
          refine zn_icmp_ge (tgt := 111) hX dX7_bridge_95 (by decide) (by omega) (by omega) (fun c95 => absurd c95 (by omega)) (fun _ => ?_)
          refine z_aload_n hX 2 dX7_bridge_98 rfl ?_
          refine z_get (v := .ref (ad 0)) hX fX7 0 0 rfl rfl (Nat.le_of_ble_eq_true rfl) fl_X7_7 rfl dX7_bridge_99 ?_
          refine z_iload_n hX 0 dX7_bridge_102 rfl ?_
          refine z_iconst (v := nI 0) hX dX7_bridge_103 (by decide) ?_
          refine z_iast (ws' := [ob x 7 (rf ad (va_up (va_up (va_up (va_up v 3 0) 7 ((lsB tau (v 3)).2.2)) 4 (skp tau (v 3) ((crS tau (v 3) (skp tau (v 3) ((lsB tau (v 3)).2.1 + 1)) 6).2.1))) 5 0)), ia G (ad 0) 29 (fN (va_up (va_up (va_up (va_up (va_up s 0 0) 1 0) 2 0) 3 0) 4 0)), ia G (ad 2) 80 (fN tau), ia G (ad 6) 4 (fN rs2_4), ia G (ad 8) 18 (fN A2_8)]) hX 1 (j := 4) rfl (by omega) (by decide) (updN _ _ _) rfl dX7_bridge_104 ?_
          refine z_iinc (v := (nI 5)) (L' := [(2, .int (nI 5)), (1, .int (nI ((crS tau (v 3) (skp tau (v 3) ((lsB tau (v 3)).2.1 + 1)) 6).2.2.1))), (0, .ref x)]) hX 0 dX7_bridge_105 rfl (by decide) (Nat.le_of_ble_eq_true rfl) rfl ?_
          refine z_goto (tgt := 92) hX dX7_bridge_108 (by decide) ?_
          refine z_iload_n hX 0 dX7_bridge_92 rfl ?_
          refine z_bipush (v := nI 6) hX dX7_bridge_93 (by decide) ?_
          refine zn_icmp_ge (tgt := 111) hX dX7_bridge_95 (by decide) (by omega) (by omega) (fun c95 => absurd c95 (by omega)) (fun _ => ?_)
          refine z_aload_n hX 2 dX7_bridge_98 rfl ?_
          refine z_get (v := .ref (ad 0)) hX fX7 0 0 rfl rfl (Nat.le_of_ble_eq_true rfl) fl_X7_7 rfl dX7_bridge_99 ?_
          refine z_iload_n hX 0 dX7_bridge_102 rfl ?_
          refine z_iconst (v := nI 0) hX dX7_bridge_103 (by decide) ?_
          refine z_iast (ws' := [ob x 7 (rf ad (va_up (va_up (va_up (va_up v 3 0) 7 ((lsB tau (v 3)).2.2)) 4 (skp tau (v 3) ((crS tau (v 3) (skp tau (v 3) ((lsB tau (v 3)).2.1 + 1)) 6).2.1))) 5 0)), ia G (ad 0) 29 (fN (va_up (va_up (va_up (va_up (va_up (va_up s 0 0) 1 0) 2 0) 3 0) 4 0) 5 0)), ia G (ad 2) 80 (fN tau), ia G (ad 6) 4 (fN rs2_4), ia G (ad 8) 18 (fN A2_8)]) hX 1 (j := 5) rfl (by omega) (by decide) (updN _ _ _) rfl dX7_bridge_104 ?_
          refine z_iinc (v := (nI 6)) (L' := [(2, .int (nI 6)), (1, .int (nI ((crS tau (v 3) (skp tau (v 3) ((lsB tau (v 3)).2.1 + 1)) 6).2.2.1))), (0, .ref x)]) hX 0 dX7_bridge_105 rfl (by decide) (Nat.le_of_ble_eq_true rfl) rfl ?_
          refine z_goto (tgt := 92) hX dX7_bridge_108 (by decide) ?_
          refine z_iload_n hX 0 dX7_bridge_92 rfl ?_
          refine z_bipush (v := nI 6) hX dX7_bridge_93 (by decide) ?_
          refine zn_icmp_ge (tgt := 111) hX dX7_bridge_95 (by decide) (by omega) (by omega) (fun _ => ?_) (fun c95 => absurd c95 (by omega))
          refine z_aload_n hX 2 dX7_bridge_111 rfl ?_
          refine z_get (v := .ref (ad 0)) hX fX7 0 0 rfl rfl (Nat.le_of_ble_eq_true rfl) fl_X7_7 rfl dX7_bridge_112 ?_
          refine z_iconst (v := nI 2) hX dX7_bridge_115 (by decide) ?_
          refine z_aload_n hX 2 dX7_bridge_116 rfl ?_
          refine z_get (v := .int (nI ((lsB tau (v 3)).2.2))) hX fX7 0 7 rfl rfl (Nat.le_of_ble_eq_true rfl) fl_X7_139 rfl dX7_bridge_117 ?_
          refine z_iast (ws' := [ob x 7 (rf ad (va_up (va_up (va_up (va_up v 3 0) 7 ((lsB tau (v 3)).2.2)) 4 (skp tau (v 3) ((crS tau (v 3) (skp tau (v 3) ((lsB tau (v 3)).2.1 + 1)) 6).2.1))) 5 0)), ia G (ad 0) 29 (fN (va_up (va_up (va_up (va_up (va_up (va_up (va_up s 0 0) 1 0) 2 0) 3 0) 4 0) 5 0) 2 ((lsB tau (v 3)).2.2))), ia G (ad 2) 80 (fN tau), ia G (ad 6) 4 (fN rs2_4), ia G (ad 8) 18 (fN A2_8)]) hX 1 (j := 2) rfl (by omega) (by decide) (updN _ _ _) rfl dX7_bridge_120 ?_
          refine z_aload_n hX 2 dX7_bridge_121 rfl ?_
          refine z_iconst (v := nI 0) hX dX7_bridge_122 (by decide) ?_
          refine z_put (v := .int (nI 0)) (ws' := [ob x 7 (rf ad (va_up (va_up (va_up (va_up (va_up v 3 0) 7 ((lsB tau (v 3)).2.2)) 10 0) 4 (skp tau (v 3) ((crS tau (v 3) (skp tau (v 3) ((lsB tau (v 3)).2.1 + 1)) 6).2.1))) 5 0)), ia G (ad 0) 29 (fN (va_up (va_up (va_up (va_up (va_up (va_up (va_up s 0 0) 1 0) 2 0) 3 0) 4 0) 5 0) 2 ((lsB tau (v 3)).2.2))), ia G (ad 2) 80 (fN tau), ia G (ad 6) 4 (fN rs2_4), ia G (ad 8) 18 (fN A2_8)]) hX fX7 0 10 rfl rfl (Nat.le_of_ble_eq_true rfl) fl_X7_86 rfl rfl rfl rfl rfl dX7_bridge_123 ?_
          refine z_iconst (v := nI 0) hX dX7_bridge_126 (by decide) ?_
          refine z_istore_n (L' := [(2, .int (nI 0)), (1, .int (nI ((crS tau (v 3) (skp tau (v 3) ((lsB tau (v 3)).2.1 + 1)) 6).2.2.1))), (0, .ref x)]) hX dX7_bridge_127 (Nat.le_of_ble_eq_true rfl) rfl ?_
          refine z_iload_n hX 0 dX7_bridge_128 rfl ?_
          refine z_iconst (v := nI 4) hX dX7_bridge_129 (by decide) ?_
          refine zn_icmp_ge (tgt := 154) hX dX7_bridge_130 (by decide) (by omega) (by omega) (fun c130 => absurd c130 (by omega)) (fun _ => ?_)
          refine z_aload_n hX 2 dX7_bridge_133 rfl ?_
          refine z_get (v := .ref (ad 0)) hX fX7 0 0 rfl rfl (Nat.le_of_ble_eq_true rfl) fl_X7_7 rfl dX7_bridge_134 ?_
          refine z_bipush (v := nI 7) hX dX7_bridge_137 (by decide) ?_
          refine z_iload_n hX 0 dX7_bridge_139 rfl ?_
          refine z_iadd (v := (nI 7)) hX dX7_bridge_140 ((nI_add _ _).trans (congrArg nI (by omega))) ?_
          refine z_aload_n hX 2 dX7_bridge_141 rfl ?_
          refine z_get (v := .ref (ad 6)) hX fX7 0 6 rfl rfl (Nat.le_of_ble_eq_true rfl) fl_X7_16 rfl dX7_bridge_142 ?_
          refine z_iload_n hX 0 dX7_bridge_145 rfl ?_
          refine z_iald (v := (nI (rs2_4 0))) hX 3 (j := 0) rfl (by omega) (by decide) rfl dX7_bridge_146 ?_
          refine z_iast (ws' := [ob x 7 (rf ad (va_up (va_up (va_up (va_up (va_up v 3 0) 7 ((lsB tau (v 3)).2.2)) 10 0) 4 (skp tau (v 3) ((crS tau (v 3) (skp tau (v 3) ((lsB tau (v 3)).2.1 + 1)) 6).2.1))) 5 0)), ia G (ad 0) 29 (fN (va_up (va_up (va_up (va_up (va_up (va_up (va_up (va_up s 0 0) 1 0) 2 0) 3 0) 4 0) 5 0) 2 ((lsB tau (v 3)).2.2)) 7 (rs2_4 0))), ia G (ad 2) 80 (fN tau), ia G (ad 6) 4 (fN rs2_4), ia G (ad 8) 18 (fN A2_8)]) hX 1 (j := 7) rfl (by omega) (by decide) (updN _ _ _) rfl dX7_bridge_147 ?_
          refine z_iinc (v := (nI 1)) (L' := [(2, .int (nI 1)), (1, .int (nI ((crS tau (v 3) (skp tau (v 3) ((lsB tau (v 3)).2.1 + 1)) 6).2.2.1))), (0, .ref x)]) hX 0 dX7_bridge_148 rfl (by decide) (Nat.le_of_ble_eq_true rfl) rfl ?_
          refine z_goto (tgt := 128) hX dX7_bridge_151 (by decide) ?_
          refine z_iload_n hX 0 dX7_bridge_128 rfl ?_
          refine z_iconst (v := nI 4) hX dX7_bridge_129 (by decide) ?_
          refine zn_icmp_ge (tgt := 154) hX dX7_bridge_130 (by decide) (by omega) (by omega) (fun c130 => absurd c130 (by omega)) (fun _ => ?_)
          refine z_aload_n hX 2 dX7_bridge_133 rfl ?_
          refine z_get (v := .ref (ad 0)) hX fX7 0 0 rfl rfl (Nat.le_of_ble_eq_true rfl) fl_X7_7 rfl dX7_bridge_134 ?_
          refine z_bipush (v := nI 7) hX dX7_bridge_137 (by decide) ?_
          refine z_iload_n hX 0 dX7_bridge_139 rfl ?_
          refine z_iadd (v := (nI 8)) hX dX7_bridge_140 ((nI_add _ _).trans (congrArg nI (by omega))) ?_
          refine z_aload_n hX 2 dX7_bridge_141 rfl ?_
          refine z_get (v := .ref (ad 6)) hX fX7 0 6 rfl rfl (Nat.le_of_ble_eq_true rfl) fl_X7_16 rfl dX7_bridge_142 ?_
          refine z_iload_n hX 0 dX7_bridge_145 rfl ?_
          refine z_iald (v := (nI (rs2_4 1))) hX 3 (j := 1) rfl (by omega) (by decide) rfl dX7_bridge_146 ?_
          refine z_iast (ws' := [ob x 7 (rf ad (va_up (va_up (va_up (va_up (va_up v 3 0) 7 ((lsB tau (v 3)).2.2)) 10 0) 4 (skp tau (v 3) ((crS tau (v 3) (skp tau (v 3) ((lsB tau (v 3)).2.1 + 1)) 6).2.1))) 5 0)), ia G (ad 0) 29 (fN (va_up (va_up (va_up (va_up (va_up (va_up (va_up (va_up (va_up s 0 0) 1 0) 2 0) 3 0) 4 0) 5 0) 2 ((lsB tau (v 3)).2.2)) 7 (rs2_4 0)) 8 (rs2_4 1))), ia G (ad 2) 80 (fN tau), ia G (ad 6) 4 (fN rs2_4), ia G (ad 8) 18 (fN A2_8)]) hX 1 (j := 8) rfl (by omega) (by decide) (updN _ _ _) rfl dX7_bridge_147 ?_
          refine z_iinc (v := (nI 2)) (L' := [(2, .int (nI 2)), (1, .int (nI ((crS tau (v 3) (skp tau (v 3) ((lsB tau (v 3)).2.1 + 1)) 6).2.2.1))), (0, .ref x)]) hX 0 dX7_bridge_148 rfl (by decide) (Nat.le_of_ble_eq_true rfl) rfl ?_
          refine z_goto (tgt := 128) hX dX7_bridge_151 (by decide) ?_
          refine z_iload_n hX 0 dX7_bridge_128 rfl ?_
          refine z_iconst (v := nI 4) hX dX7_bridge_129 (by decide) ?_
          refine zn_icmp_ge (tgt := 154) hX dX7_bridge_130 (by decide) (by omega) (by omega) (fun c130 => absurd c130 (by omega)) (fun _ => ?_)
          refine z_aload_n hX 2 dX7_bridge_133 rfl ?_
          refine z_get (v := .ref (ad 0)) hX fX7 0 0 rfl rfl (Nat.le_of_ble_eq_true rfl) fl_X7_7 rfl dX7_bridge_134 ?_
          refine z_bipush (v := nI 7) hX dX7_bridge_137 (by decide) ?_
          refine z_iload_n hX 0 dX7_bridge_139 rfl ?_
          refine z_iadd (v := (nI 9)) hX dX7_bridge_140 ((nI_add _ _).trans (congrArg nI (by omega))) ?_
          refine z_aload_n hX 2 dX7_bridge_141 rfl ?_
          refine z_get (v := .ref (ad 6)) hX fX7 0 6 rfl rfl (Nat.le_of_ble_eq_true rfl) fl_X7_16 rfl dX7_bridge_142 ?_
          refine z_iload_n hX 0 dX7_bridge_145 rfl ?_
          refine z_iald (v := (nI (rs2_4 2))) hX 3 (j := 2) rfl (by omega) (by decide) rfl dX7_bridge_146 ?_
          refine z_iast (ws' := [ob x 7 (rf ad (va_up (va_up (va_up (va_up (va_up v 3 0) 7 ((lsB tau (v 3)).2.2)) 10 0) 4 (skp tau (v 3) ((crS tau (v 3) (skp tau (v 3) ((lsB tau (v 3)).2.1 + 1)) 6).2.1))) 5 0)), ia G (ad 0) 29 (fN (va_up (va_up (va_up (va_up (va_up (va_up (va_up (va_up (va_up (va_up s 0 0) 1 0) 2 0) 3 0) 4 0) 5 0) 2 ((lsB tau (v 3)).2.2)) 7 (rs2_4 0)) 8 (rs2_4 1)) 9 (rs2_4 2))), ia G (ad 2) 80 (fN tau), ia G (ad 6) 4 (fN rs2_4), ia G (ad 8) 18 (fN A2_8)]) hX 1 (j := 9) rfl (by omega) (by decide) (updN _ _ _) rfl dX7_bridge_147 ?_
          refine z_iinc (v := (nI 3)) (L' := [(2, .int (nI 3)), (1, .int (nI ((crS tau (v 3) (skp tau (v 3) ((lsB tau (v 3)).2.1 + 1)) 6).2.2.1))), (0, .ref x)]) hX 0 dX7_bridge_148 rfl (by decide) (Nat.le_of_ble_eq_true rfl) rfl ?_
          refine z_goto (tgt := 128) hX dX7_bridge_151 (by decide) ?_
          refine z_iload_n hX 0 dX7_bridge_128 rfl ?_
          refine z_iconst (v := nI 4) hX dX7_bridge_129 (by decide) ?_
          refine zn_icmp_ge (tgt := 154) hX dX7_bridge_130 (by decide) (by omega) (by omega) (fun c130 => absurd c130 (by omega)) (fun _ => ?_)
          refine z_aload_n hX 2 dX7_bridge_133 rfl ?_
          refine z_get (v := .ref (ad 0)) hX fX7 0 0 rfl rfl (Nat.le_of_ble_eq_true rfl) fl_X7_7 rfl dX7_bridge_134 ?_
          refine z_bipush (v := nI 7) hX dX7_bridge_137 (by decide) ?_
          refine z_iload_n hX 0 dX7_bridge_139 rfl ?_
          refine z_iadd (v := (nI 10)) hX dX7_bridge_140 ((nI_add _ _).trans (congrArg nI (by omega))) ?_
          refine z_aload_n hX 2 dX7_bridge_141 rfl ?_
          refine z_get (v := .ref (ad 6)) hX fX7 0 6 rfl rfl (Nat.le_of_ble_eq_true rfl) fl_X7_16 rfl dX7_bridge_142 ?_
          refine z_iload_n hX 0 dX7_bridge_145 rfl ?_
          refine z_iald (v := (nI (rs2_4 3))) hX 3 (j := 3) rfl (by omega) (by decide) rfl dX7_bridge_146 ?_
          refine z_iast (ws' := [ob x 7 (rf ad (va_up (va_up (va_up (va_up (va_up v 3 0) 7 ((lsB tau (v 3)).2.2)) 10 0) 4 (skp tau (v 3) ((crS tau (v 3) (skp tau (v 3) ((lsB tau (v 3)).2.1 + 1)) 6).2.1))) 5 0)), ia G (ad 0) 29 (fN (va_up (va_up (va_up (va_up (va_up (va_up (va_up (va_up (va_up (va_up (va_up s 0 0) 1 0) 2 0) 3 0) 4 0) 5 0) 2 ((lsB tau (v 3)).2.2)) 7 (rs2_4 0)) 8 (rs2_4 1)) 9 (rs2_4 2)) 10 (rs2_4 3))), ia G (ad 2) 80 (fN tau), ia G (ad 6) 4 (fN rs2_4), ia G (ad 8) 18 (fN A2_8)]) hX 1 (j := 10) rfl (by omega) (by decide) (updN _ _ _) rfl dX7_bridge_147 ?_
          refine z_iinc (v := (nI 4)) (L' := [(2, .int (nI 4)), (1, .int (nI ((crS tau (v 3) (skp tau (v 3) ((lsB tau (v 3)).2.1 + 1)) 6).2.2.1))), (0, .ref x)]) hX 0 dX7_bridge_148 rfl (by decide) (Nat.le_of_ble_eq_true rfl) rfl ?_
          refine z_goto (tgt := 128) hX dX7_bridge_151 (by decide) ?_
          refine z_iload_n hX 0 dX7_bridge_128 rfl ?_
          refine z_iconst (v := nI 4) hX dX7_bridge_129 (by decide) ?_
          refine zn_icmp_ge (tgt := 154) hX dX7_bridge_130 (by decide) (by omega) (by omega) (fun _ => ?_) (fun c130 => absurd c130 (by omega))
          refine z_eq (ws' := [ob x 7 (rf ad (va_up (va_up (va_up (va_up (va_up v 3 0) 7 ((lsB tau (v 3)).2.2)) 10 0) 4 (skp tau (v 3) ((crS tau (v 3) (skp tau (v 3) ((lsB tau (v 3)).2.1 + 1)) 6).2.1))) 5 0)), ia G (ad 0) 29 (fN (brS s (1, 0, ((lsB tau (v 3)).2.2), 0, A2_8, rs2_4))), ia G (ad 2) 80 (fN tau), ia G (ad 6) 4 (fN rs2_4), ia G (ad 8) 18 (fN A2_8)]) (by rw [brS_up s A2_8]) ?_
          refine z_iconst (v := nI 0) hX dX7_bridge_154 (by decide) ?_
          refine z_istore_n (L' := [(2, .int (nI 0)), (1, .int (nI ((crS tau (v 3) (skp tau (v 3) ((lsB tau (v 3)).2.1 + 1)) 6).2.2.1))), (0, .ref x)]) hX dX7_bridge_155 (Nat.le_of_ble_eq_true rfl) rfl ?_
          have lp156 : ∀ (n156 : Nat) (i : Nat), (6 + 1 ≤ i + n156) → (i ≤ (crS tau (v 3) (skp tau (v 3) ((lsB tau (v 3)).2.1 + 1)) 6).2.2.1) → Z (X, G, A, H0, 3) 0 0 [ob x 7 (rf ad (va_up (va_up (va_up (va_up (va_up v 3 0) 7 ((lsB tau (v 3)).2.2)) 10 0) 4 (skp tau (v 3) ((crS tau (v 3) (skp tau (v 3) ((lsB tau (v 3)).2.1 + 1)) 6).2.1))) 5 0)), ia G (ad 0) 29 (fN (brS s (1, 0, ((lsB tau (v 3)).2.2), i, A2_8, rs2_4))), ia G (ad 2) 80 (fN tau), ia G (ad 6) 4 (fN rs2_4), ia G (ad 8) 18 (fN A2_8)] 156 [(0, .ref x), (1, .int (nI ((crS tau (v 3) (skp tau (v 3) ((lsB tau (v 3)).2.1 + 1)) 6).2.2.1))), (2, .int (nI i))] [] := by
            intro n156
            induction n156 with
            | zero =>
              intro i hn hi
              exfalso
              omega
            | succ n156 ih156 =>
              intro i hn hi
              refine z_iload_n hX 2 dX7_bridge_156 rfl ?_
              refine z_iload_n hX 1 dX7_bridge_157 rfl ?_
              refine zn_icmp_ge (tgt := 199) hX dX7_bridge_158 (by decide) (by omega) (by omega) (fun c158 => ?_) (fun c158 => ?_)
              · skip
                refine z_iload_n hX 1 dX7_bridge_199 rfl ?_
                have ei : i = (crS tau (v 3) (skp tau (v 3) ((lsB tau (v 3)).2.1 + 1)) 6).2.2.1 := by omega
                subst ei
                have e0 : okBr tau (v 3) = true := decide_eq_true (by rw [eB])
                refine z_iext (f' := fN (brS s (brB tau (v 3)))) (ws' := [ob x 7 (rf ad (va_up (va_up (va_up (va_up (va_up v 3 0) 7 ((lsB tau (v 3)).2.2)) 10 0) 4 (skp tau (v 3) ((crS tau (v 3) (skp tau (v 3) ((lsB tau (v 3)).2.1 + 1)) 6).2.1))) 5 0)), ia G (ad 0) 29 (fN (brS s (brB tau (v 3)))), ia G (ad 2) 80 (fN tau), ia G (ad 6) 4 (fN rs2_4), ia G (ad 8) 18 (fN A2_8)]) 1 rfl (fun j9 _ => congrArg nI (by rw [eB]; exact (brS_ext (fun j9 h9 => (hA j9 h9).symm) (fun j8 h8 => (hrs j8 h8).symm) j9).symm)) rfl ?_
                rw [e0] at hR
                exact hR _ ((va_up (va_up (va_up (va_up (va_up v 3 0) 7 ((lsB tau (v 3)).2.2)) 10 0) 4 (skp tau (v 3) ((crS tau (v 3) (skp tau (v 3) ((lsB tau (v 3)).2.1 + 1)) 6).2.1))) 5 0), rs2_4, A2_8) _ _ ⟨(by unfold spBridge; rw [if_pos e0, eB]), rfl, rfl, rfl, rfl⟩ dX7_bridge_200 rfl
              · skip
                refine z_aload_n hX 0 dX7_bridge_161 rfl ?_
                refine z_aload_n hX 0 dX7_bridge_162 rfl ?_
                refine z_get (v := .ref (ad 8)) hX fX7 0 8 rfl rfl (Nat.le_of_ble_eq_true rfl) fl_X7_19 rfl dX7_bridge_163 ?_
                refine z_iconst (v := nI 3) hX dX7_bridge_166 (by decide) ?_
                refine z_iload_n hX 2 dX7_bridge_167 rfl ?_
                refine z_imul (v := (nI (3 * i))) hX dX7_bridge_168 (pk_mul _ _) ?_
                refine z_iald (v := (nI (A2_8 (3 * i)))) hX 4 (j := (3 * i)) rfl (by omega) (by decide) rfl dX7_bridge_169 ?_
                refine z_aload_n hX 0 dX7_bridge_170 rfl ?_
                refine z_get (v := .ref (ad 8)) hX fX7 0 8 rfl rfl (Nat.le_of_ble_eq_true rfl) fl_X7_19 rfl dX7_bridge_171 ?_
                refine z_iconst (v := nI 3) hX dX7_bridge_174 (by decide) ?_
                refine z_iload_n hX 2 dX7_bridge_175 rfl ?_
                refine z_imul (v := (nI (3 * i))) hX dX7_bridge_176 (pk_mul _ _) ?_
                refine z_iconst (v := nI 1) hX dX7_bridge_177 (by decide) ?_
                refine z_iadd (v := (nI (3 * i + 1))) hX dX7_bridge_178 (nI_add _ _) ?_
                refine z_iald (v := (nI (A2_8 (3 * i + 1)))) hX 4 (j := (3 * i + 1)) rfl (by omega) (by decide) rfl dX7_bridge_179 ?_
                refine z_aload_n hX 0 dX7_bridge_180 rfl ?_
                refine z_get (v := .ref (ad 8)) hX fX7 0 8 rfl rfl (Nat.le_of_ble_eq_true rfl) fl_X7_19 rfl dX7_bridge_181 ?_
                refine z_iconst (v := nI 3) hX dX7_bridge_184 (by decide) ?_
                refine z_iload_n hX 2 dX7_bridge_185 rfl ?_
                refine z_imul (v := (nI (3 * i))) hX dX7_bridge_186 (pk_mul _ _) ?_
                refine z_iconst (v := nI 2) hX dX7_bridge_187 (by decide) ?_
                refine z_iadd (v := (nI (3 * i + 2))) hX dX7_bridge_188 (nI_add _ _) ?_
                refine z_iald (v := (nI (A2_8 (3 * i + 2)))) hX 4 (j := (3 * i + 2)) rfl (by omega) (by decide) rfl dX7_bridge_189 ?_
                refine z_callVv (st := []) hX (c_X7_personComes _ G x ad (va_up (va_up (va_up (va_up (va_up v 3 0) 7 ((lsB tau (v 3)).2.2)) 10 0) 4 (skp tau (v 3) ((crS tau (v 3) (skp tau (v 3) ((lsB tau (v 3)).2.1 + 1)) 6).2.1))) 5 0) (brS s (1, 0, ((lsB tau (v 3)).2.2), i, A2_8, rs2_4)) (A2_8 (3 * i)) (A2_8 (3 * i + 1)) (A2_8 (3 * i + 2)) (show i < 6 by omega)) lb_X7_personComes ml_X7_95 (fun (_u : Unit) => [ob x 7 (rf ad (va_up (va_up (va_up (va_up (va_up (va_up v 3 0) 7 ((lsB tau (v 3)).2.2)) 10 0) 4 (skp tau (v 3) ((crS tau (v 3) (skp tau (v 3) ((lsB tau (v 3)).2.1 + 1)) 6).2.1))) 5 0) 10 0)), ia G (ad 0) 29 (fN (joinS (brS s (1, 0, ((lsB tau (v 3)).2.2), i, A2_8, rs2_4)) (A2_8 (3 * i)) (A2_8 (3 * i + 1)) (A2_8 (3 * i + 2)))), ia G (ad 2) 80 (fN tau), ia G (ad 6) 4 (fN rs2_4), ia G (ad 8) 18 (fN A2_8)]) (wr := [ia G (ad 2) 80 (fN tau), ia G (ad 6) 4 (fN rs2_4), ia G (ad 8) 18 (fN A2_8)]) [0, 1] [2, 3, 4] [3, 4, 0, 1, 2] ⟨rfl, rfl, rfl, fun _ => rfl⟩ 0 rfl rfl rfl rfl ⟨Nat.le_refl _, Nat.le_refl _⟩ dX7_bridge_190 rfl (fun  u190 hw190 => ?_)
                refine z_eq (ws' := [ob x 7 (rf ad (va_up (va_up (va_up (va_up (va_up v 3 0) 7 ((lsB tau (v 3)).2.2)) 10 0) 4 (skp tau (v 3) ((crS tau (v 3) (skp tau (v 3) ((lsB tau (v 3)).2.1 + 1)) 6).2.1))) 5 0)), ia G (ad 0) 29 (fN (brS s (1, 0, ((lsB tau (v 3)).2.2), (i + 1), A2_8, rs2_4))), ia G (ad 2) 80 (fN tau), ia G (ad 6) 4 (fN rs2_4), ia G (ad 8) 18 (fN A2_8)]) (by rw [joinS_brS]; rfl) ?_
                refine z_iinc (v := (nI (i + 1))) (L' := [(2, .int (nI (i + 1))), (0, .ref x), (1, .int (nI ((crS tau (v 3) (skp tau (v 3) ((lsB tau (v 3)).2.1 + 1)) 6).2.2.1)))]) hX 2 dX7_bridge_193 rfl (nI_inc _) (Nat.le_of_ble_eq_true rfl) rfl ?_
                refine z_goto (tgt := 156) hX dX7_bridge_196 (by decide) ?_
                refine z_lsub [1, 2, 0] rfl ?_
                exact ih156 (i + 1) (by omega) (by omega)
          refine z_lsub [2, 1, 0] rfl ?_
          exact lp156 7 0 (by omega) (by omega)
        · skip
          rw [y3] at c59
          have eF : (brB tau (v 3)).1 = 0 ∧ (brB tau (v 3)).2.1 = skp tau (v 3) ((crS tau (v 3) (skp tau (v 3) ((lsB tau (v 3)).2.1 + 1)) 6).2.1) := by
            rw [eB, fb_0 c59, y3]
            exact ⟨rfl, rfl⟩
          refine z_iconst (v := nI 1) hX dX7_bridge_62 (by decide) ?_
          refine z_goto (tgt := 67) hX dX7_bridge_63 (by decide) ?_
          refine z_put (v := .int (nI 1)) (ws' := [ob x 7 (rf ad (va_up (va_up (va_up v 7 ((lsB tau (v 3)).2.2)) 4 (skp tau (v 3) ((crS tau (v 3) (skp tau (v 3) ((lsB tau (v 3)).2.1 + 1)) 6).2.1))) 5 1)), ia G (ad 0) 29 (fN s), ia G (ad 2) 80 (fN tau), ia G (ad 6) 4 (fN rs2_4), ia G (ad 8) 18 (fN A2_8)]) hX fX7 0 5 rfl rfl (Nat.le_of_ble_eq_true rfl) fl_X7_119 rfl rfl rfl rfl rfl dX7_bridge_67 ?_
          refine z_aload_n hX 1 dX7_bridge_70 rfl ?_
          refine z_iconst (v := nI 0) hX dX7_bridge_71 (by decide) ?_
          refine z_put (v := .int (nI 0)) (ws' := [ob x 7 (rf ad (va_up (va_up (va_up (va_up v 3 0) 7 ((lsB tau (v 3)).2.2)) 4 (skp tau (v 3) ((crS tau (v 3) (skp tau (v 3) ((lsB tau (v 3)).2.1 + 1)) 6).2.1))) 5 1)), ia G (ad 0) 29 (fN s), ia G (ad 2) 80 (fN tau), ia G (ad 6) 4 (fN rs2_4), ia G (ad 8) 18 (fN A2_8)]) hX fX7 0 3 rfl rfl (Nat.le_of_ble_eq_true rfl) fl_X7_113 rfl rfl rfl rfl rfl dX7_bridge_72 ?_
          refine z_aload_n hX 1 dX7_bridge_75 rfl ?_
          refine z_get (v := .int (nI 1)) hX fX7 0 5 rfl rfl (Nat.le_of_ble_eq_true rfl) fl_X7_119 rfl dX7_bridge_76 ?_
          refine zn_if_eq (tgt := 90) hX dX7_bridge_79 (by decide) (by omega) (fun c79 => absurd c79 (by omega)) (fun _ => ?_)
          refine z_bipush (v := (-20)) hX dX7_bridge_82 (by decide) ?_
          refine z_aload_n hX 1 dX7_bridge_84 rfl ?_
          refine z_get (v := .int (nI (skp tau (v 3) ((crS tau (v 3) (skp tau (v 3) ((lsB tau (v 3)).2.1 + 1)) 6).2.1)))) hX fX7 0 4 rfl rfl (Nat.le_of_ble_eq_true rfl) fl_X7_116 rfl dX7_bridge_85 ?_
          refine z_isub (v := (-20 - nI (skp tau (v 3) ((crS tau (v 3) (skp tau (v 3) ((lsB tau (v 3)).2.1 + 1)) 6).2.1)))) hX dX7_bridge_88 rfl ?_
          have e0 : okBr tau (v 3) = false := decide_eq_false (by rw [eF.1]; decide)
          rw [e0] at hR
          exact hR _ ((va_up (va_up (va_up (va_up v 3 0) 7 ((lsB tau (v 3)).2.2)) 4 (skp tau (v 3) ((crS tau (v 3) (skp tau (v 3) ((lsB tau (v 3)).2.1 + 1)) 6).2.1))) 5 1), rs2_4, A2_8) _ _ ⟨(by unfold spBridge; rw [if_neg (by rw [e0]; decide), eF.2]), rfl, rfl, rfl, rfl⟩ dX7_bridge_89 rfl
