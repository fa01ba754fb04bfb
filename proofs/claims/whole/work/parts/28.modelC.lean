def UH (u : Nat) (U : nst) (h : Nat → nst) : Prop := ∀ j, j < u → ∀ k, k < 29 → U (29 * j + k) = h j k
theorem UH_lt {u : Nat} {U W : nst} {h : Nat → nst} {s : nst} (H : UH u U h) (hu : u < 8) (h1 : ∀ i, i < 29 * u → W i = U i) (h2 : ∀ i, i < 29 → W (29 * u + i) = s i) : UH (u + 1) W (pushH u h s) := by
  intro j hj k hk
  unfold pushH
  rw [if_neg (by omega)]
  by_cases e : j = u
  · subst e
    rw [up_eq]
    exact h2 k hk
  · rw [up_ne e, h1 _ (by omega)]
    exact H j (by omega) k hk
theorem UH_8 {U V W : nst} {h : Nat → nst} {s : nst} (H : UH 8 U h) (h0 : ∀ i, i < 203 → V i = U (i + 29)) (h1 : ∀ i, i < 29 * 7 → W i = V i) (h2 : ∀ i, i < 29 → W (29 * 7 + i) = s i) : UH 8 W (pushH 8 h s) := by
  intro j hj k hk
  unfold pushH
  rw [if_pos rfl]
  by_cases e : j = 7
  · subst e
    rw [up_eq]
    exact h2 k hk
  · rw [up_ne e, h1 _ (by omega), h0 _ (by omega), show 29 * j + k + 29 = 29 * (j + 1) + k by omega]
    exact H (j + 1) (by omega) k hk
theorem inb_cast {x : Int32} {N : Nat} (h : 0 < N) (hb : inb x 0 ((N - 1 : Nat) : Int) = false) : inb x 0 ((N : Nat) - 1 : Int) = false := by
  have e : ((N - 1 : Nat) : Int) = (N : Nat) - 1 := by omega
  rw [← e]
  exact hb
set_option maxRecDepth 100000 in
set_option maxHeartbeats 4000000 in
theorem c_X7_isPerson (l : Launch) (G : zG) (x : Nat) (ad : Nat → Nat) (v : Nat → Nat) (s : nst) (p : Int32) (h0 : s 0 < 2147483648) : zMi l G yX7_isPerson cX7_isPerson 2 .boolean 1 0 0 25 [.ref x, .int p] [ob x 7 (rf ad v), ia G (ad 0) 29 (fN s)] (fun (r : Int32) (_u : Unit) => (∃ j, j < s 0 ∧ p = nI j ∧ r = nI 1) ∨ (inb p 0 ((s 0 : Nat) - 1 : Int) = false ∧ r = nI 0)) (fun (_u : Unit) => [ob x 7 (rf ad v), ia G (ad 0) 29 (fN s)]) := by
  refine zMi.of (by decide) rfl (fun X A H0 hX hXl hR => ?_)
  show Z (X, G, A, H0, 2) 0 0 [ob x 7 (rf ad v), ia G (ad 0) 29 (fN s)] 0 [(0, .ref x), (1, .int p)] []
  subst hXl
  refine z_iload_n hX 1 dX7_isPerson_0 rfl ?_
  refine z_i2l (v := (p.toInt64)) hX dX7_isPerson_1 rfl ?_
  refine z_lconst (v := lN 0) hX dX7_isPerson_2 (by decide) ?_
  refine z_aload_n hX 0 dX7_isPerson_3 rfl ?_
  refine z_get (v := .ref (ad 0)) hX fX7 0 0 rfl rfl (Nat.le_of_ble_eq_true rfl) fl_X7_7 rfl dX7_isPerson_4 ?_
  refine z_iconst (v := nI 0) hX dX7_isPerson_7 (by decide) ?_
  refine z_iald (v := (nI (s 0))) hX 1 (j := 0) rfl (by omega) (by decide) rfl dX7_isPerson_8 ?_
  rcases Nat.eq_zero_or_pos (s 0) with q9 | q9
  · skip
    refine z_iconst (v := nI 1) hX dX7_isPerson_9 (by decide) ?_
    refine z_isub (v := (-1)) hX dX7_isPerson_10 (by rw [q9]; decide) ?_
    refine z_i2l (v := ((-1).toInt64)) hX dX7_isPerson_11 rfl ?_
    refine z_callSi (st := []) hX (c_X7_inE _ G p ) lb_X7_in ml_X7_44 (fun (_u : Unit) => [ob x 7 (rf ad v), ia G (ad 0) 29 (fN s)]) (wr := [ob x 7 (rf ad v), ia G (ad 0) 29 (fN s)]) [] [0, 1] [0, 1] ⟨rfl, rfl, rfl, fun _ => rfl⟩ rfl rfl ⟨Nat.le_refl _, Nat.le_refl _⟩ dX7_isPerson_12 rfl (fun r12 u12 hw12 => ?_)
    subst hw12
    exact hR _ () _ _ (Or.inr ⟨by rw [q9]; exact inb_none (by decide), rfl⟩) dX7_isPerson_15 rfl
  · skip
    refine z_iconst (v := nI 1) hX dX7_isPerson_9 (by decide) ?_
    refine z_isub (v := (nI (s 0 - 1))) hX dX7_isPerson_10 (pk_sub (by omega)) ?_
    refine z_i2l (v := (lN (s 0 - 1))) hX dX7_isPerson_11 (nI_l (by omega)) ?_
    refine z_callSi (st := []) hX (c_X7_inX _ G p 0 (s 0 - 1) (by omega) (by omega)) lb_X7_in ml_X7_44 (fun (_u : Unit) => [ob x 7 (rf ad v), ia G (ad 0) 29 (fN s)]) (wr := [ob x 7 (rf ad v), ia G (ad 0) 29 (fN s)]) [] [0, 1] [0, 1] ⟨rfl, rfl, rfl, fun _ => rfl⟩ rfl rfl ⟨Nat.le_refl _, Nat.le_refl _⟩ dX7_isPerson_12 rfl (fun r12 u12 hw12 => ?_)
    try dsimp only at hw12
    rcases hw12 with ⟨pj, hpl, hph, rfl, rfl⟩ | ⟨hw12, rfl⟩
    · skip
      exact hR _ () _ _ (Or.inl ⟨_, by omega, rfl, rfl⟩) dX7_isPerson_15 rfl
    · have hb_p : inb p 0 ((s 0 - 1 : Nat) : Int) = false := hw12
      exact hR _ () _ _ (Or.inr ⟨inb_cast q9 hb_p, rfl⟩) dX7_isPerson_15 rfl
set_option maxRecDepth 100000 in
set_option maxHeartbeats 4000000 in
theorem c_X7_isArch (l : Launch) (G : zG) (a : Int32)  : zMi l G yX7_isArch cX7_isArch 1 .boolean 1 0 0 25 [.int a] [] (fun (r : Int32) (_u : Unit) => (∃ j, 0 ≤ j ∧ j ≤ 3 ∧ a = nI j ∧ r = nI 1) ∨ (inb a 0 3 = false ∧ r = nI 0)) (fun (_u : Unit) => []) := by
  refine zMi.of (by decide) rfl (fun X A H0 hX hXl hR => ?_)
  show Z (X, G, A, H0, 1) 0 0 [] 0 [(0, .int a)] []
  subst hXl
  refine z_iload_n hX 0 dX7_isArch_0 rfl ?_
  refine z_i2l (v := (a.toInt64)) hX dX7_isArch_1 rfl ?_
  refine z_lconst (v := lN 0) hX dX7_isArch_2 (by decide) ?_
  refine z_ldc2 (v := lN 3) hX kl_X7_48 dX7_isArch_3 ?_
  refine z_callSi (st := []) hX (c_X7_inX _ G a 0 3 (by omega) (by omega)) lb_X7_in ml_X7_44 (fun (_u : Unit) => []) (wr := []) [] [] [] ⟨rfl, rfl, rfl, fun _ => rfl⟩ rfl rfl ⟨Nat.le_refl _, Nat.le_refl _⟩ dX7_isArch_6 rfl (fun r6 u6 hw6 => ?_)
  try dsimp only at hw6
  rcases hw6 with ⟨aj, hal, hah, rfl, rfl⟩ | ⟨hw6, rfl⟩
  · skip
    exact hR _ () _ _ (Or.inl ⟨_, hal, hah, rfl, rfl⟩) dX7_isArch_9 rfl
  · have hb_a : inb a 0 3 = false := hw6
    exact hR _ () _ _ (Or.inr ⟨hb_a, rfl⟩) dX7_isArch_9 rfl
set_option maxRecDepth 100000 in
set_option maxHeartbeats 4000000 in
theorem c_X7_isSheet (l : Launch) (G : zG) (a : Int32)  : zMi l G yX7_isSheet cX7_isSheet 1 .boolean 1 0 0 25 [.int a] [] (fun (r : Int32) (_u : Unit) => (∃ j, 0 ≤ j ∧ j ≤ 3 ∧ a = nI j ∧ r = nI 1) ∨ (inb a 0 3 = false ∧ r = nI 0)) (fun (_u : Unit) => []) := by
  refine zMi.of (by decide) rfl (fun X A H0 hX hXl hR => ?_)
  show Z (X, G, A, H0, 1) 0 0 [] 0 [(0, .int a)] []
  subst hXl
  refine z_iload_n hX 0 dX7_isSheet_0 rfl ?_
  refine z_i2l (v := (a.toInt64)) hX dX7_isSheet_1 rfl ?_
  refine z_lconst (v := lN 0) hX dX7_isSheet_2 (by decide) ?_
  refine z_ldc2 (v := lN 3) hX kl_X7_48 dX7_isSheet_3 ?_
  refine z_callSi (st := []) hX (c_X7_inX _ G a 0 3 (by omega) (by omega)) lb_X7_in ml_X7_44 (fun (_u : Unit) => []) (wr := []) [] [] [] ⟨rfl, rfl, rfl, fun _ => rfl⟩ rfl rfl ⟨Nat.le_refl _, Nat.le_refl _⟩ dX7_isSheet_6 rfl (fun r6 u6 hw6 => ?_)
  try dsimp only at hw6
  rcases hw6 with ⟨aj, hal, hah, rfl, rfl⟩ | ⟨hw6, rfl⟩
  · skip
    exact hR _ () _ _ (Or.inl ⟨_, hal, hah, rfl, rfl⟩) dX7_isSheet_9 rfl
  · have hb_a : inb a 0 3 = false := hw6
    exact hR _ () _ _ (Or.inr ⟨hb_a, rfl⟩) dX7_isSheet_9 rfl
set_option maxRecDepth 100000 in
set_option maxHeartbeats 4000000 in
theorem c_X7_isLane (l : Launch) (G : zG) (a : Int32)  : zMi l G yX7_isLane cX7_isLane 1 .boolean 1 0 0 25 [.int a] [] (fun (r : Int32) (_u : Unit) => (∃ j, 0 ≤ j ∧ j ≤ 3 ∧ a = nI j ∧ r = nI 1) ∨ (inb a 0 3 = false ∧ r = nI 0)) (fun (_u : Unit) => []) := by
  refine zMi.of (by decide) rfl (fun X A H0 hX hXl hR => ?_)
  show Z (X, G, A, H0, 1) 0 0 [] 0 [(0, .int a)] []
  subst hXl
  refine z_iload_n hX 0 dX7_isLane_0 rfl ?_
  refine z_i2l (v := (a.toInt64)) hX dX7_isLane_1 rfl ?_
  refine z_lconst (v := lN 0) hX dX7_isLane_2 (by decide) ?_
  refine z_ldc2 (v := lN 3) hX kl_X7_48 dX7_isLane_3 ?_
  refine z_callSi (st := []) hX (c_X7_inX _ G a 0 3 (by omega) (by omega)) lb_X7_in ml_X7_44 (fun (_u : Unit) => []) (wr := []) [] [] [] ⟨rfl, rfl, rfl, fun _ => rfl⟩ rfl rfl ⟨Nat.le_refl _, Nat.le_refl _⟩ dX7_isLane_6 rfl (fun r6 u6 hw6 => ?_)
  try dsimp only at hw6
  rcases hw6 with ⟨aj, hal, hah, rfl, rfl⟩ | ⟨hw6, rfl⟩
  · skip
    exact hR _ () _ _ (Or.inl ⟨_, hal, hah, rfl, rfl⟩) dX7_isLane_9 rfl
  · have hb_a : inb a 0 3 = false := hw6
    exact hR _ () _ _ (Or.inr ⟨hb_a, rfl⟩) dX7_isLane_9 rfl
set_option maxRecDepth 100000 in
set_option maxHeartbeats 4000000 in
theorem c_X7_personComes (l : Launch) (G : zG) (x : Nat) (ad : Nat → Nat) (v : Nat → Nat) (s : nst) (kd : Nat) (lk : Nat) (ev : Nat) (h0 : s 0 < 6) : zMv l G yX7_personComes cX7_personComes 5 0 0 0 0 [.ref x, .int (nI kd), .int (nI lk), .int (nI ev)] [ob x 7 (rf ad v), ia G (ad 0) 29 (fN s)] (fun (_u : Unit) => True) (fun (_u : Unit) => [ob x 7 (rf ad (va_up v 10 0)), ia G (ad 0) 29 (fN (joinS s kd lk ev))]) := by
  refine zMv.of (by decide) rfl (fun X A H0 hX hXl hnm hR => ?_)
  show Z (X, G, A, H0, 5) 0 0 [ob x 7 (rf ad v), ia G (ad 0) 29 (fN s)] 0 [(0, .ref x), (1, .int (nI kd)), (2, .int (nI lk)), (3, .int (nI ev))] []
  subst hXl
  refine z_bipush (v := nI 11) hX dX7_personComes_0 (by decide) ?_
  refine z_iconst (v := nI 3) hX dX7_personComes_2 (by decide) ?_
  refine z_aload_n hX 0 dX7_personComes_3 rfl ?_
  refine z_get (v := .ref (ad 0)) hX fX7 0 0 rfl rfl (Nat.le_of_ble_eq_true rfl) fl_X7_7 rfl dX7_personComes_4 ?_
  refine z_iconst (v := nI 0) hX dX7_personComes_7 (by decide) ?_
  refine z_iald (v := (nI (s 0))) hX 1 (j := 0) rfl (by omega) (by decide) rfl dX7_personComes_8 ?_
  refine z_imul (v := (nI (3 * (s 0)))) hX dX7_personComes_9 ((pk_mul _ _).trans (congrArg nI (by omega))) ?_
  refine z_iadd (v := (nI (11 + 3 * (s 0)))) hX dX7_personComes_10 (nI_add _ _) ?_
  refine z_istore (L' := [(4, .int (nI (11 + 3 * (s 0)))), (0, .ref x), (1, .int (nI kd)), (2, .int (nI lk)), (3, .int (nI ev))]) hX dX7_personComes_11 (Nat.le_of_ble_eq_true rfl) rfl ?_
  refine z_aload_n hX 1 dX7_personComes_13 rfl ?_
  refine z_get (v := .ref (ad 0)) hX fX7 0 0 rfl rfl (Nat.le_of_ble_eq_true rfl) fl_X7_7 rfl dX7_personComes_14 ?_
  refine z_iload hX 0 dX7_personComes_17 rfl ?_
  refine z_iload_n hX 2 dX7_personComes_19 rfl ?_
  refine z_iast (ws' := [ob x 7 (rf ad v), ia G (ad 0) 29 (fN (va_up s (11 + 3 * (s 0)) kd))]) hX 1 (j := (11 + 3 * (s 0))) rfl (by omega) (by decide) (updN _ _ _) rfl dX7_personComes_20 ?_
  refine z_aload_n hX 1 dX7_personComes_21 rfl ?_
  refine z_get (v := .ref (ad 0)) hX fX7 0 0 rfl rfl (Nat.le_of_ble_eq_true rfl) fl_X7_7 rfl dX7_personComes_22 ?_
  refine z_iload hX 0 dX7_personComes_25 rfl ?_
  refine z_iconst (v := nI 1) hX dX7_personComes_27 (by decide) ?_
  refine z_iadd (v := (nI (12 + 3 * (s 0)))) hX dX7_personComes_28 ((nI_add _ _).trans (congrArg nI (by omega))) ?_
  refine z_iload_n hX 3 dX7_personComes_29 rfl ?_
  refine z_iast (ws' := [ob x 7 (rf ad v), ia G (ad 0) 29 (fN (va_up (va_up s (11 + 3 * (s 0)) kd) (12 + 3 * (s 0)) lk))]) hX 1 (j := (12 + 3 * (s 0))) rfl (by omega) (by decide) (updN _ _ _) rfl dX7_personComes_30 ?_
  refine z_aload_n hX 1 dX7_personComes_31 rfl ?_
  refine z_get (v := .ref (ad 0)) hX fX7 0 0 rfl rfl (Nat.le_of_ble_eq_true rfl) fl_X7_7 rfl dX7_personComes_32 ?_
  refine z_iload hX 0 dX7_personComes_35 rfl ?_
  refine z_iconst (v := nI 2) hX dX7_personComes_37 (by decide) ?_
  refine z_iadd (v := (nI (13 + 3 * (s 0)))) hX dX7_personComes_38 ((nI_add _ _).trans (congrArg nI (by omega))) ?_
  refine z_iload_n hX 4 dX7_personComes_39 rfl ?_
  refine z_iast (ws' := [ob x 7 (rf ad v), ia G (ad 0) 29 (fN (va_up (va_up (va_up s (11 + 3 * (s 0)) kd) (12 + 3 * (s 0)) lk) (13 + 3 * (s 0)) ev))]) hX 1 (j := (13 + 3 * (s 0))) rfl (by omega) (by decide) (updN _ _ _) rfl dX7_personComes_40 ?_
  refine z_aload_n hX 1 dX7_personComes_41 rfl ?_
  refine z_get (v := .ref (ad 0)) hX fX7 0 0 rfl rfl (Nat.le_of_ble_eq_true rfl) fl_X7_7 rfl dX7_personComes_42 ?_
  refine z_iconst (v := nI 0) hX dX7_personComes_45 (by decide) ?_
  refine z_dup2 hX dX7_personComes_46 rfl rfl ?_
  refine z_iald (v := (nI (s 0))) hX 1 (j := 0) rfl (by omega) (by decide) (congrArg nI (by rw [up_ne (by omega), up_ne (by omega), up_ne (by omega)])) dX7_personComes_47 ?_
  refine z_iconst (v := nI 1) hX dX7_personComes_48 (by decide) ?_
  refine z_iadd (v := (nI (s 0 + 1))) hX dX7_personComes_49 (nI_add _ _) ?_
  refine z_iast (ws' := [ob x 7 (rf ad v), ia G (ad 0) 29 (fN (va_up (va_up (va_up (va_up s (11 + 3 * (s 0)) kd) (12 + 3 * (s 0)) lk) (13 + 3 * (s 0)) ev) 0 (s 0 + 1)))]) hX 1 (j := 0) rfl (by omega) (by decide) (updN _ _ _) rfl dX7_personComes_50 ?_
  refine z_aload_n hX 1 dX7_personComes_51 rfl ?_
  refine z_iconst (v := nI 0) hX dX7_personComes_52 (by decide) ?_
  refine z_put (v := .int (nI 0)) (ws' := [ob x 7 (rf ad (va_up v 10 0)), ia G (ad 0) 29 (fN (va_up (va_up (va_up (va_up s (11 + 3 * (s 0)) kd) (12 + 3 * (s 0)) lk) (13 + 3 * (s 0)) ev) 0 (s 0 + 1)))]) hX fX7 0 10 rfl rfl (Nat.le_of_ble_eq_true rfl) fl_X7_86 rfl rfl rfl rfl rfl dX7_personComes_53 ?_
  exact hR () _ _ trivial dX7_personComes_56
set_option maxRecDepth 100000 in
set_option maxHeartbeats 4000000 in
theorem c_X7_holes (l : Launch) (G : zG) (x : Nat) (ad : Nat → Nat) (v : Nat → Nat) (s : nst) (h0 : ∀ j, j < 4 → s (7 + j) ≤ 40) : zMi l G yX7_holes cX7_holes 3 .int 0 0 0 0 [.ref x] [ob x 7 (rf ad v), ia G (ad 0) 29 (fN s)] (fun (r : Int32) (_u : Unit) => r = nI (holesTo s 4)) (fun (_u : Unit) => [ob x 7 (rf ad v), ia G (ad 0) 29 (fN s)]) := by
  refine zMi.of (by decide) rfl (fun X A H0 hX hXl hR => ?_)
  show Z (X, G, A, H0, 3) 0 0 [ob x 7 (rf ad v), ia G (ad 0) 29 (fN s)] 0 [(0, .ref x)] []
  subst hXl
  refine z_iconst (v := nI 0) hX dX7_holes_0 (by decide) ?_
  refine z_istore_n (L' := [(1, .int (nI 0)), (0, .ref x)]) hX dX7_holes_1 (Nat.le_of_ble_eq_true rfl) rfl ?_
  refine z_iconst (v := nI 0) hX dX7_holes_2 (by decide) ?_
  refine z_istore_n (L' := [(2, .int (nI 0)), (1, .int (nI 0)), (0, .ref x)]) hX dX7_holes_3 (Nat.le_of_ble_eq_true rfl) rfl ?_
  have lp4 : ∀ (n4 : Nat) (j : Nat) (e : Nat), (4 + 1 ≤ j + n4) → (j ≤ 4) → (e = holesTo s j) → Z (X, G, A, H0, 3) 0 0 [ob x 7 (rf ad v), ia G (ad 0) 29 (fN s)] 4 [(0, .ref x), (1, .int (nI e)), (2, .int (nI j))] [] := by
    intro n4
    induction n4 with
    | zero =>
      intro j e hn hj he
      exfalso
      omega
    | succ n4 ih4 =>
      intro j e hn hj he
      refine z_iload_n hX 2 dX7_holes_4 rfl ?_
      refine z_iconst (v := nI 4) hX dX7_holes_5 (by decide) ?_
      refine zn_icmp_ge (tgt := 37) hX dX7_holes_6 (by decide) (by omega) (by omega) (fun c6 => ?_) (fun c6 => ?_)
      · skip
        refine z_iload_n hX 1 dX7_holes_37 rfl ?_
        have ej : j = 4 := by omega
        subst ej
        rw [he]
        exact hR _ () _ _ rfl dX7_holes_38 rfl
      · skip
        have q1 := h0 j (by omega)
        refine z_iload_n hX 1 dX7_holes_9 rfl ?_
        refine z_aload_n hX 0 dX7_holes_10 rfl ?_
        refine z_get (v := .ref (ad 0)) hX fX7 0 0 rfl rfl (Nat.le_of_ble_eq_true rfl) fl_X7_7 rfl dX7_holes_11 ?_
        refine z_bipush (v := nI 7) hX dX7_holes_14 (by decide) ?_
        refine z_iload_n hX 2 dX7_holes_16 rfl ?_
        refine z_iadd (v := (nI (7 + j))) hX dX7_holes_17 (nI_add _ _) ?_
        refine z_iald (v := (nI (s (7 + j)))) hX 1 (j := (7 + j)) rfl (by omega) (by decide) rfl dX7_holes_18 ?_
        refine zn_if_ne (tgt := 28) hX dX7_holes_19 (by decide) (by omega) (fun c19 => ?_) (fun c19 => ?_)
        · skip
          refine z_iconst (v := nI 0) hX dX7_holes_28 (by decide) ?_
          refine z_ior (v := (nI e)) hX dX7_holes_29 ((or_nI _ _).trans (congrArg nI (Nat.or_zero _))) ?_
          refine z_istore_n (L' := [(1, .int (nI e)), (0, .ref x), (2, .int (nI j))]) hX dX7_holes_30 (Nat.le_of_ble_eq_true rfl) rfl ?_
          refine z_iinc (v := (nI (j + 1))) (L' := [(2, .int (nI (j + 1))), (1, .int (nI e)), (0, .ref x)]) hX 2 dX7_holes_31 rfl (nI_inc _) (Nat.le_of_ble_eq_true rfl) rfl ?_
          refine z_goto (tgt := 4) hX dX7_holes_34 (by decide) ?_
          refine z_lsub [2, 1, 0] rfl ?_
          exact ih4 (j + 1) e (by omega) (by omega) (by rw [holesTo, if_neg c19, he])
        · skip
          refine z_iconst (v := nI 1) hX dX7_holes_22 (by decide) ?_
          refine z_iload_n hX 2 dX7_holes_23 rfl ?_
          refine z_ishl (v := (nI (2 ^ j))) hX dX7_holes_24 (shl_nI _ (by omega)) ?_
          refine z_goto (tgt := 29) hX dX7_holes_25 (by decide) ?_
          refine z_ior (v := (nI (e ||| (2 ^ j)))) hX dX7_holes_29 (or_nI _ _) ?_
          refine z_istore_n (L' := [(1, .int (nI (e ||| (2 ^ j)))), (0, .ref x), (2, .int (nI j))]) hX dX7_holes_30 (Nat.le_of_ble_eq_true rfl) rfl ?_
          refine z_iinc (v := (nI (j + 1))) (L' := [(2, .int (nI (j + 1))), (1, .int (nI (e ||| (2 ^ j)))), (0, .ref x)]) hX 2 dX7_holes_31 rfl (nI_inc _) (Nat.le_of_ble_eq_true rfl) rfl ?_
          refine z_goto (tgt := 4) hX dX7_holes_34 (by decide) ?_
          refine z_lsub [2, 1, 0] rfl ?_
          exact ih4 (j + 1) (e ||| (2 ^ j)) (by omega) (by omega) (by rw [holesTo, if_pos c19, he])
  refine z_lsub [2, 1, 0] rfl ?_
  exact lp4 5 0 0 (by omega) (by omega) rfl
set_option maxRecDepth 100000 in
set_option maxHeartbeats 4000000 in
theorem c_X7_stones (l : Launch) (G : zG) (x : Nat) (ad : Nat → Nat) (v : Nat → Nat) (s : nst) (ar : Int32) (h0 : WF 9999 0 s) : zMi l G yX7_stones cX7_stones 2 .int 2 0 0 45 [.ref x, .int ar] [ob x 7 (rf ad v), ia G (ad 0) 29 (fN s)] (fun (r : Int32) (_u : Unit) => r = spStones s ar) (fun (_u : Unit) => [ob x 7 (rf ad v), ia G (ad 0) 29 (fN s)]) := by
  refine zMi.of (by decide) rfl (fun X A H0 hX hXl hR => ?_)
  show Z (X, G, A, H0, 2) 0 0 [ob x 7 (rf ad v), ia G (ad 0) 29 (fN s)] 0 [(0, .ref x), (1, .int ar)] []
  subst hXl
  refine z_iload_n hX 1 dX7_stones_0 rfl ?_
  refine z_callSi (st := []) hX (c_X7_isArch _ G ar ) lb_X7_isArch ml_X7_102 (fun (_u : Unit) => [ob x 7 (rf ad v), ia G (ad 0) 29 (fN s)]) (wr := [ob x 7 (rf ad v), ia G (ad 0) 29 (fN s)]) [] [0, 1] [0, 1] ⟨rfl, rfl, rfl, fun _ => rfl⟩ rfl rfl ⟨Nat.le_refl _, Nat.le_refl _⟩ dX7_stones_1 rfl (fun r1 u1 hw1 => ?_)
  try dsimp only at hw1
  rcases hw1 with ⟨arj, harl, harh, rfl, rfl⟩ | ⟨hw1, rfl⟩
  · skip
    refine zn_if_eq (tgt := 19) hX dX7_stones_4 (by decide) (by omega) (fun c4 => absurd c4 (by omega)) (fun _ => ?_)
    refine z_aload_n hX 0 dX7_stones_7 rfl ?_
    refine z_get (v := .ref (ad 0)) hX fX7 0 0 rfl rfl (Nat.le_of_ble_eq_true rfl) fl_X7_7 rfl dX7_stones_8 ?_
    refine z_bipush (v := nI 7) hX dX7_stones_11 (by decide) ?_
    refine z_iload_n hX 1 dX7_stones_13 rfl ?_
    refine z_iadd (v := (nI (7 + arj))) hX dX7_stones_14 (nI_add _ _) ?_
    refine z_iald (v := (nI (s (7 + arj)))) hX 1 (j := (7 + arj)) rfl (by omega) (by decide) rfl dX7_stones_15 ?_
    refine z_goto (tgt := 20) hX dX7_stones_16 (by decide) ?_
    exact hR _ () _ _ (by unfold spStones; rw [if_pos (inb_t (by omega) (by omega) (by omega)), gN_nI (by omega)]) dX7_stones_20 rfl
  · have hb_ar : inb ar 0 3 = false := hw1
    refine zn_if_eq (tgt := 19) hX dX7_stones_4 (by decide) (by omega) (fun _ => ?_) (fun c4 => absurd c4 (by omega))
    refine z_iconst (v := (-1)) hX dX7_stones_19 (by decide) ?_
    exact hR _ () _ _ (by unfold spStones; rw [if_neg (by simp [hb_ar])]) dX7_stones_20 rfl
set_option maxRecDepth 100000 in
set_option maxHeartbeats 4000000 in
theorem c_X7_wears (l : Launch) (G : zG) (x : Nat) (ad : Nat → Nat) (v : Nat → Nat) (s : nst) (p : Int32) (ar : Int32) (h0 : WF 9999 0 s) : zMi l G yX7_wears cX7_wears 3 .int 2 0 0 46 [.ref x, .int p, .int ar] [ob x 7 (rf ad v), ia G (ad 0) 29 (fN s)] (fun (r : Int32) (_u : Unit) => r = spWears s p ar) (fun (_u : Unit) => [ob x 7 (rf ad v), ia G (ad 0) 29 (fN s)]) := by
  refine zMi.of (by decide) rfl (fun X A H0 hX hXl hR => ?_)
  show Z (X, G, A, H0, 3) 0 0 [ob x 7 (rf ad v), ia G (ad 0) 29 (fN s)] 0 [(0, .ref x), (1, .int p), (2, .int ar)] []
  subst hXl
  have z0 := h0.1
  have z1 := h0.2.1
  have z2 := h0.2.2.1
  have z3 := h0.2.2.2.1
  refine z_aload_n hX 0 dX7_wears_0 rfl ?_
  refine z_iload_n hX 1 dX7_wears_1 rfl ?_
  refine z_callVi (st := []) hX (c_X7_isPerson _ G x ad v s p (by omega)) lb_X7_isPerson ml_X7_99 (fun (_u : Unit) => [ob x 7 (rf ad v), ia G (ad 0) 29 (fN s)]) (wr := []) [0, 1] [] [0, 1] ⟨rfl, rfl, rfl, fun _ => rfl⟩ 0 rfl rfl rfl rfl ⟨Nat.le_refl _, Nat.le_refl _⟩ dX7_wears_2 rfl (fun r2 u2 hw2 => ?_)
  try dsimp only at hw2
  rcases hw2 with ⟨pj, hph, rfl, rfl⟩ | ⟨hw2, rfl⟩
  · skip
    refine zn_if_eq (tgt := 24) hX dX7_wears_5 (by decide) (by omega) (fun c5 => absurd c5 (by omega)) (fun _ => ?_)
    refine z_iload_n hX 2 dX7_wears_8 rfl ?_
    refine z_callSi (st := []) hX (c_X7_isArch _ G ar ) lb_X7_isArch ml_X7_102 (fun (_u : Unit) => [ob x 7 (rf ad v), ia G (ad 0) 29 (fN s)]) (wr := [ob x 7 (rf ad v), ia G (ad 0) 29 (fN s)]) [] [0, 1] [0, 1] ⟨rfl, rfl, rfl, fun _ => rfl⟩ rfl rfl ⟨Nat.le_refl _, Nat.le_refl _⟩ dX7_wears_9 rfl (fun r9 u9 hw9 => ?_)
    try dsimp only at hw9
    rcases hw9 with ⟨arj, harl, harh, rfl, rfl⟩ | ⟨hw9, rfl⟩
    · skip
      refine zn_if_eq (tgt := 24) hX dX7_wears_12 (by decide) (by omega) (fun c12 => absurd c12 (by omega)) (fun _ => ?_)
      obtain ⟨x1, x2, x3, x4⟩ := h0.2.2.2.2.2.2 pj (by omega)
      refine z_aload_n hX 0 dX7_wears_15 rfl ?_
      refine z_iload_n hX 1 dX7_wears_16 rfl ?_
      refine z_iload_n hX 2 dX7_wears_17 rfl ?_
      refine z_callVi (st := []) hX (c_X7_wearsOff _ G x ad v s pj arj (by omega) (by omega) (by omega) (by omega)) lb_X7_wearsOff ml_X7_58 (fun (_u : Unit) => [ob x 7 (rf ad v), ia G (ad 0) 29 (fN s)]) (wr := []) [0, 1] [] [0, 1] ⟨rfl, rfl, rfl, fun _ => rfl⟩ 0 rfl rfl rfl rfl ⟨Nat.le_refl _, Nat.le_refl _⟩ dX7_wears_18 rfl (fun r18 u18 hw18 => ?_)
      subst hw18
      refine z_goto (tgt := 25) hX dX7_wears_21 (by decide) ?_
      exact hR _ () _ _ (by unfold spWears; rw [if_pos (⟨inb_t (by omega) (by omega) (by omega), inb_t (by omega) (by omega) (by omega)⟩), gN_nI (by omega), gN_nI (by omega)]) dX7_wears_25 rfl
    · have hb_ar : inb ar 0 3 = false := hw9
      refine zn_if_eq (tgt := 24) hX dX7_wears_12 (by decide) (by omega) (fun _ => ?_) (fun c12 => absurd c12 (by omega))
      refine z_iconst (v := (-1)) hX dX7_wears_24 (by decide) ?_
      exact hR _ () _ _ (by unfold spWears; rw [if_neg (by simp [hb_ar])]) dX7_wears_25 rfl
  · have hb_p : inb p 0 ((s 0 : Nat) - 1 : Int) = false := hw2
    refine zn_if_eq (tgt := 24) hX dX7_wears_5 (by decide) (by omega) (fun _ => ?_) (fun c5 => absurd c5 (by omega))
    refine z_iconst (v := (-1)) hX dX7_wears_24 (by decide) ?_
    exact hR _ () _ _ (by unfold spWears; rw [if_neg (by simp [hb_p])]) dX7_wears_25 rfl
set_option maxRecDepth 100000 in
set_option maxHeartbeats 4000000 in
theorem c_X7_of (l : Launch) (G : zG) (x : Nat) (ad : Nat → Nat) (v : Nat → Nat) (s : nst) (p : Int32) (q : Int32) (h0 : WF 9999 0 s) : zMi l G yX7_of cX7_of 3 .int 2 0 0 46 [.ref x, .int p, .int q] [ob x 7 (rf ad v), ia G (ad 0) 29 (fN s)] (fun (r : Int32) (_u : Unit) => r = spOf s p q) (fun (_u : Unit) => [ob x 7 (rf ad v), ia G (ad 0) 29 (fN s)]) := by
  refine zMi.of (by decide) rfl (fun X A H0 hX hXl hR => ?_)
  show Z (X, G, A, H0, 3) 0 0 [ob x 7 (rf ad v), ia G (ad 0) 29 (fN s)] 0 [(0, .ref x), (1, .int p), (2, .int q)] []
  subst hXl
  have z0 := h0.1
  have z1 := h0.2.1
  have z2 := h0.2.2.1
  have z3 := h0.2.2.2.1
  refine z_aload_n hX 0 dX7_of_0 rfl ?_
  refine z_iload_n hX 1 dX7_of_1 rfl ?_
  refine z_callVi (st := []) hX (c_X7_isPerson _ G x ad v s p (by omega)) lb_X7_isPerson ml_X7_99 (fun (_u : Unit) => [ob x 7 (rf ad v), ia G (ad 0) 29 (fN s)]) (wr := []) [0, 1] [] [0, 1] ⟨rfl, rfl, rfl, fun _ => rfl⟩ 0 rfl rfl rfl rfl ⟨Nat.le_refl _, Nat.le_refl _⟩ dX7_of_2 rfl (fun r2 u2 hw2 => ?_)
  try dsimp only at hw2
  rcases hw2 with ⟨pj, hph, rfl, rfl⟩ | ⟨hw2, rfl⟩
  · skip
    refine zn_if_ne (tgt := 10) hX dX7_of_5 (by decide) (by omega) (fun _ => ?_) (fun c5 => absurd c5 (by omega))
    obtain ⟨x1, x2, x3, x4⟩ := h0.2.2.2.2.2.2 pj (by omega)
    refine z_iload_n hX 2 dX7_of_10 rfl ?_
    rcases inb_l5 q with rfl | rfl | rfl | rfl | rfl | rfl | hb_q
    · skip
      refine z_tab (tgt := 48) (j := 0) hX (by decide) dX7_of_11 (by decide) (by decide) rfl (by decide) ?_
      refine z_aload_n hX 0 dX7_of_48 rfl ?_
      refine z_iload_n hX 1 dX7_of_49 rfl ?_
      refine z_iload_n hX 2 dX7_of_50 rfl ?_
      refine z_callVi (st := []) hX (c_X7_told _ G x ad v s pj 0 (11 + 3 * pj) (by omega) (by omega)) lb_X7_told ml_X7_50 (fun (_u : Unit) => [ob x 7 (rf ad v), ia G (ad 0) 29 (fN s)]) (wr := []) [0, 1] [] [0, 1] ⟨rfl, rfl, rfl, fun _ => rfl⟩ 0 rfl rfl rfl rfl ⟨Nat.le_refl _, Nat.le_refl _⟩ dX7_of_51 rfl (fun r51 u51 hw51 => ?_)
      subst hw51
      exact hR _ () _ _ (by unfold spOf; rw [if_pos (⟨inb_t (by omega) (by omega) (by omega), inb_t (by omega) (by omega) (by omega)⟩), gN_nI (by omega), gN_nI (by omega)]; rfl) dX7_of_54 rfl
    · skip
      refine z_tab (tgt := 48) (j := 1) hX (by decide) dX7_of_11 (by decide) (by decide) rfl (by decide) ?_
      refine z_aload_n hX 0 dX7_of_48 rfl ?_
      refine z_iload_n hX 1 dX7_of_49 rfl ?_
      refine z_iload_n hX 2 dX7_of_50 rfl ?_
      refine z_callVi (st := []) hX (c_X7_told _ G x ad v s pj 1 (12 + 3 * pj) (by omega) (by omega)) lb_X7_told ml_X7_50 (fun (_u : Unit) => [ob x 7 (rf ad v), ia G (ad 0) 29 (fN s)]) (wr := []) [0, 1] [] [0, 1] ⟨rfl, rfl, rfl, fun _ => rfl⟩ 0 rfl rfl rfl rfl ⟨Nat.le_refl _, Nat.le_refl _⟩ dX7_of_51 rfl (fun r51 u51 hw51 => ?_)
      subst hw51
      exact hR _ () _ _ (by unfold spOf; rw [if_pos (⟨inb_t (by omega) (by omega) (by omega), inb_t (by omega) (by omega) (by omega)⟩), gN_nI (by omega), gN_nI (by omega)]; rfl) dX7_of_54 rfl
    · skip
      refine z_tab (tgt := 48) (j := 2) hX (by decide) dX7_of_11 (by decide) (by decide) rfl (by decide) ?_
      refine z_aload_n hX 0 dX7_of_48 rfl ?_
      refine z_iload_n hX 1 dX7_of_49 rfl ?_
      refine z_iload_n hX 2 dX7_of_50 rfl ?_
      refine z_callVi (st := []) hX (c_X7_told _ G x ad v s pj 2 (13 + 3 * pj) (by omega) (by omega)) lb_X7_told ml_X7_50 (fun (_u : Unit) => [ob x 7 (rf ad v), ia G (ad 0) 29 (fN s)]) (wr := []) [0, 1] [] [0, 1] ⟨rfl, rfl, rfl, fun _ => rfl⟩ 0 rfl rfl rfl rfl ⟨Nat.le_refl _, Nat.le_refl _⟩ dX7_of_51 rfl (fun r51 u51 hw51 => ?_)
      subst hw51
      exact hR _ () _ _ (by unfold spOf; rw [if_pos (⟨inb_t (by omega) (by omega) (by omega), inb_t (by omega) (by omega) (by omega)⟩), gN_nI (by omega), gN_nI (by omega)]; rfl) dX7_of_54 rfl
    · skip
      refine z_tab (tgt := 55) (j := 3) hX (by decide) dX7_of_11 (by decide) (by decide) rfl (by decide) ?_
      refine z_aload_n hX 0 dX7_of_55 rfl ?_
      refine z_iload_n hX 1 dX7_of_56 rfl ?_
      refine z_callVi (st := []) hX (c_X7_comes _ G x ad v s pj (by omega) (by omega) (by omega) (by omega)) lb_X7_comes ml_X7_65 (fun (_u : Unit) => [ob x 7 (rf ad v), ia G (ad 0) 29 (fN s)]) (wr := []) [0, 1] [] [0, 1] ⟨rfl, rfl, rfl, fun _ => rfl⟩ 0 rfl rfl rfl rfl ⟨Nat.le_refl _, Nat.le_refl _⟩ dX7_of_57 rfl (fun r57 u57 hw57 => ?_)
      try dsimp only at hw57
      rcases Classical.em (s 1 % s (13 + 3 * pj) = 0) with b57 | b57
      · obtain rfl := hw57.1 b57
        refine zn_if_eq (tgt := 67) hX dX7_of_60 (by decide) (by omega) (fun c60 => absurd c60 (by omega)) (fun _ => ?_)
        refine z_iconst (v := nI 1) hX dX7_of_63 (by decide) ?_
        refine z_goto (tgt := 68) hX dX7_of_64 (by decide) ?_
        exact hR _ () _ _ (by unfold spOf; rw [if_pos (⟨inb_t (by omega) (by omega) (by omega), inb_t (by omega) (by omega) (by omega)⟩), gN_nI (by omega), gN_nI (by omega)]; unfold ofN b2I; rw [if_neg (by decide), if_neg (by decide), if_neg (by decide)]; first | (rw [if_pos rfl]; first | exact (if_pos b57).symm | exact (if_neg b57).symm) | (rw [if_neg (by decide), if_pos rfl]; first | exact (if_pos b57).symm | exact (if_neg b57).symm)) dX7_of_68 rfl
      · obtain rfl := hw57.2 b57
        refine zn_if_eq (tgt := 67) hX dX7_of_60 (by decide) (by omega) (fun _ => ?_) (fun c60 => absurd c60 (by omega))
        refine z_iconst (v := nI 0) hX dX7_of_67 (by decide) ?_
        exact hR _ () _ _ (by unfold spOf; rw [if_pos (⟨inb_t (by omega) (by omega) (by omega), inb_t (by omega) (by omega) (by omega)⟩), gN_nI (by omega), gN_nI (by omega)]; unfold ofN b2I; rw [if_neg (by decide), if_neg (by decide), if_neg (by decide)]; first | (rw [if_pos rfl]; first | exact (if_pos b57).symm | exact (if_neg b57).symm) | (rw [if_neg (by decide), if_pos rfl]; first | exact (if_pos b57).symm | exact (if_neg b57).symm)) dX7_of_68 rfl
    · skip
      refine z_tab (tgt := 69) (j := 4) hX (by decide) dX7_of_11 (by decide) (by decide) rfl (by decide) ?_
      refine z_aload_n hX 0 dX7_of_69 rfl ?_
      refine z_iload_n hX 1 dX7_of_70 rfl ?_
      refine z_callVi (st := []) hX (c_X7_isRefused _ G x ad v s pj (by omega) (by omega)) lb_X7_isRefused ml_X7_69 (fun (_u : Unit) => [ob x 7 (rf ad v), ia G (ad 0) 29 (fN s)]) (wr := []) [0, 1] [] [0, 1] ⟨rfl, rfl, rfl, fun _ => rfl⟩ 0 rfl rfl rfl rfl ⟨Nat.le_refl _, Nat.le_refl _⟩ dX7_of_71 rfl (fun r71 u71 hw71 => ?_)
      try dsimp only at hw71
      rcases Classical.em (s (12 + 3 * pj) &&& s 2 ≠ 0) with b71 | b71
      · obtain rfl := hw71.1 b71
        refine zn_if_eq (tgt := 81) hX dX7_of_74 (by decide) (by omega) (fun c74 => absurd c74 (by omega)) (fun _ => ?_)
        refine z_iconst (v := nI 1) hX dX7_of_77 (by decide) ?_
        refine z_goto (tgt := 82) hX dX7_of_78 (by decide) ?_
        exact hR _ () _ _ (by unfold spOf; rw [if_pos (⟨inb_t (by omega) (by omega) (by omega), inb_t (by omega) (by omega) (by omega)⟩), gN_nI (by omega), gN_nI (by omega)]; unfold ofN b2I; rw [if_neg (by decide), if_neg (by decide), if_neg (by decide)]; first | (rw [if_pos rfl]; first | exact (if_pos b71).symm | exact (if_neg b71).symm) | (rw [if_neg (by decide), if_pos rfl]; first | exact (if_pos b71).symm | exact (if_neg b71).symm)) dX7_of_82 rfl
      · obtain rfl := hw71.2 b71
        refine zn_if_eq (tgt := 81) hX dX7_of_74 (by decide) (by omega) (fun _ => ?_) (fun c74 => absurd c74 (by omega))
        refine z_iconst (v := nI 0) hX dX7_of_81 (by decide) ?_
        exact hR _ () _ _ (by unfold spOf; rw [if_pos (⟨inb_t (by omega) (by omega) (by omega), inb_t (by omega) (by omega) (by omega)⟩), gN_nI (by omega), gN_nI (by omega)]; unfold ofN b2I; rw [if_neg (by decide), if_neg (by decide), if_neg (by decide)]; first | (rw [if_pos rfl]; first | exact (if_pos b71).symm | exact (if_neg b71).symm) | (rw [if_neg (by decide), if_pos rfl]; first | exact (if_pos b71).symm | exact (if_neg b71).symm)) dX7_of_82 rfl
    · skip
      refine z_tab (tgt := 83) (j := 5) hX (by decide) dX7_of_11 (by decide) (by decide) rfl (by decide) ?_
      refine z_aload_n hX 0 dX7_of_83 rfl ?_
      refine z_iload_n hX 1 dX7_of_84 rfl ?_
      refine z_callVi (st := []) hX (c_X7_gives _ G x ad v s pj (by omega) (by omega) (by omega)) lb_X7_gives ml_X7_72 (fun (_u : Unit) => [ob x 7 (rf ad v), ia G (ad 0) 29 (fN s)]) (wr := []) [0, 1] [] [0, 1] ⟨rfl, rfl, rfl, fun _ => rfl⟩ 0 rfl rfl rfl rfl ⟨Nat.le_refl _, Nat.le_refl _⟩ dX7_of_85 rfl (fun r85 u85 hw85 => ?_)
      subst hw85
      exact hR _ () _ _ (by unfold spOf; rw [if_pos (⟨inb_t (by omega) (by omega) (by omega), inb_t (by omega) (by omega) (by omega)⟩), gN_nI (by omega), gN_nI (by omega)]; rfl) dX7_of_88 rfl
    · have hb_q := hb_q
      refine z_tabOut (tgt := 89) hX dX7_of_11 (inb_out hb_q) (by decide) ?_
      refine z_iconst (v := (-1)) hX dX7_of_89 (by decide) ?_
      exact hR _ () _ _ (by unfold spOf; rw [if_neg (by simp [hb_q])]) dX7_of_90 rfl
  · have hb_p : inb p 0 ((s 0 : Nat) - 1 : Int) = false := hw2
    refine zn_if_ne (tgt := 10) hX dX7_of_5 (by decide) (by omega) (fun c5 => absurd c5 (by omega)) (fun _ => ?_)
    refine z_iconst (v := (-1)) hX dX7_of_8 (by decide) ?_
    exact hR _ () _ _ (by unfold spOf; rw [if_neg (by simp [hb_p])]) dX7_of_9 rfl
set_option maxRecDepth 100000 in
set_option maxHeartbeats 4000000 in
theorem c_X7_count (l : Launch) (G : zG) (x : Nat) (ad : Nat → Nat) (v : Nat → Nat) (s : nst) (q : Int32) (h0 : WF 9999 0 s) : zMi l G yX7_count cX7_count 2 .int 1 0 0 22 [.ref x, .int q] [ob x 7 (rf ad v), ia G (ad 0) 29 (fN s)] (fun (r : Int32) (_u : Unit) => r = spCount s (v 10) q) (fun (_u : Unit) => [ob x 7 (rf ad v), ia G (ad 0) 29 (fN s)]) := by
  refine zMi.of (by decide) rfl (fun X A H0 hX hXl hR => ?_)
  show Z (X, G, A, H0, 2) 0 0 [ob x 7 (rf ad v), ia G (ad 0) 29 (fN s)] 0 [(0, .ref x), (1, .int q)] []
  subst hXl
  refine z_iload_n hX 1 dX7_count_0 rfl ?_
  rcases inb_l8 q with rfl | rfl | rfl | rfl | rfl | rfl | rfl | rfl | rfl | hb_q
  · skip
    refine z_tab (tgt := 52) (j := 0) hX (by decide) dX7_count_1 (by decide) (by decide) rfl (by decide) ?_
    refine z_aload_n hX 0 dX7_count_52 rfl ?_
    refine z_get (v := .ref (ad 0)) hX fX7 0 0 rfl rfl (Nat.le_of_ble_eq_true rfl) fl_X7_7 rfl dX7_count_53 ?_
    refine z_iload_n hX 1 dX7_count_56 rfl ?_
    refine z_iald (v := (nI (s 0))) hX 1 (j := 0) rfl (by omega) (by decide) rfl dX7_count_57 ?_
    exact hR _ () _ _ (by unfold spCount; rw [if_pos (inb_t (by omega) (by omega) (by omega)), gN_nI (by omega)]; rfl) dX7_count_58 rfl
  · skip
    refine z_tab (tgt := 52) (j := 1) hX (by decide) dX7_count_1 (by decide) (by decide) rfl (by decide) ?_
    refine z_aload_n hX 0 dX7_count_52 rfl ?_
    refine z_get (v := .ref (ad 0)) hX fX7 0 0 rfl rfl (Nat.le_of_ble_eq_true rfl) fl_X7_7 rfl dX7_count_53 ?_
    refine z_iload_n hX 1 dX7_count_56 rfl ?_
    refine z_iald (v := (nI (s 1))) hX 1 (j := 1) rfl (by omega) (by decide) rfl dX7_count_57 ?_
    exact hR _ () _ _ (by unfold spCount; rw [if_pos (inb_t (by omega) (by omega) (by omega)), gN_nI (by omega)]; rfl) dX7_count_58 rfl
  · skip
    refine z_tab (tgt := 52) (j := 2) hX (by decide) dX7_count_1 (by decide) (by decide) rfl (by decide) ?_
    refine z_aload_n hX 0 dX7_count_52 rfl ?_
    refine z_get (v := .ref (ad 0)) hX fX7 0 0 rfl rfl (Nat.le_of_ble_eq_true rfl) fl_X7_7 rfl dX7_count_53 ?_
    refine z_iload_n hX 1 dX7_count_56 rfl ?_
    refine z_iald (v := (nI (s 2))) hX 1 (j := 2) rfl (by omega) (by decide) rfl dX7_count_57 ?_
    exact hR _ () _ _ (by unfold spCount; rw [if_pos (inb_t (by omega) (by omega) (by omega)), gN_nI (by omega)]; rfl) dX7_count_58 rfl
  · skip
    refine z_tab (tgt := 52) (j := 3) hX (by decide) dX7_count_1 (by decide) (by decide) rfl (by decide) ?_
    refine z_aload_n hX 0 dX7_count_52 rfl ?_
    refine z_get (v := .ref (ad 0)) hX fX7 0 0 rfl rfl (Nat.le_of_ble_eq_true rfl) fl_X7_7 rfl dX7_count_53 ?_
    refine z_iload_n hX 1 dX7_count_56 rfl ?_
    refine z_iald (v := (nI (s 3))) hX 1 (j := 3) rfl (by omega) (by decide) rfl dX7_count_57 ?_
    exact hR _ () _ _ (by unfold spCount; rw [if_pos (inb_t (by omega) (by omega) (by omega)), gN_nI (by omega)]; rfl) dX7_count_58 rfl
  · skip
    refine z_tab (tgt := 52) (j := 4) hX (by decide) dX7_count_1 (by decide) (by decide) rfl (by decide) ?_
    refine z_aload_n hX 0 dX7_count_52 rfl ?_
    refine z_get (v := .ref (ad 0)) hX fX7 0 0 rfl rfl (Nat.le_of_ble_eq_true rfl) fl_X7_7 rfl dX7_count_53 ?_
    refine z_iload_n hX 1 dX7_count_56 rfl ?_
    refine z_iald (v := (nI (s 4))) hX 1 (j := 4) rfl (by omega) (by decide) rfl dX7_count_57 ?_
    exact hR _ () _ _ (by unfold spCount; rw [if_pos (inb_t (by omega) (by omega) (by omega)), gN_nI (by omega)]; rfl) dX7_count_58 rfl
  · skip
    refine z_tab (tgt := 52) (j := 5) hX (by decide) dX7_count_1 (by decide) (by decide) rfl (by decide) ?_
    refine z_aload_n hX 0 dX7_count_52 rfl ?_
    refine z_get (v := .ref (ad 0)) hX fX7 0 0 rfl rfl (Nat.le_of_ble_eq_true rfl) fl_X7_7 rfl dX7_count_53 ?_
    refine z_iload_n hX 1 dX7_count_56 rfl ?_
    refine z_iald (v := (nI (s 5))) hX 1 (j := 5) rfl (by omega) (by decide) rfl dX7_count_57 ?_
    exact hR _ () _ _ (by unfold spCount; rw [if_pos (inb_t (by omega) (by omega) (by omega)), gN_nI (by omega)]; rfl) dX7_count_58 rfl
  · skip
    refine z_tab (tgt := 59) (j := 6) hX (by decide) dX7_count_1 (by decide) (by decide) rfl (by decide) ?_
    refine z_aload_n hX 0 dX7_count_59 rfl ?_
    refine z_get (v := .ref (ad 0)) hX fX7 0 0 rfl rfl (Nat.le_of_ble_eq_true rfl) fl_X7_7 rfl dX7_count_60 ?_
    refine z_bipush (v := nI 7) hX dX7_count_63 (by decide) ?_
    refine z_iald (v := (nI (s 7))) hX 1 (j := 7) rfl (by omega) (by decide) rfl dX7_count_65 ?_
    refine z_aload_n hX 0 dX7_count_66 rfl ?_
    refine z_get (v := .ref (ad 0)) hX fX7 0 0 rfl rfl (Nat.le_of_ble_eq_true rfl) fl_X7_7 rfl dX7_count_67 ?_
    refine z_bipush (v := nI 8) hX dX7_count_70 (by decide) ?_
    refine z_iald (v := (nI (s 8))) hX 1 (j := 8) rfl (by omega) (by decide) rfl dX7_count_72 ?_
    refine z_iadd (v := (nI (s 7 + s 8))) hX dX7_count_73 (nI_add _ _) ?_
    refine z_aload_n hX 0 dX7_count_74 rfl ?_
    refine z_get (v := .ref (ad 0)) hX fX7 0 0 rfl rfl (Nat.le_of_ble_eq_true rfl) fl_X7_7 rfl dX7_count_75 ?_
    refine z_bipush (v := nI 9) hX dX7_count_78 (by decide) ?_
    refine z_iald (v := (nI (s 9))) hX 1 (j := 9) rfl (by omega) (by decide) rfl dX7_count_80 ?_
    refine z_iadd (v := (nI (s 7 + s 8 + s 9))) hX dX7_count_81 (nI_add _ _) ?_
    refine z_aload_n hX 0 dX7_count_82 rfl ?_
    refine z_get (v := .ref (ad 0)) hX fX7 0 0 rfl rfl (Nat.le_of_ble_eq_true rfl) fl_X7_7 rfl dX7_count_83 ?_
    refine z_bipush (v := nI 10) hX dX7_count_86 (by decide) ?_
    refine z_iald (v := (nI (s 10))) hX 1 (j := 10) rfl (by omega) (by decide) rfl dX7_count_88 ?_
    refine z_iadd (v := (nI (s 7 + s 8 + s 9 + s 10))) hX dX7_count_89 (nI_add _ _) ?_
    exact hR _ () _ _ (by unfold spCount; rw [if_pos (inb_t (by omega) (by omega) (by omega)), gN_nI (by omega)]; rfl) dX7_count_90 rfl
  · skip
    refine z_tab (tgt := 91) (j := 7) hX (by decide) dX7_count_1 (by decide) (by decide) rfl (by decide) ?_
    refine z_aload_n hX 0 dX7_count_91 rfl ?_
    refine z_callVi (st := []) hX (c_X7_holes _ G x ad v s h0.2.2.2.2.2.1) lb_X7_holes ml_X7_105 (fun (_u : Unit) => [ob x 7 (rf ad v), ia G (ad 0) 29 (fN s)]) (wr := []) [0, 1] [] [0, 1] ⟨rfl, rfl, rfl, fun _ => rfl⟩ 0 rfl rfl rfl rfl ⟨Nat.le_refl _, Nat.le_refl _⟩ dX7_count_92 rfl (fun r92 u92 hw92 => ?_)
    subst hw92
    exact hR _ () _ _ (by unfold spCount; rw [if_pos (inb_t (by omega) (by omega) (by omega)), gN_nI (by omega)]; rfl) dX7_count_95 rfl
  · skip
    refine z_tab (tgt := 96) (j := 8) hX (by decide) dX7_count_1 (by decide) (by decide) rfl (by decide) ?_
    refine z_aload_n hX 0 dX7_count_96 rfl ?_
    refine z_get (v := .int (nI (v 10))) hX fX7 0 10 rfl rfl (Nat.le_of_ble_eq_true rfl) fl_X7_86 rfl dX7_count_97 ?_
    exact hR _ () _ _ (by unfold spCount; rw [if_pos (inb_t (by omega) (by omega) (by omega)), gN_nI (by omega)]; rfl) dX7_count_100 rfl
  · have hb_q := hb_q
    refine z_tabOut (tgt := 101) hX dX7_count_1 (inb_out hb_q) (by decide) ?_
    refine z_iconst (v := (-1)) hX dX7_count_101 (by decide) ?_
    exact hR _ () _ _ (by unfold spCount; rw [if_neg (by simp [hb_q])]) dX7_count_102 rfl
set_option maxRecDepth 100000 in
set_option maxHeartbeats 4000000 in
theorem c_X7_traveller (l : Launch) (G : zG) (x : Nat) (ad : Nat → Nat) (v : Nat → Nat) (s : nst) (kd : Int32) (lk : Int32) (ev : Int32) (h0 : WF 9999 0 s) : zMi l G yX7_traveller cX7_traveller 4 .int 1 0 0 25 [.ref x, .int kd, .int lk, .int ev] [ob x 7 (rf ad v), ia G (ad 0) 29 (fN s)] (fun (r : Int32) (_u : nst) => r = spTrav s kd lk ev ∧ _u 3 = v 3 ∧ _u 10 = cond (okTr s kd lk ev) (0) (v 10) ∧ _u 17 = v 17 ∧ _u 18 = v 18) (fun (_u : nst) => [ob x 7 (rf ad _u), ia G (ad 0) 29 (fN (cond (okTr s kd lk ev) (joinS s (gN kd) (gN lk) (gN ev)) (s)))]) := by
  refine zMi.of (by decide) rfl (fun X A H0 hX hXl hR => ?_)
  show Z (X, G, A, H0, 4) 0 0 [ob x 7 (rf ad v), ia G (ad 0) 29 (fN s)] 0 [(0, .ref x), (1, .int kd), (2, .int lk), (3, .int ev)] []
  subst hXl
  have z0 := h0.1
  have z1 := h0.2.1
  have z2 := h0.2.2.1
  have z3 := h0.2.2.2.1
  refine z_iload_n hX 1 dX7_traveller_0 rfl ?_
  refine z_i2l (v := (kd.toInt64)) hX dX7_traveller_1 rfl ?_
  refine z_lconst (v := lN 0) hX dX7_traveller_2 (by decide) ?_
  refine z_ldc2 (v := lN 4) hX kl_X7_89 dX7_traveller_3 ?_
  refine z_callSi (st := []) hX (c_X7_inX _ G kd 0 4 (by omega) (by omega)) lb_X7_in ml_X7_44 (fun (_u : Unit) => [ob x 7 (rf ad v), ia G (ad 0) 29 (fN s)]) (wr := [ob x 7 (rf ad v), ia G (ad 0) 29 (fN s)]) [] [0, 1] [0, 1] ⟨rfl, rfl, rfl, fun _ => rfl⟩ rfl rfl ⟨Nat.le_refl _, Nat.le_refl _⟩ dX7_traveller_6 rfl (fun r6 u6 hw6 => ?_)
  try dsimp only at hw6
  rcases hw6 with ⟨kdj, hkdl, hkdh, rfl, rfl⟩ | ⟨hw6, rfl⟩
  · skip
    refine zn_if_eq (tgt := 36) hX dX7_traveller_9 (by decide) (by omega) (fun c9 => absurd c9 (by omega)) (fun _ => ?_)
    refine z_iload_n hX 2 dX7_traveller_12 rfl ?_
    refine z_i2l (v := (lk.toInt64)) hX dX7_traveller_13 rfl ?_
    refine z_lconst (v := lN 0) hX dX7_traveller_14 (by decide) ?_
    refine z_ldc2 (v := lN 63) hX kl_X7_91 dX7_traveller_15 ?_
    refine z_callSi (st := []) hX (c_X7_inX _ G lk 0 63 (by omega) (by omega)) lb_X7_in ml_X7_44 (fun (_u : Unit) => [ob x 7 (rf ad v), ia G (ad 0) 29 (fN s)]) (wr := [ob x 7 (rf ad v), ia G (ad 0) 29 (fN s)]) [] [0, 1] [0, 1] ⟨rfl, rfl, rfl, fun _ => rfl⟩ rfl rfl ⟨Nat.le_refl _, Nat.le_refl _⟩ dX7_traveller_18 rfl (fun r18 u18 hw18 => ?_)
    try dsimp only at hw18
    rcases hw18 with ⟨lkj, hlkl, hlkh, rfl, rfl⟩ | ⟨hw18, rfl⟩
    · skip
      refine zn_if_eq (tgt := 36) hX dX7_traveller_21 (by decide) (by omega) (fun c21 => absurd c21 (by omega)) (fun _ => ?_)
      refine z_iload_n hX 3 dX7_traveller_24 rfl ?_
      refine z_i2l (v := (ev.toInt64)) hX dX7_traveller_25 rfl ?_
      refine z_lconst (v := lN 1) hX dX7_traveller_26 (by decide) ?_
      refine z_ldc2 (v := lN 9) hX kl_X7_93 dX7_traveller_27 ?_
      refine z_callSi (st := []) hX (c_X7_inX _ G ev 1 9 (by omega) (by omega)) lb_X7_in ml_X7_44 (fun (_u : Unit) => [ob x 7 (rf ad v), ia G (ad 0) 29 (fN s)]) (wr := [ob x 7 (rf ad v), ia G (ad 0) 29 (fN s)]) [] [0, 1] [0, 1] ⟨rfl, rfl, rfl, fun _ => rfl⟩ rfl rfl ⟨Nat.le_refl _, Nat.le_refl _⟩ dX7_traveller_30 rfl (fun r30 u30 hw30 => ?_)
      try dsimp only at hw30
      rcases hw30 with ⟨evj, hevl, hevh, rfl, rfl⟩ | ⟨hw30, rfl⟩
      · skip
        refine zn_if_ne (tgt := 38) hX dX7_traveller_33 (by decide) (by omega) (fun _ => ?_) (fun c33 => absurd c33 (by omega))
        refine z_aload_n hX 0 dX7_traveller_38 rfl ?_
        refine z_get (v := .ref (ad 0)) hX fX7 0 0 rfl rfl (Nat.le_of_ble_eq_true rfl) fl_X7_7 rfl dX7_traveller_39 ?_
        refine z_iconst (v := nI 0) hX dX7_traveller_42 (by decide) ?_
        refine z_iald (v := (nI (s 0))) hX 1 (j := 0) rfl (by omega) (by decide) rfl dX7_traveller_43 ?_
        refine z_bipush (v := nI 6) hX dX7_traveller_44 (by decide) ?_
        refine zn_icmp_ne (tgt := 52) hX dX7_traveller_46 (by decide) (by omega) (by omega) (fun c46 => ?_) (fun c46 => ?_)
        · skip
          refine z_aload_n hX 0 dX7_traveller_52 rfl ?_
          refine z_iload_n hX 1 dX7_traveller_53 rfl ?_
          refine z_iload_n hX 2 dX7_traveller_54 rfl ?_
          refine z_iload_n hX 3 dX7_traveller_55 rfl ?_
          refine z_callVv (st := []) hX (c_X7_personComes _ G x ad v s kdj lkj evj (by omega)) lb_X7_personComes ml_X7_95 (fun (_u : Unit) => [ob x 7 (rf ad (va_up v 10 0)), ia G (ad 0) 29 (fN (joinS s kdj lkj evj))]) (wr := []) [0, 1] [] [0, 1] ⟨rfl, rfl, rfl, fun _ => rfl⟩ 0 rfl rfl rfl rfl ⟨Nat.le_refl _, Nat.le_refl _⟩ dX7_traveller_56 rfl (fun  u56 hw56 => ?_)
          refine z_aload_n hX 0 dX7_traveller_59 rfl ?_
          refine z_get (v := .ref (ad 0)) hX fX7 0 0 rfl rfl (Nat.le_of_ble_eq_true rfl) fl_X7_7 rfl dX7_traveller_60 ?_
          refine z_iconst (v := nI 0) hX dX7_traveller_63 (by decide) ?_
          refine z_iald (v := (nI (s 0 + 1))) hX 1 (j := 0) rfl (by omega) (by decide) rfl dX7_traveller_64 ?_
          refine z_iconst (v := nI 1) hX dX7_traveller_65 (by decide) ?_
          refine z_isub (v := (nI (s 0))) hX dX7_traveller_66 (pk_sub (a := s 0 + 1) (b := 1) (by omega)) ?_
          have e1 : okT (nI kdj) (nI lkj) (nI evj) = true := by unfold okT; rw [inb_t (by omega) (by omega) (by omega), inb_t (by omega) (by omega) (by omega), inb_t (by omega) (by omega) (by omega)]; rfl
          have e0 : okTr s (nI kdj) (nI lkj) (nI evj) = true := by unfold okTr; rw [e1, decide_eq_true (by omega)]; rfl
          rw [e0, gN_nI (show kdj < 2147483648 by omega), gN_nI (show lkj < 2147483648 by omega), gN_nI (show evj < 2147483648 by omega)] at hR
          exact hR _ (va_up v 10 0) _ _ ⟨by unfold spTrav; rw [if_pos e1, if_neg (by omega)], rfl, rfl, rfl, rfl⟩ dX7_traveller_67 rfl
        · skip
          refine z_bipush (v := (-3)) hX dX7_traveller_49 (by decide) ?_
          have e1 : okT (nI kdj) (nI lkj) (nI evj) = true := by unfold okT; rw [inb_t (by omega) (by omega) (by omega), inb_t (by omega) (by omega) (by omega), inb_t (by omega) (by omega) (by omega)]; rfl
          have e0 : okTr s (nI kdj) (nI lkj) (nI evj) = false := by unfold okTr; rw [e1, decide_eq_false (by omega)]; rfl
          rw [e0] at hR
          exact hR _ v _ _ ⟨by unfold spTrav; rw [if_pos e1, if_pos (by omega)], rfl, rfl, rfl, rfl⟩ dX7_traveller_51 rfl
      · have hb_ev : inb ev 1 9 = false := hw30
        refine zn_if_ne (tgt := 38) hX dX7_traveller_33 (by decide) (by omega) (fun c33 => absurd c33 (by omega)) (fun _ => ?_)
        refine z_iconst (v := (-1)) hX dX7_traveller_36 (by decide) ?_
        have e1 : okT (nI kdj) (nI lkj) ev = false := by unfold okT; simp [hb_ev]
        have e0 : okTr s (nI kdj) (nI lkj) ev = false := by unfold okTr; rw [e1]; rfl
        rw [e0] at hR
        exact hR _ v _ _ ⟨by unfold spTrav; rw [if_neg (by rw [e1]; decide)], rfl, rfl, rfl, rfl⟩ dX7_traveller_37 rfl
    · have hb_lk : inb lk 0 63 = false := hw18
      refine zn_if_eq (tgt := 36) hX dX7_traveller_21 (by decide) (by omega) (fun _ => ?_) (fun c21 => absurd c21 (by omega))
      refine z_iconst (v := (-1)) hX dX7_traveller_36 (by decide) ?_
      have e1 : okT (nI kdj) lk ev = false := by unfold okT; simp [hb_lk]
      have e0 : okTr s (nI kdj) lk ev = false := by unfold okTr; rw [e1]; rfl
      rw [e0] at hR
      exact hR _ v _ _ ⟨by unfold spTrav; rw [if_neg (by rw [e1]; decide)], rfl, rfl, rfl, rfl⟩ dX7_traveller_37 rfl
  · have hb_kd : inb kd 0 4 = false := hw6
    refine zn_if_eq (tgt := 36) hX dX7_traveller_9 (by decide) (by omega) (fun _ => ?_) (fun c9 => absurd c9 (by omega))
    refine z_iconst (v := (-1)) hX dX7_traveller_36 (by decide) ?_
    have e1 : okT kd lk ev = false := by unfold okT; simp [hb_kd]
    have e0 : okTr s kd lk ev = false := by unfold okTr; rw [e1]; rfl
    rw [e0] at hR
    exact hR _ v _ _ ⟨by unfold spTrav; rw [if_neg (by rw [e1]; decide)], rfl, rfl, rfl, rfl⟩ dX7_traveller_37 rfl
set_option maxRecDepth 100000 in
set_option maxHeartbeats 4000000 in
theorem c_X7_type (l : Launch) (G : zG) (x : Nat) (ad : Nat → Nat) (v : Nat → Nat) (s : nst) (tau : nst) (c : Int32) (h0 : v 3 ≤ 80) : zMi l G yX7_type cX7_type 2 .int 1 0 0 25 [.ref x, .int c] [ob x 7 (rf ad v), ia G (ad 0) 29 (fN s), ia G (ad 2) 80 (fN tau)] (fun (r : Int32) (_u : nst) => r = spType (v 3) c ∧ _u 3 = cond (okType (v 3) c) (v 3 + 1) (v 3) ∧ _u 10 = v 10 ∧ _u 17 = v 17 ∧ _u 18 = v 18) (fun (_u : nst) => [ob x 7 (rf ad _u), ia G (ad 0) 29 (fN s), ia G (ad 2) 80 (fN (cond (okType (v 3) c) (va_up tau (v 3) (gN c)) (tau)))]) := by
  refine zMi.of (by decide) rfl (fun X A H0 hX hXl hR => ?_)
  show Z (X, G, A, H0, 2) 0 0 [ob x 7 (rf ad v), ia G (ad 0) 29 (fN s), ia G (ad 2) 80 (fN tau)] 0 [(0, .ref x), (1, .int c)] []
  subst hXl
  refine z_iload_n hX 1 dX7_type_0 rfl ?_
  refine z_i2l (v := (c.toInt64)) hX dX7_type_1 rfl ?_
  refine z_ldc2 (v := lN 32) hX kl_X7_109 dX7_type_2 ?_
  refine z_ldc2 (v := lN 126) hX kl_X7_111 dX7_type_5 ?_
  refine z_callSi (st := []) hX (c_X7_inX _ G c 32 126 (by omega) (by omega)) lb_X7_in ml_X7_44 (fun (_u : Unit) => [ob x 7 (rf ad v), ia G (ad 0) 29 (fN s), ia G (ad 2) 80 (fN tau)]) (wr := [ob x 7 (rf ad v), ia G (ad 0) 29 (fN s), ia G (ad 2) 80 (fN tau)]) [] [0, 1, 2] [0, 1, 2] ⟨rfl, rfl, rfl, fun _ => rfl⟩ rfl rfl ⟨Nat.le_refl _, Nat.le_refl _⟩ dX7_type_8 rfl (fun r8 u8 hw8 => ?_)
  try dsimp only at hw8
  rcases hw8 with ⟨cj, hcl, hch, rfl, rfl⟩ | ⟨hw8, rfl⟩
  · skip
    refine zn_if_ne (tgt := 16) hX dX7_type_11 (by decide) (by omega) (fun _ => ?_) (fun c11 => absurd c11 (by omega))
    refine z_aload_n hX 0 dX7_type_16 rfl ?_
    refine z_get (v := .int (nI (v 3))) hX fX7 0 3 rfl rfl (Nat.le_of_ble_eq_true rfl) fl_X7_113 rfl dX7_type_17 ?_
    refine z_bipush (v := nI 80) hX dX7_type_20 (by decide) ?_
    refine zn_icmp_ne (tgt := 28) hX dX7_type_22 (by decide) (by omega) (by omega) (fun c22 => ?_) (fun c22 => ?_)
    · skip
      refine z_aload_n hX 0 dX7_type_28 rfl ?_
      refine z_get (v := .ref (ad 2)) hX fX7 0 2 rfl rfl (Nat.le_of_ble_eq_true rfl) fl_X7_13 rfl dX7_type_29 ?_
      refine z_aload_n hX 0 dX7_type_32 rfl ?_
      refine z_get (v := .int (nI (v 3))) hX fX7 0 3 rfl rfl (Nat.le_of_ble_eq_true rfl) fl_X7_113 rfl dX7_type_33 ?_
      refine z_iload_n hX 1 dX7_type_36 rfl ?_
      refine z_iast (ws' := [ob x 7 (rf ad v), ia G (ad 0) 29 (fN s), ia G (ad 2) 80 (fN (va_up tau (v 3) cj))]) hX 2 (j := (v 3)) rfl (by omega) (by decide) (updN _ _ _) rfl dX7_type_37 ?_
      refine z_aload_n hX 0 dX7_type_38 rfl ?_
      refine z_dup hX dX7_type_39 rfl ?_
      refine z_get (v := .int (nI (v 3))) hX fX7 0 3 rfl rfl (Nat.le_of_ble_eq_true rfl) fl_X7_113 rfl dX7_type_40 ?_
      refine z_iconst (v := nI 1) hX dX7_type_43 (by decide) ?_
      refine z_iadd (v := (nI (v 3 + 1))) hX dX7_type_44 (nI_add _ _) ?_
      refine z_put (v := .int (nI (v 3 + 1))) (ws' := [ob x 7 (rf ad (va_up v 3 (v 3 + 1))), ia G (ad 0) 29 (fN s), ia G (ad 2) 80 (fN (va_up tau (v 3) cj))]) hX fX7 0 3 rfl rfl (Nat.le_of_ble_eq_true rfl) fl_X7_113 rfl rfl rfl rfl rfl dX7_type_45 ?_
      refine z_aload_n hX 0 dX7_type_48 rfl ?_
      refine z_get (v := .int (nI (v 3 + 1))) hX fX7 0 3 rfl rfl (Nat.le_of_ble_eq_true rfl) fl_X7_113 rfl dX7_type_49 ?_
      have e0 : okType (v 3) (nI cj) = true := by
        unfold okType
        rw [inb_t (by omega) (by omega) (by omega)]
        simp
        omega
      rw [e0, gN_nI (show cj < 2147483648 by omega)] at hR
      exact hR _ (va_up v 3 (v 3 + 1)) _ _ ⟨by unfold spType; rw [if_pos (inb_t (by omega) (by omega) (by omega)), if_neg (by omega)], rfl, rfl, rfl, rfl⟩ dX7_type_52 rfl
    · skip
      refine z_bipush (v := (-3)) hX dX7_type_25 (by decide) ?_
      have e0 : okType (v 3) (nI cj) = false := by
        unfold okType
        simp
        intro _
        omega
      rw [e0] at hR
      exact hR _ v _ _ ⟨by unfold spType; rw [if_pos (inb_t (by omega) (by omega) (by omega)), if_pos (by omega)], rfl, rfl, rfl, rfl⟩ dX7_type_27 rfl
  · have hb_c : inb c 32 126 = false := hw8
    refine zn_if_ne (tgt := 16) hX dX7_type_11 (by decide) (by omega) (fun c11 => absurd c11 (by omega)) (fun _ => ?_)
    refine z_iconst (v := (-1)) hX dX7_type_14 (by decide) ?_
    have e0 : okType (v 3) c = false := by
      unfold okType
      simp [hb_c]
    rw [e0] at hR
    exact hR _ v _ _ ⟨by unfold spType; rw [if_neg (by simp [hb_c])], rfl, rfl, rfl, rfl⟩ dX7_type_15 rfl
set_option maxRecDepth 100000 in
set_option maxHeartbeats 4000000 in
theorem c_X7_notes (l : Launch) (G : zG) (x : Nat) (ad : Nat → Nat) (v : Nat → Nat) (s : nst) (U : nst) (h : Nat → nst) (h0 : v 10 ≤ 8) (h1 : UH (v 10) U h) : zMv l G yX7_notes cX7_notes 2 0 0 0 0 [.ref x] [ob x 7 (rf ad v), ia G (ad 0) 29 (fN s), ia G (ad 9) 232 (fN U)] (fun (_u : nst) => UH (pushU (v 10)) _u (pushH (v 10) h s)) (fun (_u : nst) => [ob x 7 (rf ad (va_up v 10 (pushU (v 10)))), ia G (ad 0) 29 (fN s), ia G (ad 9) 232 (fN _u)]) := by
  refine zMv.of (by decide) rfl (fun X A H0 hX hXl hnm hR => ?_)
  show Z (X, G, A, H0, 2) 0 0 [ob x 7 (rf ad v), ia G (ad 0) 29 (fN s), ia G (ad 9) 232 (fN U)] 0 [(0, .ref x)] []
  subst hXl
  refine z_aload_n hX 0 dX7_notes_0 rfl ?_
  refine z_get (v := .int (nI (v 10))) hX fX7 0 10 rfl rfl (Nat.le_of_ble_eq_true rfl) fl_X7_86 rfl dX7_notes_1 ?_
  refine z_bipush (v := nI 8) hX dX7_notes_4 (by decide) ?_
  refine zn_icmp_ne (tgt := 46) hX dX7_notes_6 (by decide) (by omega) (by omega) (fun c6 => ?_) (fun c6 => ?_)
  · skip
    refine z_iconst (v := nI 0) hX dX7_notes_46 (by decide) ?_
    refine z_istore_n (L' := [(1, .int (nI 0)), (0, .ref x)]) hX dX7_notes_47 (Nat.le_of_ble_eq_true rfl) rfl ?_
    have lp48 : ∀ (n48 : Nat) (k : Nat) (W2 : nst), (29 + 1 ≤ k + n48) → (k ≤ 29) → (∀ i, i < 29 * v 10 → W2 i = U i) → (∀ i, i < k → W2 (29 * v 10 + i) = s i) → Z (X, G, A, H0, 2) 0 0 [ob x 7 (rf ad v), ia G (ad 0) 29 (fN s), ia G (ad 9) 232 (fN W2)] 48 [(0, .ref x), (1, .int (nI k))] [] := by
      intro n48
      induction n48 with
      | zero =>
        intro k W2 hn2 hk2 hA hB
        exfalso
        omega
      | succ n48 ih48 =>
        intro k W2 hn2 hk2 hA hB
        refine z_iload_n hX 1 dX7_notes_48 rfl ?_
        refine z_bipush (v := nI 29) hX dX7_notes_49 (by decide) ?_
        refine zn_icmp_ge (tgt := 80) hX dX7_notes_51 (by decide) (by omega) (by omega) (fun c51 => ?_) (fun c51 => ?_)
        · skip
          refine z_aload_n hX 0 dX7_notes_80 rfl ?_
          refine z_dup hX dX7_notes_81 rfl ?_
          refine z_get (v := .int (nI (v 10))) hX fX7 0 10 rfl rfl (Nat.le_of_ble_eq_true rfl) fl_X7_86 rfl dX7_notes_82 ?_
          refine z_iconst (v := nI 1) hX dX7_notes_85 (by decide) ?_
          refine z_iadd (v := (nI (v 10 + 1))) hX dX7_notes_86 (nI_add _ _) ?_
          refine z_put (v := .int (nI (v 10 + 1))) (ws' := [ob x 7 (rf ad (va_up v 10 (v 10 + 1))), ia G (ad 0) 29 (fN s), ia G (ad 9) 232 (fN W2)]) hX fX7 0 10 rfl rfl (Nat.le_of_ble_eq_true rfl) fl_X7_86 rfl rfl rfl rfl rfl dX7_notes_87 ?_
          have ek : k = 29 := by omega
          subst ek
          have e1 : v 10 + 1 = pushU (v 10) := by unfold pushU; rw [if_neg c6]
          rw [e1]
          have e2 := UH_lt (s := s) h1 (by omega) hA hB
          rw [e1] at e2
          exact hR W2 _ _ e2 dX7_notes_90
        · skip
          refine z_aload_n hX 0 dX7_notes_54 rfl ?_
          refine z_get (v := .ref (ad 9)) hX fX7 0 9 rfl rfl (Nat.le_of_ble_eq_true rfl) fl_X7_22 rfl dX7_notes_55 ?_
          refine z_bipush (v := nI 29) hX dX7_notes_58 (by decide) ?_
          refine z_aload_n hX 0 dX7_notes_60 rfl ?_
          refine z_get (v := .int (nI (v 10))) hX fX7 0 10 rfl rfl (Nat.le_of_ble_eq_true rfl) fl_X7_86 rfl dX7_notes_61 ?_
          refine z_imul (v := (nI (29 * (v 10)))) hX dX7_notes_64 ((pk_mul _ _).trans (congrArg nI (by omega))) ?_
          refine z_iload_n hX 1 dX7_notes_65 rfl ?_
          refine z_iadd (v := (nI (29 * (v 10) + k))) hX dX7_notes_66 (nI_add _ _) ?_
          refine z_aload_n hX 0 dX7_notes_67 rfl ?_
          refine z_get (v := .ref (ad 0)) hX fX7 0 0 rfl rfl (Nat.le_of_ble_eq_true rfl) fl_X7_7 rfl dX7_notes_68 ?_
          refine z_iload_n hX 1 dX7_notes_71 rfl ?_
          refine z_iald (v := (nI (s k))) hX 1 (j := k) rfl (by omega) (by decide) rfl dX7_notes_72 ?_
          refine z_iast (ws' := [ob x 7 (rf ad v), ia G (ad 0) 29 (fN s), ia G (ad 9) 232 (fN (va_up W2 (29 * (v 10) + k) (s k)))]) hX 2 (j := (29 * (v 10) + k)) rfl (by omega) (by decide) (updN _ _ _) rfl dX7_notes_73 ?_
          refine z_iinc (v := (nI (k + 1))) (L' := [(1, .int (nI (k + 1))), (0, .ref x)]) hX 1 dX7_notes_74 rfl (nI_inc _) (Nat.le_of_ble_eq_true rfl) rfl ?_
          refine z_goto (tgt := 48) hX dX7_notes_77 (by decide) ?_
          refine z_lsub [1, 0] rfl ?_
          exact ih48 (k + 1) (va_up W2 (29 * (v 10) + k) (s k)) (by omega) (by omega) (fun i9 h9 => by rw [up_ne (by omega)]; exact hA i9 h9) (fun i9 h9 => by
                by_cases e9 : i9 = k
                · subst e9; exact up_eq
                · rw [up_ne (by omega)]; exact hB i9 (by omega))
    refine z_lsub [1, 0] rfl ?_
    exact lp48 30 0 U (by omega) (by omega) (fun _ _ => rfl) (fun i9 h9 => absurd h9 (by omega))
  · skip
    refine z_bipush (v := nI 29) hX dX7_notes_9 (by decide) ?_
    refine z_istore_n (L' := [(1, .int (nI 29)), (0, .ref x)]) hX dX7_notes_11 (Nat.le_of_ble_eq_true rfl) rfl ?_
    have lp12 : ∀ (n12 : Nat) (k : Nat) (W : nst), (232 + 1 ≤ k + n12) → (29 ≤ k ∧ k ≤ 232) → (∀ i, i < k - 29 → W i = U (i + 29)) → (∀ i, k - 29 ≤ i → W i = U i) → Z (X, G, A, H0, 2) 0 0 [ob x 7 (rf ad v), ia G (ad 0) 29 (fN s), ia G (ad 9) 232 (fN W)] 12 [(0, .ref x), (1, .int (nI k))] [] := by
      intro n12
      induction n12 with
      | zero =>
        intro k W hn hk hW hW2
        exfalso
        omega
      | succ n12 ih12 =>
        intro k W hn hk hW hW2
        refine z_iload_n hX 1 dX7_notes_12 rfl ?_
        refine z_sipush (v := nI 232) hX dX7_notes_13 (by decide) ?_
        refine zn_icmp_ge (tgt := 40) hX dX7_notes_16 (by decide) (by omega) (by omega) (fun c16 => ?_) (fun c16 => ?_)
        · skip
          refine z_aload_n hX 0 dX7_notes_40 rfl ?_
          refine z_bipush (v := nI 7) hX dX7_notes_41 (by decide) ?_
          refine z_put (v := .int (nI 7)) (ws' := [ob x 7 (rf ad (va_up v 10 7)), ia G (ad 0) 29 (fN s), ia G (ad 9) 232 (fN W)]) hX fX7 0 10 rfl rfl (Nat.le_of_ble_eq_true rfl) fl_X7_86 rfl rfl rfl rfl rfl dX7_notes_43 ?_
          refine z_iconst (v := nI 0) hX dX7_notes_46 (by decide) ?_
          refine z_istore_n (L' := [(1, .int (nI 0)), (0, .ref x)]) hX dX7_notes_47 (Nat.le_of_ble_eq_true rfl) rfl ?_
          have lp48 : ∀ (n48 : Nat) (k : Nat) (W2 : nst), (29 + 1 ≤ k + n48) → (k ≤ 29) → (∀ i, i < 29 * 7 → W2 i = W i) → (∀ i, i < k → W2 (29 * 7 + i) = s i) → Z (X, G, A, H0, 2) 0 0 [ob x 7 (rf ad (va_up v 10 7)), ia G (ad 0) 29 (fN s), ia G (ad 9) 232 (fN W2)] 48 [(0, .ref x), (1, .int (nI k))] [] := by
            intro n48
            induction n48 with
            | zero =>
              intro k W2 hn2 hk2 hA hB
              exfalso
              omega
            | succ n48 ih48 =>
              intro k W2 hn2 hk2 hA hB
              refine z_iload_n hX 1 dX7_notes_48 rfl ?_
              refine z_bipush (v := nI 29) hX dX7_notes_49 (by decide) ?_
              refine zn_icmp_ge (tgt := 80) hX dX7_notes_51 (by decide) (by omega) (by omega) (fun c51 => ?_) (fun c51 => ?_)
              · skip
                refine z_aload_n hX 0 dX7_notes_80 rfl ?_
                refine z_dup hX dX7_notes_81 rfl ?_
                refine z_get (v := .int (nI 7)) hX fX7 0 10 rfl rfl (Nat.le_of_ble_eq_true rfl) fl_X7_86 rfl dX7_notes_82 ?_
                refine z_iconst (v := nI 1) hX dX7_notes_85 (by decide) ?_
                refine z_iadd (v := (nI 8)) hX dX7_notes_86 ((nI_add _ _).trans (congrArg nI (by omega))) ?_
                refine z_put (v := .int (nI 8)) (ws' := [ob x 7 (rf ad (va_up v 10 8)), ia G (ad 0) 29 (fN s), ia G (ad 9) 232 (fN W2)]) hX fX7 0 10 rfl rfl (Nat.le_of_ble_eq_true rfl) fl_X7_86 rfl rfl rfl rfl rfl dX7_notes_87 ?_
                have ek : k = 29 := by omega
                subst ek
                have e8 : v 10 = 8 := c6
                rw [e8] at h1 hR
                exact hR W2 _ _ (UH_8 h1 (fun i9 h9 => hW i9 (by omega)) hA hB) dX7_notes_90
              · skip
                refine z_aload_n hX 0 dX7_notes_54 rfl ?_
                refine z_get (v := .ref (ad 9)) hX fX7 0 9 rfl rfl (Nat.le_of_ble_eq_true rfl) fl_X7_22 rfl dX7_notes_55 ?_
                refine z_bipush (v := nI 29) hX dX7_notes_58 (by decide) ?_
                refine z_aload_n hX 0 dX7_notes_60 rfl ?_
                refine z_get (v := .int (nI 7)) hX fX7 0 10 rfl rfl (Nat.le_of_ble_eq_true rfl) fl_X7_86 rfl dX7_notes_61 ?_
                refine z_imul (v := (nI 203)) hX dX7_notes_64 ((pk_mul _ _).trans (congrArg nI (by omega))) ?_
                refine z_iload_n hX 1 dX7_notes_65 rfl ?_
                refine z_iadd (v := (nI (203 + k))) hX dX7_notes_66 (nI_add _ _) ?_
                refine z_aload_n hX 0 dX7_notes_67 rfl ?_
                refine z_get (v := .ref (ad 0)) hX fX7 0 0 rfl rfl (Nat.le_of_ble_eq_true rfl) fl_X7_7 rfl dX7_notes_68 ?_
                refine z_iload_n hX 1 dX7_notes_71 rfl ?_
                refine z_iald (v := (nI (s k))) hX 1 (j := k) rfl (by omega) (by decide) rfl dX7_notes_72 ?_
                refine z_iast (ws' := [ob x 7 (rf ad (va_up v 10 7)), ia G (ad 0) 29 (fN s), ia G (ad 9) 232 (fN (va_up W2 (203 + k) (s k)))]) hX 2 (j := (203 + k)) rfl (by omega) (by decide) (updN _ _ _) rfl dX7_notes_73 ?_
                refine z_iinc (v := (nI (k + 1))) (L' := [(1, .int (nI (k + 1))), (0, .ref x)]) hX 1 dX7_notes_74 rfl (nI_inc _) (Nat.le_of_ble_eq_true rfl) rfl ?_
                refine z_goto (tgt := 48) hX dX7_notes_77 (by decide) ?_
                refine z_lsub [1, 0] rfl ?_
                exact ih48 (k + 1) (va_up W2 (203 + k) (s k)) (by omega) (by omega) (fun i9 h9 => by rw [up_ne (by omega)]; exact hA i9 h9) (fun i9 h9 => by
                      by_cases e9 : i9 = k
                      · subst e9; exact up_eq
                      · rw [up_ne (by omega)]; exact hB i9 (by omega))
          refine z_lsub [1, 0] rfl ?_
          exact lp48 30 0 W (by omega) (by omega) (fun _ _ => rfl) (fun i9 h9 => absurd h9 (by omega))
        · skip
          refine z_aload_n hX 0 dX7_notes_19 rfl ?_
          refine z_get (v := .ref (ad 9)) hX fX7 0 9 rfl rfl (Nat.le_of_ble_eq_true rfl) fl_X7_22 rfl dX7_notes_20 ?_
          refine z_iload_n hX 1 dX7_notes_23 rfl ?_
          refine z_bipush (v := nI 29) hX dX7_notes_24 (by decide) ?_
          refine z_isub (v := (nI (k - 29))) hX dX7_notes_26 (pk_sub (by omega)) ?_
          refine z_aload_n hX 0 dX7_notes_27 rfl ?_
          refine z_get (v := .ref (ad 9)) hX fX7 0 9 rfl rfl (Nat.le_of_ble_eq_true rfl) fl_X7_22 rfl dX7_notes_28 ?_
          refine z_iload_n hX 1 dX7_notes_31 rfl ?_
          refine z_iald (v := (nI (W k))) hX 2 (j := k) rfl (by omega) (by decide) rfl dX7_notes_32 ?_
          refine z_iast (ws' := [ob x 7 (rf ad v), ia G (ad 0) 29 (fN s), ia G (ad 9) 232 (fN (va_up W (k - 29) (W k)))]) hX 2 (j := (k - 29)) rfl (by omega) (by decide) (updN _ _ _) rfl dX7_notes_33 ?_
          refine z_iinc (v := (nI (k + 1))) (L' := [(1, .int (nI (k + 1))), (0, .ref x)]) hX 1 dX7_notes_34 rfl (nI_inc _) (Nat.le_of_ble_eq_true rfl) rfl ?_
          refine z_goto (tgt := 12) hX dX7_notes_37 (by decide) ?_
          refine z_lsub [1, 0] rfl ?_
          exact ih12 (k + 1) (va_up W (k - 29) (W k)) (by omega) (by omega) (fun i9 h9 => by
                by_cases e9 : i9 = k - 29
                · subst e9; rw [up_eq, hW2 k (by omega)]; congr 1; omega
                · rw [up_ne e9]; exact hW i9 (by omega)) (fun i9 h9 => by rw [up_ne (by omega)]; exact hW2 i9 (by omega))
    refine z_lsub [1, 0] rfl ?_
    exact lp12 232 29 U (by omega) (by omega) (fun i9 h9 => absurd h9 (by omega)) (fun _ _ => rfl)
