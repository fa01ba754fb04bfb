theorem c48n {c j : Nat} (hc : c < 48) (hj : j ≤ 9) : ¬ nI c - nI 48 = nI j := by
  intro h
  have e : nI j + nI 48 = nI c := by rw [← h, Int32.sub_add_cancel]
  rw [nI_add] at e
  have := nI_eqW (by omega) (by omega) e
  omega
theorem crS_6 {τ : nst} {m P0 i : Nat} {x : Nat × Nat × Nat × nst} (h : crS τ m P0 (i + 1) = x) (hx : ¬ x.1 = 1) (hi : i < 6) : crS τ m P0 6 = x := by
  have e := crS_stay (τ := τ) (m := m) (P0 := P0) (i := i + 1) (by rw [h]; exact hx) (5 - i)
  rw [show i + 1 + (5 - i) = 6 by omega, h] at e
  exact e
theorem up3_eq {A B : nst} {a k l e : Nat} {j : Nat} (h : j < 3 * a → A j = B j) (hj : j < 3 * (a + 1)) : va_up (va_up (va_up A (3 * a) k) (3 * a + 1) l) (3 * a + 2) e j = va_up (va_up (va_up B (3 * a) k) (3 * a + 1) l) (3 * a + 2) e j := by
  unfold va_up
  split
  · rfl
  · split
    · rfl
    · split
      · rfl
      · exact h (by omega)
set_option maxRecDepth 100000 in
set_option maxHeartbeats 4000000 in
theorem c_X7_peopleRead (l : Launch) (G : zG) (x : Nat) (ad : Nat → Nat) (v : Nat → Nat) (tau : nst) (p : Nat) (A9 : nst) (h0 : ∀ j, j < (v 3) → 32 ≤ tau j ∧ tau j ≤ 126) (h1 : (v 3) ≤ 80) (h2 : p ≤ 80) : zMi l G yX7_peopleRead cX7_peopleRead 6 .int 2 0 0 47 [.ref x] [ob x 7 (rf ad (va_up (va_up v 4 p) 5 0)), ia G (ad 2) 80 (fN tau), ia G (ad 8) 18 (fN A9)] (fun (r : Int32) (_u : Nat × Nat × Nat × nst) => r = nI _u.2.2.1 ∧ ((_u.2.1 = 1 ∧ ((crS tau (v 3) (skp tau (v 3) p) 6).1 = 0 ∨ chr tau (v 3) (crS tau (v 3) (skp tau (v 3) p) 6).2.1 = 44) ∧ _u.1 = (crS tau (v 3) (skp tau (v 3) p) 6).2.1) ∨ (_u.2.1 = 0 ∧ ¬ (crS tau (v 3) (skp tau (v 3) p) 6).1 = 0 ∧ _u.1 = (crS tau (v 3) (skp tau (v 3) p) 6).2.1 ∧ _u.2.2.1 = (crS tau (v 3) (skp tau (v 3) p) 6).2.2.1 ∧ _u.2.2.1 ≤ 6 ∧ ∀ j, j < 3 * _u.2.2.1 → _u.2.2.2 j = (crS tau (v 3) (skp tau (v 3) p) 6).2.2.2 j))) (fun (_u : Nat × Nat × Nat × nst) => [ob x 7 (rf ad (va_up (va_up v 4 _u.1) 5 _u.2.1)), ia G (ad 2) 80 (fN tau), ia G (ad 8) 18 (fN _u.2.2.2)]) := by
  refine zMi.of (by decide) rfl (fun X A H0 hX hXl hR => ?_)
  show Z (X, G, A, H0, 6) 0 0 [ob x 7 (rf ad (va_up (va_up v 4 p) 5 0)), ia G (ad 2) 80 (fN tau), ia G (ad 8) 18 (fN A9)] 0 [(0, .ref x)] []
  subst hXl
  refine z_iconst (v := nI 0) hX dX7_peopleRead_0 (by decide) ?_
  refine z_istore_n (L' := [(1, .int (nI 0)), (0, .ref x)]) hX dX7_peopleRead_1 (Nat.le_of_ble_eq_true rfl) rfl ?_
  have lp2 : ∀ (n2 : Nat) (i : Nat) (f : Nat) (q : Nat) (B : nst) (sg : nst), (7 + 1 ≤ i + n2) → (i ≤ 7) → (f ≤ 1) → (q ≤ 80) → (f = 0 → i ≤ 6) → (f = 0 → crS tau (v 3) (skp tau (v 3) p) i = (1, skp tau (v 3) q, i, sg)) → (f = 0 → ∀ j, j < 3 * i → B j = sg j) → (f = 1 → (((crS tau (v 3) (skp tau (v 3) p) 6).1 = 0 ∨ chr tau (v 3) (crS tau (v 3) (skp tau (v 3) p) 6).2.1 = 44) ∧ q = (crS tau (v 3) (skp tau (v 3) p) 6).2.1)) → Z (X, G, A, H0, 6) 0 0 [ob x 7 (rf ad (va_up (va_up v 4 q) 5 f)), ia G (ad 2) 80 (fN tau), ia G (ad 8) 18 (fN B)] 2 [(0, .ref x), (1, .int (nI i))] [] := by
    intro n2
    induction n2 with
    | zero =>
      intro i f q B sg hn hi hf hq8 hi6 hH hA hF
      exfalso
      omega
    | succ n2 ih2 =>
      intro i f q B sg hn hi hf hq8 hi6 hH hA hF
      refine z_aload_n hX 0 dX7_peopleRead_2 rfl ?_
      rcases (show f = 0 ∨ f = 1 by omega) with rfl | rfl
      · have hH0 := hH rfl
        have hA0 := hA rfl
        have h60 := hi6 rfl
        have k3 := chr_hi h0 (skp tau (v 3) q)
        have k4 := skp_hi (τ := tau) (p := q) h1 hq8
        refine z_get (v := .int (nI 0)) hX fX7 0 5 rfl rfl (Nat.le_of_ble_eq_true rfl) fl_X7_119 rfl dX7_peopleRead_3 ?_
        refine zn_if_ne (tgt := 208) hX dX7_peopleRead_6 (by decide) (by omega) (fun c6 => absurd c6 (by omega)) (fun _ => ?_)
        refine z_iload_n hX 1 dX7_peopleRead_9 rfl ?_
        refine zn_if_eq (tgt := 22) hX dX7_peopleRead_10 (by decide) (by omega) (fun c10 => ?_) (fun c10 => ?_)
        · skip
          refine z_iload_n hX 1 dX7_peopleRead_22 rfl ?_
          refine zn_if_le (tgt := 41) hX dX7_peopleRead_23 (by decide) (by omega) (fun c23 => ?_) (fun c23 => absurd c23 (by omega))
          refine z_aload_n hX 0 dX7_peopleRead_41 rfl ?_
          refine z_get (v := .int (nI 0)) hX fX7 0 5 rfl rfl (Nat.le_of_ble_eq_true rfl) fl_X7_119 rfl dX7_peopleRead_42 ?_
          refine zn_if_eq (tgt := 52) hX dX7_peopleRead_45 (by decide) (by omega) (fun _ => ?_) (fun c45 => absurd c45 (by omega))
          refine z_aload_n hX 0 dX7_peopleRead_52 rfl ?_
          refine z_callVi (st := []) hX (c_X7_here _ G x ad v tau q 0 h0 h1 (by omega)) lb_X7_here ml_X7_123 (fun (_u : Unit) => [ob x 7 (rf ad (va_up (va_up v 4 (skp tau (v 3) q)) 5 0)), ia G (ad 2) 80 (fN tau), ia G (ad 8) 18 (fN B)]) (wr := [ia G (ad 8) 18 (fN B)]) [0, 1] [2] [1, 2, 0] ⟨rfl, rfl, rfl, fun _ => rfl⟩ 0 rfl rfl rfl rfl ⟨Nat.le_refl _, Nat.le_refl _⟩ dX7_peopleRead_53 rfl (fun r53 u53 hw53 => ?_)
          subst hw53
          have k5 := chr_hi h0 (skp tau (v 3) q)
          have k6 : skp tau (v 3) q ≤ 80 := skp_hi h1 (by omega)
          refine z_istore_n (L' := [(2, .int (nI (chr tau (v 3) (skp tau (v 3) q)))), (0, .ref x), (1, .int (nI i))]) hX dX7_peopleRead_56 (Nat.le_of_ble_eq_true rfl) rfl ?_
          have J109 : ∀ kd : Nat, kd = kdN (chr tau (v 3) (skp tau (v 3) q)) → Z (X, G, A, H0, 6) 0 0 [ob x 7 (rf ad (va_up (va_up v 4 (skp tau (v 3) q)) 5 0)), ia G (ad 2) 80 (fN tau), ia G (ad 8) 18 (fN B)] 109 [(3, .int (ln kd)), (2, .int (nI (chr tau (v 3) (skp tau (v 3) q)))), (0, .ref x), (1, .int (nI i))] [] := by
            intro kd hk
            have kd5 := kdN_hi (chr tau (v 3) (skp tau (v 3) q))
            rcases Nat.eq_zero_or_pos kd with k0 | k0
            · subst k0
              show Z (X, G, A, H0, 6) 0 0 [ob x 7 (rf ad (va_up (va_up v 4 (skp tau (v 3) q)) 5 0)), ia G (ad 2) 80 (fN tau), ia G (ad 8) 18 (fN B)] 109 [(3, .int (-1)), (2, .int (nI (chr tau (v 3) (skp tau (v 3) q)))), (0, .ref x), (1, .int (nI i))] []
              have tv : ¬ tvOk tau (v 3) (skp tau (v 3) q) = 2 := by unfold tvOk; rw [if_pos hk.symm]; decide
              have tf : tvF tau (v 3) (skp tau (v 3) q) = skp tau (v 3) q := by unfold tvF; rw [if_pos hk.symm]
              have cb := crS_6 (crS_bad (Q := skp tau (v 3) q) hH0 (Or.inl (by omega)) (by rw [if_pos (show i = 0 by omega)]) tv) (show ¬ (0 : Nat) = 1 by decide) (by omega)
              rw [tf] at cb
              have hft : (((crS tau (v 3) (skp tau (v 3) p) 6).1 = 0 ∨ chr tau (v 3) (crS tau (v 3) (skp tau (v 3) p) 6).2.1 = 44) ∧ skp tau (v 3) q = (crS tau (v 3) (skp tau (v 3) p) 6).2.1) := by rw [cb]; exact ⟨Or.inl rfl, rfl⟩
              refine z_aload_n hX 2 dX7_peopleRead_109 rfl ?_
              refine z_iload_n hX 0 dX7_peopleRead_110 rfl ?_
              refine z_if_lt (tgt := 118) hX dX7_peopleRead_111 (by decide) (fun c111 => ?_) (fun c111 => absurd (by decide) c111)
              refine z_iconst (v := nI 0) hX dX7_peopleRead_118 (by decide) ?_
              refine z_callVv (st := []) hX (c_X7_must_no _ G x ad v (skp tau (v 3) q) ) lb_X7_must ml_X7_132 (fun (_u : Unit) => [ob x 7 (rf ad (va_up (va_up v 4 (skp tau (v 3) q)) 5 1)), ia G (ad 2) 80 (fN tau), ia G (ad 8) 18 (fN B)]) (wr := [ia G (ad 2) 80 (fN tau), ia G (ad 8) 18 (fN B)]) [0] [1, 2] [2, 0, 1] ⟨rfl, rfl, rfl, fun _ => rfl⟩ 0 rfl rfl rfl rfl ⟨Nat.le_refl _, Nat.le_refl _⟩ dX7_peopleRead_119 rfl (fun  u119 hw119 => ?_)
              refine z_aload_n hX 2 dX7_peopleRead_122 rfl ?_
              refine z_get (v := .int (nI 1)) hX fX7 0 5 rfl rfl (Nat.le_of_ble_eq_true rfl) fl_X7_119 rfl dX7_peopleRead_123 ?_
              refine zn_if_eq (tgt := 133) hX dX7_peopleRead_126 (by decide) (by omega) (fun c126 => absurd c126 (by omega)) (fun _ => ?_)
              refine z_iconst (v := (-1)) hX dX7_peopleRead_129 (by decide) ?_
              refine z_goto (tgt := 140) hX dX7_peopleRead_130 (by decide) ?_
              refine z_istore (L' := [(4, .int (-1)), (3, .int (-1)), (2, .int (nI (chr tau (v 3) (skp tau (v 3) q)))), (0, .ref x), (1, .int (nI i))]) hX dX7_peopleRead_140 (Nat.le_of_ble_eq_true rfl) rfl ?_
              refine z_aload_n hX 3 dX7_peopleRead_142 rfl ?_
              refine z_iload hX 0 dX7_peopleRead_143 rfl ?_
              refine z_i2l (v := ((-1).toInt64)) hX dX7_peopleRead_145 rfl ?_
              refine z_lconst (v := lN 1) hX dX7_peopleRead_146 (by decide) ?_
              refine z_ldc2 (v := lN 9) hX kl_X7_93 dX7_peopleRead_147 ?_
              refine z_callSi (st := [.ref x]) hX (c_X7_inX _ G (-1) 1 9 (by omega) (by omega)) lb_X7_in ml_X7_44 (fun (_u : Unit) => [ob x 7 (rf ad (va_up (va_up v 4 (skp tau (v 3) q)) 5 1)), ia G (ad 2) 80 (fN tau), ia G (ad 8) 18 (fN B)]) (wr := [ob x 7 (rf ad (va_up (va_up v 4 (skp tau (v 3) q)) 5 1)), ia G (ad 2) 80 (fN tau), ia G (ad 8) 18 (fN B)]) [] [0, 1, 2] [0, 1, 2] ⟨rfl, rfl, rfl, fun _ => rfl⟩ rfl rfl ⟨Nat.le_refl _, Nat.le_refl _⟩ dX7_peopleRead_150 rfl (fun r150 u150 hw150 => ?_)
              obtain rfl : r150 = nI 0 := by
                rcases hw150 with ⟨j9, _, h8, h9, _⟩ | ⟨_, h9⟩
                · exact absurd h9 (m1_nI (by omega))
                · exact h9
              refine z_callVv (st := []) hX (c_X7_must_f _ G x ad v (skp tau (v 3) q) 0 ) lb_X7_must ml_X7_132 (fun (_u : Unit) => [ob x 7 (rf ad (va_up (va_up v 4 (skp tau (v 3) q)) 5 1)), ia G (ad 2) 80 (fN tau), ia G (ad 8) 18 (fN B)]) (wr := [ia G (ad 2) 80 (fN tau), ia G (ad 8) 18 (fN B)]) [0] [1, 2] [2, 0, 1] ⟨rfl, rfl, rfl, fun _ => rfl⟩ 0 rfl rfl rfl rfl ⟨Nat.le_refl _, Nat.le_refl _⟩ dX7_peopleRead_153 rfl (fun  u153 hw153 => ?_)
              refine z_aload_n hX 3 dX7_peopleRead_156 rfl ?_
              refine z_callVi (st := []) hX (c_X7_letters_1 _ G x ad v tau (skp tau (v 3) q) ) lb_X7_letters ml_X7_142 (fun (_u : Unit) => [ob x 7 (rf ad (va_up (va_up v 4 (skp tau (v 3) q)) 5 1)), ia G (ad 2) 80 (fN tau), ia G (ad 8) 18 (fN B)]) (wr := [ia G (ad 8) 18 (fN B)]) [0, 1] [2] [1, 2, 0] ⟨rfl, rfl, rfl, fun _ => rfl⟩ 0 rfl rfl rfl rfl ⟨Nat.le_refl _, Nat.le_refl _⟩ dX7_peopleRead_157 rfl (fun r157 u157 hw157 => ?_)
              subst hw157
              refine z_istore (L' := [(5, .int (nI 0)), (4, .int (-1)), (3, .int (-1)), (2, .int (nI (chr tau (v 3) (skp tau (v 3) q)))), (0, .ref x), (1, .int (nI i))]) hX dX7_peopleRead_160 (Nat.le_of_ble_eq_true rfl) rfl ?_
              refine z_aload_n hX 4 dX7_peopleRead_162 rfl ?_
              refine z_get (v := .int (nI 1)) hX fX7 0 5 rfl rfl (Nat.le_of_ble_eq_true rfl) fl_X7_119 rfl dX7_peopleRead_163 ?_
              refine zn_if_ne (tgt := 202) hX dX7_peopleRead_166 (by decide) (by omega) (fun _ => ?_) (fun c166 => absurd c166 (by omega))
              refine z_iinc (v := (nI (i + 1))) (L' := [(1, .int (nI (i + 1))), (5, .int (nI 0)), (4, .int (-1)), (3, .int (-1)), (2, .int (nI (chr tau (v 3) (skp tau (v 3) q)))), (0, .ref x)]) hX 5 dX7_peopleRead_202 rfl (nI_inc _) (Nat.le_of_ble_eq_true rfl) rfl ?_
              refine z_goto (tgt := 2) hX dX7_peopleRead_205 (by decide) ?_
              refine z_lsub [5, 0] rfl ?_
              exact ih2 (i + 1) 1 (skp tau (v 3) q) B sg (by omega) (by omega) (by omega) (by omega) (fun z9 => absurd z9 (by decide)) (fun z9 => absurd z9 (by decide)) (fun z9 => absurd z9 (by decide)) (fun _ => hft)
            · have e8 : ln kd = nI (kd - 1) := by unfold ln; rw [if_neg (by omega)]
              rw [e8]
              have lq : skp tau (v 3) q < v 3 := kdN_lt (τ := tau) (by omega)
              refine z_aload_n hX 2 dX7_peopleRead_109 rfl ?_
              refine z_iload_n hX 0 dX7_peopleRead_110 rfl ?_
              refine zn_if_lt (tgt := 118) hX dX7_peopleRead_111 (by decide) (by omega) (fun c111 => absurd c111 (by omega)) (fun _ => ?_)
              refine z_iconst (v := nI 1) hX dX7_peopleRead_114 (by decide) ?_
              refine z_goto (tgt := 119) hX dX7_peopleRead_115 (by decide) ?_
              refine z_callVv (st := []) hX (c_X7_must_ok _ G x ad v (skp tau (v 3) q) ) lb_X7_must ml_X7_132 (fun (_u : Unit) => [ob x 7 (rf ad (va_up (va_up v 4 (skp tau (v 3) q + 1)) 5 0)), ia G (ad 2) 80 (fN tau), ia G (ad 8) 18 (fN B)]) (wr := [ia G (ad 2) 80 (fN tau), ia G (ad 8) 18 (fN B)]) [0] [1, 2] [2, 0, 1] ⟨rfl, rfl, rfl, fun _ => rfl⟩ 0 rfl rfl rfl rfl ⟨Nat.le_refl _, Nat.le_refl _⟩ dX7_peopleRead_119 rfl (fun  u119 hw119 => ?_)
              refine z_aload_n hX 2 dX7_peopleRead_122 rfl ?_
              refine z_get (v := .int (nI 0)) hX fX7 0 5 rfl rfl (Nat.le_of_ble_eq_true rfl) fl_X7_119 rfl dX7_peopleRead_123 ?_
              refine zn_if_eq (tgt := 133) hX dX7_peopleRead_126 (by decide) (by omega) (fun _ => ?_) (fun c126 => absurd c126 (by omega))
              refine z_aload_n hX 2 dX7_peopleRead_133 rfl ?_
              refine z_callVi (st := []) hX (c_X7_here _ G x ad v tau (skp tau (v 3) q + 1) 0 h0 h1 (by omega)) lb_X7_here ml_X7_123 (fun (_u : Unit) => [ob x 7 (rf ad (va_up (va_up v 4 (skp tau (v 3) (skp tau (v 3) q + 1))) 5 0)), ia G (ad 2) 80 (fN tau), ia G (ad 8) 18 (fN B)]) (wr := [ia G (ad 8) 18 (fN B)]) [0, 1] [2] [1, 2, 0] ⟨rfl, rfl, rfl, fun _ => rfl⟩ 0 rfl rfl rfl rfl ⟨Nat.le_refl _, Nat.le_refl _⟩ dX7_peopleRead_134 rfl (fun r134 u134 hw134 => ?_)
              subst hw134
              refine z_bipush (v := nI 48) hX dX7_peopleRead_137 (by decide) ?_
              have k7 := chr_hi h0 (skp tau (v 3) (skp tau (v 3) q + 1))
              have k8 : skp tau (v 3) (skp tau (v 3) q + 1) ≤ 80 := skp_hi h1 (by omega)
              rcases Nat.lt_or_ge (chr tau (v 3) (skp tau (v 3) (skp tau (v 3) q + 1))) 48 with l48 | l48
              · skip
                refine z_isub (v := (nI (chr tau (v 3) (skp tau (v 3) (skp tau (v 3) q + 1))) - nI 48)) hX dX7_peopleRead_139 rfl ?_
                refine z_istore (L' := [(4, .int (nI (chr tau (v 3) (skp tau (v 3) (skp tau (v 3) q + 1))) - nI 48)), (3, .int (nI (kd - 1))), (2, .int (nI (chr tau (v 3) (skp tau (v 3) q)))), (0, .ref x), (1, .int (nI i))]) hX dX7_peopleRead_140 (Nat.le_of_ble_eq_true rfl) rfl ?_
                refine z_aload_n hX 3 dX7_peopleRead_142 rfl ?_
                refine z_iload hX 0 dX7_peopleRead_143 rfl ?_
                refine z_i2l (v := ((nI (chr tau (v 3) (skp tau (v 3) (skp tau (v 3) q + 1))) - nI 48).toInt64)) hX dX7_peopleRead_145 rfl ?_
                refine z_lconst (v := lN 1) hX dX7_peopleRead_146 (by decide) ?_
                refine z_ldc2 (v := lN 9) hX kl_X7_93 dX7_peopleRead_147 ?_
                refine z_callSi (st := [.ref x]) hX (c_X7_inX _ G (nI (chr tau (v 3) (skp tau (v 3) (skp tau (v 3) q + 1))) - nI 48) 1 9 (by omega) (by omega)) lb_X7_in ml_X7_44 (fun (_u : Unit) => [ob x 7 (rf ad (va_up (va_up v 4 (skp tau (v 3) (skp tau (v 3) q + 1))) 5 0)), ia G (ad 2) 80 (fN tau), ia G (ad 8) 18 (fN B)]) (wr := [ob x 7 (rf ad (va_up (va_up v 4 (skp tau (v 3) (skp tau (v 3) q + 1))) 5 0)), ia G (ad 2) 80 (fN tau), ia G (ad 8) 18 (fN B)]) [] [0, 1, 2] [0, 1, 2] ⟨rfl, rfl, rfl, fun _ => rfl⟩ rfl rfl ⟨Nat.le_refl _, Nat.le_refl _⟩ dX7_peopleRead_150 rfl (fun r150 u150 hw150 => ?_)
                obtain rfl : r150 = nI 0 := by
                  rcases hw150 with ⟨j9, _, h8, h9, _⟩ | ⟨_, h9⟩
                  · exact absurd h9 (c48n l48 h8)
                  · exact h9
                have tv : ¬ tvOk tau (v 3) (skp tau (v 3) q) = 2 := by unfold tvOk; rw [if_neg (by omega), if_neg (by omega)]; decide
                have tf : tvF tau (v 3) (skp tau (v 3) q) = skp tau (v 3) (skp tau (v 3) q + 1) := by unfold tvF; rw [if_neg (by omega)]
                have cb := crS_6 (crS_bad (Q := skp tau (v 3) q) hH0 (Or.inl (by omega)) (by rw [if_pos (show i = 0 by omega)]) tv) (show ¬ (0 : Nat) = 1 by decide) (by omega)
                rw [tf] at cb
                have hft : (((crS tau (v 3) (skp tau (v 3) p) 6).1 = 0 ∨ chr tau (v 3) (crS tau (v 3) (skp tau (v 3) p) 6).2.1 = 44) ∧ skp tau (v 3) (skp tau (v 3) q + 1) = (crS tau (v 3) (skp tau (v 3) p) 6).2.1) := by rw [cb]; exact ⟨Or.inl rfl, rfl⟩
                refine z_callVv (st := []) hX (c_X7_must_no _ G x ad v (skp tau (v 3) (skp tau (v 3) q + 1)) ) lb_X7_must ml_X7_132 (fun (_u : Unit) => [ob x 7 (rf ad (va_up (va_up v 4 (skp tau (v 3) (skp tau (v 3) q + 1))) 5 1)), ia G (ad 2) 80 (fN tau), ia G (ad 8) 18 (fN B)]) (wr := [ia G (ad 2) 80 (fN tau), ia G (ad 8) 18 (fN B)]) [0] [1, 2] [2, 0, 1] ⟨rfl, rfl, rfl, fun _ => rfl⟩ 0 rfl rfl rfl rfl ⟨Nat.le_refl _, Nat.le_refl _⟩ dX7_peopleRead_153 rfl (fun  u153 hw153 => ?_)
                refine z_aload_n hX 3 dX7_peopleRead_156 rfl ?_
                refine z_callVi (st := []) hX (c_X7_letters_1 _ G x ad v tau (skp tau (v 3) (skp tau (v 3) q + 1)) ) lb_X7_letters ml_X7_142 (fun (_u : Unit) => [ob x 7 (rf ad (va_up (va_up v 4 (skp tau (v 3) (skp tau (v 3) q + 1))) 5 1)), ia G (ad 2) 80 (fN tau), ia G (ad 8) 18 (fN B)]) (wr := [ia G (ad 8) 18 (fN B)]) [0, 1] [2] [1, 2, 0] ⟨rfl, rfl, rfl, fun _ => rfl⟩ 0 rfl rfl rfl rfl ⟨Nat.le_refl _, Nat.le_refl _⟩ dX7_peopleRead_157 rfl (fun r157 u157 hw157 => ?_)
                subst hw157
                refine z_istore (L' := [(5, .int (nI 0)), (4, .int (nI (chr tau (v 3) (skp tau (v 3) (skp tau (v 3) q + 1))) - nI 48)), (3, .int (nI (kd - 1))), (2, .int (nI (chr tau (v 3) (skp tau (v 3) q)))), (0, .ref x), (1, .int (nI i))]) hX dX7_peopleRead_160 (Nat.le_of_ble_eq_true rfl) rfl ?_
                refine z_aload_n hX 4 dX7_peopleRead_162 rfl ?_
                refine z_get (v := .int (nI 1)) hX fX7 0 5 rfl rfl (Nat.le_of_ble_eq_true rfl) fl_X7_119 rfl dX7_peopleRead_163 ?_
                refine zn_if_ne (tgt := 202) hX dX7_peopleRead_166 (by decide) (by omega) (fun _ => ?_) (fun c166 => absurd c166 (by omega))
                refine z_iinc (v := (nI (i + 1))) (L' := [(1, .int (nI (i + 1))), (5, .int (nI 0)), (4, .int (nI (chr tau (v 3) (skp tau (v 3) (skp tau (v 3) q + 1))) - nI 48)), (3, .int (nI (kd - 1))), (2, .int (nI (chr tau (v 3) (skp tau (v 3) q)))), (0, .ref x)]) hX 5 dX7_peopleRead_202 rfl (nI_inc _) (Nat.le_of_ble_eq_true rfl) rfl ?_
                refine z_goto (tgt := 2) hX dX7_peopleRead_205 (by decide) ?_
                refine z_lsub [5, 0] rfl ?_
                exact ih2 (i + 1) 1 (skp tau (v 3) (skp tau (v 3) q + 1)) B sg (by omega) (by omega) (by omega) (by omega) (fun z9 => absurd z9 (by decide)) (fun z9 => absurd z9 (by decide)) (fun z9 => absurd z9 (by decide)) (fun _ => hft)
              · skip
                refine z_isub (v := (nI ((chr tau (v 3) (skp tau (v 3) (skp tau (v 3) q + 1))) - 48))) hX dX7_peopleRead_139 (pk_sub (by omega)) ?_
                refine z_istore (L' := [(4, .int (nI ((chr tau (v 3) (skp tau (v 3) (skp tau (v 3) q + 1))) - 48))), (3, .int (nI (kd - 1))), (2, .int (nI (chr tau (v 3) (skp tau (v 3) q)))), (0, .ref x), (1, .int (nI i))]) hX dX7_peopleRead_140 (Nat.le_of_ble_eq_true rfl) rfl ?_
                refine z_aload_n hX 3 dX7_peopleRead_142 rfl ?_
                refine z_iload hX 0 dX7_peopleRead_143 rfl ?_
                refine z_i2l (v := ((nI ((chr tau (v 3) (skp tau (v 3) (skp tau (v 3) q + 1))) - 48)).toInt64)) hX dX7_peopleRead_145 rfl ?_
                refine z_lconst (v := lN 1) hX dX7_peopleRead_146 (by decide) ?_
                refine z_ldc2 (v := lN 9) hX kl_X7_93 dX7_peopleRead_147 ?_
                refine z_callSi (st := [.ref x]) hX (c_X7_inN _ G ((chr tau (v 3) (skp tau (v 3) (skp tau (v 3) q + 1))) - 48) 1 9 (by omega) (by omega) (by omega)) lb_X7_in ml_X7_44 (fun (_u : Unit) => [ob x 7 (rf ad (va_up (va_up v 4 (skp tau (v 3) (skp tau (v 3) q + 1))) 5 0)), ia G (ad 2) 80 (fN tau), ia G (ad 8) 18 (fN B)]) (wr := [ob x 7 (rf ad (va_up (va_up v 4 (skp tau (v 3) (skp tau (v 3) q + 1))) 5 0)), ia G (ad 2) 80 (fN tau), ia G (ad 8) 18 (fN B)]) [] [0, 1, 2] [0, 1, 2] ⟨rfl, rfl, rfl, fun _ => rfl⟩ rfl rfl ⟨Nat.le_refl _, Nat.le_refl _⟩ dX7_peopleRead_150 rfl (fun r150 u150 hw150 => ?_)
                try dsimp only at hw150
                rcases Classical.em (1 ≤ ((chr tau (v 3) (skp tau (v 3) (skp tau (v 3) q + 1))) - 48) ∧ ((chr tau (v 3) (skp tau (v 3) (skp tau (v 3) q + 1))) - 48) ≤ 9) with b150 | b150
                · obtain rfl := hw150.1 b150
                  have tv : tvOk tau (v 3) (skp tau (v 3) q) = 2 := by unfold tvOk; rw [if_neg (by omega), if_pos (by omega)]
                  have lq2 : skp tau (v 3) (skp tau (v 3) q + 1) < v 3 := chr_lt (τ := tau) (by omega)
                  refine z_callVv (st := []) hX (c_X7_must_ok _ G x ad v (skp tau (v 3) (skp tau (v 3) q + 1)) ) lb_X7_must ml_X7_132 (fun (_u : Unit) => [ob x 7 (rf ad (va_up (va_up v 4 (skp tau (v 3) (skp tau (v 3) q + 1) + 1)) 5 0)), ia G (ad 2) 80 (fN tau), ia G (ad 8) 18 (fN B)]) (wr := [ia G (ad 2) 80 (fN tau), ia G (ad 8) 18 (fN B)]) [0] [1, 2] [2, 0, 1] ⟨rfl, rfl, rfl, fun _ => rfl⟩ 0 rfl rfl rfl rfl ⟨Nat.le_refl _, Nat.le_refl _⟩ dX7_peopleRead_153 rfl (fun  u153 hw153 => ?_)
                  refine z_aload_n hX 3 dX7_peopleRead_156 rfl ?_
                  refine z_callVi (st := []) hX (c_X7_letters_0 _ G x ad v tau (skp tau (v 3) (skp tau (v 3) q + 1) + 1) h0 h1 (by omega)) lb_X7_letters ml_X7_142 (fun (_u : Nat) => [ob x 7 (rf ad (va_up (va_up v 4 _u) 5 0)), ia G (ad 2) 80 (fN tau), ia G (ad 8) 18 (fN B)]) (wr := [ia G (ad 8) 18 (fN B)]) [0, 1] [2] [1, 2, 0] ⟨rfl, rfl, rfl, fun _ => rfl⟩ 0 rfl rfl rfl rfl ⟨Nat.le_refl _, Nat.le_refl _⟩ dX7_peopleRead_157 rfl (fun r157 u157 hw157 => ?_)
                  obtain ⟨p2_1, rfl⟩ : ∃ z9, z9 = u157 := ⟨_, rfl⟩
                  obtain ⟨rfl, rfl⟩ : r157 = nI (tvR tau (v 3) (skp tau (v 3) q)).2 ∧ p2_1 = (tvR tau (v 3) (skp tau (v 3) q)).1 := hw157
                  have k9 : (tvR tau (v 3) (skp tau (v 3) q)).1 ≤ v 3 ∧ skp tau (v 3) (tvR tau (v 3) (skp tau (v 3) q)).1 = (tvR tau (v 3) (skp tau (v 3) q)).1 ∧ (tvR tau (v 3) (skp tau (v 3) q)).2 < 64 := ris_ok tau (v 3) 6 (skp tau (v 3) (skp tau (v 3) (skp tau (v 3) q + 1) + 1)) 0 (by omega) (skp_hi (Nat.le_refl _) (by omega)) (skp_id _ _ _) (by omega)
                  have hgo := crS_go (Q := skp tau (v 3) q) hH0 (Or.inl (by omega)) (by rw [if_pos (show i = 0 by omega)]) tv
                  rw [← hk, ← k9.2.1] at hgo
                  refine z_istore (L' := [(5, .int (nI ((tvR tau (v 3) (skp tau (v 3) q)).2))), (4, .int (nI ((chr tau (v 3) (skp tau (v 3) (skp tau (v 3) q + 1))) - 48))), (3, .int (nI (kd - 1))), (2, .int (nI (chr tau (v 3) (skp tau (v 3) q)))), (0, .ref x), (1, .int (nI i))]) hX dX7_peopleRead_160 (Nat.le_of_ble_eq_true rfl) rfl ?_
                  refine z_aload_n hX 4 dX7_peopleRead_162 rfl ?_
                  refine z_get (v := .int (nI 0)) hX fX7 0 5 rfl rfl (Nat.le_of_ble_eq_true rfl) fl_X7_119 rfl dX7_peopleRead_163 ?_
                  refine zn_if_ne (tgt := 202) hX dX7_peopleRead_166 (by decide) (by omega) (fun c166 => absurd c166 (by omega)) (fun _ => ?_)
                  refine z_aload_n hX 4 dX7_peopleRead_169 rfl ?_
                  refine z_get (v := .ref (ad 8)) hX fX7 0 8 rfl rfl (Nat.le_of_ble_eq_true rfl) fl_X7_19 rfl dX7_peopleRead_170 ?_
                  refine z_iconst (v := nI 3) hX dX7_peopleRead_173 (by decide) ?_
                  refine z_iload_n hX 5 dX7_peopleRead_174 rfl ?_
                  refine z_imul (v := (nI (3 * i))) hX dX7_peopleRead_175 (pk_mul _ _) ?_
                  refine z_iload_n hX 2 dX7_peopleRead_176 rfl ?_
                  refine z_iast (ws' := [ob x 7 (rf ad (va_up (va_up v 4 ((tvR tau (v 3) (skp tau (v 3) q)).1)) 5 0)), ia G (ad 2) 80 (fN tau), ia G (ad 8) 18 (fN (va_up B (3 * i) (kd - 1)))]) hX 2 (j := (3 * i)) rfl (by omega) (by decide) (updN _ _ _) rfl dX7_peopleRead_177 ?_
                  refine z_aload_n hX 4 dX7_peopleRead_178 rfl ?_
                  refine z_get (v := .ref (ad 8)) hX fX7 0 8 rfl rfl (Nat.le_of_ble_eq_true rfl) fl_X7_19 rfl dX7_peopleRead_179 ?_
                  refine z_iconst (v := nI 3) hX dX7_peopleRead_182 (by decide) ?_
                  refine z_iload_n hX 5 dX7_peopleRead_183 rfl ?_
                  refine z_imul (v := (nI (3 * i))) hX dX7_peopleRead_184 (pk_mul _ _) ?_
                  refine z_iconst (v := nI 1) hX dX7_peopleRead_185 (by decide) ?_
                  refine z_iadd (v := (nI (3 * i + 1))) hX dX7_peopleRead_186 (nI_add _ _) ?_
                  refine z_iload hX 0 dX7_peopleRead_187 rfl ?_
                  refine z_iast (ws' := [ob x 7 (rf ad (va_up (va_up v 4 ((tvR tau (v 3) (skp tau (v 3) q)).1)) 5 0)), ia G (ad 2) 80 (fN tau), ia G (ad 8) 18 (fN (va_up (va_up B (3 * i) (kd - 1)) (3 * i + 1) ((tvR tau (v 3) (skp tau (v 3) q)).2)))]) hX 2 (j := (3 * i + 1)) rfl (by omega) (by decide) (updN _ _ _) rfl dX7_peopleRead_189 ?_
                  refine z_aload_n hX 4 dX7_peopleRead_190 rfl ?_
                  refine z_get (v := .ref (ad 8)) hX fX7 0 8 rfl rfl (Nat.le_of_ble_eq_true rfl) fl_X7_19 rfl dX7_peopleRead_191 ?_
                  refine z_iconst (v := nI 3) hX dX7_peopleRead_194 (by decide) ?_
                  refine z_iload_n hX 5 dX7_peopleRead_195 rfl ?_
                  refine z_imul (v := (nI (3 * i))) hX dX7_peopleRead_196 (pk_mul _ _) ?_
                  refine z_iconst (v := nI 2) hX dX7_peopleRead_197 (by decide) ?_
                  refine z_iadd (v := (nI (3 * i + 2))) hX dX7_peopleRead_198 (nI_add _ _) ?_
                  refine z_iload hX 1 dX7_peopleRead_199 rfl ?_
                  refine z_iast (ws' := [ob x 7 (rf ad (va_up (va_up v 4 ((tvR tau (v 3) (skp tau (v 3) q)).1)) 5 0)), ia G (ad 2) 80 (fN tau), ia G (ad 8) 18 (fN (va_up (va_up (va_up B (3 * i) (kd - 1)) (3 * i + 1) ((tvR tau (v 3) (skp tau (v 3) q)).2)) (3 * i + 2) ((chr tau (v 3) (skp tau (v 3) (skp tau (v 3) q + 1))) - 48)))]) hX 2 (j := (3 * i + 2)) rfl (by omega) (by decide) (updN _ _ _) rfl dX7_peopleRead_201 ?_
                  refine z_iinc (v := (nI (i + 1))) (L' := [(1, .int (nI (i + 1))), (5, .int (nI ((tvR tau (v 3) (skp tau (v 3) q)).2))), (4, .int (nI ((chr tau (v 3) (skp tau (v 3) (skp tau (v 3) q + 1))) - 48))), (3, .int (nI (kd - 1))), (2, .int (nI (chr tau (v 3) (skp tau (v 3) q)))), (0, .ref x)]) hX 5 dX7_peopleRead_202 rfl (nI_inc _) (Nat.le_of_ble_eq_true rfl) rfl ?_
                  refine z_goto (tgt := 2) hX dX7_peopleRead_205 (by decide) ?_
                  refine z_lsub [5, 0] rfl ?_
                  exact ih2 (i + 1) 0 ((tvR tau (v 3) (skp tau (v 3) q)).1) (va_up (va_up (va_up B (3 * i) (kd - 1)) (3 * i + 1) ((tvR tau (v 3) (skp tau (v 3) q)).2)) (3 * i + 2) ((chr tau (v 3) (skp tau (v 3) (skp tau (v 3) q + 1))) - 48)) (va_up (va_up (va_up sg (3 * i) (kd - 1)) (3 * i + 1) ((tvR tau (v 3) (skp tau (v 3) q)).2)) (3 * i + 2) ((chr tau (v 3) (skp tau (v 3) (skp tau (v 3) q + 1))) - 48)) (by omega) (by omega) (by omega) (by omega) (fun _ => by omega) (fun _ => hgo) (fun _ j9 h9 => up3_eq (fun h8 => hA0 j9 h8) h9) (fun z9 => absurd z9 (by decide))
                · obtain rfl := hw150.2 b150
                  have tv : ¬ tvOk tau (v 3) (skp tau (v 3) q) = 2 := by unfold tvOk; rw [if_neg (by omega), if_neg (by omega)]; decide
                  have tf : tvF tau (v 3) (skp tau (v 3) q) = skp tau (v 3) (skp tau (v 3) q + 1) := by unfold tvF; rw [if_neg (by omega)]
                  have cb := crS_6 (crS_bad (Q := skp tau (v 3) q) hH0 (Or.inl (by omega)) (by rw [if_pos (show i = 0 by omega)]) tv) (show ¬ (0 : Nat) = 1 by decide) (by omega)
                  rw [tf] at cb
                  have hft : (((crS tau (v 3) (skp tau (v 3) p) 6).1 = 0 ∨ chr tau (v 3) (crS tau (v 3) (skp tau (v 3) p) 6).2.1 = 44) ∧ skp tau (v 3) (skp tau (v 3) q + 1) = (crS tau (v 3) (skp tau (v 3) p) 6).2.1) := by rw [cb]; exact ⟨Or.inl rfl, rfl⟩
                  refine z_callVv (st := []) hX (c_X7_must_no _ G x ad v (skp tau (v 3) (skp tau (v 3) q + 1)) ) lb_X7_must ml_X7_132 (fun (_u : Unit) => [ob x 7 (rf ad (va_up (va_up v 4 (skp tau (v 3) (skp tau (v 3) q + 1))) 5 1)), ia G (ad 2) 80 (fN tau), ia G (ad 8) 18 (fN B)]) (wr := [ia G (ad 2) 80 (fN tau), ia G (ad 8) 18 (fN B)]) [0] [1, 2] [2, 0, 1] ⟨rfl, rfl, rfl, fun _ => rfl⟩ 0 rfl rfl rfl rfl ⟨Nat.le_refl _, Nat.le_refl _⟩ dX7_peopleRead_153 rfl (fun  u153 hw153 => ?_)
                  refine z_aload_n hX 3 dX7_peopleRead_156 rfl ?_
                  refine z_callVi (st := []) hX (c_X7_letters_1 _ G x ad v tau (skp tau (v 3) (skp tau (v 3) q + 1)) ) lb_X7_letters ml_X7_142 (fun (_u : Unit) => [ob x 7 (rf ad (va_up (va_up v 4 (skp tau (v 3) (skp tau (v 3) q + 1))) 5 1)), ia G (ad 2) 80 (fN tau), ia G (ad 8) 18 (fN B)]) (wr := [ia G (ad 8) 18 (fN B)]) [0, 1] [2] [1, 2, 0] ⟨rfl, rfl, rfl, fun _ => rfl⟩ 0 rfl rfl rfl rfl ⟨Nat.le_refl _, Nat.le_refl _⟩ dX7_peopleRead_157 rfl (fun r157 u157 hw157 => ?_)
                  subst hw157
                  refine z_istore (L' := [(5, .int (nI 0)), (4, .int (nI ((chr tau (v 3) (skp tau (v 3) (skp tau (v 3) q + 1))) - 48))), (3, .int (nI (kd - 1))), (2, .int (nI (chr tau (v 3) (skp tau (v 3) q)))), (0, .ref x), (1, .int (nI i))]) hX dX7_peopleRead_160 (Nat.le_of_ble_eq_true rfl) rfl ?_
                  refine z_aload_n hX 4 dX7_peopleRead_162 rfl ?_
                  refine z_get (v := .int (nI 1)) hX fX7 0 5 rfl rfl (Nat.le_of_ble_eq_true rfl) fl_X7_119 rfl dX7_peopleRead_163 ?_
                  refine zn_if_ne (tgt := 202) hX dX7_peopleRead_166 (by decide) (by omega) (fun _ => ?_) (fun c166 => absurd c166 (by omega))
                  refine z_iinc (v := (nI (i + 1))) (L' := [(1, .int (nI (i + 1))), (5, .int (nI 0)), (4, .int (nI ((chr tau (v 3) (skp tau (v 3) (skp tau (v 3) q + 1))) - 48))), (3, .int (nI (kd - 1))), (2, .int (nI (chr tau (v 3) (skp tau (v 3) q)))), (0, .ref x)]) hX 5 dX7_peopleRead_202 rfl (nI_inc _) (Nat.le_of_ble_eq_true rfl) rfl ?_
                  refine z_goto (tgt := 2) hX dX7_peopleRead_205 (by decide) ?_
                  refine z_lsub [5, 0] rfl ?_
                  exact ih2 (i + 1) 1 (skp tau (v 3) (skp tau (v 3) q + 1)) B sg (by omega) (by omega) (by omega) (by omega) (fun z9 => absurd z9 (by decide)) (fun z9 => absurd z9 (by decide)) (fun z9 => absurd z9 (by decide)) (fun _ => hft)
          refine z_iload_n hX 0 dX7_peopleRead_57 rfl ?_
          refine z_bipush (v := nI 119) hX dX7_peopleRead_58 (by decide) ?_
          refine zn_icmp_ne (tgt := 67) hX dX7_peopleRead_60 (by decide) (by omega) (by omega) (fun c60 => ?_) (fun c60 => ?_)
          · skip
            refine z_iload_n hX 0 dX7_peopleRead_67 rfl ?_
            refine z_bipush (v := nI 99) hX dX7_peopleRead_68 (by decide) ?_
            refine zn_icmp_ne (tgt := 77) hX dX7_peopleRead_70 (by decide) (by omega) (by omega) (fun c70 => ?_) (fun c70 => ?_)
            · skip
              refine z_iload_n hX 0 dX7_peopleRead_77 rfl ?_
              refine z_bipush (v := nI 98) hX dX7_peopleRead_78 (by decide) ?_
              refine zn_icmp_ne (tgt := 87) hX dX7_peopleRead_80 (by decide) (by omega) (by omega) (fun c80 => ?_) (fun c80 => ?_)
              · skip
                refine z_iload_n hX 0 dX7_peopleRead_87 rfl ?_
                refine z_bipush (v := nI 100) hX dX7_peopleRead_88 (by decide) ?_
                refine zn_icmp_ne (tgt := 97) hX dX7_peopleRead_90 (by decide) (by omega) (by omega) (fun c90 => ?_) (fun c90 => ?_)
                · skip
                  refine z_iload_n hX 0 dX7_peopleRead_97 rfl ?_
                  refine z_bipush (v := nI 116) hX dX7_peopleRead_98 (by decide) ?_
                  refine zn_icmp_ne (tgt := 107) hX dX7_peopleRead_100 (by decide) (by omega) (by omega) (fun c100 => ?_) (fun c100 => ?_)
                  · skip
                    refine z_iconst (v := (-1)) hX dX7_peopleRead_107 (by decide) ?_
                    refine z_istore_n (L' := [(3, .int (-1)), (2, .int (nI (chr tau (v 3) (skp tau (v 3) q)))), (0, .ref x), (1, .int (nI i))]) hX dX7_peopleRead_108 (Nat.le_of_ble_eq_true rfl) rfl ?_
                    have kd : kdN (chr tau (v 3) (skp tau (v 3) q)) = 0 := by
                      unfold kdN
                      repeat' split
                      all_goals omega
                    exact J109 0 kd.symm
                  · skip
                    refine z_iconst (v := nI 4) hX dX7_peopleRead_103 (by decide) ?_
                    refine z_goto (tgt := 108) hX dX7_peopleRead_104 (by decide) ?_
                    refine z_istore_n (L' := [(3, .int (nI 4)), (2, .int (nI (chr tau (v 3) (skp tau (v 3) q)))), (0, .ref x), (1, .int (nI i))]) hX dX7_peopleRead_108 (Nat.le_of_ble_eq_true rfl) rfl ?_
                    have kd : kdN (chr tau (v 3) (skp tau (v 3) q)) = 5 := by
                      unfold kdN
                      repeat' split
                      all_goals omega
                    exact J109 5 kd.symm
                · skip
                  refine z_iconst (v := nI 3) hX dX7_peopleRead_93 (by decide) ?_
                  refine z_goto (tgt := 108) hX dX7_peopleRead_94 (by decide) ?_
                  refine z_istore_n (L' := [(3, .int (nI 3)), (2, .int (nI (chr tau (v 3) (skp tau (v 3) q)))), (0, .ref x), (1, .int (nI i))]) hX dX7_peopleRead_108 (Nat.le_of_ble_eq_true rfl) rfl ?_
                  have kd : kdN (chr tau (v 3) (skp tau (v 3) q)) = 4 := by
                    unfold kdN
                    repeat' split
                    all_goals omega
                  exact J109 4 kd.symm
              · skip
                refine z_iconst (v := nI 2) hX dX7_peopleRead_83 (by decide) ?_
                refine z_goto (tgt := 108) hX dX7_peopleRead_84 (by decide) ?_
                refine z_istore_n (L' := [(3, .int (nI 2)), (2, .int (nI (chr tau (v 3) (skp tau (v 3) q)))), (0, .ref x), (1, .int (nI i))]) hX dX7_peopleRead_108 (Nat.le_of_ble_eq_true rfl) rfl ?_
                have kd : kdN (chr tau (v 3) (skp tau (v 3) q)) = 3 := by
                  unfold kdN
                  repeat' split
                  all_goals omega
                exact J109 3 kd.symm
            · skip
              refine z_iconst (v := nI 1) hX dX7_peopleRead_73 (by decide) ?_
              refine z_goto (tgt := 108) hX dX7_peopleRead_74 (by decide) ?_
              refine z_istore_n (L' := [(3, .int (nI 1)), (2, .int (nI (chr tau (v 3) (skp tau (v 3) q)))), (0, .ref x), (1, .int (nI i))]) hX dX7_peopleRead_108 (Nat.le_of_ble_eq_true rfl) rfl ?_
              have kd : kdN (chr tau (v 3) (skp tau (v 3) q)) = 2 := by
                unfold kdN
                repeat' split
                all_goals omega
              exact J109 2 kd.symm
          · skip
            refine z_iconst (v := nI 0) hX dX7_peopleRead_63 (by decide) ?_
            refine z_goto (tgt := 108) hX dX7_peopleRead_64 (by decide) ?_
            refine z_istore_n (L' := [(3, .int (nI 0)), (2, .int (nI (chr tau (v 3) (skp tau (v 3) q)))), (0, .ref x), (1, .int (nI i))]) hX dX7_peopleRead_108 (Nat.le_of_ble_eq_true rfl) rfl ?_
            have kd : kdN (chr tau (v 3) (skp tau (v 3) q)) = 1 := by
              unfold kdN
              repeat' split
              all_goals omega
            exact J109 1 kd.symm
        · skip
          refine z_aload_n hX 0 dX7_peopleRead_13 rfl ?_
          refine z_callVi (st := []) hX (c_X7_here _ G x ad v tau q 0 h0 h1 hq8) lb_X7_here ml_X7_123 (fun (_u : Unit) => [ob x 7 (rf ad (va_up (va_up v 4 (skp tau (v 3) q)) 5 0)), ia G (ad 2) 80 (fN tau), ia G (ad 8) 18 (fN B)]) (wr := [ia G (ad 8) 18 (fN B)]) [0, 1] [2] [1, 2, 0] ⟨rfl, rfl, rfl, fun _ => rfl⟩ 0 rfl rfl rfl rfl ⟨Nat.le_refl _, Nat.le_refl _⟩ dX7_peopleRead_14 rfl (fun r14 u14 hw14 => ?_)
          subst hw14
          refine z_bipush (v := nI 44) hX dX7_peopleRead_17 (by decide) ?_
          refine zn_icmp_ne (tgt := 208) hX dX7_peopleRead_19 (by decide) (by omega) (by omega) (fun c19 => ?_) (fun c19 => ?_)
          · skip
            refine z_iload_n hX 1 dX7_peopleRead_208 rfl ?_
            rcases Nat.lt_or_ge i 6 with l6 | l6
            · have e6 := crS_6 (crS_no hH0 (by omega) c19) (show ¬ (2 : Nat) = 1 by decide) l6
              rw [e6] at hR
              exact hR _ (skp tau (v 3) q, 0, i, B) _ _ ⟨rfl, Or.inr ⟨rfl, (show ¬ (2 : Nat) = 0 by decide), rfl, rfl, by omega, hA0⟩⟩ dX7_peopleRead_209 rfl
            · have e6 : i = 6 := by omega
              subst e6
              rw [hH0] at hR
              exact hR _ (skp tau (v 3) q, 0, 6, B) _ _ ⟨rfl, Or.inr ⟨rfl, (show ¬ (1 : Nat) = 0 by decide), rfl, rfl, by omega, hA0⟩⟩ dX7_peopleRead_209 rfl
          · skip
            refine z_iload_n hX 1 dX7_peopleRead_22 rfl ?_
            refine zn_if_le (tgt := 41) hX dX7_peopleRead_23 (by decide) (by omega) (fun c23 => absurd c23 (by omega)) (fun c23 => ?_)
            refine z_aload_n hX 0 dX7_peopleRead_26 rfl ?_
            refine z_iload_n hX 1 dX7_peopleRead_27 rfl ?_
            have lq0 : skp tau (v 3) q < v 3 := chr_lt (τ := tau) (by omega)
            refine z_bipush (v := nI 6) hX dX7_peopleRead_28 (by decide) ?_
            refine zn_icmp_ge (tgt := 37) hX dX7_peopleRead_30 (by decide) (by omega) (by omega) (fun c30 => ?_) (fun c30 => ?_)
            · skip
              refine z_iconst (v := nI 0) hX dX7_peopleRead_37 (by decide) ?_
              refine z_callVv (st := []) hX (c_X7_must_no _ G x ad v (skp tau (v 3) q) ) lb_X7_must ml_X7_132 (fun (_u : Unit) => [ob x 7 (rf ad (va_up (va_up v 4 (skp tau (v 3) q)) 5 1)), ia G (ad 2) 80 (fN tau), ia G (ad 8) 18 (fN B)]) (wr := [ia G (ad 2) 80 (fN tau), ia G (ad 8) 18 (fN B)]) [0] [1, 2] [2, 0, 1] ⟨rfl, rfl, rfl, fun _ => rfl⟩ 0 rfl rfl rfl rfl ⟨Nat.le_refl _, Nat.le_refl _⟩ dX7_peopleRead_38 rfl (fun  u38 hw38 => ?_)
              refine z_aload_n hX 0 dX7_peopleRead_41 rfl ?_
              refine z_get (v := .int (nI 1)) hX fX7 0 5 rfl rfl (Nat.le_of_ble_eq_true rfl) fl_X7_119 rfl dX7_peopleRead_42 ?_
              refine zn_if_eq (tgt := 52) hX dX7_peopleRead_45 (by decide) (by omega) (fun c45 => absurd c45 (by omega)) (fun _ => ?_)
              refine z_iconst (v := nI 0) hX dX7_peopleRead_48 (by decide) ?_
              refine z_goto (tgt := 56) hX dX7_peopleRead_49 (by decide) ?_
              have hft : (((crS tau (v 3) (skp tau (v 3) p) 6).1 = 0 ∨ chr tau (v 3) (crS tau (v 3) (skp tau (v 3) p) 6).2.1 = 44) ∧ skp tau (v 3) q = (crS tau (v 3) (skp tau (v 3) p) 6).2.1) := by
                have e6 : i = 6 := by omega
                subst e6
                rw [hH0]
                exact ⟨Or.inr c19, rfl⟩
              refine z_istore_n (L' := [(2, .int (nI 0)), (0, .ref x), (1, .int (nI i))]) hX dX7_peopleRead_56 (Nat.le_of_ble_eq_true rfl) rfl ?_
              refine z_iload_n hX 0 dX7_peopleRead_57 rfl ?_
              refine z_bipush (v := nI 119) hX dX7_peopleRead_58 (by decide) ?_
              refine zn_icmp_ne (tgt := 67) hX dX7_peopleRead_60 (by decide) (by omega) (by omega) (fun _ => ?_) (fun c60 => absurd c60 (by omega))
              refine z_iload_n hX 0 dX7_peopleRead_67 rfl ?_
              refine z_bipush (v := nI 99) hX dX7_peopleRead_68 (by decide) ?_
              refine zn_icmp_ne (tgt := 77) hX dX7_peopleRead_70 (by decide) (by omega) (by omega) (fun _ => ?_) (fun c70 => absurd c70 (by omega))
              refine z_iload_n hX 0 dX7_peopleRead_77 rfl ?_
              refine z_bipush (v := nI 98) hX dX7_peopleRead_78 (by decide) ?_
              refine zn_icmp_ne (tgt := 87) hX dX7_peopleRead_80 (by decide) (by omega) (by omega) (fun _ => ?_) (fun c80 => absurd c80 (by omega))
              refine z_iload_n hX 0 dX7_peopleRead_87 rfl ?_
              refine z_bipush (v := nI 100) hX dX7_peopleRead_88 (by decide) ?_
              refine zn_icmp_ne (tgt := 97) hX dX7_peopleRead_90 (by decide) (by omega) (by omega) (fun _ => ?_) (fun c90 => absurd c90 (by omega))
              refine z_iload_n hX 0 dX7_peopleRead_97 rfl ?_
              refine z_bipush (v := nI 116) hX dX7_peopleRead_98 (by decide) ?_
              refine zn_icmp_ne (tgt := 107) hX dX7_peopleRead_100 (by decide) (by omega) (by omega) (fun _ => ?_) (fun c100 => absurd c100 (by omega))
              refine z_iconst (v := (-1)) hX dX7_peopleRead_107 (by decide) ?_
              refine z_istore_n (L' := [(3, .int (-1)), (2, .int (nI 0)), (0, .ref x), (1, .int (nI i))]) hX dX7_peopleRead_108 (Nat.le_of_ble_eq_true rfl) rfl ?_
              refine z_aload_n hX 2 dX7_peopleRead_109 rfl ?_
              refine z_iload_n hX 0 dX7_peopleRead_110 rfl ?_
              refine z_if_lt (tgt := 118) hX dX7_peopleRead_111 (by decide) (fun c111 => ?_) (fun c111 => absurd (by decide) c111)
              refine z_iconst (v := nI 0) hX dX7_peopleRead_118 (by decide) ?_
              refine z_callVv (st := []) hX (c_X7_must_f _ G x ad v (skp tau (v 3) q) 0 ) lb_X7_must ml_X7_132 (fun (_u : Unit) => [ob x 7 (rf ad (va_up (va_up v 4 (skp tau (v 3) q)) 5 1)), ia G (ad 2) 80 (fN tau), ia G (ad 8) 18 (fN B)]) (wr := [ia G (ad 2) 80 (fN tau), ia G (ad 8) 18 (fN B)]) [0] [1, 2] [2, 0, 1] ⟨rfl, rfl, rfl, fun _ => rfl⟩ 0 rfl rfl rfl rfl ⟨Nat.le_refl _, Nat.le_refl _⟩ dX7_peopleRead_119 rfl (fun  u119 hw119 => ?_)
              refine z_aload_n hX 2 dX7_peopleRead_122 rfl ?_
              refine z_get (v := .int (nI 1)) hX fX7 0 5 rfl rfl (Nat.le_of_ble_eq_true rfl) fl_X7_119 rfl dX7_peopleRead_123 ?_
              refine zn_if_eq (tgt := 133) hX dX7_peopleRead_126 (by decide) (by omega) (fun c126 => absurd c126 (by omega)) (fun _ => ?_)
              refine z_iconst (v := (-1)) hX dX7_peopleRead_129 (by decide) ?_
              refine z_goto (tgt := 140) hX dX7_peopleRead_130 (by decide) ?_
              refine z_istore (L' := [(4, .int (-1)), (3, .int (-1)), (2, .int (nI 0)), (0, .ref x), (1, .int (nI i))]) hX dX7_peopleRead_140 (Nat.le_of_ble_eq_true rfl) rfl ?_
              refine z_aload_n hX 3 dX7_peopleRead_142 rfl ?_
              refine z_iload hX 0 dX7_peopleRead_143 rfl ?_
              refine z_i2l (v := ((-1).toInt64)) hX dX7_peopleRead_145 rfl ?_
              refine z_lconst (v := lN 1) hX dX7_peopleRead_146 (by decide) ?_
              refine z_ldc2 (v := lN 9) hX kl_X7_93 dX7_peopleRead_147 ?_
              refine z_callSi (st := [.ref x]) hX (c_X7_inX _ G (-1) 1 9 (by omega) (by omega)) lb_X7_in ml_X7_44 (fun (_u : Unit) => [ob x 7 (rf ad (va_up (va_up v 4 (skp tau (v 3) q)) 5 1)), ia G (ad 2) 80 (fN tau), ia G (ad 8) 18 (fN B)]) (wr := [ob x 7 (rf ad (va_up (va_up v 4 (skp tau (v 3) q)) 5 1)), ia G (ad 2) 80 (fN tau), ia G (ad 8) 18 (fN B)]) [] [0, 1, 2] [0, 1, 2] ⟨rfl, rfl, rfl, fun _ => rfl⟩ rfl rfl ⟨Nat.le_refl _, Nat.le_refl _⟩ dX7_peopleRead_150 rfl (fun r150 u150 hw150 => ?_)
              obtain rfl : r150 = nI 0 := by
                rcases hw150 with ⟨j9, _, h8, h9, _⟩ | ⟨_, h9⟩
                · exact absurd h9 (m1_nI (by omega))
                · exact h9
              refine z_callVv (st := []) hX (c_X7_must_f _ G x ad v (skp tau (v 3) q) 0 ) lb_X7_must ml_X7_132 (fun (_u : Unit) => [ob x 7 (rf ad (va_up (va_up v 4 (skp tau (v 3) q)) 5 1)), ia G (ad 2) 80 (fN tau), ia G (ad 8) 18 (fN B)]) (wr := [ia G (ad 2) 80 (fN tau), ia G (ad 8) 18 (fN B)]) [0] [1, 2] [2, 0, 1] ⟨rfl, rfl, rfl, fun _ => rfl⟩ 0 rfl rfl rfl rfl ⟨Nat.le_refl _, Nat.le_refl _⟩ dX7_peopleRead_153 rfl (fun  u153 hw153 => ?_)
              refine z_aload_n hX 3 dX7_peopleRead_156 rfl ?_
              refine z_callVi (st := []) hX (c_X7_letters_1 _ G x ad v tau (skp tau (v 3) q) ) lb_X7_letters ml_X7_142 (fun (_u : Unit) => [ob x 7 (rf ad (va_up (va_up v 4 (skp tau (v 3) q)) 5 1)), ia G (ad 2) 80 (fN tau), ia G (ad 8) 18 (fN B)]) (wr := [ia G (ad 8) 18 (fN B)]) [0, 1] [2] [1, 2, 0] ⟨rfl, rfl, rfl, fun _ => rfl⟩ 0 rfl rfl rfl rfl ⟨Nat.le_refl _, Nat.le_refl _⟩ dX7_peopleRead_157 rfl (fun r157 u157 hw157 => ?_)
              subst hw157
              refine z_istore (L' := [(5, .int (nI 0)), (4, .int (-1)), (3, .int (-1)), (2, .int (nI 0)), (0, .ref x), (1, .int (nI i))]) hX dX7_peopleRead_160 (Nat.le_of_ble_eq_true rfl) rfl ?_
              refine z_aload_n hX 4 dX7_peopleRead_162 rfl ?_
              refine z_get (v := .int (nI 1)) hX fX7 0 5 rfl rfl (Nat.le_of_ble_eq_true rfl) fl_X7_119 rfl dX7_peopleRead_163 ?_
              refine zn_if_ne (tgt := 202) hX dX7_peopleRead_166 (by decide) (by omega) (fun _ => ?_) (fun c166 => absurd c166 (by omega))
              refine z_iinc (v := (nI (i + 1))) (L' := [(1, .int (nI (i + 1))), (5, .int (nI 0)), (4, .int (-1)), (3, .int (-1)), (2, .int (nI 0)), (0, .ref x)]) hX 5 dX7_peopleRead_202 rfl (nI_inc _) (Nat.le_of_ble_eq_true rfl) rfl ?_
              refine z_goto (tgt := 2) hX dX7_peopleRead_205 (by decide) ?_
              refine z_lsub [5, 0] rfl ?_
              exact ih2 (i + 1) 1 (skp tau (v 3) q) B sg (by omega) (by omega) (by omega) (by omega) (fun z9 => absurd z9 (by decide)) (fun z9 => absurd z9 (by decide)) (fun z9 => absurd z9 (by decide)) (fun _ => hft)
            · skip
              refine z_iconst (v := nI 1) hX dX7_peopleRead_33 (by decide) ?_
              refine z_goto (tgt := 38) hX dX7_peopleRead_34 (by decide) ?_
              refine z_callVv (st := []) hX (c_X7_must_ok _ G x ad v (skp tau (v 3) q) ) lb_X7_must ml_X7_132 (fun (_u : Unit) => [ob x 7 (rf ad (va_up (va_up v 4 (skp tau (v 3) q + 1)) 5 0)), ia G (ad 2) 80 (fN tau), ia G (ad 8) 18 (fN B)]) (wr := [ia G (ad 2) 80 (fN tau), ia G (ad 8) 18 (fN B)]) [0] [1, 2] [2, 0, 1] ⟨rfl, rfl, rfl, fun _ => rfl⟩ 0 rfl rfl rfl rfl ⟨Nat.le_refl _, Nat.le_refl _⟩ dX7_peopleRead_38 rfl (fun  u38 hw38 => ?_)
              refine z_aload_n hX 0 dX7_peopleRead_41 rfl ?_
              refine z_get (v := .int (nI 0)) hX fX7 0 5 rfl rfl (Nat.le_of_ble_eq_true rfl) fl_X7_119 rfl dX7_peopleRead_42 ?_
              refine zn_if_eq (tgt := 52) hX dX7_peopleRead_45 (by decide) (by omega) (fun _ => ?_) (fun c45 => absurd c45 (by omega))
              refine z_aload_n hX 0 dX7_peopleRead_52 rfl ?_
              refine z_callVi (st := []) hX (c_X7_here _ G x ad v tau (skp tau (v 3) q + 1) 0 h0 h1 (by omega)) lb_X7_here ml_X7_123 (fun (_u : Unit) => [ob x 7 (rf ad (va_up (va_up v 4 (skp tau (v 3) (skp tau (v 3) q + 1))) 5 0)), ia G (ad 2) 80 (fN tau), ia G (ad 8) 18 (fN B)]) (wr := [ia G (ad 8) 18 (fN B)]) [0, 1] [2] [1, 2, 0] ⟨rfl, rfl, rfl, fun _ => rfl⟩ 0 rfl rfl rfl rfl ⟨Nat.le_refl _, Nat.le_refl _⟩ dX7_peopleRead_53 rfl (fun r53 u53 hw53 => ?_)
              subst hw53
              have k5 := chr_hi h0 (skp tau (v 3) (skp tau (v 3) q + 1))
              have k6 : skp tau (v 3) (skp tau (v 3) q + 1) ≤ 80 := skp_hi h1 (by omega)
              refine z_istore_n (L' := [(2, .int (nI (chr tau (v 3) (skp tau (v 3) (skp tau (v 3) q + 1))))), (0, .ref x), (1, .int (nI i))]) hX dX7_peopleRead_56 (Nat.le_of_ble_eq_true rfl) rfl ?_
              have J109 : ∀ kd : Nat, kd = kdN (chr tau (v 3) (skp tau (v 3) (skp tau (v 3) q + 1))) → Z (X, G, A, H0, 6) 0 0 [ob x 7 (rf ad (va_up (va_up v 4 (skp tau (v 3) (skp tau (v 3) q + 1))) 5 0)), ia G (ad 2) 80 (fN tau), ia G (ad 8) 18 (fN B)] 109 [(3, .int (ln kd)), (2, .int (nI (chr tau (v 3) (skp tau (v 3) (skp tau (v 3) q + 1))))), (0, .ref x), (1, .int (nI i))] [] := by
                intro kd hk
                have kd5 := kdN_hi (chr tau (v 3) (skp tau (v 3) (skp tau (v 3) q + 1)))
                rcases Nat.eq_zero_or_pos kd with k0 | k0
                · subst k0
                  show Z (X, G, A, H0, 6) 0 0 [ob x 7 (rf ad (va_up (va_up v 4 (skp tau (v 3) (skp tau (v 3) q + 1))) 5 0)), ia G (ad 2) 80 (fN tau), ia G (ad 8) 18 (fN B)] 109 [(3, .int (-1)), (2, .int (nI (chr tau (v 3) (skp tau (v 3) (skp tau (v 3) q + 1))))), (0, .ref x), (1, .int (nI i))] []
                  have tv : ¬ tvOk tau (v 3) (skp tau (v 3) (skp tau (v 3) q + 1)) = 2 := by unfold tvOk; rw [if_pos hk.symm]; decide
                  have tf : tvF tau (v 3) (skp tau (v 3) (skp tau (v 3) q + 1)) = skp tau (v 3) (skp tau (v 3) q + 1) := by unfold tvF; rw [if_pos hk.symm]
                  have cb := crS_6 (crS_bad (Q := skp tau (v 3) (skp tau (v 3) q + 1)) hH0 (Or.inr c19) (by rw [if_neg (by omega)]) tv) (show ¬ (0 : Nat) = 1 by decide) (by omega)
                  rw [tf] at cb
                  have hft : (((crS tau (v 3) (skp tau (v 3) p) 6).1 = 0 ∨ chr tau (v 3) (crS tau (v 3) (skp tau (v 3) p) 6).2.1 = 44) ∧ skp tau (v 3) (skp tau (v 3) q + 1) = (crS tau (v 3) (skp tau (v 3) p) 6).2.1) := by rw [cb]; exact ⟨Or.inl rfl, rfl⟩
                  refine z_aload_n hX 2 dX7_peopleRead_109 rfl ?_
                  refine z_iload_n hX 0 dX7_peopleRead_110 rfl ?_
                  refine z_if_lt (tgt := 118) hX dX7_peopleRead_111 (by decide) (fun c111 => ?_) (fun c111 => absurd (by decide) c111)
                  refine z_iconst (v := nI 0) hX dX7_peopleRead_118 (by decide) ?_
                  refine z_callVv (st := []) hX (c_X7_must_no _ G x ad v (skp tau (v 3) (skp tau (v 3) q + 1)) ) lb_X7_must ml_X7_132 (fun (_u : Unit) => [ob x 7 (rf ad (va_up (va_up v 4 (skp tau (v 3) (skp tau (v 3) q + 1))) 5 1)), ia G (ad 2) 80 (fN tau), ia G (ad 8) 18 (fN B)]) (wr := [ia G (ad 2) 80 (fN tau), ia G (ad 8) 18 (fN B)]) [0] [1, 2] [2, 0, 1] ⟨rfl, rfl, rfl, fun _ => rfl⟩ 0 rfl rfl rfl rfl ⟨Nat.le_refl _, Nat.le_refl _⟩ dX7_peopleRead_119 rfl (fun  u119 hw119 => ?_)
                  refine z_aload_n hX 2 dX7_peopleRead_122 rfl ?_
                  refine z_get (v := .int (nI 1)) hX fX7 0 5 rfl rfl (Nat.le_of_ble_eq_true rfl) fl_X7_119 rfl dX7_peopleRead_123 ?_
                  refine zn_if_eq (tgt := 133) hX dX7_peopleRead_126 (by decide) (by omega) (fun c126 => absurd c126 (by omega)) (fun _ => ?_)
                  refine z_iconst (v := (-1)) hX dX7_peopleRead_129 (by decide) ?_
                  refine z_goto (tgt := 140) hX dX7_peopleRead_130 (by decide) ?_
                  refine z_istore (L' := [(4, .int (-1)), (3, .int (-1)), (2, .int (nI (chr tau (v 3) (skp tau (v 3) (skp tau (v 3) q + 1))))), (0, .ref x), (1, .int (nI i))]) hX dX7_peopleRead_140 (Nat.le_of_ble_eq_true rfl) rfl ?_
                  refine z_aload_n hX 3 dX7_peopleRead_142 rfl ?_
                  refine z_iload hX 0 dX7_peopleRead_143 rfl ?_
                  refine z_i2l (v := ((-1).toInt64)) hX dX7_peopleRead_145 rfl ?_
                  refine z_lconst (v := lN 1) hX dX7_peopleRead_146 (by decide) ?_
                  refine z_ldc2 (v := lN 9) hX kl_X7_93 dX7_peopleRead_147 ?_
                  refine z_callSi (st := [.ref x]) hX (c_X7_inX _ G (-1) 1 9 (by omega) (by omega)) lb_X7_in ml_X7_44 (fun (_u : Unit) => [ob x 7 (rf ad (va_up (va_up v 4 (skp tau (v 3) (skp tau (v 3) q + 1))) 5 1)), ia G (ad 2) 80 (fN tau), ia G (ad 8) 18 (fN B)]) (wr := [ob x 7 (rf ad (va_up (va_up v 4 (skp tau (v 3) (skp tau (v 3) q + 1))) 5 1)), ia G (ad 2) 80 (fN tau), ia G (ad 8) 18 (fN B)]) [] [0, 1, 2] [0, 1, 2] ⟨rfl, rfl, rfl, fun _ => rfl⟩ rfl rfl ⟨Nat.le_refl _, Nat.le_refl _⟩ dX7_peopleRead_150 rfl (fun r150 u150 hw150 => ?_)
                  obtain rfl : r150 = nI 0 := by
                    rcases hw150 with ⟨j9, _, h8, h9, _⟩ | ⟨_, h9⟩
                    · exact absurd h9 (m1_nI (by omega))
                    · exact h9
                  refine z_callVv (st := []) hX (c_X7_must_f _ G x ad v (skp tau (v 3) (skp tau (v 3) q + 1)) 0 ) lb_X7_must ml_X7_132 (fun (_u : Unit) => [ob x 7 (rf ad (va_up (va_up v 4 (skp tau (v 3) (skp tau (v 3) q + 1))) 5 1)), ia G (ad 2) 80 (fN tau), ia G (ad 8) 18 (fN B)]) (wr := [ia G (ad 2) 80 (fN tau), ia G (ad 8) 18 (fN B)]) [0] [1, 2] [2, 0, 1] ⟨rfl, rfl, rfl, fun _ => rfl⟩ 0 rfl rfl rfl rfl ⟨Nat.le_refl _, Nat.le_refl _⟩ dX7_peopleRead_153 rfl (fun  u153 hw153 => ?_)
                  refine z_aload_n hX 3 dX7_peopleRead_156 rfl ?_
                  refine z_callVi (st := []) hX (c_X7_letters_1 _ G x ad v tau (skp tau (v 3) (skp tau (v 3) q + 1)) ) lb_X7_letters ml_X7_142 (fun (_u : Unit) => [ob x 7 (rf ad (va_up (va_up v 4 (skp tau (v 3) (skp tau (v 3) q + 1))) 5 1)), ia G (ad 2) 80 (fN tau), ia G (ad 8) 18 (fN B)]) (wr := [ia G (ad 8) 18 (fN B)]) [0, 1] [2] [1, 2, 0] ⟨rfl, rfl, rfl, fun _ => rfl⟩ 0 rfl rfl rfl rfl ⟨Nat.le_refl _, Nat.le_refl _⟩ dX7_peopleRead_157 rfl (fun r157 u157 hw157 => ?_)
                  subst hw157
                  refine z_istore (L' := [(5, .int (nI 0)), (4, .int (-1)), (3, .int (-1)), (2, .int (nI (chr tau (v 3) (skp tau (v 3) (skp tau (v 3) q + 1))))), (0, .ref x), (1, .int (nI i))]) hX dX7_peopleRead_160 (Nat.le_of_ble_eq_true rfl) rfl ?_
                  refine z_aload_n hX 4 dX7_peopleRead_162 rfl ?_
                  refine z_get (v := .int (nI 1)) hX fX7 0 5 rfl rfl (Nat.le_of_ble_eq_true rfl) fl_X7_119 rfl dX7_peopleRead_163 ?_
                  refine zn_if_ne (tgt := 202) hX dX7_peopleRead_166 (by decide) (by omega) (fun _ => ?_) (fun c166 => absurd c166 (by omega))
                  refine z_iinc (v := (nI (i + 1))) (L' := [(1, .int (nI (i + 1))), (5, .int (nI 0)), (4, .int (-1)), (3, .int (-1)), (2, .int (nI (chr tau (v 3) (skp tau (v 3) (skp tau (v 3) q + 1))))), (0, .ref x)]) hX 5 dX7_peopleRead_202 rfl (nI_inc _) (Nat.le_of_ble_eq_true rfl) rfl ?_
                  refine z_goto (tgt := 2) hX dX7_peopleRead_205 (by decide) ?_
                  refine z_lsub [5, 0] rfl ?_
                  exact ih2 (i + 1) 1 (skp tau (v 3) (skp tau (v 3) q + 1)) B sg (by omega) (by omega) (by omega) (by omega) (fun z9 => absurd z9 (by decide)) (fun z9 => absurd z9 (by decide)) (fun z9 => absurd z9 (by decide)) (fun _ => hft)
                · have e8 : ln kd = nI (kd - 1) := by unfold ln; rw [if_neg (by omega)]
                  rw [e8]
                  have lq : skp tau (v 3) (skp tau (v 3) q + 1) < v 3 := kdN_lt (τ := tau) (by omega)
                  refine z_aload_n hX 2 dX7_peopleRead_109 rfl ?_
                  refine z_iload_n hX 0 dX7_peopleRead_110 rfl ?_
                  refine zn_if_lt (tgt := 118) hX dX7_peopleRead_111 (by decide) (by omega) (fun c111 => absurd c111 (by omega)) (fun _ => ?_)
                  refine z_iconst (v := nI 1) hX dX7_peopleRead_114 (by decide) ?_
                  refine z_goto (tgt := 119) hX dX7_peopleRead_115 (by decide) ?_
                  refine z_callVv (st := []) hX (c_X7_must_ok _ G x ad v (skp tau (v 3) (skp tau (v 3) q + 1)) ) lb_X7_must ml_X7_132 (fun (_u : Unit) => [ob x 7 (rf ad (va_up (va_up v 4 (skp tau (v 3) (skp tau (v 3) q + 1) + 1)) 5 0)), ia G (ad 2) 80 (fN tau), ia G (ad 8) 18 (fN B)]) (wr := [ia G (ad 2) 80 (fN tau), ia G (ad 8) 18 (fN B)]) [0] [1, 2] [2, 0, 1] ⟨rfl, rfl, rfl, fun _ => rfl⟩ 0 rfl rfl rfl rfl ⟨Nat.le_refl _, Nat.le_refl _⟩ dX7_peopleRead_119 rfl (fun  u119 hw119 => ?_)
                  refine z_aload_n hX 2 dX7_peopleRead_122 rfl ?_
                  refine z_get (v := .int (nI 0)) hX fX7 0 5 rfl rfl (Nat.le_of_ble_eq_true rfl) fl_X7_119 rfl dX7_peopleRead_123 ?_
                  refine zn_if_eq (tgt := 133) hX dX7_peopleRead_126 (by decide) (by omega) (fun _ => ?_) (fun c126 => absurd c126 (by omega))
                  refine z_aload_n hX 2 dX7_peopleRead_133 rfl ?_
                  refine z_callVi (st := []) hX (c_X7_here _ G x ad v tau (skp tau (v 3) (skp tau (v 3) q + 1) + 1) 0 h0 h1 (by omega)) lb_X7_here ml_X7_123 (fun (_u : Unit) => [ob x 7 (rf ad (va_up (va_up v 4 (skp tau (v 3) (skp tau (v 3) (skp tau (v 3) q + 1) + 1))) 5 0)), ia G (ad 2) 80 (fN tau), ia G (ad 8) 18 (fN B)]) (wr := [ia G (ad 8) 18 (fN B)]) [0, 1] [2] [1, 2, 0] ⟨rfl, rfl, rfl, fun _ => rfl⟩ 0 rfl rfl rfl rfl ⟨Nat.le_refl _, Nat.le_refl _⟩ dX7_peopleRead_134 rfl (fun r134 u134 hw134 => ?_)
                  subst hw134
                  refine z_bipush (v := nI 48) hX dX7_peopleRead_137 (by decide) ?_
                  have k7 := chr_hi h0 (skp tau (v 3) (skp tau (v 3) (skp tau (v 3) q + 1) + 1))
                  have k8 : skp tau (v 3) (skp tau (v 3) (skp tau (v 3) q + 1) + 1) ≤ 80 := skp_hi h1 (by omega)
                  rcases Nat.lt_or_ge (chr tau (v 3) (skp tau (v 3) (skp tau (v 3) (skp tau (v 3) q + 1) + 1))) 48 with l48 | l48
                  · skip
                    refine z_isub (v := (nI (chr tau (v 3) (skp tau (v 3) (skp tau (v 3) (skp tau (v 3) q + 1) + 1))) - nI 48)) hX dX7_peopleRead_139 rfl ?_
                    refine z_istore (L' := [(4, .int (nI (chr tau (v 3) (skp tau (v 3) (skp tau (v 3) (skp tau (v 3) q + 1) + 1))) - nI 48)), (3, .int (nI (kd - 1))), (2, .int (nI (chr tau (v 3) (skp tau (v 3) (skp tau (v 3) q + 1))))), (0, .ref x), (1, .int (nI i))]) hX dX7_peopleRead_140 (Nat.le_of_ble_eq_true rfl) rfl ?_
                    refine z_aload_n hX 3 dX7_peopleRead_142 rfl ?_
                    refine z_iload hX 0 dX7_peopleRead_143 rfl ?_
                    refine z_i2l (v := ((nI (chr tau (v 3) (skp tau (v 3) (skp tau (v 3) (skp tau (v 3) q + 1) + 1))) - nI 48).toInt64)) hX dX7_peopleRead_145 rfl ?_
                    refine z_lconst (v := lN 1) hX dX7_peopleRead_146 (by decide) ?_
                    refine z_ldc2 (v := lN 9) hX kl_X7_93 dX7_peopleRead_147 ?_
                    refine z_callSi (st := [.ref x]) hX (c_X7_inX _ G (nI (chr tau (v 3) (skp tau (v 3) (skp tau (v 3) (skp tau (v 3) q + 1) + 1))) - nI 48) 1 9 (by omega) (by omega)) lb_X7_in ml_X7_44 (fun (_u : Unit) => [ob x 7 (rf ad (va_up (va_up v 4 (skp tau (v 3) (skp tau (v 3) (skp tau (v 3) q + 1) + 1))) 5 0)), ia G (ad 2) 80 (fN tau), ia G (ad 8) 18 (fN B)]) (wr := [ob x 7 (rf ad (va_up (va_up v 4 (skp tau (v 3) (skp tau (v 3) (skp tau (v 3) q + 1) + 1))) 5 0)), ia G (ad 2) 80 (fN tau), ia G (ad 8) 18 (fN B)]) [] [0, 1, 2] [0, 1, 2] ⟨rfl, rfl, rfl, fun _ => rfl⟩ rfl rfl ⟨Nat.le_refl _, Nat.le_refl _⟩ dX7_peopleRead_150 rfl (fun r150 u150 hw150 => ?_)
                    obtain rfl : r150 = nI 0 := by
                      rcases hw150 with ⟨j9, _, h8, h9, _⟩ | ⟨_, h9⟩
                      · exact absurd h9 (c48n l48 h8)
                      · exact h9
                    have tv : ¬ tvOk tau (v 3) (skp tau (v 3) (skp tau (v 3) q + 1)) = 2 := by unfold tvOk; rw [if_neg (by omega), if_neg (by omega)]; decide
                    have tf : tvF tau (v 3) (skp tau (v 3) (skp tau (v 3) q + 1)) = skp tau (v 3) (skp tau (v 3) (skp tau (v 3) q + 1) + 1) := by unfold tvF; rw [if_neg (by omega)]
                    have cb := crS_6 (crS_bad (Q := skp tau (v 3) (skp tau (v 3) q + 1)) hH0 (Or.inr c19) (by rw [if_neg (by omega)]) tv) (show ¬ (0 : Nat) = 1 by decide) (by omega)
                    rw [tf] at cb
                    have hft : (((crS tau (v 3) (skp tau (v 3) p) 6).1 = 0 ∨ chr tau (v 3) (crS tau (v 3) (skp tau (v 3) p) 6).2.1 = 44) ∧ skp tau (v 3) (skp tau (v 3) (skp tau (v 3) q + 1) + 1) = (crS tau (v 3) (skp tau (v 3) p) 6).2.1) := by rw [cb]; exact ⟨Or.inl rfl, rfl⟩
                    refine z_callVv (st := []) hX (c_X7_must_no _ G x ad v (skp tau (v 3) (skp tau (v 3) (skp tau (v 3) q + 1) + 1)) ) lb_X7_must ml_X7_132 (fun (_u : Unit) => [ob x 7 (rf ad (va_up (va_up v 4 (skp tau (v 3) (skp tau (v 3) (skp tau (v 3) q + 1) + 1))) 5 1)), ia G (ad 2) 80 (fN tau), ia G (ad 8) 18 (fN B)]) (wr := [ia G (ad 2) 80 (fN tau), ia G (ad 8) 18 (fN B)]) [0] [1, 2] [2, 0, 1] ⟨rfl, rfl, rfl, fun _ => rfl⟩ 0 rfl rfl rfl rfl ⟨Nat.le_refl _, Nat.le_refl _⟩ dX7_peopleRead_153 rfl (fun  u153 hw153 => ?_)
                    refine z_aload_n hX 3 dX7_peopleRead_156 rfl ?_
                    refine z_callVi (st := []) hX (c_X7_letters_1 _ G x ad v tau (skp tau (v 3) (skp tau (v 3) (skp tau (v 3) q + 1) + 1)) ) lb_X7_letters ml_X7_142 (fun (_u : Unit) => [ob x 7 (rf ad (va_up (va_up v 4 (skp tau (v 3) (skp tau (v 3) (skp tau (v 3) q + 1) + 1))) 5 1)), ia G (ad 2) 80 (fN tau), ia G (ad 8) 18 (fN B)]) (wr := [ia G (ad 8) 18 (fN B)]) [0, 1] [2] [1, 2, 0] ⟨rfl, rfl, rfl, fun _ => rfl⟩ 0 rfl rfl rfl rfl ⟨Nat.le_refl _, Nat.le_refl _⟩ dX7_peopleRead_157 rfl (fun r157 u157 hw157 => ?_)
                    subst hw157
                    refine z_istore (L' := [(5, .int (nI 0)), (4, .int (nI (chr tau (v 3) (skp tau (v 3) (skp tau (v 3) (skp tau (v 3) q + 1) + 1))) - nI 48)), (3, .int (nI (kd - 1))), (2, .int (nI (chr tau (v 3) (skp tau (v 3) (skp tau (v 3) q + 1))))), (0, .ref x), (1, .int (nI i))]) hX dX7_peopleRead_160 (Nat.le_of_ble_eq_true rfl) rfl ?_
                    refine z_aload_n hX 4 dX7_peopleRead_162 rfl ?_
                    refine z_get (v := .int (nI 1)) hX fX7 0 5 rfl rfl (Nat.le_of_ble_eq_true rfl) fl_X7_119 rfl dX7_peopleRead_163 ?_
                    refine zn_if_ne (tgt := 202) hX dX7_peopleRead_166 (by decide) (by omega) (fun _ => ?_) (fun c166 => absurd c166 (by omega))
                    refine z_iinc (v := (nI (i + 1))) (L' := [(1, .int (nI (i + 1))), (5, .int (nI 0)), (4, .int (nI (chr tau (v 3) (skp tau (v 3) (skp tau (v 3) (skp tau (v 3) q + 1) + 1))) - nI 48)), (3, .int (nI (kd - 1))), (2, .int (nI (chr tau (v 3) (skp tau (v 3) (skp tau (v 3) q + 1))))), (0, .ref x)]) hX 5 dX7_peopleRead_202 rfl (nI_inc _) (Nat.le_of_ble_eq_true rfl) rfl ?_
                    refine z_goto (tgt := 2) hX dX7_peopleRead_205 (by decide) ?_
                    refine z_lsub [5, 0] rfl ?_
                    exact ih2 (i + 1) 1 (skp tau (v 3) (skp tau (v 3) (skp tau (v 3) q + 1) + 1)) B sg (by omega) (by omega) (by omega) (by omega) (fun z9 => absurd z9 (by decide)) (fun z9 => absurd z9 (by decide)) (fun z9 => absurd z9 (by decide)) (fun _ => hft)
                  · skip
                    refine z_isub (v := (nI ((chr tau (v 3) (skp tau (v 3) (skp tau (v 3) (skp tau (v 3) q + 1) + 1))) - 48))) hX dX7_peopleRead_139 (pk_sub (by omega)) ?_
                    refine z_istore (L' := [(4, .int (nI ((chr tau (v 3) (skp tau (v 3) (skp tau (v 3) (skp tau (v 3) q + 1) + 1))) - 48))), (3, .int (nI (kd - 1))), (2, .int (nI (chr tau (v 3) (skp tau (v 3) (skp tau (v 3) q + 1))))), (0, .ref x), (1, .int (nI i))]) hX dX7_peopleRead_140 (Nat.le_of_ble_eq_true rfl) rfl ?_
                    refine z_aload_n hX 3 dX7_peopleRead_142 rfl ?_
                    refine z_iload hX 0 dX7_peopleRead_143 rfl ?_
                    refine z_i2l (v := ((nI ((chr tau (v 3) (skp tau (v 3) (skp tau (v 3) (skp tau (v 3) q + 1) + 1))) - 48)).toInt64)) hX dX7_peopleRead_145 rfl ?_
                    refine z_lconst (v := lN 1) hX dX7_peopleRead_146 (by decide) ?_
                    refine z_ldc2 (v := lN 9) hX kl_X7_93 dX7_peopleRead_147 ?_
                    refine z_callSi (st := [.ref x]) hX (c_X7_inN _ G ((chr tau (v 3) (skp tau (v 3) (skp tau (v 3) (skp tau (v 3) q + 1) + 1))) - 48) 1 9 (by omega) (by omega) (by omega)) lb_X7_in ml_X7_44 (fun (_u : Unit) => [ob x 7 (rf ad (va_up (va_up v 4 (skp tau (v 3) (skp tau (v 3) (skp tau (v 3) q + 1) + 1))) 5 0)), ia G (ad 2) 80 (fN tau), ia G (ad 8) 18 (fN B)]) (wr := [ob x 7 (rf ad (va_up (va_up v 4 (skp tau (v 3) (skp tau (v 3) (skp tau (v 3) q + 1) + 1))) 5 0)), ia G (ad 2) 80 (fN tau), ia G (ad 8) 18 (fN B)]) [] [0, 1, 2] [0, 1, 2] ⟨rfl, rfl, rfl, fun _ => rfl⟩ rfl rfl ⟨Nat.le_refl _, Nat.le_refl _⟩ dX7_peopleRead_150 rfl (fun r150 u150 hw150 => ?_)
                    try dsimp only at hw150
                    rcases Classical.em (1 ≤ ((chr tau (v 3) (skp tau (v 3) (skp tau (v 3) (skp tau (v 3) q + 1) + 1))) - 48) ∧ ((chr tau (v 3) (skp tau (v 3) (skp tau (v 3) (skp tau (v 3) q + 1) + 1))) - 48) ≤ 9) with b150 | b150
                    · obtain rfl := hw150.1 b150
                      have tv : tvOk tau (v 3) (skp tau (v 3) (skp tau (v 3) q + 1)) = 2 := by unfold tvOk; rw [if_neg (by omega), if_pos (by omega)]
                      have lq2 : skp tau (v 3) (skp tau (v 3) (skp tau (v 3) q + 1) + 1) < v 3 := chr_lt (τ := tau) (by omega)
                      refine z_callVv (st := []) hX (c_X7_must_ok _ G x ad v (skp tau (v 3) (skp tau (v 3) (skp tau (v 3) q + 1) + 1)) ) lb_X7_must ml_X7_132 (fun (_u : Unit) => [ob x 7 (rf ad (va_up (va_up v 4 (skp tau (v 3) (skp tau (v 3) (skp tau (v 3) q + 1) + 1) + 1)) 5 0)), ia G (ad 2) 80 (fN tau), ia G (ad 8) 18 (fN B)]) (wr := [ia G (ad 2) 80 (fN tau), ia G (ad 8) 18 (fN B)]) [0] [1, 2] [2, 0, 1] ⟨rfl, rfl, rfl, fun _ => rfl⟩ 0 rfl rfl rfl rfl ⟨Nat.le_refl _, Nat.le_refl _⟩ dX7_peopleRead_153 rfl (fun  u153 hw153 => ?_)
                      refine z_aload_n hX 3 dX7_peopleRead_156 rfl ?_
                      refine z_callVi (st := []) hX (c_X7_letters_0 _ G x ad v tau (skp tau (v 3) (skp tau (v 3) (skp tau (v 3) q + 1) + 1) + 1) h0 h1 (by omega)) lb_X7_letters ml_X7_142 (fun (_u : Nat) => [ob x 7 (rf ad (va_up (va_up v 4 _u) 5 0)), ia G (ad 2) 80 (fN tau), ia G (ad 8) 18 (fN B)]) (wr := [ia G (ad 8) 18 (fN B)]) [0, 1] [2] [1, 2, 0] ⟨rfl, rfl, rfl, fun _ => rfl⟩ 0 rfl rfl rfl rfl ⟨Nat.le_refl _, Nat.le_refl _⟩ dX7_peopleRead_157 rfl (fun r157 u157 hw157 => ?_)
                      obtain ⟨p2_2, rfl⟩ : ∃ z9, z9 = u157 := ⟨_, rfl⟩
                      obtain ⟨rfl, rfl⟩ : r157 = nI (tvR tau (v 3) (skp tau (v 3) (skp tau (v 3) q + 1))).2 ∧ p2_2 = (tvR tau (v 3) (skp tau (v 3) (skp tau (v 3) q + 1))).1 := hw157
                      have k9 : (tvR tau (v 3) (skp tau (v 3) (skp tau (v 3) q + 1))).1 ≤ v 3 ∧ skp tau (v 3) (tvR tau (v 3) (skp tau (v 3) (skp tau (v 3) q + 1))).1 = (tvR tau (v 3) (skp tau (v 3) (skp tau (v 3) q + 1))).1 ∧ (tvR tau (v 3) (skp tau (v 3) (skp tau (v 3) q + 1))).2 < 64 := ris_ok tau (v 3) 6 (skp tau (v 3) (skp tau (v 3) (skp tau (v 3) (skp tau (v 3) q + 1) + 1) + 1)) 0 (by omega) (skp_hi (Nat.le_refl _) (by omega)) (skp_id _ _ _) (by omega)
                      have hgo := crS_go (Q := skp tau (v 3) (skp tau (v 3) q + 1)) hH0 (Or.inr c19) (by rw [if_neg (by omega)]) tv
                      rw [← hk, ← k9.2.1] at hgo
                      refine z_istore (L' := [(5, .int (nI ((tvR tau (v 3) (skp tau (v 3) (skp tau (v 3) q + 1))).2))), (4, .int (nI ((chr tau (v 3) (skp tau (v 3) (skp tau (v 3) (skp tau (v 3) q + 1) + 1))) - 48))), (3, .int (nI (kd - 1))), (2, .int (nI (chr tau (v 3) (skp tau (v 3) (skp tau (v 3) q + 1))))), (0, .ref x), (1, .int (nI i))]) hX dX7_peopleRead_160 (Nat.le_of_ble_eq_true rfl) rfl ?_
                      refine z_aload_n hX 4 dX7_peopleRead_162 rfl ?_
                      refine z_get (v := .int (nI 0)) hX fX7 0 5 rfl rfl (Nat.le_of_ble_eq_true rfl) fl_X7_119 rfl dX7_peopleRead_163 ?_
                      refine zn_if_ne (tgt := 202) hX dX7_peopleRead_166 (by decide) (by omega) (fun c166 => absurd c166 (by omega)) (fun _ => ?_)
                      refine z_aload_n hX 4 dX7_peopleRead_169 rfl ?_
                      refine z_get (v := .ref (ad 8)) hX fX7 0 8 rfl rfl (Nat.le_of_ble_eq_true rfl) fl_X7_19 rfl dX7_peopleRead_170 ?_
                      refine z_iconst (v := nI 3) hX dX7_peopleRead_173 (by decide) ?_
                      refine z_iload_n hX 5 dX7_peopleRead_174 rfl ?_
                      refine z_imul (v := (nI (3 * i))) hX dX7_peopleRead_175 (pk_mul _ _) ?_
                      refine z_iload_n hX 2 dX7_peopleRead_176 rfl ?_
                      refine z_iast (ws' := [ob x 7 (rf ad (va_up (va_up v 4 ((tvR tau (v 3) (skp tau (v 3) (skp tau (v 3) q + 1))).1)) 5 0)), ia G (ad 2) 80 (fN tau), ia G (ad 8) 18 (fN (va_up B (3 * i) (kd - 1)))]) hX 2 (j := (3 * i)) rfl (by omega) (by decide) (updN _ _ _) rfl dX7_peopleRead_177 ?_
                      refine z_aload_n hX 4 dX7_peopleRead_178 rfl ?_
                      refine z_get (v := .ref (ad 8)) hX fX7 0 8 rfl rfl (Nat.le_of_ble_eq_true rfl) fl_X7_19 rfl dX7_peopleRead_179 ?_
                      refine z_iconst (v := nI 3) hX dX7_peopleRead_182 (by decide) ?_
                      refine z_iload_n hX 5 dX7_peopleRead_183 rfl ?_
                      refine z_imul (v := (nI (3 * i))) hX dX7_peopleRead_184 (pk_mul _ _) ?_
                      refine z_iconst (v := nI 1) hX dX7_peopleRead_185 (by decide) ?_
                      refine z_iadd (v := (nI (3 * i + 1))) hX dX7_peopleRead_186 (nI_add _ _) ?_
                      refine z_iload hX 0 dX7_peopleRead_187 rfl ?_
                      refine z_iast (ws' := [ob x 7 (rf ad (va_up (va_up v 4 ((tvR tau (v 3) (skp tau (v 3) (skp tau (v 3) q + 1))).1)) 5 0)), ia G (ad 2) 80 (fN tau), ia G (ad 8) 18 (fN (va_up (va_up B (3 * i) (kd - 1)) (3 * i + 1) ((tvR tau (v 3) (skp tau (v 3) (skp tau (v 3) q + 1))).2)))]) hX 2 (j := (3 * i + 1)) rfl (by omega) (by decide) (updN _ _ _) rfl dX7_peopleRead_189 ?_
                      refine z_aload_n hX 4 dX7_peopleRead_190 rfl ?_
                      refine z_get (v := .ref (ad 8)) hX fX7 0 8 rfl rfl (Nat.le_of_ble_eq_true rfl) fl_X7_19 rfl dX7_peopleRead_191 ?_
                      refine z_iconst (v := nI 3) hX dX7_peopleRead_194 (by decide) ?_
                      refine z_iload_n hX 5 dX7_peopleRead_195 rfl ?_
                      refine z_imul (v := (nI (3 * i))) hX dX7_peopleRead_196 (pk_mul _ _) ?_
                      refine z_iconst (v := nI 2) hX dX7_peopleRead_197 (by decide) ?_
                      refine z_iadd (v := (nI (3 * i + 2))) hX dX7_peopleRead_198 (nI_add _ _) ?_
                      refine z_iload hX 1 dX7_peopleRead_199 rfl ?_
                      refine z_iast (ws' := [ob x 7 (rf ad (va_up (va_up v 4 ((tvR tau (v 3) (skp tau (v 3) (skp tau (v 3) q + 1))).1)) 5 0)), ia G (ad 2) 80 (fN tau), ia G (ad 8) 18 (fN (va_up (va_up (va_up B (3 * i) (kd - 1)) (3 * i + 1) ((tvR tau (v 3) (skp tau (v 3) (skp tau (v 3) q + 1))).2)) (3 * i + 2) ((chr tau (v 3) (skp tau (v 3) (skp tau (v 3) (skp tau (v 3) q + 1) + 1))) - 48)))]) hX 2 (j := (3 * i + 2)) rfl (by omega) (by decide) (updN _ _ _) rfl dX7_peopleRead_201 ?_
                      refine z_iinc (v := (nI (i + 1))) (L' := [(1, .int (nI (i + 1))), (5, .int (nI ((tvR tau (v 3) (skp tau (v 3) (skp tau (v 3) q + 1))).2))), (4, .int (nI ((chr tau (v 3) (skp tau (v 3) (skp tau (v 3) (skp tau (v 3) q + 1) + 1))) - 48))), (3, .int (nI (kd - 1))), (2, .int (nI (chr tau (v 3) (skp tau (v 3) (skp tau (v 3) q + 1))))), (0, .ref x)]) hX 5 dX7_peopleRead_202 rfl (nI_inc _) (Nat.le_of_ble_eq_true rfl) rfl ?_
                      refine z_goto (tgt := 2) hX dX7_peopleRead_205 (by decide) ?_
                      refine z_lsub [5, 0] rfl ?_
                      exact ih2 (i + 1) 0 ((tvR tau (v 3) (skp tau (v 3) (skp tau (v 3) q + 1))).1) (va_up (va_up (va_up B (3 * i) (kd - 1)) (3 * i + 1) ((tvR tau (v 3) (skp tau (v 3) (skp tau (v 3) q + 1))).2)) (3 * i + 2) ((chr tau (v 3) (skp tau (v 3) (skp tau (v 3) (skp tau (v 3) q + 1) + 1))) - 48)) (va_up (va_up (va_up sg (3 * i) (kd - 1)) (3 * i + 1) ((tvR tau (v 3) (skp tau (v 3) (skp tau (v 3) q + 1))).2)) (3 * i + 2) ((chr tau (v 3) (skp tau (v 3) (skp tau (v 3) (skp tau (v 3) q + 1) + 1))) - 48)) (by omega) (by omega) (by omega) (by omega) (fun _ => by omega) (fun _ => hgo) (fun _ j9 h9 => up3_eq (fun h8 => hA0 j9 h8) h9) (fun z9 => absurd z9 (by decide))
                    · obtain rfl := hw150.2 b150
                      have tv : ¬ tvOk tau (v 3) (skp tau (v 3) (skp tau (v 3) q + 1)) = 2 := by unfold tvOk; rw [if_neg (by omega), if_neg (by omega)]; decide
                      have tf : tvF tau (v 3) (skp tau (v 3) (skp tau (v 3) q + 1)) = skp tau (v 3) (skp tau (v 3) (skp tau (v 3) q + 1) + 1) := by unfold tvF; rw [if_neg (by omega)]
                      have cb := crS_6 (crS_bad (Q := skp tau (v 3) (skp tau (v 3) q + 1)) hH0 (Or.inr c19) (by rw [if_neg (by omega)]) tv) (show ¬ (0 : Nat) = 1 by decide) (by omega)
                      rw [tf] at cb
                      have hft : (((crS tau (v 3) (skp tau (v 3) p) 6).1 = 0 ∨ chr tau (v 3) (crS tau (v 3) (skp tau (v 3) p) 6).2.1 = 44) ∧ skp tau (v 3) (skp tau (v 3) (skp tau (v 3) q + 1) + 1) = (crS tau (v 3) (skp tau (v 3) p) 6).2.1) := by rw [cb]; exact ⟨Or.inl rfl, rfl⟩
                      refine z_callVv (st := []) hX (c_X7_must_no _ G x ad v (skp tau (v 3) (skp tau (v 3) (skp tau (v 3) q + 1) + 1)) ) lb_X7_must ml_X7_132 (fun (_u : Unit) => [ob x 7 (rf ad (va_up (va_up v 4 (skp tau (v 3) (skp tau (v 3) (skp tau (v 3) q + 1) + 1))) 5 1)), ia G (ad 2) 80 (fN tau), ia G (ad 8) 18 (fN B)]) (wr := [ia G (ad 2) 80 (fN tau), ia G (ad 8) 18 (fN B)]) [0] [1, 2] [2, 0, 1] ⟨rfl, rfl, rfl, fun _ => rfl⟩ 0 rfl rfl rfl rfl ⟨Nat.le_refl _, Nat.le_refl _⟩ dX7_peopleRead_153 rfl (fun  u153 hw153 => ?_)
                      refine z_aload_n hX 3 dX7_peopleRead_156 rfl ?_
                      refine z_callVi (st := []) hX (c_X7_letters_1 _ G x ad v tau (skp tau (v 3) (skp tau (v 3) (skp tau (v 3) q + 1) + 1)) ) lb_X7_letters ml_X7_142 (fun (_u : Unit) => [ob x 7 (rf ad (va_up (va_up v 4 (skp tau (v 3) (skp tau (v 3) (skp tau (v 3) q + 1) + 1))) 5 1)), ia G (ad 2) 80 (fN tau), ia G (ad 8) 18 (fN B)]) (wr := [ia G (ad 8) 18 (fN B)]) [0, 1] [2] [1, 2, 0] ⟨rfl, rfl, rfl, fun _ => rfl⟩ 0 rfl rfl rfl rfl ⟨Nat.le_refl _, Nat.le_refl _⟩ dX7_peopleRead_157 rfl (fun r157 u157 hw157 => ?_)
                      subst hw157
                      refine z_istore (L' := [(5, .int (nI 0)), (4, .int (nI ((chr tau (v 3) (skp tau (v 3) (skp tau (v 3) (skp tau (v 3) q + 1) + 1))) - 48))), (3, .int (nI (kd - 1))), (2, .int (nI (chr tau (v 3) (skp tau (v 3) (skp tau (v 3) q + 1))))), (0, .ref x), (1, .int (nI i))]) hX dX7_peopleRead_160 (Nat.le_of_ble_eq_true rfl) rfl ?_
                      refine z_aload_n hX 4 dX7_peopleRead_162 rfl ?_
                      refine z_get (v := .int (nI 1)) hX fX7 0 5 rfl rfl (Nat.le_of_ble_eq_true rfl) fl_X7_119 rfl dX7_peopleRead_163 ?_
                      refine zn_if_ne (tgt := 202) hX dX7_peopleRead_166 (by decide) (by omega) (fun _ => ?_) (fun c166 => absurd c166 (by omega))
                      refine z_iinc (v := (nI (i + 1))) (L' := [(1, .int (nI (i + 1))), (5, .int (nI 0)), (4, .int (nI ((chr tau (v 3) (skp tau (v 3) (skp tau (v 3) (skp tau (v 3) q + 1) + 1))) - 48))), (3, .int (nI (kd - 1))), (2, .int (nI (chr tau (v 3) (skp tau (v 3) (skp tau (v 3) q + 1))))), (0, .ref x)]) hX 5 dX7_peopleRead_202 rfl (nI_inc _) (Nat.le_of_ble_eq_true rfl) rfl ?_
                      refine z_goto (tgt := 2) hX dX7_peopleRead_205 (by decide) ?_
                      refine z_lsub [5, 0] rfl ?_
                      exact ih2 (i + 1) 1 (skp tau (v 3) (skp tau (v 3) (skp tau (v 3) q + 1) + 1)) B sg (by omega) (by omega) (by omega) (by omega) (fun z9 => absurd z9 (by decide)) (fun z9 => absurd z9 (by decide)) (fun z9 => absurd z9 (by decide)) (fun _ => hft)
              refine z_iload_n hX 0 dX7_peopleRead_57 rfl ?_
              refine z_bipush (v := nI 119) hX dX7_peopleRead_58 (by decide) ?_
              refine zn_icmp_ne (tgt := 67) hX dX7_peopleRead_60 (by decide) (by omega) (by omega) (fun c60 => ?_) (fun c60 => ?_)
              · skip
                refine z_iload_n hX 0 dX7_peopleRead_67 rfl ?_
                refine z_bipush (v := nI 99) hX dX7_peopleRead_68 (by decide) ?_
                refine zn_icmp_ne (tgt := 77) hX dX7_peopleRead_70 (by decide) (by omega) (by omega) (fun c70 => ?_) (fun c70 => ?_)
                · skip
                  refine z_iload_n hX 0 dX7_peopleRead_77 rfl ?_
                  refine z_bipush (v := nI 98) hX dX7_peopleRead_78 (by decide) ?_
                  refine zn_icmp_ne (tgt := 87) hX dX7_peopleRead_80 (by decide) (by omega) (by omega) (fun c80 => ?_) (fun c80 => ?_)
                  · skip
                    refine z_iload_n hX 0 dX7_peopleRead_87 rfl ?_
                    refine z_bipush (v := nI 100) hX dX7_peopleRead_88 (by decide) ?_
                    refine zn_icmp_ne (tgt := 97) hX dX7_peopleRead_90 (by decide) (by omega) (by omega) (fun c90 => ?_) (fun c90 => ?_)
                    · skip
                      refine z_iload_n hX 0 dX7_peopleRead_97 rfl ?_
                      refine z_bipush (v := nI 116) hX dX7_peopleRead_98 (by decide) ?_
                      refine zn_icmp_ne (tgt := 107) hX dX7_peopleRead_100 (by decide) (by omega) (by omega) (fun c100 => ?_) (fun c100 => ?_)
                      · skip
                        refine z_iconst (v := (-1)) hX dX7_peopleRead_107 (by decide) ?_
                        refine z_istore_n (L' := [(3, .int (-1)), (2, .int (nI (chr tau (v 3) (skp tau (v 3) (skp tau (v 3) q + 1))))), (0, .ref x), (1, .int (nI i))]) hX dX7_peopleRead_108 (Nat.le_of_ble_eq_true rfl) rfl ?_
                        have kd : kdN (chr tau (v 3) (skp tau (v 3) (skp tau (v 3) q + 1))) = 0 := by
                          unfold kdN
                          repeat' split
                          all_goals omega
                        exact J109 0 kd.symm
                      · skip
                        refine z_iconst (v := nI 4) hX dX7_peopleRead_103 (by decide) ?_
                        refine z_goto (tgt := 108) hX dX7_peopleRead_104 (by decide) ?_
                        refine z_istore_n (L' := [(3, .int (nI 4)), (2, .int (nI (chr tau (v 3) (skp tau (v 3) (skp tau (v 3) q + 1))))), (0, .ref x), (1, .int (nI i))]) hX dX7_peopleRead_108 (Nat.le_of_ble_eq_true rfl) rfl ?_
                        have kd : kdN (chr tau (v 3) (skp tau (v 3) (skp tau (v 3) q + 1))) = 5 := by
                          unfold kdN
                          repeat' split
                          all_goals omega
                        exact J109 5 kd.symm
                    · skip
                      refine z_iconst (v := nI 3) hX dX7_peopleRead_93 (by decide) ?_
                      refine z_goto (tgt := 108) hX dX7_peopleRead_94 (by decide) ?_
                      refine z_istore_n (L' := [(3, .int (nI 3)), (2, .int (nI (chr tau (v 3) (skp tau (v 3) (skp tau (v 3) q + 1))))), (0, .ref x), (1, .int (nI i))]) hX dX7_peopleRead_108 (Nat.le_of_ble_eq_true rfl) rfl ?_
                      have kd : kdN (chr tau (v 3) (skp tau (v 3) (skp tau (v 3) q + 1))) = 4 := by
                        unfold kdN
                        repeat' split
                        all_goals omega
                      exact J109 4 kd.symm
                  · skip
                    refine z_iconst (v := nI 2) hX dX7_peopleRead_83 (by decide) ?_
                    refine z_goto (tgt := 108) hX dX7_peopleRead_84 (by decide) ?_
                    refine z_istore_n (L' := [(3, .int (nI 2)), (2, .int (nI (chr tau (v 3) (skp tau (v 3) (skp tau (v 3) q + 1))))), (0, .ref x), (1, .int (nI i))]) hX dX7_peopleRead_108 (Nat.le_of_ble_eq_true rfl) rfl ?_
                    have kd : kdN (chr tau (v 3) (skp tau (v 3) (skp tau (v 3) q + 1))) = 3 := by
                      unfold kdN
                      repeat' split
                      all_goals omega
                    exact J109 3 kd.symm
                · skip
                  refine z_iconst (v := nI 1) hX dX7_peopleRead_73 (by decide) ?_
                  refine z_goto (tgt := 108) hX dX7_peopleRead_74 (by decide) ?_
                  refine z_istore_n (L' := [(3, .int (nI 1)), (2, .int (nI (chr tau (v 3) (skp tau (v 3) (skp tau (v 3) q + 1))))), (0, .ref x), (1, .int (nI i))]) hX dX7_peopleRead_108 (Nat.le_of_ble_eq_true rfl) rfl ?_
                  have kd : kdN (chr tau (v 3) (skp tau (v 3) (skp tau (v 3) q + 1))) = 2 := by
                    unfold kdN
                    repeat' split
                    all_goals omega
                  exact J109 2 kd.symm
              · skip
                refine z_iconst (v := nI 0) hX dX7_peopleRead_63 (by decide) ?_
                refine z_goto (tgt := 108) hX dX7_peopleRead_64 (by decide) ?_
                refine z_istore_n (L' := [(3, .int (nI 0)), (2, .int (nI (chr tau (v 3) (skp tau (v 3) (skp tau (v 3) q + 1))))), (0, .ref x), (1, .int (nI i))]) hX dX7_peopleRead_108 (Nat.le_of_ble_eq_true rfl) rfl ?_
                have kd : kdN (chr tau (v 3) (skp tau (v 3) (skp tau (v 3) q + 1))) = 1 := by
                  unfold kdN
                  repeat' split
                  all_goals omega
                exact J109 1 kd.symm
      · obtain ⟨hF1, hF2⟩ := hF rfl
        refine z_get (v := .int (nI 1)) hX fX7 0 5 rfl rfl (Nat.le_of_ble_eq_true rfl) fl_X7_119 rfl dX7_peopleRead_3 ?_
        refine zn_if_ne (tgt := 208) hX dX7_peopleRead_6 (by decide) (by omega) (fun _ => ?_) (fun c6 => absurd c6 (by omega))
        refine z_iload_n hX 1 dX7_peopleRead_208 rfl ?_
        exact hR _ (q, 1, i, B) _ _ ⟨rfl, Or.inl ⟨rfl, hF1, hF2⟩⟩ dX7_peopleRead_209 rfl
  refine z_lsub [1, 0] rfl ?_
  exact lp2 8 0 0 p A9 (fun _ => 0) (by omega) (by omega) (by omega) h2 (fun _ => by omega) (fun _ => rfl) (fun _ j9 h9 => absurd h9 (by omega)) (fun z9 => absurd z9 (by decide))
