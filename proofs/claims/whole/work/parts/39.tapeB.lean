theorem c48m {c j : Nat} (hc : c < 48) (hj : j ≤ 9) : ¬ nI c - nI 48 = nI j := by
  intro h
  have e : nI j + nI 48 = nI c := by rw [← h, Int32.sub_add_cancel]
  rw [nI_add] at e
  have := nI_eqW (by omega) (by omega) e
  omega
theorem kdN_hi (c : Nat) : kdN c ≤ 5 := by
  unfold kdN
  repeat' split
  all_goals omega
theorem kdN_lt {τ : nst} {m p : Nat} (h : ¬ kdN (chr τ m p) = 0) : p < m := by
  refine chr_lt (τ := τ) (fun z => h ?_)
  rw [z]
  rfl
theorem tv_0 {τ : nst} {m P : Nat} (h : kdN (chr τ m P) = 0) : ¬ tvOk τ m P = 2 ∧ tvF τ m P = P := by
  unfold tvOk tvF
  rw [if_pos h, if_pos h]
  exact ⟨by decide, rfl⟩
theorem tv_1 {τ : nst} {m P : Nat} (h : ¬ kdN (chr τ m P) = 0) (h2 : ¬ (49 ≤ chr τ m (skp τ m (P + 1)) ∧ chr τ m (skp τ m (P + 1)) ≤ 57)) : ¬ tvOk τ m P = 2 ∧ tvF τ m P = skp τ m (P + 1) := by
  unfold tvOk tvF
  rw [if_neg h, if_neg h, if_neg h2]
  exact ⟨by decide, rfl⟩
theorem tv_2 {τ : nst} {m P : Nat} (h : ¬ kdN (chr τ m P) = 0) (h2 : 49 ≤ chr τ m (skp τ m (P + 1)) ∧ chr τ m (skp τ m (P + 1)) ≤ 57) : tvOk τ m P = 2 := by
  unfold tvOk
  rw [if_neg h, if_pos h2]
set_option maxRecDepth 100000 in
set_option maxHeartbeats 4000000 in
theorem c_X4_readsTraveller (l : Launch) (G : zG) (q9 t9 : Nat) (ta : Nat) (lt : Nat) (m : Nat) (pl : Nat) (tau : nst) (cro : Nat) (ck : Nat) (cl : Nat) (ce : Nat) (sz : Nat) (fk : Nat → Int32) (fl : Nat → Int32) (fe : Nat → Int32) (h0 : ∀ j, j < m → 32 ≤ tau j ∧ tau j ≤ 126) (h1 : m ≤ 80) (h2 : pl ≤ 80) (h3 : sz < 6) : zSMi l G q9 t9 yX4_readsTraveller cX4_readsTraveller 4 .boolean 4 0 0 91 [.ref ta, .ref cro] [ob ta 4 [.ref lt, .int (nI m), .int (nI pl)], ca G lt 80 (fN tau), ob cro 1 [.ref ck, .ref cl, .ref ce, .int (nI sz)], ia G ck 6 fk, ia G cl 6 fl, ia G ce 6 fe] (fun (r : Int32) (_u : Nat × Nat × (Nat → Int32) × (Nat → Int32) × (Nat → Int32)) => (zb (tvOk tau m (skp tau m pl) = 2) r) ∧ (tvOk tau m (skp tau m pl) = 2 → skp tau m _u.1 = (tvR tau m (skp tau m pl)).1 ∧ _u.2.1 = sz + 1 ∧ _u.2.2.1 = upd fk sz (nI (kdN (chr tau m (skp tau m pl)) - 1)) ∧ _u.2.2.2.1 = upd fl sz (nI (tvR tau m (skp tau m pl)).2) ∧ _u.2.2.2.2 = upd fe sz (nI (chr tau m (skp tau m (skp tau m pl + 1)) - 48))) ∧ (¬ tvOk tau m (skp tau m pl) = 2 → _u.1 = tvF tau m (skp tau m pl) ∧ _u.2.1 = sz ∧ _u.2.2.1 = fk ∧ _u.2.2.2.1 = fl ∧ _u.2.2.2.2 = fe)) (fun (_u : Nat × Nat × (Nat → Int32) × (Nat → Int32) × (Nat → Int32)) => [ob ta 4 [.ref lt, .int (nI m), .int (nI _u.1)], ca G lt 80 (fN tau), ob cro 1 [.ref ck, .ref cl, .ref ce, .int (nI _u.2.1)], ia G ck 6 _u.2.2.1, ia G cl 6 _u.2.2.2.1, ia G ce 6 _u.2.2.2.2]) := by
  refine zSMi.of (by decide) rfl (fun X A H0 hX hXl hT hR => ?_)
  show Z (X, G, A, H0, 4) 0 0 [ob ta 4 [.ref lt, .int (nI m), .int (nI pl)], ca G lt 80 (fN tau), ob cro 1 [.ref ck, .ref cl, .ref ce, .int (nI sz)], ia G ck 6 fk, ia G cl 6 fl, ia G ce 6 fe] 0 [(0, .ref ta), (1, .ref cro)] []
  subst hXl
  have k1 := chr_hi h0 (skp tau m pl)
  have k2 := skp_hi (τ := tau) (p := pl) h1 h2
  refine z_ldcS hX hT dX4_readsTraveller_0 ?_
  refine z_aload_n hX 0 dX4_readsTraveller_2 rfl ?_
  refine z_callVi (st := [.ref q9]) hX (c_X4_next _ G ta lt m pl tau h0 h1 h2) lb_X4_next ml_X4_52 (fun (_u : Unit) => [ob ta 4 [.ref lt, .int (nI m), .int (nI (skp tau m pl))], ca G lt 80 (fN tau), ob cro 1 [.ref ck, .ref cl, .ref ce, .int (nI sz)], ia G ck 6 fk, ia G cl 6 fl, ia G ce 6 fe]) (wr := [ob cro 1 [.ref ck, .ref cl, .ref ce, .int (nI sz)], ia G ck 6 fk, ia G cl 6 fl, ia G ce 6 fe]) [0, 1] [2, 3, 4, 5] [4, 5, 0, 1, 2, 3] ⟨rfl, rfl, rfl, fun _ => rfl⟩ 0 rfl rfl rfl rfl ⟨Nat.le_refl _, Nat.le_refl _⟩ dX4_readsTraveller_3 rfl (fun r3 u3 hw3 => ?_)
  subst hw3
  refine z_scallKi (st := []) hX hT (c_J0_indexOf_0f7a4 _ G q9 t9 (chr tau m (skp tau m pl)) (by omega)) lb_J0_indexOf_0f7a4 ml_X4_72 (fun (_u : Unit) => [ob ta 4 [.ref lt, .int (nI m), .int (nI (skp tau m pl))], ca G lt 80 (fN tau), ob cro 1 [.ref ck, .ref cl, .ref ce, .int (nI sz)], ia G ck 6 fk, ia G cl 6 fl, ia G ce 6 fe]) (wr := [ob ta 4 [.ref lt, .int (nI m), .int (nI (skp tau m pl))], ca G lt 80 (fN tau), ob cro 1 [.ref ck, .ref cl, .ref ce, .int (nI sz)], ia G ck 6 fk, ia G cl 6 fl, ia G ce 6 fe]) [] [0, 1, 2, 3, 4, 5] [0, 1, 2, 3, 4, 5] ⟨rfl, rfl, rfl, fun _ => rfl⟩ rfl rfl rfl ⟨Nat.le_refl _, Nat.le_refl _⟩ dX4_readsTraveller_6 rfl (fun r6 u6 hw6 => ?_)
  have k3 := kdN_hi (chr tau m (skp tau m pl))
  rcases Nat.eq_zero_or_pos (kdN (chr tau m (skp tau m pl))) with kd | kd
  · obtain rfl : r6 = -1 := by rw [hw6, kd]; rfl
    obtain ⟨tv, tf⟩ := tv_0 kd
    refine z_istore_n (L' := [(2, .int (-1)), (0, .ref ta), (1, .ref cro)]) hX dX4_readsTraveller_9 (Nat.le_of_ble_eq_true rfl) rfl ?_
    refine z_iload_n hX 0 dX4_readsTraveller_10 rfl ?_
    refine z_if_ge (tgt := 16) hX dX4_readsTraveller_11 (by decide) (fun c11 => absurd c11 (by decide)) (fun c11 => ?_)
    refine z_iconst (v := nI 0) hX dX4_readsTraveller_14 (by decide) ?_
    exact hR _ (skp tau m pl, sz, fk, fl, fe) _ _ ⟨⟨fun z9 => absurd z9 tv, fun _ => rfl⟩, fun z9 => absurd z9 tv, fun _ => ⟨tf.symm, rfl, rfl, rfl, rfl⟩⟩ dX4_readsTraveller_15 rfl
  · obtain rfl : r6 = nI (kdN (chr tau m (skp tau m pl)) - 1) := by rw [hw6]; unfold ln; rw [if_neg (by omega)]
    have kd0 := Nat.ne_of_gt kd
    have lq := kdN_lt kd0
    have k4 := chr_hi h0 (skp tau m (skp tau m pl + 1))
    have k5 : skp tau m (skp tau m pl + 1) ≤ 80 := skp_hi h1 (by omega)
    refine z_istore_n (L' := [(2, .int (nI (kdN (chr tau m (skp tau m pl)) - 1))), (0, .ref ta), (1, .ref cro)]) hX dX4_readsTraveller_9 (Nat.le_of_ble_eq_true rfl) rfl ?_
    refine z_iload_n hX 0 dX4_readsTraveller_10 rfl ?_
    refine zn_if_ge (tgt := 16) hX dX4_readsTraveller_11 (by decide) (by omega) (fun _ => ?_) (fun c11 => absurd c11 (by omega))
    refine z_aload_n hX 1 dX4_readsTraveller_16 rfl ?_
    refine z_dup hX dX4_readsTraveller_17 rfl ?_
    refine z_get (v := .int (nI (skp tau m pl))) hX fX4 0 2 rfl rfl (Nat.le_of_ble_eq_true rfl) fl_X4_19 rfl dX4_readsTraveller_18 ?_
    refine z_iconst (v := nI 1) hX dX4_readsTraveller_21 (by decide) ?_
    refine z_iadd (v := (nI (skp tau m pl + 1))) hX dX4_readsTraveller_22 (nI_add _ _) ?_
    refine z_put (v := .int (nI (skp tau m pl + 1))) (ws' := [ob ta 4 [.ref lt, .int (nI m), .int (nI (skp tau m pl + 1))], ca G lt 80 (fN tau), ob cro 1 [.ref ck, .ref cl, .ref ce, .int (nI sz)], ia G ck 6 fk, ia G cl 6 fl, ia G ce 6 fe]) hX fX4 0 2 rfl rfl (Nat.le_of_ble_eq_true rfl) fl_X4_19 rfl rfl rfl rfl rfl dX4_readsTraveller_23 ?_
    refine z_aload_n hX 1 dX4_readsTraveller_26 rfl ?_
    refine z_callVi (st := []) hX (c_X4_next _ G ta lt m (skp tau m pl + 1) tau h0 h1 (by omega)) lb_X4_next ml_X4_52 (fun (_u : Unit) => [ob ta 4 [.ref lt, .int (nI m), .int (nI (skp tau m (skp tau m pl + 1)))], ca G lt 80 (fN tau), ob cro 1 [.ref ck, .ref cl, .ref ce, .int (nI sz)], ia G ck 6 fk, ia G cl 6 fl, ia G ce 6 fe]) (wr := [ob cro 1 [.ref ck, .ref cl, .ref ce, .int (nI sz)], ia G ck 6 fk, ia G cl 6 fl, ia G ce 6 fe]) [0, 1] [2, 3, 4, 5] [4, 5, 0, 1, 2, 3] ⟨rfl, rfl, rfl, fun _ => rfl⟩ 0 rfl rfl rfl rfl ⟨Nat.le_refl _, Nat.le_refl _⟩ dX4_readsTraveller_27 rfl (fun r27 u27 hw27 => ?_)
    subst hw27
    refine z_bipush (v := nI 48) hX dX4_readsTraveller_30 (by decide) ?_
    rcases Nat.lt_or_ge (chr tau m (skp tau m (skp tau m pl + 1))) 48 with l48 | l48
    · skip
      refine z_isub (v := (nI (chr tau m (skp tau m (skp tau m pl + 1))) - nI 48)) hX dX4_readsTraveller_32 rfl ?_
      refine z_istore_n (L' := [(3, .int (nI (chr tau m (skp tau m (skp tau m pl + 1))) - nI 48)), (2, .int (nI (kdN (chr tau m (skp tau m pl)) - 1))), (0, .ref ta), (1, .ref cro)]) hX dX4_readsTraveller_33 (Nat.le_of_ble_eq_true rfl) rfl ?_
      refine z_iload_n hX 0 dX4_readsTraveller_34 rfl ?_
      refine z_iconst (v := nI 1) hX dX4_readsTraveller_35 (by decide) ?_
      refine z_bipush (v := nI 9) hX dX4_readsTraveller_36 (by decide) ?_
      refine z_callNi (st := []) hX (c_X6_isWithinX _ G (nI (chr tau m (skp tau m (skp tau m pl + 1))) - nI 48) 1 9 (by omega) (by omega)) lb_X6_isWithin (fun U h9 => h9.1) (fun (_u : Unit) => [ob ta 4 [.ref lt, .int (nI m), .int (nI (skp tau m (skp tau m pl + 1)))], ca G lt 80 (fN tau), ob cro 1 [.ref ck, .ref cl, .ref ce, .int (nI sz)], ia G ck 6 fk, ia G cl 6 fl, ia G ce 6 fe]) (wr := [ob ta 4 [.ref lt, .int (nI m), .int (nI (skp tau m (skp tau m pl + 1)))], ca G lt 80 (fN tau), ob cro 1 [.ref ck, .ref cl, .ref ce, .int (nI sz)], ia G ck 6 fk, ia G cl 6 fl, ia G ce 6 fe]) [] [0, 1, 2, 3, 4, 5] [0, 1, 2, 3, 4, 5] ⟨rfl, rfl, rfl, fun _ => rfl⟩ rfl rfl ⟨Nat.le_refl _, Nat.le_refl _⟩ dX4_readsTraveller_38 rfl (fun r38 u38 hw38 => ?_)
      obtain rfl : r38 = nI 0 := by
        rcases hw38 with ⟨j9, _, h8, h9, _⟩ | ⟨_, h9⟩
        · exact absurd h9 (c48m l48 h8)
        · exact h9
      obtain ⟨tv, tf⟩ := tv_1 kd0 (by omega)
      refine zn_if_ne (tgt := 46) hX dX4_readsTraveller_41 (by decide) (by omega) (fun c41 => absurd c41 (by omega)) (fun _ => ?_)
      refine z_iconst (v := nI 0) hX dX4_readsTraveller_44 (by decide) ?_
      exact hR _ (skp tau m (skp tau m pl + 1), sz, fk, fl, fe) _ _ ⟨⟨fun z9 => absurd z9 tv, fun _ => rfl⟩, fun z9 => absurd z9 tv, fun _ => ⟨tf.symm, rfl, rfl, rfl, rfl⟩⟩ dX4_readsTraveller_45 rfl
    · skip
      refine z_isub (v := (nI ((chr tau m (skp tau m (skp tau m pl + 1))) - 48))) hX dX4_readsTraveller_32 (pk_sub (by omega)) ?_
      refine z_istore_n (L' := [(3, .int (nI ((chr tau m (skp tau m (skp tau m pl + 1))) - 48))), (2, .int (nI (kdN (chr tau m (skp tau m pl)) - 1))), (0, .ref ta), (1, .ref cro)]) hX dX4_readsTraveller_33 (Nat.le_of_ble_eq_true rfl) rfl ?_
      refine z_iload_n hX 0 dX4_readsTraveller_34 rfl ?_
      refine z_iconst (v := nI 1) hX dX4_readsTraveller_35 (by decide) ?_
      refine z_bipush (v := nI 9) hX dX4_readsTraveller_36 (by decide) ?_
      refine z_callNi (st := []) hX (c_X6_isWithin _ G ((chr tau m (skp tau m (skp tau m pl + 1))) - 48) 1 9 (by omega) (by omega) (by omega)) lb_X6_isWithin (fun U h9 => h9.1) (fun (_u : Unit) => [ob ta 4 [.ref lt, .int (nI m), .int (nI (skp tau m (skp tau m pl + 1)))], ca G lt 80 (fN tau), ob cro 1 [.ref ck, .ref cl, .ref ce, .int (nI sz)], ia G ck 6 fk, ia G cl 6 fl, ia G ce 6 fe]) (wr := [ob ta 4 [.ref lt, .int (nI m), .int (nI (skp tau m (skp tau m pl + 1)))], ca G lt 80 (fN tau), ob cro 1 [.ref ck, .ref cl, .ref ce, .int (nI sz)], ia G ck 6 fk, ia G cl 6 fl, ia G ce 6 fe]) [] [0, 1, 2, 3, 4, 5] [0, 1, 2, 3, 4, 5] ⟨rfl, rfl, rfl, fun _ => rfl⟩ rfl rfl ⟨Nat.le_refl _, Nat.le_refl _⟩ dX4_readsTraveller_38 rfl (fun r38 u38 hw38 => ?_)
      try dsimp only at hw38
      rcases Classical.em (1 ≤ ((chr tau m (skp tau m (skp tau m pl + 1))) - 48) ∧ ((chr tau m (skp tau m (skp tau m pl + 1))) - 48) ≤ 9) with b38 | b38
      · obtain rfl := hw38.1 b38
        have tv := tv_2 kd0 (by omega)
        have lq2 : skp tau m (skp tau m pl + 1) < m := chr_lt (τ := tau) (by omega)
        refine zn_if_ne (tgt := 46) hX dX4_readsTraveller_41 (by decide) (by omega) (fun _ => ?_) (fun c41 => absurd c41 (by omega))
        refine z_aload_n hX 2 dX4_readsTraveller_46 rfl ?_
        refine z_dup hX dX4_readsTraveller_47 rfl ?_
        refine z_get (v := .int (nI (skp tau m (skp tau m pl + 1)))) hX fX4 0 2 rfl rfl (Nat.le_of_ble_eq_true rfl) fl_X4_19 rfl dX4_readsTraveller_48 ?_
        refine z_iconst (v := nI 1) hX dX4_readsTraveller_51 (by decide) ?_
        refine z_iadd (v := (nI (skp tau m (skp tau m pl + 1) + 1))) hX dX4_readsTraveller_52 (nI_add _ _) ?_
        refine z_put (v := .int (nI (skp tau m (skp tau m pl + 1) + 1))) (ws' := [ob ta 4 [.ref lt, .int (nI m), .int (nI (skp tau m (skp tau m pl + 1) + 1))], ca G lt 80 (fN tau), ob cro 1 [.ref ck, .ref cl, .ref ce, .int (nI sz)], ia G ck 6 fk, ia G cl 6 fl, ia G ce 6 fe]) hX fX4 0 2 rfl rfl (Nat.le_of_ble_eq_true rfl) fl_X4_19 rfl rfl rfl rfl rfl dX4_readsTraveller_53 ?_
        refine z_aload_n hX 3 dX4_readsTraveller_56 rfl ?_
        refine z_iload_n hX 1 dX4_readsTraveller_57 rfl ?_
        refine z_aload_n hX 2 dX4_readsTraveller_58 rfl ?_
        refine z_callVi (st := [.int (nI (kdN (chr tau m (skp tau m pl)) - 1)), .ref cro]) hX (c_X4_risingLooks _ G ta lt m (skp tau m (skp tau m pl + 1) + 1) tau h0 h1 (by omega)) lb_X4_risingLooks ml_X4_44 (fun (_u : Nat) => [ob ta 4 [.ref lt, .int (nI m), .int (nI _u)], ca G lt 80 (fN tau), ob cro 1 [.ref ck, .ref cl, .ref ce, .int (nI sz)], ia G ck 6 fk, ia G cl 6 fl, ia G ce 6 fe]) (wr := [ob cro 1 [.ref ck, .ref cl, .ref ce, .int (nI sz)], ia G ck 6 fk, ia G cl 6 fl, ia G ce 6 fe]) [0, 1] [2, 3, 4, 5] [4, 5, 0, 1, 2, 3] ⟨rfl, rfl, rfl, fun _ => rfl⟩ 0 rfl rfl rfl rfl ⟨Nat.le_refl _, Nat.le_refl _⟩ dX4_readsTraveller_59 rfl (fun r59 u59 hw59 => ?_)
        obtain ⟨p2_1, rfl⟩ : ∃ z9, z9 = u59 := ⟨_, rfl⟩
        obtain ⟨hr59, hp59, _⟩ := hw59
        obtain rfl : r59 = nI (tvR tau m (skp tau m pl)).2 := hr59
        refine z_iload_n hX 0 dX4_readsTraveller_62 rfl ?_
        refine z_callVv (st := []) hX (c_X1_join _ G cro ck cl ce sz fk fl fe (kdN (chr tau m (skp tau m pl)) - 1) ((tvR tau m (skp tau m pl)).2) ((chr tau m (skp tau m (skp tau m pl + 1))) - 48) (by omega)) lb_X1_join ml_X4_78 (fun (_u : Unit) => [ob ta 4 [.ref lt, .int (nI m), .int (nI p2_1)], ca G lt 80 (fN tau), ob cro 1 [.ref ck, .ref cl, .ref ce, .int (nI (sz + 1))], ia G ck 6 (upd fk sz (nI (kdN (chr tau m (skp tau m pl)) - 1))), ia G cl 6 (upd fl sz (nI ((tvR tau m (skp tau m pl)).2))), ia G ce 6 (upd fe sz (nI ((chr tau m (skp tau m (skp tau m pl + 1))) - 48)))]) (wr := [ob ta 4 [.ref lt, .int (nI m), .int (nI p2_1)], ca G lt 80 (fN tau)]) [2, 3, 4, 5] [0, 1] [0, 1, 2, 3, 4, 5] ⟨rfl, rfl, rfl, fun _ => rfl⟩ 0 rfl rfl rfl rfl ⟨Nat.le_refl _, Nat.le_refl _⟩ dX4_readsTraveller_63 rfl (fun  u63 hw63 => ?_)
        refine z_iconst (v := nI 1) hX dX4_readsTraveller_66 (by decide) ?_
        exact hR _ (p2_1, sz + 1, upd fk sz (nI (kdN (chr tau m (skp tau m pl)) - 1)), upd fl sz (nI ((tvR tau m (skp tau m pl)).2)), upd fe sz (nI ((chr tau m (skp tau m (skp tau m pl + 1))) - 48))) _ _ ⟨⟨fun _ => rfl, fun z9 => absurd tv z9⟩, fun _ => ⟨hp59, rfl, rfl, rfl, rfl⟩, fun z9 => absurd tv z9⟩ dX4_readsTraveller_67 rfl
      · obtain rfl := hw38.2 b38
        obtain ⟨tv, tf⟩ := tv_1 kd0 (by omega)
        refine zn_if_ne (tgt := 46) hX dX4_readsTraveller_41 (by decide) (by omega) (fun c41 => absurd c41 (by omega)) (fun _ => ?_)
        refine z_iconst (v := nI 0) hX dX4_readsTraveller_44 (by decide) ?_
        exact hR _ (skp tau m (skp tau m pl + 1), sz, fk, fl, fe) _ _ ⟨⟨fun z9 => absurd z9 tv, fun _ => rfl⟩, fun z9 => absurd z9 tv, fun _ => ⟨tf.symm, rfl, rfl, rfl, rfl⟩⟩ dX4_readsTraveller_45 rfl
theorem crS_six {τ : nst} {m P0 i : Nat} {x : Nat × Nat × Nat × nst} (h : crS τ m P0 (i + 1) = x) (hx : ¬ x.1 = 1) (hi : i < 6) : crS τ m P0 6 = x := by
  have e := crS_stay (τ := τ) (m := m) (P0 := P0) (i := i + 1) (by rw [h]; exact hx) (5 - i)
  rw [show i + 1 + (5 - i) = 6 by omega, h] at e
  exact e
theorem cr3_go {A : nst} {i a b c : Nat} {gk gl ge : Nat → Int32} (h : ∀ j, j < i → gk j = nI (A (3 * j)) ∧ gl j = nI (A (3 * j + 1)) ∧ ge j = nI (A (3 * j + 2))) : ∀ j, j < i + 1 → upd gk i (nI a) j = nI (va_up (va_up (va_up A (3 * i) a) (3 * i + 1) b) (3 * i + 2) c (3 * j)) ∧ upd gl i (nI b) j = nI (va_up (va_up (va_up A (3 * i) a) (3 * i + 1) b) (3 * i + 2) c (3 * j + 1)) ∧ upd ge i (nI c) j = nI (va_up (va_up (va_up A (3 * i) a) (3 * i + 1) b) (3 * i + 2) c (3 * j + 2)) := by
  intro j hj
  by_cases e : j = i
  · subst e
    rw [up_ne (by omega), up_ne (by omega), up_eq, up_ne (by omega), up_eq, up_eq]
    simp [upd]
  · have := h j (by omega)
    rw [up_ne (by omega), up_ne (by omega), up_ne (by omega), up_ne (by omega), up_ne (by omega), up_ne (by omega), up_ne (by omega), up_ne (by omega), up_ne (by omega)]
    simp only [upd, if_neg e]
    exact this
theorem tv_m {τ : nst} {m P : Nat} (h : tvOk τ m P = 2) : skp τ m (skp τ m (P + 1) + 1) ≤ m := by
  unfold tvOk at h
  split at h
  · exact absurd h (by decide)
  · split at h
    · rename_i c
      have := chr_lt (τ := τ) (m := m) (p := skp τ m (P + 1)) (by omega)
      exact skp_hi (Nat.le_refl _) (by omega)
    · exact absurd h (by decide)
set_option maxRecDepth 100000 in
set_option maxHeartbeats 4000000 in
theorem c_X4_readsCrowd (l : Launch) (G : zG) (q9 t9 : Nat) (ta : Nat) (lt : Nat) (m : Nat) (pl : Nat) (tau : nst) (cro : Nat) (ck : Nat) (cl : Nat) (ce : Nat) (fk : Nat → Int32) (fl : Nat → Int32) (fe : Nat → Int32) (h0 : ∀ j, j < m → 32 ≤ tau j ∧ tau j ≤ 126) (h1 : m ≤ 80) (h2 : pl ≤ 80) : zSMi l G q9 t9 yX4_readsCrowd cX4_readsCrowd 3 .boolean 5 0 0 114 [.ref ta, .ref cro] [ob ta 4 [.ref lt, .int (nI m), .int (nI pl)], ca G lt 80 (fN tau), ob cro 1 [.ref ck, .ref cl, .ref ce, .int (nI 0)], ia G ck 6 fk, ia G cl 6 fl, ia G ce 6 fe] (fun (r : Int32) (_u : Nat × Nat × (Nat → Int32) × (Nat → Int32) × (Nat → Int32)) => (zb (¬ (crS tau m (skp tau m pl) 6).1 = 0) r) ∧ (¬ (crS tau m (skp tau m pl) 6).1 = 0 → skp tau m _u.1 = (crS tau m (skp tau m pl) 6).2.1 ∧ _u.2.1 = (crS tau m (skp tau m pl) 6).2.2.1 ∧ _u.2.1 ≤ 6 ∧ ∀ j, j < _u.2.1 → _u.2.2.1 j = nI ((crS tau m (skp tau m pl) 6).2.2.2 (3 * j)) ∧ _u.2.2.2.1 j = nI ((crS tau m (skp tau m pl) 6).2.2.2 (3 * j + 1)) ∧ _u.2.2.2.2 j = nI ((crS tau m (skp tau m pl) 6).2.2.2 (3 * j + 2))) ∧ ((crS tau m (skp tau m pl) 6).1 = 0 → _u.1 = (crS tau m (skp tau m pl) 6).2.1)) (fun (_u : Nat × Nat × (Nat → Int32) × (Nat → Int32) × (Nat → Int32)) => [ob ta 4 [.ref lt, .int (nI m), .int (nI _u.1)], ca G lt 80 (fN tau), ob cro 1 [.ref ck, .ref cl, .ref ce, .int (nI _u.2.1)], ia G ck 6 _u.2.2.1, ia G cl 6 _u.2.2.2.1, ia G ce 6 _u.2.2.2.2]) := by
  refine zSMi.of (by decide) rfl (fun X A H0 hX hXl hT hR => ?_)
  show Z (X, G, A, H0, 3) 0 0 [ob ta 4 [.ref lt, .int (nI m), .int (nI pl)], ca G lt 80 (fN tau), ob cro 1 [.ref ck, .ref cl, .ref ce, .int (nI 0)], ia G ck 6 fk, ia G cl 6 fl, ia G ce 6 fe] 0 [(0, .ref ta), (1, .ref cro)] []
  subst hXl
  refine z_iconst (v := nI 0) hX dX4_readsCrowd_0 (by decide) ?_
  refine z_istore_n (L' := [(2, .int (nI 0)), (0, .ref ta), (1, .ref cro)]) hX dX4_readsCrowd_1 (Nat.le_of_ble_eq_true rfl) rfl ?_
  have lp2 : ∀ (n2 : Nat) (i : Nat) (p : Nat) (gk : Nat → Int32) (gl : Nat → Int32) (ge : Nat → Int32) (sg : nst), (6 + 1 ≤ i + n2) → (i ≤ 6) → (p ≤ 80) → (crS tau m (skp tau m pl) i = (1, skp tau m p, i, sg)) → (∀ j, j < i → gk j = nI (sg (3 * j)) ∧ gl j = nI (sg (3 * j + 1)) ∧ ge j = nI (sg (3 * j + 2))) → Z (X, G, A, H0, 3) 0 0 [ob ta 4 [.ref lt, .int (nI m), .int (nI p)], ca G lt 80 (fN tau), ob cro 1 [.ref ck, .ref cl, .ref ce, .int (nI i)], ia G ck 6 gk, ia G cl 6 gl, ia G ce 6 ge] 2 [(0, .ref ta), (1, .ref cro), (2, .int (nI i))] [] := by
    intro n2
    induction n2 with
    | zero =>
      intro i p gk gl ge sg hn hi hp hH hA
      exfalso
      omega
    | succ n2 ih2 =>
      intro i p gk gl ge sg hn hi hp hH hA
      have k3 := chr_hi h0 (skp tau m p)
      have k4 := skp_hi (τ := tau) (p := p) h1 hp
      refine z_iload_n hX 2 dX4_readsCrowd_2 rfl ?_
      refine z_bipush (v := nI 6) hX dX4_readsCrowd_3 (by decide) ?_
      refine zn_icmp_ge (tgt := 39) hX dX4_readsCrowd_5 (by decide) (by omega) (by omega) (fun c5 => ?_) (fun c5 => ?_)
      · skip
        refine z_iconst (v := nI 1) hX dX4_readsCrowd_39 (by decide) ?_
        have ei : i = 6 := by omega
        subst ei
        rw [hH] at hR
        exact hR _ (p, 6, gk, gl, ge) _ _ ⟨⟨fun _ => rfl, fun z9 => absurd (show ¬ (1 : Nat) = 0 by decide) z9⟩, fun _ => ⟨rfl, rfl, by omega, hA⟩, fun z9 => absurd (show (1 : Nat) = 0 from z9) (by decide)⟩ dX4_readsCrowd_40 rfl
      · skip
        refine z_iload_n hX 2 dX4_readsCrowd_8 rfl ?_
        refine zn_if_le (tgt := 23) hX dX4_readsCrowd_9 (by decide) (by omega) (fun c9 => ?_) (fun c9 => ?_)
        · skip
          refine z_aload_n hX 0 dX4_readsCrowd_23 rfl ?_
          refine z_aload_n hX 1 dX4_readsCrowd_24 rfl ?_
          refine z_scallVi (st := []) hX hT (c_X4_readsTraveller _ G q9 t9 ta lt m p tau cro ck cl ce i gk gl ge h0 h1 (by omega) (by omega)) lb_X4_readsTraveller ml_X4_67 (fun (_u : Nat × Nat × (Nat → Int32) × (Nat → Int32) × (Nat → Int32)) => [ob ta 4 [.ref lt, .int (nI m), .int (nI _u.1)], ca G lt 80 (fN tau), ob cro 1 [.ref ck, .ref cl, .ref ce, .int (nI _u.2.1)], ia G ck 6 _u.2.2.1, ia G cl 6 _u.2.2.2.1, ia G ce 6 _u.2.2.2.2]) (wr := []) [0, 1, 2, 3, 4, 5] [] [0, 1, 2, 3, 4, 5] ⟨rfl, rfl, rfl, fun _ => rfl⟩ 0 rfl rfl rfl rfl ⟨Nat.le_refl _, Nat.le_refl _⟩ dX4_readsCrowd_25 rfl (fun r25 u25 hw25 => ?_)
          obtain ⟨p2_1, sz2_2, fk2_3, fl2_4, fe2_5⟩ := u25
          obtain ⟨hw25, hw25x⟩ := hw25
          try dsimp only at hw25
          rcases Classical.em (tvOk tau m (skp tau m p) = 2) with b25 | b25
          · obtain rfl := hw25.1 b25
            obtain ⟨ep, e2, e3, e4, e5⟩ := hw25x.1 b25
            subst e2 e3 e4 e5
            have hgo := crS_go (Q := skp tau m p) hH (Or.inl (by omega)) (by rw [if_pos (show i = 0 by omega)]) b25
            rw [← ep] at hgo
            have k5 : p2_1 ≤ 80 := by
              have := ris_ok tau m 6 (skp tau m (skp tau m (skp tau m p + 1) + 1)) 0 (by omega) (tv_m b25) (skp_id _ _ _) (by omega)
              have h9 := skp_lo tau m p2_1
              have h8 : skp tau m p2_1 = (ris tau m 6 (skp tau m (skp tau m (skp tau m p + 1) + 1)) 0).1 := ep
              omega
            refine zn_if_ne (tgt := 33) hX dX4_readsCrowd_28 (by decide) (by omega) (fun _ => ?_) (fun c28 => absurd c28 (by omega))
            refine z_iinc (v := (nI (i + 1))) (L' := [(2, .int (nI (i + 1))), (0, .ref ta), (1, .ref cro)]) hX 2 dX4_readsCrowd_33 rfl (nI_inc _) (Nat.le_of_ble_eq_true rfl) rfl ?_
            refine z_goto (tgt := 2) hX dX4_readsCrowd_36 (by decide) ?_
            refine z_lsub [1, 2, 0] rfl ?_
            exact ih2 (i + 1) p2_1 (upd gk i (nI (kdN (chr tau m (skp tau m p)) - 1))) (upd gl i (nI (tvR tau m (skp tau m p)).2)) (upd ge i (nI (chr tau m (skp tau m (skp tau m p + 1)) - 48))) (va_up (va_up (va_up sg (3 * i) (kdN (chr tau m (skp tau m p)) - 1)) (3 * i + 1) (tvR tau m (skp tau m p)).2) (3 * i + 2) (chr tau m (skp tau m (skp tau m p + 1)) - 48)) (by omega) (by omega) (by omega) hgo (cr3_go hA)
          · obtain rfl := hw25.2 b25
            obtain ⟨ep, e2, e3, e4, e5⟩ := hw25x.2 b25
            have cb := crS_six (crS_bad (Q := skp tau m p) hH (Or.inl (by omega)) (by rw [if_pos (show i = 0 by omega)]) b25) (show ¬ (0 : Nat) = 1 by decide) (by omega)
            rw [← ep] at cb
            refine zn_if_ne (tgt := 33) hX dX4_readsCrowd_28 (by decide) (by omega) (fun c28 => absurd c28 (by omega)) (fun _ => ?_)
            refine z_iconst (v := nI 0) hX dX4_readsCrowd_31 (by decide) ?_
            rw [cb] at hR
            exact hR _ (p2_1, sz2_2, fk2_3, fl2_4, fe2_5) _ _ ⟨⟨fun z9 => absurd rfl z9, fun _ => rfl⟩, fun z9 => absurd rfl z9, fun _ => rfl⟩ dX4_readsCrowd_32 rfl
        · skip
          refine z_aload_n hX 0 dX4_readsCrowd_12 rfl ?_
          refine z_bipush (v := nI 44) hX dX4_readsCrowd_13 (by decide) ?_
          refine z_callVi (st := []) hX (c_X4_passes _ G ta lt m p tau 44 h0 h1 hp (by omega) (by omega)) lb_X4_passes ml_X4_40 (fun (_u : Nat) => [ob ta 4 [.ref lt, .int (nI m), .int (nI _u)], ca G lt 80 (fN tau), ob cro 1 [.ref ck, .ref cl, .ref ce, .int (nI i)], ia G ck 6 gk, ia G cl 6 gl, ia G ce 6 ge]) (wr := [ob cro 1 [.ref ck, .ref cl, .ref ce, .int (nI i)], ia G ck 6 gk, ia G cl 6 gl, ia G ce 6 ge]) [0, 1] [2, 3, 4, 5] [4, 5, 0, 1, 2, 3] ⟨rfl, rfl, rfl, fun _ => rfl⟩ 0 rfl rfl rfl rfl ⟨Nat.le_refl _, Nat.le_refl _⟩ dX4_readsCrowd_15 rfl (fun r15 u15 hw15 => ?_)
          obtain ⟨p2_6, rfl⟩ : ∃ z9, z9 = u15 := ⟨_, rfl⟩
          obtain ⟨hw15, hw15x⟩ := hw15
          try dsimp only at hw15
          rcases Classical.em (chr tau m (skp tau m p) = 44) with b15 | b15
          · obtain rfl := hw15.1 b15
            have ep15 := hw15x.1 b15
            subst ep15
            have lt15 : skp tau m p < m := chr_lt (τ := tau) (by omega)
            refine zn_if_ne (tgt := 23) hX dX4_readsCrowd_18 (by decide) (by omega) (fun _ => ?_) (fun c18 => absurd c18 (by omega))
            refine z_aload_n hX 0 dX4_readsCrowd_23 rfl ?_
            refine z_aload_n hX 1 dX4_readsCrowd_24 rfl ?_
            refine z_scallVi (st := []) hX hT (c_X4_readsTraveller _ G q9 t9 ta lt m (skp tau m p + 1) tau cro ck cl ce i gk gl ge h0 h1 (by omega) (by omega)) lb_X4_readsTraveller ml_X4_67 (fun (_u : Nat × Nat × (Nat → Int32) × (Nat → Int32) × (Nat → Int32)) => [ob ta 4 [.ref lt, .int (nI m), .int (nI _u.1)], ca G lt 80 (fN tau), ob cro 1 [.ref ck, .ref cl, .ref ce, .int (nI _u.2.1)], ia G ck 6 _u.2.2.1, ia G cl 6 _u.2.2.2.1, ia G ce 6 _u.2.2.2.2]) (wr := []) [0, 1, 2, 3, 4, 5] [] [0, 1, 2, 3, 4, 5] ⟨rfl, rfl, rfl, fun _ => rfl⟩ 0 rfl rfl rfl rfl ⟨Nat.le_refl _, Nat.le_refl _⟩ dX4_readsCrowd_25 rfl (fun r25 u25 hw25 => ?_)
            obtain ⟨p2_7, sz2_8, fk2_9, fl2_10, fe2_11⟩ := u25
            obtain ⟨hw25, hw25x⟩ := hw25
            try dsimp only at hw25
            rcases Classical.em (tvOk tau m (skp tau m (skp tau m p + 1)) = 2) with b25 | b25
            · obtain rfl := hw25.1 b25
              obtain ⟨ep, e2, e3, e4, e5⟩ := hw25x.1 b25
              subst e2 e3 e4 e5
              have hgo := crS_go (Q := skp tau m (skp tau m p + 1)) hH (Or.inr b15) (by rw [if_neg (by omega)]) b25
              rw [← ep] at hgo
              have k5 : p2_7 ≤ 80 := by
                have := ris_ok tau m 6 (skp tau m (skp tau m (skp tau m (skp tau m p + 1) + 1) + 1)) 0 (by omega) (tv_m b25) (skp_id _ _ _) (by omega)
                have h9 := skp_lo tau m p2_7
                have h8 : skp tau m p2_7 = (ris tau m 6 (skp tau m (skp tau m (skp tau m (skp tau m p + 1) + 1) + 1)) 0).1 := ep
                omega
              refine zn_if_ne (tgt := 33) hX dX4_readsCrowd_28 (by decide) (by omega) (fun _ => ?_) (fun c28 => absurd c28 (by omega))
              refine z_iinc (v := (nI (i + 1))) (L' := [(2, .int (nI (i + 1))), (0, .ref ta), (1, .ref cro)]) hX 2 dX4_readsCrowd_33 rfl (nI_inc _) (Nat.le_of_ble_eq_true rfl) rfl ?_
              refine z_goto (tgt := 2) hX dX4_readsCrowd_36 (by decide) ?_
              refine z_lsub [1, 2, 0] rfl ?_
              exact ih2 (i + 1) p2_7 (upd gk i (nI (kdN (chr tau m (skp tau m (skp tau m p + 1))) - 1))) (upd gl i (nI (tvR tau m (skp tau m (skp tau m p + 1))).2)) (upd ge i (nI (chr tau m (skp tau m (skp tau m (skp tau m p + 1) + 1)) - 48))) (va_up (va_up (va_up sg (3 * i) (kdN (chr tau m (skp tau m (skp tau m p + 1))) - 1)) (3 * i + 1) (tvR tau m (skp tau m (skp tau m p + 1))).2) (3 * i + 2) (chr tau m (skp tau m (skp tau m (skp tau m p + 1) + 1)) - 48)) (by omega) (by omega) (by omega) hgo (cr3_go hA)
            · obtain rfl := hw25.2 b25
              obtain ⟨ep, e2, e3, e4, e5⟩ := hw25x.2 b25
              have cb := crS_six (crS_bad (Q := skp tau m (skp tau m p + 1)) hH (Or.inr b15) (by rw [if_neg (by omega)]) b25) (show ¬ (0 : Nat) = 1 by decide) (by omega)
              rw [← ep] at cb
              refine zn_if_ne (tgt := 33) hX dX4_readsCrowd_28 (by decide) (by omega) (fun c28 => absurd c28 (by omega)) (fun _ => ?_)
              refine z_iconst (v := nI 0) hX dX4_readsCrowd_31 (by decide) ?_
              rw [cb] at hR
              exact hR _ (p2_7, sz2_8, fk2_9, fl2_10, fe2_11) _ _ ⟨⟨fun z9 => absurd rfl z9, fun _ => rfl⟩, fun z9 => absurd rfl z9, fun _ => rfl⟩ dX4_readsCrowd_32 rfl
          · obtain rfl := hw15.2 b15
            have ep15 := hw15x.2 b15
            subst ep15
            refine zn_if_ne (tgt := 23) hX dX4_readsCrowd_18 (by decide) (by omega) (fun c18 => absurd c18 (by omega)) (fun _ => ?_)
            refine z_iconst (v := nI 1) hX dX4_readsCrowd_21 (by decide) ?_
            have cb := crS_six (crS_no hH (by omega) b15) (show ¬ (2 : Nat) = 1 by decide) (by omega)
            rw [cb] at hR
            exact hR _ ((skp tau m p), i, gk, gl, ge) _ _ ⟨⟨fun _ => rfl, fun z9 => absurd (show ¬ (2 : Nat) = 0 by decide) z9⟩, fun _ => ⟨skp_id _ _ _, rfl, by omega, hA⟩, fun z9 => absurd (show (2 : Nat) = 0 from z9) (by decide)⟩ dX4_readsCrowd_22 rfl
  refine z_lsub [1, 2, 0] rfl ?_
  exact lp2 7 0 pl fk fl fe (fun _ => 0) (by omega) (by omega) h2 rfl (fun j9 h9 => absurd h9 (by omega))
