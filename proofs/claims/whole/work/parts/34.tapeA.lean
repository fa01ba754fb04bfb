set_option maxRecDepth 100000 in
set_option maxHeartbeats 4000000 in
theorem c_X4_next (l : Launch) (G : zG) (ta : Nat) (lt : Nat) (m : Nat) (pl : Nat) (tau : nst) (h0 : ∀ j, j < m → 32 ≤ tau j ∧ tau j ≤ 126) (h1 : m ≤ 80) (h2 : pl ≤ 80) : zMi l G yX4_next cX4_next 1 .char 0 0 0 0 [.ref ta] [ob ta 4 [.ref lt, .int (nI m), .int (nI pl)], ca G lt 80 (fN tau)] (fun (r : Int32) (_u : Unit) => r = nI (chr tau m (skp tau m pl))) (fun (_u : Unit) => [ob ta 4 [.ref lt, .int (nI m), .int (nI (skp tau m pl))], ca G lt 80 (fN tau)]) := by
  refine zMi.of (by decide) rfl (fun X A H0 hX hXl hR => ?_)
  show Z (X, G, A, H0, 1) 0 0 [ob ta 4 [.ref lt, .int (nI m), .int (nI pl)], ca G lt 80 (fN tau)] 0 [(0, .ref ta)] []
  subst hXl
  have lp0 : ∀ (n0 : Nat) (p : Nat), (80 + 1 ≤ p + n0) → (p ≤ 80) → (skp tau m p = skp tau m pl) → Z (X, G, A, H0, 1) 0 0 [ob ta 4 [.ref lt, .int (nI m), .int (nI p)], ca G lt 80 (fN tau)] 0 [(0, .ref ta)] [] := by
    intro n0
    induction n0 with
    | zero =>
      intro p hn hp hs
      exfalso
      omega
    | succ n0 ih0 =>
      intro p hn hp hs
      refine z_aload_n hX 0 dX4_next_0 rfl ?_
      refine z_get (v := .int (nI p)) hX fX4 0 2 rfl rfl (Nat.le_of_ble_eq_true rfl) fl_X4_19 rfl dX4_next_1 ?_
      refine z_aload_n hX 0 dX4_next_4 rfl ?_
      refine z_get (v := .int (nI m)) hX fX4 0 1 rfl rfl (Nat.le_of_ble_eq_true rfl) fl_X4_15 rfl dX4_next_5 ?_
      refine zn_icmp_ge (tgt := 38) hX dX4_next_8 (by decide) (by omega) (by omega) (fun c8 => ?_) (fun c8 => ?_)
      · skip
        have es : p = skp tau m pl := by
          rw [← hs]
          first | rw [skp_end (by omega)] | rw [skp_ne c22]
        subst es
        refine z_aload_n hX 0 dX4_next_38 rfl ?_
        refine z_get (v := .int (nI (skp tau m pl))) hX fX4 0 2 rfl rfl (Nat.le_of_ble_eq_true rfl) fl_X4_19 rfl dX4_next_39 ?_
        refine z_aload_n hX 0 dX4_next_42 rfl ?_
        refine z_get (v := .int (nI m)) hX fX4 0 1 rfl rfl (Nat.le_of_ble_eq_true rfl) fl_X4_15 rfl dX4_next_43 ?_
        refine zn_icmp_ge (tgt := 61) hX dX4_next_46 (by decide) (by omega) (by omega) (fun c46 => ?_) (fun c46 => ?_)
        · skip
          refine z_iconst (v := nI 0) hX dX4_next_61 (by decide) ?_
          exact hR _ () _ _ (by rw [chr_out (by omega)]) dX4_next_62 rfl
        · skip
          refine z_aload_n hX 0 dX4_next_49 rfl ?_
          refine z_get (v := .ref lt) hX fX4 0 0 rfl rfl (Nat.le_of_ble_eq_true rfl) fl_X4_9 rfl dX4_next_50 ?_
          refine z_aload_n hX 0 dX4_next_53 rfl ?_
          refine z_get (v := .int (nI (skp tau m pl))) hX fX4 0 2 rfl rfl (Nat.le_of_ble_eq_true rfl) fl_X4_19 rfl dX4_next_54 ?_
          have q2 := h0 (skp tau m pl) (by omega)
          refine z_cald (v := (nI (tau (skp tau m pl)))) hX 1 (j := (skp tau m pl)) rfl (by omega) (by decide) rfl dX4_next_57 ?_
          refine z_goto (tgt := 62) hX dX4_next_58 (by decide) ?_
          exact hR _ () _ _ (by rw [chr_in (by omega)]) dX4_next_62 (congrArg Value.int (i2c_nI (c := tau (skp tau m pl)) (by omega)))
      · skip
        refine z_aload_n hX 0 dX4_next_11 rfl ?_
        refine z_get (v := .ref lt) hX fX4 0 0 rfl rfl (Nat.le_of_ble_eq_true rfl) fl_X4_9 rfl dX4_next_12 ?_
        refine z_aload_n hX 0 dX4_next_15 rfl ?_
        refine z_get (v := .int (nI p)) hX fX4 0 2 rfl rfl (Nat.le_of_ble_eq_true rfl) fl_X4_19 rfl dX4_next_16 ?_
        have q1 := h0 p (by omega)
        refine z_cald (v := (nI (tau p))) hX 1 (j := p) rfl (by omega) (by decide) rfl dX4_next_19 ?_
        refine z_bipush (v := nI 32) hX dX4_next_20 (by decide) ?_
        refine zn_icmp_ne (tgt := 38) hX dX4_next_22 (by decide) (by omega) (by omega) (fun c22 => ?_) (fun c22 => ?_)
        · skip
          have es : p = skp tau m pl := by
            rw [← hs]
            first | rw [skp_end (by omega)] | rw [skp_ne c22]
          subst es
          refine z_aload_n hX 0 dX4_next_38 rfl ?_
          refine z_get (v := .int (nI (skp tau m pl))) hX fX4 0 2 rfl rfl (Nat.le_of_ble_eq_true rfl) fl_X4_19 rfl dX4_next_39 ?_
          refine z_aload_n hX 0 dX4_next_42 rfl ?_
          refine z_get (v := .int (nI m)) hX fX4 0 1 rfl rfl (Nat.le_of_ble_eq_true rfl) fl_X4_15 rfl dX4_next_43 ?_
          refine zn_icmp_ge (tgt := 61) hX dX4_next_46 (by decide) (by omega) (by omega) (fun c46 => ?_) (fun c46 => ?_)
          · skip
            refine z_iconst (v := nI 0) hX dX4_next_61 (by decide) ?_
            exact hR _ () _ _ (by rw [chr_out (by omega)]) dX4_next_62 rfl
          · skip
            refine z_aload_n hX 0 dX4_next_49 rfl ?_
            refine z_get (v := .ref lt) hX fX4 0 0 rfl rfl (Nat.le_of_ble_eq_true rfl) fl_X4_9 rfl dX4_next_50 ?_
            refine z_aload_n hX 0 dX4_next_53 rfl ?_
            refine z_get (v := .int (nI (skp tau m pl))) hX fX4 0 2 rfl rfl (Nat.le_of_ble_eq_true rfl) fl_X4_19 rfl dX4_next_54 ?_
            have q2 := h0 (skp tau m pl) (by omega)
            refine z_cald (v := (nI (tau (skp tau m pl)))) hX 1 (j := (skp tau m pl)) rfl (by omega) (by decide) rfl dX4_next_57 ?_
            refine z_goto (tgt := 62) hX dX4_next_58 (by decide) ?_
            exact hR _ () _ _ (by rw [chr_in (by omega)]) dX4_next_62 (congrArg Value.int (i2c_nI (c := tau (skp tau m pl)) (by omega)))
        · skip
          refine z_aload_n hX 0 dX4_next_25 rfl ?_
          refine z_dup hX dX4_next_26 rfl ?_
          refine z_get (v := .int (nI p)) hX fX4 0 2 rfl rfl (Nat.le_of_ble_eq_true rfl) fl_X4_19 rfl dX4_next_27 ?_
          refine z_iconst (v := nI 1) hX dX4_next_30 (by decide) ?_
          refine z_iadd (v := (nI (p + 1))) hX dX4_next_31 (nI_add _ _) ?_
          refine z_put (v := .int (nI (p + 1))) (ws' := [ob ta 4 [.ref lt, .int (nI m), .int (nI (p + 1))], ca G lt 80 (fN tau)]) hX fX4 0 2 rfl rfl (Nat.le_of_ble_eq_true rfl) fl_X4_19 rfl rfl rfl rfl rfl dX4_next_32 ?_
          refine z_goto (tgt := 0) hX dX4_next_35 (by decide) ?_
          exact ih0 (p + 1) (by omega) (by omega) (by rw [← hs, skp_go (τ := tau) (m := m) (p := p) (by omega) (by omega)])
  exact lp0 81 pl (by omega) (by omega) rfl
set_option maxRecDepth 100000 in
set_option maxHeartbeats 4000000 in
theorem c_X4_passes (l : Launch) (G : zG) (ta : Nat) (lt : Nat) (m : Nat) (pl : Nat) (tau : nst) (c : Nat) (h0 : ∀ j, j < m → 32 ≤ tau j ∧ tau j ≤ 126) (h1 : m ≤ 80) (h2 : pl ≤ 80) (h3 : c < 65536) (h4 : ¬ c = 0) : zMi l G yX4_passes cX4_passes 2 .boolean 1 0 0 20 [.ref ta, .int (nI c)] [ob ta 4 [.ref lt, .int (nI m), .int (nI pl)], ca G lt 80 (fN tau)] (fun (r : Int32) (_u : Nat) => (zb (chr tau m (skp tau m pl) = c) r) ∧ ((chr tau m (skp tau m pl) = c) → _u = skp tau m pl + 1) ∧ (¬ (chr tau m (skp tau m pl) = c) → _u = skp tau m pl)) (fun (_u : Nat) => [ob ta 4 [.ref lt, .int (nI m), .int (nI _u)], ca G lt 80 (fN tau)]) := by
  refine zMi.of (by decide) rfl (fun X A H0 hX hXl hR => ?_)
  show Z (X, G, A, H0, 2) 0 0 [ob ta 4 [.ref lt, .int (nI m), .int (nI pl)], ca G lt 80 (fN tau)] 0 [(0, .ref ta), (1, .int (nI c))] []
  subst hXl
  have k1 := chr_hi h0 (skp tau m pl)
  have k2 := skp_hi (τ := tau) (p := pl) h1 h2
  refine z_aload_n hX 0 dX4_passes_0 rfl ?_
  refine z_callVi (st := []) hX (c_X4_next _ G ta lt m pl tau h0 h1 h2) lb_X4_next ml_X4_52 (fun (_u : Unit) => [ob ta 4 [.ref lt, .int (nI m), .int (nI (skp tau m pl))], ca G lt 80 (fN tau)]) (wr := []) [0, 1] [] [0, 1] ⟨rfl, rfl, rfl, fun _ => rfl⟩ 0 rfl rfl rfl rfl ⟨Nat.le_refl _, Nat.le_refl _⟩ dX4_passes_1 rfl (fun r1 u1 hw1 => ?_)
  subst hw1
  refine z_iload_n hX 1 dX4_passes_4 rfl ?_
  refine zn_icmp_eq (tgt := 10) hX dX4_passes_5 (by decide) (by omega) (by omega) (fun c5 => ?_) (fun c5 => ?_)
  · skip
    refine z_aload_n hX 0 dX4_passes_10 rfl ?_
    refine z_dup hX dX4_passes_11 rfl ?_
    refine z_get (v := .int (nI (skp tau m pl))) hX fX4 0 2 rfl rfl (Nat.le_of_ble_eq_true rfl) fl_X4_19 rfl dX4_passes_12 ?_
    refine z_iconst (v := nI 1) hX dX4_passes_15 (by decide) ?_
    refine z_iadd (v := (nI (skp tau m pl + 1))) hX dX4_passes_16 (nI_add _ _) ?_
    refine z_put (v := .int (nI (skp tau m pl + 1))) (ws' := [ob ta 4 [.ref lt, .int (nI m), .int (nI (skp tau m pl + 1))], ca G lt 80 (fN tau)]) hX fX4 0 2 rfl rfl (Nat.le_of_ble_eq_true rfl) fl_X4_19 rfl rfl rfl rfl rfl dX4_passes_17 ?_
    refine z_iconst (v := nI 1) hX dX4_passes_20 (by decide) ?_
    exact hR _ (skp tau m pl + 1) _ _ ⟨⟨fun _ => rfl, fun z9 => absurd c5 z9⟩, fun _ => rfl, fun z9 => absurd c5 z9⟩ dX4_passes_21 rfl
  · skip
    refine z_iconst (v := nI 0) hX dX4_passes_8 (by decide) ?_
    exact hR _ (skp tau m pl) _ _ ⟨⟨fun z9 => absurd z9 c5, fun _ => rfl⟩, fun z9 => absurd z9 c5, fun _ => rfl⟩ dX4_passes_9 rfl
/-- up to k digits read of those at P -/
def numK (τ : nst) (P k : Nat) : Nat := if k = 0 then 0 else if k = 1 then τ P - 48 else 10 * (τ P - 48) + (τ (P + 1) - 48)
theorem num_0 {τ : nst} {m P : Nat} (h : ¬ dg τ m P = true) : numV τ m P = 0 ∧ numE τ m P = P := by
  unfold numV numE
  rw [if_neg h, if_neg h]
  exact ⟨rfl, rfl⟩
theorem num_1 {τ : nst} {m P : Nat} (h : dg τ m P = true) (h2 : ¬ dg τ m (P + 1) = true) : numV τ m P = numK τ P 1 + 1 ∧ numE τ m P = P + 1 ∧ numK τ P 1 ≤ 9 := by
  unfold numV numE numK
  rw [if_pos h, if_pos h, if_neg h2, if_neg h2]
  rw [dg_t] at h
  refine ⟨rfl, rfl, ?_⟩
  rw [if_neg (by omega), if_pos rfl]
  omega
theorem num_2 {τ : nst} {m P : Nat} (h : dg τ m P = true) (h2 : dg τ m (P + 1) = true) : (numK τ P 2 ≤ 40 → numV τ m P = numK τ P 2 + 1) ∧ (¬ numK τ P 2 ≤ 40 → numV τ m P = 0) ∧ numE τ m P = P + 2 ∧ numK τ P 2 ≤ 99 := by
  unfold numV numE numK
  rw [if_pos h, if_pos h, if_pos h2, if_pos h2]
  rw [dg_t] at h h2
  rw [if_neg (by omega), if_neg (by omega)]
  refine ⟨fun c => if_pos c, fun c => if_neg c, rfl, ?_⟩
  omega
theorem numK_s {τ : nst} {P k : Nat} (hk : k < 2) : numK τ P (k + 1) = 10 * numK τ P k + (τ (P + k) - 48) := by
  unfold numK
  rcases (show k = 0 ∨ k = 1 by omega) with rfl | rfl <;> simp
set_option maxRecDepth 100000 in
set_option maxHeartbeats 4000000 in
theorem c_X4_number (l : Launch) (G : zG) (ta : Nat) (lt : Nat) (m : Nat) (pl : Nat) (tau : nst) (h0 : ∀ j, j < m → 32 ≤ tau j ∧ tau j ≤ 126) (h1 : m ≤ 80) (h2 : pl ≤ 80) : zMi l G yX4_number cX4_number 3 .int 1 0 0 22 [.ref ta] [ob ta 4 [.ref lt, .int (nI m), .int (nI pl)], ca G lt 80 (fN tau)] (fun (r : Int32) (_u : Nat) => r = ln (numV tau m (skp tau m pl)) ∧ _u = if numV tau m (skp tau m pl) = 0 then skp tau m pl else numE tau m (skp tau m pl)) (fun (_u : Nat) => [ob ta 4 [.ref lt, .int (nI m), .int (nI _u)], ca G lt 80 (fN tau)]) := by
  refine zMi.of (by decide) rfl (fun X A H0 hX hXl hR => ?_)
  show Z (X, G, A, H0, 3) 0 0 [ob ta 4 [.ref lt, .int (nI m), .int (nI pl)], ca G lt 80 (fN tau)] 0 [(0, .ref ta)] []
  subst hXl
  have k1 := chr_hi h0 (skp tau m pl)
  have k2 := skp_hi (τ := tau) (p := pl) h1 h2
  refine z_aload_n hX 0 dX4_number_0 rfl ?_
  refine z_callVi (st := []) hX (c_X4_next _ G ta lt m pl tau h0 h1 h2) lb_X4_next ml_X4_52 (fun (_u : Unit) => [ob ta 4 [.ref lt, .int (nI m), .int (nI (skp tau m pl))], ca G lt 80 (fN tau)]) (wr := []) [0, 1] [] [0, 1] ⟨rfl, rfl, rfl, fun _ => rfl⟩ 0 rfl rfl rfl rfl ⟨Nat.le_refl _, Nat.le_refl _⟩ dX4_number_1 rfl (fun r1 u1 hw1 => ?_)
  subst hw1
  refine z_pop hX dX4_number_4 rfl ?_
  refine z_aload_n hX 0 dX4_number_5 rfl ?_
  refine z_get (v := .int (nI (skp tau m pl))) hX fX4 0 2 rfl rfl (Nat.le_of_ble_eq_true rfl) fl_X4_19 rfl dX4_number_6 ?_
  refine z_istore_n (L' := [(1, .int (nI (skp tau m pl))), (0, .ref ta)]) hX dX4_number_9 (Nat.le_of_ble_eq_true rfl) rfl ?_
  refine z_iconst (v := nI 0) hX dX4_number_10 (by decide) ?_
  refine z_istore_n (L' := [(2, .int (nI 0)), (1, .int (nI (skp tau m pl))), (0, .ref ta)]) hX dX4_number_11 (Nat.le_of_ble_eq_true rfl) rfl ?_
  have lp12 : ∀ (n12 : Nat) (k : Nat), (2 + 1 ≤ k + n12) → (k ≤ 2) → (∀ i, i < k → dg tau m (skp tau m pl + i) = true) → Z (X, G, A, H0, 3) 0 0 [ob ta 4 [.ref lt, .int (nI m), .int (nI (skp tau m pl + k))], ca G lt 80 (fN tau)] 12 [(0, .ref ta), (1, .int (nI (skp tau m pl))), (2, .int (nI (numK tau (skp tau m pl) k)))] [] := by
    intro n12
    induction n12 with
    | zero =>
      intro k hn hk hd
      exfalso
      omega
    | succ n12 ih12 =>
      intro k hn hk hd
      refine z_aload_n hX 0 dX4_number_12 rfl ?_
      refine z_get (v := .int (nI (skp tau m pl + k))) hX fX4 0 2 rfl rfl (Nat.le_of_ble_eq_true rfl) fl_X4_19 rfl dX4_number_13 ?_
      refine z_aload_n hX 0 dX4_number_16 rfl ?_
      refine z_get (v := .int (nI m)) hX fX4 0 1 rfl rfl (Nat.le_of_ble_eq_true rfl) fl_X4_15 rfl dX4_number_17 ?_
      refine zn_icmp_ge (tgt := 83) hX dX4_number_20 (by decide) (by omega) (by omega) (fun c20 => ?_) (fun c20 => ?_)
      · skip
        have hx : ¬ (k < 2 ∧ dg tau m (skp tau m pl + k) = true) := by
          rintro ⟨z1, z2⟩
          rw [dg_t] at z2
          omega
        rcases (show k = 0 ∨ k = 1 ∨ k = 2 by omega) with rfl | rfl | rfl
        · obtain ⟨e1, e2⟩ := num_0 (τ := tau) (m := m) (P := skp tau m pl) (fun z => hx ⟨by omega, z⟩)
          have e3 : numK tau (skp tau m pl) 0 = 0 := rfl
          refine z_iload_n hX 2 dX4_number_83 rfl ?_
          refine z_bipush (v := nI 40) hX dX4_number_84 (by decide) ?_
          refine zn_icmp_le (tgt := 96) hX dX4_number_86 (by decide) (by omega) (by omega) (fun c86 => ?_) (fun c86 => ?_)
          · skip
            refine z_aload_n hX 0 dX4_number_96 rfl ?_
            refine z_get (v := .int (nI (skp tau m pl + 0))) hX fX4 0 2 rfl rfl (Nat.le_of_ble_eq_true rfl) fl_X4_19 rfl dX4_number_97 ?_
            refine z_iload_n hX 1 dX4_number_100 rfl ?_
            refine zn_icmp_le (tgt := 108) hX dX4_number_101 (by decide) (by omega) (by omega) (fun c101 => ?_) (fun c101 => ?_)
            · skip
              refine z_iconst (v := (-1)) hX dX4_number_108 (by decide) ?_
              first | exact hR _ (skp tau m pl + 0) _ _ ⟨by rw [e1]; rfl, by rw [if_pos e1]; rfl⟩ dX4_number_109 rfl | (exfalso; omega)
            · skip
              refine z_iload_n hX 2 dX4_number_104 rfl ?_
              refine z_goto (tgt := 109) hX dX4_number_105 (by decide) ?_
              exfalso
              omega
          · skip
            refine z_aload_n hX 0 dX4_number_89 rfl ?_
            refine z_iload_n hX 1 dX4_number_90 rfl ?_
            refine z_put (v := .int (nI (skp tau m pl))) (ws' := [ob ta 4 [.ref lt, .int (nI m), .int (nI (skp tau m pl))], ca G lt 80 (fN tau)]) hX fX4 0 2 rfl rfl (Nat.le_of_ble_eq_true rfl) fl_X4_19 rfl rfl rfl rfl rfl dX4_number_91 ?_
            refine z_iconst (v := (-1)) hX dX4_number_94 (by decide) ?_
            first | exact hR _ (skp tau m pl) _ _ ⟨by rw [e1]; rfl, by rw [if_pos e1]; rfl⟩ dX4_number_95 rfl | (exfalso; omega)
        · obtain ⟨e1, e2, e3⟩ := num_1 (τ := tau) (m := m) (P := skp tau m pl) (hd 0 (by omega)) (fun z => hx ⟨by omega, z⟩)
          refine z_iload_n hX 2 dX4_number_83 rfl ?_
          refine z_bipush (v := nI 40) hX dX4_number_84 (by decide) ?_
          refine zn_icmp_le (tgt := 96) hX dX4_number_86 (by decide) (by omega) (by omega) (fun c86 => ?_) (fun c86 => ?_)
          · skip
            refine z_aload_n hX 0 dX4_number_96 rfl ?_
            refine z_get (v := .int (nI (skp tau m pl + 1))) hX fX4 0 2 rfl rfl (Nat.le_of_ble_eq_true rfl) fl_X4_19 rfl dX4_number_97 ?_
            refine z_iload_n hX 1 dX4_number_100 rfl ?_
            refine zn_icmp_le (tgt := 108) hX dX4_number_101 (by decide) (by omega) (by omega) (fun c101 => ?_) (fun c101 => ?_)
            · skip
              refine z_iconst (v := (-1)) hX dX4_number_108 (by decide) ?_
              exfalso
              omega
            · skip
              refine z_iload_n hX 2 dX4_number_104 rfl ?_
              refine z_goto (tgt := 109) hX dX4_number_105 (by decide) ?_
              first | exact hR _ (skp tau m pl + 1) _ _ ⟨by rw [e1, ln_s], by rw [e1, if_neg (by omega), e2]⟩ dX4_number_109 rfl | (exfalso; omega)
          · skip
            refine z_aload_n hX 0 dX4_number_89 rfl ?_
            refine z_iload_n hX 1 dX4_number_90 rfl ?_
            refine z_put (v := .int (nI (skp tau m pl))) (ws' := [ob ta 4 [.ref lt, .int (nI m), .int (nI (skp tau m pl))], ca G lt 80 (fN tau)]) hX fX4 0 2 rfl rfl (Nat.le_of_ble_eq_true rfl) fl_X4_19 rfl rfl rfl rfl rfl dX4_number_91 ?_
            refine z_iconst (v := (-1)) hX dX4_number_94 (by decide) ?_
            exfalso
            omega
        · obtain ⟨e1, e2, e3, e4⟩ := num_2 (τ := tau) (m := m) (P := skp tau m pl) (hd 0 (by omega)) (hd 1 (by omega))
          refine z_iload_n hX 2 dX4_number_83 rfl ?_
          refine z_bipush (v := nI 40) hX dX4_number_84 (by decide) ?_
          refine zn_icmp_le (tgt := 96) hX dX4_number_86 (by decide) (by omega) (by omega) (fun c86 => ?_) (fun c86 => ?_)
          · skip
            refine z_aload_n hX 0 dX4_number_96 rfl ?_
            refine z_get (v := .int (nI (skp tau m pl + 2))) hX fX4 0 2 rfl rfl (Nat.le_of_ble_eq_true rfl) fl_X4_19 rfl dX4_number_97 ?_
            refine z_iload_n hX 1 dX4_number_100 rfl ?_
            refine zn_icmp_le (tgt := 108) hX dX4_number_101 (by decide) (by omega) (by omega) (fun c101 => ?_) (fun c101 => ?_)
            · skip
              refine z_iconst (v := (-1)) hX dX4_number_108 (by decide) ?_
              exfalso
              omega
            · skip
              refine z_iload_n hX 2 dX4_number_104 rfl ?_
              refine z_goto (tgt := 109) hX dX4_number_105 (by decide) ?_
              first | exact hR _ (skp tau m pl + 2) _ _ ⟨by rw [e1 (by omega), ln_s], by rw [e1 (by omega), if_neg (by omega), e3]⟩ dX4_number_109 rfl | (exfalso; omega)
          · skip
            refine z_aload_n hX 0 dX4_number_89 rfl ?_
            refine z_iload_n hX 1 dX4_number_90 rfl ?_
            refine z_put (v := .int (nI (skp tau m pl))) (ws' := [ob ta 4 [.ref lt, .int (nI m), .int (nI (skp tau m pl))], ca G lt 80 (fN tau)]) hX fX4 0 2 rfl rfl (Nat.le_of_ble_eq_true rfl) fl_X4_19 rfl rfl rfl rfl rfl dX4_number_91 ?_
            refine z_iconst (v := (-1)) hX dX4_number_94 (by decide) ?_
            first | exact hR _ (skp tau m pl) _ _ ⟨by rw [e2 (by omega)]; rfl, by rw [if_pos (e2 (by omega))]⟩ dX4_number_95 rfl | (exfalso; omega)
      · skip
        refine z_aload_n hX 0 dX4_number_23 rfl ?_
        refine z_get (v := .int (nI (skp tau m pl + k))) hX fX4 0 2 rfl rfl (Nat.le_of_ble_eq_true rfl) fl_X4_19 rfl dX4_number_24 ?_
        refine z_iload_n hX 1 dX4_number_27 rfl ?_
        refine z_iconst (v := nI 2) hX dX4_number_28 (by decide) ?_
        refine z_iadd (v := (nI (skp tau m pl + 2))) hX dX4_number_29 (nI_add _ _) ?_
        refine zn_icmp_ge (tgt := 83) hX dX4_number_30 (by decide) (by omega) (by omega) (fun c30 => ?_) (fun c30 => ?_)
        · skip
          have hx : ¬ (k < 2 ∧ dg tau m (skp tau m pl + k) = true) := by
            rintro ⟨z1, z2⟩
            rw [dg_t] at z2
            omega
          rcases (show k = 0 ∨ k = 1 ∨ k = 2 by omega) with rfl | rfl | rfl
          · obtain ⟨e1, e2⟩ := num_0 (τ := tau) (m := m) (P := skp tau m pl) (fun z => hx ⟨by omega, z⟩)
            have e3 : numK tau (skp tau m pl) 0 = 0 := rfl
            refine z_iload_n hX 2 dX4_number_83 rfl ?_
            refine z_bipush (v := nI 40) hX dX4_number_84 (by decide) ?_
            refine zn_icmp_le (tgt := 96) hX dX4_number_86 (by decide) (by omega) (by omega) (fun c86 => ?_) (fun c86 => ?_)
            · skip
              refine z_aload_n hX 0 dX4_number_96 rfl ?_
              refine z_get (v := .int (nI (skp tau m pl + 0))) hX fX4 0 2 rfl rfl (Nat.le_of_ble_eq_true rfl) fl_X4_19 rfl dX4_number_97 ?_
              refine z_iload_n hX 1 dX4_number_100 rfl ?_
              refine zn_icmp_le (tgt := 108) hX dX4_number_101 (by decide) (by omega) (by omega) (fun c101 => ?_) (fun c101 => ?_)
              · skip
                refine z_iconst (v := (-1)) hX dX4_number_108 (by decide) ?_
                first | exact hR _ (skp tau m pl + 0) _ _ ⟨by rw [e1]; rfl, by rw [if_pos e1]; rfl⟩ dX4_number_109 rfl | (exfalso; omega)
              · skip
                refine z_iload_n hX 2 dX4_number_104 rfl ?_
                refine z_goto (tgt := 109) hX dX4_number_105 (by decide) ?_
                exfalso
                omega
            · skip
              refine z_aload_n hX 0 dX4_number_89 rfl ?_
              refine z_iload_n hX 1 dX4_number_90 rfl ?_
              refine z_put (v := .int (nI (skp tau m pl))) (ws' := [ob ta 4 [.ref lt, .int (nI m), .int (nI (skp tau m pl))], ca G lt 80 (fN tau)]) hX fX4 0 2 rfl rfl (Nat.le_of_ble_eq_true rfl) fl_X4_19 rfl rfl rfl rfl rfl dX4_number_91 ?_
              refine z_iconst (v := (-1)) hX dX4_number_94 (by decide) ?_
              first | exact hR _ (skp tau m pl) _ _ ⟨by rw [e1]; rfl, by rw [if_pos e1]; rfl⟩ dX4_number_95 rfl | (exfalso; omega)
          · obtain ⟨e1, e2, e3⟩ := num_1 (τ := tau) (m := m) (P := skp tau m pl) (hd 0 (by omega)) (fun z => hx ⟨by omega, z⟩)
            refine z_iload_n hX 2 dX4_number_83 rfl ?_
            refine z_bipush (v := nI 40) hX dX4_number_84 (by decide) ?_
            refine zn_icmp_le (tgt := 96) hX dX4_number_86 (by decide) (by omega) (by omega) (fun c86 => ?_) (fun c86 => ?_)
            · skip
              refine z_aload_n hX 0 dX4_number_96 rfl ?_
              refine z_get (v := .int (nI (skp tau m pl + 1))) hX fX4 0 2 rfl rfl (Nat.le_of_ble_eq_true rfl) fl_X4_19 rfl dX4_number_97 ?_
              refine z_iload_n hX 1 dX4_number_100 rfl ?_
              refine zn_icmp_le (tgt := 108) hX dX4_number_101 (by decide) (by omega) (by omega) (fun c101 => ?_) (fun c101 => ?_)
              · skip
                refine z_iconst (v := (-1)) hX dX4_number_108 (by decide) ?_
                exfalso
                omega
              · skip
                refine z_iload_n hX 2 dX4_number_104 rfl ?_
                refine z_goto (tgt := 109) hX dX4_number_105 (by decide) ?_
                first | exact hR _ (skp tau m pl + 1) _ _ ⟨by rw [e1, ln_s], by rw [e1, if_neg (by omega), e2]⟩ dX4_number_109 rfl | (exfalso; omega)
            · skip
              refine z_aload_n hX 0 dX4_number_89 rfl ?_
              refine z_iload_n hX 1 dX4_number_90 rfl ?_
              refine z_put (v := .int (nI (skp tau m pl))) (ws' := [ob ta 4 [.ref lt, .int (nI m), .int (nI (skp tau m pl))], ca G lt 80 (fN tau)]) hX fX4 0 2 rfl rfl (Nat.le_of_ble_eq_true rfl) fl_X4_19 rfl rfl rfl rfl rfl dX4_number_91 ?_
              refine z_iconst (v := (-1)) hX dX4_number_94 (by decide) ?_
              exfalso
              omega
          · obtain ⟨e1, e2, e3, e4⟩ := num_2 (τ := tau) (m := m) (P := skp tau m pl) (hd 0 (by omega)) (hd 1 (by omega))
            refine z_iload_n hX 2 dX4_number_83 rfl ?_
            refine z_bipush (v := nI 40) hX dX4_number_84 (by decide) ?_
            refine zn_icmp_le (tgt := 96) hX dX4_number_86 (by decide) (by omega) (by omega) (fun c86 => ?_) (fun c86 => ?_)
            · skip
              refine z_aload_n hX 0 dX4_number_96 rfl ?_
              refine z_get (v := .int (nI (skp tau m pl + 2))) hX fX4 0 2 rfl rfl (Nat.le_of_ble_eq_true rfl) fl_X4_19 rfl dX4_number_97 ?_
              refine z_iload_n hX 1 dX4_number_100 rfl ?_
              refine zn_icmp_le (tgt := 108) hX dX4_number_101 (by decide) (by omega) (by omega) (fun c101 => ?_) (fun c101 => ?_)
              · skip
                refine z_iconst (v := (-1)) hX dX4_number_108 (by decide) ?_
                exfalso
                omega
              · skip
                refine z_iload_n hX 2 dX4_number_104 rfl ?_
                refine z_goto (tgt := 109) hX dX4_number_105 (by decide) ?_
                first | exact hR _ (skp tau m pl + 2) _ _ ⟨by rw [e1 (by omega), ln_s], by rw [e1 (by omega), if_neg (by omega), e3]⟩ dX4_number_109 rfl | (exfalso; omega)
            · skip
              refine z_aload_n hX 0 dX4_number_89 rfl ?_
              refine z_iload_n hX 1 dX4_number_90 rfl ?_
              refine z_put (v := .int (nI (skp tau m pl))) (ws' := [ob ta 4 [.ref lt, .int (nI m), .int (nI (skp tau m pl))], ca G lt 80 (fN tau)]) hX fX4 0 2 rfl rfl (Nat.le_of_ble_eq_true rfl) fl_X4_19 rfl rfl rfl rfl rfl dX4_number_91 ?_
              refine z_iconst (v := (-1)) hX dX4_number_94 (by decide) ?_
              first | exact hR _ (skp tau m pl) _ _ ⟨by rw [e2 (by omega)]; rfl, by rw [if_pos (e2 (by omega))]⟩ dX4_number_95 rfl | (exfalso; omega)
        · skip
          refine z_aload_n hX 0 dX4_number_33 rfl ?_
          refine z_get (v := .ref lt) hX fX4 0 0 rfl rfl (Nat.le_of_ble_eq_true rfl) fl_X4_9 rfl dX4_number_34 ?_
          refine z_aload_n hX 0 dX4_number_37 rfl ?_
          refine z_get (v := .int (nI (skp tau m pl + k))) hX fX4 0 2 rfl rfl (Nat.le_of_ble_eq_true rfl) fl_X4_19 rfl dX4_number_38 ?_
          have q1 := h0 (skp tau m pl + k) (by omega)
          refine z_cald (v := (nI (tau (skp tau m pl + k)))) hX 1 (j := (skp tau m pl + k)) rfl (by omega) (by decide) rfl dX4_number_41 ?_
          refine z_bipush (v := nI 48) hX dX4_number_42 (by decide) ?_
          refine z_bipush (v := nI 57) hX dX4_number_44 (by decide) ?_
          refine z_callNi (st := []) hX (c_X6_isWithin _ G (tau (skp tau m pl + k)) 48 57 (by omega) (by omega) (by omega)) lb_X6_isWithin (fun U h9 => h9.1) (fun (_u : Unit) => [ob ta 4 [.ref lt, .int (nI m), .int (nI (skp tau m pl + k))], ca G lt 80 (fN tau)]) (wr := [ob ta 4 [.ref lt, .int (nI m), .int (nI (skp tau m pl + k))], ca G lt 80 (fN tau)]) [] [0, 1] [0, 1] ⟨rfl, rfl, rfl, fun _ => rfl⟩ rfl rfl ⟨Nat.le_refl _, Nat.le_refl _⟩ dX4_number_46 rfl (fun r46 u46 hw46 => ?_)
          try dsimp only at hw46
          rcases Classical.em (48 ≤ (tau (skp tau m pl + k)) ∧ (tau (skp tau m pl + k)) ≤ 57) with b46 | b46
          · obtain rfl := hw46.1 b46
            refine zn_if_eq (tgt := 83) hX dX4_number_49 (by decide) (by omega) (fun c49 => absurd c49 (by omega)) (fun _ => ?_)
            refine z_bipush (v := nI 10) hX dX4_number_52 (by decide) ?_
            refine z_iload_n hX 2 dX4_number_54 rfl ?_
            refine z_imul (v := (nI (10 * numK tau (skp tau m pl) k))) hX dX4_number_55 (pk_mul _ _) ?_
            refine z_aload_n hX 0 dX4_number_56 rfl ?_
            refine z_get (v := .ref lt) hX fX4 0 0 rfl rfl (Nat.le_of_ble_eq_true rfl) fl_X4_9 rfl dX4_number_57 ?_
            refine z_aload_n hX 0 dX4_number_60 rfl ?_
            refine z_get (v := .int (nI (skp tau m pl + k))) hX fX4 0 2 rfl rfl (Nat.le_of_ble_eq_true rfl) fl_X4_19 rfl dX4_number_61 ?_
            refine z_cald (v := (nI (tau (skp tau m pl + k)))) hX 1 (j := (skp tau m pl + k)) rfl (by omega) (by decide) rfl dX4_number_64 ?_
            refine z_bipush (v := nI 48) hX dX4_number_65 (by decide) ?_
            refine z_isub (v := (nI ((tau (skp tau m pl + k)) - 48))) hX dX4_number_67 (pk_sub (by omega)) ?_
            refine z_iadd (v := (nI (numK tau (skp tau m pl) (k + 1)))) hX dX4_number_68 (by rw [numK_s (by omega), ← nI_add]) ?_
            refine z_istore_n (L' := [(2, .int (nI (numK tau (skp tau m pl) (k + 1)))), (0, .ref ta), (1, .int (nI (skp tau m pl)))]) hX dX4_number_69 (Nat.le_of_ble_eq_true rfl) rfl ?_
            refine z_aload_n hX 1 dX4_number_70 rfl ?_
            refine z_dup hX dX4_number_71 rfl ?_
            refine z_get (v := .int (nI (skp tau m pl + k))) hX fX4 0 2 rfl rfl (Nat.le_of_ble_eq_true rfl) fl_X4_19 rfl dX4_number_72 ?_
            refine z_iconst (v := nI 1) hX dX4_number_75 (by decide) ?_
            refine z_iadd (v := (nI (skp tau m pl + k + 1))) hX dX4_number_76 (nI_add _ _) ?_
            refine z_put (v := .int (nI (skp tau m pl + k + 1))) (ws' := [ob ta 4 [.ref lt, .int (nI m), .int (nI (skp tau m pl + k + 1))], ca G lt 80 (fN tau)]) hX fX4 0 2 rfl rfl (Nat.le_of_ble_eq_true rfl) fl_X4_19 rfl rfl rfl rfl rfl dX4_number_77 ?_
            refine z_goto (tgt := 12) hX dX4_number_80 (by decide) ?_
            refine z_lsub [1, 2, 0] rfl ?_
            exact ih12 (k + 1) (by omega) (by omega) (fun i9 h9 => by
                  by_cases e9 : i9 = k
                  · rw [e9, dg_t]; exact ⟨by omega, b46⟩
                  · exact hd i9 (by omega))
          · obtain rfl := hw46.2 b46
            refine zn_if_eq (tgt := 83) hX dX4_number_49 (by decide) (by omega) (fun _ => ?_) (fun c49 => absurd c49 (by omega))
            have hx : ¬ (k < 2 ∧ dg tau m (skp tau m pl + k) = true) := by
              rintro ⟨z1, z2⟩
              rw [dg_t] at z2
              omega
            rcases (show k = 0 ∨ k = 1 ∨ k = 2 by omega) with rfl | rfl | rfl
            · obtain ⟨e1, e2⟩ := num_0 (τ := tau) (m := m) (P := skp tau m pl) (fun z => hx ⟨by omega, z⟩)
              have e3 : numK tau (skp tau m pl) 0 = 0 := rfl
              refine z_iload_n hX 2 dX4_number_83 rfl ?_
              refine z_bipush (v := nI 40) hX dX4_number_84 (by decide) ?_
              refine zn_icmp_le (tgt := 96) hX dX4_number_86 (by decide) (by omega) (by omega) (fun c86 => ?_) (fun c86 => ?_)
              · skip
                refine z_aload_n hX 0 dX4_number_96 rfl ?_
                refine z_get (v := .int (nI (skp tau m pl + 0))) hX fX4 0 2 rfl rfl (Nat.le_of_ble_eq_true rfl) fl_X4_19 rfl dX4_number_97 ?_
                refine z_iload_n hX 1 dX4_number_100 rfl ?_
                refine zn_icmp_le (tgt := 108) hX dX4_number_101 (by decide) (by omega) (by omega) (fun c101 => ?_) (fun c101 => ?_)
                · skip
                  refine z_iconst (v := (-1)) hX dX4_number_108 (by decide) ?_
                  first | exact hR _ (skp tau m pl + 0) _ _ ⟨by rw [e1]; rfl, by rw [if_pos e1]; rfl⟩ dX4_number_109 rfl | (exfalso; omega)
                · skip
                  refine z_iload_n hX 2 dX4_number_104 rfl ?_
                  refine z_goto (tgt := 109) hX dX4_number_105 (by decide) ?_
                  exfalso
                  omega
              · skip
                refine z_aload_n hX 0 dX4_number_89 rfl ?_
                refine z_iload_n hX 1 dX4_number_90 rfl ?_
                refine z_put (v := .int (nI (skp tau m pl))) (ws' := [ob ta 4 [.ref lt, .int (nI m), .int (nI (skp tau m pl))], ca G lt 80 (fN tau)]) hX fX4 0 2 rfl rfl (Nat.le_of_ble_eq_true rfl) fl_X4_19 rfl rfl rfl rfl rfl dX4_number_91 ?_
                refine z_iconst (v := (-1)) hX dX4_number_94 (by decide) ?_
                first | exact hR _ (skp tau m pl) _ _ ⟨by rw [e1]; rfl, by rw [if_pos e1]; rfl⟩ dX4_number_95 rfl | (exfalso; omega)
            · obtain ⟨e1, e2, e3⟩ := num_1 (τ := tau) (m := m) (P := skp tau m pl) (hd 0 (by omega)) (fun z => hx ⟨by omega, z⟩)
              refine z_iload_n hX 2 dX4_number_83 rfl ?_
              refine z_bipush (v := nI 40) hX dX4_number_84 (by decide) ?_
              refine zn_icmp_le (tgt := 96) hX dX4_number_86 (by decide) (by omega) (by omega) (fun c86 => ?_) (fun c86 => ?_)
              · skip
                refine z_aload_n hX 0 dX4_number_96 rfl ?_
                refine z_get (v := .int (nI (skp tau m pl + 1))) hX fX4 0 2 rfl rfl (Nat.le_of_ble_eq_true rfl) fl_X4_19 rfl dX4_number_97 ?_
                refine z_iload_n hX 1 dX4_number_100 rfl ?_
                refine zn_icmp_le (tgt := 108) hX dX4_number_101 (by decide) (by omega) (by omega) (fun c101 => ?_) (fun c101 => ?_)
                · skip
                  refine z_iconst (v := (-1)) hX dX4_number_108 (by decide) ?_
                  exfalso
                  omega
                · skip
                  refine z_iload_n hX 2 dX4_number_104 rfl ?_
                  refine z_goto (tgt := 109) hX dX4_number_105 (by decide) ?_
                  first | exact hR _ (skp tau m pl + 1) _ _ ⟨by rw [e1, ln_s], by rw [e1, if_neg (by omega), e2]⟩ dX4_number_109 rfl | (exfalso; omega)
              · skip
                refine z_aload_n hX 0 dX4_number_89 rfl ?_
                refine z_iload_n hX 1 dX4_number_90 rfl ?_
                refine z_put (v := .int (nI (skp tau m pl))) (ws' := [ob ta 4 [.ref lt, .int (nI m), .int (nI (skp tau m pl))], ca G lt 80 (fN tau)]) hX fX4 0 2 rfl rfl (Nat.le_of_ble_eq_true rfl) fl_X4_19 rfl rfl rfl rfl rfl dX4_number_91 ?_
                refine z_iconst (v := (-1)) hX dX4_number_94 (by decide) ?_
                exfalso
                omega
            · obtain ⟨e1, e2, e3, e4⟩ := num_2 (τ := tau) (m := m) (P := skp tau m pl) (hd 0 (by omega)) (hd 1 (by omega))
              refine z_iload_n hX 2 dX4_number_83 rfl ?_
              refine z_bipush (v := nI 40) hX dX4_number_84 (by decide) ?_
              refine zn_icmp_le (tgt := 96) hX dX4_number_86 (by decide) (by omega) (by omega) (fun c86 => ?_) (fun c86 => ?_)
              · skip
                refine z_aload_n hX 0 dX4_number_96 rfl ?_
                refine z_get (v := .int (nI (skp tau m pl + 2))) hX fX4 0 2 rfl rfl (Nat.le_of_ble_eq_true rfl) fl_X4_19 rfl dX4_number_97 ?_
                refine z_iload_n hX 1 dX4_number_100 rfl ?_
                refine zn_icmp_le (tgt := 108) hX dX4_number_101 (by decide) (by omega) (by omega) (fun c101 => ?_) (fun c101 => ?_)
                · skip
                  refine z_iconst (v := (-1)) hX dX4_number_108 (by decide) ?_
                  exfalso
                  omega
                · skip
                  refine z_iload_n hX 2 dX4_number_104 rfl ?_
                  refine z_goto (tgt := 109) hX dX4_number_105 (by decide) ?_
                  first | exact hR _ (skp tau m pl + 2) _ _ ⟨by rw [e1 (by omega), ln_s], by rw [e1 (by omega), if_neg (by omega), e3]⟩ dX4_number_109 rfl | (exfalso; omega)
              · skip
                refine z_aload_n hX 0 dX4_number_89 rfl ?_
                refine z_iload_n hX 1 dX4_number_90 rfl ?_
                refine z_put (v := .int (nI (skp tau m pl))) (ws' := [ob ta 4 [.ref lt, .int (nI m), .int (nI (skp tau m pl))], ca G lt 80 (fN tau)]) hX fX4 0 2 rfl rfl (Nat.le_of_ble_eq_true rfl) fl_X4_19 rfl rfl rfl rfl rfl dX4_number_91 ?_
                refine z_iconst (v := (-1)) hX dX4_number_94 (by decide) ?_
                first | exact hR _ (skp tau m pl) _ _ ⟨by rw [e2 (by omega)]; rfl, by rw [if_pos (e2 (by omega))]⟩ dX4_number_95 rfl | (exfalso; omega)
  refine z_lsub [2, 1, 0] rfl ?_
  exact lp12 3 0 (by omega) (by omega) (fun i9 h9 => absurd h9 (by omega))
theorem or_pow0 (L k : Nat) : ¬ L ||| 2 ^ k = 0 := by
  have h1 : 2 ^ k ≤ L ||| 2 ^ k := Nat.right_le_or
  have h2 := Nat.two_pow_pos k
  omega
theorem ris_t {τ : nst} {m k P L : Nat} (hk : k < 6) (hc : chr τ m P = 97 + k) : ris τ m (6 - k) P L = ris τ m (6 - (k + 1)) (skp τ m (P + 1)) (L ||| 2 ^ k) := by
  rw [show 6 - k = (6 - (k + 1)) + 1 by omega, ris, if_pos (by omega), show 5 - (6 - (k + 1)) = k by omega]
theorem ris_f {τ : nst} {m k P L : Nat} (hk : k < 6) (hc : ¬ chr τ m P = 97 + k) : ris τ m (6 - k) P L = ris τ m (6 - (k + 1)) P L := by
  rw [show 6 - k = (6 - (k + 1)) + 1 by omega, ris, if_neg (by omega)]
set_option maxRecDepth 100000 in
set_option maxHeartbeats 4000000 in
theorem c_X4_risingLooks (l : Launch) (G : zG) (ta : Nat) (lt : Nat) (m : Nat) (pl : Nat) (tau : nst) (h0 : ∀ j, j < m → 32 ≤ tau j ∧ tau j ≤ 126) (h1 : m ≤ 80) (h2 : pl ≤ 80) : zMi l G yX4_risingLooks cX4_risingLooks 3 .int 2 0 0 41 [.ref ta] [ob ta 4 [.ref lt, .int (nI m), .int (nI pl)], ca G lt 80 (fN tau)] (fun (r : Int32) (_u : Nat) => r = nI (ris tau m 6 (skp tau m pl) 0).2 ∧ skp tau m _u = (ris tau m 6 (skp tau m pl) 0).1 ∧ ((ris tau m 6 (skp tau m pl) 0).2 = 0 → _u = (ris tau m 6 (skp tau m pl) 0).1)) (fun (_u : Nat) => [ob ta 4 [.ref lt, .int (nI m), .int (nI _u)], ca G lt 80 (fN tau)]) := by
  refine zMi.of (by decide) rfl (fun X A H0 hX hXl hR => ?_)
  show Z (X, G, A, H0, 3) 0 0 [ob ta 4 [.ref lt, .int (nI m), .int (nI pl)], ca G lt 80 (fN tau)] 0 [(0, .ref ta)] []
  subst hXl
  refine z_iconst (v := nI 0) hX dX4_risingLooks_0 (by decide) ?_
  refine z_istore_n (L' := [(1, .int (nI 0)), (0, .ref ta)]) hX dX4_risingLooks_1 (Nat.le_of_ble_eq_true rfl) rfl ?_
  refine z_iconst (v := nI 0) hX dX4_risingLooks_2 (by decide) ?_
  refine z_istore_n (L' := [(2, .int (nI 0)), (1, .int (nI 0)), (0, .ref ta)]) hX dX4_risingLooks_3 (Nat.le_of_ble_eq_true rfl) rfl ?_
  have lp4 : ∀ (n4 : Nat) (k : Nat) (p : Nat) (L : Nat), (6 + 1 ≤ k + n4) → (k ≤ 6) → (p ≤ 80) → (L < 64) → (L = 0 → 0 < k → skp tau m p = p) → (ris tau m (6 - k) (skp tau m p) L = ris tau m 6 (skp tau m pl) 0) → Z (X, G, A, H0, 3) 0 0 [ob ta 4 [.ref lt, .int (nI m), .int (nI p)], ca G lt 80 (fN tau)] 4 [(0, .ref ta), (1, .int (nI L)), (2, .int (nI k))] [] := by
    intro n4
    induction n4 with
    | zero =>
      intro k p L hn hk hp hL hz hr
      exfalso
      omega
    | succ n4 ih4 =>
      intro k p L hn hk hp hL hz hr
      have k3 := chr_hi h0 (skp tau m p)
      have k4 := skp_hi (τ := tau) (p := p) h1 hp
      refine z_iload_n hX 2 dX4_risingLooks_4 rfl ?_
      refine z_bipush (v := nI 6) hX dX4_risingLooks_5 (by decide) ?_
      refine zn_icmp_ge (tgt := 34) hX dX4_risingLooks_7 (by decide) (by omega) (by omega) (fun c7 => ?_) (fun c7 => ?_)
      · skip
        refine z_iload_n hX 1 dX4_risingLooks_34 rfl ?_
        have ek : k = 6 := by omega
        subst ek
        rw [show 6 - 6 = 0 from rfl, ris] at hr
        rw [← hr] at hR
        exact hR _ p _ _ ⟨rfl, rfl, fun z9 => (hz z9 (by omega)).symm⟩ dX4_risingLooks_35 rfl
      · skip
        refine z_aload_n hX 0 dX4_risingLooks_10 rfl ?_
        refine z_bipush (v := nI 97) hX dX4_risingLooks_11 (by decide) ?_
        refine z_iload_n hX 2 dX4_risingLooks_13 rfl ?_
        refine z_iadd (v := (nI (97 + k))) hX dX4_risingLooks_14 (nI_add _ _) ?_
        refine z_i2c (v := (nI (97 + k))) hX dX4_risingLooks_15 (i2c_nI (by omega)) ?_
        refine z_callVi (st := []) hX (c_X4_passes _ G ta lt m p tau (97 + k) h0 h1 hp (by omega) (by omega)) lb_X4_passes ml_X4_40 (fun (_u : Nat) => [ob ta 4 [.ref lt, .int (nI m), .int (nI _u)], ca G lt 80 (fN tau)]) (wr := []) [0, 1] [] [0, 1] ⟨rfl, rfl, rfl, fun _ => rfl⟩ 0 rfl rfl rfl rfl ⟨Nat.le_refl _, Nat.le_refl _⟩ dX4_risingLooks_16 rfl (fun r16 u16 hw16 => ?_)
        obtain ⟨p2_1, rfl⟩ : ∃ z9, z9 = u16 := ⟨_, rfl⟩
        obtain ⟨hw16, hw16x⟩ := hw16
        try dsimp only at hw16
        rcases Classical.em (chr tau m (skp tau m p) = (97 + k)) with b16 | b16
        · obtain rfl := hw16.1 b16
          have ep16 := hw16x.1 b16
          subst ep16
          have lt16 : skp tau m p < m := chr_lt (τ := tau) (by omega)
          refine zn_if_eq (tgt := 28) hX dX4_risingLooks_19 (by decide) (by omega) (fun c19 => absurd c19 (by omega)) (fun _ => ?_)
          refine z_iload_n hX 1 dX4_risingLooks_22 rfl ?_
          refine z_iconst (v := nI 1) hX dX4_risingLooks_23 (by decide) ?_
          refine z_iload_n hX 2 dX4_risingLooks_24 rfl ?_
          refine z_ishl (v := (nI (2 ^ k))) hX dX4_risingLooks_25 (shl_nI _ (by omega)) ?_
          refine z_ior (v := (nI (L ||| (2 ^ k)))) hX dX4_risingLooks_26 (or_nI _ _) ?_
          refine z_istore_n (L' := [(1, .int (nI (L ||| (2 ^ k)))), (0, .ref ta), (2, .int (nI k))]) hX dX4_risingLooks_27 (Nat.le_of_ble_eq_true rfl) rfl ?_
          refine z_iinc (v := (nI (k + 1))) (L' := [(2, .int (nI (k + 1))), (1, .int (nI (L ||| (2 ^ k)))), (0, .ref ta)]) hX 2 dX4_risingLooks_28 rfl (nI_inc _) (Nat.le_of_ble_eq_true rfl) rfl ?_
          refine z_goto (tgt := 4) hX dX4_risingLooks_31 (by decide) ?_
          refine z_lsub [2, 1, 0] rfl ?_
          exact ih4 (k + 1) (skp tau m p + 1) (L ||| (2 ^ k)) (by omega) (by omega) (by omega) (Nat.or_lt_two_pow (n := 6) hL (Nat.pow_lt_pow_right (by omega) (by omega))) (fun z9 => absurd z9 (or_pow0 L k)) (by rw [← ris_t (by omega) b16]; exact hr)
        · obtain rfl := hw16.2 b16
          have ep16 := hw16x.2 b16
          subst ep16
          refine zn_if_eq (tgt := 28) hX dX4_risingLooks_19 (by decide) (by omega) (fun _ => ?_) (fun c19 => absurd c19 (by omega))
          refine z_iinc (v := (nI (k + 1))) (L' := [(2, .int (nI (k + 1))), (0, .ref ta), (1, .int (nI L))]) hX 2 dX4_risingLooks_28 rfl (nI_inc _) (Nat.le_of_ble_eq_true rfl) rfl ?_
          refine z_goto (tgt := 4) hX dX4_risingLooks_31 (by decide) ?_
          refine z_lsub [1, 2, 0] rfl ?_
          exact ih4 (k + 1) (skp tau m p) L (by omega) (by omega) (by omega) hL (fun _ _ => skp_id _ _ _) (by rw [skp_id, ← ris_f (by omega) b16]; exact hr)
  refine z_lsub [2, 1, 0] rfl ?_
  exact lp4 7 0 pl 0 (by omega) (by omega) h2 (by omega) (fun _ z9 => absurd z9 (by omega)) rfl
theorem numE_80 {τ : nst} {m P k : Nat} (h : m ≤ k) (h2 : P ≤ k) : numE τ m P ≤ k := by
  unfold numE
  split
  · rename_i c
    rw [dg_t] at c
    split
    · rename_i c2
      rw [dg_t] at c2
      omega
    · omega
  · omega
set_option maxRecDepth 100000 in
set_option maxHeartbeats 4000000 in
theorem c_X4_readsHeaps (l : Launch) (G : zG) (ta : Nat) (lt : Nat) (m : Nat) (tau : nst) (mo : Nat) (mh : Nat) (t : nst) (h0 : ∀ j, j < m → 32 ≤ tau j ∧ tau j ≤ 126) (h1 : m ≤ 80) : zMi l G yX4_readsHeaps cX4_readsHeaps 4 .boolean 2 0 0 44 [.ref ta, .ref mo] [ob ta 4 [.ref lt, .int (nI m), .int (nI 0)], ca G lt 80 (fN tau), ob mo 2 (mf mh t), ia G mh 4 (fN (sh 7 t))] (fun (r : Int32) (_u : Nat × nst) => (zb ((hpS tau m 4).1 = 1) r) ∧ ((hpS tau m 4).1 = 1 → skp tau m _u.1 = (hpS tau m 4).2.1 ∧ ∀ j, j < 4 → _u.2 (7 + j) = (hpS tau m 4).2.2 j) ∧ (¬ (hpS tau m 4).1 = 1 → _u.1 = (hpS tau m 4).2.1) ∧ ∀ j, j < 7 ∨ 11 ≤ j → _u.2 j = t j) (fun (_u : Nat × nst) => [ob ta 4 [.ref lt, .int (nI m), .int (nI _u.1)], ca G lt 80 (fN tau), ob mo 2 (mf mh _u.2), ia G mh 4 (fN (sh 7 _u.2))]) := by
  refine zMi.of (by decide) rfl (fun X A H0 hX hXl hR => ?_)
  show Z (X, G, A, H0, 4) 0 0 [ob ta 4 [.ref lt, .int (nI m), .int (nI 0)], ca G lt 80 (fN tau), ob mo 2 (mf mh t), ia G mh 4 (fN (sh 7 t))] 0 [(0, .ref ta), (1, .ref mo)] []
  subst hXl
  refine z_iconst (v := nI 0) hX dX4_readsHeaps_0 (by decide) ?_
  refine z_istore_n (L' := [(2, .int (nI 0)), (0, .ref ta), (1, .ref mo)]) hX dX4_readsHeaps_1 (Nat.le_of_ble_eq_true rfl) rfl ?_
  have lp2 : ∀ (n2 : Nat) (i : Nat) (p : Nat) (tt : nst) (sg : nst), (4 + 1 ≤ i + n2) → (i ≤ 4) → (p ≤ 80) → (hpS tau m i = (1, skp tau m p, sg)) → (∀ j, j < i → tt (7 + j) = sg j) → (∀ j, j < 7 ∨ 11 ≤ j → tt j = t j) → Z (X, G, A, H0, 4) 0 0 [ob ta 4 [.ref lt, .int (nI m), .int (nI p)], ca G lt 80 (fN tau), ob mo 2 (mf mh tt), ia G mh 4 (fN (sh 7 tt))] 2 [(0, .ref ta), (1, .ref mo), (2, .int (nI i))] [] := by
    intro n2
    induction n2 with
    | zero =>
      intro i p tt sg hn hi hp hH ht hk
      exfalso
      omega
    | succ n2 ih2 =>
      intro i p tt sg hn hi hp hH ht hk
      have k3 := chr_hi h0 (skp tau m p)
      have k4 := skp_hi (τ := tau) (p := p) h1 hp
      refine z_iload_n hX 2 dX4_readsHeaps_2 rfl ?_
      refine z_iconst (v := nI 4) hX dX4_readsHeaps_3 (by decide) ?_
      refine zn_icmp_ge (tgt := 46) hX dX4_readsHeaps_4 (by decide) (by omega) (by omega) (fun c4 => ?_) (fun c4 => ?_)
      · skip
        refine z_iconst (v := nI 1) hX dX4_readsHeaps_46 (by decide) ?_
        have ei : i = 4 := by omega
        subst ei
        rw [hH] at hR
        exact hR _ (p, tt) _ _ ⟨⟨fun _ => rfl, fun z9 => absurd rfl z9⟩, fun _ => ⟨rfl, ht⟩, fun z9 => absurd rfl z9, hk⟩ dX4_readsHeaps_47 rfl
      · skip
        refine z_iload_n hX 2 dX4_readsHeaps_7 rfl ?_
        refine zn_if_le (tgt := 22) hX dX4_readsHeaps_8 (by decide) (by omega) (fun c8 => ?_) (fun c8 => ?_)
        · skip
          refine z_aload_n hX 0 dX4_readsHeaps_22 rfl ?_
          refine z_callVi (st := []) hX (c_X4_number _ G ta lt m p tau h0 h1 (by omega)) lb_X4_number ml_X4_56 (fun (_u : Nat) => [ob ta 4 [.ref lt, .int (nI m), .int (nI _u)], ca G lt 80 (fN tau), ob mo 2 (mf mh tt), ia G mh 4 (fN (sh 7 tt))]) (wr := [ob mo 2 (mf mh tt), ia G mh 4 (fN (sh 7 tt))]) [0, 1] [2, 3] [2, 3, 0, 1] ⟨rfl, rfl, rfl, fun _ => rfl⟩ 0 rfl rfl rfl rfl ⟨Nat.le_refl _, Nat.le_refl _⟩ dX4_readsHeaps_23 rfl (fun r23 u23 hw23 => ?_)
          obtain ⟨p2_1, rfl⟩ : ∃ z9, z9 = u23 := ⟨_, rfl⟩
          obtain ⟨e1, e2⟩ := hw23
          have k5 := skp_hi (τ := tau) (m := m) (p := p) (k := 80) h1 (by omega)
          have k6 := numV_hi tau m (skp tau m p)
          rcases Nat.eq_zero_or_pos (numV tau m (skp tau m p)) with n9 | n9
          · obtain rfl : r23 = -1 := by rw [e1, n9]; rfl
            rw [if_pos n9] at e2
            subst e2
            refine z_istore_n (L' := [(3, .int (-1)), (0, .ref ta), (1, .ref mo), (2, .int (nI i))]) hX dX4_readsHeaps_26 (Nat.le_of_ble_eq_true rfl) rfl ?_
            refine z_iload_n hX 0 dX4_readsHeaps_27 rfl ?_
            refine z_if_ge (tgt := 33) hX dX4_readsHeaps_28 (by decide) (fun c28 => absurd c28 (by decide)) (fun c28 => ?_)
            refine z_iconst (v := nI 0) hX dX4_readsHeaps_31 (by decide) ?_
            have e5 := hpS_bad hH (Or.inl (by omega)) (by rw [if_pos (show i = 0 by omega)]) n9
            have e6 := hpS_stay (τ := tau) (m := m) (i := i + 1) (by rw [e5]) (3 - i)
            rw [show i + 1 + (3 - i) = 4 by omega, e5] at e6
            rw [e6] at hR
            exact hR _ ((skp tau m p), tt) _ _ ⟨⟨fun z9 => absurd (show (0 : Nat) = 1 from z9) (by decide), fun _ => rfl⟩, fun z9 => absurd (show (0 : Nat) = 1 from z9) (by decide), fun _ => rfl, hk⟩ dX4_readsHeaps_32 rfl
          · obtain rfl : r23 = nI (numV tau m (skp tau m p) - 1) := by rw [e1]; unfold ln; rw [if_neg (by omega)]
            rw [if_neg (by omega)] at e2
            subst e2
            have k7 := numE_80 (τ := tau) (P := skp tau m p) h1 k5
            refine z_istore_n (L' := [(3, .int (nI (numV tau m (skp tau m p) - 1))), (0, .ref ta), (1, .ref mo), (2, .int (nI i))]) hX dX4_readsHeaps_26 (Nat.le_of_ble_eq_true rfl) rfl ?_
            refine z_iload_n hX 0 dX4_readsHeaps_27 rfl ?_
            refine zn_if_ge (tgt := 33) hX dX4_readsHeaps_28 (by decide) (by omega) (fun _ => ?_) (fun c28 => absurd c28 (by omega))
            refine z_aload_n hX 2 dX4_readsHeaps_33 rfl ?_
            refine z_get (v := .ref mh) hX fX2 2 0 rfl rfl (Nat.le_of_ble_eq_true rfl) fl_X4_59 rfl dX4_readsHeaps_34 ?_
            refine z_iload_n hX 3 dX4_readsHeaps_37 rfl ?_
            refine z_iload_n hX 0 dX4_readsHeaps_38 rfl ?_
            refine z_iastM (j := i) (v := numV tau m (skp tau m p) - 1) (ws' := [ob ta 4 [.ref lt, .int (nI m), .int (nI (numE tau m (skp tau m p)))], ca G lt 80 (fN tau), ob mo 2 (mf mh (va_up tt (7 + i) (numV tau m (skp tau m p) - 1))), ia G mh 4 (fN (sh 7 (va_up tt (7 + i) (numV tau m (skp tau m p) - 1))))]) hX 2 3 rfl rfl (by omega) rfl rfl dX4_readsHeaps_39 ?_
            refine z_iinc (v := (nI (i + 1))) (L' := [(2, .int (nI (i + 1))), (3, .int (nI (numV tau m (skp tau m p) - 1))), (0, .ref ta), (1, .ref mo)]) hX 3 dX4_readsHeaps_40 rfl (nI_inc _) (Nat.le_of_ble_eq_true rfl) rfl ?_
            refine z_goto (tgt := 2) hX dX4_readsHeaps_43 (by decide) ?_
            refine z_lsub [2, 3, 0] rfl ?_
            exact ih2 (i + 1) (numE tau m (skp tau m p)) (va_up tt (7 + i) (numV tau m (skp tau m p) - 1)) (va_up sg i (numV tau m (skp tau m p) - 1)) (by omega) (by omega) (by omega) (hpS_go hH (Or.inl (by omega)) (by rw [if_pos (show i = 0 by omega)]) (by omega)) (fun j9 h9 => by
                  by_cases e9 : j9 = i
                  · subst e9; rw [up_eq, up_eq]
                  · rw [up_ne (by omega), up_ne e9]; exact ht j9 (by omega)) (fun j9 h9 => by rw [up_ne (by omega)]; exact hk j9 h9)
        · skip
          refine z_aload_n hX 0 dX4_readsHeaps_11 rfl ?_
          refine z_bipush (v := nI 44) hX dX4_readsHeaps_12 (by decide) ?_
          refine z_callVi (st := []) hX (c_X4_passes _ G ta lt m p tau 44 h0 h1 hp (by omega) (by omega)) lb_X4_passes ml_X4_40 (fun (_u : Nat) => [ob ta 4 [.ref lt, .int (nI m), .int (nI _u)], ca G lt 80 (fN tau), ob mo 2 (mf mh tt), ia G mh 4 (fN (sh 7 tt))]) (wr := [ob mo 2 (mf mh tt), ia G mh 4 (fN (sh 7 tt))]) [0, 1] [2, 3] [2, 3, 0, 1] ⟨rfl, rfl, rfl, fun _ => rfl⟩ 0 rfl rfl rfl rfl ⟨Nat.le_refl _, Nat.le_refl _⟩ dX4_readsHeaps_14 rfl (fun r14 u14 hw14 => ?_)
          obtain ⟨p2_2, rfl⟩ : ∃ z9, z9 = u14 := ⟨_, rfl⟩
          obtain ⟨hw14, hw14x⟩ := hw14
          try dsimp only at hw14
          rcases Classical.em (chr tau m (skp tau m p) = 44) with b14 | b14
          · obtain rfl := hw14.1 b14
            have ep14 := hw14x.1 b14
            subst ep14
            have lt14 : skp tau m p < m := chr_lt (τ := tau) (by omega)
            refine zn_if_ne (tgt := 22) hX dX4_readsHeaps_17 (by decide) (by omega) (fun _ => ?_) (fun c17 => absurd c17 (by omega))
            refine z_aload_n hX 0 dX4_readsHeaps_22 rfl ?_
            refine z_callVi (st := []) hX (c_X4_number _ G ta lt m (skp tau m p + 1) tau h0 h1 (by omega)) lb_X4_number ml_X4_56 (fun (_u : Nat) => [ob ta 4 [.ref lt, .int (nI m), .int (nI _u)], ca G lt 80 (fN tau), ob mo 2 (mf mh tt), ia G mh 4 (fN (sh 7 tt))]) (wr := [ob mo 2 (mf mh tt), ia G mh 4 (fN (sh 7 tt))]) [0, 1] [2, 3] [2, 3, 0, 1] ⟨rfl, rfl, rfl, fun _ => rfl⟩ 0 rfl rfl rfl rfl ⟨Nat.le_refl _, Nat.le_refl _⟩ dX4_readsHeaps_23 rfl (fun r23 u23 hw23 => ?_)
            obtain ⟨p2_3, rfl⟩ : ∃ z9, z9 = u23 := ⟨_, rfl⟩
            obtain ⟨e1, e2⟩ := hw23
            have k5 := skp_hi (τ := tau) (m := m) (p := (skp tau m p + 1)) (k := 80) h1 (by omega)
            have k6 := numV_hi tau m (skp tau m (skp tau m p + 1))
            rcases Nat.eq_zero_or_pos (numV tau m (skp tau m (skp tau m p + 1))) with n9 | n9
            · obtain rfl : r23 = -1 := by rw [e1, n9]; rfl
              rw [if_pos n9] at e2
              subst e2
              refine z_istore_n (L' := [(3, .int (-1)), (0, .ref ta), (1, .ref mo), (2, .int (nI i))]) hX dX4_readsHeaps_26 (Nat.le_of_ble_eq_true rfl) rfl ?_
              refine z_iload_n hX 0 dX4_readsHeaps_27 rfl ?_
              refine z_if_ge (tgt := 33) hX dX4_readsHeaps_28 (by decide) (fun c28 => absurd c28 (by decide)) (fun c28 => ?_)
              refine z_iconst (v := nI 0) hX dX4_readsHeaps_31 (by decide) ?_
              have e5 := hpS_bad hH (Or.inr b14) (by rw [if_neg (by omega)]) n9
              have e6 := hpS_stay (τ := tau) (m := m) (i := i + 1) (by rw [e5]) (3 - i)
              rw [show i + 1 + (3 - i) = 4 by omega, e5] at e6
              rw [e6] at hR
              exact hR _ ((skp tau m (skp tau m p + 1)), tt) _ _ ⟨⟨fun z9 => absurd (show (0 : Nat) = 1 from z9) (by decide), fun _ => rfl⟩, fun z9 => absurd (show (0 : Nat) = 1 from z9) (by decide), fun _ => rfl, hk⟩ dX4_readsHeaps_32 rfl
            · obtain rfl : r23 = nI (numV tau m (skp tau m (skp tau m p + 1)) - 1) := by rw [e1]; unfold ln; rw [if_neg (by omega)]
              rw [if_neg (by omega)] at e2
              subst e2
              have k7 := numE_80 (τ := tau) (P := skp tau m (skp tau m p + 1)) h1 k5
              refine z_istore_n (L' := [(3, .int (nI (numV tau m (skp tau m (skp tau m p + 1)) - 1))), (0, .ref ta), (1, .ref mo), (2, .int (nI i))]) hX dX4_readsHeaps_26 (Nat.le_of_ble_eq_true rfl) rfl ?_
              refine z_iload_n hX 0 dX4_readsHeaps_27 rfl ?_
              refine zn_if_ge (tgt := 33) hX dX4_readsHeaps_28 (by decide) (by omega) (fun _ => ?_) (fun c28 => absurd c28 (by omega))
              refine z_aload_n hX 2 dX4_readsHeaps_33 rfl ?_
              refine z_get (v := .ref mh) hX fX2 2 0 rfl rfl (Nat.le_of_ble_eq_true rfl) fl_X4_59 rfl dX4_readsHeaps_34 ?_
              refine z_iload_n hX 3 dX4_readsHeaps_37 rfl ?_
              refine z_iload_n hX 0 dX4_readsHeaps_38 rfl ?_
              refine z_iastM (j := i) (v := numV tau m (skp tau m (skp tau m p + 1)) - 1) (ws' := [ob ta 4 [.ref lt, .int (nI m), .int (nI (numE tau m (skp tau m (skp tau m p + 1))))], ca G lt 80 (fN tau), ob mo 2 (mf mh (va_up tt (7 + i) (numV tau m (skp tau m (skp tau m p + 1)) - 1))), ia G mh 4 (fN (sh 7 (va_up tt (7 + i) (numV tau m (skp tau m (skp tau m p + 1)) - 1))))]) hX 2 3 rfl rfl (by omega) rfl rfl dX4_readsHeaps_39 ?_
              refine z_iinc (v := (nI (i + 1))) (L' := [(2, .int (nI (i + 1))), (3, .int (nI (numV tau m (skp tau m (skp tau m p + 1)) - 1))), (0, .ref ta), (1, .ref mo)]) hX 3 dX4_readsHeaps_40 rfl (nI_inc _) (Nat.le_of_ble_eq_true rfl) rfl ?_
              refine z_goto (tgt := 2) hX dX4_readsHeaps_43 (by decide) ?_
              refine z_lsub [2, 3, 0] rfl ?_
              exact ih2 (i + 1) (numE tau m (skp tau m (skp tau m p + 1))) (va_up tt (7 + i) (numV tau m (skp tau m (skp tau m p + 1)) - 1)) (va_up sg i (numV tau m (skp tau m (skp tau m p + 1)) - 1)) (by omega) (by omega) (by omega) (hpS_go hH (Or.inr b14) (by rw [if_neg (by omega)]) (by omega)) (fun j9 h9 => by
                    by_cases e9 : j9 = i
                    · subst e9; rw [up_eq, up_eq]
                    · rw [up_ne (by omega), up_ne e9]; exact ht j9 (by omega)) (fun j9 h9 => by rw [up_ne (by omega)]; exact hk j9 h9)
          · obtain rfl := hw14.2 b14
            have ep14 := hw14x.2 b14
            subst ep14
            refine zn_if_ne (tgt := 22) hX dX4_readsHeaps_17 (by decide) (by omega) (fun c17 => absurd c17 (by omega)) (fun _ => ?_)
            refine z_iconst (v := nI 0) hX dX4_readsHeaps_20 (by decide) ?_
            have e5 := hpS_no hH (by omega) b14
            have e6 := hpS_stay (τ := tau) (m := m) (i := i + 1) (by rw [e5]) (3 - i)
            rw [show i + 1 + (3 - i) = 4 by omega, e5] at e6
            rw [e6] at hR
            exact hR _ ((skp tau m p), tt) _ _ ⟨⟨fun z9 => absurd (show (0 : Nat) = 1 from z9) (by decide), fun _ => rfl⟩, fun z9 => absurd (show (0 : Nat) = 1 from z9) (by decide), fun _ => rfl, hk⟩ dX4_readsHeaps_21 rfl
  refine z_lsub [1, 2, 0] rfl ?_
  exact lp2 5 0 0 t (fun _ => 0) (by omega) (by omega) (by omega) rfl (fun j9 h9 => absurd h9 (by omega)) (fun _ _ => rfl)
