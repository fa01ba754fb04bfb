set_option maxRecDepth 100000 in
set_option maxHeartbeats 4000000 in
theorem c_X7_here (l : Launch) (G : zG) (x : Nat) (ad : Nat → Nat) (v : Nat → Nat) (tau : nst) (p : Nat) (f : Nat) (h0 : ∀ j, j < (v 3) → 32 ≤ tau j ∧ tau j ≤ 126) (h1 : (v 3) ≤ 80) (h2 : p ≤ 80) : zMi l G yX7_here cX7_here 1 .int 0 0 0 0 [.ref x] [ob x 7 (rf ad (va_up (va_up v 4 p) 5 f)), ia G (ad 2) 80 (fN tau)] (fun (r : Int32) (_u : Unit) => r = nI (chr tau (v 3) (skp tau (v 3) p))) (fun (_u : Unit) => [ob x 7 (rf ad (va_up (va_up v 4 (skp tau (v 3) p)) 5 f)), ia G (ad 2) 80 (fN tau)]) := by
  refine zMi.of (by decide) rfl (fun X A H0 hX hXl hR => ?_)
  show Z (X, G, A, H0, 1) 0 0 [ob x 7 (rf ad (va_up (va_up v 4 p) 5 f)), ia G (ad 2) 80 (fN tau)] 0 [(0, .ref x)] []
  subst hXl
  have lp0 : ∀ (n0 : Nat) (q : Nat), (80 + 1 ≤ q + n0) → (q ≤ 80) → (skp tau (v 3) q = skp tau (v 3) p) → Z (X, G, A, H0, 1) 0 0 [ob x 7 (rf ad (va_up (va_up v 4 q) 5 f)), ia G (ad 2) 80 (fN tau)] 0 [(0, .ref x)] [] := by
    intro n0
    induction n0 with
    | zero =>
      intro q hn hq hs
      exfalso
      omega
    | succ n0 ih0 =>
      intro q hn hq hs
      refine z_aload_n hX 0 dX7_here_0 rfl ?_
      refine z_get (v := .int (nI q)) hX fX7 0 4 rfl rfl (Nat.le_of_ble_eq_true rfl) fl_X7_116 rfl dX7_here_1 ?_
      refine z_aload_n hX 0 dX7_here_4 rfl ?_
      refine z_get (v := .int (nI (v 3))) hX fX7 0 3 rfl rfl (Nat.le_of_ble_eq_true rfl) fl_X7_113 rfl dX7_here_5 ?_
      refine zn_icmp_ge (tgt := 38) hX dX7_here_8 (by decide) (by omega) (by omega) (fun c8 => ?_) (fun c8 => ?_)
      · skip
        have es : q = skp tau (v 3) p := by
          rw [← hs]
          first | rw [skp_end (by omega)] | rw [skp_ne c22]
        subst es
        refine z_aload_n hX 0 dX7_here_38 rfl ?_
        refine z_get (v := .int (nI (skp tau (v 3) p))) hX fX7 0 4 rfl rfl (Nat.le_of_ble_eq_true rfl) fl_X7_116 rfl dX7_here_39 ?_
        refine z_aload_n hX 0 dX7_here_42 rfl ?_
        refine z_get (v := .int (nI (v 3))) hX fX7 0 3 rfl rfl (Nat.le_of_ble_eq_true rfl) fl_X7_113 rfl dX7_here_43 ?_
        refine zn_icmp_ge (tgt := 61) hX dX7_here_46 (by decide) (by omega) (by omega) (fun c46 => ?_) (fun c46 => ?_)
        · skip
          refine z_iconst (v := nI 0) hX dX7_here_61 (by decide) ?_
          exact hR _ () _ _ (by rw [chr_out (by omega)]) dX7_here_62 rfl
        · skip
          refine z_aload_n hX 0 dX7_here_49 rfl ?_
          refine z_get (v := .ref (ad 2)) hX fX7 0 2 rfl rfl (Nat.le_of_ble_eq_true rfl) fl_X7_13 rfl dX7_here_50 ?_
          refine z_aload_n hX 0 dX7_here_53 rfl ?_
          refine z_get (v := .int (nI (skp tau (v 3) p))) hX fX7 0 4 rfl rfl (Nat.le_of_ble_eq_true rfl) fl_X7_116 rfl dX7_here_54 ?_
          have q2 := h0 (skp tau (v 3) p) (by omega)
          refine z_iald (v := (nI (tau (skp tau (v 3) p)))) hX 1 (j := (skp tau (v 3) p)) rfl (by omega) (by decide) rfl dX7_here_57 ?_
          refine z_goto (tgt := 62) hX dX7_here_58 (by decide) ?_
          exact hR _ () _ _ (by rw [chr_in (by omega)]) dX7_here_62 rfl
      · skip
        refine z_aload_n hX 0 dX7_here_11 rfl ?_
        refine z_get (v := .ref (ad 2)) hX fX7 0 2 rfl rfl (Nat.le_of_ble_eq_true rfl) fl_X7_13 rfl dX7_here_12 ?_
        refine z_aload_n hX 0 dX7_here_15 rfl ?_
        refine z_get (v := .int (nI q)) hX fX7 0 4 rfl rfl (Nat.le_of_ble_eq_true rfl) fl_X7_116 rfl dX7_here_16 ?_
        have q1 := h0 q (by omega)
        refine z_iald (v := (nI (tau q))) hX 1 (j := q) rfl (by omega) (by decide) rfl dX7_here_19 ?_
        refine z_bipush (v := nI 32) hX dX7_here_20 (by decide) ?_
        refine zn_icmp_ne (tgt := 38) hX dX7_here_22 (by decide) (by omega) (by omega) (fun c22 => ?_) (fun c22 => ?_)
        · skip
          have es : q = skp tau (v 3) p := by
            rw [← hs]
            first | rw [skp_end (by omega)] | rw [skp_ne c22]
          subst es
          refine z_aload_n hX 0 dX7_here_38 rfl ?_
          refine z_get (v := .int (nI (skp tau (v 3) p))) hX fX7 0 4 rfl rfl (Nat.le_of_ble_eq_true rfl) fl_X7_116 rfl dX7_here_39 ?_
          refine z_aload_n hX 0 dX7_here_42 rfl ?_
          refine z_get (v := .int (nI (v 3))) hX fX7 0 3 rfl rfl (Nat.le_of_ble_eq_true rfl) fl_X7_113 rfl dX7_here_43 ?_
          refine zn_icmp_ge (tgt := 61) hX dX7_here_46 (by decide) (by omega) (by omega) (fun c46 => ?_) (fun c46 => ?_)
          · skip
            refine z_iconst (v := nI 0) hX dX7_here_61 (by decide) ?_
            exact hR _ () _ _ (by rw [chr_out (by omega)]) dX7_here_62 rfl
          · skip
            refine z_aload_n hX 0 dX7_here_49 rfl ?_
            refine z_get (v := .ref (ad 2)) hX fX7 0 2 rfl rfl (Nat.le_of_ble_eq_true rfl) fl_X7_13 rfl dX7_here_50 ?_
            refine z_aload_n hX 0 dX7_here_53 rfl ?_
            refine z_get (v := .int (nI (skp tau (v 3) p))) hX fX7 0 4 rfl rfl (Nat.le_of_ble_eq_true rfl) fl_X7_116 rfl dX7_here_54 ?_
            have q2 := h0 (skp tau (v 3) p) (by omega)
            refine z_iald (v := (nI (tau (skp tau (v 3) p)))) hX 1 (j := (skp tau (v 3) p)) rfl (by omega) (by decide) rfl dX7_here_57 ?_
            refine z_goto (tgt := 62) hX dX7_here_58 (by decide) ?_
            exact hR _ () _ _ (by rw [chr_in (by omega)]) dX7_here_62 rfl
        · skip
          refine z_aload_n hX 0 dX7_here_25 rfl ?_
          refine z_dup hX dX7_here_26 rfl ?_
          refine z_get (v := .int (nI q)) hX fX7 0 4 rfl rfl (Nat.le_of_ble_eq_true rfl) fl_X7_116 rfl dX7_here_27 ?_
          refine z_iconst (v := nI 1) hX dX7_here_30 (by decide) ?_
          refine z_iadd (v := (nI (q + 1))) hX dX7_here_31 (nI_add _ _) ?_
          refine z_put (v := .int (nI (q + 1))) (ws' := [ob x 7 (rf ad (va_up (va_up v 4 (q + 1)) 5 f)), ia G (ad 2) 80 (fN tau)]) hX fX7 0 4 rfl rfl (Nat.le_of_ble_eq_true rfl) fl_X7_116 rfl rfl rfl rfl rfl dX7_here_32 ?_
          refine z_goto (tgt := 0) hX dX7_here_35 (by decide) ?_
          exact ih0 (q + 1) (by omega) (by omega) (by rw [← hs, skp_go (τ := tau) (m := v 3) (p := q) (by omega) (by omega)])
  exact lp0 81 p (by omega) (by omega) rfl
set_option maxRecDepth 100000 in
set_option maxHeartbeats 4000000 in
theorem c_X7_must_ok (l : Launch) (G : zG) (x : Nat) (ad : Nat → Nat) (v : Nat → Nat) (p : Nat)  : zMv l G yX7_must cX7_must 2 0 0 0 0 [.ref x, .int (nI 1)] [ob x 7 (rf ad (va_up (va_up v 4 p) 5 0))] (fun (_u : Unit) => True) (fun (_u : Unit) => [ob x 7 (rf ad (va_up (va_up v 4 (p + 1)) 5 0))]) := by
  refine zMv.of (by decide) rfl (fun X A H0 hX hXl hnm hR => ?_)
  show Z (X, G, A, H0, 2) 0 0 [ob x 7 (rf ad (va_up (va_up v 4 p) 5 0))] 0 [(0, .ref x), (1, .int (nI 1))] []
  subst hXl
  refine z_aload_n hX 0 dX7_must_0 rfl ?_
  refine z_aload_n hX 0 dX7_must_1 rfl ?_
  refine z_get (v := .int (nI 0)) hX fX7 0 5 rfl rfl (Nat.le_of_ble_eq_true rfl) fl_X7_119 rfl dX7_must_2 ?_
  refine zn_if_ne (tgt := 12) hX dX7_must_5 (by decide) (by omega) (fun c5 => absurd c5 (by omega)) (fun _ => ?_)
  refine z_iload_n hX 1 dX7_must_8 rfl ?_
  refine zn_if_ne (tgt := 16) hX dX7_must_9 (by decide) (by omega) (fun _ => ?_) (fun c9 => absurd c9 (by omega))
  refine z_iconst (v := nI 0) hX dX7_must_16 (by decide) ?_
  refine z_put (v := .int (nI 0)) (ws' := [ob x 7 (rf ad (va_up (va_up v 4 p) 5 0))]) hX fX7 0 5 rfl rfl (Nat.le_of_ble_eq_true rfl) fl_X7_119 rfl rfl rfl rfl rfl dX7_must_17 ?_
  refine z_aload_n hX 0 dX7_must_20 rfl ?_
  refine z_dup hX dX7_must_21 rfl ?_
  refine z_get (v := .int (nI p)) hX fX7 0 4 rfl rfl (Nat.le_of_ble_eq_true rfl) fl_X7_116 rfl dX7_must_22 ?_
  refine z_aload_n hX 0 dX7_must_25 rfl ?_
  refine z_get (v := .int (nI 0)) hX fX7 0 5 rfl rfl (Nat.le_of_ble_eq_true rfl) fl_X7_119 rfl dX7_must_26 ?_
  refine zn_if_eq (tgt := 36) hX dX7_must_29 (by decide) (by omega) (fun _ => ?_) (fun c29 => absurd c29 (by omega))
  refine z_iconst (v := nI 1) hX dX7_must_36 (by decide) ?_
  refine z_iadd (v := (nI (p + 1))) hX dX7_must_37 (nI_add _ _) ?_
  refine z_put (v := .int (nI (p + 1))) (ws' := [ob x 7 (rf ad (va_up (va_up v 4 (p + 1)) 5 0))]) hX fX7 0 4 rfl rfl (Nat.le_of_ble_eq_true rfl) fl_X7_116 rfl rfl rfl rfl rfl dX7_must_38 ?_
  exact hR () _ _ trivial dX7_must_41
set_option maxRecDepth 100000 in
set_option maxHeartbeats 4000000 in
theorem c_X7_must_no (l : Launch) (G : zG) (x : Nat) (ad : Nat → Nat) (v : Nat → Nat) (p : Nat)  : zMv l G yX7_must cX7_must 2 0 0 0 0 [.ref x, .int (nI 0)] [ob x 7 (rf ad (va_up (va_up v 4 p) 5 0))] (fun (_u : Unit) => True) (fun (_u : Unit) => [ob x 7 (rf ad (va_up (va_up v 4 p) 5 1))]) := by
  refine zMv.of (by decide) rfl (fun X A H0 hX hXl hnm hR => ?_)
  show Z (X, G, A, H0, 2) 0 0 [ob x 7 (rf ad (va_up (va_up v 4 p) 5 0))] 0 [(0, .ref x), (1, .int (nI 0))] []
  subst hXl
  refine z_aload_n hX 0 dX7_must_0 rfl ?_
  refine z_aload_n hX 0 dX7_must_1 rfl ?_
  refine z_get (v := .int (nI 0)) hX fX7 0 5 rfl rfl (Nat.le_of_ble_eq_true rfl) fl_X7_119 rfl dX7_must_2 ?_
  refine zn_if_ne (tgt := 12) hX dX7_must_5 (by decide) (by omega) (fun c5 => absurd c5 (by omega)) (fun _ => ?_)
  refine z_iload_n hX 1 dX7_must_8 rfl ?_
  refine zn_if_ne (tgt := 16) hX dX7_must_9 (by decide) (by omega) (fun c9 => absurd c9 (by omega)) (fun _ => ?_)
  refine z_iconst (v := nI 1) hX dX7_must_12 (by decide) ?_
  refine z_goto (tgt := 17) hX dX7_must_13 (by decide) ?_
  refine z_put (v := .int (nI 1)) (ws' := [ob x 7 (rf ad (va_up (va_up v 4 p) 5 1))]) hX fX7 0 5 rfl rfl (Nat.le_of_ble_eq_true rfl) fl_X7_119 rfl rfl rfl rfl rfl dX7_must_17 ?_
  refine z_aload_n hX 0 dX7_must_20 rfl ?_
  refine z_dup hX dX7_must_21 rfl ?_
  refine z_get (v := .int (nI p)) hX fX7 0 4 rfl rfl (Nat.le_of_ble_eq_true rfl) fl_X7_116 rfl dX7_must_22 ?_
  refine z_aload_n hX 0 dX7_must_25 rfl ?_
  refine z_get (v := .int (nI 1)) hX fX7 0 5 rfl rfl (Nat.le_of_ble_eq_true rfl) fl_X7_119 rfl dX7_must_26 ?_
  refine zn_if_eq (tgt := 36) hX dX7_must_29 (by decide) (by omega) (fun c29 => absurd c29 (by omega)) (fun _ => ?_)
  refine z_iconst (v := nI 0) hX dX7_must_32 (by decide) ?_
  refine z_goto (tgt := 37) hX dX7_must_33 (by decide) ?_
  refine z_iadd (v := (nI p)) hX dX7_must_37 ((nI_add _ _).trans (congrArg nI (by omega))) ?_
  refine z_put (v := .int (nI p)) (ws' := [ob x 7 (rf ad (va_up (va_up v 4 p) 5 1))]) hX fX7 0 4 rfl rfl (Nat.le_of_ble_eq_true rfl) fl_X7_116 rfl rfl rfl rfl rfl dX7_must_38 ?_
  exact hR () _ _ trivial dX7_must_41
set_option maxRecDepth 100000 in
set_option maxHeartbeats 4000000 in
theorem c_X7_must_f (l : Launch) (G : zG) (x : Nat) (ad : Nat → Nat) (v : Nat → Nat) (p : Nat) (b : Nat)  : zMv l G yX7_must cX7_must 2 0 0 0 0 [.ref x, .int (nI b)] [ob x 7 (rf ad (va_up (va_up v 4 p) 5 1))] (fun (_u : Unit) => True) (fun (_u : Unit) => [ob x 7 (rf ad (va_up (va_up v 4 p) 5 1))]) := by
  refine zMv.of (by decide) rfl (fun X A H0 hX hXl hnm hR => ?_)
  show Z (X, G, A, H0, 2) 0 0 [ob x 7 (rf ad (va_up (va_up v 4 p) 5 1))] 0 [(0, .ref x), (1, .int (nI b))] []
  subst hXl
  refine z_aload_n hX 0 dX7_must_0 rfl ?_
  refine z_aload_n hX 0 dX7_must_1 rfl ?_
  refine z_get (v := .int (nI 1)) hX fX7 0 5 rfl rfl (Nat.le_of_ble_eq_true rfl) fl_X7_119 rfl dX7_must_2 ?_
  refine zn_if_ne (tgt := 12) hX dX7_must_5 (by decide) (by omega) (fun _ => ?_) (fun c5 => absurd c5 (by omega))
  refine z_iconst (v := nI 1) hX dX7_must_12 (by decide) ?_
  refine z_goto (tgt := 17) hX dX7_must_13 (by decide) ?_
  refine z_put (v := .int (nI 1)) (ws' := [ob x 7 (rf ad (va_up (va_up v 4 p) 5 1))]) hX fX7 0 5 rfl rfl (Nat.le_of_ble_eq_true rfl) fl_X7_119 rfl rfl rfl rfl rfl dX7_must_17 ?_
  refine z_aload_n hX 0 dX7_must_20 rfl ?_
  refine z_dup hX dX7_must_21 rfl ?_
  refine z_get (v := .int (nI p)) hX fX7 0 4 rfl rfl (Nat.le_of_ble_eq_true rfl) fl_X7_116 rfl dX7_must_22 ?_
  refine z_aload_n hX 0 dX7_must_25 rfl ?_
  refine z_get (v := .int (nI 1)) hX fX7 0 5 rfl rfl (Nat.le_of_ble_eq_true rfl) fl_X7_119 rfl dX7_must_26 ?_
  refine zn_if_eq (tgt := 36) hX dX7_must_29 (by decide) (by omega) (fun c29 => absurd c29 (by omega)) (fun _ => ?_)
  refine z_iconst (v := nI 0) hX dX7_must_32 (by decide) ?_
  refine z_goto (tgt := 37) hX dX7_must_33 (by decide) ?_
  refine z_iadd (v := (nI p)) hX dX7_must_37 ((nI_add _ _).trans (congrArg nI (by omega))) ?_
  refine z_put (v := .int (nI p)) (ws' := [ob x 7 (rf ad (va_up (va_up v 4 p) 5 1))]) hX fX7 0 4 rfl rfl (Nat.le_of_ble_eq_true rfl) fl_X7_116 rfl rfl rfl rfl rfl dX7_must_38 ?_
  exact hR () _ _ trivial dX7_must_41
theorem dg_chr {τ : nst} {m P : Nat} : dg τ m P = true ↔ 48 ≤ chr τ m P ∧ chr τ m P ≤ 57 := by
  rw [dg_t]
  unfold chr
  split <;> omega
set_option maxRecDepth 100000 in
set_option maxHeartbeats 4000000 in
theorem c_X7_number_0 (l : Launch) (G : zG) (x : Nat) (ad : Nat → Nat) (v : Nat → Nat) (tau : nst) (p : Nat) (h0 : ∀ j, j < (v 3) → 32 ≤ tau j ∧ tau j ≤ 126) (h1 : (v 3) ≤ 80) (h2 : p ≤ 80) : zMi l G yX7_number cX7_number 5 .int 1 0 0 25 [.ref x, .int (nI 40)] [ob x 7 (rf ad (va_up (va_up v 4 p) 5 0)), ia G (ad 2) 80 (fN tau)] (fun (r : Int32) (_u : Nat × Nat × Nat) => r = nI _u.2.2 ∧ ((numV tau (v 3) (skp tau (v 3) p) = 0 ∧ _u.2.1 = 1 ∧ _u.1 = skp tau (v 3) p) ∨ (¬ numV tau (v 3) (skp tau (v 3) p) = 0 ∧ _u.2.1 = 0 ∧ _u.1 = numE tau (v 3) (skp tau (v 3) p) ∧ _u.2.2 = numV tau (v 3) (skp tau (v 3) p) - 1))) (fun (_u : Nat × Nat × Nat) => [ob x 7 (rf ad (va_up (va_up v 4 _u.1) 5 _u.2.1)), ia G (ad 2) 80 (fN tau)]) := by
  refine zMi.of (by decide) rfl (fun X A H0 hX hXl hR => ?_)
  show Z (X, G, A, H0, 5) 0 0 [ob x 7 (rf ad (va_up (va_up v 4 p) 5 0)), ia G (ad 2) 80 (fN tau)] 0 [(0, .ref x), (1, .int (nI 40))] []
  subst hXl
  have k1 := chr_hi h0 (skp tau (v 3) p)
  have k2 := skp_hi (τ := tau) (p := p) h1 h2
  refine z_aload_n hX 0 dX7_number_0 rfl ?_
  refine z_get (v := .int (nI 0)) hX fX7 0 5 rfl rfl (Nat.le_of_ble_eq_true rfl) fl_X7_119 rfl dX7_number_1 ?_
  refine zn_if_eq (tgt := 11) hX dX7_number_4 (by decide) (by omega) (fun _ => ?_) (fun c4 => absurd c4 (by omega))
  refine z_aload_n hX 0 dX7_number_11 rfl ?_
  refine z_callVi (st := []) hX (c_X7_here _ G x ad v tau p 0 h0 h1 h2) lb_X7_here ml_X7_123 (fun (_u : Unit) => [ob x 7 (rf ad (va_up (va_up v 4 (skp tau (v 3) p)) 5 0)), ia G (ad 2) 80 (fN tau)]) (wr := []) [0, 1] [] [0, 1] ⟨rfl, rfl, rfl, fun _ => rfl⟩ 0 rfl rfl rfl rfl ⟨Nat.le_refl _, Nat.le_refl _⟩ dX7_number_12 rfl (fun r12 u12 hw12 => ?_)
  subst hw12
  refine z_istore_n (L' := [(2, .int (nI (chr tau (v 3) (skp tau (v 3) p)))), (0, .ref x), (1, .int (nI 40))]) hX dX7_number_15 (Nat.le_of_ble_eq_true rfl) rfl ?_
  refine z_aload_n hX 1 dX7_number_16 rfl ?_
  refine z_get (v := .int (nI (skp tau (v 3) p))) hX fX7 0 4 rfl rfl (Nat.le_of_ble_eq_true rfl) fl_X7_116 rfl dX7_number_17 ?_
  refine z_istore_n (L' := [(3, .int (nI (skp tau (v 3) p))), (2, .int (nI (chr tau (v 3) (skp tau (v 3) p)))), (0, .ref x), (1, .int (nI 40))]) hX dX7_number_20 (Nat.le_of_ble_eq_true rfl) rfl ?_
  refine z_iconst (v := nI 0) hX dX7_number_21 (by decide) ?_
  refine z_istore (L' := [(4, .int (nI 0)), (3, .int (nI (skp tau (v 3) p))), (2, .int (nI (chr tau (v 3) (skp tau (v 3) p)))), (0, .ref x), (1, .int (nI 40))]) hX dX7_number_22 (Nat.le_of_ble_eq_true rfl) rfl ?_
  refine z_aload_n hX 3 dX7_number_24 rfl ?_
  refine z_aload_n hX 3 dX7_number_25 rfl ?_
  refine z_get (v := .int (nI 0)) hX fX7 0 5 rfl rfl (Nat.le_of_ble_eq_true rfl) fl_X7_119 rfl dX7_number_26 ?_
  refine zn_if_ne (tgt := 46) hX dX7_number_29 (by decide) (by omega) (fun c29 => absurd c29 (by omega)) (fun _ => ?_)
  refine z_iload_n hX 2 dX7_number_32 rfl ?_
  refine z_i2l (v := ((nI (chr tau (v 3) (skp tau (v 3) p))).toInt64)) hX dX7_number_33 rfl ?_
  refine z_ldc2 (v := lN 48) hX kl_X7_126 dX7_number_34 ?_
  refine z_ldc2 (v := lN 57) hX kl_X7_128 dX7_number_37 ?_
  refine z_callSi (st := [.ref x]) hX (c_X7_inN _ G (chr tau (v 3) (skp tau (v 3) p)) 48 57 (by omega) (by omega) (by omega)) lb_X7_in ml_X7_44 (fun (_u : Unit) => [ob x 7 (rf ad (va_up (va_up v 4 (skp tau (v 3) p)) 5 0)), ia G (ad 2) 80 (fN tau)]) (wr := [ob x 7 (rf ad (va_up (va_up v 4 (skp tau (v 3) p)) 5 0)), ia G (ad 2) 80 (fN tau)]) [] [0, 1] [0, 1] ⟨rfl, rfl, rfl, fun _ => rfl⟩ rfl rfl ⟨Nat.le_refl _, Nat.le_refl _⟩ dX7_number_40 rfl (fun r40 u40 hw40 => ?_)
  try dsimp only at hw40
  rcases Classical.em (48 ≤ (chr tau (v 3) (skp tau (v 3) p)) ∧ (chr tau (v 3) (skp tau (v 3) p)) ≤ 57) with b40 | b40
  · obtain rfl := hw40.1 b40
    refine zn_if_ne (tgt := 50) hX dX7_number_43 (by decide) (by omega) (fun _ => ?_) (fun c43 => absurd c43 (by omega))
    refine z_iconst (v := nI 0) hX dX7_number_50 (by decide) ?_
    refine z_put (v := .int (nI 0)) (ws' := [ob x 7 (rf ad (va_up (va_up v 4 (skp tau (v 3) p)) 5 0)), ia G (ad 2) 80 (fN tau)]) hX fX7 0 5 rfl rfl (Nat.le_of_ble_eq_true rfl) fl_X7_119 rfl rfl rfl rfl rfl dX7_number_51 ?_
    have lp54 : ∀ (n54 : Nat) (k : Nat), (2 + 1 ≤ k + n54) → (k ≤ 2) → (∀ i, i < k → dg tau (v 3) (skp tau (v 3) p + i) = true) → Z (X, G, A, H0, 5) 0 0 [ob x 7 (rf ad (va_up (va_up v 4 (skp tau (v 3) p + k)) 5 0)), ia G (ad 2) 80 (fN tau)] 54 [(0, .ref x), (1, .int (nI 40)), (2, .int (nI (chr tau (v 3) (skp tau (v 3) p)))), (3, .int (nI (skp tau (v 3) p))), (4, .int (nI (numK tau (skp tau (v 3) p) k)))] [] := by
      intro n54
      induction n54 with
      | zero =>
        intro k hn hk hd
        exfalso
        omega
      | succ n54 ih54 =>
        intro k hn hk hd
        refine z_aload_n hX 0 dX7_number_54 rfl ?_
        refine z_get (v := .int (nI 0)) hX fX7 0 5 rfl rfl (Nat.le_of_ble_eq_true rfl) fl_X7_119 rfl dX7_number_55 ?_
        refine zn_if_ne (tgt := 137) hX dX7_number_58 (by decide) (by omega) (fun c58 => absurd c58 (by omega)) (fun _ => ?_)
        refine z_aload_n hX 0 dX7_number_61 rfl ?_
        refine z_get (v := .int (nI (skp tau (v 3) p + k))) hX fX7 0 4 rfl rfl (Nat.le_of_ble_eq_true rfl) fl_X7_116 rfl dX7_number_62 ?_
        refine z_aload_n hX 0 dX7_number_65 rfl ?_
        refine z_get (v := .int (nI (v 3))) hX fX7 0 3 rfl rfl (Nat.le_of_ble_eq_true rfl) fl_X7_113 rfl dX7_number_66 ?_
        refine zn_icmp_ge (tgt := 137) hX dX7_number_69 (by decide) (by omega) (by omega) (fun c69 => ?_) (fun c69 => ?_)
        · skip
          have hx : ¬ (k < 2 ∧ dg tau (v 3) (skp tau (v 3) p + k) = true) := by
            rintro ⟨z1, z2⟩
            rw [dg_t] at z2
            omega
          rcases (show k = 0 ∨ k = 1 ∨ k = 2 by omega) with rfl | rfl | rfl
          · exact absurd ⟨by omega, (dg_chr (τ := tau) (m := v 3) (P := skp tau (v 3) p)).2 b40⟩ hx
          · obtain ⟨e1, e2, e3⟩ := num_1 (τ := tau) (m := v 3) (P := skp tau (v 3) p) (hd 0 (by omega)) (fun z => hx ⟨by omega, z⟩)
            refine z_aload_n hX 0 dX7_number_137 rfl ?_
            refine z_get (v := .int (nI 0)) hX fX7 0 5 rfl rfl (Nat.le_of_ble_eq_true rfl) fl_X7_119 rfl dX7_number_138 ?_
            refine zn_if_ne (tgt := 160) hX dX7_number_141 (by decide) (by omega) (fun c141 => absurd c141 (by omega)) (fun _ => ?_)
            refine z_iload hX 4 dX7_number_144 rfl ?_
            refine z_iload_n hX 1 dX7_number_146 rfl ?_
            refine zn_icmp_le (tgt := 160) hX dX7_number_147 (by decide) (by omega) (by omega) (fun c147 => ?_) (fun c147 => ?_)
            · skip
              refine z_iload hX 4 dX7_number_160 rfl ?_
              exact hR _ (skp tau (v 3) p + 1, 0, numK tau (skp tau (v 3) p) 1) _ _ ⟨rfl, Or.inr ⟨by rw [e1]; omega, rfl, by rw [e2], by rw [e1]; rfl⟩⟩ dX7_number_162 rfl
            · skip
              refine z_aload_n hX 0 dX7_number_150 rfl ?_
              refine z_iconst (v := nI 1) hX dX7_number_151 (by decide) ?_
              refine z_put (v := .int (nI 1)) (ws' := [ob x 7 (rf ad (va_up (va_up v 4 (skp tau (v 3) p + 1)) 5 1)), ia G (ad 2) 80 (fN tau)]) hX fX7 0 5 rfl rfl (Nat.le_of_ble_eq_true rfl) fl_X7_119 rfl rfl rfl rfl rfl dX7_number_152 ?_
              refine z_aload_n hX 0 dX7_number_155 rfl ?_
              refine z_iload_n hX 3 dX7_number_156 rfl ?_
              refine z_put (v := .int (nI (skp tau (v 3) p))) (ws' := [ob x 7 (rf ad (va_up (va_up v 4 (skp tau (v 3) p)) 5 1)), ia G (ad 2) 80 (fN tau)]) hX fX7 0 4 rfl rfl (Nat.le_of_ble_eq_true rfl) fl_X7_116 rfl rfl rfl rfl rfl dX7_number_157 ?_
              refine z_iload hX 4 dX7_number_160 rfl ?_
              exfalso
              omega
          · obtain ⟨e1, e2, e3, e4⟩ := num_2 (τ := tau) (m := v 3) (P := skp tau (v 3) p) (hd 0 (by omega)) (hd 1 (by omega))
            refine z_aload_n hX 0 dX7_number_137 rfl ?_
            refine z_get (v := .int (nI 0)) hX fX7 0 5 rfl rfl (Nat.le_of_ble_eq_true rfl) fl_X7_119 rfl dX7_number_138 ?_
            refine zn_if_ne (tgt := 160) hX dX7_number_141 (by decide) (by omega) (fun c141 => absurd c141 (by omega)) (fun _ => ?_)
            refine z_iload hX 4 dX7_number_144 rfl ?_
            refine z_iload_n hX 1 dX7_number_146 rfl ?_
            refine zn_icmp_le (tgt := 160) hX dX7_number_147 (by decide) (by omega) (by omega) (fun c147 => ?_) (fun c147 => ?_)
            · skip
              refine z_iload hX 4 dX7_number_160 rfl ?_
              exact hR _ (skp tau (v 3) p + 2, 0, numK tau (skp tau (v 3) p) 2) _ _ ⟨rfl, Or.inr ⟨by rw [e1 (by omega)]; omega, rfl, by rw [e3], by rw [e1 (by omega)]; rfl⟩⟩ dX7_number_162 rfl
            · skip
              refine z_aload_n hX 0 dX7_number_150 rfl ?_
              refine z_iconst (v := nI 1) hX dX7_number_151 (by decide) ?_
              refine z_put (v := .int (nI 1)) (ws' := [ob x 7 (rf ad (va_up (va_up v 4 (skp tau (v 3) p + 2)) 5 1)), ia G (ad 2) 80 (fN tau)]) hX fX7 0 5 rfl rfl (Nat.le_of_ble_eq_true rfl) fl_X7_119 rfl rfl rfl rfl rfl dX7_number_152 ?_
              refine z_aload_n hX 0 dX7_number_155 rfl ?_
              refine z_iload_n hX 3 dX7_number_156 rfl ?_
              refine z_put (v := .int (nI (skp tau (v 3) p))) (ws' := [ob x 7 (rf ad (va_up (va_up v 4 (skp tau (v 3) p)) 5 1)), ia G (ad 2) 80 (fN tau)]) hX fX7 0 4 rfl rfl (Nat.le_of_ble_eq_true rfl) fl_X7_116 rfl rfl rfl rfl rfl dX7_number_157 ?_
              refine z_iload hX 4 dX7_number_160 rfl ?_
              exact hR _ (skp tau (v 3) p, 1, numK tau (skp tau (v 3) p) 2) _ _ ⟨rfl, Or.inl ⟨e2 (by omega), rfl, rfl⟩⟩ dX7_number_162 rfl
        · skip
          refine z_aload_n hX 0 dX7_number_72 rfl ?_
          refine z_get (v := .int (nI (skp tau (v 3) p + k))) hX fX7 0 4 rfl rfl (Nat.le_of_ble_eq_true rfl) fl_X7_116 rfl dX7_number_73 ?_
          refine z_iload_n hX 3 dX7_number_76 rfl ?_
          refine z_isub (v := (nI ((skp tau (v 3) p + k) - (skp tau (v 3) p)))) hX dX7_number_77 (pk_sub (by omega)) ?_
          refine z_iconst (v := nI 2) hX dX7_number_78 (by decide) ?_
          refine zn_icmp_ge (tgt := 137) hX dX7_number_79 (by decide) (by omega) (by omega) (fun c79 => ?_) (fun c79 => ?_)
          · skip
            have hx : ¬ (k < 2 ∧ dg tau (v 3) (skp tau (v 3) p + k) = true) := by
              rintro ⟨z1, z2⟩
              rw [dg_t] at z2
              omega
            rcases (show k = 0 ∨ k = 1 ∨ k = 2 by omega) with rfl | rfl | rfl
            · exact absurd ⟨by omega, (dg_chr (τ := tau) (m := v 3) (P := skp tau (v 3) p)).2 b40⟩ hx
            · obtain ⟨e1, e2, e3⟩ := num_1 (τ := tau) (m := v 3) (P := skp tau (v 3) p) (hd 0 (by omega)) (fun z => hx ⟨by omega, z⟩)
              refine z_aload_n hX 0 dX7_number_137 rfl ?_
              refine z_get (v := .int (nI 0)) hX fX7 0 5 rfl rfl (Nat.le_of_ble_eq_true rfl) fl_X7_119 rfl dX7_number_138 ?_
              refine zn_if_ne (tgt := 160) hX dX7_number_141 (by decide) (by omega) (fun c141 => absurd c141 (by omega)) (fun _ => ?_)
              refine z_iload hX 4 dX7_number_144 rfl ?_
              refine z_iload_n hX 1 dX7_number_146 rfl ?_
              refine zn_icmp_le (tgt := 160) hX dX7_number_147 (by decide) (by omega) (by omega) (fun c147 => ?_) (fun c147 => ?_)
              · skip
                refine z_iload hX 4 dX7_number_160 rfl ?_
                exact hR _ (skp tau (v 3) p + 1, 0, numK tau (skp tau (v 3) p) 1) _ _ ⟨rfl, Or.inr ⟨by rw [e1]; omega, rfl, by rw [e2], by rw [e1]; rfl⟩⟩ dX7_number_162 rfl
              · skip
                refine z_aload_n hX 0 dX7_number_150 rfl ?_
                refine z_iconst (v := nI 1) hX dX7_number_151 (by decide) ?_
                refine z_put (v := .int (nI 1)) (ws' := [ob x 7 (rf ad (va_up (va_up v 4 (skp tau (v 3) p + 1)) 5 1)), ia G (ad 2) 80 (fN tau)]) hX fX7 0 5 rfl rfl (Nat.le_of_ble_eq_true rfl) fl_X7_119 rfl rfl rfl rfl rfl dX7_number_152 ?_
                refine z_aload_n hX 0 dX7_number_155 rfl ?_
                refine z_iload_n hX 3 dX7_number_156 rfl ?_
                refine z_put (v := .int (nI (skp tau (v 3) p))) (ws' := [ob x 7 (rf ad (va_up (va_up v 4 (skp tau (v 3) p)) 5 1)), ia G (ad 2) 80 (fN tau)]) hX fX7 0 4 rfl rfl (Nat.le_of_ble_eq_true rfl) fl_X7_116 rfl rfl rfl rfl rfl dX7_number_157 ?_
                refine z_iload hX 4 dX7_number_160 rfl ?_
                exfalso
                omega
            · obtain ⟨e1, e2, e3, e4⟩ := num_2 (τ := tau) (m := v 3) (P := skp tau (v 3) p) (hd 0 (by omega)) (hd 1 (by omega))
              refine z_aload_n hX 0 dX7_number_137 rfl ?_
              refine z_get (v := .int (nI 0)) hX fX7 0 5 rfl rfl (Nat.le_of_ble_eq_true rfl) fl_X7_119 rfl dX7_number_138 ?_
              refine zn_if_ne (tgt := 160) hX dX7_number_141 (by decide) (by omega) (fun c141 => absurd c141 (by omega)) (fun _ => ?_)
              refine z_iload hX 4 dX7_number_144 rfl ?_
              refine z_iload_n hX 1 dX7_number_146 rfl ?_
              refine zn_icmp_le (tgt := 160) hX dX7_number_147 (by decide) (by omega) (by omega) (fun c147 => ?_) (fun c147 => ?_)
              · skip
                refine z_iload hX 4 dX7_number_160 rfl ?_
                exact hR _ (skp tau (v 3) p + 2, 0, numK tau (skp tau (v 3) p) 2) _ _ ⟨rfl, Or.inr ⟨by rw [e1 (by omega)]; omega, rfl, by rw [e3], by rw [e1 (by omega)]; rfl⟩⟩ dX7_number_162 rfl
              · skip
                refine z_aload_n hX 0 dX7_number_150 rfl ?_
                refine z_iconst (v := nI 1) hX dX7_number_151 (by decide) ?_
                refine z_put (v := .int (nI 1)) (ws' := [ob x 7 (rf ad (va_up (va_up v 4 (skp tau (v 3) p + 2)) 5 1)), ia G (ad 2) 80 (fN tau)]) hX fX7 0 5 rfl rfl (Nat.le_of_ble_eq_true rfl) fl_X7_119 rfl rfl rfl rfl rfl dX7_number_152 ?_
                refine z_aload_n hX 0 dX7_number_155 rfl ?_
                refine z_iload_n hX 3 dX7_number_156 rfl ?_
                refine z_put (v := .int (nI (skp tau (v 3) p))) (ws' := [ob x 7 (rf ad (va_up (va_up v 4 (skp tau (v 3) p)) 5 1)), ia G (ad 2) 80 (fN tau)]) hX fX7 0 4 rfl rfl (Nat.le_of_ble_eq_true rfl) fl_X7_116 rfl rfl rfl rfl rfl dX7_number_157 ?_
                refine z_iload hX 4 dX7_number_160 rfl ?_
                exact hR _ (skp tau (v 3) p, 1, numK tau (skp tau (v 3) p) 2) _ _ ⟨rfl, Or.inl ⟨e2 (by omega), rfl, rfl⟩⟩ dX7_number_162 rfl
          · skip
            have q1 := h0 (skp tau (v 3) p + k) (by omega)
            refine z_aload_n hX 0 dX7_number_82 rfl ?_
            refine z_get (v := .ref (ad 2)) hX fX7 0 2 rfl rfl (Nat.le_of_ble_eq_true rfl) fl_X7_13 rfl dX7_number_83 ?_
            refine z_aload_n hX 0 dX7_number_86 rfl ?_
            refine z_get (v := .int (nI (skp tau (v 3) p + k))) hX fX7 0 4 rfl rfl (Nat.le_of_ble_eq_true rfl) fl_X7_116 rfl dX7_number_87 ?_
            refine z_iald (v := (nI (tau (skp tau (v 3) p + k)))) hX 1 (j := (skp tau (v 3) p + k)) rfl (by omega) (by decide) rfl dX7_number_90 ?_
            refine z_i2l (v := ((nI (tau (skp tau (v 3) p + k))).toInt64)) hX dX7_number_91 rfl ?_
            refine z_ldc2 (v := lN 48) hX kl_X7_126 dX7_number_92 ?_
            refine z_ldc2 (v := lN 57) hX kl_X7_128 dX7_number_95 ?_
            refine z_callSi (st := []) hX (c_X7_inN _ G (tau (skp tau (v 3) p + k)) 48 57 (by omega) (by omega) (by omega)) lb_X7_in ml_X7_44 (fun (_u : Unit) => [ob x 7 (rf ad (va_up (va_up v 4 (skp tau (v 3) p + k)) 5 0)), ia G (ad 2) 80 (fN tau)]) (wr := [ob x 7 (rf ad (va_up (va_up v 4 (skp tau (v 3) p + k)) 5 0)), ia G (ad 2) 80 (fN tau)]) [] [0, 1] [0, 1] ⟨rfl, rfl, rfl, fun _ => rfl⟩ rfl rfl ⟨Nat.le_refl _, Nat.le_refl _⟩ dX7_number_98 rfl (fun r98 u98 hw98 => ?_)
            try dsimp only at hw98
            rcases Classical.em (48 ≤ (tau (skp tau (v 3) p + k)) ∧ (tau (skp tau (v 3) p + k)) ≤ 57) with b98 | b98
            · obtain rfl := hw98.1 b98
              refine zn_if_eq (tgt := 137) hX dX7_number_101 (by decide) (by omega) (fun c101 => absurd c101 (by omega)) (fun _ => ?_)
              refine z_bipush (v := nI 10) hX dX7_number_104 (by decide) ?_
              refine z_iload hX 4 dX7_number_106 rfl ?_
              refine z_imul (v := (nI (10 * numK tau (skp tau (v 3) p) k))) hX dX7_number_108 (pk_mul _ _) ?_
              refine z_aload_n hX 0 dX7_number_109 rfl ?_
              refine z_get (v := .ref (ad 2)) hX fX7 0 2 rfl rfl (Nat.le_of_ble_eq_true rfl) fl_X7_13 rfl dX7_number_110 ?_
              refine z_aload_n hX 0 dX7_number_113 rfl ?_
              refine z_get (v := .int (nI (skp tau (v 3) p + k))) hX fX7 0 4 rfl rfl (Nat.le_of_ble_eq_true rfl) fl_X7_116 rfl dX7_number_114 ?_
              refine z_iald (v := (nI (tau (skp tau (v 3) p + k)))) hX 1 (j := (skp tau (v 3) p + k)) rfl (by omega) (by decide) rfl dX7_number_117 ?_
              refine z_iadd (v := (nI ((10 * numK tau (skp tau (v 3) p) k) + tau (skp tau (v 3) p + k)))) hX dX7_number_118 ((nI_add _ _).trans (congrArg nI (by omega))) ?_
              refine z_bipush (v := nI 48) hX dX7_number_119 (by decide) ?_
              refine z_isub (v := (nI (numK tau (skp tau (v 3) p) (k + 1)))) hX dX7_number_121 ((pk_sub (by omega)).trans (congrArg nI (by rw [numK_s (by omega)]; omega))) ?_
              refine z_istore (L' := [(4, .int (nI (numK tau (skp tau (v 3) p) (k + 1)))), (0, .ref x), (1, .int (nI 40)), (2, .int (nI (chr tau (v 3) (skp tau (v 3) p)))), (3, .int (nI (skp tau (v 3) p)))]) hX dX7_number_122 (Nat.le_of_ble_eq_true rfl) rfl ?_
              refine z_aload_n hX 1 dX7_number_124 rfl ?_
              refine z_dup hX dX7_number_125 rfl ?_
              refine z_get (v := .int (nI (skp tau (v 3) p + k))) hX fX7 0 4 rfl rfl (Nat.le_of_ble_eq_true rfl) fl_X7_116 rfl dX7_number_126 ?_
              refine z_iconst (v := nI 1) hX dX7_number_129 (by decide) ?_
              refine z_iadd (v := (nI (skp tau (v 3) p + k + 1))) hX dX7_number_130 (nI_add _ _) ?_
              refine z_put (v := .int (nI (skp tau (v 3) p + k + 1))) (ws' := [ob x 7 (rf ad (va_up (va_up v 4 (skp tau (v 3) p + k + 1)) 5 0)), ia G (ad 2) 80 (fN tau)]) hX fX7 0 4 rfl rfl (Nat.le_of_ble_eq_true rfl) fl_X7_116 rfl rfl rfl rfl rfl dX7_number_131 ?_
              refine z_goto (tgt := 54) hX dX7_number_134 (by decide) ?_
              refine z_lsub [1, 2, 3, 4, 0] rfl ?_
              exact ih54 (k + 1) (by omega) (by omega) (fun i9 h9 => by
                    by_cases e9 : i9 = k
                    · rw [e9, dg_t]; exact ⟨by omega, b98⟩
                    · exact hd i9 (by omega))
            · obtain rfl := hw98.2 b98
              refine zn_if_eq (tgt := 137) hX dX7_number_101 (by decide) (by omega) (fun _ => ?_) (fun c101 => absurd c101 (by omega))
              have hx : ¬ (k < 2 ∧ dg tau (v 3) (skp tau (v 3) p + k) = true) := by
                rintro ⟨z1, z2⟩
                rw [dg_t] at z2
                omega
              rcases (show k = 0 ∨ k = 1 ∨ k = 2 by omega) with rfl | rfl | rfl
              · exact absurd ⟨by omega, (dg_chr (τ := tau) (m := v 3) (P := skp tau (v 3) p)).2 b40⟩ hx
              · obtain ⟨e1, e2, e3⟩ := num_1 (τ := tau) (m := v 3) (P := skp tau (v 3) p) (hd 0 (by omega)) (fun z => hx ⟨by omega, z⟩)
                refine z_aload_n hX 0 dX7_number_137 rfl ?_
                refine z_get (v := .int (nI 0)) hX fX7 0 5 rfl rfl (Nat.le_of_ble_eq_true rfl) fl_X7_119 rfl dX7_number_138 ?_
                refine zn_if_ne (tgt := 160) hX dX7_number_141 (by decide) (by omega) (fun c141 => absurd c141 (by omega)) (fun _ => ?_)
                refine z_iload hX 4 dX7_number_144 rfl ?_
                refine z_iload_n hX 1 dX7_number_146 rfl ?_
                refine zn_icmp_le (tgt := 160) hX dX7_number_147 (by decide) (by omega) (by omega) (fun c147 => ?_) (fun c147 => ?_)
                · skip
                  refine z_iload hX 4 dX7_number_160 rfl ?_
                  exact hR _ (skp tau (v 3) p + 1, 0, numK tau (skp tau (v 3) p) 1) _ _ ⟨rfl, Or.inr ⟨by rw [e1]; omega, rfl, by rw [e2], by rw [e1]; rfl⟩⟩ dX7_number_162 rfl
                · skip
                  refine z_aload_n hX 0 dX7_number_150 rfl ?_
                  refine z_iconst (v := nI 1) hX dX7_number_151 (by decide) ?_
                  refine z_put (v := .int (nI 1)) (ws' := [ob x 7 (rf ad (va_up (va_up v 4 (skp tau (v 3) p + 1)) 5 1)), ia G (ad 2) 80 (fN tau)]) hX fX7 0 5 rfl rfl (Nat.le_of_ble_eq_true rfl) fl_X7_119 rfl rfl rfl rfl rfl dX7_number_152 ?_
                  refine z_aload_n hX 0 dX7_number_155 rfl ?_
                  refine z_iload_n hX 3 dX7_number_156 rfl ?_
                  refine z_put (v := .int (nI (skp tau (v 3) p))) (ws' := [ob x 7 (rf ad (va_up (va_up v 4 (skp tau (v 3) p)) 5 1)), ia G (ad 2) 80 (fN tau)]) hX fX7 0 4 rfl rfl (Nat.le_of_ble_eq_true rfl) fl_X7_116 rfl rfl rfl rfl rfl dX7_number_157 ?_
                  refine z_iload hX 4 dX7_number_160 rfl ?_
                  exfalso
                  omega
              · obtain ⟨e1, e2, e3, e4⟩ := num_2 (τ := tau) (m := v 3) (P := skp tau (v 3) p) (hd 0 (by omega)) (hd 1 (by omega))
                refine z_aload_n hX 0 dX7_number_137 rfl ?_
                refine z_get (v := .int (nI 0)) hX fX7 0 5 rfl rfl (Nat.le_of_ble_eq_true rfl) fl_X7_119 rfl dX7_number_138 ?_
                refine zn_if_ne (tgt := 160) hX dX7_number_141 (by decide) (by omega) (fun c141 => absurd c141 (by omega)) (fun _ => ?_)
                refine z_iload hX 4 dX7_number_144 rfl ?_
                refine z_iload_n hX 1 dX7_number_146 rfl ?_
                refine zn_icmp_le (tgt := 160) hX dX7_number_147 (by decide) (by omega) (by omega) (fun c147 => ?_) (fun c147 => ?_)
                · skip
                  refine z_iload hX 4 dX7_number_160 rfl ?_
                  exact hR _ (skp tau (v 3) p + 2, 0, numK tau (skp tau (v 3) p) 2) _ _ ⟨rfl, Or.inr ⟨by rw [e1 (by omega)]; omega, rfl, by rw [e3], by rw [e1 (by omega)]; rfl⟩⟩ dX7_number_162 rfl
                · skip
                  refine z_aload_n hX 0 dX7_number_150 rfl ?_
                  refine z_iconst (v := nI 1) hX dX7_number_151 (by decide) ?_
                  refine z_put (v := .int (nI 1)) (ws' := [ob x 7 (rf ad (va_up (va_up v 4 (skp tau (v 3) p + 2)) 5 1)), ia G (ad 2) 80 (fN tau)]) hX fX7 0 5 rfl rfl (Nat.le_of_ble_eq_true rfl) fl_X7_119 rfl rfl rfl rfl rfl dX7_number_152 ?_
                  refine z_aload_n hX 0 dX7_number_155 rfl ?_
                  refine z_iload_n hX 3 dX7_number_156 rfl ?_
                  refine z_put (v := .int (nI (skp tau (v 3) p))) (ws' := [ob x 7 (rf ad (va_up (va_up v 4 (skp tau (v 3) p)) 5 1)), ia G (ad 2) 80 (fN tau)]) hX fX7 0 4 rfl rfl (Nat.le_of_ble_eq_true rfl) fl_X7_116 rfl rfl rfl rfl rfl dX7_number_157 ?_
                  refine z_iload hX 4 dX7_number_160 rfl ?_
                  exact hR _ (skp tau (v 3) p, 1, numK tau (skp tau (v 3) p) 2) _ _ ⟨rfl, Or.inl ⟨e2 (by omega), rfl, rfl⟩⟩ dX7_number_162 rfl
    refine z_lsub [3, 4, 2, 1, 0] rfl ?_
    exact lp54 3 0 (by omega) (by omega) (fun i9 h9 => absurd h9 (by omega))
  · obtain rfl := hw40.2 b40
    refine zn_if_ne (tgt := 50) hX dX7_number_43 (by decide) (by omega) (fun c43 => absurd c43 (by omega)) (fun _ => ?_)
    refine z_iconst (v := nI 1) hX dX7_number_46 (by decide) ?_
    refine z_goto (tgt := 51) hX dX7_number_47 (by decide) ?_
    refine z_put (v := .int (nI 1)) (ws' := [ob x 7 (rf ad (va_up (va_up v 4 (skp tau (v 3) p)) 5 1)), ia G (ad 2) 80 (fN tau)]) hX fX7 0 5 rfl rfl (Nat.le_of_ble_eq_true rfl) fl_X7_119 rfl rfl rfl rfl rfl dX7_number_51 ?_
    refine z_aload_n hX 3 dX7_number_54 rfl ?_
    refine z_get (v := .int (nI 1)) hX fX7 0 5 rfl rfl (Nat.le_of_ble_eq_true rfl) fl_X7_119 rfl dX7_number_55 ?_
    refine zn_if_ne (tgt := 137) hX dX7_number_58 (by decide) (by omega) (fun _ => ?_) (fun c58 => absurd c58 (by omega))
    refine z_aload_n hX 3 dX7_number_137 rfl ?_
    refine z_get (v := .int (nI 1)) hX fX7 0 5 rfl rfl (Nat.le_of_ble_eq_true rfl) fl_X7_119 rfl dX7_number_138 ?_
    refine zn_if_ne (tgt := 160) hX dX7_number_141 (by decide) (by omega) (fun _ => ?_) (fun c141 => absurd c141 (by omega))
    refine z_iload hX 0 dX7_number_160 rfl ?_
    have n0 := (num_0 (τ := tau) (m := v 3) (P := skp tau (v 3) p) (fun z => b40 (dg_chr.1 z))).1
    exact hR _ (skp tau (v 3) p, 1, 0) _ _ ⟨rfl, Or.inl ⟨n0, rfl, rfl⟩⟩ dX7_number_162 rfl
set_option maxRecDepth 100000 in
set_option maxHeartbeats 4000000 in
theorem c_X7_number_1 (l : Launch) (G : zG) (x : Nat) (ad : Nat → Nat) (v : Nat → Nat) (tau : nst) (p : Nat)  : zMi l G yX7_number cX7_number 5 .int 0 0 0 0 [.ref x, .int (nI 40)] [ob x 7 (rf ad (va_up (va_up v 4 p) 5 1))] (fun (r : Int32) (_u : Unit) => r = nI 0) (fun (_u : Unit) => [ob x 7 (rf ad (va_up (va_up v 4 p) 5 1))]) := by
  refine zMi.of (by decide) rfl (fun X A H0 hX hXl hR => ?_)
  show Z (X, G, A, H0, 5) 0 0 [ob x 7 (rf ad (va_up (va_up v 4 p) 5 1))] 0 [(0, .ref x), (1, .int (nI 40))] []
  subst hXl
  refine z_aload_n hX 0 dX7_number_0 rfl ?_
  refine z_get (v := .int (nI 1)) hX fX7 0 5 rfl rfl (Nat.le_of_ble_eq_true rfl) fl_X7_119 rfl dX7_number_1 ?_
  refine zn_if_eq (tgt := 11) hX dX7_number_4 (by decide) (by omega) (fun c4 => absurd c4 (by omega)) (fun _ => ?_)
  refine z_iconst (v := nI 0) hX dX7_number_7 (by decide) ?_
  refine z_goto (tgt := 15) hX dX7_number_8 (by decide) ?_
  refine z_istore_n (L' := [(2, .int (nI 0)), (0, .ref x), (1, .int (nI 40))]) hX dX7_number_15 (Nat.le_of_ble_eq_true rfl) rfl ?_
  refine z_aload_n hX 1 dX7_number_16 rfl ?_
  refine z_get (v := .int (nI p)) hX fX7 0 4 rfl rfl (Nat.le_of_ble_eq_true rfl) fl_X7_116 rfl dX7_number_17 ?_
  refine z_istore_n (L' := [(3, .int (nI p)), (2, .int (nI 0)), (0, .ref x), (1, .int (nI 40))]) hX dX7_number_20 (Nat.le_of_ble_eq_true rfl) rfl ?_
  refine z_iconst (v := nI 0) hX dX7_number_21 (by decide) ?_
  refine z_istore (L' := [(4, .int (nI 0)), (3, .int (nI p)), (2, .int (nI 0)), (0, .ref x), (1, .int (nI 40))]) hX dX7_number_22 (Nat.le_of_ble_eq_true rfl) rfl ?_
  refine z_aload_n hX 3 dX7_number_24 rfl ?_
  refine z_aload_n hX 3 dX7_number_25 rfl ?_
  refine z_get (v := .int (nI 1)) hX fX7 0 5 rfl rfl (Nat.le_of_ble_eq_true rfl) fl_X7_119 rfl dX7_number_26 ?_
  refine zn_if_ne (tgt := 46) hX dX7_number_29 (by decide) (by omega) (fun _ => ?_) (fun c29 => absurd c29 (by omega))
  refine z_iconst (v := nI 1) hX dX7_number_46 (by decide) ?_
  refine z_goto (tgt := 51) hX dX7_number_47 (by decide) ?_
  refine z_put (v := .int (nI 1)) (ws' := [ob x 7 (rf ad (va_up (va_up v 4 p) 5 1))]) hX fX7 0 5 rfl rfl (Nat.le_of_ble_eq_true rfl) fl_X7_119 rfl rfl rfl rfl rfl dX7_number_51 ?_
  refine z_aload_n hX 3 dX7_number_54 rfl ?_
  refine z_get (v := .int (nI 1)) hX fX7 0 5 rfl rfl (Nat.le_of_ble_eq_true rfl) fl_X7_119 rfl dX7_number_55 ?_
  refine zn_if_ne (tgt := 137) hX dX7_number_58 (by decide) (by omega) (fun _ => ?_) (fun c58 => absurd c58 (by omega))
  refine z_aload_n hX 3 dX7_number_137 rfl ?_
  refine z_get (v := .int (nI 1)) hX fX7 0 5 rfl rfl (Nat.le_of_ble_eq_true rfl) fl_X7_119 rfl dX7_number_138 ?_
  refine zn_if_ne (tgt := 160) hX dX7_number_141 (by decide) (by omega) (fun _ => ?_) (fun c141 => absurd c141 (by omega))
  refine z_iload hX 0 dX7_number_160 rfl ?_
  exact hR _ () _ _ rfl dX7_number_162 rfl
