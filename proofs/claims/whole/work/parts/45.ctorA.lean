set_option maxRecDepth 100000 in
set_option maxHeartbeats 4000000 in
theorem c_X0_init (l : Launch) (G : zG) (c : Nat) : zMv l G yX0_init cX0_init 1 1 0 0 20 [.ref c] [ob c 0 [.int (nI 0), .int (nI 0), .int (nI 0)]] (fun (_u : Unit) => True) (fun (_u : Unit) => [ob c 0 [.int (l4 0), .int (nI 0), .int (nI 0)]]) := by
  refine zMv.of (by decide) rfl (fun X A H0 hX hXl hnm hR => ?_)
  show Z (X, G, A, H0, 1) 0 0 [ob c 0 [.int (nI 0), .int (nI 0), .int (nI 0)]] 0 [(0, .ref c)] []
  subst hXl
  refine z_aload_n hX 0 dX0_init_0 rfl ?_
  refine z_oi hX ml_X0_3 rfl dX0_init_1 ?_
  refine z_aload_n hX 0 dX0_init_4 rfl ?_
  refine z_callVv (st := []) hX (c_X0_clear _ G c (nI 0) 0 0 ) lb_X0_clear ml_X0_9 (fun (_u : Unit) => [ob c 0 [.int (l4 0), .int (nI 0), .int (nI 0)]]) (wr := []) [0] [] [0] ⟨rfl, rfl, rfl, fun _ => rfl⟩ 0 rfl rfl rfl rfl ⟨Nat.le_refl _, Nat.le_refl _⟩ dX0_init_5 rfl (fun  u5 hw5 => ?_)
  exact hR () _ _ trivial dX0_init_8
set_option maxRecDepth 100000 in
set_option maxHeartbeats 4000000 in
theorem c_X1_init (l : Launch) (G : zG) (o1 : Nat) : zMv l G yX1_init cX1_init 1 1 3 18 20 [.ref o1] [ob o1 1 [.null, .null, .null, .int (nI 0)]] (fun (_u : Nat × Nat × Nat) => True) (fun (_u : Nat × Nat × Nat) => [ob o1 1 [.ref _u.1, .ref _u.2.1, .ref _u.2.2, .int (nI 0)], ia G _u.1 6 (fN (fun _ => 0)), ia G _u.2.1 6 (fN (fun _ => 0)), ia G _u.2.2 6 (fN (fun _ => 0))]) := by
  refine zMv.of (by decide) rfl (fun X A H0 hX hXl hnm hR => ?_)
  show Z (X, G, A, H0, 1) 0 0 [ob o1 1 [.null, .null, .null, .int (nI 0)]] 0 [(0, .ref o1)] []
  subst hXl
  refine z_aload_n hX 0 dX1_init_0 rfl ?_
  refine z_oi hX ml_X1_3 rfl dX1_init_1 ?_
  refine z_aload_n hX 0 dX1_init_4 rfl ?_
  refine z_bipush (v := nI 6) hX dX1_init_5 (by decide) ?_
  refine z_newai hX (by omega) rfl dX1_init_7 (fun q1 => ?_)
  show Z (X, G, A, H0, 1) _ _ [ob o1 1 [.null, .null, .null, .int (nI 0)], ia G q1 6 (fN (fun _ => 0))] 9 [(0, .ref o1)] [.ref q1, .ref o1]
  refine z_putF (v := .ref q1) (ws' := [ob o1 1 [.ref q1, .null, .null, .int (nI 0)], ia G q1 6 (fN (fun _ => 0))]) hX fX1 0 0 rfl rfl (Nat.le_of_ble_eq_true rfl) fl_X1_9 rfl rfl hnm rfl rfl rfl rfl dX1_init_9 ?_
  refine z_aload_n hX 0 dX1_init_12 rfl ?_
  refine z_bipush (v := nI 6) hX dX1_init_13 (by decide) ?_
  refine z_newai hX (by omega) rfl dX1_init_15 (fun q2 => ?_)
  show Z (X, G, A, H0, 1) _ _ [ob o1 1 [.ref q1, .null, .null, .int (nI 0)], ia G q1 6 (fN (fun _ => 0)), ia G q2 6 (fN (fun _ => 0))] 17 [(0, .ref o1)] [.ref q2, .ref o1]
  refine z_putF (v := .ref q2) (ws' := [ob o1 1 [.ref q1, .ref q2, .null, .int (nI 0)], ia G q1 6 (fN (fun _ => 0)), ia G q2 6 (fN (fun _ => 0))]) hX fX1 0 1 rfl rfl (Nat.le_of_ble_eq_true rfl) fl_X1_15 rfl rfl hnm rfl rfl rfl rfl dX1_init_17 ?_
  refine z_aload_n hX 0 dX1_init_20 rfl ?_
  refine z_bipush (v := nI 6) hX dX1_init_21 (by decide) ?_
  refine z_newai hX (by omega) rfl dX1_init_23 (fun q3 => ?_)
  show Z (X, G, A, H0, 1) _ _ [ob o1 1 [.ref q1, .ref q2, .null, .int (nI 0)], ia G q1 6 (fN (fun _ => 0)), ia G q2 6 (fN (fun _ => 0)), ia G q3 6 (fN (fun _ => 0))] 25 [(0, .ref o1)] [.ref q3, .ref o1]
  refine z_putF (v := .ref q3) (ws' := [ob o1 1 [.ref q1, .ref q2, .ref q3, .int (nI 0)], ia G q1 6 (fN (fun _ => 0)), ia G q2 6 (fN (fun _ => 0)), ia G q3 6 (fN (fun _ => 0))]) hX fX1 0 2 rfl rfl (Nat.le_of_ble_eq_true rfl) fl_X1_18 rfl rfl hnm rfl rfl rfl rfl dX1_init_25 ?_
  refine z_aload_n hX 0 dX1_init_28 rfl ?_
  refine z_iconst (v := nI 0) hX dX1_init_29 (by decide) ?_
  refine z_put (v := .int (nI 0)) (ws' := [ob o1 1 [.ref q1, .ref q2, .ref q3, .int (nI 0)], ia G q1 6 (fN (fun _ => 0)), ia G q2 6 (fN (fun _ => 0)), ia G q3 6 (fN (fun _ => 0))]) hX fX1 0 3 rfl rfl (Nat.le_of_ble_eq_true rfl) fl_X1_21 rfl rfl rfl rfl rfl dX1_init_30 ?_
  exact hR (q1, q2, q3) _ _ trivial dX1_init_33
set_option maxRecDepth 100000 in
set_option maxHeartbeats 4000000 in
theorem c_X2_init (l : Launch) (G : zG) (a : Nat) : zMv l G yX2_init cX2_init 2 1 1 4 20 [.ref a] [ob a 2 [.null, .int (nI 0), .int (nI 0), .int (nI 0), .int (nI 0), .int (nI 0), .int (nI 0)]] (fun (_u : Nat) => True) (fun (_u : Nat) => [ob a 2 (mf _u mom0), ia G _u 4 (fN (sh 7 mom0))]) := by
  refine zMv.of (by decide) rfl (fun X A H0 hX hXl hnm hR => ?_)
  show Z (X, G, A, H0, 2) 0 0 [ob a 2 [.null, .int (nI 0), .int (nI 0), .int (nI 0), .int (nI 0), .int (nI 0), .int (nI 0)]] 0 [(0, .ref a)] []
  subst hXl
  refine z_aload_n hX 0 dX2_init_0 rfl ?_
  refine z_oi hX ml_X2_3 rfl dX2_init_1 ?_
  refine z_aload_n hX 0 dX2_init_4 rfl ?_
  refine z_iconst (v := nI 4) hX dX2_init_5 (by decide) ?_
  refine z_newai hX (by omega) rfl dX2_init_6 (fun q1 => ?_)
  show Z (X, G, A, H0, 2) _ _ [ob a 2 [.null, .int (nI 0), .int (nI 0), .int (nI 0), .int (nI 0), .int (nI 0), .int (nI 0)], ia G q1 4 (fN (fun _ => 0))] 8 [(0, .ref a)] [.ref q1, .ref a]
  refine z_putF (v := .ref q1) (ws' := [ob a 2 [.ref q1, .int (nI 0), .int (nI 0), .int (nI 0), .int (nI 0), .int (nI 0), .int (nI 0)], ia G q1 4 (fN (fun _ => 0))]) hX fX2 0 0 rfl rfl (Nat.le_of_ble_eq_true rfl) fl_X2_9 rfl rfl hnm rfl rfl rfl rfl dX2_init_8 ?_
  refine z_iconst (v := nI 0) hX dX2_init_11 (by decide) ?_
  refine z_istore_n (L' := [(1, .int (nI 0)), (0, .ref a)]) hX dX2_init_12 (Nat.le_of_ble_eq_true rfl) rfl ?_
  refine z_iload_n hX 0 dX2_init_13 rfl ?_
  refine z_iconst (v := nI 4) hX dX2_init_14 (by decide) ?_
  refine zn_icmp_ge (tgt := 32) hX dX2_init_15 (by decide) (by omega) (by omega) (fun c15 => absurd c15 (by omega)) (fun _ => ?_)
  refine z_aload_n hX 1 dX2_init_18 rfl ?_
  refine z_get (v := .ref q1) hX fX2 0 0 rfl rfl (Nat.le_of_ble_eq_true rfl) fl_X2_9 rfl dX2_init_19 ?_
  refine z_iload_n hX 0 dX2_init_22 rfl ?_
  refine z_bipush (v := nI 10) hX dX2_init_23 (by decide) ?_
  refine z_iast (ws' := [ob a 2 [.ref q1, .int (nI 0), .int (nI 0), .int (nI 0), .int (nI 0), .int (nI 0), .int (nI 0)], ia G q1 4 (fN (va_up (fun _ => 0) 0 10))]) hX 1 (j := 0) rfl (by omega) (by decide) (updN _ _ _) rfl dX2_init_25 ?_
  refine z_iinc (v := (nI 1)) (L' := [(1, .int (nI 1)), (0, .ref a)]) hX 0 dX2_init_26 rfl (by decide) (Nat.le_of_ble_eq_true rfl) rfl ?_
  refine z_goto (tgt := 13) hX dX2_init_29 (by decide) ?_
  refine z_iload_n hX 0 dX2_init_13 rfl ?_
  refine z_iconst (v := nI 4) hX dX2_init_14 (by decide) ?_
  refine zn_icmp_ge (tgt := 32) hX dX2_init_15 (by decide) (by omega) (by omega) (fun c15 => absurd c15 (by omega)) (fun _ => ?_)
  refine z_aload_n hX 1 dX2_init_18 rfl ?_
  refine z_get (v := .ref q1) hX fX2 0 0 rfl rfl (Nat.le_of_ble_eq_true rfl) fl_X2_9 rfl dX2_init_19 ?_
  refine z_iload_n hX 0 dX2_init_22 rfl ?_
  refine z_bipush (v := nI 10) hX dX2_init_23 (by decide) ?_
  refine z_iast (ws' := [ob a 2 [.ref q1, .int (nI 0), .int (nI 0), .int (nI 0), .int (nI 0), .int (nI 0), .int (nI 0)], ia G q1 4 (fN (va_up (va_up (fun _ => 0) 0 10) 1 10))]) hX 1 (j := 1) rfl (by omega) (by decide) (updN _ _ _) rfl dX2_init_25 ?_
  refine z_iinc (v := (nI 2)) (L' := [(1, .int (nI 2)), (0, .ref a)]) hX 0 dX2_init_26 rfl (by decide) (Nat.le_of_ble_eq_true rfl) rfl ?_
  refine z_goto (tgt := 13) hX dX2_init_29 (by decide) ?_
  refine z_iload_n hX 0 dX2_init_13 rfl ?_
  refine z_iconst (v := nI 4) hX dX2_init_14 (by decide) ?_
  refine zn_icmp_ge (tgt := 32) hX dX2_init_15 (by decide) (by omega) (by omega) (fun c15 => absurd c15 (by omega)) (fun _ => ?_)
  refine z_aload_n hX 1 dX2_init_18 rfl ?_
  refine z_get (v := .ref q1) hX fX2 0 0 rfl rfl (Nat.le_of_ble_eq_true rfl) fl_X2_9 rfl dX2_init_19 ?_
  refine z_iload_n hX 0 dX2_init_22 rfl ?_
  refine z_bipush (v := nI 10) hX dX2_init_23 (by decide) ?_
  refine z_iast (ws' := [ob a 2 [.ref q1, .int (nI 0), .int (nI 0), .int (nI 0), .int (nI 0), .int (nI 0), .int (nI 0)], ia G q1 4 (fN (va_up (va_up (va_up (fun _ => 0) 0 10) 1 10) 2 10))]) hX 1 (j := 2) rfl (by omega) (by decide) (updN _ _ _) rfl dX2_init_25 ?_
  refine z_iinc (v := (nI 3)) (L' := [(1, .int (nI 3)), (0, .ref a)]) hX 0 dX2_init_26 rfl (by decide) (Nat.le_of_ble_eq_true rfl) rfl ?_
  refine z_goto (tgt := 13) hX dX2_init_29 (by decide) ?_
  refine z_iload_n hX 0 dX2_init_13 rfl ?_
  refine z_iconst (v := nI 4) hX dX2_init_14 (by decide) ?_
  refine zn_icmp_ge (tgt := 32) hX dX2_init_15 (by decide) (by omega) (by omega) (fun c15 => absurd c15 (by omega)) (fun _ => ?_)
  refine z_aload_n hX 1 dX2_init_18 rfl ?_
  refine z_get (v := .ref q1) hX fX2 0 0 rfl rfl (Nat.le_of_ble_eq_true rfl) fl_X2_9 rfl dX2_init_19 ?_
  refine z_iload_n hX 0 dX2_init_22 rfl ?_
  refine z_bipush (v := nI 10) hX dX2_init_23 (by decide) ?_
  refine z_iast (ws' := [ob a 2 [.ref q1, .int (nI 0), .int (nI 0), .int (nI 0), .int (nI 0), .int (nI 0), .int (nI 0)], ia G q1 4 (fN (va_up (va_up (va_up (va_up (fun _ => 0) 0 10) 1 10) 2 10) 3 10))]) hX 1 (j := 3) rfl (by omega) (by decide) (updN _ _ _) rfl dX2_init_25 ?_
  refine z_iinc (v := (nI 4)) (L' := [(1, .int (nI 4)), (0, .ref a)]) hX 0 dX2_init_26 rfl (by decide) (Nat.le_of_ble_eq_true rfl) rfl ?_
  refine z_goto (tgt := 13) hX dX2_init_29 (by decide) ?_
  refine z_iload_n hX 0 dX2_init_13 rfl ?_
  refine z_iconst (v := nI 4) hX dX2_init_14 (by decide) ?_
  refine zn_icmp_ge (tgt := 32) hX dX2_init_15 (by decide) (by omega) (by omega) (fun _ => ?_) (fun c15 => absurd c15 (by omega))
  refine z_aload_n hX 1 dX2_init_32 rfl ?_
  refine z_iconst (v := nI 0) hX dX2_init_33 (by decide) ?_
  refine z_put (v := .int (nI 0)) (ws' := [ob a 2 [.ref q1, .int (nI 0), .int (nI 0), .int (nI 0), .int (nI 0), .int (nI 0), .int (nI 0)], ia G q1 4 (fN (va_up (va_up (va_up (va_up (fun _ => 0) 0 10) 1 10) 2 10) 3 10))]) hX fX2 0 1 rfl rfl (Nat.le_of_ble_eq_true rfl) fl_X2_15 rfl rfl rfl rfl rfl dX2_init_34 ?_
  refine z_aload_n hX 1 dX2_init_37 rfl ?_
  refine z_iconst (v := nI 0) hX dX2_init_38 (by decide) ?_
  refine z_put (v := .int (nI 0)) (ws' := [ob a 2 [.ref q1, .int (nI 0), .int (nI 0), .int (nI 0), .int (nI 0), .int (nI 0), .int (nI 0)], ia G q1 4 (fN (va_up (va_up (va_up (va_up (fun _ => 0) 0 10) 1 10) 2 10) 3 10))]) hX fX2 0 2 rfl rfl (Nat.le_of_ble_eq_true rfl) fl_X2_19 rfl rfl rfl rfl rfl dX2_init_39 ?_
  refine z_aload_n hX 1 dX2_init_42 rfl ?_
  refine z_iconst (v := nI 0) hX dX2_init_43 (by decide) ?_
  refine z_put (v := .int (nI 0)) (ws' := [ob a 2 [.ref q1, .int (nI 0), .int (nI 0), .int (nI 0), .int (nI 0), .int (nI 0), .int (nI 0)], ia G q1 4 (fN (va_up (va_up (va_up (va_up (fun _ => 0) 0 10) 1 10) 2 10) 3 10))]) hX fX2 0 3 rfl rfl (Nat.le_of_ble_eq_true rfl) fl_X2_22 rfl rfl rfl rfl rfl dX2_init_44 ?_
  refine z_aload_n hX 1 dX2_init_47 rfl ?_
  refine z_iconst (v := nI 0) hX dX2_init_48 (by decide) ?_
  refine z_put (v := .int (nI 0)) (ws' := [ob a 2 [.ref q1, .int (nI 0), .int (nI 0), .int (nI 0), .int (nI 0), .int (nI 0), .int (nI 0)], ia G q1 4 (fN (va_up (va_up (va_up (va_up (fun _ => 0) 0 10) 1 10) 2 10) 3 10))]) hX fX2 0 4 rfl rfl (Nat.le_of_ble_eq_true rfl) fl_X2_25 rfl rfl rfl rfl rfl dX2_init_49 ?_
  refine z_aload_n hX 1 dX2_init_52 rfl ?_
  refine z_iconst (v := nI 0) hX dX2_init_53 (by decide) ?_
  refine z_put (v := .int (nI 0)) (ws' := [ob a 2 [.ref q1, .int (nI 0), .int (nI 0), .int (nI 0), .int (nI 0), .int (nI 0), .int (nI 0)], ia G q1 4 (fN (va_up (va_up (va_up (va_up (fun _ => 0) 0 10) 1 10) 2 10) 3 10))]) hX fX2 0 5 rfl rfl (Nat.le_of_ble_eq_true rfl) fl_X2_28 rfl rfl rfl rfl rfl dX2_init_54 ?_
  refine z_aload_n hX 1 dX2_init_57 rfl ?_
  refine z_iconst (v := nI 1) hX dX2_init_58 (by decide) ?_
  refine z_put (v := .int (nI 1)) (ws' := [ob a 2 [.ref q1, .int (nI 0), .int (nI 0), .int (nI 0), .int (nI 0), .int (nI 0), .int (nI 1)], ia G q1 4 (fN (va_up (va_up (va_up (va_up (fun _ => 0) 0 10) 1 10) 2 10) 3 10))]) hX fX2 0 6 rfl rfl (Nat.le_of_ble_eq_true rfl) fl_X2_31 rfl rfl rfl rfl rfl dX2_init_59 ?_
  refine z_iext (f' := (fN (sh 7 mom0))) (ws' := [ob a 2 [.ref q1, .int (nI 0), .int (nI 0), .int (nI 0), .int (nI 0), .int (nI 0), .int (nI 1)], ia G q1 4 (fN (sh 7 mom0))]) 1 rfl (fun j hj => co_4 (P := fun j => (fN (va_up (va_up (va_up (va_up (fun _ => 0) 0 10) 1 10) 2 10) 3 10)) j = (fN (sh 7 mom0)) j) rfl rfl rfl rfl hj) rfl ?_
  exact hR q1 _ _ trivial dX2_init_62
set_option maxRecDepth 100000 in
set_option maxHeartbeats 4000000 in
theorem c_X3_init (l : Launch) (G : zG) (h : Nat) : zMv l G yX3_init cX3_init 1 1 1 24 20 [.ref h] [ob h 3 [.null, .int (nI 0), .int (nI 0)]] (fun (_u : Nat) => True) (fun (_u : Nat) => [ob h 3 [.ref _u, .int (ln 0), .int (nI 0)], la G _u 24 (fun _ => 0)]) := by
  refine zMv.of (by decide) rfl (fun X A H0 hX hXl hnm hR => ?_)
  show Z (X, G, A, H0, 1) 0 0 [ob h 3 [.null, .int (nI 0), .int (nI 0)]] 0 [(0, .ref h)] []
  subst hXl
  refine z_aload_n hX 0 dX3_init_0 rfl ?_
  refine z_oi hX ml_X3_3 rfl dX3_init_1 ?_
  refine z_aload_n hX 0 dX3_init_4 rfl ?_
  refine z_bipush (v := nI 24) hX dX3_init_5 (by decide) ?_
  refine z_newal hX (by omega) rfl dX3_init_7 (fun q1 => ?_)
  show Z (X, G, A, H0, 1) _ _ [ob h 3 [.null, .int (nI 0), .int (nI 0)], la G q1 24 (fun _ => 0)] 9 [(0, .ref h)] [.ref q1, .ref h]
  refine z_putF (v := .ref q1) (ws' := [ob h 3 [.ref q1, .int (nI 0), .int (nI 0)], la G q1 24 (fun _ => 0)]) hX fX3 0 0 rfl rfl (Nat.le_of_ble_eq_true rfl) fl_X3_9 rfl rfl hnm rfl rfl rfl rfl dX3_init_9 ?_
  refine z_aload_n hX 0 dX3_init_12 rfl ?_
  refine z_iconst (v := ln 0) hX dX3_init_13 (by decide) ?_
  refine z_put (v := .int (ln 0)) (ws' := [ob h 3 [.ref q1, .int (ln 0), .int (nI 0)], la G q1 24 (fun _ => 0)]) hX fX3 0 1 rfl rfl (Nat.le_of_ble_eq_true rfl) fl_X3_15 rfl rfl rfl rfl rfl dX3_init_14 ?_
  refine z_aload_n hX 0 dX3_init_17 rfl ?_
  refine z_iconst (v := nI 0) hX dX3_init_18 (by decide) ?_
  refine z_put (v := .int (nI 0)) (ws' := [ob h 3 [.ref q1, .int (ln 0), .int (nI 0)], la G q1 24 (fun _ => 0)]) hX fX3 0 2 rfl rfl (Nat.le_of_ble_eq_true rfl) fl_X3_19 rfl rfl rfl rfl rfl dX3_init_19 ?_
  exact hR q1 _ _ trivial dX3_init_22
set_option maxRecDepth 100000 in
set_option maxHeartbeats 4000000 in
theorem c_X4_init (l : Launch) (G : zG) (ta : Nat) : zMv l G yX4_init cX4_init 1 1 1 80 20 [.ref ta] [ob ta 4 [.null, .int (nI 0), .int (nI 0)]] (fun (_u : Nat) => True) (fun (_u : Nat) => [ob ta 4 [.ref _u, .int (nI 0), .int (nI 0)], ca G _u 80 (fN (fun _ => 0))]) := by
  refine zMv.of (by decide) rfl (fun X A H0 hX hXl hnm hR => ?_)
  show Z (X, G, A, H0, 1) 0 0 [ob ta 4 [.null, .int (nI 0), .int (nI 0)]] 0 [(0, .ref ta)] []
  subst hXl
  refine z_aload_n hX 0 dX4_init_0 rfl ?_
  refine z_oi hX ml_X4_3 rfl dX4_init_1 ?_
  refine z_aload_n hX 0 dX4_init_4 rfl ?_
  refine z_bipush (v := nI 80) hX dX4_init_5 (by decide) ?_
  refine z_newac hX (by omega) rfl dX4_init_7 (fun q1 => ?_)
  show Z (X, G, A, H0, 1) _ _ [ob ta 4 [.null, .int (nI 0), .int (nI 0)], ca G q1 80 (fN (fun _ => 0))] 9 [(0, .ref ta)] [.ref q1, .ref ta]
  refine z_putF (v := .ref q1) (ws' := [ob ta 4 [.ref q1, .int (nI 0), .int (nI 0)], ca G q1 80 (fN (fun _ => 0))]) hX fX4 0 0 rfl rfl (Nat.le_of_ble_eq_true rfl) fl_X4_9 rfl rfl hnm rfl rfl rfl rfl dX4_init_9 ?_
  refine z_aload_n hX 0 dX4_init_12 rfl ?_
  refine z_iconst (v := nI 0) hX dX4_init_13 (by decide) ?_
  refine z_put (v := .int (nI 0)) (ws' := [ob ta 4 [.ref q1, .int (nI 0), .int (nI 0)], ca G q1 80 (fN (fun _ => 0))]) hX fX4 0 1 rfl rfl (Nat.le_of_ble_eq_true rfl) fl_X4_15 rfl rfl rfl rfl rfl dX4_init_14 ?_
  refine z_aload_n hX 0 dX4_init_17 rfl ?_
  refine z_iconst (v := nI 0) hX dX4_init_18 (by decide) ?_
  refine z_put (v := .int (nI 0)) (ws' := [ob ta 4 [.ref q1, .int (nI 0), .int (nI 0)], ca G q1 80 (fN (fun _ => 0))]) hX fX4 0 2 rfl rfl (Nat.le_of_ble_eq_true rfl) fl_X4_19 rfl rfl rfl rfl rfl dX4_init_19 ?_
  exact hR q1 _ _ trivial dX4_init_22
def f8 (a b c d e f g h : Nat) : Nat → Nat := fun k => if k = 0 then a else if k = 1 then b else if k = 2 then c else if k = 3 then d else if k = 4 then e else if k = 5 then f else if k = 6 then g else h
theorem co_8 {P : Nat → Prop} (h0 : P 0) (h1 : P 1) (h2 : P 2) (h3 : P 3) (h4 : P 4) (h5 : P 5) (h6 : P 6) (h7 : P 7) {i : Nat} (hi : i < 8) : P i := by
  rcases (show i = 0 ∨ i = 1 ∨ i = 2 ∨ i = 3 ∨ i = 4 ∨ i = 5 ∨ i = 6 ∨ i = 7 by omega) with rfl | rfl | rfl | rfl | rfl | rfl | rfl | rfl <;> assumption
set_option maxRecDepth 100000 in
set_option maxHeartbeats 4000000 in
theorem c_X5_init (l : Launch) (G : zG) (w : Nat) : zOMv l G yX5_init cX5_init 2 2 23 129 41 [.ref w] [ob w 5 [.null, .null, .null, .int (nI 0), .int (nI 0)]] (fun (_u : Nat × Nat × Nat × Nat × Nat × Nat × Nat × (Nat → Nat) × (Nat → Nat)) => True) (fun (_u : Nat × Nat × Nat × Nat × Nat × Nat × Nat × (Nat → Nat) × (Nat → Nat)) => [ob w 5 [.ref _u.1, .ref _u.2.2.1, .ref _u.2.2.2.2.2.2.1, .int (nI 0), .int (nI 0)], ob _u.1 2 (mf _u.2.1 mom0), ia G _u.2.1 4 (fN (sh 7 mom0)), ob _u.2.2.1 1 [.ref _u.2.2.2.1, .ref _u.2.2.2.2.1, .ref _u.2.2.2.2.2.1, .int (nI 0)], ia G _u.2.2.2.1 6 (fN (fun _ => 0)), ia G _u.2.2.2.2.1 6 (fN (fun _ => 0)), ia G _u.2.2.2.2.2.1 6 (fN (fun _ => 0)), ma G _u.2.2.2.2.2.2.1 8 (pmf _u.2.2.2.2.2.2.2.1), ob (_u.2.2.2.2.2.2.2.1 0) 2 (mf (_u.2.2.2.2.2.2.2.2 0) mom0), ia G (_u.2.2.2.2.2.2.2.2 0) 4 (fN (sh 7 mom0)), ob (_u.2.2.2.2.2.2.2.1 1) 2 (mf (_u.2.2.2.2.2.2.2.2 1) mom0), ia G (_u.2.2.2.2.2.2.2.2 1) 4 (fN (sh 7 mom0)), ob (_u.2.2.2.2.2.2.2.1 2) 2 (mf (_u.2.2.2.2.2.2.2.2 2) mom0), ia G (_u.2.2.2.2.2.2.2.2 2) 4 (fN (sh 7 mom0)), ob (_u.2.2.2.2.2.2.2.1 3) 2 (mf (_u.2.2.2.2.2.2.2.2 3) mom0), ia G (_u.2.2.2.2.2.2.2.2 3) 4 (fN (sh 7 mom0)), ob (_u.2.2.2.2.2.2.2.1 4) 2 (mf (_u.2.2.2.2.2.2.2.2 4) mom0), ia G (_u.2.2.2.2.2.2.2.2 4) 4 (fN (sh 7 mom0)), ob (_u.2.2.2.2.2.2.2.1 5) 2 (mf (_u.2.2.2.2.2.2.2.2 5) mom0), ia G (_u.2.2.2.2.2.2.2.2 5) 4 (fN (sh 7 mom0)), ob (_u.2.2.2.2.2.2.2.1 6) 2 (mf (_u.2.2.2.2.2.2.2.2 6) mom0), ia G (_u.2.2.2.2.2.2.2.2 6) 4 (fN (sh 7 mom0)), ob (_u.2.2.2.2.2.2.2.1 7) 2 (mf (_u.2.2.2.2.2.2.2.2 7) mom0), ia G (_u.2.2.2.2.2.2.2.2 7) 4 (fN (sh 7 mom0))]) := by
  refine zOMv.of (by decide) rfl (fun X A H0 hX hXl hnm hO hR => ?_)
  show Z (X, G, A, H0, 2) 0 0 [ob w 5 [.null, .null, .null, .int (nI 0), .int (nI 0)]] 0 [(0, .ref w)] []
  subst hXl
  refine z_aload_n hX 0 dX5_init_0 rfl ?_
  refine z_oi hX ml_X5_3 rfl dX5_init_1 ?_
  refine z_aload_n hX 0 dX5_init_4 rfl ?_
  refine z_new (fs := [.null, .int (nI 0), .int (nI 0), .int (nI 0), .int (nI 0), .int (nI 0), .int (nI 0)]) hX fX2 cl_X5_9 in_X2 ii_X2 (fun j hj => by rcases (show j = 0 ∨ j = 1 ∨ j = 2 ∨ j = 3 ∨ j = 4 ∨ j = 5 ∨ j = 6 by omega) with rfl | rfl | rfl | rfl | rfl | rfl | rfl <;> rfl) rfl dX5_init_5 (fun q1 => ?_)
  show Z (X, G, A, H0, 2) _ _ [ob w 5 [.null, .null, .null, .int (nI 0), .int (nI 0)], ob q1 2 [.null, .int (nI 0), .int (nI 0), .int (nI 0), .int (nI 0), .int (nI 0), .int (nI 0)]] 8 [(0, .ref w)] [.ref q1, .ref w]
  refine z_dup hX dX5_init_8 rfl ?_
  refine z_callI (st := [.ref q1, .ref w]) hX (c_X2_init _ G q1) lb_X2_init rfl ml_X5_11 (fun (_u : Nat) => [ob w 5 [.null, .null, .null, .int (nI 0), .int (nI 0)], ob q1 2 (mf _u mom0), ia G _u 4 (fN (sh 7 mom0))]) (wr := [ob w 5 [.null, .null, .null, .int (nI 0), .int (nI 0)]]) [1] [0] [0, 1, 2] ⟨rfl, rfl, rfl, fun _ => rfl⟩ rfl rfl rfl dX5_init_9 rfl (fun u9 _ => ?_)
  obtain ⟨b_2, rfl⟩ : ∃ z9, z9 = u9 := ⟨_, rfl⟩
  show Z (X, G, A, H0, 2) _ _ [ob w 5 [.null, .null, .null, .int (nI 0), .int (nI 0)], ob q1 2 (mf b_2 mom0), ia G b_2 4 (fN (sh 7 mom0))] 12 [(0, .ref w)] [.ref q1, .ref w]
  refine z_putF (v := .ref q1) (ws' := [ob w 5 [.ref q1, .null, .null, .int (nI 0), .int (nI 0)], ob q1 2 (mf b_2 mom0), ia G b_2 4 (fN (sh 7 mom0))]) hX fX5 0 0 rfl rfl (Nat.le_of_ble_eq_true rfl) fl_X5_12 rfl rfl hnm rfl rfl rfl rfl dX5_init_12 ?_
  refine z_aload_n hX 0 dX5_init_15 rfl ?_
  refine z_new (fs := [.null, .null, .null, .int (nI 0)]) hX fX1 cl_X5_18 in_X1 ii_X1 (fun j hj => by rcases (show j = 0 ∨ j = 1 ∨ j = 2 ∨ j = 3 by omega) with rfl | rfl | rfl | rfl <;> rfl) rfl dX5_init_16 (fun q3 => ?_)
  show Z (X, G, A, H0, 2) _ _ [ob w 5 [.ref q1, .null, .null, .int (nI 0), .int (nI 0)], ob q1 2 (mf b_2 mom0), ia G b_2 4 (fN (sh 7 mom0)), ob q3 1 [.null, .null, .null, .int (nI 0)]] 19 [(0, .ref w)] [.ref q3, .ref w]
  refine z_dup hX dX5_init_19 rfl ?_
  refine z_callI (st := [.ref q3, .ref w]) hX (c_X1_init _ G q3) lb_X1_init rfl ml_X5_20 (fun (_u : Nat × Nat × Nat) => [ob w 5 [.ref q1, .null, .null, .int (nI 0), .int (nI 0)], ob q1 2 (mf b_2 mom0), ia G b_2 4 (fN (sh 7 mom0)), ob q3 1 [.ref _u.1, .ref _u.2.1, .ref _u.2.2, .int (nI 0)], ia G _u.1 6 (fN (fun _ => 0)), ia G _u.2.1 6 (fN (fun _ => 0)), ia G _u.2.2 6 (fN (fun _ => 0))]) (wr := [ob w 5 [.ref q1, .null, .null, .int (nI 0), .int (nI 0)], ob q1 2 (mf b_2 mom0), ia G b_2 4 (fN (sh 7 mom0))]) [3] [0, 1, 2] [0, 1, 2, 3, 4, 5, 6] ⟨rfl, rfl, rfl, fun _ => rfl⟩ rfl rfl rfl dX5_init_20 rfl (fun u20 _ => ?_)
  obtain ⟨ck_4, cl_5, ce_6⟩ := u20
  show Z (X, G, A, H0, 2) _ _ [ob w 5 [.ref q1, .null, .null, .int (nI 0), .int (nI 0)], ob q1 2 (mf b_2 mom0), ia G b_2 4 (fN (sh 7 mom0)), ob q3 1 [.ref ck_4, .ref cl_5, .ref ce_6, .int (nI 0)], ia G ck_4 6 (fN (fun _ => 0)), ia G cl_5 6 (fN (fun _ => 0)), ia G ce_6 6 (fN (fun _ => 0))] 23 [(0, .ref w)] [.ref q3, .ref w]
  refine z_putF (v := .ref q3) (ws' := [ob w 5 [.ref q1, .ref q3, .null, .int (nI 0), .int (nI 0)], ob q1 2 (mf b_2 mom0), ia G b_2 4 (fN (sh 7 mom0)), ob q3 1 [.ref ck_4, .ref cl_5, .ref ce_6, .int (nI 0)], ia G ck_4 6 (fN (fun _ => 0)), ia G cl_5 6 (fN (fun _ => 0)), ia G ce_6 6 (fN (fun _ => 0))]) hX fX5 0 1 rfl rfl (Nat.le_of_ble_eq_true rfl) fl_X5_21 rfl rfl hnm rfl rfl rfl rfl dX5_init_23 ?_
  refine z_aload_n hX 0 dX5_init_26 rfl ?_
  refine z_bipush (v := nI 8) hX dX5_init_27 (by decide) ?_
  refine z_newqm hX hO (by omega) cl_X5_9 rfl dX5_init_29 (fun q7 => ?_)
  show Z (X, G, A, H0, 2) _ _ [ob w 5 [.ref q1, .ref q3, .null, .int (nI 0), .int (nI 0)], ob q1 2 (mf b_2 mom0), ia G b_2 4 (fN (sh 7 mom0)), ob q3 1 [.ref ck_4, .ref cl_5, .ref ce_6, .int (nI 0)], ia G ck_4 6 (fN (fun _ => 0)), ia G cl_5 6 (fN (fun _ => 0)), ia G ce_6 6 (fN (fun _ => 0)), ma G q7 8 (fun _ => none)] 32 [(0, .ref w)] [.ref q7, .ref w]
  refine z_putF (v := .ref q7) (ws' := [ob w 5 [.ref q1, .ref q3, .ref q7, .int (nI 0), .int (nI 0)], ob q1 2 (mf b_2 mom0), ia G b_2 4 (fN (sh 7 mom0)), ob q3 1 [.ref ck_4, .ref cl_5, .ref ce_6, .int (nI 0)], ia G ck_4 6 (fN (fun _ => 0)), ia G cl_5 6 (fN (fun _ => 0)), ia G ce_6 6 (fN (fun _ => 0)), ma G q7 8 (fun _ => none)]) hX fX5 0 2 rfl rfl (Nat.le_of_ble_eq_true rfl) fl_X5_25 rfl rfl hnm rfl rfl rfl rfl dX5_init_32 ?_
  refine z_iconst (v := nI 0) hX dX5_init_35 (by decide) ?_
  refine z_istore_n (L' := [(1, .int (nI 0)), (0, .ref w)]) hX dX5_init_36 (Nat.le_of_ble_eq_true rfl) rfl ?_
  refine z_iload_n hX 0 dX5_init_37 rfl ?_
  refine z_bipush (v := nI 8) hX dX5_init_38 (by decide) ?_
  refine zn_icmp_ge (tgt := 62) hX dX5_init_40 (by decide) (by omega) (by omega) (fun c40 => absurd c40 (by omega)) (fun _ => ?_)
  refine z_aload_n hX 1 dX5_init_43 rfl ?_
  refine z_get (v := .ref q7) hX fX5 0 2 rfl rfl (Nat.le_of_ble_eq_true rfl) fl_X5_25 rfl dX5_init_44 ?_
  refine z_iload_n hX 0 dX5_init_47 rfl ?_
  refine z_new (fs := [.null, .int (nI 0), .int (nI 0), .int (nI 0), .int (nI 0), .int (nI 0), .int (nI 0)]) hX fX2 cl_X5_9 in_X2 ii_X2 (fun j hj => by rcases (show j = 0 ∨ j = 1 ∨ j = 2 ∨ j = 3 ∨ j = 4 ∨ j = 5 ∨ j = 6 by omega) with rfl | rfl | rfl | rfl | rfl | rfl | rfl <;> rfl) rfl dX5_init_48 (fun q8 => ?_)
  show Z (X, G, A, H0, 2) _ _ [ob w 5 [.ref q1, .ref q3, .ref q7, .int (nI 0), .int (nI 0)], ob q1 2 (mf b_2 mom0), ia G b_2 4 (fN (sh 7 mom0)), ob q3 1 [.ref ck_4, .ref cl_5, .ref ce_6, .int (nI 0)], ia G ck_4 6 (fN (fun _ => 0)), ia G cl_5 6 (fN (fun _ => 0)), ia G ce_6 6 (fN (fun _ => 0)), ma G q7 8 (fun _ => none), ob q8 2 [.null, .int (nI 0), .int (nI 0), .int (nI 0), .int (nI 0), .int (nI 0), .int (nI 0)]] 51 [(1, .int (nI 0)), (0, .ref w)] [.ref q8, .int (nI 0), .ref q7]
  refine z_dup hX dX5_init_51 rfl ?_
  refine z_callI (st := [.ref q8, .int (nI 0), .ref q7]) hX (c_X2_init _ G q8) lb_X2_init rfl ml_X5_11 (fun (_u : Nat) => [ob w 5 [.ref q1, .ref q3, .ref q7, .int (nI 0), .int (nI 0)], ob q1 2 (mf b_2 mom0), ia G b_2 4 (fN (sh 7 mom0)), ob q3 1 [.ref ck_4, .ref cl_5, .ref ce_6, .int (nI 0)], ia G ck_4 6 (fN (fun _ => 0)), ia G cl_5 6 (fN (fun _ => 0)), ia G ce_6 6 (fN (fun _ => 0)), ma G q7 8 (fun _ => none), ob q8 2 (mf _u mom0), ia G _u 4 (fN (sh 7 mom0))]) (wr := [ob w 5 [.ref q1, .ref q3, .ref q7, .int (nI 0), .int (nI 0)], ob q1 2 (mf b_2 mom0), ia G b_2 4 (fN (sh 7 mom0)), ob q3 1 [.ref ck_4, .ref cl_5, .ref ce_6, .int (nI 0)], ia G ck_4 6 (fN (fun _ => 0)), ia G cl_5 6 (fN (fun _ => 0)), ia G ce_6 6 (fN (fun _ => 0)), ma G q7 8 (fun _ => none)]) [8] [0, 1, 2, 3, 4, 5, 6, 7] [0, 1, 2, 3, 4, 5, 6, 7, 8, 9] ⟨rfl, rfl, rfl, fun _ => rfl⟩ rfl rfl rfl dX5_init_52 rfl (fun u52 _ => ?_)
  obtain ⟨b_9, rfl⟩ : ∃ z9, z9 = u52 := ⟨_, rfl⟩
  show Z (X, G, A, H0, 2) _ _ [ob w 5 [.ref q1, .ref q3, .ref q7, .int (nI 0), .int (nI 0)], ob q1 2 (mf b_2 mom0), ia G b_2 4 (fN (sh 7 mom0)), ob q3 1 [.ref ck_4, .ref cl_5, .ref ce_6, .int (nI 0)], ia G ck_4 6 (fN (fun _ => 0)), ia G cl_5 6 (fN (fun _ => 0)), ia G ce_6 6 (fN (fun _ => 0)), ma G q7 8 (fun _ => none), ob q8 2 (mf b_9 mom0), ia G b_9 4 (fN (sh 7 mom0))] 55 [(1, .int (nI 0)), (0, .ref w)] [.ref q8, .int (nI 0), .ref q7]
  refine z_astqm (ws' := [ob w 5 [.ref q1, .ref q3, .ref q7, .int (nI 0), .int (nI 0)], ob q1 2 (mf b_2 mom0), ia G b_2 4 (fN (sh 7 mom0)), ob q3 1 [.ref ck_4, .ref cl_5, .ref ce_6, .int (nI 0)], ia G ck_4 6 (fN (fun _ => 0)), ia G cl_5 6 (fN (fun _ => 0)), ia G ce_6 6 (fN (fun _ => 0)), ma G q7 8 (va_up (fun _ => none) 0 (some q8)), ob q8 2 (mf b_9 mom0), ia G b_9 4 (fN (sh 7 mom0))]) hX 7 8 rfl rfl (by omega) (by decide) rfl rfl dX5_init_55 ?_
  refine z_iinc (v := (nI 1)) (L' := [(1, .int (nI 1)), (0, .ref w)]) hX 0 dX5_init_56 rfl (by decide) (Nat.le_of_ble_eq_true rfl) rfl ?_
  refine z_goto (tgt := 37) hX dX5_init_59 (by decide) ?_
  refine z_iload_n hX 0 dX5_init_37 rfl ?_
  refine z_bipush (v := nI 8) hX dX5_init_38 (by decide) ?_
  refine zn_icmp_ge (tgt := 62) hX dX5_init_40 (by decide) (by omega) (by omega) (fun c40 => absurd c40 (by omega)) (fun _ => ?_)
  refine z_aload_n hX 1 dX5_init_43 rfl ?_
  refine z_get (v := .ref q7) hX fX5 0 2 rfl rfl (Nat.le_of_ble_eq_true rfl) fl_X5_25 rfl dX5_init_44 ?_
  refine z_iload_n hX 0 dX5_init_47 rfl ?_
  refine z_new (fs := [.null, .int (nI 0), .int (nI 0), .int (nI 0), .int (nI 0), .int (nI 0), .int (nI 0)]) hX fX2 cl_X5_9 in_X2 ii_X2 (fun j hj => by rcases (show j = 0 ∨ j = 1 ∨ j = 2 ∨ j = 3 ∨ j = 4 ∨ j = 5 ∨ j = 6 by omega) with rfl | rfl | rfl | rfl | rfl | rfl | rfl <;> rfl) rfl dX5_init_48 (fun q10 => ?_)
  show Z (X, G, A, H0, 2) _ _ [ob w 5 [.ref q1, .ref q3, .ref q7, .int (nI 0), .int (nI 0)], ob q1 2 (mf b_2 mom0), ia G b_2 4 (fN (sh 7 mom0)), ob q3 1 [.ref ck_4, .ref cl_5, .ref ce_6, .int (nI 0)], ia G ck_4 6 (fN (fun _ => 0)), ia G cl_5 6 (fN (fun _ => 0)), ia G ce_6 6 (fN (fun _ => 0)), ma G q7 8 (va_up (fun _ => none) 0 (some q8)), ob q8 2 (mf b_9 mom0), ia G b_9 4 (fN (sh 7 mom0)), ob q10 2 [.null, .int (nI 0), .int (nI 0), .int (nI 0), .int (nI 0), .int (nI 0), .int (nI 0)]] 51 [(1, .int (nI 1)), (0, .ref w)] [.ref q10, .int (nI 1), .ref q7]
  refine z_dup hX dX5_init_51 rfl ?_
  refine z_callI (st := [.ref q10, .int (nI 1), .ref q7]) hX (c_X2_init _ G q10) lb_X2_init rfl ml_X5_11 (fun (_u : Nat) => [ob w 5 [.ref q1, .ref q3, .ref q7, .int (nI 0), .int (nI 0)], ob q1 2 (mf b_2 mom0), ia G b_2 4 (fN (sh 7 mom0)), ob q3 1 [.ref ck_4, .ref cl_5, .ref ce_6, .int (nI 0)], ia G ck_4 6 (fN (fun _ => 0)), ia G cl_5 6 (fN (fun _ => 0)), ia G ce_6 6 (fN (fun _ => 0)), ma G q7 8 (va_up (fun _ => none) 0 (some q8)), ob q8 2 (mf b_9 mom0), ia G b_9 4 (fN (sh 7 mom0)), ob q10 2 (mf _u mom0), ia G _u 4 (fN (sh 7 mom0))]) (wr := [ob w 5 [.ref q1, .ref q3, .ref q7, .int (nI 0), .int (nI 0)], ob q1 2 (mf b_2 mom0), ia G b_2 4 (fN (sh 7 mom0)), ob q3 1 [.ref ck_4, .ref cl_5, .ref ce_6, .int (nI 0)], ia G ck_4 6 (fN (fun _ => 0)), ia G cl_5 6 (fN (fun _ => 0)), ia G ce_6 6 (fN (fun _ => 0)), ma G q7 8 (va_up (fun _ => none) 0 (some q8)), ob q8 2 (mf b_9 mom0), ia G b_9 4 (fN (sh 7 mom0))]) [10] [0, 1, 2, 3, 4, 5, 6, 7, 8, 9] [0, 1, 2, 3, 4, 5, 6, 7, 8, 9, 10, 11] ⟨rfl, rfl, rfl, fun _ => rfl⟩ rfl rfl rfl dX5_init_52 rfl (fun u52 _ => ?_)
  obtain ⟨b_11, rfl⟩ : ∃ z9, z9 = u52 := ⟨_, rfl⟩
  show Z (X, G, A, H0, 2) _ _ [ob w 5 [.ref q1, .ref q3, .ref q7, .int (nI 0), .int (nI 0)], ob q1 2 (mf b_2 mom0), ia G b_2 4 (fN (sh 7 mom0)), ob q3 1 [.ref ck_4, .ref cl_5, .ref ce_6, .int (nI 0)], ia G ck_4 6 (fN (fun _ => 0)), ia G cl_5 6 (fN (fun _ => 0)), ia G ce_6 6 (fN (fun _ => 0)), ma G q7 8 (va_up (fun _ => none) 0 (some q8)), ob q8 2 (mf b_9 mom0), ia G b_9 4 (fN (sh 7 mom0)), ob q10 2 (mf b_11 mom0), ia G b_11 4 (fN (sh 7 mom0))] 55 [(1, .int (nI 1)), (0, .ref w)] [.ref q10, .int (nI 1), .ref q7]
  refine z_astqm (ws' := [ob w 5 [.ref q1, .ref q3, .ref q7, .int (nI 0), .int (nI 0)], ob q1 2 (mf b_2 mom0), ia G b_2 4 (fN (sh 7 mom0)), ob q3 1 [.ref ck_4, .ref cl_5, .ref ce_6, .int (nI 0)], ia G ck_4 6 (fN (fun _ => 0)), ia G cl_5 6 (fN (fun _ => 0)), ia G ce_6 6 (fN (fun _ => 0)), ma G q7 8 (va_up (va_up (fun _ => none) 0 (some q8)) 1 (some q10)), ob q8 2 (mf b_9 mom0), ia G b_9 4 (fN (sh 7 mom0)), ob q10 2 (mf b_11 mom0), ia G b_11 4 (fN (sh 7 mom0))]) hX 7 10 rfl rfl (by omega) (by decide) rfl rfl dX5_init_55 ?_
  refine z_iinc (v := (nI 2)) (L' := [(1, .int (nI 2)), (0, .ref w)]) hX 0 dX5_init_56 rfl (by decide) (Nat.le_of_ble_eq_true rfl) rfl ?_
  refine z_goto (tgt := 37) hX dX5_init_59 (by decide) ?_
  refine z_iload_n hX 0 dX5_init_37 rfl ?_
  refine z_bipush (v := nI 8) hX dX5_init_38 (by decide) ?_
  refine zn_icmp_ge (tgt := 62) hX dX5_init_40 (by decide) (by omega) (by omega) (fun c40 => absurd c40 (by omega)) (fun _ => ?_)
  refine z_aload_n hX 1 dX5_init_43 rfl ?_
  refine z_get (v := .ref q7) hX fX5 0 2 rfl rfl (Nat.le_of_ble_eq_true rfl) fl_X5_25 rfl dX5_init_44 ?_
  refine z_iload_n hX 0 dX5_init_47 rfl ?_
  refine z_new (fs := [.null, .int (nI 0), .int (nI 0), .int (nI 0), .int (nI 0), .int (nI 0), .int (nI 0)]) hX fX2 cl_X5_9 in_X2 ii_X2 (fun j hj => by rcases (show j = 0 ∨ j = 1 ∨ j = 2 ∨ j = 3 ∨ j = 4 ∨ j = 5 ∨ j = 6 by omega) with rfl | rfl | rfl | rfl | rfl | rfl | rfl <;> rfl) rfl dX5_init_48 (fun q12 => ?_)
  show Z (X, G, A, H0, 2) _ _ [ob w 5 [.ref q1, .ref q3, .ref q7, .int (nI 0), .int (nI 0)], ob q1 2 (mf b_2 mom0), ia G b_2 4 (fN (sh 7 mom0)), ob q3 1 [.ref ck_4, .ref cl_5, .ref ce_6, .int (nI 0)], ia G ck_4 6 (fN (fun _ => 0)), ia G cl_5 6 (fN (fun _ => 0)), ia G ce_6 6 (fN (fun _ => 0)), ma G q7 8 (va_up (va_up (fun _ => none) 0 (some q8)) 1 (some q10)), ob q8 2 (mf b_9 mom0), ia G b_9 4 (fN (sh 7 mom0)), ob q10 2 (mf b_11 mom0), ia G b_11 4 (fN (sh 7 mom0)), ob q12 2 [.null, .int (nI 0), .int (nI 0), .int (nI 0), .int (nI 0), .int (nI 0), .int (nI 0)]] 51 [(1, .int (nI 2)), (0, .ref w)] [.ref q12, .int (nI 2), .ref q7]
  refine z_dup hX dX5_init_51 rfl ?_
  refine z_callI (st := [.ref q12, .int (nI 2), .ref q7]) hX (c_X2_init _ G q12) lb_X2_init rfl ml_X5_11 (fun (_u : Nat) => [ob w 5 [.ref q1, .ref q3, .ref q7, .int (nI 0), .int (nI 0)], ob q1 2 (mf b_2 mom0), ia G b_2 4 (fN (sh 7 mom0)), ob q3 1 [.ref ck_4, .ref cl_5, .ref ce_6, .int (nI 0)], ia G ck_4 6 (fN (fun _ => 0)), ia G cl_5 6 (fN (fun _ => 0)), ia G ce_6 6 (fN (fun _ => 0)), ma G q7 8 (va_up (va_up (fun _ => none) 0 (some q8)) 1 (some q10)), ob q8 2 (mf b_9 mom0), ia G b_9 4 (fN (sh 7 mom0)), ob q10 2 (mf b_11 mom0), ia G b_11 4 (fN (sh 7 mom0)), ob q12 2 (mf _u mom0), ia G _u 4 (fN (sh 7 mom0))]) (wr := [ob w 5 [.ref q1, .ref q3, .ref q7, .int (nI 0), .int (nI 0)], ob q1 2 (mf b_2 mom0), ia G b_2 4 (fN (sh 7 mom0)), ob q3 1 [.ref ck_4, .ref cl_5, .ref ce_6, .int (nI 0)], ia G ck_4 6 (fN (fun _ => 0)), ia G cl_5 6 (fN (fun _ => 0)), ia G ce_6 6 (fN (fun _ => 0)), ma G q7 8 (va_up (va_up (fun _ => none) 0 (some q8)) 1 (some q10)), ob q8 2 (mf b_9 mom0), ia G b_9 4 (fN (sh 7 mom0)), ob q10 2 (mf b_11 mom0), ia G b_11 4 (fN (sh 7 mom0))]) [12] [0, 1, 2, 3, 4, 5, 6, 7, 8, 9, 10, 11] [0, 1, 2, 3, 4, 5, 6, 7, 8, 9, 10, 11, 12, 13] ⟨rfl, rfl, rfl, fun _ => rfl⟩ rfl rfl rfl dX5_init_52 rfl (fun u52 _ => ?_)
  obtain ⟨b_13, rfl⟩ : ∃ z9, z9 = u52 := ⟨_, rfl⟩
  show Z (X, G, A, H0, 2) _ _ [ob w 5 [.ref q1, .ref q3, .ref q7, .int (nI 0), .int (nI 0)], ob q1 2 (mf b_2 mom0), ia G b_2 4 (fN (sh 7 mom0)), ob q3 1 [.ref ck_4, .ref cl_5, .ref ce_6, .int (nI 0)], ia G ck_4 6 (fN (fun _ => 0)), ia G cl_5 6 (fN (fun _ => 0)), ia G ce_6 6 (fN (fun _ => 0)), ma G q7 8 (va_up (va_up (fun _ => none) 0 (some q8)) 1 (some q10)), ob q8 2 (mf b_9 mom0), ia G b_9 4 (fN (sh 7 mom0)), ob q10 2 (mf b_11 mom0), ia G b_11 4 (fN (sh 7 mom0)), ob q12 2 (mf b_13 mom0), ia G b_13 4 (fN (sh 7 mom0))] 55 [(1, .int (nI 2)), (0, .ref w)] [.ref q12, .int (nI 2), .ref q7]
  refine z_astqm (ws' := [ob w 5 [.ref q1, .ref q3, .ref q7, .int (nI 0), .int (nI 0)], ob q1 2 (mf b_2 mom0), ia G b_2 4 (fN (sh 7 mom0)), ob q3 1 [.ref ck_4, .ref cl_5, .ref ce_6, .int (nI 0)], ia G ck_4 6 (fN (fun _ => 0)), ia G cl_5 6 (fN (fun _ => 0)), ia G ce_6 6 (fN (fun _ => 0)), ma G q7 8 (va_up (va_up (va_up (fun _ => none) 0 (some q8)) 1 (some q10)) 2 (some q12)), ob q8 2 (mf b_9 mom0), ia G b_9 4 (fN (sh 7 mom0)), ob q10 2 (mf b_11 mom0), ia G b_11 4 (fN (sh 7 mom0)), ob q12 2 (mf b_13 mom0), ia G b_13 4 (fN (sh 7 mom0))]) hX 7 12 rfl rfl (by omega) (by decide) rfl rfl dX5_init_55 ?_
  refine z_iinc (v := (nI 3)) (L' := [(1, .int (nI 3)), (0, .ref w)]) hX 0 dX5_init_56 rfl (by decide) (Nat.le_of_ble_eq_true rfl) rfl ?_
  refine z_goto (tgt := 37) hX dX5_init_59 (by decide) ?_
  refine z_iload_n hX 0 dX5_init_37 rfl ?_
  refine z_bipush (v := nI 8) hX dX5_init_38 (by decide) ?_
  refine zn_icmp_ge (tgt := 62) hX dX5_init_40 (by decide) (by omega) (by omega) (fun c40 => absurd c40 (by omega)) (fun _ => ?_)
  refine z_aload_n hX 1 dX5_init_43 rfl ?_
  refine z_get (v := .ref q7) hX fX5 0 2 rfl rfl (Nat.le_of_ble_eq_true rfl) fl_X5_25 rfl dX5_init_44 ?_
  refine z_iload_n hX 0 dX5_init_47 rfl ?_
  refine z_new (fs := [.null, .int (nI 0), .int (nI 0), .int (nI 0), .int (nI 0), .int (nI 0), .int (nI 0)]) hX fX2 cl_X5_9 in_X2 ii_X2 (fun j hj => by rcases (show j = 0 ∨ j = 1 ∨ j = 2 ∨ j = 3 ∨ j = 4 ∨ j = 5 ∨ j = 6 by omega) with rfl | rfl | rfl | rfl | rfl | rfl | rfl <;> rfl) rfl dX5_init_48 (fun q14 => ?_)
  show Z (X, G, A, H0, 2) _ _ [ob w 5 [.ref q1, .ref q3, .ref q7, .int (nI 0), .int (nI 0)], ob q1 2 (mf b_2 mom0), ia G b_2 4 (fN (sh 7 mom0)), ob q3 1 [.ref ck_4, .ref cl_5, .ref ce_6, .int (nI 0)], ia G ck_4 6 (fN (fun _ => 0)), ia G cl_5 6 (fN (fun _ => 0)), ia G ce_6 6 (fN (fun _ => 0)), ma G q7 8 (va_up (va_up (va_up (fun _ => none) 0 (some q8)) 1 (some q10)) 2 (some q12)), ob q8 2 (mf b_9 mom0), ia G b_9 4 (fN (sh 7 mom0)), ob q10 2 (mf b_11 mom0), ia G b_11 4 (fN (sh 7 mom0)), ob q12 2 (mf b_13 mom0), ia G b_13 4 (fN (sh 7 mom0)), ob q14 2 [.null, .int (nI 0), .int (nI 0), .int (nI 0), .int (nI 0), .int (nI 0), .int (nI 0)]] 51 [(1, .int (nI 3)), (0, .ref w)] [.ref q14, .int (nI 3), .ref q7]
  refine z_dup hX dX5_init_51 rfl ?_
  refine z_callI (st := [.ref q14, .int (nI 3), .ref q7]) hX (c_X2_init _ G q14) lb_X2_init rfl ml_X5_11 (fun (_u : Nat) => [ob w 5 [.ref q1, .ref q3, .ref q7, .int (nI 0), .int (nI 0)], ob q1 2 (mf b_2 mom0), ia G b_2 4 (fN (sh 7 mom0)), ob q3 1 [.ref ck_4, .ref cl_5, .ref ce_6, .int (nI 0)], ia G ck_4 6 (fN (fun _ => 0)), ia G cl_5 6 (fN (fun _ => 0)), ia G ce_6 6 (fN (fun _ => 0)), ma G q7 8 (va_up (va_up (va_up (fun _ => none) 0 (some q8)) 1 (some q10)) 2 (some q12)), ob q8 2 (mf b_9 mom0), ia G b_9 4 (fN (sh 7 mom0)), ob q10 2 (mf b_11 mom0), ia G b_11 4 (fN (sh 7 mom0)), ob q12 2 (mf b_13 mom0), ia G b_13 4 (fN (sh 7 mom0)), ob q14 2 (mf _u mom0), ia G _u 4 (fN (sh 7 mom0))]) (wr := [ob w 5 [.ref q1, .ref q3, .ref q7, .int (nI 0), .int (nI 0)], ob q1 2 (mf b_2 mom0), ia G b_2 4 (fN (sh 7 mom0)), ob q3 1 [.ref ck_4, .ref cl_5, .ref ce_6, .int (nI 0)], ia G ck_4 6 (fN (fun _ => 0)), ia G cl_5 6 (fN (fun _ => 0)), ia G ce_6 6 (fN (fun _ => 0)), ma G q7 8 (va_up (va_up (va_up (fun _ => none) 0 (some q8)) 1 (some q10)) 2 (some q12)), ob q8 2 (mf b_9 mom0), ia G b_9 4 (fN (sh 7 mom0)), ob q10 2 (mf b_11 mom0), ia G b_11 4 (fN (sh 7 mom0)), ob q12 2 (mf b_13 mom0), ia G b_13 4 (fN (sh 7 mom0))]) [14] [0, 1, 2, 3, 4, 5, 6, 7, 8, 9, 10, 11, 12, 13] [0, 1, 2, 3, 4, 5, 6, 7, 8, 9, 10, 11, 12, 13, 14, 15] ⟨rfl, rfl, rfl, fun _ => rfl⟩ rfl rfl rfl dX5_init_52 rfl (fun u52 _ => ?_)
  obtain ⟨b_15, rfl⟩ : ∃ z9, z9 = u52 := ⟨_, rfl⟩
  show Z (X, G, A, H0, 2) _ _ [ob w 5 [.ref q1, .ref q3, .ref q7, .int (nI 0), .int (nI 0)], ob q1 2 (mf b_2 mom0), ia G b_2 4 (fN (sh 7 mom0)), ob q3 1 [.ref ck_4, .ref cl_5, .ref ce_6, .int (nI 0)], ia G ck_4 6 (fN (fun _ => 0)), ia G cl_5 6 (fN (fun _ => 0)), ia G ce_6 6 (fN (fun _ => 0)), ma G q7 8 (va_up (va_up (va_up (fun _ => none) 0 (some q8)) 1 (some q10)) 2 (some q12)), ob q8 2 (mf b_9 mom0), ia G b_9 4 (fN (sh 7 mom0)), ob q10 2 (mf b_11 mom0), ia G b_11 4 (fN (sh 7 mom0)), ob q12 2 (mf b_13 mom0), ia G b_13 4 (fN (sh 7 mom0)), ob q14 2 (mf b_15 mom0), ia G b_15 4 (fN (sh 7 mom0))] 55 [(1, .int (nI 3)), (0, .ref w)] [.ref q14, .int (nI 3), .ref q7]
  refine z_astqm (ws' := [ob w 5 [.ref q1, .ref q3, .ref q7, .int (nI 0), .int (nI 0)], ob q1 2 (mf b_2 mom0), ia G b_2 4 (fN (sh 7 mom0)), ob q3 1 [.ref ck_4, .ref cl_5, .ref ce_6, .int (nI 0)], ia G ck_4 6 (fN (fun _ => 0)), ia G cl_5 6 (fN (fun _ => 0)), ia G ce_6 6 (fN (fun _ => 0)), ma G q7 8 (va_up (va_up (va_up (va_up (fun _ => none) 0 (some q8)) 1 (some q10)) 2 (some q12)) 3 (some q14)), ob q8 2 (mf b_9 mom0), ia G b_9 4 (fN (sh 7 mom0)), ob q10 2 (mf b_11 mom0), ia G b_11 4 (fN (sh 7 mom0)), ob q12 2 (mf b_13 mom0), ia G b_13 4 (fN (sh 7 mom0)), ob q14 2 (mf b_15 mom0), ia G b_15 4 (fN (sh 7 mom0))]) hX 7 14 rfl rfl (by omega) (by decide) rfl rfl dX5_init_55 ?_
  refine z_iinc (v := (nI 4)) (L' := [(1, .int (nI 4)), (0, .ref w)]) hX 0 dX5_init_56 rfl (by decide) (Nat.le_of_ble_eq_true rfl) rfl ?_
  refine z_goto (tgt := 37) hX dX5_init_59 (by decide) ?_
  refine z_iload_n hX 0 dX5_init_37 rfl ?_
  refine z_bipush (v := nI 8) hX dX5_init_38 (by decide) ?_
  refine zn_icmp_ge (tgt := 62) hX dX5_init_40 (by decide) (by omega) (by omega) (fun c40 => absurd c40 (by omega)) (fun _ => ?_)
  refine z_aload_n hX 1 dX5_init_43 rfl ?_
  refine z_get (v := .ref q7) hX fX5 0 2 rfl rfl (Nat.le_of_ble_eq_true rfl) fl_X5_25 rfl dX5_init_44 ?_
  refine z_iload_n hX 0 dX5_init_47 rfl ?_
  refine z_new (fs := [.null, .int (nI 0), .int (nI 0), .int (nI 0), .int (nI 0), .int (nI 0), .int (nI 0)]) hX fX2 cl_X5_9 in_X2 ii_X2 (fun j hj => by rcases (show j = 0 ∨ j = 1 ∨ j = 2 ∨ j = 3 ∨ j = 4 ∨ j = 5 ∨ j = 6 by omega) with rfl | rfl | rfl | rfl | rfl | rfl | rfl <;> rfl) rfl dX5_init_48 (fun q16 => ?_)
  show Z (X, G, A, H0, 2) _ _ [ob w 5 [.ref q1, .ref q3, .ref q7, .int (nI 0), .int (nI 0)], ob q1 2 (mf b_2 mom0), ia G b_2 4 (fN (sh 7 mom0)), ob q3 1 [.ref ck_4, .ref cl_5, .ref ce_6, .int (nI 0)], ia G ck_4 6 (fN (fun _ => 0)), ia G cl_5 6 (fN (fun _ => 0)), ia G ce_6 6 (fN (fun _ => 0)), ma G q7 8 (va_up (va_up (va_up (va_up (fun _ => none) 0 (some q8)) 1 (some q10)) 2 (some q12)) 3 (some q14)), ob q8 2 (mf b_9 mom0), ia G b_9 4 (fN (sh 7 mom0)), ob q10 2 (mf b_11 mom0), ia G b_11 4 (fN (sh 7 mom0)), ob q12 2 (mf b_13 mom0), ia G b_13 4 (fN (sh 7 mom0)), ob q14 2 (mf b_15 mom0), ia G b_15 4 (fN (sh 7 mom0)), ob q16 2 [.null, .int (nI 0), .int (nI 0), .int (nI 0), .int (nI 0), .int (nI 0), .int (nI 0)]] 51 [(1, .int (nI 4)), (0, .ref w)] [.ref q16, .int (nI 4), .ref q7]
  refine z_dup hX dX5_init_51 rfl ?_
  refine z_callI (st := [.ref q16, .int (nI 4), .ref q7]) hX (c_X2_init _ G q16) lb_X2_init rfl ml_X5_11 (fun (_u : Nat) => [ob w 5 [.ref q1, .ref q3, .ref q7, .int (nI 0), .int (nI 0)], ob q1 2 (mf b_2 mom0), ia G b_2 4 (fN (sh 7 mom0)), ob q3 1 [.ref ck_4, .ref cl_5, .ref ce_6, .int (nI 0)], ia G ck_4 6 (fN (fun _ => 0)), ia G cl_5 6 (fN (fun _ => 0)), ia G ce_6 6 (fN (fun _ => 0)), ma G q7 8 (va_up (va_up (va_up (va_up (fun _ => none) 0 (some q8)) 1 (some q10)) 2 (some q12)) 3 (some q14)), ob q8 2 (mf b_9 mom0), ia G b_9 4 (fN (sh 7 mom0)), ob q10 2 (mf b_11 mom0), ia G b_11 4 (fN (sh 7 mom0)), ob q12 2 (mf b_13 mom0), ia G b_13 4 (fN (sh 7 mom0)), ob q14 2 (mf b_15 mom0), ia G b_15 4 (fN (sh 7 mom0)), ob q16 2 (mf _u mom0), ia G _u 4 (fN (sh 7 mom0))]) (wr := [ob w 5 [.ref q1, .ref q3, .ref q7, .int (nI 0), .int (nI 0)], ob q1 2 (mf b_2 mom0), ia G b_2 4 (fN (sh 7 mom0)), ob q3 1 [.ref ck_4, .ref cl_5, .ref ce_6, .int (nI 0)], ia G ck_4 6 (fN (fun _ => 0)), ia G cl_5 6 (fN (fun _ => 0)), ia G ce_6 6 (fN (fun _ => 0)), ma G q7 8 (va_up (va_up (va_up (va_up (fun _ => none) 0 (some q8)) 1 (some q10)) 2 (some q12)) 3 (some q14)), ob q8 2 (mf b_9 mom0), ia G b_9 4 (fN (sh 7 mom0)), ob q10 2 (mf b_11 mom0), ia G b_11 4 (fN (sh 7 mom0)), ob q12 2 (mf b_13 mom0), ia G b_13 4 (fN (sh 7 mom0)), ob q14 2 (mf b_15 mom0), ia G b_15 4 (fN (sh 7 mom0))]) [16] [0, 1, 2, 3, 4, 5, 6, 7, 8, 9, 10, 11, 12, 13, 14, 15] [0, 1, 2, 3, 4, 5, 6, 7, 8, 9, 10, 11, 12, 13, 14, 15, 16, 17] ⟨rfl, rfl, rfl, fun _ => rfl⟩ rfl rfl rfl dX5_init_52 rfl (fun u52 _ => ?_)
  obtain ⟨b_17, rfl⟩ : ∃ z9, z9 = u52 := ⟨_, rfl⟩
  show Z (X, G, A, H0, 2) _ _ [ob w 5 [.ref q1, .ref q3, .ref q7, .int (nI 0), .int (nI 0)], ob q1 2 (mf b_2 mom0), ia G b_2 4 (fN (sh 7 mom0)), ob q3 1 [.ref ck_4, .ref cl_5, .ref ce_6, .int (nI 0)], ia G ck_4 6 (fN (fun _ => 0)), ia G cl_5 6 (fN (fun _ => 0)), ia G ce_6 6 (fN (fun _ => 0)), ma G q7 8 (va_up (va_up (va_up (va_up (fun _ => none) 0 (some q8)) 1 (some q10)) 2 (some q12)) 3 (some q14)), ob q8 2 (mf b_9 mom0), ia G b_9 4 (fN (sh 7 mom0)), ob q10 2 (mf b_11 mom0), ia G b_11 4 (fN (sh 7 mom0)), ob q12 2 (mf b_13 mom0), ia G b_13 4 (fN (sh 7 mom0)), ob q14 2 (mf b_15 mom0), ia G b_15 4 (fN (sh 7 mom0)), ob q16 2 (mf b_17 mom0), ia G b_17 4 (fN (sh 7 mom0))] 55 [(1, .int (nI 4)), (0, .ref w)] [.ref q16, .int (nI 4), .ref q7]
  refine z_astqm (ws' := [ob w 5 [.ref q1, .ref q3, .ref q7, .int (nI 0), .int (nI 0)], ob q1 2 (mf b_2 mom0), ia G b_2 4 (fN (sh 7 mom0)), ob q3 1 [.ref ck_4, .ref cl_5, .ref ce_6, .int (nI 0)], ia G ck_4 6 (fN (fun _ => 0)), ia G cl_5 6 (fN (fun _ => 0)), ia G ce_6 6 (fN (fun _ => 0)), ma G q7 8 (va_up (va_up (va_up (va_up (va_up (fun _ => none) 0 (some q8)) 1 (some q10)) 2 (some q12)) 3 (some q14)) 4 (some q16)), ob q8 2 (mf b_9 mom0), ia G b_9 4 (fN (sh 7 mom0)), ob q10 2 (mf b_11 mom0), ia G b_11 4 (fN (sh 7 mom0)), ob q12 2 (mf b_13 mom0), ia G b_13 4 (fN (sh 7 mom0)), ob q14 2 (mf b_15 mom0), ia G b_15 4 (fN (sh 7 mom0)), ob q16 2 (mf b_17 mom0), ia G b_17 4 (fN (sh 7 mom0))]) hX 7 16 rfl rfl (by omega) (by decide) rfl rfl dX5_init_55 ?_
  refine z_iinc (v := (nI 5)) (L' := [(1, .int (nI 5)), (0, .ref w)]) hX 0 dX5_init_56 rfl (by decide) (Nat.le_of_ble_eq_true rfl) rfl ?_
  refine z_goto (tgt := 37) hX dX5_init_59 (by decide) ?_
  refine z_iload_n hX 0 dX5_init_37 rfl ?_
  refine z_bipush (v := nI 8) hX dX5_init_38 (by decide) ?_
  refine zn_icmp_ge (tgt := 62) hX dX5_init_40 (by decide) (by omega) (by omega) (fun c40 => absurd c40 (by omega)) (fun _ => ?_)
  refine z_aload_n hX 1 dX5_init_43 rfl ?_
  refine z_get (v := .ref q7) hX fX5 0 2 rfl rfl (Nat.le_of_ble_eq_true rfl) fl_X5_25 rfl dX5_init_44 ?_
  refine z_iload_n hX 0 dX5_init_47 rfl ?_
  refine z_new (fs := [.null, .int (nI 0), .int (nI 0), .int (nI 0), .int (nI 0), .int (nI 0), .int (nI 0)]) hX fX2 cl_X5_9 in_X2 ii_X2 (fun j hj => by rcases (show j = 0 ∨ j = 1 ∨ j = 2 ∨ j = 3 ∨ j = 4 ∨ j = 5 ∨ j = 6 by omega) with rfl | rfl | rfl | rfl | rfl | rfl | rfl <;> rfl) rfl dX5_init_48 (fun q18 => ?_)
  show Z (X, G, A, H0, 2) _ _ [ob w 5 [.ref q1, .ref q3, .ref q7, .int (nI 0), .int (nI 0)], ob q1 2 (mf b_2 mom0), ia G b_2 4 (fN (sh 7 mom0)), ob q3 1 [.ref ck_4, .ref cl_5, .ref ce_6, .int (nI 0)], ia G ck_4 6 (fN (fun _ => 0)), ia G cl_5 6 (fN (fun _ => 0)), ia G ce_6 6 (fN (fun _ => 0)), ma G q7 8 (va_up (va_up (va_up (va_up (va_up (fun _ => none) 0 (some q8)) 1 (some q10)) 2 (some q12)) 3 (some q14)) 4 (some q16)), ob q8 2 (mf b_9 mom0), ia G b_9 4 (fN (sh 7 mom0)), ob q10 2 (mf b_11 mom0), ia G b_11 4 (fN (sh 7 mom0)), ob q12 2 (mf b_13 mom0), ia G b_13 4 (fN (sh 7 mom0)), ob q14 2 (mf b_15 mom0), ia G b_15 4 (fN (sh 7 mom0)), ob q16 2 (mf b_17 mom0), ia G b_17 4 (fN (sh 7 mom0)), ob q18 2 [.null, .int (nI 0), .int (nI 0), .int (nI 0), .int (nI 0), .int (nI 0), .int (nI 0)]] 51 [(1, .int (nI 5)), (0, .ref w)] [.ref q18, .int (nI 5), .ref q7]
  refine z_dup hX dX5_init_51 rfl ?_
  refine z_callI (st := [.ref q18, .int (nI 5), .ref q7]) hX (c_X2_init _ G q18) lb_X2_init rfl ml_X5_11 (fun (_u : Nat) => [ob w 5 [.ref q1, .ref q3, .ref q7, .int (nI 0), .int (nI 0)], ob q1 2 (mf b_2 mom0), ia G b_2 4 (fN (sh 7 mom0)), ob q3 1 [.ref ck_4, .ref cl_5, .ref ce_6, .int (nI 0)], ia G ck_4 6 (fN (fun _ => 0)), ia G cl_5 6 (fN (fun _ => 0)), ia G ce_6 6 (fN (fun _ => 0)), ma G q7 8 (va_up (va_up (va_up (va_up (va_up (fun _ => none) 0 (some q8)) 1 (some q10)) 2 (some q12)) 3 (some q14)) 4 (some q16)), ob q8 2 (mf b_9 mom0), ia G b_9 4 (fN (sh 7 mom0)), ob q10 2 (mf b_11 mom0), ia G b_11 4 (fN (sh 7 mom0)), ob q12 2 (mf b_13 mom0), ia G b_13 4 (fN (sh 7 mom0)), ob q14 2 (mf b_15 mom0), ia G b_15 4 (fN (sh 7 mom0)), ob q16 2 (mf b_17 mom0), ia G b_17 4 (fN (sh 7 mom0)), ob q18 2 (mf _u mom0), ia G _u 4 (fN (sh 7 mom0))]) (wr := [ob w 5 [.ref q1, .ref q3, .ref q7, .int (nI 0), .int (nI 0)], ob q1 2 (mf b_2 mom0), ia G b_2 4 (fN (sh 7 mom0)), ob q3 1 [.ref ck_4, .ref cl_5, .ref ce_6, .int (nI 0)], ia G ck_4 6 (fN (fun _ => 0)), ia G cl_5 6 (fN (fun _ => 0)), ia G ce_6 6 (fN (fun _ => 0)), ma G q7 8 (va_up (va_up (va_up (va_up (va_up (fun _ => none) 0 (some q8)) 1 (some q10)) 2 (some q12)) 3 (some q14)) 4 (some q16)), ob q8 2 (mf b_9 mom0), ia G b_9 4 (fN (sh 7 mom0)), ob q10 2 (mf b_11 mom0), ia G b_11 4 (fN (sh 7 mom0)), ob q12 2 (mf b_13 mom0), ia G b_13 4 (fN (sh 7 mom0)), ob q14 2 (mf b_15 mom0), ia G b_15 4 (fN (sh 7 mom0)), ob q16 2 (mf b_17 mom0), ia G b_17 4 (fN (sh 7 mom0))]) [18] [0, 1, 2, 3, 4, 5, 6, 7, 8, 9, 10, 11, 12, 13, 14, 15, 16, 17] [0, 1, 2, 3, 4, 5, 6, 7, 8, 9, 10, 11, 12, 13, 14, 15, 16, 17, 18, 19] ⟨rfl, rfl, rfl, fun _ => rfl⟩ rfl rfl rfl dX5_init_52 rfl (fun u52 _ => ?_)
  obtain ⟨b_19, rfl⟩ : ∃ z9, z9 = u52 := ⟨_, rfl⟩
  show Z (X, G, A, H0, 2) _ _ [ob w 5 [.ref q1, .ref q3, .ref q7, .int (nI 0), .int (nI 0)], ob q1 2 (mf b_2 mom0), ia G b_2 4 (fN (sh 7 mom0)), ob q3 1 [.ref ck_4, .ref cl_5, .ref ce_6, .int (nI 0)], ia G ck_4 6 (fN (fun _ => 0)), ia G cl_5 6 (fN (fun _ => 0)), ia G ce_6 6 (fN (fun _ => 0)), ma G q7 8 (va_up (va_up (va_up (va_up (va_up (fun _ => none) 0 (some q8)) 1 (some q10)) 2 (some q12)) 3 (some q14)) 4 (some q16)), ob q8 2 (mf b_9 mom0), ia G b_9 4 (fN (sh 7 mom0)), ob q10 2 (mf b_11 mom0), ia G b_11 4 (fN (sh 7 mom0)), ob q12 2 (mf b_13 mom0), ia G b_13 4 (fN (sh 7 mom0)), ob q14 2 (mf b_15 mom0), ia G b_15 4 (fN (sh 7 mom0)), ob q16 2 (mf b_17 mom0), ia G b_17 4 (fN (sh 7 mom0)), ob q18 2 (mf b_19 mom0), ia G b_19 4 (fN (sh 7 mom0))] 55 [(1, .int (nI 5)), (0, .ref w)] [.ref q18, .int (nI 5), .ref q7]
  refine z_astqm (ws' := [ob w 5 [.ref q1, .ref q3, .ref q7, .int (nI 0), .int (nI 0)], ob q1 2 (mf b_2 mom0), ia G b_2 4 (fN (sh 7 mom0)), ob q3 1 [.ref ck_4, .ref cl_5, .ref ce_6, .int (nI 0)], ia G ck_4 6 (fN (fun _ => 0)), ia G cl_5 6 (fN (fun _ => 0)), ia G ce_6 6 (fN (fun _ => 0)), ma G q7 8 (va_up (va_up (va_up (va_up (va_up (va_up (fun _ => none) 0 (some q8)) 1 (some q10)) 2 (some q12)) 3 (some q14)) 4 (some q16)) 5 (some q18)), ob q8 2 (mf b_9 mom0), ia G b_9 4 (fN (sh 7 mom0)), ob q10 2 (mf b_11 mom0), ia G b_11 4 (fN (sh 7 mom0)), ob q12 2 (mf b_13 mom0), ia G b_13 4 (fN (sh 7 mom0)), ob q14 2 (mf b_15 mom0), ia G b_15 4 (fN (sh 7 mom0)), ob q16 2 (mf b_17 mom0), ia G b_17 4 (fN (sh 7 mom0)), ob q18 2 (mf b_19 mom0), ia G b_19 4 (fN (sh 7 mom0))]) hX 7 18 rfl rfl (by omega) (by decide) rfl rfl dX5_init_55 ?_
  refine z_iinc (v := (nI 6)) (L' := [(1, .int (nI 6)), (0, .ref w)]) hX 0 dX5_init_56 rfl (by decide) (Nat.le_of_ble_eq_true rfl) rfl ?_
  refine z_goto (tgt := 37) hX dX5_init_59 (by decide) ?_
  refine z_iload_n hX 0 dX5_init_37 rfl ?_
  refine z_bipush (v := nI 8) hX dX5_init_38 (by decide) ?_
  refine zn_icmp_ge (tgt := 62) hX dX5_init_40 (by decide) (by omega) (by omega) (fun c40 => absurd c40 (by omega)) (fun _ => ?_)
  refine z_aload_n hX 1 dX5_init_43 rfl ?_
  refine z_get (v := .ref q7) hX fX5 0 2 rfl rfl (Nat.le_of_ble_eq_true rfl) fl_X5_25 rfl dX5_init_44 ?_
  refine z_iload_n hX 0 dX5_init_47 rfl ?_
  refine z_new (fs := [.null, .int (nI 0), .int (nI 0), .int (nI 0), .int (nI 0), .int (nI 0), .int (nI 0)]) hX fX2 cl_X5_9 in_X2 ii_X2 (fun j hj => by rcases (show j = 0 ∨ j = 1 ∨ j = 2 ∨ j = 3 ∨ j = 4 ∨ j = 5 ∨ j = 6 by omega) with rfl | rfl | rfl | rfl | rfl | rfl | rfl <;> rfl) rfl dX5_init_48 (fun q20 => ?_)
  show Z (X, G, A, H0, 2) _ _ [ob w 5 [.ref q1, .ref q3, .ref q7, .int (nI 0), .int (nI 0)], ob q1 2 (mf b_2 mom0), ia G b_2 4 (fN (sh 7 mom0)), ob q3 1 [.ref ck_4, .ref cl_5, .ref ce_6, .int (nI 0)], ia G ck_4 6 (fN (fun _ => 0)), ia G cl_5 6 (fN (fun _ => 0)), ia G ce_6 6 (fN (fun _ => 0)), ma G q7 8 (va_up (va_up (va_up (va_up (va_up (va_up (fun _ => none) 0 (some q8)) 1 (some q10)) 2 (some q12)) 3 (some q14)) 4 (some q16)) 5 (some q18)), ob q8 2 (mf b_9 mom0), ia G b_9 4 (fN (sh 7 mom0)), ob q10 2 (mf b_11 mom0), ia G b_11 4 (fN (sh 7 mom0)), ob q12 2 (mf b_13 mom0), ia G b_13 4 (fN (sh 7 mom0)), ob q14 2 (mf b_15 mom0), ia G b_15 4 (fN (sh 7 mom0)), ob q16 2 (mf b_17 mom0), ia G b_17 4 (fN (sh 7 mom0)), ob q18 2 (mf b_19 mom0), ia G b_19 4 (fN (sh 7 mom0)), ob q20 2 [.null, .int (nI 0), .int (nI 0), .int (nI 0), .int (nI 0), .int (nI 0), .int (nI 0)]] 51 [(1, .int (nI 6)), (0, .ref w)] [.ref q20, .int (nI 6), .ref q7]
  refine z_dup hX dX5_init_51 rfl ?_
  refine z_callI (st := [.ref q20, .int (nI 6), .ref q7]) hX (c_X2_init _ G q20) lb_X2_init rfl ml_X5_11 (fun (_u : Nat) => [ob w 5 [.ref q1, .ref q3, .ref q7, .int (nI 0), .int (nI 0)], ob q1 2 (mf b_2 mom0), ia G b_2 4 (fN (sh 7 mom0)), ob q3 1 [.ref ck_4, .ref cl_5, .ref ce_6, .int (nI 0)], ia G ck_4 6 (fN (fun _ => 0)), ia G cl_5 6 (fN (fun _ => 0)), ia G ce_6 6 (fN (fun _ => 0)), ma G q7 8 (va_up (va_up (va_up (va_up (va_up (va_up (fun _ => none) 0 (some q8)) 1 (some q10)) 2 (some q12)) 3 (some q14)) 4 (some q16)) 5 (some q18)), ob q8 2 (mf b_9 mom0), ia G b_9 4 (fN (sh 7 mom0)), ob q10 2 (mf b_11 mom0), ia G b_11 4 (fN (sh 7 mom0)), ob q12 2 (mf b_13 mom0), ia G b_13 4 (fN (sh 7 mom0)), ob q14 2 (mf b_15 mom0), ia G b_15 4 (fN (sh 7 mom0)), ob q16 2 (mf b_17 mom0), ia G b_17 4 (fN (sh 7 mom0)), ob q18 2 (mf b_19 mom0), ia G b_19 4 (fN (sh 7 mom0)), ob q20 2 (mf _u mom0), ia G _u 4 (fN (sh 7 mom0))]) (wr := [ob w 5 [.ref q1, .ref q3, .ref q7, .int (nI 0), .int (nI 0)], ob q1 2 (mf b_2 mom0), ia G b_2 4 (fN (sh 7 mom0)), ob q3 1 [.ref ck_4, .ref cl_5, .ref ce_6, .int (nI 0)], ia G ck_4 6 (fN (fun _ => 0)), ia G cl_5 6 (fN (fun _ => 0)), ia G ce_6 6 (fN (fun _ => 0)), ma G q7 8 (va_up (va_up (va_up (va_up (va_up (va_up (fun _ => none) 0 (some q8)) 1 (some q10)) 2 (some q12)) 3 (some q14)) 4 (some q16)) 5 (some q18)), ob q8 2 (mf b_9 mom0), ia G b_9 4 (fN (sh 7 mom0)), ob q10 2 (mf b_11 mom0), ia G b_11 4 (fN (sh 7 mom0)), ob q12 2 (mf b_13 mom0), ia G b_13 4 (fN (sh 7 mom0)), ob q14 2 (mf b_15 mom0), ia G b_15 4 (fN (sh 7 mom0)), ob q16 2 (mf b_17 mom0), ia G b_17 4 (fN (sh 7 mom0)), ob q18 2 (mf b_19 mom0), ia G b_19 4 (fN (sh 7 mom0))]) [20] [0, 1, 2, 3, 4, 5, 6, 7, 8, 9, 10, 11, 12, 13, 14, 15, 16, 17, 18, 19] [0, 1, 2, 3, 4, 5, 6, 7, 8, 9, 10, 11, 12, 13, 14, 15, 16, 17, 18, 19, 20, 21] ⟨rfl, rfl, rfl, fun _ => rfl⟩ rfl rfl rfl dX5_init_52 rfl (fun u52 _ => ?_)
  obtain ⟨b_21, rfl⟩ : ∃ z9, z9 = u52 := ⟨_, rfl⟩
  show Z (X, G, A, H0, 2) _ _ [ob w 5 [.ref q1, .ref q3, .ref q7, .int (nI 0), .int (nI 0)], ob q1 2 (mf b_2 mom0), ia G b_2 4 (fN (sh 7 mom0)), ob q3 1 [.ref ck_4, .ref cl_5, .ref ce_6, .int (nI 0)], ia G ck_4 6 (fN (fun _ => 0)), ia G cl_5 6 (fN (fun _ => 0)), ia G ce_6 6 (fN (fun _ => 0)), ma G q7 8 (va_up (va_up (va_up (va_up (va_up (va_up (fun _ => none) 0 (some q8)) 1 (some q10)) 2 (some q12)) 3 (some q14)) 4 (some q16)) 5 (some q18)), ob q8 2 (mf b_9 mom0), ia G b_9 4 (fN (sh 7 mom0)), ob q10 2 (mf b_11 mom0), ia G b_11 4 (fN (sh 7 mom0)), ob q12 2 (mf b_13 mom0), ia G b_13 4 (fN (sh 7 mom0)), ob q14 2 (mf b_15 mom0), ia G b_15 4 (fN (sh 7 mom0)), ob q16 2 (mf b_17 mom0), ia G b_17 4 (fN (sh 7 mom0)), ob q18 2 (mf b_19 mom0), ia G b_19 4 (fN (sh 7 mom0)), ob q20 2 (mf b_21 mom0), ia G b_21 4 (fN (sh 7 mom0))] 55 [(1, .int (nI 6)), (0, .ref w)] [.ref q20, .int (nI 6), .ref q7]
  refine z_astqm (ws' := [ob w 5 [.ref q1, .ref q3, .ref q7, .int (nI 0), .int (nI 0)], ob q1 2 (mf b_2 mom0), ia G b_2 4 (fN (sh 7 mom0)), ob q3 1 [.ref ck_4, .ref cl_5, .ref ce_6, .int (nI 0)], ia G ck_4 6 (fN (fun _ => 0)), ia G cl_5 6 (fN (fun _ => 0)), ia G ce_6 6 (fN (fun _ => 0)), ma G q7 8 (va_up (va_up (va_up (va_up (va_up (va_up (va_up (fun _ => none) 0 (some q8)) 1 (some q10)) 2 (some q12)) 3 (some q14)) 4 (some q16)) 5 (some q18)) 6 (some q20)), ob q8 2 (mf b_9 mom0), ia G b_9 4 (fN (sh 7 mom0)), ob q10 2 (mf b_11 mom0), ia G b_11 4 (fN (sh 7 mom0)), ob q12 2 (mf b_13 mom0), ia G b_13 4 (fN (sh 7 mom0)), ob q14 2 (mf b_15 mom0), ia G b_15 4 (fN (sh 7 mom0)), ob q16 2 (mf b_17 mom0), ia G b_17 4 (fN (sh 7 mom0)), ob q18 2 (mf b_19 mom0), ia G b_19 4 (fN (sh 7 mom0)), ob q20 2 (mf b_21 mom0), ia G b_21 4 (fN (sh 7 mom0))]) hX 7 20 rfl rfl (by omega) (by decide) rfl rfl dX5_init_55 ?_
  refine z_iinc (v := (nI 7)) (L' := [(1, .int (nI 7)), (0, .ref w)]) hX 0 dX5_init_56 rfl (by decide) (Nat.le_of_ble_eq_true rfl) rfl ?_
  refine z_goto (tgt := 37) hX dX5_init_59 (by decide) ?_
  refine z_iload_n hX 0 dX5_init_37 rfl ?_
  refine z_bipush (v := nI 8) hX dX5_init_38 (by decide) ?_
  refine zn_icmp_ge (tgt := 62) hX dX5_init_40 (by decide) (by omega) (by omega) (fun c40 => absurd c40 (by omega)) (fun _ => ?_)
  refine z_aload_n hX 1 dX5_init_43 rfl ?_
  refine z_get (v := .ref q7) hX fX5 0 2 rfl rfl (Nat.le_of_ble_eq_true rfl) fl_X5_25 rfl dX5_init_44 ?_
  refine z_iload_n hX 0 dX5_init_47 rfl ?_
  refine z_new (fs := [.null, .int (nI 0), .int (nI 0), .int (nI 0), .int (nI 0), .int (nI 0), .int (nI 0)]) hX fX2 cl_X5_9 in_X2 ii_X2 (fun j hj => by rcases (show j = 0 ∨ j = 1 ∨ j = 2 ∨ j = 3 ∨ j = 4 ∨ j = 5 ∨ j = 6 by omega) with rfl | rfl | rfl | rfl | rfl | rfl | rfl <;> rfl) rfl dX5_init_48 (fun q22 => ?_)
  show Z (X, G, A, H0, 2) _ _ [ob w 5 [.ref q1, .ref q3, .ref q7, .int (nI 0), .int (nI 0)], ob q1 2 (mf b_2 mom0), ia G b_2 4 (fN (sh 7 mom0)), ob q3 1 [.ref ck_4, .ref cl_5, .ref ce_6, .int (nI 0)], ia G ck_4 6 (fN (fun _ => 0)), ia G cl_5 6 (fN (fun _ => 0)), ia G ce_6 6 (fN (fun _ => 0)), ma G q7 8 (va_up (va_up (va_up (va_up (va_up (va_up (va_up (fun _ => none) 0 (some q8)) 1 (some q10)) 2 (some q12)) 3 (some q14)) 4 (some q16)) 5 (some q18)) 6 (some q20)), ob q8 2 (mf b_9 mom0), ia G b_9 4 (fN (sh 7 mom0)), ob q10 2 (mf b_11 mom0), ia G b_11 4 (fN (sh 7 mom0)), ob q12 2 (mf b_13 mom0), ia G b_13 4 (fN (sh 7 mom0)), ob q14 2 (mf b_15 mom0), ia G b_15 4 (fN (sh 7 mom0)), ob q16 2 (mf b_17 mom0), ia G b_17 4 (fN (sh 7 mom0)), ob q18 2 (mf b_19 mom0), ia G b_19 4 (fN (sh 7 mom0)), ob q20 2 (mf b_21 mom0), ia G b_21 4 (fN (sh 7 mom0)), ob q22 2 [.null, .int (nI 0), .int (nI 0), .int (nI 0), .int (nI 0), .int (nI 0), .int (nI 0)]] 51 [(1, .int (nI 7)), (0, .ref w)] [.ref q22, .int (nI 7), .ref q7]
  refine z_dup hX dX5_init_51 rfl ?_
  refine z_callI (st := [.ref q22, .int (nI 7), .ref q7]) hX (c_X2_init _ G q22) lb_X2_init rfl ml_X5_11 (fun (_u : Nat) => [ob w 5 [.ref q1, .ref q3, .ref q7, .int (nI 0), .int (nI 0)], ob q1 2 (mf b_2 mom0), ia G b_2 4 (fN (sh 7 mom0)), ob q3 1 [.ref ck_4, .ref cl_5, .ref ce_6, .int (nI 0)], ia G ck_4 6 (fN (fun _ => 0)), ia G cl_5 6 (fN (fun _ => 0)), ia G ce_6 6 (fN (fun _ => 0)), ma G q7 8 (va_up (va_up (va_up (va_up (va_up (va_up (va_up (fun _ => none) 0 (some q8)) 1 (some q10)) 2 (some q12)) 3 (some q14)) 4 (some q16)) 5 (some q18)) 6 (some q20)), ob q8 2 (mf b_9 mom0), ia G b_9 4 (fN (sh 7 mom0)), ob q10 2 (mf b_11 mom0), ia G b_11 4 (fN (sh 7 mom0)), ob q12 2 (mf b_13 mom0), ia G b_13 4 (fN (sh 7 mom0)), ob q14 2 (mf b_15 mom0), ia G b_15 4 (fN (sh 7 mom0)), ob q16 2 (mf b_17 mom0), ia G b_17 4 (fN (sh 7 mom0)), ob q18 2 (mf b_19 mom0), ia G b_19 4 (fN (sh 7 mom0)), ob q20 2 (mf b_21 mom0), ia G b_21 4 (fN (sh 7 mom0)), ob q22 2 (mf _u mom0), ia G _u 4 (fN (sh 7 mom0))]) (wr := [ob w 5 [.ref q1, .ref q3, .ref q7, .int (nI 0), .int (nI 0)], ob q1 2 (mf b_2 mom0), ia G b_2 4 (fN (sh 7 mom0)), ob q3 1 [.ref ck_4, .ref cl_5, .ref ce_6, .int (nI 0)], ia G ck_4 6 (fN (fun _ => 0)), ia G cl_5 6 (fN (fun _ => 0)), ia G ce_6 6 (fN (fun _ => 0)), ma G q7 8 (va_up (va_up (va_up (va_up (va_up (va_up (va_up (fun _ => none) 0 (some q8)) 1 (some q10)) 2 (some q12)) 3 (some q14)) 4 (some q16)) 5 (some q18)) 6 (some q20)), ob q8 2 (mf b_9 mom0), ia G b_9 4 (fN (sh 7 mom0)), ob q10 2 (mf b_11 mom0), ia G b_11 4 (fN (sh 7 mom0)), ob q12 2 (mf b_13 mom0), ia G b_13 4 (fN (sh 7 mom0)), ob q14 2 (mf b_15 mom0), ia G b_15 4 (fN (sh 7 mom0)), ob q16 2 (mf b_17 mom0), ia G b_17 4 (fN (sh 7 mom0)), ob q18 2 (mf b_19 mom0), ia G b_19 4 (fN (sh 7 mom0)), ob q20 2 (mf b_21 mom0), ia G b_21 4 (fN (sh 7 mom0))]) [22] [0, 1, 2, 3, 4, 5, 6, 7, 8, 9, 10, 11, 12, 13, 14, 15, 16, 17, 18, 19, 20, 21] [0, 1, 2, 3, 4, 5, 6, 7, 8, 9, 10, 11, 12, 13, 14, 15, 16, 17, 18, 19, 20, 21, 22, 23] ⟨rfl, rfl, rfl, fun _ => rfl⟩ rfl rfl rfl dX5_init_52 rfl (fun u52 _ => ?_)
  obtain ⟨b_23, rfl⟩ : ∃ z9, z9 = u52 := ⟨_, rfl⟩
  show Z (X, G, A, H0, 2) _ _ [ob w 5 [.ref q1, .ref q3, .ref q7, .int (nI 0), .int (nI 0)], ob q1 2 (mf b_2 mom0), ia G b_2 4 (fN (sh 7 mom0)), ob q3 1 [.ref ck_4, .ref cl_5, .ref ce_6, .int (nI 0)], ia G ck_4 6 (fN (fun _ => 0)), ia G cl_5 6 (fN (fun _ => 0)), ia G ce_6 6 (fN (fun _ => 0)), ma G q7 8 (va_up (va_up (va_up (va_up (va_up (va_up (va_up (fun _ => none) 0 (some q8)) 1 (some q10)) 2 (some q12)) 3 (some q14)) 4 (some q16)) 5 (some q18)) 6 (some q20)), ob q8 2 (mf b_9 mom0), ia G b_9 4 (fN (sh 7 mom0)), ob q10 2 (mf b_11 mom0), ia G b_11 4 (fN (sh 7 mom0)), ob q12 2 (mf b_13 mom0), ia G b_13 4 (fN (sh 7 mom0)), ob q14 2 (mf b_15 mom0), ia G b_15 4 (fN (sh 7 mom0)), ob q16 2 (mf b_17 mom0), ia G b_17 4 (fN (sh 7 mom0)), ob q18 2 (mf b_19 mom0), ia G b_19 4 (fN (sh 7 mom0)), ob q20 2 (mf b_21 mom0), ia G b_21 4 (fN (sh 7 mom0)), ob q22 2 (mf b_23 mom0), ia G b_23 4 (fN (sh 7 mom0))] 55 [(1, .int (nI 7)), (0, .ref w)] [.ref q22, .int (nI 7), .ref q7]
  refine z_astqm (ws' := [ob w 5 [.ref q1, .ref q3, .ref q7, .int (nI 0), .int (nI 0)], ob q1 2 (mf b_2 mom0), ia G b_2 4 (fN (sh 7 mom0)), ob q3 1 [.ref ck_4, .ref cl_5, .ref ce_6, .int (nI 0)], ia G ck_4 6 (fN (fun _ => 0)), ia G cl_5 6 (fN (fun _ => 0)), ia G ce_6 6 (fN (fun _ => 0)), ma G q7 8 (va_up (va_up (va_up (va_up (va_up (va_up (va_up (va_up (fun _ => none) 0 (some q8)) 1 (some q10)) 2 (some q12)) 3 (some q14)) 4 (some q16)) 5 (some q18)) 6 (some q20)) 7 (some q22)), ob q8 2 (mf b_9 mom0), ia G b_9 4 (fN (sh 7 mom0)), ob q10 2 (mf b_11 mom0), ia G b_11 4 (fN (sh 7 mom0)), ob q12 2 (mf b_13 mom0), ia G b_13 4 (fN (sh 7 mom0)), ob q14 2 (mf b_15 mom0), ia G b_15 4 (fN (sh 7 mom0)), ob q16 2 (mf b_17 mom0), ia G b_17 4 (fN (sh 7 mom0)), ob q18 2 (mf b_19 mom0), ia G b_19 4 (fN (sh 7 mom0)), ob q20 2 (mf b_21 mom0), ia G b_21 4 (fN (sh 7 mom0)), ob q22 2 (mf b_23 mom0), ia G b_23 4 (fN (sh 7 mom0))]) hX 7 22 rfl rfl (by omega) (by decide) rfl rfl dX5_init_55 ?_
  refine z_iinc (v := (nI 8)) (L' := [(1, .int (nI 8)), (0, .ref w)]) hX 0 dX5_init_56 rfl (by decide) (Nat.le_of_ble_eq_true rfl) rfl ?_
  refine z_goto (tgt := 37) hX dX5_init_59 (by decide) ?_
  refine z_iload_n hX 0 dX5_init_37 rfl ?_
  refine z_bipush (v := nI 8) hX dX5_init_38 (by decide) ?_
  refine zn_icmp_ge (tgt := 62) hX dX5_init_40 (by decide) (by omega) (by omega) (fun _ => ?_) (fun c40 => absurd c40 (by omega))
  refine z_aload_n hX 1 dX5_init_62 rfl ?_
  refine z_iconst (v := nI 0) hX dX5_init_63 (by decide) ?_
  refine z_put (v := .int (nI 0)) (ws' := [ob w 5 [.ref q1, .ref q3, .ref q7, .int (nI 0), .int (nI 0)], ob q1 2 (mf b_2 mom0), ia G b_2 4 (fN (sh 7 mom0)), ob q3 1 [.ref ck_4, .ref cl_5, .ref ce_6, .int (nI 0)], ia G ck_4 6 (fN (fun _ => 0)), ia G cl_5 6 (fN (fun _ => 0)), ia G ce_6 6 (fN (fun _ => 0)), ma G q7 8 (va_up (va_up (va_up (va_up (va_up (va_up (va_up (va_up (fun _ => none) 0 (some q8)) 1 (some q10)) 2 (some q12)) 3 (some q14)) 4 (some q16)) 5 (some q18)) 6 (some q20)) 7 (some q22)), ob q8 2 (mf b_9 mom0), ia G b_9 4 (fN (sh 7 mom0)), ob q10 2 (mf b_11 mom0), ia G b_11 4 (fN (sh 7 mom0)), ob q12 2 (mf b_13 mom0), ia G b_13 4 (fN (sh 7 mom0)), ob q14 2 (mf b_15 mom0), ia G b_15 4 (fN (sh 7 mom0)), ob q16 2 (mf b_17 mom0), ia G b_17 4 (fN (sh 7 mom0)), ob q18 2 (mf b_19 mom0), ia G b_19 4 (fN (sh 7 mom0)), ob q20 2 (mf b_21 mom0), ia G b_21 4 (fN (sh 7 mom0)), ob q22 2 (mf b_23 mom0), ia G b_23 4 (fN (sh 7 mom0))]) hX fX5 0 3 rfl rfl (Nat.le_of_ble_eq_true rfl) fl_X5_29 rfl rfl rfl rfl rfl dX5_init_64 ?_
  refine z_aload_n hX 1 dX5_init_67 rfl ?_
  refine z_iconst (v := nI 0) hX dX5_init_68 (by decide) ?_
  refine z_put (v := .int (nI 0)) (ws' := [ob w 5 [.ref q1, .ref q3, .ref q7, .int (nI 0), .int (nI 0)], ob q1 2 (mf b_2 mom0), ia G b_2 4 (fN (sh 7 mom0)), ob q3 1 [.ref ck_4, .ref cl_5, .ref ce_6, .int (nI 0)], ia G ck_4 6 (fN (fun _ => 0)), ia G cl_5 6 (fN (fun _ => 0)), ia G ce_6 6 (fN (fun _ => 0)), ma G q7 8 (va_up (va_up (va_up (va_up (va_up (va_up (va_up (va_up (fun _ => none) 0 (some q8)) 1 (some q10)) 2 (some q12)) 3 (some q14)) 4 (some q16)) 5 (some q18)) 6 (some q20)) 7 (some q22)), ob q8 2 (mf b_9 mom0), ia G b_9 4 (fN (sh 7 mom0)), ob q10 2 (mf b_11 mom0), ia G b_11 4 (fN (sh 7 mom0)), ob q12 2 (mf b_13 mom0), ia G b_13 4 (fN (sh 7 mom0)), ob q14 2 (mf b_15 mom0), ia G b_15 4 (fN (sh 7 mom0)), ob q16 2 (mf b_17 mom0), ia G b_17 4 (fN (sh 7 mom0)), ob q18 2 (mf b_19 mom0), ia G b_19 4 (fN (sh 7 mom0)), ob q20 2 (mf b_21 mom0), ia G b_21 4 (fN (sh 7 mom0)), ob q22 2 (mf b_23 mom0), ia G b_23 4 (fN (sh 7 mom0))]) hX fX5 0 4 rfl rfl (Nat.le_of_ble_eq_true rfl) fl_X5_33 rfl rfl rfl rfl rfl dX5_init_69 ?_
  refine z_mext (f' := pmf (f8 q8 q10 q12 q14 q16 q18 q20 q22)) (ws' := [ob w 5 [.ref q1, .ref q3, .ref q7, .int (nI 0), .int (nI 0)], ob q1 2 (mf b_2 mom0), ia G b_2 4 (fN (sh 7 mom0)), ob q3 1 [.ref ck_4, .ref cl_5, .ref ce_6, .int (nI 0)], ia G ck_4 6 (fN (fun _ => 0)), ia G cl_5 6 (fN (fun _ => 0)), ia G ce_6 6 (fN (fun _ => 0)), ma G q7 8 (pmf (f8 q8 q10 q12 q14 q16 q18 q20 q22)), ob q8 2 (mf b_9 mom0), ia G b_9 4 (fN (sh 7 mom0)), ob q10 2 (mf b_11 mom0), ia G b_11 4 (fN (sh 7 mom0)), ob q12 2 (mf b_13 mom0), ia G b_13 4 (fN (sh 7 mom0)), ob q14 2 (mf b_15 mom0), ia G b_15 4 (fN (sh 7 mom0)), ob q16 2 (mf b_17 mom0), ia G b_17 4 (fN (sh 7 mom0)), ob q18 2 (mf b_19 mom0), ia G b_19 4 (fN (sh 7 mom0)), ob q20 2 (mf b_21 mom0), ia G b_21 4 (fN (sh 7 mom0)), ob q22 2 (mf b_23 mom0), ia G b_23 4 (fN (sh 7 mom0))]) 7 rfl (fun j hj => co_8 (P := fun j => (va_up (va_up (va_up (va_up (va_up (va_up (va_up (va_up (fun _ => none) 0 (some q8)) 1 (some q10)) 2 (some q12)) 3 (some q14)) 4 (some q16)) 5 (some q18)) 6 (some q20)) 7 (some q22)) j = pmf (f8 q8 q10 q12 q14 q16 q18 q20 q22) j) rfl rfl rfl rfl rfl rfl rfl rfl hj) rfl ?_
  exact hR (q1, b_2, q3, ck_4, cl_5, ce_6, q7, (f8 q8 q10 q12 q14 q16 q18 q20 q22), (f8 b_9 b_11 b_13 b_15 b_17 b_19 b_21 b_23)) _ _ trivial dX5_init_72
