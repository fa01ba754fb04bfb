set_option maxRecDepth 100000 in
set_option maxHeartbeats 4000000 in
theorem c_X7_isBetter (l : Launch) (G : zG) (x : Nat) (ad : Nat → Nat) (v : Nat → Nat) (s : nst) (lk : Nat) (N : Nat) (an : Nat) (h0 : WF 9999 0 s) (h1 : lk < 64) (h2 : N ≤ 60) (h3 : ¬ an = 0 → v 14 ≤ 61000 ∧ v 15 ≤ 61000) (h4 : an < 2) : zMi l G yX7_isBetter cX7_isBetter 5 .boolean 5 0 0 110 [.ref x, .int (nI lk), .int (nI N), .int (nI an)] [ob x 7 (rf ad v), ia G (ad 0) 29 (fN s), ia G (ad 11) 29 (fN s)] (fun (r : Int32) (_u : nst) => (zb (an = 0 ∨ (goN N (va_up s 2 lk) 5 - s 5) < v 14 ∨ ((goN N (va_up s 2 lk) 5 - s 5) = v 14 ∧ v 15 < (goN N (va_up s 2 lk) 3 - s 3))) r) ∧ (((an = 0 ∨ (goN N (va_up s 2 lk) 5 - s 5) < v 14 ∨ ((goN N (va_up s 2 lk) 5 - s 5) = v 14 ∧ v 15 < (goN N (va_up s 2 lk) 3 - s 3))) → _u 14 = (goN N (va_up s 2 lk) 5 - s 5) ∧ _u 15 = (goN N (va_up s 2 lk) 3 - s 3)) ∧ (¬ (an = 0 ∨ (goN N (va_up s 2 lk) 5 - s 5) < v 14 ∨ ((goN N (va_up s 2 lk) 5 - s 5) = v 14 ∧ v 15 < (goN N (va_up s 2 lk) 3 - s 3))) → _u 14 = v 14 ∧ _u 15 = v 15) ∧ _u 3 = v 3 ∧ _u 10 = v 10 ∧ _u 17 = v 17 ∧ _u 18 = v 18)) (fun (_u : nst) => [ob x 7 (rf ad _u), ia G (ad 0) 29 (fN s), ia G (ad 11) 29 (fN s)]) := by
  refine zMi.of (by decide) rfl (fun X A H0 hX hXl hR => ?_)
  show Z (X, G, A, H0, 5) 0 0 [ob x 7 (rf ad v), ia G (ad 0) 29 (fN s), ia G (ad 11) 29 (fN s)] 0 [(0, .ref x), (1, .int (nI lk)), (2, .int (nI N)), (3, .int (nI an))] []
  subst hXl
  have g1 := goN_up (va_up s 2 lk) N
  have g2 := goN_cnt (WF_list h0 h1) N
  have g3 : va_up s 2 lk 3 = s 3 := rfl
  have g4 : va_up s 2 lk 5 = s 5 := rfl
  refine z_aload_n hX 0 dX7_isBetter_0 rfl ?_
  refine z_get (v := .ref (ad 0)) hX fX7 0 0 rfl rfl (Nat.le_of_ble_eq_true rfl) fl_X7_7 rfl dX7_isBetter_1 ?_
  refine z_iconst (v := nI 2) hX dX7_isBetter_4 (by decide) ?_
  refine z_iload_n hX 1 dX7_isBetter_5 rfl ?_
  refine z_iast (ws' := [ob x 7 (rf ad v), ia G (ad 0) 29 (fN (va_up s 2 lk)), ia G (ad 11) 29 (fN s)]) hX 1 (j := 2) rfl (by omega) (by decide) (updN _ _ _) rfl dX7_isBetter_6 ?_
  refine z_aload_n hX 0 dX7_isBetter_7 rfl ?_
  refine z_iload_n hX 2 dX7_isBetter_8 rfl ?_
  refine z_callVv (st := []) hX (c_X7_goesOn _ G x ad v (va_up s 2 lk) N 9999 (WF_list h0 h1) (by omega) (by omega)) lb_X7_goesOn ml_X7_171 (fun (_u : Nat) => [ob x 7 (rf ad (va_up v 1 _u)), ia G (ad 0) 29 (fN (goN N (va_up s 2 lk))), ia G (ad 11) 29 (fN s)]) (wr := [ia G (ad 11) 29 (fN s)]) [0, 1] [2] [1, 2, 0] ⟨rfl, rfl, rfl, fun _ => rfl⟩ 0 rfl rfl rfl rfl ⟨Nat.le_refl _, Nat.le_refl _⟩ dX7_isBetter_9 rfl (fun  u9 hw9 => ?_)
  obtain ⟨f1_1, rfl⟩ : ∃ z9, z9 = u9 := ⟨_, rfl⟩
  refine z_aload_n hX 0 dX7_isBetter_12 rfl ?_
  refine z_aload_n hX 0 dX7_isBetter_13 rfl ?_
  refine z_get (v := .ref (ad 0)) hX fX7 0 0 rfl rfl (Nat.le_of_ble_eq_true rfl) fl_X7_7 rfl dX7_isBetter_14 ?_
  refine z_iconst (v := nI 5) hX dX7_isBetter_17 (by decide) ?_
  refine z_iald (v := (nI ((goN N (va_up s 2 lk)) 5))) hX 1 (j := 5) rfl (by omega) (by decide) rfl dX7_isBetter_18 ?_
  refine z_aload_n hX 0 dX7_isBetter_19 rfl ?_
  refine z_get (v := .ref (ad 11)) hX fX7 0 11 rfl rfl (Nat.le_of_ble_eq_true rfl) fl_X7_25 rfl dX7_isBetter_20 ?_
  refine z_iconst (v := nI 5) hX dX7_isBetter_23 (by decide) ?_
  refine z_iald (v := (nI (s 5))) hX 2 (j := 5) rfl (by omega) (by decide) rfl dX7_isBetter_24 ?_
  refine z_isub (v := (nI (((goN N (va_up s 2 lk)) 5) - (s 5)))) hX dX7_isBetter_25 (pk_sub (by omega)) ?_
  refine z_put (v := .int (nI (((goN N (va_up s 2 lk)) 5) - (s 5)))) (ws' := [ob x 7 (rf ad (va_up (va_up v 1 f1_1) 12 (((goN N (va_up s 2 lk)) 5) - (s 5)))), ia G (ad 0) 29 (fN (goN N (va_up s 2 lk))), ia G (ad 11) 29 (fN s)]) hX fX7 0 12 rfl rfl (Nat.le_of_ble_eq_true rfl) fl_X7_182 rfl rfl rfl rfl rfl dX7_isBetter_26 ?_
  refine z_aload_n hX 0 dX7_isBetter_29 rfl ?_
  refine z_aload_n hX 0 dX7_isBetter_30 rfl ?_
  refine z_get (v := .ref (ad 0)) hX fX7 0 0 rfl rfl (Nat.le_of_ble_eq_true rfl) fl_X7_7 rfl dX7_isBetter_31 ?_
  refine z_iconst (v := nI 3) hX dX7_isBetter_34 (by decide) ?_
  refine z_iald (v := (nI ((goN N (va_up s 2 lk)) 3))) hX 1 (j := 3) rfl (by omega) (by decide) rfl dX7_isBetter_35 ?_
  refine z_aload_n hX 0 dX7_isBetter_36 rfl ?_
  refine z_get (v := .ref (ad 11)) hX fX7 0 11 rfl rfl (Nat.le_of_ble_eq_true rfl) fl_X7_25 rfl dX7_isBetter_37 ?_
  refine z_iconst (v := nI 3) hX dX7_isBetter_40 (by decide) ?_
  refine z_iald (v := (nI (s 3))) hX 2 (j := 3) rfl (by omega) (by decide) rfl dX7_isBetter_41 ?_
  refine z_isub (v := (nI (((goN N (va_up s 2 lk)) 3) - (s 3)))) hX dX7_isBetter_42 (pk_sub (by omega)) ?_
  refine z_put (v := .int (nI (((goN N (va_up s 2 lk)) 3) - (s 3)))) (ws' := [ob x 7 (rf ad (va_up (va_up (va_up v 1 f1_1) 12 (((goN N (va_up s 2 lk)) 5) - (s 5))) 13 (((goN N (va_up s 2 lk)) 3) - (s 3)))), ia G (ad 0) 29 (fN (goN N (va_up s 2 lk))), ia G (ad 11) 29 (fN s)]) hX fX7 0 13 rfl rfl (Nat.le_of_ble_eq_true rfl) fl_X7_185 rfl rfl rfl rfl rfl dX7_isBetter_43 ?_
  refine z_aload_n hX 0 dX7_isBetter_46 rfl ?_
  refine z_callVv (st := []) hX (c_X7_backs _ G x ad (va_up (va_up (va_up v 1 f1_1) 12 (((goN N (va_up s 2 lk)) 5) - (s 5))) 13 (((goN N (va_up s 2 lk)) 3) - (s 3))) (goN N (va_up s 2 lk)) s ) lb_X7_backs ml_X7_174 (fun (_u : Unit) => [ob x 7 (rf ad (va_up (va_up (va_up v 1 f1_1) 12 (((goN N (va_up s 2 lk)) 5) - (s 5))) 13 (((goN N (va_up s 2 lk)) 3) - (s 3)))), ia G (ad 0) 29 (fN s), ia G (ad 11) 29 (fN s)]) (wr := []) [0, 1, 2] [] [0, 1, 2] ⟨rfl, rfl, rfl, fun _ => rfl⟩ 0 rfl rfl rfl rfl ⟨Nat.le_refl _, Nat.le_refl _⟩ dX7_isBetter_47 rfl (fun  u47 hw47 => ?_)
  refine z_iload_n hX 3 dX7_isBetter_50 rfl ?_
  refine zn_if_eq (tgt := 87) hX dX7_isBetter_51 (by decide) (by omega) (fun c51 => ?_) (fun c51 => ?_)
  · skip
    refine z_iconst (v := nI 1) hX dX7_isBetter_87 (by decide) ?_
    refine z_goto (tgt := 92) hX dX7_isBetter_88 (by decide) ?_
    refine z_istore (L' := [(4, .int (nI 1)), (0, .ref x), (1, .int (nI lk)), (2, .int (nI N)), (3, .int (nI an))]) hX dX7_isBetter_92 (Nat.le_of_ble_eq_true rfl) rfl ?_
    refine z_aload_n hX 1 dX7_isBetter_94 rfl ?_
    refine z_iload hX 0 dX7_isBetter_95 rfl ?_
    refine zn_if_eq (tgt := 107) hX dX7_isBetter_97 (by decide) (by omega) (fun c97 => absurd c97 (by omega)) (fun _ => ?_)
    refine z_aload_n hX 1 dX7_isBetter_100 rfl ?_
    refine z_get (v := .int (nI (((goN N (va_up s 2 lk)) 5) - (s 5)))) hX fX7 0 12 rfl rfl (Nat.le_of_ble_eq_true rfl) fl_X7_182 rfl dX7_isBetter_101 ?_
    refine z_goto (tgt := 111) hX dX7_isBetter_104 (by decide) ?_
    refine z_put (v := .int (nI (((goN N (va_up s 2 lk)) 5) - (s 5)))) (ws' := [ob x 7 (rf ad (va_up (va_up (va_up (va_up v 1 f1_1) 12 (((goN N (va_up s 2 lk)) 5) - (s 5))) 13 (((goN N (va_up s 2 lk)) 3) - (s 3))) 14 (((goN N (va_up s 2 lk)) 5) - (s 5)))), ia G (ad 0) 29 (fN s), ia G (ad 11) 29 (fN s)]) hX fX7 0 14 rfl rfl (Nat.le_of_ble_eq_true rfl) fl_X7_188 rfl rfl rfl rfl rfl dX7_isBetter_111 ?_
    refine z_aload_n hX 1 dX7_isBetter_114 rfl ?_
    refine z_iload hX 0 dX7_isBetter_115 rfl ?_
    refine zn_if_eq (tgt := 127) hX dX7_isBetter_117 (by decide) (by omega) (fun c117 => absurd c117 (by omega)) (fun _ => ?_)
    refine z_aload_n hX 1 dX7_isBetter_120 rfl ?_
    refine z_get (v := .int (nI (((goN N (va_up s 2 lk)) 3) - (s 3)))) hX fX7 0 13 rfl rfl (Nat.le_of_ble_eq_true rfl) fl_X7_185 rfl dX7_isBetter_121 ?_
    refine z_goto (tgt := 131) hX dX7_isBetter_124 (by decide) ?_
    refine z_put (v := .int (nI (((goN N (va_up s 2 lk)) 3) - (s 3)))) (ws' := [ob x 7 (rf ad (va_up (va_up (va_up (va_up (va_up v 1 f1_1) 12 (((goN N (va_up s 2 lk)) 5) - (s 5))) 13 (((goN N (va_up s 2 lk)) 3) - (s 3))) 14 (((goN N (va_up s 2 lk)) 5) - (s 5))) 15 (((goN N (va_up s 2 lk)) 3) - (s 3)))), ia G (ad 0) 29 (fN s), ia G (ad 11) 29 (fN s)]) hX fX7 0 15 rfl rfl (Nat.le_of_ble_eq_true rfl) fl_X7_191 rfl rfl rfl rfl rfl dX7_isBetter_131 ?_
    refine z_iload hX 0 dX7_isBetter_134 rfl ?_
    have cc : an = 0 ∨ (goN N (va_up s 2 lk) 5 - s 5) < v 14 ∨ ((goN N (va_up s 2 lk) 5 - s 5) = v 14 ∧ v 15 < (goN N (va_up s 2 lk) 3 - s 3)) := by omega
    exact hR _ (va_up (va_up (va_up (va_up (va_up v 1 f1_1) 12 (((goN N (va_up s 2 lk)) 5) - (s 5))) 13 (((goN N (va_up s 2 lk)) 3) - (s 3))) 14 (((goN N (va_up s 2 lk)) 5) - (s 5))) 15 (((goN N (va_up s 2 lk)) 3) - (s 3))) _ _ ⟨⟨fun _ => rfl, fun z9 => absurd cc z9⟩, fun _ => ⟨rfl, rfl⟩, fun z9 => absurd cc z9, rfl, rfl, rfl, rfl⟩ dX7_isBetter_136 rfl
  · skip
    obtain ⟨b14, b15⟩ := h3 c51
    refine z_aload_n hX 0 dX7_isBetter_54 rfl ?_
    refine z_get (v := .int (nI (((goN N (va_up s 2 lk)) 5) - (s 5)))) hX fX7 0 12 rfl rfl (Nat.le_of_ble_eq_true rfl) fl_X7_182 rfl dX7_isBetter_55 ?_
    refine z_aload_n hX 0 dX7_isBetter_58 rfl ?_
    refine z_get (v := .int (nI (v 14))) hX fX7 0 14 rfl rfl (Nat.le_of_ble_eq_true rfl) fl_X7_188 rfl dX7_isBetter_59 ?_
    refine zn_icmp_lt (tgt := 87) hX dX7_isBetter_62 (by decide) (by omega) (by omega) (fun c62 => ?_) (fun c62 => ?_)
    · skip
      refine z_iconst (v := nI 1) hX dX7_isBetter_87 (by decide) ?_
      refine z_goto (tgt := 92) hX dX7_isBetter_88 (by decide) ?_
      refine z_istore (L' := [(4, .int (nI 1)), (0, .ref x), (1, .int (nI lk)), (2, .int (nI N)), (3, .int (nI an))]) hX dX7_isBetter_92 (Nat.le_of_ble_eq_true rfl) rfl ?_
      refine z_aload_n hX 1 dX7_isBetter_94 rfl ?_
      refine z_iload hX 0 dX7_isBetter_95 rfl ?_
      refine zn_if_eq (tgt := 107) hX dX7_isBetter_97 (by decide) (by omega) (fun c97 => absurd c97 (by omega)) (fun _ => ?_)
      refine z_aload_n hX 1 dX7_isBetter_100 rfl ?_
      refine z_get (v := .int (nI (((goN N (va_up s 2 lk)) 5) - (s 5)))) hX fX7 0 12 rfl rfl (Nat.le_of_ble_eq_true rfl) fl_X7_182 rfl dX7_isBetter_101 ?_
      refine z_goto (tgt := 111) hX dX7_isBetter_104 (by decide) ?_
      refine z_put (v := .int (nI (((goN N (va_up s 2 lk)) 5) - (s 5)))) (ws' := [ob x 7 (rf ad (va_up (va_up (va_up (va_up v 1 f1_1) 12 (((goN N (va_up s 2 lk)) 5) - (s 5))) 13 (((goN N (va_up s 2 lk)) 3) - (s 3))) 14 (((goN N (va_up s 2 lk)) 5) - (s 5)))), ia G (ad 0) 29 (fN s), ia G (ad 11) 29 (fN s)]) hX fX7 0 14 rfl rfl (Nat.le_of_ble_eq_true rfl) fl_X7_188 rfl rfl rfl rfl rfl dX7_isBetter_111 ?_
      refine z_aload_n hX 1 dX7_isBetter_114 rfl ?_
      refine z_iload hX 0 dX7_isBetter_115 rfl ?_
      refine zn_if_eq (tgt := 127) hX dX7_isBetter_117 (by decide) (by omega) (fun c117 => absurd c117 (by omega)) (fun _ => ?_)
      refine z_aload_n hX 1 dX7_isBetter_120 rfl ?_
      refine z_get (v := .int (nI (((goN N (va_up s 2 lk)) 3) - (s 3)))) hX fX7 0 13 rfl rfl (Nat.le_of_ble_eq_true rfl) fl_X7_185 rfl dX7_isBetter_121 ?_
      refine z_goto (tgt := 131) hX dX7_isBetter_124 (by decide) ?_
      refine z_put (v := .int (nI (((goN N (va_up s 2 lk)) 3) - (s 3)))) (ws' := [ob x 7 (rf ad (va_up (va_up (va_up (va_up (va_up v 1 f1_1) 12 (((goN N (va_up s 2 lk)) 5) - (s 5))) 13 (((goN N (va_up s 2 lk)) 3) - (s 3))) 14 (((goN N (va_up s 2 lk)) 5) - (s 5))) 15 (((goN N (va_up s 2 lk)) 3) - (s 3)))), ia G (ad 0) 29 (fN s), ia G (ad 11) 29 (fN s)]) hX fX7 0 15 rfl rfl (Nat.le_of_ble_eq_true rfl) fl_X7_191 rfl rfl rfl rfl rfl dX7_isBetter_131 ?_
      refine z_iload hX 0 dX7_isBetter_134 rfl ?_
      have cc : an = 0 ∨ (goN N (va_up s 2 lk) 5 - s 5) < v 14 ∨ ((goN N (va_up s 2 lk) 5 - s 5) = v 14 ∧ v 15 < (goN N (va_up s 2 lk) 3 - s 3)) := by omega
      exact hR _ (va_up (va_up (va_up (va_up (va_up v 1 f1_1) 12 (((goN N (va_up s 2 lk)) 5) - (s 5))) 13 (((goN N (va_up s 2 lk)) 3) - (s 3))) 14 (((goN N (va_up s 2 lk)) 5) - (s 5))) 15 (((goN N (va_up s 2 lk)) 3) - (s 3))) _ _ ⟨⟨fun _ => rfl, fun z9 => absurd cc z9⟩, fun _ => ⟨rfl, rfl⟩, fun z9 => absurd cc z9, rfl, rfl, rfl, rfl⟩ dX7_isBetter_136 rfl
    · skip
      refine z_aload_n hX 0 dX7_isBetter_65 rfl ?_
      refine z_get (v := .int (nI (((goN N (va_up s 2 lk)) 5) - (s 5)))) hX fX7 0 12 rfl rfl (Nat.le_of_ble_eq_true rfl) fl_X7_182 rfl dX7_isBetter_66 ?_
      refine z_aload_n hX 0 dX7_isBetter_69 rfl ?_
      refine z_get (v := .int (nI (v 14))) hX fX7 0 14 rfl rfl (Nat.le_of_ble_eq_true rfl) fl_X7_188 rfl dX7_isBetter_70 ?_
      refine zn_icmp_ne (tgt := 91) hX dX7_isBetter_73 (by decide) (by omega) (by omega) (fun c73 => ?_) (fun c73 => ?_)
      · skip
        refine z_iconst (v := nI 0) hX dX7_isBetter_91 (by decide) ?_
        refine z_istore (L' := [(4, .int (nI 0)), (0, .ref x), (1, .int (nI lk)), (2, .int (nI N)), (3, .int (nI an))]) hX dX7_isBetter_92 (Nat.le_of_ble_eq_true rfl) rfl ?_
        refine z_aload_n hX 1 dX7_isBetter_94 rfl ?_
        refine z_iload hX 0 dX7_isBetter_95 rfl ?_
        refine zn_if_eq (tgt := 107) hX dX7_isBetter_97 (by decide) (by omega) (fun _ => ?_) (fun c97 => absurd c97 (by omega))
        refine z_aload_n hX 1 dX7_isBetter_107 rfl ?_
        refine z_get (v := .int (nI (v 14))) hX fX7 0 14 rfl rfl (Nat.le_of_ble_eq_true rfl) fl_X7_188 rfl dX7_isBetter_108 ?_
        refine z_put (v := .int (nI (v 14))) (ws' := [ob x 7 (rf ad (va_up (va_up (va_up (va_up v 1 f1_1) 12 (((goN N (va_up s 2 lk)) 5) - (s 5))) 13 (((goN N (va_up s 2 lk)) 3) - (s 3))) 14 (v 14))), ia G (ad 0) 29 (fN s), ia G (ad 11) 29 (fN s)]) hX fX7 0 14 rfl rfl (Nat.le_of_ble_eq_true rfl) fl_X7_188 rfl rfl rfl rfl rfl dX7_isBetter_111 ?_
        refine z_aload_n hX 1 dX7_isBetter_114 rfl ?_
        refine z_iload hX 0 dX7_isBetter_115 rfl ?_
        refine zn_if_eq (tgt := 127) hX dX7_isBetter_117 (by decide) (by omega) (fun _ => ?_) (fun c117 => absurd c117 (by omega))
        refine z_aload_n hX 1 dX7_isBetter_127 rfl ?_
        refine z_get (v := .int (nI (v 15))) hX fX7 0 15 rfl rfl (Nat.le_of_ble_eq_true rfl) fl_X7_191 rfl dX7_isBetter_128 ?_
        refine z_put (v := .int (nI (v 15))) (ws' := [ob x 7 (rf ad (va_up (va_up (va_up (va_up (va_up v 1 f1_1) 12 (((goN N (va_up s 2 lk)) 5) - (s 5))) 13 (((goN N (va_up s 2 lk)) 3) - (s 3))) 14 (v 14)) 15 (v 15))), ia G (ad 0) 29 (fN s), ia G (ad 11) 29 (fN s)]) hX fX7 0 15 rfl rfl (Nat.le_of_ble_eq_true rfl) fl_X7_191 rfl rfl rfl rfl rfl dX7_isBetter_131 ?_
        refine z_iload hX 0 dX7_isBetter_134 rfl ?_
        have cc : ¬ (an = 0 ∨ (goN N (va_up s 2 lk) 5 - s 5) < v 14 ∨ ((goN N (va_up s 2 lk) 5 - s 5) = v 14 ∧ v 15 < (goN N (va_up s 2 lk) 3 - s 3))) := by omega
        exact hR _ (va_up (va_up (va_up (va_up (va_up v 1 f1_1) 12 (((goN N (va_up s 2 lk)) 5) - (s 5))) 13 (((goN N (va_up s 2 lk)) 3) - (s 3))) 14 (v 14)) 15 (v 15)) _ _ ⟨⟨fun z9 => absurd z9 cc, fun _ => rfl⟩, fun z9 => absurd z9 cc, fun _ => ⟨rfl, rfl⟩, rfl, rfl, rfl, rfl⟩ dX7_isBetter_136 rfl
      · skip
        refine z_aload_n hX 0 dX7_isBetter_76 rfl ?_
        refine z_get (v := .int (nI (((goN N (va_up s 2 lk)) 3) - (s 3)))) hX fX7 0 13 rfl rfl (Nat.le_of_ble_eq_true rfl) fl_X7_185 rfl dX7_isBetter_77 ?_
        refine z_aload_n hX 0 dX7_isBetter_80 rfl ?_
        refine z_get (v := .int (nI (v 15))) hX fX7 0 15 rfl rfl (Nat.le_of_ble_eq_true rfl) fl_X7_191 rfl dX7_isBetter_81 ?_
        refine zn_icmp_le (tgt := 91) hX dX7_isBetter_84 (by decide) (by omega) (by omega) (fun c84 => ?_) (fun c84 => ?_)
        · skip
          refine z_iconst (v := nI 0) hX dX7_isBetter_91 (by decide) ?_
          refine z_istore (L' := [(4, .int (nI 0)), (0, .ref x), (1, .int (nI lk)), (2, .int (nI N)), (3, .int (nI an))]) hX dX7_isBetter_92 (Nat.le_of_ble_eq_true rfl) rfl ?_
          refine z_aload_n hX 1 dX7_isBetter_94 rfl ?_
          refine z_iload hX 0 dX7_isBetter_95 rfl ?_
          refine zn_if_eq (tgt := 107) hX dX7_isBetter_97 (by decide) (by omega) (fun _ => ?_) (fun c97 => absurd c97 (by omega))
          refine z_aload_n hX 1 dX7_isBetter_107 rfl ?_
          refine z_get (v := .int (nI (v 14))) hX fX7 0 14 rfl rfl (Nat.le_of_ble_eq_true rfl) fl_X7_188 rfl dX7_isBetter_108 ?_
          refine z_put (v := .int (nI (v 14))) (ws' := [ob x 7 (rf ad (va_up (va_up (va_up (va_up v 1 f1_1) 12 (((goN N (va_up s 2 lk)) 5) - (s 5))) 13 (((goN N (va_up s 2 lk)) 3) - (s 3))) 14 (v 14))), ia G (ad 0) 29 (fN s), ia G (ad 11) 29 (fN s)]) hX fX7 0 14 rfl rfl (Nat.le_of_ble_eq_true rfl) fl_X7_188 rfl rfl rfl rfl rfl dX7_isBetter_111 ?_
          refine z_aload_n hX 1 dX7_isBetter_114 rfl ?_
          refine z_iload hX 0 dX7_isBetter_115 rfl ?_
          refine zn_if_eq (tgt := 127) hX dX7_isBetter_117 (by decide) (by omega) (fun _ => ?_) (fun c117 => absurd c117 (by omega))
          refine z_aload_n hX 1 dX7_isBetter_127 rfl ?_
          refine z_get (v := .int (nI (v 15))) hX fX7 0 15 rfl rfl (Nat.le_of_ble_eq_true rfl) fl_X7_191 rfl dX7_isBetter_128 ?_
          refine z_put (v := .int (nI (v 15))) (ws' := [ob x 7 (rf ad (va_up (va_up (va_up (va_up (va_up v 1 f1_1) 12 (((goN N (va_up s 2 lk)) 5) - (s 5))) 13 (((goN N (va_up s 2 lk)) 3) - (s 3))) 14 (v 14)) 15 (v 15))), ia G (ad 0) 29 (fN s), ia G (ad 11) 29 (fN s)]) hX fX7 0 15 rfl rfl (Nat.le_of_ble_eq_true rfl) fl_X7_191 rfl rfl rfl rfl rfl dX7_isBetter_131 ?_
          refine z_iload hX 0 dX7_isBetter_134 rfl ?_
          have cc : ¬ (an = 0 ∨ (goN N (va_up s 2 lk) 5 - s 5) < v 14 ∨ ((goN N (va_up s 2 lk) 5 - s 5) = v 14 ∧ v 15 < (goN N (va_up s 2 lk) 3 - s 3))) := by omega
          exact hR _ (va_up (va_up (va_up (va_up (va_up v 1 f1_1) 12 (((goN N (va_up s 2 lk)) 5) - (s 5))) 13 (((goN N (va_up s 2 lk)) 3) - (s 3))) 14 (v 14)) 15 (v 15)) _ _ ⟨⟨fun z9 => absurd z9 cc, fun _ => rfl⟩, fun z9 => absurd z9 cc, fun _ => ⟨rfl, rfl⟩, rfl, rfl, rfl, rfl⟩ dX7_isBetter_136 rfl
        · skip
          refine z_iconst (v := nI 1) hX dX7_isBetter_87 (by decide) ?_
          refine z_goto (tgt := 92) hX dX7_isBetter_88 (by decide) ?_
          refine z_istore (L' := [(4, .int (nI 1)), (0, .ref x), (1, .int (nI lk)), (2, .int (nI N)), (3, .int (nI an))]) hX dX7_isBetter_92 (Nat.le_of_ble_eq_true rfl) rfl ?_
          refine z_aload_n hX 1 dX7_isBetter_94 rfl ?_
          refine z_iload hX 0 dX7_isBetter_95 rfl ?_
          refine zn_if_eq (tgt := 107) hX dX7_isBetter_97 (by decide) (by omega) (fun c97 => absurd c97 (by omega)) (fun _ => ?_)
          refine z_aload_n hX 1 dX7_isBetter_100 rfl ?_
          refine z_get (v := .int (nI (((goN N (va_up s 2 lk)) 5) - (s 5)))) hX fX7 0 12 rfl rfl (Nat.le_of_ble_eq_true rfl) fl_X7_182 rfl dX7_isBetter_101 ?_
          refine z_goto (tgt := 111) hX dX7_isBetter_104 (by decide) ?_
          refine z_put (v := .int (nI (((goN N (va_up s 2 lk)) 5) - (s 5)))) (ws' := [ob x 7 (rf ad (va_up (va_up (va_up (va_up v 1 f1_1) 12 (((goN N (va_up s 2 lk)) 5) - (s 5))) 13 (((goN N (va_up s 2 lk)) 3) - (s 3))) 14 (((goN N (va_up s 2 lk)) 5) - (s 5)))), ia G (ad 0) 29 (fN s), ia G (ad 11) 29 (fN s)]) hX fX7 0 14 rfl rfl (Nat.le_of_ble_eq_true rfl) fl_X7_188 rfl rfl rfl rfl rfl dX7_isBetter_111 ?_
          refine z_aload_n hX 1 dX7_isBetter_114 rfl ?_
          refine z_iload hX 0 dX7_isBetter_115 rfl ?_
          refine zn_if_eq (tgt := 127) hX dX7_isBetter_117 (by decide) (by omega) (fun c117 => absurd c117 (by omega)) (fun _ => ?_)
          refine z_aload_n hX 1 dX7_isBetter_120 rfl ?_
          refine z_get (v := .int (nI (((goN N (va_up s 2 lk)) 3) - (s 3)))) hX fX7 0 13 rfl rfl (Nat.le_of_ble_eq_true rfl) fl_X7_185 rfl dX7_isBetter_121 ?_
          refine z_goto (tgt := 131) hX dX7_isBetter_124 (by decide) ?_
          refine z_put (v := .int (nI (((goN N (va_up s 2 lk)) 3) - (s 3)))) (ws' := [ob x 7 (rf ad (va_up (va_up (va_up (va_up (va_up v 1 f1_1) 12 (((goN N (va_up s 2 lk)) 5) - (s 5))) 13 (((goN N (va_up s 2 lk)) 3) - (s 3))) 14 (((goN N (va_up s 2 lk)) 5) - (s 5))) 15 (((goN N (va_up s 2 lk)) 3) - (s 3)))), ia G (ad 0) 29 (fN s), ia G (ad 11) 29 (fN s)]) hX fX7 0 15 rfl rfl (Nat.le_of_ble_eq_true rfl) fl_X7_191 rfl rfl rfl rfl rfl dX7_isBetter_131 ?_
          refine z_iload hX 0 dX7_isBetter_134 rfl ?_
          have cc : an = 0 ∨ (goN N (va_up s 2 lk) 5 - s 5) < v 14 ∨ ((goN N (va_up s 2 lk) 5 - s 5) = v 14 ∧ v 15 < (goN N (va_up s 2 lk) 3 - s 3)) := by omega
          exact hR _ (va_up (va_up (va_up (va_up (va_up v 1 f1_1) 12 (((goN N (va_up s 2 lk)) 5) - (s 5))) 13 (((goN N (va_up s 2 lk)) 3) - (s 3))) 14 (((goN N (va_up s 2 lk)) 5) - (s 5))) 15 (((goN N (va_up s 2 lk)) 3) - (s 3))) _ _ ⟨⟨fun _ => rfl, fun z9 => absurd cc z9⟩, fun _ => ⟨rfl, rfl⟩, fun z9 => absurd cc z9, rfl, rfl, rfl, rfl⟩ dX7_isBetter_136 rfl
set_option maxRecDepth 100000 in
set_option maxHeartbeats 4000000 in
theorem c_X7_wise (l : Launch) (G : zG) (x : Nat) (ad : Nat → Nat) (v : Nat → Nat) (s : nst) (t : nst) (nn : Int32) (wh : Int32) (h0 : WF 9999 0 s) : zMi l G yX7_wise cX7_wise 5 .int 6 0 0 134 [.ref x, .int nn, .int wh] [ob x 7 (rf ad v), ia G (ad 0) 29 (fN s), ia G (ad 11) 29 (fN t)] (fun (r : Int32) (_u : nst × nst) => r = spWise s nn wh ∧ _u.1 3 = v 3 ∧ _u.1 10 = v 10 ∧ _u.1 17 = v 17 ∧ _u.1 18 = v 18) (fun (_u : nst × nst) => [ob x 7 (rf ad _u.1), ia G (ad 0) 29 (fN s), ia G (ad 11) 29 (fN _u.2)]) := by
  refine zMi.of (by decide) rfl (fun X A H0 hX hXl hR => ?_)
  show Z (X, G, A, H0, 5) 0 0 [ob x 7 (rf ad v), ia G (ad 0) 29 (fN s), ia G (ad 11) 29 (fN t)] 0 [(0, .ref x), (1, .int nn), (2, .int wh)] []
  subst hXl
  have z0 := h0.1
  have z1 := h0.2.1
  have z2 := h0.2.2.1
  have z3 := h0.2.2.2.1
  refine z_iload_n hX 1 dX7_wise_0 rfl ?_
  refine z_i2l (v := (nn.toInt64)) hX dX7_wise_1 rfl ?_
  refine z_lconst (v := lN 1) hX dX7_wise_2 (by decide) ?_
  refine z_ldc2 (v := lN 40) hX kl_X7_151 dX7_wise_3 ?_
  refine z_callSi (st := []) hX (c_X7_inX _ G nn 1 40 (by omega) (by omega)) lb_X7_in ml_X7_44 (fun (_u : Unit) => [ob x 7 (rf ad v), ia G (ad 0) 29 (fN s), ia G (ad 11) 29 (fN t)]) (wr := [ob x 7 (rf ad v), ia G (ad 0) 29 (fN s), ia G (ad 11) 29 (fN t)]) [] [0, 1, 2] [0, 1, 2] ⟨rfl, rfl, rfl, fun _ => rfl⟩ rfl rfl ⟨Nat.le_refl _, Nat.le_refl _⟩ dX7_wise_6 rfl (fun r6 u6 hw6 => ?_)
  try dsimp only at hw6
  rcases hw6 with ⟨nnj, hnnl, hnnh, rfl, rfl⟩ | ⟨hw6, rfl⟩
  · skip
    refine zn_if_eq (tgt := 24) hX dX7_wise_9 (by decide) (by omega) (fun c9 => absurd c9 (by omega)) (fun _ => ?_)
    refine z_iload_n hX 2 dX7_wise_12 rfl ?_
    refine z_i2l (v := (wh.toInt64)) hX dX7_wise_13 rfl ?_
    refine z_lconst (v := lN 0) hX dX7_wise_14 (by decide) ?_
    refine z_ldc2 (v := lN 2) hX kl_X7_177 dX7_wise_15 ?_
    refine z_callSi (st := []) hX (c_X7_inX _ G wh 0 2 (by omega) (by omega)) lb_X7_in ml_X7_44 (fun (_u : Unit) => [ob x 7 (rf ad v), ia G (ad 0) 29 (fN s), ia G (ad 11) 29 (fN t)]) (wr := [ob x 7 (rf ad v), ia G (ad 0) 29 (fN s), ia G (ad 11) 29 (fN t)]) [] [0, 1, 2] [0, 1, 2] ⟨rfl, rfl, rfl, fun _ => rfl⟩ rfl rfl ⟨Nat.le_refl _, Nat.le_refl _⟩ dX7_wise_18 rfl (fun r18 u18 hw18 => ?_)
    try dsimp only at hw18
    rcases hw18 with ⟨whj, hwhl, hwhh, rfl, rfl⟩ | ⟨hw18, rfl⟩
    · skip
      refine zn_if_ne (tgt := 26) hX dX7_wise_21 (by decide) (by omega) (fun _ => ?_) (fun c21 => absurd c21 (by omega))
      refine z_iconst (v := nI 0) hX dX7_wise_26 (by decide) ?_
      refine z_istore_n (L' := [(3, .int (nI 0)), (0, .ref x), (1, .int (nI nnj)), (2, .int (nI whj))]) hX dX7_wise_27 (Nat.le_of_ble_eq_true rfl) rfl ?_
      refine z_aload_n hX 1 dX7_wise_28 rfl ?_
      refine z_callVv (st := []) hX (c_X7_asides _ G x ad v s t ) lb_X7_asides ml_X7_168 (fun (_u : Unit) => [ob x 7 (rf ad v), ia G (ad 0) 29 (fN s), ia G (ad 11) 29 (fN s)]) (wr := []) [0, 1, 2] [] [0, 1, 2] ⟨rfl, rfl, rfl, fun _ => rfl⟩ 0 rfl rfl rfl rfl ⟨Nat.le_refl _, Nat.le_refl _⟩ dX7_wise_29 rfl (fun  u29 hw29 => ?_)
      refine z_iconst (v := nI 0) hX dX7_wise_32 (by decide) ?_
      refine z_istore (L' := [(4, .int (nI 0)), (3, .int (nI 0)), (0, .ref x), (1, .int (nI nnj)), (2, .int (nI whj))]) hX dX7_wise_33 (Nat.le_of_ble_eq_true rfl) rfl ?_
      have lp35 : ∀ (n35 : Nat) (v0 : Nat) (b : Nat) (vv : nst), (64 + 1 ≤ v0 + n35) → (v0 ≤ 64) → (vv 3 = v 3) → (vv 10 = v 10) → (vv 17 = v 17) → (vv 18 = v 18) → (¬ v0 = 0 → (b + 1, vv 14, vv 15) = bestW s nnj v0) → Z (X, G, A, H0, 5) 0 0 [ob x 7 (rf ad vv), ia G (ad 0) 29 (fN s), ia G (ad 11) 29 (fN s)] 35 [(0, .ref x), (1, .int (nI nnj)), (2, .int (nI whj)), (3, .int (nI b)), (4, .int (nI v0))] [] := by
        intro n35
        induction n35 with
        | zero =>
          intro v0 b vv hn hv hv3 hv10 hv17 hv18 hb
          exfalso
          omega
        | succ n35 ih35 =>
          intro v0 b vv hn hv hv3 hv10 hv17 hv18 hb
          have q7 := bestW_bd (n := nnj) h0 (by omega) v0 hv
          refine z_iload hX 4 dX7_wise_35 rfl ?_
          refine z_bipush (v := nI 64) hX dX7_wise_37 (by decide) ?_
          refine zn_icmp_ge (tgt := 75) hX dX7_wise_39 (by decide) (by omega) (by omega) (fun c39 => ?_) (fun c39 => ?_)
          · skip
            refine z_iload_n hX 2 dX7_wise_75 rfl ?_
            refine zn_if_ne (tgt := 83) hX dX7_wise_76 (by decide) (by omega) (fun c76 => ?_) (fun c76 => ?_)
            · skip
              refine z_iload_n hX 2 dX7_wise_83 rfl ?_
              refine z_iconst (v := nI 1) hX dX7_wise_84 (by decide) ?_
              refine zn_icmp_ne (tgt := 95) hX dX7_wise_85 (by decide) (by omega) (by omega) (fun c85 => ?_) (fun c85 => ?_)
              · skip
                refine z_aload_n hX 0 dX7_wise_95 rfl ?_
                refine z_get (v := .int (nI (vv 15))) hX fX7 0 15 rfl rfl (Nat.le_of_ble_eq_true rfl) fl_X7_191 rfl dX7_wise_96 ?_
                have ev : v0 = 64 := by omega
                have hb2 : (b + 1, vv 14, vv 15) = bestW s nnj 64 := by rw [← ev]; exact hb (by omega)
                exact hR _ (vv, s) _ _ ⟨by unfold spWise; rw [if_pos (⟨inb_t (by omega) (by omega) (by omega), inb_t (by omega) (by omega) (by omega)⟩), gN_nI (by omega), gN_nI (by omega), ← hb2]; first | (rw [if_pos (by omega)]; rfl) | rw [if_neg (by omega), if_pos (by omega)] | rw [if_neg (by omega), if_neg (by omega)], hv3, hv10, hv17, hv18⟩ dX7_wise_99 rfl
              · skip
                refine z_aload_n hX 0 dX7_wise_88 rfl ?_
                refine z_get (v := .int (nI (vv 14))) hX fX7 0 14 rfl rfl (Nat.le_of_ble_eq_true rfl) fl_X7_188 rfl dX7_wise_89 ?_
                refine z_goto (tgt := 99) hX dX7_wise_92 (by decide) ?_
                have ev : v0 = 64 := by omega
                have hb2 : (b + 1, vv 14, vv 15) = bestW s nnj 64 := by rw [← ev]; exact hb (by omega)
                exact hR _ (vv, s) _ _ ⟨by unfold spWise; rw [if_pos (⟨inb_t (by omega) (by omega) (by omega), inb_t (by omega) (by omega) (by omega)⟩), gN_nI (by omega), gN_nI (by omega), ← hb2]; first | (rw [if_pos (by omega)]; rfl) | rw [if_neg (by omega), if_pos (by omega)] | rw [if_neg (by omega), if_neg (by omega)], hv3, hv10, hv17, hv18⟩ dX7_wise_99 rfl
            · skip
              refine z_iload_n hX 3 dX7_wise_79 rfl ?_
              refine z_goto (tgt := 99) hX dX7_wise_80 (by decide) ?_
              have ev : v0 = 64 := by omega
              have hb2 : (b + 1, vv 14, vv 15) = bestW s nnj 64 := by rw [← ev]; exact hb (by omega)
              exact hR _ (vv, s) _ _ ⟨by unfold spWise; rw [if_pos (⟨inb_t (by omega) (by omega) (by omega), inb_t (by omega) (by omega) (by omega)⟩), gN_nI (by omega), gN_nI (by omega), ← hb2]; first | (rw [if_pos (by omega)]; rfl) | rw [if_neg (by omega), if_pos (by omega)] | rw [if_neg (by omega), if_neg (by omega)], hv3, hv10, hv17, hv18⟩ dX7_wise_99 rfl
          · skip
            refine z_aload_n hX 0 dX7_wise_42 rfl ?_
            refine z_iload hX 4 dX7_wise_43 rfl ?_
            refine z_iload_n hX 1 dX7_wise_45 rfl ?_
            refine z_iload hX 4 dX7_wise_46 rfl ?_
            refine zn_if_le (tgt := 55) hX dX7_wise_48 (by decide) (by omega) (fun c48 => ?_) (fun c48 => ?_)
            · skip
              refine z_iconst (v := nI 0) hX dX7_wise_55 (by decide) ?_
              refine z_callVi (st := []) hX (c_X7_isBetter _ G x ad vv s v0 nnj 0 h0 (by omega) (by omega) (fun _ => by have e9 := hb (by omega); rw [← e9] at q7; exact q7.2) (by omega)) lb_X7_isBetter ml_X7_194 (fun (_u : nst) => [ob x 7 (rf ad _u), ia G (ad 0) 29 (fN s), ia G (ad 11) 29 (fN s)]) (wr := []) [0, 1, 2] [] [0, 1, 2] ⟨rfl, rfl, rfl, fun _ => rfl⟩ 0 rfl rfl rfl rfl ⟨Nat.le_refl _, Nat.le_refl _⟩ dX7_wise_56 rfl (fun r56 u56 hw56 => ?_)
              obtain ⟨v2_1, rfl⟩ : ∃ z9, z9 = u56 := ⟨_, rfl⟩
              obtain ⟨hw56, hw56x⟩ := hw56
              try dsimp only at hw56
              rcases Classical.em (0 = 0 ∨ (goN nnj (va_up s 2 v0) 5 - s 5) < vv 14 ∨ ((goN nnj (va_up s 2 v0) 5 - s 5) = vv 14 ∧ vv 15 < (goN nnj (va_up s 2 v0) 3 - s 3))) with b56 | b56
              · obtain rfl := hw56.1 b56
                refine zn_if_eq (tgt := 67) hX dX7_wise_59 (by decide) (by omega) (fun c59 => absurd c59 (by omega)) (fun _ => ?_)
                refine z_iload hX 4 dX7_wise_62 rfl ?_
                refine z_goto (tgt := 68) hX dX7_wise_64 (by decide) ?_
                refine z_istore_n (L' := [(3, .int (nI v0)), (0, .ref x), (1, .int (nI nnj)), (2, .int (nI whj)), (4, .int (nI v0))]) hX dX7_wise_68 (Nat.le_of_ble_eq_true rfl) rfl ?_
                have hbn : ¬ v0 + 1 = 0 → (v0 + 1, v2_1 14, v2_1 15) = bestW s nnj (v0 + 1) := fun _ => by
                  have e9 : v0 = 0 := by omega
                  subst e9
                  rw [bestW]; unfold offerS; rw [if_pos (Or.inl (show (bestW s nnj 0).1 = 0 from rfl)), (hw56x.1 (Or.inl rfl)).1, (hw56x.1 (Or.inl rfl)).2]
                refine z_iinc (v := (nI (v0 + 1))) (L' := [(4, .int (nI (v0 + 1))), (3, .int (nI v0)), (0, .ref x), (1, .int (nI nnj)), (2, .int (nI whj))]) hX 4 dX7_wise_69 rfl (nI_inc _) (Nat.le_of_ble_eq_true rfl) rfl ?_
                refine z_goto (tgt := 35) hX dX7_wise_72 (by decide) ?_
                refine z_lsub [2, 3, 4, 1, 0] rfl ?_
                exact ih35 (v0 + 1) v0 v2_1 (by omega) (by omega) (hw56x.2.2.1.trans hv3) (hw56x.2.2.2.1.trans hv10) (hw56x.2.2.2.2.1.trans hv17) (hw56x.2.2.2.2.2.trans hv18) hbn
              · obtain rfl := hw56.2 b56
                refine zn_if_eq (tgt := 67) hX dX7_wise_59 (by decide) (by omega) (fun _ => ?_) (fun c59 => absurd c59 (by omega))
                refine z_iload_n hX 3 dX7_wise_67 rfl ?_
                refine z_istore_n (L' := [(3, .int (nI b)), (0, .ref x), (1, .int (nI nnj)), (2, .int (nI whj)), (4, .int (nI v0))]) hX dX7_wise_68 (Nat.le_of_ble_eq_true rfl) rfl ?_
                exact absurd (Or.inl rfl) b56
            · skip
              refine z_iconst (v := nI 1) hX dX7_wise_51 (by decide) ?_
              refine z_goto (tgt := 56) hX dX7_wise_52 (by decide) ?_
              refine z_callVi (st := []) hX (c_X7_isBetter _ G x ad vv s v0 nnj 1 h0 (by omega) (by omega) (fun _ => by have e9 := hb (by omega); rw [← e9] at q7; exact q7.2) (by omega)) lb_X7_isBetter ml_X7_194 (fun (_u : nst) => [ob x 7 (rf ad _u), ia G (ad 0) 29 (fN s), ia G (ad 11) 29 (fN s)]) (wr := []) [0, 1, 2] [] [0, 1, 2] ⟨rfl, rfl, rfl, fun _ => rfl⟩ 0 rfl rfl rfl rfl ⟨Nat.le_refl _, Nat.le_refl _⟩ dX7_wise_56 rfl (fun r56 u56 hw56 => ?_)
              obtain ⟨v2_2, rfl⟩ : ∃ z9, z9 = u56 := ⟨_, rfl⟩
              obtain ⟨hw56, hw56x⟩ := hw56
              try dsimp only at hw56
              rcases Classical.em (1 = 0 ∨ (goN nnj (va_up s 2 v0) 5 - s 5) < vv 14 ∨ ((goN nnj (va_up s 2 v0) 5 - s 5) = vv 14 ∧ vv 15 < (goN nnj (va_up s 2 v0) 3 - s 3))) with b56 | b56
              · obtain rfl := hw56.1 b56
                refine zn_if_eq (tgt := 67) hX dX7_wise_59 (by decide) (by omega) (fun c59 => absurd c59 (by omega)) (fun _ => ?_)
                refine z_iload hX 4 dX7_wise_62 rfl ?_
                refine z_goto (tgt := 68) hX dX7_wise_64 (by decide) ?_
                refine z_istore_n (L' := [(3, .int (nI v0)), (0, .ref x), (1, .int (nI nnj)), (2, .int (nI whj)), (4, .int (nI v0))]) hX dX7_wise_68 (Nat.le_of_ble_eq_true rfl) rfl ?_
                have hbn : ¬ v0 + 1 = 0 → (v0 + 1, v2_2 14, v2_2 15) = bestW s nnj (v0 + 1) := fun _ => by
                  rw [bestW]
                  unfold offerS
                  rw [← hb (by omega), if_pos (by dsimp only; omega), (hw56x.1 b56).1, (hw56x.1 b56).2]
                refine z_iinc (v := (nI (v0 + 1))) (L' := [(4, .int (nI (v0 + 1))), (3, .int (nI v0)), (0, .ref x), (1, .int (nI nnj)), (2, .int (nI whj))]) hX 4 dX7_wise_69 rfl (nI_inc _) (Nat.le_of_ble_eq_true rfl) rfl ?_
                refine z_goto (tgt := 35) hX dX7_wise_72 (by decide) ?_
                refine z_lsub [2, 3, 4, 1, 0] rfl ?_
                exact ih35 (v0 + 1) v0 v2_2 (by omega) (by omega) (hw56x.2.2.1.trans hv3) (hw56x.2.2.2.1.trans hv10) (hw56x.2.2.2.2.1.trans hv17) (hw56x.2.2.2.2.2.trans hv18) hbn
              · obtain rfl := hw56.2 b56
                refine zn_if_eq (tgt := 67) hX dX7_wise_59 (by decide) (by omega) (fun _ => ?_) (fun c59 => absurd c59 (by omega))
                refine z_iload_n hX 3 dX7_wise_67 rfl ?_
                refine z_istore_n (L' := [(3, .int (nI b)), (0, .ref x), (1, .int (nI nnj)), (2, .int (nI whj)), (4, .int (nI v0))]) hX dX7_wise_68 (Nat.le_of_ble_eq_true rfl) rfl ?_
                have hbn : ¬ v0 + 1 = 0 → (b + 1, v2_2 14, v2_2 15) = bestW s nnj (v0 + 1) := fun _ => by
                  rw [bestW]
                  unfold offerS
                  rw [← hb (by omega), if_neg (by dsimp only; omega), (hw56x.2.1 b56).1, (hw56x.2.1 b56).2]
                refine z_iinc (v := (nI (v0 + 1))) (L' := [(4, .int (nI (v0 + 1))), (3, .int (nI b)), (0, .ref x), (1, .int (nI nnj)), (2, .int (nI whj))]) hX 4 dX7_wise_69 rfl (nI_inc _) (Nat.le_of_ble_eq_true rfl) rfl ?_
                refine z_goto (tgt := 35) hX dX7_wise_72 (by decide) ?_
                refine z_lsub [2, 3, 4, 1, 0] rfl ?_
                exact ih35 (v0 + 1) b v2_2 (by omega) (by omega) (hw56x.2.2.1.trans hv3) (hw56x.2.2.2.1.trans hv10) (hw56x.2.2.2.2.1.trans hv17) (hw56x.2.2.2.2.2.trans hv18) hbn
      refine z_lsub [2, 3, 4, 1, 0] rfl ?_
      exact lp35 65 0 0 v (by omega) (by omega) rfl rfl rfl rfl (fun z9 => absurd rfl z9)
    · have hb_wh : inb wh 0 2 = false := hw18
      refine zn_if_ne (tgt := 26) hX dX7_wise_21 (by decide) (by omega) (fun c21 => absurd c21 (by omega)) (fun _ => ?_)
      refine z_iconst (v := (-1)) hX dX7_wise_24 (by decide) ?_
      exact hR _ (v, t) _ _ ⟨by unfold spWise; rw [if_neg (by simp [hb_wh])], rfl, rfl, rfl, rfl⟩ dX7_wise_25 rfl
  · have hb_nn : inb nn 1 40 = false := hw6
    refine zn_if_eq (tgt := 24) hX dX7_wise_9 (by decide) (by omega) (fun _ => ?_) (fun c9 => absurd c9 (by omega))
    refine z_iconst (v := (-1)) hX dX7_wise_24 (by decide) ?_
    exact hR _ (v, t) _ _ ⟨by unfold spWise; rw [if_neg (by simp [hb_nn])], rfl, rfl, rfl, rfl⟩ dX7_wise_25 rfl
set_option maxRecDepth 100000 in
set_option maxHeartbeats 4000000 in
theorem c_X7_otherwise (l : Launch) (G : zG) (x : Nat) (ad : Nat → Nat) (v : Nat → Nat) (s : nst) (t : nst) (N : Nat) (on : Nat) (h0 : WF 9999 0 s) (h1 : N ≤ 60) (h2 : on < 2) : zMi l G yX7_otherwise cX7_otherwise 5 .int 6 0 0 134 [.ref x, .int (nI N), .int (nI on)] [ob x 7 (rf ad v), ia G (ad 0) 29 (fN s), ia G (ad 11) 29 (fN t)] (fun (r : Int32) (_u : nst × nst) => r = l4 (bestT s N on 6).1 ∧ _u.1 3 = v 3 ∧ _u.1 10 = v 10 ∧ _u.1 17 = v 17 ∧ _u.1 18 = v 18) (fun (_u : nst × nst) => [ob x 7 (rf ad _u.1), ia G (ad 0) 29 (fN s), ia G (ad 11) 29 (fN _u.2)]) := by
  refine zMi.of (by decide) rfl (fun X A H0 hX hXl hR => ?_)
  show Z (X, G, A, H0, 5) 0 0 [ob x 7 (rf ad v), ia G (ad 0) 29 (fN s), ia G (ad 11) 29 (fN t)] 0 [(0, .ref x), (1, .int (nI N)), (2, .int (nI on))] []
  subst hXl
  have z0 := h0.1
  have z1 := h0.2.1
  have z2 := h0.2.2.1
  have z3 := h0.2.2.2.1
  refine z_bipush (v := l4 0) hX dX7_otherwise_0 (by decide) ?_
  refine z_istore_n (L' := [(3, .int (l4 0)), (0, .ref x), (1, .int (nI N)), (2, .int (nI on))]) hX dX7_otherwise_2 (Nat.le_of_ble_eq_true rfl) rfl ?_
  refine z_aload_n hX 1 dX7_otherwise_3 rfl ?_
  refine z_callVv (st := []) hX (c_X7_asides _ G x ad v s t ) lb_X7_asides ml_X7_168 (fun (_u : Unit) => [ob x 7 (rf ad v), ia G (ad 0) 29 (fN s), ia G (ad 11) 29 (fN s)]) (wr := []) [0, 1, 2] [] [0, 1, 2] ⟨rfl, rfl, rfl, fun _ => rfl⟩ 0 rfl rfl rfl rfl ⟨Nat.le_refl _, Nat.le_refl _⟩ dX7_otherwise_4 rfl (fun  u4 hw4 => ?_)
  refine z_iconst (v := nI 0) hX dX7_otherwise_7 (by decide) ?_
  refine z_istore (L' := [(4, .int (nI 0)), (3, .int (l4 0)), (0, .ref x), (1, .int (nI N)), (2, .int (nI on))]) hX dX7_otherwise_8 (Nat.le_of_ble_eq_true rfl) rfl ?_
  have lp10 : ∀ (n10 : Nat) (v0 : Nat) (k : Nat) (vv : nst), (6 + 1 ≤ v0 + n10) → (v0 ≤ 6) → (vv 3 = v 3) → (vv 10 = v 10) → (vv 17 = v 17) → (vv 18 = v 18) → (k = (bestT s N on v0).1 ∧ (¬ k = 0 → (k, vv 14, vv 15) = bestT s N on v0)) → Z (X, G, A, H0, 5) 0 0 [ob x 7 (rf ad vv), ia G (ad 0) 29 (fN s), ia G (ad 11) 29 (fN s)] 10 [(0, .ref x), (1, .int (nI N)), (2, .int (nI on)), (3, .int (l4 k)), (4, .int (nI v0))] [] := by
    intro n10
    induction n10 with
    | zero =>
      intro v0 k vv hn hv hv3 hv10 hv17 hv18 hb
      exfalso
      omega
    | succ n10 ih10 =>
      intro v0 k vv hn hv hv3 hv10 hv17 hv18 hb
      have q7 := bestT_bd (n := N) (on := on) h0 (by omega) v0 hv
      have q8 := xor_lt (k := v0) z2
      refine z_iload hX 4 dX7_otherwise_10 rfl ?_
      refine z_bipush (v := nI 6) hX dX7_otherwise_12 (by decide) ?_
      refine zn_icmp_ge (tgt := 75) hX dX7_otherwise_14 (by decide) (by omega) (by omega) (fun c14 => ?_) (fun c14 => ?_)
      · skip
        refine z_iload_n hX 3 dX7_otherwise_75 rfl ?_
        have ev : v0 = 6 := by omega
        have hb2 : k = (bestT s N on 6).1 := by rw [← ev]; exact hb.1
        exact hR _ (vv, s) _ _ ⟨by rw [← hb2], hv3, hv10, hv17, hv18⟩ dX7_otherwise_76 rfl
      · skip
        refine z_aload_n hX 0 dX7_otherwise_17 rfl ?_
        refine z_get (v := .ref (ad 0)) hX fX7 0 0 rfl rfl (Nat.le_of_ble_eq_true rfl) fl_X7_7 rfl dX7_otherwise_18 ?_
        refine z_iconst (v := nI 2) hX dX7_otherwise_21 (by decide) ?_
        refine z_iald (v := (nI (s 2))) hX 1 (j := 2) rfl (by omega) (by decide) rfl dX7_otherwise_22 ?_
        refine z_iload hX 4 dX7_otherwise_23 rfl ?_
        refine z_ishr (v := (nI ((s 2) / 2 ^ v0))) hX dX7_otherwise_25 (shr_nI (by omega) (by omega)) ?_
        refine z_iconst (v := nI 1) hX dX7_otherwise_26 (by decide) ?_
        refine z_iand (v := (nI (((s 2) / 2 ^ v0) % 2))) hX dX7_otherwise_27 (and1_nI _) ?_
        refine z_iload_n hX 2 dX7_otherwise_28 rfl ?_
        refine zn_icmp_ne (tgt := 69) hX dX7_otherwise_29 (by decide) (by omega) (by omega) (fun c29 => ?_) (fun c29 => ?_)
        · skip
          have hbn : k = (bestT s N on (v0 + 1)).1 ∧ (¬ k = 0 → (k, vv 14, vv 15) = bestT s N on (v0 + 1)) := by
            rw [bestT, if_neg (by omega)]
            exact hb
          refine z_iinc (v := (nI (v0 + 1))) (L' := [(4, .int (nI (v0 + 1))), (0, .ref x), (1, .int (nI N)), (2, .int (nI on)), (3, .int (l4 k))]) hX 4 dX7_otherwise_69 rfl (nI_inc _) (Nat.le_of_ble_eq_true rfl) rfl ?_
          refine z_goto (tgt := 10) hX dX7_otherwise_72 (by decide) ?_
          refine z_lsub [1, 2, 3, 4, 0] rfl ?_
          exact ih10 (v0 + 1) k vv (by omega) (by omega) hv3 hv10 hv17 hv18 hbn
        · skip
          refine z_aload_n hX 0 dX7_otherwise_32 rfl ?_
          refine z_aload_n hX 0 dX7_otherwise_33 rfl ?_
          refine z_get (v := .ref (ad 0)) hX fX7 0 0 rfl rfl (Nat.le_of_ble_eq_true rfl) fl_X7_7 rfl dX7_otherwise_34 ?_
          refine z_iconst (v := nI 2) hX dX7_otherwise_37 (by decide) ?_
          refine z_iald (v := (nI (s 2))) hX 1 (j := 2) rfl (by omega) (by decide) rfl dX7_otherwise_38 ?_
          refine z_iconst (v := nI 1) hX dX7_otherwise_39 (by decide) ?_
          refine z_iload hX 4 dX7_otherwise_40 rfl ?_
          refine z_ishl (v := (nI (2 ^ v0))) hX dX7_otherwise_42 (shl_nI _ (by omega)) ?_
          refine z_ixor (v := (nI ((s 2) ^^^ (2 ^ v0)))) hX dX7_otherwise_43 (xor_nI _ _) ?_
          refine z_iload_n hX 1 dX7_otherwise_44 rfl ?_
          refine z_iload_n hX 3 dX7_otherwise_45 rfl ?_
          refine z_bipush (v := (-4)) hX dX7_otherwise_46 (by decide) ?_
          refine z_icmp_eq (tgt := 55) hX dX7_otherwise_48 (by decide) (fun c48 => ?_) (fun c48 => ?_)
          · rw [l4_eq (by omega)] at c48
            refine z_iconst (v := nI 0) hX dX7_otherwise_55 (by decide) ?_
            refine z_callVi (st := []) hX (c_X7_isBetter _ G x ad vv s ((s 2) ^^^ (2 ^ v0)) N 0 h0 (by omega) (by omega) (fun z9 => by first | exact absurd rfl z9 | (have e9 := hb.2 (by omega); rw [← e9] at q7; exact q7.2)) (by omega)) lb_X7_isBetter ml_X7_194 (fun (_u : nst) => [ob x 7 (rf ad _u), ia G (ad 0) 29 (fN s), ia G (ad 11) 29 (fN s)]) (wr := []) [0, 1, 2] [] [0, 1, 2] ⟨rfl, rfl, rfl, fun _ => rfl⟩ 0 rfl rfl rfl rfl ⟨Nat.le_refl _, Nat.le_refl _⟩ dX7_otherwise_56 rfl (fun r56 u56 hw56 => ?_)
            obtain ⟨v2_1, rfl⟩ : ∃ z9, z9 = u56 := ⟨_, rfl⟩
            obtain ⟨hw56, hw56x⟩ := hw56
            try dsimp only at hw56
            rcases Classical.em (0 = 0 ∨ (goN N (va_up s 2 ((s 2) ^^^ (2 ^ v0))) 5 - s 5) < vv 14 ∨ ((goN N (va_up s 2 ((s 2) ^^^ (2 ^ v0))) 5 - s 5) = vv 14 ∧ vv 15 < (goN N (va_up s 2 ((s 2) ^^^ (2 ^ v0))) 3 - s 3))) with b56 | b56
            · obtain rfl := hw56.1 b56
              refine zn_if_eq (tgt := 67) hX dX7_otherwise_59 (by decide) (by omega) (fun c59 => absurd c59 (by omega)) (fun _ => ?_)
              refine z_iload hX 4 dX7_otherwise_62 rfl ?_
              refine z_goto (tgt := 68) hX dX7_otherwise_64 (by decide) ?_
              refine z_istore_n (L' := [(3, .int (nI v0)), (0, .ref x), (1, .int (nI N)), (2, .int (nI on)), (4, .int (nI v0))]) hX dX7_otherwise_68 (Nat.le_of_ble_eq_true rfl) rfl ?_
              have e8 : (v0 + 1, v2_1 14, v2_1 15) = bestT s N on (v0 + 1) := by
                rw [bestT, if_pos (by omega)]
                unfold offerS
                rw [if_pos (by rcases Nat.eq_zero_or_pos k with e9 | e9
                               · left; rw [← hb.1]; exact e9
                               · rw [← hb.2 (by omega)]; dsimp only; omega), (hw56x.1 b56).1, (hw56x.1 b56).2]
              have hbn : v0 + 1 = (bestT s N on (v0 + 1)).1 ∧ (¬ v0 + 1 = 0 → (v0 + 1, v2_1 14, v2_1 15) = bestT s N on (v0 + 1)) := ⟨by rw [← e8], fun _ => e8⟩
              refine z_iinc (v := (nI (v0 + 1))) (L' := [(4, .int (nI (v0 + 1))), (3, .int (nI v0)), (0, .ref x), (1, .int (nI N)), (2, .int (nI on))]) hX 4 dX7_otherwise_69 rfl (nI_inc _) (Nat.le_of_ble_eq_true rfl) rfl ?_
              refine z_goto (tgt := 10) hX dX7_otherwise_72 (by decide) ?_
              refine z_lsub [2, 3, 4, 1, 0] rfl ?_
              exact ih10 (v0 + 1) (v0 + 1) v2_1 (by omega) (by omega) (hw56x.2.2.1.trans hv3) (hw56x.2.2.2.1.trans hv10) (hw56x.2.2.2.2.1.trans hv17) (hw56x.2.2.2.2.2.trans hv18) hbn
            · obtain rfl := hw56.2 b56
              refine zn_if_eq (tgt := 67) hX dX7_otherwise_59 (by decide) (by omega) (fun _ => ?_) (fun c59 => absurd c59 (by omega))
              refine z_iload_n hX 3 dX7_otherwise_67 rfl ?_
              refine z_istore_n (L' := [(3, .int (l4 k)), (0, .ref x), (1, .int (nI N)), (2, .int (nI on)), (4, .int (nI v0))]) hX dX7_otherwise_68 (Nat.le_of_ble_eq_true rfl) rfl ?_
              have e7 : ¬ k = 0 := by omega
              have e8 : (k, v2_1 14, v2_1 15) = bestT s N on (v0 + 1) := by
                rw [bestT, if_pos (by omega)]
                unfold offerS
                rw [← hb.2 e7, if_neg (by dsimp only; omega), (hw56x.2.1 b56).1, (hw56x.2.1 b56).2]
              have hbn : k = (bestT s N on (v0 + 1)).1 ∧ (¬ k = 0 → (k, v2_1 14, v2_1 15) = bestT s N on (v0 + 1)) := ⟨by rw [← e8], fun _ => e8⟩
              refine z_iinc (v := (nI (v0 + 1))) (L' := [(4, .int (nI (v0 + 1))), (3, .int (l4 k)), (0, .ref x), (1, .int (nI N)), (2, .int (nI on))]) hX 4 dX7_otherwise_69 rfl (nI_inc _) (Nat.le_of_ble_eq_true rfl) rfl ?_
              refine z_goto (tgt := 10) hX dX7_otherwise_72 (by decide) ?_
              refine z_lsub [2, 3, 4, 1, 0] rfl ?_
              exact ih10 (v0 + 1) k v2_1 (by omega) (by omega) (hw56x.2.2.1.trans hv3) (hw56x.2.2.2.1.trans hv10) (hw56x.2.2.2.2.1.trans hv17) (hw56x.2.2.2.2.2.trans hv18) hbn
          · rw [l4_eq (by omega)] at c48
            refine z_iconst (v := nI 1) hX dX7_otherwise_51 (by decide) ?_
            refine z_goto (tgt := 56) hX dX7_otherwise_52 (by decide) ?_
            refine z_callVi (st := []) hX (c_X7_isBetter _ G x ad vv s ((s 2) ^^^ (2 ^ v0)) N 1 h0 (by omega) (by omega) (fun z9 => by first | exact absurd rfl z9 | (have e9 := hb.2 (by omega); rw [← e9] at q7; exact q7.2)) (by omega)) lb_X7_isBetter ml_X7_194 (fun (_u : nst) => [ob x 7 (rf ad _u), ia G (ad 0) 29 (fN s), ia G (ad 11) 29 (fN s)]) (wr := []) [0, 1, 2] [] [0, 1, 2] ⟨rfl, rfl, rfl, fun _ => rfl⟩ 0 rfl rfl rfl rfl ⟨Nat.le_refl _, Nat.le_refl _⟩ dX7_otherwise_56 rfl (fun r56 u56 hw56 => ?_)
            obtain ⟨v2_2, rfl⟩ : ∃ z9, z9 = u56 := ⟨_, rfl⟩
            obtain ⟨hw56, hw56x⟩ := hw56
            try dsimp only at hw56
            rcases Classical.em (1 = 0 ∨ (goN N (va_up s 2 ((s 2) ^^^ (2 ^ v0))) 5 - s 5) < vv 14 ∨ ((goN N (va_up s 2 ((s 2) ^^^ (2 ^ v0))) 5 - s 5) = vv 14 ∧ vv 15 < (goN N (va_up s 2 ((s 2) ^^^ (2 ^ v0))) 3 - s 3))) with b56 | b56
            · obtain rfl := hw56.1 b56
              refine zn_if_eq (tgt := 67) hX dX7_otherwise_59 (by decide) (by omega) (fun c59 => absurd c59 (by omega)) (fun _ => ?_)
              refine z_iload hX 4 dX7_otherwise_62 rfl ?_
              refine z_goto (tgt := 68) hX dX7_otherwise_64 (by decide) ?_
              refine z_istore_n (L' := [(3, .int (nI v0)), (0, .ref x), (1, .int (nI N)), (2, .int (nI on)), (4, .int (nI v0))]) hX dX7_otherwise_68 (Nat.le_of_ble_eq_true rfl) rfl ?_
              have e8 : (v0 + 1, v2_2 14, v2_2 15) = bestT s N on (v0 + 1) := by
                rw [bestT, if_pos (by omega)]
                unfold offerS
                rw [if_pos (by rcases Nat.eq_zero_or_pos k with e9 | e9
                               · left; rw [← hb.1]; exact e9
                               · rw [← hb.2 (by omega)]; dsimp only; omega), (hw56x.1 b56).1, (hw56x.1 b56).2]
              have hbn : v0 + 1 = (bestT s N on (v0 + 1)).1 ∧ (¬ v0 + 1 = 0 → (v0 + 1, v2_2 14, v2_2 15) = bestT s N on (v0 + 1)) := ⟨by rw [← e8], fun _ => e8⟩
              refine z_iinc (v := (nI (v0 + 1))) (L' := [(4, .int (nI (v0 + 1))), (3, .int (nI v0)), (0, .ref x), (1, .int (nI N)), (2, .int (nI on))]) hX 4 dX7_otherwise_69 rfl (nI_inc _) (Nat.le_of_ble_eq_true rfl) rfl ?_
              refine z_goto (tgt := 10) hX dX7_otherwise_72 (by decide) ?_
              refine z_lsub [2, 3, 4, 1, 0] rfl ?_
              exact ih10 (v0 + 1) (v0 + 1) v2_2 (by omega) (by omega) (hw56x.2.2.1.trans hv3) (hw56x.2.2.2.1.trans hv10) (hw56x.2.2.2.2.1.trans hv17) (hw56x.2.2.2.2.2.trans hv18) hbn
            · obtain rfl := hw56.2 b56
              refine zn_if_eq (tgt := 67) hX dX7_otherwise_59 (by decide) (by omega) (fun _ => ?_) (fun c59 => absurd c59 (by omega))
              refine z_iload_n hX 3 dX7_otherwise_67 rfl ?_
              refine z_istore_n (L' := [(3, .int (l4 k)), (0, .ref x), (1, .int (nI N)), (2, .int (nI on)), (4, .int (nI v0))]) hX dX7_otherwise_68 (Nat.le_of_ble_eq_true rfl) rfl ?_
              have e7 : ¬ k = 0 := by omega
              have e8 : (k, v2_2 14, v2_2 15) = bestT s N on (v0 + 1) := by
                rw [bestT, if_pos (by omega)]
                unfold offerS
                rw [← hb.2 e7, if_neg (by dsimp only; omega), (hw56x.2.1 b56).1, (hw56x.2.1 b56).2]
              have hbn : k = (bestT s N on (v0 + 1)).1 ∧ (¬ k = 0 → (k, v2_2 14, v2_2 15) = bestT s N on (v0 + 1)) := ⟨by rw [← e8], fun _ => e8⟩
              refine z_iinc (v := (nI (v0 + 1))) (L' := [(4, .int (nI (v0 + 1))), (3, .int (l4 k)), (0, .ref x), (1, .int (nI N)), (2, .int (nI on))]) hX 4 dX7_otherwise_69 rfl (nI_inc _) (Nat.le_of_ble_eq_true rfl) rfl ?_
              refine z_goto (tgt := 10) hX dX7_otherwise_72 (by decide) ?_
              refine z_lsub [2, 3, 4, 1, 0] rfl ?_
              exact ih10 (v0 + 1) k v2_2 (by omega) (by omega) (hw56x.2.2.1.trans hv3) (hw56x.2.2.2.1.trans hv10) (hw56x.2.2.2.2.1.trans hv17) (hw56x.2.2.2.2.2.trans hv18) hbn
  refine z_lsub [2, 3, 4, 1, 0] rfl ?_
  exact lp10 7 0 0 v (by omega) (by omega) rfl rfl rfl rfl ⟨rfl, fun z9 => absurd rfl z9⟩
set_option maxRecDepth 100000 in
set_option maxHeartbeats 4000000 in
theorem c_X7_more (l : Launch) (G : zG) (x : Nat) (ad : Nat → Nat) (v : Nat → Nat) (s : nst) (t : nst) (nn : Int32) (h0 : WF 9999 0 s) : zMi l G yX7_more cX7_more 2 .int 7 0 0 158 [.ref x, .int nn] [ob x 7 (rf ad v), ia G (ad 0) 29 (fN s), ia G (ad 11) 29 (fN t)] (fun (r : Int32) (_u : nst × nst) => r = spTurn s nn 0 ∧ _u.1 3 = v 3 ∧ _u.1 10 = v 10 ∧ _u.1 17 = v 17 ∧ _u.1 18 = v 18) (fun (_u : nst × nst) => [ob x 7 (rf ad _u.1), ia G (ad 0) 29 (fN s), ia G (ad 11) 29 (fN _u.2)]) := by
  refine zMi.of (by decide) rfl (fun X A H0 hX hXl hR => ?_)
  show Z (X, G, A, H0, 2) 0 0 [ob x 7 (rf ad v), ia G (ad 0) 29 (fN s), ia G (ad 11) 29 (fN t)] 0 [(0, .ref x), (1, .int nn)] []
  subst hXl
  refine z_iload_n hX 1 dX7_more_0 rfl ?_
  refine z_i2l (v := (nn.toInt64)) hX dX7_more_1 rfl ?_
  refine z_lconst (v := lN 1) hX dX7_more_2 (by decide) ?_
  refine z_ldc2 (v := lN 40) hX kl_X7_151 dX7_more_3 ?_
  refine z_callSi (st := []) hX (c_X7_inX _ G nn 1 40 (by omega) (by omega)) lb_X7_in ml_X7_44 (fun (_u : Unit) => [ob x 7 (rf ad v), ia G (ad 0) 29 (fN s), ia G (ad 11) 29 (fN t)]) (wr := [ob x 7 (rf ad v), ia G (ad 0) 29 (fN s), ia G (ad 11) 29 (fN t)]) [] [0, 1, 2] [0, 1, 2] ⟨rfl, rfl, rfl, fun _ => rfl⟩ rfl rfl ⟨Nat.le_refl _, Nat.le_refl _⟩ dX7_more_6 rfl (fun r6 u6 hw6 => ?_)
  try dsimp only at hw6
  rcases hw6 with ⟨nnj, hnnl, hnnh, rfl, rfl⟩ | ⟨hw6, rfl⟩
  · skip
    refine zn_if_eq (tgt := 21) hX dX7_more_9 (by decide) (by omega) (fun c9 => absurd c9 (by omega)) (fun _ => ?_)
    refine z_aload_n hX 0 dX7_more_12 rfl ?_
    refine z_iload_n hX 1 dX7_more_13 rfl ?_
    refine z_iconst (v := nI 0) hX dX7_more_14 (by decide) ?_
    refine z_callVi (st := []) hX (c_X7_otherwise _ G x ad v s t nnj 0 h0 (by omega) (by omega)) lb_X7_otherwise ml_X7_198 (fun (_u : nst × nst) => [ob x 7 (rf ad _u.1), ia G (ad 0) 29 (fN s), ia G (ad 11) 29 (fN _u.2)]) (wr := []) [0, 1, 2] [] [0, 1, 2] ⟨rfl, rfl, rfl, fun _ => rfl⟩ 0 rfl rfl rfl rfl ⟨Nat.le_refl _, Nat.le_refl _⟩ dX7_more_15 rfl (fun r15 u15 hw15 => ?_)
    obtain ⟨v2_1, t2_2⟩ := u15
    refine z_goto (tgt := 22) hX dX7_more_18 (by decide) ?_
    exact hR _ (v2_1, t2_2) _ _ ⟨by unfold spTurn; rw [if_pos (inb_t (by omega) (by omega) (by omega)), gN_nI (by omega)]; exact hw15.1, hw15.2⟩ dX7_more_22 rfl
  · have hb_nn : inb nn 1 40 = false := hw6
    refine zn_if_eq (tgt := 21) hX dX7_more_9 (by decide) (by omega) (fun _ => ?_) (fun c9 => absurd c9 (by omega))
    refine z_iconst (v := (-1)) hX dX7_more_21 (by decide) ?_
    exact hR _ (v, t) _ _ ⟨by unfold spTurn; rw [if_neg (by simp [hb_nn])], rfl, rfl, rfl, rfl⟩ dX7_more_22 rfl
set_option maxRecDepth 100000 in
set_option maxHeartbeats 4000000 in
theorem c_X7_less (l : Launch) (G : zG) (x : Nat) (ad : Nat → Nat) (v : Nat → Nat) (s : nst) (t : nst) (nn : Int32) (h0 : WF 9999 0 s) : zMi l G yX7_less cX7_less 2 .int 7 0 0 158 [.ref x, .int nn] [ob x 7 (rf ad v), ia G (ad 0) 29 (fN s), ia G (ad 11) 29 (fN t)] (fun (r : Int32) (_u : nst × nst) => r = spTurn s nn 1 ∧ _u.1 3 = v 3 ∧ _u.1 10 = v 10 ∧ _u.1 17 = v 17 ∧ _u.1 18 = v 18) (fun (_u : nst × nst) => [ob x 7 (rf ad _u.1), ia G (ad 0) 29 (fN s), ia G (ad 11) 29 (fN _u.2)]) := by
  refine zMi.of (by decide) rfl (fun X A H0 hX hXl hR => ?_)
  show Z (X, G, A, H0, 2) 0 0 [ob x 7 (rf ad v), ia G (ad 0) 29 (fN s), ia G (ad 11) 29 (fN t)] 0 [(0, .ref x), (1, .int nn)] []
  subst hXl
  refine z_iload_n hX 1 dX7_less_0 rfl ?_
  refine z_i2l (v := (nn.toInt64)) hX dX7_less_1 rfl ?_
  refine z_lconst (v := lN 1) hX dX7_less_2 (by decide) ?_
  refine z_ldc2 (v := lN 40) hX kl_X7_151 dX7_less_3 ?_
  refine z_callSi (st := []) hX (c_X7_inX _ G nn 1 40 (by omega) (by omega)) lb_X7_in ml_X7_44 (fun (_u : Unit) => [ob x 7 (rf ad v), ia G (ad 0) 29 (fN s), ia G (ad 11) 29 (fN t)]) (wr := [ob x 7 (rf ad v), ia G (ad 0) 29 (fN s), ia G (ad 11) 29 (fN t)]) [] [0, 1, 2] [0, 1, 2] ⟨rfl, rfl, rfl, fun _ => rfl⟩ rfl rfl ⟨Nat.le_refl _, Nat.le_refl _⟩ dX7_less_6 rfl (fun r6 u6 hw6 => ?_)
  try dsimp only at hw6
  rcases hw6 with ⟨nnj, hnnl, hnnh, rfl, rfl⟩ | ⟨hw6, rfl⟩
  · skip
    refine zn_if_eq (tgt := 21) hX dX7_less_9 (by decide) (by omega) (fun c9 => absurd c9 (by omega)) (fun _ => ?_)
    refine z_aload_n hX 0 dX7_less_12 rfl ?_
    refine z_iload_n hX 1 dX7_less_13 rfl ?_
    refine z_iconst (v := nI 1) hX dX7_less_14 (by decide) ?_
    refine z_callVi (st := []) hX (c_X7_otherwise _ G x ad v s t nnj 1 h0 (by omega) (by omega)) lb_X7_otherwise ml_X7_198 (fun (_u : nst × nst) => [ob x 7 (rf ad _u.1), ia G (ad 0) 29 (fN s), ia G (ad 11) 29 (fN _u.2)]) (wr := []) [0, 1, 2] [] [0, 1, 2] ⟨rfl, rfl, rfl, fun _ => rfl⟩ 0 rfl rfl rfl rfl ⟨Nat.le_refl _, Nat.le_refl _⟩ dX7_less_15 rfl (fun r15 u15 hw15 => ?_)
    obtain ⟨v2_1, t2_2⟩ := u15
    refine z_goto (tgt := 22) hX dX7_less_18 (by decide) ?_
    exact hR _ (v2_1, t2_2) _ _ ⟨by unfold spTurn; rw [if_pos (inb_t (by omega) (by omega) (by omega)), gN_nI (by omega)]; exact hw15.1, hw15.2⟩ dX7_less_22 rfl
  · have hb_nn : inb nn 1 40 = false := hw6
    refine zn_if_eq (tgt := 21) hX dX7_less_9 (by decide) (by omega) (fun _ => ?_) (fun c9 => absurd c9 (by omega))
    refine z_iconst (v := (-1)) hX dX7_less_21 (by decide) ?_
    exact hR _ (v, t) _ _ ⟨by unfold spTurn; rw [if_neg (by simp [hb_nn])], rfl, rfl, rfl, rfl⟩ dX7_less_22 rfl
set_option maxRecDepth 100000 in
set_option maxHeartbeats 4000000 in
theorem c_X7_bears (l : Launch) (G : zG) (x : Nat) (ad : Nat → Nat) (v : Nat → Nat) (s : nst) (t : nst) (nn : Int32) (h0 : WF 9999 0 s) : zMi l G yX7_bears cX7_bears 4 .int 5 0 0 110 [.ref x, .int nn] [ob x 7 (rf ad v), ia G (ad 0) 29 (fN s), ia G (ad 11) 29 (fN t)] (fun (r : Int32) (_u : nst × nst) => r = spBears s nn ∧ _u.1 3 = v 3 ∧ _u.1 10 = v 10 ∧ _u.1 17 = v 17 ∧ _u.1 18 = v 18) (fun (_u : nst × nst) => [ob x 7 (rf ad _u.1), ia G (ad 0) 29 (fN s), ia G (ad 11) 29 (fN _u.2)]) := by
  refine zMi.of (by decide) rfl (fun X A H0 hX hXl hR => ?_)
  show Z (X, G, A, H0, 4) 0 0 [ob x 7 (rf ad v), ia G (ad 0) 29 (fN s), ia G (ad 11) 29 (fN t)] 0 [(0, .ref x), (1, .int nn)] []
  subst hXl
  have z0 := h0.1
  have z1 := h0.2.1
  have z2 := h0.2.2.1
  have z3 := h0.2.2.2.1
  refine z_iload_n hX 1 dX7_bears_0 rfl ?_
  refine z_i2l (v := (nn.toInt64)) hX dX7_bears_1 rfl ?_
  refine z_lconst (v := lN 1) hX dX7_bears_2 (by decide) ?_
  refine z_ldc2 (v := lN 40) hX kl_X7_151 dX7_bears_3 ?_
  refine z_callSi (st := []) hX (c_X7_inX _ G nn 1 40 (by omega) (by omega)) lb_X7_in ml_X7_44 (fun (_u : Unit) => [ob x 7 (rf ad v), ia G (ad 0) 29 (fN s), ia G (ad 11) 29 (fN t)]) (wr := [ob x 7 (rf ad v), ia G (ad 0) 29 (fN s), ia G (ad 11) 29 (fN t)]) [] [0, 1, 2] [0, 1, 2] ⟨rfl, rfl, rfl, fun _ => rfl⟩ rfl rfl ⟨Nat.le_refl _, Nat.le_refl _⟩ dX7_bears_6 rfl (fun r6 u6 hw6 => ?_)
  try dsimp only at hw6
  rcases hw6 with ⟨nnj, hnnl, hnnh, rfl, rfl⟩ | ⟨hw6, rfl⟩
  · skip
    refine zn_if_ne (tgt := 14) hX dX7_bears_9 (by decide) (by omega) (fun _ => ?_) (fun c9 => absurd c9 (by omega))
    refine z_bipush (v := (-4)) hX dX7_bears_14 (by decide) ?_
    refine z_istore_n (L' := [(2, .int (-4)), (0, .ref x), (1, .int (nI nnj))]) hX dX7_bears_16 (Nat.le_of_ble_eq_true rfl) rfl ?_
    refine z_aload_n hX 1 dX7_bears_17 rfl ?_
    refine z_callVv (st := []) hX (c_X7_asides _ G x ad v s t ) lb_X7_asides ml_X7_168 (fun (_u : Unit) => [ob x 7 (rf ad v), ia G (ad 0) 29 (fN s), ia G (ad 11) 29 (fN s)]) (wr := []) [0, 1, 2] [] [0, 1, 2] ⟨rfl, rfl, rfl, fun _ => rfl⟩ 0 rfl rfl rfl rfl ⟨Nat.le_refl _, Nat.le_refl _⟩ dX7_bears_18 rfl (fun  u18 hw18 => ?_)
    refine z_iconst (v := nI 0) hX dX7_bears_21 (by decide) ?_
    refine z_istore_n (L' := [(3, .int (nI 0)), (2, .int (-4)), (0, .ref x), (1, .int (nI nnj))]) hX dX7_bears_22 (Nat.le_of_ble_eq_true rfl) rfl ?_
    have lp23 : ∀ (n23 : Nat) (v0 : Nat) (mm : Int32) (f : Nat), (41 + 1 ≤ v0 + n23) → (v0 ≤ 41) → (mm = bearTo s nnj v0) → Z (X, G, A, H0, 4) 0 0 [ob x 7 (rf ad (va_up v 1 f)), ia G (ad 0) 29 (fN s), ia G (ad 11) 29 (fN s)] 23 [(0, .ref x), (1, .int (nI nnj)), (2, .int mm), (3, .int (nI v0))] [] := by
      intro n23
      induction n23 with
      | zero =>
        intro v0 mm f hn hv hm
        exfalso
        omega
      | succ n23 ih23 =>
        intro v0 mm f hn hv hm
        refine z_iload_n hX 3 dX7_bears_23 rfl ?_
        refine z_bipush (v := nI 41) hX dX7_bears_24 (by decide) ?_
        refine zn_icmp_ge (tgt := 70) hX dX7_bears_26 (by decide) (by omega) (by omega) (fun c26 => ?_) (fun c26 => ?_)
        · skip
          refine z_iload_n hX 2 dX7_bears_70 rfl ?_
          have ev : v0 = 41 := by omega
          have hm2 : mm = bearTo s nnj 41 := by rw [← ev]; exact hm
          exact hR _ (va_up v 1 f, s) _ _ ⟨by unfold spBears; rw [if_pos (inb_t (by omega) (by omega) (by omega)), gN_nI (by omega)]; exact hm2, rfl, rfl, rfl, rfl⟩ dX7_bears_71 rfl
        · skip
          refine z_aload_n hX 0 dX7_bears_29 rfl ?_
          refine z_iload_n hX 3 dX7_bears_30 rfl ?_
          refine z_callVv (st := []) hX (c_X7_floodBy _ G x ad (va_up v 1 f) s v0 h0.2.2.2.2.2.1 (by omega)) lb_X7_floodBy ml_X7_156 (fun (_u : Unit) => [ob x 7 (rf ad (va_up v 1 f)), ia G (ad 0) 29 (fN (floodS v0 s)), ia G (ad 11) 29 (fN s)]) (wr := [ia G (ad 11) 29 (fN s)]) [0, 1] [2] [1, 2, 0] ⟨rfl, rfl, rfl, fun _ => rfl⟩ 0 rfl rfl rfl rfl ⟨Nat.le_refl _, Nat.le_refl _⟩ dX7_bears_31 rfl (fun  u31 hw31 => ?_)
          refine z_aload_n hX 0 dX7_bears_34 rfl ?_
          refine z_iload_n hX 1 dX7_bears_35 rfl ?_
          refine z_callVv (st := []) hX (c_X7_goesOn _ G x ad (va_up v 1 f) (floodS v0 s) nnj 9999 (WF_flood h0 v0) (by omega) (by omega)) lb_X7_goesOn ml_X7_171 (fun (_u : Nat) => [ob x 7 (rf ad (va_up (va_up v 1 f) 1 _u)), ia G (ad 0) 29 (fN (goN nnj (floodS v0 s))), ia G (ad 11) 29 (fN s)]) (wr := [ia G (ad 11) 29 (fN s)]) [0, 1] [2] [1, 2, 0] ⟨rfl, rfl, rfl, fun _ => rfl⟩ 0 rfl rfl rfl rfl ⟨Nat.le_refl _, Nat.le_refl _⟩ dX7_bears_36 rfl (fun  u36 hw36 => ?_)
          obtain ⟨f1_1, rfl⟩ : ∃ z9, z9 = u36 := ⟨_, rfl⟩
          refine z_aload_n hX 0 dX7_bears_39 rfl ?_
          refine z_get (v := .ref (ad 0)) hX fX7 0 0 rfl rfl (Nat.le_of_ble_eq_true rfl) fl_X7_7 rfl dX7_bears_40 ?_
          refine z_iconst (v := nI 5) hX dX7_bears_43 (by decide) ?_
          refine z_iald (v := (nI ((goN nnj (floodS v0 s)) 5))) hX 1 (j := 5) rfl (by omega) (by decide) rfl dX7_bears_44 ?_
          refine z_aload_n hX 0 dX7_bears_45 rfl ?_
          refine z_get (v := .ref (ad 11)) hX fX7 0 11 rfl rfl (Nat.le_of_ble_eq_true rfl) fl_X7_25 rfl dX7_bears_46 ?_
          refine z_iconst (v := nI 5) hX dX7_bears_49 (by decide) ?_
          refine z_iald (v := (nI (s 5))) hX 2 (j := 5) rfl (by omega) (by decide) rfl dX7_bears_50 ?_
          have g2 := goN_cnt (WF_flood h0 v0) nnj
          refine zn_icmp_ne (tgt := 58) hX dX7_bears_51 (by decide) (by omega) (by omega) (fun c52 => ?_) (fun c52 => ?_)
          · skip
            refine z_iload_n hX 2 dX7_bears_58 rfl ?_
            refine z_istore_n (L' := [(2, .int mm), (0, .ref x), (1, .int (nI nnj)), (3, .int (nI v0))]) hX dX7_bears_59 (Nat.le_of_ble_eq_true rfl) rfl ?_
            refine z_aload_n hX 1 dX7_bears_60 rfl ?_
            refine z_callVv (st := []) hX (c_X7_backs _ G x ad (va_up (va_up v 1 f) 1 f1_1) (goN nnj (floodS v0 s)) s ) lb_X7_backs ml_X7_174 (fun (_u : Unit) => [ob x 7 (rf ad (va_up (va_up v 1 f) 1 f1_1)), ia G (ad 0) 29 (fN s), ia G (ad 11) 29 (fN s)]) (wr := []) [0, 1, 2] [] [0, 1, 2] ⟨rfl, rfl, rfl, fun _ => rfl⟩ 0 rfl rfl rfl rfl ⟨Nat.le_refl _, Nat.le_refl _⟩ dX7_bears_61 rfl (fun  u61 hw61 => ?_)
            refine z_iinc (v := (nI (v0 + 1))) (L' := [(3, .int (nI (v0 + 1))), (2, .int mm), (0, .ref x), (1, .int (nI nnj))]) hX 3 dX7_bears_64 rfl (nI_inc _) (Nat.le_of_ble_eq_true rfl) rfl ?_
            refine z_goto (tgt := 23) hX dX7_bears_67 (by decide) ?_
            refine z_lsub [2, 3, 1, 0] rfl ?_
            exact ih23 (v0 + 1) mm f1_1 (by omega) (by omega) (by rw [bearTo, if_neg c52, hm])
          · skip
            refine z_iload_n hX 3 dX7_bears_54 rfl ?_
            refine z_goto (tgt := 59) hX dX7_bears_55 (by decide) ?_
            refine z_istore_n (L' := [(2, .int (nI v0)), (0, .ref x), (1, .int (nI nnj)), (3, .int (nI v0))]) hX dX7_bears_59 (Nat.le_of_ble_eq_true rfl) rfl ?_
            refine z_aload_n hX 1 dX7_bears_60 rfl ?_
            refine z_callVv (st := []) hX (c_X7_backs _ G x ad (va_up (va_up v 1 f) 1 f1_1) (goN nnj (floodS v0 s)) s ) lb_X7_backs ml_X7_174 (fun (_u : Unit) => [ob x 7 (rf ad (va_up (va_up v 1 f) 1 f1_1)), ia G (ad 0) 29 (fN s), ia G (ad 11) 29 (fN s)]) (wr := []) [0, 1, 2] [] [0, 1, 2] ⟨rfl, rfl, rfl, fun _ => rfl⟩ 0 rfl rfl rfl rfl ⟨Nat.le_refl _, Nat.le_refl _⟩ dX7_bears_61 rfl (fun  u61 hw61 => ?_)
            refine z_iinc (v := (nI (v0 + 1))) (L' := [(3, .int (nI (v0 + 1))), (2, .int (nI v0)), (0, .ref x), (1, .int (nI nnj))]) hX 3 dX7_bears_64 rfl (nI_inc _) (Nat.le_of_ble_eq_true rfl) rfl ?_
            refine z_goto (tgt := 23) hX dX7_bears_67 (by decide) ?_
            refine z_lsub [2, 3, 1, 0] rfl ?_
            exact ih23 (v0 + 1) (nI v0) f1_1 (by omega) (by omega) (by rw [bearTo, if_pos c52])
    refine z_lsub [2, 3, 1, 0] rfl ?_
    exact lp23 42 0 (-4) (v 1) (by omega) (by omega) rfl
  · have hb_nn : inb nn 1 40 = false := hw6
    refine zn_if_ne (tgt := 14) hX dX7_bears_9 (by decide) (by omega) (fun c9 => absurd c9 (by omega)) (fun _ => ?_)
    refine z_iconst (v := (-1)) hX dX7_bears_12 (by decide) ?_
    exact hR _ (v, t) _ _ ⟨by unfold spBears; rw [if_neg (by simp [hb_nn])], rfl, rfl, rfl, rfl⟩ dX7_bears_13 rfl
theorem up_min0 {u : nst} {j : Nat} (h : u (7 + j) ≤ 40) : va_up u (7 + j) (min 40 (u (7 + j) + 0)) = u := by
  have e : min 40 (u (7 + j) + 0) = u (7 + j) := by omega
  rw [e, up_self]
set_option maxRecDepth 100000 in
set_option maxHeartbeats 4000000 in
theorem c_X7_floods (l : Launch) (G : zG) (x : Nat) (ad : Nat → Nat) (v : Nat → Nat) (s : nst) (t : nst) (cc : Int32) (wh : Int32) (h0 : WF 9999 0 s) : zMi l G yX7_floods cX7_floods 9 .int 4 0 0 88 [.ref x, .int cc, .int wh] [ob x 7 (rf ad v), ia G (ad 0) 29 (fN s), ia G (ad 11) 29 (fN t)] (fun (r : Int32) (_u : nst × nst) => r = spFloods s cc wh ∧ _u.1 3 = v 3 ∧ _u.1 10 = v 10 ∧ _u.1 17 = v 17 ∧ _u.1 18 = v 18) (fun (_u : nst × nst) => [ob x 7 (rf ad _u.1), ia G (ad 0) 29 (fN s), ia G (ad 11) 29 (fN _u.2)]) := by
  refine zMi.of (by decide) rfl (fun X A H0 hX hXl hR => ?_)
  show Z (X, G, A, H0, 9) 0 0 [ob x 7 (rf ad v), ia G (ad 0) 29 (fN s), ia G (ad 11) 29 (fN t)] 0 [(0, .ref x), (1, .int cc), (2, .int wh)] []
  subst hXl
  have z0 := h0.1
  have z1 := h0.2.1
  have z2 := h0.2.2.1
  have z3 := h0.2.2.2.1
  refine z_iload_n hX 1 dX7_floods_0 rfl ?_
  refine z_i2l (v := (cc.toInt64)) hX dX7_floods_1 rfl ?_
  refine z_lconst (v := lN 0) hX dX7_floods_2 (by decide) ?_
  refine z_ldc2 (v := lN 10) hX kl_X7_201 dX7_floods_3 ?_
  refine z_callSi (st := []) hX (c_X7_inX _ G cc 0 10 (by omega) (by omega)) lb_X7_in ml_X7_44 (fun (_u : Unit) => [ob x 7 (rf ad v), ia G (ad 0) 29 (fN s), ia G (ad 11) 29 (fN t)]) (wr := [ob x 7 (rf ad v), ia G (ad 0) 29 (fN s), ia G (ad 11) 29 (fN t)]) [] [0, 1, 2] [0, 1, 2] ⟨rfl, rfl, rfl, fun _ => rfl⟩ rfl rfl ⟨Nat.le_refl _, Nat.le_refl _⟩ dX7_floods_6 rfl (fun r6 u6 hw6 => ?_)
  try dsimp only at hw6
  rcases hw6 with ⟨ccj, hccl, hcch, rfl, rfl⟩ | ⟨hw6, rfl⟩
  · skip
    refine zn_if_eq (tgt := 22) hX dX7_floods_9 (by decide) (by omega) (fun c9 => absurd c9 (by omega)) (fun _ => ?_)
    refine z_iload_n hX 2 dX7_floods_12 rfl ?_
    refine z_i2l (v := (wh.toInt64)) hX dX7_floods_13 rfl ?_
    refine z_lconst (v := lN 0) hX dX7_floods_14 (by decide) ?_
    refine z_lconst (v := lN 1) hX dX7_floods_15 (by decide) ?_
    refine z_callSi (st := []) hX (c_X7_inX _ G wh 0 1 (by omega) (by omega)) lb_X7_in ml_X7_44 (fun (_u : Unit) => [ob x 7 (rf ad v), ia G (ad 0) 29 (fN s), ia G (ad 11) 29 (fN t)]) (wr := [ob x 7 (rf ad v), ia G (ad 0) 29 (fN s), ia G (ad 11) 29 (fN t)]) [] [0, 1, 2] [0, 1, 2] ⟨rfl, rfl, rfl, fun _ => rfl⟩ rfl rfl ⟨Nat.le_refl _, Nat.le_refl _⟩ dX7_floods_16 rfl (fun r16 u16 hw16 => ?_)
    try dsimp only at hw16
    rcases hw16 with ⟨whj, hwhl, hwhh, rfl, rfl⟩ | ⟨hw16, rfl⟩
    · skip
      refine zn_if_ne (tgt := 24) hX dX7_floods_19 (by decide) (by omega) (fun _ => ?_) (fun c19 => absurd c19 (by omega))
      refine z_iconst (v := nI 0) hX dX7_floods_24 (by decide) ?_
      refine z_istore_n (L' := [(3, .int (nI 0)), (0, .ref x), (1, .int (nI ccj)), (2, .int (nI whj))]) hX dX7_floods_25 (Nat.le_of_ble_eq_true rfl) rfl ?_
      refine z_iconst (v := nI 0) hX dX7_floods_26 (by decide) ?_
      refine z_istore (L' := [(4, .int (nI 0)), (3, .int (nI 0)), (0, .ref x), (1, .int (nI ccj)), (2, .int (nI whj))]) hX dX7_floods_27 (Nat.le_of_ble_eq_true rfl) rfl ?_
      refine z_aload_n hX 2 dX7_floods_29 rfl ?_
      refine z_callVv (st := []) hX (c_X7_asides _ G x ad v s t ) lb_X7_asides ml_X7_168 (fun (_u : Unit) => [ob x 7 (rf ad v), ia G (ad 0) 29 (fN s), ia G (ad 11) 29 (fN s)]) (wr := []) [0, 1, 2] [] [0, 1, 2] ⟨rfl, rfl, rfl, fun _ => rfl⟩ 0 rfl rfl rfl rfl ⟨Nat.le_refl _, Nat.le_refl _⟩ dX7_floods_30 rfl (fun  u30 hw30 => ?_)
      refine z_iconst (v := nI 0) hX dX7_floods_33 (by decide) ?_
      refine z_istore (L' := [(5, .int (nI 0)), (4, .int (nI 0)), (3, .int (nI 0)), (0, .ref x), (1, .int (nI ccj)), (2, .int (nI whj))]) hX dX7_floods_34 (Nat.le_of_ble_eq_true rfl) rfl ?_
      have lp36 : ∀ (n36 : Nat) (k : Nat) (ab : Nat) (be : Nat) (f : Nat), (16 + 1 ≤ k + n36) → (k ≤ 16) → (ab = aboveN s ccj k) → (be = belowN ccj k) → Z (X, G, A, H0, 9) 0 0 [ob x 7 (rf ad (va_up v 1 f)), ia G (ad 0) 29 (fN s), ia G (ad 11) 29 (fN s)] 36 [(0, .ref x), (1, .int (nI ccj)), (2, .int (nI whj)), (3, .int (nI ab)), (4, .int (nI be)), (5, .int (nI k))] [] := by
        intro n36
        induction n36 with
        | zero =>
          intro k ab be f hn hk ha hbe
          exfalso
          omega
        | succ n36 ih36 =>
          intro k ab be f hn hk ha hbe
          refine z_iload hX 5 dX7_floods_36 rfl ?_
          refine z_bipush (v := nI 16) hX dX7_floods_38 (by decide) ?_
          refine zn_icmp_ge (tgt := 151) hX dX7_floods_40 (by decide) (by omega) (by omega) (fun c40 => ?_) (fun c40 => ?_)
          · skip
            have ek : k = 16 := by omega
            subst ek
            have q1 := aboveN_le s ccj 16
            have q2 := belowN_16 ccj (by omega)
            have q3 : 0 < Nat.gcd ab be := Nat.gcd_pos_of_pos_right _ (by omega)
            have q5 : Nat.gcd ab be ≤ be := Nat.gcd_le_right _ (by omega)
            refine z_iload_n hX 3 dX7_floods_151 rfl ?_
            refine z_istore (L' := [(5, .int (nI ab)), (0, .ref x), (1, .int (nI ccj)), (2, .int (nI whj)), (3, .int (nI ab)), (4, .int (nI be))]) hX dX7_floods_152 (Nat.le_of_ble_eq_true rfl) rfl ?_
            refine z_iload hX 5 dX7_floods_154 rfl ?_
            refine z_istore (L' := [(6, .int (nI be)), (5, .int (nI ab)), (0, .ref x), (1, .int (nI ccj)), (2, .int (nI whj)), (3, .int (nI ab)), (4, .int (nI be))]) hX dX7_floods_156 (Nat.le_of_ble_eq_true rfl) rfl ?_
            have lp158 : ∀ (n158 : Nat) (p1 : Nat) (p2 : Nat), (p2 + 1 ≤ n158) → (Nat.gcd p1 p2 = Nat.gcd ab be) → (p1 ≤ 10000 ∧ p2 ≤ 10000) → Z (X, G, A, H0, 9) 0 0 [ob x 7 (rf ad (va_up v 1 f)), ia G (ad 0) 29 (fN s), ia G (ad 11) 29 (fN s)] 158 [(0, .ref x), (1, .int (nI ccj)), (2, .int (nI whj)), (3, .int (nI ab)), (4, .int (nI be)), (5, .int (nI p1)), (6, .int (nI p2))] [] := by
              intro n158
              induction n158 with
              | zero =>
                intro p1 p2 hm hg hl1
                exfalso
                omega
              | succ n158 ih158 =>
                intro p1 p2 hm hg hl1
                refine z_iload hX 6 dX7_floods_158 rfl ?_
                refine zn_if_eq (tgt := 181) hX dX7_floods_160 (by decide) (by omega) (fun c160 => ?_) (fun c160 => ?_)
                · skip
                  have ep : p2 = 0 := c160
                  subst ep
                  rw [Nat.gcd_zero_right] at hg
                  subst hg
                  refine z_iload_n hX 2 dX7_floods_181 rfl ?_
                  refine zn_if_ne (tgt := 192) hX dX7_floods_182 (by decide) (by omega) (fun c182 => ?_) (fun c182 => ?_)
                  · skip
                    refine z_iload hX 4 dX7_floods_192 rfl ?_
                    refine z_iload hX 5 dX7_floods_194 rfl ?_
                    refine z_idiv (v := (nI (be / (Nat.gcd ab be)))) hX dX7_floods_196 (nI_ne0 (by omega) (by omega)) (pk_div (by omega) (by omega) (by omega)) ?_
                    exact hR _ (va_up v 1 f, s) _ _ ⟨by unfold spFloods; rw [if_pos (⟨inb_t (by omega) (by omega) (by omega), inb_t (by omega) (by omega) (by omega)⟩), gN_nI (by omega), gN_nI (by omega), ← ha, ← hbe]; first | exact (if_pos c182).symm | exact (if_neg c182).symm, rfl, rfl, rfl, rfl⟩ dX7_floods_197 rfl
                  · skip
                    refine z_iload_n hX 3 dX7_floods_185 rfl ?_
                    refine z_iload hX 5 dX7_floods_186 rfl ?_
                    refine z_idiv (v := (nI (ab / (Nat.gcd ab be)))) hX dX7_floods_188 (nI_ne0 (by omega) (by omega)) (pk_div (by omega) (by omega) (by omega)) ?_
                    refine z_goto (tgt := 197) hX dX7_floods_189 (by decide) ?_
                    exact hR _ (va_up v 1 f, s) _ _ ⟨by unfold spFloods; rw [if_pos (⟨inb_t (by omega) (by omega) (by omega), inb_t (by omega) (by omega) (by omega)⟩), gN_nI (by omega), gN_nI (by omega), ← ha, ← hbe]; first | exact (if_pos c182).symm | exact (if_neg c182).symm, rfl, rfl, rfl, rfl⟩ dX7_floods_197 rfl
                · skip
                  have hm1 : p1 % p2 < p2 := Nat.mod_lt _ (by omega)
                  have hg2 : Nat.gcd p2 (p1 % p2) = Nat.gcd ab be := by
                    rw [Nat.gcd_comm p2 (p1 % p2), ← Nat.gcd_rec, Nat.gcd_comm]
                    exact hg
                  refine z_iload hX 5 dX7_floods_163 rfl ?_
                  refine z_iload hX 6 dX7_floods_165 rfl ?_
                  refine z_irem (v := (nI (p1 % p2))) hX dX7_floods_167 (nI_ne0 (by omega) (by omega)) (pk_rem (by omega) (by omega) (by omega)) ?_
                  refine z_istore (L' := [(7, .int (nI (p1 % p2))), (0, .ref x), (1, .int (nI ccj)), (2, .int (nI whj)), (3, .int (nI ab)), (4, .int (nI be)), (5, .int (nI p1)), (6, .int (nI p2))]) hX dX7_floods_168 (Nat.le_of_ble_eq_true rfl) rfl ?_
                  refine z_iload hX 7 dX7_floods_170 rfl ?_
                  refine z_istore (L' := [(5, .int (nI p2)), (7, .int (nI (p1 % p2))), (0, .ref x), (1, .int (nI ccj)), (2, .int (nI whj)), (3, .int (nI ab)), (4, .int (nI be)), (6, .int (nI p2))]) hX dX7_floods_172 (Nat.le_of_ble_eq_true rfl) rfl ?_
                  refine z_iload hX 1 dX7_floods_174 rfl ?_
                  refine z_istore (L' := [(6, .int (nI (p1 % p2))), (5, .int (nI p2)), (7, .int (nI (p1 % p2))), (0, .ref x), (1, .int (nI ccj)), (2, .int (nI whj)), (3, .int (nI ab)), (4, .int (nI be))]) hX dX7_floods_176 (Nat.le_of_ble_eq_true rfl) rfl ?_
                  refine z_goto (tgt := 158) hX dX7_floods_178 (by decide) ?_
                  refine z_lsub [3, 4, 5, 6, 7, 1, 0] rfl ?_
                  exact ih158 p2 (p1 % p2) (by omega) hg2 (by omega)
            refine z_lsub [2, 3, 4, 5, 6, 1, 0] rfl ?_
            exact lp158 (be + 1) ab be (by omega) rfl (by omega)
          · skip
            refine z_iconst (v := nI 1) hX dX7_floods_43 (by decide) ?_
            refine z_istore (L' := [(6, .int (nI 1)), (0, .ref x), (1, .int (nI ccj)), (2, .int (nI whj)), (3, .int (nI ab)), (4, .int (nI be)), (5, .int (nI k))]) hX dX7_floods_44 (Nat.le_of_ble_eq_true rfl) rfl ?_
            refine z_iconst (v := nI 0) hX dX7_floods_46 (by decide) ?_
            refine z_istore (L' := [(7, .int (nI 0)), (6, .int (nI 1)), (0, .ref x), (1, .int (nI ccj)), (2, .int (nI whj)), (3, .int (nI ab)), (4, .int (nI be)), (5, .int (nI k))]) hX dX7_floods_47 (Nat.le_of_ble_eq_true rfl) rfl ?_
            have lp49 : ∀ (n49 : Nat) (j : Nat) (p : Nat) (uu : nst), (4 + 1 ≤ j + n49) → (j ≤ 4) → (p = partN ccj k j) → (uu = dryS s k j) → Z (X, G, A, H0, 9) 0 0 [ob x 7 (rf ad (va_up v 1 f)), ia G (ad 0) 29 (fN uu), ia G (ad 11) 29 (fN s)] 49 [(0, .ref x), (1, .int (nI ccj)), (2, .int (nI whj)), (3, .int (nI ab)), (4, .int (nI be)), (5, .int (nI k)), (6, .int (nI p)), (7, .int (nI j))] [] := by
              intro n49
              induction n49 with
              | zero =>
                intro j p uu hn2 hj hp hu
                exfalso
                omega
              | succ n49 ih49 =>
                intro j p uu hn2 hj hp hu
                have q4 : j < 4 → uu (7 + j) ≤ 40 := fun h9 => by rw [hu]; exact dryS_hi s k h0.2.2.2.2.2.1 j j h9
                refine z_iload hX 7 dX7_floods_49 rfl ?_
                refine z_iconst (v := nI 4) hX dX7_floods_51 (by decide) ?_
                refine zn_icmp_ge (tgt := 114) hX dX7_floods_52 (by decide) (by omega) (by omega) (fun c52 => ?_) (fun c52 => ?_)
                · skip
                  have ej : j = 4 := by omega
                  subst ej
                  subst hu
                  refine z_aload_n hX 0 dX7_floods_114 rfl ?_
                  refine z_callVv (st := []) hX (c_X7_goesBy _ G x ad (va_up v 1 f) (dryS s k 4) 9999 (WF_dry h0 k) (by omega)) lb_X7_goesBy ml_X7_83 (fun (_u : Unit) => [ob x 7 (rf ad (va_up (va_up v 1 f) 1 (goFall (dryS s k 4)))), ia G (ad 0) 29 (fN (goBy (dryS s k 4))), ia G (ad 11) 29 (fN s)]) (wr := [ia G (ad 11) 29 (fN s)]) [0, 1] [2] [1, 2, 0] ⟨rfl, rfl, rfl, fun _ => rfl⟩ 0 rfl rfl rfl rfl ⟨Nat.le_refl _, Nat.le_refl _⟩ dX7_floods_115 rfl (fun  u115 hw115 => ?_)
                  refine z_iload hX 4 dX7_floods_118 rfl ?_
                  refine z_iload hX 6 dX7_floods_120 rfl ?_
                  refine z_iadd (v := (nI (be + p))) hX dX7_floods_122 (nI_add _ _) ?_
                  refine z_istore (L' := [(4, .int (nI (be + p))), (0, .ref x), (1, .int (nI ccj)), (2, .int (nI whj)), (3, .int (nI ab)), (5, .int (nI k)), (6, .int (nI p)), (7, .int (nI 4))]) hX dX7_floods_123 (Nat.le_of_ble_eq_true rfl) rfl ?_
                  refine z_iload_n hX 4 dX7_floods_125 rfl ?_
                  refine z_aload_n hX 1 dX7_floods_126 rfl ?_
                  refine z_get (v := .int (nI (goFall (dryS s k 4)))) hX fX7 0 1 rfl rfl (Nat.le_of_ble_eq_true rfl) fl_X7_61 rfl dX7_floods_127 ?_
                  have q6 := goFall_lt (WF_dry h0 k).1
                  refine zn_if_ne (tgt := 138) hX dX7_floods_130 (by decide) (by omega) (fun c130 => ?_) (fun c130 => ?_)
                  · skip
                    refine z_iconst (v := nI 0) hX dX7_floods_138 (by decide) ?_
                    refine z_iadd (v := (nI ab)) hX dX7_floods_139 ((nI_add _ _).trans (congrArg nI (by omega))) ?_
                    refine z_istore_n (L' := [(3, .int (nI ab)), (4, .int (nI (be + p))), (0, .ref x), (1, .int (nI ccj)), (2, .int (nI whj)), (5, .int (nI k)), (6, .int (nI p)), (7, .int (nI 4))]) hX dX7_floods_140 (Nat.le_of_ble_eq_true rfl) rfl ?_
                    refine z_aload_n hX 2 dX7_floods_141 rfl ?_
                    refine z_callVv (st := []) hX (c_X7_backs _ G x ad (va_up (va_up v 1 f) 1 (goFall (dryS s k 4))) (goBy (dryS s k 4)) s ) lb_X7_backs ml_X7_174 (fun (_u : Unit) => [ob x 7 (rf ad (va_up (va_up v 1 f) 1 (goFall (dryS s k 4)))), ia G (ad 0) 29 (fN s), ia G (ad 11) 29 (fN s)]) (wr := []) [0, 1, 2] [] [0, 1, 2] ⟨rfl, rfl, rfl, fun _ => rfl⟩ 0 rfl rfl rfl rfl ⟨Nat.le_refl _, Nat.le_refl _⟩ dX7_floods_142 rfl (fun  u142 hw142 => ?_)
                    refine z_iinc (v := (nI (k + 1))) (L' := [(5, .int (nI (k + 1))), (3, .int (nI ab)), (4, .int (nI (be + p))), (0, .ref x), (1, .int (nI ccj)), (2, .int (nI whj)), (6, .int (nI p)), (7, .int (nI 4))]) hX 5 dX7_floods_145 rfl (nI_inc _) (Nat.le_of_ble_eq_true rfl) rfl ?_
                    refine z_goto (tgt := 36) hX dX7_floods_148 (by decide) ?_
                    refine z_lsub [3, 4, 5, 1, 2, 0] rfl ?_
                    exact ih36 (k + 1) ab (be + p) (goFall (dryS s k 4)) (by omega) (by omega) (by rw [aboveN, if_neg c130, ← ha]) (by rw [belowN, ← hbe, ← hp])
                  · skip
                    refine z_iload hX 6 dX7_floods_133 rfl ?_
                    refine z_goto (tgt := 139) hX dX7_floods_135 (by decide) ?_
                    refine z_iadd (v := (nI (ab + p))) hX dX7_floods_139 (nI_add _ _) ?_
                    refine z_istore_n (L' := [(3, .int (nI (ab + p))), (4, .int (nI (be + p))), (0, .ref x), (1, .int (nI ccj)), (2, .int (nI whj)), (5, .int (nI k)), (6, .int (nI p)), (7, .int (nI 4))]) hX dX7_floods_140 (Nat.le_of_ble_eq_true rfl) rfl ?_
                    refine z_aload_n hX 2 dX7_floods_141 rfl ?_
                    refine z_callVv (st := []) hX (c_X7_backs _ G x ad (va_up (va_up v 1 f) 1 (goFall (dryS s k 4))) (goBy (dryS s k 4)) s ) lb_X7_backs ml_X7_174 (fun (_u : Unit) => [ob x 7 (rf ad (va_up (va_up v 1 f) 1 (goFall (dryS s k 4)))), ia G (ad 0) 29 (fN s), ia G (ad 11) 29 (fN s)]) (wr := []) [0, 1, 2] [] [0, 1, 2] ⟨rfl, rfl, rfl, fun _ => rfl⟩ 0 rfl rfl rfl rfl ⟨Nat.le_refl _, Nat.le_refl _⟩ dX7_floods_142 rfl (fun  u142 hw142 => ?_)
                    refine z_iinc (v := (nI (k + 1))) (L' := [(5, .int (nI (k + 1))), (3, .int (nI (ab + p))), (4, .int (nI (be + p))), (0, .ref x), (1, .int (nI ccj)), (2, .int (nI whj)), (6, .int (nI p)), (7, .int (nI 4))]) hX 5 dX7_floods_145 rfl (nI_inc _) (Nat.le_of_ble_eq_true rfl) rfl ?_
                    refine z_goto (tgt := 36) hX dX7_floods_148 (by decide) ?_
                    refine z_lsub [3, 4, 5, 1, 2, 0] rfl ?_
                    exact ih36 (k + 1) (ab + p) (be + p) (goFall (dryS s k 4)) (by omega) (by omega) (by rw [aboveN, if_pos c130, ← ha, ← hp]) (by rw [belowN, ← hbe, ← hp])
                · skip
                  have q4 := q4 (by omega)
                  refine z_iload hX 5 dX7_floods_55 rfl ?_
                  refine z_iload hX 7 dX7_floods_57 rfl ?_
                  refine z_ishr (v := (nI (k / 2 ^ j))) hX dX7_floods_59 (shr_nI (by omega) (by omega)) ?_
                  refine z_iconst (v := nI 1) hX dX7_floods_60 (by decide) ?_
                  refine z_iand (v := (nI ((k / 2 ^ j) % 2))) hX dX7_floods_61 (and1_nI _) ?_
                  refine z_iconst (v := nI 1) hX dX7_floods_62 (by decide) ?_
                  refine zn_icmp_ne (tgt := 70) hX dX7_floods_63 (by decide) (by omega) (by omega) (fun c63 => ?_) (fun c63 => ?_)
                  · skip
                    refine z_iconst (v := nI 0) hX dX7_floods_70 (by decide) ?_
                    refine z_istore (L' := [(8, .int (nI 0)), (0, .ref x), (1, .int (nI ccj)), (2, .int (nI whj)), (3, .int (nI ab)), (4, .int (nI be)), (5, .int (nI k)), (6, .int (nI p)), (7, .int (nI j))]) hX dX7_floods_71 (Nat.le_of_ble_eq_true rfl) rfl ?_
                    refine z_iload hX 7 dX7_floods_73 rfl ?_
                    refine z_iload hX 0 dX7_floods_75 rfl ?_
                    refine zn_if_eq (tgt := 84) hX dX7_floods_77 (by decide) (by omega) (fun _ => ?_) (fun c77 => absurd c77 (by omega))
                    refine z_bipush (v := nI 10) hX dX7_floods_84 (by decide) ?_
                    refine z_iload_n hX 2 dX7_floods_86 rfl ?_
                    refine z_isub (v := (nI (10 - ccj))) hX dX7_floods_87 (pk_sub (by omega)) ?_
                    refine z_imul (v := (nI (p * (10 - ccj)))) hX dX7_floods_88 ((pk_mul _ _).trans (congrArg nI (by omega))) ?_
                    refine z_istore (L' := [(6, .int (nI (p * (10 - ccj)))), (8, .int (nI 0)), (0, .ref x), (1, .int (nI ccj)), (2, .int (nI whj)), (3, .int (nI ab)), (4, .int (nI be)), (5, .int (nI k)), (7, .int (nI j))]) hX dX7_floods_89 (Nat.le_of_ble_eq_true rfl) rfl ?_
                    refine z_aload_n hX 2 dX7_floods_91 rfl ?_
                    refine z_iload hX 8 dX7_floods_92 rfl ?_
                    refine z_iload hX 1 dX7_floods_94 rfl ?_
                    refine zn_if_eq (tgt := 104) hX dX7_floods_96 (by decide) (by omega) (fun _ => ?_) (fun c96 => absurd c96 (by omega))
                    refine z_iconst (v := nI 0) hX dX7_floods_104 (by decide) ?_
                    refine z_callVv (st := []) hX (c_X7_stonesByP _ G x ad (va_up v 1 f) uu j 0 (by omega) q4 (by omega)) lb_X7_stonesBy ml_X7_54 (fun (_u : Unit) => [ob x 7 (rf ad (va_up v 1 f)), ia G (ad 0) 29 (fN (va_up uu (7 + j) (min 40 (uu (7 + j) + 0)))), ia G (ad 11) 29 (fN s)]) (wr := [ia G (ad 11) 29 (fN s)]) [0, 1] [2] [1, 2, 0] ⟨rfl, rfl, rfl, fun _ => rfl⟩ 0 rfl rfl rfl rfl ⟨Nat.le_refl _, Nat.le_refl _⟩ dX7_floods_105 rfl (fun  u105 hw105 => ?_)
                    refine z_iinc (v := (nI (j + 1))) (L' := [(7, .int (nI (j + 1))), (6, .int (nI (p * (10 - ccj)))), (8, .int (nI 0)), (0, .ref x), (1, .int (nI ccj)), (2, .int (nI whj)), (3, .int (nI ab)), (4, .int (nI be)), (5, .int (nI k))]) hX 8 dX7_floods_108 rfl (nI_inc _) (Nat.le_of_ble_eq_true rfl) rfl ?_
                    refine z_goto (tgt := 49) hX dX7_floods_111 (by decide) ?_
                    refine z_lsub [3, 4, 5, 6, 7, 8, 1, 0] rfl ?_
                    exact ih49 (j + 1) (p * (10 - ccj)) (va_up uu (7 + j) (min 40 (uu (7 + j) + 0))) (by omega) (by omega) (by rw [partN, if_neg c63, ← hp]) (by rw [up_min0 q4, dryS, if_neg c63, ← hu])
                  · skip
                    refine z_iconst (v := nI 1) hX dX7_floods_66 (by decide) ?_
                    refine z_goto (tgt := 71) hX dX7_floods_67 (by decide) ?_
                    refine z_istore (L' := [(8, .int (nI 1)), (0, .ref x), (1, .int (nI ccj)), (2, .int (nI whj)), (3, .int (nI ab)), (4, .int (nI be)), (5, .int (nI k)), (6, .int (nI p)), (7, .int (nI j))]) hX dX7_floods_71 (Nat.le_of_ble_eq_true rfl) rfl ?_
                    refine z_iload hX 7 dX7_floods_73 rfl ?_
                    refine z_iload hX 0 dX7_floods_75 rfl ?_
                    refine zn_if_eq (tgt := 84) hX dX7_floods_77 (by decide) (by omega) (fun c77 => absurd c77 (by omega)) (fun _ => ?_)
                    refine z_iload_n hX 2 dX7_floods_80 rfl ?_
                    refine z_goto (tgt := 88) hX dX7_floods_81 (by decide) ?_
                    refine z_imul (v := (nI (p * ccj))) hX dX7_floods_88 (pk_mul _ _) ?_
                    refine z_istore (L' := [(6, .int (nI (p * ccj))), (8, .int (nI 1)), (0, .ref x), (1, .int (nI ccj)), (2, .int (nI whj)), (3, .int (nI ab)), (4, .int (nI be)), (5, .int (nI k)), (7, .int (nI j))]) hX dX7_floods_89 (Nat.le_of_ble_eq_true rfl) rfl ?_
                    refine z_aload_n hX 2 dX7_floods_91 rfl ?_
                    refine z_iload hX 8 dX7_floods_92 rfl ?_
                    refine z_iload hX 1 dX7_floods_94 rfl ?_
                    refine zn_if_eq (tgt := 104) hX dX7_floods_96 (by decide) (by omega) (fun c96 => absurd c96 (by omega)) (fun _ => ?_)
                    refine z_bipush (v := -nI 5) hX dX7_floods_99 (by decide) ?_
                    refine z_goto (tgt := 105) hX dX7_floods_101 (by decide) ?_
                    refine z_callVv (st := []) hX (c_X7_stonesByM _ G x ad (va_up v 1 f) uu j 5 (by omega) q4 (by omega)) lb_X7_stonesBy ml_X7_54 (fun (_u : Unit) => [ob x 7 (rf ad (va_up v 1 f)), ia G (ad 0) 29 (fN (va_up uu (7 + j) (uu (7 + j) - 5))), ia G (ad 11) 29 (fN s)]) (wr := [ia G (ad 11) 29 (fN s)]) [0, 1] [2] [1, 2, 0] ⟨rfl, rfl, rfl, fun _ => rfl⟩ 0 rfl rfl rfl rfl ⟨Nat.le_refl _, Nat.le_refl _⟩ dX7_floods_105 rfl (fun  u105 hw105 => ?_)
                    refine z_iinc (v := (nI (j + 1))) (L' := [(7, .int (nI (j + 1))), (6, .int (nI (p * ccj))), (8, .int (nI 1)), (0, .ref x), (1, .int (nI ccj)), (2, .int (nI whj)), (3, .int (nI ab)), (4, .int (nI be)), (5, .int (nI k))]) hX 8 dX7_floods_108 rfl (nI_inc _) (Nat.le_of_ble_eq_true rfl) rfl ?_
                    refine z_goto (tgt := 49) hX dX7_floods_111 (by decide) ?_
                    refine z_lsub [3, 4, 5, 6, 7, 8, 1, 0] rfl ?_
                    exact ih49 (j + 1) (p * ccj) (va_up uu (7 + j) (uu (7 + j) - 5)) (by omega) (by omega) (by rw [partN, if_pos c63, ← hp]) (by rw [dryS, if_pos c63, ← hu])
            refine z_lsub [2, 3, 4, 5, 6, 7, 1, 0] rfl ?_
            exact lp49 5 0 1 s (by omega) (by omega) rfl rfl
      refine z_lsub [3, 4, 5, 2, 1, 0] rfl ?_
      exact lp36 17 0 0 0 (v 1) (by omega) (by omega) rfl rfl
    · have hb_wh : inb wh 0 1 = false := hw16
      refine zn_if_ne (tgt := 24) hX dX7_floods_19 (by decide) (by omega) (fun c19 => absurd c19 (by omega)) (fun _ => ?_)
      refine z_iconst (v := (-1)) hX dX7_floods_22 (by decide) ?_
      exact hR _ (v, t) _ _ ⟨by unfold spFloods; rw [if_neg (by simp [hb_wh])], rfl, rfl, rfl, rfl⟩ dX7_floods_23 rfl
  · have hb_cc : inb cc 0 10 = false := hw6
    refine zn_if_eq (tgt := 22) hX dX7_floods_9 (by decide) (by omega) (fun _ => ?_) (fun c9 => absurd c9 (by omega))
    refine z_iconst (v := (-1)) hX dX7_floods_22 (by decide) ?_
    exact hR _ (v, t) _ _ ⟨by unfold spFloods; rw [if_neg (by simp [hb_cc])], rfl, rfl, rfl, rfl⟩ dX7_floods_23 rfl
