theorem passTo_fall (s : nst) : ∀ p, (passTo p s).2 < 2 ^ p
  | 0 => by show 0 < 1; decide
  | p + 1 => by
    have ih := passTo_fall s p
    have e : (2 : Nat) ^ (p + 1) = 2 * 2 ^ p := by rw [Nat.pow_succ, Nat.mul_comm]
    show (stepP p (passTo p s)).2 < _
    unfold stepP
    repeat' split
    · show (passTo p s).2 < _
      omega
    · exact Nat.or_lt_two_pow (by omega) (by omega)
    · show (passTo p s).2 < _
      omega
    · omega
theorem goFall_lt {s : nst} (h : s 0 ≤ 6) : goFall s < 64 := by
  have h1 := passTo_fall s (s 0)
  have h2 : 2 ^ s 0 ≤ 2 ^ 6 := Nat.pow_le_pow_right (by decide) h
  unfold goFall
  omega
/-- what the arrays of a crowd hold of the TRAVELLERS of s -/
def CR (s : nst) (fk fl fe : Nat → Int32) : Prop := ∀ p, p < s 0 → fk p = nI (s (11 + 3 * p)) ∧ fl p = nI (s (12 + 3 * p)) ∧ fe p = nI (s (13 + 3 * p))
set_option maxRecDepth 100000 in
set_option maxHeartbeats 4000000 in
theorem c_X2_pass (l : Launch) (G : zG) (a : Nat) (b : Nat) (s : nst) (ca : Nat) (ck : Nat) (cl : Nat) (ce : Nat) (fk : Nat → Int32) (fl : Nat → Int32) (fe : Nat → Int32) (sz : Nat) (D : Nat) (h0 : WF D 0 s) (h1 : D ≤ 20000) (h2 : CR s fk fl fe) (h3 : sz = s 0) : zMi l G yX2_pass cX2_pass 5 .int 2 0 0 48 [.ref a, .ref ca] [ob a 2 (mf b s), ia G b 4 (fN (sh 7 s)), ob ca 1 [.ref ck, .ref cl, .ref ce, .int (nI sz)], ia G ck 6 fk, ia G cl 6 fl, ia G ce 6 fe] (fun (r : Int32) (_u : Unit) => r = nI (goFall s)) (fun (_u : Unit) => [ob a 2 (mf b (goBy s)), ia G b 4 (fN (sh 7 (goBy s))), ob ca 1 [.ref ck, .ref cl, .ref ce, .int (nI sz)], ia G ck 6 fk, ia G cl 6 fl, ia G ce 6 fe]) := by
  refine zMi.of (by decide) rfl (fun X A H0 hX hXl hR => ?_)
  show Z (X, G, A, H0, 5) 0 0 [ob a 2 (mf b s), ia G b 4 (fN (sh 7 s)), ob ca 1 [.ref ck, .ref cl, .ref ce, .int (nI sz)], ia G ck 6 fk, ia G cl 6 fl, ia G ce 6 fe] 0 [(0, .ref a), (1, .ref ca)] []
  subst hXl
  refine z_iconst (v := nI 0) hX dX2_pass_0 (by decide) ?_
  refine z_istore_n (L' := [(2, .int (nI 0)), (0, .ref a), (1, .ref ca)]) hX dX2_pass_1 (Nat.le_of_ble_eq_true rfl) rfl ?_
  refine z_iconst (v := nI 0) hX dX2_pass_2 (by decide) ?_
  refine z_istore_n (L' := [(3, .int (nI 0)), (2, .int (nI 0)), (0, .ref a), (1, .ref ca)]) hX dX2_pass_3 (Nat.le_of_ble_eq_true rfl) rfl ?_
  have lp4 : ∀ (n4 : Nat) (t : Nat) (u : nst) (fs : Nat), (s 0 + 1 ≤ t + n4) → (t ≤ s 0) → (passTo t s = (u, fs)) → Z (X, G, A, H0, 5) 0 0 [ob a 2 (mf b u), ia G b 4 (fN (sh 7 u)), ob ca 1 [.ref ck, .ref cl, .ref ce, .int (nI sz)], ia G ck 6 fk, ia G cl 6 fl, ia G ce 6 fe] 4 [(0, .ref a), (1, .ref ca), (2, .int (nI fs)), (3, .int (nI t))] [] := by
    intro n4
    induction n4 with
    | zero =>
      intro t u fs hn ht hp
      exfalso
      omega
    | succ n4 ih4 =>
      intro t u fs hn ht hp
      have wf := passTo_WF h0 t
      rw [hp] at wf
      obtain ⟨w0, w1, w2, w3, w6, w7, w11⟩ := wf
      dsimp only at w0 w1 w2 w3 w6 w7 w11
      have kp := fun (i : Nat) (hi : i = 0 ∨ i = 1 ∨ i = 2 ∨ i = 6 ∨ 11 ≤ i) => passTo_keep s hi t
      rw [hp] at kp
      dsimp only at kp
      have k0 := kp 0 (by omega)
      have k1 := kp 1 (by omega)
      have z0 := h0.1
      have z1 := h0.2.1
      refine z_iload_n hX 3 dX2_pass_4 rfl ?_
      refine z_aload_n hX 1 dX2_pass_5 rfl ?_
      refine z_get (v := .int (nI sz)) hX fX1 2 3 rfl rfl (Nat.le_of_ble_eq_true rfl) fl_X2_48 rfl dX2_pass_6 ?_
      refine zn_icmp_ge (tgt := 117) hX dX2_pass_9 (by decide) (by omega) (by omega) (fun c9 => ?_) (fun c9 => ?_)
      · skip
        refine z_aload_n hX 0 dX2_pass_117 rfl ?_
        refine z_dup hX dX2_pass_118 rfl ?_
        refine z_get (v := .int (nI (u 1))) hX fX2 0 2 rfl rfl (Nat.le_of_ble_eq_true rfl) fl_X2_19 rfl dX2_pass_119 ?_
        refine z_iconst (v := nI 1) hX dX2_pass_122 (by decide) ?_
        refine z_iadd (v := (nI (u 1 + 1))) hX dX2_pass_123 (nI_add _ _) ?_
        refine z_putM (v := u 1 + 1) (ws' := [ob a 2 (mf b (va_up u 1 (u 1 + 1))), ia G b 4 (fN (sh 7 (va_up u 1 (u 1 + 1)))), ob ca 1 [.ref ck, .ref cl, .ref ce, .int (nI sz)], ia G ck 6 fk, ia G cl 6 fl, ia G ce 6 fe]) hX 0 1 2 1 rfl rfl rfl rfl rfl fl_X2_19 rfl rfl rfl rfl dX2_pass_124 ?_
        refine z_iload_n hX 2 dX2_pass_127 rfl ?_
        have et : t = s 0 := by omega
        subst et
        have eg : va_up u 1 (u 1 + 1) = goBy s := by unfold goBy; rw [hp, k1]
        have ef : fs = goFall s := by unfold goFall; rw [hp]
        rw [eg, ef]
        exact hR _ () _ _ rfl dX2_pass_128 rfl
      · skip
        obtain ⟨x1, x2, x3, x4⟩ := w11 t (by omega)
        obtain ⟨e11, e12, e13⟩ := h2 t (by omega)
        rw [← kp _ (by omega)] at e11 e12 e13
        refine z_aload_n hX 1 dX2_pass_12 rfl ?_
        refine z_iload_n hX 3 dX2_pass_13 rfl ?_
        refine z_aload_n hX 0 dX2_pass_14 rfl ?_
        refine z_get (v := .int (nI (u 1))) hX fX2 0 2 rfl rfl (Nat.le_of_ble_eq_true rfl) fl_X2_19 rfl dX2_pass_15 ?_
        refine z_callVi (st := []) hX (c_X1_comes _ G ca ck cl ce sz fe t (u 1) (u (13 + 3 * t)) (by omega) (by omega) (by omega) (by omega) e13) lb_X1_comes ml_X2_53 (fun (_u : Unit) => [ob a 2 (mf b u), ia G b 4 (fN (sh 7 u)), ob ca 1 [.ref ck, .ref cl, .ref ce, .int (nI sz)], ia G ck 6 fk, ia G cl 6 fl, ia G ce 6 fe]) (wr := [ob a 2 (mf b u), ia G b 4 (fN (sh 7 u)), ia G ck 6 fk, ia G cl 6 fl]) [2, 5] [0, 1, 3, 4] [0, 1, 4, 2, 3, 5] ⟨rfl, rfl, rfl, fun _ => rfl⟩ 0 rfl rfl rfl rfl ⟨Nat.le_refl _, Nat.le_refl _⟩ dX2_pass_18 rfl (fun r18 u18 hw18 => ?_)
        try dsimp only at hw18
        rcases Classical.em ((u 1) % (u (13 + 3 * t)) = 0) with b18 | b18
        · obtain rfl := hw18.1 b18
          refine zn_if_ne (tgt := 27) hX dX2_pass_21 (by decide) (by omega) (fun _ => ?_) (fun c21 => absurd c21 (by omega))
          refine z_aload_n hX 1 dX2_pass_27 rfl ?_
          refine z_get (v := .ref ck) hX fX1 2 0 rfl rfl (Nat.le_of_ble_eq_true rfl) fl_X2_57 rfl dX2_pass_28 ?_
          refine z_iload_n hX 3 dX2_pass_31 rfl ?_
          refine z_iald (v := (nI (u (11 + 3 * t)))) hX 3 (j := t) rfl (by omega) (by decide) e11 dX2_pass_32 ?_
          refine z_istore (L' := [(4, .int (nI (u (11 + 3 * t)))), (0, .ref a), (1, .ref ca), (2, .int (nI fs)), (3, .int (nI t))]) hX dX2_pass_33 (Nat.le_of_ble_eq_true rfl) rfl ?_
          refine z_aload_n hX 2 dX2_pass_35 rfl ?_
          refine z_iload_n hX 4 dX2_pass_36 rfl ?_
          refine z_aload_n hX 1 dX2_pass_37 rfl ?_
          refine z_get (v := .int (nI (u 2))) hX fX2 0 1 rfl rfl (Nat.le_of_ble_eq_true rfl) fl_X2_15 rfl dX2_pass_38 ?_
          refine z_callVi (st := []) hX (c_X1_isRefused _ G ca ck cl ce sz fl t (u 2) (u (12 + 3 * t)) (by omega) (by omega) e12) lb_X1_isRefused ml_X2_60 (fun (_u : Unit) => [ob a 2 (mf b u), ia G b 4 (fN (sh 7 u)), ob ca 1 [.ref ck, .ref cl, .ref ce, .int (nI sz)], ia G ck 6 fk, ia G cl 6 fl, ia G ce 6 fe]) (wr := [ob a 2 (mf b u), ia G b 4 (fN (sh 7 u)), ia G ck 6 fk, ia G ce 6 fe]) [2, 4] [0, 1, 3, 5] [0, 1, 4, 2, 5, 3] ⟨rfl, rfl, rfl, fun _ => rfl⟩ 0 rfl rfl rfl rfl ⟨Nat.le_refl _, Nat.le_refl _⟩ dX2_pass_41 rfl (fun r41 u41 hw41 => ?_)
          try dsimp only at hw41
          rcases Classical.em ((u (12 + 3 * t)) &&& (u 2) ≠ 0) with b41 | b41
          · obtain rfl := hw41.1 b41
            refine zn_if_eq (tgt := 73) hX dX2_pass_44 (by decide) (by omega) (fun c44 => absurd c44 (by omega)) (fun _ => ?_)
            refine z_aload_n hX 1 dX2_pass_47 rfl ?_
            refine z_dup hX dX2_pass_48 rfl ?_
            refine z_get (v := .int (nI (u 4))) hX fX2 0 4 rfl rfl (Nat.le_of_ble_eq_true rfl) fl_X2_25 rfl dX2_pass_49 ?_
            refine z_iconst (v := nI 1) hX dX2_pass_52 (by decide) ?_
            refine z_iadd (v := (nI (u 4 + 1))) hX dX2_pass_53 (nI_add _ _) ?_
            refine z_putM (v := u 4 + 1) (ws' := [ob a 2 (mf b (va_up u 4 (u 4 + 1))), ia G b 4 (fN (sh 7 (va_up u 4 (u 4 + 1)))), ob ca 1 [.ref ck, .ref cl, .ref ce, .int (nI sz)], ia G ck 6 fk, ia G cl 6 fl, ia G ce 6 fe]) hX 0 1 4 4 rfl rfl rfl rfl rfl fl_X2_25 rfl rfl rfl rfl dX2_pass_54 ?_
            refine z_aload_n hX 1 dX2_pass_57 rfl ?_
            refine z_iload hX 0 dX2_pass_58 rfl ?_
            refine z_aload_n hX 1 dX2_pass_60 rfl ?_
            refine z_get (v := .int (nI (u 1))) hX fX2 0 2 rfl rfl (Nat.le_of_ble_eq_true rfl) fl_X2_19 rfl dX2_pass_61 ?_
            refine z_callNi (st := [.ref a]) hX (c_X6_given _ G (u (11 + 3 * t)) (u 1) (by omega) (by omega)) lb_X6_given (fun U h9 => h9.2.1) (fun (_u : Unit) => [ob a 2 (mf b (va_up u 4 (u 4 + 1))), ia G b 4 (fN (sh 7 (va_up u 4 (u 4 + 1)))), ob ca 1 [.ref ck, .ref cl, .ref ce, .int (nI sz)], ia G ck 6 fk, ia G cl 6 fl, ia G ce 6 fe]) (wr := [ob a 2 (mf b (va_up u 4 (u 4 + 1))), ia G b 4 (fN (sh 7 (va_up u 4 (u 4 + 1)))), ob ca 1 [.ref ck, .ref cl, .ref ce, .int (nI sz)], ia G ck 6 fk, ia G cl 6 fl, ia G ce 6 fe]) [] [0, 1, 2, 3, 4, 5] [0, 1, 2, 3, 4, 5] ⟨rfl, rfl, rfl, fun _ => rfl⟩ rfl rfl ⟨Nat.le_refl _, Nat.le_refl _⟩ dX2_pass_64 rfl (fun r64 u64 hw64 => ?_)
            subst hw64
            refine z_callVv (st := []) hX (c_X2_putIn _ G a b (va_up u 4 (u 4 + 1)) (givN (u (11 + 3 * t)) (u 1)) (fun a9 h9 => by rw [up_ne (by omega)]; exact w7 a9 h9) (by have := givN_le (u (11 + 3 * t)) (u 1); omega)) lb_X2_putIn ml_X2_66 (fun (_u : Unit) => [ob a 2 (mf b (putN (givN (u (11 + 3 * t)) (u 1)) (va_up u 4 (u 4 + 1)))), ia G b 4 (fN (sh 7 (putN (givN (u (11 + 3 * t)) (u 1)) (va_up u 4 (u 4 + 1))))), ob ca 1 [.ref ck, .ref cl, .ref ce, .int (nI sz)], ia G ck 6 fk, ia G cl 6 fl, ia G ce 6 fe]) (wr := [ob ca 1 [.ref ck, .ref cl, .ref ce, .int (nI sz)], ia G ck 6 fk, ia G cl 6 fl, ia G ce 6 fe]) [0, 1] [2, 3, 4, 5] [4, 5, 0, 1, 2, 3] ⟨rfl, rfl, rfl, fun _ => rfl⟩ 0 rfl rfl rfl rfl ⟨Nat.le_refl _, Nat.le_refl _⟩ dX2_pass_67 rfl (fun  u67 hw67 => ?_)
            refine z_goto (tgt := 111) hX dX2_pass_70 (by decide) ?_
            have hstep : passTo (t + 1) s = (putN (givN (u (11 + 3 * t)) (u 1)) (va_up u 4 (u 4 + 1)), fs) := by
              rw [passTo, hp]
              unfold stepP
              dsimp only
              rw [if_pos b18, if_pos b41]
            refine z_iinc (v := (nI (t + 1))) (L' := [(3, .int (nI (t + 1))), (4, .int (nI (u (11 + 3 * t)))), (0, .ref a), (1, .ref ca), (2, .int (nI fs))]) hX 4 dX2_pass_111 rfl (nI_inc _) (Nat.le_of_ble_eq_true rfl) rfl ?_
            refine z_goto (tgt := 4) hX dX2_pass_114 (by decide) ?_
            refine z_lsub [2, 3, 4, 0] rfl ?_
            exact ih4 (t + 1) (putN (givN (u (11 + 3 * t)) (u 1)) (va_up u 4 (u 4 + 1))) fs (by omega) (by omega) hstep
          · obtain rfl := hw41.2 b41
            refine zn_if_eq (tgt := 73) hX dX2_pass_44 (by decide) (by omega) (fun _ => ?_) (fun c44 => absurd c44 (by omega))
            refine z_aload_n hX 1 dX2_pass_73 rfl ?_
            refine z_iload hX 0 dX2_pass_74 rfl ?_
            refine z_callVi (st := []) hX (c_X2_crosses _ G a b u (u (11 + 3 * t)) w7 (by omega) (by omega)) lb_X2_crosses ml_X2_70 (fun (_u : Unit) => [ob a 2 (mf b ((crossG (u (11 + 3 * t)) (u 1) 4 0 u).1)), ia G b 4 (fN (sh 7 ((crossG (u (11 + 3 * t)) (u 1) 4 0 u).1))), ob ca 1 [.ref ck, .ref cl, .ref ce, .int (nI sz)], ia G ck 6 fk, ia G cl 6 fl, ia G ce 6 fe]) (wr := [ob ca 1 [.ref ck, .ref cl, .ref ce, .int (nI sz)], ia G ck 6 fk, ia G cl 6 fl, ia G ce 6 fe]) [0, 1] [2, 3, 4, 5] [4, 5, 0, 1, 2, 3] ⟨rfl, rfl, rfl, fun _ => rfl⟩ 0 rfl rfl rfl rfl ⟨Nat.le_refl _, Nat.le_refl _⟩ dX2_pass_76 rfl (fun r76 u76 hw76 => ?_)
            try dsimp only at hw76
            rcases Classical.em ((crossG (u (11 + 3 * t)) (u 1) 4 0 u).2 = false) with b76 | b76
            · obtain rfl := hw76.1 b76
              refine zn_if_eq (tgt := 95) hX dX2_pass_79 (by decide) (by omega) (fun c79 => absurd c79 (by omega)) (fun _ => ?_)
              refine z_aload_n hX 1 dX2_pass_82 rfl ?_
              refine z_dup hX dX2_pass_83 rfl ?_
              refine z_get (v := .int (nI (((crossG (u (11 + 3 * t)) (u 1) 4 0 u).1) 3))) hX fX2 0 3 rfl rfl (Nat.le_of_ble_eq_true rfl) fl_X2_22 rfl dX2_pass_84 ?_
              refine z_iconst (v := nI 1) hX dX2_pass_87 (by decide) ?_
              refine z_iadd (v := (nI (((crossG (u (11 + 3 * t)) (u 1) 4 0 u).1) 3 + 1))) hX dX2_pass_88 (nI_add _ _) ?_
              refine z_putM (v := ((crossG (u (11 + 3 * t)) (u 1) 4 0 u).1) 3 + 1) (ws' := [ob a 2 (mf b (va_up ((crossG (u (11 + 3 * t)) (u 1) 4 0 u).1) 3 (((crossG (u (11 + 3 * t)) (u 1) 4 0 u).1) 3 + 1))), ia G b 4 (fN (sh 7 (va_up ((crossG (u (11 + 3 * t)) (u 1) 4 0 u).1) 3 (((crossG (u (11 + 3 * t)) (u 1) 4 0 u).1) 3 + 1)))), ob ca 1 [.ref ck, .ref cl, .ref ce, .int (nI sz)], ia G ck 6 fk, ia G cl 6 fl, ia G ce 6 fe]) hX 0 1 3 3 rfl rfl rfl rfl rfl fl_X2_22 rfl rfl rfl rfl dX2_pass_89 ?_
              refine z_goto (tgt := 111) hX dX2_pass_92 (by decide) ?_
              have hstep : passTo (t + 1) s = (va_up ((crossG (u (11 + 3 * t)) (u 1) 4 0 u).1) 3 (((crossG (u (11 + 3 * t)) (u 1) 4 0 u).1) 3 + 1), fs) := by
                rw [passTo, hp]
                unfold stepP
                dsimp only
                rw [if_pos b18, if_neg b41, if_neg (by simpa using b76)]
              refine z_iinc (v := (nI (t + 1))) (L' := [(3, .int (nI (t + 1))), (4, .int (nI (u (11 + 3 * t)))), (0, .ref a), (1, .ref ca), (2, .int (nI fs))]) hX 4 dX2_pass_111 rfl (nI_inc _) (Nat.le_of_ble_eq_true rfl) rfl ?_
              refine z_goto (tgt := 4) hX dX2_pass_114 (by decide) ?_
              refine z_lsub [2, 3, 4, 0] rfl ?_
              exact ih4 (t + 1) (va_up ((crossG (u (11 + 3 * t)) (u 1) 4 0 u).1) 3 (((crossG (u (11 + 3 * t)) (u 1) 4 0 u).1) 3 + 1)) fs (by omega) (by omega) hstep
            · obtain rfl := hw76.2 b76
              refine zn_if_eq (tgt := 95) hX dX2_pass_79 (by decide) (by omega) (fun _ => ?_) (fun c79 => absurd c79 (by omega))
              refine z_aload_n hX 1 dX2_pass_95 rfl ?_
              refine z_dup hX dX2_pass_96 rfl ?_
              refine z_get (v := .int (nI (((crossG (u (11 + 3 * t)) (u 1) 4 0 u).1) 5))) hX fX2 0 5 rfl rfl (Nat.le_of_ble_eq_true rfl) fl_X2_28 rfl dX2_pass_97 ?_
              refine z_iconst (v := nI 1) hX dX2_pass_100 (by decide) ?_
              refine z_iadd (v := (nI (((crossG (u (11 + 3 * t)) (u 1) 4 0 u).1) 5 + 1))) hX dX2_pass_101 (nI_add _ _) ?_
              refine z_putM (v := ((crossG (u (11 + 3 * t)) (u 1) 4 0 u).1) 5 + 1) (ws' := [ob a 2 (mf b (va_up ((crossG (u (11 + 3 * t)) (u 1) 4 0 u).1) 5 (((crossG (u (11 + 3 * t)) (u 1) 4 0 u).1) 5 + 1))), ia G b 4 (fN (sh 7 (va_up ((crossG (u (11 + 3 * t)) (u 1) 4 0 u).1) 5 (((crossG (u (11 + 3 * t)) (u 1) 4 0 u).1) 5 + 1)))), ob ca 1 [.ref ck, .ref cl, .ref ce, .int (nI sz)], ia G ck 6 fk, ia G cl 6 fl, ia G ce 6 fe]) hX 0 1 5 5 rfl rfl rfl rfl rfl fl_X2_28 rfl rfl rfl rfl dX2_pass_102 ?_
              refine z_iload_n hX 3 dX2_pass_105 rfl ?_
              refine z_iconst (v := nI 1) hX dX2_pass_106 (by decide) ?_
              refine z_iload_n hX 4 dX2_pass_107 rfl ?_
              refine z_ishl (v := (nI (2 ^ t))) hX dX2_pass_108 (shl_nI _ (by omega)) ?_
              refine z_ior (v := (nI (fs ||| (2 ^ t)))) hX dX2_pass_109 (or_nI _ _) ?_
              refine z_istore_n (L' := [(2, .int (nI (fs ||| (2 ^ t)))), (4, .int (nI (u (11 + 3 * t)))), (0, .ref a), (1, .ref ca), (3, .int (nI t))]) hX dX2_pass_110 (Nat.le_of_ble_eq_true rfl) rfl ?_
              have hstep : passTo (t + 1) s = (va_up ((crossG (u (11 + 3 * t)) (u 1) 4 0 u).1) 5 (((crossG (u (11 + 3 * t)) (u 1) 4 0 u).1) 5 + 1), fs ||| (2 ^ t)) := by
                rw [passTo, hp]
                unfold stepP
                dsimp only
                rw [if_pos b18, if_neg b41, if_pos (by simpa using b76)]
              refine z_iinc (v := (nI (t + 1))) (L' := [(3, .int (nI (t + 1))), (2, .int (nI (fs ||| (2 ^ t)))), (4, .int (nI (u (11 + 3 * t)))), (0, .ref a), (1, .ref ca)]) hX 4 dX2_pass_111 rfl (nI_inc _) (Nat.le_of_ble_eq_true rfl) rfl ?_
              refine z_goto (tgt := 4) hX dX2_pass_114 (by decide) ?_
              refine z_lsub [3, 4, 1, 0] rfl ?_
              exact ih4 (t + 1) (va_up ((crossG (u (11 + 3 * t)) (u 1) 4 0 u).1) 5 (((crossG (u (11 + 3 * t)) (u 1) 4 0 u).1) 5 + 1)) (fs ||| (2 ^ t)) (by omega) (by omega) hstep
        · obtain rfl := hw18.2 b18
          refine zn_if_ne (tgt := 27) hX dX2_pass_21 (by decide) (by omega) (fun c21 => absurd c21 (by omega)) (fun _ => ?_)
          refine z_goto (tgt := 111) hX dX2_pass_24 (by decide) ?_
          have hstep : passTo (t + 1) s = (u, fs) := by
            rw [passTo, hp]
            unfold stepP
            dsimp only
            rw [if_neg b18]
          refine z_iinc (v := (nI (t + 1))) (L' := [(3, .int (nI (t + 1))), (0, .ref a), (1, .ref ca), (2, .int (nI fs))]) hX 3 dX2_pass_111 rfl (nI_inc _) (Nat.le_of_ble_eq_true rfl) rfl ?_
          refine z_goto (tgt := 4) hX dX2_pass_114 (by decide) ?_
          refine z_lsub [1, 2, 3, 0] rfl ?_
          exact ih4 (t + 1) u fs (by omega) (by omega) hstep
  refine z_lsub [2, 3, 1, 0] rfl ?_
  exact lp4 (s 0 + 1) 0 s 0 (by omega) (by omega) rfl
