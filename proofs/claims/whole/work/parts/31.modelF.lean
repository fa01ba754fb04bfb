def kpF (s U : nst) : nst := fun i => if i < 29 then s i else U (i - 29)
theorem lc_le {a b : Nat} (ha : a < 2 ^ 62) (hb : b < 2 ^ 62) : lg_cmp (lN a) (lN b) ≤ 0 ↔ a ≤ b := by
  have e1 : (lN a).toInt = (a : Int) := lg_ofNat_toInt (by omega)
  have e2 : (lN b).toInt = (b : Int) := lg_ofNat_toInt (by omega)
  rw [lg_cmp_le, Int64.le_iff_toInt_le, e1, e2]
  omega
theorem fits_nn {a b z : Nat} (ha : a < 2147483648) (hb : b < 2147483648) : fitsI (nI a) (nI b) z = true ↔ a + b ≤ z := by
  simp only [fitsI, Bool.and_eq_true, decide_eq_true_eq, nI_toInt ha, nI_toInt hb]
  omega
theorem fits_neg {x y : Int32} {z : Nat} (h : x < 0 ∨ y < 0) : ¬ fitsI x y z = true := by
  simp only [fitsI, Bool.and_eq_true, decide_eq_true_eq]
  rw [Int32.lt_iff_toInt_lt, Int32.lt_iff_toInt_lt, i32_0] at h
  omega
theorem showB_st {s : nst} {a k b : Nat} {f : Nat → Int64} (hb : (if showB s a f k = true then 1 else 0) = b) : (b = 0 → (if showB s a f (k + 1) = true then 1 else 0) = 0) ∧ (¬ b = 0 → lN (goN (k + 1) s (7 + a)) = f k → (if showB s a f (k + 1) = true then 1 else 0) = 1) ∧ (¬ lN (goN (k + 1) s (7 + a)) = f k → (if showB s a f (k + 1) = true then 1 else 0) = 0) := by
  refine ⟨fun h => ?_, fun h h2 => ?_, fun h => ?_⟩
  · rw [if_neg]
    rw [showB, Bool.and_eq_true]
    intro c
    rw [if_pos c.1] at hb
    omega
  · rw [if_pos]
    rw [showB, Bool.and_eq_true]
    refine ⟨?_, decide_eq_true h2.symm⟩
    by_cases c : showB s a f k = true
    · exact c
    · rw [if_neg c] at hb
      omega
  · rw [if_neg]
    rw [showB, Bool.and_eq_true]
    intro c
    exact h (of_decide_eq_true c.2).symm
def zI (It : Nat → Int64) (b k : Nat) : Nat → Int64 := fun j => if b ≤ j ∧ j < b + k then lN 0 else It j
theorem zI_0 (It : Nat → Int64) (b : Nat) : zI It b 0 = It := by
  funext j
  unfold zI
  rw [if_neg (by omega)]
theorem zI_up (It : Nat → Int64) (b k : Nat) : vp_updL (zI It b k) (b + k) (lN 0) = zI It b (k + 1) := by
  funext j
  unfold vp_updL zI
  by_cases e : j = b + k
  · subst e
    rw [if_pos rfl, if_pos (by omega)]
  · rw [if_neg e]
    by_cases c : b ≤ j ∧ j < b + k
    · rw [if_pos c, if_pos (by omega)]
    · rw [if_neg c, if_neg (by omega)]
theorem lnup (lq : nst) (a b : Nat) : upd (fun j => ln (lq j)) a (nI b) = fun j => ln (va_up lq a (b + 1) j) := by
  funext j
  unfold upd va_up
  split <;> rfl
theorem lnup0 (lq : nst) (a : Nat) : upd (fun j => ln (lq j)) a (-1) = fun j => ln (va_up lq a 0 j) := by
  funext j
  unfold upd va_up
  split <;> rfl
set_option maxRecDepth 100000 in
set_option maxHeartbeats 4000000 in
theorem c_X7_image (l : Launch) (G : zG) (x : Nat) (ad : Nat → Nat) (v : Nat → Nat) (s : nst) (U : nst) (h : Nat → nst) (K : nst)  : zMi l G yX7_image cX7_image 2 .int 0 0 0 0 [.ref x] [ob x 7 (rf ad v), ia G (ad 0) 29 (fN s), ia G (ad 9) 232 (fN U), ia G (ad 16) 261 (fN K)] (fun (r : Int32) (_u : Unit) => r = nI 1) (fun (_u : Unit) => [ob x 7 (rf ad (va_up (va_up v 17 (v 10)) 18 1)), ia G (ad 0) 29 (fN s), ia G (ad 9) 232 (fN U), ia G (ad 16) 261 (fN (kpF s U))]) := by
  refine zMi.of (by decide) rfl (fun X A H0 hX hXl hR => ?_)
  show Z (X, G, A, H0, 2) 0 0 [ob x 7 (rf ad v), ia G (ad 0) 29 (fN s), ia G (ad 9) 232 (fN U), ia G (ad 16) 261 (fN K)] 0 [(0, .ref x)] []
  subst hXl
  refine z_iconst (v := nI 0) hX dX7_image_0 (by decide) ?_
  refine z_istore_n (L' := [(1, .int (nI 0)), (0, .ref x)]) hX dX7_image_1 (Nat.le_of_ble_eq_true rfl) rfl ?_
  have lp2 : ∀ (n2 : Nat) (k : Nat) (W : nst), (29 + 1 ≤ k + n2) → (k ≤ 29) → (∀ i, i < k → W i = s i) → Z (X, G, A, H0, 2) 0 0 [ob x 7 (rf ad v), ia G (ad 0) 29 (fN s), ia G (ad 9) 232 (fN U), ia G (ad 16) 261 (fN W)] 2 [(0, .ref x), (1, .int (nI k))] [] := by
    intro n2
    induction n2 with
    | zero =>
      intro k W hn hk hW
      exfalso
      omega
    | succ n2 ih2 =>
      intro k W hn hk hW
      refine z_iload_n hX 1 dX7_image_2 rfl ?_
      refine z_bipush (v := nI 29) hX dX7_image_3 (by decide) ?_
      refine zn_icmp_ge (tgt := 26) hX dX7_image_5 (by decide) (by omega) (by omega) (fun c5 => ?_) (fun c5 => ?_)
      · skip
        refine z_iconst (v := nI 0) hX dX7_image_26 (by decide) ?_
        refine z_istore_n (L' := [(1, .int (nI 0)), (0, .ref x)]) hX dX7_image_27 (Nat.le_of_ble_eq_true rfl) rfl ?_
        have lp28 : ∀ (n28 : Nat) (k : Nat) (W : nst), (232 + 1 ≤ k + n28) → (k ≤ 232) → (∀ i, i < 29 → W i = s i) → (∀ i, i < k → W (29 + i) = U i) → Z (X, G, A, H0, 2) 0 0 [ob x 7 (rf ad v), ia G (ad 0) 29 (fN s), ia G (ad 9) 232 (fN U), ia G (ad 16) 261 (fN W)] 28 [(0, .ref x), (1, .int (nI k))] [] := by
          intro n28
          induction n28 with
          | zero =>
            intro k W hn hk hA hW
            exfalso
            omega
          | succ n28 ih28 =>
            intro k W hn hk hA hW
            refine z_iload_n hX 1 dX7_image_28 rfl ?_
            refine z_sipush (v := nI 232) hX dX7_image_29 (by decide) ?_
            refine zn_icmp_ge (tgt := 56) hX dX7_image_32 (by decide) (by omega) (by omega) (fun c32 => ?_) (fun c32 => ?_)
            · skip
              refine z_aload_n hX 0 dX7_image_56 rfl ?_
              refine z_aload_n hX 0 dX7_image_57 rfl ?_
              refine z_get (v := .int (nI (v 10))) hX fX7 0 10 rfl rfl (Nat.le_of_ble_eq_true rfl) fl_X7_86 rfl dX7_image_58 ?_
              refine z_put (v := .int (nI (v 10))) (ws' := [ob x 7 (rf ad (va_up v 17 (v 10))), ia G (ad 0) 29 (fN s), ia G (ad 9) 232 (fN U), ia G (ad 16) 261 (fN W)]) hX fX7 0 17 rfl rfl (Nat.le_of_ble_eq_true rfl) fl_X7_203 rfl rfl rfl rfl rfl dX7_image_61 ?_
              refine z_aload_n hX 0 dX7_image_64 rfl ?_
              refine z_iconst (v := nI 1) hX dX7_image_65 (by decide) ?_
              refine z_put (v := .int (nI 1)) (ws' := [ob x 7 (rf ad (va_up (va_up v 17 (v 10)) 18 1)), ia G (ad 0) 29 (fN s), ia G (ad 9) 232 (fN U), ia G (ad 16) 261 (fN W)]) hX fX7 0 18 rfl rfl (Nat.le_of_ble_eq_true rfl) fl_X7_206 rfl rfl rfl rfl rfl dX7_image_66 ?_
              refine z_iconst (v := nI 1) hX dX7_image_69 (by decide) ?_
              refine z_iext (f' := (fN (kpF s U))) (ws' := [ob x 7 (rf ad (va_up (va_up v 17 (v 10)) 18 1)), ia G (ad 0) 29 (fN s), ia G (ad 9) 232 (fN U), ia G (ad 16) 261 (fN (kpF s U))]) 3 rfl (fun j hj => congrArg nI (by
                    unfold kpF
                    split
                    · exact hA j (by omega)
                    · have e9 := hW (j - 29) (by omega)
                      rw [show 29 + (j - 29) = j by omega] at e9
                      exact e9)) rfl ?_
              exact hR _ () _ _ rfl dX7_image_70 rfl
            · skip
              refine z_aload_n hX 0 dX7_image_35 rfl ?_
              refine z_get (v := .ref (ad 16)) hX fX7 0 16 rfl rfl (Nat.le_of_ble_eq_true rfl) fl_X7_28 rfl dX7_image_36 ?_
              refine z_bipush (v := nI 29) hX dX7_image_39 (by decide) ?_
              refine z_iload_n hX 1 dX7_image_41 rfl ?_
              refine z_iadd (v := (nI (29 + k))) hX dX7_image_42 (nI_add _ _) ?_
              refine z_aload_n hX 0 dX7_image_43 rfl ?_
              refine z_get (v := .ref (ad 9)) hX fX7 0 9 rfl rfl (Nat.le_of_ble_eq_true rfl) fl_X7_22 rfl dX7_image_44 ?_
              refine z_iload_n hX 1 dX7_image_47 rfl ?_
              refine z_iald (v := (nI (U k))) hX 2 (j := k) rfl (by omega) (by decide) rfl dX7_image_48 ?_
              refine z_iast (ws' := [ob x 7 (rf ad v), ia G (ad 0) 29 (fN s), ia G (ad 9) 232 (fN U), ia G (ad 16) 261 (fN (va_up W (29 + k) (U k)))]) hX 3 (j := (29 + k)) rfl (by omega) (by decide) (updN _ _ _) rfl dX7_image_49 ?_
              refine z_iinc (v := (nI (k + 1))) (L' := [(1, .int (nI (k + 1))), (0, .ref x)]) hX 1 dX7_image_50 rfl (nI_inc _) (Nat.le_of_ble_eq_true rfl) rfl ?_
              refine z_goto (tgt := 28) hX dX7_image_53 (by decide) ?_
              refine z_lsub [1, 0] rfl ?_
              exact ih28 (k + 1) (va_up W (29 + k) (U k)) (by omega) (by omega) (fun i9 h9 => by rw [up_ne (by omega)]; exact hA i9 h9) (fun i9 h9 => by
                    by_cases e9 : i9 = k
                    · subst e9; exact up_eq
                    · rw [up_ne (by omega)]; exact hW i9 (by omega))
        refine z_lsub [1, 0] rfl ?_
        exact lp28 233 0 W (by omega) (by omega) (fun i9 h9 => hW i9 (by omega)) (fun i9 h9 => absurd h9 (by omega))
      · skip
        refine z_aload_n hX 0 dX7_image_8 rfl ?_
        refine z_get (v := .ref (ad 16)) hX fX7 0 16 rfl rfl (Nat.le_of_ble_eq_true rfl) fl_X7_28 rfl dX7_image_9 ?_
        refine z_iload_n hX 1 dX7_image_12 rfl ?_
        refine z_aload_n hX 0 dX7_image_13 rfl ?_
        refine z_get (v := .ref (ad 0)) hX fX7 0 0 rfl rfl (Nat.le_of_ble_eq_true rfl) fl_X7_7 rfl dX7_image_14 ?_
        refine z_iload_n hX 1 dX7_image_17 rfl ?_
        refine z_iald (v := (nI (s k))) hX 1 (j := k) rfl (by omega) (by decide) rfl dX7_image_18 ?_
        refine z_iast (ws' := [ob x 7 (rf ad v), ia G (ad 0) 29 (fN s), ia G (ad 9) 232 (fN U), ia G (ad 16) 261 (fN (va_up W k (s k)))]) hX 3 (j := k) rfl (by omega) (by decide) (updN _ _ _) rfl dX7_image_19 ?_
        refine z_iinc (v := (nI (k + 1))) (L' := [(1, .int (nI (k + 1))), (0, .ref x)]) hX 1 dX7_image_20 rfl (nI_inc _) (Nat.le_of_ble_eq_true rfl) rfl ?_
        refine z_goto (tgt := 2) hX dX7_image_23 (by decide) ?_
        refine z_lsub [1, 0] rfl ?_
        exact ih2 (k + 1) (va_up W k (s k)) (by omega) (by omega) (fun i9 h9 => by
              by_cases e9 : i9 = k
              · subst e9; exact up_eq
              · rw [up_ne e9]; exact hW i9 (by omega))
  refine z_lsub [1, 0] rfl ?_
  exact lp2 30 0 K (by omega) (by omega) (fun i9 h9 => absurd h9 (by omega))
set_option maxRecDepth 100000 in
set_option maxHeartbeats 4000000 in
theorem c_X7_restore0 (l : Launch) (G : zG) (x : Nat) (ad : Nat → Nat) (v : Nat → Nat) (s : nst) (h0 : v 18 = 0) : zMi l G yX7_restore cX7_restore 2 .int 0 0 0 0 [.ref x] [ob x 7 (rf ad v), ia G (ad 0) 29 (fN s)] (fun (r : Int32) (_u : Unit) => r = -4) (fun (_u : Unit) => [ob x 7 (rf ad v), ia G (ad 0) 29 (fN s)]) := by
  refine zMi.of (by decide) rfl (fun X A H0 hX hXl hR => ?_)
  show Z (X, G, A, H0, 2) 0 0 [ob x 7 (rf ad v), ia G (ad 0) 29 (fN s)] 0 [(0, .ref x)] []
  subst hXl
  refine z_aload_n hX 0 dX7_restore_0 rfl ?_
  refine z_get (v := .int (nI (v 18))) hX fX7 0 18 rfl rfl (Nat.le_of_ble_eq_true rfl) fl_X7_206 rfl dX7_restore_1 ?_
  refine zn_if_ne (tgt := 10) hX dX7_restore_4 (by decide) (by omega) (fun c4 => absurd c4 (by omega)) (fun c4 => ?_)
  refine z_bipush (v := (-4)) hX dX7_restore_7 (by decide) ?_
  exact hR _ () _ _ rfl dX7_restore_9 rfl
set_option maxRecDepth 100000 in
set_option maxHeartbeats 4000000 in
theorem c_X7_restore1 (l : Launch) (G : zG) (x : Nat) (ad : Nat → Nat) (v : Nat → Nat) (s : nst) (U : nst) (h : Nat → nst) (K : nst) (s2 : nst) (U2 : nst) (h0 : v 18 = 1) (h1 : ∀ i, i < 29 → K i = s2 i) (h2 : ∀ i, i < 232 → K (29 + i) = U2 i) : zMi l G yX7_restore cX7_restore 2 .int 0 0 0 0 [.ref x] [ob x 7 (rf ad v), ia G (ad 0) 29 (fN s), ia G (ad 9) 232 (fN U), ia G (ad 16) 261 (fN K)] (fun (r : Int32) (_u : Unit) => r = nI 1) (fun (_u : Unit) => [ob x 7 (rf ad (va_up v 10 (v 17))), ia G (ad 0) 29 (fN s2), ia G (ad 9) 232 (fN U2), ia G (ad 16) 261 (fN K)]) := by
  refine zMi.of (by decide) rfl (fun X A H0 hX hXl hR => ?_)
  show Z (X, G, A, H0, 2) 0 0 [ob x 7 (rf ad v), ia G (ad 0) 29 (fN s), ia G (ad 9) 232 (fN U), ia G (ad 16) 261 (fN K)] 0 [(0, .ref x)] []
  subst hXl
  refine z_aload_n hX 0 dX7_restore_0 rfl ?_
  refine z_get (v := .int (nI (v 18))) hX fX7 0 18 rfl rfl (Nat.le_of_ble_eq_true rfl) fl_X7_206 rfl dX7_restore_1 ?_
  refine zn_if_ne (tgt := 10) hX dX7_restore_4 (by decide) (by omega) (fun c4 => ?_) (fun c4 => absurd c4 (by omega))
  refine z_iconst (v := nI 0) hX dX7_restore_10 (by decide) ?_
  refine z_istore_n (L' := [(1, .int (nI 0)), (0, .ref x)]) hX dX7_restore_11 (Nat.le_of_ble_eq_true rfl) rfl ?_
  have lp12 : ∀ (n12 : Nat) (k : Nat) (W : nst), (29 + 1 ≤ k + n12) → (k ≤ 29) → (∀ i, i < k → W i = s2 i) → Z (X, G, A, H0, 2) 0 0 [ob x 7 (rf ad v), ia G (ad 0) 29 (fN W), ia G (ad 9) 232 (fN U), ia G (ad 16) 261 (fN K)] 12 [(0, .ref x), (1, .int (nI k))] [] := by
    intro n12
    induction n12 with
    | zero =>
      intro k W hn hk hW
      exfalso
      omega
    | succ n12 ih12 =>
      intro k W hn hk hW
      refine z_iload_n hX 1 dX7_restore_12 rfl ?_
      refine z_bipush (v := nI 29) hX dX7_restore_13 (by decide) ?_
      refine zn_icmp_ge (tgt := 36) hX dX7_restore_15 (by decide) (by omega) (by omega) (fun c15 => ?_) (fun c15 => ?_)
      · skip
        refine z_iext (f' := (fN s2)) (ws' := [ob x 7 (rf ad v), ia G (ad 0) 29 (fN s2), ia G (ad 9) 232 (fN U), ia G (ad 16) 261 (fN K)]) 1 rfl (fun j hj => congrArg nI (hW j (by omega))) rfl ?_
        refine z_iconst (v := nI 0) hX dX7_restore_36 (by decide) ?_
        refine z_istore_n (L' := [(1, .int (nI 0)), (0, .ref x)]) hX dX7_restore_37 (Nat.le_of_ble_eq_true rfl) rfl ?_
        have lp38 : ∀ (n38 : Nat) (k : Nat) (W : nst), (232 + 1 ≤ k + n38) → (k ≤ 232) → (∀ i, i < k → W i = U2 i) → Z (X, G, A, H0, 2) 0 0 [ob x 7 (rf ad v), ia G (ad 0) 29 (fN s2), ia G (ad 9) 232 (fN W), ia G (ad 16) 261 (fN K)] 38 [(0, .ref x), (1, .int (nI k))] [] := by
          intro n38
          induction n38 with
          | zero =>
            intro k W hn hk hW
            exfalso
            omega
          | succ n38 ih38 =>
            intro k W hn hk hW
            refine z_iload_n hX 1 dX7_restore_38 rfl ?_
            refine z_sipush (v := nI 232) hX dX7_restore_39 (by decide) ?_
            refine zn_icmp_ge (tgt := 66) hX dX7_restore_42 (by decide) (by omega) (by omega) (fun c42 => ?_) (fun c42 => ?_)
            · skip
              refine z_aload_n hX 0 dX7_restore_66 rfl ?_
              refine z_aload_n hX 0 dX7_restore_67 rfl ?_
              refine z_get (v := .int (nI (v 17))) hX fX7 0 17 rfl rfl (Nat.le_of_ble_eq_true rfl) fl_X7_203 rfl dX7_restore_68 ?_
              refine z_put (v := .int (nI (v 17))) (ws' := [ob x 7 (rf ad (va_up v 10 (v 17))), ia G (ad 0) 29 (fN s2), ia G (ad 9) 232 (fN W), ia G (ad 16) 261 (fN K)]) hX fX7 0 10 rfl rfl (Nat.le_of_ble_eq_true rfl) fl_X7_86 rfl rfl rfl rfl rfl dX7_restore_71 ?_
              refine z_iconst (v := nI 1) hX dX7_restore_74 (by decide) ?_
              refine z_iext (f' := (fN U2)) (ws' := [ob x 7 (rf ad (va_up v 10 (v 17))), ia G (ad 0) 29 (fN s2), ia G (ad 9) 232 (fN U2), ia G (ad 16) 261 (fN K)]) 2 rfl (fun j hj => congrArg nI (hW j (by omega))) rfl ?_
              exact hR _ () _ _ rfl dX7_restore_75 rfl
            · skip
              refine z_aload_n hX 0 dX7_restore_45 rfl ?_
              refine z_get (v := .ref (ad 9)) hX fX7 0 9 rfl rfl (Nat.le_of_ble_eq_true rfl) fl_X7_22 rfl dX7_restore_46 ?_
              refine z_iload_n hX 1 dX7_restore_49 rfl ?_
              refine z_aload_n hX 0 dX7_restore_50 rfl ?_
              refine z_get (v := .ref (ad 16)) hX fX7 0 16 rfl rfl (Nat.le_of_ble_eq_true rfl) fl_X7_28 rfl dX7_restore_51 ?_
              refine z_bipush (v := nI 29) hX dX7_restore_54 (by decide) ?_
              refine z_iload_n hX 1 dX7_restore_56 rfl ?_
              refine z_iadd (v := (nI (29 + k))) hX dX7_restore_57 (nI_add _ _) ?_
              refine z_iald (v := (nI (K (29 + k)))) hX 3 (j := (29 + k)) rfl (by omega) (by decide) rfl dX7_restore_58 ?_
              refine z_iast (ws' := [ob x 7 (rf ad v), ia G (ad 0) 29 (fN s2), ia G (ad 9) 232 (fN (va_up W k (K (29 + k)))), ia G (ad 16) 261 (fN K)]) hX 2 (j := k) rfl (by omega) (by decide) (updN _ _ _) rfl dX7_restore_59 ?_
              refine z_iinc (v := (nI (k + 1))) (L' := [(1, .int (nI (k + 1))), (0, .ref x)]) hX 1 dX7_restore_60 rfl (nI_inc _) (Nat.le_of_ble_eq_true rfl) rfl ?_
              refine z_goto (tgt := 38) hX dX7_restore_63 (by decide) ?_
              refine z_lsub [1, 0] rfl ?_
              exact ih38 (k + 1) (va_up W k (K (29 + k))) (by omega) (by omega) (fun i9 h9 => by
                    by_cases e9 : i9 = k
                    · subst e9; rw [up_eq]; exact h2 i9 (by omega)
                    · rw [up_ne e9]; exact hW i9 (by omega))
        refine z_lsub [1, 0] rfl ?_
        exact lp38 233 0 U (by omega) (by omega) (fun i9 h9 => absurd h9 (by omega))
      · skip
        refine z_aload_n hX 0 dX7_restore_18 rfl ?_
        refine z_get (v := .ref (ad 0)) hX fX7 0 0 rfl rfl (Nat.le_of_ble_eq_true rfl) fl_X7_7 rfl dX7_restore_19 ?_
        refine z_iload_n hX 1 dX7_restore_22 rfl ?_
        refine z_aload_n hX 0 dX7_restore_23 rfl ?_
        refine z_get (v := .ref (ad 16)) hX fX7 0 16 rfl rfl (Nat.le_of_ble_eq_true rfl) fl_X7_28 rfl dX7_restore_24 ?_
        refine z_iload_n hX 1 dX7_restore_27 rfl ?_
        refine z_iald (v := (nI (K k))) hX 3 (j := k) rfl (by omega) (by decide) rfl dX7_restore_28 ?_
        refine z_iast (ws' := [ob x 7 (rf ad v), ia G (ad 0) 29 (fN (va_up W k (K k))), ia G (ad 9) 232 (fN U), ia G (ad 16) 261 (fN K)]) hX 1 (j := k) rfl (by omega) (by decide) (updN _ _ _) rfl dX7_restore_29 ?_
        refine z_iinc (v := (nI (k + 1))) (L' := [(1, .int (nI (k + 1))), (0, .ref x)]) hX 1 dX7_restore_30 rfl (nI_inc _) (Nat.le_of_ble_eq_true rfl) rfl ?_
        refine z_goto (tgt := 12) hX dX7_restore_33 (by decide) ?_
        refine z_lsub [1, 0] rfl ?_
        exact ih12 (k + 1) (va_up W k (K k)) (by omega) (by omega) (fun i9 h9 => by
              by_cases e9 : i9 = k
              · subst e9; rw [up_eq]; exact h1 i9 (by omega)
              · rw [up_ne e9]; exact hW i9 (by omega))
  refine z_lsub [1, 0] rfl ?_
  exact lp12 30 0 s (by omega) (by omega) (fun i9 h9 => absurd h9 (by omega))
set_option maxRecDepth 100000 in
set_option maxHeartbeats 4000000 in
theorem c_X7_why (l : Launch) (G : zG) (x : Nat) (ad : Nat → Nat) (v : Nat → Nat) (s : nst) (lq : nst) (lz : nst) (sh : Nat) (ll : Int32) (i0 : Int32) (nn : Int32) (h0 : ∀ j, j < 4 → lq j ≤ 4) (h1 : ∀ j, j < 4 → lz j ≤ 24) (h2 : sh < 4) : zMi l G yX7_why cX7_why 5 .int 0 0 0 0 [.ref x, .int (nI sh), .int ll, .int i0, .int nn] [ob x 7 (rf ad v), ia G (ad 0) 29 (fN s), ia G (ad 19) 4 (fun j => ln (lq j)), ia G (ad 20) 4 (fN lz)] (fun (r : Int32) (_u : Unit) => r = faultI (lq sh) (lz sh) ll i0 nn) (fun (_u : Unit) => [ob x 7 (rf ad v), ia G (ad 0) 29 (fN s), ia G (ad 19) 4 (fun j => ln (lq j)), ia G (ad 20) 4 (fN lz)]) := by
  refine zMi.of (by decide) rfl (fun X A H0 hX hXl hR => ?_)
  show Z (X, G, A, H0, 5) 0 0 [ob x 7 (rf ad v), ia G (ad 0) 29 (fN s), ia G (ad 19) 4 (fun j => ln (lq j)), ia G (ad 20) 4 (fN lz)] 0 [(0, .ref x), (1, .int (nI sh)), (2, .int ll), (3, .int i0), (4, .int nn)] []
  subst hXl
  refine z_aload_n hX 0 dX7_why_0 rfl ?_
  refine z_get (v := .ref (ad 19)) hX fX7 0 19 rfl rfl (Nat.le_of_ble_eq_true rfl) fl_X7_31 rfl dX7_why_1 ?_
  refine z_iload_n hX 1 dX7_why_4 rfl ?_
  refine z_iald (v := (ln (lq sh))) hX 2 (j := sh) rfl (by omega) (by decide) rfl dX7_why_5 ?_
  refine z_if_ge (tgt := 12) hX dX7_why_6 (by decide) (fun c6 => ?_) (fun c6 => ?_)
  · rw [← Int32.not_lt, ln_lt (h0 _ h2)] at c6
    refine z_aload_n hX 0 dX7_why_12 rfl ?_
    refine z_get (v := .ref (ad 19)) hX fX7 0 19 rfl rfl (Nat.le_of_ble_eq_true rfl) fl_X7_31 rfl dX7_why_13 ?_
    refine z_iload_n hX 1 dX7_why_16 rfl ?_
    refine z_iald (v := (ln (lq sh))) hX 2 (j := sh) rfl (by omega) (by decide) rfl dX7_why_17 ?_
    refine z_iload_n hX 2 dX7_why_18 rfl ?_
    refine z_icmp_eq (tgt := 25) hX dX7_why_19 (by decide) (fun c19 => ?_) (fun c19 => ?_)
    · skip
      refine z_iload_n hX 3 dX7_why_25 rfl ?_
      refine z_if_lt (tgt := 51) hX dX7_why_26 (by decide) (fun c26 => ?_) (fun c26 => ?_)
      · skip
        refine z_bipush (v := (-13)) hX dX7_why_51 (by decide) ?_
        refine z_goto (tgt := 57) hX dX7_why_53 (by decide) ?_
        exact hR _ () _ _ (by unfold faultI; rw [if_neg c6, if_neg (fun z9 => z9 c19.symm), if_neg (by first | exact fits_neg (Or.inl c26) | exact fits_neg (Or.inr c31) | exact fun z9 => c48 ((fits_nn hi0 hnn).1 z9))]) dX7_why_57 rfl
      · skip
        refine z_iload hX 4 dX7_why_29 rfl ?_
        refine z_if_lt (tgt := 51) hX dX7_why_31 (by decide) (fun c31 => ?_) (fun c31 => ?_)
        · skip
          refine z_bipush (v := (-13)) hX dX7_why_51 (by decide) ?_
          refine z_goto (tgt := 57) hX dX7_why_53 (by decide) ?_
          exact hR _ () _ _ (by unfold faultI; rw [if_neg c6, if_neg (fun z9 => z9 c19.symm), if_neg (by first | exact fits_neg (Or.inl c26) | exact fits_neg (Or.inr c31) | exact fun z9 => c48 ((fits_nn hi0 hnn).1 z9))]) dX7_why_57 rfl
        · skip
          obtain ⟨i0j, hi0, rfl⟩ := nI_of c26
          obtain ⟨nnj, hnn, rfl⟩ := nI_of c31
          have z24 := h1 sh h2
          refine z_iload_n hX 3 dX7_why_34 rfl ?_
          refine z_i2l (v := (lN i0j)) hX dX7_why_35 (nI_l (by omega)) ?_
          refine z_iload hX 4 dX7_why_36 rfl ?_
          refine z_i2l (v := (lN nnj)) hX dX7_why_38 (nI_l (by omega)) ?_
          refine z_ladd (v := (lN (i0j + nnj))) hX dX7_why_39 (lN_add _ _) ?_
          refine z_aload_n hX 0 dX7_why_40 rfl ?_
          refine z_get (v := .ref (ad 20)) hX fX7 0 20 rfl rfl (Nat.le_of_ble_eq_true rfl) fl_X7_34 rfl dX7_why_41 ?_
          refine z_iload_n hX 1 dX7_why_44 rfl ?_
          refine z_iald (v := (nI (lz sh))) hX 3 (j := sh) rfl (by omega) (by decide) rfl dX7_why_45 ?_
          refine z_i2l (v := (lN (lz sh))) hX dX7_why_46 (nI_l (by omega)) ?_
          refine z_lcmp hX dX7_why_47 ?_
          refine z_if_le (tgt := 56) hX dX7_why_48 (by decide) (fun c48 => ?_) (fun c48 => ?_)
          · rw [lc_le (by omega) (by omega)] at c48
            refine z_iconst (v := nI 0) hX dX7_why_56 (by decide) ?_
            exact hR _ () _ _ (by unfold faultI; rw [if_neg c6, if_neg (fun z9 => z9 c19.symm), if_pos ((fits_nn hi0 hnn).2 c48)]; rfl) dX7_why_57 rfl
          · rw [lc_le (by omega) (by omega)] at c48
            refine z_bipush (v := (-13)) hX dX7_why_51 (by decide) ?_
            refine z_goto (tgt := 57) hX dX7_why_53 (by decide) ?_
            exact hR _ () _ _ (by unfold faultI; rw [if_neg c6, if_neg (fun z9 => z9 c19.symm), if_neg (by first | exact fits_neg (Or.inl c26) | exact fits_neg (Or.inr c31) | exact fun z9 => c48 ((fits_nn hi0 hnn).1 z9))]) dX7_why_57 rfl
    · skip
      refine z_bipush (v := (-12)) hX dX7_why_22 (by decide) ?_
      exact hR _ () _ _ (by unfold faultI; rw [if_neg c6, if_pos (fun z9 => c19 z9.symm)]) dX7_why_24 rfl
  · rw [Int32.not_le, ln_lt (h0 _ h2)] at c6
    refine z_bipush (v := (-11)) hX dX7_why_9 (by decide) ?_
    exact hR _ () _ _ (by unfold faultI; rw [if_pos c6]) dX7_why_11 rfl
set_option maxRecDepth 100000 in
set_option maxHeartbeats 4000000 in
theorem c_X7_isSo (l : Launch) (G : zG) (x : Nat) (ad : Nat → Nat) (v : Nat → Nat) (s : nst) (t : nst) (It : Nat → Int64) (ar : Nat) (fr : Nat) (m : Nat) (Q : Nat → Int64) (h0 : WF 9999 0 s) (h1 : ar < 4) (h2 : fr + m ≤ 96) (h3 : m ≤ 24) (h4 : ∀ k, k < m → Q k = It (fr + k)) : zMi l G yX7_isSo cX7_isSo 6 .boolean 4 0 0 88 [.ref x, .int (nI ar), .int (nI fr), .int (nI m)] [ob x 7 (rf ad v), ia G (ad 0) 29 (fN s), ia G (ad 11) 29 (fN t), la G (ad 21) 96 It] (fun (r : Int32) (_u : nst) => (zb (showB s ar Q m = true) r) ∧ _u 3 = v 3 ∧ _u 10 = v 10 ∧ _u 17 = v 17 ∧ _u 18 = v 18) (fun (_u : nst) => [ob x 7 (rf ad _u), ia G (ad 0) 29 (fN t), ia G (ad 11) 29 (fN t), la G (ad 21) 96 It]) := by
  refine zMi.of (by decide) rfl (fun X A H0 hX hXl hR => ?_)
  show Z (X, G, A, H0, 6) 0 0 [ob x 7 (rf ad v), ia G (ad 0) 29 (fN s), ia G (ad 11) 29 (fN t), la G (ad 21) 96 It] 0 [(0, .ref x), (1, .int (nI ar)), (2, .int (nI fr)), (3, .int (nI m))] []
  subst hXl
  refine z_iconst (v := nI 1) hX dX7_isSo_0 (by decide) ?_
  refine z_istore (L' := [(4, .int (nI 1)), (0, .ref x), (1, .int (nI ar)), (2, .int (nI fr)), (3, .int (nI m))]) hX dX7_isSo_1 (Nat.le_of_ble_eq_true rfl) rfl ?_
  refine z_iconst (v := nI 0) hX dX7_isSo_3 (by decide) ?_
  refine z_istore (L' := [(5, .int (nI 0)), (4, .int (nI 1)), (0, .ref x), (1, .int (nI ar)), (2, .int (nI fr)), (3, .int (nI m))]) hX dX7_isSo_4 (Nat.le_of_ble_eq_true rfl) rfl ?_
  have lp6 : ∀ (n6 : Nat) (k : Nat) (b : Nat) (f : Nat), (m + 1 ≤ k + n6) → (k ≤ m) → ((if showB s ar Q k = true then 1 else 0) = b) → Z (X, G, A, H0, 6) 0 0 [ob x 7 (rf ad (va_up v 1 f)), ia G (ad 0) 29 (fN (goN k s)), ia G (ad 11) 29 (fN t), la G (ad 21) 96 It] 6 [(0, .ref x), (1, .int (nI ar)), (2, .int (nI fr)), (3, .int (nI m)), (4, .int (nI b)), (5, .int (nI k))] [] := by
    intro n6
    induction n6 with
    | zero =>
      intro k b f hn hk hb
      exfalso
      omega
    | succ n6 ih6 =>
      intro k b f hn hk hb
      have hb1 : b < 2 := by rw [← hb]; split <;> decide
      have wk := goN_WF h0 k
      have w4 := (goN_WF h0 (k + 1)).2.2.2.2.2.1 ar h1
      refine z_iload hX 5 dX7_isSo_6 rfl ?_
      refine z_iload_n hX 3 dX7_isSo_8 rfl ?_
      refine zn_icmp_ge (tgt := 57) hX dX7_isSo_9 (by decide) (by omega) (by omega) (fun c9 => ?_) (fun c9 => ?_)
      · skip
        refine z_aload_n hX 0 dX7_isSo_57 rfl ?_
        refine z_callVv (st := []) hX (c_X7_backs _ G x ad (va_up v 1 f) (goN k s) t ) lb_X7_backs ml_X7_174 (fun (_u : Unit) => [ob x 7 (rf ad (va_up v 1 f)), ia G (ad 0) 29 (fN t), ia G (ad 11) 29 (fN t), la G (ad 21) 96 It]) (wr := [la G (ad 21) 96 It]) [0, 1, 2] [3] [1, 2, 3, 0] ⟨rfl, rfl, rfl, fun _ => rfl⟩ 0 rfl rfl rfl rfl ⟨Nat.le_refl _, Nat.le_refl _⟩ dX7_isSo_58 rfl (fun  u58 hw58 => ?_)
        refine z_iload hX 4 dX7_isSo_61 rfl ?_
        have ek : k = m := by omega
        subst ek
        exact hR _ (va_up v 1 f) _ _ ⟨⟨fun z9 => by rw [← hb, if_pos z9], fun z9 => by rw [← hb, if_neg z9]⟩, rfl, rfl, rfl, rfl⟩ dX7_isSo_63 (by rcases (show b = 0 ∨ b = 1 by omega) with rfl | rfl <;> rfl)
      · skip
        refine z_aload_n hX 0 dX7_isSo_12 rfl ?_
        refine z_callVv (st := []) hX (c_X7_goesBy _ G x ad (va_up v 1 f) (goN k s) (9999 + k) wk (by omega)) lb_X7_goesBy ml_X7_83 (fun (_u : Unit) => [ob x 7 (rf ad (va_up (va_up v 1 f) 1 (goFall (goN k s)))), ia G (ad 0) 29 (fN (goBy (goN k s))), ia G (ad 11) 29 (fN t), la G (ad 21) 96 It]) (wr := [ia G (ad 11) 29 (fN t), la G (ad 21) 96 It]) [0, 1] [2, 3] [2, 3, 0, 1] ⟨rfl, rfl, rfl, fun _ => rfl⟩ 0 rfl rfl rfl rfl ⟨Nat.le_refl _, Nat.le_refl _⟩ dX7_isSo_13 rfl (fun  u13 hw13 => ?_)
        refine z_eq (ws' := [ob x 7 (rf ad (va_up (va_up v 1 f) 1 (goFall (goN k s)))), ia G (ad 0) 29 (fN (goN (k + 1) s)), ia G (ad 11) 29 (fN t), la G (ad 21) 96 It]) rfl ?_
        refine z_iload hX 4 dX7_isSo_16 rfl ?_
        refine zn_if_eq (tgt := 48) hX dX7_isSo_18 (by decide) (by omega) (fun c18 => ?_) (fun c18 => ?_)
        · skip
          refine z_iconst (v := nI 0) hX dX7_isSo_48 (by decide) ?_
          refine z_istore (L' := [(4, .int (nI 0)), (0, .ref x), (1, .int (nI ar)), (2, .int (nI fr)), (3, .int (nI m)), (5, .int (nI k))]) hX dX7_isSo_49 (Nat.le_of_ble_eq_true rfl) rfl ?_
          refine z_iinc (v := (nI (k + 1))) (L' := [(5, .int (nI (k + 1))), (4, .int (nI 0)), (0, .ref x), (1, .int (nI ar)), (2, .int (nI fr)), (3, .int (nI m))]) hX 5 dX7_isSo_51 rfl (nI_inc _) (Nat.le_of_ble_eq_true rfl) rfl ?_
          refine z_goto (tgt := 6) hX dX7_isSo_54 (by decide) ?_
          refine z_lsub [2, 3, 4, 5, 1, 0] rfl ?_
          exact ih6 (k + 1) 0 (goFall (goN k s)) (by omega) (by omega) (by first | exact (showB_st hb).1 c18 | exact (showB_st hb).2.1 c18 (c41.trans (h4 k (by omega)).symm) | exact (showB_st hb).2.2 (fun z9 => c41 (z9.trans (h4 k (by omega)))))
        · skip
          refine z_aload_n hX 0 dX7_isSo_21 rfl ?_
          refine z_get (v := .ref (ad 0)) hX fX7 0 0 rfl rfl (Nat.le_of_ble_eq_true rfl) fl_X7_7 rfl dX7_isSo_22 ?_
          refine z_bipush (v := nI 7) hX dX7_isSo_25 (by decide) ?_
          refine z_iload_n hX 1 dX7_isSo_27 rfl ?_
          refine z_iadd (v := (nI (7 + ar))) hX dX7_isSo_28 (nI_add _ _) ?_
          refine z_iald (v := (nI ((goN (k + 1) s) (7 + ar)))) hX 1 (j := (7 + ar)) rfl (by omega) (by decide) rfl dX7_isSo_29 ?_
          refine z_i2l (v := (lN (goN (k + 1) s (7 + ar)))) hX dX7_isSo_30 (nI_l (by omega)) ?_
          refine z_aload_n hX 0 dX7_isSo_31 rfl ?_
          refine z_get (v := .ref (ad 21)) hX fX7 0 21 rfl rfl (Nat.le_of_ble_eq_true rfl) fl_X7_37 rfl dX7_isSo_32 ?_
          refine z_iload_n hX 2 dX7_isSo_35 rfl ?_
          refine z_iload hX 5 dX7_isSo_36 rfl ?_
          refine z_iadd (v := (nI (fr + k))) hX dX7_isSo_38 (nI_add _ _) ?_
          refine z_lald (v := (It (fr + k))) hX 3 (j := (fr + k)) rfl (by omega) (by decide) rfl dX7_isSo_39 ?_
          refine z_lcmp hX dX7_isSo_40 ?_
          refine z_if_ne (tgt := 48) hX dX7_isSo_41 (by decide) (fun c41 => ?_) (fun c41 => ?_)
          · simp only [ne_eq, lg_cmp_eq] at c41
            refine z_iconst (v := nI 0) hX dX7_isSo_48 (by decide) ?_
            refine z_istore (L' := [(4, .int (nI 0)), (0, .ref x), (1, .int (nI ar)), (2, .int (nI fr)), (3, .int (nI m)), (5, .int (nI k))]) hX dX7_isSo_49 (Nat.le_of_ble_eq_true rfl) rfl ?_
            refine z_iinc (v := (nI (k + 1))) (L' := [(5, .int (nI (k + 1))), (4, .int (nI 0)), (0, .ref x), (1, .int (nI ar)), (2, .int (nI fr)), (3, .int (nI m))]) hX 5 dX7_isSo_51 rfl (nI_inc _) (Nat.le_of_ble_eq_true rfl) rfl ?_
            refine z_goto (tgt := 6) hX dX7_isSo_54 (by decide) ?_
            refine z_lsub [2, 3, 4, 5, 1, 0] rfl ?_
            exact ih6 (k + 1) 0 (goFall (goN k s)) (by omega) (by omega) (by first | exact (showB_st hb).1 c18 | exact (showB_st hb).2.1 c18 (c41.trans (h4 k (by omega)).symm) | exact (showB_st hb).2.2 (fun z9 => c41 (z9.trans (h4 k (by omega)))))
          · simp only [ne_eq, Decidable.not_not, lg_cmp_eq] at c41
            refine z_iconst (v := nI 1) hX dX7_isSo_44 (by decide) ?_
            refine z_goto (tgt := 49) hX dX7_isSo_45 (by decide) ?_
            refine z_istore (L' := [(4, .int (nI 1)), (0, .ref x), (1, .int (nI ar)), (2, .int (nI fr)), (3, .int (nI m)), (5, .int (nI k))]) hX dX7_isSo_49 (Nat.le_of_ble_eq_true rfl) rfl ?_
            refine z_iinc (v := (nI (k + 1))) (L' := [(5, .int (nI (k + 1))), (4, .int (nI 1)), (0, .ref x), (1, .int (nI ar)), (2, .int (nI fr)), (3, .int (nI m))]) hX 5 dX7_isSo_51 rfl (nI_inc _) (Nat.le_of_ble_eq_true rfl) rfl ?_
            refine z_goto (tgt := 6) hX dX7_isSo_54 (by decide) ?_
            refine z_lsub [2, 3, 4, 5, 1, 0] rfl ?_
            exact ih6 (k + 1) 1 (goFall (goN k s)) (by omega) (by omega) (by first | exact (showB_st hb).1 c18 | exact (showB_st hb).2.1 c18 (c41.trans (h4 k (by omega)).symm) | exact (showB_st hb).2.2 (fun z9 => c41 (z9.trans (h4 k (by omega)))))
  refine z_lsub [2, 3, 4, 5, 1, 0] rfl ?_
  exact lp6 (m + 1) 0 1 (v 1) (by omega) (by omega) rfl
set_option maxRecDepth 100000 in
set_option maxHeartbeats 4000000 in
theorem c_X7_sheet (l : Launch) (G : zG) (x : Nat) (ad : Nat → Nat) (v : Nat → Nat) (s : nst) (lq : nst) (lz : nst) (It : Nat → Int64) (sh0 : Int32) (la0 : Int32) (nn : Int32)  : zMi l G yX7_sheet cX7_sheet 5 .int 2 0 0 45 [.ref x, .int sh0, .int la0, .int nn] [ob x 7 (rf ad v), ia G (ad 0) 29 (fN s), ia G (ad 19) 4 (fun j => ln (lq j)), ia G (ad 20) 4 (fN lz), la G (ad 21) 96 It] (fun (r : Int32) (_u : Unit) => r = spSheet sh0 la0 nn) (fun (_u : Unit) => [ob x 7 (rf ad v), ia G (ad 0) 29 (fN s), ia G (ad 19) 4 (fun j => ln ((cond (okSheet sh0 la0 nn) (va_up lq (gN sh0) (gN la0 + 1)) (lq)) j)), ia G (ad 20) 4 (fN (cond (okSheet sh0 la0 nn) (va_up lz (gN sh0) (gN nn)) (lz))), la G (ad 21) 96 (cond (okSheet sh0 la0 nn) (zI It (24 * gN sh0) 24) (It))]) := by
  refine zMi.of (by decide) rfl (fun X A H0 hX hXl hR => ?_)
  show Z (X, G, A, H0, 5) 0 0 [ob x 7 (rf ad v), ia G (ad 0) 29 (fN s), ia G (ad 19) 4 (fun j => ln (lq j)), ia G (ad 20) 4 (fN lz), la G (ad 21) 96 It] 0 [(0, .ref x), (1, .int sh0), (2, .int la0), (3, .int nn)] []
  subst hXl
  refine z_iload_n hX 1 dX7_sheet_0 rfl ?_
  refine z_callSi (st := []) hX (c_X7_isSheet _ G sh0 ) lb_X7_isSheet ml_X7_209 (fun (_u : Unit) => [ob x 7 (rf ad v), ia G (ad 0) 29 (fN s), ia G (ad 19) 4 (fun j => ln (lq j)), ia G (ad 20) 4 (fN lz), la G (ad 21) 96 It]) (wr := [ob x 7 (rf ad v), ia G (ad 0) 29 (fN s), ia G (ad 19) 4 (fun j => ln (lq j)), ia G (ad 20) 4 (fN lz), la G (ad 21) 96 It]) [] [0, 1, 2, 3, 4] [0, 1, 2, 3, 4] ⟨rfl, rfl, rfl, fun _ => rfl⟩ rfl rfl ⟨Nat.le_refl _, Nat.le_refl _⟩ dX7_sheet_1 rfl (fun r1 u1 hw1 => ?_)
  try dsimp only at hw1
  rcases hw1 with ⟨sh0j, hsh0l, hsh0h, rfl, rfl⟩ | ⟨hw1, rfl⟩
  · skip
    refine zn_if_eq (tgt := 20) hX dX7_sheet_4 (by decide) (by omega) (fun c4 => absurd c4 (by omega)) (fun _ => ?_)
    refine z_iload_n hX 2 dX7_sheet_7 rfl ?_
    refine z_callSi (st := []) hX (c_X7_isLane _ G la0 ) lb_X7_isLane ml_X7_212 (fun (_u : Unit) => [ob x 7 (rf ad v), ia G (ad 0) 29 (fN s), ia G (ad 19) 4 (fun j => ln (lq j)), ia G (ad 20) 4 (fN lz), la G (ad 21) 96 It]) (wr := [ob x 7 (rf ad v), ia G (ad 0) 29 (fN s), ia G (ad 19) 4 (fun j => ln (lq j)), ia G (ad 20) 4 (fN lz), la G (ad 21) 96 It]) [] [0, 1, 2, 3, 4] [0, 1, 2, 3, 4] ⟨rfl, rfl, rfl, fun _ => rfl⟩ rfl rfl ⟨Nat.le_refl _, Nat.le_refl _⟩ dX7_sheet_8 rfl (fun r8 u8 hw8 => ?_)
    try dsimp only at hw8
    rcases hw8 with ⟨la0j, hla0l, hla0h, rfl, rfl⟩ | ⟨hw8, rfl⟩
    · skip
      refine zn_if_eq (tgt := 20) hX dX7_sheet_11 (by decide) (by omega) (fun c11 => absurd c11 (by omega)) (fun _ => ?_)
      refine z_iload_n hX 3 dX7_sheet_14 rfl ?_
      refine z_bipush (v := nI 24) hX dX7_sheet_15 (by decide) ?_
      refine z_icmp_le (tgt := 22) hX dX7_sheet_17 (by decide) (fun c17 => ?_) (fun c17 => ?_)
      · have c9 : ¬ nI 24 < nn := by rw [Int32.not_lt]; exact c17
        refine z_iload_n hX 3 dX7_sheet_22 rfl ?_
        refine z_if_ge (tgt := 29) hX dX7_sheet_23 (by decide) (fun c23 => ?_) (fun c23 => ?_)
        · have c8 : ¬ nn < 0 := by rw [Int32.not_lt]; exact c23
          obtain ⟨nnj, hnn, rfl⟩ := nI_of c8
          have hn24 : nnj ≤ 24 := by rw [nI_ltI (by omega) hnn] at c9; omega
          refine z_aload_n hX 0 dX7_sheet_29 rfl ?_
          refine z_get (v := .ref (ad 19)) hX fX7 0 19 rfl rfl (Nat.le_of_ble_eq_true rfl) fl_X7_31 rfl dX7_sheet_30 ?_
          refine z_iload_n hX 1 dX7_sheet_33 rfl ?_
          refine z_iload_n hX 2 dX7_sheet_34 rfl ?_
          refine z_iast (ws' := [ob x 7 (rf ad v), ia G (ad 0) 29 (fN s), ia G (ad 19) 4 (fun j => ln ((va_up lq sh0j (la0j + 1)) j)), ia G (ad 20) 4 (fN lz), la G (ad 21) 96 It]) hX 2 (j := sh0j) rfl (by omega) (by decide) (lnup _ _ _) rfl dX7_sheet_35 ?_
          refine z_aload_n hX 0 dX7_sheet_36 rfl ?_
          refine z_get (v := .ref (ad 20)) hX fX7 0 20 rfl rfl (Nat.le_of_ble_eq_true rfl) fl_X7_34 rfl dX7_sheet_37 ?_
          refine z_iload_n hX 1 dX7_sheet_40 rfl ?_
          refine z_iload_n hX 3 dX7_sheet_41 rfl ?_
          refine z_iast (ws' := [ob x 7 (rf ad v), ia G (ad 0) 29 (fN s), ia G (ad 19) 4 (fun j => ln ((va_up lq sh0j (la0j + 1)) j)), ia G (ad 20) 4 (fN (va_up lz sh0j nnj)), la G (ad 21) 96 It]) hX 3 (j := sh0j) rfl (by omega) (by decide) (updN _ _ _) rfl dX7_sheet_42 ?_
          refine z_iconst (v := nI 0) hX dX7_sheet_43 (by decide) ?_
          refine z_eq (ws' := [ob x 7 (rf ad v), ia G (ad 0) 29 (fN s), ia G (ad 19) 4 (fun j => ln ((va_up lq sh0j (la0j + 1)) j)), ia G (ad 20) 4 (fN (va_up lz sh0j nnj)), la G (ad 21) 96 (zI It (24 * sh0j) 0)]) (by rw [zI_0]) ?_
          refine z_istore (L' := [(4, .int (nI 0)), (0, .ref x), (1, .int (nI sh0j)), (2, .int (nI la0j)), (3, .int (nI nnj))]) hX dX7_sheet_44 (Nat.le_of_ble_eq_true rfl) rfl ?_
          have lp46 : ∀ (n46 : Nat) (k : Nat), (24 + 1 ≤ k + n46) → (k ≤ 24) → Z (X, G, A, H0, 5) 0 0 [ob x 7 (rf ad v), ia G (ad 0) 29 (fN s), ia G (ad 19) 4 (fun j => ln ((va_up lq sh0j (la0j + 1)) j)), ia G (ad 20) 4 (fN (va_up lz sh0j nnj)), la G (ad 21) 96 (zI It (24 * sh0j) k)] 46 [(0, .ref x), (1, .int (nI sh0j)), (2, .int (nI la0j)), (3, .int (nI nnj)), (4, .int (nI k))] [] := by
            intro n46
            induction n46 with
            | zero =>
              intro k hn hk
              exfalso
              omega
            | succ n46 ih46 =>
              intro k hn hk
              refine z_iload hX 4 dX7_sheet_46 rfl ?_
              refine z_bipush (v := nI 24) hX dX7_sheet_48 (by decide) ?_
              refine zn_icmp_ge (tgt := 72) hX dX7_sheet_50 (by decide) (by omega) (by omega) (fun c50 => ?_) (fun c50 => ?_)
              · skip
                refine z_iload_n hX 3 dX7_sheet_72 rfl ?_
                have ek : k = 24 := by omega
                subst ek
                have e0 : okSheet (nI sh0j) (nI la0j) (nI nnj) = true := by unfold okSheet okPl; rw [inb_t (by omega) (by omega) (by omega), inb_t (by omega) (by omega) (by omega)]; simp [c9, c8]
                rw [e0, gN_nI (show sh0j < 2147483648 by omega), gN_nI (show la0j < 2147483648 by omega), gN_nI (show nnj < 2147483648 by omega)] at hR
                exact hR _ () _ _ (by unfold spSheet; rw [if_pos ⟨(by unfold okPl; rw [inb_t (by omega) (by omega) (by omega), inb_t (by omega) (by omega) (by omega)]; rfl), c9⟩, if_neg c8]) dX7_sheet_73 rfl
              · skip
                refine z_aload_n hX 0 dX7_sheet_53 rfl ?_
                refine z_get (v := .ref (ad 21)) hX fX7 0 21 rfl rfl (Nat.le_of_ble_eq_true rfl) fl_X7_37 rfl dX7_sheet_54 ?_
                refine z_bipush (v := nI 24) hX dX7_sheet_57 (by decide) ?_
                refine z_iload_n hX 1 dX7_sheet_59 rfl ?_
                refine z_imul (v := (nI (24 * sh0j))) hX dX7_sheet_60 (pk_mul _ _) ?_
                refine z_iload hX 4 dX7_sheet_61 rfl ?_
                refine z_iadd (v := (nI (24 * sh0j + k))) hX dX7_sheet_63 (nI_add _ _) ?_
                refine z_lconst (v := lN 0) hX dX7_sheet_64 (by decide) ?_
                refine z_last (ws' := [ob x 7 (rf ad v), ia G (ad 0) 29 (fN s), ia G (ad 19) 4 (fun j => ln ((va_up lq sh0j (la0j + 1)) j)), ia G (ad 20) 4 (fN (va_up lz sh0j nnj)), la G (ad 21) 96 (zI It (24 * sh0j) (k + 1))]) hX 4 (j := (24 * sh0j + k)) rfl (by omega) (by decide) (zI_up _ _ _) rfl dX7_sheet_65 ?_
                refine z_iinc (v := (nI (k + 1))) (L' := [(4, .int (nI (k + 1))), (0, .ref x), (1, .int (nI sh0j)), (2, .int (nI la0j)), (3, .int (nI nnj))]) hX 4 dX7_sheet_66 rfl (nI_inc _) (Nat.le_of_ble_eq_true rfl) rfl ?_
                refine z_goto (tgt := 46) hX dX7_sheet_69 (by decide) ?_
                refine z_lsub [1, 2, 3, 4, 0] rfl ?_
                exact ih46 (k + 1) (by omega) (by omega)
          refine z_lsub [1, 2, 3, 4, 0] rfl ?_
          exact lp46 25 0 (by omega) (by omega)
        · have c8 : nn < 0 := by rw [← Int32.not_le]; exact c23
          refine z_bipush (v := (-14)) hX dX7_sheet_26 (by decide) ?_
          have e0 : okSheet (nI sh0j) (nI la0j) nn = false := by unfold okSheet; simp [c8]
          rw [e0] at hR
          exact hR _ () _ _ (by unfold spSheet; rw [if_pos ⟨(by unfold okPl; rw [inb_t (by omega) (by omega) (by omega), inb_t (by omega) (by omega) (by omega)]; rfl), c9⟩, if_pos c8]) dX7_sheet_28 rfl
      · have c9 : nI 24 < nn := by rw [← Int32.not_le]; exact c17
        refine z_iconst (v := (-1)) hX dX7_sheet_20 (by decide) ?_
        have e0 : okSheet (nI sh0j) (nI la0j) nn = false := by unfold okSheet; simp [c9]
        rw [e0] at hR
        exact hR _ () _ _ (by unfold spSheet; rw [if_neg (fun z9 => z9.2 c9)]) dX7_sheet_21 rfl
    · have hb_la0 : inb la0 0 3 = false := hw8
      refine zn_if_eq (tgt := 20) hX dX7_sheet_11 (by decide) (by omega) (fun _ => ?_) (fun c11 => absurd c11 (by omega))
      refine z_iconst (v := (-1)) hX dX7_sheet_20 (by decide) ?_
      have e0 : okSheet (nI sh0j) la0 nn = false := by unfold okSheet okPl; simp [hb_la0]
      rw [e0] at hR
      exact hR _ () _ _ (by unfold spSheet; rw [if_neg (by unfold okPl; simp [hb_la0])]) dX7_sheet_21 rfl
  · have hb_sh0 : inb sh0 0 3 = false := hw1
    refine zn_if_eq (tgt := 20) hX dX7_sheet_4 (by decide) (by omega) (fun _ => ?_) (fun c4 => absurd c4 (by omega))
    refine z_iconst (v := (-1)) hX dX7_sheet_20 (by decide) ?_
    have e0 : okSheet sh0 la0 nn = false := by unfold okSheet okPl; simp [hb_sh0]
    rw [e0] at hR
    exact hR _ () _ _ (by unfold spSheet; rw [if_neg (by unfold okPl; simp [hb_sh0])]) dX7_sheet_21 rfl
set_option maxRecDepth 100000 in
set_option maxHeartbeats 4000000 in
theorem c_X7_drop (l : Launch) (G : zG) (x : Nat) (ad : Nat → Nat) (v : Nat → Nat) (s : nst) (lq : nst) (lz : nst) (sh0 : Int32) (h0 : ∀ j, j < 4 → lq j ≤ 4) : zMi l G yX7_drop cX7_drop 2 .int 2 0 0 45 [.ref x, .int sh0] [ob x 7 (rf ad v), ia G (ad 0) 29 (fN s), ia G (ad 19) 4 (fun j => ln (lq j)), ia G (ad 20) 4 (fN lz)] (fun (r : Int32) (_u : Unit) => r = spDrop (lq (gN sh0)) (lz (gN sh0)) sh0) (fun (_u : Unit) => [ob x 7 (rf ad v), ia G (ad 0) 29 (fN s), ia G (ad 19) 4 (fun j => ln ((cond (inb sh0 0 3 && decide (¬ lq (gN sh0) = 0)) (va_up lq (gN sh0) 0) (lq)) j)), ia G (ad 20) 4 (fN lz)]) := by
  refine zMi.of (by decide) rfl (fun X A H0 hX hXl hR => ?_)
  show Z (X, G, A, H0, 2) 0 0 [ob x 7 (rf ad v), ia G (ad 0) 29 (fN s), ia G (ad 19) 4 (fun j => ln (lq j)), ia G (ad 20) 4 (fN lz)] 0 [(0, .ref x), (1, .int sh0)] []
  subst hXl
  refine z_iload_n hX 1 dX7_drop_0 rfl ?_
  refine z_callSi (st := []) hX (c_X7_isSheet _ G sh0 ) lb_X7_isSheet ml_X7_209 (fun (_u : Unit) => [ob x 7 (rf ad v), ia G (ad 0) 29 (fN s), ia G (ad 19) 4 (fun j => ln (lq j)), ia G (ad 20) 4 (fN lz)]) (wr := [ob x 7 (rf ad v), ia G (ad 0) 29 (fN s), ia G (ad 19) 4 (fun j => ln (lq j)), ia G (ad 20) 4 (fN lz)]) [] [0, 1, 2, 3] [0, 1, 2, 3] ⟨rfl, rfl, rfl, fun _ => rfl⟩ rfl rfl ⟨Nat.le_refl _, Nat.le_refl _⟩ dX7_drop_1 rfl (fun r1 u1 hw1 => ?_)
  try dsimp only at hw1
  rcases hw1 with ⟨sh0j, hsh0l, hsh0h, rfl, rfl⟩ | ⟨hw1, rfl⟩
  · skip
    refine zn_if_ne (tgt := 9) hX dX7_drop_4 (by decide) (by omega) (fun _ => ?_) (fun c4 => absurd c4 (by omega))
    refine z_aload_n hX 0 dX7_drop_9 rfl ?_
    refine z_get (v := .ref (ad 19)) hX fX7 0 19 rfl rfl (Nat.le_of_ble_eq_true rfl) fl_X7_31 rfl dX7_drop_10 ?_
    refine z_iload_n hX 1 dX7_drop_13 rfl ?_
    refine z_iald (v := (ln (lq sh0j))) hX 2 (j := sh0j) rfl (by omega) (by decide) rfl dX7_drop_14 ?_
    refine z_if_ge (tgt := 21) hX dX7_drop_15 (by decide) (fun c15 => ?_) (fun c15 => ?_)
    · rw [← Int32.not_lt, ln_lt (h0 _ (by omega))] at c15
      refine z_aload_n hX 0 dX7_drop_21 rfl ?_
      refine z_get (v := .ref (ad 19)) hX fX7 0 19 rfl rfl (Nat.le_of_ble_eq_true rfl) fl_X7_31 rfl dX7_drop_22 ?_
      refine z_iload_n hX 1 dX7_drop_25 rfl ?_
      refine z_iconst (v := (-1)) hX dX7_drop_26 (by decide) ?_
      refine z_iast (ws' := [ob x 7 (rf ad v), ia G (ad 0) 29 (fN s), ia G (ad 19) 4 (fun j => ln ((va_up lq sh0j 0) j)), ia G (ad 20) 4 (fN lz)]) hX 2 (j := sh0j) rfl (by omega) (by decide) (lnup0 _ _) rfl dX7_drop_27 ?_
      refine z_aload_n hX 0 dX7_drop_28 rfl ?_
      refine z_get (v := .ref (ad 20)) hX fX7 0 20 rfl rfl (Nat.le_of_ble_eq_true rfl) fl_X7_34 rfl dX7_drop_29 ?_
      refine z_iload_n hX 1 dX7_drop_32 rfl ?_
      refine z_iald (v := (nI (lz sh0j))) hX 3 (j := sh0j) rfl (by omega) (by decide) rfl dX7_drop_33 ?_
      rw [inb_t (by omega) (by omega) (by omega), gN_nI (show sh0j < 2147483648 by omega), decide_eq_true c15] at hR
      exact hR _ () _ _ (by unfold spDrop; rw [if_pos (inb_t (by omega) (by omega) (by omega)), if_neg c15]) dX7_drop_34 rfl
    · rw [Int32.not_le, ln_lt (h0 _ (by omega))] at c15
      refine z_bipush (v := (-11)) hX dX7_drop_18 (by decide) ?_
      rw [inb_t (by omega) (by omega) (by omega), gN_nI (show sh0j < 2147483648 by omega), decide_eq_false (fun z9 => z9 c15)] at hR
      exact hR _ () _ _ (by unfold spDrop; rw [if_pos (inb_t (by omega) (by omega) (by omega)), if_pos c15]) dX7_drop_20 rfl
  · have hb_sh0 : inb sh0 0 3 = false := hw1
    refine zn_if_ne (tgt := 9) hX dX7_drop_4 (by decide) (by omega) (fun c4 => absurd c4 (by omega)) (fun _ => ?_)
    refine z_iconst (v := (-1)) hX dX7_drop_7 (by decide) ?_
    rw [hb_sh0] at hR
    exact hR _ () _ _ (by unfold spDrop; rw [if_neg (by simp [hb_sh0])]) dX7_drop_8 rfl
theorem faultI_ge {q z : Nat} {l x y : Int32} (h : 0 ≤ faultI q z l x y) : faultI q z l x y = 0 := by
  unfold faultI at h ⊢
  split
  · rename_i c
    rw [if_pos c] at h
    exact absurd h (by decide)
  · rename_i c
    rw [if_neg c] at h
    split
    · rename_i c2
      rw [if_pos c2] at h
      exact absurd h (by decide)
    · rename_i c2
      rw [if_neg c2] at h
      split
      · rfl
      · rename_i c3
        rw [if_neg c3] at h
        exact absurd h (by decide)
set_option maxRecDepth 100000 in
set_option maxHeartbeats 4000000 in
theorem c_X7_item (l : Launch) (G : zG) (x : Nat) (ad : Nat → Nat) (v : Nat → Nat) (s : nst) (lq : nst) (lz : nst) (It : Nat → Int64) (sh0 : Int32) (la0 : Int32) (i0 : Int32) (va : Int64) (h0 : ∀ j, j < 4 → lq j ≤ 4) (h1 : ∀ j, j < 4 → lz j ≤ 24) : zMi l G yX7_item cX7_item 7 .int 2 0 0 45 [.ref x, .int sh0, .int la0, .int i0, .long va] [ob x 7 (rf ad v), ia G (ad 0) 29 (fN s), ia G (ad 19) 4 (fun j => ln (lq j)), ia G (ad 20) 4 (fN lz), la G (ad 21) 96 It] (fun (r : Int32) (_u : Unit) => r = spItem (lq (gN sh0)) (lz (gN sh0)) sh0 la0 i0) (fun (_u : Unit) => [ob x 7 (rf ad v), ia G (ad 0) 29 (fN s), ia G (ad 19) 4 (fun j => ln (lq j)), ia G (ad 20) 4 (fN lz), la G (ad 21) 96 (cond (okPl sh0 la0 && decide (faultI (lq (gN sh0)) (lz (gN sh0)) la0 i0 (nI 1) = 0)) (vp_updL It (24 * gN sh0 + gN i0) (lowB (gN la0) va)) (It))]) := by
  refine zMi.of (by decide) rfl (fun X A H0 hX hXl hR => ?_)
  show Z (X, G, A, H0, 7) 0 0 [ob x 7 (rf ad v), ia G (ad 0) 29 (fN s), ia G (ad 19) 4 (fun j => ln (lq j)), ia G (ad 20) 4 (fN lz), la G (ad 21) 96 It] 0 [(0, .ref x), (1, .int sh0), (2, .int la0), (3, .int i0), (4, .long va)] []
  subst hXl
  refine z_iload_n hX 1 dX7_item_0 rfl ?_
  refine z_callSi (st := []) hX (c_X7_isSheet _ G sh0 ) lb_X7_isSheet ml_X7_209 (fun (_u : Unit) => [ob x 7 (rf ad v), ia G (ad 0) 29 (fN s), ia G (ad 19) 4 (fun j => ln (lq j)), ia G (ad 20) 4 (fN lz), la G (ad 21) 96 It]) (wr := [ob x 7 (rf ad v), ia G (ad 0) 29 (fN s), ia G (ad 19) 4 (fun j => ln (lq j)), ia G (ad 20) 4 (fN lz), la G (ad 21) 96 It]) [] [0, 1, 2, 3, 4] [0, 1, 2, 3, 4] ⟨rfl, rfl, rfl, fun _ => rfl⟩ rfl rfl ⟨Nat.le_refl _, Nat.le_refl _⟩ dX7_item_1 rfl (fun r1 u1 hw1 => ?_)
  try dsimp only at hw1
  rcases hw1 with ⟨sh0j, hsh0l, hsh0h, rfl, rfl⟩ | ⟨hw1, rfl⟩
  · skip
    refine zn_if_eq (tgt := 14) hX dX7_item_4 (by decide) (by omega) (fun c4 => absurd c4 (by omega)) (fun _ => ?_)
    refine z_iload_n hX 2 dX7_item_7 rfl ?_
    refine z_callSi (st := []) hX (c_X7_isLane _ G la0 ) lb_X7_isLane ml_X7_212 (fun (_u : Unit) => [ob x 7 (rf ad v), ia G (ad 0) 29 (fN s), ia G (ad 19) 4 (fun j => ln (lq j)), ia G (ad 20) 4 (fN lz), la G (ad 21) 96 It]) (wr := [ob x 7 (rf ad v), ia G (ad 0) 29 (fN s), ia G (ad 19) 4 (fun j => ln (lq j)), ia G (ad 20) 4 (fN lz), la G (ad 21) 96 It]) [] [0, 1, 2, 3, 4] [0, 1, 2, 3, 4] ⟨rfl, rfl, rfl, fun _ => rfl⟩ rfl rfl ⟨Nat.le_refl _, Nat.le_refl _⟩ dX7_item_8 rfl (fun r8 u8 hw8 => ?_)
    try dsimp only at hw8
    rcases hw8 with ⟨la0j, hla0l, hla0h, rfl, rfl⟩ | ⟨hw8, rfl⟩
    · skip
      refine zn_if_ne (tgt := 16) hX dX7_item_11 (by decide) (by omega) (fun _ => ?_) (fun c11 => absurd c11 (by omega))
      refine z_aload_n hX 0 dX7_item_16 rfl ?_
      refine z_iload_n hX 1 dX7_item_17 rfl ?_
      refine z_iload_n hX 2 dX7_item_18 rfl ?_
      refine z_iload_n hX 3 dX7_item_19 rfl ?_
      refine z_iconst (v := nI 1) hX dX7_item_20 (by decide) ?_
      refine z_callVi (st := []) hX (c_X7_why _ G x ad v s lq lz sh0j (nI la0j) i0 (nI 1) h0 h1 (by omega)) lb_X7_why ml_X7_217 (fun (_u : Unit) => [ob x 7 (rf ad v), ia G (ad 0) 29 (fN s), ia G (ad 19) 4 (fun j => ln (lq j)), ia G (ad 20) 4 (fN lz), la G (ad 21) 96 It]) (wr := [la G (ad 21) 96 It]) [0, 1, 2, 3] [4] [1, 2, 3, 4, 0] ⟨rfl, rfl, rfl, fun _ => rfl⟩ 0 rfl rfl rfl rfl ⟨Nat.le_refl _, Nat.le_refl _⟩ dX7_item_21 rfl (fun r21 u21 hw21 => ?_)
      refine z_istore (L' := [(6, .int r21), (0, .ref x), (1, .int (nI sh0j)), (2, .int (nI la0j)), (3, .int i0), (4, .long va)]) hX dX7_item_24 (Nat.le_of_ble_eq_true rfl) rfl ?_
      refine z_iload hX 0 dX7_item_26 rfl ?_
      refine z_if_ge (tgt := 34) hX dX7_item_28 (by decide) (fun c28x => ?_) (fun c28x => ?_)
      · have c28 : r21 = 0 := by rw [hw21 ] at c28x ⊢; exact faultI_ge c28x
        rw [hw21] at c28
        obtain ⟨f1, f2, f3⟩ := faultI_0 c28
        have z24 := h1 sh0j (by omega)
        obtain ⟨i0j, f4, rfl⟩ := fits_ex (by omega) f3
        refine z_aload_n hX 1 dX7_item_34 rfl ?_
        refine z_get (v := .ref (ad 21)) hX fX7 0 21 rfl rfl (Nat.le_of_ble_eq_true rfl) fl_X7_37 rfl dX7_item_35 ?_
        refine z_bipush (v := nI 24) hX dX7_item_38 (by decide) ?_
        refine z_iload_n hX 2 dX7_item_40 rfl ?_
        refine z_imul (v := (nI (24 * sh0j))) hX dX7_item_41 (pk_mul _ _) ?_
        refine z_iload_n hX 4 dX7_item_42 rfl ?_
        refine z_iadd (v := (nI (24 * sh0j + i0j))) hX dX7_item_43 (nI_add _ _) ?_
        refine z_iload_n hX 3 dX7_item_44 rfl ?_
        refine zn_if_ne (tgt := 56) hX dX7_item_45 (by decide) (by omega) (fun c45 => ?_) (fun c45 => ?_)
        · skip
          refine z_iload_n hX 3 dX7_item_56 rfl ?_
          refine z_iconst (v := nI 1) hX dX7_item_57 (by decide) ?_
          refine zn_icmp_ne (tgt := 69) hX dX7_item_58 (by decide) (by omega) (by omega) (fun c58 => ?_) (fun c58 => ?_)
          · skip
            refine z_iload_n hX 3 dX7_item_69 rfl ?_
            refine z_iconst (v := nI 2) hX dX7_item_70 (by decide) ?_
            refine zn_icmp_ne (tgt := 81) hX dX7_item_71 (by decide) (by omega) (by omega) (fun c71 => ?_) (fun c71 => ?_)
            · skip
              refine z_lload hX 5 dX7_item_81 rfl ?_
              refine z_last (ws' := [ob x 7 (rf ad v), ia G (ad 0) 29 (fN s), ia G (ad 19) 4 (fun j => ln (lq j)), ia G (ad 20) 4 (fN lz), la G (ad 21) 96 (vp_updL It (24 * sh0j + i0j) va)]) hX 4 (j := (24 * sh0j + i0j)) rfl (by omega) (by decide) rfl rfl dX7_item_83 ?_
              refine z_iconst (v := nI 1) hX dX7_item_84 (by decide) ?_
              have e0 : okPl (nI sh0j) (nI la0j) = true := by unfold okPl; rw [inb_t (by omega) (by omega) (by omega), inb_t (by omega) (by omega) (by omega)]; rfl
              have el : lowB la0j va = va := by
                unfold lowB
                repeat' split
                all_goals first | rfl | omega
              rw [e0, gN_nI (show sh0j < 2147483648 by omega), decide_eq_true c28, Bool.and_true, gN_nI (show la0j < 2147483648 by omega), gN_nI (show i0j < 2147483648 by omega), el] at hR
              exact hR _ () _ _ (by unfold spItem; rw [if_pos e0, if_pos c28]) dX7_item_85 rfl
            · skip
              refine z_lload hX 5 dX7_item_74 rfl ?_
              refine z_l2i (v := va.toInt32) hX dX7_item_76 rfl ?_
              refine z_i2l (v := (va.toInt32.toInt64)) hX dX7_item_77 rfl ?_
              refine z_goto (tgt := 83) hX dX7_item_78 (by decide) ?_
              refine z_last (ws' := [ob x 7 (rf ad v), ia G (ad 0) 29 (fN s), ia G (ad 19) 4 (fun j => ln (lq j)), ia G (ad 20) 4 (fN lz), la G (ad 21) 96 (vp_updL It (24 * sh0j + i0j) (va.toInt32.toInt64))]) hX 4 (j := (24 * sh0j + i0j)) rfl (by omega) (by decide) rfl rfl dX7_item_83 ?_
              refine z_iconst (v := nI 1) hX dX7_item_84 (by decide) ?_
              have e0 : okPl (nI sh0j) (nI la0j) = true := by unfold okPl; rw [inb_t (by omega) (by omega) (by omega), inb_t (by omega) (by omega) (by omega)]; rfl
              have el : lowB la0j va = (va.toInt32.toInt64) := by
                unfold lowB
                repeat' split
                all_goals first | rfl | omega
              rw [e0, gN_nI (show sh0j < 2147483648 by omega), decide_eq_true c28, Bool.and_true, gN_nI (show la0j < 2147483648 by omega), gN_nI (show i0j < 2147483648 by omega), el] at hR
              exact hR _ () _ _ (by unfold spItem; rw [if_pos e0, if_pos c28]) dX7_item_85 rfl
          · skip
            refine z_lload hX 5 dX7_item_61 rfl ?_
            refine z_l2i (v := va.toInt32) hX dX7_item_63 rfl ?_
            refine z_i2s (v := va.toInt32.toInt16.toInt32) hX dX7_item_64 rfl ?_
            refine z_i2l (v := (va.toInt32.toInt16.toInt32.toInt64)) hX dX7_item_65 rfl ?_
            refine z_goto (tgt := 83) hX dX7_item_66 (by decide) ?_
            refine z_last (ws' := [ob x 7 (rf ad v), ia G (ad 0) 29 (fN s), ia G (ad 19) 4 (fun j => ln (lq j)), ia G (ad 20) 4 (fN lz), la G (ad 21) 96 (vp_updL It (24 * sh0j + i0j) (va.toInt32.toInt16.toInt32.toInt64))]) hX 4 (j := (24 * sh0j + i0j)) rfl (by omega) (by decide) rfl rfl dX7_item_83 ?_
            refine z_iconst (v := nI 1) hX dX7_item_84 (by decide) ?_
            have e0 : okPl (nI sh0j) (nI la0j) = true := by unfold okPl; rw [inb_t (by omega) (by omega) (by omega), inb_t (by omega) (by omega) (by omega)]; rfl
            have el : lowB la0j va = (va.toInt32.toInt16.toInt32.toInt64) := by
              unfold lowB
              repeat' split
              all_goals first | rfl | omega
            rw [e0, gN_nI (show sh0j < 2147483648 by omega), decide_eq_true c28, Bool.and_true, gN_nI (show la0j < 2147483648 by omega), gN_nI (show i0j < 2147483648 by omega), el] at hR
            exact hR _ () _ _ (by unfold spItem; rw [if_pos e0, if_pos c28]) dX7_item_85 rfl
        · skip
          refine z_lload hX 5 dX7_item_48 rfl ?_
          refine z_l2i (v := va.toInt32) hX dX7_item_50 rfl ?_
          refine z_i2b (v := va.toInt32.toInt8.toInt32) hX dX7_item_51 rfl ?_
          refine z_i2l (v := (va.toInt32.toInt8.toInt32.toInt64)) hX dX7_item_52 rfl ?_
          refine z_goto (tgt := 83) hX dX7_item_53 (by decide) ?_
          refine z_last (ws' := [ob x 7 (rf ad v), ia G (ad 0) 29 (fN s), ia G (ad 19) 4 (fun j => ln (lq j)), ia G (ad 20) 4 (fN lz), la G (ad 21) 96 (vp_updL It (24 * sh0j + i0j) (va.toInt32.toInt8.toInt32.toInt64))]) hX 4 (j := (24 * sh0j + i0j)) rfl (by omega) (by decide) rfl rfl dX7_item_83 ?_
          refine z_iconst (v := nI 1) hX dX7_item_84 (by decide) ?_
          have e0 : okPl (nI sh0j) (nI la0j) = true := by unfold okPl; rw [inb_t (by omega) (by omega) (by omega), inb_t (by omega) (by omega) (by omega)]; rfl
          have el : lowB la0j va = (va.toInt32.toInt8.toInt32.toInt64) := by
            unfold lowB
            repeat' split
            all_goals first | rfl | omega
          rw [e0, gN_nI (show sh0j < 2147483648 by omega), decide_eq_true c28, Bool.and_true, gN_nI (show la0j < 2147483648 by omega), gN_nI (show i0j < 2147483648 by omega), el] at hR
          exact hR _ () _ _ (by unfold spItem; rw [if_pos e0, if_pos c28]) dX7_item_85 rfl
      · have c28 : ¬ r21 = 0 := by intro z9; exact c28x (by rw [z9]; decide)
        refine z_iload hX 0 dX7_item_31 rfl ?_
        have e0 : okPl (nI sh0j) (nI la0j) = true := by unfold okPl; rw [inb_t (by omega) (by omega) (by omega), inb_t (by omega) (by omega) (by omega)]; rfl
        have e1 : ¬ faultI (lq sh0j) (lz sh0j) (nI la0j) i0 (nI 1) = 0 := by rw [← hw21]; exact c28
        rw [e0, gN_nI (show sh0j < 2147483648 by omega), decide_eq_false e1, Bool.and_false] at hR
        exact hR _ () _ _ (by unfold spItem; rw [if_pos e0, if_neg e1]; exact hw21) dX7_item_33 rfl
    · have hb_la0 : inb la0 0 3 = false := hw8
      refine zn_if_ne (tgt := 16) hX dX7_item_11 (by decide) (by omega) (fun c11 => absurd c11 (by omega)) (fun _ => ?_)
      refine z_iconst (v := (-1)) hX dX7_item_14 (by decide) ?_
      have e0 : okPl (nI sh0j) la0 = false := by unfold okPl; simp [hb_la0]
      rw [e0, Bool.false_and] at hR
      exact hR _ () _ _ (by unfold spItem; rw [if_neg (by rw [e0]; decide)]) dX7_item_15 rfl
  · have hb_sh0 : inb sh0 0 3 = false := hw1
    refine zn_if_eq (tgt := 14) hX dX7_item_4 (by decide) (by omega) (fun _ => ?_) (fun c4 => absurd c4 (by omega))
    refine z_iconst (v := (-1)) hX dX7_item_14 (by decide) ?_
    have e0 : okPl sh0 la0 = false := by unfold okPl; simp [hb_sh0]
    rw [e0, Bool.false_and] at hR
    exact hR _ () _ _ (by unfold spItem; rw [if_neg (by rw [e0]; decide)]) dX7_item_15 rfl
