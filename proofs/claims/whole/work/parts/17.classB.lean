def holesTo (s : nst) : Nat → Nat
  | 0 => 0
  | a + 1 => if s (7 + a) = 0 then holesTo s a ||| 2 ^ a else holesTo s a
def floodS (m : Nat) (s : nst) : nst := va_up (va_up (va_up (va_up s 7 (s 7 - m)) 8 (s 8 - m)) 9 (s 9 - m)) 10 (s 10 - m)
theorem drawN_ex : ∃ f : Nat → Nat, ∀ d, f d = (d * 1103515245 + 12345) % 2147483648 := ⟨_, fun _ => rfl⟩
/-- (sealed: the kernel must not count it out) -/
noncomputable def drawN : Nat → Nat := Classical.choose drawN_ex
theorem drawN_eq (d : Nat) : drawN d = (d * 1103515245 + 12345) % 2147483648 := Classical.choose_spec drawN_ex d
noncomputable def drawS (s : nst) : nst := if drawN (s 6) / 65536 % 5 = 0 then va_up (va_up s 6 (drawN (s 6))) 2 (s 2 ^^^ 2 ^ (drawN (s 6) / 128 % 6)) else va_up s 6 (drawN (s 6))
theorem lN_mask31 (a : Nat) : lN a &&& lN 2147483647 = lN (a % 2147483648) := by
  have e : a % 2147483648 = a &&& 2147483647 := (Nat.and_two_pow_sub_one_eq_mod a 31).symm
  rw [e]
  unfold lN
  apply Int64.toBitVec_inj.mp
  simp [Int64.toBitVec_and]
theorem lose_nI {a b : Nat} (ha : a < 2 ^ 30) (hb : b < 2 ^ 30) : (if nI 0 < nI a - nI b then nI a - nI b else nI 0) = nI (a - b) := by
  rcases Nat.lt_or_ge b a with h | h
  · rw [pk_sub (by omega), if_pos ((nI_ltI (by omega) (by omega)).mpr (by omega))]
  · rw [if_neg]
    · rw [Nat.sub_eq_zero_of_le h]
    · intro c
      have h1 := Int32.lt_iff_toInt_lt.mp c
      rw [pk_sub_toInt ha hb, nI_toInt (by decide)] at h1
      omega
theorem co_6 {P : Nat → Prop} (h0 : P 0) (h1 : P 1) (h2 : P 2) (h3 : P 3) (h4 : P 4) (h5 : P 5) {i : Nat} (hi : i < 6) : P i := by
  rcases (show i = 0 ∨ i = 1 ∨ i = 2 ∨ i = 3 ∨ i = 4 ∨ i = 5 by omega) with rfl | rfl | rfl | rfl | rfl | rfl <;> assumption
/-- none, or a number -/
def l4 (k : Nat) : Int32 := if k = 0 then -4 else nI (k - 1)
theorem l4_eq {k : Nat} (h : k ≤ 100) : l4 k = -4 ↔ k = 0 := by
  unfold l4
  split
  · simp_all
  · rename_i hk
    constructor
    · intro e
      have e1 : (nI (k - 1)).toInt = (k - 1 : Nat) := nI_toInt (by omega)
      rw [e] at e1
      have e2 : (-4 : Int32).toInt = -4 := by decide
      omega
    · intro e
      exact absurd e hk
def offerS (k f o : Nat) (c : Nat × Nat × Nat) : Nat × Nat × Nat := if c.1 = 0 ∨ f < c.2.1 ∨ (f = c.2.1 ∧ c.2.2 < o) then (k + 1, f, o) else c
set_option maxRecDepth 100000 in
set_option maxHeartbeats 4000000 in
theorem c_X2_takeHeaps (l : Launch) (G : zG) (a : Nat) (b : Nat) (s : nst) (a2 : Nat) (b2 : Nat) (t : nst)  : zMv l G yX2_takeHeaps cX2_takeHeaps 3 0 0 0 0 [.ref a, .ref a2] [ob a 2 (mf b s), ia G b 4 (fN (sh 7 s)), ob a2 2 (mf b2 t), ia G b2 4 (fN (sh 7 t))] (fun (_u : Unit) => True) (fun (_u : Unit) => [ob a 2 (mf b (va_up (va_up (va_up (va_up s 7 (t 7)) 8 (t 8)) 9 (t 9)) 10 (t 10))), ia G b 4 (fN (sh 7 (va_up (va_up (va_up (va_up s 7 (t 7)) 8 (t 8)) 9 (t 9)) 10 (t 10)))), ob a2 2 (mf b2 t), ia G b2 4 (fN (sh 7 t))]) := by
  refine zMv.of (by decide) rfl (fun X A H0 hX hXl hnm hR => ?_)
  show Z (X, G, A, H0, 3) 0 0 [ob a 2 (mf b s), ia G b 4 (fN (sh 7 s)), ob a2 2 (mf b2 t), ia G b2 4 (fN (sh 7 t))] 0 [(0, .ref a), (1, .ref a2)] []
  subst hXl
  refine z_iconst (v := nI 0) hX dX2_takeHeaps_0 (by decide) ?_
  refine z_istore_n (L' := [(2, .int (nI 0)), (0, .ref a), (1, .ref a2)]) hX dX2_takeHeaps_1 (Nat.le_of_ble_eq_true rfl) rfl ?_
  refine z_iload_n hX 0 dX2_takeHeaps_2 rfl ?_
  refine z_iconst (v := nI 4) hX dX2_takeHeaps_3 (by decide) ?_
  refine zn_icmp_ge (tgt := 25) hX dX2_takeHeaps_4 (by decide) (by omega) (by omega) (fun c4 => absurd c4 (by omega)) (fun _ => ?_)
  refine z_aload_n hX 1 dX2_takeHeaps_7 rfl ?_
  refine z_get (v := .ref b) hX fX2 0 0 rfl rfl (Nat.le_of_ble_eq_true rfl) fl_X2_9 rfl dX2_takeHeaps_8 ?_
  refine z_iload_n hX 0 dX2_takeHeaps_11 rfl ?_
  refine z_aload_n hX 2 dX2_takeHeaps_12 rfl ?_
  refine z_get (v := .ref b2) hX fX2 2 0 rfl rfl (Nat.le_of_ble_eq_true rfl) fl_X2_9 rfl dX2_takeHeaps_13 ?_
  refine z_iload_n hX 0 dX2_takeHeaps_16 rfl ?_
  refine z_iald (v := (nI (t 7))) hX 3 (j := 0) rfl (by omega) (by decide) rfl dX2_takeHeaps_17 ?_
  refine z_iastM (j := 0) (v := t 7) (ws' := [ob a 2 (mf b (va_up s (7 + 0) (t 7))), ia G b 4 (fN (sh 7 (va_up s (7 + 0) (t 7)))), ob a2 2 (mf b2 t), ia G b2 4 (fN (sh 7 t))]) hX 0 1 rfl rfl (by omega) rfl rfl dX2_takeHeaps_18 ?_
  refine z_iinc (v := (nI 1)) (L' := [(2, .int (nI 1)), (0, .ref a), (1, .ref a2)]) hX 0 dX2_takeHeaps_19 rfl (by decide) (Nat.le_of_ble_eq_true rfl) rfl ?_
  refine z_goto (tgt := 2) hX dX2_takeHeaps_22 (by decide) ?_
  refine z_iload_n hX 0 dX2_takeHeaps_2 rfl ?_
  refine z_iconst (v := nI 4) hX dX2_takeHeaps_3 (by decide) ?_
  refine zn_icmp_ge (tgt := 25) hX dX2_takeHeaps_4 (by decide) (by omega) (by omega) (fun c4 => absurd c4 (by omega)) (fun _ => ?_)
  refine z_aload_n hX 1 dX2_takeHeaps_7 rfl ?_
  refine z_get (v := .ref b) hX fX2 0 0 rfl rfl (Nat.le_of_ble_eq_true rfl) fl_X2_9 rfl dX2_takeHeaps_8 ?_
  refine z_iload_n hX 0 dX2_takeHeaps_11 rfl ?_
  refine z_aload_n hX 2 dX2_takeHeaps_12 rfl ?_
  refine z_get (v := .ref b2) hX fX2 2 0 rfl rfl (Nat.le_of_ble_eq_true rfl) fl_X2_9 rfl dX2_takeHeaps_13 ?_
  refine z_iload_n hX 0 dX2_takeHeaps_16 rfl ?_
  refine z_iald (v := (nI (t 8))) hX 3 (j := 1) rfl (by omega) (by decide) rfl dX2_takeHeaps_17 ?_
  refine z_iastM (j := 1) (v := t 8) (ws' := [ob a 2 (mf b (va_up (va_up s (7 + 0) (t 7)) (7 + 1) (t 8))), ia G b 4 (fN (sh 7 (va_up (va_up s (7 + 0) (t 7)) (7 + 1) (t 8)))), ob a2 2 (mf b2 t), ia G b2 4 (fN (sh 7 t))]) hX 0 1 rfl rfl (by omega) rfl rfl dX2_takeHeaps_18 ?_
  refine z_iinc (v := (nI 2)) (L' := [(2, .int (nI 2)), (0, .ref a), (1, .ref a2)]) hX 0 dX2_takeHeaps_19 rfl (by decide) (Nat.le_of_ble_eq_true rfl) rfl ?_
  refine z_goto (tgt := 2) hX dX2_takeHeaps_22 (by decide) ?_
  refine z_iload_n hX 0 dX2_takeHeaps_2 rfl ?_
  refine z_iconst (v := nI 4) hX dX2_takeHeaps_3 (by decide) ?_
  refine zn_icmp_ge (tgt := 25) hX dX2_takeHeaps_4 (by decide) (by omega) (by omega) (fun c4 => absurd c4 (by omega)) (fun _ => ?_)
  refine z_aload_n hX 1 dX2_takeHeaps_7 rfl ?_
  refine z_get (v := .ref b) hX fX2 0 0 rfl rfl (Nat.le_of_ble_eq_true rfl) fl_X2_9 rfl dX2_takeHeaps_8 ?_
  refine z_iload_n hX 0 dX2_takeHeaps_11 rfl ?_
  refine z_aload_n hX 2 dX2_takeHeaps_12 rfl ?_
  refine z_get (v := .ref b2) hX fX2 2 0 rfl rfl (Nat.le_of_ble_eq_true rfl) fl_X2_9 rfl dX2_takeHeaps_13 ?_
  refine z_iload_n hX 0 dX2_takeHeaps_16 rfl ?_
  refine z_iald (v := (nI (t 9))) hX 3 (j := 2) rfl (by omega) (by decide) rfl dX2_takeHeaps_17 ?_
  refine z_iastM (j := 2) (v := t 9) (ws' := [ob a 2 (mf b (va_up (va_up (va_up s (7 + 0) (t 7)) (7 + 1) (t 8)) (7 + 2) (t 9))), ia G b 4 (fN (sh 7 (va_up (va_up (va_up s (7 + 0) (t 7)) (7 + 1) (t 8)) (7 + 2) (t 9)))), ob a2 2 (mf b2 t), ia G b2 4 (fN (sh 7 t))]) hX 0 1 rfl rfl (by omega) rfl rfl dX2_takeHeaps_18 ?_
  refine z_iinc (v := (nI 3)) (L' := [(2, .int (nI 3)), (0, .ref a), (1, .ref a2)]) hX 0 dX2_takeHeaps_19 rfl (by decide) (Nat.le_of_ble_eq_true rfl) rfl ?_
  refine z_goto (tgt := 2) hX dX2_takeHeaps_22 (by decide) ?_
  refine z_iload_n hX 0 dX2_takeHeaps_2 rfl ?_
  refine z_iconst (v := nI 4) hX dX2_takeHeaps_3 (by decide) ?_
  refine zn_icmp_ge (tgt := 25) hX dX2_takeHeaps_4 (by decide) (by omega) (by omega) (fun c4 => absurd c4 (by omega)) (fun _ => ?_)
  refine z_aload_n hX 1 dX2_takeHeaps_7 rfl ?_
  refine z_get (v := .ref b) hX fX2 0 0 rfl rfl (Nat.le_of_ble_eq_true rfl) fl_X2_9 rfl dX2_takeHeaps_8 ?_
  refine z_iload_n hX 0 dX2_takeHeaps_11 rfl ?_
  refine z_aload_n hX 2 dX2_takeHeaps_12 rfl ?_
  refine z_get (v := .ref b2) hX fX2 2 0 rfl rfl (Nat.le_of_ble_eq_true rfl) fl_X2_9 rfl dX2_takeHeaps_13 ?_
  refine z_iload_n hX 0 dX2_takeHeaps_16 rfl ?_
  refine z_iald (v := (nI (t 10))) hX 3 (j := 3) rfl (by omega) (by decide) rfl dX2_takeHeaps_17 ?_
  refine z_iastM (j := 3) (v := t 10) (ws' := [ob a 2 (mf b (va_up (va_up (va_up (va_up s (7 + 0) (t 7)) (7 + 1) (t 8)) (7 + 2) (t 9)) (7 + 3) (t 10))), ia G b 4 (fN (sh 7 (va_up (va_up (va_up (va_up s (7 + 0) (t 7)) (7 + 1) (t 8)) (7 + 2) (t 9)) (7 + 3) (t 10)))), ob a2 2 (mf b2 t), ia G b2 4 (fN (sh 7 t))]) hX 0 1 rfl rfl (by omega) rfl rfl dX2_takeHeaps_18 ?_
  refine z_iinc (v := (nI 4)) (L' := [(2, .int (nI 4)), (0, .ref a), (1, .ref a2)]) hX 0 dX2_takeHeaps_19 rfl (by decide) (Nat.le_of_ble_eq_true rfl) rfl ?_
  refine z_goto (tgt := 2) hX dX2_takeHeaps_22 (by decide) ?_
  refine z_iload_n hX 0 dX2_takeHeaps_2 rfl ?_
  refine z_iconst (v := nI 4) hX dX2_takeHeaps_3 (by decide) ?_
  refine zn_icmp_ge (tgt := 25) hX dX2_takeHeaps_4 (by decide) (by omega) (by omega) (fun _ => ?_) (fun c4 => absurd c4 (by omega))
  exact hR () _ _ trivial dX2_takeHeaps_25
set_option maxRecDepth 100000 in
set_option maxHeartbeats 4000000 in
theorem c_X2_take (l : Launch) (G : zG) (a : Nat) (b : Nat) (s : nst) (a2 : Nat) (b2 : Nat) (t : nst)  : zMv l G yX2_take cX2_take 2 1 0 0 22 [.ref a, .ref a2] [ob a 2 (mf b s), ia G b 4 (fN (sh 7 s)), ob a2 2 (mf b2 t), ia G b2 4 (fN (sh 7 t))] (fun (_u : Unit) => True) (fun (_u : Unit) => [ob a 2 (mf b t), ia G b 4 (fN (sh 7 t)), ob a2 2 (mf b2 t), ia G b2 4 (fN (sh 7 t))]) := by
  refine zMv.of (by decide) rfl (fun X A H0 hX hXl hnm hR => ?_)
  show Z (X, G, A, H0, 2) 0 0 [ob a 2 (mf b s), ia G b 4 (fN (sh 7 s)), ob a2 2 (mf b2 t), ia G b2 4 (fN (sh 7 t))] 0 [(0, .ref a), (1, .ref a2)] []
  subst hXl
  refine z_aload_n hX 0 dX2_take_0 rfl ?_
  refine z_aload_n hX 1 dX2_take_1 rfl ?_
  refine z_callVv (st := []) hX (c_X2_takeHeaps _ G a b s a2 b2 t ) lb_X2_takeHeaps ml_X2_34 (fun (_u : Unit) => [ob a 2 (mf b (va_up (va_up (va_up (va_up s 7 (t 7)) 8 (t 8)) 9 (t 9)) 10 (t 10))), ia G b 4 (fN (sh 7 (va_up (va_up (va_up (va_up s 7 (t 7)) 8 (t 8)) 9 (t 9)) 10 (t 10)))), ob a2 2 (mf b2 t), ia G b2 4 (fN (sh 7 t))]) (wr := []) [0, 1, 2, 3] [] [0, 1, 2, 3] ⟨rfl, rfl, rfl, fun _ => rfl⟩ 0 rfl rfl rfl rfl ⟨Nat.le_refl _, Nat.le_refl _⟩ dX2_take_2 rfl (fun  u2 hw2 => ?_)
  refine z_aload_n hX 0 dX2_take_5 rfl ?_
  refine z_aload_n hX 1 dX2_take_6 rfl ?_
  refine z_get (v := .int (nI (t 2))) hX fX2 2 1 rfl rfl (Nat.le_of_ble_eq_true rfl) fl_X2_15 rfl dX2_take_7 ?_
  refine z_putM (v := t 2) (ws' := [ob a 2 (mf b (va_up (va_up (va_up (va_up (va_up s 7 (t 7)) 8 (t 8)) 9 (t 9)) 10 (t 10)) 2 (t 2))), ia G b 4 (fN (sh 7 (va_up (va_up (va_up (va_up (va_up s 7 (t 7)) 8 (t 8)) 9 (t 9)) 10 (t 10)) 2 (t 2)))), ob a2 2 (mf b2 t), ia G b2 4 (fN (sh 7 t))]) hX 0 1 1 2 rfl rfl rfl rfl rfl fl_X2_15 rfl rfl rfl rfl dX2_take_10 ?_
  refine z_aload_n hX 0 dX2_take_13 rfl ?_
  refine z_aload_n hX 1 dX2_take_14 rfl ?_
  refine z_get (v := .int (nI (t 1))) hX fX2 2 2 rfl rfl (Nat.le_of_ble_eq_true rfl) fl_X2_19 rfl dX2_take_15 ?_
  refine z_putM (v := t 1) (ws' := [ob a 2 (mf b (va_up (va_up (va_up (va_up (va_up (va_up s 7 (t 7)) 8 (t 8)) 9 (t 9)) 10 (t 10)) 2 (t 2)) 1 (t 1))), ia G b 4 (fN (sh 7 (va_up (va_up (va_up (va_up (va_up (va_up s 7 (t 7)) 8 (t 8)) 9 (t 9)) 10 (t 10)) 2 (t 2)) 1 (t 1)))), ob a2 2 (mf b2 t), ia G b2 4 (fN (sh 7 t))]) hX 0 1 2 1 rfl rfl rfl rfl rfl fl_X2_19 rfl rfl rfl rfl dX2_take_18 ?_
  refine z_aload_n hX 0 dX2_take_21 rfl ?_
  refine z_aload_n hX 1 dX2_take_22 rfl ?_
  refine z_get (v := .int (nI (t 3))) hX fX2 2 3 rfl rfl (Nat.le_of_ble_eq_true rfl) fl_X2_22 rfl dX2_take_23 ?_
  refine z_putM (v := t 3) (ws' := [ob a 2 (mf b (va_up (va_up (va_up (va_up (va_up (va_up (va_up s 7 (t 7)) 8 (t 8)) 9 (t 9)) 10 (t 10)) 2 (t 2)) 1 (t 1)) 3 (t 3))), ia G b 4 (fN (sh 7 (va_up (va_up (va_up (va_up (va_up (va_up (va_up s 7 (t 7)) 8 (t 8)) 9 (t 9)) 10 (t 10)) 2 (t 2)) 1 (t 1)) 3 (t 3)))), ob a2 2 (mf b2 t), ia G b2 4 (fN (sh 7 t))]) hX 0 1 3 3 rfl rfl rfl rfl rfl fl_X2_22 rfl rfl rfl rfl dX2_take_26 ?_
  refine z_aload_n hX 0 dX2_take_29 rfl ?_
  refine z_aload_n hX 1 dX2_take_30 rfl ?_
  refine z_get (v := .int (nI (t 4))) hX fX2 2 4 rfl rfl (Nat.le_of_ble_eq_true rfl) fl_X2_25 rfl dX2_take_31 ?_
  refine z_putM (v := t 4) (ws' := [ob a 2 (mf b (va_up (va_up (va_up (va_up (va_up (va_up (va_up (va_up s 7 (t 7)) 8 (t 8)) 9 (t 9)) 10 (t 10)) 2 (t 2)) 1 (t 1)) 3 (t 3)) 4 (t 4))), ia G b 4 (fN (sh 7 (va_up (va_up (va_up (va_up (va_up (va_up (va_up (va_up s 7 (t 7)) 8 (t 8)) 9 (t 9)) 10 (t 10)) 2 (t 2)) 1 (t 1)) 3 (t 3)) 4 (t 4)))), ob a2 2 (mf b2 t), ia G b2 4 (fN (sh 7 t))]) hX 0 1 4 4 rfl rfl rfl rfl rfl fl_X2_25 rfl rfl rfl rfl dX2_take_34 ?_
  refine z_aload_n hX 0 dX2_take_37 rfl ?_
  refine z_aload_n hX 1 dX2_take_38 rfl ?_
  refine z_get (v := .int (nI (t 5))) hX fX2 2 5 rfl rfl (Nat.le_of_ble_eq_true rfl) fl_X2_28 rfl dX2_take_39 ?_
  refine z_putM (v := t 5) (ws' := [ob a 2 (mf b (va_up (va_up (va_up (va_up (va_up (va_up (va_up (va_up (va_up s 7 (t 7)) 8 (t 8)) 9 (t 9)) 10 (t 10)) 2 (t 2)) 1 (t 1)) 3 (t 3)) 4 (t 4)) 5 (t 5))), ia G b 4 (fN (sh 7 (va_up (va_up (va_up (va_up (va_up (va_up (va_up (va_up (va_up s 7 (t 7)) 8 (t 8)) 9 (t 9)) 10 (t 10)) 2 (t 2)) 1 (t 1)) 3 (t 3)) 4 (t 4)) 5 (t 5)))), ob a2 2 (mf b2 t), ia G b2 4 (fN (sh 7 t))]) hX 0 1 5 5 rfl rfl rfl rfl rfl fl_X2_28 rfl rfl rfl rfl dX2_take_42 ?_
  refine z_aload_n hX 0 dX2_take_45 rfl ?_
  refine z_aload_n hX 1 dX2_take_46 rfl ?_
  refine z_get (v := .int (nI (t 6))) hX fX2 2 6 rfl rfl (Nat.le_of_ble_eq_true rfl) fl_X2_31 rfl dX2_take_47 ?_
  refine z_putM (v := t 6) (ws' := [ob a 2 (mf b (va_up (va_up (va_up (va_up (va_up (va_up (va_up (va_up (va_up (va_up s 7 (t 7)) 8 (t 8)) 9 (t 9)) 10 (t 10)) 2 (t 2)) 1 (t 1)) 3 (t 3)) 4 (t 4)) 5 (t 5)) 6 (t 6))), ia G b 4 (fN (sh 7 (va_up (va_up (va_up (va_up (va_up (va_up (va_up (va_up (va_up (va_up s 7 (t 7)) 8 (t 8)) 9 (t 9)) 10 (t 10)) 2 (t 2)) 1 (t 1)) 3 (t 3)) 4 (t 4)) 5 (t 5)) 6 (t 6)))), ob a2 2 (mf b2 t), ia G b2 4 (fN (sh 7 t))]) hX 0 1 6 6 rfl rfl rfl rfl rfl fl_X2_31 rfl rfl rfl rfl dX2_take_50 ?_
  refine z_iext (f' := (fN (sh 7 t))) (ws' := [ob a 2 (mf b (va_up (va_up (va_up (va_up (va_up (va_up (va_up (va_up (va_up (va_up s 7 (t 7)) 8 (t 8)) 9 (t 9)) 10 (t 10)) 2 (t 2)) 1 (t 1)) 3 (t 3)) 4 (t 4)) 5 (t 5)) 6 (t 6))), ia G b 4 (fN (sh 7 t)), ob a2 2 (mf b2 t), ia G b2 4 (fN (sh 7 t))]) 1 rfl (fun j hj => co_4 (P := fun j => (fN (sh 7 (va_up (va_up (va_up (va_up (va_up (va_up (va_up (va_up (va_up (va_up s 7 (t 7)) 8 (t 8)) 9 (t 9)) 10 (t 10)) 2 (t 2)) 1 (t 1)) 3 (t 3)) 4 (t 4)) 5 (t 5)) 6 (t 6)))) j = (fN (sh 7 t)) j) rfl rfl rfl rfl hj) rfl ?_
  exact hR () _ _ trivial dX2_take_53
def begS (t s : nst) : nst := va_up (va_up (va_up (va_up (va_up (va_up (va_up (va_up (va_up s 7 (t 7)) 8 (t 8)) 9 (t 9)) 10 (t 10)) 2 (t 2)) 1 0) 3 0) 4 0) 5 0
set_option maxRecDepth 100000 in
set_option maxHeartbeats 4000000 in
theorem c_X2_begin (l : Launch) (G : zG) (a : Nat) (b : Nat) (s : nst) (a2 : Nat) (b2 : Nat) (t : nst)  : zMv l G yX2_begin cX2_begin 2 1 0 0 22 [.ref a, .ref a2] [ob a 2 (mf b s), ia G b 4 (fN (sh 7 s)), ob a2 2 (mf b2 t), ia G b2 4 (fN (sh 7 t))] (fun (_u : Unit) => True) (fun (_u : Unit) => [ob a 2 (mf b (begS t s)), ia G b 4 (fN (sh 7 (begS t s))), ob a2 2 (mf b2 t), ia G b2 4 (fN (sh 7 t))]) := by
  refine zMv.of (by decide) rfl (fun X A H0 hX hXl hnm hR => ?_)
  show Z (X, G, A, H0, 2) 0 0 [ob a 2 (mf b s), ia G b 4 (fN (sh 7 s)), ob a2 2 (mf b2 t), ia G b2 4 (fN (sh 7 t))] 0 [(0, .ref a), (1, .ref a2)] []
  subst hXl
  refine z_aload_n hX 0 dX2_begin_0 rfl ?_
  refine z_aload_n hX 1 dX2_begin_1 rfl ?_
  refine z_callVv (st := []) hX (c_X2_takeHeaps _ G a b s a2 b2 t ) lb_X2_takeHeaps ml_X2_34 (fun (_u : Unit) => [ob a 2 (mf b (va_up (va_up (va_up (va_up s 7 (t 7)) 8 (t 8)) 9 (t 9)) 10 (t 10))), ia G b 4 (fN (sh 7 (va_up (va_up (va_up (va_up s 7 (t 7)) 8 (t 8)) 9 (t 9)) 10 (t 10)))), ob a2 2 (mf b2 t), ia G b2 4 (fN (sh 7 t))]) (wr := []) [0, 1, 2, 3] [] [0, 1, 2, 3] ⟨rfl, rfl, rfl, fun _ => rfl⟩ 0 rfl rfl rfl rfl ⟨Nat.le_refl _, Nat.le_refl _⟩ dX2_begin_2 rfl (fun  u2 hw2 => ?_)
  refine z_aload_n hX 0 dX2_begin_5 rfl ?_
  refine z_aload_n hX 1 dX2_begin_6 rfl ?_
  refine z_get (v := .int (nI (t 2))) hX fX2 2 1 rfl rfl (Nat.le_of_ble_eq_true rfl) fl_X2_15 rfl dX2_begin_7 ?_
  refine z_putM (v := t 2) (ws' := [ob a 2 (mf b (va_up (va_up (va_up (va_up (va_up s 7 (t 7)) 8 (t 8)) 9 (t 9)) 10 (t 10)) 2 (t 2))), ia G b 4 (fN (sh 7 (va_up (va_up (va_up (va_up (va_up s 7 (t 7)) 8 (t 8)) 9 (t 9)) 10 (t 10)) 2 (t 2)))), ob a2 2 (mf b2 t), ia G b2 4 (fN (sh 7 t))]) hX 0 1 1 2 rfl rfl rfl rfl rfl fl_X2_15 rfl rfl rfl rfl dX2_begin_10 ?_
  refine z_aload_n hX 0 dX2_begin_13 rfl ?_
  refine z_iconst (v := nI 0) hX dX2_begin_14 (by decide) ?_
  refine z_putM (v := 0) (ws' := [ob a 2 (mf b (va_up (va_up (va_up (va_up (va_up (va_up s 7 (t 7)) 8 (t 8)) 9 (t 9)) 10 (t 10)) 2 (t 2)) 1 0)), ia G b 4 (fN (sh 7 (va_up (va_up (va_up (va_up (va_up (va_up s 7 (t 7)) 8 (t 8)) 9 (t 9)) 10 (t 10)) 2 (t 2)) 1 0))), ob a2 2 (mf b2 t), ia G b2 4 (fN (sh 7 t))]) hX 0 1 2 1 rfl rfl rfl rfl rfl fl_X2_19 rfl rfl rfl rfl dX2_begin_15 ?_
  refine z_aload_n hX 0 dX2_begin_18 rfl ?_
  refine z_iconst (v := nI 0) hX dX2_begin_19 (by decide) ?_
  refine z_putM (v := 0) (ws' := [ob a 2 (mf b (va_up (va_up (va_up (va_up (va_up (va_up (va_up s 7 (t 7)) 8 (t 8)) 9 (t 9)) 10 (t 10)) 2 (t 2)) 1 0) 3 0)), ia G b 4 (fN (sh 7 (va_up (va_up (va_up (va_up (va_up (va_up (va_up s 7 (t 7)) 8 (t 8)) 9 (t 9)) 10 (t 10)) 2 (t 2)) 1 0) 3 0))), ob a2 2 (mf b2 t), ia G b2 4 (fN (sh 7 t))]) hX 0 1 3 3 rfl rfl rfl rfl rfl fl_X2_22 rfl rfl rfl rfl dX2_begin_20 ?_
  refine z_aload_n hX 0 dX2_begin_23 rfl ?_
  refine z_iconst (v := nI 0) hX dX2_begin_24 (by decide) ?_
  refine z_putM (v := 0) (ws' := [ob a 2 (mf b (va_up (va_up (va_up (va_up (va_up (va_up (va_up (va_up s 7 (t 7)) 8 (t 8)) 9 (t 9)) 10 (t 10)) 2 (t 2)) 1 0) 3 0) 4 0)), ia G b 4 (fN (sh 7 (va_up (va_up (va_up (va_up (va_up (va_up (va_up (va_up s 7 (t 7)) 8 (t 8)) 9 (t 9)) 10 (t 10)) 2 (t 2)) 1 0) 3 0) 4 0))), ob a2 2 (mf b2 t), ia G b2 4 (fN (sh 7 t))]) hX 0 1 4 4 rfl rfl rfl rfl rfl fl_X2_25 rfl rfl rfl rfl dX2_begin_25 ?_
  refine z_aload_n hX 0 dX2_begin_28 rfl ?_
  refine z_iconst (v := nI 0) hX dX2_begin_29 (by decide) ?_
  refine z_putM (v := 0) (ws' := [ob a 2 (mf b (va_up (va_up (va_up (va_up (va_up (va_up (va_up (va_up (va_up s 7 (t 7)) 8 (t 8)) 9 (t 9)) 10 (t 10)) 2 (t 2)) 1 0) 3 0) 4 0) 5 0)), ia G b 4 (fN (sh 7 (va_up (va_up (va_up (va_up (va_up (va_up (va_up (va_up (va_up s 7 (t 7)) 8 (t 8)) 9 (t 9)) 10 (t 10)) 2 (t 2)) 1 0) 3 0) 4 0) 5 0))), ob a2 2 (mf b2 t), ia G b2 4 (fN (sh 7 t))]) hX 0 1 5 5 rfl rfl rfl rfl rfl fl_X2_28 rfl rfl rfl rfl dX2_begin_30 ?_
  exact hR () _ _ trivial dX2_begin_33
set_option maxRecDepth 100000 in
set_option maxHeartbeats 4000000 in
theorem c_X2_allStones (l : Launch) (G : zG) (a : Nat) (b : Nat) (s : nst)  : zMi l G yX2_allStones cX2_allStones 3 .int 0 0 0 0 [.ref a] [ob a 2 (mf b s), ia G b 4 (fN (sh 7 s))] (fun (r : Int32) (_u : Unit) => r = nI (s 7 + s 8 + s 9 + s 10)) (fun (_u : Unit) => [ob a 2 (mf b s), ia G b 4 (fN (sh 7 s))]) := by
  refine zMi.of (by decide) rfl (fun X A H0 hX hXl hR => ?_)
  show Z (X, G, A, H0, 3) 0 0 [ob a 2 (mf b s), ia G b 4 (fN (sh 7 s))] 0 [(0, .ref a)] []
  subst hXl
  refine z_iconst (v := nI 0) hX dX2_allStones_0 (by decide) ?_
  refine z_istore_n (L' := [(1, .int (nI 0)), (0, .ref a)]) hX dX2_allStones_1 (Nat.le_of_ble_eq_true rfl) rfl ?_
  refine z_iconst (v := nI 0) hX dX2_allStones_2 (by decide) ?_
  refine z_istore_n (L' := [(2, .int (nI 0)), (1, .int (nI 0)), (0, .ref a)]) hX dX2_allStones_3 (Nat.le_of_ble_eq_true rfl) rfl ?_
  refine z_iload_n hX 0 dX2_allStones_4 rfl ?_
  refine z_iconst (v := nI 4) hX dX2_allStones_5 (by decide) ?_
  refine zn_icmp_ge (tgt := 24) hX dX2_allStones_6 (by decide) (by omega) (by omega) (fun c6 => absurd c6 (by omega)) (fun _ => ?_)
  refine z_iload_n hX 1 dX2_allStones_9 rfl ?_
  refine z_aload_n hX 2 dX2_allStones_10 rfl ?_
  refine z_get (v := .ref b) hX fX2 0 0 rfl rfl (Nat.le_of_ble_eq_true rfl) fl_X2_9 rfl dX2_allStones_11 ?_
  refine z_iload_n hX 0 dX2_allStones_14 rfl ?_
  refine z_iald (v := (nI (s 7))) hX 1 (j := 0) rfl (by omega) (by decide) rfl dX2_allStones_15 ?_
  refine z_iadd (v := (nI (s 7))) hX dX2_allStones_16 ((nI_add _ _).trans (congrArg nI (by omega))) ?_
  refine z_istore_n (L' := [(1, .int (nI (s 7))), (2, .int (nI 0)), (0, .ref a)]) hX dX2_allStones_17 (Nat.le_of_ble_eq_true rfl) rfl ?_
  refine z_iinc (v := (nI 1)) (L' := [(2, .int (nI 1)), (1, .int (nI (s 7))), (0, .ref a)]) hX 1 dX2_allStones_18 rfl (by decide) (Nat.le_of_ble_eq_true rfl) rfl ?_
  refine z_goto (tgt := 4) hX dX2_allStones_21 (by decide) ?_
  refine z_iload_n hX 0 dX2_allStones_4 rfl ?_
  refine z_iconst (v := nI 4) hX dX2_allStones_5 (by decide) ?_
  refine zn_icmp_ge (tgt := 24) hX dX2_allStones_6 (by decide) (by omega) (by omega) (fun c6 => absurd c6 (by omega)) (fun _ => ?_)
  refine z_iload_n hX 1 dX2_allStones_9 rfl ?_
  refine z_aload_n hX 2 dX2_allStones_10 rfl ?_
  refine z_get (v := .ref b) hX fX2 0 0 rfl rfl (Nat.le_of_ble_eq_true rfl) fl_X2_9 rfl dX2_allStones_11 ?_
  refine z_iload_n hX 0 dX2_allStones_14 rfl ?_
  refine z_iald (v := (nI (s 8))) hX 1 (j := 1) rfl (by omega) (by decide) rfl dX2_allStones_15 ?_
  refine z_iadd (v := (nI (s 7 + s 8))) hX dX2_allStones_16 (nI_add _ _) ?_
  refine z_istore_n (L' := [(1, .int (nI (s 7 + s 8))), (2, .int (nI 1)), (0, .ref a)]) hX dX2_allStones_17 (Nat.le_of_ble_eq_true rfl) rfl ?_
  refine z_iinc (v := (nI 2)) (L' := [(2, .int (nI 2)), (1, .int (nI (s 7 + s 8))), (0, .ref a)]) hX 1 dX2_allStones_18 rfl (by decide) (Nat.le_of_ble_eq_true rfl) rfl ?_
  refine z_goto (tgt := 4) hX dX2_allStones_21 (by decide) ?_
  refine z_iload_n hX 0 dX2_allStones_4 rfl ?_
  refine z_iconst (v := nI 4) hX dX2_allStones_5 (by decide) ?_
  refine zn_icmp_ge (tgt := 24) hX dX2_allStones_6 (by decide) (by omega) (by omega) (fun c6 => absurd c6 (by omega)) (fun _ => ?_)
  refine z_iload_n hX 1 dX2_allStones_9 rfl ?_
  refine z_aload_n hX 2 dX2_allStones_10 rfl ?_
  refine z_get (v := .ref b) hX fX2 0 0 rfl rfl (Nat.le_of_ble_eq_true rfl) fl_X2_9 rfl dX2_allStones_11 ?_
  refine z_iload_n hX 0 dX2_allStones_14 rfl ?_
  refine z_iald (v := (nI (s 9))) hX 1 (j := 2) rfl (by omega) (by decide) rfl dX2_allStones_15 ?_
  refine z_iadd (v := (nI (s 7 + s 8 + s 9))) hX dX2_allStones_16 (nI_add _ _) ?_
  refine z_istore_n (L' := [(1, .int (nI (s 7 + s 8 + s 9))), (2, .int (nI 2)), (0, .ref a)]) hX dX2_allStones_17 (Nat.le_of_ble_eq_true rfl) rfl ?_
  refine z_iinc (v := (nI 3)) (L' := [(2, .int (nI 3)), (1, .int (nI (s 7 + s 8 + s 9))), (0, .ref a)]) hX 1 dX2_allStones_18 rfl (by decide) (Nat.le_of_ble_eq_true rfl) rfl ?_
  refine z_goto (tgt := 4) hX dX2_allStones_21 (by decide) ?_
  refine z_iload_n hX 0 dX2_allStones_4 rfl ?_
  refine z_iconst (v := nI 4) hX dX2_allStones_5 (by decide) ?_
  refine zn_icmp_ge (tgt := 24) hX dX2_allStones_6 (by decide) (by omega) (by omega) (fun c6 => absurd c6 (by omega)) (fun _ => ?_)
  refine z_iload_n hX 1 dX2_allStones_9 rfl ?_
  refine z_aload_n hX 2 dX2_allStones_10 rfl ?_
  refine z_get (v := .ref b) hX fX2 0 0 rfl rfl (Nat.le_of_ble_eq_true rfl) fl_X2_9 rfl dX2_allStones_11 ?_
  refine z_iload_n hX 0 dX2_allStones_14 rfl ?_
  refine z_iald (v := (nI (s 10))) hX 1 (j := 3) rfl (by omega) (by decide) rfl dX2_allStones_15 ?_
  refine z_iadd (v := (nI (s 7 + s 8 + s 9 + s 10))) hX dX2_allStones_16 (nI_add _ _) ?_
  refine z_istore_n (L' := [(1, .int (nI (s 7 + s 8 + s 9 + s 10))), (2, .int (nI 3)), (0, .ref a)]) hX dX2_allStones_17 (Nat.le_of_ble_eq_true rfl) rfl ?_
  refine z_iinc (v := (nI 4)) (L' := [(2, .int (nI 4)), (1, .int (nI (s 7 + s 8 + s 9 + s 10))), (0, .ref a)]) hX 1 dX2_allStones_18 rfl (by decide) (Nat.le_of_ble_eq_true rfl) rfl ?_
  refine z_goto (tgt := 4) hX dX2_allStones_21 (by decide) ?_
  refine z_iload_n hX 0 dX2_allStones_4 rfl ?_
  refine z_iconst (v := nI 4) hX dX2_allStones_5 (by decide) ?_
  refine zn_icmp_ge (tgt := 24) hX dX2_allStones_6 (by decide) (by omega) (by omega) (fun _ => ?_) (fun c6 => absurd c6 (by omega))
  refine z_iload_n hX 1 dX2_allStones_24 rfl ?_
  exact hR _ () _ _ rfl dX2_allStones_25 rfl
set_option maxRecDepth 100000 in
set_option maxHeartbeats 4000000 in
theorem c_X2_holes (l : Launch) (G : zG) (a : Nat) (b : Nat) (s : nst) (h0 : ∀ j, j < 4 → s (7 + j) ≤ 40) : zMi l G yX2_holes cX2_holes 3 .int 0 0 0 0 [.ref a] [ob a 2 (mf b s), ia G b 4 (fN (sh 7 s))] (fun (r : Int32) (_u : Unit) => r = nI (holesTo s 4)) (fun (_u : Unit) => [ob a 2 (mf b s), ia G b 4 (fN (sh 7 s))]) := by
  refine zMi.of (by decide) rfl (fun X A H0 hX hXl hR => ?_)
  show Z (X, G, A, H0, 3) 0 0 [ob a 2 (mf b s), ia G b 4 (fN (sh 7 s))] 0 [(0, .ref a)] []
  subst hXl
  refine z_iconst (v := nI 0) hX dX2_holes_0 (by decide) ?_
  refine z_istore_n (L' := [(1, .int (nI 0)), (0, .ref a)]) hX dX2_holes_1 (Nat.le_of_ble_eq_true rfl) rfl ?_
  refine z_iconst (v := nI 0) hX dX2_holes_2 (by decide) ?_
  refine z_istore_n (L' := [(2, .int (nI 0)), (1, .int (nI 0)), (0, .ref a)]) hX dX2_holes_3 (Nat.le_of_ble_eq_true rfl) rfl ?_
  have lp4 : ∀ (n4 : Nat) (j : Nat) (e : Nat), (4 + 1 ≤ j + n4) → (j ≤ 4) → (e = holesTo s j) → Z (X, G, A, H0, 3) 0 0 [ob a 2 (mf b s), ia G b 4 (fN (sh 7 s))] 4 [(0, .ref a), (1, .int (nI e)), (2, .int (nI j))] [] := by
    intro n4
    induction n4 with
    | zero =>
      intro j e hn hj he
      exfalso
      omega
    | succ n4 ih4 =>
      intro j e hn hj he
      refine z_iload_n hX 2 dX2_holes_4 rfl ?_
      refine z_iconst (v := nI 4) hX dX2_holes_5 (by decide) ?_
      refine zn_icmp_ge (tgt := 30) hX dX2_holes_6 (by decide) (by omega) (by omega) (fun c6 => ?_) (fun c6 => ?_)
      · skip
        refine z_iload_n hX 1 dX2_holes_30 rfl ?_
        have ej : j = 4 := by omega
        subst ej
        rw [he]
        exact hR _ () _ _ rfl dX2_holes_31 rfl
      · skip
        have q1 := h0 j (by omega)
        refine z_aload_n hX 0 dX2_holes_9 rfl ?_
        refine z_get (v := .ref b) hX fX2 0 0 rfl rfl (Nat.le_of_ble_eq_true rfl) fl_X2_9 rfl dX2_holes_10 ?_
        refine z_iload_n hX 2 dX2_holes_13 rfl ?_
        refine z_iald (v := (nI (s (7 + j)))) hX 1 (j := j) rfl (by omega) (by decide) rfl dX2_holes_14 ?_
        refine zn_if_ne (tgt := 24) hX dX2_holes_15 (by decide) (by omega) (fun c15 => ?_) (fun c15 => ?_)
        · skip
          refine z_iinc (v := (nI (j + 1))) (L' := [(2, .int (nI (j + 1))), (0, .ref a), (1, .int (nI e))]) hX 2 dX2_holes_24 rfl (nI_inc _) (Nat.le_of_ble_eq_true rfl) rfl ?_
          refine z_goto (tgt := 4) hX dX2_holes_27 (by decide) ?_
          refine z_lsub [1, 2, 0] rfl ?_
          exact ih4 (j + 1) e (by omega) (by omega) (by rw [holesTo, if_neg c15, he])
        · skip
          refine z_iload_n hX 1 dX2_holes_18 rfl ?_
          refine z_iconst (v := nI 1) hX dX2_holes_19 (by decide) ?_
          refine z_iload_n hX 2 dX2_holes_20 rfl ?_
          refine z_ishl (v := (nI (2 ^ j))) hX dX2_holes_21 (shl_nI _ (by omega)) ?_
          refine z_ior (v := (nI (e ||| (2 ^ j)))) hX dX2_holes_22 (or_nI _ _) ?_
          refine z_istore_n (L' := [(1, .int (nI (e ||| (2 ^ j)))), (0, .ref a), (2, .int (nI j))]) hX dX2_holes_23 (Nat.le_of_ble_eq_true rfl) rfl ?_
          refine z_iinc (v := (nI (j + 1))) (L' := [(2, .int (nI (j + 1))), (1, .int (nI (e ||| (2 ^ j)))), (0, .ref a)]) hX 2 dX2_holes_24 rfl (nI_inc _) (Nat.le_of_ble_eq_true rfl) rfl ?_
          refine z_goto (tgt := 4) hX dX2_holes_27 (by decide) ?_
          refine z_lsub [2, 1, 0] rfl ?_
          exact ih4 (j + 1) (e ||| (2 ^ j)) (by omega) (by omega) (by rw [holesTo, if_pos c15, he])
  refine z_lsub [2, 1, 0] rfl ?_
  exact lp4 5 0 0 (by omega) (by omega) rfl
set_option maxRecDepth 100000 in
set_option maxHeartbeats 4000000 in
theorem c_X2_lose (l : Launch) (G : zG) (a : Nat) (b : Nat) (s : nst) (k : Nat) (m : Nat) (h0 : k < 4) (h1 : s (7 + k) ≤ 40) (h2 : m ≤ 1000) : zMv l G yX2_lose cX2_lose 3 1 0 0 21 [.ref a, .int (nI k), .int (nI m)] [ob a 2 (mf b s), ia G b 4 (fN (sh 7 s))] (fun (_u : Unit) => True) (fun (_u : Unit) => [ob a 2 (mf b (va_up s (7 + k) (s (7 + k) - m))), ia G b 4 (fN (sh 7 (va_up s (7 + k) (s (7 + k) - m))))]) := by
  refine zMv.of (by decide) rfl (fun X A H0 hX hXl hnm hR => ?_)
  show Z (X, G, A, H0, 3) 0 0 [ob a 2 (mf b s), ia G b 4 (fN (sh 7 s))] 0 [(0, .ref a), (1, .int (nI k)), (2, .int (nI m))] []
  subst hXl
  refine z_aload_n hX 0 dX2_lose_0 rfl ?_
  refine z_get (v := .ref b) hX fX2 0 0 rfl rfl (Nat.le_of_ble_eq_true rfl) fl_X2_9 rfl dX2_lose_1 ?_
  refine z_iload_n hX 1 dX2_lose_4 rfl ?_
  refine z_iconst (v := nI 0) hX dX2_lose_5 (by decide) ?_
  refine z_aload_n hX 0 dX2_lose_6 rfl ?_
  refine z_get (v := .ref b) hX fX2 0 0 rfl rfl (Nat.le_of_ble_eq_true rfl) fl_X2_9 rfl dX2_lose_7 ?_
  refine z_iload_n hX 1 dX2_lose_10 rfl ?_
  refine z_iald (v := (nI (s (7 + k)))) hX 1 (j := k) rfl (by omega) (by decide) rfl dX2_lose_11 ?_
  refine z_iload_n hX 2 dX2_lose_12 rfl ?_
  refine z_isub (v := (nI (s (7 + k)) - nI m)) hX dX2_lose_13 rfl ?_
  refine z_max (v := (nI (s (7 + k) - m))) hX ml_X2_38 (lose_nI (by omega) (by omega)) rfl ⟨Nat.zero_le _, Nat.zero_le _⟩ dX2_lose_14 ?_
  refine z_iastM (j := k) (v := s (7 + k) - m) (ws' := [ob a 2 (mf b (va_up s (7 + k) (s (7 + k) - m))), ia G b 4 (fN (sh 7 (va_up s (7 + k) (s (7 + k) - m))))]) hX 0 1 rfl rfl (by omega) rfl rfl dX2_lose_17 ?_
  exact hR () _ _ trivial dX2_lose_18
set_option maxRecDepth 100000 in
set_option maxHeartbeats 4000000 in
theorem c_X2_loseAll (l : Launch) (G : zG) (a : Nat) (b : Nat) (s : nst) (m : Nat) (h0 : ∀ j, j < 4 → s (7 + j) ≤ 40) (h1 : m ≤ 1000) : zMv l G yX2_loseAll cX2_loseAll 3 2 0 0 43 [.ref a, .int (nI m)] [ob a 2 (mf b s), ia G b 4 (fN (sh 7 s))] (fun (_u : Unit) => True) (fun (_u : Unit) => [ob a 2 (mf b (floodS m s)), ia G b 4 (fN (sh 7 (floodS m s)))]) := by
  refine zMv.of (by decide) rfl (fun X A H0 hX hXl hnm hR => ?_)
  show Z (X, G, A, H0, 3) 0 0 [ob a 2 (mf b s), ia G b 4 (fN (sh 7 s))] 0 [(0, .ref a), (1, .int (nI m))] []
  subst hXl
  have q0 := h0 0 (by omega)
  have q1 := h0 1 (by omega)
  have q2 := h0 2 (by omega)
  have q3 := h0 3 (by omega)
  refine z_iconst (v := nI 0) hX dX2_loseAll_0 (by decide) ?_
  refine z_istore_n (L' := [(2, .int (nI 0)), (0, .ref a), (1, .int (nI m))]) hX dX2_loseAll_1 (Nat.le_of_ble_eq_true rfl) rfl ?_
  refine z_iload_n hX 0 dX2_loseAll_2 rfl ?_
  refine z_iconst (v := nI 4) hX dX2_loseAll_3 (by decide) ?_
  refine zn_icmp_ge (tgt := 19) hX dX2_loseAll_4 (by decide) (by omega) (by omega) (fun c4 => absurd c4 (by omega)) (fun _ => ?_)
  refine z_aload_n hX 1 dX2_loseAll_7 rfl ?_
  refine z_iload_n hX 0 dX2_loseAll_8 rfl ?_
  refine z_iload_n hX 2 dX2_loseAll_9 rfl ?_
  refine z_callVv (st := []) hX (c_X2_lose _ G a b s 0 m (by omega) (show _ from q0) (by omega)) lb_X2_lose ml_X2_44 (fun (_u : Unit) => [ob a 2 (mf b (va_up s 7 (s 7 - m))), ia G b 4 (fN (sh 7 (va_up s 7 (s 7 - m))))]) (wr := []) [0, 1] [] [0, 1] ⟨rfl, rfl, rfl, fun _ => rfl⟩ 0 rfl rfl rfl rfl ⟨Nat.le_refl _, Nat.le_refl _⟩ dX2_loseAll_10 rfl (fun  u10 hw10 => ?_)
  refine z_iinc (v := (nI 1)) (L' := [(2, .int (nI 1)), (0, .ref a), (1, .int (nI m))]) hX 0 dX2_loseAll_13 rfl (by decide) (Nat.le_of_ble_eq_true rfl) rfl ?_
  refine z_goto (tgt := 2) hX dX2_loseAll_16 (by decide) ?_
  refine z_iload_n hX 0 dX2_loseAll_2 rfl ?_
  refine z_iconst (v := nI 4) hX dX2_loseAll_3 (by decide) ?_
  refine zn_icmp_ge (tgt := 19) hX dX2_loseAll_4 (by decide) (by omega) (by omega) (fun c4 => absurd c4 (by omega)) (fun _ => ?_)
  refine z_aload_n hX 1 dX2_loseAll_7 rfl ?_
  refine z_iload_n hX 0 dX2_loseAll_8 rfl ?_
  refine z_iload_n hX 2 dX2_loseAll_9 rfl ?_
  refine z_callVv (st := []) hX (c_X2_lose _ G a b (va_up s 7 (s 7 - m)) 1 m (by omega) (show _ from q1) (by omega)) lb_X2_lose ml_X2_44 (fun (_u : Unit) => [ob a 2 (mf b (va_up (va_up s 7 (s 7 - m)) 8 (s 8 - m))), ia G b 4 (fN (sh 7 (va_up (va_up s 7 (s 7 - m)) 8 (s 8 - m))))]) (wr := []) [0, 1] [] [0, 1] ⟨rfl, rfl, rfl, fun _ => rfl⟩ 0 rfl rfl rfl rfl ⟨Nat.le_refl _, Nat.le_refl _⟩ dX2_loseAll_10 rfl (fun  u10 hw10 => ?_)
  refine z_iinc (v := (nI 2)) (L' := [(2, .int (nI 2)), (0, .ref a), (1, .int (nI m))]) hX 0 dX2_loseAll_13 rfl (by decide) (Nat.le_of_ble_eq_true rfl) rfl ?_
  refine z_goto (tgt := 2) hX dX2_loseAll_16 (by decide) ?_
  refine z_iload_n hX 0 dX2_loseAll_2 rfl ?_
  refine z_iconst (v := nI 4) hX dX2_loseAll_3 (by decide) ?_
  refine zn_icmp_ge (tgt := 19) hX dX2_loseAll_4 (by decide) (by omega) (by omega) (fun c4 => absurd c4 (by omega)) (fun _ => ?_)
  refine z_aload_n hX 1 dX2_loseAll_7 rfl ?_
  refine z_iload_n hX 0 dX2_loseAll_8 rfl ?_
  refine z_iload_n hX 2 dX2_loseAll_9 rfl ?_
  refine z_callVv (st := []) hX (c_X2_lose _ G a b (va_up (va_up s 7 (s 7 - m)) 8 (s 8 - m)) 2 m (by omega) (show _ from q2) (by omega)) lb_X2_lose ml_X2_44 (fun (_u : Unit) => [ob a 2 (mf b (va_up (va_up (va_up s 7 (s 7 - m)) 8 (s 8 - m)) 9 (s 9 - m))), ia G b 4 (fN (sh 7 (va_up (va_up (va_up s 7 (s 7 - m)) 8 (s 8 - m)) 9 (s 9 - m))))]) (wr := []) [0, 1] [] [0, 1] ⟨rfl, rfl, rfl, fun _ => rfl⟩ 0 rfl rfl rfl rfl ⟨Nat.le_refl _, Nat.le_refl _⟩ dX2_loseAll_10 rfl (fun  u10 hw10 => ?_)
  refine z_iinc (v := (nI 3)) (L' := [(2, .int (nI 3)), (0, .ref a), (1, .int (nI m))]) hX 0 dX2_loseAll_13 rfl (by decide) (Nat.le_of_ble_eq_true rfl) rfl ?_
  refine z_goto (tgt := 2) hX dX2_loseAll_16 (by decide) ?_
  refine z_iload_n hX 0 dX2_loseAll_2 rfl ?_
  refine z_iconst (v := nI 4) hX dX2_loseAll_3 (by decide) ?_
  refine zn_icmp_ge (tgt := 19) hX dX2_loseAll_4 (by decide) (by omega) (by omega) (fun c4 => absurd c4 (by omega)) (fun _ => ?_)
  refine z_aload_n hX 1 dX2_loseAll_7 rfl ?_
  refine z_iload_n hX 0 dX2_loseAll_8 rfl ?_
  refine z_iload_n hX 2 dX2_loseAll_9 rfl ?_
  refine z_callVv (st := []) hX (c_X2_lose _ G a b (va_up (va_up (va_up s 7 (s 7 - m)) 8 (s 8 - m)) 9 (s 9 - m)) 3 m (by omega) (show _ from q3) (by omega)) lb_X2_lose ml_X2_44 (fun (_u : Unit) => [ob a 2 (mf b (va_up (va_up (va_up (va_up s 7 (s 7 - m)) 8 (s 8 - m)) 9 (s 9 - m)) 10 (s 10 - m))), ia G b 4 (fN (sh 7 (va_up (va_up (va_up (va_up s 7 (s 7 - m)) 8 (s 8 - m)) 9 (s 9 - m)) 10 (s 10 - m))))]) (wr := []) [0, 1] [] [0, 1] ⟨rfl, rfl, rfl, fun _ => rfl⟩ 0 rfl rfl rfl rfl ⟨Nat.le_refl _, Nat.le_refl _⟩ dX2_loseAll_10 rfl (fun  u10 hw10 => ?_)
  refine z_iinc (v := (nI 4)) (L' := [(2, .int (nI 4)), (0, .ref a), (1, .int (nI m))]) hX 0 dX2_loseAll_13 rfl (by decide) (Nat.le_of_ble_eq_true rfl) rfl ?_
  refine z_goto (tgt := 2) hX dX2_loseAll_16 (by decide) ?_
  refine z_iload_n hX 0 dX2_loseAll_2 rfl ?_
  refine z_iconst (v := nI 4) hX dX2_loseAll_3 (by decide) ?_
  refine zn_icmp_ge (tgt := 19) hX dX2_loseAll_4 (by decide) (by omega) (by omega) (fun _ => ?_) (fun c4 => absurd c4 (by omega))
  exact hR () _ _ trivial dX2_loseAll_19
set_option maxRecDepth 100000 in
set_option maxHeartbeats 4000000 in
theorem c_X2_drawLook (l : Launch) (G : zG) (a : Nat) (b : Nat) (s : nst) (h0 : s 6 < 2147483648) : zMv l G yX2_drawLook cX2_drawLook 1 0 0 0 0 [.ref a] [ob a 2 (mf b s), ia G b 4 (fN (sh 7 s))] (fun (_u : Unit) => True) (fun (_u : Unit) => [ob a 2 (mf b (drawS s)), ia G b 4 (fN (sh 7 (drawS s)))]) := by
  refine zMv.of (by decide) rfl (fun X A H0 hX hXl hnm hR => ?_)
  show Z (X, G, A, H0, 1) 0 0 [ob a 2 (mf b s), ia G b 4 (fN (sh 7 s))] 0 [(0, .ref a)] []
  subst hXl
  obtain ⟨d, hdd⟩ : ∃ d, drawN (s 6) = d := ⟨_, rfl⟩
  have hd : d < 2147483648 := by rw [← hdd, drawN_eq]; exact Nat.mod_lt _ (by decide)
  refine z_aload_n hX 0 dX2_drawLook_0 rfl ?_
  refine z_aload_n hX 0 dX2_drawLook_1 rfl ?_
  refine z_get (v := .int (nI (s 6))) hX fX2 0 6 rfl rfl (Nat.le_of_ble_eq_true rfl) fl_X2_31 rfl dX2_drawLook_2 ?_
  refine z_i2l (v := (lN (s 6))) hX dX2_drawLook_5 (nI_l (by omega)) ?_
  refine z_ldc2 (v := lN 1103515245) hX kl_X2_85 dX2_drawLook_6 ?_
  refine z_lmul (v := (lN (s 6 * 1103515245))) hX dX2_drawLook_9 (lN_mul _ _) ?_
  refine z_ldc2 (v := lN 12345) hX kl_X2_87 dX2_drawLook_10 ?_
  refine z_ladd (v := (lN (s 6 * 1103515245 + 12345))) hX dX2_drawLook_13 (lN_add _ _) ?_
  refine z_ldc2 (v := lN 2147483647) hX kl_X2_89 dX2_drawLook_14 ?_
  refine z_land (v := (lN d)) hX dX2_drawLook_17 ((lN_mask31 _).trans (congrArg lN ((drawN_eq _).symm.trans hdd))) ?_
  refine z_l2i (v := (nI d)) hX dX2_drawLook_18 (lN_i _) ?_
  refine z_putM (v := d) (ws' := [ob a 2 (mf b (va_up s 6 d)), ia G b 4 (fN (sh 7 (va_up s 6 d)))]) hX 0 1 6 6 rfl rfl rfl rfl rfl fl_X2_31 rfl rfl rfl rfl dX2_drawLook_19 ?_
  refine z_aload_n hX 0 dX2_drawLook_22 rfl ?_
  refine z_get (v := .int (nI d)) hX fX2 0 6 rfl rfl (Nat.le_of_ble_eq_true rfl) fl_X2_31 rfl dX2_drawLook_23 ?_
  refine z_ldc (v := nI 65536) hX kc_X2_91 dX2_drawLook_26 ?_
  refine z_idiv (v := (nI (d / 65536))) hX dX2_drawLook_28 (nI_ne0 (by omega) (by omega)) (pk_div (by omega) (by omega) (by omega)) ?_
  refine z_iconst (v := nI 5) hX dX2_drawLook_29 (by decide) ?_
  refine z_irem (v := (nI ((d / 65536) % 5))) hX dX2_drawLook_30 (nI_ne0 (by omega) (by omega)) (pk_rem (by omega) (by omega) (by omega)) ?_
  refine zn_if_ne (tgt := 56) hX dX2_drawLook_31 (by decide) (by omega) (fun c31 => ?_) (fun c31 => ?_)
  · skip
    have e1 : va_up s 6 d = drawS s := by unfold drawS; rw [hdd, if_neg c31]
    rw [e1]
    exact hR () _ _ trivial dX2_drawLook_56
  · skip
    refine z_aload_n hX 0 dX2_drawLook_34 rfl ?_
    refine z_dup hX dX2_drawLook_35 rfl ?_
    refine z_get (v := .int (nI (s 2))) hX fX2 0 1 rfl rfl (Nat.le_of_ble_eq_true rfl) fl_X2_15 rfl dX2_drawLook_36 ?_
    refine z_iconst (v := nI 1) hX dX2_drawLook_39 (by decide) ?_
    refine z_aload_n hX 0 dX2_drawLook_40 rfl ?_
    refine z_get (v := .int (nI d)) hX fX2 0 6 rfl rfl (Nat.le_of_ble_eq_true rfl) fl_X2_31 rfl dX2_drawLook_41 ?_
    refine z_sipush (v := nI 128) hX dX2_drawLook_44 (by decide) ?_
    refine z_idiv (v := (nI (d / 128))) hX dX2_drawLook_47 (nI_ne0 (by omega) (by omega)) (pk_div (by omega) (by omega) (by omega)) ?_
    refine z_bipush (v := nI 6) hX dX2_drawLook_48 (by decide) ?_
    refine z_irem (v := (nI ((d / 128) % 6))) hX dX2_drawLook_50 (nI_ne0 (by omega) (by omega)) (pk_rem (by omega) (by omega) (by omega)) ?_
    refine z_ishl (v := (nI (2 ^ ((d / 128) % 6)))) hX dX2_drawLook_51 (shl_nI _ (by omega)) ?_
    refine z_ixor (v := (nI ((s 2) ^^^ (2 ^ ((d / 128) % 6))))) hX dX2_drawLook_52 (xor_nI _ _) ?_
    refine z_putM (v := (s 2) ^^^ (2 ^ ((d / 128) % 6))) (ws' := [ob a 2 (mf b (va_up (va_up s 6 d) 2 ((s 2) ^^^ (2 ^ ((d / 128) % 6))))), ia G b 4 (fN (sh 7 (va_up (va_up s 6 d) 2 ((s 2) ^^^ (2 ^ ((d / 128) % 6))))))]) hX 0 1 1 2 rfl rfl rfl rfl rfl fl_X2_15 rfl rfl rfl rfl dX2_drawLook_53 ?_
    have e1 : va_up (va_up s 6 d) 2 ((s 2) ^^^ (2 ^ ((d / 128) % 6))) = drawS s := by unfold drawS; rw [hdd, if_pos c31]
    rw [e1]
    exact hR () _ _ trivial dX2_drawLook_56
set_option maxRecDepth 100000 in
set_option maxHeartbeats 4000000 in
theorem c_X1_hasRoom (l : Launch) (G : zG) (ca : Nat) (ck : Nat) (cl : Nat) (ce : Nat) (sz : Nat) (h0 : sz < 2147483648) : zMi l G yX1_hasRoom cX1_hasRoom 1 .boolean 0 0 0 0 [.ref ca] [ob ca 1 [.ref ck, .ref cl, .ref ce, .int (nI sz)]] (fun (r : Int32) (_u : Unit) => zb (sz < 6) r) (fun (_u : Unit) => [ob ca 1 [.ref ck, .ref cl, .ref ce, .int (nI sz)]]) := by
  refine zMi.of (by decide) rfl (fun X A H0 hX hXl hR => ?_)
  show Z (X, G, A, H0, 1) 0 0 [ob ca 1 [.ref ck, .ref cl, .ref ce, .int (nI sz)]] 0 [(0, .ref ca)] []
  subst hXl
  refine z_aload_n hX 0 dX1_hasRoom_0 rfl ?_
  refine z_get (v := .int (nI sz)) hX fX1 0 3 rfl rfl (Nat.le_of_ble_eq_true rfl) fl_X1_21 rfl dX1_hasRoom_1 ?_
  refine z_bipush (v := nI 6) hX dX1_hasRoom_4 (by decide) ?_
  refine zn_icmp_ge (tgt := 13) hX dX1_hasRoom_6 (by decide) (by omega) (by omega) (fun c6 => ?_) (fun c6 => ?_)
  · skip
    refine z_iconst (v := nI 0) hX dX1_hasRoom_13 (by decide) ?_
    exact hR _ () _ _ ⟨fun hz => absurd hz (by omega), fun _ => rfl⟩ dX1_hasRoom_14 rfl
  · skip
    refine z_iconst (v := nI 1) hX dX1_hasRoom_9 (by decide) ?_
    refine z_goto (tgt := 14) hX dX1_hasRoom_10 (by decide) ?_
    exact hR _ () _ _ ⟨fun _ => rfl, fun hz => absurd (by omega) hz⟩ dX1_hasRoom_14 rfl
set_option maxRecDepth 100000 in
set_option maxHeartbeats 4000000 in
theorem c_X1_join (l : Launch) (G : zG) (ca : Nat) (ck : Nat) (cl : Nat) (ce : Nat) (sz : Nat) (fk : Nat → Int32) (fl : Nat → Int32) (fe : Nat → Int32) (kd : Nat) (lk : Nat) (ev : Nat) (h0 : sz < 6) : zMv l G yX1_join cX1_join 4 1 0 0 20 [.ref ca, .int (nI kd), .int (nI lk), .int (nI ev)] [ob ca 1 [.ref ck, .ref cl, .ref ce, .int (nI sz)], ia G ck 6 fk, ia G cl 6 fl, ia G ce 6 fe] (fun (_u : Unit) => True) (fun (_u : Unit) => [ob ca 1 [.ref ck, .ref cl, .ref ce, .int (nI (sz + 1))], ia G ck 6 (upd fk sz (nI kd)), ia G cl 6 (upd fl sz (nI lk)), ia G ce 6 (upd fe sz (nI ev))]) := by
  refine zMv.of (by decide) rfl (fun X A H0 hX hXl hnm hR => ?_)
  show Z (X, G, A, H0, 4) 0 0 [ob ca 1 [.ref ck, .ref cl, .ref ce, .int (nI sz)], ia G ck 6 fk, ia G cl 6 fl, ia G ce 6 fe] 0 [(0, .ref ca), (1, .int (nI kd)), (2, .int (nI lk)), (3, .int (nI ev))] []
  subst hXl
  refine z_aload_n hX 0 dX1_join_0 rfl ?_
  refine z_callVi (st := []) hX (c_X1_hasRoom _ G ca ck cl ce sz (by omega)) lb_X1_hasRoom ml_X1_25 (fun (_u : Unit) => [ob ca 1 [.ref ck, .ref cl, .ref ce, .int (nI sz)], ia G ck 6 fk, ia G cl 6 fl, ia G ce 6 fe]) (wr := [ia G ck 6 fk, ia G cl 6 fl, ia G ce 6 fe]) [0] [1, 2, 3] [3, 0, 1, 2] ⟨rfl, rfl, rfl, fun _ => rfl⟩ 0 rfl rfl rfl rfl ⟨Nat.le_refl _, Nat.le_refl _⟩ dX1_join_1 rfl (fun r1 u1 hw1 => ?_)
  try dsimp only at hw1
  rcases Classical.em (sz < 6) with b1 | b1
  · obtain rfl := hw1.1 b1
    refine zn_if_ne (tgt := 8) hX dX1_join_4 (by decide) (by omega) (fun _ => ?_) (fun c4 => absurd c4 (by omega))
    refine z_aload_n hX 0 dX1_join_8 rfl ?_
    refine z_get (v := .ref ck) hX fX1 0 0 rfl rfl (Nat.le_of_ble_eq_true rfl) fl_X1_9 rfl dX1_join_9 ?_
    refine z_aload_n hX 0 dX1_join_12 rfl ?_
    refine z_get (v := .int (nI sz)) hX fX1 0 3 rfl rfl (Nat.le_of_ble_eq_true rfl) fl_X1_21 rfl dX1_join_13 ?_
    refine z_iload_n hX 1 dX1_join_16 rfl ?_
    refine z_iast (ws' := [ob ca 1 [.ref ck, .ref cl, .ref ce, .int (nI sz)], ia G ck 6 (upd fk sz (nI kd)), ia G cl 6 fl, ia G ce 6 fe]) hX 1 (j := sz) rfl (by omega) (by decide) rfl rfl dX1_join_17 ?_
    refine z_aload_n hX 0 dX1_join_18 rfl ?_
    refine z_get (v := .ref cl) hX fX1 0 1 rfl rfl (Nat.le_of_ble_eq_true rfl) fl_X1_15 rfl dX1_join_19 ?_
    refine z_aload_n hX 0 dX1_join_22 rfl ?_
    refine z_get (v := .int (nI sz)) hX fX1 0 3 rfl rfl (Nat.le_of_ble_eq_true rfl) fl_X1_21 rfl dX1_join_23 ?_
    refine z_iload_n hX 2 dX1_join_26 rfl ?_
    refine z_iast (ws' := [ob ca 1 [.ref ck, .ref cl, .ref ce, .int (nI sz)], ia G ck 6 (upd fk sz (nI kd)), ia G cl 6 (upd fl sz (nI lk)), ia G ce 6 fe]) hX 2 (j := sz) rfl (by omega) (by decide) rfl rfl dX1_join_27 ?_
    refine z_aload_n hX 0 dX1_join_28 rfl ?_
    refine z_get (v := .ref ce) hX fX1 0 2 rfl rfl (Nat.le_of_ble_eq_true rfl) fl_X1_18 rfl dX1_join_29 ?_
    refine z_aload_n hX 0 dX1_join_32 rfl ?_
    refine z_get (v := .int (nI sz)) hX fX1 0 3 rfl rfl (Nat.le_of_ble_eq_true rfl) fl_X1_21 rfl dX1_join_33 ?_
    refine z_iload_n hX 3 dX1_join_36 rfl ?_
    refine z_iast (ws' := [ob ca 1 [.ref ck, .ref cl, .ref ce, .int (nI sz)], ia G ck 6 (upd fk sz (nI kd)), ia G cl 6 (upd fl sz (nI lk)), ia G ce 6 (upd fe sz (nI ev))]) hX 3 (j := sz) rfl (by omega) (by decide) rfl rfl dX1_join_37 ?_
    refine z_aload_n hX 0 dX1_join_38 rfl ?_
    refine z_dup hX dX1_join_39 rfl ?_
    refine z_get (v := .int (nI sz)) hX fX1 0 3 rfl rfl (Nat.le_of_ble_eq_true rfl) fl_X1_21 rfl dX1_join_40 ?_
    refine z_iconst (v := nI 1) hX dX1_join_43 (by decide) ?_
    refine z_iadd (v := (nI (sz + 1))) hX dX1_join_44 (nI_add _ _) ?_
    refine z_put (v := .int (nI (sz + 1))) (ws' := [ob ca 1 [.ref ck, .ref cl, .ref ce, .int (nI (sz + 1))], ia G ck 6 (upd fk sz (nI kd)), ia G cl 6 (upd fl sz (nI lk)), ia G ce 6 (upd fe sz (nI ev))]) hX fX1 0 3 rfl rfl (Nat.le_of_ble_eq_true rfl) fl_X1_21 rfl rfl rfl rfl rfl dX1_join_45 ?_
    exact hR () _ _ trivial dX1_join_48
  · obtain rfl := hw1.2 b1
    exfalso
    omega
set_option maxRecDepth 100000 in
set_option maxHeartbeats 4000000 in
theorem c_X1_take (l : Launch) (G : zG) (ca : Nat) (ck : Nat) (cl : Nat) (ce : Nat) (sz : Nat) (fk : Nat → Int32) (fl : Nat → Int32) (fe : Nat → Int32) (ca2 : Nat) (ck2 : Nat) (cl2 : Nat) (ce2 : Nat) (sz2 : Nat) (fk2 : Nat → Int32) (fl2 : Nat → Int32) (fe2 : Nat → Int32)  : zMv l G yX1_take cX1_take 3 0 0 0 0 [.ref ca, .ref ca2] [ob ca 1 [.ref ck, .ref cl, .ref ce, .int (nI sz)], ia G ck 6 fk, ia G cl 6 fl, ia G ce 6 fe, ob ca2 1 [.ref ck2, .ref cl2, .ref ce2, .int (nI sz2)], ia G ck2 6 fk2, ia G cl2 6 fl2, ia G ce2 6 fe2] (fun (_u : Unit) => True) (fun (_u : Unit) => [ob ca 1 [.ref ck, .ref cl, .ref ce, .int (nI sz2)], ia G ck 6 fk2, ia G cl 6 fl2, ia G ce 6 fe2, ob ca2 1 [.ref ck2, .ref cl2, .ref ce2, .int (nI sz2)], ia G ck2 6 fk2, ia G cl2 6 fl2, ia G ce2 6 fe2]) := by
  refine zMv.of (by decide) rfl (fun X A H0 hX hXl hnm hR => ?_)
  show Z (X, G, A, H0, 3) 0 0 [ob ca 1 [.ref ck, .ref cl, .ref ce, .int (nI sz)], ia G ck 6 fk, ia G cl 6 fl, ia G ce 6 fe, ob ca2 1 [.ref ck2, .ref cl2, .ref ce2, .int (nI sz2)], ia G ck2 6 fk2, ia G cl2 6 fl2, ia G ce2 6 fe2] 0 [(0, .ref ca), (1, .ref ca2)] []
  subst hXl
  refine z_iconst (v := nI 0) hX dX1_take_0 (by decide) ?_
  refine z_istore_n (L' := [(2, .int (nI 0)), (0, .ref ca), (1, .ref ca2)]) hX dX1_take_1 (Nat.le_of_ble_eq_true rfl) rfl ?_
  refine z_iload_n hX 0 dX1_take_2 rfl ?_
  refine z_bipush (v := nI 6) hX dX1_take_3 (by decide) ?_
  refine zn_icmp_ge (tgt := 50) hX dX1_take_5 (by decide) (by omega) (by omega) (fun c5 => absurd c5 (by omega)) (fun _ => ?_)
  refine z_aload_n hX 1 dX1_take_8 rfl ?_
  refine z_get (v := .ref ck) hX fX1 0 0 rfl rfl (Nat.le_of_ble_eq_true rfl) fl_X1_9 rfl dX1_take_9 ?_
  refine z_iload_n hX 0 dX1_take_12 rfl ?_
  refine z_aload_n hX 2 dX1_take_13 rfl ?_
  refine z_get (v := .ref ck2) hX fX1 4 0 rfl rfl (Nat.le_of_ble_eq_true rfl) fl_X1_9 rfl dX1_take_14 ?_
  refine z_iload_n hX 0 dX1_take_17 rfl ?_
  refine z_iald (v := (fk2 0)) hX 5 (j := 0) rfl (by omega) (by decide) rfl dX1_take_18 ?_
  refine z_iast (ws' := [ob ca 1 [.ref ck, .ref cl, .ref ce, .int (nI sz)], ia G ck 6 (upd fk 0 (fk2 0)), ia G cl 6 fl, ia G ce 6 fe, ob ca2 1 [.ref ck2, .ref cl2, .ref ce2, .int (nI sz2)], ia G ck2 6 fk2, ia G cl2 6 fl2, ia G ce2 6 fe2]) hX 1 (j := 0) rfl (by omega) (by decide) rfl rfl dX1_take_19 ?_
  refine z_aload_n hX 1 dX1_take_20 rfl ?_
  refine z_get (v := .ref cl) hX fX1 0 1 rfl rfl (Nat.le_of_ble_eq_true rfl) fl_X1_15 rfl dX1_take_21 ?_
  refine z_iload_n hX 0 dX1_take_24 rfl ?_
  refine z_aload_n hX 2 dX1_take_25 rfl ?_
  refine z_get (v := .ref cl2) hX fX1 4 1 rfl rfl (Nat.le_of_ble_eq_true rfl) fl_X1_15 rfl dX1_take_26 ?_
  refine z_iload_n hX 0 dX1_take_29 rfl ?_
  refine z_iald (v := (fl2 0)) hX 6 (j := 0) rfl (by omega) (by decide) rfl dX1_take_30 ?_
  refine z_iast (ws' := [ob ca 1 [.ref ck, .ref cl, .ref ce, .int (nI sz)], ia G ck 6 (upd fk 0 (fk2 0)), ia G cl 6 (upd fl 0 (fl2 0)), ia G ce 6 fe, ob ca2 1 [.ref ck2, .ref cl2, .ref ce2, .int (nI sz2)], ia G ck2 6 fk2, ia G cl2 6 fl2, ia G ce2 6 fe2]) hX 2 (j := 0) rfl (by omega) (by decide) rfl rfl dX1_take_31 ?_
  refine z_aload_n hX 1 dX1_take_32 rfl ?_
  refine z_get (v := .ref ce) hX fX1 0 2 rfl rfl (Nat.le_of_ble_eq_true rfl) fl_X1_18 rfl dX1_take_33 ?_
  refine z_iload_n hX 0 dX1_take_36 rfl ?_
  refine z_aload_n hX 2 dX1_take_37 rfl ?_
  refine z_get (v := .ref ce2) hX fX1 4 2 rfl rfl (Nat.le_of_ble_eq_true rfl) fl_X1_18 rfl dX1_take_38 ?_
  refine z_iload_n hX 0 dX1_take_41 rfl ?_
  refine z_iald (v := (fe2 0)) hX 7 (j := 0) rfl (by omega) (by decide) rfl dX1_take_42 ?_
  refine z_iast (ws' := [ob ca 1 [.ref ck, .ref cl, .ref ce, .int (nI sz)], ia G ck 6 (upd fk 0 (fk2 0)), ia G cl 6 (upd fl 0 (fl2 0)), ia G ce 6 (upd fe 0 (fe2 0)), ob ca2 1 [.ref ck2, .ref cl2, .ref ce2, .int (nI sz2)], ia G ck2 6 fk2, ia G cl2 6 fl2, ia G ce2 6 fe2]) hX 3 (j := 0) rfl (by omega) (by decide) rfl rfl dX1_take_43 ?_
  refine z_iinc (v := (nI 1)) (L' := [(2, .int (nI 1)), (0, .ref ca), (1, .ref ca2)]) hX 0 dX1_take_44 rfl (by decide) (Nat.le_of_ble_eq_true rfl) rfl ?_
  refine z_goto (tgt := 2) hX dX1_take_47 (by decide) ?_
  refine z_iload_n hX 0 dX1_take_2 rfl ?_
  refine z_bipush (v := nI 6) hX dX1_take_3 (by decide) ?_
  refine zn_icmp_ge (tgt := 50) hX dX1_take_5 (by decide) (by omega) (by omega) (fun c5 => absurd c5 (by omega)) (fun _ => ?_)
  refine z_aload_n hX 1 dX1_take_8 rfl ?_
  refine z_get (v := .ref ck) hX fX1 0 0 rfl rfl (Nat.le_of_ble_eq_true rfl) fl_X1_9 rfl dX1_take_9 ?_
  refine z_iload_n hX 0 dX1_take_12 rfl ?_
  refine z_aload_n hX 2 dX1_take_13 rfl ?_
  refine z_get (v := .ref ck2) hX fX1 4 0 rfl rfl (Nat.le_of_ble_eq_true rfl) fl_X1_9 rfl dX1_take_14 ?_
  refine z_iload_n hX 0 dX1_take_17 rfl ?_
  refine z_iald (v := (fk2 1)) hX 5 (j := 1) rfl (by omega) (by decide) rfl dX1_take_18 ?_
  refine z_iast (ws' := [ob ca 1 [.ref ck, .ref cl, .ref ce, .int (nI sz)], ia G ck 6 (upd (upd fk 0 (fk2 0)) 1 (fk2 1)), ia G cl 6 (upd fl 0 (fl2 0)), ia G ce 6 (upd fe 0 (fe2 0)), ob ca2 1 [.ref ck2, .ref cl2, .ref ce2, .int (nI sz2)], ia G ck2 6 fk2, ia G cl2 6 fl2, ia G ce2 6 fe2]) hX 1 (j := 1) rfl (by omega) (by decide) rfl rfl dX1_take_19 ?_
  refine z_aload_n hX 1 dX1_take_20 rfl ?_
  refine z_get (v := .ref cl) hX fX1 0 1 rfl rfl (Nat.le_of_ble_eq_true rfl) fl_X1_15 rfl dX1_take_21 ?_
  refine z_iload_n hX 0 dX1_take_24 rfl ?_
  refine z_aload_n hX 2 dX1_take_25 rfl ?_
  refine z_get (v := .ref cl2) hX fX1 4 1 rfl rfl (Nat.le_of_ble_eq_true rfl) fl_X1_15 rfl dX1_take_26 ?_
  refine z_iload_n hX 0 dX1_take_29 rfl ?_
  refine z_iald (v := (fl2 1)) hX 6 (j := 1) rfl (by omega) (by decide) rfl dX1_take_30 ?_
  refine z_iast (ws' := [ob ca 1 [.ref ck, .ref cl, .ref ce, .int (nI sz)], ia G ck 6 (upd (upd fk 0 (fk2 0)) 1 (fk2 1)), ia G cl 6 (upd (upd fl 0 (fl2 0)) 1 (fl2 1)), ia G ce 6 (upd fe 0 (fe2 0)), ob ca2 1 [.ref ck2, .ref cl2, .ref ce2, .int (nI sz2)], ia G ck2 6 fk2, ia G cl2 6 fl2, ia G ce2 6 fe2]) hX 2 (j := 1) rfl (by omega) (by decide) rfl rfl dX1_take_31 ?_
  refine z_aload_n hX 1 dX1_take_32 rfl ?_
  refine z_get (v := .ref ce) hX fX1 0 2 rfl rfl (Nat.le_of_ble_eq_true rfl) fl_X1_18 rfl dX1_take_33 ?_
  refine z_iload_n hX 0 dX1_take_36 rfl ?_
  refine z_aload_n hX 2 dX1_take_37 rfl ?_
  refine z_get (v := .ref ce2) hX fX1 4 2 rfl rfl (Nat.le_of_ble_eq_true rfl) fl_X1_18 rfl dX1_take_38 ?_
  refine z_iload_n hX 0 dX1_take_41 rfl ?_
  refine z_iald (v := (fe2 1)) hX 7 (j := 1) rfl (by omega) (by decide) rfl dX1_take_42 ?_
  refine z_iast (ws' := [ob ca 1 [.ref ck, .ref cl, .ref ce, .int (nI sz)], ia G ck 6 (upd (upd fk 0 (fk2 0)) 1 (fk2 1)), ia G cl 6 (upd (upd fl 0 (fl2 0)) 1 (fl2 1)), ia G ce 6 (upd (upd fe 0 (fe2 0)) 1 (fe2 1)), ob ca2 1 [.ref ck2, .ref cl2, .ref ce2, .int (nI sz2)], ia G ck2 6 fk2, ia G cl2 6 fl2, ia G ce2 6 fe2]) hX 3 (j := 1) rfl (by omega) (by decide) rfl rfl dX1_take_43 ?_
  refine z_iinc (v := (nI 2)) (L' := [(2, .int (nI 2)), (0, .ref ca), (1, .ref ca2)]) hX 0 dX1_take_44 rfl (by decide) (Nat.le_of_ble_eq_true rfl) rfl ?_
  refine z_goto (tgt := 2) hX dX1_take_47 (by decide) ?_
  refine z_iload_n hX 0 dX1_take_2 rfl ?_
  refine z_bipush (v := nI 6) hX dX1_take_3 (by decide) ?_
  refine zn_icmp_ge (tgt := 50) hX dX1_take_5 (by decide) (by omega) (by omega) (fun c5 => absurd c5 (by omega)) (fun _ => ?_)
  refine z_aload_n hX 1 dX1_take_8 rfl ?_
  refine z_get (v := .ref ck) hX fX1 0 0 rfl rfl (Nat.le_of_ble_eq_true rfl) fl_X1_9 rfl dX1_take_9 ?_
  refine z_iload_n hX 0 dX1_take_12 rfl ?_
  refine z_aload_n hX 2 dX1_take_13 rfl ?_
  refine z_get (v := .ref ck2) hX fX1 4 0 rfl rfl (Nat.le_of_ble_eq_true rfl) fl_X1_9 rfl dX1_take_14 ?_
  refine z_iload_n hX 0 dX1_take_17 rfl ?_
  refine z_iald (v := (fk2 2)) hX 5 (j := 2) rfl (by omega) (by decide) rfl dX1_take_18 ?_
  refine z_iast (ws' := [ob ca 1 [.ref ck, .ref cl, .ref ce, .int (nI sz)], ia G ck 6 (upd (upd (upd fk 0 (fk2 0)) 1 (fk2 1)) 2 (fk2 2)), ia G cl 6 (upd (upd fl 0 (fl2 0)) 1 (fl2 1)), ia G ce 6 (upd (upd fe 0 (fe2 0)) 1 (fe2 1)), ob ca2 1 [.ref ck2, .ref cl2, .ref ce2, .int (nI sz2)], ia G ck2 6 fk2, ia G cl2 6 fl2, ia G ce2 6 fe2]) hX 1 (j := 2) rfl (by omega) (by decide) rfl rfl dX1_take_19 ?_
  refine z_aload_n hX 1 dX1_take_20 rfl ?_
  refine z_get (v := .ref cl) hX fX1 0 1 rfl rfl (Nat.le_of_ble_eq_true rfl) fl_X1_15 rfl dX1_take_21 ?_
  refine z_iload_n hX 0 dX1_take_24 rfl ?_
  refine z_aload_n hX 2 dX1_take_25 rfl ?_
  refine z_get (v := .ref cl2) hX fX1 4 1 rfl rfl (Nat.le_of_ble_eq_true rfl) fl_X1_15 rfl dX1_take_26 ?_
  refine z_iload_n hX 0 dX1_take_29 rfl ?_
  refine z_iald (v := (fl2 2)) hX 6 (j := 2) rfl (by omega) (by decide) rfl dX1_take_30 ?_
  refine z_iast (ws' := [ob ca 1 [.ref ck, .ref cl, .ref ce, .int (nI sz)], ia G ck 6 (upd (upd (upd fk 0 (fk2 0)) 1 (fk2 1)) 2 (fk2 2)), ia G cl 6 (upd (upd (upd fl 0 (fl2 0)) 1 (fl2 1)) 2 (fl2 2)), ia G ce 6 (upd (upd fe 0 (fe2 0)) 1 (fe2 1)), ob ca2 1 [.ref ck2, .ref cl2, .ref ce2, .int (nI sz2)], ia G ck2 6 fk2, ia G cl2 6 fl2, ia G ce2 6 fe2]) hX 2 (j := 2) rfl (by omega) (by decide) rfl rfl dX1_take_31 ?_
  refine z_aload_n hX 1 dX1_take_32 rfl ?_
  refine z_get (v := .ref ce) hX fX1 0 2 rfl rfl (Nat.le_of_ble_eq_true rfl) fl_X1_18 rfl dX1_take_33 ?_
  refine z_iload_n hX 0 dX1_take_36 rfl ?_
  refine z_aload_n hX 2 dX1_take_37 rfl ?_
  refine z_get (v := .ref ce2) hX fX1 4 2 rfl rfl (Nat.le_of_ble_eq_true rfl) fl_X1_18 rfl dX1_take_38 ?_
  refine z_iload_n hX 0 dX1_take_41 rfl ?_
  refine z_iald (v := (fe2 2)) hX 7 (j := 2) rfl (by omega) (by decide) rfl dX1_take_42 ?_
  refine z_iast (ws' := [ob ca 1 [.ref ck, .ref cl, .ref ce, .int (nI sz)], ia G ck 6 (upd (upd (upd fk 0 (fk2 0)) 1 (fk2 1)) 2 (fk2 2)), ia G cl 6 (upd (upd (upd fl 0 (fl2 0)) 1 (fl2 1)) 2 (fl2 2)), ia G ce 6 (upd (upd (upd fe 0 (fe2 0)) 1 (fe2 1)) 2 (fe2 2)), ob ca2 1 [.ref ck2, .ref cl2, .ref ce2, .int (nI sz2)], ia G ck2 6 fk2, ia G cl2 6 fl2, ia G ce2 6 fe2]) hX 3 (j := 2) rfl (by omega) (by decide) rfl rfl dX1_take_43 ?_
  refine z_iinc (v := (nI 3)) (L' := [(2, .int (nI 3)), (0, .ref ca), (1, .ref ca2)]) hX 0 dX1_take_44 rfl (by decide) (Nat.le_of_ble_eq_true rfl) rfl ?_
  refine z_goto (tgt := 2) hX dX1_take_47 (by decide) ?_
  refine z_iload_n hX 0 dX1_take_2 rfl ?_
  refine z_bipush (v := nI 6) hX dX1_take_3 (by decide) ?_
  refine zn_icmp_ge (tgt := 50) hX dX1_take_5 (by decide) (by omega) (by omega) (fun c5 => absurd c5 (by omega)) (fun _ => ?_)
  refine z_aload_n hX 1 dX1_take_8 rfl ?_
  refine z_get (v := .ref ck) hX fX1 0 0 rfl rfl (Nat.le_of_ble_eq_true rfl) fl_X1_9 rfl dX1_take_9 ?_
  refine z_iload_n hX 0 dX1_take_12 rfl ?_
  refine z_aload_n hX 2 dX1_take_13 rfl ?_
  refine z_get (v := .ref ck2) hX fX1 4 0 rfl rfl (Nat.le_of_ble_eq_true rfl) fl_X1_9 rfl dX1_take_14 ?_
  refine z_iload_n hX 0 dX1_take_17 rfl ?_
  refine z_iald (v := (fk2 3)) hX 5 (j := 3) rfl (by omega) (by decide) rfl dX1_take_18 ?_
  refine z_iast (ws' := [ob ca 1 [.ref ck, .ref cl, .ref ce, .int (nI sz)], ia G ck 6 (upd (upd (upd (upd fk 0 (fk2 0)) 1 (fk2 1)) 2 (fk2 2)) 3 (fk2 3)), ia G cl 6 (upd (upd (upd fl 0 (fl2 0)) 1 (fl2 1)) 2 (fl2 2)), ia G ce 6 (upd (upd (upd fe 0 (fe2 0)) 1 (fe2 1)) 2 (fe2 2)), ob ca2 1 [.ref ck2, .ref cl2, .ref ce2, .int (nI sz2)], ia G ck2 6 fk2, ia G cl2 6 fl2, ia G ce2 6 fe2]) hX 1 (j := 3) rfl (by omega) (by decide) rfl rfl dX1_take_19 ?_
  refine z_aload_n hX 1 dX1_take_20 rfl ?_
  refine z_get (v := .ref cl) hX fX1 0 1 rfl rfl (Nat.le_of_ble_eq_true rfl) fl_X1_15 rfl dX1_take_21 ?_
  refine z_iload_n hX 0 dX1_take_24 rfl ?_
  refine z_aload_n hX 2 dX1_take_25 rfl ?_
  refine z_get (v := .ref cl2) hX fX1 4 1 rfl rfl (Nat.le_of_ble_eq_true rfl) fl_X1_15 rfl dX1_take_26 ?_
  refine z_iload_n hX 0 dX1_take_29 rfl ?_
  refine z_iald (v := (fl2 3)) hX 6 (j := 3) rfl (by omega) (by decide) rfl dX1_take_30 ?_
  refine z_iast (ws' := [ob ca 1 [.ref ck, .ref cl, .ref ce, .int (nI sz)], ia G ck 6 (upd (upd (upd (upd fk 0 (fk2 0)) 1 (fk2 1)) 2 (fk2 2)) 3 (fk2 3)), ia G cl 6 (upd (upd (upd (upd fl 0 (fl2 0)) 1 (fl2 1)) 2 (fl2 2)) 3 (fl2 3)), ia G ce 6 (upd (upd (upd fe 0 (fe2 0)) 1 (fe2 1)) 2 (fe2 2)), ob ca2 1 [.ref ck2, .ref cl2, .ref ce2, .int (nI sz2)], ia G ck2 6 fk2, ia G cl2 6 fl2, ia G ce2 6 fe2]) hX 2 (j := 3) rfl (by omega) (by decide) rfl rfl dX1_take_31 ?_
  refine z_aload_n hX 1 dX1_take_32 rfl ?_
  refine z_get (v := .ref ce) hX fX1 0 2 rfl rfl (Nat.le_of_ble_eq_true rfl) fl_X1_18 rfl dX1_take_33 ?_
  refine z_iload_n hX 0 dX1_take_36 rfl ?_
  refine z_aload_n hX 2 dX1_take_37 rfl ?_
  refine z_get (v := .ref ce2) hX fX1 4 2 rfl rfl (Nat.le_of_ble_eq_true rfl) fl_X1_18 rfl dX1_take_38 ?_
  refine z_iload_n hX 0 dX1_take_41 rfl ?_
  refine z_iald (v := (fe2 3)) hX 7 (j := 3) rfl (by omega) (by decide) rfl dX1_take_42 ?_
  refine z_iast (ws' := [ob ca 1 [.ref ck, .ref cl, .ref ce, .int (nI sz)], ia G ck 6 (upd (upd (upd (upd fk 0 (fk2 0)) 1 (fk2 1)) 2 (fk2 2)) 3 (fk2 3)), ia G cl 6 (upd (upd (upd (upd fl 0 (fl2 0)) 1 (fl2 1)) 2 (fl2 2)) 3 (fl2 3)), ia G ce 6 (upd (upd (upd (upd fe 0 (fe2 0)) 1 (fe2 1)) 2 (fe2 2)) 3 (fe2 3)), ob ca2 1 [.ref ck2, .ref cl2, .ref ce2, .int (nI sz2)], ia G ck2 6 fk2, ia G cl2 6 fl2, ia G ce2 6 fe2]) hX 3 (j := 3) rfl (by omega) (by decide) rfl rfl dX1_take_43 ?_
  refine z_iinc (v := (nI 4)) (L' := [(2, .int (nI 4)), (0, .ref ca), (1, .ref ca2)]) hX 0 dX1_take_44 rfl (by decide) (Nat.le_of_ble_eq_true rfl) rfl ?_
  refine z_goto (tgt := 2) hX dX1_take_47 (by decide) ?_
  refine z_iload_n hX 0 dX1_take_2 rfl ?_
  refine z_bipush (v := nI 6) hX dX1_take_3 (by decide) ?_
  refine zn_icmp_ge (tgt := 50) hX dX1_take_5 (by decide) (by omega) (by omega) (fun c5 => absurd c5 (by omega)) (fun _ => ?_)
  refine z_aload_n hX 1 dX1_take_8 rfl ?_
  refine z_get (v := .ref ck) hX fX1 0 0 rfl rfl (Nat.le_of_ble_eq_true rfl) fl_X1_9 rfl dX1_take_9 ?_
  refine z_iload_n hX 0 dX1_take_12 rfl ?_
  refine z_aload_n hX 2 dX1_take_13 rfl ?_
  refine z_get (v := .ref ck2) hX fX1 4 0 rfl rfl (Nat.le_of_ble_eq_true rfl) fl_X1_9 rfl dX1_take_14 ?_
  refine z_iload_n hX 0 dX1_take_17 rfl ?_
  refine z_iald (v := (fk2 4)) hX 5 (j := 4) rfl (by omega) (by decide) rfl dX1_take_18 ?_
  refine z_iast (ws' := [ob ca 1 [.ref ck, .ref cl, .ref ce, .int (nI sz)], ia G ck 6 (upd (upd (upd (upd (upd fk 0 (fk2 0)) 1 (fk2 1)) 2 (fk2 2)) 3 (fk2 3)) 4 (fk2 4)), ia G cl 6 (upd (upd (upd (upd fl 0 (fl2 0)) 1 (fl2 1)) 2 (fl2 2)) 3 (fl2 3)), ia G ce 6 (upd (upd (upd (upd fe 0 (fe2 0)) 1 (fe2 1)) 2 (fe2 2)) 3 (fe2 3)), ob ca2 1 [.ref ck2, .ref cl2, .ref ce2, .int (nI sz2)], ia G ck2 6 fk2, ia G cl2 6 fl2, ia G ce2 6 fe2]) hX 1 (j := 4) rfl (by omega) (by decide) rfl rfl dX1_take_19 ?_
  refine z_aload_n hX 1 dX1_take_20 rfl ?_
  refine z_get (v := .ref cl) hX fX1 0 1 rfl rfl (Nat.le_of_ble_eq_true rfl) fl_X1_15 rfl dX1_take_21 ?_
  refine z_iload_n hX 0 dX1_take_24 rfl ?_
  refine z_aload_n hX 2 dX1_take_25 rfl ?_
  refine z_get (v := .ref cl2) hX fX1 4 1 rfl rfl (Nat.le_of_ble_eq_true rfl) fl_X1_15 rfl dX1_take_26 ?_
  refine z_iload_n hX 0 dX1_take_29 rfl ?_
  refine z_iald (v := (fl2 4)) hX 6 (j := 4) rfl (by omega) (by decide) rfl dX1_take_30 ?_
  refine z_iast (ws' := [ob ca 1 [.ref ck, .ref cl, .ref ce, .int (nI sz)], ia G ck 6 (upd (upd (upd (upd (upd fk 0 (fk2 0)) 1 (fk2 1)) 2 (fk2 2)) 3 (fk2 3)) 4 (fk2 4)), ia G cl 6 (upd (upd (upd (upd (upd fl 0 (fl2 0)) 1 (fl2 1)) 2 (fl2 2)) 3 (fl2 3)) 4 (fl2 4)), ia G ce 6 (upd (upd (upd (upd fe 0 (fe2 0)) 1 (fe2 1)) 2 (fe2 2)) 3 (fe2 3)), ob ca2 1 [.ref ck2, .ref cl2, .ref ce2, .int (nI sz2)], ia G ck2 6 fk2, ia G cl2 6 fl2, ia G ce2 6 fe2]) hX 2 (j := 4) rfl (by omega) (by decide) rfl rfl dX1_take_31 ?_
  refine z_aload_n hX 1 dX1_take_32 rfl ?_
  refine z_get (v := .ref ce) hX fX1 0 2 rfl rfl (Nat.le_of_ble_eq_true rfl) fl_X1_18 rfl dX1_take_33 ?_
  refine z_iload_n hX 0 dX1_take_36 rfl ?_
  refine z_aload_n hX 2 dX1_take_37 rfl ?_
  refine z_get (v := .ref ce2) hX fX1 4 2 rfl rfl (Nat.le_of_ble_eq_true rfl) fl_X1_18 rfl dX1_take_38 ?_
  refine z_iload_n hX 0 dX1_take_41 rfl ?_
  refine z_iald (v := (fe2 4)) hX 7 (j := 4) rfl (by omega) (by decide) rfl dX1_take_42 ?_
  refine z_iast (ws' := [ob ca 1 [.ref ck, .ref cl, .ref ce, .int (nI sz)], ia G ck 6 (upd (upd (upd (upd (upd fk 0 (fk2 0)) 1 (fk2 1)) 2 (fk2 2)) 3 (fk2 3)) 4 (fk2 4)), ia G cl 6 (upd (upd (upd (upd (upd fl 0 (fl2 0)) 1 (fl2 1)) 2 (fl2 2)) 3 (fl2 3)) 4 (fl2 4)), ia G ce 6 (upd (upd (upd (upd (upd fe 0 (fe2 0)) 1 (fe2 1)) 2 (fe2 2)) 3 (fe2 3)) 4 (fe2 4)), ob ca2 1 [.ref ck2, .ref cl2, .ref ce2, .int (nI sz2)], ia G ck2 6 fk2, ia G cl2 6 fl2, ia G ce2 6 fe2]) hX 3 (j := 4) rfl (by omega) (by decide) rfl rfl dX1_take_43 ?_
  refine z_iinc (v := (nI 5)) (L' := [(2, .int (nI 5)), (0, .ref ca), (1, .ref ca2)]) hX 0 dX1_take_44 rfl (by decide) (Nat.le_of_ble_eq_true rfl) rfl ?_
  refine z_goto (tgt := 2) hX dX1_take_47 (by decide) ?_
  refine z_iload_n hX 0 dX1_take_2 rfl ?_
  refine z_bipush (v := nI 6) hX dX1_take_3 (by decide) ?_
  refine zn_icmp_ge (tgt := 50) hX dX1_take_5 (by decide) (by omega) (by omega) (fun c5 => absurd c5 (by omega)) (fun _ => ?_)
  refine z_aload_n hX 1 dX1_take_8 rfl ?_
  refine z_get (v := .ref ck) hX fX1 0 0 rfl rfl (Nat.le_of_ble_eq_true rfl) fl_X1_9 rfl dX1_take_9 ?_
  refine z_iload_n hX 0 dX1_take_12 rfl ?_
  refine z_aload_n hX 2 dX1_take_13 rfl ?_
  refine z_get (v := .ref ck2) hX fX1 4 0 rfl rfl (Nat.le_of_ble_eq_true rfl) fl_X1_9 rfl dX1_take_14 ?_
  refine z_iload_n hX 0 dX1_take_17 rfl ?_
  refine z_iald (v := (fk2 5)) hX 5 (j := 5) rfl (by omega) (by decide) rfl dX1_take_18 ?_
  refine z_iast (ws' := [ob ca 1 [.ref ck, .ref cl, .ref ce, .int (nI sz)], ia G ck 6 (upd (upd (upd (upd (upd (upd fk 0 (fk2 0)) 1 (fk2 1)) 2 (fk2 2)) 3 (fk2 3)) 4 (fk2 4)) 5 (fk2 5)), ia G cl 6 (upd (upd (upd (upd (upd fl 0 (fl2 0)) 1 (fl2 1)) 2 (fl2 2)) 3 (fl2 3)) 4 (fl2 4)), ia G ce 6 (upd (upd (upd (upd (upd fe 0 (fe2 0)) 1 (fe2 1)) 2 (fe2 2)) 3 (fe2 3)) 4 (fe2 4)), ob ca2 1 [.ref ck2, .ref cl2, .ref ce2, .int (nI sz2)], ia G ck2 6 fk2, ia G cl2 6 fl2, ia G ce2 6 fe2]) hX 1 (j := 5) rfl (by omega) (by decide) rfl rfl dX1_take_19 ?_
  refine z_aload_n hX 1 dX1_take_20 rfl ?_
  refine z_get (v := .ref cl) hX fX1 0 1 rfl rfl (Nat.le_of_ble_eq_true rfl) fl_X1_15 rfl dX1_take_21 ?_
  refine z_iload_n hX 0 dX1_take_24 rfl ?_
  refine z_aload_n hX 2 dX1_take_25 rfl ?_
  refine z_get (v := .ref cl2) hX fX1 4 1 rfl rfl (Nat.le_of_ble_eq_true rfl) fl_X1_15 rfl dX1_take_26 ?_
  refine z_iload_n hX 0 dX1_take_29 rfl ?_
  refine z_iald (v := (fl2 5)) hX 6 (j := 5) rfl (by omega) (by decide) rfl dX1_take_30 ?_
  refine z_iast (ws' := [ob ca 1 [.ref ck, .ref cl, .ref ce, .int (nI sz)], ia G ck 6 (upd (upd (upd (upd (upd (upd fk 0 (fk2 0)) 1 (fk2 1)) 2 (fk2 2)) 3 (fk2 3)) 4 (fk2 4)) 5 (fk2 5)), ia G cl 6 (upd (upd (upd (upd (upd (upd fl 0 (fl2 0)) 1 (fl2 1)) 2 (fl2 2)) 3 (fl2 3)) 4 (fl2 4)) 5 (fl2 5)), ia G ce 6 (upd (upd (upd (upd (upd fe 0 (fe2 0)) 1 (fe2 1)) 2 (fe2 2)) 3 (fe2 3)) 4 (fe2 4)), ob ca2 1 [.ref ck2, .ref cl2, .ref ce2, .int (nI sz2)], ia G ck2 6 fk2, ia G cl2 6 fl2, ia G ce2 6 fe2]) hX 2 (j := 5) rfl (by omega) (by decide) rfl rfl dX1_take_31 ?_
  refine z_aload_n hX 1 dX1_take_32 rfl ?_
  refine z_get (v := .ref ce) hX fX1 0 2 rfl rfl (Nat.le_of_ble_eq_true rfl) fl_X1_18 rfl dX1_take_33 ?_
  refine z_iload_n hX 0 dX1_take_36 rfl ?_
  refine z_aload_n hX 2 dX1_take_37 rfl ?_
  refine z_get (v := .ref ce2) hX fX1 4 2 rfl rfl (Nat.le_of_ble_eq_true rfl) fl_X1_18 rfl dX1_take_38 ?_
  refine z_iload_n hX 0 dX1_take_41 rfl ?_
  refine z_iald (v := (fe2 5)) hX 7 (j := 5) rfl (by omega) (by decide) rfl dX1_take_42 ?_
  refine z_iast (ws' := [ob ca 1 [.ref ck, .ref cl, .ref ce, .int (nI sz)], ia G ck 6 (upd (upd (upd (upd (upd (upd fk 0 (fk2 0)) 1 (fk2 1)) 2 (fk2 2)) 3 (fk2 3)) 4 (fk2 4)) 5 (fk2 5)), ia G cl 6 (upd (upd (upd (upd (upd (upd fl 0 (fl2 0)) 1 (fl2 1)) 2 (fl2 2)) 3 (fl2 3)) 4 (fl2 4)) 5 (fl2 5)), ia G ce 6 (upd (upd (upd (upd (upd (upd fe 0 (fe2 0)) 1 (fe2 1)) 2 (fe2 2)) 3 (fe2 3)) 4 (fe2 4)) 5 (fe2 5)), ob ca2 1 [.ref ck2, .ref cl2, .ref ce2, .int (nI sz2)], ia G ck2 6 fk2, ia G cl2 6 fl2, ia G ce2 6 fe2]) hX 3 (j := 5) rfl (by omega) (by decide) rfl rfl dX1_take_43 ?_
  refine z_iinc (v := (nI 6)) (L' := [(2, .int (nI 6)), (0, .ref ca), (1, .ref ca2)]) hX 0 dX1_take_44 rfl (by decide) (Nat.le_of_ble_eq_true rfl) rfl ?_
  refine z_goto (tgt := 2) hX dX1_take_47 (by decide) ?_
  refine z_iload_n hX 0 dX1_take_2 rfl ?_
  refine z_bipush (v := nI 6) hX dX1_take_3 (by decide) ?_
  refine zn_icmp_ge (tgt := 50) hX dX1_take_5 (by decide) (by omega) (by omega) (fun _ => ?_) (fun c5 => absurd c5 (by omega))
  refine z_aload_n hX 1 dX1_take_50 rfl ?_
  refine z_aload_n hX 2 dX1_take_51 rfl ?_
  refine z_get (v := .int (nI sz2)) hX fX1 4 3 rfl rfl (Nat.le_of_ble_eq_true rfl) fl_X1_21 rfl dX1_take_52 ?_
  refine z_put (v := .int (nI sz2)) (ws' := [ob ca 1 [.ref ck, .ref cl, .ref ce, .int (nI sz2)], ia G ck 6 (upd (upd (upd (upd (upd (upd fk 0 (fk2 0)) 1 (fk2 1)) 2 (fk2 2)) 3 (fk2 3)) 4 (fk2 4)) 5 (fk2 5)), ia G cl 6 (upd (upd (upd (upd (upd (upd fl 0 (fl2 0)) 1 (fl2 1)) 2 (fl2 2)) 3 (fl2 3)) 4 (fl2 4)) 5 (fl2 5)), ia G ce 6 (upd (upd (upd (upd (upd (upd fe 0 (fe2 0)) 1 (fe2 1)) 2 (fe2 2)) 3 (fe2 3)) 4 (fe2 4)) 5 (fe2 5)), ob ca2 1 [.ref ck2, .ref cl2, .ref ce2, .int (nI sz2)], ia G ck2 6 fk2, ia G cl2 6 fl2, ia G ce2 6 fe2]) hX fX1 0 3 rfl rfl (Nat.le_of_ble_eq_true rfl) fl_X1_21 rfl rfl rfl rfl rfl dX1_take_55 ?_
  refine z_iext (f' := fk2) (ws' := [ob ca 1 [.ref ck, .ref cl, .ref ce, .int (nI sz2)], ia G ck 6 fk2, ia G cl 6 (upd (upd (upd (upd (upd (upd fl 0 (fl2 0)) 1 (fl2 1)) 2 (fl2 2)) 3 (fl2 3)) 4 (fl2 4)) 5 (fl2 5)), ia G ce 6 (upd (upd (upd (upd (upd (upd fe 0 (fe2 0)) 1 (fe2 1)) 2 (fe2 2)) 3 (fe2 3)) 4 (fe2 4)) 5 (fe2 5)), ob ca2 1 [.ref ck2, .ref cl2, .ref ce2, .int (nI sz2)], ia G ck2 6 fk2, ia G cl2 6 fl2, ia G ce2 6 fe2]) 1 rfl (fun j hj => co_6 (P := fun j => (upd (upd (upd (upd (upd (upd fk 0 (fk2 0)) 1 (fk2 1)) 2 (fk2 2)) 3 (fk2 3)) 4 (fk2 4)) 5 (fk2 5)) j = fk2 j) rfl rfl rfl rfl rfl rfl hj) rfl ?_
  refine z_iext (f' := fl2) (ws' := [ob ca 1 [.ref ck, .ref cl, .ref ce, .int (nI sz2)], ia G ck 6 fk2, ia G cl 6 fl2, ia G ce 6 (upd (upd (upd (upd (upd (upd fe 0 (fe2 0)) 1 (fe2 1)) 2 (fe2 2)) 3 (fe2 3)) 4 (fe2 4)) 5 (fe2 5)), ob ca2 1 [.ref ck2, .ref cl2, .ref ce2, .int (nI sz2)], ia G ck2 6 fk2, ia G cl2 6 fl2, ia G ce2 6 fe2]) 2 rfl (fun j hj => co_6 (P := fun j => (upd (upd (upd (upd (upd (upd fl 0 (fl2 0)) 1 (fl2 1)) 2 (fl2 2)) 3 (fl2 3)) 4 (fl2 4)) 5 (fl2 5)) j = fl2 j) rfl rfl rfl rfl rfl rfl hj) rfl ?_
  refine z_iext (f' := fe2) (ws' := [ob ca 1 [.ref ck, .ref cl, .ref ce, .int (nI sz2)], ia G ck 6 fk2, ia G cl 6 fl2, ia G ce 6 fe2, ob ca2 1 [.ref ck2, .ref cl2, .ref ce2, .int (nI sz2)], ia G ck2 6 fk2, ia G cl2 6 fl2, ia G ce2 6 fe2]) 3 rfl (fun j hj => co_6 (P := fun j => (upd (upd (upd (upd (upd (upd fe 0 (fe2 0)) 1 (fe2 1)) 2 (fe2 2)) 3 (fe2 3)) 4 (fe2 4)) 5 (fe2 5)) j = fe2 j) rfl rfl rfl rfl rfl rfl hj) rfl ?_
  exact hR () _ _ trivial dX1_take_58
set_option maxRecDepth 100000 in
set_option maxHeartbeats 4000000 in
theorem c_X0_clear (l : Launch) (G : zG) (c : Nat) (w : Int32) (f : Nat) (o : Nat)  : zMv l G yX0_clear cX0_clear 1 0 0 0 0 [.ref c] [ob c 0 [.int w, .int (nI f), .int (nI o)]] (fun (_u : Unit) => True) (fun (_u : Unit) => [ob c 0 [.int (l4 0), .int (nI 0), .int (nI 0)]]) := by
  refine zMv.of (by decide) rfl (fun X A H0 hX hXl hnm hR => ?_)
  show Z (X, G, A, H0, 1) 0 0 [ob c 0 [.int w, .int (nI f), .int (nI o)]] 0 [(0, .ref c)] []
  subst hXl
  refine z_aload_n hX 0 dX0_clear_0 rfl ?_
  refine z_bipush (v := l4 0) hX dX0_clear_1 (by decide) ?_
  refine z_put (v := .int (l4 0)) (ws' := [ob c 0 [.int (l4 0), .int (nI f), .int (nI o)]]) hX fX0 0 0 rfl rfl (Nat.le_of_ble_eq_true rfl) fl_X0_14 rfl rfl rfl rfl rfl dX0_clear_3 ?_
  refine z_aload_n hX 0 dX0_clear_6 rfl ?_
  refine z_iconst (v := nI 0) hX dX0_clear_7 (by decide) ?_
  refine z_put (v := .int (nI 0)) (ws' := [ob c 0 [.int (l4 0), .int (nI 0), .int (nI o)]]) hX fX0 0 1 rfl rfl (Nat.le_of_ble_eq_true rfl) fl_X0_18 rfl rfl rfl rfl rfl dX0_clear_8 ?_
  refine z_aload_n hX 0 dX0_clear_11 rfl ?_
  refine z_iconst (v := nI 0) hX dX0_clear_12 (by decide) ?_
  refine z_put (v := .int (nI 0)) (ws' := [ob c 0 [.int (l4 0), .int (nI 0), .int (nI 0)]]) hX fX0 0 2 rfl rfl (Nat.le_of_ble_eq_true rfl) fl_X0_21 rfl rfl rfl rfl rfl dX0_clear_13 ?_
  exact hR () _ _ trivial dX0_clear_16
set_option maxRecDepth 100000 in
set_option maxHeartbeats 4000000 in
theorem c_X0_offer (l : Launch) (G : zG) (c : Nat) (k : Nat) (f : Nat) (o : Nat) (k1 : Nat) (f1 : Nat) (o1 : Nat) (h0 : k ≤ 100) (h1 : f < 2147483648) (h2 : o < 2147483648) (h3 : f1 < 2147483648) (h4 : o1 < 2147483648) : zMv l G yX0_offer cX0_offer 4 0 0 0 0 [.ref c, .int (nI k1), .int (nI f1), .int (nI o1)] [ob c 0 [.int (l4 k), .int (nI f), .int (nI o)]] (fun (_u : Unit) => True) (fun (_u : Unit) => [ob c 0 [.int (l4 ((offerS k1 f1 o1 (k, f, o)).1)), .int (nI ((offerS k1 f1 o1 (k, f, o)).2.1)), .int (nI ((offerS k1 f1 o1 (k, f, o)).2.2))]]) := by
  refine zMv.of (by decide) rfl (fun X A H0 hX hXl hnm hR => ?_)
  show Z (X, G, A, H0, 4) 0 0 [ob c 0 [.int (l4 k), .int (nI f), .int (nI o)]] 0 [(0, .ref c), (1, .int (nI k1)), (2, .int (nI f1)), (3, .int (nI o1))] []
  subst hXl
  refine z_aload_n hX 0 dX0_offer_0 rfl ?_
  refine z_get (v := .int (l4 k)) hX fX0 0 0 rfl rfl (Nat.le_of_ble_eq_true rfl) fl_X0_14 rfl dX0_offer_1 ?_
  refine z_bipush (v := (-4)) hX dX0_offer_4 (by decide) ?_
  refine z_icmp_eq (tgt := 33) hX dX0_offer_6 (by decide) (fun c6 => ?_) (fun c6 => ?_)
  · rw [l4_eq h0] at c6
    refine z_aload_n hX 0 dX0_offer_33 rfl ?_
    refine z_iload_n hX 1 dX0_offer_34 rfl ?_
    refine z_put (v := .int (nI k1)) (ws' := [ob c 0 [.int (nI k1), .int (nI f), .int (nI o)]]) hX fX0 0 0 rfl rfl (Nat.le_of_ble_eq_true rfl) fl_X0_14 rfl rfl rfl rfl rfl dX0_offer_35 ?_
    refine z_aload_n hX 0 dX0_offer_38 rfl ?_
    refine z_iload_n hX 2 dX0_offer_39 rfl ?_
    refine z_put (v := .int (nI f1)) (ws' := [ob c 0 [.int (nI k1), .int (nI f1), .int (nI o)]]) hX fX0 0 1 rfl rfl (Nat.le_of_ble_eq_true rfl) fl_X0_18 rfl rfl rfl rfl rfl dX0_offer_40 ?_
    refine z_aload_n hX 0 dX0_offer_43 rfl ?_
    refine z_iload_n hX 3 dX0_offer_44 rfl ?_
    refine z_put (v := .int (nI o1)) (ws' := [ob c 0 [.int (nI k1), .int (nI f1), .int (nI o1)]]) hX fX0 0 2 rfl rfl (Nat.le_of_ble_eq_true rfl) fl_X0_21 rfl rfl rfl rfl rfl dX0_offer_45 ?_
    have e1 : offerS k1 f1 o1 (k, f, o) = (k1 + 1, f1, o1) := by unfold offerS; rw [if_pos (by dsimp only; omega)]
    have e2 : l4 (k1 + 1) = nI k1 := rfl
    rw [← e2]
    have hR2 := hR () 48 ([] : List (Nat × Value)) trivial dX0_offer_48
    rw [e1] at hR
    exact hR () _ _ trivial dX0_offer_48
  · rw [l4_eq h0] at c6
    refine z_iload_n hX 2 dX0_offer_9 rfl ?_
    refine z_aload_n hX 0 dX0_offer_10 rfl ?_
    refine z_get (v := .int (nI f)) hX fX0 0 1 rfl rfl (Nat.le_of_ble_eq_true rfl) fl_X0_18 rfl dX0_offer_11 ?_
    refine zn_icmp_lt (tgt := 33) hX dX0_offer_14 (by decide) (by omega) (by omega) (fun c14 => ?_) (fun c14 => ?_)
    · skip
      refine z_aload_n hX 0 dX0_offer_33 rfl ?_
      refine z_iload_n hX 1 dX0_offer_34 rfl ?_
      refine z_put (v := .int (nI k1)) (ws' := [ob c 0 [.int (nI k1), .int (nI f), .int (nI o)]]) hX fX0 0 0 rfl rfl (Nat.le_of_ble_eq_true rfl) fl_X0_14 rfl rfl rfl rfl rfl dX0_offer_35 ?_
      refine z_aload_n hX 0 dX0_offer_38 rfl ?_
      refine z_iload_n hX 2 dX0_offer_39 rfl ?_
      refine z_put (v := .int (nI f1)) (ws' := [ob c 0 [.int (nI k1), .int (nI f1), .int (nI o)]]) hX fX0 0 1 rfl rfl (Nat.le_of_ble_eq_true rfl) fl_X0_18 rfl rfl rfl rfl rfl dX0_offer_40 ?_
      refine z_aload_n hX 0 dX0_offer_43 rfl ?_
      refine z_iload_n hX 3 dX0_offer_44 rfl ?_
      refine z_put (v := .int (nI o1)) (ws' := [ob c 0 [.int (nI k1), .int (nI f1), .int (nI o1)]]) hX fX0 0 2 rfl rfl (Nat.le_of_ble_eq_true rfl) fl_X0_21 rfl rfl rfl rfl rfl dX0_offer_45 ?_
      have e1 : offerS k1 f1 o1 (k, f, o) = (k1 + 1, f1, o1) := by unfold offerS; rw [if_pos (by dsimp only; omega)]
      have e2 : l4 (k1 + 1) = nI k1 := rfl
      rw [← e2]
      have hR2 := hR () 48 ([] : List (Nat × Value)) trivial dX0_offer_48
      rw [e1] at hR
      exact hR () _ _ trivial dX0_offer_48
    · skip
      refine z_iload_n hX 2 dX0_offer_17 rfl ?_
      refine z_aload_n hX 0 dX0_offer_18 rfl ?_
      refine z_get (v := .int (nI f)) hX fX0 0 1 rfl rfl (Nat.le_of_ble_eq_true rfl) fl_X0_18 rfl dX0_offer_19 ?_
      refine zn_icmp_ne (tgt := 48) hX dX0_offer_22 (by decide) (by omega) (by omega) (fun c22 => ?_) (fun c22 => ?_)
      · skip
        have e1 : offerS k1 f1 o1 (k, f, o) = (k, f, o) := by unfold offerS; rw [if_neg (by dsimp only; omega)]
        rw [e1] at hR
        exact hR () _ _ trivial dX0_offer_48
      · skip
        refine z_iload_n hX 3 dX0_offer_25 rfl ?_
        refine z_aload_n hX 0 dX0_offer_26 rfl ?_
        refine z_get (v := .int (nI o)) hX fX0 0 2 rfl rfl (Nat.le_of_ble_eq_true rfl) fl_X0_21 rfl dX0_offer_27 ?_
        refine zn_icmp_le (tgt := 48) hX dX0_offer_30 (by decide) (by omega) (by omega) (fun c30 => ?_) (fun c30 => ?_)
        · skip
          have e1 : offerS k1 f1 o1 (k, f, o) = (k, f, o) := by unfold offerS; rw [if_neg (by dsimp only; omega)]
          rw [e1] at hR
          exact hR () _ _ trivial dX0_offer_48
        · skip
          refine z_aload_n hX 0 dX0_offer_33 rfl ?_
          refine z_iload_n hX 1 dX0_offer_34 rfl ?_
          refine z_put (v := .int (nI k1)) (ws' := [ob c 0 [.int (nI k1), .int (nI f), .int (nI o)]]) hX fX0 0 0 rfl rfl (Nat.le_of_ble_eq_true rfl) fl_X0_14 rfl rfl rfl rfl rfl dX0_offer_35 ?_
          refine z_aload_n hX 0 dX0_offer_38 rfl ?_
          refine z_iload_n hX 2 dX0_offer_39 rfl ?_
          refine z_put (v := .int (nI f1)) (ws' := [ob c 0 [.int (nI k1), .int (nI f1), .int (nI o)]]) hX fX0 0 1 rfl rfl (Nat.le_of_ble_eq_true rfl) fl_X0_18 rfl rfl rfl rfl rfl dX0_offer_40 ?_
          refine z_aload_n hX 0 dX0_offer_43 rfl ?_
          refine z_iload_n hX 3 dX0_offer_44 rfl ?_
          refine z_put (v := .int (nI o1)) (ws' := [ob c 0 [.int (nI k1), .int (nI f1), .int (nI o1)]]) hX fX0 0 2 rfl rfl (Nat.le_of_ble_eq_true rfl) fl_X0_21 rfl rfl rfl rfl rfl dX0_offer_45 ?_
          have e1 : offerS k1 f1 o1 (k, f, o) = (k1 + 1, f1, o1) := by unfold offerS; rw [if_pos (by dsimp only; omega)]
          have e2 : l4 (k1 + 1) = nI k1 := rfl
          rw [← e2]
          have hR2 := hR () 48 ([] : List (Nat × Value)) trivial dX0_offer_48
          rw [e1] at hR
          exact hR () _ _ trivial dX0_offer_48
