theorem nI_eqW {a b : Nat} (ha : a < 2147483648) (hb : b < 2147483648) (h : nI a = nI b) : a = b := by
  have e := congrArg Int32.toInt h
  rw [nI_toInt ha, nI_toInt hb] at e
  omega
theorem c97 {j a : Nat} (h : nI j = nI a - nI 97) (hj : j ≤ 5) (ha : a ≤ 126) : a = 97 + j := by
  have e : nI j + nI 97 = nI a := by rw [h, Int32.sub_add_cancel]
  rw [nI_add] at e
  have := nI_eqW (by omega) (by omega) e
  omega
theorem c97n {a : Nat} (h : inb (nI a - nI 97) 0 5 = false) (j : Nat) (hj : j < 6) : ¬ a = 97 + j := by
  intro e
  subst e
  rw [pk_sub (a := 97 + j) (b := 97) (by omega), show 97 + j - 97 = j by omega, inb_t (by omega) (by omega) (by omega)] at h
  exact absurd h (by decide)
theorem m1_nI {j : Nat} (hj : j < 2147483648) : ¬ (-1 : Int32) = nI j := by
  intro e
  have h := congrArg Int32.toInt e
  rw [nI_toInt hj] at h
  have : (-1 : Int32).toInt = -1 := by decide
  omega
theorem ris_k {k c L : Nat} (h2 : k = 0 ∨ 2 ^ (k - 1) ≤ L) (h : L < 2 ^ c) : k ≤ c := by
  rcases Nat.lt_or_ge c k with d | d
  · have e : 2 ^ c ≤ 2 ^ (k - 1) := Nat.pow_le_pow_right (by decide) (by omega)
    omega
  · exact d
theorem ris_k3 {k c L : Nat} (h2 : L < 2 ^ k) (h : 2 ^ c ≤ L) : c < k := by
  rcases Nat.lt_or_ge c k with d | d
  · exact d
  · have e : 2 ^ k ≤ 2 ^ c := Nat.pow_le_pow_right (by decide) d
    omega
theorem or_hi {L c : Nat} (h : L < 2 ^ c) : L ||| 2 ^ c < 2 ^ (c + 1) := Nat.or_lt_two_pow (Nat.lt_trans h (Nat.pow_lt_pow_right (by decide) (by omega))) (Nat.pow_lt_pow_right (by decide) (by omega))
theorem ris_noneF {τ : nst} {m P L : Nat} : ∀ f, f ≤ 6 → (∀ j, 6 - f ≤ j → j < 6 → ¬ chr τ m P = 97 + j) → ris τ m f P L = (P, L)
  | 0, _, _ => rfl
  | f + 1, hf, h => by
    rw [ris, if_neg (by have := h (5 - f) (by omega) (by omega); omega)]
    exact ris_noneF f (by omega) (fun j h1 h2 => h j (by omega) h2)
theorem ris_none {τ : nst} {m P L k : Nat} (hk : k ≤ 6) (h : ∀ j, k ≤ j → j < 6 → ¬ chr τ m P = 97 + j) : ris τ m (6 - k) P L = (P, L) := ris_noneF (6 - k) (by omega) (fun j h1 h2 => h j (by omega) h2)
theorem ris_skip {τ : nst} {m P L c : Nat} (hc6 : c < 6) (hc : chr τ m P = 97 + c) : ∀ d k, k + d = c → ris τ m (6 - k) P L = ris τ m (6 - c) P L
  | 0, k, h => by rw [show k = c by omega]
  | d + 1, k, h => by
    rw [ris_f (by omega) (by omega)]
    exact ris_skip hc6 hc d (k + 1) (by omega)
theorem ris_to {τ : nst} {m P L k c : Nat} (hc6 : c < 6) (hk : k ≤ c) (hc : chr τ m P = 97 + c) : ris τ m (6 - k) P L = ris τ m (6 - (c + 1)) (skp τ m (P + 1)) (L ||| 2 ^ c) := by
  rw [ris_skip hc6 hc (c - k) k (by omega), ris_t hc6 hc]
set_option maxRecDepth 100000 in
set_option maxHeartbeats 4000000 in
theorem c_X7_letters_0 (l : Launch) (G : zG) (x : Nat) (ad : Nat → Nat) (v : Nat → Nat) (tau : nst) (p : Nat) (h0 : ∀ j, j < (v 3) → 32 ≤ tau j ∧ tau j ≤ 126) (h1 : (v 3) ≤ 80) (h2 : p ≤ 80) : zMi l G yX7_letters cX7_letters 3 .int 1 0 0 25 [.ref x] [ob x 7 (rf ad (va_up (va_up v 4 p) 5 0)), ia G (ad 2) 80 (fN tau)] (fun (r : Int32) (_u : Nat) => r = nI (ris tau (v 3) 6 (skp tau (v 3) p) 0).2 ∧ _u = (ris tau (v 3) 6 (skp tau (v 3) p) 0).1) (fun (_u : Nat) => [ob x 7 (rf ad (va_up (va_up v 4 _u) 5 0)), ia G (ad 2) 80 (fN tau)]) := by
  refine zMi.of (by decide) rfl (fun X A H0 hX hXl hR => ?_)
  show Z (X, G, A, H0, 3) 0 0 [ob x 7 (rf ad (va_up (va_up v 4 p) 5 0)), ia G (ad 2) 80 (fN tau)] 0 [(0, .ref x)] []
  subst hXl
  have k1 := chr_hi h0 (skp tau (v 3) p)
  have k2 := skp_hi (τ := tau) (p := p) h1 h2
  refine z_iconst (v := nI 0) hX dX7_letters_0 (by decide) ?_
  refine z_istore_n (L' := [(1, .int (nI 0)), (0, .ref x)]) hX dX7_letters_1 (Nat.le_of_ble_eq_true rfl) rfl ?_
  refine z_aload_n hX 1 dX7_letters_2 rfl ?_
  refine z_get (v := .int (nI 0)) hX fX7 0 5 rfl rfl (Nat.le_of_ble_eq_true rfl) fl_X7_119 rfl dX7_letters_3 ?_
  refine zn_if_eq (tgt := 13) hX dX7_letters_6 (by decide) (by omega) (fun _ => ?_) (fun c6 => absurd c6 (by omega))
  refine z_aload_n hX 1 dX7_letters_13 rfl ?_
  refine z_callVi (st := []) hX (c_X7_here _ G x ad v tau p 0 h0 h1 h2) lb_X7_here ml_X7_123 (fun (_u : Unit) => [ob x 7 (rf ad (va_up (va_up v 4 (skp tau (v 3) p)) 5 0)), ia G (ad 2) 80 (fN tau)]) (wr := []) [0, 1] [] [0, 1] ⟨rfl, rfl, rfl, fun _ => rfl⟩ 0 rfl rfl rfl rfl ⟨Nat.le_refl _, Nat.le_refl _⟩ dX7_letters_14 rfl (fun r14 u14 hw14 => ?_)
  subst hw14
  refine z_bipush (v := nI 97) hX dX7_letters_17 (by decide) ?_
  refine z_isub (v := (nI (chr tau (v 3) (skp tau (v 3) p)) - nI 97)) hX dX7_letters_19 rfl ?_
  refine z_istore_n (L' := [(2, .int (nI (chr tau (v 3) (skp tau (v 3) p)) - nI 97)), (1, .int (nI 0)), (0, .ref x)]) hX dX7_letters_20 (Nat.le_of_ble_eq_true rfl) rfl ?_
  have lp21 : ∀ (n21 : Nat) (k : Nat) (q : Nat) (L : Nat) (c : Int32), (6 + 1 ≤ k + n21) → (k ≤ 6) → (L < 2 ^ k) → (k = 0 ∨ 2 ^ (k - 1) ≤ L) → (skp tau (v 3) q = q) → (q ≤ 80) → (ris tau (v 3) (6 - k) q L = ris tau (v 3) 6 (skp tau (v 3) p) 0) → (c = nI (chr tau (v 3) q) - nI 97) → Z (X, G, A, H0, 3) 0 0 [ob x 7 (rf ad (va_up (va_up v 4 q) 5 0)), ia G (ad 2) 80 (fN tau)] 21 [(0, .ref x), (1, .int (nI L)), (2, .int c)] [] := by
    intro n21
    induction n21 with
    | zero =>
      intro k q L c hn hk hL hL2 hq hq8 hr hc
      exfalso
      omega
    | succ n21 ih21 =>
      intro k q L c hn hk hL hL2 hq hq8 hr hc
      have k3 := chr_hi h0 q
      have L64 : L < 2 ^ 6 := Nat.lt_of_lt_of_le hL (Nat.pow_le_pow_right (by decide) hk)
      refine z_iload_n hX 2 dX7_letters_21 rfl ?_
      refine z_i2l (v := (c.toInt64)) hX dX7_letters_22 rfl ?_
      refine z_lconst (v := lN 0) hX dX7_letters_23 (by decide) ?_
      refine z_ldc2 (v := lN 5) hX kl_X7_130 dX7_letters_24 ?_
      refine z_callSi (st := []) hX (c_X7_inX _ G c 0 5 (by omega) (by omega)) lb_X7_in ml_X7_44 (fun (_u : Unit) => [ob x 7 (rf ad (va_up (va_up v 4 q) 5 0)), ia G (ad 2) 80 (fN tau)]) (wr := [ob x 7 (rf ad (va_up (va_up v 4 q) 5 0)), ia G (ad 2) 80 (fN tau)]) [] [0, 1] [0, 1] ⟨rfl, rfl, rfl, fun _ => rfl⟩ rfl rfl ⟨Nat.le_refl _, Nat.le_refl _⟩ dX7_letters_27 rfl (fun r27 u27 hw27 => ?_)
      try dsimp only at hw27
      rcases hw27 with ⟨cj, hcl, hch, rfl, rfl⟩ | ⟨hw27, rfl⟩
      · skip
        refine zn_if_eq (tgt := 67) hX dX7_letters_30 (by decide) (by omega) (fun c30 => absurd c30 (by omega)) (fun _ => ?_)
        have pw : 2 ^ cj ≤ 2 ^ 5 := Nat.pow_le_pow_right (by decide) hch
        refine z_iconst (v := nI 1) hX dX7_letters_33 (by decide) ?_
        refine z_iload_n hX 2 dX7_letters_34 rfl ?_
        refine z_ishl (v := (nI (2 ^ cj))) hX dX7_letters_35 (shl_nI _ (by omega)) ?_
        refine z_iload_n hX 1 dX7_letters_36 rfl ?_
        refine zn_icmp_le (tgt := 67) hX dX7_letters_37 (by decide) (by omega) (by omega) (fun c37 => ?_) (fun c37 => ?_)
        · skip
          refine z_iload_n hX 1 dX7_letters_67 rfl ?_
          have e9 : ris tau (v 3) (6 - k) q L = (q, L) := by
            first
              | (rw [hc] at hb_c; exact ris_none hk (fun j9 _ h9 => c97n hb_c j9 h9))
              | exact ris_none hk (fun j9 h8 h9 => by have a1 := c97 hc hch k3; have a2 := ris_k3 hL c37; omega)
          rw [hr] at e9
          rw [e9] at hR
          exact hR _ q _ _ ⟨rfl, rfl⟩ dX7_letters_68 rfl
        · skip
          have kc : k ≤ cj := ris_k hL2 (by omega)
          have ca := c97 hc hch k3
          have lq : q < v 3 := chr_lt (τ := tau) (by omega)
          refine z_iload_n hX 1 dX7_letters_40 rfl ?_
          refine z_iconst (v := nI 1) hX dX7_letters_41 (by decide) ?_
          refine z_iload_n hX 2 dX7_letters_42 rfl ?_
          refine z_ishl (v := (nI (2 ^ cj))) hX dX7_letters_43 (shl_nI _ (by omega)) ?_
          refine z_ior (v := (nI (L ||| (2 ^ cj)))) hX dX7_letters_44 (or_nI _ _) ?_
          refine z_istore_n (L' := [(1, .int (nI (L ||| (2 ^ cj)))), (0, .ref x), (2, .int (nI cj))]) hX dX7_letters_45 (Nat.le_of_ble_eq_true rfl) rfl ?_
          refine z_aload_n hX 1 dX7_letters_46 rfl ?_
          refine z_dup hX dX7_letters_47 rfl ?_
          refine z_get (v := .int (nI q)) hX fX7 0 4 rfl rfl (Nat.le_of_ble_eq_true rfl) fl_X7_116 rfl dX7_letters_48 ?_
          refine z_iconst (v := nI 1) hX dX7_letters_51 (by decide) ?_
          refine z_iadd (v := (nI (q + 1))) hX dX7_letters_52 (nI_add _ _) ?_
          refine z_put (v := .int (nI (q + 1))) (ws' := [ob x 7 (rf ad (va_up (va_up v 4 (q + 1)) 5 0)), ia G (ad 2) 80 (fN tau)]) hX fX7 0 4 rfl rfl (Nat.le_of_ble_eq_true rfl) fl_X7_116 rfl rfl rfl rfl rfl dX7_letters_53 ?_
          refine z_aload_n hX 1 dX7_letters_56 rfl ?_
          refine z_callVi (st := []) hX (c_X7_here _ G x ad v tau (q + 1) 0 h0 h1 (by omega)) lb_X7_here ml_X7_123 (fun (_u : Unit) => [ob x 7 (rf ad (va_up (va_up v 4 (skp tau (v 3) (q + 1))) 5 0)), ia G (ad 2) 80 (fN tau)]) (wr := []) [0, 1] [] [0, 1] ⟨rfl, rfl, rfl, fun _ => rfl⟩ 0 rfl rfl rfl rfl ⟨Nat.le_refl _, Nat.le_refl _⟩ dX7_letters_57 rfl (fun r57 u57 hw57 => ?_)
          subst hw57
          refine z_bipush (v := nI 97) hX dX7_letters_60 (by decide) ?_
          refine z_isub (v := (nI (chr tau (v 3) (skp tau (v 3) (q + 1))) - nI 97)) hX dX7_letters_62 rfl ?_
          refine z_istore_n (L' := [(2, .int (nI (chr tau (v 3) (skp tau (v 3) (q + 1))) - nI 97)), (1, .int (nI (L ||| (2 ^ cj)))), (0, .ref x)]) hX dX7_letters_63 (Nat.le_of_ble_eq_true rfl) rfl ?_
          refine z_goto (tgt := 21) hX dX7_letters_64 (by decide) ?_
          refine z_lsub [2, 1, 0] rfl ?_
          exact ih21 (cj + 1) (skp tau (v 3) (q + 1)) (L ||| (2 ^ cj)) (nI (chr tau (v 3) (skp tau (v 3) (q + 1))) - nI 97) (by omega) (by omega) (or_hi (by omega)) (Or.inr (Nat.right_le_or)) (skp_id _ _ _) (skp_hi h1 (by omega)) (by rw [← ris_to (by omega) kc ca]; exact hr) rfl
      · have hb_c : inb c 0 5 = false := hw27
        refine zn_if_eq (tgt := 67) hX dX7_letters_30 (by decide) (by omega) (fun _ => ?_) (fun c30 => absurd c30 (by omega))
        refine z_iload_n hX 1 dX7_letters_67 rfl ?_
        have e9 : ris tau (v 3) (6 - k) q L = (q, L) := by
          first
            | (rw [hc] at hb_c; exact ris_none hk (fun j9 _ h9 => c97n hb_c j9 h9))
            | exact ris_none hk (fun j9 h8 h9 => by have a1 := c97 hc hch k3; have a2 := ris_k3 hL c37; omega)
        rw [hr] at e9
        rw [e9] at hR
        exact hR _ q _ _ ⟨rfl, rfl⟩ dX7_letters_68 rfl
  refine z_lsub [2, 1, 0] rfl ?_
  exact lp21 7 0 (skp tau (v 3) p) 0 (nI (chr tau (v 3) (skp tau (v 3) p)) - nI 97) (by omega) (by omega) (by decide) (Or.inl rfl) (skp_id _ _ _) k2 rfl rfl
set_option maxRecDepth 100000 in
set_option maxHeartbeats 4000000 in
theorem c_X7_letters_1 (l : Launch) (G : zG) (x : Nat) (ad : Nat → Nat) (v : Nat → Nat) (tau : nst) (p : Nat)  : zMi l G yX7_letters cX7_letters 3 .int 1 0 0 25 [.ref x] [ob x 7 (rf ad (va_up (va_up v 4 p) 5 1)), ia G (ad 2) 80 (fN tau)] (fun (r : Int32) (_u : Unit) => r = nI 0) (fun (_u : Unit) => [ob x 7 (rf ad (va_up (va_up v 4 p) 5 1)), ia G (ad 2) 80 (fN tau)]) := by
  refine zMi.of (by decide) rfl (fun X A H0 hX hXl hR => ?_)
  show Z (X, G, A, H0, 3) 0 0 [ob x 7 (rf ad (va_up (va_up v 4 p) 5 1)), ia G (ad 2) 80 (fN tau)] 0 [(0, .ref x)] []
  subst hXl
  refine z_iconst (v := nI 0) hX dX7_letters_0 (by decide) ?_
  refine z_istore_n (L' := [(1, .int (nI 0)), (0, .ref x)]) hX dX7_letters_1 (Nat.le_of_ble_eq_true rfl) rfl ?_
  refine z_aload_n hX 1 dX7_letters_2 rfl ?_
  refine z_get (v := .int (nI 1)) hX fX7 0 5 rfl rfl (Nat.le_of_ble_eq_true rfl) fl_X7_119 rfl dX7_letters_3 ?_
  refine zn_if_eq (tgt := 13) hX dX7_letters_6 (by decide) (by omega) (fun c6 => absurd c6 (by omega)) (fun _ => ?_)
  refine z_iconst (v := (-1)) hX dX7_letters_9 (by decide) ?_
  refine z_goto (tgt := 20) hX dX7_letters_10 (by decide) ?_
  refine z_istore_n (L' := [(2, .int (-1)), (1, .int (nI 0)), (0, .ref x)]) hX dX7_letters_20 (Nat.le_of_ble_eq_true rfl) rfl ?_
  refine z_iload_n hX 0 dX7_letters_21 rfl ?_
  refine z_i2l (v := ((-1).toInt64)) hX dX7_letters_22 rfl ?_
  refine z_lconst (v := lN 0) hX dX7_letters_23 (by decide) ?_
  refine z_ldc2 (v := lN 5) hX kl_X7_130 dX7_letters_24 ?_
  refine z_callSi (st := []) hX (c_X7_inX _ G (-1) 0 5 (by omega) (by omega)) lb_X7_in ml_X7_44 (fun (_u : Unit) => [ob x 7 (rf ad (va_up (va_up v 4 p) 5 1)), ia G (ad 2) 80 (fN tau)]) (wr := [ob x 7 (rf ad (va_up (va_up v 4 p) 5 1)), ia G (ad 2) 80 (fN tau)]) [] [0, 1] [0, 1] ⟨rfl, rfl, rfl, fun _ => rfl⟩ rfl rfl ⟨Nat.le_refl _, Nat.le_refl _⟩ dX7_letters_27 rfl (fun r27 u27 hw27 => ?_)
  obtain rfl : r27 = nI 0 := by
    rcases hw27 with ⟨j9, _, h8, h9, _⟩ | ⟨_, h9⟩
    · exact absurd h9 (m1_nI (by omega))
    · exact h9
  refine zn_if_eq (tgt := 67) hX dX7_letters_30 (by decide) (by omega) (fun _ => ?_) (fun c30 => absurd c30 (by omega))
  refine z_iload_n hX 1 dX7_letters_67 rfl ?_
  exact hR _ () _ _ rfl dX7_letters_68 rfl
/-- the heaps and the LIST: 1 well; where; LIST -/
def lsB (τ : nst) (m : Nat) : Nat × Nat × Nat := if (hpS τ m 4).1 = 0 then (0, (hpS τ m 4).2.1, 0) else
  if chr τ m (hpS τ m 4).2.1 = 33 then (if (ris τ m 6 (skp τ m ((hpS τ m 4).2.1 + 1)) 0).2 = 0 then (0, (ris τ m 6 (skp τ m ((hpS τ m 4).2.1 + 1)) 0).1, 0) else (1, (ris τ m 6 (skp τ m ((hpS τ m 4).2.1 + 1)) 0).1, (ris τ m 6 (skp τ m ((hpS τ m 4).2.1 + 1)) 0).2)) else (1, (hpS τ m 4).2.1, 0)
theorem brB_ls (τ : nst) (m : Nat) : brB τ m = if (lsB τ m).1 = 0 then (0, (lsB τ m).2.1, 0, 0, (fun _ => 0), (hpS τ m 4).2.2) else crB τ m (lsB τ m).2.1 (lsB τ m).2.2 (hpS τ m 4).2.2 := by
  unfold brB lsB
  split
  · rfl
  · split
    · split
      · rfl
      · rfl
    · rfl
set_option maxRecDepth 100000 in
set_option maxHeartbeats 4000000 in
theorem c_X7_archesRead (l : Launch) (G : zG) (x : Nat) (ad : Nat → Nat) (v : Nat → Nat) (tau : nst) (rs : nst) (h0 : ∀ j, j < (v 3) → 32 ≤ tau j ∧ tau j ≤ 126) (h1 : (v 3) ≤ 80) : zMv l G yX7_archesRead cX7_archesRead 2 2 0 0 49 [.ref x] [ob x 7 (rf ad (va_up (va_up v 4 0) 5 0)), ia G (ad 2) 80 (fN tau), ia G (ad 6) 4 (fN rs)] (fun (_u : Nat × Nat × Nat × nst) => ((lsB tau (v 3)).1 = 0 ∧ _u.2.1 = 1 ∧ _u.1 = (lsB tau (v 3)).2.1) ∨ ((lsB tau (v 3)).1 = 1 ∧ _u.2.1 = 0 ∧ _u.1 = (lsB tau (v 3)).2.1 ∧ _u.2.2.1 = (lsB tau (v 3)).2.2 ∧ ∀ j, j < 4 → _u.2.2.2 j = (hpS tau (v 3) 4).2.2 j)) (fun (_u : Nat × Nat × Nat × nst) => [ob x 7 (rf ad (va_up (va_up (va_up v 7 _u.2.2.1) 4 _u.1) 5 _u.2.1)), ia G (ad 2) 80 (fN tau), ia G (ad 6) 4 (fN _u.2.2.2)]) := by
  refine zMv.of (by decide) rfl (fun X A H0 hX hXl hnm hR => ?_)
  show Z (X, G, A, H0, 2) 0 0 [ob x 7 (rf ad (va_up (va_up v 4 0) 5 0)), ia G (ad 2) 80 (fN tau), ia G (ad 6) 4 (fN rs)] 0 [(0, .ref x)] []
  subst hXl
  refine z_iconst (v := nI 0) hX dX7_archesRead_0 (by decide) ?_
  refine z_istore_n (L' := [(1, .int (nI 0)), (0, .ref x)]) hX dX7_archesRead_1 (Nat.le_of_ble_eq_true rfl) rfl ?_
  have lp2 : ∀ (n2 : Nat) (i : Nat) (f : Nat) (p : Nat) (rr : nst) (sg : nst), (4 + 1 ≤ i + n2) → (i ≤ 4) → (f ≤ 1) → (p ≤ 80) → (hpS tau (v 3) i = (1 - f, (if f = 0 then skp tau (v 3) p else p), sg)) → (f = 0 → ∀ j, j < i → rr j = sg j) → Z (X, G, A, H0, 2) 0 0 [ob x 7 (rf ad (va_up (va_up v 4 p) 5 f)), ia G (ad 2) 80 (fN tau), ia G (ad 6) 4 (fN rr)] 2 [(0, .ref x), (1, .int (nI i))] [] := by
    intro n2
    induction n2 with
    | zero =>
      intro i f p rr sg hn hi hf hp hH ht
      exfalso
      omega
    | succ n2 ih2 =>
      intro i f p rr sg hn hi hf hp hH ht
      refine z_iload_n hX 1 dX7_archesRead_2 rfl ?_
      rcases (show f = 0 ∨ f = 1 by omega) with rfl | rfl
      · have hH0 : hpS tau (v 3) i = (1, skp tau (v 3) p, sg) := hH
        have k3 := chr_hi h0 (skp tau (v 3) p)
        have k4 := skp_hi (τ := tau) (p := p) h1 hp
        refine z_iconst (v := nI 4) hX dX7_archesRead_3 (by decide) ?_
        refine zn_icmp_ge (tgt := 54) hX dX7_archesRead_4 (by decide) (by omega) (by omega) (fun c4 => ?_) (fun c4 => ?_)
        · skip
          have ei : i = 4 := by omega
          subst ei
          refine z_aload_n hX 0 dX7_archesRead_54 rfl ?_
          refine z_iconst (v := nI 0) hX dX7_archesRead_55 (by decide) ?_
          refine z_put (v := .int (nI 0)) (ws' := [ob x 7 (rf ad (va_up (va_up (va_up v 7 0) 4 p) 5 0)), ia G (ad 2) 80 (fN tau), ia G (ad 6) 4 (fN rr)]) hX fX7 0 7 rfl rfl (Nat.le_of_ble_eq_true rfl) fl_X7_139 rfl rfl rfl rfl rfl dX7_archesRead_56 ?_
          refine z_aload_n hX 0 dX7_archesRead_59 rfl ?_
          refine z_get (v := .int (nI 0)) hX fX7 0 5 rfl rfl (Nat.le_of_ble_eq_true rfl) fl_X7_119 rfl dX7_archesRead_60 ?_
          refine zn_if_ne (tgt := 109) hX dX7_archesRead_63 (by decide) (by omega) (fun c63 => absurd c63 (by omega)) (fun _ => ?_)
          refine z_aload_n hX 0 dX7_archesRead_66 rfl ?_
          refine z_callVi (st := []) hX (c_X7_here _ G x ad (va_up v 7 0) tau p 0 h0 h1 hp) lb_X7_here ml_X7_123 (fun (_u : Unit) => [ob x 7 (rf ad (va_up (va_up (va_up v 7 0) 4 (skp tau (v 3) p)) 5 0)), ia G (ad 2) 80 (fN tau), ia G (ad 6) 4 (fN rr)]) (wr := [ia G (ad 6) 4 (fN rr)]) [0, 1] [2] [1, 2, 0] ⟨rfl, rfl, rfl, fun _ => rfl⟩ 0 rfl rfl rfl rfl ⟨Nat.le_refl _, Nat.le_refl _⟩ dX7_archesRead_67 rfl (fun r67 u67 hw67 => ?_)
          subst hw67
          show Z (X, G, A, H0, 2) _ _ [ob x 7 (rf ad (va_up (va_up (va_up v 7 0) 4 (skp tau (v 3) p)) 5 0)), ia G (ad 2) 80 (fN tau), ia G (ad 6) 4 (fN rr)] 70 [(0, .ref x), (1, .int (nI 4))] [.int (nI (chr tau (v 3) (skp tau (v 3) p)))]
          refine z_bipush (v := nI 33) hX dX7_archesRead_70 (by decide) ?_
          refine zn_icmp_ne (tgt := 109) hX dX7_archesRead_72 (by decide) (by omega) (by omega) (fun c72 => ?_) (fun c72 => ?_)
          · skip
            have e1 : lsB tau (v 3) = (1, skp tau (v 3) p, 0) := by unfold lsB; rw [hH0, if_neg (show ¬ (1 : Nat) = 0 by decide), if_neg c72]
            exact hR (skp tau (v 3) p, 0, 0, rr) _ _ (by rw [e1, hH0]; exact Or.inr ⟨rfl, rfl, rfl, rfl, ht rfl⟩) dX7_archesRead_109
          · skip
            have lq : skp tau (v 3) p < v 3 := chr_lt (τ := tau) (by omega)
            refine z_aload_n hX 0 dX7_archesRead_75 rfl ?_
            refine z_dup hX dX7_archesRead_76 rfl ?_
            refine z_get (v := .int (nI (skp tau (v 3) p))) hX fX7 0 4 rfl rfl (Nat.le_of_ble_eq_true rfl) fl_X7_116 rfl dX7_archesRead_77 ?_
            refine z_iconst (v := nI 1) hX dX7_archesRead_80 (by decide) ?_
            refine z_iadd (v := (nI (skp tau (v 3) p + 1))) hX dX7_archesRead_81 (nI_add _ _) ?_
            refine z_put (v := .int (nI (skp tau (v 3) p + 1))) (ws' := [ob x 7 (rf ad (va_up (va_up (va_up v 7 0) 4 (skp tau (v 3) p + 1)) 5 0)), ia G (ad 2) 80 (fN tau), ia G (ad 6) 4 (fN rr)]) hX fX7 0 4 rfl rfl (Nat.le_of_ble_eq_true rfl) fl_X7_116 rfl rfl rfl rfl rfl dX7_archesRead_82 ?_
            refine z_aload_n hX 0 dX7_archesRead_85 rfl ?_
            refine z_aload_n hX 0 dX7_archesRead_86 rfl ?_
            refine z_callVi (st := [.ref x]) hX (c_X7_letters_0 _ G x ad (va_up v 7 0) tau (skp tau (v 3) p + 1) h0 h1 (by omega)) lb_X7_letters ml_X7_142 (fun (_u : Nat) => [ob x 7 (rf ad (va_up (va_up (va_up v 7 0) 4 _u) 5 0)), ia G (ad 2) 80 (fN tau), ia G (ad 6) 4 (fN rr)]) (wr := [ia G (ad 6) 4 (fN rr)]) [0, 1] [2] [1, 2, 0] ⟨rfl, rfl, rfl, fun _ => rfl⟩ 0 rfl rfl rfl rfl ⟨Nat.le_refl _, Nat.le_refl _⟩ dX7_archesRead_87 rfl (fun r87 u87 hw87 => ?_)
            obtain ⟨p2_1, rfl⟩ : ∃ z9, z9 = u87 := ⟨_, rfl⟩
            obtain ⟨rfl, rfl⟩ : r87 = nI (ris tau (v 3) 6 (skp tau (v 3) (skp tau (v 3) p + 1)) 0).2 ∧ p2_1 = (ris tau (v 3) 6 (skp tau (v 3) (skp tau (v 3) p + 1)) 0).1 := hw87
            have k8 := ris_ok tau (v 3) 6 (skp tau (v 3) (skp tau (v 3) p + 1)) 0 (by omega) (skp_hi (Nat.le_refl _) (by omega)) (skp_id _ _ _) (by omega)
            refine z_put (v := .int (nI ((ris tau (v 3) 6 (skp tau (v 3) (skp tau (v 3) p + 1)) 0).2))) (ws' := [ob x 7 (rf ad (va_up (va_up (va_up v 7 ((ris tau (v 3) 6 (skp tau (v 3) (skp tau (v 3) p + 1)) 0).2)) 4 ((ris tau (v 3) 6 (skp tau (v 3) (skp tau (v 3) p + 1)) 0).1)) 5 0)), ia G (ad 2) 80 (fN tau), ia G (ad 6) 4 (fN rr)]) hX fX7 0 7 rfl rfl (Nat.le_of_ble_eq_true rfl) fl_X7_139 rfl rfl rfl rfl rfl dX7_archesRead_90 ?_
            refine z_aload_n hX 0 dX7_archesRead_93 rfl ?_
            refine z_aload_n hX 0 dX7_archesRead_94 rfl ?_
            refine z_get (v := .int (nI ((ris tau (v 3) 6 (skp tau (v 3) (skp tau (v 3) p + 1)) 0).2))) hX fX7 0 7 rfl rfl (Nat.le_of_ble_eq_true rfl) fl_X7_139 rfl dX7_archesRead_95 ?_
            refine zn_if_ne (tgt := 105) hX dX7_archesRead_98 (by decide) (by omega) (fun c98 => ?_) (fun c98 => ?_)
            · skip
              refine z_iconst (v := nI 0) hX dX7_archesRead_105 (by decide) ?_
              refine z_put (v := .int (nI 0)) (ws' := [ob x 7 (rf ad (va_up (va_up (va_up v 7 ((ris tau (v 3) 6 (skp tau (v 3) (skp tau (v 3) p + 1)) 0).2)) 4 ((ris tau (v 3) 6 (skp tau (v 3) (skp tau (v 3) p + 1)) 0).1)) 5 0)), ia G (ad 2) 80 (fN tau), ia G (ad 6) 4 (fN rr)]) hX fX7 0 5 rfl rfl (Nat.le_of_ble_eq_true rfl) fl_X7_119 rfl rfl rfl rfl rfl dX7_archesRead_106 ?_
              have e1 : lsB tau (v 3) = (1, (ris tau (v 3) 6 (skp tau (v 3) (skp tau (v 3) p + 1)) 0).1, (ris tau (v 3) 6 (skp tau (v 3) (skp tau (v 3) p + 1)) 0).2) := by unfold lsB; rw [hH0, if_neg (show ¬ (1 : Nat) = 0 by decide), if_pos c72, if_neg c98]
              exact hR ((ris tau (v 3) 6 (skp tau (v 3) (skp tau (v 3) p + 1)) 0).1, 0, (ris tau (v 3) 6 (skp tau (v 3) (skp tau (v 3) p + 1)) 0).2, rr) _ _ (by rw [e1, hH0]; exact Or.inr ⟨rfl, rfl, rfl, rfl, ht rfl⟩) dX7_archesRead_109
            · skip
              refine z_iconst (v := nI 1) hX dX7_archesRead_101 (by decide) ?_
              refine z_goto (tgt := 106) hX dX7_archesRead_102 (by decide) ?_
              refine z_put (v := .int (nI 1)) (ws' := [ob x 7 (rf ad (va_up (va_up (va_up v 7 ((ris tau (v 3) 6 (skp tau (v 3) (skp tau (v 3) p + 1)) 0).2)) 4 ((ris tau (v 3) 6 (skp tau (v 3) (skp tau (v 3) p + 1)) 0).1)) 5 1)), ia G (ad 2) 80 (fN tau), ia G (ad 6) 4 (fN rr)]) hX fX7 0 5 rfl rfl (Nat.le_of_ble_eq_true rfl) fl_X7_119 rfl rfl rfl rfl rfl dX7_archesRead_106 ?_
              have e1 : lsB tau (v 3) = (0, (ris tau (v 3) 6 (skp tau (v 3) (skp tau (v 3) p + 1)) 0).1, 0) := by unfold lsB; rw [hH0, if_neg (show ¬ (1 : Nat) = 0 by decide), if_pos c72, if_pos c98]
              exact hR ((ris tau (v 3) 6 (skp tau (v 3) (skp tau (v 3) p + 1)) 0).1, 1, (ris tau (v 3) 6 (skp tau (v 3) (skp tau (v 3) p + 1)) 0).2, rr) _ _ (by rw [e1]; exact Or.inl ⟨rfl, rfl, rfl⟩) dX7_archesRead_109
        · skip
          refine z_iload_n hX 1 dX7_archesRead_7 rfl ?_
          refine zn_if_le (tgt := 36) hX dX7_archesRead_8 (by decide) (by omega) (fun c8 => ?_) (fun c8 => ?_)
          · skip
            refine z_aload_n hX 0 dX7_archesRead_36 rfl ?_
            refine z_get (v := .ref (ad 6)) hX fX7 0 6 rfl rfl (Nat.le_of_ble_eq_true rfl) fl_X7_16 rfl dX7_archesRead_37 ?_
            refine z_iload_n hX 1 dX7_archesRead_40 rfl ?_
            refine z_aload_n hX 0 dX7_archesRead_41 rfl ?_
            refine z_bipush (v := nI 40) hX dX7_archesRead_42 (by decide) ?_
            refine z_callVi (st := [.int (nI i), .ref (ad 6)]) hX (c_X7_number_0 _ G x ad v tau p h0 h1 (by omega)) lb_X7_number ml_X7_136 (fun (_u : Nat × Nat × Nat) => [ob x 7 (rf ad (va_up (va_up v 4 _u.1) 5 _u.2.1)), ia G (ad 2) 80 (fN tau), ia G (ad 6) 4 (fN rr)]) (wr := [ia G (ad 6) 4 (fN rr)]) [0, 1] [2] [1, 2, 0] ⟨rfl, rfl, rfl, fun _ => rfl⟩ 0 rfl rfl rfl rfl ⟨Nat.le_refl _, Nat.le_refl _⟩ dX7_archesRead_44 rfl (fun r44 u44 hw44 => ?_)
            obtain ⟨p2_2, f2_3, g2_4⟩ := u44
            obtain ⟨rfl, hw44⟩ := hw44
            have k5 := skp_hi (τ := tau) (m := v 3) (p := p) (k := 80) h1 (by omega)
            rcases hw44 with ⟨n9, rfl, rfl⟩ | ⟨n9, rfl, rfl, rfl⟩
            · skip
              refine z_iast (ws' := [ob x 7 (rf ad (va_up (va_up v 4 (skp tau (v 3) p)) 5 1)), ia G (ad 2) 80 (fN tau), ia G (ad 6) 4 (fN (va_up rr i g2_4))]) hX 2 (j := i) rfl (by omega) (by decide) (updN _ _ _) rfl dX7_archesRead_47 ?_
              refine z_iinc (v := (nI (i + 1))) (L' := [(1, .int (nI (i + 1))), (0, .ref x)]) hX 1 dX7_archesRead_48 rfl (nI_inc _) (Nat.le_of_ble_eq_true rfl) rfl ?_
              refine z_goto (tgt := 2) hX dX7_archesRead_51 (by decide) ?_
              refine z_lsub [1, 0] rfl ?_
              exact ih2 (i + 1) 1 (skp tau (v 3) p) (va_up rr i g2_4) sg (by omega) (by omega) (by omega) (by omega) (hpS_bad (Q := skp tau (v 3) p) hH0 (Or.inl (by omega)) (by rw [if_pos (show i = 0 by omega)]) n9) (fun z9 => absurd z9 (by decide))
            · have k7 := numE_80 (τ := tau) (P := skp tau (v 3) p) h1 k5
              refine z_iast (ws' := [ob x 7 (rf ad (va_up (va_up v 4 (numE tau (v 3) (skp tau (v 3) p))) 5 0)), ia G (ad 2) 80 (fN tau), ia G (ad 6) 4 (fN (va_up rr i (numV tau (v 3) (skp tau (v 3) p) - 1)))]) hX 2 (j := i) rfl (by omega) (by decide) (updN _ _ _) rfl dX7_archesRead_47 ?_
              refine z_iinc (v := (nI (i + 1))) (L' := [(1, .int (nI (i + 1))), (0, .ref x)]) hX 1 dX7_archesRead_48 rfl (nI_inc _) (Nat.le_of_ble_eq_true rfl) rfl ?_
              refine z_goto (tgt := 2) hX dX7_archesRead_51 (by decide) ?_
              refine z_lsub [1, 0] rfl ?_
              exact ih2 (i + 1) 0 (numE tau (v 3) (skp tau (v 3) p)) (va_up rr i (numV tau (v 3) (skp tau (v 3) p) - 1)) (va_up sg i (numV tau (v 3) (skp tau (v 3) p) - 1)) (by omega) (by omega) (by omega) (by omega) (hpS_go (Q := skp tau (v 3) p) hH0 (Or.inl (by omega)) (by rw [if_pos (show i = 0 by omega)]) n9) (fun _ j9 h9 => by
                    by_cases e9 : j9 = i
                    · subst e9; rw [up_eq, up_eq]
                    · rw [up_ne e9, up_ne e9]; exact ht rfl j9 (by omega))
          · skip
            refine z_aload_n hX 0 dX7_archesRead_11 rfl ?_
            refine z_aload_n hX 0 dX7_archesRead_12 rfl ?_
            refine z_get (v := .int (nI 0)) hX fX7 0 5 rfl rfl (Nat.le_of_ble_eq_true rfl) fl_X7_119 rfl dX7_archesRead_13 ?_
            refine zn_if_ne (tgt := 32) hX dX7_archesRead_16 (by decide) (by omega) (fun c16 => absurd c16 (by omega)) (fun _ => ?_)
            refine z_aload_n hX 0 dX7_archesRead_19 rfl ?_
            refine z_callVi (st := [.ref x]) hX (c_X7_here _ G x ad v tau p 0 h0 h1 hp) lb_X7_here ml_X7_123 (fun (_u : Unit) => [ob x 7 (rf ad (va_up (va_up v 4 (skp tau (v 3) p)) 5 0)), ia G (ad 2) 80 (fN tau), ia G (ad 6) 4 (fN rr)]) (wr := [ia G (ad 6) 4 (fN rr)]) [0, 1] [2] [1, 2, 0] ⟨rfl, rfl, rfl, fun _ => rfl⟩ 0 rfl rfl rfl rfl ⟨Nat.le_refl _, Nat.le_refl _⟩ dX7_archesRead_20 rfl (fun r20 u20 hw20 => ?_)
            subst hw20
            refine z_bipush (v := nI 44) hX dX7_archesRead_23 (by decide) ?_
            refine zn_icmp_ne (tgt := 32) hX dX7_archesRead_25 (by decide) (by omega) (by omega) (fun c25 => ?_) (fun c25 => ?_)
            · skip
              refine z_iconst (v := nI 0) hX dX7_archesRead_32 (by decide) ?_
              refine z_callVv (st := []) hX (c_X7_must_no _ G x ad v (skp tau (v 3) p) ) lb_X7_must ml_X7_132 (fun (_u : Unit) => [ob x 7 (rf ad (va_up (va_up v 4 (skp tau (v 3) p)) 5 1)), ia G (ad 2) 80 (fN tau), ia G (ad 6) 4 (fN rr)]) (wr := [ia G (ad 2) 80 (fN tau), ia G (ad 6) 4 (fN rr)]) [0] [1, 2] [2, 0, 1] ⟨rfl, rfl, rfl, fun _ => rfl⟩ 0 rfl rfl rfl rfl ⟨Nat.le_refl _, Nat.le_refl _⟩ dX7_archesRead_33 rfl (fun  u33 hw33 => ?_)
              refine z_aload_n hX 0 dX7_archesRead_36 rfl ?_
              refine z_get (v := .ref (ad 6)) hX fX7 0 6 rfl rfl (Nat.le_of_ble_eq_true rfl) fl_X7_16 rfl dX7_archesRead_37 ?_
              refine z_iload_n hX 1 dX7_archesRead_40 rfl ?_
              refine z_aload_n hX 0 dX7_archesRead_41 rfl ?_
              refine z_bipush (v := nI 40) hX dX7_archesRead_42 (by decide) ?_
              refine z_callVi (st := [.int (nI i), .ref (ad 6)]) hX (c_X7_number_1 _ G x ad v tau (skp tau (v 3) p) ) lb_X7_number ml_X7_136 (fun (_u : Unit) => [ob x 7 (rf ad (va_up (va_up v 4 (skp tau (v 3) p)) 5 1)), ia G (ad 2) 80 (fN tau), ia G (ad 6) 4 (fN rr)]) (wr := [ia G (ad 2) 80 (fN tau), ia G (ad 6) 4 (fN rr)]) [0] [1, 2] [2, 0, 1] ⟨rfl, rfl, rfl, fun _ => rfl⟩ 0 rfl rfl rfl rfl ⟨Nat.le_refl _, Nat.le_refl _⟩ dX7_archesRead_44 rfl (fun r44 u44 hw44 => ?_)
              subst hw44
              refine z_iast (ws' := [ob x 7 (rf ad (va_up (va_up v 4 (skp tau (v 3) p)) 5 1)), ia G (ad 2) 80 (fN tau), ia G (ad 6) 4 (fN (va_up rr i 0))]) hX 2 (j := i) rfl (by omega) (by decide) (updN _ _ _) rfl dX7_archesRead_47 ?_
              refine z_iinc (v := (nI (i + 1))) (L' := [(1, .int (nI (i + 1))), (0, .ref x)]) hX 1 dX7_archesRead_48 rfl (nI_inc _) (Nat.le_of_ble_eq_true rfl) rfl ?_
              refine z_goto (tgt := 2) hX dX7_archesRead_51 (by decide) ?_
              refine z_lsub [1, 0] rfl ?_
              exact ih2 (i + 1) 1 (skp tau (v 3) p) (va_up rr i 0) sg (by omega) (by omega) (by omega) (by omega) (hpS_no hH0 (by omega) c25) (fun z9 => absurd z9 (by decide))
            · skip
              have lq : skp tau (v 3) p < v 3 := chr_lt (τ := tau) (by omega)
              refine z_iconst (v := nI 1) hX dX7_archesRead_28 (by decide) ?_
              refine z_goto (tgt := 33) hX dX7_archesRead_29 (by decide) ?_
              refine z_callVv (st := []) hX (c_X7_must_ok _ G x ad v (skp tau (v 3) p) ) lb_X7_must ml_X7_132 (fun (_u : Unit) => [ob x 7 (rf ad (va_up (va_up v 4 (skp tau (v 3) p + 1)) 5 0)), ia G (ad 2) 80 (fN tau), ia G (ad 6) 4 (fN rr)]) (wr := [ia G (ad 2) 80 (fN tau), ia G (ad 6) 4 (fN rr)]) [0] [1, 2] [2, 0, 1] ⟨rfl, rfl, rfl, fun _ => rfl⟩ 0 rfl rfl rfl rfl ⟨Nat.le_refl _, Nat.le_refl _⟩ dX7_archesRead_33 rfl (fun  u33 hw33 => ?_)
              refine z_aload_n hX 0 dX7_archesRead_36 rfl ?_
              refine z_get (v := .ref (ad 6)) hX fX7 0 6 rfl rfl (Nat.le_of_ble_eq_true rfl) fl_X7_16 rfl dX7_archesRead_37 ?_
              refine z_iload_n hX 1 dX7_archesRead_40 rfl ?_
              refine z_aload_n hX 0 dX7_archesRead_41 rfl ?_
              refine z_bipush (v := nI 40) hX dX7_archesRead_42 (by decide) ?_
              refine z_callVi (st := [.int (nI i), .ref (ad 6)]) hX (c_X7_number_0 _ G x ad v tau (skp tau (v 3) p + 1) h0 h1 (by omega)) lb_X7_number ml_X7_136 (fun (_u : Nat × Nat × Nat) => [ob x 7 (rf ad (va_up (va_up v 4 _u.1) 5 _u.2.1)), ia G (ad 2) 80 (fN tau), ia G (ad 6) 4 (fN rr)]) (wr := [ia G (ad 6) 4 (fN rr)]) [0, 1] [2] [1, 2, 0] ⟨rfl, rfl, rfl, fun _ => rfl⟩ 0 rfl rfl rfl rfl ⟨Nat.le_refl _, Nat.le_refl _⟩ dX7_archesRead_44 rfl (fun r44 u44 hw44 => ?_)
              obtain ⟨p2_5, f2_6, g2_7⟩ := u44
              obtain ⟨rfl, hw44⟩ := hw44
              have k5 := skp_hi (τ := tau) (m := v 3) (p := (skp tau (v 3) p + 1)) (k := 80) h1 (by omega)
              rcases hw44 with ⟨n9, rfl, rfl⟩ | ⟨n9, rfl, rfl, rfl⟩
              · skip
                refine z_iast (ws' := [ob x 7 (rf ad (va_up (va_up v 4 (skp tau (v 3) (skp tau (v 3) p + 1))) 5 1)), ia G (ad 2) 80 (fN tau), ia G (ad 6) 4 (fN (va_up rr i g2_7))]) hX 2 (j := i) rfl (by omega) (by decide) (updN _ _ _) rfl dX7_archesRead_47 ?_
                refine z_iinc (v := (nI (i + 1))) (L' := [(1, .int (nI (i + 1))), (0, .ref x)]) hX 1 dX7_archesRead_48 rfl (nI_inc _) (Nat.le_of_ble_eq_true rfl) rfl ?_
                refine z_goto (tgt := 2) hX dX7_archesRead_51 (by decide) ?_
                refine z_lsub [1, 0] rfl ?_
                exact ih2 (i + 1) 1 (skp tau (v 3) (skp tau (v 3) p + 1)) (va_up rr i g2_7) sg (by omega) (by omega) (by omega) (by omega) (hpS_bad (Q := skp tau (v 3) (skp tau (v 3) p + 1)) hH0 (Or.inr c25) (by rw [if_neg (by omega)]) n9) (fun z9 => absurd z9 (by decide))
              · have k7 := numE_80 (τ := tau) (P := skp tau (v 3) (skp tau (v 3) p + 1)) h1 k5
                refine z_iast (ws' := [ob x 7 (rf ad (va_up (va_up v 4 (numE tau (v 3) (skp tau (v 3) (skp tau (v 3) p + 1)))) 5 0)), ia G (ad 2) 80 (fN tau), ia G (ad 6) 4 (fN (va_up rr i (numV tau (v 3) (skp tau (v 3) (skp tau (v 3) p + 1)) - 1)))]) hX 2 (j := i) rfl (by omega) (by decide) (updN _ _ _) rfl dX7_archesRead_47 ?_
                refine z_iinc (v := (nI (i + 1))) (L' := [(1, .int (nI (i + 1))), (0, .ref x)]) hX 1 dX7_archesRead_48 rfl (nI_inc _) (Nat.le_of_ble_eq_true rfl) rfl ?_
                refine z_goto (tgt := 2) hX dX7_archesRead_51 (by decide) ?_
                refine z_lsub [1, 0] rfl ?_
                exact ih2 (i + 1) 0 (numE tau (v 3) (skp tau (v 3) (skp tau (v 3) p + 1))) (va_up rr i (numV tau (v 3) (skp tau (v 3) (skp tau (v 3) p + 1)) - 1)) (va_up sg i (numV tau (v 3) (skp tau (v 3) (skp tau (v 3) p + 1)) - 1)) (by omega) (by omega) (by omega) (by omega) (hpS_go (Q := skp tau (v 3) (skp tau (v 3) p + 1)) hH0 (Or.inr c25) (by rw [if_neg (by omega)]) n9) (fun _ j9 h9 => by
                      by_cases e9 : j9 = i
                      · subst e9; rw [up_eq, up_eq]
                      · rw [up_ne e9, up_ne e9]; exact ht rfl j9 (by omega))
      · have hH0 : hpS tau (v 3) i = (0, p, sg) := hH
        have hH1 : hpS tau (v 3) (i + 1) = (0, p, sg) := by rw [hpS_stay (i := i) (by rw [hH0]) 1, hH0]
        refine z_iconst (v := nI 4) hX dX7_archesRead_3 (by decide) ?_
        refine zn_icmp_ge (tgt := 54) hX dX7_archesRead_4 (by decide) (by omega) (by omega) (fun c4 => ?_) (fun c4 => ?_)
        · skip
          have ei : i = 4 := by omega
          subst ei
          have e1 : lsB tau (v 3) = (0, p, 0) := by unfold lsB; rw [hH0, if_pos rfl]
          refine z_aload_n hX 0 dX7_archesRead_54 rfl ?_
          refine z_iconst (v := nI 0) hX dX7_archesRead_55 (by decide) ?_
          refine z_put (v := .int (nI 0)) (ws' := [ob x 7 (rf ad (va_up (va_up (va_up v 7 0) 4 p) 5 1)), ia G (ad 2) 80 (fN tau), ia G (ad 6) 4 (fN rr)]) hX fX7 0 7 rfl rfl (Nat.le_of_ble_eq_true rfl) fl_X7_139 rfl rfl rfl rfl rfl dX7_archesRead_56 ?_
          refine z_aload_n hX 0 dX7_archesRead_59 rfl ?_
          refine z_get (v := .int (nI 1)) hX fX7 0 5 rfl rfl (Nat.le_of_ble_eq_true rfl) fl_X7_119 rfl dX7_archesRead_60 ?_
          refine zn_if_ne (tgt := 109) hX dX7_archesRead_63 (by decide) (by omega) (fun _ => ?_) (fun c63 => absurd c63 (by omega))
          exact hR (p, 1, 0, rr) _ _ (by rw [e1]; exact Or.inl ⟨rfl, rfl, rfl⟩) dX7_archesRead_109
        · skip
          refine z_iload_n hX 1 dX7_archesRead_7 rfl ?_
          refine zn_if_le (tgt := 36) hX dX7_archesRead_8 (by decide) (by omega) (fun c8 => ?_) (fun c8 => ?_)
          · skip
            refine z_aload_n hX 0 dX7_archesRead_36 rfl ?_
            refine z_get (v := .ref (ad 6)) hX fX7 0 6 rfl rfl (Nat.le_of_ble_eq_true rfl) fl_X7_16 rfl dX7_archesRead_37 ?_
            refine z_iload_n hX 1 dX7_archesRead_40 rfl ?_
            refine z_aload_n hX 0 dX7_archesRead_41 rfl ?_
            refine z_bipush (v := nI 40) hX dX7_archesRead_42 (by decide) ?_
            refine z_callVi (st := [.int (nI i), .ref (ad 6)]) hX (c_X7_number_1 _ G x ad v tau p ) lb_X7_number ml_X7_136 (fun (_u : Unit) => [ob x 7 (rf ad (va_up (va_up v 4 p) 5 1)), ia G (ad 2) 80 (fN tau), ia G (ad 6) 4 (fN rr)]) (wr := [ia G (ad 2) 80 (fN tau), ia G (ad 6) 4 (fN rr)]) [0] [1, 2] [2, 0, 1] ⟨rfl, rfl, rfl, fun _ => rfl⟩ 0 rfl rfl rfl rfl ⟨Nat.le_refl _, Nat.le_refl _⟩ dX7_archesRead_44 rfl (fun r44 u44 hw44 => ?_)
            subst hw44
            refine z_iast (ws' := [ob x 7 (rf ad (va_up (va_up v 4 p) 5 1)), ia G (ad 2) 80 (fN tau), ia G (ad 6) 4 (fN (va_up rr i 0))]) hX 2 (j := i) rfl (by omega) (by decide) (updN _ _ _) rfl dX7_archesRead_47 ?_
            refine z_iinc (v := (nI (i + 1))) (L' := [(1, .int (nI (i + 1))), (0, .ref x)]) hX 1 dX7_archesRead_48 rfl (nI_inc _) (Nat.le_of_ble_eq_true rfl) rfl ?_
            refine z_goto (tgt := 2) hX dX7_archesRead_51 (by decide) ?_
            refine z_lsub [1, 0] rfl ?_
            exact ih2 (i + 1) 1 p (va_up rr i 0) sg (by omega) (by omega) (by omega) (by omega) hH1 (fun z9 => absurd z9 (by decide))
          · skip
            refine z_aload_n hX 0 dX7_archesRead_11 rfl ?_
            refine z_aload_n hX 0 dX7_archesRead_12 rfl ?_
            refine z_get (v := .int (nI 1)) hX fX7 0 5 rfl rfl (Nat.le_of_ble_eq_true rfl) fl_X7_119 rfl dX7_archesRead_13 ?_
            refine zn_if_ne (tgt := 32) hX dX7_archesRead_16 (by decide) (by omega) (fun _ => ?_) (fun c16 => absurd c16 (by omega))
            refine z_iconst (v := nI 0) hX dX7_archesRead_32 (by decide) ?_
            refine z_callVv (st := []) hX (c_X7_must_f _ G x ad v p 0 ) lb_X7_must ml_X7_132 (fun (_u : Unit) => [ob x 7 (rf ad (va_up (va_up v 4 p) 5 1)), ia G (ad 2) 80 (fN tau), ia G (ad 6) 4 (fN rr)]) (wr := [ia G (ad 2) 80 (fN tau), ia G (ad 6) 4 (fN rr)]) [0] [1, 2] [2, 0, 1] ⟨rfl, rfl, rfl, fun _ => rfl⟩ 0 rfl rfl rfl rfl ⟨Nat.le_refl _, Nat.le_refl _⟩ dX7_archesRead_33 rfl (fun  u33 hw33 => ?_)
            refine z_aload_n hX 0 dX7_archesRead_36 rfl ?_
            refine z_get (v := .ref (ad 6)) hX fX7 0 6 rfl rfl (Nat.le_of_ble_eq_true rfl) fl_X7_16 rfl dX7_archesRead_37 ?_
            refine z_iload_n hX 1 dX7_archesRead_40 rfl ?_
            refine z_aload_n hX 0 dX7_archesRead_41 rfl ?_
            refine z_bipush (v := nI 40) hX dX7_archesRead_42 (by decide) ?_
            refine z_callVi (st := [.int (nI i), .ref (ad 6)]) hX (c_X7_number_1 _ G x ad v tau p ) lb_X7_number ml_X7_136 (fun (_u : Unit) => [ob x 7 (rf ad (va_up (va_up v 4 p) 5 1)), ia G (ad 2) 80 (fN tau), ia G (ad 6) 4 (fN rr)]) (wr := [ia G (ad 2) 80 (fN tau), ia G (ad 6) 4 (fN rr)]) [0] [1, 2] [2, 0, 1] ⟨rfl, rfl, rfl, fun _ => rfl⟩ 0 rfl rfl rfl rfl ⟨Nat.le_refl _, Nat.le_refl _⟩ dX7_archesRead_44 rfl (fun r44 u44 hw44 => ?_)
            subst hw44
            refine z_iast (ws' := [ob x 7 (rf ad (va_up (va_up v 4 p) 5 1)), ia G (ad 2) 80 (fN tau), ia G (ad 6) 4 (fN (va_up rr i 0))]) hX 2 (j := i) rfl (by omega) (by decide) (updN _ _ _) rfl dX7_archesRead_47 ?_
            refine z_iinc (v := (nI (i + 1))) (L' := [(1, .int (nI (i + 1))), (0, .ref x)]) hX 1 dX7_archesRead_48 rfl (nI_inc _) (Nat.le_of_ble_eq_true rfl) rfl ?_
            refine z_goto (tgt := 2) hX dX7_archesRead_51 (by decide) ?_
            refine z_lsub [1, 0] rfl ?_
            exact ih2 (i + 1) 1 p (va_up rr i 0) sg (by omega) (by omega) (by omega) (by omega) hH1 (fun z9 => absurd z9 (by decide))
  refine z_lsub [1, 0] rfl ?_
  exact lp2 5 0 0 0 rs (fun _ => 0) (by omega) (by omega) (by omega) (by omega) rfl (fun _ j9 h9 => absurd h9 (by omega))
