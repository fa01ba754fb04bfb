theorem inb_of {x : Int32} {lo hi : Nat} (hlo : lo < 2147483648) (hhi : hi < 2147483648) (h0 : ¬ x < nI lo) (h1 : ¬ nI hi < x) : ∃ j, lo ≤ j ∧ j ≤ hi ∧ x = nI j := by
  have e1 : (nI lo).toInt = lo := nI_toInt hlo
  have e2 : (nI hi).toInt = hi := nI_toInt hhi
  have g0 : ¬ x.toInt < (nI lo).toInt := fun c => h0 (Int32.lt_iff_toInt_lt.mpr c)
  have g1 : ¬ (nI hi).toInt < x.toInt := fun c => h1 (Int32.lt_iff_toInt_lt.mpr c)
  rcases inb_cases x lo hi hhi with q | q
  · exact q
  · simp only [inb, Bool.and_eq_false_iff, decide_eq_false_iff_not] at q
    omega
theorem inb_lo {x : Int32} {lo : Nat} {hi : Int} (hlo : lo < 2147483648) (h0 : x < nI lo) : inb x lo hi = false := by
  have e1 : (nI lo).toInt = lo := nI_toInt hlo
  have g0 : x.toInt < (nI lo).toInt := Int32.lt_iff_toInt_lt.mp h0
  simp only [inb, Bool.and_eq_false_iff, decide_eq_false_iff_not]
  omega
theorem inb_hi {x : Int32} {lo : Int} {hi : Nat} (hhi : hi < 2147483648) (h0 : nI hi < x) : inb x lo hi = false := by
  have e1 : (nI hi).toInt = hi := nI_toInt hhi
  have g0 : (nI hi).toInt < x.toInt := Int32.lt_iff_toInt_lt.mp h0
  simp only [inb, Bool.and_eq_false_iff, decide_eq_false_iff_not]
  omega
theorem inb_hi' {x : Int32} {lo : Int} {N : Nat} (hhi : N < 2147483648) (h0 : nI N ≤ x) : inb x lo ((N : Nat) - 1 : Int) = false := by
  have e1 : (nI N).toInt = N := nI_toInt hhi
  have g0 : (nI N).toInt ≤ x.toInt := Int32.le_iff_toInt_le.mp h0
  simp only [inb, Bool.and_eq_false_iff, decide_eq_false_iff_not]
  omega
theorem inb_of' {x : Int32} {N : Nat} (hhi : N < 2147483648) (h0 : ¬ x < 0) (h1 : ¬ nI N ≤ x) : ∃ j, j < N ∧ x = nI j := by
  rcases pk_ix x hhi with q | q | q
  · exact absurd q h0
  · exact absurd q h1
  · exact q
theorem inb_neg {x : Int32} {hi : Int} (h0 : x < 0) : inb x 0 hi = false := inb_lo (lo := 0) (by omega) h0
theorem and1_nI (a : Nat) : nI a &&& nI 1 = nI (a % 2) := by
  rw [and_nI, Nat.and_one_is_mod]
set_option maxRecDepth 100000 in
set_option maxHeartbeats 4000000 in
theorem c_X6_isBelow (l : Launch) (G : zG) (t : Nat) (N : Nat) (h0 : t < 2147483648) (h1 : N < 2147483648) : zMi l G yX6_isBelow cX6_isBelow 2 .boolean 0 0 0 0 [.int (nI t), .int (nI N)] [] (fun (r : Int32) (_u : Unit) => zb (t < N) r) (fun (_u : Unit) => []) := by
  refine zMi.of (by decide) rfl (fun X A H0 hX hXl hR => ?_)
  show Z (X, G, A, H0, 2) 0 0 [] 0 [(0, .int (nI t)), (1, .int (nI N))] []
  subst hXl
  refine z_iload_n hX 0 dX6_isBelow_0 rfl ?_
  refine zn_if_lt (tgt := 13) hX dX6_isBelow_1 (by decide) (by omega) (fun c1 => ?_) (fun c1 => ?_)
  · skip
    refine z_iconst (v := nI 0) hX dX6_isBelow_13 (by decide) ?_
    exact hR _ () _ _ ⟨fun hz => absurd hz (by omega), fun _ => rfl⟩ dX6_isBelow_14 rfl
  · skip
    refine z_iload_n hX 0 dX6_isBelow_4 rfl ?_
    refine z_iload_n hX 1 dX6_isBelow_5 rfl ?_
    refine zn_icmp_ge (tgt := 13) hX dX6_isBelow_6 (by decide) (by omega) (by omega) (fun c6 => ?_) (fun c6 => ?_)
    · skip
      refine z_iconst (v := nI 0) hX dX6_isBelow_13 (by decide) ?_
      exact hR _ () _ _ ⟨fun hz => absurd hz (by omega), fun _ => rfl⟩ dX6_isBelow_14 rfl
    · skip
      refine z_iconst (v := nI 1) hX dX6_isBelow_9 (by decide) ?_
      refine z_goto (tgt := 14) hX dX6_isBelow_10 (by decide) ?_
      exact hR _ () _ _ ⟨fun _ => rfl, fun hz => absurd (by omega) hz⟩ dX6_isBelow_14 rfl
set_option maxRecDepth 100000 in
set_option maxHeartbeats 4000000 in
theorem c_X6_isBelowX (l : Launch) (G : zG) (x : Int32) (N : Nat) (h0 : N < 2147483648) : zMi l G yX6_isBelow cX6_isBelow 2 .boolean 0 0 0 0 [.int x, .int (nI N)] [] (fun (r : Int32) (_u : Unit) => (∃ j, j < N ∧ x = nI j ∧ r = nI 1) ∨ (inb x 0 ((N : Nat) - 1 : Int) = false ∧ r = nI 0)) (fun (_u : Unit) => []) := by
  refine zMi.of (by decide) rfl (fun X A H0 hX hXl hR => ?_)
  show Z (X, G, A, H0, 2) 0 0 [] 0 [(0, .int x), (1, .int (nI N))] []
  subst hXl
  refine z_iload_n hX 0 dX6_isBelow_0 rfl ?_
  refine z_if_lt (tgt := 13) hX dX6_isBelow_1 (by decide) (fun c1 => ?_) (fun c1 => ?_)
  · skip
    refine z_iconst (v := nI 0) hX dX6_isBelow_13 (by decide) ?_
    exact hR _ () _ _ (Or.inr ⟨by first | exact inb_neg c1 | exact inb_hi' h0 c6, rfl⟩) dX6_isBelow_14 rfl
  · skip
    refine z_iload_n hX 0 dX6_isBelow_4 rfl ?_
    refine z_iload_n hX 1 dX6_isBelow_5 rfl ?_
    refine z_icmp_ge (tgt := 13) hX dX6_isBelow_6 (by decide) (fun c6 => ?_) (fun c6 => ?_)
    · skip
      refine z_iconst (v := nI 0) hX dX6_isBelow_13 (by decide) ?_
      exact hR _ () _ _ (Or.inr ⟨by first | exact inb_neg c1 | exact inb_hi' h0 c6, rfl⟩) dX6_isBelow_14 rfl
    · skip
      refine z_iconst (v := nI 1) hX dX6_isBelow_9 (by decide) ?_
      refine z_goto (tgt := 14) hX dX6_isBelow_10 (by decide) ?_
      exact hR _ () _ _ (Or.inl (by obtain ⟨j, hj, e⟩ := inb_of' h0 c1 c6; exact ⟨j, hj, e, rfl⟩)) dX6_isBelow_14 rfl
set_option maxRecDepth 100000 in
set_option maxHeartbeats 4000000 in
theorem c_X6_isWithin (l : Launch) (G : zG) (t : Nat) (lo : Nat) (hi : Nat) (h0 : t < 2147483648) (h1 : lo < 2147483648) (h2 : hi < 2147483648) : zMi l G yX6_isWithin cX6_isWithin 3 .boolean 0 0 0 0 [.int (nI t), .int (nI lo), .int (nI hi)] [] (fun (r : Int32) (_u : Unit) => zb (lo ≤ t ∧ t ≤ hi) r) (fun (_u : Unit) => []) := by
  refine zMi.of (by decide) rfl (fun X A H0 hX hXl hR => ?_)
  show Z (X, G, A, H0, 3) 0 0 [] 0 [(0, .int (nI t)), (1, .int (nI lo)), (2, .int (nI hi))] []
  subst hXl
  refine z_iload_n hX 0 dX6_isWithin_0 rfl ?_
  refine z_iload_n hX 1 dX6_isWithin_1 rfl ?_
  refine zn_icmp_lt (tgt := 14) hX dX6_isWithin_2 (by decide) (by omega) (by omega) (fun c2 => ?_) (fun c2 => ?_)
  · skip
    refine z_iconst (v := nI 0) hX dX6_isWithin_14 (by decide) ?_
    exact hR _ () _ _ ⟨fun hz => absurd hz (by omega), fun _ => rfl⟩ dX6_isWithin_15 rfl
  · skip
    refine z_iload_n hX 0 dX6_isWithin_5 rfl ?_
    refine z_iload_n hX 2 dX6_isWithin_6 rfl ?_
    refine zn_icmp_gt (tgt := 14) hX dX6_isWithin_7 (by decide) (by omega) (by omega) (fun c7 => ?_) (fun c7 => ?_)
    · skip
      refine z_iconst (v := nI 0) hX dX6_isWithin_14 (by decide) ?_
      exact hR _ () _ _ ⟨fun hz => absurd hz (by omega), fun _ => rfl⟩ dX6_isWithin_15 rfl
    · skip
      refine z_iconst (v := nI 1) hX dX6_isWithin_10 (by decide) ?_
      refine z_goto (tgt := 15) hX dX6_isWithin_11 (by decide) ?_
      exact hR _ () _ _ ⟨fun _ => rfl, fun hz => absurd (by omega) hz⟩ dX6_isWithin_15 rfl
set_option maxRecDepth 100000 in
set_option maxHeartbeats 4000000 in
theorem c_X6_isWithinX (l : Launch) (G : zG) (x : Int32) (lo : Nat) (hi : Nat) (h0 : lo < 2147483648) (h1 : hi < 2147483648) : zMi l G yX6_isWithin cX6_isWithin 3 .boolean 0 0 0 0 [.int x, .int (nI lo), .int (nI hi)] [] (fun (r : Int32) (_u : Unit) => (∃ j, lo ≤ j ∧ j ≤ hi ∧ x = nI j ∧ r = nI 1) ∨ (inb x lo hi = false ∧ r = nI 0)) (fun (_u : Unit) => []) := by
  refine zMi.of (by decide) rfl (fun X A H0 hX hXl hR => ?_)
  show Z (X, G, A, H0, 3) 0 0 [] 0 [(0, .int x), (1, .int (nI lo)), (2, .int (nI hi))] []
  subst hXl
  refine z_iload_n hX 0 dX6_isWithin_0 rfl ?_
  refine z_iload_n hX 1 dX6_isWithin_1 rfl ?_
  refine z_icmp_lt (tgt := 14) hX dX6_isWithin_2 (by decide) (fun c2 => ?_) (fun c2 => ?_)
  · skip
    refine z_iconst (v := nI 0) hX dX6_isWithin_14 (by decide) ?_
    exact hR _ () _ _ (Or.inr ⟨by first | exact inb_lo h0 c2 | exact inb_hi h1 c7, rfl⟩) dX6_isWithin_15 rfl
  · skip
    refine z_iload_n hX 0 dX6_isWithin_5 rfl ?_
    refine z_iload_n hX 2 dX6_isWithin_6 rfl ?_
    refine z_icmp_gt (tgt := 14) hX dX6_isWithin_7 (by decide) (fun c7 => ?_) (fun c7 => ?_)
    · skip
      refine z_iconst (v := nI 0) hX dX6_isWithin_14 (by decide) ?_
      exact hR _ () _ _ (Or.inr ⟨by first | exact inb_lo h0 c2 | exact inb_hi h1 c7, rfl⟩) dX6_isWithin_15 rfl
    · skip
      refine z_iconst (v := nI 1) hX dX6_isWithin_10 (by decide) ?_
      refine z_goto (tgt := 15) hX dX6_isWithin_11 (by decide) ?_
      exact hR _ () _ _ (Or.inl (by obtain ⟨j, hj, hk, e⟩ := inb_of h0 h1 c2 c7; exact ⟨j, hj, hk, e, rfl⟩)) dX6_isWithin_15 rfl
set_option maxRecDepth 100000 in
set_option maxHeartbeats 4000000 in
theorem c_X6_isIn (l : Launch) (G : zG) (t : Nat) (s : Nat) (h0 : t < 31) (h1 : s < 2147483648) : zMi l G yX6_isIn cX6_isIn 2 .boolean 0 0 0 0 [.int (nI t), .int (nI s)] [] (fun (r : Int32) (_u : Unit) => zb (s / 2 ^ t % 2 = 1) r) (fun (_u : Unit) => []) := by
  refine zMi.of (by decide) rfl (fun X A H0 hX hXl hR => ?_)
  show Z (X, G, A, H0, 2) 0 0 [] 0 [(0, .int (nI t)), (1, .int (nI s))] []
  subst hXl
  refine z_iload_n hX 1 dX6_isIn_0 rfl ?_
  refine z_iload_n hX 0 dX6_isIn_1 rfl ?_
  refine z_ishr (v := (nI (s / 2 ^ t))) hX dX6_isIn_2 (shr_nI (by omega) (by omega)) ?_
  refine z_iconst (v := nI 1) hX dX6_isIn_3 (by decide) ?_
  refine z_iand (v := (nI (s / 2 ^ t % 2))) hX dX6_isIn_4 (and1_nI _) ?_
  refine zn_if_eq (tgt := 12) hX dX6_isIn_5 (by decide) (by omega) (fun c5 => ?_) (fun c5 => ?_)
  · skip
    refine z_iconst (v := nI 0) hX dX6_isIn_12 (by decide) ?_
    exact hR _ () _ _ ⟨fun hz => absurd hz (by omega), fun _ => rfl⟩ dX6_isIn_13 rfl
  · skip
    refine z_iconst (v := nI 1) hX dX6_isIn_8 (by decide) ?_
    refine z_goto (tgt := 13) hX dX6_isIn_9 (by decide) ?_
    exact hR _ () _ _ ⟨fun _ => rfl, fun hz => absurd (by omega) hz⟩ dX6_isIn_13 rfl
set_option maxRecDepth 100000 in
set_option maxHeartbeats 4000000 in
theorem c_X6_worn (l : Launch) (G : zG) (kd : Nat) (arch : Nat) (day : Nat) (h0 : kd ≤ 4) (h1 : arch < 4) (h2 : day < 2147483648) : zMi l G yX6_worn cX6_worn 6 .int 0 0 0 0 [.int (nI kd), .int (nI arch), .int (nI day)] [] (fun (r : Int32) (_u : Unit) => r = nI (wearN kd arch day)) (fun (_u : Unit) => []) := by
  refine zMi.of (by decide) rfl (fun X A H0 hX hXl hR => ?_)
  show Z (X, G, A, H0, 6) 0 0 [] 0 [(0, .int (nI kd)), (1, .int (nI arch)), (2, .int (nI day))] []
  subst hXl
  rcases (show kd = 0 ∨ kd = 1 ∨ kd = 2 ∨ kd = 3 ∨ kd = 4 by omega) with rfl | rfl | rfl | rfl | rfl
  · skip
    refine z_iconst (v := nI 1) hX dX6_worn_0 (by decide) ?_
    refine z_istore_n (L' := [(3, .int (nI 1)), (0, .int (nI 0)), (1, .int (nI arch)), (2, .int (nI day))]) hX dX6_worn_1 (Nat.le_of_ble_eq_true rfl) rfl ?_
    refine z_iconst (v := nI 2) hX dX6_worn_2 (by decide) ?_
    refine z_iload_n hX 0 dX6_worn_3 rfl ?_
    refine z_imul (v := (nI 2)) hX dX6_worn_4 ((pk_mul _ _).trans (congrArg nI (by omega))) ?_
    refine z_istore (L' := [(4, .int (nI 2)), (3, .int (nI 1)), (0, .int (nI 0)), (1, .int (nI arch)), (2, .int (nI day))]) hX dX6_worn_5 (Nat.le_of_ble_eq_true rfl) rfl ?_
    refine z_iload_n hX 1 dX6_worn_7 rfl ?_
    refine z_istore (L' := [(5, .int (nI 1)), (4, .int (nI 2)), (3, .int (nI 1)), (0, .int (nI 0)), (1, .int (nI arch)), (2, .int (nI day))]) hX dX6_worn_8 (Nat.le_of_ble_eq_true rfl) rfl ?_
    refine z_iload_n hX 3 dX6_worn_10 rfl ?_
    refine z_tab (tgt := 80) (j := 0) hX (by decide) dX6_worn_11 (by decide) (by decide) rfl (by decide) ?_
    refine z_iload_n hX 2 dX6_worn_80 rfl ?_
    exact hR _ () _ _ (congrArg nI (by unfold wearN; repeat' (first | omega | split))) dX6_worn_81 rfl
  · skip
    refine z_iconst (v := nI 1) hX dX6_worn_0 (by decide) ?_
    refine z_istore_n (L' := [(3, .int (nI 1)), (0, .int (nI 1)), (1, .int (nI arch)), (2, .int (nI day))]) hX dX6_worn_1 (Nat.le_of_ble_eq_true rfl) rfl ?_
    refine z_iconst (v := nI 2) hX dX6_worn_2 (by decide) ?_
    refine z_iload_n hX 0 dX6_worn_3 rfl ?_
    refine z_imul (v := (nI 2)) hX dX6_worn_4 ((pk_mul _ _).trans (congrArg nI (by omega))) ?_
    refine z_istore (L' := [(4, .int (nI 2)), (3, .int (nI 1)), (0, .int (nI 1)), (1, .int (nI arch)), (2, .int (nI day))]) hX dX6_worn_5 (Nat.le_of_ble_eq_true rfl) rfl ?_
    refine z_iload_n hX 1 dX6_worn_7 rfl ?_
    refine z_istore (L' := [(5, .int (nI 1)), (4, .int (nI 2)), (3, .int (nI 1)), (0, .int (nI 1)), (1, .int (nI arch)), (2, .int (nI day))]) hX dX6_worn_8 (Nat.le_of_ble_eq_true rfl) rfl ?_
    refine z_iload_n hX 3 dX6_worn_10 rfl ?_
    refine z_tab (tgt := 44) (j := 1) hX (by decide) dX6_worn_11 (by decide) (by decide) rfl (by decide) ?_
    refine z_iload hX 1 dX6_worn_44 rfl ?_
    exact hR _ () _ _ (congrArg nI (by unfold wearN; repeat' (first | omega | split))) dX6_worn_46 rfl
  · skip
    refine z_iconst (v := nI 1) hX dX6_worn_0 (by decide) ?_
    refine z_istore_n (L' := [(3, .int (nI 1)), (0, .int (nI 2)), (1, .int (nI arch)), (2, .int (nI day))]) hX dX6_worn_1 (Nat.le_of_ble_eq_true rfl) rfl ?_
    refine z_iconst (v := nI 2) hX dX6_worn_2 (by decide) ?_
    refine z_iload_n hX 0 dX6_worn_3 rfl ?_
    refine z_imul (v := (nI 2)) hX dX6_worn_4 ((pk_mul _ _).trans (congrArg nI (by omega))) ?_
    refine z_istore (L' := [(4, .int (nI 2)), (3, .int (nI 1)), (0, .int (nI 2)), (1, .int (nI arch)), (2, .int (nI day))]) hX dX6_worn_5 (Nat.le_of_ble_eq_true rfl) rfl ?_
    refine z_iload_n hX 1 dX6_worn_7 rfl ?_
    refine z_istore (L' := [(5, .int (nI 1)), (4, .int (nI 2)), (3, .int (nI 1)), (0, .int (nI 2)), (1, .int (nI arch)), (2, .int (nI day))]) hX dX6_worn_8 (Nat.le_of_ble_eq_true rfl) rfl ?_
    refine z_iload_n hX 3 dX6_worn_10 rfl ?_
    refine z_tab (tgt := 47) (j := 2) hX (by decide) dX6_worn_11 (by decide) (by decide) rfl (by decide) ?_
    refine z_iload hX 0 dX6_worn_47 rfl ?_
    exact hR _ () _ _ (congrArg nI (by unfold wearN; repeat' (first | omega | split))) dX6_worn_49 rfl
  · skip
    refine z_iconst (v := nI 1) hX dX6_worn_0 (by decide) ?_
    refine z_istore_n (L' := [(3, .int (nI 1)), (0, .int (nI 3)), (1, .int (nI arch)), (2, .int (nI day))]) hX dX6_worn_1 (Nat.le_of_ble_eq_true rfl) rfl ?_
    refine z_iconst (v := nI 2) hX dX6_worn_2 (by decide) ?_
    refine z_iload_n hX 0 dX6_worn_3 rfl ?_
    refine z_imul (v := (nI 2)) hX dX6_worn_4 ((pk_mul _ _).trans (congrArg nI (by omega))) ?_
    refine z_istore (L' := [(4, .int (nI 2)), (3, .int (nI 1)), (0, .int (nI 3)), (1, .int (nI arch)), (2, .int (nI day))]) hX dX6_worn_5 (Nat.le_of_ble_eq_true rfl) rfl ?_
    refine z_iload_n hX 1 dX6_worn_7 rfl ?_
    refine z_istore (L' := [(5, .int (nI 1)), (4, .int (nI 2)), (3, .int (nI 1)), (0, .int (nI 3)), (1, .int (nI arch)), (2, .int (nI day))]) hX dX6_worn_8 (Nat.le_of_ble_eq_true rfl) rfl ?_
    refine z_iload_n hX 3 dX6_worn_10 rfl ?_
    refine z_tab (tgt := 50) (j := 3) hX (by decide) dX6_worn_11 (by decide) (by decide) rfl (by decide) ?_
    refine z_iload_n hX 4 dX6_worn_50 rfl ?_
    refine z_iconst (v := nI 2) hX dX6_worn_51 (by decide) ?_
    refine z_irem (v := (nI (arch % 2))) hX dX6_worn_52 (nI_ne0 (by omega) (by omega)) (pk_rem (by omega) (by omega) (by omega)) ?_
    refine zn_if_ne (tgt := 61) hX dX6_worn_53 (by decide) (by omega) (fun c53 => ?_) (fun c53 => ?_)
    · skip
      refine z_iconst (v := nI 0) hX dX6_worn_61 (by decide) ?_
      exact hR _ () _ _ (congrArg nI (by unfold wearN; repeat' (first | omega | split))) dX6_worn_62 rfl
    · skip
      refine z_iload hX 1 dX6_worn_56 rfl ?_
      refine z_goto (tgt := 62) hX dX6_worn_58 (by decide) ?_
      exact hR _ () _ _ (congrArg nI (by unfold wearN; repeat' (first | omega | split))) dX6_worn_62 rfl
  · skip
    refine z_iconst (v := nI 1) hX dX6_worn_0 (by decide) ?_
    refine z_istore_n (L' := [(3, .int (nI 1)), (0, .int (nI 4)), (1, .int (nI arch)), (2, .int (nI day))]) hX dX6_worn_1 (Nat.le_of_ble_eq_true rfl) rfl ?_
    refine z_iconst (v := nI 2) hX dX6_worn_2 (by decide) ?_
    refine z_iload_n hX 0 dX6_worn_3 rfl ?_
    refine z_imul (v := (nI 2)) hX dX6_worn_4 ((pk_mul _ _).trans (congrArg nI (by omega))) ?_
    refine z_istore (L' := [(4, .int (nI 2)), (3, .int (nI 1)), (0, .int (nI 4)), (1, .int (nI arch)), (2, .int (nI day))]) hX dX6_worn_5 (Nat.le_of_ble_eq_true rfl) rfl ?_
    refine z_iload_n hX 1 dX6_worn_7 rfl ?_
    refine z_istore (L' := [(5, .int (nI 1)), (4, .int (nI 2)), (3, .int (nI 1)), (0, .int (nI 4)), (1, .int (nI arch)), (2, .int (nI day))]) hX dX6_worn_8 (Nat.le_of_ble_eq_true rfl) rfl ?_
    refine z_iload_n hX 3 dX6_worn_10 rfl ?_
    refine z_tab (tgt := 63) (j := 4) hX (by decide) dX6_worn_11 (by decide) (by decide) rfl (by decide) ?_
    refine z_iload_n hX 4 dX6_worn_63 rfl ?_
    refine z_iload_n hX 5 dX6_worn_64 rfl ?_
    refine z_iconst (v := nI 4) hX dX6_worn_65 (by decide) ?_
    refine z_irem (v := (nI (day % 4))) hX dX6_worn_66 (nI_ne0 (by omega) (by omega)) (pk_rem (by omega) (by omega) (by omega)) ?_
    refine zn_icmp_ne (tgt := 77) hX dX6_worn_67 (by decide) (by omega) (by omega) (fun c67 => ?_) (fun c67 => ?_)
    · skip
      refine z_iload hX 0 dX6_worn_77 rfl ?_
      exact hR _ () _ _ (congrArg nI (by unfold wearN; repeat' (first | omega | split))) dX6_worn_79 rfl
    · skip
      refine z_iload hX 0 dX6_worn_70 rfl ?_
      refine z_iconst (v := nI 1) hX dX6_worn_72 (by decide) ?_
      refine z_iadd (v := (nI 2)) hX dX6_worn_73 ((nI_add _ _).trans (congrArg nI (by omega))) ?_
      refine z_goto (tgt := 79) hX dX6_worn_74 (by decide) ?_
      exact hR _ () _ _ (congrArg nI (by unfold wearN; repeat' (first | omega | split))) dX6_worn_79 rfl
set_option maxRecDepth 100000 in
set_option maxHeartbeats 4000000 in
theorem c_X6_given (l : Launch) (G : zG) (kd : Nat) (day : Nat) (h0 : kd ≤ 4) (h1 : day < 2147483648) : zMi l G yX6_given cX6_given 5 .int 1 0 0 21 [.int (nI kd), .int (nI day)] [] (fun (r : Int32) (_u : Unit) => r = nI (givN kd day)) (fun (_u : Unit) => []) := by
  refine zMi.of (by decide) rfl (fun X A H0 hX hXl hR => ?_)
  show Z (X, G, A, H0, 5) 0 0 [] 0 [(0, .int (nI kd)), (1, .int (nI day))] []
  subst hXl
  rcases (show kd = 0 ∨ kd = 1 ∨ kd = 2 ∨ kd = 3 ∨ kd = 4 by omega) with rfl | rfl | rfl | rfl | rfl
  · skip
    refine z_iconst (v := nI 1) hX dX6_given_0 (by decide) ?_
    refine z_istore_n (L' := [(2, .int (nI 1)), (0, .int (nI 0)), (1, .int (nI day))]) hX dX6_given_1 (Nat.le_of_ble_eq_true rfl) rfl ?_
    refine z_iload_n hX 0 dX6_given_2 rfl ?_
    refine z_iconst (v := nI 1) hX dX6_given_3 (by decide) ?_
    refine z_iadd (v := (nI 2)) hX dX6_given_4 ((nI_add _ _).trans (congrArg nI (by omega))) ?_
    refine z_istore_n (L' := [(3, .int (nI 2)), (2, .int (nI 1)), (0, .int (nI 0)), (1, .int (nI day))]) hX dX6_given_5 (Nat.le_of_ble_eq_true rfl) rfl ?_
    refine z_iload_n hX 3 dX6_given_6 rfl ?_
    refine z_iconst (v := nI 2) hX dX6_given_7 (by decide) ?_
    refine z_irem (v := (nI (day % 2))) hX dX6_given_8 (nI_ne0 (by omega) (by omega)) (pk_rem (by omega) (by omega) (by omega)) ?_
    refine zn_if_eq (tgt := 16) hX dX6_given_9 (by decide) (by omega) (fun c9 => ?_) (fun c9 => ?_)
    · skip
      refine z_iload_n hX 1 dX6_given_16 rfl ?_
      refine z_istore (L' := [(4, .int (nI 1)), (3, .int (nI 2)), (2, .int (nI 1)), (0, .int (nI 0)), (1, .int (nI day))]) hX dX6_given_17 (Nat.le_of_ble_eq_true rfl) rfl ?_
      refine z_iload_n hX 3 dX6_given_19 rfl ?_
      refine z_tab (tgt := 74) (j := 0) hX (by decide) dX6_given_20 (by decide) (by decide) rfl (by decide) ?_
      refine z_iload_n hX 2 dX6_given_74 rfl ?_
      exact hR _ () _ _ (congrArg nI (by unfold givN; repeat' (first | omega | split))) dX6_given_75 rfl
    · skip
      refine z_iconst (v := nI 0) hX dX6_given_12 (by decide) ?_
      refine z_goto (tgt := 17) hX dX6_given_13 (by decide) ?_
      refine z_istore (L' := [(4, .int (nI 0)), (3, .int (nI 2)), (2, .int (nI 1)), (0, .int (nI 0)), (1, .int (nI day))]) hX dX6_given_17 (Nat.le_of_ble_eq_true rfl) rfl ?_
      refine z_iload_n hX 3 dX6_given_19 rfl ?_
      refine z_tab (tgt := 74) (j := 0) hX (by decide) dX6_given_20 (by decide) (by decide) rfl (by decide) ?_
      refine z_iload_n hX 2 dX6_given_74 rfl ?_
      exact hR _ () _ _ (congrArg nI (by unfold givN; repeat' (first | omega | split))) dX6_given_75 rfl
  · skip
    refine z_iconst (v := nI 1) hX dX6_given_0 (by decide) ?_
    refine z_istore_n (L' := [(2, .int (nI 1)), (0, .int (nI 1)), (1, .int (nI day))]) hX dX6_given_1 (Nat.le_of_ble_eq_true rfl) rfl ?_
    refine z_iload_n hX 0 dX6_given_2 rfl ?_
    refine z_iconst (v := nI 1) hX dX6_given_3 (by decide) ?_
    refine z_iadd (v := (nI 2)) hX dX6_given_4 ((nI_add _ _).trans (congrArg nI (by omega))) ?_
    refine z_istore_n (L' := [(3, .int (nI 2)), (2, .int (nI 1)), (0, .int (nI 1)), (1, .int (nI day))]) hX dX6_given_5 (Nat.le_of_ble_eq_true rfl) rfl ?_
    refine z_iload_n hX 3 dX6_given_6 rfl ?_
    refine z_iconst (v := nI 2) hX dX6_given_7 (by decide) ?_
    refine z_irem (v := (nI (day % 2))) hX dX6_given_8 (nI_ne0 (by omega) (by omega)) (pk_rem (by omega) (by omega) (by omega)) ?_
    refine zn_if_eq (tgt := 16) hX dX6_given_9 (by decide) (by omega) (fun c9 => ?_) (fun c9 => ?_)
    · skip
      refine z_iload_n hX 1 dX6_given_16 rfl ?_
      refine z_istore (L' := [(4, .int (nI 1)), (3, .int (nI 2)), (2, .int (nI 1)), (0, .int (nI 1)), (1, .int (nI day))]) hX dX6_given_17 (Nat.le_of_ble_eq_true rfl) rfl ?_
      refine z_iload_n hX 3 dX6_given_19 rfl ?_
      refine z_tab (tgt := 56) (j := 1) hX (by decide) dX6_given_20 (by decide) (by decide) rfl (by decide) ?_
      refine z_iload_n hX 1 dX6_given_56 rfl ?_
      exact hR _ () _ _ (congrArg nI (by unfold givN; repeat' (first | omega | split))) dX6_given_57 rfl
    · skip
      refine z_iconst (v := nI 0) hX dX6_given_12 (by decide) ?_
      refine z_goto (tgt := 17) hX dX6_given_13 (by decide) ?_
      refine z_istore (L' := [(4, .int (nI 0)), (3, .int (nI 2)), (2, .int (nI 1)), (0, .int (nI 1)), (1, .int (nI day))]) hX dX6_given_17 (Nat.le_of_ble_eq_true rfl) rfl ?_
      refine z_iload_n hX 3 dX6_given_19 rfl ?_
      refine z_tab (tgt := 56) (j := 1) hX (by decide) dX6_given_20 (by decide) (by decide) rfl (by decide) ?_
      refine z_iload_n hX 1 dX6_given_56 rfl ?_
      exact hR _ () _ _ (congrArg nI (by unfold givN; repeat' (first | omega | split))) dX6_given_57 rfl
  · skip
    refine z_iconst (v := nI 1) hX dX6_given_0 (by decide) ?_
    refine z_istore_n (L' := [(2, .int (nI 1)), (0, .int (nI 2)), (1, .int (nI day))]) hX dX6_given_1 (Nat.le_of_ble_eq_true rfl) rfl ?_
    refine z_iload_n hX 0 dX6_given_2 rfl ?_
    refine z_iconst (v := nI 1) hX dX6_given_3 (by decide) ?_
    refine z_iadd (v := (nI 2)) hX dX6_given_4 ((nI_add _ _).trans (congrArg nI (by omega))) ?_
    refine z_istore_n (L' := [(3, .int (nI 2)), (2, .int (nI 1)), (0, .int (nI 2)), (1, .int (nI day))]) hX dX6_given_5 (Nat.le_of_ble_eq_true rfl) rfl ?_
    refine z_iload_n hX 3 dX6_given_6 rfl ?_
    refine z_iconst (v := nI 2) hX dX6_given_7 (by decide) ?_
    refine z_irem (v := (nI (day % 2))) hX dX6_given_8 (nI_ne0 (by omega) (by omega)) (pk_rem (by omega) (by omega) (by omega)) ?_
    refine zn_if_eq (tgt := 16) hX dX6_given_9 (by decide) (by omega) (fun c9 => ?_) (fun c9 => ?_)
    · skip
      refine z_iload_n hX 1 dX6_given_16 rfl ?_
      refine z_istore (L' := [(4, .int (nI 1)), (3, .int (nI 2)), (2, .int (nI 1)), (0, .int (nI 2)), (1, .int (nI day))]) hX dX6_given_17 (Nat.le_of_ble_eq_true rfl) rfl ?_
      refine z_iload_n hX 3 dX6_given_19 rfl ?_
      refine z_tab (tgt := 58) (j := 2) hX (by decide) dX6_given_20 (by decide) (by decide) rfl (by decide) ?_
      refine z_iload hX 0 dX6_given_58 rfl ?_
      exact hR _ () _ _ (congrArg nI (by unfold givN; repeat' (first | omega | split))) dX6_given_60 rfl
    · skip
      refine z_iconst (v := nI 0) hX dX6_given_12 (by decide) ?_
      refine z_goto (tgt := 17) hX dX6_given_13 (by decide) ?_
      refine z_istore (L' := [(4, .int (nI 0)), (3, .int (nI 2)), (2, .int (nI 1)), (0, .int (nI 2)), (1, .int (nI day))]) hX dX6_given_17 (Nat.le_of_ble_eq_true rfl) rfl ?_
      refine z_iload_n hX 3 dX6_given_19 rfl ?_
      refine z_tab (tgt := 58) (j := 2) hX (by decide) dX6_given_20 (by decide) (by decide) rfl (by decide) ?_
      refine z_iload hX 0 dX6_given_58 rfl ?_
      exact hR _ () _ _ (congrArg nI (by unfold givN; repeat' (first | omega | split))) dX6_given_60 rfl
  · skip
    refine z_iconst (v := nI 1) hX dX6_given_0 (by decide) ?_
    refine z_istore_n (L' := [(2, .int (nI 1)), (0, .int (nI 3)), (1, .int (nI day))]) hX dX6_given_1 (Nat.le_of_ble_eq_true rfl) rfl ?_
    refine z_iload_n hX 0 dX6_given_2 rfl ?_
    refine z_iconst (v := nI 1) hX dX6_given_3 (by decide) ?_
    refine z_iadd (v := (nI 2)) hX dX6_given_4 ((nI_add _ _).trans (congrArg nI (by omega))) ?_
    refine z_istore_n (L' := [(3, .int (nI 2)), (2, .int (nI 1)), (0, .int (nI 3)), (1, .int (nI day))]) hX dX6_given_5 (Nat.le_of_ble_eq_true rfl) rfl ?_
    refine z_iload_n hX 3 dX6_given_6 rfl ?_
    refine z_iconst (v := nI 2) hX dX6_given_7 (by decide) ?_
    refine z_irem (v := (nI (day % 2))) hX dX6_given_8 (nI_ne0 (by omega) (by omega)) (pk_rem (by omega) (by omega) (by omega)) ?_
    refine zn_if_eq (tgt := 16) hX dX6_given_9 (by decide) (by omega) (fun c9 => ?_) (fun c9 => ?_)
    · skip
      refine z_iload_n hX 1 dX6_given_16 rfl ?_
      refine z_istore (L' := [(4, .int (nI 1)), (3, .int (nI 2)), (2, .int (nI 1)), (0, .int (nI 3)), (1, .int (nI day))]) hX dX6_given_17 (Nat.le_of_ble_eq_true rfl) rfl ?_
      refine z_iload_n hX 3 dX6_given_19 rfl ?_
      refine z_tab (tgt := 61) (j := 3) hX (by decide) dX6_given_20 (by decide) (by decide) rfl (by decide) ?_
      refine z_iconst (v := nI 3) hX dX6_given_61 (by decide) ?_
      refine z_iload_n hX 1 dX6_given_62 rfl ?_
      refine z_imul (v := (nI 6)) hX dX6_given_63 ((pk_mul _ _).trans (congrArg nI (by omega))) ?_
      exact hR _ () _ _ (congrArg nI (by unfold givN; repeat' (first | omega | split))) dX6_given_64 rfl
    · skip
      refine z_iconst (v := nI 0) hX dX6_given_12 (by decide) ?_
      refine z_goto (tgt := 17) hX dX6_given_13 (by decide) ?_
      refine z_istore (L' := [(4, .int (nI 0)), (3, .int (nI 2)), (2, .int (nI 1)), (0, .int (nI 3)), (1, .int (nI day))]) hX dX6_given_17 (Nat.le_of_ble_eq_true rfl) rfl ?_
      refine z_iload_n hX 3 dX6_given_19 rfl ?_
      refine z_tab (tgt := 61) (j := 3) hX (by decide) dX6_given_20 (by decide) (by decide) rfl (by decide) ?_
      refine z_iconst (v := nI 3) hX dX6_given_61 (by decide) ?_
      refine z_iload_n hX 1 dX6_given_62 rfl ?_
      refine z_imul (v := (nI 6)) hX dX6_given_63 ((pk_mul _ _).trans (congrArg nI (by omega))) ?_
      exact hR _ () _ _ (congrArg nI (by unfold givN; repeat' (first | omega | split))) dX6_given_64 rfl
  · skip
    refine z_iconst (v := nI 1) hX dX6_given_0 (by decide) ?_
    refine z_istore_n (L' := [(2, .int (nI 1)), (0, .int (nI 4)), (1, .int (nI day))]) hX dX6_given_1 (Nat.le_of_ble_eq_true rfl) rfl ?_
    refine z_iload_n hX 0 dX6_given_2 rfl ?_
    refine z_iconst (v := nI 1) hX dX6_given_3 (by decide) ?_
    refine z_iadd (v := (nI 2)) hX dX6_given_4 ((nI_add _ _).trans (congrArg nI (by omega))) ?_
    refine z_istore_n (L' := [(3, .int (nI 2)), (2, .int (nI 1)), (0, .int (nI 4)), (1, .int (nI day))]) hX dX6_given_5 (Nat.le_of_ble_eq_true rfl) rfl ?_
    refine z_iload_n hX 3 dX6_given_6 rfl ?_
    refine z_iconst (v := nI 2) hX dX6_given_7 (by decide) ?_
    refine z_irem (v := (nI (day % 2))) hX dX6_given_8 (nI_ne0 (by omega) (by omega)) (pk_rem (by omega) (by omega) (by omega)) ?_
    refine zn_if_eq (tgt := 16) hX dX6_given_9 (by decide) (by omega) (fun c9 => ?_) (fun c9 => ?_)
    · skip
      refine z_iload_n hX 1 dX6_given_16 rfl ?_
      refine z_istore (L' := [(4, .int (nI 1)), (3, .int (nI 2)), (2, .int (nI 1)), (0, .int (nI 4)), (1, .int (nI day))]) hX dX6_given_17 (Nat.le_of_ble_eq_true rfl) rfl ?_
      refine z_iload_n hX 3 dX6_given_19 rfl ?_
      refine z_tab (tgt := 65) (j := 4) hX (by decide) dX6_given_20 (by decide) (by decide) rfl (by decide) ?_
      refine z_iconst (v := nI 0) hX dX6_given_65 (by decide) ?_
      refine z_iload hX 0 dX6_given_66 rfl ?_
      refine z_iconst (v := nI 1) hX dX6_given_68 (by decide) ?_
      refine z_isub (v := (nI 0)) hX dX6_given_69 ((pk_sub (by omega)).trans (congrArg nI (by omega))) ?_
      refine z_max (v := (nI 0)) hX ml_X6_294 (by decide) rfl ⟨Nat.zero_le _, Nat.zero_le _⟩ dX6_given_70 ?_
      exact hR _ () _ _ (congrArg nI (by unfold givN; repeat' (first | omega | split))) dX6_given_73 rfl
    · skip
      refine z_iconst (v := nI 0) hX dX6_given_12 (by decide) ?_
      refine z_goto (tgt := 17) hX dX6_given_13 (by decide) ?_
      refine z_istore (L' := [(4, .int (nI 0)), (3, .int (nI 2)), (2, .int (nI 1)), (0, .int (nI 4)), (1, .int (nI day))]) hX dX6_given_17 (Nat.le_of_ble_eq_true rfl) rfl ?_
      refine z_iload_n hX 3 dX6_given_19 rfl ?_
      refine z_tab (tgt := 65) (j := 4) hX (by decide) dX6_given_20 (by decide) (by decide) rfl (by decide) ?_
      refine z_iconst (v := nI 0) hX dX6_given_65 (by decide) ?_
      refine z_iload hX 0 dX6_given_66 rfl ?_
      refine z_iconst (v := nI 1) hX dX6_given_68 (by decide) ?_
      refine z_isub (v := (-1)) hX dX6_given_69 (by decide) ?_
      refine z_max (v := (nI 0)) hX ml_X6_294 (by decide) rfl ⟨Nat.zero_le _, Nat.zero_le _⟩ dX6_given_70 ?_
      exact hR _ () _ _ (congrArg nI (by unfold givN; repeat' (first | omega | split))) dX6_given_73 rfl
