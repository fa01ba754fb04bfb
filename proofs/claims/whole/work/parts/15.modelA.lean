theorem lc_lt {x : Int32} {a : Nat} (h : a < 2147483648) : lg_cmp x.toInt64 (lN a) < 0 ↔ x < nI a := by
  rw [lg_cmp_lt, ← nI_l h]
  rw [Int64.lt_iff_toInt_lt, Int32.lt_iff_toInt_lt, Int32.toInt_toInt64, Int32.toInt_toInt64]
theorem lc_gt {x : Int32} {a : Nat} (h : a < 2147483648) : 0 < lg_cmp x.toInt64 (lN a) ↔ nI a < x := by
  rw [lg_cmp_gt, ← nI_l h]
  rw [Int64.lt_iff_toInt_lt, Int32.lt_iff_toInt_lt, Int32.toInt_toInt64, Int32.toInt_toInt64]
def overS (p : Nat) (s : nst) : nst := if (crossG (s (11 + 3 * p)) (s 1) 4 0 s).2 = true then va_up (crossG (s (11 + 3 * p)) (s 1) 4 0 s).1 5 ((crossG (s (11 + 3 * p)) (s 1) 4 0 s).1 5 + 1) else va_up (crossG (s (11 + 3 * p)) (s 1) 4 0 s).1 3 ((crossG (s (11 + 3 * p)) (s 1) 4 0 s).1 3 + 1)
theorem inb_none {x : Int32} {hi : Int} (h : hi < 0) : inb x 0 hi = false := by
  simp only [inb, Bool.and_eq_false_iff, decide_eq_false_iff_not]
  omega
set_option maxRecDepth 100000 in
set_option maxHeartbeats 4000000 in
theorem c_X7_inN (l : Launch) (G : zG) (t : Nat) (lo : Nat) (hi : Nat) (h0 : t < 2147483648) (h1 : lo < 2147483648) (h2 : hi < 2147483648) : zMi l G yX7_in cX7_in 6 .boolean 0 0 0 0 [.long ((nI t).toInt64), .long (lN lo), .long (lN hi)] [] (fun (r : Int32) (_u : Unit) => zb (lo ≤ t ∧ t ≤ hi) r) (fun (_u : Unit) => []) := by
  refine zMi.of (by decide) rfl (fun X A H0 hX hXl hR => ?_)
  show Z (X, G, A, H0, 6) 0 0 [] 0 [(0, .long ((nI t).toInt64)), (2, .long (lN lo)), (4, .long (lN hi))] []
  subst hXl
  refine z_lload_n hX 0 dX7_in_0 rfl ?_
  refine z_lload_n hX 1 dX7_in_1 rfl ?_
  refine z_lcmp hX dX7_in_2 ?_
  refine z_if_lt (tgt := 17) hX dX7_in_3 (by decide) (fun c3 => ?_) (fun c3 => ?_)
  · rw [lc_lt h1] at c3
    refine z_iconst (v := nI 0) hX dX7_in_17 (by decide) ?_
    exact hR _ () _ _ ⟨fun hz => absurd hz (by first | (rw [nI_ltI h0 h1] at c3; omega) | (rw [nI_ltI h2 h0] at c10; omega)), fun _ => rfl⟩ dX7_in_18 rfl
  · rw [lc_lt h1] at c3
    refine z_lload_n hX 0 dX7_in_6 rfl ?_
    refine z_lload hX 2 dX7_in_7 rfl ?_
    refine z_lcmp hX dX7_in_9 ?_
    refine z_if_gt (tgt := 17) hX dX7_in_10 (by decide) (fun c10 => ?_) (fun c10 => ?_)
    · rw [lc_gt h2] at c10
      refine z_iconst (v := nI 0) hX dX7_in_17 (by decide) ?_
      exact hR _ () _ _ ⟨fun hz => absurd hz (by first | (rw [nI_ltI h0 h1] at c3; omega) | (rw [nI_ltI h2 h0] at c10; omega)), fun _ => rfl⟩ dX7_in_18 rfl
    · rw [lc_gt h2] at c10
      refine z_iconst (v := nI 1) hX dX7_in_13 (by decide) ?_
      refine z_goto (tgt := 18) hX dX7_in_14 (by decide) ?_
      exact hR _ () _ _ ⟨fun _ => rfl, fun hz => absurd (by rw [nI_ltI h0 h1] at c3; rw [nI_ltI h2 h0] at c10; omega) hz⟩ dX7_in_18 rfl
set_option maxRecDepth 100000 in
set_option maxHeartbeats 4000000 in
theorem c_X7_inX (l : Launch) (G : zG) (x : Int32) (lo : Nat) (hi : Nat) (h0 : lo < 2147483648) (h1 : hi < 2147483648) : zMi l G yX7_in cX7_in 6 .boolean 0 0 0 0 [.long (x.toInt64), .long (lN lo), .long (lN hi)] [] (fun (r : Int32) (_u : Unit) => (∃ j, lo ≤ j ∧ j ≤ hi ∧ x = nI j ∧ r = nI 1) ∨ (inb x lo hi = false ∧ r = nI 0)) (fun (_u : Unit) => []) := by
  refine zMi.of (by decide) rfl (fun X A H0 hX hXl hR => ?_)
  show Z (X, G, A, H0, 6) 0 0 [] 0 [(0, .long (x.toInt64)), (2, .long (lN lo)), (4, .long (lN hi))] []
  subst hXl
  refine z_lload_n hX 0 dX7_in_0 rfl ?_
  refine z_lload_n hX 1 dX7_in_1 rfl ?_
  refine z_lcmp hX dX7_in_2 ?_
  refine z_if_lt (tgt := 17) hX dX7_in_3 (by decide) (fun c3 => ?_) (fun c3 => ?_)
  · rw [lc_lt h0] at c3
    refine z_iconst (v := nI 0) hX dX7_in_17 (by decide) ?_
    exact hR _ () _ _ (Or.inr ⟨by first | exact inb_lo h0 c3 | exact inb_hi h1 c10, rfl⟩) dX7_in_18 rfl
  · rw [lc_lt h0] at c3
    refine z_lload_n hX 0 dX7_in_6 rfl ?_
    refine z_lload hX 2 dX7_in_7 rfl ?_
    refine z_lcmp hX dX7_in_9 ?_
    refine z_if_gt (tgt := 17) hX dX7_in_10 (by decide) (fun c10 => ?_) (fun c10 => ?_)
    · rw [lc_gt h1] at c10
      refine z_iconst (v := nI 0) hX dX7_in_17 (by decide) ?_
      exact hR _ () _ _ (Or.inr ⟨by first | exact inb_lo h0 c3 | exact inb_hi h1 c10, rfl⟩) dX7_in_18 rfl
    · rw [lc_gt h1] at c10
      refine z_iconst (v := nI 1) hX dX7_in_13 (by decide) ?_
      refine z_goto (tgt := 18) hX dX7_in_14 (by decide) ?_
      exact hR _ () _ _ (Or.inl (by obtain ⟨j, hj, hk, e⟩ := inb_of h0 h1 c3 c10; exact ⟨j, hj, hk, e, rfl⟩)) dX7_in_18 rfl
theorem inE_0 {x : Int32} (h3 : ¬ lg_cmp x.toInt64 (lN 0) < 0) (h10 : ¬ 0 < lg_cmp x.toInt64 (-1 : Int32).toInt64) : False := by
  rw [lc_lt (by decide)] at h3
  rw [lg_cmp_gt, Int64.lt_iff_toInt_lt, Int32.toInt_toInt64, Int32.toInt_toInt64] at h10
  rw [Int32.lt_iff_toInt_lt] at h3
  have e0 : (nI 0).toInt = 0 := by decide
  have e1 : (-1 : Int32).toInt = -1 := by decide
  omega
set_option maxRecDepth 100000 in
set_option maxHeartbeats 4000000 in
theorem c_X7_inE (l : Launch) (G : zG) (x : Int32)  : zMi l G yX7_in cX7_in 6 .boolean 0 0 0 0 [.long (x.toInt64), .long (lN 0), .long ((-1).toInt64)] [] (fun (r : Int32) (_u : Unit) => r = nI 0) (fun (_u : Unit) => []) := by
  refine zMi.of (by decide) rfl (fun X A H0 hX hXl hR => ?_)
  show Z (X, G, A, H0, 6) 0 0 [] 0 [(0, .long (x.toInt64)), (2, .long (lN 0)), (4, .long ((-1).toInt64))] []
  subst hXl
  refine z_lload_n hX 0 dX7_in_0 rfl ?_
  refine z_lload_n hX 1 dX7_in_1 rfl ?_
  refine z_lcmp hX dX7_in_2 ?_
  refine z_if_lt (tgt := 17) hX dX7_in_3 (by decide) (fun c3 => ?_) (fun c3 => ?_)
  · skip
    refine z_iconst (v := nI 0) hX dX7_in_17 (by decide) ?_
    exact hR _ () _ _ rfl dX7_in_18 rfl
  · skip
    refine z_lload_n hX 0 dX7_in_6 rfl ?_
    refine z_lload hX 2 dX7_in_7 rfl ?_
    refine z_lcmp hX dX7_in_9 ?_
    refine z_if_gt (tgt := 17) hX dX7_in_10 (by decide) (fun c10 => ?_) (fun c10 => ?_)
    · skip
      refine z_iconst (v := nI 0) hX dX7_in_17 (by decide) ?_
      exact hR _ () _ _ rfl dX7_in_18 rfl
    · skip
      refine z_iconst (v := nI 1) hX dX7_in_13 (by decide) ?_
      refine z_goto (tgt := 18) hX dX7_in_14 (by decide) ?_
      exact absurd (inE_0 c3 c10) (fun z => z)
set_option maxRecDepth 100000 in
set_option maxHeartbeats 4000000 in
theorem c_X7_told (l : Launch) (G : zG) (x : Nat) (ad : Nat → Nat) (v : Nat → Nat) (s : nst) (p : Nat) (w : Nat) (ix : Nat) (h0 : ix = 11 + 3 * p + w) (h1 : ix < 29) : zMi l G yX7_told cX7_told 3 .int 0 0 0 0 [.ref x, .int (nI p), .int (nI w)] [ob x 7 (rf ad v), ia G (ad 0) 29 (fN s)] (fun (r : Int32) (_u : Unit) => r = nI (s ix)) (fun (_u : Unit) => [ob x 7 (rf ad v), ia G (ad 0) 29 (fN s)]) := by
  refine zMi.of (by decide) rfl (fun X A H0 hX hXl hR => ?_)
  show Z (X, G, A, H0, 3) 0 0 [ob x 7 (rf ad v), ia G (ad 0) 29 (fN s)] 0 [(0, .ref x), (1, .int (nI p)), (2, .int (nI w))] []
  subst hXl
  refine z_aload_n hX 0 dX7_told_0 rfl ?_
  refine z_get (v := .ref (ad 0)) hX fX7 0 0 rfl rfl (Nat.le_of_ble_eq_true rfl) fl_X7_7 rfl dX7_told_1 ?_
  refine z_bipush (v := nI 11) hX dX7_told_4 (by decide) ?_
  refine z_iconst (v := nI 3) hX dX7_told_6 (by decide) ?_
  refine z_iload_n hX 1 dX7_told_7 rfl ?_
  refine z_imul (v := (nI (3 * p))) hX dX7_told_8 (pk_mul _ _) ?_
  refine z_iadd (v := (nI (11 + 3 * p))) hX dX7_told_9 (nI_add _ _) ?_
  refine z_iload_n hX 2 dX7_told_10 rfl ?_
  refine z_iadd (v := (nI (11 + 3 * p + w))) hX dX7_told_11 (nI_add _ _) ?_
  refine z_iald (v := (nI (s (11 + 3 * p + w)))) hX 1 (j := (11 + 3 * p + w)) rfl (by omega) (by decide) rfl dX7_told_12 ?_
  exact hR _ () _ _ (by rw [h0]) dX7_told_13 rfl
set_option maxRecDepth 100000 in
set_option maxHeartbeats 4000000 in
theorem c_X7_comes (l : Launch) (G : zG) (x : Nat) (ad : Nat → Nat) (v : Nat → Nat) (s : nst) (p : Nat) (h0 : p < 6) (h1 : 1 ≤ s (13 + 3 * p)) (h2 : s (13 + 3 * p) < 2147483648) (h3 : s 1 < 2147483648) : zMi l G yX7_comes cX7_comes 2 .boolean 1 0 0 22 [.ref x, .int (nI p)] [ob x 7 (rf ad v), ia G (ad 0) 29 (fN s)] (fun (r : Int32) (_u : Unit) => zb (s 1 % s (13 + 3 * p) = 0) r) (fun (_u : Unit) => [ob x 7 (rf ad v), ia G (ad 0) 29 (fN s)]) := by
  refine zMi.of (by decide) rfl (fun X A H0 hX hXl hR => ?_)
  show Z (X, G, A, H0, 2) 0 0 [ob x 7 (rf ad v), ia G (ad 0) 29 (fN s)] 0 [(0, .ref x), (1, .int (nI p))] []
  subst hXl
  have hm : s 1 % s (13 + 3 * p) ≤ s 1 := Nat.mod_le _ _
  refine z_aload_n hX 0 dX7_comes_0 rfl ?_
  refine z_get (v := .ref (ad 0)) hX fX7 0 0 rfl rfl (Nat.le_of_ble_eq_true rfl) fl_X7_7 rfl dX7_comes_1 ?_
  refine z_iconst (v := nI 1) hX dX7_comes_4 (by decide) ?_
  refine z_iald (v := (nI (s 1))) hX 1 (j := 1) rfl (by omega) (by decide) rfl dX7_comes_5 ?_
  refine z_aload_n hX 0 dX7_comes_6 rfl ?_
  refine z_iload_n hX 1 dX7_comes_7 rfl ?_
  refine z_iconst (v := nI 2) hX dX7_comes_8 (by decide) ?_
  refine z_callVi (st := [.int (nI (s 1))]) hX (c_X7_told _ G x ad v s p 2 (13 + 3 * p) (by omega) (by omega)) lb_X7_told ml_X7_50 (fun (_u : Unit) => [ob x 7 (rf ad v), ia G (ad 0) 29 (fN s)]) (wr := []) [0, 1] [] [0, 1] ⟨rfl, rfl, rfl, fun _ => rfl⟩ 0 rfl rfl rfl rfl ⟨Nat.le_refl _, Nat.le_refl _⟩ dX7_comes_9 rfl (fun r9 u9 hw9 => ?_)
  subst hw9
  refine z_irem (v := (nI ((s 1) % (s (13 + 3 * p))))) hX dX7_comes_12 (nI_ne0 (by omega) (by omega)) (pk_rem (by omega) (by omega) (by omega)) ?_
  refine zn_if_ne (tgt := 20) hX dX7_comes_13 (by decide) (by omega) (fun c13 => ?_) (fun c13 => ?_)
  · skip
    refine z_iconst (v := nI 0) hX dX7_comes_20 (by decide) ?_
    exact hR _ () _ _ ⟨fun hz => absurd hz (by omega), fun _ => rfl⟩ dX7_comes_21 rfl
  · skip
    refine z_iconst (v := nI 1) hX dX7_comes_16 (by decide) ?_
    refine z_goto (tgt := 21) hX dX7_comes_17 (by decide) ?_
    exact hR _ () _ _ ⟨fun _ => rfl, fun hz => absurd (by omega) hz⟩ dX7_comes_21 rfl
set_option maxRecDepth 100000 in
set_option maxHeartbeats 4000000 in
theorem c_X7_isRefused (l : Launch) (G : zG) (x : Nat) (ad : Nat → Nat) (v : Nat → Nat) (s : nst) (p : Nat) (h0 : p < 6) (h1 : s (12 + 3 * p) < 2147483648) : zMi l G yX7_isRefused cX7_isRefused 2 .boolean 1 0 0 22 [.ref x, .int (nI p)] [ob x 7 (rf ad v), ia G (ad 0) 29 (fN s)] (fun (r : Int32) (_u : Unit) => zb (s (12 + 3 * p) &&& s 2 ≠ 0) r) (fun (_u : Unit) => [ob x 7 (rf ad v), ia G (ad 0) 29 (fN s)]) := by
  refine zMi.of (by decide) rfl (fun X A H0 hX hXl hR => ?_)
  show Z (X, G, A, H0, 2) 0 0 [ob x 7 (rf ad v), ia G (ad 0) 29 (fN s)] 0 [(0, .ref x), (1, .int (nI p))] []
  subst hXl
  have hb : s (12 + 3 * p) &&& s 2 ≤ s (12 + 3 * p) := Nat.and_le_left
  refine z_aload_n hX 0 dX7_isRefused_0 rfl ?_
  refine z_iload_n hX 1 dX7_isRefused_1 rfl ?_
  refine z_iconst (v := nI 1) hX dX7_isRefused_2 (by decide) ?_
  refine z_callVi (st := []) hX (c_X7_told _ G x ad v s p 1 (12 + 3 * p) (by omega) (by omega)) lb_X7_told ml_X7_50 (fun (_u : Unit) => [ob x 7 (rf ad v), ia G (ad 0) 29 (fN s)]) (wr := []) [0, 1] [] [0, 1] ⟨rfl, rfl, rfl, fun _ => rfl⟩ 0 rfl rfl rfl rfl ⟨Nat.le_refl _, Nat.le_refl _⟩ dX7_isRefused_3 rfl (fun r3 u3 hw3 => ?_)
  subst hw3
  refine z_aload_n hX 0 dX7_isRefused_6 rfl ?_
  refine z_get (v := .ref (ad 0)) hX fX7 0 0 rfl rfl (Nat.le_of_ble_eq_true rfl) fl_X7_7 rfl dX7_isRefused_7 ?_
  refine z_iconst (v := nI 2) hX dX7_isRefused_10 (by decide) ?_
  refine z_iald (v := (nI (s 2))) hX 1 (j := 2) rfl (by omega) (by decide) rfl dX7_isRefused_11 ?_
  refine z_iand (v := (nI ((s (12 + 3 * p)) &&& (s 2)))) hX dX7_isRefused_12 (and_nI _ _) ?_
  refine zn_if_eq (tgt := 20) hX dX7_isRefused_13 (by decide) (by omega) (fun c13 => ?_) (fun c13 => ?_)
  · skip
    refine z_iconst (v := nI 0) hX dX7_isRefused_20 (by decide) ?_
    exact hR _ () _ _ ⟨fun hz => absurd hz (by omega), fun _ => rfl⟩ dX7_isRefused_21 rfl
  · skip
    refine z_iconst (v := nI 1) hX dX7_isRefused_16 (by decide) ?_
    refine z_goto (tgt := 21) hX dX7_isRefused_17 (by decide) ?_
    exact hR _ () _ _ ⟨fun _ => rfl, fun hz => absurd (by omega) hz⟩ dX7_isRefused_21 rfl
set_option maxRecDepth 100000 in
set_option maxHeartbeats 4000000 in
theorem c_X7_wearsOff (l : Launch) (G : zG) (x : Nat) (ad : Nat → Nat) (v : Nat → Nat) (s : nst) (p : Nat) (h : Nat) (h0 : p < 6) (h1 : s (11 + 3 * p) ≤ 4) (h2 : h < 4) (h3 : s 1 < 2147483648) : zMi l G yX7_wearsOff cX7_wearsOff 3 .int 1 0 0 22 [.ref x, .int (nI p), .int (nI h)] [ob x 7 (rf ad v), ia G (ad 0) 29 (fN s)] (fun (r : Int32) (_u : Unit) => r = nI (wearN (s (11 + 3 * p)) h (s 1))) (fun (_u : Unit) => [ob x 7 (rf ad v), ia G (ad 0) 29 (fN s)]) := by
  refine zMi.of (by decide) rfl (fun X A H0 hX hXl hR => ?_)
  show Z (X, G, A, H0, 3) 0 0 [ob x 7 (rf ad v), ia G (ad 0) 29 (fN s)] 0 [(0, .ref x), (1, .int (nI p)), (2, .int (nI h))] []
  subst hXl
  refine z_aload_n hX 0 dX7_wearsOff_0 rfl ?_
  refine z_iload_n hX 1 dX7_wearsOff_1 rfl ?_
  refine z_iconst (v := nI 0) hX dX7_wearsOff_2 (by decide) ?_
  refine z_callVi (st := []) hX (c_X7_told _ G x ad v s p 0 (11 + 3 * p) (by omega) (by omega)) lb_X7_told ml_X7_50 (fun (_u : Unit) => [ob x 7 (rf ad v), ia G (ad 0) 29 (fN s)]) (wr := []) [0, 1] [] [0, 1] ⟨rfl, rfl, rfl, fun _ => rfl⟩ 0 rfl rfl rfl rfl ⟨Nat.le_refl _, Nat.le_refl _⟩ dX7_wearsOff_3 rfl (fun r3 u3 hw3 => ?_)
  subst hw3
  rcases (show s (11 + 3 * p) = 0 ∨ s (11 + 3 * p) = 1 ∨ s (11 + 3 * p) = 2 ∨ s (11 + 3 * p) = 3 ∨ s (11 + 3 * p) = 4 by omega) with e9 | e9 | e9 | e9 | e9
  · rw [e9]
    refine z_tab (tgt := 36) (j := 0) hX (by decide) dX7_wearsOff_6 (by decide) (by decide) rfl (by decide) ?_
    refine z_iconst (v := nI 1) hX dX7_wearsOff_36 (by decide) ?_
    exact hR _ () _ _ (congrArg nI (by rw [e9]; unfold wearN; repeat' (first | omega | split))) dX7_wearsOff_37 rfl
  · rw [e9]
    refine z_tab (tgt := 38) (j := 1) hX (by decide) dX7_wearsOff_6 (by decide) (by decide) rfl (by decide) ?_
    refine z_iconst (v := nI 2) hX dX7_wearsOff_38 (by decide) ?_
    exact hR _ () _ _ (congrArg nI (by rw [e9]; unfold wearN; repeat' (first | omega | split))) dX7_wearsOff_39 rfl
  · rw [e9]
    refine z_tab (tgt := 36) (j := 2) hX (by decide) dX7_wearsOff_6 (by decide) (by decide) rfl (by decide) ?_
    refine z_iconst (v := nI 1) hX dX7_wearsOff_36 (by decide) ?_
    exact hR _ () _ _ (congrArg nI (by rw [e9]; unfold wearN; repeat' (first | omega | split))) dX7_wearsOff_37 rfl
  · rw [e9]
    refine z_tab (tgt := 40) (j := 3) hX (by decide) dX7_wearsOff_6 (by decide) (by decide) rfl (by decide) ?_
    refine z_iload_n hX 2 dX7_wearsOff_40 rfl ?_
    refine z_iconst (v := nI 2) hX dX7_wearsOff_41 (by decide) ?_
    refine z_irem (v := (nI (h % 2))) hX dX7_wearsOff_42 (nI_ne0 (by omega) (by omega)) (pk_rem (by omega) (by omega) (by omega)) ?_
    refine zn_if_ne (tgt := 50) hX dX7_wearsOff_43 (by decide) (by omega) (fun c43 => ?_) (fun c43 => ?_)
    · skip
      refine z_iconst (v := nI 0) hX dX7_wearsOff_50 (by decide) ?_
      exact hR _ () _ _ (congrArg nI (by rw [e9]; unfold wearN; repeat' (first | omega | split))) dX7_wearsOff_51 rfl
    · skip
      refine z_iconst (v := nI 2) hX dX7_wearsOff_46 (by decide) ?_
      refine z_goto (tgt := 51) hX dX7_wearsOff_47 (by decide) ?_
      exact hR _ () _ _ (congrArg nI (by rw [e9]; unfold wearN; repeat' (first | omega | split))) dX7_wearsOff_51 rfl
  · rw [e9]
    refine z_tabOut (tgt := 52) hX dX7_wearsOff_6 (by right; decide) (by decide) ?_
    refine z_aload_n hX 0 dX7_wearsOff_52 rfl ?_
    refine z_get (v := .ref (ad 0)) hX fX7 0 0 rfl rfl (Nat.le_of_ble_eq_true rfl) fl_X7_7 rfl dX7_wearsOff_53 ?_
    refine z_iconst (v := nI 1) hX dX7_wearsOff_56 (by decide) ?_
    refine z_iald (v := (nI (s 1))) hX 1 (j := 1) rfl (by omega) (by decide) rfl dX7_wearsOff_57 ?_
    refine z_iconst (v := nI 4) hX dX7_wearsOff_58 (by decide) ?_
    refine z_irem (v := (nI ((s 1) % 4))) hX dX7_wearsOff_59 (nI_ne0 (by omega) (by omega)) (pk_rem (by omega) (by omega) (by omega)) ?_
    refine z_iload_n hX 2 dX7_wearsOff_60 rfl ?_
    refine zn_icmp_ne (tgt := 68) hX dX7_wearsOff_61 (by decide) (by omega) (by omega) (fun c61 => ?_) (fun c61 => ?_)
    · skip
      refine z_iconst (v := nI 1) hX dX7_wearsOff_68 (by decide) ?_
      exact hR _ () _ _ (congrArg nI (by rw [e9]; unfold wearN; repeat' (first | omega | split))) dX7_wearsOff_69 rfl
    · skip
      refine z_iconst (v := nI 2) hX dX7_wearsOff_64 (by decide) ?_
      refine z_goto (tgt := 69) hX dX7_wearsOff_65 (by decide) ?_
      exact hR _ () _ _ (congrArg nI (by rw [e9]; unfold wearN; repeat' (first | omega | split))) dX7_wearsOff_69 rfl
set_option maxRecDepth 100000 in
set_option maxHeartbeats 4000000 in
theorem c_X7_gives (l : Launch) (G : zG) (x : Nat) (ad : Nat → Nat) (v : Nat → Nat) (s : nst) (p : Nat) (h0 : p < 6) (h1 : s (11 + 3 * p) ≤ 4) (h2 : s 1 < 2147483648) : zMi l G yX7_gives cX7_gives 3 .int 1 0 0 22 [.ref x, .int (nI p)] [ob x 7 (rf ad v), ia G (ad 0) 29 (fN s)] (fun (r : Int32) (_u : Unit) => r = nI (givN (s (11 + 3 * p)) (s 1))) (fun (_u : Unit) => [ob x 7 (rf ad v), ia G (ad 0) 29 (fN s)]) := by
  refine zMi.of (by decide) rfl (fun X A H0 hX hXl hR => ?_)
  show Z (X, G, A, H0, 3) 0 0 [ob x 7 (rf ad v), ia G (ad 0) 29 (fN s)] 0 [(0, .ref x), (1, .int (nI p))] []
  subst hXl
  refine z_aload_n hX 0 dX7_gives_0 rfl ?_
  refine z_get (v := .ref (ad 0)) hX fX7 0 0 rfl rfl (Nat.le_of_ble_eq_true rfl) fl_X7_7 rfl dX7_gives_1 ?_
  refine z_iconst (v := nI 1) hX dX7_gives_4 (by decide) ?_
  refine z_iald (v := (nI (s 1))) hX 1 (j := 1) rfl (by omega) (by decide) rfl dX7_gives_5 ?_
  refine z_iconst (v := nI 2) hX dX7_gives_6 (by decide) ?_
  refine z_irem (v := (nI ((s 1) % 2))) hX dX7_gives_7 (nI_ne0 (by omega) (by omega)) (pk_rem (by omega) (by omega) (by omega)) ?_
  refine zn_if_ne (tgt := 15) hX dX7_gives_8 (by decide) (by omega) (fun c8 => ?_) (fun c8 => ?_)
  · skip
    refine z_iconst (v := nI 0) hX dX7_gives_15 (by decide) ?_
    refine z_istore_n (L' := [(2, .int (nI 0)), (0, .ref x), (1, .int (nI p))]) hX dX7_gives_16 (Nat.le_of_ble_eq_true rfl) rfl ?_
    refine z_aload_n hX 1 dX7_gives_17 rfl ?_
    refine z_iload_n hX 2 dX7_gives_18 rfl ?_
    refine z_iconst (v := nI 0) hX dX7_gives_19 (by decide) ?_
    refine z_callVi (st := []) hX (c_X7_told _ G x ad v s p 0 (11 + 3 * p) (by omega) (by omega)) lb_X7_told ml_X7_50 (fun (_u : Unit) => [ob x 7 (rf ad v), ia G (ad 0) 29 (fN s)]) (wr := []) [0, 1] [] [0, 1] ⟨rfl, rfl, rfl, fun _ => rfl⟩ 0 rfl rfl rfl rfl ⟨Nat.le_refl _, Nat.le_refl _⟩ dX7_gives_20 rfl (fun r20 u20 hw20 => ?_)
    subst hw20
    rcases (show s (11 + 3 * p) = 0 ∨ s (11 + 3 * p) = 1 ∨ s (11 + 3 * p) = 2 ∨ s (11 + 3 * p) = 3 ∨ s (11 + 3 * p) = 4 by omega) with e9 | e9 | e9 | e9 | e9
    · rw [e9]
      refine z_tab (tgt := 52) (j := 0) hX (by decide) dX7_gives_23 (by decide) (by decide) rfl (by decide) ?_
      refine z_iconst (v := nI 1) hX dX7_gives_52 (by decide) ?_
      exact hR _ () _ _ (congrArg nI (by rw [e9]; unfold givN; repeat' (first | omega | split))) dX7_gives_53 rfl
    · rw [e9]
      refine z_tab (tgt := 54) (j := 1) hX (by decide) dX7_gives_23 (by decide) (by decide) rfl (by decide) ?_
      refine z_iconst (v := nI 2) hX dX7_gives_54 (by decide) ?_
      exact hR _ () _ _ (congrArg nI (by rw [e9]; unfold givN; repeat' (first | omega | split))) dX7_gives_55 rfl
    · rw [e9]
      refine z_tab (tgt := 56) (j := 2) hX (by decide) dX7_gives_23 (by decide) (by decide) rfl (by decide) ?_
      refine z_iload_n hX 0 dX7_gives_56 rfl ?_
      exact hR _ () _ _ (congrArg nI (by rw [e9]; unfold givN; repeat' (first | omega | split))) dX7_gives_57 rfl
    · rw [e9]
      refine z_tab (tgt := 58) (j := 3) hX (by decide) dX7_gives_23 (by decide) (by decide) rfl (by decide) ?_
      refine z_bipush (v := nI 6) hX dX7_gives_58 (by decide) ?_
      exact hR _ () _ _ (congrArg nI (by rw [e9]; unfold givN; repeat' (first | omega | split))) dX7_gives_60 rfl
    · rw [e9]
      refine z_tabOut (tgt := 61) hX dX7_gives_23 (by right; decide) (by decide) ?_
      refine z_iload_n hX 0 dX7_gives_61 rfl ?_
      refine z_iconst (v := nI 1) hX dX7_gives_62 (by decide) ?_
      refine zn_icmp_le (tgt := 72) hX dX7_gives_63 (by decide) (by omega) (by omega) (fun _ => ?_) (fun c63 => absurd c63 (by omega))
      refine z_iconst (v := nI 0) hX dX7_gives_72 (by decide) ?_
      exact hR _ () _ _ (congrArg nI (by rw [e9]; unfold givN; repeat' (first | omega | split))) dX7_gives_73 rfl
  · skip
    refine z_iconst (v := nI 1) hX dX7_gives_11 (by decide) ?_
    refine z_goto (tgt := 16) hX dX7_gives_12 (by decide) ?_
    refine z_istore_n (L' := [(2, .int (nI 1)), (0, .ref x), (1, .int (nI p))]) hX dX7_gives_16 (Nat.le_of_ble_eq_true rfl) rfl ?_
    refine z_aload_n hX 1 dX7_gives_17 rfl ?_
    refine z_iload_n hX 2 dX7_gives_18 rfl ?_
    refine z_iconst (v := nI 0) hX dX7_gives_19 (by decide) ?_
    refine z_callVi (st := []) hX (c_X7_told _ G x ad v s p 0 (11 + 3 * p) (by omega) (by omega)) lb_X7_told ml_X7_50 (fun (_u : Unit) => [ob x 7 (rf ad v), ia G (ad 0) 29 (fN s)]) (wr := []) [0, 1] [] [0, 1] ⟨rfl, rfl, rfl, fun _ => rfl⟩ 0 rfl rfl rfl rfl ⟨Nat.le_refl _, Nat.le_refl _⟩ dX7_gives_20 rfl (fun r20 u20 hw20 => ?_)
    subst hw20
    rcases (show s (11 + 3 * p) = 0 ∨ s (11 + 3 * p) = 1 ∨ s (11 + 3 * p) = 2 ∨ s (11 + 3 * p) = 3 ∨ s (11 + 3 * p) = 4 by omega) with e9 | e9 | e9 | e9 | e9
    · rw [e9]
      refine z_tab (tgt := 52) (j := 0) hX (by decide) dX7_gives_23 (by decide) (by decide) rfl (by decide) ?_
      refine z_iconst (v := nI 1) hX dX7_gives_52 (by decide) ?_
      exact hR _ () _ _ (congrArg nI (by rw [e9]; unfold givN; repeat' (first | omega | split))) dX7_gives_53 rfl
    · rw [e9]
      refine z_tab (tgt := 54) (j := 1) hX (by decide) dX7_gives_23 (by decide) (by decide) rfl (by decide) ?_
      refine z_iconst (v := nI 2) hX dX7_gives_54 (by decide) ?_
      exact hR _ () _ _ (congrArg nI (by rw [e9]; unfold givN; repeat' (first | omega | split))) dX7_gives_55 rfl
    · rw [e9]
      refine z_tab (tgt := 56) (j := 2) hX (by decide) dX7_gives_23 (by decide) (by decide) rfl (by decide) ?_
      refine z_iload_n hX 0 dX7_gives_56 rfl ?_
      exact hR _ () _ _ (congrArg nI (by rw [e9]; unfold givN; repeat' (first | omega | split))) dX7_gives_57 rfl
    · rw [e9]
      refine z_tab (tgt := 58) (j := 3) hX (by decide) dX7_gives_23 (by decide) (by decide) rfl (by decide) ?_
      refine z_bipush (v := nI 6) hX dX7_gives_58 (by decide) ?_
      exact hR _ () _ _ (congrArg nI (by rw [e9]; unfold givN; repeat' (first | omega | split))) dX7_gives_60 rfl
    · rw [e9]
      refine z_tabOut (tgt := 61) hX dX7_gives_23 (by right; decide) (by decide) ?_
      refine z_iload_n hX 0 dX7_gives_61 rfl ?_
      refine z_iconst (v := nI 1) hX dX7_gives_62 (by decide) ?_
      refine zn_icmp_le (tgt := 72) hX dX7_gives_63 (by decide) (by omega) (by omega) (fun _ => ?_) (fun c63 => absurd c63 (by omega))
      refine z_iconst (v := nI 0) hX dX7_gives_72 (by decide) ?_
      exact hR _ () _ _ (congrArg nI (by rw [e9]; unfold givN; repeat' (first | omega | split))) dX7_gives_73 rfl
set_option maxRecDepth 100000 in
set_option maxHeartbeats 4000000 in
theorem c_X7_stonesByP (l : Launch) (G : zG) (x : Nat) (ad : Nat → Nat) (v : Nat → Nat) (s : nst) (k : Nat) (m : Nat) (h0 : k < 4) (h1 : s (7 + k) ≤ 40) (h2 : m ≤ 1000) : zMv l G yX7_stonesBy cX7_stonesBy 4 0 0 0 0 [.ref x, .int (nI k), .int (nI m)] [ob x 7 (rf ad v), ia G (ad 0) 29 (fN s)] (fun (_u : Unit) => True) (fun (_u : Unit) => [ob x 7 (rf ad v), ia G (ad 0) 29 (fN (va_up s (7 + k) (min 40 (s (7 + k) + m))))]) := by
  refine zMv.of (by decide) rfl (fun X A H0 hX hXl hnm hR => ?_)
  show Z (X, G, A, H0, 4) 0 0 [ob x 7 (rf ad v), ia G (ad 0) 29 (fN s)] 0 [(0, .ref x), (1, .int (nI k)), (2, .int (nI m))] []
  subst hXl
  refine z_aload_n hX 0 dX7_stonesBy_0 rfl ?_
  refine z_get (v := .ref (ad 0)) hX fX7 0 0 rfl rfl (Nat.le_of_ble_eq_true rfl) fl_X7_7 rfl dX7_stonesBy_1 ?_
  refine z_bipush (v := nI 7) hX dX7_stonesBy_4 (by decide) ?_
  refine z_iload_n hX 1 dX7_stonesBy_6 rfl ?_
  refine z_iadd (v := (nI (7 + k))) hX dX7_stonesBy_7 (nI_add _ _) ?_
  refine z_iald (v := (nI (s (7 + k)))) hX 1 (j := (7 + k)) rfl (by omega) (by decide) rfl dX7_stonesBy_8 ?_
  refine z_iload_n hX 2 dX7_stonesBy_9 rfl ?_
  refine z_iadd (v := (nI (s (7 + k) + m))) hX dX7_stonesBy_10 (nI_add _ _) ?_
  refine z_istore_n (L' := [(3, .int (nI (s (7 + k) + m))), (0, .ref x), (1, .int (nI k)), (2, .int (nI m))]) hX dX7_stonesBy_11 (Nat.le_of_ble_eq_true rfl) rfl ?_
  refine z_aload_n hX 1 dX7_stonesBy_12 rfl ?_
  refine z_get (v := .ref (ad 0)) hX fX7 0 0 rfl rfl (Nat.le_of_ble_eq_true rfl) fl_X7_7 rfl dX7_stonesBy_13 ?_
  refine z_bipush (v := nI 7) hX dX7_stonesBy_16 (by decide) ?_
  refine z_iload_n hX 2 dX7_stonesBy_18 rfl ?_
  refine z_iadd (v := (nI (7 + k))) hX dX7_stonesBy_19 (nI_add _ _) ?_
  refine z_iload_n hX 0 dX7_stonesBy_20 rfl ?_
  refine zn_if_ge (tgt := 28) hX dX7_stonesBy_21 (by decide) (by omega) (fun c21 => ?_) (fun c21 => absurd c21 (by omega))
  refine z_iload_n hX 0 dX7_stonesBy_28 rfl ?_
  refine z_bipush (v := nI 40) hX dX7_stonesBy_29 (by decide) ?_
  refine zn_icmp_le (tgt := 39) hX dX7_stonesBy_31 (by decide) (by omega) (by omega) (fun c31 => ?_) (fun c31 => ?_)
  · skip
    refine z_iload_n hX 0 dX7_stonesBy_39 rfl ?_
    refine z_iast (ws' := [ob x 7 (rf ad v), ia G (ad 0) 29 (fN (va_up s (7 + k) (s (7 + k) + m)))]) hX 1 (j := (7 + k)) rfl (by omega) (by decide) (updN _ _ _) rfl dX7_stonesBy_40 ?_
    have e1 : va_up s (7 + k) (s (7 + k) + m) = va_up s (7 + k) (min 40 (s (7 + k) + m)) := by congr 1; omega
    rw [e1]
    exact hR () _ _ trivial dX7_stonesBy_41
  · skip
    refine z_bipush (v := nI 40) hX dX7_stonesBy_34 (by decide) ?_
    refine z_goto (tgt := 40) hX dX7_stonesBy_36 (by decide) ?_
    refine z_iast (ws' := [ob x 7 (rf ad v), ia G (ad 0) 29 (fN (va_up s (7 + k) 40))]) hX 1 (j := (7 + k)) rfl (by omega) (by decide) (updN _ _ _) rfl dX7_stonesBy_40 ?_
    have e1 : va_up s (7 + k) 40 = va_up s (7 + k) (min 40 (s (7 + k) + m)) := by congr 1; omega
    rw [e1]
    exact hR () _ _ trivial dX7_stonesBy_41
set_option maxRecDepth 100000 in
set_option maxHeartbeats 4000000 in
theorem c_X7_stonesByM (l : Launch) (G : zG) (x : Nat) (ad : Nat → Nat) (v : Nat → Nat) (s : nst) (k : Nat) (m : Nat) (h0 : k < 4) (h1 : s (7 + k) ≤ 40) (h2 : m ≤ 1000) : zMv l G yX7_stonesBy cX7_stonesBy 4 0 0 0 0 [.ref x, .int (nI k), .int (-nI m)] [ob x 7 (rf ad v), ia G (ad 0) 29 (fN s)] (fun (_u : Unit) => True) (fun (_u : Unit) => [ob x 7 (rf ad v), ia G (ad 0) 29 (fN (va_up s (7 + k) (s (7 + k) - m)))]) := by
  refine zMv.of (by decide) rfl (fun X A H0 hX hXl hnm hR => ?_)
  show Z (X, G, A, H0, 4) 0 0 [ob x 7 (rf ad v), ia G (ad 0) 29 (fN s)] 0 [(0, .ref x), (1, .int (nI k)), (2, .int (-nI m))] []
  subst hXl
  refine z_aload_n hX 0 dX7_stonesBy_0 rfl ?_
  refine z_get (v := .ref (ad 0)) hX fX7 0 0 rfl rfl (Nat.le_of_ble_eq_true rfl) fl_X7_7 rfl dX7_stonesBy_1 ?_
  refine z_bipush (v := nI 7) hX dX7_stonesBy_4 (by decide) ?_
  refine z_iload_n hX 1 dX7_stonesBy_6 rfl ?_
  refine z_iadd (v := (nI (7 + k))) hX dX7_stonesBy_7 (nI_add _ _) ?_
  refine z_iald (v := (nI (s (7 + k)))) hX 1 (j := (7 + k)) rfl (by omega) (by decide) rfl dX7_stonesBy_8 ?_
  refine z_iload_n hX 2 dX7_stonesBy_9 rfl ?_
  rcases Nat.lt_or_ge (s (7 + k)) m with q9 | q9
  · skip
    refine z_iadd (v := (nI (s (7 + k)) - nI m)) hX dX7_stonesBy_10 (Int32.sub_eq_add_neg _ _).symm ?_
    refine z_istore_n (L' := [(3, .int (nI (s (7 + k)) - nI m)), (0, .ref x), (1, .int (nI k)), (2, .int (-nI m))]) hX dX7_stonesBy_11 (Nat.le_of_ble_eq_true rfl) rfl ?_
    refine z_aload_n hX 1 dX7_stonesBy_12 rfl ?_
    refine z_get (v := .ref (ad 0)) hX fX7 0 0 rfl rfl (Nat.le_of_ble_eq_true rfl) fl_X7_7 rfl dX7_stonesBy_13 ?_
    refine z_bipush (v := nI 7) hX dX7_stonesBy_16 (by decide) ?_
    refine z_iload_n hX 2 dX7_stonesBy_18 rfl ?_
    refine z_iadd (v := (nI (7 + k))) hX dX7_stonesBy_19 (nI_add _ _) ?_
    refine z_iload_n hX 0 dX7_stonesBy_20 rfl ?_
    refine z_if_ge (tgt := 28) hX dX7_stonesBy_21 (by decide) (fun c21 => absurd c21 (fun c9 => absurd (pk_sneg (a := s (7 + k)) (b := m) (by omega) q9) (by rw [Int32.not_lt]; exact c9))) (fun c21 => ?_)
    refine z_iconst (v := nI 0) hX dX7_stonesBy_24 (by decide) ?_
    refine z_goto (tgt := 40) hX dX7_stonesBy_25 (by decide) ?_
    refine z_iast (ws' := [ob x 7 (rf ad v), ia G (ad 0) 29 (fN (va_up s (7 + k) 0))]) hX 1 (j := (7 + k)) rfl (by omega) (by decide) (updN _ _ _) rfl dX7_stonesBy_40 ?_
    have e1 : va_up s (7 + k) 0 = va_up s (7 + k) (s (7 + k) - m) := by first | rfl | (congr 1; omega)
    rw [e1]
    exact hR () _ _ trivial dX7_stonesBy_41
  · skip
    refine z_iadd (v := (nI (s (7 + k) - m))) hX dX7_stonesBy_10 ((Int32.sub_eq_add_neg _ _).symm.trans (pk_sub (by omega))) ?_
    refine z_istore_n (L' := [(3, .int (nI (s (7 + k) - m))), (0, .ref x), (1, .int (nI k)), (2, .int (-nI m))]) hX dX7_stonesBy_11 (Nat.le_of_ble_eq_true rfl) rfl ?_
    refine z_aload_n hX 1 dX7_stonesBy_12 rfl ?_
    refine z_get (v := .ref (ad 0)) hX fX7 0 0 rfl rfl (Nat.le_of_ble_eq_true rfl) fl_X7_7 rfl dX7_stonesBy_13 ?_
    refine z_bipush (v := nI 7) hX dX7_stonesBy_16 (by decide) ?_
    refine z_iload_n hX 2 dX7_stonesBy_18 rfl ?_
    refine z_iadd (v := (nI (7 + k))) hX dX7_stonesBy_19 (nI_add _ _) ?_
    refine z_iload_n hX 0 dX7_stonesBy_20 rfl ?_
    refine zn_if_ge (tgt := 28) hX dX7_stonesBy_21 (by decide) (by omega) (fun c21 => ?_) (fun c21 => absurd c21 (by omega))
    refine z_iload_n hX 0 dX7_stonesBy_28 rfl ?_
    refine z_bipush (v := nI 40) hX dX7_stonesBy_29 (by decide) ?_
    refine zn_icmp_le (tgt := 39) hX dX7_stonesBy_31 (by decide) (by omega) (by omega) (fun c31 => ?_) (fun c31 => absurd c31 (by omega))
    refine z_iload_n hX 0 dX7_stonesBy_39 rfl ?_
    refine z_iast (ws' := [ob x 7 (rf ad v), ia G (ad 0) 29 (fN (va_up s (7 + k) (s (7 + k) - m)))]) hX 1 (j := (7 + k)) rfl (by omega) (by decide) (updN _ _ _) rfl dX7_stonesBy_40 ?_
    have e1 : va_up s (7 + k) (s (7 + k) - m) = va_up s (7 + k) (s (7 + k) - m) := by first | rfl | (congr 1; omega)
    rw [e1]
    exact hR () _ _ trivial dX7_stonesBy_41
