theorem goN_mono (t : nst) (k : Nat) : ∀ m, goN k t 5 ≤ goN (k + m) t 5
  | 0 => Nat.le_refl _
  | m + 1 => by
    have h1 := goN_mono t k m
    have h2 := (goBy_up (goN (k + m) t)).2
    show _ ≤ goBy (goN (k + m) t) 5
    omega
theorem goN_fell {t : nst} {k N : Nat} (h : goN k t 5 = t 5) (hk : k < N) (hf : ¬ goFall (goN k t) = 0) : ¬ goN N t 5 = t 5 := by
  have h1 := mt (goBy_none (goN k t)).mpr hf
  have h2 := (goBy_up (goN k t)).2
  have h3 := goN_mono t (k + 1) (N - (k + 1))
  rw [show k + 1 + (N - (k + 1)) = N by omega] at h3
  have h4 : goN (k + 1) t 5 = goBy (goN k t) 5 := rfl
  omega
theorem goN_cnt {D : Nat} {s : nst} (h : WF D 0 s) (n : Nat) : goN n s 3 ≤ 6 * (D + n) ∧ goN n s 5 ≤ 6 * (D + n) := by
  obtain ⟨_, h1, _, h3, _⟩ := goN_WF h n
  omega
theorem offerS_bd {k f o B K : Nat} {c : Nat × Nat × Nat} (h : c.1 ≤ K ∧ c.2.1 ≤ B ∧ c.2.2 ≤ B) (hk : k + 1 ≤ K) (hf : f ≤ B) (ho : o ≤ B) : (offerS k f o c).1 ≤ K ∧ (offerS k f o c).2.1 ≤ B ∧ (offerS k f o c).2.2 ≤ B := by
  unfold offerS
  split
  · exact ⟨hk, hf, ho⟩
  · exact h
theorem bestW_bd {s : nst} {n : Nat} (h : WF 9999 0 s) (hn : n ≤ 60) : ∀ v, v ≤ 64 → (bestW s n v).1 ≤ 64 ∧ (bestW s n v).2.1 ≤ 61000 ∧ (bestW s n v).2.2 ≤ 61000
  | 0, _ => by simp [bestW]
  | v + 1, hv => by
    have h1 := goN_cnt (WF_list h (v := v) (by omega)) n
    exact offerS_bd (bestW_bd h hn v (by omega)) hv (by omega) (by omega)
theorem xor_lt {a k : Nat} (ha : a < 64) (hk : k < 6) : a ^^^ 2 ^ k < 64 := by
  have h2 : 2 ^ k < 2 ^ 6 := Nat.pow_lt_pow_right (by decide) hk
  exact Nat.xor_lt_two_pow (n := 6) ha h2
theorem bestT_bd {s : nst} {n on : Nat} (h : WF 9999 0 s) (hn : n ≤ 60) : ∀ v, v ≤ 6 → (bestT s n on v).1 ≤ 64 ∧ (bestT s n on v).2.1 ≤ 61000 ∧ (bestT s n on v).2.2 ≤ 61000
  | 0, _ => by simp [bestT]
  | v + 1, hv => by
    have h1 := goN_cnt (WF_list h (v := s 2 ^^^ 2 ^ v) (xor_lt h.2.2.1 (by omega))) n
    have ih := bestT_bd (on := on) h hn v (by omega)
    unfold bestT
    split
    · exact offerS_bd ih (by omega) (by omega) (by omega)
    · exact ih
theorem WF_st {D K : Nat} {s t : nst} (h : WF D K s) (hk : ∀ i, i < 7 ∨ 11 ≤ i → t i = s i) (h7 : ∀ a, a < 4 → t (7 + a) ≤ 40) : WF D K t := by
  obtain ⟨h0, h1, h2, h3, h6, -, h11⟩ := h
  unfold WF
  rw [hk 0 (by omega), hk 1 (by omega), hk 2 (by omega), hk 3 (by omega), hk 4 (by omega), hk 5 (by omega), hk 6 (by omega)]
  refine ⟨h0, h1, h2, h3, h6, h7, fun p hp => ?_⟩
  rw [hk (11 + 3 * p) (by omega), hk (12 + 3 * p) (by omega), hk (13 + 3 * p) (by omega)]
  exact h11 p hp
theorem floodS_lo (m : Nat) (s : nst) {i : Nat} (h : i < 7 ∨ 11 ≤ i) : floodS m s i = s i := by
  unfold floodS
  rw [up_ne (by omega), up_ne (by omega), up_ne (by omega), up_ne (by omega)]
theorem WF_flood {D K : Nat} {s : nst} (h : WF D K s) (m : Nat) : WF D K (floodS m s) := by
  refine WF_st h (fun i hi => floodS_lo m s hi) (fun a ha => ?_)
  have q0 : s 7 ≤ 40 := h.2.2.2.2.2.1 0 (by omega)
  have q1 : s 8 ≤ 40 := h.2.2.2.2.2.1 1 (by omega)
  have q2 : s 9 ≤ 40 := h.2.2.2.2.2.1 2 (by omega)
  have q3 : s 10 ≤ 40 := h.2.2.2.2.2.1 3 (by omega)
  rcases (show a = 0 ∨ a = 1 ∨ a = 2 ∨ a = 3 by omega) with rfl | rfl | rfl | rfl <;> simp [floodS, va_up] <;> omega
theorem dryS_lo (s : nst) (set : Nat) {i : Nat} (h : i < 7 ∨ 11 ≤ i) : ∀ a, a ≤ 4 → dryS s set a i = s i
  | 0, _ => rfl
  | a + 1, ha => by
    unfold dryS
    split
    · rw [up_ne (by omega), dryS_lo s set h a (by omega)]
    · exact dryS_lo s set h a (by omega)
theorem dryS_hi (s : nst) (set : Nat) (h : ∀ j, j < 4 → s (7 + j) ≤ 40) : ∀ a, ∀ j, j < 4 → dryS s set a (7 + j) ≤ 40
  | 0 => h
  | a + 1 => by
    intro j hj
    have ih := dryS_hi s set h a
    unfold dryS
    split
    · simp only [va_up]
      split
      · rename_i e
        have hja : j = a := by omega
        subst hja
        have := ih j hj
        omega
      · exact ih j hj
    · exact ih j hj
theorem WF_dry {D K : Nat} {s : nst} (h : WF D K s) (set : Nat) : WF D K (dryS s set 4) := WF_st h (fun i hi => dryS_lo s set hi 4 (by omega)) (dryS_hi s set h.2.2.2.2.2.1 4)
theorem belowN_16 : ∀ c, c < 11 → belowN c 16 = 10000 := by decide +kernel
theorem aboveN_le (s : nst) (c : Nat) : ∀ k, aboveN s c k ≤ belowN c k
  | 0 => Nat.le_refl _
  | k + 1 => by
    have ih := aboveN_le s c k
    unfold aboveN belowN
    split <;> omega
theorem eu {b s k : Nat} (hs : ¬ s = 0) (h : s ≤ b) (hp : b * s < 2 ^ (k + 1)) : b % s ≤ s ∧ s * (b % s) < 2 ^ k := by
  have h1 : b % s < s := Nat.mod_lt _ (by omega)
  have h2 : 2 * (b % s) ≤ b := by
    have h3 := Nat.div_add_mod b s
    have h4 : 1 ≤ b / s := (Nat.one_le_div_iff (by omega)).mpr h
    have h5 : s * 1 ≤ s * (b / s) := Nat.mul_le_mul_left s h4
    omega
  have h6 : s * (2 * (b % s)) ≤ s * b := Nat.mul_le_mul_left s h2
  have h7 : (2 : Nat) ^ (k + 1) = 2 * 2 ^ k := by rw [Nat.pow_succ, Nat.mul_comm]
  rw [Nat.mul_comm b s] at hp
  rw [Nat.mul_left_comm] at h6
  omega
theorem eu_end {b s : Nat} (h : s ≤ b) (hp : b * s < 1) : s = 0 := by
  rcases Nat.eq_zero_or_pos s with e | e
  · exact e
  · have : 0 < b * s := Nat.mul_pos (by omega) e
    omega
theorem ln_lt2 {q : Nat} (h : q ≤ 1000) : ln q < 0 ↔ q = 0 := by
  unfold ln
  split
  · simp_all
  · rename_i hq
    constructor
    · intro c
      exact absurd c (nI_pos (by omega))
    · intro c
      exact absurd c hq
theorem ln_dec (v : Nat) : nI v + Int32.ofInt (-1) = ln v := by
  rcases v with _ | v
  · decide
  · exact nI_dec v
set_option maxRecDepth 100000 in
set_option maxHeartbeats 4000000 in
theorem c_X6_foretell (l : Launch) (G : zG) (x : Nat) (w : Nat) (kw : Nat) (ik : Nat) (tp : Nat) (sx : Nat) (fo : Nat) (gu : Nat) (ch : Nat) (now : Nat) (nh : Nat) (cr : Nat) (past : Nat) (o : Nat) (u : Nat) (s : nst) (ck : Nat) (cl : Nat) (ce : Nat) (sz : Nat) (fk : Nat → Int32) (fl : Nat → Int32) (fe : Nat → Int32) (fh : Nat) (t : nst) (ls : Nat) (N : Nat) (h0 : WF 9999 0 s) (h1 : CR s fk fl fe) (h2 : sz = s 0) (h3 : ls < 64) (h4 : N ≤ 60) : zMv l G yX6_foretell cX6_foretell 4 3 0 0 72 [.ref x, .int (nI ls), .int (nI N)] [ob x 6 [.ref w, .ref kw, .int (nI ik), .ref tp, .ref sx, .ref fo, .ref gu, .ref ch], ob w 5 [.ref now, .ref cr, .ref past, .int (nI o), .int (nI u)], ob now 2 (mf nh s), ia G nh 4 (fN (sh 7 s)), ob cr 1 [.ref ck, .ref cl, .ref ce, .int (nI sz)], ia G ck 6 fk, ia G cl 6 fl, ia G ce 6 fe, ob fo 2 (mf fh t), ia G fh 4 (fN (sh 7 t))] (fun (_u : Unit) => True) (fun (_u : Unit) => [ob x 6 [.ref w, .ref kw, .int (nI ik), .ref tp, .ref sx, .ref fo, .ref gu, .ref ch], ob w 5 [.ref now, .ref cr, .ref past, .int (nI o), .int (nI u)], ob now 2 (mf nh s), ia G nh 4 (fN (sh 7 s)), ob cr 1 [.ref ck, .ref cl, .ref ce, .int (nI sz)], ia G ck 6 fk, ia G cl 6 fl, ia G ce 6 fe, ob fo 2 (mf fh (goN N (va_up s 2 ls))), ia G fh 4 (fN (sh 7 (goN N (va_up s 2 ls))))]) := by
  refine zMv.of (by decide) rfl (fun X A H0 hX hXl hnm hR => ?_)
  show Z (X, G, A, H0, 4) 0 0 [ob x 6 [.ref w, .ref kw, .int (nI ik), .ref tp, .ref sx, .ref fo, .ref gu, .ref ch], ob w 5 [.ref now, .ref cr, .ref past, .int (nI o), .int (nI u)], ob now 2 (mf nh s), ia G nh 4 (fN (sh 7 s)), ob cr 1 [.ref ck, .ref cl, .ref ce, .int (nI sz)], ia G ck 6 fk, ia G cl 6 fl, ia G ce 6 fe, ob fo 2 (mf fh t), ia G fh 4 (fN (sh 7 t))] 0 [(0, .ref x), (1, .int (nI ls)), (2, .int (nI N))] []
  subst hXl
  refine z_aload_n hX 0 dX6_foretell_0 rfl ?_
  refine z_get (v := .ref fo) hX fX6 0 5 rfl rfl (Nat.le_of_ble_eq_true rfl) fl_X6_40 rfl dX6_foretell_1 ?_
  refine z_aload_n hX 0 dX6_foretell_4 rfl ?_
  refine z_get (v := .ref w) hX fX6 0 0 rfl rfl (Nat.le_of_ble_eq_true rfl) fl_X6_10 rfl dX6_foretell_5 ?_
  refine z_get (v := .ref now) hX fX5 1 0 rfl rfl (Nat.le_of_ble_eq_true rfl) fl_X6_88 rfl dX6_foretell_8 ?_
  refine z_callVv (st := []) hX (c_X2_take _ G fo fh t now nh s ) lb_X2_take ml_X6_206 (fun (_u : Unit) => [ob x 6 [.ref w, .ref kw, .int (nI ik), .ref tp, .ref sx, .ref fo, .ref gu, .ref ch], ob w 5 [.ref now, .ref cr, .ref past, .int (nI o), .int (nI u)], ob now 2 (mf nh s), ia G nh 4 (fN (sh 7 s)), ob cr 1 [.ref ck, .ref cl, .ref ce, .int (nI sz)], ia G ck 6 fk, ia G cl 6 fl, ia G ce 6 fe, ob fo 2 (mf fh s), ia G fh 4 (fN (sh 7 s))]) (wr := [ob x 6 [.ref w, .ref kw, .int (nI ik), .ref tp, .ref sx, .ref fo, .ref gu, .ref ch], ob w 5 [.ref now, .ref cr, .ref past, .int (nI o), .int (nI u)], ob cr 1 [.ref ck, .ref cl, .ref ce, .int (nI sz)], ia G ck 6 fk, ia G cl 6 fl, ia G ce 6 fe]) [8, 9, 2, 3] [0, 1, 4, 5, 6, 7] [0, 1, 8, 9, 2, 3, 4, 5, 6, 7] ⟨rfl, rfl, rfl, fun _ => rfl⟩ 0 rfl rfl rfl rfl ⟨Nat.le_refl _, Nat.le_refl _⟩ dX6_foretell_11 rfl (fun  u11 hw11 => ?_)
  refine z_aload_n hX 0 dX6_foretell_14 rfl ?_
  refine z_get (v := .ref fo) hX fX6 0 5 rfl rfl (Nat.le_of_ble_eq_true rfl) fl_X6_40 rfl dX6_foretell_15 ?_
  refine z_iload_n hX 1 dX6_foretell_18 rfl ?_
  refine z_putM (v := ls) (ws' := [ob x 6 [.ref w, .ref kw, .int (nI ik), .ref tp, .ref sx, .ref fo, .ref gu, .ref ch], ob w 5 [.ref now, .ref cr, .ref past, .int (nI o), .int (nI u)], ob now 2 (mf nh s), ia G nh 4 (fN (sh 7 s)), ob cr 1 [.ref ck, .ref cl, .ref ce, .int (nI sz)], ia G ck 6 fk, ia G cl 6 fl, ia G ce 6 fe, ob fo 2 (mf fh (va_up s 2 ls)), ia G fh 4 (fN (sh 7 (va_up s 2 ls)))]) hX 8 9 1 2 rfl rfl rfl rfl rfl fl_X6_111 rfl rfl rfl rfl dX6_foretell_19 ?_
  refine z_iconst (v := nI 0) hX dX6_foretell_22 (by decide) ?_
  refine z_istore_n (L' := [(3, .int (nI 0)), (0, .ref x), (1, .int (nI ls)), (2, .int (nI N))]) hX dX6_foretell_23 (Nat.le_of_ble_eq_true rfl) rfl ?_
  have lp24 : ∀ (n24 : Nat) (k : Nat), (N + 1 ≤ k + n24) → (k ≤ N) → Z (X, G, A, H0, 4) 0 0 [ob x 6 [.ref w, .ref kw, .int (nI ik), .ref tp, .ref sx, .ref fo, .ref gu, .ref ch], ob w 5 [.ref now, .ref cr, .ref past, .int (nI o), .int (nI u)], ob now 2 (mf nh s), ia G nh 4 (fN (sh 7 s)), ob cr 1 [.ref ck, .ref cl, .ref ce, .int (nI sz)], ia G ck 6 fk, ia G cl 6 fl, ia G ce 6 fe, ob fo 2 (mf fh (goN k (va_up s 2 ls))), ia G fh 4 (fN (sh 7 (goN k (va_up s 2 ls))))] 24 [(0, .ref x), (1, .int (nI ls)), (2, .int (nI N)), (3, .int (nI k))] [] := by
    intro n24
    induction n24 with
    | zero =>
      intro k hn hk
      exfalso
      omega
    | succ n24 ih24 =>
      intro k hn hk
      have hz : sz = goN k (va_up s 2 ls) 0 := by rw [goN_keep _ (by omega), up_ne (by omega)]; exact h2
      refine z_iload_n hX 3 dX6_foretell_24 rfl ?_
      refine z_iload_n hX 2 dX6_foretell_25 rfl ?_
      refine zn_icmp_ge (tgt := 50) hX dX6_foretell_26 (by decide) (by omega) (by omega) (fun c26 => ?_) (fun c26 => ?_)
      · skip
        have ek : k = N := by omega
        subst ek
        exact hR () _ _ trivial dX6_foretell_50
      · skip
        refine z_aload_n hX 0 dX6_foretell_29 rfl ?_
        refine z_get (v := .ref fo) hX fX6 0 5 rfl rfl (Nat.le_of_ble_eq_true rfl) fl_X6_40 rfl dX6_foretell_30 ?_
        refine z_aload_n hX 0 dX6_foretell_33 rfl ?_
        refine z_get (v := .ref w) hX fX6 0 0 rfl rfl (Nat.le_of_ble_eq_true rfl) fl_X6_10 rfl dX6_foretell_34 ?_
        refine z_get (v := .ref cr) hX fX5 1 1 rfl rfl (Nat.le_of_ble_eq_true rfl) fl_X6_66 rfl dX6_foretell_37 ?_
        refine z_callVi (st := []) hX (c_X2_pass _ G fo fh (goN k (va_up s 2 ls)) cr ck cl ce fk fl fe sz (9999 + k) (goN_WF (WF_list h0 h3) k) (by omega) (CR_goN (CR_list h1 ls) k) hz) lb_X2_pass ml_X6_194 (fun (_u : Unit) => [ob x 6 [.ref w, .ref kw, .int (nI ik), .ref tp, .ref sx, .ref fo, .ref gu, .ref ch], ob w 5 [.ref now, .ref cr, .ref past, .int (nI o), .int (nI u)], ob now 2 (mf nh s), ia G nh 4 (fN (sh 7 s)), ob cr 1 [.ref ck, .ref cl, .ref ce, .int (nI sz)], ia G ck 6 fk, ia G cl 6 fl, ia G ce 6 fe, ob fo 2 (mf fh (goBy (goN k (va_up s 2 ls)))), ia G fh 4 (fN (sh 7 (goBy (goN k (va_up s 2 ls)))))]) (wr := [ob x 6 [.ref w, .ref kw, .int (nI ik), .ref tp, .ref sx, .ref fo, .ref gu, .ref ch], ob w 5 [.ref now, .ref cr, .ref past, .int (nI o), .int (nI u)], ob now 2 (mf nh s), ia G nh 4 (fN (sh 7 s))]) [8, 9, 4, 5, 6, 7] [0, 1, 2, 3] [0, 1, 2, 3, 6, 7, 8, 9, 4, 5] ⟨rfl, rfl, rfl, fun _ => rfl⟩ 0 rfl rfl rfl rfl ⟨Nat.le_refl _, Nat.le_refl _⟩ dX6_foretell_40 rfl (fun r40 u40 hw40 => ?_)
        subst hw40
        refine z_pop hX dX6_foretell_43 rfl ?_
        refine z_iinc (v := (nI (k + 1))) (L' := [(3, .int (nI (k + 1))), (0, .ref x), (1, .int (nI ls)), (2, .int (nI N))]) hX 3 dX6_foretell_44 rfl (nI_inc _) (Nat.le_of_ble_eq_true rfl) rfl ?_
        refine z_goto (tgt := 24) hX dX6_foretell_47 (by decide) ?_
        refine z_lsub [1, 2, 3, 0] rfl ?_
        exact ih24 (k + 1) (by omega) (by omega)
  refine z_lsub [1, 2, 3, 0] rfl ?_
  exact lp24 (N + 1) 0 (by omega) (by omega)
set_option maxRecDepth 100000 in
set_option maxHeartbeats 4000000 in
theorem c_X6_ahead (l : Launch) (G : zG) (x : Nat) (w : Nat) (kw : Nat) (ik : Nat) (tp : Nat) (sx : Nat) (fo : Nat) (gu : Nat) (ch : Nat) (now : Nat) (nh : Nat) (cr : Nat) (past : Nat) (o : Nat) (u : Nat) (s : nst) (ck : Nat) (cl : Nat) (ce : Nat) (sz : Nat) (fk : Nat → Int32) (fl : Nat → Int32) (fe : Nat → Int32) (fh : Nat) (t : nst) (ar : Int32) (nn : Int32) (h0 : WF 9999 0 s) (h1 : CR s fk fl fe) (h2 : sz = s 0) : zMi l G yX6_ahead cX6_ahead 3 .int 4 0 0 95 [.ref x, .int ar, .int nn] [ob x 6 [.ref w, .ref kw, .int (nI ik), .ref tp, .ref sx, .ref fo, .ref gu, .ref ch], ob w 5 [.ref now, .ref cr, .ref past, .int (nI o), .int (nI u)], ob now 2 (mf nh s), ia G nh 4 (fN (sh 7 s)), ob cr 1 [.ref ck, .ref cl, .ref ce, .int (nI sz)], ia G ck 6 fk, ia G cl 6 fl, ia G ce 6 fe, ob fo 2 (mf fh t), ia G fh 4 (fN (sh 7 t))] (fun (r : Int32) (_u : nst) => r = spAhead s ar nn) (fun (_u : nst) => [ob x 6 [.ref w, .ref kw, .int (nI ik), .ref tp, .ref sx, .ref fo, .ref gu, .ref ch], ob w 5 [.ref now, .ref cr, .ref past, .int (nI o), .int (nI u)], ob now 2 (mf nh s), ia G nh 4 (fN (sh 7 s)), ob cr 1 [.ref ck, .ref cl, .ref ce, .int (nI sz)], ia G ck 6 fk, ia G cl 6 fl, ia G ce 6 fe, ob fo 2 (mf fh _u), ia G fh 4 (fN (sh 7 _u))]) := by
  refine zMi.of (by decide) rfl (fun X A H0 hX hXl hR => ?_)
  show Z (X, G, A, H0, 3) 0 0 [ob x 6 [.ref w, .ref kw, .int (nI ik), .ref tp, .ref sx, .ref fo, .ref gu, .ref ch], ob w 5 [.ref now, .ref cr, .ref past, .int (nI o), .int (nI u)], ob now 2 (mf nh s), ia G nh 4 (fN (sh 7 s)), ob cr 1 [.ref ck, .ref cl, .ref ce, .int (nI sz)], ia G ck 6 fk, ia G cl 6 fl, ia G ce 6 fe, ob fo 2 (mf fh t), ia G fh 4 (fN (sh 7 t))] 0 [(0, .ref x), (1, .int ar), (2, .int nn)] []
  subst hXl
  have z0 := h0.1
  have z1 := h0.2.1
  have z2 := h0.2.2.1
  refine z_iload_n hX 1 dX6_ahead_0 rfl ?_
  refine z_iconst (v := nI 4) hX dX6_ahead_1 (by decide) ?_
  refine z_callSi (st := []) hX (c_X6_isBelowX _ G ar 4 (by omega)) lb_X6_isBelow ml_X6_58 (fun (_u : Unit) => [ob x 6 [.ref w, .ref kw, .int (nI ik), .ref tp, .ref sx, .ref fo, .ref gu, .ref ch], ob w 5 [.ref now, .ref cr, .ref past, .int (nI o), .int (nI u)], ob now 2 (mf nh s), ia G nh 4 (fN (sh 7 s)), ob cr 1 [.ref ck, .ref cl, .ref ce, .int (nI sz)], ia G ck 6 fk, ia G cl 6 fl, ia G ce 6 fe, ob fo 2 (mf fh t), ia G fh 4 (fN (sh 7 t))]) (wr := [ob x 6 [.ref w, .ref kw, .int (nI ik), .ref tp, .ref sx, .ref fo, .ref gu, .ref ch], ob w 5 [.ref now, .ref cr, .ref past, .int (nI o), .int (nI u)], ob now 2 (mf nh s), ia G nh 4 (fN (sh 7 s)), ob cr 1 [.ref ck, .ref cl, .ref ce, .int (nI sz)], ia G ck 6 fk, ia G cl 6 fl, ia G ce 6 fe, ob fo 2 (mf fh t), ia G fh 4 (fN (sh 7 t))]) [] [0, 1, 2, 3, 4, 5, 6, 7, 8, 9] [0, 1, 2, 3, 4, 5, 6, 7, 8, 9] ⟨rfl, rfl, rfl, fun _ => rfl⟩ rfl rfl ⟨Nat.le_refl _, Nat.le_refl _⟩ dX6_ahead_2 rfl (fun r2 u2 hw2 => ?_)
  try dsimp only at hw2
  rcases hw2 with ⟨arj, harh, rfl, rfl⟩ | ⟨hw2, rfl⟩
  · skip
    refine zn_if_eq (tgt := 18) hX dX6_ahead_5 (by decide) (by omega) (fun c5 => absurd c5 (by omega)) (fun _ => ?_)
    refine z_iload_n hX 2 dX6_ahead_8 rfl ?_
    refine z_iconst (v := nI 0) hX dX6_ahead_9 (by decide) ?_
    refine z_bipush (v := nI 60) hX dX6_ahead_10 (by decide) ?_
    refine z_callSi (st := []) hX (c_X6_isWithinX _ G nn 0 60 (by omega) (by omega)) lb_X6_isWithin ml_X6_62 (fun (_u : Unit) => [ob x 6 [.ref w, .ref kw, .int (nI ik), .ref tp, .ref sx, .ref fo, .ref gu, .ref ch], ob w 5 [.ref now, .ref cr, .ref past, .int (nI o), .int (nI u)], ob now 2 (mf nh s), ia G nh 4 (fN (sh 7 s)), ob cr 1 [.ref ck, .ref cl, .ref ce, .int (nI sz)], ia G ck 6 fk, ia G cl 6 fl, ia G ce 6 fe, ob fo 2 (mf fh t), ia G fh 4 (fN (sh 7 t))]) (wr := [ob x 6 [.ref w, .ref kw, .int (nI ik), .ref tp, .ref sx, .ref fo, .ref gu, .ref ch], ob w 5 [.ref now, .ref cr, .ref past, .int (nI o), .int (nI u)], ob now 2 (mf nh s), ia G nh 4 (fN (sh 7 s)), ob cr 1 [.ref ck, .ref cl, .ref ce, .int (nI sz)], ia G ck 6 fk, ia G cl 6 fl, ia G ce 6 fe, ob fo 2 (mf fh t), ia G fh 4 (fN (sh 7 t))]) [] [0, 1, 2, 3, 4, 5, 6, 7, 8, 9] [0, 1, 2, 3, 4, 5, 6, 7, 8, 9] ⟨rfl, rfl, rfl, fun _ => rfl⟩ rfl rfl ⟨Nat.le_refl _, Nat.le_refl _⟩ dX6_ahead_12 rfl (fun r12 u12 hw12 => ?_)
    try dsimp only at hw12
    rcases hw12 with ⟨nnj, hnnl, hnnh, rfl, rfl⟩ | ⟨hw12, rfl⟩
    · skip
      refine zn_if_ne (tgt := 20) hX dX6_ahead_15 (by decide) (by omega) (fun _ => ?_) (fun c15 => absurd c15 (by omega))
      refine z_aload_n hX 0 dX6_ahead_20 rfl ?_
      refine z_aload_n hX 0 dX6_ahead_21 rfl ?_
      refine z_get (v := .ref w) hX fX6 0 0 rfl rfl (Nat.le_of_ble_eq_true rfl) fl_X6_10 rfl dX6_ahead_22 ?_
      refine z_get (v := .ref now) hX fX5 1 0 rfl rfl (Nat.le_of_ble_eq_true rfl) fl_X6_88 rfl dX6_ahead_25 ?_
      refine z_get (v := .int (nI (s 2))) hX fX2 2 1 rfl rfl (Nat.le_of_ble_eq_true rfl) fl_X6_111 rfl dX6_ahead_28 ?_
      refine z_iload_n hX 2 dX6_ahead_31 rfl ?_
      refine z_callVv (st := []) hX (c_X6_foretell _ G x w kw ik tp sx fo gu ch now nh cr past o u s ck cl ce sz fk fl fe fh t (s 2) nnj h0 h1 h2 (by omega) (by omega)) lb_X6_foretell ml_X6_198 (fun (_u : Unit) => [ob x 6 [.ref w, .ref kw, .int (nI ik), .ref tp, .ref sx, .ref fo, .ref gu, .ref ch], ob w 5 [.ref now, .ref cr, .ref past, .int (nI o), .int (nI u)], ob now 2 (mf nh s), ia G nh 4 (fN (sh 7 s)), ob cr 1 [.ref ck, .ref cl, .ref ce, .int (nI sz)], ia G ck 6 fk, ia G cl 6 fl, ia G ce 6 fe, ob fo 2 (mf fh (goN nnj (va_up s 2 (s 2)))), ia G fh 4 (fN (sh 7 (goN nnj (va_up s 2 (s 2)))))]) (wr := []) [0, 1, 2, 3, 4, 5, 6, 7, 8, 9] [] [0, 1, 2, 3, 4, 5, 6, 7, 8, 9] ⟨rfl, rfl, rfl, fun _ => rfl⟩ 0 rfl rfl rfl rfl ⟨Nat.le_refl _, Nat.le_refl _⟩ dX6_ahead_32 rfl (fun  u32 hw32 => ?_)
      rw [up_self]
      refine z_aload_n hX 0 dX6_ahead_35 rfl ?_
      refine z_get (v := .ref fo) hX fX6 0 5 rfl rfl (Nat.le_of_ble_eq_true rfl) fl_X6_40 rfl dX6_ahead_36 ?_
      refine z_get (v := .ref fh) hX fX2 8 0 rfl rfl (Nat.le_of_ble_eq_true rfl) fl_X6_125 rfl dX6_ahead_39 ?_
      refine z_iload_n hX 1 dX6_ahead_42 rfl ?_
      refine z_iald (v := (nI ((goN nnj s) (7 + arj)))) hX 9 (j := arj) rfl (by omega) (by decide) rfl dX6_ahead_43 ?_
      exact hR _ (goN nnj s) _ _ (by unfold spAhead; rw [if_pos (⟨inb_t (by omega) (by omega) (by omega), inb_t (by omega) (by omega) (by omega)⟩), gN_nI (by omega), gN_nI (by omega)]) dX6_ahead_44 rfl
    · have hb_nn : inb nn 0 60 = false := hw12
      refine zn_if_ne (tgt := 20) hX dX6_ahead_15 (by decide) (by omega) (fun c15 => absurd c15 (by omega)) (fun _ => ?_)
      refine z_iconst (v := (-1)) hX dX6_ahead_18 (by decide) ?_
      exact hR _ t _ _ (by unfold spAhead; rw [if_neg (by simp [hb_nn])]) dX6_ahead_19 rfl
  · have hb_ar : inb ar 0 3 = false := hw2
    refine zn_if_eq (tgt := 18) hX dX6_ahead_5 (by decide) (by omega) (fun _ => ?_) (fun c5 => absurd c5 (by omega))
    refine z_iconst (v := (-1)) hX dX6_ahead_18 (by decide) ?_
    exact hR _ t _ _ (by unfold spAhead; rw [if_neg (by simp [hb_ar])]) dX6_ahead_19 rfl
set_option maxRecDepth 100000 in
set_option maxHeartbeats 4000000 in
theorem c_X6_then (l : Launch) (G : zG) (x : Nat) (w : Nat) (kw : Nat) (ik : Nat) (tp : Nat) (sx : Nat) (fo : Nat) (gu : Nat) (ch : Nat) (now : Nat) (nh : Nat) (cr : Nat) (past : Nat) (o : Nat) (u : Nat) (s : nst) (ck : Nat) (cl : Nat) (ce : Nat) (sz : Nat) (fk : Nat → Int32) (fl : Nat → Int32) (fe : Nat → Int32) (fh : Nat) (t : nst) (nn : Int32) (wh : Int32) (h0 : WF 9999 0 s) (h1 : CR s fk fl fe) (h2 : sz = s 0) : zMi l G yX6_then cX6_then 3 .int 4 0 0 95 [.ref x, .int nn, .int wh] [ob x 6 [.ref w, .ref kw, .int (nI ik), .ref tp, .ref sx, .ref fo, .ref gu, .ref ch], ob w 5 [.ref now, .ref cr, .ref past, .int (nI o), .int (nI u)], ob now 2 (mf nh s), ia G nh 4 (fN (sh 7 s)), ob cr 1 [.ref ck, .ref cl, .ref ce, .int (nI sz)], ia G ck 6 fk, ia G cl 6 fl, ia G ce 6 fe, ob fo 2 (mf fh t), ia G fh 4 (fN (sh 7 t))] (fun (r : Int32) (_u : nst) => r = spThen s nn wh) (fun (_u : nst) => [ob x 6 [.ref w, .ref kw, .int (nI ik), .ref tp, .ref sx, .ref fo, .ref gu, .ref ch], ob w 5 [.ref now, .ref cr, .ref past, .int (nI o), .int (nI u)], ob now 2 (mf nh s), ia G nh 4 (fN (sh 7 s)), ob cr 1 [.ref ck, .ref cl, .ref ce, .int (nI sz)], ia G ck 6 fk, ia G cl 6 fl, ia G ce 6 fe, ob fo 2 (mf fh _u), ia G fh 4 (fN (sh 7 _u))]) := by
  refine zMi.of (by decide) rfl (fun X A H0 hX hXl hR => ?_)
  show Z (X, G, A, H0, 3) 0 0 [ob x 6 [.ref w, .ref kw, .int (nI ik), .ref tp, .ref sx, .ref fo, .ref gu, .ref ch], ob w 5 [.ref now, .ref cr, .ref past, .int (nI o), .int (nI u)], ob now 2 (mf nh s), ia G nh 4 (fN (sh 7 s)), ob cr 1 [.ref ck, .ref cl, .ref ce, .int (nI sz)], ia G ck 6 fk, ia G cl 6 fl, ia G ce 6 fe, ob fo 2 (mf fh t), ia G fh 4 (fN (sh 7 t))] 0 [(0, .ref x), (1, .int nn), (2, .int wh)] []
  subst hXl
  have z0 := h0.1
  have z1 := h0.2.1
  have z2 := h0.2.2.1
  refine z_iload_n hX 1 dX6_then_0 rfl ?_
  refine z_iconst (v := nI 0) hX dX6_then_1 (by decide) ?_
  refine z_bipush (v := nI 60) hX dX6_then_2 (by decide) ?_
  refine z_callSi (st := []) hX (c_X6_isWithinX _ G nn 0 60 (by omega) (by omega)) lb_X6_isWithin ml_X6_62 (fun (_u : Unit) => [ob x 6 [.ref w, .ref kw, .int (nI ik), .ref tp, .ref sx, .ref fo, .ref gu, .ref ch], ob w 5 [.ref now, .ref cr, .ref past, .int (nI o), .int (nI u)], ob now 2 (mf nh s), ia G nh 4 (fN (sh 7 s)), ob cr 1 [.ref ck, .ref cl, .ref ce, .int (nI sz)], ia G ck 6 fk, ia G cl 6 fl, ia G ce 6 fe, ob fo 2 (mf fh t), ia G fh 4 (fN (sh 7 t))]) (wr := [ob x 6 [.ref w, .ref kw, .int (nI ik), .ref tp, .ref sx, .ref fo, .ref gu, .ref ch], ob w 5 [.ref now, .ref cr, .ref past, .int (nI o), .int (nI u)], ob now 2 (mf nh s), ia G nh 4 (fN (sh 7 s)), ob cr 1 [.ref ck, .ref cl, .ref ce, .int (nI sz)], ia G ck 6 fk, ia G cl 6 fl, ia G ce 6 fe, ob fo 2 (mf fh t), ia G fh 4 (fN (sh 7 t))]) [] [0, 1, 2, 3, 4, 5, 6, 7, 8, 9] [0, 1, 2, 3, 4, 5, 6, 7, 8, 9] ⟨rfl, rfl, rfl, fun _ => rfl⟩ rfl rfl ⟨Nat.le_refl _, Nat.le_refl _⟩ dX6_then_4 rfl (fun r4 u4 hw4 => ?_)
  try dsimp only at hw4
  rcases hw4 with ⟨nnj, hnnl, hnnh, rfl, rfl⟩ | ⟨hw4, rfl⟩
  · skip
    refine zn_if_eq (tgt := 18) hX dX6_then_7 (by decide) (by omega) (fun c7 => absurd c7 (by omega)) (fun _ => ?_)
    refine z_iload_n hX 2 dX6_then_10 rfl ?_
    refine z_iconst (v := nI 3) hX dX6_then_11 (by decide) ?_
    refine z_callSi (st := []) hX (c_X6_isBelowX _ G wh 3 (by omega)) lb_X6_isBelow ml_X6_58 (fun (_u : Unit) => [ob x 6 [.ref w, .ref kw, .int (nI ik), .ref tp, .ref sx, .ref fo, .ref gu, .ref ch], ob w 5 [.ref now, .ref cr, .ref past, .int (nI o), .int (nI u)], ob now 2 (mf nh s), ia G nh 4 (fN (sh 7 s)), ob cr 1 [.ref ck, .ref cl, .ref ce, .int (nI sz)], ia G ck 6 fk, ia G cl 6 fl, ia G ce 6 fe, ob fo 2 (mf fh t), ia G fh 4 (fN (sh 7 t))]) (wr := [ob x 6 [.ref w, .ref kw, .int (nI ik), .ref tp, .ref sx, .ref fo, .ref gu, .ref ch], ob w 5 [.ref now, .ref cr, .ref past, .int (nI o), .int (nI u)], ob now 2 (mf nh s), ia G nh 4 (fN (sh 7 s)), ob cr 1 [.ref ck, .ref cl, .ref ce, .int (nI sz)], ia G ck 6 fk, ia G cl 6 fl, ia G ce 6 fe, ob fo 2 (mf fh t), ia G fh 4 (fN (sh 7 t))]) [] [0, 1, 2, 3, 4, 5, 6, 7, 8, 9] [0, 1, 2, 3, 4, 5, 6, 7, 8, 9] ⟨rfl, rfl, rfl, fun _ => rfl⟩ rfl rfl ⟨Nat.le_refl _, Nat.le_refl _⟩ dX6_then_12 rfl (fun r12 u12 hw12 => ?_)
    try dsimp only at hw12
    rcases hw12 with ⟨whj, hwhh, rfl, rfl⟩ | ⟨hw12, rfl⟩
    · skip
      refine zn_if_ne (tgt := 20) hX dX6_then_15 (by decide) (by omega) (fun _ => ?_) (fun c15 => absurd c15 (by omega))
      refine z_aload_n hX 0 dX6_then_20 rfl ?_
      refine z_aload_n hX 0 dX6_then_21 rfl ?_
      refine z_get (v := .ref w) hX fX6 0 0 rfl rfl (Nat.le_of_ble_eq_true rfl) fl_X6_10 rfl dX6_then_22 ?_
      refine z_get (v := .ref now) hX fX5 1 0 rfl rfl (Nat.le_of_ble_eq_true rfl) fl_X6_88 rfl dX6_then_25 ?_
      refine z_get (v := .int (nI (s 2))) hX fX2 2 1 rfl rfl (Nat.le_of_ble_eq_true rfl) fl_X6_111 rfl dX6_then_28 ?_
      refine z_iload_n hX 1 dX6_then_31 rfl ?_
      refine z_callVv (st := []) hX (c_X6_foretell _ G x w kw ik tp sx fo gu ch now nh cr past o u s ck cl ce sz fk fl fe fh t (s 2) nnj h0 h1 h2 (by omega) (by omega)) lb_X6_foretell ml_X6_198 (fun (_u : Unit) => [ob x 6 [.ref w, .ref kw, .int (nI ik), .ref tp, .ref sx, .ref fo, .ref gu, .ref ch], ob w 5 [.ref now, .ref cr, .ref past, .int (nI o), .int (nI u)], ob now 2 (mf nh s), ia G nh 4 (fN (sh 7 s)), ob cr 1 [.ref ck, .ref cl, .ref ce, .int (nI sz)], ia G ck 6 fk, ia G cl 6 fl, ia G ce 6 fe, ob fo 2 (mf fh (goN nnj (va_up s 2 (s 2)))), ia G fh 4 (fN (sh 7 (goN nnj (va_up s 2 (s 2)))))]) (wr := []) [0, 1, 2, 3, 4, 5, 6, 7, 8, 9] [] [0, 1, 2, 3, 4, 5, 6, 7, 8, 9] ⟨rfl, rfl, rfl, fun _ => rfl⟩ 0 rfl rfl rfl rfl ⟨Nat.le_refl _, Nat.le_refl _⟩ dX6_then_32 rfl (fun  u32 hw32 => ?_)
      rw [up_self]
      refine z_iload_n hX 2 dX6_then_35 rfl ?_
      rcases (show whj = 0 ∨ whj = 1 ∨ whj = 2 by omega) with rfl | rfl | rfl
      · skip
        refine z_look (tgt := 64) (off := 28) hX dX6_then_36 (by decide) (by decide) (by decide) ?_
        refine z_aload_n hX 0 dX6_then_64 rfl ?_
        refine z_get (v := .ref fo) hX fX6 0 5 rfl rfl (Nat.le_of_ble_eq_true rfl) fl_X6_40 rfl dX6_then_65 ?_
        refine z_get (v := .int (nI ((goN nnj s) 3))) hX fX2 8 3 rfl rfl (Nat.le_of_ble_eq_true rfl) fl_X6_150 rfl dX6_then_68 ?_
        exact hR _ (goN nnj s) _ _ (by unfold spThen; rw [if_pos (⟨inb_t (by omega) (by omega) (by omega), inb_t (by omega) (by omega) (by omega)⟩), gN_nI (by omega), gN_nI (by omega)]) dX6_then_71 rfl
      · skip
        refine z_look (tgt := 72) (off := 36) hX dX6_then_36 (by decide) (by decide) (by decide) ?_
        refine z_aload_n hX 0 dX6_then_72 rfl ?_
        refine z_get (v := .ref fo) hX fX6 0 5 rfl rfl (Nat.le_of_ble_eq_true rfl) fl_X6_40 rfl dX6_then_73 ?_
        refine z_get (v := .int (nI ((goN nnj s) 4))) hX fX2 8 4 rfl rfl (Nat.le_of_ble_eq_true rfl) fl_X6_153 rfl dX6_then_76 ?_
        exact hR _ (goN nnj s) _ _ (by unfold spThen; rw [if_pos (⟨inb_t (by omega) (by omega) (by omega), inb_t (by omega) (by omega) (by omega)⟩), gN_nI (by omega), gN_nI (by omega)]) dX6_then_79 rfl
      · skip
        refine z_look (tgt := 80) (off := 44) hX dX6_then_36 (by decide) (by decide) (by decide) ?_
        refine z_aload_n hX 0 dX6_then_80 rfl ?_
        refine z_get (v := .ref fo) hX fX6 0 5 rfl rfl (Nat.le_of_ble_eq_true rfl) fl_X6_40 rfl dX6_then_81 ?_
        refine z_get (v := .int (nI ((goN nnj s) 5))) hX fX2 8 5 rfl rfl (Nat.le_of_ble_eq_true rfl) fl_X6_156 rfl dX6_then_84 ?_
        exact hR _ (goN nnj s) _ _ (by unfold spThen; rw [if_pos (⟨inb_t (by omega) (by omega) (by omega), inb_t (by omega) (by omega) (by omega)⟩), gN_nI (by omega), gN_nI (by omega)]) dX6_then_87 rfl
    · have hb_wh : inb wh 0 2 = false := hw12
      refine zn_if_ne (tgt := 20) hX dX6_then_15 (by decide) (by omega) (fun c15 => absurd c15 (by omega)) (fun _ => ?_)
      refine z_iconst (v := (-1)) hX dX6_then_18 (by decide) ?_
      exact hR _ t _ _ (by unfold spThen; rw [if_neg (by simp [hb_wh])]) dX6_then_19 rfl
  · have hb_nn : inb nn 0 60 = false := hw4
    refine zn_if_eq (tgt := 18) hX dX6_then_7 (by decide) (by omega) (fun _ => ?_) (fun c7 => absurd c7 (by omega))
    refine z_iconst (v := (-1)) hX dX6_then_18 (by decide) ?_
    exact hR _ t _ _ (by unfold spThen; rw [if_neg (by simp [hb_nn])]) dX6_then_19 rfl
theorem holesTo_lt (s : nst) : ∀ a, holesTo s a < 2 ^ a
  | 0 => by show 0 < 1; decide
  | a + 1 => by
    have ih := holesTo_lt s a
    have e : (2 : Nat) ^ (a + 1) = 2 * 2 ^ a := by rw [Nat.pow_succ, Nat.mul_comm]
    unfold holesTo
    split
    · exact Nat.or_lt_two_pow (by omega) (by omega)
    · omega
theorem holes4_lt (s : nst) : holesTo s 4 < 16 := holesTo_lt s 4
set_option maxRecDepth 100000 in
set_option maxHeartbeats 4000000 in
theorem c_X6_firstHole (l : Launch) (G : zG) (x : Nat) (w : Nat) (kw : Nat) (ik : Nat) (tp : Nat) (sx : Nat) (fo : Nat) (gu : Nat) (ch : Nat) (now : Nat) (nh : Nat) (cr : Nat) (past : Nat) (o : Nat) (u : Nat) (s : nst) (ck : Nat) (cl : Nat) (ce : Nat) (sz : Nat) (fk : Nat → Int32) (fl : Nat → Int32) (fe : Nat → Int32) (fh : Nat) (t : nst) (ls : Nat) (h0 : WF 9999 0 s) (h1 : CR s fk fl fe) (h2 : sz = s 0) (h3 : ls < 64) : zMi l G yX6_firstHole cX6_firstHole 3 .int 3 0 0 72 [.ref x, .int (nI ls)] [ob x 6 [.ref w, .ref kw, .int (nI ik), .ref tp, .ref sx, .ref fo, .ref gu, .ref ch], ob w 5 [.ref now, .ref cr, .ref past, .int (nI o), .int (nI u)], ob now 2 (mf nh s), ia G nh 4 (fN (sh 7 s)), ob cr 1 [.ref ck, .ref cl, .ref ce, .int (nI sz)], ia G ck 6 fk, ia G cl 6 fl, ia G ce 6 fe, ob fo 2 (mf fh t), ia G fh 4 (fN (sh 7 t))] (fun (r : Int32) (_u : nst) => r = hole1 (va_up s 2 ls) 61 0) (fun (_u : nst) => [ob x 6 [.ref w, .ref kw, .int (nI ik), .ref tp, .ref sx, .ref fo, .ref gu, .ref ch], ob w 5 [.ref now, .ref cr, .ref past, .int (nI o), .int (nI u)], ob now 2 (mf nh s), ia G nh 4 (fN (sh 7 s)), ob cr 1 [.ref ck, .ref cl, .ref ce, .int (nI sz)], ia G ck 6 fk, ia G cl 6 fl, ia G ce 6 fe, ob fo 2 (mf fh _u), ia G fh 4 (fN (sh 7 _u))]) := by
  refine zMi.of (by decide) rfl (fun X A H0 hX hXl hR => ?_)
  show Z (X, G, A, H0, 3) 0 0 [ob x 6 [.ref w, .ref kw, .int (nI ik), .ref tp, .ref sx, .ref fo, .ref gu, .ref ch], ob w 5 [.ref now, .ref cr, .ref past, .int (nI o), .int (nI u)], ob now 2 (mf nh s), ia G nh 4 (fN (sh 7 s)), ob cr 1 [.ref ck, .ref cl, .ref ce, .int (nI sz)], ia G ck 6 fk, ia G cl 6 fl, ia G ce 6 fe, ob fo 2 (mf fh t), ia G fh 4 (fN (sh 7 t))] 0 [(0, .ref x), (1, .int (nI ls))] []
  subst hXl
  refine z_aload_n hX 0 dX6_firstHole_0 rfl ?_
  refine z_get (v := .ref fo) hX fX6 0 5 rfl rfl (Nat.le_of_ble_eq_true rfl) fl_X6_40 rfl dX6_firstHole_1 ?_
  refine z_aload_n hX 0 dX6_firstHole_4 rfl ?_
  refine z_get (v := .ref w) hX fX6 0 0 rfl rfl (Nat.le_of_ble_eq_true rfl) fl_X6_10 rfl dX6_firstHole_5 ?_
  refine z_get (v := .ref now) hX fX5 1 0 rfl rfl (Nat.le_of_ble_eq_true rfl) fl_X6_88 rfl dX6_firstHole_8 ?_
  refine z_callVv (st := []) hX (c_X2_take _ G fo fh t now nh s ) lb_X2_take ml_X6_206 (fun (_u : Unit) => [ob x 6 [.ref w, .ref kw, .int (nI ik), .ref tp, .ref sx, .ref fo, .ref gu, .ref ch], ob w 5 [.ref now, .ref cr, .ref past, .int (nI o), .int (nI u)], ob now 2 (mf nh s), ia G nh 4 (fN (sh 7 s)), ob cr 1 [.ref ck, .ref cl, .ref ce, .int (nI sz)], ia G ck 6 fk, ia G cl 6 fl, ia G ce 6 fe, ob fo 2 (mf fh s), ia G fh 4 (fN (sh 7 s))]) (wr := [ob x 6 [.ref w, .ref kw, .int (nI ik), .ref tp, .ref sx, .ref fo, .ref gu, .ref ch], ob w 5 [.ref now, .ref cr, .ref past, .int (nI o), .int (nI u)], ob cr 1 [.ref ck, .ref cl, .ref ce, .int (nI sz)], ia G ck 6 fk, ia G cl 6 fl, ia G ce 6 fe]) [8, 9, 2, 3] [0, 1, 4, 5, 6, 7] [0, 1, 8, 9, 2, 3, 4, 5, 6, 7] ⟨rfl, rfl, rfl, fun _ => rfl⟩ 0 rfl rfl rfl rfl ⟨Nat.le_refl _, Nat.le_refl _⟩ dX6_firstHole_11 rfl (fun  u11 hw11 => ?_)
  refine z_aload_n hX 0 dX6_firstHole_14 rfl ?_
  refine z_get (v := .ref fo) hX fX6 0 5 rfl rfl (Nat.le_of_ble_eq_true rfl) fl_X6_40 rfl dX6_firstHole_15 ?_
  refine z_iload_n hX 1 dX6_firstHole_18 rfl ?_
  refine z_putM (v := ls) (ws' := [ob x 6 [.ref w, .ref kw, .int (nI ik), .ref tp, .ref sx, .ref fo, .ref gu, .ref ch], ob w 5 [.ref now, .ref cr, .ref past, .int (nI o), .int (nI u)], ob now 2 (mf nh s), ia G nh 4 (fN (sh 7 s)), ob cr 1 [.ref ck, .ref cl, .ref ce, .int (nI sz)], ia G ck 6 fk, ia G cl 6 fl, ia G ce 6 fe, ob fo 2 (mf fh (va_up s 2 ls)), ia G fh 4 (fN (sh 7 (va_up s 2 ls)))]) hX 8 9 1 2 rfl rfl rfl rfl rfl fl_X6_111 rfl rfl rfl rfl dX6_firstHole_19 ?_
  refine z_iconst (v := nI 0) hX dX6_firstHole_22 (by decide) ?_
  refine z_istore_n (L' := [(2, .int (nI 0)), (0, .ref x), (1, .int (nI ls))]) hX dX6_firstHole_23 (Nat.le_of_ble_eq_true rfl) rfl ?_
  have lp24 : ∀ (n24 : Nat) (d : Nat), (61 + 1 ≤ d + n24) → (d ≤ 61) → (hole1 (va_up s 2 ls) (61 - d) d = hole1 (va_up s 2 ls) 61 0) → Z (X, G, A, H0, 3) 0 0 [ob x 6 [.ref w, .ref kw, .int (nI ik), .ref tp, .ref sx, .ref fo, .ref gu, .ref ch], ob w 5 [.ref now, .ref cr, .ref past, .int (nI o), .int (nI u)], ob now 2 (mf nh s), ia G nh 4 (fN (sh 7 s)), ob cr 1 [.ref ck, .ref cl, .ref ce, .int (nI sz)], ia G ck 6 fk, ia G cl 6 fl, ia G ce 6 fe, ob fo 2 (mf fh (goN d (va_up s 2 ls))), ia G fh 4 (fN (sh 7 (goN d (va_up s 2 ls))))] 24 [(0, .ref x), (1, .int (nI ls)), (2, .int (nI d))] [] := by
    intro n24
    induction n24 with
    | zero =>
      intro d hn hd hf
      exfalso
      omega
    | succ n24 ih24 =>
      intro d hn hd hf
      have hz : sz = goN d (va_up s 2 ls) 0 := by rw [goN_keep _ (by omega), up_ne (by omega)]; exact h2
      refine z_iload_n hX 2 dX6_firstHole_24 rfl ?_
      refine z_bipush (v := nI 60) hX dX6_firstHole_25 (by decide) ?_
      refine zn_icmp_gt (tgt := 63) hX dX6_firstHole_27 (by decide) (by omega) (by omega) (fun c27 => ?_) (fun c27 => ?_)
      · skip
        refine z_bipush (v := (-4)) hX dX6_firstHole_63 (by decide) ?_
        exact hR _ (goN d (va_up s 2 ls)) _ _ (by rw [← hf, show 61 - d = 0 by omega]; rfl) dX6_firstHole_65 rfl
      · skip
        refine z_aload_n hX 0 dX6_firstHole_30 rfl ?_
        refine z_get (v := .ref fo) hX fX6 0 5 rfl rfl (Nat.le_of_ble_eq_true rfl) fl_X6_40 rfl dX6_firstHole_31 ?_
        refine z_callVi (st := []) hX (c_X2_holes _ G fo fh (goN d (va_up s 2 ls)) (goN_WF (WF_list h0 h3) d).2.2.2.2.2.1) lb_X2_holes ml_X6_163 (fun (_u : Unit) => [ob x 6 [.ref w, .ref kw, .int (nI ik), .ref tp, .ref sx, .ref fo, .ref gu, .ref ch], ob w 5 [.ref now, .ref cr, .ref past, .int (nI o), .int (nI u)], ob now 2 (mf nh s), ia G nh 4 (fN (sh 7 s)), ob cr 1 [.ref ck, .ref cl, .ref ce, .int (nI sz)], ia G ck 6 fk, ia G cl 6 fl, ia G ce 6 fe, ob fo 2 (mf fh (goN d (va_up s 2 ls))), ia G fh 4 (fN (sh 7 (goN d (va_up s 2 ls))))]) (wr := [ob x 6 [.ref w, .ref kw, .int (nI ik), .ref tp, .ref sx, .ref fo, .ref gu, .ref ch], ob w 5 [.ref now, .ref cr, .ref past, .int (nI o), .int (nI u)], ob now 2 (mf nh s), ia G nh 4 (fN (sh 7 s)), ob cr 1 [.ref ck, .ref cl, .ref ce, .int (nI sz)], ia G ck 6 fk, ia G cl 6 fl, ia G ce 6 fe]) [8, 9] [0, 1, 2, 3, 4, 5, 6, 7] [0, 1, 2, 3, 4, 5, 6, 7, 8, 9] ⟨rfl, rfl, rfl, fun _ => rfl⟩ 0 rfl rfl rfl rfl ⟨Nat.le_refl _, Nat.le_refl _⟩ dX6_firstHole_34 rfl (fun r34 u34 hw34 => ?_)
        subst hw34
        have q4 := holes4_lt (goN d (va_up s 2 ls))
        refine zn_if_eq (tgt := 42) hX dX6_firstHole_37 (by decide) (by omega) (fun c37 => ?_) (fun c37 => ?_)
        · skip
          refine z_aload_n hX 0 dX6_firstHole_42 rfl ?_
          refine z_get (v := .ref fo) hX fX6 0 5 rfl rfl (Nat.le_of_ble_eq_true rfl) fl_X6_40 rfl dX6_firstHole_43 ?_
          refine z_aload_n hX 0 dX6_firstHole_46 rfl ?_
          refine z_get (v := .ref w) hX fX6 0 0 rfl rfl (Nat.le_of_ble_eq_true rfl) fl_X6_10 rfl dX6_firstHole_47 ?_
          refine z_get (v := .ref cr) hX fX5 1 1 rfl rfl (Nat.le_of_ble_eq_true rfl) fl_X6_66 rfl dX6_firstHole_50 ?_
          refine z_callVi (st := []) hX (c_X2_pass _ G fo fh (goN d (va_up s 2 ls)) cr ck cl ce fk fl fe sz (9999 + d) (goN_WF (WF_list h0 h3) d) (by omega) (CR_goN (CR_list h1 ls) d) hz) lb_X2_pass ml_X6_194 (fun (_u : Unit) => [ob x 6 [.ref w, .ref kw, .int (nI ik), .ref tp, .ref sx, .ref fo, .ref gu, .ref ch], ob w 5 [.ref now, .ref cr, .ref past, .int (nI o), .int (nI u)], ob now 2 (mf nh s), ia G nh 4 (fN (sh 7 s)), ob cr 1 [.ref ck, .ref cl, .ref ce, .int (nI sz)], ia G ck 6 fk, ia G cl 6 fl, ia G ce 6 fe, ob fo 2 (mf fh (goBy (goN d (va_up s 2 ls)))), ia G fh 4 (fN (sh 7 (goBy (goN d (va_up s 2 ls)))))]) (wr := [ob x 6 [.ref w, .ref kw, .int (nI ik), .ref tp, .ref sx, .ref fo, .ref gu, .ref ch], ob w 5 [.ref now, .ref cr, .ref past, .int (nI o), .int (nI u)], ob now 2 (mf nh s), ia G nh 4 (fN (sh 7 s))]) [8, 9, 4, 5, 6, 7] [0, 1, 2, 3] [0, 1, 2, 3, 6, 7, 8, 9, 4, 5] ⟨rfl, rfl, rfl, fun _ => rfl⟩ 0 rfl rfl rfl rfl ⟨Nat.le_refl _, Nat.le_refl _⟩ dX6_firstHole_53 rfl (fun r53 u53 hw53 => ?_)
          subst hw53
          refine z_pop hX dX6_firstHole_56 rfl ?_
          refine z_iinc (v := (nI (d + 1))) (L' := [(2, .int (nI (d + 1))), (0, .ref x), (1, .int (nI ls))]) hX 2 dX6_firstHole_57 rfl (nI_inc _) (Nat.le_of_ble_eq_true rfl) rfl ?_
          refine z_goto (tgt := 24) hX dX6_firstHole_60 (by decide) ?_
          refine z_lsub [1, 2, 0] rfl ?_
          exact ih24 (d + 1) (by omega) (by omega) (by rw [← hf, show 61 - d = (61 - (d + 1)) + 1 by omega, hole1, if_pos c37])
        · skip
          refine z_iload_n hX 2 dX6_firstHole_40 rfl ?_
          exact hR _ (goN d (va_up s 2 ls)) _ _ (by rw [← hf, show 61 - d = (60 - d) + 1 by omega, hole1, if_neg c37]) dX6_firstHole_41 rfl
  refine z_lsub [1, 2, 0] rfl ?_
  exact lp24 62 0 (by omega) (by omega) rfl
set_option maxRecDepth 100000 in
set_option maxHeartbeats 4000000 in
theorem c_X6_hole (l : Launch) (G : zG) (x : Nat) (w : Nat) (kw : Nat) (ik : Nat) (tp : Nat) (sx : Nat) (fo : Nat) (gu : Nat) (ch : Nat) (now : Nat) (nh : Nat) (cr : Nat) (past : Nat) (o : Nat) (u : Nat) (s : nst) (ck : Nat) (cl : Nat) (ce : Nat) (sz : Nat) (fk : Nat → Int32) (fl : Nat → Int32) (fe : Nat → Int32) (fh : Nat) (t : nst) (h0 : WF 9999 0 s) (h1 : CR s fk fl fe) (h2 : sz = s 0) : zMi l G yX6_hole cX6_hole 1 .int 4 0 0 94 [.ref x] [ob x 6 [.ref w, .ref kw, .int (nI ik), .ref tp, .ref sx, .ref fo, .ref gu, .ref ch], ob w 5 [.ref now, .ref cr, .ref past, .int (nI o), .int (nI u)], ob now 2 (mf nh s), ia G nh 4 (fN (sh 7 s)), ob cr 1 [.ref ck, .ref cl, .ref ce, .int (nI sz)], ia G ck 6 fk, ia G cl 6 fl, ia G ce 6 fe, ob fo 2 (mf fh t), ia G fh 4 (fN (sh 7 t))] (fun (r : Int32) (_u : nst) => r = hole1 s 61 0) (fun (_u : nst) => [ob x 6 [.ref w, .ref kw, .int (nI ik), .ref tp, .ref sx, .ref fo, .ref gu, .ref ch], ob w 5 [.ref now, .ref cr, .ref past, .int (nI o), .int (nI u)], ob now 2 (mf nh s), ia G nh 4 (fN (sh 7 s)), ob cr 1 [.ref ck, .ref cl, .ref ce, .int (nI sz)], ia G ck 6 fk, ia G cl 6 fl, ia G ce 6 fe, ob fo 2 (mf fh _u), ia G fh 4 (fN (sh 7 _u))]) := by
  refine zMi.of (by decide) rfl (fun X A H0 hX hXl hR => ?_)
  show Z (X, G, A, H0, 1) 0 0 [ob x 6 [.ref w, .ref kw, .int (nI ik), .ref tp, .ref sx, .ref fo, .ref gu, .ref ch], ob w 5 [.ref now, .ref cr, .ref past, .int (nI o), .int (nI u)], ob now 2 (mf nh s), ia G nh 4 (fN (sh 7 s)), ob cr 1 [.ref ck, .ref cl, .ref ce, .int (nI sz)], ia G ck 6 fk, ia G cl 6 fl, ia G ce 6 fe, ob fo 2 (mf fh t), ia G fh 4 (fN (sh 7 t))] 0 [(0, .ref x)] []
  subst hXl
  have z0 := h0.1
  have z1 := h0.2.1
  have z2 := h0.2.2.1
  refine z_aload_n hX 0 dX6_hole_0 rfl ?_
  refine z_aload_n hX 0 dX6_hole_1 rfl ?_
  refine z_get (v := .ref w) hX fX6 0 0 rfl rfl (Nat.le_of_ble_eq_true rfl) fl_X6_10 rfl dX6_hole_2 ?_
  refine z_get (v := .ref now) hX fX5 1 0 rfl rfl (Nat.le_of_ble_eq_true rfl) fl_X6_88 rfl dX6_hole_5 ?_
  refine z_get (v := .int (nI (s 2))) hX fX2 2 1 rfl rfl (Nat.le_of_ble_eq_true rfl) fl_X6_111 rfl dX6_hole_8 ?_
  refine z_callVi (st := []) hX (c_X6_firstHole _ G x w kw ik tp sx fo gu ch now nh cr past o u s ck cl ce sz fk fl fe fh t (s 2) h0 h1 h2 (by omega)) lb_X6_firstHole ml_X6_202 (fun (_u : nst) => [ob x 6 [.ref w, .ref kw, .int (nI ik), .ref tp, .ref sx, .ref fo, .ref gu, .ref ch], ob w 5 [.ref now, .ref cr, .ref past, .int (nI o), .int (nI u)], ob now 2 (mf nh s), ia G nh 4 (fN (sh 7 s)), ob cr 1 [.ref ck, .ref cl, .ref ce, .int (nI sz)], ia G ck 6 fk, ia G cl 6 fl, ia G ce 6 fe, ob fo 2 (mf fh _u), ia G fh 4 (fN (sh 7 _u))]) (wr := []) [0, 1, 2, 3, 4, 5, 6, 7, 8, 9] [] [0, 1, 2, 3, 4, 5, 6, 7, 8, 9] ⟨rfl, rfl, rfl, fun _ => rfl⟩ 0 rfl rfl rfl rfl ⟨Nat.le_refl _, Nat.le_refl _⟩ dX6_hole_11 rfl (fun r11 u11 hw11 => ?_)
  obtain ⟨t2_1, rfl⟩ : ∃ z9, z9 = u11 := ⟨_, rfl⟩
  rw [up_self] at hw11
  exact hR _ t2_1 _ _ hw11 dX6_hole_14 rfl
set_option maxRecDepth 100000 in
set_option maxHeartbeats 4000000 in
theorem c_X6_stands (l : Launch) (G : zG) (x : Nat) (w : Nat) (kw : Nat) (ik : Nat) (tp : Nat) (sx : Nat) (fo : Nat) (gu : Nat) (ch : Nat) (now : Nat) (nh : Nat) (cr : Nat) (past : Nat) (o : Nat) (u : Nat) (s : nst) (ck : Nat) (cl : Nat) (ce : Nat) (sz : Nat) (fk : Nat → Int32) (fl : Nat → Int32) (fe : Nat → Int32) (fh : Nat) (t : nst) (lk : Int32) (h0 : WF 9999 0 s) (h1 : CR s fk fl fe) (h2 : sz = s 0) : zMi l G yX6_stands cX6_stands 2 .int 4 0 0 94 [.ref x, .int lk] [ob x 6 [.ref w, .ref kw, .int (nI ik), .ref tp, .ref sx, .ref fo, .ref gu, .ref ch], ob w 5 [.ref now, .ref cr, .ref past, .int (nI o), .int (nI u)], ob now 2 (mf nh s), ia G nh 4 (fN (sh 7 s)), ob cr 1 [.ref ck, .ref cl, .ref ce, .int (nI sz)], ia G ck 6 fk, ia G cl 6 fl, ia G ce 6 fe, ob fo 2 (mf fh t), ia G fh 4 (fN (sh 7 t))] (fun (r : Int32) (_u : nst) => r = spStands s lk) (fun (_u : nst) => [ob x 6 [.ref w, .ref kw, .int (nI ik), .ref tp, .ref sx, .ref fo, .ref gu, .ref ch], ob w 5 [.ref now, .ref cr, .ref past, .int (nI o), .int (nI u)], ob now 2 (mf nh s), ia G nh 4 (fN (sh 7 s)), ob cr 1 [.ref ck, .ref cl, .ref ce, .int (nI sz)], ia G ck 6 fk, ia G cl 6 fl, ia G ce 6 fe, ob fo 2 (mf fh _u), ia G fh 4 (fN (sh 7 _u))]) := by
  refine zMi.of (by decide) rfl (fun X A H0 hX hXl hR => ?_)
  show Z (X, G, A, H0, 2) 0 0 [ob x 6 [.ref w, .ref kw, .int (nI ik), .ref tp, .ref sx, .ref fo, .ref gu, .ref ch], ob w 5 [.ref now, .ref cr, .ref past, .int (nI o), .int (nI u)], ob now 2 (mf nh s), ia G nh 4 (fN (sh 7 s)), ob cr 1 [.ref ck, .ref cl, .ref ce, .int (nI sz)], ia G ck 6 fk, ia G cl 6 fl, ia G ce 6 fe, ob fo 2 (mf fh t), ia G fh 4 (fN (sh 7 t))] 0 [(0, .ref x), (1, .int lk)] []
  subst hXl
  have z0 := h0.1
  have z1 := h0.2.1
  have z2 := h0.2.2.1
  refine z_iload_n hX 1 dX6_stands_0 rfl ?_
  refine z_bipush (v := nI 64) hX dX6_stands_1 (by decide) ?_
  refine z_callSi (st := []) hX (c_X6_isBelowX _ G lk 64 (by omega)) lb_X6_isBelow ml_X6_58 (fun (_u : Unit) => [ob x 6 [.ref w, .ref kw, .int (nI ik), .ref tp, .ref sx, .ref fo, .ref gu, .ref ch], ob w 5 [.ref now, .ref cr, .ref past, .int (nI o), .int (nI u)], ob now 2 (mf nh s), ia G nh 4 (fN (sh 7 s)), ob cr 1 [.ref ck, .ref cl, .ref ce, .int (nI sz)], ia G ck 6 fk, ia G cl 6 fl, ia G ce 6 fe, ob fo 2 (mf fh t), ia G fh 4 (fN (sh 7 t))]) (wr := [ob x 6 [.ref w, .ref kw, .int (nI ik), .ref tp, .ref sx, .ref fo, .ref gu, .ref ch], ob w 5 [.ref now, .ref cr, .ref past, .int (nI o), .int (nI u)], ob now 2 (mf nh s), ia G nh 4 (fN (sh 7 s)), ob cr 1 [.ref ck, .ref cl, .ref ce, .int (nI sz)], ia G ck 6 fk, ia G cl 6 fl, ia G ce 6 fe, ob fo 2 (mf fh t), ia G fh 4 (fN (sh 7 t))]) [] [0, 1, 2, 3, 4, 5, 6, 7, 8, 9] [0, 1, 2, 3, 4, 5, 6, 7, 8, 9] ⟨rfl, rfl, rfl, fun _ => rfl⟩ rfl rfl ⟨Nat.le_refl _, Nat.le_refl _⟩ dX6_stands_3 rfl (fun r3 u3 hw3 => ?_)
  try dsimp only at hw3
  rcases hw3 with ⟨lkj, hlkh, rfl, rfl⟩ | ⟨hw3, rfl⟩
  · skip
    refine zn_if_eq (tgt := 17) hX dX6_stands_6 (by decide) (by omega) (fun c6 => absurd c6 (by omega)) (fun _ => ?_)
    refine z_aload_n hX 0 dX6_stands_9 rfl ?_
    refine z_iload_n hX 1 dX6_stands_10 rfl ?_
    refine z_callVi (st := []) hX (c_X6_firstHole _ G x w kw ik tp sx fo gu ch now nh cr past o u s ck cl ce sz fk fl fe fh t lkj h0 h1 h2 (by omega)) lb_X6_firstHole ml_X6_202 (fun (_u : nst) => [ob x 6 [.ref w, .ref kw, .int (nI ik), .ref tp, .ref sx, .ref fo, .ref gu, .ref ch], ob w 5 [.ref now, .ref cr, .ref past, .int (nI o), .int (nI u)], ob now 2 (mf nh s), ia G nh 4 (fN (sh 7 s)), ob cr 1 [.ref ck, .ref cl, .ref ce, .int (nI sz)], ia G ck 6 fk, ia G cl 6 fl, ia G ce 6 fe, ob fo 2 (mf fh _u), ia G fh 4 (fN (sh 7 _u))]) (wr := []) [0, 1, 2, 3, 4, 5, 6, 7, 8, 9] [] [0, 1, 2, 3, 4, 5, 6, 7, 8, 9] ⟨rfl, rfl, rfl, fun _ => rfl⟩ 0 rfl rfl rfl rfl ⟨Nat.le_refl _, Nat.le_refl _⟩ dX6_stands_11 rfl (fun r11 u11 hw11 => ?_)
    obtain ⟨t2_1, rfl⟩ : ∃ z9, z9 = u11 := ⟨_, rfl⟩
    refine z_goto (tgt := 18) hX dX6_stands_14 (by decide) ?_
    exact hR _ t2_1 _ _ (by unfold spStands; rw [if_pos (inb_t (by omega) (by omega) (by omega)), gN_nI (by omega)]; exact hw11) dX6_stands_18 rfl
  · have hb_lk : inb lk 0 63 = false := hw3
    refine zn_if_eq (tgt := 17) hX dX6_stands_6 (by decide) (by omega) (fun _ => ?_) (fun c6 => absurd c6 (by omega))
    refine z_iconst (v := (-1)) hX dX6_stands_17 (by decide) ?_
    exact hR _ t _ _ (by unfold spStands; rw [if_neg (by simp [hb_lk])]) dX6_stands_18 rfl
set_option maxRecDepth 100000 in
set_option maxHeartbeats 4000000 in
theorem c_X6_first (l : Launch) (G : zG) (x : Nat) (w : Nat) (kw : Nat) (ik : Nat) (tp : Nat) (sx : Nat) (fo : Nat) (gu : Nat) (ch : Nat) (now : Nat) (nh : Nat) (cr : Nat) (past : Nat) (o : Nat) (u : Nat) (s : nst) (ck : Nat) (cl : Nat) (ce : Nat) (sz : Nat) (fk : Nat → Int32) (fl : Nat → Int32) (fe : Nat → Int32) (fh : Nat) (t : nst) (t0 : Int32) (h0 : WF 9999 0 s) (h1 : CR s fk fl fe) (h2 : sz = s 0) : zMi l G yX6_first cX6_first 4 .int 3 0 0 72 [.ref x, .int t0] [ob x 6 [.ref w, .ref kw, .int (nI ik), .ref tp, .ref sx, .ref fo, .ref gu, .ref ch], ob w 5 [.ref now, .ref cr, .ref past, .int (nI o), .int (nI u)], ob now 2 (mf nh s), ia G nh 4 (fN (sh 7 s)), ob cr 1 [.ref ck, .ref cl, .ref ce, .int (nI sz)], ia G ck 6 fk, ia G cl 6 fl, ia G ce 6 fe, ob fo 2 (mf fh t), ia G fh 4 (fN (sh 7 t))] (fun (r : Int32) (_u : nst) => r = spFirst s t0) (fun (_u : nst) => [ob x 6 [.ref w, .ref kw, .int (nI ik), .ref tp, .ref sx, .ref fo, .ref gu, .ref ch], ob w 5 [.ref now, .ref cr, .ref past, .int (nI o), .int (nI u)], ob now 2 (mf nh s), ia G nh 4 (fN (sh 7 s)), ob cr 1 [.ref ck, .ref cl, .ref ce, .int (nI sz)], ia G ck 6 fk, ia G cl 6 fl, ia G ce 6 fe, ob fo 2 (mf fh _u), ia G fh 4 (fN (sh 7 _u))]) := by
  refine zMi.of (by decide) rfl (fun X A H0 hX hXl hR => ?_)
  show Z (X, G, A, H0, 4) 0 0 [ob x 6 [.ref w, .ref kw, .int (nI ik), .ref tp, .ref sx, .ref fo, .ref gu, .ref ch], ob w 5 [.ref now, .ref cr, .ref past, .int (nI o), .int (nI u)], ob now 2 (mf nh s), ia G nh 4 (fN (sh 7 s)), ob cr 1 [.ref ck, .ref cl, .ref ce, .int (nI sz)], ia G ck 6 fk, ia G cl 6 fl, ia G ce 6 fe, ob fo 2 (mf fh t), ia G fh 4 (fN (sh 7 t))] 0 [(0, .ref x), (1, .int t0)] []
  subst hXl
  have z0 := h0.1
  have z1 := h0.2.1
  have z2 := h0.2.2.1
  refine z_aload_n hX 0 dX6_first_0 rfl ?_
  refine z_iload_n hX 1 dX6_first_1 rfl ?_
  refine z_callVi (st := []) hX (c_X6_isTraveller _ G x w kw ik tp sx fo gu ch now nh cr past o u ck cl ce sz t0 (by omega)) lb_X6_isTraveller ml_X6_84 (fun (_u : Unit) => [ob x 6 [.ref w, .ref kw, .int (nI ik), .ref tp, .ref sx, .ref fo, .ref gu, .ref ch], ob w 5 [.ref now, .ref cr, .ref past, .int (nI o), .int (nI u)], ob now 2 (mf nh s), ia G nh 4 (fN (sh 7 s)), ob cr 1 [.ref ck, .ref cl, .ref ce, .int (nI sz)], ia G ck 6 fk, ia G cl 6 fl, ia G ce 6 fe, ob fo 2 (mf fh t), ia G fh 4 (fN (sh 7 t))]) (wr := [ob now 2 (mf nh s), ia G nh 4 (fN (sh 7 s)), ia G ck 6 fk, ia G cl 6 fl, ia G ce 6 fe, ob fo 2 (mf fh t), ia G fh 4 (fN (sh 7 t))]) [0, 1, 4] [2, 3, 5, 6, 7, 8, 9] [7, 8, 0, 1, 9, 2, 3, 4, 5, 6] ⟨rfl, rfl, rfl, fun _ => rfl⟩ 0 rfl rfl rfl rfl ⟨Nat.le_refl _, Nat.le_refl _⟩ dX6_first_2 rfl (fun r2 u2 hw2 => ?_)
  try dsimp only at hw2
  rcases hw2 with ⟨t0j, ht0h, rfl, rfl⟩ | ⟨hw2, rfl⟩
  · skip
    refine zn_if_ne (tgt := 10) hX dX6_first_5 (by decide) (by omega) (fun _ => ?_) (fun c5 => absurd c5 (by omega))
    refine z_aload_n hX 0 dX6_first_10 rfl ?_
    refine z_get (v := .ref fo) hX fX6 0 5 rfl rfl (Nat.le_of_ble_eq_true rfl) fl_X6_40 rfl dX6_first_11 ?_
    refine z_aload_n hX 0 dX6_first_14 rfl ?_
    refine z_get (v := .ref w) hX fX6 0 0 rfl rfl (Nat.le_of_ble_eq_true rfl) fl_X6_10 rfl dX6_first_15 ?_
    refine z_get (v := .ref now) hX fX5 1 0 rfl rfl (Nat.le_of_ble_eq_true rfl) fl_X6_88 rfl dX6_first_18 ?_
    refine z_callVv (st := []) hX (c_X2_take _ G fo fh t now nh s ) lb_X2_take ml_X6_206 (fun (_u : Unit) => [ob x 6 [.ref w, .ref kw, .int (nI ik), .ref tp, .ref sx, .ref fo, .ref gu, .ref ch], ob w 5 [.ref now, .ref cr, .ref past, .int (nI o), .int (nI u)], ob now 2 (mf nh s), ia G nh 4 (fN (sh 7 s)), ob cr 1 [.ref ck, .ref cl, .ref ce, .int (nI sz)], ia G ck 6 fk, ia G cl 6 fl, ia G ce 6 fe, ob fo 2 (mf fh s), ia G fh 4 (fN (sh 7 s))]) (wr := [ob x 6 [.ref w, .ref kw, .int (nI ik), .ref tp, .ref sx, .ref fo, .ref gu, .ref ch], ob w 5 [.ref now, .ref cr, .ref past, .int (nI o), .int (nI u)], ob cr 1 [.ref ck, .ref cl, .ref ce, .int (nI sz)], ia G ck 6 fk, ia G cl 6 fl, ia G ce 6 fe]) [8, 9, 2, 3] [0, 1, 4, 5, 6, 7] [0, 1, 8, 9, 2, 3, 4, 5, 6, 7] ⟨rfl, rfl, rfl, fun _ => rfl⟩ 0 rfl rfl rfl rfl ⟨Nat.le_refl _, Nat.le_refl _⟩ dX6_first_21 rfl (fun  u21 hw21 => ?_)
    refine z_iconst (v := nI 1) hX dX6_first_24 (by decide) ?_
    refine z_istore_n (L' := [(2, .int (nI 1)), (0, .ref x), (1, .int (nI t0j))]) hX dX6_first_25 (Nat.le_of_ble_eq_true rfl) rfl ?_
    have lp26 : ∀ (n26 : Nat) (d : Nat), (60 + 1 ≤ d + n26) → (d ≤ 60) → (first1 s t0j (60 - d) d = first1 s t0j 60 0) → Z (X, G, A, H0, 4) 0 0 [ob x 6 [.ref w, .ref kw, .int (nI ik), .ref tp, .ref sx, .ref fo, .ref gu, .ref ch], ob w 5 [.ref now, .ref cr, .ref past, .int (nI o), .int (nI u)], ob now 2 (mf nh s), ia G nh 4 (fN (sh 7 s)), ob cr 1 [.ref ck, .ref cl, .ref ce, .int (nI sz)], ia G ck 6 fk, ia G cl 6 fl, ia G ce 6 fe, ob fo 2 (mf fh (goN d s)), ia G fh 4 (fN (sh 7 (goN d s)))] 26 [(0, .ref x), (1, .int (nI t0j)), (2, .int (nI (d + 1)))] [] := by
      intro n26
      induction n26 with
      | zero =>
        intro d hn hd hf
        exfalso
        omega
      | succ n26 ih26 =>
        intro d hn hd hf
        have hz : sz = goN d s 0 := by rw [goN_keep _ (by omega)]; exact h2
        have q5 := goFall_lt (goN_WF h0 d).1
        refine z_iload_n hX 2 dX6_first_26 rfl ?_
        refine z_bipush (v := nI 60) hX dX6_first_27 (by decide) ?_
        refine zn_icmp_gt (tgt := 63) hX dX6_first_29 (by decide) (by omega) (by omega) (fun c29 => ?_) (fun c29 => ?_)
        · skip
          refine z_bipush (v := (-4)) hX dX6_first_63 (by decide) ?_
          exact hR _ (goN d s) _ _ (by unfold spFirst; rw [if_pos (inb_t (by omega) (by omega) (by omega)), gN_nI (by omega)]; rw [← hf, show 60 - d = 0 by omega]; rfl) dX6_first_65 rfl
        · skip
          refine z_aload_n hX 0 dX6_first_32 rfl ?_
          refine z_get (v := .ref fo) hX fX6 0 5 rfl rfl (Nat.le_of_ble_eq_true rfl) fl_X6_40 rfl dX6_first_33 ?_
          refine z_aload_n hX 0 dX6_first_36 rfl ?_
          refine z_get (v := .ref w) hX fX6 0 0 rfl rfl (Nat.le_of_ble_eq_true rfl) fl_X6_10 rfl dX6_first_37 ?_
          refine z_get (v := .ref cr) hX fX5 1 1 rfl rfl (Nat.le_of_ble_eq_true rfl) fl_X6_66 rfl dX6_first_40 ?_
          refine z_callVi (st := []) hX (c_X2_pass _ G fo fh (goN d s) cr ck cl ce fk fl fe sz (9999 + d) (goN_WF h0 d) (by omega) (CR_goN h1 d) hz) lb_X2_pass ml_X6_194 (fun (_u : Unit) => [ob x 6 [.ref w, .ref kw, .int (nI ik), .ref tp, .ref sx, .ref fo, .ref gu, .ref ch], ob w 5 [.ref now, .ref cr, .ref past, .int (nI o), .int (nI u)], ob now 2 (mf nh s), ia G nh 4 (fN (sh 7 s)), ob cr 1 [.ref ck, .ref cl, .ref ce, .int (nI sz)], ia G ck 6 fk, ia G cl 6 fl, ia G ce 6 fe, ob fo 2 (mf fh (goBy (goN d s))), ia G fh 4 (fN (sh 7 (goBy (goN d s))))]) (wr := [ob x 6 [.ref w, .ref kw, .int (nI ik), .ref tp, .ref sx, .ref fo, .ref gu, .ref ch], ob w 5 [.ref now, .ref cr, .ref past, .int (nI o), .int (nI u)], ob now 2 (mf nh s), ia G nh 4 (fN (sh 7 s))]) [8, 9, 4, 5, 6, 7] [0, 1, 2, 3] [0, 1, 2, 3, 6, 7, 8, 9, 4, 5] ⟨rfl, rfl, rfl, fun _ => rfl⟩ 0 rfl rfl rfl rfl ⟨Nat.le_refl _, Nat.le_refl _⟩ dX6_first_43 rfl (fun r43 u43 hw43 => ?_)
          subst hw43
          refine z_istore_n (L' := [(3, .int (nI (goFall (goN d s)))), (0, .ref x), (1, .int (nI t0j)), (2, .int (nI (d + 1)))]) hX dX6_first_46 (Nat.le_of_ble_eq_true rfl) rfl ?_
          refine z_iload_n hX 2 dX6_first_47 rfl ?_
          refine z_iload_n hX 0 dX6_first_48 rfl ?_
          refine z_callSi (st := []) hX (c_X6_isIn _ G t0j (goFall (goN d s)) (by omega) (by omega)) lb_X6_isIn ml_X6_210 (fun (_u : Unit) => [ob x 6 [.ref w, .ref kw, .int (nI ik), .ref tp, .ref sx, .ref fo, .ref gu, .ref ch], ob w 5 [.ref now, .ref cr, .ref past, .int (nI o), .int (nI u)], ob now 2 (mf nh s), ia G nh 4 (fN (sh 7 s)), ob cr 1 [.ref ck, .ref cl, .ref ce, .int (nI sz)], ia G ck 6 fk, ia G cl 6 fl, ia G ce 6 fe, ob fo 2 (mf fh (goBy (goN d s))), ia G fh 4 (fN (sh 7 (goBy (goN d s))))]) (wr := [ob x 6 [.ref w, .ref kw, .int (nI ik), .ref tp, .ref sx, .ref fo, .ref gu, .ref ch], ob w 5 [.ref now, .ref cr, .ref past, .int (nI o), .int (nI u)], ob now 2 (mf nh s), ia G nh 4 (fN (sh 7 s)), ob cr 1 [.ref ck, .ref cl, .ref ce, .int (nI sz)], ia G ck 6 fk, ia G cl 6 fl, ia G ce 6 fe, ob fo 2 (mf fh (goBy (goN d s))), ia G fh 4 (fN (sh 7 (goBy (goN d s))))]) [] [0, 1, 2, 3, 4, 5, 6, 7, 8, 9] [0, 1, 2, 3, 4, 5, 6, 7, 8, 9] ⟨rfl, rfl, rfl, fun _ => rfl⟩ rfl rfl ⟨Nat.le_refl _, Nat.le_refl _⟩ dX6_first_49 rfl (fun r49 u49 hw49 => ?_)
          try dsimp only at hw49
          rcases Classical.em ((goFall (goN d s)) / 2 ^ t0j % 2 = 1) with b49 | b49
          · obtain rfl := hw49.1 b49
            refine zn_if_eq (tgt := 57) hX dX6_first_52 (by decide) (by omega) (fun c52 => absurd c52 (by omega)) (fun _ => ?_)
            refine z_iload_n hX 3 dX6_first_55 rfl ?_
            exact hR _ (goBy (goN d s)) _ _ (by unfold spFirst; rw [if_pos (inb_t (by omega) (by omega) (by omega)), gN_nI (by omega)]; rw [← hf, show 60 - d = (59 - d) + 1 by omega, first1, if_pos b49]) dX6_first_56 rfl
          · obtain rfl := hw49.2 b49
            refine zn_if_eq (tgt := 57) hX dX6_first_52 (by decide) (by omega) (fun _ => ?_) (fun c52 => absurd c52 (by omega))
            refine z_iinc (v := (nI (d + 2))) (L' := [(2, .int (nI (d + 2))), (3, .int (nI (goFall (goN d s)))), (0, .ref x), (1, .int (nI t0j))]) hX 3 dX6_first_57 rfl (nI_inc _) (Nat.le_of_ble_eq_true rfl) rfl ?_
            refine z_goto (tgt := 26) hX dX6_first_60 (by decide) ?_
            refine z_lsub [2, 3, 0] rfl ?_
            exact ih26 (d + 1) (by omega) (by omega) (by rw [← hf, show 60 - d = (60 - (d + 1)) + 1 by omega, first1, if_neg b49])
    refine z_lsub [1, 2, 0] rfl ?_
    exact lp26 61 0 (by omega) (by omega) rfl
  · have hb_t0 : inb t0 0 ((sz : Nat) - 1 : Int) = false := hw2
    refine zn_if_ne (tgt := 10) hX dX6_first_5 (by decide) (by omega) (fun c5 => absurd c5 (by omega)) (fun _ => ?_)
    refine z_iconst (v := (-1)) hX dX6_first_8 (by decide) ?_
    exact hR _ t _ _ (by rw [h2] at hb_t0; unfold spFirst; rw [if_neg (by simp [hb_t0])]) dX6_first_9 rfl
set_option maxRecDepth 100000 in
set_option maxHeartbeats 4000000 in
theorem c_X6_nobodyFalls (l : Launch) (G : zG) (x : Nat) (w : Nat) (kw : Nat) (ik : Nat) (tp : Nat) (sx : Nat) (fo : Nat) (gu : Nat) (ch : Nat) (now : Nat) (nh : Nat) (cr : Nat) (past : Nat) (o : Nat) (u : Nat) (ck : Nat) (cl : Nat) (ce : Nat) (sz : Nat) (fk : Nat → Int32) (fl : Nat → Int32) (fe : Nat → Int32) (fh : Nat) (t : nst) (D : Nat) (N : Nat) (h0 : CR t fk fl fe) (h1 : sz = t 0) (h2 : WF D 0 t) (h3 : D ≤ 15000) (h4 : N ≤ 60) : zMi l G yX6_nobodyFalls cX6_nobodyFalls 3 .boolean 3 0 0 72 [.ref x, .int (nI N)] [ob x 6 [.ref w, .ref kw, .int (nI ik), .ref tp, .ref sx, .ref fo, .ref gu, .ref ch], ob w 5 [.ref now, .ref cr, .ref past, .int (nI o), .int (nI u)], ob cr 1 [.ref ck, .ref cl, .ref ce, .int (nI sz)], ia G ck 6 fk, ia G cl 6 fl, ia G ce 6 fe, ob fo 2 (mf fh t), ia G fh 4 (fN (sh 7 t))] (fun (r : Int32) (_u : nst) => zb (goN N t 5 = t 5) r) (fun (_u : nst) => [ob x 6 [.ref w, .ref kw, .int (nI ik), .ref tp, .ref sx, .ref fo, .ref gu, .ref ch], ob w 5 [.ref now, .ref cr, .ref past, .int (nI o), .int (nI u)], ob cr 1 [.ref ck, .ref cl, .ref ce, .int (nI sz)], ia G ck 6 fk, ia G cl 6 fl, ia G ce 6 fe, ob fo 2 (mf fh _u), ia G fh 4 (fN (sh 7 _u))]) := by
  refine zMi.of (by decide) rfl (fun X A H0 hX hXl hR => ?_)
  show Z (X, G, A, H0, 3) 0 0 [ob x 6 [.ref w, .ref kw, .int (nI ik), .ref tp, .ref sx, .ref fo, .ref gu, .ref ch], ob w 5 [.ref now, .ref cr, .ref past, .int (nI o), .int (nI u)], ob cr 1 [.ref ck, .ref cl, .ref ce, .int (nI sz)], ia G ck 6 fk, ia G cl 6 fl, ia G ce 6 fe, ob fo 2 (mf fh t), ia G fh 4 (fN (sh 7 t))] 0 [(0, .ref x), (1, .int (nI N))] []
  subst hXl
  refine z_iconst (v := nI 0) hX dX6_nobodyFalls_0 (by decide) ?_
  refine z_istore_n (L' := [(2, .int (nI 0)), (0, .ref x), (1, .int (nI N))]) hX dX6_nobodyFalls_1 (Nat.le_of_ble_eq_true rfl) rfl ?_
  have lp2 : ∀ (n2 : Nat) (k : Nat), (N + 1 ≤ k + n2) → (k ≤ N) → (goN k t 5 = t 5) → Z (X, G, A, H0, 3) 0 0 [ob x 6 [.ref w, .ref kw, .int (nI ik), .ref tp, .ref sx, .ref fo, .ref gu, .ref ch], ob w 5 [.ref now, .ref cr, .ref past, .int (nI o), .int (nI u)], ob cr 1 [.ref ck, .ref cl, .ref ce, .int (nI sz)], ia G ck 6 fk, ia G cl 6 fl, ia G ce 6 fe, ob fo 2 (mf fh (goN k t)), ia G fh 4 (fN (sh 7 (goN k t)))] 2 [(0, .ref x), (1, .int (nI N)), (2, .int (nI k))] [] := by
    intro n2
    induction n2 with
    | zero =>
      intro k hn hk hf
      exfalso
      omega
    | succ n2 ih2 =>
      intro k hn hk hf
      have hz : sz = goN k t 0 := by rw [goN_keep _ (by omega)]; exact h1
      have q5 := goFall_lt (goN_WF h2 k).1
      refine z_iload_n hX 2 dX6_nobodyFalls_2 rfl ?_
      refine z_iload_n hX 1 dX6_nobodyFalls_3 rfl ?_
      refine zn_icmp_ge (tgt := 32) hX dX6_nobodyFalls_4 (by decide) (by omega) (by omega) (fun c4 => ?_) (fun c4 => ?_)
      · skip
        refine z_iconst (v := nI 1) hX dX6_nobodyFalls_32 (by decide) ?_
        have ek : k = N := by omega
        subst ek
        exact hR _ (goN k t) _ _ ⟨fun _ => rfl, fun hz9 => absurd hf hz9⟩ dX6_nobodyFalls_33 rfl
      · skip
        refine z_aload_n hX 0 dX6_nobodyFalls_7 rfl ?_
        refine z_get (v := .ref fo) hX fX6 0 5 rfl rfl (Nat.le_of_ble_eq_true rfl) fl_X6_40 rfl dX6_nobodyFalls_8 ?_
        refine z_aload_n hX 0 dX6_nobodyFalls_11 rfl ?_
        refine z_get (v := .ref w) hX fX6 0 0 rfl rfl (Nat.le_of_ble_eq_true rfl) fl_X6_10 rfl dX6_nobodyFalls_12 ?_
        refine z_get (v := .ref cr) hX fX5 1 1 rfl rfl (Nat.le_of_ble_eq_true rfl) fl_X6_66 rfl dX6_nobodyFalls_15 ?_
        refine z_callVi (st := []) hX (c_X2_pass _ G fo fh (goN k t) cr ck cl ce fk fl fe sz (D + k) (goN_WF h2 k) (by omega) (CR_goN h0 k) hz) lb_X2_pass ml_X6_194 (fun (_u : Unit) => [ob x 6 [.ref w, .ref kw, .int (nI ik), .ref tp, .ref sx, .ref fo, .ref gu, .ref ch], ob w 5 [.ref now, .ref cr, .ref past, .int (nI o), .int (nI u)], ob cr 1 [.ref ck, .ref cl, .ref ce, .int (nI sz)], ia G ck 6 fk, ia G cl 6 fl, ia G ce 6 fe, ob fo 2 (mf fh (goBy (goN k t))), ia G fh 4 (fN (sh 7 (goBy (goN k t))))]) (wr := [ob x 6 [.ref w, .ref kw, .int (nI ik), .ref tp, .ref sx, .ref fo, .ref gu, .ref ch], ob w 5 [.ref now, .ref cr, .ref past, .int (nI o), .int (nI u)]]) [6, 7, 2, 3, 4, 5] [0, 1] [0, 1, 4, 5, 6, 7, 2, 3] ⟨rfl, rfl, rfl, fun _ => rfl⟩ 0 rfl rfl rfl rfl ⟨Nat.le_refl _, Nat.le_refl _⟩ dX6_nobodyFalls_18 rfl (fun r18 u18 hw18 => ?_)
        subst hw18
        refine zn_if_eq (tgt := 26) hX dX6_nobodyFalls_21 (by decide) (by omega) (fun c21 => ?_) (fun c21 => ?_)
        · skip
          refine z_iinc (v := (nI (k + 1))) (L' := [(2, .int (nI (k + 1))), (0, .ref x), (1, .int (nI N))]) hX 2 dX6_nobodyFalls_26 rfl (nI_inc _) (Nat.le_of_ble_eq_true rfl) rfl ?_
          refine z_goto (tgt := 2) hX dX6_nobodyFalls_29 (by decide) ?_
          refine z_lsub [1, 2, 0] rfl ?_
          exact ih2 (k + 1) (by omega) (by omega) (((goBy_none (goN k t)).mp c21).trans hf)
        · skip
          refine z_iconst (v := nI 0) hX dX6_nobodyFalls_24 (by decide) ?_
          exact hR _ (goBy (goN k t)) _ _ ⟨fun hz9 => absurd hz9 (goN_fell hf (by omega) c21), fun _ => rfl⟩ dX6_nobodyFalls_25 rfl
  refine z_lsub [1, 2, 0] rfl ?_
  exact lp2 (N + 1) 0 (by omega) (by omega) rfl
