/-- a BRIDGE in place of all but THE DRAW -/
def brS (s : nst) (x : Nat × Nat × Nat × Nat × nst × nst) : nst := fun i => if i = 0 then x.2.2.2.1 else if i = 1 then 0 else if i = 2 then x.2.2.1 else if i < 6 then 0 else if i < 7 then s i else if i < 11 then x.2.2.2.2.2 (i - 7) else if i < 11 + 3 * x.2.2.2.1 then x.2.2.2.2.1 (i - 11) else s i
def okBr (τ : nst) (m : Nat) : Bool := decide ((brB τ m).1 = 1)
def spBridge (τ : nst) (m : Nat) : Int32 := if okBr τ m = true then nI (brB τ m).2.2.2.1 else -20 - nI (brB τ m).2.1
theorem brS_0 (s : nst) (x : Nat × Nat × Nat × Nat × nst × nst) : brS s x 0 = x.2.2.2.1 := rfl
theorem brS_hi {s : nst} {x : Nat × Nat × Nat × Nat × nst × nst} {i : Nat} (h : i < 3 * x.2.2.2.1) : brS s x (11 + i) = x.2.2.2.2.1 i := by
  unfold brS
  rw [if_neg (by omega), if_neg (by omega), if_neg (by omega), if_neg (by omega), if_neg (by omega), if_neg (by omega), if_pos (by omega), show 11 + i - 11 = i by omega]
theorem brS_st (s : nst) (x : Nat × Nat × Nat × Nat × nst × nst) {a : Nat} (h : a < 4) : brS s x (7 + a) = x.2.2.2.2.2 a := by
  unfold brS
  rw [if_neg (by omega), if_neg (by omega), if_neg (by omega), if_neg (by omega), if_neg (by omega), if_pos (by omega), show 7 + a - 7 = a by omega]
theorem begS_brS {t s : nst} {x : Nat × Nat × Nat × Nat × nst × nst} (h2 : t 2 = x.2.2.1) (h7 : ∀ j, j < 4 → t (7 + j) = x.2.2.2.2.2 j) : ∀ i, 1 ≤ i → i ≤ 10 → begS t s i = brS s x i := by
  intro i a b
  have e0 : t 7 = x.2.2.2.2.2 0 := h7 0 (by omega)
  have e1 : t 8 = x.2.2.2.2.2 1 := h7 1 (by omega)
  have e2 : t 9 = x.2.2.2.2.2 2 := h7 2 (by omega)
  have e3 : t 10 = x.2.2.2.2.2 3 := h7 3 (by omega)
  rcases (show i = 1 ∨ i = 2 ∨ i = 3 ∨ i = 4 ∨ i = 5 ∨ i = 6 ∨ i = 7 ∨ i = 8 ∨ i = 9 ∨ i = 10 by omega) with rfl | rfl | rfl | rfl | rfl | rfl | rfl | rfl | rfl | rfl <;> simp [begS, brS, va_up, h2, e0, e1, e2, e3]
theorem CR_brS {s : nst} {x : Nat × Nat × Nat × Nat × nst × nst} {fk fl fe : Nat → Int32} (h : ∀ j, j < x.2.2.2.1 → fk j = nI (x.2.2.2.2.1 (3 * j)) ∧ fl j = nI (x.2.2.2.2.1 (3 * j + 1)) ∧ fe j = nI (x.2.2.2.2.1 (3 * j + 2))) : CR (brS s x) fk fl fe := by
  intro p hp
  rw [brS_0] at hp
  rw [brS_hi (by omega), show 12 + 3 * p = 11 + (3 * p + 1) by omega, brS_hi (by omega), show 13 + 3 * p = 11 + (3 * p + 2) by omega, brS_hi (by omega)]
  exact h p hp
theorem WF_brS {m : Nat} {s : nst} {x : Nat × Nat × Nat × Nat × nst × nst} (h : WF 9999 0 s) (hx : okB m x) : WF 9999 0 (brS s x) := by
  obtain ⟨-, -, x3, x4, x5, x6⟩ := hx
  refine ⟨x4, Nat.zero_le _, x3, Nat.le_refl _, h.2.2.2.2.1, fun a ha => ?_, fun p hp => ?_⟩
  · rw [brS_st s x ha]
    exact x6 a
  · rw [brS_0] at hp
    rw [brS_hi (by omega), show 12 + 3 * p = 11 + (3 * p + 1) by omega, brS_hi (by omega), show 13 + 3 * p = 11 + (3 * p + 2) by omega, brS_hi (by omega)]
    exact x5 p hp
set_option maxRecDepth 100000 in
set_option maxHeartbeats 4000000 in
theorem c_X6_bridge (l : Launch) (G : zG) (q9 t9 : Nat) (x : Nat) (w : Nat) (kw : Nat) (ik : Nat) (tp : Nat) (sx : Nat) (fo : Nat) (gu : Nat) (ch : Nat) (now : Nat) (nh : Nat) (cr : Nat) (past : Nat) (o : Nat) (u : Nat) (s : nst) (ck : Nat) (cl : Nat) (ce : Nat) (sz : Nat) (fk : Nat → Int32) (fl : Nat → Int32) (fe : Nat → Int32) (fh : Nat) (t : nst) (lt : Nat) (m : Nat) (pl : Nat) (tau : nst) (gk : Nat) (gl : Nat) (ge : Nat) (gz : Nat) (hk : Nat → Int32) (hl : Nat → Int32) (he : Nat → Int32) (h0 : WF 9999 0 s) (h1 : CR s fk fl fe) (h2 : sz = s 0) (h3 : m ≤ 80) (h4 : ∀ j, j < m → 32 ≤ tau j ∧ tau j ≤ 126) : zSMi l G q9 t9 yX6_bridge cX6_bridge 3 .int 7 0 0 158 [.ref x] [ob x 6 [.ref w, .ref kw, .int (nI ik), .ref tp, .ref sx, .ref fo, .ref gu, .ref ch], ob w 5 [.ref now, .ref cr, .ref past, .int (nI o), .int (nI u)], ob now 2 (mf nh s), ia G nh 4 (fN (sh 7 s)), ob cr 1 [.ref ck, .ref cl, .ref ce, .int (nI sz)], ia G ck 6 fk, ia G cl 6 fl, ia G ce 6 fe, ob fo 2 (mf fh t), ia G fh 4 (fN (sh 7 t)), ob tp 4 [.ref lt, .int (nI m), .int (nI pl)], ca G lt 80 (fN tau), ob gu 1 [.ref gk, .ref gl, .ref ge, .int (nI gz)], ia G gk 6 hk, ia G gl 6 hl, ia G ge 6 he] (fun (r : Int32) (_u : Nat × (Nat → Int32) × (Nat → Int32) × (Nat → Int32) × nst × Nat × (Nat → Int32) × (Nat → Int32) × (Nat → Int32)) => r = spBridge tau m ∧ CR (cond (okBr tau m) (brS s (brB tau m)) (s)) _u.2.1 _u.2.2.1 _u.2.2.2.1 ∧ _u.1 = (cond (okBr tau m) (brS s (brB tau m)) (s)) 0) (fun (_u : Nat × (Nat → Int32) × (Nat → Int32) × (Nat → Int32) × nst × Nat × (Nat → Int32) × (Nat → Int32) × (Nat → Int32)) => [ob x 6 [.ref w, .ref kw, .int (nI ik), .ref tp, .ref sx, .ref fo, .ref gu, .ref ch], ob w 5 [.ref now, .ref cr, .ref past, .int (nI (cond (okBr tau m) (0) (o))), .int (nI (cond (okBr tau m) (0) (u)))], ob now 2 (mf nh (cond (okBr tau m) (brS s (brB tau m)) (s))), ia G nh 4 (fN (sh 7 (cond (okBr tau m) (brS s (brB tau m)) (s)))), ob cr 1 [.ref ck, .ref cl, .ref ce, .int (nI _u.1)], ia G ck 6 _u.2.1, ia G cl 6 _u.2.2.1, ia G ce 6 _u.2.2.2.1, ob fo 2 (mf fh _u.2.2.2.2.1), ia G fh 4 (fN (sh 7 _u.2.2.2.2.1)), ob tp 4 [.ref lt, .int (nI 0), .int (nI 0)], ca G lt 80 (fN tau), ob gu 1 [.ref gk, .ref gl, .ref ge, .int (nI _u.2.2.2.2.2.1)], ia G gk 6 _u.2.2.2.2.2.2.1, ia G gl 6 _u.2.2.2.2.2.2.2.1, ia G ge 6 _u.2.2.2.2.2.2.2.2]) := by
  refine zSMi.of (by decide) rfl (fun X A H0 hX hXl hT hR => ?_)
  show Z (X, G, A, H0, 3) 0 0 [ob x 6 [.ref w, .ref kw, .int (nI ik), .ref tp, .ref sx, .ref fo, .ref gu, .ref ch], ob w 5 [.ref now, .ref cr, .ref past, .int (nI o), .int (nI u)], ob now 2 (mf nh s), ia G nh 4 (fN (sh 7 s)), ob cr 1 [.ref ck, .ref cl, .ref ce, .int (nI sz)], ia G ck 6 fk, ia G cl 6 fl, ia G ce 6 fe, ob fo 2 (mf fh t), ia G fh 4 (fN (sh 7 t)), ob tp 4 [.ref lt, .int (nI m), .int (nI pl)], ca G lt 80 (fN tau), ob gu 1 [.ref gk, .ref gl, .ref ge, .int (nI gz)], ia G gk 6 hk, ia G gl 6 hl, ia G ge 6 he] 0 [(0, .ref x)] []
  subst hXl
  refine z_aload_n hX 0 dX6_bridge_0 rfl ?_
  refine z_get (v := .ref tp) hX fX6 0 3 rfl rfl (Nat.le_of_ble_eq_true rfl) fl_X6_26 rfl dX6_bridge_1 ?_
  refine z_aload_n hX 0 dX6_bridge_4 rfl ?_
  refine z_get (v := .ref fo) hX fX6 0 5 rfl rfl (Nat.le_of_ble_eq_true rfl) fl_X6_40 rfl dX6_bridge_5 ?_
  refine z_aload_n hX 0 dX6_bridge_8 rfl ?_
  refine z_get (v := .ref gu) hX fX6 0 6 rfl rfl (Nat.le_of_ble_eq_true rfl) fl_X6_47 rfl dX6_bridge_9 ?_
  refine z_scallVi (st := []) hX hT (c_X4_reads _ G q9 t9 tp lt m pl tau fo fh t gu gk gl ge gz hk hl he h4 h3) lb_X4_reads ml_X6_136 (fun (_u : Nat × nst × Nat × (Nat → Int32) × (Nat → Int32) × (Nat → Int32)) => [ob x 6 [.ref w, .ref kw, .int (nI ik), .ref tp, .ref sx, .ref fo, .ref gu, .ref ch], ob w 5 [.ref now, .ref cr, .ref past, .int (nI o), .int (nI u)], ob now 2 (mf nh s), ia G nh 4 (fN (sh 7 s)), ob cr 1 [.ref ck, .ref cl, .ref ce, .int (nI sz)], ia G ck 6 fk, ia G cl 6 fl, ia G ce 6 fe, ob fo 2 (mf fh _u.2.1), ia G fh 4 (fN (sh 7 _u.2.1)), ob tp 4 [.ref lt, .int (nI m), .int (nI _u.1)], ca G lt 80 (fN tau), ob gu 1 [.ref gk, .ref gl, .ref ge, .int (nI _u.2.2.1)], ia G gk 6 _u.2.2.2.1, ia G gl 6 _u.2.2.2.2.1, ia G ge 6 _u.2.2.2.2.2]) (wr := [ob x 6 [.ref w, .ref kw, .int (nI ik), .ref tp, .ref sx, .ref fo, .ref gu, .ref ch], ob w 5 [.ref now, .ref cr, .ref past, .int (nI o), .int (nI u)], ob now 2 (mf nh s), ia G nh 4 (fN (sh 7 s)), ob cr 1 [.ref ck, .ref cl, .ref ce, .int (nI sz)], ia G ck 6 fk, ia G cl 6 fl, ia G ce 6 fe]) [10, 11, 8, 9, 12, 13, 14, 15] [0, 1, 2, 3, 4, 5, 6, 7] [0, 1, 2, 3, 4, 5, 6, 7, 10, 11, 8, 9, 12, 13, 14, 15] ⟨rfl, rfl, rfl, fun _ => rfl⟩ 0 rfl rfl rfl rfl ⟨Nat.le_refl _, Nat.le_refl _⟩ dX6_bridge_12 rfl (fun r12 u12 hw12 => ?_)
  obtain ⟨p2_1, t2_2, sz2_3, fk2_4, fl2_5, fe2_6⟩ := u12
  obtain ⟨hw12, hw12x⟩ := hw12
  try dsimp only at hw12
  rcases Classical.em ((brB tau m).1 = 1) with b12 | b12
  · obtain rfl := hw12.1 b12
    dsimp only at hw12x
    obtain ⟨g2, g3, g4, g5⟩ := hw12x.1 b12
    refine z_istore_n (L' := [(1, .int (nI 1)), (0, .ref x)]) hX dX6_bridge_15 (Nat.le_of_ble_eq_true rfl) rfl ?_
    refine z_aload_n hX 1 dX6_bridge_16 rfl ?_
    refine z_get (v := .ref tp) hX fX6 0 3 rfl rfl (Nat.le_of_ble_eq_true rfl) fl_X6_26 rfl dX6_bridge_17 ?_
    refine z_get (v := .int (nI p2_1)) hX fX4 10 2 rfl rfl (Nat.le_of_ble_eq_true rfl) fl_X6_140 rfl dX6_bridge_20 ?_
    refine z_istore_n (L' := [(2, .int (nI p2_1)), (1, .int (nI 1)), (0, .ref x)]) hX dX6_bridge_23 (Nat.le_of_ble_eq_true rfl) rfl ?_
    refine z_aload_n hX 2 dX6_bridge_24 rfl ?_
    refine z_get (v := .ref tp) hX fX6 0 3 rfl rfl (Nat.le_of_ble_eq_true rfl) fl_X6_26 rfl dX6_bridge_25 ?_
    refine z_callVv (st := []) hX (c_X4_clear _ G tp lt m p2_1 ) lb_X4_clear ml_X6_143 (fun (_u : Unit) => [ob x 6 [.ref w, .ref kw, .int (nI ik), .ref tp, .ref sx, .ref fo, .ref gu, .ref ch], ob w 5 [.ref now, .ref cr, .ref past, .int (nI o), .int (nI u)], ob now 2 (mf nh s), ia G nh 4 (fN (sh 7 s)), ob cr 1 [.ref ck, .ref cl, .ref ce, .int (nI sz)], ia G ck 6 fk, ia G cl 6 fl, ia G ce 6 fe, ob fo 2 (mf fh t2_2), ia G fh 4 (fN (sh 7 t2_2)), ob tp 4 [.ref lt, .int (nI 0), .int (nI 0)], ca G lt 80 (fN tau), ob gu 1 [.ref gk, .ref gl, .ref ge, .int (nI sz2_3)], ia G gk 6 fk2_4, ia G gl 6 fl2_5, ia G ge 6 fe2_6]) (wr := [ob x 6 [.ref w, .ref kw, .int (nI ik), .ref tp, .ref sx, .ref fo, .ref gu, .ref ch], ob w 5 [.ref now, .ref cr, .ref past, .int (nI o), .int (nI u)], ob now 2 (mf nh s), ia G nh 4 (fN (sh 7 s)), ob cr 1 [.ref ck, .ref cl, .ref ce, .int (nI sz)], ia G ck 6 fk, ia G cl 6 fl, ia G ce 6 fe, ob fo 2 (mf fh t2_2), ia G fh 4 (fN (sh 7 t2_2)), ca G lt 80 (fN tau), ob gu 1 [.ref gk, .ref gl, .ref ge, .int (nI sz2_3)], ia G gk 6 fk2_4, ia G gl 6 fl2_5, ia G ge 6 fe2_6]) [10] [0, 1, 2, 3, 4, 5, 6, 7, 8, 9, 11, 12, 13, 14, 15] [0, 1, 2, 3, 4, 5, 6, 7, 8, 9, 15, 10, 11, 12, 13, 14] ⟨rfl, rfl, rfl, fun _ => rfl⟩ 0 rfl rfl rfl rfl ⟨Nat.le_refl _, Nat.le_refl _⟩ dX6_bridge_28 rfl (fun  u28 hw28 => ?_)
    refine z_iload_n hX 1 dX6_bridge_31 rfl ?_
    refine zn_if_ne (tgt := 40) hX dX6_bridge_32 (by decide) (by omega) (fun _ => ?_) (fun c32 => absurd c32 (by omega))
    refine z_aload_n hX 2 dX6_bridge_40 rfl ?_
    refine z_get (v := .ref w) hX fX6 0 0 rfl rfl (Nat.le_of_ble_eq_true rfl) fl_X6_10 rfl dX6_bridge_41 ?_
    refine z_aload_n hX 2 dX6_bridge_44 rfl ?_
    refine z_get (v := .ref fo) hX fX6 0 5 rfl rfl (Nat.le_of_ble_eq_true rfl) fl_X6_40 rfl dX6_bridge_45 ?_
    refine z_aload_n hX 2 dX6_bridge_48 rfl ?_
    refine z_get (v := .ref gu) hX fX6 0 6 rfl rfl (Nat.le_of_ble_eq_true rfl) fl_X6_47 rfl dX6_bridge_49 ?_
    refine z_callVv (st := []) hX (c_X5_begin _ G w now nh past o u s cr ck cl ce sz fk fl fe fo fh t2_2 gu gk gl ge sz2_3 fk2_4 fl2_5 fe2_6 ) lb_X5_begin ml_X6_146 (fun (_u : Unit) => [ob x 6 [.ref w, .ref kw, .int (nI ik), .ref tp, .ref sx, .ref fo, .ref gu, .ref ch], ob w 5 [.ref now, .ref cr, .ref past, .int (nI 0), .int (nI 0)], ob now 2 (mf nh (begS t2_2 s)), ia G nh 4 (fN (sh 7 (begS t2_2 s))), ob cr 1 [.ref ck, .ref cl, .ref ce, .int (nI sz2_3)], ia G ck 6 fk2_4, ia G cl 6 fl2_5, ia G ce 6 fe2_6, ob fo 2 (mf fh t2_2), ia G fh 4 (fN (sh 7 t2_2)), ob tp 4 [.ref lt, .int (nI 0), .int (nI 0)], ca G lt 80 (fN tau), ob gu 1 [.ref gk, .ref gl, .ref ge, .int (nI sz2_3)], ia G gk 6 fk2_4, ia G gl 6 fl2_5, ia G ge 6 fe2_6]) (wr := [ob x 6 [.ref w, .ref kw, .int (nI ik), .ref tp, .ref sx, .ref fo, .ref gu, .ref ch], ob tp 4 [.ref lt, .int (nI 0), .int (nI 0)], ca G lt 80 (fN tau)]) [1, 2, 3, 4, 5, 6, 7, 8, 9, 12, 13, 14, 15] [0, 10, 11] [0, 3, 4, 5, 6, 7, 8, 9, 10, 11, 1, 2, 12, 13, 14, 15] ⟨rfl, rfl, rfl, fun _ => rfl⟩ 0 rfl rfl rfl rfl ⟨Nat.le_refl _, Nat.le_refl _⟩ dX6_bridge_52 rfl (fun  u52 hw52 => ?_)
    refine z_aload_n hX 2 dX6_bridge_55 rfl ?_
    refine z_get (v := .ref w) hX fX6 0 0 rfl rfl (Nat.le_of_ble_eq_true rfl) fl_X6_10 rfl dX6_bridge_56 ?_
    refine z_get (v := .ref cr) hX fX5 1 1 rfl rfl (Nat.le_of_ble_eq_true rfl) fl_X6_66 rfl dX6_bridge_59 ?_
    refine z_get (v := .int (nI sz2_3)) hX fX1 4 3 rfl rfl (Nat.le_of_ble_eq_true rfl) fl_X6_80 rfl dX6_bridge_62 ?_
    have e0 : okBr tau m = true := decide_eq_true b12
    refine z_moext 2 3 (s := begS t2_2 s) (t := brS s (brB tau m)) rfl rfl (begS_brS g2 g4) (ws' := [ob x 6 [.ref w, .ref kw, .int (nI ik), .ref tp, .ref sx, .ref fo, .ref gu, .ref ch], ob w 5 [.ref now, .ref cr, .ref past, .int (nI 0), .int (nI 0)], ob now 2 (mf nh (brS s (brB tau m))), ia G nh 4 (fN (sh 7 (brS s (brB tau m)))), ob cr 1 [.ref ck, .ref cl, .ref ce, .int (nI sz2_3)], ia G ck 6 fk2_4, ia G cl 6 fl2_5, ia G ce 6 fe2_6, ob fo 2 (mf fh t2_2), ia G fh 4 (fN (sh 7 t2_2)), ob tp 4 [.ref lt, .int (nI 0), .int (nI 0)], ca G lt 80 (fN tau), ob gu 1 [.ref gk, .ref gl, .ref ge, .int (nI sz2_3)], ia G gk 6 fk2_4, ia G gl 6 fl2_5, ia G ge 6 fe2_6]) rfl ?_
    rw [e0] at hR
    exact hR _ (sz2_3, fk2_4, fl2_5, fe2_6, t2_2, sz2_3, fk2_4, fl2_5, fe2_6) _ _ ⟨(by unfold spBridge; rw [if_pos e0, g3]), CR_brS (by rw [← g3]; exact g5), g3⟩ dX6_bridge_65 rfl
  · obtain rfl := hw12.2 b12
    dsimp only at hw12x
    have gp := hw12x.2 b12
    refine z_istore_n (L' := [(1, .int (nI 0)), (0, .ref x)]) hX dX6_bridge_15 (Nat.le_of_ble_eq_true rfl) rfl ?_
    refine z_aload_n hX 1 dX6_bridge_16 rfl ?_
    refine z_get (v := .ref tp) hX fX6 0 3 rfl rfl (Nat.le_of_ble_eq_true rfl) fl_X6_26 rfl dX6_bridge_17 ?_
    refine z_get (v := .int (nI p2_1)) hX fX4 10 2 rfl rfl (Nat.le_of_ble_eq_true rfl) fl_X6_140 rfl dX6_bridge_20 ?_
    refine z_istore_n (L' := [(2, .int (nI p2_1)), (1, .int (nI 0)), (0, .ref x)]) hX dX6_bridge_23 (Nat.le_of_ble_eq_true rfl) rfl ?_
    refine z_aload_n hX 2 dX6_bridge_24 rfl ?_
    refine z_get (v := .ref tp) hX fX6 0 3 rfl rfl (Nat.le_of_ble_eq_true rfl) fl_X6_26 rfl dX6_bridge_25 ?_
    refine z_callVv (st := []) hX (c_X4_clear _ G tp lt m p2_1 ) lb_X4_clear ml_X6_143 (fun (_u : Unit) => [ob x 6 [.ref w, .ref kw, .int (nI ik), .ref tp, .ref sx, .ref fo, .ref gu, .ref ch], ob w 5 [.ref now, .ref cr, .ref past, .int (nI o), .int (nI u)], ob now 2 (mf nh s), ia G nh 4 (fN (sh 7 s)), ob cr 1 [.ref ck, .ref cl, .ref ce, .int (nI sz)], ia G ck 6 fk, ia G cl 6 fl, ia G ce 6 fe, ob fo 2 (mf fh t2_2), ia G fh 4 (fN (sh 7 t2_2)), ob tp 4 [.ref lt, .int (nI 0), .int (nI 0)], ca G lt 80 (fN tau), ob gu 1 [.ref gk, .ref gl, .ref ge, .int (nI sz2_3)], ia G gk 6 fk2_4, ia G gl 6 fl2_5, ia G ge 6 fe2_6]) (wr := [ob x 6 [.ref w, .ref kw, .int (nI ik), .ref tp, .ref sx, .ref fo, .ref gu, .ref ch], ob w 5 [.ref now, .ref cr, .ref past, .int (nI o), .int (nI u)], ob now 2 (mf nh s), ia G nh 4 (fN (sh 7 s)), ob cr 1 [.ref ck, .ref cl, .ref ce, .int (nI sz)], ia G ck 6 fk, ia G cl 6 fl, ia G ce 6 fe, ob fo 2 (mf fh t2_2), ia G fh 4 (fN (sh 7 t2_2)), ca G lt 80 (fN tau), ob gu 1 [.ref gk, .ref gl, .ref ge, .int (nI sz2_3)], ia G gk 6 fk2_4, ia G gl 6 fl2_5, ia G ge 6 fe2_6]) [10] [0, 1, 2, 3, 4, 5, 6, 7, 8, 9, 11, 12, 13, 14, 15] [0, 1, 2, 3, 4, 5, 6, 7, 8, 9, 15, 10, 11, 12, 13, 14] ⟨rfl, rfl, rfl, fun _ => rfl⟩ 0 rfl rfl rfl rfl ⟨Nat.le_refl _, Nat.le_refl _⟩ dX6_bridge_28 rfl (fun  u28 hw28 => ?_)
    refine z_iload_n hX 1 dX6_bridge_31 rfl ?_
    refine zn_if_ne (tgt := 40) hX dX6_bridge_32 (by decide) (by omega) (fun c32 => absurd c32 (by omega)) (fun _ => ?_)
    refine z_bipush (v := (-20)) hX dX6_bridge_35 (by decide) ?_
    refine z_iload_n hX 0 dX6_bridge_37 rfl ?_
    refine z_isub (v := (-20 - nI p2_1)) hX dX6_bridge_38 rfl ?_
    have e0 : okBr tau m = false := decide_eq_false b12
    rw [e0] at hR
    exact hR _ (sz, fk, fl, fe, t2_2, sz2_3, fk2_4, fl2_5, fe2_6) _ _ ⟨(by unfold spBridge; rw [if_neg (by rw [e0]; decide), gp]), h1, h2⟩ dX6_bridge_39 rfl
