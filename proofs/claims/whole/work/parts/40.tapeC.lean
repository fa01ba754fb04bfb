theorem crS_ok {τ : nst} {m P0 : Nat} (h1 : P0 ≤ m) (h2 : skp τ m P0 = P0) : ∀ i, (crS τ m P0 i).1 ≤ 2 ∧ (crS τ m P0 i).2.1 ≤ m ∧ skp τ m (crS τ m P0 i).2.1 = (crS τ m P0 i).2.1 ∧ (crS τ m P0 i).2.2.1 ≤ i ∧ ((crS τ m P0 i).1 = 1 → (crS τ m P0 i).2.2.1 = i) ∧ ∀ j, j < (crS τ m P0 i).2.2.1 → (crS τ m P0 i).2.2.2 (3 * j) ≤ 4 ∧ (crS τ m P0 i).2.2.2 (3 * j + 1) < 64 ∧ 1 ≤ (crS τ m P0 i).2.2.2 (3 * j + 2) ∧ (crS τ m P0 i).2.2.2 (3 * j + 2) ≤ 9
  | 0 => ⟨by show 1 ≤ 2; omega, h1, h2, Nat.le_refl _, fun _ => rfl, fun j hj => absurd hj (Nat.not_lt_zero _)⟩
  | i + 1 => by
    obtain ⟨a1, a2, a3, a4, a5, a6⟩ := crS_ok h1 h2 i
    have hq : ¬ (i ≠ 0 ∧ chr τ m (crS τ m P0 i).2.1 ≠ 44) → (if i = 0 then (crS τ m P0 i).2.1 else skp τ m ((crS τ m P0 i).2.1 + 1)) ≤ m ∧ skp τ m (if i = 0 then (crS τ m P0 i).2.1 else skp τ m ((crS τ m P0 i).2.1 + 1)) = (if i = 0 then (crS τ m P0 i).2.1 else skp τ m ((crS τ m P0 i).2.1 + 1)) := by
      intro c
      split
      · exact ⟨a2, a3⟩
      · rename_i c2
        have c3 : chr τ m (crS τ m P0 i).2.1 = 44 := by
          by_cases e : chr τ m (crS τ m P0 i).2.1 = 44
          · exact e
          · exact absurd ⟨c2, e⟩ c
        have := chr_lt (τ := τ) (m := m) (p := (crS τ m P0 i).2.1) (by omega)
        exact ⟨skp_hi (Nat.le_refl _) (by omega), skp_id _ _ _⟩
    rw [crS]
    generalize (if i = 0 then (crS τ m P0 i).2.1 else skp τ m ((crS τ m P0 i).2.1 + 1)) = Q at hq ⊢
    split
    · rename_i c
      exact ⟨a1, a2, a3, by omega, fun z => absurd z c, a6⟩
    · rename_i c1
      split
      · exact ⟨by show 2 ≤ 2; omega, a2, a3, by show (crS τ m P0 i).2.2.1 ≤ i + 1; omega, fun z => absurd (show (2 : Nat) = 1 from z) (by decide), a6⟩
      · rename_i c
        obtain ⟨q1, q2⟩ := hq c
        split
        · refine ⟨Nat.zero_le _, ?_, ?_, by show (crS τ m P0 i).2.2.1 ≤ i + 1; omega, fun z => absurd (show (0 : Nat) = 1 from z) (by decide), a6⟩
          · show tvF τ m Q ≤ m
            unfold tvF
            split
            · exact q1
            · rename_i c9
              have := kdN_lt c9
              exact skp_hi (Nat.le_refl _) (by omega)
          · show skp τ m (tvF τ m Q) = tvF τ m Q
            unfold tvF
            split
            · exact q2
            · exact skp_id _ _ _
        · rename_i c9
          have c9 : tvOk τ m Q = 2 := by
            by_cases e : tvOk τ m Q = 2
            · exact e
            · exact absurd e c9
          have r := ris_ok τ m 6 (skp τ m (skp τ m (Q + 1) + 1)) 0 (by omega) (tv_m c9) (skp_id _ _ _) (by omega)
          have d : 49 ≤ chr τ m (skp τ m (Q + 1)) ∧ chr τ m (skp τ m (Q + 1)) ≤ 57 := by
            unfold tvOk at c9
            split at c9
            · exact absurd c9 (by decide)
            · split at c9
              · assumption
              · exact absurd c9 (by decide)
          have hc : (crS τ m P0 i).2.2.1 = i := a5 (by omega)
          refine ⟨by show 1 ≤ 2; omega, r.1, r.2.1, Nat.le_refl _, fun _ => rfl, fun j hj => ?_⟩
          dsimp only at hj ⊢
          have k5 := kdN_hi (chr τ m Q)
          by_cases e : j = i
          · subst e
            rw [up_ne (by omega), up_ne (by omega), up_eq, up_ne (by omega), up_eq, up_eq]
            exact ⟨by omega, r.2.2, by omega, by omega⟩
          · rw [up_ne (by omega), up_ne (by omega), up_ne (by omega), up_ne (by omega), up_ne (by omega), up_ne (by omega), up_ne (by omega), up_ne (by omega), up_ne (by omega)]
            exact a6 j (by omega)
/-- what a BRIDGE's reading gives -/
def okB (m : Nat) (x : Nat × Nat × Nat × Nat × nst × nst) : Prop := x.1 ≤ 1 ∧ x.2.1 ≤ m ∧ x.2.2.1 < 64 ∧ x.2.2.2.1 ≤ 6 ∧ (∀ j, j < x.2.2.2.1 → x.2.2.2.2.1 (3 * j) ≤ 4 ∧ x.2.2.2.2.1 (3 * j + 1) < 64 ∧ 1 ≤ x.2.2.2.2.1 (3 * j + 2) ∧ x.2.2.2.2.1 (3 * j + 2) ≤ 9) ∧ ∀ j, x.2.2.2.2.2 j ≤ 40
theorem finB_ok {τ : nst} {m P L n : Nat} {A st : nst} (h : okB m (1, P, L, n, A, st)) : okB m (finB τ m P L n A st) := by
  unfold finB
  split
  · exact h
  · exact ⟨Nat.zero_le _, h.2⟩
theorem crB_ok {τ : nst} {m P L : Nat} {st : nst} (h1 : P ≤ m) (h3 : L < 64) (h4 : ∀ j, st j ≤ 40) : okB m (crB τ m P L st) := by
  unfold crB
  split
  · rename_i c
    have hp := chr_lt (τ := τ) (m := m) (p := P) (by omega)
    obtain ⟨a1, a2, a3, a4, a5, a6⟩ := crS_ok (τ := τ) (m := m) (P0 := skp τ m (P + 1)) (skp_hi (Nat.le_refl _) (by omega)) (skp_id _ _ _) 6
    split
    · exact ⟨Nat.zero_le _, a2, h3, Nat.zero_le _, fun j hj => absurd hj (Nat.not_lt_zero _), h4⟩
    · exact finB_ok ⟨Nat.le_refl _, a2, h3, a4, a6, h4⟩
  · exact finB_ok ⟨Nat.le_refl _, h1, h3, Nat.zero_le _, fun j hj => absurd hj (Nat.not_lt_zero _), h4⟩
theorem brB_ok (τ : nst) (m : Nat) : okB m (brB τ m) := by
  obtain ⟨a1, a2, a3, a4⟩ := hpS_ok τ m 4
  unfold brB
  split
  · exact ⟨Nat.zero_le _, a2, Nat.zero_lt_succ _, Nat.zero_le _, fun j hj => absurd hj (Nat.not_lt_zero _), a4⟩
  · split
    · rename_i c
      have hp := chr_lt (τ := τ) (m := m) (p := (hpS τ m 4).2.1) (by omega)
      obtain ⟨r1, r2, r3⟩ := ris_ok τ m 6 (skp τ m ((hpS τ m 4).2.1 + 1)) 0 (by omega) (skp_hi (Nat.le_refl _) (by omega)) (skp_id _ _ _) (by omega)
      split
      · exact ⟨Nat.zero_le _, r1, Nat.zero_lt_succ _, Nat.zero_le _, fun j hj => absurd hj (Nat.not_lt_zero _), a4⟩
      · exact crB_ok r1 r3 a4
    · exact crB_ok a2 (by omega) a4
theorem br_h0 {τ : nst} {m : Nat} (h : ¬ (hpS τ m 4).1 = 1) : brB τ m = (0, (hpS τ m 4).2.1, 0, 0, (fun _ => 0), (hpS τ m 4).2.2) := by
  have := (hpS_ok τ m 4).1
  unfold brB
  rw [if_pos (by omega)]
theorem br_L0 {τ : nst} {m : Nat} (h : (hpS τ m 4).1 = 1) (h2 : chr τ m (hpS τ m 4).2.1 = 33) (h3 : (ris τ m 6 (skp τ m ((hpS τ m 4).2.1 + 1)) 0).2 = 0) : brB τ m = (0, (ris τ m 6 (skp τ m ((hpS τ m 4).2.1 + 1)) 0).1, 0, 0, (fun _ => 0), (hpS τ m 4).2.2) := by
  unfold brB
  rw [if_neg (by omega), if_pos h2, if_pos h3]
theorem br_L {τ : nst} {m : Nat} (h : (hpS τ m 4).1 = 1) (h2 : chr τ m (hpS τ m 4).2.1 = 33) (h3 : ¬ (ris τ m 6 (skp τ m ((hpS τ m 4).2.1 + 1)) 0).2 = 0) : brB τ m = crB τ m (ris τ m 6 (skp τ m ((hpS τ m 4).2.1 + 1)) 0).1 (ris τ m 6 (skp τ m ((hpS τ m 4).2.1 + 1)) 0).2 (hpS τ m 4).2.2 := by
  unfold brB
  rw [if_neg (by omega), if_pos h2, if_neg h3]
theorem br_N {τ : nst} {m : Nat} (h : (hpS τ m 4).1 = 1) (h2 : ¬ chr τ m (hpS τ m 4).2.1 = 33) : brB τ m = crB τ m (hpS τ m 4).2.1 0 (hpS τ m 4).2.2 := by
  unfold brB
  rw [if_neg (by omega), if_neg h2]
theorem cb_0 {τ : nst} {m P L : Nat} {st : nst} (h : chr τ m P = 59) (h2 : (crS τ m (skp τ m (P + 1)) 6).1 = 0) : crB τ m P L st = (0, (crS τ m (skp τ m (P + 1)) 6).2.1, L, 0, (fun _ => 0), st) := by
  unfold crB
  rw [if_pos h, if_pos h2]
theorem cb_1 {τ : nst} {m P L : Nat} {st : nst} (h : chr τ m P = 59) (h2 : ¬ (crS τ m (skp τ m (P + 1)) 6).1 = 0) : crB τ m P L st = finB τ m (crS τ m (skp τ m (P + 1)) 6).2.1 L (crS τ m (skp τ m (P + 1)) 6).2.2.1 (crS τ m (skp τ m (P + 1)) 6).2.2.2 st := by
  unfold crB
  rw [if_pos h, if_neg h2]
theorem cb_n {τ : nst} {m P L : Nat} {st : nst} (h : ¬ chr τ m P = 59) : crB τ m P L st = finB τ m P L 0 (fun _ => 0) st := by
  unfold crB
  rw [if_neg h]
theorem fb_1 {τ : nst} {m P L n : Nat} {A st : nst} (h : chr τ m P = 0) : finB τ m P L n A st = (1, P, L, n, A, st) := by
  unfold finB
  rw [if_pos h]
theorem fb_0 {τ : nst} {m P L n : Nat} {A st : nst} (h : ¬ chr τ m P = 0) : finB τ m P L n A st = (0, P, L, n, A, st) := by
  unfold finB
  rw [if_neg h]
set_option maxRecDepth 100000 in
set_option maxHeartbeats 4000000 in
theorem c_X4_reads (l : Launch) (G : zG) (q9 t9 : Nat) (ta : Nat) (lt : Nat) (m : Nat) (pl : Nat) (tau : nst) (mo : Nat) (mh : Nat) (t : nst) (cro : Nat) (ck : Nat) (cl : Nat) (ce : Nat) (sz : Nat) (fk : Nat → Int32) (fl : Nat → Int32) (fe : Nat → Int32) (h0 : ∀ j, j < m → 32 ≤ tau j ∧ tau j ≤ 126) (h1 : m ≤ 80) : zSMi l G q9 t9 yX4_reads cX4_reads 3 .boolean 6 0 0 136 [.ref ta, .ref mo, .ref cro] [ob ta 4 [.ref lt, .int (nI m), .int (nI pl)], ca G lt 80 (fN tau), ob mo 2 (mf mh t), ia G mh 4 (fN (sh 7 t)), ob cro 1 [.ref ck, .ref cl, .ref ce, .int (nI sz)], ia G ck 6 fk, ia G cl 6 fl, ia G ce 6 fe] (fun (r : Int32) (_u : Nat × nst × Nat × (Nat → Int32) × (Nat → Int32) × (Nat → Int32)) => (zb ((brB tau m).1 = 1) r) ∧ ((brB tau m).1 = 1 → _u.2.1 2 = (brB tau m).2.2.1 ∧ _u.2.2.1 = (brB tau m).2.2.2.1 ∧ (∀ j, j < 4 → _u.2.1 (7 + j) = (brB tau m).2.2.2.2.2 j) ∧ ∀ j, j < _u.2.2.1 → _u.2.2.2.1 j = nI ((brB tau m).2.2.2.2.1 (3 * j)) ∧ _u.2.2.2.2.1 j = nI ((brB tau m).2.2.2.2.1 (3 * j + 1)) ∧ _u.2.2.2.2.2 j = nI ((brB tau m).2.2.2.2.1 (3 * j + 2))) ∧ (¬ (brB tau m).1 = 1 → _u.1 = (brB tau m).2.1)) (fun (_u : Nat × nst × Nat × (Nat → Int32) × (Nat → Int32) × (Nat → Int32)) => [ob ta 4 [.ref lt, .int (nI m), .int (nI _u.1)], ca G lt 80 (fN tau), ob mo 2 (mf mh _u.2.1), ia G mh 4 (fN (sh 7 _u.2.1)), ob cro 1 [.ref ck, .ref cl, .ref ce, .int (nI _u.2.2.1)], ia G ck 6 _u.2.2.2.1, ia G cl 6 _u.2.2.2.2.1, ia G ce 6 _u.2.2.2.2.2]) := by
  refine zSMi.of (by decide) rfl (fun X A H0 hX hXl hT hR => ?_)
  show Z (X, G, A, H0, 3) 0 0 [ob ta 4 [.ref lt, .int (nI m), .int (nI pl)], ca G lt 80 (fN tau), ob mo 2 (mf mh t), ia G mh 4 (fN (sh 7 t)), ob cro 1 [.ref ck, .ref cl, .ref ce, .int (nI sz)], ia G ck 6 fk, ia G cl 6 fl, ia G ce 6 fe] 0 [(0, .ref ta), (1, .ref mo), (2, .ref cro)] []
  subst hXl
  refine z_aload_n hX 0 dX4_reads_0 rfl ?_
  refine z_iconst (v := nI 0) hX dX4_reads_1 (by decide) ?_
  refine z_put (v := .int (nI 0)) (ws' := [ob ta 4 [.ref lt, .int (nI m), .int (nI 0)], ca G lt 80 (fN tau), ob mo 2 (mf mh t), ia G mh 4 (fN (sh 7 t)), ob cro 1 [.ref ck, .ref cl, .ref ce, .int (nI sz)], ia G ck 6 fk, ia G cl 6 fl, ia G ce 6 fe]) hX fX4 0 2 rfl rfl (Nat.le_of_ble_eq_true rfl) fl_X4_19 rfl rfl rfl rfl rfl dX4_reads_2 ?_
  refine z_aload_n hX 1 dX4_reads_5 rfl ?_
  refine z_iconst (v := nI 0) hX dX4_reads_6 (by decide) ?_
  refine z_putM (v := 0) (ws' := [ob ta 4 [.ref lt, .int (nI m), .int (nI 0)], ca G lt 80 (fN tau), ob mo 2 (mf mh (va_up t 2 0)), ia G mh 4 (fN (sh 7 (va_up t 2 0))), ob cro 1 [.ref ck, .ref cl, .ref ce, .int (nI sz)], ia G ck 6 fk, ia G cl 6 fl, ia G ce 6 fe]) hX 2 3 1 2 rfl rfl rfl rfl rfl fl_X4_26 rfl rfl rfl rfl dX4_reads_7 ?_
  refine z_aload_n hX 2 dX4_reads_10 rfl ?_
  refine z_iconst (v := nI 0) hX dX4_reads_11 (by decide) ?_
  refine z_put (v := .int (nI 0)) (ws' := [ob ta 4 [.ref lt, .int (nI m), .int (nI 0)], ca G lt 80 (fN tau), ob mo 2 (mf mh (va_up t 2 0)), ia G mh 4 (fN (sh 7 (va_up t 2 0))), ob cro 1 [.ref ck, .ref cl, .ref ce, .int (nI 0)], ia G ck 6 fk, ia G cl 6 fl, ia G ce 6 fe]) hX fX1 4 3 rfl rfl (Nat.le_of_ble_eq_true rfl) fl_X4_31 rfl rfl rfl rfl rfl dX4_reads_12 ?_
  refine z_aload_n hX 0 dX4_reads_15 rfl ?_
  refine z_aload_n hX 1 dX4_reads_16 rfl ?_
  refine z_callVi (st := []) hX (c_X4_readsHeaps _ G ta lt m tau mo mh (va_up t 2 0) h0 h1) lb_X4_readsHeaps ml_X4_36 (fun (_u : Nat × nst) => [ob ta 4 [.ref lt, .int (nI m), .int (nI _u.1)], ca G lt 80 (fN tau), ob mo 2 (mf mh _u.2), ia G mh 4 (fN (sh 7 _u.2)), ob cro 1 [.ref ck, .ref cl, .ref ce, .int (nI 0)], ia G ck 6 fk, ia G cl 6 fl, ia G ce 6 fe]) (wr := [ob cro 1 [.ref ck, .ref cl, .ref ce, .int (nI 0)], ia G ck 6 fk, ia G cl 6 fl, ia G ce 6 fe]) [0, 1, 2, 3] [4, 5, 6, 7] [4, 5, 6, 7, 0, 1, 2, 3] ⟨rfl, rfl, rfl, fun _ => rfl⟩ 0 rfl rfl rfl rfl ⟨Nat.le_refl _, Nat.le_refl _⟩ dX4_reads_17 rfl (fun r17 u17 hw17 => ?_)
  obtain ⟨p2_1, t2_2⟩ := u17
  obtain ⟨hw17, hw17x⟩ := hw17
  try dsimp only at hw17
  rcases Classical.em ((hpS tau m 4).1 = 1) with b17 | b17
  · obtain rfl := hw17.1 b17
    dsimp only at hw17x
    have hk1 := hw17x.2.2
    obtain ⟨sp1, hs1⟩ := hw17x.1 b17
    obtain ⟨-, g2, g3, g4⟩ := hpS_ok tau m 4
    have k1 := skp_lo tau m p2_1
    have k2 := chr_hi h0 (skp tau m p2_1)
    have k3 : p2_1 ≤ 80 := by omega
    refine zn_if_ne (tgt := 25) hX dX4_reads_20 (by decide) (by omega) (fun _ => ?_) (fun c20 => absurd c20 (by omega))
    refine z_aload_n hX 0 dX4_reads_25 rfl ?_
    refine z_bipush (v := nI 33) hX dX4_reads_26 (by decide) ?_
    refine z_callVi (st := []) hX (c_X4_passes _ G ta lt m p2_1 tau 33 h0 h1 k3 (by omega) (by omega)) lb_X4_passes ml_X4_40 (fun (_u : Nat) => [ob ta 4 [.ref lt, .int (nI m), .int (nI _u)], ca G lt 80 (fN tau), ob mo 2 (mf mh t2_2), ia G mh 4 (fN (sh 7 t2_2)), ob cro 1 [.ref ck, .ref cl, .ref ce, .int (nI 0)], ia G ck 6 fk, ia G cl 6 fl, ia G ce 6 fe]) (wr := [ob mo 2 (mf mh t2_2), ia G mh 4 (fN (sh 7 t2_2)), ob cro 1 [.ref ck, .ref cl, .ref ce, .int (nI 0)], ia G ck 6 fk, ia G cl 6 fl, ia G ce 6 fe]) [0, 1] [2, 3, 4, 5, 6, 7] [6, 7, 0, 1, 2, 3, 4, 5] ⟨rfl, rfl, rfl, fun _ => rfl⟩ 0 rfl rfl rfl rfl ⟨Nat.le_refl _, Nat.le_refl _⟩ dX4_reads_28 rfl (fun r28 u28 hw28 => ?_)
    obtain ⟨p2_3, rfl⟩ : ∃ z9, z9 = u28 := ⟨_, rfl⟩
    obtain ⟨hw28, hw28x⟩ := hw28
    try dsimp only at hw28
    rcases Classical.em (chr tau m (skp tau m p2_1) = 33) with b28 | b28
    · obtain rfl := hw28.1 b28
      have ep28 := hw28x.1 b28
      subst ep28
      have lt28 : skp tau m p2_1 < m := chr_lt (τ := tau) (by omega)
      rw [sp1] at b28
      refine zn_if_eq (tgt := 51) hX dX4_reads_31 (by decide) (by omega) (fun c31 => absurd c31 (by omega)) (fun _ => ?_)
      refine z_aload_n hX 1 dX4_reads_34 rfl ?_
      refine z_aload_n hX 0 dX4_reads_35 rfl ?_
      refine z_callVi (st := [.ref mo]) hX (c_X4_risingLooks _ G ta lt m (skp tau m p2_1 + 1) tau h0 h1 (by omega)) lb_X4_risingLooks ml_X4_44 (fun (_u : Nat) => [ob ta 4 [.ref lt, .int (nI m), .int (nI _u)], ca G lt 80 (fN tau), ob mo 2 (mf mh t2_2), ia G mh 4 (fN (sh 7 t2_2)), ob cro 1 [.ref ck, .ref cl, .ref ce, .int (nI 0)], ia G ck 6 fk, ia G cl 6 fl, ia G ce 6 fe]) (wr := [ob mo 2 (mf mh t2_2), ia G mh 4 (fN (sh 7 t2_2)), ob cro 1 [.ref ck, .ref cl, .ref ce, .int (nI 0)], ia G ck 6 fk, ia G cl 6 fl, ia G ce 6 fe]) [0, 1] [2, 3, 4, 5, 6, 7] [6, 7, 0, 1, 2, 3, 4, 5] ⟨rfl, rfl, rfl, fun _ => rfl⟩ 0 rfl rfl rfl rfl ⟨Nat.le_refl _, Nat.le_refl _⟩ dX4_reads_36 rfl (fun r36 u36 hw36 => ?_)
      obtain ⟨p2_4, rfl⟩ : ∃ z9, z9 = u36 := ⟨_, rfl⟩
      try dsimp only at hw36
      rw [sp1] at hw36
      obtain ⟨hr36, sp3, hz36⟩ := hw36
      obtain rfl : r36 = nI (ris tau m 6 (skp tau m ((hpS tau m 4).2.1 + 1)) 0).2 := hr36
      obtain ⟨i1, i2, i3⟩ := ris_ok tau m 6 (skp tau m ((hpS tau m 4).2.1 + 1)) 0 (by omega) (skp_hi (Nat.le_refl _) (by rw [← sp1]; omega)) (skp_id _ _ _) (by omega)
      have k4 := skp_lo tau m p2_4
      have k5 : p2_4 ≤ 80 := by omega
      refine z_putM (v := (ris tau m 6 (skp tau m ((hpS tau m 4).2.1 + 1)) 0).2) (ws' := [ob ta 4 [.ref lt, .int (nI m), .int (nI p2_4)], ca G lt 80 (fN tau), ob mo 2 (mf mh (va_up t2_2 2 ((ris tau m 6 (skp tau m ((hpS tau m 4).2.1 + 1)) 0).2))), ia G mh 4 (fN (sh 7 (va_up t2_2 2 ((ris tau m 6 (skp tau m ((hpS tau m 4).2.1 + 1)) 0).2)))), ob cro 1 [.ref ck, .ref cl, .ref ce, .int (nI 0)], ia G ck 6 fk, ia G cl 6 fl, ia G ce 6 fe]) hX 2 3 1 2 rfl rfl rfl rfl rfl fl_X4_26 rfl rfl rfl rfl dX4_reads_39 ?_
      refine z_aload_n hX 1 dX4_reads_42 rfl ?_
      refine z_get (v := .int (nI ((ris tau m 6 (skp tau m ((hpS tau m 4).2.1 + 1)) 0).2))) hX fX2 2 1 rfl rfl (Nat.le_of_ble_eq_true rfl) fl_X4_26 rfl dX4_reads_43 ?_
      refine zn_if_ne (tgt := 51) hX dX4_reads_46 (by decide) (by omega) (fun c46 => ?_) (fun c46 => ?_)
      · have eB := br_L b17 b28 c46
        have k6 := chr_hi h0 (skp tau m p2_4)
        refine z_aload_n hX 0 dX4_reads_51 rfl ?_
        refine z_bipush (v := nI 59) hX dX4_reads_52 (by decide) ?_
        refine z_callVi (st := []) hX (c_X4_passes _ G ta lt m p2_4 tau 59 h0 h1 (by omega) (by omega) (by omega)) lb_X4_passes ml_X4_40 (fun (_u : Nat) => [ob ta 4 [.ref lt, .int (nI m), .int (nI _u)], ca G lt 80 (fN tau), ob mo 2 (mf mh (va_up t2_2 2 ((ris tau m 6 (skp tau m ((hpS tau m 4).2.1 + 1)) 0).2))), ia G mh 4 (fN (sh 7 (va_up t2_2 2 ((ris tau m 6 (skp tau m ((hpS tau m 4).2.1 + 1)) 0).2)))), ob cro 1 [.ref ck, .ref cl, .ref ce, .int (nI 0)], ia G ck 6 fk, ia G cl 6 fl, ia G ce 6 fe]) (wr := [ob mo 2 (mf mh (va_up t2_2 2 ((ris tau m 6 (skp tau m ((hpS tau m 4).2.1 + 1)) 0).2))), ia G mh 4 (fN (sh 7 (va_up t2_2 2 ((ris tau m 6 (skp tau m ((hpS tau m 4).2.1 + 1)) 0).2)))), ob cro 1 [.ref ck, .ref cl, .ref ce, .int (nI 0)], ia G ck 6 fk, ia G cl 6 fl, ia G ce 6 fe]) [0, 1] [2, 3, 4, 5, 6, 7] [6, 7, 0, 1, 2, 3, 4, 5] ⟨rfl, rfl, rfl, fun _ => rfl⟩ 0 rfl rfl rfl rfl ⟨Nat.le_refl _, Nat.le_refl _⟩ dX4_reads_54 rfl (fun r54 u54 hw54 => ?_)
        obtain ⟨p2_5, rfl⟩ : ∃ z9, z9 = u54 := ⟨_, rfl⟩
        obtain ⟨hw54, hw54x⟩ := hw54
        try dsimp only at hw54
        rcases Classical.em (chr tau m (skp tau m p2_4) = 59) with b54 | b54
        · obtain rfl := hw54.1 b54
          have ep54 := hw54x.1 b54
          subst ep54
          have lt54 : skp tau m p2_4 < m := chr_lt (τ := tau) (by omega)
          rw [sp3] at b54
          refine zn_if_eq (tgt := 70) hX dX4_reads_57 (by decide) (by omega) (fun c57 => absurd c57 (by omega)) (fun _ => ?_)
          refine z_aload_n hX 0 dX4_reads_60 rfl ?_
          refine z_aload_n hX 2 dX4_reads_61 rfl ?_
          refine z_scallVi (st := []) hX hT (c_X4_readsCrowd _ G q9 t9 ta lt m (skp tau m p2_4 + 1) tau cro ck cl ce fk fl fe h0 h1 (by omega)) lb_X4_readsCrowd ml_X4_48 (fun (_u : Nat × Nat × (Nat → Int32) × (Nat → Int32) × (Nat → Int32)) => [ob ta 4 [.ref lt, .int (nI m), .int (nI _u.1)], ca G lt 80 (fN tau), ob mo 2 (mf mh (va_up t2_2 2 ((ris tau m 6 (skp tau m ((hpS tau m 4).2.1 + 1)) 0).2))), ia G mh 4 (fN (sh 7 (va_up t2_2 2 ((ris tau m 6 (skp tau m ((hpS tau m 4).2.1 + 1)) 0).2)))), ob cro 1 [.ref ck, .ref cl, .ref ce, .int (nI _u.2.1)], ia G ck 6 _u.2.2.1, ia G cl 6 _u.2.2.2.1, ia G ce 6 _u.2.2.2.2]) (wr := [ob mo 2 (mf mh (va_up t2_2 2 ((ris tau m 6 (skp tau m ((hpS tau m 4).2.1 + 1)) 0).2))), ia G mh 4 (fN (sh 7 (va_up t2_2 2 ((ris tau m 6 (skp tau m ((hpS tau m 4).2.1 + 1)) 0).2))))]) [0, 1, 4, 5, 6, 7] [2, 3] [2, 3, 0, 1, 4, 5, 6, 7] ⟨rfl, rfl, rfl, fun _ => rfl⟩ 0 rfl rfl rfl rfl ⟨Nat.le_refl _, Nat.le_refl _⟩ dX4_reads_62 rfl (fun r62 u62 hw62 => ?_)
          obtain ⟨p2_6, sz2_7, fk2_8, fl2_9, fe2_10⟩ := u62
          obtain ⟨hw62, hw62x⟩ := hw62
          try dsimp only at hw62
          rcases Classical.em (¬ (crS tau m (skp tau m (skp tau m p2_4 + 1)) 6).1 = 0) with b62 | b62
          · obtain rfl := hw62.1 b62
            dsimp only at b62 hw62x
            rw [sp3] at b62 hw62x
            obtain ⟨-, y2, y3, y4, -⟩ := crS_ok (τ := tau) (m := m) (P0 := skp tau m ((ris tau m 6 (skp tau m ((hpS tau m 4).2.1 + 1)) 0).1 + 1)) (skp_hi (Nat.le_refl _) (by rw [← sp3]; omega)) (skp_id _ _ _) 6
            obtain ⟨sp6, e62, -, hA⟩ := hw62x.1 b62
            rw [cb_1 b54 b62] at eB
            have k7 := skp_lo tau m p2_6
            have k8 : p2_6 ≤ 80 := by omega
            have k9 := chr_hi h0 (skp tau m p2_6)
            have sp7 := sp6
            refine zn_if_ne (tgt := 70) hX dX4_reads_65 (by decide) (by omega) (fun _ => ?_) (fun c65 => absurd c65 (by omega))
            refine z_aload_n hX 0 dX4_reads_70 rfl ?_
            refine z_callVi (st := []) hX (c_X4_next _ G ta lt m p2_6 tau h0 h1 k8) lb_X4_next ml_X4_52 (fun (_u : Unit) => [ob ta 4 [.ref lt, .int (nI m), .int (nI (skp tau m p2_6))], ca G lt 80 (fN tau), ob mo 2 (mf mh (va_up t2_2 2 ((ris tau m 6 (skp tau m ((hpS tau m 4).2.1 + 1)) 0).2))), ia G mh 4 (fN (sh 7 (va_up t2_2 2 ((ris tau m 6 (skp tau m ((hpS tau m 4).2.1 + 1)) 0).2)))), ob cro 1 [.ref ck, .ref cl, .ref ce, .int (nI sz2_7)], ia G ck 6 fk2_8, ia G cl 6 fl2_9, ia G ce 6 fe2_10]) (wr := [ob mo 2 (mf mh (va_up t2_2 2 ((ris tau m 6 (skp tau m ((hpS tau m 4).2.1 + 1)) 0).2))), ia G mh 4 (fN (sh 7 (va_up t2_2 2 ((ris tau m 6 (skp tau m ((hpS tau m 4).2.1 + 1)) 0).2)))), ob cro 1 [.ref ck, .ref cl, .ref ce, .int (nI sz2_7)], ia G ck 6 fk2_8, ia G cl 6 fl2_9, ia G ce 6 fe2_10]) [0, 1] [2, 3, 4, 5, 6, 7] [6, 7, 0, 1, 2, 3, 4, 5] ⟨rfl, rfl, rfl, fun _ => rfl⟩ 0 rfl rfl rfl rfl ⟨Nat.le_refl _, Nat.le_refl _⟩ dX4_reads_71 rfl (fun r71 u71 hw71 => ?_)
            subst hw71
            refine zn_if_ne (tgt := 81) hX dX4_reads_74 (by decide) (by omega) (fun c74 => ?_) (fun c74 => ?_)
            · skip
              refine z_iconst (v := nI 0) hX dX4_reads_81 (by decide) ?_
              rw [sp7] at c74
              rw [fb_0 c74] at eB
              rw [eB] at hR
              exact hR _ (skp tau m p2_6, va_up t2_2 2 ((ris tau m 6 (skp tau m ((hpS tau m 4).2.1 + 1)) 0).2), sz2_7, fk2_8, fl2_9, fe2_10) _ _ ⟨⟨fun z9 => absurd (show (0 : Nat) = 1 from z9) (by decide), fun _ => rfl⟩, fun z9 => absurd (show (0 : Nat) = 1 from z9) (by decide), fun _ => sp7⟩ dX4_reads_82 rfl
            · skip
              refine z_iconst (v := nI 1) hX dX4_reads_77 (by decide) ?_
              refine z_goto (tgt := 82) hX dX4_reads_78 (by decide) ?_
              rw [sp7] at c74
              rw [fb_1 c74] at eB
              rw [eB] at hR
              exact hR _ (skp tau m p2_6, va_up t2_2 2 ((ris tau m 6 (skp tau m ((hpS tau m 4).2.1 + 1)) 0).2), sz2_7, fk2_8, fl2_9, fe2_10) _ _ ⟨⟨fun _ => rfl, fun z9 => absurd rfl z9⟩, fun _ => ⟨(by dsimp only; exact up_eq), e62, (fun j9 h9 => by dsimp only; exact (up_ne (by omega)).trans (hs1 j9 h9)), hA⟩, fun z9 => absurd rfl z9⟩ dX4_reads_82 rfl
          · obtain rfl := hw62.2 b62
            dsimp only at b62 hw62x
            rw [sp3] at b62 hw62x
            obtain ⟨-, y2, y3, y4, -⟩ := crS_ok (τ := tau) (m := m) (P0 := skp tau m ((ris tau m 6 (skp tau m ((hpS tau m 4).2.1 + 1)) 0).1 + 1)) (skp_hi (Nat.le_refl _) (by rw [← sp3]; omega)) (skp_id _ _ _) 6
            have b62n := Classical.not_not.mp b62
            have hp0 := hw62x.2 b62n
            rw [cb_0 b54 b62n] at eB
            refine zn_if_ne (tgt := 70) hX dX4_reads_65 (by decide) (by omega) (fun c65 => absurd c65 (by omega)) (fun _ => ?_)
            refine z_iconst (v := nI 0) hX dX4_reads_68 (by decide) ?_
            rw [eB] at hR
            exact hR _ (p2_6, va_up t2_2 2 ((ris tau m 6 (skp tau m ((hpS tau m 4).2.1 + 1)) 0).2), sz2_7, fk2_8, fl2_9, fe2_10) _ _ ⟨⟨fun z9 => absurd (show (0 : Nat) = 1 from z9) (by decide), fun _ => rfl⟩, fun z9 => absurd (show (0 : Nat) = 1 from z9) (by decide), fun _ => hp0⟩ dX4_reads_69 rfl
        · obtain rfl := hw54.2 b54
          have ep54 := hw54x.2 b54
          subst ep54
          rw [sp3] at b54
          rw [cb_n b54] at eB
          refine zn_if_eq (tgt := 70) hX dX4_reads_57 (by decide) (by omega) (fun _ => ?_) (fun c57 => absurd c57 (by omega))
          have sp7 : skp tau m (skp tau m p2_4) = (ris tau m 6 (skp tau m ((hpS tau m 4).2.1 + 1)) 0).1 := by rw [skp_id]; exact sp3
          have k9 := chr_hi h0 (skp tau m (skp tau m p2_4))
          have k8 : (skp tau m p2_4) ≤ 80 := by omega
          refine z_aload_n hX 0 dX4_reads_70 rfl ?_
          refine z_callVi (st := []) hX (c_X4_next _ G ta lt m (skp tau m p2_4) tau h0 h1 k8) lb_X4_next ml_X4_52 (fun (_u : Unit) => [ob ta 4 [.ref lt, .int (nI m), .int (nI (skp tau m (skp tau m p2_4)))], ca G lt 80 (fN tau), ob mo 2 (mf mh (va_up t2_2 2 ((ris tau m 6 (skp tau m ((hpS tau m 4).2.1 + 1)) 0).2))), ia G mh 4 (fN (sh 7 (va_up t2_2 2 ((ris tau m 6 (skp tau m ((hpS tau m 4).2.1 + 1)) 0).2)))), ob cro 1 [.ref ck, .ref cl, .ref ce, .int (nI 0)], ia G ck 6 fk, ia G cl 6 fl, ia G ce 6 fe]) (wr := [ob mo 2 (mf mh (va_up t2_2 2 ((ris tau m 6 (skp tau m ((hpS tau m 4).2.1 + 1)) 0).2))), ia G mh 4 (fN (sh 7 (va_up t2_2 2 ((ris tau m 6 (skp tau m ((hpS tau m 4).2.1 + 1)) 0).2)))), ob cro 1 [.ref ck, .ref cl, .ref ce, .int (nI 0)], ia G ck 6 fk, ia G cl 6 fl, ia G ce 6 fe]) [0, 1] [2, 3, 4, 5, 6, 7] [6, 7, 0, 1, 2, 3, 4, 5] ⟨rfl, rfl, rfl, fun _ => rfl⟩ 0 rfl rfl rfl rfl ⟨Nat.le_refl _, Nat.le_refl _⟩ dX4_reads_71 rfl (fun r71 u71 hw71 => ?_)
          subst hw71
          refine zn_if_ne (tgt := 81) hX dX4_reads_74 (by decide) (by omega) (fun c74 => ?_) (fun c74 => ?_)
          · skip
            refine z_iconst (v := nI 0) hX dX4_reads_81 (by decide) ?_
            rw [sp7] at c74
            rw [fb_0 c74] at eB
            rw [eB] at hR
            exact hR _ (skp tau m (skp tau m p2_4), va_up t2_2 2 ((ris tau m 6 (skp tau m ((hpS tau m 4).2.1 + 1)) 0).2), 0, fk, fl, fe) _ _ ⟨⟨fun z9 => absurd (show (0 : Nat) = 1 from z9) (by decide), fun _ => rfl⟩, fun z9 => absurd (show (0 : Nat) = 1 from z9) (by decide), fun _ => sp7⟩ dX4_reads_82 rfl
          · skip
            refine z_iconst (v := nI 1) hX dX4_reads_77 (by decide) ?_
            refine z_goto (tgt := 82) hX dX4_reads_78 (by decide) ?_
            rw [sp7] at c74
            rw [fb_1 c74] at eB
            rw [eB] at hR
            exact hR _ (skp tau m (skp tau m p2_4), va_up t2_2 2 ((ris tau m 6 (skp tau m ((hpS tau m 4).2.1 + 1)) 0).2), 0, fk, fl, fe) _ _ ⟨⟨fun _ => rfl, fun z9 => absurd rfl z9⟩, fun _ => ⟨(by dsimp only; exact up_eq), rfl, (fun j9 h9 => by dsimp only; exact (up_ne (by omega)).trans (hs1 j9 h9)), (fun j9 h9 => absurd h9 (Nat.not_lt_zero _))⟩, fun z9 => absurd rfl z9⟩ dX4_reads_82 rfl
      · have eB := br_L0 b17 b28 c46
        refine z_iconst (v := nI 0) hX dX4_reads_49 (by decide) ?_
        rw [eB] at hR
        exact hR _ (p2_4, va_up t2_2 2 ((ris tau m 6 (skp tau m ((hpS tau m 4).2.1 + 1)) 0).2), 0, fk, fl, fe) _ _ ⟨⟨fun z9 => absurd (show (0 : Nat) = 1 from z9) (by decide), fun _ => rfl⟩, fun z9 => absurd (show (0 : Nat) = 1 from z9) (by decide), fun _ => hz36 c46⟩ dX4_reads_50 rfl
    · obtain rfl := hw28.2 b28
      have ep28 := hw28x.2 b28
      subst ep28
      rw [sp1] at b28
      have eB := br_N b17 b28
      refine zn_if_eq (tgt := 51) hX dX4_reads_31 (by decide) (by omega) (fun _ => ?_) (fun c31 => absurd c31 (by omega))
      have spx : skp tau m (skp tau m p2_1) = (hpS tau m 4).2.1 := by rw [skp_id]; exact sp1
      have k6 := chr_hi h0 (skp tau m (skp tau m p2_1))
      have i1 := g2
      refine z_aload_n hX 0 dX4_reads_51 rfl ?_
      refine z_bipush (v := nI 59) hX dX4_reads_52 (by decide) ?_
      refine z_callVi (st := []) hX (c_X4_passes _ G ta lt m (skp tau m p2_1) tau 59 h0 h1 (by omega) (by omega) (by omega)) lb_X4_passes ml_X4_40 (fun (_u : Nat) => [ob ta 4 [.ref lt, .int (nI m), .int (nI _u)], ca G lt 80 (fN tau), ob mo 2 (mf mh t2_2), ia G mh 4 (fN (sh 7 t2_2)), ob cro 1 [.ref ck, .ref cl, .ref ce, .int (nI 0)], ia G ck 6 fk, ia G cl 6 fl, ia G ce 6 fe]) (wr := [ob mo 2 (mf mh t2_2), ia G mh 4 (fN (sh 7 t2_2)), ob cro 1 [.ref ck, .ref cl, .ref ce, .int (nI 0)], ia G ck 6 fk, ia G cl 6 fl, ia G ce 6 fe]) [0, 1] [2, 3, 4, 5, 6, 7] [6, 7, 0, 1, 2, 3, 4, 5] ⟨rfl, rfl, rfl, fun _ => rfl⟩ 0 rfl rfl rfl rfl ⟨Nat.le_refl _, Nat.le_refl _⟩ dX4_reads_54 rfl (fun r54 u54 hw54 => ?_)
      obtain ⟨p2_11, rfl⟩ : ∃ z9, z9 = u54 := ⟨_, rfl⟩
      obtain ⟨hw54, hw54x⟩ := hw54
      try dsimp only at hw54
      rcases Classical.em (chr tau m (skp tau m (skp tau m p2_1)) = 59) with b54 | b54
      · obtain rfl := hw54.1 b54
        have ep54 := hw54x.1 b54
        subst ep54
        have lt54 : skp tau m (skp tau m p2_1) < m := chr_lt (τ := tau) (by omega)
        rw [spx] at b54
        refine zn_if_eq (tgt := 70) hX dX4_reads_57 (by decide) (by omega) (fun c57 => absurd c57 (by omega)) (fun _ => ?_)
        refine z_aload_n hX 0 dX4_reads_60 rfl ?_
        refine z_aload_n hX 2 dX4_reads_61 rfl ?_
        refine z_scallVi (st := []) hX hT (c_X4_readsCrowd _ G q9 t9 ta lt m (skp tau m (skp tau m p2_1) + 1) tau cro ck cl ce fk fl fe h0 h1 (by omega)) lb_X4_readsCrowd ml_X4_48 (fun (_u : Nat × Nat × (Nat → Int32) × (Nat → Int32) × (Nat → Int32)) => [ob ta 4 [.ref lt, .int (nI m), .int (nI _u.1)], ca G lt 80 (fN tau), ob mo 2 (mf mh t2_2), ia G mh 4 (fN (sh 7 t2_2)), ob cro 1 [.ref ck, .ref cl, .ref ce, .int (nI _u.2.1)], ia G ck 6 _u.2.2.1, ia G cl 6 _u.2.2.2.1, ia G ce 6 _u.2.2.2.2]) (wr := [ob mo 2 (mf mh t2_2), ia G mh 4 (fN (sh 7 t2_2))]) [0, 1, 4, 5, 6, 7] [2, 3] [2, 3, 0, 1, 4, 5, 6, 7] ⟨rfl, rfl, rfl, fun _ => rfl⟩ 0 rfl rfl rfl rfl ⟨Nat.le_refl _, Nat.le_refl _⟩ dX4_reads_62 rfl (fun r62 u62 hw62 => ?_)
        obtain ⟨p2_12, sz2_13, fk2_14, fl2_15, fe2_16⟩ := u62
        obtain ⟨hw62, hw62x⟩ := hw62
        try dsimp only at hw62
        rcases Classical.em (¬ (crS tau m (skp tau m (skp tau m (skp tau m p2_1) + 1)) 6).1 = 0) with b62 | b62
        · obtain rfl := hw62.1 b62
          dsimp only at b62 hw62x
          rw [spx] at b62 hw62x
          obtain ⟨-, y2, y3, y4, -⟩ := crS_ok (τ := tau) (m := m) (P0 := skp tau m ((hpS tau m 4).2.1 + 1)) (skp_hi (Nat.le_refl _) (by rw [← spx]; omega)) (skp_id _ _ _) 6
          obtain ⟨sp6, e62, -, hA⟩ := hw62x.1 b62
          rw [cb_1 b54 b62] at eB
          have k7 := skp_lo tau m p2_12
          have k8 : p2_12 ≤ 80 := by omega
          have k9 := chr_hi h0 (skp tau m p2_12)
          have sp7 := sp6
          refine zn_if_ne (tgt := 70) hX dX4_reads_65 (by decide) (by omega) (fun _ => ?_) (fun c65 => absurd c65 (by omega))
          refine z_aload_n hX 0 dX4_reads_70 rfl ?_
          refine z_callVi (st := []) hX (c_X4_next _ G ta lt m p2_12 tau h0 h1 k8) lb_X4_next ml_X4_52 (fun (_u : Unit) => [ob ta 4 [.ref lt, .int (nI m), .int (nI (skp tau m p2_12))], ca G lt 80 (fN tau), ob mo 2 (mf mh t2_2), ia G mh 4 (fN (sh 7 t2_2)), ob cro 1 [.ref ck, .ref cl, .ref ce, .int (nI sz2_13)], ia G ck 6 fk2_14, ia G cl 6 fl2_15, ia G ce 6 fe2_16]) (wr := [ob mo 2 (mf mh t2_2), ia G mh 4 (fN (sh 7 t2_2)), ob cro 1 [.ref ck, .ref cl, .ref ce, .int (nI sz2_13)], ia G ck 6 fk2_14, ia G cl 6 fl2_15, ia G ce 6 fe2_16]) [0, 1] [2, 3, 4, 5, 6, 7] [6, 7, 0, 1, 2, 3, 4, 5] ⟨rfl, rfl, rfl, fun _ => rfl⟩ 0 rfl rfl rfl rfl ⟨Nat.le_refl _, Nat.le_refl _⟩ dX4_reads_71 rfl (fun r71 u71 hw71 => ?_)
          subst hw71
          refine zn_if_ne (tgt := 81) hX dX4_reads_74 (by decide) (by omega) (fun c74 => ?_) (fun c74 => ?_)
          · skip
            refine z_iconst (v := nI 0) hX dX4_reads_81 (by decide) ?_
            rw [sp7] at c74
            rw [fb_0 c74] at eB
            rw [eB] at hR
            exact hR _ (skp tau m p2_12, t2_2, sz2_13, fk2_14, fl2_15, fe2_16) _ _ ⟨⟨fun z9 => absurd (show (0 : Nat) = 1 from z9) (by decide), fun _ => rfl⟩, fun z9 => absurd (show (0 : Nat) = 1 from z9) (by decide), fun _ => sp7⟩ dX4_reads_82 rfl
          · skip
            refine z_iconst (v := nI 1) hX dX4_reads_77 (by decide) ?_
            refine z_goto (tgt := 82) hX dX4_reads_78 (by decide) ?_
            rw [sp7] at c74
            rw [fb_1 c74] at eB
            rw [eB] at hR
            exact hR _ (skp tau m p2_12, t2_2, sz2_13, fk2_14, fl2_15, fe2_16) _ _ ⟨⟨fun _ => rfl, fun z9 => absurd rfl z9⟩, fun _ => ⟨(by dsimp only; exact (hk1 2 (by omega)).trans up_eq), e62, hs1, hA⟩, fun z9 => absurd rfl z9⟩ dX4_reads_82 rfl
        · obtain rfl := hw62.2 b62
          dsimp only at b62 hw62x
          rw [spx] at b62 hw62x
          obtain ⟨-, y2, y3, y4, -⟩ := crS_ok (τ := tau) (m := m) (P0 := skp tau m ((hpS tau m 4).2.1 + 1)) (skp_hi (Nat.le_refl _) (by rw [← spx]; omega)) (skp_id _ _ _) 6
          have b62n := Classical.not_not.mp b62
          have hp0 := hw62x.2 b62n
          rw [cb_0 b54 b62n] at eB
          refine zn_if_ne (tgt := 70) hX dX4_reads_65 (by decide) (by omega) (fun c65 => absurd c65 (by omega)) (fun _ => ?_)
          refine z_iconst (v := nI 0) hX dX4_reads_68 (by decide) ?_
          rw [eB] at hR
          exact hR _ (p2_12, t2_2, sz2_13, fk2_14, fl2_15, fe2_16) _ _ ⟨⟨fun z9 => absurd (show (0 : Nat) = 1 from z9) (by decide), fun _ => rfl⟩, fun z9 => absurd (show (0 : Nat) = 1 from z9) (by decide), fun _ => hp0⟩ dX4_reads_69 rfl
      · obtain rfl := hw54.2 b54
        have ep54 := hw54x.2 b54
        subst ep54
        rw [spx] at b54
        rw [cb_n b54] at eB
        refine zn_if_eq (tgt := 70) hX dX4_reads_57 (by decide) (by omega) (fun _ => ?_) (fun c57 => absurd c57 (by omega))
        have sp7 : skp tau m (skp tau m (skp tau m p2_1)) = (hpS tau m 4).2.1 := by rw [skp_id]; exact spx
        have k9 := chr_hi h0 (skp tau m (skp tau m (skp tau m p2_1)))
        have k8 : (skp tau m (skp tau m p2_1)) ≤ 80 := by omega
        refine z_aload_n hX 0 dX4_reads_70 rfl ?_
        refine z_callVi (st := []) hX (c_X4_next _ G ta lt m (skp tau m (skp tau m p2_1)) tau h0 h1 k8) lb_X4_next ml_X4_52 (fun (_u : Unit) => [ob ta 4 [.ref lt, .int (nI m), .int (nI (skp tau m (skp tau m (skp tau m p2_1))))], ca G lt 80 (fN tau), ob mo 2 (mf mh t2_2), ia G mh 4 (fN (sh 7 t2_2)), ob cro 1 [.ref ck, .ref cl, .ref ce, .int (nI 0)], ia G ck 6 fk, ia G cl 6 fl, ia G ce 6 fe]) (wr := [ob mo 2 (mf mh t2_2), ia G mh 4 (fN (sh 7 t2_2)), ob cro 1 [.ref ck, .ref cl, .ref ce, .int (nI 0)], ia G ck 6 fk, ia G cl 6 fl, ia G ce 6 fe]) [0, 1] [2, 3, 4, 5, 6, 7] [6, 7, 0, 1, 2, 3, 4, 5] ⟨rfl, rfl, rfl, fun _ => rfl⟩ 0 rfl rfl rfl rfl ⟨Nat.le_refl _, Nat.le_refl _⟩ dX4_reads_71 rfl (fun r71 u71 hw71 => ?_)
        subst hw71
        refine zn_if_ne (tgt := 81) hX dX4_reads_74 (by decide) (by omega) (fun c74 => ?_) (fun c74 => ?_)
        · skip
          refine z_iconst (v := nI 0) hX dX4_reads_81 (by decide) ?_
          rw [sp7] at c74
          rw [fb_0 c74] at eB
          rw [eB] at hR
          exact hR _ (skp tau m (skp tau m (skp tau m p2_1)), t2_2, 0, fk, fl, fe) _ _ ⟨⟨fun z9 => absurd (show (0 : Nat) = 1 from z9) (by decide), fun _ => rfl⟩, fun z9 => absurd (show (0 : Nat) = 1 from z9) (by decide), fun _ => sp7⟩ dX4_reads_82 rfl
        · skip
          refine z_iconst (v := nI 1) hX dX4_reads_77 (by decide) ?_
          refine z_goto (tgt := 82) hX dX4_reads_78 (by decide) ?_
          rw [sp7] at c74
          rw [fb_1 c74] at eB
          rw [eB] at hR
          exact hR _ (skp tau m (skp tau m (skp tau m p2_1)), t2_2, 0, fk, fl, fe) _ _ ⟨⟨fun _ => rfl, fun z9 => absurd rfl z9⟩, fun _ => ⟨(by dsimp only; exact (hk1 2 (by omega)).trans up_eq), rfl, hs1, (fun j9 h9 => absurd h9 (Nat.not_lt_zero _))⟩, fun z9 => absurd rfl z9⟩ dX4_reads_82 rfl
  · obtain rfl := hw17.2 b17
    dsimp only at hw17x
    have eB := br_h0 b17
    have hp0 := hw17x.2.1 b17
    refine zn_if_ne (tgt := 25) hX dX4_reads_20 (by decide) (by omega) (fun c20 => absurd c20 (by omega)) (fun _ => ?_)
    refine z_iconst (v := nI 0) hX dX4_reads_23 (by decide) ?_
    rw [eB] at hR
    exact hR _ (p2_1, t2_2, 0, fk, fl, fe) _ _ ⟨⟨fun z9 => absurd (show (0 : Nat) = 1 from z9) (by decide), fun _ => rfl⟩, fun z9 => absurd (show (0 : Nat) = 1 from z9) (by decide), fun _ => hp0⟩ dX4_reads_24 rfl
