def okList (s : nst) (l : Int32) : Bool := inb l 0 63 && decide (¬ s 2 = gN l)
def spList (s : nst) (l : Int32) : Int32 := if inb l 0 63 = true then (if s 2 = gN l then -2 else nI (s 2)) else -1
def okMend (s : nst) (a n : Int32) : Bool := inb a 0 3 && inb n 1 40 && decide (s (7 + gN a) < 40)
def spMend (s : nst) (a n : Int32) : Int32 := if inb a 0 3 = true ∧ inb n 1 40 = true then (if s (7 + gN a) < 40 then nI (min 40 (s (7 + gN a) + gN n)) else -2) else -1
def spFlood (s : nst) (n : Int32) : Int32 := if inb n 1 40 = true then nI (holesTo (floodS (gN n) s) 4) else -1
def okSeed (v : Int32) : Bool := decide (¬ v < 0)
def spSeed (s : nst) (v : Int32) : Int32 := if v < 0 then -1 else nI (s 6)
noncomputable def drS (dr : Bool) (s : nst) : nst := cond dr (drawS s) s
noncomputable def lvS (dr : Bool) : Nat → nst → nst
  | 0, s => s
  | n + 1, s => goBy (drS dr (lvS dr n s))
def lvU : Nat → Nat → Nat
  | 0, u => u
  | n + 1, u => pushU (lvU n u)
noncomputable def lvH (dr : Bool) (h : Nat → nst) (s : nst) (u : Nat) : Nat → Nat → nst
  | 0 => h
  | n + 1 => pushH (lvU n u) (lvH dr h s u n) (lvS dr n s)
def okDays (s : nst) (n : Int32) : Bool := inb n 1 40 && decide (s 1 + gN n ≤ 9999)
noncomputable def spDays (dr : Bool) (s : nst) (n : Int32) : Int32 := if inb n 1 40 = true then (if s 1 + gN n ≤ 9999 then nI (lvS dr (gN n) s 5 - s 5) else -3) else -1
theorem pushU_le (u : Nat) : pushU u ≤ 8 ∨ 8 < u := by
  unfold pushU
  split <;> omega
theorem lvU_le {u : Nat} (h : u ≤ 8) : ∀ k, lvU k u ≤ 8
  | 0 => h
  | k + 1 => by
    have h1 := lvU_le h k
    have h2 := pushU_le (lvU k u)
    show pushU (lvU k u) ≤ 8
    omega
theorem drawN_lt (d : Nat) : drawN d < 2147483648 := by
  rw [drawN_eq]
  exact Nat.mod_lt _ (by decide)
theorem drawS_o (s : nst) {i : Nat} (h : i ≠ 2 ∧ i ≠ 6) : drawS s i = s i := by
  unfold drawS
  split
  · rw [up_ne h.1, up_ne h.2]
  · rw [up_ne h.2]
theorem WF_draw {D K : Nat} {s : nst} (h : WF D K s) : WF D K (drawS s) := by
  obtain ⟨h0, h1, h2, h3, h6, h7, h11⟩ := h
  have hd := drawN_lt (s 6)
  unfold WF
  rw [drawS_o s (i := 0) (by omega), drawS_o s (i := 1) (by omega), drawS_o s (i := 3) (by omega), drawS_o s (i := 4) (by omega), drawS_o s (i := 5) (by omega)]
  refine ⟨h0, h1, ?_, h3, ?_, fun a ha => ?_, fun p hp => ?_⟩
  · unfold drawS
    split
    · rw [up_eq]
      exact xor_lt h2 (Nat.mod_lt _ (by decide))
    · rw [up_ne (by omega)]
      exact h2
  · unfold drawS
    split
    · rw [up_ne (by omega), up_eq]
      exact hd
    · rw [up_eq]
      exact hd
  · rw [drawS_o s (by omega)]
    exact h7 a ha
  · rw [drawS_o s (by omega), drawS_o s (by omega), drawS_o s (by omega)]
    exact h11 p hp
theorem drS_o (dr : Bool) (s : nst) {i : Nat} (h : i ≠ 2 ∧ i ≠ 6) : drS dr s i = s i := by
  cases dr
  · rfl
  · exact drawS_o s h
theorem WF_dr {D K : Nat} {s : nst} (dr : Bool) (h : WF D K s) : WF D K (drS dr s) := by
  cases dr
  · exact h
  · exact WF_draw h
theorem lvS_keep (dr : Bool) (s : nst) {i : Nat} (h : i = 0 ∨ 11 ≤ i) : ∀ k, lvS dr k s i = s i
  | 0 => rfl
  | k + 1 => by rw [lvS, goBy_keep _ (by omega), drS_o dr _ (by omega), lvS_keep dr s h k]
theorem lvS_day (dr : Bool) (s : nst) : ∀ k, lvS dr k s 1 = s 1 + k
  | 0 => rfl
  | k + 1 => by
    rw [lvS]
    unfold goBy
    rw [up_eq, drS_o dr _ (by omega), lvS_day dr s k]
    omega
theorem WF_D {D K : Nat} {s : nst} (h : WF D K s) : WF (s 1) K s := ⟨h.1, Nat.le_refl _, h.2.2⟩
theorem WF_up {D E K : Nat} {s : nst} (h : WF D K s) (hE : s 1 ≤ E) : WF E K s := ⟨h.1, hE, h.2.2⟩
theorem lvS_WF0 (dr : Bool) {D : Nat} {s : nst} (h : WF D 0 s) : ∀ k, WF (D + k) 0 (lvS dr k s)
  | 0 => h
  | k + 1 => goBy_WF (WF_dr dr (lvS_WF0 dr h k))
theorem lvS_WF (dr : Bool) {D : Nat} {s : nst} (h : WF D 0 s) {k : Nat} (hk : s 1 + k ≤ 9999) : WF 9999 0 (lvS dr k s) := WF_up (lvS_WF0 dr h k) (by rw [lvS_day]; exact hk)
theorem lvS_fell (dr : Bool) (s : nst) : ∀ k, s 5 ≤ lvS dr k s 5
  | 0 => Nat.le_refl _
  | k + 1 => by
    have h1 := lvS_fell dr s k
    have h2 := (goBy_up (drS dr (lvS dr k s))).2
    have h3 := drS_o dr (lvS dr k s) (i := 5) (by omega)
    rw [lvS]
    omega
theorem CR_lvS (dr : Bool) {s : nst} {fk fl fe : Nat → Int32} (h : CR s fk fl fe) (k : Nat) : CR (lvS dr k s) fk fl fe := CR_keep h (lvS_keep dr s (by omega) k) (fun i hi => lvS_keep dr s (by omega) k)
theorem CR_dr (dr : Bool) {s : nst} {fk fl fe : Nat → Int32} (h : CR s fk fl fe) : CR (drS dr s) fk fl fe := CR_keep h (drS_o dr s (by omega)) (fun i hi => drS_o dr s (by omega))
/-- a new TRAVELLER in the arrays -/
theorem CR_join {s : nst} {fk fl fe : Nat → Int32} (h : CR s fk fl fe) (k l e : Nat) : CR (joinS s k l e) (upd fk (s 0) (nI k)) (upd fl (s 0) (nI l)) (upd fe (s 0) (nI e)) := by
  intro p hp
  have e0 : joinS s k l e 0 = s 0 + 1 := up_eq
  rw [e0] at hp
  unfold joinS
  by_cases c : p = s 0
  · subst c
    simp [va_up, upd]
  · have := h p (by omega)
    rw [up_ne (by omega), up_ne (by omega), up_ne (by omega), up_ne (by omega), up_ne (by omega), up_ne (by omega), up_ne (by omega), up_ne (by omega), up_ne (by omega), up_ne (by omega), up_ne (by omega), up_ne (by omega)]
    simp [upd, c, this]
theorem WF_join {D : Nat} {s : nst} (h : WF D 0 s) {k l e : Nat} (h6 : s 0 < 6) (hk : k ≤ 4) (hl : l < 64) (he : 1 ≤ e ∧ e ≤ 9) : WF D 0 (joinS s k l e) := by
  obtain ⟨h0, h1, h2, h3, h6', h7, h11⟩ := h
  have q : ∀ i, 1 ≤ i → i < 11 → joinS s k l e i = s i := fun i a b => by
    unfold joinS
    rw [up_ne (by omega), up_ne (by omega), up_ne (by omega), up_ne (by omega)]
  have e0 : joinS s k l e 0 = s 0 + 1 := up_eq
  unfold WF
  rw [e0, q 1 (by omega) (by omega), q 2 (by omega) (by omega), q 3 (by omega) (by omega), q 4 (by omega) (by omega), q 5 (by omega) (by omega), q 6 (by omega) (by omega)]
  refine ⟨by omega, h1, h2, h3, h6', fun a ha => ?_, fun p hp => ?_⟩
  · rw [q (7 + a) (by omega) (by omega)]
    exact h7 a ha
  · unfold joinS
    by_cases c : p = s 0
    · subst c
      simp [va_up]
      omega
    · rw [up_ne (by omega), up_ne (by omega), up_ne (by omega), up_ne (by omega), up_ne (by omega), up_ne (by omega), up_ne (by omega), up_ne (by omega), up_ne (by omega), up_ne (by omega), up_ne (by omega), up_ne (by omega)]
      exact h11 p (by omega)
set_option maxRecDepth 100000 in
set_option maxHeartbeats 4000000 in
theorem c_X6_list (l : Launch) (G : zG) (x : Nat) (w : Nat) (kw : Nat) (ik : Nat) (tp : Nat) (sx : Nat) (fo : Nat) (gu : Nat) (ch : Nat) (now : Nat) (nh : Nat) (cr : Nat) (past : Nat) (o : Nat) (u : Nat) (s : nst) (pm : Nat → Nat) (ph : Nat → Nat) (rho : Nat → nst) (h : Nat → nst) (lk : Int32) (h0 : WF 9999 0 s) (h1 : o < 8) (h2 : u ≤ 8) (h3 : RH o u rho h) : zMi l G yX6_list cX6_list 3 .int 3 0 0 63 [.ref x, .int lk] [ob x 6 [.ref w, .ref kw, .int (nI ik), .ref tp, .ref sx, .ref fo, .ref gu, .ref ch], ob w 5 [.ref now, .ref cr, .ref past, .int (nI o), .int (nI u)], ob now 2 (mf nh s), ia G nh 4 (fN (sh 7 s)), ma G past 8 (pmf pm), ob (pm 0) 2 (mf (ph 0) (rho 0)), ia G (ph 0) 4 (fN (sh 7 (rho 0))), ob (pm 1) 2 (mf (ph 1) (rho 1)), ia G (ph 1) 4 (fN (sh 7 (rho 1))), ob (pm 2) 2 (mf (ph 2) (rho 2)), ia G (ph 2) 4 (fN (sh 7 (rho 2))), ob (pm 3) 2 (mf (ph 3) (rho 3)), ia G (ph 3) 4 (fN (sh 7 (rho 3))), ob (pm 4) 2 (mf (ph 4) (rho 4)), ia G (ph 4) 4 (fN (sh 7 (rho 4))), ob (pm 5) 2 (mf (ph 5) (rho 5)), ia G (ph 5) 4 (fN (sh 7 (rho 5))), ob (pm 6) 2 (mf (ph 6) (rho 6)), ia G (ph 6) 4 (fN (sh 7 (rho 6))), ob (pm 7) 2 (mf (ph 7) (rho 7)), ia G (ph 7) 4 (fN (sh 7 (rho 7)))] (fun (r : Int32) (_u : Nat × (Nat → nst)) => r = spList s lk ∧ _u.1 < 8 ∧ RH _u.1 (cond (okList s lk) (pushU u) (u)) _u.2 (cond (okList s lk) (pushH u h s) (h))) (fun (_u : Nat × (Nat → nst)) => [ob x 6 [.ref w, .ref kw, .int (nI ik), .ref tp, .ref sx, .ref fo, .ref gu, .ref ch], ob w 5 [.ref now, .ref cr, .ref past, .int (nI _u.1), .int (nI (cond (okList s lk) (pushU u) (u)))], ob now 2 (mf nh (cond (okList s lk) (va_up s 2 (gN lk)) (s))), ia G nh 4 (fN (sh 7 (cond (okList s lk) (va_up s 2 (gN lk)) (s)))), ma G past 8 (pmf pm), ob (pm 0) 2 (mf (ph 0) (_u.2 0)), ia G (ph 0) 4 (fN (sh 7 (_u.2 0))), ob (pm 1) 2 (mf (ph 1) (_u.2 1)), ia G (ph 1) 4 (fN (sh 7 (_u.2 1))), ob (pm 2) 2 (mf (ph 2) (_u.2 2)), ia G (ph 2) 4 (fN (sh 7 (_u.2 2))), ob (pm 3) 2 (mf (ph 3) (_u.2 3)), ia G (ph 3) 4 (fN (sh 7 (_u.2 3))), ob (pm 4) 2 (mf (ph 4) (_u.2 4)), ia G (ph 4) 4 (fN (sh 7 (_u.2 4))), ob (pm 5) 2 (mf (ph 5) (_u.2 5)), ia G (ph 5) 4 (fN (sh 7 (_u.2 5))), ob (pm 6) 2 (mf (ph 6) (_u.2 6)), ia G (ph 6) 4 (fN (sh 7 (_u.2 6))), ob (pm 7) 2 (mf (ph 7) (_u.2 7)), ia G (ph 7) 4 (fN (sh 7 (_u.2 7)))]) := by
  refine zMi.of (by decide) rfl (fun X A H0 hX hXl hR => ?_)
  show Z (X, G, A, H0, 3) 0 0 [ob x 6 [.ref w, .ref kw, .int (nI ik), .ref tp, .ref sx, .ref fo, .ref gu, .ref ch], ob w 5 [.ref now, .ref cr, .ref past, .int (nI o), .int (nI u)], ob now 2 (mf nh s), ia G nh 4 (fN (sh 7 s)), ma G past 8 (pmf pm), ob (pm 0) 2 (mf (ph 0) (rho 0)), ia G (ph 0) 4 (fN (sh 7 (rho 0))), ob (pm 1) 2 (mf (ph 1) (rho 1)), ia G (ph 1) 4 (fN (sh 7 (rho 1))), ob (pm 2) 2 (mf (ph 2) (rho 2)), ia G (ph 2) 4 (fN (sh 7 (rho 2))), ob (pm 3) 2 (mf (ph 3) (rho 3)), ia G (ph 3) 4 (fN (sh 7 (rho 3))), ob (pm 4) 2 (mf (ph 4) (rho 4)), ia G (ph 4) 4 (fN (sh 7 (rho 4))), ob (pm 5) 2 (mf (ph 5) (rho 5)), ia G (ph 5) 4 (fN (sh 7 (rho 5))), ob (pm 6) 2 (mf (ph 6) (rho 6)), ia G (ph 6) 4 (fN (sh 7 (rho 6))), ob (pm 7) 2 (mf (ph 7) (rho 7)), ia G (ph 7) 4 (fN (sh 7 (rho 7)))] 0 [(0, .ref x), (1, .int lk)] []
  subst hXl
  have z2 := h0.2.2.1
  refine z_iload_n hX 1 dX6_list_0 rfl ?_
  refine z_bipush (v := nI 64) hX dX6_list_1 (by decide) ?_
  refine z_callSi (st := []) hX (c_X6_isBelowX _ G lk 64 (by omega)) lb_X6_isBelow ml_X6_58 (fun (_u : Unit) => [ob x 6 [.ref w, .ref kw, .int (nI ik), .ref tp, .ref sx, .ref fo, .ref gu, .ref ch], ob w 5 [.ref now, .ref cr, .ref past, .int (nI o), .int (nI u)], ob now 2 (mf nh s), ia G nh 4 (fN (sh 7 s)), ma G past 8 (pmf pm), ob (pm 0) 2 (mf (ph 0) (rho 0)), ia G (ph 0) 4 (fN (sh 7 (rho 0))), ob (pm 1) 2 (mf (ph 1) (rho 1)), ia G (ph 1) 4 (fN (sh 7 (rho 1))), ob (pm 2) 2 (mf (ph 2) (rho 2)), ia G (ph 2) 4 (fN (sh 7 (rho 2))), ob (pm 3) 2 (mf (ph 3) (rho 3)), ia G (ph 3) 4 (fN (sh 7 (rho 3))), ob (pm 4) 2 (mf (ph 4) (rho 4)), ia G (ph 4) 4 (fN (sh 7 (rho 4))), ob (pm 5) 2 (mf (ph 5) (rho 5)), ia G (ph 5) 4 (fN (sh 7 (rho 5))), ob (pm 6) 2 (mf (ph 6) (rho 6)), ia G (ph 6) 4 (fN (sh 7 (rho 6))), ob (pm 7) 2 (mf (ph 7) (rho 7)), ia G (ph 7) 4 (fN (sh 7 (rho 7)))]) (wr := [ob x 6 [.ref w, .ref kw, .int (nI ik), .ref tp, .ref sx, .ref fo, .ref gu, .ref ch], ob w 5 [.ref now, .ref cr, .ref past, .int (nI o), .int (nI u)], ob now 2 (mf nh s), ia G nh 4 (fN (sh 7 s)), ma G past 8 (pmf pm), ob (pm 0) 2 (mf (ph 0) (rho 0)), ia G (ph 0) 4 (fN (sh 7 (rho 0))), ob (pm 1) 2 (mf (ph 1) (rho 1)), ia G (ph 1) 4 (fN (sh 7 (rho 1))), ob (pm 2) 2 (mf (ph 2) (rho 2)), ia G (ph 2) 4 (fN (sh 7 (rho 2))), ob (pm 3) 2 (mf (ph 3) (rho 3)), ia G (ph 3) 4 (fN (sh 7 (rho 3))), ob (pm 4) 2 (mf (ph 4) (rho 4)), ia G (ph 4) 4 (fN (sh 7 (rho 4))), ob (pm 5) 2 (mf (ph 5) (rho 5)), ia G (ph 5) 4 (fN (sh 7 (rho 5))), ob (pm 6) 2 (mf (ph 6) (rho 6)), ia G (ph 6) 4 (fN (sh 7 (rho 6))), ob (pm 7) 2 (mf (ph 7) (rho 7)), ia G (ph 7) 4 (fN (sh 7 (rho 7)))]) [] [0, 1, 2, 3, 4, 5, 6, 7, 8, 9, 10, 11, 12, 13, 14, 15, 16, 17, 18, 19, 20] [0, 1, 2, 3, 4, 5, 6, 7, 8, 9, 10, 11, 12, 13, 14, 15, 16, 17, 18, 19, 20] ⟨rfl, rfl, rfl, fun _ => rfl⟩ rfl rfl ⟨Nat.le_refl _, Nat.le_refl _⟩ dX6_list_3 rfl (fun r3 u3 hw3 => ?_)
  try dsimp only at hw3
  rcases hw3 with ⟨lkj, hlkh, rfl, rfl⟩ | ⟨hw3, rfl⟩
  · skip
    refine zn_if_ne (tgt := 11) hX dX6_list_6 (by decide) (by omega) (fun _ => ?_) (fun c6 => absurd c6 (by omega))
    refine z_aload_n hX 0 dX6_list_11 rfl ?_
    refine z_get (v := .ref w) hX fX6 0 0 rfl rfl (Nat.le_of_ble_eq_true rfl) fl_X6_10 rfl dX6_list_12 ?_
    refine z_get (v := .ref now) hX fX5 1 0 rfl rfl (Nat.le_of_ble_eq_true rfl) fl_X6_88 rfl dX6_list_15 ?_
    refine z_get (v := .int (nI (s 2))) hX fX2 2 1 rfl rfl (Nat.le_of_ble_eq_true rfl) fl_X6_111 rfl dX6_list_18 ?_
    refine z_istore_n (L' := [(2, .int (nI (s 2))), (0, .ref x), (1, .int (nI lkj))]) hX dX6_list_21 (Nat.le_of_ble_eq_true rfl) rfl ?_
    refine z_iload_n hX 0 dX6_list_22 rfl ?_
    refine z_iload_n hX 2 dX6_list_23 rfl ?_
    refine zn_icmp_ne (tgt := 30) hX dX6_list_24 (by decide) (by omega) (by omega) (fun c24 => ?_) (fun c24 => ?_)
    · skip
      refine z_aload_n hX 1 dX6_list_30 rfl ?_
      refine z_get (v := .ref w) hX fX6 0 0 rfl rfl (Nat.le_of_ble_eq_true rfl) fl_X6_10 rfl dX6_list_31 ?_
      refine z_callVv (st := []) hX (c_X5_remember _ G w now nh cr past pm ph o u s rho h h1 h2 h3) lb_X5_remember ml_X6_173 (fun (_u : Nat × (Nat → nst)) => [ob x 6 [.ref w, .ref kw, .int (nI ik), .ref tp, .ref sx, .ref fo, .ref gu, .ref ch], ob w 5 [.ref now, .ref cr, .ref past, .int (nI _u.1), .int (nI (pushU u))], ob now 2 (mf nh s), ia G nh 4 (fN (sh 7 s)), ma G past 8 (pmf pm), ob (pm 0) 2 (mf (ph 0) (_u.2 0)), ia G (ph 0) 4 (fN (sh 7 (_u.2 0))), ob (pm 1) 2 (mf (ph 1) (_u.2 1)), ia G (ph 1) 4 (fN (sh 7 (_u.2 1))), ob (pm 2) 2 (mf (ph 2) (_u.2 2)), ia G (ph 2) 4 (fN (sh 7 (_u.2 2))), ob (pm 3) 2 (mf (ph 3) (_u.2 3)), ia G (ph 3) 4 (fN (sh 7 (_u.2 3))), ob (pm 4) 2 (mf (ph 4) (_u.2 4)), ia G (ph 4) 4 (fN (sh 7 (_u.2 4))), ob (pm 5) 2 (mf (ph 5) (_u.2 5)), ia G (ph 5) 4 (fN (sh 7 (_u.2 5))), ob (pm 6) 2 (mf (ph 6) (_u.2 6)), ia G (ph 6) 4 (fN (sh 7 (_u.2 6))), ob (pm 7) 2 (mf (ph 7) (_u.2 7)), ia G (ph 7) 4 (fN (sh 7 (_u.2 7)))]) (wr := [ob x 6 [.ref w, .ref kw, .int (nI ik), .ref tp, .ref sx, .ref fo, .ref gu, .ref ch]]) [1, 4, 2, 3, 5, 6, 7, 8, 9, 10, 11, 12, 13, 14, 15, 16, 17, 18, 19, 20] [0] [0, 1, 3, 4, 2, 5, 6, 7, 8, 9, 10, 11, 12, 13, 14, 15, 16, 17, 18, 19, 20] ⟨rfl, rfl, rfl, fun _ => rfl⟩ 0 rfl rfl rfl rfl ⟨Nat.le_refl _, Nat.le_refl _⟩ dX6_list_34 rfl (fun  u34 hw34 => ?_)
      obtain ⟨o2_1, rho2_2⟩ := u34
      refine z_aload_n hX 1 dX6_list_37 rfl ?_
      refine z_get (v := .ref w) hX fX6 0 0 rfl rfl (Nat.le_of_ble_eq_true rfl) fl_X6_10 rfl dX6_list_38 ?_
      refine z_get (v := .ref now) hX fX5 1 0 rfl rfl (Nat.le_of_ble_eq_true rfl) fl_X6_88 rfl dX6_list_41 ?_
      refine z_iload_n hX 2 dX6_list_44 rfl ?_
      refine z_putM (v := lkj) (ws' := [ob x 6 [.ref w, .ref kw, .int (nI ik), .ref tp, .ref sx, .ref fo, .ref gu, .ref ch], ob w 5 [.ref now, .ref cr, .ref past, .int (nI o2_1), .int (nI (pushU u))], ob now 2 (mf nh (va_up s 2 lkj)), ia G nh 4 (fN (sh 7 (va_up s 2 lkj))), ma G past 8 (pmf pm), ob (pm 0) 2 (mf (ph 0) (rho2_2 0)), ia G (ph 0) 4 (fN (sh 7 (rho2_2 0))), ob (pm 1) 2 (mf (ph 1) (rho2_2 1)), ia G (ph 1) 4 (fN (sh 7 (rho2_2 1))), ob (pm 2) 2 (mf (ph 2) (rho2_2 2)), ia G (ph 2) 4 (fN (sh 7 (rho2_2 2))), ob (pm 3) 2 (mf (ph 3) (rho2_2 3)), ia G (ph 3) 4 (fN (sh 7 (rho2_2 3))), ob (pm 4) 2 (mf (ph 4) (rho2_2 4)), ia G (ph 4) 4 (fN (sh 7 (rho2_2 4))), ob (pm 5) 2 (mf (ph 5) (rho2_2 5)), ia G (ph 5) 4 (fN (sh 7 (rho2_2 5))), ob (pm 6) 2 (mf (ph 6) (rho2_2 6)), ia G (ph 6) 4 (fN (sh 7 (rho2_2 6))), ob (pm 7) 2 (mf (ph 7) (rho2_2 7)), ia G (ph 7) 4 (fN (sh 7 (rho2_2 7)))]) hX 2 3 1 2 rfl rfl rfl rfl rfl fl_X6_111 rfl rfl rfl rfl dX6_list_45 ?_
      refine z_iload_n hX 0 dX6_list_48 rfl ?_
      have e0 : okList s (nI lkj) = true := by
        unfold okList
        rw [inb_t (by omega) (by omega) (by omega)]
        simp [gN_nI (show lkj < 2147483648 by omega), c24]
      rw [e0, gN_nI (show lkj < 2147483648 by omega)] at hR
      exact hR _ (o2_1, rho2_2) _ _ ⟨by unfold spList; rw [if_pos (inb_t (by omega) (by omega) (by omega)), gN_nI (by omega), if_neg c24], hw34.1, hw34.2⟩ dX6_list_49 rfl
    · skip
      refine z_bipush (v := (-2)) hX dX6_list_27 (by decide) ?_
      have e0 : okList s (nI lkj) = false := by
        unfold okList
        simp [gN_nI (show lkj < 2147483648 by omega), c24]
      rw [e0] at hR
      exact hR _ (o, rho) _ _ ⟨by unfold spList; rw [if_pos (inb_t (by omega) (by omega) (by omega)), gN_nI (by omega), if_pos c24], h1, h3⟩ dX6_list_29 rfl
  · have hb_lk : inb lk 0 63 = false := hw3
    refine zn_if_ne (tgt := 11) hX dX6_list_6 (by decide) (by omega) (fun c6 => absurd c6 (by omega)) (fun _ => ?_)
    refine z_iconst (v := (-1)) hX dX6_list_9 (by decide) ?_
    have e0 : okList s lk = false := by
      unfold okList
      simp [hb_lk]
    rw [e0] at hR
    exact hR _ (o, rho) _ _ ⟨by unfold spList; rw [if_neg (by simp [hb_lk])], h1, h3⟩ dX6_list_10 rfl
set_option maxRecDepth 100000 in
set_option maxHeartbeats 4000000 in
theorem c_X6_mend (l : Launch) (G : zG) (x : Nat) (w : Nat) (kw : Nat) (ik : Nat) (tp : Nat) (sx : Nat) (fo : Nat) (gu : Nat) (ch : Nat) (now : Nat) (nh : Nat) (cr : Nat) (past : Nat) (o : Nat) (u : Nat) (s : nst) (pm : Nat → Nat) (ph : Nat → Nat) (rho : Nat → nst) (h : Nat → nst) (ar : Int32) (nn : Int32) (h0 : WF 9999 0 s) (h1 : o < 8) (h2 : u ≤ 8) (h3 : RH o u rho h) : zMi l G yX6_mend cX6_mend 4 .int 3 0 0 63 [.ref x, .int ar, .int nn] [ob x 6 [.ref w, .ref kw, .int (nI ik), .ref tp, .ref sx, .ref fo, .ref gu, .ref ch], ob w 5 [.ref now, .ref cr, .ref past, .int (nI o), .int (nI u)], ob now 2 (mf nh s), ia G nh 4 (fN (sh 7 s)), ma G past 8 (pmf pm), ob (pm 0) 2 (mf (ph 0) (rho 0)), ia G (ph 0) 4 (fN (sh 7 (rho 0))), ob (pm 1) 2 (mf (ph 1) (rho 1)), ia G (ph 1) 4 (fN (sh 7 (rho 1))), ob (pm 2) 2 (mf (ph 2) (rho 2)), ia G (ph 2) 4 (fN (sh 7 (rho 2))), ob (pm 3) 2 (mf (ph 3) (rho 3)), ia G (ph 3) 4 (fN (sh 7 (rho 3))), ob (pm 4) 2 (mf (ph 4) (rho 4)), ia G (ph 4) 4 (fN (sh 7 (rho 4))), ob (pm 5) 2 (mf (ph 5) (rho 5)), ia G (ph 5) 4 (fN (sh 7 (rho 5))), ob (pm 6) 2 (mf (ph 6) (rho 6)), ia G (ph 6) 4 (fN (sh 7 (rho 6))), ob (pm 7) 2 (mf (ph 7) (rho 7)), ia G (ph 7) 4 (fN (sh 7 (rho 7)))] (fun (r : Int32) (_u : Nat × (Nat → nst)) => r = spMend s ar nn ∧ _u.1 < 8 ∧ RH _u.1 (cond (okMend s ar nn) (pushU u) (u)) _u.2 (cond (okMend s ar nn) (pushH u h s) (h))) (fun (_u : Nat × (Nat → nst)) => [ob x 6 [.ref w, .ref kw, .int (nI ik), .ref tp, .ref sx, .ref fo, .ref gu, .ref ch], ob w 5 [.ref now, .ref cr, .ref past, .int (nI _u.1), .int (nI (cond (okMend s ar nn) (pushU u) (u)))], ob now 2 (mf nh (cond (okMend s ar nn) (va_up s (7 + gN ar) (min 40 (s (7 + gN ar) + gN nn))) (s))), ia G nh 4 (fN (sh 7 (cond (okMend s ar nn) (va_up s (7 + gN ar) (min 40 (s (7 + gN ar) + gN nn))) (s)))), ma G past 8 (pmf pm), ob (pm 0) 2 (mf (ph 0) (_u.2 0)), ia G (ph 0) 4 (fN (sh 7 (_u.2 0))), ob (pm 1) 2 (mf (ph 1) (_u.2 1)), ia G (ph 1) 4 (fN (sh 7 (_u.2 1))), ob (pm 2) 2 (mf (ph 2) (_u.2 2)), ia G (ph 2) 4 (fN (sh 7 (_u.2 2))), ob (pm 3) 2 (mf (ph 3) (_u.2 3)), ia G (ph 3) 4 (fN (sh 7 (_u.2 3))), ob (pm 4) 2 (mf (ph 4) (_u.2 4)), ia G (ph 4) 4 (fN (sh 7 (_u.2 4))), ob (pm 5) 2 (mf (ph 5) (_u.2 5)), ia G (ph 5) 4 (fN (sh 7 (_u.2 5))), ob (pm 6) 2 (mf (ph 6) (_u.2 6)), ia G (ph 6) 4 (fN (sh 7 (_u.2 6))), ob (pm 7) 2 (mf (ph 7) (_u.2 7)), ia G (ph 7) 4 (fN (sh 7 (_u.2 7)))]) := by
  refine zMi.of (by decide) rfl (fun X A H0 hX hXl hR => ?_)
  show Z (X, G, A, H0, 4) 0 0 [ob x 6 [.ref w, .ref kw, .int (nI ik), .ref tp, .ref sx, .ref fo, .ref gu, .ref ch], ob w 5 [.ref now, .ref cr, .ref past, .int (nI o), .int (nI u)], ob now 2 (mf nh s), ia G nh 4 (fN (sh 7 s)), ma G past 8 (pmf pm), ob (pm 0) 2 (mf (ph 0) (rho 0)), ia G (ph 0) 4 (fN (sh 7 (rho 0))), ob (pm 1) 2 (mf (ph 1) (rho 1)), ia G (ph 1) 4 (fN (sh 7 (rho 1))), ob (pm 2) 2 (mf (ph 2) (rho 2)), ia G (ph 2) 4 (fN (sh 7 (rho 2))), ob (pm 3) 2 (mf (ph 3) (rho 3)), ia G (ph 3) 4 (fN (sh 7 (rho 3))), ob (pm 4) 2 (mf (ph 4) (rho 4)), ia G (ph 4) 4 (fN (sh 7 (rho 4))), ob (pm 5) 2 (mf (ph 5) (rho 5)), ia G (ph 5) 4 (fN (sh 7 (rho 5))), ob (pm 6) 2 (mf (ph 6) (rho 6)), ia G (ph 6) 4 (fN (sh 7 (rho 6))), ob (pm 7) 2 (mf (ph 7) (rho 7)), ia G (ph 7) 4 (fN (sh 7 (rho 7)))] 0 [(0, .ref x), (1, .int ar), (2, .int nn)] []
  subst hXl
  refine z_iload_n hX 1 dX6_mend_0 rfl ?_
  refine z_iconst (v := nI 4) hX dX6_mend_1 (by decide) ?_
  refine z_callSi (st := []) hX (c_X6_isBelowX _ G ar 4 (by omega)) lb_X6_isBelow ml_X6_58 (fun (_u : Unit) => [ob x 6 [.ref w, .ref kw, .int (nI ik), .ref tp, .ref sx, .ref fo, .ref gu, .ref ch], ob w 5 [.ref now, .ref cr, .ref past, .int (nI o), .int (nI u)], ob now 2 (mf nh s), ia G nh 4 (fN (sh 7 s)), ma G past 8 (pmf pm), ob (pm 0) 2 (mf (ph 0) (rho 0)), ia G (ph 0) 4 (fN (sh 7 (rho 0))), ob (pm 1) 2 (mf (ph 1) (rho 1)), ia G (ph 1) 4 (fN (sh 7 (rho 1))), ob (pm 2) 2 (mf (ph 2) (rho 2)), ia G (ph 2) 4 (fN (sh 7 (rho 2))), ob (pm 3) 2 (mf (ph 3) (rho 3)), ia G (ph 3) 4 (fN (sh 7 (rho 3))), ob (pm 4) 2 (mf (ph 4) (rho 4)), ia G (ph 4) 4 (fN (sh 7 (rho 4))), ob (pm 5) 2 (mf (ph 5) (rho 5)), ia G (ph 5) 4 (fN (sh 7 (rho 5))), ob (pm 6) 2 (mf (ph 6) (rho 6)), ia G (ph 6) 4 (fN (sh 7 (rho 6))), ob (pm 7) 2 (mf (ph 7) (rho 7)), ia G (ph 7) 4 (fN (sh 7 (rho 7)))]) (wr := [ob x 6 [.ref w, .ref kw, .int (nI ik), .ref tp, .ref sx, .ref fo, .ref gu, .ref ch], ob w 5 [.ref now, .ref cr, .ref past, .int (nI o), .int (nI u)], ob now 2 (mf nh s), ia G nh 4 (fN (sh 7 s)), ma G past 8 (pmf pm), ob (pm 0) 2 (mf (ph 0) (rho 0)), ia G (ph 0) 4 (fN (sh 7 (rho 0))), ob (pm 1) 2 (mf (ph 1) (rho 1)), ia G (ph 1) 4 (fN (sh 7 (rho 1))), ob (pm 2) 2 (mf (ph 2) (rho 2)), ia G (ph 2) 4 (fN (sh 7 (rho 2))), ob (pm 3) 2 (mf (ph 3) (rho 3)), ia G (ph 3) 4 (fN (sh 7 (rho 3))), ob (pm 4) 2 (mf (ph 4) (rho 4)), ia G (ph 4) 4 (fN (sh 7 (rho 4))), ob (pm 5) 2 (mf (ph 5) (rho 5)), ia G (ph 5) 4 (fN (sh 7 (rho 5))), ob (pm 6) 2 (mf (ph 6) (rho 6)), ia G (ph 6) 4 (fN (sh 7 (rho 6))), ob (pm 7) 2 (mf (ph 7) (rho 7)), ia G (ph 7) 4 (fN (sh 7 (rho 7)))]) [] [0, 1, 2, 3, 4, 5, 6, 7, 8, 9, 10, 11, 12, 13, 14, 15, 16, 17, 18, 19, 20] [0, 1, 2, 3, 4, 5, 6, 7, 8, 9, 10, 11, 12, 13, 14, 15, 16, 17, 18, 19, 20] ⟨rfl, rfl, rfl, fun _ => rfl⟩ rfl rfl ⟨Nat.le_refl _, Nat.le_refl _⟩ dX6_mend_2 rfl (fun r2 u2 hw2 => ?_)
  try dsimp only at hw2
  rcases hw2 with ⟨arj, harh, rfl, rfl⟩ | ⟨hw2, rfl⟩
  · skip
    refine zn_if_eq (tgt := 18) hX dX6_mend_5 (by decide) (by omega) (fun c5 => absurd c5 (by omega)) (fun _ => ?_)
    refine z_iload_n hX 2 dX6_mend_8 rfl ?_
    refine z_iconst (v := nI 1) hX dX6_mend_9 (by decide) ?_
    refine z_bipush (v := nI 40) hX dX6_mend_10 (by decide) ?_
    refine z_callSi (st := []) hX (c_X6_isWithinX _ G nn 1 40 (by omega) (by omega)) lb_X6_isWithin ml_X6_62 (fun (_u : Unit) => [ob x 6 [.ref w, .ref kw, .int (nI ik), .ref tp, .ref sx, .ref fo, .ref gu, .ref ch], ob w 5 [.ref now, .ref cr, .ref past, .int (nI o), .int (nI u)], ob now 2 (mf nh s), ia G nh 4 (fN (sh 7 s)), ma G past 8 (pmf pm), ob (pm 0) 2 (mf (ph 0) (rho 0)), ia G (ph 0) 4 (fN (sh 7 (rho 0))), ob (pm 1) 2 (mf (ph 1) (rho 1)), ia G (ph 1) 4 (fN (sh 7 (rho 1))), ob (pm 2) 2 (mf (ph 2) (rho 2)), ia G (ph 2) 4 (fN (sh 7 (rho 2))), ob (pm 3) 2 (mf (ph 3) (rho 3)), ia G (ph 3) 4 (fN (sh 7 (rho 3))), ob (pm 4) 2 (mf (ph 4) (rho 4)), ia G (ph 4) 4 (fN (sh 7 (rho 4))), ob (pm 5) 2 (mf (ph 5) (rho 5)), ia G (ph 5) 4 (fN (sh 7 (rho 5))), ob (pm 6) 2 (mf (ph 6) (rho 6)), ia G (ph 6) 4 (fN (sh 7 (rho 6))), ob (pm 7) 2 (mf (ph 7) (rho 7)), ia G (ph 7) 4 (fN (sh 7 (rho 7)))]) (wr := [ob x 6 [.ref w, .ref kw, .int (nI ik), .ref tp, .ref sx, .ref fo, .ref gu, .ref ch], ob w 5 [.ref now, .ref cr, .ref past, .int (nI o), .int (nI u)], ob now 2 (mf nh s), ia G nh 4 (fN (sh 7 s)), ma G past 8 (pmf pm), ob (pm 0) 2 (mf (ph 0) (rho 0)), ia G (ph 0) 4 (fN (sh 7 (rho 0))), ob (pm 1) 2 (mf (ph 1) (rho 1)), ia G (ph 1) 4 (fN (sh 7 (rho 1))), ob (pm 2) 2 (mf (ph 2) (rho 2)), ia G (ph 2) 4 (fN (sh 7 (rho 2))), ob (pm 3) 2 (mf (ph 3) (rho 3)), ia G (ph 3) 4 (fN (sh 7 (rho 3))), ob (pm 4) 2 (mf (ph 4) (rho 4)), ia G (ph 4) 4 (fN (sh 7 (rho 4))), ob (pm 5) 2 (mf (ph 5) (rho 5)), ia G (ph 5) 4 (fN (sh 7 (rho 5))), ob (pm 6) 2 (mf (ph 6) (rho 6)), ia G (ph 6) 4 (fN (sh 7 (rho 6))), ob (pm 7) 2 (mf (ph 7) (rho 7)), ia G (ph 7) 4 (fN (sh 7 (rho 7)))]) [] [0, 1, 2, 3, 4, 5, 6, 7, 8, 9, 10, 11, 12, 13, 14, 15, 16, 17, 18, 19, 20] [0, 1, 2, 3, 4, 5, 6, 7, 8, 9, 10, 11, 12, 13, 14, 15, 16, 17, 18, 19, 20] ⟨rfl, rfl, rfl, fun _ => rfl⟩ rfl rfl ⟨Nat.le_refl _, Nat.le_refl _⟩ dX6_mend_12 rfl (fun r12 u12 hw12 => ?_)
    try dsimp only at hw12
    rcases hw12 with ⟨nnj, hnnl, hnnh, rfl, rfl⟩ | ⟨hw12, rfl⟩
    · skip
      refine zn_if_ne (tgt := 20) hX dX6_mend_15 (by decide) (by omega) (fun _ => ?_) (fun c15 => absurd c15 (by omega))
      refine z_aload_n hX 0 dX6_mend_20 rfl ?_
      refine z_get (v := .ref w) hX fX6 0 0 rfl rfl (Nat.le_of_ble_eq_true rfl) fl_X6_10 rfl dX6_mend_21 ?_
      refine z_get (v := .ref now) hX fX5 1 0 rfl rfl (Nat.le_of_ble_eq_true rfl) fl_X6_88 rfl dX6_mend_24 ?_
      refine z_astore_n (L' := [(3, .ref now), (0, .ref x), (1, .int (nI arj)), (2, .int (nI nnj))]) hX dX6_mend_27 (Nat.le_of_ble_eq_true rfl) rfl ?_
      have q4 := h0.2.2.2.2.2.1 arj (by omega)
      refine z_aload_n hX 0 dX6_mend_28 rfl ?_
      refine z_get (v := .ref nh) hX fX2 2 0 rfl rfl (Nat.le_of_ble_eq_true rfl) fl_X6_125 rfl dX6_mend_29 ?_
      refine z_iload_n hX 2 dX6_mend_32 rfl ?_
      refine z_iald (v := (nI (s (7 + arj)))) hX 3 (j := arj) rfl (by omega) (by decide) rfl dX6_mend_33 ?_
      refine z_bipush (v := nI 40) hX dX6_mend_34 (by decide) ?_
      refine zn_icmp_lt (tgt := 42) hX dX6_mend_36 (by decide) (by omega) (by omega) (fun c36 => ?_) (fun c36 => ?_)
      · skip
        refine z_aload_n hX 1 dX6_mend_42 rfl ?_
        refine z_get (v := .ref w) hX fX6 0 0 rfl rfl (Nat.le_of_ble_eq_true rfl) fl_X6_10 rfl dX6_mend_43 ?_
        refine z_callVv (st := []) hX (c_X5_remember _ G w now nh cr past pm ph o u s rho h h1 h2 h3) lb_X5_remember ml_X6_173 (fun (_u : Nat × (Nat → nst)) => [ob x 6 [.ref w, .ref kw, .int (nI ik), .ref tp, .ref sx, .ref fo, .ref gu, .ref ch], ob w 5 [.ref now, .ref cr, .ref past, .int (nI _u.1), .int (nI (pushU u))], ob now 2 (mf nh s), ia G nh 4 (fN (sh 7 s)), ma G past 8 (pmf pm), ob (pm 0) 2 (mf (ph 0) (_u.2 0)), ia G (ph 0) 4 (fN (sh 7 (_u.2 0))), ob (pm 1) 2 (mf (ph 1) (_u.2 1)), ia G (ph 1) 4 (fN (sh 7 (_u.2 1))), ob (pm 2) 2 (mf (ph 2) (_u.2 2)), ia G (ph 2) 4 (fN (sh 7 (_u.2 2))), ob (pm 3) 2 (mf (ph 3) (_u.2 3)), ia G (ph 3) 4 (fN (sh 7 (_u.2 3))), ob (pm 4) 2 (mf (ph 4) (_u.2 4)), ia G (ph 4) 4 (fN (sh 7 (_u.2 4))), ob (pm 5) 2 (mf (ph 5) (_u.2 5)), ia G (ph 5) 4 (fN (sh 7 (_u.2 5))), ob (pm 6) 2 (mf (ph 6) (_u.2 6)), ia G (ph 6) 4 (fN (sh 7 (_u.2 6))), ob (pm 7) 2 (mf (ph 7) (_u.2 7)), ia G (ph 7) 4 (fN (sh 7 (_u.2 7)))]) (wr := [ob x 6 [.ref w, .ref kw, .int (nI ik), .ref tp, .ref sx, .ref fo, .ref gu, .ref ch]]) [1, 4, 2, 3, 5, 6, 7, 8, 9, 10, 11, 12, 13, 14, 15, 16, 17, 18, 19, 20] [0] [0, 1, 3, 4, 2, 5, 6, 7, 8, 9, 10, 11, 12, 13, 14, 15, 16, 17, 18, 19, 20] ⟨rfl, rfl, rfl, fun _ => rfl⟩ 0 rfl rfl rfl rfl ⟨Nat.le_refl _, Nat.le_refl _⟩ dX6_mend_46 rfl (fun  u46 hw46 => ?_)
        obtain ⟨o2_1, rho2_2⟩ := u46
        refine z_aload_n hX 0 dX6_mend_49 rfl ?_
        refine z_get (v := .ref nh) hX fX2 2 0 rfl rfl (Nat.le_of_ble_eq_true rfl) fl_X6_125 rfl dX6_mend_50 ?_
        refine z_iload_n hX 2 dX6_mend_53 rfl ?_
        refine z_bipush (v := nI 40) hX dX6_mend_54 (by decide) ?_
        refine z_aload_n hX 0 dX6_mend_56 rfl ?_
        refine z_get (v := .ref nh) hX fX2 2 0 rfl rfl (Nat.le_of_ble_eq_true rfl) fl_X6_125 rfl dX6_mend_57 ?_
        refine z_iload_n hX 2 dX6_mend_60 rfl ?_
        refine z_iald (v := (nI (s (7 + arj)))) hX 3 (j := arj) rfl (by omega) (by decide) rfl dX6_mend_61 ?_
        refine z_iload_n hX 3 dX6_mend_62 rfl ?_
        refine z_iadd (v := (nI (s (7 + arj) + nnj))) hX dX6_mend_63 (nI_add _ _) ?_
        refine z_min (v := (nI (min 40 (s (7 + arj) + nnj)))) hX ml_X6_176 (mmin_nI (by omega) (by omega)) rfl ⟨Nat.zero_le _, Nat.zero_le _⟩ dX6_mend_64 ?_
        refine z_iastM (j := arj) (v := min 40 (s (7 + arj) + nnj)) (ws' := [ob x 6 [.ref w, .ref kw, .int (nI ik), .ref tp, .ref sx, .ref fo, .ref gu, .ref ch], ob w 5 [.ref now, .ref cr, .ref past, .int (nI o2_1), .int (nI (pushU u))], ob now 2 (mf nh (va_up s (7 + arj) (min 40 (s (7 + arj) + nnj)))), ia G nh 4 (fN (sh 7 (va_up s (7 + arj) (min 40 (s (7 + arj) + nnj))))), ma G past 8 (pmf pm), ob (pm 0) 2 (mf (ph 0) (rho2_2 0)), ia G (ph 0) 4 (fN (sh 7 (rho2_2 0))), ob (pm 1) 2 (mf (ph 1) (rho2_2 1)), ia G (ph 1) 4 (fN (sh 7 (rho2_2 1))), ob (pm 2) 2 (mf (ph 2) (rho2_2 2)), ia G (ph 2) 4 (fN (sh 7 (rho2_2 2))), ob (pm 3) 2 (mf (ph 3) (rho2_2 3)), ia G (ph 3) 4 (fN (sh 7 (rho2_2 3))), ob (pm 4) 2 (mf (ph 4) (rho2_2 4)), ia G (ph 4) 4 (fN (sh 7 (rho2_2 4))), ob (pm 5) 2 (mf (ph 5) (rho2_2 5)), ia G (ph 5) 4 (fN (sh 7 (rho2_2 5))), ob (pm 6) 2 (mf (ph 6) (rho2_2 6)), ia G (ph 6) 4 (fN (sh 7 (rho2_2 6))), ob (pm 7) 2 (mf (ph 7) (rho2_2 7)), ia G (ph 7) 4 (fN (sh 7 (rho2_2 7)))]) hX 2 3 rfl rfl (by omega) rfl rfl dX6_mend_67 ?_
        refine z_aload_n hX 0 dX6_mend_68 rfl ?_
        refine z_get (v := .ref nh) hX fX2 2 0 rfl rfl (Nat.le_of_ble_eq_true rfl) fl_X6_125 rfl dX6_mend_69 ?_
        refine z_iload_n hX 2 dX6_mend_72 rfl ?_
        refine z_iald (v := (nI ((va_up s (7 + arj) (min 40 (s (7 + arj) + nnj))) (7 + arj)))) hX 3 (j := arj) rfl (by omega) (by decide) rfl dX6_mend_73 ?_
        have e0 : okMend s (nI arj) (nI nnj) = true := by
          unfold okMend
          rw [inb_t (by omega) (by omega) (by omega), inb_t (by omega) (by omega) (by omega)]
          simp [gN_nI (show arj < 2147483648 by omega), c36]
        rw [e0, gN_nI (show arj < 2147483648 by omega), gN_nI (show nnj < 2147483648 by omega)] at hR
        exact hR _ (o2_1, rho2_2) _ _ ⟨by unfold spMend; rw [if_pos (⟨inb_t (by omega) (by omega) (by omega), inb_t (by omega) (by omega) (by omega)⟩), gN_nI (show arj < 2147483648 by omega), gN_nI (show nnj < 2147483648 by omega), if_pos c36]; exact congrArg nI up_eq, hw46.1, hw46.2⟩ dX6_mend_74 rfl
      · skip
        refine z_bipush (v := (-2)) hX dX6_mend_39 (by decide) ?_
        have e0 : okMend s (nI arj) (nI nnj) = false := by
          unfold okMend
          simp [gN_nI (show arj < 2147483648 by omega), c36]
        rw [e0] at hR
        exact hR _ (o, rho) _ _ ⟨by unfold spMend; rw [if_pos (⟨inb_t (by omega) (by omega) (by omega), inb_t (by omega) (by omega) (by omega)⟩), gN_nI (by omega), if_neg c36], h1, h3⟩ dX6_mend_41 rfl
    · have hb_nn : inb nn 1 40 = false := hw12
      refine zn_if_ne (tgt := 20) hX dX6_mend_15 (by decide) (by omega) (fun c15 => absurd c15 (by omega)) (fun _ => ?_)
      refine z_iconst (v := (-1)) hX dX6_mend_18 (by decide) ?_
      have e0 : okMend s (nI arj) nn = false := by
        unfold okMend
        simp [hb_nn]
      rw [e0] at hR
      exact hR _ (o, rho) _ _ ⟨by unfold spMend; rw [if_neg (by simp [hb_nn])], h1, h3⟩ dX6_mend_19 rfl
  · have hb_ar : inb ar 0 3 = false := hw2
    refine zn_if_eq (tgt := 18) hX dX6_mend_5 (by decide) (by omega) (fun _ => ?_) (fun c5 => absurd c5 (by omega))
    refine z_iconst (v := (-1)) hX dX6_mend_18 (by decide) ?_
    have e0 : okMend s ar nn = false := by
      unfold okMend
      simp [hb_ar]
    rw [e0] at hR
    exact hR _ (o, rho) _ _ ⟨by unfold spMend; rw [if_neg (by simp [hb_ar])], h1, h3⟩ dX6_mend_19 rfl
set_option maxRecDepth 100000 in
set_option maxHeartbeats 4000000 in
theorem c_X6_flood (l : Launch) (G : zG) (x : Nat) (w : Nat) (kw : Nat) (ik : Nat) (tp : Nat) (sx : Nat) (fo : Nat) (gu : Nat) (ch : Nat) (now : Nat) (nh : Nat) (cr : Nat) (past : Nat) (o : Nat) (u : Nat) (s : nst) (pm : Nat → Nat) (ph : Nat → Nat) (rho : Nat → nst) (h : Nat → nst) (nn : Int32) (h0 : WF 9999 0 s) (h1 : o < 8) (h2 : u ≤ 8) (h3 : RH o u rho h) : zMi l G yX6_flood cX6_flood 2 .int 3 0 0 65 [.ref x, .int nn] [ob x 6 [.ref w, .ref kw, .int (nI ik), .ref tp, .ref sx, .ref fo, .ref gu, .ref ch], ob w 5 [.ref now, .ref cr, .ref past, .int (nI o), .int (nI u)], ob now 2 (mf nh s), ia G nh 4 (fN (sh 7 s)), ma G past 8 (pmf pm), ob (pm 0) 2 (mf (ph 0) (rho 0)), ia G (ph 0) 4 (fN (sh 7 (rho 0))), ob (pm 1) 2 (mf (ph 1) (rho 1)), ia G (ph 1) 4 (fN (sh 7 (rho 1))), ob (pm 2) 2 (mf (ph 2) (rho 2)), ia G (ph 2) 4 (fN (sh 7 (rho 2))), ob (pm 3) 2 (mf (ph 3) (rho 3)), ia G (ph 3) 4 (fN (sh 7 (rho 3))), ob (pm 4) 2 (mf (ph 4) (rho 4)), ia G (ph 4) 4 (fN (sh 7 (rho 4))), ob (pm 5) 2 (mf (ph 5) (rho 5)), ia G (ph 5) 4 (fN (sh 7 (rho 5))), ob (pm 6) 2 (mf (ph 6) (rho 6)), ia G (ph 6) 4 (fN (sh 7 (rho 6))), ob (pm 7) 2 (mf (ph 7) (rho 7)), ia G (ph 7) 4 (fN (sh 7 (rho 7)))] (fun (r : Int32) (_u : Nat × (Nat → nst)) => r = spFlood s nn ∧ _u.1 < 8 ∧ RH _u.1 (cond (inb nn 1 40) (pushU u) (u)) _u.2 (cond (inb nn 1 40) (pushH u h s) (h))) (fun (_u : Nat × (Nat → nst)) => [ob x 6 [.ref w, .ref kw, .int (nI ik), .ref tp, .ref sx, .ref fo, .ref gu, .ref ch], ob w 5 [.ref now, .ref cr, .ref past, .int (nI _u.1), .int (nI (cond (inb nn 1 40) (pushU u) (u)))], ob now 2 (mf nh (cond (inb nn 1 40) (floodS (gN nn) s) (s))), ia G nh 4 (fN (sh 7 (cond (inb nn 1 40) (floodS (gN nn) s) (s)))), ma G past 8 (pmf pm), ob (pm 0) 2 (mf (ph 0) (_u.2 0)), ia G (ph 0) 4 (fN (sh 7 (_u.2 0))), ob (pm 1) 2 (mf (ph 1) (_u.2 1)), ia G (ph 1) 4 (fN (sh 7 (_u.2 1))), ob (pm 2) 2 (mf (ph 2) (_u.2 2)), ia G (ph 2) 4 (fN (sh 7 (_u.2 2))), ob (pm 3) 2 (mf (ph 3) (_u.2 3)), ia G (ph 3) 4 (fN (sh 7 (_u.2 3))), ob (pm 4) 2 (mf (ph 4) (_u.2 4)), ia G (ph 4) 4 (fN (sh 7 (_u.2 4))), ob (pm 5) 2 (mf (ph 5) (_u.2 5)), ia G (ph 5) 4 (fN (sh 7 (_u.2 5))), ob (pm 6) 2 (mf (ph 6) (_u.2 6)), ia G (ph 6) 4 (fN (sh 7 (_u.2 6))), ob (pm 7) 2 (mf (ph 7) (_u.2 7)), ia G (ph 7) 4 (fN (sh 7 (_u.2 7)))]) := by
  refine zMi.of (by decide) rfl (fun X A H0 hX hXl hR => ?_)
  show Z (X, G, A, H0, 2) 0 0 [ob x 6 [.ref w, .ref kw, .int (nI ik), .ref tp, .ref sx, .ref fo, .ref gu, .ref ch], ob w 5 [.ref now, .ref cr, .ref past, .int (nI o), .int (nI u)], ob now 2 (mf nh s), ia G nh 4 (fN (sh 7 s)), ma G past 8 (pmf pm), ob (pm 0) 2 (mf (ph 0) (rho 0)), ia G (ph 0) 4 (fN (sh 7 (rho 0))), ob (pm 1) 2 (mf (ph 1) (rho 1)), ia G (ph 1) 4 (fN (sh 7 (rho 1))), ob (pm 2) 2 (mf (ph 2) (rho 2)), ia G (ph 2) 4 (fN (sh 7 (rho 2))), ob (pm 3) 2 (mf (ph 3) (rho 3)), ia G (ph 3) 4 (fN (sh 7 (rho 3))), ob (pm 4) 2 (mf (ph 4) (rho 4)), ia G (ph 4) 4 (fN (sh 7 (rho 4))), ob (pm 5) 2 (mf (ph 5) (rho 5)), ia G (ph 5) 4 (fN (sh 7 (rho 5))), ob (pm 6) 2 (mf (ph 6) (rho 6)), ia G (ph 6) 4 (fN (sh 7 (rho 6))), ob (pm 7) 2 (mf (ph 7) (rho 7)), ia G (ph 7) 4 (fN (sh 7 (rho 7)))] 0 [(0, .ref x), (1, .int nn)] []
  subst hXl
  refine z_iload_n hX 1 dX6_flood_0 rfl ?_
  refine z_iconst (v := nI 1) hX dX6_flood_1 (by decide) ?_
  refine z_bipush (v := nI 40) hX dX6_flood_2 (by decide) ?_
  refine z_callSi (st := []) hX (c_X6_isWithinX _ G nn 1 40 (by omega) (by omega)) lb_X6_isWithin ml_X6_62 (fun (_u : Unit) => [ob x 6 [.ref w, .ref kw, .int (nI ik), .ref tp, .ref sx, .ref fo, .ref gu, .ref ch], ob w 5 [.ref now, .ref cr, .ref past, .int (nI o), .int (nI u)], ob now 2 (mf nh s), ia G nh 4 (fN (sh 7 s)), ma G past 8 (pmf pm), ob (pm 0) 2 (mf (ph 0) (rho 0)), ia G (ph 0) 4 (fN (sh 7 (rho 0))), ob (pm 1) 2 (mf (ph 1) (rho 1)), ia G (ph 1) 4 (fN (sh 7 (rho 1))), ob (pm 2) 2 (mf (ph 2) (rho 2)), ia G (ph 2) 4 (fN (sh 7 (rho 2))), ob (pm 3) 2 (mf (ph 3) (rho 3)), ia G (ph 3) 4 (fN (sh 7 (rho 3))), ob (pm 4) 2 (mf (ph 4) (rho 4)), ia G (ph 4) 4 (fN (sh 7 (rho 4))), ob (pm 5) 2 (mf (ph 5) (rho 5)), ia G (ph 5) 4 (fN (sh 7 (rho 5))), ob (pm 6) 2 (mf (ph 6) (rho 6)), ia G (ph 6) 4 (fN (sh 7 (rho 6))), ob (pm 7) 2 (mf (ph 7) (rho 7)), ia G (ph 7) 4 (fN (sh 7 (rho 7)))]) (wr := [ob x 6 [.ref w, .ref kw, .int (nI ik), .ref tp, .ref sx, .ref fo, .ref gu, .ref ch], ob w 5 [.ref now, .ref cr, .ref past, .int (nI o), .int (nI u)], ob now 2 (mf nh s), ia G nh 4 (fN (sh 7 s)), ma G past 8 (pmf pm), ob (pm 0) 2 (mf (ph 0) (rho 0)), ia G (ph 0) 4 (fN (sh 7 (rho 0))), ob (pm 1) 2 (mf (ph 1) (rho 1)), ia G (ph 1) 4 (fN (sh 7 (rho 1))), ob (pm 2) 2 (mf (ph 2) (rho 2)), ia G (ph 2) 4 (fN (sh 7 (rho 2))), ob (pm 3) 2 (mf (ph 3) (rho 3)), ia G (ph 3) 4 (fN (sh 7 (rho 3))), ob (pm 4) 2 (mf (ph 4) (rho 4)), ia G (ph 4) 4 (fN (sh 7 (rho 4))), ob (pm 5) 2 (mf (ph 5) (rho 5)), ia G (ph 5) 4 (fN (sh 7 (rho 5))), ob (pm 6) 2 (mf (ph 6) (rho 6)), ia G (ph 6) 4 (fN (sh 7 (rho 6))), ob (pm 7) 2 (mf (ph 7) (rho 7)), ia G (ph 7) 4 (fN (sh 7 (rho 7)))]) [] [0, 1, 2, 3, 4, 5, 6, 7, 8, 9, 10, 11, 12, 13, 14, 15, 16, 17, 18, 19, 20] [0, 1, 2, 3, 4, 5, 6, 7, 8, 9, 10, 11, 12, 13, 14, 15, 16, 17, 18, 19, 20] ⟨rfl, rfl, rfl, fun _ => rfl⟩ rfl rfl ⟨Nat.le_refl _, Nat.le_refl _⟩ dX6_flood_4 rfl (fun r4 u4 hw4 => ?_)
  try dsimp only at hw4
  rcases hw4 with ⟨nnj, hnnl, hnnh, rfl, rfl⟩ | ⟨hw4, rfl⟩
  · skip
    refine zn_if_ne (tgt := 12) hX dX6_flood_7 (by decide) (by omega) (fun _ => ?_) (fun c7 => absurd c7 (by omega))
    refine z_aload_n hX 0 dX6_flood_12 rfl ?_
    refine z_get (v := .ref w) hX fX6 0 0 rfl rfl (Nat.le_of_ble_eq_true rfl) fl_X6_10 rfl dX6_flood_13 ?_
    refine z_callVv (st := []) hX (c_X5_remember _ G w now nh cr past pm ph o u s rho h h1 h2 h3) lb_X5_remember ml_X6_173 (fun (_u : Nat × (Nat → nst)) => [ob x 6 [.ref w, .ref kw, .int (nI ik), .ref tp, .ref sx, .ref fo, .ref gu, .ref ch], ob w 5 [.ref now, .ref cr, .ref past, .int (nI _u.1), .int (nI (pushU u))], ob now 2 (mf nh s), ia G nh 4 (fN (sh 7 s)), ma G past 8 (pmf pm), ob (pm 0) 2 (mf (ph 0) (_u.2 0)), ia G (ph 0) 4 (fN (sh 7 (_u.2 0))), ob (pm 1) 2 (mf (ph 1) (_u.2 1)), ia G (ph 1) 4 (fN (sh 7 (_u.2 1))), ob (pm 2) 2 (mf (ph 2) (_u.2 2)), ia G (ph 2) 4 (fN (sh 7 (_u.2 2))), ob (pm 3) 2 (mf (ph 3) (_u.2 3)), ia G (ph 3) 4 (fN (sh 7 (_u.2 3))), ob (pm 4) 2 (mf (ph 4) (_u.2 4)), ia G (ph 4) 4 (fN (sh 7 (_u.2 4))), ob (pm 5) 2 (mf (ph 5) (_u.2 5)), ia G (ph 5) 4 (fN (sh 7 (_u.2 5))), ob (pm 6) 2 (mf (ph 6) (_u.2 6)), ia G (ph 6) 4 (fN (sh 7 (_u.2 6))), ob (pm 7) 2 (mf (ph 7) (_u.2 7)), ia G (ph 7) 4 (fN (sh 7 (_u.2 7)))]) (wr := [ob x 6 [.ref w, .ref kw, .int (nI ik), .ref tp, .ref sx, .ref fo, .ref gu, .ref ch]]) [1, 4, 2, 3, 5, 6, 7, 8, 9, 10, 11, 12, 13, 14, 15, 16, 17, 18, 19, 20] [0] [0, 1, 3, 4, 2, 5, 6, 7, 8, 9, 10, 11, 12, 13, 14, 15, 16, 17, 18, 19, 20] ⟨rfl, rfl, rfl, fun _ => rfl⟩ 0 rfl rfl rfl rfl ⟨Nat.le_refl _, Nat.le_refl _⟩ dX6_flood_16 rfl (fun  u16 hw16 => ?_)
    obtain ⟨o2_1, rho2_2⟩ := u16
    refine z_aload_n hX 0 dX6_flood_19 rfl ?_
    refine z_get (v := .ref w) hX fX6 0 0 rfl rfl (Nat.le_of_ble_eq_true rfl) fl_X6_10 rfl dX6_flood_20 ?_
    refine z_get (v := .ref now) hX fX5 1 0 rfl rfl (Nat.le_of_ble_eq_true rfl) fl_X6_88 rfl dX6_flood_23 ?_
    refine z_iload_n hX 1 dX6_flood_26 rfl ?_
    refine z_callVv (st := []) hX (c_X2_loseAll _ G now nh s nnj h0.2.2.2.2.2.1 (by omega)) lb_X2_loseAll ml_X6_181 (fun (_u : Unit) => [ob x 6 [.ref w, .ref kw, .int (nI ik), .ref tp, .ref sx, .ref fo, .ref gu, .ref ch], ob w 5 [.ref now, .ref cr, .ref past, .int (nI o2_1), .int (nI (pushU u))], ob now 2 (mf nh (floodS nnj s)), ia G nh 4 (fN (sh 7 (floodS nnj s))), ma G past 8 (pmf pm), ob (pm 0) 2 (mf (ph 0) (rho2_2 0)), ia G (ph 0) 4 (fN (sh 7 (rho2_2 0))), ob (pm 1) 2 (mf (ph 1) (rho2_2 1)), ia G (ph 1) 4 (fN (sh 7 (rho2_2 1))), ob (pm 2) 2 (mf (ph 2) (rho2_2 2)), ia G (ph 2) 4 (fN (sh 7 (rho2_2 2))), ob (pm 3) 2 (mf (ph 3) (rho2_2 3)), ia G (ph 3) 4 (fN (sh 7 (rho2_2 3))), ob (pm 4) 2 (mf (ph 4) (rho2_2 4)), ia G (ph 4) 4 (fN (sh 7 (rho2_2 4))), ob (pm 5) 2 (mf (ph 5) (rho2_2 5)), ia G (ph 5) 4 (fN (sh 7 (rho2_2 5))), ob (pm 6) 2 (mf (ph 6) (rho2_2 6)), ia G (ph 6) 4 (fN (sh 7 (rho2_2 6))), ob (pm 7) 2 (mf (ph 7) (rho2_2 7)), ia G (ph 7) 4 (fN (sh 7 (rho2_2 7)))]) (wr := [ob x 6 [.ref w, .ref kw, .int (nI ik), .ref tp, .ref sx, .ref fo, .ref gu, .ref ch], ob w 5 [.ref now, .ref cr, .ref past, .int (nI o2_1), .int (nI (pushU u))], ma G past 8 (pmf pm), ob (pm 0) 2 (mf (ph 0) (rho2_2 0)), ia G (ph 0) 4 (fN (sh 7 (rho2_2 0))), ob (pm 1) 2 (mf (ph 1) (rho2_2 1)), ia G (ph 1) 4 (fN (sh 7 (rho2_2 1))), ob (pm 2) 2 (mf (ph 2) (rho2_2 2)), ia G (ph 2) 4 (fN (sh 7 (rho2_2 2))), ob (pm 3) 2 (mf (ph 3) (rho2_2 3)), ia G (ph 3) 4 (fN (sh 7 (rho2_2 3))), ob (pm 4) 2 (mf (ph 4) (rho2_2 4)), ia G (ph 4) 4 (fN (sh 7 (rho2_2 4))), ob (pm 5) 2 (mf (ph 5) (rho2_2 5)), ia G (ph 5) 4 (fN (sh 7 (rho2_2 5))), ob (pm 6) 2 (mf (ph 6) (rho2_2 6)), ia G (ph 6) 4 (fN (sh 7 (rho2_2 6))), ob (pm 7) 2 (mf (ph 7) (rho2_2 7)), ia G (ph 7) 4 (fN (sh 7 (rho2_2 7)))]) [2, 3] [0, 1, 4, 5, 6, 7, 8, 9, 10, 11, 12, 13, 14, 15, 16, 17, 18, 19, 20] [0, 1, 19, 20, 2, 3, 4, 5, 6, 7, 8, 9, 10, 11, 12, 13, 14, 15, 16, 17, 18] ⟨rfl, rfl, rfl, fun _ => rfl⟩ 0 rfl rfl rfl rfl ⟨Nat.le_refl _, Nat.le_refl _⟩ dX6_flood_27 rfl (fun  u27 hw27 => ?_)
    refine z_aload_n hX 0 dX6_flood_30 rfl ?_
    refine z_get (v := .ref w) hX fX6 0 0 rfl rfl (Nat.le_of_ble_eq_true rfl) fl_X6_10 rfl dX6_flood_31 ?_
    refine z_get (v := .ref now) hX fX5 1 0 rfl rfl (Nat.le_of_ble_eq_true rfl) fl_X6_88 rfl dX6_flood_34 ?_
    refine z_callVi (st := []) hX (c_X2_holes _ G now nh (floodS nnj s) (WF_flood h0 nnj).2.2.2.2.2.1) lb_X2_holes ml_X6_163 (fun (_u : Unit) => [ob x 6 [.ref w, .ref kw, .int (nI ik), .ref tp, .ref sx, .ref fo, .ref gu, .ref ch], ob w 5 [.ref now, .ref cr, .ref past, .int (nI o2_1), .int (nI (pushU u))], ob now 2 (mf nh (floodS nnj s)), ia G nh 4 (fN (sh 7 (floodS nnj s))), ma G past 8 (pmf pm), ob (pm 0) 2 (mf (ph 0) (rho2_2 0)), ia G (ph 0) 4 (fN (sh 7 (rho2_2 0))), ob (pm 1) 2 (mf (ph 1) (rho2_2 1)), ia G (ph 1) 4 (fN (sh 7 (rho2_2 1))), ob (pm 2) 2 (mf (ph 2) (rho2_2 2)), ia G (ph 2) 4 (fN (sh 7 (rho2_2 2))), ob (pm 3) 2 (mf (ph 3) (rho2_2 3)), ia G (ph 3) 4 (fN (sh 7 (rho2_2 3))), ob (pm 4) 2 (mf (ph 4) (rho2_2 4)), ia G (ph 4) 4 (fN (sh 7 (rho2_2 4))), ob (pm 5) 2 (mf (ph 5) (rho2_2 5)), ia G (ph 5) 4 (fN (sh 7 (rho2_2 5))), ob (pm 6) 2 (mf (ph 6) (rho2_2 6)), ia G (ph 6) 4 (fN (sh 7 (rho2_2 6))), ob (pm 7) 2 (mf (ph 7) (rho2_2 7)), ia G (ph 7) 4 (fN (sh 7 (rho2_2 7)))]) (wr := [ob x 6 [.ref w, .ref kw, .int (nI ik), .ref tp, .ref sx, .ref fo, .ref gu, .ref ch], ob w 5 [.ref now, .ref cr, .ref past, .int (nI o2_1), .int (nI (pushU u))], ma G past 8 (pmf pm), ob (pm 0) 2 (mf (ph 0) (rho2_2 0)), ia G (ph 0) 4 (fN (sh 7 (rho2_2 0))), ob (pm 1) 2 (mf (ph 1) (rho2_2 1)), ia G (ph 1) 4 (fN (sh 7 (rho2_2 1))), ob (pm 2) 2 (mf (ph 2) (rho2_2 2)), ia G (ph 2) 4 (fN (sh 7 (rho2_2 2))), ob (pm 3) 2 (mf (ph 3) (rho2_2 3)), ia G (ph 3) 4 (fN (sh 7 (rho2_2 3))), ob (pm 4) 2 (mf (ph 4) (rho2_2 4)), ia G (ph 4) 4 (fN (sh 7 (rho2_2 4))), ob (pm 5) 2 (mf (ph 5) (rho2_2 5)), ia G (ph 5) 4 (fN (sh 7 (rho2_2 5))), ob (pm 6) 2 (mf (ph 6) (rho2_2 6)), ia G (ph 6) 4 (fN (sh 7 (rho2_2 6))), ob (pm 7) 2 (mf (ph 7) (rho2_2 7)), ia G (ph 7) 4 (fN (sh 7 (rho2_2 7)))]) [2, 3] [0, 1, 4, 5, 6, 7, 8, 9, 10, 11, 12, 13, 14, 15, 16, 17, 18, 19, 20] [0, 1, 19, 20, 2, 3, 4, 5, 6, 7, 8, 9, 10, 11, 12, 13, 14, 15, 16, 17, 18] ⟨rfl, rfl, rfl, fun _ => rfl⟩ 0 rfl rfl rfl rfl ⟨Nat.le_refl _, Nat.le_refl _⟩ dX6_flood_37 rfl (fun r37 u37 hw37 => ?_)
    subst hw37
    rw [inb_t (by omega) (by omega) (by omega), gN_nI (show nnj < 2147483648 by omega)] at hR
    exact hR _ (o2_1, rho2_2) _ _ ⟨by unfold spFlood; rw [if_pos (inb_t (by omega) (by omega) (by omega)), gN_nI (by omega)], hw16.1, hw16.2⟩ dX6_flood_40 rfl
  · have hb_nn : inb nn 1 40 = false := hw4
    refine zn_if_ne (tgt := 12) hX dX6_flood_7 (by decide) (by omega) (fun c7 => absurd c7 (by omega)) (fun _ => ?_)
    refine z_iconst (v := (-1)) hX dX6_flood_10 (by decide) ?_
    rw [hb_nn] at hR
    exact hR _ (o, rho) _ _ ⟨by unfold spFlood; rw [if_neg (by simp [hb_nn])], h1, h3⟩ dX6_flood_11 rfl
set_option maxRecDepth 100000 in
set_option maxHeartbeats 4000000 in
theorem c_X6_undo (l : Launch) (G : zG) (x : Nat) (w : Nat) (kw : Nat) (ik : Nat) (tp : Nat) (sx : Nat) (fo : Nat) (gu : Nat) (ch : Nat) (now : Nat) (nh : Nat) (cr : Nat) (past : Nat) (o : Nat) (u : Nat) (s : nst) (pm : Nat → Nat) (ph : Nat → Nat) (rho : Nat → nst) (h : Nat → nst) (h0 : o < 8) (h1 : u ≤ 8) (h2 : RH o u rho h) : zMi l G yX6_undo cX6_undo 1 .int 3 0 0 63 [.ref x] [ob x 6 [.ref w, .ref kw, .int (nI ik), .ref tp, .ref sx, .ref fo, .ref gu, .ref ch], ob w 5 [.ref now, .ref cr, .ref past, .int (nI o), .int (nI u)], ob now 2 (mf nh s), ia G nh 4 (fN (sh 7 s)), ma G past 8 (pmf pm), ob (pm 0) 2 (mf (ph 0) (rho 0)), ia G (ph 0) 4 (fN (sh 7 (rho 0))), ob (pm 1) 2 (mf (ph 1) (rho 1)), ia G (ph 1) 4 (fN (sh 7 (rho 1))), ob (pm 2) 2 (mf (ph 2) (rho 2)), ia G (ph 2) 4 (fN (sh 7 (rho 2))), ob (pm 3) 2 (mf (ph 3) (rho 3)), ia G (ph 3) 4 (fN (sh 7 (rho 3))), ob (pm 4) 2 (mf (ph 4) (rho 4)), ia G (ph 4) 4 (fN (sh 7 (rho 4))), ob (pm 5) 2 (mf (ph 5) (rho 5)), ia G (ph 5) 4 (fN (sh 7 (rho 5))), ob (pm 6) 2 (mf (ph 6) (rho 6)), ia G (ph 6) 4 (fN (sh 7 (rho 6))), ob (pm 7) 2 (mf (ph 7) (rho 7)), ia G (ph 7) 4 (fN (sh 7 (rho 7)))] (fun (r : Int32) (_u : Unit) => r = (if u = 0 then -4 else nI (u - 1))) (fun (_u : Unit) => [ob x 6 [.ref w, .ref kw, .int (nI ik), .ref tp, .ref sx, .ref fo, .ref gu, .ref ch], ob w 5 [.ref now, .ref cr, .ref past, .int (nI o), .int (nI (u - 1))], ob now 2 (mf nh (cond (decide (u = 0)) (s) (h (u - 1)))), ia G nh 4 (fN (sh 7 (cond (decide (u = 0)) (s) (h (u - 1))))), ma G past 8 (pmf pm), ob (pm 0) 2 (mf (ph 0) (rho 0)), ia G (ph 0) 4 (fN (sh 7 (rho 0))), ob (pm 1) 2 (mf (ph 1) (rho 1)), ia G (ph 1) 4 (fN (sh 7 (rho 1))), ob (pm 2) 2 (mf (ph 2) (rho 2)), ia G (ph 2) 4 (fN (sh 7 (rho 2))), ob (pm 3) 2 (mf (ph 3) (rho 3)), ia G (ph 3) 4 (fN (sh 7 (rho 3))), ob (pm 4) 2 (mf (ph 4) (rho 4)), ia G (ph 4) 4 (fN (sh 7 (rho 4))), ob (pm 5) 2 (mf (ph 5) (rho 5)), ia G (ph 5) 4 (fN (sh 7 (rho 5))), ob (pm 6) 2 (mf (ph 6) (rho 6)), ia G (ph 6) 4 (fN (sh 7 (rho 6))), ob (pm 7) 2 (mf (ph 7) (rho 7)), ia G (ph 7) 4 (fN (sh 7 (rho 7)))]) := by
  refine zMi.of (by decide) rfl (fun X A H0 hX hXl hR => ?_)
  show Z (X, G, A, H0, 1) 0 0 [ob x 6 [.ref w, .ref kw, .int (nI ik), .ref tp, .ref sx, .ref fo, .ref gu, .ref ch], ob w 5 [.ref now, .ref cr, .ref past, .int (nI o), .int (nI u)], ob now 2 (mf nh s), ia G nh 4 (fN (sh 7 s)), ma G past 8 (pmf pm), ob (pm 0) 2 (mf (ph 0) (rho 0)), ia G (ph 0) 4 (fN (sh 7 (rho 0))), ob (pm 1) 2 (mf (ph 1) (rho 1)), ia G (ph 1) 4 (fN (sh 7 (rho 1))), ob (pm 2) 2 (mf (ph 2) (rho 2)), ia G (ph 2) 4 (fN (sh 7 (rho 2))), ob (pm 3) 2 (mf (ph 3) (rho 3)), ia G (ph 3) 4 (fN (sh 7 (rho 3))), ob (pm 4) 2 (mf (ph 4) (rho 4)), ia G (ph 4) 4 (fN (sh 7 (rho 4))), ob (pm 5) 2 (mf (ph 5) (rho 5)), ia G (ph 5) 4 (fN (sh 7 (rho 5))), ob (pm 6) 2 (mf (ph 6) (rho 6)), ia G (ph 6) 4 (fN (sh 7 (rho 6))), ob (pm 7) 2 (mf (ph 7) (rho 7)), ia G (ph 7) 4 (fN (sh 7 (rho 7)))] 0 [(0, .ref x)] []
  subst hXl
  refine z_aload_n hX 0 dX6_undo_0 rfl ?_
  refine z_get (v := .ref w) hX fX6 0 0 rfl rfl (Nat.le_of_ble_eq_true rfl) fl_X6_10 rfl dX6_undo_1 ?_
  refine z_get (v := .int (nI u)) hX fX5 1 4 rfl rfl (Nat.le_of_ble_eq_true rfl) fl_X6_166 rfl dX6_undo_4 ?_
  refine zn_if_ne (tgt := 13) hX dX6_undo_7 (by decide) (by omega) (fun c7 => ?_) (fun c7 => ?_)
  · skip
    refine z_aload_n hX 0 dX6_undo_13 rfl ?_
    refine z_get (v := .ref w) hX fX6 0 0 rfl rfl (Nat.le_of_ble_eq_true rfl) fl_X6_10 rfl dX6_undo_14 ?_
    refine z_callVv (st := []) hX (c_X5_goBack _ G w now nh cr past pm ph o u s rho h h0 (by omega) h2) lb_X5_goBack ml_X6_185 (fun (_u : nst) => [ob x 6 [.ref w, .ref kw, .int (nI ik), .ref tp, .ref sx, .ref fo, .ref gu, .ref ch], ob w 5 [.ref now, .ref cr, .ref past, .int (nI o), .int (nI (u - 1))], ob now 2 (mf nh _u), ia G nh 4 (fN (sh 7 _u)), ma G past 8 (pmf pm), ob (pm 0) 2 (mf (ph 0) (rho 0)), ia G (ph 0) 4 (fN (sh 7 (rho 0))), ob (pm 1) 2 (mf (ph 1) (rho 1)), ia G (ph 1) 4 (fN (sh 7 (rho 1))), ob (pm 2) 2 (mf (ph 2) (rho 2)), ia G (ph 2) 4 (fN (sh 7 (rho 2))), ob (pm 3) 2 (mf (ph 3) (rho 3)), ia G (ph 3) 4 (fN (sh 7 (rho 3))), ob (pm 4) 2 (mf (ph 4) (rho 4)), ia G (ph 4) 4 (fN (sh 7 (rho 4))), ob (pm 5) 2 (mf (ph 5) (rho 5)), ia G (ph 5) 4 (fN (sh 7 (rho 5))), ob (pm 6) 2 (mf (ph 6) (rho 6)), ia G (ph 6) 4 (fN (sh 7 (rho 6))), ob (pm 7) 2 (mf (ph 7) (rho 7)), ia G (ph 7) 4 (fN (sh 7 (rho 7)))]) (wr := [ob x 6 [.ref w, .ref kw, .int (nI ik), .ref tp, .ref sx, .ref fo, .ref gu, .ref ch]]) [1, 4, 2, 3, 5, 6, 7, 8, 9, 10, 11, 12, 13, 14, 15, 16, 17, 18, 19, 20] [0] [0, 1, 3, 4, 2, 5, 6, 7, 8, 9, 10, 11, 12, 13, 14, 15, 16, 17, 18, 19, 20] ⟨rfl, rfl, rfl, fun _ => rfl⟩ 0 rfl rfl rfl rfl ⟨Nat.le_refl _, Nat.le_refl _⟩ dX6_undo_17 rfl (fun  u17 hw17 => ?_)
    obtain ⟨s2_1, rfl⟩ : ∃ z9, z9 = u17 := ⟨_, rfl⟩
    refine z_aload_n hX 0 dX6_undo_20 rfl ?_
    refine z_get (v := .ref w) hX fX6 0 0 rfl rfl (Nat.le_of_ble_eq_true rfl) fl_X6_10 rfl dX6_undo_21 ?_
    refine z_get (v := .int (nI (u - 1))) hX fX5 1 4 rfl rfl (Nat.le_of_ble_eq_true rfl) fl_X6_166 rfl dX6_undo_24 ?_
    refine z_moext 2 3 (s := s2_1) (t := h (u - 1)) rfl rfl hw17 (ws' := [ob x 6 [.ref w, .ref kw, .int (nI ik), .ref tp, .ref sx, .ref fo, .ref gu, .ref ch], ob w 5 [.ref now, .ref cr, .ref past, .int (nI o), .int (nI (u - 1))], ob now 2 (mf nh (h (u - 1))), ia G nh 4 (fN (sh 7 (h (u - 1)))), ma G past 8 (pmf pm), ob (pm 0) 2 (mf (ph 0) (rho 0)), ia G (ph 0) 4 (fN (sh 7 (rho 0))), ob (pm 1) 2 (mf (ph 1) (rho 1)), ia G (ph 1) 4 (fN (sh 7 (rho 1))), ob (pm 2) 2 (mf (ph 2) (rho 2)), ia G (ph 2) 4 (fN (sh 7 (rho 2))), ob (pm 3) 2 (mf (ph 3) (rho 3)), ia G (ph 3) 4 (fN (sh 7 (rho 3))), ob (pm 4) 2 (mf (ph 4) (rho 4)), ia G (ph 4) 4 (fN (sh 7 (rho 4))), ob (pm 5) 2 (mf (ph 5) (rho 5)), ia G (ph 5) 4 (fN (sh 7 (rho 5))), ob (pm 6) 2 (mf (ph 6) (rho 6)), ia G (ph 6) 4 (fN (sh 7 (rho 6))), ob (pm 7) 2 (mf (ph 7) (rho 7)), ia G (ph 7) 4 (fN (sh 7 (rho 7)))]) rfl ?_
    rw [decide_eq_false c7] at hR
    exact hR _ () _ _ (if_neg c7).symm dX6_undo_27 rfl
  · skip
    refine z_bipush (v := (-4)) hX dX6_undo_10 (by decide) ?_
    subst c7
    exact hR _ () _ _ rfl dX6_undo_12 rfl
set_option maxRecDepth 100000 in
set_option maxHeartbeats 4000000 in
theorem c_X6_seed (l : Launch) (G : zG) (x : Nat) (w : Nat) (kw : Nat) (ik : Nat) (tp : Nat) (sx : Nat) (fo : Nat) (gu : Nat) (ch : Nat) (now : Nat) (nh : Nat) (cr : Nat) (past : Nat) (o : Nat) (u : Nat) (s : nst) (v : Int32)  : zMi l G yX6_seed cX6_seed 3 .int 0 0 0 0 [.ref x, .int v] [ob x 6 [.ref w, .ref kw, .int (nI ik), .ref tp, .ref sx, .ref fo, .ref gu, .ref ch], ob w 5 [.ref now, .ref cr, .ref past, .int (nI o), .int (nI u)], ob now 2 (mf nh s), ia G nh 4 (fN (sh 7 s))] (fun (r : Int32) (_u : Unit) => r = spSeed s v) (fun (_u : Unit) => [ob x 6 [.ref w, .ref kw, .int (nI ik), .ref tp, .ref sx, .ref fo, .ref gu, .ref ch], ob w 5 [.ref now, .ref cr, .ref past, .int (nI o), .int (nI u)], ob now 2 (mf nh (cond (okSeed v) (va_up s 6 (gN v)) (s))), ia G nh 4 (fN (sh 7 (cond (okSeed v) (va_up s 6 (gN v)) (s))))]) := by
  refine zMi.of (by decide) rfl (fun X A H0 hX hXl hR => ?_)
  show Z (X, G, A, H0, 3) 0 0 [ob x 6 [.ref w, .ref kw, .int (nI ik), .ref tp, .ref sx, .ref fo, .ref gu, .ref ch], ob w 5 [.ref now, .ref cr, .ref past, .int (nI o), .int (nI u)], ob now 2 (mf nh s), ia G nh 4 (fN (sh 7 s))] 0 [(0, .ref x), (1, .int v)] []
  subst hXl
  refine z_iload_n hX 1 dX6_seed_0 rfl ?_
  refine z_if_ge (tgt := 6) hX dX6_seed_1 (by decide) (fun c1 => ?_) (fun c1 => ?_)
  · have c2 : ¬ v < 0 := by rw [Int32.not_lt]; exact c1
    obtain ⟨vj, hvj, rfl⟩ := nI_of c2
    refine z_aload_n hX 0 dX6_seed_6 rfl ?_
    refine z_get (v := .ref w) hX fX6 0 0 rfl rfl (Nat.le_of_ble_eq_true rfl) fl_X6_10 rfl dX6_seed_7 ?_
    refine z_get (v := .ref now) hX fX5 1 0 rfl rfl (Nat.le_of_ble_eq_true rfl) fl_X6_88 rfl dX6_seed_10 ?_
    refine z_get (v := .int (nI (s 6))) hX fX2 2 6 rfl rfl (Nat.le_of_ble_eq_true rfl) fl_X6_188 rfl dX6_seed_13 ?_
    refine z_istore_n (L' := [(2, .int (nI (s 6))), (0, .ref x), (1, .int (nI vj))]) hX dX6_seed_16 (Nat.le_of_ble_eq_true rfl) rfl ?_
    refine z_aload_n hX 1 dX6_seed_17 rfl ?_
    refine z_get (v := .ref w) hX fX6 0 0 rfl rfl (Nat.le_of_ble_eq_true rfl) fl_X6_10 rfl dX6_seed_18 ?_
    refine z_get (v := .ref now) hX fX5 1 0 rfl rfl (Nat.le_of_ble_eq_true rfl) fl_X6_88 rfl dX6_seed_21 ?_
    refine z_iload_n hX 2 dX6_seed_24 rfl ?_
    refine z_putM (v := vj) (ws' := [ob x 6 [.ref w, .ref kw, .int (nI ik), .ref tp, .ref sx, .ref fo, .ref gu, .ref ch], ob w 5 [.ref now, .ref cr, .ref past, .int (nI o), .int (nI u)], ob now 2 (mf nh (va_up s 6 vj)), ia G nh 4 (fN (sh 7 (va_up s 6 vj)))]) hX 2 3 6 6 rfl rfl rfl rfl rfl fl_X6_188 rfl rfl rfl rfl dX6_seed_25 ?_
    refine z_iload_n hX 0 dX6_seed_28 rfl ?_
    have e0 : okSeed (nI vj) = true := by
      unfold okSeed
      simp [c2]
    rw [e0, gN_nI hvj] at hR
    exact hR _ () _ _ (by unfold spSeed; rw [if_neg c2]) dX6_seed_29 rfl
  · have c2 : v < 0 := by rw [← Int32.not_le]; exact c1
    refine z_iconst (v := (-1)) hX dX6_seed_4 (by decide) ?_
    have e0 : okSeed v = false := by
      unfold okSeed
      simp [c2]
    rw [e0] at hR
    exact hR _ () _ _ (by unfold spSeed; rw [if_pos c2]) dX6_seed_5 rfl
set_option maxRecDepth 100000 in
set_option maxHeartbeats 4000000 in
theorem c_X6_live0 (l : Launch) (G : zG) (x : Nat) (w : Nat) (kw : Nat) (ik : Nat) (tp : Nat) (sx : Nat) (fo : Nat) (gu : Nat) (ch : Nat) (now : Nat) (nh : Nat) (cr : Nat) (past : Nat) (o : Nat) (u : Nat) (s : nst) (ck : Nat) (cl : Nat) (ce : Nat) (sz : Nat) (fk : Nat → Int32) (fl : Nat → Int32) (fe : Nat → Int32) (pm : Nat → Nat) (ph : Nat → Nat) (rho : Nat → nst) (h : Nat → nst) (nn : Int32) (h0 : WF 9999 0 s) (h1 : CR s fk fl fe) (h2 : sz = s 0) (h3 : o < 8) (h4 : u ≤ 8) (h5 : RH o u rho h) : zMi l G yX6_live cX6_live 5 .int 3 0 0 72 [.ref x, .int nn, .int (nI 0)] [ob x 6 [.ref w, .ref kw, .int (nI ik), .ref tp, .ref sx, .ref fo, .ref gu, .ref ch], ob w 5 [.ref now, .ref cr, .ref past, .int (nI o), .int (nI u)], ob now 2 (mf nh s), ia G nh 4 (fN (sh 7 s)), ob cr 1 [.ref ck, .ref cl, .ref ce, .int (nI sz)], ia G ck 6 fk, ia G cl 6 fl, ia G ce 6 fe, ma G past 8 (pmf pm), ob (pm 0) 2 (mf (ph 0) (rho 0)), ia G (ph 0) 4 (fN (sh 7 (rho 0))), ob (pm 1) 2 (mf (ph 1) (rho 1)), ia G (ph 1) 4 (fN (sh 7 (rho 1))), ob (pm 2) 2 (mf (ph 2) (rho 2)), ia G (ph 2) 4 (fN (sh 7 (rho 2))), ob (pm 3) 2 (mf (ph 3) (rho 3)), ia G (ph 3) 4 (fN (sh 7 (rho 3))), ob (pm 4) 2 (mf (ph 4) (rho 4)), ia G (ph 4) 4 (fN (sh 7 (rho 4))), ob (pm 5) 2 (mf (ph 5) (rho 5)), ia G (ph 5) 4 (fN (sh 7 (rho 5))), ob (pm 6) 2 (mf (ph 6) (rho 6)), ia G (ph 6) 4 (fN (sh 7 (rho 6))), ob (pm 7) 2 (mf (ph 7) (rho 7)), ia G (ph 7) 4 (fN (sh 7 (rho 7)))] (fun (r : Int32) (_u : Nat × (Nat → nst)) => r = spDays false s nn ∧ _u.1 < 8 ∧ RH _u.1 (cond (okDays s nn) (lvU (gN nn) u) (u)) _u.2 (cond (okDays s nn) (lvH false h s u (gN nn)) (h))) (fun (_u : Nat × (Nat → nst)) => [ob x 6 [.ref w, .ref kw, .int (nI ik), .ref tp, .ref sx, .ref fo, .ref gu, .ref ch], ob w 5 [.ref now, .ref cr, .ref past, .int (nI _u.1), .int (nI (cond (okDays s nn) (lvU (gN nn) u) (u)))], ob now 2 (mf nh (cond (okDays s nn) (lvS false (gN nn) s) (s))), ia G nh 4 (fN (sh 7 (cond (okDays s nn) (lvS false (gN nn) s) (s)))), ob cr 1 [.ref ck, .ref cl, .ref ce, .int (nI sz)], ia G ck 6 fk, ia G cl 6 fl, ia G ce 6 fe, ma G past 8 (pmf pm), ob (pm 0) 2 (mf (ph 0) (_u.2 0)), ia G (ph 0) 4 (fN (sh 7 (_u.2 0))), ob (pm 1) 2 (mf (ph 1) (_u.2 1)), ia G (ph 1) 4 (fN (sh 7 (_u.2 1))), ob (pm 2) 2 (mf (ph 2) (_u.2 2)), ia G (ph 2) 4 (fN (sh 7 (_u.2 2))), ob (pm 3) 2 (mf (ph 3) (_u.2 3)), ia G (ph 3) 4 (fN (sh 7 (_u.2 3))), ob (pm 4) 2 (mf (ph 4) (_u.2 4)), ia G (ph 4) 4 (fN (sh 7 (_u.2 4))), ob (pm 5) 2 (mf (ph 5) (_u.2 5)), ia G (ph 5) 4 (fN (sh 7 (_u.2 5))), ob (pm 6) 2 (mf (ph 6) (_u.2 6)), ia G (ph 6) 4 (fN (sh 7 (_u.2 6))), ob (pm 7) 2 (mf (ph 7) (_u.2 7)), ia G (ph 7) 4 (fN (sh 7 (_u.2 7)))]) := by
  refine zMi.of (by decide) rfl (fun X A H0 hX hXl hR => ?_)
  show Z (X, G, A, H0, 5) 0 0 [ob x 6 [.ref w, .ref kw, .int (nI ik), .ref tp, .ref sx, .ref fo, .ref gu, .ref ch], ob w 5 [.ref now, .ref cr, .ref past, .int (nI o), .int (nI u)], ob now 2 (mf nh s), ia G nh 4 (fN (sh 7 s)), ob cr 1 [.ref ck, .ref cl, .ref ce, .int (nI sz)], ia G ck 6 fk, ia G cl 6 fl, ia G ce 6 fe, ma G past 8 (pmf pm), ob (pm 0) 2 (mf (ph 0) (rho 0)), ia G (ph 0) 4 (fN (sh 7 (rho 0))), ob (pm 1) 2 (mf (ph 1) (rho 1)), ia G (ph 1) 4 (fN (sh 7 (rho 1))), ob (pm 2) 2 (mf (ph 2) (rho 2)), ia G (ph 2) 4 (fN (sh 7 (rho 2))), ob (pm 3) 2 (mf (ph 3) (rho 3)), ia G (ph 3) 4 (fN (sh 7 (rho 3))), ob (pm 4) 2 (mf (ph 4) (rho 4)), ia G (ph 4) 4 (fN (sh 7 (rho 4))), ob (pm 5) 2 (mf (ph 5) (rho 5)), ia G (ph 5) 4 (fN (sh 7 (rho 5))), ob (pm 6) 2 (mf (ph 6) (rho 6)), ia G (ph 6) 4 (fN (sh 7 (rho 6))), ob (pm 7) 2 (mf (ph 7) (rho 7)), ia G (ph 7) 4 (fN (sh 7 (rho 7)))] 0 [(0, .ref x), (1, .int nn), (2, .int (nI 0))] []
  subst hXl
  have z1 := h0.2.1
  refine z_iload_n hX 1 dX6_live_0 rfl ?_
  refine z_iconst (v := nI 1) hX dX6_live_1 (by decide) ?_
  refine z_bipush (v := nI 40) hX dX6_live_2 (by decide) ?_
  refine z_callSi (st := []) hX (c_X6_isWithinX _ G nn 1 40 (by omega) (by omega)) lb_X6_isWithin ml_X6_62 (fun (_u : Unit) => [ob x 6 [.ref w, .ref kw, .int (nI ik), .ref tp, .ref sx, .ref fo, .ref gu, .ref ch], ob w 5 [.ref now, .ref cr, .ref past, .int (nI o), .int (nI u)], ob now 2 (mf nh s), ia G nh 4 (fN (sh 7 s)), ob cr 1 [.ref ck, .ref cl, .ref ce, .int (nI sz)], ia G ck 6 fk, ia G cl 6 fl, ia G ce 6 fe, ma G past 8 (pmf pm), ob (pm 0) 2 (mf (ph 0) (rho 0)), ia G (ph 0) 4 (fN (sh 7 (rho 0))), ob (pm 1) 2 (mf (ph 1) (rho 1)), ia G (ph 1) 4 (fN (sh 7 (rho 1))), ob (pm 2) 2 (mf (ph 2) (rho 2)), ia G (ph 2) 4 (fN (sh 7 (rho 2))), ob (pm 3) 2 (mf (ph 3) (rho 3)), ia G (ph 3) 4 (fN (sh 7 (rho 3))), ob (pm 4) 2 (mf (ph 4) (rho 4)), ia G (ph 4) 4 (fN (sh 7 (rho 4))), ob (pm 5) 2 (mf (ph 5) (rho 5)), ia G (ph 5) 4 (fN (sh 7 (rho 5))), ob (pm 6) 2 (mf (ph 6) (rho 6)), ia G (ph 6) 4 (fN (sh 7 (rho 6))), ob (pm 7) 2 (mf (ph 7) (rho 7)), ia G (ph 7) 4 (fN (sh 7 (rho 7)))]) (wr := [ob x 6 [.ref w, .ref kw, .int (nI ik), .ref tp, .ref sx, .ref fo, .ref gu, .ref ch], ob w 5 [.ref now, .ref cr, .ref past, .int (nI o), .int (nI u)], ob now 2 (mf nh s), ia G nh 4 (fN (sh 7 s)), ob cr 1 [.ref ck, .ref cl, .ref ce, .int (nI sz)], ia G ck 6 fk, ia G cl 6 fl, ia G ce 6 fe, ma G past 8 (pmf pm), ob (pm 0) 2 (mf (ph 0) (rho 0)), ia G (ph 0) 4 (fN (sh 7 (rho 0))), ob (pm 1) 2 (mf (ph 1) (rho 1)), ia G (ph 1) 4 (fN (sh 7 (rho 1))), ob (pm 2) 2 (mf (ph 2) (rho 2)), ia G (ph 2) 4 (fN (sh 7 (rho 2))), ob (pm 3) 2 (mf (ph 3) (rho 3)), ia G (ph 3) 4 (fN (sh 7 (rho 3))), ob (pm 4) 2 (mf (ph 4) (rho 4)), ia G (ph 4) 4 (fN (sh 7 (rho 4))), ob (pm 5) 2 (mf (ph 5) (rho 5)), ia G (ph 5) 4 (fN (sh 7 (rho 5))), ob (pm 6) 2 (mf (ph 6) (rho 6)), ia G (ph 6) 4 (fN (sh 7 (rho 6))), ob (pm 7) 2 (mf (ph 7) (rho 7)), ia G (ph 7) 4 (fN (sh 7 (rho 7)))]) [] [0, 1, 2, 3, 4, 5, 6, 7, 8, 9, 10, 11, 12, 13, 14, 15, 16, 17, 18, 19, 20, 21, 22, 23, 24] [0, 1, 2, 3, 4, 5, 6, 7, 8, 9, 10, 11, 12, 13, 14, 15, 16, 17, 18, 19, 20, 21, 22, 23, 24] ⟨rfl, rfl, rfl, fun _ => rfl⟩ rfl rfl ⟨Nat.le_refl _, Nat.le_refl _⟩ dX6_live_4 rfl (fun r4 u4 hw4 => ?_)
  try dsimp only at hw4
  rcases hw4 with ⟨nnj, hnnl, hnnh, rfl, rfl⟩ | ⟨hw4, rfl⟩
  · skip
    refine zn_if_ne (tgt := 12) hX dX6_live_7 (by decide) (by omega) (fun _ => ?_) (fun c7 => absurd c7 (by omega))
    refine z_aload_n hX 0 dX6_live_12 rfl ?_
    refine z_get (v := .ref w) hX fX6 0 0 rfl rfl (Nat.le_of_ble_eq_true rfl) fl_X6_10 rfl dX6_live_13 ?_
    refine z_get (v := .ref now) hX fX5 1 0 rfl rfl (Nat.le_of_ble_eq_true rfl) fl_X6_88 rfl dX6_live_16 ?_
    refine z_get (v := .int (nI (s 1))) hX fX2 2 2 rfl rfl (Nat.le_of_ble_eq_true rfl) fl_X6_101 rfl dX6_live_19 ?_
    refine z_iload_n hX 1 dX6_live_22 rfl ?_
    refine z_iadd (v := (nI (s 1 + nnj))) hX dX6_live_23 (nI_add _ _) ?_
    refine z_sipush (v := nI 9999) hX dX6_live_24 (by decide) ?_
    refine zn_icmp_le (tgt := 33) hX dX6_live_27 (by decide) (by omega) (by omega) (fun c27 => ?_) (fun c27 => ?_)
    · skip
      refine z_aload_n hX 0 dX6_live_33 rfl ?_
      refine z_get (v := .ref w) hX fX6 0 0 rfl rfl (Nat.le_of_ble_eq_true rfl) fl_X6_10 rfl dX6_live_34 ?_
      refine z_get (v := .ref now) hX fX5 1 0 rfl rfl (Nat.le_of_ble_eq_true rfl) fl_X6_88 rfl dX6_live_37 ?_
      refine z_get (v := .int (nI (s 5))) hX fX2 2 5 rfl rfl (Nat.le_of_ble_eq_true rfl) fl_X6_156 rfl dX6_live_40 ?_
      refine z_istore_n (L' := [(3, .int (nI (s 5))), (0, .ref x), (1, .int (nI nnj)), (2, .int (nI 0))]) hX dX6_live_43 (Nat.le_of_ble_eq_true rfl) rfl ?_
      refine z_iconst (v := nI 0) hX dX6_live_44 (by decide) ?_
      refine z_istore (L' := [(4, .int (nI 0)), (3, .int (nI (s 5))), (0, .ref x), (1, .int (nI nnj)), (2, .int (nI 0))]) hX dX6_live_45 (Nat.le_of_ble_eq_true rfl) rfl ?_
      have lp47 : ∀ (n47 : Nat) (k : Nat) (q2 : Nat) (rr : Nat → nst), (nnj + 1 ≤ k + n47) → (k ≤ nnj) → (q2 < 8) → (RH q2 (lvU k u) rr (lvH false h s u k)) → Z (X, G, A, H0, 5) 0 0 [ob x 6 [.ref w, .ref kw, .int (nI ik), .ref tp, .ref sx, .ref fo, .ref gu, .ref ch], ob w 5 [.ref now, .ref cr, .ref past, .int (nI q2), .int (nI (lvU k u))], ob now 2 (mf nh (lvS false k s)), ia G nh 4 (fN (sh 7 (lvS false k s))), ob cr 1 [.ref ck, .ref cl, .ref ce, .int (nI sz)], ia G ck 6 fk, ia G cl 6 fl, ia G ce 6 fe, ma G past 8 (pmf pm), ob (pm 0) 2 (mf (ph 0) (rr 0)), ia G (ph 0) 4 (fN (sh 7 (rr 0))), ob (pm 1) 2 (mf (ph 1) (rr 1)), ia G (ph 1) 4 (fN (sh 7 (rr 1))), ob (pm 2) 2 (mf (ph 2) (rr 2)), ia G (ph 2) 4 (fN (sh 7 (rr 2))), ob (pm 3) 2 (mf (ph 3) (rr 3)), ia G (ph 3) 4 (fN (sh 7 (rr 3))), ob (pm 4) 2 (mf (ph 4) (rr 4)), ia G (ph 4) 4 (fN (sh 7 (rr 4))), ob (pm 5) 2 (mf (ph 5) (rr 5)), ia G (ph 5) 4 (fN (sh 7 (rr 5))), ob (pm 6) 2 (mf (ph 6) (rr 6)), ia G (ph 6) 4 (fN (sh 7 (rr 6))), ob (pm 7) 2 (mf (ph 7) (rr 7)), ia G (ph 7) 4 (fN (sh 7 (rr 7)))] 47 [(0, .ref x), (1, .int (nI nnj)), (2, .int (nI 0)), (3, .int (nI (s 5))), (4, .int (nI k))] [] := by
        intro n47
        induction n47 with
        | zero =>
          intro k q2 rr hn hk hq hr
          exfalso
          omega
        | succ n47 ih47 =>
          intro k q2 rr hn hk hq hr
          have wk := lvS_WF false h0 (k := k) (by omega)
          have uk := lvU_le h4 k
          have dk := lvS_day false s k
          have kz := lvS_keep false s (i := 0) (by omega) k
          refine z_iload hX 4 dX6_live_47 rfl ?_
          refine z_iload_n hX 1 dX6_live_49 rfl ?_
          refine zn_icmp_ge (tgt := 98) hX dX6_live_50 (by decide) (by omega) (by omega) (fun c50 => ?_) (fun c50 => ?_)
          · skip
            have f5 := lvS_fell false s k
            refine z_aload_n hX 0 dX6_live_98 rfl ?_
            refine z_get (v := .ref w) hX fX6 0 0 rfl rfl (Nat.le_of_ble_eq_true rfl) fl_X6_10 rfl dX6_live_99 ?_
            refine z_get (v := .ref now) hX fX5 1 0 rfl rfl (Nat.le_of_ble_eq_true rfl) fl_X6_88 rfl dX6_live_102 ?_
            refine z_get (v := .int (nI ((lvS false k s) 5))) hX fX2 2 5 rfl rfl (Nat.le_of_ble_eq_true rfl) fl_X6_156 rfl dX6_live_105 ?_
            refine z_iload_n hX 3 dX6_live_108 rfl ?_
            refine z_isub (v := (nI (((lvS false k s) 5) - (s 5)))) hX dX6_live_109 (pk_sub (by omega)) ?_
            have ek : k = nnj := by omega
            subst ek
            have e0 : okDays s (nI k) = true := by
              unfold okDays
              rw [inb_t (by omega) (by omega) (by omega)]
              simp [gN_nI (show k < 2147483648 by omega)]
              omega
            rw [e0, gN_nI (show k < 2147483648 by omega)] at hR
            exact hR _ (q2, rr) _ _ ⟨by unfold spDays; rw [if_pos (inb_t (by omega) (by omega) (by omega)), gN_nI (by omega), if_pos (by omega)], hq, hr⟩ dX6_live_110 rfl
          · skip
            refine z_aload_n hX 0 dX6_live_53 rfl ?_
            refine z_get (v := .ref w) hX fX6 0 0 rfl rfl (Nat.le_of_ble_eq_true rfl) fl_X6_10 rfl dX6_live_54 ?_
            refine z_callVv (st := []) hX (c_X5_remember _ G w now nh cr past pm ph q2 (lvU k u) (lvS false k s) rr (lvH false h s u k) hq uk hr) lb_X5_remember ml_X6_173 (fun (_u : Nat × (Nat → nst)) => [ob x 6 [.ref w, .ref kw, .int (nI ik), .ref tp, .ref sx, .ref fo, .ref gu, .ref ch], ob w 5 [.ref now, .ref cr, .ref past, .int (nI _u.1), .int (nI (pushU (lvU k u)))], ob now 2 (mf nh (lvS false k s)), ia G nh 4 (fN (sh 7 (lvS false k s))), ob cr 1 [.ref ck, .ref cl, .ref ce, .int (nI sz)], ia G ck 6 fk, ia G cl 6 fl, ia G ce 6 fe, ma G past 8 (pmf pm), ob (pm 0) 2 (mf (ph 0) (_u.2 0)), ia G (ph 0) 4 (fN (sh 7 (_u.2 0))), ob (pm 1) 2 (mf (ph 1) (_u.2 1)), ia G (ph 1) 4 (fN (sh 7 (_u.2 1))), ob (pm 2) 2 (mf (ph 2) (_u.2 2)), ia G (ph 2) 4 (fN (sh 7 (_u.2 2))), ob (pm 3) 2 (mf (ph 3) (_u.2 3)), ia G (ph 3) 4 (fN (sh 7 (_u.2 3))), ob (pm 4) 2 (mf (ph 4) (_u.2 4)), ia G (ph 4) 4 (fN (sh 7 (_u.2 4))), ob (pm 5) 2 (mf (ph 5) (_u.2 5)), ia G (ph 5) 4 (fN (sh 7 (_u.2 5))), ob (pm 6) 2 (mf (ph 6) (_u.2 6)), ia G (ph 6) 4 (fN (sh 7 (_u.2 6))), ob (pm 7) 2 (mf (ph 7) (_u.2 7)), ia G (ph 7) 4 (fN (sh 7 (_u.2 7)))]) (wr := [ob x 6 [.ref w, .ref kw, .int (nI ik), .ref tp, .ref sx, .ref fo, .ref gu, .ref ch], ob cr 1 [.ref ck, .ref cl, .ref ce, .int (nI sz)], ia G ck 6 fk, ia G cl 6 fl, ia G ce 6 fe]) [1, 8, 2, 3, 9, 10, 11, 12, 13, 14, 15, 16, 17, 18, 19, 20, 21, 22, 23, 24] [0, 4, 5, 6, 7] [0, 5, 7, 8, 1, 2, 3, 4, 6, 9, 10, 11, 12, 13, 14, 15, 16, 17, 18, 19, 20, 21, 22, 23, 24] ⟨rfl, rfl, rfl, fun _ => rfl⟩ 0 rfl rfl rfl rfl ⟨Nat.le_refl _, Nat.le_refl _⟩ dX6_live_57 rfl (fun  u57 hw57 => ?_)
            obtain ⟨o2_1, rho2_2⟩ := u57
            refine z_iload_n hX 2 dX6_live_60 rfl ?_
            refine zn_if_eq (tgt := 74) hX dX6_live_61 (by decide) (by omega) (fun _ => ?_) (fun c61 => absurd c61 (by omega))
            refine z_eq (ws' := [ob x 6 [.ref w, .ref kw, .int (nI ik), .ref tp, .ref sx, .ref fo, .ref gu, .ref ch], ob w 5 [.ref now, .ref cr, .ref past, .int (nI o2_1), .int (nI (pushU (lvU k u)))], ob now 2 (mf nh (drS false (lvS false k s))), ia G nh 4 (fN (sh 7 (drS false (lvS false k s)))), ob cr 1 [.ref ck, .ref cl, .ref ce, .int (nI sz)], ia G ck 6 fk, ia G cl 6 fl, ia G ce 6 fe, ma G past 8 (pmf pm), ob (pm 0) 2 (mf (ph 0) (rho2_2 0)), ia G (ph 0) 4 (fN (sh 7 (rho2_2 0))), ob (pm 1) 2 (mf (ph 1) (rho2_2 1)), ia G (ph 1) 4 (fN (sh 7 (rho2_2 1))), ob (pm 2) 2 (mf (ph 2) (rho2_2 2)), ia G (ph 2) 4 (fN (sh 7 (rho2_2 2))), ob (pm 3) 2 (mf (ph 3) (rho2_2 3)), ia G (ph 3) 4 (fN (sh 7 (rho2_2 3))), ob (pm 4) 2 (mf (ph 4) (rho2_2 4)), ia G (ph 4) 4 (fN (sh 7 (rho2_2 4))), ob (pm 5) 2 (mf (ph 5) (rho2_2 5)), ia G (ph 5) 4 (fN (sh 7 (rho2_2 5))), ob (pm 6) 2 (mf (ph 6) (rho2_2 6)), ia G (ph 6) 4 (fN (sh 7 (rho2_2 6))), ob (pm 7) 2 (mf (ph 7) (rho2_2 7)), ia G (ph 7) 4 (fN (sh 7 (rho2_2 7)))]) rfl ?_
            refine z_aload_n hX 0 dX6_live_74 rfl ?_
            refine z_get (v := .ref w) hX fX6 0 0 rfl rfl (Nat.le_of_ble_eq_true rfl) fl_X6_10 rfl dX6_live_75 ?_
            refine z_get (v := .ref now) hX fX5 1 0 rfl rfl (Nat.le_of_ble_eq_true rfl) fl_X6_88 rfl dX6_live_78 ?_
            refine z_aload_n hX 0 dX6_live_81 rfl ?_
            refine z_get (v := .ref w) hX fX6 0 0 rfl rfl (Nat.le_of_ble_eq_true rfl) fl_X6_10 rfl dX6_live_82 ?_
            refine z_get (v := .ref cr) hX fX5 1 1 rfl rfl (Nat.le_of_ble_eq_true rfl) fl_X6_66 rfl dX6_live_85 ?_
            refine z_callVi (st := []) hX (c_X2_pass _ G now nh (drS false (lvS false k s)) cr ck cl ce fk fl fe sz 9999 (WF_dr false wk) (by omega) (CR_dr false (CR_lvS false h1 k)) (show sz = drS false (lvS false k s) 0 by rw [drS_o false _ (by omega), kz]; exact h2)) lb_X2_pass ml_X6_194 (fun (_u : Unit) => [ob x 6 [.ref w, .ref kw, .int (nI ik), .ref tp, .ref sx, .ref fo, .ref gu, .ref ch], ob w 5 [.ref now, .ref cr, .ref past, .int (nI o2_1), .int (nI (pushU (lvU k u)))], ob now 2 (mf nh (goBy (drS false (lvS false k s)))), ia G nh 4 (fN (sh 7 (goBy (drS false (lvS false k s))))), ob cr 1 [.ref ck, .ref cl, .ref ce, .int (nI sz)], ia G ck 6 fk, ia G cl 6 fl, ia G ce 6 fe, ma G past 8 (pmf pm), ob (pm 0) 2 (mf (ph 0) (rho2_2 0)), ia G (ph 0) 4 (fN (sh 7 (rho2_2 0))), ob (pm 1) 2 (mf (ph 1) (rho2_2 1)), ia G (ph 1) 4 (fN (sh 7 (rho2_2 1))), ob (pm 2) 2 (mf (ph 2) (rho2_2 2)), ia G (ph 2) 4 (fN (sh 7 (rho2_2 2))), ob (pm 3) 2 (mf (ph 3) (rho2_2 3)), ia G (ph 3) 4 (fN (sh 7 (rho2_2 3))), ob (pm 4) 2 (mf (ph 4) (rho2_2 4)), ia G (ph 4) 4 (fN (sh 7 (rho2_2 4))), ob (pm 5) 2 (mf (ph 5) (rho2_2 5)), ia G (ph 5) 4 (fN (sh 7 (rho2_2 5))), ob (pm 6) 2 (mf (ph 6) (rho2_2 6)), ia G (ph 6) 4 (fN (sh 7 (rho2_2 6))), ob (pm 7) 2 (mf (ph 7) (rho2_2 7)), ia G (ph 7) 4 (fN (sh 7 (rho2_2 7)))]) (wr := [ob x 6 [.ref w, .ref kw, .int (nI ik), .ref tp, .ref sx, .ref fo, .ref gu, .ref ch], ob w 5 [.ref now, .ref cr, .ref past, .int (nI o2_1), .int (nI (pushU (lvU k u)))], ma G past 8 (pmf pm), ob (pm 0) 2 (mf (ph 0) (rho2_2 0)), ia G (ph 0) 4 (fN (sh 7 (rho2_2 0))), ob (pm 1) 2 (mf (ph 1) (rho2_2 1)), ia G (ph 1) 4 (fN (sh 7 (rho2_2 1))), ob (pm 2) 2 (mf (ph 2) (rho2_2 2)), ia G (ph 2) 4 (fN (sh 7 (rho2_2 2))), ob (pm 3) 2 (mf (ph 3) (rho2_2 3)), ia G (ph 3) 4 (fN (sh 7 (rho2_2 3))), ob (pm 4) 2 (mf (ph 4) (rho2_2 4)), ia G (ph 4) 4 (fN (sh 7 (rho2_2 4))), ob (pm 5) 2 (mf (ph 5) (rho2_2 5)), ia G (ph 5) 4 (fN (sh 7 (rho2_2 5))), ob (pm 6) 2 (mf (ph 6) (rho2_2 6)), ia G (ph 6) 4 (fN (sh 7 (rho2_2 6))), ob (pm 7) 2 (mf (ph 7) (rho2_2 7)), ia G (ph 7) 4 (fN (sh 7 (rho2_2 7)))]) [2, 3, 4, 5, 6, 7] [0, 1, 8, 9, 10, 11, 12, 13, 14, 15, 16, 17, 18, 19, 20, 21, 22, 23, 24] [0, 1, 19, 20, 21, 22, 23, 24, 2, 3, 4, 5, 6, 7, 8, 9, 10, 11, 12, 13, 14, 15, 16, 17, 18] ⟨rfl, rfl, rfl, fun _ => rfl⟩ 0 rfl rfl rfl rfl ⟨Nat.le_refl _, Nat.le_refl _⟩ dX6_live_88 rfl (fun r88 u88 hw88 => ?_)
            subst hw88
            refine z_pop hX dX6_live_91 rfl ?_
            refine z_iinc (v := (nI (k + 1))) (L' := [(4, .int (nI (k + 1))), (0, .ref x), (1, .int (nI nnj)), (2, .int (nI 0)), (3, .int (nI (s 5)))]) hX 4 dX6_live_92 rfl (nI_inc _) (Nat.le_of_ble_eq_true rfl) rfl ?_
            refine z_goto (tgt := 47) hX dX6_live_95 (by decide) ?_
            refine z_lsub [1, 2, 3, 4, 0] rfl ?_
            exact ih47 (k + 1) o2_1 rho2_2 (by omega) (by omega) hw57.1 hw57.2
      refine z_lsub [2, 3, 4, 1, 0] rfl ?_
      exact lp47 (nnj + 1) 0 o rho (by omega) (by omega) h3 h5
    · skip
      refine z_bipush (v := (-3)) hX dX6_live_30 (by decide) ?_
      have e0 : okDays s (nI nnj) = false := by
        unfold okDays
        simp [gN_nI (show nnj < 2147483648 by omega)]
        omega
      rw [e0] at hR
      exact hR _ (o, rho) _ _ ⟨by unfold spDays; rw [if_pos (inb_t (by omega) (by omega) (by omega)), gN_nI (show nnj < 2147483648 by omega), if_neg (by omega)], h3, h5⟩ dX6_live_32 rfl
  · have hb_nn : inb nn 1 40 = false := hw4
    refine zn_if_ne (tgt := 12) hX dX6_live_7 (by decide) (by omega) (fun c7 => absurd c7 (by omega)) (fun _ => ?_)
    refine z_iconst (v := (-1)) hX dX6_live_10 (by decide) ?_
    have e0 : okDays s nn = false := by
      unfold okDays
      simp [hb_nn]
    rw [e0] at hR
    exact hR _ (o, rho) _ _ ⟨by unfold spDays; rw [if_neg (by simp [hb_nn])], h3, h5⟩ dX6_live_11 rfl
set_option maxRecDepth 100000 in
set_option maxHeartbeats 4000000 in
theorem c_X6_live1 (l : Launch) (G : zG) (x : Nat) (w : Nat) (kw : Nat) (ik : Nat) (tp : Nat) (sx : Nat) (fo : Nat) (gu : Nat) (ch : Nat) (now : Nat) (nh : Nat) (cr : Nat) (past : Nat) (o : Nat) (u : Nat) (s : nst) (ck : Nat) (cl : Nat) (ce : Nat) (sz : Nat) (fk : Nat → Int32) (fl : Nat → Int32) (fe : Nat → Int32) (pm : Nat → Nat) (ph : Nat → Nat) (rho : Nat → nst) (h : Nat → nst) (nn : Int32) (h0 : WF 9999 0 s) (h1 : CR s fk fl fe) (h2 : sz = s 0) (h3 : o < 8) (h4 : u ≤ 8) (h5 : RH o u rho h) : zMi l G yX6_live cX6_live 5 .int 3 0 0 72 [.ref x, .int nn, .int (nI 1)] [ob x 6 [.ref w, .ref kw, .int (nI ik), .ref tp, .ref sx, .ref fo, .ref gu, .ref ch], ob w 5 [.ref now, .ref cr, .ref past, .int (nI o), .int (nI u)], ob now 2 (mf nh s), ia G nh 4 (fN (sh 7 s)), ob cr 1 [.ref ck, .ref cl, .ref ce, .int (nI sz)], ia G ck 6 fk, ia G cl 6 fl, ia G ce 6 fe, ma G past 8 (pmf pm), ob (pm 0) 2 (mf (ph 0) (rho 0)), ia G (ph 0) 4 (fN (sh 7 (rho 0))), ob (pm 1) 2 (mf (ph 1) (rho 1)), ia G (ph 1) 4 (fN (sh 7 (rho 1))), ob (pm 2) 2 (mf (ph 2) (rho 2)), ia G (ph 2) 4 (fN (sh 7 (rho 2))), ob (pm 3) 2 (mf (ph 3) (rho 3)), ia G (ph 3) 4 (fN (sh 7 (rho 3))), ob (pm 4) 2 (mf (ph 4) (rho 4)), ia G (ph 4) 4 (fN (sh 7 (rho 4))), ob (pm 5) 2 (mf (ph 5) (rho 5)), ia G (ph 5) 4 (fN (sh 7 (rho 5))), ob (pm 6) 2 (mf (ph 6) (rho 6)), ia G (ph 6) 4 (fN (sh 7 (rho 6))), ob (pm 7) 2 (mf (ph 7) (rho 7)), ia G (ph 7) 4 (fN (sh 7 (rho 7)))] (fun (r : Int32) (_u : Nat × (Nat → nst)) => r = spDays true s nn ∧ _u.1 < 8 ∧ RH _u.1 (cond (okDays s nn) (lvU (gN nn) u) (u)) _u.2 (cond (okDays s nn) (lvH true h s u (gN nn)) (h))) (fun (_u : Nat × (Nat → nst)) => [ob x 6 [.ref w, .ref kw, .int (nI ik), .ref tp, .ref sx, .ref fo, .ref gu, .ref ch], ob w 5 [.ref now, .ref cr, .ref past, .int (nI _u.1), .int (nI (cond (okDays s nn) (lvU (gN nn) u) (u)))], ob now 2 (mf nh (cond (okDays s nn) (lvS true (gN nn) s) (s))), ia G nh 4 (fN (sh 7 (cond (okDays s nn) (lvS true (gN nn) s) (s)))), ob cr 1 [.ref ck, .ref cl, .ref ce, .int (nI sz)], ia G ck 6 fk, ia G cl 6 fl, ia G ce 6 fe, ma G past 8 (pmf pm), ob (pm 0) 2 (mf (ph 0) (_u.2 0)), ia G (ph 0) 4 (fN (sh 7 (_u.2 0))), ob (pm 1) 2 (mf (ph 1) (_u.2 1)), ia G (ph 1) 4 (fN (sh 7 (_u.2 1))), ob (pm 2) 2 (mf (ph 2) (_u.2 2)), ia G (ph 2) 4 (fN (sh 7 (_u.2 2))), ob (pm 3) 2 (mf (ph 3) (_u.2 3)), ia G (ph 3) 4 (fN (sh 7 (_u.2 3))), ob (pm 4) 2 (mf (ph 4) (_u.2 4)), ia G (ph 4) 4 (fN (sh 7 (_u.2 4))), ob (pm 5) 2 (mf (ph 5) (_u.2 5)), ia G (ph 5) 4 (fN (sh 7 (_u.2 5))), ob (pm 6) 2 (mf (ph 6) (_u.2 6)), ia G (ph 6) 4 (fN (sh 7 (_u.2 6))), ob (pm 7) 2 (mf (ph 7) (_u.2 7)), ia G (ph 7) 4 (fN (sh 7 (_u.2 7)))]) := by
  refine zMi.of (by decide) rfl (fun X A H0 hX hXl hR => ?_)
  show Z (X, G, A, H0, 5) 0 0 [ob x 6 [.ref w, .ref kw, .int (nI ik), .ref tp, .ref sx, .ref fo, .ref gu, .ref ch], ob w 5 [.ref now, .ref cr, .ref past, .int (nI o), .int (nI u)], ob now 2 (mf nh s), ia G nh 4 (fN (sh 7 s)), ob cr 1 [.ref ck, .ref cl, .ref ce, .int (nI sz)], ia G ck 6 fk, ia G cl 6 fl, ia G ce 6 fe, ma G past 8 (pmf pm), ob (pm 0) 2 (mf (ph 0) (rho 0)), ia G (ph 0) 4 (fN (sh 7 (rho 0))), ob (pm 1) 2 (mf (ph 1) (rho 1)), ia G (ph 1) 4 (fN (sh 7 (rho 1))), ob (pm 2) 2 (mf (ph 2) (rho 2)), ia G (ph 2) 4 (fN (sh 7 (rho 2))), ob (pm 3) 2 (mf (ph 3) (rho 3)), ia G (ph 3) 4 (fN (sh 7 (rho 3))), ob (pm 4) 2 (mf (ph 4) (rho 4)), ia G (ph 4) 4 (fN (sh 7 (rho 4))), ob (pm 5) 2 (mf (ph 5) (rho 5)), ia G (ph 5) 4 (fN (sh 7 (rho 5))), ob (pm 6) 2 (mf (ph 6) (rho 6)), ia G (ph 6) 4 (fN (sh 7 (rho 6))), ob (pm 7) 2 (mf (ph 7) (rho 7)), ia G (ph 7) 4 (fN (sh 7 (rho 7)))] 0 [(0, .ref x), (1, .int nn), (2, .int (nI 1))] []
  subst hXl
  have z1 := h0.2.1
  refine z_iload_n hX 1 dX6_live_0 rfl ?_
  refine z_iconst (v := nI 1) hX dX6_live_1 (by decide) ?_
  refine z_bipush (v := nI 40) hX dX6_live_2 (by decide) ?_
  refine z_callSi (st := []) hX (c_X6_isWithinX _ G nn 1 40 (by omega) (by omega)) lb_X6_isWithin ml_X6_62 (fun (_u : Unit) => [ob x 6 [.ref w, .ref kw, .int (nI ik), .ref tp, .ref sx, .ref fo, .ref gu, .ref ch], ob w 5 [.ref now, .ref cr, .ref past, .int (nI o), .int (nI u)], ob now 2 (mf nh s), ia G nh 4 (fN (sh 7 s)), ob cr 1 [.ref ck, .ref cl, .ref ce, .int (nI sz)], ia G ck 6 fk, ia G cl 6 fl, ia G ce 6 fe, ma G past 8 (pmf pm), ob (pm 0) 2 (mf (ph 0) (rho 0)), ia G (ph 0) 4 (fN (sh 7 (rho 0))), ob (pm 1) 2 (mf (ph 1) (rho 1)), ia G (ph 1) 4 (fN (sh 7 (rho 1))), ob (pm 2) 2 (mf (ph 2) (rho 2)), ia G (ph 2) 4 (fN (sh 7 (rho 2))), ob (pm 3) 2 (mf (ph 3) (rho 3)), ia G (ph 3) 4 (fN (sh 7 (rho 3))), ob (pm 4) 2 (mf (ph 4) (rho 4)), ia G (ph 4) 4 (fN (sh 7 (rho 4))), ob (pm 5) 2 (mf (ph 5) (rho 5)), ia G (ph 5) 4 (fN (sh 7 (rho 5))), ob (pm 6) 2 (mf (ph 6) (rho 6)), ia G (ph 6) 4 (fN (sh 7 (rho 6))), ob (pm 7) 2 (mf (ph 7) (rho 7)), ia G (ph 7) 4 (fN (sh 7 (rho 7)))]) (wr := [ob x 6 [.ref w, .ref kw, .int (nI ik), .ref tp, .ref sx, .ref fo, .ref gu, .ref ch], ob w 5 [.ref now, .ref cr, .ref past, .int (nI o), .int (nI u)], ob now 2 (mf nh s), ia G nh 4 (fN (sh 7 s)), ob cr 1 [.ref ck, .ref cl, .ref ce, .int (nI sz)], ia G ck 6 fk, ia G cl 6 fl, ia G ce 6 fe, ma G past 8 (pmf pm), ob (pm 0) 2 (mf (ph 0) (rho 0)), ia G (ph 0) 4 (fN (sh 7 (rho 0))), ob (pm 1) 2 (mf (ph 1) (rho 1)), ia G (ph 1) 4 (fN (sh 7 (rho 1))), ob (pm 2) 2 (mf (ph 2) (rho 2)), ia G (ph 2) 4 (fN (sh 7 (rho 2))), ob (pm 3) 2 (mf (ph 3) (rho 3)), ia G (ph 3) 4 (fN (sh 7 (rho 3))), ob (pm 4) 2 (mf (ph 4) (rho 4)), ia G (ph 4) 4 (fN (sh 7 (rho 4))), ob (pm 5) 2 (mf (ph 5) (rho 5)), ia G (ph 5) 4 (fN (sh 7 (rho 5))), ob (pm 6) 2 (mf (ph 6) (rho 6)), ia G (ph 6) 4 (fN (sh 7 (rho 6))), ob (pm 7) 2 (mf (ph 7) (rho 7)), ia G (ph 7) 4 (fN (sh 7 (rho 7)))]) [] [0, 1, 2, 3, 4, 5, 6, 7, 8, 9, 10, 11, 12, 13, 14, 15, 16, 17, 18, 19, 20, 21, 22, 23, 24] [0, 1, 2, 3, 4, 5, 6, 7, 8, 9, 10, 11, 12, 13, 14, 15, 16, 17, 18, 19, 20, 21, 22, 23, 24] ⟨rfl, rfl, rfl, fun _ => rfl⟩ rfl rfl ⟨Nat.le_refl _, Nat.le_refl _⟩ dX6_live_4 rfl (fun r4 u4 hw4 => ?_)
  try dsimp only at hw4
  rcases hw4 with ⟨nnj, hnnl, hnnh, rfl, rfl⟩ | ⟨hw4, rfl⟩
  · skip
    refine zn_if_ne (tgt := 12) hX dX6_live_7 (by decide) (by omega) (fun _ => ?_) (fun c7 => absurd c7 (by omega))
    refine z_aload_n hX 0 dX6_live_12 rfl ?_
    refine z_get (v := .ref w) hX fX6 0 0 rfl rfl (Nat.le_of_ble_eq_true rfl) fl_X6_10 rfl dX6_live_13 ?_
    refine z_get (v := .ref now) hX fX5 1 0 rfl rfl (Nat.le_of_ble_eq_true rfl) fl_X6_88 rfl dX6_live_16 ?_
    refine z_get (v := .int (nI (s 1))) hX fX2 2 2 rfl rfl (Nat.le_of_ble_eq_true rfl) fl_X6_101 rfl dX6_live_19 ?_
    refine z_iload_n hX 1 dX6_live_22 rfl ?_
    refine z_iadd (v := (nI (s 1 + nnj))) hX dX6_live_23 (nI_add _ _) ?_
    refine z_sipush (v := nI 9999) hX dX6_live_24 (by decide) ?_
    refine zn_icmp_le (tgt := 33) hX dX6_live_27 (by decide) (by omega) (by omega) (fun c27 => ?_) (fun c27 => ?_)
    · skip
      refine z_aload_n hX 0 dX6_live_33 rfl ?_
      refine z_get (v := .ref w) hX fX6 0 0 rfl rfl (Nat.le_of_ble_eq_true rfl) fl_X6_10 rfl dX6_live_34 ?_
      refine z_get (v := .ref now) hX fX5 1 0 rfl rfl (Nat.le_of_ble_eq_true rfl) fl_X6_88 rfl dX6_live_37 ?_
      refine z_get (v := .int (nI (s 5))) hX fX2 2 5 rfl rfl (Nat.le_of_ble_eq_true rfl) fl_X6_156 rfl dX6_live_40 ?_
      refine z_istore_n (L' := [(3, .int (nI (s 5))), (0, .ref x), (1, .int (nI nnj)), (2, .int (nI 1))]) hX dX6_live_43 (Nat.le_of_ble_eq_true rfl) rfl ?_
      refine z_iconst (v := nI 0) hX dX6_live_44 (by decide) ?_
      refine z_istore (L' := [(4, .int (nI 0)), (3, .int (nI (s 5))), (0, .ref x), (1, .int (nI nnj)), (2, .int (nI 1))]) hX dX6_live_45 (Nat.le_of_ble_eq_true rfl) rfl ?_
      have lp47 : ∀ (n47 : Nat) (k : Nat) (q2 : Nat) (rr : Nat → nst), (nnj + 1 ≤ k + n47) → (k ≤ nnj) → (q2 < 8) → (RH q2 (lvU k u) rr (lvH true h s u k)) → Z (X, G, A, H0, 5) 0 0 [ob x 6 [.ref w, .ref kw, .int (nI ik), .ref tp, .ref sx, .ref fo, .ref gu, .ref ch], ob w 5 [.ref now, .ref cr, .ref past, .int (nI q2), .int (nI (lvU k u))], ob now 2 (mf nh (lvS true k s)), ia G nh 4 (fN (sh 7 (lvS true k s))), ob cr 1 [.ref ck, .ref cl, .ref ce, .int (nI sz)], ia G ck 6 fk, ia G cl 6 fl, ia G ce 6 fe, ma G past 8 (pmf pm), ob (pm 0) 2 (mf (ph 0) (rr 0)), ia G (ph 0) 4 (fN (sh 7 (rr 0))), ob (pm 1) 2 (mf (ph 1) (rr 1)), ia G (ph 1) 4 (fN (sh 7 (rr 1))), ob (pm 2) 2 (mf (ph 2) (rr 2)), ia G (ph 2) 4 (fN (sh 7 (rr 2))), ob (pm 3) 2 (mf (ph 3) (rr 3)), ia G (ph 3) 4 (fN (sh 7 (rr 3))), ob (pm 4) 2 (mf (ph 4) (rr 4)), ia G (ph 4) 4 (fN (sh 7 (rr 4))), ob (pm 5) 2 (mf (ph 5) (rr 5)), ia G (ph 5) 4 (fN (sh 7 (rr 5))), ob (pm 6) 2 (mf (ph 6) (rr 6)), ia G (ph 6) 4 (fN (sh 7 (rr 6))), ob (pm 7) 2 (mf (ph 7) (rr 7)), ia G (ph 7) 4 (fN (sh 7 (rr 7)))] 47 [(0, .ref x), (1, .int (nI nnj)), (2, .int (nI 1)), (3, .int (nI (s 5))), (4, .int (nI k))] [] := by
        intro n47
        induction n47 with
        | zero =>
          intro k q2 rr hn hk hq hr
          exfalso
          omega
        | succ n47 ih47 =>
          intro k q2 rr hn hk hq hr
          have wk := lvS_WF true h0 (k := k) (by omega)
          have uk := lvU_le h4 k
          have dk := lvS_day true s k
          have kz := lvS_keep true s (i := 0) (by omega) k
          refine z_iload hX 4 dX6_live_47 rfl ?_
          refine z_iload_n hX 1 dX6_live_49 rfl ?_
          refine zn_icmp_ge (tgt := 98) hX dX6_live_50 (by decide) (by omega) (by omega) (fun c50 => ?_) (fun c50 => ?_)
          · skip
            have f5 := lvS_fell true s k
            refine z_aload_n hX 0 dX6_live_98 rfl ?_
            refine z_get (v := .ref w) hX fX6 0 0 rfl rfl (Nat.le_of_ble_eq_true rfl) fl_X6_10 rfl dX6_live_99 ?_
            refine z_get (v := .ref now) hX fX5 1 0 rfl rfl (Nat.le_of_ble_eq_true rfl) fl_X6_88 rfl dX6_live_102 ?_
            refine z_get (v := .int (nI ((lvS true k s) 5))) hX fX2 2 5 rfl rfl (Nat.le_of_ble_eq_true rfl) fl_X6_156 rfl dX6_live_105 ?_
            refine z_iload_n hX 3 dX6_live_108 rfl ?_
            refine z_isub (v := (nI (((lvS true k s) 5) - (s 5)))) hX dX6_live_109 (pk_sub (by omega)) ?_
            have ek : k = nnj := by omega
            subst ek
            have e0 : okDays s (nI k) = true := by
              unfold okDays
              rw [inb_t (by omega) (by omega) (by omega)]
              simp [gN_nI (show k < 2147483648 by omega)]
              omega
            rw [e0, gN_nI (show k < 2147483648 by omega)] at hR
            exact hR _ (q2, rr) _ _ ⟨by unfold spDays; rw [if_pos (inb_t (by omega) (by omega) (by omega)), gN_nI (by omega), if_pos (by omega)], hq, hr⟩ dX6_live_110 rfl
          · skip
            refine z_aload_n hX 0 dX6_live_53 rfl ?_
            refine z_get (v := .ref w) hX fX6 0 0 rfl rfl (Nat.le_of_ble_eq_true rfl) fl_X6_10 rfl dX6_live_54 ?_
            refine z_callVv (st := []) hX (c_X5_remember _ G w now nh cr past pm ph q2 (lvU k u) (lvS true k s) rr (lvH true h s u k) hq uk hr) lb_X5_remember ml_X6_173 (fun (_u : Nat × (Nat → nst)) => [ob x 6 [.ref w, .ref kw, .int (nI ik), .ref tp, .ref sx, .ref fo, .ref gu, .ref ch], ob w 5 [.ref now, .ref cr, .ref past, .int (nI _u.1), .int (nI (pushU (lvU k u)))], ob now 2 (mf nh (lvS true k s)), ia G nh 4 (fN (sh 7 (lvS true k s))), ob cr 1 [.ref ck, .ref cl, .ref ce, .int (nI sz)], ia G ck 6 fk, ia G cl 6 fl, ia G ce 6 fe, ma G past 8 (pmf pm), ob (pm 0) 2 (mf (ph 0) (_u.2 0)), ia G (ph 0) 4 (fN (sh 7 (_u.2 0))), ob (pm 1) 2 (mf (ph 1) (_u.2 1)), ia G (ph 1) 4 (fN (sh 7 (_u.2 1))), ob (pm 2) 2 (mf (ph 2) (_u.2 2)), ia G (ph 2) 4 (fN (sh 7 (_u.2 2))), ob (pm 3) 2 (mf (ph 3) (_u.2 3)), ia G (ph 3) 4 (fN (sh 7 (_u.2 3))), ob (pm 4) 2 (mf (ph 4) (_u.2 4)), ia G (ph 4) 4 (fN (sh 7 (_u.2 4))), ob (pm 5) 2 (mf (ph 5) (_u.2 5)), ia G (ph 5) 4 (fN (sh 7 (_u.2 5))), ob (pm 6) 2 (mf (ph 6) (_u.2 6)), ia G (ph 6) 4 (fN (sh 7 (_u.2 6))), ob (pm 7) 2 (mf (ph 7) (_u.2 7)), ia G (ph 7) 4 (fN (sh 7 (_u.2 7)))]) (wr := [ob x 6 [.ref w, .ref kw, .int (nI ik), .ref tp, .ref sx, .ref fo, .ref gu, .ref ch], ob cr 1 [.ref ck, .ref cl, .ref ce, .int (nI sz)], ia G ck 6 fk, ia G cl 6 fl, ia G ce 6 fe]) [1, 8, 2, 3, 9, 10, 11, 12, 13, 14, 15, 16, 17, 18, 19, 20, 21, 22, 23, 24] [0, 4, 5, 6, 7] [0, 5, 7, 8, 1, 2, 3, 4, 6, 9, 10, 11, 12, 13, 14, 15, 16, 17, 18, 19, 20, 21, 22, 23, 24] ⟨rfl, rfl, rfl, fun _ => rfl⟩ 0 rfl rfl rfl rfl ⟨Nat.le_refl _, Nat.le_refl _⟩ dX6_live_57 rfl (fun  u57 hw57 => ?_)
            obtain ⟨o2_1, rho2_2⟩ := u57
            refine z_iload_n hX 2 dX6_live_60 rfl ?_
            refine zn_if_eq (tgt := 74) hX dX6_live_61 (by decide) (by omega) (fun c61 => absurd c61 (by omega)) (fun _ => ?_)
            refine z_aload_n hX 0 dX6_live_64 rfl ?_
            refine z_get (v := .ref w) hX fX6 0 0 rfl rfl (Nat.le_of_ble_eq_true rfl) fl_X6_10 rfl dX6_live_65 ?_
            refine z_get (v := .ref now) hX fX5 1 0 rfl rfl (Nat.le_of_ble_eq_true rfl) fl_X6_88 rfl dX6_live_68 ?_
            refine z_callVv (st := []) hX (c_X2_drawLook _ G now nh (lvS true k s) wk.2.2.2.2.1) lb_X2_drawLook ml_X6_191 (fun (_u : Unit) => [ob x 6 [.ref w, .ref kw, .int (nI ik), .ref tp, .ref sx, .ref fo, .ref gu, .ref ch], ob w 5 [.ref now, .ref cr, .ref past, .int (nI o2_1), .int (nI (pushU (lvU k u)))], ob now 2 (mf nh (drawS (lvS true k s))), ia G nh 4 (fN (sh 7 (drawS (lvS true k s)))), ob cr 1 [.ref ck, .ref cl, .ref ce, .int (nI sz)], ia G ck 6 fk, ia G cl 6 fl, ia G ce 6 fe, ma G past 8 (pmf pm), ob (pm 0) 2 (mf (ph 0) (rho2_2 0)), ia G (ph 0) 4 (fN (sh 7 (rho2_2 0))), ob (pm 1) 2 (mf (ph 1) (rho2_2 1)), ia G (ph 1) 4 (fN (sh 7 (rho2_2 1))), ob (pm 2) 2 (mf (ph 2) (rho2_2 2)), ia G (ph 2) 4 (fN (sh 7 (rho2_2 2))), ob (pm 3) 2 (mf (ph 3) (rho2_2 3)), ia G (ph 3) 4 (fN (sh 7 (rho2_2 3))), ob (pm 4) 2 (mf (ph 4) (rho2_2 4)), ia G (ph 4) 4 (fN (sh 7 (rho2_2 4))), ob (pm 5) 2 (mf (ph 5) (rho2_2 5)), ia G (ph 5) 4 (fN (sh 7 (rho2_2 5))), ob (pm 6) 2 (mf (ph 6) (rho2_2 6)), ia G (ph 6) 4 (fN (sh 7 (rho2_2 6))), ob (pm 7) 2 (mf (ph 7) (rho2_2 7)), ia G (ph 7) 4 (fN (sh 7 (rho2_2 7)))]) (wr := [ob x 6 [.ref w, .ref kw, .int (nI ik), .ref tp, .ref sx, .ref fo, .ref gu, .ref ch], ob w 5 [.ref now, .ref cr, .ref past, .int (nI o2_1), .int (nI (pushU (lvU k u)))], ob cr 1 [.ref ck, .ref cl, .ref ce, .int (nI sz)], ia G ck 6 fk, ia G cl 6 fl, ia G ce 6 fe, ma G past 8 (pmf pm), ob (pm 0) 2 (mf (ph 0) (rho2_2 0)), ia G (ph 0) 4 (fN (sh 7 (rho2_2 0))), ob (pm 1) 2 (mf (ph 1) (rho2_2 1)), ia G (ph 1) 4 (fN (sh 7 (rho2_2 1))), ob (pm 2) 2 (mf (ph 2) (rho2_2 2)), ia G (ph 2) 4 (fN (sh 7 (rho2_2 2))), ob (pm 3) 2 (mf (ph 3) (rho2_2 3)), ia G (ph 3) 4 (fN (sh 7 (rho2_2 3))), ob (pm 4) 2 (mf (ph 4) (rho2_2 4)), ia G (ph 4) 4 (fN (sh 7 (rho2_2 4))), ob (pm 5) 2 (mf (ph 5) (rho2_2 5)), ia G (ph 5) 4 (fN (sh 7 (rho2_2 5))), ob (pm 6) 2 (mf (ph 6) (rho2_2 6)), ia G (ph 6) 4 (fN (sh 7 (rho2_2 6))), ob (pm 7) 2 (mf (ph 7) (rho2_2 7)), ia G (ph 7) 4 (fN (sh 7 (rho2_2 7)))]) [2, 3] [0, 1, 4, 5, 6, 7, 8, 9, 10, 11, 12, 13, 14, 15, 16, 17, 18, 19, 20, 21, 22, 23, 24] [0, 1, 23, 24, 2, 3, 4, 5, 6, 7, 8, 9, 10, 11, 12, 13, 14, 15, 16, 17, 18, 19, 20, 21, 22] ⟨rfl, rfl, rfl, fun _ => rfl⟩ 0 rfl rfl rfl rfl ⟨Nat.le_refl _, Nat.le_refl _⟩ dX6_live_71 rfl (fun  u71 hw71 => ?_)
            refine z_eq (ws' := [ob x 6 [.ref w, .ref kw, .int (nI ik), .ref tp, .ref sx, .ref fo, .ref gu, .ref ch], ob w 5 [.ref now, .ref cr, .ref past, .int (nI o2_1), .int (nI (pushU (lvU k u)))], ob now 2 (mf nh (drS true (lvS true k s))), ia G nh 4 (fN (sh 7 (drS true (lvS true k s)))), ob cr 1 [.ref ck, .ref cl, .ref ce, .int (nI sz)], ia G ck 6 fk, ia G cl 6 fl, ia G ce 6 fe, ma G past 8 (pmf pm), ob (pm 0) 2 (mf (ph 0) (rho2_2 0)), ia G (ph 0) 4 (fN (sh 7 (rho2_2 0))), ob (pm 1) 2 (mf (ph 1) (rho2_2 1)), ia G (ph 1) 4 (fN (sh 7 (rho2_2 1))), ob (pm 2) 2 (mf (ph 2) (rho2_2 2)), ia G (ph 2) 4 (fN (sh 7 (rho2_2 2))), ob (pm 3) 2 (mf (ph 3) (rho2_2 3)), ia G (ph 3) 4 (fN (sh 7 (rho2_2 3))), ob (pm 4) 2 (mf (ph 4) (rho2_2 4)), ia G (ph 4) 4 (fN (sh 7 (rho2_2 4))), ob (pm 5) 2 (mf (ph 5) (rho2_2 5)), ia G (ph 5) 4 (fN (sh 7 (rho2_2 5))), ob (pm 6) 2 (mf (ph 6) (rho2_2 6)), ia G (ph 6) 4 (fN (sh 7 (rho2_2 6))), ob (pm 7) 2 (mf (ph 7) (rho2_2 7)), ia G (ph 7) 4 (fN (sh 7 (rho2_2 7)))]) rfl ?_
            refine z_aload_n hX 0 dX6_live_74 rfl ?_
            refine z_get (v := .ref w) hX fX6 0 0 rfl rfl (Nat.le_of_ble_eq_true rfl) fl_X6_10 rfl dX6_live_75 ?_
            refine z_get (v := .ref now) hX fX5 1 0 rfl rfl (Nat.le_of_ble_eq_true rfl) fl_X6_88 rfl dX6_live_78 ?_
            refine z_aload_n hX 0 dX6_live_81 rfl ?_
            refine z_get (v := .ref w) hX fX6 0 0 rfl rfl (Nat.le_of_ble_eq_true rfl) fl_X6_10 rfl dX6_live_82 ?_
            refine z_get (v := .ref cr) hX fX5 1 1 rfl rfl (Nat.le_of_ble_eq_true rfl) fl_X6_66 rfl dX6_live_85 ?_
            refine z_callVi (st := []) hX (c_X2_pass _ G now nh (drS true (lvS true k s)) cr ck cl ce fk fl fe sz 9999 (WF_dr true wk) (by omega) (CR_dr true (CR_lvS true h1 k)) (show sz = drS true (lvS true k s) 0 by rw [drS_o true _ (by omega), kz]; exact h2)) lb_X2_pass ml_X6_194 (fun (_u : Unit) => [ob x 6 [.ref w, .ref kw, .int (nI ik), .ref tp, .ref sx, .ref fo, .ref gu, .ref ch], ob w 5 [.ref now, .ref cr, .ref past, .int (nI o2_1), .int (nI (pushU (lvU k u)))], ob now 2 (mf nh (goBy (drS true (lvS true k s)))), ia G nh 4 (fN (sh 7 (goBy (drS true (lvS true k s))))), ob cr 1 [.ref ck, .ref cl, .ref ce, .int (nI sz)], ia G ck 6 fk, ia G cl 6 fl, ia G ce 6 fe, ma G past 8 (pmf pm), ob (pm 0) 2 (mf (ph 0) (rho2_2 0)), ia G (ph 0) 4 (fN (sh 7 (rho2_2 0))), ob (pm 1) 2 (mf (ph 1) (rho2_2 1)), ia G (ph 1) 4 (fN (sh 7 (rho2_2 1))), ob (pm 2) 2 (mf (ph 2) (rho2_2 2)), ia G (ph 2) 4 (fN (sh 7 (rho2_2 2))), ob (pm 3) 2 (mf (ph 3) (rho2_2 3)), ia G (ph 3) 4 (fN (sh 7 (rho2_2 3))), ob (pm 4) 2 (mf (ph 4) (rho2_2 4)), ia G (ph 4) 4 (fN (sh 7 (rho2_2 4))), ob (pm 5) 2 (mf (ph 5) (rho2_2 5)), ia G (ph 5) 4 (fN (sh 7 (rho2_2 5))), ob (pm 6) 2 (mf (ph 6) (rho2_2 6)), ia G (ph 6) 4 (fN (sh 7 (rho2_2 6))), ob (pm 7) 2 (mf (ph 7) (rho2_2 7)), ia G (ph 7) 4 (fN (sh 7 (rho2_2 7)))]) (wr := [ob x 6 [.ref w, .ref kw, .int (nI ik), .ref tp, .ref sx, .ref fo, .ref gu, .ref ch], ob w 5 [.ref now, .ref cr, .ref past, .int (nI o2_1), .int (nI (pushU (lvU k u)))], ma G past 8 (pmf pm), ob (pm 0) 2 (mf (ph 0) (rho2_2 0)), ia G (ph 0) 4 (fN (sh 7 (rho2_2 0))), ob (pm 1) 2 (mf (ph 1) (rho2_2 1)), ia G (ph 1) 4 (fN (sh 7 (rho2_2 1))), ob (pm 2) 2 (mf (ph 2) (rho2_2 2)), ia G (ph 2) 4 (fN (sh 7 (rho2_2 2))), ob (pm 3) 2 (mf (ph 3) (rho2_2 3)), ia G (ph 3) 4 (fN (sh 7 (rho2_2 3))), ob (pm 4) 2 (mf (ph 4) (rho2_2 4)), ia G (ph 4) 4 (fN (sh 7 (rho2_2 4))), ob (pm 5) 2 (mf (ph 5) (rho2_2 5)), ia G (ph 5) 4 (fN (sh 7 (rho2_2 5))), ob (pm 6) 2 (mf (ph 6) (rho2_2 6)), ia G (ph 6) 4 (fN (sh 7 (rho2_2 6))), ob (pm 7) 2 (mf (ph 7) (rho2_2 7)), ia G (ph 7) 4 (fN (sh 7 (rho2_2 7)))]) [2, 3, 4, 5, 6, 7] [0, 1, 8, 9, 10, 11, 12, 13, 14, 15, 16, 17, 18, 19, 20, 21, 22, 23, 24] [0, 1, 19, 20, 21, 22, 23, 24, 2, 3, 4, 5, 6, 7, 8, 9, 10, 11, 12, 13, 14, 15, 16, 17, 18] ⟨rfl, rfl, rfl, fun _ => rfl⟩ 0 rfl rfl rfl rfl ⟨Nat.le_refl _, Nat.le_refl _⟩ dX6_live_88 rfl (fun r88 u88 hw88 => ?_)
            subst hw88
            refine z_pop hX dX6_live_91 rfl ?_
            refine z_iinc (v := (nI (k + 1))) (L' := [(4, .int (nI (k + 1))), (0, .ref x), (1, .int (nI nnj)), (2, .int (nI 1)), (3, .int (nI (s 5)))]) hX 4 dX6_live_92 rfl (nI_inc _) (Nat.le_of_ble_eq_true rfl) rfl ?_
            refine z_goto (tgt := 47) hX dX6_live_95 (by decide) ?_
            refine z_lsub [1, 2, 3, 4, 0] rfl ?_
            exact ih47 (k + 1) o2_1 rho2_2 (by omega) (by omega) hw57.1 hw57.2
      refine z_lsub [2, 3, 4, 1, 0] rfl ?_
      exact lp47 (nnj + 1) 0 o rho (by omega) (by omega) h3 h5
    · skip
      refine z_bipush (v := (-3)) hX dX6_live_30 (by decide) ?_
      have e0 : okDays s (nI nnj) = false := by
        unfold okDays
        simp [gN_nI (show nnj < 2147483648 by omega)]
        omega
      rw [e0] at hR
      exact hR _ (o, rho) _ _ ⟨by unfold spDays; rw [if_pos (inb_t (by omega) (by omega) (by omega)), gN_nI (show nnj < 2147483648 by omega), if_neg (by omega)], h3, h5⟩ dX6_live_32 rfl
  · have hb_nn : inb nn 1 40 = false := hw4
    refine zn_if_ne (tgt := 12) hX dX6_live_7 (by decide) (by omega) (fun c7 => absurd c7 (by omega)) (fun _ => ?_)
    refine z_iconst (v := (-1)) hX dX6_live_10 (by decide) ?_
    have e0 : okDays s nn = false := by
      unfold okDays
      simp [hb_nn]
    rw [e0] at hR
    exact hR _ (o, rho) _ _ ⟨by unfold spDays; rw [if_neg (by simp [hb_nn])], h3, h5⟩ dX6_live_11 rfl
set_option maxRecDepth 100000 in
set_option maxHeartbeats 4000000 in
theorem c_X6_days (l : Launch) (G : zG) (x : Nat) (w : Nat) (kw : Nat) (ik : Nat) (tp : Nat) (sx : Nat) (fo : Nat) (gu : Nat) (ch : Nat) (now : Nat) (nh : Nat) (cr : Nat) (past : Nat) (o : Nat) (u : Nat) (s : nst) (ck : Nat) (cl : Nat) (ce : Nat) (sz : Nat) (fk : Nat → Int32) (fl : Nat → Int32) (fe : Nat → Int32) (pm : Nat → Nat) (ph : Nat → Nat) (rho : Nat → nst) (h : Nat → nst) (nn : Int32) (h0 : WF 9999 0 s) (h1 : CR s fk fl fe) (h2 : sz = s 0) (h3 : o < 8) (h4 : u ≤ 8) (h5 : RH o u rho h) : zMi l G yX6_days cX6_days 2 .int 4 0 0 96 [.ref x, .int nn] [ob x 6 [.ref w, .ref kw, .int (nI ik), .ref tp, .ref sx, .ref fo, .ref gu, .ref ch], ob w 5 [.ref now, .ref cr, .ref past, .int (nI o), .int (nI u)], ob now 2 (mf nh s), ia G nh 4 (fN (sh 7 s)), ob cr 1 [.ref ck, .ref cl, .ref ce, .int (nI sz)], ia G ck 6 fk, ia G cl 6 fl, ia G ce 6 fe, ma G past 8 (pmf pm), ob (pm 0) 2 (mf (ph 0) (rho 0)), ia G (ph 0) 4 (fN (sh 7 (rho 0))), ob (pm 1) 2 (mf (ph 1) (rho 1)), ia G (ph 1) 4 (fN (sh 7 (rho 1))), ob (pm 2) 2 (mf (ph 2) (rho 2)), ia G (ph 2) 4 (fN (sh 7 (rho 2))), ob (pm 3) 2 (mf (ph 3) (rho 3)), ia G (ph 3) 4 (fN (sh 7 (rho 3))), ob (pm 4) 2 (mf (ph 4) (rho 4)), ia G (ph 4) 4 (fN (sh 7 (rho 4))), ob (pm 5) 2 (mf (ph 5) (rho 5)), ia G (ph 5) 4 (fN (sh 7 (rho 5))), ob (pm 6) 2 (mf (ph 6) (rho 6)), ia G (ph 6) 4 (fN (sh 7 (rho 6))), ob (pm 7) 2 (mf (ph 7) (rho 7)), ia G (ph 7) 4 (fN (sh 7 (rho 7)))] (fun (r : Int32) (_u : Nat × (Nat → nst)) => r = spDays false s nn ∧ _u.1 < 8 ∧ RH _u.1 (cond (okDays s nn) (lvU (gN nn) u) (u)) _u.2 (cond (okDays s nn) (lvH false h s u (gN nn)) (h))) (fun (_u : Nat × (Nat → nst)) => [ob x 6 [.ref w, .ref kw, .int (nI ik), .ref tp, .ref sx, .ref fo, .ref gu, .ref ch], ob w 5 [.ref now, .ref cr, .ref past, .int (nI _u.1), .int (nI (cond (okDays s nn) (lvU (gN nn) u) (u)))], ob now 2 (mf nh (cond (okDays s nn) (lvS false (gN nn) s) (s))), ia G nh 4 (fN (sh 7 (cond (okDays s nn) (lvS false (gN nn) s) (s)))), ob cr 1 [.ref ck, .ref cl, .ref ce, .int (nI sz)], ia G ck 6 fk, ia G cl 6 fl, ia G ce 6 fe, ma G past 8 (pmf pm), ob (pm 0) 2 (mf (ph 0) (_u.2 0)), ia G (ph 0) 4 (fN (sh 7 (_u.2 0))), ob (pm 1) 2 (mf (ph 1) (_u.2 1)), ia G (ph 1) 4 (fN (sh 7 (_u.2 1))), ob (pm 2) 2 (mf (ph 2) (_u.2 2)), ia G (ph 2) 4 (fN (sh 7 (_u.2 2))), ob (pm 3) 2 (mf (ph 3) (_u.2 3)), ia G (ph 3) 4 (fN (sh 7 (_u.2 3))), ob (pm 4) 2 (mf (ph 4) (_u.2 4)), ia G (ph 4) 4 (fN (sh 7 (_u.2 4))), ob (pm 5) 2 (mf (ph 5) (_u.2 5)), ia G (ph 5) 4 (fN (sh 7 (_u.2 5))), ob (pm 6) 2 (mf (ph 6) (_u.2 6)), ia G (ph 6) 4 (fN (sh 7 (_u.2 6))), ob (pm 7) 2 (mf (ph 7) (_u.2 7)), ia G (ph 7) 4 (fN (sh 7 (_u.2 7)))]) := by
  refine zMi.of (by decide) rfl (fun X A H0 hX hXl hR => ?_)
  show Z (X, G, A, H0, 2) 0 0 [ob x 6 [.ref w, .ref kw, .int (nI ik), .ref tp, .ref sx, .ref fo, .ref gu, .ref ch], ob w 5 [.ref now, .ref cr, .ref past, .int (nI o), .int (nI u)], ob now 2 (mf nh s), ia G nh 4 (fN (sh 7 s)), ob cr 1 [.ref ck, .ref cl, .ref ce, .int (nI sz)], ia G ck 6 fk, ia G cl 6 fl, ia G ce 6 fe, ma G past 8 (pmf pm), ob (pm 0) 2 (mf (ph 0) (rho 0)), ia G (ph 0) 4 (fN (sh 7 (rho 0))), ob (pm 1) 2 (mf (ph 1) (rho 1)), ia G (ph 1) 4 (fN (sh 7 (rho 1))), ob (pm 2) 2 (mf (ph 2) (rho 2)), ia G (ph 2) 4 (fN (sh 7 (rho 2))), ob (pm 3) 2 (mf (ph 3) (rho 3)), ia G (ph 3) 4 (fN (sh 7 (rho 3))), ob (pm 4) 2 (mf (ph 4) (rho 4)), ia G (ph 4) 4 (fN (sh 7 (rho 4))), ob (pm 5) 2 (mf (ph 5) (rho 5)), ia G (ph 5) 4 (fN (sh 7 (rho 5))), ob (pm 6) 2 (mf (ph 6) (rho 6)), ia G (ph 6) 4 (fN (sh 7 (rho 6))), ob (pm 7) 2 (mf (ph 7) (rho 7)), ia G (ph 7) 4 (fN (sh 7 (rho 7)))] 0 [(0, .ref x), (1, .int nn)] []
  subst hXl
  refine z_aload_n hX 0 dX6_days_0 rfl ?_
  refine z_iload_n hX 1 dX6_days_1 rfl ?_
  refine z_iconst (v := nI 0) hX dX6_days_2 (by decide) ?_
  refine z_callVi (st := []) hX (c_X6_live0 _ G x w kw ik tp sx fo gu ch now nh cr past o u s ck cl ce sz fk fl fe pm ph rho h nn h0 h1 h2 h3 h4 h5) lb_X6_live ml_X6_169 (fun (_u : Nat × (Nat → nst)) => [ob x 6 [.ref w, .ref kw, .int (nI ik), .ref tp, .ref sx, .ref fo, .ref gu, .ref ch], ob w 5 [.ref now, .ref cr, .ref past, .int (nI _u.1), .int (nI (cond (okDays s nn) (lvU (gN nn) u) (u)))], ob now 2 (mf nh (cond (okDays s nn) (lvS false (gN nn) s) (s))), ia G nh 4 (fN (sh 7 (cond (okDays s nn) (lvS false (gN nn) s) (s)))), ob cr 1 [.ref ck, .ref cl, .ref ce, .int (nI sz)], ia G ck 6 fk, ia G cl 6 fl, ia G ce 6 fe, ma G past 8 (pmf pm), ob (pm 0) 2 (mf (ph 0) (_u.2 0)), ia G (ph 0) 4 (fN (sh 7 (_u.2 0))), ob (pm 1) 2 (mf (ph 1) (_u.2 1)), ia G (ph 1) 4 (fN (sh 7 (_u.2 1))), ob (pm 2) 2 (mf (ph 2) (_u.2 2)), ia G (ph 2) 4 (fN (sh 7 (_u.2 2))), ob (pm 3) 2 (mf (ph 3) (_u.2 3)), ia G (ph 3) 4 (fN (sh 7 (_u.2 3))), ob (pm 4) 2 (mf (ph 4) (_u.2 4)), ia G (ph 4) 4 (fN (sh 7 (_u.2 4))), ob (pm 5) 2 (mf (ph 5) (_u.2 5)), ia G (ph 5) 4 (fN (sh 7 (_u.2 5))), ob (pm 6) 2 (mf (ph 6) (_u.2 6)), ia G (ph 6) 4 (fN (sh 7 (_u.2 6))), ob (pm 7) 2 (mf (ph 7) (_u.2 7)), ia G (ph 7) 4 (fN (sh 7 (_u.2 7)))]) (wr := []) [0, 1, 2, 3, 4, 5, 6, 7, 8, 9, 10, 11, 12, 13, 14, 15, 16, 17, 18, 19, 20, 21, 22, 23, 24] [] [0, 1, 2, 3, 4, 5, 6, 7, 8, 9, 10, 11, 12, 13, 14, 15, 16, 17, 18, 19, 20, 21, 22, 23, 24] ⟨rfl, rfl, rfl, fun _ => rfl⟩ 0 rfl rfl rfl rfl ⟨Nat.le_refl _, Nat.le_refl _⟩ dX6_days_3 rfl (fun r3 u3 hw3 => ?_)
  obtain ⟨o2_1, rho2_2⟩ := u3
  exact hR _ (o2_1, rho2_2) _ _ hw3 dX6_days_6 rfl
set_option maxRecDepth 100000 in
set_option maxHeartbeats 4000000 in
theorem c_X6_drift (l : Launch) (G : zG) (x : Nat) (w : Nat) (kw : Nat) (ik : Nat) (tp : Nat) (sx : Nat) (fo : Nat) (gu : Nat) (ch : Nat) (now : Nat) (nh : Nat) (cr : Nat) (past : Nat) (o : Nat) (u : Nat) (s : nst) (ck : Nat) (cl : Nat) (ce : Nat) (sz : Nat) (fk : Nat → Int32) (fl : Nat → Int32) (fe : Nat → Int32) (pm : Nat → Nat) (ph : Nat → Nat) (rho : Nat → nst) (h : Nat → nst) (nn : Int32) (h0 : WF 9999 0 s) (h1 : CR s fk fl fe) (h2 : sz = s 0) (h3 : o < 8) (h4 : u ≤ 8) (h5 : RH o u rho h) : zMi l G yX6_drift cX6_drift 2 .int 4 0 0 96 [.ref x, .int nn] [ob x 6 [.ref w, .ref kw, .int (nI ik), .ref tp, .ref sx, .ref fo, .ref gu, .ref ch], ob w 5 [.ref now, .ref cr, .ref past, .int (nI o), .int (nI u)], ob now 2 (mf nh s), ia G nh 4 (fN (sh 7 s)), ob cr 1 [.ref ck, .ref cl, .ref ce, .int (nI sz)], ia G ck 6 fk, ia G cl 6 fl, ia G ce 6 fe, ma G past 8 (pmf pm), ob (pm 0) 2 (mf (ph 0) (rho 0)), ia G (ph 0) 4 (fN (sh 7 (rho 0))), ob (pm 1) 2 (mf (ph 1) (rho 1)), ia G (ph 1) 4 (fN (sh 7 (rho 1))), ob (pm 2) 2 (mf (ph 2) (rho 2)), ia G (ph 2) 4 (fN (sh 7 (rho 2))), ob (pm 3) 2 (mf (ph 3) (rho 3)), ia G (ph 3) 4 (fN (sh 7 (rho 3))), ob (pm 4) 2 (mf (ph 4) (rho 4)), ia G (ph 4) 4 (fN (sh 7 (rho 4))), ob (pm 5) 2 (mf (ph 5) (rho 5)), ia G (ph 5) 4 (fN (sh 7 (rho 5))), ob (pm 6) 2 (mf (ph 6) (rho 6)), ia G (ph 6) 4 (fN (sh 7 (rho 6))), ob (pm 7) 2 (mf (ph 7) (rho 7)), ia G (ph 7) 4 (fN (sh 7 (rho 7)))] (fun (r : Int32) (_u : Nat × (Nat → nst)) => r = spDays true s nn ∧ _u.1 < 8 ∧ RH _u.1 (cond (okDays s nn) (lvU (gN nn) u) (u)) _u.2 (cond (okDays s nn) (lvH true h s u (gN nn)) (h))) (fun (_u : Nat × (Nat → nst)) => [ob x 6 [.ref w, .ref kw, .int (nI ik), .ref tp, .ref sx, .ref fo, .ref gu, .ref ch], ob w 5 [.ref now, .ref cr, .ref past, .int (nI _u.1), .int (nI (cond (okDays s nn) (lvU (gN nn) u) (u)))], ob now 2 (mf nh (cond (okDays s nn) (lvS true (gN nn) s) (s))), ia G nh 4 (fN (sh 7 (cond (okDays s nn) (lvS true (gN nn) s) (s)))), ob cr 1 [.ref ck, .ref cl, .ref ce, .int (nI sz)], ia G ck 6 fk, ia G cl 6 fl, ia G ce 6 fe, ma G past 8 (pmf pm), ob (pm 0) 2 (mf (ph 0) (_u.2 0)), ia G (ph 0) 4 (fN (sh 7 (_u.2 0))), ob (pm 1) 2 (mf (ph 1) (_u.2 1)), ia G (ph 1) 4 (fN (sh 7 (_u.2 1))), ob (pm 2) 2 (mf (ph 2) (_u.2 2)), ia G (ph 2) 4 (fN (sh 7 (_u.2 2))), ob (pm 3) 2 (mf (ph 3) (_u.2 3)), ia G (ph 3) 4 (fN (sh 7 (_u.2 3))), ob (pm 4) 2 (mf (ph 4) (_u.2 4)), ia G (ph 4) 4 (fN (sh 7 (_u.2 4))), ob (pm 5) 2 (mf (ph 5) (_u.2 5)), ia G (ph 5) 4 (fN (sh 7 (_u.2 5))), ob (pm 6) 2 (mf (ph 6) (_u.2 6)), ia G (ph 6) 4 (fN (sh 7 (_u.2 6))), ob (pm 7) 2 (mf (ph 7) (_u.2 7)), ia G (ph 7) 4 (fN (sh 7 (_u.2 7)))]) := by
  refine zMi.of (by decide) rfl (fun X A H0 hX hXl hR => ?_)
  show Z (X, G, A, H0, 2) 0 0 [ob x 6 [.ref w, .ref kw, .int (nI ik), .ref tp, .ref sx, .ref fo, .ref gu, .ref ch], ob w 5 [.ref now, .ref cr, .ref past, .int (nI o), .int (nI u)], ob now 2 (mf nh s), ia G nh 4 (fN (sh 7 s)), ob cr 1 [.ref ck, .ref cl, .ref ce, .int (nI sz)], ia G ck 6 fk, ia G cl 6 fl, ia G ce 6 fe, ma G past 8 (pmf pm), ob (pm 0) 2 (mf (ph 0) (rho 0)), ia G (ph 0) 4 (fN (sh 7 (rho 0))), ob (pm 1) 2 (mf (ph 1) (rho 1)), ia G (ph 1) 4 (fN (sh 7 (rho 1))), ob (pm 2) 2 (mf (ph 2) (rho 2)), ia G (ph 2) 4 (fN (sh 7 (rho 2))), ob (pm 3) 2 (mf (ph 3) (rho 3)), ia G (ph 3) 4 (fN (sh 7 (rho 3))), ob (pm 4) 2 (mf (ph 4) (rho 4)), ia G (ph 4) 4 (fN (sh 7 (rho 4))), ob (pm 5) 2 (mf (ph 5) (rho 5)), ia G (ph 5) 4 (fN (sh 7 (rho 5))), ob (pm 6) 2 (mf (ph 6) (rho 6)), ia G (ph 6) 4 (fN (sh 7 (rho 6))), ob (pm 7) 2 (mf (ph 7) (rho 7)), ia G (ph 7) 4 (fN (sh 7 (rho 7)))] 0 [(0, .ref x), (1, .int nn)] []
  subst hXl
  refine z_aload_n hX 0 dX6_drift_0 rfl ?_
  refine z_iload_n hX 1 dX6_drift_1 rfl ?_
  refine z_iconst (v := nI 1) hX dX6_drift_2 (by decide) ?_
  refine z_callVi (st := []) hX (c_X6_live1 _ G x w kw ik tp sx fo gu ch now nh cr past o u s ck cl ce sz fk fl fe pm ph rho h nn h0 h1 h2 h3 h4 h5) lb_X6_live ml_X6_169 (fun (_u : Nat × (Nat → nst)) => [ob x 6 [.ref w, .ref kw, .int (nI ik), .ref tp, .ref sx, .ref fo, .ref gu, .ref ch], ob w 5 [.ref now, .ref cr, .ref past, .int (nI _u.1), .int (nI (cond (okDays s nn) (lvU (gN nn) u) (u)))], ob now 2 (mf nh (cond (okDays s nn) (lvS true (gN nn) s) (s))), ia G nh 4 (fN (sh 7 (cond (okDays s nn) (lvS true (gN nn) s) (s)))), ob cr 1 [.ref ck, .ref cl, .ref ce, .int (nI sz)], ia G ck 6 fk, ia G cl 6 fl, ia G ce 6 fe, ma G past 8 (pmf pm), ob (pm 0) 2 (mf (ph 0) (_u.2 0)), ia G (ph 0) 4 (fN (sh 7 (_u.2 0))), ob (pm 1) 2 (mf (ph 1) (_u.2 1)), ia G (ph 1) 4 (fN (sh 7 (_u.2 1))), ob (pm 2) 2 (mf (ph 2) (_u.2 2)), ia G (ph 2) 4 (fN (sh 7 (_u.2 2))), ob (pm 3) 2 (mf (ph 3) (_u.2 3)), ia G (ph 3) 4 (fN (sh 7 (_u.2 3))), ob (pm 4) 2 (mf (ph 4) (_u.2 4)), ia G (ph 4) 4 (fN (sh 7 (_u.2 4))), ob (pm 5) 2 (mf (ph 5) (_u.2 5)), ia G (ph 5) 4 (fN (sh 7 (_u.2 5))), ob (pm 6) 2 (mf (ph 6) (_u.2 6)), ia G (ph 6) 4 (fN (sh 7 (_u.2 6))), ob (pm 7) 2 (mf (ph 7) (_u.2 7)), ia G (ph 7) 4 (fN (sh 7 (_u.2 7)))]) (wr := []) [0, 1, 2, 3, 4, 5, 6, 7, 8, 9, 10, 11, 12, 13, 14, 15, 16, 17, 18, 19, 20, 21, 22, 23, 24] [] [0, 1, 2, 3, 4, 5, 6, 7, 8, 9, 10, 11, 12, 13, 14, 15, 16, 17, 18, 19, 20, 21, 22, 23, 24] ⟨rfl, rfl, rfl, fun _ => rfl⟩ 0 rfl rfl rfl rfl ⟨Nat.le_refl _, Nat.le_refl _⟩ dX6_drift_3 rfl (fun r3 u3 hw3 => ?_)
  obtain ⟨o2_1, rho2_2⟩ := u3
  exact hR _ (o2_1, rho2_2) _ _ hw3 dX6_drift_6 rfl
