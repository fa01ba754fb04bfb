/-! THE LAW: what class and reference have in common between two calls -/
def HI (s : nst) (u : Nat) (h : Nat → nst) : Prop := ∀ j, j < u → WF 9999 0 (h j) ∧ h j 0 = s 0 ∧ ∀ i, 11 ≤ i → h j i = s i
def GI (s : nst) (fk fl fe : Nat → Int32) (sz o u : Nat) (rho h : Nat → nst) : Prop := WF 9999 0 s ∧ CR s fk fl fe ∧ sz = s 0 ∧ o < 8 ∧ u ≤ 8 ∧ RH o u rho h ∧ HI s u h
def TI (m : Nat) (tau : nst) : Prop := m ≤ 80 ∧ ∀ j, j < m → 32 ≤ tau j ∧ tau j ≤ 126
def SI (qf zf : nst) (IF : Nat → Nat → Int64) (lq lz : nst) (It : Nat → Int64) : Prop := ∀ j, j < 4 → qf j ≤ 4 ∧ zf j ≤ 24 ∧ lq j = qf j ∧ lz j ≤ 24 ∧ (¬ qf j = 0 → lz j = zf j ∧ ∀ i, i < 24 → It (24 * j + i) = IF j i)
def KI (ik v17 : Nat) (K ks : nst) (kfk kfl kfe : Nat → Int32) (ksz ko ku : Nat) (krho kh : Nat → nst) (kU : nst) : Prop := (ik = 0 ∨ ik = 1) ∧ (ik = 1 → GI ks kfk kfl kfe ksz ko ku krho kh ∧ UH ku kU kh ∧ v17 = ku ∧ (∀ i, i < 29 → K i = ks i) ∧ ∀ i, i < 232 → K (29 + i) = kU i)
theorem inb_get {x : Int32} {lo hi : Nat} (hh : hi < 2 ^ 31) (h : inb x lo hi = true) : lo ≤ gN x ∧ gN x ≤ hi ∧ x = nI (gN x) := by
  rcases inb_cases x lo hi hh with ⟨j, a, b, rfl⟩ | e
  · rw [gN_nI (by omega)]
    exact ⟨a, b, rfl⟩
  · rw [e] at h
    cases h
theorem HI_keep {s s' : nst} {u : Nat} {h : Nat → nst} (H : HI s u h) (h0 : s' 0 = s 0) (hk : ∀ i, 11 ≤ i → s' i = s i) : HI s' u h := by
  intro j hj
  obtain ⟨a, b, c⟩ := H j hj
  exact ⟨a, by rw [b, h0], fun i hi => by rw [c i hi, hk i hi]⟩
theorem HI_push {s t : nst} {u : Nat} {h : Nat → nst} (H : HI s u h) (hw : WF 9999 0 t) (h0 : t 0 = s 0) (hk : ∀ i, 11 ≤ i → t i = s i) (hu : u ≤ 8) : HI s (pushU u) (pushH u h t) := by
  intro j hj
  unfold pushU at hj
  unfold pushH
  by_cases c : u = 8
  · rw [if_pos c] at hj
    rw [if_pos c]
    by_cases e : j = 7
    · rw [e, up_eq]
      exact ⟨hw, h0, hk⟩
    · rw [up_ne e]
      exact H (j + 1) (by omega)
  · rw [if_neg c] at hj
    rw [if_neg c]
    by_cases e : j = u
    · rw [e, up_eq]
      exact ⟨hw, h0, hk⟩
    · rw [up_ne e]
      exact H j (by omega)
theorem HI_lv {s : nst} {u : Nat} {h : Nat → nst} (dr : Bool) (H : HI s u h) (hw : WF 9999 0 s) (hu : u ≤ 8) : ∀ n, s 1 + n ≤ 9999 → HI s (lvU n u) (lvH dr h s u n)
  | 0, _ => H
  | n + 1, hn => by
    have ih := HI_lv dr H hw hu n (by omega)
    exact HI_push ih (lvS_WF dr hw (by omega)) (lvS_keep dr s (by omega) n) (fun i hi => lvS_keep dr s (by omega) n) (lvU_le hu n)
theorem GI_step {s s' : nst} {fk fl fe : Nat → Int32} {sz o u o2 : Nat} {rho h rho2 : Nat → nst} (c : Bool) (I : GI s fk fl fe sz o u rho h) (hs : c = true → WF 9999 0 s' ∧ s' 0 = s 0 ∧ ∀ i, 11 ≤ i → s' i = s i) (ho : o2 < 8) (hR : RH o2 (cond c (pushU u) u) rho2 (cond c (pushH u h s) h)) : GI (cond c s' s) fk fl fe sz o2 (cond c (pushU u) u) rho2 (cond c (pushH u h s) h) := by
  obtain ⟨i1, i2, i3, i4, i5, i6, i7⟩ := I
  cases c with
  | false => exact ⟨i1, i2, i3, ho, i5, hR, i7⟩
  | true =>
    obtain ⟨w1, w2, w3⟩ := hs rfl
    have := pushU_le u
    exact ⟨w1, CR_keep i2 w2 w3, by show sz = s' 0; rw [w2]; exact i3, ho, by show pushU u ≤ 8; omega, hR, HI_keep (HI_push i7 i1 rfl (fun _ _ => rfl) i5) w2 w3⟩
theorem GI_days {s : nst} {fk fl fe : Nat → Int32} {sz o u o2 : Nat} {rho h rho2 : Nat → nst} (dr : Bool) (n : Int32) (I : GI s fk fl fe sz o u rho h) (ho : o2 < 8) (hR : RH o2 (cond (okDays s n) (lvU (gN n) u) u) rho2 (cond (okDays s n) (lvH dr h s u (gN n)) h)) : GI (cond (okDays s n) (lvS dr (gN n) s) s) fk fl fe sz o2 (cond (okDays s n) (lvU (gN n) u) u) rho2 (cond (okDays s n) (lvH dr h s u (gN n)) h) := by
  obtain ⟨i1, i2, i3, i4, i5, i6, i7⟩ := I
  cases hc : okDays s n with
  | false => rw [hc] at hR; exact ⟨i1, i2, i3, ho, i5, hR, i7⟩
  | true =>
    rw [hc] at hR
    unfold okDays at hc
    simp only [Bool.and_eq_true, decide_eq_true_eq] at hc
    exact ⟨lvS_WF dr i1 hc.2, CR_lvS dr i2 _, i3.trans (lvS_keep dr s (by omega) _).symm, ho, lvU_le i5 _, hR, HI_keep (HI_lv dr i7 i1 i5 _ hc.2) (lvS_keep dr s (by omega) _) (fun i hi => lvS_keep dr s (by omega) _)⟩
/-- a state that is another, the rest as it was -/
theorem GI_put {s s' : nst} {fk fl fe : Nat → Int32} {sz o u : Nat} {rho h : Nat → nst} (I : GI s fk fl fe sz o u rho h) (w1 : WF 9999 0 s') (w2 : s' 0 = s 0) (w3 : ∀ i, 11 ≤ i → s' i = s i) : GI s' fk fl fe sz o u rho h := by
  obtain ⟨i1, i2, i3, i4, i5, i6, i7⟩ := I
  exact ⟨w1, CR_keep i2 w2 w3, by rw [w2]; exact i3, i4, i5, i6, HI_keep i7 w2 w3⟩
theorem GI_undo {s : nst} {fk fl fe : Nat → Int32} {sz o u : Nat} {rho h : Nat → nst} (I : GI s fk fl fe sz o u rho h) : GI (cond (decide (u = 0)) s (h (u - 1))) fk fl fe sz o (u - 1) rho h := by
  obtain ⟨i1, i2, i3, i4, i5, i6, i7⟩ := I
  by_cases c : u = 0
  · rw [decide_eq_true c]
    subst c
    exact ⟨i1, i2, i3, i4, Nat.zero_le _, i6, i7⟩
  · rw [decide_eq_false c]
    obtain ⟨w1, w2, w3⟩ := i7 (u - 1) (by omega)
    exact ⟨w1, CR_keep i2 w2 w3, by show sz = h (u - 1) 0; rw [w2]; exact i3, i4, by omega, fun j hj => i6 j (by omega), HI_keep (fun j hj => i7 j (by omega)) w2 w3⟩
theorem GI_new {s : nst} {fk fl fe : Nat → Int32} {sz : Nat} {rho h : Nat → nst} (w1 : WF 9999 0 s) (w2 : CR s fk fl fe) (w3 : sz = s 0) : GI s fk fl fe sz 0 0 rho h := ⟨w1, w2, w3, by omega, by omega, fun j hj => absurd hj (Nat.not_lt_zero _), fun j hj => absurd hj (Nat.not_lt_zero _)⟩
theorem UH_new (U : nst) (h : Nat → nst) : UH 0 U h := fun j hj => absurd hj (Nat.not_lt_zero _)
theorem WF_mend {s : nst} {a n : Nat} (h : WF 9999 0 s) (ha : a < 4) : WF 9999 0 (va_up s (7 + a) (min 40 (s (7 + a) + n))) := WF_st h (fun i hi => up_ne (by omega)) (fun b hb => by
  unfold va_up
  split
  · omega
  · exact h.2.2.2.2.2.1 b hb)
theorem WF_seed {s : nst} {v : Nat} (h : WF 9999 0 s) (hv : v < 2147483648) : WF 9999 0 (va_up s 6 v) := by
  obtain ⟨h0, h1, h2, h3, h6, h7, h11⟩ := h
  refine ⟨h0, h1, h2, h3, hv, fun a ha => ?_, fun p hp => ?_⟩
  · rw [up_ne (by omega)]
    exact h7 a ha
  · rw [up_ne (by omega), up_ne (by omega), up_ne (by omega)]
    exact h11 p hp
theorem gN_lt (x : Int32) : gN x < 2147483648 := by
  have h := Int32.toInt_lt x
  show x.toInt.toNat < _
  omega
theorem okList_t {s : nst} {l : Int32} (h : okList s l = true) : gN l < 64 := by
  unfold okList at h
  simp only [Bool.and_eq_true] at h
  have := (inb_get (lo := 0) (hi := 63) (by decide) h.1).2.1
  omega
theorem okMend_t {s : nst} {a n : Int32} (h : okMend s a n = true) : gN a < 4 := by
  unfold okMend at h
  simp only [Bool.and_eq_true] at h
  have := (inb_get (lo := 0) (hi := 3) (by decide) h.1.1).2.1
  omega
theorem okTr_t {s : nst} {k l e : Int32} (h : okTr s k l e = true) : gN k ≤ 4 ∧ gN l < 64 ∧ (1 ≤ gN e ∧ gN e ≤ 9) ∧ s 0 < 6 := by
  unfold okTr okT at h
  simp only [Bool.and_eq_true, decide_eq_true_eq] at h
  have a1 := inb_get (lo := 0) (hi := 4) (by decide) h.1.1.1
  have a2 := inb_get (lo := 0) (hi := 63) (by decide) h.1.1.2
  have a3 := inb_get (lo := 1) (hi := 9) (by decide) h.1.2
  exact ⟨a1.2.1, by omega, ⟨a3.1, a3.2.1⟩, h.2⟩
theorem GI_trav {s : nst} {fk fl fe : Nat → Int32} {sz o u : Nat} {rho h : Nat → nst} (k l e : Int32) (I : GI s fk fl fe sz o u rho h) : GI (cond (okTr s k l e) (joinS s (gN k) (gN l) (gN e)) s) (cond (okTr s k l e) (upd fk (s 0) (nI (gN k))) fk) (cond (okTr s k l e) (upd fl (s 0) (nI (gN l))) fl) (cond (okTr s k l e) (upd fe (s 0) (nI (gN e))) fe) (cond (okTr s k l e) (s 0 + 1) sz) (cond (okTr s k l e) 0 o) (cond (okTr s k l e) 0 u) rho h := by
  cases hc : okTr s k l e with
  | false => exact I
  | true =>
    obtain ⟨a1, a2, a3, a4⟩ := okTr_t hc
    exact GI_new (WF_join I.1 a4 a1 a2 a3) (CR_join I.2.1 _ _ _) rfl
theorem joinS_lo {s : nst} {k l e : Nat} : ∀ i, 1 ≤ i → i ≤ 10 → s i = joinS s k l e i := by
  intro i a b
  unfold joinS
  rw [up_ne (by omega), up_ne (by omega), up_ne (by omega), up_ne (by omega)]
theorem UH_cond {c : Bool} {u : Nat} {U : nst} {h : Nat → nst} (H : UH u U h) : UH (cond c 0 u) U h := by
  cases c
  · exact H
  · exact UH_new U h
theorem TI_type {m : Nat} {tau : nst} (c : Int32) (H : TI m tau) : TI (cond (okType m c) (m + 1) m) (cond (okType m c) (va_up tau m (gN c)) tau) := by
  cases hc : okType m c with
  | false => exact H
  | true =>
    unfold okType at hc
    simp only [Bool.and_eq_true, decide_eq_true_eq] at hc
    have a := inb_get (lo := 32) (hi := 126) (by decide) hc.1
    refine ⟨by show m + 1 ≤ 80; omega, fun j hj => ?_⟩
    show 32 ≤ va_up tau m (gN c) j ∧ va_up tau m (gN c) j ≤ 126
    by_cases e : j = m
    · rw [e, up_eq]
      omega
    · rw [up_ne e]
      exact H.2 j (by have hj : j < m + 1 := hj; omega)
theorem TI_0 (tau : nst) : TI 0 tau := ⟨Nat.zero_le _, fun j hj => absurd hj (Nat.not_lt_zero _)⟩
theorem GI_bridge {s : nst} {fk fl fe k3 l3 e3 : Nat → Int32} {sz o u z3 m : Nat} {rho h : Nat → nst} {tau : nst} (I : GI s fk fl fe sz o u rho h) (h2 : CR (cond (okBr tau m) (brS s (brB tau m)) s) k3 l3 e3) (h3 : z3 = (cond (okBr tau m) (brS s (brB tau m)) s) 0) : GI (cond (okBr tau m) (brS s (brB tau m)) s) k3 l3 e3 z3 (cond (okBr tau m) 0 o) (cond (okBr tau m) 0 u) rho h := by
  cases hc : okBr tau m with
  | false => rw [hc] at h2 h3; exact ⟨I.1, h2, h3, I.2.2.2.1, I.2.2.2.2.1, I.2.2.2.2.2.1, I.2.2.2.2.2.2⟩
  | true => rw [hc] at h2 h3; exact GI_new (WF_brS I.1 (brB_ok tau m)) h2 h3
/-! SHEETS -/
theorem shj (x : Int32) : ∃ j, j < 4 ∧ (∀ i, i < 4 → x = nI i → i = j) ∧ (inb x 0 3 = true → gN x = j) := by
  rcases inb_cases x 0 3 (by decide) with ⟨j, a, b, rfl⟩ | e
  · exact ⟨j, by omega, fun i hi e => (nI_eqW (by omega) (by omega) e).symm, fun _ => gN_nI (by omega)⟩
  · refine ⟨0, by omega, fun i hi e2 => ?_, fun h => ?_⟩
    · rw [e2] at e
      have : inb (nI i) ((0 : Nat) : Int) ((3 : Nat) : Int) = true := inb_t (by omega) (by omega) (by omega)
      rw [this] at e
      cases e
    · have h : inb x ((0 : Nat) : Int) ((3 : Nat) : Int) = true := h
      rw [e] at h
      cases h
theorem showB_congr {s : nst} {a : Nat} {f g : Nat → Int64} : ∀ {m}, (∀ k, k < m → f k = g k) → showB s a f m = showB s a g m
  | 0, _ => rfl
  | m + 1, h => by rw [showB, showB, showB_congr (m := m) (fun k hk => h k (by omega)), h m (by omega)]
theorem cntL_congr {s : nst} {a m : Nat} {f g : Nat → Int64} (h : ∀ k, k < m → f k = g k) : ∀ v, cntL s a f m v = cntL s a g m v
  | 0 => rfl
  | v + 1 => by rw [cntL, cntL, showB_congr h, cntL_congr h v]
theorem lstL_congr {s : nst} {a m : Nat} {f g : Nat → Int64} (h : ∀ k, k < m → f k = g k) : ∀ v, lstL s a f m v = lstL s a g m v
  | 0 => rfl
  | v + 1 => by rw [lstL, lstL, showB_congr h, lstL_congr h v]
theorem seenTo_congr {s : nst} {ix a m lo : Nat} {f g : Nat → Int64} (h : ∀ k, k < m → f k = g k) : ∀ v, seenTo s ix a f m lo v = seenTo s ix a g m lo v
  | 0 => rfl
  | v + 1 => by rw [seenTo, seenTo, showB_congr h, seenTo_congr h v]
theorem faultI_q0 (z z' : Nat) (l x y : Int32) : faultI 0 z l x y = faultI 0 z' l x y := by
  unfold faultI
  rw [if_pos rfl, if_pos rfl]
theorem okPl_t {a b : Int32} (h : okPl a b = true) : inb a 0 3 = true ∧ inb b 0 3 = true := by
  unfold okPl at h
  simpa only [Bool.and_eq_true] using h
/-- the fault of a sheet is the same in both -/
theorem fault_eq {qf zf : nst} {IF : Nat → Nat → Int64} {lq lz : nst} {It : Nat → Int64} {j : Nat} (hS : SI qf zf IF lq lz It) (hj : j < 4) (l x y : Int32) : faultI (qf j) (zf j) l x y = faultI (lq j) (lz j) l x y := by
  obtain ⟨s1, s2, s3, s4, s5⟩ := hS j hj
  rw [s3]
  by_cases c : qf j = 0
  · rw [c]
    exact faultI_q0 _ _ _ _ _
  · rw [(s5 c).1]
theorem items_eq {qf zf : nst} {IF : Nat → Nat → Int64} {lq lz : nst} {It : Nat → Int64} {j : Nat} (hS : SI qf zf IF lq lz It) (hj : j < 4) {l x y : Int32} (h : faultI (qf j) (zf j) l x y = 0) : ∀ k, k < gN y → IF j (gN x + k) = It (24 * j + (gN x + k)) := by
  obtain ⟨s1, s2, s3, s4, s5⟩ := hS j hj
  obtain ⟨f1, f2, f3⟩ := faultI_0 h
  obtain ⟨i, m, h1, rfl, rfl⟩ := fits_ex2 s2 f3
  intro k hk
  rw [gN_nI (by omega)] at hk ⊢
  exact ((s5 f1).2 (i + k) (by omega)).symm
theorem lists_eq {s qf zf : nst} {IF : Nat → Nat → Int64} {lq lz : nst} {It : Nat → Int64} {j : Nat} {a sh l i n w : Int32} (hS : SI qf zf IF lq lz It) (hj : j < 4) (hg : inb sh 0 3 = true → gN sh = j) : spLists s (qf j) (zf j) (IF j) a sh l i n w = spLists s (lq (gN sh)) (lz (gN sh)) (fun k => It (24 * gN sh + k)) a sh l i n w := by
  unfold spLists
  by_cases c : okLists a sh l n w = true
  · have c2 : inb sh 0 3 = true := by
      unfold okLists at c
      simp only [Bool.and_eq_true] at c
      exact c.1.1.2.1
    rw [if_pos c, if_pos c, hg c2, ← fault_eq hS hj]
    by_cases f : faultI (qf j) (zf j) l i n = 0
    · have e := items_eq hS hj f
      rw [if_pos f, if_pos f, cntL_congr e, lstL_congr e]
    · rw [if_neg f, if_neg f]
  · rw [if_neg c, if_neg c]
theorem seen_eq {s qf zf : nst} {IF : Nat → Nat → Int64} {lq lz : nst} {It : Nat → Int64} {j : Nat} {a t sh l i n w : Int32} (hS : SI qf zf IF lq lz It) (hj : j < 4) (hg : inb sh 0 3 = true → gN sh = j) : spSeen s (qf j) (zf j) (IF j) a t sh l i n w = spSeen s (lq (gN sh)) (lz (gN sh)) (fun k => It (24 * gN sh + k)) a t sh l i n w := by
  unfold spSeen
  by_cases c : okSeen s a t sh l n w = true
  · have c2 : inb sh 0 3 = true := by
      unfold okSeen at c
      simp only [Bool.and_eq_true] at c
      exact c.1.1.2.1
    rw [if_pos c, if_pos c, hg c2, ← fault_eq hS hj]
    by_cases f : faultI (qf j) (zf j) l i n = 0
    · have e := items_eq hS hj f
      rw [if_pos f, if_pos f, seenTo_congr e, seenTo_congr e]
    · rw [if_neg f, if_neg f]
  · rw [if_neg c, if_neg c]
theorem film_eq {qf zf : nst} {IF : Nat → Nat → Int64} {lq lz : nst} {It : Nat → Int64} {j : Nat} {a n sh l i : Int32} (hS : SI qf zf IF lq lz It) (hj : j < 4) (hg : inb sh 0 3 = true → gN sh = j) : spFilm (qf j) (zf j) a n sh l i = spFilm (lq (gN sh)) (lz (gN sh)) a n sh l i := by
  unfold spFilm
  by_cases c : okFilm a n sh l = true
  · have c2 : inb sh 0 3 = true := by
      unfold okFilm at c
      simp only [Bool.and_eq_true] at c
      exact c.2.1
    rw [hg c2, ← fault_eq hS hj]
  · rw [if_neg c, if_neg c]
theorem drop_eq {qf zf : nst} {IF : Nat → Nat → Int64} {lq lz : nst} {It : Nat → Int64} {j : Nat} {sh : Int32} (hS : SI qf zf IF lq lz It) (hj : j < 4) (hg : inb sh 0 3 = true → gN sh = j) : spDrop (qf j) (zf j) sh = spDrop (lq (gN sh)) (lz (gN sh)) sh := by
  unfold spDrop
  by_cases c : inb sh 0 3 = true
  · obtain ⟨s1, s2, s3, s4, s5⟩ := hS j hj
    rw [if_pos c, if_pos c, hg c, s3]
    by_cases f : qf j = 0
    · rw [if_pos f, if_pos f]
    · rw [if_neg f, if_neg f, (s5 f).1]
  · rw [if_neg c, if_neg c]
theorem item_eq {qf zf : nst} {IF : Nat → Nat → Int64} {lq lz : nst} {It : Nat → Int64} {j : Nat} {sh l i : Int32} (hS : SI qf zf IF lq lz It) (hj : j < 4) (hg : inb sh 0 3 = true → gN sh = j) : spItem (qf j) (zf j) sh l i = spItem (lq (gN sh)) (lz (gN sh)) sh l i := by
  unfold spItem
  by_cases c : okPl sh l = true
  · rw [hg (okPl_t c).1, ← fault_eq hS hj]
  · rw [if_neg c, if_neg c]
theorem copy_eq {qf zf : nst} {IF : Nat → Nat → Int64} {lq lz : nst} {It : Nat → Int64} {j k : Nat} {f i t x n : Int32} (hS : SI qf zf IF lq lz It) (hj : j < 4) (hk : k < 4) (hg : inb f 0 3 = true → gN f = j) (hg2 : inb t 0 3 = true → gN t = k) : spCopy (qf j) (zf j) (qf k) (zf k) f i t x n = spCopy (lq (gN f)) (lz (gN f)) (lq (gN t)) (lz (gN t)) f i t x n := by
  unfold spCopy
  by_cases c : okPl f t = true
  · obtain ⟨s1, s2, s3, s4, s5⟩ := hS j hj
    obtain ⟨t1, t2, t3, t4, t5⟩ := hS k hk
    rw [if_pos c, if_pos c, hg (okPl_t c).1, hg2 (okPl_t c).2, s3, t3]
    by_cases f1 : qf j = 0 ∨ qf k = 0
    · rw [if_pos f1, if_pos f1]
    · rw [if_neg f1, if_neg f1, (s5 (fun z => f1 (Or.inl z))).1, (t5 (fun z => f1 (Or.inr z))).1]
  · rw [if_neg c, if_neg c]
/-- one sheet changed -/
theorem SI_up {qf zf : nst} {IF : Nat → Nat → Int64} {lq lz : nst} {It It' : Nat → Int64} {j q' z' : Nat} {I' : Nat → Int64} {lq' lz' : nst} (hS : SI qf zf IF lq lz It) (hj : j < 4) (h1 : q' ≤ 4) (h2 : z' ≤ 24) (h3 : lq' j = q') (h4 : lz' j ≤ 24) (h5 : ¬ q' = 0 → lz' j = z' ∧ ∀ i, i < 24 → It' (24 * j + i) = I' i) (ho : ∀ k, k < 4 → k ≠ j → lq' k = lq k ∧ lz' k = lz k ∧ ∀ i, i < 24 → It' (24 * k + i) = It (24 * k + i)) : SI (va_up qf j q') (va_up zf j z') (va_up IF j I') lq' lz' It' := by
  intro k hk
  by_cases e : k = j
  · subst e
    rw [up_eq, up_eq, up_eq]
    exact ⟨h1, h2, h3, h4, h5⟩
  · obtain ⟨s1, s2, s3, s4, s5⟩ := hS k hk
    obtain ⟨o1, o2, o3⟩ := ho k hk e
    rw [up_ne e, up_ne e, up_ne e, o1, o2]
    exact ⟨s1, s2, s3, s4, fun q => ⟨(s5 q).1, fun i hi => by rw [o3 i hi]; exact (s5 q).2 i hi⟩⟩
theorem up_id {α : Type} (f : Nat → α) (j : Nat) : va_up f j (f j) = f := by
  funext i
  by_cases e : i = j
  · rw [e, up_eq]
  · rw [up_ne e]
theorem SI_sheet {qf zf : nst} {IF : Nat → Nat → Int64} {lq lz : nst} {It : Nat → Int64} {j : Nat} {sh l n : Int32} (hS : SI qf zf IF lq lz It) (hj : j < 4) (hg : inb sh 0 3 = true → gN sh = j) : SI (va_up qf j (cond (okSheet sh l n) (gN l + 1) (qf j))) (va_up zf j (cond (okSheet sh l n) (gN n) (zf j))) (va_up IF j (cond (okSheet sh l n) (fun _ => 0) (IF j))) (cond (okSheet sh l n) (va_up lq (gN sh) (gN l + 1)) lq) (cond (okSheet sh l n) (va_up lz (gN sh) (gN n)) lz) (cond (okSheet sh l n) (zI It (24 * gN sh) 24) It) := by
  cases hc : okSheet sh l n with
  | false =>
    show SI (va_up qf j (qf j)) (va_up zf j (zf j)) (va_up IF j (IF j)) lq lz It
    rw [up_id, up_id, up_id]
    exact hS
  | true =>
    unfold okSheet at hc
    simp only [Bool.and_eq_true, decide_eq_true_eq] at hc
    obtain ⟨⟨c1, c2⟩, c3⟩ := hc
    obtain ⟨p1, p2⟩ := okPl_t c1
    have l4 := (inb_get (lo := 0) (hi := 3) (by decide) p2).2.1
    have n24 : gN n ≤ 24 := by
      obtain ⟨m, hm, rfl⟩ := nI_of c3
      rw [gN_nI (by omega)]
      rw [nI_ltI (by omega) hm] at c2
      omega
    rw [hg p1]
    refine SI_up hS hj (by show gN l + 1 ≤ 4; omega) n24 up_eq (by show va_up lz j (gN n) j ≤ 24; rw [up_eq]; exact n24) (fun _ => ⟨up_eq, fun i hi => ?_⟩) (fun k hk e => ⟨up_ne e, up_ne e, fun i hi => ?_⟩)
    · show zI It (24 * j) 24 (24 * j + i) = 0
      unfold zI
      rw [if_pos (by omega)]
      rfl
    · show zI It (24 * j) 24 (24 * k + i) = It (24 * k + i)
      unfold zI
      rw [if_neg (by omega)]
theorem SI_drop {qf zf : nst} {IF : Nat → Nat → Int64} {lq lz : nst} {It : Nat → Int64} {j : Nat} {sh : Int32} (hS : SI qf zf IF lq lz It) (hj : j < 4) (hg : inb sh 0 3 = true → gN sh = j) : SI (va_up qf j (cond (inb sh 0 3 && decide (¬ qf j = 0)) 0 (qf j))) (va_up zf j (cond (inb sh 0 3 && decide (¬ qf j = 0)) 0 (zf j))) (va_up IF j (cond (inb sh 0 3 && decide (¬ qf j = 0)) (fun _ => 0) (IF j))) (cond (inb sh 0 3 && decide (¬ lq (gN sh) = 0)) (va_up lq (gN sh) 0) lq) lz It := by
  by_cases c : inb sh 0 3 = true
  · rw [c, hg c, (hS j hj).2.2.1]
    by_cases f : qf j = 0
    · rw [decide_eq_false (fun z => z f)]
      show SI (va_up qf j (qf j)) (va_up zf j (zf j)) (va_up IF j (IF j)) lq lz It
      rw [up_id, up_id, up_id]
      exact hS
    · rw [decide_eq_true f]
      exact SI_up hS hj (Nat.zero_le _) (Nat.zero_le _) up_eq (hS j hj).2.2.2.1 (fun z => absurd rfl z) (fun k hk e => ⟨up_ne e, rfl, fun _ _ => rfl⟩)
  · have c := Bool.not_eq_true _ ▸ c
    rw [c]
    show SI (va_up qf j (qf j)) (va_up zf j (zf j)) (va_up IF j (IF j)) lq lz It
    rw [up_id, up_id, up_id]
    exact hS
/-- the items of one sheet changed -/
theorem SI_it {qf zf : nst} {IF : Nat → Nat → Int64} {lq lz : nst} {It It' : Nat → Int64} {j : Nat} {I' : Nat → Int64} (hS : SI qf zf IF lq lz It) (hj : j < 4) (h5 : ¬ qf j = 0 → ∀ i, i < 24 → It' (24 * j + i) = I' i) (ho : ∀ k, k < 4 → k ≠ j → ∀ i, i < 24 → It' (24 * k + i) = It (24 * k + i)) : SI qf zf (va_up IF j I') lq lz It' := by
  obtain ⟨s1, s2, s3, s4, s5⟩ := hS j hj
  have := SI_up (It' := It') (I' := I') hS hj s1 s2 s3 s4 (fun q => ⟨(s5 q).1, h5 q⟩) (fun k hk e => ⟨rfl, rfl, ho k hk e⟩)
  rw [up_id, up_id] at this
  exact this
theorem SI_film {s qf zf : nst} {IF : Nat → Nat → Int64} {lq lz : nst} {It : Nat → Int64} {j : Nat} {a n sh l i : Int32} (hS : SI qf zf IF lq lz It) (hj : j < 4) (hg : inb sh 0 3 = true → gN sh = j) : SI qf zf (va_up IF j (cond (okFilm a n sh l && decide (faultI (qf j) (zf j) l i n = 0)) (filmI (IF j) s (gN a) (gN i) (gN n)) (IF j))) lq lz (cond (okFilm a n sh l && decide (faultI (lq (gN sh)) (lz (gN sh)) l i n = 0)) (filmI It s (gN a) (24 * gN sh + gN i) (gN n)) It) := by
  by_cases c : okFilm a n sh l = true
  · have c2 : inb sh 0 3 = true := by
      unfold okFilm at c
      simp only [Bool.and_eq_true] at c
      exact c.2.1
    rw [c, hg c2, ← fault_eq hS hj]
    by_cases f : faultI (qf j) (zf j) l i n = 0
    · rw [decide_eq_true f]
      obtain ⟨f1, f2, f3⟩ := faultI_0 f
      obtain ⟨i', m', h1, rfl, rfl⟩ := fits_ex2 (hS j hj).2.1 f3
      have z24 := (hS j hj).2.1
      rw [gN_nI (show i' < 2147483648 by omega), gN_nI (show m' < 2147483648 by omega)]
      refine SI_it hS hj (fun q x hx => ?_) (fun k hk e x hx => ?_)
      · show filmI It s (gN a) (24 * j + i') m' (24 * j + x) = filmI (IF j) s (gN a) i' m' x
        unfold filmI
        by_cases d : i' ≤ x ∧ x < i' + m'
        · rw [if_pos (by omega), if_pos d, show 24 * j + x - (24 * j + i') + 1 = x - i' + 1 by omega]
        · rw [if_neg (by omega), if_neg d]
          exact ((hS j hj).2.2.2.2 q).2 x hx
      · show filmI It s (gN a) (24 * j + i') m' (24 * k + x) = It (24 * k + x)
        unfold filmI
        rw [if_neg (by omega)]
    · rw [decide_eq_false f]
      show SI qf zf (va_up IF j (IF j)) lq lz It
      rw [up_id]
      exact hS
  · have c := Bool.not_eq_true _ ▸ c
    rw [c]
    show SI qf zf (va_up IF j (IF j)) lq lz It
    rw [up_id]
    exact hS
theorem SI_item {qf zf : nst} {IF : Nat → Nat → Int64} {lq lz : nst} {It : Nat → Int64} {j : Nat} {sh l i : Int32} {va : Int64} (hS : SI qf zf IF lq lz It) (hj : j < 4) (hg : inb sh 0 3 = true → gN sh = j) : SI qf zf (va_up IF j (cond (okPl sh l && decide (faultI (qf j) (zf j) l i (nI 1) = 0)) (vp_updL (IF j) (gN i) (lowB (gN l) va)) (IF j))) lq lz (cond (okPl sh l && decide (faultI (lq (gN sh)) (lz (gN sh)) l i (nI 1) = 0)) (vp_updL It (24 * gN sh + gN i) (lowB (gN l) va)) It) := by
  by_cases c : okPl sh l = true
  · rw [c, hg (okPl_t c).1, ← fault_eq hS hj]
    by_cases f : faultI (qf j) (zf j) l i (nI 1) = 0
    · rw [decide_eq_true f]
      obtain ⟨f1, f2, f3⟩ := faultI_0 f
      obtain ⟨i', h1, rfl⟩ := fits_ex (by omega) f3
      have z24 := (hS j hj).2.1
      rw [gN_nI (show i' < 2147483648 by omega)]
      refine SI_it hS hj (fun q x hx => ?_) (fun k hk e x hx => ?_)
      · show vp_updL It (24 * j + i') _ (24 * j + x) = vp_updL (IF j) i' _ x
        unfold vp_updL
        by_cases d : x = i'
        · rw [if_pos (by omega), if_pos d]
        · rw [if_neg (by omega), if_neg d]
          exact ((hS j hj).2.2.2.2 q).2 x hx
      · show vp_updL It (24 * j + i') _ (24 * k + x) = It (24 * k + x)
        unfold vp_updL
        rw [if_neg (by omega)]
    · rw [decide_eq_false f]
      show SI qf zf (va_up IF j (IF j)) lq lz It
      rw [up_id]
      exact hS
  · have c := Bool.not_eq_true _ ▸ c
    rw [c]
    show SI qf zf (va_up IF j (IF j)) lq lz It
    rw [up_id]
    exact hS
theorem SI_copy {qf zf : nst} {IF : Nat → Nat → Int64} {lq lz : nst} {It : Nat → Int64} {j k : Nat} {f i t x n : Int32} (hS : SI qf zf IF lq lz It) (hj : j < 4) (hk : k < 4) (hg : inb f 0 3 = true → gN f = j) (hg2 : inb t 0 3 = true → gN t = k) : SI qf zf (va_up IF k (cond (decide (spCopy (qf j) (zf j) (qf k) (zf k) f i t x n = n) && decide (¬ n < 0)) (va_cpy (IF j) (IF k) (gN i) (gN x) (gN n)) (IF k))) lq lz (cond (decide (spCopy (lq (gN f)) (lz (gN f)) (lq (gN t)) (lz (gN t)) f i t x n = n) && decide (¬ n < 0)) (va_cpy It It (24 * gN f + gN i) (24 * gN t + gN x) (gN n)) It) := by
  rw [← copy_eq hS hj hk hg hg2]
  by_cases c : spCopy (qf j) (zf j) (qf k) (zf k) f i t x n = n ∧ ¬ n < 0
  · rw [decide_eq_true c.1, decide_eq_true c.2]
    obtain ⟨n', hn', rfl⟩ := nI_of c.2
    have c1 := c.1
    have neg : ∀ q : Int32, q < 0 → ¬ q = nI n' := fun q hq e => c.2 (e ▸ hq)
    unfold spCopy at c1
    by_cases d : okPl f t = true
    · rw [if_pos d] at c1
      by_cases d1 : qf j = 0 ∨ qf k = 0
      · rw [if_pos d1] at c1
        exact absurd c1 (neg _ (by decide))
      · rw [if_neg d1] at c1
        by_cases d2 : qf j = qf k
        · rw [if_neg (fun z => z d2)] at c1
          by_cases d3 : fitsI i (nI n') (zf j) = true ∧ fitsI x (nI n') (zf k) = true
          · obtain ⟨i', hi', rfl⟩ := fits_ex (by omega) d3.1
            obtain ⟨x', hx', rfl⟩ := fits_ex (by omega) d3.2
            have a1 := (hS j hj).2.1
            have a2 := (hS k hk).2.1
            rw [hg (okPl_t d).1, hg2 (okPl_t d).2, gN_nI (show i' < 2147483648 by omega), gN_nI (show x' < 2147483648 by omega), gN_nI (show n' < 2147483648 by omega)]
            refine SI_it hS hk (fun q y hy => ?_) (fun p hp e y hy => ?_)
            · show va_cpy It It (24 * j + i') (24 * k + x') n' (24 * k + y) = va_cpy (IF j) (IF k) i' x' n' y
              unfold va_cpy
              by_cases b : x' ≤ y ∧ y < x' + n'
              · rw [if_pos (by omega), if_pos b, show 24 * j + i' + (24 * k + y - (24 * k + x')) = 24 * j + (i' + (y - x')) by omega]
                exact ((hS j hj).2.2.2.2 (fun z => d1 (Or.inl z))).2 _ (by omega)
              · rw [if_neg (by omega), if_neg b]
                exact ((hS k hk).2.2.2.2 q).2 y hy
            · show va_cpy It It (24 * j + i') (24 * k + x') n' (24 * p + y) = It (24 * p + y)
              unfold va_cpy
              rw [if_neg (by omega)]
          · rw [if_neg d3] at c1
            exact absurd c1 (neg _ (by decide))
        · rw [if_pos d2] at c1
          exact absurd c1 (neg _ (by decide))
    · rw [if_neg d] at c1
      exact absurd c1 (neg _ (by decide))
  · have e : (decide (spCopy (qf j) (zf j) (qf k) (zf k) f i t x n = n) && decide (¬ n < 0)) = false := by
      by_cases c1 : spCopy (qf j) (zf j) (qf k) (zf k) f i t x n = n
      · rw [decide_eq_false (fun z => c ⟨c1, z⟩), Bool.and_false]
      · rw [decide_eq_false c1, Bool.false_and]
    rw [e]
    show SI qf zf (va_up IF k (IF k)) lq lz It
    rw [up_id]
    exact hS
theorem KI_img {s U : nst} {fk fl fe : Nat → Int32} {sz o u : Nat} {rho h : Nat → nst} (I : GI s fk fl fe sz o u rho h) (H : UH u U h) : KI 1 u (kpF s U) s fk fl fe sz o u rho h U := by
  refine ⟨Or.inr rfl, fun _ => ⟨I, H, rfl, fun i hi => ?_, fun i hi => ?_⟩⟩
  · unfold kpF
    rw [if_pos hi]
  · unfold kpF
    rw [if_neg (by omega), show 29 + i - 29 = i by omega]
theorem WF_mom0 : WF 9999 0 mom0 := by
  refine ⟨by decide, by decide, by decide, by decide, by decide, fun a ha => ?_, fun p hp => absurd hp (by show ¬ p < 0; omega)⟩
  rw [mom0_h ha]
  decide
theorem GI_0 (fk fl fe : Nat → Int32) (rho h : Nat → nst) : GI mom0 fk fl fe 0 0 0 rho h := GI_new WF_mom0 (fun p hp => absurd hp (by show ¬ p < 0; omega)) rfl
