/-! THE CALLS IN NUMBERS -/
theorem up_self (s : nst) (i : Nat) : va_up s i (s i) = s := by
  funext j
  by_cases h : j = i
  · subst h
    exact up_eq
  · exact up_ne h
theorem inb_t {j : Nat} {lo hi : Int} (h1 : lo ≤ j) (h2 : (j : Int) ≤ hi) (hj : j < 2147483648) : inb (nI j) lo hi = true := by
  rw [inb_nI hj]
  simp [h1, h2]
theorem CR_keep {s t : nst} {fk fl fe : Nat → Int32} (h : CR s fk fl fe) (h0 : t 0 = s 0) (hk : ∀ i, 11 ≤ i → t i = s i) : CR t fk fl fe := by
  intro p hp
  rw [hk (11 + 3 * p) (by omega), hk (12 + 3 * p) (by omega), hk (13 + 3 * p) (by omega)]
  exact h p (by omega)
theorem CR_goN {s : nst} {fk fl fe : Nat → Int32} (h : CR s fk fl fe) (n : Nat) : CR (goN n s) fk fl fe := CR_keep h (goN_keep s (by omega) n) (fun i hi => goN_keep s (by omega) n)
theorem CR_list {s : nst} {fk fl fe : Nat → Int32} (h : CR s fk fl fe) (v : Nat) : CR (va_up s 2 v) fk fl fe := CR_keep h (up_ne (by omega)) (fun i hi => up_ne (by omega))
theorem WF_list {D K : Nat} {s : nst} (h : WF D K s) {v : Nat} (hv : v < 64) : WF D K (va_up s 2 v) := by
  obtain ⟨h0, h1, h2, h3, h6, h7, h11⟩ := h
  refine ⟨h0, h1, hv, h3, h6, fun a ha => ?_, fun p hp => ?_⟩
  · rw [up_ne (by omega)]
    exact h7 a ha
  · rw [up_ne (by omega), up_ne (by omega), up_ne (by omega)]
    exact h11 p hp
/-- counted: never less -/
theorem stepP_up (p : Nat) (x : nst × Nat) : x.1 3 ≤ (stepP p x).1 3 ∧ x.1 5 ≤ (stepP p x).1 5 := by
  unfold stepP
  split
  · split
    · dsimp only
      rw [putN_lo _ (by omega), putN_lo _ (by omega), up_ne (by omega), up_ne (by omega)]
      omega
    · split
      · dsimp only
        rw [up_ne (by omega), up_eq, crossG_lo _ _ (by omega) _ _ _ (by omega), crossG_lo _ _ (by omega) _ _ _ (by omega)]
        omega
      · dsimp only
        rw [up_eq, up_ne (by omega), crossG_lo _ _ (by omega) _ _ _ (by omega), crossG_lo _ _ (by omega) _ _ _ (by omega)]
        omega
  · omega
theorem passTo_up (s : nst) : ∀ p, s 3 ≤ (passTo p s).1 3 ∧ s 5 ≤ (passTo p s).1 5
  | 0 => ⟨Nat.le_refl _, Nat.le_refl _⟩
  | p + 1 => by
    have h1 := passTo_up s p
    have h2 := stepP_up p (passTo p s)
    rw [passTo]
    omega
theorem goBy_up (s : nst) : s 3 ≤ goBy s 3 ∧ s 5 ≤ goBy s 5 := by
  have h := passTo_up s (s 0)
  unfold goBy
  rw [up_ne (by omega), up_ne (by omega)]
  exact h
theorem goN_up (s : nst) : ∀ n, s 3 ≤ goN n s 3 ∧ s 5 ≤ goN n s 5
  | 0 => ⟨Nat.le_refl _, Nat.le_refl _⟩
  | n + 1 => by
    have h1 := goN_up s n
    have h2 := goBy_up (goN n s)
    rw [goN]
    omega
/-- nobody FELL: the set of those who did is empty -/
theorem stepP_fall (p : Nat) (x : nst × Nat) : ((stepP p x).2 = 0 ↔ x.2 = 0 ∧ (stepP p x).1 5 = x.1 5) := by
  unfold stepP
  split
  · split
    · dsimp only
      rw [putN_lo _ (by omega), up_ne (by omega)]
      simp
    · split
      · dsimp only
        rw [up_eq, crossG_lo _ _ (by omega) _ _ _ (by omega)]
        constructor
        · intro h
          have h1 : 2 ^ p ≤ x.2 ||| 2 ^ p := Nat.right_le_or
          have h2 : 0 < 2 ^ p := Nat.pos_of_ne_zero (by simp)
          omega
        · intro h
          omega
      · dsimp only
        rw [up_ne (by omega), crossG_lo _ _ (by omega) _ _ _ (by omega)]
        simp
  · simp
theorem passTo_none (s : nst) : ∀ p, ((passTo p s).2 = 0 ↔ (passTo p s).1 5 = s 5)
  | 0 => by simp [passTo]
  | p + 1 => by
    have h1 := passTo_none s p
    have h2 := stepP_fall p (passTo p s)
    have h3 := passTo_up s p
    have h4 := (stepP_up p (passTo p s)).2
    rw [passTo, h2, h1]
    omega
theorem goBy_none (s : nst) : goFall s = 0 ↔ goBy s 5 = s 5 := by
  have h := passTo_none s (s 0)
  unfold goFall goBy
  rw [up_ne (by omega)]
  exact h
/-- HOLE from d DAYS on -/
def hole1 (s : nst) : Nat → Nat → Int32
  | 0, _ => -4
  | f + 1, d => if holesTo (goN d s) 4 = 0 then hole1 s f (d + 1) else nI d
/-- FIRST of p from d DAYS on -/
def first1 (s : nst) (p : Nat) : Nat → Nat → Int32
  | 0, _ => -4
  | f + 1, d => if goFall (goN d s) / 2 ^ p % 2 = 1 then nI (d + 1) else first1 s p f (d + 1)
def bestW (s : nst) (n : Nat) : Nat → Nat × Nat × Nat
  | 0 => (0, 0, 0)
  | k + 1 => offerS k (goN n (va_up s 2 k) 5 - s 5) (goN n (va_up s 2 k) 3 - s 3) (bestW s n k)
def bestT (s : nst) (n on : Nat) : Nat → Nat × Nat × Nat
  | 0 => (0, 0, 0)
  | k + 1 => if s 2 / 2 ^ k % 2 = on then offerS k (goN n (va_up s 2 (s 2 ^^^ 2 ^ k)) 5 - s 5) (goN n (va_up s 2 (s 2 ^^^ 2 ^ k)) 3 - s 3) (bestT s n on k) else bestT s n on k
def bearTo (s : nst) (n : Nat) : Nat → Int32
  | 0 => -4
  | v + 1 => if goN n (floodS v s) 5 = s 5 then nI v else bearTo s n v
def partN (c : Nat) (set : Nat) : Nat → Nat
  | 0 => 1
  | a + 1 => partN c set a * (if set / 2 ^ a % 2 = 1 then c else 10 - c)
def dryS (s : nst) (set : Nat) : Nat → nst
  | 0 => s
  | a + 1 => if set / 2 ^ a % 2 = 1 then va_up (dryS s set a) (7 + a) (dryS s set a (7 + a) - 5) else dryS s set a
def belowN (c : Nat) : Nat → Nat
  | 0 => 0
  | k + 1 => belowN c k + partN c k 4
def aboveN (s : nst) (c : Nat) : Nat → Nat
  | 0 => 0
  | k + 1 => if goFall (dryS s k 4) = 0 then aboveN s c k + partN c k 4 else aboveN s c k
def showB (s : nst) (a : Nat) (f : Nat → Int64) : Nat → Bool
  | 0 => true
  | k + 1 => showB s a f k && decide (f k = lN (goN (k + 1) s (7 + a)))
def cntL (s : nst) (a : Nat) (f : Nat → Int64) (m : Nat) : Nat → Nat
  | 0 => 0
  | v + 1 => if showB (va_up s 2 v) a f m = true then cntL s a f m v + 1 else cntL s a f m v
def lstL (s : nst) (a : Nat) (f : Nat → Int64) (m : Nat) : Nat → Nat
  | 0 => 0
  | v + 1 => if lstL s a f m v = 0 ∧ showB (va_up s 2 v) a f m = true then v + 1 else lstL s a f m v
def seenTo (s : nst) (ix a : Nat) (f : Nat → Int64) (m lo : Nat) : Nat → Nat
  | 0 => 0
  | v + 1 => if lo ≤ v ∧ showB (va_up s ix v) a f m = true then seenTo s ix a f m lo v ||| 2 ^ v else seenTo s ix a f m lo v
def b2I (c : Prop) [Decidable c] : Int32 := if c then nI 1 else nI 0
def ofN (s : nst) (p w : Nat) : Int32 := if w = 0 then nI (s (11 + 3 * p)) else if w = 1 then nI (s (12 + 3 * p)) else if w = 2 then nI (s (13 + 3 * p)) else if w = 3 then b2I (s 1 % s (13 + 3 * p) = 0) else if w = 4 then b2I (s (12 + 3 * p) &&& s 2 ≠ 0) else nI (givN (s (11 + 3 * p)) (s 1))
def spOf (s : nst) (t w : Int32) : Int32 := if inb t 0 ((s 0 : Nat) - 1 : Int) = true ∧ inb w 0 5 = true then ofN s (gN t) (gN w) else -1
def spWears (s : nst) (t a : Int32) : Int32 := if inb t 0 ((s 0 : Nat) - 1 : Int) = true ∧ inb a 0 3 = true then nI (wearN (s (11 + 3 * gN t)) (gN a) (s 1)) else -1
def spStones (s : nst) (a : Int32) : Int32 := if inb a 0 3 = true then nI (s (7 + gN a)) else -1
def spCount (s : nst) (u : Nat) (w : Int32) : Int32 := if inb w 0 8 = true then (if gN w ≤ 5 then nI (s (gN w)) else if gN w = 6 then nI (s 7 + s 8 + s 9 + s 10) else if gN w = 7 then nI (holesTo s 4) else nI u) else -1
def joinS (s : nst) (k l e : Nat) : nst := va_up (va_up (va_up (va_up s (11 + 3 * s 0) k) (12 + 3 * s 0) l) (13 + 3 * s 0) e) 0 (s 0 + 1)
def okTrav (s : nst) (k l e : Int32) : Prop := (inb k 0 4 = true ∧ inb l 0 63 = true ∧ inb e 1 9 = true) ∧ s 0 ≠ 6
def okT (k l e : Int32) : Bool := inb k 0 4 && inb l 0 63 && inb e 1 9
def spTrav (s : nst) (k l e : Int32) : Int32 := if okT k l e = true then (if s 0 = 6 then -3 else nI (s 0)) else -1
def stTrav (s : nst) (k l e : Int32) : nst := if okT k l e = true ∧ s 0 ≠ 6 then joinS s (gN k) (gN l) (gN e) else s
def ucTrav (s : nst) (u : Nat) (k l e : Int32) : Nat := if okT k l e = true ∧ s 0 ≠ 6 then 0 else u
def spAhead (s : nst) (a n : Int32) : Int32 := if inb a 0 3 = true ∧ inb n 0 60 = true then nI (goN (gN n) s (7 + gN a)) else -1
def spThen (s : nst) (n w : Int32) : Int32 := if inb n 0 60 = true ∧ inb w 0 2 = true then nI (goN (gN n) s (3 + gN w)) else -1
def spFirst (s : nst) (t : Int32) : Int32 := if inb t 0 ((s 0 : Nat) - 1 : Int) = true then first1 s (gN t) 60 0 else -1
def spWise (s : nst) (n w : Int32) : Int32 := if inb n 1 40 = true ∧ inb w 0 2 = true then (if gN w = 0 then l4 (bestW s (gN n) 64).1 else if gN w = 1 then nI (bestW s (gN n) 64).2.1 else nI (bestW s (gN n) 64).2.2) else -1
def spTurn (s : nst) (n : Int32) (on : Nat) : Int32 := if inb n 1 40 = true then l4 (bestT s (gN n) on 6).1 else -1
def spStands (s : nst) (l : Int32) : Int32 := if inb l 0 63 = true then hole1 (va_up s 2 (gN l)) 61 0 else -1
def spBears (s : nst) (n : Int32) : Int32 := if inb n 1 40 = true then bearTo s (gN n) 41 else -1
def spFloods (s : nst) (c w : Int32) : Int32 := if inb c 0 10 = true ∧ inb w 0 1 = true then (if gN w = 0 then nI (aboveN s (gN c) 16 / Nat.gcd (aboveN s (gN c) 16) (belowN (gN c) 16)) else nI (belowN (gN c) 16 / Nat.gcd (aboveN s (gN c) 16) (belowN (gN c) 16))) else -1
theorem inb_l5 (x : Int32) : x = nI 0 ∨ x = nI 1 ∨ x = nI 2 ∨ x = nI 3 ∨ x = nI 4 ∨ x = nI 5 ∨ inb x 0 5 = false := by
  rcases inb_cases x 0 5 (by decide) with ⟨j, _, h2, rfl⟩ | h
  · rcases (show j = 0 ∨ j = 1 ∨ j = 2 ∨ j = 3 ∨ j = 4 ∨ j = 5 by omega) with rfl | rfl | rfl | rfl | rfl | rfl
    · exact Or.inl rfl
    · exact Or.inr (Or.inl rfl)
    · exact Or.inr (Or.inr (Or.inl rfl))
    · exact Or.inr (Or.inr (Or.inr (Or.inl rfl)))
    · exact Or.inr (Or.inr (Or.inr (Or.inr (Or.inl rfl))))
    · exact Or.inr (Or.inr (Or.inr (Or.inr (Or.inr (Or.inl rfl)))))
  · exact Or.inr (Or.inr (Or.inr (Or.inr (Or.inr (Or.inr (h))))))
theorem inb_l8 (x : Int32) : x = nI 0 ∨ x = nI 1 ∨ x = nI 2 ∨ x = nI 3 ∨ x = nI 4 ∨ x = nI 5 ∨ x = nI 6 ∨ x = nI 7 ∨ x = nI 8 ∨ inb x 0 8 = false := by
  rcases inb_cases x 0 8 (by decide) with ⟨j, _, h2, rfl⟩ | h
  · rcases (show j = 0 ∨ j = 1 ∨ j = 2 ∨ j = 3 ∨ j = 4 ∨ j = 5 ∨ j = 6 ∨ j = 7 ∨ j = 8 by omega) with rfl | rfl | rfl | rfl | rfl | rfl | rfl | rfl | rfl
    · exact Or.inl rfl
    · exact Or.inr (Or.inl rfl)
    · exact Or.inr (Or.inr (Or.inl rfl))
    · exact Or.inr (Or.inr (Or.inr (Or.inl rfl)))
    · exact Or.inr (Or.inr (Or.inr (Or.inr (Or.inl rfl))))
    · exact Or.inr (Or.inr (Or.inr (Or.inr (Or.inr (Or.inl rfl)))))
    · exact Or.inr (Or.inr (Or.inr (Or.inr (Or.inr (Or.inr (Or.inl rfl))))))
    · exact Or.inr (Or.inr (Or.inr (Or.inr (Or.inr (Or.inr (Or.inr (Or.inl rfl)))))))
    · exact Or.inr (Or.inr (Or.inr (Or.inr (Or.inr (Or.inr (Or.inr (Or.inr (Or.inl rfl))))))))
  · exact Or.inr (Or.inr (Or.inr (Or.inr (Or.inr (Or.inr (Or.inr (Or.inr (Or.inr (h)))))))))
theorem inb_l2 (x : Int32) : x = nI 0 ∨ x = nI 1 ∨ x = nI 2 ∨ inb x 0 2 = false := by
  rcases inb_cases x 0 2 (by decide) with ⟨j, _, h2, rfl⟩ | h
  · rcases (show j = 0 ∨ j = 1 ∨ j = 2 by omega) with rfl | rfl | rfl
    · exact Or.inl rfl
    · exact Or.inr (Or.inl rfl)
    · exact Or.inr (Or.inr (Or.inl rfl))
  · exact Or.inr (Or.inr (Or.inr (h)))
theorem inb_l1 (x : Int32) : x = nI 0 ∨ x = nI 1 ∨ inb x 0 1 = false := by
  rcases inb_cases x 0 1 (by decide) with ⟨j, _, h2, rfl⟩ | h
  · rcases (show j = 0 ∨ j = 1 by omega) with rfl | rfl
    · exact Or.inl rfl
    · exact Or.inr (Or.inl rfl)
  · exact Or.inr (Or.inr (h))
theorem inb_out {x : Int32} {lo hi : Int} (h : inb x lo hi = false) : x.toInt < lo ∨ hi < x.toInt := by
  simp only [inb, Bool.and_eq_false_iff, decide_eq_false_iff_not] at h
  omega
