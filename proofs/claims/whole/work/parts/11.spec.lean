/-! THE GAME IN NUMBERS. s: 0 TRAVELLERS, 1 DAY, 2 LIST, 3 OVER, 4 REFUSED, 5 FELL, 6 DRAW, 7..10 STONES, 11 + 3 p .. KIND, LOOKS, EVERY -/
abbrev nst : Type := Nat → Nat
def wearN (kd arch day : Nat) : Nat := if kd = 1 then 2 else if kd = 3 then (if arch % 2 = 0 then 2 else 0) else if kd = 4 then (if day % 4 = arch then 2 else 1) else 1
def givN (kd day : Nat) : Nat := if kd = 1 then 2 else if kd = 2 then (if day % 2 = 0 then 1 else 0) else if kd = 3 then 6 else if kd = 4 then 0 else 1
def weakTo (s : nst) : Nat → Nat
  | 0 => 0
  | a + 1 => if a = 0 then 0 else if s (7 + a) < s (7 + weakTo s a) then a else weakTo s a
def put1 (s : nst) : nst := va_up s (7 + weakTo s 4) (min 40 (s (7 + weakTo s 4) + 1))
def putN : Nat → nst → nst
  | 0, s => s
  | n + 1, s => put1 (putN n s)
def crossG (kd day : Nat) : Nat → Nat → nst → nst × Bool
  | 0, _, s => (s, false)
  | f + 1, a, s => if s (7 + a) ≤ wearN kd a day then (va_up s (7 + a) 0, true) else crossG kd day f (a + 1) (va_up s (7 + a) (s (7 + a) - wearN kd a day))
def stepP (p : Nat) (x : nst × Nat) : nst × Nat :=
  if x.1 1 % x.1 (13 + 3 * p) = 0 then
    if x.1 (12 + 3 * p) &&& x.1 2 ≠ 0 then (putN (givN (x.1 (11 + 3 * p)) (x.1 1)) (va_up x.1 4 (x.1 4 + 1)), x.2)
    else if (crossG (x.1 (11 + 3 * p)) (x.1 1) 4 0 x.1).2 = true then (va_up (crossG (x.1 (11 + 3 * p)) (x.1 1) 4 0 x.1).1 5 ((crossG (x.1 (11 + 3 * p)) (x.1 1) 4 0 x.1).1 5 + 1), x.2 ||| 2 ^ p)
    else (va_up (crossG (x.1 (11 + 3 * p)) (x.1 1) 4 0 x.1).1 3 ((crossG (x.1 (11 + 3 * p)) (x.1 1) 4 0 x.1).1 3 + 1), x.2)
  else x
def passTo : Nat → nst → nst × Nat
  | 0, s => (s, 0)
  | p + 1, s => stepP p (passTo p s)
def goBy (s : nst) : nst := va_up (passTo (s 0) s).1 1 (s 1 + 1)
def goFall (s : nst) : Nat := (passTo (s 0) s).2
def goN : Nat → nst → nst
  | 0, s => s
  | n + 1, s => goBy (goN n s)
theorem wearN_le (kd arch day : Nat) : wearN kd arch day ≤ 2 := by
  unfold wearN
  repeat' split
  all_goals omega
theorem givN_le (kd day : Nat) : givN kd day ≤ 6 := by
  unfold givN
  repeat' split
  all_goals omega
theorem weakTo_lt (s : nst) : ∀ a, weakTo s a < a + 1
  | 0 => by simp [weakTo]
  | a + 1 => by
    have h := weakTo_lt s a
    unfold weakTo
    repeat' split
    all_goals omega
theorem weakTo_4 (s : nst) : weakTo s 4 < 4 := by
  have h := weakTo_lt s 3
  unfold weakTo
  repeat' split
  all_goals omega
/-- what a number of the state may be, but for the STONES -/
theorem put1_lo (s : nst) {i : Nat} (h : i < 7 ∨ 11 ≤ i) : put1 s i = s i := by
  have := weakTo_4 s
  exact up_ne (by omega)
theorem putN_lo (s : nst) {i : Nat} (h : i < 7 ∨ 11 ≤ i) : ∀ n, putN n s i = s i
  | 0 => rfl
  | n + 1 => by rw [putN, put1_lo _ h, putN_lo s h n]
theorem put1_hi (s : nst) (h : ∀ a, a < 4 → s (7 + a) ≤ 40) : ∀ a, a < 4 → put1 s (7 + a) ≤ 40 := by
  intro a ha
  unfold put1 va_up
  split
  · omega
  · exact h a ha
theorem putN_hi (s : nst) (h : ∀ a, a < 4 → s (7 + a) ≤ 40) : ∀ n, ∀ a, a < 4 → putN n s (7 + a) ≤ 40
  | 0 => h
  | n + 1 => put1_hi _ (putN_hi s h n)
theorem crossG_lo (kd day : Nat) {i : Nat} (h : i < 7 ∨ 11 ≤ i) : ∀ (f a : Nat) (s : nst), a + f ≤ 4 → (crossG kd day f a s).1 i = s i
  | 0, _, _, _ => rfl
  | f + 1, a, s, hf => by
    unfold crossG
    split
    · exact up_ne (by omega)
    · rw [crossG_lo kd day h f (a + 1) _ (by omega)]
      exact up_ne (by omega)
theorem crossG_hi (kd day : Nat) : ∀ (f a : Nat) (s : nst), (∀ a, a < 4 → s (7 + a) ≤ 40) → ∀ b, b < 4 → (crossG kd day f a s).1 (7 + b) ≤ 40
  | 0, _, _, h => h
  | f + 1, a, s, h => by
    unfold crossG
    split
    · intro b hb
      simp only [va_up]
      split
      · omega
      · exact h b hb
    · refine crossG_hi kd day f (a + 1) _ ?_
      intro b hb
      simp only [va_up]
      split
      · rename_i e
        have hab : b = a := by omega
        have := h b hb
        subst hab
        omega
      · exact h b hb
def WF (D K : Nat) (s : nst) : Prop := s 0 ≤ 6 ∧ s 1 ≤ D ∧ s 2 < 64 ∧ s 3 + s 4 + s 5 ≤ 6 * s 1 + K ∧ s 6 < 2147483648 ∧ (∀ a, a < 4 → s (7 + a) ≤ 40) ∧ ∀ p, p < s 0 → s (11 + 3 * p) ≤ 4 ∧ s (12 + 3 * p) < 64 ∧ 1 ≤ s (13 + 3 * p) ∧ s (13 + 3 * p) ≤ 9
theorem stepP_keep (p : Nat) (x : nst × Nat) {i : Nat} (h : i = 0 ∨ i = 1 ∨ i = 2 ∨ i = 6 ∨ 11 ≤ i) : (stepP p x).1 i = x.1 i := by
  unfold stepP
  split
  · split
    · show putN _ _ i = _
      rw [putN_lo _ (by omega)]
      exact up_ne (by omega)
    · split
      · show va_up _ _ _ i = _
        rw [up_ne (by omega), crossG_lo _ _ (by omega) _ _ _ (by omega)]
      · show va_up _ _ _ i = _
        rw [up_ne (by omega), crossG_lo _ _ (by omega) _ _ _ (by omega)]
  · rfl
theorem passTo_keep (s : nst) {i : Nat} (h : i = 0 ∨ i = 1 ∨ i = 2 ∨ i = 6 ∨ 11 ≤ i) : ∀ p, (passTo p s).1 i = s i
  | 0 => rfl
  | p + 1 => by rw [passTo, stepP_keep p _ h, passTo_keep s h p]
theorem stepP_hi (p : Nat) (x : nst × Nat) (h : ∀ a, a < 4 → x.1 (7 + a) ≤ 40) : ∀ a, a < 4 → (stepP p x).1 (7 + a) ≤ 40 := by
  intro a ha
  unfold stepP
  split
  · split
    · exact putN_hi _ (fun b hb => by rw [up_ne (by omega)]; exact h b hb) _ a ha
    · split
      · show va_up _ _ _ _ ≤ _
        rw [up_ne (by omega)]
        exact crossG_hi _ _ _ _ _ h a ha
      · show va_up _ _ _ _ ≤ _
        rw [up_ne (by omega)]
        exact crossG_hi _ _ _ _ _ h a ha
  · exact h a ha
theorem stepP_cnt (p : Nat) (x : nst × Nat) : (stepP p x).1 3 + (stepP p x).1 4 + (stepP p x).1 5 ≤ x.1 3 + x.1 4 + x.1 5 + 1 := by
  unfold stepP
  split
  · split
    · show putN _ _ 3 + putN _ _ 4 + putN _ _ 5 ≤ _
      rw [putN_lo _ (by omega), putN_lo _ (by omega), putN_lo _ (by omega), up_ne (by omega), up_eq, up_ne (by omega)]
      omega
    · split
      · dsimp only
        rw [up_ne (by omega), up_ne (by omega), up_eq, crossG_lo _ _ (by omega) _ _ _ (by omega), crossG_lo _ _ (by omega) _ _ _ (by omega), crossG_lo _ _ (by omega) _ _ _ (by omega)]
        omega
      · dsimp only
        rw [up_eq, up_ne (by omega), up_ne (by omega), crossG_lo _ _ (by omega) _ _ _ (by omega), crossG_lo _ _ (by omega) _ _ _ (by omega), crossG_lo _ _ (by omega) _ _ _ (by omega)]
        omega
  · omega
theorem passTo_WF {D : Nat} {s : nst} (h : WF D 0 s) : ∀ p, WF D p (passTo p s).1
  | 0 => h
  | p + 1 => by
    have ih := passTo_WF h p
    have hk := fun (i : Nat) (hi : i = 0 ∨ i = 1 ∨ i = 2 ∨ i = 6 ∨ 11 ≤ i) => stepP_keep p (passTo p s) hi
    obtain ⟨h0, h1, h2, h3, h6, h7, h11⟩ := ih
    have hc := stepP_cnt p (passTo p s)
    unfold passTo WF
    rw [hk 0 (by omega), hk 1 (by omega), hk 2 (by omega), hk 6 (by omega)]
    refine ⟨h0, h1, h2, by omega, h6, stepP_hi p _ h7, fun q hq => ?_⟩
    rw [hk (11 + 3 * q) (by omega), hk (12 + 3 * q) (by omega), hk (13 + 3 * q) (by omega)]
    exact h11 q hq
theorem goBy_WF {D : Nat} {s : nst} (h : WF D 0 s) : WF (D + 1) 0 (goBy s) := by
  obtain ⟨h0, h1, h2, h3, h6, h7, h11⟩ := passTo_WF h (s 0)
  have hk := fun (i : Nat) (hi : i = 0 ∨ i = 1 ∨ i = 2 ∨ i = 6 ∨ 11 ≤ i) => passTo_keep s hi (s 0)
  rw [hk 1 (by omega)] at h1 h3
  have hs := h.1
  unfold goBy WF
  rw [up_ne (by omega), up_eq, up_ne (by omega), up_ne (by omega), up_ne (by omega), up_ne (by omega), up_ne (by omega)]
  refine ⟨h0, by omega, h2, by omega, h6, fun a ha => ?_, fun p hp => ?_⟩
  · rw [up_ne (by omega)]
    exact h7 a ha
  · rw [up_ne (by omega), up_ne (by omega), up_ne (by omega)]
    exact h11 p hp
theorem goBy_keep (s : nst) {i : Nat} (h : i = 0 ∨ i = 2 ∨ i = 6 ∨ 11 ≤ i) : goBy s i = s i := by
  unfold goBy
  rw [up_ne (by omega), passTo_keep s (by omega)]
theorem goN_keep (s : nst) {i : Nat} (h : i = 0 ∨ i = 2 ∨ i = 6 ∨ 11 ≤ i) : ∀ n, goN n s i = s i
  | 0 => rfl
  | n + 1 => by rw [goN, goBy_keep _ h, goN_keep s h n]
theorem goN_WF {D : Nat} {s : nst} (h : WF D 0 s) : ∀ n, WF (D + n) 0 (goN n s)
  | 0 => h
  | n + 1 => goBy_WF (goN_WF h n)
theorem mmin_nI {a b : Nat} (ha : a < 2 ^ 31) (hb : b < 2 ^ 31) : (if nI b < nI a then nI b else nI a) = nI (min a b) := by
  by_cases c : b < a
  · rw [if_pos ((nI_ltI hb ha).mpr c), Nat.min_eq_right (by omega)]
  · rw [if_neg (fun d => c ((nI_ltI hb ha).mp d)), Nat.min_eq_left (by omega)]
theorem mmax_nI {a b : Nat} (ha : a < 2 ^ 31) (hb : b < 2 ^ 31) : (if nI a < nI b then nI b else nI a) = nI (max a b) := by
  by_cases c : a < b
  · rw [if_pos ((nI_ltI ha hb).mpr c), Nat.max_eq_right (by omega)]
  · rw [if_neg (fun d => c ((nI_ltI ha hb).mp d)), Nat.max_eq_left (by omega)]
theorem shl_nI : ∀ t, t < 31 → nI 1 <<< (nI t &&& 31) = nI (2 ^ t) := by decide +kernel
theorem and_nI (a b : Nat) : nI a &&& nI b = nI (a &&& b) := by
  unfold nI
  apply Int32.toBitVec_inj.mp
  simp [Int32.toBitVec_and]
theorem or_nI (a b : Nat) : nI a ||| nI b = nI (a ||| b) := by
  unfold nI
  apply Int32.toBitVec_inj.mp
  simp [Int32.toBitVec_or]
theorem xor_nI (a b : Nat) : nI a ^^^ nI b = nI (a ^^^ b) := by
  unfold nI
  apply Int32.toBitVec_inj.mp
  simp [Int32.toBitVec_xor]
theorem shr_nI {a : Nat} (ha : a < 2 ^ 31) {t : Nat} (ht : t < 32) : nI a >>> (nI t &&& 31) = nI (a / 2 ^ t) := by
  have e : ∀ t, t < 32 → ((nI t &&& 31).toBitVec.smod 32).toNat = t := by decide +kernel
  exact pk_shrN ha _ t (e t ht)
