/-! READING A BRIDGE -/
def skp (τ : nst) (m : Nat) (p : Nat) : Nat := if p < m ∧ τ p = 32 then skp τ m (p + 1) else p
termination_by m - p
def chr (τ : nst) (m : Nat) (p : Nat) : Nat := if p < m then τ p else 0
theorem skp_go {τ : nst} {m p : Nat} (h : p < m) (h2 : τ p = 32) : skp τ m p = skp τ m (p + 1) := by
  rw [skp, if_pos ⟨h, h2⟩]
theorem skp_end {τ : nst} {m p : Nat} (h : ¬ p < m) : skp τ m p = p := by
  rw [skp, if_neg (fun z => h z.1)]
theorem skp_ne {τ : nst} {m p : Nat} (h : ¬ τ p = 32) : skp τ m p = p := by
  rw [skp, if_neg (fun z => h z.2)]
theorem skp_at (τ : nst) (m : Nat) : ∀ f p, m ≤ f + p → ¬ (skp τ m p < m ∧ τ (skp τ m p) = 32)
  | 0, p, h => by
    rw [skp_end (by omega)]
    omega
  | f + 1, p, h => by
    by_cases c : p < m ∧ τ p = 32
    · rw [skp_go c.1 c.2]
      exact skp_at τ m f (p + 1) (by omega)
    · rw [skp, if_neg c]
      exact c
theorem skp_id (τ : nst) (m p : Nat) : skp τ m (skp τ m p) = skp τ m p := by
  have h := skp_at τ m m p (by omega)
  rw [skp, if_neg h]
theorem skp_hiF (τ : nst) (m : Nat) : ∀ f p, m ≤ f + p → skp τ m p ≤ max p m ∧ p ≤ skp τ m p
  | 0, p, h => by
    rw [skp_end (by omega)]
    omega
  | f + 1, p, h => by
    by_cases c : p < m ∧ τ p = 32
    · rw [skp_go c.1 c.2]
      have := skp_hiF τ m f (p + 1) (by omega)
      omega
    · rw [skp, if_neg c]
      omega
theorem skp_hi {τ : nst} {m p k : Nat} (h1 : m ≤ k) (h2 : p ≤ k) : skp τ m p ≤ k := by
  have := (skp_hiF τ m m p (by omega)).1
  omega
theorem skp_lo (τ : nst) (m p : Nat) : p ≤ skp τ m p := (skp_hiF τ m m p (by omega)).2
theorem chr_in {τ : nst} {m p : Nat} (h : p < m) : chr τ m p = τ p := by
  unfold chr
  rw [if_pos h]
theorem chr_out {τ : nst} {m p : Nat} (h : ¬ p < m) : chr τ m p = 0 := by
  unfold chr
  rw [if_neg h]
theorem chr_hi {τ : nst} {m : Nat} (ht : ∀ j, j < m → 32 ≤ τ j ∧ τ j ≤ 126) (p : Nat) : chr τ m p ≤ 126 := by
  unfold chr
  split
  · rename_i c
    exact (ht p c).2
  · omega
theorem chr_lt {τ : nst} {m p : Nat} (h : ¬ chr τ m p = 0) : p < m := by
  unfold chr at h
  split at h
  · assumption
  · exact absurd rfl h
/-- a digit -/
def dg (τ : nst) (m p : Nat) : Bool := decide (p < m ∧ 48 ≤ τ p ∧ τ p ≤ 57)
theorem dg_t {τ : nst} {m p : Nat} : dg τ m p = true ↔ p < m ∧ 48 ≤ τ p ∧ τ p ≤ 57 := by
  unfold dg
  exact decide_eq_true_iff
/-- a number of 0 to 40 at P: 0 none, v + 1 -/
def numV (τ : nst) (m P : Nat) : Nat := if dg τ m P = true then (if dg τ m (P + 1) = true then (if 10 * (τ P - 48) + (τ (P + 1) - 48) ≤ 40 then 10 * (τ P - 48) + (τ (P + 1) - 48) + 1 else 0) else τ P - 48 + 1) else 0
def numE (τ : nst) (m P : Nat) : Nat := if dg τ m P = true then (if dg τ m (P + 1) = true then P + 2 else P + 1) else P
theorem numV_hi (τ : nst) (m P : Nat) : numV τ m P ≤ 41 := by
  unfold numV
  split
  · rename_i c
    rw [dg_t] at c
    split
    · split <;> omega
    · omega
  · omega
theorem numE_hi {τ : nst} {m P : Nat} (h : P ≤ m) : numE τ m P ≤ m := by
  unfold numE
  split
  · rename_i c
    rw [dg_t] at c
    split
    · rename_i c2
      rw [dg_t] at c2
      omega
    · omega
  · omega
/-- rising letters, f of them still to try -/
def ris (τ : nst) (m : Nat) : Nat → Nat → Nat → Nat × Nat
  | 0, P, L => (P, L)
  | f + 1, P, L => if chr τ m P = 102 - f then ris τ m f (skp τ m (P + 1)) (L ||| 2 ^ (5 - f)) else ris τ m f P L
theorem ris_ok (τ : nst) (m : Nat) : ∀ f P L, f ≤ 6 → P ≤ m → skp τ m P = P → L < 64 → (ris τ m f P L).1 ≤ m ∧ skp τ m (ris τ m f P L).1 = (ris τ m f P L).1 ∧ (ris τ m f P L).2 < 64
  | 0, P, L, _, h1, h2, h3 => ⟨h1, h2, h3⟩
  | f + 1, P, L, h0, h1, h2, h3 => by
    rw [ris]
    split
    · rename_i c
      have e : P < m := chr_lt (τ := τ) (by omega)
      refine ris_ok τ m f _ _ (by omega) (skp_hi (Nat.le_refl _) (by omega)) (skp_id _ _ _) ?_
      exact Nat.or_lt_two_pow (n := 6) h3 (Nat.pow_lt_pow_right (by omega) (by omega))
    · exact ris_ok τ m f P L (by omega) h1 h2 h3
/-- the heaps: 1 well, where, the stones -/
def hpS (τ : nst) (m : Nat) : Nat → Nat × Nat × nst
  | 0 => (1, skp τ m 0, fun _ => 0)
  | i + 1 => if (hpS τ m i).1 = 0 then hpS τ m i else
    if i ≠ 0 ∧ chr τ m (hpS τ m i).2.1 ≠ 44 then (0, (hpS τ m i).2.1, (hpS τ m i).2.2) else
    if numV τ m (if i = 0 then (hpS τ m i).2.1 else skp τ m ((hpS τ m i).2.1 + 1)) = 0 then (0, (if i = 0 then (hpS τ m i).2.1 else skp τ m ((hpS τ m i).2.1 + 1)), (hpS τ m i).2.2)
    else (1, skp τ m (numE τ m (if i = 0 then (hpS τ m i).2.1 else skp τ m ((hpS τ m i).2.1 + 1))), va_up (hpS τ m i).2.2 i (numV τ m (if i = 0 then (hpS τ m i).2.1 else skp τ m ((hpS τ m i).2.1 + 1)) - 1))
theorem hpS_stay {τ : nst} {m i : Nat} (h : (hpS τ m i).1 = 0) : ∀ j, hpS τ m (i + j) = hpS τ m i
  | 0 => rfl
  | j + 1 => by
    have e := hpS_stay h j
    rw [show i + (j + 1) = (i + j) + 1 by omega, hpS, if_pos (by rw [e]; exact h), e]
theorem hpS_no {τ : nst} {m i P : Nat} {st : nst} (h : hpS τ m i = (1, P, st)) (hi : ¬ i = 0) (hc : ¬ chr τ m P = 44) : hpS τ m (i + 1) = (0, P, st) := by
  rw [hpS, h, if_neg (show ¬ (1 : Nat) = 0 by decide), if_pos ⟨hi, hc⟩]
theorem hpS_bad {τ : nst} {m i P Q : Nat} {st : nst} (h : hpS τ m i = (1, P, st)) (hc : i = 0 ∨ chr τ m P = 44) (hQ : Q = if i = 0 then P else skp τ m (P + 1)) (hn : numV τ m Q = 0) : hpS τ m (i + 1) = (0, Q, st) := by
  subst hQ
  rw [hpS, h, if_neg (show ¬ (1 : Nat) = 0 by decide), if_neg (by rintro ⟨z1, z2⟩; rcases hc with c | c; exact z1 c; exact z2 c), if_pos hn]
theorem hpS_go {τ : nst} {m i P Q : Nat} {st : nst} (h : hpS τ m i = (1, P, st)) (hc : i = 0 ∨ chr τ m P = 44) (hQ : Q = if i = 0 then P else skp τ m (P + 1)) (hn : ¬ numV τ m Q = 0) : hpS τ m (i + 1) = (1, skp τ m (numE τ m Q), va_up st i (numV τ m Q - 1)) := by
  subst hQ
  rw [hpS, h, if_neg (show ¬ (1 : Nat) = 0 by decide), if_neg (by rintro ⟨z1, z2⟩; rcases hc with c | c; exact z1 c; exact z2 c), if_neg hn]
theorem hpS_ok (τ : nst) (m : Nat) : ∀ i, (hpS τ m i).1 ≤ 1 ∧ (hpS τ m i).2.1 ≤ m ∧ skp τ m (hpS τ m i).2.1 = (hpS τ m i).2.1 ∧ ∀ j, (hpS τ m i).2.2 j ≤ 40
  | 0 => ⟨Nat.le_refl _, skp_hi (Nat.le_refl _) (Nat.zero_le _), skp_id _ _ _, fun _ => Nat.zero_le _⟩
  | i + 1 => by
    obtain ⟨h1, h2, h3, h4⟩ := hpS_ok τ m i
    have hq : ¬ (i ≠ 0 ∧ chr τ m (hpS τ m i).2.1 ≠ 44) → (if i = 0 then (hpS τ m i).2.1 else skp τ m ((hpS τ m i).2.1 + 1)) ≤ m ∧ skp τ m (if i = 0 then (hpS τ m i).2.1 else skp τ m ((hpS τ m i).2.1 + 1)) = (if i = 0 then (hpS τ m i).2.1 else skp τ m ((hpS τ m i).2.1 + 1)) := by
      intro c
      split
      · exact ⟨h2, h3⟩
      · rename_i c2
        have c3 : chr τ m (hpS τ m i).2.1 = 44 := by
          by_cases e : chr τ m (hpS τ m i).2.1 = 44
          · exact e
          · exact absurd ⟨c2, e⟩ c
        have := chr_lt (τ := τ) (m := m) (p := (hpS τ m i).2.1) (by omega)
        exact ⟨skp_hi (Nat.le_refl _) (by omega), skp_id _ _ _⟩
    rw [hpS]
    generalize (if i = 0 then (hpS τ m i).2.1 else skp τ m ((hpS τ m i).2.1 + 1)) = Q at hq ⊢
    split
    · exact ⟨h1, h2, h3, h4⟩
    · split
      · exact ⟨Nat.zero_le _, h2, h3, h4⟩
      · rename_i c
        obtain ⟨q1, q2⟩ := hq c
        split
        · exact ⟨Nat.zero_le _, q1, q2, h4⟩
        · refine ⟨Nat.le_refl _, skp_hi (Nat.le_refl _) (numE_hi q1), skp_id _ _ _, fun j => ?_⟩
          have := numV_hi τ m Q
          dsimp only
          unfold va_up
          split
          · omega
          · exact h4 j
/-- a kind's letter: 0 none, kind + 1 -/
def kdN (c : Nat) : Nat := if c = 119 then 1 else if c = 99 then 2 else if c = 98 then 3 else if c = 100 then 4 else if c = 116 then 5 else 0
/-- one traveller: 2 well; 0, 1 where it fails -/
def tvOk (τ : nst) (m P : Nat) : Nat := if kdN (chr τ m P) = 0 then 0 else if 49 ≤ chr τ m (skp τ m (P + 1)) ∧ chr τ m (skp τ m (P + 1)) ≤ 57 then 2 else 1
def tvF (τ : nst) (m P : Nat) : Nat := if kdN (chr τ m P) = 0 then P else skp τ m (P + 1)
def tvR (τ : nst) (m P : Nat) : Nat × Nat := ris τ m 6 (skp τ m (skp τ m (P + 1) + 1)) 0
/-- the crowd: 1 goes on, 2 done, 0 fault; where; how many; who -/
def crS (τ : nst) (m P0 : Nat) : Nat → Nat × Nat × Nat × nst
  | 0 => (1, P0, 0, fun _ => 0)
  | i + 1 => if (crS τ m P0 i).1 ≠ 1 then crS τ m P0 i else
    if i ≠ 0 ∧ chr τ m (crS τ m P0 i).2.1 ≠ 44 then (2, (crS τ m P0 i).2) else
    if tvOk τ m (if i = 0 then (crS τ m P0 i).2.1 else skp τ m ((crS τ m P0 i).2.1 + 1)) ≠ 2 then (0, tvF τ m (if i = 0 then (crS τ m P0 i).2.1 else skp τ m ((crS τ m P0 i).2.1 + 1)), (crS τ m P0 i).2.2)
    else (1, (tvR τ m (if i = 0 then (crS τ m P0 i).2.1 else skp τ m ((crS τ m P0 i).2.1 + 1))).1, i + 1, va_up (va_up (va_up (crS τ m P0 i).2.2.2 (3 * i) (kdN (chr τ m (if i = 0 then (crS τ m P0 i).2.1 else skp τ m ((crS τ m P0 i).2.1 + 1))) - 1)) (3 * i + 1) (tvR τ m (if i = 0 then (crS τ m P0 i).2.1 else skp τ m ((crS τ m P0 i).2.1 + 1))).2) (3 * i + 2) (chr τ m (skp τ m ((if i = 0 then (crS τ m P0 i).2.1 else skp τ m ((crS τ m P0 i).2.1 + 1)) + 1)) - 48))
theorem crS_stay {τ : nst} {m P0 i : Nat} (h : ¬ (crS τ m P0 i).1 = 1) : ∀ j, crS τ m P0 (i + j) = crS τ m P0 i
  | 0 => rfl
  | j + 1 => by
    have e := crS_stay h j
    rw [show i + (j + 1) = (i + j) + 1 by omega, crS, if_pos (by rw [e]; exact h), e]
theorem crS_no {τ : nst} {m P0 i P n : Nat} {A : nst} (h : crS τ m P0 i = (1, P, n, A)) (hi : ¬ i = 0) (hc : ¬ chr τ m P = 44) : crS τ m P0 (i + 1) = (2, P, n, A) := by
  rw [crS, h, if_neg (fun z => z rfl), if_pos ⟨hi, hc⟩]
theorem crS_bad {τ : nst} {m P0 i P n Q : Nat} {A : nst} (h : crS τ m P0 i = (1, P, n, A)) (hc : i = 0 ∨ chr τ m P = 44) (hQ : Q = if i = 0 then P else skp τ m (P + 1)) (hn : ¬ tvOk τ m Q = 2) : crS τ m P0 (i + 1) = (0, tvF τ m Q, n, A) := by
  subst hQ
  rw [crS, h, if_neg (fun z => z rfl), if_neg (by rintro ⟨z1, z2⟩; rcases hc with c | c; exact z1 c; exact z2 c), if_pos hn]
theorem crS_go {τ : nst} {m P0 i P n Q : Nat} {A : nst} (h : crS τ m P0 i = (1, P, n, A)) (hc : i = 0 ∨ chr τ m P = 44) (hQ : Q = if i = 0 then P else skp τ m (P + 1)) (hn : tvOk τ m Q = 2) : crS τ m P0 (i + 1) = (1, (tvR τ m Q).1, i + 1, va_up (va_up (va_up A (3 * i) (kdN (chr τ m Q) - 1)) (3 * i + 1) (tvR τ m Q).2) (3 * i + 2) (chr τ m (skp τ m (Q + 1)) - 48)) := by
  subst hQ
  rw [crS, h, if_neg (fun z => z rfl), if_neg (by rintro ⟨z1, z2⟩; rcases hc with c | c; exact z1 c; exact z2 c), if_neg (fun z => z hn)]
/-- the end -/
def finB (τ : nst) (m P L n : Nat) (A st : nst) : Nat × Nat × Nat × Nat × nst × nst := if chr τ m P = 0 then (1, P, L, n, A, st) else (0, P, L, n, A, st)
def crB (τ : nst) (m P L : Nat) (st : nst) : Nat × Nat × Nat × Nat × nst × nst :=
  if chr τ m P = 59 then (if (crS τ m (skp τ m (P + 1)) 6).1 = 0 then (0, (crS τ m (skp τ m (P + 1)) 6).2.1, L, 0, (fun _ => 0), st) else finB τ m (crS τ m (skp τ m (P + 1)) 6).2.1 L (crS τ m (skp τ m (P + 1)) 6).2.2.1 (crS τ m (skp τ m (P + 1)) 6).2.2.2 st)
  else finB τ m P L 0 (fun _ => 0) st
/-- a bridge read: 1 well; where; LIST; TRAVELLERS; who; STONES -/
def brB (τ : nst) (m : Nat) : Nat × Nat × Nat × Nat × nst × nst :=
  if (hpS τ m 4).1 = 0 then (0, (hpS τ m 4).2.1, 0, 0, (fun _ => 0), (hpS τ m 4).2.2) else
  if chr τ m (hpS τ m 4).2.1 = 33 then (if (ris τ m 6 (skp τ m ((hpS τ m 4).2.1 + 1)) 0).2 = 0 then (0, (ris τ m 6 (skp τ m ((hpS τ m 4).2.1 + 1)) 0).1, 0, 0, (fun _ => 0), (hpS τ m 4).2.2) else crB τ m (ris τ m 6 (skp τ m ((hpS τ m 4).2.1 + 1)) 0).1 (ris τ m 6 (skp τ m ((hpS τ m 4).2.1 + 1)) 0).2 (hpS τ m 4).2.2)
  else crB τ m (hpS τ m 4).2.1 0 (hpS τ m 4).2.2
