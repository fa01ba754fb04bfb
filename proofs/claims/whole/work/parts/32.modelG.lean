theorem cnt0 (s : nst) (a : Nat) (f : Nat → Int64) (m : Nat) : ∀ v, cntL s a f m v = 0 ↔ lstL s a f m v = 0
  | 0 => by simp [cntL, lstL]
  | v + 1 => by
    have h := cnt0 s a f m v
    rw [cntL, lstL]
    split
    · rename_i c
      by_cases e : lstL s a f m v = 0
      · rw [if_pos ⟨e, c⟩]
        omega
      · rw [if_neg (fun z => e z.1)]
        omega
    · rename_i c
      rw [if_neg (fun z => c z.2)]
      exact h
theorem cntL_le7 (s : nst) (a : Nat) (f : Nat → Int64) (m : Nat) : ∀ v, cntL s a f m v ≤ v
  | 0 => Nat.le_refl _
  | v + 1 => by
    have h := cntL_le7 s a f m v
    rw [cntL]
    split <;> omega
theorem cpy_0 (f g : Nat → Int64) (a b : Nat) : va_cpy f g a b 0 = g := by
  funext j
  unfold va_cpy
  rw [if_neg (by omega)]
theorem cpy_up {f g : Nat → Int64} {a b k : Nat} {w : Int64} (h : w = f (a + k)) : vp_updL (va_cpy f g a b k) (b + k) w = va_cpy f g a b (k + 1) := by
  subst h
  funext j
  unfold vp_updL va_cpy
  by_cases e : j = b + k
  · subst e
    rw [if_pos rfl, if_pos (by omega), show b + k - b = k by omega]
  · rw [if_neg e]
    by_cases c : b ≤ j ∧ j < b + k
    · rw [if_pos c, if_pos (by omega)]
    · rw [if_neg c, if_neg (by omega)]
theorem spCopy_1 {q1 z1 q2 z2 : Nat} {f i t j n : Int32} (ok : okPl f t = true) (h1 : ¬ q1 = 0) (h2 : ¬ q2 = 0) (l1 : q1 ≤ 4) (l2 : q2 ≤ 4) (h : ¬ faultI q2 z2 (ln q1) j n = 0) : spCopy q1 z1 q2 z2 f i t j n = faultI q2 z2 (ln q1) j n := by
  unfold spCopy
  unfold faultI at h ⊢
  rw [if_pos ok, if_neg (by omega)]
  rw [if_neg h2] at h ⊢
  by_cases e : q1 = q2
  · subst e
    rw [if_neg (fun (z : ln q1 ≠ ln q1) => z rfl)] at h ⊢
    rw [if_neg (fun (z : ¬ q1 = q1) => z rfl)]
    by_cases c : fitsI j n z2 = true
    · rw [if_pos c] at h
      exact absurd rfl h
    · rw [if_neg c, if_neg (fun (z : fitsI i n z1 = true ∧ fitsI j n z2 = true) => c z.2)]
  · rw [if_pos e, if_pos (fun z => e ((ln_inj l1 l2).1 z))]
theorem spCopy_2 {q1 z1 q2 z2 : Nat} {f i t j n : Int32} (ok : okPl f t = true) (h1 : ¬ q1 = 0) (h2 : ¬ q2 = 0) (l1 : q1 ≤ 4) (l2 : q2 ≤ 4) (h : faultI q2 z2 (ln q1) j n = 0) (h3 : ¬ faultI q1 z1 (ln q1) i n = 0) : spCopy q1 z1 q2 z2 f i t j n = faultI q1 z1 (ln q1) i n := by
  obtain ⟨_, b, c⟩ := faultI_0 h
  have e := (ln_inj l1 l2).1 b
  unfold spCopy
  unfold faultI at h3 ⊢
  rw [if_pos ok, if_neg (by omega), if_neg (fun z => z e)]
  rw [if_neg h1, if_neg (fun (z : ln q1 ≠ ln q1) => z rfl)] at h3 ⊢
  by_cases d : fitsI i n z1 = true
  · rw [if_pos d] at h3
    exact absurd rfl h3
  · rw [if_neg d, if_neg (fun (z : fitsI i n z1 = true ∧ fitsI j n z2 = true) => d z.1)]
theorem spCopy_3 {q1 z1 q2 z2 : Nat} {f i t j n : Int32} (ok : okPl f t = true) (l1 : q1 ≤ 4) (l2 : q2 ≤ 4) (h : faultI q2 z2 (ln q1) j n = 0) (h3 : faultI q1 z1 (ln q1) i n = 0) : spCopy q1 z1 q2 z2 f i t j n = n := by
  obtain ⟨h2, b, c⟩ := faultI_0 h
  obtain ⟨h1, _, d⟩ := faultI_0 h3
  have e := (ln_inj l1 l2).1 b
  unfold spCopy
  rw [if_pos ok, if_neg (by omega), if_neg (fun z => z e), if_pos ⟨d, c⟩]
set_option maxRecDepth 100000 in
set_option maxHeartbeats 4000000 in
theorem c_X7_lists (l : Launch) (G : zG) (x : Nat) (ad : Nat → Nat) (v : Nat → Nat) (s : nst) (t : nst) (lq : nst) (lz : nst) (It : Nat → Int64) (ar : Int32) (sh0 : Int32) (la0 : Int32) (i0 : Int32) (nn : Int32) (wh : Int32) (h0 : WF 9999 0 s) (h1 : ∀ j, j < 4 → lq j ≤ 4) (h2 : ∀ j, j < 4 → lz j ≤ 24) : zMi l G yX7_lists cX7_lists 12 .int 5 0 0 113 [.ref x, .int ar, .int sh0, .int la0, .int i0, .int nn, .int wh] [ob x 7 (rf ad v), ia G (ad 0) 29 (fN s), ia G (ad 11) 29 (fN t), ia G (ad 19) 4 (fun j => ln (lq j)), ia G (ad 20) 4 (fN lz), la G (ad 21) 96 It] (fun (r : Int32) (_u : nst × nst) => r = spLists s (lq (gN sh0)) (lz (gN sh0)) (fun j => It (24 * gN sh0 + j)) ar sh0 la0 i0 nn wh ∧ _u.1 3 = v 3 ∧ _u.1 10 = v 10 ∧ _u.1 17 = v 17 ∧ _u.1 18 = v 18) (fun (_u : nst × nst) => [ob x 7 (rf ad _u.1), ia G (ad 0) 29 (fN s), ia G (ad 11) 29 (fN _u.2), ia G (ad 19) 4 (fun j => ln (lq j)), ia G (ad 20) 4 (fN lz), la G (ad 21) 96 It]) := by
  refine zMi.of (by decide) rfl (fun X A H0 hX hXl hR => ?_)
  show Z (X, G, A, H0, 12) 0 0 [ob x 7 (rf ad v), ia G (ad 0) 29 (fN s), ia G (ad 11) 29 (fN t), ia G (ad 19) 4 (fun j => ln (lq j)), ia G (ad 20) 4 (fN lz), la G (ad 21) 96 It] 0 [(0, .ref x), (1, .int ar), (2, .int sh0), (3, .int la0), (4, .int i0), (5, .int nn), (6, .int wh)] []
  subst hXl
  have z0 := h0.1
  have z1 := h0.2.1
  have z2 := h0.2.2.1
  have z3 := h0.2.2.2.1
  refine z_iload_n hX 1 dX7_lists_0 rfl ?_
  refine z_callSi (st := []) hX (c_X7_isArch _ G ar ) lb_X7_isArch ml_X7_102 (fun (_u : Unit) => [ob x 7 (rf ad v), ia G (ad 0) 29 (fN s), ia G (ad 11) 29 (fN t), ia G (ad 19) 4 (fun j => ln (lq j)), ia G (ad 20) 4 (fN lz), la G (ad 21) 96 It]) (wr := [ob x 7 (rf ad v), ia G (ad 0) 29 (fN s), ia G (ad 11) 29 (fN t), ia G (ad 19) 4 (fun j => ln (lq j)), ia G (ad 20) 4 (fN lz), la G (ad 21) 96 It]) [] [0, 1, 2, 3, 4, 5] [0, 1, 2, 3, 4, 5] ⟨rfl, rfl, rfl, fun _ => rfl⟩ rfl rfl ⟨Nat.le_refl _, Nat.le_refl _⟩ dX7_lists_1 rfl (fun r1 u1 hw1 => ?_)
  try dsimp only at hw1
  rcases hw1 with ⟨arj, harl, harh, rfl, rfl⟩ | ⟨hw1, rfl⟩
  · skip
    refine zn_if_eq (tgt := 45) hX dX7_lists_4 (by decide) (by omega) (fun c4 => absurd c4 (by omega)) (fun _ => ?_)
    refine z_iload_n hX 2 dX7_lists_7 rfl ?_
    refine z_callSi (st := []) hX (c_X7_isSheet _ G sh0 ) lb_X7_isSheet ml_X7_209 (fun (_u : Unit) => [ob x 7 (rf ad v), ia G (ad 0) 29 (fN s), ia G (ad 11) 29 (fN t), ia G (ad 19) 4 (fun j => ln (lq j)), ia G (ad 20) 4 (fN lz), la G (ad 21) 96 It]) (wr := [ob x 7 (rf ad v), ia G (ad 0) 29 (fN s), ia G (ad 11) 29 (fN t), ia G (ad 19) 4 (fun j => ln (lq j)), ia G (ad 20) 4 (fN lz), la G (ad 21) 96 It]) [] [0, 1, 2, 3, 4, 5] [0, 1, 2, 3, 4, 5] ⟨rfl, rfl, rfl, fun _ => rfl⟩ rfl rfl ⟨Nat.le_refl _, Nat.le_refl _⟩ dX7_lists_8 rfl (fun r8 u8 hw8 => ?_)
    try dsimp only at hw8
    rcases hw8 with ⟨sh0j, hsh0l, hsh0h, rfl, rfl⟩ | ⟨hw8, rfl⟩
    · skip
      refine zn_if_eq (tgt := 45) hX dX7_lists_11 (by decide) (by omega) (fun c11 => absurd c11 (by omega)) (fun _ => ?_)
      refine z_iload_n hX 3 dX7_lists_14 rfl ?_
      refine z_callSi (st := []) hX (c_X7_isLane _ G la0 ) lb_X7_isLane ml_X7_212 (fun (_u : Unit) => [ob x 7 (rf ad v), ia G (ad 0) 29 (fN s), ia G (ad 11) 29 (fN t), ia G (ad 19) 4 (fun j => ln (lq j)), ia G (ad 20) 4 (fN lz), la G (ad 21) 96 It]) (wr := [ob x 7 (rf ad v), ia G (ad 0) 29 (fN s), ia G (ad 11) 29 (fN t), ia G (ad 19) 4 (fun j => ln (lq j)), ia G (ad 20) 4 (fN lz), la G (ad 21) 96 It]) [] [0, 1, 2, 3, 4, 5] [0, 1, 2, 3, 4, 5] ⟨rfl, rfl, rfl, fun _ => rfl⟩ rfl rfl ⟨Nat.le_refl _, Nat.le_refl _⟩ dX7_lists_15 rfl (fun r15 u15 hw15 => ?_)
      try dsimp only at hw15
      rcases hw15 with ⟨la0j, hla0l, hla0h, rfl, rfl⟩ | ⟨hw15, rfl⟩
      · skip
        refine zn_if_eq (tgt := 45) hX dX7_lists_18 (by decide) (by omega) (fun c18 => absurd c18 (by omega)) (fun _ => ?_)
        refine z_iload hX 5 dX7_lists_21 rfl ?_
        refine z_i2l (v := (nn.toInt64)) hX dX7_lists_23 rfl ?_
        refine z_lconst (v := lN 1) hX dX7_lists_24 (by decide) ?_
        refine z_ldc2 (v := lN 8) hX kl_X7_215 dX7_lists_25 ?_
        refine z_callSi (st := []) hX (c_X7_inX _ G nn 1 8 (by omega) (by omega)) lb_X7_in ml_X7_44 (fun (_u : Unit) => [ob x 7 (rf ad v), ia G (ad 0) 29 (fN s), ia G (ad 11) 29 (fN t), ia G (ad 19) 4 (fun j => ln (lq j)), ia G (ad 20) 4 (fN lz), la G (ad 21) 96 It]) (wr := [ob x 7 (rf ad v), ia G (ad 0) 29 (fN s), ia G (ad 11) 29 (fN t), ia G (ad 19) 4 (fun j => ln (lq j)), ia G (ad 20) 4 (fN lz), la G (ad 21) 96 It]) [] [0, 1, 2, 3, 4, 5] [0, 1, 2, 3, 4, 5] ⟨rfl, rfl, rfl, fun _ => rfl⟩ rfl rfl ⟨Nat.le_refl _, Nat.le_refl _⟩ dX7_lists_28 rfl (fun r28 u28 hw28 => ?_)
        try dsimp only at hw28
        rcases hw28 with ⟨nnj, hnnl, hnnh, rfl, rfl⟩ | ⟨hw28, rfl⟩
        · skip
          refine zn_if_eq (tgt := 45) hX dX7_lists_31 (by decide) (by omega) (fun c31 => absurd c31 (by omega)) (fun _ => ?_)
          refine z_iload hX 6 dX7_lists_34 rfl ?_
          refine z_i2l (v := (wh.toInt64)) hX dX7_lists_36 rfl ?_
          refine z_lconst (v := lN 0) hX dX7_lists_37 (by decide) ?_
          refine z_lconst (v := lN 1) hX dX7_lists_38 (by decide) ?_
          refine z_callSi (st := []) hX (c_X7_inX _ G wh 0 1 (by omega) (by omega)) lb_X7_in ml_X7_44 (fun (_u : Unit) => [ob x 7 (rf ad v), ia G (ad 0) 29 (fN s), ia G (ad 11) 29 (fN t), ia G (ad 19) 4 (fun j => ln (lq j)), ia G (ad 20) 4 (fN lz), la G (ad 21) 96 It]) (wr := [ob x 7 (rf ad v), ia G (ad 0) 29 (fN s), ia G (ad 11) 29 (fN t), ia G (ad 19) 4 (fun j => ln (lq j)), ia G (ad 20) 4 (fN lz), la G (ad 21) 96 It]) [] [0, 1, 2, 3, 4, 5] [0, 1, 2, 3, 4, 5] ⟨rfl, rfl, rfl, fun _ => rfl⟩ rfl rfl ⟨Nat.le_refl _, Nat.le_refl _⟩ dX7_lists_39 rfl (fun r39 u39 hw39 => ?_)
          try dsimp only at hw39
          rcases hw39 with ⟨whj, hwhl, hwhh, rfl, rfl⟩ | ⟨hw39, rfl⟩
          · skip
            refine zn_if_ne (tgt := 47) hX dX7_lists_42 (by decide) (by omega) (fun _ => ?_) (fun c42 => absurd c42 (by omega))
            refine z_aload_n hX 0 dX7_lists_47 rfl ?_
            refine z_iload_n hX 2 dX7_lists_48 rfl ?_
            refine z_iload_n hX 3 dX7_lists_49 rfl ?_
            refine z_iload hX 4 dX7_lists_50 rfl ?_
            refine z_iload hX 5 dX7_lists_52 rfl ?_
            refine z_callVi (st := []) hX (c_X7_why _ G x ad v s lq lz sh0j (nI la0j) i0 (nI nnj) h1 h2 (by omega)) lb_X7_why ml_X7_217 (fun (_u : Unit) => [ob x 7 (rf ad v), ia G (ad 0) 29 (fN s), ia G (ad 11) 29 (fN t), ia G (ad 19) 4 (fun j => ln (lq j)), ia G (ad 20) 4 (fN lz), la G (ad 21) 96 It]) (wr := [ia G (ad 11) 29 (fN t), la G (ad 21) 96 It]) [0, 1, 3, 4] [2, 5] [2, 3, 0, 4, 5, 1] ⟨rfl, rfl, rfl, fun _ => rfl⟩ 0 rfl rfl rfl rfl ⟨Nat.le_refl _, Nat.le_refl _⟩ dX7_lists_54 rfl (fun r54 u54 hw54 => ?_)
            refine z_istore (L' := [(7, .int r54), (0, .ref x), (1, .int (nI arj)), (2, .int (nI sh0j)), (3, .int (nI la0j)), (4, .int i0), (5, .int (nI nnj)), (6, .int (nI whj))]) hX dX7_lists_57 (Nat.le_of_ble_eq_true rfl) rfl ?_
            refine z_iload hX 0 dX7_lists_59 rfl ?_
            refine z_if_ge (tgt := 67) hX dX7_lists_61 (by decide) (fun c61x => ?_) (fun c61x => ?_)
            · have c61 : r54 = 0 := by rw [hw54] at c61x ⊢; exact faultI_ge c61x
              rw [hw54] at c61
              obtain ⟨f1, f2, f3⟩ := faultI_0 c61
              have z24 := h2 sh0j (by omega)
              obtain ⟨i0j, f4, rfl⟩ := fits_ex (by omega) f3
              refine z_iconst (v := nI 0) hX dX7_lists_67 (by decide) ?_
              refine z_istore (L' := [(8, .int (nI 0)), (7, .int r54), (0, .ref x), (1, .int (nI arj)), (2, .int (nI sh0j)), (3, .int (nI la0j)), (4, .int (nI i0j)), (5, .int (nI nnj)), (6, .int (nI whj))]) hX dX7_lists_68 (Nat.le_of_ble_eq_true rfl) rfl ?_
              refine z_bipush (v := l4 0) hX dX7_lists_70 (by decide) ?_
              refine z_istore (L' := [(9, .int (l4 0)), (8, .int (nI 0)), (7, .int r54), (0, .ref x), (1, .int (nI arj)), (2, .int (nI sh0j)), (3, .int (nI la0j)), (4, .int (nI i0j)), (5, .int (nI nnj)), (6, .int (nI whj))]) hX dX7_lists_72 (Nat.le_of_ble_eq_true rfl) rfl ?_
              refine z_aload_n hX 3 dX7_lists_74 rfl ?_
              refine z_callVv (st := []) hX (c_X7_asides _ G x ad v s t ) lb_X7_asides ml_X7_168 (fun (_u : Unit) => [ob x 7 (rf ad v), ia G (ad 0) 29 (fN s), ia G (ad 11) 29 (fN s), ia G (ad 19) 4 (fun j => ln (lq j)), ia G (ad 20) 4 (fN lz), la G (ad 21) 96 It]) (wr := [ia G (ad 19) 4 (fun j => ln (lq j)), ia G (ad 20) 4 (fN lz), la G (ad 21) 96 It]) [0, 1, 2] [3, 4, 5] [3, 4, 5, 0, 1, 2] ⟨rfl, rfl, rfl, fun _ => rfl⟩ 0 rfl rfl rfl rfl ⟨Nat.le_refl _, Nat.le_refl _⟩ dX7_lists_75 rfl (fun  u75 hw75 => ?_)
              refine z_iconst (v := nI 0) hX dX7_lists_78 (by decide) ?_
              refine z_istore (L' := [(10, .int (nI 0)), (9, .int (l4 0)), (8, .int (nI 0)), (7, .int r54), (0, .ref x), (1, .int (nI arj)), (2, .int (nI sh0j)), (3, .int (nI la0j)), (4, .int (nI i0j)), (5, .int (nI nnj)), (6, .int (nI whj))]) hX dX7_lists_79 (Nat.le_of_ble_eq_true rfl) rfl ?_
              have lp81 : ∀ (n81 : Nat) (v0 : Nat) (mm : Nat) (le : Nat) (vv : nst), (64 + 1 ≤ v0 + n81) → (v0 ≤ 64) → (vv 3 = v 3) → (vv 10 = v 10) → (vv 17 = v 17) → (vv 18 = v 18) → (mm = cntL s arj (fun k => It (24 * sh0j + (i0j + k))) nnj v0) → (le = lstL s arj (fun k => It (24 * sh0j + (i0j + k))) nnj v0) → Z (X, G, A, H0, 12) 0 0 [ob x 7 (rf ad vv), ia G (ad 0) 29 (fN s), ia G (ad 11) 29 (fN s), ia G (ad 19) 4 (fun j => ln (lq j)), ia G (ad 20) 4 (fN lz), la G (ad 21) 96 It] 81 [(0, .ref x), (1, .int (nI arj)), (2, .int (nI sh0j)), (3, .int (nI la0j)), (4, .int (nI i0j)), (5, .int (nI nnj)), (6, .int (nI whj)), (8, .int (nI mm)), (9, .int (l4 le)), (10, .int (nI v0))] [] := by
                intro n81
                induction n81 with
                | zero =>
                  intro v0 mm le vv hn hv hv3 hv10 hv17 hv18 hm hl
                  exfalso
                  omega
                | succ n81 ih81 =>
                  intro v0 mm le vv hn hv hv3 hv10 hv17 hv18 hm hl
                  have c0 := cnt0 s arj (fun k => It (24 * sh0j + (i0j + k))) nnj v0
                  have c1 := cntL_le7 s arj (fun k => It (24 * sh0j + (i0j + k))) nnj v0
                  rw [← hm] at c1
                  rw [← hm, ← hl] at c0
                  refine z_iload hX 9 dX7_lists_81 rfl ?_
                  refine z_bipush (v := nI 64) hX dX7_lists_83 (by decide) ?_
                  refine zn_icmp_ge (tgt := 152) hX dX7_lists_85 (by decide) (by omega) (by omega) (fun c85 => ?_) (fun c85 => ?_)
                  · skip
                    refine z_iload hX 6 dX7_lists_152 rfl ?_
                    refine zn_if_ne (tgt := 162) hX dX7_lists_154 (by decide) (by omega) (fun c154 => ?_) (fun c154 => ?_)
                    · skip
                      refine z_iload hX 8 dX7_lists_162 rfl ?_
                      have ev : v0 = 64 := by omega
                      subst ev
                      exact hR _ (vv, s) _ _ ⟨by unfold spLists; rw [if_pos (by unfold okLists; rw [inb_t (by omega) (by omega) (by omega), inb_t (by omega) (by omega) (by omega), inb_t (by omega) (by omega) (by omega), inb_t (by omega) (by omega) (by omega), inb_t (by omega) (by omega) (by omega)]; rfl), gN_nI (show sh0j < 2147483648 by omega), if_pos c61, gN_nI (show whj < 2147483648 by omega), gN_nI (show arj < 2147483648 by omega), gN_nI (show i0j < 2147483648 by omega), gN_nI (show nnj < 2147483648 by omega), if_neg c154, hl], hv3, hv10, hv17, hv18⟩ dX7_lists_164 rfl
                    · skip
                      refine z_iload hX 7 dX7_lists_157 rfl ?_
                      refine z_goto (tgt := 164) hX dX7_lists_159 (by decide) ?_
                      have ev : v0 = 64 := by omega
                      subst ev
                      exact hR _ (vv, s) _ _ ⟨by unfold spLists; rw [if_pos (by unfold okLists; rw [inb_t (by omega) (by omega) (by omega), inb_t (by omega) (by omega) (by omega), inb_t (by omega) (by omega) (by omega), inb_t (by omega) (by omega) (by omega), inb_t (by omega) (by omega) (by omega)]; rfl), gN_nI (show sh0j < 2147483648 by omega), if_pos c61, gN_nI (show whj < 2147483648 by omega), gN_nI (show arj < 2147483648 by omega), gN_nI (show i0j < 2147483648 by omega), gN_nI (show nnj < 2147483648 by omega), if_pos c154, hm], hv3, hv10, hv17, hv18⟩ dX7_lists_164 rfl
                  · skip
                    refine z_aload_n hX 0 dX7_lists_88 rfl ?_
                    refine z_get (v := .ref (ad 0)) hX fX7 0 0 rfl rfl (Nat.le_of_ble_eq_true rfl) fl_X7_7 rfl dX7_lists_89 ?_
                    refine z_iconst (v := nI 2) hX dX7_lists_92 (by decide) ?_
                    refine z_iload hX 9 dX7_lists_93 rfl ?_
                    refine z_iast (ws' := [ob x 7 (rf ad vv), ia G (ad 0) 29 (fN (va_up s 2 v0)), ia G (ad 11) 29 (fN s), ia G (ad 19) 4 (fun j => ln (lq j)), ia G (ad 20) 4 (fN lz), la G (ad 21) 96 It]) hX 1 (j := 2) rfl (by omega) (by decide) (updN _ _ _) rfl dX7_lists_95 ?_
                    refine z_aload_n hX 0 dX7_lists_96 rfl ?_
                    refine z_iload_n hX 1 dX7_lists_97 rfl ?_
                    refine z_bipush (v := nI 24) hX dX7_lists_98 (by decide) ?_
                    refine z_iload_n hX 2 dX7_lists_100 rfl ?_
                    refine z_imul (v := (nI (24 * sh0j))) hX dX7_lists_101 (pk_mul _ _) ?_
                    refine z_iload hX 4 dX7_lists_102 rfl ?_
                    refine z_iadd (v := (nI (24 * sh0j + i0j))) hX dX7_lists_104 (nI_add _ _) ?_
                    refine z_iload hX 5 dX7_lists_105 rfl ?_
                    refine z_callVi (st := []) hX (c_X7_isSo _ G x ad vv (va_up s 2 v0) s It arj (24 * sh0j + i0j) nnj (fun k => It (24 * sh0j + (i0j + k))) (WF_list h0 (by omega)) (by omega) (by omega) (by omega) (fun k h9 => congrArg It (by omega))) lb_X7_isSo ml_X7_221 (fun (_u : nst) => [ob x 7 (rf ad _u), ia G (ad 0) 29 (fN s), ia G (ad 11) 29 (fN s), ia G (ad 19) 4 (fun j => ln (lq j)), ia G (ad 20) 4 (fN lz), la G (ad 21) 96 It]) (wr := [ia G (ad 19) 4 (fun j => ln (lq j)), ia G (ad 20) 4 (fN lz)]) [0, 1, 2, 5] [3, 4] [2, 3, 4, 0, 1, 5] ⟨rfl, rfl, rfl, fun _ => rfl⟩ 0 rfl rfl rfl rfl ⟨Nat.le_refl _, Nat.le_refl _⟩ dX7_lists_107 rfl (fun r107 u107 hw107 => ?_)
                    obtain ⟨v2_1, rfl⟩ : ∃ z9, z9 = u107 := ⟨_, rfl⟩
                    obtain ⟨hw107, hw107x⟩ := hw107
                    try dsimp only at hw107
                    rcases Classical.em (showB (va_up s 2 v0) arj (fun k => It (24 * sh0j + (i0j + k))) nnj = true) with b107 | b107
                    · obtain rfl := hw107.1 b107
                      refine z_istore (L' := [(11, .int (nI 1)), (0, .ref x), (1, .int (nI arj)), (2, .int (nI sh0j)), (3, .int (nI la0j)), (4, .int (nI i0j)), (5, .int (nI nnj)), (6, .int (nI whj)), (8, .int (nI mm)), (9, .int (l4 le)), (10, .int (nI v0))]) hX dX7_lists_110 (Nat.le_of_ble_eq_true rfl) rfl ?_
                      refine z_iload hX 0 dX7_lists_112 rfl ?_
                      refine zn_if_eq (tgt := 127) hX dX7_lists_114 (by decide) (by omega) (fun c114 => absurd c114 (by omega)) (fun _ => ?_)
                      refine z_iload hX 8 dX7_lists_117 rfl ?_
                      refine zn_if_ne (tgt := 127) hX dX7_lists_119 (by decide) (by omega) (fun c119 => ?_) (fun c119 => ?_)
                      · skip
                        refine z_iload hX 9 dX7_lists_127 rfl ?_
                        refine z_istore (L' := [(9, .int (l4 le)), (11, .int (nI 1)), (0, .ref x), (1, .int (nI arj)), (2, .int (nI sh0j)), (3, .int (nI la0j)), (4, .int (nI i0j)), (5, .int (nI nnj)), (6, .int (nI whj)), (8, .int (nI mm)), (10, .int (nI v0))]) hX dX7_lists_129 (Nat.le_of_ble_eq_true rfl) rfl ?_
                        refine z_iload hX 9 dX7_lists_131 rfl ?_
                        refine z_iload hX 1 dX7_lists_133 rfl ?_
                        refine zn_if_eq (tgt := 142) hX dX7_lists_135 (by decide) (by omega) (fun c135 => absurd c135 (by omega)) (fun _ => ?_)
                        refine z_iconst (v := nI 1) hX dX7_lists_138 (by decide) ?_
                        refine z_goto (tgt := 143) hX dX7_lists_139 (by decide) ?_
                        refine z_iadd (v := (nI (mm + 1))) hX dX7_lists_143 (nI_add _ _) ?_
                        refine z_istore (L' := [(8, .int (nI (mm + 1))), (9, .int (l4 le)), (11, .int (nI 1)), (0, .ref x), (1, .int (nI arj)), (2, .int (nI sh0j)), (3, .int (nI la0j)), (4, .int (nI i0j)), (5, .int (nI nnj)), (6, .int (nI whj)), (10, .int (nI v0))]) hX dX7_lists_144 (Nat.le_of_ble_eq_true rfl) rfl ?_
                        refine z_iinc (v := (nI (v0 + 1))) (L' := [(10, .int (nI (v0 + 1))), (8, .int (nI (mm + 1))), (9, .int (l4 le)), (11, .int (nI 1)), (0, .ref x), (1, .int (nI arj)), (2, .int (nI sh0j)), (3, .int (nI la0j)), (4, .int (nI i0j)), (5, .int (nI nnj)), (6, .int (nI whj))]) hX 10 dX7_lists_146 rfl (nI_inc _) (Nat.le_of_ble_eq_true rfl) rfl ?_
                        refine z_goto (tgt := 81) hX dX7_lists_149 (by decide) ?_
                        refine z_lsub [4, 5, 6, 7, 8, 9, 10, 1, 2, 0] rfl ?_
                        exact ih81 (v0 + 1) (mm + 1) le v2_1 (by omega) (by omega) (hw107x.1.trans hv3) (hw107x.2.1.trans hv10) (hw107x.2.2.1.trans hv17) (hw107x.2.2.2.trans hv18) (by rw [cntL, if_pos b107, hm]) (by first | rw [lstL, if_neg (fun z9 => b107 z9.2), hl] | rw [lstL, if_pos ⟨by omega, b107⟩] | rw [lstL, if_neg (fun z9 => c119 (c0.2 (hl.trans z9.1))), hl])
                      · skip
                        refine z_iload hX 10 dX7_lists_122 rfl ?_
                        refine z_goto (tgt := 129) hX dX7_lists_124 (by decide) ?_
                        refine z_istore (L' := [(9, .int (nI v0)), (11, .int (nI 1)), (0, .ref x), (1, .int (nI arj)), (2, .int (nI sh0j)), (3, .int (nI la0j)), (4, .int (nI i0j)), (5, .int (nI nnj)), (6, .int (nI whj)), (8, .int (nI mm)), (10, .int (nI v0))]) hX dX7_lists_129 (Nat.le_of_ble_eq_true rfl) rfl ?_
                        refine z_iload hX 9 dX7_lists_131 rfl ?_
                        refine z_iload hX 1 dX7_lists_133 rfl ?_
                        refine zn_if_eq (tgt := 142) hX dX7_lists_135 (by decide) (by omega) (fun c135 => absurd c135 (by omega)) (fun _ => ?_)
                        refine z_iconst (v := nI 1) hX dX7_lists_138 (by decide) ?_
                        refine z_goto (tgt := 143) hX dX7_lists_139 (by decide) ?_
                        refine z_iadd (v := (nI (mm + 1))) hX dX7_lists_143 (nI_add _ _) ?_
                        refine z_istore (L' := [(8, .int (nI (mm + 1))), (9, .int (nI v0)), (11, .int (nI 1)), (0, .ref x), (1, .int (nI arj)), (2, .int (nI sh0j)), (3, .int (nI la0j)), (4, .int (nI i0j)), (5, .int (nI nnj)), (6, .int (nI whj)), (10, .int (nI v0))]) hX dX7_lists_144 (Nat.le_of_ble_eq_true rfl) rfl ?_
                        refine z_iinc (v := (nI (v0 + 1))) (L' := [(10, .int (nI (v0 + 1))), (8, .int (nI (mm + 1))), (9, .int (nI v0)), (11, .int (nI 1)), (0, .ref x), (1, .int (nI arj)), (2, .int (nI sh0j)), (3, .int (nI la0j)), (4, .int (nI i0j)), (5, .int (nI nnj)), (6, .int (nI whj))]) hX 10 dX7_lists_146 rfl (nI_inc _) (Nat.le_of_ble_eq_true rfl) rfl ?_
                        refine z_goto (tgt := 81) hX dX7_lists_149 (by decide) ?_
                        refine z_lsub [4, 5, 6, 7, 8, 9, 10, 1, 2, 0] rfl ?_
                        exact ih81 (v0 + 1) (mm + 1) (v0 + 1) v2_1 (by omega) (by omega) (hw107x.1.trans hv3) (hw107x.2.1.trans hv10) (hw107x.2.2.1.trans hv17) (hw107x.2.2.2.trans hv18) (by rw [cntL, if_pos b107, hm]) (by first | rw [lstL, if_neg (fun z9 => b107 z9.2), hl] | rw [lstL, if_pos ⟨by omega, b107⟩] | rw [lstL, if_neg (fun z9 => c119 (c0.2 (hl.trans z9.1))), hl])
                    · obtain rfl := hw107.2 b107
                      refine z_istore (L' := [(11, .int (nI 0)), (0, .ref x), (1, .int (nI arj)), (2, .int (nI sh0j)), (3, .int (nI la0j)), (4, .int (nI i0j)), (5, .int (nI nnj)), (6, .int (nI whj)), (8, .int (nI mm)), (9, .int (l4 le)), (10, .int (nI v0))]) hX dX7_lists_110 (Nat.le_of_ble_eq_true rfl) rfl ?_
                      refine z_iload hX 0 dX7_lists_112 rfl ?_
                      refine zn_if_eq (tgt := 127) hX dX7_lists_114 (by decide) (by omega) (fun _ => ?_) (fun c114 => absurd c114 (by omega))
                      refine z_iload hX 9 dX7_lists_127 rfl ?_
                      refine z_istore (L' := [(9, .int (l4 le)), (11, .int (nI 0)), (0, .ref x), (1, .int (nI arj)), (2, .int (nI sh0j)), (3, .int (nI la0j)), (4, .int (nI i0j)), (5, .int (nI nnj)), (6, .int (nI whj)), (8, .int (nI mm)), (10, .int (nI v0))]) hX dX7_lists_129 (Nat.le_of_ble_eq_true rfl) rfl ?_
                      refine z_iload hX 9 dX7_lists_131 rfl ?_
                      refine z_iload hX 1 dX7_lists_133 rfl ?_
                      refine zn_if_eq (tgt := 142) hX dX7_lists_135 (by decide) (by omega) (fun _ => ?_) (fun c135 => absurd c135 (by omega))
                      refine z_iconst (v := nI 0) hX dX7_lists_142 (by decide) ?_
                      refine z_iadd (v := (nI mm)) hX dX7_lists_143 ((nI_add _ _).trans (congrArg nI (by omega))) ?_
                      refine z_istore (L' := [(8, .int (nI mm)), (9, .int (l4 le)), (11, .int (nI 0)), (0, .ref x), (1, .int (nI arj)), (2, .int (nI sh0j)), (3, .int (nI la0j)), (4, .int (nI i0j)), (5, .int (nI nnj)), (6, .int (nI whj)), (10, .int (nI v0))]) hX dX7_lists_144 (Nat.le_of_ble_eq_true rfl) rfl ?_
                      refine z_iinc (v := (nI (v0 + 1))) (L' := [(10, .int (nI (v0 + 1))), (8, .int (nI mm)), (9, .int (l4 le)), (11, .int (nI 0)), (0, .ref x), (1, .int (nI arj)), (2, .int (nI sh0j)), (3, .int (nI la0j)), (4, .int (nI i0j)), (5, .int (nI nnj)), (6, .int (nI whj))]) hX 10 dX7_lists_146 rfl (nI_inc _) (Nat.le_of_ble_eq_true rfl) rfl ?_
                      refine z_goto (tgt := 81) hX dX7_lists_149 (by decide) ?_
                      refine z_lsub [4, 5, 6, 7, 8, 9, 10, 1, 2, 0] rfl ?_
                      exact ih81 (v0 + 1) mm le v2_1 (by omega) (by omega) (hw107x.1.trans hv3) (hw107x.2.1.trans hv10) (hw107x.2.2.1.trans hv17) (hw107x.2.2.2.trans hv18) (by rw [cntL, if_neg b107, hm]) (by first | rw [lstL, if_neg (fun z9 => b107 z9.2), hl] | rw [lstL, if_pos ⟨by omega, b107⟩] | rw [lstL, if_neg (fun z9 => c119 (c0.2 (hl.trans z9.1))), hl])
              refine z_lsub [4, 5, 6, 7, 8, 9, 10, 2, 1, 0] rfl ?_
              exact lp81 65 0 0 0 v (by omega) (by omega) rfl rfl rfl rfl rfl rfl
            · have c61 : ¬ r54 = 0 := by intro z9; exact c61x (by rw [z9]; decide)
              refine z_iload hX 0 dX7_lists_64 rfl ?_
              exact hR _ (v, t) _ _ ⟨by unfold spLists; rw [if_pos (by unfold okLists; rw [inb_t (by omega) (by omega) (by omega), inb_t (by omega) (by omega) (by omega), inb_t (by omega) (by omega) (by omega), inb_t (by omega) (by omega) (by omega), inb_t (by omega) (by omega) (by omega)]; rfl), gN_nI (show sh0j < 2147483648 by omega), if_neg (by rw [← hw54]; exact c61)]; exact hw54, rfl, rfl, rfl, rfl⟩ dX7_lists_66 rfl
          · have hb_wh : inb wh 0 1 = false := hw39
            refine zn_if_ne (tgt := 47) hX dX7_lists_42 (by decide) (by omega) (fun c42 => absurd c42 (by omega)) (fun _ => ?_)
            refine z_iconst (v := (-1)) hX dX7_lists_45 (by decide) ?_
            exact hR _ (v, t) _ _ ⟨by unfold spLists; rw [if_neg (by unfold okLists; simp [hb_wh])], rfl, rfl, rfl, rfl⟩ dX7_lists_46 rfl
        · have hb_nn : inb nn 1 8 = false := hw28
          refine zn_if_eq (tgt := 45) hX dX7_lists_31 (by decide) (by omega) (fun _ => ?_) (fun c31 => absurd c31 (by omega))
          refine z_iconst (v := (-1)) hX dX7_lists_45 (by decide) ?_
          exact hR _ (v, t) _ _ ⟨by unfold spLists; rw [if_neg (by unfold okLists; simp [hb_nn])], rfl, rfl, rfl, rfl⟩ dX7_lists_46 rfl
      · have hb_la0 : inb la0 0 3 = false := hw15
        refine zn_if_eq (tgt := 45) hX dX7_lists_18 (by decide) (by omega) (fun _ => ?_) (fun c18 => absurd c18 (by omega))
        refine z_iconst (v := (-1)) hX dX7_lists_45 (by decide) ?_
        exact hR _ (v, t) _ _ ⟨by unfold spLists; rw [if_neg (by unfold okLists; simp [hb_la0])], rfl, rfl, rfl, rfl⟩ dX7_lists_46 rfl
    · have hb_sh0 : inb sh0 0 3 = false := hw8
      refine zn_if_eq (tgt := 45) hX dX7_lists_11 (by decide) (by omega) (fun _ => ?_) (fun c11 => absurd c11 (by omega))
      refine z_iconst (v := (-1)) hX dX7_lists_45 (by decide) ?_
      exact hR _ (v, t) _ _ ⟨by unfold spLists; rw [if_neg (by unfold okLists; simp [hb_sh0])], rfl, rfl, rfl, rfl⟩ dX7_lists_46 rfl
  · have hb_ar : inb ar 0 3 = false := hw1
    refine zn_if_eq (tgt := 45) hX dX7_lists_4 (by decide) (by omega) (fun _ => ?_) (fun c4 => absurd c4 (by omega))
    refine z_iconst (v := (-1)) hX dX7_lists_45 (by decide) ?_
    exact hR _ (v, t) _ _ ⟨by unfold spLists; rw [if_neg (by unfold okLists; simp [hb_ar])], rfl, rfl, rfl, rfl⟩ dX7_lists_46 rfl
set_option maxRecDepth 100000 in
set_option maxHeartbeats 4000000 in
theorem c_X7_seen (l : Launch) (G : zG) (x : Nat) (ad : Nat → Nat) (v : Nat → Nat) (s : nst) (t : nst) (lq : nst) (lz : nst) (It : Nat → Int64) (ar : Int32) (tr : Int32) (sh0 : Int32) (la0 : Int32) (i0 : Int32) (nn : Int32) (wh : Int32) (h0 : WF 9999 0 s) (h1 : ∀ j, j < 4 → lq j ≤ 4) (h2 : ∀ j, j < 4 → lz j ≤ 24) : zMi l G yX7_seen cX7_seen 12 .int 5 0 0 113 [.ref x, .int ar, .int tr, .int sh0, .int la0, .int i0, .int nn, .int wh] [ob x 7 (rf ad v), ia G (ad 0) 29 (fN s), ia G (ad 11) 29 (fN t), ia G (ad 19) 4 (fun j => ln (lq j)), ia G (ad 20) 4 (fN lz), la G (ad 21) 96 It] (fun (r : Int32) (_u : nst × nst) => r = spSeen s (lq (gN sh0)) (lz (gN sh0)) (fun j => It (24 * gN sh0 + j)) ar tr sh0 la0 i0 nn wh ∧ _u.1 3 = v 3 ∧ _u.1 10 = v 10 ∧ _u.1 17 = v 17 ∧ _u.1 18 = v 18) (fun (_u : nst × nst) => [ob x 7 (rf ad _u.1), ia G (ad 0) 29 (fN s), ia G (ad 11) 29 (fN _u.2), ia G (ad 19) 4 (fun j => ln (lq j)), ia G (ad 20) 4 (fN lz), la G (ad 21) 96 It]) := by
  refine zMi.of (by decide) rfl (fun X A H0 hX hXl hR => ?_)
  show Z (X, G, A, H0, 12) 0 0 [ob x 7 (rf ad v), ia G (ad 0) 29 (fN s), ia G (ad 11) 29 (fN t), ia G (ad 19) 4 (fun j => ln (lq j)), ia G (ad 20) 4 (fN lz), la G (ad 21) 96 It] 0 [(0, .ref x), (1, .int ar), (2, .int tr), (3, .int sh0), (4, .int la0), (5, .int i0), (6, .int nn), (7, .int wh)] []
  subst hXl
  have z0 := h0.1
  have z1 := h0.2.1
  have z2 := h0.2.2.1
  have z3 := h0.2.2.2.1
  refine z_iload_n hX 1 dX7_seen_0 rfl ?_
  refine z_callSi (st := []) hX (c_X7_isArch _ G ar ) lb_X7_isArch ml_X7_102 (fun (_u : Unit) => [ob x 7 (rf ad v), ia G (ad 0) 29 (fN s), ia G (ad 11) 29 (fN t), ia G (ad 19) 4 (fun j => ln (lq j)), ia G (ad 20) 4 (fN lz), la G (ad 21) 96 It]) (wr := [ob x 7 (rf ad v), ia G (ad 0) 29 (fN s), ia G (ad 11) 29 (fN t), ia G (ad 19) 4 (fun j => ln (lq j)), ia G (ad 20) 4 (fN lz), la G (ad 21) 96 It]) [] [0, 1, 2, 3, 4, 5] [0, 1, 2, 3, 4, 5] ⟨rfl, rfl, rfl, fun _ => rfl⟩ rfl rfl ⟨Nat.le_refl _, Nat.le_refl _⟩ dX7_seen_1 rfl (fun r1 u1 hw1 => ?_)
  try dsimp only at hw1
  rcases hw1 with ⟨arj, harl, harh, rfl, rfl⟩ | ⟨hw1, rfl⟩
  · skip
    refine zn_if_eq (tgt := 54) hX dX7_seen_4 (by decide) (by omega) (fun c4 => absurd c4 (by omega)) (fun _ => ?_)
    refine z_aload_n hX 0 dX7_seen_7 rfl ?_
    refine z_iload_n hX 2 dX7_seen_8 rfl ?_
    refine z_callVi (st := []) hX (c_X7_isPerson _ G x ad v s tr (by omega)) lb_X7_isPerson ml_X7_99 (fun (_u : Unit) => [ob x 7 (rf ad v), ia G (ad 0) 29 (fN s), ia G (ad 11) 29 (fN t), ia G (ad 19) 4 (fun j => ln (lq j)), ia G (ad 20) 4 (fN lz), la G (ad 21) 96 It]) (wr := [ia G (ad 11) 29 (fN t), ia G (ad 19) 4 (fun j => ln (lq j)), ia G (ad 20) 4 (fN lz), la G (ad 21) 96 It]) [0, 1] [2, 3, 4, 5] [4, 5, 0, 1, 2, 3] ⟨rfl, rfl, rfl, fun _ => rfl⟩ 0 rfl rfl rfl rfl ⟨Nat.le_refl _, Nat.le_refl _⟩ dX7_seen_9 rfl (fun r9 u9 hw9 => ?_)
    try dsimp only at hw9
    rcases hw9 with ⟨trj, htrh, rfl, rfl⟩ | ⟨hw9, rfl⟩
    · skip
      refine zn_if_eq (tgt := 54) hX dX7_seen_12 (by decide) (by omega) (fun c12 => absurd c12 (by omega)) (fun _ => ?_)
      refine z_iload_n hX 3 dX7_seen_15 rfl ?_
      refine z_callSi (st := []) hX (c_X7_isSheet _ G sh0 ) lb_X7_isSheet ml_X7_209 (fun (_u : Unit) => [ob x 7 (rf ad v), ia G (ad 0) 29 (fN s), ia G (ad 11) 29 (fN t), ia G (ad 19) 4 (fun j => ln (lq j)), ia G (ad 20) 4 (fN lz), la G (ad 21) 96 It]) (wr := [ob x 7 (rf ad v), ia G (ad 0) 29 (fN s), ia G (ad 11) 29 (fN t), ia G (ad 19) 4 (fun j => ln (lq j)), ia G (ad 20) 4 (fN lz), la G (ad 21) 96 It]) [] [0, 1, 2, 3, 4, 5] [0, 1, 2, 3, 4, 5] ⟨rfl, rfl, rfl, fun _ => rfl⟩ rfl rfl ⟨Nat.le_refl _, Nat.le_refl _⟩ dX7_seen_16 rfl (fun r16 u16 hw16 => ?_)
      try dsimp only at hw16
      rcases hw16 with ⟨sh0j, hsh0l, hsh0h, rfl, rfl⟩ | ⟨hw16, rfl⟩
      · skip
        refine zn_if_eq (tgt := 54) hX dX7_seen_19 (by decide) (by omega) (fun c19 => absurd c19 (by omega)) (fun _ => ?_)
        refine z_iload hX 4 dX7_seen_22 rfl ?_
        refine z_callSi (st := []) hX (c_X7_isLane _ G la0 ) lb_X7_isLane ml_X7_212 (fun (_u : Unit) => [ob x 7 (rf ad v), ia G (ad 0) 29 (fN s), ia G (ad 11) 29 (fN t), ia G (ad 19) 4 (fun j => ln (lq j)), ia G (ad 20) 4 (fN lz), la G (ad 21) 96 It]) (wr := [ob x 7 (rf ad v), ia G (ad 0) 29 (fN s), ia G (ad 11) 29 (fN t), ia G (ad 19) 4 (fun j => ln (lq j)), ia G (ad 20) 4 (fN lz), la G (ad 21) 96 It]) [] [0, 1, 2, 3, 4, 5] [0, 1, 2, 3, 4, 5] ⟨rfl, rfl, rfl, fun _ => rfl⟩ rfl rfl ⟨Nat.le_refl _, Nat.le_refl _⟩ dX7_seen_24 rfl (fun r24 u24 hw24 => ?_)
        try dsimp only at hw24
        rcases hw24 with ⟨la0j, hla0l, hla0h, rfl, rfl⟩ | ⟨hw24, rfl⟩
        · skip
          refine zn_if_eq (tgt := 54) hX dX7_seen_27 (by decide) (by omega) (fun c27 => absurd c27 (by omega)) (fun _ => ?_)
          refine z_iload hX 6 dX7_seen_30 rfl ?_
          refine z_i2l (v := (nn.toInt64)) hX dX7_seen_32 rfl ?_
          refine z_lconst (v := lN 1) hX dX7_seen_33 (by decide) ?_
          refine z_ldc2 (v := lN 8) hX kl_X7_215 dX7_seen_34 ?_
          refine z_callSi (st := []) hX (c_X7_inX _ G nn 1 8 (by omega) (by omega)) lb_X7_in ml_X7_44 (fun (_u : Unit) => [ob x 7 (rf ad v), ia G (ad 0) 29 (fN s), ia G (ad 11) 29 (fN t), ia G (ad 19) 4 (fun j => ln (lq j)), ia G (ad 20) 4 (fN lz), la G (ad 21) 96 It]) (wr := [ob x 7 (rf ad v), ia G (ad 0) 29 (fN s), ia G (ad 11) 29 (fN t), ia G (ad 19) 4 (fun j => ln (lq j)), ia G (ad 20) 4 (fN lz), la G (ad 21) 96 It]) [] [0, 1, 2, 3, 4, 5] [0, 1, 2, 3, 4, 5] ⟨rfl, rfl, rfl, fun _ => rfl⟩ rfl rfl ⟨Nat.le_refl _, Nat.le_refl _⟩ dX7_seen_37 rfl (fun r37 u37 hw37 => ?_)
          try dsimp only at hw37
          rcases hw37 with ⟨nnj, hnnl, hnnh, rfl, rfl⟩ | ⟨hw37, rfl⟩
          · skip
            refine zn_if_eq (tgt := 54) hX dX7_seen_40 (by decide) (by omega) (fun c40 => absurd c40 (by omega)) (fun _ => ?_)
            refine z_iload hX 7 dX7_seen_43 rfl ?_
            refine z_i2l (v := (wh.toInt64)) hX dX7_seen_45 rfl ?_
            refine z_lconst (v := lN 0) hX dX7_seen_46 (by decide) ?_
            refine z_lconst (v := lN 1) hX dX7_seen_47 (by decide) ?_
            refine z_callSi (st := []) hX (c_X7_inX _ G wh 0 1 (by omega) (by omega)) lb_X7_in ml_X7_44 (fun (_u : Unit) => [ob x 7 (rf ad v), ia G (ad 0) 29 (fN s), ia G (ad 11) 29 (fN t), ia G (ad 19) 4 (fun j => ln (lq j)), ia G (ad 20) 4 (fN lz), la G (ad 21) 96 It]) (wr := [ob x 7 (rf ad v), ia G (ad 0) 29 (fN s), ia G (ad 11) 29 (fN t), ia G (ad 19) 4 (fun j => ln (lq j)), ia G (ad 20) 4 (fN lz), la G (ad 21) 96 It]) [] [0, 1, 2, 3, 4, 5] [0, 1, 2, 3, 4, 5] ⟨rfl, rfl, rfl, fun _ => rfl⟩ rfl rfl ⟨Nat.le_refl _, Nat.le_refl _⟩ dX7_seen_48 rfl (fun r48 u48 hw48 => ?_)
            try dsimp only at hw48
            rcases hw48 with ⟨whj, hwhl, hwhh, rfl, rfl⟩ | ⟨hw48, rfl⟩
            · skip
              refine zn_if_ne (tgt := 56) hX dX7_seen_51 (by decide) (by omega) (fun _ => ?_) (fun c51 => absurd c51 (by omega))
              refine z_aload_n hX 0 dX7_seen_56 rfl ?_
              refine z_iload_n hX 3 dX7_seen_57 rfl ?_
              refine z_iload hX 4 dX7_seen_58 rfl ?_
              refine z_iload hX 5 dX7_seen_60 rfl ?_
              refine z_iload hX 6 dX7_seen_62 rfl ?_
              refine z_callVi (st := []) hX (c_X7_why _ G x ad v s lq lz sh0j (nI la0j) i0 (nI nnj) h1 h2 (by omega)) lb_X7_why ml_X7_217 (fun (_u : Unit) => [ob x 7 (rf ad v), ia G (ad 0) 29 (fN s), ia G (ad 11) 29 (fN t), ia G (ad 19) 4 (fun j => ln (lq j)), ia G (ad 20) 4 (fN lz), la G (ad 21) 96 It]) (wr := [ia G (ad 11) 29 (fN t), la G (ad 21) 96 It]) [0, 1, 3, 4] [2, 5] [2, 3, 0, 4, 5, 1] ⟨rfl, rfl, rfl, fun _ => rfl⟩ 0 rfl rfl rfl rfl ⟨Nat.le_refl _, Nat.le_refl _⟩ dX7_seen_64 rfl (fun r64 u64 hw64 => ?_)
              refine z_istore (L' := [(8, .int r64), (0, .ref x), (1, .int (nI arj)), (2, .int (nI trj)), (3, .int (nI sh0j)), (4, .int (nI la0j)), (5, .int i0), (6, .int (nI nnj)), (7, .int (nI whj))]) hX dX7_seen_67 (Nat.le_of_ble_eq_true rfl) rfl ?_
              refine z_iload hX 0 dX7_seen_69 rfl ?_
              refine z_if_ge (tgt := 77) hX dX7_seen_71 (by decide) (fun c71x => ?_) (fun c71x => ?_)
              · have c71 : r64 = 0 := by rw [hw64] at c71x ⊢; exact faultI_ge c71x
                rw [hw64] at c71
                obtain ⟨f1, f2, f3⟩ := faultI_0 c71
                have z24 := h2 sh0j (by omega)
                obtain ⟨i0j, f4, rfl⟩ := fits_ex (by omega) f3
                rcases (show whj = 0 ∨ whj = 1 by omega) with rfl | rfl
                · skip
                  refine z_iconst (v := nI 0) hX dX7_seen_77 (by decide) ?_
                  refine z_istore (L' := [(9, .int (nI 0)), (8, .int r64), (0, .ref x), (1, .int (nI arj)), (2, .int (nI trj)), (3, .int (nI sh0j)), (4, .int (nI la0j)), (5, .int (nI i0j)), (6, .int (nI nnj)), (7, .int (nI 0))]) hX dX7_seen_78 (Nat.le_of_ble_eq_true rfl) rfl ?_
                  refine z_bipush (v := nI 11) hX dX7_seen_80 (by decide) ?_
                  refine z_iconst (v := nI 3) hX dX7_seen_82 (by decide) ?_
                  refine z_iload_n hX 4 dX7_seen_83 rfl ?_
                  refine z_imul (v := (nI (3 * trj))) hX dX7_seen_84 (pk_mul _ _) ?_
                  refine z_iadd (v := (nI (11 + 3 * trj))) hX dX7_seen_85 (nI_add _ _) ?_
                  refine z_iconst (v := nI 2) hX dX7_seen_86 (by decide) ?_
                  refine z_iload hX 9 dX7_seen_87 rfl ?_
                  refine z_imul (v := (nI 0)) hX dX7_seen_89 ((pk_mul _ _).trans (congrArg nI (by omega))) ?_
                  refine z_iadd (v := (nI (11 + 3 * trj))) hX dX7_seen_90 ((nI_add _ _).trans (congrArg nI (by omega))) ?_
                  refine z_istore (L' := [(10, .int (nI (11 + 3 * trj))), (9, .int (nI 0)), (8, .int r64), (0, .ref x), (1, .int (nI arj)), (2, .int (nI trj)), (3, .int (nI sh0j)), (4, .int (nI la0j)), (5, .int (nI i0j)), (6, .int (nI nnj)), (7, .int (nI 0))]) hX dX7_seen_91 (Nat.le_of_ble_eq_true rfl) rfl ?_
                  refine z_aload_n hX 3 dX7_seen_93 rfl ?_
                  refine z_callVv (st := []) hX (c_X7_asides _ G x ad v s t ) lb_X7_asides ml_X7_168 (fun (_u : Unit) => [ob x 7 (rf ad v), ia G (ad 0) 29 (fN s), ia G (ad 11) 29 (fN s), ia G (ad 19) 4 (fun j => ln (lq j)), ia G (ad 20) 4 (fN lz), la G (ad 21) 96 It]) (wr := [ia G (ad 19) 4 (fun j => ln (lq j)), ia G (ad 20) 4 (fN lz), la G (ad 21) 96 It]) [0, 1, 2] [3, 4, 5] [3, 4, 5, 0, 1, 2] ⟨rfl, rfl, rfl, fun _ => rfl⟩ 0 rfl rfl rfl rfl ⟨Nat.le_refl _, Nat.le_refl _⟩ dX7_seen_94 rfl (fun  u94 hw94 => ?_)
                  refine z_iload hX 10 dX7_seen_97 rfl ?_
                  refine z_istore (L' := [(11, .int (nI 0)), (10, .int (nI (11 + 3 * trj))), (9, .int (nI 0)), (8, .int r64), (0, .ref x), (1, .int (nI arj)), (2, .int (nI trj)), (3, .int (nI sh0j)), (4, .int (nI la0j)), (5, .int (nI i0j)), (6, .int (nI nnj)), (7, .int (nI 0))]) hX dX7_seen_99 (Nat.le_of_ble_eq_true rfl) rfl ?_
                  have lp101 : ∀ (n101 : Nat) (k : Nat) (e : Nat) (vv : nst), (5 + 1 ≤ k + n101) → (0 ≤ k ∧ k ≤ 5) → (vv 3 = v 3) → (vv 10 = v 10) → (vv 17 = v 17) → (vv 18 = v 18) → (e = seenTo s (11 + 3 * trj) arj (fun k => It (24 * sh0j + (i0j + k))) nnj 0 k) → Z (X, G, A, H0, 12) 0 0 [ob x 7 (rf ad vv), ia G (ad 0) 29 (fN s), ia G (ad 11) 29 (fN s), ia G (ad 19) 4 (fun j => ln (lq j)), ia G (ad 20) 4 (fN lz), la G (ad 21) 96 It] 101 [(0, .ref x), (1, .int (nI arj)), (2, .int (nI trj)), (3, .int (nI sh0j)), (4, .int (nI la0j)), (5, .int (nI i0j)), (6, .int (nI nnj)), (7, .int (nI 0)), (9, .int (nI e)), (10, .int (nI (11 + 3 * trj))), (11, .int (nI k))] [] := by
                    intro n101
                    induction n101 with
                    | zero =>
                      intro k e vv hn hv hv3 hv10 hv17 hv18 he
                      exfalso
                      omega
                    | succ n101 ih101 =>
                      intro k e vv hn hv hv3 hv10 hv17 hv18 he
                      refine z_iload hX 10 dX7_seen_101 rfl ?_
                      refine z_iload hX 7 dX7_seen_103 rfl ?_
                      refine zn_if_ne (tgt := 112) hX dX7_seen_105 (by decide) (by omega) (fun c105 => absurd c105 (by omega)) (fun _ => ?_)
                      refine z_iconst (v := nI 5) hX dX7_seen_108 (by decide) ?_
                      refine z_goto (tgt := 114) hX dX7_seen_109 (by decide) ?_
                      refine zn_icmp_ge (tgt := 162) hX dX7_seen_114 (by decide) (by omega) (by omega) (fun c114 => ?_) (fun c114 => ?_)
                      · skip
                        refine z_iload hX 8 dX7_seen_162 rfl ?_
                        have ek : k = 5 := by omega
                        subst ek
                        exact hR _ (vv, s) _ _ ⟨by unfold spSeen; rw [if_pos (by unfold okSeen; rw [inb_t (by omega) (by omega) (by omega), inb_t (by omega) (by omega) (by omega), inb_t (by omega) (by omega) (by omega), inb_t (by omega) (by omega) (by omega), inb_t (by omega) (by omega) (by omega), inb_t (by omega) (by omega) (by omega)]; rfl), gN_nI (show sh0j < 2147483648 by omega), if_pos c71, gN_nI (show 0 < 2147483648 by omega), if_pos rfl, gN_nI (show trj < 2147483648 by omega), gN_nI (show arj < 2147483648 by omega), gN_nI (show i0j < 2147483648 by omega), gN_nI (show nnj < 2147483648 by omega), he], hv3, hv10, hv17, hv18⟩ dX7_seen_164 rfl
                      · skip
                        refine z_aload_n hX 0 dX7_seen_117 rfl ?_
                        refine z_get (v := .ref (ad 0)) hX fX7 0 0 rfl rfl (Nat.le_of_ble_eq_true rfl) fl_X7_7 rfl dX7_seen_118 ?_
                        refine z_iload hX 9 dX7_seen_121 rfl ?_
                        refine z_iload hX 10 dX7_seen_123 rfl ?_
                        refine z_iast (ws' := [ob x 7 (rf ad vv), ia G (ad 0) 29 (fN (va_up s (11 + 3 * trj) k)), ia G (ad 11) 29 (fN s), ia G (ad 19) 4 (fun j => ln (lq j)), ia G (ad 20) 4 (fN lz), la G (ad 21) 96 It]) hX 1 (j := (11 + 3 * trj)) rfl (by omega) (by decide) (updN _ _ _) rfl dX7_seen_125 ?_
                        refine z_iload hX 8 dX7_seen_126 rfl ?_
                        refine z_aload_n hX 0 dX7_seen_128 rfl ?_
                        refine z_iload_n hX 1 dX7_seen_129 rfl ?_
                        refine z_bipush (v := nI 24) hX dX7_seen_130 (by decide) ?_
                        refine z_iload_n hX 3 dX7_seen_132 rfl ?_
                        refine z_imul (v := (nI (24 * sh0j))) hX dX7_seen_133 (pk_mul _ _) ?_
                        refine z_iload hX 5 dX7_seen_134 rfl ?_
                        refine z_iadd (v := (nI (24 * sh0j + i0j))) hX dX7_seen_136 (nI_add _ _) ?_
                        refine z_iload hX 6 dX7_seen_137 rfl ?_
                        refine z_callVi (st := [.int (nI e)]) hX (c_X7_isSo _ G x ad vv (va_up s (11 + 3 * trj) k) s It arj (24 * sh0j + i0j) nnj (fun k => It (24 * sh0j + (i0j + k))) (WF_kind h0 trj (by omega)) (by omega) (by omega) (by omega) (fun k h9 => congrArg It (by omega))) lb_X7_isSo ml_X7_221 (fun (_u : nst) => [ob x 7 (rf ad _u), ia G (ad 0) 29 (fN s), ia G (ad 11) 29 (fN s), ia G (ad 19) 4 (fun j => ln (lq j)), ia G (ad 20) 4 (fN lz), la G (ad 21) 96 It]) (wr := [ia G (ad 19) 4 (fun j => ln (lq j)), ia G (ad 20) 4 (fN lz)]) [0, 1, 2, 5] [3, 4] [2, 3, 4, 0, 1, 5] ⟨rfl, rfl, rfl, fun _ => rfl⟩ 0 rfl rfl rfl rfl ⟨Nat.le_refl _, Nat.le_refl _⟩ dX7_seen_139 rfl (fun r139 u139 hw139 => ?_)
                        obtain ⟨v2_1, rfl⟩ : ∃ z9, z9 = u139 := ⟨_, rfl⟩
                        obtain ⟨hw139, hw139x⟩ := hw139
                        try dsimp only at hw139
                        rcases Classical.em (showB (va_up s (11 + 3 * trj) k) arj (fun k => It (24 * sh0j + (i0j + k))) nnj = true) with b139 | b139
                        · obtain rfl := hw139.1 b139
                          refine zn_if_eq (tgt := 152) hX dX7_seen_142 (by decide) (by omega) (fun c142 => absurd c142 (by omega)) (fun _ => ?_)
                          refine z_iconst (v := nI 1) hX dX7_seen_145 (by decide) ?_
                          refine z_iload hX 10 dX7_seen_146 rfl ?_
                          refine z_ishl (v := (nI (2 ^ k))) hX dX7_seen_148 (shl_nI _ (by omega)) ?_
                          refine z_goto (tgt := 153) hX dX7_seen_149 (by decide) ?_
                          refine z_ior (v := (nI (e ||| (2 ^ k)))) hX dX7_seen_153 (or_nI _ _) ?_
                          refine z_istore (L' := [(9, .int (nI (e ||| (2 ^ k)))), (0, .ref x), (1, .int (nI arj)), (2, .int (nI trj)), (3, .int (nI sh0j)), (4, .int (nI la0j)), (5, .int (nI i0j)), (6, .int (nI nnj)), (7, .int (nI 0)), (10, .int (nI (11 + 3 * trj))), (11, .int (nI k))]) hX dX7_seen_154 (Nat.le_of_ble_eq_true rfl) rfl ?_
                          refine z_iinc (v := (nI (k + 1))) (L' := [(11, .int (nI (k + 1))), (9, .int (nI (e ||| (2 ^ k)))), (0, .ref x), (1, .int (nI arj)), (2, .int (nI trj)), (3, .int (nI sh0j)), (4, .int (nI la0j)), (5, .int (nI i0j)), (6, .int (nI nnj)), (7, .int (nI 0)), (10, .int (nI (11 + 3 * trj)))]) hX 10 dX7_seen_156 rfl (nI_inc _) (Nat.le_of_ble_eq_true rfl) rfl ?_
                          refine z_goto (tgt := 101) hX dX7_seen_159 (by decide) ?_
                          refine z_lsub [2, 3, 4, 5, 6, 7, 8, 9, 1, 10, 0] rfl ?_
                          exact ih101 (k + 1) (e ||| (2 ^ k)) v2_1 (by omega) (by omega) (hw139x.1.trans hv3) (hw139x.2.1.trans hv10) (hw139x.2.2.1.trans hv17) (hw139x.2.2.2.trans hv18) (by rw [seenTo, if_pos ⟨by omega, b139⟩, ← he])
                        · obtain rfl := hw139.2 b139
                          refine zn_if_eq (tgt := 152) hX dX7_seen_142 (by decide) (by omega) (fun _ => ?_) (fun c142 => absurd c142 (by omega))
                          refine z_iconst (v := nI 0) hX dX7_seen_152 (by decide) ?_
                          refine z_ior (v := (nI e)) hX dX7_seen_153 ((or_nI _ _).trans (congrArg nI (Nat.or_zero _))) ?_
                          refine z_istore (L' := [(9, .int (nI e)), (0, .ref x), (1, .int (nI arj)), (2, .int (nI trj)), (3, .int (nI sh0j)), (4, .int (nI la0j)), (5, .int (nI i0j)), (6, .int (nI nnj)), (7, .int (nI 0)), (10, .int (nI (11 + 3 * trj))), (11, .int (nI k))]) hX dX7_seen_154 (Nat.le_of_ble_eq_true rfl) rfl ?_
                          refine z_iinc (v := (nI (k + 1))) (L' := [(11, .int (nI (k + 1))), (9, .int (nI e)), (0, .ref x), (1, .int (nI arj)), (2, .int (nI trj)), (3, .int (nI sh0j)), (4, .int (nI la0j)), (5, .int (nI i0j)), (6, .int (nI nnj)), (7, .int (nI 0)), (10, .int (nI (11 + 3 * trj)))]) hX 10 dX7_seen_156 rfl (nI_inc _) (Nat.le_of_ble_eq_true rfl) rfl ?_
                          refine z_goto (tgt := 101) hX dX7_seen_159 (by decide) ?_
                          refine z_lsub [2, 3, 4, 5, 6, 7, 8, 9, 1, 10, 0] rfl ?_
                          exact ih101 (k + 1) e v2_1 (by omega) (by omega) (hw139x.1.trans hv3) (hw139x.2.1.trans hv10) (hw139x.2.2.1.trans hv17) (hw139x.2.2.2.trans hv18) (by rw [seenTo, if_neg (fun z9 => b139 z9.2), ← he])
                  refine z_lsub [4, 5, 6, 7, 8, 9, 10, 11, 2, 1, 0] rfl ?_
                  exact lp101 6 0 0 v (by omega) (by omega) rfl rfl rfl rfl rfl
                · skip
                  refine z_iconst (v := nI 0) hX dX7_seen_77 (by decide) ?_
                  refine z_istore (L' := [(9, .int (nI 0)), (8, .int r64), (0, .ref x), (1, .int (nI arj)), (2, .int (nI trj)), (3, .int (nI sh0j)), (4, .int (nI la0j)), (5, .int (nI i0j)), (6, .int (nI nnj)), (7, .int (nI 1))]) hX dX7_seen_78 (Nat.le_of_ble_eq_true rfl) rfl ?_
                  refine z_bipush (v := nI 11) hX dX7_seen_80 (by decide) ?_
                  refine z_iconst (v := nI 3) hX dX7_seen_82 (by decide) ?_
                  refine z_iload_n hX 4 dX7_seen_83 rfl ?_
                  refine z_imul (v := (nI (3 * trj))) hX dX7_seen_84 (pk_mul _ _) ?_
                  refine z_iadd (v := (nI (11 + 3 * trj))) hX dX7_seen_85 (nI_add _ _) ?_
                  refine z_iconst (v := nI 2) hX dX7_seen_86 (by decide) ?_
                  refine z_iload hX 9 dX7_seen_87 rfl ?_
                  refine z_imul (v := (nI 2)) hX dX7_seen_89 ((pk_mul _ _).trans (congrArg nI (by omega))) ?_
                  refine z_iadd (v := (nI (13 + 3 * trj))) hX dX7_seen_90 ((nI_add _ _).trans (congrArg nI (by omega))) ?_
                  refine z_istore (L' := [(10, .int (nI (13 + 3 * trj))), (9, .int (nI 0)), (8, .int r64), (0, .ref x), (1, .int (nI arj)), (2, .int (nI trj)), (3, .int (nI sh0j)), (4, .int (nI la0j)), (5, .int (nI i0j)), (6, .int (nI nnj)), (7, .int (nI 1))]) hX dX7_seen_91 (Nat.le_of_ble_eq_true rfl) rfl ?_
                  refine z_aload_n hX 3 dX7_seen_93 rfl ?_
                  refine z_callVv (st := []) hX (c_X7_asides _ G x ad v s t ) lb_X7_asides ml_X7_168 (fun (_u : Unit) => [ob x 7 (rf ad v), ia G (ad 0) 29 (fN s), ia G (ad 11) 29 (fN s), ia G (ad 19) 4 (fun j => ln (lq j)), ia G (ad 20) 4 (fN lz), la G (ad 21) 96 It]) (wr := [ia G (ad 19) 4 (fun j => ln (lq j)), ia G (ad 20) 4 (fN lz), la G (ad 21) 96 It]) [0, 1, 2] [3, 4, 5] [3, 4, 5, 0, 1, 2] ⟨rfl, rfl, rfl, fun _ => rfl⟩ 0 rfl rfl rfl rfl ⟨Nat.le_refl _, Nat.le_refl _⟩ dX7_seen_94 rfl (fun  u94 hw94 => ?_)
                  refine z_iload hX 10 dX7_seen_97 rfl ?_
                  refine z_istore (L' := [(11, .int (nI 1)), (10, .int (nI (13 + 3 * trj))), (9, .int (nI 0)), (8, .int r64), (0, .ref x), (1, .int (nI arj)), (2, .int (nI trj)), (3, .int (nI sh0j)), (4, .int (nI la0j)), (5, .int (nI i0j)), (6, .int (nI nnj)), (7, .int (nI 1))]) hX dX7_seen_99 (Nat.le_of_ble_eq_true rfl) rfl ?_
                  have lp101 : ∀ (n101 : Nat) (k : Nat) (e : Nat) (vv : nst), (10 + 1 ≤ k + n101) → (1 ≤ k ∧ k ≤ 10) → (vv 3 = v 3) → (vv 10 = v 10) → (vv 17 = v 17) → (vv 18 = v 18) → (e = seenTo s (13 + 3 * trj) arj (fun k => It (24 * sh0j + (i0j + k))) nnj 1 k) → Z (X, G, A, H0, 12) 0 0 [ob x 7 (rf ad vv), ia G (ad 0) 29 (fN s), ia G (ad 11) 29 (fN s), ia G (ad 19) 4 (fun j => ln (lq j)), ia G (ad 20) 4 (fN lz), la G (ad 21) 96 It] 101 [(0, .ref x), (1, .int (nI arj)), (2, .int (nI trj)), (3, .int (nI sh0j)), (4, .int (nI la0j)), (5, .int (nI i0j)), (6, .int (nI nnj)), (7, .int (nI 1)), (9, .int (nI e)), (10, .int (nI (13 + 3 * trj))), (11, .int (nI k))] [] := by
                    intro n101
                    induction n101 with
                    | zero =>
                      intro k e vv hn hv hv3 hv10 hv17 hv18 he
                      exfalso
                      omega
                    | succ n101 ih101 =>
                      intro k e vv hn hv hv3 hv10 hv17 hv18 he
                      refine z_iload hX 10 dX7_seen_101 rfl ?_
                      refine z_iload hX 7 dX7_seen_103 rfl ?_
                      refine zn_if_ne (tgt := 112) hX dX7_seen_105 (by decide) (by omega) (fun _ => ?_) (fun c105 => absurd c105 (by omega))
                      refine z_bipush (v := nI 10) hX dX7_seen_112 (by decide) ?_
                      refine zn_icmp_ge (tgt := 162) hX dX7_seen_114 (by decide) (by omega) (by omega) (fun c114 => ?_) (fun c114 => ?_)
                      · skip
                        refine z_iload hX 8 dX7_seen_162 rfl ?_
                        have ek : k = 10 := by omega
                        subst ek
                        exact hR _ (vv, s) _ _ ⟨by unfold spSeen; rw [if_pos (by unfold okSeen; rw [inb_t (by omega) (by omega) (by omega), inb_t (by omega) (by omega) (by omega), inb_t (by omega) (by omega) (by omega), inb_t (by omega) (by omega) (by omega), inb_t (by omega) (by omega) (by omega), inb_t (by omega) (by omega) (by omega)]; rfl), gN_nI (show sh0j < 2147483648 by omega), if_pos c71, gN_nI (show 1 < 2147483648 by omega), if_neg (by omega), gN_nI (show trj < 2147483648 by omega), gN_nI (show arj < 2147483648 by omega), gN_nI (show i0j < 2147483648 by omega), gN_nI (show nnj < 2147483648 by omega), he], hv3, hv10, hv17, hv18⟩ dX7_seen_164 rfl
                      · skip
                        refine z_aload_n hX 0 dX7_seen_117 rfl ?_
                        refine z_get (v := .ref (ad 0)) hX fX7 0 0 rfl rfl (Nat.le_of_ble_eq_true rfl) fl_X7_7 rfl dX7_seen_118 ?_
                        refine z_iload hX 9 dX7_seen_121 rfl ?_
                        refine z_iload hX 10 dX7_seen_123 rfl ?_
                        refine z_iast (ws' := [ob x 7 (rf ad vv), ia G (ad 0) 29 (fN (va_up s (13 + 3 * trj) k)), ia G (ad 11) 29 (fN s), ia G (ad 19) 4 (fun j => ln (lq j)), ia G (ad 20) 4 (fN lz), la G (ad 21) 96 It]) hX 1 (j := (13 + 3 * trj)) rfl (by omega) (by decide) (updN _ _ _) rfl dX7_seen_125 ?_
                        refine z_iload hX 8 dX7_seen_126 rfl ?_
                        refine z_aload_n hX 0 dX7_seen_128 rfl ?_
                        refine z_iload_n hX 1 dX7_seen_129 rfl ?_
                        refine z_bipush (v := nI 24) hX dX7_seen_130 (by decide) ?_
                        refine z_iload_n hX 3 dX7_seen_132 rfl ?_
                        refine z_imul (v := (nI (24 * sh0j))) hX dX7_seen_133 (pk_mul _ _) ?_
                        refine z_iload hX 5 dX7_seen_134 rfl ?_
                        refine z_iadd (v := (nI (24 * sh0j + i0j))) hX dX7_seen_136 (nI_add _ _) ?_
                        refine z_iload hX 6 dX7_seen_137 rfl ?_
                        refine z_callVi (st := [.int (nI e)]) hX (c_X7_isSo _ G x ad vv (va_up s (13 + 3 * trj) k) s It arj (24 * sh0j + i0j) nnj (fun k => It (24 * sh0j + (i0j + k))) (WF_every h0 trj (by omega)) (by omega) (by omega) (by omega) (fun k h9 => congrArg It (by omega))) lb_X7_isSo ml_X7_221 (fun (_u : nst) => [ob x 7 (rf ad _u), ia G (ad 0) 29 (fN s), ia G (ad 11) 29 (fN s), ia G (ad 19) 4 (fun j => ln (lq j)), ia G (ad 20) 4 (fN lz), la G (ad 21) 96 It]) (wr := [ia G (ad 19) 4 (fun j => ln (lq j)), ia G (ad 20) 4 (fN lz)]) [0, 1, 2, 5] [3, 4] [2, 3, 4, 0, 1, 5] ⟨rfl, rfl, rfl, fun _ => rfl⟩ 0 rfl rfl rfl rfl ⟨Nat.le_refl _, Nat.le_refl _⟩ dX7_seen_139 rfl (fun r139 u139 hw139 => ?_)
                        obtain ⟨v2_2, rfl⟩ : ∃ z9, z9 = u139 := ⟨_, rfl⟩
                        obtain ⟨hw139, hw139x⟩ := hw139
                        try dsimp only at hw139
                        rcases Classical.em (showB (va_up s (13 + 3 * trj) k) arj (fun k => It (24 * sh0j + (i0j + k))) nnj = true) with b139 | b139
                        · obtain rfl := hw139.1 b139
                          refine zn_if_eq (tgt := 152) hX dX7_seen_142 (by decide) (by omega) (fun c142 => absurd c142 (by omega)) (fun _ => ?_)
                          refine z_iconst (v := nI 1) hX dX7_seen_145 (by decide) ?_
                          refine z_iload hX 10 dX7_seen_146 rfl ?_
                          refine z_ishl (v := (nI (2 ^ k))) hX dX7_seen_148 (shl_nI _ (by omega)) ?_
                          refine z_goto (tgt := 153) hX dX7_seen_149 (by decide) ?_
                          refine z_ior (v := (nI (e ||| (2 ^ k)))) hX dX7_seen_153 (or_nI _ _) ?_
                          refine z_istore (L' := [(9, .int (nI (e ||| (2 ^ k)))), (0, .ref x), (1, .int (nI arj)), (2, .int (nI trj)), (3, .int (nI sh0j)), (4, .int (nI la0j)), (5, .int (nI i0j)), (6, .int (nI nnj)), (7, .int (nI 1)), (10, .int (nI (13 + 3 * trj))), (11, .int (nI k))]) hX dX7_seen_154 (Nat.le_of_ble_eq_true rfl) rfl ?_
                          refine z_iinc (v := (nI (k + 1))) (L' := [(11, .int (nI (k + 1))), (9, .int (nI (e ||| (2 ^ k)))), (0, .ref x), (1, .int (nI arj)), (2, .int (nI trj)), (3, .int (nI sh0j)), (4, .int (nI la0j)), (5, .int (nI i0j)), (6, .int (nI nnj)), (7, .int (nI 1)), (10, .int (nI (13 + 3 * trj)))]) hX 10 dX7_seen_156 rfl (nI_inc _) (Nat.le_of_ble_eq_true rfl) rfl ?_
                          refine z_goto (tgt := 101) hX dX7_seen_159 (by decide) ?_
                          refine z_lsub [2, 3, 4, 5, 6, 7, 8, 9, 1, 10, 0] rfl ?_
                          exact ih101 (k + 1) (e ||| (2 ^ k)) v2_2 (by omega) (by omega) (hw139x.1.trans hv3) (hw139x.2.1.trans hv10) (hw139x.2.2.1.trans hv17) (hw139x.2.2.2.trans hv18) (by rw [seenTo, if_pos ⟨by omega, b139⟩, ← he])
                        · obtain rfl := hw139.2 b139
                          refine zn_if_eq (tgt := 152) hX dX7_seen_142 (by decide) (by omega) (fun _ => ?_) (fun c142 => absurd c142 (by omega))
                          refine z_iconst (v := nI 0) hX dX7_seen_152 (by decide) ?_
                          refine z_ior (v := (nI e)) hX dX7_seen_153 ((or_nI _ _).trans (congrArg nI (Nat.or_zero _))) ?_
                          refine z_istore (L' := [(9, .int (nI e)), (0, .ref x), (1, .int (nI arj)), (2, .int (nI trj)), (3, .int (nI sh0j)), (4, .int (nI la0j)), (5, .int (nI i0j)), (6, .int (nI nnj)), (7, .int (nI 1)), (10, .int (nI (13 + 3 * trj))), (11, .int (nI k))]) hX dX7_seen_154 (Nat.le_of_ble_eq_true rfl) rfl ?_
                          refine z_iinc (v := (nI (k + 1))) (L' := [(11, .int (nI (k + 1))), (9, .int (nI e)), (0, .ref x), (1, .int (nI arj)), (2, .int (nI trj)), (3, .int (nI sh0j)), (4, .int (nI la0j)), (5, .int (nI i0j)), (6, .int (nI nnj)), (7, .int (nI 1)), (10, .int (nI (13 + 3 * trj)))]) hX 10 dX7_seen_156 rfl (nI_inc _) (Nat.le_of_ble_eq_true rfl) rfl ?_
                          refine z_goto (tgt := 101) hX dX7_seen_159 (by decide) ?_
                          refine z_lsub [2, 3, 4, 5, 6, 7, 8, 9, 1, 10, 0] rfl ?_
                          exact ih101 (k + 1) e v2_2 (by omega) (by omega) (hw139x.1.trans hv3) (hw139x.2.1.trans hv10) (hw139x.2.2.1.trans hv17) (hw139x.2.2.2.trans hv18) (by rw [seenTo, if_neg (fun z9 => b139 z9.2), ← he])
                  refine z_lsub [4, 5, 6, 7, 8, 9, 10, 11, 2, 1, 0] rfl ?_
                  exact lp101 11 1 0 v (by omega) (by omega) rfl rfl rfl rfl (by rw [seenTo, if_neg (by omega)]; rfl)
              · have c71 : ¬ r64 = 0 := by intro z9; exact c71x (by rw [z9]; decide)
                refine z_iload hX 0 dX7_seen_74 rfl ?_
                exact hR _ (v, t) _ _ ⟨by unfold spSeen; rw [if_pos (by unfold okSeen; rw [inb_t (by omega) (by omega) (by omega), inb_t (by omega) (by omega) (by omega), inb_t (by omega) (by omega) (by omega), inb_t (by omega) (by omega) (by omega), inb_t (by omega) (by omega) (by omega), inb_t (by omega) (by omega) (by omega)]; rfl), gN_nI (show sh0j < 2147483648 by omega), if_neg (by rw [← hw64]; exact c71)]; exact hw64, rfl, rfl, rfl, rfl⟩ dX7_seen_76 rfl
            · have hb_wh : inb wh 0 1 = false := hw48
              refine zn_if_ne (tgt := 56) hX dX7_seen_51 (by decide) (by omega) (fun c51 => absurd c51 (by omega)) (fun _ => ?_)
              refine z_iconst (v := (-1)) hX dX7_seen_54 (by decide) ?_
              exact hR _ (v, t) _ _ ⟨by unfold spSeen; rw [if_neg (by unfold okSeen; simp [hb_wh])], rfl, rfl, rfl, rfl⟩ dX7_seen_55 rfl
          · have hb_nn : inb nn 1 8 = false := hw37
            refine zn_if_eq (tgt := 54) hX dX7_seen_40 (by decide) (by omega) (fun _ => ?_) (fun c40 => absurd c40 (by omega))
            refine z_iconst (v := (-1)) hX dX7_seen_54 (by decide) ?_
            exact hR _ (v, t) _ _ ⟨by unfold spSeen; rw [if_neg (by unfold okSeen; simp [hb_nn])], rfl, rfl, rfl, rfl⟩ dX7_seen_55 rfl
        · have hb_la0 : inb la0 0 3 = false := hw24
          refine zn_if_eq (tgt := 54) hX dX7_seen_27 (by decide) (by omega) (fun _ => ?_) (fun c27 => absurd c27 (by omega))
          refine z_iconst (v := (-1)) hX dX7_seen_54 (by decide) ?_
          exact hR _ (v, t) _ _ ⟨by unfold spSeen; rw [if_neg (by unfold okSeen; simp [hb_la0])], rfl, rfl, rfl, rfl⟩ dX7_seen_55 rfl
      · have hb_sh0 : inb sh0 0 3 = false := hw16
        refine zn_if_eq (tgt := 54) hX dX7_seen_19 (by decide) (by omega) (fun _ => ?_) (fun c19 => absurd c19 (by omega))
        refine z_iconst (v := (-1)) hX dX7_seen_54 (by decide) ?_
        exact hR _ (v, t) _ _ ⟨by unfold spSeen; rw [if_neg (by unfold okSeen; simp [hb_sh0])], rfl, rfl, rfl, rfl⟩ dX7_seen_55 rfl
    · have hb_tr : inb tr 0 ((s 0 : Nat) - 1 : Int) = false := hw9
      refine zn_if_eq (tgt := 54) hX dX7_seen_12 (by decide) (by omega) (fun _ => ?_) (fun c12 => absurd c12 (by omega))
      refine z_iconst (v := (-1)) hX dX7_seen_54 (by decide) ?_
      exact hR _ (v, t) _ _ ⟨by unfold spSeen; rw [if_neg (by unfold okSeen; simp [hb_tr])], rfl, rfl, rfl, rfl⟩ dX7_seen_55 rfl
  · have hb_ar : inb ar 0 3 = false := hw1
    refine zn_if_eq (tgt := 54) hX dX7_seen_4 (by decide) (by omega) (fun _ => ?_) (fun c4 => absurd c4 (by omega))
    refine z_iconst (v := (-1)) hX dX7_seen_54 (by decide) ?_
    exact hR _ (v, t) _ _ ⟨by unfold spSeen; rw [if_neg (by unfold okSeen; simp [hb_ar])], rfl, rfl, rfl, rfl⟩ dX7_seen_55 rfl
set_option maxRecDepth 100000 in
set_option maxHeartbeats 4000000 in
theorem c_X7_film (l : Launch) (G : zG) (x : Nat) (ad : Nat → Nat) (v : Nat → Nat) (s : nst) (t : nst) (lq : nst) (lz : nst) (It : Nat → Int64) (ar : Int32) (nn : Int32) (sh0 : Int32) (la0 : Int32) (i0 : Int32) (h0 : WF 9999 0 s) (h1 : ∀ j, j < 4 → lq j ≤ 4) (h2 : ∀ j, j < 4 → lz j ≤ 24) : zMi l G yX7_film cX7_film 8 .int 4 0 0 88 [.ref x, .int ar, .int nn, .int sh0, .int la0, .int i0] [ob x 7 (rf ad v), ia G (ad 0) 29 (fN s), ia G (ad 11) 29 (fN t), ia G (ad 19) 4 (fun j => ln (lq j)), ia G (ad 20) 4 (fN lz), la G (ad 21) 96 It] (fun (r : Int32) (_u : nst × nst) => r = spFilm (lq (gN sh0)) (lz (gN sh0)) ar nn sh0 la0 i0 ∧ _u.1 3 = v 3 ∧ _u.1 10 = v 10 ∧ _u.1 17 = v 17 ∧ _u.1 18 = v 18) (fun (_u : nst × nst) => [ob x 7 (rf ad _u.1), ia G (ad 0) 29 (fN s), ia G (ad 11) 29 (fN _u.2), ia G (ad 19) 4 (fun j => ln (lq j)), ia G (ad 20) 4 (fN lz), la G (ad 21) 96 (cond (okFilm ar nn sh0 la0 && decide (faultI (lq (gN sh0)) (lz (gN sh0)) la0 i0 nn = 0)) (filmI It s (gN ar) (24 * gN sh0 + gN i0) (gN nn)) (It))]) := by
  refine zMi.of (by decide) rfl (fun X A H0 hX hXl hR => ?_)
  show Z (X, G, A, H0, 8) 0 0 [ob x 7 (rf ad v), ia G (ad 0) 29 (fN s), ia G (ad 11) 29 (fN t), ia G (ad 19) 4 (fun j => ln (lq j)), ia G (ad 20) 4 (fN lz), la G (ad 21) 96 It] 0 [(0, .ref x), (1, .int ar), (2, .int nn), (3, .int sh0), (4, .int la0), (5, .int i0)] []
  subst hXl
  have z0 := h0.1
  have z1 := h0.2.1
  have z2 := h0.2.2.1
  have z3 := h0.2.2.2.1
  refine z_iload_n hX 1 dX7_film_0 rfl ?_
  refine z_callSi (st := []) hX (c_X7_isArch _ G ar ) lb_X7_isArch ml_X7_102 (fun (_u : Unit) => [ob x 7 (rf ad v), ia G (ad 0) 29 (fN s), ia G (ad 11) 29 (fN t), ia G (ad 19) 4 (fun j => ln (lq j)), ia G (ad 20) 4 (fN lz), la G (ad 21) 96 It]) (wr := [ob x 7 (rf ad v), ia G (ad 0) 29 (fN s), ia G (ad 11) 29 (fN t), ia G (ad 19) 4 (fun j => ln (lq j)), ia G (ad 20) 4 (fN lz), la G (ad 21) 96 It]) [] [0, 1, 2, 3, 4, 5] [0, 1, 2, 3, 4, 5] ⟨rfl, rfl, rfl, fun _ => rfl⟩ rfl rfl ⟨Nat.le_refl _, Nat.le_refl _⟩ dX7_film_1 rfl (fun r1 u1 hw1 => ?_)
  try dsimp only at hw1
  rcases hw1 with ⟨arj, harl, harh, rfl, rfl⟩ | ⟨hw1, rfl⟩
  · skip
    refine zn_if_eq (tgt := 34) hX dX7_film_4 (by decide) (by omega) (fun c4 => absurd c4 (by omega)) (fun _ => ?_)
    refine z_iload_n hX 2 dX7_film_7 rfl ?_
    refine z_i2l (v := (nn.toInt64)) hX dX7_film_8 rfl ?_
    refine z_lconst (v := lN 1) hX dX7_film_9 (by decide) ?_
    refine z_ldc2 (v := lN 24) hX kl_X7_225 dX7_film_10 ?_
    refine z_callSi (st := []) hX (c_X7_inX _ G nn 1 24 (by omega) (by omega)) lb_X7_in ml_X7_44 (fun (_u : Unit) => [ob x 7 (rf ad v), ia G (ad 0) 29 (fN s), ia G (ad 11) 29 (fN t), ia G (ad 19) 4 (fun j => ln (lq j)), ia G (ad 20) 4 (fN lz), la G (ad 21) 96 It]) (wr := [ob x 7 (rf ad v), ia G (ad 0) 29 (fN s), ia G (ad 11) 29 (fN t), ia G (ad 19) 4 (fun j => ln (lq j)), ia G (ad 20) 4 (fN lz), la G (ad 21) 96 It]) [] [0, 1, 2, 3, 4, 5] [0, 1, 2, 3, 4, 5] ⟨rfl, rfl, rfl, fun _ => rfl⟩ rfl rfl ⟨Nat.le_refl _, Nat.le_refl _⟩ dX7_film_13 rfl (fun r13 u13 hw13 => ?_)
    try dsimp only at hw13
    rcases hw13 with ⟨nnj, hnnl, hnnh, rfl, rfl⟩ | ⟨hw13, rfl⟩
    · skip
      refine zn_if_eq (tgt := 34) hX dX7_film_16 (by decide) (by omega) (fun c16 => absurd c16 (by omega)) (fun _ => ?_)
      refine z_iload_n hX 3 dX7_film_19 rfl ?_
      refine z_callSi (st := []) hX (c_X7_isSheet _ G sh0 ) lb_X7_isSheet ml_X7_209 (fun (_u : Unit) => [ob x 7 (rf ad v), ia G (ad 0) 29 (fN s), ia G (ad 11) 29 (fN t), ia G (ad 19) 4 (fun j => ln (lq j)), ia G (ad 20) 4 (fN lz), la G (ad 21) 96 It]) (wr := [ob x 7 (rf ad v), ia G (ad 0) 29 (fN s), ia G (ad 11) 29 (fN t), ia G (ad 19) 4 (fun j => ln (lq j)), ia G (ad 20) 4 (fN lz), la G (ad 21) 96 It]) [] [0, 1, 2, 3, 4, 5] [0, 1, 2, 3, 4, 5] ⟨rfl, rfl, rfl, fun _ => rfl⟩ rfl rfl ⟨Nat.le_refl _, Nat.le_refl _⟩ dX7_film_20 rfl (fun r20 u20 hw20 => ?_)
      try dsimp only at hw20
      rcases hw20 with ⟨sh0j, hsh0l, hsh0h, rfl, rfl⟩ | ⟨hw20, rfl⟩
      · skip
        refine zn_if_eq (tgt := 34) hX dX7_film_23 (by decide) (by omega) (fun c23 => absurd c23 (by omega)) (fun _ => ?_)
        refine z_iload hX 4 dX7_film_26 rfl ?_
        refine z_callSi (st := []) hX (c_X7_isLane _ G la0 ) lb_X7_isLane ml_X7_212 (fun (_u : Unit) => [ob x 7 (rf ad v), ia G (ad 0) 29 (fN s), ia G (ad 11) 29 (fN t), ia G (ad 19) 4 (fun j => ln (lq j)), ia G (ad 20) 4 (fN lz), la G (ad 21) 96 It]) (wr := [ob x 7 (rf ad v), ia G (ad 0) 29 (fN s), ia G (ad 11) 29 (fN t), ia G (ad 19) 4 (fun j => ln (lq j)), ia G (ad 20) 4 (fN lz), la G (ad 21) 96 It]) [] [0, 1, 2, 3, 4, 5] [0, 1, 2, 3, 4, 5] ⟨rfl, rfl, rfl, fun _ => rfl⟩ rfl rfl ⟨Nat.le_refl _, Nat.le_refl _⟩ dX7_film_28 rfl (fun r28 u28 hw28 => ?_)
        try dsimp only at hw28
        rcases hw28 with ⟨la0j, hla0l, hla0h, rfl, rfl⟩ | ⟨hw28, rfl⟩
        · skip
          refine zn_if_ne (tgt := 36) hX dX7_film_31 (by decide) (by omega) (fun _ => ?_) (fun c31 => absurd c31 (by omega))
          refine z_aload_n hX 0 dX7_film_36 rfl ?_
          refine z_iload_n hX 3 dX7_film_37 rfl ?_
          refine z_iload hX 4 dX7_film_38 rfl ?_
          refine z_iload hX 5 dX7_film_40 rfl ?_
          refine z_iload_n hX 2 dX7_film_42 rfl ?_
          refine z_callVi (st := []) hX (c_X7_why _ G x ad v s lq lz sh0j (nI la0j) i0 (nI nnj) h1 h2 (by omega)) lb_X7_why ml_X7_217 (fun (_u : Unit) => [ob x 7 (rf ad v), ia G (ad 0) 29 (fN s), ia G (ad 11) 29 (fN t), ia G (ad 19) 4 (fun j => ln (lq j)), ia G (ad 20) 4 (fN lz), la G (ad 21) 96 It]) (wr := [ia G (ad 11) 29 (fN t), la G (ad 21) 96 It]) [0, 1, 3, 4] [2, 5] [2, 3, 0, 4, 5, 1] ⟨rfl, rfl, rfl, fun _ => rfl⟩ 0 rfl rfl rfl rfl ⟨Nat.le_refl _, Nat.le_refl _⟩ dX7_film_43 rfl (fun r43 u43 hw43 => ?_)
          refine z_istore (L' := [(6, .int r43), (0, .ref x), (1, .int (nI arj)), (2, .int (nI nnj)), (3, .int (nI sh0j)), (4, .int (nI la0j)), (5, .int i0)]) hX dX7_film_46 (Nat.le_of_ble_eq_true rfl) rfl ?_
          refine z_iload hX 0 dX7_film_48 rfl ?_
          refine z_if_ge (tgt := 56) hX dX7_film_50 (by decide) (fun c50x => ?_) (fun c50x => ?_)
          · have c50 : r43 = 0 := by rw [hw43] at c50x ⊢; exact faultI_ge c50x
            rw [hw43] at c50
            obtain ⟨f1, f2, f3⟩ := faultI_0 c50
            have z24 := h2 sh0j (by omega)
            obtain ⟨i0j, f4, rfl⟩ := fits_ex (by omega) f3
            refine z_aload_n hX 1 dX7_film_56 rfl ?_
            refine z_callVv (st := []) hX (c_X7_asides _ G x ad v s t ) lb_X7_asides ml_X7_168 (fun (_u : Unit) => [ob x 7 (rf ad v), ia G (ad 0) 29 (fN s), ia G (ad 11) 29 (fN s), ia G (ad 19) 4 (fun j => ln (lq j)), ia G (ad 20) 4 (fN lz), la G (ad 21) 96 It]) (wr := [ia G (ad 19) 4 (fun j => ln (lq j)), ia G (ad 20) 4 (fN lz), la G (ad 21) 96 It]) [0, 1, 2] [3, 4, 5] [3, 4, 5, 0, 1, 2] ⟨rfl, rfl, rfl, fun _ => rfl⟩ 0 rfl rfl rfl rfl ⟨Nat.le_refl _, Nat.le_refl _⟩ dX7_film_57 rfl (fun  u57 hw57 => ?_)
            refine z_eq (ws' := [ob x 7 (rf ad v), ia G (ad 0) 29 (fN s), ia G (ad 11) 29 (fN s), ia G (ad 19) 4 (fun j => ln (lq j)), ia G (ad 20) 4 (fN lz), la G (ad 21) 96 (filmI It s arj (24 * sh0j + i0j) 0)]) (by rw [filmI_0]) ?_
            refine z_iconst (v := nI 0) hX dX7_film_60 (by decide) ?_
            refine z_istore (L' := [(7, .int (nI 0)), (6, .int r43), (0, .ref x), (1, .int (nI arj)), (2, .int (nI nnj)), (3, .int (nI sh0j)), (4, .int (nI la0j)), (5, .int (nI i0j))]) hX dX7_film_61 (Nat.le_of_ble_eq_true rfl) rfl ?_
            have lp63 : ∀ (n63 : Nat) (k : Nat) (f : Nat), (nnj + 1 ≤ k + n63) → (k ≤ nnj) → Z (X, G, A, H0, 8) 0 0 [ob x 7 (rf ad (va_up v 1 f)), ia G (ad 0) 29 (fN (goN k s)), ia G (ad 11) 29 (fN s), ia G (ad 19) 4 (fun j => ln (lq j)), ia G (ad 20) 4 (fN lz), la G (ad 21) 96 (filmI It s arj (24 * sh0j + i0j) k)] 63 [(0, .ref x), (1, .int (nI arj)), (2, .int (nI nnj)), (3, .int (nI sh0j)), (4, .int (nI la0j)), (5, .int (nI i0j)), (7, .int (nI k))] [] := by
              intro n63
              induction n63 with
              | zero =>
                intro k f hn hk
                exfalso
                omega
              | succ n63 ih63 =>
                intro k f hn hk
                have wk := goN_WF h0 k
                have w4 := (goN_WF h0 (k + 1)).2.2.2.2.2.1 arj (by omega)
                refine z_iload hX 6 dX7_film_63 rfl ?_
                refine z_iload_n hX 2 dX7_film_65 rfl ?_
                refine zn_icmp_ge (tgt := 104) hX dX7_film_66 (by decide) (by omega) (by omega) (fun c66 => ?_) (fun c66 => ?_)
                · skip
                  refine z_aload_n hX 0 dX7_film_104 rfl ?_
                  refine z_callVv (st := []) hX (c_X7_backs _ G x ad (va_up v 1 f) (goN k s) s ) lb_X7_backs ml_X7_174 (fun (_u : Unit) => [ob x 7 (rf ad (va_up v 1 f)), ia G (ad 0) 29 (fN s), ia G (ad 11) 29 (fN s), ia G (ad 19) 4 (fun j => ln (lq j)), ia G (ad 20) 4 (fN lz), la G (ad 21) 96 (filmI It s arj (24 * sh0j + i0j) k)]) (wr := [ia G (ad 19) 4 (fun j => ln (lq j)), ia G (ad 20) 4 (fN lz), la G (ad 21) 96 (filmI It s arj (24 * sh0j + i0j) k)]) [0, 1, 2] [3, 4, 5] [3, 4, 5, 0, 1, 2] ⟨rfl, rfl, rfl, fun _ => rfl⟩ 0 rfl rfl rfl rfl ⟨Nat.le_refl _, Nat.le_refl _⟩ dX7_film_105 rfl (fun  u105 hw105 => ?_)
                  refine z_iload_n hX 2 dX7_film_108 rfl ?_
                  have ek : k = nnj := by omega
                  subst ek
                  have e0 : okFilm (nI arj) (nI k) (nI sh0j) (nI la0j) = true := by unfold okFilm; rw [inb_t (by omega) (by omega) (by omega), inb_t (by omega) (by omega) (by omega), inb_t (by omega) (by omega) (by omega), inb_t (by omega) (by omega) (by omega)]; rfl
                  rw [e0, gN_nI (show sh0j < 2147483648 by omega), decide_eq_true c50, Bool.and_true, gN_nI (show arj < 2147483648 by omega), gN_nI (show i0j < 2147483648 by omega), gN_nI (show k < 2147483648 by omega)] at hR
                  exact hR _ (va_up v 1 f, s) _ _ ⟨by unfold spFilm; rw [if_pos e0, if_pos c50], rfl, rfl, rfl, rfl⟩ dX7_film_109 rfl
                · skip
                  refine z_aload_n hX 0 dX7_film_69 rfl ?_
                  refine z_callVv (st := []) hX (c_X7_goesBy _ G x ad (va_up v 1 f) (goN k s) (9999 + k) wk (by omega)) lb_X7_goesBy ml_X7_83 (fun (_u : Unit) => [ob x 7 (rf ad (va_up (va_up v 1 f) 1 (goFall (goN k s)))), ia G (ad 0) 29 (fN (goBy (goN k s))), ia G (ad 11) 29 (fN s), ia G (ad 19) 4 (fun j => ln (lq j)), ia G (ad 20) 4 (fN lz), la G (ad 21) 96 (filmI It s arj (24 * sh0j + i0j) k)]) (wr := [ia G (ad 11) 29 (fN s), ia G (ad 19) 4 (fun j => ln (lq j)), ia G (ad 20) 4 (fN lz), la G (ad 21) 96 (filmI It s arj (24 * sh0j + i0j) k)]) [0, 1] [2, 3, 4, 5] [4, 5, 0, 1, 2, 3] ⟨rfl, rfl, rfl, fun _ => rfl⟩ 0 rfl rfl rfl rfl ⟨Nat.le_refl _, Nat.le_refl _⟩ dX7_film_70 rfl (fun  u70 hw70 => ?_)
                  refine z_eq (ws' := [ob x 7 (rf ad (va_up (va_up v 1 f) 1 (goFall (goN k s)))), ia G (ad 0) 29 (fN (goN (k + 1) s)), ia G (ad 11) 29 (fN s), ia G (ad 19) 4 (fun j => ln (lq j)), ia G (ad 20) 4 (fN lz), la G (ad 21) 96 (filmI It s arj (24 * sh0j + i0j) k)]) rfl ?_
                  refine z_aload_n hX 0 dX7_film_73 rfl ?_
                  refine z_get (v := .ref (ad 21)) hX fX7 0 21 rfl rfl (Nat.le_of_ble_eq_true rfl) fl_X7_37 rfl dX7_film_74 ?_
                  refine z_bipush (v := nI 24) hX dX7_film_77 (by decide) ?_
                  refine z_iload_n hX 3 dX7_film_79 rfl ?_
                  refine z_imul (v := (nI (24 * sh0j))) hX dX7_film_80 (pk_mul _ _) ?_
                  refine z_iload hX 5 dX7_film_81 rfl ?_
                  refine z_iadd (v := (nI (24 * sh0j + i0j))) hX dX7_film_83 (nI_add _ _) ?_
                  refine z_iload hX 6 dX7_film_84 rfl ?_
                  refine z_iadd (v := (nI (24 * sh0j + i0j + k))) hX dX7_film_86 (nI_add _ _) ?_
                  refine z_aload_n hX 0 dX7_film_87 rfl ?_
                  refine z_get (v := .ref (ad 0)) hX fX7 0 0 rfl rfl (Nat.le_of_ble_eq_true rfl) fl_X7_7 rfl dX7_film_88 ?_
                  refine z_bipush (v := nI 7) hX dX7_film_91 (by decide) ?_
                  refine z_iload_n hX 1 dX7_film_93 rfl ?_
                  refine z_iadd (v := (nI (7 + arj))) hX dX7_film_94 (nI_add _ _) ?_
                  refine z_iald (v := (nI ((goN (k + 1) s) (7 + arj)))) hX 1 (j := (7 + arj)) rfl (by omega) (by decide) rfl dX7_film_95 ?_
                  refine z_i2l (v := ((nI ((goN (k + 1) s) (7 + arj))).toInt64)) hX dX7_film_96 rfl ?_
                  refine z_last (ws' := [ob x 7 (rf ad (va_up (va_up v 1 f) 1 (goFall (goN k s)))), ia G (ad 0) 29 (fN (goN (k + 1) s)), ia G (ad 11) 29 (fN s), ia G (ad 19) 4 (fun j => ln (lq j)), ia G (ad 20) 4 (fN lz), la G (ad 21) 96 (filmI It s arj (24 * sh0j + i0j) (k + 1))]) hX 5 (j := (24 * sh0j + i0j + k)) rfl (by omega) (by decide) ((congrArg (vp_updL _ _) (nI_l (show goN (k + 1) s (7 + arj) < 2 ^ 31 by omega))).trans (filmI_up It s arj (24 * sh0j + i0j) k)) rfl dX7_film_97 ?_
                  refine z_iinc (v := (nI (k + 1))) (L' := [(7, .int (nI (k + 1))), (0, .ref x), (1, .int (nI arj)), (2, .int (nI nnj)), (3, .int (nI sh0j)), (4, .int (nI la0j)), (5, .int (nI i0j))]) hX 6 dX7_film_98 rfl (nI_inc _) (Nat.le_of_ble_eq_true rfl) rfl ?_
                  refine z_goto (tgt := 63) hX dX7_film_101 (by decide) ?_
                  refine z_lsub [1, 2, 3, 4, 5, 6, 0] rfl ?_
                  exact ih63 (k + 1) (goFall (goN k s)) (by omega) (by omega)
            refine z_lsub [2, 3, 4, 5, 6, 7, 0] rfl ?_
            exact lp63 (nnj + 1) 0 (v 1) (by omega) (by omega)
          · have c50 : ¬ r43 = 0 := by intro z9; exact c50x (by rw [z9]; decide)
            refine z_iload hX 0 dX7_film_53 rfl ?_
            have e0 : okFilm (nI arj) (nI nnj) (nI sh0j) (nI la0j) = true := by unfold okFilm; rw [inb_t (by omega) (by omega) (by omega), inb_t (by omega) (by omega) (by omega), inb_t (by omega) (by omega) (by omega), inb_t (by omega) (by omega) (by omega)]; rfl
            have e1 : ¬ faultI (lq sh0j) (lz sh0j) (nI la0j) i0 (nI nnj) = 0 := by rw [← hw43]; exact c50
            rw [e0, gN_nI (show sh0j < 2147483648 by omega), decide_eq_false e1, Bool.and_false] at hR
            exact hR _ (v, t) _ _ ⟨by unfold spFilm; rw [if_pos e0, if_neg e1]; exact hw43, rfl, rfl, rfl, rfl⟩ dX7_film_55 rfl
        · have hb_la0 : inb la0 0 3 = false := hw28
          refine zn_if_ne (tgt := 36) hX dX7_film_31 (by decide) (by omega) (fun c31 => absurd c31 (by omega)) (fun _ => ?_)
          refine z_iconst (v := (-1)) hX dX7_film_34 (by decide) ?_
          have e0 : okFilm (nI arj) (nI nnj) (nI sh0j) la0 = false := by unfold okFilm; simp [hb_la0]
          rw [e0, Bool.false_and] at hR
          exact hR _ (v, t) _ _ ⟨by unfold spFilm; rw [if_neg (by rw [e0]; decide)], rfl, rfl, rfl, rfl⟩ dX7_film_35 rfl
      · have hb_sh0 : inb sh0 0 3 = false := hw20
        refine zn_if_eq (tgt := 34) hX dX7_film_23 (by decide) (by omega) (fun _ => ?_) (fun c23 => absurd c23 (by omega))
        refine z_iconst (v := (-1)) hX dX7_film_34 (by decide) ?_
        have e0 : okFilm (nI arj) (nI nnj) sh0 la0 = false := by unfold okFilm; simp [hb_sh0]
        rw [e0, Bool.false_and] at hR
        exact hR _ (v, t) _ _ ⟨by unfold spFilm; rw [if_neg (by rw [e0]; decide)], rfl, rfl, rfl, rfl⟩ dX7_film_35 rfl
    · have hb_nn : inb nn 1 24 = false := hw13
      refine zn_if_eq (tgt := 34) hX dX7_film_16 (by decide) (by omega) (fun _ => ?_) (fun c16 => absurd c16 (by omega))
      refine z_iconst (v := (-1)) hX dX7_film_34 (by decide) ?_
      have e0 : okFilm (nI arj) nn sh0 la0 = false := by unfold okFilm; simp [hb_nn]
      rw [e0, Bool.false_and] at hR
      exact hR _ (v, t) _ _ ⟨by unfold spFilm; rw [if_neg (by rw [e0]; decide)], rfl, rfl, rfl, rfl⟩ dX7_film_35 rfl
  · have hb_ar : inb ar 0 3 = false := hw1
    refine zn_if_eq (tgt := 34) hX dX7_film_4 (by decide) (by omega) (fun _ => ?_) (fun c4 => absurd c4 (by omega))
    refine z_iconst (v := (-1)) hX dX7_film_34 (by decide) ?_
    have e0 : okFilm ar nn sh0 la0 = false := by unfold okFilm; simp [hb_ar]
    rw [e0, Bool.false_and] at hR
    exact hR _ (v, t) _ _ ⟨by unfold spFilm; rw [if_neg (by rw [e0]; decide)], rfl, rfl, rfl, rfl⟩ dX7_film_35 rfl
set_option maxRecDepth 100000 in
set_option maxHeartbeats 4000000 in
theorem c_X7_copy (l : Launch) (G : zG) (x : Nat) (ad : Nat → Nat) (v : Nat → Nat) (s : nst) (lq : nst) (lz : nst) (It : Nat → Int64) (Mv : Nat → Int64) (f0 : Int32) (i0 : Int32) (t0 : Int32) (j0 : Int32) (nn : Int32) (h0 : ∀ j, j < 4 → lq j ≤ 4) (h1 : ∀ j, j < 4 → lz j ≤ 24) : zMi l G yX7_copy cX7_copy 8 .int 2 0 0 45 [.ref x, .int f0, .int i0, .int t0, .int j0, .int nn] [ob x 7 (rf ad v), ia G (ad 0) 29 (fN s), ia G (ad 19) 4 (fun j => ln (lq j)), ia G (ad 20) 4 (fN lz), la G (ad 21) 96 It, la G (ad 22) 24 Mv] (fun (r : Int32) (_u : (Nat → Int64)) => r = spCopy (lq (gN f0)) (lz (gN f0)) (lq (gN t0)) (lz (gN t0)) f0 i0 t0 j0 nn) (fun (_u : (Nat → Int64)) => [ob x 7 (rf ad v), ia G (ad 0) 29 (fN s), ia G (ad 19) 4 (fun j => ln (lq j)), ia G (ad 20) 4 (fN lz), la G (ad 21) 96 (cond (decide (spCopy (lq (gN f0)) (lz (gN f0)) (lq (gN t0)) (lz (gN t0)) f0 i0 t0 j0 nn = nn) && decide (¬ nn < 0)) (va_cpy It It (24 * gN f0 + gN i0) (24 * gN t0 + gN j0) (gN nn)) (It)), la G (ad 22) 24 _u]) := by
  refine zMi.of (by decide) rfl (fun X A H0 hX hXl hR => ?_)
  show Z (X, G, A, H0, 8) 0 0 [ob x 7 (rf ad v), ia G (ad 0) 29 (fN s), ia G (ad 19) 4 (fun j => ln (lq j)), ia G (ad 20) 4 (fN lz), la G (ad 21) 96 It, la G (ad 22) 24 Mv] 0 [(0, .ref x), (1, .int f0), (2, .int i0), (3, .int t0), (4, .int j0), (5, .int nn)] []
  subst hXl
  refine z_iload_n hX 1 dX7_copy_0 rfl ?_
  refine z_callSi (st := []) hX (c_X7_isSheet _ G f0 ) lb_X7_isSheet ml_X7_209 (fun (_u : Unit) => [ob x 7 (rf ad v), ia G (ad 0) 29 (fN s), ia G (ad 19) 4 (fun j => ln (lq j)), ia G (ad 20) 4 (fN lz), la G (ad 21) 96 It, la G (ad 22) 24 Mv]) (wr := [ob x 7 (rf ad v), ia G (ad 0) 29 (fN s), ia G (ad 19) 4 (fun j => ln (lq j)), ia G (ad 20) 4 (fN lz), la G (ad 21) 96 It, la G (ad 22) 24 Mv]) [] [0, 1, 2, 3, 4, 5] [0, 1, 2, 3, 4, 5] ⟨rfl, rfl, rfl, fun _ => rfl⟩ rfl rfl ⟨Nat.le_refl _, Nat.le_refl _⟩ dX7_copy_1 rfl (fun r1 u1 hw1 => ?_)
  try dsimp only at hw1
  rcases hw1 with ⟨f0j, hf0l, hf0h, rfl, rfl⟩ | ⟨hw1, rfl⟩
  · skip
    refine zn_if_eq (tgt := 14) hX dX7_copy_4 (by decide) (by omega) (fun c4 => absurd c4 (by omega)) (fun _ => ?_)
    refine z_iload_n hX 3 dX7_copy_7 rfl ?_
    refine z_callSi (st := []) hX (c_X7_isSheet _ G t0 ) lb_X7_isSheet ml_X7_209 (fun (_u : Unit) => [ob x 7 (rf ad v), ia G (ad 0) 29 (fN s), ia G (ad 19) 4 (fun j => ln (lq j)), ia G (ad 20) 4 (fN lz), la G (ad 21) 96 It, la G (ad 22) 24 Mv]) (wr := [ob x 7 (rf ad v), ia G (ad 0) 29 (fN s), ia G (ad 19) 4 (fun j => ln (lq j)), ia G (ad 20) 4 (fN lz), la G (ad 21) 96 It, la G (ad 22) 24 Mv]) [] [0, 1, 2, 3, 4, 5] [0, 1, 2, 3, 4, 5] ⟨rfl, rfl, rfl, fun _ => rfl⟩ rfl rfl ⟨Nat.le_refl _, Nat.le_refl _⟩ dX7_copy_8 rfl (fun r8 u8 hw8 => ?_)
    try dsimp only at hw8
    rcases hw8 with ⟨t0j, ht0l, ht0h, rfl, rfl⟩ | ⟨hw8, rfl⟩
    · skip
      refine zn_if_ne (tgt := 16) hX dX7_copy_11 (by decide) (by omega) (fun _ => ?_) (fun c11 => absurd c11 (by omega))
      refine z_aload_n hX 0 dX7_copy_16 rfl ?_
      refine z_get (v := .ref (ad 19)) hX fX7 0 19 rfl rfl (Nat.le_of_ble_eq_true rfl) fl_X7_31 rfl dX7_copy_17 ?_
      refine z_iload_n hX 1 dX7_copy_20 rfl ?_
      refine z_iald (v := (ln (lq f0j))) hX 2 (j := f0j) rfl (by omega) (by decide) rfl dX7_copy_21 ?_
      refine z_if_lt (tgt := 34) hX dX7_copy_22 (by decide) (fun c22 => ?_) (fun c22 => ?_)
      · rw [ln_lt (h0 _ (by omega))] at c22
        refine z_bipush (v := (-11)) hX dX7_copy_34 (by decide) ?_
        have e0 : okPl (nI f0j) (nI t0j) = true := by unfold okPl; rw [inb_t (by omega) (by omega) (by omega), inb_t (by omega) (by omega) (by omega)]; rfl
        have e3 : spCopy (lq f0j) (lz f0j) (lq t0j) (lz t0j) (nI f0j) i0 (nI t0j) j0 nn = -11 := by unfold spCopy; rw [if_pos e0, if_pos (by first | exact Or.inl c22 | exact Or.inr c31)]
        rw [gN_nI (show f0j < 2147483648 by omega), gN_nI (show t0j < 2147483648 by omega), e3, neg_no nn (by decide)] at hR
        exact hR _ Mv _ _ rfl dX7_copy_36 rfl
      · rw [ln_lt (h0 _ (by omega))] at c22
        refine z_aload_n hX 0 dX7_copy_25 rfl ?_
        refine z_get (v := .ref (ad 19)) hX fX7 0 19 rfl rfl (Nat.le_of_ble_eq_true rfl) fl_X7_31 rfl dX7_copy_26 ?_
        refine z_iload_n hX 3 dX7_copy_29 rfl ?_
        refine z_iald (v := (ln (lq t0j))) hX 2 (j := t0j) rfl (by omega) (by decide) rfl dX7_copy_30 ?_
        refine z_if_ge (tgt := 37) hX dX7_copy_31 (by decide) (fun c31 => ?_) (fun c31 => ?_)
        · rw [← Int32.not_lt, ln_lt (h0 _ (by omega))] at c31
          refine z_aload_n hX 0 dX7_copy_37 rfl ?_
          refine z_iload_n hX 3 dX7_copy_38 rfl ?_
          refine z_aload_n hX 0 dX7_copy_39 rfl ?_
          refine z_get (v := .ref (ad 19)) hX fX7 0 19 rfl rfl (Nat.le_of_ble_eq_true rfl) fl_X7_31 rfl dX7_copy_40 ?_
          refine z_iload_n hX 1 dX7_copy_43 rfl ?_
          refine z_iald (v := (ln (lq f0j))) hX 2 (j := f0j) rfl (by omega) (by decide) rfl dX7_copy_44 ?_
          refine z_iload hX 4 dX7_copy_45 rfl ?_
          refine z_iload hX 5 dX7_copy_47 rfl ?_
          refine z_callVi (st := []) hX (c_X7_why _ G x ad v s lq lz t0j (ln (lq f0j)) j0 nn h0 h1 (by omega)) lb_X7_why ml_X7_217 (fun (_u : Unit) => [ob x 7 (rf ad v), ia G (ad 0) 29 (fN s), ia G (ad 19) 4 (fun j => ln (lq j)), ia G (ad 20) 4 (fN lz), la G (ad 21) 96 It, la G (ad 22) 24 Mv]) (wr := [la G (ad 21) 96 It, la G (ad 22) 24 Mv]) [0, 1, 2, 3] [4, 5] [2, 3, 4, 5, 0, 1] ⟨rfl, rfl, rfl, fun _ => rfl⟩ 0 rfl rfl rfl rfl ⟨Nat.le_refl _, Nat.le_refl _⟩ dX7_copy_49 rfl (fun r49 u49 hw49 => ?_)
          refine z_istore (L' := [(6, .int r49), (0, .ref x), (1, .int (nI f0j)), (2, .int i0), (3, .int (nI t0j)), (4, .int j0), (5, .int nn)]) hX dX7_copy_52 (Nat.le_of_ble_eq_true rfl) rfl ?_
          refine z_iload hX 0 dX7_copy_54 rfl ?_
          refine z_if_ne (tgt := 76) hX dX7_copy_56 (by decide) (fun c56 => ?_) (fun c56 => ?_)
          · skip
            refine z_iload hX 0 dX7_copy_76 rfl ?_
            refine z_istore (L' := [(6, .int r49), (0, .ref x), (1, .int (nI f0j)), (2, .int i0), (3, .int (nI t0j)), (4, .int j0), (5, .int nn)]) hX dX7_copy_78 (Nat.le_of_ble_eq_true rfl) rfl ?_
            refine z_iload hX 0 dX7_copy_80 rfl ?_
            refine z_if_ge (tgt := 88) hX dX7_copy_82 (by decide) (fun c82x => ?_) (fun c82x => ?_)
            · exact absurd (by rw [hw49] at c82x ⊢; exact faultI_ge c82x) c56
            · have c82 : ¬ r49 = 0 := by intro z9; exact c82x (by rw [z9]; decide)
              refine z_iload hX 0 dX7_copy_85 rfl ?_
              have e0 : okPl (nI f0j) (nI t0j) = true := by unfold okPl; rw [inb_t (by omega) (by omega) (by omega), inb_t (by omega) (by omega) (by omega)]; rfl
              have e3 := spCopy_1 (z1 := lz f0j) (i := i0) (f := nI f0j) (t := nI t0j) e0 c22 c31 (h0 f0j (by omega)) (h0 t0j (by omega)) (fun z9 => c82 (hw49.trans z9))
              rw [← hw49] at e3
              have e5 : r49 < 0 := by rw [← Int32.not_le]; exact c82x
              rw [gN_nI (show f0j < 2147483648 by omega), gN_nI (show t0j < 2147483648 by omega), e3, neg_no nn e5] at hR
              exact hR _ Mv _ _ rfl dX7_copy_87 rfl
          · skip
            refine z_aload_n hX 1 dX7_copy_59 rfl ?_
            refine z_iload_n hX 2 dX7_copy_60 rfl ?_
            refine z_aload_n hX 1 dX7_copy_61 rfl ?_
            refine z_get (v := .ref (ad 19)) hX fX7 0 19 rfl rfl (Nat.le_of_ble_eq_true rfl) fl_X7_31 rfl dX7_copy_62 ?_
            refine z_iload_n hX 2 dX7_copy_65 rfl ?_
            refine z_iald (v := (ln (lq f0j))) hX 2 (j := f0j) rfl (by omega) (by decide) rfl dX7_copy_66 ?_
            refine z_iload_n hX 3 dX7_copy_67 rfl ?_
            refine z_iload hX 6 dX7_copy_68 rfl ?_
            refine z_callVi (st := []) hX (c_X7_why _ G x ad v s lq lz f0j (ln (lq f0j)) i0 nn h0 h1 (by omega)) lb_X7_why ml_X7_217 (fun (_u : Unit) => [ob x 7 (rf ad v), ia G (ad 0) 29 (fN s), ia G (ad 19) 4 (fun j => ln (lq j)), ia G (ad 20) 4 (fN lz), la G (ad 21) 96 It, la G (ad 22) 24 Mv]) (wr := [la G (ad 21) 96 It, la G (ad 22) 24 Mv]) [0, 1, 2, 3] [4, 5] [2, 3, 4, 5, 0, 1] ⟨rfl, rfl, rfl, fun _ => rfl⟩ 0 rfl rfl rfl rfl ⟨Nat.le_refl _, Nat.le_refl _⟩ dX7_copy_70 rfl (fun r70 u70 hw70 => ?_)
            refine z_goto (tgt := 78) hX dX7_copy_73 (by decide) ?_
            refine z_istore (L' := [(6, .int r70), (0, .ref x), (1, .int (nI f0j)), (2, .int i0), (3, .int (nI t0j)), (4, .int j0), (5, .int nn)]) hX dX7_copy_78 (Nat.le_of_ble_eq_true rfl) rfl ?_
            refine z_iload hX 0 dX7_copy_80 rfl ?_
            refine z_if_ge (tgt := 88) hX dX7_copy_82 (by decide) (fun c82x => ?_) (fun c82x => ?_)
            · have c82 : r70 = 0 := by rw [hw70] at c82x ⊢; exact faultI_ge c82x
              have e0 : okPl (nI f0j) (nI t0j) = true := by unfold okPl; rw [inb_t (by omega) (by omega) (by omega), inb_t (by omega) (by omega) (by omega)]; rfl
              have e3 := spCopy_3 (f := nI f0j) (t := nI t0j) e0 (h0 f0j (by omega)) (h0 t0j (by omega)) (hw49.symm.trans c56) (hw70.symm.trans c82)
              have z1 := h1 f0j (by omega)
              have z2 := h1 t0j (by omega)
              obtain ⟨_, _, f3⟩ := faultI_0 (hw70.symm.trans c82)
              obtain ⟨_, _, f5⟩ := faultI_0 (hw49.symm.trans c56)
              obtain ⟨i0j, nnj, f4, rfl, rfl⟩ := fits_ex2 (by omega) f3
              obtain ⟨j0j, f6, rfl⟩ := fits_ex (by omega) f5
              refine z_iconst (v := nI 0) hX dX7_copy_88 (by decide) ?_
              refine z_istore (L' := [(7, .int (nI 0)), (6, .int r70), (0, .ref x), (1, .int (nI f0j)), (2, .int (nI i0j)), (3, .int (nI t0j)), (4, .int (nI j0j)), (5, .int (nI nnj))]) hX dX7_copy_89 (Nat.le_of_ble_eq_true rfl) rfl ?_
              have lp91 : ∀ (n91 : Nat) (k : Nat) (W : Nat → Int64), (nnj + 1 ≤ k + n91) → (k ≤ nnj) → (∀ i, i < k → W i = It (24 * f0j + i0j + i)) → Z (X, G, A, H0, 8) 0 0 [ob x 7 (rf ad v), ia G (ad 0) 29 (fN s), ia G (ad 19) 4 (fun j => ln (lq j)), ia G (ad 20) 4 (fN lz), la G (ad 21) 96 It, la G (ad 22) 24 W] 91 [(0, .ref x), (1, .int (nI f0j)), (2, .int (nI i0j)), (3, .int (nI t0j)), (4, .int (nI j0j)), (5, .int (nI nnj)), (7, .int (nI k))] [] := by
                intro n91
                induction n91 with
                | zero =>
                  intro k W hn hk hW
                  exfalso
                  omega
                | succ n91 ih91 =>
                  intro k W hn hk hW
                  refine z_iload hX 6 dX7_copy_91 rfl ?_
                  refine z_iload hX 5 dX7_copy_93 rfl ?_
                  refine zn_icmp_ge (tgt := 125) hX dX7_copy_95 (by decide) (by omega) (by omega) (fun c95 => ?_) (fun c95 => ?_)
                  · skip
                    refine z_eq (ws' := [ob x 7 (rf ad v), ia G (ad 0) 29 (fN s), ia G (ad 19) 4 (fun j => ln (lq j)), ia G (ad 20) 4 (fN lz), la G (ad 21) 96 (va_cpy It It (24 * f0j + i0j) (24 * t0j + j0j) 0), la G (ad 22) 24 W]) (by rw [cpy_0]) ?_
                    refine z_iconst (v := nI 0) hX dX7_copy_125 (by decide) ?_
                    refine z_istore (L' := [(7, .int (nI 0)), (0, .ref x), (1, .int (nI f0j)), (2, .int (nI i0j)), (3, .int (nI t0j)), (4, .int (nI j0j)), (5, .int (nI nnj))]) hX dX7_copy_126 (Nat.le_of_ble_eq_true rfl) rfl ?_
                    have lp128 : ∀ (n128 : Nat) (k2 : Nat), (nnj + 1 ≤ k2 + n128) → (k2 ≤ nnj) → Z (X, G, A, H0, 8) 0 0 [ob x 7 (rf ad v), ia G (ad 0) 29 (fN s), ia G (ad 19) 4 (fun j => ln (lq j)), ia G (ad 20) 4 (fN lz), la G (ad 21) 96 (va_cpy It It (24 * f0j + i0j) (24 * t0j + j0j) k2), la G (ad 22) 24 W] 128 [(0, .ref x), (1, .int (nI f0j)), (2, .int (nI i0j)), (3, .int (nI t0j)), (4, .int (nI j0j)), (5, .int (nI nnj)), (7, .int (nI k2))] [] := by
                      intro n128
                      induction n128 with
                      | zero =>
                        intro k2 hn2 hk2
                        exfalso
                        omega
                      | succ n128 ih128 =>
                        intro k2 hn2 hk2
                        refine z_iload hX 6 dX7_copy_128 rfl ?_
                        refine z_iload hX 5 dX7_copy_130 rfl ?_
                        refine zn_icmp_ge (tgt := 163) hX dX7_copy_132 (by decide) (by omega) (by omega) (fun c132 => ?_) (fun c132 => ?_)
                        · skip
                          refine z_iload hX 5 dX7_copy_163 rfl ?_
                          have ek : k2 = nnj := by omega
                          subst ek
                          rw [gN_nI (show f0j < 2147483648 by omega), gN_nI (show t0j < 2147483648 by omega), e3, decide_eq_true rfl, decide_eq_true (nI_pos (by omega)), gN_nI (show i0j < 2147483648 by omega), gN_nI (show j0j < 2147483648 by omega), gN_nI (show k2 < 2147483648 by omega)] at hR
                          exact hR _ W _ _ rfl dX7_copy_165 rfl
                        · skip
                          refine z_aload_n hX 0 dX7_copy_135 rfl ?_
                          refine z_get (v := .ref (ad 21)) hX fX7 0 21 rfl rfl (Nat.le_of_ble_eq_true rfl) fl_X7_37 rfl dX7_copy_136 ?_
                          refine z_bipush (v := nI 24) hX dX7_copy_139 (by decide) ?_
                          refine z_iload_n hX 3 dX7_copy_141 rfl ?_
                          refine z_imul (v := (nI (24 * t0j))) hX dX7_copy_142 (pk_mul _ _) ?_
                          refine z_iload hX 4 dX7_copy_143 rfl ?_
                          refine z_iadd (v := (nI (24 * t0j + j0j))) hX dX7_copy_145 (nI_add _ _) ?_
                          refine z_iload hX 6 dX7_copy_146 rfl ?_
                          refine z_iadd (v := (nI (24 * t0j + j0j + k2))) hX dX7_copy_148 (nI_add _ _) ?_
                          refine z_aload_n hX 0 dX7_copy_149 rfl ?_
                          refine z_get (v := .ref (ad 22)) hX fX7 0 22 rfl rfl (Nat.le_of_ble_eq_true rfl) fl_X7_41 rfl dX7_copy_150 ?_
                          refine z_iload hX 6 dX7_copy_153 rfl ?_
                          refine z_lald (v := (W k2)) hX 5 (j := k2) rfl (by omega) (by decide) rfl dX7_copy_155 ?_
                          refine z_last (ws' := [ob x 7 (rf ad v), ia G (ad 0) 29 (fN s), ia G (ad 19) 4 (fun j => ln (lq j)), ia G (ad 20) 4 (fN lz), la G (ad 21) 96 (va_cpy It It (24 * f0j + i0j) (24 * t0j + j0j) (k2 + 1)), la G (ad 22) 24 W]) hX 4 (j := (24 * t0j + j0j + k2)) rfl (by omega) (by decide) (cpy_up (hW k2 (by omega))) rfl dX7_copy_156 ?_
                          refine z_iinc (v := (nI (k2 + 1))) (L' := [(7, .int (nI (k2 + 1))), (0, .ref x), (1, .int (nI f0j)), (2, .int (nI i0j)), (3, .int (nI t0j)), (4, .int (nI j0j)), (5, .int (nI nnj))]) hX 6 dX7_copy_157 rfl (nI_inc _) (Nat.le_of_ble_eq_true rfl) rfl ?_
                          refine z_goto (tgt := 128) hX dX7_copy_160 (by decide) ?_
                          refine z_lsub [1, 2, 3, 4, 5, 6, 0] rfl ?_
                          exact ih128 (k2 + 1) (by omega) (by omega)
                    refine z_lsub [1, 2, 3, 4, 5, 6, 0] rfl ?_
                    exact lp128 (nnj + 1) 0 (by omega) (by omega)
                  · skip
                    refine z_aload_n hX 0 dX7_copy_98 rfl ?_
                    refine z_get (v := .ref (ad 22)) hX fX7 0 22 rfl rfl (Nat.le_of_ble_eq_true rfl) fl_X7_41 rfl dX7_copy_99 ?_
                    refine z_iload hX 6 dX7_copy_102 rfl ?_
                    refine z_aload_n hX 0 dX7_copy_104 rfl ?_
                    refine z_get (v := .ref (ad 21)) hX fX7 0 21 rfl rfl (Nat.le_of_ble_eq_true rfl) fl_X7_37 rfl dX7_copy_105 ?_
                    refine z_bipush (v := nI 24) hX dX7_copy_108 (by decide) ?_
                    refine z_iload_n hX 1 dX7_copy_110 rfl ?_
                    refine z_imul (v := (nI (24 * f0j))) hX dX7_copy_111 (pk_mul _ _) ?_
                    refine z_iload_n hX 2 dX7_copy_112 rfl ?_
                    refine z_iadd (v := (nI (24 * f0j + i0j))) hX dX7_copy_113 (nI_add _ _) ?_
                    refine z_iload hX 6 dX7_copy_114 rfl ?_
                    refine z_iadd (v := (nI (24 * f0j + i0j + k))) hX dX7_copy_116 (nI_add _ _) ?_
                    refine z_lald (v := (It (24 * f0j + i0j + k))) hX 4 (j := (24 * f0j + i0j + k)) rfl (by omega) (by decide) rfl dX7_copy_117 ?_
                    refine z_last (ws' := [ob x 7 (rf ad v), ia G (ad 0) 29 (fN s), ia G (ad 19) 4 (fun j => ln (lq j)), ia G (ad 20) 4 (fN lz), la G (ad 21) 96 It, la G (ad 22) 24 (vp_updL W k (It (24 * f0j + i0j + k)))]) hX 5 (j := k) rfl (by omega) (by decide) rfl rfl dX7_copy_118 ?_
                    refine z_iinc (v := (nI (k + 1))) (L' := [(7, .int (nI (k + 1))), (0, .ref x), (1, .int (nI f0j)), (2, .int (nI i0j)), (3, .int (nI t0j)), (4, .int (nI j0j)), (5, .int (nI nnj))]) hX 6 dX7_copy_119 rfl (nI_inc _) (Nat.le_of_ble_eq_true rfl) rfl ?_
                    refine z_goto (tgt := 91) hX dX7_copy_122 (by decide) ?_
                    refine z_lsub [1, 2, 3, 4, 5, 6, 0] rfl ?_
                    exact ih91 (k + 1) (vp_updL W k (It (24 * f0j + i0j + k))) (by omega) (by omega) (fun i9 h9 => by
                          unfold vp_updL
                          by_cases e9 : i9 = k
                          · subst e9; rw [if_pos rfl]
                          · rw [if_neg e9]; exact hW i9 (by omega))
              refine z_lsub [2, 3, 4, 5, 6, 7, 0] rfl ?_
              exact lp91 (nnj + 1) 0 Mv (by omega) (by omega) (fun i9 h9 => absurd h9 (by omega))
            · have c82 : ¬ r70 = 0 := by intro z9; exact c82x (by rw [z9]; decide)
              refine z_iload hX 0 dX7_copy_85 rfl ?_
              have e0 : okPl (nI f0j) (nI t0j) = true := by unfold okPl; rw [inb_t (by omega) (by omega) (by omega), inb_t (by omega) (by omega) (by omega)]; rfl
              have e3 := spCopy_2 (f := nI f0j) (t := nI t0j) e0 c22 c31 (h0 f0j (by omega)) (h0 t0j (by omega)) (hw49.symm.trans c56) (fun z9 => c82 (hw70.trans z9))
              rw [← hw70] at e3
              have e5 : r70 < 0 := by rw [← Int32.not_le]; exact c82x
              rw [gN_nI (show f0j < 2147483648 by omega), gN_nI (show t0j < 2147483648 by omega), e3, neg_no nn e5] at hR
              exact hR _ Mv _ _ rfl dX7_copy_87 rfl
        · rw [Int32.not_le, ln_lt (h0 _ (by omega))] at c31
          refine z_bipush (v := (-11)) hX dX7_copy_34 (by decide) ?_
          have e0 : okPl (nI f0j) (nI t0j) = true := by unfold okPl; rw [inb_t (by omega) (by omega) (by omega), inb_t (by omega) (by omega) (by omega)]; rfl
          have e3 : spCopy (lq f0j) (lz f0j) (lq t0j) (lz t0j) (nI f0j) i0 (nI t0j) j0 nn = -11 := by unfold spCopy; rw [if_pos e0, if_pos (by first | exact Or.inl c22 | exact Or.inr c31)]
          rw [gN_nI (show f0j < 2147483648 by omega), gN_nI (show t0j < 2147483648 by omega), e3, neg_no nn (by decide)] at hR
          exact hR _ Mv _ _ rfl dX7_copy_36 rfl
    · have hb_t0 : inb t0 0 3 = false := hw8
      refine zn_if_ne (tgt := 16) hX dX7_copy_11 (by decide) (by omega) (fun c11 => absurd c11 (by omega)) (fun _ => ?_)
      refine z_iconst (v := (-1)) hX dX7_copy_14 (by decide) ?_
      have e0 : spCopy (lq (gN (nI f0j))) (lz (gN (nI f0j))) (lq (gN t0)) (lz (gN t0)) (nI f0j) i0 t0 j0 nn = -1 := by unfold spCopy okPl; rw [if_neg (by simp [hb_t0])]
      rw [e0, neg_no nn (by decide)] at hR
      exact hR _ Mv _ _ rfl dX7_copy_15 rfl
  · have hb_f0 : inb f0 0 3 = false := hw1
    refine zn_if_eq (tgt := 14) hX dX7_copy_4 (by decide) (by omega) (fun _ => ?_) (fun c4 => absurd c4 (by omega))
    refine z_iconst (v := (-1)) hX dX7_copy_14 (by decide) ?_
    have e0 : spCopy (lq (gN f0)) (lz (gN f0)) (lq (gN t0)) (lz (gN t0)) f0 i0 t0 j0 nn = -1 := by unfold spCopy okPl; rw [if_neg (by simp [hb_f0])]
    rw [e0, neg_no nn (by decide)] at hR
    exact hR _ Mv _ _ rfl dX7_copy_15 rfl
