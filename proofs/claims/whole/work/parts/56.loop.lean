theorem sub_lt8 {L i : Nat} (h : L < 8) (hi : i ≤ L) : nI L - nI 8 < nI i := by
  rw [Int32.lt_iff_toInt_lt, pk_sub_toInt (by omega) (by omega), nI_toInt (by omega)]
  omega
set_option maxRecDepth 100000 in
set_option maxHeartbeats 8000000 in
theorem law_loop (X : zX) (A : Nat → Prop) (H0 : Heap) (G : zG) (q9 t9 b L : Nat) (xs : Nat → Int32) (x : Nat) (w : Nat) (now : Nat) (nh : Nat) (cr : Nat) (ck : Nat) (cl : Nat) (ce : Nat) (past : Nat) (pm : Nat → Nat) (ph : Nat → Nat) (kw : Nat) (know : Nat) (knh : Nat) (kcr : Nat) (kck : Nat) (kcl : Nat) (kce : Nat) (kpast : Nat) (kpm : Nat → Nat) (kph : Nat → Nat) (tp : Nat) (lt : Nat) (sx : Nat) (hs : Nat → Nat) (it : Nat → Nat) (fo : Nat) (fh : Nat) (gu : Nat) (gk : Nat) (gl : Nat) (ge : Nat) (ch : Nat) (mx : Nat) (ad : Nat → Nat) (hX : zOk (X, G, A, H0, 4) cL_law RL 13 600000 7302250 502) (hT : zSo (X, G, A, H0, 4) q9 t9) (hSc : zSc (X, G, A, H0, 4) b L xs) (hL : L ≤ 4096) (hEnd : ∀ (ws : va_W) (Lc : List (Nat × Value)), Z (X, G, A, H0, 4) 600000 7302250 ws 1262 Lc [.int (nI 1)]) : ∀ (N i : Nat) (o : Nat) (u : Nat) (s : nst) (rho : Nat → nst) (h : Nat → nst) (sz : Nat) (fk : Nat → Int32) (fl : Nat → Int32) (fe : Nat → Int32) (ko : Nat) (ku : Nat) (ks : nst) (krho : Nat → nst) (kh : Nat → nst) (ksz : Nat) (kfk : Nat → Int32) (kfl : Nat → Int32) (kfe : Nat → Int32) (kU : nst) (ik : Nat) (m : Nat) (pl : Nat) (tau : nst) (qf : nst) (zf : nst) (IF : Nat → Nat → Int64) (t : nst) (gz : Nat) (hk : Nat → Int32) (hl : Nat → Int32) (he : Nat → Int32) (cw0 : Int32) (cf : Nat) (cg : Nat) (v : Nat → Nat) (as9 : nst) (U : nst) (K : nst) (rs : nst) (A9 : nst) (lq : nst) (lz : nst) (It : Nat → Int64) (Mv : Nat → Int64), L + 1 ≤ i + N → i ≤ L → LI o u s rho h sz fk fl fe ko ku ks krho kh ksz kfk kfl kfe kU ik m pl tau qf zf IF t gz hk hl he cw0 cf cg v as9 U K rs A9 lq lz It Mv → Z (X, G, A, H0, 4) 600000 7302250 (lW G x w now nh cr ck cl ce past pm ph kw know knh kcr kck kcl kce kpast kpm kph tp lt sx hs it fo fh gu gk gl ge ch mx ad o u s rho h sz fk fl fe ko ku ks krho kh ksz kfk kfl kfe kU ik m pl tau qf zf IF t gz hk hl he cw0 cf cg v as9 U K rs A9 lq lz It Mv) 18 [(3, .int (nI i)), (2, .ref mx), (1, .ref x), (0, .ref b)] [] := by
  intro N
  induction N with
  | zero =>
    intro i o u s rho h sz fk fl fe ko ku ks krho kh ksz kfk kfl kfe kU ik m pl tau qf zf IF t gz hk hl he cw0 cf cg v as9 U K rs A9 lq lz It Mv h1 h2
    exact absurd h1 (by omega)
  | succ N ih =>
    intro i o u s rho h sz fk fl fe ko ku ks krho kh ksz kfk kfl kfe kU ik m pl tau qf zf IF t gz hk hl he cw0 cf cg v as9 U K rs A9 lq lz It Mv h1 h2 hI
    have kk : i + 8 ≤ L → ∀ (o : Nat) (u : Nat) (s : nst) (rho : Nat → nst) (h : Nat → nst) (sz : Nat) (fk : Nat → Int32) (fl : Nat → Int32) (fe : Nat → Int32) (ko : Nat) (ku : Nat) (ks : nst) (krho : Nat → nst) (kh : Nat → nst) (ksz : Nat) (kfk : Nat → Int32) (kfl : Nat → Int32) (kfe : Nat → Int32) (kU : nst) (ik : Nat) (m : Nat) (pl : Nat) (tau : nst) (qf : nst) (zf : nst) (IF : Nat → Nat → Int64) (t : nst) (gz : Nat) (hk : Nat → Int32) (hl : Nat → Int32) (he : Nat → Int32) (cw0 : Int32) (cf : Nat) (cg : Nat) (v : Nat → Nat) (as9 : nst) (U : nst) (K : nst) (rs : nst) (A9 : nst) (lq : nst) (lz : nst) (It : Nat → Int64) (Mv : Nat → Int64), LI o u s rho h sz fk fl fe ko ku ks krho kh ksz kfk kfl kfe kU ik m pl tau qf zf IF t gz hk hl he cw0 cf cg v as9 U K rs A9 lq lz It Mv → Z (X, G, A, H0, 4) 600000 7302250 (lW G x w now nh cr ck cl ce past pm ph kw know knh kcr kck kcl kce kpast kpm kph tp lt sx hs it fo fh gu gk gl ge ch mx ad o u s rho h sz fk fl fe ko ku ks krho kh ksz kfk kfl kfe kU ik m pl tau qf zf IF t gz hk hl he cw0 cf cg v as9 U K rs A9 lq lz It Mv) 1255 [(3, .int (nI i)), (2, .ref mx), (1, .ref x), (0, .ref b)] [] := by
      intro hi o u s rho h sz fk fl fe ko ku ks krho kh ksz kfk kfl kfe kU ik m pl tau qf zf IF t gz hk hl he cw0 cf cg v as9 U K rs A9 lq lz It Mv hI
      refine z_iinc (v := nI (i + 8)) (L' := [(3, .int (nI (i + 8))), (2, .ref mx), (1, .ref x), (0, .ref b)]) hX 0 dL_law_1255 rfl (by rw [show Int32.ofInt 8 = nI 8 by decide]; exact nI_add _ _) (Nat.le_of_ble_eq_true rfl) rfl ?_
      refine z_goto (tgt := 18) hX dL_law_1258 (by decide) ?_
      exact ih (i + 8) o u s rho h sz fk fl fe ko ku ks krho kh ksz kfk kfl kfe kU ik m pl tau qf zf IF t gz hk hl he cw0 cf cg v as9 U K rs A9 lq lz It Mv (by omega) (by omega) hI
    refine z_iload_n hX 0 dL_law_18 rfl ?_
    refine z_aload_n hX 3 dL_law_19 rfl ?_
    refine z_sln hX hSc dL_law_20 ?_
    refine z_bipush (v := nI 8) hX dL_law_21 (by decide) ?_
    rcases Nat.lt_or_ge L 8 with h8 | h8
    · refine z_isub (v := nI L - nI 8) hX dL_law_23 rfl ?_
      refine z_icmp_gt (tgt := 1261) hX dL_law_24 (by decide) (fun _ => ?_) (fun c => absurd (sub_lt8 h8 h2) c)
      refine z_iconst (v := nI 1) hX dL_law_1261 (by decide) ?_
      exact hEnd _ _
    · refine z_isub (v := nI (L - 8)) hX dL_law_23 (pk_sub h8) ?_
      refine zn_icmp_gt (tgt := 1261) hX dL_law_24 (by decide) (by omega) (by omega) (fun _ => ?_) (fun c => ?_)
      · refine z_iconst (v := nI 1) hX dL_law_1261 (by decide) ?_
        exact hEnd _ _
      · have hi : i + 8 ≤ L := by omega
        refine z_aload_n hX 3 dL_law_27 rfl ?_
        refine z_iload_n hX 0 dL_law_28 rfl ?_
        refine z_sld hX hSc (j := i) (by omega) hL dL_law_29 ?_
        refine z_bipush (v := nI 63) hX dL_law_30 (by decide) ?_
        obtain ⟨j, hj, e⟩ := pk_andE (xs i) (m := nI 63) 6 (by decide)
        refine z_iand (v := nI j) hX dL_law_32 e ?_
        rcases Nat.lt_or_ge j 33 with j33 | j33
        · rcases (show j = 0 ∨ j = 1 ∨ j = 2 ∨ j = 3 ∨ j = 4 ∨ j = 5 ∨ j = 6 ∨ j = 7 ∨ j = 8 ∨ j = 9 ∨ j = 10 ∨ j = 11 ∨ j = 12 ∨ j = 13 ∨ j = 14 ∨ j = 15 ∨ j = 16 ∨ j = 17 ∨ j = 18 ∨ j = 19 ∨ j = 20 ∨ j = 21 ∨ j = 22 ∨ j = 23 ∨ j = 24 ∨ j = 25 ∨ j = 26 ∨ j = 27 ∨ j = 28 ∨ j = 29 ∨ j = 30 ∨ j = 31 ∨ j = 32 by omega) with rfl | rfl | rfl | rfl | rfl | rfl | rfl | rfl | rfl | rfl | rfl | rfl | rfl | rfl | rfl | rfl | rfl | rfl | rfl | rfl | rfl | rfl | rfl | rfl | rfl | rfl | rfl | rfl | rfl | rfl | rfl | rfl | rfl
          · refine z_tab (tgt := 180) (j := 0) hX (by decide) dL_law_33 (by decide) (by decide) rfl (by decide) ?_
            exact law_traveller X A H0 G q9 t9 b L i xs x w now nh cr ck cl ce past pm ph kw know knh kcr kck kcl kce kpast kpm kph tp lt sx hs it fo fh gu gk gl ge ch mx ad o u s rho h sz fk fl fe ko ku ks krho kh ksz kfk kfl kfe kU ik m pl tau qf zf IF t gz hk hl he cw0 cf cg v as9 U K rs A9 lq lz It Mv hX hT hSc hL hi hI (kk hi)
          · refine z_tab (tgt := 223) (j := 1) hX (by decide) dL_law_33 (by decide) (by decide) rfl (by decide) ?_
            exact law_of X A H0 G q9 t9 b L i xs x w now nh cr ck cl ce past pm ph kw know knh kcr kck kcl kce kpast kpm kph tp lt sx hs it fo fh gu gk gl ge ch mx ad o u s rho h sz fk fl fe ko ku ks krho kh ksz kfk kfl kfe kU ik m pl tau qf zf IF t gz hk hl he cw0 cf cg v as9 U K rs A9 lq lz It Mv hX hT hSc hL hi hI (kk hi)
          · refine z_tab (tgt := 256) (j := 2) hX (by decide) dL_law_33 (by decide) (by decide) rfl (by decide) ?_
            exact law_wears X A H0 G q9 t9 b L i xs x w now nh cr ck cl ce past pm ph kw know knh kcr kck kcl kce kpast kpm kph tp lt sx hs it fo fh gu gk gl ge ch mx ad o u s rho h sz fk fl fe ko ku ks krho kh ksz kfk kfl kfe kU ik m pl tau qf zf IF t gz hk hl he cw0 cf cg v as9 U K rs A9 lq lz It Mv hX hT hSc hL hi hI (kk hi)
          · refine z_tab (tgt := 289) (j := 3) hX (by decide) dL_law_33 (by decide) (by decide) rfl (by decide) ?_
            exact law_stones X A H0 G q9 t9 b L i xs x w now nh cr ck cl ce past pm ph kw know knh kcr kck kcl kce kpast kpm kph tp lt sx hs it fo fh gu gk gl ge ch mx ad o u s rho h sz fk fl fe ko ku ks krho kh ksz kfk kfl kfe kU ik m pl tau qf zf IF t gz hk hl he cw0 cf cg v as9 U K rs A9 lq lz It Mv hX hT hSc hL hi hI (kk hi)
          · refine z_tab (tgt := 312) (j := 4) hX (by decide) dL_law_33 (by decide) (by decide) rfl (by decide) ?_
            exact law_type X A H0 G q9 t9 b L i xs x w now nh cr ck cl ce past pm ph kw know knh kcr kck kcl kce kpast kpm kph tp lt sx hs it fo fh gu gk gl ge ch mx ad o u s rho h sz fk fl fe ko ku ks krho kh ksz kfk kfl kfe kU ik m pl tau qf zf IF t gz hk hl he cw0 cf cg v as9 U K rs A9 lq lz It Mv hX hT hSc hL hi hI (kk hi)
          · refine z_tab (tgt := 335) (j := 5) hX (by decide) dL_law_33 (by decide) (by decide) rfl (by decide) ?_
            exact law_bridge X A H0 G q9 t9 b L i xs x w now nh cr ck cl ce past pm ph kw know knh kcr kck kcl kce kpast kpm kph tp lt sx hs it fo fh gu gk gl ge ch mx ad o u s rho h sz fk fl fe ko ku ks krho kh ksz kfk kfl kfe kU ik m pl tau qf zf IF t gz hk hl he cw0 cf cg v as9 U K rs A9 lq lz It Mv hX hT hSc hL hi hI (kk hi)
          · refine z_tab (tgt := 348) (j := 6) hX (by decide) dL_law_33 (by decide) (by decide) rfl (by decide) ?_
            exact law_count X A H0 G q9 t9 b L i xs x w now nh cr ck cl ce past pm ph kw know knh kcr kck kcl kce kpast kpm kph tp lt sx hs it fo fh gu gk gl ge ch mx ad o u s rho h sz fk fl fe ko ku ks krho kh ksz kfk kfl kfe kU ik m pl tau qf zf IF t gz hk hl he cw0 cf cg v as9 U K rs A9 lq lz It Mv hX hT hSc hL hi hI (kk hi)
          · refine z_tab (tgt := 371) (j := 7) hX (by decide) dL_law_33 (by decide) (by decide) rfl (by decide) ?_
            exact law_days X A H0 G q9 t9 b L i xs x w now nh cr ck cl ce past pm ph kw know knh kcr kck kcl kce kpast kpm kph tp lt sx hs it fo fh gu gk gl ge ch mx ad o u s rho h sz fk fl fe ko ku ks krho kh ksz kfk kfl kfe kU ik m pl tau qf zf IF t gz hk hl he cw0 cf cg v as9 U K rs A9 lq lz It Mv hX hT hSc hL hi hI (kk hi)
          · refine z_tab (tgt := 394) (j := 8) hX (by decide) dL_law_33 (by decide) (by decide) rfl (by decide) ?_
            exact law_list X A H0 G q9 t9 b L i xs x w now nh cr ck cl ce past pm ph kw know knh kcr kck kcl kce kpast kpm kph tp lt sx hs it fo fh gu gk gl ge ch mx ad o u s rho h sz fk fl fe ko ku ks krho kh ksz kfk kfl kfe kU ik m pl tau qf zf IF t gz hk hl he cw0 cf cg v as9 U K rs A9 lq lz It Mv hX hT hSc hL hi hI (kk hi)
          · refine z_tab (tgt := 417) (j := 9) hX (by decide) dL_law_33 (by decide) (by decide) rfl (by decide) ?_
            exact law_mend X A H0 G q9 t9 b L i xs x w now nh cr ck cl ce past pm ph kw know knh kcr kck kcl kce kpast kpm kph tp lt sx hs it fo fh gu gk gl ge ch mx ad o u s rho h sz fk fl fe ko ku ks krho kh ksz kfk kfl kfe kU ik m pl tau qf zf IF t gz hk hl he cw0 cf cg v as9 U K rs A9 lq lz It Mv hX hT hSc hL hi hI (kk hi)
          · refine z_tab (tgt := 450) (j := 10) hX (by decide) dL_law_33 (by decide) (by decide) rfl (by decide) ?_
            exact law_flood X A H0 G q9 t9 b L i xs x w now nh cr ck cl ce past pm ph kw know knh kcr kck kcl kce kpast kpm kph tp lt sx hs it fo fh gu gk gl ge ch mx ad o u s rho h sz fk fl fe ko ku ks krho kh ksz kfk kfl kfe kU ik m pl tau qf zf IF t gz hk hl he cw0 cf cg v as9 U K rs A9 lq lz It Mv hX hT hSc hL hi hI (kk hi)
          · refine z_tab (tgt := 473) (j := 11) hX (by decide) dL_law_33 (by decide) (by decide) rfl (by decide) ?_
            exact law_drift X A H0 G q9 t9 b L i xs x w now nh cr ck cl ce past pm ph kw know knh kcr kck kcl kce kpast kpm kph tp lt sx hs it fo fh gu gk gl ge ch mx ad o u s rho h sz fk fl fe ko ku ks krho kh ksz kfk kfl kfe kU ik m pl tau qf zf IF t gz hk hl he cw0 cf cg v as9 U K rs A9 lq lz It Mv hX hT hSc hL hi hI (kk hi)
          · refine z_tab (tgt := 496) (j := 12) hX (by decide) dL_law_33 (by decide) (by decide) rfl (by decide) ?_
            exact law_undo X A H0 G q9 t9 b L i xs x w now nh cr ck cl ce past pm ph kw know knh kcr kck kcl kce kpast kpm kph tp lt sx hs it fo fh gu gk gl ge ch mx ad o u s rho h sz fk fl fe ko ku ks krho kh ksz kfk kfl kfe kU ik m pl tau qf zf IF t gz hk hl he cw0 cf cg v as9 U K rs A9 lq lz It Mv hX hT hSc hL hi hI (kk hi)
          · refine z_tab (tgt := 509) (j := 13) hX (by decide) dL_law_33 (by decide) (by decide) rfl (by decide) ?_
            exact law_seed X A H0 G q9 t9 b L i xs x w now nh cr ck cl ce past pm ph kw know knh kcr kck kcl kce kpast kpm kph tp lt sx hs it fo fh gu gk gl ge ch mx ad o u s rho h sz fk fl fe ko ku ks krho kh ksz kfk kfl kfe kU ik m pl tau qf zf IF t gz hk hl he cw0 cf cg v as9 U K rs A9 lq lz It Mv hX hT hSc hL hi hI (kk hi)
          · refine z_tab (tgt := 532) (j := 14) hX (by decide) dL_law_33 (by decide) (by decide) rfl (by decide) ?_
            exact law_ahead X A H0 G q9 t9 b L i xs x w now nh cr ck cl ce past pm ph kw know knh kcr kck kcl kce kpast kpm kph tp lt sx hs it fo fh gu gk gl ge ch mx ad o u s rho h sz fk fl fe ko ku ks krho kh ksz kfk kfl kfe kU ik m pl tau qf zf IF t gz hk hl he cw0 cf cg v as9 U K rs A9 lq lz It Mv hX hT hSc hL hi hI (kk hi)
          · refine z_tab (tgt := 565) (j := 15) hX (by decide) dL_law_33 (by decide) (by decide) rfl (by decide) ?_
            exact law_then X A H0 G q9 t9 b L i xs x w now nh cr ck cl ce past pm ph kw know knh kcr kck kcl kce kpast kpm kph tp lt sx hs it fo fh gu gk gl ge ch mx ad o u s rho h sz fk fl fe ko ku ks krho kh ksz kfk kfl kfe kU ik m pl tau qf zf IF t gz hk hl he cw0 cf cg v as9 U K rs A9 lq lz It Mv hX hT hSc hL hi hI (kk hi)
          · refine z_tab (tgt := 598) (j := 16) hX (by decide) dL_law_33 (by decide) (by decide) rfl (by decide) ?_
            exact law_hole X A H0 G q9 t9 b L i xs x w now nh cr ck cl ce past pm ph kw know knh kcr kck kcl kce kpast kpm kph tp lt sx hs it fo fh gu gk gl ge ch mx ad o u s rho h sz fk fl fe ko ku ks krho kh ksz kfk kfl kfe kU ik m pl tau qf zf IF t gz hk hl he cw0 cf cg v as9 U K rs A9 lq lz It Mv hX hT hSc hL hi hI (kk hi)
          · refine z_tab (tgt := 611) (j := 17) hX (by decide) dL_law_33 (by decide) (by decide) rfl (by decide) ?_
            exact law_first X A H0 G q9 t9 b L i xs x w now nh cr ck cl ce past pm ph kw know knh kcr kck kcl kce kpast kpm kph tp lt sx hs it fo fh gu gk gl ge ch mx ad o u s rho h sz fk fl fe ko ku ks krho kh ksz kfk kfl kfe kU ik m pl tau qf zf IF t gz hk hl he cw0 cf cg v as9 U K rs A9 lq lz It Mv hX hT hSc hL hi hI (kk hi)
          · refine z_tab (tgt := 634) (j := 18) hX (by decide) dL_law_33 (by decide) (by decide) rfl (by decide) ?_
            exact law_wise X A H0 G q9 t9 b L i xs x w now nh cr ck cl ce past pm ph kw know knh kcr kck kcl kce kpast kpm kph tp lt sx hs it fo fh gu gk gl ge ch mx ad o u s rho h sz fk fl fe ko ku ks krho kh ksz kfk kfl kfe kU ik m pl tau qf zf IF t gz hk hl he cw0 cf cg v as9 U K rs A9 lq lz It Mv hX hT hSc hL hi hI (kk hi)
          · refine z_tab (tgt := 667) (j := 19) hX (by decide) dL_law_33 (by decide) (by decide) rfl (by decide) ?_
            exact law_more X A H0 G q9 t9 b L i xs x w now nh cr ck cl ce past pm ph kw know knh kcr kck kcl kce kpast kpm kph tp lt sx hs it fo fh gu gk gl ge ch mx ad o u s rho h sz fk fl fe ko ku ks krho kh ksz kfk kfl kfe kU ik m pl tau qf zf IF t gz hk hl he cw0 cf cg v as9 U K rs A9 lq lz It Mv hX hT hSc hL hi hI (kk hi)
          · refine z_tab (tgt := 690) (j := 20) hX (by decide) dL_law_33 (by decide) (by decide) rfl (by decide) ?_
            exact law_less X A H0 G q9 t9 b L i xs x w now nh cr ck cl ce past pm ph kw know knh kcr kck kcl kce kpast kpm kph tp lt sx hs it fo fh gu gk gl ge ch mx ad o u s rho h sz fk fl fe ko ku ks krho kh ksz kfk kfl kfe kU ik m pl tau qf zf IF t gz hk hl he cw0 cf cg v as9 U K rs A9 lq lz It Mv hX hT hSc hL hi hI (kk hi)
          · refine z_tab (tgt := 713) (j := 21) hX (by decide) dL_law_33 (by decide) (by decide) rfl (by decide) ?_
            exact law_stands X A H0 G q9 t9 b L i xs x w now nh cr ck cl ce past pm ph kw know knh kcr kck kcl kce kpast kpm kph tp lt sx hs it fo fh gu gk gl ge ch mx ad o u s rho h sz fk fl fe ko ku ks krho kh ksz kfk kfl kfe kU ik m pl tau qf zf IF t gz hk hl he cw0 cf cg v as9 U K rs A9 lq lz It Mv hX hT hSc hL hi hI (kk hi)
          · refine z_tab (tgt := 736) (j := 22) hX (by decide) dL_law_33 (by decide) (by decide) rfl (by decide) ?_
            exact law_bears X A H0 G q9 t9 b L i xs x w now nh cr ck cl ce past pm ph kw know knh kcr kck kcl kce kpast kpm kph tp lt sx hs it fo fh gu gk gl ge ch mx ad o u s rho h sz fk fl fe ko ku ks krho kh ksz kfk kfl kfe kU ik m pl tau qf zf IF t gz hk hl he cw0 cf cg v as9 U K rs A9 lq lz It Mv hX hT hSc hL hi hI (kk hi)
          · refine z_tab (tgt := 759) (j := 23) hX (by decide) dL_law_33 (by decide) (by decide) rfl (by decide) ?_
            exact law_floods X A H0 G q9 t9 b L i xs x w now nh cr ck cl ce past pm ph kw know knh kcr kck kcl kce kpast kpm kph tp lt sx hs it fo fh gu gk gl ge ch mx ad o u s rho h sz fk fl fe ko ku ks krho kh ksz kfk kfl kfe kU ik m pl tau qf zf IF t gz hk hl he cw0 cf cg v as9 U K rs A9 lq lz It Mv hX hT hSc hL hi hI (kk hi)
          · refine z_tab (tgt := 792) (j := 24) hX (by decide) dL_law_33 (by decide) (by decide) rfl (by decide) ?_
            exact law_image X A H0 G q9 t9 b L i xs x w now nh cr ck cl ce past pm ph kw know knh kcr kck kcl kce kpast kpm kph tp lt sx hs it fo fh gu gk gl ge ch mx ad o u s rho h sz fk fl fe ko ku ks krho kh ksz kfk kfl kfe kU ik m pl tau qf zf IF t gz hk hl he cw0 cf cg v as9 U K rs A9 lq lz It Mv hX hT hSc hL hi hI (kk hi)
          · refine z_tab (tgt := 805) (j := 25) hX (by decide) dL_law_33 (by decide) (by decide) rfl (by decide) ?_
            exact law_restore X A H0 G q9 t9 b L i xs x w now nh cr ck cl ce past pm ph kw know knh kcr kck kcl kce kpast kpm kph tp lt sx hs it fo fh gu gk gl ge ch mx ad o u s rho h sz fk fl fe ko ku ks krho kh ksz kfk kfl kfe kU ik m pl tau qf zf IF t gz hk hl he cw0 cf cg v as9 U K rs A9 lq lz It Mv hX hT hSc hL hi hI (kk hi)
          · refine z_tab (tgt := 818) (j := 26) hX (by decide) dL_law_33 (by decide) (by decide) rfl (by decide) ?_
            exact law_lists X A H0 G q9 t9 b L i xs x w now nh cr ck cl ce past pm ph kw know knh kcr kck kcl kce kpast kpm kph tp lt sx hs it fo fh gu gk gl ge ch mx ad o u s rho h sz fk fl fe ko ku ks krho kh ksz kfk kfl kfe kU ik m pl tau qf zf IF t gz hk hl he cw0 cf cg v as9 U K rs A9 lq lz It Mv hX hT hSc hL hi hI (kk hi)
          · refine z_tab (tgt := 893) (j := 27) hX (by decide) dL_law_33 (by decide) (by decide) rfl (by decide) ?_
            exact law_seen X A H0 G q9 t9 b L i xs x w now nh cr ck cl ce past pm ph kw know knh kcr kck kcl kce kpast kpm kph tp lt sx hs it fo fh gu gk gl ge ch mx ad o u s rho h sz fk fl fe ko ku ks krho kh ksz kfk kfl kfe kU ik m pl tau qf zf IF t gz hk hl he cw0 cf cg v as9 U K rs A9 lq lz It Mv hX hT hSc hL hi hI (kk hi)
          · refine z_tab (tgt := 980) (j := 28) hX (by decide) dL_law_33 (by decide) (by decide) rfl (by decide) ?_
            exact law_film X A H0 G q9 t9 b L i xs x w now nh cr ck cl ce past pm ph kw know knh kcr kck kcl kce kpast kpm kph tp lt sx hs it fo fh gu gk gl ge ch mx ad o u s rho h sz fk fl fe ko ku ks krho kh ksz kfk kfl kfe kU ik m pl tau qf zf IF t gz hk hl he cw0 cf cg v as9 U K rs A9 lq lz It Mv hX hT hSc hL hi hI (kk hi)
          · refine z_tab (tgt := 1043) (j := 29) hX (by decide) dL_law_33 (by decide) (by decide) rfl (by decide) ?_
            exact law_sheet X A H0 G q9 t9 b L i xs x w now nh cr ck cl ce past pm ph kw know knh kcr kck kcl kce kpast kpm kph tp lt sx hs it fo fh gu gk gl ge ch mx ad o u s rho h sz fk fl fe ko ku ks krho kh ksz kfk kfl kfe kU ik m pl tau qf zf IF t gz hk hl he cw0 cf cg v as9 U K rs A9 lq lz It Mv hX hT hSc hL hi hI (kk hi)
          · refine z_tab (tgt := 1086) (j := 30) hX (by decide) dL_law_33 (by decide) (by decide) rfl (by decide) ?_
            exact law_drop X A H0 G q9 t9 b L i xs x w now nh cr ck cl ce past pm ph kw know knh kcr kck kcl kce kpast kpm kph tp lt sx hs it fo fh gu gk gl ge ch mx ad o u s rho h sz fk fl fe ko ku ks krho kh ksz kfk kfl kfe kU ik m pl tau qf zf IF t gz hk hl he cw0 cf cg v as9 U K rs A9 lq lz It Mv hX hT hSc hL hi hI (kk hi)
          · refine z_tab (tgt := 1109) (j := 31) hX (by decide) dL_law_33 (by decide) (by decide) rfl (by decide) ?_
            exact law_item X A H0 G q9 t9 b L i xs x w now nh cr ck cl ce past pm ph kw know knh kcr kck kcl kce kpast kpm kph tp lt sx hs it fo fh gu gk gl ge ch mx ad o u s rho h sz fk fl fe ko ku ks krho kh ksz kfk kfl kfe kU ik m pl tau qf zf IF t gz hk hl he cw0 cf cg v as9 U K rs A9 lq lz It Mv hX hT hSc hL hi hI (kk hi)
          · refine z_tab (tgt := 1192) (j := 32) hX (by decide) dL_law_33 (by decide) (by decide) rfl (by decide) ?_
            exact law_copy X A H0 G q9 t9 b L i xs x w now nh cr ck cl ce past pm ph kw know knh kcr kck kcl kce kpast kpm kph tp lt sx hs it fo fh gu gk gl ge ch mx ad o u s rho h sz fk fl fe ko ku ks krho kh ksz kfk kfl kfe kU ik m pl tau qf zf IF t gz hk hl he cw0 cf cg v as9 U K rs A9 lq lz It Mv hX hT hSc hL hi hI (kk hi)
        · refine z_tabOut (tgt := 1255) hX dL_law_33 (Or.inr (by rw [nI_toInt (by omega)]; omega)) (by decide) ?_
          exact kk hi o u s rho h sz fk fl fe ko ku ks krho kh ksz kfk kfl kfe kU ik m pl tau qf zf IF t gz hk hl he cw0 cf cg v as9 U K rs A9 lq lz It Mv hI
