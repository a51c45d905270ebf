/-! THE LAW: its loop, its start -/
theorem lw_gt {L i : Nat} (hL : L ≤ 256) (hi : i ≤ 256) : nI L - nI 4 < nI i ↔ L < i + 4 := by
  rw [Int32.lt_iff_toInt_lt, pk_sub_toInt (by omega) (by omega), nI_toInt (by omega)]
  omega
set_option maxRecDepth 20000 in
set_option maxHeartbeats 4000000 in
theorem law_loop (sk A : Nat → Nat) (yy : MethodName) (hL11 : sk 11 ≤ 256) : ∀ (n i : Nat), sk 11 ≤ i + n → i ≤ 256 → ∀ (st : Bool) (fp : Int32) (len fcn : Nat) (ai fa0 fp0 : Int32) (pt hm sn : Bool) (fb fF fn : Nat → Int32) (T : Nat → Nat) (gs : Nat → Int32) (w a r : Nat → Nat) (F2 C2 V2 E2 N2 S2 : Int32) (sfs sfw sfa sfr : Nat → Int32) (s : PSt) (sd : Int32) (fim : Nat → Option Nat) (s0 s1 : PSt) (d0 d1 : Int32) (fk : Nat → Int32) (n : Nat) (fc ff : Nat → Int32) (gt ot dt : Int32) (f0t : Nat → Int32) (gI last : Int32) (once : Bool) (ag : Int32) (af : Bool) (stp : Nat → Option Nat) (g0 o0 z0 g1 o1 z1 g2 o2 z2 g3 o3 z3 g4 o4 z4 g5 o5 z5 : Int32) (u0 u1 u2 u3 u4 u5 frr f9 : Nat → Int32) (far : Nat → Option Nat) (qf : Nat → Nat → Int32) (fg ffn : Nat → Int32) (rx : Int32) (fo : Bool) (ftn : Nat → Int32) (gr or_ dr : Int32) (f0r : Nat → Int32) (t : PSt) (zd at_ so sta sz fl : Int32) (iha isn : Bool) (ru : Int32) (fx fd : Nat → Int32) (sm : PSt) (fnow fi64 fz fkm fwm ffm fr6 fb6 tu6 : Nat → Int32) (tx who frs : Nat → Nat), IText len tx fb fx → IPlan T w a r gs → SlB sfs → ISt (T 0) s sm → IImg (T 0) 0 s0 d0 fk fkm fi64 fz → IImg (T 0) 1 s1 d1 fk fkm fi64 fz → IList (T 1) n who frs fc ff fwm ffm → ICache T w a r st t ag af f9 fg ffn qf rx fo ftn → IFix A fim stp far → GG sk RL yy cL_law 4 (some .boolean) 100 73 1816 PLaw 73 1816 18 [some (.ref (sk 10)), some (.ref (A 0)), some (.ref (A 59)), some (.int (nI i))] [] [oMain (A 0) (A 1) (A 5) (A 10) (A 15) (A 17) (A 22) (A 23) (A 28) (A 53) (A 57) st fp, oReader (A 1) (A 2) (A 3) (A 4) (nI len) ai fa0 fp0 (nI fcn) pt hm sn, cB (A 2) 400 fb, cZ (A 3) 30 fF, cI (A 4) 3 fn, oPlan (A 5) (A 6) (A 7) (A 8) (A 9) (nI (T 0)) (nI (T 1)) (nI (T 2)) (nI (T 3)) (nI (T 4)) (nI (T 5)), cI (A 6) 30 gs, cI (A 7) 6 (fI w), cI (A 8) 6 (fI a), cI (A 9) 6 (fI r), oPlan (A 10) (A 11) (A 12) (A 13) (A 14) F2 C2 V2 E2 N2 S2, cI (A 11) 30 sfs, cI (A 12) 6 sfw, cI (A 13) 6 sfa, cI (A 14) 6 sfr, oPoleS (A 15) (A 16) s sd, cI (A 16) 30 (fI s.1), cP (A 17) 2 fim, oPoleS (A 18) (A 19) s0 d0, cI (A 19) 30 (fI s0.1), oPoleS (A 20) (A 21) s1 d1, cI (A 21) 30 (fI s1.1), cZ (A 22) 2 fk, oTale (A 23) (A 24) (A 25) (A 26) (nI n), cI (A 24) 12 fc, cI (A 25) 12 ff, oPole (A 26) (A 27) gt ot dt, cI (A 27) 30 f0t, oRows (A 28) (A 29) (A 42) gI last once (A 43) ag af (A 44) (A 51) (A 52), cP (A 29) 6 stp, oPole (A 30) (A 31) g0 o0 z0, cI (A 31) 30 u0, oPole (A 32) (A 33) g1 o1 z1, cI (A 33) 30 u1, oPole (A 34) (A 35) g2 o2 z2, cI (A 35) 30 u2, oPole (A 36) (A 37) g3 o3 z3, cI (A 37) 30 u3, oPole (A 38) (A 39) g4 o4 z4, cI (A 39) 30 u4, oPole (A 40) (A 41) g5 o5 z5, cI (A 41) 30 u5, cI (A 42) 6 frr, cI (A 43) 6 f9, cA (A 44) 6 far, cI (A 45) 6 (qf 0), cI (A 46) 6 (qf 1), cI (A 47) 6 (qf 2), cI (A 48) 6 (qf 3), cI (A 49) 6 (qf 4), cI (A 50) 6 (qf 5), cI (A 51) 6 fg, cZ (A 52) 6 ffn, oRests (A 53) (A 54) (A 55) rx fo, cI (A 54) 6 ftn, oPole (A 55) (A 56) gr or_ dr, cI (A 56) 30 f0r, oPoleS (A 57) (A 58) t zd, cI (A 58) 30 (fI t.1), oMod (A 59) (A 60) (nI len) (A 61) (A 62) (A 63) (A 64) (A 65) (A 66) (A 67) (A 68) (A 69) (nI n) sd fp at_ so sta sz fl iha isn ru (A 70) (A 71) (A 72), cI (A 60) 400 fx, cI (A 61) 56 (fI T), cI (A 62) 56 fd, cI (A 63) 32 (fS sm), cI (A 64) 32 fnow, cI (A 65) 64 fi64, cI (A 66) 2 fz, cZ (A 67) 2 fkm, cI (A 68) 12 fwm, cI (A 69) 12 ffm, cI (A 70) 6 fr6, cI (A 71) 6 fb6, cI (A 72) 6 tu6] := by
  intro n
  induction n with
  | zero =>
    intro i hn hi
    intro st fp len fcn ai fa0 fp0 pt hm sn fb fF fn T gs w a r F2 C2 V2 E2 N2 S2 sfs sfw sfa sfr s sd fim s0 s1 d0 d1 fk n fc ff gt ot dt f0t gI last once ag af stp g0 o0 z0 g1 o1 z1 g2 o2 z2 g3 o3 z3 g4 o4 z4 g5 o5 z5 u0 u1 u2 u3 u4 u5 frr f9 far qf fg ffn rx fo ftn gr or_ dr f0r t zd at_ so sta sz fl iha isn ru fx fd sm fnow fi64 fz fkm fwm ffm fr6 fb6 tu6 tx who frs hT hP hL hS h0 h1 hN hC hX
    refine g_iload_n dL_law_18 rfl rfl ?_
    refine g_aload_n dL_law_19 rfl rfl ?_
    refine g_slen dL_law_20 rfl ?_
    refine g_iconst (v := nI 4) dL_law_21 rfl (by decide) ?_
    refine g_isub dL_law_22 rfl rfl ?_
    refine g_icmp_gt (t := 705) dL_law_23 (by decide) rfl (fun h23 => ?_) (fun h23 => ?_)
    · skip
      refine g_iconst (v := nI 1) dL_law_705 rfl (by decide) ?_
      exact g_zret (b := true) dL_law_706 rfl (Nat.le_refl _) (Nat.le_refl _) (rfl)
    · exact absurd ((lw_gt hL11 hi).mpr (by omega)) h23
  | succ n ih =>
    intro i hn hi
    intro st fp len fcn ai fa0 fp0 pt hm sn fb fF fn T gs w a r F2 C2 V2 E2 N2 S2 sfs sfw sfa sfr s sd fim s0 s1 d0 d1 fk n fc ff gt ot dt f0t gI last once ag af stp g0 o0 z0 g1 o1 z1 g2 o2 z2 g3 o3 z3 g4 o4 z4 g5 o5 z5 u0 u1 u2 u3 u4 u5 frr f9 far qf fg ffn rx fo ftn gr or_ dr f0r t zd at_ so sta sz fl iha isn ru fx fd sm fnow fi64 fz fkm fwm ffm fr6 fb6 tu6 tx who frs hT hP hL hS h0 h1 hN hC hX
    refine g_iload_n dL_law_18 rfl rfl ?_
    refine g_aload_n dL_law_19 rfl rfl ?_
    refine g_slen dL_law_20 rfl ?_
    refine g_iconst (v := nI 4) dL_law_21 rfl (by decide) ?_
    refine g_isub dL_law_22 rfl rfl ?_
    refine g_icmp_gt (t := 705) dL_law_23 (by decide) rfl (fun h23 => ?_) (fun h23 => ?_)
    · skip
      refine g_iconst (v := nI 1) dL_law_705 rfl (by decide) ?_
      exact g_zret (b := true) dL_law_706 rfl (Nat.le_refl _) (Nat.le_refl _) (rfl)
    · have hi4 : i + 4 ≤ sk 11 := Nat.not_lt.mp (fun q => h23 ((lw_gt hL11 hi).mpr q))
      obtain ⟨x0, hx0⟩ : ∃ x, nI (sk (12 + i)) = x := ⟨_, rfl⟩
      obtain ⟨k, hk, hkx⟩ := pk_andE x0 (m := nI 31) 5 rfl
      have hk32 : k < 32 := hk
      have hK2 : ∀ (st : Bool) (fp : Int32) (len fcn : Nat) (ai fa0 fp0 : Int32) (pt hm sn : Bool) (fb fF fn : Nat → Int32) (T : Nat → Nat) (gs : Nat → Int32) (w a r : Nat → Nat) (F2 C2 V2 E2 N2 S2 : Int32) (sfs sfw sfa sfr : Nat → Int32) (s : PSt) (sd : Int32) (fim : Nat → Option Nat) (s0 s1 : PSt) (d0 d1 : Int32) (fk : Nat → Int32) (n : Nat) (fc ff : Nat → Int32) (gt ot dt : Int32) (f0t : Nat → Int32) (gI last : Int32) (once : Bool) (ag : Int32) (af : Bool) (stp : Nat → Option Nat) (g0 o0 z0 g1 o1 z1 g2 o2 z2 g3 o3 z3 g4 o4 z4 g5 o5 z5 : Int32) (u0 u1 u2 u3 u4 u5 frr f9 : Nat → Int32) (far : Nat → Option Nat) (qf : Nat → Nat → Int32) (fg ffn : Nat → Int32) (rx : Int32) (fo : Bool) (ftn : Nat → Int32) (gr or_ dr : Int32) (f0r : Nat → Int32) (t : PSt) (zd at_ so sta sz fl : Int32) (iha isn : Bool) (ru : Int32) (fx fd : Nat → Int32) (sm : PSt) (fnow fi64 fz fkm fwm ffm fr6 fb6 tu6 : Nat → Int32) (tx who frs : Nat → Nat), IText len tx fb fx → IPlan T w a r gs → SlB sfs → ISt (T 0) s sm → IImg (T 0) 0 s0 d0 fk fkm fi64 fz → IImg (T 0) 1 s1 d1 fk fkm fi64 fz → IList (T 1) n who frs fc ff fwm ffm → ICache T w a r st t ag af f9 fg ffn qf rx fo ftn → IFix A fim stp far → GG sk RL yy cL_law 4 (some .boolean) 100 73 1816 PLaw 73 1816 699 [some (.ref (sk 10)), some (.ref (A 0)), some (.ref (A 59)), some (.int (nI i))] [] [oMain (A 0) (A 1) (A 5) (A 10) (A 15) (A 17) (A 22) (A 23) (A 28) (A 53) (A 57) st fp, oReader (A 1) (A 2) (A 3) (A 4) (nI len) ai fa0 fp0 (nI fcn) pt hm sn, cB (A 2) 400 fb, cZ (A 3) 30 fF, cI (A 4) 3 fn, oPlan (A 5) (A 6) (A 7) (A 8) (A 9) (nI (T 0)) (nI (T 1)) (nI (T 2)) (nI (T 3)) (nI (T 4)) (nI (T 5)), cI (A 6) 30 gs, cI (A 7) 6 (fI w), cI (A 8) 6 (fI a), cI (A 9) 6 (fI r), oPlan (A 10) (A 11) (A 12) (A 13) (A 14) F2 C2 V2 E2 N2 S2, cI (A 11) 30 sfs, cI (A 12) 6 sfw, cI (A 13) 6 sfa, cI (A 14) 6 sfr, oPoleS (A 15) (A 16) s sd, cI (A 16) 30 (fI s.1), cP (A 17) 2 fim, oPoleS (A 18) (A 19) s0 d0, cI (A 19) 30 (fI s0.1), oPoleS (A 20) (A 21) s1 d1, cI (A 21) 30 (fI s1.1), cZ (A 22) 2 fk, oTale (A 23) (A 24) (A 25) (A 26) (nI n), cI (A 24) 12 fc, cI (A 25) 12 ff, oPole (A 26) (A 27) gt ot dt, cI (A 27) 30 f0t, oRows (A 28) (A 29) (A 42) gI last once (A 43) ag af (A 44) (A 51) (A 52), cP (A 29) 6 stp, oPole (A 30) (A 31) g0 o0 z0, cI (A 31) 30 u0, oPole (A 32) (A 33) g1 o1 z1, cI (A 33) 30 u1, oPole (A 34) (A 35) g2 o2 z2, cI (A 35) 30 u2, oPole (A 36) (A 37) g3 o3 z3, cI (A 37) 30 u3, oPole (A 38) (A 39) g4 o4 z4, cI (A 39) 30 u4, oPole (A 40) (A 41) g5 o5 z5, cI (A 41) 30 u5, cI (A 42) 6 frr, cI (A 43) 6 f9, cA (A 44) 6 far, cI (A 45) 6 (qf 0), cI (A 46) 6 (qf 1), cI (A 47) 6 (qf 2), cI (A 48) 6 (qf 3), cI (A 49) 6 (qf 4), cI (A 50) 6 (qf 5), cI (A 51) 6 fg, cZ (A 52) 6 ffn, oRests (A 53) (A 54) (A 55) rx fo, cI (A 54) 6 ftn, oPole (A 55) (A 56) gr or_ dr, cI (A 56) 30 f0r, oPoleS (A 57) (A 58) t zd, cI (A 58) 30 (fI t.1), oMod (A 59) (A 60) (nI len) (A 61) (A 62) (A 63) (A 64) (A 65) (A 66) (A 67) (A 68) (A 69) (nI n) sd fp at_ so sta sz fl iha isn ru (A 70) (A 71) (A 72), cI (A 60) 400 fx, cI (A 61) 56 (fI T), cI (A 62) 56 fd, cI (A 63) 32 (fS sm), cI (A 64) 32 fnow, cI (A 65) 64 fi64, cI (A 66) 2 fz, cZ (A 67) 2 fkm, cI (A 68) 12 fwm, cI (A 69) 12 ffm, cI (A 70) 6 fr6, cI (A 71) 6 fb6, cI (A 72) 6 tu6] := by
        intro st fp len fcn ai fa0 fp0 pt hm sn fb fF fn T gs w a r F2 C2 V2 E2 N2 S2 sfs sfw sfa sfr s sd fim s0 s1 d0 d1 fk n fc ff gt ot dt f0t gI last once ag af stp g0 o0 z0 g1 o1 z1 g2 o2 z2 g3 o3 z3 g4 o4 z4 g5 o5 z5 u0 u1 u2 u3 u4 u5 frr f9 far qf fg ffn rx fo ftn gr or_ dr f0r t zd at_ so sta sz fl iha isn ru fx fd sm fnow fi64 fz fkm fwm ffm fr6 fb6 tu6 tx who frs hT hP hL hS h0 h1 hN hC hX
        refine g_iinc dL_law_699 rfl rfl (nI_add _ 4) (by decide) rfl rfl ?_
        refine g_goto (q := 18) dL_law_702 (by decide) ?_
        exact ih (i + 4) (by omega) (by omega) st fp len fcn ai fa0 fp0 pt hm sn fb fF fn T gs w a r F2 C2 V2 E2 N2 S2 sfs sfw sfa sfr s sd fim s0 s1 d0 d1 fk n fc ff gt ot dt f0t gI last once ag af stp g0 o0 z0 g1 o1 z1 g2 o2 z2 g3 o3 z3 g4 o4 z4 g5 o5 z5 u0 u1 u2 u3 u4 u5 frr f9 far qf fg ffn rx fo ftn gr or_ dr f0r t zd at_ so sta sz fl iha isn ru fx fd sm fnow fi64 fz fkm fwm ffm fr6 fb6 tu6 tx who frs hT hP hL hS h0 h1 hN hC hX
      refine g_aload_n dL_law_26 rfl rfl ?_
      refine g_iload_n dL_law_27 rfl rfl ?_
      refine g_sld dL_law_28 rfl (by omega) hL11 hx0 ?_
      refine g_bipush (v := nI 31) dL_law_29 rfl (by decide) ?_
      refine g_iand dL_law_31 rfl (hkx) ?_
      rcases (show k = 0 ∨ k = 1 ∨ k = 2 ∨ k = 3 ∨ k = 4 ∨ k = 5 ∨ k = 6 ∨ k = 7 ∨ k = 8 ∨ k = 9 ∨ k = 10 ∨ k = 11 ∨ k = 12 ∨ k = 13 ∨ k = 14 ∨ k = 15 ∨ k = 16 ∨ k = 17 ∨ k = 18 ∨ k = 19 ∨ k = 20 ∨ k = 21 ∨ k = 22 ∨ k = 23 ∨ k = 24 ∨ k = 25 ∨ k = 26 ∨ k = 27 ∨ k = 28 ∨ k = 29 ∨ k = 30 ∨ k = 31 by omega) with rfl | rfl | rfl | rfl | rfl | rfl | rfl | rfl | rfl | rfl | rfl | rfl | rfl | rfl | rfl | rfl | rfl | rfl | rfl | rfl | rfl | rfl | rfl | rfl | rfl | rfl | rfl | rfl | rfl | rfl | rfl | rfl
      · refine g_tblIn (q := 140) (off := 108) dL_law_32 (by decide) (by decide) (by decide) (by decide) ?_
        exact law_0 sk A yy hi4 hL11 hK2 hT hP hL hS h0 h1 hN hC hX
      · refine g_tblIn (q := 203) (off := 171) dL_law_32 (by decide) (by decide) (by decide) (by decide) ?_
        exact law_1 sk A yy hi4 hL11 hK2 hT hP hL hS h0 h1 hN hC hX
      · refine g_tblIn (q := 216) (off := 184) dL_law_32 (by decide) (by decide) (by decide) (by decide) ?_
        exact law_2 sk A yy hi4 hL11 hK2 hT hP hL hS h0 h1 hN hC hX
      · refine g_tblIn (q := 229) (off := 197) dL_law_32 (by decide) (by decide) (by decide) (by decide) ?_
        exact law_3 sk A yy hi4 hL11 hK2 hT hP hL hS h0 h1 hN hC hX
      · refine g_tblIn (q := 252) (off := 220) dL_law_32 (by decide) (by decide) (by decide) (by decide) ?_
        exact law_4 sk A yy hi4 hL11 hK2 hT hP hL hS h0 h1 hN hC hX
      · refine g_tblIn (q := 275) (off := 243) dL_law_32 (by decide) (by decide) (by decide) (by decide) ?_
        exact law_5 sk A yy hi4 hL11 hK2 hT hP hL hS h0 h1 hN hC hX
      · refine g_tblIn (q := 308) (off := 276) dL_law_32 (by decide) (by decide) (by decide) (by decide) ?_
        exact law_6 sk A yy hi4 hL11 hK2 hT hP hL hS h0 h1 hN hC hX
      · refine g_tblIn (q := 331) (off := 299) dL_law_32 (by decide) (by decide) (by decide) (by decide) ?_
        exact law_7 sk A yy hi4 hL11 hK2 hT hP hL hS h0 h1 hN hC hX
      · refine g_tblIn (q := 374) (off := 342) dL_law_32 (by decide) (by decide) (by decide) (by decide) ?_
        exact law_8 sk A yy hi4 hL11 hK2 hT hP hL hS h0 h1 hN hC hX
      · refine g_tblIn (q := 387) (off := 355) dL_law_32 (by decide) (by decide) (by decide) (by decide) ?_
        exact law_9 sk A yy hi4 hL11 hK2 hT hP hL hS h0 h1 hN hC hX
      · refine g_tblIn (q := 400) (off := 368) dL_law_32 (by decide) (by decide) (by decide) (by decide) ?_
        exact law_10 sk A yy hi4 hL11 hK2 hT hP hL hS h0 h1 hN hC hX
      · refine g_tblIn (q := 423) (off := 391) dL_law_32 (by decide) (by decide) (by decide) (by decide) ?_
        exact law_11 sk A yy hi4 hL11 hK2 hT hP hL hS h0 h1 hN hC hX
      · refine g_tblIn (q := 446) (off := 414) dL_law_32 (by decide) (by decide) (by decide) (by decide) ?_
        exact law_12 sk A yy hi4 hL11 hK2 hT hP hL hS h0 h1 hN hC hX
      · refine g_tblIn (q := 479) (off := 447) dL_law_32 (by decide) (by decide) (by decide) (by decide) ?_
        exact law_13 sk A yy hi4 hL11 hK2 hT hP hL hS h0 h1 hN hC hX
      · refine g_tblIn (q := 502) (off := 470) dL_law_32 (by decide) (by decide) (by decide) (by decide) ?_
        exact law_14 sk A yy hi4 hL11 hK2 hT hP hL hS h0 h1 hN hC hX
      · refine g_tblIn (q := 535) (off := 503) dL_law_32 (by decide) (by decide) (by decide) (by decide) ?_
        exact law_15 sk A yy hi4 hL11 hK2 hT hP hL hS h0 h1 hN hC hX
      · refine g_tblIn (q := 568) (off := 536) dL_law_32 (by decide) (by decide) (by decide) (by decide) ?_
        exact law_16 sk A yy hi4 hL11 hK2 hT hP hL hS h0 h1 hN hC hX
      · refine g_tblIn (q := 581) (off := 549) dL_law_32 (by decide) (by decide) (by decide) (by decide) ?_
        exact law_17 sk A yy hi4 hL11 hK2 hT hP hL hS h0 h1 hN hC hX
      · refine g_tblIn (q := 604) (off := 572) dL_law_32 (by decide) (by decide) (by decide) (by decide) ?_
        exact law_18 sk A yy hi4 hL11 hK2 hT hP hL hS h0 h1 hN hC hX
      · refine g_tblIn (q := 617) (off := 585) dL_law_32 (by decide) (by decide) (by decide) (by decide) ?_
        exact law_19 sk A yy hi4 hL11 hK2 hT hP hL hS h0 h1 hN hC hX
      · refine g_tblIn (q := 630) (off := 598) dL_law_32 (by decide) (by decide) (by decide) (by decide) ?_
        exact law_20 sk A yy hi4 hL11 hK2 hT hP hL hS h0 h1 hN hC hX
      · refine g_tblIn (q := 653) (off := 621) dL_law_32 (by decide) (by decide) (by decide) (by decide) ?_
        exact law_21 sk A yy hi4 hL11 hK2 hT hP hL hS h0 h1 hN hC hX
      · refine g_tblIn (q := 676) (off := 644) dL_law_32 (by decide) (by decide) (by decide) (by decide) ?_
        exact law_22 sk A yy hi4 hL11 hK2 hT hP hL hS h0 h1 hN hC hX
      · refine g_tblOut (q := 699) dL_law_32 (by decide) (by decide) ?_
        exact hK2 st fp len fcn ai fa0 fp0 pt hm sn fb fF fn T gs w a r F2 C2 V2 E2 N2 S2 sfs sfw sfa sfr s sd fim s0 s1 d0 d1 fk n fc ff gt ot dt f0t gI last once ag af stp g0 o0 z0 g1 o1 z1 g2 o2 z2 g3 o3 z3 g4 o4 z4 g5 o5 z5 u0 u1 u2 u3 u4 u5 frr f9 far qf fg ffn rx fo ftn gr or_ dr f0r t zd at_ so sta sz fl iha isn ru fx fd sm fnow fi64 fz fkm fwm ffm fr6 fb6 tu6 tx who frs hT hP hL hS h0 h1 hN hC hX
      · refine g_tblOut (q := 699) dL_law_32 (by decide) (by decide) ?_
        exact hK2 st fp len fcn ai fa0 fp0 pt hm sn fb fF fn T gs w a r F2 C2 V2 E2 N2 S2 sfs sfw sfa sfr s sd fim s0 s1 d0 d1 fk n fc ff gt ot dt f0t gI last once ag af stp g0 o0 z0 g1 o1 z1 g2 o2 z2 g3 o3 z3 g4 o4 z4 g5 o5 z5 u0 u1 u2 u3 u4 u5 frr f9 far qf fg ffn rx fo ftn gr or_ dr f0r t zd at_ so sta sz fl iha isn ru fx fd sm fnow fi64 fz fkm fwm ffm fr6 fb6 tu6 tx who frs hT hP hL hS h0 h1 hN hC hX
      · refine g_tblOut (q := 699) dL_law_32 (by decide) (by decide) ?_
        exact hK2 st fp len fcn ai fa0 fp0 pt hm sn fb fF fn T gs w a r F2 C2 V2 E2 N2 S2 sfs sfw sfa sfr s sd fim s0 s1 d0 d1 fk n fc ff gt ot dt f0t gI last once ag af stp g0 o0 z0 g1 o1 z1 g2 o2 z2 g3 o3 z3 g4 o4 z4 g5 o5 z5 u0 u1 u2 u3 u4 u5 frr f9 far qf fg ffn rx fo ftn gr or_ dr f0r t zd at_ so sta sz fl iha isn ru fx fd sm fnow fi64 fz fkm fwm ffm fr6 fb6 tu6 tx who frs hT hP hL hS h0 h1 hN hC hX
      · refine g_tblOut (q := 699) dL_law_32 (by decide) (by decide) ?_
        exact hK2 st fp len fcn ai fa0 fp0 pt hm sn fb fF fn T gs w a r F2 C2 V2 E2 N2 S2 sfs sfw sfa sfr s sd fim s0 s1 d0 d1 fk n fc ff gt ot dt f0t gI last once ag af stp g0 o0 z0 g1 o1 z1 g2 o2 z2 g3 o3 z3 g4 o4 z4 g5 o5 z5 u0 u1 u2 u3 u4 u5 frr f9 far qf fg ffn rx fo ftn gr or_ dr f0r t zd at_ so sta sz fl iha isn ru fx fd sm fnow fi64 fz fkm fwm ffm fr6 fb6 tu6 tx who frs hT hP hL hS h0 h1 hN hC hX
      · refine g_tblOut (q := 699) dL_law_32 (by decide) (by decide) ?_
        exact hK2 st fp len fcn ai fa0 fp0 pt hm sn fb fF fn T gs w a r F2 C2 V2 E2 N2 S2 sfs sfw sfa sfr s sd fim s0 s1 d0 d1 fk n fc ff gt ot dt f0t gI last once ag af stp g0 o0 z0 g1 o1 z1 g2 o2 z2 g3 o3 z3 g4 o4 z4 g5 o5 z5 u0 u1 u2 u3 u4 u5 frr f9 far qf fg ffn rx fo ftn gr or_ dr f0r t zd at_ so sta sz fl iha isn ru fx fd sm fnow fi64 fz fkm fwm ffm fr6 fb6 tu6 tx who frs hT hP hL hS h0 h1 hN hC hX
      · refine g_tblOut (q := 699) dL_law_32 (by decide) (by decide) ?_
        exact hK2 st fp len fcn ai fa0 fp0 pt hm sn fb fF fn T gs w a r F2 C2 V2 E2 N2 S2 sfs sfw sfa sfr s sd fim s0 s1 d0 d1 fk n fc ff gt ot dt f0t gI last once ag af stp g0 o0 z0 g1 o1 z1 g2 o2 z2 g3 o3 z3 g4 o4 z4 g5 o5 z5 u0 u1 u2 u3 u4 u5 frr f9 far qf fg ffn rx fo ftn gr or_ dr f0r t zd at_ so sta sz fl iha isn ru fx fd sm fnow fi64 fz fkm fwm ffm fr6 fb6 tu6 tx who frs hT hP hL hS h0 h1 hN hC hX
      · refine g_tblOut (q := 699) dL_law_32 (by decide) (by decide) ?_
        exact hK2 st fp len fcn ai fa0 fp0 pt hm sn fb fF fn T gs w a r F2 C2 V2 E2 N2 S2 sfs sfw sfa sfr s sd fim s0 s1 d0 d1 fk n fc ff gt ot dt f0t gI last once ag af stp g0 o0 z0 g1 o1 z1 g2 o2 z2 g3 o3 z3 g4 o4 z4 g5 o5 z5 u0 u1 u2 u3 u4 u5 frr f9 far qf fg ffn rx fo ftn gr or_ dr f0r t zd at_ so sta sz fl iha isn ru fx fd sm fnow fi64 fz fkm fwm ffm fr6 fb6 tu6 tx who frs hT hP hL hS h0 h1 hN hC hX
      · refine g_tblOut (q := 699) dL_law_32 (by decide) (by decide) ?_
        exact hK2 st fp len fcn ai fa0 fp0 pt hm sn fb fF fn T gs w a r F2 C2 V2 E2 N2 S2 sfs sfw sfa sfr s sd fim s0 s1 d0 d1 fk n fc ff gt ot dt f0t gI last once ag af stp g0 o0 z0 g1 o1 z1 g2 o2 z2 g3 o3 z3 g4 o4 z4 g5 o5 z5 u0 u1 u2 u3 u4 u5 frr f9 far qf fg ffn rx fo ftn gr or_ dr f0r t zd at_ so sta sz fl iha isn ru fx fd sm fnow fi64 fz fkm fwm ffm fr6 fb6 tu6 tx who frs hT hP hL hS h0 h1 hN hC hX
      · refine g_tblOut (q := 699) dL_law_32 (by decide) (by decide) ?_
        exact hK2 st fp len fcn ai fa0 fp0 pt hm sn fb fF fn T gs w a r F2 C2 V2 E2 N2 S2 sfs sfw sfa sfr s sd fim s0 s1 d0 d1 fk n fc ff gt ot dt f0t gI last once ag af stp g0 o0 z0 g1 o1 z1 g2 o2 z2 g3 o3 z3 g4 o4 z4 g5 o5 z5 u0 u1 u2 u3 u4 u5 frr f9 far qf fg ffn rx fo ftn gr or_ dr f0r t zd at_ so sta sz fl iha isn ru fx fd sm fnow fi64 fz fkm fwm ffm fr6 fb6 tu6 tx who frs hT hP hL hS h0 h1 hN hC hX
set_option maxRecDepth 20000 in
set_option maxHeartbeats 4000000 in
theorem law_go (sk : Nat → Nat) (yy : MethodName) (hL11 : sk 11 ≤ 256) : GG sk RL yy cL_law 4 (some .boolean) 100 73 1816 PLaw 0 0 0 [some (.ref (sk 10)), none, none, none] [] [] := by
  refine g_new w_L_7 df_X6 dL_law_0 rfl (by decide) (by decide) (fun o1 => ?_)
  dsimp only [List.cons_append, List.nil_append]
  refine g_dup dL_law_3 rfl rfl ?_
  refine g_callI (c_X6_init sk) m_L_9 a_X6_init dL_law_4 rfl [0] rfl rfl rfl rfl (by decide) (by decide) (by decide) (by decide) (Nat.le_of_ble_eq_true rfl) (fun r w hK => ?_)
  obtain ⟨rfl, rd, rt, rf, rn, pl, pls, plw, pla, plr, sp, sps, spw, spa, spr, nw, nws, im, i0, i0s, i1, i1s, kp, tl, tc, tf, tp, ts, ro, rs4, p0, q0, p1, q1, p2, q2, p3, q3, p4, q4, p5, q5, rw_, rv, ro4, rr, rg, re, rs, rst, rsp, rss, ak, aks, rfl⟩ := hK
  refine ⟨rfl, ?_⟩
  dsimp only [puts, List.set, Option.toList, List.cons_append, List.nil_append, List.append_nil]
  refine g_astore_n dL_law_7 rfl (by decide) rfl rfl ?_
  refine g_new w_L_10 df_X7 dL_law_8 rfl (by decide) (by decide) (fun o2 => ?_)
  dsimp only [List.cons_append, List.nil_append]
  refine g_dup dL_law_11 rfl rfl ?_
  refine g_callI (c_X7_init sk) m_L_12 a_X7_init dL_law_12 rfl [59] rfl rfl rfl rfl (by decide) (by decide) (by decide) (by decide) (Nat.le_of_ble_eq_true rfl) (fun r w hK => ?_)
  obtain ⟨rfl, mt, mo, md, ms, mn, mi, mz, mk, mw, mf, mr, mb, mu, a2, so2, sta2, sz2, fl2, b1, b2, T2, rfl, hT2⟩ := hK
  refine ⟨rfl, ?_⟩
  dsimp only [puts, List.set, Option.toList, List.cons_append, List.nil_append, List.append_nil]
  refine g_astore_n dL_law_15 rfl (by decide) rfl rfl ?_
  refine g_iconst (v := nI 0) dL_law_16 rfl (by decide) ?_
  refine g_istore_n dL_law_17 rfl (by decide) rfl rfl ?_
  obtain ⟨A, rfl, rfl, rfl, rfl, rfl, rfl, rfl, rfl, rfl, rfl, rfl, rfl, rfl, rfl, rfl, rfl, rfl, rfl, rfl, rfl, rfl, rfl, rfl, rfl, rfl, rfl, rfl, rfl, rfl, rfl, rfl, rfl, rfl, rfl, rfl, rfl, rfl, rfl, rfl, rfl, rfl, rfl, rfl, rfl, rfl, h45, h46, h47, h48, h49, h50, rfl, rfl, rfl, rfl, rfl, rfl, rfl, rfl, rfl, rfl, rfl, rfl, rfl, rfl, rfl, rfl, rfl, rfl, rfl, rfl, rfl, rfl⟩ : ∃ A : Nat → Nat, A 0 = o1 ∧ A 1 = rd ∧ A 2 = rt ∧ A 3 = rf ∧ A 4 = rn ∧ A 5 = pl ∧ A 6 = pls ∧ A 7 = plw ∧ A 8 = pla ∧ A 9 = plr ∧ A 10 = sp ∧ A 11 = sps ∧ A 12 = spw ∧ A 13 = spa ∧ A 14 = spr ∧ A 15 = nw ∧ A 16 = nws ∧ A 17 = im ∧ A 18 = i0 ∧ A 19 = i0s ∧ A 20 = i1 ∧ A 21 = i1s ∧ A 22 = kp ∧ A 23 = tl ∧ A 24 = tc ∧ A 25 = tf ∧ A 26 = tp ∧ A 27 = ts ∧ A 28 = ro ∧ A 29 = rs4 ∧ A 30 = p0 ∧ A 31 = q0 ∧ A 32 = p1 ∧ A 33 = q1 ∧ A 34 = p2 ∧ A 35 = q2 ∧ A 36 = p3 ∧ A 37 = q3 ∧ A 38 = p4 ∧ A 39 = q4 ∧ A 40 = p5 ∧ A 41 = q5 ∧ A 42 = rw_ ∧ A 43 = rv ∧ A 44 = ro4 ∧ A 45 = (rr 0) ∧ A 46 = (rr 1) ∧ A 47 = (rr 2) ∧ A 48 = (rr 3) ∧ A 49 = (rr 4) ∧ A 50 = (rr 5) ∧ A 51 = rg ∧ A 52 = re ∧ A 53 = rs ∧ A 54 = rst ∧ A 55 = rsp ∧ A 56 = rss ∧ A 57 = ak ∧ A 58 = aks ∧ A 59 = o2 ∧ A 60 = mt ∧ A 61 = mo ∧ A 62 = md ∧ A 63 = ms ∧ A 64 = mn ∧ A 65 = mi ∧ A 66 = mz ∧ A 67 = mk ∧ A 68 = mw ∧ A 69 = mf ∧ A 70 = mr ∧ A 71 = mb ∧ A 72 = mu := ⟨fun k => [o1, rd, rt, rf, rn, pl, pls, plw, pla, plr, sp, sps, spw, spa, spr, nw, nws, im, i0, i0s, i1, i1s, kp, tl, tc, tf, tp, ts, ro, rs4, p0, q0, p1, q1, p2, q2, p3, q3, p4, q4, p5, q5, rw_, rv, ro4, (rr 0), (rr 1), (rr 2), (rr 3), (rr 4), (rr 5), rg, re, rs, rst, rsp, rss, ak, aks, o2, mt, mo, md, ms, mn, mi, mz, mk, mw, mf, mr, mb, mu].getD k 0, rfl, rfl, rfl, rfl, rfl, rfl, rfl, rfl, rfl, rfl, rfl, rfl, rfl, rfl, rfl, rfl, rfl, rfl, rfl, rfl, rfl, rfl, rfl, rfl, rfl, rfl, rfl, rfl, rfl, rfl, rfl, rfl, rfl, rfl, rfl, rfl, rfl, rfl, rfl, rfl, rfl, rfl, rfl, rfl, rfl, rfl, rfl, rfl, rfl, rfl, rfl, rfl, rfl, rfl, rfl, rfl, rfl, rfl, rfl, rfl, rfl, rfl, rfl, rfl, rfl, rfl, rfl, rfl, rfl, rfl, rfl, rfl, rfl⟩
  rw [← h45, ← h46, ← h47, ← h48, ← h49, ← h50]
  have t0 : T2 0 = 0 := hT2 0 (by decide)
  have t1 : T2 1 = 0 := hT2 1 (by decide)
  have hP2 : IPlan T2 (fun _ => 0) (fun _ => 0) (fun _ => 0) (fun _ => nI 0) := ⟨QB_T q0QB hT2, fun c hc => absurd hc (by rw [t1]; exact Nat.not_lt_zero c), fun hF => absurd hF (by rw [t0]; decide), fun j _ => ⟨0, by decide, rfl⟩⟩
  refine g_cong (g := fI (cutG (fun _ => nI 0))) 16 rfl (cutG_fI _) rfl ?_
  dsimp only [List.set]
  refine g_cong (g := fS (cutT T2, nI 0, -1)) 63 rfl (cutT_fS T2 (nI 0, -1)) rfl ?_
  dsimp only [List.set]
  have e0 : nI (T2 0) = nI 0 := by rw [hT2 0 (by decide)]; rfl
  have e1 : nI (T2 1) = nI 0 := by rw [hT2 1 (by decide)]; rfl
  have e2 : nI (T2 2) = nI 100 := by rw [hT2 2 (by decide)]; rfl
  have e3 : nI (T2 3) = nI 1 := by rw [hT2 3 (by decide)]; rfl
  have e4 : nI (T2 4) = nI 1 := by rw [hT2 4 (by decide)]; rfl
  have e5 : nI (T2 5) = nI 0 := by rw [hT2 5 (by decide)]; rfl
  have h0 := law_loop sk A yy hL11 (sk 11) 0 (by omega) (by omega) false (-1) 0 0 (nI 0) (nI 0) (-1) false false false (fun _ => nI 0) (fun _ => zb false) (fun _ => nI 0) T2 (fun _ => nI 0) (fun _ => 0) (fun _ => 0) (fun _ => 0) (nI 0) (nI 0) (nI 100) (nI 1) (nI 1) (nI 0) (fun _ => nI 0) (fun _ => nI 0) (fun _ => nI 0) (fun _ => nI 0) (cutG (fun _ => nI 0), nI 0, -1) (nI 0) (fun i => if i = 1 then some (A 20) else if i = 0 then some (A 18) else none) ((fun _ => 0), nI 0, -1) ((fun _ => 0), nI 0, -1) (nI 0) (nI 0) (fun _ => zb false) 0 (fun _ => nI 0) (fun _ => nI 0) (nI 0) (-1) (nI 0) (fun _ => nI 0) (nI 0) (nI 0) false (nI 0) false (fun i => if i = 5 then some (A 40) else if i = 4 then some (A 38) else if i = 3 then some (A 36) else if i = 2 then some (A 34) else if i = 1 then some (A 32) else if i = 0 then some (A 30) else none) (nI 0) (-1) (nI 0) (nI 0) (-1) (nI 0) (nI 0) (-1) (nI 0) (nI 0) (-1) (nI 0) (nI 0) (-1) (nI 0) (nI 0) (-1) (nI 0) (fun _ => nI 0) (fun _ => nI 0) (fun _ => nI 0) (fun _ => nI 0) (fun _ => nI 0) (fun _ => nI 0) (fun _ => nI 0) (fun _ => nI 0) (fun i => if i < 6 then some (rr i) else none) (fun _ _ => nI 0) (fun _ => nI 0) (fun _ => zb false) (nI 0) false (fun _ => nI 0) (nI 0) (-1) (nI 0) (fun _ => nI 0) ((fun _ => 0), nI 0, -1) (nI 0) a2 so2 sta2 sz2 fl2 b1 b2 (nI 0) (fun _ => nI 0) (fI T2) (cutT T2, nI 0, -1) (fun _ => nI 0) (fun _ => nI 0) (fun _ => nI 0) (fun _ => zb false) (fun _ => nI 0) (fun _ => nI 0) (fun _ => nI 0) (fun _ => nI 0) (fun _ => nI 0) (fun _ => 0) (fun _ => 0) (fun _ => 0) ⟨Nat.zero_le _, fun j hj => absurd hj (Nat.not_lt_zero j), fun j hj => absurd hj (Nat.not_lt_zero j)⟩ hP2 (fun j _ => ⟨0, by decide, rfl⟩) hP2.told (⟨fun j _ => Nat.zero_le _, fun j _ => rfl, false, rfl, rfl, fun q => absurd q (by decide)⟩) (⟨fun j _ => Nat.zero_le _, fun j _ => rfl, false, rfl, rfl, fun q => absurd q (by decide)⟩) ⟨Nat.zero_le _, fun i hi => absurd hi (Nat.not_lt_zero i)⟩ ⟨fun j _ => Nat.zero_le _, fun j _ => rfl, fun q => absurd q (by decide), fun c _ => ⟨false, rfl, fun q => absurd q (by decide)⟩, fun q => absurd q (by decide)⟩ ⟨⟨rfl, rfl⟩, ⟨rfl, rfl, rfl, rfl, rfl, rfl⟩, (by show some (rr 0) = some (A 45); rw [h45]), (by show some (rr 1) = some (A 46); rw [h46]), (by show some (rr 2) = some (A 47); rw [h47]), (by show some (rr 3) = some (A 48); rw [h48]), (by show some (rr 4) = some (A 49); rw [h49]), (by show some (rr 5) = some (A 50); rw [h50])⟩
  rw [e0, e1, e2, e3, e4, e5] at h0
  exact h0
