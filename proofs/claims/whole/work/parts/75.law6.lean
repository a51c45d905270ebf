/-! THE LAW: forOne -/
set_option maxRecDepth 20000 in
set_option maxHeartbeats 4000000 in
theorem law_12 (sk A : Nat → Nat) (yy : MethodName) {i : Nat} (hi : i + 4 ≤ sk 11) (hL11 : sk 11 ≤ 256) (hK : ∀ (st : Bool) (fp : Int32) (len fcn : Nat) (ai fa0 fp0 : Int32) (pt hm sn : Bool) (fb fF fn : Nat → Int32) (T : Nat → Nat) (gs : Nat → Int32) (w a r : Nat → Nat) (F2 C2 V2 E2 N2 S2 : Int32) (sfs sfw sfa sfr : Nat → Int32) (s : PSt) (sd : Int32) (fim : Nat → Option Nat) (s0 s1 : PSt) (d0 d1 : Int32) (fk : Nat → Int32) (n : Nat) (fc ff : Nat → Int32) (gt ot dt : Int32) (f0t : Nat → Int32) (gI last : Int32) (once : Bool) (ag : Int32) (af : Bool) (stp : Nat → Option Nat) (g0 o0 z0 g1 o1 z1 g2 o2 z2 g3 o3 z3 g4 o4 z4 g5 o5 z5 : Int32) (u0 u1 u2 u3 u4 u5 frr f9 : Nat → Int32) (far : Nat → Option Nat) (qf : Nat → Nat → Int32) (fg ffn : Nat → Int32) (rx : Int32) (fo : Bool) (ftn : Nat → Int32) (gr or_ dr : Int32) (f0r : Nat → Int32) (t : PSt) (zd at_ so sta sz fl : Int32) (iha isn : Bool) (ru : Int32) (fx fd : Nat → Int32) (sm : PSt) (fnow fi64 fz fkm fwm ffm fr6 fb6 tu6 : Nat → Int32) (tx who frs : Nat → Nat), IText len tx fb fx → IPlan T w a r gs → SlB sfs → ISt (T 0) s sm → IImg (T 0) 0 s0 d0 fk fkm fi64 fz → IImg (T 0) 1 s1 d1 fk fkm fi64 fz → IList (T 1) n who frs fc ff fwm ffm → ICache T w a r st t ag af f9 fg ffn qf rx fo ftn → IFix A fim stp far → GG sk RL yy cL_law 4 (some .boolean) 100 73 1816 PLaw 73 1816 699 [some (.ref (sk 10)), some (.ref (A 0)), some (.ref (A 59)), some (.int (nI i))] [] [oMain (A 0) (A 1) (A 5) (A 10) (A 15) (A 17) (A 22) (A 23) (A 28) (A 53) (A 57) st fp, oReader (A 1) (A 2) (A 3) (A 4) (nI len) ai fa0 fp0 (nI fcn) pt hm sn, cB (A 2) 400 fb, cZ (A 3) 30 fF, cI (A 4) 3 fn, oPlan (A 5) (A 6) (A 7) (A 8) (A 9) (nI (T 0)) (nI (T 1)) (nI (T 2)) (nI (T 3)) (nI (T 4)) (nI (T 5)), cI (A 6) 30 gs, cI (A 7) 6 (fI w), cI (A 8) 6 (fI a), cI (A 9) 6 (fI r), oPlan (A 10) (A 11) (A 12) (A 13) (A 14) F2 C2 V2 E2 N2 S2, cI (A 11) 30 sfs, cI (A 12) 6 sfw, cI (A 13) 6 sfa, cI (A 14) 6 sfr, oPoleS (A 15) (A 16) s sd, cI (A 16) 30 (fI s.1), cP (A 17) 2 fim, oPoleS (A 18) (A 19) s0 d0, cI (A 19) 30 (fI s0.1), oPoleS (A 20) (A 21) s1 d1, cI (A 21) 30 (fI s1.1), cZ (A 22) 2 fk, oTale (A 23) (A 24) (A 25) (A 26) (nI n), cI (A 24) 12 fc, cI (A 25) 12 ff, oPole (A 26) (A 27) gt ot dt, cI (A 27) 30 f0t, oRows (A 28) (A 29) (A 42) gI last once (A 43) ag af (A 44) (A 51) (A 52), cP (A 29) 6 stp, oPole (A 30) (A 31) g0 o0 z0, cI (A 31) 30 u0, oPole (A 32) (A 33) g1 o1 z1, cI (A 33) 30 u1, oPole (A 34) (A 35) g2 o2 z2, cI (A 35) 30 u2, oPole (A 36) (A 37) g3 o3 z3, cI (A 37) 30 u3, oPole (A 38) (A 39) g4 o4 z4, cI (A 39) 30 u4, oPole (A 40) (A 41) g5 o5 z5, cI (A 41) 30 u5, cI (A 42) 6 frr, cI (A 43) 6 f9, cA (A 44) 6 far, cI (A 45) 6 (qf 0), cI (A 46) 6 (qf 1), cI (A 47) 6 (qf 2), cI (A 48) 6 (qf 3), cI (A 49) 6 (qf 4), cI (A 50) 6 (qf 5), cI (A 51) 6 fg, cZ (A 52) 6 ffn, oRests (A 53) (A 54) (A 55) rx fo, cI (A 54) 6 ftn, oPole (A 55) (A 56) gr or_ dr, cI (A 56) 30 f0r, oPoleS (A 57) (A 58) t zd, cI (A 58) 30 (fI t.1), oMod (A 59) (A 60) (nI len) (A 61) (A 62) (A 63) (A 64) (A 65) (A 66) (A 67) (A 68) (A 69) (nI n) sd fp at_ so sta sz fl iha isn ru (A 70) (A 71) (A 72), cI (A 60) 400 fx, cI (A 61) 56 (fI T), cI (A 62) 56 fd, cI (A 63) 32 (fS sm), cI (A 64) 32 fnow, cI (A 65) 64 fi64, cI (A 66) 2 fz, cZ (A 67) 2 fkm, cI (A 68) 12 fwm, cI (A 69) 12 ffm, cI (A 70) 6 fr6, cI (A 71) 6 fb6, cI (A 72) 6 tu6]) {st : Bool} {fp : Int32} {len fcn : Nat} {ai fa0 fp0 : Int32} {pt hm sn : Bool} {fb fF fn : Nat → Int32} {T : Nat → Nat} {gs : Nat → Int32} {w a r : Nat → Nat} {F2 C2 V2 E2 N2 S2 : Int32} {sfs sfw sfa sfr : Nat → Int32} {s : PSt} {sd : Int32} {fim : Nat → Option Nat} {s0 s1 : PSt} {d0 d1 : Int32} {fk : Nat → Int32} {n : Nat} {fc ff : Nat → Int32} {gt ot dt : Int32} {f0t : Nat → Int32} {gI last : Int32} {once : Bool} {ag : Int32} {af : Bool} {stp : Nat → Option Nat} {g0 o0 z0 g1 o1 z1 g2 o2 z2 g3 o3 z3 g4 o4 z4 g5 o5 z5 : Int32} {u0 u1 u2 u3 u4 u5 frr f9 : Nat → Int32} {far : Nat → Option Nat} {qf : Nat → Nat → Int32} {fg ffn : Nat → Int32} {rx : Int32} {fo : Bool} {ftn : Nat → Int32} {gr or_ dr : Int32} {f0r : Nat → Int32} {t : PSt} {zd at_ so sta sz fl : Int32} {iha isn : Bool} {ru : Int32} {fx fd : Nat → Int32} {sm : PSt} {fnow fi64 fz fkm fwm ffm fr6 fb6 tu6 : Nat → Int32} {tx who frs : Nat → Nat} (hT : IText len tx fb fx) (hP : IPlan T w a r gs) (hL : SlB sfs) (hS : ISt (T 0) s sm) (h0 : IImg (T 0) 0 s0 d0 fk fkm fi64 fz) (h1 : IImg (T 0) 1 s1 d1 fk fkm fi64 fz) (hN : IList (T 1) n who frs fc ff fwm ffm) (hC : ICache T w a r st t ag af f9 fg ffn qf rx fo ftn) (hX : IFix A fim stp far) : GG sk RL yy cL_law 4 (some .boolean) 100 73 1816 PLaw 73 1816 446 [some (.ref (sk 10)), some (.ref (A 0)), some (.ref (A 59)), some (.int (nI i))] [] [oMain (A 0) (A 1) (A 5) (A 10) (A 15) (A 17) (A 22) (A 23) (A 28) (A 53) (A 57) st fp, oReader (A 1) (A 2) (A 3) (A 4) (nI len) ai fa0 fp0 (nI fcn) pt hm sn, cB (A 2) 400 fb, cZ (A 3) 30 fF, cI (A 4) 3 fn, oPlan (A 5) (A 6) (A 7) (A 8) (A 9) (nI (T 0)) (nI (T 1)) (nI (T 2)) (nI (T 3)) (nI (T 4)) (nI (T 5)), cI (A 6) 30 gs, cI (A 7) 6 (fI w), cI (A 8) 6 (fI a), cI (A 9) 6 (fI r), oPlan (A 10) (A 11) (A 12) (A 13) (A 14) F2 C2 V2 E2 N2 S2, cI (A 11) 30 sfs, cI (A 12) 6 sfw, cI (A 13) 6 sfa, cI (A 14) 6 sfr, oPoleS (A 15) (A 16) s sd, cI (A 16) 30 (fI s.1), cP (A 17) 2 fim, oPoleS (A 18) (A 19) s0 d0, cI (A 19) 30 (fI s0.1), oPoleS (A 20) (A 21) s1 d1, cI (A 21) 30 (fI s1.1), cZ (A 22) 2 fk, oTale (A 23) (A 24) (A 25) (A 26) (nI n), cI (A 24) 12 fc, cI (A 25) 12 ff, oPole (A 26) (A 27) gt ot dt, cI (A 27) 30 f0t, oRows (A 28) (A 29) (A 42) gI last once (A 43) ag af (A 44) (A 51) (A 52), cP (A 29) 6 stp, oPole (A 30) (A 31) g0 o0 z0, cI (A 31) 30 u0, oPole (A 32) (A 33) g1 o1 z1, cI (A 33) 30 u1, oPole (A 34) (A 35) g2 o2 z2, cI (A 35) 30 u2, oPole (A 36) (A 37) g3 o3 z3, cI (A 37) 30 u3, oPole (A 38) (A 39) g4 o4 z4, cI (A 39) 30 u4, oPole (A 40) (A 41) g5 o5 z5, cI (A 41) 30 u5, cI (A 42) 6 frr, cI (A 43) 6 f9, cA (A 44) 6 far, cI (A 45) 6 (qf 0), cI (A 46) 6 (qf 1), cI (A 47) 6 (qf 2), cI (A 48) 6 (qf 3), cI (A 49) 6 (qf 4), cI (A 50) 6 (qf 5), cI (A 51) 6 fg, cZ (A 52) 6 ffn, oRests (A 53) (A 54) (A 55) rx fo, cI (A 54) 6 ftn, oPole (A 55) (A 56) gr or_ dr, cI (A 56) 30 f0r, oPoleS (A 57) (A 58) t zd, cI (A 58) 30 (fI t.1), oMod (A 59) (A 60) (nI len) (A 61) (A 62) (A 63) (A 64) (A 65) (A 66) (A 67) (A 68) (A 69) (nI n) sd fp at_ so sta sz fl iha isn ru (A 70) (A 71) (A 72), cI (A 60) 400 fx, cI (A 61) 56 (fI T), cI (A 62) 56 fd, cI (A 63) 32 (fS sm), cI (A 64) 32 fnow, cI (A 65) 64 fi64, cI (A 66) 2 fz, cZ (A 67) 2 fkm, cI (A 68) 12 fwm, cI (A 69) 12 ffm, cI (A 70) 6 fr6, cI (A 71) 6 fb6, cI (A 72) 6 tu6] := by
  have hB := hP.PB
  have hW := hP.2.1
  have hF30 : T 0 ≤ 30 := hB.1
  have hC6 : T 1 ≤ 6 := hB.2.1
  have hQ := hP.1
  have hsb := hS.1
  have hns := hS.2.1
  have hmb := hS.2.2.1
  have h2 := hS.2.2.2.2.1
  obtain ⟨x1, hx1⟩ : ∃ x, nI (sk (12 + (i + 1))) = x := ⟨_, rfl⟩
  obtain ⟨x2, hx2⟩ : ∃ x, nI (sk (12 + (i + 2))) = x := ⟨_, rfl⟩
  obtain ⟨x3, hx3⟩ : ∃ x, nI (sk (12 + (i + 3))) = x := ⟨_, rfl⟩
  by_cases hx : inR x1 (T 1) = false
  · skip
    refine g_aload_n dL_law_446 rfl rfl ?_
    refine g_aload_n dL_law_447 rfl rfl ?_
    refine g_iload_n dL_law_448 rfl rfl ?_
    refine g_iconst (v := nI 1) dL_law_449 rfl (by decide) ?_
    refine g_iadd dL_law_450 rfl (nI_add _ _) ?_
    refine g_sld dL_law_451 rfl (by omega) hL11 hx1 ?_
    refine g_aload_n dL_law_452 rfl rfl ?_
    refine g_iload_n dL_law_453 rfl rfl ?_
    refine g_iconst (v := nI 2) dL_law_454 rfl (by decide) ?_
    refine g_iadd dL_law_455 rfl (nI_add _ _) ?_
    refine g_sld dL_law_456 rfl (by omega) hL11 hx2 ?_
    refine g_callV (c_X6_forOneF sk (c := 0) (b := false) hx) m_L_68 a_X6_forOne dL_law_457 rfl [0, 15, 16, 57, 58, 28, 52, 53, 29, 42, 30, 31, 32, 33, 34, 35, 36, 37, 38, 39, 40, 41, 44, 51, 45, 5, 7, 8, 9] rfl rfl 0 rfl rfl rfl (by decide) (by decide) (by decide) (by decide) (Nat.le_of_ble_eq_true rfl) (fun r w hK => ?_)
    obtain ⟨rfl, rfl⟩ := hK
    refine ⟨rfl, ?_⟩
    dsimp only [puts, List.set, Option.toList, List.cons_append, List.nil_append, List.append_nil]
    refine g_aload_n dL_law_460 rfl rfl ?_
    refine g_aload_n dL_law_461 rfl rfl ?_
    refine g_iload_n dL_law_462 rfl rfl ?_
    refine g_iconst (v := nI 1) dL_law_463 rfl (by decide) ?_
    refine g_iadd dL_law_464 rfl (nI_add _ _) ?_
    refine g_sld dL_law_465 rfl (by omega) hL11 hx1 ?_
    refine g_aload_n dL_law_466 rfl rfl ?_
    refine g_iload_n dL_law_467 rfl rfl ?_
    refine g_iconst (v := nI 2) dL_law_468 rfl (by decide) ?_
    refine g_iadd dL_law_469 rfl (nI_add _ _) ?_
    refine g_sld dL_law_470 rfl (by omega) hL11 hx2 ?_
    refine g_callV (c_X7_forOneF sk hC6 hx) m_L_71 a_X7_forOne dL_law_471 rfl [59, 61, 63] rfl rfl 0 rfl rfl rfl (by decide) (by decide) (by decide) (by decide) (Nat.le_of_ble_eq_true rfl) (fun r w hK => ?_)
    obtain ⟨rfl, rfl⟩ := hK
    refine ⟨rfl, ?_⟩
    dsimp only [puts, List.set, Option.toList, List.cons_append, List.nil_append, List.append_nil]
    refine g_icmp_eq (t := 699) dL_law_474 (by decide) rfl (fun h474 => ?_) (fun h474 => ?_)
    · skip
      exact hK st fp len fcn ai fa0 fp0 pt hm sn fb fF fn T gs w a r F2 C2 V2 E2 N2 S2 sfs sfw sfa sfr s sd fim s0 s1 d0 d1 fk n fc ff gt ot dt f0t gI last once ag af stp g0 o0 z0 g1 o1 z1 g2 o2 z2 g3 o3 z3 g4 o4 z4 g5 o5 z5 u0 u1 u2 u3 u4 u5 frr f9 far qf fg ffn rx fo ftn gr or_ dr f0r t zd at_ so sta sz fl iha isn ru fx fd sm fnow fi64 fz fkm fwm ffm fr6 fb6 tu6 tx who frs hT hP hL hS h0 h1 hN hC hX
    · exact absurd rfl h474
  · skip
    obtain ⟨c, hc, rfl⟩ := inR_c (show T 1 < 2 ^ 31 by omega) hx
    have hF : 1 ≤ T 0 := hB.2.2.1 (by omega)
    obtain rfl := hS.2.2.2.2.2 hF
    obtain ⟨e1, e2, e3⟩ := hW c hc
    rcases (show c = 0 ∨ c = 1 ∨ c = 2 ∨ c = 3 ∨ c = 4 ∨ c = 5 by omega) with rfl | rfl | rfl | rfl | rfl | rfl
    · skip
      obtain ⟨b, hb1, hb2⟩ := hC.2.2.2.1 0 (by decide)
      by_cases hh : s.2.2 = -1
      · skip
        rcases one_cases x2 with hz | hz
        · skip
          refine g_aload_n dL_law_446 rfl rfl ?_
          refine g_aload_n dL_law_447 rfl rfl ?_
          refine g_iload_n dL_law_448 rfl rfl ?_
          refine g_iconst (v := nI 1) dL_law_449 rfl (by decide) ?_
          refine g_iadd dL_law_450 rfl (nI_add _ _) ?_
          refine g_sld dL_law_451 rfl (by omega) hL11 hx1 ?_
          refine g_aload_n dL_law_452 rfl rfl ?_
          refine g_iload_n dL_law_453 rfl rfl ?_
          refine g_iconst (v := nI 2) dL_law_454 rfl (by decide) ?_
          refine g_iadd dL_law_455 rfl (nI_add _ _) ?_
          refine g_sld dL_law_456 rfl (by omega) hL11 hx2 ?_
          refine g_callV (c_X6_forOne sk hB hsb hC.1 hns hC.2.1 hX.2.1.1 hX.2.1.2.1 hX.2.1.2.2.1 hX.2.1.2.2.2.1 hX.2.1.2.2.2.2.1 hX.2.1.2.2.2.2.2 hc hX.2.2.1 hb1 hb2) m_L_68 a_X6_forOne dL_law_457 rfl [0, 15, 16, 57, 58, 28, 52, 53, 29, 42, 30, 31, 32, 33, 34, 35, 36, 37, 38, 39, 40, 41, 44, 51, 45, 5, 7, 8, 9] rfl rfl 0 rfl rfl rfl (by decide) (by decide) (by decide) (by decide) (Nat.le_of_ble_eq_true rfl) (fun r w hK => ?_)
          obtain ⟨rfl, zd2, gI2, last2, once2, ff2, fo2, af2, fr2, fq2, g02, o02, z02, g12, o12, z12, g22, o22, z22, g32, o32, z32, g42, o42, z42, g52, o52, z52, u02, u12, u22, u32, u42, u52, rfl, hR, hD⟩ := hK
          refine ⟨rfl, ?_⟩
          dsimp only [puts, List.set, Option.toList, List.cons_append, List.nil_append, List.append_nil]
          refine g_aload_n dL_law_460 rfl rfl ?_
          refine g_aload_n dL_law_461 rfl rfl ?_
          refine g_iload_n dL_law_462 rfl rfl ?_
          refine g_iconst (v := nI 1) dL_law_463 rfl (by decide) ?_
          refine g_iadd dL_law_464 rfl (nI_add _ _) ?_
          refine g_sld dL_law_465 rfl (by omega) hL11 hx1 ?_
          refine g_aload_n dL_law_466 rfl rfl ?_
          refine g_iload_n dL_law_467 rfl rfl ?_
          refine g_iconst (v := nI 2) dL_law_468 rfl (by decide) ?_
          refine g_iadd dL_law_469 rfl (nI_add _ _) ?_
          refine g_sld dL_law_470 rfl (by omega) hL11 hx2 ?_
          refine g_callV (c_X7_forOneN sk hC6 hc (by first | exact Or.inl hh | exact Or.inr hz)) m_L_71 a_X7_forOne dL_law_471 rfl [59, 61, 63] rfl rfl 0 rfl rfl rfl (by decide) (by decide) (by decide) (by decide) (Nat.le_of_ble_eq_true rfl) (fun r w hK => ?_)
          obtain ⟨rfl, rfl⟩ := hK
          refine ⟨rfl, ?_⟩
          dsimp only [puts, List.set, Option.toList, List.cons_append, List.nil_append, List.append_nil]
          refine g_icmp_eq (t := 699) dL_law_474 (by decide) rfl (fun h474 => ?_) (fun h474 => ?_)
          · skip
            exact hK true fp len fcn ai fa0 fp0 pt hm sn fb fF fn T gs w a r F2 C2 V2 E2 N2 S2 sfs sfw sfa sfr s sd fim s0 s1 d0 d1 fk n fc ff gt ot dt f0t gI2 last2 once2 ag af2 stp g02 o02 z02 g12 o12 z12 g22 o22 z22 g32 o32 z32 g42 o42 z42 g52 o52 z52 u02 u12 u22 u32 u42 u52 fr2 f9 far (fun i => if i = 0 then fq2 else qf i) (upd fg 0 (lenI (fewG (T 0) (T 1) (T 4) (T 5) w a r false (nI 0) s 6))) (upd ff2 0 (zb true)) rx fo2 ftn gr or_ dr f0r s zd2 at_ so sta sz fl iha isn ru fx fd s fnow fi64 fz fkm fwm ffm fr6 fb6 tu6 tx who frs hT hP hL hS h0 h1 hN (one_cache (c := 0) (by decide) hC hsb hns hR hD) hX
          · exact absurd (ansOne_x hz) h474
        · skip
          refine g_aload_n dL_law_446 rfl rfl ?_
          refine g_aload_n dL_law_447 rfl rfl ?_
          refine g_iload_n dL_law_448 rfl rfl ?_
          refine g_iconst (v := nI 1) dL_law_449 rfl (by decide) ?_
          refine g_iadd dL_law_450 rfl (nI_add _ _) ?_
          refine g_sld dL_law_451 rfl (by omega) hL11 hx1 ?_
          refine g_aload_n dL_law_452 rfl rfl ?_
          refine g_iload_n dL_law_453 rfl rfl ?_
          refine g_iconst (v := nI 2) dL_law_454 rfl (by decide) ?_
          refine g_iadd dL_law_455 rfl (nI_add _ _) ?_
          refine g_sld dL_law_456 rfl (by omega) hL11 hx2 ?_
          refine g_callV (c_X6_forOne sk hB hsb hC.1 hns hC.2.1 hX.2.1.1 hX.2.1.2.1 hX.2.1.2.2.1 hX.2.1.2.2.2.1 hX.2.1.2.2.2.2.1 hX.2.1.2.2.2.2.2 hc hX.2.2.1 hb1 hb2) m_L_68 a_X6_forOne dL_law_457 rfl [0, 15, 16, 57, 58, 28, 52, 53, 29, 42, 30, 31, 32, 33, 34, 35, 36, 37, 38, 39, 40, 41, 44, 51, 45, 5, 7, 8, 9] rfl rfl 0 rfl rfl rfl (by decide) (by decide) (by decide) (by decide) (Nat.le_of_ble_eq_true rfl) (fun r w hK => ?_)
          obtain ⟨rfl, zd2, gI2, last2, once2, ff2, fo2, af2, fr2, fq2, g02, o02, z02, g12, o12, z12, g22, o22, z22, g32, o32, z32, g42, o42, z42, g52, o52, z52, u02, u12, u22, u32, u42, u52, rfl, hR, hD⟩ := hK
          refine ⟨rfl, ?_⟩
          dsimp only [puts, List.set, Option.toList, List.cons_append, List.nil_append, List.append_nil]
          refine g_aload_n dL_law_460 rfl rfl ?_
          refine g_aload_n dL_law_461 rfl rfl ?_
          refine g_iload_n dL_law_462 rfl rfl ?_
          refine g_iconst (v := nI 1) dL_law_463 rfl (by decide) ?_
          refine g_iadd dL_law_464 rfl (nI_add _ _) ?_
          refine g_sld dL_law_465 rfl (by omega) hL11 hx1 ?_
          refine g_aload_n dL_law_466 rfl rfl ?_
          refine g_iload_n dL_law_467 rfl rfl ?_
          refine g_iconst (v := nI 2) dL_law_468 rfl (by decide) ?_
          refine g_iadd dL_law_469 rfl (nI_add _ _) ?_
          refine g_sld dL_law_470 rfl (by omega) hL11 hx2 ?_
          refine g_callV (c_X7_forOne sk hB hW hc hsb hz hh) m_L_71 a_X7_forOne dL_law_471 rfl [59, 61, 63, 64] rfl rfl 0 rfl rfl rfl (by decide) (by decide) (by decide) (by decide) (Nat.le_of_ble_eq_true rfl) (fun r w hK => ?_)
          obtain ⟨rfl, ru2, fn2, rfl⟩ := hK
          refine ⟨rfl, ?_⟩
          dsimp only [puts, List.set, Option.toList, List.cons_append, List.nil_append, List.append_nil]
          refine g_icmp_eq (t := 699) dL_law_474 (by decide) rfl (fun h474 => ?_) (fun h474 => ?_)
          · skip
            exact hK true fp len fcn ai fa0 fp0 pt hm sn fb fF fn T gs w a r F2 C2 V2 E2 N2 S2 sfs sfw sfa sfr s sd fim s0 s1 d0 d1 fk n fc ff gt ot dt f0t gI2 last2 once2 ag af2 stp g02 o02 z02 g12 o12 z12 g22 o22 z22 g32 o32 z32 g42 o42 z42 g52 o52 z52 u02 u12 u22 u32 u42 u52 fr2 f9 far (fun i => if i = 0 then fq2 else qf i) (upd fg 0 (lenI (fewG (T 0) (T 1) (T 4) (T 5) w a r false (nI 0) s 6))) (upd ff2 0 (zb true)) rx fo2 ftn gr or_ dr f0r s zd2 at_ so sta sz fl iha isn ru2 fx fd s fn2 fi64 fz fkm fwm ffm fr6 fb6 tu6 tx who frs hT hP hL hS h0 h1 hN (one_cache (c := 0) (by decide) hC hsb hns hR hD) hX
          · exact absurd (one_eq hF30 hC6 hc hh hsb hz) h474
      · skip
        refine g_aload_n dL_law_446 rfl rfl ?_
        refine g_aload_n dL_law_447 rfl rfl ?_
        refine g_iload_n dL_law_448 rfl rfl ?_
        refine g_iconst (v := nI 1) dL_law_449 rfl (by decide) ?_
        refine g_iadd dL_law_450 rfl (nI_add _ _) ?_
        refine g_sld dL_law_451 rfl (by omega) hL11 hx1 ?_
        refine g_aload_n dL_law_452 rfl rfl ?_
        refine g_iload_n dL_law_453 rfl rfl ?_
        refine g_iconst (v := nI 2) dL_law_454 rfl (by decide) ?_
        refine g_iadd dL_law_455 rfl (nI_add _ _) ?_
        refine g_sld dL_law_456 rfl (by omega) hL11 hx2 ?_
        refine g_callV (c_X6_forOne sk hB hsb hC.1 hns hC.2.1 hX.2.1.1 hX.2.1.2.1 hX.2.1.2.2.1 hX.2.1.2.2.2.1 hX.2.1.2.2.2.2.1 hX.2.1.2.2.2.2.2 hc hX.2.2.1 hb1 hb2) m_L_68 a_X6_forOne dL_law_457 rfl [0, 15, 16, 57, 58, 28, 52, 53, 29, 42, 30, 31, 32, 33, 34, 35, 36, 37, 38, 39, 40, 41, 44, 51, 45, 5, 7, 8, 9] rfl rfl 0 rfl rfl rfl (by decide) (by decide) (by decide) (by decide) (Nat.le_of_ble_eq_true rfl) (fun r w hK => ?_)
        obtain ⟨rfl, zd2, gI2, last2, once2, ff2, fo2, af2, fr2, fq2, g02, o02, z02, g12, o12, z12, g22, o22, z22, g32, o32, z32, g42, o42, z42, g52, o52, z52, u02, u12, u22, u32, u42, u52, rfl, hR, hD⟩ := hK
        refine ⟨rfl, ?_⟩
        dsimp only [puts, List.set, Option.toList, List.cons_append, List.nil_append, List.append_nil]
        refine g_aload_n dL_law_460 rfl rfl ?_
        refine g_aload_n dL_law_461 rfl rfl ?_
        refine g_iload_n dL_law_462 rfl rfl ?_
        refine g_iconst (v := nI 1) dL_law_463 rfl (by decide) ?_
        refine g_iadd dL_law_464 rfl (nI_add _ _) ?_
        refine g_sld dL_law_465 rfl (by omega) hL11 hx1 ?_
        refine g_aload_n dL_law_466 rfl rfl ?_
        refine g_iload_n dL_law_467 rfl rfl ?_
        refine g_iconst (v := nI 2) dL_law_468 rfl (by decide) ?_
        refine g_iadd dL_law_469 rfl (nI_add _ _) ?_
        refine g_sld dL_law_470 rfl (by omega) hL11 hx2 ?_
        refine g_callV (c_X7_forOneN sk hC6 hc (by first | exact Or.inl hh | exact Or.inr hz)) m_L_71 a_X7_forOne dL_law_471 rfl [59, 61, 63] rfl rfl 0 rfl rfl rfl (by decide) (by decide) (by decide) (by decide) (Nat.le_of_ble_eq_true rfl) (fun r w hK => ?_)
        obtain ⟨rfl, rfl⟩ := hK
        refine ⟨rfl, ?_⟩
        dsimp only [puts, List.set, Option.toList, List.cons_append, List.nil_append, List.append_nil]
        refine g_icmp_eq (t := 699) dL_law_474 (by decide) rfl (fun h474 => ?_) (fun h474 => ?_)
        · skip
          exact hK true fp len fcn ai fa0 fp0 pt hm sn fb fF fn T gs w a r F2 C2 V2 E2 N2 S2 sfs sfw sfa sfr s sd fim s0 s1 d0 d1 fk n fc ff gt ot dt f0t gI2 last2 once2 ag af2 stp g02 o02 z02 g12 o12 z12 g22 o22 z22 g32 o32 z32 g42 o42 z42 g52 o52 z52 u02 u12 u22 u32 u42 u52 fr2 f9 far (fun i => if i = 0 then fq2 else qf i) (upd fg 0 (lenI (fewG (T 0) (T 1) (T 4) (T 5) w a r false (nI 0) s 6))) (upd ff2 0 (zb true)) rx fo2 ftn gr or_ dr f0r s zd2 at_ so sta sz fl iha isn ru fx fd s fnow fi64 fz fkm fwm ffm fr6 fb6 tu6 tx who frs hT hP hL hS h0 h1 hN (one_cache (c := 0) (by decide) hC hsb hns hR hD) hX
        · exact absurd (by rw [few_h hh]; exact ansOne_none) h474
    · skip
      obtain ⟨b, hb1, hb2⟩ := hC.2.2.2.1 1 (by decide)
      by_cases hh : s.2.2 = -1
      · skip
        rcases one_cases x2 with hz | hz
        · skip
          refine g_aload_n dL_law_446 rfl rfl ?_
          refine g_aload_n dL_law_447 rfl rfl ?_
          refine g_iload_n dL_law_448 rfl rfl ?_
          refine g_iconst (v := nI 1) dL_law_449 rfl (by decide) ?_
          refine g_iadd dL_law_450 rfl (nI_add _ _) ?_
          refine g_sld dL_law_451 rfl (by omega) hL11 hx1 ?_
          refine g_aload_n dL_law_452 rfl rfl ?_
          refine g_iload_n dL_law_453 rfl rfl ?_
          refine g_iconst (v := nI 2) dL_law_454 rfl (by decide) ?_
          refine g_iadd dL_law_455 rfl (nI_add _ _) ?_
          refine g_sld dL_law_456 rfl (by omega) hL11 hx2 ?_
          refine g_callV (c_X6_forOne sk hB hsb hC.1 hns hC.2.1 hX.2.1.1 hX.2.1.2.1 hX.2.1.2.2.1 hX.2.1.2.2.2.1 hX.2.1.2.2.2.2.1 hX.2.1.2.2.2.2.2 hc hX.2.2.2.1 hb1 hb2) m_L_68 a_X6_forOne dL_law_457 rfl [0, 15, 16, 57, 58, 28, 52, 53, 29, 42, 30, 31, 32, 33, 34, 35, 36, 37, 38, 39, 40, 41, 44, 51, 46, 5, 7, 8, 9] rfl rfl 0 rfl rfl rfl (by decide) (by decide) (by decide) (by decide) (Nat.le_of_ble_eq_true rfl) (fun r w hK => ?_)
          obtain ⟨rfl, zd2, gI2, last2, once2, ff2, fo2, af2, fr2, fq2, g02, o02, z02, g12, o12, z12, g22, o22, z22, g32, o32, z32, g42, o42, z42, g52, o52, z52, u02, u12, u22, u32, u42, u52, rfl, hR, hD⟩ := hK
          refine ⟨rfl, ?_⟩
          dsimp only [puts, List.set, Option.toList, List.cons_append, List.nil_append, List.append_nil]
          refine g_aload_n dL_law_460 rfl rfl ?_
          refine g_aload_n dL_law_461 rfl rfl ?_
          refine g_iload_n dL_law_462 rfl rfl ?_
          refine g_iconst (v := nI 1) dL_law_463 rfl (by decide) ?_
          refine g_iadd dL_law_464 rfl (nI_add _ _) ?_
          refine g_sld dL_law_465 rfl (by omega) hL11 hx1 ?_
          refine g_aload_n dL_law_466 rfl rfl ?_
          refine g_iload_n dL_law_467 rfl rfl ?_
          refine g_iconst (v := nI 2) dL_law_468 rfl (by decide) ?_
          refine g_iadd dL_law_469 rfl (nI_add _ _) ?_
          refine g_sld dL_law_470 rfl (by omega) hL11 hx2 ?_
          refine g_callV (c_X7_forOneN sk hC6 hc (by first | exact Or.inl hh | exact Or.inr hz)) m_L_71 a_X7_forOne dL_law_471 rfl [59, 61, 63] rfl rfl 0 rfl rfl rfl (by decide) (by decide) (by decide) (by decide) (Nat.le_of_ble_eq_true rfl) (fun r w hK => ?_)
          obtain ⟨rfl, rfl⟩ := hK
          refine ⟨rfl, ?_⟩
          dsimp only [puts, List.set, Option.toList, List.cons_append, List.nil_append, List.append_nil]
          refine g_icmp_eq (t := 699) dL_law_474 (by decide) rfl (fun h474 => ?_) (fun h474 => ?_)
          · skip
            exact hK true fp len fcn ai fa0 fp0 pt hm sn fb fF fn T gs w a r F2 C2 V2 E2 N2 S2 sfs sfw sfa sfr s sd fim s0 s1 d0 d1 fk n fc ff gt ot dt f0t gI2 last2 once2 ag af2 stp g02 o02 z02 g12 o12 z12 g22 o22 z22 g32 o32 z32 g42 o42 z42 g52 o52 z52 u02 u12 u22 u32 u42 u52 fr2 f9 far (fun i => if i = 1 then fq2 else qf i) (upd fg 1 (lenI (fewG (T 0) (T 1) (T 4) (T 5) w a r false (nI 1) s 6))) (upd ff2 1 (zb true)) rx fo2 ftn gr or_ dr f0r s zd2 at_ so sta sz fl iha isn ru fx fd s fnow fi64 fz fkm fwm ffm fr6 fb6 tu6 tx who frs hT hP hL hS h0 h1 hN (one_cache (c := 1) (by decide) hC hsb hns hR hD) hX
          · exact absurd (ansOne_x hz) h474
        · skip
          refine g_aload_n dL_law_446 rfl rfl ?_
          refine g_aload_n dL_law_447 rfl rfl ?_
          refine g_iload_n dL_law_448 rfl rfl ?_
          refine g_iconst (v := nI 1) dL_law_449 rfl (by decide) ?_
          refine g_iadd dL_law_450 rfl (nI_add _ _) ?_
          refine g_sld dL_law_451 rfl (by omega) hL11 hx1 ?_
          refine g_aload_n dL_law_452 rfl rfl ?_
          refine g_iload_n dL_law_453 rfl rfl ?_
          refine g_iconst (v := nI 2) dL_law_454 rfl (by decide) ?_
          refine g_iadd dL_law_455 rfl (nI_add _ _) ?_
          refine g_sld dL_law_456 rfl (by omega) hL11 hx2 ?_
          refine g_callV (c_X6_forOne sk hB hsb hC.1 hns hC.2.1 hX.2.1.1 hX.2.1.2.1 hX.2.1.2.2.1 hX.2.1.2.2.2.1 hX.2.1.2.2.2.2.1 hX.2.1.2.2.2.2.2 hc hX.2.2.2.1 hb1 hb2) m_L_68 a_X6_forOne dL_law_457 rfl [0, 15, 16, 57, 58, 28, 52, 53, 29, 42, 30, 31, 32, 33, 34, 35, 36, 37, 38, 39, 40, 41, 44, 51, 46, 5, 7, 8, 9] rfl rfl 0 rfl rfl rfl (by decide) (by decide) (by decide) (by decide) (Nat.le_of_ble_eq_true rfl) (fun r w hK => ?_)
          obtain ⟨rfl, zd2, gI2, last2, once2, ff2, fo2, af2, fr2, fq2, g02, o02, z02, g12, o12, z12, g22, o22, z22, g32, o32, z32, g42, o42, z42, g52, o52, z52, u02, u12, u22, u32, u42, u52, rfl, hR, hD⟩ := hK
          refine ⟨rfl, ?_⟩
          dsimp only [puts, List.set, Option.toList, List.cons_append, List.nil_append, List.append_nil]
          refine g_aload_n dL_law_460 rfl rfl ?_
          refine g_aload_n dL_law_461 rfl rfl ?_
          refine g_iload_n dL_law_462 rfl rfl ?_
          refine g_iconst (v := nI 1) dL_law_463 rfl (by decide) ?_
          refine g_iadd dL_law_464 rfl (nI_add _ _) ?_
          refine g_sld dL_law_465 rfl (by omega) hL11 hx1 ?_
          refine g_aload_n dL_law_466 rfl rfl ?_
          refine g_iload_n dL_law_467 rfl rfl ?_
          refine g_iconst (v := nI 2) dL_law_468 rfl (by decide) ?_
          refine g_iadd dL_law_469 rfl (nI_add _ _) ?_
          refine g_sld dL_law_470 rfl (by omega) hL11 hx2 ?_
          refine g_callV (c_X7_forOne sk hB hW hc hsb hz hh) m_L_71 a_X7_forOne dL_law_471 rfl [59, 61, 63, 64] rfl rfl 0 rfl rfl rfl (by decide) (by decide) (by decide) (by decide) (Nat.le_of_ble_eq_true rfl) (fun r w hK => ?_)
          obtain ⟨rfl, ru2, fn2, rfl⟩ := hK
          refine ⟨rfl, ?_⟩
          dsimp only [puts, List.set, Option.toList, List.cons_append, List.nil_append, List.append_nil]
          refine g_icmp_eq (t := 699) dL_law_474 (by decide) rfl (fun h474 => ?_) (fun h474 => ?_)
          · skip
            exact hK true fp len fcn ai fa0 fp0 pt hm sn fb fF fn T gs w a r F2 C2 V2 E2 N2 S2 sfs sfw sfa sfr s sd fim s0 s1 d0 d1 fk n fc ff gt ot dt f0t gI2 last2 once2 ag af2 stp g02 o02 z02 g12 o12 z12 g22 o22 z22 g32 o32 z32 g42 o42 z42 g52 o52 z52 u02 u12 u22 u32 u42 u52 fr2 f9 far (fun i => if i = 1 then fq2 else qf i) (upd fg 1 (lenI (fewG (T 0) (T 1) (T 4) (T 5) w a r false (nI 1) s 6))) (upd ff2 1 (zb true)) rx fo2 ftn gr or_ dr f0r s zd2 at_ so sta sz fl iha isn ru2 fx fd s fn2 fi64 fz fkm fwm ffm fr6 fb6 tu6 tx who frs hT hP hL hS h0 h1 hN (one_cache (c := 1) (by decide) hC hsb hns hR hD) hX
          · exact absurd (one_eq hF30 hC6 hc hh hsb hz) h474
      · skip
        refine g_aload_n dL_law_446 rfl rfl ?_
        refine g_aload_n dL_law_447 rfl rfl ?_
        refine g_iload_n dL_law_448 rfl rfl ?_
        refine g_iconst (v := nI 1) dL_law_449 rfl (by decide) ?_
        refine g_iadd dL_law_450 rfl (nI_add _ _) ?_
        refine g_sld dL_law_451 rfl (by omega) hL11 hx1 ?_
        refine g_aload_n dL_law_452 rfl rfl ?_
        refine g_iload_n dL_law_453 rfl rfl ?_
        refine g_iconst (v := nI 2) dL_law_454 rfl (by decide) ?_
        refine g_iadd dL_law_455 rfl (nI_add _ _) ?_
        refine g_sld dL_law_456 rfl (by omega) hL11 hx2 ?_
        refine g_callV (c_X6_forOne sk hB hsb hC.1 hns hC.2.1 hX.2.1.1 hX.2.1.2.1 hX.2.1.2.2.1 hX.2.1.2.2.2.1 hX.2.1.2.2.2.2.1 hX.2.1.2.2.2.2.2 hc hX.2.2.2.1 hb1 hb2) m_L_68 a_X6_forOne dL_law_457 rfl [0, 15, 16, 57, 58, 28, 52, 53, 29, 42, 30, 31, 32, 33, 34, 35, 36, 37, 38, 39, 40, 41, 44, 51, 46, 5, 7, 8, 9] rfl rfl 0 rfl rfl rfl (by decide) (by decide) (by decide) (by decide) (Nat.le_of_ble_eq_true rfl) (fun r w hK => ?_)
        obtain ⟨rfl, zd2, gI2, last2, once2, ff2, fo2, af2, fr2, fq2, g02, o02, z02, g12, o12, z12, g22, o22, z22, g32, o32, z32, g42, o42, z42, g52, o52, z52, u02, u12, u22, u32, u42, u52, rfl, hR, hD⟩ := hK
        refine ⟨rfl, ?_⟩
        dsimp only [puts, List.set, Option.toList, List.cons_append, List.nil_append, List.append_nil]
        refine g_aload_n dL_law_460 rfl rfl ?_
        refine g_aload_n dL_law_461 rfl rfl ?_
        refine g_iload_n dL_law_462 rfl rfl ?_
        refine g_iconst (v := nI 1) dL_law_463 rfl (by decide) ?_
        refine g_iadd dL_law_464 rfl (nI_add _ _) ?_
        refine g_sld dL_law_465 rfl (by omega) hL11 hx1 ?_
        refine g_aload_n dL_law_466 rfl rfl ?_
        refine g_iload_n dL_law_467 rfl rfl ?_
        refine g_iconst (v := nI 2) dL_law_468 rfl (by decide) ?_
        refine g_iadd dL_law_469 rfl (nI_add _ _) ?_
        refine g_sld dL_law_470 rfl (by omega) hL11 hx2 ?_
        refine g_callV (c_X7_forOneN sk hC6 hc (by first | exact Or.inl hh | exact Or.inr hz)) m_L_71 a_X7_forOne dL_law_471 rfl [59, 61, 63] rfl rfl 0 rfl rfl rfl (by decide) (by decide) (by decide) (by decide) (Nat.le_of_ble_eq_true rfl) (fun r w hK => ?_)
        obtain ⟨rfl, rfl⟩ := hK
        refine ⟨rfl, ?_⟩
        dsimp only [puts, List.set, Option.toList, List.cons_append, List.nil_append, List.append_nil]
        refine g_icmp_eq (t := 699) dL_law_474 (by decide) rfl (fun h474 => ?_) (fun h474 => ?_)
        · skip
          exact hK true fp len fcn ai fa0 fp0 pt hm sn fb fF fn T gs w a r F2 C2 V2 E2 N2 S2 sfs sfw sfa sfr s sd fim s0 s1 d0 d1 fk n fc ff gt ot dt f0t gI2 last2 once2 ag af2 stp g02 o02 z02 g12 o12 z12 g22 o22 z22 g32 o32 z32 g42 o42 z42 g52 o52 z52 u02 u12 u22 u32 u42 u52 fr2 f9 far (fun i => if i = 1 then fq2 else qf i) (upd fg 1 (lenI (fewG (T 0) (T 1) (T 4) (T 5) w a r false (nI 1) s 6))) (upd ff2 1 (zb true)) rx fo2 ftn gr or_ dr f0r s zd2 at_ so sta sz fl iha isn ru fx fd s fnow fi64 fz fkm fwm ffm fr6 fb6 tu6 tx who frs hT hP hL hS h0 h1 hN (one_cache (c := 1) (by decide) hC hsb hns hR hD) hX
        · exact absurd (by rw [few_h hh]; exact ansOne_none) h474
    · skip
      obtain ⟨b, hb1, hb2⟩ := hC.2.2.2.1 2 (by decide)
      by_cases hh : s.2.2 = -1
      · skip
        rcases one_cases x2 with hz | hz
        · skip
          refine g_aload_n dL_law_446 rfl rfl ?_
          refine g_aload_n dL_law_447 rfl rfl ?_
          refine g_iload_n dL_law_448 rfl rfl ?_
          refine g_iconst (v := nI 1) dL_law_449 rfl (by decide) ?_
          refine g_iadd dL_law_450 rfl (nI_add _ _) ?_
          refine g_sld dL_law_451 rfl (by omega) hL11 hx1 ?_
          refine g_aload_n dL_law_452 rfl rfl ?_
          refine g_iload_n dL_law_453 rfl rfl ?_
          refine g_iconst (v := nI 2) dL_law_454 rfl (by decide) ?_
          refine g_iadd dL_law_455 rfl (nI_add _ _) ?_
          refine g_sld dL_law_456 rfl (by omega) hL11 hx2 ?_
          refine g_callV (c_X6_forOne sk hB hsb hC.1 hns hC.2.1 hX.2.1.1 hX.2.1.2.1 hX.2.1.2.2.1 hX.2.1.2.2.2.1 hX.2.1.2.2.2.2.1 hX.2.1.2.2.2.2.2 hc hX.2.2.2.2.1 hb1 hb2) m_L_68 a_X6_forOne dL_law_457 rfl [0, 15, 16, 57, 58, 28, 52, 53, 29, 42, 30, 31, 32, 33, 34, 35, 36, 37, 38, 39, 40, 41, 44, 51, 47, 5, 7, 8, 9] rfl rfl 0 rfl rfl rfl (by decide) (by decide) (by decide) (by decide) (Nat.le_of_ble_eq_true rfl) (fun r w hK => ?_)
          obtain ⟨rfl, zd2, gI2, last2, once2, ff2, fo2, af2, fr2, fq2, g02, o02, z02, g12, o12, z12, g22, o22, z22, g32, o32, z32, g42, o42, z42, g52, o52, z52, u02, u12, u22, u32, u42, u52, rfl, hR, hD⟩ := hK
          refine ⟨rfl, ?_⟩
          dsimp only [puts, List.set, Option.toList, List.cons_append, List.nil_append, List.append_nil]
          refine g_aload_n dL_law_460 rfl rfl ?_
          refine g_aload_n dL_law_461 rfl rfl ?_
          refine g_iload_n dL_law_462 rfl rfl ?_
          refine g_iconst (v := nI 1) dL_law_463 rfl (by decide) ?_
          refine g_iadd dL_law_464 rfl (nI_add _ _) ?_
          refine g_sld dL_law_465 rfl (by omega) hL11 hx1 ?_
          refine g_aload_n dL_law_466 rfl rfl ?_
          refine g_iload_n dL_law_467 rfl rfl ?_
          refine g_iconst (v := nI 2) dL_law_468 rfl (by decide) ?_
          refine g_iadd dL_law_469 rfl (nI_add _ _) ?_
          refine g_sld dL_law_470 rfl (by omega) hL11 hx2 ?_
          refine g_callV (c_X7_forOneN sk hC6 hc (by first | exact Or.inl hh | exact Or.inr hz)) m_L_71 a_X7_forOne dL_law_471 rfl [59, 61, 63] rfl rfl 0 rfl rfl rfl (by decide) (by decide) (by decide) (by decide) (Nat.le_of_ble_eq_true rfl) (fun r w hK => ?_)
          obtain ⟨rfl, rfl⟩ := hK
          refine ⟨rfl, ?_⟩
          dsimp only [puts, List.set, Option.toList, List.cons_append, List.nil_append, List.append_nil]
          refine g_icmp_eq (t := 699) dL_law_474 (by decide) rfl (fun h474 => ?_) (fun h474 => ?_)
          · skip
            exact hK true fp len fcn ai fa0 fp0 pt hm sn fb fF fn T gs w a r F2 C2 V2 E2 N2 S2 sfs sfw sfa sfr s sd fim s0 s1 d0 d1 fk n fc ff gt ot dt f0t gI2 last2 once2 ag af2 stp g02 o02 z02 g12 o12 z12 g22 o22 z22 g32 o32 z32 g42 o42 z42 g52 o52 z52 u02 u12 u22 u32 u42 u52 fr2 f9 far (fun i => if i = 2 then fq2 else qf i) (upd fg 2 (lenI (fewG (T 0) (T 1) (T 4) (T 5) w a r false (nI 2) s 6))) (upd ff2 2 (zb true)) rx fo2 ftn gr or_ dr f0r s zd2 at_ so sta sz fl iha isn ru fx fd s fnow fi64 fz fkm fwm ffm fr6 fb6 tu6 tx who frs hT hP hL hS h0 h1 hN (one_cache (c := 2) (by decide) hC hsb hns hR hD) hX
          · exact absurd (ansOne_x hz) h474
        · skip
          refine g_aload_n dL_law_446 rfl rfl ?_
          refine g_aload_n dL_law_447 rfl rfl ?_
          refine g_iload_n dL_law_448 rfl rfl ?_
          refine g_iconst (v := nI 1) dL_law_449 rfl (by decide) ?_
          refine g_iadd dL_law_450 rfl (nI_add _ _) ?_
          refine g_sld dL_law_451 rfl (by omega) hL11 hx1 ?_
          refine g_aload_n dL_law_452 rfl rfl ?_
          refine g_iload_n dL_law_453 rfl rfl ?_
          refine g_iconst (v := nI 2) dL_law_454 rfl (by decide) ?_
          refine g_iadd dL_law_455 rfl (nI_add _ _) ?_
          refine g_sld dL_law_456 rfl (by omega) hL11 hx2 ?_
          refine g_callV (c_X6_forOne sk hB hsb hC.1 hns hC.2.1 hX.2.1.1 hX.2.1.2.1 hX.2.1.2.2.1 hX.2.1.2.2.2.1 hX.2.1.2.2.2.2.1 hX.2.1.2.2.2.2.2 hc hX.2.2.2.2.1 hb1 hb2) m_L_68 a_X6_forOne dL_law_457 rfl [0, 15, 16, 57, 58, 28, 52, 53, 29, 42, 30, 31, 32, 33, 34, 35, 36, 37, 38, 39, 40, 41, 44, 51, 47, 5, 7, 8, 9] rfl rfl 0 rfl rfl rfl (by decide) (by decide) (by decide) (by decide) (Nat.le_of_ble_eq_true rfl) (fun r w hK => ?_)
          obtain ⟨rfl, zd2, gI2, last2, once2, ff2, fo2, af2, fr2, fq2, g02, o02, z02, g12, o12, z12, g22, o22, z22, g32, o32, z32, g42, o42, z42, g52, o52, z52, u02, u12, u22, u32, u42, u52, rfl, hR, hD⟩ := hK
          refine ⟨rfl, ?_⟩
          dsimp only [puts, List.set, Option.toList, List.cons_append, List.nil_append, List.append_nil]
          refine g_aload_n dL_law_460 rfl rfl ?_
          refine g_aload_n dL_law_461 rfl rfl ?_
          refine g_iload_n dL_law_462 rfl rfl ?_
          refine g_iconst (v := nI 1) dL_law_463 rfl (by decide) ?_
          refine g_iadd dL_law_464 rfl (nI_add _ _) ?_
          refine g_sld dL_law_465 rfl (by omega) hL11 hx1 ?_
          refine g_aload_n dL_law_466 rfl rfl ?_
          refine g_iload_n dL_law_467 rfl rfl ?_
          refine g_iconst (v := nI 2) dL_law_468 rfl (by decide) ?_
          refine g_iadd dL_law_469 rfl (nI_add _ _) ?_
          refine g_sld dL_law_470 rfl (by omega) hL11 hx2 ?_
          refine g_callV (c_X7_forOne sk hB hW hc hsb hz hh) m_L_71 a_X7_forOne dL_law_471 rfl [59, 61, 63, 64] rfl rfl 0 rfl rfl rfl (by decide) (by decide) (by decide) (by decide) (Nat.le_of_ble_eq_true rfl) (fun r w hK => ?_)
          obtain ⟨rfl, ru2, fn2, rfl⟩ := hK
          refine ⟨rfl, ?_⟩
          dsimp only [puts, List.set, Option.toList, List.cons_append, List.nil_append, List.append_nil]
          refine g_icmp_eq (t := 699) dL_law_474 (by decide) rfl (fun h474 => ?_) (fun h474 => ?_)
          · skip
            exact hK true fp len fcn ai fa0 fp0 pt hm sn fb fF fn T gs w a r F2 C2 V2 E2 N2 S2 sfs sfw sfa sfr s sd fim s0 s1 d0 d1 fk n fc ff gt ot dt f0t gI2 last2 once2 ag af2 stp g02 o02 z02 g12 o12 z12 g22 o22 z22 g32 o32 z32 g42 o42 z42 g52 o52 z52 u02 u12 u22 u32 u42 u52 fr2 f9 far (fun i => if i = 2 then fq2 else qf i) (upd fg 2 (lenI (fewG (T 0) (T 1) (T 4) (T 5) w a r false (nI 2) s 6))) (upd ff2 2 (zb true)) rx fo2 ftn gr or_ dr f0r s zd2 at_ so sta sz fl iha isn ru2 fx fd s fn2 fi64 fz fkm fwm ffm fr6 fb6 tu6 tx who frs hT hP hL hS h0 h1 hN (one_cache (c := 2) (by decide) hC hsb hns hR hD) hX
          · exact absurd (one_eq hF30 hC6 hc hh hsb hz) h474
      · skip
        refine g_aload_n dL_law_446 rfl rfl ?_
        refine g_aload_n dL_law_447 rfl rfl ?_
        refine g_iload_n dL_law_448 rfl rfl ?_
        refine g_iconst (v := nI 1) dL_law_449 rfl (by decide) ?_
        refine g_iadd dL_law_450 rfl (nI_add _ _) ?_
        refine g_sld dL_law_451 rfl (by omega) hL11 hx1 ?_
        refine g_aload_n dL_law_452 rfl rfl ?_
        refine g_iload_n dL_law_453 rfl rfl ?_
        refine g_iconst (v := nI 2) dL_law_454 rfl (by decide) ?_
        refine g_iadd dL_law_455 rfl (nI_add _ _) ?_
        refine g_sld dL_law_456 rfl (by omega) hL11 hx2 ?_
        refine g_callV (c_X6_forOne sk hB hsb hC.1 hns hC.2.1 hX.2.1.1 hX.2.1.2.1 hX.2.1.2.2.1 hX.2.1.2.2.2.1 hX.2.1.2.2.2.2.1 hX.2.1.2.2.2.2.2 hc hX.2.2.2.2.1 hb1 hb2) m_L_68 a_X6_forOne dL_law_457 rfl [0, 15, 16, 57, 58, 28, 52, 53, 29, 42, 30, 31, 32, 33, 34, 35, 36, 37, 38, 39, 40, 41, 44, 51, 47, 5, 7, 8, 9] rfl rfl 0 rfl rfl rfl (by decide) (by decide) (by decide) (by decide) (Nat.le_of_ble_eq_true rfl) (fun r w hK => ?_)
        obtain ⟨rfl, zd2, gI2, last2, once2, ff2, fo2, af2, fr2, fq2, g02, o02, z02, g12, o12, z12, g22, o22, z22, g32, o32, z32, g42, o42, z42, g52, o52, z52, u02, u12, u22, u32, u42, u52, rfl, hR, hD⟩ := hK
        refine ⟨rfl, ?_⟩
        dsimp only [puts, List.set, Option.toList, List.cons_append, List.nil_append, List.append_nil]
        refine g_aload_n dL_law_460 rfl rfl ?_
        refine g_aload_n dL_law_461 rfl rfl ?_
        refine g_iload_n dL_law_462 rfl rfl ?_
        refine g_iconst (v := nI 1) dL_law_463 rfl (by decide) ?_
        refine g_iadd dL_law_464 rfl (nI_add _ _) ?_
        refine g_sld dL_law_465 rfl (by omega) hL11 hx1 ?_
        refine g_aload_n dL_law_466 rfl rfl ?_
        refine g_iload_n dL_law_467 rfl rfl ?_
        refine g_iconst (v := nI 2) dL_law_468 rfl (by decide) ?_
        refine g_iadd dL_law_469 rfl (nI_add _ _) ?_
        refine g_sld dL_law_470 rfl (by omega) hL11 hx2 ?_
        refine g_callV (c_X7_forOneN sk hC6 hc (by first | exact Or.inl hh | exact Or.inr hz)) m_L_71 a_X7_forOne dL_law_471 rfl [59, 61, 63] rfl rfl 0 rfl rfl rfl (by decide) (by decide) (by decide) (by decide) (Nat.le_of_ble_eq_true rfl) (fun r w hK => ?_)
        obtain ⟨rfl, rfl⟩ := hK
        refine ⟨rfl, ?_⟩
        dsimp only [puts, List.set, Option.toList, List.cons_append, List.nil_append, List.append_nil]
        refine g_icmp_eq (t := 699) dL_law_474 (by decide) rfl (fun h474 => ?_) (fun h474 => ?_)
        · skip
          exact hK true fp len fcn ai fa0 fp0 pt hm sn fb fF fn T gs w a r F2 C2 V2 E2 N2 S2 sfs sfw sfa sfr s sd fim s0 s1 d0 d1 fk n fc ff gt ot dt f0t gI2 last2 once2 ag af2 stp g02 o02 z02 g12 o12 z12 g22 o22 z22 g32 o32 z32 g42 o42 z42 g52 o52 z52 u02 u12 u22 u32 u42 u52 fr2 f9 far (fun i => if i = 2 then fq2 else qf i) (upd fg 2 (lenI (fewG (T 0) (T 1) (T 4) (T 5) w a r false (nI 2) s 6))) (upd ff2 2 (zb true)) rx fo2 ftn gr or_ dr f0r s zd2 at_ so sta sz fl iha isn ru fx fd s fnow fi64 fz fkm fwm ffm fr6 fb6 tu6 tx who frs hT hP hL hS h0 h1 hN (one_cache (c := 2) (by decide) hC hsb hns hR hD) hX
        · exact absurd (by rw [few_h hh]; exact ansOne_none) h474
    · skip
      obtain ⟨b, hb1, hb2⟩ := hC.2.2.2.1 3 (by decide)
      by_cases hh : s.2.2 = -1
      · skip
        rcases one_cases x2 with hz | hz
        · skip
          refine g_aload_n dL_law_446 rfl rfl ?_
          refine g_aload_n dL_law_447 rfl rfl ?_
          refine g_iload_n dL_law_448 rfl rfl ?_
          refine g_iconst (v := nI 1) dL_law_449 rfl (by decide) ?_
          refine g_iadd dL_law_450 rfl (nI_add _ _) ?_
          refine g_sld dL_law_451 rfl (by omega) hL11 hx1 ?_
          refine g_aload_n dL_law_452 rfl rfl ?_
          refine g_iload_n dL_law_453 rfl rfl ?_
          refine g_iconst (v := nI 2) dL_law_454 rfl (by decide) ?_
          refine g_iadd dL_law_455 rfl (nI_add _ _) ?_
          refine g_sld dL_law_456 rfl (by omega) hL11 hx2 ?_
          refine g_callV (c_X6_forOne sk hB hsb hC.1 hns hC.2.1 hX.2.1.1 hX.2.1.2.1 hX.2.1.2.2.1 hX.2.1.2.2.2.1 hX.2.1.2.2.2.2.1 hX.2.1.2.2.2.2.2 hc hX.2.2.2.2.2.1 hb1 hb2) m_L_68 a_X6_forOne dL_law_457 rfl [0, 15, 16, 57, 58, 28, 52, 53, 29, 42, 30, 31, 32, 33, 34, 35, 36, 37, 38, 39, 40, 41, 44, 51, 48, 5, 7, 8, 9] rfl rfl 0 rfl rfl rfl (by decide) (by decide) (by decide) (by decide) (Nat.le_of_ble_eq_true rfl) (fun r w hK => ?_)
          obtain ⟨rfl, zd2, gI2, last2, once2, ff2, fo2, af2, fr2, fq2, g02, o02, z02, g12, o12, z12, g22, o22, z22, g32, o32, z32, g42, o42, z42, g52, o52, z52, u02, u12, u22, u32, u42, u52, rfl, hR, hD⟩ := hK
          refine ⟨rfl, ?_⟩
          dsimp only [puts, List.set, Option.toList, List.cons_append, List.nil_append, List.append_nil]
          refine g_aload_n dL_law_460 rfl rfl ?_
          refine g_aload_n dL_law_461 rfl rfl ?_
          refine g_iload_n dL_law_462 rfl rfl ?_
          refine g_iconst (v := nI 1) dL_law_463 rfl (by decide) ?_
          refine g_iadd dL_law_464 rfl (nI_add _ _) ?_
          refine g_sld dL_law_465 rfl (by omega) hL11 hx1 ?_
          refine g_aload_n dL_law_466 rfl rfl ?_
          refine g_iload_n dL_law_467 rfl rfl ?_
          refine g_iconst (v := nI 2) dL_law_468 rfl (by decide) ?_
          refine g_iadd dL_law_469 rfl (nI_add _ _) ?_
          refine g_sld dL_law_470 rfl (by omega) hL11 hx2 ?_
          refine g_callV (c_X7_forOneN sk hC6 hc (by first | exact Or.inl hh | exact Or.inr hz)) m_L_71 a_X7_forOne dL_law_471 rfl [59, 61, 63] rfl rfl 0 rfl rfl rfl (by decide) (by decide) (by decide) (by decide) (Nat.le_of_ble_eq_true rfl) (fun r w hK => ?_)
          obtain ⟨rfl, rfl⟩ := hK
          refine ⟨rfl, ?_⟩
          dsimp only [puts, List.set, Option.toList, List.cons_append, List.nil_append, List.append_nil]
          refine g_icmp_eq (t := 699) dL_law_474 (by decide) rfl (fun h474 => ?_) (fun h474 => ?_)
          · skip
            exact hK true fp len fcn ai fa0 fp0 pt hm sn fb fF fn T gs w a r F2 C2 V2 E2 N2 S2 sfs sfw sfa sfr s sd fim s0 s1 d0 d1 fk n fc ff gt ot dt f0t gI2 last2 once2 ag af2 stp g02 o02 z02 g12 o12 z12 g22 o22 z22 g32 o32 z32 g42 o42 z42 g52 o52 z52 u02 u12 u22 u32 u42 u52 fr2 f9 far (fun i => if i = 3 then fq2 else qf i) (upd fg 3 (lenI (fewG (T 0) (T 1) (T 4) (T 5) w a r false (nI 3) s 6))) (upd ff2 3 (zb true)) rx fo2 ftn gr or_ dr f0r s zd2 at_ so sta sz fl iha isn ru fx fd s fnow fi64 fz fkm fwm ffm fr6 fb6 tu6 tx who frs hT hP hL hS h0 h1 hN (one_cache (c := 3) (by decide) hC hsb hns hR hD) hX
          · exact absurd (ansOne_x hz) h474
        · skip
          refine g_aload_n dL_law_446 rfl rfl ?_
          refine g_aload_n dL_law_447 rfl rfl ?_
          refine g_iload_n dL_law_448 rfl rfl ?_
          refine g_iconst (v := nI 1) dL_law_449 rfl (by decide) ?_
          refine g_iadd dL_law_450 rfl (nI_add _ _) ?_
          refine g_sld dL_law_451 rfl (by omega) hL11 hx1 ?_
          refine g_aload_n dL_law_452 rfl rfl ?_
          refine g_iload_n dL_law_453 rfl rfl ?_
          refine g_iconst (v := nI 2) dL_law_454 rfl (by decide) ?_
          refine g_iadd dL_law_455 rfl (nI_add _ _) ?_
          refine g_sld dL_law_456 rfl (by omega) hL11 hx2 ?_
          refine g_callV (c_X6_forOne sk hB hsb hC.1 hns hC.2.1 hX.2.1.1 hX.2.1.2.1 hX.2.1.2.2.1 hX.2.1.2.2.2.1 hX.2.1.2.2.2.2.1 hX.2.1.2.2.2.2.2 hc hX.2.2.2.2.2.1 hb1 hb2) m_L_68 a_X6_forOne dL_law_457 rfl [0, 15, 16, 57, 58, 28, 52, 53, 29, 42, 30, 31, 32, 33, 34, 35, 36, 37, 38, 39, 40, 41, 44, 51, 48, 5, 7, 8, 9] rfl rfl 0 rfl rfl rfl (by decide) (by decide) (by decide) (by decide) (Nat.le_of_ble_eq_true rfl) (fun r w hK => ?_)
          obtain ⟨rfl, zd2, gI2, last2, once2, ff2, fo2, af2, fr2, fq2, g02, o02, z02, g12, o12, z12, g22, o22, z22, g32, o32, z32, g42, o42, z42, g52, o52, z52, u02, u12, u22, u32, u42, u52, rfl, hR, hD⟩ := hK
          refine ⟨rfl, ?_⟩
          dsimp only [puts, List.set, Option.toList, List.cons_append, List.nil_append, List.append_nil]
          refine g_aload_n dL_law_460 rfl rfl ?_
          refine g_aload_n dL_law_461 rfl rfl ?_
          refine g_iload_n dL_law_462 rfl rfl ?_
          refine g_iconst (v := nI 1) dL_law_463 rfl (by decide) ?_
          refine g_iadd dL_law_464 rfl (nI_add _ _) ?_
          refine g_sld dL_law_465 rfl (by omega) hL11 hx1 ?_
          refine g_aload_n dL_law_466 rfl rfl ?_
          refine g_iload_n dL_law_467 rfl rfl ?_
          refine g_iconst (v := nI 2) dL_law_468 rfl (by decide) ?_
          refine g_iadd dL_law_469 rfl (nI_add _ _) ?_
          refine g_sld dL_law_470 rfl (by omega) hL11 hx2 ?_
          refine g_callV (c_X7_forOne sk hB hW hc hsb hz hh) m_L_71 a_X7_forOne dL_law_471 rfl [59, 61, 63, 64] rfl rfl 0 rfl rfl rfl (by decide) (by decide) (by decide) (by decide) (Nat.le_of_ble_eq_true rfl) (fun r w hK => ?_)
          obtain ⟨rfl, ru2, fn2, rfl⟩ := hK
          refine ⟨rfl, ?_⟩
          dsimp only [puts, List.set, Option.toList, List.cons_append, List.nil_append, List.append_nil]
          refine g_icmp_eq (t := 699) dL_law_474 (by decide) rfl (fun h474 => ?_) (fun h474 => ?_)
          · skip
            exact hK true fp len fcn ai fa0 fp0 pt hm sn fb fF fn T gs w a r F2 C2 V2 E2 N2 S2 sfs sfw sfa sfr s sd fim s0 s1 d0 d1 fk n fc ff gt ot dt f0t gI2 last2 once2 ag af2 stp g02 o02 z02 g12 o12 z12 g22 o22 z22 g32 o32 z32 g42 o42 z42 g52 o52 z52 u02 u12 u22 u32 u42 u52 fr2 f9 far (fun i => if i = 3 then fq2 else qf i) (upd fg 3 (lenI (fewG (T 0) (T 1) (T 4) (T 5) w a r false (nI 3) s 6))) (upd ff2 3 (zb true)) rx fo2 ftn gr or_ dr f0r s zd2 at_ so sta sz fl iha isn ru2 fx fd s fn2 fi64 fz fkm fwm ffm fr6 fb6 tu6 tx who frs hT hP hL hS h0 h1 hN (one_cache (c := 3) (by decide) hC hsb hns hR hD) hX
          · exact absurd (one_eq hF30 hC6 hc hh hsb hz) h474
      · skip
        refine g_aload_n dL_law_446 rfl rfl ?_
        refine g_aload_n dL_law_447 rfl rfl ?_
        refine g_iload_n dL_law_448 rfl rfl ?_
        refine g_iconst (v := nI 1) dL_law_449 rfl (by decide) ?_
        refine g_iadd dL_law_450 rfl (nI_add _ _) ?_
        refine g_sld dL_law_451 rfl (by omega) hL11 hx1 ?_
        refine g_aload_n dL_law_452 rfl rfl ?_
        refine g_iload_n dL_law_453 rfl rfl ?_
        refine g_iconst (v := nI 2) dL_law_454 rfl (by decide) ?_
        refine g_iadd dL_law_455 rfl (nI_add _ _) ?_
        refine g_sld dL_law_456 rfl (by omega) hL11 hx2 ?_
        refine g_callV (c_X6_forOne sk hB hsb hC.1 hns hC.2.1 hX.2.1.1 hX.2.1.2.1 hX.2.1.2.2.1 hX.2.1.2.2.2.1 hX.2.1.2.2.2.2.1 hX.2.1.2.2.2.2.2 hc hX.2.2.2.2.2.1 hb1 hb2) m_L_68 a_X6_forOne dL_law_457 rfl [0, 15, 16, 57, 58, 28, 52, 53, 29, 42, 30, 31, 32, 33, 34, 35, 36, 37, 38, 39, 40, 41, 44, 51, 48, 5, 7, 8, 9] rfl rfl 0 rfl rfl rfl (by decide) (by decide) (by decide) (by decide) (Nat.le_of_ble_eq_true rfl) (fun r w hK => ?_)
        obtain ⟨rfl, zd2, gI2, last2, once2, ff2, fo2, af2, fr2, fq2, g02, o02, z02, g12, o12, z12, g22, o22, z22, g32, o32, z32, g42, o42, z42, g52, o52, z52, u02, u12, u22, u32, u42, u52, rfl, hR, hD⟩ := hK
        refine ⟨rfl, ?_⟩
        dsimp only [puts, List.set, Option.toList, List.cons_append, List.nil_append, List.append_nil]
        refine g_aload_n dL_law_460 rfl rfl ?_
        refine g_aload_n dL_law_461 rfl rfl ?_
        refine g_iload_n dL_law_462 rfl rfl ?_
        refine g_iconst (v := nI 1) dL_law_463 rfl (by decide) ?_
        refine g_iadd dL_law_464 rfl (nI_add _ _) ?_
        refine g_sld dL_law_465 rfl (by omega) hL11 hx1 ?_
        refine g_aload_n dL_law_466 rfl rfl ?_
        refine g_iload_n dL_law_467 rfl rfl ?_
        refine g_iconst (v := nI 2) dL_law_468 rfl (by decide) ?_
        refine g_iadd dL_law_469 rfl (nI_add _ _) ?_
        refine g_sld dL_law_470 rfl (by omega) hL11 hx2 ?_
        refine g_callV (c_X7_forOneN sk hC6 hc (by first | exact Or.inl hh | exact Or.inr hz)) m_L_71 a_X7_forOne dL_law_471 rfl [59, 61, 63] rfl rfl 0 rfl rfl rfl (by decide) (by decide) (by decide) (by decide) (Nat.le_of_ble_eq_true rfl) (fun r w hK => ?_)
        obtain ⟨rfl, rfl⟩ := hK
        refine ⟨rfl, ?_⟩
        dsimp only [puts, List.set, Option.toList, List.cons_append, List.nil_append, List.append_nil]
        refine g_icmp_eq (t := 699) dL_law_474 (by decide) rfl (fun h474 => ?_) (fun h474 => ?_)
        · skip
          exact hK true fp len fcn ai fa0 fp0 pt hm sn fb fF fn T gs w a r F2 C2 V2 E2 N2 S2 sfs sfw sfa sfr s sd fim s0 s1 d0 d1 fk n fc ff gt ot dt f0t gI2 last2 once2 ag af2 stp g02 o02 z02 g12 o12 z12 g22 o22 z22 g32 o32 z32 g42 o42 z42 g52 o52 z52 u02 u12 u22 u32 u42 u52 fr2 f9 far (fun i => if i = 3 then fq2 else qf i) (upd fg 3 (lenI (fewG (T 0) (T 1) (T 4) (T 5) w a r false (nI 3) s 6))) (upd ff2 3 (zb true)) rx fo2 ftn gr or_ dr f0r s zd2 at_ so sta sz fl iha isn ru fx fd s fnow fi64 fz fkm fwm ffm fr6 fb6 tu6 tx who frs hT hP hL hS h0 h1 hN (one_cache (c := 3) (by decide) hC hsb hns hR hD) hX
        · exact absurd (by rw [few_h hh]; exact ansOne_none) h474
    · skip
      obtain ⟨b, hb1, hb2⟩ := hC.2.2.2.1 4 (by decide)
      by_cases hh : s.2.2 = -1
      · skip
        rcases one_cases x2 with hz | hz
        · skip
          refine g_aload_n dL_law_446 rfl rfl ?_
          refine g_aload_n dL_law_447 rfl rfl ?_
          refine g_iload_n dL_law_448 rfl rfl ?_
          refine g_iconst (v := nI 1) dL_law_449 rfl (by decide) ?_
          refine g_iadd dL_law_450 rfl (nI_add _ _) ?_
          refine g_sld dL_law_451 rfl (by omega) hL11 hx1 ?_
          refine g_aload_n dL_law_452 rfl rfl ?_
          refine g_iload_n dL_law_453 rfl rfl ?_
          refine g_iconst (v := nI 2) dL_law_454 rfl (by decide) ?_
          refine g_iadd dL_law_455 rfl (nI_add _ _) ?_
          refine g_sld dL_law_456 rfl (by omega) hL11 hx2 ?_
          refine g_callV (c_X6_forOne sk hB hsb hC.1 hns hC.2.1 hX.2.1.1 hX.2.1.2.1 hX.2.1.2.2.1 hX.2.1.2.2.2.1 hX.2.1.2.2.2.2.1 hX.2.1.2.2.2.2.2 hc hX.2.2.2.2.2.2.1 hb1 hb2) m_L_68 a_X6_forOne dL_law_457 rfl [0, 15, 16, 57, 58, 28, 52, 53, 29, 42, 30, 31, 32, 33, 34, 35, 36, 37, 38, 39, 40, 41, 44, 51, 49, 5, 7, 8, 9] rfl rfl 0 rfl rfl rfl (by decide) (by decide) (by decide) (by decide) (Nat.le_of_ble_eq_true rfl) (fun r w hK => ?_)
          obtain ⟨rfl, zd2, gI2, last2, once2, ff2, fo2, af2, fr2, fq2, g02, o02, z02, g12, o12, z12, g22, o22, z22, g32, o32, z32, g42, o42, z42, g52, o52, z52, u02, u12, u22, u32, u42, u52, rfl, hR, hD⟩ := hK
          refine ⟨rfl, ?_⟩
          dsimp only [puts, List.set, Option.toList, List.cons_append, List.nil_append, List.append_nil]
          refine g_aload_n dL_law_460 rfl rfl ?_
          refine g_aload_n dL_law_461 rfl rfl ?_
          refine g_iload_n dL_law_462 rfl rfl ?_
          refine g_iconst (v := nI 1) dL_law_463 rfl (by decide) ?_
          refine g_iadd dL_law_464 rfl (nI_add _ _) ?_
          refine g_sld dL_law_465 rfl (by omega) hL11 hx1 ?_
          refine g_aload_n dL_law_466 rfl rfl ?_
          refine g_iload_n dL_law_467 rfl rfl ?_
          refine g_iconst (v := nI 2) dL_law_468 rfl (by decide) ?_
          refine g_iadd dL_law_469 rfl (nI_add _ _) ?_
          refine g_sld dL_law_470 rfl (by omega) hL11 hx2 ?_
          refine g_callV (c_X7_forOneN sk hC6 hc (by first | exact Or.inl hh | exact Or.inr hz)) m_L_71 a_X7_forOne dL_law_471 rfl [59, 61, 63] rfl rfl 0 rfl rfl rfl (by decide) (by decide) (by decide) (by decide) (Nat.le_of_ble_eq_true rfl) (fun r w hK => ?_)
          obtain ⟨rfl, rfl⟩ := hK
          refine ⟨rfl, ?_⟩
          dsimp only [puts, List.set, Option.toList, List.cons_append, List.nil_append, List.append_nil]
          refine g_icmp_eq (t := 699) dL_law_474 (by decide) rfl (fun h474 => ?_) (fun h474 => ?_)
          · skip
            exact hK true fp len fcn ai fa0 fp0 pt hm sn fb fF fn T gs w a r F2 C2 V2 E2 N2 S2 sfs sfw sfa sfr s sd fim s0 s1 d0 d1 fk n fc ff gt ot dt f0t gI2 last2 once2 ag af2 stp g02 o02 z02 g12 o12 z12 g22 o22 z22 g32 o32 z32 g42 o42 z42 g52 o52 z52 u02 u12 u22 u32 u42 u52 fr2 f9 far (fun i => if i = 4 then fq2 else qf i) (upd fg 4 (lenI (fewG (T 0) (T 1) (T 4) (T 5) w a r false (nI 4) s 6))) (upd ff2 4 (zb true)) rx fo2 ftn gr or_ dr f0r s zd2 at_ so sta sz fl iha isn ru fx fd s fnow fi64 fz fkm fwm ffm fr6 fb6 tu6 tx who frs hT hP hL hS h0 h1 hN (one_cache (c := 4) (by decide) hC hsb hns hR hD) hX
          · exact absurd (ansOne_x hz) h474
        · skip
          refine g_aload_n dL_law_446 rfl rfl ?_
          refine g_aload_n dL_law_447 rfl rfl ?_
          refine g_iload_n dL_law_448 rfl rfl ?_
          refine g_iconst (v := nI 1) dL_law_449 rfl (by decide) ?_
          refine g_iadd dL_law_450 rfl (nI_add _ _) ?_
          refine g_sld dL_law_451 rfl (by omega) hL11 hx1 ?_
          refine g_aload_n dL_law_452 rfl rfl ?_
          refine g_iload_n dL_law_453 rfl rfl ?_
          refine g_iconst (v := nI 2) dL_law_454 rfl (by decide) ?_
          refine g_iadd dL_law_455 rfl (nI_add _ _) ?_
          refine g_sld dL_law_456 rfl (by omega) hL11 hx2 ?_
          refine g_callV (c_X6_forOne sk hB hsb hC.1 hns hC.2.1 hX.2.1.1 hX.2.1.2.1 hX.2.1.2.2.1 hX.2.1.2.2.2.1 hX.2.1.2.2.2.2.1 hX.2.1.2.2.2.2.2 hc hX.2.2.2.2.2.2.1 hb1 hb2) m_L_68 a_X6_forOne dL_law_457 rfl [0, 15, 16, 57, 58, 28, 52, 53, 29, 42, 30, 31, 32, 33, 34, 35, 36, 37, 38, 39, 40, 41, 44, 51, 49, 5, 7, 8, 9] rfl rfl 0 rfl rfl rfl (by decide) (by decide) (by decide) (by decide) (Nat.le_of_ble_eq_true rfl) (fun r w hK => ?_)
          obtain ⟨rfl, zd2, gI2, last2, once2, ff2, fo2, af2, fr2, fq2, g02, o02, z02, g12, o12, z12, g22, o22, z22, g32, o32, z32, g42, o42, z42, g52, o52, z52, u02, u12, u22, u32, u42, u52, rfl, hR, hD⟩ := hK
          refine ⟨rfl, ?_⟩
          dsimp only [puts, List.set, Option.toList, List.cons_append, List.nil_append, List.append_nil]
          refine g_aload_n dL_law_460 rfl rfl ?_
          refine g_aload_n dL_law_461 rfl rfl ?_
          refine g_iload_n dL_law_462 rfl rfl ?_
          refine g_iconst (v := nI 1) dL_law_463 rfl (by decide) ?_
          refine g_iadd dL_law_464 rfl (nI_add _ _) ?_
          refine g_sld dL_law_465 rfl (by omega) hL11 hx1 ?_
          refine g_aload_n dL_law_466 rfl rfl ?_
          refine g_iload_n dL_law_467 rfl rfl ?_
          refine g_iconst (v := nI 2) dL_law_468 rfl (by decide) ?_
          refine g_iadd dL_law_469 rfl (nI_add _ _) ?_
          refine g_sld dL_law_470 rfl (by omega) hL11 hx2 ?_
          refine g_callV (c_X7_forOne sk hB hW hc hsb hz hh) m_L_71 a_X7_forOne dL_law_471 rfl [59, 61, 63, 64] rfl rfl 0 rfl rfl rfl (by decide) (by decide) (by decide) (by decide) (Nat.le_of_ble_eq_true rfl) (fun r w hK => ?_)
          obtain ⟨rfl, ru2, fn2, rfl⟩ := hK
          refine ⟨rfl, ?_⟩
          dsimp only [puts, List.set, Option.toList, List.cons_append, List.nil_append, List.append_nil]
          refine g_icmp_eq (t := 699) dL_law_474 (by decide) rfl (fun h474 => ?_) (fun h474 => ?_)
          · skip
            exact hK true fp len fcn ai fa0 fp0 pt hm sn fb fF fn T gs w a r F2 C2 V2 E2 N2 S2 sfs sfw sfa sfr s sd fim s0 s1 d0 d1 fk n fc ff gt ot dt f0t gI2 last2 once2 ag af2 stp g02 o02 z02 g12 o12 z12 g22 o22 z22 g32 o32 z32 g42 o42 z42 g52 o52 z52 u02 u12 u22 u32 u42 u52 fr2 f9 far (fun i => if i = 4 then fq2 else qf i) (upd fg 4 (lenI (fewG (T 0) (T 1) (T 4) (T 5) w a r false (nI 4) s 6))) (upd ff2 4 (zb true)) rx fo2 ftn gr or_ dr f0r s zd2 at_ so sta sz fl iha isn ru2 fx fd s fn2 fi64 fz fkm fwm ffm fr6 fb6 tu6 tx who frs hT hP hL hS h0 h1 hN (one_cache (c := 4) (by decide) hC hsb hns hR hD) hX
          · exact absurd (one_eq hF30 hC6 hc hh hsb hz) h474
      · skip
        refine g_aload_n dL_law_446 rfl rfl ?_
        refine g_aload_n dL_law_447 rfl rfl ?_
        refine g_iload_n dL_law_448 rfl rfl ?_
        refine g_iconst (v := nI 1) dL_law_449 rfl (by decide) ?_
        refine g_iadd dL_law_450 rfl (nI_add _ _) ?_
        refine g_sld dL_law_451 rfl (by omega) hL11 hx1 ?_
        refine g_aload_n dL_law_452 rfl rfl ?_
        refine g_iload_n dL_law_453 rfl rfl ?_
        refine g_iconst (v := nI 2) dL_law_454 rfl (by decide) ?_
        refine g_iadd dL_law_455 rfl (nI_add _ _) ?_
        refine g_sld dL_law_456 rfl (by omega) hL11 hx2 ?_
        refine g_callV (c_X6_forOne sk hB hsb hC.1 hns hC.2.1 hX.2.1.1 hX.2.1.2.1 hX.2.1.2.2.1 hX.2.1.2.2.2.1 hX.2.1.2.2.2.2.1 hX.2.1.2.2.2.2.2 hc hX.2.2.2.2.2.2.1 hb1 hb2) m_L_68 a_X6_forOne dL_law_457 rfl [0, 15, 16, 57, 58, 28, 52, 53, 29, 42, 30, 31, 32, 33, 34, 35, 36, 37, 38, 39, 40, 41, 44, 51, 49, 5, 7, 8, 9] rfl rfl 0 rfl rfl rfl (by decide) (by decide) (by decide) (by decide) (Nat.le_of_ble_eq_true rfl) (fun r w hK => ?_)
        obtain ⟨rfl, zd2, gI2, last2, once2, ff2, fo2, af2, fr2, fq2, g02, o02, z02, g12, o12, z12, g22, o22, z22, g32, o32, z32, g42, o42, z42, g52, o52, z52, u02, u12, u22, u32, u42, u52, rfl, hR, hD⟩ := hK
        refine ⟨rfl, ?_⟩
        dsimp only [puts, List.set, Option.toList, List.cons_append, List.nil_append, List.append_nil]
        refine g_aload_n dL_law_460 rfl rfl ?_
        refine g_aload_n dL_law_461 rfl rfl ?_
        refine g_iload_n dL_law_462 rfl rfl ?_
        refine g_iconst (v := nI 1) dL_law_463 rfl (by decide) ?_
        refine g_iadd dL_law_464 rfl (nI_add _ _) ?_
        refine g_sld dL_law_465 rfl (by omega) hL11 hx1 ?_
        refine g_aload_n dL_law_466 rfl rfl ?_
        refine g_iload_n dL_law_467 rfl rfl ?_
        refine g_iconst (v := nI 2) dL_law_468 rfl (by decide) ?_
        refine g_iadd dL_law_469 rfl (nI_add _ _) ?_
        refine g_sld dL_law_470 rfl (by omega) hL11 hx2 ?_
        refine g_callV (c_X7_forOneN sk hC6 hc (by first | exact Or.inl hh | exact Or.inr hz)) m_L_71 a_X7_forOne dL_law_471 rfl [59, 61, 63] rfl rfl 0 rfl rfl rfl (by decide) (by decide) (by decide) (by decide) (Nat.le_of_ble_eq_true rfl) (fun r w hK => ?_)
        obtain ⟨rfl, rfl⟩ := hK
        refine ⟨rfl, ?_⟩
        dsimp only [puts, List.set, Option.toList, List.cons_append, List.nil_append, List.append_nil]
        refine g_icmp_eq (t := 699) dL_law_474 (by decide) rfl (fun h474 => ?_) (fun h474 => ?_)
        · skip
          exact hK true fp len fcn ai fa0 fp0 pt hm sn fb fF fn T gs w a r F2 C2 V2 E2 N2 S2 sfs sfw sfa sfr s sd fim s0 s1 d0 d1 fk n fc ff gt ot dt f0t gI2 last2 once2 ag af2 stp g02 o02 z02 g12 o12 z12 g22 o22 z22 g32 o32 z32 g42 o42 z42 g52 o52 z52 u02 u12 u22 u32 u42 u52 fr2 f9 far (fun i => if i = 4 then fq2 else qf i) (upd fg 4 (lenI (fewG (T 0) (T 1) (T 4) (T 5) w a r false (nI 4) s 6))) (upd ff2 4 (zb true)) rx fo2 ftn gr or_ dr f0r s zd2 at_ so sta sz fl iha isn ru fx fd s fnow fi64 fz fkm fwm ffm fr6 fb6 tu6 tx who frs hT hP hL hS h0 h1 hN (one_cache (c := 4) (by decide) hC hsb hns hR hD) hX
        · exact absurd (by rw [few_h hh]; exact ansOne_none) h474
    · skip
      obtain ⟨b, hb1, hb2⟩ := hC.2.2.2.1 5 (by decide)
      by_cases hh : s.2.2 = -1
      · skip
        rcases one_cases x2 with hz | hz
        · skip
          refine g_aload_n dL_law_446 rfl rfl ?_
          refine g_aload_n dL_law_447 rfl rfl ?_
          refine g_iload_n dL_law_448 rfl rfl ?_
          refine g_iconst (v := nI 1) dL_law_449 rfl (by decide) ?_
          refine g_iadd dL_law_450 rfl (nI_add _ _) ?_
          refine g_sld dL_law_451 rfl (by omega) hL11 hx1 ?_
          refine g_aload_n dL_law_452 rfl rfl ?_
          refine g_iload_n dL_law_453 rfl rfl ?_
          refine g_iconst (v := nI 2) dL_law_454 rfl (by decide) ?_
          refine g_iadd dL_law_455 rfl (nI_add _ _) ?_
          refine g_sld dL_law_456 rfl (by omega) hL11 hx2 ?_
          refine g_callV (c_X6_forOne sk hB hsb hC.1 hns hC.2.1 hX.2.1.1 hX.2.1.2.1 hX.2.1.2.2.1 hX.2.1.2.2.2.1 hX.2.1.2.2.2.2.1 hX.2.1.2.2.2.2.2 hc hX.2.2.2.2.2.2.2 hb1 hb2) m_L_68 a_X6_forOne dL_law_457 rfl [0, 15, 16, 57, 58, 28, 52, 53, 29, 42, 30, 31, 32, 33, 34, 35, 36, 37, 38, 39, 40, 41, 44, 51, 50, 5, 7, 8, 9] rfl rfl 0 rfl rfl rfl (by decide) (by decide) (by decide) (by decide) (Nat.le_of_ble_eq_true rfl) (fun r w hK => ?_)
          obtain ⟨rfl, zd2, gI2, last2, once2, ff2, fo2, af2, fr2, fq2, g02, o02, z02, g12, o12, z12, g22, o22, z22, g32, o32, z32, g42, o42, z42, g52, o52, z52, u02, u12, u22, u32, u42, u52, rfl, hR, hD⟩ := hK
          refine ⟨rfl, ?_⟩
          dsimp only [puts, List.set, Option.toList, List.cons_append, List.nil_append, List.append_nil]
          refine g_aload_n dL_law_460 rfl rfl ?_
          refine g_aload_n dL_law_461 rfl rfl ?_
          refine g_iload_n dL_law_462 rfl rfl ?_
          refine g_iconst (v := nI 1) dL_law_463 rfl (by decide) ?_
          refine g_iadd dL_law_464 rfl (nI_add _ _) ?_
          refine g_sld dL_law_465 rfl (by omega) hL11 hx1 ?_
          refine g_aload_n dL_law_466 rfl rfl ?_
          refine g_iload_n dL_law_467 rfl rfl ?_
          refine g_iconst (v := nI 2) dL_law_468 rfl (by decide) ?_
          refine g_iadd dL_law_469 rfl (nI_add _ _) ?_
          refine g_sld dL_law_470 rfl (by omega) hL11 hx2 ?_
          refine g_callV (c_X7_forOneN sk hC6 hc (by first | exact Or.inl hh | exact Or.inr hz)) m_L_71 a_X7_forOne dL_law_471 rfl [59, 61, 63] rfl rfl 0 rfl rfl rfl (by decide) (by decide) (by decide) (by decide) (Nat.le_of_ble_eq_true rfl) (fun r w hK => ?_)
          obtain ⟨rfl, rfl⟩ := hK
          refine ⟨rfl, ?_⟩
          dsimp only [puts, List.set, Option.toList, List.cons_append, List.nil_append, List.append_nil]
          refine g_icmp_eq (t := 699) dL_law_474 (by decide) rfl (fun h474 => ?_) (fun h474 => ?_)
          · skip
            exact hK true fp len fcn ai fa0 fp0 pt hm sn fb fF fn T gs w a r F2 C2 V2 E2 N2 S2 sfs sfw sfa sfr s sd fim s0 s1 d0 d1 fk n fc ff gt ot dt f0t gI2 last2 once2 ag af2 stp g02 o02 z02 g12 o12 z12 g22 o22 z22 g32 o32 z32 g42 o42 z42 g52 o52 z52 u02 u12 u22 u32 u42 u52 fr2 f9 far (fun i => if i = 5 then fq2 else qf i) (upd fg 5 (lenI (fewG (T 0) (T 1) (T 4) (T 5) w a r false (nI 5) s 6))) (upd ff2 5 (zb true)) rx fo2 ftn gr or_ dr f0r s zd2 at_ so sta sz fl iha isn ru fx fd s fnow fi64 fz fkm fwm ffm fr6 fb6 tu6 tx who frs hT hP hL hS h0 h1 hN (one_cache (c := 5) (by decide) hC hsb hns hR hD) hX
          · exact absurd (ansOne_x hz) h474
        · skip
          refine g_aload_n dL_law_446 rfl rfl ?_
          refine g_aload_n dL_law_447 rfl rfl ?_
          refine g_iload_n dL_law_448 rfl rfl ?_
          refine g_iconst (v := nI 1) dL_law_449 rfl (by decide) ?_
          refine g_iadd dL_law_450 rfl (nI_add _ _) ?_
          refine g_sld dL_law_451 rfl (by omega) hL11 hx1 ?_
          refine g_aload_n dL_law_452 rfl rfl ?_
          refine g_iload_n dL_law_453 rfl rfl ?_
          refine g_iconst (v := nI 2) dL_law_454 rfl (by decide) ?_
          refine g_iadd dL_law_455 rfl (nI_add _ _) ?_
          refine g_sld dL_law_456 rfl (by omega) hL11 hx2 ?_
          refine g_callV (c_X6_forOne sk hB hsb hC.1 hns hC.2.1 hX.2.1.1 hX.2.1.2.1 hX.2.1.2.2.1 hX.2.1.2.2.2.1 hX.2.1.2.2.2.2.1 hX.2.1.2.2.2.2.2 hc hX.2.2.2.2.2.2.2 hb1 hb2) m_L_68 a_X6_forOne dL_law_457 rfl [0, 15, 16, 57, 58, 28, 52, 53, 29, 42, 30, 31, 32, 33, 34, 35, 36, 37, 38, 39, 40, 41, 44, 51, 50, 5, 7, 8, 9] rfl rfl 0 rfl rfl rfl (by decide) (by decide) (by decide) (by decide) (Nat.le_of_ble_eq_true rfl) (fun r w hK => ?_)
          obtain ⟨rfl, zd2, gI2, last2, once2, ff2, fo2, af2, fr2, fq2, g02, o02, z02, g12, o12, z12, g22, o22, z22, g32, o32, z32, g42, o42, z42, g52, o52, z52, u02, u12, u22, u32, u42, u52, rfl, hR, hD⟩ := hK
          refine ⟨rfl, ?_⟩
          dsimp only [puts, List.set, Option.toList, List.cons_append, List.nil_append, List.append_nil]
          refine g_aload_n dL_law_460 rfl rfl ?_
          refine g_aload_n dL_law_461 rfl rfl ?_
          refine g_iload_n dL_law_462 rfl rfl ?_
          refine g_iconst (v := nI 1) dL_law_463 rfl (by decide) ?_
          refine g_iadd dL_law_464 rfl (nI_add _ _) ?_
          refine g_sld dL_law_465 rfl (by omega) hL11 hx1 ?_
          refine g_aload_n dL_law_466 rfl rfl ?_
          refine g_iload_n dL_law_467 rfl rfl ?_
          refine g_iconst (v := nI 2) dL_law_468 rfl (by decide) ?_
          refine g_iadd dL_law_469 rfl (nI_add _ _) ?_
          refine g_sld dL_law_470 rfl (by omega) hL11 hx2 ?_
          refine g_callV (c_X7_forOne sk hB hW hc hsb hz hh) m_L_71 a_X7_forOne dL_law_471 rfl [59, 61, 63, 64] rfl rfl 0 rfl rfl rfl (by decide) (by decide) (by decide) (by decide) (Nat.le_of_ble_eq_true rfl) (fun r w hK => ?_)
          obtain ⟨rfl, ru2, fn2, rfl⟩ := hK
          refine ⟨rfl, ?_⟩
          dsimp only [puts, List.set, Option.toList, List.cons_append, List.nil_append, List.append_nil]
          refine g_icmp_eq (t := 699) dL_law_474 (by decide) rfl (fun h474 => ?_) (fun h474 => ?_)
          · skip
            exact hK true fp len fcn ai fa0 fp0 pt hm sn fb fF fn T gs w a r F2 C2 V2 E2 N2 S2 sfs sfw sfa sfr s sd fim s0 s1 d0 d1 fk n fc ff gt ot dt f0t gI2 last2 once2 ag af2 stp g02 o02 z02 g12 o12 z12 g22 o22 z22 g32 o32 z32 g42 o42 z42 g52 o52 z52 u02 u12 u22 u32 u42 u52 fr2 f9 far (fun i => if i = 5 then fq2 else qf i) (upd fg 5 (lenI (fewG (T 0) (T 1) (T 4) (T 5) w a r false (nI 5) s 6))) (upd ff2 5 (zb true)) rx fo2 ftn gr or_ dr f0r s zd2 at_ so sta sz fl iha isn ru2 fx fd s fn2 fi64 fz fkm fwm ffm fr6 fb6 tu6 tx who frs hT hP hL hS h0 h1 hN (one_cache (c := 5) (by decide) hC hsb hns hR hD) hX
          · exact absurd (one_eq hF30 hC6 hc hh hsb hz) h474
      · skip
        refine g_aload_n dL_law_446 rfl rfl ?_
        refine g_aload_n dL_law_447 rfl rfl ?_
        refine g_iload_n dL_law_448 rfl rfl ?_
        refine g_iconst (v := nI 1) dL_law_449 rfl (by decide) ?_
        refine g_iadd dL_law_450 rfl (nI_add _ _) ?_
        refine g_sld dL_law_451 rfl (by omega) hL11 hx1 ?_
        refine g_aload_n dL_law_452 rfl rfl ?_
        refine g_iload_n dL_law_453 rfl rfl ?_
        refine g_iconst (v := nI 2) dL_law_454 rfl (by decide) ?_
        refine g_iadd dL_law_455 rfl (nI_add _ _) ?_
        refine g_sld dL_law_456 rfl (by omega) hL11 hx2 ?_
        refine g_callV (c_X6_forOne sk hB hsb hC.1 hns hC.2.1 hX.2.1.1 hX.2.1.2.1 hX.2.1.2.2.1 hX.2.1.2.2.2.1 hX.2.1.2.2.2.2.1 hX.2.1.2.2.2.2.2 hc hX.2.2.2.2.2.2.2 hb1 hb2) m_L_68 a_X6_forOne dL_law_457 rfl [0, 15, 16, 57, 58, 28, 52, 53, 29, 42, 30, 31, 32, 33, 34, 35, 36, 37, 38, 39, 40, 41, 44, 51, 50, 5, 7, 8, 9] rfl rfl 0 rfl rfl rfl (by decide) (by decide) (by decide) (by decide) (Nat.le_of_ble_eq_true rfl) (fun r w hK => ?_)
        obtain ⟨rfl, zd2, gI2, last2, once2, ff2, fo2, af2, fr2, fq2, g02, o02, z02, g12, o12, z12, g22, o22, z22, g32, o32, z32, g42, o42, z42, g52, o52, z52, u02, u12, u22, u32, u42, u52, rfl, hR, hD⟩ := hK
        refine ⟨rfl, ?_⟩
        dsimp only [puts, List.set, Option.toList, List.cons_append, List.nil_append, List.append_nil]
        refine g_aload_n dL_law_460 rfl rfl ?_
        refine g_aload_n dL_law_461 rfl rfl ?_
        refine g_iload_n dL_law_462 rfl rfl ?_
        refine g_iconst (v := nI 1) dL_law_463 rfl (by decide) ?_
        refine g_iadd dL_law_464 rfl (nI_add _ _) ?_
        refine g_sld dL_law_465 rfl (by omega) hL11 hx1 ?_
        refine g_aload_n dL_law_466 rfl rfl ?_
        refine g_iload_n dL_law_467 rfl rfl ?_
        refine g_iconst (v := nI 2) dL_law_468 rfl (by decide) ?_
        refine g_iadd dL_law_469 rfl (nI_add _ _) ?_
        refine g_sld dL_law_470 rfl (by omega) hL11 hx2 ?_
        refine g_callV (c_X7_forOneN sk hC6 hc (by first | exact Or.inl hh | exact Or.inr hz)) m_L_71 a_X7_forOne dL_law_471 rfl [59, 61, 63] rfl rfl 0 rfl rfl rfl (by decide) (by decide) (by decide) (by decide) (Nat.le_of_ble_eq_true rfl) (fun r w hK => ?_)
        obtain ⟨rfl, rfl⟩ := hK
        refine ⟨rfl, ?_⟩
        dsimp only [puts, List.set, Option.toList, List.cons_append, List.nil_append, List.append_nil]
        refine g_icmp_eq (t := 699) dL_law_474 (by decide) rfl (fun h474 => ?_) (fun h474 => ?_)
        · skip
          exact hK true fp len fcn ai fa0 fp0 pt hm sn fb fF fn T gs w a r F2 C2 V2 E2 N2 S2 sfs sfw sfa sfr s sd fim s0 s1 d0 d1 fk n fc ff gt ot dt f0t gI2 last2 once2 ag af2 stp g02 o02 z02 g12 o12 z12 g22 o22 z22 g32 o32 z32 g42 o42 z42 g52 o52 z52 u02 u12 u22 u32 u42 u52 fr2 f9 far (fun i => if i = 5 then fq2 else qf i) (upd fg 5 (lenI (fewG (T 0) (T 1) (T 4) (T 5) w a r false (nI 5) s 6))) (upd ff2 5 (zb true)) rx fo2 ftn gr or_ dr f0r s zd2 at_ so sta sz fl iha isn ru fx fd s fnow fi64 fz fkm fwm ffm fr6 fb6 tu6 tx who frs hT hP hL hS h0 h1 hN (one_cache (c := 5) (by decide) hC hsb hns hR hD) hX
        · exact absurd (by rw [few_h hh]; exact ansOne_none) h474
