/-! THE LAW: go, soap, drift, tower -/
set_option maxRecDepth 20000 in
set_option maxHeartbeats 4000000 in
theorem law_6 (sk A : Nat → Nat) (yy : MethodName) {i : Nat} (hi : i + 4 ≤ sk 11) (hL11 : sk 11 ≤ 256) (hK : ∀ (st : Bool) (fp : Int32) (len fcn : Nat) (ai fa0 fp0 : Int32) (pt hm sn : Bool) (fb fF fn : Nat → Int32) (T : Nat → Nat) (gs : Nat → Int32) (w a r : Nat → Nat) (F2 C2 V2 E2 N2 S2 : Int32) (sfs sfw sfa sfr : Nat → Int32) (s : PSt) (sd : Int32) (fim : Nat → Option Nat) (s0 s1 : PSt) (d0 d1 : Int32) (fk : Nat → Int32) (n : Nat) (fc ff : Nat → Int32) (gt ot dt : Int32) (f0t : Nat → Int32) (gI last : Int32) (once : Bool) (ag : Int32) (af : Bool) (stp : Nat → Option Nat) (g0 o0 z0 g1 o1 z1 g2 o2 z2 g3 o3 z3 g4 o4 z4 g5 o5 z5 : Int32) (u0 u1 u2 u3 u4 u5 frr f9 : Nat → Int32) (far : Nat → Option Nat) (qf : Nat → Nat → Int32) (fg ffn : Nat → Int32) (rx : Int32) (fo : Bool) (ftn : Nat → Int32) (gr or_ dr : Int32) (f0r : Nat → Int32) (t : PSt) (zd at_ so sta sz fl : Int32) (iha isn : Bool) (ru : Int32) (fx fd : Nat → Int32) (sm : PSt) (fnow fi64 fz fkm fwm ffm fr6 fb6 tu6 : Nat → Int32) (tx who frs : Nat → Nat), IText len tx fb fx → IPlan T w a r gs → SlB sfs → ISt (T 0) s sm → IImg (T 0) 0 s0 d0 fk fkm fi64 fz → IImg (T 0) 1 s1 d1 fk fkm fi64 fz → IList (T 1) n who frs fc ff fwm ffm → ICache T w a r st t ag af f9 fg ffn qf rx fo ftn → IFix A fim stp far → GG sk RL yy cL_law 4 (some .boolean) 100 73 1816 PLaw 73 1816 699 [some (.ref (sk 10)), some (.ref (A 0)), some (.ref (A 59)), some (.int (nI i))] [] [oMain (A 0) (A 1) (A 5) (A 10) (A 15) (A 17) (A 22) (A 23) (A 28) (A 53) (A 57) st fp, oReader (A 1) (A 2) (A 3) (A 4) (nI len) ai fa0 fp0 (nI fcn) pt hm sn, cB (A 2) 400 fb, cZ (A 3) 30 fF, cI (A 4) 3 fn, oPlan (A 5) (A 6) (A 7) (A 8) (A 9) (nI (T 0)) (nI (T 1)) (nI (T 2)) (nI (T 3)) (nI (T 4)) (nI (T 5)), cI (A 6) 30 gs, cI (A 7) 6 (fI w), cI (A 8) 6 (fI a), cI (A 9) 6 (fI r), oPlan (A 10) (A 11) (A 12) (A 13) (A 14) F2 C2 V2 E2 N2 S2, cI (A 11) 30 sfs, cI (A 12) 6 sfw, cI (A 13) 6 sfa, cI (A 14) 6 sfr, oPoleS (A 15) (A 16) s sd, cI (A 16) 30 (fI s.1), cP (A 17) 2 fim, oPoleS (A 18) (A 19) s0 d0, cI (A 19) 30 (fI s0.1), oPoleS (A 20) (A 21) s1 d1, cI (A 21) 30 (fI s1.1), cZ (A 22) 2 fk, oTale (A 23) (A 24) (A 25) (A 26) (nI n), cI (A 24) 12 fc, cI (A 25) 12 ff, oPole (A 26) (A 27) gt ot dt, cI (A 27) 30 f0t, oRows (A 28) (A 29) (A 42) gI last once (A 43) ag af (A 44) (A 51) (A 52), cP (A 29) 6 stp, oPole (A 30) (A 31) g0 o0 z0, cI (A 31) 30 u0, oPole (A 32) (A 33) g1 o1 z1, cI (A 33) 30 u1, oPole (A 34) (A 35) g2 o2 z2, cI (A 35) 30 u2, oPole (A 36) (A 37) g3 o3 z3, cI (A 37) 30 u3, oPole (A 38) (A 39) g4 o4 z4, cI (A 39) 30 u4, oPole (A 40) (A 41) g5 o5 z5, cI (A 41) 30 u5, cI (A 42) 6 frr, cI (A 43) 6 f9, cA (A 44) 6 far, cI (A 45) 6 (qf 0), cI (A 46) 6 (qf 1), cI (A 47) 6 (qf 2), cI (A 48) 6 (qf 3), cI (A 49) 6 (qf 4), cI (A 50) 6 (qf 5), cI (A 51) 6 fg, cZ (A 52) 6 ffn, oRests (A 53) (A 54) (A 55) rx fo, cI (A 54) 6 ftn, oPole (A 55) (A 56) gr or_ dr, cI (A 56) 30 f0r, oPoleS (A 57) (A 58) t zd, cI (A 58) 30 (fI t.1), oMod (A 59) (A 60) (nI len) (A 61) (A 62) (A 63) (A 64) (A 65) (A 66) (A 67) (A 68) (A 69) (nI n) sd fp at_ so sta sz fl iha isn ru (A 70) (A 71) (A 72), cI (A 60) 400 fx, cI (A 61) 56 (fI T), cI (A 62) 56 fd, cI (A 63) 32 (fS sm), cI (A 64) 32 fnow, cI (A 65) 64 fi64, cI (A 66) 2 fz, cZ (A 67) 2 fkm, cI (A 68) 12 fwm, cI (A 69) 12 ffm, cI (A 70) 6 fr6, cI (A 71) 6 fb6, cI (A 72) 6 tu6]) {st : Bool} {fp : Int32} {len fcn : Nat} {ai fa0 fp0 : Int32} {pt hm sn : Bool} {fb fF fn : Nat → Int32} {T : Nat → Nat} {gs : Nat → Int32} {w a r : Nat → Nat} {F2 C2 V2 E2 N2 S2 : Int32} {sfs sfw sfa sfr : Nat → Int32} {s : PSt} {sd : Int32} {fim : Nat → Option Nat} {s0 s1 : PSt} {d0 d1 : Int32} {fk : Nat → Int32} {n : Nat} {fc ff : Nat → Int32} {gt ot dt : Int32} {f0t : Nat → Int32} {gI last : Int32} {once : Bool} {ag : Int32} {af : Bool} {stp : Nat → Option Nat} {g0 o0 z0 g1 o1 z1 g2 o2 z2 g3 o3 z3 g4 o4 z4 g5 o5 z5 : Int32} {u0 u1 u2 u3 u4 u5 frr f9 : Nat → Int32} {far : Nat → Option Nat} {qf : Nat → Nat → Int32} {fg ffn : Nat → Int32} {rx : Int32} {fo : Bool} {ftn : Nat → Int32} {gr or_ dr : Int32} {f0r : Nat → Int32} {t : PSt} {zd at_ so sta sz fl : Int32} {iha isn : Bool} {ru : Int32} {fx fd : Nat → Int32} {sm : PSt} {fnow fi64 fz fkm fwm ffm fr6 fb6 tu6 : Nat → Int32} {tx who frs : Nat → Nat} (hT : IText len tx fb fx) (hP : IPlan T w a r gs) (hL : SlB sfs) (hS : ISt (T 0) s sm) (h0 : IImg (T 0) 0 s0 d0 fk fkm fi64 fz) (h1 : IImg (T 0) 1 s1 d1 fk fkm fi64 fz) (hN : IList (T 1) n who frs fc ff fwm ffm) (hC : ICache T w a r st t ag af f9 fg ffn qf rx fo ftn) (hX : IFix A fim stp far) : GG sk RL yy cL_law 4 (some .boolean) 100 73 1816 PLaw 73 1816 308 [some (.ref (sk 10)), some (.ref (A 0)), some (.ref (A 59)), some (.int (nI i))] [] [oMain (A 0) (A 1) (A 5) (A 10) (A 15) (A 17) (A 22) (A 23) (A 28) (A 53) (A 57) st fp, oReader (A 1) (A 2) (A 3) (A 4) (nI len) ai fa0 fp0 (nI fcn) pt hm sn, cB (A 2) 400 fb, cZ (A 3) 30 fF, cI (A 4) 3 fn, oPlan (A 5) (A 6) (A 7) (A 8) (A 9) (nI (T 0)) (nI (T 1)) (nI (T 2)) (nI (T 3)) (nI (T 4)) (nI (T 5)), cI (A 6) 30 gs, cI (A 7) 6 (fI w), cI (A 8) 6 (fI a), cI (A 9) 6 (fI r), oPlan (A 10) (A 11) (A 12) (A 13) (A 14) F2 C2 V2 E2 N2 S2, cI (A 11) 30 sfs, cI (A 12) 6 sfw, cI (A 13) 6 sfa, cI (A 14) 6 sfr, oPoleS (A 15) (A 16) s sd, cI (A 16) 30 (fI s.1), cP (A 17) 2 fim, oPoleS (A 18) (A 19) s0 d0, cI (A 19) 30 (fI s0.1), oPoleS (A 20) (A 21) s1 d1, cI (A 21) 30 (fI s1.1), cZ (A 22) 2 fk, oTale (A 23) (A 24) (A 25) (A 26) (nI n), cI (A 24) 12 fc, cI (A 25) 12 ff, oPole (A 26) (A 27) gt ot dt, cI (A 27) 30 f0t, oRows (A 28) (A 29) (A 42) gI last once (A 43) ag af (A 44) (A 51) (A 52), cP (A 29) 6 stp, oPole (A 30) (A 31) g0 o0 z0, cI (A 31) 30 u0, oPole (A 32) (A 33) g1 o1 z1, cI (A 33) 30 u1, oPole (A 34) (A 35) g2 o2 z2, cI (A 35) 30 u2, oPole (A 36) (A 37) g3 o3 z3, cI (A 37) 30 u3, oPole (A 38) (A 39) g4 o4 z4, cI (A 39) 30 u4, oPole (A 40) (A 41) g5 o5 z5, cI (A 41) 30 u5, cI (A 42) 6 frr, cI (A 43) 6 f9, cA (A 44) 6 far, cI (A 45) 6 (qf 0), cI (A 46) 6 (qf 1), cI (A 47) 6 (qf 2), cI (A 48) 6 (qf 3), cI (A 49) 6 (qf 4), cI (A 50) 6 (qf 5), cI (A 51) 6 fg, cZ (A 52) 6 ffn, oRests (A 53) (A 54) (A 55) rx fo, cI (A 54) 6 ftn, oPole (A 55) (A 56) gr or_ dr, cI (A 56) 30 f0r, oPoleS (A 57) (A 58) t zd, cI (A 58) 30 (fI t.1), oMod (A 59) (A 60) (nI len) (A 61) (A 62) (A 63) (A 64) (A 65) (A 66) (A 67) (A 68) (A 69) (nI n) sd fp at_ so sta sz fl iha isn ru (A 70) (A 71) (A 72), cI (A 60) 400 fx, cI (A 61) 56 (fI T), cI (A 62) 56 fd, cI (A 63) 32 (fS sm), cI (A 64) 32 fnow, cI (A 65) 64 fi64, cI (A 66) 2 fz, cZ (A 67) 2 fkm, cI (A 68) 12 fwm, cI (A 69) 12 ffm, cI (A 70) 6 fr6, cI (A 71) 6 fb6, cI (A 72) 6 tu6] := by
  have hB := hP.PB
  have hW := hP.2.1
  have hF30 : T 0 ≤ 30 := hB.1
  have hC6 : T 1 ≤ 6 := hB.2.1
  have hQ := hP.1
  have hsb := hS.1
  have hns := hS.2.1
  have hmb := hS.2.2.1
  have h2 := hS.2.2.2.2.1
  obtain ⟨x1, hx1⟩ : ∃ x, nI (sk (12 + (i + 1))) = x := ⟨_, rfl⟩
  obtain ⟨x2, hx2⟩ : ∃ x, nI (sk (12 + (i + 2))) = x := ⟨_, rfl⟩
  obtain ⟨x3, hx3⟩ : ∃ x, nI (sk (12 + (i + 3))) = x := ⟨_, rfl⟩
  by_cases hx : inR x1 (T 1) = false
  · skip
    refine g_aload_n dL_law_308 rfl rfl ?_
    refine g_aload_n dL_law_309 rfl rfl ?_
    refine g_iload_n dL_law_310 rfl rfl ?_
    refine g_iconst (v := nI 1) dL_law_311 rfl (by decide) ?_
    refine g_iadd dL_law_312 rfl (nI_add _ _) ?_
    refine g_sld dL_law_313 rfl (by omega) hL11 hx1 ?_
    refine g_callV (c_X6_go sk hB hsb (Z := (-1000000001, s)) (by rw [goA, if_neg (by rw [hx]; decide)])) m_L_43 a_X6_go dL_law_314 rfl [0, 15, 16, 5, 7, 8, 9] rfl rfl 0 rfl rfl rfl (by decide) (by decide) (by decide) (by decide) (Nat.le_of_ble_eq_true rfl) (fun r w hK => ?_)
    obtain ⟨rfl, rfl⟩ := hK
    refine ⟨rfl, ?_⟩
    dsimp only [puts, List.set, Option.toList, List.cons_append, List.nil_append, List.append_nil]
    refine g_aload_n dL_law_317 rfl rfl ?_
    refine g_aload_n dL_law_318 rfl rfl ?_
    refine g_iload_n dL_law_319 rfl rfl ?_
    refine g_iconst (v := nI 1) dL_law_320 rfl (by decide) ?_
    refine g_iadd dL_law_321 rfl (nI_add _ _) ?_
    refine g_sld dL_law_322 rfl (by omega) hL11 hx1 ?_
    refine g_callV (c_X7_go sk hQ hmb (Z := (-1000000001, sm)) (by rw [goA, if_neg (by rw [hx]; decide)])) m_L_46 a_X7_go dL_law_323 rfl [59, 61, 63, 64] rfl rfl 0 rfl rfl rfl (by decide) (by decide) (by decide) (by decide) (Nat.le_of_ble_eq_true rfl) (fun r w hK => ?_)
    obtain ⟨rfl, ru2, fn2, rfl⟩ := hK
    refine ⟨rfl, ?_⟩
    dsimp only [puts, List.set, Option.toList, List.cons_append, List.nil_append, List.append_nil]
    refine g_icmp_eq (t := 699) dL_law_326 (by decide) rfl (fun h326 => ?_) (fun h326 => ?_)
    · skip
      exact hK st fp len fcn ai fa0 fp0 pt hm sn fb fF fn T gs w a r F2 C2 V2 E2 N2 S2 sfs sfw sfa sfr s sd fim s0 s1 d0 d1 fk n fc ff gt ot dt f0t gI last once ag af stp g0 o0 z0 g1 o1 z1 g2 o2 z2 g3 o3 z3 g4 o4 z4 g5 o5 z5 u0 u1 u2 u3 u4 u5 frr f9 far qf fg ffn rx fo ftn gr or_ dr f0r t zd at_ so sta sz fl iha isn ru2 fx fd sm fn2 fi64 fz fkm fwm ffm fr6 fb6 tu6 tx who frs hT hP hL hS h0 h1 hN hC hX
    · exact absurd rfl h326
  · skip
    obtain ⟨c, hc, rfl⟩ := inR_c (show T 1 < 2 ^ 31 by omega) hx
    have hF : 1 ≤ T 0 := hB.2.2.1 (by omega)
    obtain rfl := hS.2.2.2.2.2 hF
    obtain ⟨e1, e2, e3⟩ := hW c hc
    have hg : go1 (T 0) (T 4) (T 5) (fun c => T (6 + c)) (fun c => T (12 + c)) (fun c => T (18 + c)) false s c = go1 (T 0) (T 4) (T 5) w a r false s c := go1_T hW hc
    have hf := far1_T (b := false) (s := s) hW hc
    refine g_aload_n dL_law_308 rfl rfl ?_
    refine g_aload_n dL_law_309 rfl rfl ?_
    refine g_iload_n dL_law_310 rfl rfl ?_
    refine g_iconst (v := nI 1) dL_law_311 rfl (by decide) ?_
    refine g_iadd dL_law_312 rfl (nI_add _ _) ?_
    refine g_sld dL_law_313 rfl (by omega) hL11 hx1 ?_
    refine g_callV (c_X6_go sk hB hsb (Z := (nI (far1 (T 0) w a false s c), go1 (T 0) (T 4) (T 5) w a r false s c)) (by rw [goA, if_pos (inR_N hc (by omega)), nI_clamp (by omega)])) m_L_43 a_X6_go dL_law_314 rfl [0, 15, 16, 5, 7, 8, 9] rfl rfl 0 rfl rfl rfl (by decide) (by decide) (by decide) (by decide) (Nat.le_of_ble_eq_true rfl) (fun r w hK => ?_)
    obtain ⟨rfl, rfl⟩ := hK
    refine ⟨rfl, ?_⟩
    dsimp only [puts, List.set, Option.toList, List.cons_append, List.nil_append, List.append_nil]
    refine g_aload_n dL_law_317 rfl rfl ?_
    refine g_aload_n dL_law_318 rfl rfl ?_
    refine g_iload_n dL_law_319 rfl rfl ?_
    refine g_iconst (v := nI 1) dL_law_320 rfl (by decide) ?_
    refine g_iadd dL_law_321 rfl (nI_add _ _) ?_
    refine g_sld dL_law_322 rfl (by omega) hL11 hx1 ?_
    refine g_callV (c_X7_go sk hQ hsb (Z := (nI (far1 (T 0) w a false s c), go1 (T 0) (T 4) (T 5) w a r false s c)) (by rw [goA, if_pos (inR_N hc (by omega)), nI_clamp (by omega), hg, hf])) m_L_46 a_X7_go dL_law_323 rfl [59, 61, 63, 64] rfl rfl 0 rfl rfl rfl (by decide) (by decide) (by decide) (by decide) (Nat.le_of_ble_eq_true rfl) (fun r w hK => ?_)
    obtain ⟨rfl, ru2, fn2, rfl⟩ := hK
    refine ⟨rfl, ?_⟩
    dsimp only [puts, List.set, Option.toList, List.cons_append, List.nil_append, List.append_nil]
    refine g_icmp_eq (t := 699) dL_law_326 (by decide) rfl (fun h326 => ?_) (fun h326 => ?_)
    · skip
      exact hK st fp len fcn ai fa0 fp0 pt hm sn fb fF fn T gs w a r F2 C2 V2 E2 N2 S2 sfs sfw sfa sfr (go1 (T 0) (T 4) (T 5) w a r false s c) sd fim s0 s1 d0 d1 fk n fc ff gt ot dt f0t gI last once ag af stp g0 o0 z0 g1 o1 z1 g2 o2 z2 g3 o3 z3 g4 o4 z4 g5 o5 z5 u0 u1 u2 u3 u4 u5 frr f9 far qf fg ffn rx fo ftn gr or_ dr f0r t zd at_ so sta sz fl iha isn ru2 fx fd (go1 (T 0) (T 4) (T 5) w a r false s c) fn2 fi64 fz fkm fwm ffm fr6 fb6 tu6 tx who frs hT hP hL (ISt.same (go1_SB hsb) (go1_NS hF30 hns)) h0 h1 hN hC hX
    · exact absurd rfl h326
set_option maxRecDepth 20000 in
set_option maxHeartbeats 4000000 in
theorem law_7 (sk A : Nat → Nat) (yy : MethodName) {i : Nat} (hi : i + 4 ≤ sk 11) (hL11 : sk 11 ≤ 256) (hK : ∀ (st : Bool) (fp : Int32) (len fcn : Nat) (ai fa0 fp0 : Int32) (pt hm sn : Bool) (fb fF fn : Nat → Int32) (T : Nat → Nat) (gs : Nat → Int32) (w a r : Nat → Nat) (F2 C2 V2 E2 N2 S2 : Int32) (sfs sfw sfa sfr : Nat → Int32) (s : PSt) (sd : Int32) (fim : Nat → Option Nat) (s0 s1 : PSt) (d0 d1 : Int32) (fk : Nat → Int32) (n : Nat) (fc ff : Nat → Int32) (gt ot dt : Int32) (f0t : Nat → Int32) (gI last : Int32) (once : Bool) (ag : Int32) (af : Bool) (stp : Nat → Option Nat) (g0 o0 z0 g1 o1 z1 g2 o2 z2 g3 o3 z3 g4 o4 z4 g5 o5 z5 : Int32) (u0 u1 u2 u3 u4 u5 frr f9 : Nat → Int32) (far : Nat → Option Nat) (qf : Nat → Nat → Int32) (fg ffn : Nat → Int32) (rx : Int32) (fo : Bool) (ftn : Nat → Int32) (gr or_ dr : Int32) (f0r : Nat → Int32) (t : PSt) (zd at_ so sta sz fl : Int32) (iha isn : Bool) (ru : Int32) (fx fd : Nat → Int32) (sm : PSt) (fnow fi64 fz fkm fwm ffm fr6 fb6 tu6 : Nat → Int32) (tx who frs : Nat → Nat), IText len tx fb fx → IPlan T w a r gs → SlB sfs → ISt (T 0) s sm → IImg (T 0) 0 s0 d0 fk fkm fi64 fz → IImg (T 0) 1 s1 d1 fk fkm fi64 fz → IList (T 1) n who frs fc ff fwm ffm → ICache T w a r st t ag af f9 fg ffn qf rx fo ftn → IFix A fim stp far → GG sk RL yy cL_law 4 (some .boolean) 100 73 1816 PLaw 73 1816 699 [some (.ref (sk 10)), some (.ref (A 0)), some (.ref (A 59)), some (.int (nI i))] [] [oMain (A 0) (A 1) (A 5) (A 10) (A 15) (A 17) (A 22) (A 23) (A 28) (A 53) (A 57) st fp, oReader (A 1) (A 2) (A 3) (A 4) (nI len) ai fa0 fp0 (nI fcn) pt hm sn, cB (A 2) 400 fb, cZ (A 3) 30 fF, cI (A 4) 3 fn, oPlan (A 5) (A 6) (A 7) (A 8) (A 9) (nI (T 0)) (nI (T 1)) (nI (T 2)) (nI (T 3)) (nI (T 4)) (nI (T 5)), cI (A 6) 30 gs, cI (A 7) 6 (fI w), cI (A 8) 6 (fI a), cI (A 9) 6 (fI r), oPlan (A 10) (A 11) (A 12) (A 13) (A 14) F2 C2 V2 E2 N2 S2, cI (A 11) 30 sfs, cI (A 12) 6 sfw, cI (A 13) 6 sfa, cI (A 14) 6 sfr, oPoleS (A 15) (A 16) s sd, cI (A 16) 30 (fI s.1), cP (A 17) 2 fim, oPoleS (A 18) (A 19) s0 d0, cI (A 19) 30 (fI s0.1), oPoleS (A 20) (A 21) s1 d1, cI (A 21) 30 (fI s1.1), cZ (A 22) 2 fk, oTale (A 23) (A 24) (A 25) (A 26) (nI n), cI (A 24) 12 fc, cI (A 25) 12 ff, oPole (A 26) (A 27) gt ot dt, cI (A 27) 30 f0t, oRows (A 28) (A 29) (A 42) gI last once (A 43) ag af (A 44) (A 51) (A 52), cP (A 29) 6 stp, oPole (A 30) (A 31) g0 o0 z0, cI (A 31) 30 u0, oPole (A 32) (A 33) g1 o1 z1, cI (A 33) 30 u1, oPole (A 34) (A 35) g2 o2 z2, cI (A 35) 30 u2, oPole (A 36) (A 37) g3 o3 z3, cI (A 37) 30 u3, oPole (A 38) (A 39) g4 o4 z4, cI (A 39) 30 u4, oPole (A 40) (A 41) g5 o5 z5, cI (A 41) 30 u5, cI (A 42) 6 frr, cI (A 43) 6 f9, cA (A 44) 6 far, cI (A 45) 6 (qf 0), cI (A 46) 6 (qf 1), cI (A 47) 6 (qf 2), cI (A 48) 6 (qf 3), cI (A 49) 6 (qf 4), cI (A 50) 6 (qf 5), cI (A 51) 6 fg, cZ (A 52) 6 ffn, oRests (A 53) (A 54) (A 55) rx fo, cI (A 54) 6 ftn, oPole (A 55) (A 56) gr or_ dr, cI (A 56) 30 f0r, oPoleS (A 57) (A 58) t zd, cI (A 58) 30 (fI t.1), oMod (A 59) (A 60) (nI len) (A 61) (A 62) (A 63) (A 64) (A 65) (A 66) (A 67) (A 68) (A 69) (nI n) sd fp at_ so sta sz fl iha isn ru (A 70) (A 71) (A 72), cI (A 60) 400 fx, cI (A 61) 56 (fI T), cI (A 62) 56 fd, cI (A 63) 32 (fS sm), cI (A 64) 32 fnow, cI (A 65) 64 fi64, cI (A 66) 2 fz, cZ (A 67) 2 fkm, cI (A 68) 12 fwm, cI (A 69) 12 ffm, cI (A 70) 6 fr6, cI (A 71) 6 fb6, cI (A 72) 6 tu6]) {st : Bool} {fp : Int32} {len fcn : Nat} {ai fa0 fp0 : Int32} {pt hm sn : Bool} {fb fF fn : Nat → Int32} {T : Nat → Nat} {gs : Nat → Int32} {w a r : Nat → Nat} {F2 C2 V2 E2 N2 S2 : Int32} {sfs sfw sfa sfr : Nat → Int32} {s : PSt} {sd : Int32} {fim : Nat → Option Nat} {s0 s1 : PSt} {d0 d1 : Int32} {fk : Nat → Int32} {n : Nat} {fc ff : Nat → Int32} {gt ot dt : Int32} {f0t : Nat → Int32} {gI last : Int32} {once : Bool} {ag : Int32} {af : Bool} {stp : Nat → Option Nat} {g0 o0 z0 g1 o1 z1 g2 o2 z2 g3 o3 z3 g4 o4 z4 g5 o5 z5 : Int32} {u0 u1 u2 u3 u4 u5 frr f9 : Nat → Int32} {far : Nat → Option Nat} {qf : Nat → Nat → Int32} {fg ffn : Nat → Int32} {rx : Int32} {fo : Bool} {ftn : Nat → Int32} {gr or_ dr : Int32} {f0r : Nat → Int32} {t : PSt} {zd at_ so sta sz fl : Int32} {iha isn : Bool} {ru : Int32} {fx fd : Nat → Int32} {sm : PSt} {fnow fi64 fz fkm fwm ffm fr6 fb6 tu6 : Nat → Int32} {tx who frs : Nat → Nat} (hT : IText len tx fb fx) (hP : IPlan T w a r gs) (hL : SlB sfs) (hS : ISt (T 0) s sm) (h0 : IImg (T 0) 0 s0 d0 fk fkm fi64 fz) (h1 : IImg (T 0) 1 s1 d1 fk fkm fi64 fz) (hN : IList (T 1) n who frs fc ff fwm ffm) (hC : ICache T w a r st t ag af f9 fg ffn qf rx fo ftn) (hX : IFix A fim stp far) : GG sk RL yy cL_law 4 (some .boolean) 100 73 1816 PLaw 73 1816 331 [some (.ref (sk 10)), some (.ref (A 0)), some (.ref (A 59)), some (.int (nI i))] [] [oMain (A 0) (A 1) (A 5) (A 10) (A 15) (A 17) (A 22) (A 23) (A 28) (A 53) (A 57) st fp, oReader (A 1) (A 2) (A 3) (A 4) (nI len) ai fa0 fp0 (nI fcn) pt hm sn, cB (A 2) 400 fb, cZ (A 3) 30 fF, cI (A 4) 3 fn, oPlan (A 5) (A 6) (A 7) (A 8) (A 9) (nI (T 0)) (nI (T 1)) (nI (T 2)) (nI (T 3)) (nI (T 4)) (nI (T 5)), cI (A 6) 30 gs, cI (A 7) 6 (fI w), cI (A 8) 6 (fI a), cI (A 9) 6 (fI r), oPlan (A 10) (A 11) (A 12) (A 13) (A 14) F2 C2 V2 E2 N2 S2, cI (A 11) 30 sfs, cI (A 12) 6 sfw, cI (A 13) 6 sfa, cI (A 14) 6 sfr, oPoleS (A 15) (A 16) s sd, cI (A 16) 30 (fI s.1), cP (A 17) 2 fim, oPoleS (A 18) (A 19) s0 d0, cI (A 19) 30 (fI s0.1), oPoleS (A 20) (A 21) s1 d1, cI (A 21) 30 (fI s1.1), cZ (A 22) 2 fk, oTale (A 23) (A 24) (A 25) (A 26) (nI n), cI (A 24) 12 fc, cI (A 25) 12 ff, oPole (A 26) (A 27) gt ot dt, cI (A 27) 30 f0t, oRows (A 28) (A 29) (A 42) gI last once (A 43) ag af (A 44) (A 51) (A 52), cP (A 29) 6 stp, oPole (A 30) (A 31) g0 o0 z0, cI (A 31) 30 u0, oPole (A 32) (A 33) g1 o1 z1, cI (A 33) 30 u1, oPole (A 34) (A 35) g2 o2 z2, cI (A 35) 30 u2, oPole (A 36) (A 37) g3 o3 z3, cI (A 37) 30 u3, oPole (A 38) (A 39) g4 o4 z4, cI (A 39) 30 u4, oPole (A 40) (A 41) g5 o5 z5, cI (A 41) 30 u5, cI (A 42) 6 frr, cI (A 43) 6 f9, cA (A 44) 6 far, cI (A 45) 6 (qf 0), cI (A 46) 6 (qf 1), cI (A 47) 6 (qf 2), cI (A 48) 6 (qf 3), cI (A 49) 6 (qf 4), cI (A 50) 6 (qf 5), cI (A 51) 6 fg, cZ (A 52) 6 ffn, oRests (A 53) (A 54) (A 55) rx fo, cI (A 54) 6 ftn, oPole (A 55) (A 56) gr or_ dr, cI (A 56) 30 f0r, oPoleS (A 57) (A 58) t zd, cI (A 58) 30 (fI t.1), oMod (A 59) (A 60) (nI len) (A 61) (A 62) (A 63) (A 64) (A 65) (A 66) (A 67) (A 68) (A 69) (nI n) sd fp at_ so sta sz fl iha isn ru (A 70) (A 71) (A 72), cI (A 60) 400 fx, cI (A 61) 56 (fI T), cI (A 62) 56 fd, cI (A 63) 32 (fS sm), cI (A 64) 32 fnow, cI (A 65) 64 fi64, cI (A 66) 2 fz, cZ (A 67) 2 fkm, cI (A 68) 12 fwm, cI (A 69) 12 ffm, cI (A 70) 6 fr6, cI (A 71) 6 fb6, cI (A 72) 6 tu6] := by
  have hB := hP.PB
  have hW := hP.2.1
  have hF30 : T 0 ≤ 30 := hB.1
  have hC6 : T 1 ≤ 6 := hB.2.1
  have hQ := hP.1
  have hsb := hS.1
  have hns := hS.2.1
  have hmb := hS.2.2.1
  have h2 := hS.2.2.2.2.1
  obtain ⟨x1, hx1⟩ : ∃ x, nI (sk (12 + (i + 1))) = x := ⟨_, rfl⟩
  obtain ⟨x2, hx2⟩ : ∃ x, nI (sk (12 + (i + 2))) = x := ⟨_, rfl⟩
  obtain ⟨x3, hx3⟩ : ∃ x, nI (sk (12 + (i + 3))) = x := ⟨_, rfl⟩
  by_cases hz : soapC (T 0) x1 x2 x3 = 0
  · skip
    obtain ⟨i1, j1, v1, hij, hj, hv, rfl, rfl, rfl⟩ := soap_x hF30 hz
    have hF : 1 ≤ T 0 := by omega
    obtain rfl := hS.2.2.2.2.2 hF
    refine g_aload_n dL_law_331 rfl rfl ?_
    refine g_aload_n dL_law_332 rfl rfl ?_
    refine g_iload_n dL_law_333 rfl rfl ?_
    refine g_iconst (v := nI 1) dL_law_334 rfl (by decide) ?_
    refine g_iadd dL_law_335 rfl (nI_add _ _) ?_
    refine g_sld dL_law_336 rfl (by omega) hL11 hx1 ?_
    refine g_aload_n dL_law_337 rfl rfl ?_
    refine g_iload_n dL_law_338 rfl rfl ?_
    refine g_iconst (v := nI 2) dL_law_339 rfl (by decide) ?_
    refine g_iadd dL_law_340 rfl (nI_add _ _) ?_
    refine g_sld dL_law_341 rfl (by omega) hL11 hx2 ?_
    refine g_aload_n dL_law_342 rfl rfl ?_
    refine g_iload_n dL_law_343 rfl rfl ?_
    refine g_iconst (v := nI 3) dL_law_344 rfl (by decide) ?_
    refine g_iadd dL_law_345 rfl (nI_add _ _) ?_
    refine g_sld dL_law_346 rfl (by omega) hL11 hx3 ?_
    refine g_callV (c_X6_soap sk hF30 hsb hij hj hv) m_L_47 a_X6_soap dL_law_347 rfl [0, 15, 16, 5] rfl rfl 0 rfl rfl rfl (by decide) (by decide) (by decide) (by decide) (Nat.le_of_ble_eq_true rfl) (fun r w hK => ?_)
    obtain ⟨rfl, rfl⟩ := hK
    refine ⟨rfl, ?_⟩
    dsimp only [puts, List.set, Option.toList, List.cons_append, List.nil_append, List.append_nil]
    refine g_aload_n dL_law_350 rfl rfl ?_
    refine g_aload_n dL_law_351 rfl rfl ?_
    refine g_iload_n dL_law_352 rfl rfl ?_
    refine g_iconst (v := nI 1) dL_law_353 rfl (by decide) ?_
    refine g_iadd dL_law_354 rfl (nI_add _ _) ?_
    refine g_sld dL_law_355 rfl (by omega) hL11 hx1 ?_
    refine g_aload_n dL_law_356 rfl rfl ?_
    refine g_iload_n dL_law_357 rfl rfl ?_
    refine g_iconst (v := nI 2) dL_law_358 rfl (by decide) ?_
    refine g_iadd dL_law_359 rfl (nI_add _ _) ?_
    refine g_sld dL_law_360 rfl (by omega) hL11 hx2 ?_
    refine g_aload_n dL_law_361 rfl rfl ?_
    refine g_iload_n dL_law_362 rfl rfl ?_
    refine g_iconst (v := nI 3) dL_law_363 rfl (by decide) ?_
    refine g_iadd dL_law_364 rfl (nI_add _ _) ?_
    refine g_sld dL_law_365 rfl (by omega) hL11 hx3 ?_
    refine g_callV (c_X7_soap sk hF30 hsb hij hj hv) m_L_51 a_X7_soap dL_law_366 rfl [59, 61, 63] rfl rfl 0 rfl rfl rfl (by decide) (by decide) (by decide) (by decide) (Nat.le_of_ble_eq_true rfl) (fun r w hK => ?_)
    obtain ⟨rfl, rfl⟩ := hK
    refine ⟨rfl, ?_⟩
    dsimp only [puts, List.set, Option.toList, List.cons_append, List.nil_append, List.append_nil]
    refine g_icmp_eq (t := 699) dL_law_369 (by decide) rfl (fun h369 => ?_) (fun h369 => ?_)
    · skip
      exact hK st fp len fcn ai fa0 fp0 pt hm sn fb fF fn T gs w a r F2 C2 V2 E2 N2 S2 sfs sfw sfa sfr (adS i1 (j1 + 1) v1 s.1, s.2) sd fim s0 s1 d0 d1 fk n fc ff gt ot dt f0t gI last once ag af stp g0 o0 z0 g1 o1 z1 g2 o2 z2 g3 o3 z3 g4 o4 z4 g5 o5 z5 u0 u1 u2 u3 u4 u5 frr f9 far qf fg ffn rx fo ftn gr or_ dr f0r t zd at_ so sta sz fl iha isn ru fx fd (adS i1 (j1 + 1) v1 s.1, s.2) fnow fi64 fz fkm fwm ffm fr6 fb6 tu6 tx who frs hT hP hL (ISt.same (adS_le i1 (j1 + 1) v1 s.1 hsb) (fun j hj2 => by show adS i1 (j1 + 1) v1 s.1 j = 0; unfold adS; rw [if_neg (by omega)]; exact hns j hj2)) h0 h1 hN hC hX
    · exact absurd rfl h369
  · skip
    refine g_aload_n dL_law_331 rfl rfl ?_
    refine g_aload_n dL_law_332 rfl rfl ?_
    refine g_iload_n dL_law_333 rfl rfl ?_
    refine g_iconst (v := nI 1) dL_law_334 rfl (by decide) ?_
    refine g_iadd dL_law_335 rfl (nI_add _ _) ?_
    refine g_sld dL_law_336 rfl (by omega) hL11 hx1 ?_
    refine g_aload_n dL_law_337 rfl rfl ?_
    refine g_iload_n dL_law_338 rfl rfl ?_
    refine g_iconst (v := nI 2) dL_law_339 rfl (by decide) ?_
    refine g_iadd dL_law_340 rfl (nI_add _ _) ?_
    refine g_sld dL_law_341 rfl (by omega) hL11 hx2 ?_
    refine g_aload_n dL_law_342 rfl rfl ?_
    refine g_iload_n dL_law_343 rfl rfl ?_
    refine g_iconst (v := nI 3) dL_law_344 rfl (by decide) ?_
    refine g_iadd dL_law_345 rfl (nI_add _ _) ?_
    refine g_sld dL_law_346 rfl (by omega) hL11 hx3 ?_
    refine g_callV (c_X6_soapN sk hF30 hz) m_L_47 a_X6_soap dL_law_347 rfl [0, 15, 16, 5] rfl rfl 0 rfl rfl rfl (by decide) (by decide) (by decide) (by decide) (Nat.le_of_ble_eq_true rfl) (fun r w hK => ?_)
    obtain ⟨rfl, rfl⟩ := hK
    refine ⟨rfl, ?_⟩
    dsimp only [puts, List.set, Option.toList, List.cons_append, List.nil_append, List.append_nil]
    refine g_aload_n dL_law_350 rfl rfl ?_
    refine g_aload_n dL_law_351 rfl rfl ?_
    refine g_iload_n dL_law_352 rfl rfl ?_
    refine g_iconst (v := nI 1) dL_law_353 rfl (by decide) ?_
    refine g_iadd dL_law_354 rfl (nI_add _ _) ?_
    refine g_sld dL_law_355 rfl (by omega) hL11 hx1 ?_
    refine g_aload_n dL_law_356 rfl rfl ?_
    refine g_iload_n dL_law_357 rfl rfl ?_
    refine g_iconst (v := nI 2) dL_law_358 rfl (by decide) ?_
    refine g_iadd dL_law_359 rfl (nI_add _ _) ?_
    refine g_sld dL_law_360 rfl (by omega) hL11 hx2 ?_
    refine g_aload_n dL_law_361 rfl rfl ?_
    refine g_iload_n dL_law_362 rfl rfl ?_
    refine g_iconst (v := nI 3) dL_law_363 rfl (by decide) ?_
    refine g_iadd dL_law_364 rfl (nI_add _ _) ?_
    refine g_sld dL_law_365 rfl (by omega) hL11 hx3 ?_
    refine g_callV (c_X7_soapN sk hF30 hz) m_L_51 a_X7_soap dL_law_366 rfl [59, 61, 63] rfl rfl 0 rfl rfl rfl (by decide) (by decide) (by decide) (by decide) (Nat.le_of_ble_eq_true rfl) (fun r w hK => ?_)
    obtain ⟨rfl, rfl⟩ := hK
    refine ⟨rfl, ?_⟩
    dsimp only [puts, List.set, Option.toList, List.cons_append, List.nil_append, List.append_nil]
    refine g_icmp_eq (t := 699) dL_law_369 (by decide) rfl (fun h369 => ?_) (fun h369 => ?_)
    · skip
      exact hK st fp len fcn ai fa0 fp0 pt hm sn fb fF fn T gs w a r F2 C2 V2 E2 N2 S2 sfs sfw sfa sfr s sd fim s0 s1 d0 d1 fk n fc ff gt ot dt f0t gI last once ag af stp g0 o0 z0 g1 o1 z1 g2 o2 z2 g3 o3 z3 g4 o4 z4 g5 o5 z5 u0 u1 u2 u3 u4 u5 frr f9 far qf fg ffn rx fo ftn gr or_ dr f0r t zd at_ so sta sz fl iha isn ru fx fd sm fnow fi64 fz fkm fwm ffm fr6 fb6 tu6 tx who frs hT hP hL hS h0 h1 hN hC hX
    · exact absurd rfl h369
set_option maxRecDepth 20000 in
set_option maxHeartbeats 4000000 in
theorem law_10 (sk A : Nat → Nat) (yy : MethodName) {i : Nat} (hi : i + 4 ≤ sk 11) (hL11 : sk 11 ≤ 256) (hK : ∀ (st : Bool) (fp : Int32) (len fcn : Nat) (ai fa0 fp0 : Int32) (pt hm sn : Bool) (fb fF fn : Nat → Int32) (T : Nat → Nat) (gs : Nat → Int32) (w a r : Nat → Nat) (F2 C2 V2 E2 N2 S2 : Int32) (sfs sfw sfa sfr : Nat → Int32) (s : PSt) (sd : Int32) (fim : Nat → Option Nat) (s0 s1 : PSt) (d0 d1 : Int32) (fk : Nat → Int32) (n : Nat) (fc ff : Nat → Int32) (gt ot dt : Int32) (f0t : Nat → Int32) (gI last : Int32) (once : Bool) (ag : Int32) (af : Bool) (stp : Nat → Option Nat) (g0 o0 z0 g1 o1 z1 g2 o2 z2 g3 o3 z3 g4 o4 z4 g5 o5 z5 : Int32) (u0 u1 u2 u3 u4 u5 frr f9 : Nat → Int32) (far : Nat → Option Nat) (qf : Nat → Nat → Int32) (fg ffn : Nat → Int32) (rx : Int32) (fo : Bool) (ftn : Nat → Int32) (gr or_ dr : Int32) (f0r : Nat → Int32) (t : PSt) (zd at_ so sta sz fl : Int32) (iha isn : Bool) (ru : Int32) (fx fd : Nat → Int32) (sm : PSt) (fnow fi64 fz fkm fwm ffm fr6 fb6 tu6 : Nat → Int32) (tx who frs : Nat → Nat), IText len tx fb fx → IPlan T w a r gs → SlB sfs → ISt (T 0) s sm → IImg (T 0) 0 s0 d0 fk fkm fi64 fz → IImg (T 0) 1 s1 d1 fk fkm fi64 fz → IList (T 1) n who frs fc ff fwm ffm → ICache T w a r st t ag af f9 fg ffn qf rx fo ftn → IFix A fim stp far → GG sk RL yy cL_law 4 (some .boolean) 100 73 1816 PLaw 73 1816 699 [some (.ref (sk 10)), some (.ref (A 0)), some (.ref (A 59)), some (.int (nI i))] [] [oMain (A 0) (A 1) (A 5) (A 10) (A 15) (A 17) (A 22) (A 23) (A 28) (A 53) (A 57) st fp, oReader (A 1) (A 2) (A 3) (A 4) (nI len) ai fa0 fp0 (nI fcn) pt hm sn, cB (A 2) 400 fb, cZ (A 3) 30 fF, cI (A 4) 3 fn, oPlan (A 5) (A 6) (A 7) (A 8) (A 9) (nI (T 0)) (nI (T 1)) (nI (T 2)) (nI (T 3)) (nI (T 4)) (nI (T 5)), cI (A 6) 30 gs, cI (A 7) 6 (fI w), cI (A 8) 6 (fI a), cI (A 9) 6 (fI r), oPlan (A 10) (A 11) (A 12) (A 13) (A 14) F2 C2 V2 E2 N2 S2, cI (A 11) 30 sfs, cI (A 12) 6 sfw, cI (A 13) 6 sfa, cI (A 14) 6 sfr, oPoleS (A 15) (A 16) s sd, cI (A 16) 30 (fI s.1), cP (A 17) 2 fim, oPoleS (A 18) (A 19) s0 d0, cI (A 19) 30 (fI s0.1), oPoleS (A 20) (A 21) s1 d1, cI (A 21) 30 (fI s1.1), cZ (A 22) 2 fk, oTale (A 23) (A 24) (A 25) (A 26) (nI n), cI (A 24) 12 fc, cI (A 25) 12 ff, oPole (A 26) (A 27) gt ot dt, cI (A 27) 30 f0t, oRows (A 28) (A 29) (A 42) gI last once (A 43) ag af (A 44) (A 51) (A 52), cP (A 29) 6 stp, oPole (A 30) (A 31) g0 o0 z0, cI (A 31) 30 u0, oPole (A 32) (A 33) g1 o1 z1, cI (A 33) 30 u1, oPole (A 34) (A 35) g2 o2 z2, cI (A 35) 30 u2, oPole (A 36) (A 37) g3 o3 z3, cI (A 37) 30 u3, oPole (A 38) (A 39) g4 o4 z4, cI (A 39) 30 u4, oPole (A 40) (A 41) g5 o5 z5, cI (A 41) 30 u5, cI (A 42) 6 frr, cI (A 43) 6 f9, cA (A 44) 6 far, cI (A 45) 6 (qf 0), cI (A 46) 6 (qf 1), cI (A 47) 6 (qf 2), cI (A 48) 6 (qf 3), cI (A 49) 6 (qf 4), cI (A 50) 6 (qf 5), cI (A 51) 6 fg, cZ (A 52) 6 ffn, oRests (A 53) (A 54) (A 55) rx fo, cI (A 54) 6 ftn, oPole (A 55) (A 56) gr or_ dr, cI (A 56) 30 f0r, oPoleS (A 57) (A 58) t zd, cI (A 58) 30 (fI t.1), oMod (A 59) (A 60) (nI len) (A 61) (A 62) (A 63) (A 64) (A 65) (A 66) (A 67) (A 68) (A 69) (nI n) sd fp at_ so sta sz fl iha isn ru (A 70) (A 71) (A 72), cI (A 60) 400 fx, cI (A 61) 56 (fI T), cI (A 62) 56 fd, cI (A 63) 32 (fS sm), cI (A 64) 32 fnow, cI (A 65) 64 fi64, cI (A 66) 2 fz, cZ (A 67) 2 fkm, cI (A 68) 12 fwm, cI (A 69) 12 ffm, cI (A 70) 6 fr6, cI (A 71) 6 fb6, cI (A 72) 6 tu6]) {st : Bool} {fp : Int32} {len fcn : Nat} {ai fa0 fp0 : Int32} {pt hm sn : Bool} {fb fF fn : Nat → Int32} {T : Nat → Nat} {gs : Nat → Int32} {w a r : Nat → Nat} {F2 C2 V2 E2 N2 S2 : Int32} {sfs sfw sfa sfr : Nat → Int32} {s : PSt} {sd : Int32} {fim : Nat → Option Nat} {s0 s1 : PSt} {d0 d1 : Int32} {fk : Nat → Int32} {n : Nat} {fc ff : Nat → Int32} {gt ot dt : Int32} {f0t : Nat → Int32} {gI last : Int32} {once : Bool} {ag : Int32} {af : Bool} {stp : Nat → Option Nat} {g0 o0 z0 g1 o1 z1 g2 o2 z2 g3 o3 z3 g4 o4 z4 g5 o5 z5 : Int32} {u0 u1 u2 u3 u4 u5 frr f9 : Nat → Int32} {far : Nat → Option Nat} {qf : Nat → Nat → Int32} {fg ffn : Nat → Int32} {rx : Int32} {fo : Bool} {ftn : Nat → Int32} {gr or_ dr : Int32} {f0r : Nat → Int32} {t : PSt} {zd at_ so sta sz fl : Int32} {iha isn : Bool} {ru : Int32} {fx fd : Nat → Int32} {sm : PSt} {fnow fi64 fz fkm fwm ffm fr6 fb6 tu6 : Nat → Int32} {tx who frs : Nat → Nat} (hT : IText len tx fb fx) (hP : IPlan T w a r gs) (hL : SlB sfs) (hS : ISt (T 0) s sm) (h0 : IImg (T 0) 0 s0 d0 fk fkm fi64 fz) (h1 : IImg (T 0) 1 s1 d1 fk fkm fi64 fz) (hN : IList (T 1) n who frs fc ff fwm ffm) (hC : ICache T w a r st t ag af f9 fg ffn qf rx fo ftn) (hX : IFix A fim stp far) : GG sk RL yy cL_law 4 (some .boolean) 100 73 1816 PLaw 73 1816 400 [some (.ref (sk 10)), some (.ref (A 0)), some (.ref (A 59)), some (.int (nI i))] [] [oMain (A 0) (A 1) (A 5) (A 10) (A 15) (A 17) (A 22) (A 23) (A 28) (A 53) (A 57) st fp, oReader (A 1) (A 2) (A 3) (A 4) (nI len) ai fa0 fp0 (nI fcn) pt hm sn, cB (A 2) 400 fb, cZ (A 3) 30 fF, cI (A 4) 3 fn, oPlan (A 5) (A 6) (A 7) (A 8) (A 9) (nI (T 0)) (nI (T 1)) (nI (T 2)) (nI (T 3)) (nI (T 4)) (nI (T 5)), cI (A 6) 30 gs, cI (A 7) 6 (fI w), cI (A 8) 6 (fI a), cI (A 9) 6 (fI r), oPlan (A 10) (A 11) (A 12) (A 13) (A 14) F2 C2 V2 E2 N2 S2, cI (A 11) 30 sfs, cI (A 12) 6 sfw, cI (A 13) 6 sfa, cI (A 14) 6 sfr, oPoleS (A 15) (A 16) s sd, cI (A 16) 30 (fI s.1), cP (A 17) 2 fim, oPoleS (A 18) (A 19) s0 d0, cI (A 19) 30 (fI s0.1), oPoleS (A 20) (A 21) s1 d1, cI (A 21) 30 (fI s1.1), cZ (A 22) 2 fk, oTale (A 23) (A 24) (A 25) (A 26) (nI n), cI (A 24) 12 fc, cI (A 25) 12 ff, oPole (A 26) (A 27) gt ot dt, cI (A 27) 30 f0t, oRows (A 28) (A 29) (A 42) gI last once (A 43) ag af (A 44) (A 51) (A 52), cP (A 29) 6 stp, oPole (A 30) (A 31) g0 o0 z0, cI (A 31) 30 u0, oPole (A 32) (A 33) g1 o1 z1, cI (A 33) 30 u1, oPole (A 34) (A 35) g2 o2 z2, cI (A 35) 30 u2, oPole (A 36) (A 37) g3 o3 z3, cI (A 37) 30 u3, oPole (A 38) (A 39) g4 o4 z4, cI (A 39) 30 u4, oPole (A 40) (A 41) g5 o5 z5, cI (A 41) 30 u5, cI (A 42) 6 frr, cI (A 43) 6 f9, cA (A 44) 6 far, cI (A 45) 6 (qf 0), cI (A 46) 6 (qf 1), cI (A 47) 6 (qf 2), cI (A 48) 6 (qf 3), cI (A 49) 6 (qf 4), cI (A 50) 6 (qf 5), cI (A 51) 6 fg, cZ (A 52) 6 ffn, oRests (A 53) (A 54) (A 55) rx fo, cI (A 54) 6 ftn, oPole (A 55) (A 56) gr or_ dr, cI (A 56) 30 f0r, oPoleS (A 57) (A 58) t zd, cI (A 58) 30 (fI t.1), oMod (A 59) (A 60) (nI len) (A 61) (A 62) (A 63) (A 64) (A 65) (A 66) (A 67) (A 68) (A 69) (nI n) sd fp at_ so sta sz fl iha isn ru (A 70) (A 71) (A 72), cI (A 60) 400 fx, cI (A 61) 56 (fI T), cI (A 62) 56 fd, cI (A 63) 32 (fS sm), cI (A 64) 32 fnow, cI (A 65) 64 fi64, cI (A 66) 2 fz, cZ (A 67) 2 fkm, cI (A 68) 12 fwm, cI (A 69) 12 ffm, cI (A 70) 6 fr6, cI (A 71) 6 fb6, cI (A 72) 6 tu6] := by
  have hB := hP.PB
  have hW := hP.2.1
  have hF30 : T 0 ≤ 30 := hB.1
  have hC6 : T 1 ≤ 6 := hB.2.1
  have hQ := hP.1
  have hsb := hS.1
  have hns := hS.2.1
  have hmb := hS.2.2.1
  have h2 := hS.2.2.2.2.1
  obtain ⟨x1, hx1⟩ : ∃ x, nI (sk (12 + (i + 1))) = x := ⟨_, rfl⟩
  obtain ⟨x2, hx2⟩ : ∃ x, nI (sk (12 + (i + 2))) = x := ⟨_, rfl⟩
  obtain ⟨x3, hx3⟩ : ∃ x, nI (sk (12 + (i + 3))) = x := ⟨_, rfl⟩
  by_cases hz : drfC (T 1) x1 = 0
  · skip
    obtain ⟨j, hj, rfl, hC1⟩ := drift_x hz
    have hF : 1 ≤ T 0 := hB.2.2.1 hC1
    obtain rfl := hS.2.2.2.2.2 hF
    have hD := drift_SB (C := T 1) (N := T 4) (S := T 5) (w := w) (a := a) (r := r) hF30 j s sd hsb hns
    refine g_aload_n dL_law_400 rfl rfl ?_
    refine g_aload_n dL_law_401 rfl rfl ?_
    refine g_iload_n dL_law_402 rfl rfl ?_
    refine g_iconst (v := nI 1) dL_law_403 rfl (by decide) ?_
    refine g_iadd dL_law_404 rfl (nI_add _ _) ?_
    refine g_sld dL_law_405 rfl (by omega) hL11 hx1 ?_
    refine g_callV (c_X6_drift sk hB hsb hC1 hj rfl) m_L_60 a_X6_drift dL_law_406 rfl [0, 15, 16, 5, 7, 8, 9] rfl rfl 0 rfl rfl rfl (by decide) (by decide) (by decide) (by decide) (Nat.le_of_ble_eq_true rfl) (fun r w hK => ?_)
    obtain ⟨rfl, rfl⟩ := hK
    refine ⟨rfl, ?_⟩
    dsimp only [puts, List.set, Option.toList, List.cons_append, List.nil_append, List.append_nil]
    refine g_aload_n dL_law_409 rfl rfl ?_
    refine g_aload_n dL_law_410 rfl rfl ?_
    refine g_iload_n dL_law_411 rfl rfl ?_
    refine g_iconst (v := nI 1) dL_law_412 rfl (by decide) ?_
    refine g_iadd dL_law_413 rfl (nI_add _ _) ?_
    refine g_sld dL_law_414 rfl (by omega) hL11 hx1 ?_
    refine g_callV (c_X7_drift sk hB hW hC1 hj hsb rfl) m_L_63 a_X7_drift dL_law_415 rfl [59, 61, 63, 64] rfl rfl 0 rfl rfl rfl (by decide) (by decide) (by decide) (by decide) (Nat.le_of_ble_eq_true rfl) (fun r w hK => ?_)
    obtain ⟨rfl, ru2, fn2, rfl⟩ := hK
    refine ⟨rfl, ?_⟩
    dsimp only [puts, List.set, Option.toList, List.cons_append, List.nil_append, List.append_nil]
    refine g_icmp_eq (t := 699) dL_law_418 (by decide) rfl (fun h418 => ?_) (fun h418 => ?_)
    · skip
      exact hK st fp len fcn ai fa0 fp0 pt hm sn fb fF fn T gs w a r F2 C2 V2 E2 N2 S2 sfs sfw sfa sfr (driftR (T 0) (T 1) (T 4) (T 5) w a r j s sd).1 (driftR (T 0) (T 1) (T 4) (T 5) w a r j s sd).2 fim s0 s1 d0 d1 fk n fc ff gt ot dt f0t gI last once ag af stp g0 o0 z0 g1 o1 z1 g2 o2 z2 g3 o3 z3 g4 o4 z4 g5 o5 z5 u0 u1 u2 u3 u4 u5 frr f9 far qf fg ffn rx fo ftn gr or_ dr f0r t zd at_ so sta sz fl iha isn ru2 fx fd (driftR (T 0) (T 1) (T 4) (T 5) w a r j s sd).1 fn2 fi64 fz fkm fwm ffm fr6 fb6 tu6 tx who frs hT hP hL (ISt.same hD.1 hD.2) h0 h1 hN hC hX
    · exact absurd rfl h418
  · skip
    refine g_aload_n dL_law_400 rfl rfl ?_
    refine g_aload_n dL_law_401 rfl rfl ?_
    refine g_iload_n dL_law_402 rfl rfl ?_
    refine g_iconst (v := nI 1) dL_law_403 rfl (by decide) ?_
    refine g_iadd dL_law_404 rfl (nI_add _ _) ?_
    refine g_sld dL_law_405 rfl (by omega) hL11 hx1 ?_
    refine g_callV (c_X6_driftN sk hF30 hC6 hz) m_L_60 a_X6_drift dL_law_406 rfl [0, 15, 16, 5, 7, 8, 9] rfl rfl 0 rfl rfl rfl (by decide) (by decide) (by decide) (by decide) (Nat.le_of_ble_eq_true rfl) (fun r w hK => ?_)
    obtain ⟨rfl, rfl⟩ := hK
    refine ⟨rfl, ?_⟩
    dsimp only [puts, List.set, Option.toList, List.cons_append, List.nil_append, List.append_nil]
    refine g_aload_n dL_law_409 rfl rfl ?_
    refine g_aload_n dL_law_410 rfl rfl ?_
    refine g_iload_n dL_law_411 rfl rfl ?_
    refine g_iconst (v := nI 1) dL_law_412 rfl (by decide) ?_
    refine g_iadd dL_law_413 rfl (nI_add _ _) ?_
    refine g_sld dL_law_414 rfl (by omega) hL11 hx1 ?_
    refine g_callV (c_X7_driftN sk hC6 hz) m_L_63 a_X7_drift dL_law_415 rfl [59, 61] rfl rfl 0 rfl rfl rfl (by decide) (by decide) (by decide) (by decide) (Nat.le_of_ble_eq_true rfl) (fun r w hK => ?_)
    obtain ⟨rfl, rfl⟩ := hK
    refine ⟨rfl, ?_⟩
    dsimp only [puts, List.set, Option.toList, List.cons_append, List.nil_append, List.append_nil]
    refine g_icmp_eq (t := 699) dL_law_418 (by decide) rfl (fun h418 => ?_) (fun h418 => ?_)
    · skip
      exact hK st fp len fcn ai fa0 fp0 pt hm sn fb fF fn T gs w a r F2 C2 V2 E2 N2 S2 sfs sfw sfa sfr s sd fim s0 s1 d0 d1 fk n fc ff gt ot dt f0t gI last once ag af stp g0 o0 z0 g1 o1 z1 g2 o2 z2 g3 o3 z3 g4 o4 z4 g5 o5 z5 u0 u1 u2 u3 u4 u5 frr f9 far qf fg ffn rx fo ftn gr or_ dr f0r t zd at_ so sta sz fl iha isn ru fx fd sm fnow fi64 fz fkm fwm ffm fr6 fb6 tu6 tx who frs hT hP hL hS h0 h1 hN hC hX
    · exact absurd rfl h418
set_option maxRecDepth 20000 in
set_option maxHeartbeats 4000000 in
theorem law_14 (sk A : Nat → Nat) (yy : MethodName) {i : Nat} (hi : i + 4 ≤ sk 11) (hL11 : sk 11 ≤ 256) (hK : ∀ (st : Bool) (fp : Int32) (len fcn : Nat) (ai fa0 fp0 : Int32) (pt hm sn : Bool) (fb fF fn : Nat → Int32) (T : Nat → Nat) (gs : Nat → Int32) (w a r : Nat → Nat) (F2 C2 V2 E2 N2 S2 : Int32) (sfs sfw sfa sfr : Nat → Int32) (s : PSt) (sd : Int32) (fim : Nat → Option Nat) (s0 s1 : PSt) (d0 d1 : Int32) (fk : Nat → Int32) (n : Nat) (fc ff : Nat → Int32) (gt ot dt : Int32) (f0t : Nat → Int32) (gI last : Int32) (once : Bool) (ag : Int32) (af : Bool) (stp : Nat → Option Nat) (g0 o0 z0 g1 o1 z1 g2 o2 z2 g3 o3 z3 g4 o4 z4 g5 o5 z5 : Int32) (u0 u1 u2 u3 u4 u5 frr f9 : Nat → Int32) (far : Nat → Option Nat) (qf : Nat → Nat → Int32) (fg ffn : Nat → Int32) (rx : Int32) (fo : Bool) (ftn : Nat → Int32) (gr or_ dr : Int32) (f0r : Nat → Int32) (t : PSt) (zd at_ so sta sz fl : Int32) (iha isn : Bool) (ru : Int32) (fx fd : Nat → Int32) (sm : PSt) (fnow fi64 fz fkm fwm ffm fr6 fb6 tu6 : Nat → Int32) (tx who frs : Nat → Nat), IText len tx fb fx → IPlan T w a r gs → SlB sfs → ISt (T 0) s sm → IImg (T 0) 0 s0 d0 fk fkm fi64 fz → IImg (T 0) 1 s1 d1 fk fkm fi64 fz → IList (T 1) n who frs fc ff fwm ffm → ICache T w a r st t ag af f9 fg ffn qf rx fo ftn → IFix A fim stp far → GG sk RL yy cL_law 4 (some .boolean) 100 73 1816 PLaw 73 1816 699 [some (.ref (sk 10)), some (.ref (A 0)), some (.ref (A 59)), some (.int (nI i))] [] [oMain (A 0) (A 1) (A 5) (A 10) (A 15) (A 17) (A 22) (A 23) (A 28) (A 53) (A 57) st fp, oReader (A 1) (A 2) (A 3) (A 4) (nI len) ai fa0 fp0 (nI fcn) pt hm sn, cB (A 2) 400 fb, cZ (A 3) 30 fF, cI (A 4) 3 fn, oPlan (A 5) (A 6) (A 7) (A 8) (A 9) (nI (T 0)) (nI (T 1)) (nI (T 2)) (nI (T 3)) (nI (T 4)) (nI (T 5)), cI (A 6) 30 gs, cI (A 7) 6 (fI w), cI (A 8) 6 (fI a), cI (A 9) 6 (fI r), oPlan (A 10) (A 11) (A 12) (A 13) (A 14) F2 C2 V2 E2 N2 S2, cI (A 11) 30 sfs, cI (A 12) 6 sfw, cI (A 13) 6 sfa, cI (A 14) 6 sfr, oPoleS (A 15) (A 16) s sd, cI (A 16) 30 (fI s.1), cP (A 17) 2 fim, oPoleS (A 18) (A 19) s0 d0, cI (A 19) 30 (fI s0.1), oPoleS (A 20) (A 21) s1 d1, cI (A 21) 30 (fI s1.1), cZ (A 22) 2 fk, oTale (A 23) (A 24) (A 25) (A 26) (nI n), cI (A 24) 12 fc, cI (A 25) 12 ff, oPole (A 26) (A 27) gt ot dt, cI (A 27) 30 f0t, oRows (A 28) (A 29) (A 42) gI last once (A 43) ag af (A 44) (A 51) (A 52), cP (A 29) 6 stp, oPole (A 30) (A 31) g0 o0 z0, cI (A 31) 30 u0, oPole (A 32) (A 33) g1 o1 z1, cI (A 33) 30 u1, oPole (A 34) (A 35) g2 o2 z2, cI (A 35) 30 u2, oPole (A 36) (A 37) g3 o3 z3, cI (A 37) 30 u3, oPole (A 38) (A 39) g4 o4 z4, cI (A 39) 30 u4, oPole (A 40) (A 41) g5 o5 z5, cI (A 41) 30 u5, cI (A 42) 6 frr, cI (A 43) 6 f9, cA (A 44) 6 far, cI (A 45) 6 (qf 0), cI (A 46) 6 (qf 1), cI (A 47) 6 (qf 2), cI (A 48) 6 (qf 3), cI (A 49) 6 (qf 4), cI (A 50) 6 (qf 5), cI (A 51) 6 fg, cZ (A 52) 6 ffn, oRests (A 53) (A 54) (A 55) rx fo, cI (A 54) 6 ftn, oPole (A 55) (A 56) gr or_ dr, cI (A 56) 30 f0r, oPoleS (A 57) (A 58) t zd, cI (A 58) 30 (fI t.1), oMod (A 59) (A 60) (nI len) (A 61) (A 62) (A 63) (A 64) (A 65) (A 66) (A 67) (A 68) (A 69) (nI n) sd fp at_ so sta sz fl iha isn ru (A 70) (A 71) (A 72), cI (A 60) 400 fx, cI (A 61) 56 (fI T), cI (A 62) 56 fd, cI (A 63) 32 (fS sm), cI (A 64) 32 fnow, cI (A 65) 64 fi64, cI (A 66) 2 fz, cZ (A 67) 2 fkm, cI (A 68) 12 fwm, cI (A 69) 12 ffm, cI (A 70) 6 fr6, cI (A 71) 6 fb6, cI (A 72) 6 tu6]) {st : Bool} {fp : Int32} {len fcn : Nat} {ai fa0 fp0 : Int32} {pt hm sn : Bool} {fb fF fn : Nat → Int32} {T : Nat → Nat} {gs : Nat → Int32} {w a r : Nat → Nat} {F2 C2 V2 E2 N2 S2 : Int32} {sfs sfw sfa sfr : Nat → Int32} {s : PSt} {sd : Int32} {fim : Nat → Option Nat} {s0 s1 : PSt} {d0 d1 : Int32} {fk : Nat → Int32} {n : Nat} {fc ff : Nat → Int32} {gt ot dt : Int32} {f0t : Nat → Int32} {gI last : Int32} {once : Bool} {ag : Int32} {af : Bool} {stp : Nat → Option Nat} {g0 o0 z0 g1 o1 z1 g2 o2 z2 g3 o3 z3 g4 o4 z4 g5 o5 z5 : Int32} {u0 u1 u2 u3 u4 u5 frr f9 : Nat → Int32} {far : Nat → Option Nat} {qf : Nat → Nat → Int32} {fg ffn : Nat → Int32} {rx : Int32} {fo : Bool} {ftn : Nat → Int32} {gr or_ dr : Int32} {f0r : Nat → Int32} {t : PSt} {zd at_ so sta sz fl : Int32} {iha isn : Bool} {ru : Int32} {fx fd : Nat → Int32} {sm : PSt} {fnow fi64 fz fkm fwm ffm fr6 fb6 tu6 : Nat → Int32} {tx who frs : Nat → Nat} (hT : IText len tx fb fx) (hP : IPlan T w a r gs) (hL : SlB sfs) (hS : ISt (T 0) s sm) (h0 : IImg (T 0) 0 s0 d0 fk fkm fi64 fz) (h1 : IImg (T 0) 1 s1 d1 fk fkm fi64 fz) (hN : IList (T 1) n who frs fc ff fwm ffm) (hC : ICache T w a r st t ag af f9 fg ffn qf rx fo ftn) (hX : IFix A fim stp far) : GG sk RL yy cL_law 4 (some .boolean) 100 73 1816 PLaw 73 1816 502 [some (.ref (sk 10)), some (.ref (A 0)), some (.ref (A 59)), some (.int (nI i))] [] [oMain (A 0) (A 1) (A 5) (A 10) (A 15) (A 17) (A 22) (A 23) (A 28) (A 53) (A 57) st fp, oReader (A 1) (A 2) (A 3) (A 4) (nI len) ai fa0 fp0 (nI fcn) pt hm sn, cB (A 2) 400 fb, cZ (A 3) 30 fF, cI (A 4) 3 fn, oPlan (A 5) (A 6) (A 7) (A 8) (A 9) (nI (T 0)) (nI (T 1)) (nI (T 2)) (nI (T 3)) (nI (T 4)) (nI (T 5)), cI (A 6) 30 gs, cI (A 7) 6 (fI w), cI (A 8) 6 (fI a), cI (A 9) 6 (fI r), oPlan (A 10) (A 11) (A 12) (A 13) (A 14) F2 C2 V2 E2 N2 S2, cI (A 11) 30 sfs, cI (A 12) 6 sfw, cI (A 13) 6 sfa, cI (A 14) 6 sfr, oPoleS (A 15) (A 16) s sd, cI (A 16) 30 (fI s.1), cP (A 17) 2 fim, oPoleS (A 18) (A 19) s0 d0, cI (A 19) 30 (fI s0.1), oPoleS (A 20) (A 21) s1 d1, cI (A 21) 30 (fI s1.1), cZ (A 22) 2 fk, oTale (A 23) (A 24) (A 25) (A 26) (nI n), cI (A 24) 12 fc, cI (A 25) 12 ff, oPole (A 26) (A 27) gt ot dt, cI (A 27) 30 f0t, oRows (A 28) (A 29) (A 42) gI last once (A 43) ag af (A 44) (A 51) (A 52), cP (A 29) 6 stp, oPole (A 30) (A 31) g0 o0 z0, cI (A 31) 30 u0, oPole (A 32) (A 33) g1 o1 z1, cI (A 33) 30 u1, oPole (A 34) (A 35) g2 o2 z2, cI (A 35) 30 u2, oPole (A 36) (A 37) g3 o3 z3, cI (A 37) 30 u3, oPole (A 38) (A 39) g4 o4 z4, cI (A 39) 30 u4, oPole (A 40) (A 41) g5 o5 z5, cI (A 41) 30 u5, cI (A 42) 6 frr, cI (A 43) 6 f9, cA (A 44) 6 far, cI (A 45) 6 (qf 0), cI (A 46) 6 (qf 1), cI (A 47) 6 (qf 2), cI (A 48) 6 (qf 3), cI (A 49) 6 (qf 4), cI (A 50) 6 (qf 5), cI (A 51) 6 fg, cZ (A 52) 6 ffn, oRests (A 53) (A 54) (A 55) rx fo, cI (A 54) 6 ftn, oPole (A 55) (A 56) gr or_ dr, cI (A 56) 30 f0r, oPoleS (A 57) (A 58) t zd, cI (A 58) 30 (fI t.1), oMod (A 59) (A 60) (nI len) (A 61) (A 62) (A 63) (A 64) (A 65) (A 66) (A 67) (A 68) (A 69) (nI n) sd fp at_ so sta sz fl iha isn ru (A 70) (A 71) (A 72), cI (A 60) 400 fx, cI (A 61) 56 (fI T), cI (A 62) 56 fd, cI (A 63) 32 (fS sm), cI (A 64) 32 fnow, cI (A 65) 64 fi64, cI (A 66) 2 fz, cZ (A 67) 2 fkm, cI (A 68) 12 fwm, cI (A 69) 12 ffm, cI (A 70) 6 fr6, cI (A 71) 6 fb6, cI (A 72) 6 tu6] := by
  have hB := hP.PB
  have hW := hP.2.1
  have hF30 : T 0 ≤ 30 := hB.1
  have hC6 : T 1 ≤ 6 := hB.2.1
  have hQ := hP.1
  have hsb := hS.1
  have hns := hS.2.1
  have hmb := hS.2.2.1
  have h2 := hS.2.2.2.2.1
  obtain ⟨x1, hx1⟩ : ∃ x, nI (sk (12 + (i + 1))) = x := ⟨_, rfl⟩
  obtain ⟨x2, hx2⟩ : ∃ x, nI (sk (12 + (i + 2))) = x := ⟨_, rfl⟩
  obtain ⟨x3, hx3⟩ : ∃ x, nI (sk (12 + (i + 3))) = x := ⟨_, rfl⟩
  by_cases hx : inR x1 (T 1) = false ∨ inR x2 (T 1) = false ∨ x1 = x2
  · skip
    refine g_aload_n dL_law_502 rfl rfl ?_
    refine g_aload_n dL_law_503 rfl rfl ?_
    refine g_iload_n dL_law_504 rfl rfl ?_
    refine g_iconst (v := nI 1) dL_law_505 rfl (by decide) ?_
    refine g_iadd dL_law_506 rfl (nI_add _ _) ?_
    refine g_sld dL_law_507 rfl (by omega) hL11 hx1 ?_
    refine g_aload_n dL_law_508 rfl rfl ?_
    refine g_iload_n dL_law_509 rfl rfl ?_
    refine g_iconst (v := nI 2) dL_law_510 rfl (by decide) ?_
    refine g_iadd dL_law_511 rfl (nI_add _ _) ?_
    refine g_sld dL_law_512 rfl (by omega) hL11 hx2 ?_
    refine g_callV (c_X6_towerF sk hx) m_L_76 a_X6_tower dL_law_513 rfl [0, 15, 16, 5, 7, 8, 9] rfl rfl 0 rfl rfl rfl (by decide) (by decide) (by decide) (by decide) (Nat.le_of_ble_eq_true rfl) (fun r w hK => ?_)
    obtain ⟨rfl, rfl⟩ := hK
    refine ⟨rfl, ?_⟩
    dsimp only [puts, List.set, Option.toList, List.cons_append, List.nil_append, List.append_nil]
    refine g_aload_n dL_law_516 rfl rfl ?_
    refine g_aload_n dL_law_517 rfl rfl ?_
    refine g_iload_n dL_law_518 rfl rfl ?_
    refine g_iconst (v := nI 1) dL_law_519 rfl (by decide) ?_
    refine g_iadd dL_law_520 rfl (nI_add _ _) ?_
    refine g_sld dL_law_521 rfl (by omega) hL11 hx1 ?_
    refine g_aload_n dL_law_522 rfl rfl ?_
    refine g_iload_n dL_law_523 rfl rfl ?_
    refine g_iconst (v := nI 2) dL_law_524 rfl (by decide) ?_
    refine g_iadd dL_law_525 rfl (nI_add _ _) ?_
    refine g_sld dL_law_526 rfl (by omega) hL11 hx2 ?_
    refine g_callV (c_X7_towerF sk hC6 hx) m_L_79 a_X7_tower dL_law_527 rfl [59, 61] rfl rfl 0 rfl rfl rfl (by decide) (by decide) (by decide) (by decide) (Nat.le_of_ble_eq_true rfl) (fun r w hK => ?_)
    obtain ⟨rfl, rfl⟩ := hK
    refine ⟨rfl, ?_⟩
    dsimp only [puts, List.set, Option.toList, List.cons_append, List.nil_append, List.append_nil]
    refine g_icmp_eq (t := 699) dL_law_530 (by decide) rfl (fun h530 => ?_) (fun h530 => ?_)
    · skip
      exact hK st fp len fcn ai fa0 fp0 pt hm sn fb fF fn T gs w a r F2 C2 V2 E2 N2 S2 sfs sfw sfa sfr s sd fim s0 s1 d0 d1 fk n fc ff gt ot dt f0t gI last once ag af stp g0 o0 z0 g1 o1 z1 g2 o2 z2 g3 o3 z3 g4 o4 z4 g5 o5 z5 u0 u1 u2 u3 u4 u5 frr f9 far qf fg ffn rx fo ftn gr or_ dr f0r t zd at_ so sta sz fl iha isn ru fx fd sm fnow fi64 fz fkm fwm ffm fr6 fb6 tu6 tx who frs hT hP hL hS h0 h1 hN hC hX
    · exact absurd rfl h530
  · skip
    obtain ⟨c, hc, rfl⟩ := inR_c (x := x1) (show T 1 < 2 ^ 31 by omega) (fun q => hx (Or.inl q))
    obtain ⟨e, he, rfl⟩ := inR_c (x := x2) (show T 1 < 2 ^ 31 by omega) (fun q => hx (Or.inr (Or.inl q)))
    have hce : ¬ c = e := fun q => hx (Or.inr (Or.inr (congrArg nI q)))
    have hF : 1 ≤ T 0 := hB.2.2.1 (by omega)
    obtain rfl := hS.2.2.2.2.2 hF
    refine g_aload_n dL_law_502 rfl rfl ?_
    refine g_aload_n dL_law_503 rfl rfl ?_
    refine g_iload_n dL_law_504 rfl rfl ?_
    refine g_iconst (v := nI 1) dL_law_505 rfl (by decide) ?_
    refine g_iadd dL_law_506 rfl (nI_add _ _) ?_
    refine g_sld dL_law_507 rfl (by omega) hL11 hx1 ?_
    refine g_aload_n dL_law_508 rfl rfl ?_
    refine g_iload_n dL_law_509 rfl rfl ?_
    refine g_iconst (v := nI 2) dL_law_510 rfl (by decide) ?_
    refine g_iadd dL_law_511 rfl (nI_add _ _) ?_
    refine g_sld dL_law_512 rfl (by omega) hL11 hx2 ?_
    refine g_callV (c_X6_tower sk hB hsb hc he hce) m_L_76 a_X6_tower dL_law_513 rfl [0, 15, 16, 5, 7, 8, 9] rfl rfl 0 rfl rfl rfl (by decide) (by decide) (by decide) (by decide) (Nat.le_of_ble_eq_true rfl) (fun r w hK => ?_)
    obtain ⟨rfl, rfl⟩ := hK
    refine ⟨rfl, ?_⟩
    dsimp only [puts, List.set, Option.toList, List.cons_append, List.nil_append, List.append_nil]
    refine g_aload_n dL_law_516 rfl rfl ?_
    refine g_aload_n dL_law_517 rfl rfl ?_
    refine g_iload_n dL_law_518 rfl rfl ?_
    refine g_iconst (v := nI 1) dL_law_519 rfl (by decide) ?_
    refine g_iadd dL_law_520 rfl (nI_add _ _) ?_
    refine g_sld dL_law_521 rfl (by omega) hL11 hx1 ?_
    refine g_aload_n dL_law_522 rfl rfl ?_
    refine g_iload_n dL_law_523 rfl rfl ?_
    refine g_iconst (v := nI 2) dL_law_524 rfl (by decide) ?_
    refine g_iadd dL_law_525 rfl (nI_add _ _) ?_
    refine g_sld dL_law_526 rfl (by omega) hL11 hx2 ?_
    refine g_callV (c_X7_tower sk hQ hsb hc he hce) m_L_79 a_X7_tower dL_law_527 rfl [59, 61, 63, 64] rfl rfl 0 rfl rfl rfl (by decide) (by decide) (by decide) (by decide) (Nat.le_of_ble_eq_true rfl) (fun r w hK => ?_)
    obtain ⟨rfl, ru2, fn2, rfl⟩ := hK
    refine ⟨rfl, ?_⟩
    dsimp only [puts, List.set, Option.toList, List.cons_append, List.nil_append, List.append_nil]
    refine g_icmp_eq (t := 699) dL_law_530 (by decide) rfl (fun h530 => ?_) (fun h530 => ?_)
    · skip
      exact hK st fp len fcn ai fa0 fp0 pt hm sn fb fF fn T gs w a r F2 C2 V2 E2 N2 S2 sfs sfw sfa sfr s sd fim s0 s1 d0 d1 fk n fc ff gt ot dt f0t gI last once ag af stp g0 o0 z0 g1 o1 z1 g2 o2 z2 g3 o3 z3 g4 o4 z4 g5 o5 z5 u0 u1 u2 u3 u4 u5 frr f9 far qf fg ffn rx fo ftn gr or_ dr f0r t zd at_ so sta sz fl iha isn ru2 fx fd s fn2 fi64 fz fkm fwm ffm fr6 fb6 tu6 tx who frs hT hP hL hS h0 h1 hN hC hX
    · exact absurd (towA_T hW hc he).symm h530
