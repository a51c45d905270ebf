/-! THE LAW: fault, hang, begin, tear, seed, feed -/
set_option maxRecDepth 20000 in
set_option maxHeartbeats 4000000 in
theorem law_2 (sk A : Nat → Nat) (yy : MethodName) {i : Nat} (hi : i + 4 ≤ sk 11) (hL11 : sk 11 ≤ 256) (hK : ∀ (st : Bool) (fp : Int32) (len fcn : Nat) (ai fa0 fp0 : Int32) (pt hm sn : Bool) (fb fF fn : Nat → Int32) (T : Nat → Nat) (gs : Nat → Int32) (w a r : Nat → Nat) (F2 C2 V2 E2 N2 S2 : Int32) (sfs sfw sfa sfr : Nat → Int32) (s : PSt) (sd : Int32) (fim : Nat → Option Nat) (s0 s1 : PSt) (d0 d1 : Int32) (fk : Nat → Int32) (n : Nat) (fc ff : Nat → Int32) (gt ot dt : Int32) (f0t : Nat → Int32) (gI last : Int32) (once : Bool) (ag : Int32) (af : Bool) (stp : Nat → Option Nat) (g0 o0 z0 g1 o1 z1 g2 o2 z2 g3 o3 z3 g4 o4 z4 g5 o5 z5 : Int32) (u0 u1 u2 u3 u4 u5 frr f9 : Nat → Int32) (far : Nat → Option Nat) (qf : Nat → Nat → Int32) (fg ffn : Nat → Int32) (rx : Int32) (fo : Bool) (ftn : Nat → Int32) (gr or_ dr : Int32) (f0r : Nat → Int32) (t : PSt) (zd at_ so sta sz fl : Int32) (iha isn : Bool) (ru : Int32) (fx fd : Nat → Int32) (sm : PSt) (fnow fi64 fz fkm fwm ffm fr6 fb6 tu6 : Nat → Int32) (tx who frs : Nat → Nat), IText len tx fb fx → IPlan T w a r gs → SlB sfs → ISt (T 0) s sm → IImg (T 0) 0 s0 d0 fk fkm fi64 fz → IImg (T 0) 1 s1 d1 fk fkm fi64 fz → IList (T 1) n who frs fc ff fwm ffm → ICache T w a r st t ag af f9 fg ffn qf rx fo ftn → IFix A fim stp far → GG sk RL yy cL_law 4 (some .boolean) 100 73 1816 PLaw 73 1816 699 [some (.ref (sk 10)), some (.ref (A 0)), some (.ref (A 59)), some (.int (nI i))] [] [oMain (A 0) (A 1) (A 5) (A 10) (A 15) (A 17) (A 22) (A 23) (A 28) (A 53) (A 57) st fp, oReader (A 1) (A 2) (A 3) (A 4) (nI len) ai fa0 fp0 (nI fcn) pt hm sn, cB (A 2) 400 fb, cZ (A 3) 30 fF, cI (A 4) 3 fn, oPlan (A 5) (A 6) (A 7) (A 8) (A 9) (nI (T 0)) (nI (T 1)) (nI (T 2)) (nI (T 3)) (nI (T 4)) (nI (T 5)), cI (A 6) 30 gs, cI (A 7) 6 (fI w), cI (A 8) 6 (fI a), cI (A 9) 6 (fI r), oPlan (A 10) (A 11) (A 12) (A 13) (A 14) F2 C2 V2 E2 N2 S2, cI (A 11) 30 sfs, cI (A 12) 6 sfw, cI (A 13) 6 sfa, cI (A 14) 6 sfr, oPoleS (A 15) (A 16) s sd, cI (A 16) 30 (fI s.1), cP (A 17) 2 fim, oPoleS (A 18) (A 19) s0 d0, cI (A 19) 30 (fI s0.1), oPoleS (A 20) (A 21) s1 d1, cI (A 21) 30 (fI s1.1), cZ (A 22) 2 fk, oTale (A 23) (A 24) (A 25) (A 26) (nI n), cI (A 24) 12 fc, cI (A 25) 12 ff, oPole (A 26) (A 27) gt ot dt, cI (A 27) 30 f0t, oRows (A 28) (A 29) (A 42) gI last once (A 43) ag af (A 44) (A 51) (A 52), cP (A 29) 6 stp, oPole (A 30) (A 31) g0 o0 z0, cI (A 31) 30 u0, oPole (A 32) (A 33) g1 o1 z1, cI (A 33) 30 u1, oPole (A 34) (A 35) g2 o2 z2, cI (A 35) 30 u2, oPole (A 36) (A 37) g3 o3 z3, cI (A 37) 30 u3, oPole (A 38) (A 39) g4 o4 z4, cI (A 39) 30 u4, oPole (A 40) (A 41) g5 o5 z5, cI (A 41) 30 u5, cI (A 42) 6 frr, cI (A 43) 6 f9, cA (A 44) 6 far, cI (A 45) 6 (qf 0), cI (A 46) 6 (qf 1), cI (A 47) 6 (qf 2), cI (A 48) 6 (qf 3), cI (A 49) 6 (qf 4), cI (A 50) 6 (qf 5), cI (A 51) 6 fg, cZ (A 52) 6 ffn, oRests (A 53) (A 54) (A 55) rx fo, cI (A 54) 6 ftn, oPole (A 55) (A 56) gr or_ dr, cI (A 56) 30 f0r, oPoleS (A 57) (A 58) t zd, cI (A 58) 30 (fI t.1), oMod (A 59) (A 60) (nI len) (A 61) (A 62) (A 63) (A 64) (A 65) (A 66) (A 67) (A 68) (A 69) (nI n) sd fp at_ so sta sz fl iha isn ru (A 70) (A 71) (A 72), cI (A 60) 400 fx, cI (A 61) 56 (fI T), cI (A 62) 56 fd, cI (A 63) 32 (fS sm), cI (A 64) 32 fnow, cI (A 65) 64 fi64, cI (A 66) 2 fz, cZ (A 67) 2 fkm, cI (A 68) 12 fwm, cI (A 69) 12 ffm, cI (A 70) 6 fr6, cI (A 71) 6 fb6, cI (A 72) 6 tu6]) {st : Bool} {fp : Int32} {len fcn : Nat} {ai fa0 fp0 : Int32} {pt hm sn : Bool} {fb fF fn : Nat → Int32} {T : Nat → Nat} {gs : Nat → Int32} {w a r : Nat → Nat} {F2 C2 V2 E2 N2 S2 : Int32} {sfs sfw sfa sfr : Nat → Int32} {s : PSt} {sd : Int32} {fim : Nat → Option Nat} {s0 s1 : PSt} {d0 d1 : Int32} {fk : Nat → Int32} {n : Nat} {fc ff : Nat → Int32} {gt ot dt : Int32} {f0t : Nat → Int32} {gI last : Int32} {once : Bool} {ag : Int32} {af : Bool} {stp : Nat → Option Nat} {g0 o0 z0 g1 o1 z1 g2 o2 z2 g3 o3 z3 g4 o4 z4 g5 o5 z5 : Int32} {u0 u1 u2 u3 u4 u5 frr f9 : Nat → Int32} {far : Nat → Option Nat} {qf : Nat → Nat → Int32} {fg ffn : Nat → Int32} {rx : Int32} {fo : Bool} {ftn : Nat → Int32} {gr or_ dr : Int32} {f0r : Nat → Int32} {t : PSt} {zd at_ so sta sz fl : Int32} {iha isn : Bool} {ru : Int32} {fx fd : Nat → Int32} {sm : PSt} {fnow fi64 fz fkm fwm ffm fr6 fb6 tu6 : Nat → Int32} {tx who frs : Nat → Nat} (hT : IText len tx fb fx) (hP : IPlan T w a r gs) (hL : SlB sfs) (hS : ISt (T 0) s sm) (h0 : IImg (T 0) 0 s0 d0 fk fkm fi64 fz) (h1 : IImg (T 0) 1 s1 d1 fk fkm fi64 fz) (hN : IList (T 1) n who frs fc ff fwm ffm) (hC : ICache T w a r st t ag af f9 fg ffn qf rx fo ftn) (hX : IFix A fim stp far) : GG sk RL yy cL_law 4 (some .boolean) 100 73 1816 PLaw 73 1816 216 [some (.ref (sk 10)), some (.ref (A 0)), some (.ref (A 59)), some (.int (nI i))] [] [oMain (A 0) (A 1) (A 5) (A 10) (A 15) (A 17) (A 22) (A 23) (A 28) (A 53) (A 57) st fp, oReader (A 1) (A 2) (A 3) (A 4) (nI len) ai fa0 fp0 (nI fcn) pt hm sn, cB (A 2) 400 fb, cZ (A 3) 30 fF, cI (A 4) 3 fn, oPlan (A 5) (A 6) (A 7) (A 8) (A 9) (nI (T 0)) (nI (T 1)) (nI (T 2)) (nI (T 3)) (nI (T 4)) (nI (T 5)), cI (A 6) 30 gs, cI (A 7) 6 (fI w), cI (A 8) 6 (fI a), cI (A 9) 6 (fI r), oPlan (A 10) (A 11) (A 12) (A 13) (A 14) F2 C2 V2 E2 N2 S2, cI (A 11) 30 sfs, cI (A 12) 6 sfw, cI (A 13) 6 sfa, cI (A 14) 6 sfr, oPoleS (A 15) (A 16) s sd, cI (A 16) 30 (fI s.1), cP (A 17) 2 fim, oPoleS (A 18) (A 19) s0 d0, cI (A 19) 30 (fI s0.1), oPoleS (A 20) (A 21) s1 d1, cI (A 21) 30 (fI s1.1), cZ (A 22) 2 fk, oTale (A 23) (A 24) (A 25) (A 26) (nI n), cI (A 24) 12 fc, cI (A 25) 12 ff, oPole (A 26) (A 27) gt ot dt, cI (A 27) 30 f0t, oRows (A 28) (A 29) (A 42) gI last once (A 43) ag af (A 44) (A 51) (A 52), cP (A 29) 6 stp, oPole (A 30) (A 31) g0 o0 z0, cI (A 31) 30 u0, oPole (A 32) (A 33) g1 o1 z1, cI (A 33) 30 u1, oPole (A 34) (A 35) g2 o2 z2, cI (A 35) 30 u2, oPole (A 36) (A 37) g3 o3 z3, cI (A 37) 30 u3, oPole (A 38) (A 39) g4 o4 z4, cI (A 39) 30 u4, oPole (A 40) (A 41) g5 o5 z5, cI (A 41) 30 u5, cI (A 42) 6 frr, cI (A 43) 6 f9, cA (A 44) 6 far, cI (A 45) 6 (qf 0), cI (A 46) 6 (qf 1), cI (A 47) 6 (qf 2), cI (A 48) 6 (qf 3), cI (A 49) 6 (qf 4), cI (A 50) 6 (qf 5), cI (A 51) 6 fg, cZ (A 52) 6 ffn, oRests (A 53) (A 54) (A 55) rx fo, cI (A 54) 6 ftn, oPole (A 55) (A 56) gr or_ dr, cI (A 56) 30 f0r, oPoleS (A 57) (A 58) t zd, cI (A 58) 30 (fI t.1), oMod (A 59) (A 60) (nI len) (A 61) (A 62) (A 63) (A 64) (A 65) (A 66) (A 67) (A 68) (A 69) (nI n) sd fp at_ so sta sz fl iha isn ru (A 70) (A 71) (A 72), cI (A 60) 400 fx, cI (A 61) 56 (fI T), cI (A 62) 56 fd, cI (A 63) 32 (fS sm), cI (A 64) 32 fnow, cI (A 65) 64 fi64, cI (A 66) 2 fz, cZ (A 67) 2 fkm, cI (A 68) 12 fwm, cI (A 69) 12 ffm, cI (A 70) 6 fr6, cI (A 71) 6 fb6, cI (A 72) 6 tu6] := by
  have hB := hP.PB
  have hW := hP.2.1
  have hF30 : T 0 ≤ 30 := hB.1
  have hC6 : T 1 ≤ 6 := hB.2.1
  have hQ := hP.1
  have hsb := hS.1
  have hns := hS.2.1
  have hmb := hS.2.2.1
  have h2 := hS.2.2.2.2.1
  refine g_aload_n dL_law_216 rfl rfl ?_
  refine g_callV (c_X6_fault sk) m_L_25 a_X6_fault dL_law_217 rfl [0] rfl rfl 0 rfl rfl rfl (by decide) (by decide) (by decide) (by decide) (Nat.le_of_ble_eq_true rfl) (fun r w hK => ?_)
  obtain ⟨rfl, rfl⟩ := hK
  refine ⟨rfl, ?_⟩
  dsimp only [puts, List.set, Option.toList, List.cons_append, List.nil_append, List.append_nil]
  refine g_aload_n dL_law_220 rfl rfl ?_
  refine g_callV (c_X7_fault sk) m_L_28 a_X7_fault dL_law_221 rfl [59] rfl rfl 0 rfl rfl rfl (by decide) (by decide) (by decide) (by decide) (Nat.le_of_ble_eq_true rfl) (fun r w hK => ?_)
  obtain ⟨rfl, rfl⟩ := hK
  refine ⟨rfl, ?_⟩
  dsimp only [puts, List.set, Option.toList, List.cons_append, List.nil_append, List.append_nil]
  refine g_icmp_eq (t := 699) dL_law_224 (by decide) rfl (fun h224 => ?_) (fun h224 => ?_)
  · skip
    exact hK st fp len fcn ai fa0 fp0 pt hm sn fb fF fn T gs w a r F2 C2 V2 E2 N2 S2 sfs sfw sfa sfr s sd fim s0 s1 d0 d1 fk n fc ff gt ot dt f0t gI last once ag af stp g0 o0 z0 g1 o1 z1 g2 o2 z2 g3 o3 z3 g4 o4 z4 g5 o5 z5 u0 u1 u2 u3 u4 u5 frr f9 far qf fg ffn rx fo ftn gr or_ dr f0r t zd at_ so sta sz fl iha isn ru fx fd sm fnow fi64 fz fkm fwm ffm fr6 fb6 tu6 tx who frs hT hP hL hS h0 h1 hN hC hX
  · exact absurd rfl h224
set_option maxRecDepth 20000 in
set_option maxHeartbeats 4000000 in
theorem law_8 (sk A : Nat → Nat) (yy : MethodName) {i : Nat} (hi : i + 4 ≤ sk 11) (hL11 : sk 11 ≤ 256) (hK : ∀ (st : Bool) (fp : Int32) (len fcn : Nat) (ai fa0 fp0 : Int32) (pt hm sn : Bool) (fb fF fn : Nat → Int32) (T : Nat → Nat) (gs : Nat → Int32) (w a r : Nat → Nat) (F2 C2 V2 E2 N2 S2 : Int32) (sfs sfw sfa sfr : Nat → Int32) (s : PSt) (sd : Int32) (fim : Nat → Option Nat) (s0 s1 : PSt) (d0 d1 : Int32) (fk : Nat → Int32) (n : Nat) (fc ff : Nat → Int32) (gt ot dt : Int32) (f0t : Nat → Int32) (gI last : Int32) (once : Bool) (ag : Int32) (af : Bool) (stp : Nat → Option Nat) (g0 o0 z0 g1 o1 z1 g2 o2 z2 g3 o3 z3 g4 o4 z4 g5 o5 z5 : Int32) (u0 u1 u2 u3 u4 u5 frr f9 : Nat → Int32) (far : Nat → Option Nat) (qf : Nat → Nat → Int32) (fg ffn : Nat → Int32) (rx : Int32) (fo : Bool) (ftn : Nat → Int32) (gr or_ dr : Int32) (f0r : Nat → Int32) (t : PSt) (zd at_ so sta sz fl : Int32) (iha isn : Bool) (ru : Int32) (fx fd : Nat → Int32) (sm : PSt) (fnow fi64 fz fkm fwm ffm fr6 fb6 tu6 : Nat → Int32) (tx who frs : Nat → Nat), IText len tx fb fx → IPlan T w a r gs → SlB sfs → ISt (T 0) s sm → IImg (T 0) 0 s0 d0 fk fkm fi64 fz → IImg (T 0) 1 s1 d1 fk fkm fi64 fz → IList (T 1) n who frs fc ff fwm ffm → ICache T w a r st t ag af f9 fg ffn qf rx fo ftn → IFix A fim stp far → GG sk RL yy cL_law 4 (some .boolean) 100 73 1816 PLaw 73 1816 699 [some (.ref (sk 10)), some (.ref (A 0)), some (.ref (A 59)), some (.int (nI i))] [] [oMain (A 0) (A 1) (A 5) (A 10) (A 15) (A 17) (A 22) (A 23) (A 28) (A 53) (A 57) st fp, oReader (A 1) (A 2) (A 3) (A 4) (nI len) ai fa0 fp0 (nI fcn) pt hm sn, cB (A 2) 400 fb, cZ (A 3) 30 fF, cI (A 4) 3 fn, oPlan (A 5) (A 6) (A 7) (A 8) (A 9) (nI (T 0)) (nI (T 1)) (nI (T 2)) (nI (T 3)) (nI (T 4)) (nI (T 5)), cI (A 6) 30 gs, cI (A 7) 6 (fI w), cI (A 8) 6 (fI a), cI (A 9) 6 (fI r), oPlan (A 10) (A 11) (A 12) (A 13) (A 14) F2 C2 V2 E2 N2 S2, cI (A 11) 30 sfs, cI (A 12) 6 sfw, cI (A 13) 6 sfa, cI (A 14) 6 sfr, oPoleS (A 15) (A 16) s sd, cI (A 16) 30 (fI s.1), cP (A 17) 2 fim, oPoleS (A 18) (A 19) s0 d0, cI (A 19) 30 (fI s0.1), oPoleS (A 20) (A 21) s1 d1, cI (A 21) 30 (fI s1.1), cZ (A 22) 2 fk, oTale (A 23) (A 24) (A 25) (A 26) (nI n), cI (A 24) 12 fc, cI (A 25) 12 ff, oPole (A 26) (A 27) gt ot dt, cI (A 27) 30 f0t, oRows (A 28) (A 29) (A 42) gI last once (A 43) ag af (A 44) (A 51) (A 52), cP (A 29) 6 stp, oPole (A 30) (A 31) g0 o0 z0, cI (A 31) 30 u0, oPole (A 32) (A 33) g1 o1 z1, cI (A 33) 30 u1, oPole (A 34) (A 35) g2 o2 z2, cI (A 35) 30 u2, oPole (A 36) (A 37) g3 o3 z3, cI (A 37) 30 u3, oPole (A 38) (A 39) g4 o4 z4, cI (A 39) 30 u4, oPole (A 40) (A 41) g5 o5 z5, cI (A 41) 30 u5, cI (A 42) 6 frr, cI (A 43) 6 f9, cA (A 44) 6 far, cI (A 45) 6 (qf 0), cI (A 46) 6 (qf 1), cI (A 47) 6 (qf 2), cI (A 48) 6 (qf 3), cI (A 49) 6 (qf 4), cI (A 50) 6 (qf 5), cI (A 51) 6 fg, cZ (A 52) 6 ffn, oRests (A 53) (A 54) (A 55) rx fo, cI (A 54) 6 ftn, oPole (A 55) (A 56) gr or_ dr, cI (A 56) 30 f0r, oPoleS (A 57) (A 58) t zd, cI (A 58) 30 (fI t.1), oMod (A 59) (A 60) (nI len) (A 61) (A 62) (A 63) (A 64) (A 65) (A 66) (A 67) (A 68) (A 69) (nI n) sd fp at_ so sta sz fl iha isn ru (A 70) (A 71) (A 72), cI (A 60) 400 fx, cI (A 61) 56 (fI T), cI (A 62) 56 fd, cI (A 63) 32 (fS sm), cI (A 64) 32 fnow, cI (A 65) 64 fi64, cI (A 66) 2 fz, cZ (A 67) 2 fkm, cI (A 68) 12 fwm, cI (A 69) 12 ffm, cI (A 70) 6 fr6, cI (A 71) 6 fb6, cI (A 72) 6 tu6]) {st : Bool} {fp : Int32} {len fcn : Nat} {ai fa0 fp0 : Int32} {pt hm sn : Bool} {fb fF fn : Nat → Int32} {T : Nat → Nat} {gs : Nat → Int32} {w a r : Nat → Nat} {F2 C2 V2 E2 N2 S2 : Int32} {sfs sfw sfa sfr : Nat → Int32} {s : PSt} {sd : Int32} {fim : Nat → Option Nat} {s0 s1 : PSt} {d0 d1 : Int32} {fk : Nat → Int32} {n : Nat} {fc ff : Nat → Int32} {gt ot dt : Int32} {f0t : Nat → Int32} {gI last : Int32} {once : Bool} {ag : Int32} {af : Bool} {stp : Nat → Option Nat} {g0 o0 z0 g1 o1 z1 g2 o2 z2 g3 o3 z3 g4 o4 z4 g5 o5 z5 : Int32} {u0 u1 u2 u3 u4 u5 frr f9 : Nat → Int32} {far : Nat → Option Nat} {qf : Nat → Nat → Int32} {fg ffn : Nat → Int32} {rx : Int32} {fo : Bool} {ftn : Nat → Int32} {gr or_ dr : Int32} {f0r : Nat → Int32} {t : PSt} {zd at_ so sta sz fl : Int32} {iha isn : Bool} {ru : Int32} {fx fd : Nat → Int32} {sm : PSt} {fnow fi64 fz fkm fwm ffm fr6 fb6 tu6 : Nat → Int32} {tx who frs : Nat → Nat} (hT : IText len tx fb fx) (hP : IPlan T w a r gs) (hL : SlB sfs) (hS : ISt (T 0) s sm) (h0 : IImg (T 0) 0 s0 d0 fk fkm fi64 fz) (h1 : IImg (T 0) 1 s1 d1 fk fkm fi64 fz) (hN : IList (T 1) n who frs fc ff fwm ffm) (hC : ICache T w a r st t ag af f9 fg ffn qf rx fo ftn) (hX : IFix A fim stp far) : GG sk RL yy cL_law 4 (some .boolean) 100 73 1816 PLaw 73 1816 374 [some (.ref (sk 10)), some (.ref (A 0)), some (.ref (A 59)), some (.int (nI i))] [] [oMain (A 0) (A 1) (A 5) (A 10) (A 15) (A 17) (A 22) (A 23) (A 28) (A 53) (A 57) st fp, oReader (A 1) (A 2) (A 3) (A 4) (nI len) ai fa0 fp0 (nI fcn) pt hm sn, cB (A 2) 400 fb, cZ (A 3) 30 fF, cI (A 4) 3 fn, oPlan (A 5) (A 6) (A 7) (A 8) (A 9) (nI (T 0)) (nI (T 1)) (nI (T 2)) (nI (T 3)) (nI (T 4)) (nI (T 5)), cI (A 6) 30 gs, cI (A 7) 6 (fI w), cI (A 8) 6 (fI a), cI (A 9) 6 (fI r), oPlan (A 10) (A 11) (A 12) (A 13) (A 14) F2 C2 V2 E2 N2 S2, cI (A 11) 30 sfs, cI (A 12) 6 sfw, cI (A 13) 6 sfa, cI (A 14) 6 sfr, oPoleS (A 15) (A 16) s sd, cI (A 16) 30 (fI s.1), cP (A 17) 2 fim, oPoleS (A 18) (A 19) s0 d0, cI (A 19) 30 (fI s0.1), oPoleS (A 20) (A 21) s1 d1, cI (A 21) 30 (fI s1.1), cZ (A 22) 2 fk, oTale (A 23) (A 24) (A 25) (A 26) (nI n), cI (A 24) 12 fc, cI (A 25) 12 ff, oPole (A 26) (A 27) gt ot dt, cI (A 27) 30 f0t, oRows (A 28) (A 29) (A 42) gI last once (A 43) ag af (A 44) (A 51) (A 52), cP (A 29) 6 stp, oPole (A 30) (A 31) g0 o0 z0, cI (A 31) 30 u0, oPole (A 32) (A 33) g1 o1 z1, cI (A 33) 30 u1, oPole (A 34) (A 35) g2 o2 z2, cI (A 35) 30 u2, oPole (A 36) (A 37) g3 o3 z3, cI (A 37) 30 u3, oPole (A 38) (A 39) g4 o4 z4, cI (A 39) 30 u4, oPole (A 40) (A 41) g5 o5 z5, cI (A 41) 30 u5, cI (A 42) 6 frr, cI (A 43) 6 f9, cA (A 44) 6 far, cI (A 45) 6 (qf 0), cI (A 46) 6 (qf 1), cI (A 47) 6 (qf 2), cI (A 48) 6 (qf 3), cI (A 49) 6 (qf 4), cI (A 50) 6 (qf 5), cI (A 51) 6 fg, cZ (A 52) 6 ffn, oRests (A 53) (A 54) (A 55) rx fo, cI (A 54) 6 ftn, oPole (A 55) (A 56) gr or_ dr, cI (A 56) 30 f0r, oPoleS (A 57) (A 58) t zd, cI (A 58) 30 (fI t.1), oMod (A 59) (A 60) (nI len) (A 61) (A 62) (A 63) (A 64) (A 65) (A 66) (A 67) (A 68) (A 69) (nI n) sd fp at_ so sta sz fl iha isn ru (A 70) (A 71) (A 72), cI (A 60) 400 fx, cI (A 61) 56 (fI T), cI (A 62) 56 fd, cI (A 63) 32 (fS sm), cI (A 64) 32 fnow, cI (A 65) 64 fi64, cI (A 66) 2 fz, cZ (A 67) 2 fkm, cI (A 68) 12 fwm, cI (A 69) 12 ffm, cI (A 70) 6 fr6, cI (A 71) 6 fb6, cI (A 72) 6 tu6] := by
  have hB := hP.PB
  have hW := hP.2.1
  have hF30 : T 0 ≤ 30 := hB.1
  have hC6 : T 1 ≤ 6 := hB.2.1
  have hQ := hP.1
  have hsb := hS.1
  have hns := hS.2.1
  have hmb := hS.2.2.1
  have h2 := hS.2.2.2.2.1
  refine g_aload_n dL_law_374 rfl rfl ?_
  refine g_callV (c_X6_hang sk) m_L_52 a_X6_hang dL_law_375 rfl [0, 15] rfl rfl 0 rfl rfl rfl (by decide) (by decide) (by decide) (by decide) (Nat.le_of_ble_eq_true rfl) (fun r w hK => ?_)
  obtain ⟨rfl, rfl⟩ := hK
  refine ⟨rfl, ?_⟩
  dsimp only [puts, List.set, Option.toList, List.cons_append, List.nil_append, List.append_nil]
  refine g_aload_n dL_law_378 rfl rfl ?_
  refine g_callV (c_X7_hang sk) m_L_55 a_X7_hang dL_law_379 rfl [59, 63] rfl rfl 0 rfl rfl rfl (by decide) (by decide) (by decide) (by decide) (Nat.le_of_ble_eq_true rfl) (fun r w hK => ?_)
  obtain ⟨rfl, rfl⟩ := hK
  refine ⟨rfl, ?_⟩
  dsimp only [puts, List.set, Option.toList, List.cons_append, List.nil_append, List.append_nil]
  refine g_icmp_eq (t := 699) dL_law_382 (by decide) rfl (fun h382 => ?_) (fun h382 => ?_)
  · skip
    refine g_cong (g := fS (sm.1, sm.2.1, -1)) 63 rfl (fS_ham sm (-1)) rfl ?_
    dsimp only [List.set]
    exact hK st fp len fcn ai fa0 fp0 pt hm sn fb fF fn T gs w a r F2 C2 V2 E2 N2 S2 sfs sfw sfa sfr (s.1, s.2.1, -1) sd fim s0 s1 d0 d1 fk n fc ff gt ot dt f0t gI last once ag af stp g0 o0 z0 g1 o1 z1 g2 o2 z2 g3 o3 z3 g4 o4 z4 g5 o5 z5 u0 u1 u2 u3 u4 u5 frr f9 far qf fg ffn rx fo ftn gr or_ dr f0r t zd at_ so sta sz fl iha isn ru fx fd (sm.1, sm.2.1, -1) fnow fi64 fz fkm fwm ffm fr6 fb6 tu6 tx who frs hT hP hL (⟨hsb, hns, hmb, hS.2.2.2.1, congrArg (fun q : Int32 × Int32 => (q.1, (-1 : Int32))) h2, fun q => congrArg (fun z : PSt => (z.1, z.2.1, (-1 : Int32))) (hS.2.2.2.2.2 q)⟩) h0 h1 hN hC hX
  · exact absurd (congrArg Prod.snd h2) h382
set_option maxRecDepth 20000 in
set_option maxHeartbeats 4000000 in
theorem law_9 (sk A : Nat → Nat) (yy : MethodName) {i : Nat} (hi : i + 4 ≤ sk 11) (hL11 : sk 11 ≤ 256) (hK : ∀ (st : Bool) (fp : Int32) (len fcn : Nat) (ai fa0 fp0 : Int32) (pt hm sn : Bool) (fb fF fn : Nat → Int32) (T : Nat → Nat) (gs : Nat → Int32) (w a r : Nat → Nat) (F2 C2 V2 E2 N2 S2 : Int32) (sfs sfw sfa sfr : Nat → Int32) (s : PSt) (sd : Int32) (fim : Nat → Option Nat) (s0 s1 : PSt) (d0 d1 : Int32) (fk : Nat → Int32) (n : Nat) (fc ff : Nat → Int32) (gt ot dt : Int32) (f0t : Nat → Int32) (gI last : Int32) (once : Bool) (ag : Int32) (af : Bool) (stp : Nat → Option Nat) (g0 o0 z0 g1 o1 z1 g2 o2 z2 g3 o3 z3 g4 o4 z4 g5 o5 z5 : Int32) (u0 u1 u2 u3 u4 u5 frr f9 : Nat → Int32) (far : Nat → Option Nat) (qf : Nat → Nat → Int32) (fg ffn : Nat → Int32) (rx : Int32) (fo : Bool) (ftn : Nat → Int32) (gr or_ dr : Int32) (f0r : Nat → Int32) (t : PSt) (zd at_ so sta sz fl : Int32) (iha isn : Bool) (ru : Int32) (fx fd : Nat → Int32) (sm : PSt) (fnow fi64 fz fkm fwm ffm fr6 fb6 tu6 : Nat → Int32) (tx who frs : Nat → Nat), IText len tx fb fx → IPlan T w a r gs → SlB sfs → ISt (T 0) s sm → IImg (T 0) 0 s0 d0 fk fkm fi64 fz → IImg (T 0) 1 s1 d1 fk fkm fi64 fz → IList (T 1) n who frs fc ff fwm ffm → ICache T w a r st t ag af f9 fg ffn qf rx fo ftn → IFix A fim stp far → GG sk RL yy cL_law 4 (some .boolean) 100 73 1816 PLaw 73 1816 699 [some (.ref (sk 10)), some (.ref (A 0)), some (.ref (A 59)), some (.int (nI i))] [] [oMain (A 0) (A 1) (A 5) (A 10) (A 15) (A 17) (A 22) (A 23) (A 28) (A 53) (A 57) st fp, oReader (A 1) (A 2) (A 3) (A 4) (nI len) ai fa0 fp0 (nI fcn) pt hm sn, cB (A 2) 400 fb, cZ (A 3) 30 fF, cI (A 4) 3 fn, oPlan (A 5) (A 6) (A 7) (A 8) (A 9) (nI (T 0)) (nI (T 1)) (nI (T 2)) (nI (T 3)) (nI (T 4)) (nI (T 5)), cI (A 6) 30 gs, cI (A 7) 6 (fI w), cI (A 8) 6 (fI a), cI (A 9) 6 (fI r), oPlan (A 10) (A 11) (A 12) (A 13) (A 14) F2 C2 V2 E2 N2 S2, cI (A 11) 30 sfs, cI (A 12) 6 sfw, cI (A 13) 6 sfa, cI (A 14) 6 sfr, oPoleS (A 15) (A 16) s sd, cI (A 16) 30 (fI s.1), cP (A 17) 2 fim, oPoleS (A 18) (A 19) s0 d0, cI (A 19) 30 (fI s0.1), oPoleS (A 20) (A 21) s1 d1, cI (A 21) 30 (fI s1.1), cZ (A 22) 2 fk, oTale (A 23) (A 24) (A 25) (A 26) (nI n), cI (A 24) 12 fc, cI (A 25) 12 ff, oPole (A 26) (A 27) gt ot dt, cI (A 27) 30 f0t, oRows (A 28) (A 29) (A 42) gI last once (A 43) ag af (A 44) (A 51) (A 52), cP (A 29) 6 stp, oPole (A 30) (A 31) g0 o0 z0, cI (A 31) 30 u0, oPole (A 32) (A 33) g1 o1 z1, cI (A 33) 30 u1, oPole (A 34) (A 35) g2 o2 z2, cI (A 35) 30 u2, oPole (A 36) (A 37) g3 o3 z3, cI (A 37) 30 u3, oPole (A 38) (A 39) g4 o4 z4, cI (A 39) 30 u4, oPole (A 40) (A 41) g5 o5 z5, cI (A 41) 30 u5, cI (A 42) 6 frr, cI (A 43) 6 f9, cA (A 44) 6 far, cI (A 45) 6 (qf 0), cI (A 46) 6 (qf 1), cI (A 47) 6 (qf 2), cI (A 48) 6 (qf 3), cI (A 49) 6 (qf 4), cI (A 50) 6 (qf 5), cI (A 51) 6 fg, cZ (A 52) 6 ffn, oRests (A 53) (A 54) (A 55) rx fo, cI (A 54) 6 ftn, oPole (A 55) (A 56) gr or_ dr, cI (A 56) 30 f0r, oPoleS (A 57) (A 58) t zd, cI (A 58) 30 (fI t.1), oMod (A 59) (A 60) (nI len) (A 61) (A 62) (A 63) (A 64) (A 65) (A 66) (A 67) (A 68) (A 69) (nI n) sd fp at_ so sta sz fl iha isn ru (A 70) (A 71) (A 72), cI (A 60) 400 fx, cI (A 61) 56 (fI T), cI (A 62) 56 fd, cI (A 63) 32 (fS sm), cI (A 64) 32 fnow, cI (A 65) 64 fi64, cI (A 66) 2 fz, cZ (A 67) 2 fkm, cI (A 68) 12 fwm, cI (A 69) 12 ffm, cI (A 70) 6 fr6, cI (A 71) 6 fb6, cI (A 72) 6 tu6]) {st : Bool} {fp : Int32} {len fcn : Nat} {ai fa0 fp0 : Int32} {pt hm sn : Bool} {fb fF fn : Nat → Int32} {T : Nat → Nat} {gs : Nat → Int32} {w a r : Nat → Nat} {F2 C2 V2 E2 N2 S2 : Int32} {sfs sfw sfa sfr : Nat → Int32} {s : PSt} {sd : Int32} {fim : Nat → Option Nat} {s0 s1 : PSt} {d0 d1 : Int32} {fk : Nat → Int32} {n : Nat} {fc ff : Nat → Int32} {gt ot dt : Int32} {f0t : Nat → Int32} {gI last : Int32} {once : Bool} {ag : Int32} {af : Bool} {stp : Nat → Option Nat} {g0 o0 z0 g1 o1 z1 g2 o2 z2 g3 o3 z3 g4 o4 z4 g5 o5 z5 : Int32} {u0 u1 u2 u3 u4 u5 frr f9 : Nat → Int32} {far : Nat → Option Nat} {qf : Nat → Nat → Int32} {fg ffn : Nat → Int32} {rx : Int32} {fo : Bool} {ftn : Nat → Int32} {gr or_ dr : Int32} {f0r : Nat → Int32} {t : PSt} {zd at_ so sta sz fl : Int32} {iha isn : Bool} {ru : Int32} {fx fd : Nat → Int32} {sm : PSt} {fnow fi64 fz fkm fwm ffm fr6 fb6 tu6 : Nat → Int32} {tx who frs : Nat → Nat} (hT : IText len tx fb fx) (hP : IPlan T w a r gs) (hL : SlB sfs) (hS : ISt (T 0) s sm) (h0 : IImg (T 0) 0 s0 d0 fk fkm fi64 fz) (h1 : IImg (T 0) 1 s1 d1 fk fkm fi64 fz) (hN : IList (T 1) n who frs fc ff fwm ffm) (hC : ICache T w a r st t ag af f9 fg ffn qf rx fo ftn) (hX : IFix A fim stp far) : GG sk RL yy cL_law 4 (some .boolean) 100 73 1816 PLaw 73 1816 387 [some (.ref (sk 10)), some (.ref (A 0)), some (.ref (A 59)), some (.int (nI i))] [] [oMain (A 0) (A 1) (A 5) (A 10) (A 15) (A 17) (A 22) (A 23) (A 28) (A 53) (A 57) st fp, oReader (A 1) (A 2) (A 3) (A 4) (nI len) ai fa0 fp0 (nI fcn) pt hm sn, cB (A 2) 400 fb, cZ (A 3) 30 fF, cI (A 4) 3 fn, oPlan (A 5) (A 6) (A 7) (A 8) (A 9) (nI (T 0)) (nI (T 1)) (nI (T 2)) (nI (T 3)) (nI (T 4)) (nI (T 5)), cI (A 6) 30 gs, cI (A 7) 6 (fI w), cI (A 8) 6 (fI a), cI (A 9) 6 (fI r), oPlan (A 10) (A 11) (A 12) (A 13) (A 14) F2 C2 V2 E2 N2 S2, cI (A 11) 30 sfs, cI (A 12) 6 sfw, cI (A 13) 6 sfa, cI (A 14) 6 sfr, oPoleS (A 15) (A 16) s sd, cI (A 16) 30 (fI s.1), cP (A 17) 2 fim, oPoleS (A 18) (A 19) s0 d0, cI (A 19) 30 (fI s0.1), oPoleS (A 20) (A 21) s1 d1, cI (A 21) 30 (fI s1.1), cZ (A 22) 2 fk, oTale (A 23) (A 24) (A 25) (A 26) (nI n), cI (A 24) 12 fc, cI (A 25) 12 ff, oPole (A 26) (A 27) gt ot dt, cI (A 27) 30 f0t, oRows (A 28) (A 29) (A 42) gI last once (A 43) ag af (A 44) (A 51) (A 52), cP (A 29) 6 stp, oPole (A 30) (A 31) g0 o0 z0, cI (A 31) 30 u0, oPole (A 32) (A 33) g1 o1 z1, cI (A 33) 30 u1, oPole (A 34) (A 35) g2 o2 z2, cI (A 35) 30 u2, oPole (A 36) (A 37) g3 o3 z3, cI (A 37) 30 u3, oPole (A 38) (A 39) g4 o4 z4, cI (A 39) 30 u4, oPole (A 40) (A 41) g5 o5 z5, cI (A 41) 30 u5, cI (A 42) 6 frr, cI (A 43) 6 f9, cA (A 44) 6 far, cI (A 45) 6 (qf 0), cI (A 46) 6 (qf 1), cI (A 47) 6 (qf 2), cI (A 48) 6 (qf 3), cI (A 49) 6 (qf 4), cI (A 50) 6 (qf 5), cI (A 51) 6 fg, cZ (A 52) 6 ffn, oRests (A 53) (A 54) (A 55) rx fo, cI (A 54) 6 ftn, oPole (A 55) (A 56) gr or_ dr, cI (A 56) 30 f0r, oPoleS (A 57) (A 58) t zd, cI (A 58) 30 (fI t.1), oMod (A 59) (A 60) (nI len) (A 61) (A 62) (A 63) (A 64) (A 65) (A 66) (A 67) (A 68) (A 69) (nI n) sd fp at_ so sta sz fl iha isn ru (A 70) (A 71) (A 72), cI (A 60) 400 fx, cI (A 61) 56 (fI T), cI (A 62) 56 fd, cI (A 63) 32 (fS sm), cI (A 64) 32 fnow, cI (A 65) 64 fi64, cI (A 66) 2 fz, cZ (A 67) 2 fkm, cI (A 68) 12 fwm, cI (A 69) 12 ffm, cI (A 70) 6 fr6, cI (A 71) 6 fb6, cI (A 72) 6 tu6] := by
  have hB := hP.PB
  have hW := hP.2.1
  have hF30 : T 0 ≤ 30 := hB.1
  have hC6 : T 1 ≤ 6 := hB.2.1
  have hQ := hP.1
  have hsb := hS.1
  have hns := hS.2.1
  have hmb := hS.2.2.1
  have h2 := hS.2.2.2.2.1
  refine g_aload_n dL_law_387 rfl rfl ?_
  refine g_callV (c_X6_begin sk) m_L_56 a_X6_begin dL_law_388 rfl [0, 15, 16, 5, 6] rfl rfl 0 rfl rfl rfl (by decide) (by decide) (by decide) (by decide) (Nat.le_of_ble_eq_true rfl) (fun r w hK => ?_)
  obtain ⟨rfl, rfl⟩ := hK
  refine ⟨rfl, ?_⟩
  dsimp only [puts, List.set, Option.toList, List.cons_append, List.nil_append, List.append_nil]
  refine g_aload_n dL_law_391 rfl rfl ?_
  refine g_callV (c_X7_begin sk) m_L_59 a_X7_begin dL_law_392 rfl [59, 61, 63] rfl rfl 0 rfl rfl rfl (by decide) (by decide) (by decide) (by decide) (Nat.le_of_ble_eq_true rfl) (fun r w hK => ?_)
  obtain ⟨rfl, rfl⟩ := hK
  refine ⟨rfl, ?_⟩
  dsimp only [puts, List.set, Option.toList, List.cons_append, List.nil_append, List.append_nil]
  refine g_icmp_eq (t := 699) dL_law_395 (by decide) rfl (fun h395 => ?_) (fun h395 => ?_)
  · skip
    refine g_cong (g := fI (cutG gs)) 16 rfl (cutG_fI gs) rfl ?_
    dsimp only [List.set]
    refine g_cong (g := fS (cutT T, nI 0, -1)) 63 rfl (cutT_fS T (nI 0, -1)) rfl ?_
    dsimp only [List.set]
    exact hK st fp len fcn ai fa0 fp0 pt hm sn fb fF fn T gs w a r F2 C2 V2 E2 N2 S2 sfs sfw sfa sfr (cutG gs, nI 0, -1) sd fim s0 s1 d0 d1 fk n fc ff gt ot dt f0t gI last once ag af stp g0 o0 z0 g1 o1 z1 g2 o2 z2 g3 o3 z3 g4 o4 z4 g5 o5 z5 u0 u1 u2 u3 u4 u5 frr f9 far qf fg ffn rx fo ftn gr or_ dr f0r t zd at_ so sta sz fl iha isn ru fx fd (cutT T, nI 0, -1) fnow fi64 fz fkm fwm ffm fr6 fb6 tu6 tx who frs hT hP hL (hP.told) h0 h1 hN hC hX
  · exact absurd (congrArg Prod.fst h2) h395
set_option maxRecDepth 20000 in
set_option maxHeartbeats 4000000 in
theorem law_16 (sk A : Nat → Nat) (yy : MethodName) {i : Nat} (hi : i + 4 ≤ sk 11) (hL11 : sk 11 ≤ 256) (hK : ∀ (st : Bool) (fp : Int32) (len fcn : Nat) (ai fa0 fp0 : Int32) (pt hm sn : Bool) (fb fF fn : Nat → Int32) (T : Nat → Nat) (gs : Nat → Int32) (w a r : Nat → Nat) (F2 C2 V2 E2 N2 S2 : Int32) (sfs sfw sfa sfr : Nat → Int32) (s : PSt) (sd : Int32) (fim : Nat → Option Nat) (s0 s1 : PSt) (d0 d1 : Int32) (fk : Nat → Int32) (n : Nat) (fc ff : Nat → Int32) (gt ot dt : Int32) (f0t : Nat → Int32) (gI last : Int32) (once : Bool) (ag : Int32) (af : Bool) (stp : Nat → Option Nat) (g0 o0 z0 g1 o1 z1 g2 o2 z2 g3 o3 z3 g4 o4 z4 g5 o5 z5 : Int32) (u0 u1 u2 u3 u4 u5 frr f9 : Nat → Int32) (far : Nat → Option Nat) (qf : Nat → Nat → Int32) (fg ffn : Nat → Int32) (rx : Int32) (fo : Bool) (ftn : Nat → Int32) (gr or_ dr : Int32) (f0r : Nat → Int32) (t : PSt) (zd at_ so sta sz fl : Int32) (iha isn : Bool) (ru : Int32) (fx fd : Nat → Int32) (sm : PSt) (fnow fi64 fz fkm fwm ffm fr6 fb6 tu6 : Nat → Int32) (tx who frs : Nat → Nat), IText len tx fb fx → IPlan T w a r gs → SlB sfs → ISt (T 0) s sm → IImg (T 0) 0 s0 d0 fk fkm fi64 fz → IImg (T 0) 1 s1 d1 fk fkm fi64 fz → IList (T 1) n who frs fc ff fwm ffm → ICache T w a r st t ag af f9 fg ffn qf rx fo ftn → IFix A fim stp far → GG sk RL yy cL_law 4 (some .boolean) 100 73 1816 PLaw 73 1816 699 [some (.ref (sk 10)), some (.ref (A 0)), some (.ref (A 59)), some (.int (nI i))] [] [oMain (A 0) (A 1) (A 5) (A 10) (A 15) (A 17) (A 22) (A 23) (A 28) (A 53) (A 57) st fp, oReader (A 1) (A 2) (A 3) (A 4) (nI len) ai fa0 fp0 (nI fcn) pt hm sn, cB (A 2) 400 fb, cZ (A 3) 30 fF, cI (A 4) 3 fn, oPlan (A 5) (A 6) (A 7) (A 8) (A 9) (nI (T 0)) (nI (T 1)) (nI (T 2)) (nI (T 3)) (nI (T 4)) (nI (T 5)), cI (A 6) 30 gs, cI (A 7) 6 (fI w), cI (A 8) 6 (fI a), cI (A 9) 6 (fI r), oPlan (A 10) (A 11) (A 12) (A 13) (A 14) F2 C2 V2 E2 N2 S2, cI (A 11) 30 sfs, cI (A 12) 6 sfw, cI (A 13) 6 sfa, cI (A 14) 6 sfr, oPoleS (A 15) (A 16) s sd, cI (A 16) 30 (fI s.1), cP (A 17) 2 fim, oPoleS (A 18) (A 19) s0 d0, cI (A 19) 30 (fI s0.1), oPoleS (A 20) (A 21) s1 d1, cI (A 21) 30 (fI s1.1), cZ (A 22) 2 fk, oTale (A 23) (A 24) (A 25) (A 26) (nI n), cI (A 24) 12 fc, cI (A 25) 12 ff, oPole (A 26) (A 27) gt ot dt, cI (A 27) 30 f0t, oRows (A 28) (A 29) (A 42) gI last once (A 43) ag af (A 44) (A 51) (A 52), cP (A 29) 6 stp, oPole (A 30) (A 31) g0 o0 z0, cI (A 31) 30 u0, oPole (A 32) (A 33) g1 o1 z1, cI (A 33) 30 u1, oPole (A 34) (A 35) g2 o2 z2, cI (A 35) 30 u2, oPole (A 36) (A 37) g3 o3 z3, cI (A 37) 30 u3, oPole (A 38) (A 39) g4 o4 z4, cI (A 39) 30 u4, oPole (A 40) (A 41) g5 o5 z5, cI (A 41) 30 u5, cI (A 42) 6 frr, cI (A 43) 6 f9, cA (A 44) 6 far, cI (A 45) 6 (qf 0), cI (A 46) 6 (qf 1), cI (A 47) 6 (qf 2), cI (A 48) 6 (qf 3), cI (A 49) 6 (qf 4), cI (A 50) 6 (qf 5), cI (A 51) 6 fg, cZ (A 52) 6 ffn, oRests (A 53) (A 54) (A 55) rx fo, cI (A 54) 6 ftn, oPole (A 55) (A 56) gr or_ dr, cI (A 56) 30 f0r, oPoleS (A 57) (A 58) t zd, cI (A 58) 30 (fI t.1), oMod (A 59) (A 60) (nI len) (A 61) (A 62) (A 63) (A 64) (A 65) (A 66) (A 67) (A 68) (A 69) (nI n) sd fp at_ so sta sz fl iha isn ru (A 70) (A 71) (A 72), cI (A 60) 400 fx, cI (A 61) 56 (fI T), cI (A 62) 56 fd, cI (A 63) 32 (fS sm), cI (A 64) 32 fnow, cI (A 65) 64 fi64, cI (A 66) 2 fz, cZ (A 67) 2 fkm, cI (A 68) 12 fwm, cI (A 69) 12 ffm, cI (A 70) 6 fr6, cI (A 71) 6 fb6, cI (A 72) 6 tu6]) {st : Bool} {fp : Int32} {len fcn : Nat} {ai fa0 fp0 : Int32} {pt hm sn : Bool} {fb fF fn : Nat → Int32} {T : Nat → Nat} {gs : Nat → Int32} {w a r : Nat → Nat} {F2 C2 V2 E2 N2 S2 : Int32} {sfs sfw sfa sfr : Nat → Int32} {s : PSt} {sd : Int32} {fim : Nat → Option Nat} {s0 s1 : PSt} {d0 d1 : Int32} {fk : Nat → Int32} {n : Nat} {fc ff : Nat → Int32} {gt ot dt : Int32} {f0t : Nat → Int32} {gI last : Int32} {once : Bool} {ag : Int32} {af : Bool} {stp : Nat → Option Nat} {g0 o0 z0 g1 o1 z1 g2 o2 z2 g3 o3 z3 g4 o4 z4 g5 o5 z5 : Int32} {u0 u1 u2 u3 u4 u5 frr f9 : Nat → Int32} {far : Nat → Option Nat} {qf : Nat → Nat → Int32} {fg ffn : Nat → Int32} {rx : Int32} {fo : Bool} {ftn : Nat → Int32} {gr or_ dr : Int32} {f0r : Nat → Int32} {t : PSt} {zd at_ so sta sz fl : Int32} {iha isn : Bool} {ru : Int32} {fx fd : Nat → Int32} {sm : PSt} {fnow fi64 fz fkm fwm ffm fr6 fb6 tu6 : Nat → Int32} {tx who frs : Nat → Nat} (hT : IText len tx fb fx) (hP : IPlan T w a r gs) (hL : SlB sfs) (hS : ISt (T 0) s sm) (h0 : IImg (T 0) 0 s0 d0 fk fkm fi64 fz) (h1 : IImg (T 0) 1 s1 d1 fk fkm fi64 fz) (hN : IList (T 1) n who frs fc ff fwm ffm) (hC : ICache T w a r st t ag af f9 fg ffn qf rx fo ftn) (hX : IFix A fim stp far) : GG sk RL yy cL_law 4 (some .boolean) 100 73 1816 PLaw 73 1816 568 [some (.ref (sk 10)), some (.ref (A 0)), some (.ref (A 59)), some (.int (nI i))] [] [oMain (A 0) (A 1) (A 5) (A 10) (A 15) (A 17) (A 22) (A 23) (A 28) (A 53) (A 57) st fp, oReader (A 1) (A 2) (A 3) (A 4) (nI len) ai fa0 fp0 (nI fcn) pt hm sn, cB (A 2) 400 fb, cZ (A 3) 30 fF, cI (A 4) 3 fn, oPlan (A 5) (A 6) (A 7) (A 8) (A 9) (nI (T 0)) (nI (T 1)) (nI (T 2)) (nI (T 3)) (nI (T 4)) (nI (T 5)), cI (A 6) 30 gs, cI (A 7) 6 (fI w), cI (A 8) 6 (fI a), cI (A 9) 6 (fI r), oPlan (A 10) (A 11) (A 12) (A 13) (A 14) F2 C2 V2 E2 N2 S2, cI (A 11) 30 sfs, cI (A 12) 6 sfw, cI (A 13) 6 sfa, cI (A 14) 6 sfr, oPoleS (A 15) (A 16) s sd, cI (A 16) 30 (fI s.1), cP (A 17) 2 fim, oPoleS (A 18) (A 19) s0 d0, cI (A 19) 30 (fI s0.1), oPoleS (A 20) (A 21) s1 d1, cI (A 21) 30 (fI s1.1), cZ (A 22) 2 fk, oTale (A 23) (A 24) (A 25) (A 26) (nI n), cI (A 24) 12 fc, cI (A 25) 12 ff, oPole (A 26) (A 27) gt ot dt, cI (A 27) 30 f0t, oRows (A 28) (A 29) (A 42) gI last once (A 43) ag af (A 44) (A 51) (A 52), cP (A 29) 6 stp, oPole (A 30) (A 31) g0 o0 z0, cI (A 31) 30 u0, oPole (A 32) (A 33) g1 o1 z1, cI (A 33) 30 u1, oPole (A 34) (A 35) g2 o2 z2, cI (A 35) 30 u2, oPole (A 36) (A 37) g3 o3 z3, cI (A 37) 30 u3, oPole (A 38) (A 39) g4 o4 z4, cI (A 39) 30 u4, oPole (A 40) (A 41) g5 o5 z5, cI (A 41) 30 u5, cI (A 42) 6 frr, cI (A 43) 6 f9, cA (A 44) 6 far, cI (A 45) 6 (qf 0), cI (A 46) 6 (qf 1), cI (A 47) 6 (qf 2), cI (A 48) 6 (qf 3), cI (A 49) 6 (qf 4), cI (A 50) 6 (qf 5), cI (A 51) 6 fg, cZ (A 52) 6 ffn, oRests (A 53) (A 54) (A 55) rx fo, cI (A 54) 6 ftn, oPole (A 55) (A 56) gr or_ dr, cI (A 56) 30 f0r, oPoleS (A 57) (A 58) t zd, cI (A 58) 30 (fI t.1), oMod (A 59) (A 60) (nI len) (A 61) (A 62) (A 63) (A 64) (A 65) (A 66) (A 67) (A 68) (A 69) (nI n) sd fp at_ so sta sz fl iha isn ru (A 70) (A 71) (A 72), cI (A 60) 400 fx, cI (A 61) 56 (fI T), cI (A 62) 56 fd, cI (A 63) 32 (fS sm), cI (A 64) 32 fnow, cI (A 65) 64 fi64, cI (A 66) 2 fz, cZ (A 67) 2 fkm, cI (A 68) 12 fwm, cI (A 69) 12 ffm, cI (A 70) 6 fr6, cI (A 71) 6 fb6, cI (A 72) 6 tu6] := by
  have hB := hP.PB
  have hW := hP.2.1
  have hF30 : T 0 ≤ 30 := hB.1
  have hC6 : T 1 ≤ 6 := hB.2.1
  have hQ := hP.1
  have hsb := hS.1
  have hns := hS.2.1
  have hmb := hS.2.2.1
  have h2 := hS.2.2.2.2.1
  refine g_aload_n dL_law_568 rfl rfl ?_
  refine g_callV (c_X6_tear sk) m_L_84 a_X6_tear dL_law_569 rfl [0, 23] rfl rfl 0 rfl rfl rfl (by decide) (by decide) (by decide) (by decide) (Nat.le_of_ble_eq_true rfl) (fun r w hK => ?_)
  obtain ⟨rfl, rfl⟩ := hK
  refine ⟨rfl, ?_⟩
  dsimp only [puts, List.set, Option.toList, List.cons_append, List.nil_append, List.append_nil]
  refine g_aload_n dL_law_572 rfl rfl ?_
  refine g_callV (c_X7_tear sk) m_L_87 a_X7_tear dL_law_573 rfl [59] rfl rfl 0 rfl rfl rfl (by decide) (by decide) (by decide) (by decide) (Nat.le_of_ble_eq_true rfl) (fun r w hK => ?_)
  obtain ⟨rfl, rfl⟩ := hK
  refine ⟨rfl, ?_⟩
  dsimp only [puts, List.set, Option.toList, List.cons_append, List.nil_append, List.append_nil]
  refine g_icmp_eq (t := 699) dL_law_576 (by decide) rfl (fun h576 => ?_) (fun h576 => ?_)
  · skip
    exact hK st fp len fcn ai fa0 fp0 pt hm sn fb fF fn T gs w a r F2 C2 V2 E2 N2 S2 sfs sfw sfa sfr s sd fim s0 s1 d0 d1 fk 0 fc ff gt ot dt f0t gI last once ag af stp g0 o0 z0 g1 o1 z1 g2 o2 z2 g3 o3 z3 g4 o4 z4 g5 o5 z5 u0 u1 u2 u3 u4 u5 frr f9 far qf fg ffn rx fo ftn gr or_ dr f0r t zd at_ so sta sz fl iha isn ru fx fd sm fnow fi64 fz fkm fwm ffm fr6 fb6 tu6 tx who frs hT hP hL hS h0 h1 (⟨Nat.zero_le _, fun i hi2 => absurd hi2 (Nat.not_lt_zero i)⟩) hC hX
  · exact absurd rfl h576
set_option maxRecDepth 20000 in
set_option maxHeartbeats 4000000 in
theorem law_20 (sk A : Nat → Nat) (yy : MethodName) {i : Nat} (hi : i + 4 ≤ sk 11) (hL11 : sk 11 ≤ 256) (hK : ∀ (st : Bool) (fp : Int32) (len fcn : Nat) (ai fa0 fp0 : Int32) (pt hm sn : Bool) (fb fF fn : Nat → Int32) (T : Nat → Nat) (gs : Nat → Int32) (w a r : Nat → Nat) (F2 C2 V2 E2 N2 S2 : Int32) (sfs sfw sfa sfr : Nat → Int32) (s : PSt) (sd : Int32) (fim : Nat → Option Nat) (s0 s1 : PSt) (d0 d1 : Int32) (fk : Nat → Int32) (n : Nat) (fc ff : Nat → Int32) (gt ot dt : Int32) (f0t : Nat → Int32) (gI last : Int32) (once : Bool) (ag : Int32) (af : Bool) (stp : Nat → Option Nat) (g0 o0 z0 g1 o1 z1 g2 o2 z2 g3 o3 z3 g4 o4 z4 g5 o5 z5 : Int32) (u0 u1 u2 u3 u4 u5 frr f9 : Nat → Int32) (far : Nat → Option Nat) (qf : Nat → Nat → Int32) (fg ffn : Nat → Int32) (rx : Int32) (fo : Bool) (ftn : Nat → Int32) (gr or_ dr : Int32) (f0r : Nat → Int32) (t : PSt) (zd at_ so sta sz fl : Int32) (iha isn : Bool) (ru : Int32) (fx fd : Nat → Int32) (sm : PSt) (fnow fi64 fz fkm fwm ffm fr6 fb6 tu6 : Nat → Int32) (tx who frs : Nat → Nat), IText len tx fb fx → IPlan T w a r gs → SlB sfs → ISt (T 0) s sm → IImg (T 0) 0 s0 d0 fk fkm fi64 fz → IImg (T 0) 1 s1 d1 fk fkm fi64 fz → IList (T 1) n who frs fc ff fwm ffm → ICache T w a r st t ag af f9 fg ffn qf rx fo ftn → IFix A fim stp far → GG sk RL yy cL_law 4 (some .boolean) 100 73 1816 PLaw 73 1816 699 [some (.ref (sk 10)), some (.ref (A 0)), some (.ref (A 59)), some (.int (nI i))] [] [oMain (A 0) (A 1) (A 5) (A 10) (A 15) (A 17) (A 22) (A 23) (A 28) (A 53) (A 57) st fp, oReader (A 1) (A 2) (A 3) (A 4) (nI len) ai fa0 fp0 (nI fcn) pt hm sn, cB (A 2) 400 fb, cZ (A 3) 30 fF, cI (A 4) 3 fn, oPlan (A 5) (A 6) (A 7) (A 8) (A 9) (nI (T 0)) (nI (T 1)) (nI (T 2)) (nI (T 3)) (nI (T 4)) (nI (T 5)), cI (A 6) 30 gs, cI (A 7) 6 (fI w), cI (A 8) 6 (fI a), cI (A 9) 6 (fI r), oPlan (A 10) (A 11) (A 12) (A 13) (A 14) F2 C2 V2 E2 N2 S2, cI (A 11) 30 sfs, cI (A 12) 6 sfw, cI (A 13) 6 sfa, cI (A 14) 6 sfr, oPoleS (A 15) (A 16) s sd, cI (A 16) 30 (fI s.1), cP (A 17) 2 fim, oPoleS (A 18) (A 19) s0 d0, cI (A 19) 30 (fI s0.1), oPoleS (A 20) (A 21) s1 d1, cI (A 21) 30 (fI s1.1), cZ (A 22) 2 fk, oTale (A 23) (A 24) (A 25) (A 26) (nI n), cI (A 24) 12 fc, cI (A 25) 12 ff, oPole (A 26) (A 27) gt ot dt, cI (A 27) 30 f0t, oRows (A 28) (A 29) (A 42) gI last once (A 43) ag af (A 44) (A 51) (A 52), cP (A 29) 6 stp, oPole (A 30) (A 31) g0 o0 z0, cI (A 31) 30 u0, oPole (A 32) (A 33) g1 o1 z1, cI (A 33) 30 u1, oPole (A 34) (A 35) g2 o2 z2, cI (A 35) 30 u2, oPole (A 36) (A 37) g3 o3 z3, cI (A 37) 30 u3, oPole (A 38) (A 39) g4 o4 z4, cI (A 39) 30 u4, oPole (A 40) (A 41) g5 o5 z5, cI (A 41) 30 u5, cI (A 42) 6 frr, cI (A 43) 6 f9, cA (A 44) 6 far, cI (A 45) 6 (qf 0), cI (A 46) 6 (qf 1), cI (A 47) 6 (qf 2), cI (A 48) 6 (qf 3), cI (A 49) 6 (qf 4), cI (A 50) 6 (qf 5), cI (A 51) 6 fg, cZ (A 52) 6 ffn, oRests (A 53) (A 54) (A 55) rx fo, cI (A 54) 6 ftn, oPole (A 55) (A 56) gr or_ dr, cI (A 56) 30 f0r, oPoleS (A 57) (A 58) t zd, cI (A 58) 30 (fI t.1), oMod (A 59) (A 60) (nI len) (A 61) (A 62) (A 63) (A 64) (A 65) (A 66) (A 67) (A 68) (A 69) (nI n) sd fp at_ so sta sz fl iha isn ru (A 70) (A 71) (A 72), cI (A 60) 400 fx, cI (A 61) 56 (fI T), cI (A 62) 56 fd, cI (A 63) 32 (fS sm), cI (A 64) 32 fnow, cI (A 65) 64 fi64, cI (A 66) 2 fz, cZ (A 67) 2 fkm, cI (A 68) 12 fwm, cI (A 69) 12 ffm, cI (A 70) 6 fr6, cI (A 71) 6 fb6, cI (A 72) 6 tu6]) {st : Bool} {fp : Int32} {len fcn : Nat} {ai fa0 fp0 : Int32} {pt hm sn : Bool} {fb fF fn : Nat → Int32} {T : Nat → Nat} {gs : Nat → Int32} {w a r : Nat → Nat} {F2 C2 V2 E2 N2 S2 : Int32} {sfs sfw sfa sfr : Nat → Int32} {s : PSt} {sd : Int32} {fim : Nat → Option Nat} {s0 s1 : PSt} {d0 d1 : Int32} {fk : Nat → Int32} {n : Nat} {fc ff : Nat → Int32} {gt ot dt : Int32} {f0t : Nat → Int32} {gI last : Int32} {once : Bool} {ag : Int32} {af : Bool} {stp : Nat → Option Nat} {g0 o0 z0 g1 o1 z1 g2 o2 z2 g3 o3 z3 g4 o4 z4 g5 o5 z5 : Int32} {u0 u1 u2 u3 u4 u5 frr f9 : Nat → Int32} {far : Nat → Option Nat} {qf : Nat → Nat → Int32} {fg ffn : Nat → Int32} {rx : Int32} {fo : Bool} {ftn : Nat → Int32} {gr or_ dr : Int32} {f0r : Nat → Int32} {t : PSt} {zd at_ so sta sz fl : Int32} {iha isn : Bool} {ru : Int32} {fx fd : Nat → Int32} {sm : PSt} {fnow fi64 fz fkm fwm ffm fr6 fb6 tu6 : Nat → Int32} {tx who frs : Nat → Nat} (hT : IText len tx fb fx) (hP : IPlan T w a r gs) (hL : SlB sfs) (hS : ISt (T 0) s sm) (h0 : IImg (T 0) 0 s0 d0 fk fkm fi64 fz) (h1 : IImg (T 0) 1 s1 d1 fk fkm fi64 fz) (hN : IList (T 1) n who frs fc ff fwm ffm) (hC : ICache T w a r st t ag af f9 fg ffn qf rx fo ftn) (hX : IFix A fim stp far) : GG sk RL yy cL_law 4 (some .boolean) 100 73 1816 PLaw 73 1816 630 [some (.ref (sk 10)), some (.ref (A 0)), some (.ref (A 59)), some (.int (nI i))] [] [oMain (A 0) (A 1) (A 5) (A 10) (A 15) (A 17) (A 22) (A 23) (A 28) (A 53) (A 57) st fp, oReader (A 1) (A 2) (A 3) (A 4) (nI len) ai fa0 fp0 (nI fcn) pt hm sn, cB (A 2) 400 fb, cZ (A 3) 30 fF, cI (A 4) 3 fn, oPlan (A 5) (A 6) (A 7) (A 8) (A 9) (nI (T 0)) (nI (T 1)) (nI (T 2)) (nI (T 3)) (nI (T 4)) (nI (T 5)), cI (A 6) 30 gs, cI (A 7) 6 (fI w), cI (A 8) 6 (fI a), cI (A 9) 6 (fI r), oPlan (A 10) (A 11) (A 12) (A 13) (A 14) F2 C2 V2 E2 N2 S2, cI (A 11) 30 sfs, cI (A 12) 6 sfw, cI (A 13) 6 sfa, cI (A 14) 6 sfr, oPoleS (A 15) (A 16) s sd, cI (A 16) 30 (fI s.1), cP (A 17) 2 fim, oPoleS (A 18) (A 19) s0 d0, cI (A 19) 30 (fI s0.1), oPoleS (A 20) (A 21) s1 d1, cI (A 21) 30 (fI s1.1), cZ (A 22) 2 fk, oTale (A 23) (A 24) (A 25) (A 26) (nI n), cI (A 24) 12 fc, cI (A 25) 12 ff, oPole (A 26) (A 27) gt ot dt, cI (A 27) 30 f0t, oRows (A 28) (A 29) (A 42) gI last once (A 43) ag af (A 44) (A 51) (A 52), cP (A 29) 6 stp, oPole (A 30) (A 31) g0 o0 z0, cI (A 31) 30 u0, oPole (A 32) (A 33) g1 o1 z1, cI (A 33) 30 u1, oPole (A 34) (A 35) g2 o2 z2, cI (A 35) 30 u2, oPole (A 36) (A 37) g3 o3 z3, cI (A 37) 30 u3, oPole (A 38) (A 39) g4 o4 z4, cI (A 39) 30 u4, oPole (A 40) (A 41) g5 o5 z5, cI (A 41) 30 u5, cI (A 42) 6 frr, cI (A 43) 6 f9, cA (A 44) 6 far, cI (A 45) 6 (qf 0), cI (A 46) 6 (qf 1), cI (A 47) 6 (qf 2), cI (A 48) 6 (qf 3), cI (A 49) 6 (qf 4), cI (A 50) 6 (qf 5), cI (A 51) 6 fg, cZ (A 52) 6 ffn, oRests (A 53) (A 54) (A 55) rx fo, cI (A 54) 6 ftn, oPole (A 55) (A 56) gr or_ dr, cI (A 56) 30 f0r, oPoleS (A 57) (A 58) t zd, cI (A 58) 30 (fI t.1), oMod (A 59) (A 60) (nI len) (A 61) (A 62) (A 63) (A 64) (A 65) (A 66) (A 67) (A 68) (A 69) (nI n) sd fp at_ so sta sz fl iha isn ru (A 70) (A 71) (A 72), cI (A 60) 400 fx, cI (A 61) 56 (fI T), cI (A 62) 56 fd, cI (A 63) 32 (fS sm), cI (A 64) 32 fnow, cI (A 65) 64 fi64, cI (A 66) 2 fz, cZ (A 67) 2 fkm, cI (A 68) 12 fwm, cI (A 69) 12 ffm, cI (A 70) 6 fr6, cI (A 71) 6 fb6, cI (A 72) 6 tu6] := by
  have hB := hP.PB
  have hW := hP.2.1
  have hF30 : T 0 ≤ 30 := hB.1
  have hC6 : T 1 ≤ 6 := hB.2.1
  have hQ := hP.1
  have hsb := hS.1
  have hns := hS.2.1
  have hmb := hS.2.2.1
  have h2 := hS.2.2.2.2.1
  obtain ⟨x1, hx1⟩ : ∃ x, nI (sk (12 + (i + 1))) = x := ⟨_, rfl⟩
  obtain ⟨x2, hx2⟩ : ∃ x, nI (sk (12 + (i + 2))) = x := ⟨_, rfl⟩
  obtain ⟨x3, hx3⟩ : ∃ x, nI (sk (12 + (i + 3))) = x := ⟨_, rfl⟩
  refine g_aload_n dL_law_630 rfl rfl ?_
  refine g_aload_n dL_law_631 rfl rfl ?_
  refine g_iload_n dL_law_632 rfl rfl ?_
  refine g_iconst (v := nI 1) dL_law_633 rfl (by decide) ?_
  refine g_iadd dL_law_634 rfl (nI_add _ _) ?_
  refine g_sld dL_law_635 rfl (by omega) hL11 hx1 ?_
  refine g_callV (c_X6_seed sk rfl) m_L_100 a_X6_seed dL_law_636 rfl [0, 15] rfl rfl 0 rfl rfl rfl (by decide) (by decide) (by decide) (by decide) (Nat.le_of_ble_eq_true rfl) (fun r w hK => ?_)
  obtain ⟨rfl, rfl⟩ := hK
  refine ⟨rfl, ?_⟩
  dsimp only [puts, List.set, Option.toList, List.cons_append, List.nil_append, List.append_nil]
  refine g_aload_n dL_law_639 rfl rfl ?_
  refine g_aload_n dL_law_640 rfl rfl ?_
  refine g_iload_n dL_law_641 rfl rfl ?_
  refine g_iconst (v := nI 1) dL_law_642 rfl (by decide) ?_
  refine g_iadd dL_law_643 rfl (nI_add _ _) ?_
  refine g_sld dL_law_644 rfl (by omega) hL11 hx1 ?_
  refine g_callV (c_X7_seed sk rfl) m_L_103 a_X7_seed dL_law_645 rfl [59] rfl rfl 0 rfl rfl rfl (by decide) (by decide) (by decide) (by decide) (Nat.le_of_ble_eq_true rfl) (fun r w hK => ?_)
  obtain ⟨rfl, rfl⟩ := hK
  refine ⟨rfl, ?_⟩
  dsimp only [puts, List.set, Option.toList, List.cons_append, List.nil_append, List.append_nil]
  refine g_icmp_eq (t := 699) dL_law_648 (by decide) rfl (fun h648 => ?_) (fun h648 => ?_)
  · skip
    exact hK st fp len fcn ai fa0 fp0 pt hm sn fb fF fn T gs w a r F2 C2 V2 E2 N2 S2 sfs sfw sfa sfr s (seedA x1 sd).2 fim s0 s1 d0 d1 fk n fc ff gt ot dt f0t gI last once ag af stp g0 o0 z0 g1 o1 z1 g2 o2 z2 g3 o3 z3 g4 o4 z4 g5 o5 z5 u0 u1 u2 u3 u4 u5 frr f9 far qf fg ffn rx fo ftn gr or_ dr f0r t zd at_ so sta sz fl iha isn ru fx fd sm fnow fi64 fz fkm fwm ffm fr6 fb6 tu6 tx who frs hT hP hL hS h0 h1 hN hC hX
  · exact absurd rfl h648
set_option maxRecDepth 20000 in
set_option maxHeartbeats 4000000 in
theorem law_0 (sk A : Nat → Nat) (yy : MethodName) {i : Nat} (hi : i + 4 ≤ sk 11) (hL11 : sk 11 ≤ 256) (hK : ∀ (st : Bool) (fp : Int32) (len fcn : Nat) (ai fa0 fp0 : Int32) (pt hm sn : Bool) (fb fF fn : Nat → Int32) (T : Nat → Nat) (gs : Nat → Int32) (w a r : Nat → Nat) (F2 C2 V2 E2 N2 S2 : Int32) (sfs sfw sfa sfr : Nat → Int32) (s : PSt) (sd : Int32) (fim : Nat → Option Nat) (s0 s1 : PSt) (d0 d1 : Int32) (fk : Nat → Int32) (n : Nat) (fc ff : Nat → Int32) (gt ot dt : Int32) (f0t : Nat → Int32) (gI last : Int32) (once : Bool) (ag : Int32) (af : Bool) (stp : Nat → Option Nat) (g0 o0 z0 g1 o1 z1 g2 o2 z2 g3 o3 z3 g4 o4 z4 g5 o5 z5 : Int32) (u0 u1 u2 u3 u4 u5 frr f9 : Nat → Int32) (far : Nat → Option Nat) (qf : Nat → Nat → Int32) (fg ffn : Nat → Int32) (rx : Int32) (fo : Bool) (ftn : Nat → Int32) (gr or_ dr : Int32) (f0r : Nat → Int32) (t : PSt) (zd at_ so sta sz fl : Int32) (iha isn : Bool) (ru : Int32) (fx fd : Nat → Int32) (sm : PSt) (fnow fi64 fz fkm fwm ffm fr6 fb6 tu6 : Nat → Int32) (tx who frs : Nat → Nat), IText len tx fb fx → IPlan T w a r gs → SlB sfs → ISt (T 0) s sm → IImg (T 0) 0 s0 d0 fk fkm fi64 fz → IImg (T 0) 1 s1 d1 fk fkm fi64 fz → IList (T 1) n who frs fc ff fwm ffm → ICache T w a r st t ag af f9 fg ffn qf rx fo ftn → IFix A fim stp far → GG sk RL yy cL_law 4 (some .boolean) 100 73 1816 PLaw 73 1816 699 [some (.ref (sk 10)), some (.ref (A 0)), some (.ref (A 59)), some (.int (nI i))] [] [oMain (A 0) (A 1) (A 5) (A 10) (A 15) (A 17) (A 22) (A 23) (A 28) (A 53) (A 57) st fp, oReader (A 1) (A 2) (A 3) (A 4) (nI len) ai fa0 fp0 (nI fcn) pt hm sn, cB (A 2) 400 fb, cZ (A 3) 30 fF, cI (A 4) 3 fn, oPlan (A 5) (A 6) (A 7) (A 8) (A 9) (nI (T 0)) (nI (T 1)) (nI (T 2)) (nI (T 3)) (nI (T 4)) (nI (T 5)), cI (A 6) 30 gs, cI (A 7) 6 (fI w), cI (A 8) 6 (fI a), cI (A 9) 6 (fI r), oPlan (A 10) (A 11) (A 12) (A 13) (A 14) F2 C2 V2 E2 N2 S2, cI (A 11) 30 sfs, cI (A 12) 6 sfw, cI (A 13) 6 sfa, cI (A 14) 6 sfr, oPoleS (A 15) (A 16) s sd, cI (A 16) 30 (fI s.1), cP (A 17) 2 fim, oPoleS (A 18) (A 19) s0 d0, cI (A 19) 30 (fI s0.1), oPoleS (A 20) (A 21) s1 d1, cI (A 21) 30 (fI s1.1), cZ (A 22) 2 fk, oTale (A 23) (A 24) (A 25) (A 26) (nI n), cI (A 24) 12 fc, cI (A 25) 12 ff, oPole (A 26) (A 27) gt ot dt, cI (A 27) 30 f0t, oRows (A 28) (A 29) (A 42) gI last once (A 43) ag af (A 44) (A 51) (A 52), cP (A 29) 6 stp, oPole (A 30) (A 31) g0 o0 z0, cI (A 31) 30 u0, oPole (A 32) (A 33) g1 o1 z1, cI (A 33) 30 u1, oPole (A 34) (A 35) g2 o2 z2, cI (A 35) 30 u2, oPole (A 36) (A 37) g3 o3 z3, cI (A 37) 30 u3, oPole (A 38) (A 39) g4 o4 z4, cI (A 39) 30 u4, oPole (A 40) (A 41) g5 o5 z5, cI (A 41) 30 u5, cI (A 42) 6 frr, cI (A 43) 6 f9, cA (A 44) 6 far, cI (A 45) 6 (qf 0), cI (A 46) 6 (qf 1), cI (A 47) 6 (qf 2), cI (A 48) 6 (qf 3), cI (A 49) 6 (qf 4), cI (A 50) 6 (qf 5), cI (A 51) 6 fg, cZ (A 52) 6 ffn, oRests (A 53) (A 54) (A 55) rx fo, cI (A 54) 6 ftn, oPole (A 55) (A 56) gr or_ dr, cI (A 56) 30 f0r, oPoleS (A 57) (A 58) t zd, cI (A 58) 30 (fI t.1), oMod (A 59) (A 60) (nI len) (A 61) (A 62) (A 63) (A 64) (A 65) (A 66) (A 67) (A 68) (A 69) (nI n) sd fp at_ so sta sz fl iha isn ru (A 70) (A 71) (A 72), cI (A 60) 400 fx, cI (A 61) 56 (fI T), cI (A 62) 56 fd, cI (A 63) 32 (fS sm), cI (A 64) 32 fnow, cI (A 65) 64 fi64, cI (A 66) 2 fz, cZ (A 67) 2 fkm, cI (A 68) 12 fwm, cI (A 69) 12 ffm, cI (A 70) 6 fr6, cI (A 71) 6 fb6, cI (A 72) 6 tu6]) {st : Bool} {fp : Int32} {len fcn : Nat} {ai fa0 fp0 : Int32} {pt hm sn : Bool} {fb fF fn : Nat → Int32} {T : Nat → Nat} {gs : Nat → Int32} {w a r : Nat → Nat} {F2 C2 V2 E2 N2 S2 : Int32} {sfs sfw sfa sfr : Nat → Int32} {s : PSt} {sd : Int32} {fim : Nat → Option Nat} {s0 s1 : PSt} {d0 d1 : Int32} {fk : Nat → Int32} {n : Nat} {fc ff : Nat → Int32} {gt ot dt : Int32} {f0t : Nat → Int32} {gI last : Int32} {once : Bool} {ag : Int32} {af : Bool} {stp : Nat → Option Nat} {g0 o0 z0 g1 o1 z1 g2 o2 z2 g3 o3 z3 g4 o4 z4 g5 o5 z5 : Int32} {u0 u1 u2 u3 u4 u5 frr f9 : Nat → Int32} {far : Nat → Option Nat} {qf : Nat → Nat → Int32} {fg ffn : Nat → Int32} {rx : Int32} {fo : Bool} {ftn : Nat → Int32} {gr or_ dr : Int32} {f0r : Nat → Int32} {t : PSt} {zd at_ so sta sz fl : Int32} {iha isn : Bool} {ru : Int32} {fx fd : Nat → Int32} {sm : PSt} {fnow fi64 fz fkm fwm ffm fr6 fb6 tu6 : Nat → Int32} {tx who frs : Nat → Nat} (hT : IText len tx fb fx) (hP : IPlan T w a r gs) (hL : SlB sfs) (hS : ISt (T 0) s sm) (h0 : IImg (T 0) 0 s0 d0 fk fkm fi64 fz) (h1 : IImg (T 0) 1 s1 d1 fk fkm fi64 fz) (hN : IList (T 1) n who frs fc ff fwm ffm) (hC : ICache T w a r st t ag af f9 fg ffn qf rx fo ftn) (hX : IFix A fim stp far) : GG sk RL yy cL_law 4 (some .boolean) 100 73 1816 PLaw 73 1816 140 [some (.ref (sk 10)), some (.ref (A 0)), some (.ref (A 59)), some (.int (nI i))] [] [oMain (A 0) (A 1) (A 5) (A 10) (A 15) (A 17) (A 22) (A 23) (A 28) (A 53) (A 57) st fp, oReader (A 1) (A 2) (A 3) (A 4) (nI len) ai fa0 fp0 (nI fcn) pt hm sn, cB (A 2) 400 fb, cZ (A 3) 30 fF, cI (A 4) 3 fn, oPlan (A 5) (A 6) (A 7) (A 8) (A 9) (nI (T 0)) (nI (T 1)) (nI (T 2)) (nI (T 3)) (nI (T 4)) (nI (T 5)), cI (A 6) 30 gs, cI (A 7) 6 (fI w), cI (A 8) 6 (fI a), cI (A 9) 6 (fI r), oPlan (A 10) (A 11) (A 12) (A 13) (A 14) F2 C2 V2 E2 N2 S2, cI (A 11) 30 sfs, cI (A 12) 6 sfw, cI (A 13) 6 sfa, cI (A 14) 6 sfr, oPoleS (A 15) (A 16) s sd, cI (A 16) 30 (fI s.1), cP (A 17) 2 fim, oPoleS (A 18) (A 19) s0 d0, cI (A 19) 30 (fI s0.1), oPoleS (A 20) (A 21) s1 d1, cI (A 21) 30 (fI s1.1), cZ (A 22) 2 fk, oTale (A 23) (A 24) (A 25) (A 26) (nI n), cI (A 24) 12 fc, cI (A 25) 12 ff, oPole (A 26) (A 27) gt ot dt, cI (A 27) 30 f0t, oRows (A 28) (A 29) (A 42) gI last once (A 43) ag af (A 44) (A 51) (A 52), cP (A 29) 6 stp, oPole (A 30) (A 31) g0 o0 z0, cI (A 31) 30 u0, oPole (A 32) (A 33) g1 o1 z1, cI (A 33) 30 u1, oPole (A 34) (A 35) g2 o2 z2, cI (A 35) 30 u2, oPole (A 36) (A 37) g3 o3 z3, cI (A 37) 30 u3, oPole (A 38) (A 39) g4 o4 z4, cI (A 39) 30 u4, oPole (A 40) (A 41) g5 o5 z5, cI (A 41) 30 u5, cI (A 42) 6 frr, cI (A 43) 6 f9, cA (A 44) 6 far, cI (A 45) 6 (qf 0), cI (A 46) 6 (qf 1), cI (A 47) 6 (qf 2), cI (A 48) 6 (qf 3), cI (A 49) 6 (qf 4), cI (A 50) 6 (qf 5), cI (A 51) 6 fg, cZ (A 52) 6 ffn, oRests (A 53) (A 54) (A 55) rx fo, cI (A 54) 6 ftn, oPole (A 55) (A 56) gr or_ dr, cI (A 56) 30 f0r, oPoleS (A 57) (A 58) t zd, cI (A 58) 30 (fI t.1), oMod (A 59) (A 60) (nI len) (A 61) (A 62) (A 63) (A 64) (A 65) (A 66) (A 67) (A 68) (A 69) (nI n) sd fp at_ so sta sz fl iha isn ru (A 70) (A 71) (A 72), cI (A 60) 400 fx, cI (A 61) 56 (fI T), cI (A 62) 56 fd, cI (A 63) 32 (fS sm), cI (A 64) 32 fnow, cI (A 65) 64 fi64, cI (A 66) 2 fz, cZ (A 67) 2 fkm, cI (A 68) 12 fwm, cI (A 69) 12 ffm, cI (A 70) 6 fr6, cI (A 71) 6 fb6, cI (A 72) 6 tu6] := by
  have hB := hP.PB
  have hW := hP.2.1
  have hF30 : T 0 ≤ 30 := hB.1
  have hC6 : T 1 ≤ 6 := hB.2.1
  have hQ := hP.1
  have hsb := hS.1
  have hns := hS.2.1
  have hmb := hS.2.2.1
  have h2 := hS.2.2.2.2.1
  obtain ⟨x1, hx1⟩ : ∃ x, nI (sk (12 + (i + 1))) = x := ⟨_, rfl⟩
  obtain ⟨x2, hx2⟩ : ∃ x, nI (sk (12 + (i + 2))) = x := ⟨_, rfl⟩
  obtain ⟨x3, hx3⟩ : ∃ x, nI (sk (12 + (i + 3))) = x := ⟨_, rfl⟩
  by_cases hx : x1 < nI 1 ∨ nI 8 < x1
  · skip
    refine g_aload_n dL_law_140 rfl rfl ?_
    refine g_aload_n dL_law_141 rfl rfl ?_
    refine g_iload_n dL_law_142 rfl rfl ?_
    refine g_iconst (v := nI 1) dL_law_143 rfl (by decide) ?_
    refine g_iadd dL_law_144 rfl (nI_add _ _) ?_
    refine g_sld dL_law_145 rfl (by omega) hL11 hx1 ?_
    refine g_aload_n dL_law_146 rfl rfl ?_
    refine g_iload_n dL_law_147 rfl rfl ?_
    refine g_iconst (v := nI 2) dL_law_148 rfl (by decide) ?_
    refine g_iadd dL_law_149 rfl (nI_add _ _) ?_
    refine g_sld dL_law_150 rfl (by omega) hL11 hx2 ?_
    refine g_i2l dL_law_151 rfl rfl ?_
    refine g_bipush (v := nI 32) dL_law_152 rfl (by decide) ?_
    refine g_lshl dL_law_154 rfl rfl ?_
    refine g_aload_n dL_law_155 rfl rfl ?_
    refine g_iload_n dL_law_156 rfl rfl ?_
    refine g_iconst (v := nI 3) dL_law_157 rfl (by decide) ?_
    refine g_iadd dL_law_158 rfl (nI_add _ _) ?_
    refine g_sld dL_law_159 rfl (by omega) hL11 hx3 ?_
    refine g_i2l dL_law_160 rfl rfl ?_
    refine g_ldc2 dL_law_161 rfl k_L_13 ?_
    refine g_land dL_law_164 rfl rfl ?_
    refine g_lor dL_law_165 rfl rfl ?_
    refine g_callV (c_X6_feedN sk (tx0 := tx) hx) m_L_15 a_X6_feed dL_law_166 rfl [0, 1, 2] rfl rfl 0 rfl rfl rfl (by decide) (by decide) (by decide) (by decide) (Nat.le_of_ble_eq_true rfl) (fun r w hK => ?_)
    obtain ⟨rfl, rfl⟩ := hK
    refine ⟨rfl, ?_⟩
    dsimp only [puts, List.set, Option.toList, List.cons_append, List.nil_append, List.append_nil]
    refine g_aload_n dL_law_169 rfl rfl ?_
    refine g_aload_n dL_law_170 rfl rfl ?_
    refine g_iload_n dL_law_171 rfl rfl ?_
    refine g_iconst (v := nI 1) dL_law_172 rfl (by decide) ?_
    refine g_iadd dL_law_173 rfl (nI_add _ _) ?_
    refine g_sld dL_law_174 rfl (by omega) hL11 hx1 ?_
    refine g_aload_n dL_law_175 rfl rfl ?_
    refine g_iload_n dL_law_176 rfl rfl ?_
    refine g_iconst (v := nI 2) dL_law_177 rfl (by decide) ?_
    refine g_iadd dL_law_178 rfl (nI_add _ _) ?_
    refine g_sld dL_law_179 rfl (by omega) hL11 hx2 ?_
    refine g_i2l dL_law_180 rfl rfl ?_
    refine g_bipush (v := nI 32) dL_law_181 rfl (by decide) ?_
    refine g_lshl dL_law_183 rfl rfl ?_
    refine g_aload_n dL_law_184 rfl rfl ?_
    refine g_iload_n dL_law_185 rfl rfl ?_
    refine g_iconst (v := nI 3) dL_law_186 rfl (by decide) ?_
    refine g_iadd dL_law_187 rfl (nI_add _ _) ?_
    refine g_sld dL_law_188 rfl (by omega) hL11 hx3 ?_
    refine g_i2l dL_law_189 rfl rfl ?_
    refine g_ldc2 dL_law_190 rfl k_L_13 ?_
    refine g_land dL_law_193 rfl rfl ?_
    refine g_lor dL_law_194 rfl rfl ?_
    refine g_callV (c_X7_feedN sk hx) m_L_19 a_X7_feed dL_law_195 rfl [59, 60] rfl rfl 0 rfl rfl rfl (by decide) (by decide) (by decide) (by decide) (Nat.le_of_ble_eq_true rfl) (fun r w hK => ?_)
    obtain ⟨rfl, rfl⟩ := hK
    refine ⟨rfl, ?_⟩
    dsimp only [puts, List.set, Option.toList, List.cons_append, List.nil_append, List.append_nil]
    refine g_icmp_eq (t := 699) dL_law_198 (by decide) rfl (fun h198 => ?_) (fun h198 => ?_)
    · skip
      exact hK st fp len fcn ai fa0 fp0 pt hm sn fb fF fn T gs w a r F2 C2 V2 E2 N2 S2 sfs sfw sfa sfr s sd fim s0 s1 d0 d1 fk n fc ff gt ot dt f0t gI last once ag af stp g0 o0 z0 g1 o1 z1 g2 o2 z2 g3 o3 z3 g4 o4 z4 g5 o5 z5 u0 u1 u2 u3 u4 u5 frr f9 far qf fg ffn rx fo ftn gr or_ dr f0r t zd at_ so sta sz fl iha isn ru fx fd sm fnow fi64 fz fkm fwm ffm fr6 fb6 tu6 tx who frs hT hP hL hS h0 h1 hN hC hX
    · exact absurd rfl h198
  · skip
    obtain ⟨j, rfl, hj1, hj8⟩ := nI_rng (by decide) (by decide) hx
    by_cases h4 : 400 < len + j
    · skip
      refine g_aload_n dL_law_140 rfl rfl ?_
      refine g_aload_n dL_law_141 rfl rfl ?_
      refine g_iload_n dL_law_142 rfl rfl ?_
      refine g_iconst (v := nI 1) dL_law_143 rfl (by decide) ?_
      refine g_iadd dL_law_144 rfl (nI_add _ _) ?_
      refine g_sld dL_law_145 rfl (by omega) hL11 hx1 ?_
      refine g_aload_n dL_law_146 rfl rfl ?_
      refine g_iload_n dL_law_147 rfl rfl ?_
      refine g_iconst (v := nI 2) dL_law_148 rfl (by decide) ?_
      refine g_iadd dL_law_149 rfl (nI_add _ _) ?_
      refine g_sld dL_law_150 rfl (by omega) hL11 hx2 ?_
      refine g_i2l dL_law_151 rfl rfl ?_
      refine g_bipush (v := nI 32) dL_law_152 rfl (by decide) ?_
      refine g_lshl dL_law_154 rfl rfl ?_
      refine g_aload_n dL_law_155 rfl rfl ?_
      refine g_iload_n dL_law_156 rfl rfl ?_
      refine g_iconst (v := nI 3) dL_law_157 rfl (by decide) ?_
      refine g_iadd dL_law_158 rfl (nI_add _ _) ?_
      refine g_sld dL_law_159 rfl (by omega) hL11 hx3 ?_
      refine g_i2l dL_law_160 rfl rfl ?_
      refine g_ldc2 dL_law_161 rfl k_L_13 ?_
      refine g_land dL_law_164 rfl rfl ?_
      refine g_lor dL_law_165 rfl rfl ?_
      refine g_callV (c_X6_feedF sk (tx0 := tx) ⟨hj1, hj8⟩ hT.1 h4) m_L_15 a_X6_feed dL_law_166 rfl [0, 1, 2] rfl rfl 0 rfl rfl rfl (by decide) (by decide) (by decide) (by decide) (Nat.le_of_ble_eq_true rfl) (fun r w hK => ?_)
      obtain ⟨rfl, rfl⟩ := hK
      refine ⟨rfl, ?_⟩
      dsimp only [puts, List.set, Option.toList, List.cons_append, List.nil_append, List.append_nil]
      refine g_aload_n dL_law_169 rfl rfl ?_
      refine g_aload_n dL_law_170 rfl rfl ?_
      refine g_iload_n dL_law_171 rfl rfl ?_
      refine g_iconst (v := nI 1) dL_law_172 rfl (by decide) ?_
      refine g_iadd dL_law_173 rfl (nI_add _ _) ?_
      refine g_sld dL_law_174 rfl (by omega) hL11 hx1 ?_
      refine g_aload_n dL_law_175 rfl rfl ?_
      refine g_iload_n dL_law_176 rfl rfl ?_
      refine g_iconst (v := nI 2) dL_law_177 rfl (by decide) ?_
      refine g_iadd dL_law_178 rfl (nI_add _ _) ?_
      refine g_sld dL_law_179 rfl (by omega) hL11 hx2 ?_
      refine g_i2l dL_law_180 rfl rfl ?_
      refine g_bipush (v := nI 32) dL_law_181 rfl (by decide) ?_
      refine g_lshl dL_law_183 rfl rfl ?_
      refine g_aload_n dL_law_184 rfl rfl ?_
      refine g_iload_n dL_law_185 rfl rfl ?_
      refine g_iconst (v := nI 3) dL_law_186 rfl (by decide) ?_
      refine g_iadd dL_law_187 rfl (nI_add _ _) ?_
      refine g_sld dL_law_188 rfl (by omega) hL11 hx3 ?_
      refine g_i2l dL_law_189 rfl rfl ?_
      refine g_ldc2 dL_law_190 rfl k_L_13 ?_
      refine g_land dL_law_193 rfl rfl ?_
      refine g_lor dL_law_194 rfl rfl ?_
      refine g_callV (c_X7_feedF sk ⟨hj1, hj8⟩ hT.1 h4) m_L_19 a_X7_feed dL_law_195 rfl [59, 60] rfl rfl 0 rfl rfl rfl (by decide) (by decide) (by decide) (by decide) (Nat.le_of_ble_eq_true rfl) (fun r w hK => ?_)
      obtain ⟨rfl, rfl⟩ := hK
      refine ⟨rfl, ?_⟩
      dsimp only [puts, List.set, Option.toList, List.cons_append, List.nil_append, List.append_nil]
      refine g_icmp_eq (t := 699) dL_law_198 (by decide) rfl (fun h198 => ?_) (fun h198 => ?_)
      · skip
        exact hK st fp len fcn ai fa0 fp0 pt hm sn fb fF fn T gs w a r F2 C2 V2 E2 N2 S2 sfs sfw sfa sfr s sd fim s0 s1 d0 d1 fk n fc ff gt ot dt f0t gI last once ag af stp g0 o0 z0 g1 o1 z1 g2 o2 z2 g3 o3 z3 g4 o4 z4 g5 o5 z5 u0 u1 u2 u3 u4 u5 frr f9 far qf fg ffn rx fo ftn gr or_ dr f0r t zd at_ so sta sz fl iha isn ru fx fd sm fnow fi64 fz fkm fwm ffm fr6 fb6 tu6 tx who frs hT hP hL hS h0 h1 hN hC hX
      · exact absurd rfl h198
    · skip
      refine g_aload_n dL_law_140 rfl rfl ?_
      refine g_aload_n dL_law_141 rfl rfl ?_
      refine g_iload_n dL_law_142 rfl rfl ?_
      refine g_iconst (v := nI 1) dL_law_143 rfl (by decide) ?_
      refine g_iadd dL_law_144 rfl (nI_add _ _) ?_
      refine g_sld dL_law_145 rfl (by omega) hL11 hx1 ?_
      refine g_aload_n dL_law_146 rfl rfl ?_
      refine g_iload_n dL_law_147 rfl rfl ?_
      refine g_iconst (v := nI 2) dL_law_148 rfl (by decide) ?_
      refine g_iadd dL_law_149 rfl (nI_add _ _) ?_
      refine g_sld dL_law_150 rfl (by omega) hL11 hx2 ?_
      refine g_i2l dL_law_151 rfl rfl ?_
      refine g_bipush (v := nI 32) dL_law_152 rfl (by decide) ?_
      refine g_lshl dL_law_154 rfl rfl ?_
      refine g_aload_n dL_law_155 rfl rfl ?_
      refine g_iload_n dL_law_156 rfl rfl ?_
      refine g_iconst (v := nI 3) dL_law_157 rfl (by decide) ?_
      refine g_iadd dL_law_158 rfl (nI_add _ _) ?_
      refine g_sld dL_law_159 rfl (by omega) hL11 hx3 ?_
      refine g_i2l dL_law_160 rfl rfl ?_
      refine g_ldc2 dL_law_161 rfl k_L_13 ?_
      refine g_land dL_law_164 rfl rfl ?_
      refine g_lor dL_law_165 rfl rfl ?_
      refine g_callV (c_X6_feed sk ⟨hj1, hj8⟩ (show len + j ≤ 400 by omega) hT.2.1) m_L_15 a_X6_feed dL_law_166 rfl [0, 1, 2] rfl rfl 0 rfl rfl rfl (by decide) (by decide) (by decide) (by decide) (Nat.le_of_ble_eq_true rfl) (fun r w hK => ?_)
      obtain ⟨rfl, fb2, rfl, hb2⟩ := hK
      refine ⟨rfl, ?_⟩
      dsimp only [puts, List.set, Option.toList, List.cons_append, List.nil_append, List.append_nil]
      refine g_aload_n dL_law_169 rfl rfl ?_
      refine g_aload_n dL_law_170 rfl rfl ?_
      refine g_iload_n dL_law_171 rfl rfl ?_
      refine g_iconst (v := nI 1) dL_law_172 rfl (by decide) ?_
      refine g_iadd dL_law_173 rfl (nI_add _ _) ?_
      refine g_sld dL_law_174 rfl (by omega) hL11 hx1 ?_
      refine g_aload_n dL_law_175 rfl rfl ?_
      refine g_iload_n dL_law_176 rfl rfl ?_
      refine g_iconst (v := nI 2) dL_law_177 rfl (by decide) ?_
      refine g_iadd dL_law_178 rfl (nI_add _ _) ?_
      refine g_sld dL_law_179 rfl (by omega) hL11 hx2 ?_
      refine g_i2l dL_law_180 rfl rfl ?_
      refine g_bipush (v := nI 32) dL_law_181 rfl (by decide) ?_
      refine g_lshl dL_law_183 rfl rfl ?_
      refine g_aload_n dL_law_184 rfl rfl ?_
      refine g_iload_n dL_law_185 rfl rfl ?_
      refine g_iconst (v := nI 3) dL_law_186 rfl (by decide) ?_
      refine g_iadd dL_law_187 rfl (nI_add _ _) ?_
      refine g_sld dL_law_188 rfl (by omega) hL11 hx3 ?_
      refine g_i2l dL_law_189 rfl rfl ?_
      refine g_ldc2 dL_law_190 rfl k_L_13 ?_
      refine g_land dL_law_193 rfl rfl ?_
      refine g_lor dL_law_194 rfl rfl ?_
      refine g_callV (c_X7_feed sk ⟨hj1, hj8⟩ (show len + j ≤ 400 by omega) hT.2.2) m_L_19 a_X7_feed dL_law_195 rfl [59, 60] rfl rfl 0 rfl rfl rfl (by decide) (by decide) (by decide) (by decide) (Nat.le_of_ble_eq_true rfl) (fun r w hK => ?_)
      obtain ⟨rfl, fx2, rfl, hb3⟩ := hK
      refine ⟨rfl, ?_⟩
      dsimp only [puts, List.set, Option.toList, List.cons_append, List.nil_append, List.append_nil]
      refine g_icmp_eq (t := 699) dL_law_198 (by decide) rfl (fun h198 => ?_) (fun h198 => ?_)
      · skip
        exact hK st fp (len + j) fcn ai fa0 fp0 pt hm sn fb2 fF fn T gs w a r F2 C2 V2 E2 N2 S2 sfs sfw sfa sfr s sd fim s0 s1 d0 d1 fk n fc ff gt ot dt f0t gI last once ag af stp g0 o0 z0 g1 o1 z1 g2 o2 z2 g3 o3 z3 g4 o4 z4 g5 o5 z5 u0 u1 u2 u3 u4 u5 frr f9 far qf fg ffn rx fo ftn gr or_ dr f0r t zd at_ so sta sz fl iha isn ru fx2 fd sm fnow fi64 fz fkm fwm ffm fr6 fb6 tu6 (apF ((x2.toInt64 <<< ((nI 32).toInt64 &&& 63)) ||| (x3.toInt64 &&& 4294967295)) j len tx) who frs (⟨by omega, hb2, hb3⟩) hP hL hS h0 h1 hN hC hX
      · exact absurd rfl h198
