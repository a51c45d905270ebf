/-! THE LAW: pole, keep, goBack -/
set_option maxRecDepth 20000 in
set_option maxHeartbeats 4000000 in
theorem law_1 (sk A : Nat → Nat) (yy : MethodName) {i : Nat} (hi : i + 4 ≤ sk 11) (hL11 : sk 11 ≤ 256) (hK : ∀ (st : Bool) (fp : Int32) (len fcn : Nat) (ai fa0 fp0 : Int32) (pt hm sn : Bool) (fb fF fn : Nat → Int32) (T : Nat → Nat) (gs : Nat → Int32) (w a r : Nat → Nat) (F2 C2 V2 E2 N2 S2 : Int32) (sfs sfw sfa sfr : Nat → Int32) (s : PSt) (sd : Int32) (fim : Nat → Option Nat) (s0 s1 : PSt) (d0 d1 : Int32) (fk : Nat → Int32) (n : Nat) (fc ff : Nat → Int32) (gt ot dt : Int32) (f0t : Nat → Int32) (gI last : Int32) (once : Bool) (ag : Int32) (af : Bool) (stp : Nat → Option Nat) (g0 o0 z0 g1 o1 z1 g2 o2 z2 g3 o3 z3 g4 o4 z4 g5 o5 z5 : Int32) (u0 u1 u2 u3 u4 u5 frr f9 : Nat → Int32) (far : Nat → Option Nat) (qf : Nat → Nat → Int32) (fg ffn : Nat → Int32) (rx : Int32) (fo : Bool) (ftn : Nat → Int32) (gr or_ dr : Int32) (f0r : Nat → Int32) (t : PSt) (zd at_ so sta sz fl : Int32) (iha isn : Bool) (ru : Int32) (fx fd : Nat → Int32) (sm : PSt) (fnow fi64 fz fkm fwm ffm fr6 fb6 tu6 : Nat → Int32) (tx who frs : Nat → Nat), IText len tx fb fx → IPlan T w a r gs → SlB sfs → ISt (T 0) s sm → IImg (T 0) 0 s0 d0 fk fkm fi64 fz → IImg (T 0) 1 s1 d1 fk fkm fi64 fz → IList (T 1) n who frs fc ff fwm ffm → ICache T w a r st t ag af f9 fg ffn qf rx fo ftn → IFix A fim stp far → GG sk RL yy cL_law 4 (some .boolean) 100 73 1816 PLaw 73 1816 699 [some (.ref (sk 10)), some (.ref (A 0)), some (.ref (A 59)), some (.int (nI i))] [] [oMain (A 0) (A 1) (A 5) (A 10) (A 15) (A 17) (A 22) (A 23) (A 28) (A 53) (A 57) st fp, oReader (A 1) (A 2) (A 3) (A 4) (nI len) ai fa0 fp0 (nI fcn) pt hm sn, cB (A 2) 400 fb, cZ (A 3) 30 fF, cI (A 4) 3 fn, oPlan (A 5) (A 6) (A 7) (A 8) (A 9) (nI (T 0)) (nI (T 1)) (nI (T 2)) (nI (T 3)) (nI (T 4)) (nI (T 5)), cI (A 6) 30 gs, cI (A 7) 6 (fI w), cI (A 8) 6 (fI a), cI (A 9) 6 (fI r), oPlan (A 10) (A 11) (A 12) (A 13) (A 14) F2 C2 V2 E2 N2 S2, cI (A 11) 30 sfs, cI (A 12) 6 sfw, cI (A 13) 6 sfa, cI (A 14) 6 sfr, oPoleS (A 15) (A 16) s sd, cI (A 16) 30 (fI s.1), cP (A 17) 2 fim, oPoleS (A 18) (A 19) s0 d0, cI (A 19) 30 (fI s0.1), oPoleS (A 20) (A 21) s1 d1, cI (A 21) 30 (fI s1.1), cZ (A 22) 2 fk, oTale (A 23) (A 24) (A 25) (A 26) (nI n), cI (A 24) 12 fc, cI (A 25) 12 ff, oPole (A 26) (A 27) gt ot dt, cI (A 27) 30 f0t, oRows (A 28) (A 29) (A 42) gI last once (A 43) ag af (A 44) (A 51) (A 52), cP (A 29) 6 stp, oPole (A 30) (A 31) g0 o0 z0, cI (A 31) 30 u0, oPole (A 32) (A 33) g1 o1 z1, cI (A 33) 30 u1, oPole (A 34) (A 35) g2 o2 z2, cI (A 35) 30 u2, oPole (A 36) (A 37) g3 o3 z3, cI (A 37) 30 u3, oPole (A 38) (A 39) g4 o4 z4, cI (A 39) 30 u4, oPole (A 40) (A 41) g5 o5 z5, cI (A 41) 30 u5, cI (A 42) 6 frr, cI (A 43) 6 f9, cA (A 44) 6 far, cI (A 45) 6 (qf 0), cI (A 46) 6 (qf 1), cI (A 47) 6 (qf 2), cI (A 48) 6 (qf 3), cI (A 49) 6 (qf 4), cI (A 50) 6 (qf 5), cI (A 51) 6 fg, cZ (A 52) 6 ffn, oRests (A 53) (A 54) (A 55) rx fo, cI (A 54) 6 ftn, oPole (A 55) (A 56) gr or_ dr, cI (A 56) 30 f0r, oPoleS (A 57) (A 58) t zd, cI (A 58) 30 (fI t.1), oMod (A 59) (A 60) (nI len) (A 61) (A 62) (A 63) (A 64) (A 65) (A 66) (A 67) (A 68) (A 69) (nI n) sd fp at_ so sta sz fl iha isn ru (A 70) (A 71) (A 72), cI (A 60) 400 fx, cI (A 61) 56 (fI T), cI (A 62) 56 fd, cI (A 63) 32 (fS sm), cI (A 64) 32 fnow, cI (A 65) 64 fi64, cI (A 66) 2 fz, cZ (A 67) 2 fkm, cI (A 68) 12 fwm, cI (A 69) 12 ffm, cI (A 70) 6 fr6, cI (A 71) 6 fb6, cI (A 72) 6 tu6]) {st : Bool} {fp : Int32} {len fcn : Nat} {ai fa0 fp0 : Int32} {pt hm sn : Bool} {fb fF fn : Nat → Int32} {T : Nat → Nat} {gs : Nat → Int32} {w a r : Nat → Nat} {F2 C2 V2 E2 N2 S2 : Int32} {sfs sfw sfa sfr : Nat → Int32} {s : PSt} {sd : Int32} {fim : Nat → Option Nat} {s0 s1 : PSt} {d0 d1 : Int32} {fk : Nat → Int32} {n : Nat} {fc ff : Nat → Int32} {gt ot dt : Int32} {f0t : Nat → Int32} {gI last : Int32} {once : Bool} {ag : Int32} {af : Bool} {stp : Nat → Option Nat} {g0 o0 z0 g1 o1 z1 g2 o2 z2 g3 o3 z3 g4 o4 z4 g5 o5 z5 : Int32} {u0 u1 u2 u3 u4 u5 frr f9 : Nat → Int32} {far : Nat → Option Nat} {qf : Nat → Nat → Int32} {fg ffn : Nat → Int32} {rx : Int32} {fo : Bool} {ftn : Nat → Int32} {gr or_ dr : Int32} {f0r : Nat → Int32} {t : PSt} {zd at_ so sta sz fl : Int32} {iha isn : Bool} {ru : Int32} {fx fd : Nat → Int32} {sm : PSt} {fnow fi64 fz fkm fwm ffm fr6 fb6 tu6 : Nat → Int32} {tx who frs : Nat → Nat} (hT : IText len tx fb fx) (hP : IPlan T w a r gs) (hL : SlB sfs) (hS : ISt (T 0) s sm) (h0 : IImg (T 0) 0 s0 d0 fk fkm fi64 fz) (h1 : IImg (T 0) 1 s1 d1 fk fkm fi64 fz) (hN : IList (T 1) n who frs fc ff fwm ffm) (hC : ICache T w a r st t ag af f9 fg ffn qf rx fo ftn) (hX : IFix A fim stp far) : GG sk RL yy cL_law 4 (some .boolean) 100 73 1816 PLaw 73 1816 203 [some (.ref (sk 10)), some (.ref (A 0)), some (.ref (A 59)), some (.int (nI i))] [] [oMain (A 0) (A 1) (A 5) (A 10) (A 15) (A 17) (A 22) (A 23) (A 28) (A 53) (A 57) st fp, oReader (A 1) (A 2) (A 3) (A 4) (nI len) ai fa0 fp0 (nI fcn) pt hm sn, cB (A 2) 400 fb, cZ (A 3) 30 fF, cI (A 4) 3 fn, oPlan (A 5) (A 6) (A 7) (A 8) (A 9) (nI (T 0)) (nI (T 1)) (nI (T 2)) (nI (T 3)) (nI (T 4)) (nI (T 5)), cI (A 6) 30 gs, cI (A 7) 6 (fI w), cI (A 8) 6 (fI a), cI (A 9) 6 (fI r), oPlan (A 10) (A 11) (A 12) (A 13) (A 14) F2 C2 V2 E2 N2 S2, cI (A 11) 30 sfs, cI (A 12) 6 sfw, cI (A 13) 6 sfa, cI (A 14) 6 sfr, oPoleS (A 15) (A 16) s sd, cI (A 16) 30 (fI s.1), cP (A 17) 2 fim, oPoleS (A 18) (A 19) s0 d0, cI (A 19) 30 (fI s0.1), oPoleS (A 20) (A 21) s1 d1, cI (A 21) 30 (fI s1.1), cZ (A 22) 2 fk, oTale (A 23) (A 24) (A 25) (A 26) (nI n), cI (A 24) 12 fc, cI (A 25) 12 ff, oPole (A 26) (A 27) gt ot dt, cI (A 27) 30 f0t, oRows (A 28) (A 29) (A 42) gI last once (A 43) ag af (A 44) (A 51) (A 52), cP (A 29) 6 stp, oPole (A 30) (A 31) g0 o0 z0, cI (A 31) 30 u0, oPole (A 32) (A 33) g1 o1 z1, cI (A 33) 30 u1, oPole (A 34) (A 35) g2 o2 z2, cI (A 35) 30 u2, oPole (A 36) (A 37) g3 o3 z3, cI (A 37) 30 u3, oPole (A 38) (A 39) g4 o4 z4, cI (A 39) 30 u4, oPole (A 40) (A 41) g5 o5 z5, cI (A 41) 30 u5, cI (A 42) 6 frr, cI (A 43) 6 f9, cA (A 44) 6 far, cI (A 45) 6 (qf 0), cI (A 46) 6 (qf 1), cI (A 47) 6 (qf 2), cI (A 48) 6 (qf 3), cI (A 49) 6 (qf 4), cI (A 50) 6 (qf 5), cI (A 51) 6 fg, cZ (A 52) 6 ffn, oRests (A 53) (A 54) (A 55) rx fo, cI (A 54) 6 ftn, oPole (A 55) (A 56) gr or_ dr, cI (A 56) 30 f0r, oPoleS (A 57) (A 58) t zd, cI (A 58) 30 (fI t.1), oMod (A 59) (A 60) (nI len) (A 61) (A 62) (A 63) (A 64) (A 65) (A 66) (A 67) (A 68) (A 69) (nI n) sd fp at_ so sta sz fl iha isn ru (A 70) (A 71) (A 72), cI (A 60) 400 fx, cI (A 61) 56 (fI T), cI (A 62) 56 fd, cI (A 63) 32 (fS sm), cI (A 64) 32 fnow, cI (A 65) 64 fi64, cI (A 66) 2 fz, cZ (A 67) 2 fkm, cI (A 68) 12 fwm, cI (A 69) 12 ffm, cI (A 70) 6 fr6, cI (A 71) 6 fb6, cI (A 72) 6 tu6] := by
  have hB := hP.PB
  have hW := hP.2.1
  have hF30 : T 0 ≤ 30 := hB.1
  have hC6 : T 1 ≤ 6 := hB.2.1
  have hQ := hP.1
  have hsb := hS.1
  have hns := hS.2.1
  have hmb := hS.2.2.1
  have h2 := hS.2.2.2.2.1
  rcases hres : readR tx len with f | u
  · skip
    refine g_aload_n dL_law_203 rfl rfl ?_
    refine g_callV (c_X6_pole sk hT.1 hT.2.1 hL hres) m_L_20 a_X6_pole dL_law_204 rfl [0, 1, 2, 3, 4, 10, 11, 12, 13, 14, 5, 6, 7, 8, 9, 15, 16, 23, 22] rfl rfl 0 rfl rfl rfl (by decide) (by decide) (by decide) (by decide) (Nat.le_of_ble_eq_true rfl) (fun r w hK => ?_)
    obtain ⟨rfl, a9, q2, fF9, fn9, fs9, fw9, fa9, fr9, rfl, hL9⟩ := hK
    refine ⟨rfl, ?_⟩
    dsimp only [puts, List.set, Option.toList, List.cons_append, List.nil_append, List.append_nil]
    refine g_aload_n dL_law_207 rfl rfl ?_
    refine g_callV (c_X7_pole sk hT.1 hT.2.2 hres) m_L_24 a_X7_pole dL_law_208 rfl [59, 60, 61, 62, 63, 67] rfl rfl 0 rfl rfl rfl (by decide) (by decide) (by decide) (by decide) (Nat.le_of_ble_eq_true rfl) (fun r w hK => ?_)
    obtain ⟨rfl, a2, so2, sz2, b1, b2, fd2, rfl⟩ := hK
    refine ⟨rfl, ?_⟩
    dsimp only [puts, List.set, Option.toList, List.cons_append, List.nil_append, List.append_nil]
    refine g_icmp_eq (t := 699) dL_law_211 (by decide) rfl (fun h211 => ?_) (fun h211 => ?_)
    · skip
      exact hK st (nI f.2) 0 q2.2.2.1 a9 (nI f.1) (nI f.2) (decide (0 < q2.1 0)) q2.2.2.2.1 q2.2.2.2.2 fb fF9 fn9 T gs w a r (nI (q2.1 0)) (nI (q2.1 1)) (nI (q2.1 2)) (nI (q2.1 3)) (nI (q2.1 4)) (nI (q2.1 5)) fs9 fw9 fa9 fr9 s sd fim s0 s1 d0 d1 fk n fc ff gt ot dt f0t gI last once ag af stp g0 o0 z0 g1 o1 z1 g2 o2 z2 g3 o3 z3 g4 o4 z4 g5 o5 z5 u0 u1 u2 u3 u4 u5 frr f9 far qf fg ffn rx fo ftn gr or_ dr f0r t zd a2 so2 (nI f.2) sz2 (nI f.1) b1 b2 ru fx fd2 sm fnow fi64 fz fkm fwm ffm fr6 fb6 tu6 tx who frs (⟨Nat.zero_le _, fun j hj => absurd hj (Nat.not_lt_zero j), fun j hj => absurd hj (Nat.not_lt_zero j)⟩) hP (hL9) hS h0 h1 hN hC hX
    · exact absurd rfl h211
  · skip
    have hQu := readR_ok hres
    refine g_aload_n dL_law_203 rfl rfl ?_
    refine g_callV (c_X6_pole sk hT.1 hT.2.1 hL hres) m_L_20 a_X6_pole dL_law_204 rfl [0, 1, 2, 3, 4, 10, 11, 12, 13, 14, 5, 6, 7, 8, 9, 15, 16, 23, 22] rfl rfl 0 rfl rfl rfl (by decide) (by decide) (by decide) (by decide) (Nat.le_of_ble_eq_true rfl) (fun r w hK => ?_)
    obtain ⟨rfl, a9, fF9, fn9, fs9, fw9, fa9, fr9, rfl, hPR⟩ := hK
    refine ⟨rfl, ?_⟩
    dsimp only [puts, List.set, Option.toList, List.cons_append, List.nil_append, List.append_nil]
    refine g_aload_n dL_law_207 rfl rfl ?_
    refine g_callV (c_X7_pole sk hT.1 hT.2.2 hres) m_L_24 a_X7_pole dL_law_208 rfl [59, 60, 61, 62, 63, 67] rfl rfl 0 rfl rfl rfl (by decide) (by decide) (by decide) (by decide) (Nat.le_of_ble_eq_true rfl) (fun r w hK => ?_)
    obtain ⟨rfl, a2, so2, sta2, sz2, fl2, b1, b2, T2, rfl, hT2⟩ := hK
    refine ⟨rfl, ?_⟩
    dsimp only [puts, List.set, Option.toList, List.cons_append, List.nil_append, List.append_nil]
    refine g_icmp_eq (t := 699) dL_law_211 (by decide) rfl (fun h211 => ?_) (fun h211 => ?_)
    · skip
      have hP2 := pole_plan hQu hPR hT2
      refine g_cong (g := fI (cutG fs9)) 16 rfl (cutG_fI fs9) rfl ?_
      dsimp only [List.set]
      refine g_cong (g := fS (cutT T2, nI 0, -1)) 63 rfl (cutT_fS T2 (nI 0, -1)) rfl ?_
      dsimp only [List.set]
      refine g_cong (g := fI (fun j => (fw9 j).toBitVec.toNat)) 7 rfl (fun j _ => (congrFun (fI_of fw9) j).symm) rfl ?_
      dsimp only [List.set]
      refine g_cong (g := fI (fun j => (fa9 j).toBitVec.toNat)) 8 rfl (fun j _ => (congrFun (fI_of fa9) j).symm) rfl ?_
      dsimp only [List.set]
      refine g_cong (g := fI (fun j => (fr9 j).toBitVec.toNat)) 9 rfl (fun j _ => (congrFun (fI_of fr9) j).symm) rfl ?_
      dsimp only [List.set]
      rw [← hT2 0 (by decide), ← hT2 1 (by decide), ← hT2 2 (by decide), ← hT2 3 (by decide), ← hT2 4 (by decide), ← hT2 5 (by decide)]
      exact hK false (-1) 0 u.2.2.1 a9 (nI 0) (-1) (decide (0 < T2 0)) u.2.2.2.1 u.2.2.2.2 fb fF9 fn9 T2 fs9 (fun j => (fw9 j).toBitVec.toNat) (fun j => (fa9 j).toBitVec.toNat) (fun j => (fr9 j).toBitVec.toNat) (nI (T2 0)) (nI (T2 1)) (nI (T2 2)) (nI (T2 3)) (nI (T2 4)) (nI (T2 5)) fs9 fw9 fa9 fr9 (cutG fs9, nI 0, -1) sd fim s0 s1 d0 d1 (upd (upd fk 0 (zb false)) 1 (zb false)) 0 fc ff gt ot dt f0t gI last once ag af stp g0 o0 z0 g1 o1 z1 g2 o2 z2 g3 o3 z3 g4 o4 z4 g5 o5 z5 u0 u1 u2 u3 u4 u5 frr f9 far qf fg ffn rx fo ftn gr or_ dr f0r t zd a2 so2 sta2 sz2 fl2 b1 b2 ru fx (fI T2) (cutT T2, nI 0, -1) fnow fi64 fz (fun _ => zb false) fwm ffm fr6 fb6 tu6 tx who frs (⟨Nat.zero_le _, fun j hj => absurd hj (Nat.not_lt_zero j), fun j hj => absurd hj (Nat.not_lt_zero j)⟩) (hP2) (hP2.2.2.2) (hP2.told) (⟨h0.1, h0.2.1, false, rfl, rfl, fun q => absurd q (by decide)⟩) (⟨h1.1, h1.2.1, false, rfl, rfl, fun q => absurd q (by decide)⟩) (⟨Nat.zero_le _, fun i hi2 => absurd hi2 (Nat.not_lt_zero i)⟩) (pole_cache hC) hX
    · exact absurd rfl h211
set_option maxRecDepth 20000 in
set_option maxHeartbeats 4000000 in
theorem law_21 (sk A : Nat → Nat) (yy : MethodName) {i : Nat} (hi : i + 4 ≤ sk 11) (hL11 : sk 11 ≤ 256) (hK : ∀ (st : Bool) (fp : Int32) (len fcn : Nat) (ai fa0 fp0 : Int32) (pt hm sn : Bool) (fb fF fn : Nat → Int32) (T : Nat → Nat) (gs : Nat → Int32) (w a r : Nat → Nat) (F2 C2 V2 E2 N2 S2 : Int32) (sfs sfw sfa sfr : Nat → Int32) (s : PSt) (sd : Int32) (fim : Nat → Option Nat) (s0 s1 : PSt) (d0 d1 : Int32) (fk : Nat → Int32) (n : Nat) (fc ff : Nat → Int32) (gt ot dt : Int32) (f0t : Nat → Int32) (gI last : Int32) (once : Bool) (ag : Int32) (af : Bool) (stp : Nat → Option Nat) (g0 o0 z0 g1 o1 z1 g2 o2 z2 g3 o3 z3 g4 o4 z4 g5 o5 z5 : Int32) (u0 u1 u2 u3 u4 u5 frr f9 : Nat → Int32) (far : Nat → Option Nat) (qf : Nat → Nat → Int32) (fg ffn : Nat → Int32) (rx : Int32) (fo : Bool) (ftn : Nat → Int32) (gr or_ dr : Int32) (f0r : Nat → Int32) (t : PSt) (zd at_ so sta sz fl : Int32) (iha isn : Bool) (ru : Int32) (fx fd : Nat → Int32) (sm : PSt) (fnow fi64 fz fkm fwm ffm fr6 fb6 tu6 : Nat → Int32) (tx who frs : Nat → Nat), IText len tx fb fx → IPlan T w a r gs → SlB sfs → ISt (T 0) s sm → IImg (T 0) 0 s0 d0 fk fkm fi64 fz → IImg (T 0) 1 s1 d1 fk fkm fi64 fz → IList (T 1) n who frs fc ff fwm ffm → ICache T w a r st t ag af f9 fg ffn qf rx fo ftn → IFix A fim stp far → GG sk RL yy cL_law 4 (some .boolean) 100 73 1816 PLaw 73 1816 699 [some (.ref (sk 10)), some (.ref (A 0)), some (.ref (A 59)), some (.int (nI i))] [] [oMain (A 0) (A 1) (A 5) (A 10) (A 15) (A 17) (A 22) (A 23) (A 28) (A 53) (A 57) st fp, oReader (A 1) (A 2) (A 3) (A 4) (nI len) ai fa0 fp0 (nI fcn) pt hm sn, cB (A 2) 400 fb, cZ (A 3) 30 fF, cI (A 4) 3 fn, oPlan (A 5) (A 6) (A 7) (A 8) (A 9) (nI (T 0)) (nI (T 1)) (nI (T 2)) (nI (T 3)) (nI (T 4)) (nI (T 5)), cI (A 6) 30 gs, cI (A 7) 6 (fI w), cI (A 8) 6 (fI a), cI (A 9) 6 (fI r), oPlan (A 10) (A 11) (A 12) (A 13) (A 14) F2 C2 V2 E2 N2 S2, cI (A 11) 30 sfs, cI (A 12) 6 sfw, cI (A 13) 6 sfa, cI (A 14) 6 sfr, oPoleS (A 15) (A 16) s sd, cI (A 16) 30 (fI s.1), cP (A 17) 2 fim, oPoleS (A 18) (A 19) s0 d0, cI (A 19) 30 (fI s0.1), oPoleS (A 20) (A 21) s1 d1, cI (A 21) 30 (fI s1.1), cZ (A 22) 2 fk, oTale (A 23) (A 24) (A 25) (A 26) (nI n), cI (A 24) 12 fc, cI (A 25) 12 ff, oPole (A 26) (A 27) gt ot dt, cI (A 27) 30 f0t, oRows (A 28) (A 29) (A 42) gI last once (A 43) ag af (A 44) (A 51) (A 52), cP (A 29) 6 stp, oPole (A 30) (A 31) g0 o0 z0, cI (A 31) 30 u0, oPole (A 32) (A 33) g1 o1 z1, cI (A 33) 30 u1, oPole (A 34) (A 35) g2 o2 z2, cI (A 35) 30 u2, oPole (A 36) (A 37) g3 o3 z3, cI (A 37) 30 u3, oPole (A 38) (A 39) g4 o4 z4, cI (A 39) 30 u4, oPole (A 40) (A 41) g5 o5 z5, cI (A 41) 30 u5, cI (A 42) 6 frr, cI (A 43) 6 f9, cA (A 44) 6 far, cI (A 45) 6 (qf 0), cI (A 46) 6 (qf 1), cI (A 47) 6 (qf 2), cI (A 48) 6 (qf 3), cI (A 49) 6 (qf 4), cI (A 50) 6 (qf 5), cI (A 51) 6 fg, cZ (A 52) 6 ffn, oRests (A 53) (A 54) (A 55) rx fo, cI (A 54) 6 ftn, oPole (A 55) (A 56) gr or_ dr, cI (A 56) 30 f0r, oPoleS (A 57) (A 58) t zd, cI (A 58) 30 (fI t.1), oMod (A 59) (A 60) (nI len) (A 61) (A 62) (A 63) (A 64) (A 65) (A 66) (A 67) (A 68) (A 69) (nI n) sd fp at_ so sta sz fl iha isn ru (A 70) (A 71) (A 72), cI (A 60) 400 fx, cI (A 61) 56 (fI T), cI (A 62) 56 fd, cI (A 63) 32 (fS sm), cI (A 64) 32 fnow, cI (A 65) 64 fi64, cI (A 66) 2 fz, cZ (A 67) 2 fkm, cI (A 68) 12 fwm, cI (A 69) 12 ffm, cI (A 70) 6 fr6, cI (A 71) 6 fb6, cI (A 72) 6 tu6]) {st : Bool} {fp : Int32} {len fcn : Nat} {ai fa0 fp0 : Int32} {pt hm sn : Bool} {fb fF fn : Nat → Int32} {T : Nat → Nat} {gs : Nat → Int32} {w a r : Nat → Nat} {F2 C2 V2 E2 N2 S2 : Int32} {sfs sfw sfa sfr : Nat → Int32} {s : PSt} {sd : Int32} {fim : Nat → Option Nat} {s0 s1 : PSt} {d0 d1 : Int32} {fk : Nat → Int32} {n : Nat} {fc ff : Nat → Int32} {gt ot dt : Int32} {f0t : Nat → Int32} {gI last : Int32} {once : Bool} {ag : Int32} {af : Bool} {stp : Nat → Option Nat} {g0 o0 z0 g1 o1 z1 g2 o2 z2 g3 o3 z3 g4 o4 z4 g5 o5 z5 : Int32} {u0 u1 u2 u3 u4 u5 frr f9 : Nat → Int32} {far : Nat → Option Nat} {qf : Nat → Nat → Int32} {fg ffn : Nat → Int32} {rx : Int32} {fo : Bool} {ftn : Nat → Int32} {gr or_ dr : Int32} {f0r : Nat → Int32} {t : PSt} {zd at_ so sta sz fl : Int32} {iha isn : Bool} {ru : Int32} {fx fd : Nat → Int32} {sm : PSt} {fnow fi64 fz fkm fwm ffm fr6 fb6 tu6 : Nat → Int32} {tx who frs : Nat → Nat} (hT : IText len tx fb fx) (hP : IPlan T w a r gs) (hL : SlB sfs) (hS : ISt (T 0) s sm) (h0 : IImg (T 0) 0 s0 d0 fk fkm fi64 fz) (h1 : IImg (T 0) 1 s1 d1 fk fkm fi64 fz) (hN : IList (T 1) n who frs fc ff fwm ffm) (hC : ICache T w a r st t ag af f9 fg ffn qf rx fo ftn) (hX : IFix A fim stp far) : GG sk RL yy cL_law 4 (some .boolean) 100 73 1816 PLaw 73 1816 653 [some (.ref (sk 10)), some (.ref (A 0)), some (.ref (A 59)), some (.int (nI i))] [] [oMain (A 0) (A 1) (A 5) (A 10) (A 15) (A 17) (A 22) (A 23) (A 28) (A 53) (A 57) st fp, oReader (A 1) (A 2) (A 3) (A 4) (nI len) ai fa0 fp0 (nI fcn) pt hm sn, cB (A 2) 400 fb, cZ (A 3) 30 fF, cI (A 4) 3 fn, oPlan (A 5) (A 6) (A 7) (A 8) (A 9) (nI (T 0)) (nI (T 1)) (nI (T 2)) (nI (T 3)) (nI (T 4)) (nI (T 5)), cI (A 6) 30 gs, cI (A 7) 6 (fI w), cI (A 8) 6 (fI a), cI (A 9) 6 (fI r), oPlan (A 10) (A 11) (A 12) (A 13) (A 14) F2 C2 V2 E2 N2 S2, cI (A 11) 30 sfs, cI (A 12) 6 sfw, cI (A 13) 6 sfa, cI (A 14) 6 sfr, oPoleS (A 15) (A 16) s sd, cI (A 16) 30 (fI s.1), cP (A 17) 2 fim, oPoleS (A 18) (A 19) s0 d0, cI (A 19) 30 (fI s0.1), oPoleS (A 20) (A 21) s1 d1, cI (A 21) 30 (fI s1.1), cZ (A 22) 2 fk, oTale (A 23) (A 24) (A 25) (A 26) (nI n), cI (A 24) 12 fc, cI (A 25) 12 ff, oPole (A 26) (A 27) gt ot dt, cI (A 27) 30 f0t, oRows (A 28) (A 29) (A 42) gI last once (A 43) ag af (A 44) (A 51) (A 52), cP (A 29) 6 stp, oPole (A 30) (A 31) g0 o0 z0, cI (A 31) 30 u0, oPole (A 32) (A 33) g1 o1 z1, cI (A 33) 30 u1, oPole (A 34) (A 35) g2 o2 z2, cI (A 35) 30 u2, oPole (A 36) (A 37) g3 o3 z3, cI (A 37) 30 u3, oPole (A 38) (A 39) g4 o4 z4, cI (A 39) 30 u4, oPole (A 40) (A 41) g5 o5 z5, cI (A 41) 30 u5, cI (A 42) 6 frr, cI (A 43) 6 f9, cA (A 44) 6 far, cI (A 45) 6 (qf 0), cI (A 46) 6 (qf 1), cI (A 47) 6 (qf 2), cI (A 48) 6 (qf 3), cI (A 49) 6 (qf 4), cI (A 50) 6 (qf 5), cI (A 51) 6 fg, cZ (A 52) 6 ffn, oRests (A 53) (A 54) (A 55) rx fo, cI (A 54) 6 ftn, oPole (A 55) (A 56) gr or_ dr, cI (A 56) 30 f0r, oPoleS (A 57) (A 58) t zd, cI (A 58) 30 (fI t.1), oMod (A 59) (A 60) (nI len) (A 61) (A 62) (A 63) (A 64) (A 65) (A 66) (A 67) (A 68) (A 69) (nI n) sd fp at_ so sta sz fl iha isn ru (A 70) (A 71) (A 72), cI (A 60) 400 fx, cI (A 61) 56 (fI T), cI (A 62) 56 fd, cI (A 63) 32 (fS sm), cI (A 64) 32 fnow, cI (A 65) 64 fi64, cI (A 66) 2 fz, cZ (A 67) 2 fkm, cI (A 68) 12 fwm, cI (A 69) 12 ffm, cI (A 70) 6 fr6, cI (A 71) 6 fb6, cI (A 72) 6 tu6] := by
  have hB := hP.PB
  have hW := hP.2.1
  have hF30 : T 0 ≤ 30 := hB.1
  have hC6 : T 1 ≤ 6 := hB.2.1
  have hQ := hP.1
  have hsb := hS.1
  have hns := hS.2.1
  have hmb := hS.2.2.1
  have h2 := hS.2.2.2.2.1
  obtain ⟨x1, hx1⟩ : ∃ x, nI (sk (12 + (i + 1))) = x := ⟨_, rfl⟩
  obtain ⟨x2, hx2⟩ : ∃ x, nI (sk (12 + (i + 2))) = x := ⟨_, rfl⟩
  obtain ⟨x3, hx3⟩ : ∃ x, nI (sk (12 + (i + 3))) = x := ⟨_, rfl⟩
  by_cases hx : inR x1 2 = false
  · skip
    refine g_aload_n dL_law_653 rfl rfl ?_
    refine g_aload_n dL_law_654 rfl rfl ?_
    refine g_iload_n dL_law_655 rfl rfl ?_
    refine g_iconst (v := nI 1) dL_law_656 rfl (by decide) ?_
    refine g_iadd dL_law_657 rfl (nI_add _ _) ?_
    refine g_sld dL_law_658 rfl (by omega) hL11 hx1 ?_
    refine g_callV (c_X6_keepF sk hx) m_L_104 a_X6_keep dL_law_659 rfl [0, 17, 22] rfl rfl 0 rfl rfl rfl (by decide) (by decide) (by decide) (by decide) (Nat.le_of_ble_eq_true rfl) (fun r w hK => ?_)
    obtain ⟨rfl, rfl⟩ := hK
    refine ⟨rfl, ?_⟩
    dsimp only [puts, List.set, Option.toList, List.cons_append, List.nil_append, List.append_nil]
    refine g_aload_n dL_law_662 rfl rfl ?_
    refine g_aload_n dL_law_663 rfl rfl ?_
    refine g_iload_n dL_law_664 rfl rfl ?_
    refine g_iconst (v := nI 1) dL_law_665 rfl (by decide) ?_
    refine g_iadd dL_law_666 rfl (nI_add _ _) ?_
    refine g_sld dL_law_667 rfl (by omega) hL11 hx1 ?_
    refine g_callV (c_X7_keepF sk hx) m_L_107 a_X7_keep dL_law_668 rfl [59, 63, 65, 66, 67] rfl rfl 0 rfl rfl rfl (by decide) (by decide) (by decide) (by decide) (Nat.le_of_ble_eq_true rfl) (fun r w hK => ?_)
    obtain ⟨rfl, rfl⟩ := hK
    refine ⟨rfl, ?_⟩
    dsimp only [puts, List.set, Option.toList, List.cons_append, List.nil_append, List.append_nil]
    refine g_icmp_eq (t := 699) dL_law_671 (by decide) rfl (fun h671 => ?_) (fun h671 => ?_)
    · skip
      exact hK st fp len fcn ai fa0 fp0 pt hm sn fb fF fn T gs w a r F2 C2 V2 E2 N2 S2 sfs sfw sfa sfr s sd fim s0 s1 d0 d1 fk n fc ff gt ot dt f0t gI last once ag af stp g0 o0 z0 g1 o1 z1 g2 o2 z2 g3 o3 z3 g4 o4 z4 g5 o5 z5 u0 u1 u2 u3 u4 u5 frr f9 far qf fg ffn rx fo ftn gr or_ dr f0r t zd at_ so sta sz fl iha isn ru fx fd sm fnow fi64 fz fkm fwm ffm fr6 fb6 tu6 tx who frs hT hP hL hS h0 h1 hN hC hX
    · exact absurd rfl h671
  · skip
    obtain ⟨j, hj, rfl⟩ := inR_c (by decide) hx
    rcases (show j = 0 ∨ j = 1 by omega) with rfl | rfl
    · skip
      refine g_aload_n dL_law_653 rfl rfl ?_
      refine g_aload_n dL_law_654 rfl rfl ?_
      refine g_iload_n dL_law_655 rfl rfl ?_
      refine g_iconst (v := nI 1) dL_law_656 rfl (by decide) ?_
      refine g_iadd dL_law_657 rfl (nI_add _ _) ?_
      refine g_sld dL_law_658 rfl (by omega) hL11 hx1 ?_
      refine g_callV (c_X6_keepT sk (qi := A 18) hj hX.1.1) m_L_104 a_X6_keep dL_law_659 rfl [0, 17, 22, 15, 16, 18, 19] rfl rfl 0 rfl rfl rfl (by decide) (by decide) (by decide) (by decide) (Nat.le_of_ble_eq_true rfl) (fun r w hK => ?_)
      obtain ⟨rfl, rfl⟩ := hK
      refine ⟨rfl, ?_⟩
      dsimp only [puts, List.set, Option.toList, List.cons_append, List.nil_append, List.append_nil]
      refine g_aload_n dL_law_662 rfl rfl ?_
      refine g_aload_n dL_law_663 rfl rfl ?_
      refine g_iload_n dL_law_664 rfl rfl ?_
      refine g_iconst (v := nI 1) dL_law_665 rfl (by decide) ?_
      refine g_iadd dL_law_666 rfl (nI_add _ _) ?_
      refine g_sld dL_law_667 rfl (by omega) hL11 hx1 ?_
      refine g_callV (c_X7_keepT sk hj) m_L_107 a_X7_keep dL_law_668 rfl [59, 63, 65, 66, 67] rfl rfl 0 rfl rfl rfl (by decide) (by decide) (by decide) (by decide) (Nat.le_of_ble_eq_true rfl) (fun r w hK => ?_)
      obtain ⟨rfl, rfl⟩ := hK
      refine ⟨rfl, ?_⟩
      dsimp only [puts, List.set, Option.toList, List.cons_append, List.nil_append, List.append_nil]
      refine g_icmp_eq (t := 699) dL_law_671 (by decide) rfl (fun h671 => ?_) (fun h671 => ?_)
      · skip
        exact hK st fp len fcn ai fa0 fp0 pt hm sn fb fF fn T gs w a r F2 C2 V2 E2 N2 S2 sfs sfw sfa sfr s sd fim s s1 sd d1 (upd fk 0 (zb true)) n fc ff gt ot dt f0t gI last once ag af stp g0 o0 z0 g1 o1 z1 g2 o2 z2 g3 o3 z3 g4 o4 z4 g5 o5 z5 u0 u1 u2 u3 u4 u5 frr f9 far qf fg ffn rx fo ftn gr or_ dr f0r t zd at_ so sta sz fl iha isn ru fx fd sm fnow (cpI 0 32 (fS sm) fi64) (upd fz 0 sd) (upd fkm 0 (zb true)) fwm ffm fr6 fb6 tu6 tx who frs hT hP hL hS (IImg.set hS) (IImg.other (by decide) h1) hN hC hX
      · exact absurd rfl h671
    · skip
      refine g_aload_n dL_law_653 rfl rfl ?_
      refine g_aload_n dL_law_654 rfl rfl ?_
      refine g_iload_n dL_law_655 rfl rfl ?_
      refine g_iconst (v := nI 1) dL_law_656 rfl (by decide) ?_
      refine g_iadd dL_law_657 rfl (nI_add _ _) ?_
      refine g_sld dL_law_658 rfl (by omega) hL11 hx1 ?_
      refine g_callV (c_X6_keepT sk (qi := A 20) hj hX.1.2) m_L_104 a_X6_keep dL_law_659 rfl [0, 17, 22, 15, 16, 20, 21] rfl rfl 0 rfl rfl rfl (by decide) (by decide) (by decide) (by decide) (Nat.le_of_ble_eq_true rfl) (fun r w hK => ?_)
      obtain ⟨rfl, rfl⟩ := hK
      refine ⟨rfl, ?_⟩
      dsimp only [puts, List.set, Option.toList, List.cons_append, List.nil_append, List.append_nil]
      refine g_aload_n dL_law_662 rfl rfl ?_
      refine g_aload_n dL_law_663 rfl rfl ?_
      refine g_iload_n dL_law_664 rfl rfl ?_
      refine g_iconst (v := nI 1) dL_law_665 rfl (by decide) ?_
      refine g_iadd dL_law_666 rfl (nI_add _ _) ?_
      refine g_sld dL_law_667 rfl (by omega) hL11 hx1 ?_
      refine g_callV (c_X7_keepT sk hj) m_L_107 a_X7_keep dL_law_668 rfl [59, 63, 65, 66, 67] rfl rfl 0 rfl rfl rfl (by decide) (by decide) (by decide) (by decide) (Nat.le_of_ble_eq_true rfl) (fun r w hK => ?_)
      obtain ⟨rfl, rfl⟩ := hK
      refine ⟨rfl, ?_⟩
      dsimp only [puts, List.set, Option.toList, List.cons_append, List.nil_append, List.append_nil]
      refine g_icmp_eq (t := 699) dL_law_671 (by decide) rfl (fun h671 => ?_) (fun h671 => ?_)
      · skip
        exact hK st fp len fcn ai fa0 fp0 pt hm sn fb fF fn T gs w a r F2 C2 V2 E2 N2 S2 sfs sfw sfa sfr s sd fim s0 s d0 sd (upd fk 1 (zb true)) n fc ff gt ot dt f0t gI last once ag af stp g0 o0 z0 g1 o1 z1 g2 o2 z2 g3 o3 z3 g4 o4 z4 g5 o5 z5 u0 u1 u2 u3 u4 u5 frr f9 far qf fg ffn rx fo ftn gr or_ dr f0r t zd at_ so sta sz fl iha isn ru fx fd sm fnow (cpI 1 32 (fS sm) fi64) (upd fz 1 sd) (upd fkm 1 (zb true)) fwm ffm fr6 fb6 tu6 tx who frs hT hP hL hS (IImg.other (by decide) h0) (IImg.set hS) hN hC hX
      · exact absurd rfl h671
set_option maxRecDepth 20000 in
set_option maxHeartbeats 4000000 in
theorem law_22 (sk A : Nat → Nat) (yy : MethodName) {i : Nat} (hi : i + 4 ≤ sk 11) (hL11 : sk 11 ≤ 256) (hK : ∀ (st : Bool) (fp : Int32) (len fcn : Nat) (ai fa0 fp0 : Int32) (pt hm sn : Bool) (fb fF fn : Nat → Int32) (T : Nat → Nat) (gs : Nat → Int32) (w a r : Nat → Nat) (F2 C2 V2 E2 N2 S2 : Int32) (sfs sfw sfa sfr : Nat → Int32) (s : PSt) (sd : Int32) (fim : Nat → Option Nat) (s0 s1 : PSt) (d0 d1 : Int32) (fk : Nat → Int32) (n : Nat) (fc ff : Nat → Int32) (gt ot dt : Int32) (f0t : Nat → Int32) (gI last : Int32) (once : Bool) (ag : Int32) (af : Bool) (stp : Nat → Option Nat) (g0 o0 z0 g1 o1 z1 g2 o2 z2 g3 o3 z3 g4 o4 z4 g5 o5 z5 : Int32) (u0 u1 u2 u3 u4 u5 frr f9 : Nat → Int32) (far : Nat → Option Nat) (qf : Nat → Nat → Int32) (fg ffn : Nat → Int32) (rx : Int32) (fo : Bool) (ftn : Nat → Int32) (gr or_ dr : Int32) (f0r : Nat → Int32) (t : PSt) (zd at_ so sta sz fl : Int32) (iha isn : Bool) (ru : Int32) (fx fd : Nat → Int32) (sm : PSt) (fnow fi64 fz fkm fwm ffm fr6 fb6 tu6 : Nat → Int32) (tx who frs : Nat → Nat), IText len tx fb fx → IPlan T w a r gs → SlB sfs → ISt (T 0) s sm → IImg (T 0) 0 s0 d0 fk fkm fi64 fz → IImg (T 0) 1 s1 d1 fk fkm fi64 fz → IList (T 1) n who frs fc ff fwm ffm → ICache T w a r st t ag af f9 fg ffn qf rx fo ftn → IFix A fim stp far → GG sk RL yy cL_law 4 (some .boolean) 100 73 1816 PLaw 73 1816 699 [some (.ref (sk 10)), some (.ref (A 0)), some (.ref (A 59)), some (.int (nI i))] [] [oMain (A 0) (A 1) (A 5) (A 10) (A 15) (A 17) (A 22) (A 23) (A 28) (A 53) (A 57) st fp, oReader (A 1) (A 2) (A 3) (A 4) (nI len) ai fa0 fp0 (nI fcn) pt hm sn, cB (A 2) 400 fb, cZ (A 3) 30 fF, cI (A 4) 3 fn, oPlan (A 5) (A 6) (A 7) (A 8) (A 9) (nI (T 0)) (nI (T 1)) (nI (T 2)) (nI (T 3)) (nI (T 4)) (nI (T 5)), cI (A 6) 30 gs, cI (A 7) 6 (fI w), cI (A 8) 6 (fI a), cI (A 9) 6 (fI r), oPlan (A 10) (A 11) (A 12) (A 13) (A 14) F2 C2 V2 E2 N2 S2, cI (A 11) 30 sfs, cI (A 12) 6 sfw, cI (A 13) 6 sfa, cI (A 14) 6 sfr, oPoleS (A 15) (A 16) s sd, cI (A 16) 30 (fI s.1), cP (A 17) 2 fim, oPoleS (A 18) (A 19) s0 d0, cI (A 19) 30 (fI s0.1), oPoleS (A 20) (A 21) s1 d1, cI (A 21) 30 (fI s1.1), cZ (A 22) 2 fk, oTale (A 23) (A 24) (A 25) (A 26) (nI n), cI (A 24) 12 fc, cI (A 25) 12 ff, oPole (A 26) (A 27) gt ot dt, cI (A 27) 30 f0t, oRows (A 28) (A 29) (A 42) gI last once (A 43) ag af (A 44) (A 51) (A 52), cP (A 29) 6 stp, oPole (A 30) (A 31) g0 o0 z0, cI (A 31) 30 u0, oPole (A 32) (A 33) g1 o1 z1, cI (A 33) 30 u1, oPole (A 34) (A 35) g2 o2 z2, cI (A 35) 30 u2, oPole (A 36) (A 37) g3 o3 z3, cI (A 37) 30 u3, oPole (A 38) (A 39) g4 o4 z4, cI (A 39) 30 u4, oPole (A 40) (A 41) g5 o5 z5, cI (A 41) 30 u5, cI (A 42) 6 frr, cI (A 43) 6 f9, cA (A 44) 6 far, cI (A 45) 6 (qf 0), cI (A 46) 6 (qf 1), cI (A 47) 6 (qf 2), cI (A 48) 6 (qf 3), cI (A 49) 6 (qf 4), cI (A 50) 6 (qf 5), cI (A 51) 6 fg, cZ (A 52) 6 ffn, oRests (A 53) (A 54) (A 55) rx fo, cI (A 54) 6 ftn, oPole (A 55) (A 56) gr or_ dr, cI (A 56) 30 f0r, oPoleS (A 57) (A 58) t zd, cI (A 58) 30 (fI t.1), oMod (A 59) (A 60) (nI len) (A 61) (A 62) (A 63) (A 64) (A 65) (A 66) (A 67) (A 68) (A 69) (nI n) sd fp at_ so sta sz fl iha isn ru (A 70) (A 71) (A 72), cI (A 60) 400 fx, cI (A 61) 56 (fI T), cI (A 62) 56 fd, cI (A 63) 32 (fS sm), cI (A 64) 32 fnow, cI (A 65) 64 fi64, cI (A 66) 2 fz, cZ (A 67) 2 fkm, cI (A 68) 12 fwm, cI (A 69) 12 ffm, cI (A 70) 6 fr6, cI (A 71) 6 fb6, cI (A 72) 6 tu6]) {st : Bool} {fp : Int32} {len fcn : Nat} {ai fa0 fp0 : Int32} {pt hm sn : Bool} {fb fF fn : Nat → Int32} {T : Nat → Nat} {gs : Nat → Int32} {w a r : Nat → Nat} {F2 C2 V2 E2 N2 S2 : Int32} {sfs sfw sfa sfr : Nat → Int32} {s : PSt} {sd : Int32} {fim : Nat → Option Nat} {s0 s1 : PSt} {d0 d1 : Int32} {fk : Nat → Int32} {n : Nat} {fc ff : Nat → Int32} {gt ot dt : Int32} {f0t : Nat → Int32} {gI last : Int32} {once : Bool} {ag : Int32} {af : Bool} {stp : Nat → Option Nat} {g0 o0 z0 g1 o1 z1 g2 o2 z2 g3 o3 z3 g4 o4 z4 g5 o5 z5 : Int32} {u0 u1 u2 u3 u4 u5 frr f9 : Nat → Int32} {far : Nat → Option Nat} {qf : Nat → Nat → Int32} {fg ffn : Nat → Int32} {rx : Int32} {fo : Bool} {ftn : Nat → Int32} {gr or_ dr : Int32} {f0r : Nat → Int32} {t : PSt} {zd at_ so sta sz fl : Int32} {iha isn : Bool} {ru : Int32} {fx fd : Nat → Int32} {sm : PSt} {fnow fi64 fz fkm fwm ffm fr6 fb6 tu6 : Nat → Int32} {tx who frs : Nat → Nat} (hT : IText len tx fb fx) (hP : IPlan T w a r gs) (hL : SlB sfs) (hS : ISt (T 0) s sm) (h0 : IImg (T 0) 0 s0 d0 fk fkm fi64 fz) (h1 : IImg (T 0) 1 s1 d1 fk fkm fi64 fz) (hN : IList (T 1) n who frs fc ff fwm ffm) (hC : ICache T w a r st t ag af f9 fg ffn qf rx fo ftn) (hX : IFix A fim stp far) : GG sk RL yy cL_law 4 (some .boolean) 100 73 1816 PLaw 73 1816 676 [some (.ref (sk 10)), some (.ref (A 0)), some (.ref (A 59)), some (.int (nI i))] [] [oMain (A 0) (A 1) (A 5) (A 10) (A 15) (A 17) (A 22) (A 23) (A 28) (A 53) (A 57) st fp, oReader (A 1) (A 2) (A 3) (A 4) (nI len) ai fa0 fp0 (nI fcn) pt hm sn, cB (A 2) 400 fb, cZ (A 3) 30 fF, cI (A 4) 3 fn, oPlan (A 5) (A 6) (A 7) (A 8) (A 9) (nI (T 0)) (nI (T 1)) (nI (T 2)) (nI (T 3)) (nI (T 4)) (nI (T 5)), cI (A 6) 30 gs, cI (A 7) 6 (fI w), cI (A 8) 6 (fI a), cI (A 9) 6 (fI r), oPlan (A 10) (A 11) (A 12) (A 13) (A 14) F2 C2 V2 E2 N2 S2, cI (A 11) 30 sfs, cI (A 12) 6 sfw, cI (A 13) 6 sfa, cI (A 14) 6 sfr, oPoleS (A 15) (A 16) s sd, cI (A 16) 30 (fI s.1), cP (A 17) 2 fim, oPoleS (A 18) (A 19) s0 d0, cI (A 19) 30 (fI s0.1), oPoleS (A 20) (A 21) s1 d1, cI (A 21) 30 (fI s1.1), cZ (A 22) 2 fk, oTale (A 23) (A 24) (A 25) (A 26) (nI n), cI (A 24) 12 fc, cI (A 25) 12 ff, oPole (A 26) (A 27) gt ot dt, cI (A 27) 30 f0t, oRows (A 28) (A 29) (A 42) gI last once (A 43) ag af (A 44) (A 51) (A 52), cP (A 29) 6 stp, oPole (A 30) (A 31) g0 o0 z0, cI (A 31) 30 u0, oPole (A 32) (A 33) g1 o1 z1, cI (A 33) 30 u1, oPole (A 34) (A 35) g2 o2 z2, cI (A 35) 30 u2, oPole (A 36) (A 37) g3 o3 z3, cI (A 37) 30 u3, oPole (A 38) (A 39) g4 o4 z4, cI (A 39) 30 u4, oPole (A 40) (A 41) g5 o5 z5, cI (A 41) 30 u5, cI (A 42) 6 frr, cI (A 43) 6 f9, cA (A 44) 6 far, cI (A 45) 6 (qf 0), cI (A 46) 6 (qf 1), cI (A 47) 6 (qf 2), cI (A 48) 6 (qf 3), cI (A 49) 6 (qf 4), cI (A 50) 6 (qf 5), cI (A 51) 6 fg, cZ (A 52) 6 ffn, oRests (A 53) (A 54) (A 55) rx fo, cI (A 54) 6 ftn, oPole (A 55) (A 56) gr or_ dr, cI (A 56) 30 f0r, oPoleS (A 57) (A 58) t zd, cI (A 58) 30 (fI t.1), oMod (A 59) (A 60) (nI len) (A 61) (A 62) (A 63) (A 64) (A 65) (A 66) (A 67) (A 68) (A 69) (nI n) sd fp at_ so sta sz fl iha isn ru (A 70) (A 71) (A 72), cI (A 60) 400 fx, cI (A 61) 56 (fI T), cI (A 62) 56 fd, cI (A 63) 32 (fS sm), cI (A 64) 32 fnow, cI (A 65) 64 fi64, cI (A 66) 2 fz, cZ (A 67) 2 fkm, cI (A 68) 12 fwm, cI (A 69) 12 ffm, cI (A 70) 6 fr6, cI (A 71) 6 fb6, cI (A 72) 6 tu6] := by
  have hB := hP.PB
  have hW := hP.2.1
  have hF30 : T 0 ≤ 30 := hB.1
  have hC6 : T 1 ≤ 6 := hB.2.1
  have hQ := hP.1
  have hsb := hS.1
  have hns := hS.2.1
  have hmb := hS.2.2.1
  have h2 := hS.2.2.2.2.1
  obtain ⟨x1, hx1⟩ : ∃ x, nI (sk (12 + (i + 1))) = x := ⟨_, rfl⟩
  obtain ⟨x2, hx2⟩ : ∃ x, nI (sk (12 + (i + 2))) = x := ⟨_, rfl⟩
  obtain ⟨x3, hx3⟩ : ∃ x, nI (sk (12 + (i + 3))) = x := ⟨_, rfl⟩
  by_cases hx : inR x1 2 = false
  · skip
    refine g_aload_n dL_law_676 rfl rfl ?_
    refine g_aload_n dL_law_677 rfl rfl ?_
    refine g_iload_n dL_law_678 rfl rfl ?_
    refine g_iconst (v := nI 1) dL_law_679 rfl (by decide) ?_
    refine g_iadd dL_law_680 rfl (nI_add _ _) ?_
    refine g_sld dL_law_681 rfl (by omega) hL11 hx1 ?_
    refine g_callV (c_X6_goBackF sk hx) m_L_108 a_X6_goBack dL_law_682 rfl [0, 17, 22] rfl rfl 0 rfl rfl rfl (by decide) (by decide) (by decide) (by decide) (Nat.le_of_ble_eq_true rfl) (fun r w hK => ?_)
    obtain ⟨rfl, rfl⟩ := hK
    refine ⟨rfl, ?_⟩
    dsimp only [puts, List.set, Option.toList, List.cons_append, List.nil_append, List.append_nil]
    refine g_aload_n dL_law_685 rfl rfl ?_
    refine g_aload_n dL_law_686 rfl rfl ?_
    refine g_iload_n dL_law_687 rfl rfl ?_
    refine g_iconst (v := nI 1) dL_law_688 rfl (by decide) ?_
    refine g_iadd dL_law_689 rfl (nI_add _ _) ?_
    refine g_sld dL_law_690 rfl (by omega) hL11 hx1 ?_
    refine g_callV (c_X7_goBackF sk hx) m_L_111 a_X7_goBack dL_law_691 rfl [59, 63, 65, 66, 67] rfl rfl 0 rfl rfl rfl (by decide) (by decide) (by decide) (by decide) (Nat.le_of_ble_eq_true rfl) (fun r w hK => ?_)
    obtain ⟨rfl, rfl⟩ := hK
    refine ⟨rfl, ?_⟩
    dsimp only [puts, List.set, Option.toList, List.cons_append, List.nil_append, List.append_nil]
    refine g_icmp_eq (t := 699) dL_law_694 (by decide) rfl (fun h694 => ?_) (fun h694 => ?_)
    · skip
      exact hK st fp len fcn ai fa0 fp0 pt hm sn fb fF fn T gs w a r F2 C2 V2 E2 N2 S2 sfs sfw sfa sfr s sd fim s0 s1 d0 d1 fk n fc ff gt ot dt f0t gI last once ag af stp g0 o0 z0 g1 o1 z1 g2 o2 z2 g3 o3 z3 g4 o4 z4 g5 o5 z5 u0 u1 u2 u3 u4 u5 frr f9 far qf fg ffn rx fo ftn gr or_ dr f0r t zd at_ so sta sz fl iha isn ru fx fd sm fnow fi64 fz fkm fwm ffm fr6 fb6 tu6 tx who frs hT hP hL hS h0 h1 hN hC hX
    · exact absurd rfl h694
  · skip
    obtain ⟨j, hj, rfl⟩ := inR_c (by decide) hx
    rcases (show j = 0 ∨ j = 1 by omega) with rfl | rfl
    · skip
      obtain ⟨hib, hin, k, ek1, ek2, hk⟩ := id h0
      rcases Bool.eq_false_or_eq_true k with hkt | hkt
      · skip
        subst hkt
        obtain ⟨im, him, himc, hzd⟩ := hk rfl
        refine g_aload_n dL_law_676 rfl rfl ?_
        refine g_aload_n dL_law_677 rfl rfl ?_
        refine g_iload_n dL_law_678 rfl rfl ?_
        refine g_iconst (v := nI 1) dL_law_679 rfl (by decide) ?_
        refine g_iadd dL_law_680 rfl (nI_add _ _) ?_
        refine g_sld dL_law_681 rfl (by omega) hL11 hx1 ?_
        refine g_callV (c_X6_goBackT sk hj hX.1.1 ek1) m_L_108 a_X6_goBack dL_law_682 rfl [0, 17, 22, 15, 16, 18, 19] rfl rfl 0 rfl rfl rfl (by decide) (by decide) (by decide) (by decide) (Nat.le_of_ble_eq_true rfl) (fun r w hK => ?_)
        obtain ⟨rfl, rfl⟩ := hK
        refine ⟨rfl, ?_⟩
        dsimp only [puts, List.set, Option.toList, List.cons_append, List.nil_append, List.append_nil]
        refine g_aload_n dL_law_685 rfl rfl ?_
        refine g_aload_n dL_law_686 rfl rfl ?_
        refine g_iload_n dL_law_687 rfl rfl ?_
        refine g_iconst (v := nI 1) dL_law_688 rfl (by decide) ?_
        refine g_iadd dL_law_689 rfl (nI_add _ _) ?_
        refine g_sld dL_law_690 rfl (by omega) hL11 hx1 ?_
        refine g_callV (c_X7_goBackT sk hj ek2 himc) m_L_111 a_X7_goBack dL_law_691 rfl [59, 63, 65, 66, 67] rfl rfl 0 rfl rfl rfl (by decide) (by decide) (by decide) (by decide) (Nat.le_of_ble_eq_true rfl) (fun r w hK => ?_)
        obtain ⟨rfl, rfl⟩ := hK
        refine ⟨rfl, ?_⟩
        dsimp only [puts, List.set, Option.toList, List.cons_append, List.nil_append, List.append_nil]
        refine g_icmp_eq (t := 699) dL_law_694 (by decide) rfl (fun h694 => ?_) (fun h694 => ?_)
        · skip
          rw [hzd]
          exact hK st fp len fcn ai fa0 fp0 pt hm sn fb fF fn T gs w a r F2 C2 V2 E2 N2 S2 sfs sfw sfa sfr s0 d0 fim s0 s1 d0 d1 fk n fc ff gt ot dt f0t gI last once ag af stp g0 o0 z0 g1 o1 z1 g2 o2 z2 g3 o3 z3 g4 o4 z4 g5 o5 z5 u0 u1 u2 u3 u4 u5 frr f9 far qf fg ffn rx fo ftn gr or_ dr f0r t zd at_ so sta sz fl iha isn ru fx fd im fnow fi64 fz fkm fwm ffm fr6 fb6 tu6 tx who frs hT hP hL (him) h0 h1 hN hC hX
        · exact absurd rfl h694
      · skip
        subst hkt
        refine g_aload_n dL_law_676 rfl rfl ?_
        refine g_aload_n dL_law_677 rfl rfl ?_
        refine g_iload_n dL_law_678 rfl rfl ?_
        refine g_iconst (v := nI 1) dL_law_679 rfl (by decide) ?_
        refine g_iadd dL_law_680 rfl (nI_add _ _) ?_
        refine g_sld dL_law_681 rfl (by omega) hL11 hx1 ?_
        refine g_callV (c_X6_goBackN sk (qi := A 18) (qq := A 19) hj ek1) m_L_108 a_X6_goBack dL_law_682 rfl [0, 17, 22, 15, 16, 18, 19] rfl rfl 0 rfl rfl rfl (by decide) (by decide) (by decide) (by decide) (Nat.le_of_ble_eq_true rfl) (fun r w hK => ?_)
        obtain ⟨rfl, rfl⟩ := hK
        refine ⟨rfl, ?_⟩
        dsimp only [puts, List.set, Option.toList, List.cons_append, List.nil_append, List.append_nil]
        refine g_aload_n dL_law_685 rfl rfl ?_
        refine g_aload_n dL_law_686 rfl rfl ?_
        refine g_iload_n dL_law_687 rfl rfl ?_
        refine g_iconst (v := nI 1) dL_law_688 rfl (by decide) ?_
        refine g_iadd dL_law_689 rfl (nI_add _ _) ?_
        refine g_sld dL_law_690 rfl (by omega) hL11 hx1 ?_
        refine g_callV (c_X7_goBackN sk hj ek2) m_L_111 a_X7_goBack dL_law_691 rfl [59, 63, 65, 66, 67] rfl rfl 0 rfl rfl rfl (by decide) (by decide) (by decide) (by decide) (Nat.le_of_ble_eq_true rfl) (fun r w hK => ?_)
        obtain ⟨rfl, rfl⟩ := hK
        refine ⟨rfl, ?_⟩
        dsimp only [puts, List.set, Option.toList, List.cons_append, List.nil_append, List.append_nil]
        refine g_icmp_eq (t := 699) dL_law_694 (by decide) rfl (fun h694 => ?_) (fun h694 => ?_)
        · skip
          exact hK st fp len fcn ai fa0 fp0 pt hm sn fb fF fn T gs w a r F2 C2 V2 E2 N2 S2 sfs sfw sfa sfr s sd fim s0 s1 d0 d1 fk n fc ff gt ot dt f0t gI last once ag af stp g0 o0 z0 g1 o1 z1 g2 o2 z2 g3 o3 z3 g4 o4 z4 g5 o5 z5 u0 u1 u2 u3 u4 u5 frr f9 far qf fg ffn rx fo ftn gr or_ dr f0r t zd at_ so sta sz fl iha isn ru fx fd sm fnow fi64 fz fkm fwm ffm fr6 fb6 tu6 tx who frs hT hP hL hS h0 h1 hN hC hX
        · exact absurd rfl h694
    · skip
      obtain ⟨hib, hin, k, ek1, ek2, hk⟩ := id h1
      rcases Bool.eq_false_or_eq_true k with hkt | hkt
      · skip
        subst hkt
        obtain ⟨im, him, himc, hzd⟩ := hk rfl
        refine g_aload_n dL_law_676 rfl rfl ?_
        refine g_aload_n dL_law_677 rfl rfl ?_
        refine g_iload_n dL_law_678 rfl rfl ?_
        refine g_iconst (v := nI 1) dL_law_679 rfl (by decide) ?_
        refine g_iadd dL_law_680 rfl (nI_add _ _) ?_
        refine g_sld dL_law_681 rfl (by omega) hL11 hx1 ?_
        refine g_callV (c_X6_goBackT sk hj hX.1.2 ek1) m_L_108 a_X6_goBack dL_law_682 rfl [0, 17, 22, 15, 16, 20, 21] rfl rfl 0 rfl rfl rfl (by decide) (by decide) (by decide) (by decide) (Nat.le_of_ble_eq_true rfl) (fun r w hK => ?_)
        obtain ⟨rfl, rfl⟩ := hK
        refine ⟨rfl, ?_⟩
        dsimp only [puts, List.set, Option.toList, List.cons_append, List.nil_append, List.append_nil]
        refine g_aload_n dL_law_685 rfl rfl ?_
        refine g_aload_n dL_law_686 rfl rfl ?_
        refine g_iload_n dL_law_687 rfl rfl ?_
        refine g_iconst (v := nI 1) dL_law_688 rfl (by decide) ?_
        refine g_iadd dL_law_689 rfl (nI_add _ _) ?_
        refine g_sld dL_law_690 rfl (by omega) hL11 hx1 ?_
        refine g_callV (c_X7_goBackT sk hj ek2 himc) m_L_111 a_X7_goBack dL_law_691 rfl [59, 63, 65, 66, 67] rfl rfl 0 rfl rfl rfl (by decide) (by decide) (by decide) (by decide) (Nat.le_of_ble_eq_true rfl) (fun r w hK => ?_)
        obtain ⟨rfl, rfl⟩ := hK
        refine ⟨rfl, ?_⟩
        dsimp only [puts, List.set, Option.toList, List.cons_append, List.nil_append, List.append_nil]
        refine g_icmp_eq (t := 699) dL_law_694 (by decide) rfl (fun h694 => ?_) (fun h694 => ?_)
        · skip
          rw [hzd]
          exact hK st fp len fcn ai fa0 fp0 pt hm sn fb fF fn T gs w a r F2 C2 V2 E2 N2 S2 sfs sfw sfa sfr s1 d1 fim s0 s1 d0 d1 fk n fc ff gt ot dt f0t gI last once ag af stp g0 o0 z0 g1 o1 z1 g2 o2 z2 g3 o3 z3 g4 o4 z4 g5 o5 z5 u0 u1 u2 u3 u4 u5 frr f9 far qf fg ffn rx fo ftn gr or_ dr f0r t zd at_ so sta sz fl iha isn ru fx fd im fnow fi64 fz fkm fwm ffm fr6 fb6 tu6 tx who frs hT hP hL (him) h0 h1 hN hC hX
        · exact absurd rfl h694
      · skip
        subst hkt
        refine g_aload_n dL_law_676 rfl rfl ?_
        refine g_aload_n dL_law_677 rfl rfl ?_
        refine g_iload_n dL_law_678 rfl rfl ?_
        refine g_iconst (v := nI 1) dL_law_679 rfl (by decide) ?_
        refine g_iadd dL_law_680 rfl (nI_add _ _) ?_
        refine g_sld dL_law_681 rfl (by omega) hL11 hx1 ?_
        refine g_callV (c_X6_goBackN sk (qi := A 20) (qq := A 21) hj ek1) m_L_108 a_X6_goBack dL_law_682 rfl [0, 17, 22, 15, 16, 20, 21] rfl rfl 0 rfl rfl rfl (by decide) (by decide) (by decide) (by decide) (Nat.le_of_ble_eq_true rfl) (fun r w hK => ?_)
        obtain ⟨rfl, rfl⟩ := hK
        refine ⟨rfl, ?_⟩
        dsimp only [puts, List.set, Option.toList, List.cons_append, List.nil_append, List.append_nil]
        refine g_aload_n dL_law_685 rfl rfl ?_
        refine g_aload_n dL_law_686 rfl rfl ?_
        refine g_iload_n dL_law_687 rfl rfl ?_
        refine g_iconst (v := nI 1) dL_law_688 rfl (by decide) ?_
        refine g_iadd dL_law_689 rfl (nI_add _ _) ?_
        refine g_sld dL_law_690 rfl (by omega) hL11 hx1 ?_
        refine g_callV (c_X7_goBackN sk hj ek2) m_L_111 a_X7_goBack dL_law_691 rfl [59, 63, 65, 66, 67] rfl rfl 0 rfl rfl rfl (by decide) (by decide) (by decide) (by decide) (Nat.le_of_ble_eq_true rfl) (fun r w hK => ?_)
        obtain ⟨rfl, rfl⟩ := hK
        refine ⟨rfl, ?_⟩
        dsimp only [puts, List.set, Option.toList, List.cons_append, List.nil_append, List.append_nil]
        refine g_icmp_eq (t := 699) dL_law_694 (by decide) rfl (fun h694 => ?_) (fun h694 => ?_)
        · skip
          exact hK st fp len fcn ai fa0 fp0 pt hm sn fb fF fn T gs w a r F2 C2 V2 E2 N2 S2 sfs sfw sfa sfr s sd fim s0 s1 d0 d1 fk n fc ff gt ot dt f0t gI last once ag af stp g0 o0 z0 g1 o1 z1 g2 o2 z2 g3 o3 z3 g4 o4 z4 g5 o5 z5 u0 u1 u2 u3 u4 u5 frr f9 far qf fg ffn rx fo ftn gr or_ dr f0r t zd at_ so sta sz fl iha isn ru fx fd sm fnow fi64 fz fkm fwm ffm fr6 fb6 tu6 tx who frs hT hP hL hS h0 h1 hN hC hX
        · exact absurd rfl h694
