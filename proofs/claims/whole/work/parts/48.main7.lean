/-! SoapPole: ORDER and FOR ONE -/
set_option maxRecDepth 20000 in
theorem c_X6_order (sk : Nat → Nat) {h rd pl sp nw im kp tl ro rs ak : Nat} {st : Bool} {fp : Int32} {nq aq r0 rr ar yr yg yf rt rp ps pw pa pr p0 q0 p1 q1 p2 q2 p3 q3 p4 q4 p5 q5 F C N S : Nat} {sd zd gI last ag rx V E g0 o0 z0 g1 o1 z1 g2 o2 z2 g3 o3 z3 g4 o4 z4 g5 o5 z5 : Int32} {once af fo : Bool} {ff fr f9 f0 f1 f2 f3 f4 f5 : Nat → Int32} {stp : Nat → Option Nat} {s t : PSt} {w a r : Nat → Nat} {x : Int32} (hB : PB F C N S w a r) (hs0 : SB s.1) (ht0 : SB t.1) (hs : NS s) (ht : NS t) (hst0 : stp 0 = some p0) (hst1 : stp 1 = some p1) (hst2 : stp 2 = some p2) (hst3 : stp 3 = some p3) (hst4 : stp 4 = some p4) (hst5 : stp 5 = some p5) (hfo : st = true → af = true → ag = lenI (fewG F C N S w a r true (-1) t C) ∧ RowP (allL C (fewG F C N S w a r true (-1) t C)) f9) : Ct sk yX6_order cX6_order 2 (some .int) 13 0 0 [oMain h rd pl sp nw im kp tl ro rs ak st fp, oPoleS nw nq s sd, cI nq 30 (fI s.1), oPoleS ak aq t zd, cI aq 30 (fI t.1), oRows ro r0 rr gI last once ar ag af yr yg yf, cZ yf 6 ff, oRests rs rt rp rx fo, cP r0 6 stp, cI rr 6 fr, oPole p0 q0 g0 o0 z0, cI q0 30 f0, oPole p1 q1 g1 o1 z1, cI q1 30 f1, oPole p2 q2 g2 o2 z2, cI q2 30 f2, oPole p3 q3 g3 o3 z3, cI q3 30 f3, oPole p4 q4 g4 o4 z4, cI q4 30 f4, oPole p5 q5 g5 o5 z5, cI q5 30 f5, cI ar 6 f9, oPlan pl ps pw pa pr (nI F) (nI C) V E (nI N) (nI S), cI pw 6 (fI w), cI pa 6 (fI a), cI pr 6 (fI r)] [.ref h, .int x] (fun q w1 => ∃ (zd2 gI2 last2 : Int32) (once2 : Bool) (ff2 : Nat → Int32) (fo2 : Bool) (fr2 f92 : Nat → Int32) (g0 o0 z0 g1 o1 z1 g2 o2 z2 g3 o3 z3 g4 o4 z4 g5 o5 z5 : Int32) (f0 f1 f2 f3 f4 f5 : Nat → Int32), q = some (.int (ansAll (lenI (fewG F C N S w a r true (-1) s C)) C f92 x)) ∧ w1 = [oMain h rd pl sp nw im kp tl ro rs ak true fp, oPoleS nw nq s sd, cI nq 30 (fI s.1), oPoleS ak aq s zd2, cI aq 30 (fI s.1), oRows ro r0 rr gI2 last2 once2 ar (lenI (fewG F C N S w a r true (-1) s C)) true yr yg yf, cZ yf 6 ff2, oRests rs rt rp rx fo2, cP r0 6 stp, cI rr 6 fr2, oPole p0 q0 g0 o0 z0, cI q0 30 f0, oPole p1 q1 g1 o1 z1, cI q1 30 f1, oPole p2 q2 g2 o2 z2, cI q2 30 f2, oPole p3 q3 g3 o3 z3, cI q3 30 f3, oPole p4 q4 g4 o4 z4, cI q4 30 f4, oPole p5 q5 g5 o5 z5, cI q5 30 f5, cI ar 6 f92, oPlan pl ps pw pa pr (nI F) (nI C) V E (nI N) (nI S), cI pw 6 (fI w), cI pa 6 (fI a), cI pr 6 (fI r)] ∧ RowP (allL C (fewG F C N S w a r true (-1) s C)) f92 ∧ ((s = t ∧ st = true ∧ fo2 = fo ∧ ff2 = ff) ∨ (fo2 = false ∧ ff2 = fun _ => zb false))) := by
  refine Ct.of (own := RX6) (l := [some (.ref h), some (.int x)]) (by decide) rfl (Nat.le_of_ble_eq_true rfl) rfl ?_
  refine g_aload_n dX6_order_0 rfl rfl ?_
  refine g_callV (c_X6_lookAgain sk hs0 ht0 hs ht) m_X6_172 a_X6_lookAgain dX6_order_1 rfl [0, 1, 2, 3, 4, 5, 6, 7] rfl rfl 0 rfl rfl rfl (by decide) (by decide) (by decide) (by decide) (Nat.le_of_ble_eq_true rfl) (fun r w hK => ?_)
  obtain ⟨rfl, hL⟩ := hK
  rcases hL with ⟨e1, e2, rfl⟩ | rfl
  · subst e1; subst e2
    refine ⟨rfl, ?_⟩
    dsimp only [puts, List.set, Option.toList, List.cons_append, List.nil_append, List.append_nil]
    refine g_aload_n dX6_order_4 rfl rfl ?_
    refine g_get f_X6_51 dX6_order_5 rfl 0 rfl rfl ?_
    refine g_aload_n dX6_order_8 rfl rfl ?_
    refine g_get f_X6_19 dX6_order_9 rfl 0 rfl rfl ?_
    refine g_aload_n dX6_order_12 rfl rfl ?_
    refine g_get f_X6_62 dX6_order_13 rfl 0 rfl rfl ?_
    refine g_iload_n dX6_order_16 rfl rfl ?_
    refine g_callV (c_X4_ofAll sk hB hs0 (hfo rfl) hst0 hst1 hst2 hst3 hst4 hst5) m_X6_175 a_X4_ofAll dX6_order_17 rfl [5, 8, 9, 23, 24, 25, 26, 10, 11, 12, 13, 14, 15, 16, 17, 18, 19, 20, 21, 3, 4, 22] rfl rfl 0 rfl rfl rfl (by decide) (by decide) (by decide) (by decide) (Nat.le_of_ble_eq_true rfl) (fun r w hK => ?_)
    obtain ⟨gI2, once2, last2, fr2, f92, a0, b0, c0, a1, b1, c1, a2, b2, c2, a3, b3, c3, a4, b4, c4, a5, b5, c5, e0, e1, e2, e3, e4, e5, rfl, rfl, hR⟩ := hK
    refine ⟨rfl, ?_⟩
    dsimp only [puts, List.set, Option.toList, List.cons_append, List.nil_append, List.append_nil]
    exact g_iret dX6_order_20 rfl (Nat.le_refl _) (Nat.le_refl _) (⟨_, _, _, _, _, _, _, _, _, _, _, _, _, _, _, _, _, _, _, _, _, _, _, _, _, _, _, _, _, _, _, _, rfl, rfl, hR, Or.inl ⟨rfl, rfl, rfl, rfl⟩⟩)
  · refine ⟨rfl, ?_⟩
    dsimp only [puts, List.set, Option.toList, List.cons_append, List.nil_append, List.append_nil]
    refine g_aload_n dX6_order_4 rfl rfl ?_
    refine g_get f_X6_51 dX6_order_5 rfl 0 rfl rfl ?_
    refine g_aload_n dX6_order_8 rfl rfl ?_
    refine g_get f_X6_19 dX6_order_9 rfl 0 rfl rfl ?_
    refine g_aload_n dX6_order_12 rfl rfl ?_
    refine g_get f_X6_62 dX6_order_13 rfl 0 rfl rfl ?_
    refine g_iload_n dX6_order_16 rfl rfl ?_
    refine g_callV (c_X4_ofAll sk hB hs0 (fun z => absurd z (by decide)) hst0 hst1 hst2 hst3 hst4 hst5) m_X6_175 a_X4_ofAll dX6_order_17 rfl [5, 8, 9, 23, 24, 25, 26, 10, 11, 12, 13, 14, 15, 16, 17, 18, 19, 20, 21, 3, 4, 22] rfl rfl 0 rfl rfl rfl (by decide) (by decide) (by decide) (by decide) (Nat.le_of_ble_eq_true rfl) (fun r w hK => ?_)
    obtain ⟨gI2, once2, last2, fr2, f92, a0, b0, c0, a1, b1, c1, a2, b2, c2, a3, b3, c3, a4, b4, c4, a5, b5, c5, e0, e1, e2, e3, e4, e5, rfl, rfl, hR⟩ := hK
    refine ⟨rfl, ?_⟩
    dsimp only [puts, List.set, Option.toList, List.cons_append, List.nil_append, List.append_nil]
    exact g_iret dX6_order_20 rfl (Nat.le_refl _) (Nat.le_refl _) (⟨_, _, _, _, _, _, _, _, _, _, _, _, _, _, _, _, _, _, _, _, _, _, _, _, _, _, _, _, _, _, _, _, rfl, rfl, hR, Or.inr ⟨rfl, rfl⟩⟩)
set_option maxRecDepth 20000 in
theorem c_X6_forOneF (sk : Nat → Nat) {h rd pl sp nw im kp tl ro rs ak : Nat} {st : Bool} {fp : Int32} {nq aq r0 rr ar yr yg yf rt rp ps pw pa pr p0 q0 p1 q1 p2 q2 p3 q3 p4 q4 p5 q5 F C N S : Nat} {sd zd gI last ag rx V E g0 o0 z0 g1 o1 z1 g2 o2 z2 g3 o3 z3 g4 o4 z4 g5 o5 z5 : Int32} {once af fo : Bool} {ff fr f0 f1 f2 f3 f4 f5 : Nat → Int32} {stp : Nat → Option Nat} {s t : PSt} {w a r : Nat → Nat} {c qc : Nat} {fa : Nat → Option Nat} {fg fq : Nat → Int32} {b : Bool} {x y : Int32} (hx : inR x C = false) : Ct sk yX6_forOne cX6_forOne 3 (some .int) 5 0 0 [oMain h rd pl sp nw im kp tl ro rs ak st fp, oPoleS nw nq s sd, cI nq 30 (fI s.1), oPoleS ak aq t zd, cI aq 30 (fI t.1), oRows ro r0 rr gI last once ar ag af yr yg yf, cZ yf 6 ff, oRests rs rt rp rx fo, cP r0 6 stp, cI rr 6 fr, oPole p0 q0 g0 o0 z0, cI q0 30 f0, oPole p1 q1 g1 o1 z1, cI q1 30 f1, oPole p2 q2 g2 o2 z2, cI q2 30 f2, oPole p3 q3 g3 o3 z3, cI q3 30 f3, oPole p4 q4 g4 o4 z4, cI q4 30 f4, oPole p5 q5 g5 o5 z5, cI q5 30 f5, cA yr 6 fa, cI yg 6 fg, cI qc 6 fq, oPlan pl ps pw pa pr (nI F) (nI C) V E (nI N) (nI S), cI pw 6 (fI w), cI pa 6 (fI a), cI pr 6 (fI r)] [.ref h, .int x, .int y] (zD (some (.int (-1000000001))) [oMain h rd pl sp nw im kp tl ro rs ak st fp, oPoleS nw nq s sd, cI nq 30 (fI s.1), oPoleS ak aq t zd, cI aq 30 (fI t.1), oRows ro r0 rr gI last once ar ag af yr yg yf, cZ yf 6 ff, oRests rs rt rp rx fo, cP r0 6 stp, cI rr 6 fr, oPole p0 q0 g0 o0 z0, cI q0 30 f0, oPole p1 q1 g1 o1 z1, cI q1 30 f1, oPole p2 q2 g2 o2 z2, cI q2 30 f2, oPole p3 q3 g3 o3 z3, cI q3 30 f3, oPole p4 q4 g4 o4 z4, cI q4 30 f4, oPole p5 q5 g5 o5 z5, cI q5 30 f5, cA yr 6 fa, cI yg 6 fg, cI qc 6 fq, oPlan pl ps pw pa pr (nI F) (nI C) V E (nI N) (nI S), cI pw 6 (fI w), cI pa 6 (fI a), cI pr 6 (fI r)]) := by
  refine Ct.of (own := RX6) (l := [some (.ref h), some (.int x), some (.int y)]) (by decide) rfl (Nat.le_of_ble_eq_true rfl) rfl ?_
  refine g_aload_n dX6_forOne_0 rfl rfl ?_
  refine g_get f_X6_19 dX6_forOne_1 rfl 0 rfl rfl ?_
  refine g_iload_n dX6_forOne_4 rfl rfl ?_
  refine g_callV (c_X0_hasClimber sk) m_X6_144 a_X0_hasClimber dX6_forOne_5 rfl [25] rfl rfl 0 rfl rfl rfl (by decide) (by decide) (by decide) (by decide) (Nat.le_of_ble_eq_true rfl) (fun r w hK => ?_)
  obtain ⟨rfl, rfl⟩ := hK
  refine ⟨rfl, ?_⟩
  dsimp only [puts, List.set, Option.toList, List.cons_append, List.nil_append, List.append_nil]
  refine g_if_neB (t := 14) dX6_forOne_8 (by decide) rfl (fun h8 => ?_) (fun h8 => ?_)
  · exact absurd hx (by rw [h8]; decide)
  · skip
    refine g_ldc dX6_forOne_11 rfl k_X6_143 ?_
    exact g_iret dX6_forOne_13 rfl (Nat.le_refl _) (Nat.le_refl _) (⟨rfl, rfl⟩)
set_option maxRecDepth 20000 in
theorem c_X6_forOne (sk : Nat → Nat) {h rd pl sp nw im kp tl ro rs ak : Nat} {st : Bool} {fp : Int32} {nq aq r0 rr ar yr yg yf rt rp ps pw pa pr p0 q0 p1 q1 p2 q2 p3 q3 p4 q4 p5 q5 F C N S : Nat} {sd zd gI last ag rx V E g0 o0 z0 g1 o1 z1 g2 o2 z2 g3 o3 z3 g4 o4 z4 g5 o5 z5 : Int32} {once af fo : Bool} {ff fr f0 f1 f2 f3 f4 f5 : Nat → Int32} {stp : Nat → Option Nat} {s t : PSt} {w a r : Nat → Nat} {c qc : Nat} {fa : Nat → Option Nat} {fg fq : Nat → Int32} {b : Bool} {x : Int32} (hB : PB F C N S w a r) (hs0 : SB s.1) (ht0 : SB t.1) (hs : NS s) (ht : NS t) (hst0 : stp 0 = some p0) (hst1 : stp 1 = some p1) (hst2 : stp 2 = some p2) (hst3 : stp 3 = some p3) (hst4 : stp 4 = some p4) (hst5 : stp 5 = some p5) (hc : c < C) (hqc : fa c = some qc) (hff : ff c = zb b) (hfo : st = true → b = true → fg c = lenI (fewG F C N S w a r false (nI c) t 6) ∧ ∀ j, j < ((fewG F C N S w a r false (nI c) t 6).getD []).length → fq j = nI (((fewG F C N S w a r false (nI c) t 6).getD []).getD j 0)) : Ct sk yX6_forOne cX6_forOne 3 (some .int) 13 0 0 [oMain h rd pl sp nw im kp tl ro rs ak st fp, oPoleS nw nq s sd, cI nq 30 (fI s.1), oPoleS ak aq t zd, cI aq 30 (fI t.1), oRows ro r0 rr gI last once ar ag af yr yg yf, cZ yf 6 ff, oRests rs rt rp rx fo, cP r0 6 stp, cI rr 6 fr, oPole p0 q0 g0 o0 z0, cI q0 30 f0, oPole p1 q1 g1 o1 z1, cI q1 30 f1, oPole p2 q2 g2 o2 z2, cI q2 30 f2, oPole p3 q3 g3 o3 z3, cI q3 30 f3, oPole p4 q4 g4 o4 z4, cI q4 30 f4, oPole p5 q5 g5 o5 z5, cI q5 30 f5, cA yr 6 fa, cI yg 6 fg, cI qc 6 fq, oPlan pl ps pw pa pr (nI F) (nI C) V E (nI N) (nI S), cI pw 6 (fI w), cI pa 6 (fI a), cI pr 6 (fI r)] [.ref h, .int (nI c), .int x] (fun q w1 => q = some (.int (ansOne (fewG F C N S w a r false (nI c) s 6) x)) ∧ ∃ (zd2 gI2 last2 : Int32) (once2 : Bool) (ff2 : Nat → Int32) (fo2 af2 : Bool) (fr2 fq2 : Nat → Int32) (g0 o0 z0 g1 o1 z1 g2 o2 z2 g3 o3 z3 g4 o4 z4 g5 o5 z5 : Int32) (f0 f1 f2 f3 f4 f5 : Nat → Int32), w1 = [oMain h rd pl sp nw im kp tl ro rs ak true fp, oPoleS nw nq s sd, cI nq 30 (fI s.1), oPoleS ak aq s zd2, cI aq 30 (fI s.1), oRows ro r0 rr gI2 last2 once2 ar ag af2 yr yg yf, cZ yf 6 (upd ff2 c (zb true)), oRests rs rt rp rx fo2, cP r0 6 stp, cI rr 6 fr2, oPole p0 q0 g0 o0 z0, cI q0 30 f0, oPole p1 q1 g1 o1 z1, cI q1 30 f1, oPole p2 q2 g2 o2 z2, cI q2 30 f2, oPole p3 q3 g3 o3 z3, cI q3 30 f3, oPole p4 q4 g4 o4 z4, cI q4 30 f4, oPole p5 q5 g5 o5 z5, cI q5 30 f5, cA yr 6 fa, cI yg 6 (upd fg c (lenI (fewG F C N S w a r false (nI c) s 6))), cI qc 6 fq2, oPlan pl ps pw pa pr (nI F) (nI C) V E (nI N) (nI S), cI pw 6 (fI w), cI pa 6 (fI a), cI pr 6 (fI r)] ∧ (∀ j, j < ((fewG F C N S w a r false (nI c) s 6).getD []).length → fq2 j = nI (((fewG F C N S w a r false (nI c) s 6).getD []).getD j 0)) ∧ ((s = t ∧ st = true ∧ fo2 = fo ∧ af2 = af ∧ ff2 = ff) ∨ (fo2 = false ∧ af2 = false ∧ ff2 = fun _ => zb false))) := by
  have hC6 := hB.2.1
  have hc6 : c < 6 := by omega
  refine Ct.of (own := RX6) (l := [some (.ref h), some (.int (nI c)), some (.int x)]) (by decide) rfl (Nat.le_of_ble_eq_true rfl) rfl ?_
  refine g_aload_n dX6_forOne_0 rfl rfl ?_
  refine g_get f_X6_19 dX6_forOne_1 rfl 0 rfl rfl ?_
  refine g_iload_n dX6_forOne_4 rfl rfl ?_
  refine g_callV (c_X0_hasClimber sk) m_X6_144 a_X0_hasClimber dX6_forOne_5 rfl [25] rfl rfl 0 rfl rfl rfl (by decide) (by decide) (by decide) (by decide) (Nat.le_of_ble_eq_true rfl) (fun r w hK => ?_)
  obtain ⟨rfl, rfl⟩ := hK
  refine ⟨rfl, ?_⟩
  dsimp only [puts, List.set, Option.toList, List.cons_append, List.nil_append, List.append_nil]
  refine g_if_neB (t := 14) dX6_forOne_8 (by decide) rfl (fun h8 => ?_) (fun h8 => ?_)
  · skip
    refine g_aload_n dX6_forOne_14 rfl rfl ?_
    refine g_callV (c_X6_lookAgain sk hs0 ht0 hs ht) m_X6_172 a_X6_lookAgain dX6_forOne_15 rfl [0, 1, 2, 3, 4, 5, 6, 7] rfl rfl 0 rfl rfl rfl (by decide) (by decide) (by decide) (by decide) (Nat.le_of_ble_eq_true rfl) (fun r w hK => ?_)
    obtain ⟨rfl, hL⟩ := hK
    rcases hL with ⟨e1, e2, rfl⟩ | rfl
    · subst e1; subst e2
      refine ⟨rfl, ?_⟩
      dsimp only [puts, List.set, Option.toList, List.cons_append, List.nil_append, List.append_nil]
      refine g_aload_n dX6_forOne_18 rfl rfl ?_
      refine g_get f_X6_51 dX6_forOne_19 rfl 0 rfl rfl ?_
      refine g_aload_n dX6_forOne_22 rfl rfl ?_
      refine g_get f_X6_19 dX6_forOne_23 rfl 0 rfl rfl ?_
      refine g_aload_n dX6_forOne_26 rfl rfl ?_
      refine g_get f_X6_62 dX6_forOne_27 rfl 0 rfl rfl ?_
      refine g_iload_n dX6_forOne_30 rfl rfl ?_
      refine g_iload_n dX6_forOne_31 rfl rfl ?_
      refine g_callV (c_X4_ofOne sk hB hs0 hc6 hqc hff (hfo rfl) hst0 hst1 hst2 hst3 hst4 hst5) m_X6_179 a_X4_ofOne dX6_forOne_32 rfl [5, 8, 9, 25, 26, 27, 28, 10, 11, 12, 13, 14, 15, 16, 17, 18, 19, 20, 21, 3, 4, 22, 23, 6, 24] rfl rfl 0 rfl rfl rfl (by decide) (by decide) (by decide) (by decide) (Nat.le_of_ble_eq_true rfl) (fun r w hK => ?_)
      obtain ⟨rfl, gI2, last2, once2, fr2, fq2, a0, b0, c0, a1, b1, c1, a2, b2, c2, a3, b3, c3, a4, b4, c4, a5, b5, c5, e0, e1, e2, e3, e4, e5, rfl, hR⟩ := hK
      refine ⟨rfl, ?_⟩
      dsimp only [puts, List.set, Option.toList, List.cons_append, List.nil_append, List.append_nil]
      exact g_iret dX6_forOne_35 rfl (Nat.le_refl _) (Nat.le_refl _) (⟨rfl, _, _, _, _, _, _, _, _, _, _, _, _, _, _, _, _, _, _, _, _, _, _, _, _, _, _, _, _, _, _, _, _, _, rfl, hR, Or.inl ⟨rfl, rfl, rfl, rfl, rfl⟩⟩)
    · refine ⟨rfl, ?_⟩
      dsimp only [puts, List.set, Option.toList, List.cons_append, List.nil_append, List.append_nil]
      refine g_aload_n dX6_forOne_18 rfl rfl ?_
      refine g_get f_X6_51 dX6_forOne_19 rfl 0 rfl rfl ?_
      refine g_aload_n dX6_forOne_22 rfl rfl ?_
      refine g_get f_X6_19 dX6_forOne_23 rfl 0 rfl rfl ?_
      refine g_aload_n dX6_forOne_26 rfl rfl ?_
      refine g_get f_X6_62 dX6_forOne_27 rfl 0 rfl rfl ?_
      refine g_iload_n dX6_forOne_30 rfl rfl ?_
      refine g_iload_n dX6_forOne_31 rfl rfl ?_
      refine g_callV (c_X4_ofOne sk hB hs0 hc6 hqc (ff := fun _ => zb false) (b := false) rfl (fun z => absurd z (by decide)) hst0 hst1 hst2 hst3 hst4 hst5) m_X6_179 a_X4_ofOne dX6_forOne_32 rfl [5, 8, 9, 25, 26, 27, 28, 10, 11, 12, 13, 14, 15, 16, 17, 18, 19, 20, 21, 3, 4, 22, 23, 6, 24] rfl rfl 0 rfl rfl rfl (by decide) (by decide) (by decide) (by decide) (Nat.le_of_ble_eq_true rfl) (fun r w hK => ?_)
      obtain ⟨rfl, gI2, last2, once2, fr2, fq2, a0, b0, c0, a1, b1, c1, a2, b2, c2, a3, b3, c3, a4, b4, c4, a5, b5, c5, e0, e1, e2, e3, e4, e5, rfl, hR⟩ := hK
      refine ⟨rfl, ?_⟩
      dsimp only [puts, List.set, Option.toList, List.cons_append, List.nil_append, List.append_nil]
      exact g_iret dX6_forOne_35 rfl (Nat.le_refl _) (Nat.le_refl _) (⟨rfl, _, _, _, _, _, _, _, _, _, _, _, _, _, _, _, _, _, _, _, _, _, _, _, _, _, _, _, _, _, _, _, _, _, rfl, hR, Or.inr ⟨rfl, rfl, rfl⟩⟩)
  · exact absurd (inR_N hc (by omega)) (by rw [h8]; decide)
