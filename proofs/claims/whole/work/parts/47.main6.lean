/-! SoapPole: looking again; ORDER, FOR ONE, RESTS-/
/-- above the thirty feet a state is naught -/
def NS (s : PSt) : Prop := ∀ j, 30 ≤ j → s.1 j = 0
theorem eqR_all {f g : Nat → Nat} : ∀ (n i : Nat), eqR f g n i = true → ∀ j, i ≤ j → j < i + n → f j = g j
  | 0, i, _, j, h1, h2 => by omega
  | n + 1, i, h, j, h1, h2 => by
    rw [eqR, Bool.and_eq_true] at h
    by_cases e : j = i
    · subst e; exact of_decide_eq_true h.1
    · exact eqR_all n (i + 1) h.2 j (by omega) (by omega)
theorem likeB_eq {s t : PSt} (hs : NS s) (ht : NS t) (h : likeB s.2.1 s.2.2 t.2.1 t.2.2 s.1 t.1 = true) : s = t := by
  unfold likeB at h
  rw [Bool.and_eq_true, Bool.and_eq_true] at h
  have h1 := of_decide_eq_true h.1
  have h2 := of_decide_eq_true h.2.1
  have h3 : s.1 = t.1 := by
    funext j
    by_cases e : j < 30
    · exact eqR_all 30 0 h.2.2 j (Nat.zero_le _) (by omega)
    · rw [hs j (by omega), ht j (by omega)]
  exact Prod.ext h3 (Prod.ext h1 h2)
set_option maxRecDepth 20000 in
theorem c_X6_lookAgain (sk : Nat → Nat) {h rd pl sp nw im kp tl ro rs ak : Nat} {st : Bool} {fp : Int32} {nq aq r0 rr ar yr yg yf rt rp : Nat} {sd zd gI last ag rx : Int32} {once af fo : Bool} {ff : Nat → Int32} {s t : PSt} (hs0 : SB s.1) (ht0 : SB t.1) (hs : NS s) (ht : NS t) : Ct sk yX6_lookAgain cX6_lookAgain 1 none 4 0 0 [oMain h rd pl sp nw im kp tl ro rs ak st fp, oPoleS nw nq s sd, cI nq 30 (fI s.1), oPoleS ak aq t zd, cI aq 30 (fI t.1), oRows ro r0 rr gI last once ar ag af yr yg yf, cZ yf 6 ff, oRests rs rt rp rx fo] [.ref h] (fun q w1 => q = none ∧ ((s = t ∧ st = true ∧ w1 = [oMain h rd pl sp nw im kp tl ro rs ak st fp, oPoleS nw nq s sd, cI nq 30 (fI s.1), oPoleS ak aq t zd, cI aq 30 (fI t.1), oRows ro r0 rr gI last once ar ag af yr yg yf, cZ yf 6 ff, oRests rs rt rp rx fo]) ∨ w1 = [oMain h rd pl sp nw im kp tl ro rs ak true fp, oPoleS nw nq s sd, cI nq 30 (fI s.1), oPoleS ak aq s sd, cI aq 30 (fI s.1), oRows ro r0 rr gI last once ar ag false yr yg yf, cZ yf 6 (fun _ => zb false), oRests rs rt rp rx false])) := by
  refine Ct.of (own := RX6) (l := [some (.ref h)]) (by decide) rfl (Nat.le_of_ble_eq_true rfl) rfl ?_
  refine g_aload_n dX6_lookAgain_0 rfl rfl ?_
  refine g_get f_X6_65 dX6_lookAgain_1 rfl 0 rfl rfl ?_
  refine g_if_eqB (t := 22) dX6_lookAgain_4 (by decide) rfl (fun h4 => ?_) (fun h4 => ?_)
  · skip
    refine g_aload_n dX6_lookAgain_22 rfl rfl ?_
    refine g_get f_X6_62 dX6_lookAgain_23 rfl 0 rfl rfl ?_
    refine g_aload_n dX6_lookAgain_26 rfl rfl ?_
    refine g_get f_X6_29 dX6_lookAgain_27 rfl 0 rfl rfl ?_
    refine g_callV (c_X1_become sk) m_X6_190 a_X1_become dX6_lookAgain_30 rfl [3, 4, 1, 2] rfl rfl 0 rfl rfl rfl (by decide) (by decide) (by decide) (by decide) (Nat.le_of_ble_eq_true rfl) (fun r w hK => ?_)
    obtain ⟨rfl, rfl⟩ := hK
    refine ⟨rfl, ?_⟩
    dsimp only [puts, List.set, Option.toList, List.cons_append, List.nil_append, List.append_nil]
    refine g_aload_n dX6_lookAgain_33 rfl rfl ?_
    refine g_iconst (v := nI 1) dX6_lookAgain_34 rfl (by decide) ?_
    refine g_putZ (b := true) f_X6_65 dX6_lookAgain_35 rfl 0 rfl (Nat.le_of_ble_eq_true rfl) rfl ?_
    dsimp only [List.set]
    refine g_aload_n dX6_lookAgain_38 rfl rfl ?_
    refine g_get f_X6_51 dX6_lookAgain_39 rfl 0 rfl rfl ?_
    refine g_callV (c_X4_forget sk) m_X6_193 a_X4_forget dX6_lookAgain_42 rfl [5, 6] rfl rfl 0 rfl rfl rfl (by decide) (by decide) (by decide) (by decide) (Nat.le_of_ble_eq_true rfl) (fun r w hK => ?_)
    obtain ⟨rfl, rfl⟩ := hK
    refine ⟨rfl, ?_⟩
    dsimp only [puts, List.set, Option.toList, List.cons_append, List.nil_append, List.append_nil]
    refine g_aload_n dX6_lookAgain_45 rfl rfl ?_
    refine g_get f_X6_58 dX6_lookAgain_46 rfl 0 rfl rfl ?_
    refine g_callV (c_X3_forget sk) m_X6_196 a_X3_forget dX6_lookAgain_49 rfl [7] rfl rfl 0 rfl rfl rfl (by decide) (by decide) (by decide) (by decide) (Nat.le_of_ble_eq_true rfl) (fun r w hK => ?_)
    obtain ⟨rfl, rfl⟩ := hK
    refine ⟨rfl, ?_⟩
    dsimp only [puts, List.set, Option.toList, List.cons_append, List.nil_append, List.append_nil]
    exact g_vret dX6_lookAgain_52 rfl (Nat.le_refl _) (Nat.le_refl _) (⟨rfl, Or.inr rfl⟩)
  · skip
    refine g_aload_n dX6_lookAgain_7 rfl rfl ?_
    refine g_get f_X6_62 dX6_lookAgain_8 rfl 0 rfl rfl ?_
    refine g_aload_n dX6_lookAgain_11 rfl rfl ?_
    refine g_get f_X6_29 dX6_lookAgain_12 rfl 0 rfl rfl ?_
    refine g_callV (c_X1_isLike sk ht0 hs0) m_X6_186 a_X1_isLike dX6_lookAgain_15 rfl [3, 4, 1, 2] rfl rfl 0 rfl rfl rfl (by decide) (by decide) (by decide) (by decide) (Nat.le_of_ble_eq_true rfl) (fun r w hK => ?_)
    obtain ⟨rfl, rfl⟩ := hK
    refine ⟨rfl, ?_⟩
    dsimp only [puts, List.set, Option.toList, List.cons_append, List.nil_append, List.append_nil]
    refine g_if_eqB (t := 22) dX6_lookAgain_18 (by decide) rfl (fun h18 => ?_) (fun h18 => ?_)
    · skip
      refine g_aload_n dX6_lookAgain_22 rfl rfl ?_
      refine g_get f_X6_62 dX6_lookAgain_23 rfl 0 rfl rfl ?_
      refine g_aload_n dX6_lookAgain_26 rfl rfl ?_
      refine g_get f_X6_29 dX6_lookAgain_27 rfl 0 rfl rfl ?_
      refine g_callV (c_X1_become sk) m_X6_190 a_X1_become dX6_lookAgain_30 rfl [3, 4, 1, 2] rfl rfl 0 rfl rfl rfl (by decide) (by decide) (by decide) (by decide) (Nat.le_of_ble_eq_true rfl) (fun r w hK => ?_)
      obtain ⟨rfl, rfl⟩ := hK
      refine ⟨rfl, ?_⟩
      dsimp only [puts, List.set, Option.toList, List.cons_append, List.nil_append, List.append_nil]
      refine g_aload_n dX6_lookAgain_33 rfl rfl ?_
      refine g_iconst (v := nI 1) dX6_lookAgain_34 rfl (by decide) ?_
      refine g_putZ (b := true) f_X6_65 dX6_lookAgain_35 rfl 0 rfl (Nat.le_of_ble_eq_true rfl) rfl ?_
      dsimp only [List.set]
      refine g_aload_n dX6_lookAgain_38 rfl rfl ?_
      refine g_get f_X6_51 dX6_lookAgain_39 rfl 0 rfl rfl ?_
      refine g_callV (c_X4_forget sk) m_X6_193 a_X4_forget dX6_lookAgain_42 rfl [5, 6] rfl rfl 0 rfl rfl rfl (by decide) (by decide) (by decide) (by decide) (Nat.le_of_ble_eq_true rfl) (fun r w hK => ?_)
      obtain ⟨rfl, rfl⟩ := hK
      refine ⟨rfl, ?_⟩
      dsimp only [puts, List.set, Option.toList, List.cons_append, List.nil_append, List.append_nil]
      refine g_aload_n dX6_lookAgain_45 rfl rfl ?_
      refine g_get f_X6_58 dX6_lookAgain_46 rfl 0 rfl rfl ?_
      refine g_callV (c_X3_forget sk) m_X6_196 a_X3_forget dX6_lookAgain_49 rfl [7] rfl rfl 0 rfl rfl rfl (by decide) (by decide) (by decide) (by decide) (Nat.le_of_ble_eq_true rfl) (fun r w hK => ?_)
      obtain ⟨rfl, rfl⟩ := hK
      refine ⟨rfl, ?_⟩
      dsimp only [puts, List.set, Option.toList, List.cons_append, List.nil_append, List.append_nil]
      exact g_vret dX6_lookAgain_52 rfl (Nat.le_refl _) (Nat.le_refl _) (⟨rfl, Or.inr rfl⟩)
    · skip
      exact g_vret dX6_lookAgain_21 rfl (Nat.le_refl _) (Nat.le_refl _) (⟨rfl, Or.inl ⟨(likeB_eq ht hs h18).symm, h4, rfl⟩⟩)
def rstA (R : (Nat → Int32) × Int32) (x : Int32) : Int32 := if x = -1 ∨ R.2 = -1 then R.2 else R.1 x.toNatClampNeg
set_option maxRecDepth 20000 in
theorem c_X6_restsF (sk : Nat → Nat) {h rd pl sp nw im kp tl ro rs ak : Nat} {st : Bool} {fp : Int32} {nq aq r0 rr ar yr yg yf rt rp rq ps pw pa pr F C N S : Nat} {sd zd gI last ag rx g0 o0 d0 V E : Int32} {once af fo : Bool} {ff ft f0 : Nat → Int32} {s t : PSt} {w a r : Nat → Nat} {x : Int32} (hx : ¬ x = -1) (hx2 : inR x C = false) : Ct sk yX6_rests cX6_rests 2 (some .int) 5 0 0 [oMain h rd pl sp nw im kp tl ro rs ak st fp, oPoleS nw nq s sd, cI nq 30 (fI s.1), oPoleS ak aq t zd, cI aq 30 (fI t.1), oRows ro r0 rr gI last once ar ag af yr yg yf, cZ yf 6 ff, oRests rs rt rp rx fo, cI rt 6 ft, oPole rp rq g0 o0 d0, cI rq 30 f0, oPlan pl ps pw pa pr (nI F) (nI C) V E (nI N) (nI S), cI pw 6 (fI w), cI pa 6 (fI a), cI pr 6 (fI r)] [.ref h, .int x] (zD (some (.int (-1000000001))) [oMain h rd pl sp nw im kp tl ro rs ak st fp, oPoleS nw nq s sd, cI nq 30 (fI s.1), oPoleS ak aq t zd, cI aq 30 (fI t.1), oRows ro r0 rr gI last once ar ag af yr yg yf, cZ yf 6 ff, oRests rs rt rp rx fo, cI rt 6 ft, oPole rp rq g0 o0 d0, cI rq 30 f0, oPlan pl ps pw pa pr (nI F) (nI C) V E (nI N) (nI S), cI pw 6 (fI w), cI pa 6 (fI a), cI pr 6 (fI r)]) := by
  refine Ct.of (own := RX6) (l := [some (.ref h), some (.int x)]) (by decide) rfl (Nat.le_of_ble_eq_true rfl) rfl ?_
  refine g_iload_n dX6_rests_0 rfl rfl ?_
  refine g_iconst (v := -1) dX6_rests_1 rfl (by decide) ?_
  refine g_icmp_eq (t := 19) dX6_rests_2 (by decide) rfl (fun h2 => ?_) (fun h2 => ?_)
  · exact absurd h2 hx
  · skip
    refine g_aload_n dX6_rests_5 rfl rfl ?_
    refine g_get f_X6_19 dX6_rests_6 rfl 0 rfl rfl ?_
    refine g_iload_n dX6_rests_9 rfl rfl ?_
    refine g_callV (c_X0_hasClimber sk) m_X6_144 a_X0_hasClimber dX6_rests_10 rfl [11] rfl rfl 0 rfl rfl rfl (by decide) (by decide) (by decide) (by decide) (Nat.le_of_ble_eq_true rfl) (fun r w hK => ?_)
    obtain ⟨rfl, rfl⟩ := hK
    refine ⟨rfl, ?_⟩
    dsimp only [puts, List.set, Option.toList, List.cons_append, List.nil_append, List.append_nil]
    refine g_if_neB (t := 19) dX6_rests_13 (by decide) rfl (fun h13 => ?_) (fun h13 => ?_)
    · exact absurd hx2 (by rw [h13]; decide)
    · skip
      refine g_ldc dX6_rests_16 rfl k_X6_143 ?_
      exact g_iret dX6_rests_18 rfl (Nat.le_refl _) (Nat.le_refl _) (⟨rfl, rfl⟩)
set_option maxRecDepth 20000 in
theorem c_X6_rests (sk : Nat → Nat) {h rd pl sp nw im kp tl ro rs ak : Nat} {st : Bool} {fp : Int32} {nq aq r0 rr ar yr yg yf rt rp rq ps pw pa pr F C N S : Nat} {sd zd gI last ag rx g0 o0 d0 V E : Int32} {once af fo : Bool} {ff ft f0 : Nat → Int32} {s t : PSt} {w a r : Nat → Nat} {x : Int32} (hB : PB F C N S w a r) (hs0 : SB s.1) (ht0 : SB t.1) (hs : NS s) (ht : NS t) (hx : x = -1 ∨ ∃ j, j < 6 ∧ x = nI j) (hx2 : x = -1 ∨ inR x C = true) (hfo : st = true → fo = true → ft = (restsR F C N S w a r V E t).1 ∧ rx = (restsR F C N S w a r V E t).2) : Ct sk yX6_rests cX6_rests 2 (some .int) 8 0 0 [oMain h rd pl sp nw im kp tl ro rs ak st fp, oPoleS nw nq s sd, cI nq 30 (fI s.1), oPoleS ak aq t zd, cI aq 30 (fI t.1), oRows ro r0 rr gI last once ar ag af yr yg yf, cZ yf 6 ff, oRests rs rt rp rx fo, cI rt 6 ft, oPole rp rq g0 o0 d0, cI rq 30 f0, oPlan pl ps pw pa pr (nI F) (nI C) V E (nI N) (nI S), cI pw 6 (fI w), cI pa 6 (fI a), cI pr 6 (fI r)] [.ref h, .int x] (fun q w1 => q = some (.int (rstA (restsR F C N S w a r V E s) x)) ∧ ∃ (zd2 g0 o0 d0 : Int32) (f0 ff2 : Nat → Int32) (af2 : Bool), w1 = [oMain h rd pl sp nw im kp tl ro rs ak true fp, oPoleS nw nq s sd, cI nq 30 (fI s.1), oPoleS ak aq s zd2, cI aq 30 (fI s.1), oRows ro r0 rr gI last once ar ag af2 yr yg yf, cZ yf 6 ff2, oRests rs rt rp (restsR F C N S w a r V E s).2 true, cI rt 6 (restsR F C N S w a r V E s).1, oPole rp rq g0 o0 d0, cI rq 30 f0, oPlan pl ps pw pa pr (nI F) (nI C) V E (nI N) (nI S), cI pw 6 (fI w), cI pa 6 (fI a), cI pr 6 (fI r)] ∧ ((s = t ∧ st = true ∧ af2 = af ∧ ff2 = ff) ∨ (af2 = false ∧ ff2 = fun _ => zb false))) := by
  refine Ct.of (own := RX6) (l := [some (.ref h), some (.int x)]) (by decide) rfl (Nat.le_of_ble_eq_true rfl) rfl ?_
  refine g_iload_n dX6_rests_0 rfl rfl ?_
  refine g_iconst (v := -1) dX6_rests_1 rfl (by decide) ?_
  refine g_icmp_eq (t := 19) dX6_rests_2 (by decide) rfl (fun h2 => ?_) (fun h2 => ?_)
  · skip
    refine g_aload_n dX6_rests_19 rfl rfl ?_
    refine g_callV (c_X6_lookAgain sk hs0 ht0 hs ht) m_X6_172 a_X6_lookAgain dX6_rests_20 rfl [0, 1, 2, 3, 4, 5, 6, 7] rfl rfl 0 rfl rfl rfl (by decide) (by decide) (by decide) (by decide) (Nat.le_of_ble_eq_true rfl) (fun r w hK => ?_)
    obtain ⟨rfl, hL⟩ := hK
    rcases hL with ⟨e1, e2, rfl⟩ | rfl
    · subst e1; subst e2
      refine ⟨rfl, ?_⟩
      dsimp only [puts, List.set, Option.toList, List.cons_append, List.nil_append, List.append_nil]
      refine g_aload_n dX6_rests_23 rfl rfl ?_
      refine g_get f_X6_58 dX6_rests_24 rfl 0 rfl rfl ?_
      refine g_aload_n dX6_rests_27 rfl rfl ?_
      refine g_get f_X6_19 dX6_rests_28 rfl 0 rfl rfl ?_
      refine g_aload_n dX6_rests_31 rfl rfl ?_
      refine g_get f_X6_62 dX6_rests_32 rfl 0 rfl rfl ?_
      refine g_iload_n dX6_rests_35 rfl rfl ?_
      refine g_callV (c_X3_answer sk hB hs0 hx (hfo rfl)) m_X6_183 a_X3_answer dX6_rests_36 rfl [7, 8, 9, 10, 3, 4, 11, 12, 13, 14] rfl rfl 0 rfl rfl rfl (by decide) (by decide) (by decide) (by decide) (Nat.le_of_ble_eq_true rfl) (fun r w hK => ?_)
      obtain ⟨rfl, g1, o1, d1, f1, rfl⟩ := hK
      refine ⟨rfl, ?_⟩
      dsimp only [puts, List.set, Option.toList, List.cons_append, List.nil_append, List.append_nil]
      exact g_iret dX6_rests_39 rfl (Nat.le_refl _) (Nat.le_refl _) (⟨rfl, _, _, _, _, _, _, _, rfl, Or.inl ⟨rfl, rfl, rfl, rfl⟩⟩)
    · refine ⟨rfl, ?_⟩
      dsimp only [puts, List.set, Option.toList, List.cons_append, List.nil_append, List.append_nil]
      refine g_aload_n dX6_rests_23 rfl rfl ?_
      refine g_get f_X6_58 dX6_rests_24 rfl 0 rfl rfl ?_
      refine g_aload_n dX6_rests_27 rfl rfl ?_
      refine g_get f_X6_19 dX6_rests_28 rfl 0 rfl rfl ?_
      refine g_aload_n dX6_rests_31 rfl rfl ?_
      refine g_get f_X6_62 dX6_rests_32 rfl 0 rfl rfl ?_
      refine g_iload_n dX6_rests_35 rfl rfl ?_
      refine g_callV (c_X3_answer sk hB hs0 hx (fun z => absurd z (by decide))) m_X6_183 a_X3_answer dX6_rests_36 rfl [7, 8, 9, 10, 3, 4, 11, 12, 13, 14] rfl rfl 0 rfl rfl rfl (by decide) (by decide) (by decide) (by decide) (Nat.le_of_ble_eq_true rfl) (fun r w hK => ?_)
      obtain ⟨rfl, g1, o1, d1, f1, rfl⟩ := hK
      refine ⟨rfl, ?_⟩
      dsimp only [puts, List.set, Option.toList, List.cons_append, List.nil_append, List.append_nil]
      exact g_iret dX6_rests_39 rfl (Nat.le_refl _) (Nat.le_refl _) (⟨rfl, _, _, _, _, _, _, _, rfl, Or.inr ⟨rfl, rfl⟩⟩)
  · skip
    refine g_aload_n dX6_rests_5 rfl rfl ?_
    refine g_get f_X6_19 dX6_rests_6 rfl 0 rfl rfl ?_
    refine g_iload_n dX6_rests_9 rfl rfl ?_
    refine g_callV (c_X0_hasClimber sk) m_X6_144 a_X0_hasClimber dX6_rests_10 rfl [11] rfl rfl 0 rfl rfl rfl (by decide) (by decide) (by decide) (by decide) (Nat.le_of_ble_eq_true rfl) (fun r w hK => ?_)
    obtain ⟨rfl, rfl⟩ := hK
    refine ⟨rfl, ?_⟩
    dsimp only [puts, List.set, Option.toList, List.cons_append, List.nil_append, List.append_nil]
    refine g_if_neB (t := 19) dX6_rests_13 (by decide) rfl (fun h13 => ?_) (fun h13 => ?_)
    · skip
      refine g_aload_n dX6_rests_19 rfl rfl ?_
      refine g_callV (c_X6_lookAgain sk hs0 ht0 hs ht) m_X6_172 a_X6_lookAgain dX6_rests_20 rfl [0, 1, 2, 3, 4, 5, 6, 7] rfl rfl 0 rfl rfl rfl (by decide) (by decide) (by decide) (by decide) (Nat.le_of_ble_eq_true rfl) (fun r w hK => ?_)
      obtain ⟨rfl, hL⟩ := hK
      rcases hL with ⟨e1, e2, rfl⟩ | rfl
      · subst e1; subst e2
        refine ⟨rfl, ?_⟩
        dsimp only [puts, List.set, Option.toList, List.cons_append, List.nil_append, List.append_nil]
        refine g_aload_n dX6_rests_23 rfl rfl ?_
        refine g_get f_X6_58 dX6_rests_24 rfl 0 rfl rfl ?_
        refine g_aload_n dX6_rests_27 rfl rfl ?_
        refine g_get f_X6_19 dX6_rests_28 rfl 0 rfl rfl ?_
        refine g_aload_n dX6_rests_31 rfl rfl ?_
        refine g_get f_X6_62 dX6_rests_32 rfl 0 rfl rfl ?_
        refine g_iload_n dX6_rests_35 rfl rfl ?_
        refine g_callV (c_X3_answer sk hB hs0 hx (hfo rfl)) m_X6_183 a_X3_answer dX6_rests_36 rfl [7, 8, 9, 10, 3, 4, 11, 12, 13, 14] rfl rfl 0 rfl rfl rfl (by decide) (by decide) (by decide) (by decide) (Nat.le_of_ble_eq_true rfl) (fun r w hK => ?_)
        obtain ⟨rfl, g1, o1, d1, f1, rfl⟩ := hK
        refine ⟨rfl, ?_⟩
        dsimp only [puts, List.set, Option.toList, List.cons_append, List.nil_append, List.append_nil]
        exact g_iret dX6_rests_39 rfl (Nat.le_refl _) (Nat.le_refl _) (⟨rfl, _, _, _, _, _, _, _, rfl, Or.inl ⟨rfl, rfl, rfl, rfl⟩⟩)
      · refine ⟨rfl, ?_⟩
        dsimp only [puts, List.set, Option.toList, List.cons_append, List.nil_append, List.append_nil]
        refine g_aload_n dX6_rests_23 rfl rfl ?_
        refine g_get f_X6_58 dX6_rests_24 rfl 0 rfl rfl ?_
        refine g_aload_n dX6_rests_27 rfl rfl ?_
        refine g_get f_X6_19 dX6_rests_28 rfl 0 rfl rfl ?_
        refine g_aload_n dX6_rests_31 rfl rfl ?_
        refine g_get f_X6_62 dX6_rests_32 rfl 0 rfl rfl ?_
        refine g_iload_n dX6_rests_35 rfl rfl ?_
        refine g_callV (c_X3_answer sk hB hs0 hx (fun z => absurd z (by decide))) m_X6_183 a_X3_answer dX6_rests_36 rfl [7, 8, 9, 10, 3, 4, 11, 12, 13, 14] rfl rfl 0 rfl rfl rfl (by decide) (by decide) (by decide) (by decide) (Nat.le_of_ble_eq_true rfl) (fun r w hK => ?_)
        obtain ⟨rfl, g1, o1, d1, f1, rfl⟩ := hK
        refine ⟨rfl, ?_⟩
        dsimp only [puts, List.set, Option.toList, List.cons_append, List.nil_append, List.append_nil]
        exact g_iret dX6_rests_39 rfl (Nat.le_refl _) (Nat.le_refl _) (⟨rfl, _, _, _, _, _, _, _, rfl, Or.inr ⟨rfl, rfl⟩⟩)
    · exact absurd (hx2.resolve_left h2) (by rw [h13]; decide)
