/-! SoapPole: soap, towers, draws, sand, feeding, what is told -/
set_option maxRecDepth 20000 in
theorem c_X6_feedN (sk : Nat → Nat) {h rd pl sp nw im kp tl ro rs ak : Nat} {st : Bool} {fp : Int32} {rt rf rn fc len0 : Nat} {ai fa fp1 x : Int32} {pt hm sn : Bool} {b : Int64} {tx0 : Nat → Nat} {fb : Nat → Int32} (hx : x < nI 1 ∨ nI 8 < x) : Ct sk yX6_feed cX6_feed 4 (some .int) 2 0 0 [oMain h rd pl sp nw im kp tl ro rs ak st fp, oReader rd rt rf rn (nI len0) ai fa fp1 (nI fc) pt hm sn, cB rt 400 fb] [.ref h, .int x, .long b] (zD (some (.int (-1000000002))) [oMain h rd pl sp nw im kp tl ro rs ak st fp, oReader rd rt rf rn (nI len0) ai fa fp1 (nI fc) pt hm sn, cB rt 400 fb]) := by
  refine Ct.of (own := RX6) (l := [some (.ref h), some (.int x), some (.long b), none]) (by decide) rfl (Nat.le_of_ble_eq_true rfl) rfl ?_
  refine g_iload_n dX6_feed_0 rfl rfl ?_
  refine g_iconst (v := nI 1) dX6_feed_1 rfl (by decide) ?_
  refine g_icmp_lt (t := 11) dX6_feed_2 (by decide) rfl (fun h2 => ?_) (fun h2 => ?_)
  · skip
    refine g_ldc dX6_feed_11 rfl k_X6_73 ?_
    exact g_iret dX6_feed_13 rfl (Nat.le_refl _) (Nat.le_refl _) (⟨rfl, rfl⟩)
  · skip
    refine g_iload_n dX6_feed_5 rfl rfl ?_
    refine g_bipush (v := nI 8) dX6_feed_6 rfl (by decide) ?_
    refine g_icmp_le (t := 14) dX6_feed_8 (by decide) rfl (fun h8 => ?_) (fun h8 => ?_)
    · exact absurd hx (by rw [not_or, Int32.not_lt, Int32.not_lt]; exact ⟨by rw [← Int32.not_lt]; exact h2, h8⟩)
    · skip
      refine g_ldc dX6_feed_11 rfl k_X6_73 ?_
      exact g_iret dX6_feed_13 rfl (Nat.le_refl _) (Nat.le_refl _) (⟨rfl, rfl⟩)
theorem nI_rng {x : Int32} {a b : Nat} (ha : a < 2 ^ 31) (hb : b < 2 ^ 31) (h : ¬ (x < nI a ∨ nI b < x)) : ∃ j : Nat, x = nI j ∧ a ≤ j ∧ j ≤ b := by
  rw [not_or] at h
  have h1 : ¬ x < 0 := fun z => h.1 (by
    have h0 : (nI 0 : Int32) ≤ nI a := (nI_leI (by decide) ha).mpr (Nat.zero_le _)
    rw [Int32.lt_iff_toInt_lt] at z ⊢
    rw [Int32.le_iff_toInt_le] at h0
    have e : (nI 0).toInt = (0 : Int32).toInt := rfl
    omega)
  obtain ⟨j, hj, rfl⟩ := nI_of h1
  refine ⟨j, rfl, ?_, ?_⟩
  · exact Nat.le_of_not_lt (fun z => h.1 ((nI_ltI hj ha).mpr z))
  · exact Nat.le_of_not_lt (fun z => h.2 ((nI_ltI hb hj).mpr z))
set_option maxRecDepth 20000 in
theorem c_X6_feedF (sk : Nat → Nat) {h rd pl sp nw im kp tl ro rs ak : Nat} {st : Bool} {fp : Int32} {rt rf rn fc len0 : Nat} {j : Nat} {ai fa fp1 : Int32} {pt hm sn : Bool} {b : Int64} {tx0 : Nat → Nat} {fb : Nat → Int32} (hj : 1 ≤ j ∧ j ≤ 8) (hl : len0 ≤ 400) (h4 : 400 < len0 + j) : Ct sk yX6_feed cX6_feed 4 (some .int) 2 0 0 [oMain h rd pl sp nw im kp tl ro rs ak st fp, oReader rd rt rf rn (nI len0) ai fa fp1 (nI fc) pt hm sn, cB rt 400 fb] [.ref h, .int (nI j), .long b] (zD (some (.int (-1000000004))) [oMain h rd pl sp nw im kp tl ro rs ak st fp, oReader rd rt rf rn (nI len0) ai fa fp1 (nI fc) pt hm sn, cB rt 400 fb]) := by
  refine Ct.of (own := RX6) (l := [some (.ref h), some (.int (nI j)), some (.long b), none]) (by decide) rfl (Nat.le_of_ble_eq_true rfl) rfl ?_
  refine g_iload_n dX6_feed_0 rfl rfl ?_
  refine g_iconst (v := nI 1) dX6_feed_1 rfl (by decide) ?_
  refine g_icmp_ltN (t := 11) dX6_feed_2 (by decide) rfl (by omega) (by omega) (fun h2 => ?_) (fun h2 => ?_)
  · exact absurd h2 (by omega)
  · skip
    refine g_iload_n dX6_feed_5 rfl rfl ?_
    refine g_bipush (v := nI 8) dX6_feed_6 rfl (by decide) ?_
    refine g_icmp_leN (t := 14) dX6_feed_8 (by decide) rfl (by omega) (by omega) (fun h8 => ?_) (fun h8 => ?_)
    · skip
      refine g_iload_n dX6_feed_14 rfl rfl ?_
      refine g_aload_n dX6_feed_15 rfl rfl ?_
      refine g_get f_X6_10 dX6_feed_16 rfl 0 rfl rfl ?_
      refine g_callV (c_X2_room sk hl) m_X6_74 a_X2_room dX6_feed_19 rfl [1, 2] rfl rfl 0 rfl rfl rfl (by decide) (by decide) (by decide) (by decide) (Nat.le_of_ble_eq_true rfl) (fun r w hK => ?_)
      obtain ⟨rfl, rfl⟩ := hK
      refine ⟨rfl, ?_⟩
      dsimp only [puts, List.set, Option.toList, List.cons_append, List.nil_append, List.append_nil]
      refine g_icmp_leN (t := 28) dX6_feed_22 (by decide) rfl (by omega) (by omega) (fun h22 => ?_) (fun h22 => ?_)
      · exact absurd h22 (by omega)
      · skip
        refine g_ldc dX6_feed_25 rfl k_X6_78 ?_
        exact g_iret dX6_feed_27 rfl (Nat.le_refl _) (Nat.le_refl _) (⟨rfl, rfl⟩)
    · exact absurd h8 (by omega)
set_option maxRecDepth 20000 in
theorem c_X6_feed (sk : Nat → Nat) {h rd pl sp nw im kp tl ro rs ak : Nat} {st : Bool} {fp : Int32} {rt rf rn fc len0 : Nat} {j : Nat} {ai fa fp1 : Int32} {pt hm sn : Bool} {b : Int64} {tx0 : Nat → Nat} {fb : Nat → Int32} (hj : 1 ≤ j ∧ j ≤ 8) (h4 : len0 + j ≤ 400) (hb : ∀ i, i < len0 → fb i = (nI (tx0 i)).toInt8.toInt32 ∧ tx0 i < 256) : Ct sk yX6_feed cX6_feed 4 (some .int) 2 0 0 [oMain h rd pl sp nw im kp tl ro rs ak st fp, oReader rd rt rf rn (nI len0) ai fa fp1 (nI fc) pt hm sn, cB rt 400 fb] [.ref h, .int (nI j), .long b] (fun q w1 => q = some (.int (nI (len0 + j))) ∧ ∃ fb2 : Nat → Int32, w1 = [oMain h rd pl sp nw im kp tl ro rs ak st fp, oReader rd rt rf rn (nI (len0 + j)) ai fa fp1 (nI fc) pt hm sn, cB rt 400 fb2] ∧ ∀ i, i < len0 + j → fb2 i = (nI (apF b j len0 tx0 i)).toInt8.toInt32 ∧ apF b j len0 tx0 i < 256) := by
  refine Ct.of (own := RX6) (l := [some (.ref h), some (.int (nI j)), some (.long b), none]) (by decide) rfl (Nat.le_of_ble_eq_true rfl) rfl ?_
  refine g_iload_n dX6_feed_0 rfl rfl ?_
  refine g_iconst (v := nI 1) dX6_feed_1 rfl (by decide) ?_
  refine g_icmp_ltN (t := 11) dX6_feed_2 (by decide) rfl (by omega) (by omega) (fun h2 => ?_) (fun h2 => ?_)
  · exact absurd h2 (by omega)
  · skip
    refine g_iload_n dX6_feed_5 rfl rfl ?_
    refine g_bipush (v := nI 8) dX6_feed_6 rfl (by decide) ?_
    refine g_icmp_leN (t := 14) dX6_feed_8 (by decide) rfl (by omega) (by omega) (fun h8 => ?_) (fun h8 => ?_)
    · skip
      refine g_iload_n dX6_feed_14 rfl rfl ?_
      refine g_aload_n dX6_feed_15 rfl rfl ?_
      refine g_get f_X6_10 dX6_feed_16 rfl 0 rfl rfl ?_
      refine g_callV (c_X2_room sk (show len0 ≤ 400 by omega)) m_X6_74 a_X2_room dX6_feed_19 rfl [1, 2] rfl rfl 0 rfl rfl rfl (by decide) (by decide) (by decide) (by decide) (Nat.le_of_ble_eq_true rfl) (fun r w hK => ?_)
      obtain ⟨rfl, rfl⟩ := hK
      refine ⟨rfl, ?_⟩
      dsimp only [puts, List.set, Option.toList, List.cons_append, List.nil_append, List.append_nil]
      refine g_icmp_leN (t := 28) dX6_feed_22 (by decide) rfl (by omega) (by omega) (fun h22 => ?_) (fun h22 => ?_)
      · skip
        refine g_aload_n dX6_feed_28 rfl rfl ?_
        refine g_get f_X6_10 dX6_feed_29 rfl 0 rfl rfl ?_
        refine g_iload_n dX6_feed_32 rfl rfl ?_
        refine g_lload_n dX6_feed_33 rfl rfl ?_
        refine g_callV (c_X2_append sk h4 hj.2 hb) m_X6_79 a_X2_append dX6_feed_34 rfl [1, 2] rfl rfl 0 rfl rfl rfl (by decide) (by decide) (by decide) (by decide) (Nat.le_of_ble_eq_true rfl) (fun r w hK => ?_)
        obtain ⟨rfl, fb2, rfl, hfb⟩ := hK
        refine ⟨rfl, ?_⟩
        dsimp only [puts, List.set, Option.toList, List.cons_append, List.nil_append, List.append_nil]
        exact g_iret dX6_feed_37 rfl (Nat.le_refl _) (Nat.le_refl _) (⟨rfl, fb2, rfl, hfb⟩)
      · exact absurd h22 (by omega)
    · exact absurd h8 (by omega)
set_option maxRecDepth 20000 in
theorem c_X6_climberF (sk : Nat → Nat) {h rd pl sp nw im kp tl ro rs ak : Nat} {st : Bool} {fp : Int32} {nq ps pw pa pr F C N S : Nat} {sd V E : Int32} {s : PSt} {w a r : Nat → Nat} {x z : Int32} (hx : inR x C = false) : Ct sk yX6_climber cX6_climber 3 (some .int) 2 0 0 [oMain h rd pl sp nw im kp tl ro rs ak st fp, oPoleS nw nq s sd, cI nq 30 (fI s.1), oPlan pl ps pw pa pr (nI F) (nI C) V E (nI N) (nI S), cI pw 6 (fI w), cI pa 6 (fI a), cI pr 6 (fI r)] [.ref h, .int x, .int z] (zD (some (.int (-1000000001))) [oMain h rd pl sp nw im kp tl ro rs ak st fp, oPoleS nw nq s sd, cI nq 30 (fI s.1), oPlan pl ps pw pa pr (nI F) (nI C) V E (nI N) (nI S), cI pw 6 (fI w), cI pa 6 (fI a), cI pr 6 (fI r)]) := by
  refine Ct.of (own := RX6) (l := [some (.ref h), some (.int x), some (.int z)]) (by decide) rfl (Nat.le_of_ble_eq_true rfl) rfl ?_
  refine g_aload_n dX6_climber_0 rfl rfl ?_
  refine g_get f_X6_19 dX6_climber_1 rfl 0 rfl rfl ?_
  refine g_iload_n dX6_climber_4 rfl rfl ?_
  refine g_callV (c_X0_hasClimber sk) m_X6_144 a_X0_hasClimber dX6_climber_5 rfl [3] rfl rfl 0 rfl rfl rfl (by decide) (by decide) (by decide) (by decide) (Nat.le_of_ble_eq_true rfl) (fun r w hK => ?_)
  obtain ⟨rfl, rfl⟩ := hK
  refine ⟨rfl, ?_⟩
  dsimp only [puts, List.set, Option.toList, List.cons_append, List.nil_append, List.append_nil]
  refine g_if_neB (t := 14) dX6_climber_8 (by decide) rfl (fun h8 => ?_) (fun h8 => ?_)
  · exact absurd hx (by rw [h8]; decide)
  · skip
    refine g_ldc dX6_climber_11 rfl k_X6_143 ?_
    exact g_iret dX6_climber_13 rfl (Nat.le_refl _) (Nat.le_refl _) (⟨rfl, rfl⟩)
set_option maxRecDepth 20000 in
theorem c_X6_climberN (sk : Nat → Nat) {h rd pl sp nw im kp tl ro rs ak : Nat} {st : Bool} {fp : Int32} {nq ps pw pa pr F C N S : Nat} {sd V E : Int32} {s : PSt} {w a r : Nat → Nat} {c : Nat} {z : Int32} (hB : PB F C N S w a r) (hs0 : SB s.1) (hc : c < C) (hz : z.toInt < 0 ∨ 3 < z.toInt) : Ct sk yX6_climber cX6_climber 3 (some .int) 2 0 0 [oMain h rd pl sp nw im kp tl ro rs ak st fp, oPoleS nw nq s sd, cI nq 30 (fI s.1), oPlan pl ps pw pa pr (nI F) (nI C) V E (nI N) (nI S), cI pw 6 (fI w), cI pa 6 (fI a), cI pr 6 (fI r)] [.ref h, .int (nI c), .int z] (zD (some (.int (-1000000002))) [oMain h rd pl sp nw im kp tl ro rs ak st fp, oPoleS nw nq s sd, cI nq 30 (fI s.1), oPlan pl ps pw pa pr (nI F) (nI C) V E (nI N) (nI S), cI pw 6 (fI w), cI pa 6 (fI a), cI pr 6 (fI r)]) := by
  refine Ct.of (own := RX6) (l := [some (.ref h), some (.int (nI c)), some (.int z)]) (by decide) rfl (Nat.le_of_ble_eq_true rfl) rfl ?_
  refine g_aload_n dX6_climber_0 rfl rfl ?_
  refine g_get f_X6_19 dX6_climber_1 rfl 0 rfl rfl ?_
  refine g_iload_n dX6_climber_4 rfl rfl ?_
  refine g_callV (c_X0_hasClimber sk) m_X6_144 a_X0_hasClimber dX6_climber_5 rfl [3] rfl rfl 0 rfl rfl rfl (by decide) (by decide) (by decide) (by decide) (Nat.le_of_ble_eq_true rfl) (fun r w hK => ?_)
  obtain ⟨rfl, rfl⟩ := hK
  refine ⟨rfl, ?_⟩
  dsimp only [puts, List.set, Option.toList, List.cons_append, List.nil_append, List.append_nil]
  refine g_if_neB (t := 14) dX6_climber_8 (by decide) rfl (fun h8 => ?_) (fun h8 => ?_)
  · skip
    refine g_iload_n dX6_climber_14 rfl rfl ?_
    skip
    · refine g_tblOut (q := 86) dX6_climber_15 hz (by decide) ?_
      refine g_ldc dX6_climber_86 rfl k_X6_73 ?_
      exact g_iret dX6_climber_88 rfl (Nat.le_refl _) (Nat.le_refl _) (⟨rfl, rfl⟩)
  · exact absurd (inR_N hc (by have := hB.2.1; omega)) (by rw [h8]; decide)
set_option maxRecDepth 20000 in
theorem c_X6_climber0 (sk : Nat → Nat) {h rd pl sp nw im kp tl ro rs ak : Nat} {st : Bool} {fp : Int32} {nq ps pw pa pr F C N S : Nat} {sd V E : Int32} {s : PSt} {w a r : Nat → Nat} {c : Nat} (hB : PB F C N S w a r) (hs0 : SB s.1) (hc : c < C) : Ct sk yX6_climber cX6_climber 3 (some .int) 2 0 0 [oMain h rd pl sp nw im kp tl ro rs ak st fp, oPoleS nw nq s sd, cI nq 30 (fI s.1), oPlan pl ps pw pa pr (nI F) (nI C) V E (nI N) (nI S), cI pw 6 (fI w), cI pa 6 (fI a), cI pr 6 (fI r)] [.ref h, .int (nI c), .int (nI 0)] (zD (some (.int (nI (w c)))) [oMain h rd pl sp nw im kp tl ro rs ak st fp, oPoleS nw nq s sd, cI nq 30 (fI s.1), oPlan pl ps pw pa pr (nI F) (nI C) V E (nI N) (nI S), cI pw 6 (fI w), cI pa 6 (fI a), cI pr 6 (fI r)]) := by
  have hc6 : c < 6 := by have := hB.2.1; omega
  refine Ct.of (own := RX6) (l := [some (.ref h), some (.int (nI c)), some (.int (nI 0))]) (by decide) rfl (Nat.le_of_ble_eq_true rfl) rfl ?_
  refine g_aload_n dX6_climber_0 rfl rfl ?_
  refine g_get f_X6_19 dX6_climber_1 rfl 0 rfl rfl ?_
  refine g_iload_n dX6_climber_4 rfl rfl ?_
  refine g_callV (c_X0_hasClimber sk) m_X6_144 a_X0_hasClimber dX6_climber_5 rfl [3] rfl rfl 0 rfl rfl rfl (by decide) (by decide) (by decide) (by decide) (Nat.le_of_ble_eq_true rfl) (fun r w hK => ?_)
  obtain ⟨rfl, rfl⟩ := hK
  refine ⟨rfl, ?_⟩
  dsimp only [puts, List.set, Option.toList, List.cons_append, List.nil_append, List.append_nil]
  refine g_if_neB (t := 14) dX6_climber_8 (by decide) rfl (fun h8 => ?_) (fun h8 => ?_)
  · skip
    refine g_iload_n dX6_climber_14 rfl rfl ?_
    skip
    · refine g_tblIn (q := 44) (off := 29) dX6_climber_15 (by decide) (by decide) (by decide) (by decide) ?_
      refine g_aload_n dX6_climber_44 rfl rfl ?_
      refine g_get f_X6_19 dX6_climber_45 rfl 0 rfl rfl ?_
      refine g_iload_n dX6_climber_48 rfl rfl ?_
      refine g_callV (c_X0_weightOf sk hc6) m_X6_147 a_X0_weightOf dX6_climber_49 rfl [3, 4] rfl rfl 0 rfl rfl rfl (by decide) (by decide) (by decide) (by decide) (Nat.le_of_ble_eq_true rfl) (fun r w hK => ?_)
      obtain ⟨rfl, rfl⟩ := hK
      refine ⟨rfl, ?_⟩
      dsimp only [puts, List.set, Option.toList, List.cons_append, List.nil_append, List.append_nil]
      exact g_iret dX6_climber_52 rfl (Nat.le_refl _) (Nat.le_refl _) (⟨rfl, rfl⟩)
  · exact absurd (inR_N hc (by have := hB.2.1; omega)) (by rw [h8]; decide)
set_option maxRecDepth 20000 in
theorem c_X6_climber1 (sk : Nat → Nat) {h rd pl sp nw im kp tl ro rs ak : Nat} {st : Bool} {fp : Int32} {nq ps pw pa pr F C N S : Nat} {sd V E : Int32} {s : PSt} {w a r : Nat → Nat} {c : Nat} (hB : PB F C N S w a r) (hs0 : SB s.1) (hc : c < C) : Ct sk yX6_climber cX6_climber 3 (some .int) 2 0 0 [oMain h rd pl sp nw im kp tl ro rs ak st fp, oPoleS nw nq s sd, cI nq 30 (fI s.1), oPlan pl ps pw pa pr (nI F) (nI C) V E (nI N) (nI S), cI pw 6 (fI w), cI pa 6 (fI a), cI pr 6 (fI r)] [.ref h, .int (nI c), .int (nI 1)] (zD (some (.int (nI (a c)))) [oMain h rd pl sp nw im kp tl ro rs ak st fp, oPoleS nw nq s sd, cI nq 30 (fI s.1), oPlan pl ps pw pa pr (nI F) (nI C) V E (nI N) (nI S), cI pw 6 (fI w), cI pa 6 (fI a), cI pr 6 (fI r)]) := by
  have hc6 : c < 6 := by have := hB.2.1; omega
  refine Ct.of (own := RX6) (l := [some (.ref h), some (.int (nI c)), some (.int (nI 1))]) (by decide) rfl (Nat.le_of_ble_eq_true rfl) rfl ?_
  refine g_aload_n dX6_climber_0 rfl rfl ?_
  refine g_get f_X6_19 dX6_climber_1 rfl 0 rfl rfl ?_
  refine g_iload_n dX6_climber_4 rfl rfl ?_
  refine g_callV (c_X0_hasClimber sk) m_X6_144 a_X0_hasClimber dX6_climber_5 rfl [3] rfl rfl 0 rfl rfl rfl (by decide) (by decide) (by decide) (by decide) (Nat.le_of_ble_eq_true rfl) (fun r w hK => ?_)
  obtain ⟨rfl, rfl⟩ := hK
  refine ⟨rfl, ?_⟩
  dsimp only [puts, List.set, Option.toList, List.cons_append, List.nil_append, List.append_nil]
  refine g_if_neB (t := 14) dX6_climber_8 (by decide) rfl (fun h8 => ?_) (fun h8 => ?_)
  · skip
    refine g_iload_n dX6_climber_14 rfl rfl ?_
    skip
    · refine g_tblIn (q := 53) (off := 38) dX6_climber_15 (by decide) (by decide) (by decide) (by decide) ?_
      refine g_aload_n dX6_climber_53 rfl rfl ?_
      refine g_get f_X6_19 dX6_climber_54 rfl 0 rfl rfl ?_
      refine g_iload_n dX6_climber_57 rfl rfl ?_
      refine g_callV (c_X0_armsOf sk hc6) m_X6_150 a_X0_armsOf dX6_climber_58 rfl [3, 5] rfl rfl 0 rfl rfl rfl (by decide) (by decide) (by decide) (by decide) (Nat.le_of_ble_eq_true rfl) (fun r w hK => ?_)
      obtain ⟨rfl, rfl⟩ := hK
      refine ⟨rfl, ?_⟩
      dsimp only [puts, List.set, Option.toList, List.cons_append, List.nil_append, List.append_nil]
      exact g_iret dX6_climber_61 rfl (Nat.le_refl _) (Nat.le_refl _) (⟨rfl, rfl⟩)
  · exact absurd (inR_N hc (by have := hB.2.1; omega)) (by rw [h8]; decide)
set_option maxRecDepth 20000 in
theorem c_X6_climber2 (sk : Nat → Nat) {h rd pl sp nw im kp tl ro rs ak : Nat} {st : Bool} {fp : Int32} {nq ps pw pa pr F C N S : Nat} {sd V E : Int32} {s : PSt} {w a r : Nat → Nat} {c : Nat} (hB : PB F C N S w a r) (hs0 : SB s.1) (hc : c < C) : Ct sk yX6_climber cX6_climber 3 (some .int) 2 0 0 [oMain h rd pl sp nw im kp tl ro rs ak st fp, oPoleS nw nq s sd, cI nq 30 (fI s.1), oPlan pl ps pw pa pr (nI F) (nI C) V E (nI N) (nI S), cI pw 6 (fI w), cI pa 6 (fI a), cI pr 6 (fI r)] [.ref h, .int (nI c), .int (nI 2)] (zD (some (.int (nI (r c)))) [oMain h rd pl sp nw im kp tl ro rs ak st fp, oPoleS nw nq s sd, cI nq 30 (fI s.1), oPlan pl ps pw pa pr (nI F) (nI C) V E (nI N) (nI S), cI pw 6 (fI w), cI pa 6 (fI a), cI pr 6 (fI r)]) := by
  have hc6 : c < 6 := by have := hB.2.1; omega
  refine Ct.of (own := RX6) (l := [some (.ref h), some (.int (nI c)), some (.int (nI 2))]) (by decide) rfl (Nat.le_of_ble_eq_true rfl) rfl ?_
  refine g_aload_n dX6_climber_0 rfl rfl ?_
  refine g_get f_X6_19 dX6_climber_1 rfl 0 rfl rfl ?_
  refine g_iload_n dX6_climber_4 rfl rfl ?_
  refine g_callV (c_X0_hasClimber sk) m_X6_144 a_X0_hasClimber dX6_climber_5 rfl [3] rfl rfl 0 rfl rfl rfl (by decide) (by decide) (by decide) (by decide) (Nat.le_of_ble_eq_true rfl) (fun r w hK => ?_)
  obtain ⟨rfl, rfl⟩ := hK
  refine ⟨rfl, ?_⟩
  dsimp only [puts, List.set, Option.toList, List.cons_append, List.nil_append, List.append_nil]
  refine g_if_neB (t := 14) dX6_climber_8 (by decide) rfl (fun h8 => ?_) (fun h8 => ?_)
  · skip
    refine g_iload_n dX6_climber_14 rfl rfl ?_
    skip
    · refine g_tblIn (q := 62) (off := 47) dX6_climber_15 (by decide) (by decide) (by decide) (by decide) ?_
      refine g_aload_n dX6_climber_62 rfl rfl ?_
      refine g_get f_X6_19 dX6_climber_63 rfl 0 rfl rfl ?_
      refine g_iload_n dX6_climber_66 rfl rfl ?_
      refine g_callV (c_X0_rubsOf sk hc6) m_X6_153 a_X0_rubsOf dX6_climber_67 rfl [3, 6] rfl rfl 0 rfl rfl rfl (by decide) (by decide) (by decide) (by decide) (Nat.le_of_ble_eq_true rfl) (fun r w hK => ?_)
      obtain ⟨rfl, rfl⟩ := hK
      refine ⟨rfl, ?_⟩
      dsimp only [puts, List.set, Option.toList, List.cons_append, List.nil_append, List.append_nil]
      exact g_iret dX6_climber_70 rfl (Nat.le_refl _) (Nat.le_refl _) (⟨rfl, rfl⟩)
  · exact absurd (inR_N hc (by have := hB.2.1; omega)) (by rw [h8]; decide)
set_option maxRecDepth 20000 in
theorem c_X6_climber3 (sk : Nat → Nat) {h rd pl sp nw im kp tl ro rs ak : Nat} {st : Bool} {fp : Int32} {nq ps pw pa pr F C N S : Nat} {sd V E : Int32} {s : PSt} {w a r : Nat → Nat} {c : Nat} (hB : PB F C N S w a r) (hs0 : SB s.1) (hc : c < C) : Ct sk yX6_climber cX6_climber 3 (some .int) 2 0 0 [oMain h rd pl sp nw im kp tl ro rs ak st fp, oPoleS nw nq s sd, cI nq 30 (fI s.1), oPlan pl ps pw pa pr (nI F) (nI C) V E (nI N) (nI S), cI pw 6 (fI w), cI pa 6 (fI a), cI pr 6 (fI r)] [.ref h, .int (nI c), .int (nI 3)] (zD (some (.int (nI (far1 F w a false s c)))) [oMain h rd pl sp nw im kp tl ro rs ak st fp, oPoleS nw nq s sd, cI nq 30 (fI s.1), oPlan pl ps pw pa pr (nI F) (nI C) V E (nI N) (nI S), cI pw 6 (fI w), cI pa 6 (fI a), cI pr 6 (fI r)]) := by
  have hc6 : c < 6 := by have := hB.2.1; omega
  refine Ct.of (own := RX6) (l := [some (.ref h), some (.int (nI c)), some (.int (nI 3))]) (by decide) rfl (Nat.le_of_ble_eq_true rfl) rfl ?_
  refine g_aload_n dX6_climber_0 rfl rfl ?_
  refine g_get f_X6_19 dX6_climber_1 rfl 0 rfl rfl ?_
  refine g_iload_n dX6_climber_4 rfl rfl ?_
  refine g_callV (c_X0_hasClimber sk) m_X6_144 a_X0_hasClimber dX6_climber_5 rfl [3] rfl rfl 0 rfl rfl rfl (by decide) (by decide) (by decide) (by decide) (Nat.le_of_ble_eq_true rfl) (fun r w hK => ?_)
  obtain ⟨rfl, rfl⟩ := hK
  refine ⟨rfl, ?_⟩
  dsimp only [puts, List.set, Option.toList, List.cons_append, List.nil_append, List.append_nil]
  refine g_if_neB (t := 14) dX6_climber_8 (by decide) rfl (fun h8 => ?_) (fun h8 => ?_)
  · skip
    refine g_iload_n dX6_climber_14 rfl rfl ?_
    skip
    · refine g_tblIn (q := 71) (off := 56) dX6_climber_15 (by decide) (by decide) (by decide) (by decide) ?_
      refine g_aload_n dX6_climber_71 rfl rfl ?_
      refine g_get f_X6_29 dX6_climber_72 rfl 0 rfl rfl ?_
      refine g_aload_n dX6_climber_75 rfl rfl ?_
      refine g_get f_X6_19 dX6_climber_76 rfl 0 rfl rfl ?_
      refine g_iload_n dX6_climber_79 rfl rfl ?_
      refine g_iconst (v := nI 0) dX6_climber_80 rfl (by decide) ?_
      refine g_iconst (v := nI 0) dX6_climber_81 rfl (by decide) ?_
      refine g_callV (c_X1_reach sk (sand := false) hB.1 hc6 hs0 (hB.2.2.2.2.2.2 c hc).1 (hB.2.2.2.2.2.2 c hc).2.1 (Nat.zero_le _)) m_X6_156 a_X1_reach dX6_climber_82 rfl [1, 2, 3, 4, 5] rfl rfl 0 rfl rfl rfl (by decide) (by decide) (by decide) (by decide) (Nat.le_of_ble_eq_true rfl) (fun r w hK => ?_)
      obtain ⟨rfl, rfl⟩ := hK
      refine ⟨rfl, ?_⟩
      dsimp only [puts, List.set, Option.toList, List.cons_append, List.nil_append, List.append_nil]
      exact g_iret dX6_climber_85 rfl (Nat.le_refl _) (Nat.le_refl _) (⟨rfl, rfl⟩)
  · exact absurd (inR_N hc (by have := hB.2.1; omega)) (by rw [h8]; decide)
def soapC (F : Nat) (x y z : Int32) : Int32 := if inR x F = false ∨ inR y F = false then -1000000001 else if y < x ∨ z < nI 1 ∨ nI 99 < z then -1000000002 else 0
set_option maxRecDepth 20000 in
theorem c_X6_soapN (sk : Nat → Nat) {h rd pl sp nw im kp tl ro rs ak : Nat} {st : Bool} {fp : Int32} {nq ps pw pa pr F : Nat} {sd C V E N S : Int32} {s : PSt} {x y z : Int32} (hF : F ≤ 30) (hz : ¬ soapC F x y z = 0) : Ct sk yX6_soap cX6_soap 4 (some .int) 2 0 0 [oMain h rd pl sp nw im kp tl ro rs ak st fp, oPoleS nw nq s sd, cI nq 30 (fI s.1), oPlan pl ps pw pa pr (nI F) C V E N S] [.ref h, .int x, .int y, .int z] (zD (some (.int (soapC F x y z))) [oMain h rd pl sp nw im kp tl ro rs ak st fp, oPoleS nw nq s sd, cI nq 30 (fI s.1), oPlan pl ps pw pa pr (nI F) C V E N S]) := by
  refine Ct.of (own := RX6) (l := [some (.ref h), some (.int x), some (.int y), some (.int z)]) (by decide) rfl (Nat.le_of_ble_eq_true rfl) rfl ?_
  refine g_aload_n dX6_soap_0 rfl rfl ?_
  refine g_get f_X6_19 dX6_soap_1 rfl 0 rfl rfl ?_
  refine g_iload_n dX6_soap_4 rfl rfl ?_
  refine g_callV (c_X0_hasFoot sk) m_X6_135 a_X0_hasFoot dX6_soap_5 rfl [3] rfl rfl 0 rfl rfl rfl (by decide) (by decide) (by decide) (by decide) (Nat.le_of_ble_eq_true rfl) (fun r w hK => ?_)
  obtain ⟨rfl, rfl⟩ := hK
  refine ⟨rfl, ?_⟩
  dsimp only [puts, List.set, Option.toList, List.cons_append, List.nil_append, List.append_nil]
  refine g_if_eqB (t := 22) dX6_soap_8 (by decide) rfl (fun h8 => ?_) (fun h8 => ?_)
  · rw [soapC, if_pos (Or.inl h8)]
    refine g_ldc dX6_soap_22 rfl k_X6_143 ?_
    exact g_iret dX6_soap_24 rfl (Nat.le_refl _) (Nat.le_refl _) (⟨rfl, rfl⟩)
  · skip
    refine g_aload_n dX6_soap_11 rfl rfl ?_
    refine g_get f_X6_19 dX6_soap_12 rfl 0 rfl rfl ?_
    refine g_iload_n dX6_soap_15 rfl rfl ?_
    refine g_callV (c_X0_hasFoot sk) m_X6_135 a_X0_hasFoot dX6_soap_16 rfl [3] rfl rfl 0 rfl rfl rfl (by decide) (by decide) (by decide) (by decide) (Nat.le_of_ble_eq_true rfl) (fun r w hK => ?_)
    obtain ⟨rfl, rfl⟩ := hK
    refine ⟨rfl, ?_⟩
    dsimp only [puts, List.set, Option.toList, List.cons_append, List.nil_append, List.append_nil]
    refine g_if_neB (t := 25) dX6_soap_19 (by decide) rfl (fun h19 => ?_) (fun h19 => ?_)
    · have hA : ¬ (inR x F = false ∨ inR y F = false) := by rw [h8, h19]; decide
      refine g_iload_n dX6_soap_25 rfl rfl ?_
      refine g_iload_n dX6_soap_26 rfl rfl ?_
      refine g_icmp_lt (t := 41) dX6_soap_27 (by decide) rfl (fun h27 => ?_) (fun h27 => ?_)
      · rw [soapC, if_neg hA, if_pos (Or.inl h27)]
        refine g_ldc dX6_soap_41 rfl k_X6_73 ?_
        exact g_iret dX6_soap_43 rfl (Nat.le_refl _) (Nat.le_refl _) (⟨rfl, rfl⟩)
      · skip
        refine g_iload_n dX6_soap_30 rfl rfl ?_
        refine g_iconst (v := nI 1) dX6_soap_31 rfl (by decide) ?_
        refine g_icmp_lt (t := 41) dX6_soap_32 (by decide) rfl (fun h32 => ?_) (fun h32 => ?_)
        · rw [soapC, if_neg hA, if_pos (Or.inr (Or.inl h32))]
          refine g_ldc dX6_soap_41 rfl k_X6_73 ?_
          exact g_iret dX6_soap_43 rfl (Nat.le_refl _) (Nat.le_refl _) (⟨rfl, rfl⟩)
        · skip
          refine g_iload_n dX6_soap_35 rfl rfl ?_
          refine g_bipush (v := nI 99) dX6_soap_36 rfl (by decide) ?_
          refine g_icmp_le (t := 44) dX6_soap_38 (by decide) rfl (fun h38 => ?_) (fun h38 => ?_)
          · exact absurd (by rw [soapC, if_neg hA, if_neg (by rw [not_or, not_or]; exact ⟨by rw [Int32.not_lt]; rw [← Int32.not_lt]; exact h27, by rw [Int32.not_lt]; rw [← Int32.not_lt]; exact h32, by rw [Int32.not_lt]; exact h38⟩)]) hz
          · rw [soapC, if_neg hA, if_pos (Or.inr (Or.inr (by rw [← Int32.not_le]; exact h38)))]
            refine g_ldc dX6_soap_41 rfl k_X6_73 ?_
            exact g_iret dX6_soap_43 rfl (Nat.le_refl _) (Nat.le_refl _) (⟨rfl, rfl⟩)
    · rw [soapC, if_pos (Or.inr h19)]
      refine g_ldc dX6_soap_22 rfl k_X6_143 ?_
      exact g_iret dX6_soap_24 rfl (Nat.le_refl _) (Nat.le_refl _) (⟨rfl, rfl⟩)
set_option maxRecDepth 20000 in
theorem c_X6_soap (sk : Nat → Nat) {h rd pl sp nw im kp tl ro rs ak : Nat} {st : Bool} {fp : Int32} {nq ps pw pa pr F : Nat} {sd C V E N S : Int32} {s : PSt} {i j v : Nat} (hF : F ≤ 30) (hs0 : SB s.1) (hi : i ≤ j) (hj : j < F) (hv : 1 ≤ v ∧ v ≤ 99) : Ct sk yX6_soap cX6_soap 4 (some .int) 2 0 0 [oMain h rd pl sp nw im kp tl ro rs ak st fp, oPoleS nw nq s sd, cI nq 30 (fI s.1), oPlan pl ps pw pa pr (nI F) C V E N S] [.ref h, .int (nI i), .int (nI j), .int (nI v)] (zD (some (.int (nI (sumR (adS i (j + 1) v s.1) (j + 1 - i) i)))) [oMain h rd pl sp nw im kp tl ro rs ak st fp, oPole nw nq s.2.1 s.2.2 sd, cI nq 30 (fI (adS i (j + 1) v s.1)), oPlan pl ps pw pa pr (nI F) C V E N S]) := by
  refine Ct.of (own := RX6) (l := [some (.ref h), some (.int (nI i)), some (.int (nI j)), some (.int (nI v))]) (by decide) rfl (Nat.le_of_ble_eq_true rfl) rfl ?_
  refine g_aload_n dX6_soap_0 rfl rfl ?_
  refine g_get f_X6_19 dX6_soap_1 rfl 0 rfl rfl ?_
  refine g_iload_n dX6_soap_4 rfl rfl ?_
  refine g_callV (c_X0_hasFoot sk) m_X6_135 a_X0_hasFoot dX6_soap_5 rfl [3] rfl rfl 0 rfl rfl rfl (by decide) (by decide) (by decide) (by decide) (Nat.le_of_ble_eq_true rfl) (fun r w hK => ?_)
  obtain ⟨rfl, rfl⟩ := hK
  refine ⟨rfl, ?_⟩
  dsimp only [puts, List.set, Option.toList, List.cons_append, List.nil_append, List.append_nil]
  refine g_if_eqB (t := 22) dX6_soap_8 (by decide) rfl (fun h8 => ?_) (fun h8 => ?_)
  · exact absurd (inR_N (show i < F by omega) (by omega)) (by rw [h8]; decide)
  · skip
    refine g_aload_n dX6_soap_11 rfl rfl ?_
    refine g_get f_X6_19 dX6_soap_12 rfl 0 rfl rfl ?_
    refine g_iload_n dX6_soap_15 rfl rfl ?_
    refine g_callV (c_X0_hasFoot sk) m_X6_135 a_X0_hasFoot dX6_soap_16 rfl [3] rfl rfl 0 rfl rfl rfl (by decide) (by decide) (by decide) (by decide) (Nat.le_of_ble_eq_true rfl) (fun r w hK => ?_)
    obtain ⟨rfl, rfl⟩ := hK
    refine ⟨rfl, ?_⟩
    dsimp only [puts, List.set, Option.toList, List.cons_append, List.nil_append, List.append_nil]
    refine g_if_neB (t := 25) dX6_soap_19 (by decide) rfl (fun h19 => ?_) (fun h19 => ?_)
    · skip
      refine g_iload_n dX6_soap_25 rfl rfl ?_
      refine g_iload_n dX6_soap_26 rfl rfl ?_
      refine g_icmp_ltN (t := 41) dX6_soap_27 (by decide) rfl (by omega) (by omega) (fun h27 => ?_) (fun h27 => ?_)
      · exact absurd h27 (by omega)
      · skip
        refine g_iload_n dX6_soap_30 rfl rfl ?_
        refine g_iconst (v := nI 1) dX6_soap_31 rfl (by decide) ?_
        refine g_icmp_ltN (t := 41) dX6_soap_32 (by decide) rfl (by omega) (by omega) (fun h32 => ?_) (fun h32 => ?_)
        · exact absurd h32 (by omega)
        · skip
          refine g_iload_n dX6_soap_35 rfl rfl ?_
          refine g_bipush (v := nI 99) dX6_soap_36 rfl (by decide) ?_
          refine g_icmp_leN (t := 44) dX6_soap_38 (by decide) rfl (by omega) (by omega) (fun h38 => ?_) (fun h38 => ?_)
          · skip
            refine g_aload_n dX6_soap_44 rfl rfl ?_
            refine g_get f_X6_29 dX6_soap_45 rfl 0 rfl rfl ?_
            refine g_iload_n dX6_soap_48 rfl rfl ?_
            refine g_iload_n dX6_soap_49 rfl rfl ?_
            refine g_iload_n dX6_soap_50 rfl rfl ?_
            refine g_callV (cast (by rw [show nI (j + 1) - nI 1 = nI j from pk_sub (by omega)]) (c_X1_addSlip sk (hp := nw) (hs := nq) (a := i) (e := j + 1) (m := v) (g := s.2.1) (o := s.2.2) (sd := sd) (show i ≤ j + 1 by omega) (show j + 1 ≤ 30 by omega) hv.2 hs0)) m_X6_165 a_X1_addSlip dX6_soap_51 rfl [1, 2] rfl rfl 0 rfl rfl rfl (by decide) (by decide) (by decide) (by decide) (Nat.le_of_ble_eq_true rfl) (fun r w hK => ?_)
            obtain ⟨rfl, rfl⟩ := hK
            refine ⟨rfl, ?_⟩
            dsimp only [puts, List.set, Option.toList, List.cons_append, List.nil_append, List.append_nil]
            refine g_aload_n dX6_soap_54 rfl rfl ?_
            refine g_get f_X6_29 dX6_soap_55 rfl 0 rfl rfl ?_
            refine g_iload_n dX6_soap_58 rfl rfl ?_
            refine g_iload_n dX6_soap_59 rfl rfl ?_
            refine g_callV (cast (by rw [show nI (j + 1) - nI 1 = nI j from pk_sub (by omega)]) (c_X1_slipTogether sk (hp := nw) (hs := nq) (a := i) (e := j + 1) (g := s.2.1) (o := s.2.2) (sd := sd) (sl := adS i (j + 1) v s.1) (show i ≤ j + 1 by omega) (show j + 1 ≤ 30 by omega))) m_X6_131 a_X1_slipTogether dX6_soap_60 rfl [1, 2] rfl rfl 0 rfl rfl rfl (by decide) (by decide) (by decide) (by decide) (Nat.le_of_ble_eq_true rfl) (fun r w hK => ?_)
            obtain ⟨rfl, rfl⟩ := hK
            refine ⟨rfl, ?_⟩
            dsimp only [puts, List.set, Option.toList, List.cons_append, List.nil_append, List.append_nil]
            exact g_iret dX6_soap_63 rfl (Nat.le_refl _) (Nat.le_refl _) (⟨rfl, rfl⟩)
          · exact absurd h38 (by omega)
    · exact absurd (inR_N hj (by omega)) (by rw [h19]; decide)
