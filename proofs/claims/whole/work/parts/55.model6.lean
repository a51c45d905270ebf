/-! the reference: climber, tower-/
set_option maxRecDepth 20000 in
theorem c_X7_climber0 (sk : Nat → Nat) {h mt mo md ms mn mi mz mk mw mf mr mb mu : Nat} {ty li se fAt at_ so sta sz fl ru : Int32} {iha isn : Bool} {T : Nat → Nat} {ft : Nat → Bool} {fc : Nat} {hm sn : Bool} {s : PSt} {fn : Nat → Int32} {c : Nat} (hQ : QB (T, ft, fc, hm, sn)) (hs0 : SB s.1) (hc : c < T 1) : Ct sk yX7_climber cX7_climber 3 (some .int) 2 0 0 [oMod h mt ty mo md ms mn mi mz mk mw mf li se fAt at_ so sta sz fl iha isn ru mr mb mu, cI mo 56 (fI T), cI ms 32 (fS s), cI mn 32 fn] [.ref h, .int (nI c), .int (nI 0)] (fun q w1 => q = some (.int (nI (T (6 + c)))) ∧ ∃ (ru2 : Int32) (fn2 : Nat → Int32), w1 = [oMod h mt ty mo md ms mn mi mz mk mw mf li se fAt at_ so sta sz fl iha isn ru2 mr mb mu, cI mo 56 (fI T), cI ms 32 (fS s), cI mn 32 fn2]) := by
  have hT0 : T 0 ≤ 30 := hQ.1
  have hT1 : T 1 ≤ 6 := hQ.2.1
  have hcc := hQ.2.2.2.2.2.2.1 c hc
  dsimp only at hcc
  refine Ct.of (own := RX7) (l := [some (.ref h), some (.int (nI c)), some (.int (nI 0))]) (by decide) rfl (Nat.le_of_ble_eq_true rfl) rfl ?_
  refine g_aload_n dX7_climber_0 rfl rfl ?_
  refine g_iload_n dX7_climber_1 rfl rfl ?_
  refine g_callV (c_X7_isClimber sk hT1) m_X7_169 a_X7_isClimber dX7_climber_2 rfl [0, 1] rfl rfl 0 rfl rfl rfl (by decide) (by decide) (by decide) (by decide) (Nat.le_of_ble_eq_true rfl) (fun r w hK => ?_)
  obtain ⟨rfl, rfl⟩ := hK
  refine ⟨rfl, ?_⟩
  dsimp only [puts, List.set, Option.toList, List.cons_append, List.nil_append, List.append_nil]
  refine g_if_neB (t := 11) dX7_climber_5 (by decide) rfl (fun h5 => ?_) (fun h5 => ?_)
  · skip
    refine g_iload_n dX7_climber_11 rfl rfl ?_
    refine g_iconst (v := nI 0) dX7_climber_12 rfl (by decide) ?_
    refine g_iconst (v := nI 3) dX7_climber_13 rfl (by decide) ?_
    refine g_callS (c_X7_in sk) m_X7_61 a_X7_in dX7_climber_14 rfl [] rfl rfl rfl rfl (by decide) (by decide) (by decide) (by decide) (Nat.le_of_ble_eq_true rfl) (fun r w hK => ?_)
    obtain ⟨rfl, rfl⟩ := hK
    refine ⟨rfl, ?_⟩
    dsimp only [puts, List.set, Option.toList, List.cons_append, List.nil_append, List.append_nil]
    refine g_if_neB (t := 23) dX7_climber_17 (by decide) rfl (fun h17 => ?_) (fun h17 => ?_)
    · skip
      refine g_aload_n dX7_climber_23 rfl rfl ?_
      refine g_callV (c_X7_lays sk) m_X7_172 a_X7_lays dX7_climber_24 rfl [0, 2, 3] rfl rfl 0 rfl rfl rfl (by decide) (by decide) (by decide) (by decide) (Nat.le_of_ble_eq_true rfl) (fun r w hK => ?_)
      obtain ⟨rfl, rfl⟩ := hK
      refine ⟨rfl, ?_⟩
      dsimp only [puts, List.set, Option.toList, List.cons_append, List.nil_append, List.append_nil]
      refine g_iload_n dX7_climber_27 rfl rfl ?_
      refine g_if_ne (t := 43) dX7_climber_28 (by decide) rfl (fun h28 => ?_) (fun h28 => ?_)
      · exact absurd rfl h28
      · skip
        refine g_aload_n dX7_climber_31 rfl rfl ?_
        refine g_get f_X7_13 dX7_climber_32 rfl 0 rfl rfl ?_
        refine g_bipush (v := nI 6) dX7_climber_35 rfl (by decide) ?_
        refine g_iload_n dX7_climber_37 rfl rfl ?_
        refine g_iadd dX7_climber_38 rfl (nI_add _ _) ?_
        refine g_ialdN (v := nI _) dX7_climber_39 rfl 1 rfl (by omega) (by decide) (rfl) ?_
        refine g_goto (q := 84) dX7_climber_40 (by decide) ?_
        exact g_iret dX7_climber_84 rfl (Nat.le_refl _) (Nat.le_refl _) (⟨rfl, _, _, rfl⟩)
    · exact absurd h17 (by decide)
  · exact absurd (inR_N hc (by omega)) (by rw [h5]; decide)
set_option maxRecDepth 20000 in
theorem c_X7_climber1 (sk : Nat → Nat) {h mt mo md ms mn mi mz mk mw mf mr mb mu : Nat} {ty li se fAt at_ so sta sz fl ru : Int32} {iha isn : Bool} {T : Nat → Nat} {ft : Nat → Bool} {fc : Nat} {hm sn : Bool} {s : PSt} {fn : Nat → Int32} {c : Nat} (hQ : QB (T, ft, fc, hm, sn)) (hs0 : SB s.1) (hc : c < T 1) : Ct sk yX7_climber cX7_climber 3 (some .int) 2 0 0 [oMod h mt ty mo md ms mn mi mz mk mw mf li se fAt at_ so sta sz fl iha isn ru mr mb mu, cI mo 56 (fI T), cI ms 32 (fS s), cI mn 32 fn] [.ref h, .int (nI c), .int (nI 1)] (fun q w1 => q = some (.int (nI (T (12 + c)))) ∧ ∃ (ru2 : Int32) (fn2 : Nat → Int32), w1 = [oMod h mt ty mo md ms mn mi mz mk mw mf li se fAt at_ so sta sz fl iha isn ru2 mr mb mu, cI mo 56 (fI T), cI ms 32 (fS s), cI mn 32 fn2]) := by
  have hT0 : T 0 ≤ 30 := hQ.1
  have hT1 : T 1 ≤ 6 := hQ.2.1
  have hcc := hQ.2.2.2.2.2.2.1 c hc
  dsimp only at hcc
  refine Ct.of (own := RX7) (l := [some (.ref h), some (.int (nI c)), some (.int (nI 1))]) (by decide) rfl (Nat.le_of_ble_eq_true rfl) rfl ?_
  refine g_aload_n dX7_climber_0 rfl rfl ?_
  refine g_iload_n dX7_climber_1 rfl rfl ?_
  refine g_callV (c_X7_isClimber sk hT1) m_X7_169 a_X7_isClimber dX7_climber_2 rfl [0, 1] rfl rfl 0 rfl rfl rfl (by decide) (by decide) (by decide) (by decide) (Nat.le_of_ble_eq_true rfl) (fun r w hK => ?_)
  obtain ⟨rfl, rfl⟩ := hK
  refine ⟨rfl, ?_⟩
  dsimp only [puts, List.set, Option.toList, List.cons_append, List.nil_append, List.append_nil]
  refine g_if_neB (t := 11) dX7_climber_5 (by decide) rfl (fun h5 => ?_) (fun h5 => ?_)
  · skip
    refine g_iload_n dX7_climber_11 rfl rfl ?_
    refine g_iconst (v := nI 0) dX7_climber_12 rfl (by decide) ?_
    refine g_iconst (v := nI 3) dX7_climber_13 rfl (by decide) ?_
    refine g_callS (c_X7_in sk) m_X7_61 a_X7_in dX7_climber_14 rfl [] rfl rfl rfl rfl (by decide) (by decide) (by decide) (by decide) (Nat.le_of_ble_eq_true rfl) (fun r w hK => ?_)
    obtain ⟨rfl, rfl⟩ := hK
    refine ⟨rfl, ?_⟩
    dsimp only [puts, List.set, Option.toList, List.cons_append, List.nil_append, List.append_nil]
    refine g_if_neB (t := 23) dX7_climber_17 (by decide) rfl (fun h17 => ?_) (fun h17 => ?_)
    · skip
      refine g_aload_n dX7_climber_23 rfl rfl ?_
      refine g_callV (c_X7_lays sk) m_X7_172 a_X7_lays dX7_climber_24 rfl [0, 2, 3] rfl rfl 0 rfl rfl rfl (by decide) (by decide) (by decide) (by decide) (Nat.le_of_ble_eq_true rfl) (fun r w hK => ?_)
      obtain ⟨rfl, rfl⟩ := hK
      refine ⟨rfl, ?_⟩
      dsimp only [puts, List.set, Option.toList, List.cons_append, List.nil_append, List.append_nil]
      refine g_iload_n dX7_climber_27 rfl rfl ?_
      refine g_if_ne (t := 43) dX7_climber_28 (by decide) rfl (fun h28 => ?_) (fun h28 => ?_)
      · skip
        refine g_iload_n dX7_climber_43 rfl rfl ?_
        refine g_iconst (v := nI 1) dX7_climber_44 rfl (by decide) ?_
        refine g_icmp_neN (t := 60) dX7_climber_45 (by decide) rfl (by omega) (by omega) (fun h45 => ?_) (fun h45 => ?_)
        · exact absurd rfl h45
        · skip
          refine g_aload_n dX7_climber_48 rfl rfl ?_
          refine g_get f_X7_13 dX7_climber_49 rfl 0 rfl rfl ?_
          refine g_bipush (v := nI 12) dX7_climber_52 rfl (by decide) ?_
          refine g_iload_n dX7_climber_54 rfl rfl ?_
          refine g_iadd dX7_climber_55 rfl (nI_add _ _) ?_
          refine g_ialdN (v := nI _) dX7_climber_56 rfl 1 rfl (by omega) (by decide) (rfl) ?_
          refine g_goto (q := 84) dX7_climber_57 (by decide) ?_
          exact g_iret dX7_climber_84 rfl (Nat.le_refl _) (Nat.le_refl _) (⟨rfl, _, _, rfl⟩)
      · exact absurd h28 (by decide)
    · exact absurd h17 (by decide)
  · exact absurd (inR_N hc (by omega)) (by rw [h5]; decide)
set_option maxRecDepth 20000 in
theorem c_X7_climber2 (sk : Nat → Nat) {h mt mo md ms mn mi mz mk mw mf mr mb mu : Nat} {ty li se fAt at_ so sta sz fl ru : Int32} {iha isn : Bool} {T : Nat → Nat} {ft : Nat → Bool} {fc : Nat} {hm sn : Bool} {s : PSt} {fn : Nat → Int32} {c : Nat} (hQ : QB (T, ft, fc, hm, sn)) (hs0 : SB s.1) (hc : c < T 1) : Ct sk yX7_climber cX7_climber 3 (some .int) 2 0 0 [oMod h mt ty mo md ms mn mi mz mk mw mf li se fAt at_ so sta sz fl iha isn ru mr mb mu, cI mo 56 (fI T), cI ms 32 (fS s), cI mn 32 fn] [.ref h, .int (nI c), .int (nI 2)] (fun q w1 => q = some (.int (nI (T (18 + c)))) ∧ ∃ (ru2 : Int32) (fn2 : Nat → Int32), w1 = [oMod h mt ty mo md ms mn mi mz mk mw mf li se fAt at_ so sta sz fl iha isn ru2 mr mb mu, cI mo 56 (fI T), cI ms 32 (fS s), cI mn 32 fn2]) := by
  have hT0 : T 0 ≤ 30 := hQ.1
  have hT1 : T 1 ≤ 6 := hQ.2.1
  have hcc := hQ.2.2.2.2.2.2.1 c hc
  dsimp only at hcc
  refine Ct.of (own := RX7) (l := [some (.ref h), some (.int (nI c)), some (.int (nI 2))]) (by decide) rfl (Nat.le_of_ble_eq_true rfl) rfl ?_
  refine g_aload_n dX7_climber_0 rfl rfl ?_
  refine g_iload_n dX7_climber_1 rfl rfl ?_
  refine g_callV (c_X7_isClimber sk hT1) m_X7_169 a_X7_isClimber dX7_climber_2 rfl [0, 1] rfl rfl 0 rfl rfl rfl (by decide) (by decide) (by decide) (by decide) (Nat.le_of_ble_eq_true rfl) (fun r w hK => ?_)
  obtain ⟨rfl, rfl⟩ := hK
  refine ⟨rfl, ?_⟩
  dsimp only [puts, List.set, Option.toList, List.cons_append, List.nil_append, List.append_nil]
  refine g_if_neB (t := 11) dX7_climber_5 (by decide) rfl (fun h5 => ?_) (fun h5 => ?_)
  · skip
    refine g_iload_n dX7_climber_11 rfl rfl ?_
    refine g_iconst (v := nI 0) dX7_climber_12 rfl (by decide) ?_
    refine g_iconst (v := nI 3) dX7_climber_13 rfl (by decide) ?_
    refine g_callS (c_X7_in sk) m_X7_61 a_X7_in dX7_climber_14 rfl [] rfl rfl rfl rfl (by decide) (by decide) (by decide) (by decide) (Nat.le_of_ble_eq_true rfl) (fun r w hK => ?_)
    obtain ⟨rfl, rfl⟩ := hK
    refine ⟨rfl, ?_⟩
    dsimp only [puts, List.set, Option.toList, List.cons_append, List.nil_append, List.append_nil]
    refine g_if_neB (t := 23) dX7_climber_17 (by decide) rfl (fun h17 => ?_) (fun h17 => ?_)
    · skip
      refine g_aload_n dX7_climber_23 rfl rfl ?_
      refine g_callV (c_X7_lays sk) m_X7_172 a_X7_lays dX7_climber_24 rfl [0, 2, 3] rfl rfl 0 rfl rfl rfl (by decide) (by decide) (by decide) (by decide) (Nat.le_of_ble_eq_true rfl) (fun r w hK => ?_)
      obtain ⟨rfl, rfl⟩ := hK
      refine ⟨rfl, ?_⟩
      dsimp only [puts, List.set, Option.toList, List.cons_append, List.nil_append, List.append_nil]
      refine g_iload_n dX7_climber_27 rfl rfl ?_
      refine g_if_ne (t := 43) dX7_climber_28 (by decide) rfl (fun h28 => ?_) (fun h28 => ?_)
      · skip
        refine g_iload_n dX7_climber_43 rfl rfl ?_
        refine g_iconst (v := nI 1) dX7_climber_44 rfl (by decide) ?_
        refine g_icmp_neN (t := 60) dX7_climber_45 (by decide) rfl (by omega) (by omega) (fun h45 => ?_) (fun h45 => ?_)
        · skip
          refine g_iload_n dX7_climber_60 rfl rfl ?_
          refine g_iconst (v := nI 2) dX7_climber_61 rfl (by decide) ?_
          refine g_icmp_neN (t := 77) dX7_climber_62 (by decide) rfl (by omega) (by omega) (fun h62 => ?_) (fun h62 => ?_)
          · exact absurd rfl h62
          · skip
            refine g_aload_n dX7_climber_65 rfl rfl ?_
            refine g_get f_X7_13 dX7_climber_66 rfl 0 rfl rfl ?_
            refine g_bipush (v := nI 18) dX7_climber_69 rfl (by decide) ?_
            refine g_iload_n dX7_climber_71 rfl rfl ?_
            refine g_iadd dX7_climber_72 rfl (nI_add _ _) ?_
            refine g_ialdN (v := nI _) dX7_climber_73 rfl 1 rfl (by omega) (by decide) (rfl) ?_
            refine g_goto (q := 84) dX7_climber_74 (by decide) ?_
            exact g_iret dX7_climber_84 rfl (Nat.le_refl _) (Nat.le_refl _) (⟨rfl, _, _, rfl⟩)
        · exact absurd h45 (by decide)
      · exact absurd h28 (by decide)
    · exact absurd h17 (by decide)
  · exact absurd (inR_N hc (by omega)) (by rw [h5]; decide)
set_option maxRecDepth 20000 in
theorem c_X7_climber3 (sk : Nat → Nat) {h mt mo md ms mn mi mz mk mw mf mr mb mu : Nat} {ty li se fAt at_ so sta sz fl ru : Int32} {iha isn : Bool} {T : Nat → Nat} {ft : Nat → Bool} {fc : Nat} {hm sn : Bool} {s : PSt} {fn : Nat → Int32} {c : Nat} (hQ : QB (T, ft, fc, hm, sn)) (hs0 : SB s.1) (hc : c < T 1) : Ct sk yX7_climber cX7_climber 3 (some .int) 2 0 0 [oMod h mt ty mo md ms mn mi mz mk mw mf li se fAt at_ so sta sz fl iha isn ru mr mb mu, cI mo 56 (fI T), cI ms 32 (fS s), cI mn 32 fn] [.ref h, .int (nI c), .int (nI 3)] (fun q w1 => q = some (.int (nI (far1 (T 0) (fun c => T (6 + c)) (fun c => T (12 + c)) false s c))) ∧ ∃ (ru2 : Int32) (fn2 : Nat → Int32), w1 = [oMod h mt ty mo md ms mn mi mz mk mw mf li se fAt at_ so sta sz fl iha isn ru2 mr mb mu, cI mo 56 (fI T), cI ms 32 (fS s), cI mn 32 fn2]) := by
  have hT0 : T 0 ≤ 30 := hQ.1
  have hT1 : T 1 ≤ 6 := hQ.2.1
  have hcc := hQ.2.2.2.2.2.2.1 c hc
  dsimp only at hcc
  refine Ct.of (own := RX7) (l := [some (.ref h), some (.int (nI c)), some (.int (nI 3))]) (by decide) rfl (Nat.le_of_ble_eq_true rfl) rfl ?_
  refine g_aload_n dX7_climber_0 rfl rfl ?_
  refine g_iload_n dX7_climber_1 rfl rfl ?_
  refine g_callV (c_X7_isClimber sk hT1) m_X7_169 a_X7_isClimber dX7_climber_2 rfl [0, 1] rfl rfl 0 rfl rfl rfl (by decide) (by decide) (by decide) (by decide) (Nat.le_of_ble_eq_true rfl) (fun r w hK => ?_)
  obtain ⟨rfl, rfl⟩ := hK
  refine ⟨rfl, ?_⟩
  dsimp only [puts, List.set, Option.toList, List.cons_append, List.nil_append, List.append_nil]
  refine g_if_neB (t := 11) dX7_climber_5 (by decide) rfl (fun h5 => ?_) (fun h5 => ?_)
  · skip
    refine g_iload_n dX7_climber_11 rfl rfl ?_
    refine g_iconst (v := nI 0) dX7_climber_12 rfl (by decide) ?_
    refine g_iconst (v := nI 3) dX7_climber_13 rfl (by decide) ?_
    refine g_callS (c_X7_in sk) m_X7_61 a_X7_in dX7_climber_14 rfl [] rfl rfl rfl rfl (by decide) (by decide) (by decide) (by decide) (Nat.le_of_ble_eq_true rfl) (fun r w hK => ?_)
    obtain ⟨rfl, rfl⟩ := hK
    refine ⟨rfl, ?_⟩
    dsimp only [puts, List.set, Option.toList, List.cons_append, List.nil_append, List.append_nil]
    refine g_if_neB (t := 23) dX7_climber_17 (by decide) rfl (fun h17 => ?_) (fun h17 => ?_)
    · skip
      refine g_aload_n dX7_climber_23 rfl rfl ?_
      refine g_callV (c_X7_lays sk) m_X7_172 a_X7_lays dX7_climber_24 rfl [0, 2, 3] rfl rfl 0 rfl rfl rfl (by decide) (by decide) (by decide) (by decide) (Nat.le_of_ble_eq_true rfl) (fun r w hK => ?_)
      obtain ⟨rfl, rfl⟩ := hK
      refine ⟨rfl, ?_⟩
      dsimp only [puts, List.set, Option.toList, List.cons_append, List.nil_append, List.append_nil]
      refine g_iload_n dX7_climber_27 rfl rfl ?_
      refine g_if_ne (t := 43) dX7_climber_28 (by decide) rfl (fun h28 => ?_) (fun h28 => ?_)
      · skip
        refine g_iload_n dX7_climber_43 rfl rfl ?_
        refine g_iconst (v := nI 1) dX7_climber_44 rfl (by decide) ?_
        refine g_icmp_neN (t := 60) dX7_climber_45 (by decide) rfl (by omega) (by omega) (fun h45 => ?_) (fun h45 => ?_)
        · skip
          refine g_iload_n dX7_climber_60 rfl rfl ?_
          refine g_iconst (v := nI 2) dX7_climber_61 rfl (by decide) ?_
          refine g_icmp_neN (t := 77) dX7_climber_62 (by decide) rfl (by omega) (by omega) (fun h62 => ?_) (fun h62 => ?_)
          · skip
            refine g_aload_n dX7_climber_77 rfl rfl ?_
            refine g_iload_n dX7_climber_78 rfl rfl ?_
            refine g_iconst (v := nI 0) dX7_climber_79 rfl (by decide) ?_
            refine g_iconst (v := nI 0) dX7_climber_80 rfl (by decide) ?_
            refine g_callV (c_X7_climbs sk (fr := 0) (sand := false) (sl := s.1) (g := s.2.1) (ho := s.2.2) hT0 (by omega) hcc.1 hcc.2.1 hcc.2.2 hs0 (Nat.zero_le _) (clM_go (T 0) (T (6 + c)) (T (12 + c)) (T (18 + c)) false s.1)) m_X7_165 a_X7_climbs dX7_climber_81 rfl [0, 1, 3] rfl rfl 0 rfl rfl rfl (by decide) (by decide) (by decide) (by decide) (Nat.le_of_ble_eq_true rfl) (fun r w hK => ?_)
            obtain ⟨rfl, rfl⟩ := hK
            refine ⟨rfl, ?_⟩
            dsimp only [puts, List.set, Option.toList, List.cons_append, List.nil_append, List.append_nil]
            exact g_iret dX7_climber_84 rfl (Nat.le_refl _) (Nat.le_refl _) (⟨rfl, _, _, rfl⟩)
          · exact absurd h62 (by decide)
        · exact absurd h45 (by decide)
      · exact absurd h28 (by decide)
    · exact absurd h17 (by decide)
  · exact absurd (inR_N hc (by omega)) (by rw [h5]; decide)
set_option maxRecDepth 20000 in
theorem c_X7_tower (sk : Nat → Nat) {h mt mo md ms mn mi mz mk mw mf mr mb mu : Nat} {ty li se fAt at_ so sta sz fl ru : Int32} {iha isn : Bool} {T : Nat → Nat} {ft : Nat → Bool} {fc : Nat} {hm sn : Bool} {s : PSt} {fn : Nat → Int32} {c e : Nat} (hQ : QB (T, ft, fc, hm, sn)) (hs0 : SB s.1) (hc : c < T 1) (he : e < T 1) (hce : ¬ c = e) : Ct sk yX7_tower cX7_tower 3 (some .int) 2 0 0 [oMod h mt ty mo md ms mn mi mz mk mw mf li se fAt at_ so sta sz fl iha isn ru mr mb mu, cI mo 56 (fI T), cI ms 32 (fS s), cI mn 32 fn] [.ref h, .int (nI c), .int (nI e)] (fun q w1 => q = some (.int (towA (T 0) (fun c => T (6 + c)) (fun c => T (12 + c)) s c e)) ∧ ∃ (ru2 : Int32) (fn2 : Nat → Int32), w1 = [oMod h mt ty mo md ms mn mi mz mk mw mf li se fAt at_ so sta sz fl iha isn ru2 mr mb mu, cI mo 56 (fI T), cI ms 32 (fS s), cI mn 32 fn2]) := by
  have hT0 : T 0 ≤ 30 := hQ.1
  have hT1 : T 1 ≤ 6 := hQ.2.1
  have hcc := hQ.2.2.2.2.2.2.1 c hc
  dsimp only at hcc
  have hce2 := hQ.2.2.2.2.2.2.1 e he
  dsimp only at hce2
  have hF1 := hQ.2.2.1 (show 1 ≤ T 1 by omega)
  dsimp only at hF1
  have hm6 : 2 * T (6 + e) ≤ 198 := by omega
  refine Ct.of (own := RX7) (l := [some (.ref h), some (.int (nI c)), some (.int (nI e))]) (by decide) rfl (Nat.le_of_ble_eq_true rfl) rfl ?_
  refine g_aload_n dX7_tower_0 rfl rfl ?_
  refine g_iload_n dX7_tower_1 rfl rfl ?_
  refine g_callV (c_X7_isClimber sk hT1) m_X7_169 a_X7_isClimber dX7_tower_2 rfl [0, 1] rfl rfl 0 rfl rfl rfl (by decide) (by decide) (by decide) (by decide) (Nat.le_of_ble_eq_true rfl) (fun r w hK => ?_)
  obtain ⟨rfl, rfl⟩ := hK
  refine ⟨rfl, ?_⟩
  dsimp only [puts, List.set, Option.toList, List.cons_append, List.nil_append, List.append_nil]
  refine g_if_eqB (t := 21) dX7_tower_5 (by decide) rfl (fun h5 => ?_) (fun h5 => ?_)
  · exact absurd (inR_N hc (by omega)) (by rw [h5]; decide)
  · skip
    refine g_aload_n dX7_tower_8 rfl rfl ?_
    refine g_iload_n dX7_tower_9 rfl rfl ?_
    refine g_callV (c_X7_isClimber sk hT1) m_X7_169 a_X7_isClimber dX7_tower_10 rfl [0, 1] rfl rfl 0 rfl rfl rfl (by decide) (by decide) (by decide) (by decide) (Nat.le_of_ble_eq_true rfl) (fun r w hK => ?_)
    obtain ⟨rfl, rfl⟩ := hK
    refine ⟨rfl, ?_⟩
    dsimp only [puts, List.set, Option.toList, List.cons_append, List.nil_append, List.append_nil]
    refine g_if_eqB (t := 21) dX7_tower_13 (by decide) rfl (fun h13 => ?_) (fun h13 => ?_)
    · exact absurd (inR_N he (by omega)) (by rw [h13]; decide)
    · skip
      refine g_iload_n dX7_tower_16 rfl rfl ?_
      refine g_iload_n dX7_tower_17 rfl rfl ?_
      refine g_icmp_neN (t := 24) dX7_tower_18 (by decide) rfl (by omega) (by omega) (fun h18 => ?_) (fun h18 => ?_)
      · skip
        refine g_aload_n dX7_tower_24 rfl rfl ?_
        refine g_get f_X7_13 dX7_tower_25 rfl 0 rfl rfl ?_
        refine g_iconst (v := nI 0) dX7_tower_28 rfl (by decide) ?_
        refine g_ialdN (v := nI _) dX7_tower_29 rfl 1 rfl (by omega) (by decide) (rfl) ?_
        refine g_if_ne (t := 36) dX7_tower_30 (by decide) rfl (fun h30 => ?_) (fun h30 => ?_)
        · skip
          refine g_aload_n dX7_tower_36 rfl rfl ?_
          refine g_callV (c_X7_lays sk) m_X7_172 a_X7_lays dX7_tower_37 rfl [0, 2, 3] rfl rfl 0 rfl rfl rfl (by decide) (by decide) (by decide) (by decide) (Nat.le_of_ble_eq_true rfl) (fun r w hK => ?_)
          obtain ⟨rfl, rfl⟩ := hK
          refine ⟨rfl, ?_⟩
          dsimp only [puts, List.set, Option.toList, List.cons_append, List.nil_append, List.append_nil]
          refine g_aload_n dX7_tower_40 rfl rfl ?_
          refine g_get f_X7_13 dX7_tower_41 rfl 0 rfl rfl ?_
          refine g_bipush (v := nI 12) dX7_tower_44 rfl (by decide) ?_
          refine g_iload_n dX7_tower_46 rfl rfl ?_
          refine g_iadd dX7_tower_47 rfl (nI_add _ _) ?_
          refine g_ialdN (v := nI _) dX7_tower_48 rfl 1 rfl (by omega) (by decide) (rfl) ?_
          refine g_iconst (v := nI 2) dX7_tower_49 rfl (by decide) ?_
          refine g_aload_n dX7_tower_50 rfl rfl ?_
          refine g_get f_X7_13 dX7_tower_51 rfl 0 rfl rfl ?_
          refine g_bipush (v := nI 6) dX7_tower_54 rfl (by decide) ?_
          refine g_iload_n dX7_tower_56 rfl rfl ?_
          refine g_iadd dX7_tower_57 rfl (nI_add _ _) ?_
          refine g_ialdN (v := nI _) dX7_tower_58 rfl 1 rfl (by omega) (by decide) (rfl) ?_
          refine g_imul dX7_tower_59 rfl (pk_mul _ _) ?_
          refine g_icmp_geN (t := 67) dX7_tower_60 (by decide) rfl (by omega) (by omega) (fun h60 => ?_) (fun h60 => ?_)
          · rw [towA, if_neg (by omega)]
            refine g_aload_n dX7_tower_67 rfl rfl ?_
            refine g_iload_n dX7_tower_68 rfl rfl ?_
            refine g_aload_n dX7_tower_69 rfl rfl ?_
            refine g_get f_X7_13 dX7_tower_70 rfl 0 rfl rfl ?_
            refine g_iconst (v := nI 0) dX7_tower_73 rfl (by decide) ?_
            refine g_ialdN (v := nI _) dX7_tower_74 rfl 1 rfl (by omega) (by decide) (rfl) ?_
            refine g_iconst (v := nI 5) dX7_tower_75 rfl (by decide) ?_
            refine g_icmp_gtN (t := 83) dX7_tower_76 (by decide) rfl (by omega) (by omega) (fun h76 => ?_) (fun h76 => ?_)
            · rw [if_pos h76, ← clM_far (T (6 + e)) (T (18 + e)) false s.1 (T 0 - 5) 5 (T (12 + e)) s.1 0 (fun _ _ => rfl)]
              refine g_iconst (v := nI 5) dX7_tower_83 rfl (by decide) ?_
              refine g_iconst (v := nI 0) dX7_tower_84 rfl (by decide) ?_
              refine g_callV (c_X7_climbs sk (sand := false) (sl := s.1) (g := s.2.1) (ho := s.2.2) hT0 (show e < 6 by omega) hce2.1 hce2.2.1 hce2.2.2 hs0 (by omega) rfl) m_X7_165 a_X7_climbs dX7_tower_85 rfl [0, 1, 3] rfl rfl 0 rfl rfl rfl (by decide) (by decide) (by decide) (by decide) (Nat.le_of_ble_eq_true rfl) (fun r w hK => ?_)
              obtain ⟨rfl, rfl⟩ := hK
              refine ⟨rfl, ?_⟩
              dsimp only [puts, List.set, Option.toList, List.cons_append, List.nil_append, List.append_nil]
              exact g_iret dX7_tower_88 rfl (Nat.le_refl _) (Nat.le_refl _) (⟨rfl, _, _, rfl⟩)
            · rw [if_neg (by omega), ← clM_far (T (6 + e)) (T (18 + e)) false s.1 (T 0 - 0) 0 (T (12 + e)) s.1 0 (fun _ _ => rfl)]
              refine g_iconst (v := nI 0) dX7_tower_79 rfl (by decide) ?_
              refine g_goto (q := 84) dX7_tower_80 (by decide) ?_
              refine g_iconst (v := nI 0) dX7_tower_84 rfl (by decide) ?_
              refine g_callV (c_X7_climbs sk (sand := false) (sl := s.1) (g := s.2.1) (ho := s.2.2) hT0 (show e < 6 by omega) hce2.1 hce2.2.1 hce2.2.2 hs0 (by omega) rfl) m_X7_165 a_X7_climbs dX7_tower_85 rfl [0, 1, 3] rfl rfl 0 rfl rfl rfl (by decide) (by decide) (by decide) (by decide) (Nat.le_of_ble_eq_true rfl) (fun r w hK => ?_)
              obtain ⟨rfl, rfl⟩ := hK
              refine ⟨rfl, ?_⟩
              dsimp only [puts, List.set, Option.toList, List.cons_append, List.nil_append, List.append_nil]
              exact g_iret dX7_tower_88 rfl (Nat.le_refl _) (Nat.le_refl _) (⟨rfl, _, _, rfl⟩)
          · rw [towA, if_pos h60]
            refine g_iconst (v := -1) dX7_tower_63 rfl (by decide) ?_
            refine g_goto (q := 88) dX7_tower_64 (by decide) ?_
            exact g_iret dX7_tower_88 rfl (Nat.le_refl _) (Nat.le_refl _) (⟨rfl, _, _, rfl⟩)
        · exact absurd h30 (nI_ne0 (by omega) (by omega))
      · exact absurd h18 hce
