/-! THE LIST of the class: Tale -/
set_option maxRecDepth 20000 in
theorem c_X5_empty (sk : Nat → Nat) {th tc tf tp : Nat} {x : Int32}  : Ct sk yX5_empty cX5_empty 1 none 0 0 0 [oTale th tc tf tp x] [.ref th] (zD none [oTale th tc tf tp (nI 0)]) := by
  refine Ct.of (own := RX5) (l := [some (.ref th)]) (by decide) rfl (Nat.le_of_ble_eq_true rfl) rfl ?_
  refine g_aload_n dX5_empty_0 rfl rfl ?_
  refine g_iconst (v := nI 0) dX5_empty_1 rfl (by decide) ?_
  refine g_putI f_X5_25 dX5_empty_2 rfl 0 rfl (Nat.le_of_ble_eq_true rfl) rfl ?_
  exact g_vret dX5_empty_5 rfl (Nat.le_refl _) (Nat.le_refl _) (⟨rfl, rfl⟩)
set_option maxRecDepth 20000 in
theorem c_X5_append (sk : Nat → Nat) {th tc tf tp n c f : Nat} {fc ff : Nat → Int32} (hn : n < 12) : Ct sk yX5_append cX5_append 4 (some .int) 0 0 0 [oTale th tc tf tp (nI n), cI tc 12 fc, cI tf 12 ff] [.ref th, .int (nI c), .int (nI f)] (zD (some (.int (nI (n + 1)))) [oTale th tc tf tp (nI (n + 1)), cI tc 12 (upd fc n (nI c)), cI tf 12 (upd ff n (nI f))]) := by
  refine Ct.of (own := RX5) (l := [some (.ref th), some (.int (nI c)), some (.int (nI f)), none]) (by decide) rfl (Nat.le_of_ble_eq_true rfl) rfl ?_
  refine g_aload_n dX5_append_0 rfl rfl ?_
  refine g_get f_X5_25 dX5_append_1 rfl 0 rfl rfl ?_
  refine g_istore_n dX5_append_4 rfl (by decide) rfl rfl ?_
  refine g_iload_n dX5_append_5 rfl rfl ?_
  refine g_if_lt (t := 27) dX5_append_6 (by decide) rfl (fun h6 => ?_) (fun h6 => ?_)
  · exact absurd h6 (nI_nlt0 (by omega))
  · skip
    refine g_iload_n dX5_append_9 rfl rfl ?_
    refine g_aload_n dX5_append_10 rfl rfl ?_
    refine g_get f_X5_9 dX5_append_11 rfl 0 rfl rfl ?_
    refine g_alen dX5_append_14 rfl 1 rfl (Nat.le_of_ble_eq_true rfl) rfl ?_
    refine g_icmp_geN (t := 27) dX5_append_15 (by decide) rfl (by omega) (by omega) (fun h15 => ?_) (fun h15 => ?_)
    · exact absurd h15 (by omega)
    · skip
      refine g_iload_n dX5_append_18 rfl rfl ?_
      refine g_aload_n dX5_append_19 rfl rfl ?_
      refine g_get f_X5_15 dX5_append_20 rfl 0 rfl rfl ?_
      refine g_alen dX5_append_23 rfl 2 rfl (Nat.le_of_ble_eq_true rfl) rfl ?_
      refine g_icmp_ltN (t := 30) dX5_append_24 (by decide) rfl (by omega) (by omega) (fun h24 => ?_) (fun h24 => ?_)
      · skip
        refine g_aload_n dX5_append_30 rfl rfl ?_
        refine g_get f_X5_9 dX5_append_31 rfl 0 rfl rfl ?_
        refine g_iload_n dX5_append_34 rfl rfl ?_
        refine g_iload_n dX5_append_35 rfl rfl ?_
        refine g_iastN dX5_append_36 rfl 1 rfl (by omega) (by decide) (rfl) rfl ?_
        refine g_aload_n dX5_append_37 rfl rfl ?_
        refine g_get f_X5_15 dX5_append_38 rfl 0 rfl rfl ?_
        refine g_iload_n dX5_append_41 rfl rfl ?_
        refine g_iload_n dX5_append_42 rfl rfl ?_
        refine g_iastN dX5_append_43 rfl 2 rfl (by omega) (by decide) (rfl) rfl ?_
        refine g_aload_n dX5_append_44 rfl rfl ?_
        refine g_iload_n dX5_append_45 rfl rfl ?_
        refine g_iconst (v := nI 1) dX5_append_46 rfl (by decide) ?_
        refine g_iadd dX5_append_47 rfl (nI_add _ _) ?_
        refine g_putI f_X5_25 dX5_append_48 rfl 0 rfl (Nat.le_of_ble_eq_true rfl) rfl ?_
        refine g_aload_n dX5_append_51 rfl rfl ?_
        refine g_get f_X5_25 dX5_append_52 rfl 0 rfl rfl ?_
        exact g_iret dX5_append_55 rfl (Nat.le_refl _) (Nat.le_refl _) (⟨rfl, rfl⟩)
      · exact absurd h24 (by omega)
set_option maxRecDepth 20000 in
theorem c_X5_appendF (sk : Nat → Nat) {th tc tf tp : Nat} {x y : Int32} {fc ff : Nat → Int32}  : Ct sk yX5_append cX5_append 4 (some .int) 0 0 0 [oTale th tc tf tp (nI 12), cI tc 12 fc, cI tf 12 ff] [.ref th, .int x, .int y] (zD (some (.int (-1000000004))) [oTale th tc tf tp (nI 12), cI tc 12 fc, cI tf 12 ff]) := by
  refine Ct.of (own := RX5) (l := [some (.ref th), some (.int x), some (.int y), none]) (by decide) rfl (Nat.le_of_ble_eq_true rfl) rfl ?_
  refine g_aload_n dX5_append_0 rfl rfl ?_
  refine g_get f_X5_25 dX5_append_1 rfl 0 rfl rfl ?_
  refine g_istore_n dX5_append_4 rfl (by decide) rfl rfl ?_
  refine g_iload_n dX5_append_5 rfl rfl ?_
  refine g_if_lt (t := 27) dX5_append_6 (by decide) rfl (fun h6 => ?_) (fun h6 => ?_)
  · exact absurd h6 (nI_nlt0 (by omega))
  · skip
    refine g_iload_n dX5_append_9 rfl rfl ?_
    refine g_aload_n dX5_append_10 rfl rfl ?_
    refine g_get f_X5_9 dX5_append_11 rfl 0 rfl rfl ?_
    refine g_alen dX5_append_14 rfl 1 rfl (Nat.le_of_ble_eq_true rfl) rfl ?_
    refine g_icmp_geN (t := 27) dX5_append_15 (by decide) rfl (by omega) (by omega) (fun h15 => ?_) (fun h15 => ?_)
    · skip
      refine g_ldc dX5_append_27 rfl k_X5_29 ?_
      exact g_iret dX5_append_29 rfl (Nat.le_refl _) (Nat.le_refl _) (⟨rfl, rfl⟩)
    · exact absurd h15 (by omega)
set_option maxRecDepth 20000 in
theorem c_X5_climberOf (sk : Nat → Nat) {th tc tf tp i : Nat} {x : Int32} {fc : Nat → Int32} (hi : i < 12) : Ct sk yX5_climberOf cX5_climberOf 2 (some .int) 0 0 0 [oTale th tc tf tp x, cI tc 12 fc] [.ref th, .int (nI i)] (zD (some (.int (fc i))) [oTale th tc tf tp x, cI tc 12 fc]) := by
  refine Ct.of (own := RX5) (l := [some (.ref th), some (.int (nI i))]) (by decide) rfl (Nat.le_of_ble_eq_true rfl) rfl ?_
  refine g_iload_n dX5_climberOf_0 rfl rfl ?_
  refine g_if_lt (t := 22) dX5_climberOf_1 (by decide) rfl (fun h1 => ?_) (fun h1 => ?_)
  · exact absurd h1 (nI_nlt0 (by omega))
  · skip
    refine g_iload_n dX5_climberOf_4 rfl rfl ?_
    refine g_aload_n dX5_climberOf_5 rfl rfl ?_
    refine g_get f_X5_9 dX5_climberOf_6 rfl 0 rfl rfl ?_
    refine g_alen dX5_climberOf_9 rfl 1 rfl (Nat.le_of_ble_eq_true rfl) rfl ?_
    refine g_icmp_geN (t := 22) dX5_climberOf_10 (by decide) rfl (by omega) (by omega) (fun h10 => ?_) (fun h10 => ?_)
    · exact absurd h10 (by omega)
    · skip
      refine g_aload_n dX5_climberOf_13 rfl rfl ?_
      refine g_get f_X5_9 dX5_climberOf_14 rfl 0 rfl rfl ?_
      refine g_iload_n dX5_climberOf_17 rfl rfl ?_
      refine g_ialdN dX5_climberOf_18 rfl 1 rfl (by omega) (by decide) (rfl) ?_
      refine g_goto (q := 23) dX5_climberOf_19 (by decide) ?_
      exact g_iret dX5_climberOf_23 rfl (Nat.le_refl _) (Nat.le_refl _) (⟨rfl, rfl⟩)
set_option maxRecDepth 20000 in
theorem lp_X5_firstOtherwise (sk : Nat → Nat) {th tc tf tp tq hp hs pl ps pw pa pr n F C N S : Nat} {sd V E x : Int32} {fc ff : Nat → Int32} {s : PSt} {w a r who fr : Nat → Nat} {v : Int32} (hB : PB F C N S w a r) (hn : n ≤ 12) (hwho : ∀ i, i < n → fc i = nI (who i) ∧ who i < C) (hfr : ∀ i, i < n → ff i = nI (fr i) ∧ fr i ≤ 30) : ∀ (m i : Nat) (t : PSt), i + m = n → SB t.1 → wrongR F N S w a r who fr x m i t = v → GG sk RX5 yX5_firstOtherwise cX5_firstOtherwise 6 (some .int) 4 0 0 (fun q w1 => q = some (.int v) ∧ ∃ (t : PSt) (z : Int32), w1 = [oTale th tc tf tp (nI n), cI tc 12 fc, cI tf 12 ff, oPoleS tp tq t z, cI tq 30 (fI t.1), oPoleS hp hs s sd, cI hs 30 (fI s.1), oPlan pl ps pw pa pr (nI F) (nI C) V E (nI N) (nI S), cI pw 6 (fI w), cI pa 6 (fI a), cI pr 6 (fI r)]) 0 0 11 [some (.ref th), some (.ref pl), some (.ref hp), some (.int x), some (.int (nI i)), none] [] [oTale th tc tf tp (nI n), cI tc 12 fc, cI tf 12 ff, oPoleS tp tq t sd, cI tq 30 (fI t.1), oPoleS hp hs s sd, cI hs 30 (fI s.1), oPlan pl ps pw pa pr (nI F) (nI C) V E (nI N) (nI S), cI pw 6 (fI w), cI pa 6 (fI a), cI pr 6 (fI r)] := by
  intro m
  induction m with
  | zero =>
    intro i t hi hst hΨ
    refine g_iload dX5_firstOtherwise_11 rfl rfl ?_
    refine g_aload_n dX5_firstOtherwise_13 rfl rfl ?_
    refine g_get f_X5_25 dX5_firstOtherwise_14 rfl 0 rfl rfl ?_
    refine g_icmp_geN (t := 78) dX5_firstOtherwise_17 (by decide) rfl (by omega) (by omega) (fun h17 => ?_) (fun h17 => ?_)
    · skip
      refine g_iconst (v := -1) dX5_firstOtherwise_78 rfl (by decide) ?_
      exact g_iret dX5_firstOtherwise_79 rfl (Nat.le_refl _) (Nat.le_refl _) (⟨by rw [← hΨ]; rfl, _, _, rfl⟩)
    · exact absurd h17 (by omega)
  | succ m ih =>
    intro i t hi hst hΨ
    rw [wrongR] at hΨ
    refine g_iload dX5_firstOtherwise_11 rfl rfl ?_
    refine g_aload_n dX5_firstOtherwise_13 rfl rfl ?_
    refine g_get f_X5_25 dX5_firstOtherwise_14 rfl 0 rfl rfl ?_
    refine g_icmp_geN (t := 78) dX5_firstOtherwise_17 (by decide) rfl (by omega) (by omega) (fun h17 => ?_) (fun h17 => ?_)
    · exact absurd h17 (by omega)
    · skip
      refine g_iload dX5_firstOtherwise_20 rfl rfl ?_
      refine g_aload_n dX5_firstOtherwise_22 rfl rfl ?_
      refine g_get f_X5_15 dX5_firstOtherwise_23 rfl 0 rfl rfl ?_
      refine g_alen dX5_firstOtherwise_26 rfl 2 rfl (Nat.le_of_ble_eq_true rfl) rfl ?_
      refine g_icmp_geN (t := 78) dX5_firstOtherwise_27 (by decide) rfl (by omega) (by omega) (fun h27 => ?_) (fun h27 => ?_)
      · exact absurd h27 (by omega)
      · skip
        refine g_aload_n dX5_firstOtherwise_30 rfl rfl ?_
        refine g_iload dX5_firstOtherwise_31 rfl rfl ?_
        refine g_callV (c_X5_climberOf sk (by omega)) m_X5_34 a_X5_climberOf dX5_firstOtherwise_33 rfl [0, 1] rfl rfl 0 rfl rfl rfl (by decide) (by decide) (by decide) (by decide) (Nat.le_of_ble_eq_true rfl) (fun r w hK => ?_)
        obtain ⟨rfl, rfl⟩ := hK
        refine ⟨rfl, ?_⟩
        dsimp only [puts, List.set, Option.toList, List.cons_append, List.nil_append, List.append_nil]
        rw [(hwho i (by omega)).1]
        refine g_istore dX5_firstOtherwise_36 rfl (by decide) rfl rfl ?_
        refine g_aload_n dX5_firstOtherwise_38 rfl rfl ?_
        refine g_get f_X5_21 dX5_firstOtherwise_39 rfl 0 rfl rfl ?_
        refine g_aload_n dX5_firstOtherwise_42 rfl rfl ?_
        refine g_iload dX5_firstOtherwise_43 rfl rfl ?_
        refine g_iload dX5_firstOtherwise_45 rfl rfl ?_
        refine g_iload_n dX5_firstOtherwise_47 rfl rfl ?_
        refine g_icmp_ne (t := 55) dX5_firstOtherwise_48 (by decide) rfl (fun h48 => ?_) (fun h48 => ?_)
        · have hd : decide (nI (who i) = x) = false := decide_eq_false h48
          rw [hd] at hΨ
          refine g_iconst (v := nI 0) dX5_firstOtherwise_55 rfl (by decide) ?_
          refine g_callV (c_climb sk (sand := false) hB (hwho i (by omega)).2 hst) m_X5_38 a_X1_climb dX5_firstOtherwise_56 rfl [3, 4, 7, 8, 9, 10] rfl rfl 0 rfl rfl rfl (by decide) (by decide) (by decide) (by decide) (Nat.le_of_ble_eq_true rfl) (fun r w hK => ?_)
          obtain ⟨rfl, rfl⟩ := hK
          refine ⟨rfl, ?_⟩
          dsimp only [puts, List.set, Option.toList, List.cons_append, List.nil_append, List.append_nil]
          refine g_aload_n dX5_firstOtherwise_59 rfl rfl ?_
          refine g_get f_X5_15 dX5_firstOtherwise_60 rfl 0 rfl rfl ?_
          refine g_iload dX5_firstOtherwise_63 rfl rfl ?_
          refine g_ialdN (v := nI (fr i)) dX5_firstOtherwise_65 rfl 2 rfl (by omega) (by decide) ((hfr i (by omega)).1) ?_
          have hl := far1_le F w a false t (who i)
          have hl2 := hB.1
          have hl3 := (hfr i (by omega)).2
          refine g_icmp_eqN (t := 72) dX5_firstOtherwise_66 (by decide) rfl (by omega) (by omega) (fun h66 => ?_) (fun h66 => ?_)
          · skip
            refine g_iinc dX5_firstOtherwise_72 rfl rfl (nI_1 _) (by decide) rfl rfl ?_
            refine g_goto (q := 11) dX5_firstOtherwise_75 (by decide) ?_
            refine g_drop 5 rfl ?_
            exact ih (i + 1) _ (by omega) (go1_SB hst) (by rw [if_pos h66] at hΨ; exact hΨ)
          · rw [if_neg h66] at hΨ
            refine g_iload dX5_firstOtherwise_69 rfl rfl ?_
            exact g_iret dX5_firstOtherwise_71 rfl (Nat.le_refl _) (Nat.le_refl _) (⟨by rw [hΨ], _, _, rfl⟩)
        · have hd : decide (nI (who i) = x) = true := decide_eq_true h48
          rw [hd] at hΨ
          refine g_iconst (v := nI 1) dX5_firstOtherwise_51 rfl (by decide) ?_
          refine g_goto (q := 56) dX5_firstOtherwise_52 (by decide) ?_
          refine g_callV (c_climb sk (sand := true) hB (hwho i (by omega)).2 hst) m_X5_38 a_X1_climb dX5_firstOtherwise_56 rfl [3, 4, 7, 8, 9, 10] rfl rfl 0 rfl rfl rfl (by decide) (by decide) (by decide) (by decide) (Nat.le_of_ble_eq_true rfl) (fun r w hK => ?_)
          obtain ⟨rfl, rfl⟩ := hK
          refine ⟨rfl, ?_⟩
          dsimp only [puts, List.set, Option.toList, List.cons_append, List.nil_append, List.append_nil]
          refine g_aload_n dX5_firstOtherwise_59 rfl rfl ?_
          refine g_get f_X5_15 dX5_firstOtherwise_60 rfl 0 rfl rfl ?_
          refine g_iload dX5_firstOtherwise_63 rfl rfl ?_
          refine g_ialdN (v := nI (fr i)) dX5_firstOtherwise_65 rfl 2 rfl (by omega) (by decide) ((hfr i (by omega)).1) ?_
          have hl := far1_le F w a true t (who i)
          have hl2 := hB.1
          have hl3 := (hfr i (by omega)).2
          refine g_icmp_eqN (t := 72) dX5_firstOtherwise_66 (by decide) rfl (by omega) (by omega) (fun h66 => ?_) (fun h66 => ?_)
          · skip
            refine g_iinc dX5_firstOtherwise_72 rfl rfl (nI_1 _) (by decide) rfl rfl ?_
            refine g_goto (q := 11) dX5_firstOtherwise_75 (by decide) ?_
            refine g_drop 5 rfl ?_
            exact ih (i + 1) _ (by omega) (go1_SB hst) (by rw [if_pos h66] at hΨ; exact hΨ)
          · rw [if_neg h66] at hΨ
            refine g_iload dX5_firstOtherwise_69 rfl rfl ?_
            exact g_iret dX5_firstOtherwise_71 rfl (Nat.le_refl _) (Nat.le_refl _) (⟨by rw [hΨ], _, _, rfl⟩)
set_option maxRecDepth 20000 in
theorem c_X5_firstOtherwise (sk : Nat → Nat) {th tc tf tp tq hp hs pl ps pw pa pr n F C N S : Nat} {sd V E x : Int32} {fc ff : Nat → Int32} {s : PSt} {w a r who fr : Nat → Nat} {g0 o0 d0 : Int32} {f0 : Nat → Int32} (hB : PB F C N S w a r) (hn : n ≤ 12) (hwho : ∀ i, i < n → fc i = nI (who i) ∧ who i < C) (hfr : ∀ i, i < n → ff i = nI (fr i) ∧ fr i ≤ 30) (hs0 : SB s.1) : Ct sk yX5_firstOtherwise cX5_firstOtherwise 6 (some .int) 4 0 0 [oTale th tc tf tp (nI n), cI tc 12 fc, cI tf 12 ff, oPole tp tq g0 o0 d0, cI tq 30 f0, oPoleS hp hs s sd, cI hs 30 (fI s.1), oPlan pl ps pw pa pr (nI F) (nI C) V E (nI N) (nI S), cI pw 6 (fI w), cI pa 6 (fI a), cI pr 6 (fI r)] [.ref th, .ref pl, .ref hp, .int x] (fun q w1 => q = some (.int (wrongR F N S w a r who fr x n 0 s)) ∧ ∃ (t : PSt) (z : Int32), w1 = [oTale th tc tf tp (nI n), cI tc 12 fc, cI tf 12 ff, oPoleS tp tq t z, cI tq 30 (fI t.1), oPoleS hp hs s sd, cI hs 30 (fI s.1), oPlan pl ps pw pa pr (nI F) (nI C) V E (nI N) (nI S), cI pw 6 (fI w), cI pa 6 (fI a), cI pr 6 (fI r)]) := by
  refine Ct.of (own := RX5) (l := [some (.ref th), some (.ref pl), some (.ref hp), some (.int x), none, none]) (by decide) rfl (Nat.le_of_ble_eq_true rfl) rfl ?_
  refine g_aload_n dX5_firstOtherwise_0 rfl rfl ?_
  refine g_get f_X5_21 dX5_firstOtherwise_1 rfl 0 rfl rfl ?_
  refine g_aload_n dX5_firstOtherwise_4 rfl rfl ?_
  refine g_callV (c_X1_become sk) m_X5_30 a_X1_become dX5_firstOtherwise_5 rfl [3, 4, 5, 6] rfl rfl 0 rfl rfl rfl (by decide) (by decide) (by decide) (by decide) (Nat.le_of_ble_eq_true rfl) (fun r w hK => ?_)
  obtain ⟨rfl, rfl⟩ := hK
  refine ⟨rfl, ?_⟩
  dsimp only [puts, List.set, Option.toList, List.cons_append, List.nil_append, List.append_nil]
  refine g_iconst (v := nI 0) dX5_firstOtherwise_8 rfl (by decide) ?_
  refine g_istore dX5_firstOtherwise_9 rfl (by decide) rfl rfl ?_
  exact lp_X5_firstOtherwise sk hB hn hwho hfr n 0 s (by omega) hs0 rfl
set_option maxRecDepth 20000 in
theorem lp_X5_goThatHasIt (sk : Nat → Nat) {th tc tf tp tq pl ps pw pa pr n k F C N S : Nat} {sd V E : Int32} {fc : Nat → Int32} {w a r who : Nat → Nat} {v : Int32} (hB : PB F C N S w a r) (hn : n ≤ 12) (hk : k < n) (hwho : ∀ i, i < n → fc i = nI (who i) ∧ who i < C) : ∀ (m i : Nat) (t : PSt), i + m = k + 1 → SB t.1 → hasR F N S w a r who m i t = v → GG sk RX5 yX5_goThatHasIt cX5_goThatHasIt 4 (some .int) 3 0 0 (fun q w1 => q = some (.int v) ∧ ∃ (t : PSt), w1 = [oTale th tc tf tp (nI n), cI tc 12 fc, oPoleS tp tq t sd, cI tq 30 (fI t.1), oPlan pl ps pw pa pr (nI F) (nI C) V E (nI N) (nI S), cI pw 6 (fI w), cI pa 6 (fI a), cI pr 6 (fI r)]) 0 0 2 [some (.ref th), some (.ref pl), some (.int (nI k)), some (.int (nI i))] [] [oTale th tc tf tp (nI n), cI tc 12 fc, oPoleS tp tq t sd, cI tq 30 (fI t.1), oPlan pl ps pw pa pr (nI F) (nI C) V E (nI N) (nI S), cI pw 6 (fI w), cI pa 6 (fI a), cI pr 6 (fI r)] := by
  intro m
  induction m with
  | zero =>
    intro i t hi hst hΨ
    refine g_iload_n dX5_goThatHasIt_2 rfl rfl ?_
    refine g_iload_n dX5_goThatHasIt_3 rfl rfl ?_
    refine g_icmp_gtN (t := 49) dX5_goThatHasIt_4 (by decide) rfl (by omega) (by omega) (fun h4 => ?_) (fun h4 => ?_)
    · skip
      refine g_iconst (v := -1) dX5_goThatHasIt_49 rfl (by decide) ?_
      exact g_iret dX5_goThatHasIt_50 rfl (Nat.le_refl _) (Nat.le_refl _) (⟨by rw [← hΨ]; rfl, _, rfl⟩)
    · exact absurd h4 (by omega)
  | succ m ih =>
    intro i t hi hst hΨ
    rw [hasR] at hΨ
    refine g_iload_n dX5_goThatHasIt_2 rfl rfl ?_
    refine g_iload_n dX5_goThatHasIt_3 rfl rfl ?_
    refine g_icmp_gtN (t := 49) dX5_goThatHasIt_4 (by decide) rfl (by omega) (by omega) (fun h4 => ?_) (fun h4 => ?_)
    · exact absurd h4 (by omega)
    · skip
      refine g_iload_n dX5_goThatHasIt_7 rfl rfl ?_
      refine g_aload_n dX5_goThatHasIt_8 rfl rfl ?_
      refine g_get f_X5_25 dX5_goThatHasIt_9 rfl 0 rfl rfl ?_
      refine g_icmp_geN (t := 49) dX5_goThatHasIt_12 (by decide) rfl (by omega) (by omega) (fun h12 => ?_) (fun h12 => ?_)
      · exact absurd h12 (by omega)
      · skip
        refine g_aload_n dX5_goThatHasIt_15 rfl rfl ?_
        refine g_get f_X5_21 dX5_goThatHasIt_16 rfl 0 rfl rfl ?_
        refine g_aload_n dX5_goThatHasIt_19 rfl rfl ?_
        refine g_aload_n dX5_goThatHasIt_20 rfl rfl ?_
        refine g_iload_n dX5_goThatHasIt_21 rfl rfl ?_
        refine g_callV (c_X5_climberOf sk (by omega)) m_X5_34 a_X5_climberOf dX5_goThatHasIt_22 rfl [0, 1] rfl rfl 0 rfl rfl rfl (by decide) (by decide) (by decide) (by decide) (Nat.le_of_ble_eq_true rfl) (fun r w hK => ?_)
        obtain ⟨rfl, rfl⟩ := hK
        refine ⟨rfl, ?_⟩
        dsimp only [puts, List.set, Option.toList, List.cons_append, List.nil_append, List.append_nil]
        rw [(hwho i (by omega)).1]
        refine g_iconst (v := nI 0) dX5_goThatHasIt_25 rfl (by decide) ?_
        refine g_callV (c_climb sk (sand := false) hB (hwho i (by omega)).2 hst) m_X5_38 a_X1_climb dX5_goThatHasIt_26 rfl [2, 3, 4, 5, 6, 7] rfl rfl 0 rfl rfl rfl (by decide) (by decide) (by decide) (by decide) (Nat.le_of_ble_eq_true rfl) (fun r w hK => ?_)
        obtain ⟨rfl, rfl⟩ := hK
        refine ⟨rfl, ?_⟩
        dsimp only [puts, List.set, Option.toList, List.cons_append, List.nil_append, List.append_nil]
        refine g_pop dX5_goThatHasIt_29 rfl rfl ?_
        refine g_aload_n dX5_goThatHasIt_30 rfl rfl ?_
        refine g_get f_X5_21 dX5_goThatHasIt_31 rfl 0 rfl rfl ?_
        refine g_get f_X5_42 dX5_goThatHasIt_34 rfl 2 rfl rfl ?_
        refine g_iconst (v := -1) dX5_goThatHasIt_37 rfl (by decide) ?_
        refine g_icmp_eq (t := 43) dX5_goThatHasIt_38 (by decide) rfl (fun h38 => ?_) (fun h38 => ?_)
        · skip
          refine g_iinc dX5_goThatHasIt_43 rfl rfl (nI_1 _) (by decide) rfl rfl ?_
          refine g_goto (q := 2) dX5_goThatHasIt_46 (by decide) ?_
          exact ih (i + 1) _ (by omega) (go1_SB hst) (by rw [if_pos h38] at hΨ; exact hΨ)
        · rw [if_neg h38] at hΨ
          refine g_iload_n dX5_goThatHasIt_41 rfl rfl ?_
          exact g_iret dX5_goThatHasIt_42 rfl (Nat.le_refl _) (Nat.le_refl _) (⟨by rw [← hΨ], _, rfl⟩)
set_option maxRecDepth 20000 in
theorem c_X5_goThatHasIt (sk : Nat → Nat) {th tc tf tp tq pl ps pw pa pr n k F C N S : Nat} {sd V E : Int32} {fc : Nat → Int32} {w a r who : Nat → Nat} {t : PSt} (hB : PB F C N S w a r) (hn : n ≤ 12) (hk : k < n) (hwho : ∀ i, i < n → fc i = nI (who i) ∧ who i < C) (hst : SB t.1) : Ct sk yX5_goThatHasIt cX5_goThatHasIt 4 (some .int) 3 0 0 [oTale th tc tf tp (nI n), cI tc 12 fc, oPoleS tp tq t sd, cI tq 30 (fI t.1), oPlan pl ps pw pa pr (nI F) (nI C) V E (nI N) (nI S), cI pw 6 (fI w), cI pa 6 (fI a), cI pr 6 (fI r)] [.ref th, .ref pl, .int (nI k)] (fun q w1 => q = some (.int (hasR F N S w a r who (k + 1) 0 t)) ∧ ∃ (t : PSt), w1 = [oTale th tc tf tp (nI n), cI tc 12 fc, oPoleS tp tq t sd, cI tq 30 (fI t.1), oPlan pl ps pw pa pr (nI F) (nI C) V E (nI N) (nI S), cI pw 6 (fI w), cI pa 6 (fI a), cI pr 6 (fI r)]) := by
  refine Ct.of (own := RX5) (l := [some (.ref th), some (.ref pl), some (.int (nI k)), none]) (by decide) rfl (Nat.le_of_ble_eq_true rfl) rfl ?_
  refine g_iconst (v := nI 0) dX5_goThatHasIt_0 rfl (by decide) ?_
  refine g_istore_n dX5_goThatHasIt_1 rfl (by decide) rfl rfl ?_
  exact lp_X5_goThatHasIt sk hB hn hk hwho (k + 1) 0 t (by omega) hst rfl
set_option maxRecDepth 20000 in
theorem lp_X5_leastSlipFor (sk : Nat → Nat) {th tc tf tp tq hp hs pl ps pw pa pr n k F C N S : Nat} {sd V E : Int32} {fc : Nat → Int32} {s : PSt} {w a r who : Nat → Nat} {v : Int32} (hB : PB F C N S w a r) (hn : n ≤ 12) (hs0 : SB s.1) (hwho : ∀ i, i < n → fc i = nI (who i) ∧ who i < C) (hk : k < n) : ∀ (m i : Nat) (g0 o0 d0 : Int32) (f0 : Nat → Int32), i + m = 100 → leastR F N S w a r who k s m i = v → GG sk RX5 yX5_leastSlipFor cX5_leastSlipFor 5 (some .int) 4 0 0 (fun q w1 => q = some (.int v) ∧ ∃ (g0 o0 d0 : Int32) (f0 : Nat → Int32), w1 = [oTale th tc tf tp (nI n), cI tc 12 fc, oPole tp tq g0 o0 d0, cI tq 30 f0, oPoleS hp hs s sd, cI hs 30 (fI s.1), oPlan pl ps pw pa pr (nI F) (nI C) V E (nI N) (nI S), cI pw 6 (fI w), cI pa 6 (fI a), cI pr 6 (fI r)]) 0 0 21 [some (.ref th), some (.ref pl), some (.ref hp), some (.int (nI k)), some (.int (nI i))] [] [oTale th tc tf tp (nI n), cI tc 12 fc, oPole tp tq g0 o0 d0, cI tq 30 f0, oPoleS hp hs s sd, cI hs 30 (fI s.1), oPlan pl ps pw pa pr (nI F) (nI C) V E (nI N) (nI S), cI pw 6 (fI w), cI pa 6 (fI a), cI pr 6 (fI r)] := by
  intro m
  induction m with
  | zero =>
    intro i g0 o0 d0 f0 hi hΨ
    refine g_iload dX5_leastSlipFor_21 rfl rfl ?_
    refine g_bipush (v := nI 99) dX5_leastSlipFor_23 rfl (by decide) ?_
    refine g_icmp_gtN (t := 64) dX5_leastSlipFor_25 (by decide) rfl (by omega) (by omega) (fun h25 => ?_) (fun h25 => ?_)
    · skip
      refine g_iconst (v := -1) dX5_leastSlipFor_64 rfl (by decide) ?_
      exact g_iret dX5_leastSlipFor_65 rfl (Nat.le_refl _) (Nat.le_refl _) (⟨by rw [← hΨ]; rfl, _, _, _, _, rfl⟩)
    · exact absurd h25 (by omega)
  | succ m ih =>
    intro i g0 o0 d0 f0 hi hΨ
    rw [leastR] at hΨ
    refine g_iload dX5_leastSlipFor_21 rfl rfl ?_
    refine g_bipush (v := nI 99) dX5_leastSlipFor_23 rfl (by decide) ?_
    refine g_icmp_gtN (t := 64) dX5_leastSlipFor_25 (by decide) rfl (by omega) (by omega) (fun h25 => ?_) (fun h25 => ?_)
    · exact absurd h25 (by omega)
    · skip
      refine g_aload_n dX5_leastSlipFor_28 rfl rfl ?_
      refine g_get f_X5_21 dX5_leastSlipFor_29 rfl 0 rfl rfl ?_
      refine g_aload_n dX5_leastSlipFor_32 rfl rfl ?_
      refine g_callV (c_X1_become sk) m_X5_30 a_X1_become dX5_leastSlipFor_33 rfl [2, 3, 4, 5] rfl rfl 0 rfl rfl rfl (by decide) (by decide) (by decide) (by decide) (Nat.le_of_ble_eq_true rfl) (fun r w hK => ?_)
      obtain ⟨rfl, rfl⟩ := hK
      refine ⟨rfl, ?_⟩
      dsimp only [puts, List.set, Option.toList, List.cons_append, List.nil_append, List.append_nil]
      refine g_aload_n dX5_leastSlipFor_36 rfl rfl ?_
      refine g_get f_X5_21 dX5_leastSlipFor_37 rfl 0 rfl rfl ?_
      refine g_iload dX5_leastSlipFor_40 rfl rfl ?_
      refine g_callV (c_X1_coat sk) m_X5_45 a_X1_coat dX5_leastSlipFor_42 rfl [2, 3] rfl rfl 0 rfl rfl rfl (by decide) (by decide) (by decide) (by decide) (Nat.le_of_ble_eq_true rfl) (fun r w hK => ?_)
      obtain ⟨rfl, rfl⟩ := hK
      refine ⟨rfl, ?_⟩
      dsimp only [puts, List.set, Option.toList, List.cons_append, List.nil_append, List.append_nil]
      refine g_aload_n dX5_leastSlipFor_45 rfl rfl ?_
      refine g_aload_n dX5_leastSlipFor_46 rfl rfl ?_
      refine g_iload_n dX5_leastSlipFor_47 rfl rfl ?_
      refine g_callV (c_X5_goThatHasIt sk (t := coat i s) hB hn hk hwho (coat_SB (by omega))) m_X5_49 a_X5_goThatHasIt dX5_leastSlipFor_48 rfl [0, 1, 2, 3, 6, 7, 8, 9] rfl rfl 0 rfl rfl rfl (by decide) (by decide) (by decide) (by decide) (Nat.le_of_ble_eq_true rfl) (fun r w hK => ?_)
      obtain ⟨rfl, t, rfl⟩ := hK
      refine ⟨rfl, ?_⟩
      dsimp only [puts, List.set, Option.toList, List.cons_append, List.nil_append, List.append_nil]
      refine g_iload_n dX5_leastSlipFor_51 rfl rfl ?_
      refine g_icmp_ne (t := 58) dX5_leastSlipFor_52 (by decide) rfl (fun h52 => ?_) (fun h52 => ?_)
      · skip
        refine g_iinc dX5_leastSlipFor_58 rfl rfl (nI_1 _) (by decide) rfl rfl ?_
        refine g_goto (q := 21) dX5_leastSlipFor_61 (by decide) ?_
        exact ih (i + 1) _ _ _ _ (by omega) (by rw [if_neg h52] at hΨ; exact hΨ)
      · rw [if_pos h52] at hΨ
        refine g_iload dX5_leastSlipFor_55 rfl rfl ?_
        exact g_iret dX5_leastSlipFor_57 rfl (Nat.le_refl _) (Nat.le_refl _) (⟨by rw [← hΨ], _, _, _, _, rfl⟩)
set_option maxRecDepth 20000 in
theorem c_X5_leastSlipFor (sk : Nat → Nat) {th tc tf tp tq hp hs pl ps pw pa pr n k F C N S : Nat} {sd V E : Int32} {fc : Nat → Int32} {s : PSt} {w a r who : Nat → Nat} {g0 o0 d0 : Int32} {f0 : Nat → Int32} (hB : PB F C N S w a r) (hn : n ≤ 12) (hs0 : SB s.1) (hwho : ∀ i, i < n → fc i = nI (who i) ∧ who i < C) (hk12 : k < 12) : Ct sk yX5_leastSlipFor cX5_leastSlipFor 5 (some .int) 4 0 0 [oTale th tc tf tp (nI n), cI tc 12 fc, oPole tp tq g0 o0 d0, cI tq 30 f0, oPoleS hp hs s sd, cI hs 30 (fI s.1), oPlan pl ps pw pa pr (nI F) (nI C) V E (nI N) (nI S), cI pw 6 (fI w), cI pa 6 (fI a), cI pr 6 (fI r)] [.ref th, .ref pl, .ref hp, .int (nI k)] (fun q w1 => q = some (.int (if k < n ∧ s.2.2 = -1 then leastR F N S w a r who k s 100 0 else -1)) ∧ ∃ (g0 o0 d0 : Int32) (f0 : Nat → Int32), w1 = [oTale th tc tf tp (nI n), cI tc 12 fc, oPole tp tq g0 o0 d0, cI tq 30 f0, oPoleS hp hs s sd, cI hs 30 (fI s.1), oPlan pl ps pw pa pr (nI F) (nI C) V E (nI N) (nI S), cI pw 6 (fI w), cI pa 6 (fI a), cI pr 6 (fI r)]) := by
  refine Ct.of (own := RX5) (l := [some (.ref th), some (.ref pl), some (.ref hp), some (.int (nI k)), none]) (by decide) rfl (Nat.le_of_ble_eq_true rfl) rfl ?_
  refine g_iload_n dX5_leastSlipFor_0 rfl rfl ?_
  refine g_aload_n dX5_leastSlipFor_1 rfl rfl ?_
  refine g_get f_X5_25 dX5_leastSlipFor_2 rfl 0 rfl rfl ?_
  refine g_icmp_geN (t := 16) dX5_leastSlipFor_5 (by decide) rfl (by omega) (by omega) (fun h5 => ?_) (fun h5 => ?_)
  · skip
    refine g_iconst (v := -1) dX5_leastSlipFor_16 rfl (by decide) ?_
    exact g_iret dX5_leastSlipFor_17 rfl (Nat.le_refl _) (Nat.le_refl _) (⟨by rw [if_neg (fun z => absurd z.1 (Nat.not_lt.mpr h5))], _, _, _, _, rfl⟩)
  · skip
    refine g_aload_n dX5_leastSlipFor_8 rfl rfl ?_
    refine g_get f_X5_42 dX5_leastSlipFor_9 rfl 4 rfl rfl ?_
    refine g_iconst (v := -1) dX5_leastSlipFor_12 rfl (by decide) ?_
    refine g_icmp_eq (t := 18) dX5_leastSlipFor_13 (by decide) rfl (fun h13 => ?_) (fun h13 => ?_)
    · skip
      refine g_iconst (v := nI 0) dX5_leastSlipFor_18 rfl (by decide) ?_
      refine g_istore dX5_leastSlipFor_19 rfl (by decide) rfl rfl ?_
      exact lp_X5_leastSlipFor sk hB hn hs0 hwho h5 100 0 _ _ _ _ (by omega) (by rw [if_pos ⟨h5, h13⟩])
    · skip
      refine g_iconst (v := -1) dX5_leastSlipFor_16 rfl (by decide) ?_
      exact g_iret dX5_leastSlipFor_17 rfl (Nat.le_refl _) (Nat.le_refl _) (⟨by rw [if_neg (fun z => h13 z.2)], _, _, _, _, rfl⟩)
