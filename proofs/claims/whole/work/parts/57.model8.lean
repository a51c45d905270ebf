/-! the reference: a go by the told numbers; THE LIST judged-/
theorem or0 (x : Int32) : x ||| nI 0 = x := by
  apply Int32.toBitVec_inj.mp
  rw [Int32.toBitVec_or]
  show x.toBitVec ||| 0#32 = x.toBitVec
  simp
theorem nI_m1 {k : Nat} (hk : k < 2 ^ 31) : ¬ nI k = -1 := fun q => nI_pos hk (by rw [q]; decide)
theorem nI_inj {a b : Nat} (ha : a < 2 ^ 31) (hb : b < 2 ^ 31) (h : nI a = nI b) : a = b := (nI_eq ha hb).mp h
/-- the told numbers say w, a, r of each climber -/
def TWR (T : Nat → Nat) (w a r : Nat → Nat) : Prop := ∀ c, c < T 1 → T (6 + c) = w c ∧ T (12 + c) = a c ∧ T (18 + c) = r c
theorem c_goes (sk : Nat → Nat) {h mt mo md ms mn mi mz mk mw mf mr mb mu : Nat} {ty li se fAt at_ so sta sz fl ru : Int32} {iha isn : Bool} {T : Nat → Nat} {w a r : Nat → Nat} {c : Nat} {sand : Bool} {s : PSt} (hB : PB (T 0) (T 1) (T 4) (T 5) w a r) (hW : TWR T w a r) (hc : c < T 1) (hs0 : SB s.1) : Ct sk yX7_goes cX7_goes 6 (some .int) 1 0 0 [oMod h mt ty mo md ms mn mi mz mk mw mf li se fAt at_ so sta sz fl iha isn ru mr mb mu, cI mo 56 (fI T), cI mn 32 (fS s)] [.ref h, .int (nI c), .int (zb sand)] (zD (some (.int (nI (far1 (T 0) w a sand s c)))) [oMod h mt ty mo md ms mn mi mz mk mw mf li se fAt at_ so sta sz fl iha isn (nI (rubT (r c) s.1 (far1 (T 0) w a sand s c))) mr mb mu, cI mo 56 (fI T), cI mn 32 (fS (go1 (T 0) (T 4) (T 5) w a r sand s c))]) := by
  obtain ⟨e1, e2, e3⟩ := hW c hc
  obtain ⟨b1, b2, b3⟩ := hB.2.2.2.2.2.2 c hc
  have hT1 := hB.2.1
  have eg : go1 (T 0) (T 4) (T 5) (fun c => T (6 + c)) (fun c => T (12 + c)) (fun c => T (18 + c)) sand s c = (go1 (T 0) (T 4) (T 5) w a r sand s c) := by
    unfold go1 far1
    dsimp only
    rw [e1, e2, e3]
  have h0 := c_X7_goes sk (h := h) (mt := mt) (mo := mo) (md := md) (ms := ms) (mn := mn) (mi := mi) (mz := mz) (mk := mk) (mw := mw) (mf := mf) (mr := mr) (mb := mb) (mu := mu) (ty := ty) (li := li) (se := se) (fAt := fAt) (at_ := at_) (so := so) (sta := sta) (sz := sz) (fl := fl) (ru := ru) (iha := iha) (isn := isn) (c := c) (sand := sand) (s := s) hB.1 (show c < 6 by omega) (by rw [e1]; exact b1) (by rw [e2]; exact b2) (by rw [e3]; exact b3) ⟨hB.2.2.2.2.1, hB.2.2.2.1⟩ hB.2.2.2.2.2.1 hs0 (hB.2.2.1 (by omega)) eg
  rw [e1, e2, e3] at h0
  exact h0
set_option maxRecDepth 20000 in
theorem lp_wrongOf (sk : Nat → Nat) {h mt mo md ms mn mi mz mk mw mf mr mb mu : Nat} {ty se fAt at_ so sta sz fl : Int32} {iha isn : Bool} {T : Nat → Nat} {w a r : Nat → Nat} {n : Nat} {fw ff : Nat → Int32} {who fr : Nat → Nat} {s : PSt} {x : Int32} {Z : Int32} (hB : PB (T 0) (T 1) (T 4) (T 5) w a r) (hW : TWR T w a r) (hn : n ≤ 12) (hwho : ∀ i, i < n → fw i = nI (who i) ∧ who i < T 1) (hfr : ∀ i, i < n → ff i = nI (fr i) ∧ fr i ≤ 30) : ∀ (m i : Nat) (t : PSt) (ru : Int32), i + m = n → SB t.1 → wrongR (T 0) (T 4) (T 5) w a r who fr x m i t = Z → GG sk RX7 yX7_wrongOf cX7_wrongOf 3 (some .int) 2 0 0 (fun q w1 => q = some (.int (Z)) ∧ ∃ (ru2 : Int32) (fn2 : Nat → Int32), w1 = [oMod h mt ty mo md ms mn mi mz mk mw mf (nI n) se fAt at_ so sta sz fl iha isn ru2 mr mb mu, cI mo 56 (fI T), cI ms 32 (fS s), cI mn 32 fn2, cI mw 12 fw, cI mf 12 ff]) 0 0 6 [some (.ref h), some (.int x), some (.int (nI i))] [] [oMod h mt ty mo md ms mn mi mz mk mw mf (nI n) se fAt at_ so sta sz fl iha isn ru mr mb mu, cI mo 56 (fI T), cI ms 32 (fS s), cI mn 32 (fS t), cI mw 12 fw, cI mf 12 ff] := by
  intro m
  induction m with
  | zero =>
    intro i t ru hi ht0 hZ
    rw [wrongR] at hZ
    subst hZ
    refine g_iload_n dX7_wrongOf_6 rfl rfl ?_
    refine g_aload_n dX7_wrongOf_7 rfl rfl ?_
    refine g_get f_X7_151 dX7_wrongOf_8 rfl 0 rfl rfl ?_
    refine g_icmp_geN (t := 56) dX7_wrongOf_11 (by decide) rfl (by omega) (by omega) (fun h11 => ?_) (fun h11 => ?_)
    · skip
      refine g_iconst (v := -1) dX7_wrongOf_56 rfl (by decide) ?_
      exact g_iret dX7_wrongOf_57 rfl (Nat.le_refl _) (Nat.le_refl _) (⟨rfl, _, _, rfl⟩)
    · exact absurd h11 (by omega)
  | succ m ih =>
    intro i t ru hi ht0 hZ
    rw [wrongR] at hZ
    have hwi := hwho i (by omega)
    have hfi := hfr i (by omega)
    have hT0 := hB.1
    have hF1 : ∀ b, (far1 (T 0) w a b t (who i)) ≤ 30 := fun b => Nat.le_trans (far1_le _ _ _ _ _ _) hT0
    refine g_iload_n dX7_wrongOf_6 rfl rfl ?_
    refine g_aload_n dX7_wrongOf_7 rfl rfl ?_
    refine g_get f_X7_151 dX7_wrongOf_8 rfl 0 rfl rfl ?_
    refine g_icmp_geN (t := 56) dX7_wrongOf_11 (by decide) rfl (by omega) (by omega) (fun h11 => ?_) (fun h11 => ?_)
    · exact absurd h11 (by omega)
    · skip
      refine g_aload_n dX7_wrongOf_14 rfl rfl ?_
      refine g_aload_n dX7_wrongOf_15 rfl rfl ?_
      refine g_get f_X7_35 dX7_wrongOf_16 rfl 0 rfl rfl ?_
      refine g_iload_n dX7_wrongOf_19 rfl rfl ?_
      refine g_ialdN (v := nI (who i)) dX7_wrongOf_20 rfl 4 rfl (by omega) (by decide) (hwi.1) ?_
      refine g_aload_n dX7_wrongOf_21 rfl rfl ?_
      refine g_get f_X7_35 dX7_wrongOf_22 rfl 0 rfl rfl ?_
      refine g_iload_n dX7_wrongOf_25 rfl rfl ?_
      refine g_ialdN (v := nI (who i)) dX7_wrongOf_26 rfl 4 rfl (by omega) (by decide) (hwi.1) ?_
      refine g_iload_n dX7_wrongOf_27 rfl rfl ?_
      refine g_icmp_ne (t := 35) dX7_wrongOf_28 (by decide) rfl (fun h28 => ?_) (fun h28 => ?_)
      · rw [decide_eq_false h28] at hZ
        have hFl := hF1 false
        refine g_iconst (v := nI 0) dX7_wrongOf_35 rfl (by decide) ?_
        refine g_callV (c_goes sk (sand := false) hB hW hwi.2 ht0) m_X7_176 a_X7_goes dX7_wrongOf_36 rfl [0, 1, 3] rfl rfl 0 rfl rfl rfl (by decide) (by decide) (by decide) (by decide) (Nat.le_of_ble_eq_true rfl) (fun r w hK => ?_)
        obtain ⟨rfl, rfl⟩ := hK
        refine ⟨rfl, ?_⟩
        dsimp only [puts, List.set, Option.toList, List.cons_append, List.nil_append, List.append_nil]
        refine g_aload_n dX7_wrongOf_39 rfl rfl ?_
        refine g_get f_X7_38 dX7_wrongOf_40 rfl 0 rfl rfl ?_
        refine g_iload_n dX7_wrongOf_43 rfl rfl ?_
        refine g_ialdN (v := nI (fr i)) dX7_wrongOf_44 rfl 5 rfl (by omega) (by decide) (hfi.1) ?_
        refine g_icmp_eqN (t := 50) dX7_wrongOf_45 (by decide) rfl (by omega) (by omega) (fun h45 => ?_) (fun h45 => ?_)
        · rw [if_pos h45] at hZ
          refine g_iinc dX7_wrongOf_50 rfl rfl (nI_1 _) (by decide) rfl rfl ?_
          refine g_goto (q := 6) dX7_wrongOf_53 (by decide) ?_
          exact ih (i + 1) _ _ (by omega) (go1_SB ht0) hZ
        · rw [if_neg h45] at hZ
          subst hZ
          refine g_iload_n dX7_wrongOf_48 rfl rfl ?_
          exact g_iret dX7_wrongOf_49 rfl (Nat.le_refl _) (Nat.le_refl _) (⟨rfl, _, _, rfl⟩)
      · rw [decide_eq_true h28] at hZ
        have hFl := hF1 true
        refine g_iconst (v := nI 1) dX7_wrongOf_31 rfl (by decide) ?_
        refine g_goto (q := 36) dX7_wrongOf_32 (by decide) ?_
        refine g_callV (c_goes sk (sand := true) hB hW hwi.2 ht0) m_X7_176 a_X7_goes dX7_wrongOf_36 rfl [0, 1, 3] rfl rfl 0 rfl rfl rfl (by decide) (by decide) (by decide) (by decide) (Nat.le_of_ble_eq_true rfl) (fun r w hK => ?_)
        obtain ⟨rfl, rfl⟩ := hK
        refine ⟨rfl, ?_⟩
        dsimp only [puts, List.set, Option.toList, List.cons_append, List.nil_append, List.append_nil]
        refine g_aload_n dX7_wrongOf_39 rfl rfl ?_
        refine g_get f_X7_38 dX7_wrongOf_40 rfl 0 rfl rfl ?_
        refine g_iload_n dX7_wrongOf_43 rfl rfl ?_
        refine g_ialdN (v := nI (fr i)) dX7_wrongOf_44 rfl 5 rfl (by omega) (by decide) (hfi.1) ?_
        refine g_icmp_eqN (t := 50) dX7_wrongOf_45 (by decide) rfl (by omega) (by omega) (fun h45 => ?_) (fun h45 => ?_)
        · rw [if_pos h45] at hZ
          refine g_iinc dX7_wrongOf_50 rfl rfl (nI_1 _) (by decide) rfl rfl ?_
          refine g_goto (q := 6) dX7_wrongOf_53 (by decide) ?_
          exact ih (i + 1) _ _ (by omega) (go1_SB ht0) hZ
        · rw [if_neg h45] at hZ
          subst hZ
          refine g_iload_n dX7_wrongOf_48 rfl rfl ?_
          exact g_iret dX7_wrongOf_49 rfl (Nat.le_refl _) (Nat.le_refl _) (⟨rfl, _, _, rfl⟩)
set_option maxRecDepth 20000 in
theorem c_X7_wrongOf (sk : Nat → Nat) {h mt mo md ms mn mi mz mk mw mf mr mb mu : Nat} {ty se fAt at_ so sta sz fl ru : Int32} {iha isn : Bool} {T : Nat → Nat} {w a r : Nat → Nat} {n : Nat} {fw ff fn : Nat → Int32} {who fr : Nat → Nat} {s : PSt} {x : Int32} (hB : PB (T 0) (T 1) (T 4) (T 5) w a r) (hW : TWR T w a r) (hn : n ≤ 12) (hwho : ∀ i, i < n → fw i = nI (who i) ∧ who i < T 1) (hfr : ∀ i, i < n → ff i = nI (fr i) ∧ fr i ≤ 30) (hs0 : SB s.1) : Ct sk yX7_wrongOf cX7_wrongOf 3 (some .int) 2 0 0 [oMod h mt ty mo md ms mn mi mz mk mw mf (nI n) se fAt at_ so sta sz fl iha isn ru mr mb mu, cI mo 56 (fI T), cI ms 32 (fS s), cI mn 32 fn, cI mw 12 fw, cI mf 12 ff] [.ref h, .int x] ((fun q w1 => q = some (.int (wrongR (T 0) (T 4) (T 5) w a r who fr x n 0 s)) ∧ ∃ (ru2 : Int32) (fn2 : Nat → Int32), w1 = [oMod h mt ty mo md ms mn mi mz mk mw mf (nI n) se fAt at_ so sta sz fl iha isn ru2 mr mb mu, cI mo 56 (fI T), cI ms 32 (fS s), cI mn 32 fn2, cI mw 12 fw, cI mf 12 ff])) := by
  refine Ct.of (own := RX7) (l := [some (.ref h), some (.int x), none]) (by decide) rfl (Nat.le_of_ble_eq_true rfl) rfl ?_
  refine g_aload_n dX7_wrongOf_0 rfl rfl ?_
  refine g_callV (c_X7_lays sk) m_X7_172 a_X7_lays dX7_wrongOf_1 rfl [0, 2, 3] rfl rfl 0 rfl rfl rfl (by decide) (by decide) (by decide) (by decide) (Nat.le_of_ble_eq_true rfl) (fun r w hK => ?_)
  obtain ⟨rfl, rfl⟩ := hK
  refine ⟨rfl, ?_⟩
  dsimp only [puts, List.set, Option.toList, List.cons_append, List.nil_append, List.append_nil]
  refine g_iconst (v := nI 0) dX7_wrongOf_4 rfl (by decide) ?_
  refine g_istore_n dX7_wrongOf_5 rfl (by decide) rfl rfl ?_
  exact lp_wrongOf sk hB hW hn hwho hfr n 0 s ru (by omega) hs0 rfl
set_option maxRecDepth 20000 in
theorem c_X7_judge (sk : Nat → Nat) {h mt mo md ms mn mi mz mk mw mf mr mb mu : Nat} {ty se fAt at_ so sta sz fl ru : Int32} {iha isn : Bool} {T : Nat → Nat} {w a r : Nat → Nat} {n : Nat} {fw ff fn : Nat → Int32} {who fr : Nat → Nat} {s : PSt} (hB : PB (T 0) (T 1) (T 4) (T 5) w a r) (hW : TWR T w a r) (hn : n ≤ 12) (hwho : ∀ i, i < n → fw i = nI (who i) ∧ who i < T 1) (hfr : ∀ i, i < n → ff i = nI (fr i) ∧ fr i ≤ 30) (hs0 : SB s.1) : Ct sk yX7_judge cX7_judge 1 (some .int) 3 0 0 [oMod h mt ty mo md ms mn mi mz mk mw mf (nI n) se fAt at_ so sta sz fl iha isn ru mr mb mu, cI mo 56 (fI T), cI ms 32 (fS s), cI mn 32 fn, cI mw 12 fw, cI mf 12 ff] [.ref h] ((fun q w1 => q = some (.int (wrongR (T 0) (T 4) (T 5) w a r who fr (-1) n 0 s)) ∧ ∃ (ru2 : Int32) (fn2 : Nat → Int32), w1 = [oMod h mt ty mo md ms mn mi mz mk mw mf (nI n) se fAt at_ so sta sz fl iha isn ru2 mr mb mu, cI mo 56 (fI T), cI ms 32 (fS s), cI mn 32 fn2, cI mw 12 fw, cI mf 12 ff])) := by
  refine Ct.of (own := RX7) (l := [some (.ref h)]) (by decide) rfl (Nat.le_of_ble_eq_true rfl) rfl ?_
  refine g_aload_n dX7_judge_0 rfl rfl ?_
  refine g_iconst (v := -1) dX7_judge_1 rfl (by decide) ?_
  refine g_callV (c_X7_wrongOf sk hB hW hn hwho hfr hs0) m_X7_219 a_X7_wrongOf dX7_judge_2 rfl [0, 1, 2, 3, 4, 5] rfl rfl 0 rfl rfl rfl (by decide) (by decide) (by decide) (by decide) (Nat.le_of_ble_eq_true rfl) (fun r w hK => ?_)
  obtain ⟨rfl, ru2, fn2, rfl⟩ := hK
  refine ⟨rfl, ?_⟩
  dsimp only [puts, List.set, Option.toList, List.cons_append, List.nil_append, List.append_nil]
  exact g_iret dX7_judge_5 rfl (Nat.le_refl _) (Nat.le_refl _) (⟨rfl, _, _, rfl⟩)
set_option maxRecDepth 20000 in
theorem lp_msand (sk : Nat → Nat) {h mt mo md ms mn mi mz mk mw mf mr mb mu : Nat} {ty se fAt at_ so sta sz fl : Int32} {iha isn : Bool} {T : Nat → Nat} {w a r : Nat → Nat} {n : Nat} {fw ff : Nat → Int32} {who fr : Nat → Nat} {s : PSt} {Z : Int32} (hB : PB (T 0) (T 1) (T 4) (T 5) w a r) (hW : TWR T w a r) (hn : n ≤ 12) (hwho : ∀ i, i < n → fw i = nI (who i) ∧ who i < T 1) (hfr : ∀ i, i < n → ff i = nI (fr i) ∧ fr i ≤ 30) (hs0 : SB s.1) : ∀ (m c : Nat) (acc ru : Int32) (fn : Nat → Int32), c + m = T 1 → sandR (T 0) (T 4) (T 5) w a r who fr n s m c acc = Z → GG sk RX7 yX7_sand cX7_sand 3 (some .int) 3 0 0 (fun q w1 => q = some (.int (Z)) ∧ ∃ (ru2 : Int32) (fn2 : Nat → Int32), w1 = [oMod h mt ty mo md ms mn mi mz mk mw mf (nI n) se fAt at_ so sta sz fl iha isn ru2 mr mb mu, cI mo 56 (fI T), cI ms 32 (fS s), cI mn 32 fn2, cI mw 12 fw, cI mf 12 ff]) 0 0 4 [some (.ref h), some (.int acc), some (.int (nI c))] [] [oMod h mt ty mo md ms mn mi mz mk mw mf (nI n) se fAt at_ so sta sz fl iha isn ru mr mb mu, cI mo 56 (fI T), cI ms 32 (fS s), cI mn 32 fn, cI mw 12 fw, cI mf 12 ff] := by
  intro m
  induction m with
  | zero =>
    intro c acc ru fn hi hZ
    rw [sandR] at hZ
    subst hZ
    have hT1 := hB.2.1
    refine g_iload_n dX7_sand_4 rfl rfl ?_
    refine g_aload_n dX7_sand_5 rfl rfl ?_
    refine g_get f_X7_13 dX7_sand_6 rfl 0 rfl rfl ?_
    refine g_iconst (v := nI 1) dX7_sand_9 rfl (by decide) ?_
    refine g_ialdN (v := nI _) dX7_sand_10 rfl 1 rfl (by omega) (by decide) (rfl) ?_
    refine g_icmp_geN (t := 39) dX7_sand_11 (by decide) rfl (by omega) (by omega) (fun h11 => ?_) (fun h11 => ?_)
    · skip
      refine g_iload_n dX7_sand_39 rfl rfl ?_
      exact g_iret dX7_sand_40 rfl (Nat.le_refl _) (Nat.le_refl _) (⟨rfl, _, _, rfl⟩)
    · exact absurd h11 (by omega)
  | succ m ih =>
    intro c acc ru fn hi hZ
    rw [sandR] at hZ
    have hT1 := hB.2.1
    refine g_iload_n dX7_sand_4 rfl rfl ?_
    refine g_aload_n dX7_sand_5 rfl rfl ?_
    refine g_get f_X7_13 dX7_sand_6 rfl 0 rfl rfl ?_
    refine g_iconst (v := nI 1) dX7_sand_9 rfl (by decide) ?_
    refine g_ialdN (v := nI _) dX7_sand_10 rfl 1 rfl (by omega) (by decide) (rfl) ?_
    refine g_icmp_geN (t := 39) dX7_sand_11 (by decide) rfl (by omega) (by omega) (fun h11 => ?_) (fun h11 => ?_)
    · exact absurd h11 (by omega)
    · skip
      refine g_iload_n dX7_sand_14 rfl rfl ?_
      refine g_aload_n dX7_sand_15 rfl rfl ?_
      refine g_iload_n dX7_sand_16 rfl rfl ?_
      refine g_callV (c_X7_wrongOf sk hB hW hn hwho hfr hs0) m_X7_219 a_X7_wrongOf dX7_sand_17 rfl [0, 1, 2, 3, 4, 5] rfl rfl 0 rfl rfl rfl (by decide) (by decide) (by decide) (by decide) (Nat.le_of_ble_eq_true rfl) (fun r w hK => ?_)
      obtain ⟨rfl, ru2, fn2, rfl⟩ := hK
      refine ⟨rfl, ?_⟩
      dsimp only [puts, List.set, Option.toList, List.cons_append, List.nil_append, List.append_nil]
      refine g_iconst (v := -1) dX7_sand_20 rfl (by decide) ?_
      refine g_icmp_ne (t := 30) dX7_sand_21 (by decide) rfl (fun h21 => ?_) (fun h21 => ?_)
      · rw [if_neg h21] at hZ
        refine g_iconst (v := nI 0) dX7_sand_30 rfl (by decide) ?_
        refine g_ior dX7_sand_31 rfl (or0 acc) ?_
        refine g_istore_n dX7_sand_32 rfl (by decide) rfl rfl ?_
        refine g_iinc dX7_sand_33 rfl rfl (nI_1 _) (by decide) rfl rfl ?_
        refine g_goto (q := 4) dX7_sand_36 (by decide) ?_
        exact ih (c + 1) _ _ _ (by omega) hZ
      · rw [if_pos h21] at hZ
        refine g_iconst (v := nI 1) dX7_sand_24 rfl (by decide) ?_
        refine g_iload_n dX7_sand_25 rfl rfl ?_
        refine g_ishl dX7_sand_26 rfl rfl ?_
        refine g_goto (q := 31) dX7_sand_27 (by decide) ?_
        refine g_ior dX7_sand_31 rfl rfl ?_
        refine g_istore_n dX7_sand_32 rfl (by decide) rfl rfl ?_
        refine g_iinc dX7_sand_33 rfl rfl (nI_1 _) (by decide) rfl rfl ?_
        refine g_goto (q := 4) dX7_sand_36 (by decide) ?_
        exact ih (c + 1) _ _ _ (by omega) hZ
set_option maxRecDepth 20000 in
theorem c_X7_sand (sk : Nat → Nat) {h mt mo md ms mn mi mz mk mw mf mr mb mu : Nat} {ty se fAt at_ so sta sz fl ru : Int32} {iha isn : Bool} {T : Nat → Nat} {w a r : Nat → Nat} {n : Nat} {fw ff fn : Nat → Int32} {who fr : Nat → Nat} {s : PSt} (hB : PB (T 0) (T 1) (T 4) (T 5) w a r) (hW : TWR T w a r) (hn : n ≤ 12) (hwho : ∀ i, i < n → fw i = nI (who i) ∧ who i < T 1) (hfr : ∀ i, i < n → ff i = nI (fr i) ∧ fr i ≤ 30) (hs0 : SB s.1) : Ct sk yX7_sand cX7_sand 3 (some .int) 3 0 0 [oMod h mt ty mo md ms mn mi mz mk mw mf (nI n) se fAt at_ so sta sz fl iha isn ru mr mb mu, cI mo 56 (fI T), cI ms 32 (fS s), cI mn 32 fn, cI mw 12 fw, cI mf 12 ff] [.ref h] ((fun q w1 => q = some (.int (sandR (T 0) (T 4) (T 5) w a r who fr n s (T 1) 0 (nI 0))) ∧ ∃ (ru2 : Int32) (fn2 : Nat → Int32), w1 = [oMod h mt ty mo md ms mn mi mz mk mw mf (nI n) se fAt at_ so sta sz fl iha isn ru2 mr mb mu, cI mo 56 (fI T), cI ms 32 (fS s), cI mn 32 fn2, cI mw 12 fw, cI mf 12 ff])) := by
  refine Ct.of (own := RX7) (l := [some (.ref h), none, none]) (by decide) rfl (Nat.le_of_ble_eq_true rfl) rfl ?_
  refine g_iconst (v := nI 0) dX7_sand_0 rfl (by decide) ?_
  refine g_istore_n dX7_sand_1 rfl (by decide) rfl rfl ?_
  refine g_iconst (v := nI 0) dX7_sand_2 rfl (by decide) ?_
  refine g_istore_n dX7_sand_3 rfl (by decide) rfl rfl ?_
  exact lp_msand sk hB hW hn hwho hfr hs0 (T 1) 0 _ _ _ (by omega) rfl
